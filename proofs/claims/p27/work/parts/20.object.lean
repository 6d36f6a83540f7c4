-- ===== the whole object =====
abbrev SD : Type := Wd × (Nat → Option Nat) × (Nat → Int32) × (Nat → Wd)
abbrev HD : Type := Nat × Nat × (Nat → Option Nat) × (Nat → Wd) × (Nat → Nat → Option Nat) × (Nat → Nat → Int32) × (Nat → Nat → Wd)
abbrev OD : Type := SD × HD × (Nat × (Nat → Int32)) × Yd
def obF (a : Nat) : List Value := [.ref (a + 1), .ref (a + 2), .ref (a + 44), .ref (a + 46), .ref (a + 48)]
def HsD (G : xG) (t : xA) (own : Nat → Nat) (h : Nat) (H : HD) : Prop := HsOk G t own h H.1 H.2.1 H.2.2.1 H.2.2.2.1 H.2.2.2.2.1 H.2.2.2.2.2.1 H.2.2.2.2.2.2
def StD (G : xG) (t : xA) (own : Nat → Nat) (τ σ : Nat) (S : SD) : Prop := St1 G t own τ σ S.1 S.2.1 S.2.2.1 S.2.2.2
def TxT (G : xG) (t : xA) (own : Nat → Nat) (a : Nat) (T : Nat × (Nat → Int32)) : Prop := TxOk G t (a + 46) T.1 T.2 ∧ own (a + 46) = 5 ∧ own (a + 47) = 5
def YxT (G : xG) (t : xA) (own : Nat → Nat) (a : Nat) (Y : Yd) : Prop := (∀ k, k < 5 → t.1 (a + 48 + k) = some (yCell G (a + 2) (a + 48) Y k)) ∧ ∀ k, k < 5 → own (a + 48 + k) = 6
def Ob (G : xG) (t : xA) (own : Nat → Nat) (a : Nat) (D : OD) : Prop := (t.1 a = some (eO 9 (obF a)) ∧ own a = 4 ∧ a + 53 ≤ t.2.1) ∧ StD G t own 10 (a + 1) D.1 ∧ HsD G t own (a + 44) D.2.1 ∧ TxT G t own a D.2.2.1 ∧ YxT G t own a D.2.2.2
/-- what was kept of the present state -/
def KeptH (H : HD) (S : SD) (H' : HD) : Prop := ∃ (σ : Nat) (W1 : Wd) (rw1 : Nat → Option Nat) (fl1 : Nat → Int32) (Wr1 : Nat → Wd), H' = ((H.1 + 1) % 5, min (H.2.1 + 1) 5, va_up H.2.2.1 ((H.1 + 1) % 5) (some σ), upW H.2.2.2.1 ((H.1 + 1) % 5) W1, upW H.2.2.2.2.1 ((H.1 + 1) % 5) rw1, upW H.2.2.2.2.2.1 ((H.1 + 1) % 5) fl1, upW H.2.2.2.2.2.2 ((H.1 + 1) % 5) Wr1) ∧ wEq W1 S.1 ∧ ∀ i, i < 2 → fl1 i = S.2.2.1 i ∧ (S.2.2.1 i = 1 → wEq (Wr1 i) (S.2.2.2 i))
/-- the tag of what is the model's: 3 -/
abbrev clsT : Nat → Prop := fun a => a ≠ 3
section OBJ
variable {G : xG} {t t1 : xA} {own own1 : Nat → Nat} {T : Nat → Prop} {c m a : Nat} {D : OD}
theorem Did.mono {T' : Nat → Prop} {c' m' : Nat} (h : Did t t1 own own1 T c m) (hT : ∀ q, T q → T' q) (hc : c ≤ c') (hm : m ≤ m') : Did t t1 own own1 T' c' m' := by
  obtain ⟨h1, h2, h3, h4, h5, h6⟩ := h
  exact ⟨fun q hq hn => h1 q hq (fun z => hn (hT _ z)), h2, h3, by omega, h5, by omega⟩
theorem Did.at (h : Did t t1 own own1 T c m) {q τ : Nat} (hq : q < t.2.1) (ho : own q = τ) (hT : ¬ T τ) : t1.1 q = t.1 q := h.1 q hq (by rw [ho]; exact hT)
theorem Did.hs {H : HD} {h : Nat} (hd : Did t t1 own own1 T c m) (hT : ¬ T 2 ∧ ∀ j, j < 5 → ¬ T (tgR j) ∧ ¬ T (tgR j + 1) ∧ ¬ T (tgR j + 2)) (hs : HsD G t own h H) : HsD G t1 own1 h H := by
  obtain ⟨⟨a1, a2⟩, ⟨b1, b2, b3⟩, hb, hc⟩ := hs
  exact ⟨⟨(hd.at (by omega) b1 hT.1).trans a1, (hd.at (by omega) b2 hT.1).trans a2⟩, ⟨(hd.2.1 _ (by omega)).trans b1, (hd.2.1 _ (by omega)).trans b2, Nat.le_trans b3 hd.2.2.1⟩, hb, fun j hj σ hr => hd.st (hT.2 j hj) (hc j hj σ hr)⟩
theorem Did.tx {X : Nat × (Nat → Int32)} (hd : Did t t1 own own1 T c m) (hT : ¬ T 5) (hz : a + 53 ≤ t.2.1) (hs : TxT G t own a X) : TxT G t1 own1 a X := by
  obtain ⟨⟨⟨a1, a2⟩, a3⟩, b1, b2⟩ := hs
  exact ⟨⟨⟨(hd.at (by omega) b1 hT).trans a1, (hd.at (by omega) b2 hT).trans a2⟩, a3⟩, (hd.2.1 _ (by omega)).trans b1, (hd.2.1 _ (by omega)).trans b2⟩
theorem Did.yx {Y : Yd} (hd : Did t t1 own own1 T c m) (hT : ¬ T 6) (hz : a + 53 ≤ t.2.1) (hs : YxT G t own a Y) : YxT G t1 own1 a Y :=
  ⟨fun k hk => (hd.at (by omega) (hs.2 k hk) hT).trans (hs.1 k hk), fun k hk => (hd.2.1 _ (by omega)).trans (hs.2 k hk)⟩
theorem Did.ob (hd : Did t t1 own own1 T c m) (hT : ¬ T 4) (hz : t.1 a = some (eO 9 (obF a)) ∧ own a = 4 ∧ a + 53 ≤ t.2.1) : t1.1 a = some (eO 9 (obF a)) ∧ own1 a = 4 ∧ a + 53 ≤ t1.2.1 :=
  ⟨(hd.at (by omega) hz.2.1 hT).trans hz.1, (hd.2.1 _ (by omega)).trans hz.2.1, Nat.le_trans hz.2.2 hd.2.2.1⟩
/-- something else was changed -/
theorem Ob.kept (h : Ob G t own a D) (hd : Did t t1 own own1 T c m) (hT : ∀ q, T q → q = 3) : Ob G t1 own1 a D := by
  have no : ∀ q, q ≠ 3 → ¬ T q := fun q hq z => hq (hT q z)
  exact ⟨hd.ob (no _ (by decide)) h.1, hd.st ⟨no _ (by decide), no _ (by decide), no _ (by decide)⟩ h.2.1, hd.hs ⟨no _ (by decide), fun j _ => ⟨no _ (by unfold tgR; omega), no _ (by unfold tgR; omega), no _ (by unfold tgR; omega)⟩⟩ h.2.2.1, hd.tx (no _ (by decide)) h.1.2.2 h.2.2.2.1, hd.yx (no _ (by decide)) h.1.2.2 h.2.2.2.2⟩
theorem Ob.W (h : Ob G t own a D) : isW G t (a + 2) D.1.1 := h.2.1.1.2.1
theorem Ob.hT (h : Ob G t own a D) : hT D.1.1 := h.2.1.2.2.2.1.1
theorem Ob.hK (h : Ob G t own a D) : hK D.1.1 := h.2.1.2.2.2.1.2.1
theorem Ob.iOk (h : Ob G t own a D) : iOk D.1.1 := h.2.1.2.2.2.1.2.2
/-- the world's value is another one -/
theorem setW_did {w : Nat} {W : Wd} (ho : ∀ k, k < 40 → own (w + k) = 10) : Did t (setW G t w W) own own (fun q => q = 10) 0 0 :=
  ⟨fun q hq hn => setW_out (by
    by_cases h : w ≤ q ∧ q < w + 40
    · have := ho (q - w) (by omega)
      rw [show w + (q - w) = q by omega] at this
      exact absurd this hn
    · omega), fun _ _ => rfl, Nat.le_refl _, Nat.le_refl _, Nat.le_refl _, Nat.le_refl _⟩
theorem Ob.own10 (h : Ob G t own a D) : ∀ k, k < 40 → own (a + 2 + k) = 10 := fun k hk => by
  have := h.2.1.2.1 (1 + k) (by omega)
  rw [show a + 1 + (1 + k) = a + 2 + k by omega] at this
  exact this
theorem Ob.setW {W' : Wd} (h : Ob G t own a D) (hg : wGood W') : Ob G (setW G t (a + 2) W') own a ((W', D.1.2), D.2) ∧ Did t (setW G t (a + 2) W') own own (fun q => q = 10) 0 0 := by
  have hd : Did t (Jvm.Pilot.CRelayParcelsLaw_law_r9431_5a56c4.setW G t (a + 2) W') own own (fun q => q = 10) 0 0 := setW_did h.own10
  refine ⟨⟨hd.ob (by decide) h.1, ?_, hd.hs ⟨by decide, fun j _ => ⟨by unfold tgR; omega, by unfold tgR; omega, by unfold tgR; omega⟩⟩ h.2.2.1, hd.tx (by decide) h.1.2.2 h.2.2.2.1, hd.yx (by decide) h.1.2.2 h.2.2.2.2⟩, hd⟩
  obtain ⟨⟨c0, c1, c2, c3⟩, h1, h2, h3, h4⟩ := h.2.1
  refine ⟨⟨(setW_out (by omega)).trans c0, isW_set, (setW_out (by omega)).trans c2, (setW_out (by omega)).trans c3⟩, h1, h2, hg, fun i hi => ⟨(h4 i hi).1, (h4 i hi).2.1, fun r hr => ?_⟩⟩
  obtain ⟨p1, p2, p3, p4⟩ := (h4 i hi).2.2 r hr
  exact ⟨isW_kept p1 (fun k hk => hd.at (by omega) (p2 k hk) (by omega)), p2, p3, p4⟩
theorem keep_Ob (h : Ob G t own a D) : xMe G MX0_keep [.ref (a + 44), .ref (a + 1)] t (fun r t1 => r = none ∧ ∃ (own1 : Nat → Nat) (H1 : HD), Ob G t1 own1 a (D.1, H1, D.2.2) ∧ KeptH D.2.1 D.1 H1 ∧ Did t t1 own own1 clsT 123 2437) := by
  refine (c_keep h.2.2.1 h.2.1).mono (fun r t1 q => ?_)
  obtain ⟨q0, own1, σ, W1, rw1, fl1, Wr1, q1, q2, q3, q4⟩ := q
  refine ⟨q0, own1, ((D.2.1.1 + 1) % 5, min (D.2.1.2.1 + 1) 5, va_up D.2.1.2.2.1 ((D.2.1.1 + 1) % 5) (some σ), upW D.2.1.2.2.2.1 ((D.2.1.1 + 1) % 5) W1, upW D.2.1.2.2.2.2.1 ((D.2.1.1 + 1) % 5) rw1, upW D.2.1.2.2.2.2.2.1 ((D.2.1.1 + 1) % 5) fl1, upW D.2.1.2.2.2.2.2.2 ((D.2.1.1 + 1) % 5) Wr1), ⟨q4.ob (by unfold tg3 tgR; omega) h.1, q4.st (by unfold tg3 tgR; omega) h.2.1, q1, q4.tx (by unfold tg3 tgR; omega) h.1.2.2 h.2.2.2.1, q4.yx (by unfold tg3 tgR; omega) h.1.2.2 h.2.2.2.2⟩, ⟨σ, W1, rw1, fl1, Wr1, rfl, q2, q3⟩, q4.mono (fun q hq => by unfold tg3 tgR at hq; show q ≠ 3; omega) (Nat.le_refl _) (Nat.le_refl _)⟩
end OBJ
/-- the answer of a call that changed the world -/
def MuQ (G : xG) (t : xA) (own : Nat → Nat) (a : Nat) (D : OD) (v : Int32) (W' : Wd) : Option Value → xA → Prop := fun r t1 => r = some (.int v) ∧ ∃ (own1 : Nat → Nat) (H1 : HD), Ob G t1 own1 a ((W', D.1.2), H1, D.2.2) ∧ KeptH D.2.1 D.1 H1 ∧ Did t t1 own own1 clsT 123 2437
/-- a call that changed nothing -/
abbrev nuQ (t : xA) (v : Int32) : Option Value → xA → Prop := fun r t1 => r = some (.int v) ∧ t1 = t
theorem MuQ.mk {G : xG} {t t1 : xA} {own own1 : Nat → Nat} {a : Nat} {D : OD} {v : Int32} {W' : Wd} {H1 : HD} (q1 : Ob G t1 own1 a (D.1, H1, D.2.2)) (q2 : KeptH D.2.1 D.1 H1) (q3 : Did t t1 own own1 clsT 123 2437) (hg : wGood W') : MuQ G t own a D v W' (some (.int v)) (setW G t1 (a + 2) W') :=
  ⟨rfl, own1, H1, (q1.setW hg).1, q2, q3.tr (q1.setW hg).2 (fun _ h => h) (fun q h => by show q ≠ 3; omega) (by omega) (by omega)⟩

theorem c_offerF {G : xG} {t : xA} {own : Nat → Nat} {a : Nat} {D : OD} (h : Ob G t own a D) {p x y i l f : Int32} (hF : sOfF D.1.1 p x y i l f < 0) : xMe G MX9_offer [.ref a, .int (p), .int (x), .int (y), .int (i), .int (l), .int (f)] t (nuQ t (sOfF D.1.1 p x y i l f)) := by
  refine x_aload_n (k := 0) rfl rfl ?_
  refine x_get (k := 1) rfl flRX9_20 h.1.1 rfl ?_
  refine x_iload_n (k := 2) rfl rfl ?_
  refine x_iload_n (k := 3) rfl rfl ?_
  refine x_iload_n (k := 4) rfl rfl ?_
  refine x_iload (k := 5) rfl rfl ?_
  refine x_iload (k := 6) rfl rfl ?_
  refine x_iload (k := 7) rfl rfl ?_
  refine x_cVI (ci := 8) (k := 8) rfl (by rfl) (wI_lk h.W (c_offerFault h.hT _ _ _ _ _ _)) okX8_offerFault viX8_offerFault mlRX9_44 ⟨Nat.le_of_ble_eq_true rfl, Nat.le_of_ble_eq_true rfl⟩ (by exact Nat.le_of_ble_eq_true rfl) rfl rfl (isW_0 h.W) (by exact Nat.le_of_ble_eq_true rfl) ?_
  refine x_istore (k := 9) rfl (by decide) ?_
  refine x_iload (k := 10) rfl rfl ?_
  refine x_if_ge (tgt := 26) (k := 11) rfl (by decide) (fun c20 => absurd hF (Int32.not_lt.mpr c20)) (fun c20 => ?_)
  refine x_iload (k := 12) rfl rfl ?_
  exact x_irD (k := 13) rfl rfl rfl rfl
theorem c_offer {G : xG} {t : xA} {own : Nat → Nat} {a : Nat} {D : OD} (h : Ob G t own a D) {p x y i l f : Int32} (h16 : cT D.1.1 < 16) (hF : ¬ sOfF D.1.1 p x y i l f < 0) (hg : wGood (sAddT D.1.1 p x y i l f)) : xMe G MX9_offer [.ref a, .int (p), .int (x), .int (y), .int (i), .int (l), .int (f)] t (MuQ G t own a D (D.1.1 3 0 4) (sAddT D.1.1 p x y i l f)) := by
  refine x_aload_n (k := 0) rfl rfl ?_
  refine x_get (k := 1) rfl flRX9_20 h.1.1 rfl ?_
  refine x_iload_n (k := 2) rfl rfl ?_
  refine x_iload_n (k := 3) rfl rfl ?_
  refine x_iload_n (k := 4) rfl rfl ?_
  refine x_iload (k := 5) rfl rfl ?_
  refine x_iload (k := 6) rfl rfl ?_
  refine x_iload (k := 7) rfl rfl ?_
  refine x_cVI (ci := 8) (k := 8) rfl (by rfl) (wI_lk h.W (c_offerFault h.hT _ _ _ _ _ _)) okX8_offerFault viX8_offerFault mlRX9_44 ⟨Nat.le_of_ble_eq_true rfl, Nat.le_of_ble_eq_true rfl⟩ (by exact Nat.le_of_ble_eq_true rfl) rfl rfl (isW_0 h.W) (by exact Nat.le_of_ble_eq_true rfl) ?_
  refine x_istore (k := 9) rfl (by decide) ?_
  refine x_iload (k := 10) rfl rfl ?_
  refine x_if_ge (tgt := 26) (k := 11) rfl (by decide) (fun c20 => ?_) (fun c20 => absurd (Int32.not_lt.mp hF) c20)
  refine x_aload_n (k := 14) rfl rfl ?_
  refine x_get (k := 15) rfl flRX9_24 h.1.1 rfl ?_
  refine x_aload_n (k := 16) rfl rfl ?_
  refine x_get (k := 17) rfl flRX9_10 h.1.1 rfl ?_
  refine x_cX (ci := 0) (k := 18) rfl (by rfl) (keep_Ob h) okX0_keep viX0_keep mlRX9_50 ⟨Nat.le_of_ble_eq_true rfl, Nat.le_of_ble_eq_true rfl⟩ (by exact Nat.le_of_ble_eq_true rfl) rfl rfl h.2.2.1.1.1 (by exact Nat.le_of_ble_eq_true rfl) ?_
  intro r t1 h1
  obtain ⟨rfl, own1, H1, q1, q2, q3⟩ := h1
  refine x_aload_n (k := 19) rfl rfl ?_
  refine x_get (k := 20) rfl flRX9_20 q1.1.1 rfl ?_
  refine x_iload_n (k := 21) rfl rfl ?_
  refine x_iload_n (k := 22) rfl rfl ?_
  refine x_iload_n (k := 23) rfl rfl ?_
  refine x_iload (k := 24) rfl rfl ?_
  refine x_iload (k := 25) rfl rfl ?_
  refine x_iload (k := 26) rfl rfl ?_
  refine x_cVI (ci := 8) (k := 27) rfl (by rfl) (wI_at q1.W (c_addTrip q1.hT h16 _ _ _ _ _ _)) okX8_addTrip viX8_addTrip mlRX9_54 ⟨Nat.le_of_ble_eq_true rfl, Nat.le_of_ble_eq_true rfl⟩ (by exact Nat.le_of_ble_eq_true rfl) rfl rfl (isW_0 q1.W) (by exact Nat.le_of_ble_eq_true rfl) ?_
  exact x_iret (k := 28) rfl rfl rfl (MuQ.mk q1 q2 q3 hg)
theorem c_takeBackF {G : xG} {t : xA} {own : Nat → Nat} {a : Nat} {D : OD} (h : Ob G t own a D) {p : Int32} (hF : sTbF D.1.1 p < 0) : xMe G MX9_takeBack [.ref a, .int (p)] t (nuQ t (sTbF D.1.1 p)) := by
  refine x_aload_n (k := 0) rfl rfl ?_
  refine x_get (k := 1) rfl flRX9_20 h.1.1 rfl ?_
  refine x_iload_n (k := 2) rfl rfl ?_
  refine x_cVI (ci := 8) (k := 3) rfl (by rfl) (wI_lk h.W (c_takeBackFault h.hT _)) okX8_takeBackFault viX8_takeBackFault mlRX9_57 ⟨Nat.le_of_ble_eq_true rfl, Nat.le_of_ble_eq_true rfl⟩ (by exact Nat.le_of_ble_eq_true rfl) rfl rfl (isW_0 h.W) (by exact Nat.le_of_ble_eq_true rfl) ?_
  refine x_istore_n (k := 4) rfl (by decide) ?_
  refine x_iload_n (k := 5) rfl rfl ?_
  refine x_if_ge (tgt := 15) (k := 6) rfl (by decide) (fun c10 => absurd hF (Int32.not_lt.mpr c10)) (fun c10 => ?_)
  refine x_iload_n (k := 7) rfl rfl ?_
  exact x_irD (k := 8) rfl rfl rfl rfl
theorem c_takeBack {G : xG} {t : xA} {own : Nat → Nat} {a : Nat} {D : OD} (h : Ob G t own a D) {n : Nat} (hn : n < 16) (hF : ¬ sTbF D.1.1 (nI n) < 0) (hg : wGood (wSet D.1.1 1 n 6 3)) : xMe G MX9_takeBack [.ref a, .int (nI n)] t (MuQ G t own a D (D.1.1 1 n 3) (wSet D.1.1 1 n 6 3)) := by
  refine x_aload_n (k := 0) rfl rfl ?_
  refine x_get (k := 1) rfl flRX9_20 h.1.1 rfl ?_
  refine x_iload_n (k := 2) rfl rfl ?_
  refine x_cVI (ci := 8) (k := 3) rfl (by rfl) (wI_lk h.W (c_takeBackFault h.hT _)) okX8_takeBackFault viX8_takeBackFault mlRX9_57 ⟨Nat.le_of_ble_eq_true rfl, Nat.le_of_ble_eq_true rfl⟩ (by exact Nat.le_of_ble_eq_true rfl) rfl rfl (isW_0 h.W) (by exact Nat.le_of_ble_eq_true rfl) ?_
  refine x_istore_n (k := 4) rfl (by decide) ?_
  refine x_iload_n (k := 5) rfl rfl ?_
  refine x_if_ge (tgt := 15) (k := 6) rfl (by decide) (fun c10 => ?_) (fun c10 => absurd (Int32.not_lt.mp hF) c10)
  refine x_aload_n (k := 9) rfl rfl ?_
  refine x_get (k := 10) rfl flRX9_24 h.1.1 rfl ?_
  refine x_aload_n (k := 11) rfl rfl ?_
  refine x_get (k := 12) rfl flRX9_10 h.1.1 rfl ?_
  refine x_cX (ci := 0) (k := 13) rfl (by rfl) (keep_Ob h) okX0_keep viX0_keep mlRX9_50 ⟨Nat.le_of_ble_eq_true rfl, Nat.le_of_ble_eq_true rfl⟩ (by exact Nat.le_of_ble_eq_true rfl) rfl rfl h.2.2.1.1.1 (by exact Nat.le_of_ble_eq_true rfl) ?_
  intro r t1 h1
  obtain ⟨rfl, own1, H1, q1, q2, q3⟩ := h1
  refine x_aload_n (k := 14) rfl rfl ?_
  refine x_get (k := 15) rfl flRX9_20 q1.1.1 rfl ?_
  refine x_iload_n (k := 16) rfl rfl ?_
  refine x_cVI (ci := 8) (k := 17) rfl (by rfl) (wI_at q1.W (c_voidTrip hn)) okX8_voidTrip viX8_voidTrip mlRX9_61 ⟨Nat.le_of_ble_eq_true rfl, Nat.le_of_ble_eq_true rfl⟩ (by exact Nat.le_of_ble_eq_true rfl) rfl rfl (isW_0 q1.W) (by exact Nat.le_of_ble_eq_true rfl) ?_
  exact x_iret (k := 18) rfl rfl rfl (MuQ.mk q1 q2 q3 hg)
theorem c_postF {G : xG} {t : xA} {own : Nat → Nat} {a : Nat} {D : OD} (h : Ob G t own a D) {p x y z u : Int32} (hF : sPoF D.1.1 p x y z u < 0) : xMe G MX9_post [.ref a, .int (p), .int (x), .int (y), .int (z), .int (u)] t (nuQ t (sPoF D.1.1 p x y z u)) := by
  refine x_aload_n (k := 0) rfl rfl ?_
  refine x_get (k := 1) rfl flRX9_20 h.1.1 rfl ?_
  refine x_iload_n (k := 2) rfl rfl ?_
  refine x_iload_n (k := 3) rfl rfl ?_
  refine x_iload_n (k := 4) rfl rfl ?_
  refine x_iload (k := 5) rfl rfl ?_
  refine x_iload (k := 6) rfl rfl ?_
  refine x_cVI (ci := 8) (k := 7) rfl (by rfl) (wI_lk h.W (c_postFault h.hK _ _ _ _ _)) okX8_postFault viX8_postFault mlRX9_64 ⟨Nat.le_of_ble_eq_true rfl, Nat.le_of_ble_eq_true rfl⟩ (by exact Nat.le_of_ble_eq_true rfl) rfl rfl (isW_0 h.W) (by exact Nat.le_of_ble_eq_true rfl) ?_
  refine x_istore (k := 8) rfl (by decide) ?_
  refine x_iload (k := 9) rfl rfl ?_
  refine x_if_ge (tgt := 24) (k := 10) rfl (by decide) (fun c18 => absurd hF (Int32.not_lt.mpr c18)) (fun c18 => ?_)
  refine x_iload (k := 11) rfl rfl ?_
  exact x_irD (k := 12) rfl rfl rfl rfl
theorem c_post {G : xG} {t : xA} {own : Nat → Nat} {a : Nat} {D : OD} (h : Ob G t own a D) {p q : Nat} {b c v : Int32} (hp : p < 8) (hq : q < 4) (h10 : cK D.1.1 < 10) (hF : ¬ sPoF D.1.1 (nI p) b c v (nI q) < 0) (hg : wGood (sAddK D.1.1 (nI p) b c v (nI q))) : xMe G MX9_post [.ref a, .int (nI p), .int (b), .int (c), .int (v), .int (nI q)] t (MuQ G t own a D (D.1.1 3 0 5) (sAddK D.1.1 (nI p) b c v (nI q))) := by
  refine x_aload_n (k := 0) rfl rfl ?_
  refine x_get (k := 1) rfl flRX9_20 h.1.1 rfl ?_
  refine x_iload_n (k := 2) rfl rfl ?_
  refine x_iload_n (k := 3) rfl rfl ?_
  refine x_iload_n (k := 4) rfl rfl ?_
  refine x_iload (k := 5) rfl rfl ?_
  refine x_iload (k := 6) rfl rfl ?_
  refine x_cVI (ci := 8) (k := 7) rfl (by rfl) (wI_lk h.W (c_postFault h.hK _ _ _ _ _)) okX8_postFault viX8_postFault mlRX9_64 ⟨Nat.le_of_ble_eq_true rfl, Nat.le_of_ble_eq_true rfl⟩ (by exact Nat.le_of_ble_eq_true rfl) rfl rfl (isW_0 h.W) (by exact Nat.le_of_ble_eq_true rfl) ?_
  refine x_istore (k := 8) rfl (by decide) ?_
  refine x_iload (k := 9) rfl rfl ?_
  refine x_if_ge (tgt := 24) (k := 10) rfl (by decide) (fun c18 => ?_) (fun c18 => absurd (Int32.not_lt.mp hF) c18)
  refine x_aload_n (k := 13) rfl rfl ?_
  refine x_get (k := 14) rfl flRX9_24 h.1.1 rfl ?_
  refine x_aload_n (k := 15) rfl rfl ?_
  refine x_get (k := 16) rfl flRX9_10 h.1.1 rfl ?_
  refine x_cX (ci := 0) (k := 17) rfl (by rfl) (keep_Ob h) okX0_keep viX0_keep mlRX9_50 ⟨Nat.le_of_ble_eq_true rfl, Nat.le_of_ble_eq_true rfl⟩ (by exact Nat.le_of_ble_eq_true rfl) rfl rfl h.2.2.1.1.1 (by exact Nat.le_of_ble_eq_true rfl) ?_
  intro r t1 h1
  obtain ⟨rfl, own1, H1, q1, q2, q3⟩ := h1
  refine x_aload_n (k := 18) rfl rfl ?_
  refine x_get (k := 19) rfl flRX9_20 q1.1.1 rfl ?_
  refine x_iload_n (k := 20) rfl rfl ?_
  refine x_iload_n (k := 21) rfl rfl ?_
  refine x_iload_n (k := 22) rfl rfl ?_
  refine x_iload (k := 23) rfl rfl ?_
  refine x_iload (k := 24) rfl rfl ?_
  refine x_cVI (ci := 8) (k := 25) rfl (by rfl) (wI_at q1.W (c_addParcel q1.hK h10 q1.iOk hp hq _ _ _)) okX8_addParcel viX8_addParcel mlRX9_68 ⟨Nat.le_of_ble_eq_true rfl, Nat.le_of_ble_eq_true rfl⟩ (by exact Nat.le_of_ble_eq_true rfl) rfl rfl (isW_0 q1.W) (by exact Nat.le_of_ble_eq_true rfl) ?_
  exact x_iret (k := 26) rfl rfl rfl (MuQ.mk q1 q2 q3 hg)
theorem c_passF {G : xG} {t : xA} {own : Nat → Nat} {a : Nat} {D : OD} (h : Ob G t own a D) {p : Int32} (hF : sPaF D.1.1 p < 0) : xMe G MX9_pass [.ref a, .int (p)] t (nuQ t (sPaF D.1.1 p)) := by
  refine x_aload_n (k := 0) rfl rfl ?_
  refine x_get (k := 1) rfl flRX9_20 h.1.1 rfl ?_
  refine x_iload_n (k := 2) rfl rfl ?_
  refine x_cVI (ci := 8) (k := 3) rfl (by rfl) (wI_lk h.W (c_passFault _)) okX8_passFault viX8_passFault mlRX9_71 ⟨Nat.le_of_ble_eq_true rfl, Nat.le_of_ble_eq_true rfl⟩ (by exact Nat.le_of_ble_eq_true rfl) rfl rfl (isW_0 h.W) (by exact Nat.le_of_ble_eq_true rfl) ?_
  refine x_istore_n (k := 4) rfl (by decide) ?_
  refine x_iload_n (k := 5) rfl rfl ?_
  refine x_if_ge (tgt := 15) (k := 6) rfl (by decide) (fun c10 => absurd hF (Int32.not_lt.mpr c10)) (fun c10 => ?_)
  refine x_iload_n (k := 7) rfl rfl ?_
  exact x_irD (k := 8) rfl rfl rfl rfl
theorem c_pass {G : xG} {t : xA} {own : Nat → Nat} {a : Nat} {D : OD} (h : Ob G t own a D) {n : Nat} (hn : n < 1000) (htr : ∀ t, t < cT D.1.1 → isP (D.1.1 1 t 0)) (hF : ¬ sPaF D.1.1 (nI n) < 0) (hg : wGood (paTo D.1.1 n)) : xMe G MX9_pass [.ref a, .int (nI n)] t (MuQ G t own a D (pcTo D.1.1 n) (paTo D.1.1 n)) := by
  refine x_aload_n (k := 0) rfl rfl ?_
  refine x_get (k := 1) rfl flRX9_20 h.1.1 rfl ?_
  refine x_iload_n (k := 2) rfl rfl ?_
  refine x_cVI (ci := 8) (k := 3) rfl (by rfl) (wI_lk h.W (c_passFault _)) okX8_passFault viX8_passFault mlRX9_71 ⟨Nat.le_of_ble_eq_true rfl, Nat.le_of_ble_eq_true rfl⟩ (by exact Nat.le_of_ble_eq_true rfl) rfl rfl (isW_0 h.W) (by exact Nat.le_of_ble_eq_true rfl) ?_
  refine x_istore_n (k := 4) rfl (by decide) ?_
  refine x_iload_n (k := 5) rfl rfl ?_
  refine x_if_ge (tgt := 15) (k := 6) rfl (by decide) (fun c10 => ?_) (fun c10 => absurd (Int32.not_lt.mp hF) c10)
  refine x_aload_n (k := 9) rfl rfl ?_
  refine x_get (k := 10) rfl flRX9_24 h.1.1 rfl ?_
  refine x_aload_n (k := 11) rfl rfl ?_
  refine x_get (k := 12) rfl flRX9_10 h.1.1 rfl ?_
  refine x_cX (ci := 0) (k := 13) rfl (by rfl) (keep_Ob h) okX0_keep viX0_keep mlRX9_50 ⟨Nat.le_of_ble_eq_true rfl, Nat.le_of_ble_eq_true rfl⟩ (by exact Nat.le_of_ble_eq_true rfl) rfl rfl h.2.2.1.1.1 (by exact Nat.le_of_ble_eq_true rfl) ?_
  intro r t1 h1
  obtain ⟨rfl, own1, H1, q1, q2, q3⟩ := h1
  refine x_aload_n (k := 14) rfl rfl ?_
  refine x_get (k := 15) rfl flRX9_20 q1.1.1 rfl ?_
  refine x_iload_n (k := 16) rfl rfl ?_
  refine x_cVI (ci := 8) (k := 17) rfl (by rfl) (wI_at q1.W (c_passHours hn q1.hT htr)) okX8_passHours viX8_passHours mlRX9_74 ⟨Nat.le_of_ble_eq_true rfl, Nat.le_of_ble_eq_true rfl⟩ (by exact Nat.le_of_ble_eq_true rfl) rfl rfl (isW_0 q1.W) (by exact Nat.le_of_ble_eq_true rfl) ?_
  exact x_iret (k := 18) rfl rfl rfl (MuQ.mk q1 q2 q3 hg)
theorem c_gaveF {G : xG} {t : xA} {own : Nat → Nat} {a : Nat} {D : OD} (h : Ob G t own a D) {p x y : Int32} (hF : sHoF D.1.1 p x y < 0) : xMe G MX9_gave [.ref a, .int (p), .int (x), .int (y)] t (nuQ t (sHoF D.1.1 p x y)) := by
  refine x_aload_n (k := 0) rfl rfl ?_
  refine x_get (k := 1) rfl flRX9_20 h.1.1 rfl ?_
  refine x_iload_n (k := 2) rfl rfl ?_
  refine x_iload_n (k := 3) rfl rfl ?_
  refine x_iload_n (k := 4) rfl rfl ?_
  refine x_cVI (ci := 8) (k := 5) rfl (by rfl) (wI_lk h.W (c_handoverFault h.hK _ _ _)) okX8_handoverFault viX8_handoverFault mlRX9_77 ⟨Nat.le_of_ble_eq_true rfl, Nat.le_of_ble_eq_true rfl⟩ (by exact Nat.le_of_ble_eq_true rfl) rfl rfl (isW_0 h.W) (by exact Nat.le_of_ble_eq_true rfl) ?_
  refine x_istore (k := 6) rfl (by decide) ?_
  refine x_iload (k := 7) rfl rfl ?_
  refine x_if_ge (tgt := 20) (k := 8) rfl (by decide) (fun c14 => absurd hF (Int32.not_lt.mpr c14)) (fun c14 => ?_)
  refine x_iload (k := 9) rfl rfl ?_
  exact x_irD (k := 10) rfl rfl rfl rfl
theorem c_gave {G : xG} {t : xA} {own : Nat → Nat} {a : Nat} {D : OD} (h : Ob G t own a D) {k p q b : Nat} (hk : k < 10) (hp : p < 8) (hb : b < 8) (eb : D.1.1 2 k 0 = nI b) (hF : ¬ sHoF D.1.1 (nI q) (nI k) (nI p) < 0) (hg : wGood (sGav D.1.1 k (nI p))) : xMe G MX9_gave [.ref a, .int (nI q), .int (nI k), .int (nI p)] t (MuQ G t own a D (bz (fit (wSet D.1.1 2 k 8 (nI p)) k)) (sGav D.1.1 k (nI p))) := by
  refine x_aload_n (k := 0) rfl rfl ?_
  refine x_get (k := 1) rfl flRX9_20 h.1.1 rfl ?_
  refine x_iload_n (k := 2) rfl rfl ?_
  refine x_iload_n (k := 3) rfl rfl ?_
  refine x_iload_n (k := 4) rfl rfl ?_
  refine x_cVI (ci := 8) (k := 5) rfl (by rfl) (wI_lk h.W (c_handoverFault h.hK _ _ _)) okX8_handoverFault viX8_handoverFault mlRX9_77 ⟨Nat.le_of_ble_eq_true rfl, Nat.le_of_ble_eq_true rfl⟩ (by exact Nat.le_of_ble_eq_true rfl) rfl rfl (isW_0 h.W) (by exact Nat.le_of_ble_eq_true rfl) ?_
  refine x_istore (k := 6) rfl (by decide) ?_
  refine x_iload (k := 7) rfl rfl ?_
  refine x_if_ge (tgt := 20) (k := 8) rfl (by decide) (fun c14 => ?_) (fun c14 => absurd (Int32.not_lt.mp hF) c14)
  refine x_aload_n (k := 11) rfl rfl ?_
  refine x_get (k := 12) rfl flRX9_24 h.1.1 rfl ?_
  refine x_aload_n (k := 13) rfl rfl ?_
  refine x_get (k := 14) rfl flRX9_10 h.1.1 rfl ?_
  refine x_cX (ci := 0) (k := 15) rfl (by rfl) (keep_Ob h) okX0_keep viX0_keep mlRX9_50 ⟨Nat.le_of_ble_eq_true rfl, Nat.le_of_ble_eq_true rfl⟩ (by exact Nat.le_of_ble_eq_true rfl) rfl rfl h.2.2.1.1.1 (by exact Nat.le_of_ble_eq_true rfl) ?_
  intro r t1 h1
  obtain ⟨rfl, own1, H1, q1, q2, q3⟩ := h1
  refine x_aload_n (k := 16) rfl rfl ?_
  refine x_get (k := 17) rfl flRX9_20 q1.1.1 rfl ?_
  refine x_iload_n (k := 18) rfl rfl ?_
  refine x_iload_n (k := 19) rfl rfl ?_
  refine x_cVI (ci := 8) (k := 20) rfl (by rfl) (wI_at q1.W (c_sayGiven hk hp hb eb q1.hT q1.iOk)) okX8_sayGiven viX8_sayGiven mlRX9_81 ⟨Nat.le_of_ble_eq_true rfl, Nat.le_of_ble_eq_true rfl⟩ (by exact Nat.le_of_ble_eq_true rfl) rfl rfl (isW_0 q1.W) (by exact Nat.le_of_ble_eq_true rfl) ?_
  exact x_iret (k := 21) rfl rfl rfl (MuQ.mk q1 q2 q3 hg)
theorem c_tookF {G : xG} {t : xA} {own : Nat → Nat} {a : Nat} {D : OD} (h : Ob G t own a D) {p x y : Int32} (hF : sHoF D.1.1 y x p < 0) : xMe G MX9_took [.ref a, .int (p), .int (x), .int (y)] t (nuQ t (sHoF D.1.1 y x p)) := by
  refine x_aload_n (k := 0) rfl rfl ?_
  refine x_get (k := 1) rfl flRX9_20 h.1.1 rfl ?_
  refine x_iload_n (k := 2) rfl rfl ?_
  refine x_iload_n (k := 3) rfl rfl ?_
  refine x_iload_n (k := 4) rfl rfl ?_
  refine x_cVI (ci := 8) (k := 5) rfl (by rfl) (wI_lk h.W (c_handoverFault h.hK _ _ _)) okX8_handoverFault viX8_handoverFault mlRX9_77 ⟨Nat.le_of_ble_eq_true rfl, Nat.le_of_ble_eq_true rfl⟩ (by exact Nat.le_of_ble_eq_true rfl) rfl rfl (isW_0 h.W) (by exact Nat.le_of_ble_eq_true rfl) ?_
  refine x_istore (k := 6) rfl (by decide) ?_
  refine x_iload (k := 7) rfl rfl ?_
  refine x_if_ge (tgt := 20) (k := 8) rfl (by decide) (fun c14 => absurd hF (Int32.not_lt.mpr c14)) (fun c14 => ?_)
  refine x_iload (k := 9) rfl rfl ?_
  exact x_irD (k := 10) rfl rfl rfl rfl
theorem c_took {G : xG} {t : xA} {own : Nat → Nat} {a : Nat} {D : OD} (h : Ob G t own a D) {k p q b : Nat} (hk : k < 10) (hp : p < 8) (hb : b < 8) (eb : D.1.1 2 k 0 = nI b) (hF : ¬ sHoF D.1.1 (nI q) (nI k) (nI p) < 0) (hg : wGood (sTok D.1.1 k (nI p))) : xMe G MX9_took [.ref a, .int (nI p), .int (nI k), .int (nI q)] t (MuQ G t own a D (bz (fit (wSet D.1.1 2 k 9 (nI p)) k)) (sTok D.1.1 k (nI p))) := by
  refine x_aload_n (k := 0) rfl rfl ?_
  refine x_get (k := 1) rfl flRX9_20 h.1.1 rfl ?_
  refine x_iload_n (k := 2) rfl rfl ?_
  refine x_iload_n (k := 3) rfl rfl ?_
  refine x_iload_n (k := 4) rfl rfl ?_
  refine x_cVI (ci := 8) (k := 5) rfl (by rfl) (wI_lk h.W (c_handoverFault h.hK _ _ _)) okX8_handoverFault viX8_handoverFault mlRX9_77 ⟨Nat.le_of_ble_eq_true rfl, Nat.le_of_ble_eq_true rfl⟩ (by exact Nat.le_of_ble_eq_true rfl) rfl rfl (isW_0 h.W) (by exact Nat.le_of_ble_eq_true rfl) ?_
  refine x_istore (k := 6) rfl (by decide) ?_
  refine x_iload (k := 7) rfl rfl ?_
  refine x_if_ge (tgt := 20) (k := 8) rfl (by decide) (fun c14 => ?_) (fun c14 => absurd (Int32.not_lt.mp hF) c14)
  refine x_aload_n (k := 11) rfl rfl ?_
  refine x_get (k := 12) rfl flRX9_24 h.1.1 rfl ?_
  refine x_aload_n (k := 13) rfl rfl ?_
  refine x_get (k := 14) rfl flRX9_10 h.1.1 rfl ?_
  refine x_cX (ci := 0) (k := 15) rfl (by rfl) (keep_Ob h) okX0_keep viX0_keep mlRX9_50 ⟨Nat.le_of_ble_eq_true rfl, Nat.le_of_ble_eq_true rfl⟩ (by exact Nat.le_of_ble_eq_true rfl) rfl rfl h.2.2.1.1.1 (by exact Nat.le_of_ble_eq_true rfl) ?_
  intro r t1 h1
  obtain ⟨rfl, own1, H1, q1, q2, q3⟩ := h1
  refine x_aload_n (k := 16) rfl rfl ?_
  refine x_get (k := 17) rfl flRX9_20 q1.1.1 rfl ?_
  refine x_iload_n (k := 18) rfl rfl ?_
  refine x_iload_n (k := 19) rfl rfl ?_
  refine x_cVI (ci := 8) (k := 20) rfl (by rfl) (wI_at q1.W (c_sayTaken hk hp hb eb q1.hT q1.iOk)) okX8_sayTaken viX8_sayTaken mlRX9_85 ⟨Nat.le_of_ble_eq_true rfl, Nat.le_of_ble_eq_true rfl⟩ (by exact Nat.le_of_ble_eq_true rfl) rfl rfl (isW_0 q1.W) (by exact Nat.le_of_ble_eq_true rfl) ?_
  exact x_iret (k := 21) rfl rfl rfl (MuQ.mk q1 q2 q3 hg)
theorem c_putInF {G : xG} {t : xA} {own : Nat → Nat} {a : Nat} {D : OD} (h : Ob G t own a D) {p x : Int32} (hF : sPuF D.1.1 p x < 0) : xMe G MX9_putIn [.ref a, .int (p), .int (x)] t (nuQ t (sPuF D.1.1 p x)) := by
  refine x_aload_n (k := 0) rfl rfl ?_
  refine x_get (k := 1) rfl flRX9_20 h.1.1 rfl ?_
  refine x_iload_n (k := 2) rfl rfl ?_
  refine x_iload_n (k := 3) rfl rfl ?_
  refine x_cVI (ci := 8) (k := 4) rfl (by rfl) (wI_lk h.W (c_putInFault h.hK _ _)) okX8_putInFault viX8_putInFault mlRX9_88 ⟨Nat.le_of_ble_eq_true rfl, Nat.le_of_ble_eq_true rfl⟩ (by exact Nat.le_of_ble_eq_true rfl) rfl rfl (isW_0 h.W) (by exact Nat.le_of_ble_eq_true rfl) ?_
  refine x_istore_n (k := 5) rfl (by decide) ?_
  refine x_iload_n (k := 6) rfl rfl ?_
  refine x_if_ge (tgt := 16) (k := 7) rfl (by decide) (fun c11 => absurd hF (Int32.not_lt.mpr c11)) (fun c11 => ?_)
  refine x_iload_n (k := 8) rfl rfl ?_
  exact x_irD (k := 9) rfl rfl rfl rfl
theorem c_putIn {G : xG} {t : xA} {own : Nat → Nat} {a : Nat} {D : OD} (h : Ob G t own a D) {k p : Nat} (hk : k < 10) (hp : p < 8) (hF : ¬ sPuF D.1.1 (nI p) (nI k) < 0) (hg : wGood (sPut D.1.1 p k)) : xMe G MX9_putIn [.ref a, .int (nI p), .int (nI k)] t (MuQ G t own a D (sHeld (sPut D.1.1 p k) (10 + D.1.1 0 p 2)) (sPut D.1.1 p k)) := by
  refine x_aload_n (k := 0) rfl rfl ?_
  refine x_get (k := 1) rfl flRX9_20 h.1.1 rfl ?_
  refine x_iload_n (k := 2) rfl rfl ?_
  refine x_iload_n (k := 3) rfl rfl ?_
  refine x_cVI (ci := 8) (k := 4) rfl (by rfl) (wI_lk h.W (c_putInFault h.hK _ _)) okX8_putInFault viX8_putInFault mlRX9_88 ⟨Nat.le_of_ble_eq_true rfl, Nat.le_of_ble_eq_true rfl⟩ (by exact Nat.le_of_ble_eq_true rfl) rfl rfl (isW_0 h.W) (by exact Nat.le_of_ble_eq_true rfl) ?_
  refine x_istore_n (k := 5) rfl (by decide) ?_
  refine x_iload_n (k := 6) rfl rfl ?_
  refine x_if_ge (tgt := 16) (k := 7) rfl (by decide) (fun c11 => ?_) (fun c11 => absurd (Int32.not_lt.mp hF) c11)
  refine x_aload_n (k := 10) rfl rfl ?_
  refine x_get (k := 11) rfl flRX9_24 h.1.1 rfl ?_
  refine x_aload_n (k := 12) rfl rfl ?_
  refine x_get (k := 13) rfl flRX9_10 h.1.1 rfl ?_
  refine x_cX (ci := 0) (k := 14) rfl (by rfl) (keep_Ob h) okX0_keep viX0_keep mlRX9_50 ⟨Nat.le_of_ble_eq_true rfl, Nat.le_of_ble_eq_true rfl⟩ (by exact Nat.le_of_ble_eq_true rfl) rfl rfl h.2.2.1.1.1 (by exact Nat.le_of_ble_eq_true rfl) ?_
  intro r t1 h1
  obtain ⟨rfl, own1, H1, q1, q2, q3⟩ := h1
  refine x_aload_n (k := 15) rfl rfl ?_
  refine x_get (k := 16) rfl flRX9_20 q1.1.1 rfl ?_
  refine x_iload_n (k := 17) rfl rfl ?_
  refine x_iload_n (k := 18) rfl rfl ?_
  refine x_cVI (ci := 8) (k := 19) rfl (by rfl) (wI_at q1.W (c_putIntoLocker hk hp q1.iOk q1.hK)) okX8_putIntoLocker viX8_putIntoLocker mlRX9_91 ⟨Nat.le_of_ble_eq_true rfl, Nat.le_of_ble_eq_true rfl⟩ (by exact Nat.le_of_ble_eq_true rfl) rfl rfl (isW_0 q1.W) (by exact Nat.le_of_ble_eq_true rfl) ?_
  exact x_iret (k := 20) rfl rfl rfl (MuQ.mk q1 q2 q3 hg)
theorem c_fetchF {G : xG} {t : xA} {own : Nat → Nat} {a : Nat} {D : OD} (h : Ob G t own a D) {p x : Int32} (hF : sFeF D.1.1 p x < 0) : xMe G MX9_fetch [.ref a, .int (p), .int (x)] t (nuQ t (sFeF D.1.1 p x)) := by
  refine x_aload_n (k := 0) rfl rfl ?_
  refine x_get (k := 1) rfl flRX9_20 h.1.1 rfl ?_
  refine x_iload_n (k := 2) rfl rfl ?_
  refine x_iload_n (k := 3) rfl rfl ?_
  refine x_cVI (ci := 8) (k := 4) rfl (by rfl) (wI_lk h.W (c_fetchFault h.hK _ _)) okX8_fetchFault viX8_fetchFault mlRX9_94 ⟨Nat.le_of_ble_eq_true rfl, Nat.le_of_ble_eq_true rfl⟩ (by exact Nat.le_of_ble_eq_true rfl) rfl rfl (isW_0 h.W) (by exact Nat.le_of_ble_eq_true rfl) ?_
  refine x_istore_n (k := 5) rfl (by decide) ?_
  refine x_iload_n (k := 6) rfl rfl ?_
  refine x_if_ge (tgt := 16) (k := 7) rfl (by decide) (fun c11 => absurd hF (Int32.not_lt.mpr c11)) (fun c11 => ?_)
  refine x_iload_n (k := 8) rfl rfl ?_
  exact x_irD (k := 9) rfl rfl rfl rfl
theorem c_fetch {G : xG} {t : xA} {own : Nat → Nat} {a : Nat} {D : OD} (h : Ob G t own a D) {k p b : Nat} (hk : k < 10) (hp : p < 8) (hb : b < 8) (eb : D.1.1 2 k 0 = nI b) (hF : ¬ sFeF D.1.1 (nI p) (nI k) < 0) (hg : wGood (sFet D.1.1 p k)) : xMe G MX9_fetch [.ref a, .int (nI p), .int (nI k)] t (MuQ G t own a D (sHeld (sFet D.1.1 p k) (10 + sFet D.1.1 p k 0 p 2)) (sFet D.1.1 p k)) := by
  refine x_aload_n (k := 0) rfl rfl ?_
  refine x_get (k := 1) rfl flRX9_20 h.1.1 rfl ?_
  refine x_iload_n (k := 2) rfl rfl ?_
  refine x_iload_n (k := 3) rfl rfl ?_
  refine x_cVI (ci := 8) (k := 4) rfl (by rfl) (wI_lk h.W (c_fetchFault h.hK _ _)) okX8_fetchFault viX8_fetchFault mlRX9_94 ⟨Nat.le_of_ble_eq_true rfl, Nat.le_of_ble_eq_true rfl⟩ (by exact Nat.le_of_ble_eq_true rfl) rfl rfl (isW_0 h.W) (by exact Nat.le_of_ble_eq_true rfl) ?_
  refine x_istore_n (k := 5) rfl (by decide) ?_
  refine x_iload_n (k := 6) rfl rfl ?_
  refine x_if_ge (tgt := 16) (k := 7) rfl (by decide) (fun c11 => ?_) (fun c11 => absurd (Int32.not_lt.mp hF) c11)
  refine x_aload_n (k := 10) rfl rfl ?_
  refine x_get (k := 11) rfl flRX9_24 h.1.1 rfl ?_
  refine x_aload_n (k := 12) rfl rfl ?_
  refine x_get (k := 13) rfl flRX9_10 h.1.1 rfl ?_
  refine x_cX (ci := 0) (k := 14) rfl (by rfl) (keep_Ob h) okX0_keep viX0_keep mlRX9_50 ⟨Nat.le_of_ble_eq_true rfl, Nat.le_of_ble_eq_true rfl⟩ (by exact Nat.le_of_ble_eq_true rfl) rfl rfl h.2.2.1.1.1 (by exact Nat.le_of_ble_eq_true rfl) ?_
  intro r t1 h1
  obtain ⟨rfl, own1, H1, q1, q2, q3⟩ := h1
  refine x_aload_n (k := 15) rfl rfl ?_
  refine x_get (k := 16) rfl flRX9_20 q1.1.1 rfl ?_
  refine x_iload_n (k := 17) rfl rfl ?_
  refine x_iload_n (k := 18) rfl rfl ?_
  refine x_cVI (ci := 8) (k := 19) rfl (by rfl) (wI_at q1.W (c_fetchFromLocker hk hp hb eb q1.hT q1.iOk q1.hK)) okX8_fetchFromLocker viX8_fetchFromLocker mlRX9_97 ⟨Nat.le_of_ble_eq_true rfl, Nat.le_of_ble_eq_true rfl⟩ (by exact Nat.le_of_ble_eq_true rfl) rfl rfl (isW_0 q1.W) (by exact Nat.le_of_ble_eq_true rfl) ?_
  exact x_iret (k := 20) rfl rfl rfl (MuQ.mk q1 q2 q3 hg)
theorem c_claimF {G : xG} {t : xA} {own : Nat → Nat} {a : Nat} {D : OD} (h : Ob G t own a D) {p : Int32} (hF : sClF D.1.1 p < 0) : xMe G MX9_claim [.ref a, .int (p)] t (nuQ t (sClF D.1.1 p)) := by
  refine x_aload_n (k := 0) rfl rfl ?_
  refine x_get (k := 1) rfl flRX9_20 h.1.1 rfl ?_
  refine x_iload_n (k := 2) rfl rfl ?_
  refine x_cVI (ci := 8) (k := 3) rfl (by rfl) (wI_lk h.W (c_claimFault h.hK _)) okX8_claimFault viX8_claimFault mlRX9_100 ⟨Nat.le_of_ble_eq_true rfl, Nat.le_of_ble_eq_true rfl⟩ (by exact Nat.le_of_ble_eq_true rfl) rfl rfl (isW_0 h.W) (by exact Nat.le_of_ble_eq_true rfl) ?_
  refine x_istore_n (k := 4) rfl (by decide) ?_
  refine x_iload_n (k := 5) rfl rfl ?_
  refine x_if_ge (tgt := 15) (k := 6) rfl (by decide) (fun c10 => absurd hF (Int32.not_lt.mpr c10)) (fun c10 => ?_)
  refine x_iload_n (k := 7) rfl rfl ?_
  exact x_irD (k := 8) rfl rfl rfl rfl
theorem c_claim {G : xG} {t : xA} {own : Nat → Nat} {a : Nat} {D : OD} (h : Ob G t own a D) {k b : Nat} (hk : k < 10) (ht : ∃ q : Nat, q < 4 ∧ D.1.1 2 k 4 = nI q) (hh : D.1.1 2 k 6 < 10 → isP (D.1.1 2 k 6)) (hw : ¬ D.1.1 2 k 8 = -9 → isP (D.1.1 2 k 8)) (hb : b < 8) (eb : D.1.1 2 k 0 = nI b) (hF : ¬ sClF D.1.1 (nI k) < 0) (hg : wGood (sLos D.1.1 k)) : xMe G MX9_claim [.ref a, .int (nI k)] t (MuQ G t own a D (sFund D.1.1 k + sHoP D.1.1 k + sNaP D.1.1 k) (sLos D.1.1 k)) := by
  refine x_aload_n (k := 0) rfl rfl ?_
  refine x_get (k := 1) rfl flRX9_20 h.1.1 rfl ?_
  refine x_iload_n (k := 2) rfl rfl ?_
  refine x_cVI (ci := 8) (k := 3) rfl (by rfl) (wI_lk h.W (c_claimFault h.hK _)) okX8_claimFault viX8_claimFault mlRX9_100 ⟨Nat.le_of_ble_eq_true rfl, Nat.le_of_ble_eq_true rfl⟩ (by exact Nat.le_of_ble_eq_true rfl) rfl rfl (isW_0 h.W) (by exact Nat.le_of_ble_eq_true rfl) ?_
  refine x_istore_n (k := 4) rfl (by decide) ?_
  refine x_iload_n (k := 5) rfl rfl ?_
  refine x_if_ge (tgt := 15) (k := 6) rfl (by decide) (fun c10 => ?_) (fun c10 => absurd (Int32.not_lt.mp hF) c10)
  refine x_aload_n (k := 9) rfl rfl ?_
  refine x_get (k := 10) rfl flRX9_24 h.1.1 rfl ?_
  refine x_aload_n (k := 11) rfl rfl ?_
  refine x_get (k := 12) rfl flRX9_10 h.1.1 rfl ?_
  refine x_cX (ci := 0) (k := 13) rfl (by rfl) (keep_Ob h) okX0_keep viX0_keep mlRX9_50 ⟨Nat.le_of_ble_eq_true rfl, Nat.le_of_ble_eq_true rfl⟩ (by exact Nat.le_of_ble_eq_true rfl) rfl rfl h.2.2.1.1.1 (by exact Nat.le_of_ble_eq_true rfl) ?_
  intro r t1 h1
  obtain ⟨rfl, own1, H1, q1, q2, q3⟩ := h1
  refine x_aload_n (k := 14) rfl rfl ?_
  refine x_get (k := 15) rfl flRX9_20 q1.1.1 rfl ?_
  refine x_iload_n (k := 16) rfl rfl ?_
  refine x_cVI (ci := 8) (k := 17) rfl (by rfl) (wI_at q1.W (c_loseParcel hk ht hh hw hb eb)) okX8_loseParcel viX8_loseParcel mlRX9_103 ⟨Nat.le_of_ble_eq_true rfl, Nat.le_of_ble_eq_true rfl⟩ (by exact Nat.le_of_ble_eq_true rfl) rfl rfl (isW_0 q1.W) (by exact Nat.le_of_ble_eq_true rfl) ?_
  exact x_iret (k := 18) rfl rfl rfl (MuQ.mk q1 q2 q3 hg)
