-- ===== what is told is the same on a copy =====
/-- two worlds alike in what is in use, but for the lists -/
def SF (nt nk : Nat) (R V : Wd) : Prop := (∀ k, k < 6 → R 3 0 k = V 3 0 k) ∧ (∀ i k, i < 8 → k < 5 → R 0 i k = V 0 i k) ∧ (∀ i k, i < nt → k < 7 → R 1 i k = V 1 i k) ∧ (∀ i k, i < nk → k < 10 → R 2 i k = V 2 i k)
theorem bz_iff {p q : Prop} [Decidable p] [Decidable q] (h : p ↔ q) : bz p = bz q := by
  unfold bz
  by_cases z : p
  · rw [if_pos z, if_pos (h.mp z)]
  · rw [if_neg z, if_neg (fun y => z (h.mpr y))]
section SAME
variable {hr f nt nk : Nat} {R V : Wd}
theorem SF.set {a i j : Nat} {v : Int32} (h : SF nt nk R V) : SF nt nk (wSet R a i j v) (wSet V a i j v) := by
  obtain ⟨h3, h0, h1, h2⟩ := h
  refine ⟨fun k hk => ?_, fun i' k hi hk => ?_, fun i' k hi hk => ?_, fun i' k hi hk => ?_⟩ <;> rw [wSet_r, wSet_r]
  · rw [h3 k hk]
  · rw [h0 i' k hi hk]
  · rw [h1 i' k hi hk]
  · rw [h2 i' k hi hk]
theorem wEq.sf (h : wEq R V) (hG : Gd hr f nt nk V) : SF nt nk R V := by
  obtain ⟨h3, h0, h1, h2, -, -⟩ := h.rows hG.cT hG.cK
  exact ⟨h3, h0, h1, h2⟩
theorem SF.cT (h : SF nt nk R V) : cT R = cT V := by unfold Jvm.Pilot.CRelayParcelsLaw_law_r9431_5a56c4.cT; rw [h.1 4 (by decide)]
theorem SF.cK (h : SF nt nk R V) : cK R = cK V := by unfold Jvm.Pilot.CRelayParcelsLaw_law_r9431_5a56c4.cK; rw [h.1 5 (by decide)]
theorem SF.hb {x : Int32} (h : SF nt nk R V) : ∀ n, n ≤ nk → hbTo R x n = hbTo V x n
  | 0, _ => rfl
  | n + 1, hn => by
    rw [hbTo, hbTo, SF.hb h n (by omega), h.2.2.2 n 5 (by omega) (by decide), h.2.2.2 n 6 (by omega) (by decide)]
theorem SF.held {x : Int32} (h : SF nt nk R V) (hc : Jvm.Pilot.CRelayParcelsLaw_law_r9431_5a56c4.cK V = nk) : sHeld R x = sHeld V x := by
  rw [sHeld, sHeld, h.cK, hc, h.hb nk (Nat.le_refl _)]
theorem SF.ov {p lv ar : Int32} (h : SF nt nk R V) : ∀ n, n ≤ nt → ovTo R p lv ar n = ovTo V p lv ar n
  | 0, _ => rfl
  | n + 1, hn => by
    have e := fun j hj => h.2.2.1 n j (by omega) hj
    simp only [ovTo, SF.ov h n (by omega), opn, ovl, e 0 (by decide), e 6 (by decide), e 3 (by decide), e 4 (by decide)]
theorem SF.tc {z : Int32} (h : SF nt nk R V) : ∀ n, n ≤ nt → tcTo R z n = tcTo V z n
  | 0, _ => rfl
  | n + 1, hn => by rw [tcTo, tcTo, SF.tc h n (by omega), h.2.2.1 n 6 (by omega) (by decide)]
theorem SF.kc {z : Int32} (h : SF nt nk R V) : ∀ n, n ≤ nk → kcTo R z n = kcTo V z n
  | 0, _ => rfl
  | n + 1, hn => by rw [kcTo, kcTo, SF.kc h n (by omega), h.2.2.2 n 5 (by omega) (by decide)]
theorem SF.cc (h : SF nt nk R V) : ∀ n, n ≤ 8 → ccTo R n = ccTo V n
  | 0, _ => rfl
  | n + 1, hn => by rw [ccTo, ccTo, SF.cc h n (by omega), h.2.1 n 0 (by omega) (by decide), h.2.1 n 1 (by omega) (by decide)]
theorem SF.num {q : Nat} (h : SF nt nk R V) (hG : Gd hr f nt nk V) : sNum R q = sNum V q := by
  have c1 := h.cT
  have c2 := h.cK
  have d1 := hG.cT
  have d2 := hG.cK
  unfold sNum
  match q with
  | 0 => exact h.1 0 (by decide)
  | 1 => exact h.1 4 (by decide)
  | 2 => exact (by rw [c1, d1, h.tc nt (Nat.le_refl _)] : tcTo R 0 (Jvm.Pilot.CRelayParcelsLaw_law_r9431_5a56c4.cT R) = tcTo V 0 (Jvm.Pilot.CRelayParcelsLaw_law_r9431_5a56c4.cT V))
  | 3 => exact (by rw [c1, d1, h.tc nt (Nat.le_refl _)] : tcTo R 1 (Jvm.Pilot.CRelayParcelsLaw_law_r9431_5a56c4.cT R) = tcTo V 1 (Jvm.Pilot.CRelayParcelsLaw_law_r9431_5a56c4.cT V))
  | 4 => exact (by rw [c1, d1, h.tc nt (Nat.le_refl _)] : tcTo R 2 (Jvm.Pilot.CRelayParcelsLaw_law_r9431_5a56c4.cT R) = tcTo V 2 (Jvm.Pilot.CRelayParcelsLaw_law_r9431_5a56c4.cT V))
  | 5 => exact h.1 5 (by decide)
  | 6 => exact (by rw [c2, d2, h.kc nk (Nat.le_refl _)] : kcTo R 0 (Jvm.Pilot.CRelayParcelsLaw_law_r9431_5a56c4.cK R) = kcTo V 0 (Jvm.Pilot.CRelayParcelsLaw_law_r9431_5a56c4.cK V))
  | 7 => exact (by rw [c2, d2, h.kc nk (Nat.le_refl _)] : kcTo R 1 (Jvm.Pilot.CRelayParcelsLaw_law_r9431_5a56c4.cK R) = kcTo V 1 (Jvm.Pilot.CRelayParcelsLaw_law_r9431_5a56c4.cK V))
  | 8 => exact (by rw [c2, d2, h.kc nk (Nat.le_refl _)] : kcTo R 2 (Jvm.Pilot.CRelayParcelsLaw_law_r9431_5a56c4.cK R) = kcTo V 2 (Jvm.Pilot.CRelayParcelsLaw_law_r9431_5a56c4.cK V))
  | 9 => exact h.1 1 (by decide)
  | 10 => exact h.cc 8 (Nat.le_refl _)
  | 11 => exact h.1 2 (by decide)
  | _ + 12 => exact h.1 3 (by decide)
theorem SF.per {p q : Nat} (h : SF nt nk R V) (hG : Gd hr f nt nk V) (hp : p < 8) : sPer R p q = sPer V p q := by
  unfold sPer
  match q with
  | 0 => exact h.2.1 p 0 hp (by decide)
  | 1 => exact h.2.1 p 1 hp (by decide)
  | 2 => exact h.2.1 p 2 hp (by decide)
  | 3 => exact h.2.1 p 3 hp (by decide)
  | 4 => exact h.held hG.cK
  | _ + 5 => exact h.2.1 p 4 hp (by decide)
theorem SF.town {x : Int32} (h : SF nt nk R V) (hx : isHo x) : sTown R x = sTown V x := by
  unfold sTown
  split
  · rename_i hl
    obtain ⟨p, hp, rfl⟩ := ho_10 hx hl
    rw [ixP hp]
    exact h.2.1 p 2 hp (by decide)
  · rfl
theorem SF.par {k q : Nat} (h : SF nt nk R V) (hG : Gd hr f nt nk V) (hk : k < nk) (hq : q < 11) : sPar R k q = sPar V k q := by
  have e := fun j hj => h.2.2.2 k j hk hj
  by_cases z : q = 10
  · subst z
    show (if R 2 k 5 = 0 then sTown R (R 2 k 6) else -9) = (if V 2 k 5 = 0 then sTown V (V 2 k 6) else -9)
    rw [e 5 (by decide), e 6 (by decide), h.town (hG.2.2.2.1 k hk).2.1]
  · have a : ∀ W : Wd, sPar W k q = W 2 k q := fun W => by
      rcases (by omega : q = 0 ∨ q = 1 ∨ q = 2 ∨ q = 3 ∨ q = 4 ∨ q = 5 ∨ q = 6 ∨ q = 7 ∨ q = 8 ∨ q = 9) with rfl | rfl | rfl | rfl | rfl | rfl | rfl | rfl | rfl | rfl <;> rfl
    rw [a, a]
    exact e q (by omega)
-- the sums
def fo (g : Nat → Int32) (v : Int64) : Nat → Int64
  | 0 => v
  | n + 1 => 31 * fo g v n + (g n).toInt64
def fq (g : Nat → Int64 → Int64) (v : Int64) : Nat → Int64
  | 0 => v
  | n + 1 => g n (fq g v n)
theorem fo_eq {g g' : Nat → Int32} {v : Int64} : ∀ n, (∀ j, j < n → g' j = g j) → fo g' v n = fo g v n
  | 0, _ => rfl
  | n + 1, h => by rw [fo, fo, fo_eq n (fun j hj => h j (by omega)), h n (by omega)]
theorem fq_eq {g g' : Nat → Int64 → Int64} {v : Int64} : ∀ n, (∀ j, j < n → g' j = g j) → fq g' v n = fq g v n
  | 0, _ => rfl
  | n + 1, h => by rw [fq, fq, fq_eq n (fun j hj => h j (by omega)), h n (by omega)]
def vwP (W : Wd) (p : Nat) (v : Int64) : Int64 := fo (sPer W p) v 6
def vwT (W : Wd) (t : Nat) (v : Int64) : Int64 := fo (W 1 t) v 7
def vwL (W : Wd) (k h : Nat) : Int32 := luTo W (nI k) (nI h) (ix (W 4 0 0))
def vwK (W : Wd) (k : Nat) (v : Int64) : Int64 := fo (vwL W k) (fo (sPar W k) v 11) (ix (W 3 0 0) + 1)
/-- all that can be asked for, as a sum -/
def sVw (W : Wd) : Int64 := fq (vwK W) (fq (vwT W) (fq (vwP W) (fo (sNum W) 7 13) 8) (cT W)) (cK W)
def sHd (W : Wd) (n : Nat) : Int64 := fo (fun k => W 2 k 6) 7 n
theorem sVw_eq (h : wEq R V) (hG : Gd hr f nt nk V) : sVw R = sVw V := by
  have e := h.sf hG
  obtain ⟨-, -, -, -, h4, h5⟩ := h.rows hG.cT hG.cK
  have eK : ∀ k, k < nk → vwK R k = vwK V k := fun k hk => by
    funext v
    have el : vwL R k = vwL V k := by
      funext x
      unfold vwL
      rw [h4]
      exact luTo_eq _ h5
    unfold vwK
    rw [el, e.1 0 (by decide), fo_eq 11 (fun j hj => e.par hG hk hj)]
  have eT : ∀ t, t < nt → vwT R t = vwT V t := fun t ht => by
    funext v
    exact fo_eq 7 (fun j hj => e.2.2.1 t j ht hj)
  have eP : ∀ p, p < 8 → vwP R p = vwP V p := fun p hp => by
    funext v
    exact fo_eq 6 (fun j _ => e.per hG hp)
  unfold sVw
  rw [e.cT, e.cK, hG.cT, hG.cK, fq_eq nk eK, fq_eq nt eT, fq_eq 8 eP, fo_eq 13 (fun j _ => e.num hG)]
theorem wEq.tr {A : Wd} (h : wEq A R) (h2 : wEq R V) (hG : Gd hr f nt nk V) : wEq A V := by
  have hR := hG.cp h2
  obtain ⟨a3, a0, a1, a2, a4, a5⟩ := h.rows hR.cT hR.cK
  obtain ⟨b3, b0, b1, b2, b4, b5⟩ := h2.rows hG.cT hG.cK
  unfold wEq
  rw [hG.cT, hG.cK]
  exact ⟨fun k hk => (a3 k hk).trans (b3 k hk), fun i k hi hk => (a0 i k hi hk).trans (b0 i k hi hk), fun i k hi hk => (a1 i k hi hk).trans (b1 i k hi hk), fun i k hi hk => (a2 i k hi hk).trans (b2 i k hi hk), a4.trans b4, fun j hj => (a5 j (by rw [b4]; exact hj)).trans (b5 j hj)⟩
-- the tests
theorem SF.of {p a b i l e : Int32} (h : SF nt nk R V) (hG : Gd hr f nt nk V) : sOfF R p a b i l e = sOfF V p a b i l e := by
  unfold sOfF sOvl
  rw [h.cT, hG.cT, h.1 0 (by decide), h.1 4 (by decide), h.ov nt (Nat.le_refl _)]
theorem Gd.kn {n : Int32} (hG : Gd hr f nt nk V) (h : kP V n) : ∃ k, k < nk ∧ n = nI k ∧ ix n = k := by
  have hb := hG.1.1
  obtain ⟨k, h1, h2, rfl⟩ := kP_is ⟨by rw [hG.cK]; exact hb.2.2.2, by rw [hG.cK]; exact hG.1.2.2.2.2⟩ h
  exact ⟨k, by rw [hG.cK] at h1; exact h1, rfl, clK h2⟩
theorem Gd.tn {n : Int32} (hG : Gd hr f nt nk V) (h : tP V n) : ∃ t, t < nt ∧ n = nI t ∧ ix n = t := by
  have hb := hG.1.1
  obtain ⟨k, h1, h2, rfl⟩ := tP_is ⟨by rw [hG.cT]; exact hb.2.2.1, by rw [hG.cT]; exact hG.1.2.2.2.1⟩ h
  exact ⟨k, by rw [hG.cT] at h1; exact h1, rfl, ixT h2⟩
theorem gP_x {n : Int32} (h : gP n) : ∃ p, p < 8 ∧ n = nI p ∧ ix n = p := by
  obtain ⟨p, hp, rfl⟩ := gP_is h
  exact ⟨p, hp, rfl, ixP hp⟩
theorem SF.tb {n : Int32} (h : SF nt nk R V) (hG : Gd hr f nt nk V) : sTbF R n = sTbF V n := by
  unfold sTbF tP
  rw [h.1 4 (by decide)]
  by_cases z : ¬n < 0 ∧ ¬V 3 0 4 ≤ n
  · obtain ⟨t, ht, -, et⟩ := hG.tn z
    rw [if_neg (Decidable.not_not.mpr z), if_neg (Decidable.not_not.mpr z), et, h.2.2.1 t 6 ht (by decide)]
  · rw [if_pos z, if_pos z]
theorem SF.pa {n : Int32} (h : SF nt nk R V) : sPaF R n = sPaF V n := by
  unfold sPaF
  rw [h.1 0 (by decide)]
theorem SF.po {s r t v c : Int32} (h : SF nt nk R V) (hG : Gd hr f nt nk V) : sPoF R s r t v c = sPoF V s r t v c := by
  unfold sPoF
  by_cases z : ¬ gP s ∨ ¬ gP r ∨ s = r ∨ ¬ gTn t
  · rw [if_pos z, if_pos z]
  · obtain ⟨p, hp, -, ep⟩ := gP_x (Decidable.by_contra (fun y => z (Or.inl y)))
    rw [if_neg z, if_neg z, ep, h.2.1 p 2 hp (by decide), h.2.1 p 0 hp (by decide), h.held hG.cK, h.1 5 (by decide)]
theorem SF.ho {g n t : Int32} (h : SF nt nk R V) (hG : Gd hr f nt nk V) : sHoF R g n t = sHoF V g n t := by
  unfold sHoF kP
  rw [h.1 5 (by decide)]
  by_cases z : ¬ gP g ∨ ¬ kP V n ∨ ¬ gP t ∨ g = t
  · rw [if_pos z, if_pos z]
  · obtain ⟨p, hp, e1, ep⟩ := gP_x (Decidable.by_contra (fun y => z (Or.inl y)))
    obtain ⟨k, hk, -, ek⟩ := hG.kn (Decidable.by_contra (fun y => z (Or.inr (Or.inl y))))
    obtain ⟨q, hq, e2, eq⟩ := gP_x (Decidable.by_contra (fun y => z (Or.inr (Or.inr (Or.inl y)))))
    rw [if_neg z, if_neg z]
    unfold huw tog
    rw [ek, h.2.2.2 k 5 hk (by decide), h.2.2.2 k 6 hk (by decide), h.held hG.cK, h.town (Or.inl ⟨p, hp, e1⟩), h.town (Or.inl ⟨q, hq, e2⟩)]
theorem SF.pu {p n : Int32} (h : SF nt nk R V) (hG : Gd hr f nt nk V) : sPuF R p n = sPuF V p n := by
  unfold sPuF kP
  rw [h.1 5 (by decide)]
  by_cases z : ¬ gP p ∨ ¬ kP V n
  · rw [if_pos z, if_pos z]
  · obtain ⟨q, hq, -, eq⟩ := gP_x (Decidable.by_contra (fun y => z (Or.inl y)))
    obtain ⟨k, hk, -, ek⟩ := hG.kn (Decidable.by_contra (fun y => z (Or.inr y)))
    rw [if_neg z, if_neg z]
    unfold huw
    rw [ek, eq, h.2.2.2 k 5 hk (by decide), h.2.2.2 k 6 hk (by decide), h.held hG.cK, h.2.1 q 2 hq (by decide)]
theorem SF.fe {p n : Int32} (h : SF nt nk R V) (hG : Gd hr f nt nk V) : sFeF R p n = sFeF V p n := by
  unfold sFeF kP
  rw [h.1 5 (by decide)]
  by_cases z : ¬ gP p ∨ ¬ kP V n
  · rw [if_pos z, if_pos z]
  · obtain ⟨q, hq, -, eq⟩ := gP_x (Decidable.by_contra (fun y => z (Or.inl y)))
    obtain ⟨k, hk, -, ek⟩ := hG.kn (Decidable.by_contra (fun y => z (Or.inr y)))
    rw [if_neg z, if_neg z]
    unfold huw
    rw [ek, eq, h.2.2.2 k 5 hk (by decide), h.2.2.2 k 6 hk (by decide), h.held hG.cK, h.2.1 q 2 hq (by decide)]
theorem SF.cl {n : Int32} (h : SF nt nk R V) (hG : Gd hr f nt nk V) : sClF R n = sClF V n := by
  unfold sClF kP
  rw [h.1 5 (by decide)]
  by_cases z : ¬n < 0 ∧ ¬V 3 0 5 ≤ n
  · obtain ⟨k, hk, -, ek⟩ := hG.kn z
    rw [if_neg (Decidable.not_not.mpr z), if_neg (Decidable.not_not.mpr z)]
    unfold cvd
    rw [ek, h.1 0 (by decide), h.2.2.2 k 5 hk (by decide), h.2.2.2 k 6 hk (by decide), h.2.2.2 k 0 hk (by decide), h.2.2.2 k 7 hk (by decide)]
  · rw [if_pos z, if_pos z]
-- the answers
theorem SF.fi8 {k : Nat} {y : Int32} (h : SF nt nk R V) (hk : k < nk) : bz (fit (wSet R 2 k 8 y) k) = bz (fit (wSet V 2 k 8 y) k) := by
  apply bz_iff
  unfold Jvm.Pilot.CRelayParcelsLaw_law_r9431_5a56c4.fit
  rw [wSet_same, wSet_same, wSet_k (by decide), wSet_k (by decide), h.2.2.2 k 9 hk (by decide)]
theorem SF.fi9 {k : Nat} {y : Int32} (h : SF nt nk R V) (hk : k < nk) : bz (fit (wSet R 2 k 9 y) k) = bz (fit (wSet V 2 k 9 y) k) := by
  apply bz_iff
  unfold Jvm.Pilot.CRelayParcelsLaw_law_r9431_5a56c4.fit
  rw [wSet_same, wSet_same, wSet_k (by decide), wSet_k (by decide), h.2.2.2 k 8 hk (by decide)]
theorem hbTo_eq {W W' : Wd} {x : Int32} : ∀ n, (∀ j, j < n → W' 2 j 5 = W 2 j 5 ∧ W' 2 j 6 = W 2 j 6) → hbTo W' x n = hbTo W x n
  | 0, _ => rfl
  | n + 1, h => by rw [hbTo, hbTo, hbTo_eq n (fun j hj => h j (by omega)), (h n (by omega)).1, (h n (by omega)).2]
theorem sHov_2 {W : Wd} {k j : Nat} {x : Int32} : sHov W k x 2 j 5 = W 2 j 5 ∧ sHov W k x 2 j 6 = if j = k then x else W 2 j 6 := by
  refine ⟨sHov_r (by decide) (by decide) (Or.inr (Or.inr (by decide))) (Or.inl (by decide)), ?_⟩
  by_cases z : j = k
  · rw [if_pos z, z, sHov_6]
  · rw [if_neg z, sHov_o z]
theorem sSet_5 {W : Wd} {k j : Nat} {t : Int32} : sSet W k t 2 j 5 = if (t = W 2 k 1 ∧ W 0 (ix t) 2 = W 2 k 2) ∧ j = k then 1 else W 2 j 5 := by
  unfold sSet sPay sPay2
  by_cases z : t = W 2 k 1
  · rw [if_neg (fun y => y z)]
    by_cases y : W 0 (ix t) 2 = W 2 k 2
    · rw [if_pos y]
      by_cases x : j = k
      · rw [if_pos ⟨⟨z, y⟩, x⟩, x, wSet_same]
      · rw [if_neg (fun q => x q.2), wSet_i x]
    · rw [if_neg y, if_neg (fun q => y q.1.2)]
  · rw [if_pos z, if_neg (fun (q : (t = W 2 k 1 ∧ W 0 (ix t) 2 = W 2 k 2) ∧ j = k) => z q.1.1)]
    split
    · rfl
    · rw [wSet_a (by decide), wSet_a (by decide), wSet_a (by decide), wSet_a (by decide)]
theorem SF.put {k p : Nat} (h : SF nt nk R V) (hG : Gd hr f nt nk V) (hk : k < nk) (hp : p < 8) : sHeld (sPut R p k) (10 + R 0 p 2) = sHeld (sPut V p k) (10 + V 0 p 2) := by
  have e : R 0 p 2 = V 0 p 2 := h.2.1 p 2 hp (by decide)
  have c : ∀ W : Wd, ∀ x : Int32, Jvm.Pilot.CRelayParcelsLaw_law_r9431_5a56c4.cK (sHov W k x) = Jvm.Pilot.CRelayParcelsLaw_law_r9431_5a56c4.cK W := fun W x => by
    unfold Jvm.Pilot.CRelayParcelsLaw_law_r9431_5a56c4.cK
    rw [sHov_r (by decide) (by decide) (Or.inl (by decide)) (Or.inr (by decide))]
  rw [sPut, sPut, e, sHeld, sHeld, c, c, h.cK, hG.cK]
  refine hbTo_eq nk (fun j hj => ?_)
  rw [sHov_2.1, sHov_2.2, sHov_2.1, sHov_2.2, h.2.2.2 j 5 hj (by decide), h.2.2.2 j 6 hj (by decide)]
  exact ⟨rfl, rfl⟩
theorem SF.fet {k p : Nat} (h : SF nt nk R V) (hG : Gd hr f nt nk V) (hk : k < nk) (hp : p < 8) : sHeld (sFet R p k) (10 + sFet R p k 0 p 2) = sHeld (sFet V p k) (10 + sFet V p k 0 p 2) := by
  have e : ∀ W : Wd, sFet W p k 0 p 2 = W 0 p 2 := fun W => by
    rw [sFet, sSet_p (by decide), sHov_r (by decide) (by decide) (Or.inl (by decide)) (Or.inl (by decide))]
  have c : ∀ W : Wd, Jvm.Pilot.CRelayParcelsLaw_law_r9431_5a56c4.cK (sFet W p k) = Jvm.Pilot.CRelayParcelsLaw_law_r9431_5a56c4.cK W := fun W => by
    have e5 : sFet W p k 3 0 5 = W 3 0 5 := by
      unfold sFet sSet sPay sPay2
      have e5 : sHov W k (nI p) 3 0 5 = W 3 0 5 := sHov_r (by decide) (by decide) (Or.inl (by decide)) (Or.inr (by decide))
      split
      · split
        · exact e5
        · rw [wSet_k (by decide), wSet_a (by decide), wSet_a (by decide), wSet_a (by decide)]
          exact e5
      · split
        · rw [wSet_a (by decide)]
          exact e5
        · exact e5
    unfold Jvm.Pilot.CRelayParcelsLaw_law_r9431_5a56c4.cK
    rw [e5]
  rw [e, e, h.2.1 p 2 hp (by decide), sHeld, sHeld, c, c, h.cK, hG.cK]
  refine hbTo_eq nk (fun j hj => ?_)
  have g : ∀ W : Wd, sFet W p k 2 j 5 = (if (nI p = W 2 k 1 ∧ W 0 p 2 = W 2 k 2) ∧ j = k then 1 else W 2 j 5) ∧ sFet W p k 2 j 6 = if j = k then nI p else W 2 j 6 := fun W => by
    have e0 : sHov W k (nI p) 0 p 2 = W 0 p 2 := sHov_r (by decide) (by decide) (Or.inl (by decide)) (Or.inl (by decide))
    rw [sFet, sSet_5, sSet_6, sHov_2.1, sHov_2.2, ixP hp, e0, sHov_0 (by decide), sHov_0 (by decide)]
    exact ⟨rfl, rfl⟩
  rw [(g R).1, (g R).2, (g V).1, (g V).2, h.2.1 p 2 hp (by decide), h.2.2.2 k 1 hk (by decide), h.2.2.2 k 2 hk (by decide), h.2.2.2 j 5 hj (by decide), h.2.2.2 j 6 hj (by decide)]
  exact ⟨rfl, rfl⟩
theorem SF.los {k : Nat} (h : SF nt nk R V) (hG : Gd hr f nt nk V) (hk : k < nk) : sFund R k + sHoP R k + sNaP R k = sFund V k + sHoP V k + sNaP V k := by
  have e := fun j hj => h.2.2.2 k j hk hj
  obtain ⟨g0, g1, g2, -, -, -, -⟩ := hG.2.2.2.1 k hk
  have e1 : sFund R k = sFund V k := by
    unfold sFund
    rw [e 3 (by decide), e 4 (by decide), h.1 1 (by decide)]
  have e2 : sMiss R k = sMiss V k := by
    unfold sMiss
    rw [e 3 (by decide), e1]
  have e3 : sHoP R k = sHoP V k := by
    unfold sHoP
    rw [e 6 (by decide), e 8 (by decide), e2]
    by_cases z : 10 ≤ V 2 k 6
    · rw [if_pos z, if_pos z]
    · obtain ⟨p, hp, ep⟩ := ho_10 g1 (Int32.not_le.mp z)
      rw [if_neg z, if_neg z, ep, ixP hp, h.2.1 p 1 hp (by decide)]
  have e4 : sNaP R k = sNaP V k := by
    unfold sNaP
    rw [e 8 (by decide), e2]
    by_cases z : V 2 k 8 = -9
    · rw [if_pos z, if_pos z]
    · obtain ⟨p, hp, ep⟩ := g2 z
      rw [if_neg z, if_neg z, ep, ixP hp, h.2.1 p 1 hp (by decide)]
  rw [e1, e3, e4]
-- hours
theorem SF.et (h : SF nt nk R V) : ∀ i, i ≤ nt → SF nt nk (etTo R i) (etTo V i) ∧ ecTo R i = ecTo V i
  | 0, _ => ⟨h, rfl⟩
  | i + 1, hi => by
    obtain ⟨k1, k2⟩ := SF.et h i (by omega)
    have e := fun j hj => k1.2.2.1 i j (by omega) hj
    have hc : eCond (etTo R i) i ↔ eCond (etTo V i) i := by
      unfold eCond
      rw [e 6 (by decide), e 4 (by decide), k1.1 0 (by decide)]
    rw [etTo, etTo, ecTo, ecTo, k2]
    by_cases z : eCond (etTo V i) i
    · rw [if_pos z, if_pos (hc.mpr z), if_pos z, if_pos (hc.mpr z)]
      refine ⟨?_, rfl⟩
      unfold eStep
      rw [e 0 (by decide), e 2 (by decide)]
      exact k1.set.set.set
    · rw [if_neg z, if_neg (fun y => z (hc.mp y)), if_neg z, if_neg (fun y => z (hc.mp y))]
      exact ⟨k1, rfl⟩
theorem SF.gt (h : SF nt nk R V) (hp : ∀ t, t < nt → isP (V 1 t 0)) : ∀ i, i ≤ nt → SF nt nk (gtTo R i) (gtTo V i)
  | 0, _ => h
  | i + 1, hi => by
    have k1 := SF.gt h hp i (by omega)
    have e := fun j hj => k1.2.2.1 i j (by omega) hj
    have hc : gCond (gtTo R i) i ↔ gCond (gtTo V i) i := by
      unfold gCond
      rw [e 6 (by decide), e 3 (by decide), k1.1 0 (by decide)]
    rw [gtTo, gtTo]
    by_cases z : gCond (gtTo V i) i
    · rw [if_pos z, if_pos (hc.mpr z)]
      unfold gStep
      obtain ⟨p, hp8, ep⟩ := hp i (by omega)
      have e0 : gtTo V i 1 i 0 = nI p := (gtTo_r (by omega) i).trans ep
      rw [e 0 (by decide), e 1 (by decide), e0, ixP hp8, k1.2.1 p 2 hp8 (by decide)]
      split
      · exact k1.set.set.set
      · exact k1.set
    · rw [if_neg z, if_neg (fun y => z (hc.mp y))]
      exact k1
theorem SF.hour (h : SF nt nk R V) (hG : Gd hr f nt nk V) : SF nt nk (sHour R) (sHour V) := by
  unfold sHour
  rw [h.cT, hG.cT, h.1 0 (by decide)]
  exact SF.gt (SF.et h.set nt (Nat.le_refl _)).1 (fun t ht => by rw [etTo_r (by omega), wSet_a (by decide)]; exact (hG.2.2.1 t ht).1.1) nt (Nat.le_refl _)
theorem SF.pas (h : SF nt nk R V) (hG : Gd hr f nt nk V) : ∀ j, hr + j ≤ 500 → SF nt nk (paTo R j) (paTo V j) ∧ pcTo R j = pcTo V j
  | 0, _ => ⟨h, rfl⟩
  | j + 1, hj => by
    obtain ⟨k1, k2⟩ := SF.pas h hG j (by omega)
    have kG := hG.pas j (by omega)
    refine ⟨k1.hour kG, ?_⟩
    rw [pcTo, pcTo, k2, h.cT, hG.cT, k1.1 0 (by decide), (SF.et k1.set nt (Nat.le_refl _)).2]
end SAME
