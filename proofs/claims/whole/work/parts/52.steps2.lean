-- ===== a call of both: the looks, the ways, the text =====
theorem tSg_cg {n : Nat} {sg sg' : Nat → Int32} (h : ∀ k, k < n → sg k = sg' k) : tSg n sg = tSg n sg' := funext (fun p => by
  unfold tSg
  by_cases z : p < n
  · rw [if_pos z, if_pos z]; exact h p z
  · rw [if_neg z, if_neg z])
theorem tDg_cg {n : Nat} {sg sg' : Nat → Int32} (h : ∀ k, k < n → sg k = sg' k) : tDg n sg = tDg n sg' := funext (fun p => by
  unfold tDg
  by_cases z : p < n
  · rw [if_pos z, if_pos z, h p z]
  · rw [if_neg z, if_neg z])
theorem coTo_cg {n : Nat} {sg sg' : Nat → Int32} (h : ∀ k, k < n → sg k = sg' k) : ∀ (d : Nat) (c : Int32) (W : Wd), coTo n sg d c W = coTo n sg' d c W
  | 0, _, _ => rfl
  | d + 1, c, W => by
    have ih := coTo_cg h d
    have e1 := tSg_cg h
    have e2 := tDg_cg h
    simp only [coTo, tBg, ordA, ordB, e1, e2, ih]
theorem tFa_cg {n : Nat} {sg sg' : Nat → Int32} (h : ∀ k, k < n → sg k = sg' k) : ∀ (d : Nat) (due : Int32), d ≤ n → tFa sg n d due = tFa sg' n d due
  | 0, _, _ => rfl
  | d + 1, due, hd => by
    have ih := fun due' => tFa_cg h d due' (by omega)
    have e := h (n - (d + 1)) (by omega)
    simp only [tFa, e, ih]
section STEP2
variable {G : xG} {MC MM : xM} {As : List Value} {t : xA} {own : Nat → Nat} {a m c : Nat} {D : OD} {V : Vd}
theorem st_append (hS : Sys G t own a m c D V) (q : Int32) : StepQ G MX9_append MX10_append [.int q] a m c t := by
  by_cases hq : wIn q 1 255
  · obtain ⟨b, b0, hb, eb⟩ := wIn_1n (hi := 255) (by decide) hq
    have ht := hS.2.2.2.2.2
    by_cases h80 : D.2.2.1.1 = 80
    · exact step_nu hS (c_appendN hS.1 hq h80) (fun s => m_appendN hq (by rw [ht.1.2, h80]; rfl))
    · have hlt : D.2.2.1.1 < 80 := by have := ht.1.1; omega
      rw [eb] at hq ⊢
      refine step_mk hS (PC := fun D1 => D1 = (D.1, D.2.1, (D.2.2.1.1 + 1, upd D.2.2.1.2 D.2.2.1.1 (nI b)), D.2.2.2)) (PM := fun V' => V' = mSc (mAr V 1 D.2.2.1.1 (nI b)) 4 (nI (D.2.2.1.1 + 1)))
        ((c_append hS.1 hq (by omega) hlt).mono (fun r t1 z => ⟨z.1, own, _, z.2.1, Did.mono z.2.2 (fun _ y => y) (by decide) (by decide), rfl⟩)) (fun s => m_append hq ht.1.2 hlt) (fun D1 V' e1 e2 => ?_)
      rw [e1, e2]
      have eb2 : c - D.2.2.1.1 = c + 1 - (D.2.2.1.1 + 1) := by omega
      have hS1 := hS.2.2.2.1
      have hS2 := hS.2.2.2.2.1
      rw [eb2] at hS1 hS2
      refine ⟨Nat.succ_le_succ hS.2.2.1, hS1, HRel.cg hS2 ((mSc_0 (by decide)).trans (mAr_0 (by decide))) rfl, ⟨⟨hlt, mSc_at⟩, fun k hk => ?_⟩⟩
      have hk : k < D.2.2.1.1 + 1 := hk
      rw [mSc_r (by decide)]
      by_cases z : k = D.2.2.1.1
      · subst z
        exact ⟨mAr_at.trans upd_at.symm, b, by omega, upd_at⟩
      · obtain ⟨g1, g2⟩ := ht.2 k (by omega)
        have e3 : upd D.2.2.1.2 D.2.2.1.1 (nI b) k = D.2.2.1.2 k := upd_ne z
        exact ⟨(mAr_k z).trans (g1.trans e3.symm), by rw [show (D.1, D.2.1, (D.2.2.1.1 + 1, upd D.2.2.1.2 D.2.2.1.1 (nI b)), D.2.2.2).2.2.1.2 k = D.2.2.1.2 k from e3]; exact g2⟩
  · exact step_nu hS (c_appendF hS.1 hq) (fun s => m_appendF hq)
theorem st_clearText (hS : Sys G t own a m c D V) : StepQ G MX9_clearText MX10_clearText [] a m c t := by
  refine step_mk hS (PC := fun D1 => D1 = (D.1, D.2.1, (0, D.2.2.1.2), D.2.2.2)) (PM := fun V' => V' = mSc V 4 0)
    ((c_clearText hS.1).mono (fun r t1 z => ⟨z.1, own, _, z.2.1, Did.mono z.2.2 (fun _ y => y) (by decide) (by decide), rfl⟩)) (fun s => ?_) (fun D1 V' e1 e2 => ?_)
  · have k := m_clearText (G := G) (s := s) (m := m) (V := V)
    rw [hS.2.2.2.2.2.1.2] at k
    exact k
  · rw [e1, e2]
    have hup : c - D.2.2.1.1 ≤ c + 1 - 0 := by omega
    exact ⟨Nat.zero_le _, SRel.up hS.2.2.2.1 hup, HRel.cg (HRel.up hS.2.2.2.2.1 hup) (mSc_0 (by decide)) rfl, ⟨Nat.zero_le _, mSc_at⟩, fun k hk => absurd hk (Nat.not_lt_zero _)⟩
theorem st_carryOut (hS : Sys G t own a m c D V) (hc : c ≤ 511) : StepQ G MX9_carryOut MX10_carryOut [] a m c t := by
  have ht := hS.2.2.2.2.2
  have hx := TRel.tx ht
  have hle := hS.2.2.1
  have hcg : ∀ k, k < D.2.2.1.1 → V.2.2 1 k = D.2.2.1.2 k := fun k hk => (ht.2 k hk).1
  have eF : tFa (V.2.2 1) D.2.2.1.1 D.2.2.1.1 (-1) = tFa D.2.2.1.2 D.2.2.1.1 D.2.2.1.1 (-1) := tFa_cg hcg _ _ (Nat.le_refl _)
  obtain ⟨hr, f, nt, nk, sz, R, g, ez, lz⟩ := hS.2.2.2.1.1
  by_cases hf : tFa D.2.2.1.2 D.2.2.1.1 D.2.2.1.1 (-1) = -9
  · have eC : coTo D.2.2.1.1 (V.2.2 1) D.2.2.1.1 0 D.1.1 = coTo D.2.2.1.1 D.2.2.1.2 D.2.2.1.1 0 D.1.1 := coTo_cg hcg _ _ _
    refine step_mk hS (v := (coTo D.2.2.1.1 D.2.2.1.2 D.2.2.1.1 0 D.1.1).1) (PC := fun D1 => ∃ H1, D1 = (((coTo D.2.2.1.1 D.2.2.1.2 D.2.2.1.1 0 D.1.1).2, D.1.2), H1, (0, D.2.2.1.2), D.2.2.2) ∧ KeptH D.2.1 D.1 H1)
      (PM := fun V' => V'.2.1 = (mRec V D.2.1.2.1).2.1 ∧ V'.2.2 0 2 = (mRec V D.2.1.2.1).2.2 0 2 ∧ V'.2.2 0 4 = 0 ∧ (∀ j, 588 ≤ j → V'.1 j = V.1 j) ∧ ∃ hr' sz' : Nat, RF hr' f nt nk (coTo D.2.2.1.1 D.2.2.1.2 D.2.2.1.1 0 D.1.1).2 V'.1 ∧ Gd hr' f nt nk (coTo D.2.2.1.1 D.2.2.1.2 D.2.2.1.1 0 D.1.1).2 ∧ (coTo D.2.2.1.1 D.2.2.1.2 D.2.2.1.1 0 D.1.1).2 4 0 0 = nI sz' ∧ sz' ≤ c)
      ((c_carryOut hS.1 hf (P := ordP) (fun W h => h.pre) (fun W p h z => h.step z) (fun W p z h => h.stop z) ⟨⟨hr, f, nt, nk, g⟩, sz, by omega, ez⟩).mono (fun r t1 z => ?_)) (fun s => ?_) (fun D1 V' q1 q2 => ?_)
    · obtain ⟨e, own1, H1, z1, z2, z3⟩ := z
      exact ⟨e, own1, _, z1, Did.mono z3 (fun _ y => y) (by decide) (by decide), H1, rfl, z2⟩
    · have k := m_carryOut (G := G) (s := s) (m := m) (B := c) hS.2.2.2.2.1.1.1 hS.2.2.2.2.1.1.2.1 hx (eF.trans hf) R g ez hc (by omega)
      rw [eC] at k
      exact k
    · obtain ⟨H1, e1, e2⟩ := q1
      obtain ⟨p1, p2, p3, p4, hr', sz', p5, p6, p7, p8⟩ := q2
      rw [e1]
      have hup : c - D.2.2.1.1 ≤ c + 1 - 0 := by omega
      refine ⟨Nat.zero_le _, ⟨⟨hr', f, nt, nk, sz', p5, p6, p7, show sz' ≤ c + 1 - 0 by omega⟩, fun i hi => ?_⟩, HRel.kept (HRel.up hS.2.2.2.2.1 hup) (SRel.up hS.2.2.2.1 hup) e2 p2 p1, ⟨Nat.zero_le _, p3⟩, fun k hk => absurd hk (Nat.not_lt_zero _)⟩
      exact SlR.cg (SlR.up (hS.2.2.2.1.2 i hi) hup) (fun j h1 h2 => p4 j (by omega))
  · refine step_nt hS (c_carryOutF hS.1 hf) (fun s => ?_)
    have k := m_carryOutF (G := G) (s := s) (m := m) hx (fun z => hf (eF.symm.trans z))
    rw [eF] at k
    exact k
theorem fc_two {D : OD} {B : Nat} {N : Nat → Int64} (h : ∀ i, i < 2 → SlR B D.1 N i) : (N 588 + N 1177).toInt32 = fcTo D.1.2.2.1 2 := by
  have e2 : ∀ fl : Nat → Int32, fcTo fl 2 = if fl 1 = 0 then (if fl 0 = 0 then 0 else 0 + 1) else (if fl 0 = 0 then 0 else 0 + 1) + 1 := fun fl => rfl
  rw [e2]
  rcases h 0 (by decide) with ⟨a0, b0⟩ | ⟨a0, b0, -⟩ <;> rcases h 1 (by decide) with ⟨a1, b1⟩ | ⟨a1, b1, -⟩ <;>
    (have b0 : N 588 = _ := b0
     have b1 : N 1177 = _ := b1
     rw [a0, a1, b0, b1]
     decide)
theorem st_count (hS : Sys G t own a m c D V) (q : Int32) : StepQ G MX9_count MX10_count [.int q] a m c t := by
  obtain ⟨hr, f, nt, nk, sz, R, g, ez, lz⟩ := hS.2.2.2.1.1
  have M : Rm hr f nt nk D.1.1 V := RH.m R
  by_cases hq : wIn q 0 15
  · obtain ⟨i, hi, rfl⟩ := wIn_nI (hi := 15) (by decide) hq
    have hi : i < 16 := hi
    match i, hi with
    | 0, _ => exact step_nu hS (c_count hS.1 (by decide)) (fun s => m_count0 M)
    | 1, _ => exact step_nu hS (c_count hS.1 (by decide)) (fun s => m_count1 M)
    | 2, _ => exact step_nu hS (c_count hS.1 (by decide)) (fun s => m_count2 M)
    | 3, _ => exact step_nu hS (c_count hS.1 (by decide)) (fun s => m_count3 M)
    | 4, _ => exact step_nu hS (c_count hS.1 (by decide)) (fun s => m_count4 M)
    | 5, _ => exact step_nu hS (c_count hS.1 (by decide)) (fun s => m_count5 M)
    | 6, _ => exact step_nu hS (c_count hS.1 (by decide)) (fun s => m_count6 M)
    | 7, _ => exact step_nu hS (c_count hS.1 (by decide)) (fun s => m_count7 M)
    | 8, _ => exact step_nu hS (c_count hS.1 (by decide)) (fun s => m_count8 M)
    | 9, _ => exact step_nu hS (c_count hS.1 (by decide)) (fun s => m_count9 M)
    | 10, _ => exact step_nu hS (c_count hS.1 (by decide)) (fun s => m_count10 M)
    | 11, _ => exact step_nu hS (c_count hS.1 (by decide)) (fun s => m_count11 M)
    | 12, _ => exact step_nu hS (c_count hS.1 (by decide)) (fun s => m_count12 M)
    | 13, _ =>
      refine step_nu hS (c_count hS.1 (by decide)) (fun s => ?_)
      have k := m_count13 (G := G) (s := s) (m := m) M
      rw [fc_two hS.2.2.2.1.2] at k
      exact k
    | 14, _ =>
      refine step_nu hS (c_count hS.1 (by decide)) (fun s => ?_)
      have k := m_count14 (G := G) (s := s) (m := m) M
      rw [hS.2.2.2.2.1.1.1] at k
      exact k
    | 15, _ =>
      refine step_nu hS (c_count hS.1 (by decide)) (fun s => ?_)
      have k := m_count15 (G := G) (s := s) (m := m) M
      rw [hS.2.2.2.2.2.1.2] at k
      exact k
    | i + 16, h => exact absurd h (by omega)
  · exact step_nu hS (c_countF hS.1 hq) (fun s => m_countF M hq)
theorem st_trip (hS : Sys G t own a m c D V) (n q : Int32) : StepQ G MX9_trip MX10_trip [.int n, .int q] a m c t := by
  obtain ⟨hr, f, nt, nk, sz, R, g, ez, lz⟩ := hS.2.2.2.1.1
  have M : Rm hr f nt nk D.1.1 V := RH.m R
  by_cases hF : ¬ tP D.1.1 n ∨ ¬ wIn q 0 6
  · exact step_nu hS (c_tripF hS.1 hF) (fun s => m_tripF M hF)
  · have hn : tP D.1.1 n := Decidable.by_contra (fun z => hF (Or.inl z))
    have hq : wIn q 0 6 := Decidable.by_contra (fun z => hF (Or.inr z))
    obtain ⟨k, hk, h16, ek⟩ := tP_is hS.1.hT hn
    obtain ⟨j, hj, ej⟩ := wIn_nI (hi := 6) (by decide) hq
    rw [g.cT] at hk
    rw [ek] at hn
    rw [ek, ej]
    exact step_nu hS (c_trip hS.1 hn h16 (by omega)) (fun s => m_trip M hk hn (by omega))
theorem st_person (hS : Sys G t own a m c D V) (n q : Int32) : StepQ G MX9_person MX10_person [.int n, .int q] a m c t := by
  obtain ⟨hr, f, nt, nk, sz, R, g, ez, lz⟩ := hS.2.2.2.1.1
  have M : Rm hr f nt nk D.1.1 V := RH.m R
  by_cases hF : ¬ gP n ∨ ¬ wIn q 0 5
  · exact step_nu hS (c_personF hS.1 hF) (fun s => m_personF M hF)
  · have hn : gP n := Decidable.by_contra (fun z => hF (Or.inl z))
    have hq : wIn q 0 5 := Decidable.by_contra (fun z => hF (Or.inr z))
    obtain ⟨k, hk, ek⟩ := gP_is hn
    obtain ⟨j, hj, ej⟩ := wIn_nI (hi := 5) (by decide) hq
    rw [ek, ej]
    exact step_nu hS (c_person hS.1 hk (by omega)) (fun s => m_person M hk (by omega))
theorem st_parcel (hS : Sys G t own a m c D V) (n q : Int32) : StepQ G MX9_parcel MX10_parcel [.int n, .int q] a m c t := by
  obtain ⟨hr, f, nt, nk, sz, R, g, ez, lz⟩ := hS.2.2.2.1.1
  have M : Rm hr f nt nk D.1.1 V := RH.m R
  by_cases hF : ¬ kP D.1.1 n ∨ ¬ wIn q 0 10
  · exact step_nu hS (c_parcelF hS.1 hF) (fun s => m_parcelF M hF)
  · have hn : kP D.1.1 n := Decidable.by_contra (fun z => hF (Or.inl z))
    have hq : wIn q 0 10 := Decidable.by_contra (fun z => hF (Or.inr z))
    obtain ⟨k, hk, h10, ek⟩ := kP_is hS.1.hK hn
    obtain ⟨j, hj, ej⟩ := wIn_nI (hi := 10) (by decide) hq
    rw [g.cK] at hk
    rw [ek] at hn
    rw [ek, ej]
    have hh := (g.cl hk).2.1
    exact step_nu hS (c_parcel hS.1 hn h10 (by omega) hh) (fun s => m_parcel M hk hn hh (by omega))
theorem st_holderAt (hS : Sys G t own a m c D V) (n q : Int32) : StepQ G MX9_holderAt MX10_holderAt [.int n, .int q] a m c t := by
  obtain ⟨hr, f, nt, nk, sz, R, g, ez, lz⟩ := hS.2.2.2.1.1
  have M : Rm hr f nt nk D.1.1 V := RH.m R
  by_cases hF : ¬ kP D.1.1 n ∨ ¬ wIn q 0 (D.1.1 3 0 0)
  · exact step_nu hS (c_holderAtF hS.1 hF) (fun s => m_holderAtF M hF)
  · have hn : kP D.1.1 n := Decidable.by_contra (fun z => hF (Or.inl z))
    have hq : wIn q 0 (D.1.1 3 0 0) := Decidable.by_contra (fun z => hF (Or.inr z))
    obtain ⟨k, hk, h10, ek⟩ := kP_is hS.1.hK hn
    have hq2 := hq
    rw [g.1.2.1] at hq2
    have h5 := g.1.1.1
    obtain ⟨j, hj, ej⟩ := wIn_nI (hi := hr) (by omega) hq2
    rw [g.cK] at hk
    rw [ek] at hn
    rw [ej] at hq
    rw [ek, ej]
    exact step_nu hS (c_holderAt hS.1 hn hq) (fun s => m_holderAt R h5 hk hn (by omega))
theorem st_inLocker (hS : Sys G t own a m c D V) (n : Int32) : StepQ G MX9_inLocker MX10_inLocker [.int n] a m c t := by
  obtain ⟨hr, f, nt, nk, sz, R, g, ez, lz⟩ := hS.2.2.2.1.1
  have M : Rm hr f nt nk D.1.1 V := RH.m R
  by_cases hF : gTn n
  · exact step_nu hS (c_inLocker hS.1 hF) (fun s => m_inLocker M hF)
  · exact step_nu hS (c_inLockerF hS.1 hF) (fun s => m_inLockerF M hF)
theorem st_would (hS : Sys G t own a m c D V) (n q : Int32) : StepQ G MX9_wouldClaim MX10_wouldClaim [.int n, .int q] a m c t := by
  obtain ⟨hr, f, nt, nk, sz, R, g, ez, lz⟩ := hS.2.2.2.1.1
  have M : Rm hr f nt nk D.1.1 V := RH.m R
  by_cases hF : ¬ kP D.1.1 n ∨ ¬ wIn q 0 2
  · exact step_nu hS (c_wouldF hS.1 hF) (fun s => m_wouldF M hF)
  · have hn : kP D.1.1 n := Decidable.by_contra (fun z => hF (Or.inl z))
    have hq : wIn q 0 2 := Decidable.by_contra (fun z => hF (Or.inr z))
    obtain ⟨k, hk, h10, ek⟩ := kP_is hS.1.hK hn
    obtain ⟨j, hj, ej⟩ := wIn_nI (hi := 2) (by decide) hq
    have hj : j < 3 := hj
    rw [g.cK] at hk
    rw [ek] at hn
    rw [ek, ej]
    have hc := g.cl hk
    by_cases hs : cvd D.1.1 k
    · refine step_nu hS (c_would hS.1 hn h10 hj hs hc.1 hc.2.1 hc.2.2.1) (fun s => ?_)
      match j, hj with
      | 0, _ => exact m_would0 M hk hn hs hc
      | 1, _ => exact m_would1 M hk hn hs hc
      | 2, _ => exact m_would2 M hk hn hs hc
      | j + 3, h => exact absurd h (by omega)
    · exact step_nu hS (c_wouldS hS.1 hn h10 hj hs) (fun s => m_wouldS M hk hn hj hs)
theorem yThe_0 {Y : Yd} {h : Int32} : yThe Y h 0 0 = 1 := by simp [yThe, ySet]
theorem yThe_1 {Y : Yd} {h : Int32} : yThe Y h 0 1 = if Y 0 6 = 0 then h else 0 := by simp [yThe, ySet]
theorem yThe_2 {Y : Yd} {h : Int32} : yThe Y h 0 2 = if Y 0 6 = 0 then 0 else h := by simp [yThe, ySet]
theorem yThe_3 {Y : Yd} {h : Int32} : yThe Y h 0 3 = -9 := by simp [yThe, ySet]
theorem yIn_6 {W : Wd} {Y : Yd} {k : Nat} {e : Int32} : yIn W Y k e 0 6 = e := by simp [yIn, ySet]
theorem st_earliest (hS : Sys G t own a m c D V) (n q : Int32) : StepQ G MX9_earliest MX10_earliest [.int n, .int q] a m c t := by
  obtain ⟨hr, f, nt, nk, sz, R, g, ez, lz⟩ := hS.2.2.2.1.1
  have M : Rm hr f nt nk D.1.1 V := RH.m R
  by_cases hF : ¬ kP D.1.1 n ∨ ¬ wIn q 0 2
  · have ew : weV D.1.1 n q 2 = -1 := if_pos hF
    refine step_nu hS (c_earliestF hS.1 hF) (fun s => ?_)
    have k := m_earliestF (G := G) (s := s) (m := m) M (n := n) (q := q) (by rw [ew]; decide)
    rw [ew] at k
    exact k
  · have hn : kP D.1.1 n := Decidable.by_contra (fun z => hF (Or.inl z))
    have hq : wIn q 0 2 := Decidable.by_contra (fun z => hF (Or.inr z))
    obtain ⟨k, hk, h10, ek⟩ := kP_is hS.1.hK hn
    obtain ⟨j, hj, ej⟩ := wIn_nI (hi := 2) (by decide) hq
    have hj : j < 3 := hj
    rw [g.cK] at hk
    rw [ek] at hn
    rw [ek, ej] at hF
    rw [ek, ej]
    have ei : ix (nI k) = k := clK h10
    by_cases hs : D.1.1 2 k 5 = 0
    · have hh := (g.cl hk).2.1
      have ew : ∀ x : Int32, nI j = x → weV D.1.1 (nI k) x 2 = 0 := fun x ex => by
        rw [← ex]
        exact (if_neg hF).trans (if_pos (by rw [ei]; exact hs))
      have ht : ∀ u, u < nt → trG D.1.1 u := fun u hu => (g.2.2.1 u hu).2
      refine step_ya hS (c_earliest hS.1 hn h10 hj hs hh (g.on hk)) (fun s => ?_)
      have es := fun hne => earliest_same (W := D.1.1) (k := k) ht g.1.1.2.2.1 g.cT hne D.2.2.2 j hj
      have e0 : ∀ z : yTn D.1.1 k = D.1.1 2 k 2, ySea D.1.1 D.2.2.2 k 0 = yThe (yIn D.1.1 D.2.2.2 k 0) (yHr D.1.1 k) := fun z => if_pos z
      have e1 : ∀ z : yTn D.1.1 k = D.1.1 2 k 2, ¬ ySea D.1.1 D.2.2.2 k 0 0 0 = 0 := fun z => by
        rw [e0 z, yThe_0]; decide
      match j, hj with
      | 0, _ =>
        have k1 := m_earliest0 (G := G) (s := s) (m := m) M hk ht hh (g.rd hk) (ew 0 rfl)
        have ev : (if yTn D.1.1 k = D.1.1 2 k 2 then yHr D.1.1 k else eaM D.1.1 nt k 0) = sEar (ySea D.1.1 D.2.2.2 k 0) 0 := by
          by_cases z : yTn D.1.1 k = D.1.1 2 k 2
          · rw [if_pos z, sEar_0 (e1 z), e0 z, yThe_1, yIn_6, if_pos rfl]
          · rw [if_neg z, es z]
        rw [ev] at k1
        exact k1
      | 1, _ =>
        have k1 := m_earliest1 (G := G) (s := s) (m := m) M hk ht hh (g.rd hk) (ew 1 rfl)
        have ev : (if yTn D.1.1 k = D.1.1 2 k 2 then 0 else eaM D.1.1 nt k 1) = sEar (ySea D.1.1 D.2.2.2 k 0) 1 := by
          by_cases z : yTn D.1.1 k = D.1.1 2 k 2
          · rw [if_pos z, sEar_1 (e1 z), e0 z, yThe_2, yIn_6, if_pos rfl]
          · rw [if_neg z, es z]
        rw [ev] at k1
        exact k1
      | 2, _ =>
        have k1 := m_earliest2 (G := G) (s := s) (m := m) M hk ht hh (g.rd hk) (ew 2 rfl)
        have ev : (if yTn D.1.1 k = D.1.1 2 k 2 then -9 else eaM D.1.1 nt k 2) = sEar (ySea D.1.1 D.2.2.2 k 0) 2 := by
          by_cases z : yTn D.1.1 k = D.1.1 2 k 2
          · rw [if_pos z, sEar_2 (e1 z), e0 z, yThe_3]
          · rw [if_neg z, es z]
        rw [ev] at k1
        exact k1
      | j + 3, h => exact absurd h (by omega)
    · have ew : weV D.1.1 (nI k) (nI j) 2 = -2 := (if_neg hF).trans (if_neg (by rw [ei]; exact hs))
      refine step_nu hS (c_earliestS hS.1 hn h10 hj hs) (fun s => ?_)
      have k1 := m_earliestF (G := G) (s := s) (m := m) M (n := nI k) (q := nI j) (by rw [ew]; decide)
      rw [ew] at k1
      exact k1
theorem st_cheapest (hS : Sys G t own a m c D V) (n q : Int32) : StepQ G MX9_cheapest MX10_cheapest [.int n, .int q] a m c t := by
  obtain ⟨hr, f, nt, nk, sz, R, g, ez, lz⟩ := hS.2.2.2.1.1
  have M : Rm hr f nt nk D.1.1 V := RH.m R
  by_cases hF : ¬ kP D.1.1 n ∨ ¬ wIn q 0 1
  · have ew : weV D.1.1 n q 1 = -1 := if_pos hF
    refine step_nu hS (c_cheapestF hS.1 hF) (fun s => ?_)
    have k := m_cheapestF (G := G) (s := s) (m := m) M (n := n) (q := q) (by rw [ew]; decide)
    rw [ew] at k
    exact k
  · have hn : kP D.1.1 n := Decidable.by_contra (fun z => hF (Or.inl z))
    have hq : wIn q 0 1 := Decidable.by_contra (fun z => hF (Or.inr z))
    obtain ⟨k, hk, h10, ek⟩ := kP_is hS.1.hK hn
    obtain ⟨j, hj, ej⟩ := wIn_nI (hi := 1) (by decide) hq
    have hj : j < 2 := hj
    rw [g.cK] at hk
    rw [ek] at hn
    rw [ek, ej] at hF
    rw [ek, ej]
    have ei : ix (nI k) = k := clK h10
    by_cases hs : D.1.1 2 k 5 = 0
    · have hh := (g.cl hk).2.1
      have ew : ∀ x : Int32, nI j = x → weV D.1.1 (nI k) x 1 = 0 := fun x ex => by
        rw [← ex]
        exact (if_neg hF).trans (if_pos (by rw [ei]; exact hs))
      have ht : ∀ u, u < nt → trG D.1.1 u := fun u hu => (g.2.2.1 u hu).2
      refine step_ya hS (c_cheapest hS.1 hn h10 hj hs hh (g.on hk)) (fun s => ?_)
      have es := fun hne => cheapest_same (W := D.1.1) (k := k) ht g.1.1.2.2.1 g.cT hne D.2.2.2 j hj
      have e0 : ∀ z : yTn D.1.1 k = D.1.1 2 k 2, ySea D.1.1 D.2.2.2 k 1 = yThe (yIn D.1.1 D.2.2.2 k 1) (yHr D.1.1 k) := fun z => if_pos z
      have e1 : ∀ z : yTn D.1.1 k = D.1.1 2 k 2, ¬ ySea D.1.1 D.2.2.2 k 1 0 0 = 0 := fun z => by
        rw [e0 z, yThe_0]; decide
      match j, hj with
      | 0, _ =>
        have k1 := m_cheapest0 (G := G) (s := s) (m := m) M hk ht hh (g.rd hk) (ew 0 rfl)
        have ev : (if yTn D.1.1 k = D.1.1 2 k 2 then 0 else chM D.1.1 nt k 0) = sEar (ySea D.1.1 D.2.2.2 k 1) 0 := by
          by_cases z : yTn D.1.1 k = D.1.1 2 k 2
          · rw [if_pos z, sEar_0 (e1 z), e0 z, yThe_1, yIn_6, if_neg (by decide)]
          · rw [if_neg z, es z]
        rw [ev] at k1
        exact k1
      | 1, _ =>
        have k1 := m_cheapest1 (G := G) (s := s) (m := m) M hk ht hh (g.rd hk) (ew 1 rfl)
        have ev : (if yTn D.1.1 k = D.1.1 2 k 2 then yHr D.1.1 k else chM D.1.1 nt k 1) = sEar (ySea D.1.1 D.2.2.2 k 1) 1 := by
          by_cases z : yTn D.1.1 k = D.1.1 2 k 2
          · rw [if_pos z, sEar_1 (e1 z), e0 z, yThe_2, yIn_6, if_neg (by decide)]
          · rw [if_neg z, es z]
        rw [ev] at k1
        exact k1
      | j + 2, h => exact absurd h (by omega)
    · have ew : weV D.1.1 (nI k) (nI j) 1 = -2 := (if_neg hF).trans (if_neg (by rw [ei]; exact hs))
      refine step_nu hS (c_cheapestS hS.1 hn h10 hj hs) (fun s => ?_)
      have k1 := m_cheapestF (G := G) (s := s) (m := m) M (n := nI k) (q := nI j) (by rw [ew]; decide)
      rw [ew] at k1
      exact k1
end STEP2
