-- ===== the model: a text carried out, the loop =====
theorem tDg_at {n q : Nat} {sg : Nat → Int32} (h : q < n) : tDg n sg q = sg q - 48 := if_pos h
theorem tSg_at {n q : Nat} {sg : Nat → Int32} (h : q < n) : tSg n sg q = sg q := if_pos h
theorem ordF_g {W : Wd} {x k y : Int32} : ordF W (nI 103) x k y = sHoF W x k y := by
  unfold ordF
  rw [if_pos (by decide)]
theorem ordW_g {W : Wd} {x k y : Int32} : ordW W (nI 103) x k y = foW (sHoF W x k y) W (sGav W (ix k) y) := by
  unfold ordW
  rw [if_pos (by decide)]
theorem ordF_t {W : Wd} {x k y : Int32} : ordF W (nI 116) x k y = sHoF W y k x := by
  unfold ordF
  rw [if_neg (by decide), if_pos (by decide)]
theorem ordW_t {W : Wd} {x k y : Int32} : ordW W (nI 116) x k y = foW (sHoF W y k x) W (sTok W (ix k) x) := by
  unfold ordW
  rw [if_neg (by decide), if_pos (by decide)]
theorem ordF_p {W : Wd} {x k y : Int32} : ordF W (nI 112) x k y = sPuF W x k := by
  unfold ordF
  rw [if_neg (by decide), if_neg (by decide), if_pos (by decide)]
theorem ordW_p {W : Wd} {x k y : Int32} : ordW W (nI 112) x k y = foW (sPuF W x k) W (sPut W (ix x) (ix k)) := by
  unfold ordW
  rw [if_neg (by decide), if_neg (by decide), if_pos (by decide)]
theorem ordF_f {W : Wd} {x k y : Int32} : ordF W (nI 102) x k y = sFeF W x k := by
  unfold ordF
  rw [if_neg (by decide), if_neg (by decide), if_neg (by decide), if_pos (by decide)]
theorem ordW_f {W : Wd} {x k y : Int32} : ordW W (nI 102) x k y = foW (sFeF W x k) W (sFet W (ix x) (ix k)) := by
  unfold ordW
  rw [if_neg (by decide), if_neg (by decide), if_neg (by decide), if_pos (by decide)]
theorem ordF_h {W : Wd} {x k y : Int32} : ordF W (nI 104) x k y = sPaF W 1 := by
  unfold ordF
  rw [if_neg (by decide), if_neg (by decide), if_neg (by decide), if_neg (by decide)]
theorem ordW_h {W : Wd} {x k y : Int32} : ordW W (nI 104) x k y = foW (sPaF W 1) W (paTo W 1) := by
  unfold ordW
  rw [if_neg (by decide), if_neg (by decide), if_neg (by decide), if_neg (by decide)]
theorem mRec_r {V : Vd} {st a : Nat} (h : a ≠ 0) : (mRec V st).2.2 a = V.2.2 a := yR_set h
theorem mRec_0 {V : Vd} {st j : Nat} (h : j ≠ 2) : (mRec V st).2.2 0 j = V.2.2 0 j := ySet_k h
theorem mRec_st {V : Vd} {st : Nat} : (mRec V st).2.2 0 2 = nI (min (st + 1) 5) := ySet_at (Y := V.2.2) (a := 0) (k := 2)
/-- the digits that an order has are those that count -/
theorem ord_dig {W : Wd} {n p q : Nat} {sg : Nat → Int32} {d : Nat → Int32} {ch : Nat} (hch : sg p = nI ch) (hc : ch < 256) (hpq : p < q) (hq : q ≤ n) (hn : n ≤ 80) (hd : dOf (sg p) = nI (q - p - 1)) (hj : ∀ j, j < q - p - 1 → d j = sg (p + 1 + j) - 48) : ordF W (sg p) (d 0) (d 1) (d 2) = ordF W (tSg n sg p) (tDg n sg (p + 1)) (tDg n sg (p + 2)) (tDg n sg (p + 3)) ∧ ordW W (sg p) (d 0) (d 1) (d 2) = ordB W n sg p := by
  have e : ∀ j, j < q - p - 1 → d j = tDg n sg (p + (j + 1)) := fun j h => by
    rw [hj j h, tDg_at (by omega)]
    rw [show p + 1 + j = p + (j + 1) by omega]
  rw [ordB, tSg_at (by omega), hch]
  rw [hch] at hd
  have mk : ∀ x : Nat, x ≤ 3 → dOf (nI ch) = nI x → q - p - 1 = x ∨ 3 < q - p - 1 := fun x hx h => by
    rcases Nat.lt_or_ge 3 (q - p - 1) with z | z
    · exact Or.inr z
    · exact Or.inl ((nI_eq (by omega) (by omega)).mp (hd.symm.trans h))
  rcases dOf_no ch hc with rfl | rfl | rfl | rfl | rfl | h'
  · have := mk 3 (by decide) (by decide)
    rw [e 0 (by omega), e 1 (by omega), e 2 (by omega)]
    exact ⟨rfl, rfl⟩
  · have := mk 3 (by decide) (by decide)
    rw [e 0 (by omega), e 1 (by omega), e 2 (by omega)]
    exact ⟨rfl, rfl⟩
  · have := mk 2 (by decide) (by decide)
    rw [e 0 (by omega), e 1 (by omega), ordF_p, ordF_p, ordW_p, ordW_p]
    exact ⟨rfl, rfl⟩
  · have := mk 2 (by decide) (by decide)
    rw [e 0 (by omega), e 1 (by omega), ordF_f, ordF_f, ordW_f, ordW_f]
    exact ⟨rfl, rfl⟩
  · rw [ordF_h, ordF_h, ordW_h, ordW_h]
    exact ⟨rfl, rfl⟩
  · exact absurd (hd.symm.trans h') (fun z => nI_pos (n := q - p - 1) (by omega) (by rw [z]; decide))
theorem l_co38T {G : xG} {s : xA} {m : Nat} {V : Vd} {Q : Option Value → Vd → Prop} {ls : List (Nat × Value)} (kk : mE G MX10_carryOut 41 ls [] s m V Q) : mE G MX10_carryOut 38 ls [.int 1] s m V Q := by
  refine x_if_eq (tgt := 59) (k := 23) rfl (by decide) (fun c38 => absurd c38 (by decide)) (fun c38 => ?_)
  exact kk
theorem l_mco {G : xG} {s : xA} {m f nt nk n B : Nat} {V1 : Vd} (hx : TxM n V1) (hB : B ≤ 511) : ∀ (d p : Nat) (c : Int32) (hr sz : Nat) (W : Wd) (V : Vd) (ls : List (Nat × Value)), n - p < d → p < n → CoI V1 hr f nt nk W V → V.2.2 0 5 = nI p → tFa (V1.2.2 1) n (n - p) (-1) = -9 → tBg n (V1.2.2 1) p → Gd hr f nt nk W → W 4 0 0 = nI sz → sz + (n - p) ≤ B → (∀ q ∈ [(0, .ref m), (2, .int c), (3, .int 1)], ls.lookup q.1 = some q.2) → mE G MX10_carryOut 30 ls [] s m V (CoE V1 f nt nk B (coTo n (V1.2.2 1) (n - p) c W)) := by
  intro d
  induction d with
  | zero =>
    intro p c hr sz W V ls hd hp hI h5 hf hb hG hz hzB g
    exact absurd hd (Nat.not_lt_zero _)
  | succ d ih =>
    intro p c hr sz W V ls hd hp hI h5 hf hb hG hz hzB g
    have h80 := hx.1
    have hxV : TxM n V := ⟨hx.1, hI.1.2.2.1.trans hx.2.1, fun k hk => by rw [hI.1.2.2.2]; exact hx.2.2 k hk⟩
    refine x_sub (ls' := [(0, .ref m), (2, .int c), (3, .int 1)]) g ?_
    refine x_iload_n (k := 19) rfl rfl ?_
    refine x_if_eq (tgt := 107) (k := 20) rfl (by decide) (fun c31 => absurd c31 (by decide)) (fun c31 => ?_)
    refine x_aload_n (k := 21) rfl rfl ?_
    refine m_callX (ci := 10) (k := 22) rfl (by rfl) (m_passesOrder hxV (p := p) (by omega) h5) okX10_passesOrder viX10_passesOrder mlRX10_182 ⟨Nat.le_of_ble_eq_true rfl, Nat.le_of_ble_eq_true rfl⟩ (by exact Nat.le_of_ble_eq_true rfl) rfl rfl mG0 (by exact Nat.le_of_ble_eq_true rfl) (fun r1 V1a q1 => ?_)
    obtain ⟨ok, q, rfl, b1, b2, b3, b4, b5⟩ := q1
    rw [hI.1.2.2.2] at b4 b5
    cases ok with
    | false => exact absurd ((b4 rfl).symm.trans hf) (fun z => nI_pos (n := q) (by omega) (by rw [z]; decide))
    | true =>
      obtain ⟨b6, b7, b8, b9, b10, b11⟩ := b5 rfl
      have hI1 := hI.tf b1
      obtain ⟨ch, hch, ech⟩ := hx.2.2 p (by omega)
      have hdig := ord_dig (W := W) (d := V1a.2.2 2) ech hch b6 b3 hx.1 b9 (fun j hj => (b11 j hj).1)
      have e60 : ordY W V1a = ordF W (tSg n (V1.2.2 1) p) (tDg n (V1.2.2 1) (p + 1)) (tDg n (V1.2.2 1) (p + 2)) (tDg n (V1.2.2 1) (p + 3)) := by rw [ordY, b8]; exact hdig.1
      have eX : ordX W V1a = ordB W n (V1.2.2 1) p := by rw [ordX, b8]; exact hdig.2
      have hco := co_ord (c := c) (W := W) b6 b3 hb b10 (fun j hj => (b11 j hj).2)
      have hok := ord_ok hG (tSg n (V1.2.2 1) p) (tDg n (V1.2.2 1) (p + 1)) (tDg n (V1.2.2 1) (p + 2)) (tDg n (V1.2.2 1) (p + 3))
      rw [← e60] at hok
      have ex4 : V1a.2.2 0 4 = nI n := hI1.1.2.2.1.trans hx.2.1
      have gls : ∀ q ∈ ([(0, .ref m), (2, .int c)] : List (Nat × Value)), List.lookup q.1 ([(0, .ref m), (2, .int c), (3, .int 1)] : List (Nat × Value)) = some q.2 := (by intro q hq; simp only [List.mem_cons, List.not_mem_nil, or_false] at hq; rcases hq with rfl | rfl <;> rfl)
      refine l_co38T ?_
      have kF : ordY W V1a < 0 → ∀ ls, (∀ q ∈ [(0, .ref m), (2, .int c)], ls.lookup q.1 = some q.2) → mE G MX10_carryOut 60 ls [.int 0] s m V1a (CoE V1 f nt nk B (coTo n (V1.2.2 1) (n - p) c W)) := fun hlt ls g => l_co60F (p := p) g (fun x => by
        rcases hok with ⟨-, h2, h3⟩ | ⟨h1, -⟩
        · rw [hco, if_pos h2, show ordB W n (V1.2.2 1) p = W from h3]
          exact ⟨rfl, hI1.1.1, (mSc_0 (by decide)).trans ((mSc_0 (by decide)).trans hI1.1.2.1), mSc_at, hI1.2.1, hr, sz, hI1.2.2, hG, hz, by omega⟩
        · exact absurd hlt h1)
      have kT : ¬ ordY W V1a < 0 → ∀ (hr' : Nat) (V' : Vd) (ls : List (Nat × Value)), hr' ≤ 500 → Gd hr' f nt nk (ordX W V1a) → Ch V1a hr' f nt nk (ordX W V1a) V' → (∀ q ∈ [(0, .ref m), (2, .int c)], ls.lookup q.1 = some q.2) → mE G MX10_carryOut 60 ls [.int 1] s m V' (CoE V1 f nt nk B (coTo n (V1.2.2 1) (n - p) c W)) := fun hge hr' V' ls h5' hG' hC' g => by
        rcases hok with ⟨h1, -⟩ | ⟨-, h2, -, hsz⟩
        · exact absurd h1 hge
        · obtain ⟨sz', s1, s2, s3⟩ := hsz sz (by omega) hz
          have hI2 := hI1.ch hC'
          rw [eX] at hI2 hG'
          rw [hco, if_neg h2]
          refine l_co60T g b3 hx.1 (by rw [hC'.1]; exact ex4) (by rw [hC'.1]; exact b2) (fun e => ?_) (fun hlt2 ls2 g2 => ?_) (fun e => ?_)
          · rw [if_pos e]
            exact ⟨rfl, hI2.1.1, (mSc_0 (by decide)).trans ((mSc_0 (by decide)).trans hI2.1.2.1), mSc_at, hI2.2.1, hr', sz', hI2.2.2, hG', s3, by omega⟩
          · have h59 : V1.2.2 1 q = 59 ∧ tFa (V1.2.2 1) n (n - (q + 1)) (-1) = -9 := by
              rw [b7, tFa_sep (by omega)] at hf
              by_cases z : V1.2.2 1 q = 59
              · rw [if_pos z] at hf
                exact ⟨z, hf⟩
              · rw [if_neg z] at hf
                exact absurd hf (fun z => nI_pos (n := q) (by omega) (by rw [z]; decide))
            rw [if_neg (by omega)]
            exact ih (q + 1) (c + 1) hr' sz' (ordB W n (V1.2.2 1) p) _ ls2 (by omega) hlt2 (hI2.tf (tF.rf.sc (Or.inl rfl))) mSc_at h59.2 (Or.inr (by rw [show q + 1 - 1 = q by omega, tSg_at (by omega)]; exact h59.1)) hG' s3 (by omega) g2
          · have h59 : tFa (V1.2.2 1) n (n - (q + 1)) (-1) = -9 := by
              rw [b7, tFa_sep (by omega)] at hf
              by_cases z : V1.2.2 1 q = 59
              · rw [if_pos z] at hf
                exact hf
              · rw [if_neg z] at hf
                exact absurd hf (fun z => nI_pos (n := q) (by omega) (by rw [z]; decide))
            rw [e, tFa_nn (by decide)] at h59
            have := hx.1
            exact nI_pos (n := n) (by omega) (by rw [h59]; decide)
      rw [ech] at b8 b9
      rcases dOf_no ch hch with rfl | rfl | rfl | rfl | rfl | h'
      · exact l_co41g hI1.2.2 hG hz (by omega) gls kF kT b8
      · exact l_co41t hI1.2.2 hG hz (by omega) gls kF kT b8
      · exact l_co41p hI1.2.2 hG hz (by omega) gls kF kT b8
      · exact l_co41f hI1.2.2 hG hz (by omega) gls kF kT b8
      · exact l_co41h hI1.2.2 hG hz (by omega) gls kF kT b8
      · rw [h'] at b9
        exact absurd b9.symm (fun z => nI_pos (n := q - p - 1) (by have := hx.1; omega) (by rw [z]; decide))
theorem l_co4F {G : xG} {s : xA} {m : Nat} {V : Vd} {Q : Option Value → Vd → Prop} {ls : List (Nat × Value)} {v : Int32} (g : ls.lookup 0 = some (.ref m)) (hv : ¬ v = -9) (hQ : Q (some (.int (-1000 - v))) V) : mE G MX10_carryOut 4 ls [.int v] s m V Q := by
  refine x_sub (ls' := [(0, .ref m)]) (by simp [*]) ?_
  refine x_istore_n (k := 2) rfl (by decide) ?_
  refine x_iload_n (k := 3) rfl rfl ?_
  refine x_bipush (v := -9) (k := 4) rfl (by decide) ?_
  refine x_icmp_eq (tgt := 17) (k := 5) rfl (by decide) (fun c8 => absurd c8 hv) (fun c8 => ?_)
  refine x_sipush (v := -1000) (k := 6) rfl (by decide) ?_
  refine x_iload_n (k := 7) rfl rfl ?_
  refine x_isub (k := 8) rfl ?_
  exact m_irZ (k := 9) rfl rfl rfl hQ
theorem m_carryOutF {G : xG} {s : xA} {m : Nat} {V : Vd} {n : Nat} (hx : TxM n V) (hf : ¬ tFa (V.2.2 1) n n (-1) = -9) : mMe G MX10_carryOut [.ref m] s m V (fun r V' => r = some (.int (-1000 - tFa (V.2.2 1) n n (-1))) ∧ tF V V') := by
  refine x_aload_n (k := 0) rfl rfl ?_
  refine m_callX (ci := 10) (k := 1) rfl (by rfl) (m_faultOf hx) okX10_faultOf viX10_faultOf mlRX10_186 ⟨Nat.le_of_ble_eq_true rfl, Nat.le_of_ble_eq_true rfl⟩ (by exact Nat.le_of_ble_eq_true rfl) rfl rfl mG0 (by exact Nat.le_of_ble_eq_true rfl) (fun r1 V1 q1 => ?_)
  obtain ⟨rfl, b1⟩ := q1
  exact l_co4F rfl hf ⟨rfl, b1⟩
theorem l_co4T {G : xG} {s : xA} {m st : Nat} {V : Vd} {Q : Option Value → Vd → Prop} {ls : List (Nat × Value)} (hs : V.2.2 0 2 = nI st) (hst : st ≤ 5) (g : ls.lookup 0 = some (.ref m)) (kk : ∀ ls : List (Nat × Value), (∀ q ∈ [(0, .ref m), (2, .int 0), (3, .int 1)], ls.lookup q.1 = some q.2) → mE G MX10_carryOut 30 ls [] s m (mSc (mRec V st) 5 0) Q) : mE G MX10_carryOut 4 ls [.int (-9)] s m V Q := by
  refine x_sub (ls' := [(0, .ref m)]) (by simp [*]) ?_
  refine x_istore_n (k := 2) rfl (by decide) ?_
  refine x_iload_n (k := 3) rfl rfl ?_
  refine x_bipush (v := -9) (k := 4) rfl (by decide) ?_
  refine x_icmp_eq (tgt := 17) (k := 5) rfl (by decide) (fun c8 => ?_) (fun c8 => absurd c8 (by decide))
  refine x_aload_n (k := 10) rfl rfl ?_
  refine m_callV (ci := 10) (k := 11) rfl (by rfl) (m_records hs hst) okX10_records viX10_records mlRX10_48 ⟨Nat.le_of_ble_eq_true rfl, Nat.le_of_ble_eq_true rfl⟩ (by exact Nat.le_of_ble_eq_true rfl) rfl rfl mG0 (by exact Nat.le_of_ble_eq_true rfl) ?_
  refine x_iconst (v := 0) (k := 12) rfl (by decide) ?_
  refine x_istore_n (k := 13) rfl (by decide) ?_
  refine x_aload_n (k := 14) rfl rfl ?_
  refine x_iconst (v := 0) (k := 15) rfl (by decide) ?_
  refine m_put (k := 16) rfl flRX10_172 ft10_5 (by decide) rfl ?_
  refine x_iconst (v := 1) (k := 17) rfl (by decide) ?_
  refine x_istore_n (k := 18) rfl (by decide) ?_
  exact kk _ (by intro q hq; simp only [List.mem_cons, List.not_mem_nil, or_false] at hq; rcases hq with rfl | rfl | rfl <;> rfl)
theorem m_carryOut {G : xG} {s : xA} {m : Nat} {V : Vd} {st n hr f nt nk sz B : Nat} {W : Wd} (hs : V.2.2 0 2 = nI st) (hst : st ≤ 5) (hx : TxM n V) (hf : tFa (V.2.2 1) n n (-1) = -9) (hF : RF hr f nt nk W V.1) (hG : Gd hr f nt nk W) (hz : W 4 0 0 = nI sz) (hB : B ≤ 511) (hzB : sz + n ≤ B) : mMe G MX10_carryOut [.ref m] s m V (CoE (mRec V st) f nt nk B (coTo n (V.2.2 1) n 0 W)) := by
  have h80 := hx.1
  refine x_aload_n (k := 0) rfl rfl ?_
  refine m_callX (ci := 10) (k := 1) rfl (by rfl) (m_faultOf hx) okX10_faultOf viX10_faultOf mlRX10_186 ⟨Nat.le_of_ble_eq_true rfl, Nat.le_of_ble_eq_true rfl⟩ (by exact Nat.le_of_ble_eq_true rfl) rfl rfl mG0 (by exact Nat.le_of_ble_eq_true rfl) (fun r1 V2 q1 => ?_)
  obtain ⟨rfl, b1⟩ := q1
  rw [hf]
  have hn : 0 < n := by
    rcases Nat.eq_zero_or_pos n with z | z
    · subst z
      rw [show tFa (V.2.2 1) 0 0 (-1) = nI 0 from if_neg (by decide)] at hf
      exact absurd hf (by decide)
    · exact z
  refine l_co4T (st := st) (b1.2.2.1.trans hs) hst rfl (fun ls g => ?_)
  have eR : mRec V st = (V.1, rcK st V.2.1 V.1, ySet V.2.2 0 2 (nI (min (st + 1) 5))) := rfl
  have e1 : (mRec V st).2.2 1 = V.2.2 1 := mRec_r (by decide)
  have hxR : TxM n (mRec V st) := ⟨hx.1, (mRec_0 (by decide)).trans hx.2.1, fun k hk => by rw [e1]; exact hx.2.2 k hk⟩
  have hI : CoI (mRec V st) hr f nt nk W (mSc (mRec V2 st) 5 0) := by
    refine ⟨⟨?_, ?_, ?_, ?_⟩, fun j hj => ?_, ?_⟩
    · show rcK st V2.2.1 V2.1 = rcK st V.2.1 V.1
      rw [b1.1, b1.2.1]
    · exact (mSc_0 (by decide)).trans (mRec_st.trans mRec_st.symm)
    · exact (mSc_0 (by decide)).trans (((mRec_0 (by decide)).trans b1.2.2.2.1).trans (mRec_0 (by decide)).symm)
    · exact (mSc_r (by decide)).trans (((mRec_r (by decide)).trans b1.2.2.2.2).trans e1.symm)
    · exact congrFun b1.1 j
    · show RF hr f nt nk W V2.1
      rw [b1.1]
      exact hF
  have := l_mco (G := G) (s := s) (m := m) (V1 := mRec V st) hxR hB (n + 1) 0 0 hr sz W _ ls (by omega) hn hI mSc_at (by rw [e1]; exact hf) (Or.inl rfl) hG hz (by omega) g
  rw [e1] at this
  exact this
