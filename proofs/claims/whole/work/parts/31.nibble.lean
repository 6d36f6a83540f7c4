-- ===== nibbles of a long; who held a parcel, by the list =====
def sh4 (q : Nat) : Int64 := (nI (4 * q)).toInt64 &&& 63
def nbG (x : Int64) (q : Nat) : Int64 := (x >>> sh4 q) &&& 15
def nbP (x : Int64) (q : Nat) (c : Int64) : Int64 := (x &&& (((15 : Int64) <<< sh4 q) ^^^ (-1))) ||| (c <<< sh4 q)
abbrev lb (x : Int64) (i : Nat) : Bool := x.toBitVec.getLsbD i
theorem lb_ext {x y : Int64} (h : ∀ i, i < 64 → lb x i = lb y i) : x = y := Int64.toBitVec_inj.mp (BitVec.eq_of_getLsbD_eq (fun i hi => h i hi))
theorem lb_or (x y : Int64) (i : Nat) : lb (x ||| y) i = (lb x i || lb y i) := by unfold lb; rw [Int64.toBitVec_or, BitVec.getLsbD_or]
theorem lb_and (x y : Int64) (i : Nat) : lb (x &&& y) i = (lb x i && lb y i) := by unfold lb; rw [Int64.toBitVec_and, BitVec.getLsbD_and]
theorem lb_xor (x y : Int64) (i : Nat) : lb (x ^^^ y) i = (lb x i ^^ lb y i) := by unfold lb; rw [Int64.toBitVec_xor, BitVec.getLsbD_xor]
theorem lb_15 : ∀ i, i < 64 → lb 15 i = decide (i < 4) := by decide +kernel
theorem lb_m1 : ∀ i, i < 64 → lb (-1) i = true := by decide +kernel
theorem sh4_n : ∀ q, q < 16 → ((sh4 q).toBitVec.smod 64).toNat = 4 * q := by decide +kernel
theorem lb_shl {q : Nat} (hq : q < 16) (x : Int64) {i : Nat} (hi : i < 64) : lb (x <<< sh4 q) i = (decide (4 * q ≤ i) && lb x (i - 4 * q)) := by
  unfold lb
  rw [Int64.toBitVec_shiftLeft]
  show (x.toBitVec <<< ((sh4 q).toBitVec.smod 64).toNat).getLsbD i = _
  rw [sh4_n q hq, BitVec.getLsbD_shiftLeft]
  rcases Nat.lt_or_ge i (4 * q) with h | h
  · simp [h, Nat.not_le.mpr h]
  · simp [hi, h, Nat.not_lt.mpr h]
theorem lb_shr {q : Nat} (hq : q < 16) (x : Int64) {i : Nat} (hi : i < 4) : lb (x >>> sh4 q) i = lb x (4 * q + i) := by
  unfold lb
  rw [Int64.toBitVec_shiftRight]
  show (x.toBitVec.sshiftRight ((sh4 q).toBitVec.smod 64).toNat).getLsbD i = _
  rw [sh4_n q hq, BitVec.getLsbD_sshiftRight]
  rw [if_pos (show 4 * q + i < 64 by omega)]
  simp [show ¬ 64 ≤ i by omega]
theorem lb_nbG {q : Nat} (hq : q < 16) (x : Int64) {i : Nat} (hi : i < 64) : lb (nbG x q) i = (decide (i < 4) && lb x (4 * q + i)) := by
  unfold nbG
  rw [lb_and, lb_15 i hi]
  by_cases h : i < 4
  · rw [lb_shr hq x h]
    simp [h]
  · simp [h]
theorem nbG_same {q : Nat} (hq : q < 16) (x c : Int64) (hc : ∀ i, i < 64 → 4 ≤ i → lb c i = false) : nbG (nbP x q c) q = c := by
  apply lb_ext
  intro i hi
  rw [lb_nbG hq _ hi]
  by_cases h : i < 4
  · have h1 : 4 * q + i < 64 := by omega
    unfold nbP
    rw [lb_or, lb_and, lb_xor, lb_shl hq _ h1, lb_shl hq _ h1, lb_m1 _ h1, show 4 * q + i - 4 * q = i by omega, lb_15 i hi]
    simp [h]
  · rw [hc i hi (by omega)]
    simp [h]
theorem nbG_other {q r : Nat} (hq : q < 16) (hr : r < 16) (hne : r ≠ q) (x c : Int64) (hc : ∀ i, i < 64 → 4 ≤ i → lb c i = false) : nbG (nbP x q c) r = nbG x r := by
  apply lb_ext
  intro i hi
  rw [lb_nbG hr _ hi, lb_nbG hr _ hi]
  by_cases h : i < 4
  · have h1 : 4 * r + i < 64 := by omega
    unfold nbP
    rw [lb_or, lb_and, lb_xor, lb_shl hq _ h1, lb_shl hq _ h1, lb_m1 _ h1]
    by_cases h2 : 4 * q ≤ 4 * r + i
    · rw [lb_15 _ (by omega), hc (4 * r + i - 4 * q) (by omega) (by omega), decide_eq_false (show ¬ 4 * r + i - 4 * q < 4 by omega)]
      simp
    · simp [h2]
  · simp [h]
theorem lb_lN {c : Nat} (hc : c < 16) : ∀ i, i < 64 → 4 ≤ i → lb (lN c) i = false := (by decide +kernel : ∀ c, c < 16 → ∀ i, i < 64 → 4 ≤ i → lb (lN c) i = false) c hc
-- the list of holders
def LU (W : Wd) (k h : Nat) : Int32 := luTo W (nI k) (nI h) (ix (W 4 0 0))
theorem luTo_eq {W W' : Wd} {k h : Int32} : ∀ n, (∀ j, j < n → W' 5 0 j = W 5 0 j) → luTo W' k h n = luTo W k h n
  | 0, _ => rfl
  | n + 1, e => by
    have e1 := e n (by omega)
    simp only [luTo, luC, e1, luTo_eq n (fun j hj => e j (by omega))]
theorem LU_eq {W W' : Wd} (h4 : W' 4 0 0 = W 4 0 0) (h5 : ∀ j, j < ix (W 4 0 0) → W' 5 0 j = W 5 0 j) (k h : Nat) : LU W' k h = LU W k h := by
  unfold LU
  rw [h4, luTo_eq _ h5]
def enV (h k c : Nat) : Nat := h * 256 + k * 16 + c
theorem en_h {h k c : Nat} (hh : h ≤ 600) (hk : k < 10) (hc : c < 16) : nI (enV h k c) / 256 = nI h := by
  have e := pk_div (a := enV h k c) (d := 256) (by unfold enV; omega) (by decide) (by decide)
  rw [show enV h k c / 256 = h by unfold enV; omega] at e
  exact e
theorem en_k {h k c : Nat} (hh : h ≤ 600) (hk : k < 10) (hc : c < 16) : (nI (enV h k c) - nI (enV h k c) / 256 * 256) / 16 = nI k := by
  have e := pk_rem (a := enV h k c) (d := 256) (by unfold enV; omega) (by decide) (by decide)
  rw [show enV h k c % 256 = k * 16 + c by unfold enV; omega] at e
  have e2 := pk_div (a := k * 16 + c) (d := 16) (by omega) (by decide) (by decide)
  rw [show (k * 16 + c) / 16 = k by omega] at e2
  rw [show (256 : Int32) = nI 256 from rfl, e]
  exact e2
theorem en_c {h k c : Nat} (hh : h ≤ 600) (hk : k < 10) (hc : c < 16) : nI (enV h k c) - nI (enV h k c) / 16 * 16 = nI c := by
  have e := pk_rem (a := enV h k c) (d := 16) (by unfold enV; omega) (by decide) (by decide)
  rw [show enV h k c % 16 = c by unfold enV; omega] at e
  exact e
/-- the entries: hours up to hr, parcels below nk -/
def enOk (hr nk : Nat) (W : Wd) : Prop := ∀ j, j < ix (W 4 0 0) → ∃ h k c : Nat, h ≤ hr ∧ k < nk ∧ c < 16 ∧ W 5 0 j = nI (enV h k c)
theorem luTo_none {W : Wd} {nk k hr : Nat} {h : Int32} (h6 : hr ≤ 600) (hn : nk ≤ 10) (hk : nk ≤ k) (hk2 : k < 1000) : ∀ n, (∀ j, j < n → ∃ h k c : Nat, h ≤ hr ∧ k < nk ∧ c < 16 ∧ W 5 0 j = nI (enV h k c)) → luTo W (nI k) h n = -9
  | 0, _ => rfl
  | n + 1, e => by
    obtain ⟨h1, k1, c1, a1, a2, a3, a4⟩ := e n (by omega)
    have hC : ¬ luC W (nI k) h n := by
      intro q
      have q1 := q.1
      rw [a4, en_k (by omega) (by omega) a3, nI_eq (by omega) (by omega)] at q1
      omega
    rw [luTo, if_neg hC, luTo_none h6 hn hk hk2 n (fun j hj => e j (by omega))]
theorem LU_none {W : Wd} {nk k hr h : Nat} (he : enOk hr nk W) (h6 : hr ≤ 600) (hn : nk ≤ 10) (hk : nk ≤ k) (hk2 : k < 1000) : LU W k h = -9 := luTo_none h6 hn hk hk2 _ he
theorem luTo_late {W : Wd} {nk hr h : Nat} {k : Int32} (h6 : hr ≤ 600) (hn : nk ≤ 10) (hh : hr ≤ h) (hh2 : h < 2 ^ 31) : ∀ n, (∀ j, j < n → ∃ h k c : Nat, h ≤ hr ∧ k < nk ∧ c < 16 ∧ W 5 0 j = nI (enV h k c)) → luTo W k (nI h) n = luTo W k (nI hr) n
  | 0, _ => rfl
  | n + 1, e => by
    obtain ⟨h1, k1, c1, a1, a2, a3, a4⟩ := e n (by omega)
    have hC : luC W k (nI h) n ↔ luC W k (nI hr) n := by
      unfold luC
      rw [a4, en_h (by omega) (by omega) a3, nI_leI (by omega) hh2, nI_leI (by omega) (by omega)]
      constructor <;> rintro ⟨q1, q2⟩ <;> exact ⟨q1, by omega⟩
    have ih := luTo_late (k := k) h6 hn hh hh2 n (fun j hj => e j (by omega))
    rw [luTo, luTo, ih]
    by_cases z : luC W k (nI hr) n
    · rw [if_pos z, if_pos (hC.mpr z)]
    · rw [if_neg z, if_neg (fun q => z (hC.mp q))]
theorem LU_late {W : Wd} {nk hr h k : Nat} (he : enOk hr nk W) (h6 : hr ≤ 600) (hn : nk ≤ 10) (hh : hr ≤ h) (hh2 : h < 2 ^ 31) : LU W k h = LU W k hr := luTo_late h6 hn hh hh2 _ he
theorem sNote_4 {W : Wd} {hr k h : Int32} {n : Nat} (hn : W 4 0 0 = nI n) (h5 : n < 512) : sNote W hr k h 4 0 0 = nI (n + 1) := by
  rw [sNote, if_neg (by rw [hn]; exact nI_ge (b := 512) (by omega) (by omega)), wSet_same, hn, nI_1]
theorem sNote_5 {W : Wd} {hr k h : Int32} {n j : Nat} (hn : W 4 0 0 = nI n) (h5 : n < 512) (hj : j < n) : sNote W hr k h 5 0 j = W 5 0 j := by
  rw [sNote, if_neg (by rw [hn]; exact nI_ge (b := 512) (by omega) (by omega)), wSet_a (by decide), hn, show ix (nI n) = n from nI_clamp (by omega), wSet_k (by omega)]
theorem sNote_n {W : Wd} {hr k c : Nat} {n : Nat} (hn : W 4 0 0 = nI n) (h5 : n < 512) : sNote W (nI hr) (nI k) (nI c) 5 0 n = nI (enV hr k c) := by
  rw [sNote, if_neg (by rw [hn]; exact nI_ge (b := 512) (by omega) (by omega)), wSet_a (by decide), hn, show ix (nI n) = n from nI_clamp (by omega), wSet_same, show (256 : Int32) = nI 256 from rfl, show (16 : Int32) = nI 16 from rfl, pk_mul, pk_mul, nI_add, nI_add]
  rfl
theorem LU_note {W : Wd} {hr k c n k' h' : Nat} (hn : W 4 0 0 = nI n) (h5 : n < 512) (h6 : hr ≤ 600) (hk : k < 10) (hc : c < 16) (hk' : k' < 1000) (hh' : h' ≤ 600) : LU (sNote W (nI hr) (nI k) (nI c)) k' h' = if k = k' ∧ hr ≤ h' then nI c else LU W k' h' := by
  have e0 : ix (sNote W (nI hr) (nI k) (nI c) 4 0 0) = n + 1 := by rw [sNote_4 hn h5]; exact nI_clamp (by omega)
  have e1 : ix (W 4 0 0) = n := by rw [hn]; exact nI_clamp (by omega)
  unfold LU
  rw [e0, e1, luTo, luTo_eq n (fun j hj => sNote_5 hn h5 hj)]
  unfold luC
  rw [sNote_n hn h5, en_k h6 hk hc, en_h h6 hk hc, en_c h6 hk hc]
  by_cases z : k = k' ∧ hr ≤ h'
  · rw [if_pos z, if_pos ⟨by rw [z.1], (nI_leI (by omega) (by omega)).mpr z.2⟩]
  · rw [if_neg z, if_neg (fun q => z ⟨(nI_eq (by omega) (by omega)).mp q.1, (nI_leI (by omega) (by omega)).mp q.2⟩)]
theorem enOk_note {W : Wd} {hr nk k c n : Nat} (he : enOk hr nk W) (hn : W 4 0 0 = nI n) (h5 : n < 512) (hk : k < nk) (hc : c < 16) : enOk hr nk (sNote W (nI hr) (nI k) (nI c)) := by
  intro j hj
  rw [sNote_4 hn h5, ix, nI_clamp (by omega)] at hj
  by_cases hjn : j = n
  · exact ⟨hr, k, c, Nat.le_refl _, hk, hc, by rw [hjn]; exact sNote_n hn h5⟩
  · rw [sNote_5 hn h5 (by omega)]
    exact he j (by rw [hn, ix, nI_clamp (by omega)]; omega)
theorem enOk.up {W : Wd} {hr nk hr' nk' : Nat} (he : enOk hr nk W) (h1 : hr ≤ hr') (h2 : nk ≤ nk') : enOk hr' nk' W := fun j hj => by
  obtain ⟨h, k, c, a1, a2, a3, a4⟩ := he j hj
  exact ⟨h, k, c, by omega, by omega, a3, a4⟩
theorem enOk.eq {W W' : Wd} {hr nk : Nat} (he : enOk hr nk W) (h4 : W' 4 0 0 = W 4 0 0) (h5 : ∀ j, j < ix (W 4 0 0) → W' 5 0 j = W 5 0 j) : enOk hr nk W' := fun j hj => by
  rw [h4] at hj
  rw [h5 j hj]
  exact he j hj
-- the hours of a parcel in the model
def cdH (x : Int32) : Int64 := if x < 10 then x.toInt64 else (x - 2).toInt64
theorem isHo_c {x : Int32} (h : isHo x) : ∃ c, c < 16 ∧ x = nI c := by
  rcases h with ⟨p, hp, rfl⟩ | ⟨t, ht, rfl⟩
  · exact ⟨p, by omega, rfl⟩
  · exact ⟨10 + t, by omega, rfl⟩
theorem cdH_n {x : Int32} (h : isHo x) : ∃ c, c < 14 ∧ cdH x = lN c ∧ (if nI c < 8 then nI c else nI c + 2) = x := by
  rcases h with ⟨p, hp, rfl⟩ | ⟨t, ht, rfl⟩
  · exact ⟨p, by omega, by rw [cdH, if_pos (show nI p < 10 from nI_lt (b := 10) (by omega) (by omega)), nI_l (by omega)], if_pos (nI_lt (b := 8) (by omega) (by omega))⟩
  · refine ⟨8 + t, by omega, ?_, ?_⟩
    · rw [cdH, if_neg (show ¬ nI (10 + t) < 10 from nI_nlt (b := 10) (by omega) (by omega)), show (2 : Int32) = nI 2 from rfl, pk_sub (by omega), nI_l (by omega), show 10 + t - 2 = 8 + t by omega]
    · rw [if_neg (show ¬ nI (8 + t) < 8 from nI_nlt (b := 8) (by omega) (by omega)), show (2 : Int32) = nI 2 from rfl, nI_add, show 8 + t + 2 = 10 + t by omega]
abbrev nbA (k h : Nat) : Nat := 268 + 32 * k + h / 16
/-- up to an hour (not with it), the hours of parcel k stand in N as in the list -/
def hPa (hr : Nat) (W : Wd) (N : Nat → Int64) (k : Nat) : Prop := ∃ po : Nat, po ≤ hr ∧ N (158 + 11 * k + 10) = lN po ∧ ∀ h, h < hr → (h < po → LU W k h = -9) ∧ (po ≤ h → isHo (LU W k h) ∧ nbG (N (nbA k h)) (h % 16) = cdH (LU W k h))
/-- with that hour -/
def hNo (hr : Nat) (W : Wd) (N : Nat → Int64) (k : Nat) : Prop := LU W k hr = W 2 k 6 ∧ isHo (W 2 k 6) ∧ ∃ po : Nat, po ≤ hr ∧ N (158 + 11 * k + 10) = lN po ∧ ∀ h, h ≤ hr → (h < po → LU W k h = -9) ∧ (po ≤ h → isHo (LU W k h) ∧ nbG (N (nbA k h)) (h % 16) = cdH (LU W k h))
theorem hNo.pa {hr hr' : Nat} {W : Wd} {N : Nat → Int64} {k : Nat} (h : hNo hr W N k) (h1 : hr ≤ hr') (h2 : hr' ≤ hr + 1) : hPa hr' W N k := by
  obtain ⟨-, -, po, a1, a2, a3⟩ := h
  exact ⟨po, by omega, a2, fun h hh => a3 h (by omega)⟩
theorem hPa.eq {hr : Nat} {W W' : Wd} {N N' : Nat → Int64} {k : Nat} (h : hPa hr W N k) (hl : ∀ h, h < hr → LU W' k h = LU W k h) (hp : N' (158 + 11 * k + 10) = N (158 + 11 * k + 10)) (hN : ∀ h, h < hr → nbG (N' (nbA k h)) (h % 16) = nbG (N (nbA k h)) (h % 16)) : hPa hr W' N' k := by
  obtain ⟨po, a1, a2, a3⟩ := h
  refine ⟨po, a1, by rw [hp, a2], fun h hh => ?_⟩
  rw [hl h hh, hN h hh]
  exact a3 h hh
theorem hNo.eq {hr : Nat} {W W' : Wd} {N N' : Nat → Int64} {k : Nat} (h : hNo hr W N k) (hl : ∀ h, h ≤ hr → LU W' k h = LU W k h) (h6 : W' 2 k 6 = W 2 k 6) (hp : N' (158 + 11 * k + 10) = N (158 + 11 * k + 10)) (hN : ∀ h, h ≤ hr → N' (nbA k h) = N (nbA k h)) : hNo hr W' N' k := by
  obtain ⟨b1, b2, po, a1, a2, a3⟩ := h
  refine ⟨by rw [hl hr (Nat.le_refl _), h6, b1], by rw [h6]; exact b2, po, a1, by rw [hp, a2], fun h hh => ?_⟩
  rw [hl h hh, hN h hh]
  exact a3 h hh
/-- the holder stands for the present hour -/
def mStd (N : Nat → Int64) (k hr : Nat) (x : Int32) : Nat → Int64 := vp_updL N (nbA k hr) (nbP (N (nbA k hr)) (hr % 16) (cdH x))
theorem hPa.stand {hr : Nat} {W : Wd} {N : Nat → Int64} {k : Nat} (h : hPa hr W N k) (h6 : hr ≤ 600) (hk : k < 10) (hl : LU W k hr = W 2 k 6) (ho : isHo (W 2 k 6)) : hNo hr W (mStd N k hr (W 2 k 6)) k := by
  obtain ⟨po, a1, a2, a3⟩ := h
  obtain ⟨c, c1, c2, -⟩ := cdH_n ho
  have hb : ∀ i, i < 64 → 4 ≤ i → lb (cdH (W 2 k 6)) i = false := by rw [c2]; exact lb_lN (by omega)
  refine ⟨hl, ho, po, a1, ?_, fun h hh => ?_⟩
  · rw [mStd, vp_upL_ne (by unfold nbA; omega), a2]
  · by_cases he : h = hr
    · subst he
      refine ⟨fun q => by omega, fun q => ⟨by rw [hl]; exact ho, ?_⟩⟩
      rw [mStd, vp_upL_at, nbG_same (Nat.mod_lt _ (by decide)) _ _ hb, hl]
    · refine ⟨(a3 h (by omega)).1, fun q => ⟨((a3 h (by omega)).2 q).1, ?_⟩⟩
      rw [← ((a3 h (by omega)).2 q).2, mStd]
      by_cases hd : h / 16 = hr / 16
      · rw [show nbA k h = nbA k hr by unfold nbA; omega, vp_upL_at, nbG_other (Nat.mod_lt _ (by decide)) (Nat.mod_lt _ (by decide)) (by omega) _ _ hb]
      · rw [vp_upL_ne (by unfold nbA; omega)]
theorem mStd_ne {N : Nat → Int64} {k hr j : Nat} {x : Int32} (h : j ≠ nbA k hr) : mStd N k hr x j = N j := vp_upL_ne h
