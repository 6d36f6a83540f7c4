-- ===== orders; a text carried out =====
theorem neg1 : (-1 : Int32) < 0 := by decide
theorem neg2 : (-2 : Int32) < 0 := by decide
theorem neg3 : (-3 : Int32) < 0 := by decide
theorem sHoF_ge {W : Wd} {g n t : Int32} (h : ¬ sHoF W g n t < 0) : (gP g ∧ kP W n ∧ gP t ∧ ¬ g = t) ∧ huw W (ix n) g ∧ tog W g t ∧ ¬ 3 ≤ sHeld W t := by
  unfold sHoF at h
  by_cases c1 : ¬ gP g ∨ ¬ kP W n ∨ ¬ gP t ∨ g = t
  · rw [if_pos c1] at h
    exact absurd neg1 h
  · rw [if_neg c1] at h
    by_cases c2 : huw W (ix n) g ∧ tog W g t ∧ ¬ 3 ≤ sHeld W t
    · refine ⟨⟨?_, ?_, ?_, fun e => c1 (Or.inr (Or.inr (Or.inr e)))⟩, c2⟩
      · exact Decidable.byContradiction fun z => c1 (Or.inl z)
      · exact Decidable.byContradiction fun z => c1 (Or.inr (Or.inl z))
      · exact Decidable.byContradiction fun z => c1 (Or.inr (Or.inr (Or.inl z)))
    · rw [if_neg c2] at h
      exact absurd neg2 h
theorem sPuF_ge {W : Wd} {p n : Int32} (h : ¬ sPuF W p n < 0) : (gP p ∧ kP W n) ∧ huw W (ix n) p ∧ ¬ W 0 (ix p) 2 = -9 ∧ ¬ 3 ≤ sHeld W (10 + W 0 (ix p) 2) := by
  unfold sPuF at h
  by_cases c1 : ¬ gP p ∨ ¬ kP W n
  · rw [if_pos c1] at h
    exact absurd neg1 h
  · rw [if_neg c1] at h
    by_cases c2 : ¬ huw W (ix n) p ∨ W 0 (ix p) 2 = -9
    · rw [if_pos c2] at h
      exact absurd neg2 h
    · rw [if_neg c2] at h
      by_cases c3 : 3 ≤ sHeld W (10 + W 0 (ix p) 2)
      · rw [if_pos c3] at h
        exact absurd neg3 h
      · exact ⟨⟨Decidable.byContradiction fun z => c1 (Or.inl z), Decidable.byContradiction fun z => c1 (Or.inr z)⟩, Decidable.byContradiction fun z => c2 (Or.inl z), fun z => c2 (Or.inr z), c3⟩
theorem sFeF_ge {W : Wd} {p n : Int32} (h : ¬ sFeF W p n < 0) : (gP p ∧ kP W n) ∧ ¬ W 0 (ix p) 2 = -9 ∧ huw W (ix n) (10 + W 0 (ix p) 2) ∧ ¬ 3 ≤ sHeld W p := by
  unfold sFeF at h
  by_cases c1 : ¬ gP p ∨ ¬ kP W n
  · rw [if_pos c1] at h
    exact absurd neg1 h
  · rw [if_neg c1] at h
    by_cases c2 : ¬ W 0 (ix p) 2 = -9 ∧ huw W (ix n) (10 + W 0 (ix p) 2) ∧ ¬ 3 ≤ sHeld W p
    · exact ⟨⟨Decidable.byContradiction fun z => c1 (Or.inl z), Decidable.byContradiction fun z => c1 (Or.inr z)⟩, c2⟩
    · rw [if_neg c2] at h
      exact absurd neg2 h
def foR (f v : Int32) : Int32 := if f < 0 then f else v
def foW (f : Int32) (W W' : Wd) : Wd := if f < 0 then W else W'
theorem foR_f {f v : Int32} (h : f < 0) : foR f v = f := if_pos h
theorem foR_o {f v : Int32} (h : ¬ f < 0) : foR f v = v := if_neg h
theorem foW_f {f : Int32} {W W' : Wd} (h : f < 0) : foW f W W' = W := if_pos h
theorem foW_o {f : Int32} {W W' : Wd} (h : ¬ f < 0) : foW f W W' = W' := if_neg h
/-- an order: its letter, its three digits -/
def ordR (W : Wd) (c x k y : Int32) : Int32 :=
  if c = 103 then foR (sHoF W x k y) (bz (fit (wSet W 2 (ix k) 8 y) (ix k))) else if c = 116 then foR (sHoF W y k x) (bz (fit (wSet W 2 (ix k) 9 x) (ix k)))
  else if c = 112 then foR (sPuF W x k) (sHeld (sPut W (ix x) (ix k)) (10 + W 0 (ix x) 2)) else if c = 102 then foR (sFeF W x k) (sHeld (sFet W (ix x) (ix k)) (10 + sFet W (ix x) (ix k) 0 (ix x) 2)) else foR (sPaF W 1) (pcTo W 1)
def ordW (W : Wd) (c x k y : Int32) : Wd :=
  if c = 103 then foW (sHoF W x k y) W (sGav W (ix k) y) else if c = 116 then foW (sHoF W y k x) W (sTok W (ix k) x)
  else if c = 112 then foW (sPuF W x k) W (sPut W (ix x) (ix k)) else if c = 102 then foW (sFeF W x k) W (sFet W (ix x) (ix k)) else foW (sPaF W 1) W (paTo W 1)
/-- what must hold of a world that orders change -/
def oPre (W : Wd) : Prop := (∀ k, k < cK W → isP (W 2 k 0)) ∧ ∀ t, t < cT W → isP (W 1 t 0)
theorem sw_g : Op.lookupswitch.offset [(102, 140), (103, 42), (112, 109), (116, 76)] 171 (nI 103).toInt = 42 := by decide
theorem sw_no : ∀ c : Nat, c < 256 → c = 102 ∨ c = 103 ∨ c = 112 ∨ c = 116 ∨ Op.lookupswitch.offset [(102, 140), (103, 42), (112, 109), (116, 76)] 171 (nI c).toInt = 171 := by decide +kernel
abbrev foQ (G : xG) (t : xA) (a : Nat) (v : Int32) (W' : Wd) : Option Value → xA → Prop := fun r t1 => r = some (.int v) ∧ t1 = setW G t (a + 2) W'

theorem l_folG {G : xG} {t : xA} {own : Nat → Nat} {a : Nat} {D : OD} (h : Ob G t own a D) {x k y : Int32} (hp : oPre D.1.1) (ls : List (Nat × Value)) (g0 : ls.lookup 0 = some (.ref a)) (g2 : ls.lookup 2 = some (.int x)) (g3 : ls.lookup 3 = some (.int k)) (g4 : ls.lookup 4 = some (.int y)) : xE G MX9_followOrder 84 ls [] t (foQ G t a (foR (sHoF D.1.1 x k y) (bz (fit (wSet D.1.1 2 (ix k) 8 y) (ix k)))) (foW (sHoF D.1.1 x k y) D.1.1 (sGav D.1.1 (ix k) y))) := by
  refine x_sub (ls' := [(0, .ref a), (2, .int x), (3, .int k), (4, .int y)]) (by simp [*]) ?_
  refine x_aload_n (k := 26) rfl rfl ?_
  refine x_get (k := 27) rfl flRX9_20 h.1.1 rfl ?_
  refine x_iload_n (k := 28) rfl rfl ?_
  refine x_iload_n (k := 29) rfl rfl ?_
  refine x_iload (k := 30) rfl rfl ?_
  refine x_cVI (ci := 8) (k := 31) rfl (by rfl) (wI_lk h.W (c_handoverFault h.hK _ _ _)) okX8_handoverFault viX8_handoverFault mlRX9_77 ⟨Nat.le_of_ble_eq_true rfl, Nat.le_of_ble_eq_true rfl⟩ (by exact Nat.le_of_ble_eq_true rfl) rfl rfl (isW_0 h.W) (by exact Nat.le_of_ble_eq_true rfl) ?_
  refine x_istore (k := 32) rfl (by decide) ?_
  refine x_iload (k := 33) rfl rfl ?_
  refine x_if_ge (tgt := 107) (k := 34) rfl (by decide) (fun c99 => ?_) (fun c99 => ?_)
  · have hf : ¬ sHoF D.1.1 x k y < 0 := Int32.not_lt.mpr c99
    rw [foR_o hf, foW_o hf]
    obtain ⟨⟨u1, u2, u3, u4⟩, u5⟩ := sHoF_ge hf
    obtain ⟨x1, hx1, rfl⟩ := gP_is u1
    obtain ⟨y1, hy1, rfl⟩ := gP_is u3
    obtain ⟨k1, hk1, hk2, rfl⟩ := kP_is h.hK u2
    obtain ⟨b, hb, eb⟩ := hp.1 k1 hk1
    have ek : ix (nI k1) = k1 := nI_clamp (by omega)
    rw [ek]
    refine x_aload_n (k := 37) rfl rfl ?_
    refine x_get (k := 38) rfl flRX9_20 h.1.1 rfl ?_
    refine x_iload_n (k := 39) rfl rfl ?_
    refine x_iload (k := 40) rfl rfl ?_
    refine x_cVI (ci := 8) (k := 41) rfl (by rfl) (wI_at h.W (c_sayGiven hk2 hy1 hb eb h.hT h.iOk)) okX8_sayGiven viX8_sayGiven mlRX9_81 ⟨Nat.le_of_ble_eq_true rfl, Nat.le_of_ble_eq_true rfl⟩ (by exact Nat.le_of_ble_eq_true rfl) rfl rfl (isW_0 h.W) (by exact Nat.le_of_ble_eq_true rfl) ?_
    first | (refine x_iret (k := 42) rfl rfl rfl ⟨by rw [foR_f hf], ?_⟩; rw [foW_f hf, isW_self h.W]; done) | exact x_iret (k := 42) rfl rfl rfl ⟨rfl, rfl⟩
  · have hf : sHoF D.1.1 x k y < 0 := Int32.not_le.mp c99
    refine x_iload (k := 35) rfl rfl ?_
    refine x_goto (tgt := 117) (k := 36) rfl (by decide) ?_
    first | (refine x_iret (k := 42) rfl rfl rfl ⟨by rw [foR_f hf], ?_⟩; rw [foW_f hf, isW_self h.W]; done) | exact x_iret (k := 42) rfl rfl rfl ⟨rfl, rfl⟩
theorem l_folT {G : xG} {t : xA} {own : Nat → Nat} {a : Nat} {D : OD} (h : Ob G t own a D) {x k y : Int32} (hp : oPre D.1.1) (ls : List (Nat × Value)) (g0 : ls.lookup 0 = some (.ref a)) (g2 : ls.lookup 2 = some (.int x)) (g3 : ls.lookup 3 = some (.int k)) (g4 : ls.lookup 4 = some (.int y)) : xE G MX9_followOrder 118 ls [] t (foQ G t a (foR (sHoF D.1.1 y k x) (bz (fit (wSet D.1.1 2 (ix k) 9 x) (ix k)))) (foW (sHoF D.1.1 y k x) D.1.1 (sTok D.1.1 (ix k) x))) := by
  refine x_sub (ls' := [(0, .ref a), (2, .int x), (3, .int k), (4, .int y)]) (by simp [*]) ?_
  refine x_aload_n (k := 43) rfl rfl ?_
  refine x_get (k := 44) rfl flRX9_20 h.1.1 rfl ?_
  refine x_iload (k := 45) rfl rfl ?_
  refine x_iload_n (k := 46) rfl rfl ?_
  refine x_iload_n (k := 47) rfl rfl ?_
  refine x_cVI (ci := 8) (k := 48) rfl (by rfl) (wI_lk h.W (c_handoverFault h.hK _ _ _)) okX8_handoverFault viX8_handoverFault mlRX9_77 ⟨Nat.le_of_ble_eq_true rfl, Nat.le_of_ble_eq_true rfl⟩ (by exact Nat.le_of_ble_eq_true rfl) rfl rfl (isW_0 h.W) (by exact Nat.le_of_ble_eq_true rfl) ?_
  refine x_istore (k := 49) rfl (by decide) ?_
  refine x_iload (k := 50) rfl rfl ?_
  refine x_if_ge (tgt := 141) (k := 51) rfl (by decide) (fun c133 => ?_) (fun c133 => ?_)
  · have hf : ¬ sHoF D.1.1 y k x < 0 := Int32.not_lt.mpr c133
    rw [foR_o hf, foW_o hf]
    obtain ⟨⟨u1, u2, u3, u4⟩, u5⟩ := sHoF_ge hf
    obtain ⟨x1, hx1, rfl⟩ := gP_is u3
    obtain ⟨y1, hy1, rfl⟩ := gP_is u1
    obtain ⟨k1, hk1, hk2, rfl⟩ := kP_is h.hK u2
    obtain ⟨b, hb, eb⟩ := hp.1 k1 hk1
    have ek : ix (nI k1) = k1 := nI_clamp (by omega)
    rw [ek]
    refine x_aload_n (k := 54) rfl rfl ?_
    refine x_get (k := 55) rfl flRX9_20 h.1.1 rfl ?_
    refine x_iload_n (k := 56) rfl rfl ?_
    refine x_iload_n (k := 57) rfl rfl ?_
    refine x_cVI (ci := 8) (k := 58) rfl (by rfl) (wI_at h.W (c_sayTaken hk2 hx1 hb eb h.hT h.iOk)) okX8_sayTaken viX8_sayTaken mlRX9_85 ⟨Nat.le_of_ble_eq_true rfl, Nat.le_of_ble_eq_true rfl⟩ (by exact Nat.le_of_ble_eq_true rfl) rfl rfl (isW_0 h.W) (by exact Nat.le_of_ble_eq_true rfl) ?_
    first | (refine x_iret (k := 59) rfl rfl rfl ⟨by rw [foR_f hf], ?_⟩; rw [foW_f hf, isW_self h.W]; done) | exact x_iret (k := 59) rfl rfl rfl ⟨rfl, rfl⟩
  · have hf : sHoF D.1.1 y k x < 0 := Int32.not_le.mp c133
    refine x_iload (k := 52) rfl rfl ?_
    refine x_goto (tgt := 150) (k := 53) rfl (by decide) ?_
    first | (refine x_iret (k := 59) rfl rfl rfl ⟨by rw [foR_f hf], ?_⟩; rw [foW_f hf, isW_self h.W]; done) | exact x_iret (k := 59) rfl rfl rfl ⟨rfl, rfl⟩
theorem l_folP {G : xG} {t : xA} {own : Nat → Nat} {a : Nat} {D : OD} (h : Ob G t own a D) {x k y : Int32} (hp : oPre D.1.1) (ls : List (Nat × Value)) (g0 : ls.lookup 0 = some (.ref a)) (g2 : ls.lookup 2 = some (.int x)) (g3 : ls.lookup 3 = some (.int k)) (g4 : ls.lookup 4 = some (.int y)) : xE G MX9_followOrder 151 ls [] t (foQ G t a (foR (sPuF D.1.1 x k) (sHeld (sPut D.1.1 (ix x) (ix k)) (10 + D.1.1 0 (ix x) 2))) (foW (sPuF D.1.1 x k) D.1.1 (sPut D.1.1 (ix x) (ix k)))) := by
  refine x_sub (ls' := [(0, .ref a), (2, .int x), (3, .int k), (4, .int y)]) (by simp [*]) ?_
  refine x_aload_n (k := 60) rfl rfl ?_
  refine x_get (k := 61) rfl flRX9_20 h.1.1 rfl ?_
  refine x_iload_n (k := 62) rfl rfl ?_
  refine x_iload_n (k := 63) rfl rfl ?_
  refine x_cVI (ci := 8) (k := 64) rfl (by rfl) (wI_lk h.W (c_putInFault h.hK _ _)) okX8_putInFault viX8_putInFault mlRX9_88 ⟨Nat.le_of_ble_eq_true rfl, Nat.le_of_ble_eq_true rfl⟩ (by exact Nat.le_of_ble_eq_true rfl) rfl rfl (isW_0 h.W) (by exact Nat.le_of_ble_eq_true rfl) ?_
  refine x_istore (k := 65) rfl (by decide) ?_
  refine x_iload (k := 66) rfl rfl ?_
  refine x_if_ge (tgt := 172) (k := 67) rfl (by decide) (fun c164 => ?_) (fun c164 => ?_)
  · have hf : ¬ sPuF D.1.1 x k < 0 := Int32.not_lt.mpr c164
    rw [foR_o hf, foW_o hf]
    obtain ⟨⟨u1, u2⟩, u5⟩ := sPuF_ge hf
    obtain ⟨x1, hx1, rfl⟩ := gP_is u1
    obtain ⟨k1, hk1, hk2, rfl⟩ := kP_is h.hK u2
    obtain ⟨b, hb, eb⟩ := hp.1 k1 hk1
    have ek : ix (nI k1) = k1 := nI_clamp (by omega)
    have ex : ix (nI x1) = x1 := nI_clamp (by omega)
    rw [ek, ex]
    refine x_aload_n (k := 70) rfl rfl ?_
    refine x_get (k := 71) rfl flRX9_20 h.1.1 rfl ?_
    refine x_iload_n (k := 72) rfl rfl ?_
    refine x_iload_n (k := 73) rfl rfl ?_
    refine x_cVI (ci := 8) (k := 74) rfl (by rfl) (wI_at h.W (c_putIntoLocker hk2 hx1 h.iOk h.hK)) okX8_putIntoLocker viX8_putIntoLocker mlRX9_91 ⟨Nat.le_of_ble_eq_true rfl, Nat.le_of_ble_eq_true rfl⟩ (by exact Nat.le_of_ble_eq_true rfl) rfl rfl (isW_0 h.W) (by exact Nat.le_of_ble_eq_true rfl) ?_
    first | (refine x_iret (k := 75) rfl rfl rfl ⟨by rw [foR_f hf], ?_⟩; rw [foW_f hf, isW_self h.W]; done) | exact x_iret (k := 75) rfl rfl rfl ⟨rfl, rfl⟩
  · have hf : sPuF D.1.1 x k < 0 := Int32.not_le.mp c164
    refine x_iload (k := 68) rfl rfl ?_
    refine x_goto (tgt := 181) (k := 69) rfl (by decide) ?_
    first | (refine x_iret (k := 75) rfl rfl rfl ⟨by rw [foR_f hf], ?_⟩; rw [foW_f hf, isW_self h.W]; done) | exact x_iret (k := 75) rfl rfl rfl ⟨rfl, rfl⟩
theorem l_folF {G : xG} {t : xA} {own : Nat → Nat} {a : Nat} {D : OD} (h : Ob G t own a D) {x k y : Int32} (hp : oPre D.1.1) (ls : List (Nat × Value)) (g0 : ls.lookup 0 = some (.ref a)) (g2 : ls.lookup 2 = some (.int x)) (g3 : ls.lookup 3 = some (.int k)) (g4 : ls.lookup 4 = some (.int y)) : xE G MX9_followOrder 182 ls [] t (foQ G t a (foR (sFeF D.1.1 x k) (sHeld (sFet D.1.1 (ix x) (ix k)) (10 + sFet D.1.1 (ix x) (ix k) 0 (ix x) 2))) (foW (sFeF D.1.1 x k) D.1.1 (sFet D.1.1 (ix x) (ix k)))) := by
  refine x_sub (ls' := [(0, .ref a), (2, .int x), (3, .int k), (4, .int y)]) (by simp [*]) ?_
  refine x_aload_n (k := 76) rfl rfl ?_
  refine x_get (k := 77) rfl flRX9_20 h.1.1 rfl ?_
  refine x_iload_n (k := 78) rfl rfl ?_
  refine x_iload_n (k := 79) rfl rfl ?_
  refine x_cVI (ci := 8) (k := 80) rfl (by rfl) (wI_lk h.W (c_fetchFault h.hK _ _)) okX8_fetchFault viX8_fetchFault mlRX9_94 ⟨Nat.le_of_ble_eq_true rfl, Nat.le_of_ble_eq_true rfl⟩ (by exact Nat.le_of_ble_eq_true rfl) rfl rfl (isW_0 h.W) (by exact Nat.le_of_ble_eq_true rfl) ?_
  refine x_istore (k := 81) rfl (by decide) ?_
  refine x_iload (k := 82) rfl rfl ?_
  refine x_if_ge (tgt := 203) (k := 83) rfl (by decide) (fun c195 => ?_) (fun c195 => ?_)
  · have hf : ¬ sFeF D.1.1 x k < 0 := Int32.not_lt.mpr c195
    rw [foR_o hf, foW_o hf]
    obtain ⟨⟨u1, u2⟩, u5⟩ := sFeF_ge hf
    obtain ⟨x1, hx1, rfl⟩ := gP_is u1
    obtain ⟨k1, hk1, hk2, rfl⟩ := kP_is h.hK u2
    obtain ⟨b, hb, eb⟩ := hp.1 k1 hk1
    have ek : ix (nI k1) = k1 := nI_clamp (by omega)
    have ex : ix (nI x1) = x1 := nI_clamp (by omega)
    rw [ek, ex]
    refine x_aload_n (k := 86) rfl rfl ?_
    refine x_get (k := 87) rfl flRX9_20 h.1.1 rfl ?_
    refine x_iload_n (k := 88) rfl rfl ?_
    refine x_iload_n (k := 89) rfl rfl ?_
    refine x_cVI (ci := 8) (k := 90) rfl (by rfl) (wI_at h.W (c_fetchFromLocker hk2 hx1 hb eb h.hT h.iOk h.hK)) okX8_fetchFromLocker viX8_fetchFromLocker mlRX9_97 ⟨Nat.le_of_ble_eq_true rfl, Nat.le_of_ble_eq_true rfl⟩ (by exact Nat.le_of_ble_eq_true rfl) rfl rfl (isW_0 h.W) (by exact Nat.le_of_ble_eq_true rfl) ?_
    first | (refine x_iret (k := 91) rfl rfl rfl ⟨by rw [foR_f hf], ?_⟩; rw [foW_f hf, isW_self h.W]; done) | exact x_iret (k := 91) rfl rfl rfl ⟨rfl, rfl⟩
  · have hf : sFeF D.1.1 x k < 0 := Int32.not_le.mp c195
    refine x_iload (k := 84) rfl rfl ?_
    refine x_goto (tgt := 212) (k := 85) rfl (by decide) ?_
    first | (refine x_iret (k := 91) rfl rfl rfl ⟨by rw [foR_f hf], ?_⟩; rw [foW_f hf, isW_self h.W]; done) | exact x_iret (k := 91) rfl rfl rfl ⟨rfl, rfl⟩
theorem l_folH {G : xG} {t : xA} {own : Nat → Nat} {a : Nat} {D : OD} (h : Ob G t own a D) {x k y : Int32} (hp : oPre D.1.1) (ls : List (Nat × Value)) (g0 : ls.lookup 0 = some (.ref a)) (g2 : ls.lookup 2 = some (.int x)) (g3 : ls.lookup 3 = some (.int k)) (g4 : ls.lookup 4 = some (.int y)) : xE G MX9_followOrder 213 ls [] t (foQ G t a (foR (sPaF D.1.1 1) (pcTo D.1.1 1)) (foW (sPaF D.1.1 1) D.1.1 (paTo D.1.1 1))) := by
  refine x_sub (ls' := [(0, .ref a), (2, .int x), (3, .int k), (4, .int y)]) (by simp [*]) ?_
  refine x_aload_n (k := 92) rfl rfl ?_
  refine x_get (k := 93) rfl flRX9_20 h.1.1 rfl ?_
  refine x_iconst (v := 1) (k := 94) rfl (by decide) ?_
  refine x_cVI (ci := 8) (k := 95) rfl (by rfl) (wI_lk h.W (c_passFault _)) okX8_passFault viX8_passFault mlRX9_71 ⟨Nat.le_of_ble_eq_true rfl, Nat.le_of_ble_eq_true rfl⟩ (by exact Nat.le_of_ble_eq_true rfl) rfl rfl (isW_0 h.W) (by exact Nat.le_of_ble_eq_true rfl) ?_
  refine x_istore (k := 96) rfl (by decide) ?_
  refine x_iload (k := 97) rfl rfl ?_
  refine x_if_ge (tgt := 233) (k := 98) rfl (by decide) (fun c225 => ?_) (fun c225 => ?_)
  · have hf : ¬ sPaF D.1.1 1 < 0 := Int32.not_lt.mpr c225
    rw [foR_o hf, foW_o hf]
    skip
    refine x_aload_n (k := 101) rfl rfl ?_
    refine x_get (k := 102) rfl flRX9_20 h.1.1 rfl ?_
    refine x_iconst (v := 1) (k := 103) rfl (by decide) ?_
    refine x_cVI (ci := 8) (k := 104) rfl (by rfl) (wI_at h.W (c_passHours (n := 1) (by omega) h.hT hp.2)) okX8_passHours viX8_passHours mlRX9_74 ⟨Nat.le_of_ble_eq_true rfl, Nat.le_of_ble_eq_true rfl⟩ (by exact Nat.le_of_ble_eq_true rfl) rfl rfl (isW_0 h.W) (by exact Nat.le_of_ble_eq_true rfl) ?_
    first | (refine x_iret (k := 105) rfl rfl rfl ⟨by rw [foR_f hf], ?_⟩; rw [foW_f hf, isW_self h.W]; done) | exact x_iret (k := 105) rfl rfl rfl ⟨rfl, rfl⟩
  · have hf : sPaF D.1.1 1 < 0 := Int32.not_le.mp c225
    refine x_iload (k := 99) rfl rfl ?_
    refine x_goto (tgt := 241) (k := 100) rfl (by decide) ?_
    first | (refine x_iret (k := 105) rfl rfl rfl ⟨by rw [foR_f hf], ?_⟩; rw [foW_f hf, isW_self h.W]; done) | exact x_iret (k := 105) rfl rfl rfl ⟨rfl, rfl⟩
theorem c_follow {G : xG} {t : xA} {own : Nat → Nat} {a : Nat} {D : OD} (h : Ob G t own a D) (hp : oPre D.1.1) {p : Nat} (hpl : p < 100) : xMe G MX9_followOrder [.ref a, .int (nI p)] t (foQ G t a (ordR D.1.1 (tSg D.2.2.1.1 D.2.2.1.2 p) (tDg D.2.2.1.1 D.2.2.1.2 (p + 1)) (tDg D.2.2.1.1 D.2.2.1.2 (p + 2)) (tDg D.2.2.1.1 D.2.2.1.2 (p + 3))) (ordW D.1.1 (tSg D.2.2.1.1 D.2.2.1.2 p) (tDg D.2.2.1.1 D.2.2.1.2 (p + 1)) (tDg D.2.2.1.1 D.2.2.1.2 (p + 2)) (tDg D.2.2.1.1 D.2.2.1.2 (p + 3)))) := by
  obtain ⟨c, hc, ec⟩ : ∃ c : Nat, c < 256 ∧ tSg D.2.2.1.1 D.2.2.1.2 p = nI c := by
    unfold tSg
    split
    · rename_i hh
      exact h.2.2.2.1.1.2.2 p hh
    · exact ⟨59, by omega, rfl⟩
  refine x_aload_n (k := 0) rfl rfl ?_
  refine x_get (k := 1) rfl flRX9_31 h.1.1 rfl ?_
  refine x_iload_n (k := 2) rfl rfl ?_
  refine x_iconst (v := 1) (k := 3) rfl (by decide) ?_
  refine x_iadd (k := 4) rfl ?_
  refine x_top (show nI p + 1 = nI (p + 1) from nI_add p 1) ?_
  refine x_cVI (ci := 5) (k := 5) rfl (by rfl) (c_digit h.2.2.2.1.1 (p := p + 1) (by omega)) okX5_digit viX5_digit mlRX9_235 ⟨Nat.le_of_ble_eq_true rfl, Nat.le_of_ble_eq_true rfl⟩ (by exact Nat.le_of_ble_eq_true rfl) rfl rfl h.2.2.2.1.1.1.1 (by exact Nat.le_of_ble_eq_true rfl) ?_
  refine x_istore_n (k := 6) rfl (by decide) ?_
  refine x_aload_n (k := 7) rfl rfl ?_
  refine x_get (k := 8) rfl flRX9_31 h.1.1 rfl ?_
  refine x_iload_n (k := 9) rfl rfl ?_
  refine x_iconst (v := 2) (k := 10) rfl (by decide) ?_
  refine x_iadd (k := 11) rfl ?_
  refine x_top (show nI p + 2 = nI (p + 2) from nI_add p 2) ?_
  refine x_cVI (ci := 5) (k := 12) rfl (by rfl) (c_digit h.2.2.2.1.1 (p := p + 2) (by omega)) okX5_digit viX5_digit mlRX9_235 ⟨Nat.le_of_ble_eq_true rfl, Nat.le_of_ble_eq_true rfl⟩ (by exact Nat.le_of_ble_eq_true rfl) rfl rfl h.2.2.2.1.1.1.1 (by exact Nat.le_of_ble_eq_true rfl) ?_
  refine x_istore_n (k := 13) rfl (by decide) ?_
  refine x_aload_n (k := 14) rfl rfl ?_
  refine x_get (k := 15) rfl flRX9_31 h.1.1 rfl ?_
  refine x_iload_n (k := 16) rfl rfl ?_
  refine x_iconst (v := 3) (k := 17) rfl (by decide) ?_
  refine x_iadd (k := 18) rfl ?_
  refine x_top (show nI p + 3 = nI (p + 3) from nI_add p 3) ?_
  refine x_cVI (ci := 5) (k := 19) rfl (by rfl) (c_digit h.2.2.2.1.1 (p := p + 3) (by omega)) okX5_digit viX5_digit mlRX9_235 ⟨Nat.le_of_ble_eq_true rfl, Nat.le_of_ble_eq_true rfl⟩ (by exact Nat.le_of_ble_eq_true rfl) rfl rfl h.2.2.2.1.1.1.1 (by exact Nat.le_of_ble_eq_true rfl) ?_
  refine x_istore (k := 20) rfl (by decide) ?_
  refine x_aload_n (k := 21) rfl rfl ?_
  refine x_get (k := 22) rfl flRX9_31 h.1.1 rfl ?_
  refine x_iload_n (k := 23) rfl rfl ?_
  refine x_cVI (ci := 5) (k := 24) rfl (by rfl) (c_sign h.2.2.2.1.1 (p := p) (by omega)) okX5_sign viX5_sign mlRX9_238 ⟨Nat.le_of_ble_eq_true rfl, Nat.le_of_ble_eq_true rfl⟩ (by exact Nat.le_of_ble_eq_true rfl) rfl rfl h.2.2.2.1.1.1.1 (by exact Nat.le_of_ble_eq_true rfl) ?_
  rw [ec]
  rcases (by omega : c = 103 ∨ c = 116 ∨ c = 112 ∨ c = 102 ∨ (¬ c = 103 ∧ ¬ c = 116 ∧ ¬ c = 112 ∧ ¬ c = 102)) with rfl | rfl | rfl | rfl | hne
  · refine x_lookup (tgt := 84) (k := 25) rfl (by decide) (off := 42) (by decide) (by decide) ?_
    rw [ordR, ordW, if_pos (by decide), if_pos (by decide)]
    exact l_folG h hp _ rfl rfl rfl rfl
  · refine x_lookup (tgt := 118) (k := 25) rfl (by decide) (off := 76) (by decide) (by decide) ?_
    rw [ordR, ordW, if_neg (by decide), if_pos (by decide), if_neg (by decide), if_pos (by decide)]
    exact l_folT h hp _ rfl rfl rfl rfl
  · refine x_lookup (tgt := 151) (k := 25) rfl (by decide) (off := 109) (by decide) (by decide) ?_
    rw [ordR, ordW, if_neg (by decide), if_neg (by decide), if_pos (by decide), if_neg (by decide), if_neg (by decide), if_pos (by decide)]
    exact l_folP h hp _ rfl rfl rfl rfl
  · refine x_lookup (tgt := 182) (k := 25) rfl (by decide) (off := 140) (by decide) (by decide) ?_
    rw [ordR, ordW, if_neg (by decide), if_neg (by decide), if_neg (by decide), if_pos (by decide), if_neg (by decide), if_neg (by decide), if_neg (by decide), if_pos (by decide)]
    exact l_folF h hp _ rfl rfl rfl rfl
  · refine x_lookup (tgt := 213) (k := 25) rfl (by decide) (off := 171) (by rcases sw_no c hc with q | q | q | q | q <;> first | exact q | omega) (by decide) ?_
    have n1 : ¬ nI c = 103 := fun q => hne.1 ((nI_eq (b := 103) (by omega) (by omega)).mp q)
    have n2 : ¬ nI c = 116 := fun q => hne.2.1 ((nI_eq (b := 116) (by omega) (by omega)).mp q)
    have n3 : ¬ nI c = 112 := fun q => hne.2.2.1 ((nI_eq (b := 112) (by omega) (by omega)).mp q)
    have n4 : ¬ nI c = 102 := fun q => hne.2.2.2 ((nI_eq (b := 102) (by omega) (by omega)).mp q)
    rw [ordR, ordW, if_neg n1, if_neg n2, if_neg n3, if_neg n4, if_neg n1, if_neg n2, if_neg n3, if_neg n4]
    exact l_folH h hp _ rfl rfl rfl rfl
