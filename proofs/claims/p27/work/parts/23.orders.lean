-- ===== orders; a text carried out =====
theorem neg1 : (-1 : Int32) < 0 := by decide
theorem neg2 : (-2 : Int32) < 0 := by decide
theorem neg3 : (-3 : Int32) < 0 := by decide
theorem sHoF_ge {W : Wd} {g n t : Int32} (h : ¬ sHoF W g n t < 0) : (gP g ∧ kP W n ∧ gP t ∧ ¬ g = t) ∧ huw W (ix n) g ∧ tog W g t ∧ ¬ 3 ≤ sHeld W t := by
  unfold sHoF at h
  by_cases c1 : ¬ gP g ∨ ¬ kP W n ∨ ¬ gP t ∨ g = t
  · rw [if_pos c1] at h
    exact absurd neg1 h
  · rw [if_neg c1] at h
    by_cases c2 : huw W (ix n) g ∧ tog W g t ∧ ¬ 3 ≤ sHeld W t
    · refine ⟨⟨?_, ?_, ?_, fun e => c1 (Or.inr (Or.inr (Or.inr e)))⟩, c2⟩
      · exact Decidable.byContradiction fun z => c1 (Or.inl z)
      · exact Decidable.byContradiction fun z => c1 (Or.inr (Or.inl z))
      · exact Decidable.byContradiction fun z => c1 (Or.inr (Or.inr (Or.inl z)))
    · rw [if_neg c2] at h
      exact absurd neg2 h
theorem sPuF_ge {W : Wd} {p n : Int32} (h : ¬ sPuF W p n < 0) : (gP p ∧ kP W n) ∧ huw W (ix n) p ∧ ¬ W 0 (ix p) 2 = -9 ∧ ¬ 3 ≤ sHeld W (10 + W 0 (ix p) 2) := by
  unfold sPuF at h
  by_cases c1 : ¬ gP p ∨ ¬ kP W n
  · rw [if_pos c1] at h
    exact absurd neg1 h
  · rw [if_neg c1] at h
    by_cases c2 : ¬ huw W (ix n) p ∨ W 0 (ix p) 2 = -9
    · rw [if_pos c2] at h
      exact absurd neg2 h
    · rw [if_neg c2] at h
      by_cases c3 : 3 ≤ sHeld W (10 + W 0 (ix p) 2)
      · rw [if_pos c3] at h
        exact absurd neg3 h
      · exact ⟨⟨Decidable.byContradiction fun z => c1 (Or.inl z), Decidable.byContradiction fun z => c1 (Or.inr z)⟩, Decidable.byContradiction fun z => c2 (Or.inl z), fun z => c2 (Or.inr z), c3⟩
theorem sFeF_ge {W : Wd} {p n : Int32} (h : ¬ sFeF W p n < 0) : (gP p ∧ kP W n) ∧ ¬ W 0 (ix p) 2 = -9 ∧ huw W (ix n) (10 + W 0 (ix p) 2) ∧ ¬ 3 ≤ sHeld W p := by
  unfold sFeF at h
  by_cases c1 : ¬ gP p ∨ ¬ kP W n
  · rw [if_pos c1] at h
    exact absurd neg1 h
  · rw [if_neg c1] at h
    by_cases c2 : ¬ W 0 (ix p) 2 = -9 ∧ huw W (ix n) (10 + W 0 (ix p) 2) ∧ ¬ 3 ≤ sHeld W p
    · exact ⟨⟨Decidable.byContradiction fun z => c1 (Or.inl z), Decidable.byContradiction fun z => c1 (Or.inr z)⟩, c2⟩
    · rw [if_neg c2] at h
      exact absurd neg2 h
def foR (f v : Int32) : Int32 := if f < 0 then f else v
def foW (f : Int32) (W W' : Wd) : Wd := if f < 0 then W else W'
theorem foR_f {f v : Int32} (h : f < 0) : foR f v = f := if_pos h
theorem foR_o {f v : Int32} (h : ¬ f < 0) : foR f v = v := if_neg h
theorem foW_f {f : Int32} {W W' : Wd} (h : f < 0) : foW f W W' = W := if_pos h
theorem foW_o {f : Int32} {W W' : Wd} (h : ¬ f < 0) : foW f W W' = W' := if_neg h
/-- an order: its letter, its three digits -/
def ordR (W : Wd) (c x k y : Int32) : Int32 :=
  if c = 103 then foR (sHoF W x k y) (bz (fit (wSet W 2 (ix k) 8 y) (ix k))) else if c = 116 then foR (sHoF W y k x) (bz (fit (wSet W 2 (ix k) 9 x) (ix k)))
  else if c = 112 then foR (sPuF W x k) (sHeld (sPut W (ix x) (ix k)) (10 + W 0 (ix x) 2)) else if c = 102 then foR (sFeF W x k) (sHeld (sFet W (ix x) (ix k)) (10 + sFet W (ix x) (ix k) 0 (ix x) 2)) else foR (sPaF W 1) (pcTo W 1)
def ordW (W : Wd) (c x k y : Int32) : Wd :=
  if c = 103 then foW (sHoF W x k y) W (sGav W (ix k) y) else if c = 116 then foW (sHoF W y k x) W (sTok W (ix k) x)
  else if c = 112 then foW (sPuF W x k) W (sPut W (ix x) (ix k)) else if c = 102 then foW (sFeF W x k) W (sFet W (ix x) (ix k)) else foW (sPaF W 1) W (paTo W 1)
/-- what must hold of a world that orders change -/
def oPre (W : Wd) : Prop := (∀ k, k < cK W → isP (W 2 k 0)) ∧ ∀ t, t < cT W → isP (W 1 t 0)
theorem sw_g : Op.lookupswitch.offset [(102, 140), (103, 42), (112, 109), (116, 76)] 171 (nI 103).toInt = 42 := by decide
theorem sw_no : ∀ c : Nat, c < 256 → c = 102 ∨ c = 103 ∨ c = 112 ∨ c = 116 ∨ Op.lookupswitch.offset [(102, 140), (103, 42), (112, 109), (116, 76)] 171 (nI c).toInt = 171 := by decide +kernel
abbrev foQ (G : xG) (t : xA) (a : Nat) (v : Int32) (W' : Wd) : Option Value → xA → Prop := fun r t1 => r = some (.int v) ∧ t1 = setW G t (a + 2) W'
