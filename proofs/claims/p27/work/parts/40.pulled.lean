-- ===== of the work for whole: what the next parts need =====
def LU (W : Wd) (k h : Nat) : Int32 := luTo W (nI k) (nI h) (ix (W 4 0 0))
theorem luTo_eq {W W' : Wd} {k h : Int32} : ∀ n, (∀ j, j < n → W' 5 0 j = W 5 0 j) → luTo W' k h n = luTo W k h n
  | 0, _ => rfl
  | n + 1, e => by
    have e1 := e n (by omega)
    simp only [luTo, luC, e1, luTo_eq n (fun j hj => e j (by omega))]
theorem LU_eq {W W' : Wd} (h4 : W' 4 0 0 = W 4 0 0) (h5 : ∀ j, j < ix (W 4 0 0) → W' 5 0 j = W 5 0 j) (k h : Nat) : LU W' k h = LU W k h := by
  unfold LU
  rw [h4, luTo_eq _ h5]
def enV (h k c : Nat) : Nat := h * 256 + k * 16 + c
theorem en_h {h k c : Nat} (hh : h ≤ 600) (hk : k < 10) (hc : c < 16) : nI (enV h k c) / 256 = nI h := by
  have e := pk_div (a := enV h k c) (d := 256) (by unfold enV; omega) (by decide) (by decide)
  rw [show enV h k c / 256 = h by unfold enV; omega] at e
  exact e
theorem en_k {h k c : Nat} (hh : h ≤ 600) (hk : k < 10) (hc : c < 16) : (nI (enV h k c) - nI (enV h k c) / 256 * 256) / 16 = nI k := by
  have e := pk_rem (a := enV h k c) (d := 256) (by unfold enV; omega) (by decide) (by decide)
  rw [show enV h k c % 256 = k * 16 + c by unfold enV; omega] at e
  have e2 := pk_div (a := k * 16 + c) (d := 16) (by omega) (by decide) (by decide)
  rw [show (k * 16 + c) / 16 = k by omega] at e2
  rw [show (256 : Int32) = nI 256 from rfl, e]
  exact e2
theorem en_c {h k c : Nat} (hh : h ≤ 600) (hk : k < 10) (hc : c < 16) : nI (enV h k c) - nI (enV h k c) / 16 * 16 = nI c := by
  have e := pk_rem (a := enV h k c) (d := 16) (by unfold enV; omega) (by decide) (by decide)
  rw [show enV h k c % 16 = c by unfold enV; omega] at e
  exact e
theorem sNote_4 {W : Wd} {hr k h : Int32} {n : Nat} (hn : W 4 0 0 = nI n) (h5 : n < 512) : sNote W hr k h 4 0 0 = nI (n + 1) := by
  rw [sNote, if_neg (by rw [hn]; exact nI_ge (b := 512) (by omega) (by omega)), wSet_same, hn, nI_1]
theorem sNote_5 {W : Wd} {hr k h : Int32} {n j : Nat} (hn : W 4 0 0 = nI n) (h5 : n < 512) (hj : j < n) : sNote W hr k h 5 0 j = W 5 0 j := by
  rw [sNote, if_neg (by rw [hn]; exact nI_ge (b := 512) (by omega) (by omega)), wSet_a (by decide), hn, show ix (nI n) = n from nI_clamp (by omega), wSet_k (by omega)]
theorem sNote_n {W : Wd} {hr k c : Nat} {n : Nat} (hn : W 4 0 0 = nI n) (h5 : n < 512) : sNote W (nI hr) (nI k) (nI c) 5 0 n = nI (enV hr k c) := by
  rw [sNote, if_neg (by rw [hn]; exact nI_ge (b := 512) (by omega) (by omega)), wSet_a (by decide), hn, show ix (nI n) = n from nI_clamp (by omega), wSet_same, show (256 : Int32) = nI 256 from rfl, show (16 : Int32) = nI 16 from rfl, pk_mul, pk_mul, nI_add, nI_add]
  rfl
theorem LU_note {W : Wd} {hr k c n k' h' : Nat} (hn : W 4 0 0 = nI n) (h5 : n < 512) (h6 : hr ≤ 600) (hk : k < 10) (hc : c < 16) (hk' : k' < 1000) (hh' : h' ≤ 600) : LU (sNote W (nI hr) (nI k) (nI c)) k' h' = if k = k' ∧ hr ≤ h' then nI c else LU W k' h' := by
  have e0 : ix (sNote W (nI hr) (nI k) (nI c) 4 0 0) = n + 1 := by rw [sNote_4 hn h5]; exact nI_clamp (by omega)
  have e1 : ix (W 4 0 0) = n := by rw [hn]; exact nI_clamp (by omega)
  unfold LU
  rw [e0, e1, luTo, luTo_eq n (fun j hj => sNote_5 hn h5 hj)]
  unfold luC
  rw [sNote_n hn h5, en_k h6 hk hc, en_h h6 hk hc, en_c h6 hk hc]
  by_cases z : k = k' ∧ hr ≤ h'
  · rw [if_pos z, if_pos ⟨by rw [z.1], (nI_leI (by omega) (by omega)).mpr z.2⟩]
  · rw [if_neg z, if_neg (fun q => z ⟨(nI_eq (by omega) (by omega)).mp q.1, (nI_leI (by omega) (by omega)).mp q.2⟩)]
theorem isHo_c {x : Int32} (h : isHo x) : ∃ c, c < 16 ∧ x = nI c := by
  rcases h with ⟨p, hp, rfl⟩ | ⟨t, ht, rfl⟩
  · exact ⟨p, by omega, rfl⟩
  · exact ⟨10 + t, by omega, rfl⟩
theorem wSet_cm {W : Wd} {a i k a' i' k' : Nat} {v v' : Int32} (h : a ≠ a' ∨ i ≠ i' ∨ k ≠ k') : wSet (wSet W a i k v) a' i' k' v' = wSet (wSet W a' i' k' v') a i k v := by
  funext b j q
  simp only [wSet]
  by_cases h1 : b = a' ∧ j = i' ∧ q = k'
  · rw [if_pos h1, if_neg (fun z => by omega), if_pos h1]
  · rw [if_neg h1, if_neg h1]
theorem wSet_id {W : Wd} {a i k : Nat} {v : Int32} (h : W a i k = v) : wSet W a i k v = W := by
  funext b j q
  rw [wSet_r]
  by_cases z : b = a ∧ j = i ∧ q = k
  · rw [if_pos z, z.1, z.2.1, z.2.2, h]
  · rw [if_neg z]
theorem nP9 {p : Nat} (h : p < 8) : ¬ nI p = -9 := fun z => nI_pos (n := p) (by omega) (by rw [z]; decide)
theorem ixP {p : Nat} (h : p < 8) : ix (nI p) = p := clP h
theorem ixT {p : Nat} (h : p < 16) : ix (nI p) = p := clT h
def costN (q : Nat) : Nat := match q with | 0 => 0 | 1 => 2 | 2 => 5 | _ => 10
theorem costN_i (q : Nat) : iCost q = nI (costN q) := match q with | 0 => rfl | 1 => rfl | 2 => rfl | _ + 3 => rfl
theorem costN_le (q : Nat) : costN q ≤ 10 := match q with | 0 => by decide | 1 => by decide | 2 => by decide | _ + 3 => Nat.le_refl _
theorem sLoA_r {W : Wd} {k a i j : Nat} (h : a ≠ 3) : sLoA W k a i j = W a i j := wSet_a h
/-- what a claim asks of a parcel -/
def clG (W : Wd) (f k : Nat) : Prop := (∃ q : Nat, q < 4 ∧ W 2 k 4 = nI q) ∧ (W 2 k 6 < 10 → isP (W 2 k 6)) ∧ (¬ W 2 k 8 = -9 → isP (W 2 k 8)) ∧ (10 ≤ W 2 k 6 → W 2 k 8 = -9) ∧ (∃ q, q ≤ f ∧ sFund W k = nI q) ∧ ¬ sHoP W k < 0 ∧ ¬ sNaP W k < 0 ∧ isP (W 2 k 0)
def lvN (W : Wd) (t : Nat) : Nat := ix (W 1 t 3)
def arN (W : Wd) (t : Nat) : Nat := ix (W 1 t 4)
def feN (W : Wd) (t : Nat) : Nat := ix (W 1 t 5)
/-- a trip's hours and fee -/
def trG (W : Wd) (t : Nat) : Prop := W 1 t 3 = nI (lvN W t) ∧ W 1 t 4 = nI (arN W t) ∧ lvN W t < arN W t ∧ arN W t ≤ 600 ∧ W 1 t 5 = nI (feN W t) ∧ feN W t ≤ 99
/-- a parcel's holder: on the road it is on a trip, in a town on none -/
def rdG (W : Wd) (nt k : Nat) : Prop := (sTown W (W 2 k 6) = -9 ∧ ∃ p t, p < 8 ∧ t < nt ∧ W 2 k 6 = nI p ∧ sOn W (W 2 k 6) = nI t ∧ W 0 p 3 = nI t) ∨ (¬ sTown W (W 2 k 6) = -9 ∧ sOn W (W 2 k 6) = -9)
