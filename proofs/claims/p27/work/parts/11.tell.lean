-- ===== contracts: what is told, the list of holders, a lost parcel =====
theorem i_m1 (x : Int32) : x + Int32.ofInt (-1) = x - 1 := by
  rw [show (Int32.ofInt (-1)) = -1 from by decide]
  exact (Int32.sub_eq_add_neg _ _).symm
def sNum (W : Wd) (q : Nat) : Int32 := match q with
  | 0 => W 3 0 0 | 1 => W 3 0 4 | 2 => tcTo W 0 (cT W) | 3 => tcTo W 1 (cT W) | 4 => tcTo W 2 (cT W) | 5 => W 3 0 5 | 6 => kcTo W 0 (cK W) | 7 => kcTo W 1 (cK W) | 8 => kcTo W 2 (cK W)
  | 9 => W 3 0 1 | 10 => ccTo W 8 | 11 => W 3 0 2 | _ => W 3 0 3
def sPer (W : Wd) (p q : Nat) : Int32 := match q with
  | 0 => W 0 p 0 | 1 => W 0 p 1 | 2 => W 0 p 2 | 3 => W 0 p 3 | 4 => sHeld W (nI p) | _ => W 0 p 4
def sPar (W : Wd) (k q : Nat) : Int32 := match q with
  | 10 => if W 2 k 5 = 0 then sTown W (W 2 k 6) else -9
  | j => W 2 k j
abbrev luC (W : Wd) (k h : Int32) (n : Nat) : Prop := (W 5 0 n - W 5 0 n / 256 * 256) / 16 = k ∧ W 5 0 n / 256 ≤ h
def sLoA (W : Wd) (k : Nat) : Wd := wSet W 3 0 1 (W 3 0 1 - sFund W k)
def sLoB (W : Wd) (k : Nat) : Wd := if 10 ≤ W 2 k 6 then sLoA W k else wSet (sLoA W k) 0 (ix (W 2 k 6)) 1 (W 0 (ix (W 2 k 6)) 1 - sHoP W k)
def sLoC (W : Wd) (k : Nat) : Wd := if W 2 k 8 = -9 then sLoB W k else wSet (sLoB W k) 0 (ix (W 2 k 8)) 1 (sLoB W k 0 (ix (W 2 k 8)) 1 - sNaP W k)
def sLoD (W V : Wd) (k a : Nat) : Wd := wSet (wSet (wSet (wSet V 0 a 0 (W 0 a 0 + (sFund W k + sHoP W k + sNaP W k))) 2 k 5 2) 2 k 8 (-9)) 2 k 9 (-9)
def sLos (W : Wd) (k : Nat) : Wd := sLoD W (sLoC W k) k (ix (W 2 k 0))
theorem sLos_1 {W : Wd} {k : Nat} (h1 : 10 ≤ W 2 k 6) (h2 : W 2 k 8 = -9) : sLos W k = sLoD W (sLoA W k) k (ix (W 2 k 0)) := by rw [sLos, sLoC, if_pos h2, sLoB, if_pos h1]
theorem sLos_2 {W : Wd} {k : Nat} (h1 : 10 ≤ W 2 k 6) (h2 : ¬ W 2 k 8 = -9) : sLos W k = sLoD W (wSet (sLoA W k) 0 (ix (W 2 k 8)) 1 (sLoA W k 0 (ix (W 2 k 8)) 1 - sNaP W k)) k (ix (W 2 k 0)) := by rw [sLos, sLoC, if_neg h2, sLoB, if_pos h1]
theorem sLos_3 {W : Wd} {k : Nat} (h1 : ¬ 10 ≤ W 2 k 6) (h2 : W 2 k 8 = -9) : sLos W k = sLoD W (wSet (sLoA W k) 0 (ix (W 2 k 6)) 1 (W 0 (ix (W 2 k 6)) 1 - sHoP W k)) k (ix (W 2 k 0)) := by rw [sLos, sLoC, if_pos h2, sLoB, if_neg h1]
theorem sLos_4 {W : Wd} {k : Nat} (h1 : ¬ 10 ≤ W 2 k 6) (h2 : ¬ W 2 k 8 = -9) : sLos W k = sLoD W (wSet (wSet (sLoA W k) 0 (ix (W 2 k 6)) 1 (W 0 (ix (W 2 k 6)) 1 - sHoP W k)) 0 (ix (W 2 k 8)) 1 (wSet (sLoA W k) 0 (ix (W 2 k 6)) 1 (W 0 (ix (W 2 k 6)) 1 - sHoP W k) 0 (ix (W 2 k 8)) 1 - sNaP W k)) k (ix (W 2 k 0)) := by rw [sLos, sLoC, if_neg h2, sLoB, if_neg h1]
def luTo (W : Wd) (k h : Int32) : Nat → Int32
  | 0 => -9
  | n + 1 => if luC W k h n then W 5 0 n - W 5 0 n / 16 * 16 else luTo W k h n

theorem c_tell {G : xG} {s : xA} {w : Nat} {W : Wd} {t q : Nat} (ht : t < 16) (hq : q < 7) : wI G MX6_tell [.ref (w + 14 + t), .int (nI q)] s w W (W 1 t q) W := by
  refine x_iload_n (k := 0) rfl rfl ?_
  rcases (by omega : q = 0 ∨ q = 1 ∨ q = 2 ∨ q = 3 ∨ q = 4 ∨ q = 5 ∨ q = 6) with rfl | rfl | rfl | rfl | rfl | rfl | rfl
  · refine x_tableIn (tgt := 40) (k := 1) rfl (by decide) (by decide) rfl (by decide) ?_
    refine x_aload_n (k := 2) rfl rfl ?_
    refine w_fT (k := 3) rfl flRX6_9 (by first | assumption | omega) (by decide) ?_
    exact w_irD (k := 4) rfl rfl rfl rfl rfl
  · refine x_tableIn (tgt := 45) (k := 1) rfl (by decide) (by decide) rfl (by decide) ?_
    refine x_aload_n (k := 5) rfl rfl ?_
    refine w_fT (k := 6) rfl flRX6_15 (by first | assumption | omega) (by decide) ?_
    exact w_irD (k := 7) rfl rfl rfl rfl rfl
  · refine x_tableIn (tgt := 50) (k := 1) rfl (by decide) (by decide) rfl (by decide) ?_
    refine x_aload_n (k := 8) rfl rfl ?_
    refine w_fT (k := 9) rfl flRX6_18 (by first | assumption | omega) (by decide) ?_
    exact w_irD (k := 10) rfl rfl rfl rfl rfl
  · refine x_tableIn (tgt := 55) (k := 1) rfl (by decide) (by decide) rfl (by decide) ?_
    refine x_aload_n (k := 11) rfl rfl ?_
    refine w_fT (k := 12) rfl flRX6_21 (by first | assumption | omega) (by decide) ?_
    exact w_irD (k := 13) rfl rfl rfl rfl rfl
  · refine x_tableIn (tgt := 60) (k := 1) rfl (by decide) (by decide) rfl (by decide) ?_
    refine x_aload_n (k := 14) rfl rfl ?_
    refine w_fT (k := 15) rfl flRX6_24 (by first | assumption | omega) (by decide) ?_
    exact w_irD (k := 16) rfl rfl rfl rfl rfl
  · refine x_tableIn (tgt := 65) (k := 1) rfl (by decide) (by decide) rfl (by decide) ?_
    refine x_aload_n (k := 17) rfl rfl ?_
    refine w_fT (k := 18) rfl flRX6_27 (by first | assumption | omega) (by decide) ?_
    exact w_irD (k := 19) rfl rfl rfl rfl rfl
  · refine x_tableOut (tgt := 70) (k := 1) rfl (by decide) (by decide) ?_
    refine x_aload_n (k := 20) rfl rfl ?_
    refine w_fT (k := 21) rfl flRX6_30 (by first | assumption | omega) (by decide) ?_
    exact w_irD (k := 22) rfl rfl rfl rfl rfl
theorem c_tellPerson {G : xG} {s : xA} {w : Nat} {W : Wd} {p q : Nat} (hp : p < 8) (hq : q < 6) (hk : hK W) : wI G MX8_tellPerson [.ref w, .int (nI p), .int (nI q)] s w W (sPer W p q) W := by
  refine x_aload_n (k := 0) rfl rfl ?_
  refine w_getP (k := 1) rfl flRX8_11 ?_
  refine x_iload_n (k := 2) rfl rfl ?_
  refine w_atP (k := 3) rfl rfl (by first | assumption | omega) ?_
  refine x_astore_n (k := 4) rfl (by decide) ?_
  refine x_iload_n (k := 5) rfl rfl ?_
  rcases (by omega : q = 0 ∨ q = 1 ∨ q = 2 ∨ q = 3 ∨ q = 4 ∨ q = 5) with rfl | rfl | rfl | rfl | rfl | rfl
  · refine x_tableIn (tgt := 44) (k := 6) rfl (by decide) (by decide) rfl (by decide) ?_
    refine x_aload_n (k := 7) rfl rfl ?_
    refine w_fP (k := 8) rfl flRX8_143 (by first | assumption | omega) (by decide) ?_
    exact w_irD (k := 9) rfl rfl rfl rfl rfl
  · refine x_tableIn (tgt := 49) (k := 6) rfl (by decide) (by decide) rfl (by decide) ?_
    refine x_aload_n (k := 10) rfl rfl ?_
    refine w_fP (k := 11) rfl flRX8_236 (by first | assumption | omega) (by decide) ?_
    exact w_irD (k := 12) rfl rfl rfl rfl rfl
  · refine x_tableIn (tgt := 54) (k := 6) rfl (by decide) (by decide) rfl (by decide) ?_
    refine x_aload_n (k := 13) rfl rfl ?_
    refine w_fP (k := 14) rfl flRX8_79 (by first | assumption | omega) (by decide) ?_
    exact w_irD (k := 15) rfl rfl rfl rfl rfl
  · refine x_tableIn (tgt := 59) (k := 6) rfl (by decide) (by decide) rfl (by decide) ?_
    refine x_aload_n (k := 16) rfl rfl ?_
    refine w_fP (k := 17) rfl flRX8_82 (by first | assumption | omega) (by decide) ?_
    exact w_irD (k := 18) rfl rfl rfl rfl rfl
  · refine x_tableIn (tgt := 64) (k := 6) rfl (by decide) (by decide) rfl (by decide) ?_
    refine x_aload_n (k := 19) rfl rfl ?_
    refine x_iload_n (k := 20) rfl rfl ?_
    refine w_callI (ci := 8) (k := 21) rfl (by rfl) (c_heldBy _ hk) okX8_heldBy viX8_heldBy mlRX8_150 ⟨Nat.le_of_ble_eq_true rfl, Nat.le_of_ble_eq_true rfl⟩ (by exact Nat.le_of_ble_eq_true rfl) rfl rfl wG0 (by exact Nat.le_of_ble_eq_true rfl) ?_
    exact w_irD (k := 22) rfl rfl rfl rfl rfl
  · refine x_tableOut (tgt := 70) (k := 6) rfl (by decide) (by decide) ?_
    refine x_aload_n (k := 23) rfl rfl ?_
    refine w_fP (k := 24) rfl flRX8_221 (by first | assumption | omega) (by decide) ?_
    exact w_irD (k := 25) rfl rfl rfl rfl rfl
theorem c_tellParcel {G : xG} {s : xA} {w : Nat} {W : Wd} {k q : Nat} (hk : k < 10) (hq : q < 11) (hh : W 2 k 6 < 10 → isP (W 2 k 6)) : wI G MX8_tellParcel [.ref w, .int (nI k), .int (nI q)] s w W (sPar W k q) W := by
  refine x_aload_n (k := 0) rfl rfl ?_
  refine w_getK (k := 1) rfl flRX8_25 ?_
  refine x_iload_n (k := 2) rfl rfl ?_
  refine w_atK (k := 3) rfl rfl (by first | assumption | omega) ?_
  refine x_astore_n (k := 4) rfl (by decide) ?_
  refine x_iload_n (k := 5) rfl rfl ?_
  rcases (by omega : q = 0 ∨ q = 1 ∨ q = 2 ∨ q = 3 ∨ q = 4 ∨ q = 5 ∨ q = 6 ∨ q = 7 ∨ q = 8 ∨ q = 9 ∨ q = 10) with rfl | rfl | rfl | rfl | rfl | rfl | rfl | rfl | rfl | rfl | rfl
  · refine x_tableIn (tgt := 64) (k := 6) rfl (by decide) (by decide) rfl (by decide) ?_
    refine x_aload_n (k := 7) rfl rfl ?_
    refine w_fK (k := 8) rfl flRX8_153 (by first | assumption | omega) (by decide) ?_
    exact w_irD (k := 9) rfl rfl rfl (by first | rfl | (simp only [sPar]; rw [if_pos c118]; done) | (simp only [sPar]; rw [if_neg c118]; done)) rfl
  · refine x_tableIn (tgt := 69) (k := 6) rfl (by decide) (by decide) rfl (by decide) ?_
    refine x_aload_n (k := 10) rfl rfl ?_
    refine w_fK (k := 11) rfl flRX8_156 (by first | assumption | omega) (by decide) ?_
    exact w_irD (k := 12) rfl rfl rfl (by first | rfl | (simp only [sPar]; rw [if_pos c118]; done) | (simp only [sPar]; rw [if_neg c118]; done)) rfl
  · refine x_tableIn (tgt := 74) (k := 6) rfl (by decide) (by decide) rfl (by decide) ?_
    refine x_aload_n (k := 13) rfl rfl ?_
    refine w_fK (k := 14) rfl flRX8_159 (by first | assumption | omega) (by decide) ?_
    exact w_irD (k := 15) rfl rfl rfl (by first | rfl | (simp only [sPar]; rw [if_pos c118]; done) | (simp only [sPar]; rw [if_neg c118]; done)) rfl
  · refine x_tableIn (tgt := 79) (k := 6) rfl (by decide) (by decide) rfl (by decide) ?_
    refine x_aload_n (k := 16) rfl rfl ?_
    refine w_fK (k := 17) rfl flRX8_162 (by first | assumption | omega) (by decide) ?_
    exact w_irD (k := 18) rfl rfl rfl (by first | rfl | (simp only [sPar]; rw [if_pos c118]; done) | (simp only [sPar]; rw [if_neg c118]; done)) rfl
  · refine x_tableIn (tgt := 84) (k := 6) rfl (by decide) (by decide) rfl (by decide) ?_
    refine x_aload_n (k := 19) rfl rfl ?_
    refine w_fK (k := 20) rfl flRX8_165 (by first | assumption | omega) (by decide) ?_
    exact w_irD (k := 21) rfl rfl rfl (by first | rfl | (simp only [sPar]; rw [if_pos c118]; done) | (simp only [sPar]; rw [if_neg c118]; done)) rfl
  · refine x_tableIn (tgt := 89) (k := 6) rfl (by decide) (by decide) rfl (by decide) ?_
    refine x_aload_n (k := 22) rfl rfl ?_
    refine w_fK (k := 23) rfl flRX8_73 (by first | assumption | omega) (by decide) ?_
    exact w_irD (k := 24) rfl rfl rfl (by first | rfl | (simp only [sPar]; rw [if_pos c118]; done) | (simp only [sPar]; rw [if_neg c118]; done)) rfl
  · refine x_tableIn (tgt := 94) (k := 6) rfl (by decide) (by decide) rfl (by decide) ?_
    refine x_aload_n (k := 25) rfl rfl ?_
    refine w_fK (k := 26) rfl flRX8_76 (by first | assumption | omega) (by decide) ?_
    exact w_irD (k := 27) rfl rfl rfl (by first | rfl | (simp only [sPar]; rw [if_pos c118]; done) | (simp only [sPar]; rw [if_neg c118]; done)) rfl
  · refine x_tableIn (tgt := 99) (k := 6) rfl (by decide) (by decide) rfl (by decide) ?_
    refine x_aload_n (k := 28) rfl rfl ?_
    refine w_fK (k := 29) rfl flRX8_172 (by first | assumption | omega) (by decide) ?_
    exact w_irD (k := 30) rfl rfl rfl (by first | rfl | (simp only [sPar]; rw [if_pos c118]; done) | (simp only [sPar]; rw [if_neg c118]; done)) rfl
  · refine x_tableIn (tgt := 104) (k := 6) rfl (by decide) (by decide) rfl (by decide) ?_
    refine x_aload_n (k := 31) rfl rfl ?_
    refine w_fK (k := 32) rfl flRX8_191 (by first | assumption | omega) (by decide) ?_
    exact w_irD (k := 33) rfl rfl rfl (by first | rfl | (simp only [sPar]; rw [if_pos c118]; done) | (simp only [sPar]; rw [if_neg c118]; done)) rfl
  · refine x_tableIn (tgt := 109) (k := 6) rfl (by decide) (by decide) rfl (by decide) ?_
    refine x_aload_n (k := 34) rfl rfl ?_
    refine w_fK (k := 35) rfl flRX8_198 (by first | assumption | omega) (by decide) ?_
    exact w_irD (k := 36) rfl rfl rfl (by first | rfl | (simp only [sPar]; rw [if_pos c118]; done) | (simp only [sPar]; rw [if_neg c118]; done)) rfl
  · refine x_tableOut (tgt := 114) (k := 6) rfl (by decide) (by decide) ?_
    refine x_aload_n (k := 37) rfl rfl ?_
    refine w_fK (k := 38) rfl flRX8_73 (by first | assumption | omega) (by decide) ?_
    refine x_if_ne (tgt := 132) (k := 39) rfl (by decide) (fun c118 => ?_) (fun c118 => ?_)
    · refine x_bipush (v := -9) (k := 45) rfl (by decide) ?_
      exact w_irD (k := 46) rfl rfl rfl (by first | rfl | (simp only [sPar]; rw [if_pos c118]; done) | (simp only [sPar]; rw [if_neg c118]; done)) rfl
    · refine x_aload_n (k := 40) rfl rfl ?_
      refine x_aload_n (k := 41) rfl rfl ?_
      refine w_fK (k := 42) rfl flRX8_76 (by first | assumption | omega) (by decide) ?_
      refine w_callI (ci := 8) (k := 43) rfl (by rfl) (c_townOf hh) okX8_townOf viX8_townOf mlRX8_85 ⟨Nat.le_of_ble_eq_true rfl, Nat.le_of_ble_eq_true rfl⟩ (by exact Nat.le_of_ble_eq_true rfl) rfl rfl wG0 (by exact Nat.le_of_ble_eq_true rfl) ?_
      refine x_goto (tgt := 134) (k := 44) rfl (by decide) ?_
      exact w_irD (k := 46) rfl rfl rfl (by first | rfl | (simp only [sPar]; rw [if_pos c118]; done) | (simp only [sPar]; rw [if_neg c118]; done)) rfl
theorem c_number {G : xG} {s : xA} {w : Nat} {W : Wd} {q : Nat} (hq : q < 13) (hk : hK W) (ht : hT W) : wI G MX8_number [.ref w, .int (nI q)] s w W (sNum W q) W := by
  refine x_iload_n (k := 0) rfl rfl ?_
  rcases (by omega : q = 0 ∨ q = 1 ∨ q = 2 ∨ q = 3 ∨ q = 4 ∨ q = 5 ∨ q = 6 ∨ q = 7 ∨ q = 8 ∨ q = 9 ∨ q = 10 ∨ q = 11 ∨ q = 12) with rfl | rfl | rfl | rfl | rfl | rfl | rfl | rfl | rfl | rfl | rfl | rfl | rfl
  · refine x_tableIn (tgt := 64) (k := 1) rfl (by decide) (by decide) rfl (by decide) ?_
    refine x_aload_n (k := 2) rfl rfl ?_
    refine w_get (k := 3) rfl flRX8_41 (by decide) ?_
    exact w_irD (k := 4) rfl rfl rfl rfl rfl
  · refine x_tableIn (tgt := 69) (k := 1) rfl (by decide) (by decide) rfl (by decide) ?_
    refine x_aload_n (k := 5) rfl rfl ?_
    refine w_get (k := 6) rfl flRX8_54 (by decide) ?_
    exact w_irD (k := 7) rfl rfl rfl rfl rfl
  · refine x_tableIn (tgt := 74) (k := 1) rfl (by decide) (by decide) rfl (by decide) ?_
    refine x_aload_n (k := 8) rfl rfl ?_
    refine x_iconst (v := 0) (k := 9) rfl (by decide) ?_
    refine w_callI (ci := 8) (k := 10) rfl (by rfl) (c_tripsThatAre _ ht) okX8_tripsThatAre viX8_tripsThatAre mlRX8_245 ⟨Nat.le_of_ble_eq_true rfl, Nat.le_of_ble_eq_true rfl⟩ (by exact Nat.le_of_ble_eq_true rfl) rfl rfl wG0 (by exact Nat.le_of_ble_eq_true rfl) ?_
    exact w_irD (k := 11) rfl rfl rfl rfl rfl
  · refine x_tableIn (tgt := 80) (k := 1) rfl (by decide) (by decide) rfl (by decide) ?_
    refine x_aload_n (k := 12) rfl rfl ?_
    refine x_iconst (v := 1) (k := 13) rfl (by decide) ?_
    refine w_callI (ci := 8) (k := 14) rfl (by rfl) (c_tripsThatAre _ ht) okX8_tripsThatAre viX8_tripsThatAre mlRX8_245 ⟨Nat.le_of_ble_eq_true rfl, Nat.le_of_ble_eq_true rfl⟩ (by exact Nat.le_of_ble_eq_true rfl) rfl rfl wG0 (by exact Nat.le_of_ble_eq_true rfl) ?_
    exact w_irD (k := 15) rfl rfl rfl rfl rfl
  · refine x_tableIn (tgt := 86) (k := 1) rfl (by decide) (by decide) rfl (by decide) ?_
    refine x_aload_n (k := 16) rfl rfl ?_
    refine x_iconst (v := 2) (k := 17) rfl (by decide) ?_
    refine w_callI (ci := 8) (k := 18) rfl (by rfl) (c_tripsThatAre _ ht) okX8_tripsThatAre viX8_tripsThatAre mlRX8_245 ⟨Nat.le_of_ble_eq_true rfl, Nat.le_of_ble_eq_true rfl⟩ (by exact Nat.le_of_ble_eq_true rfl) rfl rfl wG0 (by exact Nat.le_of_ble_eq_true rfl) ?_
    exact w_irD (k := 19) rfl rfl rfl rfl rfl
  · refine x_tableIn (tgt := 92) (k := 1) rfl (by decide) (by decide) rfl (by decide) ?_
    refine x_aload_n (k := 20) rfl rfl ?_
    refine w_get (k := 21) rfl flRX8_57 (by decide) ?_
    exact w_irD (k := 22) rfl rfl rfl rfl rfl
  · refine x_tableIn (tgt := 97) (k := 1) rfl (by decide) (by decide) rfl (by decide) ?_
    refine x_aload_n (k := 23) rfl rfl ?_
    refine x_iconst (v := 0) (k := 24) rfl (by decide) ?_
    refine w_callI (ci := 8) (k := 25) rfl (by rfl) (c_parcelsThatAre _ hk) okX8_parcelsThatAre viX8_parcelsThatAre mlRX8_248 ⟨Nat.le_of_ble_eq_true rfl, Nat.le_of_ble_eq_true rfl⟩ (by exact Nat.le_of_ble_eq_true rfl) rfl rfl wG0 (by exact Nat.le_of_ble_eq_true rfl) ?_
    exact w_irD (k := 26) rfl rfl rfl rfl rfl
  · refine x_tableIn (tgt := 103) (k := 1) rfl (by decide) (by decide) rfl (by decide) ?_
    refine x_aload_n (k := 27) rfl rfl ?_
    refine x_iconst (v := 1) (k := 28) rfl (by decide) ?_
    refine w_callI (ci := 8) (k := 29) rfl (by rfl) (c_parcelsThatAre _ hk) okX8_parcelsThatAre viX8_parcelsThatAre mlRX8_248 ⟨Nat.le_of_ble_eq_true rfl, Nat.le_of_ble_eq_true rfl⟩ (by exact Nat.le_of_ble_eq_true rfl) rfl rfl wG0 (by exact Nat.le_of_ble_eq_true rfl) ?_
    exact w_irD (k := 30) rfl rfl rfl rfl rfl
  · refine x_tableIn (tgt := 109) (k := 1) rfl (by decide) (by decide) rfl (by decide) ?_
    refine x_aload_n (k := 31) rfl rfl ?_
    refine x_iconst (v := 2) (k := 32) rfl (by decide) ?_
    refine w_callI (ci := 8) (k := 33) rfl (by rfl) (c_parcelsThatAre _ hk) okX8_parcelsThatAre viX8_parcelsThatAre mlRX8_248 ⟨Nat.le_of_ble_eq_true rfl, Nat.le_of_ble_eq_true rfl⟩ (by exact Nat.le_of_ble_eq_true rfl) rfl rfl wG0 (by exact Nat.le_of_ble_eq_true rfl) ?_
    exact w_irD (k := 34) rfl rfl rfl rfl rfl
  · refine x_tableIn (tgt := 115) (k := 1) rfl (by decide) (by decide) rfl (by decide) ?_
    refine x_aload_n (k := 35) rfl rfl ?_
    refine w_get (k := 36) rfl flRX8_45 (by decide) ?_
    exact w_irD (k := 37) rfl rfl rfl rfl rfl
  · refine x_tableIn (tgt := 120) (k := 1) rfl (by decide) (by decide) rfl (by decide) ?_
    refine x_aload_n (k := 38) rfl rfl ?_
    refine w_callI (ci := 8) (k := 39) rfl (by rfl) (c_coinsOfAll) okX8_coinsOfAll viX8_coinsOfAll mlRX8_251 ⟨Nat.le_of_ble_eq_true rfl, Nat.le_of_ble_eq_true rfl⟩ (by exact Nat.le_of_ble_eq_true rfl) rfl rfl wG0 (by exact Nat.le_of_ble_eq_true rfl) ?_
    exact w_irD (k := 40) rfl rfl rfl rfl rfl
  · refine x_tableIn (tgt := 125) (k := 1) rfl (by decide) (by decide) rfl (by decide) ?_
    refine x_aload_n (k := 41) rfl rfl ?_
    refine w_get (k := 42) rfl flRX8_48 (by decide) ?_
    exact w_irD (k := 43) rfl rfl rfl rfl rfl
  · refine x_tableOut (tgt := 130) (k := 1) rfl (by decide) (by decide) ?_
    refine x_aload_n (k := 44) rfl rfl ?_
    refine w_get (k := 45) rfl flRX8_51 (by decide) ?_
    exact w_irD (k := 46) rfl rfl rfl rfl rfl
theorem l_lookUp {G : xG} {s : xA} {w : Nat} {W : Wd} {k h : Int32} : ∀ (n : Nat) (ls : List (Nat × Value)), n ≤ 512 → ls.lookup 0 = some (.ref (w + 4)) → ls.lookup 1 = some (.int k) → ls.lookup 2 = some (.int h) → ls.lookup 3 = some (.int (nI n - 1)) → wE G MX1_lookUp 7 ls [] s w W (fun r W1 => r = some (.int (luTo W k h n)) ∧ W1 = W) := by
  intro n
  induction n with
  | zero =>
    intro ls hn g0 g1 g2 g3
    refine x_iload_n (k := 5) rfl g3 ?_
    refine x_if_lt (tgt := 54) (k := 6) rfl (by decide) (fun c8 => ?_) (fun c8 => absurd (by decide : (nI 0 - 1 : Int32) < 0) c8)
    refine x_bipush (v := -9) (k := 30) rfl (by decide) ?_
    exact w_irD (k := 31) rfl rfl rfl rfl rfl
  | succ n ih =>
    intro ls hn g0 g1 g2 g3
    rw [nI_pred] at g3
    refine x_sub (ls' := [(0, .ref (w + 4)), (1, .int k), (2, .int h), (3, .int (nI n))]) (by simp [*]) ?_
    refine x_iload_n (k := 5) rfl rfl ?_
    refine x_if_lt (tgt := 54) (k := 6) rfl (by decide) (fun c8 => absurd c8 (nI_pos (by omega))) (fun c8 => ?_)
    refine x_aload_n (k := 7) rfl rfl ?_
    refine w_getHe (k := 8) rfl flRX1_11 ?_
    refine x_iload_n (k := 9) rfl rfl ?_
    refine w_entAt (k := 10) rfl rfl (by omega) ?_
    refine x_istore (k := 11) rfl (by decide) ?_
    refine x_iload (k := 12) rfl rfl ?_
    refine x_sipush (v := 256) (k := 13) rfl (by decide) ?_
    refine x_irem (k := 14) rfl (by decide) ?_
    refine x_bipush (v := 16) (k := 15) rfl (by decide) ?_
    refine x_idiv (k := 16) rfl (by decide) ?_
    refine x_iload_n (k := 17) rfl rfl ?_
    refine x_icmp_ne (tgt := 48) (k := 18) rfl (by decide) (fun c29 => ?_) (fun c29 => ?_)
    · refine x_iinc (k := 28) rfl rfl (i_m1 _) (by decide) ?_
      refine x_goto (tgt := 7) (k := 29) rfl (by decide) ?_
      first | rw [luTo, if_neg (fun q => absurd q.1 c29)] | rw [luTo, if_neg (fun q => absurd c39 (Int32.not_lt.mpr q.2))]
      exact ih _ (by omega) rfl rfl rfl rfl
    · refine x_iload (k := 19) rfl rfl ?_
      refine x_sipush (v := 256) (k := 20) rfl (by decide) ?_
      refine x_idiv (k := 21) rfl (by decide) ?_
      refine x_iload_n (k := 22) rfl rfl ?_
      refine x_icmp_gt (tgt := 48) (k := 23) rfl (by decide) (fun c39 => ?_) (fun c39 => ?_)
      · refine x_iinc (k := 28) rfl rfl (i_m1 _) (by decide) ?_
        refine x_goto (tgt := 7) (k := 29) rfl (by decide) ?_
        first | rw [luTo, if_neg (fun q => absurd q.1 c29)] | rw [luTo, if_neg (fun q => absurd c39 (Int32.not_lt.mpr q.2))]
        exact ih _ (by omega) rfl rfl rfl rfl
      · refine x_iload (k := 24) rfl rfl ?_
        refine x_bipush (v := 16) (k := 25) rfl (by decide) ?_
        refine x_irem (k := 26) rfl (by decide) ?_
        exact w_irD (k := 27) rfl rfl rfl (by rw [luTo, if_pos ⟨c29, Int32.not_lt.mp c39⟩]) rfl
theorem c_lookUp {G : xG} {s : xA} {w : Nat} {W : Wd} (k h : Int32) (hs : iOk W) : wI G MX1_lookUp [.ref (w + 4), .int k, .int h] s w W (luTo W k h (ix (W 4 0 0))) W := by
  obtain ⟨n, hn, en⟩ := hs
  refine x_aload_n (k := 0) rfl rfl ?_
  refine w_getHs (k := 1) rfl flRX1_15 ?_
  refine x_iconst (v := 1) (k := 2) rfl (by decide) ?_
  refine x_isub (k := 3) rfl ?_
  refine x_istore_n (k := 4) rfl (by decide) ?_
  rw [en, ix, nI_clamp (by omega)]
  exact l_lookUp n _ hn rfl rfl rfl rfl
set_option maxHeartbeats 4000000 in
theorem c_loseParcel {G : xG} {s : xA} {w : Nat} {W : Wd} {k a : Nat} (hk : k < 10) (ht : ∃ q : Nat, q < 4 ∧ W 2 k 4 = nI q) (hh : W 2 k 6 < 10 → isP (W 2 k 6)) (hg : ¬ W 2 k 8 = -9 → isP (W 2 k 8)) (ha : a < 8) (ea : W 2 k 0 = nI a) : wI G MX8_loseParcel [.ref w, .int (nI k)] s w W (sFund W k + sHoP W k + sNaP W k) (sLos W k) := by
  have e1 : ix (W 2 k 0) = a := by rw [ea]; exact clP ha
  refine x_aload_n (k := 0) rfl rfl ?_
  refine w_getK (k := 1) rfl flRX8_25 ?_
  refine x_iload_n (k := 2) rfl rfl ?_
  refine w_atK (k := 3) rfl rfl (by first | assumption | omega) ?_
  refine x_astore_n (k := 4) rfl (by decide) ?_
  refine x_aload_n (k := 5) rfl rfl ?_
  refine x_iload_n (k := 6) rfl rfl ?_
  refine w_callI (ci := 8) (k := 7) rfl (by rfl) (c_fundPays hk ht) okX8_fundPays viX8_fundPays mlRX8_230 ⟨Nat.le_of_ble_eq_true rfl, Nat.le_of_ble_eq_true rfl⟩ (by exact Nat.le_of_ble_eq_true rfl) rfl rfl wG0 (by exact Nat.le_of_ble_eq_true rfl) ?_
  refine x_istore_n (k := 8) rfl (by decide) ?_
  refine x_aload_n (k := 9) rfl rfl ?_
  refine x_iload_n (k := 10) rfl rfl ?_
  refine w_callI (ci := 8) (k := 11) rfl (by rfl) (c_holderPays hk ht hh) okX8_holderPays viX8_holderPays mlRX8_239 ⟨Nat.le_of_ble_eq_true rfl, Nat.le_of_ble_eq_true rfl⟩ (by exact Nat.le_of_ble_eq_true rfl) rfl rfl wG0 (by exact Nat.le_of_ble_eq_true rfl) ?_
  refine x_istore (k := 12) rfl (by decide) ?_
  refine x_aload_n (k := 13) rfl rfl ?_
  refine x_iload_n (k := 14) rfl rfl ?_
  refine w_callI (ci := 8) (k := 15) rfl (by rfl) (c_namedPays hk ht hg) okX8_namedPays viX8_namedPays mlRX8_242 ⟨Nat.le_of_ble_eq_true rfl, Nat.le_of_ble_eq_true rfl⟩ (by exact Nat.le_of_ble_eq_true rfl) rfl rfl wG0 (by exact Nat.le_of_ble_eq_true rfl) ?_
  refine x_istore (k := 16) rfl (by decide) ?_
  refine x_aload_n (k := 17) rfl rfl ?_
  refine x_dup (k := 18) rfl rfl ?_
  refine w_get (k := 19) rfl flRX8_45 (by decide) ?_
  refine x_iload_n (k := 20) rfl rfl ?_
  refine x_isub (k := 21) rfl ?_
  refine w_put (k := 22) rfl flRX8_45 ft8_1 (by decide) ?_
  refine x_aload_n (k := 23) rfl rfl ?_
  refine w_fK (k := 24) rfl flRX8_76 (by first | assumption | omega) (by decide) ?_
  refine x_bipush (v := 10) (k := 25) rfl (by decide) ?_
  refine x_icmp_ge (tgt := 65) (k := 26) rfl (by decide) (fun c43 => ?_) (fun c43 => ?_)
  · have a43 : 10 ≤ W 2 k 6 := c43
    refine x_aload_n (k := 37) rfl rfl ?_
    refine w_fK (k := 38) rfl flRX8_191 (by first | assumption | omega) (by decide) ?_
    refine x_bipush (v := -9) (k := 39) rfl (by decide) ?_
    refine x_icmp_eq (tgt := 93) (k := 40) rfl (by decide) (fun c71 => ?_) (fun c71 => ?_)
    · have a71 : W 2 k 8 = -9 := c71
      refine x_iload_n (k := 51) rfl rfl ?_
      refine x_iload (k := 52) rfl rfl ?_
      refine x_iadd (k := 53) rfl ?_
      refine x_iload (k := 54) rfl rfl ?_
      refine x_iadd (k := 55) rfl ?_
      refine x_istore (k := 56) rfl (by decide) ?_
      refine x_aload_n (k := 57) rfl rfl ?_
      refine w_getP (k := 58) rfl flRX8_11 ?_
      refine x_aload_n (k := 59) rfl rfl ?_
      refine w_fK (k := 60) rfl flRX8_153 (by first | assumption | omega) (by decide) ?_
      refine w_atP (k := 61) rfl ea ha ?_
      refine x_dup (k := 62) rfl rfl ?_
      refine w_fP (k := 63) rfl flRX8_143 (by first | assumption | omega) (by decide) ?_
      refine x_iload (k := 64) rfl rfl ?_
      refine x_iadd (k := 65) rfl ?_
      refine w_pP (k := 66) rfl flRX8_143 ft3_0 (by first | assumption | omega) (by decide) ?_
      refine x_aload_n (k := 67) rfl rfl ?_
      refine x_iconst (v := 2) (k := 68) rfl (by decide) ?_
      refine w_pK (k := 69) rfl flRX8_73 ft2_5 (by first | assumption | omega) (by decide) ?_
      refine x_aload_n (k := 70) rfl rfl ?_
      refine w_callV (ci := 2) (k := 71) rfl (by rfl) (c_dropWords hk) okX2_dropWords viX2_dropWords mlRX8_175 ⟨Nat.le_of_ble_eq_true rfl, Nat.le_of_ble_eq_true rfl⟩ (by exact Nat.le_of_ble_eq_true rfl) rfl rfl (wGK (by first | assumption | omega)) (by exact Nat.le_of_ble_eq_true rfl) ?_
      refine x_iload (k := 72) rfl rfl ?_
      exact w_irD (k := 73) rfl rfl rfl rfl (by first | (rw [sLos_1 a43 a71, e1]; simp [sLoD, sLoA, wSet_r]; done) | (rw [sLos_2 a43 b71, e1, e3]; simp [sLoD, sLoA, wSet_r]; done) | (rw [sLos_3 b43 a71, e1, e2]; simp [sLoD, sLoA, wSet_r]; done) | (rw [sLos_4 b43 b71, e1, e2, e3]; simp [sLoD, sLoA, wSet_r]; done))
    · have b71 : ¬ W 2 k 8 = -9 := c71
      obtain ⟨d, hd, ed⟩ := hg b71
      have e3 : ix (W 2 k 8) = d := by rw [ed]; exact clP hd
      refine x_aload_n (k := 41) rfl rfl ?_
      refine w_getP (k := 42) rfl flRX8_11 ?_
      refine x_aload_n (k := 43) rfl rfl ?_
      refine w_fK (k := 44) rfl flRX8_191 (by first | assumption | omega) (by decide) ?_
      refine w_atP (k := 45) rfl ed hd ?_
      refine x_dup (k := 46) rfl rfl ?_
      refine w_fP (k := 47) rfl flRX8_236 (by first | assumption | omega) (by decide) ?_
      refine x_iload (k := 48) rfl rfl ?_
      refine x_isub (k := 49) rfl ?_
      refine w_pP (k := 50) rfl flRX8_236 ft3_1 (by first | assumption | omega) (by decide) ?_
      refine x_iload_n (k := 51) rfl rfl ?_
      refine x_iload (k := 52) rfl rfl ?_
      refine x_iadd (k := 53) rfl ?_
      refine x_iload (k := 54) rfl rfl ?_
      refine x_iadd (k := 55) rfl ?_
      refine x_istore (k := 56) rfl (by decide) ?_
      refine x_aload_n (k := 57) rfl rfl ?_
      refine w_getP (k := 58) rfl flRX8_11 ?_
      refine x_aload_n (k := 59) rfl rfl ?_
      refine w_fK (k := 60) rfl flRX8_153 (by first | assumption | omega) (by decide) ?_
      refine w_atP (k := 61) rfl ea ha ?_
      refine x_dup (k := 62) rfl rfl ?_
      refine w_fP (k := 63) rfl flRX8_143 (by first | assumption | omega) (by decide) ?_
      refine x_iload (k := 64) rfl rfl ?_
      refine x_iadd (k := 65) rfl ?_
      refine w_pP (k := 66) rfl flRX8_143 ft3_0 (by first | assumption | omega) (by decide) ?_
      refine x_aload_n (k := 67) rfl rfl ?_
      refine x_iconst (v := 2) (k := 68) rfl (by decide) ?_
      refine w_pK (k := 69) rfl flRX8_73 ft2_5 (by first | assumption | omega) (by decide) ?_
      refine x_aload_n (k := 70) rfl rfl ?_
      refine w_callV (ci := 2) (k := 71) rfl (by rfl) (c_dropWords hk) okX2_dropWords viX2_dropWords mlRX8_175 ⟨Nat.le_of_ble_eq_true rfl, Nat.le_of_ble_eq_true rfl⟩ (by exact Nat.le_of_ble_eq_true rfl) rfl rfl (wGK (by first | assumption | omega)) (by exact Nat.le_of_ble_eq_true rfl) ?_
      refine x_iload (k := 72) rfl rfl ?_
      exact w_irD (k := 73) rfl rfl rfl rfl (by first | (rw [sLos_1 a43 a71, e1]; simp [sLoD, sLoA, wSet_r]; done) | (rw [sLos_2 a43 b71, e1, e3]; simp [sLoD, sLoA, wSet_r]; done) | (rw [sLos_3 b43 a71, e1, e2]; simp [sLoD, sLoA, wSet_r]; done) | (rw [sLos_4 b43 b71, e1, e2, e3]; simp [sLoD, sLoA, wSet_r]; done))
  · have b43 : ¬ 10 ≤ W 2 k 6 := c43
    obtain ⟨b, hb, eb⟩ := hh (Int32.not_le.mp b43)
    have e2 : ix (W 2 k 6) = b := by rw [eb]; exact clP hb
    refine x_aload_n (k := 27) rfl rfl ?_
    refine w_getP (k := 28) rfl flRX8_11 ?_
    refine x_aload_n (k := 29) rfl rfl ?_
    refine w_fK (k := 30) rfl flRX8_76 (by first | assumption | omega) (by decide) ?_
    refine w_atP (k := 31) rfl eb hb ?_
    refine x_dup (k := 32) rfl rfl ?_
    refine w_fP (k := 33) rfl flRX8_236 (by first | assumption | omega) (by decide) ?_
    refine x_iload (k := 34) rfl rfl ?_
    refine x_isub (k := 35) rfl ?_
    refine w_pP (k := 36) rfl flRX8_236 ft3_1 (by first | assumption | omega) (by decide) ?_
    refine x_aload_n (k := 37) rfl rfl ?_
    refine w_fK (k := 38) rfl flRX8_191 (by first | assumption | omega) (by decide) ?_
    refine x_bipush (v := -9) (k := 39) rfl (by decide) ?_
    refine x_icmp_eq (tgt := 93) (k := 40) rfl (by decide) (fun c71 => ?_) (fun c71 => ?_)
    · have a71 : W 2 k 8 = -9 := c71
      refine x_iload_n (k := 51) rfl rfl ?_
      refine x_iload (k := 52) rfl rfl ?_
      refine x_iadd (k := 53) rfl ?_
      refine x_iload (k := 54) rfl rfl ?_
      refine x_iadd (k := 55) rfl ?_
      refine x_istore (k := 56) rfl (by decide) ?_
      refine x_aload_n (k := 57) rfl rfl ?_
      refine w_getP (k := 58) rfl flRX8_11 ?_
      refine x_aload_n (k := 59) rfl rfl ?_
      refine w_fK (k := 60) rfl flRX8_153 (by first | assumption | omega) (by decide) ?_
      refine w_atP (k := 61) rfl ea ha ?_
      refine x_dup (k := 62) rfl rfl ?_
      refine w_fP (k := 63) rfl flRX8_143 (by first | assumption | omega) (by decide) ?_
      refine x_iload (k := 64) rfl rfl ?_
      refine x_iadd (k := 65) rfl ?_
      refine w_pP (k := 66) rfl flRX8_143 ft3_0 (by first | assumption | omega) (by decide) ?_
      refine x_aload_n (k := 67) rfl rfl ?_
      refine x_iconst (v := 2) (k := 68) rfl (by decide) ?_
      refine w_pK (k := 69) rfl flRX8_73 ft2_5 (by first | assumption | omega) (by decide) ?_
      refine x_aload_n (k := 70) rfl rfl ?_
      refine w_callV (ci := 2) (k := 71) rfl (by rfl) (c_dropWords hk) okX2_dropWords viX2_dropWords mlRX8_175 ⟨Nat.le_of_ble_eq_true rfl, Nat.le_of_ble_eq_true rfl⟩ (by exact Nat.le_of_ble_eq_true rfl) rfl rfl (wGK (by first | assumption | omega)) (by exact Nat.le_of_ble_eq_true rfl) ?_
      refine x_iload (k := 72) rfl rfl ?_
      exact w_irD (k := 73) rfl rfl rfl rfl (by first | (rw [sLos_1 a43 a71, e1]; simp [sLoD, sLoA, wSet_r]; done) | (rw [sLos_2 a43 b71, e1, e3]; simp [sLoD, sLoA, wSet_r]; done) | (rw [sLos_3 b43 a71, e1, e2]; simp [sLoD, sLoA, wSet_r]; done) | (rw [sLos_4 b43 b71, e1, e2, e3]; simp [sLoD, sLoA, wSet_r]; done))
    · have b71 : ¬ W 2 k 8 = -9 := c71
      obtain ⟨d, hd, ed⟩ := hg b71
      have e3 : ix (W 2 k 8) = d := by rw [ed]; exact clP hd
      refine x_aload_n (k := 41) rfl rfl ?_
      refine w_getP (k := 42) rfl flRX8_11 ?_
      refine x_aload_n (k := 43) rfl rfl ?_
      refine w_fK (k := 44) rfl flRX8_191 (by first | assumption | omega) (by decide) ?_
      refine w_atP (k := 45) rfl ed hd ?_
      refine x_dup (k := 46) rfl rfl ?_
      refine w_fP (k := 47) rfl flRX8_236 (by first | assumption | omega) (by decide) ?_
      refine x_iload (k := 48) rfl rfl ?_
      refine x_isub (k := 49) rfl ?_
      refine w_pP (k := 50) rfl flRX8_236 ft3_1 (by first | assumption | omega) (by decide) ?_
      refine x_iload_n (k := 51) rfl rfl ?_
      refine x_iload (k := 52) rfl rfl ?_
      refine x_iadd (k := 53) rfl ?_
      refine x_iload (k := 54) rfl rfl ?_
      refine x_iadd (k := 55) rfl ?_
      refine x_istore (k := 56) rfl (by decide) ?_
      refine x_aload_n (k := 57) rfl rfl ?_
      refine w_getP (k := 58) rfl flRX8_11 ?_
      refine x_aload_n (k := 59) rfl rfl ?_
      refine w_fK (k := 60) rfl flRX8_153 (by first | assumption | omega) (by decide) ?_
      refine w_atP (k := 61) rfl ea ha ?_
      refine x_dup (k := 62) rfl rfl ?_
      refine w_fP (k := 63) rfl flRX8_143 (by first | assumption | omega) (by decide) ?_
      refine x_iload (k := 64) rfl rfl ?_
      refine x_iadd (k := 65) rfl ?_
      refine w_pP (k := 66) rfl flRX8_143 ft3_0 (by first | assumption | omega) (by decide) ?_
      refine x_aload_n (k := 67) rfl rfl ?_
      refine x_iconst (v := 2) (k := 68) rfl (by decide) ?_
      refine w_pK (k := 69) rfl flRX8_73 ft2_5 (by first | assumption | omega) (by decide) ?_
      refine x_aload_n (k := 70) rfl rfl ?_
      refine w_callV (ci := 2) (k := 71) rfl (by rfl) (c_dropWords hk) okX2_dropWords viX2_dropWords mlRX8_175 ⟨Nat.le_of_ble_eq_true rfl, Nat.le_of_ble_eq_true rfl⟩ (by exact Nat.le_of_ble_eq_true rfl) rfl rfl (wGK (by first | assumption | omega)) (by exact Nat.le_of_ble_eq_true rfl) ?_
      refine x_iload (k := 72) rfl rfl ?_
      exact w_irD (k := 73) rfl rfl rfl rfl (by first | (rw [sLos_1 a43 a71, e1]; simp [sLoD, sLoA, wSet_r]; done) | (rw [sLos_2 a43 b71, e1, e3]; simp [sLoD, sLoA, wSet_r]; done) | (rw [sLos_3 b43 a71, e1, e2]; simp [sLoD, sLoA, wSet_r]; done) | (rw [sLos_4 b43 b71, e1, e2, e3]; simp [sLoD, sLoA, wSet_r]; done))
