-- ===== the object's calls that look; snapshots; undo; the text =====
def sCnt (D : OD) (q : Nat) : Int32 := match q with
  | 13 => fcTo D.1.2.2.1 2 | 14 => nI D.2.1.2.1 | 15 => nI D.2.2.1.1 | j => sNum D.1.1 j
def sEar (Y : Yd) (q : Nat) : Int32 := if Y 0 0 = 0 then -9 else match q with | 0 => Y 0 1 | 1 => Y 0 2 | _ => Y 0 3
theorem sEar_n {Y : Yd} {q : Nat} (h : Y 0 0 = 0) : sEar Y q = -9 := if_pos h
theorem sEar_0 {Y : Yd} (h : ¬ Y 0 0 = 0) : sEar Y 0 = Y 0 1 := if_neg h
theorem sEar_1 {Y : Yd} (h : ¬ Y 0 0 = 0) : sEar Y 1 = Y 0 2 := if_neg h
theorem sEar_2 {Y : Yd} (h : ¬ Y 0 0 = 0) : sEar Y 2 = Y 0 3 := if_neg h
def sWou (W : Wd) (k q : Nat) : Int32 := match q with | 0 => sFund W k | 1 => sHoP W k | _ => sNaP W k
section OBK
variable {G : xG} {t : xA} {own : Nat → Nat} {a : Nat} {D : OD}
theorem Ob.cell (h : Ob G t own a D) {q : Nat} (h1 : a + 2 ≤ q) (h2 : q < a + 42) : t.1 q = (Jvm.Pilot.CRelayParcelsLaw_law_r9431_5a56c4.setW G t (a + 2) D.1.1).1 q := by
  have := h.W (q - (a + 2)) (by omega)
  have e := setW_in (G := G) (s := t) (w := a + 2) (W := D.1.1) (k := q - (a + 2)) (by omega)
  rw [show a + 2 + (q - (a + 2)) = q by omega] at this e
  exact this.trans e.symm
theorem Ob.y (h : Ob G t own a D) : Jvm.Pilot.CRelayParcelsLaw_law_r9431_5a56c4.setY G t (a + 2) (a + 48) D.2.2.2 = t := by
  refine Prod.ext (funext fun q => ?_) rfl
  show (if a + 48 ≤ q ∧ q < a + 48 + 5 then some (yCell G (a + 2) (a + 48) D.2.2.2 (q - (a + 48))) else t.1 q) = t.1 q
  split
  · rename_i hq
    have := h.2.2.2.2.1 (q - (a + 48)) (by omega)
    rw [show a + 48 + (q - (a + 48)) = q by omega] at this
    exact this.symm
  · rfl
theorem Ob.yH (h : Ob G t own a D) : yH G t (a + 2) (a + 48) D.1.1 := ⟨h.W, Or.inl (by omega)⟩
/-- the ways' value is another one -/
theorem Ob.setY (h : Ob G t own a D) (Y' : Yd) : Ob G (setY G t (a + 2) (a + 48) Y') own a (D.1, D.2.1, D.2.2.1, Y') ∧ Did t (setY G t (a + 2) (a + 48) Y') own own (fun q => q = 6) 0 0 := by
  have hd : Did t (Jvm.Pilot.CRelayParcelsLaw_law_r9431_5a56c4.setY G t (a + 2) (a + 48) Y') own own (fun q => q = 6) 0 0 := ⟨fun q hq hn => setY_out (by
    by_cases hh : a + 48 ≤ q ∧ q < a + 48 + 5
    · have := h.2.2.2.2.2 (q - (a + 48)) (by omega)
      rw [show a + 48 + (q - (a + 48)) = q by omega] at this
      exact absurd this hn
    · omega), fun _ _ => rfl, Nat.le_refl _, Nat.le_refl _, Nat.le_refl _, Nat.le_refl _⟩
  exact ⟨⟨hd.ob (by decide) h.1, hd.st (by decide) h.2.1, hd.hs ⟨by decide, fun j _ => ⟨by unfold tgR; omega, by unfold tgR; omega, by unfold tgR; omega⟩⟩ h.2.2.1, hd.tx (by decide) h.1.2.2 h.2.2.2.1, fun k hk => setY_in hk, h.2.2.2.2.2⟩, hd⟩
theorem yV_at {M : xM} {As : List Value} {Y' : Yd} (h : Ob G t own a D) (hv : yV G M As t (a + 2) (a + 48) D.2.2.2 Y') : xV G M As t (Jvm.Pilot.CRelayParcelsLaw_law_r9431_5a56c4.setY G t (a + 2) (a + 48) Y') := by
  have h1 : xMe G M As (Jvm.Pilot.CRelayParcelsLaw_law_r9431_5a56c4.setY G t (a + 2) (a + 48) D.2.2.2) _ := hv
  rw [h.y] at h1
  exact h1.mono (fun r s1 q => by
    obtain ⟨Y1, e, q1, q2⟩ := q
    exact ⟨q1, by rw [e, q2]⟩)
end OBK
/-- an answer of the ways: only they are changed -/
def YaQ (G : xG) (t : xA) (own : Nat → Nat) (a : Nat) (D : OD) (v : Int32) : Option Value → xA → Prop := fun r t1 => r = some (.int v) ∧ ∃ Y1 : Yd, Ob G t1 own a (D.1, D.2.1, D.2.2.1, Y1) ∧ Did t t1 own own clsT 0 0

theorem c_countF {G : xG} {t : xA} {own : Nat → Nat} {a : Nat} {D : OD} (h : Ob G t own a D) {q : Int32} (hF : ¬ wIn q 0 15) : xMe G MX9_count [.ref a, .int q] t (nuQ t (-1)) := by
  refine x_iload_n (k := 0) rfl rfl ?_
  refine x_iconst (v := 0) (k := 1) rfl (by decide) ?_
  refine x_bipush (v := 15) (k := 2) rfl (by decide) ?_
  refine x_sD (k := 3) rfl (by rfl) (c_isWithin _ _ _) okX9_isWithin viX9_isWithin mlRX9_106 ⟨Nat.le_of_ble_eq_true rfl, Nat.le_of_ble_eq_true rfl⟩ (by exact Nat.le_of_ble_eq_true rfl) rfl (by exact Nat.le_of_ble_eq_true rfl) ?_
  refine x_if_ne (tgt := 12) (k := 4) rfl (by decide) (fun c7 => absurd (bz_ne0 c7) hF) (fun c7 => ?_)
  refine x_iconst (v := -1) (k := 5) rfl (by decide) ?_
  exact x_irD (k := 6) rfl rfl rfl rfl
theorem c_count {G : xG} {t : xA} {own : Nat → Nat} {a : Nat} {D : OD} (h : Ob G t own a D) {q : Nat} (hq : q < 16) : xMe G MX9_count [.ref a, .int (nI q)] t (nuQ t (sCnt D q)) := by
  refine x_iload_n (k := 0) rfl rfl ?_
  refine x_iconst (v := 0) (k := 1) rfl (by decide) ?_
  refine x_bipush (v := 15) (k := 2) rfl (by decide) ?_
  refine x_sD (k := 3) rfl (by rfl) (c_isWithin _ _ _) okX9_isWithin viX9_isWithin mlRX9_106 ⟨Nat.le_of_ble_eq_true rfl, Nat.le_of_ble_eq_true rfl⟩ (by exact Nat.le_of_ble_eq_true rfl) rfl (by exact Nat.le_of_ble_eq_true rfl) ?_
  refine x_if_ne (tgt := 12) (k := 4) rfl (by decide) (fun c7 => ?_) (fun c7 => absurd ⟨nI_pos (by omega), nI_nlt (a := 15) (b := q) (by omega) (by omega)⟩ (bz_eq0 c7))
  refine x_iload_n (k := 7) rfl rfl ?_
  rcases (by omega : q = 0 ∨ q = 1 ∨ q = 2 ∨ q = 3 ∨ q = 4 ∨ q = 5 ∨ q = 6 ∨ q = 7 ∨ q = 8 ∨ q = 9 ∨ q = 10 ∨ q = 11 ∨ q = 12 ∨ q = 13 ∨ q = 14 ∨ q = 15) with rfl | rfl | rfl | rfl | rfl | rfl | rfl | rfl | rfl | rfl | rfl | rfl | rfl | rfl | rfl | rfl
  · refine x_tableOut (tgt := 64) (k := 8) rfl (by decide) (by decide) ?_
    refine x_aload_n (k := 21) rfl rfl ?_
    refine x_get (k := 22) rfl flRX9_20 h.1.1 rfl ?_
    refine x_iload_n (k := 23) rfl rfl ?_
    refine x_cVI (ci := 8) (k := 24) rfl (by rfl) (wI_lk h.W (c_number (by omega) h.hK h.hT)) okX8_number viX8_number mlRX9_155 ⟨Nat.le_of_ble_eq_true rfl, Nat.le_of_ble_eq_true rfl⟩ (by exact Nat.le_of_ble_eq_true rfl) rfl rfl (isW_0 h.W) (by exact Nat.le_of_ble_eq_true rfl) ?_
    exact x_irD (k := 25) rfl rfl rfl rfl
  · refine x_tableOut (tgt := 64) (k := 8) rfl (by decide) (by decide) ?_
    refine x_aload_n (k := 21) rfl rfl ?_
    refine x_get (k := 22) rfl flRX9_20 h.1.1 rfl ?_
    refine x_iload_n (k := 23) rfl rfl ?_
    refine x_cVI (ci := 8) (k := 24) rfl (by rfl) (wI_lk h.W (c_number (by omega) h.hK h.hT)) okX8_number viX8_number mlRX9_155 ⟨Nat.le_of_ble_eq_true rfl, Nat.le_of_ble_eq_true rfl⟩ (by exact Nat.le_of_ble_eq_true rfl) rfl rfl (isW_0 h.W) (by exact Nat.le_of_ble_eq_true rfl) ?_
    exact x_irD (k := 25) rfl rfl rfl rfl
  · refine x_tableOut (tgt := 64) (k := 8) rfl (by decide) (by decide) ?_
    refine x_aload_n (k := 21) rfl rfl ?_
    refine x_get (k := 22) rfl flRX9_20 h.1.1 rfl ?_
    refine x_iload_n (k := 23) rfl rfl ?_
    refine x_cVI (ci := 8) (k := 24) rfl (by rfl) (wI_lk h.W (c_number (by omega) h.hK h.hT)) okX8_number viX8_number mlRX9_155 ⟨Nat.le_of_ble_eq_true rfl, Nat.le_of_ble_eq_true rfl⟩ (by exact Nat.le_of_ble_eq_true rfl) rfl rfl (isW_0 h.W) (by exact Nat.le_of_ble_eq_true rfl) ?_
    exact x_irD (k := 25) rfl rfl rfl rfl
  · refine x_tableOut (tgt := 64) (k := 8) rfl (by decide) (by decide) ?_
    refine x_aload_n (k := 21) rfl rfl ?_
    refine x_get (k := 22) rfl flRX9_20 h.1.1 rfl ?_
    refine x_iload_n (k := 23) rfl rfl ?_
    refine x_cVI (ci := 8) (k := 24) rfl (by rfl) (wI_lk h.W (c_number (by omega) h.hK h.hT)) okX8_number viX8_number mlRX9_155 ⟨Nat.le_of_ble_eq_true rfl, Nat.le_of_ble_eq_true rfl⟩ (by exact Nat.le_of_ble_eq_true rfl) rfl rfl (isW_0 h.W) (by exact Nat.le_of_ble_eq_true rfl) ?_
    exact x_irD (k := 25) rfl rfl rfl rfl
  · refine x_tableOut (tgt := 64) (k := 8) rfl (by decide) (by decide) ?_
    refine x_aload_n (k := 21) rfl rfl ?_
    refine x_get (k := 22) rfl flRX9_20 h.1.1 rfl ?_
    refine x_iload_n (k := 23) rfl rfl ?_
    refine x_cVI (ci := 8) (k := 24) rfl (by rfl) (wI_lk h.W (c_number (by omega) h.hK h.hT)) okX8_number viX8_number mlRX9_155 ⟨Nat.le_of_ble_eq_true rfl, Nat.le_of_ble_eq_true rfl⟩ (by exact Nat.le_of_ble_eq_true rfl) rfl rfl (isW_0 h.W) (by exact Nat.le_of_ble_eq_true rfl) ?_
    exact x_irD (k := 25) rfl rfl rfl rfl
  · refine x_tableOut (tgt := 64) (k := 8) rfl (by decide) (by decide) ?_
    refine x_aload_n (k := 21) rfl rfl ?_
    refine x_get (k := 22) rfl flRX9_20 h.1.1 rfl ?_
    refine x_iload_n (k := 23) rfl rfl ?_
    refine x_cVI (ci := 8) (k := 24) rfl (by rfl) (wI_lk h.W (c_number (by omega) h.hK h.hT)) okX8_number viX8_number mlRX9_155 ⟨Nat.le_of_ble_eq_true rfl, Nat.le_of_ble_eq_true rfl⟩ (by exact Nat.le_of_ble_eq_true rfl) rfl rfl (isW_0 h.W) (by exact Nat.le_of_ble_eq_true rfl) ?_
    exact x_irD (k := 25) rfl rfl rfl rfl
  · refine x_tableOut (tgt := 64) (k := 8) rfl (by decide) (by decide) ?_
    refine x_aload_n (k := 21) rfl rfl ?_
    refine x_get (k := 22) rfl flRX9_20 h.1.1 rfl ?_
    refine x_iload_n (k := 23) rfl rfl ?_
    refine x_cVI (ci := 8) (k := 24) rfl (by rfl) (wI_lk h.W (c_number (by omega) h.hK h.hT)) okX8_number viX8_number mlRX9_155 ⟨Nat.le_of_ble_eq_true rfl, Nat.le_of_ble_eq_true rfl⟩ (by exact Nat.le_of_ble_eq_true rfl) rfl rfl (isW_0 h.W) (by exact Nat.le_of_ble_eq_true rfl) ?_
    exact x_irD (k := 25) rfl rfl rfl rfl
  · refine x_tableOut (tgt := 64) (k := 8) rfl (by decide) (by decide) ?_
    refine x_aload_n (k := 21) rfl rfl ?_
    refine x_get (k := 22) rfl flRX9_20 h.1.1 rfl ?_
    refine x_iload_n (k := 23) rfl rfl ?_
    refine x_cVI (ci := 8) (k := 24) rfl (by rfl) (wI_lk h.W (c_number (by omega) h.hK h.hT)) okX8_number viX8_number mlRX9_155 ⟨Nat.le_of_ble_eq_true rfl, Nat.le_of_ble_eq_true rfl⟩ (by exact Nat.le_of_ble_eq_true rfl) rfl rfl (isW_0 h.W) (by exact Nat.le_of_ble_eq_true rfl) ?_
    exact x_irD (k := 25) rfl rfl rfl rfl
  · refine x_tableOut (tgt := 64) (k := 8) rfl (by decide) (by decide) ?_
    refine x_aload_n (k := 21) rfl rfl ?_
    refine x_get (k := 22) rfl flRX9_20 h.1.1 rfl ?_
    refine x_iload_n (k := 23) rfl rfl ?_
    refine x_cVI (ci := 8) (k := 24) rfl (by rfl) (wI_lk h.W (c_number (by omega) h.hK h.hT)) okX8_number viX8_number mlRX9_155 ⟨Nat.le_of_ble_eq_true rfl, Nat.le_of_ble_eq_true rfl⟩ (by exact Nat.le_of_ble_eq_true rfl) rfl rfl (isW_0 h.W) (by exact Nat.le_of_ble_eq_true rfl) ?_
    exact x_irD (k := 25) rfl rfl rfl rfl
  · refine x_tableOut (tgt := 64) (k := 8) rfl (by decide) (by decide) ?_
    refine x_aload_n (k := 21) rfl rfl ?_
    refine x_get (k := 22) rfl flRX9_20 h.1.1 rfl ?_
    refine x_iload_n (k := 23) rfl rfl ?_
    refine x_cVI (ci := 8) (k := 24) rfl (by rfl) (wI_lk h.W (c_number (by omega) h.hK h.hT)) okX8_number viX8_number mlRX9_155 ⟨Nat.le_of_ble_eq_true rfl, Nat.le_of_ble_eq_true rfl⟩ (by exact Nat.le_of_ble_eq_true rfl) rfl rfl (isW_0 h.W) (by exact Nat.le_of_ble_eq_true rfl) ?_
    exact x_irD (k := 25) rfl rfl rfl rfl
  · refine x_tableOut (tgt := 64) (k := 8) rfl (by decide) (by decide) ?_
    refine x_aload_n (k := 21) rfl rfl ?_
    refine x_get (k := 22) rfl flRX9_20 h.1.1 rfl ?_
    refine x_iload_n (k := 23) rfl rfl ?_
    refine x_cVI (ci := 8) (k := 24) rfl (by rfl) (wI_lk h.W (c_number (by omega) h.hK h.hT)) okX8_number viX8_number mlRX9_155 ⟨Nat.le_of_ble_eq_true rfl, Nat.le_of_ble_eq_true rfl⟩ (by exact Nat.le_of_ble_eq_true rfl) rfl rfl (isW_0 h.W) (by exact Nat.le_of_ble_eq_true rfl) ?_
    exact x_irD (k := 25) rfl rfl rfl rfl
  · refine x_tableOut (tgt := 64) (k := 8) rfl (by decide) (by decide) ?_
    refine x_aload_n (k := 21) rfl rfl ?_
    refine x_get (k := 22) rfl flRX9_20 h.1.1 rfl ?_
    refine x_iload_n (k := 23) rfl rfl ?_
    refine x_cVI (ci := 8) (k := 24) rfl (by rfl) (wI_lk h.W (c_number (by omega) h.hK h.hT)) okX8_number viX8_number mlRX9_155 ⟨Nat.le_of_ble_eq_true rfl, Nat.le_of_ble_eq_true rfl⟩ (by exact Nat.le_of_ble_eq_true rfl) rfl rfl (isW_0 h.W) (by exact Nat.le_of_ble_eq_true rfl) ?_
    exact x_irD (k := 25) rfl rfl rfl rfl
  · refine x_tableOut (tgt := 64) (k := 8) rfl (by decide) (by decide) ?_
    refine x_aload_n (k := 21) rfl rfl ?_
    refine x_get (k := 22) rfl flRX9_20 h.1.1 rfl ?_
    refine x_iload_n (k := 23) rfl rfl ?_
    refine x_cVI (ci := 8) (k := 24) rfl (by rfl) (wI_lk h.W (c_number (by omega) h.hK h.hT)) okX8_number viX8_number mlRX9_155 ⟨Nat.le_of_ble_eq_true rfl, Nat.le_of_ble_eq_true rfl⟩ (by exact Nat.le_of_ble_eq_true rfl) rfl rfl (isW_0 h.W) (by exact Nat.le_of_ble_eq_true rfl) ?_
    exact x_irD (k := 25) rfl rfl rfl rfl
  · refine x_tableIn (tgt := 40) (k := 8) rfl (by decide) (by decide) rfl (by decide) ?_
    refine x_aload_n (k := 9) rfl rfl ?_
    refine x_get (k := 10) rfl flRX9_10 h.1.1 rfl ?_
    refine x_cVI (ci := 4) (k := 11) rfl (by rfl) (c_filled h.2.1.1.1 h.2.1.1.2.2.2) okX4_filledSlots viX4_filledSlots mlRX9_152 ⟨Nat.le_of_ble_eq_true rfl, Nat.le_of_ble_eq_true rfl⟩ (by exact Nat.le_of_ble_eq_true rfl) rfl rfl h.2.1.1.1 (by exact Nat.le_of_ble_eq_true rfl) ?_
    exact x_irD (k := 12) rfl rfl rfl rfl
  · refine x_tableIn (tgt := 48) (k := 8) rfl (by decide) (by decide) rfl (by decide) ?_
    refine x_aload_n (k := 13) rfl rfl ?_
    refine x_get (k := 14) rfl flRX9_24 h.1.1 rfl ?_
    refine x_get (k := 15) rfl flRX9_131 h.2.2.1.1.1 rfl ?_
    exact x_irD (k := 16) rfl rfl rfl rfl
  · refine x_tableIn (tgt := 56) (k := 8) rfl (by decide) (by decide) rfl (by decide) ?_
    refine x_aload_n (k := 17) rfl rfl ?_
    refine x_get (k := 18) rfl flRX9_31 h.1.1 rfl ?_
    refine x_get (k := 19) rfl flRX9_134 h.2.2.2.1.1.1.1 rfl ?_
    exact x_irD (k := 20) rfl rfl rfl rfl
theorem c_tripF {G : xG} {t : xA} {own : Nat → Nat} {a : Nat} {D : OD} (h : Ob G t own a D) {n q : Int32} (hF : ¬ tP D.1.1 n ∨ ¬ wIn q 0 6) : xMe G MX9_trip [.ref a, .int n, .int q] t (nuQ t (-1)) := by
  refine x_aload_n (k := 0) rfl rfl ?_
  refine x_get (k := 1) rfl flRX9_20 h.1.1 rfl ?_
  refine x_iload_n (k := 2) rfl rfl ?_
  refine x_cVI (ci := 8) (k := 3) rfl (by rfl) (wI_lk h.W (c_isTrip _)) okX8_isTrip viX8_isTrip mlRX9_158 ⟨Nat.le_of_ble_eq_true rfl, Nat.le_of_ble_eq_true rfl⟩ (by exact Nat.le_of_ble_eq_true rfl) rfl rfl (isW_0 h.W) (by exact Nat.le_of_ble_eq_true rfl) ?_
  refine x_if_eq (tgt := 21) (k := 4) rfl (by decide) (fun c8 => ?_) (fun c8 => ?_)
  · replace c8 := bz_eq0 c8
    refine x_iconst (v := -1) (k := 10) rfl (by decide) ?_
    exact x_irD (k := 11) rfl rfl rfl rfl
  · replace c8 := bz_ne0 c8
    refine x_iload_n (k := 5) rfl rfl ?_
    refine x_iconst (v := 0) (k := 6) rfl (by decide) ?_
    refine x_bipush (v := 6) (k := 7) rfl (by decide) ?_
    refine x_sD (k := 8) rfl (by rfl) (c_isWithin _ _ _) okX9_isWithin viX9_isWithin mlRX9_106 ⟨Nat.le_of_ble_eq_true rfl, Nat.le_of_ble_eq_true rfl⟩ (by exact Nat.le_of_ble_eq_true rfl) rfl (by exact Nat.le_of_ble_eq_true rfl) ?_
    refine x_if_ne (tgt := 23) (k := 9) rfl (by decide) (fun c18 => (hF.elim (fun z => z c8) (fun z => z (bz_ne0 c18))).elim) (fun c18 => ?_)
    refine x_iconst (v := -1) (k := 10) rfl (by decide) ?_
    exact x_irD (k := 11) rfl rfl rfl rfl
theorem c_trip {G : xG} {t : xA} {own : Nat → Nat} {a : Nat} {D : OD} (h : Ob G t own a D) {n q : Nat} (hn : tP D.1.1 (nI n)) (h16 : n < 16) (hq : q < 7) : xMe G MX9_trip [.ref a, .int (nI n), .int (nI q)] t (nuQ t (D.1.1 1 n q)) := by
  refine x_aload_n (k := 0) rfl rfl ?_
  refine x_get (k := 1) rfl flRX9_20 h.1.1 rfl ?_
  refine x_iload_n (k := 2) rfl rfl ?_
  refine x_cVI (ci := 8) (k := 3) rfl (by rfl) (wI_lk h.W (c_isTrip _)) okX8_isTrip viX8_isTrip mlRX9_158 ⟨Nat.le_of_ble_eq_true rfl, Nat.le_of_ble_eq_true rfl⟩ (by exact Nat.le_of_ble_eq_true rfl) rfl rfl (isW_0 h.W) (by exact Nat.le_of_ble_eq_true rfl) ?_
  refine x_if_eq (tgt := 21) (k := 4) rfl (by decide) (fun c8 => absurd hn (bz_eq0 c8)) (fun c8 => ?_)
  refine x_iload_n (k := 5) rfl rfl ?_
  refine x_iconst (v := 0) (k := 6) rfl (by decide) ?_
  refine x_bipush (v := 6) (k := 7) rfl (by decide) ?_
  refine x_sD (k := 8) rfl (by rfl) (c_isWithin _ _ _) okX9_isWithin viX9_isWithin mlRX9_106 ⟨Nat.le_of_ble_eq_true rfl, Nat.le_of_ble_eq_true rfl⟩ (by exact Nat.le_of_ble_eq_true rfl) rfl (by exact Nat.le_of_ble_eq_true rfl) ?_
  refine x_if_ne (tgt := 23) (k := 9) rfl (by decide) (fun c18 => ?_) (fun c18 => absurd ⟨nI_pos (by omega), nI_nlt (a := 6) (b := q) (by omega) (by omega)⟩ (bz_eq0 c18))
  refine x_aload_n (k := 12) rfl rfl ?_
  refine x_get (k := 13) rfl flRX9_20 h.1.1 rfl ?_
  refine x_get (v := .ref (a + 2 + 2)) (k := 14) rfl flRX9_161 (isW_0 h.W) rfl ?_
  refine x_iload_n (k := 15) rfl rfl ?_
  refine s_at (p := n) (v := some (a + 2 + 14 + n)) (t := 5) (k := 16) rfl rfl ((h.cell (by omega) (by omega)).trans wG2) rfl h16 (by decide) (if_pos h16) ?_
  refine x_iload_n (k := 17) rfl rfl ?_
  refine x_cVI (ci := 6) (k := 18) rfl (by rfl) (wI_lk h.W (c_tell h16 hq)) okX6_tell viX6_tell mlRX9_165 ⟨Nat.le_of_ble_eq_true rfl, Nat.le_of_ble_eq_true rfl⟩ (by exact Nat.le_of_ble_eq_true rfl) rfl rfl ((h.cell (by omega) (by omega)).trans (wGT h16)) (by exact Nat.le_of_ble_eq_true rfl) ?_
  exact x_irD (k := 19) rfl rfl rfl rfl
theorem c_personF {G : xG} {t : xA} {own : Nat → Nat} {a : Nat} {D : OD} (h : Ob G t own a D) {p q : Int32} (hF : ¬ gP p ∨ ¬ wIn q 0 5) : xMe G MX9_person [.ref a, .int p, .int q] t (nuQ t (-1)) := by
  refine x_iload_n (k := 0) rfl rfl ?_
  refine x_sD (k := 1) rfl (by rfl) (c_isPerson _) okX9_isPerson viX9_isPerson mlRX9_170 ⟨Nat.le_of_ble_eq_true rfl, Nat.le_of_ble_eq_true rfl⟩ (by exact Nat.le_of_ble_eq_true rfl) rfl (by exact Nat.le_of_ble_eq_true rfl) ?_
  refine x_if_eq (tgt := 16) (k := 2) rfl (by decide) (fun c4 => ?_) (fun c4 => ?_)
  · replace c4 := bz_eq0 c4
    refine x_iconst (v := -1) (k := 8) rfl (by decide) ?_
    exact x_irD (k := 9) rfl rfl rfl rfl
  · replace c4 := bz_ne0 c4
    refine x_iload_n (k := 3) rfl rfl ?_
    refine x_iconst (v := 0) (k := 4) rfl (by decide) ?_
    refine x_iconst (v := 5) (k := 5) rfl (by decide) ?_
    refine x_sD (k := 6) rfl (by rfl) (c_isWithin _ _ _) okX9_isWithin viX9_isWithin mlRX9_106 ⟨Nat.le_of_ble_eq_true rfl, Nat.le_of_ble_eq_true rfl⟩ (by exact Nat.le_of_ble_eq_true rfl) rfl (by exact Nat.le_of_ble_eq_true rfl) ?_
    refine x_if_ne (tgt := 18) (k := 7) rfl (by decide) (fun c13 => (hF.elim (fun z => z c4) (fun z => z (bz_ne0 c13))).elim) (fun c13 => ?_)
    refine x_iconst (v := -1) (k := 8) rfl (by decide) ?_
    exact x_irD (k := 9) rfl rfl rfl rfl
theorem c_person {G : xG} {t : xA} {own : Nat → Nat} {a : Nat} {D : OD} (h : Ob G t own a D) {p q : Nat} (hp : p < 8) (hq : q < 6) : xMe G MX9_person [.ref a, .int (nI p), .int (nI q)] t (nuQ t (sPer D.1.1 p q)) := by
  refine x_iload_n (k := 0) rfl rfl ?_
  refine x_sD (k := 1) rfl (by rfl) (c_isPerson _) okX9_isPerson viX9_isPerson mlRX9_170 ⟨Nat.le_of_ble_eq_true rfl, Nat.le_of_ble_eq_true rfl⟩ (by exact Nat.le_of_ble_eq_true rfl) rfl (by exact Nat.le_of_ble_eq_true rfl) ?_
  refine x_if_eq (tgt := 16) (k := 2) rfl (by decide) (fun c4 => absurd ⟨nI_pos (by omega), nI_nlt (a := 7) (b := p) (by omega) (by omega)⟩ (bz_eq0 c4)) (fun c4 => ?_)
  refine x_iload_n (k := 3) rfl rfl ?_
  refine x_iconst (v := 0) (k := 4) rfl (by decide) ?_
  refine x_iconst (v := 5) (k := 5) rfl (by decide) ?_
  refine x_sD (k := 6) rfl (by rfl) (c_isWithin _ _ _) okX9_isWithin viX9_isWithin mlRX9_106 ⟨Nat.le_of_ble_eq_true rfl, Nat.le_of_ble_eq_true rfl⟩ (by exact Nat.le_of_ble_eq_true rfl) rfl (by exact Nat.le_of_ble_eq_true rfl) ?_
  refine x_if_ne (tgt := 18) (k := 7) rfl (by decide) (fun c13 => ?_) (fun c13 => absurd ⟨nI_pos (by omega), nI_nlt (a := 5) (b := q) (by omega) (by omega)⟩ (bz_eq0 c13))
  refine x_aload_n (k := 10) rfl rfl ?_
  refine x_get (k := 11) rfl flRX9_20 h.1.1 rfl ?_
  refine x_iload_n (k := 12) rfl rfl ?_
  refine x_iload_n (k := 13) rfl rfl ?_
  refine x_cVI (ci := 8) (k := 14) rfl (by rfl) (wI_lk h.W (c_tellPerson hp hq h.hK)) okX8_tellPerson viX8_tellPerson mlRX9_173 ⟨Nat.le_of_ble_eq_true rfl, Nat.le_of_ble_eq_true rfl⟩ (by exact Nat.le_of_ble_eq_true rfl) rfl rfl (isW_0 h.W) (by exact Nat.le_of_ble_eq_true rfl) ?_
  exact x_irD (k := 15) rfl rfl rfl rfl
theorem c_parcelF {G : xG} {t : xA} {own : Nat → Nat} {a : Nat} {D : OD} (h : Ob G t own a D) {n q : Int32} (hF : ¬ kP D.1.1 n ∨ ¬ wIn q 0 10) : xMe G MX9_parcel [.ref a, .int n, .int q] t (nuQ t (-1)) := by
  refine x_aload_n (k := 0) rfl rfl ?_
  refine x_get (k := 1) rfl flRX9_20 h.1.1 rfl ?_
  refine x_iload_n (k := 2) rfl rfl ?_
  refine x_cVI (ci := 8) (k := 3) rfl (by rfl) (wI_lk h.W (c_isParcel _)) okX8_isParcel viX8_isParcel mlRX9_176 ⟨Nat.le_of_ble_eq_true rfl, Nat.le_of_ble_eq_true rfl⟩ (by exact Nat.le_of_ble_eq_true rfl) rfl rfl (isW_0 h.W) (by exact Nat.le_of_ble_eq_true rfl) ?_
  refine x_if_eq (tgt := 21) (k := 4) rfl (by decide) (fun c8 => ?_) (fun c8 => ?_)
  · replace c8 := bz_eq0 c8
    refine x_iconst (v := -1) (k := 10) rfl (by decide) ?_
    exact x_irD (k := 11) rfl rfl rfl rfl
  · replace c8 := bz_ne0 c8
    refine x_iload_n (k := 5) rfl rfl ?_
    refine x_iconst (v := 0) (k := 6) rfl (by decide) ?_
    refine x_bipush (v := 10) (k := 7) rfl (by decide) ?_
    refine x_sD (k := 8) rfl (by rfl) (c_isWithin _ _ _) okX9_isWithin viX9_isWithin mlRX9_106 ⟨Nat.le_of_ble_eq_true rfl, Nat.le_of_ble_eq_true rfl⟩ (by exact Nat.le_of_ble_eq_true rfl) rfl (by exact Nat.le_of_ble_eq_true rfl) ?_
    refine x_if_ne (tgt := 23) (k := 9) rfl (by decide) (fun c18 => (hF.elim (fun z => z c8) (fun z => z (bz_ne0 c18))).elim) (fun c18 => ?_)
    refine x_iconst (v := -1) (k := 10) rfl (by decide) ?_
    exact x_irD (k := 11) rfl rfl rfl rfl
theorem c_parcel {G : xG} {t : xA} {own : Nat → Nat} {a : Nat} {D : OD} (h : Ob G t own a D) {k q : Nat} (hn : kP D.1.1 (nI k)) (hk : k < 10) (hq : q < 11) (hh : D.1.1 2 k 6 < 10 → isP (D.1.1 2 k 6)) : xMe G MX9_parcel [.ref a, .int (nI k), .int (nI q)] t (nuQ t (sPar D.1.1 k q)) := by
  refine x_aload_n (k := 0) rfl rfl ?_
  refine x_get (k := 1) rfl flRX9_20 h.1.1 rfl ?_
  refine x_iload_n (k := 2) rfl rfl ?_
  refine x_cVI (ci := 8) (k := 3) rfl (by rfl) (wI_lk h.W (c_isParcel _)) okX8_isParcel viX8_isParcel mlRX9_176 ⟨Nat.le_of_ble_eq_true rfl, Nat.le_of_ble_eq_true rfl⟩ (by exact Nat.le_of_ble_eq_true rfl) rfl rfl (isW_0 h.W) (by exact Nat.le_of_ble_eq_true rfl) ?_
  refine x_if_eq (tgt := 21) (k := 4) rfl (by decide) (fun c8 => absurd hn (bz_eq0 c8)) (fun c8 => ?_)
  refine x_iload_n (k := 5) rfl rfl ?_
  refine x_iconst (v := 0) (k := 6) rfl (by decide) ?_
  refine x_bipush (v := 10) (k := 7) rfl (by decide) ?_
  refine x_sD (k := 8) rfl (by rfl) (c_isWithin _ _ _) okX9_isWithin viX9_isWithin mlRX9_106 ⟨Nat.le_of_ble_eq_true rfl, Nat.le_of_ble_eq_true rfl⟩ (by exact Nat.le_of_ble_eq_true rfl) rfl (by exact Nat.le_of_ble_eq_true rfl) ?_
  refine x_if_ne (tgt := 23) (k := 9) rfl (by decide) (fun c18 => ?_) (fun c18 => absurd ⟨nI_pos (by omega), nI_nlt (a := 10) (b := q) (by omega) (by omega)⟩ (bz_eq0 c18))
  refine x_aload_n (k := 12) rfl rfl ?_
  refine x_get (k := 13) rfl flRX9_20 h.1.1 rfl ?_
  refine x_iload_n (k := 14) rfl rfl ?_
  refine x_iload_n (k := 15) rfl rfl ?_
  refine x_cVI (ci := 8) (k := 16) rfl (by rfl) (wI_lk h.W (c_tellParcel hk hq hh)) okX8_tellParcel viX8_tellParcel mlRX9_179 ⟨Nat.le_of_ble_eq_true rfl, Nat.le_of_ble_eq_true rfl⟩ (by exact Nat.le_of_ble_eq_true rfl) rfl rfl (isW_0 h.W) (by exact Nat.le_of_ble_eq_true rfl) ?_
  exact x_irD (k := 17) rfl rfl rfl rfl
theorem c_holderAtF {G : xG} {t : xA} {own : Nat → Nat} {a : Nat} {D : OD} (h : Ob G t own a D) {n q : Int32} (hF : ¬ kP D.1.1 n ∨ ¬ wIn q 0 (D.1.1 3 0 0)) : xMe G MX9_holderAt [.ref a, .int n, .int q] t (nuQ t (-1)) := by
  refine x_aload_n (k := 0) rfl rfl ?_
  refine x_get (k := 1) rfl flRX9_20 h.1.1 rfl ?_
  refine x_iload_n (k := 2) rfl rfl ?_
  refine x_cVI (ci := 8) (k := 3) rfl (by rfl) (wI_lk h.W (c_isParcel _)) okX8_isParcel viX8_isParcel mlRX9_176 ⟨Nat.le_of_ble_eq_true rfl, Nat.le_of_ble_eq_true rfl⟩ (by exact Nat.le_of_ble_eq_true rfl) rfl rfl (isW_0 h.W) (by exact Nat.le_of_ble_eq_true rfl) ?_
  refine x_if_eq (tgt := 26) (k := 4) rfl (by decide) (fun c8 => ?_) (fun c8 => ?_)
  · replace c8 := bz_eq0 c8
    refine x_iconst (v := -1) (k := 12) rfl (by decide) ?_
    exact x_irD (k := 13) rfl rfl rfl rfl
  · replace c8 := bz_ne0 c8
    refine x_iload_n (k := 5) rfl rfl ?_
    refine x_iconst (v := 0) (k := 6) rfl (by decide) ?_
    refine x_aload_n (k := 7) rfl rfl ?_
    refine x_get (k := 8) rfl flRX9_20 h.1.1 rfl ?_
    refine x_get (v := .int (D.1.1 3 0 0)) (k := 9) rfl flRX9_114 (isW_0 h.W) rfl ?_
    refine x_sD (k := 10) rfl (by rfl) (c_isWithin _ _ _) okX9_isWithin viX9_isWithin mlRX9_106 ⟨Nat.le_of_ble_eq_true rfl, Nat.le_of_ble_eq_true rfl⟩ (by exact Nat.le_of_ble_eq_true rfl) rfl (by exact Nat.le_of_ble_eq_true rfl) ?_
    refine x_if_ne (tgt := 28) (k := 11) rfl (by decide) (fun c23 => (hF.elim (fun z => z c8) (fun z => z (bz_ne0 c23))).elim) (fun c23 => ?_)
    refine x_iconst (v := -1) (k := 12) rfl (by decide) ?_
    exact x_irD (k := 13) rfl rfl rfl rfl
theorem c_holderAt {G : xG} {t : xA} {own : Nat → Nat} {a : Nat} {D : OD} (h : Ob G t own a D) {n q : Int32} (hn : kP D.1.1 n) (hq : wIn q 0 (D.1.1 3 0 0)) : xMe G MX9_holderAt [.ref a, .int n, .int q] t (nuQ t (luTo D.1.1 n q (ix (D.1.1 4 0 0)))) := by
  refine x_aload_n (k := 0) rfl rfl ?_
  refine x_get (k := 1) rfl flRX9_20 h.1.1 rfl ?_
  refine x_iload_n (k := 2) rfl rfl ?_
  refine x_cVI (ci := 8) (k := 3) rfl (by rfl) (wI_lk h.W (c_isParcel _)) okX8_isParcel viX8_isParcel mlRX9_176 ⟨Nat.le_of_ble_eq_true rfl, Nat.le_of_ble_eq_true rfl⟩ (by exact Nat.le_of_ble_eq_true rfl) rfl rfl (isW_0 h.W) (by exact Nat.le_of_ble_eq_true rfl) ?_
  refine x_if_eq (tgt := 26) (k := 4) rfl (by decide) (fun c8 => absurd hn (bz_eq0 c8)) (fun c8 => ?_)
  refine x_iload_n (k := 5) rfl rfl ?_
  refine x_iconst (v := 0) (k := 6) rfl (by decide) ?_
  refine x_aload_n (k := 7) rfl rfl ?_
  refine x_get (k := 8) rfl flRX9_20 h.1.1 rfl ?_
  refine x_get (v := .int (D.1.1 3 0 0)) (k := 9) rfl flRX9_114 (isW_0 h.W) rfl ?_
  refine x_sD (k := 10) rfl (by rfl) (c_isWithin _ _ _) okX9_isWithin viX9_isWithin mlRX9_106 ⟨Nat.le_of_ble_eq_true rfl, Nat.le_of_ble_eq_true rfl⟩ (by exact Nat.le_of_ble_eq_true rfl) rfl (by exact Nat.le_of_ble_eq_true rfl) ?_
  refine x_if_ne (tgt := 28) (k := 11) rfl (by decide) (fun c23 => ?_) (fun c23 => absurd hq (bz_eq0 c23))
  refine x_aload_n (k := 14) rfl rfl ?_
  refine x_get (k := 15) rfl flRX9_20 h.1.1 rfl ?_
  refine x_get (v := .ref (a + 2 + 4)) (k := 16) rfl flRX9_182 (isW_0 h.W) rfl ?_
  refine x_iload_n (k := 17) rfl rfl ?_
  refine x_iload_n (k := 18) rfl rfl ?_
  refine x_cVI (ci := 1) (k := 19) rfl (by rfl) (wI_lk h.W (c_lookUp _ _ h.iOk)) okX1_lookUp viX1_lookUp mlRX9_186 ⟨Nat.le_of_ble_eq_true rfl, Nat.le_of_ble_eq_true rfl⟩ (by exact Nat.le_of_ble_eq_true rfl) rfl rfl ((h.cell (by omega) (by omega)).trans wG4) (by exact Nat.le_of_ble_eq_true rfl) ?_
  exact x_irD (k := 20) rfl rfl rfl rfl
theorem c_inLockerF {G : xG} {t : xA} {own : Nat → Nat} {a : Nat} {D : OD} (h : Ob G t own a D) {n : Int32} (hF : ¬ gTn n) : xMe G MX9_inLocker [.ref a, .int n] t (nuQ t (-1)) := by
  refine x_iload_n (k := 0) rfl rfl ?_
  refine x_sD (k := 1) rfl (by rfl) (c_isTown _) okX9_isTown viX9_isTown mlRX9_191 ⟨Nat.le_of_ble_eq_true rfl, Nat.le_of_ble_eq_true rfl⟩ (by exact Nat.le_of_ble_eq_true rfl) rfl (by exact Nat.le_of_ble_eq_true rfl) ?_
  refine x_if_ne (tgt := 9) (k := 2) rfl (by decide) (fun c4 => absurd (bz_ne0 c4) hF) (fun c4 => ?_)
  refine x_iconst (v := -1) (k := 3) rfl (by decide) ?_
  exact x_irD (k := 4) rfl rfl rfl rfl
theorem c_inLocker {G : xG} {t : xA} {own : Nat → Nat} {a : Nat} {D : OD} (h : Ob G t own a D) {n : Int32} (hF : gTn n) : xMe G MX9_inLocker [.ref a, .int n] t (nuQ t (sHeld D.1.1 (10 + n))) := by
  refine x_iload_n (k := 0) rfl rfl ?_
  refine x_sD (k := 1) rfl (by rfl) (c_isTown _) okX9_isTown viX9_isTown mlRX9_191 ⟨Nat.le_of_ble_eq_true rfl, Nat.le_of_ble_eq_true rfl⟩ (by exact Nat.le_of_ble_eq_true rfl) rfl (by exact Nat.le_of_ble_eq_true rfl) ?_
  refine x_if_ne (tgt := 9) (k := 2) rfl (by decide) (fun c4 => ?_) (fun c4 => absurd hF (bz_eq0 c4))
  refine x_aload_n (k := 5) rfl rfl ?_
  refine x_get (k := 6) rfl flRX9_20 h.1.1 rfl ?_
  refine x_bipush (v := 10) (k := 7) rfl (by decide) ?_
  refine x_iload_n (k := 8) rfl rfl ?_
  refine x_iadd (k := 9) rfl ?_
  refine x_cVI (ci := 8) (k := 10) rfl (by rfl) (wI_lk h.W (c_heldBy _ h.hK)) okX8_heldBy viX8_heldBy mlRX9_194 ⟨Nat.le_of_ble_eq_true rfl, Nat.le_of_ble_eq_true rfl⟩ (by exact Nat.le_of_ble_eq_true rfl) rfl rfl (isW_0 h.W) (by exact Nat.le_of_ble_eq_true rfl) ?_
  exact x_irD (k := 11) rfl rfl rfl rfl