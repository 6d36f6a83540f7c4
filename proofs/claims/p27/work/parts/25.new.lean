-- ===== the constructors of the object =====
def hZ : List Value := [.null, .int 0, .int 0]
def txZ : List Value := [.null, .int 0]
def yZ : List Value := [.int 0, .int 0, .int 0, .int 0, .null, .int 0, .int 0, .null, .null, .null, .null]
def oZ : List Value := [.null, .null, .null, .null, .null]
theorem c_initHs {G : xG} {s : xA} {p : Nat} (h : s.1 p = some (eO 0 hZ)) (hn : s.2.1 = p + 1) : xV G MX0_init [.ref p] s (lst s p [eO 0 (hsF p 0 0), eR G 8 5 (fun _ => none)] 5) := by
  refine x_st (lst_of h hn) ?_
  refine x_aload_n (k := 0) rfl rfl ?_
  refine x_obj (k := 1) rfl mlRX0_3 wObj1 wObj2 (by exact Nat.le_of_ble_eq_true rfl) (by exact Nat.le_of_ble_eq_true rfl) ?_
  refine x_aload_n (k := 2) rfl rfl ?_
  refine x_iconst (v := 5) (k := 3) rfl (by decide) ?_
  refine y_anew (a := p + 1) (C0 := RX4) (t := 8) (N := 5) (k := 4) rfl (by simp [nestC]) clRX0_9 rfl (by decide) (by decide) (by decide) rfl ?_
  refine y_putF (k0 := 0) (k := 5) rfl flRX0_11 ft0_0 rfl rfl rfl rfl (by exact Nat.le_of_ble_eq_true rfl) rfl rfl ?_
  exact x_rD (k := 6) rfl rfl rfl
theorem c_initTx {G : xG} {s : xA} {p : Nat} (h : s.1 p = some (eO 5 txZ)) (hn : s.2.1 = p + 1) : xV G MX5_init [.ref p] s (lst s p [eO 5 (txF p 0), eC G 80 (fun _ => 0)] 80) := by
  refine x_st (lst_of h hn) ?_
  refine x_aload_n (k := 0) rfl rfl ?_
  refine x_obj (k := 1) rfl mlRX5_3 wObj1 wObj2 (by exact Nat.le_of_ble_eq_true rfl) (by exact Nat.le_of_ble_eq_true rfl) ?_
  refine x_aload_n (k := 2) rfl rfl ?_
  refine x_bipush (v := 80) (k := 3) rfl (by decide) ?_
  refine y_newa (a := p + 1) (t := 2) (N := 80) (a0 := (80, .inl (fun _ => 0))) (k := 4) rfl rfl wa_char rfl (fun _ => rfl) (by decide) (by decide) (by decide) rfl ?_
  refine y_putF (k0 := 0) (k := 5) rfl flRX5_9 ft5_0 rfl rfl rfl rfl (by exact Nat.le_of_ble_eq_true rfl) rfl rfl ?_
  exact x_rD (k := 6) rfl rfl rfl
theorem c_initY {G : xG} {s : xA} {p w : Nat} (h : s.1 p = some (eO 7 yZ)) (hn : s.2.1 = p + 1) : xV G MX7_init [.ref p, .ref w] s (lst s p [eO 7 (yF w p (fun _ _ => 0)), eZ G 16 (fun _ => 0), eZ G 16 (fun _ => 0), eI G 16 (fun _ => 0), eI G 16 (fun _ => 0)] 64) := by
  refine x_st (lst_of h hn) ?_
  refine x_aload_n (k := 0) rfl rfl ?_
  refine x_obj (k := 1) rfl mlRX7_3 wObj1 wObj2 (by exact Nat.le_of_ble_eq_true rfl) (by exact Nat.le_of_ble_eq_true rfl) ?_
  refine x_aload_n (k := 2) rfl rfl ?_
  refine x_bipush (v := 16) (k := 3) rfl (by decide) ?_
  refine y_newa (a := p + 1) (t := 3) (N := 16) (a0 := (16, .inl (fun _ => 0))) (k := 4) rfl rfl wa_boolean rfl (fun _ => rfl) (by decide) (by decide) (by decide) rfl ?_
  refine y_putF (k0 := 0) (k := 5) rfl flRX7_9 ft7_7 rfl rfl rfl rfl (by exact Nat.le_of_ble_eq_true rfl) rfl rfl ?_
  refine x_aload_n (k := 6) rfl rfl ?_
  refine x_bipush (v := 16) (k := 7) rfl (by decide) ?_
  refine y_newa (a := p + 2) (t := 3) (N := 16) (a0 := (16, .inl (fun _ => 0))) (k := 8) rfl rfl wa_boolean rfl (fun _ => rfl) (by decide) (by decide) (by decide) rfl ?_
  refine y_putF (k0 := 0) (k := 9) rfl flRX7_15 ft7_8 rfl rfl rfl rfl (by exact Nat.le_of_ble_eq_true rfl) rfl rfl ?_
  refine x_aload_n (k := 10) rfl rfl ?_
  refine x_bipush (v := 16) (k := 11) rfl (by decide) ?_
  refine y_newa (a := p + 3) (t := 0) (N := 16) (a0 := (16, .inl (fun _ => 0))) (k := 12) rfl rfl wa_int rfl (fun _ => rfl) (by decide) (by decide) (by decide) rfl ?_
  refine y_putF (k0 := 0) (k := 13) rfl flRX7_18 ft7_9 rfl rfl rfl rfl (by exact Nat.le_of_ble_eq_true rfl) rfl rfl ?_
  refine x_aload_n (k := 14) rfl rfl ?_
  refine x_bipush (v := 16) (k := 15) rfl (by decide) ?_
  refine y_newa (a := p + 4) (t := 0) (N := 16) (a0 := (16, .inl (fun _ => 0))) (k := 16) rfl rfl wa_int rfl (fun _ => rfl) (by decide) (by decide) (by decide) rfl ?_
  refine y_putF (k0 := 0) (k := 17) rfl flRX7_22 ft7_10 rfl rfl rfl rfl (by exact Nat.le_of_ble_eq_true rfl) rfl rfl ?_
  refine x_aload_n (k := 18) rfl rfl ?_
  refine x_aload_n (k := 19) rfl rfl ?_
  refine y_putF (k0 := 0) (k := 20) rfl flRX7_25 ft7_4 rfl rfl rfl rfl (by exact Nat.le_of_ble_eq_true rfl) rfl rfl ?_
  exact x_rD (k := 21) rfl rfl rfl
theorem lst_lo {s : xA} {b q m : Nat} {L : List va_E} (h : q < b) : (lst s b L m).1 q = s.1 q := by
  show (if b ≤ q ∧ q < b + L.length then L[q - b]? else s.1 q) = s.1 q
  rw [if_neg (by omega)]
theorem lst_aUp {s : xA} {a b m : Nat} {L : List va_E} {e : va_E} (h : a < b) : aUp (lst s b L m) a e = lst (aUp s a e) b L m := by
  refine Prod.ext (funext fun q => ?_) rfl
  show (if q = a then some e else if b ≤ q ∧ q < b + L.length then L[q - b]? else s.1 q) = if b ≤ q ∧ q < b + L.length then L[q - b]? else if q = a then some e else s.1 q
  by_cases h1 : q = a
  · rw [if_pos h1, if_neg (by omega), if_pos h1]
  · rw [if_neg h1, if_neg h1]
theorem lst_nil {s : xA} {b : Nat} (hb : b = s.2.1) : lst s b [] 0 = s := by
  refine Prod.ext (funext fun q => ?_) (Prod.ext hb rfl)
  show (if b ≤ q ∧ q < b + 0 then ([] : List va_E)[q - b]? else s.1 q) = s.1 q
  rw [if_neg (by omega)]
section OP
variable {G : xG} {M : xM} {pc : Nat} {ls : List (Nat × Value)} {st : List Value} {s : xA} {a b m : Nat} {L : List va_E} {Q : Option Value → xA → Prop}
theorem o_putF {idx ci j k : Nat} {fs : List Value} {v : Value} {ty : FieldType} (hab : a < b) (hk : (mIn M)[k]? = some (pc, .putfield idx, 3)) (hf : xFl (mOwn M) idx ci j) (ht : xFt ci j true ty) (hin : (mY M).name = "<init>") (hown : (vwCl[ci]?).map (fun q => q.1) = some (mOwn M)) (hl0 : j < fs.length) (hn : narrow ty v = v) (hfit : fits ty v = true) (kk : xE G M (pc + 3) ls st (lst (aUp s a (eO ci (fs.set j v))) b L m) Q) : xE G M pc ls (v :: .ref a :: st) (lst (aUp s a (eO ci fs)) b L m) Q :=
  x_putF hk hf ht hin hown ((lst_lo hab).trans aUp_at) hl0 hn hfit (by
    rw [lst_aUp hab, aUp_up]
    exact kk)
end OP
/-- a new object's parts -/
def W0s : SD := (W0, fun _ => none, fun _ => 0, fun _ => W0)
def H0s : HD := (0, 0, fun _ => none, fun _ => W0, fun _ _ => none, fun _ _ => 0, fun _ _ => W0)
def D0s : OD := (W0s, H0s, (0, fun _ => 0), fun _ _ => 0)
def own0 (own : Nat → Nat) (a : Nat) : Nat → Nat := fun q => if q < a then own q else if q = a then 4 else if q < a + 44 then 10 else if q < a + 46 then 2 else if q < a + 48 then 5 else 6
def obL (G : xG) (a : Nat) : List va_E := [eO 0 (hsF (a + 44) 0 0), eR G 8 5 (fun _ => none), eO 5 (txF (a + 46) 0), eC G 80 (fun _ => 0), eO 7 (yF (a + 2) (a + 48) (fun _ _ => 0)), eZ G 16 (fun _ => 0), eZ G 16 (fun _ => 0), eI G 16 (fun _ => 0), eI G 16 (fun _ => 0)]
def mkO (G : xG) (t : xA) : xA := lst (aUp (mkS G (aNew t 5 (eO 9 oZ))) t.2.1 (eO 9 (obF t.2.1))) (t.2.1 + 44) (obL G t.2.1) 165
theorem c_newO {G : xG} {t : xA} : xV G MX9_init [.ref t.2.1] (aNew t 5 (eO 9 oZ)) (mkO G t) := by
  refine x_aload_n (k := 0) rfl rfl ?_
  refine x_obj (k := 1) rfl mlRX9_1 wObj1 wObj2 (by exact Nat.le_of_ble_eq_true rfl) (by exact Nat.le_of_ble_eq_true rfl) ?_
  refine x_aload_n (k := 2) rfl rfl ?_
  refine x_new (ci := 4) (fs := sZ) (k := 3) rfl rfl clRX9_7 wn4 wi_RX4 tyX4 tyX4_ok (fun j hj => by have hj : j < 3 := hj; rcases (show j = 0 ∨ j = 1 ∨ j = 2 by omega) with rfl | rfl | rfl <;> rfl) ?_
  refine x_dup (k := 4) rfl rfl ?_
  refine x_cIN (k := 5) rfl (by rfl) (c_newS (t := (aNew t 5 (eO 9 oZ)))) okX4_init rfl rfl viX4_init nlRX9_9 ⟨Nat.le_of_ble_eq_true rfl, Nat.le_of_ble_eq_true rfl⟩ (by exact Nat.le_of_ble_eq_true rfl) rfl (by exact Nat.le_of_ble_eq_true rfl) ?_
  refine x_st (s2 := lst (aUp (mkS G (aNew t 5 (eO 9 oZ))) t.2.1 (eO 9 oZ)) (t.2.1 + 44) [] 0) ?_ ?_
  · rw [lst_nil (by show t.2.1 + 44 = (mkS G (aNew t 5 (eO 9 oZ))).2.1; rw [mkS_n.1]; show t.2.1 + 44 = t.2.1 + 1 + 43; omega)]
    refine Prod.ext (funext fun q => ?_) rfl
    show _ = if q = t.2.1 then some (eO 9 oZ) else _
    by_cases e : q = t.2.1
    · rw [if_pos e, e, mkS_lo (by show t.2.1 < t.2.1 + 1; omega)]
      exact aNew_at
    · rw [if_neg e]
  refine o_putF (by omega) (k := 6) rfl flRX9_10 ft9_0 rfl rfl (by exact Nat.le_of_ble_eq_true rfl) rfl rfl ?_
  refine x_aload_n (k := 7) rfl rfl ?_
  refine x_aload_n (k := 8) rfl rfl ?_
  refine x_get (k := 9) rfl flRX9_10 ((lst_lo (by omega)).trans aUp_at) rfl ?_
  refine x_get (v := .ref (t.2.1 + 2)) (k := 10) rfl flRX9_16 ((lst_lo (show t.2.1 + 1 < t.2.1 + 44 by omega)).trans ((aUp_ne (show t.2.1 + 1 ≠ t.2.1 by omega)).trans (mkS_St (G := G) (t := aNew t 5 (eO 9 oZ)) (own := fun _ => 0) (τ := 0)).1.1)) rfl ?_
  refine o_putF (by omega) (k := 11) rfl flRX9_20 ft9_1 rfl rfl (by exact Nat.le_of_ble_eq_true rfl) rfl rfl ?_
  refine x_aload_n (k := 12) rfl rfl ?_
  refine y_new (a := t.2.1 + 44) (ci := 0) (fs := hZ) (k := 13) rfl rfl clRX9_21 wn0 wi_RX0 tyX0 tyX0_ok (fun j hj => by have hj : j < 3 := hj; rcases (show j = 0 ∨ j = 1 ∨ j = 2 by omega) with rfl | rfl | rfl <;> rfl) rfl ?_
  refine x_dup (k := 14) rfl rfl ?_
  refine x_cIN (k := 15) rfl (by rfl) (c_initHs (lst_g (k0 := 0) rfl rfl) rfl) okX0_init rfl rfl viX0_init nlRX9_23 ⟨Nat.le_of_ble_eq_true rfl, Nat.le_of_ble_eq_true rfl⟩ (by exact Nat.le_of_ble_eq_true rfl) rfl (by exact Nat.le_of_ble_eq_true rfl) ?_
  refine x_st (lst_lst (k0 := 0) rfl rfl rfl (by simp)) ?_
  refine o_putF (by omega) (k := 16) rfl flRX9_24 ft9_2 rfl rfl (by exact Nat.le_of_ble_eq_true rfl) rfl rfl ?_
  refine x_aload_n (k := 17) rfl rfl ?_
  refine y_new (a := t.2.1 + 46) (ci := 5) (fs := txZ) (k := 18) rfl rfl clRX9_28 wn5 wi_RX5 tyX5 tyX5_ok (fun j hj => by have hj : j < 2 := hj; rcases (show j = 0 ∨ j = 1 by omega) with rfl | rfl <;> rfl) rfl ?_
  refine x_dup (k := 19) rfl rfl ?_
  refine x_cIN (k := 20) rfl (by rfl) (c_initTx (lst_g (k0 := 2) rfl rfl) rfl) okX5_init rfl rfl viX5_init nlRX9_30 ⟨Nat.le_of_ble_eq_true rfl, Nat.le_of_ble_eq_true rfl⟩ (by exact Nat.le_of_ble_eq_true rfl) rfl (by exact Nat.le_of_ble_eq_true rfl) ?_
  refine x_st (lst_lst (k0 := 2) rfl rfl rfl (by simp)) ?_
  refine o_putF (by omega) (k := 21) rfl flRX9_31 ft9_3 rfl rfl (by exact Nat.le_of_ble_eq_true rfl) rfl rfl ?_
  refine x_aload_n (k := 22) rfl rfl ?_
  refine y_new (a := t.2.1 + 48) (ci := 7) (fs := yZ) (k := 23) rfl rfl clRX9_35 wn7 wi_RX7 tyX7 tyX7_ok (fun j hj => by have hj : j < 11 := hj; rcases (show j = 0 ∨ j = 1 ∨ j = 2 ∨ j = 3 ∨ j = 4 ∨ j = 5 ∨ j = 6 ∨ j = 7 ∨ j = 8 ∨ j = 9 ∨ j = 10 by omega) with rfl | rfl | rfl | rfl | rfl | rfl | rfl | rfl | rfl | rfl | rfl <;> rfl) rfl ?_
  refine x_dup (k := 24) rfl rfl ?_
  refine x_aload_n (k := 25) rfl rfl ?_
  refine x_get (k := 26) rfl flRX9_20 ((lst_lo (by omega)).trans aUp_at) rfl ?_
  refine x_cI (k := 27) rfl (by rfl) (c_initY (lst_g (k0 := 4) rfl rfl) rfl) okX7_init rfl rfl viX7_init mlRX9_37 ⟨Nat.le_of_ble_eq_true rfl, Nat.le_of_ble_eq_true rfl⟩ (by exact Nat.le_of_ble_eq_true rfl) rfl (by exact Nat.le_of_ble_eq_true rfl) ?_
  refine x_st (lst_lst (k0 := 4) rfl rfl rfl (by simp)) ?_
  refine o_putF (by omega) (k := 28) rfl flRX9_40 ft9_4 rfl rfl (by exact Nat.le_of_ble_eq_true rfl) rfl rfl ?_
  exact x_rD (k := 29) rfl rfl rfl
theorem mkO_n {G : xG} {t : xA} : (mkO G t).2.1 = t.2.1 + 53 ∧ (mkO G t).2.2 = t.2.2 + 987 := ⟨rfl, rfl⟩
theorem mkO_lo {G : xG} {t : xA} {q : Nat} (h : q < t.2.1) : (mkO G t).1 q = t.1 q := by
  unfold mkO
  rw [lst_lo (by omega), aUp_ne (by omega), mkS_lo (by show q < t.2.1 + 1; omega), aNew_ne (by omega)]
theorem mkO_did {G : xG} {t : xA} {own : Nat → Nat} : Did t (mkO G t) own (own0 own t.2.1) (fun _ => False) 53 987 :=
  ⟨fun q hq _ => mkO_lo hq, fun q hq => if_pos hq, by rw [mkO_n.1]; omega, by rw [mkO_n.1]; exact Nat.le_refl _, by rw [mkO_n.2]; omega, by rw [mkO_n.2]; exact Nat.le_refl _⟩
theorem own0_at {own : Nat → Nat} {a q v : Nat} (h : a ≤ q) (hv : (if q = a then 4 else if q < a + 44 then 10 else if q < a + 46 then 2 else if q < a + 48 then 5 else 6) = v) : own0 own a q = v := (if_neg (by omega)).trans hv
theorem mkO_Ob {G : xG} {t : xA} {own : Nat → Nat} : Ob G (mkO G t) (own0 own t.2.1) t.2.1 D0s := by
  have e1 : (mkO G t).2.1 = t.2.1 + 53 := mkO_n.1
  have cs : ∀ q, t.2.1 < q → q < t.2.1 + 44 → (mkO G t).1 q = (mkS G (aNew t 5 (eO 9 oZ))).1 q := fun q h1 h2 => by
    unfold mkO
    rw [lst_lo (by omega), aUp_ne (by omega)]
  have cl : ∀ k e, (obL G t.2.1)[k]? = some e → (mkO G t).1 (t.2.1 + 44 + k) = some e := fun k e hk => lst_g rfl hk
  obtain ⟨⟨s0, s1, s2, s3⟩, s4, s5, s6, s7⟩ := mkS_St (G := G) (t := aNew t 5 (eO 9 oZ)) (own := fun _ => 0) (τ := 10)
  have ea : (aNew t 5 (eO 9 oZ)).2.1 = t.2.1 + 1 := rfl
  rw [ea] at s0 s1 s2 s3 s5
  refine ⟨⟨(lst_lo (by omega)).trans aUp_at, own0_at (Nat.le_refl _) (if_pos rfl), by omega⟩, ⟨⟨(cs _ (by omega) (by omega)).trans s0, isW_kept s1 (fun k hk => cs _ (by omega) (by omega)), (cs _ (by omega) (by omega)).trans s2, (cs _ (by omega) (by omega)).trans s3⟩, fun k hk => own0_at (by omega) (by rw [if_neg (by omega), if_pos (by omega)]), by omega, W0_good, fun i hi => ⟨Or.inl rfl, fun h => absurd (show (0 : Int32) = 1 from h) (by decide), fun r hr => by cases hr⟩⟩, ⟨⟨cl 0 _ rfl, cl 1 _ rfl⟩, ⟨own0_at (by omega) (by rw [if_neg (by omega), if_neg (by omega), if_pos (by omega)]), own0_at (by omega) (by rw [if_neg (by omega), if_neg (by omega), if_pos (by omega)]), by omega⟩, ⟨by decide, by decide⟩, fun j hj σ hr => by cases hr⟩, ⟨⟨⟨cl 2 _ rfl, cl 3 _ rfl⟩, Nat.zero_le _, fun k hk => absurd hk (Nat.not_lt_zero _)⟩, own0_at (by omega) (by rw [if_neg (by omega), if_neg (by omega), if_neg (by omega), if_pos (by omega)]), own0_at (by omega) (by rw [if_neg (by omega), if_neg (by omega), if_neg (by omega), if_pos (by omega)])⟩, fun k hk => ?_, fun k hk => own0_at (by omega) (by rw [if_neg (by omega), if_neg (by omega), if_neg (by omega), if_neg (by omega)])⟩
  rcases (by omega : k = 0 ∨ k = 1 ∨ k = 2 ∨ k = 3 ∨ k = 4) with rfl | rfl | rfl | rfl | rfl
  · exact cl 4 _ rfl
  · exact cl 5 _ rfl
  · exact cl 6 _ rfl
  · exact cl 7 _ rfl
  · exact cl 8 _ rfl
