-- ===== the model's constructor =====
def mZ : List Value := [.null, .null, .int 0, .null, .int 0, .int 0, .int 0, .null, .null]
def piN : Nat → Nat → Int64
  | 0 => fun _ => 0
  | i + 1 => vp_updL (vp_updL (vp_updL (vp_updL (piN i) (6 + 5 * i + 0) 100) (6 + 5 * i + 1) 40) (6 + 5 * i + 2) (nI i - nI i / 6 * 6).toInt64) (6 + 5 * i + 3) (-9)
def Vz (i : Nat) : Vd := (piN i, fun _ => 0, fun _ _ => 0)
def mL (G : xG) (p : Nat) : List va_E := [eO 10 (mF p (Vz 0)), eJ G 1766 (fun _ => 0), eJ G 8830 (fun _ => 0), eI G 80 (fun _ => 0), eI G 3 (fun _ => 0), eI G 16 (fun _ => 0)]
theorem mL_set {G : xG} {s : xA} {p : Nat} : lst s p (mL G p) 10695 = setM G (s.1, p + 6, s.2.2 + 10695) p (Vz 0) := by
  refine Prod.ext (funext fun q => ?_) rfl
  show (if p ≤ q ∧ q < p + 6 then (mL G p)[q - p]? else s.1 q) = if p ≤ q ∧ q < p + 6 then some (mCell G p (Vz 0) (q - p)) else s.1 q
  by_cases h : p ≤ q ∧ q < p + 6
  · rw [if_pos h, if_pos h]
    rcases (by omega : q - p = 0 ∨ q - p = 1 ∨ q - p = 2 ∨ q - p = 3 ∨ q - p = 4 ∨ q - p = 5) with e | e | e | e | e | e <;> rw [e] <;> rfl
  · rw [if_neg h, if_neg h]
theorem l_minit {G : xG} {s : xA} {p : Nat} : ∀ (d i : Nat) (ls : List (Nat × Value)), 8 - i < d → i ≤ 8 → (∀ q ∈ [(0, .ref p), (1, .int (nI i))], ls.lookup q.1 = some q.2) → mE G MX10_init 47 ls [] s p (Vz i) (fun r V1 => r = none ∧ V1 = Vz 8) := by
  intro d
  induction d with
  | zero =>
    intro i ls hd hi g
    exact absurd hd (Nat.not_lt_zero _)
  | succ d ih =>
    intro i ls hd hi g
    refine x_sub (ls' := [(0, .ref p), (1, .int (nI i))]) g ?_
    refine x_iload_n (k := 24) rfl rfl ?_
    refine x_bipush (v := 8) (k := 25) rfl (by decide) ?_
    refine x_icmp_ge (tgt := 97) (k := 26) rfl (by decide) (fun c50 => ?_) (fun c50 => ?_)
    · have e0 : i = 8 := by
        have := (nI_leI (a := 8) (by decide) (by omega)).mp c50
        omega
      subst e0
      exact m_rD (k := 52) rfl rfl rfl
    · have hin : i < 8 := by
        have := mt (nI_leI (a := 8) (b := i) (by decide) (by omega)).mpr c50
        omega
      refine x_aload_n (k := 27) rfl rfl ?_
      refine x_iload_n (k := 28) rfl rfl ?_
      refine x_iconst (v := 0) (k := 29) rfl (by decide) ?_
      refine x_ldc2 (k := 30) rfl klRX10_26 ?_
      refine m_callV (ci := 10) (k := 31) rfl (by rfl) (m_setsP (k := 0) hin (by decide) _) okX10_setsP viX10_setsP mlRX10_28 ⟨Nat.le_of_ble_eq_true rfl, Nat.le_of_ble_eq_true rfl⟩ (by exact Nat.le_of_ble_eq_true rfl) rfl rfl mG0 (by exact Nat.le_of_ble_eq_true rfl) ?_
      refine x_aload_n (k := 32) rfl rfl ?_
      refine x_iload_n (k := 33) rfl rfl ?_
      refine x_iconst (v := 1) (k := 34) rfl (by decide) ?_
      refine x_ldc2 (k := 35) rfl klRX10_32 ?_
      refine m_callV (ci := 10) (k := 36) rfl (by rfl) (m_setsP (k := 1) hin (by decide) _) okX10_setsP viX10_setsP mlRX10_28 ⟨Nat.le_of_ble_eq_true rfl, Nat.le_of_ble_eq_true rfl⟩ (by exact Nat.le_of_ble_eq_true rfl) rfl rfl mG0 (by exact Nat.le_of_ble_eq_true rfl) ?_
      refine x_aload_n (k := 37) rfl rfl ?_
      refine x_iload_n (k := 38) rfl rfl ?_
      refine x_iconst (v := 2) (k := 39) rfl (by decide) ?_
      refine x_iload_n (k := 40) rfl rfl ?_
      refine x_bipush (v := 6) (k := 41) rfl (by decide) ?_
      refine x_irem (k := 42) rfl (by decide) ?_
      refine x_i2l (k := 43) rfl ?_
      refine m_callV (ci := 10) (k := 44) rfl (by rfl) (m_setsP (k := 2) hin (by decide) _) okX10_setsP viX10_setsP mlRX10_28 ⟨Nat.le_of_ble_eq_true rfl, Nat.le_of_ble_eq_true rfl⟩ (by exact Nat.le_of_ble_eq_true rfl) rfl rfl mG0 (by exact Nat.le_of_ble_eq_true rfl) ?_
      refine x_aload_n (k := 45) rfl rfl ?_
      refine x_iload_n (k := 46) rfl rfl ?_
      refine x_iconst (v := 3) (k := 47) rfl (by decide) ?_
      refine x_ldc2 (k := 48) rfl klRX10_34 ?_
      refine m_callV (ci := 10) (k := 49) rfl (by rfl) (m_setsP (k := 3) hin (by decide) _) okX10_setsP viX10_setsP mlRX10_28 ⟨Nat.le_of_ble_eq_true rfl, Nat.le_of_ble_eq_true rfl⟩ (by exact Nat.le_of_ble_eq_true rfl) rfl rfl mG0 (by exact Nat.le_of_ble_eq_true rfl) ?_
      refine x_iinc (k := 50) rfl rfl (nI_1 i) (by decide) ?_
      refine x_goto (tgt := 47) (k := 51) rfl (by decide) ?_
      exact ih (i + 1) _ (by omega) (by omega) (by intro q hq; simp only [List.mem_cons, List.not_mem_nil, or_false] at hq; rcases hq with rfl | rfl <;> rfl)
theorem c_newM {G : xG} {s : xA} {p : Nat} (h : s.1 p = some (eO 10 mZ)) (hn : s.2.1 = p + 1) : xV G MX10_init [.ref p] s ((setM G s p (Vz 8)).1, p + 6, s.2.2 + 10695) := by
  refine x_st (lst_of h hn) ?_
  refine x_aload_n (k := 0) rfl rfl ?_
  refine x_obj (k := 1) rfl mlRX10_1 wObj1 wObj2 (by exact Nat.le_of_ble_eq_true rfl) (by exact Nat.le_of_ble_eq_true rfl) ?_
  refine x_aload_n (k := 2) rfl rfl ?_
  refine x_sipush (v := 1766) (k := 3) rfl (by decide) ?_
  refine y_newa (a := p + 1) (t := 1) (N := 1766) (a0 := (1766, .inr (.inl (fun _ => 0)))) (k := 4) rfl rfl wa_long rfl (fun _ => rfl) (by decide) (by decide) (by decide) rfl ?_
  refine y_putF (k0 := 0) (k := 5) rfl flRX10_7 ft10_0 rfl rfl rfl rfl (by exact Nat.le_of_ble_eq_true rfl) rfl rfl ?_
  refine x_aload_n (k := 6) rfl rfl ?_
  refine x_sipush (v := 8830) (k := 7) rfl (by decide) ?_
  refine y_newa (a := p + 2) (t := 1) (N := 8830) (a0 := (8830, .inr (.inl (fun _ => 0)))) (k := 8) rfl rfl wa_long rfl (fun _ => rfl) (by decide) (by decide) (by decide) rfl ?_
  refine y_putF (k0 := 0) (k := 9) rfl flRX10_13 ft10_1 rfl rfl rfl rfl (by exact Nat.le_of_ble_eq_true rfl) rfl rfl ?_
  refine x_aload_n (k := 10) rfl rfl ?_
  refine x_bipush (v := 80) (k := 11) rfl (by decide) ?_
  refine y_newa (a := p + 3) (t := 0) (N := 80) (a0 := (80, .inl (fun _ => 0))) (k := 12) rfl rfl wa_int rfl (fun _ => rfl) (by decide) (by decide) (by decide) rfl ?_
  refine y_putF (k0 := 0) (k := 13) rfl flRX10_16 ft10_3 rfl rfl rfl rfl (by exact Nat.le_of_ble_eq_true rfl) rfl rfl ?_
  refine x_aload_n (k := 14) rfl rfl ?_
  refine x_iconst (v := 3) (k := 15) rfl (by decide) ?_
  refine y_newa (a := p + 4) (t := 0) (N := 3) (a0 := (3, .inl (fun _ => 0))) (k := 16) rfl rfl wa_int rfl (fun _ => rfl) (by decide) (by decide) (by decide) rfl ?_
  refine y_putF (k0 := 0) (k := 17) rfl flRX10_20 ft10_7 rfl rfl rfl rfl (by exact Nat.le_of_ble_eq_true rfl) rfl rfl ?_
  refine x_aload_n (k := 18) rfl rfl ?_
  refine x_bipush (v := 16) (k := 19) rfl (by decide) ?_
  refine y_newa (a := p + 5) (t := 0) (N := 16) (a0 := (16, .inl (fun _ => 0))) (k := 20) rfl rfl wa_int rfl (fun _ => rfl) (by decide) (by decide) (by decide) rfl ?_
  refine y_putF (k0 := 0) (k := 21) rfl flRX10_23 ft10_8 rfl rfl rfl rfl (by exact Nat.le_of_ble_eq_true rfl) rfl rfl ?_
  refine x_iconst (v := 0) (k := 22) rfl (by decide) ?_
  refine x_istore_n (k := 23) rfl (by decide) ?_
  refine x_st (s2 := setM G (s.1, p + 6, s.2.2 + 10695) p (Vz 0)) mL_set ?_
  have k := l_minit (G := G) (s := (s.1, p + 6, s.2.2 + 10695)) (p := p) 9 0 (lSet 1 (.int 0) (lv_args 0 [.ref p])) (by omega) (by omega) (by intro q hq; simp only [List.mem_cons, List.not_mem_nil, or_false] at hq; rcases hq with rfl | rfl <;> rfl)
  exact xE.mono k (fun r s1 q => by
    obtain ⟨V', e1, e2, e3⟩ := q
    exact ⟨e2, by rw [e1, e3]; rfl⟩)
theorem W0_Gd : Gd 0 0 0 0 W0 := by
  refine ⟨⟨⟨by decide, by decide, by decide, by decide⟩, rfl, rfl, rfl, rfl⟩, fun p hp => ⟨Or.inr ⟨⟨p % 6, Nat.mod_lt _ (by decide), rfl⟩, rfl⟩, by show ¬ (40 : Int32) < 0; decide⟩, fun t ht => absurd ht (Nat.not_lt_zero t), fun k hk => absurd hk (Nat.not_lt_zero k), fun x => Nat.zero_le _⟩
theorem W0_RF : RF 0 0 0 0 W0 (piN 8) := by
  have hP : ∀ p, p < 8 → ∀ k, k < 5 → (piN 8 (6 + 5 * p + k)).toInt32 = W0 0 p k := by decide +kernel
  have hO : ∀ k, k < 6 → (piN 8 (adr 3 0 k)).toInt32 = W0 3 0 k := by decide +kernel
  refine ⟨⟨⟨fun a i k hd => ?_, by decide +kernel, by decide +kernel, by decide +kernel, by decide +kernel⟩, by decide, by decide, by decide, by decide⟩, fun j hj => absurd hj (Nat.not_lt_zero j), fun k hk => absurd hk (Nat.not_lt_zero k)⟩
  rcases hd with ⟨rfl, h1, h2⟩ | ⟨rfl, h1, h2⟩ | ⟨rfl, h1, h2⟩ | ⟨rfl, rfl, h2⟩
  · exact hP i h1 k h2
  · exact absurd h1 (Nat.not_lt_zero i)
  · exact absurd h1 (Nat.not_lt_zero i)
  · exact hO k h2
