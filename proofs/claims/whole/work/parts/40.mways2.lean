-- ===== the model: ways, answers =====
theorem l_arrival {G : xG} {s : xA} {m hr f nt nk : Nat} {W : Wd} {V : Vd} (hM : Rm hr f nt nk W V) {k : Nat} (hk : k < nk) (hg : ∀ t, t < nt → trG W t) {b : Nat → Nat} (hB : ∀ j, j < 16 → V.2.2 3 j = nI (b j)) (hB2 : ∀ j, j < 16 → b j ≤ 1000000) {ju : Int32} : ∀ (d t : Nat) (v : Int32) (ls : List (Nat × Value)), nt - t < d → t ≤ nt → v = nI (avTo W b k ju t) → (∀ q ∈ [(0, .ref m), (1, .int (nI k)), (2, .int ju), (3, .int v), (4, .int (nI t))], ls.lookup q.1 = some q.2) → mE G MX10_arrival 6 ls [] s m V (fun r V1 => r = some (.int (nI (avTo W b k ju nt))) ∧ V1 = V) := by
  have hb := hM.2
  intro d
  induction d with
  | zero =>
    intro t v ls hd ht hv g
    exact absurd hd (Nat.not_lt_zero _)
  | succ d ih =>
    intro t v ls hd ht hv g
    refine x_sub (ls' := [(0, .ref m), (1, .int (nI k)), (2, .int ju), (3, .int v), (4, .int (nI t))]) g ?_
    refine x_iload (k := 4) rfl rfl ?_
    refine x_i2l (k := 5) rfl ?_
    refine x_aload_n (k := 6) rfl rfl ?_
    refine m_getA (a := 1) (k := 7) rfl flRX10_7 rfl ?_
    refine x_iconst (v := 2) (k := 8) rfl (by decide) ?_
    refine m_nat (k := 9) rfl (show (2 : Int32) = nI 2 from rfl) (by first | assumption | omega) ?_
    refine x_lcmp (k := 10) rfl ?_
    refine x_if_ge (tgt := 103) (k := 11) rfl (by decide) (fun c16 => ?_) (fun c16 => ?_)
    · replace c16 := (lg_cmp_ge _ _).mp c16
      have e0 : t = nt := by
        have := (lle hM.1.2.2.2.1 (by omega) (by omega)).mp c16
        omega
      subst e0
      refine x_iload_n (k := 56) rfl rfl ?_
      exact m_irD (k := 57) rfl rfl rfl hv rfl
    · replace c16 := mt (lg_cmp_ge _ _).mpr c16
      have hin : t < nt := by
        have := mt (lle hM.1.2.2.2.1 (by omega) (by omega)).mpr c16
        omega
      have hav := avTo_le (W := W) (b := b) (k := k) (ju := ju) t
      refine x_aload_n (k := 12) rfl rfl ?_
      refine m_getA (a := 5) (k := 13) rfl flRX10_23 rfl ?_
      refine x_iload (k := 14) rfl rfl ?_
      refine m_bat (k := 15) rfl rfl (by first | assumption | omega) ?_
      refine x_top (hB t (by omega)) ?_
      refine x_ldc (k := 16) rfl klRX10_228 ?_
      refine x_icmp_ge (tgt := 66) (k := 17) rfl (by decide) (fun c28 => ?_) (fun c28 => ?_)
      · have e : v = nI (avTo W b k ju (t + 1)) := by
          rw [avTo, if_neg (fun q => by
            have := (nI_leI (a := 1000000) (b := b t) (by decide) (by have := hB2 t (by omega); omega)).mp c28
            omega)]
          exact hv
        refine x_iconst (v := 0) (k := 37) rfl (by decide) ?_
        refine x_istore (k := 38) rfl (by decide) ?_
        refine x_iload (k := 39) rfl rfl ?_
        refine x_if_eq (tgt := 95) (k := 40) rfl (by decide) (fun c71 => ?_) (fun c71 => absurd c71 (by decide))
        refine x_iload_n (k := 52) rfl rfl ?_
        refine x_istore_n (k := 53) rfl (by decide) ?_
        refine x_iinc (k := 54) rfl rfl (nI_1 t) (by decide) ?_
        refine x_goto (tgt := 6) (k := 55) rfl (by decide) ?_
        exact ih (t + 1) _ _ (by omega) (by omega) e (by intro q hq; simp only [List.mem_cons, List.not_mem_nil, or_false] at hq; rcases hq with rfl | rfl | rfl | rfl | rfl <;> rfl)
      · have h1 : b t < 1000000 := by
          have := mt (nI_leI (a := 1000000) (b := b t) (by decide) (by have := hB2 t (by omega); omega)).mpr c28
          omega
        refine x_aload_n (k := 18) rfl rfl ?_
        refine x_iload (k := 19) rfl rfl ?_
        refine x_iconst (v := 2) (k := 20) rfl (by decide) ?_
        refine m_callI (ci := 10) (k := 21) rfl (by rfl) (m_ofT hM (k := 2) hin (by decide)) okX10_ofT viX10_ofT mlRX10_55 ⟨Nat.le_of_ble_eq_true rfl, Nat.le_of_ble_eq_true rfl⟩ (by exact Nat.le_of_ble_eq_true rfl) rfl rfl mG0 (by exact Nat.le_of_ble_eq_true rfl) ?_
        refine x_aload_n (k := 22) rfl rfl ?_
        refine x_iload_n (k := 23) rfl rfl ?_
        refine x_iconst (v := 2) (k := 24) rfl (by decide) ?_
        refine m_callI (ci := 10) (k := 25) rfl (by rfl) (m_of hM (k := 2) hk (by decide)) okX10_of viX10_of mlRX10_84 ⟨Nat.le_of_ble_eq_true rfl, Nat.le_of_ble_eq_true rfl⟩ (by exact Nat.le_of_ble_eq_true rfl) rfl rfl mG0 (by exact Nat.le_of_ble_eq_true rfl) ?_
        refine x_icmp_ne (tgt := 66) (k := 26) rfl (by decide) (fun c44 => ?_) (fun c44 => ?_)
        · have e : v = nI (avTo W b k ju (t + 1)) := by rw [avTo, if_neg (fun q => c44 q.1.2.1)]; exact hv
          refine x_iconst (v := 0) (k := 37) rfl (by decide) ?_
          refine x_istore (k := 38) rfl (by decide) ?_
          refine x_iload (k := 39) rfl rfl ?_
          refine x_if_eq (tgt := 95) (k := 40) rfl (by decide) (fun c71 => ?_) (fun c71 => absurd c71 (by decide))
          refine x_iload_n (k := 52) rfl rfl ?_
          refine x_istore_n (k := 53) rfl (by decide) ?_
          refine x_iinc (k := 54) rfl rfl (nI_1 t) (by decide) ?_
          refine x_goto (tgt := 6) (k := 55) rfl (by decide) ?_
          exact ih (t + 1) _ _ (by omega) (by omega) e (by intro q hq; simp only [List.mem_cons, List.not_mem_nil, or_false] at hq; rcases hq with rfl | rfl | rfl | rfl | rfl <;> rfl)
        · refine x_iload_n (k := 27) rfl rfl ?_
          refine x_if_lt (tgt := 62) (k := 28) rfl (by decide) (fun c48 => ?_) (fun c48 => ?_)
          · have h3 : ju < 0 ∨ nI (b t) = ju := Or.inl c48
            refine x_iconst (v := 1) (k := 35) rfl (by decide) ?_
            refine x_goto (tgt := 67) (k := 36) rfl (by decide) ?_
            refine x_istore (k := 38) rfl (by decide) ?_
            refine x_iload (k := 39) rfl rfl ?_
            refine x_if_eq (tgt := 95) (k := 40) rfl (by decide) (fun c71 => absurd c71 (by decide)) (fun c71 => ?_)
            refine x_aload_n (k := 41) rfl rfl ?_
            refine x_iload (k := 42) rfl rfl ?_
            refine x_iconst (v := 4) (k := 43) rfl (by decide) ?_
            refine m_callI (ci := 10) (k := 44) rfl (by rfl) (m_ofT hM (k := 4) hin (by decide)) okX10_ofT viX10_ofT mlRX10_55 ⟨Nat.le_of_ble_eq_true rfl, Nat.le_of_ble_eq_true rfl⟩ (by exact Nat.le_of_ble_eq_true rfl) rfl rfl mG0 (by exact Nat.le_of_ble_eq_true rfl) ?_
            refine x_top (hg t hin).2.1 ?_
            refine x_iload_n (k := 45) rfl rfl ?_
            have h6 := (hg t hin).2.2.2.1
            subst hv
            refine x_icmp_ge (tgt := 95) (k := 46) rfl (by decide) (fun c82 => ?_) (fun c82 => ?_)
            · have e : nI (avTo W b k ju t) = nI (avTo W b k ju (t + 1)) := by
                rw [avTo, if_neg (fun q => by
                  have := (nI_leI (a := avTo W b k ju t) (b := arN W t) (by omega) (by omega)).mp c82
                  omega)]
              refine x_iload_n (k := 52) rfl rfl ?_
              refine x_istore_n (k := 53) rfl (by decide) ?_
              refine x_iinc (k := 54) rfl rfl (nI_1 t) (by decide) ?_
              refine x_goto (tgt := 6) (k := 55) rfl (by decide) ?_
              exact ih (t + 1) _ _ (by omega) (by omega) e (by intro q hq; simp only [List.mem_cons, List.not_mem_nil, or_false] at hq; rcases hq with rfl | rfl | rfl | rfl | rfl <;> rfl)
            · have e : nI (arN W t) = nI (avTo W b k ju (t + 1)) := by
                rw [avTo, if_pos ⟨⟨h1, c44, h3⟩, by
                  have := mt (nI_leI (a := avTo W b k ju t) (b := arN W t) (by omega) (by omega)).mpr c82
                  omega⟩]
              refine x_aload_n (k := 47) rfl rfl ?_
              refine x_iload (k := 48) rfl rfl ?_
              refine x_iconst (v := 4) (k := 49) rfl (by decide) ?_
              refine m_callI (ci := 10) (k := 50) rfl (by rfl) (m_ofT hM (k := 4) hin (by decide)) okX10_ofT viX10_ofT mlRX10_55 ⟨Nat.le_of_ble_eq_true rfl, Nat.le_of_ble_eq_true rfl⟩ (by exact Nat.le_of_ble_eq_true rfl) rfl rfl mG0 (by exact Nat.le_of_ble_eq_true rfl) ?_
              refine x_top (hg t hin).2.1 ?_
              refine x_goto (tgt := 96) (k := 51) rfl (by decide) ?_
              refine x_istore_n (k := 53) rfl (by decide) ?_
              refine x_iinc (k := 54) rfl rfl (nI_1 t) (by decide) ?_
              refine x_goto (tgt := 6) (k := 55) rfl (by decide) ?_
              exact ih (t + 1) _ _ (by omega) (by omega) e (by intro q hq; simp only [List.mem_cons, List.not_mem_nil, or_false] at hq; rcases hq with rfl | rfl | rfl | rfl | rfl <;> rfl)
          · refine x_aload_n (k := 29) rfl rfl ?_
            refine m_getA (a := 5) (k := 30) rfl flRX10_23 rfl ?_
            refine x_iload (k := 31) rfl rfl ?_
            refine m_bat (k := 32) rfl rfl (by first | assumption | omega) ?_
            refine x_top (hB t (by omega)) ?_
            refine x_iload_n (k := 33) rfl rfl ?_
            refine x_icmp_ne (tgt := 66) (k := 34) rfl (by decide) (fun c59 => ?_) (fun c59 => ?_)
            · have e : v = nI (avTo W b k ju (t + 1)) := by rw [avTo, if_neg (fun q => q.1.2.2.elim c48 c59)]; exact hv
              refine x_iconst (v := 0) (k := 37) rfl (by decide) ?_
              refine x_istore (k := 38) rfl (by decide) ?_
              refine x_iload (k := 39) rfl rfl ?_
              refine x_if_eq (tgt := 95) (k := 40) rfl (by decide) (fun c71 => ?_) (fun c71 => absurd c71 (by decide))
              refine x_iload_n (k := 52) rfl rfl ?_
              refine x_istore_n (k := 53) rfl (by decide) ?_
              refine x_iinc (k := 54) rfl rfl (nI_1 t) (by decide) ?_
              refine x_goto (tgt := 6) (k := 55) rfl (by decide) ?_
              exact ih (t + 1) _ _ (by omega) (by omega) e (by intro q hq; simp only [List.mem_cons, List.not_mem_nil, or_false] at hq; rcases hq with rfl | rfl | rfl | rfl | rfl <;> rfl)
            · have h3 : ju < 0 ∨ nI (b t) = ju := Or.inr c59
              refine x_iconst (v := 1) (k := 35) rfl (by decide) ?_
              refine x_goto (tgt := 67) (k := 36) rfl (by decide) ?_
              refine x_istore (k := 38) rfl (by decide) ?_
              refine x_iload (k := 39) rfl rfl ?_
              refine x_if_eq (tgt := 95) (k := 40) rfl (by decide) (fun c71 => absurd c71 (by decide)) (fun c71 => ?_)
              refine x_aload_n (k := 41) rfl rfl ?_
              refine x_iload (k := 42) rfl rfl ?_
              refine x_iconst (v := 4) (k := 43) rfl (by decide) ?_
              refine m_callI (ci := 10) (k := 44) rfl (by rfl) (m_ofT hM (k := 4) hin (by decide)) okX10_ofT viX10_ofT mlRX10_55 ⟨Nat.le_of_ble_eq_true rfl, Nat.le_of_ble_eq_true rfl⟩ (by exact Nat.le_of_ble_eq_true rfl) rfl rfl mG0 (by exact Nat.le_of_ble_eq_true rfl) ?_
              refine x_top (hg t hin).2.1 ?_
              refine x_iload_n (k := 45) rfl rfl ?_
              have h6 := (hg t hin).2.2.2.1
              subst hv
              refine x_icmp_ge (tgt := 95) (k := 46) rfl (by decide) (fun c82 => ?_) (fun c82 => ?_)
              · have e : nI (avTo W b k ju t) = nI (avTo W b k ju (t + 1)) := by
                  rw [avTo, if_neg (fun q => by
                    have := (nI_leI (a := avTo W b k ju t) (b := arN W t) (by omega) (by omega)).mp c82
                    omega)]
                refine x_iload_n (k := 52) rfl rfl ?_
                refine x_istore_n (k := 53) rfl (by decide) ?_
                refine x_iinc (k := 54) rfl rfl (nI_1 t) (by decide) ?_
                refine x_goto (tgt := 6) (k := 55) rfl (by decide) ?_
                exact ih (t + 1) _ _ (by omega) (by omega) e (by intro q hq; simp only [List.mem_cons, List.not_mem_nil, or_false] at hq; rcases hq with rfl | rfl | rfl | rfl | rfl <;> rfl)
              · have e : nI (arN W t) = nI (avTo W b k ju (t + 1)) := by
                  rw [avTo, if_pos ⟨⟨h1, c44, h3⟩, by
                    have := mt (nI_leI (a := avTo W b k ju t) (b := arN W t) (by omega) (by omega)).mpr c82
                    omega⟩]
                refine x_aload_n (k := 47) rfl rfl ?_
                refine x_iload (k := 48) rfl rfl ?_
                refine x_iconst (v := 4) (k := 49) rfl (by decide) ?_
                refine m_callI (ci := 10) (k := 50) rfl (by rfl) (m_ofT hM (k := 4) hin (by decide)) okX10_ofT viX10_ofT mlRX10_55 ⟨Nat.le_of_ble_eq_true rfl, Nat.le_of_ble_eq_true rfl⟩ (by exact Nat.le_of_ble_eq_true rfl) rfl rfl mG0 (by exact Nat.le_of_ble_eq_true rfl) ?_
                refine x_top (hg t hin).2.1 ?_
                refine x_goto (tgt := 96) (k := 51) rfl (by decide) ?_
                refine x_istore_n (k := 53) rfl (by decide) ?_
                refine x_iinc (k := 54) rfl rfl (nI_1 t) (by decide) ?_
                refine x_goto (tgt := 6) (k := 55) rfl (by decide) ?_
                exact ih (t + 1) _ _ (by omega) (by omega) e (by intro q hq; simp only [List.mem_cons, List.not_mem_nil, or_false] at hq; rcases hq with rfl | rfl | rfl | rfl | rfl <;> rfl)
theorem m_arrival {G : xG} {s : xA} {m hr f nt nk : Nat} {W : Wd} {V : Vd} (hM : Rm hr f nt nk W V) {k : Nat} (hk : k < nk) (hg : ∀ t, t < nt → trG W t) {b : Nat → Nat} (hB : ∀ j, j < 16 → V.2.2 3 j = nI (b j)) (hB2 : ∀ j, j < 16 → b j ≤ 1000000) (ju : Int32) : mI G MX10_arrival [.ref m, .int (nI k), .int ju] s m V (nI (avTo W b k ju nt)) V := by
  refine x_ldc (k := 0) rfl klRX10_228 ?_
  refine x_istore_n (k := 1) rfl (by decide) ?_
  refine x_iconst (v := 0) (k := 2) rfl (by decide) ?_
  refine x_istore (k := 3) rfl (by decide) ?_
  exact l_arrival hM hk hg hB hB2 (nt + 1) 0 _ _ (by omega) (by omega) mil (by intro q hq; simp only [List.mem_cons, List.not_mem_nil, or_false] at hq; rcases hq with rfl | rfl | rfl | rfl | rfl <;> rfl)
theorem l_least {G : xG} {s : xA} {m hr f nt nk : Nat} {W : Wd} {V : Vd} (hM : Rm hr f nt nk W V) {k : Nat} (hk : k < nk) (hg : ∀ t, t < nt → trG W t) {b : Nat → Nat} (hB : ∀ j, j < 16 → V.2.2 3 j = nI (b j)) (hB2 : ∀ j, j < 16 → b j ≤ 1000000) {h : Nat} (hh : h ≤ 1000000) : ∀ (d t : Nat) (v : Int32) (ls : List (Nat × Value)), nt - t < d → t ≤ nt → v = nI (lsTo W b k h t) → (∀ q ∈ [(0, .ref m), (1, .int (nI k)), (2, .int (nI h)), (3, .int v), (4, .int (nI t))], ls.lookup q.1 = some q.2) → mE G MX10_least 6 ls [] s m V (fun r V1 => r = some (.int (nI (lsTo W b k h nt))) ∧ V1 = V) := by
  have hb := hM.2
  intro d
  induction d with
  | zero =>
    intro t v ls hd ht hv g
    exact absurd hd (Nat.not_lt_zero _)
  | succ d ih =>
    intro t v ls hd ht hv g
    refine x_sub (ls' := [(0, .ref m), (1, .int (nI k)), (2, .int (nI h)), (3, .int v), (4, .int (nI t))]) g ?_
    refine x_iload (k := 4) rfl rfl ?_
    refine x_i2l (k := 5) rfl ?_
    refine x_aload_n (k := 6) rfl rfl ?_
    refine m_getA (a := 1) (k := 7) rfl flRX10_7 rfl ?_
    refine x_iconst (v := 2) (k := 8) rfl (by decide) ?_
    refine m_nat (k := 9) rfl (show (2 : Int32) = nI 2 from rfl) (by first | assumption | omega) ?_
    refine x_lcmp (k := 10) rfl ?_
    refine x_if_ge (tgt := 87) (k := 11) rfl (by decide) (fun c16 => ?_) (fun c16 => ?_)
    · replace c16 := (lg_cmp_ge _ _).mp c16
      have e0 : t = nt := by
        have := (lle hM.1.2.2.2.1 (by omega) (by omega)).mp c16
        omega
      subst e0
      refine x_iload_n (k := 48) rfl rfl ?_
      exact m_irD (k := 49) rfl rfl rfl hv rfl
    · replace c16 := mt (lg_cmp_ge _ _).mpr c16
      have hin : t < nt := by
        have := mt (lle hM.1.2.2.2.1 (by omega) (by omega)).mpr c16
        omega
      have hav := lsTo_le (W := W) (b := b) (k := k) (h := h) t
      have h6 := (hg t hin).2.2.2.1
      have hbt := hB2 t (by omega)
      refine x_aload_n (k := 12) rfl rfl ?_
      refine x_iload (k := 13) rfl rfl ?_
      refine x_iconst (v := 2) (k := 14) rfl (by decide) ?_
      refine m_callI (ci := 10) (k := 15) rfl (by rfl) (m_ofT hM (k := 2) hin (by decide)) okX10_ofT viX10_ofT mlRX10_55 ⟨Nat.le_of_ble_eq_true rfl, Nat.le_of_ble_eq_true rfl⟩ (by exact Nat.le_of_ble_eq_true rfl) rfl rfl mG0 (by exact Nat.le_of_ble_eq_true rfl) ?_
      refine x_aload_n (k := 16) rfl rfl ?_
      refine x_iload_n (k := 17) rfl rfl ?_
      refine x_iconst (v := 2) (k := 18) rfl (by decide) ?_
      refine m_callI (ci := 10) (k := 19) rfl (by rfl) (m_of hM (k := 2) hk (by decide)) okX10_of viX10_of mlRX10_84 ⟨Nat.le_of_ble_eq_true rfl, Nat.le_of_ble_eq_true rfl⟩ (by exact Nat.le_of_ble_eq_true rfl) rfl rfl mG0 (by exact Nat.le_of_ble_eq_true rfl) ?_
      refine x_icmp_ne (tgt := 50) (k := 20) rfl (by decide) (fun c32 => ?_) (fun c32 => ?_)
      · have e : v = nI (lsTo W b k h (t + 1)) := by rw [lsTo, if_neg (fun q => c32 q.1.1)]; exact hv
        refine x_iconst (v := 0) (k := 29) rfl (by decide) ?_
        refine x_istore (k := 30) rfl (by decide) ?_
        refine x_iload (k := 31) rfl rfl ?_
        refine x_if_eq (tgt := 79) (k := 32) rfl (by decide) (fun c55 => ?_) (fun c55 => absurd c55 (by decide))
        refine x_iload_n (k := 44) rfl rfl ?_
        refine x_istore_n (k := 45) rfl (by decide) ?_
        refine x_iinc (k := 46) rfl rfl (nI_1 t) (by decide) ?_
        refine x_goto (tgt := 6) (k := 47) rfl (by decide) ?_
        exact ih (t + 1) _ _ (by omega) (by omega) e (by intro q hq; simp only [List.mem_cons, List.not_mem_nil, or_false] at hq; rcases hq with rfl | rfl | rfl | rfl | rfl <;> rfl)
      · refine x_aload_n (k := 21) rfl rfl ?_
        refine x_iload (k := 22) rfl rfl ?_
        refine x_iconst (v := 4) (k := 23) rfl (by decide) ?_
        refine m_callI (ci := 10) (k := 24) rfl (by rfl) (m_ofT hM (k := 4) hin (by decide)) okX10_ofT viX10_ofT mlRX10_55 ⟨Nat.le_of_ble_eq_true rfl, Nat.le_of_ble_eq_true rfl⟩ (by exact Nat.le_of_ble_eq_true rfl) rfl rfl mG0 (by exact Nat.le_of_ble_eq_true rfl) ?_
        refine x_top (hg t hin).2.1 ?_
        refine x_iload_n (k := 25) rfl rfl ?_
        refine x_icmp_gt (tgt := 50) (k := 26) rfl (by decide) (fun c43 => ?_) (fun c43 => ?_)
        · have e : v = nI (lsTo W b k h (t + 1)) := by
            rw [lsTo, if_neg (fun q => by
              have := (nI_ltI (a := h) (b := arN W t) (by omega) (by omega)).mp c43
              omega)]
            exact hv
          refine x_iconst (v := 0) (k := 29) rfl (by decide) ?_
          refine x_istore (k := 30) rfl (by decide) ?_
          refine x_iload (k := 31) rfl rfl ?_
          refine x_if_eq (tgt := 79) (k := 32) rfl (by decide) (fun c55 => ?_) (fun c55 => absurd c55 (by decide))
          refine x_iload_n (k := 44) rfl rfl ?_
          refine x_istore_n (k := 45) rfl (by decide) ?_
          refine x_iinc (k := 46) rfl rfl (nI_1 t) (by decide) ?_
          refine x_goto (tgt := 6) (k := 47) rfl (by decide) ?_
          exact ih (t + 1) _ _ (by omega) (by omega) e (by intro q hq; simp only [List.mem_cons, List.not_mem_nil, or_false] at hq; rcases hq with rfl | rfl | rfl | rfl | rfl <;> rfl)
        · have h2 : arN W t ≤ h := by
            have := mt (nI_ltI (a := h) (b := arN W t) (by omega) (by omega)).mpr c43
            omega
          refine x_iconst (v := 1) (k := 27) rfl (by decide) ?_
          refine x_goto (tgt := 51) (k := 28) rfl (by decide) ?_
          refine x_istore (k := 30) rfl (by decide) ?_
          refine x_iload (k := 31) rfl rfl ?_
          refine x_if_eq (tgt := 79) (k := 32) rfl (by decide) (fun c55 => absurd c55 (by decide)) (fun c55 => ?_)
          refine x_aload_n (k := 33) rfl rfl ?_
          refine m_getA (a := 5) (k := 34) rfl flRX10_23 rfl ?_
          refine x_iload (k := 35) rfl rfl ?_
          refine m_bat (k := 36) rfl rfl (by first | assumption | omega) ?_
          refine x_top (hB t (by omega)) ?_
          refine x_iload_n (k := 37) rfl rfl ?_
          subst hv
          refine x_icmp_ge (tgt := 79) (k := 38) rfl (by decide) (fun c66 => ?_) (fun c66 => ?_)
          · have e : nI (lsTo W b k h t) = nI (lsTo W b k h (t + 1)) := by
              rw [lsTo, if_neg (fun q => by
                have := (nI_leI (a := lsTo W b k h t) (b := b t) (by omega) (by omega)).mp c66
                omega)]
            refine x_iload_n (k := 44) rfl rfl ?_
            refine x_istore_n (k := 45) rfl (by decide) ?_
            refine x_iinc (k := 46) rfl rfl (nI_1 t) (by decide) ?_
            refine x_goto (tgt := 6) (k := 47) rfl (by decide) ?_
            exact ih (t + 1) _ _ (by omega) (by omega) e (by intro q hq; simp only [List.mem_cons, List.not_mem_nil, or_false] at hq; rcases hq with rfl | rfl | rfl | rfl | rfl <;> rfl)
          · have e : nI (b t) = nI (lsTo W b k h (t + 1)) := by
              rw [lsTo, if_pos ⟨⟨c32, h2⟩, by
                have := mt (nI_leI (a := lsTo W b k h t) (b := b t) (by omega) (by omega)).mpr c66
                omega⟩]
            refine x_aload_n (k := 39) rfl rfl ?_
            refine m_getA (a := 5) (k := 40) rfl flRX10_23 rfl ?_
            refine x_iload (k := 41) rfl rfl ?_
            refine m_bat (k := 42) rfl rfl (by first | assumption | omega) ?_
            refine x_top (hB t (by omega)) ?_
            refine x_goto (tgt := 80) (k := 43) rfl (by decide) ?_
            refine x_istore_n (k := 45) rfl (by decide) ?_
            refine x_iinc (k := 46) rfl rfl (nI_1 t) (by decide) ?_
            refine x_goto (tgt := 6) (k := 47) rfl (by decide) ?_
            exact ih (t + 1) _ _ (by omega) (by omega) e (by intro q hq; simp only [List.mem_cons, List.not_mem_nil, or_false] at hq; rcases hq with rfl | rfl | rfl | rfl | rfl <;> rfl)
theorem m_least {G : xG} {s : xA} {m hr f nt nk : Nat} {W : Wd} {V : Vd} (hM : Rm hr f nt nk W V) {k : Nat} (hk : k < nk) (hg : ∀ t, t < nt → trG W t) {b : Nat → Nat} (hB : ∀ j, j < 16 → V.2.2 3 j = nI (b j)) (hB2 : ∀ j, j < 16 → b j ≤ 1000000) {h : Nat} (hh : h ≤ 1000000) : mI G MX10_least [.ref m, .int (nI k), .int (nI h)] s m V (nI (lsTo W b k h nt)) V := by
  refine x_ldc (k := 0) rfl klRX10_228 ?_
  refine x_istore_n (k := 1) rfl (by decide) ?_
  refine x_iconst (v := 0) (k := 2) rfl (by decide) ?_
  refine x_istore (k := 3) rfl (by decide) ?_
  exact l_least hM hk hg hB hB2 hh (nt + 1) 0 _ _ (by omega) (by omega) mil (by intro q hq; simp only [List.mem_cons, List.not_mem_nil, or_false] at hq; rcases hq with rfl | rfl | rfl | rfl | rfl <;> rfl)
theorem l_firstOf {G : xG} {s : xA} {m hr f nt nk : Nat} {W : Wd} {V0 : Vd} (hM0 : Rm hr f nt nk W V0) {k : Nat} (hk : k < nk) (hg : ∀ t, t < nt → trG W t) (hh : W 2 k 6 < 10 → isP (W 2 k 6)) (hr2 : rdG W nt k) {h : Nat} (hl : h ≤ 1000000) : ∀ (d t : Nat) (V : Vd) (ls : List (Nat × Value)), nt - t = d → t ≤ nt → bF V0 V → (∀ q ∈ [(0, .ref m), (1, .int (nI k)), (2, .int (nI h)), (3, .int (nI t))], ls.lookup q.1 = some q.2) → mE G MX10_firstOf 2 ls [] s m V (fun r V1 => r = some (.int (fiTo W nt k h d)) ∧ bF V0 V1) := by
  have hb := hM0.2
  intro d
  induction d with
  | zero =>
    intro t V ls hd ht hB g
    have e0 : t = nt := by omega
    subst e0
    have hM := hM0.as (V' := V) hB.1
    refine x_sub (ls' := [(0, .ref m), (1, .int (nI k)), (2, .int (nI h)), (3, .int (nI t))]) g ?_
    refine x_iload_n (k := 2) rfl rfl ?_
    refine x_i2l (k := 3) rfl ?_
    refine x_aload_n (k := 4) rfl rfl ?_
    refine m_getA (a := 1) (k := 5) rfl flRX10_7 rfl ?_
    refine x_iconst (v := 2) (k := 6) rfl (by decide) ?_
    refine m_nat (k := 7) rfl (show (2 : Int32) = nI 2 from rfl) (by first | assumption | omega) ?_
    refine x_lcmp (k := 8) rfl ?_
    refine x_if_ge (tgt := 39) (k := 9) rfl (by decide) (fun c11 => ?_) (fun c11 => absurd ((lg_cmp_ge _ _).mpr ((lle hM.1.2.2.2.1 (by omega) (by omega)).mpr (Nat.le_refl _))) c11)
    refine x_bipush (v := -9) (k := 25) rfl (by decide) ?_
    exact m_irQ (k := 26) rfl rfl rfl rfl hB
  | succ d ih =>
    intro t V ls hd ht hB g
    have hin : t < nt := by omega
    have hM := hM0.as (V' := V) hB.1
    refine x_sub (ls' := [(0, .ref m), (1, .int (nI k)), (2, .int (nI h)), (3, .int (nI t))]) g ?_
    refine x_iload_n (k := 2) rfl rfl ?_
    refine x_i2l (k := 3) rfl ?_
    refine x_aload_n (k := 4) rfl rfl ?_
    refine m_getA (a := 1) (k := 5) rfl flRX10_7 rfl ?_
    refine x_iconst (v := 2) (k := 6) rfl (by decide) ?_
    refine m_nat (k := 7) rfl (show (2 : Int32) = nI 2 from rfl) (by first | assumption | omega) ?_
    refine x_lcmp (k := 8) rfl ?_
    refine x_if_ge (tgt := 39) (k := 9) rfl (by decide) (fun c11 => absurd ((lle hM.1.2.2.2.1 (by omega) (by omega)).mp ((lg_cmp_ge _ _).mp c11)) (by omega)) (fun c11 => ?_)
    refine x_aload_n (k := 10) rfl rfl ?_
    refine x_iload_n (k := 11) rfl rfl ?_
    refine x_iconst (v := 2) (k := 12) rfl (by decide) ?_
    refine x_iload_n (k := 13) rfl rfl ?_
    refine m_callVQ (ci := 10) (k := 14) rfl (by rfl) (m_findBest hM hg (kd := 2) (by decide) hk hh hr2 (nI t)) okX10_findBest viX10_findBest mlRX10_232 ⟨Nat.le_of_ble_eq_true rfl, Nat.le_of_ble_eq_true rfl⟩ (by exact Nat.le_of_ble_eq_true rfl) rfl rfl mG0 (by exact Nat.le_of_ble_eq_true rfl) (fun V1 q1 => ?_)
    have hB1 := hB.tr q1.1
    have hM1 := hM0.as (V' := V1) hB1.1
    refine x_aload_n (k := 15) rfl rfl ?_
    refine x_iload_n (k := 16) rfl rfl ?_
    refine x_iconst (v := -1) (k := 17) rfl (by decide) ?_
    refine m_callI (ci := 10) (k := 18) rfl (by rfl) (m_arrival hM1 hk hg q1.2.1 q1.2.2 _) okX10_arrival viX10_arrival mlRX10_235 ⟨Nat.le_of_ble_eq_true rfl, Nat.le_of_ble_eq_true rfl⟩ (by exact Nat.le_of_ble_eq_true rfl) rfl rfl mG0 (by exact Nat.le_of_ble_eq_true rfl) ?_
    refine x_iload_n (k := 19) rfl rfl ?_
    refine x_icmp_ne (tgt := 33) (k := 20) rfl (by decide) (fun c28 => ?_) (fun c28 => ?_)
    · have e : fiTo W nt k h (d + 1) = fiTo W nt k h d := by
        rw [fiTo, if_neg]
        intro z
        exact c28 (by rw [show nt - (d + 1) = t by omega] at z; rw [z])
      rw [e]
      refine x_iinc (k := 23) rfl rfl (nI_1 t) (by decide) ?_
      refine x_goto (tgt := 2) (k := 24) rfl (by decide) ?_
      exact ih (t + 1) _ _ (by omega) (by omega) hB1 (by intro q hq; simp only [List.mem_cons, List.not_mem_nil, or_false] at hq; rcases hq with rfl | rfl | rfl | rfl <;> rfl)
    · have e : fiTo W nt k h (d + 1) = nI t := by
        have z := (nI_eq (Nat.lt_of_le_of_lt (avTo_le _) (by decide)) (by omega)).mp c28
        rw [fiTo, show nt - (d + 1) = t by omega, if_pos z]
      rw [e]
      refine x_iload_n (k := 21) rfl rfl ?_
      exact m_irQ (k := 22) rfl rfl rfl rfl hB1
theorem m_firstOf {G : xG} {s : xA} {m hr f nt nk : Nat} {W : Wd} {V : Vd} (hM : Rm hr f nt nk W V) {k : Nat} (hk : k < nk) (hg : ∀ t, t < nt → trG W t) (hh : W 2 k 6 < 10 → isP (W 2 k 6)) (hr2 : rdG W nt k) {h : Nat} (hl : h ≤ 1000000) : mMe G MX10_firstOf [.ref m, .int (nI k), .int (nI h)] s m V (fun r V1 => r = some (.int (fiTo W nt k h nt)) ∧ bF V V1) := by
  refine x_iconst (v := 0) (k := 0) rfl (by decide) ?_
  refine x_istore_n (k := 1) rfl (by decide) ?_
  exact l_firstOf hM hk hg hh hr2 hl nt 0 _ _ (by omega) (by omega) bF.rf (by intro q hq; simp only [List.mem_cons, List.not_mem_nil, or_false] at hq; rcases hq with rfl | rfl | rfl | rfl <;> rfl)
def eaM (W : Wd) (nt k q : Nat) : Int32 := if avTo W (wfb W nt k 0 (-9)) k (-1) nt = 1000000 then -9 else match q with
  | 0 => nI (avTo W (wfb W nt k 0 (-9)) k (-1) nt) | 1 => nI (lsTo W (wfb W nt k 0 (-9)) k (avTo W (wfb W nt k 0 (-9)) k (-1) nt) nt) | _ => fiTo W nt k (avTo W (wfb W nt k 0 (-9)) k (-1) nt) nt
def chM (W : Wd) (nt k q : Nat) : Int32 := if lsTo W (wfb W nt k 1 (-9)) k 1000000 nt = 1000000 then -9 else match q with
  | 0 => nI (lsTo W (wfb W nt k 1 (-9)) k 1000000 nt) | _ => nI (avTo W (wfb W nt k 1 (-9)) k (nI (lsTo W (wfb W nt k 1 (-9)) k 1000000 nt)) nt)
def weV (W : Wd) (n q hi : Int32) : Int32 := if ¬ kP W n ∨ ¬ wIn q 0 hi then -1 else if W 2 (ix n) 5 = 0 then 0 else -2
theorem m_earBy0 {G : xG} {s : xA} {m hr f nt nk : Nat} {W : Wd} {V : Vd} (hM : Rm hr f nt nk W V) {k : Nat} (hk : k < nk) (hg : ∀ t, t < nt → trG W t) (hh : W 2 k 6 < 10 → isP (W 2 k 6)) (hr2 : rdG W nt k) : mMe G MX10_earliestBy [.ref m, .int (nI k), .int 0] s m V (fun r V1 => r = some (.int (eaM W nt k 0)) ∧ bF V V1) := by
  refine x_aload_n (k := 0) rfl rfl ?_
  refine x_iload_n (k := 1) rfl rfl ?_
  refine x_iconst (v := 0) (k := 2) rfl (by decide) ?_
  refine x_bipush (v := -9) (k := 3) rfl (by decide) ?_
  refine m_callVQ (ci := 10) (k := 4) rfl (by rfl) (m_findBest hM hg (kd := 0) (by decide) hk hh hr2 (-9)) okX10_findBest viX10_findBest mlRX10_232 ⟨Nat.le_of_ble_eq_true rfl, Nat.le_of_ble_eq_true rfl⟩ (by exact Nat.le_of_ble_eq_true rfl) rfl rfl mG0 (by exact Nat.le_of_ble_eq_true rfl) (fun V1 q1 => ?_)
  have hM1 := hM.as (V' := V1) q1.1.1
  refine x_aload_n (k := 5) rfl rfl ?_
  refine x_iload_n (k := 6) rfl rfl ?_
  refine x_iconst (v := -1) (k := 7) rfl (by decide) ?_
  refine m_callI (ci := 10) (k := 8) rfl (by rfl) (m_arrival hM1 hk hg q1.2.1 q1.2.2 _) okX10_arrival viX10_arrival mlRX10_235 ⟨Nat.le_of_ble_eq_true rfl, Nat.le_of_ble_eq_true rfl⟩ (by exact Nat.le_of_ble_eq_true rfl) rfl rfl mG0 (by exact Nat.le_of_ble_eq_true rfl) ?_
  refine x_istore_n (k := 9) rfl (by decide) ?_
  refine x_iload_n (k := 10) rfl rfl ?_
  refine x_ldc (k := 11) rfl klRX10_228 ?_
  refine x_icmp_ne (tgt := 24) (k := 12) rfl (by decide) (fun c18 => ?_) (fun c18 => ?_)
  · have nf : ¬ avTo W (wfb W nt k 0 (-9)) k (-1) nt = 1000000 := fun z => c18 (by rw [z]; rfl)
    refine x_iload_n (k := 15) rfl rfl ?_
    refine x_if_ne (tgt := 32) (k := 16) rfl (by decide) (fun c25 => absurd rfl c25) (fun c25 => ?_)
    refine x_iload_n (k := 17) rfl rfl ?_
    refine x_goto (tgt := 52) (k := 18) rfl (by decide) ?_
    exact m_irQ (k := 31) rfl rfl rfl (if_neg nf).symm q1.1
  · have yf : avTo W (wfb W nt k 0 (-9)) k (-1) nt = 1000000 := (nI_eq (Nat.lt_of_le_of_lt (avTo_le _) (by decide)) (by decide)).mp c18
    refine x_bipush (v := -9) (k := 13) rfl (by decide) ?_
    exact m_irQ (k := 14) rfl rfl rfl (if_pos yf).symm q1.1
theorem m_earBy1 {G : xG} {s : xA} {m hr f nt nk : Nat} {W : Wd} {V : Vd} (hM : Rm hr f nt nk W V) {k : Nat} (hk : k < nk) (hg : ∀ t, t < nt → trG W t) (hh : W 2 k 6 < 10 → isP (W 2 k 6)) (hr2 : rdG W nt k) : mMe G MX10_earliestBy [.ref m, .int (nI k), .int 1] s m V (fun r V1 => r = some (.int (eaM W nt k 1)) ∧ bF V V1) := by
  refine x_aload_n (k := 0) rfl rfl ?_
  refine x_iload_n (k := 1) rfl rfl ?_
  refine x_iconst (v := 0) (k := 2) rfl (by decide) ?_
  refine x_bipush (v := -9) (k := 3) rfl (by decide) ?_
  refine m_callVQ (ci := 10) (k := 4) rfl (by rfl) (m_findBest hM hg (kd := 0) (by decide) hk hh hr2 (-9)) okX10_findBest viX10_findBest mlRX10_232 ⟨Nat.le_of_ble_eq_true rfl, Nat.le_of_ble_eq_true rfl⟩ (by exact Nat.le_of_ble_eq_true rfl) rfl rfl mG0 (by exact Nat.le_of_ble_eq_true rfl) (fun V1 q1 => ?_)
  have hM1 := hM.as (V' := V1) q1.1.1
  refine x_aload_n (k := 5) rfl rfl ?_
  refine x_iload_n (k := 6) rfl rfl ?_
  refine x_iconst (v := -1) (k := 7) rfl (by decide) ?_
  refine m_callI (ci := 10) (k := 8) rfl (by rfl) (m_arrival hM1 hk hg q1.2.1 q1.2.2 _) okX10_arrival viX10_arrival mlRX10_235 ⟨Nat.le_of_ble_eq_true rfl, Nat.le_of_ble_eq_true rfl⟩ (by exact Nat.le_of_ble_eq_true rfl) rfl rfl mG0 (by exact Nat.le_of_ble_eq_true rfl) ?_
  refine x_istore_n (k := 9) rfl (by decide) ?_
  refine x_iload_n (k := 10) rfl rfl ?_
  refine x_ldc (k := 11) rfl klRX10_228 ?_
  refine x_icmp_ne (tgt := 24) (k := 12) rfl (by decide) (fun c18 => ?_) (fun c18 => ?_)
  · have nf : ¬ avTo W (wfb W nt k 0 (-9)) k (-1) nt = 1000000 := fun z => c18 (by rw [z]; rfl)
    refine x_iload_n (k := 15) rfl rfl ?_
    refine x_if_ne (tgt := 32) (k := 16) rfl (by decide) (fun c25 => ?_) (fun c25 => absurd c25 (by decide))
    refine x_iload_n (k := 19) rfl rfl ?_
    refine x_iconst (v := 1) (k := 20) rfl (by decide) ?_
    refine x_icmp_ne (tgt := 46) (k := 21) rfl (by decide) (fun c34 => absurd rfl c34) (fun c34 => ?_)
    refine x_aload_n (k := 22) rfl rfl ?_
    refine x_iload_n (k := 23) rfl rfl ?_
    refine x_iload_n (k := 24) rfl rfl ?_
    refine m_callI (ci := 10) (k := 25) rfl (by rfl) (m_least hM1 hk hg q1.2.1 q1.2.2 (avTo_le _)) okX10_least viX10_least mlRX10_238 ⟨Nat.le_of_ble_eq_true rfl, Nat.le_of_ble_eq_true rfl⟩ (by exact Nat.le_of_ble_eq_true rfl) rfl rfl mG0 (by exact Nat.le_of_ble_eq_true rfl) ?_
    refine x_goto (tgt := 52) (k := 26) rfl (by decide) ?_
    exact m_irQ (k := 31) rfl rfl rfl (if_neg nf).symm q1.1
  · have yf : avTo W (wfb W nt k 0 (-9)) k (-1) nt = 1000000 := (nI_eq (Nat.lt_of_le_of_lt (avTo_le _) (by decide)) (by decide)).mp c18
    refine x_bipush (v := -9) (k := 13) rfl (by decide) ?_
    exact m_irQ (k := 14) rfl rfl rfl (if_pos yf).symm q1.1
theorem m_earBy2 {G : xG} {s : xA} {m hr f nt nk : Nat} {W : Wd} {V : Vd} (hM : Rm hr f nt nk W V) {k : Nat} (hk : k < nk) (hg : ∀ t, t < nt → trG W t) (hh : W 2 k 6 < 10 → isP (W 2 k 6)) (hr2 : rdG W nt k) : mMe G MX10_earliestBy [.ref m, .int (nI k), .int 2] s m V (fun r V1 => r = some (.int (eaM W nt k 2)) ∧ bF V V1) := by
  refine x_aload_n (k := 0) rfl rfl ?_
  refine x_iload_n (k := 1) rfl rfl ?_
  refine x_iconst (v := 0) (k := 2) rfl (by decide) ?_
  refine x_bipush (v := -9) (k := 3) rfl (by decide) ?_
  refine m_callVQ (ci := 10) (k := 4) rfl (by rfl) (m_findBest hM hg (kd := 0) (by decide) hk hh hr2 (-9)) okX10_findBest viX10_findBest mlRX10_232 ⟨Nat.le_of_ble_eq_true rfl, Nat.le_of_ble_eq_true rfl⟩ (by exact Nat.le_of_ble_eq_true rfl) rfl rfl mG0 (by exact Nat.le_of_ble_eq_true rfl) (fun V1 q1 => ?_)
  have hM1 := hM.as (V' := V1) q1.1.1
  refine x_aload_n (k := 5) rfl rfl ?_
  refine x_iload_n (k := 6) rfl rfl ?_
  refine x_iconst (v := -1) (k := 7) rfl (by decide) ?_
  refine m_callI (ci := 10) (k := 8) rfl (by rfl) (m_arrival hM1 hk hg q1.2.1 q1.2.2 _) okX10_arrival viX10_arrival mlRX10_235 ⟨Nat.le_of_ble_eq_true rfl, Nat.le_of_ble_eq_true rfl⟩ (by exact Nat.le_of_ble_eq_true rfl) rfl rfl mG0 (by exact Nat.le_of_ble_eq_true rfl) ?_
  refine x_istore_n (k := 9) rfl (by decide) ?_
  refine x_iload_n (k := 10) rfl rfl ?_
  refine x_ldc (k := 11) rfl klRX10_228 ?_
  refine x_icmp_ne (tgt := 24) (k := 12) rfl (by decide) (fun c18 => ?_) (fun c18 => ?_)
  · have nf : ¬ avTo W (wfb W nt k 0 (-9)) k (-1) nt = 1000000 := fun z => c18 (by rw [z]; rfl)
    refine x_iload_n (k := 15) rfl rfl ?_
    refine x_if_ne (tgt := 32) (k := 16) rfl (by decide) (fun c25 => ?_) (fun c25 => absurd c25 (by decide))
    refine x_iload_n (k := 19) rfl rfl ?_
    refine x_iconst (v := 1) (k := 20) rfl (by decide) ?_
    refine x_icmp_ne (tgt := 46) (k := 21) rfl (by decide) (fun c34 => ?_) (fun c34 => absurd c34 (by decide))
    refine x_aload_n (k := 27) rfl rfl ?_
    refine x_iload_n (k := 28) rfl rfl ?_
    refine x_iload_n (k := 29) rfl rfl ?_
    refine m_callIQ (ci := 10) (k := 30) rfl (by rfl) (m_firstOf hM1 hk hg hh hr2 (avTo_le _)) okX10_firstOf viX10_firstOf mlRX10_241 ⟨Nat.le_of_ble_eq_true rfl, Nat.le_of_ble_eq_true rfl⟩ (by exact Nat.le_of_ble_eq_true rfl) rfl rfl mG0 (by exact Nat.le_of_ble_eq_true rfl) (fun V2 q2 => ?_)
    exact m_irQ (k := 31) rfl rfl rfl (if_neg nf).symm (q1.1.tr q2)
  · have yf : avTo W (wfb W nt k 0 (-9)) k (-1) nt = 1000000 := (nI_eq (Nat.lt_of_le_of_lt (avTo_le _) (by decide)) (by decide)).mp c18
    refine x_bipush (v := -9) (k := 13) rfl (by decide) ?_
    exact m_irQ (k := 14) rfl rfl rfl (if_pos yf).symm q1.1
theorem m_wayError {G : xG} {s : xA} {m hr f nt nk : Nat} {W : Wd} {V : Vd} (hM : Rm hr f nt nk W V) (n q hi : Int32) : mI G MX10_wayError [.ref m, .int n, .int q, .int hi] s m V (weV W n q hi) V := by
  refine x_aload_n (k := 0) rfl rfl ?_
  refine x_iload_n (k := 1) rfl rfl ?_
  refine m_callI (ci := 10) (k := 2) rfl (by rfl) (m_isParcel hM _) okX10_isParcel viX10_isParcel mlRX10_133 ⟨Nat.le_of_ble_eq_true rfl, Nat.le_of_ble_eq_true rfl⟩ (by exact Nat.le_of_ble_eq_true rfl) rfl rfl mG0 (by exact Nat.le_of_ble_eq_true rfl) ?_
  refine x_if_eq (tgt := 19) (k := 3) rfl (by decide) (fun c5 => ?_) (fun c5 => ?_)
  · replace c5 := bz_eq0 c5
    have e : weV W n q hi = -1 := if_pos (Or.inl c5)
    refine x_iconst (v := -1) (k := 11) rfl (by decide) ?_
    exact m_irD (k := 12) rfl rfl rfl e.symm rfl
  · replace c5 := bz_ne0 c5
    refine x_iload_n (k := 4) rfl rfl ?_
    refine x_i2l (k := 5) rfl ?_
    refine x_lconst (v := 0) (k := 6) rfl (by decide) ?_
    refine x_iload_n (k := 7) rfl rfl ?_
    refine x_i2l (k := 8) rfl ?_
    refine x_sD (k := 9) rfl (by rfl) (m_isIn _ _ _) okX10_isIn viX10_isIn mlRX10_38 ⟨Nat.le_of_ble_eq_true rfl, Nat.le_of_ble_eq_true rfl⟩ (by exact Nat.le_of_ble_eq_true rfl) rfl (by exact Nat.le_of_ble_eq_true rfl) ?_
    refine x_if_ne (tgt := 21) (k := 10) rfl (by decide) (fun c16 => ?_) (fun c16 => ?_)
    · replace c16 := bz_ne0 c16
      have e2 : weV W n q hi = if W 2 (ix n) 5 = 0 then 0 else -2 := if_neg (fun z => z.elim (fun z => z c5) (fun z => z ((w64 (by decide) rfl).mp c16)))
      obtain ⟨k, hk, hk10, rfl⟩ := hM.kP c5
      rw [show ix (nI k) = k from clK hk10] at e2
      refine x_aload_n (k := 13) rfl rfl ?_
      refine x_iload_n (k := 14) rfl rfl ?_
      refine x_iconst (v := 5) (k := 15) rfl (by decide) ?_
      refine m_callI (ci := 10) (k := 16) rfl (by rfl) (m_of hM (k := 5) hk (by decide)) okX10_of viX10_of mlRX10_84 ⟨Nat.le_of_ble_eq_true rfl, Nat.le_of_ble_eq_true rfl⟩ (by exact Nat.le_of_ble_eq_true rfl) rfl rfl mG0 (by exact Nat.le_of_ble_eq_true rfl) ?_
      refine x_if_ne (tgt := 34) (k := 17) rfl (by decide) (fun c27 => ?_) (fun c27 => ?_)
      · have e := e2.trans (if_neg c27)
        refine x_bipush (v := -2) (k := 20) rfl (by decide) ?_
        exact m_irD (k := 21) rfl rfl rfl e.symm rfl
      · have e := e2.trans (if_pos c27)
        refine x_iconst (v := 0) (k := 18) rfl (by decide) ?_
        refine x_goto (tgt := 36) (k := 19) rfl (by decide) ?_
        exact m_irD (k := 21) rfl rfl rfl e.symm rfl
    · replace c16 := bz_eq0 c16
      have e : weV W n q hi = -1 := if_pos (Or.inr (fun z => c16 ((w64 (by decide) rfl).mpr z)))
      refine x_iconst (v := -1) (k := 11) rfl (by decide) ?_
      exact m_irD (k := 12) rfl rfl rfl e.symm rfl
theorem m_isThere {G : xG} {s : xA} {m hr f nt nk : Nat} {W : Wd} {V : Vd} (hM : Rm hr f nt nk W V) {k : Nat} (hk : k < nk) (hg : ∀ t, t < nt → trG W t) (hh : W 2 k 6 < 10 → isP (W 2 k 6)) (hr2 : rdG W nt k) : mI G MX10_isThere [.ref m, .int (nI k)] s m V (bz (yTn W k = W 2 k 2)) V := by
  refine x_aload_n (k := 0) rfl rfl ?_
  refine x_iload_n (k := 1) rfl rfl ?_
  refine m_callI (ci := 10) (k := 2) rfl (by rfl) (m_startTown hM hk hh hr2) okX10_startTown viX10_startTown mlRX10_216 ⟨Nat.le_of_ble_eq_true rfl, Nat.le_of_ble_eq_true rfl⟩ (by exact Nat.le_of_ble_eq_true rfl) rfl rfl mG0 (by exact Nat.le_of_ble_eq_true rfl) ?_
  refine x_aload_n (k := 3) rfl rfl ?_
  refine x_iload_n (k := 4) rfl rfl ?_
  refine x_iconst (v := 2) (k := 5) rfl (by decide) ?_
  refine m_callI (ci := 10) (k := 6) rfl (by rfl) (m_of hM (k := 2) hk (by decide)) okX10_of viX10_of mlRX10_84 ⟨Nat.le_of_ble_eq_true rfl, Nat.le_of_ble_eq_true rfl⟩ (by exact Nat.le_of_ble_eq_true rfl) rfl rfl mG0 (by exact Nat.le_of_ble_eq_true rfl) ?_
  refine x_icmp_ne (tgt := 18) (k := 7) rfl (by decide) (fun c11 => ?_) (fun c11 => ?_)
  · have e : bz (yTn W k = W 2 k 2) = 0 := bz_0 c11
    refine x_iconst (v := 0) (k := 10) rfl (by decide) ?_
    exact m_irD (k := 11) rfl rfl rfl e.symm rfl
  · have e : bz (yTn W k = W 2 k 2) = 1 := bz_1 c11
    refine x_iconst (v := 1) (k := 8) rfl (by decide) ?_
    refine x_goto (tgt := 19) (k := 9) rfl (by decide) ?_
    exact m_irD (k := 11) rfl rfl rfl e.symm rfl
theorem m_earliestF {G : xG} {s : xA} {m hr f nt nk : Nat} {W : Wd} {V : Vd} (hM : Rm hr f nt nk W V) {n q : Int32} (hF : weV W n q 2 < 0) : mI G MX10_earliest [.ref m, .int n, .int q] s m V (weV W n q 2) V := by
  refine x_aload_n (k := 0) rfl rfl ?_
  refine x_iload_n (k := 1) rfl rfl ?_
  refine x_iload_n (k := 2) rfl rfl ?_
  refine x_iconst (v := 2) (k := 3) rfl (by decide) ?_
  refine m_callI (ci := 10) (k := 4) rfl (by rfl) (m_wayError hM _ _ _) okX10_wayError viX10_wayError mlRX10_244 ⟨Nat.le_of_ble_eq_true rfl, Nat.le_of_ble_eq_true rfl⟩ (by exact Nat.le_of_ble_eq_true rfl) rfl rfl mG0 (by exact Nat.le_of_ble_eq_true rfl) ?_
  refine x_istore_n (k := 5) rfl (by decide) ?_
  refine x_iload_n (k := 6) rfl rfl ?_
  refine x_if_eq (tgt := 14) (k := 7) rfl (by decide) (fun c9 => absurd hF (by rw [c9]; decide)) (fun c9 => ?_)
  refine x_iload_n (k := 8) rfl rfl ?_
  exact m_irD (k := 9) rfl rfl rfl rfl rfl
theorem m_cheapestF {G : xG} {s : xA} {m hr f nt nk : Nat} {W : Wd} {V : Vd} (hM : Rm hr f nt nk W V) {n q : Int32} (hF : weV W n q 1 < 0) : mI G MX10_cheapest [.ref m, .int n, .int q] s m V (weV W n q 1) V := by
  refine x_aload_n (k := 0) rfl rfl ?_
  refine x_iload_n (k := 1) rfl rfl ?_
  refine x_iload_n (k := 2) rfl rfl ?_
  refine x_iconst (v := 1) (k := 3) rfl (by decide) ?_
  refine m_callI (ci := 10) (k := 4) rfl (by rfl) (m_wayError hM _ _ _) okX10_wayError viX10_wayError mlRX10_244 ⟨Nat.le_of_ble_eq_true rfl, Nat.le_of_ble_eq_true rfl⟩ (by exact Nat.le_of_ble_eq_true rfl) rfl rfl mG0 (by exact Nat.le_of_ble_eq_true rfl) ?_
  refine x_istore_n (k := 5) rfl (by decide) ?_
  refine x_iload_n (k := 6) rfl rfl ?_
  refine x_if_eq (tgt := 14) (k := 7) rfl (by decide) (fun c9 => absurd hF (by rw [c9]; decide)) (fun c9 => ?_)
  refine x_iload_n (k := 8) rfl rfl ?_
  exact m_irD (k := 9) rfl rfl rfl rfl rfl
theorem m_earliest0 {G : xG} {s : xA} {m hr f nt nk : Nat} {W : Wd} {V : Vd} (hM : Rm hr f nt nk W V) {k : Nat} (hk : k < nk) (hg : ∀ t, t < nt → trG W t) (hh : W 2 k 6 < 10 → isP (W 2 k 6)) (hr2 : rdG W nt k) (hF : weV W (nI k) 0 2 = 0) : mMe G MX10_earliest [.ref m, .int (nI k), .int 0] s m V (fun r V1 => r = some (.int (if yTn W k = W 2 k 2 then yHr W k else eaM W nt k 0)) ∧ bF V V1) := by
  refine x_aload_n (k := 0) rfl rfl ?_
  refine x_iload_n (k := 1) rfl rfl ?_
  refine x_iload_n (k := 2) rfl rfl ?_
  refine x_iconst (v := 2) (k := 3) rfl (by decide) ?_
  refine m_callI (ci := 10) (k := 4) rfl (by rfl) (m_wayError hM _ _ _) okX10_wayError viX10_wayError mlRX10_244 ⟨Nat.le_of_ble_eq_true rfl, Nat.le_of_ble_eq_true rfl⟩ (by exact Nat.le_of_ble_eq_true rfl) rfl rfl mG0 (by exact Nat.le_of_ble_eq_true rfl) ?_
  refine x_istore_n (k := 5) rfl (by decide) ?_
  refine x_iload_n (k := 6) rfl rfl ?_
  refine x_if_eq (tgt := 14) (k := 7) rfl (by decide) (fun c9 => ?_) (fun c9 => absurd hF c9)
  refine x_aload_n (k := 10) rfl rfl ?_
  refine x_iload_n (k := 11) rfl rfl ?_
  refine m_callI (ci := 10) (k := 12) rfl (by rfl) (m_isThere hM hk hg hh hr2) okX10_isThere viX10_isThere mlRX10_247 ⟨Nat.le_of_ble_eq_true rfl, Nat.le_of_ble_eq_true rfl⟩ (by exact Nat.le_of_ble_eq_true rfl) rfl rfl mG0 (by exact Nat.le_of_ble_eq_true rfl) ?_
  refine x_if_eq (tgt := 46) (k := 13) rfl (by decide) (fun c19 => ?_) (fun c19 => ?_)
  · replace c19 := bz_eq0 c19
    rw [if_neg c19]
    refine x_aload_n (k := 27) rfl rfl ?_
    refine x_iload_n (k := 28) rfl rfl ?_
    refine x_iload_n (k := 29) rfl rfl ?_
    refine m_callIQ (ci := 10) (k := 30) rfl (by rfl) (m_earBy0 hM hk hg hh hr2) okX10_earliestBy viX10_earliestBy mlRX10_250 ⟨Nat.le_of_ble_eq_true rfl, Nat.le_of_ble_eq_true rfl⟩ (by exact Nat.le_of_ble_eq_true rfl) rfl rfl mG0 (by exact Nat.le_of_ble_eq_true rfl) (fun V1 q1 => ?_)
    exact m_irQ (k := 31) rfl rfl rfl rfl q1
  · replace c19 := bz_ne0 c19
    rw [if_pos c19]
    refine x_iload_n (k := 14) rfl rfl ?_
    refine x_if_ne (tgt := 34) (k := 15) rfl (by decide) (fun c23 => absurd rfl c23) (fun c23 => ?_)
    refine x_aload_n (k := 16) rfl rfl ?_
    refine x_iload_n (k := 17) rfl rfl ?_
    refine m_callI (ci := 10) (k := 18) rfl (by rfl) (m_startHour hM hk hh hr2) okX10_startHour viX10_startHour mlRX10_219 ⟨Nat.le_of_ble_eq_true rfl, Nat.le_of_ble_eq_true rfl⟩ (by exact Nat.le_of_ble_eq_true rfl) rfl rfl mG0 (by exact Nat.le_of_ble_eq_true rfl) ?_
    refine x_goto (tgt := 45) (k := 19) rfl (by decide) ?_
    exact m_irQ (k := 26) rfl rfl rfl rfl bF.rf
theorem m_earliest1 {G : xG} {s : xA} {m hr f nt nk : Nat} {W : Wd} {V : Vd} (hM : Rm hr f nt nk W V) {k : Nat} (hk : k < nk) (hg : ∀ t, t < nt → trG W t) (hh : W 2 k 6 < 10 → isP (W 2 k 6)) (hr2 : rdG W nt k) (hF : weV W (nI k) 1 2 = 0) : mMe G MX10_earliest [.ref m, .int (nI k), .int 1] s m V (fun r V1 => r = some (.int (if yTn W k = W 2 k 2 then 0 else eaM W nt k 1)) ∧ bF V V1) := by
  refine x_aload_n (k := 0) rfl rfl ?_
  refine x_iload_n (k := 1) rfl rfl ?_
  refine x_iload_n (k := 2) rfl rfl ?_
  refine x_iconst (v := 2) (k := 3) rfl (by decide) ?_
  refine m_callI (ci := 10) (k := 4) rfl (by rfl) (m_wayError hM _ _ _) okX10_wayError viX10_wayError mlRX10_244 ⟨Nat.le_of_ble_eq_true rfl, Nat.le_of_ble_eq_true rfl⟩ (by exact Nat.le_of_ble_eq_true rfl) rfl rfl mG0 (by exact Nat.le_of_ble_eq_true rfl) ?_
  refine x_istore_n (k := 5) rfl (by decide) ?_
  refine x_iload_n (k := 6) rfl rfl ?_
  refine x_if_eq (tgt := 14) (k := 7) rfl (by decide) (fun c9 => ?_) (fun c9 => absurd hF c9)
  refine x_aload_n (k := 10) rfl rfl ?_
  refine x_iload_n (k := 11) rfl rfl ?_
  refine m_callI (ci := 10) (k := 12) rfl (by rfl) (m_isThere hM hk hg hh hr2) okX10_isThere viX10_isThere mlRX10_247 ⟨Nat.le_of_ble_eq_true rfl, Nat.le_of_ble_eq_true rfl⟩ (by exact Nat.le_of_ble_eq_true rfl) rfl rfl mG0 (by exact Nat.le_of_ble_eq_true rfl) ?_
  refine x_if_eq (tgt := 46) (k := 13) rfl (by decide) (fun c19 => ?_) (fun c19 => ?_)
  · replace c19 := bz_eq0 c19
    rw [if_neg c19]
    refine x_aload_n (k := 27) rfl rfl ?_
    refine x_iload_n (k := 28) rfl rfl ?_
    refine x_iload_n (k := 29) rfl rfl ?_
    refine m_callIQ (ci := 10) (k := 30) rfl (by rfl) (m_earBy1 hM hk hg hh hr2) okX10_earliestBy viX10_earliestBy mlRX10_250 ⟨Nat.le_of_ble_eq_true rfl, Nat.le_of_ble_eq_true rfl⟩ (by exact Nat.le_of_ble_eq_true rfl) rfl rfl mG0 (by exact Nat.le_of_ble_eq_true rfl) (fun V1 q1 => ?_)
    exact m_irQ (k := 31) rfl rfl rfl rfl q1
  · replace c19 := bz_ne0 c19
    rw [if_pos c19]
    refine x_iload_n (k := 14) rfl rfl ?_
    refine x_if_ne (tgt := 34) (k := 15) rfl (by decide) (fun c23 => ?_) (fun c23 => absurd c23 (by decide))
    refine x_iload_n (k := 20) rfl rfl ?_
    refine x_iconst (v := 1) (k := 21) rfl (by decide) ?_
    refine x_icmp_ne (tgt := 43) (k := 22) rfl (by decide) (fun c36 => absurd rfl c36) (fun c36 => ?_)
    refine x_iconst (v := 0) (k := 23) rfl (by decide) ?_
    refine x_goto (tgt := 45) (k := 24) rfl (by decide) ?_
    exact m_irQ (k := 26) rfl rfl rfl rfl bF.rf
theorem m_earliest2 {G : xG} {s : xA} {m hr f nt nk : Nat} {W : Wd} {V : Vd} (hM : Rm hr f nt nk W V) {k : Nat} (hk : k < nk) (hg : ∀ t, t < nt → trG W t) (hh : W 2 k 6 < 10 → isP (W 2 k 6)) (hr2 : rdG W nt k) (hF : weV W (nI k) 2 2 = 0) : mMe G MX10_earliest [.ref m, .int (nI k), .int 2] s m V (fun r V1 => r = some (.int (if yTn W k = W 2 k 2 then -9 else eaM W nt k 2)) ∧ bF V V1) := by
  refine x_aload_n (k := 0) rfl rfl ?_
  refine x_iload_n (k := 1) rfl rfl ?_
  refine x_iload_n (k := 2) rfl rfl ?_
  refine x_iconst (v := 2) (k := 3) rfl (by decide) ?_
  refine m_callI (ci := 10) (k := 4) rfl (by rfl) (m_wayError hM _ _ _) okX10_wayError viX10_wayError mlRX10_244 ⟨Nat.le_of_ble_eq_true rfl, Nat.le_of_ble_eq_true rfl⟩ (by exact Nat.le_of_ble_eq_true rfl) rfl rfl mG0 (by exact Nat.le_of_ble_eq_true rfl) ?_
  refine x_istore_n (k := 5) rfl (by decide) ?_
  refine x_iload_n (k := 6) rfl rfl ?_
  refine x_if_eq (tgt := 14) (k := 7) rfl (by decide) (fun c9 => ?_) (fun c9 => absurd hF c9)
  refine x_aload_n (k := 10) rfl rfl ?_
  refine x_iload_n (k := 11) rfl rfl ?_
  refine m_callI (ci := 10) (k := 12) rfl (by rfl) (m_isThere hM hk hg hh hr2) okX10_isThere viX10_isThere mlRX10_247 ⟨Nat.le_of_ble_eq_true rfl, Nat.le_of_ble_eq_true rfl⟩ (by exact Nat.le_of_ble_eq_true rfl) rfl rfl mG0 (by exact Nat.le_of_ble_eq_true rfl) ?_
  refine x_if_eq (tgt := 46) (k := 13) rfl (by decide) (fun c19 => ?_) (fun c19 => ?_)
  · replace c19 := bz_eq0 c19
    rw [if_neg c19]
    refine x_aload_n (k := 27) rfl rfl ?_
    refine x_iload_n (k := 28) rfl rfl ?_
    refine x_iload_n (k := 29) rfl rfl ?_
    refine m_callIQ (ci := 10) (k := 30) rfl (by rfl) (m_earBy2 hM hk hg hh hr2) okX10_earliestBy viX10_earliestBy mlRX10_250 ⟨Nat.le_of_ble_eq_true rfl, Nat.le_of_ble_eq_true rfl⟩ (by exact Nat.le_of_ble_eq_true rfl) rfl rfl mG0 (by exact Nat.le_of_ble_eq_true rfl) (fun V1 q1 => ?_)
    exact m_irQ (k := 31) rfl rfl rfl rfl q1
  · replace c19 := bz_ne0 c19
    rw [if_pos c19]
    refine x_iload_n (k := 14) rfl rfl ?_
    refine x_if_ne (tgt := 34) (k := 15) rfl (by decide) (fun c23 => ?_) (fun c23 => absurd c23 (by decide))
    refine x_iload_n (k := 20) rfl rfl ?_
    refine x_iconst (v := 1) (k := 21) rfl (by decide) ?_
    refine x_icmp_ne (tgt := 43) (k := 22) rfl (by decide) (fun c36 => ?_) (fun c36 => absurd c36 (by decide))
    refine x_bipush (v := -9) (k := 25) rfl (by decide) ?_
    exact m_irQ (k := 26) rfl rfl rfl rfl bF.rf
theorem m_cheapest0 {G : xG} {s : xA} {m hr f nt nk : Nat} {W : Wd} {V : Vd} (hM : Rm hr f nt nk W V) {k : Nat} (hk : k < nk) (hg : ∀ t, t < nt → trG W t) (hh : W 2 k 6 < 10 → isP (W 2 k 6)) (hr2 : rdG W nt k) (hF : weV W (nI k) 0 1 = 0) : mMe G MX10_cheapest [.ref m, .int (nI k), .int 0] s m V (fun r V1 => r = some (.int (if yTn W k = W 2 k 2 then 0 else chM W nt k 0)) ∧ bF V V1) := by
  refine x_aload_n (k := 0) rfl rfl ?_
  refine x_iload_n (k := 1) rfl rfl ?_
  refine x_iload_n (k := 2) rfl rfl ?_
  refine x_iconst (v := 1) (k := 3) rfl (by decide) ?_
  refine m_callI (ci := 10) (k := 4) rfl (by rfl) (m_wayError hM _ _ _) okX10_wayError viX10_wayError mlRX10_244 ⟨Nat.le_of_ble_eq_true rfl, Nat.le_of_ble_eq_true rfl⟩ (by exact Nat.le_of_ble_eq_true rfl) rfl rfl mG0 (by exact Nat.le_of_ble_eq_true rfl) ?_
  refine x_istore_n (k := 5) rfl (by decide) ?_
  refine x_iload_n (k := 6) rfl rfl ?_
  refine x_if_eq (tgt := 14) (k := 7) rfl (by decide) (fun c9 => ?_) (fun c9 => absurd hF c9)
  refine x_aload_n (k := 10) rfl rfl ?_
  refine x_iload_n (k := 11) rfl rfl ?_
  refine m_callI (ci := 10) (k := 12) rfl (by rfl) (m_isThere hM hk hg hh hr2) okX10_isThere viX10_isThere mlRX10_247 ⟨Nat.le_of_ble_eq_true rfl, Nat.le_of_ble_eq_true rfl⟩ (by exact Nat.le_of_ble_eq_true rfl) rfl rfl mG0 (by exact Nat.le_of_ble_eq_true rfl) ?_
  refine x_if_eq (tgt := 36) (k := 13) rfl (by decide) (fun c19 => ?_) (fun c19 => ?_)
  · replace c19 := bz_eq0 c19
    rw [if_neg c19]
    refine x_aload_n (k := 22) rfl rfl ?_
    refine x_iload_n (k := 23) rfl rfl ?_
    refine x_iconst (v := 1) (k := 24) rfl (by decide) ?_
    refine x_bipush (v := -9) (k := 25) rfl (by decide) ?_
    refine m_callVQ (ci := 10) (k := 26) rfl (by rfl) (m_findBest hM hg (kd := 1) (by decide) hk hh hr2 (-9)) okX10_findBest viX10_findBest mlRX10_232 ⟨Nat.le_of_ble_eq_true rfl, Nat.le_of_ble_eq_true rfl⟩ (by exact Nat.le_of_ble_eq_true rfl) rfl rfl mG0 (by exact Nat.le_of_ble_eq_true rfl) (fun V1 q1 => ?_)
    have hM1 := hM.as (V' := V1) q1.1.1
    refine x_aload_n (k := 27) rfl rfl ?_
    refine x_iload_n (k := 28) rfl rfl ?_
    refine x_ldc (k := 29) rfl klRX10_228 ?_
    refine m_callI (ci := 10) (k := 30) rfl (by rfl) (m_least (h := 1000000) hM1 hk hg q1.2.1 q1.2.2 (Nat.le_refl _)) okX10_least viX10_least mlRX10_238 ⟨Nat.le_of_ble_eq_true rfl, Nat.le_of_ble_eq_true rfl⟩ (by exact Nat.le_of_ble_eq_true rfl) rfl rfl mG0 (by exact Nat.le_of_ble_eq_true rfl) ?_
    refine x_istore (k := 31) rfl (by decide) ?_
    refine x_iload (k := 32) rfl rfl ?_
    refine x_ldc (k := 33) rfl klRX10_228 ?_
    refine x_icmp_ne (tgt := 63) (k := 34) rfl (by decide) (fun c57 => ?_) (fun c57 => ?_)
    · have nf : ¬ lsTo W (wfb W nt k 1 (-9)) k 1000000 nt = 1000000 := fun z => c57 (by rw [z]; rfl)
      refine x_iload_n (k := 37) rfl rfl ?_
      refine x_if_ne (tgt := 72) (k := 38) rfl (by decide) (fun c64 => absurd rfl c64) (fun c64 => ?_)
      refine x_iload (k := 39) rfl rfl ?_
      refine x_goto (tgt := 79) (k := 40) rfl (by decide) ?_
      exact m_irQ (k := 45) rfl rfl rfl (if_neg nf).symm q1.1
    · have yf : lsTo W (wfb W nt k 1 (-9)) k 1000000 nt = 1000000 := (nI_eq (Nat.lt_of_le_of_lt (lsTo_le _) (by decide)) (by decide)).mp c57
      refine x_bipush (v := -9) (k := 35) rfl (by decide) ?_
      exact m_irQ (k := 36) rfl rfl rfl (if_pos yf).symm q1.1
  · replace c19 := bz_ne0 c19
    rw [if_pos c19]
    refine x_iload_n (k := 14) rfl rfl ?_
    refine x_if_ne (tgt := 30) (k := 15) rfl (by decide) (fun c23 => absurd rfl c23) (fun c23 => ?_)
    refine x_iconst (v := 0) (k := 16) rfl (by decide) ?_
    refine x_goto (tgt := 35) (k := 17) rfl (by decide) ?_
    exact m_irQ (k := 21) rfl rfl rfl rfl bF.rf
theorem m_cheapest1 {G : xG} {s : xA} {m hr f nt nk : Nat} {W : Wd} {V : Vd} (hM : Rm hr f nt nk W V) {k : Nat} (hk : k < nk) (hg : ∀ t, t < nt → trG W t) (hh : W 2 k 6 < 10 → isP (W 2 k 6)) (hr2 : rdG W nt k) (hF : weV W (nI k) 1 1 = 0) : mMe G MX10_cheapest [.ref m, .int (nI k), .int 1] s m V (fun r V1 => r = some (.int (if yTn W k = W 2 k 2 then yHr W k else chM W nt k 1)) ∧ bF V V1) := by
  refine x_aload_n (k := 0) rfl rfl ?_
  refine x_iload_n (k := 1) rfl rfl ?_
  refine x_iload_n (k := 2) rfl rfl ?_
  refine x_iconst (v := 1) (k := 3) rfl (by decide) ?_
  refine m_callI (ci := 10) (k := 4) rfl (by rfl) (m_wayError hM _ _ _) okX10_wayError viX10_wayError mlRX10_244 ⟨Nat.le_of_ble_eq_true rfl, Nat.le_of_ble_eq_true rfl⟩ (by exact Nat.le_of_ble_eq_true rfl) rfl rfl mG0 (by exact Nat.le_of_ble_eq_true rfl) ?_
  refine x_istore_n (k := 5) rfl (by decide) ?_
  refine x_iload_n (k := 6) rfl rfl ?_
  refine x_if_eq (tgt := 14) (k := 7) rfl (by decide) (fun c9 => ?_) (fun c9 => absurd hF c9)
  refine x_aload_n (k := 10) rfl rfl ?_
  refine x_iload_n (k := 11) rfl rfl ?_
  refine m_callI (ci := 10) (k := 12) rfl (by rfl) (m_isThere hM hk hg hh hr2) okX10_isThere viX10_isThere mlRX10_247 ⟨Nat.le_of_ble_eq_true rfl, Nat.le_of_ble_eq_true rfl⟩ (by exact Nat.le_of_ble_eq_true rfl) rfl rfl mG0 (by exact Nat.le_of_ble_eq_true rfl) ?_
  refine x_if_eq (tgt := 36) (k := 13) rfl (by decide) (fun c19 => ?_) (fun c19 => ?_)
  · replace c19 := bz_eq0 c19
    rw [if_neg c19]
    refine x_aload_n (k := 22) rfl rfl ?_
    refine x_iload_n (k := 23) rfl rfl ?_
    refine x_iconst (v := 1) (k := 24) rfl (by decide) ?_
    refine x_bipush (v := -9) (k := 25) rfl (by decide) ?_
    refine m_callVQ (ci := 10) (k := 26) rfl (by rfl) (m_findBest hM hg (kd := 1) (by decide) hk hh hr2 (-9)) okX10_findBest viX10_findBest mlRX10_232 ⟨Nat.le_of_ble_eq_true rfl, Nat.le_of_ble_eq_true rfl⟩ (by exact Nat.le_of_ble_eq_true rfl) rfl rfl mG0 (by exact Nat.le_of_ble_eq_true rfl) (fun V1 q1 => ?_)
    have hM1 := hM.as (V' := V1) q1.1.1
    refine x_aload_n (k := 27) rfl rfl ?_
    refine x_iload_n (k := 28) rfl rfl ?_
    refine x_ldc (k := 29) rfl klRX10_228 ?_
    refine m_callI (ci := 10) (k := 30) rfl (by rfl) (m_least (h := 1000000) hM1 hk hg q1.2.1 q1.2.2 (Nat.le_refl _)) okX10_least viX10_least mlRX10_238 ⟨Nat.le_of_ble_eq_true rfl, Nat.le_of_ble_eq_true rfl⟩ (by exact Nat.le_of_ble_eq_true rfl) rfl rfl mG0 (by exact Nat.le_of_ble_eq_true rfl) ?_
    refine x_istore (k := 31) rfl (by decide) ?_
    refine x_iload (k := 32) rfl rfl ?_
    refine x_ldc (k := 33) rfl klRX10_228 ?_
    refine x_icmp_ne (tgt := 63) (k := 34) rfl (by decide) (fun c57 => ?_) (fun c57 => ?_)
    · have nf : ¬ lsTo W (wfb W nt k 1 (-9)) k 1000000 nt = 1000000 := fun z => c57 (by rw [z]; rfl)
      refine x_iload_n (k := 37) rfl rfl ?_
      refine x_if_ne (tgt := 72) (k := 38) rfl (by decide) (fun c64 => ?_) (fun c64 => absurd c64 (by decide))
      refine x_aload_n (k := 41) rfl rfl ?_
      refine x_iload_n (k := 42) rfl rfl ?_
      refine x_iload (k := 43) rfl rfl ?_
      refine m_callI (ci := 10) (k := 44) rfl (by rfl) (m_arrival hM1 hk hg q1.2.1 q1.2.2 _) okX10_arrival viX10_arrival mlRX10_235 ⟨Nat.le_of_ble_eq_true rfl, Nat.le_of_ble_eq_true rfl⟩ (by exact Nat.le_of_ble_eq_true rfl) rfl rfl mG0 (by exact Nat.le_of_ble_eq_true rfl) ?_
      exact m_irQ (k := 45) rfl rfl rfl (if_neg nf).symm q1.1
    · have yf : lsTo W (wfb W nt k 1 (-9)) k 1000000 nt = 1000000 := (nI_eq (Nat.lt_of_le_of_lt (lsTo_le _) (by decide)) (by decide)).mp c57
      refine x_bipush (v := -9) (k := 35) rfl (by decide) ?_
      exact m_irQ (k := 36) rfl rfl rfl (if_pos yf).symm q1.1
  · replace c19 := bz_ne0 c19
    rw [if_pos c19]
    refine x_iload_n (k := 14) rfl rfl ?_
    refine x_if_ne (tgt := 30) (k := 15) rfl (by decide) (fun c23 => ?_) (fun c23 => absurd c23 (by decide))
    refine x_aload_n (k := 18) rfl rfl ?_
    refine x_iload_n (k := 19) rfl rfl ?_
    refine m_callI (ci := 10) (k := 20) rfl (by rfl) (m_startHour hM hk hh hr2) okX10_startHour viX10_startHour mlRX10_219 ⟨Nat.le_of_ble_eq_true rfl, Nat.le_of_ble_eq_true rfl⟩ (by exact Nat.le_of_ble_eq_true rfl) rfl rfl mG0 (by exact Nat.le_of_ble_eq_true rfl) ?_
    exact m_irQ (k := 21) rfl rfl rfl rfl bF.rf
