-- ===== the model: ways =====
def lvN (W : Wd) (t : Nat) : Nat := ix (W 1 t 3)
def arN (W : Wd) (t : Nat) : Nat := ix (W 1 t 4)
def feN (W : Wd) (t : Nat) : Nat := ix (W 1 t 5)
/-- a trip's hours and fee -/
def trG (W : Wd) (t : Nat) : Prop := W 1 t 3 = nI (lvN W t) ∧ W 1 t 4 = nI (arN W t) ∧ lvN W t < arN W t ∧ arN W t ≤ 600 ∧ W 1 t 5 = nI (feN W t) ∧ feN W t ≤ 99
/-- a parcel's holder: on the road it is on a trip, in a town on none -/
def rdG (W : Wd) (nt k : Nat) : Prop := (sTown W (W 2 k 6) = -9 ∧ ∃ p t, p < 8 ∧ t < nt ∧ W 2 k 6 = nI p ∧ sOn W (W 2 k 6) = nI t ∧ W 0 p 3 = nI t) ∨ (¬ sTown W (W 2 k 6) = -9 ∧ sOn W (W 2 k 6) = -9)
def adN (W : Wd) (kd t : Nat) : Nat := if kd = 0 then 1 else if kd = 1 then feN W t else 0
abbrev joi (W : Wd) (t n : Nat) : Prop := cau W n (W 1 t 2) (W 1 t 4)
def wini (W : Wd) (nt k kd : Nat) (fo : Int32) (t : Nat) : Nat := if t < nt ∧ (fo = -9 ∨ fo = nI t) ∧ cau W t (yTn W k) (yHr W k) then adN W kd t else 1000000
def wrx (W : Wd) (kd : Nat) (b : Nat → Nat) (t n : Nat) : Nat → Nat := if b t < 1000000 ∧ joi W t n ∧ b t + adN W kd n < b n then (fun j => if j = n then b t + adN W kd n else b j) else b
def wrA (W : Wd) (kd : Nat) (b : Nat → Nat) (t : Nat) : Nat → Nat → Nat
  | 0 => b
  | n + 1 => wrx W kd (wrA W kd b t n) t n
def wrB (W : Wd) (nt kd : Nat) (b : Nat → Nat) : Nat → Nat → Nat
  | 0 => b
  | t + 1 => wrA W kd (wrB W nt kd b t) t nt
def wrC (W : Wd) (nt kd : Nat) (b : Nat → Nat) : Nat → Nat → Nat
  | 0 => b
  | r + 1 => wrB W nt kd (wrC W nt kd b r) nt
def wfb (W : Wd) (nt k kd : Nat) (fo : Int32) : Nat → Nat := wrC W nt kd (wini W nt k kd fo) 16
/-- the array of the best, and nothing else changed -/
def bF (V V' : Vd) : Prop := V'.1 = V.1 ∧ V'.2.1 = V.2.1 ∧ ∀ a, a ≠ 3 → V'.2.2 a = V.2.2 a
theorem bF.rf {V : Vd} : bF V V := ⟨rfl, rfl, fun _ _ => rfl⟩
theorem bF.tr {V V1 V2 : Vd} (h : bF V V1) (h2 : bF V1 V2) : bF V V2 := ⟨h2.1.trans h.1, h2.2.1.trans h.2.1, fun a ha => (h2.2.2 a ha).trans (h.2.2 a ha)⟩
theorem bF.ar {V V1 : Vd} {j : Nat} {v : Int32} (h : bF V V1) : bF V (mAr V1 3 j v) := ⟨h.1, h.2.1, fun a ha => (mAr_r ha).trans (h.2.2 a ha)⟩
theorem Rm.as {hr f nt nk : Nat} {W : Wd} {V V' : Vd} (h : V'.1 = V.1) (hM : Rm hr f nt nk W V) : Rm hr f nt nk W V' := by
  unfold Rm at hM ⊢
  rw [h]
  exact hM
def BI (V0 : Vd) (b : Nat → Nat) (V : Vd) : Prop := bF V0 V ∧ (∀ j, j < 16 → V.2.2 3 j = nI (b j)) ∧ ∀ j, j < 16 → b j ≤ 1000000
theorem adN_le {W : Wd} {kd t : Nat} (h : trG W t) : adN W kd t ≤ 99 := by
  have := h.2.2.2.2.2
  unfold adN
  split
  · omega
  · split
    · exact this
    · omega
theorem BI.no {V0 V : Vd} {W : Wd} {kd t n : Nat} {b : Nat → Nat} (h : BI V0 b V) (hn : ¬ (b t < 1000000 ∧ joi W t n ∧ b t + adN W kd n < b n)) : BI V0 (wrx W kd b t n) V := by
  rw [wrx, if_neg hn]
  exact h
theorem BI.ye {V0 V : Vd} {W : Wd} {kd t n : Nat} {b : Nat → Nat} (h : BI V0 b V) (hn16 : n < 16) (hn : b t < 1000000 ∧ joi W t n ∧ b t + adN W kd n < b n) : BI V0 (wrx W kd b t n) (mAr V 3 n (nI (b t) + nI (adN W kd n))) := by
  rw [wrx, if_pos hn]
  refine ⟨h.1.ar, fun j hj => ?_, fun j hj => ?_⟩
  · show (mAr V 3 n _).2.2 3 j = nI (if j = n then b t + adN W kd n else b j)
    by_cases e : j = n
    · rw [e, mAr_at, if_pos rfl, nI_add]
    · rw [mAr_k e, if_neg e]
      exact h.2.1 j hj
  · have := h.2.2 n hn16
    have := h.2.2 j hj
    dsimp only
    split <;> omega
def avTo (W : Wd) (b : Nat → Nat) (k : Nat) (ju : Int32) : Nat → Nat
  | 0 => 1000000
  | t + 1 => if (b t < 1000000 ∧ W 1 t 2 = W 2 k 2 ∧ (ju < 0 ∨ nI (b t) = ju)) ∧ arN W t < avTo W b k ju t then arN W t else avTo W b k ju t
def lsTo (W : Wd) (b : Nat → Nat) (k : Nat) (h : Nat) : Nat → Nat
  | 0 => 1000000
  | t + 1 => if (W 1 t 2 = W 2 k 2 ∧ arN W t ≤ h) ∧ b t < lsTo W b k h t then b t else lsTo W b k h t
theorem avTo_le {W : Wd} {b : Nat → Nat} {k : Nat} {ju : Int32} : ∀ t, avTo W b k ju t ≤ 1000000
  | 0 => Nat.le_refl _
  | t + 1 => by
    have := avTo_le (W := W) (b := b) (k := k) (ju := ju) t
    rw [avTo]
    split <;> omega
theorem lsTo_le {W : Wd} {b : Nat → Nat} {k h : Nat} : ∀ t, lsTo W b k h t ≤ 1000000
  | 0 => Nat.le_refl _
  | t + 1 => by
    have := lsTo_le (W := W) (b := b) (k := k) (h := h) t
    rw [lsTo]
    split <;> omega
/-- the smallest trip from i on with which a way begins that is there in hour h -/
def fiTo (W : Wd) (nt k h : Nat) : Nat → Int32
  | 0 => -9
  | d + 1 => if avTo W (wfb W nt k 2 (nI (nt - (d + 1)))) k (-1) nt = h then nI (nt - (d + 1)) else fiTo W nt k h d
theorem mil : (1000000 : Int32) = nI 1000000 := rfl
theorem m_startTown {G : xG} {s : xA} {m hr f nt nk : Nat} {W : Wd} {V : Vd} (hM : Rm hr f nt nk W V) {k : Nat} (hk : k < nk) (hh : W 2 k 6 < 10 → isP (W 2 k 6)) (hr2 : rdG W nt k) : mI G MX10_startTown [.ref m, .int (nI k)] s m V (yTn W k) V := by
  refine x_aload_n (k := 0) rfl rfl ?_
  refine x_iload_n (k := 1) rfl rfl ?_
  refine m_callI (ci := 10) (k := 2) rfl (by rfl) (m_townOf hM hk hh) okX10_townOf viX10_townOf mlRX10_210 ⟨Nat.le_of_ble_eq_true rfl, Nat.le_of_ble_eq_true rfl⟩ (by exact Nat.le_of_ble_eq_true rfl) rfl rfl mG0 (by exact Nat.le_of_ble_eq_true rfl) ?_
  refine x_istore_n (k := 3) rfl (by decide) ?_
  refine x_iload_n (k := 4) rfl rfl ?_
  refine x_bipush (v := -9) (k := 5) rfl (by decide) ?_
  refine x_icmp_ne (tgt := 32) (k := 6) rfl (by decide) (fun c9 => ?_) (fun c9 => ?_)
  · have e : sTown W (W 2 k 6) = yTn W k := by
      rcases hr2 with ⟨z, -⟩ | ⟨-, z⟩
      · exact absurd z c9
      · rw [yTn, if_pos z]
    refine x_iload_n (k := 18) rfl rfl ?_
    exact m_irD (k := 19) rfl rfl rfl e rfl
  · obtain ⟨-, p, t, hp, ht, e1, e2, e3⟩ := hr2.resolve_right (fun z => z.1 c9)
    have hb := hM.2
    have e : W 1 t 2 = yTn W k := by rw [yTn, if_neg (by rw [e2]; exact fun z => nI_pos (n := t) (by omega) (by rw [z]; decide)), e2, ixT (by omega)]
    refine x_aload_n (k := 7) rfl rfl ?_
    refine x_aload_n (k := 8) rfl rfl ?_
    refine x_aload_n (k := 9) rfl rfl ?_
    refine x_iload_n (k := 10) rfl rfl ?_
    refine x_bipush (v := 6) (k := 11) rfl (by decide) ?_
    refine m_callI (ci := 10) (k := 12) rfl (by rfl) (m_of hM (k := 6) hk (by decide)) okX10_of viX10_of mlRX10_84 ⟨Nat.le_of_ble_eq_true rfl, Nat.le_of_ble_eq_true rfl⟩ (by exact Nat.le_of_ble_eq_true rfl) rfl rfl mG0 (by exact Nat.le_of_ble_eq_true rfl) ?_
    rw [e1]
    refine x_iconst (v := 3) (k := 13) rfl (by decide) ?_
    refine m_callI (ci := 10) (k := 14) rfl (by rfl) (m_ofP hM (k := 3) hp (by decide)) okX10_ofP viX10_ofP mlRX10_91 ⟨Nat.le_of_ble_eq_true rfl, Nat.le_of_ble_eq_true rfl⟩ (by exact Nat.le_of_ble_eq_true rfl) rfl rfl mG0 (by exact Nat.le_of_ble_eq_true rfl) ?_
    rw [e3]
    refine x_iconst (v := 2) (k := 15) rfl (by decide) ?_
    refine m_callI (ci := 10) (k := 16) rfl (by rfl) (m_ofT hM (k := 2) ht (by decide)) okX10_ofT viX10_ofT mlRX10_55 ⟨Nat.le_of_ble_eq_true rfl, Nat.le_of_ble_eq_true rfl⟩ (by exact Nat.le_of_ble_eq_true rfl) rfl rfl mG0 (by exact Nat.le_of_ble_eq_true rfl) ?_
    refine x_goto (tgt := 33) (k := 17) rfl (by decide) ?_
    exact m_irD (k := 19) rfl rfl rfl e rfl
theorem m_startHour {G : xG} {s : xA} {m hr f nt nk : Nat} {W : Wd} {V : Vd} (hM : Rm hr f nt nk W V) {k : Nat} (hk : k < nk) (hh : W 2 k 6 < 10 → isP (W 2 k 6)) (hr2 : rdG W nt k) : mI G MX10_startHour [.ref m, .int (nI k)] s m V (yHr W k) V := by
  refine x_aload_n (k := 0) rfl rfl ?_
  refine x_iload_n (k := 1) rfl rfl ?_
  refine m_callI (ci := 10) (k := 2) rfl (by rfl) (m_townOf hM hk hh) okX10_townOf viX10_townOf mlRX10_210 ⟨Nat.le_of_ble_eq_true rfl, Nat.le_of_ble_eq_true rfl⟩ (by exact Nat.le_of_ble_eq_true rfl) rfl rfl mG0 (by exact Nat.le_of_ble_eq_true rfl) ?_
  refine x_bipush (v := -9) (k := 3) rfl (by decide) ?_
  refine x_icmp_ne (tgt := 30) (k := 4) rfl (by decide) (fun c7 => ?_) (fun c7 => ?_)
  · have e : nI hr = yHr W k := by
      rcases hr2 with ⟨z, -⟩ | ⟨-, z⟩
      · exact absurd z c7
      · rw [yHr, if_pos z, hM.eH]
    refine x_aload_n (k := 16) rfl rfl ?_
    refine m_callI (ci := 10) (k := 17) rfl (by rfl) (m_hour hM) okX10_hour viX10_hour mlRX10_51 ⟨Nat.le_of_ble_eq_true rfl, Nat.le_of_ble_eq_true rfl⟩ (by exact Nat.le_of_ble_eq_true rfl) rfl rfl mG0 (by exact Nat.le_of_ble_eq_true rfl) ?_
    exact m_irD (k := 18) rfl rfl rfl e rfl
  · obtain ⟨-, p, t, hp, ht, e1, e2, e3⟩ := hr2.resolve_right (fun z => z.1 c7)
    have hb := hM.2
    have e : W 1 t 4 = yHr W k := by rw [yHr, if_neg (by rw [e2]; exact fun z => nI_pos (n := t) (by omega) (by rw [z]; decide)), e2, ixT (by omega)]
    refine x_aload_n (k := 5) rfl rfl ?_
    refine x_aload_n (k := 6) rfl rfl ?_
    refine x_aload_n (k := 7) rfl rfl ?_
    refine x_iload_n (k := 8) rfl rfl ?_
    refine x_bipush (v := 6) (k := 9) rfl (by decide) ?_
    refine m_callI (ci := 10) (k := 10) rfl (by rfl) (m_of hM (k := 6) hk (by decide)) okX10_of viX10_of mlRX10_84 ⟨Nat.le_of_ble_eq_true rfl, Nat.le_of_ble_eq_true rfl⟩ (by exact Nat.le_of_ble_eq_true rfl) rfl rfl mG0 (by exact Nat.le_of_ble_eq_true rfl) ?_
    rw [e1]
    refine x_iconst (v := 3) (k := 11) rfl (by decide) ?_
    refine m_callI (ci := 10) (k := 12) rfl (by rfl) (m_ofP hM (k := 3) hp (by decide)) okX10_ofP viX10_ofP mlRX10_91 ⟨Nat.le_of_ble_eq_true rfl, Nat.le_of_ble_eq_true rfl⟩ (by exact Nat.le_of_ble_eq_true rfl) rfl rfl mG0 (by exact Nat.le_of_ble_eq_true rfl) ?_
    rw [e3]
    refine x_iconst (v := 4) (k := 13) rfl (by decide) ?_
    refine m_callI (ci := 10) (k := 14) rfl (by rfl) (m_ofT hM (k := 4) ht (by decide)) okX10_ofT viX10_ofT mlRX10_55 ⟨Nat.le_of_ble_eq_true rfl, Nat.le_of_ble_eq_true rfl⟩ (by exact Nat.le_of_ble_eq_true rfl) rfl rfl mG0 (by exact Nat.le_of_ble_eq_true rfl) ?_
    refine x_goto (tgt := 34) (k := 15) rfl (by decide) ?_
    exact m_irD (k := 18) rfl rfl rfl e rfl
theorem m_adds {G : xG} {s : xA} {m hr f nt nk : Nat} {W : Wd} {V : Vd} (hM : Rm hr f nt nk W V) {t kd : Nat} (ht : t < nt) (hg : trG W t) (hkd : kd < 3) : mI G MX10_adds [.ref m, .int (nI t), .int (nI kd)] s m V (nI (adN W kd t)) V := by
  refine x_iload_n (k := 0) rfl rfl ?_
  refine x_if_ne (tgt := 8) (k := 1) rfl (by decide) (fun c1 => ?_) (fun c1 => ?_)
  · have k0 : kd ≠ 0 := fun z => c1 (by rw [z]; rfl)
    refine x_iload_n (k := 4) rfl rfl ?_
    refine x_iconst (v := 1) (k := 5) rfl (by decide) ?_
    refine x_icmp_ne (tgt := 22) (k := 6) rfl (by decide) (fun c10 => ?_) (fun c10 => ?_)
    · have k1 : kd ≠ 1 := fun z => c10 (by rw [z]; rfl)
      have e0 : kd = 2 := by omega
      subst e0
      have e : (0 : Int32) = nI (adN W 2 t) := rfl
      refine x_iconst (v := 0) (k := 12) rfl (by decide) ?_
      exact m_irD (k := 13) rfl rfl rfl e rfl
    · have e0 : kd = 1 := (nI_eq (b := 1) (by omega) (by omega)).mp c10
      subst e0
      have e : W 1 t 5 = nI (adN W 1 t) := hg.2.2.2.2.1
      refine x_aload_n (k := 7) rfl rfl ?_
      refine x_iload_n (k := 8) rfl rfl ?_
      refine x_iconst (v := 5) (k := 9) rfl (by decide) ?_
      refine m_callI (ci := 10) (k := 10) rfl (by rfl) (m_ofT hM (k := 5) ht (by decide)) okX10_ofT viX10_ofT mlRX10_55 ⟨Nat.le_of_ble_eq_true rfl, Nat.le_of_ble_eq_true rfl⟩ (by exact Nat.le_of_ble_eq_true rfl) rfl rfl mG0 (by exact Nat.le_of_ble_eq_true rfl) ?_
      refine x_goto (tgt := 23) (k := 11) rfl (by decide) ?_
      exact m_irD (k := 13) rfl rfl rfl e rfl
  · have e0 : kd = 0 := (nI_eq (b := 0) (by omega) (by omega)).mp c1
    subst e0
    have e : (1 : Int32) = nI (adN W 0 t) := rfl
    refine x_iconst (v := 1) (k := 2) rfl (by decide) ?_
    refine x_goto (tgt := 23) (k := 3) rfl (by decide) ?_
    exact m_irD (k := 13) rfl rfl rfl e rfl
theorem m_isFirst {G : xG} {s : xA} {m hr f nt nk : Nat} {W : Wd} {V : Vd} (hM : Rm hr f nt nk W V) {k : Nat} (hk : k < nk) (hh : W 2 k 6 < 10 → isP (W 2 k 6)) (hr2 : rdG W nt k) {t : Nat} (ht : t < nt) : mI G MX10_isFirst [.ref m, .int (nI k), .int (nI t)] s m V (bz (cau W t (yTn W k) (yHr W k))) V := by
  refine x_aload_n (k := 0) rfl rfl ?_
  refine x_iload_n (k := 1) rfl rfl ?_
  refine x_bipush (v := 6) (k := 2) rfl (by decide) ?_
  refine m_callI (ci := 10) (k := 3) rfl (by rfl) (m_ofT hM (k := 6) ht (by decide)) okX10_ofT viX10_ofT mlRX10_55 ⟨Nat.le_of_ble_eq_true rfl, Nat.le_of_ble_eq_true rfl⟩ (by exact Nat.le_of_ble_eq_true rfl) rfl rfl mG0 (by exact Nat.le_of_ble_eq_true rfl) ?_
  refine x_if_ne (tgt := 42) (k := 4) rfl (by decide) (fun c7 => ?_) (fun c7 => ?_)
  · have e : bz (cau W t (yTn W k) (yHr W k)) = 0 := bz_0 (fun q => c7 q.1)
    refine x_iconst (v := 0) (k := 23) rfl (by decide) ?_
    exact m_irD (k := 24) rfl rfl rfl e.symm rfl
  · refine x_aload_n (k := 5) rfl rfl ?_
    refine x_iload_n (k := 6) rfl rfl ?_
    refine x_iconst (v := 1) (k := 7) rfl (by decide) ?_
    refine m_callI (ci := 10) (k := 8) rfl (by rfl) (m_ofT hM (k := 1) ht (by decide)) okX10_ofT viX10_ofT mlRX10_55 ⟨Nat.le_of_ble_eq_true rfl, Nat.le_of_ble_eq_true rfl⟩ (by exact Nat.le_of_ble_eq_true rfl) rfl rfl mG0 (by exact Nat.le_of_ble_eq_true rfl) ?_
    refine x_aload_n (k := 9) rfl rfl ?_
    refine x_iload_n (k := 10) rfl rfl ?_
    refine m_callI (ci := 10) (k := 11) rfl (by rfl) (m_startTown hM hk hh hr2) okX10_startTown viX10_startTown mlRX10_216 ⟨Nat.le_of_ble_eq_true rfl, Nat.le_of_ble_eq_true rfl⟩ (by exact Nat.le_of_ble_eq_true rfl) rfl rfl mG0 (by exact Nat.le_of_ble_eq_true rfl) ?_
    refine x_icmp_ne (tgt := 42) (k := 12) rfl (by decide) (fun c21 => ?_) (fun c21 => ?_)
    · have e : bz (cau W t (yTn W k) (yHr W k)) = 0 := bz_0 (fun q => c21 q.2.1)
      refine x_iconst (v := 0) (k := 23) rfl (by decide) ?_
      exact m_irD (k := 24) rfl rfl rfl e.symm rfl
    · refine x_aload_n (k := 13) rfl rfl ?_
      refine x_iload_n (k := 14) rfl rfl ?_
      refine x_iconst (v := 3) (k := 15) rfl (by decide) ?_
      refine m_callI (ci := 10) (k := 16) rfl (by rfl) (m_ofT hM (k := 3) ht (by decide)) okX10_ofT viX10_ofT mlRX10_55 ⟨Nat.le_of_ble_eq_true rfl, Nat.le_of_ble_eq_true rfl⟩ (by exact Nat.le_of_ble_eq_true rfl) rfl rfl mG0 (by exact Nat.le_of_ble_eq_true rfl) ?_
      refine x_aload_n (k := 17) rfl rfl ?_
      refine x_iload_n (k := 18) rfl rfl ?_
      refine m_callI (ci := 10) (k := 19) rfl (by rfl) (m_startHour hM hk hh hr2) okX10_startHour viX10_startHour mlRX10_219 ⟨Nat.le_of_ble_eq_true rfl, Nat.le_of_ble_eq_true rfl⟩ (by exact Nat.le_of_ble_eq_true rfl) rfl rfl mG0 (by exact Nat.le_of_ble_eq_true rfl) ?_
      refine x_icmp_lt (tgt := 42) (k := 20) rfl (by decide) (fun c35 => ?_) (fun c35 => ?_)
      · have e : bz (cau W t (yTn W k) (yHr W k)) = 0 := bz_0 (fun q => q.2.2 c35)
        refine x_iconst (v := 0) (k := 23) rfl (by decide) ?_
        exact m_irD (k := 24) rfl rfl rfl e.symm rfl
      · have e : bz (cau W t (yTn W k) (yHr W k)) = 1 := bz_1 ⟨c7, c21, c35⟩
        refine x_iconst (v := 1) (k := 21) rfl (by decide) ?_
        refine x_goto (tgt := 43) (k := 22) rfl (by decide) ?_
        exact m_irD (k := 24) rfl rfl rfl e.symm rfl
theorem m_joins {G : xG} {s : xA} {m hr f nt nk : Nat} {W : Wd} {V : Vd} (hM : Rm hr f nt nk W V) {t n : Nat} (ht : t < nt) (hn : n < nt) : mI G MX10_joins [.ref m, .int (nI t), .int (nI n)] s m V (bz (joi W t n)) V := by
  refine x_aload_n (k := 0) rfl rfl ?_
  refine x_iload_n (k := 1) rfl rfl ?_
  refine x_bipush (v := 6) (k := 2) rfl (by decide) ?_
  refine m_callI (ci := 10) (k := 3) rfl (by rfl) (m_ofT hM (k := 6) hn (by decide)) okX10_ofT viX10_ofT mlRX10_55 ⟨Nat.le_of_ble_eq_true rfl, Nat.le_of_ble_eq_true rfl⟩ (by exact Nat.le_of_ble_eq_true rfl) rfl rfl mG0 (by exact Nat.le_of_ble_eq_true rfl) ?_
  refine x_if_ne (tgt := 44) (k := 4) rfl (by decide) (fun c7 => ?_) (fun c7 => ?_)
  · have e : bz (joi W t n) = 0 := bz_0 (fun q => c7 q.1)
    refine x_iconst (v := 0) (k := 25) rfl (by decide) ?_
    exact m_irD (k := 26) rfl rfl rfl e.symm rfl
  · refine x_aload_n (k := 5) rfl rfl ?_
    refine x_iload_n (k := 6) rfl rfl ?_
    refine x_iconst (v := 2) (k := 7) rfl (by decide) ?_
    refine m_callI (ci := 10) (k := 8) rfl (by rfl) (m_ofT hM (k := 2) ht (by decide)) okX10_ofT viX10_ofT mlRX10_55 ⟨Nat.le_of_ble_eq_true rfl, Nat.le_of_ble_eq_true rfl⟩ (by exact Nat.le_of_ble_eq_true rfl) rfl rfl mG0 (by exact Nat.le_of_ble_eq_true rfl) ?_
    refine x_aload_n (k := 9) rfl rfl ?_
    refine x_iload_n (k := 10) rfl rfl ?_
    refine x_iconst (v := 1) (k := 11) rfl (by decide) ?_
    refine m_callI (ci := 10) (k := 12) rfl (by rfl) (m_ofT hM (k := 1) hn (by decide)) okX10_ofT viX10_ofT mlRX10_55 ⟨Nat.le_of_ble_eq_true rfl, Nat.le_of_ble_eq_true rfl⟩ (by exact Nat.le_of_ble_eq_true rfl) rfl rfl mG0 (by exact Nat.le_of_ble_eq_true rfl) ?_
    refine x_icmp_ne (tgt := 44) (k := 13) rfl (by decide) (fun c22 => ?_) (fun c22 => ?_)
    · have e : bz (joi W t n) = 0 := bz_0 (fun q => c22 q.2.1.symm)
      refine x_iconst (v := 0) (k := 25) rfl (by decide) ?_
      exact m_irD (k := 26) rfl rfl rfl e.symm rfl
    · refine x_aload_n (k := 14) rfl rfl ?_
      refine x_iload_n (k := 15) rfl rfl ?_
      refine x_iconst (v := 4) (k := 16) rfl (by decide) ?_
      refine m_callI (ci := 10) (k := 17) rfl (by rfl) (m_ofT hM (k := 4) ht (by decide)) okX10_ofT viX10_ofT mlRX10_55 ⟨Nat.le_of_ble_eq_true rfl, Nat.le_of_ble_eq_true rfl⟩ (by exact Nat.le_of_ble_eq_true rfl) rfl rfl mG0 (by exact Nat.le_of_ble_eq_true rfl) ?_
      refine x_aload_n (k := 18) rfl rfl ?_
      refine x_iload_n (k := 19) rfl rfl ?_
      refine x_iconst (v := 3) (k := 20) rfl (by decide) ?_
      refine m_callI (ci := 10) (k := 21) rfl (by rfl) (m_ofT hM (k := 3) hn (by decide)) okX10_ofT viX10_ofT mlRX10_55 ⟨Nat.le_of_ble_eq_true rfl, Nat.le_of_ble_eq_true rfl⟩ (by exact Nat.le_of_ble_eq_true rfl) rfl rfl mG0 (by exact Nat.le_of_ble_eq_true rfl) ?_
      refine x_icmp_gt (tgt := 44) (k := 22) rfl (by decide) (fun c37 => ?_) (fun c37 => ?_)
      · have e : bz (joi W t n) = 0 := bz_0 (fun q => q.2.2 c37)
        refine x_iconst (v := 0) (k := 25) rfl (by decide) ?_
        exact m_irD (k := 26) rfl rfl rfl e.symm rfl
      · have e : bz (joi W t n) = 1 := bz_1 ⟨c7, c22.symm, c37⟩
        refine x_iconst (v := 1) (k := 23) rfl (by decide) ?_
        refine x_goto (tgt := 45) (k := 24) rfl (by decide) ?_
        exact m_irD (k := 26) rfl rfl rfl e.symm rfl
theorem l_fbN {G : xG} {s : xA} {m hr f nt nk : Nat} {W : Wd} {V0 : Vd} (hM : Rm hr f nt nk W V0) {k kd : Nat} (hg : ∀ t, t < nt → trG W t) (hkd : kd < 3) {Q : Option Value → Vd → Prop} {b : Nat → Nat} {r t : Nat} (ht : t < nt) (kk : ∀ (V : Vd) (ls : List (Nat × Value)), BI V0 (wrA W kd b t nt) V → (∀ q ∈ [(0, .ref m), (1, .int (nI k)), (2, .int (nI kd)), (4, .int (nI r)), (5, .int (nI t))], ls.lookup q.1 = some q.2) → mE G MX10_findBest 200 ls [] s m V Q) : ∀ (d n : Nat) (V : Vd) (ls : List (Nat × Value)), nt - n < d → n ≤ nt → BI V0 (wrA W kd b t n) V → (∀ q ∈ [(0, .ref m), (1, .int (nI k)), (2, .int (nI kd)), (4, .int (nI r)), (5, .int (nI t)), (6, .int (nI n))], ls.lookup q.1 = some q.2) → mE G MX10_findBest 111 ls [] s m V Q := by
  intro d
  induction d with
  | zero =>
    intro n V ls hd hn hB g
    exact absurd hd (Nat.not_lt_zero _)
  | succ d ih =>
    intro n V ls hd hn hB g
    have hM1 := hM.as (V' := V) hB.1.1
    have hb := hM.2
    refine x_sub (ls' := [(0, .ref m), (1, .int (nI k)), (2, .int (nI kd)), (4, .int (nI r)), (5, .int (nI t)), (6, .int (nI n))]) g ?_
    refine x_iload (k := 59) rfl rfl ?_
    refine x_i2l (k := 60) rfl ?_
    refine x_aload_n (k := 61) rfl rfl ?_
    refine m_getA (a := 1) (k := 62) rfl flRX10_7 rfl ?_
    refine x_iconst (v := 2) (k := 63) rfl (by decide) ?_
    refine m_nat (k := 64) rfl (show (2 : Int32) = nI 2 from rfl) (by first | assumption | omega) ?_
    refine x_lcmp (k := 65) rfl ?_
    refine x_if_ge (tgt := 200) (k := 66) rfl (by decide) (fun c121 => ?_) (fun c121 => ?_)
    · replace c121 := (lg_cmp_ge _ _).mp c121
      have e0 : n = nt := by
        have := (lle hM1.1.2.2.2.1 (by omega) (by omega)).mp c121
        omega
      subst e0
      exact kk _ _ hB (by intro q hq; simp only [List.mem_cons, List.not_mem_nil, or_false] at hq; rcases hq with rfl | rfl | rfl | rfl | rfl <;> rfl)
    · replace c121 := mt (lg_cmp_ge _ _).mpr c121
      have hin : n < nt := by
        have := mt (lle hM1.1.2.2.2.1 (by omega) (by omega)).mpr c121
        omega
      refine x_aload_n (k := 67) rfl rfl ?_
      refine m_getA (a := 5) (k := 68) rfl flRX10_23 rfl ?_
      refine x_iload (k := 69) rfl rfl ?_
      refine m_bat (k := 70) rfl rfl (by first | assumption | omega) ?_
      refine x_top (hB.2.1 t (by omega)) ?_
      refine x_ldc (k := 71) rfl klRX10_228 ?_
      refine x_icmp_ge (tgt := 194) (k := 72) rfl (by decide) (fun c133 => ?_) (fun c133 => ?_)
      · have hB2 := hB.no (W := W) (kd := kd) (t := t) (n := n) (fun q => by
          have := (nI_leI (a := 1000000) (by decide) (by have := hB.2.2 t (by omega); omega)).mp c133
          omega)
        refine x_iinc (k := 105) rfl rfl (nI_1 n) (by decide) ?_
        refine x_goto (tgt := 111) (k := 106) rfl (by decide) ?_
        exact ih (n + 1) _ _ (by omega) (by omega) hB2 (by intro q hq; simp only [List.mem_cons, List.not_mem_nil, or_false] at hq; rcases hq with rfl | rfl | rfl | rfl | rfl | rfl <;> rfl)
      · have h1 : (wrA W kd b t n) t < 1000000 := by
          have := mt (nI_leI (a := 1000000) (b := (wrA W kd b t n) t) (by decide) (by have := hB.2.2 t (by omega); omega)).mpr c133
          omega
        refine x_aload_n (k := 73) rfl rfl ?_
        refine x_iload (k := 74) rfl rfl ?_
        refine x_iload (k := 75) rfl rfl ?_
        refine m_callI (ci := 10) (k := 76) rfl (by rfl) (m_joins hM1 ht hin) okX10_joins viX10_joins mlRX10_229 ⟨Nat.le_of_ble_eq_true rfl, Nat.le_of_ble_eq_true rfl⟩ (by exact Nat.le_of_ble_eq_true rfl) rfl rfl mG0 (by exact Nat.le_of_ble_eq_true rfl) ?_
        refine x_if_eq (tgt := 194) (k := 77) rfl (by decide) (fun c144 => ?_) (fun c144 => ?_)
        · replace c144 := bz_eq0 c144
          have hB2 := hB.no (W := W) (kd := kd) (t := t) (n := n) (fun q => c144 q.2.1)
          refine x_iinc (k := 105) rfl rfl (nI_1 n) (by decide) ?_
          refine x_goto (tgt := 111) (k := 106) rfl (by decide) ?_
          exact ih (n + 1) _ _ (by omega) (by omega) hB2 (by intro q hq; simp only [List.mem_cons, List.not_mem_nil, or_false] at hq; rcases hq with rfl | rfl | rfl | rfl | rfl | rfl <;> rfl)
        · replace c144 := bz_ne0 c144
          refine x_aload_n (k := 78) rfl rfl ?_
          refine m_getA (a := 5) (k := 79) rfl flRX10_23 rfl ?_
          refine x_iload (k := 80) rfl rfl ?_
          refine m_bat (k := 81) rfl rfl (by first | assumption | omega) ?_
          refine x_top (hB.2.1 t (by omega)) ?_
          refine x_aload_n (k := 82) rfl rfl ?_
          refine x_iload (k := 83) rfl rfl ?_
          refine x_iload_n (k := 84) rfl rfl ?_
          refine m_callI (ci := 10) (k := 85) rfl (by rfl) (m_adds hM1 hin (hg n hin) hkd) okX10_adds viX10_adds mlRX10_225 ⟨Nat.le_of_ble_eq_true rfl, Nat.le_of_ble_eq_true rfl⟩ (by exact Nat.le_of_ble_eq_true rfl) rfl rfl mG0 (by exact Nat.le_of_ble_eq_true rfl) ?_
          refine x_iadd (k := 86) rfl ?_
          refine x_aload_n (k := 87) rfl rfl ?_
          refine m_getA (a := 5) (k := 88) rfl flRX10_23 rfl ?_
          refine x_iload (k := 89) rfl rfl ?_
          refine m_bat (k := 90) rfl rfl (by first | assumption | omega) ?_
          refine x_top (hB.2.1 n (by omega)) ?_
          have ha := adN_le (kd := kd) (hg n hin)
          have hbn := hB.2.2 n (by omega)
          rw [nI_add]
          refine x_icmp_ge (tgt := 194) (k := 91) rfl (by decide) (fun c169 => ?_) (fun c169 => ?_)
          · have hB2 := hB.no (W := W) (kd := kd) (t := t) (n := n) (fun q => by
              have := (nI_leI (a := (wrA W kd b t n) n) (b := (wrA W kd b t n) t + adN W kd n) (by omega) (by omega)).mp c169
              omega)
            refine x_iinc (k := 105) rfl rfl (nI_1 n) (by decide) ?_
            refine x_goto (tgt := 111) (k := 106) rfl (by decide) ?_
            exact ih (n + 1) _ _ (by omega) (by omega) hB2 (by intro q hq; simp only [List.mem_cons, List.not_mem_nil, or_false] at hq; rcases hq with rfl | rfl | rfl | rfl | rfl | rfl <;> rfl)
          · have h2 : (wrA W kd b t n) t + adN W kd n < (wrA W kd b t n) n := by
              have := mt (nI_leI (a := (wrA W kd b t n) n) (b := (wrA W kd b t n) t + adN W kd n) (by omega) (by omega)).mpr c169
              omega
            have hB2 := hB.ye (W := W) (kd := kd) (t := t) (n := n) (by omega) ⟨h1, c144, h2⟩
            refine x_aload_n (k := 92) rfl rfl ?_
            refine m_getA (a := 5) (k := 93) rfl flRX10_23 rfl ?_
            refine x_iload (k := 94) rfl rfl ?_
            refine x_aload_n (k := 95) rfl rfl ?_
            refine m_getA (a := 5) (k := 96) rfl flRX10_23 rfl ?_
            refine x_iload (k := 97) rfl rfl ?_
            refine m_bat (k := 98) rfl rfl (by first | assumption | omega) ?_
            refine x_top (hB.2.1 t (by omega)) ?_
            refine x_aload_n (k := 99) rfl rfl ?_
            refine x_iload (k := 100) rfl rfl ?_
            refine x_iload_n (k := 101) rfl rfl ?_
            refine m_callI (ci := 10) (k := 102) rfl (by rfl) (m_adds hM1 hin (hg n hin) hkd) okX10_adds viX10_adds mlRX10_225 ⟨Nat.le_of_ble_eq_true rfl, Nat.le_of_ble_eq_true rfl⟩ (by exact Nat.le_of_ble_eq_true rfl) rfl rfl mG0 (by exact Nat.le_of_ble_eq_true rfl) ?_
            refine x_iadd (k := 103) rfl ?_
            refine m_bput (k := 104) rfl rfl (by omega) ?_
            refine x_iinc (k := 105) rfl rfl (nI_1 n) (by decide) ?_
            refine x_goto (tgt := 111) (k := 106) rfl (by decide) ?_
            exact ih (n + 1) _ _ (by omega) (by omega) hB2 (by intro q hq; simp only [List.mem_cons, List.not_mem_nil, or_false] at hq; rcases hq with rfl | rfl | rfl | rfl | rfl | rfl <;> rfl)
theorem l_fbT {G : xG} {s : xA} {m hr f nt nk : Nat} {W : Wd} {V0 : Vd} (hM : Rm hr f nt nk W V0) {k kd : Nat} (hg : ∀ t, t < nt → trG W t) (hkd : kd < 3) {Q : Option Value → Vd → Prop} {b : Nat → Nat} {r : Nat} (kk : ∀ (V : Vd) (ls : List (Nat × Value)), BI V0 (wrB W nt kd b nt) V → (∀ q ∈ [(0, .ref m), (1, .int (nI k)), (2, .int (nI kd)), (4, .int (nI r))], ls.lookup q.1 = some q.2) → mE G MX10_findBest 206 ls [] s m V Q) : ∀ (d t : Nat) (V : Vd) (ls : List (Nat × Value)), nt - t < d → t ≤ nt → BI V0 (wrB W nt kd b t) V → (∀ q ∈ [(0, .ref m), (1, .int (nI k)), (2, .int (nI kd)), (4, .int (nI r)), (5, .int (nI t))], ls.lookup q.1 = some q.2) → mE G MX10_findBest 95 ls [] s m V Q := by
  intro d
  induction d with
  | zero =>
    intro t V ls hd ht hB g
    exact absurd hd (Nat.not_lt_zero _)
  | succ d ih =>
    intro t V ls hd ht hB g
    have hM1 := hM.as (V' := V) hB.1.1
    have hb := hM.2
    refine x_sub (ls' := [(0, .ref m), (1, .int (nI k)), (2, .int (nI kd)), (4, .int (nI r)), (5, .int (nI t))]) g ?_
    refine x_iload (k := 49) rfl rfl ?_
    refine x_i2l (k := 50) rfl ?_
    refine x_aload_n (k := 51) rfl rfl ?_
    refine m_getA (a := 1) (k := 52) rfl flRX10_7 rfl ?_
    refine x_iconst (v := 2) (k := 53) rfl (by decide) ?_
    refine m_nat (k := 54) rfl (show (2 : Int32) = nI 2 from rfl) (by first | assumption | omega) ?_
    refine x_lcmp (k := 55) rfl ?_
    refine x_if_ge (tgt := 206) (k := 56) rfl (by decide) (fun c105 => ?_) (fun c105 => ?_)
    · replace c105 := (lg_cmp_ge _ _).mp c105
      have e0 : t = nt := by
        have := (lle hM1.1.2.2.2.1 (by omega) (by omega)).mp c105
        omega
      subst e0
      exact kk _ _ hB (by intro q hq; simp only [List.mem_cons, List.not_mem_nil, or_false] at hq; rcases hq with rfl | rfl | rfl | rfl <;> rfl)
    · replace c105 := mt (lg_cmp_ge _ _).mpr c105
      have hin : t < nt := by
        have := mt (lle hM1.1.2.2.2.1 (by omega) (by omega)).mpr c105
        omega
      refine x_iconst (v := 0) (k := 57) rfl (by decide) ?_
      refine x_istore (k := 58) rfl (by decide) ?_
      refine l_fbN (r := r) hM hg hkd hin (fun V2 ls2 hB2 g2 => ?_) (nt + 1) 0 _ _ (by omega) (by omega) hB (by intro q hq; simp only [List.mem_cons, List.not_mem_nil, or_false] at hq; rcases hq with rfl | rfl | rfl | rfl | rfl | rfl <;> rfl)
      refine x_sub (ls' := [(0, .ref m), (1, .int (nI k)), (2, .int (nI kd)), (4, .int (nI r)), (5, .int (nI t))]) g2 ?_
      refine x_iinc (k := 107) rfl rfl (nI_1 t) (by decide) ?_
      refine x_goto (tgt := 95) (k := 108) rfl (by decide) ?_
      exact ih (t + 1) _ _ (by omega) (by omega) hB2 (by intro q hq; simp only [List.mem_cons, List.not_mem_nil, or_false] at hq; rcases hq with rfl | rfl | rfl | rfl | rfl <;> rfl)
theorem l_fbR {G : xG} {s : xA} {m hr f nt nk : Nat} {W : Wd} {V0 : Vd} (hM : Rm hr f nt nk W V0) {k kd : Nat} (hg : ∀ t, t < nt → trG W t) (hkd : kd < 3) {b : Nat → Nat} : ∀ (d r : Nat) (V : Vd) (ls : List (Nat × Value)), 16 - r < d → r ≤ 16 → BI V0 (wrC W nt kd b r) V → (∀ q ∈ [(0, .ref m), (1, .int (nI k)), (2, .int (nI kd)), (4, .int (nI r))], ls.lookup q.1 = some q.2) → mE G MX10_findBest 85 ls [] s m V (fun r1 V1 => r1 = none ∧ BI V0 (wrC W nt kd b 16) V1) := by
  intro d
  induction d with
  | zero =>
    intro r V ls hd hr16 hB g
    exact absurd hd (Nat.not_lt_zero _)
  | succ d ih =>
    intro r V ls hd hr16 hB g
    refine x_sub (ls' := [(0, .ref m), (1, .int (nI k)), (2, .int (nI kd)), (4, .int (nI r))]) g ?_
    refine x_iload (k := 44) rfl rfl ?_
    refine x_bipush (v := 16) (k := 45) rfl (by decide) ?_
    refine x_icmp_ge (tgt := 212) (k := 46) rfl (by decide) (fun c89 => ?_) (fun c89 => ?_)
    · have e0 : r = 16 := by
        have := (nI_leI (a := 16) (by decide) (by omega)).mp c89
        omega
      subst e0
      exact m_rQ (k := 111) rfl rfl hB
    · have hin : r < 16 := by
        have := mt (nI_leI (a := 16) (by decide) (b := r) (by omega)).mpr c89
        omega
      refine x_iconst (v := 0) (k := 47) rfl (by decide) ?_
      refine x_istore (k := 48) rfl (by decide) ?_
      refine l_fbT (r := r) hM hg hkd (fun V2 ls2 hB2 g2 => ?_) (nt + 1) 0 _ _ (by omega) (by omega) hB (by intro q hq; simp only [List.mem_cons, List.not_mem_nil, or_false] at hq; rcases hq with rfl | rfl | rfl | rfl | rfl <;> rfl)
      refine x_sub (ls' := [(0, .ref m), (1, .int (nI k)), (2, .int (nI kd)), (4, .int (nI r))]) g2 ?_
      refine x_iinc (k := 109) rfl rfl (nI_1 r) (by decide) ?_
      refine x_goto (tgt := 85) (k := 110) rfl (by decide) ?_
      exact ih (r + 1) _ _ (by omega) (by omega) hB2 (by intro q hq; simp only [List.mem_cons, List.not_mem_nil, or_false] at hq; rcases hq with rfl | rfl | rfl | rfl <;> rfl)
def BJ (V0 : Vd) (b : Nat → Nat) (i : Nat) (V : Vd) : Prop := bF V0 V ∧ ∀ j, j < i → V.2.2 3 j = nI (b j)
theorem BJ.put {V0 V : Vd} {b : Nat → Nat} {i : Nat} {v : Int32} (h : BJ V0 b i V) (hv : v = nI (b i)) : BJ V0 b (i + 1) (mAr V 3 i v) := ⟨h.1.ar, fun j hj => by
  by_cases e : j = i
  · rw [e, mAr_at, hv]
  · rw [mAr_k e]
    exact h.2 j (by omega)⟩
theorem wini_le {W : Wd} {nt k kd t : Nat} {fo : Int32} (hg : ∀ t, t < nt → trG W t) : wini W nt k kd fo t ≤ 1000000 := by
  unfold wini
  split
  · rename_i h
    have := adN_le (kd := kd) (hg t h.1)
    omega
  · exact Nat.le_refl _
theorem l_fbI {G : xG} {s : xA} {m hr f nt nk : Nat} {W : Wd} {V0 : Vd} (hM : Rm hr f nt nk W V0) {k kd : Nat} (hg : ∀ t, t < nt → trG W t) (hkd : kd < 3) (hk : k < nk) (hh : W 2 k 6 < 10 → isP (W 2 k 6)) (hr2 : rdG W nt k) {fo : Int32} : ∀ (d t : Nat) (V : Vd) (ls : List (Nat × Value)), 16 - t < d → t ≤ 16 → BJ V0 (wini W nt k kd fo) t V → (∀ q ∈ [(0, .ref m), (1, .int (nI k)), (2, .int (nI kd)), (3, .int fo), (4, .int (nI t))], ls.lookup q.1 = some q.2) → mE G MX10_findBest 3 ls [] s m V (fun r1 V1 => r1 = none ∧ BI V0 (wfb W nt k kd fo) V1) := by
  intro d
  induction d with
  | zero =>
    intro t V ls hd ht hB g
    exact absurd hd (Nat.not_lt_zero _)
  | succ d ih =>
    intro t V ls hd ht hB g
    have hM1 := hM.as (V' := V) hB.1.1
    have hb := hM.2
    refine x_sub (ls' := [(0, .ref m), (1, .int (nI k)), (2, .int (nI kd)), (3, .int fo), (4, .int (nI t))]) g ?_
    refine x_iload (k := 2) rfl rfl ?_
    refine x_bipush (v := 16) (k := 3) rfl (by decide) ?_
    refine x_icmp_ge (tgt := 82) (k := 4) rfl (by decide) (fun c7 => ?_) (fun c7 => ?_)
    · have e0 : t = 16 := by
        have := (nI_leI (a := 16) (by decide) (by omega)).mp c7
        omega
      subst e0
      refine x_iconst (v := 0) (k := 42) rfl (by decide) ?_
      refine x_istore (k := 43) rfl (by decide) ?_
      exact l_fbR (b := wini W nt k kd fo) hM hg hkd 17 0 _ _ (by omega) (by omega) ⟨hB.1, hB.2, fun j _ => wini_le hg⟩ (by intro q hq; simp only [List.mem_cons, List.not_mem_nil, or_false] at hq; rcases hq with rfl | rfl | rfl | rfl <;> rfl)
    · have h16 : t < 16 := by
        have := mt (nI_leI (a := 16) (by decide) (b := t) (by omega)).mpr c7
        omega
      refine x_iload (k := 5) rfl rfl ?_
      refine x_i2l (k := 6) rfl ?_
      refine x_aload_n (k := 7) rfl rfl ?_
      refine m_getA (a := 1) (k := 8) rfl flRX10_7 rfl ?_
      refine x_iconst (v := 2) (k := 9) rfl (by decide) ?_
      refine m_nat (k := 10) rfl (show (2 : Int32) = nI 2 from rfl) (by first | assumption | omega) ?_
      refine x_lcmp (k := 11) rfl ?_
      refine x_if_ge (tgt := 49) (k := 12) rfl (by decide) (fun c20 => ?_) (fun c20 => ?_)
      · replace c20 := (lg_cmp_ge _ _).mp c20
        have en : wini W nt k kd fo t = 1000000 := if_neg (fun q => by
          have := (lle hM1.1.2.2.2.1 (by omega) (by omega)).mp c20
          omega)
        refine x_iconst (v := 0) (k := 26) rfl (by decide) ?_
        refine x_istore (k := 27) rfl (by decide) ?_
        refine x_aload_n (k := 28) rfl rfl ?_
        refine m_getA (a := 5) (k := 29) rfl flRX10_23 rfl ?_
        refine x_iload (k := 30) rfl rfl ?_
        refine x_iload (k := 31) rfl rfl ?_
        refine x_if_eq (tgt := 73) (k := 32) rfl (by decide) (fun c60 => ?_) (fun c60 => absurd c60 (by decide))
        refine x_ldc (k := 38) rfl klRX10_228 ?_
        have hB2 := hB.put (v := nI (wini W nt k kd fo t)) rfl
        refine x_top (y := nI (wini W nt k kd fo t)) (by first | (rw [en]; done) | (rw [en]; rfl)) ?_
        refine m_bput (k := 39) rfl rfl h16 ?_
        refine x_iinc (k := 40) rfl rfl (nI_1 t) (by decide) ?_
        refine x_goto (tgt := 3) (k := 41) rfl (by decide) ?_
        exact ih (t + 1) _ _ (by omega) (by omega) hB2 (by intro q hq; simp only [List.mem_cons, List.not_mem_nil, or_false] at hq; rcases hq with rfl | rfl | rfl | rfl | rfl <;> rfl)
      · replace c20 := mt (lg_cmp_ge _ _).mpr c20
        have hin : t < nt := by
          have := mt (lle hM1.1.2.2.2.1 (by omega) (by omega)).mpr c20
          omega
        refine x_iload_n (k := 13) rfl rfl ?_
        refine x_bipush (v := -9) (k := 14) rfl (by decide) ?_
        refine x_icmp_eq (tgt := 35) (k := 15) rfl (by decide) (fun c26 => ?_) (fun c26 => ?_)
        · have ef : fo = -9 ∨ fo = nI t := Or.inl c26
          refine x_aload_n (k := 19) rfl rfl ?_
          refine x_iload_n (k := 20) rfl rfl ?_
          refine x_iload (k := 21) rfl rfl ?_
          refine m_callI (ci := 10) (k := 22) rfl (by rfl) (m_isFirst hM1 hk hh hr2 hin) okX10_isFirst viX10_isFirst mlRX10_222 ⟨Nat.le_of_ble_eq_true rfl, Nat.le_of_ble_eq_true rfl⟩ (by exact Nat.le_of_ble_eq_true rfl) rfl rfl mG0 (by exact Nat.le_of_ble_eq_true rfl) ?_
          refine x_if_eq (tgt := 49) (k := 23) rfl (by decide) (fun c42 => ?_) (fun c42 => ?_)
          · replace c42 := bz_eq0 c42
            have en : wini W nt k kd fo t = 1000000 := if_neg (fun q => c42 q.2.2)
            refine x_iconst (v := 0) (k := 26) rfl (by decide) ?_
            refine x_istore (k := 27) rfl (by decide) ?_
            refine x_aload_n (k := 28) rfl rfl ?_
            refine m_getA (a := 5) (k := 29) rfl flRX10_23 rfl ?_
            refine x_iload (k := 30) rfl rfl ?_
            refine x_iload (k := 31) rfl rfl ?_
            refine x_if_eq (tgt := 73) (k := 32) rfl (by decide) (fun c60 => ?_) (fun c60 => absurd c60 (by decide))
            refine x_ldc (k := 38) rfl klRX10_228 ?_
            have hB2 := hB.put (v := nI (wini W nt k kd fo t)) rfl
            refine x_top (y := nI (wini W nt k kd fo t)) (by first | (rw [en]; done) | (rw [en]; rfl)) ?_
            refine m_bput (k := 39) rfl rfl h16 ?_
            refine x_iinc (k := 40) rfl rfl (nI_1 t) (by decide) ?_
            refine x_goto (tgt := 3) (k := 41) rfl (by decide) ?_
            exact ih (t + 1) _ _ (by omega) (by omega) hB2 (by intro q hq; simp only [List.mem_cons, List.not_mem_nil, or_false] at hq; rcases hq with rfl | rfl | rfl | rfl | rfl <;> rfl)
          · replace c42 := bz_ne0 c42
            have en : wini W nt k kd fo t = adN W kd t := if_pos ⟨hin, ef, c42⟩
            refine x_iconst (v := 1) (k := 24) rfl (by decide) ?_
            refine x_goto (tgt := 50) (k := 25) rfl (by decide) ?_
            refine x_istore (k := 27) rfl (by decide) ?_
            refine x_aload_n (k := 28) rfl rfl ?_
            refine m_getA (a := 5) (k := 29) rfl flRX10_23 rfl ?_
            refine x_iload (k := 30) rfl rfl ?_
            refine x_iload (k := 31) rfl rfl ?_
            refine x_if_eq (tgt := 73) (k := 32) rfl (by decide) (fun c60 => absurd c60 (by decide)) (fun c60 => ?_)
            refine x_aload_n (k := 33) rfl rfl ?_
            refine x_iload (k := 34) rfl rfl ?_
            refine x_iload_n (k := 35) rfl rfl ?_
            refine m_callI (ci := 10) (k := 36) rfl (by rfl) (m_adds hM1 hin (hg t hin) hkd) okX10_adds viX10_adds mlRX10_225 ⟨Nat.le_of_ble_eq_true rfl, Nat.le_of_ble_eq_true rfl⟩ (by exact Nat.le_of_ble_eq_true rfl) rfl rfl mG0 (by exact Nat.le_of_ble_eq_true rfl) ?_
            refine x_goto (tgt := 75) (k := 37) rfl (by decide) ?_
            have hB2 := hB.put (v := nI (wini W nt k kd fo t)) rfl
            refine x_top (y := nI (wini W nt k kd fo t)) (by first | (rw [en]; done) | (rw [en]; rfl)) ?_
            refine m_bput (k := 39) rfl rfl h16 ?_
            refine x_iinc (k := 40) rfl rfl (nI_1 t) (by decide) ?_
            refine x_goto (tgt := 3) (k := 41) rfl (by decide) ?_
            exact ih (t + 1) _ _ (by omega) (by omega) hB2 (by intro q hq; simp only [List.mem_cons, List.not_mem_nil, or_false] at hq; rcases hq with rfl | rfl | rfl | rfl | rfl <;> rfl)
        · refine x_iload_n (k := 16) rfl rfl ?_
          refine x_iload (k := 17) rfl rfl ?_
          refine x_icmp_ne (tgt := 49) (k := 18) rfl (by decide) (fun c32 => ?_) (fun c32 => ?_)
          · have en : wini W nt k kd fo t = 1000000 := if_neg (fun q => q.2.1.elim c26 c32)
            refine x_iconst (v := 0) (k := 26) rfl (by decide) ?_
            refine x_istore (k := 27) rfl (by decide) ?_
            refine x_aload_n (k := 28) rfl rfl ?_
            refine m_getA (a := 5) (k := 29) rfl flRX10_23 rfl ?_
            refine x_iload (k := 30) rfl rfl ?_
            refine x_iload (k := 31) rfl rfl ?_
            refine x_if_eq (tgt := 73) (k := 32) rfl (by decide) (fun c60 => ?_) (fun c60 => absurd c60 (by decide))
            refine x_ldc (k := 38) rfl klRX10_228 ?_
            have hB2 := hB.put (v := nI (wini W nt k kd fo t)) rfl
            refine x_top (y := nI (wini W nt k kd fo t)) (by first | (rw [en]; done) | (rw [en]; rfl)) ?_
            refine m_bput (k := 39) rfl rfl h16 ?_
            refine x_iinc (k := 40) rfl rfl (nI_1 t) (by decide) ?_
            refine x_goto (tgt := 3) (k := 41) rfl (by decide) ?_
            exact ih (t + 1) _ _ (by omega) (by omega) hB2 (by intro q hq; simp only [List.mem_cons, List.not_mem_nil, or_false] at hq; rcases hq with rfl | rfl | rfl | rfl | rfl <;> rfl)
          · have ef : fo = -9 ∨ fo = nI t := Or.inr c32
            refine x_aload_n (k := 19) rfl rfl ?_
            refine x_iload_n (k := 20) rfl rfl ?_
            refine x_iload (k := 21) rfl rfl ?_
            refine m_callI (ci := 10) (k := 22) rfl (by rfl) (m_isFirst hM1 hk hh hr2 hin) okX10_isFirst viX10_isFirst mlRX10_222 ⟨Nat.le_of_ble_eq_true rfl, Nat.le_of_ble_eq_true rfl⟩ (by exact Nat.le_of_ble_eq_true rfl) rfl rfl mG0 (by exact Nat.le_of_ble_eq_true rfl) ?_
            refine x_if_eq (tgt := 49) (k := 23) rfl (by decide) (fun c42 => ?_) (fun c42 => ?_)
            · replace c42 := bz_eq0 c42
              have en : wini W nt k kd fo t = 1000000 := if_neg (fun q => c42 q.2.2)
              refine x_iconst (v := 0) (k := 26) rfl (by decide) ?_
              refine x_istore (k := 27) rfl (by decide) ?_
              refine x_aload_n (k := 28) rfl rfl ?_
              refine m_getA (a := 5) (k := 29) rfl flRX10_23 rfl ?_
              refine x_iload (k := 30) rfl rfl ?_
              refine x_iload (k := 31) rfl rfl ?_
              refine x_if_eq (tgt := 73) (k := 32) rfl (by decide) (fun c60 => ?_) (fun c60 => absurd c60 (by decide))
              refine x_ldc (k := 38) rfl klRX10_228 ?_
              have hB2 := hB.put (v := nI (wini W nt k kd fo t)) rfl
              refine x_top (y := nI (wini W nt k kd fo t)) (by first | (rw [en]; done) | (rw [en]; rfl)) ?_
              refine m_bput (k := 39) rfl rfl h16 ?_
              refine x_iinc (k := 40) rfl rfl (nI_1 t) (by decide) ?_
              refine x_goto (tgt := 3) (k := 41) rfl (by decide) ?_
              exact ih (t + 1) _ _ (by omega) (by omega) hB2 (by intro q hq; simp only [List.mem_cons, List.not_mem_nil, or_false] at hq; rcases hq with rfl | rfl | rfl | rfl | rfl <;> rfl)
            · replace c42 := bz_ne0 c42
              have en : wini W nt k kd fo t = adN W kd t := if_pos ⟨hin, ef, c42⟩
              refine x_iconst (v := 1) (k := 24) rfl (by decide) ?_
              refine x_goto (tgt := 50) (k := 25) rfl (by decide) ?_
              refine x_istore (k := 27) rfl (by decide) ?_
              refine x_aload_n (k := 28) rfl rfl ?_
              refine m_getA (a := 5) (k := 29) rfl flRX10_23 rfl ?_
              refine x_iload (k := 30) rfl rfl ?_
              refine x_iload (k := 31) rfl rfl ?_
              refine x_if_eq (tgt := 73) (k := 32) rfl (by decide) (fun c60 => absurd c60 (by decide)) (fun c60 => ?_)
              refine x_aload_n (k := 33) rfl rfl ?_
              refine x_iload (k := 34) rfl rfl ?_
              refine x_iload_n (k := 35) rfl rfl ?_
              refine m_callI (ci := 10) (k := 36) rfl (by rfl) (m_adds hM1 hin (hg t hin) hkd) okX10_adds viX10_adds mlRX10_225 ⟨Nat.le_of_ble_eq_true rfl, Nat.le_of_ble_eq_true rfl⟩ (by exact Nat.le_of_ble_eq_true rfl) rfl rfl mG0 (by exact Nat.le_of_ble_eq_true rfl) ?_
              refine x_goto (tgt := 75) (k := 37) rfl (by decide) ?_
              have hB2 := hB.put (v := nI (wini W nt k kd fo t)) rfl
              refine x_top (y := nI (wini W nt k kd fo t)) (by first | (rw [en]; done) | (rw [en]; rfl)) ?_
              refine m_bput (k := 39) rfl rfl h16 ?_
              refine x_iinc (k := 40) rfl rfl (nI_1 t) (by decide) ?_
              refine x_goto (tgt := 3) (k := 41) rfl (by decide) ?_
              exact ih (t + 1) _ _ (by omega) (by omega) hB2 (by intro q hq; simp only [List.mem_cons, List.not_mem_nil, or_false] at hq; rcases hq with rfl | rfl | rfl | rfl | rfl <;> rfl)
theorem m_findBest {G : xG} {s : xA} {m hr f nt nk : Nat} {W : Wd} {V : Vd} (hM : Rm hr f nt nk W V) {k kd : Nat} (hg : ∀ t, t < nt → trG W t) (hkd : kd < 3) (hk : k < nk) (hh : W 2 k 6 < 10 → isP (W 2 k 6)) (hr2 : rdG W nt k) (fo : Int32) : mVQ G MX10_findBest [.ref m, .int (nI k), .int (nI kd), .int fo] s m V (BI V (wfb W nt k kd fo)) := by
  refine x_iconst (v := 0) (k := 0) rfl (by decide) ?_
  refine x_istore (k := 1) rfl (by decide) ?_
  exact l_fbI hM hg hkd hk hh hr2 17 0 _ _ (by omega) (by omega) ⟨bF.rf, fun j hj => absurd hj (Nat.not_lt_zero j)⟩ (by intro q hq; simp only [List.mem_cons, List.not_mem_nil, or_false] at hq; rcases hq with rfl | rfl | rfl | rfl | rfl <;> rfl)
