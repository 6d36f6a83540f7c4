-- ===== the history's latest; the text =====
theorem rem5 : ∀ n : Nat, n < 5 → (nI n + 5 - 1 - (nI n + 5 - 1) / 5 * 5 : Int32) = nI ((n + 4) % 5) := by decide
theorem c_remN {G : xG} {t : xA} {h nw : Nat} (c0 : t.1 h = some (eO 0 (hsF h nw 0))) : xMe G MX0_removeLatest [.ref h] t (fun r s1 => r = some .null ∧ s1 = t) := by
  refine x_aload_n (k := 0) rfl rfl ?_
  refine x_get (k := 1) rfl flRX0_26 c0 rfl ?_
  refine x_if_ne (tgt := 9) (k := 2) rfl (by decide) (fun c4 => absurd rfl c4) (fun c4 => ?_)
  refine x_null (k := 3) rfl ?_
  exact x_aret (k := 4) rfl rfl (Or.inl ⟨_, rfl⟩) (Or.inl rfl) ⟨rfl, rfl⟩
theorem c_rem {G : xG} {t : xA} {h nw kp σ : Nat} {ring : Nat → Option Nat} (c0 : t.1 h = some (eO 0 (hsF h nw (kp + 1)))) (c1 : t.1 (h + 1) = some (eR G 8 5 ring)) (hn : nw < 5) (hk : kp < 5) (hr : ring nw = some σ) : xMe G MX0_removeLatest [.ref h] t (fun r s1 => r = some (.ref σ) ∧ s1 = aUp (aUp t h (eO 0 (hsF h ((nw + 4) % 5) (kp + 1)))) h (eO 0 (hsF h ((nw + 4) % 5) kp))) := by
  refine x_aload_n (k := 0) rfl rfl ?_
  refine x_get (k := 1) rfl flRX0_26 c0 rfl ?_
  refine x_if_ne (tgt := 9) (k := 2) rfl (by decide) (fun c4 => ?_) (fun c4 => absurd c4 (nI_ne0 (by omega) (by omega)))
  refine x_aload_n (k := 5) rfl rfl ?_
  refine x_get (k := 6) rfl flRX0_11 c0 rfl ?_
  refine x_aload_n (k := 7) rfl rfl ?_
  refine x_get (k := 8) rfl flRX0_17 c0 rfl ?_
  refine s_at (t := 8) (k := 9) rfl rfl c1 rfl hn (by decide) hr ?_
  refine x_astore_n (k := 10) rfl (by decide) ?_
  refine x_aload_n (k := 11) rfl rfl ?_
  refine x_aload_n (k := 12) rfl rfl ?_
  refine x_get (k := 13) rfl flRX0_17 c0 rfl ?_
  refine x_iconst (v := 5) (k := 14) rfl (by decide) ?_
  refine x_iadd (k := 15) rfl ?_
  refine x_iconst (v := 1) (k := 16) rfl (by decide) ?_
  refine x_isub (k := 17) rfl ?_
  refine x_iconst (v := 5) (k := 18) rfl (by decide) ?_
  refine x_irem (k := 19) rfl (by decide) ?_
  refine x_top (rem5 nw hn) ?_
  refine x_put (k := 20) rfl flRX0_17 ft0_1 c0 (by exact Nat.le_of_ble_eq_true rfl) rfl rfl ?_
  refine x_aload_n (k := 21) rfl rfl ?_
  refine x_dup (k := 22) rfl rfl ?_
  refine x_get (k := 23) rfl flRX0_26 aUp_at rfl ?_
  refine x_iconst (v := 1) (k := 24) rfl (by decide) ?_
  refine x_isub (k := 25) rfl ?_
  refine x_top (nI_pred kp) ?_
  refine x_put (k := 26) rfl flRX0_26 ft0_2 aUp_at (by exact Nat.le_of_ble_eq_true rfl) rfl rfl ?_
  refine x_aload_n (k := 27) rfl rfl ?_
  exact x_aret (k := 28) rfl rfl (Or.inl ⟨_, rfl⟩) (Or.inr ⟨_, rfl⟩) ⟨rfl, rfl⟩
/-- the text: its object at x, its signs behind it -/
def txF (x n : Nat) : List Value := [.ref (x + 1), .int (nI n)]
def TxOk (G : xG) (t : xA) (x n : Nat) (sg : Nat → Int32) : Prop := (t.1 x = some (eO 5 (txF x n)) ∧ t.1 (x + 1) = some (eC G 80 sg)) ∧ n ≤ 80 ∧ ∀ k, k < n → ∃ c : Nat, c < 256 ∧ sg k = nI c
def tSg (n : Nat) (sg : Nat → Int32) (p : Nat) : Int32 := if p < n then sg p else 59
def tDg (n : Nat) (sg : Nat → Int32) (p : Nat) : Int32 := if p < n then sg p - 48 else 0
abbrev tBg (n : Nat) (sg : Nat → Int32) (p : Nat) : Prop := p = 0 ∨ tSg n sg (p - 1) = 59
theorem c_at {G : xG} {M : xM} {pc : Nat} {ls : List (Nat × Value)} {st : List Value} {s : xA} {Q : Option Value → xA → Prop} {k p a n : Nat} {f : Nat → Int32} {i : Int32} (hk : (mIn M)[k]? = some (pc, .caload, 1)) (hh : s.1 a = some (eC G n f)) (hi : i = nI p) (hp : p < n) (hn : n < 2 ^ 31) (kk : xE G M (pc + 1) ls (.int (f p) :: st) s Q) : xE G M pc ls (.int i :: .ref a :: st) s Q :=
  x_cald hk hh (vp_inN hi hp hn) (by rw [clampN hi hp hn]; exact kk)
theorem nar_c : ∀ c : Nat, c < 256 → vp_nar .char (nI c) = nI c := by decide +kernel
theorem tSg_nar {n : Nat} {sg : Nat → Int32} {p : Nat} (h : ∀ k, k < n → ∃ c : Nat, c < 256 ∧ sg k = nI c) : narrow .char (.int (tSg n sg p)) = .int (tSg n sg p) := by
  unfold tSg
  split
  · rename_i hp
    obtain ⟨c, hc, e⟩ := h p hp
    rw [e]
    exact (pk_charN (by omega)).1
  · exact (pk_charN (q := 59) (by omega)).1
def sAddC (G : xG) (t : xA) (x n : Nat) (sg : Nat → Int32) (c : Int32) : xA := aUp (aUp t (x + 1) (eC G 80 (upd sg n c))) x (eO 5 (txF x (n + 1)))
theorem c_add {G : xG} {t : xA} {x n : Nat} {sg : Nat → Int32} (h : TxOk G t x n sg) (h80 : n < 80) {c : Nat} (hcc : c < 256) : xV G MX5_add [.ref x, .int (nI c)] t (sAddC G t x n sg (nI c)) := by
  obtain ⟨⟨h0, h1⟩, hn, hc⟩ := h
  refine x_aload_n (k := 0) rfl rfl ?_
  refine x_get (k := 1) rfl flRX5_9 h0 rfl ?_
  refine x_aload_n (k := 2) rfl rfl ?_
  refine x_get (k := 3) rfl flRX5_15 h0 rfl ?_
  refine x_iload_n (k := 4) rfl rfl ?_
  refine x_cast (k := 5) rfl h1 (vp_inN rfl h80 (by decide)) ?_
  rw [nI_clamp (by omega), nar_c c hcc]
  refine x_aload_n (k := 6) rfl rfl ?_
  refine x_dup (k := 7) rfl rfl ?_
  refine x_get (k := 8) rfl flRX5_15 ((aUp_ne (by omega)).trans h0) rfl ?_
  refine x_iconst (v := 1) (k := 9) rfl (by decide) ?_
  refine x_iadd (k := 10) rfl ?_
  refine x_top (nI_1 n) ?_
  refine x_put (k := 11) rfl flRX5_15 ft5_1 ((aUp_ne (by omega)).trans h0) (by exact Nat.le_of_ble_eq_true rfl) rfl rfl ?_
  exact x_rD (k := 12) rfl rfl rfl
theorem c_sign {G : xG} {t : xA} {x n : Nat} {sg : Nat → Int32} (h : TxOk G t x n sg) {p : Nat} (hp : p < 1000) : xMe G MX5_sign [.ref x, .int (nI p)] t (fun r s1 => r = some (.int (tSg n sg p)) ∧ s1 = t) := by
  obtain ⟨⟨h0, h1⟩, hn, hc⟩ := h
  refine x_iload_n (k := 0) rfl rfl ?_
  refine x_if_lt (tgt := 21) (k := 1) rfl (by decide) (fun c1 => absurd c1 (nI_pos (by omega))) (fun c1 => ?_)
  refine x_iload_n (k := 2) rfl rfl ?_
  refine x_aload_n (k := 3) rfl rfl ?_
  refine x_get (k := 4) rfl flRX5_15 h0 rfl ?_
  refine x_icmp_ge (tgt := 21) (k := 5) rfl (by decide) (fun c9 => ?_) (fun c9 => ?_)
  · have e : tSg n sg p = 59 := if_neg (by have := (nI_leI (by omega) (by omega)).mp c9; omega)
    refine x_bipush (v := 59) (k := 11) rfl (by decide) ?_
    exact x_irD (k := 12) rfl rfl (by first | (rw [← e]; exact tSg_nar hc) | rfl) e.symm
  · have e : tSg n sg p = sg p := if_pos (by have := mt (nI_leI (by omega) (by omega)).mpr c9; omega)
    have hpn : p < n := by
      have := mt (nI_leI (a := n) (b := p) (by omega) (by omega)).mpr c9
      omega
    refine x_aload_n (k := 6) rfl rfl ?_
    refine x_get (k := 7) rfl flRX5_9 h0 rfl ?_
    refine x_iload_n (k := 8) rfl rfl ?_
    refine c_at (k := 9) rfl h1 rfl (by omega) (by decide) ?_
    refine x_goto (tgt := 23) (k := 10) rfl (by decide) ?_
    exact x_irD (k := 12) rfl rfl (by first | (rw [← e]; exact tSg_nar hc) | rfl) e.symm
theorem c_digit {G : xG} {t : xA} {x n : Nat} {sg : Nat → Int32} (h : TxOk G t x n sg) {p : Nat} (hp : p < 1000) : xMe G MX5_digit [.ref x, .int (nI p)] t (fun r s1 => r = some (.int (tDg n sg p)) ∧ s1 = t) := by
  obtain ⟨⟨h0, h1⟩, hn, hc⟩ := h
  refine x_iload_n (k := 0) rfl rfl ?_
  refine x_if_lt (tgt := 24) (k := 1) rfl (by decide) (fun c1 => absurd c1 (nI_pos (by omega))) (fun c1 => ?_)
  refine x_iload_n (k := 2) rfl rfl ?_
  refine x_aload_n (k := 3) rfl rfl ?_
  refine x_get (k := 4) rfl flRX5_15 h0 rfl ?_
  refine x_icmp_ge (tgt := 24) (k := 5) rfl (by decide) (fun c9 => ?_) (fun c9 => ?_)
  · have e : tDg n sg p = 0 := if_neg (by have := (nI_leI (by omega) (by omega)).mp c9; omega)
    refine x_iconst (v := 0) (k := 13) rfl (by decide) ?_
    exact x_irD (k := 14) rfl rfl rfl e.symm
  · have e : tDg n sg p = sg p - 48 := if_pos (by have := mt (nI_leI (by omega) (by omega)).mpr c9; omega)
    have hpn : p < n := by
      have := mt (nI_leI (a := n) (b := p) (by omega) (by omega)).mpr c9
      omega
    refine x_aload_n (k := 6) rfl rfl ?_
    refine x_get (k := 7) rfl flRX5_9 h0 rfl ?_
    refine x_iload_n (k := 8) rfl rfl ?_
    refine c_at (k := 9) rfl h1 rfl (by omega) (by decide) ?_
    refine x_bipush (v := 48) (k := 10) rfl (by decide) ?_
    refine x_isub (k := 11) rfl ?_
    refine x_goto (tgt := 25) (k := 12) rfl (by decide) ?_
    exact x_irD (k := 14) rfl rfl rfl e.symm
theorem c_begins {G : xG} {t : xA} {x n : Nat} {sg : Nat → Int32} (h : TxOk G t x n sg) {p : Nat} (hp : p < 1000) : xMe G MX5_beginsOrder [.ref x, .int (nI p)] t (fun r s1 => r = some (.int (bz (tBg n sg p))) ∧ s1 = t) := by
  refine x_iload_n (k := 0) rfl rfl ?_
  refine x_if_eq (tgt := 16) (k := 1) rfl (by decide) (fun c1 => ?_) (fun c1 => ?_)
  · have e0 : p = 0 := (nI_eq (b := 0) (by omega) (by omega)).mp c1
    have e : bz (tBg n sg p) = 1 := bz_1 (Or.inl e0)
    refine x_iconst (v := 1) (k := 9) rfl (by decide) ?_
    refine x_goto (tgt := 21) (k := 10) rfl (by decide) ?_
    exact x_irD (k := 12) rfl rfl rfl e.symm
  · have e0 : ¬ p = 0 := fun q => c1 (by rw [q]; rfl)
    refine x_aload_n (k := 2) rfl rfl ?_
    refine x_iload_n (k := 3) rfl rfl ?_
    refine x_iconst (v := 1) (k := 4) rfl (by decide) ?_
    refine x_isub (k := 5) rfl ?_
    refine x_top (show nI p - 1 = nI (p - 1) from pk_sub (a := p) (b := 1) (by omega)) ?_
    refine x_cVI (ci := 5) (k := 6) rfl (by rfl) (c_sign h (by omega)) okX5_sign viX5_sign mlRX5_19 ⟨Nat.le_of_ble_eq_true rfl, Nat.le_of_ble_eq_true rfl⟩ (by exact Nat.le_of_ble_eq_true rfl) rfl rfl h.1.1 (by exact Nat.le_of_ble_eq_true rfl) ?_
    refine x_bipush (v := 59) (k := 7) rfl (by decide) ?_
    refine x_icmp_ne (tgt := 20) (k := 8) rfl (by decide) (fun c13 => ?_) (fun c13 => ?_)
    · have e : bz (tBg n sg p) = 0 := bz_0 (fun q => by rcases q with q | q; exact e0 q; exact c13 q)
      refine x_iconst (v := 0) (k := 11) rfl (by decide) ?_
      exact x_irD (k := 12) rfl rfl rfl e.symm
    · have e : bz (tBg n sg p) = 1 := bz_1 (Or.inr c13)
      refine x_iconst (v := 1) (k := 9) rfl (by decide) ?_
      refine x_goto (tgt := 21) (k := 10) rfl (by decide) ?_
      exact x_irD (k := 12) rfl rfl rfl e.symm
/-- how many digits stand behind a letter -/
def dOf (c : Int32) : Int32 := if c = 103 ∨ c = 116 then 3 else if c = 112 ∨ c = 102 then 2 else if c = 104 then 0 else -9
theorem dOf_no : ∀ c : Nat, c < 256 → c = 103 ∨ c = 116 ∨ c = 112 ∨ c = 102 ∨ c = 104 ∨ dOf (nI c) = -9 := by decide +kernel
theorem c_digitsOf {G : xG} {c : Nat} (hc : c < 256) : xI G MX5_digitsOf [.int (nI c)] (dOf (nI c)) := by
  intro s
  rcases (by omega : c < 102 ∨ 116 < c ∨ c = 102 ∨ c = 103 ∨ c = 104 ∨ c = 105 ∨ c = 106 ∨ c = 107 ∨ c = 108 ∨ c = 109 ∨ c = 110 ∨ c = 111 ∨ c = 112 ∨ c = 113 ∨ c = 114 ∨ c = 115 ∨ c = 116) with h | h | rfl | rfl | rfl | rfl | rfl | rfl | rfl | rfl | rfl | rfl | rfl | rfl | rfl | rfl | rfl
  · refine x_iload_n (k := 0) rfl rfl ?_
    refine x_tableOut (tgt := 82) (k := 1) rfl (by rw [nI_toInt (by omega)]; omega) (by decide) ?_
    refine x_bipush (v := -9) (k := 8) rfl (by decide) ?_
    exact x_irD (k := 9) rfl rfl rfl (by rcases dOf_no c hc with q | q | q | q | q | q <;> first | (exact q.symm; done) | omega)
  · refine x_iload_n (k := 0) rfl rfl ?_
    refine x_tableOut (tgt := 82) (k := 1) rfl (by rw [nI_toInt (by omega)]; omega) (by decide) ?_
    refine x_bipush (v := -9) (k := 8) rfl (by decide) ?_
    exact x_irD (k := 9) rfl rfl rfl (by rcases dOf_no c hc with q | q | q | q | q | q <;> first | (exact q.symm; done) | omega)
  · refine x_iload_n (k := 0) rfl rfl ?_
    refine x_tableIn (tgt := 78) (k := 1) rfl (by decide) (by decide) rfl (by decide) ?_
    refine x_iconst (v := 2) (k := 4) rfl (by decide) ?_
    exact x_irD (k := 5) rfl rfl rfl (by decide)
  · refine x_iload_n (k := 0) rfl rfl ?_
    refine x_tableIn (tgt := 76) (k := 1) rfl (by decide) (by decide) rfl (by decide) ?_
    refine x_iconst (v := 3) (k := 2) rfl (by decide) ?_
    exact x_irD (k := 3) rfl rfl rfl (by decide)
  · refine x_iload_n (k := 0) rfl rfl ?_
    refine x_tableIn (tgt := 80) (k := 1) rfl (by decide) (by decide) rfl (by decide) ?_
    refine x_iconst (v := 0) (k := 6) rfl (by decide) ?_
    exact x_irD (k := 7) rfl rfl rfl (by decide)
  · refine x_iload_n (k := 0) rfl rfl ?_
    refine x_tableIn (tgt := 82) (k := 1) rfl (by decide) (by decide) rfl (by decide) ?_
    refine x_bipush (v := -9) (k := 8) rfl (by decide) ?_
    exact x_irD (k := 9) rfl rfl rfl (by decide)
  · refine x_iload_n (k := 0) rfl rfl ?_
    refine x_tableIn (tgt := 82) (k := 1) rfl (by decide) (by decide) rfl (by decide) ?_
    refine x_bipush (v := -9) (k := 8) rfl (by decide) ?_
    exact x_irD (k := 9) rfl rfl rfl (by decide)
  · refine x_iload_n (k := 0) rfl rfl ?_
    refine x_tableIn (tgt := 82) (k := 1) rfl (by decide) (by decide) rfl (by decide) ?_
    refine x_bipush (v := -9) (k := 8) rfl (by decide) ?_
    exact x_irD (k := 9) rfl rfl rfl (by decide)
  · refine x_iload_n (k := 0) rfl rfl ?_
    refine x_tableIn (tgt := 82) (k := 1) rfl (by decide) (by decide) rfl (by decide) ?_
    refine x_bipush (v := -9) (k := 8) rfl (by decide) ?_
    exact x_irD (k := 9) rfl rfl rfl (by decide)
  · refine x_iload_n (k := 0) rfl rfl ?_
    refine x_tableIn (tgt := 82) (k := 1) rfl (by decide) (by decide) rfl (by decide) ?_
    refine x_bipush (v := -9) (k := 8) rfl (by decide) ?_
    exact x_irD (k := 9) rfl rfl rfl (by decide)
  · refine x_iload_n (k := 0) rfl rfl ?_
    refine x_tableIn (tgt := 82) (k := 1) rfl (by decide) (by decide) rfl (by decide) ?_
    refine x_bipush (v := -9) (k := 8) rfl (by decide) ?_
    exact x_irD (k := 9) rfl rfl rfl (by decide)
  · refine x_iload_n (k := 0) rfl rfl ?_
    refine x_tableIn (tgt := 82) (k := 1) rfl (by decide) (by decide) rfl (by decide) ?_
    refine x_bipush (v := -9) (k := 8) rfl (by decide) ?_
    exact x_irD (k := 9) rfl rfl rfl (by decide)
  · refine x_iload_n (k := 0) rfl rfl ?_
    refine x_tableIn (tgt := 78) (k := 1) rfl (by decide) (by decide) rfl (by decide) ?_
    refine x_iconst (v := 2) (k := 4) rfl (by decide) ?_
    exact x_irD (k := 5) rfl rfl rfl (by decide)
  · refine x_iload_n (k := 0) rfl rfl ?_
    refine x_tableIn (tgt := 82) (k := 1) rfl (by decide) (by decide) rfl (by decide) ?_
    refine x_bipush (v := -9) (k := 8) rfl (by decide) ?_
    exact x_irD (k := 9) rfl rfl rfl (by decide)
  · refine x_iload_n (k := 0) rfl rfl ?_
    refine x_tableIn (tgt := 82) (k := 1) rfl (by decide) (by decide) rfl (by decide) ?_
    refine x_bipush (v := -9) (k := 8) rfl (by decide) ?_
    exact x_irD (k := 9) rfl rfl rfl (by decide)
  · refine x_iload_n (k := 0) rfl rfl ?_
    refine x_tableIn (tgt := 82) (k := 1) rfl (by decide) (by decide) rfl (by decide) ?_
    refine x_bipush (v := -9) (k := 8) rfl (by decide) ?_
    exact x_irD (k := 9) rfl rfl rfl (by decide)
  · refine x_iload_n (k := 0) rfl rfl ?_
    refine x_tableIn (tgt := 76) (k := 1) rfl (by decide) (by decide) rfl (by decide) ?_
    refine x_iconst (v := 3) (k := 2) rfl (by decide) ?_
    exact x_irD (k := 3) rfl rfl rfl (by decide)
/-- the first fault, with k signs to go and what is due -/
def tFa (sg : Nat → Int32) (n : Nat) : Nat → Int32 → Int32
  | 0, due => if due = 0 then -9 else nI n
  | k + 1, due => if due = -1 then (if dOf (sg (n - (k + 1))) = -9 then nI (n - (k + 1)) else tFa sg n k (dOf (sg (n - (k + 1))))) else if due = 0 then (if sg (n - (k + 1)) = 59 then tFa sg n k (-1) else nI (n - (k + 1))) else if sg (n - (k + 1)) < 48 ∨ 57 < sg (n - (k + 1)) then nI (n - (k + 1)) else tFa sg n k (due + Int32.ofInt (-1))
theorem l_fault {G : xG} {t : xA} {x n : Nat} {sg : Nat → Int32} (h : TxOk G t x n sg) : ∀ (d i : Nat) (due : Int32) (ls : List (Nat × Value)), n - i = d → i ≤ n → ls.lookup 0 = some (.ref x) → ls.lookup 1 = some (.int due) → ls.lookup 2 = some (.int (nI i)) → xE G MX5_fault 4 ls [] t (fun r s1 => r = some (.int (tFa sg n d due)) ∧ s1 = t) := by
  obtain ⟨⟨h0, h1⟩, hn, hc⟩ := h
  intro d
  induction d with
  | zero =>
    intro i due ls hd hi g0 g1 g2
    have ei : i = n := by omega
    subst ei
    refine x_sub (ls' := [(0, .ref x), (1, .int due), (2, .int (nI i))]) (by simp [*]) ?_
    refine x_iload_n (k := 4) rfl rfl ?_
    refine x_aload_n (k := 5) rfl rfl ?_
    refine x_get (k := 6) rfl flRX5_15 h0 rfl ?_
    refine x_icmp_ge (tgt := 77) (k := 7) rfl (by decide) (fun c9 => ?_) (fun c9 => absurd ((nI_leI (by omega) (by omega)).mpr (Nat.le_refl _)) c9)
    refine x_iload_n (k := 45) rfl rfl ?_
    refine x_if_ne (tgt := 86) (k := 46) rfl (by decide) (fun c78 => ?_) (fun c78 => ?_)
    · have e : tFa sg i 0 due = nI i := if_neg c78
      refine x_aload_n (k := 49) rfl rfl ?_
      refine x_get (k := 50) rfl flRX5_15 h0 rfl ?_
      exact x_irD (k := 51) rfl rfl rfl e.symm
    · have e : tFa sg i 0 due = -9 := if_pos c78
      refine x_bipush (v := -9) (k := 47) rfl (by decide) ?_
      refine x_goto (tgt := 90) (k := 48) rfl (by decide) ?_
      exact x_irD (k := 51) rfl rfl rfl e.symm
  | succ d ih =>
    intro i due ls hd hi g0 g1 g2
    have hin : i < n := by omega
    obtain ⟨c, hcc, ec⟩ := hc i hin
    have ei : n - (d + 1) = i := by omega
    refine x_sub (ls' := [(0, .ref x), (1, .int due), (2, .int (nI i))]) (by simp [*]) ?_
    have ih := fun due ls => ih (i + 1) due ls (by omega) (by omega)
    refine x_iload_n (k := 4) rfl rfl ?_
    refine x_aload_n (k := 5) rfl rfl ?_
    refine x_get (k := 6) rfl flRX5_15 h0 rfl ?_
    refine x_icmp_ge (tgt := 77) (k := 7) rfl (by decide) (fun c9 => absurd ((nI_leI (by omega) (by omega)).mp c9) (by omega)) (fun c9 => ?_)
    refine x_aload_n (k := 8) rfl rfl ?_
    refine x_get (k := 9) rfl flRX5_9 h0 rfl ?_
    refine x_iload_n (k := 10) rfl rfl ?_
    refine c_at (k := 11) rfl h1 rfl (by omega) (by decide) ?_
    rw [ec]
    refine x_istore_n (k := 12) rfl (by decide) ?_
    refine x_iload_n (k := 13) rfl rfl ?_
    refine x_iconst (v := -1) (k := 14) rfl (by decide) ?_
    refine x_icmp_ne (tgt := 37) (k := 15) rfl (by decide) (fun c21 => ?_) (fun c21 => ?_)
    · have e0 : ¬ due = -1 := c21
      refine x_iload_n (k := 24) rfl rfl ?_
      refine x_if_ne (tgt := 54) (k := 25) rfl (by decide) (fun c38 => ?_) (fun c38 => ?_)
      · refine x_iload_n (k := 34) rfl rfl ?_
        refine x_bipush (v := 48) (k := 35) rfl (by decide) ?_
        refine x_icmp_lt (tgt := 66) (k := 36) rfl (by decide) (fun c57 => ?_) (fun c57 => ?_)
        · have e : tFa sg n (d + 1) due = nI i := by rw [tFa, if_neg e0, if_neg c38, ei, ec, if_pos (Or.inl c57)]
          refine x_iload_n (k := 40) rfl rfl ?_
          exact x_irD (k := 41) rfl rfl rfl e.symm
        · refine x_iload_n (k := 37) rfl rfl ?_
          refine x_bipush (v := 57) (k := 38) rfl (by decide) ?_
          refine x_icmp_le (tgt := 68) (k := 39) rfl (by decide) (fun c63 => ?_) (fun c63 => ?_)
          · have e : tFa sg n (d + 1) due = tFa sg n d (due + Int32.ofInt (-1)) := by rw [tFa, if_neg e0, if_neg c38, ei, ec, if_neg (fun q => q.elim c57 (Int32.not_lt.mpr c63))]
            refine x_iinc (k := 42) rfl rfl rfl (by decide) ?_
            refine x_iinc (k := 43) rfl rfl (nI_1 i) (by decide) ?_
            refine x_goto (tgt := 4) (k := 44) rfl (by decide) ?_
            rw [e]
            exact ih _ _ rfl rfl rfl
          · have e : tFa sg n (d + 1) due = nI i := by rw [tFa, if_neg e0, if_neg c38, ei, ec, if_pos (Or.inr (Int32.not_le.mp c63))]
            refine x_iload_n (k := 40) rfl rfl ?_
            exact x_irD (k := 41) rfl rfl rfl e.symm
      · refine x_iload_n (k := 26) rfl rfl ?_
        refine x_bipush (v := 59) (k := 27) rfl (by decide) ?_
        refine x_icmp_eq (tgt := 49) (k := 28) rfl (by decide) (fun c44 => ?_) (fun c44 => ?_)
        · have e : tFa sg n (d + 1) due = tFa sg n d (-1) := by rw [tFa, if_neg e0, if_pos c38, ei, ec, if_pos c44]
          refine x_iconst (v := -1) (k := 31) rfl (by decide) ?_
          refine x_istore_n (k := 32) rfl (by decide) ?_
          refine x_goto (tgt := 71) (k := 33) rfl (by decide) ?_
          refine x_iinc (k := 43) rfl rfl (nI_1 i) (by decide) ?_
          refine x_goto (tgt := 4) (k := 44) rfl (by decide) ?_
          rw [e]
          exact ih _ _ rfl rfl rfl
        · have e : tFa sg n (d + 1) due = nI i := by rw [tFa, if_neg e0, if_pos c38, ei, ec, if_neg c44]
          refine x_iload_n (k := 29) rfl rfl ?_
          exact x_irD (k := 30) rfl rfl rfl e.symm
    · have e0 : due = -1 := c21
      refine x_iload_n (k := 16) rfl rfl ?_
      refine x_sD (k := 17) rfl (by rfl) (c_digitsOf hcc) okX5_digitsOf viX5_digitsOf mlRX5_23 ⟨Nat.le_of_ble_eq_true rfl, Nat.le_of_ble_eq_true rfl⟩ (by exact Nat.le_of_ble_eq_true rfl) rfl (by exact Nat.le_of_ble_eq_true rfl) ?_
      refine x_istore_n (k := 18) rfl (by decide) ?_
      refine x_iload_n (k := 19) rfl rfl ?_
      refine x_bipush (v := -9) (k := 20) rfl (by decide) ?_
      refine x_icmp_ne (tgt := 71) (k := 21) rfl (by decide) (fun c32 => ?_) (fun c32 => ?_)
      · have e : tFa sg n (d + 1) due = tFa sg n d (dOf (nI c)) := by rw [tFa, if_pos e0, ei, ec, if_neg c32]
        refine x_iinc (k := 43) rfl rfl (nI_1 i) (by decide) ?_
        refine x_goto (tgt := 4) (k := 44) rfl (by decide) ?_
        rw [e]
        exact ih _ _ rfl rfl rfl
      · have e : tFa sg n (d + 1) due = nI i := by rw [tFa, if_pos e0, ei, ec, if_pos c32]
        refine x_iload_n (k := 22) rfl rfl ?_
        exact x_irD (k := 23) rfl rfl rfl e.symm
theorem c_fault {G : xG} {t : xA} {x n : Nat} {sg : Nat → Int32} (h : TxOk G t x n sg) : xMe G MX5_fault [.ref x] t (fun r s1 => r = some (.int (tFa sg n n (-1))) ∧ s1 = t) := by
  refine x_iconst (v := -1) (k := 0) rfl (by decide) ?_
  refine x_istore_n (k := 1) rfl (by decide) ?_
  refine x_iconst (v := 0) (k := 2) rfl (by decide) ?_
  refine x_istore_n (k := 3) rfl (by decide) ?_
  exact l_fault h n 0 (-1) _ (by omega) (by omega) rfl rfl rfl
