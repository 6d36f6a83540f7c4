-- ===== the history's latest; the text =====
theorem rem5 : ∀ n : Nat, n < 5 → (nI n + 5 - 1 - (nI n + 5 - 1) / 5 * 5 : Int32) = nI ((n + 4) % 5) := by decide
theorem c_remN {G : xG} {t : xA} {h nw : Nat} (c0 : t.1 h = some (eO 0 (hsF h nw 0))) : xMe G MX0_removeLatest [.ref h] t (fun r s1 => r = some .null ∧ s1 = t) := by
  refine x_aload_n (k := 0) rfl rfl ?_
  refine x_get (k := 1) rfl flRX0_26 c0 rfl ?_
  refine x_if_ne (tgt := 9) (k := 2) rfl (by decide) (fun c4 => absurd rfl c4) (fun c4 => ?_)
  refine x_null (k := 3) rfl ?_
  exact x_aret (k := 4) rfl rfl (Or.inl ⟨_, rfl⟩) (Or.inl rfl) ⟨rfl, rfl⟩
theorem c_rem {G : xG} {t : xA} {h nw kp σ : Nat} {ring : Nat → Option Nat} (c0 : t.1 h = some (eO 0 (hsF h nw (kp + 1)))) (c1 : t.1 (h + 1) = some (eR G 8 5 ring)) (hn : nw < 5) (hk : kp < 5) (hr : ring nw = some σ) : xMe G MX0_removeLatest [.ref h] t (fun r s1 => r = some (.ref σ) ∧ s1 = aUp (aUp t h (eO 0 (hsF h ((nw + 4) % 5) (kp + 1)))) h (eO 0 (hsF h ((nw + 4) % 5) kp))) := by
  refine x_aload_n (k := 0) rfl rfl ?_
  refine x_get (k := 1) rfl flRX0_26 c0 rfl ?_
  refine x_if_ne (tgt := 9) (k := 2) rfl (by decide) (fun c4 => ?_) (fun c4 => absurd c4 (nI_ne0 (by omega) (by omega)))
  refine x_aload_n (k := 5) rfl rfl ?_
  refine x_get (k := 6) rfl flRX0_11 c0 rfl ?_
  refine x_aload_n (k := 7) rfl rfl ?_
  refine x_get (k := 8) rfl flRX0_17 c0 rfl ?_
  refine s_at (t := 8) (k := 9) rfl rfl c1 rfl hn (by decide) hr ?_
  refine x_astore_n (k := 10) rfl (by decide) ?_
  refine x_aload_n (k := 11) rfl rfl ?_
  refine x_aload_n (k := 12) rfl rfl ?_
  refine x_get (k := 13) rfl flRX0_17 c0 rfl ?_
  refine x_iconst (v := 5) (k := 14) rfl (by decide) ?_
  refine x_iadd (k := 15) rfl ?_
  refine x_iconst (v := 1) (k := 16) rfl (by decide) ?_
  refine x_isub (k := 17) rfl ?_
  refine x_iconst (v := 5) (k := 18) rfl (by decide) ?_
  refine x_irem (k := 19) rfl (by decide) ?_
  refine x_top (rem5 nw hn) ?_
  refine x_put (k := 20) rfl flRX0_17 ft0_1 c0 (by exact Nat.le_of_ble_eq_true rfl) rfl rfl ?_
  refine x_aload_n (k := 21) rfl rfl ?_
  refine x_dup (k := 22) rfl rfl ?_
  refine x_get (k := 23) rfl flRX0_26 aUp_at rfl ?_
  refine x_iconst (v := 1) (k := 24) rfl (by decide) ?_
  refine x_isub (k := 25) rfl ?_
  refine x_top (nI_pred kp) ?_
  refine x_put (k := 26) rfl flRX0_26 ft0_2 aUp_at (by exact Nat.le_of_ble_eq_true rfl) rfl rfl ?_
  refine x_aload_n (k := 27) rfl rfl ?_
  exact x_aret (k := 28) rfl rfl (Or.inl ⟨_, rfl⟩) (Or.inr ⟨_, rfl⟩) ⟨rfl, rfl⟩
/-- the text: its object at x, its signs behind it -/
def txF (x n : Nat) : List Value := [.ref (x + 1), .int (nI n)]
def TxOk (G : xG) (t : xA) (x n : Nat) (sg : Nat → Int32) : Prop := (t.1 x = some (eO 5 (txF x n)) ∧ t.1 (x + 1) = some (eC G 80 sg)) ∧ n ≤ 80 ∧ ∀ k, k < n → ∃ c : Nat, c < 256 ∧ sg k = nI c
def tSg (n : Nat) (sg : Nat → Int32) (p : Nat) : Int32 := if p < n then sg p else 59
def tDg (n : Nat) (sg : Nat → Int32) (p : Nat) : Int32 := if p < n then sg p - 48 else 0
abbrev tBg (n : Nat) (sg : Nat → Int32) (p : Nat) : Prop := p = 0 ∨ tSg n sg (p - 1) = 59
theorem c_at {G : xG} {M : xM} {pc : Nat} {ls : List (Nat × Value)} {st : List Value} {s : xA} {Q : Option Value → xA → Prop} {k p a n : Nat} {f : Nat → Int32} {i : Int32} (hk : (mIn M)[k]? = some (pc, .caload, 1)) (hh : s.1 a = some (eC G n f)) (hi : i = nI p) (hp : p < n) (hn : n < 2 ^ 31) (kk : xE G M (pc + 1) ls (.int (f p) :: st) s Q) : xE G M pc ls (.int i :: .ref a :: st) s Q :=
  x_cald hk hh (vp_inN hi hp hn) (by rw [clampN hi hp hn]; exact kk)
theorem nar_c : ∀ c : Nat, c < 256 → vp_nar .char (nI c) = nI c := by decide +kernel
theorem tSg_nar {n : Nat} {sg : Nat → Int32} {p : Nat} (h : ∀ k, k < n → ∃ c : Nat, c < 256 ∧ sg k = nI c) : narrow .char (.int (tSg n sg p)) = .int (tSg n sg p) := by
  unfold tSg
  split
  · rename_i hp
    obtain ⟨c, hc, e⟩ := h p hp
    rw [e]
    exact (pk_charN (by omega)).1
  · exact (pk_charN (q := 59) (by omega)).1
def sAddC (G : xG) (t : xA) (x n : Nat) (sg : Nat → Int32) (c : Int32) : xA := aUp (aUp t (x + 1) (eC G 80 (upd sg n c))) x (eO 5 (txF x (n + 1)))
/-- how many digits stand behind a letter -/
def dOf (c : Int32) : Int32 := if c = 103 ∨ c = 116 then 3 else if c = 112 ∨ c = 102 then 2 else if c = 104 then 0 else -9
theorem dOf_no : ∀ c : Nat, c < 256 → c = 103 ∨ c = 116 ∨ c = 112 ∨ c = 102 ∨ c = 104 ∨ dOf (nI c) = -9 := by decide +kernel
/-- the first fault, with k signs to go and what is due -/
def tFa (sg : Nat → Int32) (n : Nat) : Nat → Int32 → Int32
  | 0, due => if due = 0 then -9 else nI n
  | k + 1, due => if due = -1 then (if dOf (sg (n - (k + 1))) = -9 then nI (n - (k + 1)) else tFa sg n k (dOf (sg (n - (k + 1))))) else if due = 0 then (if sg (n - (k + 1)) = 59 then tFa sg n k (-1) else nI (n - (k + 1))) else if sg (n - (k + 1)) < 48 ∨ 57 < sg (n - (k + 1)) then nI (n - (k + 1)) else tFa sg n k (due + Int32.ofInt (-1))