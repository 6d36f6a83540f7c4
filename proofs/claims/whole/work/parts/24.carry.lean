-- ===== a text carried out; the constructors =====
abbrev ordA (W : Wd) (n : Nat) (sg : Nat → Int32) (p : Nat) : Int32 := ordR W (tSg n sg p) (tDg n sg (p + 1)) (tDg n sg (p + 2)) (tDg n sg (p + 3))
abbrev ordB (W : Wd) (n : Nat) (sg : Nat → Int32) (p : Nat) : Wd := ordW W (tSg n sg p) (tDg n sg (p + 1)) (tDg n sg (p + 2)) (tDg n sg (p + 3))
/-- how many orders were carried out, and what became of the world, with d signs to go -/
def coTo (n : Nat) (sg : Nat → Int32) : Nat → Int32 → Wd → Int32 × Wd
  | 0, c, W => (c, W)
  | d + 1, c, W => if tBg n sg (n - (d + 1)) then (if ordA W n sg (n - (d + 1)) < 0 then (c, ordB W n sg (n - (d + 1))) else coTo n sg d (c + 1) (ordB W n sg (n - (d + 1)))) else coTo n sg d c W
def CoQ (G : xG) (t : xA) (own : Nat → Nat) (a : Nat) (D : OD) (R : Int32 × Wd) : Option Value → xA → Prop := fun r t1 => r = some (.int R.1) ∧ ∃ (own1 : Nat → Nat) (H1 : HD), Ob G t1 own1 a ((R.2, D.1.2), H1, (0, D.2.2.1.2), D.2.2.2) ∧ KeptH D.2.1 D.1 H1 ∧ Did t t1 own own1 clsT 123 2437
theorem l_co80 {G : xG} {t t1 : xA} {own own1 : Nat → Nat} {a : Nat} {D : OD} {W : Wd} {c : Int32} {H1 : HD} (q1 : Ob G t1 own1 a ((W, D.1.2), H1, D.2.2)) (q2 : KeptH D.2.1 D.1 H1) (q3 : Did t t1 own own1 clsT 123 2437) (ls : List (Nat × Value)) (g0 : ls.lookup 0 = some (.ref a)) (g2 : ls.lookup 2 = some (.int c)) : xE G MX9_carryOut 80 ls [] t1 (CoQ G t own a D (c, W)) := by
  obtain ⟨⟨⟨x0, x1⟩, xn, xc⟩, o1, o2⟩ := q1.2.2.2.1
  have hd : Did t1 (aUp t1 (a + 46) (eO 5 (txF (a + 46) 0))) own1 own1 (fun q => q = 5) 0 0 := ⟨fun q hq hne => aUp_ne (fun e => hne (by rw [e]; exact o1)), fun _ _ => rfl, Nat.le_refl _, Nat.le_refl _, Nat.le_refl _, Nat.le_refl _⟩
  obtain ⟨o3, o4⟩ := ob_text q1 (X := (0, D.2.2.1.2)) hd ⟨⟨aUp_at, (aUp_ne (by omega)).trans x1⟩, Nat.zero_le _, fun k hk => absurd hk (Nat.not_lt_zero _)⟩
  refine x_sub (ls' := [(0, .ref a), (2, .int c)]) (by simp [*]) ?_
  refine x_aload_n (k := 39) rfl rfl ?_
  refine x_get (k := 40) rfl flRX9_31 q1.1.1 rfl ?_
  refine x_iconst (v := 0) (k := 41) rfl (by decide) ?_
  refine x_put (k := 42) rfl flRX9_134 ft5_1 x0 (by exact Nat.le_of_ble_eq_true rfl) rfl rfl ?_
  refine x_iload_n (k := 43) rfl rfl ?_
  exact x_iret (k := 44) rfl rfl rfl ⟨rfl, own1, H1, o3, q2, q3.tr o4 (fun _ z => z) (fun _ z => z) (by omega) (by omega)⟩
theorem l_co {G : xG} {t : xA} {own : Nat → Nat} {a : Nat} {D : OD} {P : Wd → Prop} (hP : ∀ W, P W → oPre W) (hS : ∀ W p, P W → ¬ ordA W D.2.2.1.1 D.2.2.1.2 p < 0 → P (ordB W D.2.2.1.1 D.2.2.1.2 p) ∧ wGood (ordB W D.2.2.1.1 D.2.2.1.2 p)) (hF : ∀ W p, ordA W D.2.2.1.1 D.2.2.1.2 p < 0 → P W → ordB W D.2.2.1.1 D.2.2.1.2 p = W) {H1 : HD} (q2 : KeptH D.2.1 D.1 H1) :
    ∀ (d i : Nat) (c : Int32) (W : Wd) (t1 : xA) (own1 : Nat → Nat) (ls : List (Nat × Value)), D.2.2.1.1 - i = d → i ≤ D.2.2.1.1 → P W → Ob G t1 own1 a ((W, D.1.2), H1, D.2.2) → Did t t1 own own1 clsT 123 2437 → ls.lookup 0 = some (.ref a) → ls.lookup 2 = some (.int c) → ls.lookup 3 = some (.int (nI i)) → xE G MX9_carryOut 35 ls [] t1 (CoQ G t own a D (coTo D.2.2.1.1 D.2.2.1.2 d c W)) := by
  intro d
  induction d with
  | zero =>
    intro i c W t1 own1 ls hd hi hW q1 q3 g0 g2 g3
    have hn : D.2.2.1.1 ≤ 80 := q1.2.2.2.1.1.2.1
    refine x_sub (ls' := [(0, .ref a), (2, .int c), (3, .int (nI i))]) (by simp [*]) ?_
    refine x_iload_n (k := 20) rfl rfl ?_
    refine x_aload_n (k := 21) rfl rfl ?_
    refine x_get (k := 22) rfl flRX9_31 q1.1.1 rfl ?_
    refine x_get (k := 23) rfl flRX9_134 q1.2.2.2.1.1.1.1 rfl ?_
    refine x_icmp_ge (tgt := 80) (k := 24) rfl (by decide) (fun c43 => ?_) (fun c43 => absurd (nI_le (a := D.2.2.1.1) (b := i) (by omega) (by omega)) c43)
    exact l_co80 q1 q2 q3 _ rfl rfl
  | succ d ih =>
    intro i c W t1 own1 ls hd hi hW q1 q3 g0 g2 g3
    have hn : D.2.2.1.1 ≤ 80 := q1.2.2.2.1.1.2.1
    have ei : D.2.2.1.1 - (d + 1) = i := by omega
    rw [coTo, ei]
    refine x_sub (ls' := [(0, .ref a), (2, .int c), (3, .int (nI i))]) (by simp [*]) ?_
    refine x_iload_n (k := 20) rfl rfl ?_
    refine x_aload_n (k := 21) rfl rfl ?_
    refine x_get (k := 22) rfl flRX9_31 q1.1.1 rfl ?_
    refine x_get (k := 23) rfl flRX9_134 q1.2.2.2.1.1.1.1 rfl ?_
    refine x_icmp_ge (tgt := 80) (k := 24) rfl (by decide) (fun c43 => absurd ((nI_leI (a := D.2.2.1.1) (b := i) (by omega) (by omega)).mp c43) (by omega)) (fun c43 => ?_)
    refine x_aload_n (k := 25) rfl rfl ?_
    refine x_get (k := 26) rfl flRX9_31 q1.1.1 rfl ?_
    refine x_iload_n (k := 27) rfl rfl ?_
    refine x_cVI (ci := 5) (k := 28) rfl (by rfl) (c_begins q1.2.2.2.1.1 (p := i) (by omega)) okX5_beginsOrder viX5_beginsOrder mlRX9_145 ⟨Nat.le_of_ble_eq_true rfl, Nat.le_of_ble_eq_true rfl⟩ (by exact Nat.le_of_ble_eq_true rfl) rfl rfl q1.2.2.2.1.1.1.1 (by exact Nat.le_of_ble_eq_true rfl) ?_
    refine x_if_ne (tgt := 60) (k := 29) rfl (by decide) (fun c54 => ?_) (fun c54 => ?_)
    · replace c54 := bz_ne0 c54
      rw [if_pos c54]
      refine x_aload_n (k := 31) rfl rfl ?_
      refine x_iload_n (k := 32) rfl rfl ?_
      refine x_cVI (ci := 9) (k := 33) rfl (by rfl) (c_follow q1 (hP W hW) (p := i) (by omega)) okX9_followOrder viX9_followOrder mlRX9_149 ⟨Nat.le_of_ble_eq_true rfl, Nat.le_of_ble_eq_true rfl⟩ (by exact Nat.le_of_ble_eq_true rfl) rfl rfl q1.1.1 (by exact Nat.le_of_ble_eq_true rfl) ?_
      refine x_if_ge (tgt := 71) (k := 34) rfl (by decide) (fun c65 => ?_) (fun c65 => ?_)
      · have hf : ¬ ordA W D.2.2.1.1 D.2.2.1.2 i < 0 := Int32.not_lt.mpr c65
        rw [if_neg hf]
        obtain ⟨hW2, hg2⟩ := hS W i hW hf
        obtain ⟨q4, q5⟩ := q1.setW hg2
        have q6 := q3.tr q5 (T2 := clsT) (c2 := 123) (m2 := 2437) (fun _ z => z) (fun q z => by show q ≠ 3; omega) (by omega) (by omega)
        refine x_iinc (k := 36) rfl rfl (show _ = c + 1 from rfl) (by decide) ?_
        refine x_iinc (k := 37) rfl rfl (nI_1 i) (by decide) ?_
        refine x_goto (tgt := 35) (k := 38) rfl (by decide) ?_
        first | exact ih (i + 1) (c + 1) _ _ own1 _ (by omega) (by omega) hW2 q4 q6 rfl rfl rfl | exact ih (i + 1) c W t1 own1 _ (by omega) (by omega) hW q1 q3 rfl rfl rfl
      · have hf : ordA W D.2.2.1.1 D.2.2.1.2 i < 0 := Int32.not_le.mp c65
        rw [if_pos hf]
        have eW := hF W i hf hW
        rw [eW]
        refine x_st (s2 := t1) ((congrArg (setW G t1 (a + 2)) eW).trans (isW_self q1.W)) ?_
        refine x_goto (tgt := 80) (k := 35) rfl (by decide) ?_
        exact l_co80 q1 q2 q3 _ rfl rfl
    · replace c54 := bz_eq0 c54
      rw [if_neg c54]
      refine x_goto (tgt := 74) (k := 30) rfl (by decide) ?_
      refine x_iinc (k := 37) rfl rfl (nI_1 i) (by decide) ?_
      refine x_goto (tgt := 35) (k := 38) rfl (by decide) ?_
      first | exact ih (i + 1) (c + 1) _ _ own1 _ (by omega) (by omega) hW2 q4 q6 rfl rfl rfl | exact ih (i + 1) c W t1 own1 _ (by omega) (by omega) hW q1 q3 rfl rfl rfl
theorem c_carryOutF {G : xG} {t : xA} {own : Nat → Nat} {a : Nat} {D : OD} (h : Ob G t own a D) (hf : ¬ tFa D.2.2.1.2 D.2.2.1.1 D.2.2.1.1 (-1) = -9) : xMe G MX9_carryOut [.ref a] t (nuQ t (-1000 - tFa D.2.2.1.2 D.2.2.1.1 D.2.2.1.1 (-1))) := by
  refine x_aload_n (k := 0) rfl rfl ?_
  refine x_get (k := 1) rfl flRX9_31 h.1.1 rfl ?_
  refine x_cVI (ci := 5) (k := 2) rfl (by rfl) (c_fault h.2.2.2.1.1) okX5_fault viX5_fault mlRX9_141 ⟨Nat.le_of_ble_eq_true rfl, Nat.le_of_ble_eq_true rfl⟩ (by exact Nat.le_of_ble_eq_true rfl) rfl rfl h.2.2.2.1.1.1.1 (by exact Nat.le_of_ble_eq_true rfl) ?_
  refine x_istore_n (k := 3) rfl (by decide) ?_
  refine x_iload_n (k := 4) rfl rfl ?_
  refine x_bipush (v := -9) (k := 5) rfl (by decide) ?_
  refine x_icmp_eq (tgt := 20) (k := 6) rfl (by decide) (fun c11 => absurd c11 hf) (fun c11 => ?_)
  refine x_sipush (v := -1000) (k := 7) rfl (by decide) ?_
  refine x_iload_n (k := 8) rfl rfl ?_
  refine x_isub (k := 9) rfl ?_
  exact x_irD (k := 10) rfl rfl rfl rfl
theorem c_carryOut {G : xG} {t : xA} {own : Nat → Nat} {a : Nat} {D : OD} (h : Ob G t own a D) (hf : tFa D.2.2.1.2 D.2.2.1.1 D.2.2.1.1 (-1) = -9) {P : Wd → Prop} (hP : ∀ W, P W → oPre W) (hS : ∀ W p, P W → ¬ ordA W D.2.2.1.1 D.2.2.1.2 p < 0 → P (ordB W D.2.2.1.1 D.2.2.1.2 p) ∧ wGood (ordB W D.2.2.1.1 D.2.2.1.2 p)) (hF : ∀ W p, ordA W D.2.2.1.1 D.2.2.1.2 p < 0 → P W → ordB W D.2.2.1.1 D.2.2.1.2 p = W) (hW : P D.1.1) : xMe G MX9_carryOut [.ref a] t (CoQ G t own a D (coTo D.2.2.1.1 D.2.2.1.2 D.2.2.1.1 0 D.1.1)) := by
  refine x_aload_n (k := 0) rfl rfl ?_
  refine x_get (k := 1) rfl flRX9_31 h.1.1 rfl ?_
  refine x_cVI (ci := 5) (k := 2) rfl (by rfl) (c_fault h.2.2.2.1.1) okX5_fault viX5_fault mlRX9_141 ⟨Nat.le_of_ble_eq_true rfl, Nat.le_of_ble_eq_true rfl⟩ (by exact Nat.le_of_ble_eq_true rfl) rfl rfl h.2.2.2.1.1.1.1 (by exact Nat.le_of_ble_eq_true rfl) ?_
  refine x_istore_n (k := 3) rfl (by decide) ?_
  refine x_iload_n (k := 4) rfl rfl ?_
  refine x_bipush (v := -9) (k := 5) rfl (by decide) ?_
  refine x_icmp_eq (tgt := 20) (k := 6) rfl (by decide) (fun c11 => ?_) (fun c11 => absurd hf c11)
  refine x_aload_n (k := 11) rfl rfl ?_
  refine x_get (k := 12) rfl flRX9_24 h.1.1 rfl ?_
  refine x_aload_n (k := 13) rfl rfl ?_
  refine x_get (k := 14) rfl flRX9_10 h.1.1 rfl ?_
  refine x_cX (ci := 0) (k := 15) rfl (by rfl) (keep_Ob h) okX0_keep viX0_keep mlRX9_50 ⟨Nat.le_of_ble_eq_true rfl, Nat.le_of_ble_eq_true rfl⟩ (by exact Nat.le_of_ble_eq_true rfl) rfl rfl h.2.2.1.1.1 (by exact Nat.le_of_ble_eq_true rfl) ?_
  intro r1 t1 h1
  obtain ⟨rfl, own1, H1, q1, q2, q3⟩ := h1
  refine x_iconst (v := 0) (k := 16) rfl (by decide) ?_
  refine x_istore_n (k := 17) rfl (by decide) ?_
  refine x_iconst (v := 0) (k := 18) rfl (by decide) ?_
  refine x_istore_n (k := 19) rfl (by decide) ?_
  exact l_co hP hS hF q2 D.2.2.1.1 0 0 D.1.1 t1 own1 _ rfl (Nat.zero_le _) hW q1 q3 rfl rfl rfl
