-- ===== the law's own methods: the numbers, the call of a turn =====
section ROWS
variable {G : xG} {M M' : xM} {pc : Nat} {ls : List (Nat × Value)} {st stk As : List Value} {s : xA} {Q Q' : Option Value → xA → Prop}
/-- calls of the law's own methods -/
theorem x_sX {k idx n : Nat} (hk : (mIn M)[k]? = some (pc, .invokestatic idx, 3)) (hs : stk = As.reverse ++ st) (hb : xMe G M' As s Q') (ho : xOk M' n) (hv : Cond.static (mY M') ∈ gW) (hw : Cond.methodLink (mOwn M) idx (mY M') ∈ gW) (hR : xRm M M') (hlen : (lg_sl As).length ≤ mNL M') (hn : As.length = n) (hst : (st.map fun v => v.category).sum ≤ 8) (kk : ∀ (r : Option Value) (s1 : xA), Q' r s1 → xE G M (pc + 3) ls (r.toList ++ st) s1 Q) : xE G M pc ls stk s Q :=
  x_callS hk ho hv hw hR hlen hn hst hs hb kk
theorem x_sL {k idx n : Nat} {v : Int64} (hk : (mIn M)[k]? = some (pc, .invokestatic idx, 3)) (hs : stk = As.reverse ++ st) (hb : xMe G M' As s (fun r s1 => r = some (.long v) ∧ s1 = s)) (ho : xOk M' n) (hv : Cond.static (mY M') ∈ gW) (hw : Cond.methodLink (mOwn M) idx (mY M') ∈ gW) (hR : xRm M M') (hlen : (lg_sl As).length ≤ mNL M') (hn : As.length = n) (hst : (st.map fun v => v.category).sum ≤ 8) (kk : xE G M (pc + 3) ls (.long v :: st) s Q) : xE G M pc ls stk s Q :=
  x_callS hk ho hv hw hR hlen hn hst hs hb (fun r s1 q => by
    obtain ⟨rfl, rfl⟩ := q
    exact kk)
theorem x_sI {k idx n : Nat} {v : Int32} (hk : (mIn M)[k]? = some (pc, .invokestatic idx, 3)) (hs : stk = As.reverse ++ st) (hb : xMe G M' As s (fun r s1 => r = some (.int v) ∧ s1 = s)) (ho : xOk M' n) (hv : Cond.static (mY M') ∈ gW) (hw : Cond.methodLink (mOwn M) idx (mY M') ∈ gW) (hR : xRm M M') (hlen : (lg_sl As).length ≤ mNL M') (hn : As.length = n) (hst : (st.map fun v => v.category).sum ≤ 8) (kk : xE G M (pc + 3) ls (.int v :: st) s Q) : xE G M pc ls stk s Q :=
  x_callS hk ho hv hw hR hlen hn hst hs hb (fun r s1 q => by
    obtain ⟨rfl, rfl⟩ := q
    exact kk)
end ROWS
def sUp (x : Int32) (m : Nat) : Nat := x.toBitVec.toNat % 2 ^ 31 % m
theorem sUp_lt {x : Int32} {m : Nat} (h : 0 < m) : sUp x m < m := Nat.mod_lt _ h
theorem c_up {G : xG} {x : Int32} {m : Nat} (h0 : 0 < m) (hm : m < 2 ^ 31) : xI G ML_up [.int x, .int (nI m)] (nI (sUp x m)) := by
  intro s
  refine x_iload_n (k := 0) rfl rfl ?_
  refine x_ldc (k := 1) rfl klRL_8 ?_
  refine x_iand (k := 2) rfl ?_
  refine x_iload_n (k := 3) rfl rfl ?_
  refine x_irem (k := 4) rfl (nI_ne0 h0 hm) ?_
  exact x_irD (k := 5) rfl rfl rfl (by rw [pk_and x 31 (by decide +kernel), pk_rem (Nat.mod_lt _ (by decide)) h0 hm]; rfl)
/-- a number of the script, or what stands for it behind its end -/
def sCe (G : xG) (k : Nat) : Int32 := if k < gLen G then gScr G k else 763049417 * (nI k + 3)
theorem c_cell {G : xG} {k : Nat} (hL : gLen G ≤ 260) (hk : k < 1000) : xI G ML_cell [.ref (gS3 G), .int (nI k)] (sCe G k) := by
  intro s
  refine x_iload_n (k := 0) rfl rfl ?_
  refine x_aload_n (k := 1) rfl rfl ?_
  refine x_scrLen (k := 2) rfl ?_
  refine x_icmp_ge (tgt := 12) (k := 3) rfl (by decide) (fun c3 => ?_) (fun c3 => ?_)
  · refine x_ldc (k := 8) rfl klRL_7 ?_
    refine x_iload_n (k := 9) rfl rfl ?_
    refine x_iconst (v := 3) (k := 10) rfl (by decide) ?_
    refine x_iadd (k := 11) rfl ?_
    refine x_imul (k := 12) rfl ?_
    exact x_irD (k := 13) rfl rfl rfl (by rw [sCe, if_neg (fun z => nI_ge z (by omega) c3)])
  · have hlt : k < gLen G := Nat.lt_of_not_le (fun z => c3 (nI_le z (by omega)))
    refine x_aload_n (k := 4) rfl rfl ?_
    refine x_iload_n (k := 5) rfl rfl ?_
    refine x_scrAt (k := 6) rfl (vp_inN rfl hlt (by omega)) ?_
    refine x_goto (tgt := 18) (k := 7) rfl (by decide) ?_
    exact x_irD (k := 13) rfl rfl rfl (by rw [sCe, if_pos hlt, nI_clamp (by omega)])
-- the call of a turn
def tPk (W : Wd) (x : Int32) : Nat := sUp x (cK W + 1)
def tOt (y : Int32) : Nat := sUp y 8
def tH (W : Wd) (x : Int32) : Int32 := prA W (tPk W x) 6
abbrev t8 (h : Int32) : Int32 := h - h / 8 * 8
def tOf (W : Wd) (x y : Int32) : Cl := (0, ar [nI (tOt y), if sPer W (tOt y) 2 < 0 then nI (sUp x 6) else sPer W (tOt y) 2, nI (sUp (y >>> ((3 : Int32) &&& 31)) 6), 1 + nI (sUp (y >>> ((6 : Int32) &&& 31)) 4), 1 + nI (sUp (y >>> ((8 : Int32) &&& 31)) 5), nI (sUp (y >>> ((11 : Int32) &&& 31)) 30)])
def tPo (y : Int32) : Cl := (1, ar [nI (tOt y), nI (sUp (y >>> ((3 : Int32) &&& 31)) 8), nI (sUp (y >>> ((6 : Int32) &&& 31)) 6), 1 + nI (sUp (y >>> ((9 : Int32) &&& 31)) 300), nI (sUp (y >>> ((18 : Int32) &&& 31)) 4)])
def tPa (x y : Int32) : Cl := (6, ar [1 + nI (sUp y (if x &&& 7 = 0 then 12 else 2))])
def tGa (W : Wd) (x y : Int32) : Cl := (2, ar [tH W x, nI (tPk W x), if x &&& 512 = 0 then nI (tOt y) else prA W (tPk W x) 9])
def tTo (W : Wd) (x y : Int32) : Cl := (3, ar [if x &&& 512 = 0 then nI (tOt y) else prA W (tPk W x) 8, nI (tPk W x), tH W x])
def tG9 (W : Wd) (x y : Int32) : Cl := (2, ar [tH W x, nI (tPk W x), if t8 (tH W x) < 2 then t8 (tH W x + 6) else nI (tOt y)])
def tT10 (W : Wd) (x : Int32) : Cl := (3, ar [t8 (tH W x + 6), nI (tPk W x), tH W x])
def tBk (x y : Int32) : Cl := if x &&& 1 = 0 then (8, ar [nI (sUp y 8)]) else (9, ar [y &&& 1])
def tAnN (n : Nat) (x y : Int32) : Cl := match n with
  | 0 => (0, ar [x, y, x, y, x, y]) | 1 => (1, ar [x, y, x, y, x]) | 2 => (2, ar [x, y, x]) | 3 => (3, ar [x, y, y]) | 4 => (4, ar [x, y]) | 5 => (5, ar [x, y]) | 6 => (6, ar [x]) | _ => (7, ar [x])
def tAny (x y : Int32) : Cl := tAnN (y.toBitVec.toNat % 2 ^ 3) x y
def sTurn (W : Wd) (w : Nat) (x y : Int32) : Cl := match w with
  | 0 => tOf W x y | 1 => tOf W x y | 2 => tPo y | 3 => tPo y | 4 => tPa x y | 5 => tGa W x y | 6 => tGa W x y | 7 => tTo W x y | 8 => tTo W x y | 9 => tG9 W x y | 10 => tT10 W x
  | 11 => (4, ar [tH W x, nI (tPk W x)]) | 12 => (5, ar [nI (tOt y), nI (tPk W x)]) | 13 => (7, ar [nI (tPk W x)]) | 14 => tBk x y | _ => tAny x y
section TURN
variable {G : xG} {t s1 : xA} {own : Nat → Nat} {a B : Nat} {D : OD} {c c' : Cl} {r : Option Value}
theorem CallQ.e (h : c = c') (q : CallQ G t own a D c' r s1) : CallQ G t own a D c r s1 := h ▸ q
/-- the counts -/
theorem g_c5 (h : Ob G t own a D) : xMe G MX9_count [.ref a, .int 5] t (nuQ t (nI (cK D.1.1))) := by
  have k := c_count h (q := 5) (by decide)
  rw [show sCnt D 5 = nI (cK D.1.1) from h.hK.2] at k
  exact k
theorem g_c1 (h : Ob G t own a D) : xMe G MX9_count [.ref a, .int 1] t (nuQ t (nI (cT D.1.1))) := by
  have k := c_count h (q := 1) (by decide)
  rw [show sCnt D 1 = nI (cT D.1.1) from h.hT.2] at k
  exact k
theorem c_any (h : Ob G t own a D) (hJ : IvD B D) (hB : B < 512) (x y : Int32) : xMe G ML_any [.ref a, .int x, .int y] t (CallQ G t own a D (tAny x y)) := by
  unfold tAny
  have h8 : y.toBitVec.toNat % 2 ^ 3 < 8 := Nat.mod_lt _ (by decide)
  refine x_iload_n (k := 0) rfl rfl ?_
  refine x_bipush (v := 7) (k := 1) rfl (by decide) ?_
  refine x_iand (k := 2) rfl ?_
  rw [pk_and y 3 (by decide +kernel)]
  generalize y.toBitVec.toNat % 2 ^ 3 = n at h8 ⊢
  rcases (by omega : n = 0 ∨ n = 1 ∨ n = 2 ∨ n = 3 ∨ n = 4 ∨ n = 5 ∨ n = 6 ∨ n = 7) with rfl | rfl | rfl | rfl | rfl | rfl | rfl | rfl
  · refine x_tableIn (tgt := 48) (k := 3) rfl (by decide) (by decide) rfl (by decide) ?_
    refine x_aload_n (k := 4) rfl rfl ?_
    refine x_iload_n (k := 5) rfl rfl ?_
    refine x_iload_n (k := 6) rfl rfl ?_
    refine x_iload_n (k := 7) rfl rfl ?_
    refine x_iload_n (k := 8) rfl rfl ?_
    refine x_iload_n (k := 9) rfl rfl ?_
    refine x_iload_n (k := 10) rfl rfl ?_
    refine x_cX (ci := 9) (k := 11) rfl (by rfl) (ca_offer h hJ hB _ _ _ _ _ _) okX9_offer viX9_offer mlRL_32 ⟨Nat.le_of_ble_eq_true rfl, Nat.le_of_ble_eq_true rfl⟩ (by exact Nat.le_of_ble_eq_true rfl) rfl rfl h.1.1 (by exact Nat.le_of_ble_eq_true rfl) ?_
    intro r s1 q
    have e0 := q.1
    subst e0
    exact x_iret (k := 12) rfl rfl rfl (CallQ.e rfl q)
  · refine x_tableIn (tgt := 59) (k := 3) rfl (by decide) (by decide) rfl (by decide) ?_
    refine x_aload_n (k := 13) rfl rfl ?_
    refine x_iload_n (k := 14) rfl rfl ?_
    refine x_iload_n (k := 15) rfl rfl ?_
    refine x_iload_n (k := 16) rfl rfl ?_
    refine x_iload_n (k := 17) rfl rfl ?_
    refine x_iload_n (k := 18) rfl rfl ?_
    refine x_cX (ci := 9) (k := 19) rfl (by rfl) (ca_post h hJ hB _ _ _ _ _) okX9_post viX9_post mlRL_36 ⟨Nat.le_of_ble_eq_true rfl, Nat.le_of_ble_eq_true rfl⟩ (by exact Nat.le_of_ble_eq_true rfl) rfl rfl h.1.1 (by exact Nat.le_of_ble_eq_true rfl) ?_
    intro r s1 q
    have e0 := q.1
    subst e0
    exact x_iret (k := 20) rfl rfl rfl (CallQ.e rfl q)
  · refine x_tableIn (tgt := 69) (k := 3) rfl (by decide) (by decide) rfl (by decide) ?_
    refine x_aload_n (k := 21) rfl rfl ?_
    refine x_iload_n (k := 22) rfl rfl ?_
    refine x_iload_n (k := 23) rfl rfl ?_
    refine x_iload_n (k := 24) rfl rfl ?_
    refine x_cX (ci := 9) (k := 25) rfl (by rfl) (ca_gave h hJ hB _ _ _) okX9_gave viX9_gave mlRL_40 ⟨Nat.le_of_ble_eq_true rfl, Nat.le_of_ble_eq_true rfl⟩ (by exact Nat.le_of_ble_eq_true rfl) rfl rfl h.1.1 (by exact Nat.le_of_ble_eq_true rfl) ?_
    intro r s1 q
    have e0 := q.1
    subst e0
    exact x_iret (k := 26) rfl rfl rfl (CallQ.e rfl q)
  · refine x_tableIn (tgt := 77) (k := 3) rfl (by decide) (by decide) rfl (by decide) ?_
    refine x_aload_n (k := 27) rfl rfl ?_
    refine x_iload_n (k := 28) rfl rfl ?_
    refine x_iload_n (k := 29) rfl rfl ?_
    refine x_iload_n (k := 30) rfl rfl ?_
    refine x_cX (ci := 9) (k := 31) rfl (by rfl) (ca_took h hJ hB _ _ _) okX9_took viX9_took mlRL_44 ⟨Nat.le_of_ble_eq_true rfl, Nat.le_of_ble_eq_true rfl⟩ (by exact Nat.le_of_ble_eq_true rfl) rfl rfl h.1.1 (by exact Nat.le_of_ble_eq_true rfl) ?_
    intro r s1 q
    have e0 := q.1
    subst e0
    exact x_iret (k := 32) rfl rfl rfl (CallQ.e rfl q)
  · refine x_tableIn (tgt := 85) (k := 3) rfl (by decide) (by decide) rfl (by decide) ?_
    refine x_aload_n (k := 33) rfl rfl ?_
    refine x_iload_n (k := 34) rfl rfl ?_
    refine x_iload_n (k := 35) rfl rfl ?_
    refine x_cX (ci := 9) (k := 36) rfl (by rfl) (ca_putIn h hJ hB _ _) okX9_putIn viX9_putIn mlRL_47 ⟨Nat.le_of_ble_eq_true rfl, Nat.le_of_ble_eq_true rfl⟩ (by exact Nat.le_of_ble_eq_true rfl) rfl rfl h.1.1 (by exact Nat.le_of_ble_eq_true rfl) ?_
    intro r s1 q
    have e0 := q.1
    subst e0
    exact x_iret (k := 37) rfl rfl rfl (CallQ.e rfl q)
  · refine x_tableIn (tgt := 92) (k := 3) rfl (by decide) (by decide) rfl (by decide) ?_
    refine x_aload_n (k := 38) rfl rfl ?_
    refine x_iload_n (k := 39) rfl rfl ?_
    refine x_iload_n (k := 40) rfl rfl ?_
    refine x_cX (ci := 9) (k := 41) rfl (by rfl) (ca_fetch h hJ hB _ _) okX9_fetch viX9_fetch mlRL_50 ⟨Nat.le_of_ble_eq_true rfl, Nat.le_of_ble_eq_true rfl⟩ (by exact Nat.le_of_ble_eq_true rfl) rfl rfl h.1.1 (by exact Nat.le_of_ble_eq_true rfl) ?_
    intro r s1 q
    have e0 := q.1
    subst e0
    exact x_iret (k := 42) rfl rfl rfl (CallQ.e rfl q)
  · refine x_tableIn (tgt := 99) (k := 3) rfl (by decide) (by decide) rfl (by decide) ?_
    refine x_aload_n (k := 43) rfl rfl ?_
    refine x_iload_n (k := 44) rfl rfl ?_
    refine x_cX (ci := 9) (k := 45) rfl (by rfl) (ca_pass h hJ hB _) okX9_pass viX9_pass mlRL_53 ⟨Nat.le_of_ble_eq_true rfl, Nat.le_of_ble_eq_true rfl⟩ (by exact Nat.le_of_ble_eq_true rfl) rfl rfl h.1.1 (by exact Nat.le_of_ble_eq_true rfl) ?_
    intro r s1 q
    have e0 := q.1
    subst e0
    exact x_iret (k := 46) rfl rfl rfl (CallQ.e rfl q)
  · refine x_tableOut (tgt := 105) (k := 3) rfl (by decide) (by decide) ?_
    refine x_aload_n (k := 47) rfl rfl ?_
    refine x_iload_n (k := 48) rfl rfl ?_
    refine x_cX (ci := 9) (k := 49) rfl (by rfl) (ca_claim h hJ hB _) okX9_claim viX9_claim mlRL_56 ⟨Nat.le_of_ble_eq_true rfl, Nat.le_of_ble_eq_true rfl⟩ (by exact Nat.le_of_ble_eq_true rfl) rfl rfl h.1.1 (by exact Nat.le_of_ble_eq_true rfl) ?_
    intro r s1 q
    have e0 := q.1
    subst e0
    exact x_iret (k := 50) rfl rfl rfl (CallQ.e rfl q)
theorem c_turn (h : Ob G t own a D) (hJ : IvD B D) (hB : B < 512) {w : Nat} (hw : w < 16) (x y : Int32) : xMe G ML_turn [.ref a, .int (nI w), .int x, .int y] t (CallQ G t own a D (sTurn D.1.1 w x y)) := by
  have hK1 := h.hK.1
  have hpk : tPk D.1.1 x < cK D.1.1 + 1 := sUp_lt (Nat.succ_pos _)
  have hot : tOt y < 8 := sUp_lt (by decide)
  refine x_iload_n (k := 0) rfl rfl ?_
  refine x_aload_n (k := 1) rfl rfl ?_
  refine x_iconst (v := 5) (k := 2) rfl (by decide) ?_
  refine x_cVI (ci := 9) (k := 3) rfl (by rfl) (g_c5 h) okX9_count viX9_count mlRL_13 ⟨Nat.le_of_ble_eq_true rfl, Nat.le_of_ble_eq_true rfl⟩ (by exact Nat.le_of_ble_eq_true rfl) rfl rfl h.1.1 (by exact Nat.le_of_ble_eq_true rfl) ?_
  refine x_iconst (v := 1) (k := 4) rfl (by decide) ?_
  refine x_iadd (k := 5) rfl ?_
  rw [nI_1]
  refine x_sD (k := 6) rfl (by rfl) (c_up (m := cK D.1.1 + 1) (Nat.succ_pos _) (by omega)) okL_up viL_up mlRL_59 ⟨Nat.le_of_ble_eq_true rfl, Nat.le_of_ble_eq_true rfl⟩ (by exact Nat.le_of_ble_eq_true rfl) rfl (by exact Nat.le_of_ble_eq_true rfl) ?_
  refine x_istore (k := 7) rfl (by decide) ?_
  refine x_aload_n (k := 8) rfl rfl ?_
  refine x_iload (k := 9) rfl rfl ?_
  refine x_bipush (v := 6) (k := 10) rfl (by decide) ?_
  refine x_cVI (ci := 9) (k := 11) rfl (by rfl) (g_parcel h hJ (k := tPk D.1.1 x) (q := 6) (by omega) (by decide)) okX9_parcel viX9_parcel mlRL_26 ⟨Nat.le_of_ble_eq_true rfl, Nat.le_of_ble_eq_true rfl⟩ (by exact Nat.le_of_ble_eq_true rfl) rfl rfl h.1.1 (by exact Nat.le_of_ble_eq_true rfl) ?_
  refine x_istore (k := 12) rfl (by decide) ?_
  refine x_iload_n (k := 13) rfl rfl ?_
  refine x_bipush (v := 8) (k := 14) rfl (by decide) ?_
  refine x_sD (k := 15) rfl (by rfl) (c_up (m := 8) (by decide) (by decide)) okL_up viL_up mlRL_59 ⟨Nat.le_of_ble_eq_true rfl, Nat.le_of_ble_eq_true rfl⟩ (by exact Nat.le_of_ble_eq_true rfl) rfl (by exact Nat.le_of_ble_eq_true rfl) ?_
  refine x_istore (k := 16) rfl (by decide) ?_
  refine x_iload_n (k := 17) rfl rfl ?_
  rcases (by omega : w = 0 ∨ w = 1 ∨ w = 2 ∨ w = 3 ∨ w = 4 ∨ w = 5 ∨ w = 6 ∨ w = 7 ∨ w = 8 ∨ w = 9 ∨ w = 10 ∨ w = 11 ∨ w = 12 ∨ w = 13 ∨ w = 14 ∨ w = 15) with rfl | rfl | rfl | rfl | rfl | rfl | rfl | rfl | rfl | rfl | rfl | rfl | rfl | rfl | rfl | rfl
  · refine x_tableIn (tgt := 108) (k := 18) rfl (by decide) (by decide) rfl (by decide) ?_
    refine x_aload_n (k := 19) rfl rfl ?_
    refine x_iload (k := 20) rfl rfl ?_
    refine x_aload_n (k := 21) rfl rfl ?_
    refine x_iload (k := 22) rfl rfl ?_
    refine x_iconst (v := 2) (k := 23) rfl (by decide) ?_
    refine x_cVI (ci := 9) (k := 24) rfl (by rfl) (c_person h (p := tOt y) (q := 2) hot (by decide)) okX9_person viX9_person mlRL_19 ⟨Nat.le_of_ble_eq_true rfl, Nat.le_of_ble_eq_true rfl⟩ (by exact Nat.le_of_ble_eq_true rfl) rfl rfl h.1.1 (by exact Nat.le_of_ble_eq_true rfl) ?_
    refine x_if_ge (tgt := 130) (k := 25) rfl (by decide) (fun c118 => ?_) (fun c118 => ?_)
    · refine x_aload_n (k := 30) rfl rfl ?_
      refine x_iload (k := 31) rfl rfl ?_
      refine x_iconst (v := 2) (k := 32) rfl (by decide) ?_
      refine x_cVI (ci := 9) (k := 33) rfl (by rfl) (c_person h (p := tOt y) (q := 2) hot (by decide)) okX9_person viX9_person mlRL_19 ⟨Nat.le_of_ble_eq_true rfl, Nat.le_of_ble_eq_true rfl⟩ (by exact Nat.le_of_ble_eq_true rfl) rfl rfl h.1.1 (by exact Nat.le_of_ble_eq_true rfl) ?_
      refine x_iload_n (k := 34) rfl rfl ?_
      refine x_iconst (v := 3) (k := 35) rfl (by decide) ?_
      refine x_ishr (k := 36) rfl ?_
      refine x_bipush (v := 6) (k := 37) rfl (by decide) ?_
      refine x_sD (k := 38) rfl (by rfl) (c_up (m := 6) (by decide) (by decide)) okL_up viL_up mlRL_59 ⟨Nat.le_of_ble_eq_true rfl, Nat.le_of_ble_eq_true rfl⟩ (by exact Nat.le_of_ble_eq_true rfl) rfl (by exact Nat.le_of_ble_eq_true rfl) ?_
      refine x_iconst (v := 1) (k := 39) rfl (by decide) ?_
      refine x_iload_n (k := 40) rfl rfl ?_
      refine x_bipush (v := 6) (k := 41) rfl (by decide) ?_
      refine x_ishr (k := 42) rfl ?_
      refine x_iconst (v := 4) (k := 43) rfl (by decide) ?_
      refine x_sD (k := 44) rfl (by rfl) (c_up (m := 4) (by decide) (by decide)) okL_up viL_up mlRL_59 ⟨Nat.le_of_ble_eq_true rfl, Nat.le_of_ble_eq_true rfl⟩ (by exact Nat.le_of_ble_eq_true rfl) rfl (by exact Nat.le_of_ble_eq_true rfl) ?_
      refine x_iadd (k := 45) rfl ?_
      refine x_iconst (v := 1) (k := 46) rfl (by decide) ?_
      refine x_iload_n (k := 47) rfl rfl ?_
      refine x_bipush (v := 8) (k := 48) rfl (by decide) ?_
      refine x_ishr (k := 49) rfl ?_
      refine x_iconst (v := 5) (k := 50) rfl (by decide) ?_
      refine x_sD (k := 51) rfl (by rfl) (c_up (m := 5) (by decide) (by decide)) okL_up viL_up mlRL_59 ⟨Nat.le_of_ble_eq_true rfl, Nat.le_of_ble_eq_true rfl⟩ (by exact Nat.le_of_ble_eq_true rfl) rfl (by exact Nat.le_of_ble_eq_true rfl) ?_
      refine x_iadd (k := 52) rfl ?_
      refine x_iload_n (k := 53) rfl rfl ?_
      refine x_bipush (v := 11) (k := 54) rfl (by decide) ?_
      refine x_ishr (k := 55) rfl ?_
      refine x_bipush (v := 30) (k := 56) rfl (by decide) ?_
      refine x_sD (k := 57) rfl (by rfl) (c_up (m := 30) (by decide) (by decide)) okL_up viL_up mlRL_59 ⟨Nat.le_of_ble_eq_true rfl, Nat.le_of_ble_eq_true rfl⟩ (by exact Nat.le_of_ble_eq_true rfl) rfl (by exact Nat.le_of_ble_eq_true rfl) ?_
      refine x_cX (ci := 9) (k := 58) rfl (by rfl) (ca_offer h hJ hB _ _ _ _ _ _) okX9_offer viX9_offer mlRL_32 ⟨Nat.le_of_ble_eq_true rfl, Nat.le_of_ble_eq_true rfl⟩ (by exact Nat.le_of_ble_eq_true rfl) rfl rfl h.1.1 (by exact Nat.le_of_ble_eq_true rfl) ?_
      intro r s1 q
      have e0 := q.1
      subst e0
      exact x_iret (k := 59) rfl rfl rfl (CallQ.e (by show tOf _ _ _ = _; unfold tOf; first | (rw [if_neg (Int32.not_lt.mpr c118)]; try rfl) | (rw [if_pos (Int32.not_le.mp c118)]; try rfl)) q)
    · refine x_iload_n (k := 26) rfl rfl ?_
      refine x_bipush (v := 6) (k := 27) rfl (by decide) ?_
      refine x_sD (k := 28) rfl (by rfl) (c_up (m := 6) (by decide) (by decide)) okL_up viL_up mlRL_59 ⟨Nat.le_of_ble_eq_true rfl, Nat.le_of_ble_eq_true rfl⟩ (by exact Nat.le_of_ble_eq_true rfl) rfl (by exact Nat.le_of_ble_eq_true rfl) ?_
      refine x_goto (tgt := 137) (k := 29) rfl (by decide) ?_
      refine x_iload_n (k := 34) rfl rfl ?_
      refine x_iconst (v := 3) (k := 35) rfl (by decide) ?_
      refine x_ishr (k := 36) rfl ?_
      refine x_bipush (v := 6) (k := 37) rfl (by decide) ?_
      refine x_sD (k := 38) rfl (by rfl) (c_up (m := 6) (by decide) (by decide)) okL_up viL_up mlRL_59 ⟨Nat.le_of_ble_eq_true rfl, Nat.le_of_ble_eq_true rfl⟩ (by exact Nat.le_of_ble_eq_true rfl) rfl (by exact Nat.le_of_ble_eq_true rfl) ?_
      refine x_iconst (v := 1) (k := 39) rfl (by decide) ?_
      refine x_iload_n (k := 40) rfl rfl ?_
      refine x_bipush (v := 6) (k := 41) rfl (by decide) ?_
      refine x_ishr (k := 42) rfl ?_
      refine x_iconst (v := 4) (k := 43) rfl (by decide) ?_
      refine x_sD (k := 44) rfl (by rfl) (c_up (m := 4) (by decide) (by decide)) okL_up viL_up mlRL_59 ⟨Nat.le_of_ble_eq_true rfl, Nat.le_of_ble_eq_true rfl⟩ (by exact Nat.le_of_ble_eq_true rfl) rfl (by exact Nat.le_of_ble_eq_true rfl) ?_
      refine x_iadd (k := 45) rfl ?_
      refine x_iconst (v := 1) (k := 46) rfl (by decide) ?_
      refine x_iload_n (k := 47) rfl rfl ?_
      refine x_bipush (v := 8) (k := 48) rfl (by decide) ?_
      refine x_ishr (k := 49) rfl ?_
      refine x_iconst (v := 5) (k := 50) rfl (by decide) ?_
      refine x_sD (k := 51) rfl (by rfl) (c_up (m := 5) (by decide) (by decide)) okL_up viL_up mlRL_59 ⟨Nat.le_of_ble_eq_true rfl, Nat.le_of_ble_eq_true rfl⟩ (by exact Nat.le_of_ble_eq_true rfl) rfl (by exact Nat.le_of_ble_eq_true rfl) ?_
      refine x_iadd (k := 52) rfl ?_
      refine x_iload_n (k := 53) rfl rfl ?_
      refine x_bipush (v := 11) (k := 54) rfl (by decide) ?_
      refine x_ishr (k := 55) rfl ?_
      refine x_bipush (v := 30) (k := 56) rfl (by decide) ?_
      refine x_sD (k := 57) rfl (by rfl) (c_up (m := 30) (by decide) (by decide)) okL_up viL_up mlRL_59 ⟨Nat.le_of_ble_eq_true rfl, Nat.le_of_ble_eq_true rfl⟩ (by exact Nat.le_of_ble_eq_true rfl) rfl (by exact Nat.le_of_ble_eq_true rfl) ?_
      refine x_cX (ci := 9) (k := 58) rfl (by rfl) (ca_offer h hJ hB _ _ _ _ _ _) okX9_offer viX9_offer mlRL_32 ⟨Nat.le_of_ble_eq_true rfl, Nat.le_of_ble_eq_true rfl⟩ (by exact Nat.le_of_ble_eq_true rfl) rfl rfl h.1.1 (by exact Nat.le_of_ble_eq_true rfl) ?_
      intro r s1 q
      have e0 := q.1
      subst e0
      exact x_iret (k := 59) rfl rfl rfl (CallQ.e (by show tOf _ _ _ = _; unfold tOf; first | (rw [if_neg (Int32.not_lt.mpr c118)]; try rfl) | (rw [if_pos (Int32.not_le.mp c118)]; try rfl)) q)
  · refine x_tableIn (tgt := 108) (k := 18) rfl (by decide) (by decide) rfl (by decide) ?_
    refine x_aload_n (k := 19) rfl rfl ?_
    refine x_iload (k := 20) rfl rfl ?_
    refine x_aload_n (k := 21) rfl rfl ?_
    refine x_iload (k := 22) rfl rfl ?_
    refine x_iconst (v := 2) (k := 23) rfl (by decide) ?_
    refine x_cVI (ci := 9) (k := 24) rfl (by rfl) (c_person h (p := tOt y) (q := 2) hot (by decide)) okX9_person viX9_person mlRL_19 ⟨Nat.le_of_ble_eq_true rfl, Nat.le_of_ble_eq_true rfl⟩ (by exact Nat.le_of_ble_eq_true rfl) rfl rfl h.1.1 (by exact Nat.le_of_ble_eq_true rfl) ?_
    refine x_if_ge (tgt := 130) (k := 25) rfl (by decide) (fun c118 => ?_) (fun c118 => ?_)
    · refine x_aload_n (k := 30) rfl rfl ?_
      refine x_iload (k := 31) rfl rfl ?_
      refine x_iconst (v := 2) (k := 32) rfl (by decide) ?_
      refine x_cVI (ci := 9) (k := 33) rfl (by rfl) (c_person h (p := tOt y) (q := 2) hot (by decide)) okX9_person viX9_person mlRL_19 ⟨Nat.le_of_ble_eq_true rfl, Nat.le_of_ble_eq_true rfl⟩ (by exact Nat.le_of_ble_eq_true rfl) rfl rfl h.1.1 (by exact Nat.le_of_ble_eq_true rfl) ?_
      refine x_iload_n (k := 34) rfl rfl ?_
      refine x_iconst (v := 3) (k := 35) rfl (by decide) ?_
      refine x_ishr (k := 36) rfl ?_
      refine x_bipush (v := 6) (k := 37) rfl (by decide) ?_
      refine x_sD (k := 38) rfl (by rfl) (c_up (m := 6) (by decide) (by decide)) okL_up viL_up mlRL_59 ⟨Nat.le_of_ble_eq_true rfl, Nat.le_of_ble_eq_true rfl⟩ (by exact Nat.le_of_ble_eq_true rfl) rfl (by exact Nat.le_of_ble_eq_true rfl) ?_
      refine x_iconst (v := 1) (k := 39) rfl (by decide) ?_
      refine x_iload_n (k := 40) rfl rfl ?_
      refine x_bipush (v := 6) (k := 41) rfl (by decide) ?_
      refine x_ishr (k := 42) rfl ?_
      refine x_iconst (v := 4) (k := 43) rfl (by decide) ?_
      refine x_sD (k := 44) rfl (by rfl) (c_up (m := 4) (by decide) (by decide)) okL_up viL_up mlRL_59 ⟨Nat.le_of_ble_eq_true rfl, Nat.le_of_ble_eq_true rfl⟩ (by exact Nat.le_of_ble_eq_true rfl) rfl (by exact Nat.le_of_ble_eq_true rfl) ?_
      refine x_iadd (k := 45) rfl ?_
      refine x_iconst (v := 1) (k := 46) rfl (by decide) ?_
      refine x_iload_n (k := 47) rfl rfl ?_
      refine x_bipush (v := 8) (k := 48) rfl (by decide) ?_
      refine x_ishr (k := 49) rfl ?_
      refine x_iconst (v := 5) (k := 50) rfl (by decide) ?_
      refine x_sD (k := 51) rfl (by rfl) (c_up (m := 5) (by decide) (by decide)) okL_up viL_up mlRL_59 ⟨Nat.le_of_ble_eq_true rfl, Nat.le_of_ble_eq_true rfl⟩ (by exact Nat.le_of_ble_eq_true rfl) rfl (by exact Nat.le_of_ble_eq_true rfl) ?_
      refine x_iadd (k := 52) rfl ?_
      refine x_iload_n (k := 53) rfl rfl ?_
      refine x_bipush (v := 11) (k := 54) rfl (by decide) ?_
      refine x_ishr (k := 55) rfl ?_
      refine x_bipush (v := 30) (k := 56) rfl (by decide) ?_
      refine x_sD (k := 57) rfl (by rfl) (c_up (m := 30) (by decide) (by decide)) okL_up viL_up mlRL_59 ⟨Nat.le_of_ble_eq_true rfl, Nat.le_of_ble_eq_true rfl⟩ (by exact Nat.le_of_ble_eq_true rfl) rfl (by exact Nat.le_of_ble_eq_true rfl) ?_
      refine x_cX (ci := 9) (k := 58) rfl (by rfl) (ca_offer h hJ hB _ _ _ _ _ _) okX9_offer viX9_offer mlRL_32 ⟨Nat.le_of_ble_eq_true rfl, Nat.le_of_ble_eq_true rfl⟩ (by exact Nat.le_of_ble_eq_true rfl) rfl rfl h.1.1 (by exact Nat.le_of_ble_eq_true rfl) ?_
      intro r s1 q
      have e0 := q.1
      subst e0
      exact x_iret (k := 59) rfl rfl rfl (CallQ.e (by show tOf _ _ _ = _; unfold tOf; first | (rw [if_neg (Int32.not_lt.mpr c118)]; try rfl) | (rw [if_pos (Int32.not_le.mp c118)]; try rfl)) q)
    · refine x_iload_n (k := 26) rfl rfl ?_
      refine x_bipush (v := 6) (k := 27) rfl (by decide) ?_
      refine x_sD (k := 28) rfl (by rfl) (c_up (m := 6) (by decide) (by decide)) okL_up viL_up mlRL_59 ⟨Nat.le_of_ble_eq_true rfl, Nat.le_of_ble_eq_true rfl⟩ (by exact Nat.le_of_ble_eq_true rfl) rfl (by exact Nat.le_of_ble_eq_true rfl) ?_
      refine x_goto (tgt := 137) (k := 29) rfl (by decide) ?_
      refine x_iload_n (k := 34) rfl rfl ?_
      refine x_iconst (v := 3) (k := 35) rfl (by decide) ?_
      refine x_ishr (k := 36) rfl ?_
      refine x_bipush (v := 6) (k := 37) rfl (by decide) ?_
      refine x_sD (k := 38) rfl (by rfl) (c_up (m := 6) (by decide) (by decide)) okL_up viL_up mlRL_59 ⟨Nat.le_of_ble_eq_true rfl, Nat.le_of_ble_eq_true rfl⟩ (by exact Nat.le_of_ble_eq_true rfl) rfl (by exact Nat.le_of_ble_eq_true rfl) ?_
      refine x_iconst (v := 1) (k := 39) rfl (by decide) ?_
      refine x_iload_n (k := 40) rfl rfl ?_
      refine x_bipush (v := 6) (k := 41) rfl (by decide) ?_
      refine x_ishr (k := 42) rfl ?_
      refine x_iconst (v := 4) (k := 43) rfl (by decide) ?_
      refine x_sD (k := 44) rfl (by rfl) (c_up (m := 4) (by decide) (by decide)) okL_up viL_up mlRL_59 ⟨Nat.le_of_ble_eq_true rfl, Nat.le_of_ble_eq_true rfl⟩ (by exact Nat.le_of_ble_eq_true rfl) rfl (by exact Nat.le_of_ble_eq_true rfl) ?_
      refine x_iadd (k := 45) rfl ?_
      refine x_iconst (v := 1) (k := 46) rfl (by decide) ?_
      refine x_iload_n (k := 47) rfl rfl ?_
      refine x_bipush (v := 8) (k := 48) rfl (by decide) ?_
      refine x_ishr (k := 49) rfl ?_
      refine x_iconst (v := 5) (k := 50) rfl (by decide) ?_
      refine x_sD (k := 51) rfl (by rfl) (c_up (m := 5) (by decide) (by decide)) okL_up viL_up mlRL_59 ⟨Nat.le_of_ble_eq_true rfl, Nat.le_of_ble_eq_true rfl⟩ (by exact Nat.le_of_ble_eq_true rfl) rfl (by exact Nat.le_of_ble_eq_true rfl) ?_
      refine x_iadd (k := 52) rfl ?_
      refine x_iload_n (k := 53) rfl rfl ?_
      refine x_bipush (v := 11) (k := 54) rfl (by decide) ?_
      refine x_ishr (k := 55) rfl ?_
      refine x_bipush (v := 30) (k := 56) rfl (by decide) ?_
      refine x_sD (k := 57) rfl (by rfl) (c_up (m := 30) (by decide) (by decide)) okL_up viL_up mlRL_59 ⟨Nat.le_of_ble_eq_true rfl, Nat.le_of_ble_eq_true rfl⟩ (by exact Nat.le_of_ble_eq_true rfl) rfl (by exact Nat.le_of_ble_eq_true rfl) ?_
      refine x_cX (ci := 9) (k := 58) rfl (by rfl) (ca_offer h hJ hB _ _ _ _ _ _) okX9_offer viX9_offer mlRL_32 ⟨Nat.le_of_ble_eq_true rfl, Nat.le_of_ble_eq_true rfl⟩ (by exact Nat.le_of_ble_eq_true rfl) rfl rfl h.1.1 (by exact Nat.le_of_ble_eq_true rfl) ?_
      intro r s1 q
      have e0 := q.1
      subst e0
      exact x_iret (k := 59) rfl rfl rfl (CallQ.e (by show tOf _ _ _ = _; unfold tOf; first | (rw [if_neg (Int32.not_lt.mpr c118)]; try rfl) | (rw [if_pos (Int32.not_le.mp c118)]; try rfl)) q)
  · refine x_tableIn (tgt := 178) (k := 18) rfl (by decide) (by decide) rfl (by decide) ?_
    refine x_aload_n (k := 60) rfl rfl ?_
    refine x_iload (k := 61) rfl rfl ?_
    refine x_iload_n (k := 62) rfl rfl ?_
    refine x_iconst (v := 3) (k := 63) rfl (by decide) ?_
    refine x_ishr (k := 64) rfl ?_
    refine x_bipush (v := 8) (k := 65) rfl (by decide) ?_
    refine x_sD (k := 66) rfl (by rfl) (c_up (m := 8) (by decide) (by decide)) okL_up viL_up mlRL_59 ⟨Nat.le_of_ble_eq_true rfl, Nat.le_of_ble_eq_true rfl⟩ (by exact Nat.le_of_ble_eq_true rfl) rfl (by exact Nat.le_of_ble_eq_true rfl) ?_
    refine x_iload_n (k := 67) rfl rfl ?_
    refine x_bipush (v := 6) (k := 68) rfl (by decide) ?_
    refine x_ishr (k := 69) rfl ?_
    refine x_bipush (v := 6) (k := 70) rfl (by decide) ?_
    refine x_sD (k := 71) rfl (by rfl) (c_up (m := 6) (by decide) (by decide)) okL_up viL_up mlRL_59 ⟨Nat.le_of_ble_eq_true rfl, Nat.le_of_ble_eq_true rfl⟩ (by exact Nat.le_of_ble_eq_true rfl) rfl (by exact Nat.le_of_ble_eq_true rfl) ?_
    refine x_iconst (v := 1) (k := 72) rfl (by decide) ?_
    refine x_iload_n (k := 73) rfl rfl ?_
    refine x_bipush (v := 9) (k := 74) rfl (by decide) ?_
    refine x_ishr (k := 75) rfl ?_
    refine x_sipush (v := 300) (k := 76) rfl (by decide) ?_
    refine x_sD (k := 77) rfl (by rfl) (c_up (m := 300) (by decide) (by decide)) okL_up viL_up mlRL_59 ⟨Nat.le_of_ble_eq_true rfl, Nat.le_of_ble_eq_true rfl⟩ (by exact Nat.le_of_ble_eq_true rfl) rfl (by exact Nat.le_of_ble_eq_true rfl) ?_
    refine x_iadd (k := 78) rfl ?_
    refine x_iload_n (k := 79) rfl rfl ?_
    refine x_bipush (v := 18) (k := 80) rfl (by decide) ?_
    refine x_ishr (k := 81) rfl ?_
    refine x_iconst (v := 4) (k := 82) rfl (by decide) ?_
    refine x_sD (k := 83) rfl (by rfl) (c_up (m := 4) (by decide) (by decide)) okL_up viL_up mlRL_59 ⟨Nat.le_of_ble_eq_true rfl, Nat.le_of_ble_eq_true rfl⟩ (by exact Nat.le_of_ble_eq_true rfl) rfl (by exact Nat.le_of_ble_eq_true rfl) ?_
    refine x_cX (ci := 9) (k := 84) rfl (by rfl) (ca_post h hJ hB _ _ _ _ _) okX9_post viX9_post mlRL_36 ⟨Nat.le_of_ble_eq_true rfl, Nat.le_of_ble_eq_true rfl⟩ (by exact Nat.le_of_ble_eq_true rfl) rfl rfl h.1.1 (by exact Nat.le_of_ble_eq_true rfl) ?_
    intro r s1 q
    have e0 := q.1
    subst e0
    exact x_iret (k := 85) rfl rfl rfl (CallQ.e rfl q)
  · refine x_tableIn (tgt := 178) (k := 18) rfl (by decide) (by decide) rfl (by decide) ?_
    refine x_aload_n (k := 60) rfl rfl ?_
    refine x_iload (k := 61) rfl rfl ?_
    refine x_iload_n (k := 62) rfl rfl ?_
    refine x_iconst (v := 3) (k := 63) rfl (by decide) ?_
    refine x_ishr (k := 64) rfl ?_
    refine x_bipush (v := 8) (k := 65) rfl (by decide) ?_
    refine x_sD (k := 66) rfl (by rfl) (c_up (m := 8) (by decide) (by decide)) okL_up viL_up mlRL_59 ⟨Nat.le_of_ble_eq_true rfl, Nat.le_of_ble_eq_true rfl⟩ (by exact Nat.le_of_ble_eq_true rfl) rfl (by exact Nat.le_of_ble_eq_true rfl) ?_
    refine x_iload_n (k := 67) rfl rfl ?_
    refine x_bipush (v := 6) (k := 68) rfl (by decide) ?_
    refine x_ishr (k := 69) rfl ?_
    refine x_bipush (v := 6) (k := 70) rfl (by decide) ?_
    refine x_sD (k := 71) rfl (by rfl) (c_up (m := 6) (by decide) (by decide)) okL_up viL_up mlRL_59 ⟨Nat.le_of_ble_eq_true rfl, Nat.le_of_ble_eq_true rfl⟩ (by exact Nat.le_of_ble_eq_true rfl) rfl (by exact Nat.le_of_ble_eq_true rfl) ?_
    refine x_iconst (v := 1) (k := 72) rfl (by decide) ?_
    refine x_iload_n (k := 73) rfl rfl ?_
    refine x_bipush (v := 9) (k := 74) rfl (by decide) ?_
    refine x_ishr (k := 75) rfl ?_
    refine x_sipush (v := 300) (k := 76) rfl (by decide) ?_
    refine x_sD (k := 77) rfl (by rfl) (c_up (m := 300) (by decide) (by decide)) okL_up viL_up mlRL_59 ⟨Nat.le_of_ble_eq_true rfl, Nat.le_of_ble_eq_true rfl⟩ (by exact Nat.le_of_ble_eq_true rfl) rfl (by exact Nat.le_of_ble_eq_true rfl) ?_
    refine x_iadd (k := 78) rfl ?_
    refine x_iload_n (k := 79) rfl rfl ?_
    refine x_bipush (v := 18) (k := 80) rfl (by decide) ?_
    refine x_ishr (k := 81) rfl ?_
    refine x_iconst (v := 4) (k := 82) rfl (by decide) ?_
    refine x_sD (k := 83) rfl (by rfl) (c_up (m := 4) (by decide) (by decide)) okL_up viL_up mlRL_59 ⟨Nat.le_of_ble_eq_true rfl, Nat.le_of_ble_eq_true rfl⟩ (by exact Nat.le_of_ble_eq_true rfl) rfl (by exact Nat.le_of_ble_eq_true rfl) ?_
    refine x_cX (ci := 9) (k := 84) rfl (by rfl) (ca_post h hJ hB _ _ _ _ _) okX9_post viX9_post mlRL_36 ⟨Nat.le_of_ble_eq_true rfl, Nat.le_of_ble_eq_true rfl⟩ (by exact Nat.le_of_ble_eq_true rfl) rfl rfl h.1.1 (by exact Nat.le_of_ble_eq_true rfl) ?_
    intro r s1 q
    have e0 := q.1
    subst e0
    exact x_iret (k := 85) rfl rfl rfl (CallQ.e rfl q)
  · refine x_tableIn (tgt := 222) (k := 18) rfl (by decide) (by decide) rfl (by decide) ?_
    refine x_aload_n (k := 86) rfl rfl ?_
    refine x_iconst (v := 1) (k := 87) rfl (by decide) ?_
    refine x_iload_n (k := 88) rfl rfl ?_
    refine x_iload_n (k := 89) rfl rfl ?_
    refine x_bipush (v := 7) (k := 90) rfl (by decide) ?_
    refine x_iand (k := 91) rfl ?_
    refine x_if_ne (tgt := 237) (k := 92) rfl (by decide) (fun c229 => ?_) (fun c229 => ?_)
    · refine x_iconst (v := 2) (k := 95) rfl (by decide) ?_
      refine x_sD (k := 96) rfl (by rfl) (c_up (m := 2) (by decide) (by decide)) okL_up viL_up mlRL_59 ⟨Nat.le_of_ble_eq_true rfl, Nat.le_of_ble_eq_true rfl⟩ (by exact Nat.le_of_ble_eq_true rfl) rfl (by exact Nat.le_of_ble_eq_true rfl) ?_
      refine x_iadd (k := 97) rfl ?_
      refine x_cX (ci := 9) (k := 98) rfl (by rfl) (ca_pass h hJ hB _) okX9_pass viX9_pass mlRL_53 ⟨Nat.le_of_ble_eq_true rfl, Nat.le_of_ble_eq_true rfl⟩ (by exact Nat.le_of_ble_eq_true rfl) rfl rfl h.1.1 (by exact Nat.le_of_ble_eq_true rfl) ?_
      intro r s1 q
      have e0 := q.1
      subst e0
      exact x_iret (k := 99) rfl rfl rfl (CallQ.e (by show tPa _ _ = _; unfold tPa; first | (rw [if_neg c229]; try rfl) | (rw [if_pos c229]; try rfl)) q)
    · refine x_bipush (v := 12) (k := 93) rfl (by decide) ?_
      refine x_goto (tgt := 238) (k := 94) rfl (by decide) ?_
      refine x_sD (k := 96) rfl (by rfl) (c_up (m := 12) (by decide) (by decide)) okL_up viL_up mlRL_59 ⟨Nat.le_of_ble_eq_true rfl, Nat.le_of_ble_eq_true rfl⟩ (by exact Nat.le_of_ble_eq_true rfl) rfl (by exact Nat.le_of_ble_eq_true rfl) ?_
      refine x_iadd (k := 97) rfl ?_
      refine x_cX (ci := 9) (k := 98) rfl (by rfl) (ca_pass h hJ hB _) okX9_pass viX9_pass mlRL_53 ⟨Nat.le_of_ble_eq_true rfl, Nat.le_of_ble_eq_true rfl⟩ (by exact Nat.le_of_ble_eq_true rfl) rfl rfl h.1.1 (by exact Nat.le_of_ble_eq_true rfl) ?_
      intro r s1 q
      have e0 := q.1
      subst e0
      exact x_iret (k := 99) rfl rfl rfl (CallQ.e (by show tPa _ _ = _; unfold tPa; first | (rw [if_neg c229]; try rfl) | (rw [if_pos c229]; try rfl)) q)
  · refine x_tableIn (tgt := 246) (k := 18) rfl (by decide) (by decide) rfl (by decide) ?_
    refine x_aload_n (k := 100) rfl rfl ?_
    refine x_iload (k := 101) rfl rfl ?_
    refine x_iload (k := 102) rfl rfl ?_
    refine x_iload_n (k := 103) rfl rfl ?_
    refine x_sipush (v := 512) (k := 104) rfl (by decide) ?_
    refine x_iand (k := 105) rfl ?_
    refine x_if_ne (tgt := 264) (k := 106) rfl (by decide) (fun c256 => ?_) (fun c256 => ?_)
    · refine x_aload_n (k := 109) rfl rfl ?_
      refine x_iload (k := 110) rfl rfl ?_
      refine x_bipush (v := 9) (k := 111) rfl (by decide) ?_
      refine x_cVI (ci := 9) (k := 112) rfl (by rfl) (g_parcel h hJ (k := tPk D.1.1 x) (q := 9) (by omega) (by decide)) okX9_parcel viX9_parcel mlRL_26 ⟨Nat.le_of_ble_eq_true rfl, Nat.le_of_ble_eq_true rfl⟩ (by exact Nat.le_of_ble_eq_true rfl) rfl rfl h.1.1 (by exact Nat.le_of_ble_eq_true rfl) ?_
      refine x_cX (ci := 9) (k := 113) rfl (by rfl) (ca_gave h hJ hB _ _ _) okX9_gave viX9_gave mlRL_40 ⟨Nat.le_of_ble_eq_true rfl, Nat.le_of_ble_eq_true rfl⟩ (by exact Nat.le_of_ble_eq_true rfl) rfl rfl h.1.1 (by exact Nat.le_of_ble_eq_true rfl) ?_
      intro r s1 q
      have e0 := q.1
      subst e0
      exact x_iret (k := 114) rfl rfl rfl (CallQ.e (by show tGa _ _ _ = _; unfold tGa; first | (rw [if_neg c256]; try rfl) | (rw [if_pos c256]; try rfl)) q)
    · refine x_iload (k := 107) rfl rfl ?_
      refine x_goto (tgt := 272) (k := 108) rfl (by decide) ?_
      refine x_cX (ci := 9) (k := 113) rfl (by rfl) (ca_gave h hJ hB _ _ _) okX9_gave viX9_gave mlRL_40 ⟨Nat.le_of_ble_eq_true rfl, Nat.le_of_ble_eq_true rfl⟩ (by exact Nat.le_of_ble_eq_true rfl) rfl rfl h.1.1 (by exact Nat.le_of_ble_eq_true rfl) ?_
      intro r s1 q
      have e0 := q.1
      subst e0
      exact x_iret (k := 114) rfl rfl rfl (CallQ.e (by show tGa _ _ _ = _; unfold tGa; first | (rw [if_neg c256]; try rfl) | (rw [if_pos c256]; try rfl)) q)
  · refine x_tableIn (tgt := 246) (k := 18) rfl (by decide) (by decide) rfl (by decide) ?_
    refine x_aload_n (k := 100) rfl rfl ?_
    refine x_iload (k := 101) rfl rfl ?_
    refine x_iload (k := 102) rfl rfl ?_
    refine x_iload_n (k := 103) rfl rfl ?_
    refine x_sipush (v := 512) (k := 104) rfl (by decide) ?_
    refine x_iand (k := 105) rfl ?_
    refine x_if_ne (tgt := 264) (k := 106) rfl (by decide) (fun c256 => ?_) (fun c256 => ?_)
    · refine x_aload_n (k := 109) rfl rfl ?_
      refine x_iload (k := 110) rfl rfl ?_
      refine x_bipush (v := 9) (k := 111) rfl (by decide) ?_
      refine x_cVI (ci := 9) (k := 112) rfl (by rfl) (g_parcel h hJ (k := tPk D.1.1 x) (q := 9) (by omega) (by decide)) okX9_parcel viX9_parcel mlRL_26 ⟨Nat.le_of_ble_eq_true rfl, Nat.le_of_ble_eq_true rfl⟩ (by exact Nat.le_of_ble_eq_true rfl) rfl rfl h.1.1 (by exact Nat.le_of_ble_eq_true rfl) ?_
      refine x_cX (ci := 9) (k := 113) rfl (by rfl) (ca_gave h hJ hB _ _ _) okX9_gave viX9_gave mlRL_40 ⟨Nat.le_of_ble_eq_true rfl, Nat.le_of_ble_eq_true rfl⟩ (by exact Nat.le_of_ble_eq_true rfl) rfl rfl h.1.1 (by exact Nat.le_of_ble_eq_true rfl) ?_
      intro r s1 q
      have e0 := q.1
      subst e0
      exact x_iret (k := 114) rfl rfl rfl (CallQ.e (by show tGa _ _ _ = _; unfold tGa; first | (rw [if_neg c256]; try rfl) | (rw [if_pos c256]; try rfl)) q)
    · refine x_iload (k := 107) rfl rfl ?_
      refine x_goto (tgt := 272) (k := 108) rfl (by decide) ?_
      refine x_cX (ci := 9) (k := 113) rfl (by rfl) (ca_gave h hJ hB _ _ _) okX9_gave viX9_gave mlRL_40 ⟨Nat.le_of_ble_eq_true rfl, Nat.le_of_ble_eq_true rfl⟩ (by exact Nat.le_of_ble_eq_true rfl) rfl rfl h.1.1 (by exact Nat.le_of_ble_eq_true rfl) ?_
      intro r s1 q
      have e0 := q.1
      subst e0
      exact x_iret (k := 114) rfl rfl rfl (CallQ.e (by show tGa _ _ _ = _; unfold tGa; first | (rw [if_neg c256]; try rfl) | (rw [if_pos c256]; try rfl)) q)
  · refine x_tableIn (tgt := 276) (k := 18) rfl (by decide) (by decide) rfl (by decide) ?_
    refine x_aload_n (k := 115) rfl rfl ?_
    refine x_iload_n (k := 116) rfl rfl ?_
    refine x_sipush (v := 512) (k := 117) rfl (by decide) ?_
    refine x_iand (k := 118) rfl ?_
    refine x_if_ne (tgt := 290) (k := 119) rfl (by decide) (fun c282 => ?_) (fun c282 => ?_)
    · refine x_aload_n (k := 122) rfl rfl ?_
      refine x_iload (k := 123) rfl rfl ?_
      refine x_bipush (v := 8) (k := 124) rfl (by decide) ?_
      refine x_cVI (ci := 9) (k := 125) rfl (by rfl) (g_parcel h hJ (k := tPk D.1.1 x) (q := 8) (by omega) (by decide)) okX9_parcel viX9_parcel mlRL_26 ⟨Nat.le_of_ble_eq_true rfl, Nat.le_of_ble_eq_true rfl⟩ (by exact Nat.le_of_ble_eq_true rfl) rfl rfl h.1.1 (by exact Nat.le_of_ble_eq_true rfl) ?_
      refine x_iload (k := 126) rfl rfl ?_
      refine x_iload (k := 127) rfl rfl ?_
      refine x_cX (ci := 9) (k := 128) rfl (by rfl) (ca_took h hJ hB _ _ _) okX9_took viX9_took mlRL_44 ⟨Nat.le_of_ble_eq_true rfl, Nat.le_of_ble_eq_true rfl⟩ (by exact Nat.le_of_ble_eq_true rfl) rfl rfl h.1.1 (by exact Nat.le_of_ble_eq_true rfl) ?_
      intro r s1 q
      have e0 := q.1
      subst e0
      exact x_iret (k := 129) rfl rfl rfl (CallQ.e (by show tTo _ _ _ = _; unfold tTo; first | (rw [if_neg c282]; try rfl) | (rw [if_pos c282]; try rfl)) q)
    · refine x_iload (k := 120) rfl rfl ?_
      refine x_goto (tgt := 298) (k := 121) rfl (by decide) ?_
      refine x_iload (k := 126) rfl rfl ?_
      refine x_iload (k := 127) rfl rfl ?_
      refine x_cX (ci := 9) (k := 128) rfl (by rfl) (ca_took h hJ hB _ _ _) okX9_took viX9_took mlRL_44 ⟨Nat.le_of_ble_eq_true rfl, Nat.le_of_ble_eq_true rfl⟩ (by exact Nat.le_of_ble_eq_true rfl) rfl rfl h.1.1 (by exact Nat.le_of_ble_eq_true rfl) ?_
      intro r s1 q
      have e0 := q.1
      subst e0
      exact x_iret (k := 129) rfl rfl rfl (CallQ.e (by show tTo _ _ _ = _; unfold tTo; first | (rw [if_neg c282]; try rfl) | (rw [if_pos c282]; try rfl)) q)
  · refine x_tableIn (tgt := 276) (k := 18) rfl (by decide) (by decide) rfl (by decide) ?_
    refine x_aload_n (k := 115) rfl rfl ?_
    refine x_iload_n (k := 116) rfl rfl ?_
    refine x_sipush (v := 512) (k := 117) rfl (by decide) ?_
    refine x_iand (k := 118) rfl ?_
    refine x_if_ne (tgt := 290) (k := 119) rfl (by decide) (fun c282 => ?_) (fun c282 => ?_)
    · refine x_aload_n (k := 122) rfl rfl ?_
      refine x_iload (k := 123) rfl rfl ?_
      refine x_bipush (v := 8) (k := 124) rfl (by decide) ?_
      refine x_cVI (ci := 9) (k := 125) rfl (by rfl) (g_parcel h hJ (k := tPk D.1.1 x) (q := 8) (by omega) (by decide)) okX9_parcel viX9_parcel mlRL_26 ⟨Nat.le_of_ble_eq_true rfl, Nat.le_of_ble_eq_true rfl⟩ (by exact Nat.le_of_ble_eq_true rfl) rfl rfl h.1.1 (by exact Nat.le_of_ble_eq_true rfl) ?_
      refine x_iload (k := 126) rfl rfl ?_
      refine x_iload (k := 127) rfl rfl ?_
      refine x_cX (ci := 9) (k := 128) rfl (by rfl) (ca_took h hJ hB _ _ _) okX9_took viX9_took mlRL_44 ⟨Nat.le_of_ble_eq_true rfl, Nat.le_of_ble_eq_true rfl⟩ (by exact Nat.le_of_ble_eq_true rfl) rfl rfl h.1.1 (by exact Nat.le_of_ble_eq_true rfl) ?_
      intro r s1 q
      have e0 := q.1
      subst e0
      exact x_iret (k := 129) rfl rfl rfl (CallQ.e (by show tTo _ _ _ = _; unfold tTo; first | (rw [if_neg c282]; try rfl) | (rw [if_pos c282]; try rfl)) q)
    · refine x_iload (k := 120) rfl rfl ?_
      refine x_goto (tgt := 298) (k := 121) rfl (by decide) ?_
      refine x_iload (k := 126) rfl rfl ?_
      refine x_iload (k := 127) rfl rfl ?_
      refine x_cX (ci := 9) (k := 128) rfl (by rfl) (ca_took h hJ hB _ _ _) okX9_took viX9_took mlRL_44 ⟨Nat.le_of_ble_eq_true rfl, Nat.le_of_ble_eq_true rfl⟩ (by exact Nat.le_of_ble_eq_true rfl) rfl rfl h.1.1 (by exact Nat.le_of_ble_eq_true rfl) ?_
      intro r s1 q
      have e0 := q.1
      subst e0
      exact x_iret (k := 129) rfl rfl rfl (CallQ.e (by show tTo _ _ _ = _; unfold tTo; first | (rw [if_neg c282]; try rfl) | (rw [if_pos c282]; try rfl)) q)
  · refine x_tableIn (tgt := 306) (k := 18) rfl (by decide) (by decide) rfl (by decide) ?_
    refine x_aload_n (k := 130) rfl rfl ?_
    refine x_iload (k := 131) rfl rfl ?_
    refine x_iload (k := 132) rfl rfl ?_
    refine x_iload (k := 133) rfl rfl ?_
    refine x_bipush (v := 8) (k := 134) rfl (by decide) ?_
    refine x_irem (k := 135) rfl (by decide) ?_
    refine x_iconst (v := 2) (k := 136) rfl (by decide) ?_
    refine x_icmp_ge (tgt := 331) (k := 137) rfl (by decide) (fun c317 => ?_) (fun c317 => ?_)
    · refine x_iload (k := 144) rfl rfl ?_
      refine x_cX (ci := 9) (k := 145) rfl (by rfl) (ca_gave h hJ hB _ _ _) okX9_gave viX9_gave mlRL_40 ⟨Nat.le_of_ble_eq_true rfl, Nat.le_of_ble_eq_true rfl⟩ (by exact Nat.le_of_ble_eq_true rfl) rfl rfl h.1.1 (by exact Nat.le_of_ble_eq_true rfl) ?_
      intro r s1 q
      have e0 := q.1
      subst e0
      exact x_iret (k := 146) rfl rfl rfl (CallQ.e (by show tG9 _ _ _ = _; unfold tG9 t8 tH; first | (rw [if_neg (Int32.not_lt.mpr c317)]; try rfl) | (rw [if_pos (Int32.not_le.mp c317)]; try rfl)) q)
    · refine x_iload (k := 138) rfl rfl ?_
      refine x_bipush (v := 6) (k := 139) rfl (by decide) ?_
      refine x_iadd (k := 140) rfl ?_
      refine x_bipush (v := 8) (k := 141) rfl (by decide) ?_
      refine x_irem (k := 142) rfl (by decide) ?_
      refine x_goto (tgt := 333) (k := 143) rfl (by decide) ?_
      refine x_cX (ci := 9) (k := 145) rfl (by rfl) (ca_gave h hJ hB _ _ _) okX9_gave viX9_gave mlRL_40 ⟨Nat.le_of_ble_eq_true rfl, Nat.le_of_ble_eq_true rfl⟩ (by exact Nat.le_of_ble_eq_true rfl) rfl rfl h.1.1 (by exact Nat.le_of_ble_eq_true rfl) ?_
      intro r s1 q
      have e0 := q.1
      subst e0
      exact x_iret (k := 146) rfl rfl rfl (CallQ.e (by show tG9 _ _ _ = _; unfold tG9 t8 tH; first | (rw [if_neg (Int32.not_lt.mpr c317)]; try rfl) | (rw [if_pos (Int32.not_le.mp c317)]; try rfl)) q)
  · refine x_tableIn (tgt := 337) (k := 18) rfl (by decide) (by decide) rfl (by decide) ?_
    refine x_aload_n (k := 147) rfl rfl ?_
    refine x_iload (k := 148) rfl rfl ?_
    refine x_bipush (v := 6) (k := 149) rfl (by decide) ?_
    refine x_iadd (k := 150) rfl ?_
    refine x_bipush (v := 8) (k := 151) rfl (by decide) ?_
    refine x_irem (k := 152) rfl (by decide) ?_
    refine x_iload (k := 153) rfl rfl ?_
    refine x_iload (k := 154) rfl rfl ?_
    refine x_cX (ci := 9) (k := 155) rfl (by rfl) (ca_took h hJ hB _ _ _) okX9_took viX9_took mlRL_44 ⟨Nat.le_of_ble_eq_true rfl, Nat.le_of_ble_eq_true rfl⟩ (by exact Nat.le_of_ble_eq_true rfl) rfl rfl h.1.1 (by exact Nat.le_of_ble_eq_true rfl) ?_
    intro r s1 q
    have e0 := q.1
    subst e0
    exact x_iret (k := 156) rfl rfl rfl (CallQ.e rfl q)
  · refine x_tableIn (tgt := 354) (k := 18) rfl (by decide) (by decide) rfl (by decide) ?_
    refine x_aload_n (k := 157) rfl rfl ?_
    refine x_iload (k := 158) rfl rfl ?_
    refine x_iload (k := 159) rfl rfl ?_
    refine x_cX (ci := 9) (k := 160) rfl (by rfl) (ca_putIn h hJ hB _ _) okX9_putIn viX9_putIn mlRL_47 ⟨Nat.le_of_ble_eq_true rfl, Nat.le_of_ble_eq_true rfl⟩ (by exact Nat.le_of_ble_eq_true rfl) rfl rfl h.1.1 (by exact Nat.le_of_ble_eq_true rfl) ?_
    intro r s1 q
    have e0 := q.1
    subst e0
    exact x_iret (k := 161) rfl rfl rfl (CallQ.e rfl q)
  · refine x_tableIn (tgt := 363) (k := 18) rfl (by decide) (by decide) rfl (by decide) ?_
    refine x_aload_n (k := 162) rfl rfl ?_
    refine x_iload (k := 163) rfl rfl ?_
    refine x_iload (k := 164) rfl rfl ?_
    refine x_cX (ci := 9) (k := 165) rfl (by rfl) (ca_fetch h hJ hB _ _) okX9_fetch viX9_fetch mlRL_50 ⟨Nat.le_of_ble_eq_true rfl, Nat.le_of_ble_eq_true rfl⟩ (by exact Nat.le_of_ble_eq_true rfl) rfl rfl h.1.1 (by exact Nat.le_of_ble_eq_true rfl) ?_
    intro r s1 q
    have e0 := q.1
    subst e0
    exact x_iret (k := 166) rfl rfl rfl (CallQ.e rfl q)
  · refine x_tableIn (tgt := 372) (k := 18) rfl (by decide) (by decide) rfl (by decide) ?_
    refine x_aload_n (k := 167) rfl rfl ?_
    refine x_iload (k := 168) rfl rfl ?_
    refine x_cX (ci := 9) (k := 169) rfl (by rfl) (ca_claim h hJ hB _) okX9_claim viX9_claim mlRL_56 ⟨Nat.le_of_ble_eq_true rfl, Nat.le_of_ble_eq_true rfl⟩ (by exact Nat.le_of_ble_eq_true rfl) rfl rfl h.1.1 (by exact Nat.le_of_ble_eq_true rfl) ?_
    intro r s1 q
    have e0 := q.1
    subst e0
    exact x_iret (k := 170) rfl rfl rfl (CallQ.e rfl q)
  · refine x_tableIn (tgt := 379) (k := 18) rfl (by decide) (by decide) rfl (by decide) ?_
    refine x_iload_n (k := 171) rfl rfl ?_
    refine x_iconst (v := 1) (k := 172) rfl (by decide) ?_
    refine x_iand (k := 173) rfl ?_
    refine x_if_ne (tgt := 398) (k := 174) rfl (by decide) (fun c382 => ?_) (fun c382 => ?_)
    · refine x_aload_n (k := 181) rfl rfl ?_
      refine x_iload_n (k := 182) rfl rfl ?_
      refine x_iconst (v := 1) (k := 183) rfl (by decide) ?_
      refine x_iand (k := 184) rfl ?_
      refine x_cX (ci := 9) (k := 185) rfl (by rfl) (ca_restore h hJ hB _) okX9_restore viX9_restore mlRL_67 ⟨Nat.le_of_ble_eq_true rfl, Nat.le_of_ble_eq_true rfl⟩ (by exact Nat.le_of_ble_eq_true rfl) rfl rfl h.1.1 (by exact Nat.le_of_ble_eq_true rfl) ?_
      intro r s1 q
      have e0 := q.1
      subst e0
      exact x_iret (k := 186) rfl rfl rfl (CallQ.e (by show tBk _ _ = _; unfold tBk; first | (rw [if_neg c382]; try rfl) | (rw [if_pos c382]; try rfl)) q)
    · refine x_aload_n (k := 175) rfl rfl ?_
      refine x_iload_n (k := 176) rfl rfl ?_
      refine x_bipush (v := 8) (k := 177) rfl (by decide) ?_
      refine x_sD (k := 178) rfl (by rfl) (c_up (m := 8) (by decide) (by decide)) okL_up viL_up mlRL_59 ⟨Nat.le_of_ble_eq_true rfl, Nat.le_of_ble_eq_true rfl⟩ (by exact Nat.le_of_ble_eq_true rfl) rfl (by exact Nat.le_of_ble_eq_true rfl) ?_
      refine x_cX (ci := 9) (k := 179) rfl (by rfl) (ca_takeBack h hJ hB _) okX9_takeBack viX9_takeBack mlRL_64 ⟨Nat.le_of_ble_eq_true rfl, Nat.le_of_ble_eq_true rfl⟩ (by exact Nat.le_of_ble_eq_true rfl) rfl rfl h.1.1 (by exact Nat.le_of_ble_eq_true rfl) ?_
      intro r s1 q
      have e0 := q.1
      subst e0
      refine x_goto (tgt := 405) (k := 180) rfl (by decide) ?_
      exact x_iret (k := 186) rfl rfl rfl (CallQ.e (by show tBk _ _ = _; unfold tBk; first | (rw [if_neg c382]; try rfl) | (rw [if_pos c382]; try rfl)) q)
  · refine x_tableOut (tgt := 406) (k := 18) rfl (by decide) (by decide) ?_
    refine x_aload_n (k := 187) rfl rfl ?_
    refine x_iload_n (k := 188) rfl rfl ?_
    refine x_iload_n (k := 189) rfl rfl ?_
    refine x_sX (k := 190) rfl (by rfl) (c_any h hJ hB x y) okL_any viL_any mlRL_70 ⟨Nat.le_of_ble_eq_true rfl, Nat.le_of_ble_eq_true rfl⟩ (by exact Nat.le_of_ble_eq_true rfl) rfl (by exact Nat.le_of_ble_eq_true rfl) ?_
    intro r s1 q
    have e0 := q.1
    subst e0
    exact x_iret (k := 191) rfl rfl rfl (CallQ.e rfl q)
end TURN
