-- ===== the law's own methods: all that can be asked for, as a sum; who holds, as a sum =====
section VIEW
variable {G : xG} {t : xA} {own : Nat → Nat} {a B : Nat} {D : OD} {Q : Option Value → xA → Prop}
theorem fq_0 (g : Nat → Int64 → Int64) (v : Int64) : fq g v 0 = v := rfl
theorem JB.nums {W : Wd} (h : JB B W) : ∃ hr nt nk : Nat, (hr ≤ 500 ∧ nt ≤ 16 ∧ nk ≤ 10) ∧ W 3 0 0 = nI hr ∧ cT W = nt ∧ cK W = nk ∧ W 3 0 4 = nI nt ∧ W 3 0 5 = nI nk := by
  obtain ⟨hr, f, nt, nk, sz, j1, j2⟩ := h
  have g := j1.1.1
  exact ⟨hr, nt, nk, ⟨g.1.1, g.1.2.2.1, g.1.2.2.2⟩, g.2.1, j1.1.cT, j1.1.cK, g.2.2.2.1, g.2.2.2.2⟩
theorem g_num (h : Ob G t own a D) {q : Nat} (hq : q < 13) : xMe G MX9_count [.ref a, .int (nI q)] t (nuQ t (sNum D.1.1 q)) := by
  have k := c_count h (q := q) (by omega)
  have e : sCnt D q = sNum D.1.1 q := by
    rcases (by omega : q = 0 ∨ q = 1 ∨ q = 2 ∨ q = 3 ∨ q = 4 ∨ q = 5 ∨ q = 6 ∨ q = 7 ∨ q = 8 ∨ q = 9 ∨ q = 10 ∨ q = 11 ∨ q = 12) with rfl | rfl | rfl | rfl | rfl | rfl | rfl | rfl | rfl | rfl | rfl | rfl | rfl <;> rfl
  rw [e] at k
  exact k
theorem g_c0 (h : Ob G t own a D) {hr : Nat} (e : D.1.1 3 0 0 = nI hr) : xMe G MX9_count [.ref a, .int 0] t (nuQ t (nI hr)) := by
  have k := c_count h (q := 0) (by decide)
  rw [show sCnt D 0 = nI hr from e] at k
  exact k
theorem g_trip (h : Ob G t own a D) {n q : Nat} (hn : n < cT D.1.1) (hq : q < 7) : xMe G MX9_trip [.ref a, .int (nI n), .int (nI q)] t (nuQ t (D.1.1 1 n q)) := by
  have hT := h.hT
  have hT1 := hT.1
  exact c_trip h ⟨nI_pos (by omega), by rw [hT.2]; exact nI_ge hn (by omega)⟩ (by omega) hq
theorem g_hold (h : Ob G t own a D) {hr k x : Nat} (e : D.1.1 3 0 0 = nI hr) (h5 : hr ≤ 500) (hk : k < cK D.1.1) (hx : x ≤ hr) : xMe G MX9_holderAt [.ref a, .int (nI k), .int (nI x)] t (nuQ t (vwL D.1.1 k x)) := by
  have hK := h.hK
  have hK1 := hK.1
  exact c_holderAt h ⟨nI_pos (by omega), by rw [hK.2]; exact nI_ge hk (by omega)⟩ ⟨nI_pos (by omega), by rw [e]; exact nI_nlt hx (by omega)⟩
theorem g_par (h : Ob G t own a D) (hJ : IvD B D) {k q : Nat} (hk : k < cK D.1.1) (hq : q < 11) : xMe G MX9_parcel [.ref a, .int (nI k), .int (nI q)] t (nuQ t (sPar D.1.1 k q)) := by
  have hK1 := h.hK.1
  have g := g_parcel h hJ (k := k) (q := q) (by omega) hq
  unfold prA at g
  rw [if_pos hk] at g
  exact g

theorem l_vw1 (h : Ob G t own a D) (kk : xE G ML_view 31 [(0, .ref a), (1, .long (fo (sNum D.1.1) 7 13)), (3, .int (nI 13))] [] t Q) : ∀ d i, i + d = 13 → xE G ML_view 6 [(0, .ref a), (1, .long (fo (sNum D.1.1) 7 i)), (3, .int (nI i))] [] t Q
  | 0, i, hd => by
    obtain rfl : 13 = i := hd.symm
    refine x_iload_n (k := 4) rfl rfl ?_
    refine x_bipush (v := 13) (k := 5) rfl (by decide) ?_
    refine x_icmp_ge (tgt := 31) (k := 6) rfl (by decide) (fun c9 => ?_) (fun c9 => absurd (nI_le (a := 13) (b := 13) (by decide) (by decide)) c9)
    exact kk
  | d + 1, i, hd => by
    refine x_iload_n (k := 4) rfl rfl ?_
    refine x_bipush (v := 13) (k := 5) rfl (by decide) ?_
    refine x_icmp_ge (tgt := 31) (k := 6) rfl (by decide) (fun c9 => absurd c9 (nI_ge (a := i) (b := 13) (by omega) (by decide))) (fun c9 => ?_)
    refine x_ldc2 (k := 7) rfl klRL_11 ?_
    refine x_lload_n (k := 8) rfl rfl ?_
    refine x_lmul (k := 9) rfl ?_
    refine x_aload_n (k := 10) rfl rfl ?_
    refine x_iload_n (k := 11) rfl rfl ?_
    refine x_cVI (ci := 9) (k := 12) rfl (by rfl) (g_num h (q := i) (by omega)) okX9_count viX9_count mlRL_13 ⟨Nat.le_of_ble_eq_true rfl, Nat.le_of_ble_eq_true rfl⟩ (by exact Nat.le_of_ble_eq_true rfl) rfl rfl h.1.1 (by exact Nat.le_of_ble_eq_true rfl) ?_
    refine x_i2l (k := 13) rfl ?_
    refine x_ladd (k := 14) rfl ?_
    refine x_lstore_n (k := 15) rfl (by decide) ?_
    refine x_iinc (k := 16) rfl rfl (nI_1 i) (by decide) ?_
    refine x_goto (tgt := 6) (k := 17) rfl (by decide) ?_
    exact l_vw1 h kk d (i + 1) (by omega)
theorem l_vw2 (h : Ob G t own a D) {p : Nat} (hp : p < 8) {v : Int64} (kk : xE G ML_view 70 [(0, .ref a), (1, .long (fo (sPer D.1.1 p) v 6)), (3, .int (nI p)), (4, .int (nI 6))] [] t Q) : ∀ d i, i + d = 6 → xE G ML_view 42 [(0, .ref a), (1, .long (fo (sPer D.1.1 p) v i)), (3, .int (nI p)), (4, .int (nI i))] [] t Q
  | 0, i, hd => by
    obtain rfl : 6 = i := hd.symm
    refine x_iload (k := 25) rfl rfl ?_
    refine x_bipush (v := 6) (k := 26) rfl (by decide) ?_
    refine x_icmp_ge (tgt := 70) (k := 27) rfl (by decide) (fun c46 => ?_) (fun c46 => absurd (nI_le (a := 6) (b := 6) (by decide) (by decide)) c46)
    exact kk
  | d + 1, i, hd => by
    refine x_iload (k := 25) rfl rfl ?_
    refine x_bipush (v := 6) (k := 26) rfl (by decide) ?_
    refine x_icmp_ge (tgt := 70) (k := 27) rfl (by decide) (fun c46 => absurd c46 (nI_ge (a := i) (b := 6) (by omega) (by decide))) (fun c46 => ?_)
    refine x_ldc2 (k := 28) rfl klRL_11 ?_
    refine x_lload_n (k := 29) rfl rfl ?_
    refine x_lmul (k := 30) rfl ?_
    refine x_aload_n (k := 31) rfl rfl ?_
    refine x_iload_n (k := 32) rfl rfl ?_
    refine x_iload (k := 33) rfl rfl ?_
    refine x_cVI (ci := 9) (k := 34) rfl (by rfl) (c_person h (p := p) (q := i) hp (by omega)) okX9_person viX9_person mlRL_19 ⟨Nat.le_of_ble_eq_true rfl, Nat.le_of_ble_eq_true rfl⟩ (by exact Nat.le_of_ble_eq_true rfl) rfl rfl h.1.1 (by exact Nat.le_of_ble_eq_true rfl) ?_
    refine x_i2l (k := 35) rfl ?_
    refine x_ladd (k := 36) rfl ?_
    refine x_lstore_n (k := 37) rfl (by decide) ?_
    refine x_iinc (k := 38) rfl rfl (nI_1 i) (by decide) ?_
    refine x_goto (tgt := 42) (k := 39) rfl (by decide) ?_
    exact l_vw2 h hp kk d (i + 1) (by omega)
theorem l_vw3 (h : Ob G t own a D) {v : Int64} (kk : xE G ML_view 76 [(0, .ref a), (1, .long (fq (vwP D.1.1) v 8)), (3, .int (nI 8))] [] t Q) : ∀ d i, i + d = 8 → xE G ML_view 33 [(0, .ref a), (1, .long (fq (vwP D.1.1) v i)), (3, .int (nI i))] [] t Q
  | 0, i, hd => by
    obtain rfl : 8 = i := hd.symm
    refine x_iload_n (k := 20) rfl rfl ?_
    refine x_bipush (v := 8) (k := 21) rfl (by decide) ?_
    refine x_icmp_ge (tgt := 76) (k := 22) rfl (by decide) (fun c36 => ?_) (fun c36 => absurd (nI_le (a := 8) (b := 8) (by decide) (by decide)) c36)
    exact kk
  | d + 1, i, hd => by
    refine x_iload_n (k := 20) rfl rfl ?_
    refine x_bipush (v := 8) (k := 21) rfl (by decide) ?_
    refine x_icmp_ge (tgt := 76) (k := 22) rfl (by decide) (fun c36 => absurd c36 (nI_ge (a := i) (b := 8) (by omega) (by decide))) (fun c36 => ?_)
    refine x_iconst (v := 0) (k := 23) rfl (by decide) ?_
    refine x_istore (k := 24) rfl (by decide) ?_
    refine l_vw2 h (p := i) (by omega) ?_ 6 0 rfl
    refine x_sub (ls' := [(0, .ref a), (1, .long _), (3, .int (nI i))]) (by intro q hq; simp only [List.mem_cons, List.not_mem_nil, or_false] at hq; rcases hq with rfl | rfl | rfl <;> rfl) ?_
    refine x_iinc (k := 40) rfl rfl (nI_1 i) (by decide) ?_
    refine x_goto (tgt := 33) (k := 41) rfl (by decide) ?_
    exact l_vw3 h kk d (i + 1) (by omega)
theorem l_vw4 (h : Ob G t own a D) {n : Nat} (hn : n < cT D.1.1) {v : Int64} (kk : xE G ML_view 118 [(0, .ref a), (1, .long (fo (D.1.1 1 n) v 7)), (3, .int (nI n)), (4, .int (nI 7))] [] t Q) : ∀ d i, i + d = 7 → xE G ML_view 90 [(0, .ref a), (1, .long (fo (D.1.1 1 n) v i)), (3, .int (nI n)), (4, .int (nI i))] [] t Q
  | 0, i, hd => by
    obtain rfl : 7 = i := hd.symm
    refine x_iload (k := 51) rfl rfl ?_
    refine x_bipush (v := 7) (k := 52) rfl (by decide) ?_
    refine x_icmp_ge (tgt := 118) (k := 53) rfl (by decide) (fun c94 => ?_) (fun c94 => absurd (nI_le (a := 7) (b := 7) (by decide) (by decide)) c94)
    exact kk
  | d + 1, i, hd => by
    refine x_iload (k := 51) rfl rfl ?_
    refine x_bipush (v := 7) (k := 52) rfl (by decide) ?_
    refine x_icmp_ge (tgt := 118) (k := 53) rfl (by decide) (fun c94 => absurd c94 (nI_ge (a := i) (b := 7) (by omega) (by decide))) (fun c94 => ?_)
    refine x_ldc2 (k := 54) rfl klRL_11 ?_
    refine x_lload_n (k := 55) rfl rfl ?_
    refine x_lmul (k := 56) rfl ?_
    refine x_aload_n (k := 57) rfl rfl ?_
    refine x_iload_n (k := 58) rfl rfl ?_
    refine x_iload (k := 59) rfl rfl ?_
    refine x_cVI (ci := 9) (k := 60) rfl (by rfl) (g_trip h (n := n) (q := i) hn (by omega)) okX9_trip viX9_trip mlRL_23 ⟨Nat.le_of_ble_eq_true rfl, Nat.le_of_ble_eq_true rfl⟩ (by exact Nat.le_of_ble_eq_true rfl) rfl rfl h.1.1 (by exact Nat.le_of_ble_eq_true rfl) ?_
    refine x_i2l (k := 61) rfl ?_
    refine x_ladd (k := 62) rfl ?_
    refine x_lstore_n (k := 63) rfl (by decide) ?_
    refine x_iinc (k := 64) rfl rfl (nI_1 i) (by decide) ?_
    refine x_goto (tgt := 90) (k := 65) rfl (by decide) ?_
    exact l_vw4 h hn kk d (i + 1) (by omega)
theorem l_vw5 (h : Ob G t own a D) {v : Int64} (kk : xE G ML_view 124 [(0, .ref a), (1, .long (fq (vwT D.1.1) v (cT D.1.1))), (3, .int (nI (cT D.1.1)))] [] t Q) : ∀ d i, i + d = (cT D.1.1) → xE G ML_view 78 [(0, .ref a), (1, .long (fq (vwT D.1.1) v i)), (3, .int (nI i))] [] t Q
  | 0, i, hd => by
    obtain rfl : (cT D.1.1) = i := hd.symm
    refine x_iload_n (k := 44) rfl rfl ?_
    refine x_aload_n (k := 45) rfl rfl ?_
    refine x_iconst (v := 1) (k := 46) rfl (by decide) ?_
    refine x_cVI (ci := 9) (k := 47) rfl (by rfl) (g_c1 h) okX9_count viX9_count mlRL_13 ⟨Nat.le_of_ble_eq_true rfl, Nat.le_of_ble_eq_true rfl⟩ (by exact Nat.le_of_ble_eq_true rfl) rfl rfl h.1.1 (by exact Nat.le_of_ble_eq_true rfl) ?_
    refine x_icmp_ge (tgt := 124) (k := 48) rfl (by decide) (fun c84 => ?_) (fun c84 => absurd (nI_le (Nat.le_refl _) (by have := h.hT.1; omega)) c84)
    exact kk
  | d + 1, i, hd => by
    refine x_iload_n (k := 44) rfl rfl ?_
    refine x_aload_n (k := 45) rfl rfl ?_
    refine x_iconst (v := 1) (k := 46) rfl (by decide) ?_
    refine x_cVI (ci := 9) (k := 47) rfl (by rfl) (g_c1 h) okX9_count viX9_count mlRL_13 ⟨Nat.le_of_ble_eq_true rfl, Nat.le_of_ble_eq_true rfl⟩ (by exact Nat.le_of_ble_eq_true rfl) rfl rfl h.1.1 (by exact Nat.le_of_ble_eq_true rfl) ?_
    refine x_icmp_ge (tgt := 124) (k := 48) rfl (by decide) (fun c84 => absurd c84 (nI_ge (by omega) (by have := h.hT.1; omega))) (fun c84 => ?_)
    refine x_iconst (v := 0) (k := 49) rfl (by decide) ?_
    refine x_istore (k := 50) rfl (by decide) ?_
    refine l_vw4 h (n := i) (by omega) ?_ 7 0 rfl
    refine x_sub (ls' := [(0, .ref a), (1, .long _), (3, .int (nI i))]) (by intro q hq; simp only [List.mem_cons, List.not_mem_nil, or_false] at hq; rcases hq with rfl | rfl | rfl <;> rfl) ?_
    refine x_iinc (k := 66) rfl rfl (nI_1 i) (by decide) ?_
    refine x_goto (tgt := 78) (k := 67) rfl (by decide) ?_
    exact l_vw5 h kk d (i + 1) (by omega)
theorem l_vw6 (h : Ob G t own a D) (hJ : IvD B D) {n : Nat} (hn : n < cK D.1.1) {v : Int64} (kk : xE G ML_view 166 [(0, .ref a), (1, .long (fo (sPar D.1.1 n) v 11)), (3, .int (nI n)), (4, .int (nI 11))] [] t Q) : ∀ d i, i + d = 11 → xE G ML_view 138 [(0, .ref a), (1, .long (fo (sPar D.1.1 n) v i)), (3, .int (nI n)), (4, .int (nI i))] [] t Q
  | 0, i, hd => by
    obtain rfl : 11 = i := hd.symm
    refine x_iload (k := 77) rfl rfl ?_
    refine x_bipush (v := 11) (k := 78) rfl (by decide) ?_
    refine x_icmp_ge (tgt := 166) (k := 79) rfl (by decide) (fun c142 => ?_) (fun c142 => absurd (nI_le (a := 11) (b := 11) (by decide) (by decide)) c142)
    exact kk
  | d + 1, i, hd => by
    refine x_iload (k := 77) rfl rfl ?_
    refine x_bipush (v := 11) (k := 78) rfl (by decide) ?_
    refine x_icmp_ge (tgt := 166) (k := 79) rfl (by decide) (fun c142 => absurd c142 (nI_ge (a := i) (b := 11) (by omega) (by decide))) (fun c142 => ?_)
    refine x_ldc2 (k := 80) rfl klRL_11 ?_
    refine x_lload_n (k := 81) rfl rfl ?_
    refine x_lmul (k := 82) rfl ?_
    refine x_aload_n (k := 83) rfl rfl ?_
    refine x_iload_n (k := 84) rfl rfl ?_
    refine x_iload (k := 85) rfl rfl ?_
    refine x_cVI (ci := 9) (k := 86) rfl (by rfl) (g_par h hJ (k := n) (q := i) hn (by omega)) okX9_parcel viX9_parcel mlRL_26 ⟨Nat.le_of_ble_eq_true rfl, Nat.le_of_ble_eq_true rfl⟩ (by exact Nat.le_of_ble_eq_true rfl) rfl rfl h.1.1 (by exact Nat.le_of_ble_eq_true rfl) ?_
    refine x_i2l (k := 87) rfl ?_
    refine x_ladd (k := 88) rfl ?_
    refine x_lstore_n (k := 89) rfl (by decide) ?_
    refine x_iinc (k := 90) rfl rfl (nI_1 i) (by decide) ?_
    refine x_goto (tgt := 138) (k := 91) rfl (by decide) ?_
    exact l_vw6 h hJ hn kk d (i + 1) (by omega)
theorem l_vw7 (h : Ob G t own a D) {hr : Nat} (e0 : D.1.1 3 0 0 = nI hr) (h5 : hr ≤ 500) {n : Nat} (hn : n < cK D.1.1) {v : Int64} (kk : xE G ML_view 200 [(0, .ref a), (1, .long (fo (vwL D.1.1 n) v (hr + 1))), (3, .int (nI n)), (4, .int (nI (hr + 1)))] [] t Q) : ∀ d i, i + d = (hr + 1) → xE G ML_view 169 [(0, .ref a), (1, .long (fo (vwL D.1.1 n) v i)), (3, .int (nI n)), (4, .int (nI i))] [] t Q
  | 0, i, hd => by
    obtain rfl : (hr + 1) = i := hd.symm
    refine x_iload (k := 94) rfl rfl ?_
    refine x_aload_n (k := 95) rfl rfl ?_
    refine x_iconst (v := 0) (k := 96) rfl (by decide) ?_
    refine x_cVI (ci := 9) (k := 97) rfl (by rfl) (g_c0 h e0) okX9_count viX9_count mlRL_13 ⟨Nat.le_of_ble_eq_true rfl, Nat.le_of_ble_eq_true rfl⟩ (by exact Nat.le_of_ble_eq_true rfl) rfl rfl h.1.1 (by exact Nat.le_of_ble_eq_true rfl) ?_
    refine x_icmp_gt (tgt := 200) (k := 98) rfl (by decide) (fun c176 => ?_) (fun c176 => absurd (nI_lt (a := hr) (b := hr + 1) (by omega) (by omega)) c176)
    exact kk
  | d + 1, i, hd => by
    refine x_iload (k := 94) rfl rfl ?_
    refine x_aload_n (k := 95) rfl rfl ?_
    refine x_iconst (v := 0) (k := 96) rfl (by decide) ?_
    refine x_cVI (ci := 9) (k := 97) rfl (by rfl) (g_c0 h e0) okX9_count viX9_count mlRL_13 ⟨Nat.le_of_ble_eq_true rfl, Nat.le_of_ble_eq_true rfl⟩ (by exact Nat.le_of_ble_eq_true rfl) rfl rfl h.1.1 (by exact Nat.le_of_ble_eq_true rfl) ?_
    refine x_icmp_gt (tgt := 200) (k := 98) rfl (by decide) (fun c176 => absurd c176 (nI_nlt (a := hr) (b := i) (by omega) (by omega))) (fun c176 => ?_)
    refine x_ldc2 (k := 99) rfl klRL_11 ?_
    refine x_lload_n (k := 100) rfl rfl ?_
    refine x_lmul (k := 101) rfl ?_
    refine x_aload_n (k := 102) rfl rfl ?_
    refine x_iload_n (k := 103) rfl rfl ?_
    refine x_iload (k := 104) rfl rfl ?_
    refine x_cVI (ci := 9) (k := 105) rfl (by rfl) (g_hold h (x := i) e0 h5 hn (by omega)) okX9_holderAt viX9_holderAt mlRL_29 ⟨Nat.le_of_ble_eq_true rfl, Nat.le_of_ble_eq_true rfl⟩ (by exact Nat.le_of_ble_eq_true rfl) rfl rfl h.1.1 (by exact Nat.le_of_ble_eq_true rfl) ?_
    refine x_i2l (k := 106) rfl ?_
    refine x_ladd (k := 107) rfl ?_
    refine x_lstore_n (k := 108) rfl (by decide) ?_
    refine x_iinc (k := 109) rfl rfl (nI_1 i) (by decide) ?_
    refine x_goto (tgt := 169) (k := 110) rfl (by decide) ?_
    exact l_vw7 h e0 h5 hn kk d (i + 1) (by omega)
theorem l_vw8 (h : Ob G t own a D) (hJ : IvD B D) {hr : Nat} (e0 : D.1.1 3 0 0 = nI hr) (h5 : hr ≤ 500) {v : Int64} (kk : xE G ML_view 206 [(0, .ref a), (1, .long (fq (vwK D.1.1) v (cK D.1.1))), (3, .int (nI (cK D.1.1)))] [] t Q) : ∀ d i, i + d = (cK D.1.1) → xE G ML_view 126 [(0, .ref a), (1, .long (fq (vwK D.1.1) v i)), (3, .int (nI i))] [] t Q
  | 0, i, hd => by
    obtain rfl : (cK D.1.1) = i := hd.symm
    refine x_iload_n (k := 70) rfl rfl ?_
    refine x_aload_n (k := 71) rfl rfl ?_
    refine x_iconst (v := 5) (k := 72) rfl (by decide) ?_
    refine x_cVI (ci := 9) (k := 73) rfl (by rfl) (g_c5 h) okX9_count viX9_count mlRL_13 ⟨Nat.le_of_ble_eq_true rfl, Nat.le_of_ble_eq_true rfl⟩ (by exact Nat.le_of_ble_eq_true rfl) rfl rfl h.1.1 (by exact Nat.le_of_ble_eq_true rfl) ?_
    refine x_icmp_ge (tgt := 206) (k := 74) rfl (by decide) (fun c132 => ?_) (fun c132 => absurd (nI_le (Nat.le_refl _) (by have := h.hK.1; omega)) c132)
    exact kk
  | d + 1, i, hd => by
    have hix : ix (D.1.1 3 0 0) = hr := by rw [e0]; exact nI_clamp (by omega)
    refine x_iload_n (k := 70) rfl rfl ?_
    refine x_aload_n (k := 71) rfl rfl ?_
    refine x_iconst (v := 5) (k := 72) rfl (by decide) ?_
    refine x_cVI (ci := 9) (k := 73) rfl (by rfl) (g_c5 h) okX9_count viX9_count mlRL_13 ⟨Nat.le_of_ble_eq_true rfl, Nat.le_of_ble_eq_true rfl⟩ (by exact Nat.le_of_ble_eq_true rfl) rfl rfl h.1.1 (by exact Nat.le_of_ble_eq_true rfl) ?_
    refine x_icmp_ge (tgt := 206) (k := 74) rfl (by decide) (fun c132 => absurd c132 (nI_ge (by omega) (by have := h.hK.1; omega))) (fun c132 => ?_)
    refine x_iconst (v := 0) (k := 75) rfl (by decide) ?_
    refine x_istore (k := 76) rfl (by decide) ?_
    refine l_vw6 h hJ (n := i) (by omega) ?_ 11 0 rfl
    refine x_iconst (v := 0) (k := 92) rfl (by decide) ?_
    refine x_istore (k := 93) rfl (by decide) ?_
    refine l_vw7 h e0 h5 (n := i) (by omega) ?_ (hr + 1) 0 (by omega)
    refine x_sub (ls' := [(0, .ref a), (1, .long _), (3, .int (nI i))]) (by intro q hq; simp only [List.mem_cons, List.not_mem_nil, or_false] at hq; rcases hq with rfl | rfl | rfl <;> rfl) ?_
    refine x_iinc (k := 111) rfl rfl (nI_1 i) (by decide) ?_
    refine x_goto (tgt := 126) (k := 112) rfl (by decide) ?_
    have k := l_vw8 h hJ e0 h5 kk d (i + 1) (by omega)
    rw [show fq (vwK D.1.1) v (i + 1) = fo (vwL D.1.1 i) (fo (sPar D.1.1 i) (fq (vwK D.1.1) v i) 11) (hr + 1) from by rw [fq, vwK, hix]] at k
    exact k
theorem c_view (h : Ob G t own a D) (hJ : IvD B D) : xMe G ML_view [.ref a] t (fun r t1 => r = some (.long (sVw D.1.1)) ∧ t1 = t) := by
  obtain ⟨hr, nt, nk, hb, e0, -⟩ := hJ.1.nums
  refine x_ldc2 (k := 0) rfl klRL_9 ?_
  refine x_lstore_n (k := 1) rfl (by decide) ?_
  refine x_iconst (v := 0) (k := 2) rfl (by decide) ?_
  refine x_istore_n (k := 3) rfl (by decide) ?_
  refine l_vw1 h ?_ 13 0 rfl
  refine x_iconst (v := 0) (k := 18) rfl (by decide) ?_
  refine x_istore_n (k := 19) rfl (by decide) ?_
  refine l_vw3 h (v := fo (sNum D.1.1) 7 13) ?_ 8 0 rfl
  refine x_iconst (v := 0) (k := 42) rfl (by decide) ?_
  refine x_istore_n (k := 43) rfl (by decide) ?_
  rw [← fq_0 (vwT D.1.1) (fq (vwP D.1.1) (fo (sNum D.1.1) 7 13) 8)]
  refine l_vw5 h (v := fq (vwP D.1.1) (fo (sNum D.1.1) 7 13) 8) ?_ (cT D.1.1) 0 (Nat.zero_add _)
  refine x_iconst (v := 0) (k := 68) rfl (by decide) ?_
  refine x_istore_n (k := 69) rfl (by decide) ?_
  rw [← fq_0 (vwK D.1.1) (fq (vwT D.1.1) (fq (vwP D.1.1) (fo (sNum D.1.1) 7 13) 8) (cT D.1.1))]
  refine l_vw8 h hJ e0 (by omega) (v := fq (vwT D.1.1) (fq (vwP D.1.1) (fo (sNum D.1.1) 7 13) 8) (cT D.1.1)) ?_ (cK D.1.1) 0 (Nat.zero_add _)
  refine x_lload_n (k := 113) rfl rfl ?_
  exact x_lret (k := 114) rfl rfl ⟨rfl, rfl⟩
theorem l_hds (h : Ob G t own a D) (hJ : IvD B D) {n : Nat} (hn : n ≤ cK D.1.1) (kk : xE G ML_holders 35 [(0, .ref a), (1, .int (nI n)), (2, .long (sHd D.1.1 n)), (4, .int (nI n))] [] t Q) : ∀ d i, i + d = n → xE G ML_holders 7 [(0, .ref a), (1, .int (nI n)), (2, .long (sHd D.1.1 i)), (4, .int (nI i))] [] t Q
  | 0, i, hd => by
    obtain rfl : n = i := hd.symm
    refine x_iload (k := 4) rfl rfl ?_
    refine x_iload_n (k := 5) rfl rfl ?_
    refine x_icmp_ge (tgt := 35) (k := 6) rfl (by decide) (fun c10 => ?_) (fun c10 => absurd (nI_le (Nat.le_refl n) (by have := h.hK.1; omega)) c10)
    exact kk
  | d + 1, i, hd => by
    refine x_iload (k := 4) rfl rfl ?_
    refine x_iload_n (k := 5) rfl rfl ?_
    refine x_icmp_ge (tgt := 35) (k := 6) rfl (by decide) (fun c10 => absurd c10 (nI_ge (a := i) (b := n) (by omega) (by have := h.hK.1; omega))) (fun c10 => ?_)
    refine x_ldc2 (k := 7) rfl klRL_11 ?_
    refine x_lload_n (k := 8) rfl rfl ?_
    refine x_lmul (k := 9) rfl ?_
    refine x_aload_n (k := 10) rfl rfl ?_
    refine x_iload (k := 11) rfl rfl ?_
    refine x_bipush (v := 6) (k := 12) rfl (by decide) ?_
    refine x_cVI (ci := 9) (k := 13) rfl (by rfl) (g_par h hJ (k := i) (q := 6) (by omega) (by decide)) okX9_parcel viX9_parcel mlRL_26 ⟨Nat.le_of_ble_eq_true rfl, Nat.le_of_ble_eq_true rfl⟩ (by exact Nat.le_of_ble_eq_true rfl) rfl rfl h.1.1 (by exact Nat.le_of_ble_eq_true rfl) ?_
    refine x_i2l (k := 14) rfl ?_
    refine x_ladd (k := 15) rfl ?_
    refine x_lstore_n (k := 16) rfl (by decide) ?_
    refine x_iinc (k := 17) rfl rfl (nI_1 i) (by decide) ?_
    refine x_goto (tgt := 7) (k := 18) rfl (by decide) ?_
    exact l_hds h hJ hn kk d (i + 1) (by omega)
theorem c_holders (h : Ob G t own a D) (hJ : IvD B D) {n : Nat} (hn : n ≤ cK D.1.1) : xMe G ML_holders [.ref a, .int (nI n)] t (fun r t1 => r = some (.long (sHd D.1.1 n)) ∧ t1 = t) := by
  refine x_ldc2 (k := 0) rfl klRL_9 ?_
  refine x_lstore_n (k := 1) rfl (by decide) ?_
  refine x_iconst (v := 0) (k := 2) rfl (by decide) ?_
  refine x_istore (k := 3) rfl (by decide) ?_
  refine l_hds h hJ hn ?_ n 0 (Nat.zero_add _)
  refine x_lload_n (k := 19) rfl rfl ?_
  exact x_lret (k := 20) rfl rfl ⟨rfl, rfl⟩
def hvI (w : Nat) (y : Int32) : Prop := (4 < w ∧ w < 13) ∨ (w = 15 ∧ 1 < y.toBitVec.toNat % 2 ^ 3 ∧ y.toBitVec.toNat % 2 ^ 3 < 6)
theorem c_isHandover {w : Nat} {y : Int32} (hw : w < 16) (hv : hvI w y) : xI G ML_isHandover [.int (nI w), .int y] 1 := by
  intro s
  have h8 : y.toBitVec.toNat % 2 ^ 3 < 8 := Nat.mod_lt _ (by decide)
  have e4 : (4 : Int32) = nI 4 := rfl
  have e13 : (13 : Int32) = nI 13 := rfl
  have e15 : (15 : Int32) = nI 15 := rfl
  refine x_iload_n (k := 0) rfl rfl ?_
  refine x_iconst (v := 4) (k := 1) rfl (by decide) ?_
  refine x_icmp_le (tgt := 11) (k := 2) rfl (by decide) (fun c2 => ?_) (fun c2 => ?_)
  · refine x_iload_n (k := 6) rfl rfl ?_
    refine x_bipush (v := 15) (k := 7) rfl (by decide) ?_
    have hv2 : w = 15 ∧ 1 < y.toBitVec.toNat % 2 ^ 3 ∧ y.toBitVec.toNat % 2 ^ 3 < 6 := by
      rcases hv with z | z
      · first | exact absurd (nI_lt z.1 (by omega)) (Int32.not_lt.mpr c2) | exact absurd z.2 a8
      · exact z
    refine x_icmp_ne (tgt := 38) (k := 8) rfl (by decide) (fun c14 => absurd (by rw [hv2.1]; rfl) c14) (fun c14 => ?_)
    refine x_iload_n (k := 9) rfl rfl ?_
    refine x_bipush (v := 7) (k := 10) rfl (by decide) ?_
    refine x_iand (k := 11) rfl ?_
    refine x_iconst (v := 1) (k := 12) rfl (by decide) ?_
    refine x_icmp_le (tgt := 38) (k := 13) rfl (by decide) (fun c22 => absurd c22 (by rw [pk_and y 3 (by decide +kernel)]; exact nI_ge (a := 1) hv2.2.1 (by omega))) (fun c22 => ?_)
    refine x_iload_n (k := 14) rfl rfl ?_
    refine x_bipush (v := 7) (k := 15) rfl (by decide) ?_
    refine x_iand (k := 16) rfl ?_
    refine x_bipush (v := 6) (k := 17) rfl (by decide) ?_
    refine x_icmp_ge (tgt := 38) (k := 18) rfl (by decide) (fun c31 => absurd c31 (by rw [pk_and y 3 (by decide +kernel)]; exact nI_ge (b := 6) hv2.2.2 (by decide))) (fun c31 => ?_)
    refine x_iconst (v := 1) (k := 19) rfl (by decide) ?_
    refine x_goto (tgt := 39) (k := 20) rfl (by decide) ?_
    exact x_irD (k := 22) rfl rfl rfl rfl
  · refine x_iload_n (k := 3) rfl rfl ?_
    refine x_bipush (v := 13) (k := 4) rfl (by decide) ?_
    refine x_icmp_lt (tgt := 34) (k := 5) rfl (by decide) (fun c8 => ?_) (fun c8 => ?_)
    · refine x_iconst (v := 1) (k := 19) rfl (by decide) ?_
      refine x_goto (tgt := 39) (k := 20) rfl (by decide) ?_
      exact x_irD (k := 22) rfl rfl rfl rfl
    · have a8 : ¬ w < 13 := fun z => c8 (nI_lt z (by decide))
      refine x_iload_n (k := 6) rfl rfl ?_
      refine x_bipush (v := 15) (k := 7) rfl (by decide) ?_
      have hv2 : w = 15 ∧ 1 < y.toBitVec.toNat % 2 ^ 3 ∧ y.toBitVec.toNat % 2 ^ 3 < 6 := by
        rcases hv with z | z
        · first | exact absurd (nI_lt z.1 (by omega)) (Int32.not_lt.mpr c2) | exact absurd z.2 a8
        · exact z
      refine x_icmp_ne (tgt := 38) (k := 8) rfl (by decide) (fun c14 => absurd (by rw [hv2.1]; rfl) c14) (fun c14 => ?_)
      refine x_iload_n (k := 9) rfl rfl ?_
      refine x_bipush (v := 7) (k := 10) rfl (by decide) ?_
      refine x_iand (k := 11) rfl ?_
      refine x_iconst (v := 1) (k := 12) rfl (by decide) ?_
      refine x_icmp_le (tgt := 38) (k := 13) rfl (by decide) (fun c22 => absurd c22 (by rw [pk_and y 3 (by decide +kernel)]; exact nI_ge (a := 1) hv2.2.1 (by omega))) (fun c22 => ?_)
      refine x_iload_n (k := 14) rfl rfl ?_
      refine x_bipush (v := 7) (k := 15) rfl (by decide) ?_
      refine x_iand (k := 16) rfl ?_
      refine x_bipush (v := 6) (k := 17) rfl (by decide) ?_
      refine x_icmp_ge (tgt := 38) (k := 18) rfl (by decide) (fun c31 => absurd c31 (by rw [pk_and y 3 (by decide +kernel)]; exact nI_ge (b := 6) hv2.2.2 (by decide))) (fun c31 => ?_)
      refine x_iconst (v := 1) (k := 19) rfl (by decide) ?_
      refine x_goto (tgt := 39) (k := 20) rfl (by decide) ?_
      exact x_irD (k := 22) rfl rfl rfl rfl
end VIEW
