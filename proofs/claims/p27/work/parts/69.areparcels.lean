-- ===== the law's own methods: parcels are right =====
/-- how many parcels are in a state, as a number -/
def kcN (W : Wd) (z : Int32) : Nat → Nat
  | 0 => 0
  | n + 1 => if W 2 n 5 = z then kcN W z n + 1 else kcN W z n
theorem kcTo_N {W : Wd} {z : Int32} : ∀ n, kcTo W z n = nI (kcN W z n)
  | 0 => rfl
  | n + 1 => by
    rw [kcTo, kcN]
    split
    · rw [kcTo_N n, nI_1]
    · exact kcTo_N n
theorem kc_all {hr nk : Nat} {W : Wd} (h : KP hr nk W) : ∀ n, n ≤ nk → kcN W 0 n + kcN W 1 n + kcN W 2 n = n
  | 0, _ => rfl
  | n + 1, hn => by
    have k := kc_all h n (by omega)
    rw [kcN, kcN, kcN]
    rcases (h n (by omega)).1 with z | z | z
    · rw [z, if_pos rfl, if_neg (by decide), if_neg (by decide)]
      omega
    · rw [z, if_neg (by decide), if_pos rfl, if_neg (by decide)]
      omega
    · rw [z, if_neg (by decide), if_neg (by decide), if_pos rfl]
      omega
/-- the parcels under way are those that persons and lockers hold -/
theorem hb_all {hr f nt nk : Nat} {W : Wd} (hG : Gd hr f nt nk W) : ∀ n, n ≤ nk → smN (fun p => hbN W (nI p) n) 8 + smN (fun u => hbN W (nI (10 + u)) n) 6 = kcN W 0 n
  | 0, _ => rfl
  | n + 1, hn => by
    have k := hb_all hG n (by omega)
    rw [kcN]
    by_cases z : W 2 n 5 = 0
    · rw [if_pos z]
      have up : ∀ x, hbN W x (n + 1) = if W 2 n 6 = x then hbN W x n + 1 else hbN W x n := fun x => by
        rw [hbN]
        by_cases y : W 2 n 6 = x
        · rw [if_pos y, if_pos ⟨z, y⟩]
        · rw [if_neg y, if_neg (fun q => y q.2)]
      rcases (hG.2.2.2.1 n (by omega)).2.1 with ⟨p, hp, e⟩ | ⟨u, hu, e⟩
      · have a1 := smN_up (g := fun p => hbN W (nI p) n) (g' := fun p => hbN W (nI p) (n + 1)) (i := p) 8 hp (fun j hj hn => by
          rw [up, e, if_neg (fun q => hn ((nI_eq (by omega) (by omega)).mp q).symm)])
        have a2 : hbN W (nI p) (n + 1) = hbN W (nI p) n + 1 := by rw [up, e, if_pos rfl]
        have a3 := smN_eq (g := fun u => hbN W (nI (10 + u)) n) (g' := fun u => hbN W (nI (10 + u)) (n + 1)) 6 (fun j hj => by
          rw [up, e, if_neg (fun q => by have := (nI_eq (by omega) (by omega)).mp q; omega)])
        omega
      · have a1 := smN_up (g := fun u => hbN W (nI (10 + u)) n) (g' := fun u => hbN W (nI (10 + u)) (n + 1)) (i := u) 6 hu (fun j hj hn => by
          rw [up, e, if_neg (fun q => hn (by have := (nI_eq (by omega) (by omega)).mp q; omega))])
        have a2 : hbN W (nI (10 + u)) (n + 1) = hbN W (nI (10 + u)) n + 1 := by rw [up, e, if_pos rfl]
        have a3 := smN_eq (g := fun p => hbN W (nI p) n) (g' := fun p => hbN W (nI p) (n + 1)) 8 (fun j hj => by
          rw [up, e, if_neg (fun q => by have := (nI_eq (by omega) (by omega)).mp q; omega)])
        omega
    · rw [if_neg z, ← k]
      have up : ∀ x, hbN W x (n + 1) = hbN W x n := fun x => by
        rw [hbN, if_neg (fun q => z q.1)]
      rw [smN_eq (g := fun p => hbN W (nI p) n) 8 (fun _ _ => up _), smN_eq (g := fun u => hbN W (nI (10 + u)) n) 6 (fun _ _ => up _)]
section PARC
variable {G : xG} {t : xA} {own : Nat → Nat} {a B hr f nt nk sz : Nat} {D : OD} {Q : Option Value → xA → Prop}
theorem g_per (h : Ob G t own a D) {p q : Nat} {x : Int32} (e : x = nI p) (hp : p < 8) (hq : q < 6) : xMe G MX9_person [.ref a, .int x, .int (nI q)] t (nuQ t (sPer D.1.1 p q)) := by
  rw [e]
  exact c_person h hp hq
theorem town_p (hG : Gd hr f nt nk D.1.1) {n : Nat} (hn : n < nk) (c : D.1.1 2 n 6 ≤ 9) : ∃ p, p < 8 ∧ D.1.1 2 n 6 = nI p := by
  rcases (hG.2.2.2.1 n hn).2.1 with h | ⟨u, hu, e⟩
  · exact h
  · rw [e] at c
    exact absurd c (nI_ge (a := 9) (b := 10 + u) (by omega) (by omega))
theorem town_l (hG : Gd hr f nt nk D.1.1) {n : Nat} (hn : n < nk) (c : ¬ D.1.1 2 n 6 ≤ 9) : sTown D.1.1 (D.1.1 2 n 6) = D.1.1 2 n 6 - 10 := by
  rcases (hG.2.2.2.1 n hn).2.1 with ⟨p, hp, e⟩ | ⟨u, hu, e⟩
  · exact absurd (by rw [e]; exact nI_le (b := 9) (by omega) (by decide)) c
  · rw [sTown, if_neg (by rw [e]; exact nI_nlt (b := 10) (by omega) (by omega))]
theorem town_q {n p : Nat} (hp : p < 8) (e : D.1.1 2 n 6 = nI p) : sTown D.1.1 (D.1.1 2 n 6) = D.1.1 0 p 2 := by
  rw [sTown, e, if_pos (lt10 hp), ixP hp]
theorem par_10 {n : Nat} (z : D.1.1 2 n 5 = 0) : sPar D.1.1 n 10 = sTown D.1.1 (D.1.1 2 n 6) := if_pos z
theorem par_1n {n : Nat} (z : ¬ D.1.1 2 n 5 = 0) : sPar D.1.1 n 10 = -9 := if_neg z
theorem l_par1c (h : Ob G t own a D) (hJ : IvD B D) (j1 : Jn hr f nt nk sz D.1.1) {n : Nat} (hn : n < nk) (kk : xE G ML_areParcels 42 [(0, .ref a), (1, .int 1), (2, .int (nI hr)), (3, .int (nI (n + 1)))] [] t Q) : xE G ML_areParcels 179 [(0, .ref a), (1, .int 1), (2, .int (nI hr)), (3, .int (nI n)), (5, .int (sPar D.1.1 n 5))] [] t Q := by
  have hG := j1.1
  have hb := hG.1.1
  have hK0 := hG.cK
  have hnK : n < cK D.1.1 := by rw [hK0]; exact hn
  have e0 := hG.1.2.1
  obtain ⟨b1, b2, b3, hs, b4, b5, b6⟩ := j1.2.2.2.2 n hn
  refine x_iload_n (k := 98) rfl rfl ?_
  refine x_if_eq (tgt := 216) (k := 99) rfl (by decide) (fun c180 => absurd c180 (by decide)) (fun c180 => ?_)
  refine x_iload (k := 100) rfl rfl ?_
  refine x_if_eq (tgt := 212) (k := 101) rfl (by decide) (fun c185 => ?_) (fun c185 => ?_)
  · refine x_iconst (v := 1) (k := 114) rfl (by decide) ?_
    refine x_goto (tgt := 217) (k := 115) rfl (by decide) ?_
    refine x_istore_n (k := 117) rfl (by decide) ?_
    refine x_sub (ls' := [(0, .ref a), (1, .int 1), (2, .int (nI hr)), (3, .int (nI n))]) (by intro q hq; simp only [List.mem_cons, List.not_mem_nil, or_false] at hq; rcases hq with rfl | rfl | rfl | rfl <;> rfl) ?_
    refine x_iinc (k := 118) rfl rfl (nI_1 n) (by decide) ?_
    refine x_goto (tgt := 42) (k := 119) rfl (by decide) ?_
    exact kk
  · refine x_aload_n (k := 102) rfl rfl ?_
    refine x_iload_n (k := 103) rfl rfl ?_
    refine x_bipush (v := 8) (k := 104) rfl (by decide) ?_
    refine x_cVI (ci := 9) (k := 105) rfl (by rfl) (g_par h hJ (k := n) (q := 8) hnK (by decide)) okX9_parcel viX9_parcel mlRL_26 ⟨Nat.le_of_ble_eq_true rfl, Nat.le_of_ble_eq_true rfl⟩ (by exact Nat.le_of_ble_eq_true rfl) rfl rfl h.1.1 (by exact Nat.le_of_ble_eq_true rfl) ?_
    refine x_bipush (v := -9) (k := 106) rfl (by decide) ?_
    refine x_icmp_ne (tgt := 216) (k := 107) rfl (by decide) (fun c197 => absurd (b3 c185).1 c197) (fun c197 => ?_)
    refine x_aload_n (k := 108) rfl rfl ?_
    refine x_iload_n (k := 109) rfl rfl ?_
    refine x_bipush (v := 9) (k := 110) rfl (by decide) ?_
    refine x_cVI (ci := 9) (k := 111) rfl (by rfl) (g_par h hJ (k := n) (q := 9) hnK (by decide)) okX9_parcel viX9_parcel mlRL_26 ⟨Nat.le_of_ble_eq_true rfl, Nat.le_of_ble_eq_true rfl⟩ (by exact Nat.le_of_ble_eq_true rfl) rfl rfl h.1.1 (by exact Nat.le_of_ble_eq_true rfl) ?_
    refine x_bipush (v := -9) (k := 112) rfl (by decide) ?_
    refine x_icmp_ne (tgt := 216) (k := 113) rfl (by decide) (fun c209 => absurd (b3 c185).2 c209) (fun c209 => ?_)
    refine x_iconst (v := 1) (k := 114) rfl (by decide) ?_
    refine x_goto (tgt := 217) (k := 115) rfl (by decide) ?_
    refine x_istore_n (k := 117) rfl (by decide) ?_
    refine x_sub (ls' := [(0, .ref a), (1, .int 1), (2, .int (nI hr)), (3, .int (nI n))]) (by intro q hq; simp only [List.mem_cons, List.not_mem_nil, or_false] at hq; rcases hq with rfl | rfl | rfl | rfl <;> rfl) ?_
    refine x_iinc (k := 118) rfl rfl (nI_1 n) (by decide) ?_
    refine x_goto (tgt := 42) (k := 119) rfl (by decide) ?_
    exact kk
theorem l_par1b (h : Ob G t own a D) (hJ : IvD B D) (j1 : Jn hr f nt nk sz D.1.1) {n : Nat} (hn : n < nk) (kk : xE G ML_areParcels 42 [(0, .ref a), (1, .int 1), (2, .int (nI hr)), (3, .int (nI (n + 1)))] [] t Q) : xE G ML_areParcels 123 [(0, .ref a), (1, .int 1), (2, .int (nI hr)), (3, .int (nI n)), (4, .int (sPar D.1.1 n 6)), (5, .int (sPar D.1.1 n 5))] [] t Q := by
  have hG := j1.1
  have hb := hG.1.1
  have hK0 := hG.cK
  have hnK : n < cK D.1.1 := by rw [hK0]; exact hn
  have e0 := hG.1.2.1
  obtain ⟨b1, b2, b3, hs, b4, b5, b6⟩ := j1.2.2.2.2 n hn
  refine x_iload (k := 70) rfl rfl ?_
  refine x_bipush (v := 9) (k := 71) rfl (by decide) ?_
  refine x_icmp_le (tgt := 138) (k := 72) rfl (by decide) (fun c127 => ?_) (fun c127 => ?_)
  · obtain ⟨p, hp, ep⟩ := town_p hG hn c127
    have et := town_q hp ep
    refine x_aload_n (k := 77) rfl rfl ?_
    refine x_iload (k := 78) rfl rfl ?_
    refine x_iconst (v := 2) (k := 79) rfl (by decide) ?_
    refine x_cVI (ci := 9) (k := 80) rfl (by rfl) (g_per h (q := 2) ep hp (by decide)) okX9_person viX9_person mlRL_19 ⟨Nat.le_of_ble_eq_true rfl, Nat.le_of_ble_eq_true rfl⟩ (by exact Nat.le_of_ble_eq_true rfl) rfl rfl h.1.1 (by exact Nat.le_of_ble_eq_true rfl) ?_
    refine x_istore (k := 81) rfl (by decide) ?_
    refine x_iload_n (k := 82) rfl rfl ?_
    refine x_if_eq (tgt := 177) (k := 83) rfl (by decide) (fun c148 => absurd c148 (by decide)) (fun c148 => ?_)
    refine x_aload_n (k := 84) rfl rfl ?_
    refine x_iload_n (k := 85) rfl rfl ?_
    refine x_bipush (v := 10) (k := 86) rfl (by decide) ?_
    refine x_cVI (ci := 9) (k := 87) rfl (by rfl) (g_par h hJ (k := n) (q := 10) hnK (by decide)) okX9_parcel viX9_parcel mlRL_26 ⟨Nat.le_of_ble_eq_true rfl, Nat.le_of_ble_eq_true rfl⟩ (by exact Nat.le_of_ble_eq_true rfl) rfl rfl h.1.1 (by exact Nat.le_of_ble_eq_true rfl) ?_
    refine x_iload (k := 88) rfl rfl ?_
    refine x_if_ne (tgt := 168) (k := 89) rfl (by decide) (fun c160 => ?_) (fun c160 => ?_)
    · refine x_bipush (v := -9) (k := 92) rfl (by decide) ?_
      refine x_icmp_ne (tgt := 177) (k := 93) rfl (by decide) (fun c170 => absurd (by first | exact (par_10 c160).trans et | exact par_1n c160) c170) (fun c170 => ?_)
      refine x_iconst (v := 1) (k := 94) rfl (by decide) ?_
      refine x_goto (tgt := 178) (k := 95) rfl (by decide) ?_
      refine x_istore_n (k := 97) rfl (by decide) ?_
      refine x_sub (ls' := [(0, .ref a), (1, .int 1), (2, .int (nI hr)), (3, .int (nI n)), (5, .int (sPar D.1.1 n 5))]) (by intro q hq; simp only [List.mem_cons, List.not_mem_nil, or_false] at hq; rcases hq with rfl | rfl | rfl | rfl | rfl <;> rfl) ?_
      exact l_par1c h hJ j1 hn kk
    · refine x_iload (k := 90) rfl rfl ?_
      refine x_goto (tgt := 170) (k := 91) rfl (by decide) ?_
      refine x_icmp_ne (tgt := 177) (k := 93) rfl (by decide) (fun c170 => absurd (by first | exact (par_10 c160).trans et | exact par_1n c160) c170) (fun c170 => ?_)
      refine x_iconst (v := 1) (k := 94) rfl (by decide) ?_
      refine x_goto (tgt := 178) (k := 95) rfl (by decide) ?_
      refine x_istore_n (k := 97) rfl (by decide) ?_
      refine x_sub (ls' := [(0, .ref a), (1, .int 1), (2, .int (nI hr)), (3, .int (nI n)), (5, .int (sPar D.1.1 n 5))]) (by intro q hq; simp only [List.mem_cons, List.not_mem_nil, or_false] at hq; rcases hq with rfl | rfl | rfl | rfl | rfl <;> rfl) ?_
      exact l_par1c h hJ j1 hn kk
  · have et := town_l hG hn c127
    refine x_iload (k := 73) rfl rfl ?_
    refine x_bipush (v := 10) (k := 74) rfl (by decide) ?_
    refine x_isub (k := 75) rfl ?_
    refine x_goto (tgt := 145) (k := 76) rfl (by decide) ?_
    refine x_istore (k := 81) rfl (by decide) ?_
    refine x_iload_n (k := 82) rfl rfl ?_
    refine x_if_eq (tgt := 177) (k := 83) rfl (by decide) (fun c148 => absurd c148 (by decide)) (fun c148 => ?_)
    refine x_aload_n (k := 84) rfl rfl ?_
    refine x_iload_n (k := 85) rfl rfl ?_
    refine x_bipush (v := 10) (k := 86) rfl (by decide) ?_
    refine x_cVI (ci := 9) (k := 87) rfl (by rfl) (g_par h hJ (k := n) (q := 10) hnK (by decide)) okX9_parcel viX9_parcel mlRL_26 ⟨Nat.le_of_ble_eq_true rfl, Nat.le_of_ble_eq_true rfl⟩ (by exact Nat.le_of_ble_eq_true rfl) rfl rfl h.1.1 (by exact Nat.le_of_ble_eq_true rfl) ?_
    refine x_iload (k := 88) rfl rfl ?_
    refine x_if_ne (tgt := 168) (k := 89) rfl (by decide) (fun c160 => ?_) (fun c160 => ?_)
    · refine x_bipush (v := -9) (k := 92) rfl (by decide) ?_
      refine x_icmp_ne (tgt := 177) (k := 93) rfl (by decide) (fun c170 => absurd (by first | exact (par_10 c160).trans et | exact par_1n c160) c170) (fun c170 => ?_)
      refine x_iconst (v := 1) (k := 94) rfl (by decide) ?_
      refine x_goto (tgt := 178) (k := 95) rfl (by decide) ?_
      refine x_istore_n (k := 97) rfl (by decide) ?_
      refine x_sub (ls' := [(0, .ref a), (1, .int 1), (2, .int (nI hr)), (3, .int (nI n)), (5, .int (sPar D.1.1 n 5))]) (by intro q hq; simp only [List.mem_cons, List.not_mem_nil, or_false] at hq; rcases hq with rfl | rfl | rfl | rfl | rfl <;> rfl) ?_
      exact l_par1c h hJ j1 hn kk
    · refine x_iload (k := 90) rfl rfl ?_
      refine x_goto (tgt := 170) (k := 91) rfl (by decide) ?_
      refine x_icmp_ne (tgt := 177) (k := 93) rfl (by decide) (fun c170 => absurd (by first | exact (par_10 c160).trans et | exact par_1n c160) c170) (fun c170 => ?_)
      refine x_iconst (v := 1) (k := 94) rfl (by decide) ?_
      refine x_goto (tgt := 178) (k := 95) rfl (by decide) ?_
      refine x_istore_n (k := 97) rfl (by decide) ?_
      refine x_sub (ls' := [(0, .ref a), (1, .int 1), (2, .int (nI hr)), (3, .int (nI n)), (5, .int (sPar D.1.1 n 5))]) (by intro q hq; simp only [List.mem_cons, List.not_mem_nil, or_false] at hq; rcases hq with rfl | rfl | rfl | rfl | rfl <;> rfl) ?_
      exact l_par1c h hJ j1 hn kk
theorem l_par1 (h : Ob G t own a D) (hJ : IvD B D) (j1 : Jn hr f nt nk sz D.1.1) (kk : xE G ML_areParcels 224 [(0, .ref a), (1, .int 1), (2, .int (nI hr)), (3, .int (nI nk))] [] t Q) : ∀ d n, n + d = nk → xE G ML_areParcels 42 [(0, .ref a), (1, .int 1), (2, .int (nI hr)), (3, .int (nI n))] [] t Q
  | 0, n, hd => by
    obtain rfl : nk = n := hd.symm
    have hb := j1.1.1.1
    have hK0 := j1.1.cK
    refine x_iload_n (k := 25) rfl rfl ?_
    refine x_aload_n (k := 26) rfl rfl ?_
    refine x_iconst (v := 5) (k := 27) rfl (by decide) ?_
    refine x_cVI (ci := 9) (k := 28) rfl (by rfl) (g_c5 h) okX9_count viX9_count mlRL_13 ⟨Nat.le_of_ble_eq_true rfl, Nat.le_of_ble_eq_true rfl⟩ (by exact Nat.le_of_ble_eq_true rfl) rfl rfl h.1.1 (by exact Nat.le_of_ble_eq_true rfl) ?_
    rw [hK0]
    refine x_icmp_ge (tgt := 224) (k := 29) rfl (by decide) (fun c48 => ?_) (fun c48 => absurd (nI_le (Nat.le_refl _) (by omega)) c48)
    exact kk
  | d + 1, n, hd => by
    have hn : n < nk := by omega
    have hG := j1.1
    have hb := hG.1.1
    have hK0 := hG.cK
    have hnK : n < cK D.1.1 := by rw [hK0]; exact hn
    have e0 := hG.1.2.1
    obtain ⟨b1, b2, b3, hs, b4, b5, b6⟩ := j1.2.2.2.2 n hn
    refine x_iload_n (k := 25) rfl rfl ?_
    refine x_aload_n (k := 26) rfl rfl ?_
    refine x_iconst (v := 5) (k := 27) rfl (by decide) ?_
    refine x_cVI (ci := 9) (k := 28) rfl (by rfl) (g_c5 h) okX9_count viX9_count mlRL_13 ⟨Nat.le_of_ble_eq_true rfl, Nat.le_of_ble_eq_true rfl⟩ (by exact Nat.le_of_ble_eq_true rfl) rfl rfl h.1.1 (by exact Nat.le_of_ble_eq_true rfl) ?_
    rw [hK0]
    refine x_icmp_ge (tgt := 224) (k := 29) rfl (by decide) (fun c48 => absurd c48 (nI_ge (by omega) (by omega))) (fun c48 => ?_)
    refine x_iload_n (k := 30) rfl rfl ?_
    refine x_if_eq (tgt := 224) (k := 31) rfl (by decide) (fun c52 => absurd c52 (by decide)) (fun c52 => ?_)
    refine x_aload_n (k := 32) rfl rfl ?_
    refine x_iload_n (k := 33) rfl rfl ?_
    refine x_bipush (v := 6) (k := 34) rfl (by decide) ?_
    refine x_cVI (ci := 9) (k := 35) rfl (by rfl) (g_par h hJ (k := n) (q := 6) hnK (by decide)) okX9_parcel viX9_parcel mlRL_26 ⟨Nat.le_of_ble_eq_true rfl, Nat.le_of_ble_eq_true rfl⟩ (by exact Nat.le_of_ble_eq_true rfl) rfl rfl h.1.1 (by exact Nat.le_of_ble_eq_true rfl) ?_
    refine x_istore (k := 36) rfl (by decide) ?_
    refine x_aload_n (k := 37) rfl rfl ?_
    refine x_iload_n (k := 38) rfl rfl ?_
    refine x_iconst (v := 5) (k := 39) rfl (by decide) ?_
    refine x_cVI (ci := 9) (k := 40) rfl (by rfl) (g_par h hJ (k := n) (q := 5) hnK (by decide)) okX9_parcel viX9_parcel mlRL_26 ⟨Nat.le_of_ble_eq_true rfl, Nat.le_of_ble_eq_true rfl⟩ (by exact Nat.le_of_ble_eq_true rfl) rfl rfl h.1.1 (by exact Nat.le_of_ble_eq_true rfl) ?_
    refine x_istore (k := 41) rfl (by decide) ?_
    refine x_aload_n (k := 42) rfl rfl ?_
    refine x_iload_n (k := 43) rfl rfl ?_
    refine x_iload_n (k := 44) rfl rfl ?_
    refine x_cVI (ci := 9) (k := 45) rfl (by rfl) (g_hold h (x := hr) e0 (by omega) hnK (Nat.le_refl _)) okX9_holderAt viX9_holderAt mlRL_29 ⟨Nat.le_of_ble_eq_true rfl, Nat.le_of_ble_eq_true rfl⟩ (by exact Nat.le_of_ble_eq_true rfl) rfl rfl h.1.1 (by exact Nat.le_of_ble_eq_true rfl) ?_
    refine x_iload (k := 46) rfl rfl ?_
    refine x_icmp_ne (tgt := 121) (k := 47) rfl (by decide) (fun c80 => absurd (b6 hr (by omega) (by omega)) c80) (fun c80 => ?_)
    refine x_iload (k := 48) rfl rfl ?_
    refine x_iconst (v := 1) (k := 49) rfl (by decide) ?_
    refine x_icmp_ne (tgt := 100) (k := 50) rfl (by decide) (fun c86 => ?_) (fun c86 => ?_)
    · refine x_aload_n (k := 57) rfl rfl ?_
      refine x_iload_n (k := 58) rfl rfl ?_
      refine x_aload_n (k := 59) rfl rfl ?_
      refine x_iload_n (k := 60) rfl rfl ?_
      refine x_bipush (v := 7) (k := 61) rfl (by decide) ?_
      refine x_cVI (ci := 9) (k := 62) rfl (by rfl) (g_par h hJ (k := n) (q := 7) hnK (by decide)) okX9_parcel viX9_parcel mlRL_26 ⟨Nat.le_of_ble_eq_true rfl, Nat.le_of_ble_eq_true rfl⟩ (by exact Nat.le_of_ble_eq_true rfl) rfl rfl h.1.1 (by exact Nat.le_of_ble_eq_true rfl) ?_
      rw [show sPar D.1.1 n 7 = nI hs from b5]
      refine x_cVI (ci := 9) (k := 63) rfl (by rfl) (g_hold h (x := hs) e0 (by omega) hnK b4) okX9_holderAt viX9_holderAt mlRL_29 ⟨Nat.le_of_ble_eq_true rfl, Nat.le_of_ble_eq_true rfl⟩ (by exact Nat.le_of_ble_eq_true rfl) rfl rfl h.1.1 (by exact Nat.le_of_ble_eq_true rfl) ?_
      refine x_iload (k := 64) rfl rfl ?_
      refine x_icmp_ne (tgt := 121) (k := 65) rfl (by decide) (fun c114 => absurd (b6 hs (Nat.le_refl _) (by omega)) c114) (fun c114 => ?_)
      refine x_iconst (v := 1) (k := 66) rfl (by decide) ?_
      refine x_goto (tgt := 122) (k := 67) rfl (by decide) ?_
      refine x_istore_n (k := 69) rfl (by decide) ?_
      refine x_sub (ls' := [(0, .ref a), (1, .int 1), (2, .int (nI hr)), (3, .int (nI n)), (4, .int (sPar D.1.1 n 6)), (5, .int (sPar D.1.1 n 5))]) (by intro q hq; simp only [List.mem_cons, List.not_mem_nil, or_false] at hq; rcases hq with rfl | rfl | rfl | rfl | rfl | rfl <;> rfl) ?_
      exact l_par1b h hJ j1 hn (l_par1 h hJ j1 kk d (n + 1) (by omega))
    · refine x_iload (k := 51) rfl rfl ?_
      refine x_aload_n (k := 52) rfl rfl ?_
      refine x_iload_n (k := 53) rfl rfl ?_
      refine x_iconst (v := 1) (k := 54) rfl (by decide) ?_
      refine x_cVI (ci := 9) (k := 55) rfl (by rfl) (g_par h hJ (k := n) (q := 1) hnK (by decide)) okX9_parcel viX9_parcel mlRL_26 ⟨Nat.le_of_ble_eq_true rfl, Nat.le_of_ble_eq_true rfl⟩ (by exact Nat.le_of_ble_eq_true rfl) rfl rfl h.1.1 (by exact Nat.le_of_ble_eq_true rfl) ?_
      refine x_icmp_ne (tgt := 121) (k := 56) rfl (by decide) (fun c97 => absurd (b2 c86) c97) (fun c97 => ?_)
      refine x_aload_n (k := 57) rfl rfl ?_
      refine x_iload_n (k := 58) rfl rfl ?_
      refine x_aload_n (k := 59) rfl rfl ?_
      refine x_iload_n (k := 60) rfl rfl ?_
      refine x_bipush (v := 7) (k := 61) rfl (by decide) ?_
      refine x_cVI (ci := 9) (k := 62) rfl (by rfl) (g_par h hJ (k := n) (q := 7) hnK (by decide)) okX9_parcel viX9_parcel mlRL_26 ⟨Nat.le_of_ble_eq_true rfl, Nat.le_of_ble_eq_true rfl⟩ (by exact Nat.le_of_ble_eq_true rfl) rfl rfl h.1.1 (by exact Nat.le_of_ble_eq_true rfl) ?_
      rw [show sPar D.1.1 n 7 = nI hs from b5]
      refine x_cVI (ci := 9) (k := 63) rfl (by rfl) (g_hold h (x := hs) e0 (by omega) hnK b4) okX9_holderAt viX9_holderAt mlRL_29 ⟨Nat.le_of_ble_eq_true rfl, Nat.le_of_ble_eq_true rfl⟩ (by exact Nat.le_of_ble_eq_true rfl) rfl rfl h.1.1 (by exact Nat.le_of_ble_eq_true rfl) ?_
      refine x_iload (k := 64) rfl rfl ?_
      refine x_icmp_ne (tgt := 121) (k := 65) rfl (by decide) (fun c114 => absurd (b6 hs (Nat.le_refl _) (by omega)) c114) (fun c114 => ?_)
      refine x_iconst (v := 1) (k := 66) rfl (by decide) ?_
      refine x_goto (tgt := 122) (k := 67) rfl (by decide) ?_
      refine x_istore_n (k := 69) rfl (by decide) ?_
      refine x_sub (ls' := [(0, .ref a), (1, .int 1), (2, .int (nI hr)), (3, .int (nI n)), (4, .int (sPar D.1.1 n 6)), (5, .int (sPar D.1.1 n 5))]) (by intro q hq; simp only [List.mem_cons, List.not_mem_nil, or_false] at hq; rcases hq with rfl | rfl | rfl | rfl | rfl | rfl <;> rfl) ?_
      exact l_par1b h hJ j1 hn (l_par1 h hJ j1 kk d (n + 1) (by omega))
theorem lk_s {W : Wd} {u : Nat} (hG : Gd hr f nt nk W) : nI (smN (fun v => hbN W (nI (10 + v)) nk) u) + sHeld W (10 + nI u) = nI (smN (fun v => hbN W (nI (10 + v)) nk) (u + 1)) := by
  rw [show (10 : Int32) + nI u = nI (10 + u) from nI_add 10 u, hG.held, nI_add, smN_s]
theorem hp_s {W : Wd} {p : Nat} (hG : Gd hr f nt nk W) : nI (smN (fun v => hbN W (nI v) nk) p) + sHeld W (nI p) = nI (smN (fun v => hbN W (nI v) nk) (p + 1)) := by
  rw [hG.held, nI_add, smN_s]
theorem l_par2 (h : Ob G t own a D) (hJ : IvD B D) (j1 : Jn hr f nt nk sz D.1.1) (kk : xE G ML_areParcels 280 [(0, .ref a), (1, .int 1), (3, .int (nI (smN (fun v => hbN D.1.1 (nI (10 + v)) nk) 6))), (4, .int (nI 6))] [] t Q) : ∀ d u, u + d = 6 → xE G ML_areParcels 229 [(0, .ref a), (1, .int 1), (3, .int (nI (smN (fun v => hbN D.1.1 (nI (10 + v)) nk) u))), (4, .int (nI u))] [] t Q
  | 0, u, hd => by
    obtain rfl : 6 = u := hd.symm
    refine x_iload (k := 124) rfl rfl ?_
    refine x_bipush (v := 6) (k := 125) rfl (by decide) ?_
    refine x_icmp_ge (tgt := 280) (k := 126) rfl (by decide) (fun c233 => ?_) (fun c233 => absurd (nI_le (a := 6) (b := 6) (by decide) (by decide)) c233)
    exact kk
  | d + 1, u, hd => by
    have hG := j1.1
    have hu : gTn (nI u) := ⟨nI_pos (by omega), nI_nlt (a := 5) (b := u) (by omega) (by omega)⟩
    refine x_iload (k := 124) rfl rfl ?_
    refine x_bipush (v := 6) (k := 125) rfl (by decide) ?_
    refine x_icmp_ge (tgt := 280) (k := 126) rfl (by decide) (fun c233 => absurd c233 (nI_ge (b := 6) (by omega) (by decide))) (fun c233 => ?_)
    refine x_iload_n (k := 127) rfl rfl ?_
    refine x_if_eq (tgt := 280) (k := 128) rfl (by decide) (fun c237 => absurd c237 (by decide)) (fun c237 => ?_)
    refine x_iload_n (k := 129) rfl rfl ?_
    refine x_aload_n (k := 130) rfl rfl ?_
    refine x_iload (k := 131) rfl rfl ?_
    refine x_cVI (ci := 9) (k := 132) rfl (by rfl) (c_inLocker h hu) okX9_inLocker viX9_inLocker mlRL_74 ⟨Nat.le_of_ble_eq_true rfl, Nat.le_of_ble_eq_true rfl⟩ (by exact Nat.le_of_ble_eq_true rfl) rfl rfl h.1.1 (by exact Nat.le_of_ble_eq_true rfl) ?_
    refine x_iadd (k := 133) rfl ?_
    rw [lk_s hG]
    refine x_istore_n (k := 134) rfl (by decide) ?_
    refine x_aload_n (k := 135) rfl rfl ?_
    refine x_iload (k := 136) rfl rfl ?_
    refine x_cVI (ci := 9) (k := 137) rfl (by rfl) (c_inLocker h hu) okX9_inLocker viX9_inLocker mlRL_74 ⟨Nat.le_of_ble_eq_true rfl, Nat.le_of_ble_eq_true rfl⟩ (by exact Nat.le_of_ble_eq_true rfl) rfl rfl h.1.1 (by exact Nat.le_of_ble_eq_true rfl) ?_
    refine x_if_lt (tgt := 272) (k := 138) rfl (by decide) (fun c255 => absurd c255 (hG.held_nn _)) (fun c255 => ?_)
    refine x_aload_n (k := 139) rfl rfl ?_
    refine x_iload (k := 140) rfl rfl ?_
    refine x_cVI (ci := 9) (k := 141) rfl (by rfl) (c_inLocker h hu) okX9_inLocker viX9_inLocker mlRL_74 ⟨Nat.le_of_ble_eq_true rfl, Nat.le_of_ble_eq_true rfl⟩ (by exact Nat.le_of_ble_eq_true rfl) rfl rfl h.1.1 (by exact Nat.le_of_ble_eq_true rfl) ?_
    refine x_iconst (v := 3) (k := 142) rfl (by decide) ?_
    refine x_icmp_gt (tgt := 272) (k := 143) rfl (by decide) (fun c265 => absurd c265 (Int32.not_lt.mpr (hG.h3 _))) (fun c265 => ?_)
    refine x_iconst (v := 1) (k := 144) rfl (by decide) ?_
    refine x_goto (tgt := 273) (k := 145) rfl (by decide) ?_
    refine x_istore_n (k := 147) rfl (by decide) ?_
    refine x_iinc (k := 148) rfl rfl (nI_1 u) (by decide) ?_
    refine x_goto (tgt := 229) (k := 149) rfl (by decide) ?_
    exact l_par2 h hJ j1 kk d (u + 1) (by omega)
theorem l_par3 (h : Ob G t own a D) (hJ : IvD B D) (j1 : Jn hr f nt nk sz D.1.1) (kk : xE G ML_areParcels 311 [(0, .ref a), (1, .int 1), (3, .int (nI (smN (fun v => hbN D.1.1 (nI (10 + v)) nk) 6))), (4, .int (nI (smN (fun v => hbN D.1.1 (nI v) nk) 8))), (5, .int (nI 8))] [] t Q) : ∀ d p, p + d = 8 → xE G ML_areParcels 286 [(0, .ref a), (1, .int 1), (3, .int (nI (smN (fun v => hbN D.1.1 (nI (10 + v)) nk) 6))), (4, .int (nI (smN (fun v => hbN D.1.1 (nI v) nk) p))), (5, .int (nI p))] [] t Q
  | 0, p, hd => by
    obtain rfl : 8 = p := hd.symm
    refine x_iload (k := 154) rfl rfl ?_
    refine x_bipush (v := 8) (k := 155) rfl (by decide) ?_
    refine x_icmp_ge (tgt := 311) (k := 156) rfl (by decide) (fun c290 => ?_) (fun c290 => absurd (nI_le (a := 8) (b := 8) (by decide) (by decide)) c290)
    exact kk
  | d + 1, p, hd => by
    have hG := j1.1
    refine x_iload (k := 154) rfl rfl ?_
    refine x_bipush (v := 8) (k := 155) rfl (by decide) ?_
    refine x_icmp_ge (tgt := 311) (k := 156) rfl (by decide) (fun c290 => absurd c290 (nI_ge (b := 8) (by omega) (by decide))) (fun c290 => ?_)
    refine x_iload (k := 157) rfl rfl ?_
    refine x_aload_n (k := 158) rfl rfl ?_
    refine x_iload (k := 159) rfl rfl ?_
    refine x_iconst (v := 4) (k := 160) rfl (by decide) ?_
    refine x_cVI (ci := 9) (k := 161) rfl (by rfl) (c_person h (p := p) (q := 4) (by omega) (by decide)) okX9_person viX9_person mlRL_19 ⟨Nat.le_of_ble_eq_true rfl, Nat.le_of_ble_eq_true rfl⟩ (by exact Nat.le_of_ble_eq_true rfl) rfl rfl h.1.1 (by exact Nat.le_of_ble_eq_true rfl) ?_
    refine x_iadd (k := 162) rfl ?_
    rw [show sPer D.1.1 p 4 = sHeld D.1.1 (nI p) from rfl, hp_s hG]
    refine x_istore (k := 163) rfl (by decide) ?_
    refine x_iinc (k := 164) rfl rfl (nI_1 p) (by decide) ?_
    refine x_goto (tgt := 286) (k := 165) rfl (by decide) ?_
    exact l_par3 h hJ j1 kk d (p + 1) (by omega)
theorem c_areParcels (h : Ob G t own a D) (hJ : IvD B D) : xMe G ML_areParcels [.ref a] t (fun r t1 => r = some (.int 1) ∧ t1 = t) := by
  obtain ⟨hr, f, nt, nk, sz, j1, j2⟩ := id hJ.1
  have hG := j1.1
  have hK0 := hG.cK
  have e0 := hG.1.2.1
  have s1 : sNum D.1.1 6 + sNum D.1.1 7 + sNum D.1.1 8 = nI (cK D.1.1) := by
    show kcTo D.1.1 0 (cK D.1.1) + kcTo D.1.1 1 (cK D.1.1) + kcTo D.1.1 2 (cK D.1.1) = nI (cK D.1.1)
    rw [hK0, kcTo_N, kcTo_N, kcTo_N, nI_add, nI_add, kc_all j1.2.2.2.2 nk (Nat.le_refl _)]
  have s2 : nI (smN (fun v => hbN D.1.1 (nI (10 + v)) nk) 6) + nI (smN (fun v => hbN D.1.1 (nI v) nk) 8) = sNum D.1.1 6 := by
    show _ = kcTo D.1.1 0 (cK D.1.1)
    rw [hK0, kcTo_N, nI_add, Nat.add_comm, hb_all hG nk (Nat.le_refl _)]
  refine x_aload_n (k := 0) rfl rfl ?_
  refine x_bipush (v := 6) (k := 1) rfl (by decide) ?_
  refine x_cVI (ci := 9) (k := 2) rfl (by rfl) (g_num h (q := 6) (by decide)) okX9_count viX9_count mlRL_13 ⟨Nat.le_of_ble_eq_true rfl, Nat.le_of_ble_eq_true rfl⟩ (by exact Nat.le_of_ble_eq_true rfl) rfl rfl h.1.1 (by exact Nat.le_of_ble_eq_true rfl) ?_
  refine x_aload_n (k := 3) rfl rfl ?_
  refine x_bipush (v := 7) (k := 4) rfl (by decide) ?_
  refine x_cVI (ci := 9) (k := 5) rfl (by rfl) (g_num h (q := 7) (by decide)) okX9_count viX9_count mlRL_13 ⟨Nat.le_of_ble_eq_true rfl, Nat.le_of_ble_eq_true rfl⟩ (by exact Nat.le_of_ble_eq_true rfl) rfl rfl h.1.1 (by exact Nat.le_of_ble_eq_true rfl) ?_
  refine x_iadd (k := 6) rfl ?_
  refine x_aload_n (k := 7) rfl rfl ?_
  refine x_bipush (v := 8) (k := 8) rfl (by decide) ?_
  refine x_cVI (ci := 9) (k := 9) rfl (by rfl) (g_num h (q := 8) (by decide)) okX9_count viX9_count mlRL_13 ⟨Nat.le_of_ble_eq_true rfl, Nat.le_of_ble_eq_true rfl⟩ (by exact Nat.le_of_ble_eq_true rfl) rfl rfl h.1.1 (by exact Nat.le_of_ble_eq_true rfl) ?_
  refine x_iadd (k := 10) rfl ?_
  refine x_aload_n (k := 11) rfl rfl ?_
  refine x_iconst (v := 5) (k := 12) rfl (by decide) ?_
  refine x_cVI (ci := 9) (k := 13) rfl (by rfl) (g_c5 h) okX9_count viX9_count mlRL_13 ⟨Nat.le_of_ble_eq_true rfl, Nat.le_of_ble_eq_true rfl⟩ (by exact Nat.le_of_ble_eq_true rfl) rfl rfl h.1.1 (by exact Nat.le_of_ble_eq_true rfl) ?_
  refine x_icmp_ne (tgt := 32) (k := 14) rfl (by decide) (fun c25 => absurd s1 c25) (fun c25 => ?_)
  refine x_iconst (v := 1) (k := 15) rfl (by decide) ?_
  refine x_goto (tgt := 33) (k := 16) rfl (by decide) ?_
  refine x_istore_n (k := 18) rfl (by decide) ?_
  refine x_aload_n (k := 19) rfl rfl ?_
  refine x_iconst (v := 0) (k := 20) rfl (by decide) ?_
  refine x_cVI (ci := 9) (k := 21) rfl (by rfl) (g_c0 h e0) okX9_count viX9_count mlRL_13 ⟨Nat.le_of_ble_eq_true rfl, Nat.le_of_ble_eq_true rfl⟩ (by exact Nat.le_of_ble_eq_true rfl) rfl rfl h.1.1 (by exact Nat.le_of_ble_eq_true rfl) ?_
  refine x_istore_n (k := 22) rfl (by decide) ?_
  refine x_iconst (v := 0) (k := 23) rfl (by decide) ?_
  refine x_istore_n (k := 24) rfl (by decide) ?_
  refine l_par1 h hJ j1 ?_ nk 0 (Nat.zero_add _)
  refine x_iconst (v := 0) (k := 120) rfl (by decide) ?_
  refine x_istore_n (k := 121) rfl (by decide) ?_
  refine x_iconst (v := 0) (k := 122) rfl (by decide) ?_
  refine x_istore (k := 123) rfl (by decide) ?_
  refine x_sub (ls' := [(0, .ref a), (1, .int 1), (3, .int (nI (smN (fun v => hbN D.1.1 (nI (10 + v)) nk) 0))), (4, .int (nI 0))]) (by intro q hq; simp only [List.mem_cons, List.not_mem_nil, or_false] at hq; rcases hq with rfl | rfl | rfl | rfl <;> rfl) ?_
  refine l_par2 h hJ j1 ?_ 6 0 rfl
  refine x_iconst (v := 0) (k := 150) rfl (by decide) ?_
  refine x_istore (k := 151) rfl (by decide) ?_
  refine x_iconst (v := 0) (k := 152) rfl (by decide) ?_
  refine x_istore (k := 153) rfl (by decide) ?_
  refine l_par3 h hJ j1 ?_ 8 0 rfl
  refine x_iload_n (k := 166) rfl rfl ?_
  refine x_if_eq (tgt := 332) (k := 167) rfl (by decide) (fun c312 => absurd c312 (by decide)) (fun c312 => ?_)
  refine x_iload_n (k := 168) rfl rfl ?_
  refine x_iload (k := 169) rfl rfl ?_
  refine x_iadd (k := 170) rfl ?_
  refine x_aload_n (k := 171) rfl rfl ?_
  refine x_bipush (v := 6) (k := 172) rfl (by decide) ?_
  refine x_cVI (ci := 9) (k := 173) rfl (by rfl) (g_num h (q := 6) (by decide)) okX9_count viX9_count mlRL_13 ⟨Nat.le_of_ble_eq_true rfl, Nat.le_of_ble_eq_true rfl⟩ (by exact Nat.le_of_ble_eq_true rfl) rfl rfl h.1.1 (by exact Nat.le_of_ble_eq_true rfl) ?_
  refine x_icmp_ne (tgt := 332) (k := 174) rfl (by decide) (fun c325 => absurd s2 c325) (fun c325 => ?_)
  refine x_iconst (v := 1) (k := 175) rfl (by decide) ?_
  refine x_goto (tgt := 333) (k := 176) rfl (by decide) ?_
  exact x_iret (k := 178) rfl rfl rfl ⟨rfl, rfl⟩
end PARC
