-- ===== the ways: the search =====
theorem c_lookAt {G : xG} {s : xA} {w y : Nat} {W : Wd} {Y : Yd} (hY : yH G s w y W) (hk : hT W) {i : Nat} (hi : i < 16) : yV G MX7_lookAt [.ref y, .int (nI i)] s w y Y (yLook W Y i) := by
  refine x_aload_n (k := 0) rfl rfl ?_
  refine y_getW (k := 1) rfl flRX7_25 ?_
  refine y_wT hY (k := 2) rfl flRX7_59 ?_
  refine x_iload_n (k := 3) rfl rfl ?_
  refine y_atT hY (k := 4) rfl rfl (by first | assumption | omega) ?_
  refine x_astore_n (k := 5) rfl (by decide) ?_
  refine x_aload_n (k := 6) rfl rfl ?_
  refine y_getA (a := 1) (k := 7) rfl flRX7_9 rfl rfl ?_
  refine x_iload_n (k := 8) rfl rfl ?_
  refine x_iconst (v := 1) (k := 9) rfl (by decide) ?_
  refine y_zput (k := 10) rfl rfl (by first | assumption | omega) nar1 (by first | exact Or.inl rfl | exact Or.inr rfl) ?_
  refine x_aload_n (k := 11) rfl rfl ?_
  refine y_fT hY (k := 12) rfl flRX7_63 (by first | assumption | omega) (by decide) ?_
  refine x_aload_n (k := 13) rfl rfl ?_
  refine y_get (k := 14) rfl flRX7_45 rfl ?_
  refine x_icmp_ne (tgt := 81) (k := 15) rfl (by decide) (fun c25 => ?_) (fun c25 => ?_)
  · have a25 : ¬ W 1 i 2 = Y 0 5 := c25
    refine x_aload_n (k := 45) rfl rfl ?_
    refine x_aload_n (k := 46) rfl rfl ?_
    refine y_fT hY (k := 47) rfl flRX7_63 (by first | assumption | omega) (by decide) ?_
    refine x_aload_n (k := 48) rfl rfl ?_
    refine y_fT hY (k := 49) rfl flRX7_68 (by first | assumption | omega) (by decide) ?_
    refine y_callI (ci := 7) (k := 50) rfl (by rfl) (c_bestFrom hY _ _ hk) okX7_bestFrom viX7_bestFrom mlRX7_107 ⟨Nat.le_of_ble_eq_true rfl, Nat.le_of_ble_eq_true rfl⟩ (by exact Nat.le_of_ble_eq_true rfl) rfl rfl yG0 (by exact Nat.le_of_ble_eq_true rfl) ?_
    refine x_istore_n (k := 51) rfl (by decide) ?_
    refine x_iload_n (k := 52) rfl rfl ?_
    refine x_bipush (v := -9) (k := 53) rfl (by decide) ?_
    refine x_icmp_eq (tgt := 160) (k := 54) rfl (by decide) (fun c97 => ?_) (fun c97 => ?_)
    · have e : yLook W Y i = yLk W Y i := by rw [yLook, if_neg a25]; exact if_pos c97
      exact y_rD (k := 91) rfl rfl (by first | exact absurd a44 b68 | exact absurd a68 b44 | exact absurd a122 b150 | exact absurd a150 b122 | (rw [e]; simp [*, yLoA, yLoB, yLk, ySet]; done) | (rw [e]; rfl))
    · have d97 : ¬ bfTo W (yLk W Y i) (W 1 i 2) (W 1 i 4) (cT W) = -9 := c97
      obtain ⟨j, hj, ej⟩ := (bfTo_is (W := W) (Y := yLk W Y i) (tn := W 1 i 2) (hr := W 1 i 4) (cT W)).resolve_left c97
      have e : yLook W Y i = yLoB W Y i j := by rw [yLook, if_neg a25, if_neg d97, ej, show ix (nI j) = j from nI_clamp (by have := hk.1; omega)]
      have hj16 : j < 16 := by have := hk.1; omega
      refine x_aload_n (k := 55) rfl rfl ?_
      refine y_getA (a := 2) (k := 56) rfl flRX7_15 rfl rfl ?_
      refine x_iload_n (k := 57) rfl rfl ?_
      refine x_iconst (v := 1) (k := 58) rfl (by decide) ?_
      refine y_zput (k := 59) rfl rfl (by first | assumption | omega) nar1 (by first | exact Or.inl rfl | exact Or.inr rfl) ?_
      refine x_aload_n (k := 60) rfl rfl ?_
      refine y_getA (a := 3) (k := 61) rfl flRX7_18 rfl rfl ?_
      refine x_iload_n (k := 62) rfl rfl ?_
      refine x_aload_n (k := 63) rfl rfl ?_
      refine y_getA (a := 3) (k := 64) rfl flRX7_18 rfl rfl ?_
      refine x_iload_n (k := 65) rfl rfl ?_
      refine y_iat (k := 66) rfl ej hj16 (by first | exact yG3 | exact yG4) ?_
      refine x_aload_n (k := 67) rfl rfl ?_
      refine y_get (k := 68) rfl flRX7_29 rfl ?_
      refine x_if_eq (tgt := 132) (k := 69) rfl (by decide) (fun c122 => ?_) (fun c122 => ?_)
      · have a122 : Y 0 6 = 0 := c122
        refine x_iconst (v := 0) (k := 73) rfl (by decide) ?_
        refine x_iadd (k := 74) rfl ?_
        refine y_iput (k := 75) rfl rfl (by first | assumption | omega) (by first | exact Or.inl rfl | exact Or.inr rfl) ?_
        refine x_aload_n (k := 76) rfl rfl ?_
        refine y_getA (a := 4) (k := 77) rfl flRX7_22 rfl rfl ?_
        refine x_iload_n (k := 78) rfl rfl ?_
        refine x_aload_n (k := 79) rfl rfl ?_
        refine y_getA (a := 4) (k := 80) rfl flRX7_22 rfl rfl ?_
        refine x_iload_n (k := 81) rfl rfl ?_
        refine y_iat (k := 82) rfl ej hj16 (by first | exact yG3 | exact yG4) ?_
        refine x_aload_n (k := 83) rfl rfl ?_
        refine y_get (k := 84) rfl flRX7_29 rfl ?_
        refine x_if_eq (tgt := 157) (k := 85) rfl (by decide) (fun c150 => ?_) (fun c150 => ?_)
        · have a150 : Y 0 6 = 0 := c150
          refine x_iconst (v := 1) (k := 88) rfl (by decide) ?_
          refine x_iadd (k := 89) rfl ?_
          refine y_iput (k := 90) rfl rfl (by first | assumption | omega) (by first | exact Or.inl rfl | exact Or.inr rfl) ?_
          exact y_rD (k := 91) rfl rfl (by first | exact absurd a44 b68 | exact absurd a68 b44 | exact absurd a122 b150 | exact absurd a150 b122 | (rw [e]; simp [*, yLoA, yLoB, yLk, ySet]; done) | (rw [e]; rfl))
        · have b150 : ¬ Y 0 6 = 0 := c150
          refine x_iconst (v := 0) (k := 86) rfl (by decide) ?_
          refine x_goto (tgt := 158) (k := 87) rfl (by decide) ?_
          refine x_iadd (k := 89) rfl ?_
          refine y_iput (k := 90) rfl rfl (by first | assumption | omega) (by first | exact Or.inl rfl | exact Or.inr rfl) ?_
          exact y_rD (k := 91) rfl rfl (by first | exact absurd a44 b68 | exact absurd a68 b44 | exact absurd a122 b150 | exact absurd a150 b122 | (rw [e]; simp [*, yLoA, yLoB, yLk, ySet]; done) | (rw [e]; rfl))
      · have b122 : ¬ Y 0 6 = 0 := c122
        refine x_aload_n (k := 70) rfl rfl ?_
        refine y_fT hY (k := 71) rfl flRX7_104 (by first | assumption | omega) (by decide) ?_
        refine x_goto (tgt := 133) (k := 72) rfl (by decide) ?_
        refine x_iadd (k := 74) rfl ?_
        refine y_iput (k := 75) rfl rfl (by first | assumption | omega) (by first | exact Or.inl rfl | exact Or.inr rfl) ?_
        refine x_aload_n (k := 76) rfl rfl ?_
        refine y_getA (a := 4) (k := 77) rfl flRX7_22 rfl rfl ?_
        refine x_iload_n (k := 78) rfl rfl ?_
        refine x_aload_n (k := 79) rfl rfl ?_
        refine y_getA (a := 4) (k := 80) rfl flRX7_22 rfl rfl ?_
        refine x_iload_n (k := 81) rfl rfl ?_
        refine y_iat (k := 82) rfl ej hj16 (by first | exact yG3 | exact yG4) ?_
        refine x_aload_n (k := 83) rfl rfl ?_
        refine y_get (k := 84) rfl flRX7_29 rfl ?_
        refine x_if_eq (tgt := 157) (k := 85) rfl (by decide) (fun c150 => ?_) (fun c150 => ?_)
        · have a150 : Y 0 6 = 0 := c150
          refine x_iconst (v := 1) (k := 88) rfl (by decide) ?_
          refine x_iadd (k := 89) rfl ?_
          refine y_iput (k := 90) rfl rfl (by first | assumption | omega) (by first | exact Or.inl rfl | exact Or.inr rfl) ?_
          exact y_rD (k := 91) rfl rfl (by first | exact absurd a44 b68 | exact absurd a68 b44 | exact absurd a122 b150 | exact absurd a150 b122 | (rw [e]; simp [*, yLoA, yLoB, yLk, ySet]; done) | (rw [e]; rfl))
        · have b150 : ¬ Y 0 6 = 0 := c150
          refine x_iconst (v := 0) (k := 86) rfl (by decide) ?_
          refine x_goto (tgt := 158) (k := 87) rfl (by decide) ?_
          refine x_iadd (k := 89) rfl ?_
          refine y_iput (k := 90) rfl rfl (by first | assumption | omega) (by first | exact Or.inl rfl | exact Or.inr rfl) ?_
          exact y_rD (k := 91) rfl rfl (by first | exact absurd a44 b68 | exact absurd a68 b44 | exact absurd a122 b150 | exact absurd a150 b122 | (rw [e]; simp [*, yLoA, yLoB, yLk, ySet]; done) | (rw [e]; rfl))
  · have b25 : W 1 i 2 = Y 0 5 := c25
    have e : yLook W Y i = yLoA W Y i := if_pos b25
    refine x_aload_n (k := 16) rfl rfl ?_
    refine y_getA (a := 2) (k := 17) rfl flRX7_15 rfl rfl ?_
    refine x_iload_n (k := 18) rfl rfl ?_
    refine x_iconst (v := 1) (k := 19) rfl (by decide) ?_
    refine y_zput (k := 20) rfl rfl (by first | assumption | omega) nar1 (by first | exact Or.inl rfl | exact Or.inr rfl) ?_
    refine x_aload_n (k := 21) rfl rfl ?_
    refine y_getA (a := 3) (k := 22) rfl flRX7_18 rfl rfl ?_
    refine x_iload_n (k := 23) rfl rfl ?_
    refine x_aload_n (k := 24) rfl rfl ?_
    refine y_get (k := 25) rfl flRX7_29 rfl ?_
    refine x_if_eq (tgt := 54) (k := 26) rfl (by decide) (fun c44 => ?_) (fun c44 => ?_)
    · have a44 : Y 0 6 = 0 := c44
      refine x_aload_n (k := 30) rfl rfl ?_
      refine y_fT hY (k := 31) rfl flRX7_68 (by first | assumption | omega) (by decide) ?_
      refine y_iput (k := 32) rfl rfl (by first | assumption | omega) (by first | exact Or.inl rfl | exact Or.inr rfl) ?_
      refine x_aload_n (k := 33) rfl rfl ?_
      refine y_getA (a := 4) (k := 34) rfl flRX7_22 rfl rfl ?_
      refine x_iload_n (k := 35) rfl rfl ?_
      refine x_aload_n (k := 36) rfl rfl ?_
      refine y_get (k := 37) rfl flRX7_29 rfl ?_
      refine x_if_eq (tgt := 78) (k := 38) rfl (by decide) (fun c68 => ?_) (fun c68 => ?_)
      · have a68 : Y 0 6 = 0 := c68
        refine x_iconst (v := 1) (k := 42) rfl (by decide) ?_
        refine y_iput (k := 43) rfl rfl (by first | assumption | omega) (by first | exact Or.inl rfl | exact Or.inr rfl) ?_
        exact y_rD (k := 44) rfl rfl (by first | exact absurd a44 b68 | exact absurd a68 b44 | exact absurd a122 b150 | exact absurd a150 b122 | (rw [e]; simp [*, yLoA, yLoB, yLk, ySet]; done) | (rw [e]; rfl))
      · have b68 : ¬ Y 0 6 = 0 := c68
        refine x_aload_n (k := 39) rfl rfl ?_
        refine y_fT hY (k := 40) rfl flRX7_68 (by first | assumption | omega) (by decide) ?_
        refine x_goto (tgt := 79) (k := 41) rfl (by decide) ?_
        refine y_iput (k := 43) rfl rfl (by first | assumption | omega) (by first | exact Or.inl rfl | exact Or.inr rfl) ?_
        exact y_rD (k := 44) rfl rfl (by first | exact absurd a44 b68 | exact absurd a68 b44 | exact absurd a122 b150 | exact absurd a150 b122 | (rw [e]; simp [*, yLoA, yLoB, yLk, ySet]; done) | (rw [e]; rfl))
    · have b44 : ¬ Y 0 6 = 0 := c44
      refine x_aload_n (k := 27) rfl rfl ?_
      refine y_fT hY (k := 28) rfl flRX7_104 (by first | assumption | omega) (by decide) ?_
      refine x_goto (tgt := 58) (k := 29) rfl (by decide) ?_
      refine y_iput (k := 32) rfl rfl (by first | assumption | omega) (by first | exact Or.inl rfl | exact Or.inr rfl) ?_
      refine x_aload_n (k := 33) rfl rfl ?_
      refine y_getA (a := 4) (k := 34) rfl flRX7_22 rfl rfl ?_
      refine x_iload_n (k := 35) rfl rfl ?_
      refine x_aload_n (k := 36) rfl rfl ?_
      refine y_get (k := 37) rfl flRX7_29 rfl ?_
      refine x_if_eq (tgt := 78) (k := 38) rfl (by decide) (fun c68 => ?_) (fun c68 => ?_)
      · have a68 : Y 0 6 = 0 := c68
        refine x_iconst (v := 1) (k := 42) rfl (by decide) ?_
        refine y_iput (k := 43) rfl rfl (by first | assumption | omega) (by first | exact Or.inl rfl | exact Or.inr rfl) ?_
        exact y_rD (k := 44) rfl rfl (by first | exact absurd a44 b68 | exact absurd a68 b44 | exact absurd a122 b150 | exact absurd a150 b122 | (rw [e]; simp [*, yLoA, yLoB, yLk, ySet]; done) | (rw [e]; rfl))
      · have b68 : ¬ Y 0 6 = 0 := c68
        refine x_aload_n (k := 39) rfl rfl ?_
        refine y_fT hY (k := 40) rfl flRX7_68 (by first | assumption | omega) (by decide) ?_
        refine x_goto (tgt := 79) (k := 41) rfl (by decide) ?_
        refine y_iput (k := 43) rfl rfl (by first | assumption | omega) (by first | exact Or.inl rfl | exact Or.inr rfl) ?_
        exact y_rD (k := 44) rfl rfl (by first | exact absurd a44 b68 | exact absurd a68 b44 | exact absurd a122 b150 | exact absurd a150 b122 | (rw [e]; simp [*, yLoA, yLoB, yLk, ySet]; done) | (rw [e]; rfl))
theorem l_lookAllA {G : xG} {s : xA} {w y : Nat} {W : Wd} {Y : Yd} (hY : yH G s w y W) (hk : hT W) : ∀ (d i : Nat) (ls : List (Nat × Value)), cT W - i < d → i ≤ cT W → ls.lookup 0 = some (.ref y) → ls.lookup 1 = some (.int (nI i)) → yE G MX7_lookAtAllTrips 35 ls [] s w y (yAll W Y i) (fun r Y1 => r = none ∧ Y1 = yAll W Y (cT W)) := by
  intro d
  induction d with
  | zero =>
    intro i ls hd hi g0 g1
    exact absurd hd (Nat.not_lt_zero _)
  | succ d ih =>
    intro i ls hd hi g0 g1
    obtain ⟨hk1, hk2⟩ := hk
    refine x_sub (ls' := [(0, .ref y), (1, .int (nI i))]) (by simp [*]) ?_
    refine x_iload_n (k := 21) rfl rfl ?_
    refine x_aload_n (k := 22) rfl rfl ?_
    refine y_getW (k := 23) rfl flRX7_25 ?_
    refine y_wget hY (k := 24) rfl flRX7_90 (by decide) ?_
    refine x_icmp_ge (tgt := 60) (k := 25) rfl (by decide) (fun c43 => ?_) (fun c43 => ?_)
    · have e : i = cT W := by
        have := (le_nI hk2 (by omega) (by omega)).mp c43
        omega
      subst e
      exact y_rD (k := 32) rfl rfl rfl
    · have hin : i < cT W := by
        have := mt (le_nI hk2 (by omega) (by omega)).mpr c43
        omega
      refine x_aload_n (k := 26) rfl rfl ?_
      refine x_aload_n (k := 27) rfl rfl ?_
      refine y_callI (ci := 7) (k := 28) rfl (by rfl) (c_latest hY ⟨hk1, hk2⟩ (by omega)) okX7_latestNotLookedAt viX7_latestNotLookedAt mlRX7_93 ⟨Nat.le_of_ble_eq_true rfl, Nat.le_of_ble_eq_true rfl⟩ (by exact Nat.le_of_ble_eq_true rfl) rfl rfl yG0 (by exact Nat.le_of_ble_eq_true rfl) ?_
      refine y_callV (ci := 7) (k := 29) rfl (by rfl) (c_lookAt hY ⟨hk1, hk2⟩ (Nat.lt_of_le_of_lt (llTo_lt _) (by omega))) okX7_lookAt viX7_lookAt mlRX7_97 ⟨Nat.le_of_ble_eq_true rfl, Nat.le_of_ble_eq_true rfl⟩ (by exact Nat.le_of_ble_eq_true rfl) rfl rfl yG0 (by exact Nat.le_of_ble_eq_true rfl) ?_
      refine x_iinc (k := 30) rfl rfl (nI_1 _) (by decide) ?_
      refine x_goto (tgt := 35) (k := 31) rfl (by decide) ?_
      exact ih (i + 1) _ (by omega) (by omega) rfl rfl
theorem l_lookAllB {G : xG} {s : xA} {w y : Nat} {W : Wd} {Y : Yd} (hY : yH G s w y W) (hk : hT W) : ∀ (d i : Nat) (ls : List (Nat × Value)), cT W - i < d → i ≤ cT W → ls.lookup 0 = some (.ref y) → ls.lookup 1 = some (.int (nI i)) → yE G MX7_lookAtAllTrips 2 ls [] s w y (yClr Y i) (fun r Y1 => r = none ∧ Y1 = yAll W (yClr Y (cT W)) (cT W)) := by
  intro d
  induction d with
  | zero =>
    intro i ls hd hi g0 g1
    exact absurd hd (Nat.not_lt_zero _)
  | succ d ih =>
    intro i ls hd hi g0 g1
    have hk1 := hk.1
    have hk2 := hk.2
    refine x_sub (ls' := [(0, .ref y), (1, .int (nI i))]) (by simp [*]) ?_
    refine x_iload_n (k := 2) rfl rfl ?_
    refine x_aload_n (k := 3) rfl rfl ?_
    refine y_getW (k := 4) rfl flRX7_25 ?_
    refine y_wget hY (k := 5) rfl flRX7_90 (by decide) ?_
    refine x_icmp_ge (tgt := 33) (k := 6) rfl (by decide) (fun c10 => ?_) (fun c10 => ?_)
    · have e : i = cT W := by
        have := (le_nI hk2 (by omega) (by omega)).mp c10
        omega
      subst e
      refine x_iconst (v := 0) (k := 19) rfl (by decide) ?_
      refine x_istore_n (k := 20) rfl (by decide) ?_
      exact l_lookAllA hY hk (cT W + 1) 0 _ (by omega) (by omega) rfl rfl
    · have hin : i < cT W := by
        have := mt (le_nI hk2 (by omega) (by omega)).mpr c10
        omega
      refine x_aload_n (k := 7) rfl rfl ?_
      refine y_getA (a := 1) (k := 8) rfl flRX7_9 rfl rfl ?_
      refine x_iload_n (k := 9) rfl rfl ?_
      refine x_iconst (v := 0) (k := 10) rfl (by decide) ?_
      refine y_zput (k := 11) rfl rfl (by first | assumption | omega) nar0 (by first | exact Or.inl rfl | exact Or.inr rfl) ?_
      refine x_aload_n (k := 12) rfl rfl ?_
      refine y_getA (a := 2) (k := 13) rfl flRX7_15 rfl rfl ?_
      refine x_iload_n (k := 14) rfl rfl ?_
      refine x_iconst (v := 0) (k := 15) rfl (by decide) ?_
      refine y_zput (k := 16) rfl rfl (by first | assumption | omega) nar0 (by first | exact Or.inl rfl | exact Or.inr rfl) ?_
      refine x_iinc (k := 17) rfl rfl (nI_1 _) (by decide) ?_
      refine x_goto (tgt := 2) (k := 18) rfl (by decide) ?_
      exact ih (i + 1) _ (by omega) (by omega) rfl rfl
theorem c_lookAll {G : xG} {s : xA} {w y : Nat} {W : Wd} {Y : Yd} (hY : yH G s w y W) (hk : hT W) : yV G MX7_lookAtAllTrips [.ref y] s w y Y (yAll W (yClr Y (cT W)) (cT W)) := by
  refine x_iconst (v := 0) (k := 0) rfl (by decide) ?_
  refine x_istore_n (k := 1) rfl (by decide) ?_
  exact l_lookAllB hY hk (cT W + 1) 0 _ (by omega) (by omega) rfl rfl
theorem l_begL {G : xG} {s : xA} {w y : Nat} {W : Wd}  (hY : yH G s w y W) {tn hr b : Int32} : ∀ (n : Nat) (Y : Yd) (ls : List (Nat × Value)), n < 16 → ls.lookup 0 = some (.ref y) → ls.lookup 1 = some (.int tn) → ls.lookup 2 = some (.int hr) → ls.lookup 3 = some (.int b) → ls.lookup 4 = some (.int (nI n - 1)) → yE G MX7_begin 60 ls [] s w y Y (fun r Y1 => r = none ∧ Y1 = ybTo W Y tn hr n) := by
  intro n
  induction n with
  | zero =>
    intro Y ls hn g0 g1 g2 g3 g4
    refine x_sub (ls' := [(0, .ref y), (1, .int tn), (2, .int hr), (3, .int b), (4, .int (-1))]) (by simp [*]; decide) ?_
    refine x_iload (k := 36) rfl rfl ?_
    refine x_if_lt (tgt := 119) (k := 37) rfl (by decide) (fun c62 => ?_) (fun c62 => absurd (by decide) c62)
    exact y_rD (k := 64) rfl rfl rfl
  | succ n ih =>
    intro Y ls hn g0 g1 g2 g3 g4
    rw [nI_pred] at g4
    refine x_sub (ls' := [(0, .ref y), (1, .int tn), (2, .int hr), (3, .int b), (4, .int (nI n))]) (by simp [*]) ?_
    refine x_iload (k := 36) rfl rfl ?_
    refine x_if_lt (tgt := 119) (k := 37) rfl (by decide) (fun c62 => absurd c62 (nI_pos (by omega))) (fun c62 => ?_)
    refine x_aload_n (k := 38) rfl rfl ?_
    refine y_getA (a := 2) (k := 39) rfl flRX7_15 rfl rfl ?_
    refine x_iload (k := 40) rfl rfl ?_
    refine y_zat (k := 41) rfl rfl (by first | assumption | omega) (by first | exact yG1 | exact yG2) ?_
    refine x_if_eq (tgt := 113) (k := 42) rfl (by decide) (fun c72 => ?_) (fun c72 => ?_)
    · have a72 := c72
      refine x_iinc (k := 62) rfl rfl (show nI n + Int32.ofInt (-1) = nI n - 1 from i_m1 _) (by decide) ?_
      refine x_goto (tgt := 60) (k := 63) rfl (by decide) ?_
      refine (ih _ _ (by omega) rfl rfl rfl rfl rfl).mono (fun r t q => ?_)
      obtain ⟨Y1, e1, e2, e3⟩ := q
      refine ⟨Y1, e1, e2, e3.trans ?_⟩
      rw [ybTo]
      first | (rw [if_pos ⟨⟨b72, b90⟩, b104⟩]; done) | (rw [if_neg (fun q => q.1.1 a72)]; done) | (rw [if_neg (fun q => a90 q.1.2)]; done) | (rw [if_neg (fun q => a104 q.2)]; done)
    · have b72 := c72
      refine x_aload_n (k := 43) rfl rfl ?_
      refine y_getW (k := 44) rfl flRX7_25 ?_
      refine y_wT hY (k := 45) rfl flRX7_59 ?_
      refine x_iload (k := 46) rfl rfl ?_
      refine y_atT hY (k := 47) rfl rfl (by first | assumption | omega) ?_
      refine x_iload_n (k := 48) rfl rfl ?_
      refine x_iload_n (k := 49) rfl rfl ?_
      refine y_callW (ci := 6) (k := 50) rfl (by rfl) (wI_lk hY.is (c_canBeCaught (by omega) _ _)) okX6_canBeCaught viX6_canBeCaught mlRX7_111 ⟨Nat.le_of_ble_eq_true rfl, Nat.le_of_ble_eq_true rfl⟩ (by exact Nat.le_of_ble_eq_true rfl) rfl rfl (y_WT hY (by first | assumption | omega)) (by exact Nat.le_of_ble_eq_true rfl) ?_
      refine x_if_eq (tgt := 113) (k := 51) rfl (by decide) (fun c90 => ?_) (fun c90 => ?_)
      · replace c90 := bz_eq0 c90
        have a90 := c90
        refine x_iinc (k := 62) rfl rfl (show nI n + Int32.ofInt (-1) = nI n - 1 from i_m1 _) (by decide) ?_
        refine x_goto (tgt := 60) (k := 63) rfl (by decide) ?_
        refine (ih _ _ (by omega) rfl rfl rfl rfl rfl).mono (fun r t q => ?_)
        obtain ⟨Y1, e1, e2, e3⟩ := q
        refine ⟨Y1, e1, e2, e3.trans ?_⟩
        rw [ybTo]
        first | (rw [if_pos ⟨⟨b72, b90⟩, b104⟩]; done) | (rw [if_neg (fun q => q.1.1 a72)]; done) | (rw [if_neg (fun q => a90 q.1.2)]; done) | (rw [if_neg (fun q => a104 q.2)]; done)
      · replace c90 := bz_ne0 c90
        have b90 := c90
        refine x_aload_n (k := 52) rfl rfl ?_
        refine y_getA (a := 3) (k := 53) rfl flRX7_18 rfl rfl ?_
        refine x_iload (k := 54) rfl rfl ?_
        refine y_iat (k := 55) rfl rfl (by first | assumption | omega) (by first | exact yG3 | exact yG4) ?_
        refine x_aload_n (k := 56) rfl rfl ?_
        refine y_get (k := 57) rfl flRX7_74 rfl ?_
        refine x_icmp_ne (tgt := 113) (k := 58) rfl (by decide) (fun c104 => ?_) (fun c104 => ?_)
        · have a104 := c104
          refine x_iinc (k := 62) rfl rfl (show nI n + Int32.ofInt (-1) = nI n - 1 from i_m1 _) (by decide) ?_
          refine x_goto (tgt := 60) (k := 63) rfl (by decide) ?_
          refine (ih _ _ (by omega) rfl rfl rfl rfl rfl).mono (fun r t q => ?_)
          obtain ⟨Y1, e1, e2, e3⟩ := q
          refine ⟨Y1, e1, e2, e3.trans ?_⟩
          rw [ybTo]
          first | (rw [if_pos ⟨⟨b72, b90⟩, b104⟩]; done) | (rw [if_neg (fun q => q.1.1 a72)]; done) | (rw [if_neg (fun q => a90 q.1.2)]; done) | (rw [if_neg (fun q => a104 q.2)]; done)
        · have b104 := c104
          refine x_aload_n (k := 59) rfl rfl ?_
          refine x_iload (k := 60) rfl rfl ?_
          refine y_put (k := 61) rfl flRX7_80 ft7_3 (by decide) rfl rfl rfl ?_
          refine x_iinc (k := 62) rfl rfl (show nI n + Int32.ofInt (-1) = nI n - 1 from i_m1 _) (by decide) ?_
          refine x_goto (tgt := 60) (k := 63) rfl (by decide) ?_
          refine (ih _ _ (by omega) rfl rfl rfl rfl rfl).mono (fun r t q => ?_)
          obtain ⟨Y1, e1, e2, e3⟩ := q
          refine ⟨Y1, e1, e2, e3.trans ?_⟩
          rw [ybTo]
          first | (rw [if_pos ⟨⟨b72, b90⟩, b104⟩]; done) | (rw [if_neg (fun q => q.1.1 a72)]; done) | (rw [if_neg (fun q => a90 q.1.2)]; done) | (rw [if_neg (fun q => a104 q.2)]; done)
theorem l_begT {G : xG} {s : xA} {w y : Nat} {W : Wd} {Y : Yd} (hY : yH G s w y W) {tn hr : Int32} {b : Nat} (hb : b < 16) (ls : List (Nat × Value)) (g0 : ls.lookup 0 = some (.ref y)) (g1 : ls.lookup 1 = some (.int tn)) (g2 : ls.lookup 2 = some (.int hr)) (g3 : ls.lookup 3 = some (.int (nI b))) : yE G MX7_begin 22 ls [] s w y (ySet Y 0 0 1) (fun r Y1 => r = none ∧ Y1 = ybTo W (yBeG Y (nI b)) tn hr b) := by
  refine x_sub (ls' := [(0, .ref y), (1, .int tn), (2, .int hr), (3, .int (nI b))]) (by simp [*]) ?_
  refine x_aload_n (k := 13) rfl rfl ?_
  refine y_get (k := 14) rfl flRX7_71 rfl ?_
  refine x_if_ne (tgt := 30) (k := 15) rfl (by decide) (fun c26 => ?_) (fun c26 => absurd (show (1 : Int32) = 0 from c26) (by decide))
  refine x_aload_n (k := 17) rfl rfl ?_
  refine x_aload_n (k := 18) rfl rfl ?_
  refine y_getA (a := 3) (k := 19) rfl flRX7_18 rfl rfl ?_
  refine x_iload_n (k := 20) rfl rfl ?_
  refine y_iat (k := 21) rfl rfl (by first | assumption | omega) (by first | exact yG3 | exact yG4) ?_
  refine y_put (k := 22) rfl flRX7_74 ft7_1 (by decide) rfl rfl rfl ?_
  refine x_aload_n (k := 23) rfl rfl ?_
  refine x_aload_n (k := 24) rfl rfl ?_
  refine y_getA (a := 4) (k := 25) rfl flRX7_22 rfl rfl ?_
  refine x_iload_n (k := 26) rfl rfl ?_
  refine y_iat (k := 27) rfl rfl (by first | assumption | omega) (by first | exact yG3 | exact yG4) ?_
  refine y_put (k := 28) rfl flRX7_77 ft7_2 (by decide) rfl rfl rfl ?_
  refine x_aload_n (k := 29) rfl rfl ?_
  refine x_iload_n (k := 30) rfl rfl ?_
  refine y_put (k := 31) rfl flRX7_80 ft7_3 (by decide) rfl rfl rfl ?_
  refine x_iload_n (k := 32) rfl rfl ?_
  refine x_iconst (v := 1) (k := 33) rfl (by decide) ?_
  refine x_isub (k := 34) rfl ?_
  refine x_istore (k := 35) rfl (by decide) ?_
  refine (l_begL hY b _ _ hb rfl rfl rfl rfl rfl).mono (fun r t q => ?_)
  obtain ⟨Y1, e1, e2, e3⟩ := q
  refine ⟨Y1, e1, e2, e3.trans ?_⟩
  rw [yBeG, yBeF, bz_1 (show ¬ nI b = -9 from fun q => absurd (show nI b < 0 by rw [q]; decide) (nI_pos (by omega))), show ix (nI b) = b from nI_clamp (by omega)]
  rfl
theorem l_begF {G : xG} {s : xA} {w y : Nat} {Y : Yd} (ls : List (Nat × Value)) (g0 : ls.lookup 0 = some (.ref y)) : yE G MX7_begin 22 ls [] s w y (ySet Y 0 0 0) (fun r Y1 => r = none ∧ Y1 = yBeF Y (-9)) := by
  refine x_sub (ls' := [(0, .ref y)]) (by simp [*]) ?_
  refine x_aload_n (k := 13) rfl rfl ?_
  refine y_get (k := 14) rfl flRX7_71 rfl ?_
  refine x_if_ne (tgt := 30) (k := 15) rfl (by decide) (fun c26 => absurd (show (0 : Int32) = 0 from rfl) c26) (fun c26 => ?_)
  exact y_rD (k := 16) rfl rfl (by rw [yBeF, bz_0 (by decide)])
theorem c_begin {G : xG} {s : xA} {w y : Nat} {W : Wd} {Y : Yd} (hY : yH G s w y W) (hk : hT W) (tn hr : Int32) : yV G MX7_begin [.ref y, .int tn, .int hr] s w y Y (yBeg W Y tn hr) := by
  refine x_aload_n (k := 0) rfl rfl ?_
  refine x_iload_n (k := 1) rfl rfl ?_
  refine x_iload_n (k := 2) rfl rfl ?_
  refine y_callI (ci := 7) (k := 3) rfl (by rfl) (c_bestFrom hY _ _ hk) okX7_bestFrom viX7_bestFrom mlRX7_107 ⟨Nat.le_of_ble_eq_true rfl, Nat.le_of_ble_eq_true rfl⟩ (by exact Nat.le_of_ble_eq_true rfl) rfl rfl yG0 (by exact Nat.le_of_ble_eq_true rfl) ?_
  refine x_istore_n (k := 4) rfl (by decide) ?_
  refine x_aload_n (k := 5) rfl rfl ?_
  refine x_iload_n (k := 6) rfl rfl ?_
  refine x_bipush (v := -9) (k := 7) rfl (by decide) ?_
  refine x_icmp_eq (tgt := 18) (k := 8) rfl (by decide) (fun c11 => ?_) (fun c11 => ?_)
  · have e : yBeg W Y tn hr = yBeF Y (-9) := if_pos c11
    refine x_iconst (v := 0) (k := 11) rfl (by decide) ?_
    refine y_put (k := 12) rfl flRX7_71 ft7_0 (by decide) rfl rfl rfl ?_
    rw [e]
    first | exact l_begF _ rfl | exact l_begT hY hj16 _ rfl rfl rfl (by rw [← ej]; rfl)
  · obtain ⟨j, hj, ej⟩ := (bfTo_is (W := W) (Y := Y) (tn := tn) (hr := hr) (cT W)).resolve_left c11
    have hj16 : j < 16 := by have := hk.1; omega
    have e : yBeg W Y tn hr = ybTo W (yBeG Y (nI j)) tn hr j := by rw [yBeg, if_neg c11, ej, show ix (nI j) = j from nI_clamp (by omega)]
    refine x_iconst (v := 1) (k := 9) rfl (by decide) ?_
    refine x_goto (tgt := 19) (k := 10) rfl (by decide) ?_
    refine y_put (k := 12) rfl flRX7_71 ft7_0 (by decide) rfl rfl rfl ?_
    rw [e]
    first | exact l_begF _ rfl | exact l_begT hY hj16 _ rfl rfl rfl (by rw [← ej]; rfl)
theorem c_search {G : xG} {s : xA} {w y : Nat} {W : Wd} {Y : Yd} (hY : yH G s w y W) (hk : hT W) {k : Nat} (hk10 : k < 10) {c : Int32} (hc : c = 0 ∨ c = 1) (hh : W 2 k 6 < 10 → isP (W 2 k 6)) (ht : ¬ sOn W (W 2 k 6) = -9 → ∃ t : Nat, t < 16 ∧ sOn W (W 2 k 6) = nI t) : yV G MX7_search [.ref y, .int (nI k), .int c] s w y Y (ySea W Y k c) := by
  refine x_aload_n (k := 0) rfl rfl ?_
  refine x_iload_n (k := 1) rfl rfl ?_
  refine y_put (k := 2) rfl flRX7_29 ft7_6 (by decide) rfl (by rcases hc with rfl | rfl <;> rfl) (by rcases hc with rfl | rfl <;> rfl) ?_
  refine x_aload_n (k := 3) rfl rfl ?_
  refine y_getW (k := 4) rfl flRX7_25 ?_
  refine y_wK hY (k := 5) rfl flRX7_33 ?_
  refine x_iload_n (k := 6) rfl rfl ?_
  refine y_atK hY (k := 7) rfl rfl (by first | assumption | omega) ?_
  refine x_astore_n (k := 8) rfl (by decide) ?_
  refine x_aload_n (k := 9) rfl rfl ?_
  refine x_aload_n (k := 10) rfl rfl ?_
  refine y_fK hY (k := 11) rfl flRX7_39 (by first | assumption | omega) (by decide) ?_
  refine y_put (k := 12) rfl flRX7_45 ft7_5 (by decide) rfl rfl rfl ?_
  refine x_aload_n (k := 13) rfl rfl ?_
  refine y_getW (k := 14) rfl flRX7_25 ?_
  refine x_aload_n (k := 15) rfl rfl ?_
  refine y_fK hY (k := 16) rfl flRX7_46 (by first | assumption | omega) (by decide) ?_
  refine y_callW (ci := 8) (k := 17) rfl (by rfl) (wI_lk hY.is (c_townOf hh)) okX8_townOf viX8_townOf mlRX7_49 ⟨Nat.le_of_ble_eq_true rfl, Nat.le_of_ble_eq_true rfl⟩ (by exact Nat.le_of_ble_eq_true rfl) rfl rfl (y_W0 hY) (by exact Nat.le_of_ble_eq_true rfl) ?_
  refine x_istore (k := 18) rfl (by decide) ?_
  refine x_aload_n (k := 19) rfl rfl ?_
  refine y_getW (k := 20) rfl flRX7_25 ?_
  refine y_wget hY (k := 21) rfl flRX7_53 (by decide) ?_
  refine x_istore (k := 22) rfl (by decide) ?_
  refine x_aload_n (k := 23) rfl rfl ?_
  refine y_getW (k := 24) rfl flRX7_25 ?_
  refine x_aload_n (k := 25) rfl rfl ?_
  refine y_fK hY (k := 26) rfl flRX7_46 (by first | assumption | omega) (by decide) ?_
  refine y_callW (ci := 8) (k := 27) rfl (by rfl) (wI_lk hY.is (c_tripOf hh)) okX8_tripOf viX8_tripOf mlRX7_56 ⟨Nat.le_of_ble_eq_true rfl, Nat.le_of_ble_eq_true rfl⟩ (by exact Nat.le_of_ble_eq_true rfl) rfl rfl (y_W0 hY) (by exact Nat.le_of_ble_eq_true rfl) ?_
  refine x_istore (k := 28) rfl (by decide) ?_
  refine x_sub (ls' := [(0, .ref y), (4, .int (sTown W (W 2 k 6))), (5, .int (W 3 0 0)), (6, .int (sOn W (W 2 k 6)))]) (fun q hq => by
    simp only [List.mem_cons, List.not_mem_nil, or_false] at hq
    rcases hq with rfl | rfl | rfl | rfl <;> rfl) ?_
  refine x_iload (k := 29) rfl rfl ?_
  refine x_bipush (v := -9) (k := 30) rfl (by decide) ?_
  refine x_icmp_eq (tgt := 95) (k := 31) rfl (by decide) (fun c62 => ?_) (fun c62 => ?_)
  · have eT : yTn W k = sTown W (W 2 k 6) := if_pos c62
    have eH : yHr W k = W 3 0 0 := if_pos c62
    refine x_iload (k := 46) rfl rfl ?_
    refine x_aload_n (k := 47) rfl rfl ?_
    refine y_get (k := 48) rfl flRX7_45 rfl ?_
    refine x_icmp_ne (tgt := 150) (k := 49) rfl (by decide) (fun c101 => ?_) (fun c101 => ?_)
    · have a101 : ¬ yTn W k = W 2 k 2 := by rw [eT]; exact c101
      have e : ySea W Y k c = yBeg W (yAll W (yClr (yIn W Y k c) (cT W)) (cT W)) (yTn W k) (yHr W k) := if_neg a101
      refine x_aload_n (k := 73) rfl rfl ?_
      refine y_callV (ci := 7) (k := 74) rfl (by rfl) (c_lookAll hY hk) okX7_lookAtAllTrips viX7_lookAtAllTrips mlRX7_83 ⟨Nat.le_of_ble_eq_true rfl, Nat.le_of_ble_eq_true rfl⟩ (by exact Nat.le_of_ble_eq_true rfl) rfl rfl yG0 (by exact Nat.le_of_ble_eq_true rfl) ?_
      refine x_aload_n (k := 75) rfl rfl ?_
      refine x_iload (k := 76) rfl rfl ?_
      refine x_iload (k := 77) rfl rfl ?_
      refine y_callV (ci := 7) (k := 78) rfl (by rfl) (c_begin hY hk _ _) okX7_begin viX7_begin mlRX7_86 ⟨Nat.le_of_ble_eq_true rfl, Nat.le_of_ble_eq_true rfl⟩ (by exact Nat.le_of_ble_eq_true rfl) rfl rfl yG0 (by exact Nat.le_of_ble_eq_true rfl) ?_
      exact y_rD (k := 79) rfl rfl (by rw [e, eT, eH]; rfl)
    · have b101 : yTn W k = W 2 k 2 := by rw [eT]; exact c101
      have e : ySea W Y k c = yThe (yIn W Y k c) (yHr W k) := if_pos b101
      refine x_aload_n (k := 50) rfl rfl ?_
      refine x_iconst (v := 1) (k := 51) rfl (by decide) ?_
      refine y_put (k := 52) rfl flRX7_71 ft7_0 (by decide) rfl rfl rfl ?_
      refine x_aload_n (k := 53) rfl rfl ?_
      refine x_aload_n (k := 54) rfl rfl ?_
      refine y_get (k := 55) rfl flRX7_29 rfl ?_
      refine x_if_eq (tgt := 121) (k := 56) rfl (by decide) (fun c114 => ?_) (fun c114 => ?_)
      · have a114 : c = 0 := c114
        refine x_iload (k := 59) rfl rfl ?_
        refine y_put (k := 60) rfl flRX7_74 ft7_1 (by decide) rfl rfl rfl ?_
        refine x_aload_n (k := 61) rfl rfl ?_
        refine x_aload_n (k := 62) rfl rfl ?_
        refine y_get (k := 63) rfl flRX7_29 rfl ?_
        refine x_if_eq (tgt := 139) (k := 64) rfl (by decide) (fun c131 => ?_) (fun c131 => ?_)
        · have a131 : c = 0 := c131
          refine x_iconst (v := 0) (k := 67) rfl (by decide) ?_
          refine y_put (k := 68) rfl flRX7_77 ft7_2 (by decide) rfl rfl rfl ?_
          refine x_aload_n (k := 69) rfl rfl ?_
          refine x_bipush (v := -9) (k := 70) rfl (by decide) ?_
          refine y_put (k := 71) rfl flRX7_80 ft7_3 (by decide) rfl rfl rfl ?_
          exact y_rD (k := 72) rfl rfl (by first | exact absurd a114 b131 | exact absurd a131 b114 | (rw [e, eH]; simp [yThe, yIn, ySet, *]))
        · have b131 : ¬ c = 0 := c131
          refine x_iload (k := 65) rfl rfl ?_
          refine x_goto (tgt := 140) (k := 66) rfl (by decide) ?_
          refine y_put (k := 68) rfl flRX7_77 ft7_2 (by decide) rfl rfl rfl ?_
          refine x_aload_n (k := 69) rfl rfl ?_
          refine x_bipush (v := -9) (k := 70) rfl (by decide) ?_
          refine y_put (k := 71) rfl flRX7_80 ft7_3 (by decide) rfl rfl rfl ?_
          exact y_rD (k := 72) rfl rfl (by first | exact absurd a114 b131 | exact absurd a131 b114 | (rw [e, eH]; simp [yThe, yIn, ySet, *]))
      · have b114 : ¬ c = 0 := c114
        refine x_iconst (v := 0) (k := 57) rfl (by decide) ?_
        refine x_goto (tgt := 123) (k := 58) rfl (by decide) ?_
        refine y_put (k := 60) rfl flRX7_74 ft7_1 (by decide) rfl rfl rfl ?_
        refine x_aload_n (k := 61) rfl rfl ?_
        refine x_aload_n (k := 62) rfl rfl ?_
        refine y_get (k := 63) rfl flRX7_29 rfl ?_
        refine x_if_eq (tgt := 139) (k := 64) rfl (by decide) (fun c131 => ?_) (fun c131 => ?_)
        · have a131 : c = 0 := c131
          refine x_iconst (v := 0) (k := 67) rfl (by decide) ?_
          refine y_put (k := 68) rfl flRX7_77 ft7_2 (by decide) rfl rfl rfl ?_
          refine x_aload_n (k := 69) rfl rfl ?_
          refine x_bipush (v := -9) (k := 70) rfl (by decide) ?_
          refine y_put (k := 71) rfl flRX7_80 ft7_3 (by decide) rfl rfl rfl ?_
          exact y_rD (k := 72) rfl rfl (by first | exact absurd a114 b131 | exact absurd a131 b114 | (rw [e, eH]; simp [yThe, yIn, ySet, *]))
        · have b131 : ¬ c = 0 := c131
          refine x_iload (k := 65) rfl rfl ?_
          refine x_goto (tgt := 140) (k := 66) rfl (by decide) ?_
          refine y_put (k := 68) rfl flRX7_77 ft7_2 (by decide) rfl rfl rfl ?_
          refine x_aload_n (k := 69) rfl rfl ?_
          refine x_bipush (v := -9) (k := 70) rfl (by decide) ?_
          refine y_put (k := 71) rfl flRX7_80 ft7_3 (by decide) rfl rfl rfl ?_
          exact y_rD (k := 72) rfl rfl (by first | exact absurd a114 b131 | exact absurd a131 b114 | (rw [e, eH]; simp [yThe, yIn, ySet, *]))
  · obtain ⟨q, hq, eq⟩ := ht c62
    have eT : yTn W k = W 1 q 2 := by rw [yTn, if_neg c62, eq, show ix (nI q) = q from nI_clamp (by omega)]
    have eH : yHr W k = W 1 q 4 := by rw [yHr, if_neg c62, eq, show ix (nI q) = q from nI_clamp (by omega)]
    refine x_aload_n (k := 32) rfl rfl ?_
    refine y_getW (k := 33) rfl flRX7_25 ?_
    refine y_wT hY (k := 34) rfl flRX7_59 ?_
    refine x_iload (k := 35) rfl rfl ?_
    refine y_atT hY (k := 36) rfl eq (by first | assumption | omega) ?_
    refine y_fT hY (k := 37) rfl flRX7_63 (by first | assumption | omega) (by decide) ?_
    refine x_istore (k := 38) rfl (by decide) ?_
    refine x_aload_n (k := 39) rfl rfl ?_
    refine y_getW (k := 40) rfl flRX7_25 ?_
    refine y_wT hY (k := 41) rfl flRX7_59 ?_
    refine x_iload (k := 42) rfl rfl ?_
    refine y_atT hY (k := 43) rfl eq (by first | assumption | omega) ?_
    refine y_fT hY (k := 44) rfl flRX7_68 (by first | assumption | omega) (by decide) ?_
    refine x_istore (k := 45) rfl (by decide) ?_
    refine x_iload (k := 46) rfl rfl ?_
    refine x_aload_n (k := 47) rfl rfl ?_
    refine y_get (k := 48) rfl flRX7_45 rfl ?_
    refine x_icmp_ne (tgt := 150) (k := 49) rfl (by decide) (fun c101 => ?_) (fun c101 => ?_)
    · have a101 : ¬ yTn W k = W 2 k 2 := by rw [eT]; exact c101
      have e : ySea W Y k c = yBeg W (yAll W (yClr (yIn W Y k c) (cT W)) (cT W)) (yTn W k) (yHr W k) := if_neg a101
      refine x_aload_n (k := 73) rfl rfl ?_
      refine y_callV (ci := 7) (k := 74) rfl (by rfl) (c_lookAll hY hk) okX7_lookAtAllTrips viX7_lookAtAllTrips mlRX7_83 ⟨Nat.le_of_ble_eq_true rfl, Nat.le_of_ble_eq_true rfl⟩ (by exact Nat.le_of_ble_eq_true rfl) rfl rfl yG0 (by exact Nat.le_of_ble_eq_true rfl) ?_
      refine x_aload_n (k := 75) rfl rfl ?_
      refine x_iload (k := 76) rfl rfl ?_
      refine x_iload (k := 77) rfl rfl ?_
      refine y_callV (ci := 7) (k := 78) rfl (by rfl) (c_begin hY hk _ _) okX7_begin viX7_begin mlRX7_86 ⟨Nat.le_of_ble_eq_true rfl, Nat.le_of_ble_eq_true rfl⟩ (by exact Nat.le_of_ble_eq_true rfl) rfl rfl yG0 (by exact Nat.le_of_ble_eq_true rfl) ?_
      exact y_rD (k := 79) rfl rfl (by rw [e, eT, eH]; rfl)
    · have b101 : yTn W k = W 2 k 2 := by rw [eT]; exact c101
      have e : ySea W Y k c = yThe (yIn W Y k c) (yHr W k) := if_pos b101
      refine x_aload_n (k := 50) rfl rfl ?_
      refine x_iconst (v := 1) (k := 51) rfl (by decide) ?_
      refine y_put (k := 52) rfl flRX7_71 ft7_0 (by decide) rfl rfl rfl ?_
      refine x_aload_n (k := 53) rfl rfl ?_
      refine x_aload_n (k := 54) rfl rfl ?_
      refine y_get (k := 55) rfl flRX7_29 rfl ?_
      refine x_if_eq (tgt := 121) (k := 56) rfl (by decide) (fun c114 => ?_) (fun c114 => ?_)
      · have a114 : c = 0 := c114
        refine x_iload (k := 59) rfl rfl ?_
        refine y_put (k := 60) rfl flRX7_74 ft7_1 (by decide) rfl rfl rfl ?_
        refine x_aload_n (k := 61) rfl rfl ?_
        refine x_aload_n (k := 62) rfl rfl ?_
        refine y_get (k := 63) rfl flRX7_29 rfl ?_
        refine x_if_eq (tgt := 139) (k := 64) rfl (by decide) (fun c131 => ?_) (fun c131 => ?_)
        · have a131 : c = 0 := c131
          refine x_iconst (v := 0) (k := 67) rfl (by decide) ?_
          refine y_put (k := 68) rfl flRX7_77 ft7_2 (by decide) rfl rfl rfl ?_
          refine x_aload_n (k := 69) rfl rfl ?_
          refine x_bipush (v := -9) (k := 70) rfl (by decide) ?_
          refine y_put (k := 71) rfl flRX7_80 ft7_3 (by decide) rfl rfl rfl ?_
          exact y_rD (k := 72) rfl rfl (by first | exact absurd a114 b131 | exact absurd a131 b114 | (rw [e, eH]; simp [yThe, yIn, ySet, *]))
        · have b131 : ¬ c = 0 := c131
          refine x_iload (k := 65) rfl rfl ?_
          refine x_goto (tgt := 140) (k := 66) rfl (by decide) ?_
          refine y_put (k := 68) rfl flRX7_77 ft7_2 (by decide) rfl rfl rfl ?_
          refine x_aload_n (k := 69) rfl rfl ?_
          refine x_bipush (v := -9) (k := 70) rfl (by decide) ?_
          refine y_put (k := 71) rfl flRX7_80 ft7_3 (by decide) rfl rfl rfl ?_
          exact y_rD (k := 72) rfl rfl (by first | exact absurd a114 b131 | exact absurd a131 b114 | (rw [e, eH]; simp [yThe, yIn, ySet, *]))
      · have b114 : ¬ c = 0 := c114
        refine x_iconst (v := 0) (k := 57) rfl (by decide) ?_
        refine x_goto (tgt := 123) (k := 58) rfl (by decide) ?_
        refine y_put (k := 60) rfl flRX7_74 ft7_1 (by decide) rfl rfl rfl ?_
        refine x_aload_n (k := 61) rfl rfl ?_
        refine x_aload_n (k := 62) rfl rfl ?_
        refine y_get (k := 63) rfl flRX7_29 rfl ?_
        refine x_if_eq (tgt := 139) (k := 64) rfl (by decide) (fun c131 => ?_) (fun c131 => ?_)
        · have a131 : c = 0 := c131
          refine x_iconst (v := 0) (k := 67) rfl (by decide) ?_
          refine y_put (k := 68) rfl flRX7_77 ft7_2 (by decide) rfl rfl rfl ?_
          refine x_aload_n (k := 69) rfl rfl ?_
          refine x_bipush (v := -9) (k := 70) rfl (by decide) ?_
          refine y_put (k := 71) rfl flRX7_80 ft7_3 (by decide) rfl rfl rfl ?_
          exact y_rD (k := 72) rfl rfl (by first | exact absurd a114 b131 | exact absurd a131 b114 | (rw [e, eH]; simp [yThe, yIn, ySet, *]))
        · have b131 : ¬ c = 0 := c131
          refine x_iload (k := 65) rfl rfl ?_
          refine x_goto (tgt := 140) (k := 66) rfl (by decide) ?_
          refine y_put (k := 68) rfl flRX7_77 ft7_2 (by decide) rfl rfl rfl ?_
          refine x_aload_n (k := 69) rfl rfl ?_
          refine x_bipush (v := -9) (k := 70) rfl (by decide) ?_
          refine y_put (k := 71) rfl flRX7_80 ft7_3 (by decide) rfl rfl rfl ?_
          exact y_rD (k := 72) rfl rfl (by first | exact absurd a114 b131 | exact absurd a131 b114 | (rw [e, eH]; simp [yThe, yIn, ySet, *]))
