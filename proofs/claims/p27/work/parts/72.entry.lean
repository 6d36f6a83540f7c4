-- ===== the law from its entry =====
theorem W0_Gd : Gd 0 0 0 0 W0 := by
  refine ⟨⟨⟨by decide, by decide, by decide, by decide⟩, rfl, rfl, rfl, rfl⟩, fun p hp => ⟨Or.inr ⟨⟨p % 6, Nat.mod_lt _ (by decide), rfl⟩, rfl⟩, by show ¬ (40 : Int32) < 0; decide⟩, fun t ht => absurd ht (Nat.not_lt_zero t), fun k hk => absurd hk (Nat.not_lt_zero k), fun x => Nat.zero_le _⟩
theorem W0_J : Jn 0 0 0 0 0 W0 := ⟨W0_Gd, rfl, ⟨⟨1120, rfl, fun _ => 100, fun _ => 40, fun p hp => ⟨rfl, rfl⟩, rfl⟩, rfl⟩, ⟨fun p hp t ht => absurd ht (Nat.not_lt_zero t), fun t ht => absurd ht (Nat.not_lt_zero t), fun t u ht => absurd ht (Nat.not_lt_zero t)⟩, fun k hk => absurd hk (Nat.not_lt_zero k)⟩
theorem D0_J : IvD 0 D0s := ⟨⟨0, 0, 0, 0, 0, W0_J, Nat.le_refl _⟩, fun i hi => Or.inl rfl⟩
/-- the law, whatever its script of at most 260 ints: true -/
theorem c_law {G : xG} {s : xA} (hL : gLen G ≤ 260) : xMe G ML_law [.ref (gS3 G)] s (fun r s1 => r = some (.int 1) ∧ s1.2.1 ≤ s.2.1 + 600000 ∧ s1.2.2 ≤ s.2.2 + 7302250) := by
  refine x_new (ci := 9) (fs := oZ) (k := 0) rfl rfl clRL_14 wn9 wi_RX9 tyX9 tyX9_ok (fun j hj => by have hj : j < 5 := hj; rcases (show j = 0 ∨ j = 1 ∨ j = 2 ∨ j = 3 ∨ j = 4 by omega) with rfl | rfl | rfl | rfl | rfl <;> rfl) ?_
  refine x_dup (k := 1) rfl rfl ?_
  refine x_cI (k := 2) rfl (by rfl) (c_newO (t := s)) okX9_init rfl rfl viX9_init mlRL_92 ⟨Nat.le_of_ble_eq_true rfl, Nat.le_of_ble_eq_true rfl⟩ (by exact Nat.le_of_ble_eq_true rfl) rfl (by exact Nat.le_of_ble_eq_true rfl) ?_
  refine x_astore_n (k := 3) rfl (by decide) ?_
  refine x_sub (ls' := [(0, .ref (gS3 G)), (1, .ref s.2.1)]) (by intro q hq; simp only [List.mem_cons, List.not_mem_nil, or_false] at hq; rcases hq with rfl | rfl <;> rfl) ?_
  have fin : ∀ n : Nat, n ≤ 40 → xE G ML_law 26 [(0, .ref (gS3 G)), (1, .ref s.2.1)] [.int (nI n)] (mkO G s) (fun r s1 => r = some (.int 1) ∧ s1.2.1 ≤ s.2.1 + 600000 ∧ s1.2.2 ≤ s.2.2 + 7302250) := fun n hn => by
    refine x_istore_n (k := 16) rfl (by decide) ?_
    refine x_iconst (v := 0) (k := 17) rfl (by decide) ?_
    refine x_istore_n (k := 18) rfl (by decide) ?_
    refine (l_law (B1 := s.2.1 + 53) (B2 := s.2.2 + 987) hL hn n 0 _ _ _ (Nat.zero_add _) (mkO_Ob (own := fun _ => 0)) D0_J (Nat.le_of_eq mkO_n.1) (Nat.le_of_eq mkO_n.2)).mono (fun r s1 q => ⟨q.1, ?_, ?_⟩)
    · exact Nat.le_trans q.2.1 (by rw [Nat.add_assoc]; exact Nat.add_le_add_left (Nat.le_of_ble_eq_true rfl) _)
    · exact Nat.le_trans q.2.2 (by rw [Nat.add_assoc]; exact Nat.add_le_add_left (Nat.le_of_ble_eq_true rfl) _)
  have h3 : nI (gLen G) / 3 = nI (gLen G / 3) := pk_div (d := 3) (by omega) (by decide) (by decide)
  refine x_aload_n (k := 4) rfl rfl ?_
  refine x_scrLen (k := 5) rfl ?_
  refine x_iconst (v := 3) (k := 6) rfl (by decide) ?_
  refine x_idiv (k := 7) rfl (by decide) ?_
  rw [h3]
  refine x_bipush (v := 40) (k := 8) rfl (by decide) ?_
  refine x_icmp_ge (tgt := 24) (k := 9) rfl (by decide) (fun c14 => ?_) (fun c14 => ?_)
  · refine x_bipush (v := 40) (k := 15) rfl (by decide) ?_
    exact fin 40 (Nat.le_refl _)
  · have hn : gLen G / 3 ≤ 40 := by
      have := mt (nI_leI (a := 40) (b := gLen G / 3) (by decide) (by omega)).mpr c14
      omega
    refine x_aload_n (k := 10) rfl rfl ?_
    refine x_scrLen (k := 11) rfl ?_
    refine x_iconst (v := 3) (k := 12) rfl (by decide) ?_
    refine x_idiv (k := 13) rfl (by decide) ?_
    rw [h3]
    refine x_goto (tgt := 26) (k := 14) rfl (by decide) ?_
    exact fin _ hn
