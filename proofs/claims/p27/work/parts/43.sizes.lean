-- ===== an order, and what holds of the world behind it =====
/-- the list of holders grows by one at most -/
def szO (W W' : Wd) : Prop := ∀ sz : Nat, sz ≤ 512 → W 4 0 0 = nI sz → ∃ sz' : Nat, sz' ≤ 512 ∧ sz' ≤ sz + 1 ∧ W' 4 0 0 = nI sz'
/-- it stays -/
def szS (W W' : Wd) : Prop := W' 4 0 0 = W 4 0 0
theorem szS.o {W W' : Wd} (h : szS W W') : szO W W' := fun sz h5 e => ⟨sz, h5, Nat.le_succ _, Eq.trans h e⟩
theorem szO.s {W W' W2 : Wd} (h : szO W W') (h2 : szS W' W2) : szO W W2 := fun sz h5 e => by
  obtain ⟨s', a, b, c⟩ := h sz h5 e
  exact ⟨s', a, b, Eq.trans h2 c⟩
theorem szS.t {W W' W2 : Wd} (h : szS W W') (h2 : szO W' W2) : szO W W2 := fun sz h5 e => h2 sz h5 (Eq.trans h e)
theorem szS.tr {W W' W2 : Wd} (h : szS W W') (h2 : szS W' W2) : szS W W2 := Eq.trans h2 h
theorem szS.set {W : Wd} {a i k : Nat} {v : Int32} (h : a ≠ 4) : szS W (wSet W a i k v) := wSet_a (Ne.symm h)
theorem sz_note {W : Wd} {a b c : Int32} : szO W (sNote W a b c) := fun sz h5 e => by
  by_cases h : sz = 512
  · subst h
    refine ⟨512, Nat.le_refl _, by omega, ?_⟩
    rw [sNote, if_pos (by rw [e]; decide), e]
  · exact ⟨sz + 1, by omega, Nat.le_refl _, sNote_4 e (by omega)⟩
theorem sz_setH {W : Wd} {k : Nat} {h : Int32} : szO W (sSetH W k h) := szS.t (((szS.set (by decide)).tr (szS.set (by decide))).tr ((szS.set (by decide)).tr (szS.set (by decide)))) sz_note
theorem sz_hov {W : Wd} {k : Nat} {h : Int32} : szO W (sHov W k h) := szS.t (szS.set (by decide)) sz_setH
theorem sz_set {W : Wd} {k : Nat} {t : Int32} : szS W (sSet W k t) := by
  unfold sSet sPay
  split
  · split
    · exact rfl
    · exact ((szS.set (by decide)).tr (szS.set (by decide))).tr ((szS.set (by decide)).tr (szS.set (by decide)))
  · split
    · exact szS.set (by decide)
    · exact rfl
theorem sz_how {W : Wd} {k : Nat} {t : Int32} : szO W (sHow W k t) := by
  unfold sHow
  split
  · exact sz_hov.s sz_set
  · exact szS.o rfl
theorem sz_gav {W : Wd} {k : Nat} {t : Int32} : szO W (sGav W k t) := szS.t (szS.set (by decide)) sz_how
theorem sz_tok {W : Wd} {k : Nat} {t : Int32} : szO W (sTok W k t) := szS.t (szS.set (by decide)) sz_how
theorem sz_et {W : Wd} : ∀ i, szS W (etTo W i)
  | 0 => rfl
  | i + 1 => by
    rw [etTo]
    split
    · exact (sz_et i).tr (((szS.set (by decide)).tr (szS.set (by decide))).tr (szS.set (by decide)))
    · exact sz_et i
theorem sz_gt {W : Wd} : ∀ i, szS W (gtTo W i)
  | 0 => rfl
  | i + 1 => by
    rw [gtTo]
    split
    · refine (sz_gt i).tr ?_
      unfold gStep
      split
      · exact ((szS.set (by decide)).tr (szS.set (by decide))).tr (szS.set (by decide))
      · exact szS.set (by decide)
    · exact sz_gt i
theorem sz_hour {W : Wd} : szS W (sHour W) := ((szS.set (by decide)).tr (sz_et _)).tr (sz_gt _)
theorem sz_pas {W : Wd} : ∀ j, szS W (paTo W j)
  | 0 => rfl
  | j + 1 => (sz_pas j).tr sz_hour
theorem sz_los {W : Wd} {k : Nat} : szS W (sLos W k) := by
  unfold sLos sLoD
  refine szS.tr ?_ (((szS.set (by decide)).tr (szS.set (by decide))).tr ((szS.set (by decide)).tr (szS.set (by decide))))
  unfold sLoC sLoB sLoA
  split <;> split
  · exact szS.set (by decide)
  · exact (szS.set (by decide)).tr (szS.set (by decide))
  · exact (szS.set (by decide)).tr (szS.set (by decide))
  · exact ((szS.set (by decide)).tr (szS.set (by decide))).tr (szS.set (by decide))
theorem sz_addT {W : Wd} {p a b i l e : Int32} : szS W (sAddT W p a b i l e) := (((szS.set (by decide)).tr (szS.set (by decide))).tr ((szS.set (by decide)).tr (szS.set (by decide)))).tr (((szS.set (by decide)).tr (szS.set (by decide))).tr ((szS.set (by decide)).tr (szS.set (by decide))))
theorem sz_addK {W : Wd} {a b t v c : Int32} : szO W (sAddK W a b t v c) := szS.t ((((szS.set (by decide)).tr (szS.set (by decide))).tr ((szS.set (by decide)).tr (szS.set (by decide)))).tr (((szS.set (by decide)).tr (szS.set (by decide))).tr (((szS.set (by decide)).tr (szS.set (by decide))).tr (szS.set (by decide))))) sz_setH
-- answers that are no errors
theorem bz_nn {p : Prop} [Decidable p] : ¬ bz p < 0 := by
  unfold bz
  split <;> decide
theorem ecTo_n {W : Wd} : ∀ n, ∃ c : Nat, c ≤ n ∧ ecTo W n = nI c
  | 0 => ⟨0, Nat.le_refl _, rfl⟩
  | n + 1 => by
    obtain ⟨c, h, e⟩ := ecTo_n (W := W) n
    rw [ecTo]
    split
    · exact ⟨c + 1, by omega, by rw [e, nI_1]⟩
    · exact ⟨c, by omega, e⟩
theorem Gd.held_nn {hr f nt nk : Nat} {W : Wd} (hG : Gd hr f nt nk W) (x : Int32) : ¬ sHeld W x < 0 := by
  rw [hG.held]
  exact nI_pos (by have := hG.2.2.2.2 x; omega)
theorem foR_nn {F v : Int32} (hF : ¬ F < 0) (hv : ¬ v < 0) : ¬ foR F v < 0 := by
  rw [foR_o hF]
  exact hv
