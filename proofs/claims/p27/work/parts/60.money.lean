-- ===== what more holds of every world: the money =====
def smN (g : Nat → Nat) : Nat → Nat
  | 0 => 0
  | n + 1 => smN g n + g n
theorem smN_s (g : Nat → Nat) (n : Nat) : smN g (n + 1) = smN g n + g n := rfl
theorem smN_eq {g g' : Nat → Nat} : ∀ n, (∀ j, j < n → g' j = g j) → smN g' n = smN g n
  | 0, _ => rfl
  | n + 1, h => by rw [smN_s, smN_s, smN_eq n (fun j hj => h j (by omega)), h n (by omega)]
theorem smN_up {g g' : Nat → Nat} {i : Nat} : ∀ n, i < n → (∀ j, j < n → j ≠ i → g' j = g j) → smN g' n + g i = smN g n + g' i
  | 0, h, _ => absurd h (Nat.not_lt_zero _)
  | n + 1, h, e => by
    rw [smN_s, smN_s]
    by_cases z : n = i
    · subst z
      rw [smN_eq (g := g) n (fun j hj => e j (by omega) (by omega))]
      omega
    · have k := smN_up (g := g) (g' := g') (i := i) n (by omega) (fun j hj hn => e j (by omega) hn)
      rw [e n (by omega) z]
      omega
theorem smN_ge {g : Nat → Nat} {i : Nat} : ∀ n, i < n → g i ≤ smN g n
  | 0, h => absurd h (Nat.not_lt_zero _)
  | n + 1, h => by
    rw [smN_s]
    by_cases z : n = i
    · subst z
      omega
    · have := smN_ge (g := g) n (by omega : i < n)
      omega
/-- all coins and deposits of the persons are S -/
def monX (S : Nat) (W : Wd) : Prop := ∃ c d : Nat → Nat, (∀ p, p < 8 → W 0 p 0 = nI (c p) ∧ W 0 p 1 = nI (d p)) ∧ smN c 8 + smN d 8 = S
def nSet (g : Nat → Nat) (i v : Nat) : Nat → Nat := fun j => if j = i then v else g j
theorem nSet_at {g : Nat → Nat} {i v : Nat} : nSet g i v i = v := if_pos rfl
theorem nSet_ne {g : Nat → Nat} {i v j : Nat} (h : j ≠ i) : nSet g i v j = g j := if_neg h
theorem smN_set {g : Nat → Nat} {i v : Nat} (h : i < 8) : smN (nSet g i v) 8 + g i = smN g 8 + v := by
  have k := smN_up (g := g) (g' := nSet g i v) (i := i) 8 h (fun j _ hn => nSet_ne hn)
  rw [nSet_at] at k
  exact k
section MONEY
variable {S : Nat} {W W' : Wd}
theorem monX.eq (h : monX S W) (h0 : ∀ p, p < 8 → W' 0 p 0 = W 0 p 0) (h1 : ∀ p, p < 8 → W' 0 p 1 = W 0 p 1) : monX S W' := by
  obtain ⟨c, d, e, hs⟩ := h
  exact ⟨c, d, fun p hp => ⟨(h0 p hp).trans (e p hp).1, (h1 p hp).trans (e p hp).2⟩, hs⟩
theorem monX.coin {p : Nat} (h : monX S W) (hp : p < 8) : ∃ x : Nat, x ≤ S ∧ W 0 p 0 = nI x ∧ ∀ y : Nat, monX (S - x + y) (wSet W 0 p 0 (nI y)) := by
  obtain ⟨c, d, e, hs⟩ := h
  refine ⟨c p, ?_, (e p hp).1, fun y => ⟨nSet c p y, d, fun q hq => ⟨?_, ?_⟩, ?_⟩⟩
  · have := smN_ge (g := c) 8 hp
    omega
  · by_cases z : q = p
    · subst z
      rw [wSet_same, nSet_at]
    · rw [wSet_i z, nSet_ne z]
      exact (e q hq).1
  · rw [wSet_k (by decide)]
    exact (e q hq).2
  · have := smN_set (g := c) (v := y) hp
    have := smN_ge (g := c) 8 hp
    omega
theorem monX.dep {p : Nat} (h : monX S W) (hp : p < 8) : ∃ x : Nat, x ≤ S ∧ W 0 p 1 = nI x ∧ ∀ y : Nat, monX (S - x + y) (wSet W 0 p 1 (nI y)) := by
  obtain ⟨c, d, e, hs⟩ := h
  refine ⟨d p, ?_, (e p hp).2, fun y => ⟨c, nSet d p y, fun q hq => ⟨?_, ?_⟩, ?_⟩⟩
  · have := smN_ge (g := d) 8 hp
    omega
  · rw [wSet_k (by decide)]
    exact (e q hq).1
  · by_cases z : q = p
    · subst z
      rw [wSet_same, nSet_at]
    · rw [wSet_i z, nSet_ne z]
      exact (e q hq).2
  · have := smN_set (g := d) (v := y) hp
    have := smN_ge (g := d) 8 hp
    omega
/-- the fees that all persons got -/
def fsTo (W : Wd) : Nat → Int32
  | 0 => 0
  | n + 1 => fsTo W n + W 0 n 4
theorem fsTo_s (n : Nat) : fsTo W (n + 1) = fsTo W n + W 0 n 4 := rfl
theorem fsTo_eq : ∀ n, (∀ j, j < n → W' 0 j 4 = W 0 j 4) → fsTo W' n = fsTo W n
  | 0, _ => rfl
  | n + 1, h => by rw [fsTo_s, fsTo_s, fsTo_eq n (fun j hj => h j (by omega)), h n (by omega)]
theorem fsTo_up {d : Nat} {v : Int32} : ∀ n, d < n → fsTo (wSet W 0 d 4 (W 0 d 4 + v)) n = fsTo W n + v
  | 0, h => absurd h (Nat.not_lt_zero _)
  | n + 1, h => by
    rw [fsTo_s, fsTo_s]
    by_cases z : n = d
    · subst z
      rw [fsTo_eq (W := W) n (fun j hj => wSet_i (by omega)), wSet_same, Int32.add_assoc]
    · rw [fsTo_up n (by omega), wSet_i z, Int32.add_assoc, Int32.add_assoc, Int32.add_comm v]
/-- the money: 1120 in all; the fees got are the fees paid -/
def MF (f : Nat) (W : Wd) : Prop := (∃ S : Nat, S + f = 1120 ∧ monX S W) ∧ fsTo W 8 = W 3 0 3
theorem MF.eq {f : Nat} (h : MF f W) (h0 : ∀ p, p < 8 → W' 0 p 0 = W 0 p 0) (h1 : ∀ p, p < 8 → W' 0 p 1 = W 0 p 1) (h4 : ∀ p, p < 8 → W' 0 p 4 = W 0 p 4) (h3 : W' 3 0 3 = W 3 0 3) : MF f W' := by
  obtain ⟨⟨S, hs, hm⟩, hf⟩ := h
  exact ⟨⟨S, hs, hm.eq h0 h1⟩, by rw [fsTo_eq 8 h4, h3, hf]⟩
/-- a fee is paid -/
theorem MF.pay2 {f a c m : Nat} (h : MF f W) (ha : a < 8) (hc : c < 8) (hv : ∀ x : Nat, x < 2 ^ 31 → W 0 a 0 = nI x → m ≤ x) : MF f (sPay2 W a c c (nI m)) := by
  obtain ⟨⟨S, hs, hm⟩, hf⟩ := h
  obtain ⟨x, hx, ex, k⟩ := hm.coin ha
  have hmx := hv x (by omega) ex
  have k1 := k (x - m)
  have e1 : W 0 a 0 - nI m = nI (x - m) := by rw [ex, pk_sub hmx]
  rw [← e1] at k1
  obtain ⟨y, hy, ey, k2⟩ := k1.coin hc
  have k3 := k2 (y + m)
  rw [← nI_add, ← ey] at k3
  refine ⟨⟨S, hs, ?_⟩, ?_⟩
  · have k4 : monX S (wSet (wSet W 0 a 0 (W 0 a 0 - nI m)) 0 c 0 (wSet W 0 a 0 (W 0 a 0 - nI m) 0 c 0 + nI m)) := by
      have e : S - x + (x - m) - y + (y + m) = S := by omega
      rw [e] at k3
      exact k3
    exact k4.eq (fun p _ => by rw [sPay2, wSet_a (by decide), wSet_k (by decide)]) (fun p _ => by rw [sPay2, wSet_a (by decide), wSet_k (by decide)])
  · have e0 : ∀ q, wSet (wSet W 0 a 0 (W 0 a 0 - nI m)) 0 c 0 (wSet W 0 a 0 (W 0 a 0 - nI m) 0 c 0 + nI m) 0 q 4 = W 0 q 4 := fun q => by rw [wSet_k (by decide), wSet_k (by decide)]
    rw [sPay2, wSet_same, fsTo_eq (W := wSet (wSet (wSet W 0 a 0 (W 0 a 0 - nI m)) 0 c 0 (wSet W 0 a 0 (W 0 a 0 - nI m) 0 c 0 + nI m)) 0 c 4 (W 0 c 4 + nI m)) 8 (fun j _ => wSet_a (by decide))]
    have k5 := fsTo_up (W := wSet (wSet W 0 a 0 (W 0 a 0 - nI m)) 0 c 0 (wSet W 0 a 0 (W 0 a 0 - nI m) 0 c 0 + nI m)) (d := c) (v := nI m) 8 hc
    rw [e0] at k5
    rw [k5, fsTo_eq (W := W) 8 (fun j _ => e0 j), hf]
theorem MF.sett {hr f nt nk k p b : Nat} (hG : Gd hr f nt nk W) (h : MF f W) (hp : p < 8) (hb : b < 8) (eb : W 2 k 0 = nI b) : MF f (sSet W k (nI p)) := by
  unfold sSet sPay
  split
  · split
    · exact h
    · rename_i z
      rw [eb, ixP hp, ixP hb]
      obtain ⟨j, hj, ej⟩ := (ntTo_is (W := W) (c := nI p) (cT W)).resolve_left z
      rw [hG.cT] at hj
      have hb2 := hG.1.1
      have e5 := (hG.2.2.1 j hj).2.2.2.2.2.1
      obtain ⟨⟨S, hs, hm⟩, hf⟩ := id h
      obtain ⟨x, hx, ex, -⟩ := hm.coin hb
      have ev : sPaid W (nI b) (nI p) = nI (min (feN W j) x) := by
        rw [sPaid, ej, show ix (nI j) = j from nI_clamp (by omega), e5, ixP hb, ex, iMin_n (by have := (hG.2.2.1 j hj).2.2.2.2.2.2; omega) (by omega)]
      rw [ev]
      exact h.pay2 hb hp (fun x' hx' ex' => by
        have : x' = x := (nI_eq hx' (by omega)).mp (ex'.symm.trans ex)
        omega)
  · split
    · exact h.eq (fun _ _ => wSet_a (by decide)) (fun _ _ => wSet_a (by decide)) (fun _ _ => wSet_a (by decide)) (wSet_a (by decide))
    · exact h
theorem MF.hov {f k : Nat} {x : Int32} (h : MF f W) : MF f (sHov W k x) :=
  h.eq (fun _ _ => sHov_r (by decide) (by decide) (Or.inl (by decide)) (Or.inl (by decide))) (fun _ _ => sHov_r (by decide) (by decide) (Or.inl (by decide)) (Or.inl (by decide))) (fun _ _ => sHov_r (by decide) (by decide) (Or.inl (by decide)) (Or.inl (by decide))) (sHov_r (by decide) (by decide) (Or.inl (by decide)) (Or.inr (by decide)))
theorem sHov_0 {k j : Nat} {x : Int32} (h : j < 6) : sHov W k x 2 k j = W 2 k j := sHov_r (by decide) (by decide) (Or.inr (Or.inr h)) (Or.inl (by decide))
theorem MF.how {hr f nt nk k p b : Nat} (hG : Gd hr f nt nk W) (h : MF f W) (hk : k < nk) (hp : p < 8) (hb : b < 8) (eb : W 2 k 0 = nI b) (h2 : hbN W (nI p) nk ≤ 2) : MF f (sHow W k (nI p)) := by
  unfold sHow
  split
  · exact MF.sett (hG.hov hk (Or.inl ⟨p, hp, rfl⟩) h2) h.hov hp hb ((sHov_0 (by decide)).trans eb)
  · exact h
theorem MF.set2 {f k j : Nat} {v : Int32} (h : MF f W) : MF f (wSet W 2 k j v) := h.eq (fun _ _ => wSet_a (by decide)) (fun _ _ => wSet_a (by decide)) (fun _ _ => wSet_a (by decide)) (wSet_a (by decide))
theorem MF.set1 {f k j : Nat} {v : Int32} (h : MF f W) : MF f (wSet W 1 k j v) := h.eq (fun _ _ => wSet_a (by decide)) (fun _ _ => wSet_a (by decide)) (fun _ _ => wSet_a (by decide)) (wSet_a (by decide))
/-- a parcel is posted: its cover is paid into the fund -/
theorem MF.post {hr f nt nk p q : Nat} {B T v : Int32} (hG : Gd hr f nt nk W) (h : MF f W) (hp : p < 8) (hq4 : q < 4) (hc : ¬ W 0 p 0 < iCost q) : MF (f + costN q) (sAddK W (nI p) B T v (nI q)) := by
  obtain ⟨⟨S, hs, hm⟩, hf⟩ := h
  obtain ⟨x, hx, ex, k⟩ := hm.coin hp
  have eX : ix (nI q) = q := cl4 hq4
  have hcq := costN_le q
  have hle : costN q ≤ x := by
    rw [ex, costN_i] at hc
    have := mt (nI_ltI (a := x) (b := costN q) (by omega) (by omega)).mpr hc
    omega
  have k1 := k (x - costN q)
  have e1 : W 0 p 0 - iCost q = nI (x - costN q) := by rw [ex, costN_i, pk_sub hle]
  have e0 : ∀ i j, j < 5 → sAddK W (nI p) B T v (nI q) 0 i j = wSet W 0 p 0 (nI (x - costN q)) 0 i j := fun i j hj => by
    rw [sAddK, ixP hp, eX, sSetH_r (by decide) (by decide) (Or.inl (by decide)), wSet_a (by decide), wSet_a (by decide), ← e1]
    simp only [wSet_r]
    by_cases z : i = p ∧ j = 0
    · obtain ⟨rfl, rfl⟩ := z
      simp
    · rw [if_neg (by omega), if_neg (by omega), if_neg (by omega), if_neg (by omega), if_neg (by omega), if_neg (by omega), if_neg (by omega), if_neg (by omega)]
  refine ⟨⟨S - x + (x - costN q), by omega, k1.eq (fun i _ => e0 i 0 (by decide)) (fun i _ => e0 i 1 (by decide))⟩, ?_⟩
  rw [fsTo_eq (W := W) 8 (fun j _ => (e0 j 4 (by decide)).trans (wSet_k (by decide))), hf, sAddK, sSetH_r (by decide) (by decide) (Or.inl (by decide)), wSet_k (by decide), wSet_k (by decide), wSet_a (by decide), wSet_a (by decide), wSet_a (by decide), wSet_a (by decide), wSet_a (by decide), wSet_a (by decide), wSet_a (by decide)]
/-- a claim -/
theorem MF.los {hr f nt nk k q b : Nat} (hG : Gd hr f nt nk W) (h : MF f W) (hk : k < nk) (hq : q ≤ f) (eq : sFund W k = nI q) (hb : b < 8) (eb : W 2 k 0 = nI b) : MF (f - q) (sLos W k) := by
  obtain ⟨⟨S, hs, hm⟩, hf⟩ := h
  obtain ⟨g0, g1, g2, g3, g4, -, -⟩ := hG.2.2.2.1 k hk
  obtain ⟨⟨x0, ex0, hx0⟩, y0, ey0, hy0⟩ := hG.owe hk
  have hB : ∃ x : Nat, x ≤ S ∧ sHoP W k = nI x ∧ monX (S - x) (sLoB W k) := by
    unfold sLoB
    split
    · rename_i hl
      exact ⟨0, Nat.zero_le _, if_pos hl, hm.eq (fun _ _ => sLoA_r (by decide)) (fun _ _ => sLoA_r (by decide))⟩
    · rename_i hl
      obtain ⟨p, hp, ep⟩ := ho_10 g1 (Int32.not_le.mp hl)
      obtain ⟨d, hd, ed, kd⟩ := (hm.eq (W' := sLoA W k) (fun _ _ => sLoA_r (by decide)) (fun _ _ => sLoA_r (by decide))).dep hp
      rw [sLoA_r (by decide)] at ed
      have hle := hx0 p d hp ep ed (by omega)
      refine ⟨x0, by omega, ex0, ?_⟩
      rw [ep, ixP hp, ed, ex0, pk_sub hle]
      have := kd (d - x0)
      rw [show S - d + (d - x0) = S - x0 by omega] at this
      exact this
  obtain ⟨x, hxS, ex, mB⟩ := hB
  have hC : ∃ y : Nat, y ≤ S - x ∧ sNaP W k = nI y ∧ monX (S - x - y) (sLoC W k) := by
    unfold sLoC
    split
    · rename_i hl
      exact ⟨0, Nat.zero_le _, if_pos hl, mB⟩
    · rename_i hl
      obtain ⟨p, hp, ep⟩ := g2 hl
      obtain ⟨d, hd, ed, kd⟩ := mB.dep hp
      have eB : sLoB W k 0 p 1 = W 0 p 1 := by
        unfold sLoB
        split
        · exact sLoA_r (by decide)
        · rename_i hl2
          obtain ⟨p2, hp2, ep2⟩ := ho_10 g1 (Int32.not_le.mp hl2)
          rw [wSet_i, sLoA_r (by decide)]
          intro z
          rw [ep2, ixP hp2] at z
          subst z
          exact g4 (ep.trans ep2.symm)
      have hle := hy0 p d hp ep (eB.symm.trans ed) (by omega)
      refine ⟨y0, by omega, ey0, ?_⟩
      rw [ep, ixP hp, ed, ey0, pk_sub hle]
      have := kd (d - y0)
      rw [show S - x - d + (d - y0) = S - x - y0 by omega] at this
      exact this
  obtain ⟨y, hyS, ey, mC⟩ := hC
  have rC : ∀ i j, j ≠ 1 → sLoC W k 0 i j = W 0 i j := fun i j hj => by
    unfold sLoC sLoB
    split <;> split
    · exact sLoA_r (by decide)
    · rw [wSet_k hj]; exact sLoA_r (by decide)
    · rw [wSet_k hj]; exact sLoA_r (by decide)
    · rw [wSet_k hj, wSet_k hj]; exact sLoA_r (by decide)
  have r3 : sLoC W k 3 0 3 = W 3 0 3 := by
    unfold sLoC sLoB sLoA
    split <;> split
    · rw [wSet_k (by decide)]
    · rw [wSet_a (by decide), wSet_k (by decide)]
    · rw [wSet_a (by decide), wSet_k (by decide)]
    · rw [wSet_a (by decide), wSet_a (by decide), wSet_k (by decide)]
  obtain ⟨z, hz, ez, kz⟩ := mC.coin hb
  rw [rC b 0 (by decide)] at ez
  have kk := kz (z + (q + x + y))
  have eV : W 0 b 0 + (sFund W k + sHoP W k + sNaP W k) = nI (z + (q + x + y)) := by rw [ez, eq, ex, ey, nI_add, nI_add, nI_add]
  rw [← eV] at kk
  have e0 : ∀ i j, sLos W k 0 i j = wSet (sLoC W k) 0 b 0 (W 0 b 0 + (sFund W k + sHoP W k + sNaP W k)) 0 i j := fun i j => by
    rw [sLos, sLoD, eb, ixP hb, wSet_a (by decide), wSet_a (by decide), wSet_a (by decide)]
  refine ⟨⟨S - x - y - z + (z + (q + x + y)), by omega, kk.eq (fun i _ => e0 i 0) (fun i _ => e0 i 1)⟩, ?_⟩
  rw [fsTo_eq (W := W) 8 (fun j _ => (e0 j 4).trans ((wSet_k (by decide)).trans (rC j 4 (by decide)))), hf, sLos, sLoD, wSet_a (by decide), wSet_a (by decide), wSet_a (by decide), wSet_a (by decide), r3]
theorem ccTo_n {c d : Nat → Nat} (h : ∀ p, p < 8 → W 0 p 0 = nI (c p) ∧ W 0 p 1 = nI (d p)) : ∀ n, n ≤ 8 → ccTo W n = nI (smN c n + smN d n)
  | 0, _ => rfl
  | n + 1, hn => by
    rw [ccTo, ccTo_n h n (by omega), (h n (by omega)).1, (h n (by omega)).2, nI_add, nI_add, smN_s, smN_s]
    congr 1
    omega
theorem MF.sum {hr f nt nk : Nat} (hG : Gd hr f nt nk W) (h : MF f W) : ccTo W 8 + W 3 0 1 = 1120 := by
  obtain ⟨⟨S, hs, c, d, e, hm⟩, -⟩ := h
  rw [ccTo_n e 8 (Nat.le_refl _), hG.1.2.2.1, nI_add, hm, hs]
  rfl
theorem MF.nn {f p : Nat} (h : MF f W) (hp : p < 8) : ¬ W 0 p 0 < 0 ∧ ¬ W 0 p 1 < 0 := by
  obtain ⟨⟨S, hs, hm⟩, -⟩ := h
  obtain ⟨x, hx, ex, -⟩ := hm.coin hp
  obtain ⟨y, hy, ey, -⟩ := hm.dep hp
  rw [ex, ey]
  exact ⟨nI_pos (by omega), nI_pos (by omega)⟩
end MONEY
