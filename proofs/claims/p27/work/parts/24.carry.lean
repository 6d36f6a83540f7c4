-- ===== a text carried out; the constructors =====
abbrev ordA (W : Wd) (n : Nat) (sg : Nat → Int32) (p : Nat) : Int32 := ordR W (tSg n sg p) (tDg n sg (p + 1)) (tDg n sg (p + 2)) (tDg n sg (p + 3))
abbrev ordB (W : Wd) (n : Nat) (sg : Nat → Int32) (p : Nat) : Wd := ordW W (tSg n sg p) (tDg n sg (p + 1)) (tDg n sg (p + 2)) (tDg n sg (p + 3))
/-- how many orders were carried out, and what became of the world, with d signs to go -/
def coTo (n : Nat) (sg : Nat → Int32) : Nat → Int32 → Wd → Int32 × Wd
  | 0, c, W => (c, W)
  | d + 1, c, W => if tBg n sg (n - (d + 1)) then (if ordA W n sg (n - (d + 1)) < 0 then (c, ordB W n sg (n - (d + 1))) else coTo n sg d (c + 1) (ordB W n sg (n - (d + 1)))) else coTo n sg d c W
def CoQ (G : xG) (t : xA) (own : Nat → Nat) (a : Nat) (D : OD) (R : Int32 × Wd) : Option Value → xA → Prop := fun r t1 => r = some (.int R.1) ∧ ∃ (own1 : Nat → Nat) (H1 : HD), Ob G t1 own1 a ((R.2, D.1.2), H1, (0, D.2.2.1.2), D.2.2.2) ∧ KeptH D.2.1 D.1 H1 ∧ Did t t1 own own1 clsT 123 2437