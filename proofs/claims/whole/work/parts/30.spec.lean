/-! helpers of the walks -/
theorem gi {x y : Int} (h : x = y) : some (Value.int (iI x)) = some (Value.int (iI y)) := by rw [h]
theorem qi {Q : zzQ} {w : zzW} {v v1 : Int} (h : Q [.int (iI v)] w) (e : v1 = v) : Q [.int (iI v1)] w := e ▸ h
theorem qz {Q : zzQ} {w : zzW} {b b1 : Bool} (h : Q [.int (iI (b2i b))] w) (e : b1 = b) : Q [.int (iI (b2i b1))] w := e ▸ h
theorem qw {Q : zzQ} {r : List Value} {w w1 : zzW} (h : Q r w) (e : w1 = w) : Q r w1 := e ▸ h
theorem wofg {g g1 : Nat → Nat → Int} {hh : Int64} (e : g1 = g) : wof g1 hh = wof g hh := e ▸ rfl
/-! WHAT THE TWO SYSTEMS COMPUTE: the words -/
/-- beside each other in the ring -/
def bs (p q : Int) : Bool := decide ((p + 1) % 12 = q) || decide ((q + 1) % 12 = p)
/-- who is on a place: an answer r -/
def isAt (pl : Nat → Int) (n : Nat) (q r : Int) : Prop := (∃ j : Nat, j < n ∧ pl j = q ∧ r = j) ∨ ((∀ j, j < n → pl j ≠ q) ∧ r = -1)
/-- the places of n islands -/
def plok (n : Nat) (pl : Nat → Int) : Prop := ∀ j, j < n → 0 ≤ pl j ∧ pl j < 12
