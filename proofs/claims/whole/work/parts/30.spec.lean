/-! helpers of the walks -/
theorem gi {x y : Int} (h : x = y) : some (Value.int (iI x)) = some (Value.int (iI y)) := by rw [h]
theorem qi {Q : zzQ} {w : zzW} {v v1 : Int} (h : Q [.int (iI v)] w) (e : v1 = v) : Q [.int (iI v1)] w := e ▸ h
theorem qz {Q : zzQ} {w : zzW} {b b1 : Bool} (h : Q [.int (iI (b2i b))] w) (e : b1 = b) : Q [.int (iI (b2i b1))] w := e ▸ h
theorem qw {Q : zzQ} {r : List Value} {w w1 : zzW} (h : Q r w) (e : w1 = w) : Q r w1 := e ▸ h
theorem wofg {g g1 : Nat → Nat → Int} {hh : Int64} (e : g1 = g) : wof g1 hh = wof g hh := e ▸ rfl
/-! WHAT THE TWO SYSTEMS COMPUTE: the words -/
/-- beside each other in the ring -/
def bs (p q : Int) : Bool := decide ((p + 1) % 12 = q) || decide ((q + 1) % 12 = p)
/-- who is on a place: an answer r -/
def isAt (pl : Nat → Int) (n : Nat) (q r : Int) : Prop := (∃ j : Nat, j < n ∧ pl j = q ∧ r = j) ∨ ((∀ j, j < n → pl j ≠ q) ∧ r = -1)
/-- the places of n islands -/
def plok (n : Nat) (pl : Nat → Int) : Prop := ∀ j, j < n → 0 ≤ pl j ∧ pl j < 12
theorem p2n (i : Nat) : (1 : Int) * 2 ^ ((i : Int)).toNat = ((2 ^ i : Nat) : Int) := by simp
theorem p2z (z : Int) : (1 : Int) * 2 ^ z.toNat = ((2 ^ z.toNat : Nat) : Int) := by simp
theorem p2b {k : Nat} (h : k < 31) : ((2 ^ k : Nat) : Int) < 2147483648 := by
  have h1 : 2 ^ k ≤ 2 ^ 30 := Nat.pow_le_pow_right (by decide) (by omega)
  have h2 : (2 : Nat) ^ 30 = 1073741824 := by decide
  omega
theorem b2i_t {b : Bool} (h : b2i b = 1) : b = true := by cases b <;> first | rfl | exact absurd h (by decide)
theorem b2i_f {b : Bool} (h : b2i b ≠ 1) : b = false := by cases b <;> first | rfl | exact absurd rfl h
theorem g_icmp_neb {zs : zzT} {CL : zzK} {cc : ByteArray} {o nL : Nat} {rt : Option FieldType} {Q : zzQ} {R : zzS} {pc : Nat} {ls : zzL} {st : List Value} {w : zzW} (h : zzC zs CL cc o nL rt Q R) {b : Bool} {off : Int} {tgt : Nat} (hd : decode cc pc = .ok (.if_icmp .ne off, 3)) (ht : (pc : Int) + off = (tgt : Int)) (kt : b = false → R tgt ls st w) (kf : b = true → R (pc + 3) ls st w) : R pc ls (.int (iI 1) :: .int (iI (b2i b)) :: st) w :=
  g_icmp_ne h hd ht (fun q => kt (b2i_f q)) (fun q => kf (b2i_t q))
theorem g_icmp_eqb {zs : zzT} {CL : zzK} {cc : ByteArray} {o nL : Nat} {rt : Option FieldType} {Q : zzQ} {R : zzS} {pc : Nat} {ls : zzL} {st : List Value} {w : zzW} (h : zzC zs CL cc o nL rt Q R) {b : Bool} {off : Int} {tgt : Nat} (hd : decode cc pc = .ok (.if_icmp .eq off, 3)) (ht : (pc : Int) + off = (tgt : Int)) (kt : b = true → R tgt ls st w) (kf : b = false → R (pc + 3) ls st w) : R pc ls (.int (iI 1) :: .int (iI (b2i b)) :: st) w :=
  g_icmp_eq h hd ht (fun q => kt (b2i_t q)) (fun q => kf (b2i_f q))
/-- the two tables of shares -/
def csh : Nat → Int := fun j => if j = 1 then 0 else 1
def wsh : Nat → Int := fun j => if j = 2 then 1 else if j = 4 then 2 else 0
def zsok (zs : zzT) : Prop := zs zzSA = some (5, ir csh) ∧ zs zzSB = some (5, ir wsh)
abbrev FI : Type := Nat → Int
/-- the push of one -/
def psh (kd cur : FI) (an : Nat) (wi da : Int) (pl : FI) (i : Nat) : Int :=
  if an.testBit i = true then 0 else if kd i = 0 then cur (pl i).toNat else if kd i = 1 then 0 else if kd i = 2 then cur (pl i).toNat + wi else if kd i = 3 then (if da % 2 = 0 then -cur (pl i).toNat else cur (pl i).toNat) else cur (pl i).toNat + 2 * wi
def smu (f : Nat → Int) : Nat → Int
  | 0 => 0
  | k + 1 => smu f k + f k
def sg (z : Int) : Int := if 0 < z then 1 else if z < 0 then -1 else 0
/-- the weighed push of one, if it is of the party -/
def wpu (kd sz cur : FI) (an : Nat) (wi da : Int) (pt : Nat) (pl : FI) (i : Nat) : Int := if pt.testBit i = true then psh kd cur an wi da pl i * sz i else 0
/-- which way a party goes -/
def way (n : Nat) (kd sz cur : FI) (an : Nat) (wi da : Int) (pt : Nat) (pl : FI) : Int := sg (smu (wpu kd sz cur an wi da pt pl) n)
/-- whether another party stands in its way -/
def brd (n : Nat) (pl : FI) (pt : Nat) (s : Int) : Bool := (List.range n).any fun i => (List.range n).any fun k => pt.testBit i && (!pt.testBit k && decide ((pl i + s) % 12 = pl k))
def mvp (n : Nat) (pl : FI) (pt : Nat) (s : Int) : FI := if s = 0 ∨ brd n pl pt s = true then pl else fun i => if pt.testBit i = true then (pl i + s) % 12 else pl i
def bmp (n : Nat) (pl : FI) (pt : Nat) (s : Int) : Int := if s ≠ 0 ∧ brd n pl pt s = true then 1 else 0
def lead (pt : Nat → Nat) (i : Nat) : Bool := decide (pt i % 2 ^ i = 0)
/-- the parties below i have drifted: the places, the bumps -/
def drf (n : Nat) (kd sz cur : FI) (pt : Nat → Nat) (an : Nat) (wi da : Int) : Nat → FI → FI × Int
  | 0, pl => (pl, 0)
  | i + 1, pl => if lead pt i = true then (mvp n (drf n kd sz cur pt an wi da i pl).1 (pt i) (way n kd sz cur an wi da (pt i) (drf n kd sz cur pt an wi da i pl).1), (drf n kd sz cur pt an wi da i pl).2 + bmp n (drf n kd sz cur pt an wi da i pl).1 (pt i) (way n kd sz cur an wi da (pt i) (drf n kd sz cur pt an wi da i pl).1)) else drf n kd sz cur pt an wi da i pl
theorem sg_rg (z : Int) : -1 ≤ sg z ∧ sg z ≤ 1 := by unfold sg; split <;> (try split) <;> omega
theorem brd_iff {n : Nat} {pl : FI} {pt : Nat} {s : Int} : brd n pl pt s = true ↔ ∃ i k, i < n ∧ k < n ∧ pt.testBit i = true ∧ pt.testBit k = false ∧ (pl i + s) % 12 = pl k := by
  unfold brd
  simp only [List.any_eq_true, List.mem_range, Bool.and_eq_true, Bool.not_eq_true', decide_eq_true_eq]
  constructor
  · rintro ⟨i, hi, k, hk, a, b, c⟩
    exact ⟨i, k, hi, hk, a, b, c⟩
  · rintro ⟨i, k, hi, hk, a, b, c⟩
    exact ⟨i, hi, k, hk, a, b, c⟩
theorem mvp_ok {n : Nat} {pl : FI} {pt : Nat} {s : Int} (h : plok n pl) : plok n (mvp n pl pt s) := by
  intro j hj
  unfold mvp
  split
  · exact h j hj
  · dsimp only
    split
    · omega
    · exact h j hj
theorem drf_ok {n : Nat} {kd sz cur : FI} {pt : Nat → Nat} {an : Nat} {wi da : Int} {pl : FI} (h : plok n pl) : ∀ i, plok n (drf n kd sz cur pt an wi da i pl).1
  | 0 => h
  | i + 1 => by
    unfold drf
    split
    · exact mvp_ok (drf_ok h i)
    · exact drf_ok h i
theorem psh_rg {kd cur : FI} {an : Nat} {wi da : Int} {pl : FI} {i : Nat} (hc : ∀ j, j < 12 → -1 ≤ cur j ∧ cur j ≤ 1) (hw : -1 ≤ wi ∧ wi ≤ 1) (hp : 0 ≤ pl i ∧ pl i < 12) : -3 ≤ psh kd cur an wi da pl i ∧ psh kd cur an wi da pl i ≤ 3 := by
  have h := hc (pl i).toNat (by omega)
  unfold psh
  repeat' split
  all_goals omega
theorem wpu_rg {kd sz cur : FI} {an : Nat} {wi da : Int} {pt : Nat} {pl : FI} {i : Nat} (hc : ∀ j, j < 12 → -1 ≤ cur j ∧ cur j ≤ 1) (hw : -1 ≤ wi ∧ wi ≤ 1) (hp : 0 ≤ pl i ∧ pl i < 12) (hs : 1 ≤ sz i ∧ sz i ≤ 9) : -27 ≤ wpu kd sz cur an wi da pt pl i ∧ wpu kd sz cur an wi da pt pl i ≤ 27 := by
  have h := psh_rg (kd := kd) (an := an) (da := da) hc hw hp
  unfold wpu
  split
  · generalize psh kd cur an wi da pl i = x at h
    generalize sz i = y at hs
    have : x = -3 ∨ x = -2 ∨ x = -1 ∨ x = 0 ∨ x = 1 ∨ x = 2 ∨ x = 3 := by omega
    rcases this with rfl | rfl | rfl | rfl | rfl | rfl | rfl <;> omega
  · omega
theorem smu_rg {f : Nat → Int} {b : Int} : ∀ (n : Nat), (∀ i, i < n → -b ≤ f i ∧ f i ≤ b) → -(b * n) ≤ smu f n ∧ smu f n ≤ b * n
  | 0, _ => by simp [smu]
  | n + 1, h => by
    have h1 := smu_rg n (fun i hi => h i (by omega))
    have h2 := h n (by omega)
    simp only [smu]
    have e : b * ((n + 1 : Nat) : Int) = b * n + b := by rw [Int.natCast_add, Int.mul_add]; simp
    rw [e]
    omega
/-- bits that a loop sets -/
def bor (f : Nat → Nat) (c : Nat → Bool) : Nat → Nat
  | 0 => 0
  | k + 1 => if c k = true then bor f c k ||| 2 ^ f k else bor f c k
theorem bor_bit {f : Nat → Nat} {c : Nat → Bool} {t : Nat} : ∀ {n : Nat}, (bor f c n).testBit t = true ↔ ∃ j, j < n ∧ c j = true ∧ f j = t
  | 0 => by simp [bor]
  | n + 1 => by
    unfold bor
    split
    · next h =>
      rw [Nat.testBit_or, Bool.or_eq_true, bor_bit, Nat.testBit_two_pow]
      constructor
      · rintro (⟨j, a, b, e⟩ | e)
        · exact ⟨j, by omega, b, e⟩
        · exact ⟨n, by omega, h, by simpa using e⟩
      · rintro ⟨j, a, b, e⟩
        rcases Nat.lt_or_eq_of_le (Nat.le_of_lt_succ a) with q | q
        · exact Or.inl ⟨j, q, b, e⟩
        · subst q
          exact Or.inr (by simpa using e)
    · next h =>
      rw [bor_bit]
      constructor
      · rintro ⟨j, a, b, e⟩
        exact ⟨j, by omega, b, e⟩
      · rintro ⟨j, a, b, e⟩
        rcases Nat.lt_or_eq_of_le (Nat.le_of_lt_succ a) with q | q
        · exact ⟨j, q, b, e⟩
        · subst q
          exact absurd b h
theorem bor_lt {f : Nat → Nat} {c : Nat → Bool} {m : Nat} : ∀ {n : Nat}, (∀ j, j < n → f j < m) → bor f c n < 2 ^ m
  | 0, _ => by simp only [bor]; exact Nat.two_pow_pos m
  | n + 1, h => by
    have h1 := bor_lt (c := c) (n := n) (fun j hj => h j (by omega))
    unfold bor
    split
    · exact Nat.or_lt_two_pow h1 (Nat.pow_lt_pow_right (by decide) (h n (by omega)))
    · exact h1
