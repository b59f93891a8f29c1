/-! NUMBERS: an int of the machine as an integer -/
def iI (z : Int) : Int32 := Int32.ofInt z
def lI (z : Int) : Int64 := Int64.ofInt z
def rg (z : Int) : Prop := -2147483648 ≤ z ∧ z < 2147483648
def b2i (b : Bool) : Int := cond b 1 0
theorem rg_of (x : Int32) : rg x.toInt := by
  have h1 := Int32.toInt_lt x
  have h2 := Int32.le_toInt x
  unfold rg
  omega
theorem iI_toInt (x : Int32) : iI x.toInt = x := Int32.ofInt_toInt x
theorem toInt_iI {z : Int} (h : rg z) : (iI z).toInt = z := Int32.toInt_ofInt_of_le (by have := h.1; omega) (by have := h.2; omega)
theorem iI_add (a b : Int) : iI a + iI b = iI (a + b) := (Int32.ofInt_add a b).symm
theorem iI_sub (a b : Int) : iI a - iI b = iI (a - b) := (Int32.ofInt_sub a b).symm
theorem iI_mul (a b : Int) : iI a * iI b = iI (a * b) := (Int32.ofInt_mul a b).symm
theorem iI_neg (a : Int) : -iI a = iI (-a) := (Int32.ofInt_neg a).symm
theorem iI_nat (n : Nat) : iI (n : Int) = nI n := Int32.ofInt_eq_ofNat
theorem iI_eq {a b : Int} (ha : rg a) (hb : rg b) : iI a = iI b ↔ a = b := by
  rw [← Int32.toInt_inj, toInt_iI ha, toInt_iI hb]
theorem iI_lt {a b : Int} (ha : rg a) (hb : rg b) : iI a < iI b ↔ a < b := by
  rw [Int32.lt_iff_toInt_lt, toInt_iI ha, toInt_iI hb]
theorem iI_le {a b : Int} (ha : rg a) (hb : rg b) : iI a ≤ iI b ↔ a ≤ b := by
  rw [Int32.le_iff_toInt_le, toInt_iI ha, toInt_iI hb]
theorem iI_clamp {z : Int} (h : rg z) : (iI z).toNatClampNeg = z.toNat := Int32.toNatClampNeg_ofInt_of_le (by have := h.1; omega) (by have := h.2; omega)
theorem iI_in {z : Int} {n : Nat} (h0 : 0 ≤ z) (h1 : z < n) (hn : (n : Int) < 2147483648) : vp_in (iI z) n := by
  rw [vp_in_iff, toInt_iI ⟨by omega, by omega⟩]
  exact ⟨h0, h1⟩
theorem iI_div {a b : Int} (ha : 0 ≤ a) (ha2 : a < 2147483648) (hb : 0 < b) (hb2 : b < 2147483648) : iI a / iI b = iI (a / b) := by
  have h := Int32.ofInt_tdiv (a := a) (b := b) (by show (-2147483648 : Int) ≤ a; omega) (by show a ≤ (2147483647 : Int); omega) (by show (-2147483648 : Int) ≤ b; omega) (by show b ≤ (2147483647 : Int); omega)
  rw [Int.tdiv_eq_ediv_of_nonneg ha] at h
  exact h.symm
theorem iI_rem {a b : Int} (ha : 0 ≤ a) (ha2 : a < 2147483648) (hb : 0 < b) (hb2 : b < 2147483648) : iI a - iI a / iI b * iI b = iI (a % b) := by
  rw [iI_div ha ha2 hb hb2, iI_mul, iI_sub, Int.emod_def, Int.mul_comm b]
theorem iI_ne0 {b : Int} (hb : rg b) (h : b ≠ 0) : ¬ iI b = 0 := by
  intro e
  exact h ((iI_eq hb (by unfold rg; omega)).mp (e.trans rfl))
theorem iI_and (a b : Nat) : iI (a : Int) &&& iI (b : Int) = iI ((a &&& b : Nat) : Int) := by
  rw [iI_nat, iI_nat, iI_nat]
  apply Int32.toBitVec_inj.1
  show BitVec.ofNat 32 a &&& BitVec.ofNat 32 b = BitVec.ofNat 32 (a &&& b)
  apply BitVec.eq_of_getLsbD_eq
  intro i hi
  simp [hi]
theorem iI_or (a b : Nat) : iI (a : Int) ||| iI (b : Int) = iI ((a ||| b : Nat) : Int) := by
  rw [iI_nat, iI_nat, iI_nat]
  apply Int32.toBitVec_inj.1
  show BitVec.ofNat 32 a ||| BitVec.ofNat 32 b = BitVec.ofNat 32 (a ||| b)
  apply BitVec.eq_of_getLsbD_eq
  intro i hi
  simp [hi]
theorem iI_sh {z : Int} (h0 : 0 ≤ z) (h1 : z < 32) : ((iI z &&& 31).toBitVec.smod 32).toNat = z.toNat := by
  obtain ⟨n, rfl⟩ := Int.eq_ofNat_of_zero_le h0
  have key : ∀ n, n < 32 → ((nI n &&& 31).toBitVec.smod 32).toNat = n := by decide +kernel
  rw [iI_nat, key n (by omega)]
  rfl
theorem iI_shl {x z : Int} (hx : 0 ≤ x) (h0 : 0 ≤ z) (h1 : z < 32) (h : x * 2 ^ z.toNat < 2147483648) : iI x <<< (iI z &&& 31) = iI (x * 2 ^ z.toNat) := by
  obtain ⟨n, rfl⟩ := Int.eq_ofNat_of_zero_le hx
  have e : (n : Int) * 2 ^ z.toNat = ((n * 2 ^ z.toNat : Nat) : Int) := by push_cast; rfl
  have h2 : n * 2 ^ z.toNat < 2 ^ 32 := by
    have : ((n * 2 ^ z.toNat : Nat) : Int) < 2147483648 := by rw [← e]; exact h
    omega
  show iI (n : Int) <<< (iI z &&& 31) = iI ((n : Int) * 2 ^ z.toNat)
  rw [e, iI_nat, iI_nat]
  exact pk_shlN _ _ (iI_sh h0 h1) h2
theorem iI_shr {x z : Int} (hx : rg x) (h0 : 0 ≤ z) (h1 : z < 32) : iI x >>> (iI z &&& 31) = iI (x / 2 ^ z.toNat) := by
  apply Int32.toInt_inj.mp
  have hp : (1 : Int) ≤ 2 ^ z.toNat := by
    have := Nat.one_le_two_pow (n := z.toNat)
    exact_mod_cast this
  have hr : rg (x / 2 ^ z.toNat) := by
    obtain ⟨h2, h3⟩ := hx
    constructor
    · rcases Int.le_total 0 x with h | h
      · have := Int.ediv_nonneg h (Int.le_trans (by decide) hp)
        omega
      · have : x ≤ x / 2 ^ z.toNat := by
          rw [Int.le_ediv_iff_mul_le (by omega)]
          have := Int.mul_le_mul_of_nonpos_left (a := x) h hp
          omega
        omega
    · rcases Int.le_total 0 x with h | h
      · have := Int.ediv_le_self (2 ^ z.toNat) h
        omega
      · have := Int.ediv_le_ediv (c := 2 ^ z.toNat) (by omega) h
        simp at this
        omega
  rw [pk_shr _ _ _ (iI_sh h0 h1), toInt_iI hx, toInt_iI hr, Int.shiftRight_eq_div_pow]
  norm_cast
theorem iI_and1 (x : Int) : iI x &&& iI 1 = iI (x % 2) := by
  apply Int32.toBitVec_inj.1
  show BitVec.ofInt 32 x &&& BitVec.ofInt 32 1 = BitVec.ofInt 32 (x % 2)
  have h : (x % 2 = 0) ∨ (x % 2 = 1) := by omega
  apply BitVec.eq_of_getLsbD_eq
  intro i hi
  rw [BitVec.getLsbD_and]
  rcases Nat.eq_zero_or_pos i with rfl | hp
  · rcases h with h | h
    · rw [h]
      have : (BitVec.ofInt 32 x).getLsbD 0 = false := by
        rw [BitVec.getLsbD, BitVec.toNat_ofInt]
        rw [Nat.testBit_zero]
        simp
        omega
      rw [this]
      decide
    · rw [h]
      have : (BitVec.ofInt 32 x).getLsbD 0 = true := by
        rw [BitVec.getLsbD, BitVec.toNat_ofInt]
        rw [Nat.testBit_zero]
        simp
        omega
      rw [this]
      decide
  · have e1 : (BitVec.ofInt 32 1).getLsbD i = false := by
      have : ∀ i, i < 32 → 0 < i → (BitVec.ofInt 32 1).getLsbD i = false := by decide
      exact this i hi hp
    rw [e1]
    rcases h with h | h
    · rw [h]
      have : ∀ i, i < 32 → (BitVec.ofInt 32 0).getLsbD i = false := by decide
      simp [this i hi]
    · rw [h, e1]
      simp
theorem iI_not (x : Int) : iI x ^^^ iI (-1) = iI (-x - 1) := by
  have h : iI x ^^^ iI (-1) = ~~~ (iI x) := Int32.toBitVec_inj.1 (by
    show BitVec.ofInt 32 x ^^^ BitVec.ofInt 32 (-1) = ~~~ (BitVec.ofInt 32 x)
    have e : BitVec.ofInt 32 (-1) = BitVec.allOnes 32 := by decide
    rw [e, BitVec.xor_allOnes])
  rw [h, Int32.not_eq_neg_add, iI_neg]
  exact iI_sub _ 1
theorem iI_andnot (a b : Nat) : iI (a : Int) &&& iI (-(b : Int) - 1) = iI ((a ^^^ (a &&& b) : Nat) : Int) := by
  rw [← iI_not, iI_nat, iI_nat, iI_nat]
  apply Int32.toBitVec_inj.1
  show BitVec.ofNat 32 a &&& (BitVec.ofNat 32 b ^^^ BitVec.ofInt 32 (-1)) = BitVec.ofNat 32 (a ^^^ (a &&& b))
  have e : BitVec.ofInt 32 (-1) = BitVec.allOnes 32 := by decide
  rw [e]
  apply BitVec.eq_of_getLsbD_eq
  intro i hi
  simp only [BitVec.getLsbD_and, BitVec.getLsbD_xor, BitVec.getLsbD_ofNat, BitVec.getLsbD_allOnes, Nat.testBit_xor, Nat.testBit_and, hi, decide_true, Bool.true_and]
  cases a.testBit i <;> cases b.testBit i <;> rfl
theorem lI_i {z : Int} (h : rg z) : (iI z).toInt64 = lI z := Int32.toInt64_ofInt (by show (-2147483648 : Int) ≤ z; exact h.1) (by show z ≤ (2147483647 : Int); have := h.2; omega)
theorem lI_cmp {a b : Int} (ha : rg a) (hb : rg b) : lg_cmp (lI a) (lI b) = iI (if b < a then 1 else if a = b then 0 else -1) := by
  have h1 : (lI a).toInt = a := Int64.toInt_ofInt_of_le (by have := ha.1; omega) (by have := ha.2; omega)
  have h2 : (lI b).toInt = b := Int64.toInt_ofInt_of_le (by have := hb.1; omega) (by have := hb.2; omega)
  unfold lg_cmp
  simp only [gt_iff_lt, Int64.lt_iff_toInt_lt, ← Int64.toInt_inj, h1, h2]
  split
  · rfl
  · split <;> rfl
theorem tb_int (m j : Nat) : ((m : Int) / 2 ^ j) % 2 = b2i (m.testBit j) := by
  have : ((m : Int) / 2 ^ j) % 2 = ((m / 2 ^ j % 2 : Nat) : Int) := by push_cast; rfl
  rw [this, Nat.testBit_eq_decide_div_mod_eq]
  have h : m / 2 ^ j % 2 = 0 ∨ m / 2 ^ j % 2 = 1 := by omega
  rcases h with h | h <;> rw [h] <;> rfl
theorem b2i_rg (b : Bool) : rg (b2i b) := by cases b <;> (unfold rg b2i; decide)
