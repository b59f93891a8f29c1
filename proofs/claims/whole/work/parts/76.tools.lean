def bc0 (x : Int32) : Int32 := x - ((x.toUInt32 >>> ((Int32.ofInt 1).toUInt32 &&& Int32.toUInt32 31)).toInt32 &&& 1431655765)
def bc1 (x : Int32) : Int32 := (x &&& 858993459) + ((x.toUInt32 >>> ((Int32.ofInt 2).toUInt32 &&& Int32.toUInt32 31)).toInt32 &&& 858993459)
def bc2 (x : Int32) : Int32 := (x + (x.toUInt32 >>> ((Int32.ofInt 4).toUInt32 &&& Int32.toUInt32 31)).toInt32) &&& 252645135
def bc3 (x : Int32) : Int32 := x + (x.toUInt32 >>> ((Int8.ofInt 8).toInt32.toUInt32 &&& Int32.toUInt32 31)).toInt32
def bc4 (x : Int32) : Int32 := x + (x.toUInt32 >>> ((Int8.ofInt 16).toInt32.toUInt32 &&& Int32.toUInt32 31)).toInt32
theorem bc_all : ∀ x : Nat, x < 32 → iI ((pcN x 5 : Nat) : Int) = bc4 (bc3 (bc2 (bc1 (bc0 (iI (x : Int)))))) &&& (Int8.ofInt 63).toInt32 := by decide +kernel
theorem c_J6_bitCount {zs : zzT} {d : Nat} {Q : zzQ} {w : zzW} {x : Nat} (hx : x < 32) (hQ : Q [.int (iI ((pcN x 5 : Nat) : Int))] w) : zzCL zs (d + 1) 44 [.int (iI (x : Int))] w Q := by
  refine st_J6_bitCount_0f7a4 (Nat.le_of_ble_eq_true rfl) (fun R hR => ?_)
  show R 0 [(0, .int (iI (x : Int)))] [] _
  refine z_iload_n hR dJ6_bitCount_0f7a4_0 rfl rfl ?_
  refine z_iload_n hR dJ6_bitCount_0f7a4_1 rfl rfl ?_
  refine z_iconst hR dJ6_bitCount_0f7a4_2 rfl ?_
  refine z_iushr hR dJ6_bitCount_0f7a4_3 rfl ?_
  refine z_ldcw hR dJ6_bitCount_0f7a4_4 zk_6_265 ?_
  refine z_iand hR dJ6_bitCount_0f7a4_7 rfl ?_
  refine z_isub hR dJ6_bitCount_0f7a4_8 rfl ?_
  refine z_istore_n hR dJ6_bitCount_0f7a4_9 rfl (by decide) rfl ?_
  refine z_iload_n hR dJ6_bitCount_0f7a4_10 rfl rfl ?_
  refine z_ldcw hR dJ6_bitCount_0f7a4_11 zk_6_266 ?_
  refine z_iand hR dJ6_bitCount_0f7a4_14 rfl ?_
  refine z_iload_n hR dJ6_bitCount_0f7a4_15 rfl rfl ?_
  refine z_iconst hR dJ6_bitCount_0f7a4_16 rfl ?_
  refine z_iushr hR dJ6_bitCount_0f7a4_17 rfl ?_
  refine z_ldcw hR dJ6_bitCount_0f7a4_18 zk_6_266 ?_
  refine z_iand hR dJ6_bitCount_0f7a4_21 rfl ?_
  refine z_iadd hR dJ6_bitCount_0f7a4_22 rfl ?_
  refine z_istore_n hR dJ6_bitCount_0f7a4_23 rfl (by decide) rfl ?_
  refine z_iload_n hR dJ6_bitCount_0f7a4_24 rfl rfl ?_
  refine z_iload_n hR dJ6_bitCount_0f7a4_25 rfl rfl ?_
  refine z_iconst hR dJ6_bitCount_0f7a4_26 rfl ?_
  refine z_iushr hR dJ6_bitCount_0f7a4_27 rfl ?_
  refine z_iadd hR dJ6_bitCount_0f7a4_28 rfl ?_
  refine z_ldcw hR dJ6_bitCount_0f7a4_29 zk_6_267 ?_
  refine z_iand hR dJ6_bitCount_0f7a4_32 rfl ?_
  refine z_istore_n hR dJ6_bitCount_0f7a4_33 rfl (by decide) rfl ?_
  refine z_iload_n hR dJ6_bitCount_0f7a4_34 rfl rfl ?_
  refine z_iload_n hR dJ6_bitCount_0f7a4_35 rfl rfl ?_
  refine z_bipush hR dJ6_bitCount_0f7a4_36 rfl ?_
  refine z_iushr hR dJ6_bitCount_0f7a4_38 rfl ?_
  refine z_iadd hR dJ6_bitCount_0f7a4_39 rfl ?_
  refine z_istore_n hR dJ6_bitCount_0f7a4_40 rfl (by decide) rfl ?_
  refine z_iload_n hR dJ6_bitCount_0f7a4_41 rfl rfl ?_
  refine z_iload_n hR dJ6_bitCount_0f7a4_42 rfl rfl ?_
  refine z_bipush hR dJ6_bitCount_0f7a4_43 rfl ?_
  refine z_iushr hR dJ6_bitCount_0f7a4_45 rfl ?_
  refine z_iadd hR dJ6_bitCount_0f7a4_46 rfl ?_
  refine z_istore_n hR dJ6_bitCount_0f7a4_47 rfl (by decide) rfl ?_
  refine z_iload_n hR dJ6_bitCount_0f7a4_48 rfl rfl ?_
  refine z_bipush hR dJ6_bitCount_0f7a4_49 rfl ?_
  refine z_iand hR dJ6_bitCount_0f7a4_51 rfl ?_
  refine z_iret hR (st := []) dJ6_bitCount_0f7a4_52 rfl rfl ?_
  have hx2 := bc_all x hx
  exact hx2 ▸ hQ
theorem pcN_b2i (x k : Nat) : ((pcN x (k + 1) : Nat) : Int) = ((pcN x k : Nat) : Int) + b2i (x.testBit k) := by
  rw [pcN]
  cases h : x.testBit k <;> simp [b2i]
theorem pcN_hi {x n : Nat} (h : x < 2 ^ n) : ∀ k, n ≤ k → pcN x k = pcN x n
  | 0, hk => by rw [show n = 0 by omega]
  | k + 1, hk => by
    rcases Nat.lt_or_ge k n with q | q
    · rw [show n = k + 1 by omega]
    · rw [pcN, pcN_hi h k q, if_neg, Nat.add_zero]
      rw [Nat.testBit_lt_two_pow (Nat.lt_of_lt_of_le h (Nat.pow_le_pow_right (by decide) q))]
      decide
theorem c_X4_ones {zs : zzT} {d : Nat} {Q : zzQ} {w : zzW} {x : Nat} (hx : x < 1024) (hQ : Q [.int (iI ((pcN x 10 : Nat) : Int))] w) : zzCL zs (d + 1) 111 [.int (iI (x : Int))] w Q := by
  refine st_X4_ones (Nat.le_of_ble_eq_true rfl) (fun R hR => ?_)
  show R 0 [(0, .int (iI (x : Int)))] [] _
  have loop : ∀ (k i : Nat), i ≤ 10 → 10 < i + k → R 4 [(0, .int (iI (x : Int))), (1, .int (iI ((pcN x i : Nat) : Int))), (2, .int (iI (i : Int)))] [] w := by
    intro k
    induction k with
    | zero => intro i; intros; omega
    | succ k ih =>
      intro i  hi1 hi2 
      refine z_iload_n hR dX4_ones_4 rfl rfl ?_
      refine g_bipush hR dX4_ones_5 ?_
      refine g_icmp_ge hR (tgt := 24) dX4_ones_7 (by decide) (fun c7 => ?_) (fun c7 => ?_)
      · refine z_iload_n hR dX4_ones_24 rfl rfl ?_
        refine g_iret hR dX4_ones_25 rfl ?_
        have e : i = 10 := by omega
        subst e
        exact hQ
      · refine z_iload_n hR dX4_ones_10 rfl rfl ?_
        refine z_iload_n hR dX4_ones_11 rfl rfl ?_
        refine z_iload_n hR dX4_ones_12 rfl rfl ?_
        refine g_ishrN hR dX4_ones_13 rfl ?_
        refine g_iconst hR dX4_ones_14 ?_
        refine g_iand1 hR dX4_ones_15 (tb_int _ _) ?_
        refine g_iadd hR dX4_ones_16 rfl ?_
        refine z_istore_n hR dX4_ones_17 rfl (by decide) rfl ?_
        refine g_iinc hR dX4_ones_18 rfl rfl (by decide) rfl ?_
        refine z_goto hR (tgt := 4) dX4_ones_21 (by decide) ?_
        have hst := ih (i + 1) (by omega) (by omega)
        rw [pcN_b2i] at hst
        exact hst
  refine g_iconst hR dX4_ones_0 ?_
  refine z_istore_n hR dX4_ones_1 rfl (by decide) rfl ?_
  refine g_iconst hR dX4_ones_2 ?_
  refine z_istore_n hR dX4_ones_3 rfl (by decide) rfl ?_
  exact loop 11 0 (by omega) (by omega)
/-- the next seed -/
def nsq (x : Int64) : Int32 := ((1103515245 * x + 12345) &&& 2147483647).toInt32
def nsd (s : Int) : Int := (nsq (lI s)).toInt
theorem nsq_msb (y : Int64) : (y &&& 2147483647).toInt32.toBitVec.msb = false := by
  rw [Int64.toBitVec_toInt32, BitVec.msb_eq_getLsbD_last, BitVec.getLsbD_signExtend]
  rw [Int64.toBitVec_and, BitVec.getLsbD_and]
  rw [show (2147483647 : Int64).toBitVec.getLsbD (32 - 1) = false from by decide]
  simp
theorem nsd_rg (s : Int) : 0 ≤ nsd s ∧ nsd s < 2147483648 := by
  have h1 := rg_of (nsq (lI s))
  refine ⟨?_, h1.2⟩
  show 0 ≤ (nsq (lI s)).toBitVec.toInt
  rw [BitVec.toInt_eq_msb_cond, show (nsq (lI s)).toBitVec.msb = false from nsq_msb _]
  simp
theorem nsd_iI (s : Int) : iI (nsd s) = nsq (lI s) := iI_toInt _
theorem WK_X {g g1 : Nat → Nat → Int} {n an : Nat} {pt : Nat → Nat} (h : eqS scX g g1) (hk : WK g 2 n an pt) : WK g1 2 n an pt := by
  unfold WK WS at hk ⊢
  rw [eqX h 2 (by omega), eqX h (2 + 1) (by omega), eqX h (2 + 2) (by omega), eqX h (2 + 3) (by omega), eqX h (2 + 4) (by omega), eqX h (2 + 6) (by omega)]
  exact hk
theorem mtvM_M {g g1 : Nat → Nat → Int} (h : eqS scM g g1) {n m : Nat} {ea eb : Nat → Nat} (hp : MP g n m ea eb) (more : Nat) {x y : Nat} (hx : x < n) (hy : y < n) (d : Nat) : mtv n (kdM g1) (szM g1) (g1 41) (pby ea eb lfa m) (anb g1 n ||| more) (g1 39 3) (g1 39 4) (nwr g1 n) x y d = mtv n (kdM g) (szM g) (g 41) (pby ea eb lfa m) (anb g n ||| more) (g 39 3) (g 39 4) (nwr g n) x y d := by
  have e42 : g1 42 = g 42 := funext fun k => h 42 k (by unfold scM; omega)
  have e41 : g1 41 = g 41 := funext fun k => h 41 k (by unfold scM; omega)
  unfold kdM szM anb
  rw [e42, e41, h 39 3 (by unfold scM; omega), h 39 4 (by unfold scM; omega)]
  refine mtv_congr (fun _ _ => rfl) (fun _ _ => rfl) (fun _ _ => rfl) (fun _ _ => rfl) (fun j hj => ?_) (fun j hj => ?_) hx hy
  · unfold nwr; rw [if_pos hj, if_pos hj, e42]
  · unfold nwr; rw [if_pos hj, e42]; exact hp.2.2.2.2.2.1 j hj
/-- sums and counts -/
def cnt (c : Nat → Bool) : Nat → Int
  | 0 => 0
  | k + 1 => cnt c k + b2i (c k)
theorem cnt_rg (c : Nat → Bool) : ∀ k : Nat, 0 ≤ cnt c k ∧ cnt c k ≤ k
  | 0 => by simp [cnt]
  | k + 1 => by
    have := cnt_rg c k
    unfold cnt b2i
    cases c k <;> simp <;> omega
theorem cnt_congr {c c1 : Nat → Bool} : ∀ {k : Nat}, (∀ j, j < k → c j = c1 j) → cnt c k = cnt c1 k
  | 0, _ => rfl
  | k + 1, h => by rw [cnt, cnt, cnt_congr (fun j hj => h j (by omega)), h k (by omega)]
theorem pcN_cnt (x : Nat) : ∀ k, ((pcN x k : Nat) : Int) = cnt (fun t => x.testBit t) k
  | 0 => rfl
  | k + 1 => by rw [pcN_b2i, cnt, pcN_cnt x k]
theorem pcN_bor {c : Nat → Bool} {n : Nat} (hn : n ≤ 5) : ((pcN (bor (fun j => j) c n) 5 : Nat) : Int) = cnt c n := by
  rw [pcN_hi (bor_lt (m := n) (fun j hj => hj)) 5 hn, pcN_cnt]
  refine cnt_congr (fun j hj => ?_)
  have : (bor (fun j => j) c n).testBit j = true ↔ c j = true := by
    rw [bor_bit]
    exact ⟨fun ⟨i, _, b, e⟩ => e ▸ b, fun b => ⟨j, hj, b, rfl⟩⟩
  cases e1 : c j <;> cases e2 : (bor (fun j => j) c n).testBit j <;> simp_all
def rwp (c : Nat → Nat → Bool) (a : Nat) : Nat → Int
  | 0 => 0
  | b + 1 => rwp c a b + (if a < b then b2i (c a b) else 0)
def prT (c : Nat → Nat → Bool) (n : Nat) : Nat → Int
  | 0 => 0
  | a + 1 => prT c n a + rwp c a n
theorem rwp_0 (c : Nat → Nat → Bool) (a : Nat) : ∀ b, b ≤ a + 1 → rwp c a b = 0
  | 0, _ => rfl
  | b + 1, h => by rw [rwp, rwp_0 c a b (by omega), if_neg (by omega)]; rfl
theorem prT_two {c : Nat → Nat → Bool} {n : Nat} (hn : n ≤ 5) (hs : ∀ i j, i < n → j < n → c i j = c j i) (hi : ∀ i, i < n → c i i = false) : smu (fun i => cnt (c i) n) n = 2 * prT c n n := by
  have hn : n = 0 ∨ n = 1 ∨ n = 2 ∨ n = 3 ∨ n = 4 ∨ n = 5 := by omega
  have hb : b2i false = 0 := rfl
  rcases hn with rfl | rfl | rfl | rfl | rfl | rfl
  · rfl
  · simp [smu, cnt, prT, rwp, hi 0 (by omega), hb]
  · have s1 := hs 1 0 (by omega) (by omega)
    simp [smu, cnt, prT, rwp, hi 0 (by omega), hi 1 (by omega), hb, s1]; omega
  · have s1 := hs 1 0 (by omega) (by omega)
    have s2 := hs 2 0 (by omega) (by omega)
    have s3 := hs 2 1 (by omega) (by omega)
    simp [smu, cnt, prT, rwp, hi 0 (by omega), hi 1 (by omega), hi 2 (by omega), hb, s1, s2, s3]; omega
  · have s1 := hs 1 0 (by omega) (by omega)
    have s2 := hs 2 0 (by omega) (by omega)
    have s3 := hs 2 1 (by omega) (by omega)
    have s4 := hs 3 0 (by omega) (by omega)
    have s5 := hs 3 1 (by omega) (by omega)
    have s6 := hs 3 2 (by omega) (by omega)
    simp [smu, cnt, prT, rwp, hi 0 (by omega), hi 1 (by omega), hi 2 (by omega), hi 3 (by omega), hb, s1, s2, s3, s4, s5, s6]; omega
  · have s1 := hs 1 0 (by omega) (by omega)
    have s2 := hs 2 0 (by omega) (by omega)
    have s3 := hs 2 1 (by omega) (by omega)
    have s4 := hs 3 0 (by omega) (by omega)
    have s5 := hs 3 1 (by omega) (by omega)
    have s6 := hs 3 2 (by omega) (by omega)
    have s7 := hs 4 0 (by omega) (by omega)
    have s8 := hs 4 1 (by omega) (by omega)
    have s9 := hs 4 2 (by omega) (by omega)
    have s10 := hs 4 3 (by omega) (by omega)
    simp [smu, cnt, prT, rwp, hi 0 (by omega), hi 1 (by omega), hi 2 (by omega), hi 3 (by omega), hi 4 (by omega), hb, s1, s2, s3, s4, s5, s6, s7, s8, s9, s10]; omega
theorem bs_comm (p q : Int) : bs p q = bs q p := by unfold bs; rw [Bool.or_comm]
theorem bs_irr {p : Int} (h : 0 ≤ p ∧ p < 12) : bs p p = false := by
  unfold bs
  rw [decide_eq_false (by omega)]
  rfl
theorem prT_bs {n : Nat} {q : FI} (hn : n ≤ 5) (hq : plok n q) : smu (fun i => cnt (fun j => bs (q i) (q j)) n) n = 2 * prT (fun i j => bs (q i) (q j)) n n := prT_two hn (fun i j _ _ => bs_comm _ _) (fun i hi => bs_irr (hq i hi))
theorem rwp_congr {c c1 : Nat → Nat → Bool} {a n : Nat} (ha : a < n) : ∀ b, b ≤ n → (∀ i j, i < n → j < n → c i j = c1 i j) → rwp c a b = rwp c1 a b
  | 0, _, _ => rfl
  | b + 1, hb, h => by rw [rwp, rwp, rwp_congr ha b (by omega) h, h a b ha (by omega)]
theorem prT_congr {c c1 : Nat → Nat → Bool} {n : Nat} (h : ∀ i j, i < n → j < n → c i j = c1 i j) : ∀ a, a ≤ n → prT c n a = prT c1 n a
  | 0, _ => rfl
  | a + 1, ha => by rw [prT, prT, prT_congr h a (by omega), rwp_congr (by omega) n (Nat.le_refl n) h]
