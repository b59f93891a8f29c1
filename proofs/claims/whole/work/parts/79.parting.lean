def isLo (f : Nat → Int) (P : Nat → Bool) (N : Nat) (top r : Int) : Prop := (r = top ∨ ∃ t, t < N ∧ P t = true ∧ f t = r) ∧ (∀ t, t < N → P t = true → r ≤ f t) ∧ r ≤ top
theorem lo_0 (f : Nat → Int) (P : Nat → Bool) (top : Int) : isLo f P 0 top top := ⟨Or.inl rfl, fun t h => absurd h (by omega), by omega⟩
theorem lo_no {f : Nat → Int} {P : Nat → Bool} {i : Nat} {top r : Int} (h : isLo f P i top r) (hP : P i = false) : isLo f P (i + 1) top r := by
  obtain ⟨a, b, c⟩ := h
  refine ⟨a.imp id (fun ⟨t, h1, h2⟩ => ⟨t, by omega, h2⟩), fun t ht hp => ?_, c⟩
  rcases Nat.lt_or_eq_of_le (Nat.le_of_lt_succ ht) with q | q
  · exact b t q hp
  · rw [q, hP] at hp; exact absurd hp (by decide)
theorem lo_yes {f : Nat → Int} {P : Nat → Bool} {i : Nat} {top r : Int} (h : isLo f P i top r) (hP : P i = true) : isLo f P (i + 1) top (if f i < r then f i else r) := by
  obtain ⟨a, b, c⟩ := h
  split
  · next q =>
    refine ⟨Or.inr ⟨i, by omega, hP, rfl⟩, fun t ht hp => ?_, by omega⟩
    rcases Nat.lt_or_eq_of_le (Nat.le_of_lt_succ ht) with q1 | q1
    · have := b t q1 hp; omega
    · rw [q1]; omega
  · next q =>
    refine ⟨a.imp id (fun ⟨t, h1, h2⟩ => ⟨t, by omega, h2⟩), fun t ht hp => ?_, c⟩
    rcases Nat.lt_or_eq_of_le (Nat.le_of_lt_succ ht) with q1 | q1
    · exact b t q1 hp
    · rw [q1]; omega
/-- ropes out of a set, as the class counts them -/
def rof (rp : Nat → Nat) (S : Nat) : Nat → Int := smu (fun i => if S.testBit i = true then ((pcN (rp i ^^^ (rp i &&& S)) 5 : Nat) : Int) else 0)
theorem rof_s (rp : Nat → Nat) (S i : Nat) : rof rp S (i + 1) = rof rp S i + (if S.testBit i = true then ((pcN (rp i ^^^ (rp i &&& S)) 5 : Nat) : Int) else 0) := rfl
theorem rof_rg (rp : Nat → Nat) (S : Nat) (i : Nat) : 0 ≤ rof rp S i ∧ rof rp S i ≤ 5 * i := smu_nn i (fun j _ => by have := pcN_le (rp j ^^^ (rp j &&& S)) 5; split <;> omega)
theorem c_X2_ropesOutOf {zs : zzT} {d : Nat} {Q : zzQ} {g : Nat → Nat → Int} {hh : Int64} {n : Nat} (hn : g 2 6 = (n : Int)) (hn5 : n ≤ 5) {rp : Nat → Nat} (hrp : ∀ j, j < n → g 7 j = ((rp j : Nat) : Int) ∧ rp j < 2 ^ n) {S : Nat} (hS : S < 32) (hQ : Q [.int (iI (rof rp S n))] (wof g hh)) : zzCL zs (d + 2) 57 [.ref 2, .int (iI (S : Int))] (wof g hh) Q := by
  refine st_X2_ropesOutOf (Nat.le_of_ble_eq_true rfl) (fun R hR => ?_)
  show R 0 [(0, .ref 2), (1, .int (iI (S : Int)))] [] _
  have h32 : (2 : Nat) ^ n ≤ 32 := Nat.pow_le_pow_right (n := 2) (by decide) hn5
  have loop : ∀ (k i : Nat), i ≤ n → n < i + k → R 4 [(0, .ref 2), (1, .int (iI (S : Int))), (2, .int (iI (rof rp S i))), (3, .int (iI (i : Int)))] [] (wof g hh) := by
    intro k
    induction k with
    | zero => intro i; intros; omega
    | succ k ih =>
      intro i  hi1 hi2 
      refine z_iload_n hR dX2_ropesOutOf_4 rfl rfl ?_
      refine z_aload_n hR dX2_ropesOutOf_5 rfl rfl ?_
      refine g_get hR dX2_ropesOutOf_6 zf_2_30 (wk_2 _) (gi hn) ?_
      refine g_icmp_ge hR (tgt := 43) dX2_ropesOutOf_9 (by decide) (fun c9 => ?_) (fun c9 => ?_)
      · refine z_iload_n hR dX2_ropesOutOf_43 rfl rfl ?_
        refine g_iret hR dX2_ropesOutOf_44 rfl ?_
        have e : i = n := by omega
        subst e
        exact hQ
      · have hin : i < n := by omega
        refine z_iload_n hR dX2_ropesOutOf_12 rfl rfl ?_
        refine z_iload_n hR dX2_ropesOutOf_13 rfl rfl ?_
        refine g_ishrN hR dX2_ropesOutOf_14 rfl ?_
        refine g_iconst hR dX2_ropesOutOf_15 ?_
        refine g_iand1 hR dX2_ropesOutOf_16 (tb_int _ _) ?_
        refine g_iconst hR dX2_ropesOutOf_17 ?_
        refine g_icmp_neb hR (tgt := 37) dX2_ropesOutOf_18 (by decide) (fun c18 => ?_) (fun c18 => ?_)
        · refine g_iinc hR dX2_ropesOutOf_37 rfl rfl (by decide) rfl ?_
          refine z_goto hR (tgt := 4) dX2_ropesOutOf_40 (by decide) ?_
          have hst := ih (i + 1) (by omega) (by omega)
          rw [rof_s] at hst
          first | (rw [if_pos c18] at hst; exact hst) | (rw [if_neg (by rw [c18]; decide), Int.add_zero] at hst; exact hst)
        · refine z_iload_n hR dX2_ropesOutOf_21 rfl rfl ?_
          refine z_aload_n hR dX2_ropesOutOf_22 rfl rfl ?_
          refine g_get hR dX2_ropesOutOf_23 zf_2_24 (wk_2 _) (show _ = some (Value.ref 7) from rfl) ?_
          refine z_iload_n hR dX2_ropesOutOf_26 rfl rfl ?_
          refine g_ialdN hR dX2_ropesOutOf_27 (wk_7 _) (hrp i hin).1 ?_
          refine z_iload_n hR dX2_ropesOutOf_28 rfl rfl ?_
          refine g_iconst hR dX2_ropesOutOf_29 ?_
          refine g_inot hR dX2_ropesOutOf_30 rfl ?_
          refine g_iandn hR dX2_ropesOutOf_31 ?_
          refine g_sta1 hR dX2_ropesOutOf_32 zm_2_73 zN_J6_bitCount_0f7a4 (Nat.le_of_ble_eq_true rfl) ?_
          refine c_J6_bitCount (Nat.lt_of_lt_of_le (xor_and_lt (hrp i hin).2) h32) ?_
          show R 35 _ (.int _ :: _) _
          refine g_iadd hR dX2_ropesOutOf_35 rfl ?_
          refine z_istore_n hR dX2_ropesOutOf_36 rfl (by decide) rfl ?_
          refine g_iinc hR dX2_ropesOutOf_37 rfl rfl (by decide) rfl ?_
          refine z_goto hR (tgt := 4) dX2_ropesOutOf_40 (by decide) ?_
          have hst := ih (i + 1) (by omega) (by omega)
          rw [rof_s] at hst
          first | (rw [if_pos c18] at hst; exact hst) | (rw [if_neg (by rw [c18]; decide), Int.add_zero] at hst; exact hst)
  refine g_iconst hR dX2_ropesOutOf_0 ?_
  refine z_istore_n hR dX2_ropesOutOf_1 rfl (by decide) rfl ?_
  refine g_iconst hR dX2_ropesOutOf_2 ?_
  refine z_istore_n hR dX2_ropesOutOf_3 rfl (by decide) rfl ?_
  exact loop (n + 1) 0 (by omega) (by omega)
theorem c_X2_fewestCuts {zs : zzT} {d : Nat} {Q : zzQ} {g : Nat → Nat → Int} {hh : Int64} {n : Nat} (hn : g 2 6 = (n : Int)) (hn5 : n ≤ 5) {rp : Nat → Nat} (hrp : ∀ j, j < n → g 7 j = ((rp j : Nat) : Int) ∧ rp j < 2 ^ n) {m : Nat} (hm : g 2 7 = (m : Int)) (hm6 : m ≤ 6) {x y : Nat} (hx : x < n) (hy : y < n) (hQ : ∀ F, isLo (fun S => rof rp S n) (fun S => S.testBit x && !S.testBit y) (2 ^ n) (m : Int) F → Q [.int (iI F)] (wof g hh)) : zzCL zs (d + 3) 56 [.ref 2, .int (iI (x : Int)), .int (iI (y : Int))] (wof g hh) Q := by
  refine st_X2_fewestCuts (Nat.le_of_ble_eq_true rfl) (fun R hR => ?_)
  show R 0 [(0, .ref 2), (1, .int (iI (x : Int))), (2, .int (iI (y : Int)))] [] _
  have h32 : (2 : Nat) ^ n ≤ 32 := Nat.pow_le_pow_right (n := 2) (by decide) hn5
  have loop : ∀ (k i : Nat) (F : Int), i ≤ (2 ^ n) → (2 ^ n) < i + k → (isLo (fun S => rof rp S n) (fun S => S.testBit x && !S.testBit y) i (m : Int) F) → (-100 ≤ F ∧ F ≤ 100) → R 16 [(0, .ref 2), (1, .int (iI (x : Int))), (2, .int (iI (y : Int))), (3, .int (iI F)), (4, .int (iI ((2 ^ n : Nat) : Int))), (5, .int (iI (i : Int)))] [] (wof g hh) := by
    intro k
    induction k with
    | zero => intro i; intros; omega
    | succ k ih =>
      intro i F hi1 hi2 hL hF
      refine z_iload hR dX2_fewestCuts_16 rfl ?_
      refine z_iload hR dX2_fewestCuts_18 rfl ?_
      refine g_icmp_ge hR (tgt := 59) dX2_fewestCuts_20 (by decide) (fun c20 => ?_) (fun c20 => ?_)
      · refine z_iload_n hR dX2_fewestCuts_59 rfl rfl ?_
        refine g_iret hR dX2_fewestCuts_60 rfl ?_
        have e : i = 2 ^ n := by omega
        rw [e] at hL
        exact hQ F hL
      · have hu : i < 2 ^ n := by omega
        have hrr := rof_rg rp i n
        refine z_iload hR dX2_fewestCuts_23 rfl ?_
        refine z_iload_n hR dX2_fewestCuts_25 rfl rfl ?_
        refine g_ishrN hR dX2_fewestCuts_26 rfl ?_
        refine g_iconst hR dX2_fewestCuts_27 ?_
        refine g_iand1 hR dX2_fewestCuts_28 (tb_int _ _) ?_
        refine g_iconst hR dX2_fewestCuts_29 ?_
        refine g_icmp_neb hR (tgt := 53) dX2_fewestCuts_30 (by decide) (fun c30 => ?_) (fun c30 => ?_)
        · have hP : (fun S => S.testBit x && !S.testBit y) i = false := by show (i.testBit x && !i.testBit y) = false; rw [c30]; rfl
          refine g_iinc hR dX2_fewestCuts_53 rfl rfl (by decide) rfl ?_
          refine z_goto hR (tgt := 16) dX2_fewestCuts_56 (by decide) ?_
          first | exact ih (i + 1) _ (by omega) (by omega) (lo_no hL hP) (by omega) | exact ih (i + 1) _ (by omega) (by omega) (lo_yes hL hP) (by split <;> omega)
        · refine z_iload hR dX2_fewestCuts_33 rfl ?_
          refine z_iload_n hR dX2_fewestCuts_35 rfl rfl ?_
          refine g_ishrN hR dX2_fewestCuts_36 rfl ?_
          refine g_iconst hR dX2_fewestCuts_37 ?_
          refine g_iand1 hR dX2_fewestCuts_38 (tb_int _ _) ?_
          refine g_if_neb hR (tgt := 53) dX2_fewestCuts_39 (by decide) (fun c39 => ?_) (fun c39 => ?_)
          · have hP : (fun S => S.testBit x && !S.testBit y) i = false := by show (i.testBit x && !i.testBit y) = false; rw [c30, c39]; rfl
            refine g_iinc hR dX2_fewestCuts_53 rfl rfl (by decide) rfl ?_
            refine z_goto hR (tgt := 16) dX2_fewestCuts_56 (by decide) ?_
            first | exact ih (i + 1) _ (by omega) (by omega) (lo_no hL hP) (by omega) | exact ih (i + 1) _ (by omega) (by omega) (lo_yes hL hP) (by split <;> omega)
          · have hP : (fun S => S.testBit x && !S.testBit y) i = true := by show (i.testBit x && !i.testBit y) = true; rw [c30, c39]; rfl
            refine z_iload_n hR dX2_fewestCuts_42 rfl rfl ?_
            refine z_aload_n hR dX2_fewestCuts_43 rfl rfl ?_
            refine z_iload hR dX2_fewestCuts_44 rfl ?_
            refine g_inv1 hR dX2_fewestCuts_46 zm_2_88 (by decide) zN_X2_ropesOutOf ((wk_2 _) _) zO_X2_ropesOutOf (Nat.le_of_ble_eq_true rfl) ?_
            refine c_X2_ropesOutOf hn hn5 hrp (S := i) (by omega) ?_
            show R 49 _ (.int _ :: _) _
            refine g_mmn hR dX2_fewestCuts_49 zn_2_91 rfl (Nat.le_of_ble_eq_true rfl) ?_
            refine z_istore_n hR dX2_fewestCuts_52 rfl (by decide) rfl ?_
            refine g_iinc hR dX2_fewestCuts_53 rfl rfl (by decide) rfl ?_
            refine z_goto hR (tgt := 16) dX2_fewestCuts_56 (by decide) ?_
            first | exact ih (i + 1) _ (by omega) (by omega) (lo_no hL hP) (by omega) | exact ih (i + 1) _ (by omega) (by omega) (lo_yes hL hP) (by split <;> omega)
  refine z_aload_n hR dX2_fewestCuts_0 rfl rfl ?_
  refine g_get hR dX2_fewestCuts_1 zf_2_34 (wk_2 _) (gi hm) ?_
  refine z_istore_n hR dX2_fewestCuts_4 rfl (by decide) rfl ?_
  refine g_iconst hR dX2_fewestCuts_5 ?_
  refine z_aload_n hR dX2_fewestCuts_6 rfl rfl ?_
  refine g_get hR dX2_fewestCuts_7 zf_2_30 (wk_2 _) (gi hn) ?_
  refine g_ishl hR dX2_fewestCuts_10 (p2n _) (by omega) ?_
  refine z_istore hR dX2_fewestCuts_11 (by decide) rfl ?_
  refine g_iconst hR dX2_fewestCuts_13 ?_
  refine z_istore hR dX2_fewestCuts_14 (by decide) rfl ?_
  exact loop (2 ^ n + 1) 0 (m : Int) (Nat.zero_le _) (by omega) (lo_0 _ _ _) (by omega)
theorem c_X3_parting {zs : zzT} {d : Nat} {Q : zzQ} {g : Nat → Nat → Int} {hh : Int64} {n : Nat} (hn : g 2 6 = (n : Int)) (hn5 : n ≤ 5) {rp : Nat → Nat} (hrp : ∀ j, j < n → g 7 j = ((rp j : Nat) : Int) ∧ rp j < 2 ^ n) {pt : Nat → Nat} (hpt : ∀ j, j < n → g 8 j = ((pt j : Nat) : Int) ∧ pt j < 2 ^ n) {m : Nat} (hm : g 2 7 = (m : Int)) (hm6 : m ≤ 6) {x y : Int} (hr1 : rg x) (hr2 : rg y) (h1 : ¬ ((0 ≤ x ∧ x < (n : Int)) ∧ (0 ≤ y ∧ y < (n : Int)) ∧ x ≠ y) → Q [.int (iI (-101))] (wof g hh)) (h2 : ∀ i j : Nat, x = (i : Int) → y = (j : Int) → i < n → j < n → i ≠ j → (pt i).testBit j = false → Q [.int (iI (-103))] (wof g hh)) (h3 : ∀ i j : Nat, x = (i : Int) → y = (j : Int) → i < n → j < n → i ≠ j → (pt i).testBit j = true → ∀ F, isLo (fun S => rof rp S n) (fun S => S.testBit i && !S.testBit j) (2 ^ n) (m : Int) F → Q [.int (iI F)] (wof g hh)) : zzCL zs (d + 4) 55 [.ref 0, .int (iI x), .int (iI y)] (wof g hh) Q := by
  refine st_X3_parting (Nat.le_of_ble_eq_true rfl) (fun R hR => ?_)
  show R 0 [(0, .ref 0), (1, .int (iI x)), (2, .int (iI y))] [] _
  have h32 : (2 : Nat) ^ n ≤ 32 := Nat.pow_le_pow_right (n := 2) (by decide) hn5
  refine z_aload_n hR dX3_parting_0 rfl rfl ?_
  refine z_iload_n hR dX3_parting_1 rfl rfl ?_
  refine z_iload_n hR dX3_parting_2 rfl rfl ?_
  refine g_inv2 hR dX3_parting_3 zm_3_142 (by decide) zN_X3_areTwo ((wk_0 _) _) zO_X3_areTwo (Nat.le_of_ble_eq_true rfl) ?_
  refine c_X3_areTwo hn hn5 hr1 hr2 ?_
  show R 6 _ (.int _ :: _) _
  refine g_if_neb hR (tgt := 12) dX3_parting_6 (by decide) (fun c6 => ?_) (fun c6 => ?_)
  · have c6 := of_decide_eq_true c6
    obtain ⟨⟨q1, q2⟩, ⟨q3, q4⟩, q5⟩ := id c6
    obtain ⟨i, rfl⟩ := Int.eq_ofNat_of_zero_le q1
    obtain ⟨j, rfl⟩ := Int.eq_ofNat_of_zero_le q3
    have hi : i < n := by omega
    have hj : j < n := by omega
    have hpi := (hpt i hi).2
    refine z_aload_n hR dX3_parting_12 rfl rfl ?_
    refine g_get hR dX3_parting_13 zf_3_33 (wk_0 _) (show _ = some (Value.ref 2) from rfl) ?_
    refine g_get hR dX3_parting_16 zf_3_130 (wk_2 _) (show _ = some (Value.ref 8) from rfl) ?_
    refine z_iload_n hR dX3_parting_19 rfl rfl ?_
    refine g_ialdN hR dX3_parting_20 (wk_8 _) (hpt i hi).1 ?_
    refine z_iload_n hR dX3_parting_21 rfl rfl ?_
    refine g_ishrN hR dX3_parting_22 rfl ?_
    refine g_iconst hR dX3_parting_23 ?_
    refine g_iand1 hR dX3_parting_24 (tb_int _ _) ?_
    refine g_if_neb hR (tgt := 31) dX3_parting_25 (by decide) (fun c25 => ?_) (fun c25 => ?_)
    · refine z_aload_n hR dX3_parting_31 rfl rfl ?_
      refine g_get hR dX3_parting_32 zf_3_33 (wk_0 _) (show _ = some (Value.ref 2) from rfl) ?_
      refine z_iload_n hR dX3_parting_35 rfl rfl ?_
      refine z_iload_n hR dX3_parting_36 rfl rfl ?_
      refine g_inv2 hR dX3_parting_37 zm_3_188 (by decide) zN_X2_fewestCuts ((wk_2 _) _) zO_X2_fewestCuts (Nat.le_of_ble_eq_true rfl) ?_
      refine c_X2_fewestCuts hn hn5 hrp hm hm6 hi hj (fun F hF => ?_)
      show R 40 _ (.int _ :: _) _
      refine g_iret hR dX3_parting_40 rfl ?_
      exact h3 i j rfl rfl hi hj (by omega) c25 F hF
    · refine g_bipush hR dX3_parting_28 ?_
      refine g_iret hR dX3_parting_30 rfl ?_
      exact h2 i j rfl rfl hi hj (by omega) c25
  · have c6 := of_decide_eq_false c6
    refine g_bipush hR dX3_parting_9 ?_
    refine g_iret hR dX3_parting_11 rfl ?_
    exact h1 c6
theorem not_bit (x : Nat) {r : Nat} (hr : r < 6) : ((-(x : Int) - 1) / 2 ^ r) % 2 = b2i (!x.testBit r) := by
  have h := tb_int x r
  have hr : r = 0 ∨ r = 1 ∨ r = 2 ∨ r = 3 ∨ r = 4 ∨ r = 5 := by omega
  rcases hr with rfl | rfl | rfl | rfl | rfl | rfl <;> (cases e : x.testBit _ <;> rw [e] at h <;> simp only [b2i, Bool.not_true, Bool.not_false, cond_true, cond_false] at h ⊢ <;> omega)
def lfx (x : Nat) : Nat → Bool := fun r => !x.testBit r
def ptd (ea eb : Nat → Nat) (m a b : Nat) : Nat → Bool := fun s => !(pby ea eb (lfx s) m a).testBit b
theorem c_X4_parting {zs : zzT} {d : Nat} {Q : zzQ} {g : Nat → Nat → Int} {hh : Int64} {m n : Nat} {ea eb : Nat → Nat} (hr : MR g m n ea eb) (hn : g 39 8 = (n : Int)) {x y : Int} (hr1 : rg x) (hr2 : rg y) (h1 : ¬ ((0 ≤ x ∧ x < (n : Int)) ∧ (0 ≤ y ∧ y < (n : Int)) ∧ x ≠ y) → Q [.int (iI (-101))] (wof g hh)) (h2 : ∀ i j : Nat, x = (i : Int) → y = (j : Int) → i < n → j < n → i ≠ j → (pby ea eb lfa m i).testBit j = false → Q [.int (iI (-103))] (wof g hh)) (h3 : ∀ i j : Nat, x = (i : Int) → y = (j : Int) → i < n → j < n → i ≠ j → (pby ea eb lfa m i).testBit j = true → ∀ F, isLo (fun s => ((pcN s 10 : Nat) : Int)) (ptd ea eb m i j) (2 ^ m) 6 F → Q [.int (iI F)] (wof g hh)) : zzCL zs (d + 4) 119 [.ref 39, .int (iI x), .int (iI y)] (wof g hh) Q := by
  refine st_X4_parting (Nat.le_of_ble_eq_true rfl) (fun R hR => ?_)
  show R 0 [(0, .ref 39), (1, .int (iI x)), (2, .int (iI y))] [] _
  have hn5 := hr.2.2.1
  have hm6 := hr.2.1
  have h32 : (2 : Nat) ^ n ≤ 32 := Nat.pow_le_pow_right (n := 2) (by decide) hn5
  have h64 : (2 : Nat) ^ m ≤ 64 := Nat.pow_le_pow_right (n := 2) (by decide) hm6
  refine z_aload_n hR dX4_parting_0 rfl rfl ?_
  refine z_iload_n hR dX4_parting_1 rfl rfl ?_
  refine z_iload_n hR dX4_parting_2 rfl rfl ?_
  refine g_inv2 hR dX4_parting_3 zm_4_151 (by decide) zN_X4_arePair ((wk_39 _) _) zO_X4_arePair (Nat.le_of_ble_eq_true rfl) ?_
  refine c_X4_arePair hn hn5 hr1 hr2 ?_
  show R 6 _ (.int _ :: _) _
  refine g_if_neb hR (tgt := 12) dX4_parting_6 (by decide) (fun c6 => ?_) (fun c6 => ?_)
  · have c6 := of_decide_eq_true c6
    obtain ⟨⟨q1, q2⟩, ⟨q3, q4⟩, q5⟩ := id c6
    obtain ⟨i, rfl⟩ := Int.eq_ofNat_of_zero_le q1
    obtain ⟨j, rfl⟩ := Int.eq_ofNat_of_zero_le q3
    have hi : i < n := by omega
    have hj : j < n := by omega
    have hpl := pby_lt (lf := lfa) (fun r h => (hr.2.2.2 r h).2.2) hi
    refine z_aload_n hR dX4_parting_12 rfl rfl ?_
    refine z_iload_n hR dX4_parting_13 rfl rfl ?_
    refine g_inv1 hR dX4_parting_14 zm_4_120 (by decide) zN_X4_partyOf ((wk_39 _) _) zO_X4_partyOf (Nat.le_of_ble_eq_true rfl) ?_
    refine c_X4_partyOf hr hi ?_
    show R 17 _ (.int _ :: _) _
    refine z_iload_n hR dX4_parting_17 rfl rfl ?_
    refine g_ishrN hR dX4_parting_18 rfl ?_
    refine g_iconst hR dX4_parting_19 ?_
    refine g_iand1 hR dX4_parting_20 (tb_int _ _) ?_
    refine g_if_neb hR (tgt := 27) dX4_parting_21 (by decide) (fun c21 => ?_) (fun c21 => ?_)
    · refine g_bipush hR dX4_parting_27 ?_
      refine z_istore_n hR dX4_parting_29 rfl (by decide) rfl ?_
      refine g_iconst hR dX4_parting_30 ?_
      refine z_istore hR dX4_parting_31 (by decide) rfl ?_
      have loop : ∀ (ku u : Nat) (F : Int), u ≤ (2 ^ m) → (2 ^ m) < u + ku → (isLo (fun s => ((pcN s 10 : Nat) : Int)) (ptd ea eb m i j) u 6 F) → (-100 ≤ F ∧ F ≤ 100) → R 33 [(0, .ref 39), (1, .int (iI (i : Int))), (2, .int (iI (j : Int))), (3, .int (iI F)), (4, .int (iI (u : Int)))] [] (wof g hh) := by
        intro ku
        induction ku with
        | zero => intro u; intros; omega
        | succ ku ih =>
          intro u F hi1 hi2 hL hF
          refine z_iload hR dX4_parting_33 rfl ?_
          refine g_iconst hR dX4_parting_35 ?_
          refine z_aload_n hR dX4_parting_36 rfl rfl ?_
          refine g_get hR dX4_parting_37 zf_4_79 (wk_39 _) (gi hr.1) ?_
          refine g_ishl hR dX4_parting_40 (p2n _) (by omega) ?_
          refine g_icmp_ge hR (tgt := 97) dX4_parting_41 (by decide) (fun c41 => ?_) (fun c41 => ?_)
          · refine z_iload_n hR dX4_parting_97 rfl rfl ?_
            refine g_iret hR dX4_parting_98 rfl ?_
            have e : u = 2 ^ m := by omega
            rw [e] at hL
            exact h3 i j rfl rfl hi hj (by omega) c21 F hL
          · have hu : u < 2 ^ m := by omega
            have hpc := pcN_le u 10
            have hpl := pby_lt (lf := lfx u) (fun r h => (hr.2.2.2 r h).2.2) hi
            refine z_aload_n hR dX4_parting_44 rfl rfl ?_
            refine z_iload_n hR dX4_parting_45 rfl rfl ?_
            refine z_iload hR dX4_parting_46 rfl ?_
            refine g_iconst hR dX4_parting_48 ?_
            refine g_inot hR dX4_parting_49 rfl ?_
            refine g_inv2 hR dX4_parting_50 zm_4_116 (by decide) zN_X4_partyBy ((wk_39 _) _) zO_X4_partyBy (Nat.le_of_ble_eq_true rfl) ?_
            refine c_X4_partyBy hr hi (lf := lfx u) (by unfold rg; omega) (fun r h => not_bit u (by omega)) ?_
            show R 53 _ (.int _ :: _) _
            refine z_iload_n hR dX4_parting_53 rfl rfl ?_
            refine g_ishrN hR dX4_parting_54 rfl ?_
            refine g_iconst hR dX4_parting_55 ?_
            refine g_iand1 hR dX4_parting_56 (tb_int _ _) ?_
            refine g_if_neb hR (tgt := 64) dX4_parting_57 (by decide) (fun c57 => ?_) (fun c57 => ?_)
            · refine g_iconst hR dX4_parting_64 ?_
              refine z_istore hR dX4_parting_65 (by decide) rfl ?_
              refine z_iload hR dX4_parting_67 rfl ?_
              refine g_if_eq hR (tgt := 89) dX4_parting_69 (by decide) (fun c69 => ?_) (fun c69 => ?_)
              · refine z_iload_n hR dX4_parting_89 rfl rfl ?_
                refine z_istore_n hR dX4_parting_90 rfl (by decide) rfl ?_
                refine g_iinc hR dX4_parting_91 rfl rfl (by decide) rfl ?_
                refine z_goto hR (tgt := 33) dX4_parting_94 (by decide) ?_
                refine z_sub hR [0, 1, 2, 3, 4] rfl ?_
                have hP : ptd ea eb m i j u = false := by unfold ptd; rw [c57]; rfl
                exact ih (u + 1) _ (by omega) (by omega) (lo_no hL hP) (by omega)
              · exact absurd rfl c69
            · refine g_iconst hR dX4_parting_60 ?_
              refine z_goto hR (tgt := 65) dX4_parting_61 (by decide) ?_
              refine z_istore hR dX4_parting_65 (by decide) rfl ?_
              refine z_iload hR dX4_parting_67 rfl ?_
              refine g_if_eq hR (tgt := 89) dX4_parting_69 (by decide) (fun c69 => ?_) (fun c69 => ?_)
              · exact absurd c69 (by decide)
              · refine z_iload hR dX4_parting_72 rfl ?_
                refine g_sta1 hR dX4_parting_74 zm_4_161 zN_X4_ones (Nat.le_of_ble_eq_true rfl) ?_
                refine c_X4_ones (x := u) (by omega) ?_
                show R 77 _ (.int _ :: _) _
                refine z_iload_n hR dX4_parting_77 rfl rfl ?_
                refine g_icmp_ge hR (tgt := 89) dX4_parting_78 (by decide) (fun c78 => ?_) (fun c78 => ?_)
                · refine z_iload_n hR dX4_parting_89 rfl rfl ?_
                  refine z_istore_n hR dX4_parting_90 rfl (by decide) rfl ?_
                  refine g_iinc hR dX4_parting_91 rfl rfl (by decide) rfl ?_
                  refine z_goto hR (tgt := 33) dX4_parting_94 (by decide) ?_
                  refine z_sub hR [0, 1, 2, 3, 4] rfl ?_
                  have hP : ptd ea eb m i j u = true := by unfold ptd; rw [c57]; rfl
                  have hl := lo_yes hL hP
                  first | (rw [if_pos (by omega)] at hl; exact ih (u + 1) _ (by omega) (by omega) hl (by omega)) | (rw [if_neg (by omega)] at hl; exact ih (u + 1) _ (by omega) (by omega) hl (by omega))
                · refine z_iload hR dX4_parting_81 rfl ?_
                  refine g_sta1 hR dX4_parting_83 zm_4_161 zN_X4_ones (Nat.le_of_ble_eq_true rfl) ?_
                  refine c_X4_ones (x := u) (by omega) ?_
                  show R 86 _ (.int _ :: _) _
                  refine z_goto hR (tgt := 90) dX4_parting_86 (by decide) ?_
                  refine z_istore_n hR dX4_parting_90 rfl (by decide) rfl ?_
                  refine g_iinc hR dX4_parting_91 rfl rfl (by decide) rfl ?_
                  refine z_goto hR (tgt := 33) dX4_parting_94 (by decide) ?_
                  refine z_sub hR [0, 1, 2, 3, 4] rfl ?_
                  have hP : ptd ea eb m i j u = true := by unfold ptd; rw [c57]; rfl
                  have hl := lo_yes hL hP
                  first | (rw [if_pos (by omega)] at hl; exact ih (u + 1) _ (by omega) (by omega) hl (by omega)) | (rw [if_neg (by omega)] at hl; exact ih (u + 1) _ (by omega) (by omega) hl (by omega))
      exact loop (2 ^ m + 1) 0 6 (Nat.zero_le _) (by omega) (lo_0 _ _ _) (by omega)
    · refine g_bipush hR dX4_parting_24 ?_
      refine g_iret hR dX4_parting_26 rfl ?_
      exact h2 i j rfl rfl hi hj (by omega) c21
  · have c6 := of_decide_eq_false c6
    refine g_bipush hR dX4_parting_9 ?_
    refine g_iret hR dX4_parting_11 rfl ?_
    exact h1 c6
theorem smu_add (f f1 : Nat → Int) : ∀ n, smu (fun i => f i + f1 i) n = smu f n + smu f1 n
  | 0 => rfl
  | n + 1 => by rw [smu, smu, smu, smu_add f f1 n]; omega
theorem smu_0 : ∀ n, smu (fun _ => 0) n = 0
  | 0 => rfl
  | n + 1 => by rw [smu, smu_0 n]; rfl
theorem smu_one (v : Int) (a : Nat) : ∀ n, smu (fun i => if i = a then v else 0) n = if a < n then v else 0
  | 0 => rfl
  | n + 1 => by
    rw [smu, smu_one v a n]
    by_cases h1 : n = a
    · subst h1; simp
    · rw [if_neg h1]
      by_cases h2 : a < n
      · rw [if_pos h2, if_pos (by omega)]; omega
      · rw [if_neg h2, if_neg (by omega)]; omega
theorem cnt_smu (c : Nat → Bool) : ∀ n, cnt c n = smu (fun j => b2i (c j)) n
  | 0 => rfl
  | n + 1 => by rw [cnt, smu, cnt_smu c n]
theorem smu_ext {f f1 : Nat → Int} {n : Nat} (h : ∀ i, i < n → f i = f1 i) : smu f n = smu f1 n := smu_congr h
/-- pairs out of S that a relation ties -/
def oup (S : Nat) (T : Nat → Nat → Bool) (n : Nat) : Int := smu (fun i => smu (fun j => b2i (S.testBit i && (!S.testBit j && T i j))) n) n
theorem b2i_or {a b c : Bool} (h : ¬ (b = true ∧ c = true)) : b2i (a && (b || c)) = b2i (a && b) + b2i (a && c) := by
  cases a <;> cases b <;> cases c <;> first | rfl | exact absurd ⟨rfl, rfl⟩ h
theorem oup_or {S n : Nat} {T T1 : Nat → Nat → Bool} (h : ∀ i j, i < n → j < n → ¬ (T i j = true ∧ T1 i j = true)) : oup S (fun i j => T i j || T1 i j) n = oup S T n + oup S T1 n := by
  unfold oup
  rw [← smu_add]
  refine smu_ext (fun i hi => ?_)
  rw [← smu_add]
  refine smu_ext (fun j hj => ?_)
  have := h i j hi hj
  dsimp only
  cases S.testBit i <;> cases S.testBit j <;> cases e1 : T i j <;> cases e2 : T1 i j <;> first | rfl | exact absurd ⟨e1, e2⟩ this
theorem oup_one {S n a b : Nat} (ha : a < n) (hb : b < n) (hab : a ≠ b) : oup S (fun i j => decide ((a = i ∧ b = j) ∨ (a = j ∧ b = i))) n = b2i (S.testBit a ^^ S.testBit b) := by
  have e : ∀ i j, b2i (S.testBit i && (!S.testBit j && decide ((a = i ∧ b = j) ∨ (a = j ∧ b = i)))) = (if j = b then (if i = a then b2i (S.testBit a && !S.testBit b) else 0) else 0) + (if j = a then (if i = b then b2i (S.testBit b && !S.testBit a) else 0) else 0) := by
    intro i j
    by_cases h1 : i = a
    · subst h1
      by_cases h2 : j = b
      · subst h2
        rw [decide_eq_true (by omega), if_pos rfl, if_pos rfl, if_neg (Ne.symm hab), Bool.and_true]
        omega
      · rw [decide_eq_false (by omega), if_neg h2, if_neg hab, ite_self]
        simp [b2i]
    · by_cases h2 : i = b
      · subst h2
        by_cases h3 : j = a
        · subst h3
          rw [decide_eq_true (by omega), if_neg h1, ite_self, if_pos rfl, if_pos rfl, Bool.and_true]
          omega
        · rw [decide_eq_false (by omega), if_neg h1, ite_self, if_neg h3]
          simp [b2i]
      · rw [decide_eq_false (by omega), if_neg h1, if_neg h2, ite_self, ite_self]
        simp [b2i]
  unfold oup
  rw [smu_ext (f1 := fun i => (if i = a then b2i (S.testBit a && !S.testBit b) else 0) + (if i = b then b2i (S.testBit b && !S.testBit a) else 0)) (fun i _ => by
    rw [smu_ext (fun j _ => e i j), smu_add, smu_one, smu_one, if_pos hb, if_pos ha])]
  rw [smu_add, smu_one, smu_one, if_pos ha, if_pos hb]
  cases S.testBit a <;> cases S.testBit b <;> rfl
def crs (ea eb : Nat → Nat) (S : Nat) : Nat → Bool := fun r => S.testBit (ea r) ^^ S.testBit (eb r)
theorem oup_arp {n : Nat} {ea eb : Nat → Nat} {S : Nat} : ∀ m, (∀ r, r < m → ea r < n ∧ eb r < n ∧ ea r ≠ eb r) → (∀ r s, r < s → s < m → ¬ ((ea r = ea s ∧ eb r = eb s) ∨ (ea r = eb s ∧ eb r = ea s))) → oup S (fun i j => arp ea eb m i j) n = cnt (crs ea eb S) m
  | 0, _, _ => by
    unfold oup arp
    simp only [List.range_zero, List.any_nil, Bool.and_false, cnt, b2i, cond_false]
    rw [smu_ext (fun i _ => smu_0 n), smu_0]
  | m + 1, h1, h2 => by
    obtain ⟨a1, a2, a3⟩ := h1 m (by omega)
    rw [show (fun i j => arp ea eb (m + 1) i j) = (fun i j => arp ea eb m i j || decide ((ea m = i ∧ eb m = j) ∨ (ea m = j ∧ eb m = i))) from funext fun i => funext fun j => arp_s]
    rw [oup_or, oup_arp m (fun r hr => h1 r (by omega)) (fun r s a b => h2 r s a (by omega)), oup_one a1 a2 a3, cnt, crs]
    rintro i j hi hj ⟨q1, q2⟩
    obtain ⟨r, hr, hq⟩ := arp_iff.mp q1
    have q3 := of_decide_eq_true q2
    exact h2 r m hr (by omega) (by omega)
theorem rof_oup {n m : Nat} {rp ea eb : Nat → Nat} (h : RR n m rp ea eb) (S : Nat) : rof rp S n = cnt (crs ea eb S) m := by
  rw [← oup_arp m h.2.2.1 h.2.2.2.1]
  unfold rof oup
  refine smu_ext (fun i hi => ?_)
  cases e : S.testBit i
  · rw [if_neg (by decide)]
    simp only [Bool.false_and]
    exact (smu_0 n).symm
  · rw [if_pos rfl, pcN_hi (xor_and_lt (h.2.2.2.2.1 i hi)) 5 h.2.1, pcN_cnt, cnt_smu]
    refine smu_ext (fun j hj => ?_)
    dsimp only
    rw [arp_rp h hi hj, Nat.testBit_xor, Nat.testBit_and]
    cases S.testBit j <;> cases (rp i).testBit j <;> rfl
theorem cnt_mono {c c1 : Nat → Bool} : ∀ {n : Nat}, (∀ j, j < n → c j = true → c1 j = true) → cnt c n ≤ cnt c1 n
  | 0, _ => by simp [cnt]
  | n + 1, h => by
    have i1 := cnt_mono (fun j hj => h j (Nat.lt_succ_of_lt hj))
    have i2 := h n (Nat.lt_succ_self n)
    rw [cnt, cnt]
    cases e1 : c n <;> cases e2 : c1 n <;> simp [b2i] <;> first | omega | (rw [e1, e2] at i2; exact absurd (i2 rfl) (by decide))
theorem part_both {n m : Nat} {rp ea eb : Nat → Nat} (h : RR n m rp ea eb) {i j : Nat} (hi : i < n) (hj : j < n) (hij : i ≠ j) {F F1 : Int} (hx : isLo (fun S => rof rp S n) (fun S => S.testBit i && !S.testBit j) (2 ^ n) (m : Int) F) (hm : isLo (fun s => ((pcN s 10 : Nat) : Int)) (ptd ea eb m i j) (2 ^ m) 6 F1) : F1 = F := by
  obtain ⟨x1, x2, x3⟩ := hx
  obtain ⟨m1, m2, m3⟩ := hm
  dsimp only at x1 x2 m1 m2
  have hm6 := h.1
  have key : ∀ S, S.testBit i = true → S.testBit j = false → F1 ≤ rof rp S n := by
    intro S s1 s2
    have hb : bor (fun r => r) (crs ea eb S) m < 2 ^ m := bor_lt (fun r hr => hr)
    have hbit : ∀ r, r < m → (bor (fun r => r) (crs ea eb S) m).testBit r = crs ea eb S r := by
      intro r hr
      have : (bor (fun r => r) (crs ea eb S) m).testBit r = true ↔ crs ea eb S r = true := by
        rw [bor_bit]
        exact ⟨fun ⟨k, _, b, e⟩ => e ▸ b, fun b => ⟨r, hr, b, rfl⟩⟩
      cases e1 : crs ea eb S r <;> cases e2 : (bor (fun r => r) (crs ea eb S) m).testBit r <;> simp_all
    have hp : ptd ea eb m i j (bor (fun r => r) (crs ea eb S) m) = true := by
      unfold ptd
      have hno : ¬ (pby ea eb (lfx (bor (fun r => r) (crs ea eb S) m)) m i).testBit j = true := by
        intro q
        have := pby_min (C := fun t => S.testBit t = true) s1 (fun r hr hl => by
          unfold lfx at hl
          rw [hbit r hr] at hl
          unfold crs at hl
          cases e1 : S.testBit (ea r) <;> cases e2 : S.testBit (eb r) <;> simp_all) j q
        rw [s2] at this
        exact absurd this (by decide)
      rw [Bool.not_eq_true] at hno
      rw [hno]; rfl
    have h2 := m2 _ hb hp
    rw [pcN_hi hb 10 (by omega), pcN_cnt, cnt_congr (fun r hr => hbit r hr)] at h2
    rw [rof_oup h]
    exact h2
  have k1 : F1 ≤ F := by
    rcases x1 with e | ⟨S, a, b, c⟩
    · have h0 := key (2 ^ i) Nat.testBit_two_pow_self (by rw [Nat.testBit_two_pow]; exact decide_eq_false hij)
      rw [rof_oup h] at h0
      have := cnt_rg (crs ea eb (2 ^ i)) m
      omega
    · rw [Bool.and_eq_true] at b
      have h0 := key S b.1 (by have := b.2; cases e : S.testBit j <;> simp_all)
      omega
  have k2 : F ≤ F1 := by
    rcases m1 with e | ⟨s, a, b, c⟩
    · omega
    · unfold ptd at b
      have hE : ∀ r, r < m → ea r < n ∧ eb r < n := fun r hr => ⟨(h.2.2.1 r hr).1, (h.2.2.1 r hr).2.1⟩
      have h0 := x2 (pby ea eb (lfx s) m i) (pby_lt hE hi) (by
        rw [pby_in, Bool.true_and]; exact b)
      have h3 : cnt (crs ea eb (pby ea eb (lfx s) m i)) m ≤ cnt (fun r => s.testBit r) m := cnt_mono (fun r hr hq => by
        cases e : s.testBit r
        · have h4 := pby_cl (lf := lfx s) h.2.1 hE hi hr (by unfold lfx; rw [e]; rfl)
          unfold crs at hq
          cases e1 : (pby ea eb (lfx s) m i).testBit (ea r) <;> cases e2 : (pby ea eb (lfx s) m i).testBit (eb r) <;> simp_all
        · rfl)
      have h5 : rof rp (pby ea eb (lfx s) m i) n ≤ F1 := by
        rw [rof_oup h, ← c, pcN_hi a 10 (by omega), pcN_cnt]
        exact h3
      exact Int.le_trans h0 h5
  omega
theorem lo_ex (f : Nat → Int) (P : Nat → Bool) (top : Int) : ∀ N, ∃ r, isLo f P N top r
  | 0 => ⟨_, lo_0 f P top⟩
  | N + 1 => by
    obtain ⟨r, h⟩ := lo_ex f P top N
    cases e : P N
    · exact ⟨r, lo_no h e⟩
    · exact ⟨_, lo_yes h e⟩
theorem op_parting {zs : zzT} {c : Nat} {g : Nat → Nat → Int} {hh : Int64} (hz : zsok zs) (h : Rel c g) (hc : c < 512) {x y : Int} (hr1 : rg x) (hr2 : rg y) : opOK zs 55 119 [.ref 0, .int (iI x), .int (iI y)] [.ref 39, .int (iI x), .int (iI y)] c g hh := by
  obtain ⟨hc0, hpage, hnum, hcur, ⟨n, m, an, sn, rp, ea, eb, hS, hH⟩, himg⟩ := id h
  have hk := SS_WK hc0 hcur hS
  have hp := SS_MP hc0 hcur hS
  have hRR := hS.2.2.2.2.2.2.2.2.2.2
  have hrp : ∀ j, j < n → g 7 j = ((rp j : Nat) : Int) ∧ rp j < 2 ^ n := fun j hj => ⟨(hS.2.2.2.2.2.2.2.2.1 j hj).1, hRR.2.2.2.2.1 j hj⟩
  by_cases hA : (0 ≤ x ∧ x < (n : Int)) ∧ (0 ≤ y ∧ y < (n : Int)) ∧ x ≠ y
  · obtain ⟨i, e1⟩ := Int.eq_ofNat_of_zero_le hA.1.1
    obtain ⟨j, e2⟩ := Int.eq_ofNat_of_zero_le hA.2.1.1
    have hi : i < n := by omega
    have hj : j < n := by omega
    have hij : i ≠ j := by omega
    by_cases hB : (pby ea eb lfa m i).testBit j = true
    · obtain ⟨F0, hF0⟩ := lo_ex (fun S => rof rp S n) (fun S => S.testBit i && !S.testBit j) (m : Int) (2 ^ n)
      obtain ⟨F1, hF1⟩ := lo_ex (fun s => ((pcN s 10 : Nat) : Int)) (ptd ea eb m i j) 6 (2 ^ m)
      have hFr : rg F0 := by
        have hm6 := hRR.1
        have hh0 := hF0.2.2
        rcases hF0.1 with e | ⟨t, _, _, e⟩
        · unfold rg; omega
        · have := rof_rg rp t n; have hn5 := hk.1.2.1; dsimp only at e; unfold rg; omega
      refine op_id (r := F0) hFr h hc (fun Q q => c_X3_parting hk.1.1 hk.1.2.1 hrp hk.2.2.2.2.2.2 hS.2.1.1 hRR.1 hr1 hr2 (fun z => absurd hA z) (fun i1 j1 f1 f2 _ _ _ z => ?_) (fun i1 j1 f1 f2 _ _ _ _ F hF => ?_)) (fun Q q => c_X4_parting hp.2.2.2.2.2.2.2.2.2 hp.1 hr1 hr2 (fun z => absurd hA z) (fun i1 j1 f1 f2 _ _ _ z => ?_) (fun i1 j1 f1 f2 _ _ _ _ F hF => ?_))
      · rw [show i1 = i by omega, show j1 = j by omega, hB] at z; exact absurd z (by decide)
      · rw [show i1 = i by omega, show j1 = j by omega] at hF; exact qi q ((part_both hRR hi hj hij hF hF1).symm.trans (part_both hRR hi hj hij hF0 hF1))
      · rw [show i1 = i by omega, show j1 = j by omega, hB] at z; exact absurd z (by decide)
      · rw [show i1 = i by omega, show j1 = j by omega] at hF; exact qi q (part_both hRR hi hj hij hF0 hF)
    · exact op_id (r := -103) (by unfold rg; omega) h hc (fun Q q => c_X3_parting hk.1.1 hk.1.2.1 hrp hk.2.2.2.2.2.2 hS.2.1.1 hRR.1 hr1 hr2 (fun z => absurd hA z) (fun _ _ _ _ _ _ _ _ => q) (fun i1 j1 f1 f2 _ _ _ z => absurd (by rw [show i = i1 by omega, show j = j1 by omega]; exact z) hB)) (fun Q q => c_X4_parting hp.2.2.2.2.2.2.2.2.2 hp.1 hr1 hr2 (fun z => absurd hA z) (fun _ _ _ _ _ _ _ _ => q) (fun i1 j1 f1 f2 _ _ _ z => absurd (by rw [show i = i1 by omega, show j = j1 by omega]; exact z) hB))
  · exact op_id (r := -101) (by unfold rg; omega) h hc (fun Q q => c_X3_parting hk.1.1 hk.1.2.1 hrp hk.2.2.2.2.2.2 hS.2.1.1 hRR.1 hr1 hr2 (fun _ => q) (fun i j f1 f2 a b c => absurd (by omega) hA) (fun i j f1 f2 a b c => absurd (by omega) hA)) (fun Q q => c_X4_parting hp.2.2.2.2.2.2.2.2.2 hp.1 hr1 hr2 (fun _ => q) (fun i j f1 f2 a b c => absurd (by omega) hA) (fun i j f1 f2 a b c => absurd (by omega) hA))
