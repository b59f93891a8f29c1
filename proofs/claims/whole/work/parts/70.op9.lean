theorem c_X3_wed {zs : zzT} {d : Nat} {Q : zzQ} {g : Nat → Nat → Int} {hh : Int64} {n m : Nat} (hn : g 2 6 = (n : Int)) (hn5 : n ≤ 5) (hm : g 2 7 = (m : Int)) (hm6 : m ≤ 6) (hpl : plok n (g 6)) {rp : Nat → Nat} (hrp : ∀ j, j < n → g 7 j = ((rp j : Nat) : Int) ∧ rp j < 2 ^ n) {x y : Int} (hx : rg x) (hy : rg y) (h1 : ¬ ((0 ≤ x ∧ x < (n : Int)) ∧ (0 ≤ y ∧ y < (n : Int)) ∧ x ≠ y) → Q [.int (iI (-101))] (wof g hh)) (h2 : ∀ i j : Nat, x = (i : Int) → y = (j : Int) → i < n → j < n → i ≠ j → (rp i).testBit j = true ∨ bs (g 6 i) (g 6 j) = false → Q [.int (iI (-103))] (wof g hh)) (h3 : ∀ i j : Nat, x = (i : Int) → y = (j : Int) → i < n → j < n → i ≠ j → (rp i).testBit j = false → bs (g 6 i) (g 6 j) = true → m = 6 → Q [.int (iI (-104))] (wof g hh)) (h4 : ∀ i j : Nat, x = (i : Int) → y = (j : Int) → i < n → j < n → i ≠ j → (rp i).testBit j = false → bs (g 6 i) (g 6 j) = true → m < 6 → Q [.int (iI ((m : Int) + 1))] (wof (gr (gr (gr g 7 (iu (iu (g 7) i ((rp i ||| 2 ^ j : Nat) : Int)) j ((rp j ||| 2 ^ i : Nat) : Int))) 2 (iu (g 2) 7 (g 2 7 + 1))) 8 (ptr (rpT rp i j) n (g 8) n)) hh)) : zzCL zs (d + 4) 24 [.ref 0, .int (iI x), .int (iI y)] (wof g hh) Q := by
  refine st_X3_wed (Nat.le_of_ble_eq_true rfl) (fun R hR => ?_)
  show R 0 [(0, .ref 0), (1, .int (iI x)), (2, .int (iI y))] [] _
  have h32 : (2 : Nat) ^ n ≤ 32 := Nat.pow_le_pow_right (n := 2) (by decide) hn5
  refine z_aload_n hR dX3_wed_0 rfl rfl ?_
  refine z_iload_n hR dX3_wed_1 rfl rfl ?_
  refine z_iload_n hR dX3_wed_2 rfl rfl ?_
  refine g_inv2 hR dX3_wed_3 zm_3_142 (by decide) zN_X3_areTwo ((wk_0 _) _) zO_X3_areTwo (Nat.le_of_ble_eq_true rfl) ?_
  refine c_X3_areTwo hn hn5 hx hy ?_
  show R 6 _ (.int _ :: _) _
  refine g_if_neb hR (tgt := 12) dX3_wed_6 (by decide) (fun c6 => ?_) (fun c6 => ?_)
  · have c6 := of_decide_eq_true c6
    obtain ⟨i, rfl⟩ := Int.eq_ofNat_of_zero_le c6.1.1
    obtain ⟨j, rfl⟩ := Int.eq_ofNat_of_zero_le c6.2.1.1
    have hin : i < n := by omega
    have hjn : j < n := by omega
    have hij : i ≠ j := by omega
    refine z_aload_n hR dX3_wed_12 rfl rfl ?_
    refine g_get hR dX3_wed_13 zf_3_33 (wk_0 _) (show _ = some (Value.ref 2) from rfl) ?_
    refine z_iload_n hR dX3_wed_16 rfl rfl ?_
    refine z_iload_n hR dX3_wed_17 rfl rfl ?_
    refine g_inv2 hR dX3_wed_18 zm_3_146 (by decide) zN_X2_areRoped ((wk_2 _) _) zO_X2_areRoped (Nat.le_of_ble_eq_true rfl) ?_
    refine c_X2_areRoped (hrp i hin).1 (by have := (hrp i hin).2; omega) (by omega) (by omega) ?_
    show R 21 _ (.int _ :: _) _
    refine g_if_neb hR (tgt := 36) dX3_wed_21 (by decide) (fun c21 => ?_) (fun c21 => ?_)
    · refine g_bipush hR dX3_wed_36 ?_
      refine g_iret hR dX3_wed_38 rfl ?_
      first | exact h2 i j rfl rfl hin hjn hij (Or.inl c21) | exact h2 i j rfl rfl hin hjn hij (Or.inr c33)
    · refine z_aload_n hR dX3_wed_24 rfl rfl ?_
      refine g_get hR dX3_wed_25 zf_3_33 (wk_0 _) (show _ = some (Value.ref 2) from rfl) ?_
      refine z_iload_n hR dX3_wed_28 rfl rfl ?_
      refine z_iload_n hR dX3_wed_29 rfl rfl ?_
      refine g_inv2 hR dX3_wed_30 zm_3_149 (by decide) zN_X2_areBeside ((wk_2 _) _) zO_X2_areBeside (Nat.le_of_ble_eq_true rfl) ?_
      refine c_X2_areBeside isW2 (by omega) (by omega) (hpl i hin) (hpl j hjn) ?_
      show R 33 _ (.int _ :: _) _
      refine g_if_neb hR (tgt := 39) dX3_wed_33 (by decide) (fun c33 => ?_) (fun c33 => ?_)
      · refine z_aload_n hR dX3_wed_39 rfl rfl ?_
        refine g_get hR dX3_wed_40 zf_3_33 (wk_0 _) (show _ = some (Value.ref 2) from rfl) ?_
        refine g_get hR dX3_wed_43 zf_3_152 (wk_2 _) (gi hm) ?_
        refine g_bipush hR dX3_wed_46 ?_
        refine g_icmp_lt hR (tgt := 54) dX3_wed_48 (by decide) (fun c48 => ?_) (fun c48 => ?_)
        · refine z_aload_n hR dX3_wed_54 rfl rfl ?_
          refine g_get hR dX3_wed_55 zf_3_33 (wk_0 _) (show _ = some (Value.ref 2) from rfl) ?_
          refine z_iload_n hR dX3_wed_58 rfl rfl ?_
          refine z_iload_n hR dX3_wed_59 rfl rfl ?_
          refine g_inv2 hR dX3_wed_60 zm_3_155 (by decide) zN_X2_tie ((wk_2 _) _) zO_X2_tie (Nat.le_of_ble_eq_true rfl) ?_
          refine c_X2_tie hn hn5 hrp hin hjn hij ?_
          show R 63 _ _ _
          refine z_aload_n hR dX3_wed_63 rfl rfl ?_
          refine g_get hR dX3_wed_64 zf_3_33 (wk_0 _) (show _ = some (Value.ref 2) from rfl) ?_
          refine g_get hR dX3_wed_67 zf_3_152 (wk_2 _) (gi (show (gr (gr (gr g 7 (iu (iu (g 7) i ((rp i ||| 2 ^ j : Nat) : Int)) j ((rp j ||| 2 ^ i : Nat) : Int))) 2 (iu (g 2) 7 (g 2 7 + 1))) 8 (ptr (rpT rp i j) n (g 8) n)) 2 7 = (m : Int) + 1 from congrArg (· + 1) hm)) ?_
          refine g_iret hR dX3_wed_70 rfl ?_
          exact h4 i j rfl rfl hin hjn hij c21 c33 (by omega)
        · refine g_bipush hR dX3_wed_51 ?_
          refine g_iret hR dX3_wed_53 rfl ?_
          exact h3 i j rfl rfl hin hjn hij c21 c33 (by omega)
      · refine g_bipush hR dX3_wed_36 ?_
        refine g_iret hR dX3_wed_38 rfl ?_
        first | exact h2 i j rfl rfl hin hjn hij (Or.inl c21) | exact h2 i j rfl rfl hin hjn hij (Or.inr c33)
  · have c6 := of_decide_eq_false c6
    refine g_bipush hR dX3_wed_9 ?_
    refine g_iret hR dX3_wed_11 rfl ?_
    exact h1 c6
theorem c_X3_axe {zs : zzT} {d : Nat} {Q : zzQ} {g : Nat → Nat → Int} {hh : Int64} {n m : Nat} (hn : g 2 6 = (n : Int)) (hn5 : n ≤ 5) (hm : g 2 7 = (m : Int)) (hm6 : m ≤ 6) (hpl : plok n (g 6)) {rp : Nat → Nat} (hrp : ∀ j, j < n → g 7 j = ((rp j : Nat) : Int) ∧ rp j < 2 ^ n) {x y : Int} (hx : rg x) (hy : rg y) (h1 : ¬ ((0 ≤ x ∧ x < (n : Int)) ∧ (0 ≤ y ∧ y < (n : Int)) ∧ x ≠ y) → Q [.int (iI (-101))] (wof g hh)) (h2 : ∀ i j : Nat, x = (i : Int) → y = (j : Int) → i < n → j < n → i ≠ j → (rp i).testBit j = false → Q [.int (iI (-103))] (wof g hh)) (h4 : ∀ i j : Nat, x = (i : Int) → y = (j : Int) → i < n → j < n → i ≠ j → (rp i).testBit j = true → Q [.int (iI ((m : Int) - 1))] (wof (gr (gr (gr g 7 (iu (iu (g 7) i ((rp i ^^^ (rp i &&& 2 ^ j) : Nat) : Int)) j ((rp j ^^^ (rp j &&& 2 ^ i) : Nat) : Int))) 2 (iu (g 2) 7 (g 2 7 - 1))) 8 (ptr (rpC rp i j) n (g 8) n)) hh)) : zzCL zs (d + 4) 30 [.ref 0, .int (iI x), .int (iI y)] (wof g hh) Q := by
  refine st_X3_axe (Nat.le_of_ble_eq_true rfl) (fun R hR => ?_)
  show R 0 [(0, .ref 0), (1, .int (iI x)), (2, .int (iI y))] [] _
  have h32 : (2 : Nat) ^ n ≤ 32 := Nat.pow_le_pow_right (n := 2) (by decide) hn5
  refine z_aload_n hR dX3_axe_0 rfl rfl ?_
  refine z_iload_n hR dX3_axe_1 rfl rfl ?_
  refine z_iload_n hR dX3_axe_2 rfl rfl ?_
  refine g_inv2 hR dX3_axe_3 zm_3_142 (by decide) zN_X3_areTwo ((wk_0 _) _) zO_X3_areTwo (Nat.le_of_ble_eq_true rfl) ?_
  refine c_X3_areTwo hn hn5 hx hy ?_
  show R 6 _ (.int _ :: _) _
  refine g_if_neb hR (tgt := 12) dX3_axe_6 (by decide) (fun c6 => ?_) (fun c6 => ?_)
  · have c6 := of_decide_eq_true c6
    obtain ⟨i, rfl⟩ := Int.eq_ofNat_of_zero_le c6.1.1
    obtain ⟨j, rfl⟩ := Int.eq_ofNat_of_zero_le c6.2.1.1
    have hin : i < n := by omega
    have hjn : j < n := by omega
    have hij : i ≠ j := by omega
    refine z_aload_n hR dX3_axe_12 rfl rfl ?_
    refine g_get hR dX3_axe_13 zf_3_33 (wk_0 _) (show _ = some (Value.ref 2) from rfl) ?_
    refine z_iload_n hR dX3_axe_16 rfl rfl ?_
    refine z_iload_n hR dX3_axe_17 rfl rfl ?_
    refine g_inv2 hR dX3_axe_18 zm_3_146 (by decide) zN_X2_areRoped ((wk_2 _) _) zO_X2_areRoped (Nat.le_of_ble_eq_true rfl) ?_
    refine c_X2_areRoped (hrp i hin).1 (by have := (hrp i hin).2; omega) (by omega) (by omega) ?_
    show R 21 _ (.int _ :: _) _
    refine g_if_neb hR (tgt := 27) dX3_axe_21 (by decide) (fun c21 => ?_) (fun c21 => ?_)
    · refine z_aload_n hR dX3_axe_27 rfl rfl ?_
      refine g_get hR dX3_axe_28 zf_3_33 (wk_0 _) (show _ = some (Value.ref 2) from rfl) ?_
      refine z_iload_n hR dX3_axe_31 rfl rfl ?_
      refine z_iload_n hR dX3_axe_32 rfl rfl ?_
      refine g_inv2 hR dX3_axe_33 zm_3_159 (by decide) zN_X2_cut ((wk_2 _) _) zO_X2_cut (Nat.le_of_ble_eq_true rfl) ?_
      refine c_X2_cut hn hn5 hrp hin hjn hij ?_
      show R 36 _ _ _
      refine z_aload_n hR dX3_axe_36 rfl rfl ?_
      refine g_get hR dX3_axe_37 zf_3_33 (wk_0 _) (show _ = some (Value.ref 2) from rfl) ?_
      refine g_get hR dX3_axe_40 zf_3_152 (wk_2 _) (gi (show (gr (gr (gr g 7 (iu (iu (g 7) i ((rp i ^^^ (rp i &&& 2 ^ j) : Nat) : Int)) j ((rp j ^^^ (rp j &&& 2 ^ i) : Nat) : Int))) 2 (iu (g 2) 7 (g 2 7 - 1))) 8 (ptr (rpC rp i j) n (g 8) n)) 2 7 = (m : Int) - 1 from congrArg (· - 1) hm)) ?_
      refine g_iret hR dX3_axe_43 rfl ?_
      exact h4 i j rfl rfl hin hjn hij c21
    · refine g_bipush hR dX3_axe_24 ?_
      refine g_iret hR dX3_axe_26 rfl ?_
      exact h2 i j rfl rfl hin hjn hij c21
  · have c6 := of_decide_eq_false c6
    refine g_bipush hR dX3_axe_9 ?_
    refine g_iret hR dX3_axe_11 rfl ?_
    exact h1 c6
theorem c_X4_wed {zs : zzT} {d : Nat} {Q : zzQ} {g : Nat → Nat → Int} {hh : Int64} {n m : Nat} {ea eb : Nat → Nat} (hp : MP g n m ea eb) {x y : Int} (hx : rg x) (hy : rg y) (h1 : ¬ ((0 ≤ x ∧ x < (n : Int)) ∧ (0 ≤ y ∧ y < (n : Int)) ∧ x ≠ y) → Q [.int (iI (-101))] (wof g hh)) (h2 : ∀ i j : Nat, x = (i : Int) → y = (j : Int) → i < n → j < n → i ≠ j → arp ea eb m i j = true ∨ bs (g 42 (4 * i + 2)) (g 42 (4 * j + 2)) = false → Q [.int (iI (-103))] (wof g hh)) (h3 : ∀ i j : Nat, x = (i : Int) → y = (j : Int) → i < n → j < n → i ≠ j → arp ea eb m i j = false → bs (g 42 (4 * i + 2)) (g 42 (4 * j + 2)) = true → m = 6 → Q [.int (iI (-104))] (wof g hh)) (h4 : ∀ i j : Nat, x = (i : Int) → y = (j : Int) → i < n → j < n → i ≠ j → arp ea eb m i j = false → bs (g 42 (4 * i + 2)) (g 42 (4 * j + 2)) = true → m < 6 → Q [.int (iI ((m : Int) + 1))] (wof (gr (gr g 43 (iu (iu (g 43) (2 * m) (i : Int)) (2 * m + 1) (j : Int))) 39 (iu (g 39) 9 ((m : Int) + 1))) hh)) : zzCL zs (d + 4) 100 [.ref 39, .int (iI x), .int (iI y)] (wof g hh) Q := by
  refine st_X4_wed (Nat.le_of_ble_eq_true rfl) (fun R hR => ?_)
  show R 0 [(0, .ref 39), (1, .int (iI x)), (2, .int (iI y))] [] _
  have hr := hp.2.2.2.2.2.2.2.2.2
  have hn5 := hp.2.1
  obtain ⟨hm, hm6, -, hE⟩ := id hr
  refine z_aload_n hR dX4_wed_0 rfl rfl ?_
  refine z_iload_n hR dX4_wed_1 rfl rfl ?_
  refine z_iload_n hR dX4_wed_2 rfl rfl ?_
  refine g_inv2 hR dX4_wed_3 zm_4_151 (by decide) zN_X4_arePair ((wk_39 _) _) zO_X4_arePair (Nat.le_of_ble_eq_true rfl) ?_
  refine c_X4_arePair hp.1 hp.2.1 hx hy ?_
  show R 6 _ (.int _ :: _) _
  refine g_if_neb hR (tgt := 12) dX4_wed_6 (by decide) (fun c6 => ?_) (fun c6 => ?_)
  · have c6 := of_decide_eq_true c6
    obtain ⟨i, rfl⟩ := Int.eq_ofNat_of_zero_le c6.1.1
    obtain ⟨j, rfl⟩ := Int.eq_ofNat_of_zero_le c6.2.1.1
    have hin : i < n := by omega
    have hjn : j < n := by omega
    have hij : i ≠ j := by omega
    refine z_aload_n hR dX4_wed_12 rfl rfl ?_
    refine z_iload_n hR dX4_wed_13 rfl rfl ?_
    refine z_iload_n hR dX4_wed_14 rfl rfl ?_
    refine g_inv2 hR dX4_wed_15 zm_4_136 (by decide) zN_X4_areRoped ((wk_39 _) _) zO_X4_areRoped (Nat.le_of_ble_eq_true rfl) ?_
    refine c_X4_areRoped hr hin hjn ?_
    show R 18 _ (.int _ :: _) _
    refine g_if_neb hR (tgt := 47) dX4_wed_18 (by decide) (fun c18 => ?_) (fun c18 => ?_)
    · refine g_bipush hR dX4_wed_47 ?_
      refine g_iret hR dX4_wed_49 rfl ?_
      first | exact h2 i j rfl rfl hin hjn hij (Or.inl c18) | exact h2 i j rfl rfl hin hjn hij (Or.inr c44)
    · refine z_aload_n hR dX4_wed_21 rfl rfl ?_
      refine g_get hR dX4_wed_22 zf_4_16 (wk_39 _) (show _ = some (Value.ref 42) from rfl) ?_
      refine g_iconst hR dX4_wed_25 ?_
      refine z_iload_n hR dX4_wed_26 rfl rfl ?_
      refine g_imul hR dX4_wed_27 (nmul 4 _) ?_
      refine g_iconst hR dX4_wed_28 ?_
      refine g_iadd hR dX4_wed_29 (nadd _ 2) ?_
      refine g_ialdN hR dX4_wed_30 (wk_42 _) rfl ?_
      refine z_aload_n hR dX4_wed_31 rfl rfl ?_
      refine g_get hR dX4_wed_32 zf_4_16 (wk_39 _) (show _ = some (Value.ref 42) from rfl) ?_
      refine g_iconst hR dX4_wed_35 ?_
      refine z_iload_n hR dX4_wed_36 rfl rfl ?_
      refine g_imul hR dX4_wed_37 (nmul 4 _) ?_
      refine g_iconst hR dX4_wed_38 ?_
      refine g_iadd hR dX4_wed_39 (nadd _ 2) ?_
      refine g_ialdN hR dX4_wed_40 (wk_42 _) rfl ?_
      refine g_sta2 hR dX4_wed_41 zm_4_132 zN_X4_areBeside (Nat.le_of_ble_eq_true rfl) ?_
      refine c_X4_areBeside (hp.2.2.2.2.2.1 i hin) (hp.2.2.2.2.2.1 j hjn) ?_
      show R 44 _ (.int _ :: _) _
      refine g_if_neb hR (tgt := 50) dX4_wed_44 (by decide) (fun c44 => ?_) (fun c44 => ?_)
      · refine z_aload_n hR dX4_wed_50 rfl rfl ?_
        refine g_get hR dX4_wed_51 zf_4_79 (wk_39 _) (gi hm) ?_
        refine g_bipush hR dX4_wed_54 ?_
        refine g_icmp_ne hR (tgt := 62) dX4_wed_56 (by decide) (fun c56 => ?_) (fun c56 => ?_)
        · refine z_aload_n hR dX4_wed_62 rfl rfl ?_
          refine g_get hR dX4_wed_63 zf_4_19 (wk_39 _) (show _ = some (Value.ref 43) from rfl) ?_
          refine g_iconst hR dX4_wed_66 ?_
          refine z_aload_n hR dX4_wed_67 rfl rfl ?_
          refine g_get hR dX4_wed_68 zf_4_79 (wk_39 _) (gi hm) ?_
          refine g_imul hR dX4_wed_71 (nmul 2 m) ?_
          refine z_iload_n hR dX4_wed_72 rfl rfl ?_
          refine g_iastN hR dX4_wed_73 (wk_43 _) ?_
          refine z_aload_n hR dX4_wed_74 rfl rfl ?_
          refine g_get hR dX4_wed_75 zf_4_19 (wk_39 _) (show _ = some (Value.ref 43) from rfl) ?_
          refine g_iconst hR dX4_wed_78 ?_
          refine z_aload_n hR dX4_wed_79 rfl rfl ?_
          refine g_get hR dX4_wed_80 zf_4_79 (wk_39 _) (gi (show gr g 43 _ 39 9 = (m : Int) from hm)) ?_
          refine g_imul hR dX4_wed_83 (nmul 2 m) ?_
          refine g_iconst hR dX4_wed_84 ?_
          refine g_iadd hR dX4_wed_85 (nadd (2 * m) 1) ?_
          refine z_iload_n hR dX4_wed_86 rfl rfl ?_
          refine g_iastN hR dX4_wed_87 (wk_43 _) ?_
          simp only [gr_gr, gr_s]
          refine z_aload_n hR dX4_wed_88 rfl rfl ?_
          refine z_dup hR dX4_wed_89 rfl ?_
          refine g_get hR dX4_wed_90 zf_4_79 (wk_39 _) (gi (show gr g 43 _ 39 9 = (m : Int) from hm)) ?_
          refine g_iconst hR dX4_wed_93 ?_
          refine g_iadd hR dX4_wed_94 rfl ?_
          refine g_put hR dX4_wed_95 zf_4_79 (wk_39 _) (Nat.le_of_ble_eq_true rfl) rfl rfl rfl rfl ?_
          refine z_aload_n hR dX4_wed_98 rfl rfl ?_
          refine g_get hR dX4_wed_99 zf_4_79 (wk_39 _) (gi (show (gr (gr g 43 (iu (iu (g 43) (2 * m) (i : Int)) (2 * m + 1) (j : Int))) 39 (iu (g 39) 9 ((m : Int) + 1))) 39 9 = (m : Int) + 1 from rfl)) ?_
          refine g_iret hR dX4_wed_102 rfl ?_
          exact h4 i j rfl rfl hin hjn hij c18 c44 (by omega)
        · refine g_bipush hR dX4_wed_59 ?_
          refine g_iret hR dX4_wed_61 rfl ?_
          exact h3 i j rfl rfl hin hjn hij c18 c44 (by omega)
      · refine g_bipush hR dX4_wed_47 ?_
        refine g_iret hR dX4_wed_49 rfl ?_
        first | exact h2 i j rfl rfl hin hjn hij (Or.inl c18) | exact h2 i j rfl rfl hin hjn hij (Or.inr c44)
  · have c6 := of_decide_eq_false c6
    refine g_bipush hR dX4_wed_9 ?_
    refine g_iret hR dX4_wed_11 rfl ?_
    exact h1 c6
def mtc (ea eb : Nat → Nat) (x y r : Nat) : Prop := (ea r = x ∧ eb r = y) ∨ (ea r = y ∧ eb r = x)
def mtcB (ea eb : Nat → Nat) (x y r : Nat) : Bool := decide ((ea r = x ∧ eb r = y) ∨ (ea r = y ∧ eb r = x))
/-- the ropes that stay, moved down -/
def cpr (ea eb : Nat → Nat) (x y : Nat) (row0 : FI) : Nat → FI × Nat
  | 0 => (row0, 0)
  | r + 1 => if mtcB ea eb x y r = true then cpr ea eb x y row0 r else (iu (iu (cpr ea eb x y row0 r).1 (2 * (cpr ea eb x y row0 r).2) ((ea r : Nat) : Int)) (2 * (cpr ea eb x y row0 r).2 + 1) ((eb r : Nat) : Int), (cpr ea eb x y row0 r).2 + 1)
theorem cpr_le {ea eb : Nat → Nat} {x y : Nat} {row0 : FI} : ∀ r, (cpr ea eb x y row0 r).2 ≤ r
  | 0 => Nat.le_refl 0
  | r + 1 => by
    have := cpr_le (ea := ea) (eb := eb) (x := x) (y := y) (row0 := row0) r
    unfold cpr
    split
    · omega
    · dsimp only; omega
theorem cpr_hi {ea eb : Nat → Nat} {x y : Nat} {row0 : FI} : ∀ r k, 2 * r ≤ k → (cpr ea eb x y row0 r).1 k = row0 k
  | 0, _, _ => rfl
  | r + 1, k, h => by
    have h1 := cpr_le (ea := ea) (eb := eb) (x := x) (y := y) (row0 := row0) r
    have h2 := cpr_hi (ea := ea) (eb := eb) (x := x) (y := y) (row0 := row0) r k (by omega)
    unfold cpr
    split
    · exact h2
    · dsimp only
      rw [iu_n _ _ (by omega), iu_n _ _ (by omega)]
      exact h2
/-- which ropes stay -/
theorem cpr_sig {ea eb : Nat → Nat} {x y : Nat} {row0 : FI} : ∀ r, ∃ sg0 : Nat → Nat, (∀ k, k < (cpr ea eb x y row0 r).2 → sg0 k < r ∧ mtcB ea eb x y (sg0 k) = false ∧ (cpr ea eb x y row0 r).1 (2 * k) = ((ea (sg0 k) : Nat) : Int) ∧ (cpr ea eb x y row0 r).1 (2 * k + 1) = ((eb (sg0 k) : Nat) : Int)) ∧ (∀ s, s < r → mtcB ea eb x y s = false → ∃ k, k < (cpr ea eb x y row0 r).2 ∧ sg0 k = s) ∧ (∀ k l, k < l → l < (cpr ea eb x y row0 r).2 → sg0 k < sg0 l)
  | 0 => ⟨fun _ => 0, fun k hk => absurd hk (Nat.not_lt_zero k), fun s hs => absurd hs (Nat.not_lt_zero s), fun k l _ hl => absurd hl (Nat.not_lt_zero l)⟩
  | r + 1 => by
    obtain ⟨sg0, a, b, d⟩ := cpr_sig (ea := ea) (eb := eb) (x := x) (y := y) (row0 := row0) r
    cases e : mtcB ea eb x y r with
    | true =>
      rw [show cpr ea eb x y row0 (r + 1) = cpr ea eb x y row0 r by rw [cpr, if_pos e]]
      refine ⟨sg0, fun k hk => ?_, fun s hs hm => ?_, d⟩
      · have := a k hk
        exact ⟨by omega, this.2⟩
      · rcases Nat.lt_or_eq_of_le (Nat.le_of_lt_succ hs) with z | z
        · exact b s z hm
        · rw [z, e] at hm; cases hm
    | false =>
      rw [show cpr ea eb x y row0 (r + 1) = (iu (iu (cpr ea eb x y row0 r).1 (2 * (cpr ea eb x y row0 r).2) ((ea r : Nat) : Int)) (2 * (cpr ea eb x y row0 r).2 + 1) ((eb r : Nat) : Int), (cpr ea eb x y row0 r).2 + 1) by rw [cpr, if_neg (by rw [e]; decide)]]
      generalize cpr ea eb x y row0 r = q at a b d
      refine ⟨fun k => if k = q.2 then r else sg0 k, fun k hk => ?_, fun s hs hm => ?_, fun k l hk hl => ?_⟩
      · dsimp only at hk ⊢
        by_cases ek : k = q.2
        · subst ek
          rw [if_pos rfl]
          refine ⟨by omega, e, ?_, ?_⟩
          · rw [iu_n _ _ (by omega), iu_s]
          · rw [iu_s]
        · rw [if_neg ek]
          have := a k (by omega)
          refine ⟨by omega, this.2.1, ?_, ?_⟩
          · rw [iu_n _ _ (by omega), iu_n _ _ (by omega)]; exact this.2.2.1
          · rw [iu_n _ _ (by omega), iu_n _ _ (by omega)]; exact this.2.2.2
      · dsimp only
        rcases Nat.lt_or_eq_of_le (Nat.le_of_lt_succ hs) with z | z
        · obtain ⟨k, hk, hks⟩ := b s z hm
          exact ⟨k, by omega, by rw [if_neg (by omega)]; exact hks⟩
        · exact ⟨q.2, by omega, by rw [if_pos rfl]; exact z.symm⟩
      · dsimp only at hl ⊢
        by_cases el : l = q.2
        · subst el
          rw [if_neg (by omega), if_pos rfl]
          exact (a k hk).1
        · rw [if_neg (by omega), if_neg el]
          exact d k l hk (by omega)
theorem cpr_n {ea eb : Nat → Nat} {x y : Nat} {row0 : FI} {r0 m : Nat} (hu : ∀ r, r < m → (mtcB ea eb x y r = true ↔ r = r0)) : ∀ r, r ≤ m → (cpr ea eb x y row0 r).2 = if r0 < r then r - 1 else r
  | 0, _ => by simp [cpr]
  | r + 1, hr => by
    have ih := cpr_n (row0 := row0) hu r (by omega)
    unfold cpr
    by_cases e : r = r0
    · rw [if_pos ((hu r (by omega)).mpr e), ih]
      split <;> split <;> omega
    · rw [if_neg (fun q => e ((hu r (by omega)).mp q))]
      dsimp only
      rw [ih]
      split <;> split <;> omega
theorem c_X4_axe {zs : zzT} {d : Nat} {Q : zzQ} {g : Nat → Nat → Int} {hh : Int64} {n m : Nat} {ea eb : Nat → Nat} (hp : MP g n m ea eb) {x y : Int} (hx : rg x) (hy : rg y) (h1 : ¬ ((0 ≤ x ∧ x < (n : Int)) ∧ (0 ≤ y ∧ y < (n : Int)) ∧ x ≠ y) → Q [.int (iI (-101))] (wof g hh)) (h2 : ∀ x0 y0 : Nat, x = (x0 : Int) → y = (y0 : Int) → x0 < n → y0 < n → x0 ≠ y0 → arp ea eb m x0 y0 = false → Q [.int (iI (-103))] (wof g hh)) (h4 : ∀ x0 y0 : Nat, x = (x0 : Int) → y = (y0 : Int) → x0 < n → y0 < n → x0 ≠ y0 → arp ea eb m x0 y0 = true → Q [.int (iI (((cpr ea eb x0 y0 (g 43) m).2 : Nat) : Int))] (wof (gr (gr g 43 (cpr ea eb x0 y0 (g 43) m).1) 39 (iu (g 39) 9 (((cpr ea eb x0 y0 (g 43) m).2 : Nat) : Int))) hh)) : zzCL zs (d + 4) 102 [.ref 39, .int (iI x), .int (iI y)] (wof g hh) Q := by
  refine st_X4_axe (Nat.le_of_ble_eq_true rfl) (fun R hR => ?_)
  show R 0 [(0, .ref 39), (1, .int (iI x)), (2, .int (iI y))] [] _
  have hr := hp.2.2.2.2.2.2.2.2.2
  have hn5 := hp.2.1
  obtain ⟨hm, hm6, -, hE⟩ := id hr
  refine z_aload_n hR dX4_axe_0 rfl rfl ?_
  refine z_iload_n hR dX4_axe_1 rfl rfl ?_
  refine z_iload_n hR dX4_axe_2 rfl rfl ?_
  refine g_inv2 hR dX4_axe_3 zm_4_151 (by decide) zN_X4_arePair ((wk_39 _) _) zO_X4_arePair (Nat.le_of_ble_eq_true rfl) ?_
  refine c_X4_arePair hp.1 hp.2.1 hx hy ?_
  show R 6 _ (.int _ :: _) _
  refine g_if_neb hR (tgt := 12) dX4_axe_6 (by decide) (fun c6 => ?_) (fun c6 => ?_)
  · have c6 := of_decide_eq_true c6
    obtain ⟨x0, rfl⟩ := Int.eq_ofNat_of_zero_le c6.1.1
    obtain ⟨y0, rfl⟩ := Int.eq_ofNat_of_zero_le c6.2.1.1
    have hxn : x0 < n := by omega
    have hyn : y0 < n := by omega
    have hij : x0 ≠ y0 := by omega
    refine z_aload_n hR dX4_axe_12 rfl rfl ?_
    refine z_iload_n hR dX4_axe_13 rfl rfl ?_
    refine z_iload_n hR dX4_axe_14 rfl rfl ?_
    refine g_inv2 hR dX4_axe_15 zm_4_136 (by decide) zN_X4_areRoped ((wk_39 _) _) zO_X4_areRoped (Nat.le_of_ble_eq_true rfl) ?_
    refine c_X4_areRoped hr hxn hyn ?_
    show R 18 _ (.int _ :: _) _
    refine g_if_neb hR (tgt := 24) dX4_axe_18 (by decide) (fun c18 => ?_) (fun c18 => ?_)
    · have hQ := h4 x0 y0 rfl rfl hxn hyn hij c18
      have loop : ∀ (k i : Nat) (row : FI) (t : Nat), i ≤ m → m < i + k → ((row, t) = cpr ea eb x0 y0 (g 43) i) → R 29 [(0, .ref 39), (1, .int (iI (x0 : Int))), (2, .int (iI (y0 : Int))), (3, .int (iI (t : Int))), (4, .int (iI (i : Int)))] [] (wof (gr g 43 row) hh) := by
        intro k
        induction k with
        | zero => intro i; intros; omega
        | succ k ih =>
          intro i row t hi1 hi2 hrt
          refine z_iload hR dX4_axe_29 rfl ?_
          refine z_aload_n hR dX4_axe_31 rfl rfl ?_
          refine g_get hR dX4_axe_32 zf_4_79 (wk_39 _) (gi (show gr g 43 row 39 9 = (m : Int) from hm)) ?_
          refine g_icmp_ge hR (tgt := 129) dX4_axe_35 (by decide) (fun c35 => ?_) (fun c35 => ?_)
          · refine z_aload_n hR dX4_axe_129 rfl rfl ?_
            refine z_iload_n hR dX4_axe_130 rfl rfl ?_
            refine g_put hR dX4_axe_131 zf_4_79 (wk_39 _) (Nat.le_of_ble_eq_true rfl) rfl rfl rfl rfl ?_
            refine z_aload_n hR dX4_axe_134 rfl rfl ?_
            refine g_get hR dX4_axe_135 zf_4_79 (wk_39 _) (gi (show (gr (gr g 43 row) 39 (iu (g 39) 9 ((t : Nat) : Int))) 39 9 = ((t : Nat) : Int) from rfl)) ?_
            refine g_iret hR dX4_axe_138 rfl ?_
            have e : i = m := by omega
            subst e
            rw [← hrt] at hQ
            exact hQ
          · have hin : i < m := by omega
            have hei := hE i hin
            have htle : t ≤ i := by rw [show t = (cpr ea eb x0 y0 (g 43) i).2 from congrArg Prod.snd hrt]; exact cpr_le i
            have join : ∀ b : Int, ((b = 1 ∧ ((ea i = x0 ∧ eb i = y0) ∨ (ea i = y0 ∧ eb i = x0))) ∨ (b = 0 ∧ ¬ ((ea i = x0 ∧ eb i = y0) ∨ (ea i = y0 ∧ eb i = x0)))) → R 91 [(0, .ref 39), (1, .int (iI (x0 : Int))), (2, .int (iI (y0 : Int))), (3, .int (iI (t : Int))), (4, .int (iI (i : Int))), (5, .int (iI ((ea i : Nat) : Int))), (6, .int (iI ((eb i : Nat) : Int)))] [.int (iI b)] (wof (gr g 43 row) hh) := by
              intro b hb
              refine z_istore hR dX4_axe_91 (by decide) rfl ?_
              refine z_iload hR dX4_axe_93 rfl ?_
              refine g_if_ne hR (tgt := 123) dX4_axe_95 (by decide) (fun c95 => ?_) (fun c95 => ?_)
              · have hM : mtcB ea eb x0 y0 i = true := decide_eq_true (by omega)
                refine g_iinc hR dX4_axe_123 rfl rfl (by decide) rfl ?_
                refine z_goto hR (tgt := 29) dX4_axe_126 (by decide) ?_
                refine z_sub hR [0, 1, 2, 3, 4] rfl ?_
                first | exact ih (i + 1) row t (by omega) (by omega) (by rw [cpr, if_pos hM]; exact hrt) | exact ih (i + 1) _ (t + 1) (by omega) (by omega) (by rw [cpr, if_neg hM, ← hrt])
              · have hM : ¬ mtcB ea eb x0 y0 i = true := by rw [show mtcB ea eb x0 y0 i = false from decide_eq_false (by omega)]; decide
                refine z_aload_n hR dX4_axe_98 rfl rfl ?_
                refine g_get hR dX4_axe_99 zf_4_19 (wk_39 _) (show _ = some (Value.ref 43) from rfl) ?_
                refine g_iconst hR dX4_axe_102 ?_
                refine z_iload_n hR dX4_axe_103 rfl rfl ?_
                refine g_imul hR dX4_axe_104 (nmul 2 _) ?_
                refine z_iload hR dX4_axe_105 rfl ?_
                refine g_iastN hR dX4_axe_107 (wk_43 _) ?_
                refine z_aload_n hR dX4_axe_108 rfl rfl ?_
                refine g_get hR dX4_axe_109 zf_4_19 (wk_39 _) (show _ = some (Value.ref 43) from rfl) ?_
                refine g_iconst hR dX4_axe_112 ?_
                refine z_iload_n hR dX4_axe_113 rfl rfl ?_
                refine g_imul hR dX4_axe_114 (nmul 2 _) ?_
                refine g_iconst hR dX4_axe_115 ?_
                refine g_iadd hR dX4_axe_116 (nadd _ 1) ?_
                refine z_iload hR dX4_axe_117 rfl ?_
                refine g_iastN hR dX4_axe_119 (wk_43 _) ?_
                simp only [gr_s, gr_gr]
                refine g_iinc hR dX4_axe_120 rfl rfl (by decide) rfl ?_
                refine g_iinc hR dX4_axe_123 rfl rfl (by decide) rfl ?_
                refine z_goto hR (tgt := 29) dX4_axe_126 (by decide) ?_
                refine z_sub hR [0, 1, 2, 3, 4] rfl ?_
                first | exact ih (i + 1) row t (by omega) (by omega) (by rw [cpr, if_pos hM]; exact hrt) | exact ih (i + 1) _ (t + 1) (by omega) (by omega) (by rw [cpr, if_neg hM, ← hrt])
            refine z_aload_n hR dX4_axe_38 rfl rfl ?_
            refine g_get hR dX4_axe_39 zf_4_19 (wk_39 _) (show _ = some (Value.ref 43) from rfl) ?_
            refine g_iconst hR dX4_axe_42 ?_
            refine z_iload hR dX4_axe_43 rfl ?_
            refine g_imul hR dX4_axe_45 (nmul 2 _) ?_
            refine g_ialdN hR dX4_axe_46 (wk_43 _) (show gr g 43 row 43 (2 * i) = ((ea i : Nat) : Int) by rw [gr_s, show row = (cpr ea eb x0 y0 (g 43) i).1 from congrArg Prod.fst hrt, cpr_hi i _ (by omega)]; exact (hE i hin).1) ?_
            refine z_istore hR dX4_axe_47 (by decide) rfl ?_
            refine z_aload_n hR dX4_axe_49 rfl rfl ?_
            refine g_get hR dX4_axe_50 zf_4_19 (wk_39 _) (show _ = some (Value.ref 43) from rfl) ?_
            refine g_iconst hR dX4_axe_53 ?_
            refine z_iload hR dX4_axe_54 rfl ?_
            refine g_imul hR dX4_axe_56 (nmul 2 _) ?_
            refine g_iconst hR dX4_axe_57 ?_
            refine g_iadd hR dX4_axe_58 (nadd _ 1) ?_
            refine g_ialdN hR dX4_axe_59 (wk_43 _) (show gr g 43 row 43 (2 * i + 1) = ((eb i : Nat) : Int) by rw [gr_s, show row = (cpr ea eb x0 y0 (g 43) i).1 from congrArg Prod.fst hrt, cpr_hi i _ (by omega)]; exact (hE i hin).2.1) ?_
            refine z_istore hR dX4_axe_60 (by decide) rfl ?_
            refine z_iload hR dX4_axe_62 rfl ?_
            refine z_iload_n hR dX4_axe_64 rfl rfl ?_
            refine g_icmp_ne hR (tgt := 74) dX4_axe_65 (by decide) (fun c65 => ?_) (fun c65 => ?_)
            · refine z_iload hR dX4_axe_74 rfl ?_
              refine z_iload_n hR dX4_axe_76 rfl rfl ?_
              refine g_icmp_ne hR (tgt := 90) dX4_axe_77 (by decide) (fun c77 => ?_) (fun c77 => ?_)
              · refine g_iconst hR dX4_axe_90 ?_
                exact join _ (by omega)
              · refine z_iload hR dX4_axe_80 rfl ?_
                refine z_iload_n hR dX4_axe_82 rfl rfl ?_
                refine g_icmp_ne hR (tgt := 90) dX4_axe_83 (by decide) (fun c83 => ?_) (fun c83 => ?_)
                · refine g_iconst hR dX4_axe_90 ?_
                  exact join _ (by omega)
                · refine g_iconst hR dX4_axe_86 ?_
                  refine z_goto hR (tgt := 91) dX4_axe_87 (by decide) ?_
                  exact join _ (by omega)
            · refine z_iload hR dX4_axe_68 rfl ?_
              refine z_iload_n hR dX4_axe_70 rfl rfl ?_
              refine g_icmp_eq hR (tgt := 86) dX4_axe_71 (by decide) (fun c71 => ?_) (fun c71 => ?_)
              · refine g_iconst hR dX4_axe_86 ?_
                refine z_goto hR (tgt := 91) dX4_axe_87 (by decide) ?_
                exact join _ (by omega)
              · refine z_iload hR dX4_axe_74 rfl ?_
                refine z_iload_n hR dX4_axe_76 rfl rfl ?_
                refine g_icmp_ne hR (tgt := 90) dX4_axe_77 (by decide) (fun c77 => ?_) (fun c77 => ?_)
                · refine g_iconst hR dX4_axe_90 ?_
                  exact join _ (by omega)
                · refine z_iload hR dX4_axe_80 rfl ?_
                  refine z_iload_n hR dX4_axe_82 rfl rfl ?_
                  refine g_icmp_ne hR (tgt := 90) dX4_axe_83 (by decide) (fun c83 => ?_) (fun c83 => ?_)
                  · refine g_iconst hR dX4_axe_90 ?_
                    exact join _ (by omega)
                  · refine g_iconst hR dX4_axe_86 ?_
                    refine z_goto hR (tgt := 91) dX4_axe_87 (by decide) ?_
                    exact join _ (by omega)
      refine g_iconst hR dX4_axe_24 ?_
      refine z_istore_n hR dX4_axe_25 rfl (by decide) rfl ?_
      refine g_iconst hR dX4_axe_26 ?_
      refine z_istore hR dX4_axe_27 (by decide) rfl ?_
      have hl := loop (m + 1) 0 (g 43) 0 (by omega) (by omega) rfl
      rw [gr_self] at hl
      exact hl
    · refine g_bipush hR dX4_axe_21 ?_
      refine g_iret hR dX4_axe_23 rfl ?_
      exact h2 x0 y0 rfl rfl hxn hyn hij c18
  · have c6 := of_decide_eq_false c6
    refine g_bipush hR dX4_axe_9 ?_
    refine g_iret hR dX4_axe_11 rfl ?_
    exact h1 c6
