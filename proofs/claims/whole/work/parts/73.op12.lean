theorem c_X1_add {zs : zzT} {d : Nat} {Q : zzQ} {g : Nat → Nat → Int} {hh : Int64} {sn : Nat} (hsn : g 23 4 = (sn : Int)) (hs8 : sn < 8) {x y dy : Int} {b : Bool} (hQ : Q [.int (iI ((sn : Int) + 1))] (wof (gr (gr (gr (gr (gr g 24 (iu (g 24) sn x)) 25 (iu (g 25) sn y)) 26 (iu (g 26) sn dy)) 27 (iu (g 27) sn (b2i b))) 23 (iu (g 23) 4 ((sn : Int) + 1))) hh)) : zzCL zs (d + 1) 59 [.ref 23, .int (iI x), .int (iI y), .int (iI dy), .int (iI (b2i b))] (wof g hh) Q := by
  refine st_X1_add (Nat.le_of_ble_eq_true rfl) (fun R hR => ?_)
  show R 0 [(0, .ref 23), (1, .int (iI x)), (2, .int (iI y)), (3, .int (iI dy)), (4, .int (iI (b2i b)))] [] _
  refine z_aload_n hR dX1_add_0 rfl rfl ?_
  refine g_get hR dX1_add_1 zf_1_9 (wk_23 _) (show _ = some (Value.ref 24) from rfl) ?_
  refine z_aload_n hR dX1_add_4 rfl rfl ?_
  refine g_get hR dX1_add_5 zf_1_25 (wk_23 _) (gi hsn) ?_
  refine z_iload_n hR dX1_add_8 rfl rfl ?_
  refine g_iastN hR dX1_add_9 (wk_24 _) ?_
  refine z_aload_n hR dX1_add_10 rfl rfl ?_
  refine g_get hR dX1_add_11 zf_1_15 (wk_23 _) (show _ = some (Value.ref 25) from rfl) ?_
  refine z_aload_n hR dX1_add_14 rfl rfl ?_
  refine g_get hR dX1_add_15 zf_1_25 (wk_23 _) (gi (show gr g 24 (iu (g 24) sn x) 23 4 = (sn : Int) from hsn)) ?_
  refine z_iload_n hR dX1_add_18 rfl rfl ?_
  refine g_iastN hR dX1_add_19 (wk_25 _) ?_
  refine z_aload_n hR dX1_add_20 rfl rfl ?_
  refine g_get hR dX1_add_21 zf_1_18 (wk_23 _) (show _ = some (Value.ref 26) from rfl) ?_
  refine z_aload_n hR dX1_add_24 rfl rfl ?_
  refine g_get hR dX1_add_25 zf_1_25 (wk_23 _) (gi (show gr (gr g 24 (iu (g 24) sn x)) 25 (iu (g 25) sn y) 23 4 = (sn : Int) from hsn)) ?_
  refine z_iload_n hR dX1_add_28 rfl rfl ?_
  refine g_iastN hR dX1_add_29 (wk_26 _) ?_
  refine z_aload_n hR dX1_add_30 rfl rfl ?_
  refine g_get hR dX1_add_31 zf_1_21 (wk_23 _) (show _ = some (Value.ref 27) from rfl) ?_
  refine z_aload_n hR dX1_add_34 rfl rfl ?_
  refine g_get hR dX1_add_35 zf_1_25 (wk_23 _) (gi (show gr (gr (gr g 24 (iu (g 24) sn x)) 25 (iu (g 25) sn y)) 26 (iu (g 26) sn dy) 23 4 = (sn : Int) from hsn)) ?_
  refine z_iload hR dX1_add_38 rfl ?_
  refine g_zastN hR dX1_add_40 (wk_27 _) ?_
  refine z_aload_n hR dX1_add_41 rfl rfl ?_
  refine z_dup hR dX1_add_42 rfl ?_
  refine g_get hR dX1_add_43 zf_1_25 (wk_23 _) (gi (show (gr (gr (gr (gr g 24 (iu (g 24) sn x)) 25 (iu (g 25) sn y)) 26 (iu (g 26) sn dy)) 27 (iu (g 27) sn (b2i b))) 23 4 = (sn : Int) from hsn)) ?_
  refine g_iconst hR dX1_add_46 ?_
  refine g_iadd hR dX1_add_47 rfl ?_
  refine g_put hR dX1_add_48 zf_1_25 (wk_23 _) (Nat.le_of_ble_eq_true rfl) rfl rfl rfl rfl ?_
  refine z_aload_n hR dX1_add_51 rfl rfl ?_
  refine g_get hR dX1_add_52 zf_1_25 (wk_23 _) (gi (show (gr (gr (gr (gr (gr g 24 (iu (g 24) sn x)) 25 (iu (g 25) sn y)) 26 (iu (g 26) sn dy)) 27 (iu (g 27) sn (b2i b))) 23 (iu (g 23) 4 ((sn : Int) + 1))) 23 4 = (sn : Int) + 1 from rfl)) ?_
  refine g_iret hR dX1_add_55 rfl ?_
  exact hQ
theorem c_X3_shell {zs : zzT} {d : Nat} {Q : zzQ} {g : Nat → Nat → Int} {hh : Int64} {n sn : Nat} (hn : g 2 6 = (n : Int)) (hn5 : n ≤ 5) (hsn : g 23 4 = (sn : Int)) (hs8 : sn ≤ 8) {x y dy : Int} {b : Bool} (hx : rg x) (hy : rg y) (hdy : rg dy) (h1 : ¬ ((0 ≤ x ∧ x < (n : Int)) ∧ (0 ≤ y ∧ y < (n : Int)) ∧ x ≠ y) → Q [.int (iI (-101))] (wof g hh)) (h2 : (0 ≤ x ∧ x < (n : Int)) ∧ (0 ≤ y ∧ y < (n : Int)) ∧ x ≠ y → ¬ (0 ≤ dy ∧ dy ≤ 20) → Q [.int (iI (-102))] (wof g hh)) (h3 : (0 ≤ x ∧ x < (n : Int)) ∧ (0 ≤ y ∧ y < (n : Int)) ∧ x ≠ y → 0 ≤ dy ∧ dy ≤ 20 → sn = 8 → Q [.int (iI (-104))] (wof g hh)) (h4 : (0 ≤ x ∧ x < (n : Int)) ∧ (0 ≤ y ∧ y < (n : Int)) ∧ x ≠ y → 0 ≤ dy ∧ dy ≤ 20 → sn < 8 → Q [.int (iI ((sn : Int) + 1))] (wof (gr (gr (gr (gr (gr g 24 (iu (g 24) sn x)) 25 (iu (g 25) sn y)) 26 (iu (g 26) sn dy)) 27 (iu (g 27) sn (b2i b))) 23 (iu (g 23) 4 ((sn : Int) + 1))) hh)) : zzCL zs (d + 4) 58 [.ref 0, .int (iI x), .int (iI y), .int (iI dy), .int (iI (b2i b))] (wof g hh) Q := by
  refine st_X3_shell (Nat.le_of_ble_eq_true rfl) (fun R hR => ?_)
  show R 0 [(0, .ref 0), (1, .int (iI x)), (2, .int (iI y)), (3, .int (iI dy)), (4, .int (iI (b2i b)))] [] _
  refine z_aload_n hR dX3_shell_0 rfl rfl ?_
  refine z_iload_n hR dX3_shell_1 rfl rfl ?_
  refine z_iload_n hR dX3_shell_2 rfl rfl ?_
  refine g_inv2 hR dX3_shell_3 zm_3_142 (by decide) zN_X3_areTwo ((wk_0 _) _) zO_X3_areTwo (Nat.le_of_ble_eq_true rfl) ?_
  refine c_X3_areTwo hn hn5 hx hy ?_
  show R 6 _ (.int _ :: _) _
  refine g_if_neb hR (tgt := 12) dX3_shell_6 (by decide) (fun c6 => ?_) (fun c6 => ?_)
  · have c6 := of_decide_eq_true c6
    refine z_iload_n hR dX3_shell_12 rfl rfl ?_
    refine g_if_lt hR (tgt := 22) dX3_shell_13 (by decide) (fun c13 => ?_) (fun c13 => ?_)
    · refine g_bipush hR dX3_shell_22 ?_
      refine g_iret hR dX3_shell_24 rfl ?_
      exact h2 c6 (by omega)
    · refine z_iload_n hR dX3_shell_16 rfl rfl ?_
      refine g_bipush hR dX3_shell_17 ?_
      refine g_icmp_le hR (tgt := 25) dX3_shell_19 (by decide) (fun c19 => ?_) (fun c19 => ?_)
      · refine z_aload_n hR dX3_shell_25 rfl rfl ?_
        refine g_get hR dX3_shell_26 zf_3_46 (wk_0 _) (show _ = some (Value.ref 23) from rfl) ?_
        refine g_get hR dX3_shell_29 zf_3_87 (wk_23 _) (gi hsn) ?_
        refine g_bipush hR dX3_shell_32 ?_
        refine g_icmp_lt hR (tgt := 40) dX3_shell_34 (by decide) (fun c34 => ?_) (fun c34 => ?_)
        · refine z_aload_n hR dX3_shell_40 rfl rfl ?_
          refine g_get hR dX3_shell_41 zf_3_46 (wk_0 _) (show _ = some (Value.ref 23) from rfl) ?_
          refine z_iload_n hR dX3_shell_44 rfl rfl ?_
          refine z_iload_n hR dX3_shell_45 rfl rfl ?_
          refine z_iload_n hR dX3_shell_46 rfl rfl ?_
          refine z_iload hR dX3_shell_47 rfl ?_
          refine g_inv4 hR dX3_shell_49 zm_3_191 (by decide) zN_X1_add ((wk_23 _) _) zO_X1_add (Nat.le_of_ble_eq_true rfl) ?_
          refine c_X1_add hsn (by omega) ?_
          show R 52 _ (.int _ :: _) _
          refine g_iret hR dX3_shell_52 rfl ?_
          exact h4 c6 (by omega) (by omega)
        · refine g_bipush hR dX3_shell_37 ?_
          refine g_iret hR dX3_shell_39 rfl ?_
          exact h3 c6 (by omega) (by omega)
      · refine g_bipush hR dX3_shell_22 ?_
        refine g_iret hR dX3_shell_24 rfl ?_
        exact h2 c6 (by omega)
  · have c6 := of_decide_eq_false c6
    refine g_bipush hR dX3_shell_9 ?_
    refine g_iret hR dX3_shell_11 rfl ?_
    exact h1 c6
theorem c_X4_shell {zs : zzT} {d : Nat} {Q : zzQ} {g : Nat → Nat → Int} {hh : Int64} {n sn : Nat} (hn : g 39 8 = (n : Int)) (hn5 : n ≤ 5) (hsn : g 39 22 = (sn : Int)) (hs8 : sn ≤ 8) {x y dy : Int} {b : Bool} (hx : rg x) (hy : rg y) (hdy : rg dy) (h1 : ¬ ((0 ≤ x ∧ x < (n : Int)) ∧ (0 ≤ y ∧ y < (n : Int)) ∧ x ≠ y) → Q [.int (iI (-101))] (wof g hh)) (h2 : (0 ≤ x ∧ x < (n : Int)) ∧ (0 ≤ y ∧ y < (n : Int)) ∧ x ≠ y → ¬ (0 ≤ dy ∧ dy ≤ 20) → Q [.int (iI (-102))] (wof g hh)) (h3 : (0 ≤ x ∧ x < (n : Int)) ∧ (0 ≤ y ∧ y < (n : Int)) ∧ x ≠ y → 0 ≤ dy ∧ dy ≤ 20 → sn = 8 → Q [.int (iI (-104))] (wof g hh)) (h4 : (0 ≤ x ∧ x < (n : Int)) ∧ (0 ≤ y ∧ y < (n : Int)) ∧ x ≠ y → 0 ≤ dy ∧ dy ≤ 20 → sn < 8 → Q [.int (iI ((sn : Int) + 1))] (wof (gr (gr g 48 (iu (iu (iu (iu (g 48) (4 * sn) x) (4 * sn + 1) y) (4 * sn + 2) dy) (4 * sn + 3) (b2i b))) 39 (iu (g 39) 22 ((sn : Int) + 1))) hh)) : zzCL zs (d + 4) 120 [.ref 39, .int (iI x), .int (iI y), .int (iI dy), .int (iI (b2i b))] (wof g hh) Q := by
  refine st_X4_shell (Nat.le_of_ble_eq_true rfl) (fun R hR => ?_)
  show R 0 [(0, .ref 39), (1, .int (iI x)), (2, .int (iI y)), (3, .int (iI dy)), (4, .int (iI (b2i b)))] [] _
  refine z_aload_n hR dX4_shell_0 rfl rfl ?_
  refine z_iload_n hR dX4_shell_1 rfl rfl ?_
  refine z_iload_n hR dX4_shell_2 rfl rfl ?_
  refine g_inv2 hR dX4_shell_3 zm_4_151 (by decide) zN_X4_arePair ((wk_39 _) _) zO_X4_arePair (Nat.le_of_ble_eq_true rfl) ?_
  refine c_X4_arePair hn hn5 hx hy ?_
  show R 6 _ (.int _ :: _) _
  refine g_if_neb hR (tgt := 12) dX4_shell_6 (by decide) (fun c6 => ?_) (fun c6 => ?_)
  · have c6 := of_decide_eq_true c6
    refine z_iload_n hR dX4_shell_12 rfl rfl ?_
    refine g_i2l hR dX4_shell_13 ?_
    refine z_lconst hR (v := lI 0) dX4_shell_14 (by decide) ?_
    refine z_ldc2 hR dX4_shell_15 zk_4_203 ?_
    rw [show (20 : Int64) = lI (20) from by decide]
    refine g_sta3 hR dX4_shell_18 zm_4_52 zN_X4_in (Nat.le_of_ble_eq_true rfl) ?_
    refine c_X4_in (by first | assumption | (unfold rg; omega)) (by unfold rg; omega) (by unfold rg; omega) ?_
    show R 21 _ (.int _ :: _) _
    refine g_if_neb hR (tgt := 27) dX4_shell_21 (by decide) (fun c21 => ?_) (fun c21 => ?_)
    · have c21 := of_decide_eq_true c21
      refine z_aload_n hR dX4_shell_27 rfl rfl ?_
      refine g_get hR dX4_shell_28 zf_4_82 (wk_39 _) (gi hsn) ?_
      refine g_bipush hR dX4_shell_31 ?_
      refine g_icmp_ne hR (tgt := 39) dX4_shell_33 (by decide) (fun c33 => ?_) (fun c33 => ?_)
      · refine z_aload_n hR dX4_shell_39 rfl rfl ?_
        refine g_get hR dX4_shell_40 zf_4_34 (wk_39 _) (show _ = some (Value.ref 48) from rfl) ?_
        refine g_iconst hR dX4_shell_43 ?_
        refine z_aload_n hR dX4_shell_44 rfl rfl ?_
        refine g_get hR dX4_shell_45 zf_4_82 (wk_39 _) (gi hsn) ?_
        refine g_imul hR dX4_shell_48 (nmul 4 sn) ?_
        refine z_iload_n hR dX4_shell_49 rfl rfl ?_
        refine g_iastN hR dX4_shell_50 (wk_48 _) ?_
        refine z_aload_n hR dX4_shell_51 rfl rfl ?_
        refine g_get hR dX4_shell_52 zf_4_34 (wk_39 _) (show _ = some (Value.ref 48) from rfl) ?_
        refine g_iconst hR dX4_shell_55 ?_
        refine z_aload_n hR dX4_shell_56 rfl rfl ?_
        refine g_get hR dX4_shell_57 zf_4_82 (wk_39 _) (gi (show gr g 48 _ 39 22 = (sn : Int) from hsn)) ?_
        refine g_imul hR dX4_shell_60 (nmul 4 sn) ?_
        refine g_iconst hR dX4_shell_61 ?_
        refine g_iadd hR dX4_shell_62 (nadd (4 * sn) 1) ?_
        refine z_iload_n hR dX4_shell_63 rfl rfl ?_
        refine g_iastN hR dX4_shell_64 (wk_48 _) ?_
        simp only [gr_gr, gr_s]
        refine z_aload_n hR dX4_shell_65 rfl rfl ?_
        refine g_get hR dX4_shell_66 zf_4_34 (wk_39 _) (show _ = some (Value.ref 48) from rfl) ?_
        refine g_iconst hR dX4_shell_69 ?_
        refine z_aload_n hR dX4_shell_70 rfl rfl ?_
        refine g_get hR dX4_shell_71 zf_4_82 (wk_39 _) (gi (show gr g 48 _ 39 22 = (sn : Int) from hsn)) ?_
        refine g_imul hR dX4_shell_74 (nmul 4 sn) ?_
        refine g_iconst hR dX4_shell_75 ?_
        refine g_iadd hR dX4_shell_76 (nadd (4 * sn) 2) ?_
        refine z_iload_n hR dX4_shell_77 rfl rfl ?_
        refine g_iastN hR dX4_shell_78 (wk_48 _) ?_
        simp only [gr_gr, gr_s]
        refine z_aload_n hR dX4_shell_79 rfl rfl ?_
        refine g_get hR dX4_shell_80 zf_4_34 (wk_39 _) (show _ = some (Value.ref 48) from rfl) ?_
        refine g_iconst hR dX4_shell_83 ?_
        refine z_aload_n hR dX4_shell_84 rfl rfl ?_
        refine g_get hR dX4_shell_85 zf_4_82 (wk_39 _) (gi (show gr g 48 _ 39 22 = (sn : Int) from hsn)) ?_
        refine g_imul hR dX4_shell_88 (nmul 4 sn) ?_
        refine g_iconst hR dX4_shell_89 ?_
        refine g_iadd hR dX4_shell_90 (nadd (4 * sn) 3) ?_
        refine z_iload hR dX4_shell_91 rfl ?_
        refine g_if_eqb hR (tgt := 100) dX4_shell_93 (by decide) (fun c93 => ?_) (fun c93 => ?_)
        · refine g_iconst hR dX4_shell_100 ?_
          refine g_iastN hR dX4_shell_101 (wk_48 _) ?_
          simp only [gr_gr, gr_s]
          refine z_aload_n hR dX4_shell_102 rfl rfl ?_
          refine z_dup hR dX4_shell_103 rfl ?_
          refine g_get hR dX4_shell_104 zf_4_82 (wk_39 _) (gi (show gr g 48 _ 39 22 = (sn : Int) from hsn)) ?_
          refine g_iconst hR dX4_shell_107 ?_
          refine g_iadd hR dX4_shell_108 rfl ?_
          refine g_put hR dX4_shell_109 zf_4_82 (wk_39 _) (Nat.le_of_ble_eq_true rfl) rfl rfl rfl rfl ?_
          refine z_aload_n hR dX4_shell_112 rfl rfl ?_
          refine g_get hR dX4_shell_113 zf_4_82 (wk_39 _) (gi (show (gr (gr g 48 (iu (iu (iu (iu (g 48) (4 * sn) x) (4 * sn + 1) y) (4 * sn + 2) dy) (4 * sn + 3) (b2i b))) 39 (iu (g 39) 22 ((sn : Int) + 1))) 39 22 = (sn : Int) + 1 from rfl)) ?_
          refine g_iret hR dX4_shell_116 rfl ?_
          have hq := h4 c6 c21 (by omega)
          rw [c93] at hq
          exact hq
        · refine g_iconst hR dX4_shell_96 ?_
          refine z_goto hR (tgt := 101) dX4_shell_97 (by decide) ?_
          refine g_iastN hR dX4_shell_101 (wk_48 _) ?_
          simp only [gr_gr, gr_s]
          refine z_aload_n hR dX4_shell_102 rfl rfl ?_
          refine z_dup hR dX4_shell_103 rfl ?_
          refine g_get hR dX4_shell_104 zf_4_82 (wk_39 _) (gi (show gr g 48 _ 39 22 = (sn : Int) from hsn)) ?_
          refine g_iconst hR dX4_shell_107 ?_
          refine g_iadd hR dX4_shell_108 rfl ?_
          refine g_put hR dX4_shell_109 zf_4_82 (wk_39 _) (Nat.le_of_ble_eq_true rfl) rfl rfl rfl rfl ?_
          refine z_aload_n hR dX4_shell_112 rfl rfl ?_
          refine g_get hR dX4_shell_113 zf_4_82 (wk_39 _) (gi (show (gr (gr g 48 (iu (iu (iu (iu (g 48) (4 * sn) x) (4 * sn + 1) y) (4 * sn + 2) dy) (4 * sn + 3) (b2i b))) 39 (iu (g 39) 22 ((sn : Int) + 1))) 39 22 = (sn : Int) + 1 from rfl)) ?_
          refine g_iret hR dX4_shell_116 rfl ?_
          have hq := h4 c6 c21 (by omega)
          rw [c93] at hq
          exact hq
      · refine g_bipush hR dX4_shell_36 ?_
        refine g_iret hR dX4_shell_38 rfl ?_
        exact h3 c6 c21 (by omega)
    · have c21 := of_decide_eq_false c21
      refine g_bipush hR dX4_shell_24 ?_
      refine g_iret hR dX4_shell_26 rfl ?_
      exact h2 c6 c21
  · have c6 := of_decide_eq_false c6
    refine g_bipush hR dX4_shell_9 ?_
    refine g_iret hR dX4_shell_11 rfl ?_
    exact h1 c6
theorem HH_add {n sn : Nat} {snI msn : Int} {one oth whn wre sh : FI} (h : HH n sn snI msn one oth whn wre sh) {x y dy : Int} {b : Bool} (hs : sn < 8) (hx : 0 ≤ x ∧ x < n) (hy : 0 ≤ y ∧ y < n) (hxy : x ≠ y) (hd : 0 ≤ dy ∧ dy ≤ 20) : HH n (sn + 1) ((sn : Int) + 1) ((sn : Int) + 1) (iu one sn x) (iu oth sn y) (iu whn sn dy) (iu wre sn (b2i b)) (iu (iu (iu (iu sh (4 * sn) x) (4 * sn + 1) y) (4 * sn + 2) dy) (4 * sn + 3) (b2i b)) := by
  obtain ⟨a1, a2, a3, a4⟩ := h
  refine ⟨by omega, by omega, by omega, fun k hk => ?_⟩
  rcases Nat.lt_or_eq_of_le (Nat.le_of_lt_succ hk) with q | q
  · have ro : ∀ c, c < 4 → (iu (iu (iu (iu sh (4 * sn) x) (4 * sn + 1) y) (4 * sn + 2) dy) (4 * sn + 3) (b2i b)) (4 * k + c) = sh (4 * k + c) := by
      intro c hc
      rw [iu_n _ _ (by omega), iu_n _ _ (by omega), iu_n _ _ (by omega), iu_n _ _ (by omega)]
    have e0 := ro 0 (by omega)
    rw [show 4 * k + 0 = 4 * k from rfl] at e0
    rw [show iu one sn x k = one k from iu_n _ _ (by omega), show iu oth sn y k = oth k from iu_n _ _ (by omega), show iu whn sn dy k = whn k from iu_n _ _ (by omega), show iu wre sn (b2i b) k = wre k from iu_n _ _ (by omega), e0, ro 1 (by omega), ro 2 (by omega), ro 3 (by omega)]
    exact a4 k q
  · subst q
    rw [iu_s, iu_s, iu_s, iu_s]
    refine ⟨⟨?_, ?_, ?_, ?_⟩, ?_, hx, hy, hxy, hd⟩
    · rw [iu_n _ _ (by omega), iu_n _ _ (by omega), iu_n _ _ (by omega), iu_s]
    · rw [iu_n _ _ (by omega), iu_n _ _ (by omega), iu_s]
    · rw [iu_n _ _ (by omega), iu_s]
    · rw [iu_s]
    · cases b
      · exact Or.inl rfl
      · exact Or.inr rfl
theorem SS_mono {n m an c : Nat} {rp ea eb : Nat → Nat} {o kdf szf plf rpI ptI : FI} {is rm wi da bu : Int} {rows ropes : FI} (h : SS n m an rp ea eb o kdf szf plf rpI ptI is rm wi da bu rows ropes c) : SS n m an rp ea eb o kdf szf plf rpI ptI is rm wi da bu rows ropes (c + 1) := by
  obtain ⟨a1, a2, a3, a4, a5, a6⟩ := h
  exact ⟨a1, a2, a3, a4, ⟨a5.1, a5.2.1, by have := a5.2.2; omega⟩, a6⟩
theorem op_shell {zs : zzT} {c : Nat} {g : Nat → Nat → Int} {hh : Int64} (hz : zsok zs) (h : Rel c g) (hc : c < 512) {x y dy : Int} {b : Bool} (hx : rg x) (hy : rg y) (hdy : rg dy) : opOK zs 58 120 [.ref 0, .int (iI x), .int (iI y), .int (iI dy), .int (iI (b2i b))] [.ref 39, .int (iI x), .int (iI y), .int (iI dy), .int (iI (b2i b))] c g hh := by
  obtain ⟨hc0, hpage, hnum, hcur, ⟨n, m, an, sn, rp, ea, eb, hS, hH⟩, himg⟩ := id h
  have hk := SS_WK hc0 hcur hS
  have hp := SS_MP hc0 hcur hS
  by_cases hA : (0 ≤ x ∧ x < (n : Int)) ∧ (0 ≤ y ∧ y < (n : Int)) ∧ x ≠ y
  · by_cases hB : 0 ≤ dy ∧ dy ≤ 20
    · by_cases hC : sn = 8
      · exact op_id (r := -104) (by unfold rg; omega) h hc (fun Q q => c_X3_shell hk.1.1 hk.1.2.1 hH.1 hH.2.2.1 hx hy hdy (fun z => absurd hA z) (fun _ z => absurd hB z) (fun _ _ _ => q) (fun _ _ z => absurd hC (by omega))) (fun Q q => c_X4_shell hp.1 hp.2.1 hH.2.1 hH.2.2.1 hx hy hdy (fun z => absurd hA z) (fun _ z => absurd hB z) (fun _ _ _ => q) (fun _ _ z => absurd hC (by omega)))
      · refine op_ex (r := (sn : Int) + 1) (by have := hH.2.2.1; unfold rg; omega) ?_ (fun Q q => c_X3_shell hk.1.1 hk.1.2.1 hH.1 hH.2.2.1 hx hy hdy (fun z => absurd hA z) (fun _ z => absurd hB z) (fun _ _ z => absurd z hC) (fun _ _ _ => q)) (fun Q q => c_X4_shell (g := gr (gr (gr (gr (gr g 24 (iu (g 24) sn x)) 25 (iu (g 25) sn y)) 26 (iu (g 26) sn dy)) 27 (iu (g 27) sn (b2i b))) 23 (iu (g 23) 4 ((sn : Int) + 1))) hp.1 hp.2.1 hH.2.1 hH.2.2.1 hx hy hdy (fun z => absurd hA z) (fun _ z => absurd hB z) (fun _ _ z => absurd z hC) (fun _ _ _ => q))
        have hs := Rel_step h hc
        exact ⟨hs.1, hs.2.1, hs.2.2.1, hs.2.2.2.1, ⟨n, m, an, sn + 1, rp, ea, eb, SS_mono hS, HH_add hH (by have := hH.2.2.1; omega) hA.1 hA.2.1 hA.2.2 hB⟩, hs.2.2.2.2.2⟩
    · exact op_id (r := -102) (by unfold rg; omega) h hc (fun Q q => c_X3_shell hk.1.1 hk.1.2.1 hH.1 hH.2.2.1 hx hy hdy (fun z => absurd hA z) (fun _ _ => q) (fun _ z => absurd z hB) (fun _ z => absurd z hB)) (fun Q q => c_X4_shell hp.1 hp.2.1 hH.2.1 hH.2.2.1 hx hy hdy (fun z => absurd hA z) (fun _ _ => q) (fun _ z => absurd z hB) (fun _ z => absurd z hB))
  · exact op_id (r := -101) (by unfold rg; omega) h hc (fun Q q => c_X3_shell hk.1.1 hk.1.2.1 hH.1 hH.2.2.1 hx hy hdy (fun _ => q) (fun z => absurd z hA) (fun z => absurd z hA) (fun z => absurd z hA)) (fun Q q => c_X4_shell hp.1 hp.2.1 hH.2.1 hH.2.2.1 hx hy hdy (fun _ => q) (fun z => absurd z hA) (fun z => absurd z hA) (fun z => absurd z hA))
theorem c_X3_forget {zs : zzT} {d : Nat} {Q : zzQ} {g : Nat → Nat → Int} {hh : Int64} {L : Int} (hL : g 23 4 = L) (hQ : Q [.int (iI L)] (wof (gr g 23 (iu (g 23) 4 0)) hh)) : zzCL zs (d + 1) 60 [.ref 0] (wof g hh) Q := by
  refine st_X3_forget (Nat.le_of_ble_eq_true rfl) (fun R hR => ?_)
  show R 0 [(0, .ref 0)] [] _
  refine z_aload_n hR dX3_forget_0 rfl rfl ?_
  refine g_get hR dX3_forget_1 zf_3_46 (wk_0 _) (show _ = some (Value.ref 23) from rfl) ?_
  refine g_get hR dX3_forget_4 zf_3_87 (wk_23 _) (gi hL) ?_
  refine z_istore_n hR dX3_forget_7 rfl (by decide) rfl ?_
  refine z_aload_n hR dX3_forget_8 rfl rfl ?_
  refine g_get hR dX3_forget_9 zf_3_46 (wk_0 _) (show _ = some (Value.ref 23) from rfl) ?_
  refine g_iconst hR dX3_forget_12 ?_
  refine g_put hR dX3_forget_13 zf_3_87 (wk_23 _) (Nat.le_of_ble_eq_true rfl) rfl rfl rfl rfl ?_
  refine z_iload_n hR dX3_forget_16 rfl rfl ?_
  refine g_iret hR dX3_forget_17 rfl ?_
  exact hQ
theorem c_X4_forget {zs : zzT} {d : Nat} {Q : zzQ} {g : Nat → Nat → Int} {hh : Int64} {L : Int} (hL : g 39 22 = L) (hQ : Q [.int (iI L)] (wof (gr g 39 (iu (g 39) 22 0)) hh)) : zzCL zs (d + 1) 121 [.ref 39] (wof g hh) Q := by
  refine st_X4_forget (Nat.le_of_ble_eq_true rfl) (fun R hR => ?_)
  show R 0 [(0, .ref 39)] [] _
  refine z_aload_n hR dX4_forget_0 rfl rfl ?_
  refine g_get hR dX4_forget_1 zf_4_82 (wk_39 _) (gi hL) ?_
  refine z_istore_n hR dX4_forget_4 rfl (by decide) rfl ?_
  refine z_aload_n hR dX4_forget_5 rfl rfl ?_
  refine g_iconst hR dX4_forget_6 ?_
  refine g_put hR dX4_forget_7 zf_4_82 (wk_39 _) (Nat.le_of_ble_eq_true rfl) rfl rfl rfl rfl ?_
  refine z_iload_n hR dX4_forget_10 rfl rfl ?_
  refine g_iret hR dX4_forget_11 rfl ?_
  exact hQ
theorem op_forget {zs : zzT} {c : Nat} {g : Nat → Nat → Int} {hh : Int64} (hz : zsok zs) (h : Rel c g) (hc : c < 512)  : opOK zs 60 121 [.ref 0] [.ref 39] c g hh := by
  obtain ⟨hc0, hpage, hnum, hcur, ⟨n, m, an, sn, rp, ea, eb, hS, hH⟩, himg⟩ := id h
  have hk := SS_WK hc0 hcur hS
  have hp := SS_MP hc0 hcur hS
  refine op_ex (r := (sn : Int)) (by have := hH.2.2.1; unfold rg; omega) ?_ (fun Q q => c_X3_forget hH.1 q) (fun Q q => c_X4_forget (g := gr g 23 (iu (g 23) 4 0)) hH.2.1 q)
  have hs := Rel_step h hc
  exact ⟨hs.1, hs.2.1, hs.2.2.1, hs.2.2.2.1, ⟨n, m, an, 0, rp, ea, eb, SS_mono hS, ⟨rfl, rfl, by omega, fun k hk => absurd hk (by omega)⟩⟩, hs.2.2.2.2.2⟩
/-- behind a copy of the shells at b to those at a -/
def cph (g : Nat → Nat → Int) (a b : Nat) (g1 : Nat → Nat → Int) : Prop := (∀ i, 1 ≤ i → i ≤ 4 → ∀ k : Nat, (k : Int) < g b 4 → g1 (a + i) k = g (b + i) k) ∧ g1 a 4 = g b 4 ∧ (∀ c k, c < a ∨ a + 4 < c → g1 c k = g c k)
/-- the first i shells copied -/
def shc (g : Nat → Nat → Int) (a b i : Nat) : Nat → Nat → Int := fun c k => if (c = a + 1 ∨ c = a + 2 ∨ c = a + 3 ∨ c = a + 4) ∧ k < i then g (c - a + b) k else g c k
theorem shc_0 (g : Nat → Nat → Int) (a b : Nat) : shc g a b 0 = g := by funext c k; simp [shc]
theorem shc_s {g : Nat → Nat → Int} {a b i : Nat} : gr (gr (gr (gr (shc g a b i) (a + 1) (iu (shc g a b i (a + 1)) i (g (b + 1) i))) (a + 2) (iu (shc g a b i (a + 2)) i (g (b + 2) i))) (a + 3) (iu (shc g a b i (a + 3)) i (g (b + 3) i))) (a + 4) (iu (shc g a b i (a + 4)) i (g (b + 4) i)) = shc g a b (i + 1) := by
  funext c k
  have key : ∀ j, 1 ≤ j → j ≤ 4 → iu (shc g a b i (a + j)) i (g (b + j) i) k = shc g a b (i + 1) (a + j) k := by
    intro j h1 h2
    have hc : a + j = a + 1 ∨ a + j = a + 2 ∨ a + j = a + 3 ∨ a + j = a + 4 := by omega
    have hs : a + j - a + b = b + j := by omega
    unfold shc iu
    simp only [hc, true_and, hs]
    by_cases e : k = i
    · subst e
      simp
    · by_cases h3 : k < i
      · have : k < i + 1 := by omega
        simp [e, h3, this]
      · have : ¬ k < i + 1 := by omega
        simp [e, h3, this]
  by_cases e4 : c = a + 4
  · subst e4; rw [gr_s]; exact key 4 (by omega) (by omega)
  · rw [gr_n _ _ e4]
    by_cases e3 : c = a + 3
    · subst e3; rw [gr_s]; exact key 3 (by omega) (by omega)
    · rw [gr_n _ _ e3]
      by_cases e2 : c = a + 2
      · subst e2; rw [gr_s]; exact key 2 (by omega) (by omega)
      · rw [gr_n _ _ e2]
        by_cases e1 : c = a + 1
        · subst e1; rw [gr_s]; exact key 1 (by omega) (by omega)
        · rw [gr_n _ _ e1]
          unfold shc
          rw [if_neg (by omega), if_neg (by omega)]
theorem c_X1_copy {zs : zzT} {d : Nat} {Q : zzQ} {g : Nat → Nat → Int} {hh : Int64} {a b sn : Nat} (ha : isH a) (hb : isH b) (hab : a ≠ b) (hsn : g b 4 = (sn : Int)) (hs8 : sn ≤ 8) (hwr : ∀ k, k < sn → g (b + 4) k = 0 ∨ g (b + 4) k = 1) (hQ : ∀ g1, cph g a b g1 → Q [] (wof g1 hh)) : zzCL zs (d + 1) 69 [.ref a, .ref b] (wof g hh) Q := by
  refine st_X1_copy (Nat.le_of_ble_eq_true rfl) (fun R hR => ?_)
  show R 0 [(0, .ref a), (1, .ref b)] [] _
  have hab5 : a + 5 ≤ b ∨ b + 5 ≤ a := by rcases ha with rfl | rfl <;> rcases hb with rfl | rfl <;> omega
  have loop : ∀ (k i : Nat), i ≤ sn → sn < i + k → R 2 [(0, .ref a), (1, .ref b), (2, .int (iI (i : Int)))] [] (wof (shc g a b i) hh) := by
    intro k
    induction k with
    | zero => intro i; intros; omega
    | succ k ih =>
      intro i  hi1 hi2 
      refine z_iload_n hR dX1_copy_2 rfl rfl ?_
      refine z_aload_n hR dX1_copy_3 rfl rfl ?_
      refine g_get hR dX1_copy_4 zf_1_25 (wH_0 hb _) (gi (show shc g a b i b 4 = (sn : Int) by unfold shc; rw [if_neg (by omega)]; exact hsn)) ?_
      refine g_icmp_ge hR (tgt := 64) dX1_copy_7 (by decide) (fun c7 => ?_) (fun c7 => ?_)
      · have e : sn = i := by omega
        subst e
        refine z_aload_n hR dX1_copy_64 rfl rfl ?_
        refine z_aload_n hR dX1_copy_65 rfl rfl ?_
        refine g_get hR dX1_copy_66 zf_1_25 (wH_0 hb _) (gi (show shc g a b sn b 4 = (sn : Int) by unfold shc; rw [if_neg (by omega)]; exact hsn)) ?_
        refine g_put hR dX1_copy_69 zf_1_25 (wH_0 ha _) (Nat.le_of_ble_eq_true rfl) rfl rfl rfl rfl ?_
        refine g_vret hR dX1_copy_72 rfl ?_
        refine hQ _ ⟨fun i h1 h2 k hk => ?_, ?_, fun c k hc => ?_⟩
        · rw [gr_n _ _ (by omega)]
          unfold shc
          rw [if_pos (by omega), show a + i - a + b = b + i by omega]
        · rw [gr_s, iu_s]; exact hsn.symm
        · rw [gr_n _ _ (by omega)]
          unfold shc
          rw [if_neg (by omega)]
      · have hin : i < sn := by omega
        have hb1 : shc g a b i (b + 1) i = g (b + 1) i := by unfold shc; rw [if_neg (by omega)]
        have hb2 : shc g a b i (b + 2) i = g (b + 2) i := by unfold shc; rw [if_neg (by omega)]
        have hb3 : shc g a b i (b + 3) i = g (b + 3) i := by unfold shc; rw [if_neg (by omega)]
        have hb4 : shc g a b i (b + 4) i = g (b + 4) i := by unfold shc; rw [if_neg (by omega)]
        obtain ⟨bb, hbb⟩ : ∃ bb : Bool, g (b + 4) i = b2i bb := by
          rcases hwr i hin with q | q
          · exact ⟨false, q⟩
          · exact ⟨true, q⟩
        refine z_aload_n hR dX1_copy_10 rfl rfl ?_
        refine g_get hR dX1_copy_11 zf_1_9 (wH_0 ha _) rfl ?_
        refine z_iload_n hR dX1_copy_14 rfl rfl ?_
        refine z_aload_n hR dX1_copy_15 rfl rfl ?_
        refine g_get hR dX1_copy_16 zf_1_9 (wH_0 hb _) rfl ?_
        refine z_iload_n hR dX1_copy_19 rfl rfl ?_
        refine g_ialdN hR dX1_copy_20 (wH_1 hb _) hb1 ?_
        refine g_iastN hR dX1_copy_21 (wH_1 ha _) ?_
        refine z_aload_n hR dX1_copy_22 rfl rfl ?_
        refine g_get hR dX1_copy_23 zf_1_15 (wH_0 ha _) rfl ?_
        refine z_iload_n hR dX1_copy_26 rfl rfl ?_
        refine z_aload_n hR dX1_copy_27 rfl rfl ?_
        refine g_get hR dX1_copy_28 zf_1_15 (wH_0 hb _) rfl ?_
        refine z_iload_n hR dX1_copy_31 rfl rfl ?_
        refine g_ialdN hR dX1_copy_32 (wH_2 hb _) (show gr (shc g a b i) (a + 1) _ (b + 2) i = g (b + 2) i by rw [gr_n _ _ (by omega)]; exact hb2) ?_
        refine g_iastN hR dX1_copy_33 (wH_2 ha _) ?_
        refine z_aload_n hR dX1_copy_34 rfl rfl ?_
        refine g_get hR dX1_copy_35 zf_1_18 (wH_0 ha _) rfl ?_
        refine z_iload_n hR dX1_copy_38 rfl rfl ?_
        refine z_aload_n hR dX1_copy_39 rfl rfl ?_
        refine g_get hR dX1_copy_40 zf_1_18 (wH_0 hb _) rfl ?_
        refine z_iload_n hR dX1_copy_43 rfl rfl ?_
        refine g_ialdN hR dX1_copy_44 (wH_3 hb _) (show gr (gr (shc g a b i) (a + 1) _) (a + 2) _ (b + 3) i = g (b + 3) i by rw [gr_n _ _ (by omega), gr_n _ _ (by omega)]; exact hb3) ?_
        refine g_iastN hR dX1_copy_45 (wH_3 ha _) ?_
        refine z_aload_n hR dX1_copy_46 rfl rfl ?_
        refine g_get hR dX1_copy_47 zf_1_21 (wH_0 ha _) rfl ?_
        refine z_iload_n hR dX1_copy_50 rfl rfl ?_
        refine z_aload_n hR dX1_copy_51 rfl rfl ?_
        refine g_get hR dX1_copy_52 zf_1_21 (wH_0 hb _) rfl ?_
        refine z_iload_n hR dX1_copy_55 rfl rfl ?_
        refine g_zaldN hR dX1_copy_56 (wH_4 hb _) (show gr (gr (gr (shc g a b i) (a + 1) _) (a + 2) _) (a + 3) _ (b + 4) i = b2i bb by rw [gr_n _ _ (by omega), gr_n _ _ (by omega), gr_n _ _ (by omega)]; exact hb4.trans hbb) ?_
        refine g_zastN hR dX1_copy_57 (wH_4 ha _) ?_
        simp only [gr_n _ _ (show a + 2 ≠ a + 1 by omega), gr_n _ _ (show a + 3 ≠ a + 1 by omega), gr_n _ _ (show a + 3 ≠ a + 2 by omega), gr_n _ _ (show a + 4 ≠ a + 1 by omega), gr_n _ _ (show a + 4 ≠ a + 2 by omega), gr_n _ _ (show a + 4 ≠ a + 3 by omega)]
        refine g_iinc hR dX1_copy_58 rfl rfl (by decide) rfl ?_
        refine z_goto hR (tgt := 2) dX1_copy_61 (by decide) ?_
        have hst := ih (i + 1) (by omega) (by omega)
        rw [← shc_s, hbb] at hst
        exact hst
  refine g_iconst hR dX1_copy_0 ?_
  refine z_istore_n hR dX1_copy_1 rfl (by decide) rfl ?_
  have hl := loop (sn + 1) 0 (by omega) (by omega)
  rw [shc_0] at hl
  exact hl
theorem cpyI_0 (f f1 : FI) : cpyI 0 f f1 = f1 := by funext k; simp [cpyI]
theorem cpyI_s (f f1 : FI) (i : Nat) : iu (cpyI i f f1) i (f i) = cpyI (i + 1) f f1 := by
  funext j
  simp only [iu, cpyI]
  by_cases e : j = i
  · subst e
    simp
  · simp only [if_neg e]
    by_cases h2 : j < i
    · have : j < i + 1 := by omega
      simp [h2, this]
    · have : ¬ j < i + 1 := by omega
      simp [h2, this]
theorem c_X4_copy {zs : zzT} {d : Nat} {Q : zzQ} {g : Nat → Nat → Int} {hh : Int64} {a0 a1 N : Nat} (hN : (N : Int) < 2147483648) (h01 : a0 ≠ a1) (hw0 : ∀ r, wofR a0 r hh = some (.inl (0, N, ir r))) (hw1 : ∀ r, wofR a1 r hh = some (.inl (0, N, ir r))) (hQ : Q [] (wof (gr g a1 (cpyI N (g a0) (g a1))) hh)) : zzCL zs (d + 1) 117 [.ref a0, .ref a1] (wof g hh) Q := by
  refine st_X4_copy (Nat.le_of_ble_eq_true rfl) (fun R hR => ?_)
  show R 0 [(0, .ref a0), (1, .ref a1)] [] _
  have loop : ∀ (k i : Nat), i ≤ N → N < i + k → R 2 [(0, .ref a0), (1, .ref a1), (2, .int (iI (i : Int)))] [] (wof (gr g a1 (cpyI i (g a0) (g a1))) hh) := by
    intro k
    induction k with
    | zero => intro i; intros; omega
    | succ k ih =>
      intro i  hi1 hi2 
      refine z_iload_n hR dX4_copy_2 rfl rfl ?_
      refine z_aload_n hR dX4_copy_3 rfl rfl ?_
      refine z_alen hR (v := iI (N : Int)) dX4_copy_4 (hw0 _) rfl ?_
      refine g_icmp_ge hR (tgt := 20) dX4_copy_5 (by decide) (fun c5 => ?_) (fun c5 => ?_)
      · refine g_vret hR dX4_copy_20 rfl ?_
        have e : i = N := by omega
        subst e
        exact hQ
      · have hin : i < N := by omega
        refine z_aload_n hR dX4_copy_8 rfl rfl ?_
        refine z_iload_n hR dX4_copy_9 rfl rfl ?_
        refine z_aload_n hR dX4_copy_10 rfl rfl ?_
        refine z_iload_n hR dX4_copy_11 rfl rfl ?_
        refine g_ialdN hR dX4_copy_12 hw0 (show gr g a1 (cpyI i (g a0) (g a1)) a0 i = g a0 i by rw [gr_n _ _ h01]) ?_ (hn := hN)
        refine g_iastN hR dX4_copy_13 hw1 ?_ (hn := hN)
        rw [gr_s, gr_gr, cpyI_s]
        refine g_iinc hR dX4_copy_14 rfl rfl (by decide) rfl ?_
        refine z_goto hR (tgt := 2) dX4_copy_17 (by decide) ?_
        exact ih (i + 1) (by omega) (by omega)
  refine g_iconst hR dX4_copy_0 ?_
  refine z_istore_n hR dX4_copy_1 rfl (by decide) rfl ?_
  have hl := loop (N + 1) 0 (by omega) (by omega)
  rw [cpyI_0, gr_self] at hl
  exact hl
