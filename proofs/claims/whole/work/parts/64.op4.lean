theorem c_X3_isKind {zs : zzT} {d : Nat} {Q : zzQ} {w : zzW} {z : Int} (hz : rg z) (hQ : Q [.int (iI (b2i (decide (0 ≤ z ∧ z ≤ 4))))] w) : zzCL zs (d + 1) 13 [.int (iI z)] w Q := by
  refine st_X3_isKind (Nat.le_of_ble_eq_true rfl) (fun R hR => ?_)
  show R 0 [(0, .int (iI z))] [] _
  refine z_iload_n hR dX3_isKind_0 rfl rfl ?_
  refine g_if_lt hR (tgt := 13) dX3_isKind_1 (by decide) (fun c1 => ?_) (fun c1 => ?_)
  · refine g_iconst hR dX3_isKind_13 ?_
    refine g_zret (b := false) hR dX3_isKind_14 rfl ?_
    refine qz hQ ?_
    simp only [eq_comm (a := true), eq_comm (a := false), decide_eq_true_eq, decide_eq_false_iff_not]
    omega
  · refine z_iload_n hR dX3_isKind_4 rfl rfl ?_
    refine g_iconst hR dX3_isKind_5 ?_
    refine g_icmp_ge hR (tgt := 13) dX3_isKind_6 (by decide) (fun c6 => ?_) (fun c6 => ?_)
    · refine g_iconst hR dX3_isKind_13 ?_
      refine g_zret (b := false) hR dX3_isKind_14 rfl ?_
      refine qz hQ ?_
      simp only [eq_comm (a := true), eq_comm (a := false), decide_eq_true_eq, decide_eq_false_iff_not]
      omega
    · refine g_iconst hR dX3_isKind_9 ?_
      refine z_goto hR (tgt := 14) dX3_isKind_10 (by decide) ?_
      refine g_zret (b := true) hR dX3_isKind_14 rfl ?_
      refine qz hQ ?_
      simp only [eq_comm (a := true), eq_comm (a := false), decide_eq_true_eq, decide_eq_false_iff_not]
      omega
theorem c_X2_add {zs : zzT} {d : Nat} {Q : zzQ} {g : Nat → Nat → Int} {hh : Int64} {n : Nat} (hn : g 2 6 = (n : Int)) (hn5 : n < 5) {kd sz pl : Int} (hQ : Q [.int (iI (n : Int))] (wof (gr (gr (gr (gr (gr (gr g 4 (iu (g 4) n kd)) 5 (iu (g 5) n sz)) 6 (iu (g 6) n pl)) 7 (iu (g 7) n 0)) 8 (iu (g 8) n ((2 ^ n : Nat) : Int))) 2 (iu (g 2) 6 ((n : Int) + 1))) hh)) : zzCL zs (d + 1) 14 [.ref 2, .int (iI kd), .int (iI sz), .int (iI pl)] (wof g hh) Q := by
  refine st_X2_add (Nat.le_of_ble_eq_true rfl) (fun R hR => ?_)
  show R 0 [(0, .ref 2), (1, .int (iI kd)), (2, .int (iI sz)), (3, .int (iI pl))] [] _
  refine z_aload_n hR dX2_add_0 rfl rfl ?_
  refine g_get hR dX2_add_1 zf_2_30 (wk_2 _) (gi hn) ?_
  refine z_istore hR dX2_add_4 (by decide) rfl ?_
  refine z_aload_n hR dX2_add_6 rfl rfl ?_
  refine g_get hR dX2_add_7 zf_2_15 (wk_2 _) rfl ?_
  refine z_iload hR dX2_add_10 rfl ?_
  refine z_iload_n hR dX2_add_12 rfl rfl ?_
  refine g_iastN hR dX2_add_13 (wk_4 _) ?_
  refine z_aload_n hR dX2_add_14 rfl rfl ?_
  refine g_get hR dX2_add_15 zf_2_18 (wk_2 _) rfl ?_
  refine z_iload hR dX2_add_18 rfl ?_
  refine z_iload_n hR dX2_add_20 rfl rfl ?_
  refine g_iastN hR dX2_add_21 (wk_5 _) ?_
  refine z_aload_n hR dX2_add_22 rfl rfl ?_
  refine g_get hR dX2_add_23 zf_2_21 (wk_2 _) rfl ?_
  refine z_iload hR dX2_add_26 rfl ?_
  refine z_iload_n hR dX2_add_28 rfl rfl ?_
  refine g_iastN hR dX2_add_29 (wk_6 _) ?_
  refine z_aload_n hR dX2_add_30 rfl rfl ?_
  refine g_get hR dX2_add_31 zf_2_24 (wk_2 _) rfl ?_
  refine z_iload hR dX2_add_34 rfl ?_
  refine g_iconst hR dX2_add_36 ?_
  refine g_iastN hR dX2_add_37 (wk_7 _) ?_
  refine z_aload_n hR dX2_add_38 rfl rfl ?_
  refine g_get hR dX2_add_39 zf_2_27 (wk_2 _) rfl ?_
  refine z_iload hR dX2_add_42 rfl ?_
  refine g_iconst hR dX2_add_44 ?_
  refine z_iload hR dX2_add_45 rfl ?_
  refine g_ishl hR dX2_add_47 (p2n _) (p2b (by omega)) ?_
  refine g_iastN hR dX2_add_48 (wk_8 _) ?_
  refine z_aload_n hR dX2_add_49 rfl rfl ?_
  refine z_dup hR dX2_add_50 rfl ?_
  refine g_get hR dX2_add_51 zf_2_30 (wk_2 _) (gi (show (gr (gr (gr (gr (gr g 4 (iu (g 4) n kd)) 5 (iu (g 5) n sz)) 6 (iu (g 6) n pl)) 7 (iu (g 7) n 0)) 8 (iu (g 8) n ((2 ^ n : Nat) : Int))) 2 6 = (n : Int) from hn)) ?_
  refine g_iconst hR dX2_add_54 ?_
  refine g_iadd hR dX2_add_55 rfl ?_
  refine g_put hR dX2_add_56 zf_2_30 (wk_2 _) (Nat.le_of_ble_eq_true rfl) rfl rfl rfl rfl ?_
  refine z_iload hR dX2_add_59 rfl ?_
  refine g_iret hR dX2_add_61 rfl ?_
  exact hQ
theorem c_X3_island {zs : zzT} {d : Nat} {Q : zzQ} {g : Nat → Nat → Int} {hh : Int64} (hs : g 0 2 = 0 ∨ g 0 2 = 1) {n : Nat} (hn : g 2 6 = (n : Int)) (hn5 : n ≤ 5) (hpl : plok n (g 6)) {kd sz pl : Int} (hk1 : rg kd) (hs1 : rg sz) (hp1 : rg pl) (h1 : ¬ ((0 ≤ kd ∧ kd ≤ 4) ∧ (1 ≤ sz ∧ sz ≤ 9)) → Q [.int (iI (-102))] (wof g hh)) (h2 : (0 ≤ kd ∧ kd ≤ 4) ∧ (1 ≤ sz ∧ sz ≤ 9) → ¬ (g 0 2 = 1 ∧ 0 ≤ pl ∧ pl < 12) → Q [.int (iI (-101))] (wof g hh)) (h3 : (0 ≤ kd ∧ kd ≤ 4) ∧ (1 ≤ sz ∧ sz ≤ 9) → g 0 2 = 1 ∧ 0 ≤ pl ∧ pl < 12 → ∀ r, isAt (g 6) n pl r → r ≠ -1 → Q [.int (iI (-103))] (wof g hh)) (h4 : (0 ≤ kd ∧ kd ≤ 4) ∧ (1 ≤ sz ∧ sz ≤ 9) → g 0 2 = 1 ∧ 0 ≤ pl ∧ pl < 12 → isAt (g 6) n pl (-1) → n = 5 → Q [.int (iI (-104))] (wof g hh)) (h5 : (0 ≤ kd ∧ kd ≤ 4) ∧ (1 ≤ sz ∧ sz ≤ 9) → g 0 2 = 1 ∧ 0 ≤ pl ∧ pl < 12 → isAt (g 6) n pl (-1) → n < 5 → Q [.int (iI (n : Int))] (wof (gr (gr (gr (gr (gr (gr g 4 (iu (g 4) n kd)) 5 (iu (g 5) n sz)) 6 (iu (g 6) n pl)) 7 (iu (g 7) n 0)) 8 (iu (g 8) n ((2 ^ n : Nat) : Int))) 2 (iu (g 2) 6 ((n : Int) + 1))) hh)) : zzCL zs (d + 2) 12 [.ref 0, .int (iI kd), .int (iI sz), .int (iI pl)] (wof g hh) Q := by
  refine st_X3_island (Nat.le_of_ble_eq_true rfl) (fun R hR => ?_)
  show R 0 [(0, .ref 0), (1, .int (iI kd)), (2, .int (iI sz)), (3, .int (iI pl))] [] _
  refine z_iload_n hR dX3_island_0 rfl rfl ?_
  refine g_sta1 hR dX3_island_1 zm_3_102 zN_X3_isKind (Nat.le_of_ble_eq_true rfl) ?_
  refine c_X3_isKind hk1 ?_
  show R 4 _ (.int _ :: _) _
  refine g_if_eqb hR (tgt := 18) dX3_island_4 (by decide) (fun c4 => ?_) (fun c4 => ?_)
  · have c4 := of_decide_eq_false c4
    refine g_bipush hR dX3_island_18 ?_
    refine g_iret hR dX3_island_20 rfl ?_
    exact h1 (by omega)
  · have c4 := of_decide_eq_true c4
    refine z_iload_n hR dX3_island_7 rfl rfl ?_
    refine g_iconst hR dX3_island_8 ?_
    refine g_icmp_lt hR (tgt := 18) dX3_island_9 (by decide) (fun c9 => ?_) (fun c9 => ?_)
    · refine g_bipush hR dX3_island_18 ?_
      refine g_iret hR dX3_island_20 rfl ?_
      exact h1 (by omega)
    · refine z_iload_n hR dX3_island_12 rfl rfl ?_
      refine g_bipush hR dX3_island_13 ?_
      refine g_icmp_le hR (tgt := 21) dX3_island_15 (by decide) (fun c15 => ?_) (fun c15 => ?_)
      · refine z_aload_n hR dX3_island_21 rfl rfl ?_
        refine z_iload_n hR dX3_island_22 rfl rfl ?_
        refine g_inv1 hR dX3_island_23 zm_3_93 (by decide) zN_X3_isPlace ((wk_0 _) _) zO_X3_isPlace (Nat.le_of_ble_eq_true rfl) ?_
        refine c_X3_isPlace hs hp1 ?_
        show R 26 _ (.int _ :: _) _
        refine g_if_neb hR (tgt := 32) dX3_island_26 (by decide) (fun c26 => ?_) (fun c26 => ?_)
        · have c26 := of_decide_eq_true c26
          refine z_aload_n hR dX3_island_32 rfl rfl ?_
          refine g_get hR dX3_island_33 zf_3_33 (wk_0 _) rfl ?_
          refine z_iload_n hR dX3_island_36 rfl rfl ?_
          refine g_inv1 hR dX3_island_37 zm_3_96 (by decide) zN_X2_islandAt ((wk_2 _) _) zO_X2_islandAt (Nat.le_of_ble_eq_true rfl) ?_
          refine c_X2_islandAt isW2 hn hn5 hpl hp1 (fun r hr => ?_)
          have hrr := isAt_rg hr hn5
          show R 40 _ (.int _ :: _) _
          refine g_iconst hR dX3_island_40 ?_
          refine g_icmp_eq hR (tgt := 47) dX3_island_41 (by decide) (fun c41 => ?_) (fun c41 => ?_)
          · rw [c41] at hr
            refine z_aload_n hR dX3_island_47 rfl rfl ?_
            refine g_get hR dX3_island_48 zf_3_33 (wk_0 _) rfl ?_
            refine g_get hR dX3_island_51 zf_3_105 (wk_2 _) (gi hn) ?_
            refine g_iconst hR dX3_island_54 ?_
            refine g_icmp_lt hR (tgt := 61) dX3_island_55 (by decide) (fun c55 => ?_) (fun c55 => ?_)
            · refine z_aload_n hR dX3_island_61 rfl rfl ?_
              refine g_get hR dX3_island_62 zf_3_33 (wk_0 _) rfl ?_
              refine z_iload_n hR dX3_island_65 rfl rfl ?_
              refine z_iload_n hR dX3_island_66 rfl rfl ?_
              refine z_iload_n hR dX3_island_67 rfl rfl ?_
              refine g_inv3 hR dX3_island_68 zm_3_108 (by decide) zN_X2_add ((wk_2 _) _) zO_X2_add (Nat.le_of_ble_eq_true rfl) ?_
              refine c_X2_add hn (by omega) ?_
              show R 71 _ (.int _ :: _) _
              refine g_iret hR dX3_island_71 rfl ?_
              exact h5 (by omega) c26 hr (by omega)
            · refine g_bipush hR dX3_island_58 ?_
              refine g_iret hR dX3_island_60 rfl ?_
              exact h4 (by omega) c26 hr (by omega)
          · refine g_bipush hR dX3_island_44 ?_
            refine g_iret hR dX3_island_46 rfl ?_
            exact h3 (by omega) c26 r hr c41
        · have c26 := of_decide_eq_false c26
          refine g_bipush hR dX3_island_29 ?_
          refine g_iret hR dX3_island_31 rfl ?_
          exact h2 (by omega) c26
      · refine g_bipush hR dX3_island_18 ?_
        refine g_iret hR dX3_island_20 rfl ?_
        exact h1 (by omega)
theorem c_X4_island {zs : zzT} {d : Nat} {Q : zzQ} {g : Nat → Nat → Int} {hh : Int64} (hs : g 39 2 = 0 ∨ g 39 2 = 1) {n : Nat} (hn : g 39 8 = (n : Int)) (hn5 : n ≤ 5) (hpl : ∀ j, j < n → 0 ≤ g 42 (4 * j + 2) ∧ g 42 (4 * j + 2) < 12) {kd sz pl : Int} (hk1 : rg kd) (hs1 : rg sz) (hp1 : rg pl) (h1 : ¬ ((0 ≤ kd ∧ kd ≤ 4) ∧ (1 ≤ sz ∧ sz ≤ 9)) → Q [.int (iI (-102))] (wof g hh)) (h2 : (0 ≤ kd ∧ kd ≤ 4) ∧ (1 ≤ sz ∧ sz ≤ 9) → ¬ (g 39 2 = 1 ∧ 0 ≤ pl ∧ pl < 12) → Q [.int (iI (-101))] (wof g hh)) (h3 : (0 ≤ kd ∧ kd ≤ 4) ∧ (1 ≤ sz ∧ sz ≤ 9) → g 39 2 = 1 ∧ 0 ≤ pl ∧ pl < 12 → ∀ r, isAt (fun j => g 42 (4 * j + 2)) n pl r → r ≠ -1 → Q [.int (iI (-103))] (wof g hh)) (h4 : (0 ≤ kd ∧ kd ≤ 4) ∧ (1 ≤ sz ∧ sz ≤ 9) → g 39 2 = 1 ∧ 0 ≤ pl ∧ pl < 12 → isAt (fun j => g 42 (4 * j + 2)) n pl (-1) → n = 5 → Q [.int (iI (-104))] (wof g hh)) (h5 : (0 ≤ kd ∧ kd ≤ 4) ∧ (1 ≤ sz ∧ sz ≤ 9) → g 39 2 = 1 ∧ 0 ≤ pl ∧ pl < 12 → isAt (fun j => g 42 (4 * j + 2)) n pl (-1) → n < 5 → Q [.int (iI (n : Int))] (wof (gr (gr g 42 (iu (iu (iu (iu (g 42) (4 * n) kd) (4 * n + 1) sz) (4 * n + 2) pl) (4 * n + 3) 0)) 39 (iu (g 39) 8 ((n : Int) + 1))) hh)) : zzCL zs (d + 2) 86 [.ref 39, .int (iI kd), .int (iI sz), .int (iI pl)] (wof g hh) Q := by
  refine st_X4_island (Nat.le_of_ble_eq_true rfl) (fun R hR => ?_)
  show R 0 [(0, .ref 39), (1, .int (iI kd)), (2, .int (iI sz)), (3, .int (iI pl))] [] _
  refine z_iload_n hR dX4_island_0 rfl rfl ?_
  refine g_i2l hR dX4_island_1 ?_
  refine z_lconst hR (v := lI 0) dX4_island_2 (by decide) ?_
  refine z_ldc2 hR dX4_island_3 zk_4_103 ?_
  rw [show (4 : Int64) = lI (4) from by decide]
  refine g_sta3 hR dX4_island_6 zm_4_52 zN_X4_in (Nat.le_of_ble_eq_true rfl) ?_
  refine c_X4_in (by first | assumption | (unfold rg; omega)) (by unfold rg; omega) (by unfold rg; omega) ?_
  show R 9 _ (.int _ :: _) _
  refine g_if_eqb hR (tgt := 24) dX4_island_9 (by decide) (fun c9 => ?_) (fun c9 => ?_)
  · have c9 := of_decide_eq_false c9
    refine g_bipush hR dX4_island_24 ?_
    refine g_iret hR dX4_island_26 rfl ?_
    exact h1 (by omega)
  · have c9 := of_decide_eq_true c9
    refine z_iload_n hR dX4_island_12 rfl rfl ?_
    refine g_i2l hR dX4_island_13 ?_
    refine z_lconst hR (v := lI 1) dX4_island_14 (by decide) ?_
    refine z_ldc2 hR dX4_island_15 zk_4_105 ?_
    rw [show (9 : Int64) = lI (9) from by decide]
    refine g_sta3 hR dX4_island_18 zm_4_52 zN_X4_in (Nat.le_of_ble_eq_true rfl) ?_
    refine c_X4_in (by first | assumption | (unfold rg; omega)) (by unfold rg; omega) (by unfold rg; omega) ?_
    show R 21 _ (.int _ :: _) _
    refine g_if_neb hR (tgt := 27) dX4_island_21 (by decide) (fun c21 => ?_) (fun c21 => ?_)
    · have c21 := of_decide_eq_true c21
      refine z_aload_n hR dX4_island_27 rfl rfl ?_
      refine g_get hR dX4_island_28 zf_4_63 (wk_39 _) rfl ?_
      refine g_if_eq hR (tgt := 46) dX4_island_31 (by decide) (fun c31 => ?_) (fun c31 => ?_)
      · refine g_bipush hR dX4_island_46 ?_
        refine g_iret hR dX4_island_48 rfl ?_
        exact h2 (by omega) (by omega)
      · refine z_iload_n hR dX4_island_34 rfl rfl ?_
        refine g_i2l hR dX4_island_35 ?_
        refine z_lconst hR (v := lI 0) dX4_island_36 (by decide) ?_
        refine z_ldc2 hR dX4_island_37 zk_4_95 ?_
        rw [show (11 : Int64) = lI (11) from by decide]
        refine g_sta3 hR dX4_island_40 zm_4_52 zN_X4_in (Nat.le_of_ble_eq_true rfl) ?_
        refine c_X4_in (by first | assumption | (unfold rg; omega)) (by unfold rg; omega) (by unfold rg; omega) ?_
        show R 43 _ (.int _ :: _) _
        refine g_if_neb hR (tgt := 49) dX4_island_43 (by decide) (fun c43 => ?_) (fun c43 => ?_)
        · have c43 := of_decide_eq_true c43
          refine z_aload_n hR dX4_island_49 rfl rfl ?_
          refine z_iload_n hR dX4_island_50 rfl rfl ?_
          refine g_inv1 hR dX4_island_51 zm_4_97 (by decide) zN_X4_whoIsAt ((wk_39 _) _) zO_X4_whoIsAt (Nat.le_of_ble_eq_true rfl) ?_
          refine c_X4_whoIsAt hn hn5 hpl hp1 (fun r hr => ?_)
          have hrr := isAt_rg hr hn5
          show R 54 _ (.int _ :: _) _
          refine g_iconst hR dX4_island_54 ?_
          refine g_icmp_eq hR (tgt := 61) dX4_island_55 (by decide) (fun c55 => ?_) (fun c55 => ?_)
          · rw [c55] at hr
            refine z_aload_n hR dX4_island_61 rfl rfl ?_
            refine g_get hR dX4_island_62 zf_4_76 (wk_39 _) (gi hn) ?_
            refine g_iconst hR dX4_island_65 ?_
            refine g_icmp_ne hR (tgt := 72) dX4_island_66 (by decide) (fun c66 => ?_) (fun c66 => ?_)
            · refine z_aload_n hR dX4_island_72 rfl rfl ?_
              refine g_get hR dX4_island_73 zf_4_16 (wk_39 _) rfl ?_
              refine g_iconst hR dX4_island_76 ?_
              refine z_aload_n hR dX4_island_77 rfl rfl ?_
              refine g_get hR dX4_island_78 zf_4_76 (wk_39 _) (gi hn) ?_
              refine g_imul hR dX4_island_81 (nmul 4 n) ?_
              refine z_iload_n hR dX4_island_82 rfl rfl ?_
              refine g_iastN hR dX4_island_83 (wk_42 _) ?_
              refine z_aload_n hR dX4_island_84 rfl rfl ?_
              refine g_get hR dX4_island_85 zf_4_16 (wk_39 _) rfl ?_
              refine g_iconst hR dX4_island_88 ?_
              refine z_aload_n hR dX4_island_89 rfl rfl ?_
              refine g_get hR dX4_island_90 zf_4_76 (wk_39 _) (gi (show gr g 42 _ 39 8 = (n : Int) from hn)) ?_
              refine g_imul hR dX4_island_93 (nmul 4 n) ?_
              refine g_iconst hR dX4_island_94 ?_
              refine g_iadd hR dX4_island_95 (nadd (4 * n) 1) ?_
              refine z_iload_n hR dX4_island_96 rfl rfl ?_
              refine g_iastN hR dX4_island_97 (wk_42 _) ?_
              simp only [gr_gr, gr_s]
              refine z_aload_n hR dX4_island_98 rfl rfl ?_
              refine g_get hR dX4_island_99 zf_4_16 (wk_39 _) rfl ?_
              refine g_iconst hR dX4_island_102 ?_
              refine z_aload_n hR dX4_island_103 rfl rfl ?_
              refine g_get hR dX4_island_104 zf_4_76 (wk_39 _) (gi (show gr g 42 _ 39 8 = (n : Int) from hn)) ?_
              refine g_imul hR dX4_island_107 (nmul 4 n) ?_
              refine g_iconst hR dX4_island_108 ?_
              refine g_iadd hR dX4_island_109 (nadd (4 * n) 2) ?_
              refine z_iload_n hR dX4_island_110 rfl rfl ?_
              refine g_iastN hR dX4_island_111 (wk_42 _) ?_
              simp only [gr_gr, gr_s]
              refine z_aload_n hR dX4_island_112 rfl rfl ?_
              refine g_get hR dX4_island_113 zf_4_16 (wk_39 _) rfl ?_
              refine g_iconst hR dX4_island_116 ?_
              refine z_aload_n hR dX4_island_117 rfl rfl ?_
              refine g_get hR dX4_island_118 zf_4_76 (wk_39 _) (gi (show gr g 42 _ 39 8 = (n : Int) from hn)) ?_
              refine g_imul hR dX4_island_121 (nmul 4 n) ?_
              refine g_iconst hR dX4_island_122 ?_
              refine g_iadd hR dX4_island_123 (nadd (4 * n) 3) ?_
              refine g_iconst hR dX4_island_124 ?_
              refine g_iastN hR dX4_island_125 (wk_42 _) ?_
              simp only [gr_gr, gr_s]
              refine z_aload_n hR dX4_island_126 rfl rfl ?_
              refine z_dup hR dX4_island_127 rfl ?_
              refine g_get hR dX4_island_128 zf_4_76 (wk_39 _) (gi (show gr g 42 _ 39 8 = (n : Int) from hn)) ?_
              refine g_iconst hR dX4_island_131 ?_
              refine g_iadd hR dX4_island_132 rfl ?_
              refine g_put hR dX4_island_133 zf_4_76 (wk_39 _) (Nat.le_of_ble_eq_true rfl) rfl rfl rfl rfl ?_
              refine z_aload_n hR dX4_island_136 rfl rfl ?_
              refine g_get hR dX4_island_137 zf_4_76 (wk_39 _) (gi (show (gr (gr g 42 (iu (iu (iu (iu (g 42) (4 * n) kd) (4 * n + 1) sz) (4 * n + 2) pl) (4 * n + 3) 0)) 39 (iu (g 39) 8 ((n : Int) + 1))) 39 8 = (n : Int) + 1 from rfl)) ?_
              refine g_iconst hR dX4_island_140 ?_
              refine g_isub hR dX4_island_141 (show (n : Int) + 1 - 1 = (n : Int) by omega) ?_
              refine g_iret hR dX4_island_142 rfl ?_
              exact h5 (by omega) (by omega) hr (by omega)
            · refine g_bipush hR dX4_island_69 ?_
              refine g_iret hR dX4_island_71 rfl ?_
              exact h4 (by omega) (by omega) hr (by omega)
          · refine g_bipush hR dX4_island_58 ?_
            refine g_iret hR dX4_island_60 rfl ?_
            exact h3 (by omega) (by omega) r hr c55
        · have c43 := of_decide_eq_false c43
          refine g_bipush hR dX4_island_46 ?_
          refine g_iret hR dX4_island_48 rfl ?_
          exact h2 (by omega) (by omega)
    · have c21 := of_decide_eq_false c21
      refine g_bipush hR dX4_island_24 ?_
      refine g_iret hR dX4_island_26 rfl ?_
      exact h1 (by omega)
theorem rnd_new {ea eb : Nat → Nat} {n : Nat} : ∀ {m : Nat}, (∀ r, r < m → ea r < n ∧ eb r < n) → rnd ea eb lfa m (2 ^ n) = 2 ^ n
  | 0, _ => rfl
  | m + 1, h => by
    have hm := h m (by omega)
    rw [rnd, rnd_new (fun r hr => h r (by omega))]
    rw [if_neg]
    rintro ⟨-, q⟩
    apply q
    apply Nat.eq_of_testBit_eq
    intro i
    rw [Nat.testBit_and, Nat.testBit_or, Nat.testBit_two_pow, Nat.testBit_two_pow, Nat.testBit_two_pow, Nat.zero_testBit]
    by_cases e : n = i
    · subst e
      have h1 : ¬ ea m = n := by omega
      have h2 : ¬ eb m = n := by omega
      simp [h1, h2]
    · simp [e]
theorem pby_new {ea eb : Nat → Nat} {n m : Nat} (h : ∀ r, r < m → ea r < n ∧ eb r < n) : pby ea eb lfa m n = 2 ^ n := by
  unfold pby
  simp only [itn, rnd_new h]
theorem bor_congr {f f1 : Nat → Nat} {c c1 : Nat → Bool} : ∀ {n : Nat}, (∀ j, j < n → f j = f1 j ∧ c j = c1 j) → bor f c n = bor f1 c1 n
  | 0, _ => rfl
  | n + 1, h => by rw [bor, bor, (h n (by omega)).1, (h n (by omega)).2, bor_congr (fun j hj => h j (by omega))]
/-- an island comes -/
theorem SS_new {n m an c : Nat} {rp ea eb : Nat → Nat} {o kdf szf plf rpI ptI : FI} {is rm wi da bu : Int} {rows ropes : FI} (h : SS n m an rp ea eb o kdf szf plf rpI ptI is rm wi da bu rows ropes c) {kd sz pl : Int} (hn : n < 5) (hk : 0 ≤ kd ∧ kd ≤ 4) (hs : 1 ≤ sz ∧ sz ≤ 9) (hp : 0 ≤ pl ∧ pl < 12) (hno : ∀ j, j < n → plf j ≠ pl) : SS (n + 1) m an (fun j => if j = n then 0 else rp j) ea eb (iu o 6 ((n : Int) + 1)) (iu kdf n kd) (iu szf n sz) (iu plf n pl) (iu rpI n 0) (iu ptI n ((2 ^ n : Nat) : Int)) ((n : Int) + 1) rm wi da bu (iu (iu (iu (iu rows (4 * n) kd) (4 * n + 1) sz) (4 * n + 2) pl) (4 * n + 3) 0) ropes (c + 1) := by
  obtain ⟨h1, h2, h3, h4, h5, h6, h7, h8, h9, h10, h11⟩ := h
  obtain ⟨b1, b2, b3, b4, b5, b6⟩ := h11
  have rold : ∀ (j k : Nat), j < n → k < 4 → (iu (iu (iu (iu rows (4 * n) kd) (4 * n + 1) sz) (4 * n + 2) pl) (4 * n + 3) 0) (4 * j + k) = rows (4 * j + k) := by
    intro j k hj hk4
    rw [iu_n _ _ (by omega), iu_n _ _ (by omega), iu_n _ _ (by omega), iu_n _ _ (by omega)]
  have rn0 : (iu (iu (iu (iu rows (4 * n) kd) (4 * n + 1) sz) (4 * n + 2) pl) (4 * n + 3) 0) (4 * n) = kd := by
    rw [iu_n _ _ (by omega), iu_n _ _ (by omega), iu_n _ _ (by omega), iu_s]
  have rn1 : (iu (iu (iu (iu rows (4 * n) kd) (4 * n + 1) sz) (4 * n + 2) pl) (4 * n + 3) 0) (4 * n + 1) = sz := by
    rw [iu_n _ _ (by omega), iu_n _ _ (by omega), iu_s]
  have rn2 : (iu (iu (iu (iu rows (4 * n) kd) (4 * n + 1) sz) (4 * n + 2) pl) (4 * n + 3) 0) (4 * n + 2) = pl := by
    rw [iu_n _ _ (by omega), iu_s]
  have rn3 : (iu (iu (iu (iu rows (4 * n) kd) (4 * n + 1) sz) (4 * n + 2) pl) (4 * n + 3) 0) (4 * n + 3) = 0 := iu_s _ _ _
  refine ⟨⟨by rw [iu_s]; omega, by omega⟩, ⟨by rw [iu_n _ _ (by omega)]; exact h2.1, h2.2⟩, ⟨by rw [iu_n _ _ (by omega)]; exact h3.1, ?_⟩, ⟨by rw [iu_n _ _ (by omega)]; exact h4.1, h4.2⟩, ⟨by rw [iu_n _ _ (by omega)]; exact h5.1, h5.2.1, by have := h5.2.2; omega⟩, by rw [iu_n _ _ (by omega)]; exact h6, fun j hj => ?_, fun i j hi hj e => ?_, fun j hj => ?_, h10, ⟨b1, by omega, fun r hr => ?_, b4, fun i hi => ?_, fun i j hi hj => ?_⟩⟩
  · rw [h3.2]
    unfold anbF
    rw [bor]
    rw [if_neg (by rw [rn3]; decide)]
    exact bor_congr (fun j hj => ⟨rfl, by rw [rold j 3 hj (by omega)]⟩)
  · rcases Nat.lt_or_eq_of_le (Nat.le_of_lt_succ hj) with q | q
    · have e0 := rold j 0 q (by omega)
      rw [show 4 * j + 0 = 4 * j from rfl] at e0
      rw [show iu kdf n kd j = kdf j from iu_n _ _ (by omega), show iu szf n sz j = szf j from iu_n _ _ (by omega), show iu plf n pl j = plf j from iu_n _ _ (by omega), e0, rold j 1 q (by omega), rold j 2 q (by omega), rold j 3 q (by omega)]
      exact h7 j q
    · subst q
      rw [iu_s, iu_s, iu_s, rn0, rn1, rn2, rn3]
      exact ⟨⟨rfl, hk⟩, ⟨rfl, hs⟩, ⟨rfl, hp⟩, Or.inl rfl⟩
  · rcases Nat.lt_or_eq_of_le (Nat.le_of_lt_succ hi) with q | q <;> rcases Nat.lt_or_eq_of_le (Nat.le_of_lt_succ hj) with q1 | q1
    · rw [show iu plf n pl i = plf i from iu_n _ _ (by omega), show iu plf n pl j = plf j from iu_n _ _ (by omega)] at e
      exact h8 i j q q1 e
    · rw [q1, show iu plf n pl i = plf i from iu_n _ _ (by omega), iu_s] at e
      exact absurd e (hno i q)
    · rw [q, show iu plf n pl j = plf j from iu_n _ _ (by omega), iu_s] at e
      exact absurd e.symm (hno j q1)
    · omega
  · show iu rpI n 0 j = (((if j = n then 0 else rp j) : Nat) : Int) ∧ iu ptI n ((2 ^ n : Nat) : Int) j = ((pby ea eb lfa m j : Nat) : Int)
    rcases Nat.lt_or_eq_of_le (Nat.le_of_lt_succ hj) with q | q
    · rw [show iu rpI n 0 j = rpI j from iu_n _ _ (by omega), show iu ptI n ((2 ^ n : Nat) : Int) j = ptI j from iu_n _ _ (by omega), if_neg (by omega)]
      exact h9 j q
    · rw [q, iu_s, iu_s, if_pos rfl, pby_new (fun r hr => ⟨(b3 r hr).1, (b3 r hr).2.1⟩)]
      exact ⟨rfl, rfl⟩
  · have := b3 r hr
    exact ⟨by omega, by omega, this.2.2⟩
  · dsimp only
    split
    · exact Nat.two_pow_pos _
    · have := b5 i (by omega)
      have h2p : 2 ^ n ≤ 2 ^ (n + 1) := Nat.pow_le_pow_right (by decide) (by omega)
      omega
  · dsimp only
    by_cases e1 : i = n
    · rw [if_pos e1]
      simp only [Nat.zero_testBit, Bool.false_eq_true, false_iff]
      rintro ⟨r, hr, q⟩
      have := b3 r hr
      omega
    · rw [if_neg e1]
      by_cases e2 : j = n
      · constructor
        · intro q
          have := bit_lt (b5 i (by omega)) q
          omega
        · rintro ⟨r, hr, q⟩
          have := b3 r hr
          omega
      · exact b6 i j (by omega) (by omega)
theorem HH_new {n sn : Nat} {snI msn : Int} {one oth whn wre sh : FI} (h : HH n sn snI msn one oth whn wre sh) : HH (n + 1) sn snI msn one oth whn wre sh := by
  obtain ⟨a, b, d, e⟩ := h
  refine ⟨a, b, d, fun k hk => ?_⟩
  obtain ⟨e1, e2, e3, e4, e5, e6⟩ := e k hk
  exact ⟨e1, e2, by omega, by omega, e5, e6⟩
theorem op_island {zs : zzT} {c : Nat} {g : Nat → Nat → Int} {hh : Int64} (hz : zsok zs) (h : Rel c g) (hc : c < 512) {kd sz pl : Int} (hk1 : rg kd) (hz1 : rg sz) (hp1 : rg pl) : opOK zs 12 86 [.ref 0, .int (iI kd), .int (iI sz), .int (iI pl)] [.ref 39, .int (iI kd), .int (iI sz), .int (iI pl)] c g hh := by
  obtain ⟨hc0, hpage, hnum, hcur, ⟨n, m, an, sn, rp, ea, eb, hS, hH⟩, himg⟩ := id h
  have hk := SS_WK hc0 hcur hS
  have hp := SS_MP hc0 hcur hS
  have hs1 : g 0 2 = 0 ∨ g 0 2 = 1 := by rw [hnum.1.1]; exact hnum.1.2
  have e02 := hnum.1.1
  by_cases hA : (0 ≤ kd ∧ kd ≤ 4) ∧ (1 ≤ sz ∧ sz ≤ 9)
  · by_cases hB : g 0 2 = 1 ∧ 0 ≤ pl ∧ pl < 12
    · have hB2 : g 39 2 = 1 ∧ 0 ≤ pl ∧ pl < 12 := e02 ▸ hB
      obtain ⟨r, hr⟩ := isAt_ex (g 6) n pl
      have hun : ∀ r1, isAt (g 6) n pl r1 → r1 = r := fun r1 h1 => isAt_un (fun _ _ => rfl) hS.2.2.2.2.2.2.2.1 hr h1
      have hun2 : ∀ r1, isAt (fun j => g 42 (4 * j + 2)) n pl r1 → r1 = r := fun r1 h1 => isAt_un (fun j hj => (hS.2.2.2.2.2.2.1 j hj).2.2.1.1) hS.2.2.2.2.2.2.2.1 hr h1
      by_cases hC : r = -1
      · by_cases hD : n = 5
        · exact op_id (r := -104) (by unfold rg; omega) h hc (fun Q q => c_X3_island hs1 hk.1.1 hk.1.2.1 hk.2.1 hk1 hz1 hp1 (fun x => absurd hA x) (fun _ x => absurd hB x) (fun _ _ r1 h1 x => absurd ((hun r1 h1).trans hC) x) (fun _ _ _ _ => q) (fun _ _ _ x => by omega)) (fun Q q => c_X4_island hnum.1.2 hp.1 hp.2.1 hp.2.2.2.2.2.1 hk1 hz1 hp1 (fun x => absurd hA x) (fun _ x => absurd hB2 x) (fun _ _ r1 h1 x => absurd ((hun2 r1 h1).trans hC) x) (fun _ _ _ _ => q) (fun _ _ _ x => by omega))
        · refine op_ex (r := (n : Int)) (by have := hk.1.2.1; unfold rg; omega) ?_ (fun Q q => c_X3_island hs1 hk.1.1 hk.1.2.1 hk.2.1 hk1 hz1 hp1 (fun x => absurd hA x) (fun _ x => absurd hB x) (fun _ _ r1 h1 x => absurd ((hun r1 h1).trans hC) x) (fun _ _ _ x => absurd x hD) (fun _ _ _ _ => q)) (fun Q q => c_X4_island (g := gr (gr (gr (gr (gr (gr g 4 (iu (g 4) n kd)) 5 (iu (g 5) n sz)) 6 (iu (g 6) n pl)) 7 (iu (g 7) n 0)) 8 (iu (g 8) n ((2 ^ n : Nat) : Int))) 2 (iu (g 2) 6 ((n : Int) + 1))) hnum.1.2 hp.1 hp.2.1 hp.2.2.2.2.2.1 hk1 hz1 hp1 (fun x => absurd hA x) (fun _ x => absurd hB2 x) (fun _ _ r1 h1 x => absurd ((hun2 r1 h1).trans hC) x) (fun _ _ _ x => absurd x hD) (fun _ _ _ _ => q))
          have hs := Rel_step h hc
          have hn4 : n < 5 := by have := hk.1.2.1; omega
          have hno : ∀ j, j < n → g 6 j ≠ pl := by rcases hr with ⟨j, a, b, e⟩ | ⟨a, e⟩; (· omega); (· exact a)
          exact ⟨hs.1, hs.2.1, hs.2.2.1, hs.2.2.2.1, ⟨n + 1, m, an, sn, _, ea, eb, SS_new hS hn4 hA.1 hA.2 hB.2 hno, HH_new hH⟩, hs.2.2.2.2.2⟩
      · exact op_id (r := -103) (by unfold rg; omega) h hc (fun Q q => c_X3_island hs1 hk.1.1 hk.1.2.1 hk.2.1 hk1 hz1 hp1 (fun x => absurd hA x) (fun _ x => absurd hB x) (fun _ _ _ _ _ => q) (fun _ _ x => absurd (hun _ x).symm hC) (fun _ _ x => absurd (hun _ x).symm hC)) (fun Q q => c_X4_island hnum.1.2 hp.1 hp.2.1 hp.2.2.2.2.2.1 hk1 hz1 hp1 (fun x => absurd hA x) (fun _ x => absurd hB2 x) (fun _ _ _ _ _ => q) (fun _ _ x => absurd (hun2 _ x).symm hC) (fun _ _ x => absurd (hun2 _ x).symm hC))
    · exact op_id (r := -101) (by unfold rg; omega) h hc (fun Q q => c_X3_island hs1 hk.1.1 hk.1.2.1 hk.2.1 hk1 hz1 hp1 (fun x => absurd hA x) (fun _ _ => q) (fun _ x => absurd x hB) (fun _ x => absurd x hB) (fun _ x => absurd x hB)) (fun Q q => c_X4_island hnum.1.2 hp.1 hp.2.1 hp.2.2.2.2.2.1 hk1 hz1 hp1 (fun x => absurd hA x) (fun _ _ => q) (fun _ x => absurd (e02.symm ▸ x) hB) (fun _ x => absurd (e02.symm ▸ x) hB) (fun _ x => absurd (e02.symm ▸ x) hB))
  · exact op_id (r := -102) (by unfold rg; omega) h hc (fun Q q => c_X3_island hs1 hk.1.1 hk.1.2.1 hk.2.1 hk1 hz1 hp1 (fun _ => q) (fun x => absurd x hA) (fun x => absurd x hA) (fun x => absurd x hA) (fun x => absurd x hA)) (fun Q q => c_X4_island hnum.1.2 hp.1 hp.2.1 hp.2.2.2.2.2.1 hk1 hz1 hp1 (fun _ => q) (fun x => absurd x hA) (fun x => absurd x hA) (fun x => absurd x hA) (fun x => absurd x hA))
