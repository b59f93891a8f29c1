theorem c_X3_isIsland {zs : zzT} {d : Nat} {Q : zzQ} {g : Nat → Nat → Int} {hh : Int64} {n : Nat} (hn : g 2 6 = (n : Int)) (hn5 : n ≤ 5) {z : Int} (hz : rg z) (hQ : Q [.int (iI (b2i (decide (0 ≤ z ∧ z < (n : Int)))))] (wof g hh)) : zzCL zs (d + 1) 16 [.ref 0, .int (iI z)] (wof g hh) Q := by
  refine st_X3_isIsland (Nat.le_of_ble_eq_true rfl) (fun R hR => ?_)
  show R 0 [(0, .ref 0), (1, .int (iI z))] [] _
  refine z_iload_n hR dX3_isIsland_0 rfl rfl ?_
  refine g_if_lt hR (tgt := 19) dX3_isIsland_1 (by decide) (fun c1 => ?_) (fun c1 => ?_)
  · refine g_iconst hR dX3_isIsland_19 ?_
    refine g_zret (b := false) hR dX3_isIsland_20 rfl ?_
    refine qz hQ ?_
    simp only [eq_comm (a := true), eq_comm (a := false), decide_eq_true_eq, decide_eq_false_iff_not]
    omega
  · refine z_iload_n hR dX3_isIsland_4 rfl rfl ?_
    refine z_aload_n hR dX3_isIsland_5 rfl rfl ?_
    refine g_get hR dX3_isIsland_6 zf_3_33 (wk_0 _) (show _ = some (Value.ref 2) from rfl) ?_
    refine g_get hR dX3_isIsland_9 zf_3_105 (wk_2 _) (gi hn) ?_
    refine g_icmp_ge hR (tgt := 19) dX3_isIsland_12 (by decide) (fun c12 => ?_) (fun c12 => ?_)
    · refine g_iconst hR dX3_isIsland_19 ?_
      refine g_zret (b := false) hR dX3_isIsland_20 rfl ?_
      refine qz hQ ?_
      simp only [eq_comm (a := true), eq_comm (a := false), decide_eq_true_eq, decide_eq_false_iff_not]
      omega
    · refine g_iconst hR dX3_isIsland_15 ?_
      refine z_goto hR (tgt := 20) dX3_isIsland_16 (by decide) ?_
      refine g_zret (b := true) hR dX3_isIsland_20 rfl ?_
      refine qz hQ ?_
      simp only [eq_comm (a := true), eq_comm (a := false), decide_eq_true_eq, decide_eq_false_iff_not]
      omega
theorem c_X4_isIsland {zs : zzT} {d : Nat} {Q : zzQ} {g : Nat → Nat → Int} {hh : Int64} {n : Nat} (hn : g 39 8 = (n : Int)) (hn5 : n ≤ 5) {z : Int} (hz : rg z) (hQ : Q [.int (iI (b2i (decide (0 ≤ z ∧ z < (n : Int)))))] (wof g hh)) : zzCL zs (d + 2) 88 [.ref 39, .int (iI z)] (wof g hh) Q := by
  refine st_X4_isIsland (Nat.le_of_ble_eq_true rfl) (fun R hR => ?_)
  show R 0 [(0, .ref 39), (1, .int (iI z))] [] _
  refine z_iload_n hR dX4_isIsland_0 rfl rfl ?_
  refine g_i2l hR dX4_isIsland_1 ?_
  refine z_lconst hR (v := lI 0) dX4_isIsland_2 (by decide) ?_
  refine z_aload_n hR dX4_isIsland_3 rfl rfl ?_
  refine g_get hR dX4_isIsland_4 zf_4_76 (wk_39 _) (gi hn) ?_
  refine g_iconst hR dX4_isIsland_7 ?_
  refine g_isub hR dX4_isIsland_8 rfl ?_
  refine g_i2l hR dX4_isIsland_9 ?_
  refine g_sta3 hR dX4_isIsland_10 zm_4_52 zN_X4_in (Nat.le_of_ble_eq_true rfl) ?_
  refine c_X4_in hz (by unfold rg; omega) (by unfold rg; omega) ?_
  show R 13 _ (.int _ :: _) _
  refine g_zret hR dX4_isIsland_13 rfl ?_
  refine qz hQ ?_
  rw [decide_eq_decide]
  omega
theorem c_X3_areTwo {zs : zzT} {d : Nat} {Q : zzQ} {g : Nat → Nat → Int} {hh : Int64} {n : Nat} (hn : g 2 6 = (n : Int)) (hn5 : n ≤ 5) {x y : Int} (hx : rg x) (hy : rg y) (hQ : Q [.int (iI (b2i (decide ((0 ≤ x ∧ x < (n : Int)) ∧ (0 ≤ y ∧ y < (n : Int)) ∧ x ≠ y))))] (wof g hh)) : zzCL zs (d + 3) 25 [.ref 0, .int (iI x), .int (iI y)] (wof g hh) Q := by
  refine st_X3_areTwo (Nat.le_of_ble_eq_true rfl) (fun R hR => ?_)
  show R 0 [(0, .ref 0), (1, .int (iI x)), (2, .int (iI y))] [] _
  refine z_aload_n hR dX3_areTwo_0 rfl rfl ?_
  refine z_iload_n hR dX3_areTwo_1 rfl rfl ?_
  refine g_inv1 hR dX3_areTwo_2 zm_3_112 (by decide) zN_X3_isIsland ((wk_0 _) _) zO_X3_isIsland (Nat.le_of_ble_eq_true rfl) ?_
  refine c_X3_isIsland hn hn5 hx ?_
  show R 5 _ (.int _ :: _) _
  refine g_if_eqb hR (tgt := 25) dX3_areTwo_5 (by decide) (fun c5 => ?_) (fun c5 => ?_)
  · have c5 := of_decide_eq_false c5
    refine g_iconst hR dX3_areTwo_25 ?_
    refine g_zret (b := false) hR dX3_areTwo_26 rfl ?_
    refine qz hQ ?_
    simp only [eq_comm (a := true), eq_comm (a := false), decide_eq_true_eq, decide_eq_false_iff_not]
    omega
  · have c5 := of_decide_eq_true c5
    refine z_aload_n hR dX3_areTwo_8 rfl rfl ?_
    refine z_iload_n hR dX3_areTwo_9 rfl rfl ?_
    refine g_inv1 hR dX3_areTwo_10 zm_3_112 (by decide) zN_X3_isIsland ((wk_0 _) _) zO_X3_isIsland (Nat.le_of_ble_eq_true rfl) ?_
    refine c_X3_isIsland hn hn5 hy ?_
    show R 13 _ (.int _ :: _) _
    refine g_if_eqb hR (tgt := 25) dX3_areTwo_13 (by decide) (fun c13 => ?_) (fun c13 => ?_)
    · have c13 := of_decide_eq_false c13
      refine g_iconst hR dX3_areTwo_25 ?_
      refine g_zret (b := false) hR dX3_areTwo_26 rfl ?_
      refine qz hQ ?_
      simp only [eq_comm (a := true), eq_comm (a := false), decide_eq_true_eq, decide_eq_false_iff_not]
      omega
    · have c13 := of_decide_eq_true c13
      refine z_iload_n hR dX3_areTwo_16 rfl rfl ?_
      refine z_iload_n hR dX3_areTwo_17 rfl rfl ?_
      refine g_icmp_eq hR (tgt := 25) dX3_areTwo_18 (by decide) (fun c18 => ?_) (fun c18 => ?_)
      · refine g_iconst hR dX3_areTwo_25 ?_
        refine g_zret (b := false) hR dX3_areTwo_26 rfl ?_
        refine qz hQ ?_
        simp only [eq_comm (a := true), eq_comm (a := false), decide_eq_true_eq, decide_eq_false_iff_not]
        omega
      · refine g_iconst hR dX3_areTwo_21 ?_
        refine z_goto hR (tgt := 26) dX3_areTwo_22 (by decide) ?_
        refine g_zret (b := true) hR dX3_areTwo_26 rfl ?_
        refine qz hQ ?_
        simp only [eq_comm (a := true), eq_comm (a := false), decide_eq_true_eq, decide_eq_false_iff_not]
        omega
theorem c_X4_arePair {zs : zzT} {d : Nat} {Q : zzQ} {g : Nat → Nat → Int} {hh : Int64} {n : Nat} (hn : g 39 8 = (n : Int)) (hn5 : n ≤ 5) {x y : Int} (hx : rg x) (hy : rg y) (hQ : Q [.int (iI (b2i (decide ((0 ≤ x ∧ x < (n : Int)) ∧ (0 ≤ y ∧ y < (n : Int)) ∧ x ≠ y))))] (wof g hh)) : zzCL zs (d + 3) 101 [.ref 39, .int (iI x), .int (iI y)] (wof g hh) Q := by
  refine st_X4_arePair (Nat.le_of_ble_eq_true rfl) (fun R hR => ?_)
  show R 0 [(0, .ref 39), (1, .int (iI x)), (2, .int (iI y))] [] _
  refine z_aload_n hR dX4_arePair_0 rfl rfl ?_
  refine z_iload_n hR dX4_arePair_1 rfl rfl ?_
  refine g_inv1 hR dX4_arePair_2 zm_4_91 (by decide) zN_X4_isIsland ((wk_39 _) _) zO_X4_isIsland (Nat.le_of_ble_eq_true rfl) ?_
  refine c_X4_isIsland hn hn5 hx ?_
  show R 5 _ (.int _ :: _) _
  refine g_if_eqb hR (tgt := 25) dX4_arePair_5 (by decide) (fun c5 => ?_) (fun c5 => ?_)
  · have c5 := of_decide_eq_false c5
    refine g_iconst hR dX4_arePair_25 ?_
    refine g_zret (b := false) hR dX4_arePair_26 rfl ?_
    refine qz hQ ?_
    simp only [eq_comm (a := true), eq_comm (a := false), decide_eq_true_eq, decide_eq_false_iff_not]
    omega
  · have c5 := of_decide_eq_true c5
    refine z_aload_n hR dX4_arePair_8 rfl rfl ?_
    refine z_iload_n hR dX4_arePair_9 rfl rfl ?_
    refine g_inv1 hR dX4_arePair_10 zm_4_91 (by decide) zN_X4_isIsland ((wk_39 _) _) zO_X4_isIsland (Nat.le_of_ble_eq_true rfl) ?_
    refine c_X4_isIsland hn hn5 hy ?_
    show R 13 _ (.int _ :: _) _
    refine g_if_eqb hR (tgt := 25) dX4_arePair_13 (by decide) (fun c13 => ?_) (fun c13 => ?_)
    · have c13 := of_decide_eq_false c13
      refine g_iconst hR dX4_arePair_25 ?_
      refine g_zret (b := false) hR dX4_arePair_26 rfl ?_
      refine qz hQ ?_
      simp only [eq_comm (a := true), eq_comm (a := false), decide_eq_true_eq, decide_eq_false_iff_not]
      omega
    · have c13 := of_decide_eq_true c13
      refine z_iload_n hR dX4_arePair_16 rfl rfl ?_
      refine z_iload_n hR dX4_arePair_17 rfl rfl ?_
      refine g_icmp_eq hR (tgt := 25) dX4_arePair_18 (by decide) (fun c18 => ?_) (fun c18 => ?_)
      · refine g_iconst hR dX4_arePair_25 ?_
        refine g_zret (b := false) hR dX4_arePair_26 rfl ?_
        refine qz hQ ?_
        simp only [eq_comm (a := true), eq_comm (a := false), decide_eq_true_eq, decide_eq_false_iff_not]
        omega
      · refine g_iconst hR dX4_arePair_21 ?_
        refine z_goto hR (tgt := 26) dX4_arePair_22 (by decide) ?_
        refine g_zret (b := true) hR dX4_arePair_26 rfl ?_
        refine qz hQ ?_
        simp only [eq_comm (a := true), eq_comm (a := false), decide_eq_true_eq, decide_eq_false_iff_not]
        omega
def asv (k kd z : Int) : Int := if k = 0 ∨ k = kd ∨ (k = 2 ∧ kd = 4) then z else -1
theorem c_X3_as {zs : zzT} {d : Nat} {Q : zzQ} {g : Nat → Nat → Int} {hh : Int64} {n : Nat} (hn : g 2 6 = (n : Int)) (hn5 : n ≤ 5) (hkd : ∀ j, j < n → 0 ≤ g 4 j ∧ g 4 j ≤ 4) {z k : Int} (hz1 : rg z) (hk1 : rg k) (h1 : ¬ (0 ≤ z ∧ z < (n : Int)) → Q [.int (iI (-101))] (wof g hh)) (h2 : 0 ≤ z ∧ z < (n : Int) → ¬ (0 ≤ k ∧ k ≤ 4) → Q [.int (iI (-102))] (wof g hh)) (h3 : 0 ≤ z ∧ z < (n : Int) → 0 ≤ k ∧ k ≤ 4 → Q [.int (iI (asv k (g 4 z.toNat) z))] (wof g hh)) : zzCL zs (d + 3) 22 [.ref 0, .int (iI z), .int (iI k)] (wof g hh) Q := by
  refine st_X3_as (Nat.le_of_ble_eq_true rfl) (fun R hR => ?_)
  show R 0 [(0, .ref 0), (1, .int (iI z)), (2, .int (iI k))] [] _
  refine z_aload_n hR dX3_as_0 rfl rfl ?_
  refine z_iload_n hR dX3_as_1 rfl rfl ?_
  refine g_inv1 hR dX3_as_2 zm_3_112 (by decide) zN_X3_isIsland ((wk_0 _) _) zO_X3_isIsland (Nat.le_of_ble_eq_true rfl) ?_
  refine c_X3_isIsland hn hn5 hz1 ?_
  show R 5 _ (.int _ :: _) _
  refine g_if_neb hR (tgt := 11) dX3_as_5 (by decide) (fun c5 => ?_) (fun c5 => ?_)
  · have c5 := of_decide_eq_true c5
    obtain ⟨i, rfl⟩ := Int.eq_ofNat_of_zero_le c5.1
    have hki := hkd i (by omega)
    refine z_iload_n hR dX3_as_11 rfl rfl ?_
    refine g_sta1 hR dX3_as_12 zm_3_102 zN_X3_isKind (Nat.le_of_ble_eq_true rfl) ?_
    refine c_X3_isKind hk1 ?_
    show R 15 _ (.int _ :: _) _
    refine g_if_neb hR (tgt := 21) dX3_as_15 (by decide) (fun c15 => ?_) (fun c15 => ?_)
    · have c15 := of_decide_eq_true c15
      refine z_aload_n hR dX3_as_21 rfl rfl ?_
      refine g_get hR dX3_as_22 zf_3_33 (wk_0 _) (show _ = some (Value.ref 2) from rfl) ?_
      refine g_get hR dX3_as_25 zf_3_115 (wk_2 _) (show _ = some (Value.ref 4) from rfl) ?_
      refine z_iload_n hR dX3_as_28 rfl rfl ?_
      refine g_ialdN hR dX3_as_29 (wk_4 _) rfl ?_
      refine z_istore_n hR dX3_as_30 rfl (by decide) rfl ?_
      refine z_iload_n hR dX3_as_31 rfl rfl ?_
      refine g_if_eq hR (tgt := 50) dX3_as_32 (by decide) (fun c32 => ?_) (fun c32 => ?_)
      · refine g_iconst hR dX3_as_50 ?_
        refine z_goto hR (tgt := 55) dX3_as_51 (by decide) ?_
        refine z_istore hR dX3_as_55 (by decide) rfl ?_
        refine z_iload hR dX3_as_57 rfl ?_
        refine g_if_eq hR (tgt := 66) dX3_as_59 (by decide) (fun c59 => ?_) (fun c59 => ?_)
        · refine g_iconst hR dX3_as_66 ?_
          refine g_iret hR dX3_as_67 rfl ?_
          refine qi (h3 c5 c15) ?_
          simp only [asv, Int.toNat_natCast]
          split <;> omega
        · refine z_iload_n hR dX3_as_62 rfl rfl ?_
          refine z_goto hR (tgt := 67) dX3_as_63 (by decide) ?_
          refine g_iret hR dX3_as_67 rfl ?_
          refine qi (h3 c5 c15) ?_
          simp only [asv, Int.toNat_natCast]
          split <;> omega
      · refine z_iload_n hR dX3_as_35 rfl rfl ?_
        refine z_iload_n hR dX3_as_36 rfl rfl ?_
        refine g_icmp_eq hR (tgt := 50) dX3_as_37 (by decide) (fun c37 => ?_) (fun c37 => ?_)
        · refine g_iconst hR dX3_as_50 ?_
          refine z_goto hR (tgt := 55) dX3_as_51 (by decide) ?_
          refine z_istore hR dX3_as_55 (by decide) rfl ?_
          refine z_iload hR dX3_as_57 rfl ?_
          refine g_if_eq hR (tgt := 66) dX3_as_59 (by decide) (fun c59 => ?_) (fun c59 => ?_)
          · refine g_iconst hR dX3_as_66 ?_
            refine g_iret hR dX3_as_67 rfl ?_
            refine qi (h3 c5 c15) ?_
            simp only [asv, Int.toNat_natCast]
            split <;> omega
          · refine z_iload_n hR dX3_as_62 rfl rfl ?_
            refine z_goto hR (tgt := 67) dX3_as_63 (by decide) ?_
            refine g_iret hR dX3_as_67 rfl ?_
            refine qi (h3 c5 c15) ?_
            simp only [asv, Int.toNat_natCast]
            split <;> omega
        · refine z_iload_n hR dX3_as_40 rfl rfl ?_
          refine g_iconst hR dX3_as_41 ?_
          refine g_icmp_ne hR (tgt := 54) dX3_as_42 (by decide) (fun c42 => ?_) (fun c42 => ?_)
          · refine g_iconst hR dX3_as_54 ?_
            refine z_istore hR dX3_as_55 (by decide) rfl ?_
            refine z_iload hR dX3_as_57 rfl ?_
            refine g_if_eq hR (tgt := 66) dX3_as_59 (by decide) (fun c59 => ?_) (fun c59 => ?_)
            · refine g_iconst hR dX3_as_66 ?_
              refine g_iret hR dX3_as_67 rfl ?_
              refine qi (h3 c5 c15) ?_
              simp only [asv, Int.toNat_natCast]
              split <;> omega
            · refine z_iload_n hR dX3_as_62 rfl rfl ?_
              refine z_goto hR (tgt := 67) dX3_as_63 (by decide) ?_
              refine g_iret hR dX3_as_67 rfl ?_
              refine qi (h3 c5 c15) ?_
              simp only [asv, Int.toNat_natCast]
              split <;> omega
          · refine z_iload_n hR dX3_as_45 rfl rfl ?_
            refine g_iconst hR dX3_as_46 ?_
            refine g_icmp_ne hR (tgt := 54) dX3_as_47 (by decide) (fun c47 => ?_) (fun c47 => ?_)
            · refine g_iconst hR dX3_as_54 ?_
              refine z_istore hR dX3_as_55 (by decide) rfl ?_
              refine z_iload hR dX3_as_57 rfl ?_
              refine g_if_eq hR (tgt := 66) dX3_as_59 (by decide) (fun c59 => ?_) (fun c59 => ?_)
              · refine g_iconst hR dX3_as_66 ?_
                refine g_iret hR dX3_as_67 rfl ?_
                refine qi (h3 c5 c15) ?_
                simp only [asv, Int.toNat_natCast]
                split <;> omega
              · refine z_iload_n hR dX3_as_62 rfl rfl ?_
                refine z_goto hR (tgt := 67) dX3_as_63 (by decide) ?_
                refine g_iret hR dX3_as_67 rfl ?_
                refine qi (h3 c5 c15) ?_
                simp only [asv, Int.toNat_natCast]
                split <;> omega
            · refine g_iconst hR dX3_as_50 ?_
              refine z_goto hR (tgt := 55) dX3_as_51 (by decide) ?_
              refine z_istore hR dX3_as_55 (by decide) rfl ?_
              refine z_iload hR dX3_as_57 rfl ?_
              refine g_if_eq hR (tgt := 66) dX3_as_59 (by decide) (fun c59 => ?_) (fun c59 => ?_)
              · refine g_iconst hR dX3_as_66 ?_
                refine g_iret hR dX3_as_67 rfl ?_
                refine qi (h3 c5 c15) ?_
                simp only [asv, Int.toNat_natCast]
                split <;> omega
              · refine z_iload_n hR dX3_as_62 rfl rfl ?_
                refine z_goto hR (tgt := 67) dX3_as_63 (by decide) ?_
                refine g_iret hR dX3_as_67 rfl ?_
                refine qi (h3 c5 c15) ?_
                simp only [asv, Int.toNat_natCast]
                split <;> omega
    · have c15 := of_decide_eq_false c15
      refine g_bipush hR dX3_as_18 ?_
      refine g_iret hR dX3_as_20 rfl ?_
      exact h2 c5 c15
  · have c5 := of_decide_eq_false c5
    refine g_bipush hR dX3_as_8 ?_
    refine g_iret hR dX3_as_10 rfl ?_
    exact h1 c5
theorem c_X4_as {zs : zzT} {d : Nat} {Q : zzQ} {g : Nat → Nat → Int} {hh : Int64} {n : Nat} (hn : g 39 8 = (n : Int)) (hn5 : n ≤ 5) (hkd : ∀ j, j < n → 0 ≤ g 42 (4 * j) ∧ g 42 (4 * j) ≤ 4) {z k : Int} (hz1 : rg z) (hk1 : rg k) (h1 : ¬ (0 ≤ z ∧ z < (n : Int)) → Q [.int (iI (-101))] (wof g hh)) (h2 : 0 ≤ z ∧ z < (n : Int) → ¬ (0 ≤ k ∧ k ≤ 4) → Q [.int (iI (-102))] (wof g hh)) (h3 : 0 ≤ z ∧ z < (n : Int) → 0 ≤ k ∧ k ≤ 4 → Q [.int (iI (asv k (g 42 (4 * z.toNat)) z))] (wof g hh)) : zzCL zs (d + 3) 98 [.ref 39, .int (iI z), .int (iI k)] (wof g hh) Q := by
  refine st_X4_as (Nat.le_of_ble_eq_true rfl) (fun R hR => ?_)
  show R 0 [(0, .ref 39), (1, .int (iI z)), (2, .int (iI k))] [] _
  refine z_aload_n hR dX4_as_0 rfl rfl ?_
  refine z_iload_n hR dX4_as_1 rfl rfl ?_
  refine g_inv1 hR dX4_as_2 zm_4_91 (by decide) zN_X4_isIsland ((wk_39 _) _) zO_X4_isIsland (Nat.le_of_ble_eq_true rfl) ?_
  refine c_X4_isIsland hn hn5 hz1 ?_
  show R 5 _ (.int _ :: _) _
  refine g_if_neb hR (tgt := 11) dX4_as_5 (by decide) (fun c5 => ?_) (fun c5 => ?_)
  · have c5 := of_decide_eq_true c5
    obtain ⟨i, rfl⟩ := Int.eq_ofNat_of_zero_le c5.1
    have hki := hkd i (by omega)
    refine z_iload_n hR dX4_as_11 rfl rfl ?_
    refine g_i2l hR dX4_as_12 ?_
    refine z_lconst hR (v := lI 0) dX4_as_13 (by decide) ?_
    refine z_ldc2 hR dX4_as_14 zk_4_103 ?_
    rw [show (4 : Int64) = lI (4) from by decide]
    refine g_sta3 hR dX4_as_17 zm_4_52 zN_X4_in (Nat.le_of_ble_eq_true rfl) ?_
    refine c_X4_in (by first | assumption | (unfold rg; omega)) (by unfold rg; omega) (by unfold rg; omega) ?_
    show R 20 _ (.int _ :: _) _
    refine g_if_neb hR (tgt := 26) dX4_as_20 (by decide) (fun c20 => ?_) (fun c20 => ?_)
    · have c20 := of_decide_eq_true c20
      refine z_aload_n hR dX4_as_26 rfl rfl ?_
      refine g_get hR dX4_as_27 zf_4_16 (wk_39 _) (show _ = some (Value.ref 42) from rfl) ?_
      refine g_iconst hR dX4_as_30 ?_
      refine z_iload_n hR dX4_as_31 rfl rfl ?_
      refine g_imul hR dX4_as_32 (nmul 4 _) ?_
      refine g_ialdN hR dX4_as_33 (wk_42 _) rfl ?_
      refine z_istore_n hR dX4_as_34 rfl (by decide) rfl ?_
      refine z_iload_n hR dX4_as_35 rfl rfl ?_
      refine g_if_eq hR (tgt := 54) dX4_as_36 (by decide) (fun c36 => ?_) (fun c36 => ?_)
      · refine g_iconst hR dX4_as_54 ?_
        refine z_goto hR (tgt := 59) dX4_as_55 (by decide) ?_
        refine z_istore hR dX4_as_59 (by decide) rfl ?_
        refine z_iload hR dX4_as_61 rfl ?_
        refine g_if_eq hR (tgt := 70) dX4_as_63 (by decide) (fun c63 => ?_) (fun c63 => ?_)
        · refine g_iconst hR dX4_as_70 ?_
          refine g_iret hR dX4_as_71 rfl ?_
          refine qi (h3 c5 c20) ?_
          simp only [asv, Int.toNat_natCast]
          split <;> omega
        · refine z_iload_n hR dX4_as_66 rfl rfl ?_
          refine z_goto hR (tgt := 71) dX4_as_67 (by decide) ?_
          refine g_iret hR dX4_as_71 rfl ?_
          refine qi (h3 c5 c20) ?_
          simp only [asv, Int.toNat_natCast]
          split <;> omega
      · refine z_iload_n hR dX4_as_39 rfl rfl ?_
        refine z_iload_n hR dX4_as_40 rfl rfl ?_
        refine g_icmp_eq hR (tgt := 54) dX4_as_41 (by decide) (fun c41 => ?_) (fun c41 => ?_)
        · refine g_iconst hR dX4_as_54 ?_
          refine z_goto hR (tgt := 59) dX4_as_55 (by decide) ?_
          refine z_istore hR dX4_as_59 (by decide) rfl ?_
          refine z_iload hR dX4_as_61 rfl ?_
          refine g_if_eq hR (tgt := 70) dX4_as_63 (by decide) (fun c63 => ?_) (fun c63 => ?_)
          · refine g_iconst hR dX4_as_70 ?_
            refine g_iret hR dX4_as_71 rfl ?_
            refine qi (h3 c5 c20) ?_
            simp only [asv, Int.toNat_natCast]
            split <;> omega
          · refine z_iload_n hR dX4_as_66 rfl rfl ?_
            refine z_goto hR (tgt := 71) dX4_as_67 (by decide) ?_
            refine g_iret hR dX4_as_71 rfl ?_
            refine qi (h3 c5 c20) ?_
            simp only [asv, Int.toNat_natCast]
            split <;> omega
        · refine z_iload_n hR dX4_as_44 rfl rfl ?_
          refine g_iconst hR dX4_as_45 ?_
          refine g_icmp_ne hR (tgt := 58) dX4_as_46 (by decide) (fun c46 => ?_) (fun c46 => ?_)
          · refine g_iconst hR dX4_as_58 ?_
            refine z_istore hR dX4_as_59 (by decide) rfl ?_
            refine z_iload hR dX4_as_61 rfl ?_
            refine g_if_eq hR (tgt := 70) dX4_as_63 (by decide) (fun c63 => ?_) (fun c63 => ?_)
            · refine g_iconst hR dX4_as_70 ?_
              refine g_iret hR dX4_as_71 rfl ?_
              refine qi (h3 c5 c20) ?_
              simp only [asv, Int.toNat_natCast]
              split <;> omega
            · refine z_iload_n hR dX4_as_66 rfl rfl ?_
              refine z_goto hR (tgt := 71) dX4_as_67 (by decide) ?_
              refine g_iret hR dX4_as_71 rfl ?_
              refine qi (h3 c5 c20) ?_
              simp only [asv, Int.toNat_natCast]
              split <;> omega
          · refine z_iload_n hR dX4_as_49 rfl rfl ?_
            refine g_iconst hR dX4_as_50 ?_
            refine g_icmp_ne hR (tgt := 58) dX4_as_51 (by decide) (fun c51 => ?_) (fun c51 => ?_)
            · refine g_iconst hR dX4_as_58 ?_
              refine z_istore hR dX4_as_59 (by decide) rfl ?_
              refine z_iload hR dX4_as_61 rfl ?_
              refine g_if_eq hR (tgt := 70) dX4_as_63 (by decide) (fun c63 => ?_) (fun c63 => ?_)
              · refine g_iconst hR dX4_as_70 ?_
                refine g_iret hR dX4_as_71 rfl ?_
                refine qi (h3 c5 c20) ?_
                simp only [asv, Int.toNat_natCast]
                split <;> omega
              · refine z_iload_n hR dX4_as_66 rfl rfl ?_
                refine z_goto hR (tgt := 71) dX4_as_67 (by decide) ?_
                refine g_iret hR dX4_as_71 rfl ?_
                refine qi (h3 c5 c20) ?_
                simp only [asv, Int.toNat_natCast]
                split <;> omega
            · refine g_iconst hR dX4_as_54 ?_
              refine z_goto hR (tgt := 59) dX4_as_55 (by decide) ?_
              refine z_istore hR dX4_as_59 (by decide) rfl ?_
              refine z_iload hR dX4_as_61 rfl ?_
              refine g_if_eq hR (tgt := 70) dX4_as_63 (by decide) (fun c63 => ?_) (fun c63 => ?_)
              · refine g_iconst hR dX4_as_70 ?_
                refine g_iret hR dX4_as_71 rfl ?_
                refine qi (h3 c5 c20) ?_
                simp only [asv, Int.toNat_natCast]
                split <;> omega
              · refine z_iload_n hR dX4_as_66 rfl rfl ?_
                refine z_goto hR (tgt := 71) dX4_as_67 (by decide) ?_
                refine g_iret hR dX4_as_71 rfl ?_
                refine qi (h3 c5 c20) ?_
                simp only [asv, Int.toNat_natCast]
                split <;> omega
    · have c20 := of_decide_eq_false c20
      refine g_bipush hR dX4_as_23 ?_
      refine g_iret hR dX4_as_25 rfl ?_
      exact h2 c5 c20
  · have c5 := of_decide_eq_false c5
    refine g_bipush hR dX4_as_8 ?_
    refine g_iret hR dX4_as_10 rfl ?_
    exact h1 c5
theorem op_as {zs : zzT} {c : Nat} {g : Nat → Nat → Int} {hh : Int64} (hz : zsok zs) (h : Rel c g) (hc : c < 512) {z k : Int} (hz1 : rg z) (hk1 : rg k) : opOK zs 22 98 [.ref 0, .int (iI z), .int (iI k)] [.ref 39, .int (iI z), .int (iI k)] c g hh := by
  obtain ⟨hc0, hpage, hnum, hcur, ⟨n, m, an, sn, rp, ea, eb, hS, hH⟩, himg⟩ := id h
  have hk := SS_WK hc0 hcur hS
  have hp := SS_MP hc0 hcur hS
  have M := @c_X4_as zs 17
  by_cases hA : 0 ≤ z ∧ z < (n : Int)
  · by_cases hB : 0 ≤ k ∧ k ≤ 4
    · have e := (hS.2.2.2.2.2.2.1 z.toNat (by omega)).1.1
      exact op_id (r := asv k (g 4 z.toNat) z) (by have := hk.1.2.1; unfold asv rg; split <;> omega) h hc (fun Q q => c_X3_as hk.1.1 hk.1.2.1 hk.1.2.2.2.1 hz1 hk1 (fun x => absurd hA x) (fun _ x => absurd hB x) (fun _ _ => q)) (fun Q q => c_X4_as hp.1 hp.2.1 hp.2.2.2.1 hz1 hk1 (fun x => absurd hA x) (fun _ x => absurd hB x) (fun _ _ => e ▸ q))
    · exact op_id (r := -102) (by unfold rg; omega) h hc (fun Q q => c_X3_as hk.1.1 hk.1.2.1 hk.1.2.2.2.1 hz1 hk1 (fun x => absurd hA x) (fun _ _ => q) (fun _ x => absurd x hB)) (fun Q q => c_X4_as hp.1 hp.2.1 hp.2.2.2.1 hz1 hk1 (fun x => absurd hA x) (fun _ _ => q) (fun _ x => absurd x hB))
  · exact op_id (r := -101) (by unfold rg; omega) h hc (fun Q q => c_X3_as hk.1.1 hk.1.2.1 hk.1.2.2.2.1 hz1 hk1 (fun _ => q) (fun x => absurd x hA) (fun x => absurd x hA)) (fun Q q => c_X4_as hp.1 hp.2.1 hp.2.2.2.1 hz1 hk1 (fun _ => q) (fun x => absurd x hA) (fun x => absurd x hA))
theorem c_X3_meet {zs : zzT} {d : Nat} {Q : zzQ} {g : Nat → Nat → Int} {hh : Int64} {n an : Nat} {pt : Nat → Nat} (hk : WK g 2 n an pt) (hz : zsok zs) {x y : Int} (hx : rg x) (hy : rg y) (h1 : ¬ ((0 ≤ x ∧ x < (n : Int)) ∧ (0 ≤ y ∧ y < (n : Int)) ∧ x ≠ y) → Q [.int (iI (-101))] (wof g hh)) (h2 : ∀ i j : Nat, x = (i : Int) → y = (j : Int) → i < n → j < n → i ≠ j → ∀ g1, eqS scX g g1 → Q [.int (iI (mtv n (g 4) (g 5) (g 3) pt (an ||| 0) (g 2 9) (g 2 10) (g 6) i j 60))] (wof g1 hh)) : zzCL zs (d + 6) 39 [.ref 0, .int (iI x), .int (iI y)] (wof g hh) Q := by
  refine st_X3_meet (Nat.le_of_ble_eq_true rfl) (fun R hR => ?_)
  show R 0 [(0, .ref 0), (1, .int (iI x)), (2, .int (iI y))] [] _
  refine z_aload_n hR dX3_meet_0 rfl rfl ?_
  refine z_iload_n hR dX3_meet_1 rfl rfl ?_
  refine z_iload_n hR dX3_meet_2 rfl rfl ?_
  refine g_inv2 hR dX3_meet_3 zm_3_142 (by decide) zN_X3_areTwo ((wk_0 _) _) zO_X3_areTwo (Nat.le_of_ble_eq_true rfl) ?_
  refine c_X3_areTwo hk.1.1 hk.1.2.1 hx hy ?_
  show R 6 _ (.int _ :: _) _
  refine g_if_neb hR (tgt := 12) dX3_meet_6 (by decide) (fun c6 => ?_) (fun c6 => ?_)
  · have c6 := of_decide_eq_true c6
    obtain ⟨i, rfl⟩ := Int.eq_ofNat_of_zero_le c6.1.1
    obtain ⟨j, rfl⟩ := Int.eq_ofNat_of_zero_le c6.2.1.1
    refine z_aload_n hR dX3_meet_12 rfl rfl ?_
    refine z_iload_n hR dX3_meet_13 rfl rfl ?_
    refine z_iload_n hR dX3_meet_14 rfl rfl ?_
    refine g_bipush hR dX3_meet_15 ?_
    refine g_iconst hR dX3_meet_17 ?_
    refine g_inv4 hR dX3_meet_18 zm_3_165 (by decide) zN_X3_firstMeeting ((wk_0 _) _) zO_X3_firstMeeting (Nat.le_of_ble_eq_true rfl) ?_
    refine c_X3_firstMeeting (more := 0) (days := 60) hk hz (by omega) (by omega) (Nat.two_pow_pos n) (by omega) (fun g1 he => ?_)
    show R 21 _ (.int _ :: _) _
    refine g_iret hR dX3_meet_21 rfl ?_
    exact h2 i j rfl rfl (by omega) (by omega) (by omega) g1 he
  · have c6 := of_decide_eq_false c6
    refine g_bipush hR dX3_meet_9 ?_
    refine g_iret hR dX3_meet_11 rfl ?_
    exact h1 c6
theorem c_X4_meet {zs : zzT} {d : Nat} {Q : zzQ} {g : Nat → Nat → Int} {hh : Int64} {n m : Nat} {ea eb : Nat → Nat} (hp : MP g n m ea eb) {x y : Int} (hx : rg x) (hy : rg y) (h1 : ¬ ((0 ≤ x ∧ x < (n : Int)) ∧ (0 ≤ y ∧ y < (n : Int)) ∧ x ≠ y) → Q [.int (iI (-101))] (wof g hh)) (h2 : ∀ i j : Nat, x = (i : Int) → y = (j : Int) → i < n → j < n → i ≠ j → ∀ g1, eqS scM g g1 → Q [.int (iI (mtv n (kdM g) (szM g) (g 41) (pby ea eb lfa m) (anb g n ||| 0) (g 39 3) (g 39 4) (nwr g n) i j 60))] (wof g1 hh)) : zzCL zs (d + 6) 107 [.ref 39, .int (iI x), .int (iI y)] (wof g hh) Q := by
  refine st_X4_meet (Nat.le_of_ble_eq_true rfl) (fun R hR => ?_)
  show R 0 [(0, .ref 39), (1, .int (iI x)), (2, .int (iI y))] [] _
  refine z_aload_n hR dX4_meet_0 rfl rfl ?_
  refine z_iload_n hR dX4_meet_1 rfl rfl ?_
  refine z_iload_n hR dX4_meet_2 rfl rfl ?_
  refine g_inv2 hR dX4_meet_3 zm_4_151 (by decide) zN_X4_arePair ((wk_39 _) _) zO_X4_arePair (Nat.le_of_ble_eq_true rfl) ?_
  refine c_X4_arePair hp.1 hp.2.1 hx hy ?_
  show R 6 _ (.int _ :: _) _
  refine g_if_eqb hR (tgt := 21) dX4_meet_6 (by decide) (fun c6 => ?_) (fun c6 => ?_)
  · have c6 := of_decide_eq_false c6
    refine g_bipush hR dX4_meet_21 ?_
    refine g_iret hR dX4_meet_23 rfl ?_
    first | exact h1 c6 | exact h2 i j rfl rfl (by omega) (by omega) (by omega) g1 he
  · have c6 := of_decide_eq_true c6
    obtain ⟨i, rfl⟩ := Int.eq_ofNat_of_zero_le c6.1.1
    obtain ⟨j, rfl⟩ := Int.eq_ofNat_of_zero_le c6.2.1.1
    refine z_aload_n hR dX4_meet_9 rfl rfl ?_
    refine z_iload_n hR dX4_meet_10 rfl rfl ?_
    refine z_iload_n hR dX4_meet_11 rfl rfl ?_
    refine g_iconst hR dX4_meet_12 ?_
    refine g_bipush hR dX4_meet_13 ?_
    refine g_inv4 hR dX4_meet_15 zm_4_157 (by decide) zN_X4_meetBy ((wk_39 _) _) zO_X4_meetBy (Nat.le_of_ble_eq_true rfl) ?_
    refine c_X4_meetBy (more := 0) (most := 60) hp (by omega) (by omega) (Nat.two_pow_pos n) (by omega) (fun g1 he => ?_)
    show R 18 _ (.int _ :: _) _
    refine z_goto hR (tgt := 23) dX4_meet_18 (by decide) ?_
    refine g_iret hR dX4_meet_23 rfl ?_
    first | exact h1 c6 | exact h2 i j rfl rfl (by omega) (by omega) (by omega) g1 he
/-- what the model's numbers say is the same where only the class's scratch has changed -/
theorem eqX {g g1 : Nat → Nat → Int} (h : eqS scX g g1) : (∀ b, ¬ ((16 ≤ b ∧ b ≤ 22) ∨ (33 ≤ b ∧ b ≤ 38)) → g1 b = g b) := fun b hb => funext fun k => h b k (by unfold scX; omega)
theorem MP_X {g g1 : Nat → Nat → Int} {n m : Nat} {ea eb : Nat → Nat} (h : eqS scX g g1) (hp : MP g n m ea eb) : MP g1 n m ea eb := by
  unfold MP MR at hp ⊢
  rw [eqX h 39 (by omega), eqX h 41 (by omega), eqX h 42 (by omega), eqX h 43 (by omega)]
  exact hp
theorem MP_M {g g1 : Nat → Nat → Int} {n m : Nat} {ea eb : Nat → Nat} (h : eqS scM g g1) (hp : MP g n m ea eb) : MP g1 n m ea eb := by
  have e39 : ∀ k, (k ≠ 13 ∧ k ≠ 14 ∧ k ≠ 15 ∧ k ≠ 20 ∧ k ≠ 21 ∧ k ≠ 24) → g1 39 k = g 39 k := fun k hk => h 39 k (by unfold scM; omega)
  have e41 : g1 41 = g 41 := funext fun k => h 41 k (by unfold scM; omega)
  have e42 : g1 42 = g 42 := funext fun k => h 42 k (by unfold scM; omega)
  have e43 : g1 43 = g 43 := funext fun k => h 43 k (by unfold scM; omega)
  unfold MP MR at hp ⊢
  rw [e39 8 (by omega), e39 3 (by omega), e39 4 (by omega), e39 9 (by omega), e41, e42, e43]
  exact hp
theorem mtvM_X {g g1 : Nat → Nat → Int} (h : eqS scX g g1) (n m : Nat) (ea eb : Nat → Nat) (more x y d : Nat) : mtv n (kdM g1) (szM g1) (g1 41) (pby ea eb lfa m) (anb g1 n ||| more) (g1 39 3) (g1 39 4) (nwr g1 n) x y d = mtv n (kdM g) (szM g) (g 41) (pby ea eb lfa m) (anb g n ||| more) (g 39 3) (g 39 4) (nwr g n) x y d := by
  unfold kdM szM anb nwr
  rw [eqX h 39 (by omega), eqX h 41 (by omega), eqX h 42 (by omega), eqX h 44 (by omega)]
theorem op_meet {zs : zzT} {c : Nat} {g : Nat → Nat → Int} {hh : Int64} (hz : zsok zs) (h : Rel c g) (hc : c < 512) {x y : Int} (hx : rg x) (hy : rg y) : opOK zs 39 107 [.ref 0, .int (iI x), .int (iI y)] [.ref 39, .int (iI x), .int (iI y)] c g hh := by
  obtain ⟨hc0, hpage, hnum, hcur, ⟨n, m, an, sn, rp, ea, eb, hS, hH⟩, himg⟩ := id h
  have hk := SS_WK hc0 hcur hS
  have hp := SS_MP hc0 hcur hS
  by_cases hA : (0 ≤ x ∧ x < (n : Int)) ∧ (0 ≤ y ∧ y < (n : Int)) ∧ x ≠ y
  · obtain ⟨i, rfl⟩ := Int.eq_ofNat_of_zero_le hA.1.1
    obtain ⟨j, rfl⟩ := Int.eq_ofNat_of_zero_le hA.2.1.1
    have hmt := mtv_both hcur hS 0 i j 60 (by omega) (by omega)
    refine op_sc (r := mtv n (g 4) (g 5) (g 3) (pby ea eb lfa m) (an ||| 0) (g 2 9) (g 2 10) (g 6) i j 60) (by have := @mtv_rg n (g 4) (g 5) (g 3) (pby ea eb lfa m) (an ||| 0) (g 2 9) (g 2 10) (g 6) i j 60; unfold rg; omega) h hc (fun Q q => c_X3_meet hk hz hx hy (fun x => absurd hA x) (fun a b e1 e2 _ _ _ g1 he => ?_)) (fun g1 hr1 he Q q => c_X4_meet (MP_X he hp) hx hy (fun x => absurd hA x) (fun a b e1 e2 _ _ _ g2 he2 => ?_))
    · rw [← Int.ofNat.inj e1, ← Int.ofNat.inj e2]; exact q g1 he
    · rw [← Int.ofNat.inj e1, ← Int.ofNat.inj e2, mtvM_X he, ← hmt]; exact q g2 he2
  · exact op_id (r := -101) (by unfold rg; omega) h hc (fun Q q => c_X3_meet hk hz hx hy (fun _ => q) (fun i j e1 e2 a b e => absurd (by omega) hA)) (fun Q q => c_X4_meet hp hx hy (fun _ => q) (fun i j e1 e2 a b e => absurd (by omega) hA))
