theorem isAt_step {pl : FI} {i : Nat} {q r : Int} (h : isAt pl i q r) : (pl i = q → isAt pl (i + 1) q (i : Int)) ∧ (pl i ≠ q → isAt pl (i + 1) q r) := by
  refine ⟨fun e => Or.inl ⟨i, by omega, e, rfl⟩, fun e => ?_⟩
  rcases h with ⟨j, a, b, er⟩ | ⟨a, er⟩
  · exact Or.inl ⟨j, by omega, b, er⟩
  · refine Or.inr ⟨fun j hj => ?_, er⟩
    rcases Nat.lt_or_eq_of_le (Nat.le_of_lt_succ hj) with k | k
    · exact a j k
    · rw [k]; exact e
theorem c_X3_isPlace {zs : zzT} {d : Nat} {Q : zzQ} {g : Nat → Nat → Int} {hh : Int64} (hs : g 0 2 = 0 ∨ g 0 2 = 1) {z : Int} (hz : rg z) (hQ : Q [.int (iI (b2i (decide (g 0 2 = 1 ∧ 0 ≤ z ∧ z < 12))))] (wof g hh)) : zzCL zs (d + 1) 9 [.ref 0, .int (iI z)] (wof g hh) Q := by
  refine st_X3_isPlace (Nat.le_of_ble_eq_true rfl) (fun R hR => ?_)
  show R 0 [(0, .ref 0), (1, .int (iI z))] [] _
  refine z_aload_n hR dX3_isPlace_0 rfl rfl ?_
  refine g_get hR dX3_isPlace_1 zf_3_17 (wk_0 _) rfl ?_
  refine g_if_eq hR (tgt := 21) dX3_isPlace_4 (by decide) (fun c4 => ?_) (fun c4 => ?_)
  · refine g_iconst hR dX3_isPlace_21 ?_
    refine g_zret (b := false) hR dX3_isPlace_22 rfl ?_
    refine qz hQ ?_
    simp only [eq_comm (a := true), eq_comm (a := false), decide_eq_true_eq, decide_eq_false_iff_not]
    omega
  · refine z_iload_n hR dX3_isPlace_7 rfl rfl ?_
    refine g_if_lt hR (tgt := 21) dX3_isPlace_8 (by decide) (fun c8 => ?_) (fun c8 => ?_)
    · refine g_iconst hR dX3_isPlace_21 ?_
      refine g_zret (b := false) hR dX3_isPlace_22 rfl ?_
      refine qz hQ ?_
      simp only [eq_comm (a := true), eq_comm (a := false), decide_eq_true_eq, decide_eq_false_iff_not]
      omega
    · refine z_iload_n hR dX3_isPlace_11 rfl rfl ?_
      refine g_bipush hR dX3_isPlace_12 ?_
      refine g_icmp_ge hR (tgt := 21) dX3_isPlace_14 (by decide) (fun c14 => ?_) (fun c14 => ?_)
      · refine g_iconst hR dX3_isPlace_21 ?_
        refine g_zret (b := false) hR dX3_isPlace_22 rfl ?_
        refine qz hQ ?_
        simp only [eq_comm (a := true), eq_comm (a := false), decide_eq_true_eq, decide_eq_false_iff_not]
        omega
      · refine g_iconst hR dX3_isPlace_17 ?_
        refine z_goto hR (tgt := 22) dX3_isPlace_18 (by decide) ?_
        refine g_zret (b := true) hR dX3_isPlace_22 rfl ?_
        refine qz hQ ?_
        simp only [eq_comm (a := true), eq_comm (a := false), decide_eq_true_eq, decide_eq_false_iff_not]
        omega
theorem c_X4_whoIsAt {zs : zzT} {d : Nat} {Q : zzQ} {g : Nat → Nat → Int} {hh : Int64} {n : Nat} (hn : g 39 8 = (n : Int)) (hn5 : n ≤ 5) (hpl : ∀ j, j < n → 0 ≤ g 42 (4 * j + 2) ∧ g 42 (4 * j + 2) < 12) {q : Int} (hq : rg q) (hQ : ∀ r, isAt (fun j => g 42 (4 * j + 2)) n q r → Q [.int (iI r)] (wof g hh)) : zzCL zs (d + 1) 84 [.ref 39, .int (iI q)] (wof g hh) Q := by
  refine st_X4_whoIsAt (Nat.le_of_ble_eq_true rfl) (fun R hR => ?_)
  show R 0 [(0, .ref 39), (1, .int (iI q))] [] _
  have loop : ∀ (k i : Nat) (r : Int), i ≤ n → n < i + k → (isAt (fun j => g 42 (4 * j + 2)) i q r) → (rg r) → R 4 [(0, .ref 39), (1, .int (iI q)), (2, .int (iI r)), (3, .int (iI (i : Int)))] [] (wof g hh) := by
    intro k
    induction k with
    | zero => intro i; intros; omega
    | succ k ih =>
      intro i r hi1 hi2 hr hrr
      refine z_iload_n hR dX4_whoIsAt_4 rfl rfl ?_
      refine z_aload_n hR dX4_whoIsAt_5 rfl rfl ?_
      refine g_get hR dX4_whoIsAt_6 zf_4_76 (wk_39 _) (gi hn) ?_
      refine g_icmp_ge hR (tgt := 38) dX4_whoIsAt_9 (by decide) (fun c9 => ?_) (fun c9 => ?_)
      · refine z_iload_n hR dX4_whoIsAt_38 rfl rfl ?_
        refine g_iret hR dX4_whoIsAt_39 rfl ?_
        have e : i = n := by omega
        subst e
        exact hQ _ hr
      · have hpi := hpl i (by omega)
        refine z_aload_n hR dX4_whoIsAt_12 rfl rfl ?_
        refine g_get hR dX4_whoIsAt_13 zf_4_16 (wk_39 _) rfl ?_
        refine g_iconst hR dX4_whoIsAt_16 ?_
        refine z_iload_n hR dX4_whoIsAt_17 rfl rfl ?_
        refine g_imul hR dX4_whoIsAt_18 (nmul 4 _) ?_
        refine g_iconst hR dX4_whoIsAt_19 ?_
        refine g_iadd hR dX4_whoIsAt_20 (nadd _ 2) ?_
        refine g_ialdN hR dX4_whoIsAt_21 (wk_42 _) rfl ?_
        refine z_iload_n hR dX4_whoIsAt_22 rfl rfl ?_
        refine g_icmp_ne hR (tgt := 30) dX4_whoIsAt_23 (by decide) (fun c23 => ?_) (fun c23 => ?_)
        · refine z_iload_n hR dX4_whoIsAt_30 rfl rfl ?_
          refine z_istore_n hR dX4_whoIsAt_31 rfl (by decide) rfl ?_
          refine g_iinc hR dX4_whoIsAt_32 rfl rfl (by decide) rfl ?_
          refine z_goto hR (tgt := 4) dX4_whoIsAt_35 (by decide) ?_
          first | exact ih (i + 1) _ (by omega) (by omega) ((isAt_step hr).1 c23) (by unfold rg; omega) | exact ih (i + 1) _ (by omega) (by omega) ((isAt_step hr).2 c23) hrr
        · refine z_iload_n hR dX4_whoIsAt_26 rfl rfl ?_
          refine z_goto hR (tgt := 31) dX4_whoIsAt_27 (by decide) ?_
          refine z_istore_n hR dX4_whoIsAt_31 rfl (by decide) rfl ?_
          refine g_iinc hR dX4_whoIsAt_32 rfl rfl (by decide) rfl ?_
          refine z_goto hR (tgt := 4) dX4_whoIsAt_35 (by decide) ?_
          first | exact ih (i + 1) _ (by omega) (by omega) ((isAt_step hr).1 c23) (by unfold rg; omega) | exact ih (i + 1) _ (by omega) (by omega) ((isAt_step hr).2 c23) hrr
  refine g_iconst hR dX4_whoIsAt_0 ?_
  refine z_istore_n hR dX4_whoIsAt_1 rfl (by decide) rfl ?_
  refine g_iconst hR dX4_whoIsAt_2 ?_
  refine z_istore_n hR dX4_whoIsAt_3 rfl (by decide) rfl ?_
  exact loop (n + 1) 0 (-1) (by omega) (by omega) (Or.inr ⟨fun j hj => absurd hj (by omega), rfl⟩) (by unfold rg; omega)
theorem c_X3_place {zs : zzT} {d : Nat} {Q : zzQ} {g : Nat → Nat → Int} {hh : Int64} (hs : g 0 2 = 0 ∨ g 0 2 = 1) {n : Nat} (hn : g 2 6 = (n : Int)) (hn5 : n ≤ 5) (hpl : plok n (g 6)) {z v : Int} (hz1 : rg z) (hz2 : rg v) (h1 : ¬ (g 0 2 = 1 ∧ 0 ≤ z ∧ z < 12) → Q [.int (iI (-101))] (wof g hh)) (h2 : g 0 2 = 1 ∧ 0 ≤ z ∧ z < 12 → ¬ (v = 0 ∨ v = 1) → Q [.int (iI (-102))] (wof g hh)) (h3 : g 0 2 = 1 ∧ 0 ≤ z ∧ z < 12 → v = 0 → Q [.int (iI (g 3 z.toNat))] (wof g hh)) (h4 : g 0 2 = 1 ∧ 0 ≤ z ∧ z < 12 → v = 1 → ∀ r, isAt (g 6) n z r → Q [.int (iI r)] (wof g hh)) : zzCL zs (d + 2) 8 [.ref 0, .int (iI z), .int (iI v)] (wof g hh) Q := by
  refine st_X3_place (Nat.le_of_ble_eq_true rfl) (fun R hR => ?_)
  show R 0 [(0, .ref 0), (1, .int (iI z)), (2, .int (iI v))] [] _
  refine z_aload_n hR dX3_place_0 rfl rfl ?_
  refine z_iload_n hR dX3_place_1 rfl rfl ?_
  refine g_inv1 hR dX3_place_2 zm_3_93 (by decide) zN_X3_isPlace ((wk_0 _) _) zO_X3_isPlace (Nat.le_of_ble_eq_true rfl) ?_
  refine c_X3_isPlace hs hz1 ?_
  show R 5 _ (.int _ :: _) _
  refine g_if_neb hR (tgt := 11) dX3_place_5 (by decide) (fun c5 => ?_) (fun c5 => ?_)
  · have c5 := of_decide_eq_true c5
    refine z_iload_n hR dX3_place_11 rfl rfl ?_
    refine g_if_lt hR (tgt := 20) dX3_place_12 (by decide) (fun c12 => ?_) (fun c12 => ?_)
    · refine g_bipush hR dX3_place_20 ?_
      refine g_iret hR dX3_place_22 rfl ?_
      exact h2 c5 (by omega)
    · refine z_iload_n hR dX3_place_15 rfl rfl ?_
      refine g_iconst hR dX3_place_16 ?_
      refine g_icmp_le hR (tgt := 23) dX3_place_17 (by decide) (fun c17 => ?_) (fun c17 => ?_)
      · refine z_iload_n hR dX3_place_23 rfl rfl ?_
        refine g_if_ne hR (tgt := 39) dX3_place_24 (by decide) (fun c24 => ?_) (fun c24 => ?_)
        · refine z_aload_n hR dX3_place_39 rfl rfl ?_
          refine g_get hR dX3_place_40 zf_3_33 (wk_0 _) rfl ?_
          refine z_iload_n hR dX3_place_43 rfl rfl ?_
          refine g_inv1 hR dX3_place_44 zm_3_96 (by decide) zN_X2_islandAt ((wk_2 _) _) zO_X2_islandAt (Nat.le_of_ble_eq_true rfl) ?_
          refine c_X2_islandAt isW2 hn hn5 hpl hz1 (fun r hr => ?_)
          show R 47 _ (.int _ :: _) _
          refine g_iret hR dX3_place_47 rfl ?_
          first | exact h4 c5 (by omega) r hr | exact h3 c5 c24
        · refine z_aload_n hR dX3_place_27 rfl rfl ?_
          refine g_get hR dX3_place_28 zf_3_33 (wk_0 _) rfl ?_
          refine g_get hR dX3_place_31 zf_3_80 (wk_2 _) rfl ?_
          refine z_iload_n hR dX3_place_34 rfl rfl ?_
          refine g_iald hR dX3_place_35 (wk_3 _) rfl ?_
          refine z_goto hR (tgt := 47) dX3_place_36 (by decide) ?_
          refine g_iret hR dX3_place_47 rfl ?_
          first | exact h4 c5 (by omega) r hr | exact h3 c5 c24
      · refine g_bipush hR dX3_place_20 ?_
        refine g_iret hR dX3_place_22 rfl ?_
        exact h2 c5 (by omega)
  · have c5 := of_decide_eq_false c5
    refine g_bipush hR dX3_place_8 ?_
    refine g_iret hR dX3_place_10 rfl ?_
    exact h1 c5
theorem c_X4_place {zs : zzT} {d : Nat} {Q : zzQ} {g : Nat → Nat → Int} {hh : Int64} (hs : g 39 2 = 0 ∨ g 39 2 = 1) {n : Nat} (hn : g 39 8 = (n : Int)) (hn5 : n ≤ 5) (hpl : ∀ j, j < n → 0 ≤ g 42 (4 * j + 2) ∧ g 42 (4 * j + 2) < 12) {z v : Int} (hz1 : rg z) (hz2 : rg v) (h1 : ¬ (g 39 2 = 1 ∧ 0 ≤ z ∧ z < 12) → Q [.int (iI (-101))] (wof g hh)) (h2 : g 39 2 = 1 ∧ 0 ≤ z ∧ z < 12 → ¬ (v = 0 ∨ v = 1) → Q [.int (iI (-102))] (wof g hh)) (h3 : g 39 2 = 1 ∧ 0 ≤ z ∧ z < 12 → v = 0 → Q [.int (iI (g 41 z.toNat))] (wof g hh)) (h4 : g 39 2 = 1 ∧ 0 ≤ z ∧ z < 12 → v = 1 → ∀ r, isAt (fun j => g 42 (4 * j + 2)) n z r → Q [.int (iI r)] (wof g hh)) : zzCL zs (d + 2) 83 [.ref 39, .int (iI z), .int (iI v)] (wof g hh) Q := by
  refine st_X4_place (Nat.le_of_ble_eq_true rfl) (fun R hR => ?_)
  show R 0 [(0, .ref 39), (1, .int (iI z)), (2, .int (iI v))] [] _
  refine z_aload_n hR dX4_place_0 rfl rfl ?_
  refine g_get hR dX4_place_1 zf_4_63 (wk_39 _) rfl ?_
  refine g_if_eq hR (tgt := 19) dX4_place_4 (by decide) (fun c4 => ?_) (fun c4 => ?_)
  · refine g_bipush hR dX4_place_19 ?_
    refine g_iret hR dX4_place_21 rfl ?_
    exact h1 (by omega)
  · refine z_iload_n hR dX4_place_7 rfl rfl ?_
    refine g_i2l hR dX4_place_8 ?_
    refine z_lconst hR (v := lI 0) dX4_place_9 (by decide) ?_
    refine z_ldc2 hR dX4_place_10 zk_4_95 ?_
    rw [show (11 : Int64) = lI (11) from by decide]
    refine g_sta3 hR dX4_place_13 zm_4_52 zN_X4_in (Nat.le_of_ble_eq_true rfl) ?_
    refine c_X4_in (by first | assumption | (unfold rg; omega)) (by unfold rg; omega) (by unfold rg; omega) ?_
    show R 16 _ (.int _ :: _) _
    refine g_if_neb hR (tgt := 22) dX4_place_16 (by decide) (fun c16 => ?_) (fun c16 => ?_)
    · have c16 := of_decide_eq_true c16
      refine z_iload_n hR dX4_place_22 rfl rfl ?_
      refine g_if_ne hR (tgt := 35) dX4_place_23 (by decide) (fun c23 => ?_) (fun c23 => ?_)
      · refine z_iload_n hR dX4_place_35 rfl rfl ?_
        refine g_iconst hR dX4_place_36 ?_
        refine g_icmp_ne hR (tgt := 48) dX4_place_37 (by decide) (fun c37 => ?_) (fun c37 => ?_)
        · refine g_bipush hR dX4_place_48 ?_
          refine g_iret hR dX4_place_50 rfl ?_
          first | exact h4 (by omega) c37 r hr | exact h3 (by omega) c23 | exact h2 (by omega) (by omega)
        · refine z_aload_n hR dX4_place_40 rfl rfl ?_
          refine z_iload_n hR dX4_place_41 rfl rfl ?_
          refine g_inv1 hR dX4_place_42 zm_4_97 (by decide) zN_X4_whoIsAt ((wk_39 _) _) zO_X4_whoIsAt (Nat.le_of_ble_eq_true rfl) ?_
          refine c_X4_whoIsAt hn hn5 hpl hz1 (fun r hr => ?_)
          show R 45 _ (.int _ :: _) _
          refine z_goto hR (tgt := 50) dX4_place_45 (by decide) ?_
          refine g_iret hR dX4_place_50 rfl ?_
          first | exact h4 (by omega) c37 r hr | exact h3 (by omega) c23 | exact h2 (by omega) (by omega)
      · refine z_aload_n hR dX4_place_26 rfl rfl ?_
        refine g_get hR dX4_place_27 zf_4_13 (wk_39 _) rfl ?_
        refine z_iload_n hR dX4_place_30 rfl rfl ?_
        refine g_iald hR dX4_place_31 (wk_41 _) rfl ?_
        refine z_goto hR (tgt := 50) dX4_place_32 (by decide) ?_
        refine g_iret hR dX4_place_50 rfl ?_
        first | exact h4 (by omega) c37 r hr | exact h3 (by omega) c23 | exact h2 (by omega) (by omega)
    · have c16 := of_decide_eq_false c16
      refine g_bipush hR dX4_place_19 ?_
      refine g_iret hR dX4_place_21 rfl ?_
      exact h1 (by omega)
theorem op_place {zs : zzT} {c : Nat} {g : Nat → Nat → Int} {hh : Int64} (hz : zsok zs) (h : Rel c g) (hc : c < 512) {z v : Int} (hz1 : rg z) (hz2 : rg v) : opOK zs 8 83 [.ref 0, .int (iI z), .int (iI v)] [.ref 39, .int (iI z), .int (iI v)] c g hh := by
  obtain ⟨hc0, hpage, hnum, hcur, ⟨n, m, an, sn, rp, ea, eb, hS, hH⟩, himg⟩ := id h
  have hk := SS_WK hc0 hcur hS
  have hp := SS_MP hc0 hcur hS
  have hs1 : g 0 2 = 0 ∨ g 0 2 = 1 := by rw [hnum.1.1]; exact hnum.1.2
  have e02 := hnum.1.1
  by_cases hA : g 0 2 = 1 ∧ 0 ≤ z ∧ z < 12
  · by_cases hB : v = 0
    · have hcz := hcur z.toNat (by omega)
      exact op_id (r := g 3 z.toNat) (by unfold rg; omega) h hc (fun Q q => c_X3_place hs1 hk.1.1 hk.1.2.1 hk.2.1 hz1 hz2 (fun x => absurd hA x) (fun _ x => absurd (Or.inl hB) x) (fun _ _ => q) (fun _ x => by omega)) (fun Q q => c_X4_place hnum.1.2 hp.1 hp.2.1 hp.2.2.2.2.2.1 hz1 hz2 (fun x => absurd (e02 ▸ hA) x) (fun _ x => absurd (Or.inl hB) x) (fun _ _ => hcz.1 ▸ q) (fun _ x => by omega))
    · by_cases hC : v = 1
      · obtain ⟨r, hr⟩ := isAt_ex (g 6) n z
        have hun : ∀ r1, isAt (g 6) n z r1 → r1 = r := fun r1 h1 => isAt_un (fun _ _ => rfl) hS.2.2.2.2.2.2.2.1 hr h1
        have hun2 : ∀ r1, isAt (fun j => g 42 (4 * j + 2)) n z r1 → r1 = r := fun r1 h1 => isAt_un (fun j hj => (hS.2.2.2.2.2.2.1 j hj).2.2.1.1) hS.2.2.2.2.2.2.2.1 hr h1
        exact op_id (r := r) (isAt_rg hr hk.1.2.1) h hc (fun Q q => c_X3_place hs1 hk.1.1 hk.1.2.1 hk.2.1 hz1 hz2 (fun x => absurd hA x) (fun _ x => absurd (Or.inr hC) x) (fun _ x => absurd x hB) (fun _ _ r1 h1 => hun r1 h1 ▸ q)) (fun Q q => c_X4_place hnum.1.2 hp.1 hp.2.1 hp.2.2.2.2.2.1 hz1 hz2 (fun x => absurd (e02 ▸ hA) x) (fun _ x => absurd (Or.inr hC) x) (fun _ x => absurd x hB) (fun _ _ r1 h1 => hun2 r1 h1 ▸ q))
      · exact op_id (r := -102) (by unfold rg; omega) h hc (fun Q q => c_X3_place hs1 hk.1.1 hk.1.2.1 hk.2.1 hz1 hz2 (fun x => absurd hA x) (fun _ _ => q) (fun _ x => absurd x hB) (fun _ x => absurd x hC)) (fun Q q => c_X4_place hnum.1.2 hp.1 hp.2.1 hp.2.2.2.2.2.1 hz1 hz2 (fun x => absurd (e02 ▸ hA) x) (fun _ _ => q) (fun _ x => absurd x hB) (fun _ x => absurd x hC))
  · exact op_id (r := -101) (by unfold rg; omega) h hc (fun Q q => c_X3_place hs1 hk.1.1 hk.1.2.1 hk.2.1 hz1 hz2 (fun _ => q) (fun x => absurd x hA) (fun x => absurd x hA) (fun x => absurd x hA)) (fun Q q => c_X4_place hnum.1.2 hp.1 hp.2.1 hp.2.2.2.2.2.1 hz1 hz2 (fun _ => q) (fun x => absurd (e02.symm ▸ x) hA) (fun x => absurd (e02.symm ▸ x) hA) (fun x => absurd (e02.symm ▸ x) hA))
theorem c_X3_wind {zs : zzT} {d : Nat} {Q : zzQ} {g : Nat → Nat → Int} {hh : Int64} (hs : g 0 2 = 0 ∨ g 0 2 = 1) {z : Int} (hz1 : rg z) (h1 : ¬ (-1 ≤ z ∧ z ≤ 1) → Q [.int (iI (-102))] (wof g hh)) (h2 : -1 ≤ z ∧ z ≤ 1 → g 0 2 = 0 → Q [.int (iI (-103))] (wof g hh)) (h3 : -1 ≤ z ∧ z ≤ 1 → g 0 2 ≠ 0 → Q [.int (iI (g 2 9 + 1))] (wof (gr g 2 (iu (g 2) 9 z)) hh)) : zzCL zs (d + 1) 11 [.ref 0, .int (iI z)] (wof g hh) Q := by
  refine st_X3_wind (Nat.le_of_ble_eq_true rfl) (fun R hR => ?_)
  show R 0 [(0, .ref 0), (1, .int (iI z))] [] _
  refine z_iload_n hR dX3_wind_0 rfl rfl ?_
  refine g_iconst hR dX3_wind_1 ?_
  refine g_icmp_lt hR (tgt := 10) dX3_wind_2 (by decide) (fun c2 => ?_) (fun c2 => ?_)
  · refine g_bipush hR dX3_wind_10 ?_
    refine g_iret hR dX3_wind_12 rfl ?_
    exact h1 (by omega)
  · refine z_iload_n hR dX3_wind_5 rfl rfl ?_
    refine g_iconst hR dX3_wind_6 ?_
    refine g_icmp_le hR (tgt := 13) dX3_wind_7 (by decide) (fun c7 => ?_) (fun c7 => ?_)
    · refine z_aload_n hR dX3_wind_13 rfl rfl ?_
      refine g_get hR dX3_wind_14 zf_3_17 (wk_0 _) rfl ?_
      refine g_if_ne hR (tgt := 23) dX3_wind_17 (by decide) (fun c17 => ?_) (fun c17 => ?_)
      · refine z_aload_n hR dX3_wind_23 rfl rfl ?_
        refine g_get hR dX3_wind_24 zf_3_33 (wk_0 _) rfl ?_
        refine g_get hR dX3_wind_27 zf_3_99 (wk_2 _) rfl ?_
        refine z_istore_n hR dX3_wind_30 rfl (by decide) rfl ?_
        refine z_aload_n hR dX3_wind_31 rfl rfl ?_
        refine g_get hR dX3_wind_32 zf_3_33 (wk_0 _) rfl ?_
        refine z_iload_n hR dX3_wind_35 rfl rfl ?_
        refine g_put hR dX3_wind_36 zf_3_99 (wk_2 _) (Nat.le_of_ble_eq_true rfl) rfl rfl rfl rfl ?_
        refine z_iload_n hR dX3_wind_39 rfl rfl ?_
        refine g_iconst hR dX3_wind_40 ?_
        refine g_iadd hR dX3_wind_41 rfl ?_
        refine g_iret hR dX3_wind_42 rfl ?_
        exact h3 (by omega) c17
      · refine g_bipush hR dX3_wind_20 ?_
        refine g_iret hR dX3_wind_22 rfl ?_
        exact h2 (by omega) c17
    · refine g_bipush hR dX3_wind_10 ?_
      refine g_iret hR dX3_wind_12 rfl ?_
      exact h1 (by omega)
theorem c_X4_wind {zs : zzT} {d : Nat} {Q : zzQ} {g : Nat → Nat → Int} {hh : Int64} (hs : g 39 2 = 0 ∨ g 39 2 = 1) {z : Int} (hz1 : rg z) (h1 : ¬ (-1 ≤ z ∧ z ≤ 1) → Q [.int (iI (-102))] (wof g hh)) (h2 : -1 ≤ z ∧ z ≤ 1 → g 39 2 = 0 → Q [.int (iI (-103))] (wof g hh)) (h3 : -1 ≤ z ∧ z ≤ 1 → g 39 2 ≠ 0 → Q [.int (iI (g 39 3 + 1))] (wof (gr g 39 (iu (g 39) 3 z)) hh)) : zzCL zs (d + 2) 85 [.ref 39, .int (iI z)] (wof g hh) Q := by
  refine st_X4_wind (Nat.le_of_ble_eq_true rfl) (fun R hR => ?_)
  show R 0 [(0, .ref 39), (1, .int (iI z))] [] _
  refine z_iload_n hR dX4_wind_0 rfl rfl ?_
  refine g_i2l hR dX4_wind_1 ?_
  refine z_ldc2 hR dX4_wind_2 zk_4_101 ?_
  rw [show (-1 : Int64) = lI (-1) from by decide]
  refine z_lconst hR (v := lI 1) dX4_wind_5 (by decide) ?_
  refine g_sta3 hR dX4_wind_6 zm_4_52 zN_X4_in (Nat.le_of_ble_eq_true rfl) ?_
  refine c_X4_in (by first | assumption | (unfold rg; omega)) (by unfold rg; omega) (by unfold rg; omega) ?_
  show R 9 _ (.int _ :: _) _
  refine g_if_neb hR (tgt := 15) dX4_wind_9 (by decide) (fun c9 => ?_) (fun c9 => ?_)
  · have c9 := of_decide_eq_true c9
    refine z_aload_n hR dX4_wind_15 rfl rfl ?_
    refine g_get hR dX4_wind_16 zf_4_63 (wk_39 _) rfl ?_
    refine g_if_ne hR (tgt := 25) dX4_wind_19 (by decide) (fun c19 => ?_) (fun c19 => ?_)
    · refine z_aload_n hR dX4_wind_25 rfl rfl ?_
      refine g_get hR dX4_wind_26 zf_4_67 (wk_39 _) rfl ?_
      refine z_istore_n hR dX4_wind_29 rfl (by decide) rfl ?_
      refine z_aload_n hR dX4_wind_30 rfl rfl ?_
      refine z_iload_n hR dX4_wind_31 rfl rfl ?_
      refine g_put hR dX4_wind_32 zf_4_67 (wk_39 _) (Nat.le_of_ble_eq_true rfl) rfl rfl rfl rfl ?_
      refine z_iload_n hR dX4_wind_35 rfl rfl ?_
      refine g_iconst hR dX4_wind_36 ?_
      refine g_iadd hR dX4_wind_37 rfl ?_
      refine g_iret hR dX4_wind_38 rfl ?_
      exact h3 c9 c19
    · refine g_bipush hR dX4_wind_22 ?_
      refine g_iret hR dX4_wind_24 rfl ?_
      exact h2 c9 c19
  · have c9 := of_decide_eq_false c9
    refine g_bipush hR dX4_wind_12 ?_
    refine g_iret hR dX4_wind_14 rfl ?_
    exact h1 c9
theorem op_wind {zs : zzT} {c : Nat} {g : Nat → Nat → Int} {hh : Int64} (hz : zsok zs) (h : Rel c g) (hc : c < 512) {z : Int} (hz1 : rg z) : opOK zs 11 85 [.ref 0, .int (iI z)] [.ref 39, .int (iI z)] c g hh := by
  obtain ⟨hc0, hpage, hnum, hcur, ⟨n, m, an, sn, rp, ea, eb, hS, hH⟩, himg⟩ := id h
  have hk := SS_WK hc0 hcur hS
  have hp := SS_MP hc0 hcur hS
  have hs1 : g 0 2 = 0 ∨ g 0 2 = 1 := by rw [hnum.1.1]; exact hnum.1.2
  have e02 := hnum.1.1
  have ew : g 2 9 = g 39 3 := hS.2.2.2.1.1
  by_cases hA : -1 ≤ z ∧ z ≤ 1
  · by_cases hB : g 0 2 = 0
    · exact op_id (r := -103) (by unfold rg; omega) h hc (fun Q q => c_X3_wind hs1 hz1 (fun x => absurd hA x) (fun _ _ => q) (fun _ x => absurd hB x)) (fun Q q => c_X4_wind hnum.1.2 hz1 (fun x => absurd hA x) (fun _ _ => q) (fun _ x => absurd (e02 ▸ hB) x))
    · refine op_ex (r := g 2 9 + 1) (by have := hk.2.2.2.2.1; unfold rg; omega) ?_ (fun Q q => c_X3_wind hs1 hz1 (fun x => absurd hA x) (fun _ x => absurd x hB) (fun _ _ => q)) (fun Q q => c_X4_wind (g := gr g 2 (iu (g 2) 9 z)) hnum.1.2 hz1 (fun x => absurd hA x) (fun _ x => absurd (e02.trans x) hB) (fun _ _ => by rw [show gr g 2 (iu (g 2) 9 z) 39 3 = g 2 9 from ew.symm]; exact q))
      have hs := Rel_step h hc
      obtain ⟨a1, a2, a3, a4, a5, a6⟩ := hS
      exact ⟨hs.1, hs.2.1, hs.2.2.1, hs.2.2.2.1, ⟨n, m, an, sn, rp, ea, eb, ⟨a1, a2, a3, ⟨rfl, hA⟩, ⟨a5.1, a5.2.1, by have := a5.2.2; show g 39 4 ≤ ((c + 1 : Nat) : Int); omega⟩, a6⟩, hH⟩, hs.2.2.2.2.2⟩
  · exact op_id (r := -102) (by unfold rg; omega) h hc (fun Q q => c_X3_wind hs1 hz1 (fun _ => q) (fun x => absurd x hA) (fun x => absurd x hA)) (fun Q q => c_X4_wind hnum.1.2 hz1 (fun _ => q) (fun x => absurd x hA) (fun x => absurd x hA))
