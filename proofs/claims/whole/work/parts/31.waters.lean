theorem c_X2_stepped {zs : zzT} {d : Nat} {Q : zzQ} {w : zzW} {p s : Int} (hp : 0 ≤ p ∧ p < 12) (hs : -1 ≤ s ∧ s ≤ 1) (hQ : Q [.int (iI ((p + s) % 12))] w) : zzCL zs (d + 1) 21 [.int (iI p), .int (iI s)] w Q := by
  refine st_X2_stepped (Nat.le_of_ble_eq_true rfl) (fun R hR => ?_)
  show R 0 [(0, .int (iI p)), (1, .int (iI s))] [] _
  refine z_iload_n hR dX2_stepped_0 rfl rfl ?_
  refine z_iload_n hR dX2_stepped_1 rfl rfl ?_
  refine g_iadd hR dX2_stepped_2 rfl ?_
  refine z_istore_n hR dX2_stepped_3 rfl (by decide) rfl ?_
  refine z_iload_n hR dX2_stepped_4 rfl rfl ?_
  refine g_if_ge hR (tgt := 11) dX2_stepped_5 (by decide) (fun c5 => ?_) (fun c5 => ?_)
  · refine z_iload_n hR dX2_stepped_11 rfl rfl ?_
    refine g_bipush hR dX2_stepped_12 ?_
    refine g_icmp_ge hR (tgt := 21) dX2_stepped_14 (by decide) (fun c14 => ?_) (fun c14 => ?_)
    · refine g_iconst hR dX2_stepped_21 ?_
      refine g_iret hR dX2_stepped_22 rfl ?_
      exact qi hQ (by omega)
    · refine z_iload_n hR dX2_stepped_17 rfl rfl ?_
      refine z_goto hR (tgt := 22) dX2_stepped_18 (by decide) ?_
      refine g_iret hR dX2_stepped_22 rfl ?_
      exact qi hQ (by omega)
  · refine g_bipush hR dX2_stepped_8 ?_
    refine g_iret hR dX2_stepped_10 rfl ?_
    exact qi hQ (by omega)
theorem c_X2_areBeside {zs : zzT} {d : Nat} {Q : zzQ} {g : Nat → Nat → Int} {hh : Int64} {a : Nat} (ha : isW a) {i j : Nat} (hi : i < 5) (hj : j < 5) (hpi : 0 ≤ g (a + 4) i ∧ g (a + 4) i < 12) (hpj : 0 ≤ g (a + 4) j ∧ g (a + 4) j < 12) (hQ : Q [.int (iI (b2i (bs (g (a + 4) i) (g (a + 4) j))))] (wof g hh)) : zzCL zs (d + 2) 20 [.ref a, .int (iI (i : Int)), .int (iI (j : Int))] (wof g hh) Q := by
  refine st_X2_areBeside (Nat.le_of_ble_eq_true rfl) (fun R hR => ?_)
  show R 0 [(0, .ref a), (1, .int (iI (i : Int))), (2, .int (iI (j : Int)))] [] _
  refine z_aload_n hR dX2_areBeside_0 rfl rfl ?_
  refine g_get hR dX2_areBeside_1 zf_2_21 (wW_0 ha _) rfl ?_
  refine z_iload_n hR dX2_areBeside_4 rfl rfl ?_
  refine g_ialdN hR dX2_areBeside_5 (wW_4 ha _) rfl ?_
  refine g_iconst hR dX2_areBeside_6 ?_
  refine g_sta2 hR dX2_areBeside_7 zm_2_61 zN_X2_stepped (Nat.le_of_ble_eq_true rfl) ?_
  refine c_X2_stepped (by omega) (by omega) ?_
  show R 10 _ (.int _ :: _) _
  refine z_aload_n hR dX2_areBeside_10 rfl rfl ?_
  refine g_get hR dX2_areBeside_11 zf_2_21 (wW_0 ha _) rfl ?_
  refine z_iload_n hR dX2_areBeside_14 rfl rfl ?_
  refine g_ialdN hR dX2_areBeside_15 (wW_4 ha _) rfl ?_
  refine g_icmp_eq hR (tgt := 38) dX2_areBeside_16 (by decide) (fun c16 => ?_) (fun c16 => ?_)
  · refine g_iconst hR dX2_areBeside_38 ?_
    refine z_goto hR (tgt := 43) dX2_areBeside_39 (by decide) ?_
    refine g_zret (b := true) hR dX2_areBeside_43 rfl ?_
    refine qz hQ ?_
    simp only [bs]
    simp [*]
  · refine z_aload_n hR dX2_areBeside_19 rfl rfl ?_
    refine g_get hR dX2_areBeside_20 zf_2_21 (wW_0 ha _) rfl ?_
    refine z_iload_n hR dX2_areBeside_23 rfl rfl ?_
    refine g_ialdN hR dX2_areBeside_24 (wW_4 ha _) rfl ?_
    refine g_iconst hR dX2_areBeside_25 ?_
    refine g_sta2 hR dX2_areBeside_26 zm_2_61 zN_X2_stepped (Nat.le_of_ble_eq_true rfl) ?_
    refine c_X2_stepped (by omega) (by omega) ?_
    show R 29 _ (.int _ :: _) _
    refine z_aload_n hR dX2_areBeside_29 rfl rfl ?_
    refine g_get hR dX2_areBeside_30 zf_2_21 (wW_0 ha _) rfl ?_
    refine z_iload_n hR dX2_areBeside_33 rfl rfl ?_
    refine g_ialdN hR dX2_areBeside_34 (wW_4 ha _) rfl ?_
    refine g_icmp_ne hR (tgt := 42) dX2_areBeside_35 (by decide) (fun c35 => ?_) (fun c35 => ?_)
    · refine g_iconst hR dX2_areBeside_42 ?_
      refine g_zret (b := false) hR dX2_areBeside_43 rfl ?_
      refine qz hQ ?_
      simp only [bs]
      simp [*]
    · refine g_iconst hR dX2_areBeside_38 ?_
      refine z_goto hR (tgt := 43) dX2_areBeside_39 (by decide) ?_
      refine g_zret (b := true) hR dX2_areBeside_43 rfl ?_
      refine qz hQ ?_
      simp only [bs]
      simp [*]
theorem c_X2_islandAt {zs : zzT} {d : Nat} {Q : zzQ} {g : Nat → Nat → Int} {hh : Int64} {a : Nat} (ha : isW a) {n : Nat} (hn : g a 6 = (n : Int)) (hn5 : n ≤ 5) (hpl : plok n (g (a + 4))) {q : Int} (hq : rg q) (hQ : ∀ r, isAt (g (a + 4)) n q r → Q [.int (iI r)] (wof g hh)) : zzCL zs (d + 1) 10 [.ref a, .int (iI q)] (wof g hh) Q := by
  refine st_X2_islandAt (Nat.le_of_ble_eq_true rfl) (fun R hR => ?_)
  show R 0 [(0, .ref a), (1, .int (iI q))] [] _
  have loop : ∀ (k i : Nat), i ≤ n → n < i + k → (∀ j, j < i → g (a + 4) j ≠ q) → R 2 [(0, .ref a), (1, .int (iI q)), (2, .int (iI (i : Int)))] [] (wof g hh) := by
    intro k
    induction k with
    | zero => intro i; intros; omega
    | succ k ih =>
      intro i  hi1 hi2 hno
      refine z_iload_n hR dX2_islandAt_2 rfl rfl ?_
      refine z_aload_n hR dX2_islandAt_3 rfl rfl ?_
      refine g_get hR dX2_islandAt_4 zf_2_30 (wW_0 ha _) (gi hn) ?_
      refine g_icmp_ge hR (tgt := 28) dX2_islandAt_7 (by decide) (fun c7 => ?_) (fun c7 => ?_)
      · refine g_iconst hR dX2_islandAt_28 ?_
        refine g_iret hR dX2_islandAt_29 rfl ?_
        exact hQ _ (Or.inr ⟨fun j hj => hno j (by omega), rfl⟩)
      · have hp := hpl i (by omega)
        refine z_aload_n hR dX2_islandAt_10 rfl rfl ?_
        refine g_get hR dX2_islandAt_11 zf_2_21 (wW_0 ha _) rfl ?_
        refine z_iload_n hR dX2_islandAt_14 rfl rfl ?_
        refine g_ialdN hR dX2_islandAt_15 (wW_4 ha _) rfl ?_
        refine z_iload_n hR dX2_islandAt_16 rfl rfl ?_
        refine g_icmp_ne hR (tgt := 22) dX2_islandAt_17 (by decide) (fun c17 => ?_) (fun c17 => ?_)
        · refine g_iinc hR dX2_islandAt_22 rfl rfl (by decide) rfl ?_
          refine z_goto hR (tgt := 2) dX2_islandAt_25 (by decide) ?_
          refine ih (i + 1) (by omega) (by omega) (fun j hj => ?_)
          rcases Nat.lt_or_eq_of_le (Nat.le_of_lt_succ hj) with h | h
          · exact hno j h
          · rw [h]; exact c17
        · refine z_iload_n hR dX2_islandAt_20 rfl rfl ?_
          refine g_iret hR dX2_islandAt_21 rfl ?_
          exact hQ _ (Or.inl ⟨i, by omega, c17, rfl⟩)
  refine g_iconst hR dX2_islandAt_0 ?_
  refine z_istore_n hR dX2_islandAt_1 rfl (by decide) rfl ?_
  exact loop (n + 1) 0 (by omega) (by omega) (fun j hj => absurd hj (by omega))
