def cnz (f : FI) : Nat → Int
  | 0 => 0
  | k + 1 => cnz f k + (if f k = 0 then 0 else 1)
theorem cnz_rg (f : FI) : ∀ k : Nat, 0 ≤ cnz f k ∧ cnz f k ≤ k
  | 0 => by simp [cnz]
  | k + 1 => by
    have := cnz_rg f k
    unfold cnz
    split <;> omega
theorem cnz_congr {f f1 : FI} : ∀ {k : Nat}, eqn k f f1 → cnz f k = cnz f1 k
  | 0, _ => rfl
  | k + 1, h => by rw [cnz, cnz, h k (by omega), cnz_congr (fun j hj => h j (by omega))]
def cuo (z : Int) : Int := if z = 62 then 1 else if z = 60 then -1 else 0
def curI (pg f : FI) (i : Nat) : FI := fun j => if j < i then cuo (pg j) else f j
theorem curI_0 (pg f : FI) : curI pg f 0 = f := by funext j; simp [curI]
theorem curI_s (pg f : FI) (i : Nat) : iu (curI pg f i) i (cuo (pg i)) = curI pg f (i + 1) := by
  funext j
  simp only [iu, curI]
  by_cases e : j = i
  · subst e
    simp
  · simp only [if_neg e]
    by_cases h2 : j < i
    · have : j < i + 1 := by omega
      simp [h2, this]
    · have : ¬ j < i + 1 := by omega
      simp [h2, this]
theorem isAt_ex (pl : FI) (n : Nat) (q : Int) : ∃ r, isAt pl n q r := by
  by_cases h : ∃ j, j < n ∧ pl j = q
  · obtain ⟨j, h1, h2⟩ := h
    exact ⟨j, Or.inl ⟨j, h1, h2, rfl⟩⟩
  · exact ⟨-1, Or.inr ⟨fun j hj e => h ⟨j, hj, e⟩, rfl⟩⟩
theorem isAt_un {pl pl1 : FI} {n : Nat} {q r r1 : Int} (he : eqn n pl pl1) (hd : ∀ i j, i < n → j < n → pl i = pl j → i = j) (h : isAt pl n q r) (h1 : isAt pl1 n q r1) : r1 = r := by
  rcases h with ⟨j, a, b, e⟩ | ⟨a, e⟩ <;> rcases h1 with ⟨j1, a1, b1, e1⟩ | ⟨a1, e1⟩
  · rw [← he j1 a1] at b1
    have := hd j j1 a a1 (b.trans b1.symm)
    subst this
    rw [e, e1]
  · exact absurd ((he j a).symm.trans b) (a1 j a)
  · exact absurd ((he j1 a1).trans b1) (a j1 a1)
  · rw [e, e1]
theorem isAt_rg {pl : FI} {n : Nat} {q r : Int} (h : isAt pl n q r) (hn : n ≤ 5) : rg r := by
  unfold rg
  rcases h with ⟨j, a, b, e⟩ | ⟨a, e⟩ <;> omega
theorem c_X2_currents {zs : zzT} {d : Nat} {Q : zzQ} {g : Nat → Nat → Int} {hh : Int64} {a : Nat} (ha : isW a) (hcu : ∀ j, j < 12 → -1 ≤ g (a + 1) j ∧ g (a + 1) j ≤ 1) (hQ : Q [.int (iI (cnz (g (a + 1)) 12))] (wof g hh)) : zzCL zs (d + 1) 7 [.ref a] (wof g hh) Q := by
  refine st_X2_currents (Nat.le_of_ble_eq_true rfl) (fun R hR => ?_)
  show R 0 [(0, .ref a)] [] _
  have loop : ∀ (k i : Nat) (v : Int), i ≤ 12 → 12 < i + k → (v = cnz (g (a + 1)) i) → R 4 [(0, .ref a), (1, .int (iI v)), (2, .int (iI (i : Int)))] [] (wof g hh) := by
    intro k
    induction k with
    | zero => intro i; intros; omega
    | succ k ih =>
      intro i v hi1 hi2 hv
      refine z_iload_n hR dX2_currents_4 rfl rfl ?_
      refine g_bipush hR dX2_currents_5 ?_
      refine g_icmp_ge hR (tgt := 33) dX2_currents_7 (by decide) (fun c7 => ?_) (fun c7 => ?_)
      · have e : i = 12 := by omega
        subst e
        refine z_iload_n hR dX2_currents_33 rfl rfl ?_
        refine g_iret hR dX2_currents_34 rfl ?_
        rw [hv]
        exact hQ
      · have hci := hcu i (by omega)
        refine z_iload_n hR dX2_currents_10 rfl rfl ?_
        refine z_aload_n hR dX2_currents_11 rfl rfl ?_
        refine g_get hR dX2_currents_12 zf_2_9 (wW_0 ha _) rfl ?_
        refine z_iload_n hR dX2_currents_15 rfl rfl ?_
        refine g_ialdN hR dX2_currents_16 (wW_1 ha _) rfl ?_
        refine g_if_ne hR (tgt := 24) dX2_currents_17 (by decide) (fun c17 => ?_) (fun c17 => ?_)
        · refine g_iconst hR dX2_currents_24 ?_
          refine g_iadd hR dX2_currents_25 rfl ?_
          refine z_istore_n hR dX2_currents_26 rfl (by decide) rfl ?_
          refine g_iinc hR dX2_currents_27 rfl rfl (by decide) rfl ?_
          refine z_goto hR (tgt := 4) dX2_currents_30 (by decide) ?_
          refine ih (i + 1) _ (by omega) (by omega) ?_
          rw [hv, cnz]
          simp [c17]
        · refine g_iconst hR dX2_currents_20 ?_
          refine z_goto hR (tgt := 25) dX2_currents_21 (by decide) ?_
          refine g_iadd hR dX2_currents_25 rfl ?_
          refine z_istore_n hR dX2_currents_26 rfl (by decide) rfl ?_
          refine g_iinc hR dX2_currents_27 rfl rfl (by decide) rfl ?_
          refine z_goto hR (tgt := 4) dX2_currents_30 (by decide) ?_
          refine ih (i + 1) _ (by omega) (by omega) ?_
          rw [hv, cnz]
          simp [c17]
  refine g_iconst hR dX2_currents_0 ?_
  refine z_istore_n hR dX2_currents_1 rfl (by decide) rfl ?_
  refine g_iconst hR dX2_currents_2 ?_
  refine z_istore_n hR dX2_currents_3 rfl (by decide) rfl ?_
  exact loop 13 0 0 (by omega) (by omega) rfl
theorem c_X4_currentMany {zs : zzT} {d : Nat} {Q : zzQ} {g : Nat → Nat → Int} {hh : Int64} (hcu : ∀ j, j < 12 → -1 ≤ g 41 j ∧ g 41 j ≤ 1) (hQ : Q [.int (iI (cnz (g 41) 12))] (wof g hh)) : zzCL zs (d + 1) 82 [.ref 39] (wof g hh) Q := by
  refine st_X4_currentMany (Nat.le_of_ble_eq_true rfl) (fun R hR => ?_)
  show R 0 [(0, .ref 39)] [] _
  have loop : ∀ (k i : Nat) (v : Int), i ≤ 12 → 12 < i + k → (v = cnz (g 41) i) → R 4 [(0, .ref 39), (1, .int (iI v)), (2, .int (iI (i : Int)))] [] (wof g hh) := by
    intro k
    induction k with
    | zero => intro i; intros; omega
    | succ k ih =>
      intro i v hi1 hi2 hv
      refine z_iload_n hR dX4_currentMany_4 rfl rfl ?_
      refine g_bipush hR dX4_currentMany_5 ?_
      refine g_icmp_ge hR (tgt := 33) dX4_currentMany_7 (by decide) (fun c7 => ?_) (fun c7 => ?_)
      · have e : i = 12 := by omega
        subst e
        refine z_iload_n hR dX4_currentMany_33 rfl rfl ?_
        refine g_iret hR dX4_currentMany_34 rfl ?_
        rw [hv]
        exact hQ
      · have hci := hcu i (by omega)
        refine z_iload_n hR dX4_currentMany_10 rfl rfl ?_
        refine z_aload_n hR dX4_currentMany_11 rfl rfl ?_
        refine g_get hR dX4_currentMany_12 zf_4_13 (wk_39 _) rfl ?_
        refine z_iload_n hR dX4_currentMany_15 rfl rfl ?_
        refine g_ialdN hR dX4_currentMany_16 (wk_41 _) rfl ?_
        refine g_if_ne hR (tgt := 24) dX4_currentMany_17 (by decide) (fun c17 => ?_) (fun c17 => ?_)
        · refine g_iconst hR dX4_currentMany_24 ?_
          refine g_iadd hR dX4_currentMany_25 rfl ?_
          refine z_istore_n hR dX4_currentMany_26 rfl (by decide) rfl ?_
          refine g_iinc hR dX4_currentMany_27 rfl rfl (by decide) rfl ?_
          refine z_goto hR (tgt := 4) dX4_currentMany_30 (by decide) ?_
          refine ih (i + 1) _ (by omega) (by omega) ?_
          rw [hv, cnz]
          simp [c17]
        · refine g_iconst hR dX4_currentMany_20 ?_
          refine z_goto hR (tgt := 25) dX4_currentMany_21 (by decide) ?_
          refine g_iadd hR dX4_currentMany_25 rfl ?_
          refine z_istore_n hR dX4_currentMany_26 rfl (by decide) rfl ?_
          refine g_iinc hR dX4_currentMany_27 rfl rfl (by decide) rfl ?_
          refine z_goto hR (tgt := 4) dX4_currentMany_30 (by decide) ?_
          refine ih (i + 1) _ (by omega) (by omega) ?_
          rw [hv, cnz]
          simp [c17]
  refine g_iconst hR dX4_currentMany_0 ?_
  refine z_istore_n hR dX4_currentMany_1 rfl (by decide) rfl ?_
  refine g_iconst hR dX4_currentMany_2 ?_
  refine z_istore_n hR dX4_currentMany_3 rfl (by decide) rfl ?_
  exact loop 13 0 0 (by omega) (by omega) rfl
theorem c_X3_currentOf {zs : zzT} {d : Nat} {Q : zzQ} {w : zzW} {z : Int} (hz : rg z) (hQ : Q [.int (iI (cuo z))] w) : zzCL zs (d + 1) 6 [.int (iI z)] w Q := by
  refine st_X3_currentOf (Nat.le_of_ble_eq_true rfl) (fun R hR => ?_)
  show R 0 [(0, .int (iI z))] [] _
  refine z_iload_n hR dX3_currentOf_0 rfl rfl ?_
  refine g_bipush hR dX3_currentOf_1 ?_
  refine g_icmp_ne hR (tgt := 8) dX3_currentOf_3 (by decide) (fun c3 => ?_) (fun c3 => ?_)
  · refine z_iload_n hR dX3_currentOf_8 rfl rfl ?_
    refine g_bipush hR dX3_currentOf_9 ?_
    refine g_icmp_ne hR (tgt := 18) dX3_currentOf_11 (by decide) (fun c11 => ?_) (fun c11 => ?_)
    · refine g_iconst hR dX3_currentOf_18 ?_
      refine g_iret hR dX3_currentOf_19 rfl ?_
      refine qi hQ ?_
      simp [cuo, *]
    · refine g_iconst hR dX3_currentOf_14 ?_
      refine z_goto hR (tgt := 19) dX3_currentOf_15 (by decide) ?_
      refine g_iret hR dX3_currentOf_19 rfl ?_
      refine qi hQ ?_
      simp [cuo, *]
  · refine g_iconst hR dX3_currentOf_6 ?_
    refine g_iret hR dX3_currentOf_7 rfl ?_
    refine qi hQ ?_
    simp [cuo, *]
theorem c_X2_clear {zs : zzT} {d : Nat} {Q : zzQ} {g : Nat → Nat → Int} {hh : Int64} {a : Nat} (ha : isW a) (hQ : Q [] (wof (gr g a (iu (iu (iu (iu (iu (iu (g a) 6 0) 7 0) 8 0) 9 0) 10 0) 11 0)) hh)) : zzCL zs (d + 1) 5 [.ref a] (wof g hh) Q := by
  refine st_X2_clear (Nat.le_of_ble_eq_true rfl) (fun R hR => ?_)
  show R 0 [(0, .ref a)] [] _
  refine z_aload_n hR dX2_clear_0 rfl rfl ?_
  refine g_iconst hR dX2_clear_1 ?_
  refine g_put hR dX2_clear_2 zf_2_30 (wW_0 ha _) (Nat.le_of_ble_eq_true rfl) rfl rfl rfl rfl ?_
  refine z_aload_n hR dX2_clear_5 rfl rfl ?_
  refine g_iconst hR dX2_clear_6 ?_
  refine g_put hR dX2_clear_7 zf_2_34 (wW_0 ha _) (Nat.le_of_ble_eq_true rfl) rfl rfl rfl rfl ?_
  simp only [gr_gr, gr_s]
  refine z_aload_n hR dX2_clear_10 rfl rfl ?_
  refine g_iconst hR dX2_clear_11 ?_
  refine g_put hR dX2_clear_12 zf_2_37 (wW_0 ha _) (Nat.le_of_ble_eq_true rfl) rfl rfl rfl rfl ?_
  simp only [gr_gr, gr_s]
  refine z_aload_n hR dX2_clear_15 rfl rfl ?_
  refine g_iconst hR dX2_clear_16 ?_
  refine g_put hR dX2_clear_17 zf_2_40 (wW_0 ha _) (Nat.le_of_ble_eq_true rfl) rfl rfl rfl rfl ?_
  simp only [gr_gr, gr_s]
  refine z_aload_n hR dX2_clear_20 rfl rfl ?_
  refine g_iconst hR dX2_clear_21 ?_
  refine g_put hR dX2_clear_22 zf_2_43 (wW_0 ha _) (Nat.le_of_ble_eq_true rfl) rfl rfl rfl rfl ?_
  simp only [gr_gr, gr_s]
  refine z_aload_n hR dX2_clear_25 rfl rfl ?_
  refine g_iconst hR dX2_clear_26 ?_
  refine g_put hR dX2_clear_27 zf_2_46 (wW_0 ha _) (Nat.le_of_ble_eq_true rfl) rfl rfl rfl rfl ?_
  simp only [gr_gr, gr_s]
  refine g_vret hR dX2_clear_30 rfl ?_
  exact hQ
theorem c_X3_sea {zs : zzT} {d : Nat} {Q : zzQ} {g : Nat → Nat → Int} {hh : Int64} {L : Nat} (hL : g 0 1 = (L : Int)) (hL2 : L ≤ 14) (hpg0 : ∀ j, j < L → 1 ≤ g 1 j ∧ g 1 j ≤ 126) (h1 : ¬ (L = 12 ∧ fsg (g 1) (min L 12) 0 = 12) → Q [.int (iI (-103))] (wof g hh)) (h2 : L = 12 → fsg (g 1) (min L 12) 0 = 12 → Q [.int (iI (cnz (curI (g 1) (g 3) 12) 12))] (wof (gr (gr (gr (gr g 2 (iu (iu (iu (iu (iu (iu (g 2) 6 0) 7 0) 8 0) 9 0) 10 0) 11 0)) 3 (curI (g 1) (g 3) 12)) 23 (iu (g 23) 4 0)) 0 (iu (iu (iu (iu (g 0) 1 0) 2 1) 3 0) 4 (g 0 4 + 1))) hh)) : zzCL zs (d + 3) 4 [.ref 0] (wof g hh) Q := by
  refine st_X3_sea (Nat.le_of_ble_eq_true rfl) (fun R hR => ?_)
  show R 0 [(0, .ref 0)] [] _
  refine z_aload_n hR dX3_sea_0 rfl rfl ?_
  refine g_get hR dX3_sea_1 zf_3_13 (wk_0 _) (gi hL) ?_
  refine g_bipush hR dX3_sea_4 ?_
  refine g_icmp_ne hR (tgt := 18) dX3_sea_6 (by decide) (fun c6 => ?_) (fun c6 => ?_)
  · refine g_bipush hR dX3_sea_18 ?_
    refine g_iret hR dX3_sea_20 rfl ?_
    exact h1 (by omega)
  · refine z_aload_n hR dX3_sea_9 rfl rfl ?_
    refine g_inv0 hR dX3_sea_10 zm_3_73 (by decide) zN_X3_fault ((wk_0 _) _) zO_X3_fault (Nat.le_of_ble_eq_true rfl) ?_
    refine c_X3_fault hL hL2 hpg0 ?_
    show R 13 _ (.int _ :: _) _
    refine g_bipush hR dX3_sea_13 ?_
    refine g_icmp_eq hR (tgt := 21) dX3_sea_15 (by decide) (fun c15 => ?_) (fun c15 => ?_) (hx := by have := fsg_le (g 1) (min L 12) 0; unfold rg; omega)
    · have hL12 : L = 12 := by omega
      have hf12 : fsg (g 1) (min L 12) 0 = 12 := by omega
      have hpg : ∀ j, j < 12 → 1 ≤ g 1 j ∧ g 1 j ≤ 126 := fun j hj => hpg0 j (by omega)
      have hcr : ∀ j, j < 12 → -1 ≤ curI (g 1) (g 3) 12 j ∧ curI (g 1) (g 3) 12 j ≤ 1 := fun j hj => by simp only [curI, if_pos hj, cuo]; split <;> (try split) <;> omega
      refine z_aload_n hR dX3_sea_21 rfl rfl ?_
      refine g_get hR dX3_sea_22 zf_3_33 (wk_0 _) rfl ?_
      refine g_inv0 hR dX3_sea_25 zm_3_77 (by decide) zN_X2_clear ((wk_2 _) _) zO_X2_clear (Nat.le_of_ble_eq_true rfl) ?_
      refine c_X2_clear isW2 ?_
      show R 28 _ _ _
      have loop : ∀ (k i : Nat), i ≤ 12 → 12 < i + k → R 30 [(0, .ref 0), (1, .int (iI (i : Int)))] [] (wof (gr (gr g 2 (iu (iu (iu (iu (iu (iu (g 2) 6 0) 7 0) 8 0) 9 0) 10 0) 11 0)) 3 (curI (g 1) (g 3) i)) hh) := by
        intro k
        induction k with
        | zero => intro i; intros; omega
        | succ k ih =>
          intro i  hi1 hi2 
          refine z_iload_n hR dX3_sea_30 rfl rfl ?_
          refine g_bipush hR dX3_sea_31 ?_
          refine g_icmp_ge hR (tgt := 60) dX3_sea_33 (by decide) (fun c33 => ?_) (fun c33 => ?_)
          · have e : i = 12 := by omega
            subst e
            refine z_aload_n hR dX3_sea_60 rfl rfl ?_
            refine g_get hR dX3_sea_61 zf_3_46 (wk_0 _) rfl ?_
            refine g_iconst hR dX3_sea_64 ?_
            refine g_put hR dX3_sea_65 zf_3_87 (wk_23 _) (Nat.le_of_ble_eq_true rfl) rfl rfl rfl rfl ?_
            refine z_aload_n hR dX3_sea_68 rfl rfl ?_
            refine g_iconst hR dX3_sea_69 ?_
            refine g_put hR dX3_sea_70 zf_3_13 (wk_0 _) (Nat.le_of_ble_eq_true rfl) rfl rfl rfl rfl ?_
            try simp only [gr_gr, gr_s]
            refine z_aload_n hR dX3_sea_73 rfl rfl ?_
            refine g_iconst hR dX3_sea_74 ?_
            refine g_put hR dX3_sea_75 zf_3_17 (wk_0 _) (Nat.le_of_ble_eq_true rfl) rfl (by decide) (by decide) rfl ?_
            simp only [gr_gr, gr_s]
            refine z_aload_n hR dX3_sea_78 rfl rfl ?_
            refine g_iconst hR dX3_sea_79 ?_
            refine g_put hR dX3_sea_80 zf_3_21 (wk_0 _) (Nat.le_of_ble_eq_true rfl) rfl (by decide) (by decide) rfl ?_
            simp only [gr_gr, gr_s]
            refine z_aload_n hR dX3_sea_83 rfl rfl ?_
            refine z_dup hR dX3_sea_84 rfl ?_
            refine g_get hR dX3_sea_85 zf_3_24 (wk_0 _) rfl ?_
            refine g_iconst hR dX3_sea_88 ?_
            refine g_iadd hR dX3_sea_89 rfl ?_
            refine g_put hR dX3_sea_90 zf_3_24 (wk_0 _) (Nat.le_of_ble_eq_true rfl) rfl rfl rfl rfl ?_
            simp only [gr_gr, gr_s]
            refine z_aload_n hR dX3_sea_93 rfl rfl ?_
            refine g_get hR dX3_sea_94 zf_3_33 (wk_0 _) rfl ?_
            refine g_inv0 hR dX3_sea_97 zm_3_90 (by decide) zN_X2_currents ((wk_2 _) _) zO_X2_currents (Nat.le_of_ble_eq_true rfl) ?_
            refine c_X2_currents isW2 hcr ?_
            show R 100 _ (.int _ :: _) _
            refine g_iret hR dX3_sea_100 rfl ?_
            exact h2 hL12 hf12
          · have hpi := hpg i (by omega)
            refine z_aload_n hR dX3_sea_36 rfl rfl ?_
            refine g_get hR dX3_sea_37 zf_3_33 (wk_0 _) rfl ?_
            refine g_get hR dX3_sea_40 zf_3_80 (wk_2 _) rfl ?_
            refine z_iload_n hR dX3_sea_43 rfl rfl ?_
            refine z_aload_n hR dX3_sea_44 rfl rfl ?_
            refine g_get hR dX3_sea_45 zf_3_9 (wk_0 _) rfl ?_
            refine z_iload_n hR dX3_sea_48 rfl rfl ?_
            refine g_ialdN hR dX3_sea_49 (wk_1 _) (show gr (gr g 2 (iu (iu (iu (iu (iu (iu (g 2) 6 0) 7 0) 8 0) 9 0) 10 0) 11 0)) 3 (curI (g 1) (g 3) i) 1 i = g 1 i from rfl) ?_
            refine g_sta1 hR dX3_sea_50 zm_3_83 zN_X3_currentOf (Nat.le_of_ble_eq_true rfl) ?_
            refine c_X3_currentOf (by unfold rg; omega) ?_
            show R 53 _ (.int _ :: _) _
            refine g_iastN hR dX3_sea_53 (wk_3 _) ?_
            rw [gr_s, gr_gr, curI_s]
            refine g_iinc hR dX3_sea_54 rfl rfl (by decide) rfl ?_
            refine z_goto hR (tgt := 30) dX3_sea_57 (by decide) ?_
            exact ih (i + 1) (by omega) (by omega)
      refine g_iconst hR dX3_sea_28 ?_
      refine z_istore_n hR dX3_sea_29 rfl (by decide) rfl ?_
      have hl := loop 13 0 (by omega) (by omega)
      rw [curI_0] at hl
      rw [show gr (gr g 2 (iu (iu (iu (iu (iu (iu (g 2) 6 0) 7 0) 8 0) 9 0) 10 0) 11 0)) 3 (g 3) = gr g 2 (iu (iu (iu (iu (iu (iu (g 2) 6 0) 7 0) 8 0) 9 0) 10 0) 11 0) from gr_self (gr g 2 (iu (iu (iu (iu (iu (iu (g 2) 6 0) 7 0) 8 0) 9 0) 10 0) 11 0)) 3] at hl
      exact hl
    · refine g_bipush hR dX3_sea_18 ?_
      refine g_iret hR dX3_sea_20 rfl ?_
      exact h1 (by omega)
theorem c_X4_sea {zs : zzT} {d : Nat} {Q : zzQ} {g : Nat → Nat → Int} {hh : Int64} {L : Nat} (hL : g 39 1 = (L : Int)) (hL2 : L ≤ 14) (hpg0 : ∀ j, j < L → 1 ≤ g 40 j ∧ g 40 j ≤ 126) (h1 : ¬ (L = 12 ∧ fsg (g 40) (min L 12) 0 = 12) → Q [.int (iI (-103))] (wof g hh)) (h2 : L = 12 → fsg (g 40) (min L 12) 0 = 12 → Q [.int (iI (cnz (curI (g 40) (g 41) 12) 12))] (wof (gr (gr g 41 (curI (g 40) (g 41) 12)) 39 (iu (iu (iu (iu (iu (iu (iu (iu (iu (g 39) 2 1) 3 0) 4 0) 5 0) 8 0) 9 0) 22 0) 6 (g 39 6 + 1)) 1 0)) hh)) : zzCL zs (d + 2) 81 [.ref 39] (wof g hh) Q := by
  refine st_X4_sea (Nat.le_of_ble_eq_true rfl) (fun R hR => ?_)
  show R 0 [(0, .ref 39)] [] _
  refine z_aload_n hR dX4_sea_0 rfl rfl ?_
  refine g_get hR dX4_sea_1 zf_4_56 (wk_39 _) (gi hL) ?_
  refine g_bipush hR dX4_sea_4 ?_
  refine g_icmp_ne hR (tgt := 18) dX4_sea_6 (by decide) (fun c6 => ?_) (fun c6 => ?_)
  · refine g_bipush hR dX4_sea_18 ?_
    refine g_iret hR dX4_sea_20 rfl ?_
    exact h1 (by omega)
  · refine z_aload_n hR dX4_sea_9 rfl rfl ?_
    refine g_inv0 hR dX4_sea_10 zm_4_59 (by decide) zN_X4_faultOf ((wk_39 _) _) zO_X4_faultOf (Nat.le_of_ble_eq_true rfl) ?_
    refine c_X4_faultOf hL hL2 hpg0 ?_
    show R 13 _ (.int _ :: _) _
    refine g_bipush hR dX4_sea_13 ?_
    refine g_icmp_ge hR (tgt := 21) dX4_sea_15 (by decide) (fun c15 => ?_) (fun c15 => ?_) (hx := by have := fsg_le (g 40) (min L 12) 0; unfold rg; omega)
    · have hL12 : L = 12 := by omega
      have hf12 : fsg (g 40) (min L 12) 0 = 12 := by have := fsg_le (g 40) (min L 12) 0; omega
      have hpg : ∀ j, j < 12 → 1 ≤ g 40 j ∧ g 40 j ≤ 126 := fun j hj => hpg0 j (by omega)
      have hcr : ∀ j, j < 12 → -1 ≤ curI (g 40) (g 41) 12 j ∧ curI (g 40) (g 41) 12 j ≤ 1 := fun j hj => by simp only [curI, if_pos hj, cuo]; split <;> (try split) <;> omega
      have loop : ∀ (k i : Nat), i ≤ 12 → 12 < i + k → R 23 [(0, .ref 39), (1, .int (iI (i : Int)))] [] (wof (gr g 41 (curI (g 40) (g 41) i)) hh) := by
        intro k
        induction k with
        | zero => intro i; intros; omega
        | succ k ih =>
          intro i  hi1 hi2 
          refine z_iload_n hR dX4_sea_23 rfl rfl ?_
          refine g_bipush hR dX4_sea_24 ?_
          refine g_icmp_ge hR (tgt := 72) dX4_sea_26 (by decide) (fun c26 => ?_) (fun c26 => ?_)
          · have e : i = 12 := by omega
            subst e
            refine z_aload_n hR dX4_sea_72 rfl rfl ?_
            refine g_iconst hR dX4_sea_73 ?_
            refine g_put hR dX4_sea_74 zf_4_63 (wk_39 _) (Nat.le_of_ble_eq_true rfl) rfl (by decide) (by decide) rfl ?_
            refine z_aload_n hR dX4_sea_77 rfl rfl ?_
            refine g_iconst hR dX4_sea_78 ?_
            refine g_put hR dX4_sea_79 zf_4_67 (wk_39 _) (Nat.le_of_ble_eq_true rfl) rfl rfl rfl rfl ?_
            simp only [gr_gr, gr_s]
            refine z_aload_n hR dX4_sea_82 rfl rfl ?_
            refine g_iconst hR dX4_sea_83 ?_
            refine g_put hR dX4_sea_84 zf_4_70 (wk_39 _) (Nat.le_of_ble_eq_true rfl) rfl rfl rfl rfl ?_
            simp only [gr_gr, gr_s]
            refine z_aload_n hR dX4_sea_87 rfl rfl ?_
            refine g_iconst hR dX4_sea_88 ?_
            refine g_put hR dX4_sea_89 zf_4_73 (wk_39 _) (Nat.le_of_ble_eq_true rfl) rfl rfl rfl rfl ?_
            simp only [gr_gr, gr_s]
            refine z_aload_n hR dX4_sea_92 rfl rfl ?_
            refine g_iconst hR dX4_sea_93 ?_
            refine g_put hR dX4_sea_94 zf_4_76 (wk_39 _) (Nat.le_of_ble_eq_true rfl) rfl rfl rfl rfl ?_
            simp only [gr_gr, gr_s]
            refine z_aload_n hR dX4_sea_97 rfl rfl ?_
            refine g_iconst hR dX4_sea_98 ?_
            refine g_put hR dX4_sea_99 zf_4_79 (wk_39 _) (Nat.le_of_ble_eq_true rfl) rfl rfl rfl rfl ?_
            simp only [gr_gr, gr_s]
            refine z_aload_n hR dX4_sea_102 rfl rfl ?_
            refine g_iconst hR dX4_sea_103 ?_
            refine g_put hR dX4_sea_104 zf_4_82 (wk_39 _) (Nat.le_of_ble_eq_true rfl) rfl rfl rfl rfl ?_
            simp only [gr_gr, gr_s]
            refine z_aload_n hR dX4_sea_107 rfl rfl ?_
            refine z_dup hR dX4_sea_108 rfl ?_
            refine g_get hR dX4_sea_109 zf_4_85 (wk_39 _) rfl ?_
            refine g_iconst hR dX4_sea_112 ?_
            refine g_iadd hR dX4_sea_113 rfl ?_
            refine g_put hR dX4_sea_114 zf_4_85 (wk_39 _) (Nat.le_of_ble_eq_true rfl) rfl rfl rfl rfl ?_
            simp only [gr_gr, gr_s]
            refine z_aload_n hR dX4_sea_117 rfl rfl ?_
            refine g_iconst hR dX4_sea_118 ?_
            refine g_put hR dX4_sea_119 zf_4_56 (wk_39 _) (Nat.le_of_ble_eq_true rfl) rfl rfl rfl rfl ?_
            simp only [gr_gr, gr_s]
            refine z_aload_n hR dX4_sea_122 rfl rfl ?_
            refine g_inv0 hR dX4_sea_123 zm_4_88 (by decide) zN_X4_currentMany ((wk_39 _) _) zO_X4_currentMany (Nat.le_of_ble_eq_true rfl) ?_
            refine c_X4_currentMany hcr ?_
            show R 126 _ (.int _ :: _) _
            refine g_iret hR dX4_sea_126 rfl ?_
            exact h2 hL12 hf12
          · have hpi := hpg i (by omega)
            refine z_aload_n hR dX4_sea_29 rfl rfl ?_
            refine g_get hR dX4_sea_30 zf_4_13 (wk_39 _) rfl ?_
            refine z_iload_n hR dX4_sea_33 rfl rfl ?_
            refine z_aload_n hR dX4_sea_34 rfl rfl ?_
            refine g_get hR dX4_sea_35 zf_4_7 (wk_39 _) rfl ?_
            refine z_iload_n hR dX4_sea_38 rfl rfl ?_
            refine g_ialdN hR dX4_sea_39 (wk_40 _) (show gr g 41 (curI (g 40) (g 41) i) 40 i = g 40 i from rfl) ?_
            refine g_bipush hR dX4_sea_40 ?_
            refine g_icmp_ne hR (tgt := 49) dX4_sea_42 (by decide) (fun c42 => ?_) (fun c42 => ?_)
            · refine z_aload_n hR dX4_sea_49 rfl rfl ?_
              refine g_get hR dX4_sea_50 zf_4_7 (wk_39 _) rfl ?_
              refine z_iload_n hR dX4_sea_53 rfl rfl ?_
              refine g_ialdN hR dX4_sea_54 (wk_40 _) (show gr g 41 (curI (g 40) (g 41) i) 40 i = g 40 i from rfl) ?_
              refine g_bipush hR dX4_sea_55 ?_
              refine g_icmp_ne hR (tgt := 64) dX4_sea_57 (by decide) (fun c57 => ?_) (fun c57 => ?_)
              · refine g_iconst hR dX4_sea_64 ?_
                refine g_iastN hR dX4_sea_65 (wk_41 _) ?_
                refine g_iinc hR dX4_sea_66 rfl rfl (by decide) rfl ?_
                refine z_goto hR (tgt := 23) dX4_sea_69 (by decide) ?_
                rw [gr_s, gr_gr]
                have hst := ih (i + 1) (by omega) (by omega)
                rw [← curI_s] at hst
                unfold cuo at hst
                first | (rw [if_pos c42] at hst; exact hst) | (rw [if_neg c42, if_pos c57] at hst; exact hst) | (rw [if_neg c42, if_neg c57] at hst; exact hst)
              · refine g_iconst hR dX4_sea_60 ?_
                refine z_goto hR (tgt := 65) dX4_sea_61 (by decide) ?_
                refine g_iastN hR dX4_sea_65 (wk_41 _) ?_
                refine g_iinc hR dX4_sea_66 rfl rfl (by decide) rfl ?_
                refine z_goto hR (tgt := 23) dX4_sea_69 (by decide) ?_
                rw [gr_s, gr_gr]
                have hst := ih (i + 1) (by omega) (by omega)
                rw [← curI_s] at hst
                unfold cuo at hst
                first | (rw [if_pos c42] at hst; exact hst) | (rw [if_neg c42, if_pos c57] at hst; exact hst) | (rw [if_neg c42, if_neg c57] at hst; exact hst)
            · refine g_iconst hR dX4_sea_45 ?_
              refine z_goto hR (tgt := 65) dX4_sea_46 (by decide) ?_
              refine g_iastN hR dX4_sea_65 (wk_41 _) ?_
              refine g_iinc hR dX4_sea_66 rfl rfl (by decide) rfl ?_
              refine z_goto hR (tgt := 23) dX4_sea_69 (by decide) ?_
              rw [gr_s, gr_gr]
              have hst := ih (i + 1) (by omega) (by omega)
              rw [← curI_s] at hst
              unfold cuo at hst
              first | (rw [if_pos c42] at hst; exact hst) | (rw [if_neg c42, if_pos c57] at hst; exact hst) | (rw [if_neg c42, if_neg c57] at hst; exact hst)
      refine g_iconst hR dX4_sea_21 ?_
      refine z_istore_n hR dX4_sea_22 rfl (by decide) rfl ?_
      have hl := loop 13 0 (by omega) (by omega)
      rw [curI_0, gr_self] at hl
      exact hl
    · refine g_bipush hR dX4_sea_18 ?_
      refine g_iret hR dX4_sea_20 rfl ?_
      exact h1 (by omega)
theorem op_sea {zs : zzT} {c : Nat} {g : Nat → Nat → Int} {hh : Int64} (hz : zsok zs) (h : Rel c g) (hc : c < 512)  : opOK zs 4 81 [.ref 0] [.ref 39] c g hh := by
  obtain ⟨L, hL, hL1, hL2, hpg⟩ := h.2.1
  have he : fsg (g 1) (min L 12) 0 = fsg (g 40) (min L 12) 0 := fsg_congr _ _ (fun j _ hj => (hpg j (by omega)).1)
  have hp1 : ∀ j, j < L → 1 ≤ g 1 j ∧ g 1 j ≤ 126 := fun j hj => (hpg j hj).2
  have hp2 : ∀ j, j < L → 1 ≤ g 40 j ∧ g 40 j ≤ 126 := fun j hj => by rw [← (hpg j hj).1]; exact (hpg j hj).2
  by_cases hA : L = 12 ∧ fsg (g 1) (min L 12) 0 = 12
  · have hce : eqn 12 (curI (g 1) (g 3) 12) (curI (g 40) (g 41) 12) := fun j hj => by simp only [curI, if_pos hj, (hpg j (by omega)).1]
    have hcn := cnz_rg (curI (g 1) (g 3) 12) 12
    refine op_ex (r := cnz (curI (g 1) (g 3) 12) 12) (by unfold rg; omega) ?_ (fun Q q => c_X3_sea hL hL2 hp1 (fun x => absurd hA x) (fun _ _ => q)) (fun Q q => c_X4_sea (g := gr (gr (gr (gr g 2 (iu (iu (iu (iu (iu (iu (g 2) 6 0) 7 0) 8 0) 9 0) 10 0) 11 0)) 3 (curI (g 1) (g 3) 12)) 23 (iu (g 23) 4 0)) 0 (iu (iu (iu (iu (g 0) 1 0) 2 1) 3 0) 4 (g 0 4 + 1))) hL1 hL2 hp2 (fun x => absurd ⟨hA.1, he ▸ hA.2⟩ x) (fun _ _ => by rw [show cnz (curI ((gr (gr (gr (gr g 2 (iu (iu (iu (iu (iu (iu (g 2) 6 0) 7 0) 8 0) 9 0) 10 0) 11 0)) 3 (curI (g 1) (g 3) 12)) 23 (iu (g 23) 4 0)) 0 (iu (iu (iu (iu (g 0) 1 0) 2 1) 3 0) 4 (g 0 4 + 1))) 40) ((gr (gr (gr (gr g 2 (iu (iu (iu (iu (iu (iu (g 2) 6 0) 7 0) 8 0) 9 0) 10 0) 11 0)) 3 (curI (g 1) (g 3) 12)) 23 (iu (g 23) 4 0)) 0 (iu (iu (iu (iu (g 0) 1 0) 2 1) 3 0) 4 (g 0 4 + 1))) 41) 12) 12 = cnz (curI (g 1) (g 3) 12) 12 from (cnz_congr hce).symm]; exact q))
    have hs := Rel_step h hc
    have hnum := h.2.2.1
    refine ⟨hs.1, ⟨0, rfl, rfl, by omega, fun j hj => absurd hj (by omega)⟩, ⟨⟨rfl, Or.inr rfl⟩, ⟨show g 0 4 + 1 = g 39 6 + 1 by rw [hnum.2.1.1], show 0 ≤ g 39 6 + 1 by have := hnum.2.1.2.1; omega, show g 39 6 + 1 ≤ ((c + 1 : Nat) : Int) by have := hnum.2.1.2.2; omega⟩, hnum.2.2⟩, fun j hj => ⟨hce j hj, ?_⟩, ?_, Or.inl ⟨rfl, ?_, ?_⟩⟩
    · show -1 ≤ curI (g 1) (g 3) 12 j ∧ curI (g 1) (g 3) 12 j ≤ 1
      simp only [curI, if_pos hj, cuo]
      split <;> (try split) <;> omega
    · refine ⟨0, 0, 0, 0, fun _ => 0, fun _ => 0, fun _ => 0, ⟨⟨rfl, rfl⟩, ⟨rfl, rfl⟩, ⟨rfl, rfl⟩, ⟨rfl, by show (-1 : Int) ≤ 0; omega, by show (0 : Int) ≤ 1; omega⟩, ⟨rfl, by show (0 : Int) ≤ 0; omega, by show (0 : Int) ≤ ((c + 1 : Nat) : Int); omega⟩, rfl, fun j hj => absurd hj (by omega), fun i j hi => absurd hi (by omega), fun j hj => absurd hj (by omega), fun r hr => absurd hr (by omega), ⟨by omega, by omega, fun r hr => absurd hr (by omega), fun r s _ hs => absurd hs (by omega), fun i hi => absurd hi (by omega), fun i j hi => absurd hi (by omega)⟩⟩, ⟨rfl, rfl, by omega, fun k hk => absurd hk (by omega)⟩⟩
    · show -1 ≤ g 39 25
      rcases h.2.2.2.2.2 with q | q
      · exact q.2.1
      · have := hnum.2.1.2.1; omega
    · show g 39 25 < g 39 6 + 1
      rcases h.2.2.2.2.2 with q | q <;> omega
  · have hA2 : ¬ (L = 12 ∧ fsg (g 40) (min L 12) 0 = 12) := by rw [← he]; exact hA
    exact op_id (r := -103) (by unfold rg; omega) h hc (fun Q q => c_X3_sea hL hL2 hp1 (fun _ => q) (fun a b => absurd ⟨a, b⟩ hA)) (fun Q q => c_X4_sea hL1 hL2 hp2 (fun _ => q) (fun a b => absurd ⟨a, b⟩ hA2))
