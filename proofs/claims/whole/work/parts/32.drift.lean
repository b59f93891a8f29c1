/-- what a drift needs of a Waters at a -/
def WD (g : Nat → Nat → Int) (a n an : Nat) : Prop := g a 6 = (n : Int) ∧ n ≤ 5 ∧ (∀ j, j < 12 → -1 ≤ g (a + 1) j ∧ g (a + 1) j ≤ 1) ∧ (∀ j, j < n → 0 ≤ g (a + 2) j ∧ g (a + 2) j ≤ 4) ∧ (∀ j, j < n → 1 ≤ g (a + 3) j ∧ g (a + 3) j ≤ 9) ∧ plok n (g (a + 4)) ∧ g a 8 = (an : Int) ∧ an < 32 ∧ (-1 ≤ g a 9 ∧ g a 9 ≤ 1) ∧ (0 ≤ g a 10 ∧ g a 10 < 2147483648)
theorem c_J6_compare {zs : zzT} {d : Nat} {Q : zzQ} {w : zzW} {x : Int} (hx : rg x) (hQ : Q [.int (iI (sg x))] w) : zzCL zs (d + 1) 37 [.int (iI x), .int (iI 0)] w Q := by
  refine st_J6_compare_7cf53 (Nat.le_of_ble_eq_true rfl) (fun R hR => ?_)
  show R 0 [(0, .int (iI x)), (1, .int (iI 0))] [] _
  refine z_iload_n hR dJ6_compare_7cf53_0 rfl rfl ?_
  refine z_iload_n hR dJ6_compare_7cf53_1 rfl rfl ?_
  refine g_icmp_ge hR (tgt := 9) dJ6_compare_7cf53_2 (by decide) (fun c2 => ?_) (fun c2 => ?_)
  · refine z_iload_n hR dJ6_compare_7cf53_9 rfl rfl ?_
    refine z_iload_n hR dJ6_compare_7cf53_10 rfl rfl ?_
    refine g_icmp_ne hR (tgt := 18) dJ6_compare_7cf53_11 (by decide) (fun c11 => ?_) (fun c11 => ?_)
    · refine g_iconst hR dJ6_compare_7cf53_18 ?_
      refine g_iret hR dJ6_compare_7cf53_19 rfl ?_
      refine qi hQ ?_
      unfold sg
      repeat' split
      all_goals omega
    · refine g_iconst hR dJ6_compare_7cf53_14 ?_
      refine z_goto hR (tgt := 19) dJ6_compare_7cf53_15 (by decide) ?_
      refine g_iret hR dJ6_compare_7cf53_19 rfl ?_
      refine qi hQ ?_
      unfold sg
      repeat' split
      all_goals omega
  · refine g_iconst hR dJ6_compare_7cf53_5 ?_
    refine z_goto hR (tgt := 19) dJ6_compare_7cf53_6 (by decide) ?_
    refine g_iret hR dJ6_compare_7cf53_19 rfl ?_
    refine qi hQ ?_
    unfold sg
    repeat' split
    all_goals omega
theorem c_X2_isAnchored {zs : zzT} {d : Nat} {Q : zzQ} {g : Nat → Nat → Int} {hh : Int64} {a : Nat} (ha : isW a) {an i : Nat} (han : g a 8 = (an : Int)) (han2 : an < 32) (hi : i < 5) (hQ : Q [.int (iI (b2i (an.testBit i)))] (wof g hh)) : zzCL zs (d + 1) 18 [.ref a, .int (iI (i : Int))] (wof g hh) Q := by
  refine st_X2_isAnchored (Nat.le_of_ble_eq_true rfl) (fun R hR => ?_)
  show R 0 [(0, .ref a), (1, .int (iI (i : Int)))] [] _
  refine z_aload_n hR dX2_isAnchored_0 rfl rfl ?_
  refine g_get hR dX2_isAnchored_1 zf_2_37 (wW_0 ha _) (gi han) ?_
  refine z_iload_n hR dX2_isAnchored_4 rfl rfl ?_
  refine g_ishrN hR dX2_isAnchored_5 rfl ?_
  refine g_iconst hR dX2_isAnchored_6 ?_
  refine g_iand1 hR dX2_isAnchored_7 (tb_int _ _) ?_
  refine g_iconst hR dX2_isAnchored_8 ?_
  refine g_icmp_neb hR (tgt := 16) dX2_isAnchored_9 (by decide) (fun c9 => ?_) (fun c9 => ?_)
  · refine g_iconst hR dX2_isAnchored_16 ?_
    refine g_zret (b := false) hR dX2_isAnchored_17 rfl ?_
    exact qz hQ (by simp [*])
  · refine g_iconst hR dX2_isAnchored_12 ?_
    refine z_goto hR (tgt := 17) dX2_isAnchored_13 (by decide) ?_
    refine g_zret (b := true) hR dX2_isAnchored_17 rfl ?_
    exact qz hQ (by simp [*])
theorem c_X2_leads {zs : zzT} {d : Nat} {Q : zzQ} {g : Nat → Nat → Int} {hh : Int64} {a : Nat} (ha : isW a) {pt : Nat → Nat} {i : Nat} (hi : i < 5) (hpt : g (a + 6) i = ((pt i : Nat) : Int)) (hQ : Q [.int (iI (b2i (lead pt i)))] (wof g hh)) : zzCL zs (d + 1) 34 [.ref a, .int (iI (i : Int))] (wof g hh) Q := by
  refine st_X2_leads (Nat.le_of_ble_eq_true rfl) (fun R hR => ?_)
  show R 0 [(0, .ref a), (1, .int (iI (i : Int)))] [] _
  refine z_aload_n hR dX2_leads_0 rfl rfl ?_
  refine g_get hR dX2_leads_1 zf_2_27 (wW_0 ha _) rfl ?_
  refine z_iload_n hR dX2_leads_4 rfl rfl ?_
  refine g_ialdN hR dX2_leads_5 (wW_6 ha _) hpt ?_
  refine g_iconst hR dX2_leads_6 ?_
  refine z_iload_n hR dX2_leads_7 rfl rfl ?_
  refine g_ishl hR dX2_leads_8 (p2n _) (p2b (by omega)) ?_
  refine g_iconst hR dX2_leads_9 ?_
  refine g_isub hR dX2_leads_10 (show ((2 ^ i : Nat) : Int) - 1 = ((2 ^ i - 1 : Nat) : Int) by have := Nat.two_pow_pos i; omega) ?_
  refine g_iand hR dX2_leads_11 ?_
  rw [Nat.and_two_pow_sub_one_eq_mod]
  refine g_if_ne hR (tgt := 19) dX2_leads_12 (by decide) (fun c12 => ?_) (fun c12 => ?_) (hx := by have := Nat.mod_lt (pt i) (Nat.two_pow_pos i); have := p2b (show i < 31 by omega); unfold rg; omega)
  · refine g_iconst hR dX2_leads_19 ?_
    refine g_zret (b := false) hR dX2_leads_20 rfl ?_
    refine qz hQ ?_
    unfold lead
    simp only [decide_eq_true_eq, decide_eq_false_iff_not, eq_comm (a := true), eq_comm (a := false)]
    omega
  · refine g_iconst hR dX2_leads_15 ?_
    refine z_goto hR (tgt := 20) dX2_leads_16 (by decide) ?_
    refine g_zret (b := true) hR dX2_leads_20 rfl ?_
    refine qz hQ ?_
    unfold lead
    simp only [decide_eq_true_eq, decide_eq_false_iff_not, eq_comm (a := true), eq_comm (a := false)]
    omega
theorem c_X2_pushOf {zs : zzT} {d : Nat} {Q : zzQ} {g : Nat → Nat → Int} {hh : Int64} {a : Nat} (ha : isW a) {n an : Nat} (hw : WD g a n an) (hz : zsok zs) {i : Nat} (hi : i < n) (hQ : Q [.int (iI (psh (g (a + 2)) (g (a + 1)) an (g a 9) (g a 10) (g (a + 4)) i))] (wof g hh)) : zzCL zs (d + 1) 17 [.ref a, .int (iI (i : Int))] (wof g hh) Q := by
  refine st_X2_pushOf (Nat.le_of_ble_eq_true rfl) (fun R hR => ?_)
  show R 0 [(0, .ref a), (1, .int (iI (i : Int)))] [] _
  obtain ⟨hn, hn5, hcu, hkd, hsz, hpl, han, han2, hwi, hda⟩ := hw
  have hki := hkd i hi
  have hpi := hpl i hi
  have hci := hcu (g (a + 4) i).toNat (by omega)
  refine z_aload_n hR dX2_pushOf_0 rfl rfl ?_
  refine g_get hR dX2_pushOf_1 zf_2_37 (wW_0 ha _) (gi han) ?_
  refine z_iload_n hR dX2_pushOf_4 rfl rfl ?_
  refine g_ishrN hR dX2_pushOf_5 rfl ?_
  refine g_iconst hR dX2_pushOf_6 ?_
  refine g_iand1 hR dX2_pushOf_7 (tb_int _ _) ?_
  refine g_iconst hR dX2_pushOf_8 ?_
  refine g_icmp_neb hR (tgt := 14) dX2_pushOf_9 (by decide) (fun c9 => ?_) (fun c9 => ?_)
  · refine z_aload_n hR dX2_pushOf_14 rfl rfl ?_
    refine g_get hR dX2_pushOf_15 zf_2_15 (wW_0 ha _) rfl ?_
    refine z_iload_n hR dX2_pushOf_18 rfl rfl ?_
    refine g_ialdN hR dX2_pushOf_19 (wW_2 ha _) rfl ?_
    refine z_istore_n hR dX2_pushOf_20 rfl (by decide) rfl ?_
    refine z_aload_n hR dX2_pushOf_21 rfl rfl ?_
    refine g_get hR dX2_pushOf_22 zf_2_9 (wW_0 ha _) rfl ?_
    refine z_aload_n hR dX2_pushOf_25 rfl rfl ?_
    refine g_get hR dX2_pushOf_26 zf_2_21 (wW_0 ha _) rfl ?_
    refine z_iload_n hR dX2_pushOf_29 rfl rfl ?_
    refine g_ialdN hR dX2_pushOf_30 (wW_4 ha _) rfl ?_
    refine g_iald hR dX2_pushOf_31 (wW_1 ha _) rfl ?_
    refine z_istore_n hR dX2_pushOf_32 rfl (by decide) rfl ?_
    refine z_iload_n hR dX2_pushOf_33 rfl rfl ?_
    refine g_iconst hR dX2_pushOf_34 ?_
    refine g_icmp_ne hR (tgt := 50) dX2_pushOf_35 (by decide) (fun c35 => ?_) (fun c35 => ?_)
    · refine z_gets hR dX2_pushOf_50 rfl ?_
      refine z_iload_n hR dX2_pushOf_53 rfl rfl ?_
      refine g_tald hR dX2_pushOf_54 hz.1 rfl ?_
      refine z_iload_n hR dX2_pushOf_55 rfl rfl ?_
      refine g_imul hR dX2_pushOf_56 rfl ?_
      refine z_gets hR dX2_pushOf_57 rfl ?_
      refine z_iload_n hR dX2_pushOf_60 rfl rfl ?_
      refine g_tald hR dX2_pushOf_61 hz.2 rfl ?_
      refine z_aload_n hR dX2_pushOf_62 rfl rfl ?_
      refine g_get hR dX2_pushOf_63 zf_2_40 (wW_0 ha _) rfl ?_
      refine g_imul hR dX2_pushOf_66 rfl ?_
      refine g_iadd hR dX2_pushOf_67 rfl ?_
      refine g_iret hR dX2_pushOf_68 rfl ?_
      refine qi hQ ?_
      unfold psh
      have hk : g (a + 2) i = 0 ∨ g (a + 2) i = 1 ∨ g (a + 2) i = 2 ∨ g (a + 2) i = 3 ∨ g (a + 2) i = 4 := by omega
      rcases hk with hk | hk | hk | hk | hk <;> simp_all [csh, wsh]
      all_goals omega
    · refine z_aload_n hR dX2_pushOf_38 rfl rfl ?_
      refine g_get hR dX2_pushOf_39 zf_2_43 (wW_0 ha _) rfl ?_
      refine g_iconst hR dX2_pushOf_42 ?_
      refine g_irem hR dX2_pushOf_43 rfl ?_
      refine g_if_ne hR (tgt := 50) dX2_pushOf_44 (by decide) (fun c44 => ?_) (fun c44 => ?_)
      · refine z_gets hR dX2_pushOf_50 rfl ?_
        refine z_iload_n hR dX2_pushOf_53 rfl rfl ?_
        refine g_tald hR dX2_pushOf_54 hz.1 rfl ?_
        refine z_iload_n hR dX2_pushOf_55 rfl rfl ?_
        refine g_imul hR dX2_pushOf_56 rfl ?_
        refine z_gets hR dX2_pushOf_57 rfl ?_
        refine z_iload_n hR dX2_pushOf_60 rfl rfl ?_
        refine g_tald hR dX2_pushOf_61 hz.2 rfl ?_
        refine z_aload_n hR dX2_pushOf_62 rfl rfl ?_
        refine g_get hR dX2_pushOf_63 zf_2_40 (wW_0 ha _) rfl ?_
        refine g_imul hR dX2_pushOf_66 rfl ?_
        refine g_iadd hR dX2_pushOf_67 rfl ?_
        refine g_iret hR dX2_pushOf_68 rfl ?_
        refine qi hQ ?_
        unfold psh
        have hk : g (a + 2) i = 0 ∨ g (a + 2) i = 1 ∨ g (a + 2) i = 2 ∨ g (a + 2) i = 3 ∨ g (a + 2) i = 4 := by omega
        rcases hk with hk | hk | hk | hk | hk <;> simp_all [csh, wsh]
        all_goals omega
      · refine z_iload_n hR dX2_pushOf_47 rfl rfl ?_
        refine g_ineg hR dX2_pushOf_48 rfl ?_
        refine z_istore_n hR dX2_pushOf_49 rfl (by decide) rfl ?_
        refine z_gets hR dX2_pushOf_50 rfl ?_
        refine z_iload_n hR dX2_pushOf_53 rfl rfl ?_
        refine g_tald hR dX2_pushOf_54 hz.1 rfl ?_
        refine z_iload_n hR dX2_pushOf_55 rfl rfl ?_
        refine g_imul hR dX2_pushOf_56 rfl ?_
        refine z_gets hR dX2_pushOf_57 rfl ?_
        refine z_iload_n hR dX2_pushOf_60 rfl rfl ?_
        refine g_tald hR dX2_pushOf_61 hz.2 rfl ?_
        refine z_aload_n hR dX2_pushOf_62 rfl rfl ?_
        refine g_get hR dX2_pushOf_63 zf_2_40 (wW_0 ha _) rfl ?_
        refine g_imul hR dX2_pushOf_66 rfl ?_
        refine g_iadd hR dX2_pushOf_67 rfl ?_
        refine g_iret hR dX2_pushOf_68 rfl ?_
        refine qi hQ ?_
        unfold psh
        have hk : g (a + 2) i = 0 ∨ g (a + 2) i = 1 ∨ g (a + 2) i = 2 ∨ g (a + 2) i = 3 ∨ g (a + 2) i = 4 := by omega
        rcases hk with hk | hk | hk | hk | hk <;> simp_all [csh, wsh]
        all_goals omega
  · refine g_iconst hR dX2_pushOf_12 ?_
    refine g_iret hR dX2_pushOf_13 rfl ?_
    exact qi hQ (by unfold psh; rw [if_pos c9])
theorem c_X2_stepOf {zs : zzT} {d : Nat} {Q : zzQ} {g : Nat → Nat → Int} {hh : Int64} {a : Nat} (ha : isW a) {n an : Nat} (hw : WD g a n an) (hz : zsok zs) {pt : Nat} (hpt : pt < 32) (hQ : Q [.int (iI (way n (g (a + 2)) (g (a + 3)) (g (a + 1)) an (g a 9) (g a 10) pt (g (a + 4))))] (wof g hh)) : zzCL zs (d + 2) 36 [.ref a, .int (iI (pt : Int))] (wof g hh) Q := by
  refine st_X2_stepOf (Nat.le_of_ble_eq_true rfl) (fun R hR => ?_)
  show R 0 [(0, .ref a), (1, .int (iI (pt : Int)))] [] _
  have hw0 := hw
  obtain ⟨hn, hn5, hcu, hkd, hsz, hpl, han, han2, hwi, hda⟩ := hw
  have hsr : ∀ i, i ≤ n → -(27 * (i : Int)) ≤ smu (wpu (g (a + 2)) (g (a + 3)) (g (a + 1)) an (g a 9) (g a 10) pt (g (a + 4))) i ∧ smu (wpu (g (a + 2)) (g (a + 3)) (g (a + 1)) an (g a 9) (g a 10) pt (g (a + 4))) i ≤ 27 * (i : Int) := fun i hi => smu_rg i (fun j hj => wpu_rg hcu hwi (hpl j (by omega)) (hsz j (by omega)))
  have loop : ∀ (k i : Nat) (sm : Int), i ≤ n → n < i + k → (sm = smu (wpu (g (a + 2)) (g (a + 3)) (g (a + 1)) an (g a 9) (g a 10) pt (g (a + 4))) i) → R 4 [(0, .ref a), (1, .int (iI (pt : Int))), (2, .int (iI sm)), (3, .int (iI (i : Int)))] [] (wof g hh) := by
    intro k
    induction k with
    | zero => intro i; intros; omega
    | succ k ih =>
      intro i sm hi1 hi2 hsm
      refine z_iload_n hR dX2_stepOf_4 rfl rfl ?_
      refine z_aload_n hR dX2_stepOf_5 rfl rfl ?_
      refine g_get hR dX2_stepOf_6 zf_2_30 (wW_0 ha _) (gi hn) ?_
      refine g_icmp_ge hR (tgt := 42) dX2_stepOf_9 (by decide) (fun c9 => ?_) (fun c9 => ?_)
      · refine z_iload_n hR dX2_stepOf_42 rfl rfl ?_
        refine g_iconst hR dX2_stepOf_43 ?_
        refine g_sta2 hR dX2_stepOf_44 zm_2_108 zN_J6_compare_7cf53 (Nat.le_of_ble_eq_true rfl) ?_
        have hb := hsr i (by omega)
        refine c_J6_compare (by unfold rg; omega) ?_
        show R 47 _ (.int _ :: _) _
        refine g_iret hR dX2_stepOf_47 rfl ?_
        have e : i = n := by omega
        subst e
        rw [hsm]
        exact hQ
      · have hin : i < n := by omega
        refine z_iload_n hR dX2_stepOf_12 rfl rfl ?_
        refine z_iload_n hR dX2_stepOf_13 rfl rfl ?_
        refine g_ishrN hR dX2_stepOf_14 rfl ?_
        refine g_iconst hR dX2_stepOf_15 ?_
        refine g_iand1 hR dX2_stepOf_16 (tb_int _ _) ?_
        refine g_iconst hR dX2_stepOf_17 ?_
        refine g_icmp_neb hR (tgt := 36) dX2_stepOf_18 (by decide) (fun c18 => ?_) (fun c18 => ?_)
        · refine g_iinc hR dX2_stepOf_36 rfl rfl (by decide) rfl ?_
          refine z_goto hR (tgt := 4) dX2_stepOf_39 (by decide) ?_
          refine ih (i + 1) _ (by omega) (by omega) ?_
          simp [smu, wpu, c18, hsm]
        · refine z_iload_n hR dX2_stepOf_21 rfl rfl ?_
          refine z_aload_n hR dX2_stepOf_22 rfl rfl ?_
          refine z_iload_n hR dX2_stepOf_23 rfl rfl ?_
          refine g_inv1 hR dX2_stepOf_24 zm_2_105 (by decide) zN_X2_pushOf ((wW_0 ha _) _) zO_X2_pushOf (Nat.le_of_ble_eq_true rfl) ?_
          refine c_X2_pushOf ha hw0 hz hin ?_
          show R 27 _ (.int _ :: _) _
          refine z_aload_n hR dX2_stepOf_27 rfl rfl ?_
          refine g_get hR dX2_stepOf_28 zf_2_18 (wW_0 ha _) rfl ?_
          refine z_iload_n hR dX2_stepOf_31 rfl rfl ?_
          refine g_ialdN hR dX2_stepOf_32 (wW_3 ha _) rfl ?_
          refine g_imul hR dX2_stepOf_33 rfl ?_
          refine g_iadd hR dX2_stepOf_34 rfl ?_
          refine z_istore_n hR dX2_stepOf_35 rfl (by decide) rfl ?_
          refine g_iinc hR dX2_stepOf_36 rfl rfl (by decide) rfl ?_
          refine z_goto hR (tgt := 4) dX2_stepOf_39 (by decide) ?_
          refine ih (i + 1) _ (by omega) (by omega) ?_
          simp [smu, wpu, c18, hsm]
  refine g_iconst hR dX2_stepOf_0 ?_
  refine z_istore_n hR dX2_stepOf_1 rfl (by decide) rfl ?_
  refine g_iconst hR dX2_stepOf_2 ?_
  refine z_istore_n hR dX2_stepOf_3 rfl (by decide) rfl ?_
  exact loop (n + 1) 0 0 (by omega) (by omega) rfl
