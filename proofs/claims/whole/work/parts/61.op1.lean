theorem c_X3_letter {zs : zzT} {d : Nat} {Q : zzQ} {g : Nat → Nat → Int} {hh : Int64} {L : Nat} (hL : g 0 1 = (L : Int)) (hL2 : L ≤ 14) {z : Int} (hz : rg z) (h1 : ¬ (1 ≤ z ∧ z ≤ 126) → Q [.int (iI (-102))] (wof g hh)) (h2 : 1 ≤ z ∧ z ≤ 126 → L = 14 → Q [.int (iI (-104))] (wof g hh)) (h3 : 1 ≤ z ∧ z ≤ 126 → L < 14 → Q [.int (iI ((L : Int) + 1))] (wof (gr (gr g 1 (iu (g 1) L z)) 0 (iu (g 0) 1 ((L : Int) + 1))) hh)) : zzCL zs (d + 1) 0 [.ref 0, .int (iI z)] (wof g hh) Q := by
  refine st_X3_letter (Nat.le_of_ble_eq_true rfl) (fun R hR => ?_)
  show R 0 [(0, .ref 0), (1, .int (iI z))] [] _
  refine z_iload_n hR dX3_letter_0 rfl rfl ?_
  refine g_iconst hR dX3_letter_1 ?_
  refine g_icmp_lt hR (tgt := 11) dX3_letter_2 (by decide) (fun c2 => ?_) (fun c2 => ?_)
  · refine g_bipush hR dX3_letter_11 ?_
    refine g_iret hR dX3_letter_13 rfl ?_
    exact h1 (by omega)
  · refine z_iload_n hR dX3_letter_5 rfl rfl ?_
    refine g_bipush hR dX3_letter_6 ?_
    refine g_icmp_le hR (tgt := 14) dX3_letter_8 (by decide) (fun c8 => ?_) (fun c8 => ?_)
    · refine z_aload_n hR dX3_letter_14 rfl rfl ?_
      refine g_get hR dX3_letter_15 zf_3_13 (wk_0 _) (gi hL) ?_
      refine g_bipush hR dX3_letter_18 ?_
      refine g_icmp_lt hR (tgt := 26) dX3_letter_20 (by decide) (fun c20 => ?_) (fun c20 => ?_)
      · refine z_aload_n hR dX3_letter_26 rfl rfl ?_
        refine g_get hR dX3_letter_27 zf_3_9 (wk_0 _) rfl ?_
        refine z_aload_n hR dX3_letter_30 rfl rfl ?_
        refine g_get hR dX3_letter_31 zf_3_13 (wk_0 _) (gi hL) ?_
        refine z_iload_n hR dX3_letter_34 rfl rfl ?_
        refine g_iastN hR dX3_letter_35 (wk_1 _) ?_
        refine z_aload_n hR dX3_letter_36 rfl rfl ?_
        refine z_dup hR dX3_letter_37 rfl ?_
        refine g_get hR dX3_letter_38 zf_3_13 (wk_0 _) (gi (show gr g 1 (iu (g 1) L z) 0 1 = (L : Int) from hL)) ?_
        refine g_iconst hR dX3_letter_41 ?_
        refine g_iadd hR dX3_letter_42 rfl ?_
        refine g_put hR dX3_letter_43 zf_3_13 (wk_0 _) (Nat.le_of_ble_eq_true rfl) rfl rfl rfl rfl ?_
        refine z_aload_n hR dX3_letter_46 rfl rfl ?_
        refine g_get hR dX3_letter_47 zf_3_13 (wk_0 _) (gi (show gr (gr g 1 (iu (g 1) L z)) 0 (iu (g 0) 1 ((L : Int) + 1)) 0 1 = (L : Int) + 1 from rfl)) ?_
        refine g_iret hR dX3_letter_50 rfl ?_
        exact h3 (by omega) (by omega)
      · refine g_bipush hR dX3_letter_23 ?_
        refine g_iret hR dX3_letter_25 rfl ?_
        exact h2 (by omega) (by omega)
    · refine g_bipush hR dX3_letter_11 ?_
      refine g_iret hR dX3_letter_13 rfl ?_
      exact h1 (by omega)
theorem c_X4_letter {zs : zzT} {d : Nat} {Q : zzQ} {g : Nat → Nat → Int} {hh : Int64} {L : Nat} (hL : g 39 1 = (L : Int)) (hL2 : L ≤ 14) {z : Int} (hz : rg z) (h1 : ¬ (1 ≤ z ∧ z ≤ 126) → Q [.int (iI (-102))] (wof g hh)) (h2 : 1 ≤ z ∧ z ≤ 126 → L = 14 → Q [.int (iI (-104))] (wof g hh)) (h3 : 1 ≤ z ∧ z ≤ 126 → L < 14 → Q [.int (iI ((L : Int) + 1))] (wof (gr (gr g 40 (iu (g 40) L z)) 39 (iu (g 39) 1 ((L : Int) + 1))) hh)) : zzCL zs (d + 2) 76 [.ref 39, .int (iI z)] (wof g hh) Q := by
  refine st_X4_letter (Nat.le_of_ble_eq_true rfl) (fun R hR => ?_)
  show R 0 [(0, .ref 39), (1, .int (iI z))] [] _
  refine z_iload_n hR dX4_letter_0 rfl rfl ?_
  refine g_i2l hR dX4_letter_1 ?_
  refine z_lconst hR (v := lI 1) dX4_letter_2 (by decide) ?_
  refine z_ldc2 hR dX4_letter_3 zk_4_50 ?_
  rw [show (126 : Int64) = lI (126) from by decide]
  refine g_sta3 hR dX4_letter_6 zm_4_52 zN_X4_in (Nat.le_of_ble_eq_true rfl) ?_
  refine c_X4_in (by first | assumption | (unfold rg; omega)) (by unfold rg; omega) (by unfold rg; omega) ?_
  show R 9 _ (.int _ :: _) _
  refine g_if_neb hR (tgt := 15) dX4_letter_9 (by decide) (fun c9 => ?_) (fun c9 => ?_)
  · have c9 := of_decide_eq_true c9
    refine z_aload_n hR dX4_letter_15 rfl rfl ?_
    refine g_get hR dX4_letter_16 zf_4_56 (wk_39 _) (gi hL) ?_
    refine g_bipush hR dX4_letter_19 ?_
    refine g_icmp_ne hR (tgt := 27) dX4_letter_21 (by decide) (fun c21 => ?_) (fun c21 => ?_)
    · refine z_aload_n hR dX4_letter_27 rfl rfl ?_
      refine g_get hR dX4_letter_28 zf_4_7 (wk_39 _) rfl ?_
      refine z_aload_n hR dX4_letter_31 rfl rfl ?_
      refine g_get hR dX4_letter_32 zf_4_56 (wk_39 _) (gi hL) ?_
      refine z_iload_n hR dX4_letter_35 rfl rfl ?_
      refine g_iastN hR dX4_letter_36 (wk_40 _) ?_
      refine z_aload_n hR dX4_letter_37 rfl rfl ?_
      refine z_dup hR dX4_letter_38 rfl ?_
      refine g_get hR dX4_letter_39 zf_4_56 (wk_39 _) (gi (show gr g 40 (iu (g 40) L z) 39 1 = (L : Int) from hL)) ?_
      refine g_iconst hR dX4_letter_42 ?_
      refine g_iadd hR dX4_letter_43 rfl ?_
      refine g_put hR dX4_letter_44 zf_4_56 (wk_39 _) (Nat.le_of_ble_eq_true rfl) rfl rfl rfl rfl ?_
      refine z_aload_n hR dX4_letter_47 rfl rfl ?_
      refine g_get hR dX4_letter_48 zf_4_56 (wk_39 _) (gi (show gr (gr g 40 (iu (g 40) L z)) 39 (iu (g 39) 1 ((L : Int) + 1)) 39 1 = (L : Int) + 1 from rfl)) ?_
      refine g_iret hR dX4_letter_51 rfl ?_
      exact h3 c9 (by omega)
    · refine g_bipush hR dX4_letter_24 ?_
      refine g_iret hR dX4_letter_26 rfl ?_
      exact h2 c9 (by omega)
  · have c9 := of_decide_eq_false c9
    refine g_bipush hR dX4_letter_12 ?_
    refine g_iret hR dX4_letter_14 rfl ?_
    exact h1 c9
theorem op_letter {zs : zzT} {c : Nat} {g : Nat → Nat → Int} {hh : Int64} (hz : zsok zs) (h : Rel c g) (hc : c < 512) {z : Int} (hz1 : rg z) : opOK zs 0 76 [.ref 0, .int (iI z)] [.ref 39, .int (iI z)] c g hh := by
  obtain ⟨L, hL, hL1, hL2, hpg⟩ := h.2.1
  by_cases hA : 1 ≤ z ∧ z ≤ 126
  · by_cases hB : L = 14
    · exact op_id (r := -104) (by unfold rg; omega) h hc (fun Q q => c_X3_letter hL hL2 hz1 (fun x => absurd hA x) (fun _ _ => q) (fun _ x => absurd hB (by omega))) (fun Q q => c_X4_letter hL1 hL2 hz1 (fun x => absurd hA x) (fun _ _ => q) (fun _ x => absurd hB (by omega)))
    · refine op_ex (r := (L : Int) + 1) (by unfold rg; omega) ?_ (fun Q q => c_X3_letter hL hL2 hz1 (fun x => absurd hA x) (fun _ x => absurd x hB) (fun _ _ => q)) (fun Q q => c_X4_letter (g := gr (gr g 1 (iu (g 1) L z)) 0 (iu (g 0) 1 ((L : Int) + 1))) hL1 hL2 hz1 (fun x => absurd hA x) (fun _ x => absurd x hB) (fun _ _ => q))
      have hs := Rel_step h hc
      refine ⟨hs.1, ⟨L + 1, rfl, rfl, by omega, fun j hj => ?_⟩, hs.2.2.1, hs.2.2.2.1, hs.2.2.2.2.1, hs.2.2.2.2.2⟩
      show iu (g 1) L z j = iu (g 40) L z j ∧ 1 ≤ iu (g 1) L z j ∧ iu (g 1) L z j ≤ 126
      by_cases e : j = L
      · rw [e, iu_s, iu_s]
        exact ⟨rfl, hA⟩
      · rw [iu_n _ _ e, iu_n _ _ e]
        exact hpg j (by omega)
  · exact op_id (r := -102) (by unfold rg; omega) h hc (fun Q q => c_X3_letter hL hL2 hz1 (fun _ => q) (fun x => absurd x hA) (fun x => absurd x hA)) (fun Q q => c_X4_letter hL1 hL2 hz1 (fun _ => q) (fun x => absurd x hA) (fun x => absurd x hA))
theorem c_X3_blank {zs : zzT} {d : Nat} {Q : zzQ} {g : Nat → Nat → Int} {hh : Int64} {L : Int} (hL : g 0 1 = L) (hQ : Q [.int (iI L)] (wof (gr g 0 (iu (g 0) 1 0)) hh)) : zzCL zs (d + 1) 1 [.ref 0] (wof g hh) Q := by
  refine st_X3_blank (Nat.le_of_ble_eq_true rfl) (fun R hR => ?_)
  show R 0 [(0, .ref 0)] [] _
  refine z_aload_n hR dX3_blank_0 rfl rfl ?_
  refine g_get hR dX3_blank_1 zf_3_13 (wk_0 _) (gi hL) ?_
  refine z_istore_n hR dX3_blank_4 rfl (by decide) rfl ?_
  refine z_aload_n hR dX3_blank_5 rfl rfl ?_
  refine g_iconst hR dX3_blank_6 ?_
  refine g_put hR dX3_blank_7 zf_3_13 (wk_0 _) (Nat.le_of_ble_eq_true rfl) rfl rfl rfl rfl ?_
  refine z_iload_n hR dX3_blank_10 rfl rfl ?_
  refine g_iret hR dX3_blank_11 rfl ?_
  exact hQ
theorem c_X4_blank {zs : zzT} {d : Nat} {Q : zzQ} {g : Nat → Nat → Int} {hh : Int64} {L : Int} (hL : g 39 1 = L) (hQ : Q [.int (iI L)] (wof (gr g 39 (iu (g 39) 1 0)) hh)) : zzCL zs (d + 1) 78 [.ref 39] (wof g hh) Q := by
  refine st_X4_blank (Nat.le_of_ble_eq_true rfl) (fun R hR => ?_)
  show R 0 [(0, .ref 39)] [] _
  refine z_aload_n hR dX4_blank_0 rfl rfl ?_
  refine g_get hR dX4_blank_1 zf_4_56 (wk_39 _) (gi hL) ?_
  refine z_istore_n hR dX4_blank_4 rfl (by decide) rfl ?_
  refine z_aload_n hR dX4_blank_5 rfl rfl ?_
  refine g_iconst hR dX4_blank_6 ?_
  refine g_put hR dX4_blank_7 zf_4_56 (wk_39 _) (Nat.le_of_ble_eq_true rfl) rfl rfl rfl rfl ?_
  refine z_iload_n hR dX4_blank_10 rfl rfl ?_
  refine g_iret hR dX4_blank_11 rfl ?_
  exact hQ
theorem op_blank {zs : zzT} {c : Nat} {g : Nat → Nat → Int} {hh : Int64} (hz : zsok zs) (h : Rel c g) (hc : c < 512)  : opOK zs 1 78 [.ref 0] [.ref 39] c g hh := by
  obtain ⟨L, hL, hL1, hL2, hpg⟩ := h.2.1
  refine op_ex (r := (L : Int)) (by unfold rg; omega) ?_ (fun Q q => c_X3_blank hL q) (fun Q q => c_X4_blank (g := gr g 0 (iu (g 0) 1 0)) hL1 q)
  have hs := Rel_step h hc
  exact ⟨hs.1, ⟨0, rfl, rfl, by omega, fun j hj => absurd hj (by omega)⟩, hs.2.2.1, hs.2.2.2.1, hs.2.2.2.2.1, hs.2.2.2.2.2⟩
def isSg (z : Int) : Bool := decide (z = 62) || decide (z = 60) || decide (z = 46)
/-- the first of k, .. that is no sign, below m -/
def fsg (pg : FI) : Nat → Nat → Nat
  | 0, k => k
  | r + 1, k => if isSg (pg k) = true then fsg pg r (k + 1) else k
theorem fsg_le (pg : FI) : ∀ r k, k ≤ fsg pg r k ∧ fsg pg r k ≤ k + r
  | 0, k => by simp [fsg]
  | r + 1, k => by
    unfold fsg
    split
    · have := fsg_le pg r (k + 1)
      omega
    · omega
theorem fsg_congr {pg pg1 : FI} : ∀ r k, (∀ j, k ≤ j → j < k + r → pg j = pg1 j) → fsg pg r k = fsg pg1 r k
  | 0, _, _ => rfl
  | r + 1, k, h => by
    unfold fsg
    rw [h k (by omega) (by omega), fsg_congr r (k + 1) (fun j h1 h2 => h j (by omega) (by omega))]
theorem c_X3_isSign {zs : zzT} {d : Nat} {Q : zzQ} {w : zzW} {z : Int} (hz : rg z) (hQ : Q [.int (iI (b2i (isSg z)))] w) : zzCL zs (d + 1) 3 [.int (iI z)] w Q := by
  refine st_X3_isSign (Nat.le_of_ble_eq_true rfl) (fun R hR => ?_)
  show R 0 [(0, .int (iI z))] [] _
  refine z_iload_n hR dX3_isSign_0 rfl rfl ?_
  refine g_bipush hR dX3_isSign_1 ?_
  refine g_icmp_eq hR (tgt := 18) dX3_isSign_3 (by decide) (fun c3 => ?_) (fun c3 => ?_)
  · refine g_iconst hR dX3_isSign_18 ?_
    refine z_goto hR (tgt := 23) dX3_isSign_19 (by decide) ?_
    refine g_zret (b := true) hR dX3_isSign_23 rfl ?_
    refine qz hQ ?_
    simp [isSg, *]
  · refine z_iload_n hR dX3_isSign_6 rfl rfl ?_
    refine g_bipush hR dX3_isSign_7 ?_
    refine g_icmp_eq hR (tgt := 18) dX3_isSign_9 (by decide) (fun c9 => ?_) (fun c9 => ?_)
    · refine g_iconst hR dX3_isSign_18 ?_
      refine z_goto hR (tgt := 23) dX3_isSign_19 (by decide) ?_
      refine g_zret (b := true) hR dX3_isSign_23 rfl ?_
      refine qz hQ ?_
      simp [isSg, *]
    · refine z_iload_n hR dX3_isSign_12 rfl rfl ?_
      refine g_bipush hR dX3_isSign_13 ?_
      refine g_icmp_ne hR (tgt := 22) dX3_isSign_15 (by decide) (fun c15 => ?_) (fun c15 => ?_)
      · refine g_iconst hR dX3_isSign_22 ?_
        refine g_zret (b := false) hR dX3_isSign_23 rfl ?_
        refine qz hQ ?_
        simp [isSg, *]
      · refine g_iconst hR dX3_isSign_18 ?_
        refine z_goto hR (tgt := 23) dX3_isSign_19 (by decide) ?_
        refine g_zret (b := true) hR dX3_isSign_23 rfl ?_
        refine qz hQ ?_
        simp [isSg, *]
theorem c_X3_fault {zs : zzT} {d : Nat} {Q : zzQ} {g : Nat → Nat → Int} {hh : Int64} {L : Nat} (hL : g 0 1 = (L : Int)) (hL2 : L ≤ 14) (hpg : ∀ j, j < L → 1 ≤ g 1 j ∧ g 1 j ≤ 126) (hQ : Q [.int (iI ((fsg (g 1) (min L 12) 0 : Nat) : Int))] (wof g hh)) : zzCL zs (d + 2) 2 [.ref 0] (wof g hh) Q := by
  refine st_X3_fault (Nat.le_of_ble_eq_true rfl) (fun R hR => ?_)
  show R 0 [(0, .ref 0)] [] _
  refine z_aload_n hR dX3_fault_0 rfl rfl ?_
  refine g_get hR dX3_fault_1 zf_3_13 (wk_0 _) (gi hL) ?_
  refine g_bipush hR dX3_fault_4 ?_
  refine g_mmn hR dX3_fault_6 zn_3_63 (show (if (12 : Int) < (L : Int) then (12 : Int) else (L : Int)) = ((min L 12 : Nat) : Int) by split <;> omega) (Nat.le_of_ble_eq_true rfl) ?_
  obtain ⟨N, hN⟩ : ∃ N, min L 12 = N := ⟨_, rfl⟩
  rw [hN] at hQ ⊢
  have hNL : N ≤ L := by omega
  obtain ⟨V, hVe⟩ : ∃ V, V = fsg (g 1) N 0 := ⟨_, rfl⟩
  rw [← hVe] at hQ
  have loop : ∀ (k i : Nat), i ≤ N → N < i + k → (V = fsg (g 1) (N - i) i) → R 12 [(0, .ref 0), (1, .int (iI (N : Int))), (2, .int (iI (i : Int)))] [] (wof g hh) := by
    intro k
    induction k with
    | zero => intro i; intros; omega
    | succ k ih =>
      intro i  hi1 hi2 hV
      refine z_iload_n hR dX3_fault_12 rfl rfl ?_
      refine z_iload_n hR dX3_fault_13 rfl rfl ?_
      refine g_icmp_ge hR (tgt := 37) dX3_fault_14 (by decide) (fun c14 => ?_) (fun c14 => ?_)
      · refine z_iload_n hR dX3_fault_37 rfl rfl ?_
        refine g_iret hR dX3_fault_38 rfl ?_
        refine qi hQ ?_
        rw [hV, show N - i = 0 by omega, fsg]
        omega
      · refine z_aload_n hR dX3_fault_17 rfl rfl ?_
        refine g_get hR dX3_fault_18 zf_3_9 (wk_0 _) rfl ?_
        refine z_iload_n hR dX3_fault_21 rfl rfl ?_
        refine g_ialdN hR dX3_fault_22 (wk_1 _) rfl ?_
        refine g_sta1 hR dX3_fault_23 zm_3_69 zN_X3_isSign (Nat.le_of_ble_eq_true rfl) ?_
        refine c_X3_isSign (by have := hpg i (by omega); unfold rg; omega) ?_
        show R 26 _ (.int _ :: _) _
        refine g_if_neb hR (tgt := 31) dX3_fault_26 (by decide) (fun c26 => ?_) (fun c26 => ?_)
        · refine g_iinc hR dX3_fault_31 rfl rfl (by decide) rfl ?_
          refine z_goto hR (tgt := 12) dX3_fault_34 (by decide) ?_
          refine ih (i + 1) (by omega) (by omega) ?_
          rw [hV]
          obtain ⟨r, hr⟩ : ∃ r, N - i = r + 1 := ⟨N - i - 1, by omega⟩
          rw [hr, fsg, if_pos c26, show N - (i + 1) = r by omega]
        · refine z_iload_n hR dX3_fault_29 rfl rfl ?_
          refine g_iret hR dX3_fault_30 rfl ?_
          refine qi hQ ?_
          rw [hV]
          obtain ⟨r, hr⟩ : ∃ r, N - i = r + 1 := ⟨N - i - 1, by omega⟩
          rw [hr, fsg, if_neg (by rw [c26]; decide)]
  refine z_istore_n hR dX3_fault_9 rfl (by decide) rfl ?_
  refine g_iconst hR dX3_fault_10 ?_
  refine z_istore_n hR dX3_fault_11 rfl (by decide) rfl ?_
  exact loop (N + 1) 0 (by omega) (by omega) hVe
theorem c_X4_faultOf {zs : zzT} {d : Nat} {Q : zzQ} {g : Nat → Nat → Int} {hh : Int64} {L : Nat} (hL : g 39 1 = (L : Int)) (hL2 : L ≤ 14) (hpg : ∀ j, j < L → 1 ≤ g 40 j ∧ g 40 j ≤ 126) (hQ : Q [.int (iI ((fsg (g 40) (min L 12) 0 : Nat) : Int))] (wof g hh)) : zzCL zs (d + 1) 80 [.ref 39] (wof g hh) Q := by
  refine st_X4_faultOf (Nat.le_of_ble_eq_true rfl) (fun R hR => ?_)
  show R 0 [(0, .ref 39)] [] _
  obtain ⟨N, hN⟩ : ∃ N, min L 12 = N := ⟨_, rfl⟩
  rw [hN] at hQ
  obtain ⟨V, hVe⟩ : ∃ V, V = fsg (g 40) N 0 := ⟨_, rfl⟩
  rw [← hVe] at hQ
  have loop : ∀ (k i : Nat), i ≤ N → N < i + k → (V = fsg (g 40) (N - i) i) → R 2 [(0, .ref 39), (1, .int (iI (i : Int)))] [] (wof g hh) := by
    intro k
    induction k with
    | zero => intro i; intros; omega
    | succ k ih =>
      intro i  hi1 hi2 hV
      refine z_iload_n hR dX4_faultOf_2 rfl rfl ?_
      refine z_aload_n hR dX4_faultOf_3 rfl rfl ?_
      refine g_get hR dX4_faultOf_4 zf_4_56 (wk_39 _) (gi hL) ?_
      refine g_icmp_ge hR (tgt := 55) dX4_faultOf_7 (by decide) (fun c7 => ?_) (fun c7 => ?_)
      · refine z_iload_n hR dX4_faultOf_55 rfl rfl ?_
        refine g_iret hR dX4_faultOf_56 rfl ?_
        refine qi hQ ?_
        rw [hV]
        first | (rw [show N - i = 0 by omega]; rfl) | (rw [hr, fsg, if_neg (by simp [isSg, *])])
      · refine z_iload_n hR dX4_faultOf_10 rfl rfl ?_
        refine g_bipush hR dX4_faultOf_11 ?_
        refine g_icmp_ge hR (tgt := 55) dX4_faultOf_13 (by decide) (fun c13 => ?_) (fun c13 => ?_)
        · refine z_iload_n hR dX4_faultOf_55 rfl rfl ?_
          refine g_iret hR dX4_faultOf_56 rfl ?_
          refine qi hQ ?_
          rw [hV]
          first | (rw [show N - i = 0 by omega]; rfl) | (rw [hr, fsg, if_neg (by simp [isSg, *])])
        · have hpi := hpg i (by omega)
          obtain ⟨r, hr⟩ : ∃ r, N - i = r + 1 := ⟨N - i - 1, by omega⟩
          refine z_aload_n hR dX4_faultOf_16 rfl rfl ?_
          refine g_get hR dX4_faultOf_17 zf_4_7 (wk_39 _) rfl ?_
          refine z_iload_n hR dX4_faultOf_20 rfl rfl ?_
          refine g_ialdN hR dX4_faultOf_21 (wk_40 _) rfl ?_
          refine g_bipush hR dX4_faultOf_22 ?_
          refine g_icmp_eq hR (tgt := 49) dX4_faultOf_24 (by decide) (fun c24 => ?_) (fun c24 => ?_)
          · refine g_iinc hR dX4_faultOf_49 rfl rfl (by decide) rfl ?_
            refine z_goto hR (tgt := 2) dX4_faultOf_52 (by decide) ?_
            refine ih (i + 1) (by omega) (by omega) ?_
            rw [hV, hr, fsg, if_pos (by simp [isSg, *]), show N - (i + 1) = r by omega]
          · refine z_aload_n hR dX4_faultOf_27 rfl rfl ?_
            refine g_get hR dX4_faultOf_28 zf_4_7 (wk_39 _) rfl ?_
            refine z_iload_n hR dX4_faultOf_31 rfl rfl ?_
            refine g_ialdN hR dX4_faultOf_32 (wk_40 _) rfl ?_
            refine g_bipush hR dX4_faultOf_33 ?_
            refine g_icmp_eq hR (tgt := 49) dX4_faultOf_35 (by decide) (fun c35 => ?_) (fun c35 => ?_)
            · refine g_iinc hR dX4_faultOf_49 rfl rfl (by decide) rfl ?_
              refine z_goto hR (tgt := 2) dX4_faultOf_52 (by decide) ?_
              refine ih (i + 1) (by omega) (by omega) ?_
              rw [hV, hr, fsg, if_pos (by simp [isSg, *]), show N - (i + 1) = r by omega]
            · refine z_aload_n hR dX4_faultOf_38 rfl rfl ?_
              refine g_get hR dX4_faultOf_39 zf_4_7 (wk_39 _) rfl ?_
              refine z_iload_n hR dX4_faultOf_42 rfl rfl ?_
              refine g_ialdN hR dX4_faultOf_43 (wk_40 _) rfl ?_
              refine g_bipush hR dX4_faultOf_44 ?_
              refine g_icmp_ne hR (tgt := 55) dX4_faultOf_46 (by decide) (fun c46 => ?_) (fun c46 => ?_)
              · refine z_iload_n hR dX4_faultOf_55 rfl rfl ?_
                refine g_iret hR dX4_faultOf_56 rfl ?_
                refine qi hQ ?_
                rw [hV]
                first | (rw [show N - i = 0 by omega]; rfl) | (rw [hr, fsg, if_neg (by simp [isSg, *])])
              · refine g_iinc hR dX4_faultOf_49 rfl rfl (by decide) rfl ?_
                refine z_goto hR (tgt := 2) dX4_faultOf_52 (by decide) ?_
                refine ih (i + 1) (by omega) (by omega) ?_
                rw [hV, hr, fsg, if_pos (by simp [isSg, *]), show N - (i + 1) = r by omega]
  refine g_iconst hR dX4_faultOf_0 ?_
  refine z_istore_n hR dX4_faultOf_1 rfl (by decide) rfl ?_
  exact loop (N + 1) 0 (by omega) (by omega) hVe
theorem c_X4_fault {zs : zzT} {d : Nat} {Q : zzQ} {g : Nat → Nat → Int} {hh : Int64} {L : Nat} (hL : g 39 1 = (L : Int)) (hL2 : L ≤ 14) (hpg : ∀ j, j < L → 1 ≤ g 40 j ∧ g 40 j ≤ 126) (hQ : Q [.int (iI ((fsg (g 40) (min L 12) 0 : Nat) : Int))] (wof g hh)) : zzCL zs (d + 2) 79 [.ref 39] (wof g hh) Q := by
  refine st_X4_fault (Nat.le_of_ble_eq_true rfl) (fun R hR => ?_)
  show R 0 [(0, .ref 39)] [] _
  refine z_aload_n hR dX4_fault_0 rfl rfl ?_
  refine g_inv0 hR dX4_fault_1 zm_4_59 (by decide) zN_X4_faultOf ((wk_39 _) _) zO_X4_faultOf (Nat.le_of_ble_eq_true rfl) ?_
  refine c_X4_faultOf hL hL2 hpg ?_
  show R 4 _ (.int _ :: _) _
  refine g_iret hR dX4_fault_4 rfl ?_
  exact hQ
theorem op_fault {zs : zzT} {c : Nat} {g : Nat → Nat → Int} {hh : Int64} (hz : zsok zs) (h : Rel c g) (hc : c < 512)  : opOK zs 2 79 [.ref 0] [.ref 39] c g hh := by
  obtain ⟨L, hL, hL1, hL2, hpg⟩ := h.2.1
  have hb := fsg_le (g 1) (min L 12) 0
  have he : fsg (g 1) (min L 12) 0 = fsg (g 40) (min L 12) 0 := fsg_congr _ _ (fun j _ hj => (hpg j (by omega)).1)
  exact op_id (r := ((fsg (g 1) (min L 12) 0 : Nat) : Int)) (by unfold rg; omega) h hc (fun Q q => c_X3_fault hL hL2 (fun j hj => (hpg j hj).2) q) (fun Q q => c_X4_fault hL1 hL2 (fun j hj => by rw [← (hpg j hj).1]; exact (hpg j hj).2) (by rw [← he]; exact q))
