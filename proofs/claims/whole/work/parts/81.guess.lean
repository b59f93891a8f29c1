theorem WK_row {g g1 : Nat → Nat → Int} (h : eqS scX g g1) : g1 2 = g 2 ∧ g1 3 = g 3 ∧ g1 4 = g 4 ∧ g1 5 = g 5 ∧ g1 6 = g 6 ∧ g1 23 = g 23 ∧ g1 24 = g 24 ∧ g1 25 = g 25 ∧ g1 26 = g 26 ∧ g1 27 = g 27 :=
  ⟨eqX h 2 (by omega), eqX h 3 (by omega), eqX h 4 (by omega), eqX h 5 (by omega), eqX h 6 (by omega), eqX h 23 (by omega), eqX h 24 (by omega), eqX h 25 (by omega), eqX h 26 (by omega), eqX h 27 (by omega)⟩
theorem cnt_f {G : Nat → Bool} {c : Nat} (h : G c = false) : cnt G (c + 1) = cnt G c := by rw [cnt, h]; simp [b2i]
theorem cnt_t {G : Nat → Bool} {c : Nat} (h : G c = true) : cnt G (c + 1) = cnt G c + 1 := by rw [cnt, h]; rfl
theorem gss_at {n : Nat} {kd sz cur : FI} {pt : Nat → Nat} {an : Nat} {da : Int} {pl one oth whn wre : FI} {sn isl i u : Nat} (hu : u < 3) : gss n kd sz cur pt an da pl one oth whn wre sn isl (3 * i + u) = (okP pl n isl (i : Int) && hld (trj n kd sz cur pt an ((u : Int) - 1) da (iu pl isl (i : Int))) one oth whn wre sn) := by
  unfold gss
  rw [show (3 * i + u) / 3 = i by omega, show (3 * i + u) % 3 = u by omega]
theorem c_X3_guess {zs : zzT} {d : Nat} {Q : zzQ} {g : Nat → Nat → Int} {hh : Int64} {n an : Nat} {pt : Nat → Nat} (hk : WK g 2 n an pt) (hz : zsok zs) (hdis : ∀ i j, i < n → j < n → g 6 i = g 6 j → i = j) {sn : Nat} (hH1 : g 23 4 = (sn : Int)) (hH3 : sn ≤ 8) (hH4 : ∀ k, k < sn → (0 ≤ g 26 k ∧ g 26 k ≤ 20) ∧ (0 ≤ g 24 k ∧ g 24 k < n) ∧ (0 ≤ g 25 k ∧ g 25 k < n) ∧ (g 27 k = 0 ∨ g 27 k = 1)) {z v : Int} (hr1 : rg z) (hr2 : rg v) (h1 : ¬ (0 ≤ z ∧ z < (n : Int)) → Q [.int (iI (-101))] (wof g hh)) (h2 : 0 ≤ z ∧ z < (n : Int) → ¬ (0 ≤ v ∧ v ≤ 1) → Q [.int (iI (-102))] (wof g hh)) (h3 : ∀ i0 : Nat, z = (i0 : Int) → i0 < n → 0 ≤ v ∧ v ≤ 1 → ∀ g1, eqS scX g g1 → ∀ L, isF (gss n (g 4) (g 5) (g 3) pt an (g 2 10) (g 6) (g 24) (g 25) (g 26) (g 27) sn i0) 36 L → Q [.int (iI (if v = 0 then cnt (gss n (g 4) (g 5) (g 3) pt an (g 2 10) (g 6) (g 24) (g 25) (g 26) (g 27) sn i0) 36 else L))] (wof g1 hh)) : zzCL zs (d + 6) 61 [.ref 0, .int (iI z), .int (iI v)] (wof g hh) Q := by
  refine st_X3_guess (Nat.le_of_ble_eq_true rfl) (fun R hR => ?_)
  show R 0 [(0, .ref 0), (1, .int (iI z)), (2, .int (iI v))] [] _
  have hn5 := hk.1.2.1
  refine z_aload_n hR dX3_guess_0 rfl rfl ?_
  refine z_iload_n hR dX3_guess_1 rfl rfl ?_
  refine g_inv1 hR dX3_guess_2 zm_3_112 (by decide) zN_X3_isIsland ((wk_0 _) _) zO_X3_isIsland (Nat.le_of_ble_eq_true rfl) ?_
  refine c_X3_isIsland hk.1.1 hk.1.2.1 hr1 ?_
  show R 5 _ (.int _ :: _) _
  refine g_if_neb hR (tgt := 11) dX3_guess_5 (by decide) (fun c5 => ?_) (fun c5 => ?_)
  · have c5 := of_decide_eq_true c5
    refine z_iload_n hR dX3_guess_11 rfl rfl ?_
    refine g_if_lt hR (tgt := 20) dX3_guess_12 (by decide) (fun c12 => ?_) (fun c12 => ?_)
    · refine g_bipush hR dX3_guess_20 ?_
      refine g_iret hR dX3_guess_22 rfl ?_
      exact h2 c5 (by omega)
    · refine z_iload_n hR dX3_guess_15 rfl rfl ?_
      refine g_iconst hR dX3_guess_16 ?_
      refine g_icmp_le hR (tgt := 23) dX3_guess_17 (by decide) (fun c17 => ?_) (fun c17 => ?_)
      · obtain ⟨i0, rfl⟩ := Int.eq_ofNat_of_zero_le c5.1
        have hi0 : i0 < n := by omega
        have hv : 0 ≤ v ∧ v ≤ 1 := by omega
        obtain ⟨G, hGe⟩ : ∃ G, G = gss n (g 4) (g 5) (g 3) pt an (g 2 10) (g 6) (g 24) (g 25) (g 26) (g 27) sn i0 := ⟨_, rfl⟩
        have hG : ∀ c, G c = gss n (g 4) (g 5) (g 3) pt an (g 2 10) (g 6) (g 24) (g 25) (g 26) (g 27) sn i0 c := fun c => by rw [hGe]
        replace h3 := h3 i0 rfl hi0 hv
        rw [← hGe] at h3
        replace h3 : ∀ j : Nat, (j : Int) = (j : Int) → j < n → 0 ≤ v ∧ v ≤ 1 → ∀ g1, eqS scX g g1 → ∀ L, isF G 36 L → Q [.int (iI (if v = 0 then cnt G 36 else L))] (wof g1 hh) := fun _ _ _ _ => h3
        clear hGe
        have loop : ∀ (k i : Nat) (L : Int) (gg : Nat → Nat → Int), i ≤ 12 → 12 < i + k → (eqS scX g gg) → (isF G (3 * i) L) → R 31 [(0, .ref 0), (1, .int (iI (i0 : Int))), (2, .int (iI v)), (3, .int (iI (cnt G (3 * i)))), (4, .int (iI L)), (5, .int (iI (i : Int)))] [] (wof gg hh) := by
          intro k
          induction k with
          | zero => intro i; intros; omega
          | succ k ih =>
            intro i L gg hi1 hi2 he hL
            refine z_iload hR dX3_guess_31 rfl ?_
            refine g_bipush hR dX3_guess_33 ?_
            refine g_icmp_ge hR (tgt := 122) dX3_guess_35 (by decide) (fun c35 => ?_) (fun c35 => ?_)
            · refine z_iload_n hR dX3_guess_122 rfl rfl ?_
              refine g_if_ne hR (tgt := 130) dX3_guess_123 (by decide) (fun c123 => ?_) (fun c123 => ?_)
              · refine z_iload hR dX3_guess_130 rfl ?_
                refine g_iret hR dX3_guess_132 rfl ?_
                have ei : i = 12 := by omega
                subst ei
                first | exact qi (h3 i0 rfl hi0 hv _ he L hL) (by rw [if_pos c123]) | exact qi (h3 i0 rfl hi0 hv _ he L hL) (by rw [if_neg c123])
              · refine z_iload_n hR dX3_guess_126 rfl rfl ?_
                refine z_goto hR (tgt := 132) dX3_guess_127 (by decide) ?_
                refine g_iret hR dX3_guess_132 rfl ?_
                have ei : i = 12 := by omega
                subst ei
                first | exact qi (h3 i0 rfl hi0 hv _ he L hL) (by rw [if_pos c123]) | exact qi (h3 i0 rfl hi0 hv _ he L hL) (by rw [if_neg c123])
            · have hi12 : i < 12 := by omega
              refine z_aload_n hR dX3_guess_38 rfl rfl ?_
              refine g_get hR dX3_guess_39 zf_3_33 (wk_0 _) (show _ = some (Value.ref 2) from rfl) ?_
              refine z_iload hR dX3_guess_42 rfl ?_
              refine g_inv1 hR dX3_guess_44 zm_3_96 (by decide) zN_X2_islandAt ((wk_2 _) _) zO_X2_islandAt (Nat.le_of_ble_eq_true rfl) ?_
              refine c_X2_islandAt isW2 (n := n) (by rw [eqX he 2 (by omega)]; exact hk.1.1) hn5 (by rw [eqX he (2 + 4) (by omega)]; exact hk.2.1) (by unfold rg; omega) (fun r hr => ?_)
              rw [eqX he (2 + 4) (by omega)] at hr
              have hrr := isAt_rg hr hn5
              have hokq := okP_at (isl := i0) hdis hr
              show R 47 _ (.int _ :: _) _
              refine z_istore hR dX3_guess_47 (by decide) rfl ?_
              refine z_iload hR dX3_guess_49 rfl ?_
              refine g_iconst hR dX3_guess_51 ?_
              refine g_icmp_eq hR (tgt := 64) dX3_guess_52 (by decide) (fun c52 => ?_) (fun c52 => ?_)
              · have hok : okP (g 6) n i0 (i : Int) = true := hokq.mpr (by omega)
                refine z_sub hR [0, 1, 2, 3, 4, 5] rfl ?_
                refine g_iconst hR dX3_guess_64 ?_
                refine z_istore hR dX3_guess_65 (by decide) rfl ?_
                obtain ⟨L0, hL0⟩ : ∃ L0, L0 = L := ⟨_, rfl⟩
                have lp2 : ∀ (ku u : Nat) (L : Int) (gg : Nat → Nat → Int), u ≤ 3 → 3 < u + ku → (eqS scX g gg) → (isF G (3 * i + u) L) → R 67 [(0, .ref 0), (1, .int (iI (i0 : Int))), (2, .int (iI v)), (3, .int (iI (cnt G (3 * i + u)))), (4, .int (iI L)), (5, .int (iI (i : Int))), (7, .int (iI ((u : Int) - 1)))] [] (wof gg hh) := by
                  intro ku
                  induction ku with
                  | zero => intro u; intros; omega
                  | succ ku ihu =>
                    intro u L gg hu1 hu2 he hL
                    refine z_iload hR dX3_guess_67 rfl ?_
                    refine g_iconst hR dX3_guess_69 ?_
                    refine g_icmp_gt hR (tgt := 116) dX3_guess_70 (by decide) (fun c70 => ?_) (fun c70 => ?_)
                    · refine g_iinc hR dX3_guess_116 rfl rfl (by decide) rfl ?_
                      refine z_goto hR (tgt := 31) dX3_guess_119 (by decide) ?_
                      refine z_sub hR [0, 1, 2, 3, 4, 5] rfl ?_
                      have eu : u = 3 := by omega
                      rw [eu] at hL ⊢
                      exact ih (i + 1) L gg (by omega) (by omega) he hL
                    · have hu3 : u < 3 := by omega
                      refine z_aload_n hR dX3_guess_73 rfl rfl ?_
                      refine z_iload_n hR dX3_guess_74 rfl rfl ?_
                      refine z_iload hR dX3_guess_75 rfl ?_
                      refine z_iload hR dX3_guess_77 rfl ?_
                      refine g_inv3 hR dX3_guess_79 zm_3_194 (by decide) zN_X3_shellsWouldHold ((wk_0 _) _) zO_X3_shellsWouldHold (Nat.le_of_ble_eq_true rfl) ?_
                      obtain ⟨z2, z3, z4, z5, z6, z23, z24, z25, z26, z27⟩ := WK_row he
                      refine c_X3_shellsWouldHold (WK_X he hk) hz (sn := sn) (by rw [z23]; exact hH1) hH3 (by rw [z24, z25, z26, z27]; exact hH4) hi0 (p0 := i) (by omega) (by omega) (fun g2 he2 => ?_)
                      rw [z2, z3, z4, z5, z6, z24, z25, z26, z27]
                      have he3 := he.tr he2
                      show R 82 _ (.int _ :: _) _
                      refine g_if_eqb hR (tgt := 110) dX3_guess_82 (by decide) (fun c82 => ?_) (fun c82 => ?_)
                      · have hg : G (3 * i + u) = false := by rw [hG, gss_at hu3, hok, c82]; rfl
                        refine g_iinc hR dX3_guess_110 rfl (show ((u : Int) - 1) + 1 = ((u + 1 : Nat) : Int) - 1 by omega) (by decide) rfl ?_
                        refine z_goto hR (tgt := 67) dX3_guess_113 (by decide) ?_
                        first | (have hst := ihu (u + 1) ((3 * i + u : Nat) : Int) g2 (by omega) (by omega) he3 (isF_new (c91 ▸ hL) hg); rw [show 3 * i + (u + 1) = 3 * i + u + 1 from rfl, cnt_t hg] at hst; exact hst) | (have hst := ihu (u + 1) L g2 (by omega) (by omega) he3 (isF_old hL c91); rw [show 3 * i + (u + 1) = 3 * i + u + 1 from rfl, cnt_t hg] at hst; exact hst) | (have hst := ihu (u + 1) L g2 (by omega) (by omega) he3 (isF_no hL hg); rw [show 3 * i + (u + 1) = 3 * i + u + 1 from rfl, cnt_f hg] at hst; exact hst)
                      · have hg : G (3 * i + u) = true := by rw [hG, gss_at hu3, hok, c82]; rfl
                        have hLr := isF_rg hL
                        refine g_iinc hR dX3_guess_85 rfl rfl (by decide) rfl ?_
                        refine z_iload hR dX3_guess_88 rfl ?_
                        refine g_iconst hR dX3_guess_90 ?_
                        refine g_icmp_ne hR (tgt := 106) dX3_guess_91 (by decide) (fun c91 => ?_) (fun c91 => ?_)
                        · refine z_iload hR dX3_guess_106 rfl ?_
                          refine z_istore hR dX3_guess_108 (by decide) rfl ?_
                          refine g_iinc hR dX3_guess_110 rfl (show ((u : Int) - 1) + 1 = ((u + 1 : Nat) : Int) - 1 by omega) (by decide) rfl ?_
                          refine z_goto hR (tgt := 67) dX3_guess_113 (by decide) ?_
                          first | (have hst := ihu (u + 1) ((3 * i + u : Nat) : Int) g2 (by omega) (by omega) he3 (isF_new (c91 ▸ hL) hg); rw [show 3 * i + (u + 1) = 3 * i + u + 1 from rfl, cnt_t hg] at hst; exact hst) | (have hst := ihu (u + 1) L g2 (by omega) (by omega) he3 (isF_old hL c91); rw [show 3 * i + (u + 1) = 3 * i + u + 1 from rfl, cnt_t hg] at hst; exact hst) | (have hst := ihu (u + 1) L g2 (by omega) (by omega) he3 (isF_no hL hg); rw [show 3 * i + (u + 1) = 3 * i + u + 1 from rfl, cnt_f hg] at hst; exact hst)
                        · refine g_iconst hR dX3_guess_94 ?_
                          refine z_iload hR dX3_guess_95 rfl ?_
                          refine g_imul hR dX3_guess_97 (nmul 3 i) ?_
                          refine z_iload hR dX3_guess_98 rfl ?_
                          refine g_iadd hR dX3_guess_100 rfl ?_
                          refine g_iconst hR dX3_guess_101 ?_
                          refine g_iadd hR dX3_guess_102 (show ((3 * i : Nat) : Int) + ((u : Int) - 1) + 1 = ((3 * i + u : Nat) : Int) by omega) ?_
                          refine z_goto hR (tgt := 108) dX3_guess_103 (by decide) ?_
                          refine z_istore hR dX3_guess_108 (by decide) rfl ?_
                          refine g_iinc hR dX3_guess_110 rfl (show ((u : Int) - 1) + 1 = ((u + 1 : Nat) : Int) - 1 by omega) (by decide) rfl ?_
                          refine z_goto hR (tgt := 67) dX3_guess_113 (by decide) ?_
                          first | (have hst := ihu (u + 1) ((3 * i + u : Nat) : Int) g2 (by omega) (by omega) he3 (isF_new (c91 ▸ hL) hg); rw [show 3 * i + (u + 1) = 3 * i + u + 1 from rfl, cnt_t hg] at hst; exact hst) | (have hst := ihu (u + 1) L g2 (by omega) (by omega) he3 (isF_old hL c91); rw [show 3 * i + (u + 1) = 3 * i + u + 1 from rfl, cnt_t hg] at hst; exact hst) | (have hst := ihu (u + 1) L g2 (by omega) (by omega) he3 (isF_no hL hg); rw [show 3 * i + (u + 1) = 3 * i + u + 1 from rfl, cnt_f hg] at hst; exact hst)
                have hl := lp2 4 0 L gg (by omega) (by omega) he hL
                rw [show ((0 : Nat) : Int) - 1 = -1 from rfl] at hl
                exact hl
              · refine z_iload hR dX3_guess_55 rfl ?_
                refine z_iload_n hR dX3_guess_57 rfl rfl ?_
                refine g_icmp_eq hR (tgt := 64) dX3_guess_58 (by decide) (fun c58 => ?_) (fun c58 => ?_)
                · have hok : okP (g 6) n i0 (i : Int) = true := hokq.mpr (by omega)
                  refine z_sub hR [0, 1, 2, 3, 4, 5] rfl ?_
                  refine g_iconst hR dX3_guess_64 ?_
                  refine z_istore hR dX3_guess_65 (by decide) rfl ?_
                  obtain ⟨L0, hL0⟩ : ∃ L0, L0 = L := ⟨_, rfl⟩
                  have lp2 : ∀ (ku u : Nat) (L : Int) (gg : Nat → Nat → Int), u ≤ 3 → 3 < u + ku → (eqS scX g gg) → (isF G (3 * i + u) L) → R 67 [(0, .ref 0), (1, .int (iI (i0 : Int))), (2, .int (iI v)), (3, .int (iI (cnt G (3 * i + u)))), (4, .int (iI L)), (5, .int (iI (i : Int))), (7, .int (iI ((u : Int) - 1)))] [] (wof gg hh) := by
                    intro ku
                    induction ku with
                    | zero => intro u; intros; omega
                    | succ ku ihu =>
                      intro u L gg hu1 hu2 he hL
                      refine z_iload hR dX3_guess_67 rfl ?_
                      refine g_iconst hR dX3_guess_69 ?_
                      refine g_icmp_gt hR (tgt := 116) dX3_guess_70 (by decide) (fun c70 => ?_) (fun c70 => ?_)
                      · refine g_iinc hR dX3_guess_116 rfl rfl (by decide) rfl ?_
                        refine z_goto hR (tgt := 31) dX3_guess_119 (by decide) ?_
                        refine z_sub hR [0, 1, 2, 3, 4, 5] rfl ?_
                        have eu : u = 3 := by omega
                        rw [eu] at hL ⊢
                        exact ih (i + 1) L gg (by omega) (by omega) he hL
                      · have hu3 : u < 3 := by omega
                        refine z_aload_n hR dX3_guess_73 rfl rfl ?_
                        refine z_iload_n hR dX3_guess_74 rfl rfl ?_
                        refine z_iload hR dX3_guess_75 rfl ?_
                        refine z_iload hR dX3_guess_77 rfl ?_
                        refine g_inv3 hR dX3_guess_79 zm_3_194 (by decide) zN_X3_shellsWouldHold ((wk_0 _) _) zO_X3_shellsWouldHold (Nat.le_of_ble_eq_true rfl) ?_
                        obtain ⟨z2, z3, z4, z5, z6, z23, z24, z25, z26, z27⟩ := WK_row he
                        refine c_X3_shellsWouldHold (WK_X he hk) hz (sn := sn) (by rw [z23]; exact hH1) hH3 (by rw [z24, z25, z26, z27]; exact hH4) hi0 (p0 := i) (by omega) (by omega) (fun g2 he2 => ?_)
                        rw [z2, z3, z4, z5, z6, z24, z25, z26, z27]
                        have he3 := he.tr he2
                        show R 82 _ (.int _ :: _) _
                        refine g_if_eqb hR (tgt := 110) dX3_guess_82 (by decide) (fun c82 => ?_) (fun c82 => ?_)
                        · have hg : G (3 * i + u) = false := by rw [hG, gss_at hu3, hok, c82]; rfl
                          refine g_iinc hR dX3_guess_110 rfl (show ((u : Int) - 1) + 1 = ((u + 1 : Nat) : Int) - 1 by omega) (by decide) rfl ?_
                          refine z_goto hR (tgt := 67) dX3_guess_113 (by decide) ?_
                          first | (have hst := ihu (u + 1) ((3 * i + u : Nat) : Int) g2 (by omega) (by omega) he3 (isF_new (c91 ▸ hL) hg); rw [show 3 * i + (u + 1) = 3 * i + u + 1 from rfl, cnt_t hg] at hst; exact hst) | (have hst := ihu (u + 1) L g2 (by omega) (by omega) he3 (isF_old hL c91); rw [show 3 * i + (u + 1) = 3 * i + u + 1 from rfl, cnt_t hg] at hst; exact hst) | (have hst := ihu (u + 1) L g2 (by omega) (by omega) he3 (isF_no hL hg); rw [show 3 * i + (u + 1) = 3 * i + u + 1 from rfl, cnt_f hg] at hst; exact hst)
                        · have hg : G (3 * i + u) = true := by rw [hG, gss_at hu3, hok, c82]; rfl
                          have hLr := isF_rg hL
                          refine g_iinc hR dX3_guess_85 rfl rfl (by decide) rfl ?_
                          refine z_iload hR dX3_guess_88 rfl ?_
                          refine g_iconst hR dX3_guess_90 ?_
                          refine g_icmp_ne hR (tgt := 106) dX3_guess_91 (by decide) (fun c91 => ?_) (fun c91 => ?_)
                          · refine z_iload hR dX3_guess_106 rfl ?_
                            refine z_istore hR dX3_guess_108 (by decide) rfl ?_
                            refine g_iinc hR dX3_guess_110 rfl (show ((u : Int) - 1) + 1 = ((u + 1 : Nat) : Int) - 1 by omega) (by decide) rfl ?_
                            refine z_goto hR (tgt := 67) dX3_guess_113 (by decide) ?_
                            first | (have hst := ihu (u + 1) ((3 * i + u : Nat) : Int) g2 (by omega) (by omega) he3 (isF_new (c91 ▸ hL) hg); rw [show 3 * i + (u + 1) = 3 * i + u + 1 from rfl, cnt_t hg] at hst; exact hst) | (have hst := ihu (u + 1) L g2 (by omega) (by omega) he3 (isF_old hL c91); rw [show 3 * i + (u + 1) = 3 * i + u + 1 from rfl, cnt_t hg] at hst; exact hst) | (have hst := ihu (u + 1) L g2 (by omega) (by omega) he3 (isF_no hL hg); rw [show 3 * i + (u + 1) = 3 * i + u + 1 from rfl, cnt_f hg] at hst; exact hst)
                          · refine g_iconst hR dX3_guess_94 ?_
                            refine z_iload hR dX3_guess_95 rfl ?_
                            refine g_imul hR dX3_guess_97 (nmul 3 i) ?_
                            refine z_iload hR dX3_guess_98 rfl ?_
                            refine g_iadd hR dX3_guess_100 rfl ?_
                            refine g_iconst hR dX3_guess_101 ?_
                            refine g_iadd hR dX3_guess_102 (show ((3 * i : Nat) : Int) + ((u : Int) - 1) + 1 = ((3 * i + u : Nat) : Int) by omega) ?_
                            refine z_goto hR (tgt := 108) dX3_guess_103 (by decide) ?_
                            refine z_istore hR dX3_guess_108 (by decide) rfl ?_
                            refine g_iinc hR dX3_guess_110 rfl (show ((u : Int) - 1) + 1 = ((u + 1 : Nat) : Int) - 1 by omega) (by decide) rfl ?_
                            refine z_goto hR (tgt := 67) dX3_guess_113 (by decide) ?_
                            first | (have hst := ihu (u + 1) ((3 * i + u : Nat) : Int) g2 (by omega) (by omega) he3 (isF_new (c91 ▸ hL) hg); rw [show 3 * i + (u + 1) = 3 * i + u + 1 from rfl, cnt_t hg] at hst; exact hst) | (have hst := ihu (u + 1) L g2 (by omega) (by omega) he3 (isF_old hL c91); rw [show 3 * i + (u + 1) = 3 * i + u + 1 from rfl, cnt_t hg] at hst; exact hst) | (have hst := ihu (u + 1) L g2 (by omega) (by omega) he3 (isF_no hL hg); rw [show 3 * i + (u + 1) = 3 * i + u + 1 from rfl, cnt_f hg] at hst; exact hst)
                  have hl := lp2 4 0 L gg (by omega) (by omega) he hL
                  rw [show ((0 : Nat) : Int) - 1 = -1 from rfl] at hl
                  exact hl
                · have hok : okP (g 6) n i0 (i : Int) = false := by cases e : okP (g 6) n i0 (i : Int); rfl; exact absurd (hokq.mp e) (by omega)
                  refine z_goto hR (tgt := 116) dX3_guess_61 (by decide) ?_
                  refine g_iinc hR dX3_guess_116 rfl rfl (by decide) rfl ?_
                  refine z_goto hR (tgt := 31) dX3_guess_119 (by decide) ?_
                  refine z_sub hR [0, 1, 2, 3, 4, 5] rfl ?_
                  have g0 : ∀ u, u < 3 → G (3 * i + u) = false := fun u hu => by rw [hG, gss_at hu, hok]; rfl
                  have hst := ih (i + 1) L gg (by omega) (by omega) he (isF_no (isF_no (isF_no hL (g0 0 (by omega))) (g0 1 (by omega))) (g0 2 (by omega)))
                  rw [show 3 * (i + 1) = 3 * i + 2 + 1 by omega, cnt_f (g0 2 (by omega)), show 3 * i + 2 = 3 * i + 1 + 1 from rfl, cnt_f (g0 1 (by omega)), cnt_f (g0 0 (by omega))] at hst
                  exact hst
        refine g_iconst hR dX3_guess_23 ?_
        refine z_istore_n hR dX3_guess_24 rfl (by decide) rfl ?_
        refine g_iconst hR dX3_guess_25 ?_
        refine z_istore hR dX3_guess_26 (by decide) rfl ?_
        refine g_iconst hR dX3_guess_28 ?_
        refine z_istore hR dX3_guess_29 (by decide) rfl ?_
        exact loop 13 0 (-1) g (by omega) (by omega) eqS.rf (isF_0 G)
      · refine g_bipush hR dX3_guess_20 ?_
        refine g_iret hR dX3_guess_22 rfl ?_
        exact h2 c5 (by omega)
  · have c5 := of_decide_eq_false c5
    refine g_bipush hR dX3_guess_8 ?_
    refine g_iret hR dX3_guess_10 rfl ?_
    exact h1 c5
theorem so_skip {sn : Nat} {w : FI} {S : Nat → Bool} {t u : Nat} {B : Bool} (h : B = true ↔ ∀ k, k < sn → (w k < (t : Int) ∨ (w k = (t : Int) ∧ k < u)) → S k = true) (hu : w u ≠ (t : Int)) : B = true ↔ ∀ k, k < sn → (w k < (t : Int) ∨ (w k = (t : Int) ∧ k < u + 1)) → S k = true := by
  rw [h]
  constructor
  · intro q k hk a
    refine q k hk ?_
    rcases a with a | a
    · exact Or.inl a
    · refine Or.inr ⟨a.1, ?_⟩
      rcases Nat.lt_or_eq_of_le (Nat.le_of_lt_succ a.2) with z | z
      · exact z
      · exact absurd (z ▸ a.1) hu
  · intro q k hk a
    exact q k hk (a.imp id (fun z => ⟨z.1, by omega⟩))
theorem so_one {sn : Nat} {w : FI} {S : Nat → Bool} {t u : Nat} {B B2 : Bool} (h : B = true ↔ ∀ k, k < sn → (w k < (t : Int) ∨ (w k = (t : Int) ∧ k < u)) → S k = true) (hu : w u = (t : Int)) (hus : u < sn) (e : B2 = (B && S u)) : B2 = true ↔ ∀ k, k < sn → (w k < (t : Int) ∨ (w k = (t : Int) ∧ k < u + 1)) → S k = true := by
  rw [e, Bool.and_eq_true, h]
  constructor
  · rintro ⟨q, qu⟩ k hk a
    rcases a with a | a
    · exact q k hk (Or.inl a)
    · rcases Nat.lt_or_eq_of_le (Nat.le_of_lt_succ a.2) with z | z
      · exact q k hk (Or.inr ⟨a.1, z⟩)
      · rw [z]; exact qu
  · intro q
    exact ⟨fun k hk a => q k hk (a.imp id (fun z => ⟨z.1, by omega⟩)), q u hus (Or.inr ⟨hu, by omega⟩)⟩
theorem so_row {sn : Nat} {w : FI} {S : Nat → Bool} {t : Nat} {B : Bool} (h : B = true ↔ ∀ k, k < sn → (w k < (t : Int) ∨ (w k = (t : Int) ∧ k < sn)) → S k = true) : B = true ↔ ∀ k, k < sn → w k < ((t + 1 : Nat) : Int) → S k = true := by
  rw [h]
  exact ⟨fun q k hk a => q k hk (by omega), fun q k hk a => q k hk (by omega)⟩
theorem so_in {sn : Nat} {w : FI} {S : Nat → Bool} {t : Nat} {B : Bool} (h : B = true ↔ ∀ k, k < sn → w k < (t : Int) → S k = true) : B = true ↔ ∀ k, k < sn → (w k < (t : Int) ∨ (w k = (t : Int) ∧ k < 0)) → S k = true := by
  rw [h]
  exact ⟨fun q k hk a => q k hk (by omega), fun q k hk a => q k hk (Or.inl a)⟩
theorem mst_44 (g : Nat → Nat → Int) (q : FI) (an wi da : Int) (i : Nat) (z : Int) : gr (mst g q an wi da) 44 (iu ((mst g q an wi da) 44) i z) = mst g (iu q i z) an wi da := by
  show gr (mst g q an wi da) 44 (iu q i z) = mst g (iu q i z) an wi da
  unfold mst
  rw [gr_sw (show (44 : Nat) ≠ 39 by decide)]
def shO (g : Nat → Nat → Int) (o : Nat) : FI := fun k => g 48 (4 * k + o)
theorem c_X4_isSo {zs : zzT} {d : Nat} {Q : zzQ} {g : Nat → Nat → Int} {hh : Int64} {n m : Nat} {ea eb : Nat → Nat} (hp : MP g n m ea eb) {sn : Nat} (hM1 : g 39 22 = (sn : Int)) (hM3 : sn ≤ 8) (hM4 : ∀ k, k < sn → (0 ≤ shO g 2 k ∧ shO g 2 k ≤ 20) ∧ (0 ≤ shO g 0 k ∧ shO g 0 k < n) ∧ (0 ≤ shO g 1 k ∧ shO g 1 k < n) ∧ (shO g 3 k = 0 ∨ shO g 3 k = 1)) {i0 p0 : Nat} (hi0 : i0 < n) (hp0 : p0 < 12) {wv : Int} (hwv : -1 ≤ wv ∧ wv ≤ 1) (hQ : ∀ g1, eqS scM g g1 → Q [.int (iI (b2i (hld (trj n (kdM g) (szM g) (g 41) (pby ea eb lfa m) (anb g n) wv (g 39 4) (iu (nwr g n) i0 (p0 : Int))) (shO g 0) (shO g 1) (shO g 2) (shO g 3) sn)))] (wof g1 hh)) : zzCL zs (d + 5) 124 [.ref 39, .int (iI (i0 : Int)), .int (iI (p0 : Int)), .int (iI wv)] (wof g hh) Q := by
  refine st_X4_isSo (Nat.le_of_ble_eq_true rfl) (fun R hR => ?_)
  show R 0 [(0, .ref 39), (1, .int (iI (i0 : Int))), (2, .int (iI (p0 : Int))), (3, .int (iI wv))] [] _
  have hn5 := hp.2.1
  have han : anb g n < 32 := Nat.lt_of_lt_of_le (anb_lt g n) (Nat.pow_le_pow_right (n := 2) (by decide) hn5)
  have hda := hp.2.2.2.2.2.2.2.2.1
  refine z_aload_n hR dX4_isSo_0 rfl rfl ?_
  refine g_inv0 hR dX4_isSo_1 zm_4_139 (by decide) zN_X4_asItIs ((wk_39 _) _) zO_X4_asItIs (Nat.le_of_ble_eq_true rfl) ?_
  refine c_X4_asItIs hp.1 hp.2.1 hp.2.2.2.2.2.2.1 ?_
  show R 4 _ _ _
  rw [show gr (gr g 44 (nwr g n)) 39 (iu (iu (iu (g 39) 13 ((anb g n : Nat) : Int)) 14 (g 39 3)) 15 (g 39 4)) = mst g (nwr g n) ((anb g n : Nat) : Int) (g 39 3) (g 39 4) from rfl]
  refine z_aload_n hR dX4_isSo_4 rfl rfl ?_
  refine g_get hR dX4_isSo_5 zf_4_22 (wk_39 _) (show _ = some (Value.ref 44) from rfl) ?_
  refine z_iload_n hR dX4_isSo_8 rfl rfl ?_
  refine z_iload_n hR dX4_isSo_9 rfl rfl ?_
  refine g_iastN hR dX4_isSo_10 (wk_44 _) ?_
  rw [mst_44]
  refine z_aload_n hR dX4_isSo_11 rfl rfl ?_
  refine z_iload_n hR dX4_isSo_12 rfl rfl ?_
  refine g_put hR dX4_isSo_13 zf_4_110 (wk_39 _) (Nat.le_of_ble_eq_true rfl) rfl rfl rfl rfl ?_
  rw [mst_14]
  refine g_iconst hR dX4_isSo_16 ?_
  refine z_istore hR dX4_isSo_17 (by decide) rfl ?_
  refine g_iconst hR dX4_isSo_19 ?_
  refine z_istore hR dX4_isSo_20 (by decide) rfl ?_
  have hTok : ∀ i, plok n (trj n (kdM g) (szM g) (g 41) (pby ea eb lfa m) (anb g n) wv (g 39 4) (iu (nwr g n) i0 (p0 : Int)) i) := trj_ok (plok_iu (nwr_ok hp.2.2.2.2.2.1) hp0)
  have hT0 : trj n (kdM g) (szM g) (g 41) (pby ea eb lfa m) (anb g n) wv (g 39 4) (iu (nwr g n) i0 (p0 : Int)) 0 = iu (nwr g n) i0 (p0 : Int) := rfl
  have hTs : ∀ i : Nat, trj n (kdM g) (szM g) (g 41) (pby ea eb lfa m) (anb g n) wv (g 39 4) (iu (nwr g n) i0 (p0 : Int)) (i + 1) = (drf n (kdM g) (szM g) (g 41) (pby ea eb lfa m) (anb g n) wv (g 39 4 + (i : Int)) n (trj n (kdM g) (szM g) (g 41) (pby ea eb lfa m) (anb g n) wv (g 39 4) (iu (nwr g n) i0 (p0 : Int)) i)).1 := fun _ => rfl
  have hV : hld (trj n (kdM g) (szM g) (g 41) (pby ea eb lfa m) (anb g n) wv (g 39 4) (iu (nwr g n) i0 (p0 : Int))) (shO g 0) (shO g 1) (shO g 2) (shO g 3) sn = hld (trj n (kdM g) (szM g) (g 41) (pby ea eb lfa m) (anb g n) wv (g 39 4) (iu (nwr g n) i0 (p0 : Int))) (shO g 0) (shO g 1) (shO g 2) (shO g 3) sn := rfl
  generalize hTT : trj n (kdM g) (szM g) (g 41) (pby ea eb lfa m) (anb g n) wv (g 39 4) (iu (nwr g n) i0 (p0 : Int)) = T at hTok hT0 hTs hV hQ
  have lp1 : ∀ (kt t : Nat) (B : Bool), t ≤ 21 → 21 < t + kt → (B = true ↔ ∀ k, k < sn → shO g 2 k < (t : Int) → shk T (shO g 0) (shO g 1) (shO g 2) (shO g 3) k = true) → R 22 [(0, .ref 39), (1, .int (iI (i0 : Int))), (2, .int (iI (p0 : Int))), (3, .int (iI wv)), (4, .int (iI (b2i B))), (5, .int (iI (t : Int)))] [] (wof (mst g (T t) ((anb g n : Nat) : Int) wv (g 39 4 + (t : Int))) hh) := by
    intro kt
    induction kt with
    | zero => intro t; intros; omega
    | succ kt iht =>
      intro t B ht1 ht2 hB
      refine z_iload hR dX4_isSo_22 rfl ?_
      refine g_bipush hR dX4_isSo_24 ?_
      refine g_icmp_ge hR (tgt := 147) dX4_isSo_26 (by decide) (fun c26 => ?_) (fun c26 => ?_)
      · refine z_iload hR dX4_isSo_147 rfl ?_
        refine g_zret hR dX4_isSo_149 rfl ?_
        refine qz (hQ _ (mst_eqS _ _ _ _ _)) ?_
        rw [hV]
        cases e : hld T (shO g 0) (shO g 1) (shO g 2) (shO g 3) sn
        · cases B
          · rfl
          · have := hld_t (fun k hk => hB.mp rfl k hk (by have := (hM4 k hk).1; omega)); rw [e] at this; exact absurd this (by decide)
        · exact hB.mpr (fun k hk _ => hld_iff.mp e k hk)
      · refine g_iconst hR dX4_isSo_29 ?_
        refine z_istore hR dX4_isSo_30 (by decide) rfl ?_
        have lp2 : ∀ (ku u : Nat) (B : Bool), u ≤ sn → sn < u + ku → (B = true ↔ ∀ k, k < sn → (shO g 2 k < (t : Int) ∨ (shO g 2 k = (t : Int) ∧ k < u)) → shk T (shO g 0) (shO g 1) (shO g 2) (shO g 3) k = true) → R 32 [(0, .ref 39), (1, .int (iI (i0 : Int))), (2, .int (iI (p0 : Int))), (3, .int (iI wv)), (4, .int (iI (b2i B))), (5, .int (iI (t : Int))), (6, .int (iI (u : Int)))] [] (wof (mst g (T t) ((anb g n : Nat) : Int) wv (g 39 4 + (t : Int))) hh) := by
          intro ku
          induction ku with
          | zero => intro u; intros; omega
          | succ ku ihu =>
            intro u B hu1 hu2 hB
            refine z_iload hR dX4_isSo_32 rfl ?_
            refine z_aload_n hR dX4_isSo_34 rfl rfl ?_
            refine g_get hR dX4_isSo_35 zf_4_82 (wk_39 _) (gi (show (mst g (T t) ((anb g n : Nat) : Int) wv (g 39 4 + (t : Int))) 39 22 = (sn : Int) from hM1)) ?_
            refine g_icmp_ge hR (tgt := 135) dX4_isSo_38 (by decide) (fun c38 => ?_) (fun c38 => ?_)
            · refine z_aload_n hR dX4_isSo_135 rfl rfl ?_
              refine g_inv0 hR dX4_isSo_136 zm_4_154 (by decide) zN_X4_passes ((wk_39 _) _) zO_X4_passes (Nat.le_of_ble_eq_true rfl) ?_
              refine c_X4_passes (mst_md hp (hTok t) han hwv (by omega)) (mst_mr hp.2.2.2.2.2.2.2.2.2) ?_
              rw [mst_pass]
              show R 139 _ (.int _ :: _) _
              refine z_istore hR dX4_isSo_139 (by decide) rfl ?_
              refine g_iinc hR dX4_isSo_141 rfl rfl (by decide) rfl ?_
              refine z_goto hR (tgt := 22) dX4_isSo_144 (by decide) ?_
              refine z_sub hR [0, 1, 2, 3, 4, 5] rfl ?_
              have eu : u = sn := by omega
              rw [eu] at hB
              have hst := iht (t + 1) B (by omega) (by omega) (so_row hB)
              rw [hTs t, show g 39 4 + ((t + 1 : Nat) : Int) = g 39 4 + (t : Int) + 1 by omega] at hst
              exact hst
            · have hus : u < sn := by omega
              obtain ⟨q0, ⟨q1, q2⟩, ⟨q3, q4⟩, q5⟩ := hM4 u hus
              obtain ⟨o1, ho1⟩ := Int.eq_ofNat_of_zero_le q1
              obtain ⟨o2, ho2⟩ := Int.eq_ofNat_of_zero_le q3
              have hrw : rg (shO g 2 u) := by unfold rg; omega
              have hrw3 : rg (shO g 3 u) := by unfold rg; omega
              have ho1n : o1 < n := by omega
              have ho2n : o2 < n := by omega
              refine z_aload_n hR dX4_isSo_41 rfl rfl ?_
              refine g_get hR dX4_isSo_42 zf_4_34 (wk_39 _) (show _ = some (Value.ref 48) from rfl) ?_
              refine g_iconst hR dX4_isSo_45 ?_
              refine z_iload hR dX4_isSo_46 rfl ?_
              refine g_imul hR dX4_isSo_48 (nmul 4 _) ?_
              refine g_iconst hR dX4_isSo_49 ?_
              refine g_iadd hR dX4_isSo_50 (nadd _ 2) ?_
              refine g_ialdN hR dX4_isSo_51 (wk_48 _) (show (mst g (T t) ((anb g n : Nat) : Int) wv (g 39 4 + (t : Int))) 48 (4 * u + 2) = shO g 2 u from rfl) ?_
              refine z_iload hR dX4_isSo_52 rfl ?_
              refine g_icmp_ne hR (tgt := 129) dX4_isSo_54 (by decide) (fun c54 => ?_) (fun c54 => ?_)
              · refine g_iinc hR dX4_isSo_129 rfl rfl (by decide) rfl ?_
                refine z_goto hR (tgt := 32) dX4_isSo_132 (by decide) ?_
                refine z_sub hR [0, 1, 2, 3, 4, 5, 6] rfl ?_
                exact ihu (u + 1) B (by omega) (by omega) (so_skip hB c54)
              · have hSu : shk T (shO g 0) (shO g 1) (shO g 2) (shO g 3) u = (bs (T t o1) (T t o2) == decide (shO g 3 u = 1)) := shk_at c54 ho1 ho2
                refine z_aload_n hR dX4_isSo_57 rfl rfl ?_
                refine g_get hR dX4_isSo_58 zf_4_22 (wk_39 _) (show _ = some (Value.ref 44) from rfl) ?_
                refine z_aload_n hR dX4_isSo_61 rfl rfl ?_
                refine g_get hR dX4_isSo_62 zf_4_34 (wk_39 _) (show _ = some (Value.ref 48) from rfl) ?_
                refine g_iconst hR dX4_isSo_65 ?_
                refine z_iload hR dX4_isSo_66 rfl ?_
                refine g_imul hR dX4_isSo_68 (nmul 4 _) ?_
                refine g_ialdN hR dX4_isSo_69 (wk_48 _) (show (mst g (T t) ((anb g n : Nat) : Int) wv (g 39 4 + (t : Int))) 48 (4 * u) = (o1 : Int) from ho1) ?_
                refine g_ialdN hR dX4_isSo_70 (wk_44 _) (show (mst g (T t) ((anb g n : Nat) : Int) wv (g 39 4 + (t : Int))) 44 o1 = T t o1 from rfl) ?_
                refine z_aload_n hR dX4_isSo_71 rfl rfl ?_
                refine g_get hR dX4_isSo_72 zf_4_22 (wk_39 _) (show _ = some (Value.ref 44) from rfl) ?_
                refine z_aload_n hR dX4_isSo_75 rfl rfl ?_
                refine g_get hR dX4_isSo_76 zf_4_34 (wk_39 _) (show _ = some (Value.ref 48) from rfl) ?_
                refine g_iconst hR dX4_isSo_79 ?_
                refine z_iload hR dX4_isSo_80 rfl ?_
                refine g_imul hR dX4_isSo_82 (nmul 4 _) ?_
                refine g_iconst hR dX4_isSo_83 ?_
                refine g_iadd hR dX4_isSo_84 (nadd _ 1) ?_
                refine g_ialdN hR dX4_isSo_85 (wk_48 _) (show (mst g (T t) ((anb g n : Nat) : Int) wv (g 39 4 + (t : Int))) 48 (4 * u + 1) = (o2 : Int) from ho2) ?_
                refine g_ialdN hR dX4_isSo_86 (wk_44 _) (show (mst g (T t) ((anb g n : Nat) : Int) wv (g 39 4 + (t : Int))) 44 o2 = T t o2 from rfl) ?_
                refine g_sta2 hR dX4_isSo_87 zm_4_132 zN_X4_areBeside (Nat.le_of_ble_eq_true rfl) ?_
                refine c_X4_areBeside (hTok t o1 ho1n) (hTok t o2 ho2n) ?_
                show R 90 _ (.int _ :: _) _
                refine z_istore hR dX4_isSo_90 (by decide) rfl ?_
                refine z_iload hR dX4_isSo_92 rfl ?_
                refine g_if_eqb hR (tgt := 126) dX4_isSo_94 (by decide) (fun c94 => ?_) (fun c94 => ?_)
                · refine g_iconst hR dX4_isSo_126 ?_
                  refine z_istore hR dX4_isSo_127 (by decide) rfl ?_
                  refine g_iinc hR dX4_isSo_129 rfl rfl (by decide) rfl ?_
                  refine z_goto hR (tgt := 32) dX4_isSo_132 (by decide) ?_
                  refine z_sub hR [0, 1, 2, 3, 4, 5, 6] rfl ?_
                  have hB2 : false = (B && shk T (shO g 0) (shO g 1) (shO g 2) (shO g 3) u) := by first | (rw [c94]; rfl) | (rw [c94, hSu, c119, decide_eq_true c111]; rfl) | (rw [c94, hSu, b2i_1 c119, decide_eq_false c111]; rfl)
                  exact ihu (u + 1) false (by omega) (by omega) (so_one hB c54 hus hB2)
                · refine z_iload hR dX4_isSo_97 rfl ?_
                  refine z_aload_n hR dX4_isSo_99 rfl rfl ?_
                  refine g_get hR dX4_isSo_100 zf_4_34 (wk_39 _) (show _ = some (Value.ref 48) from rfl) ?_
                  refine g_iconst hR dX4_isSo_103 ?_
                  refine z_iload hR dX4_isSo_104 rfl ?_
                  refine g_imul hR dX4_isSo_106 (nmul 4 _) ?_
                  refine g_iconst hR dX4_isSo_107 ?_
                  refine g_iadd hR dX4_isSo_108 (nadd _ 3) ?_
                  refine g_ialdN hR dX4_isSo_109 (wk_48 _) (show (mst g (T t) ((anb g n : Nat) : Int) wv (g 39 4 + (t : Int))) 48 (4 * u + 3) = shO g 3 u from rfl) ?_
                  refine g_iconst hR dX4_isSo_110 ?_
                  refine g_icmp_ne hR (tgt := 118) dX4_isSo_111 (by decide) (fun c111 => ?_) (fun c111 => ?_)
                  · refine g_iconst hR dX4_isSo_118 ?_
                    refine g_icmp_ne hR (tgt := 126) dX4_isSo_119 (by decide) (fun c119 => ?_) (fun c119 => ?_)
                    · refine g_iconst hR dX4_isSo_126 ?_
                      refine z_istore hR dX4_isSo_127 (by decide) rfl ?_
                      refine g_iinc hR dX4_isSo_129 rfl rfl (by decide) rfl ?_
                      refine z_goto hR (tgt := 32) dX4_isSo_132 (by decide) ?_
                      refine z_sub hR [0, 1, 2, 3, 4, 5, 6] rfl ?_
                      have hB2 : false = (B && shk T (shO g 0) (shO g 1) (shO g 2) (shO g 3) u) := by first | (rw [c94]; rfl) | (rw [c94, hSu, c119, decide_eq_true c111]; rfl) | (rw [c94, hSu, b2i_1 c119, decide_eq_false c111]; rfl)
                      exact ihu (u + 1) false (by omega) (by omega) (so_one hB c54 hus hB2)
                    · refine g_iconst hR dX4_isSo_122 ?_
                      refine z_goto hR (tgt := 127) dX4_isSo_123 (by decide) ?_
                      refine z_istore hR dX4_isSo_127 (by decide) rfl ?_
                      refine g_iinc hR dX4_isSo_129 rfl rfl (by decide) rfl ?_
                      refine z_goto hR (tgt := 32) dX4_isSo_132 (by decide) ?_
                      refine z_sub hR [0, 1, 2, 3, 4, 5, 6] rfl ?_
                      have hB2 : true = (B && shk T (shO g 0) (shO g 1) (shO g 2) (shO g 3) u) := by rw [c94, hSu]; first | (rw [c119, decide_eq_true c111]; rfl) | (rw [b2i_0 c119, decide_eq_false c111]; rfl)
                      exact ihu (u + 1) true (by omega) (by omega) (so_one hB c54 hus hB2)
                  · refine g_iconst hR dX4_isSo_114 ?_
                    refine z_goto hR (tgt := 119) dX4_isSo_115 (by decide) ?_
                    refine g_icmp_neb hR (tgt := 126) dX4_isSo_119 (by decide) (fun c119 => ?_) (fun c119 => ?_)
                    · refine g_iconst hR dX4_isSo_126 ?_
                      refine z_istore hR dX4_isSo_127 (by decide) rfl ?_
                      refine g_iinc hR dX4_isSo_129 rfl rfl (by decide) rfl ?_
                      refine z_goto hR (tgt := 32) dX4_isSo_132 (by decide) ?_
                      refine z_sub hR [0, 1, 2, 3, 4, 5, 6] rfl ?_
                      have hB2 : false = (B && shk T (shO g 0) (shO g 1) (shO g 2) (shO g 3) u) := by first | (rw [c94]; rfl) | (rw [c94, hSu, c119, decide_eq_true c111]; rfl) | (rw [c94, hSu, b2i_1 c119, decide_eq_false c111]; rfl)
                      exact ihu (u + 1) false (by omega) (by omega) (so_one hB c54 hus hB2)
                    · refine g_iconst hR dX4_isSo_122 ?_
                      refine z_goto hR (tgt := 127) dX4_isSo_123 (by decide) ?_
                      refine z_istore hR dX4_isSo_127 (by decide) rfl ?_
                      refine g_iinc hR dX4_isSo_129 rfl rfl (by decide) rfl ?_
                      refine z_goto hR (tgt := 32) dX4_isSo_132 (by decide) ?_
                      refine z_sub hR [0, 1, 2, 3, 4, 5, 6] rfl ?_
                      have hB2 : true = (B && shk T (shO g 0) (shO g 1) (shO g 2) (shO g 3) u) := by rw [c94, hSu]; first | (rw [c119, decide_eq_true c111]; rfl) | (rw [b2i_0 c119, decide_eq_false c111]; rfl)
                      exact ihu (u + 1) true (by omega) (by omega) (so_one hB c54 hus hB2)
        exact lp2 (sn + 1) 0 B (by omega) (by omega) (so_in hB)
  have hl := lp1 22 0 true (by omega) (by omega) ⟨fun _ k hk hq => absurd hq (by have := (hM4 k hk).1; omega), fun _ => rfl⟩
  rw [hT0, show g 39 4 + ((0 : Nat) : Int) = g 39 4 by simp] at hl
  exact hl
