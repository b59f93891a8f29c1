theorem isAt_congr {pl pl1 : FI} {n : Nat} {q r : Int} (e : eqn n pl pl1) (h : isAt pl n q r) : isAt pl1 n q r := by
  rcases h with ⟨j, hj, a, b⟩ | ⟨h, b⟩
  · exact Or.inl ⟨j, hj, by rw [← e j hj]; exact a, b⟩
  · exact Or.inr ⟨fun j hj => by rw [← e j hj]; exact h j hj, b⟩
theorem eqM_r {g g1 : Nat → Nat → Int} (h : eqS scM g g1) {b : Nat} (hb : ¬ (b = 39 ∨ (44 ≤ b ∧ b ≤ 47))) : g1 b = g b := funext fun k => h b k (by unfold scM; omega)
theorem eqM_39 {g g1 : Nat → Nat → Int} (h : eqS scM g g1) {k : Nat} (hk : ¬ (k = 13 ∨ k = 14 ∨ k = 15 ∨ k = 20 ∨ k = 21 ∨ k = 24)) : g1 39 k = g 39 k := h 39 k (by unfold scM; omega)
theorem nwr_M {g g1 : Nat → Nat → Int} (h : eqS scM g g1) (n : Nat) : eqn n (nwr g1 n) (nwr g n) := by
  intro j hj
  unfold nwr
  rw [if_pos hj, if_pos hj, eqM_r h (by omega)]
theorem hldM_M {g g1 : Nat → Nat → Int} (h : eqS scM g g1) {n m : Nat} {ea eb : Nat → Nat} (hp : MP g n m ea eb) {sn i0 p0 : Nat} (hp0 : p0 < 12) {wv : Int} (hM4 : ∀ k, k < sn → (0 ≤ shO g 0 k ∧ shO g 0 k < n) ∧ (0 ≤ shO g 1 k ∧ shO g 1 k < n)) : hld (trj n (kdM g1) (szM g1) (g1 41) (pby ea eb lfa m) (anb g1 n) wv (g1 39 4) (iu (nwr g1 n) i0 (p0 : Int))) (shO g1 0) (shO g1 1) (shO g1 2) (shO g1 3) sn = hld (trj n (kdM g) (szM g) (g 41) (pby ea eb lfa m) (anb g n) wv (g 39 4) (iu (nwr g n) i0 (p0 : Int))) (shO g 0) (shO g 1) (shO g 2) (shO g 3) sn := by
  have e42 : g1 42 = g 42 := eqM_r h (by omega)
  have e41 : g1 41 = g 41 := eqM_r h (by omega)
  have e48 : g1 48 = g 48 := eqM_r h (by omega)
  unfold kdM szM anb shO
  rw [e42, e41, e48, eqM_39 h (by omega)]
  refine hld_congr (fun d => trj_congr (fun _ _ => rfl) (fun _ _ => rfl) (fun _ _ => rfl) (fun _ _ => rfl) (fun j hj => ?_) (plok_iu (fun j hj => ?_) hp0) d) hM4
  · unfold iu
    split
    · rfl
    · exact nwr_M h n j hj
  · rw [nwr_M h n j hj]; exact nwr_ok hp.2.2.2.2.2.1 j hj
theorem c_X4_guessOf {zs : zzT} {d : Nat} {Q : zzQ} {g : Nat → Nat → Int} {hh : Int64} {n m : Nat} {ea eb : Nat → Nat} (hp : MP g n m ea eb) (hdis : ∀ i j, i < n → j < n → nwr g n i = nwr g n j → i = j) {sn : Nat} (hM1 : g 39 22 = (sn : Int)) (hM3 : sn ≤ 8) (hM4 : ∀ k, k < sn → (0 ≤ shO g 2 k ∧ shO g 2 k ≤ 20) ∧ (0 ≤ shO g 0 k ∧ shO g 0 k < n) ∧ (0 ≤ shO g 1 k ∧ shO g 1 k < n) ∧ (shO g 3 k = 0 ∨ shO g 3 k = 1)) {i0 : Nat} (hi0 : i0 < n) {v : Int} (hr2 : rg v) (hQ : ∀ g1, eqS scM g g1 → ∀ L, isF (gss n (kdM g) (szM g) (g 41) (pby ea eb lfa m) (anb g n) (g 39 4) (nwr g n) (shO g 0) (shO g 1) (shO g 2) (shO g 3) sn i0) 36 L → Q [.int (iI (if v = 0 then cnt (gss n (kdM g) (szM g) (g 41) (pby ea eb lfa m) (anb g n) (g 39 4) (nwr g n) (shO g 0) (shO g 1) (shO g 2) (shO g 3) sn i0) 36 else L))] (wof g1 hh)) : zzCL zs (d + 6) 123 [.ref 39, .int (iI (i0 : Int)), .int (iI v)] (wof g hh) Q := by
  refine st_X4_guessOf (Nat.le_of_ble_eq_true rfl) (fun R hR => ?_)
  show R 0 [(0, .ref 39), (1, .int (iI (i0 : Int))), (2, .int (iI v))] [] _
  have hn5 := hp.2.1
  obtain ⟨G, hGe⟩ : ∃ G, G = gss n (kdM g) (szM g) (g 41) (pby ea eb lfa m) (anb g n) (g 39 4) (nwr g n) (shO g 0) (shO g 1) (shO g 2) (shO g 3) sn i0 := ⟨_, rfl⟩
  have hG : ∀ c, G c = gss n (kdM g) (szM g) (g 41) (pby ea eb lfa m) (anb g n) (g 39 4) (nwr g n) (shO g 0) (shO g 1) (shO g 2) (shO g 3) sn i0 c := fun c => by rw [hGe]
  rw [← hGe] at hQ
  clear hGe
  have loop : ∀ (kt t : Nat) (M L : Int) (gg : Nat → Nat → Int), t ≤ 36 → 36 < t + kt → (eqS scM g gg) → (M = cnt G 36 - cnt G (36 - t)) → (isD G 36 (36 - t) L) → R 9 [(0, .ref 39), (1, .int (iI (i0 : Int))), (2, .int (iI v)), (3, .int (iI M)), (4, .int (iI L)), (5, .int (iI (35 - (t : Int))))] [] (wof gg hh) := by
    intro kt
    induction kt with
    | zero => intro t; intros; omega
    | succ kt ih =>
      intro t M L gg hi1 hi2 he hM hD
      refine z_iload hR dX4_guessOf_9 rfl ?_
      refine g_if_lt hR (tgt := 67) dX4_guessOf_11 (by decide) (fun c11 => ?_) (fun c11 => ?_)
      · refine z_iload_n hR dX4_guessOf_67 rfl rfl ?_
        refine g_if_ne hR (tgt := 75) dX4_guessOf_68 (by decide) (fun c68 => ?_) (fun c68 => ?_)
        · refine z_iload hR dX4_guessOf_75 rfl ?_
          refine g_iret hR dX4_guessOf_77 rfl ?_
          have et : t = 36 := by omega
          subst et
          rw [show 36 - 36 = 0 from rfl] at hM hD
          first | exact qi (hQ _ he L (isD_0 hD)) (by rw [if_pos c68, hM, cnt, Int.sub_zero]) | exact qi (hQ _ he L (isD_0 hD)) (by rw [if_neg c68])
        · refine z_iload_n hR dX4_guessOf_71 rfl rfl ?_
          refine z_goto hR (tgt := 77) dX4_guessOf_72 (by decide) ?_
          refine g_iret hR dX4_guessOf_77 rfl ?_
          have et : t = 36 := by omega
          subst et
          rw [show 36 - 36 = 0 from rfl] at hM hD
          first | exact qi (hQ _ he L (isD_0 hD)) (by rw [if_pos c68, hM, cnt, Int.sub_zero]) | exact qi (hQ _ he L (isD_0 hD)) (by rw [if_neg c68])
      · obtain ⟨c, hc⟩ := Int.eq_ofNat_of_zero_le c11
        have hct : c + t = 35 := by omega
        rw [hc]
        have e36 : 36 - t = c + 1 := by omega
        have e37 : 36 - (t + 1) = c := by omega
        rw [e36] at hM hD
        refine z_aload_n hR dX4_guessOf_14 rfl rfl ?_
        refine z_iload hR dX4_guessOf_15 rfl ?_
        refine g_iconst hR dX4_guessOf_17 ?_
        refine g_idiv hR dX4_guessOf_18 (show (c : Int) / 3 = ((c / 3 : Nat) : Int) by omega) ?_
        refine g_inv1 hR dX4_guessOf_19 zm_4_97 (by decide) zN_X4_whoIsAt ((wk_39 _) _) zO_X4_whoIsAt (Nat.le_of_ble_eq_true rfl) ?_
        have e42 : gg 42 = g 42 := eqM_r he (by omega)
        refine c_X4_whoIsAt (n := n) (by rw [eqM_39 he (by omega)]; exact hp.1) hn5 (by rw [e42]; exact hp.2.2.2.2.2.1) (by unfold rg; omega) (fun r hr => ?_)
        rw [e42] at hr
        have hr2 := isAt_congr (pl1 := nwr g n) (fun j hj => by unfold nwr; rw [if_pos hj]) hr
        have hrr := isAt_rg hr hn5
        have hokq := okP_at (isl := i0) hdis hr2
        show R 22 _ (.int _ :: _) _
        refine z_istore hR dX4_guessOf_22 (by decide) rfl ?_
        refine z_iload hR dX4_guessOf_24 rfl ?_
        refine g_iconst hR dX4_guessOf_26 ?_
        refine g_icmp_eq hR (tgt := 36) dX4_guessOf_27 (by decide) (fun c27 => ?_) (fun c27 => ?_)
        · have hok : okP (nwr g n) n i0 ((c / 3 : Nat) : Int) = true := hokq.mpr (by omega)
          refine z_aload_n hR dX4_guessOf_36 rfl rfl ?_
          refine z_iload_n hR dX4_guessOf_37 rfl rfl ?_
          refine z_iload hR dX4_guessOf_38 rfl ?_
          refine g_iconst hR dX4_guessOf_40 ?_
          refine g_idiv hR dX4_guessOf_41 (show (c : Int) / 3 = ((c / 3 : Nat) : Int) by omega) ?_
          refine z_iload hR dX4_guessOf_42 rfl ?_
          refine g_iconst hR dX4_guessOf_44 ?_
          refine g_irem hR dX4_guessOf_45 (show (c : Int) % 3 = ((c % 3 : Nat) : Int) by omega) ?_
          refine g_iconst hR dX4_guessOf_46 ?_
          refine g_isub hR dX4_guessOf_47 rfl ?_
          refine g_inv3 hR dX4_guessOf_48 zm_4_205 (by decide) zN_X4_isSo ((wk_39 _) _) zO_X4_isSo (Nat.le_of_ble_eq_true rfl) ?_
          have e48 : ∀ o, shO gg o = shO g o := fun o => by unfold shO; rw [eqM_r he (by omega)]
          refine c_X4_isSo (MP_M he hp) (sn := sn) (by rw [eqM_39 he (by omega)]; exact hM1) hM3 (by rw [e48, e48, e48, e48]; exact hM4) hi0 (p0 := c / 3) (by omega) (by omega) (fun g2 he2 => ?_)
          rw [hldM_M he hp (by omega) (fun k hk => ⟨(hM4 k hk).2.1, (hM4 k hk).2.2.1⟩)]
          have he3 := he.tr he2
          show R 51 _ (.int _ :: _) _
          refine g_if_eqb hR (tgt := 61) dX4_guessOf_51 (by decide) (fun c51 => ?_) (fun c51 => ?_)
          · have hg : G c = false := by rw [hG, gss, hok, c51]; rfl
            refine g_iinc hR dX4_guessOf_61 rfl (show (c : Int) + -1 = 35 - ((t + 1 : Nat) : Int) by omega) (by decide) rfl ?_
            refine z_goto hR (tgt := 9) dX4_guessOf_64 (by decide) ?_
            refine z_sub hR [0, 1, 2, 3, 4, 5] rfl ?_
            first | exact ih (t + 1) _ (c : Int) _ (by omega) (by omega) he3 (by rw [e37, hM, cnt_t hg]; omega) (by rw [e37]; exact isD_yes (by omega) hg) | exact ih (t + 1) M L _ (by omega) (by omega) he3 (by rw [e37, hM, cnt_f hg]) (by rw [e37]; exact isD_no hD hg)
          · have hg : G c = true := by rw [hG, gss, hok, c51]; rfl
            refine g_iinc hR dX4_guessOf_54 rfl rfl (by decide) rfl ?_
            refine z_iload hR dX4_guessOf_57 rfl ?_
            refine z_istore hR dX4_guessOf_59 (by decide) rfl ?_
            refine g_iinc hR dX4_guessOf_61 rfl (show (c : Int) + -1 = 35 - ((t + 1 : Nat) : Int) by omega) (by decide) rfl ?_
            refine z_goto hR (tgt := 9) dX4_guessOf_64 (by decide) ?_
            refine z_sub hR [0, 1, 2, 3, 4, 5] rfl ?_
            first | exact ih (t + 1) _ (c : Int) _ (by omega) (by omega) he3 (by rw [e37, hM, cnt_t hg]; omega) (by rw [e37]; exact isD_yes (by omega) hg) | exact ih (t + 1) M L _ (by omega) (by omega) he3 (by rw [e37, hM, cnt_f hg]) (by rw [e37]; exact isD_no hD hg)
        · refine z_iload hR dX4_guessOf_30 rfl ?_
          refine z_iload_n hR dX4_guessOf_32 rfl rfl ?_
          refine g_icmp_ne hR (tgt := 61) dX4_guessOf_33 (by decide) (fun c33 => ?_) (fun c33 => ?_)
          · have hg : G c = false := by rw [hG, gss]; cases e : okP (nwr g n) n i0 ((c / 3 : Nat) : Int); rfl; exact absurd (hokq.mp e) (by omega)
            have he3 := he
            refine g_iinc hR dX4_guessOf_61 rfl (show (c : Int) + -1 = 35 - ((t + 1 : Nat) : Int) by omega) (by decide) rfl ?_
            refine z_goto hR (tgt := 9) dX4_guessOf_64 (by decide) ?_
            refine z_sub hR [0, 1, 2, 3, 4, 5] rfl ?_
            first | exact ih (t + 1) _ (c : Int) _ (by omega) (by omega) he3 (by rw [e37, hM, cnt_t hg]; omega) (by rw [e37]; exact isD_yes (by omega) hg) | exact ih (t + 1) M L _ (by omega) (by omega) he3 (by rw [e37, hM, cnt_f hg]) (by rw [e37]; exact isD_no hD hg)
          · have hok : okP (nwr g n) n i0 ((c / 3 : Nat) : Int) = true := hokq.mpr (by omega)
            refine z_aload_n hR dX4_guessOf_36 rfl rfl ?_
            refine z_iload_n hR dX4_guessOf_37 rfl rfl ?_
            refine z_iload hR dX4_guessOf_38 rfl ?_
            refine g_iconst hR dX4_guessOf_40 ?_
            refine g_idiv hR dX4_guessOf_41 (show (c : Int) / 3 = ((c / 3 : Nat) : Int) by omega) ?_
            refine z_iload hR dX4_guessOf_42 rfl ?_
            refine g_iconst hR dX4_guessOf_44 ?_
            refine g_irem hR dX4_guessOf_45 (show (c : Int) % 3 = ((c % 3 : Nat) : Int) by omega) ?_
            refine g_iconst hR dX4_guessOf_46 ?_
            refine g_isub hR dX4_guessOf_47 rfl ?_
            refine g_inv3 hR dX4_guessOf_48 zm_4_205 (by decide) zN_X4_isSo ((wk_39 _) _) zO_X4_isSo (Nat.le_of_ble_eq_true rfl) ?_
            have e48 : ∀ o, shO gg o = shO g o := fun o => by unfold shO; rw [eqM_r he (by omega)]
            refine c_X4_isSo (MP_M he hp) (sn := sn) (by rw [eqM_39 he (by omega)]; exact hM1) hM3 (by rw [e48, e48, e48, e48]; exact hM4) hi0 (p0 := c / 3) (by omega) (by omega) (fun g2 he2 => ?_)
            rw [hldM_M he hp (by omega) (fun k hk => ⟨(hM4 k hk).2.1, (hM4 k hk).2.2.1⟩)]
            have he3 := he.tr he2
            show R 51 _ (.int _ :: _) _
            refine g_if_eqb hR (tgt := 61) dX4_guessOf_51 (by decide) (fun c51 => ?_) (fun c51 => ?_)
            · have hg : G c = false := by rw [hG, gss, hok, c51]; rfl
              refine g_iinc hR dX4_guessOf_61 rfl (show (c : Int) + -1 = 35 - ((t + 1 : Nat) : Int) by omega) (by decide) rfl ?_
              refine z_goto hR (tgt := 9) dX4_guessOf_64 (by decide) ?_
              refine z_sub hR [0, 1, 2, 3, 4, 5] rfl ?_
              first | exact ih (t + 1) _ (c : Int) _ (by omega) (by omega) he3 (by rw [e37, hM, cnt_t hg]; omega) (by rw [e37]; exact isD_yes (by omega) hg) | exact ih (t + 1) M L _ (by omega) (by omega) he3 (by rw [e37, hM, cnt_f hg]) (by rw [e37]; exact isD_no hD hg)
            · have hg : G c = true := by rw [hG, gss, hok, c51]; rfl
              refine g_iinc hR dX4_guessOf_54 rfl rfl (by decide) rfl ?_
              refine z_iload hR dX4_guessOf_57 rfl ?_
              refine z_istore hR dX4_guessOf_59 (by decide) rfl ?_
              refine g_iinc hR dX4_guessOf_61 rfl (show (c : Int) + -1 = 35 - ((t + 1 : Nat) : Int) by omega) (by decide) rfl ?_
              refine z_goto hR (tgt := 9) dX4_guessOf_64 (by decide) ?_
              refine z_sub hR [0, 1, 2, 3, 4, 5] rfl ?_
              first | exact ih (t + 1) _ (c : Int) _ (by omega) (by omega) he3 (by rw [e37, hM, cnt_t hg]; omega) (by rw [e37]; exact isD_yes (by omega) hg) | exact ih (t + 1) M L _ (by omega) (by omega) he3 (by rw [e37, hM, cnt_f hg]) (by rw [e37]; exact isD_no hD hg)
  refine g_iconst hR dX4_guessOf_0 ?_
  refine z_istore_n hR dX4_guessOf_1 rfl (by decide) rfl ?_
  refine g_iconst hR dX4_guessOf_2 ?_
  refine z_istore hR dX4_guessOf_3 (by decide) rfl ?_
  refine g_bipush hR dX4_guessOf_5 ?_
  refine z_istore hR dX4_guessOf_7 (by decide) rfl ?_
  exact loop 37 0 0 (-1) g (by omega) (by omega) eqS.rf (by rw [Nat.sub_zero]; omega) (Or.inl ⟨rfl, fun j a b => absurd b (by omega)⟩)
theorem c_X4_guess {zs : zzT} {d : Nat} {Q : zzQ} {g : Nat → Nat → Int} {hh : Int64} {n m : Nat} {ea eb : Nat → Nat} (hp : MP g n m ea eb) (hdis : ∀ i j, i < n → j < n → nwr g n i = nwr g n j → i = j) {sn : Nat} (hM1 : g 39 22 = (sn : Int)) (hM3 : sn ≤ 8) (hM4 : ∀ k, k < sn → (0 ≤ shO g 2 k ∧ shO g 2 k ≤ 20) ∧ (0 ≤ shO g 0 k ∧ shO g 0 k < n) ∧ (0 ≤ shO g 1 k ∧ shO g 1 k < n) ∧ (shO g 3 k = 0 ∨ shO g 3 k = 1)) {z v : Int} (hr1 : rg z) (hr2 : rg v) (h1 : ¬ (0 ≤ z ∧ z < (n : Int)) → Q [.int (iI (-101))] (wof g hh)) (h2 : 0 ≤ z ∧ z < (n : Int) → ¬ (0 ≤ v ∧ v ≤ 1) → Q [.int (iI (-102))] (wof g hh)) (h3 : ∀ i0 : Nat, z = (i0 : Int) → i0 < n → 0 ≤ v ∧ v ≤ 1 → ∀ g1, eqS scM g g1 → ∀ L, isF (gss n (kdM g) (szM g) (g 41) (pby ea eb lfa m) (anb g n) (g 39 4) (nwr g n) (shO g 0) (shO g 1) (shO g 2) (shO g 3) sn i0) 36 L → Q [.int (iI (if v = 0 then cnt (gss n (kdM g) (szM g) (g 41) (pby ea eb lfa m) (anb g n) (g 39 4) (nwr g n) (shO g 0) (shO g 1) (shO g 2) (shO g 3) sn i0) 36 else L))] (wof g1 hh)) : zzCL zs (d + 7) 122 [.ref 39, .int (iI z), .int (iI v)] (wof g hh) Q := by
  refine st_X4_guess (Nat.le_of_ble_eq_true rfl) (fun R hR => ?_)
  show R 0 [(0, .ref 39), (1, .int (iI z)), (2, .int (iI v))] [] _
  refine z_aload_n hR dX4_guess_0 rfl rfl ?_
  refine z_iload_n hR dX4_guess_1 rfl rfl ?_
  refine g_inv1 hR dX4_guess_2 zm_4_91 (by decide) zN_X4_isIsland ((wk_39 _) _) zO_X4_isIsland (Nat.le_of_ble_eq_true rfl) ?_
  refine c_X4_isIsland hp.1 hp.2.1 hr1 ?_
  show R 5 _ (.int _ :: _) _
  refine g_if_neb hR (tgt := 11) dX4_guess_5 (by decide) (fun c5 => ?_) (fun c5 => ?_)
  · have c5 := of_decide_eq_true c5
    refine z_iload_n hR dX4_guess_11 rfl rfl ?_
    refine g_i2l hR dX4_guess_12 ?_
    refine z_lconst hR (v := lI 0) dX4_guess_13 (by decide) ?_
    refine z_lconst hR (v := lI 1) dX4_guess_14 (by decide) ?_
    refine g_sta3 hR dX4_guess_15 zm_4_52 zN_X4_in (Nat.le_of_ble_eq_true rfl) ?_
    refine c_X4_in (by first | assumption | (unfold rg; omega)) (by unfold rg; omega) (by unfold rg; omega) ?_
    show R 18 _ (.int _ :: _) _
    refine g_if_eqb hR (tgt := 30) dX4_guess_18 (by decide) (fun c18 => ?_) (fun c18 => ?_)
    · have c18 := of_decide_eq_false c18
      refine g_bipush hR dX4_guess_30 ?_
      refine g_iret hR dX4_guess_32 rfl ?_
      first | exact h2 c5 c18 | exact h3 i0 rfl hi0 c18 g1 he L hL
    · have c18 := of_decide_eq_true c18
      obtain ⟨i0, rfl⟩ := Int.eq_ofNat_of_zero_le c5.1
      have hi0 : i0 < n := by omega
      refine z_aload_n hR dX4_guess_21 rfl rfl ?_
      refine z_iload_n hR dX4_guess_22 rfl rfl ?_
      refine z_iload_n hR dX4_guess_23 rfl rfl ?_
      refine g_inv2 hR dX4_guess_24 zm_4_209 (by decide) zN_X4_guessOf ((wk_39 _) _) zO_X4_guessOf (Nat.le_of_ble_eq_true rfl) ?_
      refine c_X4_guessOf hp hdis hM1 hM3 hM4 hi0 hr2 (fun g1 he L hL => ?_)
      show R 27 _ (.int _ :: _) _
      refine z_goto hR (tgt := 32) dX4_guess_27 (by decide) ?_
      refine g_iret hR dX4_guess_32 rfl ?_
      first | exact h2 c5 c18 | exact h3 i0 rfl hi0 c18 g1 he L hL
  · have c5 := of_decide_eq_false c5
    refine g_bipush hR dX4_guess_8 ?_
    refine g_iret hR dX4_guess_10 rfl ?_
    exact h1 c5
theorem shO_0 (g : Nat → Nat → Int) (k : Nat) : shO g 0 k = g 48 (4 * k) := rfl
theorem gss_both {g : Nat → Nat → Int} {n m an c sn : Nat} {rp ea eb : Nat → Nat} (hcu : RCur g) (h : SS n m an rp ea eb (g 2) (g 4) (g 5) (g 6) (g 7) (g 8) (g 39 8) (g 39 9) (g 39 3) (g 39 4) (g 39 5) (g 42) (g 43) c) (hH : HH n sn (g 23 4) (g 39 22) (g 24) (g 25) (g 26) (g 27) (g 48)) (i0 : Nat) {j : Nat} (hj : j < 36) : gss n (g 4) (g 5) (g 3) (pby ea eb lfa m) an (g 2 10) (g 6) (g 24) (g 25) (g 26) (g 27) sn i0 j = gss n (kdM g) (szM g) (g 41) (pby ea eb lfa m) (anb g n) (g 39 4) (nwr g n) (shO g 0) (shO g 1) (shO g 2) (shO g 3) sn i0 j := by
  obtain ⟨e1, e2, e3⟩ := SS_eqn h
  rw [show g 2 10 = g 39 4 from h.2.2.2.2.1.1, show an = anb g n from h.2.2.1.2]
  exact gss_congr e1 e2 (fun j hj => (hcu j hj).1) e3 (fun j hj => (h.2.2.2.2.2.2.1 j hj).2.2.1.2) (fun k hk => ⟨(hH.2.2.2 k hk).1, (hH.2.2.2 k hk).2.2.1, (hH.2.2.2 k hk).2.2.2.1⟩) hj
theorem gssM_X {g g1 : Nat → Nat → Int} (h : eqS scX g g1) (n m : Nat) (ea eb : Nat → Nat) (sn i0 : Nat) : gss n (kdM g1) (szM g1) (g1 41) (pby ea eb lfa m) (anb g1 n) (g1 39 4) (nwr g1 n) (shO g1 0) (shO g1 1) (shO g1 2) (shO g1 3) sn i0 = gss n (kdM g) (szM g) (g 41) (pby ea eb lfa m) (anb g n) (g 39 4) (nwr g n) (shO g 0) (shO g 1) (shO g 2) (shO g 3) sn i0 := by
  unfold kdM szM anb nwr shO
  rw [eqX h 39 (by omega), eqX h 41 (by omega), eqX h 42 (by omega), eqX h 44 (by omega), eqX h 48 (by omega)]
theorem op_guess {zs : zzT} {c : Nat} {g : Nat → Nat → Int} {hh : Int64} (hz : zsok zs) (h : Rel c g) (hc : c < 512) {z v : Int} (hr1 : rg z) (hr2 : rg v) : opOK zs 61 122 [.ref 0, .int (iI z), .int (iI v)] [.ref 39, .int (iI z), .int (iI v)] c g hh := by
  obtain ⟨hc0, hpage, hnum, hcur, ⟨n, m, an, sn, rp, ea, eb, hS, hH⟩, himg⟩ := id h
  have hk := SS_WK hc0 hcur hS
  have hp := SS_MP hc0 hcur hS
  have hdx := hS.2.2.2.2.2.2.2.1
  obtain ⟨q1, q2, q3⟩ := SS_eqn hS
  have hdm : ∀ i j, i < n → j < n → nwr g n i = nwr g n j → i = j := fun i j hi hj e => hdx i j hi hj (by rw [q3 i hi, q3 j hj]; exact e)
  have hH4 : ∀ k, k < sn → (0 ≤ g 26 k ∧ g 26 k ≤ 20) ∧ (0 ≤ g 24 k ∧ g 24 k < n) ∧ (0 ≤ g 25 k ∧ g 25 k < n) ∧ (g 27 k = 0 ∨ g 27 k = 1) := fun k hk => by
    obtain ⟨a1, a2, a3, a4, a5, a6⟩ := hH.2.2.2 k hk
    exact ⟨a6, a3, a4, a2⟩
  have hM4 : ∀ k, k < sn → (0 ≤ shO g 2 k ∧ shO g 2 k ≤ 20) ∧ (0 ≤ shO g 0 k ∧ shO g 0 k < n) ∧ (0 ≤ shO g 1 k ∧ shO g 1 k < n) ∧ (shO g 3 k = 0 ∨ shO g 3 k = 1) := fun k hk => by
    obtain ⟨⟨b1, b2, b3, b4⟩, a2, a3, a4, a5, a6⟩ := hH.2.2.2 k hk
    show (0 ≤ g 48 (4 * k + 2) ∧ g 48 (4 * k + 2) ≤ 20) ∧ (0 ≤ g 48 (4 * k) ∧ g 48 (4 * k) < n) ∧ (0 ≤ g 48 (4 * k + 1) ∧ g 48 (4 * k + 1) < n) ∧ (g 48 (4 * k + 3) = 0 ∨ g 48 (4 * k + 3) = 1)
    rw [← b1, ← b2, ← b3, ← b4]
    exact ⟨a6, a3, a4, a2⟩
  by_cases hA : 0 ≤ z ∧ z < (n : Int)
  · by_cases hB : 0 ≤ v ∧ v ≤ 1
    · obtain ⟨i0, e0⟩ := Int.eq_ofNat_of_zero_le hA.1
      obtain ⟨L0, hL0⟩ := isF_ex (gss n (g 4) (g 5) (g 3) (pby ea eb lfa m) an (g 2 10) (g 6) (g 24) (g 25) (g 26) (g 27) sn i0) 36
      have hLr := isF_rg hL0
      have hcr := cnt_rg (gss n (g 4) (g 5) (g 3) (pby ea eb lfa m) an (g 2 10) (g 6) (g 24) (g 25) (g 26) (g 27) sn i0) 36
      refine op_sc (r := if v = 0 then cnt (gss n (g 4) (g 5) (g 3) (pby ea eb lfa m) an (g 2 10) (g 6) (g 24) (g 25) (g 26) (g 27) sn i0) 36 else L0) (by split <;> (unfold rg; omega)) h hc (fun Q q => c_X3_guess hk hz hdx hH.1 hH.2.2.1 hH4 hr1 hr2 (fun x => absurd hA x) (fun _ x => absurd hB x) (fun i1 f1 _ _ g1 he L hL => ?_)) (fun g1 hr he Q q => c_X4_guess (MP_X he hp) (by unfold nwr; rw [eqX he 42 (by omega), eqX he 44 (by omega)]; exact hdm) (sn := sn) (by rw [eqX he 39 (by omega)]; exact hH.2.1) hH.2.2.1 (by unfold shO; rw [eqX he 48 (by omega)]; exact hM4) hr1 hr2 (fun x => absurd hA x) (fun _ x => absurd hB x) (fun i1 f1 _ _ g2 he2 L hL => ?_))
      · obtain rfl : i0 = i1 := by omega
        rw [isF_un (fun _ _ => rfl) hL hL0]
        exact q g1 he
      · obtain rfl : i0 = i1 := by omega
        rw [gssM_X he] at hL ⊢
        rw [isF_un (fun j hj => (gss_both hcur hS hH i0 hj).symm) hL hL0, cnt_congr (fun j hj => (gss_both hcur hS hH i0 hj).symm)]
        exact q g2 he2
    · exact op_id (r := -102) (by unfold rg; omega) h hc (fun Q q => c_X3_guess hk hz hdx hH.1 hH.2.2.1 hH4 hr1 hr2 (fun x => absurd hA x) (fun _ _ => q) (fun _ _ _ x => absurd x hB)) (fun Q q => c_X4_guess hp hdm hH.2.1 hH.2.2.1 hM4 hr1 hr2 (fun x => absurd hA x) (fun _ _ => q) (fun _ _ _ x => absurd x hB))
  · exact op_id (r := -101) (by unfold rg; omega) h hc (fun Q q => c_X3_guess hk hz hdx hH.1 hH.2.2.1 hH4 hr1 hr2 (fun _ => q) (fun x => absurd x hA) (fun i e x => absurd (by omega) hA)) (fun Q q => c_X4_guess hp hdm hH.2.1 hH.2.2.1 hM4 hr1 hr2 (fun _ => q) (fun x => absurd x hA) (fun i e x => absurd (by omega) hA))
