theorem c_X4_tellStable {zs : zzT} {d : Nat} {Q : zzQ} {gg : Nat → Nat → Int} {hh : Int64} {n : Nat} (hn : gg 39 8 = (n : Int)) (hn5 : n ≤ 5) {S : MS} (hL : LSt n S gg) (hm : -1 ≤ S.2.1 ∧ S.2.1 ≤ n) {v : Int} (hv : (v = 0 ∨ v = 1 ∨ (10 ≤ v ∧ v ≤ 14))) (hQ : Q [.int (iI (tlV n S v))] (wof gg hh)) : zzCL zs (d + 1) 118 [.ref 39, .int (iI v)] (wof gg hh) Q := by
  refine st_X4_tellStable (Nat.le_of_ble_eq_true rfl) (fun R hR => ?_)
  show R 0 [(0, .ref 39), (1, .int (iI v))] [] _
  refine z_iload_n hR dX4_tellStable_0 rfl rfl ?_
  refine g_if_ne hR (tgt := 11) dX4_tellStable_1 (by decide) (fun c1 => ?_) (fun c1 => ?_)
  · refine z_iload_n hR dX4_tellStable_11 rfl rfl ?_
    refine g_iconst hR dX4_tellStable_12 ?_
    refine g_icmp_ne hR (tgt := 35) dX4_tellStable_13 (by decide) (fun c13 => ?_) (fun c13 => ?_)
    · refine z_iload_n hR dX4_tellStable_35 rfl rfl ?_
      refine g_bipush hR dX4_tellStable_36 ?_
      refine g_isub hR dX4_tellStable_38 rfl ?_
      refine z_aload_n hR dX4_tellStable_39 rfl rfl ?_
      refine g_get hR dX4_tellStable_40 zf_4_76 (wk_39 _) (gi hn) ?_
      refine g_icmp_ge hR (tgt := 66) dX4_tellStable_43 (by decide) (fun c43 => ?_) (fun c43 => ?_)
      · refine g_iconst hR dX4_tellStable_66 ?_
        refine g_iret hR dX4_tellStable_67 rfl ?_
        refine qi hQ ?_
        first | (rw [tlV, if_pos c1]; done) | (rw [tlV, if_neg c1, if_pos c13, if_pos c21]; done) | (rw [tlV, if_neg c1, if_pos c13, if_neg c21]; done) | (rw [tlV, if_neg c1, if_neg c13, if_pos ⟨c43, c51⟩, hkk, Int.toNat_natCast]; done) | rw [tlV, if_neg c1, if_neg c13, if_neg (by omega)]
      · refine z_aload_n hR dX4_tellStable_46 rfl rfl ?_
        refine g_get hR dX4_tellStable_47 zf_4_179 (wk_39 _) (gi hL.2.1) ?_
        refine g_iconst hR dX4_tellStable_50 ?_
        refine g_icmp_eq hR (tgt := 66) dX4_tellStable_51 (by decide) (fun c51 => ?_) (fun c51 => ?_)
        · refine g_iconst hR dX4_tellStable_66 ?_
          refine g_iret hR dX4_tellStable_67 rfl ?_
          refine qi hQ ?_
          first | (rw [tlV, if_pos c1]; done) | (rw [tlV, if_neg c1, if_pos c13, if_pos c21]; done) | (rw [tlV, if_neg c1, if_pos c13, if_neg c21]; done) | (rw [tlV, if_neg c1, if_neg c13, if_pos ⟨c43, c51⟩, hkk, Int.toNat_natCast]; done) | rw [tlV, if_neg c1, if_neg c13, if_neg (by omega)]
        · obtain ⟨k, hkk⟩ := Int.eq_ofNat_of_zero_le (show 0 ≤ v - 10 by omega)
          have hkn : k < n := by omega
          refine z_aload_n hR dX4_tellStable_54 rfl rfl ?_
          refine g_get hR dX4_tellStable_55 zf_4_31 (wk_39 _) (show _ = some (Value.ref 47) from rfl) ?_
          refine z_iload_n hR dX4_tellStable_58 rfl rfl ?_
          refine g_bipush hR dX4_tellStable_59 ?_
          refine g_isub hR dX4_tellStable_61 hkk ?_
          refine g_ialdN hR dX4_tellStable_62 (wk_47 _) (show gg 47 k = hsc n S.2.2 k from hL.2.2 c51 k hkn) ?_
          refine z_goto hR (tgt := 67) dX4_tellStable_63 (by decide) ?_
          refine g_iret hR dX4_tellStable_67 rfl ?_
          refine qi hQ ?_
          first | (rw [tlV, if_pos c1]; done) | (rw [tlV, if_neg c1, if_pos c13, if_pos c21]; done) | (rw [tlV, if_neg c1, if_pos c13, if_neg c21]; done) | (rw [tlV, if_neg c1, if_neg c13, if_pos ⟨c43, c51⟩, hkk, Int.toNat_natCast]; done) | rw [tlV, if_neg c1, if_neg c13, if_neg (by omega)]
    · refine z_aload_n hR dX4_tellStable_16 rfl rfl ?_
      refine g_get hR dX4_tellStable_17 zf_4_179 (wk_39 _) (gi hL.2.1) ?_
      refine g_iconst hR dX4_tellStable_20 ?_
      refine g_icmp_ne hR (tgt := 28) dX4_tellStable_21 (by decide) (fun c21 => ?_) (fun c21 => ?_)
      · refine z_aload_n hR dX4_tellStable_28 rfl rfl ?_
        refine g_get hR dX4_tellStable_29 zf_4_179 (wk_39 _) (gi hL.2.1) ?_
        refine z_goto hR (tgt := 67) dX4_tellStable_32 (by decide) ?_
        refine g_iret hR dX4_tellStable_67 rfl ?_
        refine qi hQ ?_
        first | (rw [tlV, if_pos c1]; done) | (rw [tlV, if_neg c1, if_pos c13, if_pos c21]; done) | (rw [tlV, if_neg c1, if_pos c13, if_neg c21]; done) | (rw [tlV, if_neg c1, if_neg c13, if_pos ⟨c43, c51⟩, hkk, Int.toNat_natCast]; done) | rw [tlV, if_neg c1, if_neg c13, if_neg (by omega)]
      · refine g_iconst hR dX4_tellStable_24 ?_
        refine z_goto hR (tgt := 67) dX4_tellStable_25 (by decide) ?_
        refine g_iret hR dX4_tellStable_67 rfl ?_
        refine qi hQ ?_
        first | (rw [tlV, if_pos c1]; done) | (rw [tlV, if_neg c1, if_pos c13, if_pos c21]; done) | (rw [tlV, if_neg c1, if_pos c13, if_neg c21]; done) | (rw [tlV, if_neg c1, if_neg c13, if_pos ⟨c43, c51⟩, hkk, Int.toNat_natCast]; done) | rw [tlV, if_neg c1, if_neg c13, if_neg (by omega)]
  · refine z_aload_n hR dX4_tellStable_4 rfl rfl ?_
    refine g_get hR dX4_tellStable_5 zf_4_176 (wk_39 _) (gi hL.1) ?_
    refine z_goto hR (tgt := 67) dX4_tellStable_8 (by decide) ?_
    refine g_iret hR dX4_tellStable_67 rfl ?_
    refine qi hQ ?_
    first | (rw [tlV, if_pos c1]; done) | (rw [tlV, if_neg c1, if_pos c13, if_pos c21]; done) | (rw [tlV, if_neg c1, if_pos c13, if_neg c21]; done) | (rw [tlV, if_neg c1, if_neg c13, if_pos ⟨c43, c51⟩, hkk, Int.toNat_natCast]; done) | rw [tlV, if_neg c1, if_neg c13, if_neg (by omega)]
theorem c_X4_stable {zs : zzT} {d : Nat} {Q : zzQ} {g : Nat → Nat → Int} {hh : Int64} {n m : Nat} {ea eb : Nat → Nat} (hp : MP g n m ea eb) (hs : g 39 2 = 0 ∨ g 39 2 = 1) {v : Int} (hr1 : rg v) (h1 : ¬ (v = 0 ∨ v = 1 ∨ (10 ≤ v ∧ v ≤ 14)) → Q [.int (iI (-102))] (wof g hh)) (h2 : (v = 0 ∨ v = 1 ∨ (10 ≤ v ∧ v ≤ 14)) → g 39 2 = 0 → Q [.int (iI (-103))] (wof g hh)) (h3 : (v = 0 ∨ v = 1 ∨ (10 ≤ v ∧ v ≤ 14)) → g 39 2 ≠ 0 → ∀ g1, eqS scM g g1 → Q [.int (iI (tlV n (FF n (mtM n (kdM g) (szM g) (g 41) (pby ea eb lfa m) (anb g n) (g 39 3) (g 39 4) (nwr g n)) (szM g) S0 0 ((n + 1) ^ n)) v))] (wof g1 hh)) : zzCL zs (d + 7) 112 [.ref 39, .int (iI v)] (wof g hh) Q := by
  refine st_X4_stable (Nat.le_of_ble_eq_true rfl) (fun R hR => ?_)
  show R 0 [(0, .ref 39), (1, .int (iI v))] [] _
  have hFr := (FF_rg (n := n) (mB := mtM n (kdM g) (szM g) (g 41) (pby ea eb lfa m) (anb g n) (g 39 3) (g 39 4) (nwr g n)) (sz := szM g) (S := S0) (lo := 0) (by unfold S0; dsimp only; omega) ((n + 1) ^ n)).2
  refine z_iload_n hR dX4_stable_0 rfl rfl ?_
  refine g_i2l hR dX4_stable_1 ?_
  refine z_lconst hR (v := lI 0) dX4_stable_2 (by decide) ?_
  refine z_lconst hR (v := lI 1) dX4_stable_3 (by decide) ?_
  refine g_sta3 hR dX4_stable_4 zm_4_52 zN_X4_in (Nat.le_of_ble_eq_true rfl) ?_
  refine c_X4_in (by first | assumption | (unfold rg; omega)) (by unfold rg; omega) (by unfold rg; omega) ?_
  show R 7 _ (.int _ :: _) _
  refine g_if_neb hR (tgt := 27) dX4_stable_7 (by decide) (fun c7 => ?_) (fun c7 => ?_)
  · have c7 := of_decide_eq_true c7
    refine z_aload_n hR dX4_stable_27 rfl rfl ?_
    refine g_get hR dX4_stable_28 zf_4_63 (wk_39 _) rfl ?_
    refine g_if_ne hR (tgt := 37) dX4_stable_31 (by decide) (fun c31 => ?_) (fun c31 => ?_)
    · refine z_aload_n hR dX4_stable_37 rfl rfl ?_
      refine g_inv0 hR dX4_stable_38 zm_4_197 (by decide) zN_X4_layStable ((wk_39 _) _) zO_X4_layStable (Nat.le_of_ble_eq_true rfl) ?_
      refine c_X4_layStable hp (fun g1 he hL => ?_)
      show R 41 _ _ _
      refine z_aload_n hR dX4_stable_41 rfl rfl ?_
      refine z_iload_n hR dX4_stable_42 rfl rfl ?_
      refine g_inv1 hR dX4_stable_43 zm_4_200 (by decide) zN_X4_tellStable ((wk_39 _) _) zO_X4_tellStable (Nat.le_of_ble_eq_true rfl) ?_
      refine c_X4_tellStable (n := n) (by rw [eqM_39 he (by omega)]; exact hp.1) hp.2.1 hL hFr (by omega) ?_
      show R 46 _ (.int _ :: _) _
      refine g_iret hR dX4_stable_46 rfl ?_
      exact h3 (by omega) c31 g1 he
    · refine g_bipush hR dX4_stable_34 ?_
      refine g_iret hR dX4_stable_36 rfl ?_
      exact h2 (by omega) c31
  · have c7 := of_decide_eq_false c7
    refine z_iload_n hR dX4_stable_10 rfl rfl ?_
    refine g_i2l hR dX4_stable_11 ?_
    refine z_ldc2 hR dX4_stable_12 zk_4_193 ?_
    rw [show (10 : Int64) = lI (10) from by decide]
    refine z_ldc2 hR dX4_stable_15 zk_4_195 ?_
    rw [show (14 : Int64) = lI (14) from by decide]
    refine g_sta3 hR dX4_stable_18 zm_4_52 zN_X4_in (Nat.le_of_ble_eq_true rfl) ?_
    refine c_X4_in (by first | assumption | (unfold rg; omega)) (by unfold rg; omega) (by unfold rg; omega) ?_
    show R 21 _ (.int _ :: _) _
    refine g_if_neb hR (tgt := 27) dX4_stable_21 (by decide) (fun c21 => ?_) (fun c21 => ?_)
    · have c21 := of_decide_eq_true c21
      refine z_aload_n hR dX4_stable_27 rfl rfl ?_
      refine g_get hR dX4_stable_28 zf_4_63 (wk_39 _) rfl ?_
      refine g_if_ne hR (tgt := 37) dX4_stable_31 (by decide) (fun c31 => ?_) (fun c31 => ?_)
      · refine z_aload_n hR dX4_stable_37 rfl rfl ?_
        refine g_inv0 hR dX4_stable_38 zm_4_197 (by decide) zN_X4_layStable ((wk_39 _) _) zO_X4_layStable (Nat.le_of_ble_eq_true rfl) ?_
        refine c_X4_layStable hp (fun g1 he hL => ?_)
        show R 41 _ _ _
        refine z_aload_n hR dX4_stable_41 rfl rfl ?_
        refine z_iload_n hR dX4_stable_42 rfl rfl ?_
        refine g_inv1 hR dX4_stable_43 zm_4_200 (by decide) zN_X4_tellStable ((wk_39 _) _) zO_X4_tellStable (Nat.le_of_ble_eq_true rfl) ?_
        refine c_X4_tellStable (n := n) (by rw [eqM_39 he (by omega)]; exact hp.1) hp.2.1 hL hFr (by omega) ?_
        show R 46 _ (.int _ :: _) _
        refine g_iret hR dX4_stable_46 rfl ?_
        exact h3 (by omega) c31 g1 he
      · refine g_bipush hR dX4_stable_34 ?_
        refine g_iret hR dX4_stable_36 rfl ?_
        exact h2 (by omega) c31
    · have c21 := of_decide_eq_false c21
      refine g_bipush hR dX4_stable_24 ?_
      refine g_iret hR dX4_stable_26 rfl ?_
      exact h1 (by omega)
theorem mtM_both {g : Nat → Nat → Int} {n m an c : Nat} {rp ea eb : Nat → Nat} (hcu : RCur g) (h : SS n m an rp ea eb (g 2) (g 4) (g 5) (g 6) (g 7) (g 8) (g 39 8) (g 39 9) (g 39 3) (g 39 4) (g 39 5) (g 42) (g 43) c) {x y : Nat} (hx : x < n) (hy : y < n) : mtM n (g 4) (g 5) (g 3) (pby ea eb lfa m) an (g 2 9) (g 2 10) (g 6) x y = mtM n (kdM g) (szM g) (g 41) (pby ea eb lfa m) (anb g n) (g 39 3) (g 39 4) (nwr g n) x y := by
  have h0 := mtv_both hcu h 0 x y 30 hx hy
  rw [Nat.or_zero, Nat.or_zero] at h0
  unfold mtM
  rw [h0]
theorem FF_both {g : Nat → Nat → Int} {n m an c : Nat} {rp ea eb : Nat → Nat} (hcu : RCur g) (h : SS n m an rp ea eb (g 2) (g 4) (g 5) (g 6) (g 7) (g 8) (g 39 8) (g 39 9) (g 39 3) (g 39 4) (g 39 5) (g 42) (g 43) c) (N : Nat) : FF n (mtM n (g 4) (g 5) (g 3) (pby ea eb lfa m) an (g 2 9) (g 2 10) (g 6)) (g 5) S0 0 N = FF n (mtM n (kdM g) (szM g) (g 41) (pby ea eb lfa m) (anb g n) (g 39 3) (g 39 4) (nwr g n)) (szM g) S0 0 N :=
  FF_congr (fun a b ha hb => mtM_both hcu h ha hb) (SS_eqn h).2.1 S0 0 N
theorem FFM_X {g g1 : Nat → Nat → Int} (h : eqS scX g g1) (n m : Nat) (ea eb : Nat → Nat) (N : Nat) : FF n (mtM n (kdM g1) (szM g1) (g1 41) (pby ea eb lfa m) (anb g1 n) (g1 39 3) (g1 39 4) (nwr g1 n)) (szM g1) S0 0 N = FF n (mtM n (kdM g) (szM g) (g 41) (pby ea eb lfa m) (anb g n) (g 39 3) (g 39 4) (nwr g n)) (szM g) S0 0 N := by
  unfold kdM szM anb nwr
  rw [eqX h 39 (by omega), eqX h 41 (by omega), eqX h 42 (by omega), eqX h 44 (by omega)]
theorem FF_tl {n : Nat} {mB : Nat → Nat → Bool} {sz : FI} (hn : n ≤ 5) (v : Int) : rg (tlV n (FF n mB sz S0 0 ((n + 1) ^ n)) v) := by
  have h0 := FF_rg (n := n) (mB := mB) (sz := sz) (S := S0) (lo := 0) (by unfold S0; dsimp only; omega) ((n + 1) ^ n)
  have hNl : (n + 1) ^ n ≤ 7776 := Nat.le_trans (Nat.pow_le_pow_left (show n + 1 ≤ 6 by omega) n) (Nat.pow_le_pow_right (n := 6) (by decide) hn)
  refine tlV_rg hn ⟨h0.1.1, ?_⟩ h0.2
  have h1 := h0.1.2
  have h2 : (((n + 1) ^ n : Nat) : Int) ≤ 7776 := by omega
  have h3 : S0.1 = 0 := rfl
  generalize (((n + 1) ^ n : Nat) : Int) = W at h1 h2
  omega
theorem op_stable {zs : zzT} {c : Nat} {g : Nat → Nat → Int} {hh : Int64} (hz : zsok zs) (h : Rel c g) (hc : c < 512) {v : Int} (hr1 : rg v) : opOK zs 45 112 [.ref 0, .int (iI v)] [.ref 39, .int (iI v)] c g hh := by
  obtain ⟨hc0, hpage, hnum, hcur, ⟨n, m, an, sn, rp, ea, eb, hS, hH⟩, himg⟩ := id h
  have hk := SS_WK hc0 hcur hS
  have hp := SS_MP hc0 hcur hS
  have hs1 : g 0 2 = 0 ∨ g 0 2 = 1 := by rw [hnum.1.1]; exact hnum.1.2
  have e02 := hnum.1.1
  by_cases hA : (v = 0 ∨ v = 1 ∨ (10 ≤ v ∧ v ≤ 14))
  · by_cases hB : g 0 2 = 0
    · exact op_id (r := -103) (by unfold rg; omega) h hc (fun Q q => c_X3_stable hk hz hs1 hr1 (fun x => absurd hA x) (fun _ _ => q) (fun _ x => absurd hB x)) (fun Q q => c_X4_stable hp hnum.1.2 hr1 (fun x => absurd hA x) (fun _ _ => q) (fun _ x => absurd (e02 ▸ hB) x))
    · have hB2 : ¬ g 39 2 = 0 := e02 ▸ hB
      refine op_sc (r := tlV n (FF n (mtM n (g 4) (g 5) (g 3) (pby ea eb lfa m) an (g 2 9) (g 2 10) (g 6)) (g 5) S0 0 ((n + 1) ^ n)) v) (FF_tl hk.1.2.1 v) h hc (fun Q q => c_X3_stable hk hz hs1 hr1 (fun x => absurd hA x) (fun _ x => absurd x hB) (fun _ _ g1 he => q g1 he)) (fun g1 hr he Q q => c_X4_stable (MP_X he hp) (by rw [eqX he 39 (by omega)]; exact hnum.1.2) hr1 (fun x => absurd hA x) (fun _ x => absurd x (by rw [eqX he 39 (by omega)]; exact hB2)) (fun _ _ g2 he2 => ?_))
      rw [FFM_X he, ← FF_both hcur hS]
      exact q g2 he2
  · exact op_id (r := -102) (by unfold rg; omega) h hc (fun Q q => c_X3_stable hk hz hs1 hr1 (fun _ => q) (fun x => absurd x hA) (fun x => absurd x hA)) (fun Q q => c_X4_stable hp hnum.1.2 hr1 (fun _ => q) (fun x => absurd x hA) (fun x => absurd x hA))
