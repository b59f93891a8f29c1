def mth (tl : Nat → Int) (h : Int64) : Int64 := fh (fun i => tl (10 + i)) (hx (hx h (tl 0)) (tl 1)) 5
theorem mth_15 (tl : Nat → Int) (h : Int64) : fch (fun k => decide (k < 2 ∨ 9 < k)) tl h 15 = mth tl h := rfl
theorem mth_congr {tl tl1 : Nat → Int} {h : Int64} (e : ∀ k, tl k = tl1 k) : mth tl h = mth tl1 h := by rw [show tl = tl1 from funext e]
theorem c_X3_digestMatches {zs : zzT} {d : Nat} {Q : zzQ} {gg : Nat → Nat → Int} {hh : Int64} {n : Nat} (hn : gg 2 6 = (n : Int)) (hn5 : n ≤ 5) {S : MS} (h5 : gg 34 5 = S.1) (h6 : gg 34 6 = S.2.1) (hB : BR n (gg 38) S) (hm : -1 ≤ S.2.1 ∧ S.2.1 ≤ n) {h : Int64} (hQ : Q [.long (mth (fun k => tlV n S ((k : Nat) : Int)) h)] (wof gg hh)) : zzCL zs (d + 3) 75 [.ref 0, .long h] (wof gg hh) Q := by
  refine st_X3_digestMatches (Nat.le_of_ble_eq_true rfl) (fun R hR => ?_)
  show R 0 [(0, .ref 0), (1, .long h)] [] _
  have loop : ∀ (k i : Nat), i ≤ 5 → 5 < i + k → R 29 [(0, .ref 0), (1, .long h), (3, .long (fh (fun i => (fun k => tlV n S ((k : Nat) : Int)) (10 + i)) (hx (hx h ((fun k => tlV n S ((k : Nat) : Int)) 0)) ((fun k => tlV n S ((k : Nat) : Int)) 1)) i)), (5, .int (iI (i : Int)))] [] (wof gg hh) := by
    intro k
    induction k with
    | zero => intro i; intros; omega
    | succ k ih =>
      intro i  hi1 hi2 
      refine z_iload hR dX3_digestMatches_29 rfl ?_
      refine g_iconst hR dX3_digestMatches_31 ?_
      refine g_icmp_ge hR (tgt := 58) dX3_digestMatches_32 (by decide) (fun c32 => ?_) (fun c32 => ?_)
      · refine z_lload_n hR dX3_digestMatches_58 rfl rfl ?_
        refine g_lret hR dX3_digestMatches_59 rfl ?_
        have e : i = 5 := by omega
        subst e
        exact hQ
      · refine z_ldc2 hR dX3_digestMatches_35 zk_3_222 ?_
        refine z_lload_n hR dX3_digestMatches_38 rfl rfl ?_
        refine z_lmul hR dX3_digestMatches_39 rfl ?_
        refine z_aload_n hR dX3_digestMatches_40 rfl rfl ?_
        refine g_bipush hR dX3_digestMatches_41 ?_
        refine z_iload hR dX3_digestMatches_43 rfl ?_
        refine g_iadd hR dX3_digestMatches_45 (nadd 10 _) ?_
        refine g_inv1 hR dX3_digestMatches_46 zm_3_185 (by decide) zN_X3_matchesTell ((wk_0 _) _) zO_X3_matchesTell (Nat.le_of_ble_eq_true rfl) ?_
        refine c_X3_matchesTell hn hn5 h5 h6 hB hm (v := ((10 + i : Nat) : Int)) (by omega) ?_
        show R 49 _ (.int _ :: _) _
        refine z_i2l hR dX3_digestMatches_49 rfl ?_
        refine z_ladd hR dX3_digestMatches_50 rfl ?_
        refine z_lstore_n hR dX3_digestMatches_51 rfl (by decide) rfl ?_
        refine g_iinc hR dX3_digestMatches_52 rfl rfl (by decide) rfl ?_
        refine z_goto hR (tgt := 29) dX3_digestMatches_55 (by decide) ?_
        have hst := ih (i + 1) (by omega) (by omega)
        rw [fh] at hst
        exact hst
  refine z_ldc2 hR dX3_digestMatches_0 zk_3_222 ?_
  refine z_lload_n hR dX3_digestMatches_3 rfl rfl ?_
  refine z_lmul hR dX3_digestMatches_4 rfl ?_
  refine z_aload_n hR dX3_digestMatches_5 rfl rfl ?_
  refine g_iconst hR dX3_digestMatches_6 ?_
  refine g_inv1 hR dX3_digestMatches_7 zm_3_185 (by decide) zN_X3_matchesTell ((wk_0 _) _) zO_X3_matchesTell (Nat.le_of_ble_eq_true rfl) ?_
  refine c_X3_matchesTell hn hn5 h5 h6 hB hm (v := 0) (by omega) ?_
  show R 10 _ (.int _ :: _) _
  refine z_i2l hR dX3_digestMatches_10 rfl ?_
  refine z_ladd hR dX3_digestMatches_11 rfl ?_
  refine z_lstore_n hR dX3_digestMatches_12 rfl (by decide) rfl ?_
  refine z_ldc2 hR dX3_digestMatches_13 zk_3_222 ?_
  refine z_lload_n hR dX3_digestMatches_16 rfl rfl ?_
  refine z_lmul hR dX3_digestMatches_17 rfl ?_
  refine z_aload_n hR dX3_digestMatches_18 rfl rfl ?_
  refine g_iconst hR dX3_digestMatches_19 ?_
  refine g_inv1 hR dX3_digestMatches_20 zm_3_185 (by decide) zN_X3_matchesTell ((wk_0 _) _) zO_X3_matchesTell (Nat.le_of_ble_eq_true rfl) ?_
  refine c_X3_matchesTell hn hn5 h5 h6 hB hm (v := 1) (by omega) ?_
  show R 23 _ (.int _ :: _) _
  refine z_i2l hR dX3_digestMatches_23 rfl ?_
  refine z_ladd hR dX3_digestMatches_24 rfl ?_
  refine z_lstore_n hR dX3_digestMatches_25 rfl (by decide) rfl ?_
  refine g_iconst hR dX3_digestMatches_26 ?_
  refine z_istore hR dX3_digestMatches_27 (by decide) rfl ?_
  exact loop 6 0 (by omega) (by omega)
def dgH (sea : Prop) [Decidable sea] (cur isl : Nat → Int) (n : Nat) (ab mt : Nat → Nat → Int) (tl : Nat → Int) (L : Nat) (pg cn : Nat → Int) : Int64 := fh cn (fh pg (if sea then mth tl (ish n ab mt (f2h cur isl 857 12) n) else ish n ab mt 857 n) L) 12
theorem cnX_X {g g1 : Nat → Nat → Int} (h : eqS scX g g1) (n : Nat) (pt : Nat → Nat) (v : Int) : cnX g1 n pt v = cnX g n pt v := by
  unfold cnX
  rw [eqX h 0 (by omega), eqX h 2 (by omega), eqX h 3 (by omega), eqX h 23 (by omega)]
theorem cnM_M {g g1 : Nat → Nat → Int} (h : eqS scM g g1) (n : Nat) (pt : Nat → Nat) (v : Int) : cnM g1 n pt v = cnM g n pt v := by
  unfold cnM
  rw [eqM_39 h (k := 1) (by omega), eqM_39 h (k := 2) (by omega), eqM_39 h (k := 3) (by omega), eqM_39 h (k := 4) (by omega), eqM_39 h (k := 5) (by omega), eqM_39 h (k := 6) (by omega), eqM_39 h (k := 9) (by omega), eqM_39 h (k := 16) (by omega), eqM_39 h (k := 22) (by omega), eqM_r h (b := 41) (by omega)]
theorem c_X3_digest {zs : zzT} {d : Nat} {Q : zzQ} {g : Nat → Nat → Int} {hh : Int64} {n an : Nat} {pt : Nat → Nat} (hk : WK g 2 n an pt) (hz : zsok zs) (hs : g 0 2 = 0 ∨ g 0 2 = 1) (hdis : ∀ i j, i < n → j < n → g 6 i = g 6 j → i = j) {L : Nat} (hL : g 0 1 = (L : Int)) (hL2 : L ≤ 14) (hQ : ∀ g1, eqS scX g g1 → Q [.long (dgH (g 0 2 ≠ 0) (g 3) (fun k => whoA (g 6) ((k : Nat) : Int) n) n (fun i w => abX g n an i ((w : Nat) : Int)) (fun i j => mtv n (g 4) (g 5) (g 3) pt an (g 2 9) (g 2 10) (g 6) i j 60) (fun k => tlV n (FF n (mtM n (g 4) (g 5) (g 3) pt an (g 2 9) (g 2 10) (g 6)) (g 5) S0 0 ((n + 1) ^ n)) ((k : Nat) : Int)) L (g 1) (fun k => cnX g n pt ((k : Nat) : Int)))] (wof g1 hh)) : zzCL zs (d + 11) 73 [.ref 0] (wof g hh) Q := by
  refine st_X3_digest (Nat.le_of_ble_eq_true rfl) (fun R hR => ?_)
  show R 0 [(0, .ref 0)] [] _
  have hn5 := hk.1.2.1
  have j98 : ∀ (h : Int64) (gg : Nat → Nat → Int), eqS scX g gg → (∀ g1, eqS scX g g1 → Q [.long (fh (fun k => cnX g n pt ((k : Nat) : Int)) (fh (g 1) h L) 12)] (wof g1 hh)) → R 98 [(0, .ref 0), (1, .long h)] [] (wof gg hh) := by
    intro h gg he hF
    have lpp : ∀ (k i : Nat), i ≤ L → L < i + k → R 100 [(0, .ref 0), (1, .long (fh (g 1) h i)), (3, .int (iI (i : Int)))] [] (wof gg hh) := by
      intro k
      induction k with
      | zero => intro i; intros; omega
      | succ k ih =>
        intro i  hi1 hi2 
        refine z_iload_n hR dX3_digest_100 rfl rfl ?_
        refine z_aload_n hR dX3_digest_101 rfl rfl ?_
        refine g_get hR dX3_digest_102 zf_3_13 (wk_0 _) (gi (show gg 0 1 = (L : Int) by rw [eqX he 0 (by omega)]; exact hL)) ?_
        refine g_icmp_ge hR (tgt := 128) dX3_digest_105 (by decide) (fun c105 => ?_) (fun c105 => ?_)
        · refine g_iconst hR dX3_digest_128 ?_
          refine z_istore_n hR dX3_digest_129 rfl (by decide) rfl ?_
          have eL : i = L := by omega
          rw [eL]
          have lpc : ∀ (kj j : Nat), j ≤ 12 → 12 < j + kj → R 130 [(0, .ref 0), (1, .long (fh (fun k => cnX g n pt ((k : Nat) : Int)) (fh (g 1) h L) j)), (3, .int (iI (j : Int)))] [] (wof gg hh) := by
            intro kj
            induction kj with
            | zero => intro j; intros; omega
            | succ kj ih =>
              intro j  hi1 hi2 
              refine z_iload_n hR dX3_digest_130 rfl rfl ?_
              refine g_bipush hR dX3_digest_131 ?_
              refine g_icmp_ge hR (tgt := 155) dX3_digest_133 (by decide) (fun c133 => ?_) (fun c133 => ?_)
              · refine z_lload_n hR dX3_digest_155 rfl rfl ?_
                refine g_lret hR dX3_digest_156 rfl ?_
                have e : j = 12 := by omega
                subst e
                exact hF gg he
              · refine z_ldc2 hR dX3_digest_136 zk_3_222 ?_
                refine z_lload_n hR dX3_digest_139 rfl rfl ?_
                refine z_lmul hR dX3_digest_140 rfl ?_
                refine z_aload_n hR dX3_digest_141 rfl rfl ?_
                refine z_iload_n hR dX3_digest_142 rfl rfl ?_
                refine g_inv1 hR dX3_digest_143 zm_3_231 (by decide) zN_X3_count ((wk_0 _) _) zO_X3_count (Nat.le_of_ble_eq_true rfl) ?_
                refine c_X3_count (n := n) (pt := pt) (by rw [eqX he 0 (by omega)]; exact hs) (by rw [eqX he 2 (by omega)]; exact hk.1.1) hn5 (by rw [eqX he 3 (by omega)]; exact hk.1.2.2.1) (by rw [eqX he 8 (by omega)]; exact fun j hj => (hk.2.2.2.2.2.2 j hj).1) (v := (j : Int)) (by unfold rg; omega) (fun z => absurd (by omega) z) (fun _ => ?_)
                rw [cnX_X he]
                show R 146 _ (.int _ :: _) _
                refine z_i2l hR dX3_digest_146 rfl ?_
                refine z_ladd hR dX3_digest_147 rfl ?_
                refine z_lstore_n hR dX3_digest_148 rfl (by decide) rfl ?_
                refine g_iinc hR dX3_digest_149 rfl rfl (by decide) rfl ?_
                refine z_goto hR (tgt := 130) dX3_digest_152 (by decide) ?_
                have hst := ih (j + 1) (by omega) (by omega)
                rw [fh] at hst
                exact hst
          exact lpc 13 0 (by omega) (by omega)
        · have hiL : i < L := by omega
          refine z_ldc2 hR dX3_digest_108 zk_3_222 ?_
          refine z_lload_n hR dX3_digest_111 rfl rfl ?_
          refine z_lmul hR dX3_digest_112 rfl ?_
          refine z_aload_n hR dX3_digest_113 rfl rfl ?_
          refine g_get hR dX3_digest_114 zf_3_9 (wk_0 _) (show _ = some (Value.ref 1) from rfl) ?_
          refine z_iload_n hR dX3_digest_117 rfl rfl ?_
          refine g_ialdN hR dX3_digest_118 (wk_1 _) (show gg 1 i = g 1 i by rw [eqX he 1 (by omega)]) ?_
          refine z_i2l hR dX3_digest_119 rfl ?_
          refine z_ladd hR dX3_digest_120 rfl ?_
          refine z_lstore_n hR dX3_digest_121 rfl (by decide) rfl ?_
          refine g_iinc hR dX3_digest_122 rfl rfl (by decide) rfl ?_
          refine z_goto hR (tgt := 100) dX3_digest_125 (by decide) ?_
          have hst := ih (i + 1) (by omega) (by omega)
          rw [fh] at hst
          exact hst
    refine g_iconst hR dX3_digest_98 ?_
    refine z_istore_n hR dX3_digest_99 rfl (by decide) rfl ?_
    exact lpp (L + 1) 0 (by omega) (by omega)
  have hFr := (FF_rg (n := n) (mB := (mtM n (g 4) (g 5) (g 3) pt an (g 2 9) (g 2 10) (g 6))) (sz := g 5) (S := S0) (lo := 0) (by unfold S0; dsimp only; omega) ((n + 1) ^ n)).2
  have j58 : ∀ h : Int64, (g 0 2 = 0 → ∀ g1, eqS scX g g1 → Q [.long (fh (fun k => cnX g n pt ((k : Nat) : Int)) (fh (g 1) (ish n (fun i w => abX g n an i ((w : Nat) : Int)) (fun i j => mtv n (g 4) (g 5) (g 3) pt an (g 2 9) (g 2 10) (g 6) i j 60) h n) L) 12)] (wof g1 hh)) → (g 0 2 ≠ 0 → ∀ g1, eqS scX g g1 → Q [.long (fh (fun k => cnX g n pt ((k : Nat) : Int)) (fh (g 1) (mth (fun k => tlV n (FF n (mtM n (g 4) (g 5) (g 3) pt an (g 2 9) (g 2 10) (g 6)) (g 5) S0 0 ((n + 1) ^ n)) ((k : Nat) : Int)) (ish n (fun i w => abX g n an i ((w : Nat) : Int)) (fun i j => mtv n (g 4) (g 5) (g 3) pt an (g 2 9) (g 2 10) (g 6) i j 60) h n)) L) 12)] (wof g1 hh)) → R 58 [(0, .ref 0), (1, .long h)] [] (wof g hh) := by
    intro h hF1 hF2
    refine z_aload_n hR dX3_digest_58 rfl rfl ?_
    refine g_bipush hR dX3_digest_59 ?_
    refine g_inv1 hR dX3_digest_61 zm_3_177 (by decide) zN_X3_meetAll ((wk_0 _) _) zO_X3_meetAll (Nat.le_of_ble_eq_true rfl) ?_
    refine c_X3_meetAll (D := 60) hk hz (by omega) (fun g1 he1 hm1 => ?_)
    show R 64 _ _ _
    refine z_aload_n hR dX3_digest_64 rfl rfl ?_
    refine z_lload_n hR dX3_digest_65 rfl rfl ?_
    refine g_inv1 hR dX3_digest_66 zm_3_224 (by decide) zN_X3_digestIslands ((wk_0 _) _) zO_X3_digestIslands (Nat.le_of_ble_eq_true rfl) ?_
    refine c_X3_digestIslands (WK_X he1 hk) hz ?_
    rw [ish_congr (ab1 := (fun i w => abX g n an i ((w : Nat) : Int))) (mt1 := (fun i j => mtv n (g 4) (g 5) (g 3) pt an (g 2 9) (g 2 10) (g 6) i j 60)) (fun i w hi hw => abX_X he1 n an i ((w : Nat) : Int)) (fun i j hi hj hne => hm1.1 i j hi hj (Ne.symm hne)) n (Nat.le_refl n)]
    show R 69 _ (.long _ :: _) _
    refine z_lstore_n hR dX3_digest_69 rfl (by decide) rfl ?_
    refine z_aload_n hR dX3_digest_70 rfl rfl ?_
    refine g_get hR dX3_digest_71 zf_3_17 (wk_0 _) (gi (show g1 0 2 = g 0 2 by rw [eqX he1 0 (by omega)])) ?_
    refine g_if_eq hR (tgt := 98) dX3_digest_74 (by decide) (fun c74 => ?_) (fun c74 => ?_)
    · first | exact j98 _ _ he3 (hF2 c74) | exact j98 _ _ he1 (hF1 c74)
    · refine z_aload_n hR dX3_digest_77 rfl rfl ?_
      refine g_get hR dX3_digest_78 zf_3_59 (wk_0 _) (show _ = some (Value.ref 34) from rfl) ?_
      refine z_aload_n hR dX3_digest_81 rfl rfl ?_
      refine g_get hR dX3_digest_82 zf_3_33 (wk_0 _) (show _ = some (Value.ref 2) from rfl) ?_
      refine z_aload_n hR dX3_digest_85 rfl rfl ?_
      refine g_get hR dX3_digest_86 zf_3_53 (wk_0 _) (show _ = some (Value.ref 33) from rfl) ?_
      refine g_inv2 hR dX3_digest_89 zm_3_181 (by decide) zN_X0_solve ((wk_34 _) _) zO_X0_solve (Nat.le_of_ble_eq_true rfl) ?_
      refine c_X0_solve (n := n) (gg := g1) (by rw [eqX he1 2 (by omega)]; exact hk.1.1) hn5 (by rw [eqX he1 5 (by omega)]; exact hk.1.2.2.2.2) (fun x y hx hy => by have := MT_rg hm1 x y hx hy; omega) (MT_mB hm1 (by omega)) (fun a b _ _ => mtM_sym a b) (fun g2 he2 h5 h6 hb => ?_)
      rw [eqX he1 5 (by omega)] at h5 h6 hb
      have he3 := he1.tr he2
      show R 92 _ _ _
      refine z_aload_n hR dX3_digest_92 rfl rfl ?_
      refine z_lload_n hR dX3_digest_93 rfl rfl ?_
      refine g_inv1 hR dX3_digest_94 zm_3_228 (by decide) zN_X3_digestMatches ((wk_0 _) _) zO_X3_digestMatches (Nat.le_of_ble_eq_true rfl) ?_
      refine c_X3_digestMatches (n := n) (S := (FF n (mtM n (g 4) (g 5) (g 3) pt an (g 2 9) (g 2 10) (g 6)) (g 5) S0 0 ((n + 1) ^ n))) (by rw [eqX he3 2 (by omega)]; exact hk.1.1) hn5 h5 h6 hb hFr ?_
      show R 97 _ (.long _ :: _) _
      refine z_lstore_n hR dX3_digest_97 rfl (by decide) rfl ?_
      first | exact j98 _ _ he3 (hF2 c74) | exact j98 _ _ he1 (hF1 c74)
  refine z_ldc2 hR dX3_digest_0 zk_3_220 ?_
  refine z_lstore_n hR dX3_digest_3 rfl (by decide) rfl ?_
  refine z_aload_n hR dX3_digest_4 rfl rfl ?_
  refine g_get hR dX3_digest_5 zf_3_17 (wk_0 _) rfl ?_
  refine g_if_eq hR (tgt := 58) dX3_digest_8 (by decide) (fun c8 => ?_) (fun c8 => ?_)
  · exact j58 857 (fun _ g1 he => by have h0 := hQ g1 he; rw [dgH, if_neg (fun z => z c8)] at h0; exact h0) (fun z => absurd c8 z)
  · refine g_iconst hR dX3_digest_11 ?_
    refine z_istore_n hR dX3_digest_12 rfl (by decide) rfl ?_
    have lps : ∀ (k i : Nat), i ≤ 12 → 12 < i + k → R 13 [(0, .ref 0), (1, .long (f2h (g 3) (fun k => whoA (g 6) ((k : Nat) : Int) n) 857 i)), (3, .int (iI (i : Int)))] [] (wof g hh) := by
      intro k
      induction k with
      | zero => intro i; intros; omega
      | succ k ih =>
        intro i  hi1 hi2 
        refine z_iload_n hR dX3_digest_13 rfl rfl ?_
        refine g_bipush hR dX3_digest_14 ?_
        refine g_icmp_ge hR (tgt := 58) dX3_digest_16 (by decide) (fun c16 => ?_) (fun c16 => ?_)
        · refine z_sub hR [0, 1] rfl ?_
          have e : i = 12 := by omega
          rw [e]
          exact j58 _ (fun z => absurd z c8) (fun _ g1 he => by have h0 := hQ g1 he; rw [dgH, if_pos c8] at h0; exact h0)
        · refine z_ldc2 hR dX3_digest_19 zk_3_222 ?_
          refine z_lload_n hR dX3_digest_22 rfl rfl ?_
          refine z_lmul hR dX3_digest_23 rfl ?_
          refine z_aload_n hR dX3_digest_24 rfl rfl ?_
          refine g_get hR dX3_digest_25 zf_3_33 (wk_0 _) (show _ = some (Value.ref 2) from rfl) ?_
          refine g_get hR dX3_digest_28 zf_3_80 (wk_2 _) (show _ = some (Value.ref 3) from rfl) ?_
          refine z_iload_n hR dX3_digest_31 rfl rfl ?_
          refine g_ialdN hR dX3_digest_32 (wk_3 _) rfl ?_
          refine z_i2l hR dX3_digest_33 rfl ?_
          refine z_ladd hR dX3_digest_34 rfl ?_
          refine z_lstore_n hR dX3_digest_35 rfl (by decide) rfl ?_
          refine z_ldc2 hR dX3_digest_36 zk_3_222 ?_
          refine z_lload_n hR dX3_digest_39 rfl rfl ?_
          refine z_lmul hR dX3_digest_40 rfl ?_
          refine z_aload_n hR dX3_digest_41 rfl rfl ?_
          refine g_get hR dX3_digest_42 zf_3_33 (wk_0 _) (show _ = some (Value.ref 2) from rfl) ?_
          refine z_iload_n hR dX3_digest_45 rfl rfl ?_
          refine g_inv1 hR dX3_digest_46 zm_3_96 (by decide) zN_X2_islandAt ((wk_2 _) _) zO_X2_islandAt (Nat.le_of_ble_eq_true rfl) ?_
          refine c_X2_islandAt isW2 hk.1.1 hn5 hk.2.1 (by unfold rg; omega) (fun r hr => ?_)
          have er := isAt_un (fun _ _ => rfl) hdis (isAt_who (g 6) ((i : Nat) : Int) n) hr
          subst er
          show R 49 _ (.int _ :: _) _
          refine z_i2l hR dX3_digest_49 rfl ?_
          refine z_ladd hR dX3_digest_50 rfl ?_
          refine z_lstore_n hR dX3_digest_51 rfl (by decide) rfl ?_
          refine g_iinc hR dX3_digest_52 rfl rfl (by decide) rfl ?_
          refine z_goto hR (tgt := 13) dX3_digest_55 (by decide) ?_
          have hst := ih (i + 1) (by omega) (by omega)
          rw [f2h] at hst
          exact hst
    exact lps 13 0 (by omega) (by omega)
