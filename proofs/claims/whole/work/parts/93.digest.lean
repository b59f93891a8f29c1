theorem FFM_M {g g1 : Nat → Nat → Int} (h : eqS scM g g1) {n m : Nat} {ea eb : Nat → Nat} (hp : MP g n m ea eb) {N : Nat} : FF n (mtM n (kdM g1) (szM g1) (g1 41) (pby ea eb lfa m) (anb g1 n) (g1 39 3) (g1 39 4) (nwr g1 n)) (szM g1) S0 0 N = FF n (mtM n (kdM g) (szM g) (g 41) (pby ea eb lfa m) (anb g n) (g 39 3) (g 39 4) (nwr g n)) (szM g) S0 0 N := by
  refine FF_congr (fun a b ha hb => ?_) (fun j hj => ?_) S0 0 N
  · have h0 := mtvM_M h hp 0 ha hb 30
    rw [Nat.or_zero, Nat.or_zero] at h0
    unfold mtM
    rw [h0]
  · unfold szM
    rw [eqM_r h (by omega)]
theorem c_X4_digest {zs : zzT} {d : Nat} {Q : zzQ} {g : Nat → Nat → Int} {hh : Int64} {n m : Nat} {ea eb : Nat → Nat} (hp : MP g n m ea eb) (hs : g 39 2 = 0 ∨ g 39 2 = 1) (hdis : ∀ i j, i < n → j < n → nwr g n i = nwr g n j → i = j) {L : Nat} (hL : g 39 1 = (L : Int)) (hL2 : L ≤ 14) (hQ : ∀ g1, eqS scM g g1 → Q [.long (dgH (g 39 2 ≠ 0) (g 41) (fun k => whoA (nwr g n) ((k : Nat) : Int) n) n (fun i w => abM g n m ea eb i ((w : Nat) : Int)) (fun i j => mtv n (kdM g) (szM g) (g 41) (pby ea eb lfa m) (anb g n ||| 0) (g 39 3) (g 39 4) (nwr g n) i j 60) (fun k => tlV n (FF n (mtM n (kdM g) (szM g) (g 41) (pby ea eb lfa m) (anb g n) (g 39 3) (g 39 4) (nwr g n)) (szM g) S0 0 ((n + 1) ^ n)) ((k : Nat) : Int)) L (g 40) (fun k => cnM g n (pby ea eb lfa m) ((k : Nat) : Int)))] (wof g1 (dgH (g 39 2 ≠ 0) (g 41) (fun k => whoA (nwr g n) ((k : Nat) : Int) n) n (fun i w => abM g n m ea eb i ((w : Nat) : Int)) (fun i j => mtv n (kdM g) (szM g) (g 41) (pby ea eb lfa m) (anb g n ||| 0) (g 39 3) (g 39 4) (nwr g n) i j 60) (fun k => tlV n (FF n (mtM n (kdM g) (szM g) (g 41) (pby ea eb lfa m) (anb g n) (g 39 3) (g 39 4) (nwr g n)) (szM g) S0 0 ((n + 1) ^ n)) ((k : Nat) : Int)) L (g 40) (fun k => cnM g n (pby ea eb lfa m) ((k : Nat) : Int))))) : zzCL zs (d + 7) 132 [.ref 39] (wof g hh) Q := by
  refine st_X4_digest (Nat.le_of_ble_eq_true rfl) (fun R hR => ?_)
  show R 0 [(0, .ref 39)] [] _
  have hn5 := hp.2.1
  have hFr := (FF_rg (n := n) (mB := (mtM n (kdM g) (szM g) (g 41) (pby ea eb lfa m) (anb g n) (g 39 3) (g 39 4) (nwr g n))) (sz := szM g) (S := S0) (lo := 0) (by unfold S0; dsimp only; omega) ((n + 1) ^ n)).2
  have j116 : ∀ (h : Int64) (gg : Nat → Nat → Int), eqS scM g gg → (∀ g1, eqS scM g g1 → Q [.long (fh (fun k => cnM g n (pby ea eb lfa m) ((k : Nat) : Int)) (fh (g 40) (h) L) 12)] (wof g1 (fh (fun k => cnM g n (pby ea eb lfa m) ((k : Nat) : Int)) (fh (g 40) (h) L) 12))) → R 116 [(0, .ref 39)] [] (wof gg h) := by
    intro h gg he hF
    have lpp : ∀ (k i : Nat), i ≤ L → L < i + k → R 118 [(0, .ref 39), (1, .int (iI (i : Int)))] [] (wof gg (fh (g 40) h i)) := by
      intro k
      induction k with
      | zero => intro i; intros; omega
      | succ k ih =>
        intro i  hi1 hi2 
        refine z_iload_n hR dX4_digest_118 rfl rfl ?_
        refine z_aload_n hR dX4_digest_119 rfl rfl ?_
        refine g_get hR dX4_digest_120 zf_4_56 (wk_39 _) (gi (show gg 39 1 = (L : Int) by rw [eqM_39 he (by omega)]; exact hL)) ?_
        refine g_icmp_ge hR (tgt := 143) dX4_digest_123 (by decide) (fun c123 => ?_) (fun c123 => ?_)
        · refine g_iconst hR dX4_digest_143 ?_
          refine z_istore_n hR dX4_digest_144 rfl (by decide) rfl ?_
          have eL : i = L := by omega
          rw [eL]
          have lpc : ∀ (kj j : Nat), j ≤ 12 → 12 < j + kj → R 145 [(0, .ref 39), (1, .int (iI (j : Int)))] [] (wof gg (fh (fun k => cnM g n (pby ea eb lfa m) ((k : Nat) : Int)) (fh (g 40) h L) j)) := by
            intro kj
            induction kj with
            | zero => intro j; intros; omega
            | succ kj ih =>
              intro j  hi1 hi2 
              refine z_iload_n hR dX4_digest_145 rfl rfl ?_
              refine g_bipush hR dX4_digest_146 ?_
              refine g_icmp_ge hR (tgt := 167) dX4_digest_148 (by decide) (fun c148 => ?_) (fun c148 => ?_)
              · refine z_aload_n hR dX4_digest_167 rfl rfl ?_
                refine g_get hR dX4_digest_168 zf_4_255 (wk_39 _) rfl ?_
                refine g_lret hR dX4_digest_171 rfl ?_
                have e : j = 12 := by omega
                subst e
                exact hF gg he
              · refine z_aload_n hR dX4_digest_151 rfl rfl ?_
                refine z_aload_n hR dX4_digest_152 rfl rfl ?_
                refine z_iload_n hR dX4_digest_153 rfl rfl ?_
                refine g_inv1 hR dX4_digest_154 zm_4_250 (by decide) zN_X4_countOf ((wk_39 _) _) zO_X4_countOf (Nat.le_of_ble_eq_true rfl) ?_
                refine c_X4_countOf (m := m) (n := n) (ea := ea) (eb := eb) (by rw [eqM_39 he (by omega)]; exact hs) (MP_M he hp).2.2.2.2.2.2.2.2.2 (MP_M he hp).1 (MP_M he hp).2.2.1 (v := (j : Int)) (by unfold rg; omega) (fun z => absurd (by omega) z) (fun _ => ?_)
                rw [cnM_M he]
                show R 157 _ (.int _ :: _) _
                refine z_i2l hR dX4_digest_157 rfl ?_
                refine g_inv1 hR dX4_digest_158 zm_4_259 (by decide) zN_X4_say ((wk_39 _) _) zO_X4_say (Nat.le_of_ble_eq_true rfl) ?_
                refine c_X4_say ?_
                show R 161 _ _ _
                refine g_iinc hR dX4_digest_161 rfl rfl (by decide) rfl ?_
                refine z_goto hR (tgt := 145) dX4_digest_164 (by decide) ?_
                have hst := ih (j + 1) (by omega) (by omega)
                rw [fh] at hst
                exact hst
          exact lpc 13 0 (by omega) (by omega)
        · have hiL : i < L := by omega
          refine z_aload_n hR dX4_digest_126 rfl rfl ?_
          refine z_aload_n hR dX4_digest_127 rfl rfl ?_
          refine g_get hR dX4_digest_128 zf_4_7 (wk_39 _) (show _ = some (Value.ref 40) from rfl) ?_
          refine z_iload_n hR dX4_digest_131 rfl rfl ?_
          refine g_ialdN hR dX4_digest_132 (wk_40 _) (show gg 40 i = g 40 i by rw [eqM_r he (by omega)]) ?_
          refine z_i2l hR dX4_digest_133 rfl ?_
          refine g_inv1 hR dX4_digest_134 zm_4_259 (by decide) zN_X4_say ((wk_39 _) _) zO_X4_say (Nat.le_of_ble_eq_true rfl) ?_
          refine c_X4_say ?_
          show R 137 _ _ _
          refine g_iinc hR dX4_digest_137 rfl rfl (by decide) rfl ?_
          refine z_goto hR (tgt := 118) dX4_digest_140 (by decide) ?_
          have hst := ih (i + 1) (by omega) (by omega)
          rw [fh] at hst
          exact hst
    refine g_iconst hR dX4_digest_116 ?_
    refine z_istore_n hR dX4_digest_117 rfl (by decide) rfl ?_
    exact lpp (L + 1) 0 (by omega) (by omega)
  have j70 : ∀ (h : Int64) (gg : Nat → Nat → Int), eqS scM g gg → (g 39 2 = 0 → ∀ g1, eqS scM g g1 → Q [.long (fh (fun k => cnM g n (pby ea eb lfa m) ((k : Nat) : Int)) (fh (g 40) (h) L) 12)] (wof g1 (fh (fun k => cnM g n (pby ea eb lfa m) ((k : Nat) : Int)) (fh (g 40) (h) L) 12))) → (g 39 2 ≠ 0 → ∀ g1, eqS scM g g1 → Q [.long (fh (fun k => cnM g n (pby ea eb lfa m) ((k : Nat) : Int)) (fh (g 40) (mth (fun k => tlV n (FF n (mtM n (kdM g) (szM g) (g 41) (pby ea eb lfa m) (anb g n) (g 39 3) (g 39 4) (nwr g n)) (szM g) S0 0 ((n + 1) ^ n)) ((k : Nat) : Int)) h) L) 12)] (wof g1 (fh (fun k => cnM g n (pby ea eb lfa m) ((k : Nat) : Int)) (fh (g 40) (mth (fun k => tlV n (FF n (mtM n (kdM g) (szM g) (g 41) (pby ea eb lfa m) (anb g n) (g 39 3) (g 39 4) (nwr g n)) (szM g) S0 0 ((n + 1) ^ n)) ((k : Nat) : Int)) h) L) 12))) → R 70 [(0, .ref 39)] [] (wof gg h) := by
    intro h gg he hF1 hF2
    refine z_aload_n hR dX4_digest_70 rfl rfl ?_
    refine g_get hR dX4_digest_71 zf_4_63 (wk_39 _) (gi (show gg 39 2 = g 39 2 by rw [eqM_39 he (by omega)])) ?_
    refine g_if_eq hR (tgt := 116) dX4_digest_74 (by decide) (fun c74 => ?_) (fun c74 => ?_)
    · refine z_sub hR [0] rfl ?_
      exact j116 _ _ he (hF1 c74)
    · refine z_aload_n hR dX4_digest_77 rfl rfl ?_
      refine g_inv0 hR dX4_digest_78 zm_4_197 (by decide) zN_X4_layStable ((wk_39 _) _) zO_X4_layStable (Nat.le_of_ble_eq_true rfl) ?_
      refine c_X4_layStable (MP_M he hp) (fun g2 he2 hL1 => ?_)
      rw [FFM_M he hp] at hL1
      obtain ⟨gx, hgx⟩ : ∃ gx, gx = gg := ⟨_, rfl⟩
      have he := he.tr he2
      clear hgx
      obtain ⟨gg, hgg⟩ : ∃ gg, gg = g2 := ⟨_, rfl⟩
      rw [← hgg] at he hL1 ⊢
      replace hF := hF2 c74
      show R 81 _ _ _
      refine g_iconst hR dX4_digest_81 ?_
      refine z_istore_n hR dX4_digest_82 rfl (by decide) rfl ?_
      have lpm : ∀ (kk k : Nat), k ≤ 15 → 15 < k + kk → R 83 [(0, .ref 39), (1, .int (iI (k : Int)))] [] (wof gg (fch (fun k => decide (k < 2 ∨ 9 < k)) (fun k => tlV n (FF n (mtM n (kdM g) (szM g) (g 41) (pby ea eb lfa m) (anb g n) (g 39 3) (g 39 4) (nwr g n)) (szM g) S0 0 ((n + 1) ^ n)) ((k : Nat) : Int)) h k)) := by
        intro kk
        induction kk with
        | zero => intro k; intros; omega
        | succ kk ih =>
          intro k  hi1 hi2 
          refine z_iload_n hR dX4_digest_83 rfl rfl ?_
          refine g_bipush hR dX4_digest_84 ?_
          refine g_icmp_ge hR (tgt := 116) dX4_digest_86 (by decide) (fun c86 => ?_) (fun c86 => ?_)
          · refine z_sub hR [0] rfl ?_
            have e : k = 15 := by omega
            subst e
            rw [mth_15]
            exact j116 _ _ he hF
          · refine z_iload_n hR dX4_digest_89 rfl rfl ?_
            refine g_iconst hR dX4_digest_90 ?_
            refine g_icmp_lt hR (tgt := 100) dX4_digest_91 (by decide) (fun c91 => ?_) (fun c91 => ?_)
            · refine z_aload_n hR dX4_digest_100 rfl rfl ?_
              refine z_aload_n hR dX4_digest_101 rfl rfl ?_
              refine z_iload_n hR dX4_digest_102 rfl rfl ?_
              refine g_inv1 hR dX4_digest_103 zm_4_200 (by decide) zN_X4_tellStable ((wk_39 _) _) zO_X4_tellStable (Nat.le_of_ble_eq_true rfl) ?_
              refine c_X4_tellStable (n := n) (S := (FF n (mtM n (kdM g) (szM g) (g 41) (pby ea eb lfa m) (anb g n) (g 39 3) (g 39 4) (nwr g n)) (szM g) S0 0 ((n + 1) ^ n))) (by rw [eqM_39 he (by omega)]; exact hp.1) hn5 hL1 hFr (v := (k : Int)) (by omega) ?_
              show R 106 _ (.int _ :: _) _
              refine z_i2l hR dX4_digest_106 rfl ?_
              refine g_inv1 hR dX4_digest_107 zm_4_259 (by decide) zN_X4_say ((wk_39 _) _) zO_X4_say (Nat.le_of_ble_eq_true rfl) ?_
              refine c_X4_say ?_
              show R 110 _ _ _
              refine g_iinc hR dX4_digest_110 rfl rfl (by decide) rfl ?_
              refine z_goto hR (tgt := 83) dX4_digest_113 (by decide) ?_
              first | (have hst := ih (k + 1) (by omega) (by omega); rw [fch, if_pos (decide_eq_true (show k < 2 ∨ 9 < k by omega))] at hst; exact hst) | (have hst := ih (k + 1) (by omega) (by omega); rw [fch, if_neg (by rw [decide_eq_false (show ¬ (k < 2 ∨ 9 < k) by omega)]; decide)] at hst; exact hst)
            · refine z_iload_n hR dX4_digest_94 rfl rfl ?_
              refine g_bipush hR dX4_digest_95 ?_
              refine g_icmp_le hR (tgt := 110) dX4_digest_97 (by decide) (fun c97 => ?_) (fun c97 => ?_)
              · refine g_iinc hR dX4_digest_110 rfl rfl (by decide) rfl ?_
                refine z_goto hR (tgt := 83) dX4_digest_113 (by decide) ?_
                first | (have hst := ih (k + 1) (by omega) (by omega); rw [fch, if_pos (decide_eq_true (show k < 2 ∨ 9 < k by omega))] at hst; exact hst) | (have hst := ih (k + 1) (by omega) (by omega); rw [fch, if_neg (by rw [decide_eq_false (show ¬ (k < 2 ∨ 9 < k) by omega)]; decide)] at hst; exact hst)
              · refine z_aload_n hR dX4_digest_100 rfl rfl ?_
                refine z_aload_n hR dX4_digest_101 rfl rfl ?_
                refine z_iload_n hR dX4_digest_102 rfl rfl ?_
                refine g_inv1 hR dX4_digest_103 zm_4_200 (by decide) zN_X4_tellStable ((wk_39 _) _) zO_X4_tellStable (Nat.le_of_ble_eq_true rfl) ?_
                refine c_X4_tellStable (n := n) (S := (FF n (mtM n (kdM g) (szM g) (g 41) (pby ea eb lfa m) (anb g n) (g 39 3) (g 39 4) (nwr g n)) (szM g) S0 0 ((n + 1) ^ n))) (by rw [eqM_39 he (by omega)]; exact hp.1) hn5 hL1 hFr (v := (k : Int)) (by omega) ?_
                show R 106 _ (.int _ :: _) _
                refine z_i2l hR dX4_digest_106 rfl ?_
                refine g_inv1 hR dX4_digest_107 zm_4_259 (by decide) zN_X4_say ((wk_39 _) _) zO_X4_say (Nat.le_of_ble_eq_true rfl) ?_
                refine c_X4_say ?_
                show R 110 _ _ _
                refine g_iinc hR dX4_digest_110 rfl rfl (by decide) rfl ?_
                refine z_goto hR (tgt := 83) dX4_digest_113 (by decide) ?_
                first | (have hst := ih (k + 1) (by omega) (by omega); rw [fch, if_pos (decide_eq_true (show k < 2 ∨ 9 < k by omega))] at hst; exact hst) | (have hst := ih (k + 1) (by omega) (by omega); rw [fch, if_neg (by rw [decide_eq_false (show ¬ (k < 2 ∨ 9 < k) by omega)]; decide)] at hst; exact hst)
      exact lpm 16 0 (by omega) (by omega)
  have j49 : ∀ h : Int64, (g 39 2 = 0 → ∀ g1, eqS scM g g1 → Q [.long (fh (fun k => cnM g n (pby ea eb lfa m) ((k : Nat) : Int)) (fh (g 40) (ish n (fun i w => abM g n m ea eb i ((w : Nat) : Int)) (fun i j => mtv n (kdM g) (szM g) (g 41) (pby ea eb lfa m) (anb g n ||| 0) (g 39 3) (g 39 4) (nwr g n) i j 60) h n) L) 12)] (wof g1 (fh (fun k => cnM g n (pby ea eb lfa m) ((k : Nat) : Int)) (fh (g 40) (ish n (fun i w => abM g n m ea eb i ((w : Nat) : Int)) (fun i j => mtv n (kdM g) (szM g) (g 41) (pby ea eb lfa m) (anb g n ||| 0) (g 39 3) (g 39 4) (nwr g n) i j 60) h n) L) 12))) → (g 39 2 ≠ 0 → ∀ g1, eqS scM g g1 → Q [.long (fh (fun k => cnM g n (pby ea eb lfa m) ((k : Nat) : Int)) (fh (g 40) (mth (fun k => tlV n (FF n (mtM n (kdM g) (szM g) (g 41) (pby ea eb lfa m) (anb g n) (g 39 3) (g 39 4) (nwr g n)) (szM g) S0 0 ((n + 1) ^ n)) ((k : Nat) : Int)) (ish n (fun i w => abM g n m ea eb i ((w : Nat) : Int)) (fun i j => mtv n (kdM g) (szM g) (g 41) (pby ea eb lfa m) (anb g n ||| 0) (g 39 3) (g 39 4) (nwr g n) i j 60) h n)) L) 12)] (wof g1 (fh (fun k => cnM g n (pby ea eb lfa m) ((k : Nat) : Int)) (fh (g 40) (mth (fun k => tlV n (FF n (mtM n (kdM g) (szM g) (g 41) (pby ea eb lfa m) (anb g n) (g 39 3) (g 39 4) (nwr g n)) (szM g) S0 0 ((n + 1) ^ n)) ((k : Nat) : Int)) (ish n (fun i w => abM g n m ea eb i ((w : Nat) : Int)) (fun i j => mtv n (kdM g) (szM g) (g 41) (pby ea eb lfa m) (anb g n ||| 0) (g 39 3) (g 39 4) (nwr g n) i j 60) h n)) L) 12))) → R 49 [(0, .ref 39)] [] (wof g h) := by
    intro h hF1 hF2
    have lpi : ∀ (k i : Nat) (gg : Nat → Nat → Int), i ≤ n → n < i + k → (eqS scM g gg) → R 51 [(0, .ref 39), (1, .int (iI (i : Int)))] [] (wof gg (ish n (fun i w => abM g n m ea eb i ((w : Nat) : Int)) (fun i j => mtv n (kdM g) (szM g) (g 41) (pby ea eb lfa m) (anb g n ||| 0) (g 39 3) (g 39 4) (nwr g n) i j 60) h i)) := by
      intro k
      induction k with
      | zero => intro i; intros; omega
      | succ k ih =>
        intro i gg hi1 hi2 he
        refine z_iload_n hR dX4_digest_51 rfl rfl ?_
        refine z_aload_n hR dX4_digest_52 rfl rfl ?_
        refine g_get hR dX4_digest_53 zf_4_76 (wk_39 _) (gi (show gg 39 8 = (n : Int) by rw [eqM_39 he (by omega)]; exact hp.1)) ?_
        refine g_icmp_ge hR (tgt := 70) dX4_digest_56 (by decide) (fun c56 => ?_) (fun c56 => ?_)
        · refine z_sub hR [0] rfl ?_
          have e : i = n := by omega
          rw [e]
          exact j70 _ _ he hF1 hF2
        · have hin : i < n := by omega
          refine z_aload_n hR dX4_digest_59 rfl rfl ?_
          refine z_iload_n hR dX4_digest_60 rfl rfl ?_
          refine g_inv1 hR dX4_digest_61 zm_4_265 (by decide) zN_X4_sayIsland ((wk_39 _) _) zO_X4_sayIsland (Nat.le_of_ble_eq_true rfl) ?_
          refine c_X4_sayIsland (MP_M he hp) hin (fun g2 he2 => ?_)
          rw [isd_congr (ab1 := (fun i w => abM g n m ea eb i ((w : Nat) : Int))) (mt1 := (fun i j => mtv n (kdM g) (szM g) (g 41) (pby ea eb lfa m) (anb g n ||| 0) (g 39 3) (g 39 4) (nwr g n) i j 60)) (fun w hw => abM_M he hp hin ((w : Nat) : Int)) (fun j hj hne => mtvM_M he hp 0 hin hj 60)]
          have he3 := he.tr he2
          show R 64 _ _ _
          refine g_iinc hR dX4_digest_64 rfl rfl (by decide) rfl ?_
          refine z_goto hR (tgt := 51) dX4_digest_67 (by decide) ?_
          have hst := ih (i + 1) _ (by omega) (by omega) he3
          rw [ish] at hst
          exact hst
    refine g_iconst hR dX4_digest_49 ?_
    refine z_istore_n hR dX4_digest_50 rfl (by decide) rfl ?_
    exact lpi (n + 1) 0 g (by omega) (by omega) eqS.rf
  have lps : ∀ (k i : Nat), i ≤ 12 → 12 < i + k → (g 39 2 = 0 → i = 0) → R 9 [(0, .ref 39), (1, .int (iI (i : Int)))] [] (wof g (f2h (g 41) (fun k => whoA (nwr g n) ((k : Nat) : Int) n) 857 i)) := by
    intro k
    induction k with
    | zero => intro i; intros; omega
    | succ k ih =>
      intro i  hi1 hi2 hz0
      refine z_iload_n hR dX4_digest_9 rfl rfl ?_
      refine g_bipush hR dX4_digest_10 ?_
      refine g_icmp_ge hR (tgt := 49) dX4_digest_12 (by decide) (fun c12 => ?_) (fun c12 => ?_)
      · refine z_sub hR [0] rfl ?_
        rcases Classical.em (g 39 2 = 0) with hsz | hsz
        · have e := hz0 hsz
          subst e
          exact j49 857 (fun _ => fun g1 he => by have h0 := hQ g1 he; rw [dgH, if_neg (fun z => z hsz)] at h0; exact h0) (fun z => absurd hsz z)
        · have e : i = 12 := by first | omega | exact absurd c19 hsz
          subst e
          exact j49 _ (fun z => absurd z hsz) (fun z => fun g1 he => by have h0 := hQ g1 he; rw [dgH, if_pos z] at h0; exact h0)
      · refine z_aload_n hR dX4_digest_15 rfl rfl ?_
        refine g_get hR dX4_digest_16 zf_4_63 (wk_39 _) rfl ?_
        refine g_if_eq hR (tgt := 49) dX4_digest_19 (by decide) (fun c19 => ?_) (fun c19 => ?_)
        · refine z_sub hR [0] rfl ?_
          rcases Classical.em (g 39 2 = 0) with hsz | hsz
          · have e := hz0 hsz
            subst e
            exact j49 857 (fun _ => fun g1 he => by have h0 := hQ g1 he; rw [dgH, if_neg (fun z => z hsz)] at h0; exact h0) (fun z => absurd hsz z)
          · have e : i = 12 := by first | omega | exact absurd c19 hsz
            subst e
            exact j49 _ (fun z => absurd z hsz) (fun z => fun g1 he => by have h0 := hQ g1 he; rw [dgH, if_pos z] at h0; exact h0)
        · refine z_aload_n hR dX4_digest_22 rfl rfl ?_
          refine z_aload_n hR dX4_digest_23 rfl rfl ?_
          refine g_get hR dX4_digest_24 zf_4_13 (wk_39 _) (show _ = some (Value.ref 41) from rfl) ?_
          refine z_iload_n hR dX4_digest_27 rfl rfl ?_
          refine g_ialdN hR dX4_digest_28 (wk_41 _) rfl ?_
          refine z_i2l hR dX4_digest_29 rfl ?_
          refine g_inv1 hR dX4_digest_30 zm_4_259 (by decide) zN_X4_say ((wk_39 _) _) zO_X4_say (Nat.le_of_ble_eq_true rfl) ?_
          refine c_X4_say ?_
          show R 33 _ _ _
          refine z_aload_n hR dX4_digest_33 rfl rfl ?_
          refine z_aload_n hR dX4_digest_34 rfl rfl ?_
          refine z_iload_n hR dX4_digest_35 rfl rfl ?_
          refine g_inv1 hR dX4_digest_36 zm_4_97 (by decide) zN_X4_whoIsAt ((wk_39 _) _) zO_X4_whoIsAt (Nat.le_of_ble_eq_true rfl) ?_
          refine c_X4_whoIsAt (n := n) hp.1 hn5 hp.2.2.2.2.2.1 (by unfold rg; omega) (fun r hr => ?_)
          have er := isAt_un (fun _ _ => rfl) hdis (isAt_who (nwr g n) ((i : Nat) : Int) n) (isAt_congr (pl1 := nwr g n) (fun j hj => by unfold nwr; rw [if_pos hj]) hr)
          subst er
          show R 39 _ (.int _ :: _) _
          refine z_i2l hR dX4_digest_39 rfl ?_
          refine g_inv1 hR dX4_digest_40 zm_4_259 (by decide) zN_X4_say ((wk_39 _) _) zO_X4_say (Nat.le_of_ble_eq_true rfl) ?_
          refine c_X4_say ?_
          show R 43 _ _ _
          refine g_iinc hR dX4_digest_43 rfl rfl (by decide) rfl ?_
          refine z_goto hR (tgt := 9) dX4_digest_46 (by decide) ?_
          have hst := ih (i + 1) (by omega) (by omega) (fun z => absurd z c19)
          rw [f2h] at hst
          exact hst
  refine z_aload_n hR dX4_digest_0 rfl rfl ?_
  refine z_ldc2 hR dX4_digest_1 zk_4_263 ?_
  refine z_putl hR dX4_digest_4 zf_4_255 (wk_39 _ _) (Nat.le_of_ble_eq_true rfl) rfl rfl rfl ?_
  rw [show (mfs _ _).set 35 (.long _) = mfs _ _ from rfl, wof_upL]
  refine g_iconst hR dX4_digest_7 ?_
  refine z_istore_n hR dX4_digest_8 rfl (by decide) rfl ?_
  exact lps 13 0 (by omega) (by omega) (fun _ => rfl)
def opOKL (zs : zzT) (kx km : Nat) (ax am : List Value) (c : Nat) (g : Nat → Nat → Int) (hh : Int64) : Prop := ∃ (r hh2 : Int64) (Mid : (Nat → Nat → Int) → Prop), (∀ Q : zzQ, (∀ g1, Mid g1 → Q [.long r] (wof g1 hh)) → zzCL zs 20 kx ax (wof g hh) Q) ∧ (∀ g1, Mid g1 → ∀ Q : zzQ, (∀ g2, Rel (c + 1) g2 → Q [.long r] (wof g2 hh2)) → zzCL zs 20 km am (wof g1 hh) Q)
theorem whoA_congr {pl pl1 : FI} {q : Int} : ∀ {n : Nat}, eqn n pl pl1 → whoA pl q n = whoA pl1 q n
  | 0, _ => rfl
  | n + 1, e => by rw [whoA, whoA, e n (by omega), whoA_congr (fun j hj => e j (by omega))]
theorem dgH_congr {p p1 : Prop} [Decidable p] [Decidable p1] (hp : p ↔ p1) {cur cur1 isl isl1 : Nat → Int} {n : Nat} {ab ab1 mt mt1 : Nat → Nat → Int} {tl tl1 : Nat → Int} {L : Nat} {pg pg1 cn cn1 : Nat → Int} (h1 : ∀ j, j < 12 → cur j = cur1 j ∧ isl j = isl1 j) (h2 : ∀ i w, i < n → w < 8 → ab i w = ab1 i w) (h3 : ∀ i j, i < n → j < n → j ≠ i → mt i j = mt1 i j) (h4 : ∀ k, tl k = tl1 k) (h5 : ∀ j, j < L → pg j = pg1 j) (h6 : ∀ j, j < 12 → cn j = cn1 j) : dgH p cur isl n ab mt tl L pg cn = dgH p1 cur1 isl1 n ab1 mt1 tl1 L pg1 cn1 := by
  unfold dgH
  rw [fh_congr h6, fh_congr h5, f2h_congr h1, ish_congr h2 h3 n (Nat.le_refl n), ish_congr h2 h3 n (Nat.le_refl n), mth_congr h4]
  by_cases q : p
  · rw [if_pos q, if_pos (hp.mp q)]
  · rw [if_neg q, if_neg (fun z => q (hp.mpr z))]
theorem dgM_X {g g1 : Nat → Nat → Int} (h : eqS scX g g1) (n m : Nat) (ea eb : Nat → Nat) (L : Nat) : dgH (g1 39 2 ≠ 0) (g1 41) (fun k => whoA (nwr g1 n) ((k : Nat) : Int) n) n (fun i w => abM g1 n m ea eb i ((w : Nat) : Int)) (fun i j => mtv n (kdM g1) (szM g1) (g1 41) (pby ea eb lfa m) (anb g1 n ||| 0) (g1 39 3) (g1 39 4) (nwr g1 n) i j 60) (fun k => tlV n (FF n (mtM n (kdM g1) (szM g1) (g1 41) (pby ea eb lfa m) (anb g1 n) (g1 39 3) (g1 39 4) (nwr g1 n)) (szM g1) S0 0 ((n + 1) ^ n)) ((k : Nat) : Int)) L (g1 40) (fun k => cnM g1 n (pby ea eb lfa m) ((k : Nat) : Int)) = dgH (g 39 2 ≠ 0) (g 41) (fun k => whoA (nwr g n) ((k : Nat) : Int) n) n (fun i w => abM g n m ea eb i ((w : Nat) : Int)) (fun i j => mtv n (kdM g) (szM g) (g 41) (pby ea eb lfa m) (anb g n ||| 0) (g 39 3) (g 39 4) (nwr g n) i j 60) (fun k => tlV n (FF n (mtM n (kdM g) (szM g) (g 41) (pby ea eb lfa m) (anb g n) (g 39 3) (g 39 4) (nwr g n)) (szM g) S0 0 ((n + 1) ^ n)) ((k : Nat) : Int)) L (g 40) (fun k => cnM g n (pby ea eb lfa m) ((k : Nat) : Int)) := by
  unfold abM cnM kdM szM anb nwr
  rw [eqX h 39 (by omega), eqX h 40 (by omega), eqX h 41 (by omega), eqX h 42 (by omega), eqX h 44 (by omega)]
theorem op_digest {zs : zzT} {c : Nat} {g : Nat → Nat → Int} {hh : Int64} (hz : zsok zs) (h : Rel c g) (hc : c < 512) : opOKL zs 73 132 [.ref 0] [.ref 39] c g hh := by
  obtain ⟨hc0, hpage, hnum, hcur, ⟨n, m, an, sn, rp, ea, eb, hS, hH⟩, himg⟩ := id h
  have hk := SS_WK hc0 hcur hS
  have hp := SS_MP hc0 hcur hS
  have hs1 : g 0 2 = 0 ∨ g 0 2 = 1 := by rw [hnum.1.1]; exact hnum.1.2
  obtain ⟨L, l1, l2, l3, l4⟩ := hpage
  have hdx := hS.2.2.2.2.2.2.2.1
  obtain ⟨q1, q2, q3⟩ := SS_eqn hS
  have hdm : ∀ i j, i < n → j < n → nwr g n i = nwr g n j → i = j := fun i j hi hj e => hdx i j hi hj (by rw [q3 i hi, q3 j hj]; exact e)
  have hE : dgH (g 0 2 ≠ 0) (g 3) (fun k => whoA (g 6) ((k : Nat) : Int) n) n (fun i w => abX g n an i ((w : Nat) : Int)) (fun i j => mtv n (g 4) (g 5) (g 3) (pby ea eb lfa m) an (g 2 9) (g 2 10) (g 6) i j 60) (fun k => tlV n (FF n (mtM n (g 4) (g 5) (g 3) (pby ea eb lfa m) an (g 2 9) (g 2 10) (g 6)) (g 5) S0 0 ((n + 1) ^ n)) ((k : Nat) : Int)) L (g 1) (fun k => cnX g n (pby ea eb lfa m) ((k : Nat) : Int)) = dgH (g 39 2 ≠ 0) (g 41) (fun k => whoA (nwr g n) ((k : Nat) : Int) n) n (fun i w => abM g n m ea eb i ((w : Nat) : Int)) (fun i j => mtv n (kdM g) (szM g) (g 41) (pby ea eb lfa m) (anb g n ||| 0) (g 39 3) (g 39 4) (nwr g n) i j 60) (fun k => tlV n (FF n (mtM n (kdM g) (szM g) (g 41) (pby ea eb lfa m) (anb g n) (g 39 3) (g 39 4) (nwr g n)) (szM g) S0 0 ((n + 1) ^ n)) ((k : Nat) : Int)) L (g 40) (fun k => cnM g n (pby ea eb lfa m) ((k : Nat) : Int)) := by
    refine dgH_congr (by rw [hnum.1.1]) (fun j hj => ⟨(hcur j hj).1, whoA_congr q3⟩) (fun i w hi hw => ab_both hcur hS hi (by omega)) (fun i j hi hj _ => ?_) (fun k => by rw [FF_both hcur hS]) (fun j hj => (l4 j hj).1) (fun j hj => cn_both h hS ⟨hH.1, hH.2.1⟩ _)
    have h0 := mtv_both hcur hS 0 i j 60 hi hj
    rw [Nat.or_zero] at h0
    exact h0
  refine ⟨dgH (g 0 2 ≠ 0) (g 3) (fun k => whoA (g 6) ((k : Nat) : Int) n) n (fun i w => abX g n an i ((w : Nat) : Int)) (fun i j => mtv n (g 4) (g 5) (g 3) (pby ea eb lfa m) an (g 2 9) (g 2 10) (g 6) i j 60) (fun k => tlV n (FF n (mtM n (g 4) (g 5) (g 3) (pby ea eb lfa m) an (g 2 9) (g 2 10) (g 6)) (g 5) S0 0 ((n + 1) ^ n)) ((k : Nat) : Int)) L (g 1) (fun k => cnX g n (pby ea eb lfa m) ((k : Nat) : Int)), dgH (g 0 2 ≠ 0) (g 3) (fun k => whoA (g 6) ((k : Nat) : Int) n) n (fun i w => abX g n an i ((w : Nat) : Int)) (fun i j => mtv n (g 4) (g 5) (g 3) (pby ea eb lfa m) an (g 2 9) (g 2 10) (g 6) i j 60) (fun k => tlV n (FF n (mtM n (g 4) (g 5) (g 3) (pby ea eb lfa m) an (g 2 9) (g 2 10) (g 6)) (g 5) S0 0 ((n + 1) ^ n)) ((k : Nat) : Int)) L (g 1) (fun k => cnX g n (pby ea eb lfa m) ((k : Nat) : Int)), fun g1 => eqS scX g g1, fun Q q => c_X3_digest hk hz hs1 hdx l1 l3 q, fun g1 he Q q => ?_⟩
  refine c_X4_digest (MP_X he hp) (by rw [eqX he 39 (by omega)]; exact hnum.1.2) (by unfold nwr; rw [eqX he 42 (by omega), eqX he 44 (by omega)]; exact hdm) (L := L) (by rw [eqX he 39 (by omega)]; exact l2) l3 (fun g2 he2 => ?_)
  rw [dgM_X he, ← hE]
  exact q g2 (Rel_step (Rel_M (Rel_X h he) he2) hc)
