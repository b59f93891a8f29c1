theorem c_X3_nextSeed {zs : zzT} {d : Nat} {Q : zzQ} {w : zzW} {s : Int} (hs : rg s) (hQ : Q [.int (iI (nsd s))] w) : zzCL zs (d + 1) 66 [.int (iI s)] w Q := by
  refine st_X3_nextSeed (Nat.le_of_ble_eq_true rfl) (fun R hR => ?_)
  show R 0 [(0, .int (iI s))] [] _
  refine z_ldc2 hR dX3_nextSeed_0 zk_3_234 ?_
  refine z_iload_n hR dX3_nextSeed_3 rfl rfl ?_
  refine g_i2l hR dX3_nextSeed_4 ?_
  refine z_lmul hR dX3_nextSeed_5 rfl ?_
  refine z_ldc2 hR dX3_nextSeed_6 zk_3_236 ?_
  refine z_ladd hR dX3_nextSeed_9 rfl ?_
  refine z_ldc2 hR dX3_nextSeed_10 zk_3_238 ?_
  refine z_land hR dX3_nextSeed_13 rfl ?_
  refine z_l2i hR dX3_nextSeed_14 (show _ = nsq (lI s) from rfl) ?_
  rw [← nsd_iI]
  refine g_iret hR dX3_nextSeed_15 rfl ?_
  exact hQ
theorem c_X4_draw {zs : zzT} {d : Nat} {Q : zzQ} {g : Nat → Nat → Int} {hh : Int64} {s : Int} (hs0 : g 39 24 = s) (hs : rg s) (hQ : Q [.int (iI (nsd s / 65536 % 3))] (wof (gr g 39 (iu (g 39) 24 (nsd s))) hh)) : zzCL zs (d + 1) 126 [.ref 39, .int (iI 3)] (wof g hh) Q := by
  refine st_X4_draw (Nat.le_of_ble_eq_true rfl) (fun R hR => ?_)
  show R 0 [(0, .ref 39), (1, .int (iI 3))] [] _
  refine z_aload_n hR dX4_draw_0 rfl rfl ?_
  refine z_ldc2 hR dX4_draw_1 zk_4_212 ?_
  refine z_aload_n hR dX4_draw_4 rfl rfl ?_
  refine g_get hR dX4_draw_5 zf_4_214 (wk_39 _) (gi hs0) ?_
  refine g_i2l hR dX4_draw_8 ?_
  refine z_lmul hR dX4_draw_9 rfl ?_
  refine z_ldc2 hR dX4_draw_10 zk_4_217 ?_
  refine z_ladd hR dX4_draw_13 rfl ?_
  refine z_ldc2 hR dX4_draw_14 zk_4_219 ?_
  refine z_land hR dX4_draw_17 rfl ?_
  refine z_l2i hR dX4_draw_18 (show _ = nsq (lI s) from rfl) ?_
  rw [← nsd_iI]
  have hns := nsd_rg s
  refine g_put hR dX4_draw_19 zf_4_214 (wk_39 _) (Nat.le_of_ble_eq_true rfl) rfl rfl rfl rfl ?_
  refine z_aload_n hR dX4_draw_22 rfl rfl ?_
  refine g_get hR dX4_draw_23 zf_4_214 (wk_39 _) (gi (show (gr g 39 (iu (g 39) 24 (nsd s))) 39 24 = nsd s from rfl)) ?_
  refine z_ldc hR (v := iI 65536) dX4_draw_26 zk_4_221 ?_
  refine g_idiv hR dX4_draw_28 rfl ?_
  refine z_iload_n hR dX4_draw_29 rfl rfl ?_
  refine g_irem hR dX4_draw_30 rfl ?_
  refine g_iret hR dX4_draw_31 rfl ?_
  exact hQ
theorem smu_nn {f : Nat → Int} {B : Int} : ∀ (n : Nat), (∀ i, i < n → 0 ≤ f i ∧ f i ≤ B) → 0 ≤ smu f n ∧ smu f n ≤ B * n
  | 0, _ => by simp [smu]
  | n + 1, h => by
    have h1 := smu_nn n (fun i hi => h i (by omega))
    have h2 := h n (by omega)
    have h3 : B * ((n + 1 : Nat) : Int) = B * n + B := by rw [Int.natCast_add, Int.mul_add]; simp
    rw [smu, h3]
    omega
theorem c_X2_pairsBeside {zs : zzT} {d : Nat} {Q : zzQ} {g : Nat → Nat → Int} {hh : Int64} {a : Nat} (ha : isW a) {n : Nat} (hn : g a 6 = (n : Int)) (hn5 : n ≤ 5) (hpl : plok n (g (a + 4))) (hQ : Q [.int (iI (prT (fun i j => bs (g (a + 4) i) (g (a + 4) j)) n n))] (wof g hh)) : zzCL zs (d + 4) 67 [.ref a] (wof g hh) Q := by
  refine st_X2_pairsBeside (Nat.le_of_ble_eq_true rfl) (fun R hR => ?_)
  show R 0 [(0, .ref a)] [] _
  have loop : ∀ (k i : Nat), i ≤ n → n < i + k → R 4 [(0, .ref a), (1, .int (iI (smu (fun i => cnt (fun j => bs (g (a + 4) i) (g (a + 4) j)) n) i))), (2, .int (iI (i : Int)))] [] (wof g hh) := by
    intro k
    induction k with
    | zero => intro i; intros; omega
    | succ k ih =>
      intro i  hi1 hi2 
      refine z_iload_n hR dX2_pairsBeside_4 rfl rfl ?_
      refine z_aload_n hR dX2_pairsBeside_5 rfl rfl ?_
      refine g_get hR dX2_pairsBeside_6 zf_2_30 (wW_0 ha _) (gi hn) ?_
      refine g_icmp_ge hR (tgt := 29) dX2_pairsBeside_9 (by decide) (fun c9 => ?_) (fun c9 => ?_)
      · have e : i = n := by omega
        rw [e]
        have hE := prT_bs hn5 hpl
        have hE0 : 0 ≤ smu (fun i => cnt (fun j => bs (g (a + 4) i) (g (a + 4) j)) n) n ∧ smu (fun i => cnt (fun j => bs (g (a + 4) i) (g (a + 4) j)) n) n ≤ 25 := by
          have := smu_nn (f := fun i => cnt (fun j => bs (g (a + 4) i) (g (a + 4) j)) n) (B := 5) n (fun i hi => by have := cnt_rg (fun j => bs (g (a + 4) i) (g (a + 4) j)) n; omega)
          omega
        refine z_iload_n hR dX2_pairsBeside_29 rfl rfl ?_
        refine g_iconst hR dX2_pairsBeside_30 ?_
        refine g_idiv hR dX2_pairsBeside_31 (show smu (fun i => cnt (fun j => bs (g (a + 4) i) (g (a + 4) j)) n) n / 2 = prT (fun i j => bs (g (a + 4) i) (g (a + 4) j)) n n by omega) ?_
        refine g_iret hR dX2_pairsBeside_32 rfl ?_
        exact hQ
      · have hin : i < n := by omega
        refine z_iload_n hR dX2_pairsBeside_12 rfl rfl ?_
        refine z_aload_n hR dX2_pairsBeside_13 rfl rfl ?_
        refine z_iload_n hR dX2_pairsBeside_14 rfl rfl ?_
        refine g_inv1 hR dX2_pairsBeside_15 zm_2_69 (by decide) zN_X2_neighbours ((wW_0 ha _) _) zO_X2_neighbours (Nat.le_of_ble_eq_true rfl) ?_
        refine c_X2_neighbours ha hn hn5 hpl hin ?_
        show R 18 _ (.int _ :: _) _
        refine g_sta1 hR dX2_pairsBeside_18 zm_2_73 zN_J6_bitCount_0f7a4 (Nat.le_of_ble_eq_true rfl) ?_
        refine c_J6_bitCount (bor_small hn5 (fun j hj => by omega)) ?_
        rw [pcN_bor hn5]
        show R 21 _ (.int _ :: _) _
        refine g_iadd hR dX2_pairsBeside_21 rfl ?_
        refine z_istore_n hR dX2_pairsBeside_22 rfl (by decide) rfl ?_
        refine g_iinc hR dX2_pairsBeside_23 rfl rfl (by decide) rfl ?_
        refine z_goto hR (tgt := 4) dX2_pairsBeside_26 (by decide) ?_
        exact ih (i + 1) (by omega) (by omega)
  refine g_iconst hR dX2_pairsBeside_0 ?_
  refine z_istore_n hR dX2_pairsBeside_1 rfl (by decide) rfl ?_
  refine g_iconst hR dX2_pairsBeside_2 ?_
  refine z_istore_n hR dX2_pairsBeside_3 rfl (by decide) rfl ?_
  exact loop (n + 1) 0 (by omega) (by omega)
/-- seed, places and bumps behind k days of a season -/
def szn (n : Nat) (kd sz cur : FI) (pt : Nat → Nat) (an : Nat) (da sd : Int) (pl : FI) : Nat → Int × FI × Int
  | 0 => (sd, pl, 0)
  | k + 1 => (nsd (szn n kd sz cur pt an da sd pl k).1, (drf n kd sz cur pt an (nsd (szn n kd sz cur pt an da sd pl k).1 / 65536 % 3 - 1) (da + (k : Int)) n (szn n kd sz cur pt an da sd pl k).2.1).1, (szn n kd sz cur pt an da sd pl k).2.2 + (drf n kd sz cur pt an (nsd (szn n kd sz cur pt an da sd pl k).1 / 65536 % 3 - 1) (da + (k : Int)) n (szn n kd sz cur pt an da sd pl k).2.1).2)
theorem szn_ok {n : Nat} {kd sz cur : FI} {pt : Nat → Nat} {an : Nat} {da sd : Int} {pl : FI} (h : plok n pl) : ∀ k, plok n (szn n kd sz cur pt an da sd pl k).2.1
  | 0 => h
  | k + 1 => drf_ok (szn_ok h k) n
theorem szn_rg {n : Nat} {kd sz cur : FI} {pt : Nat → Nat} {an : Nat} {da sd : Int} {pl : FI} (h : 0 ≤ sd ∧ sd < 2147483648) : ∀ k, 0 ≤ (szn n kd sz cur pt an da sd pl k).1 ∧ (szn n kd sz cur pt an da sd pl k).1 < 2147483648
  | 0 => h
  | k + 1 => nsd_rg _
theorem szn_b {n : Nat} {kd sz cur : FI} {pt : Nat → Nat} {an : Nat} {da sd : Int} {pl : FI} (hn : n ≤ 5) : ∀ k : Nat, 0 ≤ (szn n kd sz cur pt an da sd pl k).2.2 ∧ (szn n kd sz cur pt an da sd pl k).2.2 ≤ 5 * k
  | 0 => by simp [szn]
  | k + 1 => by
    have ih := szn_b (n := n) (kd := kd) (sz := sz) (cur := cur) (pt := pt) (an := an) (da := da) (sd := sd) (pl := pl) hn k
    have hd := @drf_rg n kd sz cur pt an (nsd (szn n kd sz cur pt an da sd pl k).1 / 65536 % 3 - 1) (da + (k : Int)) (szn n kd sz cur pt an da sd pl k).2.1 n
    rw [szn]
    dsimp only
    omega
theorem szn_congr {n : Nat} {kd kd1 sz sz1 cur cur1 : FI} {pt : Nat → Nat} {an : Nat} {da sd : Int} {pl pl1 : FI} (h1 : eqn n kd kd1) (hs : eqn n sz sz1) (h2 : eqn 12 cur cur1) (h3 : eqn n pl pl1) (hp : plok n pl) : ∀ k, (szn n kd sz cur pt an da sd pl k).1 = (szn n kd1 sz1 cur1 pt an da sd pl1 k).1 ∧ eqn n (szn n kd sz cur pt an da sd pl k).2.1 (szn n kd1 sz1 cur1 pt an da sd pl1 k).2.1 ∧ (szn n kd sz cur pt an da sd pl k).2.2 = (szn n kd1 sz1 cur1 pt an da sd pl1 k).2.2
  | 0 => ⟨rfl, h3, rfl⟩
  | k + 1 => by
    obtain ⟨i1, i2, i3⟩ := szn_congr (pt := pt) (an := an) (da := da) (sd := sd) h1 hs h2 h3 hp k
    have hd := drf_congr (an := an) (wi := nsd (szn n kd sz cur pt an da sd pl k).1 / 65536 % 3 - 1) (da := da + (k : Int)) h1 hs h2 (pt := pt) (pt1 := pt) (fun _ _ => rfl) i2 (szn_ok hp k) n (Nat.le_refl n)
    rw [szn, szn]
    dsimp only
    rw [← i1, ← i3]
    exact ⟨rfl, hd.1, by rw [hd.2]⟩
def ssV (n : Nat) (kd sz cur : FI) (pt : Nat → Nat) (an : Nat) (da sd : Int) (pl : FI) (k : Nat) (v : Int) : Int := if v = 0 then (szn n kd sz cur pt an da sd pl k).2.2 else if v = 1 then prT (fun i j => bs ((szn n kd sz cur pt an da sd pl k).2.1 i) ((szn n kd sz cur pt an da sd pl k).2.1 j)) n n else (szn n kd sz cur pt an da sd pl k).1
theorem ssV_congr {n : Nat} {kd kd1 sz sz1 cur cur1 : FI} {pt : Nat → Nat} {an : Nat} {da sd : Int} {pl pl1 : FI} (h1 : eqn n kd kd1) (hs : eqn n sz sz1) (h2 : eqn 12 cur cur1) (h3 : eqn n pl pl1) (hp : plok n pl) (k : Nat) (v : Int) : ssV n kd sz cur pt an da sd pl k v = ssV n kd1 sz1 cur1 pt an da sd pl1 k v := by
  obtain ⟨i1, i2, i3⟩ := szn_congr (pt := pt) (an := an) (da := da) (sd := sd) h1 hs h2 h3 hp k
  unfold ssV
  rw [i1, i3, prT_congr (fun i j hi hj => by rw [i2 i hi, i2 j hj]) n (Nat.le_refl n)]
theorem ssV_rg {n : Nat} {kd sz cur : FI} {pt : Nat → Nat} {an : Nat} {da sd : Int} {pl : FI} (hn : n ≤ 5) (h : 0 ≤ sd ∧ sd < 2147483648) (hp : plok n pl) {k : Nat} (hk : k ≤ 60) (v : Int) : rg (ssV n kd sz cur pt an da sd pl k v) := by
  unfold ssV rg
  split
  · have := @szn_b n kd sz cur pt an da sd pl hn k
    omega
  · split
    · have h1 := prT_bs hn (szn_ok (kd := kd) (sz := sz) (cur := cur) (pt := pt) (an := an) (da := da) (sd := sd) hp k)
      have h2 := smu_nn (f := fun i => cnt (fun j => bs ((szn n kd sz cur pt an da sd pl k).2.1 i) ((szn n kd sz cur pt an da sd pl k).2.1 j)) n) (B := 5) n (fun i hi => by have := cnt_rg (fun j => bs ((szn n kd sz cur pt an da sd pl k).2.1 i) ((szn n kd sz cur pt an da sd pl k).2.1 j)) n; omega)
      omega
    · have := @szn_rg n kd sz cur pt an da sd pl h k
      omega
theorem mst_14 (g : Nat → Nat → Int) (q : FI) (an wi da z : Int) : gr (mst g q an wi da) 39 (iu ((mst g q an wi da) 39) 14 z) = mst g q an z da := by
  unfold mst
  rw [gr_gr, gr_s]
  congr 1
  funext k
  simp only [iu]
  by_cases h1 : k = 14
  · simp [h1]
  · simp [h1]
theorem mst_24 (g : Nat → Nat → Int) (q : FI) (an wi da z : Int) : gr (mst g q an wi da) 39 (iu ((mst g q an wi da) 39) 24 z) = mst (gr g 39 (iu (g 39) 24 z)) q an wi da := by
  unfold mst
  rw [gr_gr, gr_s, gr_sw (show (39 : Nat) ≠ 44 by decide), gr_s, gr_comm g _ _ (show (39 : Nat) ≠ 44 by decide)]
  congr 1
  funext k
  simp only [iu]
  by_cases h1 : k = 24
  · simp [h1]
  · simp [h1]
theorem c_X3_seasons {zs : zzT} {d : Nat} {Q : zzQ} {g : Nat → Nat → Int} {hh : Int64} {n an : Nat} {pt : Nat → Nat} (hk : WK g 2 n an pt) (hz : zsok zs) (hs : g 0 2 = 0 ∨ g 0 2 = 1) {dy sd v : Int} (hr1 : rg dy) (hr2 : rg sd) (hr3 : rg v) (h1 : ¬ (1 ≤ dy ∧ dy ≤ 60 ∧ 0 ≤ sd ∧ 0 ≤ v ∧ v ≤ 2) → Q [.int (iI (-102))] (wof g hh)) (h2 : 1 ≤ dy ∧ dy ≤ 60 ∧ 0 ≤ sd ∧ 0 ≤ v ∧ v ≤ 2 → g 0 2 = 0 → Q [.int (iI (-103))] (wof g hh)) (h3 : 1 ≤ dy ∧ dy ≤ 60 ∧ 0 ≤ sd ∧ 0 ≤ v ∧ v ≤ 2 → g 0 2 ≠ 0 → ∀ g1, eqS scX g g1 → Q [.int (iI (ssV n (g 4) (g 5) (g 3) pt an (g 2 10) sd (g 6) dy.toNat v))] (wof g1 hh)) : zzCL zs (d + 5) 65 [.ref 0, .int (iI dy), .int (iI sd), .int (iI v)] (wof g hh) Q := by
  refine st_X3_seasons (Nat.le_of_ble_eq_true rfl) (fun R hR => ?_)
  show R 0 [(0, .ref 0), (1, .int (iI dy)), (2, .int (iI sd)), (3, .int (iI v))] [] _
  have hn5 := hk.1.2.1
  have han : an < 32 := Nat.lt_of_lt_of_le hk.2.2.2.1 (Nat.pow_le_pow_right (n := 2) (by decide) hn5)
  refine z_iload_n hR dX3_seasons_0 rfl rfl ?_
  refine g_iconst hR dX3_seasons_1 ?_
  refine g_icmp_lt hR (tgt := 24) dX3_seasons_2 (by decide) (fun c2 => ?_) (fun c2 => ?_)
  · refine g_bipush hR dX3_seasons_24 ?_
    refine g_iret hR dX3_seasons_26 rfl ?_
    exact h1 (by omega)
  · refine z_iload_n hR dX3_seasons_5 rfl rfl ?_
    refine g_bipush hR dX3_seasons_6 ?_
    refine g_icmp_gt hR (tgt := 24) dX3_seasons_8 (by decide) (fun c8 => ?_) (fun c8 => ?_)
    · refine g_bipush hR dX3_seasons_24 ?_
      refine g_iret hR dX3_seasons_26 rfl ?_
      exact h1 (by omega)
    · refine z_iload_n hR dX3_seasons_11 rfl rfl ?_
      refine g_if_lt hR (tgt := 24) dX3_seasons_12 (by decide) (fun c12 => ?_) (fun c12 => ?_)
      · refine g_bipush hR dX3_seasons_24 ?_
        refine g_iret hR dX3_seasons_26 rfl ?_
        exact h1 (by omega)
      · refine z_iload_n hR dX3_seasons_15 rfl rfl ?_
        refine g_if_lt hR (tgt := 24) dX3_seasons_16 (by decide) (fun c16 => ?_) (fun c16 => ?_)
        · refine g_bipush hR dX3_seasons_24 ?_
          refine g_iret hR dX3_seasons_26 rfl ?_
          exact h1 (by omega)
        · refine z_iload_n hR dX3_seasons_19 rfl rfl ?_
          refine g_iconst hR dX3_seasons_20 ?_
          refine g_icmp_le hR (tgt := 27) dX3_seasons_21 (by decide) (fun c21 => ?_) (fun c21 => ?_)
          · refine z_aload_n hR dX3_seasons_27 rfl rfl ?_
            refine g_get hR dX3_seasons_28 zf_3_17 (wk_0 _) rfl ?_
            refine g_if_ne hR (tgt := 37) dX3_seasons_31 (by decide) (fun c31 => ?_) (fun c31 => ?_)
            · have hA : 1 ≤ dy ∧ dy ≤ 60 ∧ 0 ≤ sd ∧ 0 ≤ v ∧ v ≤ 2 := by omega
              obtain ⟨D, rfl⟩ := Int.eq_ofNat_of_zero_le (show 0 ≤ dy by omega)
              have hsd : 0 ≤ sd ∧ sd < 2147483648 := by unfold rg at hr2; omega
              refine z_aload_n hR dX3_seasons_37 rfl rfl ?_
              refine g_get hR dX3_seasons_38 zf_3_40 (wk_0 _) (show _ = some (Value.ref 16) from rfl) ?_
              refine z_aload_n hR dX3_seasons_41 rfl rfl ?_
              refine g_get hR dX3_seasons_42 zf_3_33 (wk_0 _) (show _ = some (Value.ref 2) from rfl) ?_
              refine g_inv1 hR dX3_seasons_45 zm_3_198 (by decide) zN_X2_copy ((wk_16 _) _) zO_X2_copy (Nat.le_of_ble_eq_true rfl) ?_
              refine c_X2_copy isW16 isW2 (by decide) (fun g1 hc => ?_)
              show R 48 _ _ _
              have he := cpd_eqS hc
              obtain ⟨hk1, r2, r3, r1, r4, e8, e9, e10, e11⟩ := WK_cpd hk hc
              have hda := hk1.2.2.2.2.2.1
              have hV : ssV n (g 4) (g 5) (g 3) pt an (g 2 10) sd (g 6) ((D : Int).toNat) v = ssV n (g1 18) (g1 19) (g1 17) pt an (g1 16 10) sd (g1 20) D v := by
                rw [show g 2 10 = g1 16 10 from e10.symm, Int.toNat_natCast]
                exact (ssV_congr r2 r3 r1 r4 hk1.2.1 D v).symm
              have loop : ∀ (k i : Nat) (s : Int) (q : FI) (b B wi : Int), i ≤ D → D < i + k → ((s, q, b) = szn n (g1 18) (g1 19) (g1 17) pt an (g1 16 10) sd (g1 20) i) → R 57 [(0, .ref 0), (1, .int (iI (D : Int))), (2, .int (iI sd)), (3, .int (iI v)), (4, .int (iI s)), (5, .int (iI b)), (6, .int (iI (i : Int)))] [] (wof (dst g1 16 q (an : Int) wi B (g1 16 10 + (i : Int))) hh) := by
                intro k
                induction k with
                | zero => intro i; intros; omega
                | succ k ih =>
                  intro i s q b B wi hi1 hi2 hsq
                  have hqk : plok n q := by have h0 := szn_ok (kd := g1 18) (sz := g1 19) (cur := g1 17) (pt := pt) (an := an) (da := g1 16 10) (sd := sd) hk1.2.1 i; rw [← hsq] at h0; exact h0
                  have hsr : 0 ≤ s ∧ s < 2147483648 := by have h0 := szn_rg (n := n) (kd := g1 18) (sz := g1 19) (cur := g1 17) (pt := pt) (an := an) (da := g1 16 10) (pl := g1 20) hsd i; rw [← hsq] at h0; exact h0
                  refine z_iload hR dX3_seasons_57 rfl ?_
                  refine z_iload_n hR dX3_seasons_59 rfl rfl ?_
                  refine g_icmp_ge hR (tgt := 104) dX3_seasons_60 (by decide) (fun c60 => ?_) (fun c60 => ?_)
                  · have e : i = D := by omega
                    rw [e] at hsq
                    refine z_iload_n hR dX3_seasons_104 rfl rfl ?_
                    refine g_if_ne hR (tgt := 111) dX3_seasons_105 (by decide) (fun c105 => ?_) (fun c105 => ?_)
                    · refine z_iload_n hR dX3_seasons_111 rfl rfl ?_
                      refine g_iconst hR dX3_seasons_112 ?_
                      refine g_icmp_ne hR (tgt := 126) dX3_seasons_113 (by decide) (fun c113 => ?_) (fun c113 => ?_)
                      · refine z_iload hR dX3_seasons_126 rfl ?_
                        refine g_iret hR dX3_seasons_128 rfl ?_
                        refine qi (h3 hA c31 _ (dst_eqS he)) ?_
                        rw [hV, ssV, if_neg c105, ← hsq]
                        first | rw [if_pos c113] | rw [if_neg c113]
                      · refine z_aload_n hR dX3_seasons_116 rfl rfl ?_
                        refine g_get hR dX3_seasons_117 zf_3_40 (wk_0 _) (show _ = some (Value.ref 16) from rfl) ?_
                        refine g_inv0 hR dX3_seasons_120 zm_3_205 (by decide) zN_X2_pairsBeside ((wk_16 _) _) zO_X2_pairsBeside (Nat.le_of_ble_eq_true rfl) ?_
                        refine c_X2_pairsBeside isW16 (n := n) (by rw [dst_0]; exact hk1.1.1) hn5 (by rw [dst_4]; exact hqk) ?_
                        rw [dst_4]
                        show R 123 _ (.int _ :: _) _
                        refine z_goto hR (tgt := 128) dX3_seasons_123 (by decide) ?_
                        refine g_iret hR dX3_seasons_128 rfl ?_
                        refine qi (h3 hA c31 _ (dst_eqS he)) ?_
                        rw [hV, ssV, if_neg c105, ← hsq]
                        first | rw [if_pos c113] | rw [if_neg c113]
                    · refine z_iload hR dX3_seasons_108 rfl ?_
                      refine g_iret hR dX3_seasons_110 rfl ?_
                      refine qi (h3 hA c31 _ (dst_eqS he)) ?_
                      rw [hV, ssV, if_pos c105, ← hsq]
                  · have hns := nsd_rg s
                    refine z_iload hR dX3_seasons_63 rfl ?_
                    refine g_sta1 hR dX3_seasons_65 zm_3_202 zN_X3_nextSeed (Nat.le_of_ble_eq_true rfl) ?_
                    refine c_X3_nextSeed (by unfold rg; omega) ?_
                    show R 68 _ (.int _ :: _) _
                    refine z_istore hR dX3_seasons_68 (by decide) rfl ?_
                    refine z_aload_n hR dX3_seasons_70 rfl rfl ?_
                    refine g_get hR dX3_seasons_71 zf_3_40 (wk_0 _) (show _ = some (Value.ref 16) from rfl) ?_
                    refine z_iload hR dX3_seasons_74 rfl ?_
                    refine g_bipush hR dX3_seasons_76 ?_
                    refine g_ishr hR dX3_seasons_78 (show _ / 2 ^ (16 : Int).toNat = _ / 65536 from rfl) ?_
                    refine g_iconst hR dX3_seasons_79 ?_
                    refine g_irem hR dX3_seasons_80 rfl ?_
                    refine g_iconst hR dX3_seasons_81 ?_
                    refine g_isub hR dX3_seasons_82 rfl ?_
                    refine g_put hR dX3_seasons_83 zf_3_99 (wk_16 _) (Nat.le_of_ble_eq_true rfl) rfl rfl rfl rfl ?_
                    rw [dst_9]
                    refine z_iload hR dX3_seasons_86 rfl ?_
                    refine z_aload_n hR dX3_seasons_88 rfl rfl ?_
                    refine g_get hR dX3_seasons_89 zf_3_40 (wk_0 _) (show _ = some (Value.ref 16) from rfl) ?_
                    refine g_inv0 hR dX3_seasons_92 zm_3_162 (by decide) zN_X2_drift ((wk_16 _) _) zO_X2_drift (Nat.le_of_ble_eq_true rfl) ?_
                    refine c_drift isW16 hk1.1 hqk han (by omega) (by omega) hz hk1.2.2.2.2.2.2 ?_
                    show R 95 _ (.int _ :: _) _
                    refine g_iadd hR dX3_seasons_95 rfl ?_
                    refine z_istore hR dX3_seasons_96 (by decide) rfl ?_
                    refine g_iinc hR dX3_seasons_98 rfl rfl (by decide) rfl ?_
                    refine z_goto hR (tgt := 57) dX3_seasons_101 (by decide) ?_
                    have hst := ih (i + 1) (nsd s) (drf n (g1 18) (g1 19) (g1 17) pt an (nsd s / 65536 % 3 - 1) (g1 16 10 + (i : Int)) n q).1 (b + (drf n (g1 18) (g1 19) (g1 17) pt an (nsd s / 65536 % 3 - 1) (g1 16 10 + (i : Int)) n q).2) (B + (drf n (g1 18) (g1 19) (g1 17) pt an (nsd s / 65536 % 3 - 1) (g1 16 10 + (i : Int)) n q).2) (nsd s / 65536 % 3 - 1) (by omega) (by omega) (by rw [szn, ← hsq])
                    rw [show g1 16 10 + ((i + 1 : Nat) : Int) = g1 16 10 + (i : Int) + 1 by omega] at hst
                    exact hst
              refine z_iload_n hR dX3_seasons_48 rfl rfl ?_
              refine z_istore hR dX3_seasons_49 (by decide) rfl ?_
              refine g_iconst hR dX3_seasons_51 ?_
              refine z_istore hR dX3_seasons_52 (by decide) rfl ?_
              refine g_iconst hR dX3_seasons_54 ?_
              refine z_istore hR dX3_seasons_55 (by decide) rfl ?_
              have hl := loop (D + 1) 0 sd (g1 20) 0 (g1 16 11) (g1 16 9) (by omega) (by omega) rfl
              have ed : g1 = dst g1 16 (g1 20) (an : Int) (g1 16 9) (g1 16 11) (g1 16 10) := by
                have := (dst_self (g := g1) (a := 16)).symm
                rw [show g1 16 8 = (an : Int) from hk1.2.2.1] at this
                exact this
              rw [show g1 16 10 + ((0 : Nat) : Int) = g1 16 10 by simp, ← ed] at hl
              exact hl
            · refine g_bipush hR dX3_seasons_34 ?_
              refine g_iret hR dX3_seasons_36 rfl ?_
              exact h2 (by omega) c31
          · refine g_bipush hR dX3_seasons_24 ?_
            refine g_iret hR dX3_seasons_26 rfl ?_
            exact h1 (by omega)
theorem mst_eqM {g : Nat → Nat → Int} {q : FI} {an wi da : Int} (s : Int) : eqS scM g (mst (gr g 39 (iu (g 39) 24 s)) q an wi da) := by
  refine eqS.tr ?_ (mst_eqS _ _ _ _ _)
  refine eqS.gr eqS.rf (fun k hk => iu_n _ _ ?_)
  rintro rfl
  exact hk (by unfold scM; omega)
theorem c_X4_seasons {zs : zzT} {d : Nat} {Q : zzQ} {g : Nat → Nat → Int} {hh : Int64} {n m : Nat} {ea eb : Nat → Nat} (hp : MP g n m ea eb) (hs : g 39 2 = 0 ∨ g 39 2 = 1) {dy sd v : Int} (hr1 : rg dy) (hr2 : rg sd) (hr3 : rg v) (h1 : ¬ (1 ≤ dy ∧ dy ≤ 60 ∧ 0 ≤ sd ∧ 0 ≤ v ∧ v ≤ 2) → Q [.int (iI (-102))] (wof g hh)) (h2 : 1 ≤ dy ∧ dy ≤ 60 ∧ 0 ≤ sd ∧ 0 ≤ v ∧ v ≤ 2 → g 39 2 = 0 → Q [.int (iI (-103))] (wof g hh)) (h3 : 1 ≤ dy ∧ dy ≤ 60 ∧ 0 ≤ sd ∧ 0 ≤ v ∧ v ≤ 2 → g 39 2 ≠ 0 → ∀ g1, eqS scM g g1 → Q [.int (iI (ssV n (kdM g) (szM g) (g 41) (pby ea eb lfa m) (anb g n) (g 39 4) sd (nwr g n) dy.toNat v))] (wof g1 hh)) : zzCL zs (d + 5) 125 [.ref 39, .int (iI dy), .int (iI sd), .int (iI v)] (wof g hh) Q := by
  refine st_X4_seasons (Nat.le_of_ble_eq_true rfl) (fun R hR => ?_)
  show R 0 [(0, .ref 39), (1, .int (iI dy)), (2, .int (iI sd)), (3, .int (iI v))] [] _
  have hn5 := hp.2.1
  have han : anb g n < 32 := Nat.lt_of_lt_of_le (anb_lt g n) (Nat.pow_le_pow_right (n := 2) (by decide) hn5)
  have hda := hp.2.2.2.2.2.2.2.2.1
  have hr := hp.2.2.2.2.2.2.2.2.2
  refine z_iload_n hR dX4_seasons_0 rfl rfl ?_
  refine g_i2l hR dX4_seasons_1 ?_
  refine z_lconst hR (v := lI 1) dX4_seasons_2 (by decide) ?_
  refine z_ldc2 hR dX4_seasons_3 zk_4_222 ?_
  rw [show (60 : Int64) = lI (60) from by decide]
  refine g_sta3 hR dX4_seasons_6 zm_4_52 zN_X4_in (Nat.le_of_ble_eq_true rfl) ?_
  refine c_X4_in (by first | assumption | (unfold rg; omega)) (by unfold rg; omega) (by unfold rg; omega) ?_
  show R 9 _ (.int _ :: _) _
  refine g_if_eqb hR (tgt := 28) dX4_seasons_9 (by decide) (fun c9 => ?_) (fun c9 => ?_)
  · have c9 := of_decide_eq_false c9
    refine g_bipush hR dX4_seasons_28 ?_
    refine g_iret hR dX4_seasons_30 rfl ?_
    exact h1 (by omega)
  · have c9 := of_decide_eq_true c9
    refine z_iload_n hR dX4_seasons_12 rfl rfl ?_
    refine g_if_lt hR (tgt := 28) dX4_seasons_13 (by decide) (fun c13 => ?_) (fun c13 => ?_)
    · refine g_bipush hR dX4_seasons_28 ?_
      refine g_iret hR dX4_seasons_30 rfl ?_
      exact h1 (by omega)
    · refine z_iload_n hR dX4_seasons_16 rfl rfl ?_
      refine g_i2l hR dX4_seasons_17 ?_
      refine z_lconst hR (v := lI 0) dX4_seasons_18 (by decide) ?_
      refine z_ldc2 hR dX4_seasons_19 zk_4_224 ?_
      rw [show (2 : Int64) = lI (2) from by decide]
      refine g_sta3 hR dX4_seasons_22 zm_4_52 zN_X4_in (Nat.le_of_ble_eq_true rfl) ?_
      refine c_X4_in (by first | assumption | (unfold rg; omega)) (by unfold rg; omega) (by unfold rg; omega) ?_
      show R 25 _ (.int _ :: _) _
      refine g_if_neb hR (tgt := 31) dX4_seasons_25 (by decide) (fun c25 => ?_) (fun c25 => ?_)
      · have c25 := of_decide_eq_true c25
        refine z_aload_n hR dX4_seasons_31 rfl rfl ?_
        refine g_get hR dX4_seasons_32 zf_4_63 (wk_39 _) rfl ?_
        refine g_if_ne hR (tgt := 41) dX4_seasons_35 (by decide) (fun c35 => ?_) (fun c35 => ?_)
        · have hA : 1 ≤ dy ∧ dy ≤ 60 ∧ 0 ≤ sd ∧ 0 ≤ v ∧ v ≤ 2 := by omega
          obtain ⟨D, rfl⟩ := Int.eq_ofNat_of_zero_le (show 0 ≤ dy by omega)
          have hsd : 0 ≤ sd ∧ sd < 2147483648 := by unfold rg at hr2; omega
          have loop : ∀ (k i : Nat) (s : Int) (q : FI) (b wi : Int), i ≤ D → D < i + k → ((s, q, b) = szn n (kdM g) (szM g) (g 41) (pby ea eb lfa m) (anb g n) (g 39 4) sd (nwr g n) i) → R 56 [(0, .ref 39), (1, .int (iI (D : Int))), (2, .int (iI sd)), (3, .int (iI v)), (4, .int (iI b)), (5, .int (iI (i : Int)))] [] (wof (mst (gr g 39 (iu (g 39) 24 s)) q ((anb g n : Nat) : Int) wi (g 39 4 + (i : Int))) hh) := by
            intro k
            induction k with
            | zero => intro i; intros; omega
            | succ k ih =>
              intro i s q b wi hi1 hi2 hsq
              have hqk : plok n q := by have h0 := szn_ok (kd := kdM g) (sz := szM g) (cur := g 41) (pt := pby ea eb lfa m) (an := anb g n) (da := g 39 4) (sd := sd) (nwr_ok hp.2.2.2.2.2.1) i; rw [← hsq] at h0; exact h0
              have hsr : 0 ≤ s ∧ s < 2147483648 := by have h0 := szn_rg (n := n) (kd := kdM g) (sz := szM g) (cur := g 41) (pt := pby ea eb lfa m) (an := anb g n) (da := g 39 4) (pl := nwr g n) hsd i; rw [← hsq] at h0; exact h0
              refine z_iload hR dX4_seasons_56 rfl ?_
              refine z_iload_n hR dX4_seasons_58 rfl rfl ?_
              refine g_icmp_ge hR (tgt := 88) dX4_seasons_59 (by decide) (fun c59 => ?_) (fun c59 => ?_)
              · have e : i = D := by omega
                rw [e] at hsq
                obtain ⟨da1, hda1⟩ : ∃ da1, da1 = g 39 4 + (i : Int) := ⟨_, rfl⟩
                rw [← hda1]
                refine g_iconst hR dX4_seasons_88 ?_
                refine z_istore hR dX4_seasons_89 (by decide) rfl ?_
                refine g_iconst hR dX4_seasons_91 ?_
                refine z_istore hR dX4_seasons_92 (by decide) rfl ?_
                have lp1 : ∀ (kt t : Nat) (P : Int), t ≤ n → n < t + kt → (P = prT (fun i j => bs (q i) (q j)) n t) → R 94 [(0, .ref 39), (1, .int (iI (D : Int))), (2, .int (iI sd)), (3, .int (iI v)), (4, .int (iI b)), (5, .int (iI P)), (6, .int (iI (t : Int)))] [] (wof (mst (gr g 39 (iu (g 39) 24 s)) q ((anb g n : Nat) : Int) wi da1) hh) := by
                  intro kt
                  induction kt with
                  | zero => intro t; intros; omega
                  | succ kt iht =>
                    intro t P ht1 ht2 hP
                    refine z_iload hR dX4_seasons_94 rfl ?_
                    refine z_aload_n hR dX4_seasons_96 rfl rfl ?_
                    refine g_get hR dX4_seasons_97 zf_4_76 (wk_39 _) (gi (show (mst (gr g 39 (iu (g 39) 24 s)) q ((anb g n : Nat) : Int) wi da1) 39 8 = (n : Int) from hp.1)) ?_
                    refine g_icmp_ge hR (tgt := 160) dX4_seasons_100 (by decide) (fun c100 => ?_) (fun c100 => ?_)
                    · have et : t = n := by omega
                      rw [et] at hP
                      refine z_iload_n hR dX4_seasons_160 rfl rfl ?_
                      refine g_if_ne hR (tgt := 169) dX4_seasons_161 (by decide) (fun c161 => ?_) (fun c161 => ?_)
                      · refine z_iload_n hR dX4_seasons_169 rfl rfl ?_
                        refine g_iconst hR dX4_seasons_170 ?_
                        refine g_icmp_ne hR (tgt := 179) dX4_seasons_171 (by decide) (fun c171 => ?_) (fun c171 => ?_)
                        · refine z_aload_n hR dX4_seasons_179 rfl rfl ?_
                          refine g_get hR dX4_seasons_180 zf_4_214 (wk_39 _) (gi (show (mst (gr g 39 (iu (g 39) 24 s)) q ((anb g n : Nat) : Int) wi da1) 39 24 = s from rfl)) ?_
                          refine g_iret hR dX4_seasons_183 rfl ?_
                          first | exact qi (h3 hA c35 _ (mst_eqM s)) (by rw [Int.toNat_natCast, ssV, if_pos c161, ← hsq]) | exact qi (h3 hA c35 _ (mst_eqM s)) (by rw [Int.toNat_natCast, ssV, if_neg c161, if_pos c171, ← hsq]; exact hP) | exact qi (h3 hA c35 _ (mst_eqM s)) (by rw [Int.toNat_natCast, ssV, if_neg c161, if_neg c171, ← hsq])
                        · refine z_iload hR dX4_seasons_174 rfl ?_
                          refine z_goto hR (tgt := 183) dX4_seasons_176 (by decide) ?_
                          refine g_iret hR dX4_seasons_183 rfl ?_
                          first | exact qi (h3 hA c35 _ (mst_eqM s)) (by rw [Int.toNat_natCast, ssV, if_pos c161, ← hsq]) | exact qi (h3 hA c35 _ (mst_eqM s)) (by rw [Int.toNat_natCast, ssV, if_neg c161, if_pos c171, ← hsq]; exact hP) | exact qi (h3 hA c35 _ (mst_eqM s)) (by rw [Int.toNat_natCast, ssV, if_neg c161, if_neg c171, ← hsq])
                      · refine z_iload hR dX4_seasons_164 rfl ?_
                        refine z_goto hR (tgt := 183) dX4_seasons_166 (by decide) ?_
                        refine g_iret hR dX4_seasons_183 rfl ?_
                        first | exact qi (h3 hA c35 _ (mst_eqM s)) (by rw [Int.toNat_natCast, ssV, if_pos c161, ← hsq]) | exact qi (h3 hA c35 _ (mst_eqM s)) (by rw [Int.toNat_natCast, ssV, if_neg c161, if_pos c171, ← hsq]; exact hP) | exact qi (h3 hA c35 _ (mst_eqM s)) (by rw [Int.toNat_natCast, ssV, if_neg c161, if_neg c171, ← hsq])
                    · have htn : t < n := by omega
                      refine z_iload hR dX4_seasons_103 rfl ?_
                      refine g_iconst hR dX4_seasons_105 ?_
                      refine g_iadd hR dX4_seasons_106 (nadd _ 1) ?_
                      refine z_istore hR dX4_seasons_107 (by decide) rfl ?_
                      have lp2 : ∀ (ku u : Nat) (P : Int), u ≤ n → n < u + ku → (t < u) → (P = prT (fun i j => bs (q i) (q j)) n t + rwp (fun i j => bs (q i) (q j)) t u) → R 109 [(0, .ref 39), (1, .int (iI (D : Int))), (2, .int (iI sd)), (3, .int (iI v)), (4, .int (iI b)), (5, .int (iI P)), (6, .int (iI (t : Int))), (7, .int (iI (u : Int)))] [] (wof (mst (gr g 39 (iu (g 39) 24 s)) q ((anb g n : Nat) : Int) wi da1) hh) := by
                        intro ku
                        induction ku with
                        | zero => intro u; intros; omega
                        | succ ku ihu =>
                          intro u P hu1 hu2 htu hP
                          refine z_iload hR dX4_seasons_109 rfl ?_
                          refine z_aload_n hR dX4_seasons_111 rfl rfl ?_
                          refine g_get hR dX4_seasons_112 zf_4_76 (wk_39 _) (gi (show (mst (gr g 39 (iu (g 39) 24 s)) q ((anb g n : Nat) : Int) wi da1) 39 8 = (n : Int) from hp.1)) ?_
                          refine g_icmp_ge hR (tgt := 154) dX4_seasons_115 (by decide) (fun c115 => ?_) (fun c115 => ?_)
                          · refine g_iinc hR dX4_seasons_154 rfl rfl (by decide) rfl ?_
                            refine z_goto hR (tgt := 94) dX4_seasons_157 (by decide) ?_
                            refine z_sub hR [0, 1, 2, 3, 4, 5, 6] rfl ?_
                            have eu : u = n := by omega
                            refine iht (t + 1) P (by omega) (by omega) ?_
                            rw [prT, hP, eu]
                          · have hun : u < n := by omega
                            have hqu := hqk u hun
                            have hqt := hqk t htn
                            refine z_iload hR dX4_seasons_118 rfl ?_
                            refine z_aload_n hR dX4_seasons_120 rfl rfl ?_
                            refine g_get hR dX4_seasons_121 zf_4_22 (wk_39 _) (show _ = some (Value.ref 44) from rfl) ?_
                            refine z_iload hR dX4_seasons_124 rfl ?_
                            refine g_ialdN hR dX4_seasons_126 (wk_44 _) (show (mst (gr g 39 (iu (g 39) 24 s)) q ((anb g n : Nat) : Int) wi da1) 44 t = q t from rfl) ?_
                            refine z_aload_n hR dX4_seasons_127 rfl rfl ?_
                            refine g_get hR dX4_seasons_128 zf_4_22 (wk_39 _) (show _ = some (Value.ref 44) from rfl) ?_
                            refine z_iload hR dX4_seasons_131 rfl ?_
                            refine g_ialdN hR dX4_seasons_133 (wk_44 _) (show (mst (gr g 39 (iu (g 39) 24 s)) q ((anb g n : Nat) : Int) wi da1) 44 u = q u from rfl) ?_
                            refine g_sta2 hR dX4_seasons_134 zm_4_132 zN_X4_areBeside (Nat.le_of_ble_eq_true rfl) ?_
                            refine c_X4_areBeside hqt hqu ?_
                            show R 137 _ (.int _ :: _) _
                            refine g_if_eqb hR (tgt := 144) dX4_seasons_137 (by decide) (fun c137 => ?_) (fun c137 => ?_)
                            · refine g_iconst hR dX4_seasons_144 ?_
                              refine g_iadd hR dX4_seasons_145 rfl ?_
                              refine z_istore hR dX4_seasons_146 (by decide) rfl ?_
                              refine g_iinc hR dX4_seasons_148 rfl rfl (by decide) rfl ?_
                              refine z_goto hR (tgt := 109) dX4_seasons_151 (by decide) ?_
                              refine ihu (u + 1) _ (by omega) (by omega) (by omega) ?_
                              rw [rwp, if_pos (by omega), c137]
                              simp [b2i, hP]; try omega
                            · refine g_iconst hR dX4_seasons_140 ?_
                              refine z_goto hR (tgt := 145) dX4_seasons_141 (by decide) ?_
                              refine g_iadd hR dX4_seasons_145 rfl ?_
                              refine z_istore hR dX4_seasons_146 (by decide) rfl ?_
                              refine g_iinc hR dX4_seasons_148 rfl rfl (by decide) rfl ?_
                              refine z_goto hR (tgt := 109) dX4_seasons_151 (by decide) ?_
                              refine ihu (u + 1) _ (by omega) (by omega) (by omega) ?_
                              rw [rwp, if_pos (by omega), c137]
                              simp [b2i, hP]; try omega
                      exact lp2 (n + 1) (t + 1) P (by omega) (by omega) (by omega) (by rw [rwp_0 _ _ _ (Nat.le_refl _)]; omega)
                exact lp1 (n + 1) 0 0 (by omega) (by omega) rfl
              · have hns := nsd_rg s
                refine z_aload_n hR dX4_seasons_62 rfl rfl ?_
                refine z_aload_n hR dX4_seasons_63 rfl rfl ?_
                refine g_iconst hR dX4_seasons_64 ?_
                refine g_inv1 hR dX4_seasons_65 zm_4_226 (by decide) zN_X4_draw ((wk_39 _) _) zO_X4_draw (Nat.le_of_ble_eq_true rfl) ?_
                refine c_X4_draw (s := s) (show (mst (gr g 39 (iu (g 39) 24 s)) q ((anb g n : Nat) : Int) wi (g 39 4 + (i : Int))) 39 24 = s from rfl) (by unfold rg; omega) ?_
                rw [mst_24, gr_gr, gr_s, iu_iu]
                show R 68 _ (.int _ :: _) _
                refine g_iconst hR dX4_seasons_68 ?_
                refine g_isub hR dX4_seasons_69 rfl ?_
                refine g_put hR dX4_seasons_70 zf_4_110 (wk_39 _) (Nat.le_of_ble_eq_true rfl) rfl rfl rfl rfl ?_
                rw [mst_14]
                refine z_iload hR dX4_seasons_73 rfl ?_
                refine z_aload_n hR dX4_seasons_75 rfl rfl ?_
                refine g_inv0 hR dX4_seasons_76 zm_4_154 (by decide) zN_X4_passes ((wk_39 _) _) zO_X4_passes (Nat.le_of_ble_eq_true rfl) ?_
                refine c_X4_passes (mst_md (g := gr g 39 (iu (g 39) 24 (nsd s))) (an := anb g n) hp hqk han (by omega) (by omega)) (mst_mr hr) ?_
                rw [mst_pass]
                show R 79 _ (.int _ :: _) _
                refine g_iadd hR dX4_seasons_79 rfl ?_
                refine z_istore hR dX4_seasons_80 (by decide) rfl ?_
                refine g_iinc hR dX4_seasons_82 rfl rfl (by decide) rfl ?_
                refine z_goto hR (tgt := 56) dX4_seasons_85 (by decide) ?_
                have hst := ih (i + 1) (nsd s) (drf n (kdM g) (szM g) (g 41) (pby ea eb lfa m) (anb g n) (nsd s / 65536 % 3 - 1) (g 39 4 + (i : Int)) n q).1 (b + (drf n (kdM g) (szM g) (g 41) (pby ea eb lfa m) (anb g n) (nsd s / 65536 % 3 - 1) (g 39 4 + (i : Int)) n q).2) (nsd s / 65536 % 3 - 1) (by omega) (by omega) (by rw [szn, ← hsq])
                rw [show g 39 4 + ((i + 1 : Nat) : Int) = g 39 4 + (i : Int) + 1 by omega] at hst
                exact hst
          refine z_aload_n hR dX4_seasons_41 rfl rfl ?_
          refine g_inv0 hR dX4_seasons_42 zm_4_139 (by decide) zN_X4_asItIs ((wk_39 _) _) zO_X4_asItIs (Nat.le_of_ble_eq_true rfl) ?_
          refine c_X4_asItIs hp.1 hp.2.1 hp.2.2.2.2.2.2.1 ?_
          show R 45 _ _ _
          rw [show gr (gr g 44 (nwr g n)) 39 (iu (iu (iu (g 39) 13 ((anb g n : Nat) : Int)) 14 (g 39 3)) 15 (g 39 4)) = mst g (nwr g n) ((anb g n : Nat) : Int) (g 39 3) (g 39 4) from rfl]
          refine z_aload_n hR dX4_seasons_45 rfl rfl ?_
          refine z_iload_n hR dX4_seasons_46 rfl rfl ?_
          refine g_put hR dX4_seasons_47 zf_4_214 (wk_39 _) (Nat.le_of_ble_eq_true rfl) rfl rfl rfl rfl ?_
          rw [mst_24]
          refine g_iconst hR dX4_seasons_50 ?_
          refine z_istore hR dX4_seasons_51 (by decide) rfl ?_
          refine g_iconst hR dX4_seasons_53 ?_
          refine z_istore hR dX4_seasons_54 (by decide) rfl ?_
          have hl := loop (D + 1) 0 sd (nwr g n) 0 (g 39 3) (by omega) (by omega) rfl
          rw [show g 39 4 + ((0 : Nat) : Int) = g 39 4 by simp] at hl
          exact hl
        · refine g_bipush hR dX4_seasons_38 ?_
          refine g_iret hR dX4_seasons_40 rfl ?_
          exact h2 (by omega) c35
      · have c25 := of_decide_eq_false c25
        refine g_bipush hR dX4_seasons_28 ?_
        refine g_iret hR dX4_seasons_30 rfl ?_
        exact h1 (by omega)
theorem ssV_both {g : Nat → Nat → Int} {n m an c : Nat} {rp ea eb : Nat → Nat} (hcu : RCur g) (h : SS n m an rp ea eb (g 2) (g 4) (g 5) (g 6) (g 7) (g 8) (g 39 8) (g 39 9) (g 39 3) (g 39 4) (g 39 5) (g 42) (g 43) c) (sd : Int) (k : Nat) (v : Int) : ssV n (g 4) (g 5) (g 3) (pby ea eb lfa m) an (g 2 10) sd (g 6) k v = ssV n (kdM g) (szM g) (g 41) (pby ea eb lfa m) (anb g n) (g 39 4) sd (nwr g n) k v := by
  obtain ⟨e1, e2, e3⟩ := SS_eqn h
  rw [show g 2 10 = g 39 4 from h.2.2.2.2.1.1, show an = anb g n from h.2.2.1.2]
  exact ssV_congr e1 e2 (fun j hj => (hcu j hj).1) e3 (fun j hj => (h.2.2.2.2.2.2.1 j hj).2.2.1.2) k v
theorem ssVM_X {g g1 : Nat → Nat → Int} (h : eqS scX g g1) (n m : Nat) (ea eb : Nat → Nat) (sd : Int) (k : Nat) (v : Int) : ssV n (kdM g1) (szM g1) (g1 41) (pby ea eb lfa m) (anb g1 n) (g1 39 4) sd (nwr g1 n) k v = ssV n (kdM g) (szM g) (g 41) (pby ea eb lfa m) (anb g n) (g 39 4) sd (nwr g n) k v := by
  unfold kdM szM anb nwr
  rw [eqX h 39 (by omega), eqX h 41 (by omega), eqX h 42 (by omega), eqX h 44 (by omega)]
theorem op_seasons {zs : zzT} {c : Nat} {g : Nat → Nat → Int} {hh : Int64} (hz : zsok zs) (h : Rel c g) (hc : c < 512) {dy sd v : Int} (hr1 : rg dy) (hr2 : rg sd) (hr3 : rg v) : opOK zs 65 125 [.ref 0, .int (iI dy), .int (iI sd), .int (iI v)] [.ref 39, .int (iI dy), .int (iI sd), .int (iI v)] c g hh := by
  obtain ⟨hc0, hpage, hnum, hcur, ⟨n, m, an, sn, rp, ea, eb, hS, hH⟩, himg⟩ := id h
  have hk := SS_WK hc0 hcur hS
  have hp := SS_MP hc0 hcur hS
  have hs1 : g 0 2 = 0 ∨ g 0 2 = 1 := by rw [hnum.1.1]; exact hnum.1.2
  have e02 := hnum.1.1
  by_cases hA : 1 ≤ dy ∧ dy ≤ 60 ∧ 0 ≤ sd ∧ 0 ≤ v ∧ v ≤ 2
  · by_cases hB : g 0 2 = 0
    · exact op_id (r := -103) (by unfold rg; omega) h hc (fun Q q => c_X3_seasons hk hz hs1 hr1 hr2 hr3 (fun x => absurd hA x) (fun _ _ => q) (fun _ x => absurd hB x)) (fun Q q => c_X4_seasons hp hnum.1.2 hr1 hr2 hr3 (fun x => absurd hA x) (fun _ _ => q) (fun _ x => absurd (e02 ▸ hB) x))
    · have hB2 : ¬ g 39 2 = 0 := e02 ▸ hB
      refine op_sc (r := ssV n (g 4) (g 5) (g 3) (pby ea eb lfa m) an (g 2 10) sd (g 6) dy.toNat v) (ssV_rg hk.1.2.1 (by unfold rg at hr2; omega) hk.2.1 (by omega) v) h hc (fun Q q => c_X3_seasons hk hz hs1 hr1 hr2 hr3 (fun x => absurd hA x) (fun _ x => absurd x hB) (fun _ _ g1 he => q g1 he)) (fun g1 hr he Q q => c_X4_seasons (MP_X he hp) (by rw [eqX he 39 (by omega)]; exact hnum.1.2) hr1 hr2 hr3 (fun x => absurd hA x) (fun _ x => absurd x (by rw [eqX he 39 (by omega)]; exact hB2)) (fun _ _ g2 he2 => ?_))
      rw [ssVM_X he, ← ssV_both hcur hS]
      exact q g2 he2
  · exact op_id (r := -102) (by unfold rg; omega) h hc (fun Q q => c_X3_seasons hk hz hs1 hr1 hr2 hr3 (fun _ => q) (fun x => absurd x hA) (fun x => absurd x hA)) (fun Q q => c_X4_seasons hp hnum.1.2 hr1 hr2 hr3 (fun _ => q) (fun x => absurd x hA) (fun x => absurd x hA))
