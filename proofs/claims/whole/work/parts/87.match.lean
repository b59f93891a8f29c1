def sv (g : Nat → Nat → Int) (a b : FI) : Nat → Nat → Int := gr (gr g 35 a) 36 b
theorem sv_35 (g : Nat → Nat → Int) (a b : FI) (i : Nat) (z : Int) : gr (sv g a b) 35 (iu ((sv g a b) 35) i z) = sv g (iu a i z) b := by
  show gr (sv g a b) 35 (iu a i z) = _
  unfold sv
  rw [gr_sw (show (35 : Nat) ≠ 36 by decide)]
theorem sv_36 (g : Nat → Nat → Int) (a b : FI) (i : Nat) (z : Int) : gr (sv g a b) 36 (iu ((sv g a b) 36) i z) = sv g a (iu b i z) := by
  show gr (sv g a b) 36 (iu b i z) = _
  unfold sv
  rw [gr_gr]
theorem w56 (W : Nat → Nat → Int) (x y : Int) : gr (gr W 34 (iu (W 34) 5 x)) 34 (iu ((gr W 34 (iu (W 34) 5 x)) 34) 6 y) = gr W 34 (iu (iu (W 34) 5 x) 6 y) := by rw [gr_gr, gr_s]
theorem eqX_gr {g g1 : Nat → Nat → Int} (h : eqS scX g g1) {a : Nat} {f : FI} (ha : (16 ≤ a ∧ a ≤ 22) ∨ (33 ≤ a ∧ a ≤ 38)) : eqS scX g (gr g1 a f) := eqS.gr h (fun k hk => absurd ha hk)
theorem prB_none {n : Nat} {r : FI} (h : ∀ j, j < n → r j = -1) : prB n r = 0 := by
  unfold prB
  have : ∀ m, m ≤ n → cnt (fun j => decide ((j : Int) < r j)) m = 0 := by
    intro m
    induction m with
    | zero => intro _; rfl
    | succ m ih => intro hm; rw [cnt, ih (by omega), decide_eq_false (by rw [h m (by omega)]; omega)]; rfl
  exact this n (Nat.le_refl n)
def S0 : MS := (0, -1, 0)
theorem c_X0_solve {zs : zzT} {d : Nat} {Q : zzQ} {gg : Nat → Nat → Int} {hh : Int64} {n : Nat} (hn : gg 2 6 = (n : Int)) (hn5 : n ≤ 5) (hsz : ∀ j, j < n → 1 ≤ gg 5 j ∧ gg 5 j ≤ 9) (hf : ∀ x y, x < n → y < n → -1 ≤ gg 33 (x * 5 + y) ∧ gg 33 (x * 5 + y) ≤ 1000) {mB : Nat → Nat → Bool} (hm : ∀ x y, x < n → y < n → mB x y = decide (gg 33 (x * 5 + y) ≠ -1 ∧ gg 33 (x * 5 + y) ≤ 30)) (hsy : ∀ a b, a < n → b < n → mB a b = mB b a) (hQ : ∀ g1, eqS scX gg g1 → g1 34 5 = (FF n mB (gg 5) S0 0 ((n + 1) ^ n)).1 → g1 34 6 = (FF n mB (gg 5) S0 0 ((n + 1) ^ n)).2.1 → BR n (g1 38) (FF n mB (gg 5) S0 0 ((n + 1) ^ n)) → Q [] (wof g1 hh)) : zzCL zs (d + 10) 49 [.ref 34, .ref 2, .ref 33] (wof gg hh) Q := by
  refine st_X0_solve (Nat.le_of_ble_eq_true rfl) (fun R hR => ?_)
  show R 0 [(0, .ref 34), (1, .ref 2), (2, .ref 33)] [] _
  have loop : ∀ (k i : Nat) (s5 s6 : FI), i ≤ n → n < i + k → (∀ j, j < i → s5 j = gg 5 j) → (∀ j, j < i → s6 j = ((bor (fun t => t) (mB j) n : Nat) : Int)) → R 10 [(0, .ref 34), (1, .ref 2), (2, .ref 33), (3, .int (iI (i : Int)))] [] (wof (sv (gr gg 34 (iu (gg 34) 4 (n : Int))) s5 s6) hh) := by
    intro k
    induction k with
    | zero => intro i; intros; omega
    | succ k ih =>
      intro i s5 s6 hi1 hi2 h5 h6
      refine z_iload_n hR dX0_solve_10 rfl rfl ?_
      refine z_aload_n hR dX0_solve_11 rfl rfl ?_
      refine g_get hR dX0_solve_12 zf_0_24 (wk_34 _) (gi (show (sv (gr gg 34 (iu (gg 34) 4 (n : Int))) s5 s6) 34 4 = (n : Int) from rfl)) ?_
      refine g_icmp_ge hR (tgt := 97) dX0_solve_15 (by decide) (fun c15 => ?_) (fun c15 => ?_)
      · have ein : i = n := by omega
        refine z_aload_n hR dX0_solve_97 rfl rfl ?_
        refine g_get hR dX0_solve_98 zf_0_18 (wk_34 _) (show _ = some (Value.ref 37) from rfl) ?_
        refine g_iconst hR dX0_solve_101 ?_
        refine g_sta2 hR dX0_solve_102 zm_0_38 zN_J7_fill_53178 (Nat.le_of_ble_eq_true rfl) ?_
        refine c_J7_fill (a := 37) (N := 5) (by decide) (wk_37 hh) ?_
        show R 105 _ _ _
        refine z_aload_n hR dX0_solve_105 rfl rfl ?_
        refine g_get hR dX0_solve_106 zf_0_21 (wk_34 _) (show _ = some (Value.ref 38) from rfl) ?_
        refine g_iconst hR dX0_solve_109 ?_
        refine g_sta2 hR dX0_solve_110 zm_0_38 zN_J7_fill_53178 (Nat.le_of_ble_eq_true rfl) ?_
        refine c_J7_fill (a := 38) (N := 5) (by decide) (wk_38 hh) ?_
        show R 113 _ _ _
        refine z_aload_n hR dX0_solve_113 rfl rfl ?_
        refine g_iconst hR dX0_solve_114 ?_
        refine g_put hR dX0_solve_115 zf_0_28 (wk_34 _) (Nat.le_of_ble_eq_true rfl) rfl rfl rfl rfl ?_
        refine z_aload_n hR dX0_solve_118 rfl rfl ?_
        refine g_iconst hR dX0_solve_119 ?_
        refine g_put hR dX0_solve_120 zf_0_31 (wk_34 _) (Nat.le_of_ble_eq_true rfl) rfl rfl rfl rfl ?_
        rw [w56]
        show R 123 _ _ (wof (xw (sv (gr gg 34 (iu (gg 34) 4 (n : Int))) s5 s6) (filI 5 (-1) (gg 37)) (filI 5 (-1) (gg 38)) S0.1 S0.2.1) hh)
        refine z_aload_n hR dX0_solve_123 rfl rfl ?_
        refine g_iconst hR dX0_solve_124 ?_
        refine g_iconst hR dX0_solve_125 ?_
        refine g_inv2 hR dX0_solve_126 zm_0_44 (by decide) zN_X0_goThrough ((wk_34 _) _) zO_X0_goThrough (Nat.le_of_ble_eq_true rfl) ?_
        have ed : d + 9 = d + (5 - n) + 4 + n := by omega
        rw [ed]
        have hX : MX (sv (gr gg 34 (iu (gg 34) 4 (n : Int))) s5 s6) n mB (gg 5) (fun j => bor (fun t => t) (mB j) n) := ⟨hn5, rfl, fun j hj => ⟨h5 j (by omega), hsz j hj⟩, fun j hj => ⟨h6 j (by omega), bor_lt (fun t ht => ht), fun t ht => ?_⟩, hsy⟩
        · have hgt := c_X0_goThrough (zs := zs) (hh := hh) hX n 0 (by omega) (d + (5 - n)) (filI 5 (-1) (gg 37)) (filI 5 (-1) (gg 38)) S0 0
          rw [prB_none (n := n) (r := filI 5 (-1) (gg 37)) (fun j hj => if_pos (by omega))] at hgt
          refine hgt _ (fun j hj => absurd hj (by omega)) (fun j hj => Or.inl (if_pos (by omega))) (fun j hj => ?_) (by unfold S0; dsimp only; omega) (fun b1 hb1 => ?_)
          · rw [if_pos (show S0.2.1 = -1 from rfl)]; exact if_pos (by omega)
          · rw [Nat.zero_mul] at hb1 ⊢
            show R 129 _ _ _
            refine g_vret hR dX0_solve_129 rfl ?_
            exact hQ _ (eqX_gr (eqX_gr (eqX_gr (eqX_gr (eqX_gr (eqX_gr eqS.rf (by omega)) (by omega)) (by omega)) (by omega)) (by omega)) (by omega)) rfl rfl hb1
        · have : (bor (fun t => t) (mB j) n).testBit t = true ↔ mB j t = true := by
            rw [bor_bit]
            exact ⟨fun ⟨k, _, b, e⟩ => e ▸ b, fun b => ⟨t, ht, b, rfl⟩⟩
          exact beq_of_iff this
      · have hin : i < n := by omega
        refine z_aload_n hR dX0_solve_18 rfl rfl ?_
        refine g_get hR dX0_solve_19 zf_0_9 (wk_34 _) (show _ = some (Value.ref 35) from rfl) ?_
        refine z_iload_n hR dX0_solve_22 rfl rfl ?_
        refine z_aload_n hR dX0_solve_23 rfl rfl ?_
        refine g_get hR dX0_solve_24 zf_0_37 (wk_2 _) (show _ = some (Value.ref 5) from rfl) ?_
        refine z_iload_n hR dX0_solve_27 rfl rfl ?_
        refine g_ialdN hR dX0_solve_28 (wk_5 _) (show (sv (gr gg 34 (iu (gg 34) 4 (n : Int))) s5 s6) 5 i = gg 5 i from rfl) ?_
        refine g_iastN hR dX0_solve_29 (wk_35 _) ?_
        rw [sv_35]
        obtain ⟨s7, h7⟩ : ∃ s7, s7 = iu s5 i (gg 5 i) := ⟨_, rfl⟩
        rw [← h7]
        have h5i : s7 i = gg 5 i := by rw [h7, iu_s]
        have h5 : ∀ j, j < i → s7 j = gg 5 j := fun j hj => by rw [h7, iu_n _ _ (by omega)]; exact h5 j hj
        refine z_aload_n hR dX0_solve_30 rfl rfl ?_
        refine g_get hR dX0_solve_31 zf_0_15 (wk_34 _) (show _ = some (Value.ref 36) from rfl) ?_
        refine z_iload_n hR dX0_solve_34 rfl rfl ?_
        refine g_iconst hR dX0_solve_35 ?_
        refine g_iastN hR dX0_solve_36 (wk_36 _) ?_
        rw [sv_36]
        refine g_iconst hR dX0_solve_37 ?_
        refine z_istore hR dX0_solve_38 (by decide) rfl ?_
        clear h7
        obtain ⟨s5, rfl⟩ : ∃ s, s = s7 := ⟨_, rfl⟩
        have lp2 : ∀ (ku u : Nat), u ≤ n → n < u + ku → R 40 [(0, .ref 34), (1, .ref 2), (2, .ref 33), (3, .int (iI (i : Int))), (4, .int (iI (u : Int)))] [] (wof (sv (gr gg 34 (iu (gg 34) 4 (n : Int))) s5 (iu s6 i ((bor (fun j => j) (mB i) u : Nat) : Int))) hh) := by
          intro ku
          induction ku with
          | zero => intro u; intros; omega
          | succ ku ihu =>
            intro u  hu1 hu2 
            refine z_iload hR dX0_solve_40 rfl ?_
            refine z_aload_n hR dX0_solve_42 rfl rfl ?_
            refine g_get hR dX0_solve_43 zf_0_24 (wk_34 _) (gi (show (sv (gr gg 34 (iu (gg 34) 4 (n : Int))) s5 (iu s6 i ((bor (fun j => j) (mB i) u : Nat) : Int))) 34 4 = (n : Int) from rfl)) ?_
            refine g_icmp_ge hR (tgt := 91) dX0_solve_46 (by decide) (fun c46 => ?_) (fun c46 => ?_)
            · refine g_iinc hR dX0_solve_91 rfl rfl (by decide) rfl ?_
              refine z_goto hR (tgt := 10) dX0_solve_94 (by decide) ?_
              refine z_sub hR [0, 1, 2, 3] rfl ?_
              have eu : u = n := by omega
              rw [eu]
              refine ih (i + 1) _ _ (by omega) (by omega) (fun j hj => ?_) (fun j hj => ?_)
              · rcases Nat.lt_or_eq_of_le (Nat.le_of_lt_succ hj) with z | z
                · exact h5 j z
                · rw [z]; exact h5i
              · rcases Nat.lt_or_eq_of_le (Nat.le_of_lt_succ hj) with z | z
                · rw [iu_n _ _ (by omega)]; exact h6 j z
                · rw [z, iu_s]
            · have hun : u < n := by omega
              have hfr := hf i u hin hun
              refine z_aload_n hR dX0_solve_49 rfl rfl ?_
              refine z_iload_n hR dX0_solve_50 rfl rfl ?_
              refine g_iconst hR dX0_solve_51 ?_
              refine g_imul hR dX0_solve_52 (nmul _ 5) ?_
              refine z_iload hR dX0_solve_53 rfl ?_
              refine g_iadd hR dX0_solve_55 (nadd _ _) ?_
              refine g_ialdN hR dX0_solve_56 (wk_33 _) (show (sv (gr gg 34 (iu (gg 34) 4 (n : Int))) s5 (iu s6 i ((bor (fun j => j) (mB i) u : Nat) : Int))) 33 (i * 5 + u) = gg 33 (i * 5 + u) from rfl) ?_
              refine z_istore hR dX0_solve_57 (by decide) rfl ?_
              refine z_iload hR dX0_solve_59 rfl ?_
              refine g_iconst hR dX0_solve_61 ?_
              refine g_icmp_eq hR (tgt := 85) dX0_solve_62 (by decide) (fun c62 => ?_) (fun c62 => ?_)
              · have hm1 : mB i u = false := by rw [hm i u hin hun]; exact decide_eq_false (fun z => z.1 c62)
                refine g_iinc hR dX0_solve_85 rfl rfl (by decide) rfl ?_
                refine z_goto hR (tgt := 40) dX0_solve_88 (by decide) ?_
                refine z_sub hR [0, 1, 2, 3, 4] rfl ?_
                have hst := ihu (u + 1) (by omega) (by omega)
                rw [bor, hm1] at hst
                first | (rw [sv_36, iu_iu]; exact hst) | exact hst
              · refine z_iload hR dX0_solve_65 rfl ?_
                refine g_bipush hR dX0_solve_67 ?_
                refine g_icmp_gt hR (tgt := 85) dX0_solve_69 (by decide) (fun c69 => ?_) (fun c69 => ?_)
                · have hm1 : mB i u = false := by rw [hm i u hin hun]; exact decide_eq_false (fun z => by omega)
                  refine g_iinc hR dX0_solve_85 rfl rfl (by decide) rfl ?_
                  refine z_goto hR (tgt := 40) dX0_solve_88 (by decide) ?_
                  refine z_sub hR [0, 1, 2, 3, 4] rfl ?_
                  have hst := ihu (u + 1) (by omega) (by omega)
                  rw [bor, hm1] at hst
                  first | (rw [sv_36, iu_iu]; exact hst) | exact hst
                · have hm1 : mB i u = true := by rw [hm i u hin hun]; exact decide_eq_true ⟨c62, by omega⟩
                  refine z_aload_n hR dX0_solve_72 rfl rfl ?_
                  refine g_get hR dX0_solve_73 zf_0_15 (wk_34 _) (show _ = some (Value.ref 36) from rfl) ?_
                  refine z_iload_n hR dX0_solve_76 rfl rfl ?_
                  refine z_dup2 hR dX0_solve_77 rfl rfl ?_
                  refine g_ialdN hR dX0_solve_78 (wk_36 _) (show (sv (gr gg 34 (iu (gg 34) 4 (n : Int))) s5 (iu s6 i ((bor (fun j => j) (mB i) u : Nat) : Int))) 36 i = ((bor (fun j => j) (mB i) u : Nat) : Int) from iu_s _ _ _) ?_
                  refine g_iconst hR dX0_solve_79 ?_
                  refine z_iload hR dX0_solve_80 rfl ?_
                  refine g_ishl hR dX0_solve_82 (p2n _) (p2b (by omega)) ?_
                  refine g_ior hR dX0_solve_83 ?_
                  refine g_iastN hR dX0_solve_84 (wk_36 _) ?_
                  refine g_iinc hR dX0_solve_85 rfl rfl (by decide) rfl ?_
                  refine z_goto hR (tgt := 40) dX0_solve_88 (by decide) ?_
                  refine z_sub hR [0, 1, 2, 3, 4] rfl ?_
                  have hst := ihu (u + 1) (by omega) (by omega)
                  rw [bor, hm1] at hst
                  first | (rw [sv_36, iu_iu]; exact hst) | exact hst
        exact lp2 (n + 1) 0 (by omega) (by omega)
  refine z_aload_n hR dX0_solve_0 rfl rfl ?_
  refine z_aload_n hR dX0_solve_1 rfl rfl ?_
  refine g_get hR dX0_solve_2 zf_0_34 (wk_2 _) (gi hn) ?_
  refine g_put hR dX0_solve_5 zf_0_24 (wk_34 _) (Nat.le_of_ble_eq_true rfl) rfl rfl rfl rfl ?_
  refine g_iconst hR dX0_solve_8 ?_
  refine z_istore_n hR dX0_solve_9 rfl (by decide) rfl ?_
  have hl := loop (n + 1) 0 (gg 35) (gg 36) (by omega) (by omega) (fun j hj => absurd hj (by omega)) (fun j hj => absurd hj (by omega))
  rw [show sv (gr gg 34 (iu (gg 34) 4 (n : Int))) (gg 35) (gg 36) = (gr gg 34 (iu (gg 34) 4 (n : Int))) from by unfold sv; rw [show gg 35 = (gr gg 34 (iu (gg 34) 4 (n : Int))) 35 from rfl, gr_self, show gg 36 = (gr gg 34 (iu (gg 34) 4 (n : Int))) 36 from rfl, gr_self]] at hl
  exact hl
def tlV (n : Nat) (S : MS) (v : Int) : Int := if v = 0 then S.1 else if v = 1 then (if S.2.1 = -1 then 0 else S.2.1) else if v - 10 < n ∧ S.2.1 ≠ -1 then hsc n S.2.2 (v - 10).toNat else -1
theorem tl_if {a : Int} {k n : Nat} {x : Int} (h : k < n) : (if a = -1 then -1 else x) = if (k : Int) < (n : Int) ∧ a ≠ -1 then x else -1 := by
  by_cases q : a = -1
  · rw [if_pos q, if_neg (fun z => z.2 q)]
  · rw [if_neg q, if_pos ⟨by omega, q⟩]
theorem tlV_rg {n : Nat} {S : MS} {v : Int} (hn : n ≤ 5) (h1 : 0 ≤ S.1 ∧ S.1 ≤ 100000) (h2 : -1 ≤ S.2.1 ∧ S.2.1 ≤ n) : rg (tlV n S v) := by
  unfold tlV rg
  split
  · omega
  · split
    · split <;> omega
    · split
      · have := dgt_rg n S.2.2 (n - 1 - (v - 10).toNat)
        unfold hsc
        omega
      · omega
theorem c_X3_matchesTell {zs : zzT} {d : Nat} {Q : zzQ} {gg : Nat → Nat → Int} {hh : Int64} {n : Nat} (hn : gg 2 6 = (n : Int)) (hn5 : n ≤ 5) {S : MS} (h5 : gg 34 5 = S.1) (h6 : gg 34 6 = S.2.1) (hB : BR n (gg 38) S) (hm : -1 ≤ S.2.1 ∧ S.2.1 ≤ n) {v : Int} (hv : v = 0 ∨ v = 1 ∨ (10 ≤ v ∧ v ≤ 14)) (hQ : Q [.int (iI (tlV n S v))] (wof gg hh)) : zzCL zs (d + 2) 54 [.ref 0, .int (iI v)] (wof gg hh) Q := by
  refine st_X3_matchesTell (Nat.le_of_ble_eq_true rfl) (fun R hR => ?_)
  show R 0 [(0, .ref 0), (1, .int (iI v))] [] _
  refine z_iload_n hR dX3_matchesTell_0 rfl rfl ?_
  refine g_if_ne hR (tgt := 12) dX3_matchesTell_1 (by decide) (fun c1 => ?_) (fun c1 => ?_)
  · refine z_iload_n hR dX3_matchesTell_12 rfl rfl ?_
    refine g_iconst hR dX3_matchesTell_13 ?_
    refine g_icmp_ne hR (tgt := 29) dX3_matchesTell_14 (by decide) (fun c14 => ?_) (fun c14 => ?_)
    · refine z_iload_n hR dX3_matchesTell_29 rfl rfl ?_
      refine g_bipush hR dX3_matchesTell_30 ?_
      refine g_isub hR dX3_matchesTell_32 rfl ?_
      refine z_istore_n hR dX3_matchesTell_33 rfl (by decide) rfl ?_
      refine z_aload_n hR dX3_matchesTell_34 rfl rfl ?_
      refine z_iload_n hR dX3_matchesTell_35 rfl rfl ?_
      refine g_inv1 hR dX3_matchesTell_36 zm_3_112 (by decide) zN_X3_isIsland ((wk_0 _) _) zO_X3_isIsland (Nat.le_of_ble_eq_true rfl) ?_
      refine c_X3_isIsland hn hn5 (by unfold rg; omega) ?_
      show R 39 _ (.int _ :: _) _
      refine g_if_eqb hR (tgt := 54) dX3_matchesTell_39 (by decide) (fun c39 => ?_) (fun c39 => ?_)
      · have c39 := of_decide_eq_false c39
        refine g_iconst hR dX3_matchesTell_54 ?_
        refine g_iret hR dX3_matchesTell_55 rfl ?_
        refine qi hQ ?_
        rw [tlV, if_neg c1, if_neg c14]
        first | (rw [if_neg (by omega)]; done) | (rw [hk, Int.toNat_natCast]; exact tl_if (by omega))
      · have c39 := of_decide_eq_true c39
        obtain ⟨k, hk⟩ := Int.eq_ofNat_of_zero_le c39.1
        have hkn : k < n := by omega
        rw [hk]
        refine z_aload_n hR dX3_matchesTell_42 rfl rfl ?_
        refine g_get hR dX3_matchesTell_43 zf_3_59 (wk_0 _) (show _ = some (Value.ref 34) from rfl) ?_
        refine g_get hR dX3_matchesTell_46 zf_3_258 (wk_34 _) (show _ = some (Value.ref 38) from rfl) ?_
        refine z_iload_n hR dX3_matchesTell_49 rfl rfl ?_
        refine g_ialdN hR dX3_matchesTell_50 (wk_38 _) (show gg 38 k = (if S.2.1 = -1 then -1 else hsc n S.2.2 k) from hB k hkn) ?_
        refine z_goto hR (tgt := 55) dX3_matchesTell_51 (by decide) ?_
        refine g_iret hR dX3_matchesTell_55 rfl ?_
        refine qi hQ ?_
        rw [tlV, if_neg c1, if_neg c14]
        first | (rw [if_neg (by omega)]; done) | (rw [hk, Int.toNat_natCast]; exact tl_if (by omega))
    · refine z_aload_n hR dX3_matchesTell_17 rfl rfl ?_
      refine g_get hR dX3_matchesTell_18 zf_3_59 (wk_0 _) (show _ = some (Value.ref 34) from rfl) ?_
      refine g_get hR dX3_matchesTell_21 zf_3_252 (wk_34 _) (gi h6) ?_
      refine g_iconst hR dX3_matchesTell_24 ?_
      refine g_mmx hR dX3_matchesTell_25 zx_3_255 rfl (Nat.le_of_ble_eq_true rfl) ?_
      refine g_iret hR dX3_matchesTell_28 rfl ?_
      refine qi hQ ?_
      rw [tlV, if_neg c1, if_pos c14]
      split <;> split <;> omega
  · refine z_aload_n hR dX3_matchesTell_4 rfl rfl ?_
    refine g_get hR dX3_matchesTell_5 zf_3_59 (wk_0 _) (show _ = some (Value.ref 34) from rfl) ?_
    refine g_get hR dX3_matchesTell_8 zf_3_249 (wk_34 _) (gi h5) ?_
    refine g_iret hR dX3_matchesTell_11 rfl ?_
    exact qi hQ (by rw [tlV, if_pos c1])
