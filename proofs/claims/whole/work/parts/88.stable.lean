/-- who would meet within thirty days -/
def mtM (n : Nat) (kd sz cur : FI) (pt : Nat → Nat) (an : Nat) (wi da : Int) (pl : FI) (i j : Nat) : Bool := decide (i ≠ j ∧ mtv n kd sz cur pt an wi da pl i j 30 ≠ -1)
theorem mtM_sym {n : Nat} {kd sz cur : FI} {pt : Nat → Nat} {an : Nat} {wi da : Int} {pl : FI} (a b : Nat) : mtM n kd sz cur pt an wi da pl a b = mtM n kd sz cur pt an wi da pl b a := by
  unfold mtM mtv
  rw [fm_congr (P1 := fun k => bs (trj n kd sz cur pt an wi da pl k b) (trj n kd sz cur pt an wi da pl k a)) 30 0 (fun j _ _ => bs_comm _ _)]
  refine beq_of_iff ?_
  rw [decide_eq_true_eq, decide_eq_true_eq]
  exact ⟨fun z => ⟨Ne.symm z.1, z.2⟩, fun z => ⟨Ne.symm z.1, z.2⟩⟩
theorem MT_mB {n : Nat} {kd sz cur : FI} {pt : Nat → Nat} {an : Nat} {wi da : Int} {pl : FI} {D : Nat} {f : FI} (h : MT n (trj n kd sz cur pt an wi da pl) D f) (hD : 30 ≤ D) : ∀ x y, x < n → y < n → mtM n kd sz cur pt an wi da pl x y = decide (f (x * 5 + y) ≠ -1 ∧ f (x * 5 + y) ≤ 30) := by
  intro x y hx hy
  unfold mtM mtv
  by_cases e : x = y
  · subst e
    rw [h.2 x hx, decide_eq_false (fun z => z.1 rfl), decide_eq_false (fun z => z.1 rfl)]
  · rw [h.1 x y hx hy e]
    have h1 := fm_ext (P := fun k => bs (trj n kd sz cur pt an wi da pl k x) (trj n kd sz cur pt an wi da pl k y)) (s := D) 30 0 hD
    have h2 := fm_rg (P := fun k => bs (trj n kd sz cur pt an wi da pl k x) (trj n kd sz cur pt an wi da pl k y)) 30 0
    by_cases q : fm (fun k => bs (trj n kd sz cur pt an wi da pl k x) (trj n kd sz cur pt an wi da pl k y)) 30 0 = -1
    · rw [decide_eq_false (fun z => z.2 q), decide_eq_false]
      have := h1.2 q
      omega
    · rw [decide_eq_true ⟨e, q⟩, decide_eq_true]
      have := h1.1 q
      omega
theorem c_X3_stable {zs : zzT} {d : Nat} {Q : zzQ} {g : Nat → Nat → Int} {hh : Int64} {n an : Nat} {pt : Nat → Nat} (hk : WK g 2 n an pt) (hz : zsok zs) (hs : g 0 2 = 0 ∨ g 0 2 = 1) {v : Int} (hr1 : rg v) (h1 : ¬ (v = 0 ∨ v = 1 ∨ (10 ≤ v ∧ v ≤ 14)) → Q [.int (iI (-102))] (wof g hh)) (h2 : (v = 0 ∨ v = 1 ∨ (10 ≤ v ∧ v ≤ 14)) → g 0 2 = 0 → Q [.int (iI (-103))] (wof g hh)) (h3 : (v = 0 ∨ v = 1 ∨ (10 ≤ v ∧ v ≤ 14)) → g 0 2 ≠ 0 → ∀ g1, eqS scX g g1 → Q [.int (iI (tlV n (FF n (mtM n (g 4) (g 5) (g 3) pt an (g 2 9) (g 2 10) (g 6)) (g 5) S0 0 ((n + 1) ^ n)) v))] (wof g1 hh)) : zzCL zs (d + 11) 45 [.ref 0, .int (iI v)] (wof g hh) Q := by
  refine st_X3_stable (Nat.le_of_ble_eq_true rfl) (fun R hR => ?_)
  show R 0 [(0, .ref 0), (1, .int (iI v))] [] _
  have hn5 := hk.1.2.1
  have hFr := (FF_rg (n := n) (mB := (mtM n (g 4) (g 5) (g 3) pt an (g 2 9) (g 2 10) (g 6))) (sz := g 5) (S := S0) (lo := 0) (by unfold S0; dsimp only; omega) ((n + 1) ^ n)).2
  have j34 : (v = 0 ∨ v = 1 ∨ (10 ≤ v ∧ v ≤ 14)) → R 34 [(0, .ref 0), (1, .int (iI v))] [] (wof g hh) := by
    intro hv
    refine z_aload_n hR dX3_stable_34 rfl rfl ?_
    refine g_get hR dX3_stable_35 zf_3_17 (wk_0 _) rfl ?_
    refine g_if_ne hR (tgt := 44) dX3_stable_38 (by decide) (fun c38 => ?_) (fun c38 => ?_)
    · refine z_aload_n hR dX3_stable_44 rfl rfl ?_
      refine g_bipush hR dX3_stable_45 ?_
      refine g_inv1 hR dX3_stable_47 zm_3_177 (by decide) zN_X3_meetAll ((wk_0 _) _) zO_X3_meetAll (Nat.le_of_ble_eq_true rfl) ?_
      refine c_X3_meetAll (D := 30) hk hz (by omega) (fun g1 he1 hm1 => ?_)
      show R 50 _ _ _
      refine z_aload_n hR dX3_stable_50 rfl rfl ?_
      refine g_get hR dX3_stable_51 zf_3_59 (wk_0 _) (show _ = some (Value.ref 34) from rfl) ?_
      refine z_aload_n hR dX3_stable_54 rfl rfl ?_
      refine g_get hR dX3_stable_55 zf_3_33 (wk_0 _) (show _ = some (Value.ref 2) from rfl) ?_
      refine z_aload_n hR dX3_stable_58 rfl rfl ?_
      refine g_get hR dX3_stable_59 zf_3_53 (wk_0 _) (show _ = some (Value.ref 33) from rfl) ?_
      refine g_inv2 hR dX3_stable_62 zm_3_181 (by decide) zN_X0_solve ((wk_34 _) _) zO_X0_solve (Nat.le_of_ble_eq_true rfl) ?_
      refine c_X0_solve (n := n) (gg := g1) (by rw [eqX he1 2 (by omega)]; exact hk.1.1) hn5 (by rw [eqX he1 5 (by omega)]; exact hk.1.2.2.2.2) (fun x y hx hy => by have := MT_rg hm1 x y hx hy; omega) (MT_mB hm1 (by omega)) (fun a b _ _ => mtM_sym a b) (fun g2 he2 h5 h6 hb => ?_)
      rw [eqX he1 5 (by omega)] at h5 h6 hb
      have he3 := he1.tr he2
      show R 65 _ _ _
      refine z_aload_n hR dX3_stable_65 rfl rfl ?_
      refine z_iload_n hR dX3_stable_66 rfl rfl ?_
      refine g_inv1 hR dX3_stable_67 zm_3_185 (by decide) zN_X3_matchesTell ((wk_0 _) _) zO_X3_matchesTell (Nat.le_of_ble_eq_true rfl) ?_
      refine c_X3_matchesTell (n := n) (by rw [eqX he3 2 (by omega)]; exact hk.1.1) hn5 h5 h6 hb hFr hv ?_
      show R 70 _ (.int _ :: _) _
      refine g_iret hR dX3_stable_70 rfl ?_
      exact h3 hv c38 g2 he3
    · refine g_bipush hR dX3_stable_41 ?_
      refine g_iret hR dX3_stable_43 rfl ?_
      exact h2 hv c38
  refine z_iload_n hR dX3_stable_0 rfl rfl ?_
  refine g_bipush hR dX3_stable_1 ?_
  refine g_icmp_lt hR (tgt := 16) dX3_stable_3 (by decide) (fun c3 => ?_) (fun c3 => ?_)
  · refine g_iconst hR dX3_stable_16 ?_
    refine z_istore_n hR dX3_stable_17 rfl (by decide) rfl ?_
    refine z_iload_n hR dX3_stable_18 rfl rfl ?_
    refine g_if_eq hR (tgt := 34) dX3_stable_19 (by decide) (fun c19 => ?_) (fun c19 => ?_)
    · refine z_sub hR [0, 1] rfl ?_
      exact j34 (by omega)
    · refine z_iload_n hR dX3_stable_22 rfl rfl ?_
      refine g_iconst hR dX3_stable_23 ?_
      refine g_icmp_eq hR (tgt := 34) dX3_stable_24 (by decide) (fun c24 => ?_) (fun c24 => ?_)
      · refine z_sub hR [0, 1] rfl ?_
        exact j34 (by omega)
      · refine z_iload_n hR dX3_stable_27 rfl rfl ?_
        refine g_if_ne hR (tgt := 34) dX3_stable_28 (by decide) (fun c28 => ?_) (fun c28 => ?_)
        · exact absurd rfl c28
        · refine g_bipush hR dX3_stable_31 ?_
          refine g_iret hR dX3_stable_33 rfl ?_
          exact h1 (by omega)
  · refine z_iload_n hR dX3_stable_6 rfl rfl ?_
    refine g_bipush hR dX3_stable_7 ?_
    refine g_icmp_ge hR (tgt := 16) dX3_stable_9 (by decide) (fun c9 => ?_) (fun c9 => ?_)
    · refine g_iconst hR dX3_stable_16 ?_
      refine z_istore_n hR dX3_stable_17 rfl (by decide) rfl ?_
      refine z_iload_n hR dX3_stable_18 rfl rfl ?_
      refine g_if_eq hR (tgt := 34) dX3_stable_19 (by decide) (fun c19 => ?_) (fun c19 => ?_)
      · refine z_sub hR [0, 1] rfl ?_
        exact j34 (by omega)
      · refine z_iload_n hR dX3_stable_22 rfl rfl ?_
        refine g_iconst hR dX3_stable_23 ?_
        refine g_icmp_eq hR (tgt := 34) dX3_stable_24 (by decide) (fun c24 => ?_) (fun c24 => ?_)
        · refine z_sub hR [0, 1] rfl ?_
          exact j34 (by omega)
        · refine z_iload_n hR dX3_stable_27 rfl rfl ?_
          refine g_if_ne hR (tgt := 34) dX3_stable_28 (by decide) (fun c28 => ?_) (fun c28 => ?_)
          · exact absurd rfl c28
          · refine g_bipush hR dX3_stable_31 ?_
            refine g_iret hR dX3_stable_33 rfl ?_
            exact h1 (by omega)
    · refine g_iconst hR dX3_stable_12 ?_
      refine z_goto hR (tgt := 17) dX3_stable_13 (by decide) ?_
      refine z_istore_n hR dX3_stable_17 rfl (by decide) rfl ?_
      refine z_iload_n hR dX3_stable_18 rfl rfl ?_
      refine g_if_eq hR (tgt := 34) dX3_stable_19 (by decide) (fun c19 => ?_) (fun c19 => ?_)
      · refine z_sub hR [0, 1] rfl ?_
        exact j34 (by omega)
      · refine z_iload_n hR dX3_stable_22 rfl rfl ?_
        refine g_iconst hR dX3_stable_23 ?_
        refine g_icmp_eq hR (tgt := 34) dX3_stable_24 (by decide) (fun c24 => ?_) (fun c24 => ?_)
        · refine z_sub hR [0, 1] rfl ?_
          exact j34 (by omega)
        · refine z_iload_n hR dX3_stable_27 rfl rfl ?_
          refine g_if_ne hR (tgt := 34) dX3_stable_28 (by decide) (fun c28 => ?_) (fun c28 => ?_)
          · refine z_sub hR [0, 1] rfl ?_
            exact j34 (by omega)
          · exact absurd c28 (by decide)
def scT (b k : Nat) : Prop := b = 44 ∨ (b = 39 ∧ (k = 13 ∨ k = 14 ∨ k = 15))
theorem scT_M {g g1 : Nat → Nat → Int} (h : eqS scT g g1) : eqS scM g g1 := fun b k q => h b k (fun z => q (by unfold scT at z; unfold scM; omega))
theorem mst_eqT (g : Nat → Nat → Int) (q : FI) (an wi da : Int) : eqS scT g (mst g q an wi da) := by
  unfold mst
  refine eqS.gr (eqS.gr eqS.rf (fun k hk => absurd (Or.inl rfl) hk)) (fun k hk => ?_)
  have h1 : k ≠ 13 := by rintro rfl; exact hk (Or.inr ⟨rfl, by omega⟩)
  have h2 : k ≠ 14 := by rintro rfl; exact hk (Or.inr ⟨rfl, by omega⟩)
  have h3 : k ≠ 15 := by rintro rfl; exact hk (Or.inr ⟨rfl, by omega⟩)
  rw [iu_n _ _ h3, iu_n _ _ h2, iu_n _ _ h1]
  rfl
theorem c_X4_meetBy2 {zs : zzT} {d : Nat} {Q : zzQ} {g : Nat → Nat → Int} {hh : Int64} {n m : Nat} {ea eb : Nat → Nat} (hp : MP g n m ea eb) {x y more most : Nat} (hx : x < n) (hy : y < n) (hmore : more < 2 ^ n) (hmost : most ≤ 60) (hQ : ∀ g1, eqS scT g g1 → Q [.int (iI (mtv n (kdM g) (szM g) (g 41) (pby ea eb lfa m) (anb g n ||| more) (g 39 3) (g 39 4) (nwr g n) x y most))] (wof g1 hh)) : zzCL zs (d + 5) 108 [.ref 39, .int (iI (x : Int)), .int (iI (y : Int)), .int (iI (more : Int)), .int (iI (most : Int))] (wof g hh) Q := by
  refine st_X4_meetBy (Nat.le_of_ble_eq_true rfl) (fun R hR => ?_)
  show R 0 [(0, .ref 39), (1, .int (iI (x : Int))), (2, .int (iI (y : Int))), (3, .int (iI (more : Int))), (4, .int (iI (most : Int)))] [] _
  have hn5 := hp.2.1
  have hwi := hp.2.2.2.2.2.2.2.1
  have hda := hp.2.2.2.2.2.2.2.2.1
  obtain ⟨an, hane⟩ : ∃ an, anb g n ||| more = an := ⟨_, rfl⟩
  rw [hane] at hQ
  have han : an < 32 := by rw [← hane]; exact Nat.lt_of_lt_of_le (Nat.or_lt_two_pow (anb_lt g n) hmore) (Nat.pow_le_pow_right (n := 2) (by decide) hn5)
  have hTok : ∀ i, plok n (trj n (kdM g) (szM g) (g 41) (pby ea eb lfa m) an (g 39 3) (g 39 4) (nwr g n) i) := trj_ok (nwr_ok hp.2.2.2.2.2.1)
  have hT0 : trj n (kdM g) (szM g) (g 41) (pby ea eb lfa m) an (g 39 3) (g 39 4) (nwr g n) 0 = nwr g n := rfl
  have hTs : ∀ i : Nat, trj n (kdM g) (szM g) (g 41) (pby ea eb lfa m) an (g 39 3) (g 39 4) (nwr g n) (i + 1) = (drf n (kdM g) (szM g) (g 41) (pby ea eb lfa m) an (g 39 3) (g 39 4 + (i : Int)) n (trj n (kdM g) (szM g) (g 41) (pby ea eb lfa m) an (g 39 3) (g 39 4) (nwr g n) i)).1 := fun _ => rfl
  unfold mtv at hQ
  generalize trj n (kdM g) (szM g) (g 41) (pby ea eb lfa m) an (g 39 3) (g 39 4) (nwr g n) = T at hTok hT0 hTs hQ
  obtain ⟨V, hVe⟩ : ∃ V, V = fm (fun k => bs (T k x) (T k y)) most 0 := ⟨_, rfl⟩
  rw [← hVe] at hQ
  have loop : ∀ (k i : Nat), i ≤ (most + 1) → (most + 1) < i + k → (i ≤ most → V = fm (fun k => bs (T k x) (T k y)) (most - i) i) → (i = most + 1 → V = -1) → R 17 [(0, .ref 39), (1, .int (iI (x : Int))), (2, .int (iI (y : Int))), (3, .int (iI (more : Int))), (4, .int (iI (most : Int))), (5, .int (iI (i : Int)))] [] (wof (mst g (T i) (an : Int) (g 39 3) (g 39 4 + (i : Int))) hh) := by
    intro k
    induction k with
    | zero => intro i; intros; omega
    | succ k ih =>
      intro i  hi1 hi2 hV1 hV2
      have hV := And.intro hV1 hV2
      refine z_iload hR dX4_meetBy_17 rfl ?_
      refine z_iload hR dX4_meetBy_19 rfl ?_
      refine g_icmp_gt hR (tgt := 57) dX4_meetBy_21 (by decide) (fun c21 => ?_) (fun c21 => ?_)
      · refine g_iconst hR dX4_meetBy_57 ?_
        refine g_iret hR dX4_meetBy_58 rfl ?_
        exact qi (hQ _ (mst_eqT _ _ _ _ _)) (hV.2 (by omega)).symm
      · have hxi := hTok i x hx
        have hyi := hTok i y hy
        refine z_aload_n hR dX4_meetBy_24 rfl rfl ?_
        refine g_get hR dX4_meetBy_25 zf_4_22 (wk_39 _) (show _ = some (Value.ref 44) from rfl) ?_
        refine z_iload_n hR dX4_meetBy_28 rfl rfl ?_
        refine g_ialdN hR dX4_meetBy_29 (wk_44 _) (show mst g (T i) (an : Int) (g 39 3) (g 39 4 + (i : Int)) 44 x = T i x from rfl) ?_
        refine z_aload_n hR dX4_meetBy_30 rfl rfl ?_
        refine g_get hR dX4_meetBy_31 zf_4_22 (wk_39 _) (show _ = some (Value.ref 44) from rfl) ?_
        refine z_iload_n hR dX4_meetBy_34 rfl rfl ?_
        refine g_ialdN hR dX4_meetBy_35 (wk_44 _) (show mst g (T i) (an : Int) (g 39 3) (g 39 4 + (i : Int)) 44 y = T i y from rfl) ?_
        refine g_sta2 hR dX4_meetBy_36 zm_4_132 zN_X4_areBeside (Nat.le_of_ble_eq_true rfl) ?_
        refine c_X4_areBeside hxi hyi ?_
        show R 39 _ (.int _ :: _) _
        refine g_if_eqb hR (tgt := 45) dX4_meetBy_39 (by decide) (fun c39 => ?_) (fun c39 => ?_)
        · refine z_aload_n hR dX4_meetBy_45 rfl rfl ?_
          refine g_inv0 hR dX4_meetBy_46 zm_4_154 (by decide) zN_X4_passes ((wk_39 _) _) zO_X4_passes (Nat.le_of_ble_eq_true rfl) ?_
          refine c_X4_passes (mst_md hp (hTok i) han ⟨hwi.1, hwi.2⟩ (by omega)) (mst_mr hp.2.2.2.2.2.2.2.2.2) ?_
          rw [mst_pass]
          show R 49 _ (.int _ :: _) _
          refine z_istore hR dX4_meetBy_49 (by decide) rfl ?_
          refine g_iinc hR dX4_meetBy_51 rfl rfl (by decide) rfl ?_
          refine z_goto hR (tgt := 17) dX4_meetBy_54 (by decide) ?_
          refine z_sub hR [0, 1, 2, 3, 4, 5] rfl ?_
          have hst := ih (i + 1) (by omega) (by omega) (fm_next (hV.1 (by omega)) (by omega) c39).1 (fm_next (hV.1 (by omega)) (by omega) c39).2
          rw [hTs i, show g 39 4 + ((i + 1 : Nat) : Int) = g 39 4 + (i : Int) + 1 by omega] at hst
          exact hst
        · refine z_iload hR dX4_meetBy_42 rfl ?_
          refine g_iret hR dX4_meetBy_44 rfl ?_
          exact qi (hQ _ (mst_eqT _ _ _ _ _)) (by rw [hV.1 (by omega), fm_here c39])
  refine z_aload_n hR dX4_meetBy_0 rfl rfl ?_
  refine g_inv0 hR dX4_meetBy_1 zm_4_139 (by decide) zN_X4_asItIs ((wk_39 _) _) zO_X4_asItIs (Nat.le_of_ble_eq_true rfl) ?_
  refine c_X4_asItIs hp.1 hp.2.1 hp.2.2.2.2.2.2.1 ?_
  show R 4 _ _ _
  refine z_aload_n hR dX4_meetBy_4 rfl rfl ?_
  refine z_dup hR dX4_meetBy_5 rfl ?_
  refine g_get hR dX4_meetBy_6 zf_4_107 (wk_39 _) (gi (show (gr (gr g 44 (nwr g n)) 39 (iu (iu (iu (g 39) 13 ((anb g n : Nat) : Int)) 14 (g 39 3)) 15 (g 39 4))) 39 13 = ((anb g n : Nat) : Int) from rfl)) ?_
  refine z_iload_n hR dX4_meetBy_9 rfl rfl ?_
  refine g_ior hR dX4_meetBy_10 ?_
  refine g_put hR dX4_meetBy_11 zf_4_107 (wk_39 _) (Nat.le_of_ble_eq_true rfl) rfl rfl rfl rfl ?_
  have e1 : gr (gr g 44 (nwr g n)) 39 (iu (iu (iu (g 39) 13 ((anb g n : Nat) : Int)) 14 (g 39 3)) 15 (g 39 4)) = mst g (nwr g n) ((anb g n : Nat) : Int) (g 39 3) (g 39 4) := rfl
  rw [e1, mst_as]
  rw [hane]
  refine g_iconst hR dX4_meetBy_14 ?_
  refine z_istore hR dX4_meetBy_15 (by decide) rfl ?_
  have hl := loop (most + 2) 0 (by omega) (by omega) (fun _ => hVe) (by omega)
  rw [hT0, show g 39 4 + ((0 : Nat) : Int) = g 39 4 by simp] at hl
  exact hl
theorem nmodI (a b : Nat) : (a : Int) % ((b : Int) + 1) = ((a % (b + 1) : Nat) : Int) := rfl
theorem ndivI (a b : Nat) : (a : Int) / ((b : Int) + 1) = ((a / (b + 1) : Nat) : Int) := rfl
theorem dvs (n c t : Nat) : ((c / (n + 1) ^ t : Nat) : Int) / ((n : Int) + 1) = ((c / (n + 1) ^ (t + 1) : Nat) : Int) := by
  rw [ndivI, Nat.div_div_eq_div_mul, Nat.pow_succ]
def cndM (mB : Nat → Nat → Bool) (h : FI) (k : Nat) : Prop := h k = -1 ∨ (h k ≠ (k : Int) ∧ h (h k).toNat = (k : Int) ∧ mB k (h k).toNat = true)
theorem cnd_no {n : Nat} {mB : Nat → Nat → Bool} {h : FI} {k : Nat} (hk : k < n) (q : ¬ cndM mB h k) : mtB n mB h = false := not_mt (fun z => q (z k hk))
theorem c_X4_isMatch {zs : zzT} {d : Nat} {Q : zzQ} {gg : Nat → Nat → Int} {hh : Int64} {n : Nat} (hn : gg 39 8 = (n : Int)) (hn5 : n ≤ 5) {mB : Nat → Nat → Bool} (hmt : ∀ a b, a < n → b < n → gg 45 (5 * a + b) = b2i (mB a b)) {c : Nat} (hc : c < 100000) (hQ : ∀ h1, (∀ j, j < n → h1 j = hsc n c j) → Q [.int (iI (b2i (mtB n mB (hsc n c))))] (wof (gr gg 46 h1) hh)) : zzCL zs (d + 1) 114 [.ref 39, .int (iI (c : Int))] (wof gg hh) Q := by
  refine st_X4_isMatch (Nat.le_of_ble_eq_true rfl) (fun R hR => ?_)
  show R 0 [(0, .ref 39), (1, .int (iI (c : Int)))] [] _
  have lp1 : ∀ (kt t : Nat) (h : FI), t ≤ n → n < t + kt → (∀ s, s < t → h (n - 1 - s) = dgt n c s) → R 9 [(0, .ref 39), (1, .int (iI (c : Int))), (2, .int (iI ((c / (n + 1) ^ t : Nat) : Int))), (3, .int (iI ((n : Int) - 1 - (t : Int))))] [] (wof (gr gg 46 h) hh) := by
    intro kt
    induction kt with
    | zero => intro t; intros; omega
    | succ kt iht =>
      intro t h ht1 ht2 hD
      refine z_iload_n hR dX4_isMatch_9 rfl rfl ?_
      refine g_if_lt hR (tgt := 44) dX4_isMatch_10 (by decide) (fun c10 => ?_) (fun c10 => ?_)
      · refine g_iconst hR dX4_isMatch_44 ?_
        refine z_istore_n hR dX4_isMatch_45 rfl (by decide) rfl ?_
        refine g_iconst hR dX4_isMatch_46 ?_
        refine z_istore hR dX4_isMatch_47 (by decide) rfl ?_
        refine z_sub hR [0, 3, 4] rfl ?_
        have et : t = n := by omega
        have hh1 : ∀ j, j < n → h j = hsc n c j := fun j hj => by have h0 := hD (n - 1 - j) (by omega); rw [show n - 1 - (n - 1 - j) = j by omega] at h0; exact h0
        have hr : hrg n h := fun j hj => by rw [hh1 j hj]; exact dgt_rg n c _
        have loop : ∀ (k i : Nat) (B : Bool), i ≤ n → n < i + k → ((B = true ∧ ∀ k, k < i → cndM mB h k) ∨ (B = false ∧ mtB n mB h = false)) → R 49 [(0, .ref 39), (3, .int (iI (b2i B))), (4, .int (iI (i : Int)))] [] (wof (gr gg 46 h) hh) := by
          intro k
          induction k with
          | zero => intro i; intros; omega
          | succ k ih =>
            intro i B hi1 hi2 hB0
            refine z_iload hR dX4_isMatch_49 rfl ?_
            refine z_aload_n hR dX4_isMatch_51 rfl rfl ?_
            refine g_get hR dX4_isMatch_52 zf_4_76 (wk_39 _) (gi (show (gr gg 46 h) 39 8 = (n : Int) from hn)) ?_
            refine g_icmp_ge hR (tgt := 135) dX4_isMatch_55 (by decide) (fun c55 => ?_) (fun c55 => ?_)
            · refine z_iload_n hR dX4_isMatch_135 rfl rfl ?_
              refine g_zret hR dX4_isMatch_136 rfl ?_
              refine qz (hQ h hh1) ?_
              rw [mtB_congr (mB1 := mB) (hsc_rg n c) (fun j hj => (hh1 j hj).symm) (fun _ _ _ _ => rfl)]
              rcases hB0 with z | z
              · rw [z.1]; first | exact (mtB_iff.mpr (fun k hk => z.2 k (by omega))).symm | (rw [z.1] at c59; exact absurd c59 (by decide))
              · rw [z.1]; exact z.2.symm
            · have hin : i < n := by omega
              have hhi := hr i hin
              refine z_iload_n hR dX4_isMatch_58 rfl rfl ?_
              refine g_if_eqb hR (tgt := 135) dX4_isMatch_59 (by decide) (fun c59 => ?_) (fun c59 => ?_)
              · refine z_iload_n hR dX4_isMatch_135 rfl rfl ?_
                refine g_zret hR dX4_isMatch_136 rfl ?_
                refine qz (hQ h hh1) ?_
                rw [mtB_congr (mB1 := mB) (hsc_rg n c) (fun j hj => (hh1 j hj).symm) (fun _ _ _ _ => rfl)]
                rcases hB0 with z | z
                · rw [z.1]; first | exact (mtB_iff.mpr (fun k hk => z.2 k (by omega))).symm | (rw [z.1] at c59; exact absurd c59 (by decide))
                · rw [z.1]; exact z.2.symm
              · have hB := hB0.resolve_right (fun z => by rw [z.1] at c59; exact absurd c59 (by decide))
                refine z_aload_n hR dX4_isMatch_62 rfl rfl ?_
                refine g_get hR dX4_isMatch_63 zf_4_28 (wk_39 _) (show _ = some (Value.ref 46) from rfl) ?_
                refine z_iload hR dX4_isMatch_66 rfl ?_
                refine g_ialdN hR dX4_isMatch_68 (wk_46 _) (show (gr gg 46 h) 46 i = h i from rfl) ?_
                refine g_iconst hR dX4_isMatch_69 ?_
                refine g_icmp_eq hR (tgt := 123) dX4_isMatch_70 (by decide) (fun c70 => ?_) (fun c70 => ?_)
                · refine g_iconst hR dX4_isMatch_123 ?_
                  refine z_goto hR (tgt := 128) dX4_isMatch_124 (by decide) ?_
                  refine z_istore_n hR dX4_isMatch_128 rfl (by decide) rfl ?_
                  refine g_iinc hR dX4_isMatch_129 rfl rfl (by decide) rfl ?_
                  refine z_goto hR (tgt := 49) dX4_isMatch_132 (by decide) ?_
                  have hcn : cndM mB h i := by first | exact Or.inl c70 | exact Or.inr ⟨by omega, by rw [hj, Int.toNat_natCast]; exact c99, by rw [hj, Int.toNat_natCast]; exact b2i_t c120⟩
                  refine ih (i + 1) true (by omega) (by omega) (Or.inl ⟨rfl, fun k hk => ?_⟩)
                  rcases Nat.lt_or_eq_of_le (Nat.le_of_lt_succ hk) with z | z
                  · exact hB.2 k z
                  · rw [z]; exact hcn
                · obtain ⟨j, hj⟩ := Int.eq_ofNat_of_zero_le (show 0 ≤ h i by omega)
                  have hjn : j < n := by omega
                  have hhj := hr j hjn
                  refine z_aload_n hR dX4_isMatch_73 rfl rfl ?_
                  refine g_get hR dX4_isMatch_74 zf_4_28 (wk_39 _) (show _ = some (Value.ref 46) from rfl) ?_
                  refine z_iload hR dX4_isMatch_77 rfl ?_
                  refine g_ialdN hR dX4_isMatch_79 (wk_46 _) (show (gr gg 46 h) 46 i = (j : Int) from hj) ?_
                  refine z_iload hR dX4_isMatch_80 rfl ?_
                  refine g_icmp_eq hR (tgt := 127) dX4_isMatch_82 (by decide) (fun c82 => ?_) (fun c82 => ?_)
                  · have c82z : h i = (i : Int) := hj.trans c82
                    refine g_iconst hR dX4_isMatch_127 ?_
                    refine z_istore_n hR dX4_isMatch_128 rfl (by decide) rfl ?_
                    refine g_iinc hR dX4_isMatch_129 rfl rfl (by decide) rfl ?_
                    refine z_goto hR (tgt := 49) dX4_isMatch_132 (by decide) ?_
                    have hcn : ¬ cndM mB h i := by
                      rintro (z | ⟨z1, z2, z3⟩)
                      · exact c70 z
                      · rw [hj, Int.toNat_natCast] at z2 z3
                        first | exact z1 c82z | exact c99 z2 | (rw [b2i_f c120] at z3; exact absurd z3 (by decide))
                    exact ih (i + 1) false (by omega) (by omega) (Or.inr ⟨rfl, cnd_no hin hcn⟩)
                  · refine z_aload_n hR dX4_isMatch_85 rfl rfl ?_
                    refine g_get hR dX4_isMatch_86 zf_4_28 (wk_39 _) (show _ = some (Value.ref 46) from rfl) ?_
                    refine z_aload_n hR dX4_isMatch_89 rfl rfl ?_
                    refine g_get hR dX4_isMatch_90 zf_4_28 (wk_39 _) (show _ = some (Value.ref 46) from rfl) ?_
                    refine z_iload hR dX4_isMatch_93 rfl ?_
                    refine g_ialdN hR dX4_isMatch_95 (wk_46 _) (show (gr gg 46 h) 46 i = (j : Int) from hj) ?_
                    refine g_ialdN hR dX4_isMatch_96 (wk_46 _) (show (gr gg 46 h) 46 j = h j from rfl) ?_
                    refine z_iload hR dX4_isMatch_97 rfl ?_
                    refine g_icmp_ne hR (tgt := 127) dX4_isMatch_99 (by decide) (fun c99 => ?_) (fun c99 => ?_)
                    · refine g_iconst hR dX4_isMatch_127 ?_
                      refine z_istore_n hR dX4_isMatch_128 rfl (by decide) rfl ?_
                      refine g_iinc hR dX4_isMatch_129 rfl rfl (by decide) rfl ?_
                      refine z_goto hR (tgt := 49) dX4_isMatch_132 (by decide) ?_
                      have hcn : ¬ cndM mB h i := by
                        rintro (z | ⟨z1, z2, z3⟩)
                        · exact c70 z
                        · rw [hj, Int.toNat_natCast] at z2 z3
                          first | exact z1 c82z | exact c99 z2 | (rw [b2i_f c120] at z3; exact absurd z3 (by decide))
                      exact ih (i + 1) false (by omega) (by omega) (Or.inr ⟨rfl, cnd_no hin hcn⟩)
                    · refine z_aload_n hR dX4_isMatch_102 rfl rfl ?_
                      refine g_get hR dX4_isMatch_103 zf_4_25 (wk_39 _) (show _ = some (Value.ref 45) from rfl) ?_
                      refine g_iconst hR dX4_isMatch_106 ?_
                      refine z_iload hR dX4_isMatch_107 rfl ?_
                      refine g_imul hR dX4_isMatch_109 (nmul 5 _) ?_
                      refine z_aload_n hR dX4_isMatch_110 rfl rfl ?_
                      refine g_get hR dX4_isMatch_111 zf_4_28 (wk_39 _) (show _ = some (Value.ref 46) from rfl) ?_
                      refine z_iload hR dX4_isMatch_114 rfl ?_
                      refine g_ialdN hR dX4_isMatch_116 (wk_46 _) (show (gr gg 46 h) 46 i = (j : Int) from hj) ?_
                      refine g_iadd hR dX4_isMatch_117 (nadd (5 * i) j) ?_
                      refine g_ialdN hR dX4_isMatch_118 (wk_45 _) (show (gr gg 46 h) 45 (5 * i + j) = b2i (mB i j) from hmt i j hin hjn) ?_
                      refine g_iconst hR dX4_isMatch_119 ?_
                      refine g_icmp_ne hR (tgt := 127) dX4_isMatch_120 (by decide) (fun c120 => ?_) (fun c120 => ?_)
                      · refine g_iconst hR dX4_isMatch_127 ?_
                        refine z_istore_n hR dX4_isMatch_128 rfl (by decide) rfl ?_
                        refine g_iinc hR dX4_isMatch_129 rfl rfl (by decide) rfl ?_
                        refine z_goto hR (tgt := 49) dX4_isMatch_132 (by decide) ?_
                        have hcn : ¬ cndM mB h i := by
                          rintro (z | ⟨z1, z2, z3⟩)
                          · exact c70 z
                          · rw [hj, Int.toNat_natCast] at z2 z3
                            first | exact z1 c82z | exact c99 z2 | (rw [b2i_f c120] at z3; exact absurd z3 (by decide))
                        exact ih (i + 1) false (by omega) (by omega) (Or.inr ⟨rfl, cnd_no hin hcn⟩)
                      · refine g_iconst hR dX4_isMatch_123 ?_
                        refine z_goto hR (tgt := 128) dX4_isMatch_124 (by decide) ?_
                        refine z_istore_n hR dX4_isMatch_128 rfl (by decide) rfl ?_
                        refine g_iinc hR dX4_isMatch_129 rfl rfl (by decide) rfl ?_
                        refine z_goto hR (tgt := 49) dX4_isMatch_132 (by decide) ?_
                        have hcn : cndM mB h i := by first | exact Or.inl c70 | exact Or.inr ⟨by omega, by rw [hj, Int.toNat_natCast]; exact c99, by rw [hj, Int.toNat_natCast]; exact b2i_t c120⟩
                        refine ih (i + 1) true (by omega) (by omega) (Or.inl ⟨rfl, fun k hk => ?_⟩)
                        rcases Nat.lt_or_eq_of_le (Nat.le_of_lt_succ hk) with z | z
                        · exact hB.2 k z
                        · rw [z]; exact hcn
        exact loop (n + 1) 0 true (by omega) (by omega) (Or.inl ⟨rfl, fun k hk => absurd hk (by omega)⟩)
      · obtain ⟨j, hj⟩ := Int.eq_ofNat_of_zero_le c10
        have hjt : j + t + 1 = n := by omega
        rw [hj]
        have hdl := Nat.div_le_self c ((n + 1) ^ t)
        obtain ⟨q, hq⟩ : ∃ q, q = c / (n + 1) ^ t := ⟨_, rfl⟩
        rw [← hq] at hdl ⊢
        refine z_aload_n hR dX4_isMatch_13 rfl rfl ?_
        refine g_get hR dX4_isMatch_14 zf_4_28 (wk_39 _) (show _ = some (Value.ref 46) from rfl) ?_
        refine z_iload_n hR dX4_isMatch_17 rfl rfl ?_
        refine z_iload_n hR dX4_isMatch_18 rfl rfl ?_
        refine z_aload_n hR dX4_isMatch_19 rfl rfl ?_
        refine g_get hR dX4_isMatch_20 zf_4_76 (wk_39 _) (gi (show (gr gg 46 h) 39 8 = (n : Int) from hn)) ?_
        refine g_iconst hR dX4_isMatch_23 ?_
        refine g_iadd hR dX4_isMatch_24 rfl ?_
        refine g_irem hR dX4_isMatch_25 (nmodI q n) ?_
        refine g_iconst hR dX4_isMatch_26 ?_
        refine g_isub hR dX4_isMatch_27 (show ((q % (n + 1) : Nat) : Int) - 1 = dgt n c t by rw [hq]; rfl) ?_
        refine g_iastN hR dX4_isMatch_28 (wk_46 _) ?_
        rw [gr_s, gr_gr]
        refine z_iload_n hR dX4_isMatch_29 rfl rfl ?_
        refine z_aload_n hR dX4_isMatch_30 rfl rfl ?_
        refine g_get hR dX4_isMatch_31 zf_4_76 (wk_39 _) (gi (show gr gg 46 (iu h j (dgt n c t)) 39 8 = (n : Int) from hn)) ?_
        refine g_iconst hR dX4_isMatch_34 ?_
        refine g_iadd hR dX4_isMatch_35 rfl ?_
        refine g_idiv hR dX4_isMatch_36 (show (q : Int) / ((n : Int) + 1) = ((c / (n + 1) ^ (t + 1) : Nat) : Int) by rw [hq]; exact dvs n c t) ?_
        refine z_istore_n hR dX4_isMatch_37 rfl (by decide) rfl ?_
        refine g_iinc hR dX4_isMatch_38 rfl (show (j : Int) + -1 = (n : Int) - 1 - ((t + 1 : Nat) : Int) by omega) (by decide) rfl ?_
        refine z_goto hR (tgt := 9) dX4_isMatch_41 (by decide) ?_
        refine iht (t + 1) _ (by omega) (by omega) (fun s hs => ?_)
        rcases Nat.lt_or_eq_of_le (Nat.le_of_lt_succ hs) with z | z
        · rw [iu_n _ _ (by omega)]; exact hD s z
        · rw [z, show n - 1 - t = j by omega, iu_s]
  refine z_iload_n hR dX4_isMatch_0 rfl rfl ?_
  refine z_istore_n hR dX4_isMatch_1 rfl (by decide) rfl ?_
  refine z_aload_n hR dX4_isMatch_2 rfl rfl ?_
  refine g_get hR dX4_isMatch_3 zf_4_76 (wk_39 _) (gi hn) ?_
  refine g_iconst hR dX4_isMatch_6 ?_
  refine g_isub hR dX4_isMatch_7 rfl ?_
  refine z_istore_n hR dX4_isMatch_8 rfl (by decide) rfl ?_
  have hl := lp1 (n + 1) 0 (gg 46) (by omega) (by omega) (fun s hs => absurd hs (by omega))
  rw [gr_self, Nat.pow_zero, Nat.div_one, show (n : Int) - 1 - ((0 : Nat) : Int) = (n : Int) - 1 by simp] at hl
  exact hl
