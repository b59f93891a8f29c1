/-- what the model keeps -/
def MP (g : Nat → Nat → Int) (n m : Nat) (ea eb : Nat → Nat) : Prop := g 39 8 = (n : Int) ∧ n ≤ 5 ∧ (∀ j, j < 12 → -1 ≤ g 41 j ∧ g 41 j ≤ 1) ∧ (∀ j, j < n → 0 ≤ g 42 (4 * j) ∧ g 42 (4 * j) ≤ 4) ∧ (∀ j, j < n → 1 ≤ g 42 (4 * j + 1) ∧ g 42 (4 * j + 1) ≤ 9) ∧ (∀ j, j < n → 0 ≤ g 42 (4 * j + 2) ∧ g 42 (4 * j + 2) < 12) ∧ (∀ j, j < n → g 42 (4 * j + 3) = 0 ∨ g 42 (4 * j + 3) = 1) ∧ (-1 ≤ g 39 3 ∧ g 39 3 ≤ 1) ∧ (0 ≤ g 39 4 ∧ g 39 4 < 1000000) ∧ MR g m n ea eb
theorem nwr_ok {g : Nat → Nat → Int} {n : Nat} (h : ∀ j, j < n → 0 ≤ g 42 (4 * j + 2) ∧ g 42 (4 * j + 2) < 12) : plok n (nwr g n) := by
  intro j hj
  simp only [nwr, if_pos hj]
  exact h j hj
/-- the model's row of now and its numbers, set -/
def mst (g : Nat → Nat → Int) (q : FI) (an wi da : Int) : Nat → Nat → Int := gr (gr g 44 q) 39 (iu (iu (iu (g 39) 13 an) 14 wi) 15 da)
theorem mst_eqS (g : Nat → Nat → Int) (q : FI) (an wi da : Int) : eqS scM g (mst g q an wi da) := by
  refine eqS.gr (eqS.gr eqS.rf (fun k h => absurd (Or.inl rfl) h)) (fun k h => ?_)
  have h1 : k ≠ 13 ∧ k ≠ 14 ∧ k ≠ 15 := by
    refine ⟨fun e => h ?_, fun e => h ?_, fun e => h ?_⟩ <;> (subst e; unfold scM; simp)
  rw [iu_n _ _ h1.2.2, iu_n _ _ h1.2.1, iu_n _ _ h1.1]
  rfl
theorem mst_md {g : Nat → Nat → Int} {n m : Nat} {ea eb : Nat → Nat} {q : FI} {an : Nat} {wi da : Int} (h : MP g n m ea eb) (hq : plok n q) (ha : an < 32) (hw : -1 ≤ wi ∧ wi ≤ 1) (hd : 0 ≤ da ∧ da < 2147483648) : MD (mst g q an wi da) n an :=
  ⟨h.1, h.2.1, h.2.2.1, h.2.2.2.1, h.2.2.2.2.1, hq, rfl, ha, hw, hd⟩
theorem mst_mr {g : Nat → Nat → Int} {n m : Nat} {ea eb : Nat → Nat} {q : FI} {an wi da : Int} (h : MR g m n ea eb) : MR (mst g q an wi da) m n ea eb := h
theorem iu_sw {f : FI} {i j : Nat} (h : i ≠ j) (x y z : Int) : iu (iu (iu f i x) j y) i z = iu (iu f i z) j y := by
  funext k
  simp only [iu]
  by_cases h1 : k = i
  · subst h1
    simp [h]
  · by_cases h2 : k = j
    · simp [h2, Ne.symm h]
    · simp [h1, h2]
theorem mst_pass (g : Nat → Nat → Int) (q q1 : FI) (an wi da : Int) : gr (gr (mst g q an wi da) 44 q1) 39 (iu ((mst g q an wi da) 39) 15 ((mst g q an wi da) 39 15 + 1)) = mst g q1 an wi (da + 1) := by
  unfold mst
  rw [gr_sw (show (44 : Nat) ≠ 39 by decide), gr_gr, gr_s, iu_s, iu_iu]
theorem mst_as (g : Nat → Nat → Int) (q : FI) (an wi da z : Int) : gr (mst g q an wi da) 39 (iu ((mst g q an wi da) 39) 13 z) = mst g q z wi da := by
  unfold mst
  rw [gr_gr, gr_s]
  congr 1
  funext k
  simp only [iu]
  by_cases h1 : k = 13
  · simp [h1]
  · simp [h1]
theorem c_X4_meetBy {zs : zzT} {d : Nat} {Q : zzQ} {g : Nat → Nat → Int} {hh : Int64} {n m : Nat} {ea eb : Nat → Nat} (hp : MP g n m ea eb) {x y more most : Nat} (hx : x < n) (hy : y < n) (hmore : more < 2 ^ n) (hmost : most ≤ 60) (hQ : ∀ g1, eqS scM g g1 → Q [.int (iI (mtv n (kdM g) (szM g) (g 41) (pby ea eb lfa m) (anb g n ||| more) (g 39 3) (g 39 4) (nwr g n) x y most))] (wof g1 hh)) : zzCL zs (d + 5) 108 [.ref 39, .int (iI (x : Int)), .int (iI (y : Int)), .int (iI (more : Int)), .int (iI (most : Int))] (wof g hh) Q := by
  refine st_X4_meetBy (Nat.le_of_ble_eq_true rfl) (fun R hR => ?_)
  show R 0 [(0, .ref 39), (1, .int (iI (x : Int))), (2, .int (iI (y : Int))), (3, .int (iI (more : Int))), (4, .int (iI (most : Int)))] [] _
  have hn5 := hp.2.1
  have hwi := hp.2.2.2.2.2.2.2.1
  have hda := hp.2.2.2.2.2.2.2.2.1
  obtain ⟨an, hane⟩ : ∃ an, anb g n ||| more = an := ⟨_, rfl⟩
  rw [hane] at hQ
  have han : an < 32 := by rw [← hane]; exact Nat.lt_of_lt_of_le (Nat.or_lt_two_pow (anb_lt g n) hmore) (Nat.pow_le_pow_right (n := 2) (by decide) hn5)
  have hTok : ∀ i, plok n (trj n (kdM g) (szM g) (g 41) (pby ea eb lfa m) an (g 39 3) (g 39 4) (nwr g n) i) := trj_ok (nwr_ok hp.2.2.2.2.2.1)
  have hT0 : trj n (kdM g) (szM g) (g 41) (pby ea eb lfa m) an (g 39 3) (g 39 4) (nwr g n) 0 = nwr g n := rfl
  have hTs : ∀ i : Nat, trj n (kdM g) (szM g) (g 41) (pby ea eb lfa m) an (g 39 3) (g 39 4) (nwr g n) (i + 1) = (drf n (kdM g) (szM g) (g 41) (pby ea eb lfa m) an (g 39 3) (g 39 4 + (i : Int)) n (trj n (kdM g) (szM g) (g 41) (pby ea eb lfa m) an (g 39 3) (g 39 4) (nwr g n) i)).1 := fun _ => rfl
  unfold mtv at hQ
  generalize trj n (kdM g) (szM g) (g 41) (pby ea eb lfa m) an (g 39 3) (g 39 4) (nwr g n) = T at hTok hT0 hTs hQ
  obtain ⟨V, hVe⟩ : ∃ V, V = fm (fun k => bs (T k x) (T k y)) most 0 := ⟨_, rfl⟩
  rw [← hVe] at hQ
  have loop : ∀ (k i : Nat), i ≤ (most + 1) → (most + 1) < i + k → (i ≤ most → V = fm (fun k => bs (T k x) (T k y)) (most - i) i) → (i = most + 1 → V = -1) → R 17 [(0, .ref 39), (1, .int (iI (x : Int))), (2, .int (iI (y : Int))), (3, .int (iI (more : Int))), (4, .int (iI (most : Int))), (5, .int (iI (i : Int)))] [] (wof (mst g (T i) (an : Int) (g 39 3) (g 39 4 + (i : Int))) hh) := by
    intro k
    induction k with
    | zero => intro i; intros; omega
    | succ k ih =>
      intro i  hi1 hi2 hV1 hV2
      have hV := And.intro hV1 hV2
      refine z_iload hR dX4_meetBy_17 rfl ?_
      refine z_iload hR dX4_meetBy_19 rfl ?_
      refine g_icmp_gt hR (tgt := 57) dX4_meetBy_21 (by decide) (fun c21 => ?_) (fun c21 => ?_)
      · refine g_iconst hR dX4_meetBy_57 ?_
        refine g_iret hR dX4_meetBy_58 rfl ?_
        exact qi (hQ _ (mst_eqS _ _ _ _ _)) (hV.2 (by omega)).symm
      · have hxi := hTok i x hx
        have hyi := hTok i y hy
        refine z_aload_n hR dX4_meetBy_24 rfl rfl ?_
        refine g_get hR dX4_meetBy_25 zf_4_22 (wk_39 _) rfl ?_
        refine z_iload_n hR dX4_meetBy_28 rfl rfl ?_
        refine g_ialdN hR dX4_meetBy_29 (wk_44 _) (show mst g (T i) (an : Int) (g 39 3) (g 39 4 + (i : Int)) 44 x = T i x from rfl) ?_
        refine z_aload_n hR dX4_meetBy_30 rfl rfl ?_
        refine g_get hR dX4_meetBy_31 zf_4_22 (wk_39 _) rfl ?_
        refine z_iload_n hR dX4_meetBy_34 rfl rfl ?_
        refine g_ialdN hR dX4_meetBy_35 (wk_44 _) (show mst g (T i) (an : Int) (g 39 3) (g 39 4 + (i : Int)) 44 y = T i y from rfl) ?_
        refine g_sta2 hR dX4_meetBy_36 zm_4_132 zN_X4_areBeside (Nat.le_of_ble_eq_true rfl) ?_
        refine c_X4_areBeside hxi hyi ?_
        show R 39 _ (.int _ :: _) _
        refine g_if_eqb hR (tgt := 45) dX4_meetBy_39 (by decide) (fun c39 => ?_) (fun c39 => ?_)
        · refine z_aload_n hR dX4_meetBy_45 rfl rfl ?_
          refine g_inv0 hR dX4_meetBy_46 zm_4_154 (by decide) zN_X4_passes ((wk_39 _) _) zO_X4_passes (Nat.le_of_ble_eq_true rfl) ?_
          refine c_X4_passes (mst_md hp (hTok i) han ⟨hwi.1, hwi.2⟩ (by omega)) (mst_mr hp.2.2.2.2.2.2.2.2.2) ?_
          rw [mst_pass]
          show R 49 _ (.int _ :: _) _
          refine z_istore hR dX4_meetBy_49 (by decide) rfl ?_
          refine g_iinc hR dX4_meetBy_51 rfl rfl (by decide) rfl ?_
          refine z_goto hR (tgt := 17) dX4_meetBy_54 (by decide) ?_
          refine z_sub hR [0, 1, 2, 3, 4, 5] rfl ?_
          have hst := ih (i + 1) (by omega) (by omega) (fm_next (hV.1 (by omega)) (by omega) c39).1 (fm_next (hV.1 (by omega)) (by omega) c39).2
          rw [hTs i, show g 39 4 + ((i + 1 : Nat) : Int) = g 39 4 + (i : Int) + 1 by omega] at hst
          exact hst
        · refine z_iload hR dX4_meetBy_42 rfl ?_
          refine g_iret hR dX4_meetBy_44 rfl ?_
          exact qi (hQ _ (mst_eqS _ _ _ _ _)) (by rw [hV.1 (by omega), fm_here c39])
  refine z_aload_n hR dX4_meetBy_0 rfl rfl ?_
  refine g_inv0 hR dX4_meetBy_1 zm_4_139 (by decide) zN_X4_asItIs ((wk_39 _) _) zO_X4_asItIs (Nat.le_of_ble_eq_true rfl) ?_
  refine c_X4_asItIs hp.1 hp.2.1 hp.2.2.2.2.2.2.1 ?_
  show R 4 _ _ _
  refine z_aload_n hR dX4_meetBy_4 rfl rfl ?_
  refine z_dup hR dX4_meetBy_5 rfl ?_
  refine g_get hR dX4_meetBy_6 zf_4_107 (wk_39 _) (gi (show (gr (gr g 44 (nwr g n)) 39 (iu (iu (iu (g 39) 13 ((anb g n : Nat) : Int)) 14 (g 39 3)) 15 (g 39 4))) 39 13 = ((anb g n : Nat) : Int) from rfl)) ?_
  refine z_iload_n hR dX4_meetBy_9 rfl rfl ?_
  refine g_ior hR dX4_meetBy_10 ?_
  refine g_put hR dX4_meetBy_11 zf_4_107 (wk_39 _) (Nat.le_of_ble_eq_true rfl) rfl rfl rfl rfl ?_
  have e1 : gr (gr g 44 (nwr g n)) 39 (iu (iu (iu (g 39) 13 ((anb g n : Nat) : Int)) 14 (g 39 3)) 15 (g 39 4)) = mst g (nwr g n) ((anb g n : Nat) : Int) (g 39 3) (g 39 4) := rfl
  rw [e1, mst_as]
  rw [hane]
  refine g_iconst hR dX4_meetBy_14 ?_
  refine z_istore hR dX4_meetBy_15 (by decide) rfl ?_
  have hl := loop (most + 2) 0 (by omega) (by omega) (fun _ => hVe) (by omega)
  rw [hT0, show g 39 4 + ((0 : Nat) : Int) = g 39 4 by simp] at hl
  exact hl
