theorem gr_sw {g : Nat → Nat → Int} {a b : Nat} (h : a ≠ b) (f f1 r : FI) : gr (gr (gr g a f) b r) a f1 = gr (gr g a f1) b r := by
  rw [gr_comm _ _ _ h, gr_gr, gr_comm _ _ _ (Ne.symm h)]
/-- the first i places of the model's row of now -/
def nwr (g : Nat → Nat → Int) (i : Nat) : FI := fun j => if j < i then g 42 (4 * j + 2) else g 44 j
/-- who is anchored, as bits -/
def anb (g : Nat → Nat → Int) (i : Nat) : Nat := bor (fun j => j) (fun j => decide (g 42 (4 * j + 3) = 1)) i
theorem anb_lt (g : Nat → Nat → Int) (i : Nat) : anb g i < 2 ^ i := bor_lt (fun j hj => hj)
theorem nwr_s (g : Nat → Nat → Int) (i : Nat) : iu (nwr g i) i (g 42 (4 * i + 2)) = nwr g (i + 1) := by
  funext j
  simp only [iu, nwr]
  by_cases e : j = i
  · subst e
    simp
  · simp only [if_neg e]
    by_cases h2 : j < i
    · have : j < i + 1 := by omega
      simp [h2, this]
    · have : ¬ j < i + 1 := by omega
      simp [h2, this]
theorem nwr_0 (g : Nat → Nat → Int) : nwr g 0 = g 44 := by funext j; simp [nwr]
theorem anb_s {g : Nat → Nat → Int} {i : Nat} : (anb g i ||| (if g 42 (4 * i + 3) = 1 then 2 ^ i else 0)) = anb g (i + 1) := by
  unfold anb
  rw [bor]
  by_cases h : g 42 (4 * i + 3) = 1 <;> simp [h]
theorem shl01 {x : Int} {i : Nat} (h : x = 0 ∨ x = 1) : x * 2 ^ ((i : Int)).toNat = (((if x = 1 then 2 ^ i else 0) : Nat) : Int) := by
  rcases h with h | h <;> subst h <;> simp
theorem c_X4_passes {zs : zzT} {d : Nat} {Q : zzQ} {g : Nat → Nat → Int} {hh : Int64} {n an : Nat} (hw : MD g n an) {m : Nat} {ea eb : Nat → Nat} (hr : MR g m n ea eb) (hQ : Q [.int (iI (drf n (kdM g) (szM g) (g 41) (pby ea eb lfa m) an (g 39 14) (g 39 15) n (g 44)).2)] (wof (gr (gr g 44 (drf n (kdM g) (szM g) (g 41) (pby ea eb lfa m) an (g 39 14) (g 39 15) n (g 44)).1) 39 (iu (g 39) 15 (g 39 15 + 1))) hh)) : zzCL zs (d + 4) 104 [.ref 39] (wof g hh) Q := by
  refine st_X4_passes (Nat.le_of_ble_eq_true rfl) (fun R hR => ?_)
  show R 0 [(0, .ref 39)] [] _
  have hw0 := hw
  obtain ⟨hn, hn5, hcu, hkd, hsz, hpl, han, han2, hwi, hda⟩ := hw
  have loop : ∀ (k i : Nat) (q : FI) (b : Int), i ≤ n → n < i + k → (plok n q) → ((q, b) = drf n (kdM g) (szM g) (g 41) (pby ea eb lfa m) an (g 39 14) (g 39 15) i (g 44)) → R 4 [(0, .ref 39), (1, .int (iI b)), (2, .int (iI (i : Int)))] [] (wof (gr g 44 q) hh) := by
    intro k
    induction k with
    | zero => intro i; intros; omega
    | succ k ih =>
      intro i q b hi1 hi2 hq hqb
      refine z_iload_n hR dX4_passes_4 rfl rfl ?_
      refine z_aload_n hR dX4_passes_5 rfl rfl ?_
      refine g_get hR dX4_passes_6 zf_4_76 (wk_39 _) (gi (show gr g 44 q 39 8 = (n : Int) from hn)) ?_
      refine g_icmp_ge hR (tgt := 42) dX4_passes_9 (by decide) (fun c9 => ?_) (fun c9 => ?_)
      · have e : i = n := by omega
        subst e
        refine z_aload_n hR dX4_passes_42 rfl rfl ?_
        refine z_dup hR dX4_passes_43 rfl ?_
        refine g_get hR dX4_passes_44 zf_4_113 (wk_39 _) rfl ?_
        refine g_iconst hR dX4_passes_47 ?_
        refine g_iadd hR dX4_passes_48 rfl ?_
        refine g_put hR dX4_passes_49 zf_4_113 (wk_39 _) (Nat.le_of_ble_eq_true rfl) rfl rfl rfl rfl ?_
        refine z_iload_n hR dX4_passes_52 rfl rfl ?_
        refine g_iret hR dX4_passes_53 rfl ?_
        rw [← hqb] at hQ
        exact hQ
      · have hin : i < n := by omega
        refine z_iload_n hR dX4_passes_12 rfl rfl ?_
        refine z_aload_n hR dX4_passes_13 rfl rfl ?_
        refine z_iload_n hR dX4_passes_14 rfl rfl ?_
        refine g_inv1 hR dX4_passes_15 zm_4_126 (by decide) zN_X4_isFirst ((wk_39 _) _) zO_X4_isFirst (Nat.le_of_ble_eq_true rfl) ?_
        refine c_X4_isFirst (MR_pl hr) hin ?_
        show R 18 _ (.int _ :: _) _
        refine g_if_eqb hR (tgt := 33) dX4_passes_18 (by decide) (fun c18 => ?_) (fun c18 => ?_)
        · refine g_iconst hR dX4_passes_33 ?_
          refine g_iadd hR dX4_passes_34 rfl ?_
          refine z_istore_n hR dX4_passes_35 rfl (by decide) rfl ?_
          refine g_iinc hR dX4_passes_36 rfl rfl (by decide) rfl ?_
          refine z_goto hR (tgt := 4) dX4_passes_39 (by decide) ?_
          first | (refine ih (i + 1) q _ (by omega) (by omega) hq ?_; rw [drf_f c18, ← hqb]; simp; done) | (refine ih (i + 1) _ _ (by omega) (by omega) (mvp_ok hq) ?_; rw [drf_t c18, ← hqb]; rfl)
        · refine z_aload_n hR dX4_passes_21 rfl rfl ?_
          refine z_aload_n hR dX4_passes_22 rfl rfl ?_
          refine z_iload_n hR dX4_passes_23 rfl rfl ?_
          refine g_inv1 hR dX4_passes_24 zm_4_120 (by decide) zN_X4_partyOf ((wk_39 _) _) zO_X4_partyOf (Nat.le_of_ble_eq_true rfl) ?_
          refine c_X4_partyOf (MR_pl hr) hin ?_
          show R 27 _ (.int _ :: _) _
          refine g_inv1 hR dX4_passes_27 zm_4_129 (by decide) zN_X4_drifts ((wk_39 _) _) zO_X4_drifts (Nat.le_of_ble_eq_true rfl) ?_
          refine c_X4_drifts (MD_pl hw0 hq) (pby_lt (fun r h => (hr.2.2.2 r h).2.2) hin) ?_
          rw [gr_s, gr_gr]
          show R 30 _ (.int _ :: _) _
          refine z_goto hR (tgt := 34) dX4_passes_30 (by decide) ?_
          refine g_iadd hR dX4_passes_34 rfl ?_
          refine z_istore_n hR dX4_passes_35 rfl (by decide) rfl ?_
          refine g_iinc hR dX4_passes_36 rfl rfl (by decide) rfl ?_
          refine z_goto hR (tgt := 4) dX4_passes_39 (by decide) ?_
          first | (refine ih (i + 1) q _ (by omega) (by omega) hq ?_; rw [drf_f c18, ← hqb]; simp; done) | (refine ih (i + 1) _ _ (by omega) (by omega) (mvp_ok hq) ?_; rw [drf_t c18, ← hqb]; rfl)
  refine g_iconst hR dX4_passes_0 ?_
  refine z_istore_n hR dX4_passes_1 rfl (by decide) rfl ?_
  refine g_iconst hR dX4_passes_2 ?_
  refine z_istore_n hR dX4_passes_3 rfl (by decide) rfl ?_
  have hl := loop (n + 1) 0 (g 44) 0 (by omega) (by omega) hpl rfl
  rw [gr_self] at hl
  exact hl
theorem c_X4_asItIs {zs : zzT} {d : Nat} {Q : zzQ} {g : Nat → Nat → Int} {hh : Int64} {n : Nat} (hn : g 39 8 = (n : Int)) (hn5 : n ≤ 5) (hfl : ∀ j, j < n → g 42 (4 * j + 3) = 0 ∨ g 42 (4 * j + 3) = 1) (hQ : Q [] (wof (gr (gr g 44 (nwr g n)) 39 (iu (iu (iu (g 39) 13 ((anb g n : Nat) : Int)) 14 (g 39 3)) 15 (g 39 4))) hh)) : zzCL zs (d + 1) 90 [.ref 39] (wof g hh) Q := by
  refine st_X4_asItIs (Nat.le_of_ble_eq_true rfl) (fun R hR => ?_)
  show R 0 [(0, .ref 39)] [] _
  have loop : ∀ (k i : Nat), i ≤ n → n < i + k → R 7 [(0, .ref 39), (1, .int (iI (i : Int)))] [] (wof (gr (gr g 44 (nwr g i)) 39 (iu (g 39) 13 ((anb g i : Nat) : Int))) hh) := by
    intro k
    induction k with
    | zero => intro i; intros; omega
    | succ k ih =>
      intro i  hi1 hi2 
      refine z_iload_n hR dX4_asItIs_7 rfl rfl ?_
      refine z_aload_n hR dX4_asItIs_8 rfl rfl ?_
      refine g_get hR dX4_asItIs_9 zf_4_76 (wk_39 _) (gi (show (gr (gr g 44 (nwr g i)) 39 (iu (g 39) 13 ((anb g i : Nat) : Int))) 39 8 = (n : Int) from hn)) ?_
      refine g_icmp_ge hR (tgt := 58) dX4_asItIs_12 (by decide) (fun c12 => ?_) (fun c12 => ?_)
      · have e : i = n := by omega
        subst e
        refine z_aload_n hR dX4_asItIs_58 rfl rfl ?_
        refine z_aload_n hR dX4_asItIs_59 rfl rfl ?_
        refine g_get hR dX4_asItIs_60 zf_4_67 (wk_39 _) rfl ?_
        refine g_put hR dX4_asItIs_63 zf_4_110 (wk_39 _) (Nat.le_of_ble_eq_true rfl) rfl rfl rfl rfl ?_
        simp only [gr_s, gr_n _ _ (show (44 : Nat) ≠ 39 by decide), gr_n _ _ (show (39 : Nat) ≠ 44 by decide), gr_n _ _ (show (42 : Nat) ≠ 44 by decide), gr_n _ _ (show (42 : Nat) ≠ 39 by decide), gr_sw (show (44 : Nat) ≠ 39 by decide), gr_gr, iu_iu, iu_s]
        refine z_aload_n hR dX4_asItIs_66 rfl rfl ?_
        refine z_aload_n hR dX4_asItIs_67 rfl rfl ?_
        refine g_get hR dX4_asItIs_68 zf_4_70 (wk_39 _) rfl ?_
        refine g_put hR dX4_asItIs_71 zf_4_113 (wk_39 _) (Nat.le_of_ble_eq_true rfl) rfl rfl rfl rfl ?_
        simp only [gr_s, gr_n _ _ (show (44 : Nat) ≠ 39 by decide), gr_n _ _ (show (39 : Nat) ≠ 44 by decide), gr_n _ _ (show (42 : Nat) ≠ 44 by decide), gr_n _ _ (show (42 : Nat) ≠ 39 by decide), gr_sw (show (44 : Nat) ≠ 39 by decide), gr_gr, iu_iu, iu_s]
        refine g_vret hR dX4_asItIs_74 rfl ?_
        exact hQ
      · have hin : i < n := by omega
        refine z_aload_n hR dX4_asItIs_15 rfl rfl ?_
        refine g_get hR dX4_asItIs_16 zf_4_22 (wk_39 _) rfl ?_
        refine z_iload_n hR dX4_asItIs_19 rfl rfl ?_
        refine z_aload_n hR dX4_asItIs_20 rfl rfl ?_
        refine g_get hR dX4_asItIs_21 zf_4_16 (wk_39 _) rfl ?_
        refine g_iconst hR dX4_asItIs_24 ?_
        refine z_iload_n hR dX4_asItIs_25 rfl rfl ?_
        refine g_imul hR dX4_asItIs_26 (nmul 4 _) ?_
        refine g_iconst hR dX4_asItIs_27 ?_
        refine g_iadd hR dX4_asItIs_28 (nadd _ 2) ?_
        refine g_ialdN hR dX4_asItIs_29 (wk_42 _) (show (gr (gr g 44 (nwr g i)) 39 (iu (g 39) 13 ((anb g i : Nat) : Int))) 42 (4 * i + 2) = g 42 (4 * i + 2) from rfl) ?_
        refine g_iastN hR dX4_asItIs_30 (wk_44 _) ?_
        simp only [gr_s, gr_n _ _ (show (44 : Nat) ≠ 39 by decide), gr_n _ _ (show (39 : Nat) ≠ 44 by decide), gr_n _ _ (show (42 : Nat) ≠ 44 by decide), gr_n _ _ (show (42 : Nat) ≠ 39 by decide), gr_sw (show (44 : Nat) ≠ 39 by decide), gr_gr, iu_iu, iu_s]
        rw [nwr_s]
        refine z_aload_n hR dX4_asItIs_31 rfl rfl ?_
        refine z_dup hR dX4_asItIs_32 rfl ?_
        refine g_get hR dX4_asItIs_33 zf_4_107 (wk_39 _) (gi (show (gr (gr g 44 (nwr g (i + 1))) 39 (iu (g 39) 13 ((anb g i : Nat) : Int))) 39 13 = ((anb g i : Nat) : Int) from rfl)) ?_
        refine z_aload_n hR dX4_asItIs_36 rfl rfl ?_
        refine g_get hR dX4_asItIs_37 zf_4_16 (wk_39 _) rfl ?_
        refine g_iconst hR dX4_asItIs_40 ?_
        refine z_iload_n hR dX4_asItIs_41 rfl rfl ?_
        refine g_imul hR dX4_asItIs_42 (nmul 4 _) ?_
        refine g_iconst hR dX4_asItIs_43 ?_
        refine g_iadd hR dX4_asItIs_44 (nadd _ 3) ?_
        refine g_ialdN hR dX4_asItIs_45 (wk_42 _) (show (gr (gr g 44 (nwr g (i + 1))) 39 (iu (g 39) 13 ((anb g i : Nat) : Int))) 42 (4 * i + 3) = g 42 (4 * i + 3) from rfl) ?_
        refine z_iload_n hR dX4_asItIs_46 rfl rfl ?_
        refine g_ishl hR dX4_asItIs_47 (shl01 (hfl i hin)) (by have := p2b (show i < 31 by omega); split <;> omega) ?_ (hx := by rcases hfl i hin with h | h <;> omega)
        refine g_ior hR dX4_asItIs_48 ?_
        refine g_put hR dX4_asItIs_49 zf_4_107 (wk_39 _) (Nat.le_of_ble_eq_true rfl) rfl rfl rfl rfl ?_
        simp only [gr_s, gr_n _ _ (show (44 : Nat) ≠ 39 by decide), gr_n _ _ (show (39 : Nat) ≠ 44 by decide), gr_n _ _ (show (42 : Nat) ≠ 44 by decide), gr_n _ _ (show (42 : Nat) ≠ 39 by decide), gr_sw (show (44 : Nat) ≠ 39 by decide), gr_gr, iu_iu, iu_s]
        rw [anb_s]
        refine g_iinc hR dX4_asItIs_52 rfl rfl (by decide) rfl ?_
        refine z_goto hR (tgt := 7) dX4_asItIs_55 (by decide) ?_
        exact ih (i + 1) (by omega) (by omega)
  refine z_aload_n hR dX4_asItIs_0 rfl rfl ?_
  refine g_iconst hR dX4_asItIs_1 ?_
  refine g_put hR dX4_asItIs_2 zf_4_107 (wk_39 _) (Nat.le_of_ble_eq_true rfl) rfl rfl rfl rfl ?_
  refine g_iconst hR dX4_asItIs_5 ?_
  refine z_istore_n hR dX4_asItIs_6 rfl (by decide) rfl ?_
  have hl := loop (n + 1) 0 (by omega) (by omega)
  rw [nwr_0, gr_self] at hl
  exact hl
