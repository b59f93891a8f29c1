theorem c_X0_goThrough {zs : zzT} {g : Nat → Nat → Int} {hh : Int64} {n : Nat} {mB : Nat → Nat → Bool} {sz : FI} {su : Nat → Nat} (hX : MX g n mB sz su) : ∀ (k i : Nat), i + k = n → ∀ (d : Nat) (r b : FI) (S : MS) (P : Nat) (Q : zzQ), AI n P k i r → MI n mB i r → BR n b S → (0 ≤ S.1 ∧ -1 ≤ S.2.1 ∧ S.2.1 ≤ n) → (∀ b1, BR n b1 (FF n mB sz S (P * (n + 1) ^ k) ((n + 1) ^ k)) → Q [] (wof (xw g r b1 (FF n mB sz S (P * (n + 1) ^ k) ((n + 1) ^ k)).1 (FF n mB sz S (P * (n + 1) ^ k) ((n + 1) ^ k)).2.1) hh)) → zzCL zs (d + 4 + k) 50 [.ref 34, .int (iI (i : Int)), .int (iI (prB n r))] (wof (xw g r b S.1 S.2.1) hh) Q := by
  have hn5 := hX.1
  have h32 : (2 : Nat) ^ n ≤ 32 := Nat.pow_le_pow_right (n := 2) (by decide) hn5
  intro k
  induction k with
  | zero =>
    intro i hik d r b S P Q hA hM hB hS hQ
    have ein : i = n := by omega
    subst ein
    show zzCL zs (d + 3 + 1) _ _ _ _
    refine st_X0_goThrough (Nat.le_of_ble_eq_true rfl) (fun R hR => ?_)
    show R 0 [(0, .ref 34), (1, .int (iI (i : Int))), (2, .int (iI (prB i r)))] [] _
    refine z_iload_n hR dX0_goThrough_0 rfl rfl ?_
    refine z_aload_n hR dX0_goThrough_1 rfl rfl ?_
    refine g_get hR dX0_goThrough_2 zf_0_24 (wk_34 _) (gi (show (xw g r b S.1 S.2.1) 34 4 = (i : Int) from hX.2.1)) ?_
    refine g_icmp_lt hR (tgt := 14) dX0_goThrough_5 (by decide) (fun c5 => ?_) (fun c5 => ?_)
    · exact absurd c5 (by omega)
    · refine z_aload_n hR dX0_goThrough_8 rfl rfl ?_
      refine z_iload_n hR dX0_goThrough_9 rfl rfl ?_
      refine g_inv1 hR dX0_goThrough_10 zm_0_48 (by decide) zN_X0_weigh ((wk_34 _) _) zO_X0_weigh (Nat.le_of_ble_eq_true rfl) ?_
      refine c_X0_weigh hX (MI_rg hM) hS.2 (P := P) (fun j hj => by rw [hA j hj, Nat.pow_zero, Nat.mul_one]; rfl) hB (fun b1 hb1 => ?_)
      rw [← leaf_mt S hA hM] at hb1 ⊢
      show R 13 _ _ _
      refine g_vret hR dX0_goThrough_13 rfl ?_
      exact hQ b1 hb1
  | succ k ih =>
    intro i hik d r b S P Q hA hM hB hS hQ
    have hin : i < n := by omega
    have hpw : (n + 1) * (n + 1) ^ k = (n + 1) ^ (k + 1) := by rw [Nat.pow_succ, Nat.mul_comm]
    have hrg0 := MI_rg hM
    show zzCL zs (d + 4 + k + 1) _ _ _ _
    refine st_X0_goThrough (Nat.le_of_ble_eq_true rfl) (fun R hR => ?_)
    show R 0 [(0, .ref 34), (1, .int (iI (i : Int))), (2, .int (iI (prB n r)))] [] _
    rcases hM i hin with hri | ⟨k0, hk0, hr0, hk1, hk2, hk3, hk4⟩
    · have FF0 : FF n mB sz S ((P * (n + 1) + 0) * (n + 1) ^ k) ((n + 1) ^ k) = FF n mB sz S (P * (n + 1) ^ (k + 1)) ((i + 1 + 1) * (n + 1) ^ k) := by
        have h1 := dead_up (n := n) (mB := mB) (sz := sz) S (P := P) (k := k) (a := 1) (i + 1) (fun e h1 h2 S => dead_2 S hik hA hM hri h1 (by omega))
        have h2 := FF_sub (n := n) (mB := mB) (sz := sz) S P k 0
        rw [Nat.zero_mul] at h2
        rw [show i + 1 + 1 = 1 + (i + 1) by omega, h1]
        exact h2.symm
      refine z_iload_n hR dX0_goThrough_0 rfl rfl ?_
      refine z_aload_n hR dX0_goThrough_1 rfl rfl ?_
      refine g_get hR dX0_goThrough_2 zf_0_24 (wk_34 _) (gi (show (xw g r b S.1 S.2.1) 34 4 = (n : Int) from hX.2.1)) ?_
      refine g_icmp_lt hR (tgt := 14) dX0_goThrough_5 (by decide) (fun c5 => ?_) (fun c5 => ?_)
      · refine z_aload_n hR dX0_goThrough_14 rfl rfl ?_
        refine z_iload_n hR dX0_goThrough_15 rfl rfl ?_
        refine g_iconst hR dX0_goThrough_16 ?_
        refine g_iadd hR dX0_goThrough_17 (nadd _ 1) ?_
        refine z_iload_n hR dX0_goThrough_18 rfl rfl ?_
        refine g_inv2 hR dX0_goThrough_19 zm_0_44 (by decide) zN_X0_goThrough ((wk_34 _) _) zO_X0_goThrough (Nat.le_of_ble_eq_true rfl) ?_
        refine ih (i + 1) (by omega) d r b S (P * (n + 1) + 0) _ (AI_child hik hA (Nat.zero_le n) (fun _ _ => rfl) (by rw [hri]; rfl)) (MI_s hM) hB hS (fun b1 hb1 => ?_)
        rw [FF0] at hb1 ⊢
        show R 22 _ _ _
        refine z_aload_n hR dX0_goThrough_22 rfl rfl ?_
        refine g_get hR dX0_goThrough_23 zf_0_18 (wk_34 _) (show _ = some (Value.ref 37) from rfl) ?_
        refine z_iload_n hR dX0_goThrough_26 rfl rfl ?_
        refine g_ialdN hR dX0_goThrough_27 (wk_37 _) (show (xw g r b1 (FF n mB sz S (P * (n + 1) ^ (k + 1)) ((i + 1 + 1) * (n + 1) ^ k)).1 (FF n mB sz S (P * (n + 1) ^ (k + 1)) ((i + 1 + 1) * (n + 1) ^ k)).2.1) 37 i = -1 from hri) ?_
        refine g_iconst hR dX0_goThrough_28 ?_
        refine g_icmp_eq hR (tgt := 33) dX0_goThrough_29 (by decide) (fun c29 => ?_) (fun c29 => ?_)
        · refine z_iload_n hR dX0_goThrough_33 rfl rfl ?_
          refine g_iconst hR dX0_goThrough_34 ?_
          refine g_iadd hR dX0_goThrough_35 (nadd _ 1) ?_
          refine z_istore_n hR dX0_goThrough_36 rfl (by decide) rfl ?_
          obtain ⟨b0, hb0⟩ : ∃ b0, b0 = b1 := ⟨_, rfl⟩
          have lp : ∀ (ku u : Nat) (b1 : FI), u ≤ n → n < u + ku → (i < u) → (BR n b1 (FF n mB sz S (P * (n + 1) ^ (k + 1)) ((u + 1) * (n + 1) ^ k))) → R 37 [(0, .ref 34), (1, .int (iI (i : Int))), (2, .int (iI (prB n r))), (3, .int (iI (u : Int)))] [] (wof (xw g r b1 (FF n mB sz S (P * (n + 1) ^ (k + 1)) ((u + 1) * (n + 1) ^ k)).1 (FF n mB sz S (P * (n + 1) ^ (k + 1)) ((u + 1) * (n + 1) ^ k)).2.1) hh) := by
            intro ku
            induction ku with
            | zero => intro u; intros; omega
            | succ ku ihu =>
              intro u b1 hu1 hu2 hiu hb1
              refine z_iload_n hR dX0_goThrough_37 rfl rfl ?_
              refine z_aload_n hR dX0_goThrough_38 rfl rfl ?_
              refine g_get hR dX0_goThrough_39 zf_0_24 (wk_34 _) (gi (show (xw g r b1 (FF n mB sz S (P * (n + 1) ^ (k + 1)) ((u + 1) * (n + 1) ^ k)).1 (FF n mB sz S (P * (n + 1) ^ (k + 1)) ((u + 1) * (n + 1) ^ k)).2.1) 34 4 = (n : Int) from hX.2.1)) ?_
              refine g_icmp_ge hR (tgt := 113) dX0_goThrough_42 (by decide) (fun c42 => ?_) (fun c42 => ?_)
              · refine g_vret hR dX0_goThrough_113 rfl ?_
                have eu : u = n := by omega
                rw [eu, hpw] at hb1 ⊢
                exact hQ b1 hb1
              · have hun : u < n := by omega
                have hru := hrg0 u hun
                have hsl := (hX.2.2.2.1 i hin).2.1
                refine z_aload_n hR dX0_goThrough_45 rfl rfl ?_
                refine g_get hR dX0_goThrough_46 zf_0_18 (wk_34 _) (show _ = some (Value.ref 37) from rfl) ?_
                refine z_iload_n hR dX0_goThrough_49 rfl rfl ?_
                refine g_ialdN hR dX0_goThrough_50 (wk_37 _) (show (xw g r b1 (FF n mB sz S (P * (n + 1) ^ (k + 1)) ((u + 1) * (n + 1) ^ k)).1 (FF n mB sz S (P * (n + 1) ^ (k + 1)) ((u + 1) * (n + 1) ^ k)).2.1) 37 u = r u from rfl) ?_
                refine g_iconst hR dX0_goThrough_51 ?_
                refine g_icmp_ne hR (tgt := 107) dX0_goThrough_52 (by decide) (fun c52 => ?_) (fun c52 => ?_)
                · refine g_iinc hR dX0_goThrough_107 rfl rfl (by decide) rfl ?_
                  refine z_goto hR (tgt := 37) dX0_goThrough_110 (by decide) ?_
                  first | (rw [xw_37, iu_back (by omega) hri c52]; exact ihu (u + 1) _ (by omega) (by omega) (by omega) hb2) | (have e := FF_sub (n := n) (mB := mB) (sz := sz) S P k (u + 1); rw [dead_3 _ hik hA hM hiu hun c52] at e; have hst := ihu (u + 1) b1 (by omega) (by omega) (by omega) (by rw [e]; exact hb1); rw [e] at hst; exact hst) | (have e := FF_sub (n := n) (mB := mB) (sz := sz) S P k (u + 1); rw [dead_4 _ hik hA hun c66] at e; have hst := ihu (u + 1) b1 (by omega) (by omega) (by omega) (by rw [e]; exact hb1); rw [e] at hst; exact hst)
                · refine z_aload_n hR dX0_goThrough_55 rfl rfl ?_
                  refine g_get hR dX0_goThrough_56 zf_0_15 (wk_34 _) (show _ = some (Value.ref 36) from rfl) ?_
                  refine z_iload_n hR dX0_goThrough_59 rfl rfl ?_
                  refine g_ialdN hR dX0_goThrough_60 (wk_36 _) (show (xw g r b1 (FF n mB sz S (P * (n + 1) ^ (k + 1)) ((u + 1) * (n + 1) ^ k)).1 (FF n mB sz S (P * (n + 1) ^ (k + 1)) ((u + 1) * (n + 1) ^ k)).2.1) 36 i = ((su i : Nat) : Int) from (hX.2.2.2.1 i hin).1) ?_
                  refine z_iload_n hR dX0_goThrough_61 rfl rfl ?_
                  refine g_ishrN hR dX0_goThrough_62 rfl ?_
                  refine g_iconst hR dX0_goThrough_63 ?_
                  refine g_iand1 hR dX0_goThrough_64 ((tb_int _ _).trans (by rw [(hX.2.2.2.1 i hin).2.2 u hun])) ?_
                  refine g_iconst hR dX0_goThrough_65 ?_
                  refine g_icmp_neb hR (tgt := 107) dX0_goThrough_66 (by decide) (fun c66 => ?_) (fun c66 => ?_)
                  · refine g_iinc hR dX0_goThrough_107 rfl rfl (by decide) rfl ?_
                    refine z_goto hR (tgt := 37) dX0_goThrough_110 (by decide) ?_
                    first | (rw [xw_37, iu_back (by omega) hri c52]; exact ihu (u + 1) _ (by omega) (by omega) (by omega) hb2) | (have e := FF_sub (n := n) (mB := mB) (sz := sz) S P k (u + 1); rw [dead_3 _ hik hA hM hiu hun c52] at e; have hst := ihu (u + 1) b1 (by omega) (by omega) (by omega) (by rw [e]; exact hb1); rw [e] at hst; exact hst) | (have e := FF_sub (n := n) (mB := mB) (sz := sz) S P k (u + 1); rw [dead_4 _ hik hA hun c66] at e; have hst := ihu (u + 1) b1 (by omega) (by omega) (by omega) (by rw [e]; exact hb1); rw [e] at hst; exact hst)
                  · refine z_aload_n hR dX0_goThrough_69 rfl rfl ?_
                    refine g_get hR dX0_goThrough_70 zf_0_18 (wk_34 _) (show _ = some (Value.ref 37) from rfl) ?_
                    refine z_iload_n hR dX0_goThrough_73 rfl rfl ?_
                    refine z_iload_n hR dX0_goThrough_74 rfl rfl ?_
                    refine g_iastN hR dX0_goThrough_75 (wk_37 _) ?_
                    rw [xw_37]
                    refine z_aload_n hR dX0_goThrough_76 rfl rfl ?_
                    refine g_get hR dX0_goThrough_77 zf_0_18 (wk_34 _) (show _ = some (Value.ref 37) from rfl) ?_
                    refine z_iload_n hR dX0_goThrough_80 rfl rfl ?_
                    refine z_iload_n hR dX0_goThrough_81 rfl rfl ?_
                    refine g_iastN hR dX0_goThrough_82 (wk_37 _) ?_
                    rw [xw_37]
                    refine z_aload_n hR dX0_goThrough_83 rfl rfl ?_
                    refine z_iload_n hR dX0_goThrough_84 rfl rfl ?_
                    refine g_iconst hR dX0_goThrough_85 ?_
                    refine g_iadd hR dX0_goThrough_86 (nadd _ 1) ?_
                    refine z_iload_n hR dX0_goThrough_87 rfl rfl ?_
                    refine g_iconst hR dX0_goThrough_88 ?_
                    refine g_iadd hR dX0_goThrough_89 rfl ?_
                    refine g_inv2 hR dX0_goThrough_90 zm_0_44 (by decide) zN_X0_goThrough ((wk_34 _) _) zO_X0_goThrough (Nat.le_of_ble_eq_true rfl) ?_
                    rw [← prB_pair hiu hun hri c52]
                    refine ih (i + 1) (by omega) d _ b1 (FF n mB sz S (P * (n + 1) ^ (k + 1)) ((u + 1) * (n + 1) ^ k)) (P * (n + 1) + (u + 1)) _ (AI_child hik hA (by omega) (fun j hj => by rw [iu_n _ _ (by omega), iu_n _ _ (by omega)]) (by rw [iu_n _ _ (by omega), iu_s]; omega)) (MI_pair hX.2.2.2.2 hM hiu hun hri c52 c66) hb1 (by have h0 := FF_rg (n := n) (mB := mB) (sz := sz) (lo := P * (n + 1) ^ (k + 1)) hS ((u + 1) * (n + 1) ^ k); exact ⟨h0.1.1, h0.2⟩) (fun b2 hb2 => ?_)
                    rw [← FF_sub] at hb2 ⊢
                    show R 93 _ _ _
                    refine z_aload_n hR dX0_goThrough_93 rfl rfl ?_
                    refine g_get hR dX0_goThrough_94 zf_0_18 (wk_34 _) (show _ = some (Value.ref 37) from rfl) ?_
                    refine z_iload_n hR dX0_goThrough_97 rfl rfl ?_
                    refine g_iconst hR dX0_goThrough_98 ?_
                    refine g_iastN hR dX0_goThrough_99 (wk_37 _) ?_
                    rw [xw_37]
                    refine z_aload_n hR dX0_goThrough_100 rfl rfl ?_
                    refine g_get hR dX0_goThrough_101 zf_0_18 (wk_34 _) (show _ = some (Value.ref 37) from rfl) ?_
                    refine z_iload_n hR dX0_goThrough_104 rfl rfl ?_
                    refine g_iconst hR dX0_goThrough_105 ?_
                    refine g_iastN hR dX0_goThrough_106 (wk_37 _) ?_
                    refine g_iinc hR dX0_goThrough_107 rfl rfl (by decide) rfl ?_
                    refine z_goto hR (tgt := 37) dX0_goThrough_110 (by decide) ?_
                    first | (rw [xw_37, iu_back (by omega) hri c52]; exact ihu (u + 1) _ (by omega) (by omega) (by omega) hb2) | (have e := FF_sub (n := n) (mB := mB) (sz := sz) S P k (u + 1); rw [dead_3 _ hik hA hM hiu hun c52] at e; have hst := ihu (u + 1) b1 (by omega) (by omega) (by omega) (by rw [e]; exact hb1); rw [e] at hst; exact hst) | (have e := FF_sub (n := n) (mB := mB) (sz := sz) S P k (u + 1); rw [dead_4 _ hik hA hun c66] at e; have hst := ihu (u + 1) b1 (by omega) (by omega) (by omega) (by rw [e]; exact hb1); rw [e] at hst; exact hst)
          exact lp (n + 1) (i + 1) b1 (by omega) (by omega) (by omega) hb1
        · exact absurd rfl c29
      · exact absurd c5 (by omega)
    · have FFa : FF n mB sz S ((P * (n + 1) + (k0 + 1)) * (n + 1) ^ k) ((n + 1) ^ k) = FF n mB sz S (P * (n + 1) ^ (k + 1)) ((n + 1) ^ (k + 1)) := by
        have h0 := dead_up (n := n) (mB := mB) (sz := sz) S (P := P) (k := k) (a := 0) (k0 + 1) (fun e h1 h2 S => dead_1 S hik hA hM (by omega) hr0 (by omega))
        have h1 := FF_sub (n := n) (mB := mB) (sz := sz) S P k (k0 + 1)
        have h2 := dead_up (n := n) (mB := mB) (sz := sz) S (P := P) (k := k) (a := k0 + 2) (n - (k0 + 1)) (fun e h1 h2 S => dead_1 S hik hA hM (by omega) hr0 (by omega))
        rw [show k0 + 2 + (n - (k0 + 1)) = n + 1 by omega, hpw] at h2
        rw [Nat.zero_add, Nat.zero_mul] at h0
        rw [h2, h1, h0]
        rfl
      refine z_iload_n hR dX0_goThrough_0 rfl rfl ?_
      refine z_aload_n hR dX0_goThrough_1 rfl rfl ?_
      refine g_get hR dX0_goThrough_2 zf_0_24 (wk_34 _) (gi (show (xw g r b S.1 S.2.1) 34 4 = (n : Int) from hX.2.1)) ?_
      refine g_icmp_lt hR (tgt := 14) dX0_goThrough_5 (by decide) (fun c5 => ?_) (fun c5 => ?_)
      · refine z_aload_n hR dX0_goThrough_14 rfl rfl ?_
        refine z_iload_n hR dX0_goThrough_15 rfl rfl ?_
        refine g_iconst hR dX0_goThrough_16 ?_
        refine g_iadd hR dX0_goThrough_17 (nadd _ 1) ?_
        refine z_iload_n hR dX0_goThrough_18 rfl rfl ?_
        refine g_inv2 hR dX0_goThrough_19 zm_0_44 (by decide) zN_X0_goThrough ((wk_34 _) _) zO_X0_goThrough (Nat.le_of_ble_eq_true rfl) ?_
        refine ih (i + 1) (by omega) d r b S (P * (n + 1) + (k0 + 1)) _ (AI_child hik hA (by omega) (fun _ _ => rfl) (by rw [hr0]; omega)) (MI_s hM) hB hS (fun b1 hb1 => ?_)
        rw [FFa] at hb1 ⊢
        show R 22 _ _ _
        refine z_aload_n hR dX0_goThrough_22 rfl rfl ?_
        refine g_get hR dX0_goThrough_23 zf_0_18 (wk_34 _) (show _ = some (Value.ref 37) from rfl) ?_
        refine z_iload_n hR dX0_goThrough_26 rfl rfl ?_
        refine g_ialdN hR dX0_goThrough_27 (wk_37 _) (show (xw g r b1 (FF n mB sz S (P * (n + 1) ^ (k + 1)) ((n + 1) ^ (k + 1))).1 (FF n mB sz S (P * (n + 1) ^ (k + 1)) ((n + 1) ^ (k + 1))).2.1) 37 i = (k0 : Int) from hr0) ?_
        refine g_iconst hR dX0_goThrough_28 ?_
        refine g_icmp_eq hR (tgt := 33) dX0_goThrough_29 (by decide) (fun c29 => ?_) (fun c29 => ?_)
        · exact absurd c29 (by omega)
        · refine g_vret hR dX0_goThrough_32 rfl ?_
          exact hQ b1 hb1
      · exact absurd c5 (by omega)
def filI (N : Nat) (v : Int) (f : FI) : FI := fun k => if k < N then v else f k
theorem filI_0 (v : Int) (f : FI) : filI 0 v f = f := by funext k; simp [filI]
theorem filI_s (v : Int) (f : FI) (i : Nat) : iu (filI i v f) i v = filI (i + 1) v f := by
  funext j
  simp only [iu, filI]
  by_cases e : j = i
  · subst e
    simp
  · simp only [if_neg e]
    by_cases h2 : j < i
    · have : j < i + 1 := by omega
      simp [h2, this]
    · have : ¬ j < i + 1 := by omega
      simp [h2, this]
theorem c_J7_fill {zs : zzT} {d : Nat} {Q : zzQ} {g : Nat → Nat → Int} {hh : Int64} {a N : Nat} {v : Int} (hN : (N : Int) < 2147483648) (hw0 : ∀ r, wofR a r hh = some (.inl (0, N, ir r))) (hQ : Q [] (wof (gr g a (filI N v (g a))) hh)) : zzCL zs (d + 1) 47 [.ref a, .int (iI v)] (wof g hh) Q := by
  refine st_J7_fill_53178 (Nat.le_of_ble_eq_true rfl) (fun R hR => ?_)
  show R 0 [(0, .ref a), (1, .int (iI v))] [] _
  have loop : ∀ (k i : Nat), i ≤ N → N < i + k → R 5 [(0, .ref a), (1, .int (iI v)), (2, .int (iI (i : Int))), (3, .int (iI (N : Int)))] [] (wof (gr g a (filI i v (g a))) hh) := by
    intro k
    induction k with
    | zero => intro i; intros; omega
    | succ k ih =>
      intro i  hi1 hi2 
      refine z_iload_n hR dJ7_fill_53178_5 rfl rfl ?_
      refine z_iload_n hR dJ7_fill_53178_6 rfl rfl ?_
      refine g_icmp_ge hR (tgt := 20) dJ7_fill_53178_7 (by decide) (fun c7 => ?_) (fun c7 => ?_)
      · refine g_vret hR dJ7_fill_53178_20 rfl ?_
        have e : i = N := by omega
        subst e
        exact hQ
      · have hin : i < N := by omega
        refine z_aload_n hR dJ7_fill_53178_10 rfl rfl ?_
        refine z_iload_n hR dJ7_fill_53178_11 rfl rfl ?_
        refine z_iload_n hR dJ7_fill_53178_12 rfl rfl ?_
        refine g_iastN hR dJ7_fill_53178_13 hw0 ?_ (hn := hN)
        rw [gr_s, gr_gr, filI_s]
        refine g_iinc hR dJ7_fill_53178_14 rfl rfl (by decide) rfl ?_
        refine z_goto hR (tgt := 5) dJ7_fill_53178_17 (by decide) ?_
        exact ih (i + 1) (by omega) (by omega)
  refine g_iconst hR dJ7_fill_53178_0 ?_
  refine z_istore_n hR dJ7_fill_53178_1 rfl (by decide) rfl ?_
  refine z_aload_n hR dJ7_fill_53178_2 rfl rfl ?_
  refine z_alen hR (v := iI (N : Int)) dJ7_fill_53178_3 (hw0 _) rfl ?_
  refine z_istore_n hR dJ7_fill_53178_4 rfl (by decide) rfl ?_
  have hl := loop (N + 1) 0 (by omega) (by omega)
  rw [filI_0, gr_self] at hl
  exact hl
