theorem lk_none {sz : FI} {b : Nat} : true = lk sz b (-1) := by simp [lk]
theorem lkN_t {sz : FI} {b t : Nat} (h : sz t < sz b ∨ (sz b = sz t ∧ b < t)) : true = lk sz b (t : Int) := by
  unfold lk
  rw [Int.toNat_natCast]
  rcases h with h | h
  · rw [decide_eq_true h]; simp
  · rw [decide_eq_true h.1, decide_eq_true (show (b : Int) < (t : Int) by omega)]; simp
theorem lkN_f {sz : FI} {b t : Nat} (h : ¬ (sz t < sz b ∨ (sz b = sz t ∧ b < t))) : false = lk sz b (t : Int) := by
  unfold lk
  rw [Int.toNat_natCast, decide_eq_false (show ¬ (t : Int) = -1 by omega), decide_eq_false (show ¬ sz t < sz b by omega)]
  by_cases q : sz b = sz t
  · rw [decide_eq_true q, decide_eq_false (show ¬ (b : Int) < (t : Int) by omega)]; rfl
  · rw [decide_eq_false q]; rfl
theorem c_X0_likesBetter {zs : zzT} {d : Nat} {Q : zzQ} {gg : Nat → Nat → Int} {hh : Int64} {n b : Nat} {sz : FI} (hn5 : n ≤ 5) (hsz : ∀ j, j < n → gg 35 j = sz j ∧ 1 ≤ sz j ∧ sz j ≤ 9) (hb : b < n) {t : Int} (ht : -1 ≤ t ∧ t < n) (hQ : Q [.int (iI (b2i (lk sz b t)))] (wof gg hh)) : zzCL zs (d + 1) 53 [.ref 34, .int (iI (b : Int)), .int (iI t)] (wof gg hh) Q := by
  refine st_X0_likesBetter (Nat.le_of_ble_eq_true rfl) (fun R hR => ?_)
  show R 0 [(0, .ref 34), (1, .int (iI (b : Int))), (2, .int (iI t))] [] _
  refine z_iload_n hR dX0_likesBetter_0 rfl rfl ?_
  refine g_iconst hR dX0_likesBetter_1 ?_
  refine g_icmp_ne hR (tgt := 7) dX0_likesBetter_2 (by decide) (fun c2 => ?_) (fun c2 => ?_)
  · obtain ⟨t0, rfl⟩ := Int.eq_ofNat_of_zero_le (show 0 ≤ t by omega)
    have ht0 : t0 < n := by omega
    have hb1 := (hsz b hb).2
    have hb2 := (hsz t0 ht0).2
    refine z_aload_n hR dX0_likesBetter_7 rfl rfl ?_
    refine g_get hR dX0_likesBetter_8 zf_0_9 (wk_34 _) (show _ = some (Value.ref 35) from rfl) ?_
    refine z_iload_n hR dX0_likesBetter_11 rfl rfl ?_
    refine g_ialdN hR dX0_likesBetter_12 (wk_35 _) (hsz b hb).1 ?_
    refine z_aload_n hR dX0_likesBetter_13 rfl rfl ?_
    refine g_get hR dX0_likesBetter_14 zf_0_9 (wk_34 _) (show _ = some (Value.ref 35) from rfl) ?_
    refine z_iload_n hR dX0_likesBetter_17 rfl rfl ?_
    refine g_ialdN hR dX0_likesBetter_18 (wk_35 _) (hsz t0 ht0).1 ?_
    refine g_icmp_gt hR (tgt := 42) dX0_likesBetter_19 (by decide) (fun c19 => ?_) (fun c19 => ?_)
    · refine g_iconst hR dX0_likesBetter_42 ?_
      refine z_goto hR (tgt := 47) dX0_likesBetter_43 (by decide) ?_
      refine g_zret (b := true) hR dX0_likesBetter_47 rfl ?_
      first | exact qz hQ (lkN_t (by omega)) | exact qz hQ (lkN_f (by omega))
    · refine z_aload_n hR dX0_likesBetter_22 rfl rfl ?_
      refine g_get hR dX0_likesBetter_23 zf_0_9 (wk_34 _) (show _ = some (Value.ref 35) from rfl) ?_
      refine z_iload_n hR dX0_likesBetter_26 rfl rfl ?_
      refine g_ialdN hR dX0_likesBetter_27 (wk_35 _) (hsz b hb).1 ?_
      refine z_aload_n hR dX0_likesBetter_28 rfl rfl ?_
      refine g_get hR dX0_likesBetter_29 zf_0_9 (wk_34 _) (show _ = some (Value.ref 35) from rfl) ?_
      refine z_iload_n hR dX0_likesBetter_32 rfl rfl ?_
      refine g_ialdN hR dX0_likesBetter_33 (wk_35 _) (hsz t0 ht0).1 ?_
      refine g_icmp_ne hR (tgt := 46) dX0_likesBetter_34 (by decide) (fun c34 => ?_) (fun c34 => ?_)
      · refine g_iconst hR dX0_likesBetter_46 ?_
        refine g_zret (b := false) hR dX0_likesBetter_47 rfl ?_
        first | exact qz hQ (lkN_t (by omega)) | exact qz hQ (lkN_f (by omega))
      · refine z_iload_n hR dX0_likesBetter_37 rfl rfl ?_
        refine z_iload_n hR dX0_likesBetter_38 rfl rfl ?_
        refine g_icmp_ge hR (tgt := 46) dX0_likesBetter_39 (by decide) (fun c39 => ?_) (fun c39 => ?_)
        · refine g_iconst hR dX0_likesBetter_46 ?_
          refine g_zret (b := false) hR dX0_likesBetter_47 rfl ?_
          first | exact qz hQ (lkN_t (by omega)) | exact qz hQ (lkN_f (by omega))
        · refine g_iconst hR dX0_likesBetter_42 ?_
          refine z_goto hR (tgt := 47) dX0_likesBetter_43 (by decide) ?_
          refine g_zret (b := true) hR dX0_likesBetter_47 rfl ?_
          first | exact qz hQ (lkN_t (by omega)) | exact qz hQ (lkN_f (by omega))
  · subst c2
    refine g_iconst hR dX0_likesBetter_5 ?_
    refine g_zret (b := true) hR dX0_likesBetter_6 rfl ?_
    exact qz hQ lk_none
theorem c_X4_likes {zs : zzT} {d : Nat} {Q : zzQ} {gg : Nat → Nat → Int} {hh : Int64} {n b : Nat} {sz : FI} (hn5 : n ≤ 5) (hsz : ∀ j, j < n → gg 42 (4 * j + 1) = sz j ∧ 1 ≤ sz j ∧ sz j ≤ 9) (hb : b < n) {t : Int} (ht : -1 ≤ t ∧ t < n) (hQ : Q [.int (iI (b2i (lk sz b t)))] (wof gg hh)) : zzCL zs (d + 1) 116 [.ref 39, .int (iI (b : Int)), .int (iI t)] (wof gg hh) Q := by
  refine st_X4_likes (Nat.le_of_ble_eq_true rfl) (fun R hR => ?_)
  show R 0 [(0, .ref 39), (1, .int (iI (b : Int))), (2, .int (iI t))] [] _
  refine z_iload_n hR dX4_likes_0 rfl rfl ?_
  refine g_iconst hR dX4_likes_1 ?_
  refine g_icmp_eq hR (tgt := 56) dX4_likes_2 (by decide) (fun c2 => ?_) (fun c2 => ?_)
  · subst c2
    refine g_iconst hR dX4_likes_56 ?_
    refine z_goto hR (tgt := 61) dX4_likes_57 (by decide) ?_
    refine g_zret (b := true) hR dX4_likes_61 rfl ?_
    first | exact qz hQ lk_none | exact qz hQ (lkN_t (by omega)) | exact qz hQ (lkN_f (by omega))
  · obtain ⟨t0, rfl⟩ := Int.eq_ofNat_of_zero_le (show 0 ≤ t by omega)
    have ht0 : t0 < n := by omega
    have hb1 := (hsz b hb).2
    have hb2 := (hsz t0 ht0).2
    refine z_aload_n hR dX4_likes_5 rfl rfl ?_
    refine g_get hR dX4_likes_6 zf_4_16 (wk_39 _) (show _ = some (Value.ref 42) from rfl) ?_
    refine g_iconst hR dX4_likes_9 ?_
    refine z_iload_n hR dX4_likes_10 rfl rfl ?_
    refine g_imul hR dX4_likes_11 (nmul 4 _) ?_
    refine g_iconst hR dX4_likes_12 ?_
    refine g_iadd hR dX4_likes_13 (nadd _ 1) ?_
    refine g_ialdN hR dX4_likes_14 (wk_42 _) (hsz b hb).1 ?_
    refine z_aload_n hR dX4_likes_15 rfl rfl ?_
    refine g_get hR dX4_likes_16 zf_4_16 (wk_39 _) (show _ = some (Value.ref 42) from rfl) ?_
    refine g_iconst hR dX4_likes_19 ?_
    refine z_iload_n hR dX4_likes_20 rfl rfl ?_
    refine g_imul hR dX4_likes_21 (nmul 4 _) ?_
    refine g_iconst hR dX4_likes_22 ?_
    refine g_iadd hR dX4_likes_23 (nadd _ 1) ?_
    refine g_ialdN hR dX4_likes_24 (wk_42 _) (hsz t0 ht0).1 ?_
    refine g_icmp_gt hR (tgt := 56) dX4_likes_25 (by decide) (fun c25 => ?_) (fun c25 => ?_)
    · refine g_iconst hR dX4_likes_56 ?_
      refine z_goto hR (tgt := 61) dX4_likes_57 (by decide) ?_
      refine g_zret (b := true) hR dX4_likes_61 rfl ?_
      first | exact qz hQ lk_none | exact qz hQ (lkN_t (by omega)) | exact qz hQ (lkN_f (by omega))
    · refine z_aload_n hR dX4_likes_28 rfl rfl ?_
      refine g_get hR dX4_likes_29 zf_4_16 (wk_39 _) (show _ = some (Value.ref 42) from rfl) ?_
      refine g_iconst hR dX4_likes_32 ?_
      refine z_iload_n hR dX4_likes_33 rfl rfl ?_
      refine g_imul hR dX4_likes_34 (nmul 4 _) ?_
      refine g_iconst hR dX4_likes_35 ?_
      refine g_iadd hR dX4_likes_36 (nadd _ 1) ?_
      refine g_ialdN hR dX4_likes_37 (wk_42 _) (hsz b hb).1 ?_
      refine z_aload_n hR dX4_likes_38 rfl rfl ?_
      refine g_get hR dX4_likes_39 zf_4_16 (wk_39 _) (show _ = some (Value.ref 42) from rfl) ?_
      refine g_iconst hR dX4_likes_42 ?_
      refine z_iload_n hR dX4_likes_43 rfl rfl ?_
      refine g_imul hR dX4_likes_44 (nmul 4 _) ?_
      refine g_iconst hR dX4_likes_45 ?_
      refine g_iadd hR dX4_likes_46 (nadd _ 1) ?_
      refine g_ialdN hR dX4_likes_47 (wk_42 _) (hsz t0 ht0).1 ?_
      refine g_icmp_ne hR (tgt := 60) dX4_likes_48 (by decide) (fun c48 => ?_) (fun c48 => ?_)
      · refine g_iconst hR dX4_likes_60 ?_
        refine g_zret (b := false) hR dX4_likes_61 rfl ?_
        first | exact qz hQ lk_none | exact qz hQ (lkN_t (by omega)) | exact qz hQ (lkN_f (by omega))
      · refine z_iload_n hR dX4_likes_51 rfl rfl ?_
        refine z_iload_n hR dX4_likes_52 rfl rfl ?_
        refine g_icmp_ge hR (tgt := 60) dX4_likes_53 (by decide) (fun c53 => ?_) (fun c53 => ?_)
        · refine g_iconst hR dX4_likes_60 ?_
          refine g_zret (b := false) hR dX4_likes_61 rfl ?_
          first | exact qz hQ lk_none | exact qz hQ (lkN_t (by omega)) | exact qz hQ (lkN_f (by omega))
        · refine g_iconst hR dX4_likes_56 ?_
          refine z_goto hR (tgt := 61) dX4_likes_57 (by decide) ?_
          refine g_zret (b := true) hR dX4_likes_61 rfl ?_
          first | exact qz hQ lk_none | exact qz hQ (lkN_t (by omega)) | exact qz hQ (lkN_f (by omega))
theorem bad_m {mB : Nat → Nat → Bool} {sz h : FI} {a b : Nat} (q : mB a b = false) : bad mB sz h a b = false := by unfold bad; rw [q]; rfl
theorem bad_e {mB : Nat → Nat → Bool} {sz h : FI} {a b : Nat} (q : h a = (b : Int)) : bad mB sz h a b = false := by unfold bad; rw [decide_eq_false (fun z => z q)]; simp
theorem bad_1 {mB : Nat → Nat → Bool} {sz h : FI} {a b : Nat} (q : lk sz b (h a) = false) : bad mB sz h a b = false := by unfold bad; rw [q]; simp
theorem bad_2 {mB : Nat → Nat → Bool} {sz h : FI} {a b : Nat} (q : lk sz a (h b) = false) : bad mB sz h a b = false := by unfold bad; rw [q]; simp
theorem bad_t {mB : Nat → Nat → Bool} {sz h : FI} {a b : Nat} (q1 : mB a b = true) (q2 : h a ≠ (b : Int)) (q3 : lk sz b (h a) = true) (q4 : lk sz a (h b) = true) : bad mB sz h a b = true := by unfold bad; rw [q1, decide_eq_true q2, q3, q4]; rfl
theorem stB_f {n : Nat} {mB : Nat → Nat → Bool} {sz h : FI} {a b : Nat} (hab : a < b) (hb : b < n) (q : bad mB sz h a b = true) : false = stB n mB sz h := by
  cases e : stB n mB sz h
  · rfl
  · rw [stB_iff.mp e a b hab hb] at q; exact absurd q (by decide)
theorem c_X0_isStable {zs : zzT} {d : Nat} {Q : zzQ} {gg : Nat → Nat → Int} {hh : Int64} {n : Nat} {mB : Nat → Nat → Bool} {sz r : FI} (hn5 : n ≤ 5) (hn4 : gg 34 4 = (n : Int)) (hsz : ∀ j, j < n → gg 35 j = sz j ∧ 1 ≤ sz j ∧ sz j ≤ 9) {su : Nat → Nat} (hsu : ∀ j, j < n → gg 36 j = ((su j : Nat) : Int) ∧ su j < 2 ^ n ∧ ∀ t, t < n → (su j).testBit t = mB j t) (h37 : gg 37 = r) (hrr : hrg n r) (hQ : Q [.int (iI (b2i (stB n mB sz r)))] (wof gg hh)) : zzCL zs (d + 2) 52 [.ref 34] (wof gg hh) Q := by
  refine st_X0_isStable (Nat.le_of_ble_eq_true rfl) (fun R hR => ?_)
  show R 0 [(0, .ref 34)] [] _
  have h32 : (2 : Nat) ^ n ≤ 32 := Nat.pow_le_pow_right (n := 2) (by decide) hn5
  have loop : ∀ (k i : Nat), i ≤ n → n < i + k → (∀ a b, a < b → b < n → a < i → bad mB sz r a b = false) → R 2 [(0, .ref 34), (1, .int (iI (i : Int)))] [] (wof gg hh) := by
    intro k
    induction k with
    | zero => intro i; intros; omega
    | succ k ih =>
      intro i  hi1 hi2 hO
      refine z_iload_n hR dX0_isStable_2 rfl rfl ?_
      refine z_aload_n hR dX0_isStable_3 rfl rfl ?_
      refine g_get hR dX0_isStable_4 zf_0_24 (wk_34 _) (gi hn4) ?_
      refine g_icmp_ge hR (tgt := 98) dX0_isStable_7 (by decide) (fun c7 => ?_) (fun c7 => ?_)
      · refine g_iconst hR dX0_isStable_98 ?_
        refine g_zret (b := true) hR dX0_isStable_99 rfl ?_
        have e : i = n := by omega
        subst e
        exact qz hQ (stB_iff.mpr (fun a b hab hb => hO a b hab hb (by omega))).symm
      · have hin : i < n := by omega
        refine z_iload_n hR dX0_isStable_10 rfl rfl ?_
        refine g_iconst hR dX0_isStable_11 ?_
        refine g_iadd hR dX0_isStable_12 (nadd _ 1) ?_
        refine z_istore_n hR dX0_isStable_13 rfl (by decide) rfl ?_
        have lp2 : ∀ (ku u : Nat), u ≤ n → n < u + ku → (i < u) → (∀ a b, a < b → b < n → (a < i ∨ (a = i ∧ b < u)) → bad mB sz r a b = false) → R 14 [(0, .ref 34), (1, .int (iI (i : Int))), (2, .int (iI (u : Int)))] [] (wof gg hh) := by
          intro ku
          induction ku with
          | zero => intro u; intros; omega
          | succ ku ihu =>
            intro u  hu1 hu2 hiu hI
            refine z_iload_n hR dX0_isStable_14 rfl rfl ?_
            refine z_aload_n hR dX0_isStable_15 rfl rfl ?_
            refine g_get hR dX0_isStable_16 zf_0_24 (wk_34 _) (gi hn4) ?_
            refine g_icmp_ge hR (tgt := 92) dX0_isStable_19 (by decide) (fun c19 => ?_) (fun c19 => ?_)
            · refine g_iinc hR dX0_isStable_92 rfl rfl (by decide) rfl ?_
              refine z_goto hR (tgt := 2) dX0_isStable_95 (by decide) ?_
              refine z_sub hR [0, 1] rfl ?_
              exact ih (i + 1) (by omega) (by omega) (fun a b hab hb hd => hI a b hab hb (by omega))
            · have hun : u < n := by omega
              have hsl := (hsu i hin).2.1
              have hri := hrr i hin
              have hru := hrr u hun
              refine z_aload_n hR dX0_isStable_22 rfl rfl ?_
              refine g_get hR dX0_isStable_23 zf_0_15 (wk_34 _) (show _ = some (Value.ref 36) from rfl) ?_
              refine z_iload_n hR dX0_isStable_26 rfl rfl ?_
              refine g_ialdN hR dX0_isStable_27 (wk_36 _) (hsu i hin).1 ?_
              refine z_iload_n hR dX0_isStable_28 rfl rfl ?_
              refine g_ishrN hR dX0_isStable_29 rfl ?_
              refine g_iconst hR dX0_isStable_30 ?_
              refine g_iand1 hR dX0_isStable_31 ((tb_int _ _).trans (by rw [(hsu i hin).2.2 u hun])) ?_
              refine g_iconst hR dX0_isStable_32 ?_
              refine g_icmp_neb hR (tgt := 40) dX0_isStable_33 (by decide) (fun c33 => ?_) (fun c33 => ?_)
              · refine g_iconst hR dX0_isStable_40 ?_
                refine z_istore_n hR dX0_isStable_41 rfl (by decide) rfl ?_
                refine z_iload_n hR dX0_isStable_42 rfl rfl ?_
                refine g_if_eq hR (tgt := 86) dX0_isStable_43 (by decide) (fun c43 => ?_) (fun c43 => ?_)
                · refine g_iinc hR dX0_isStable_86 rfl rfl (by decide) rfl ?_
                  refine z_goto hR (tgt := 14) dX0_isStable_89 (by decide) ?_
                  refine z_sub hR [0, 1, 2] rfl ?_
                  refine ihu (u + 1) (by omega) (by omega) (by omega) (fun a b hab hb hd => ?_)
                  rcases Classical.em (a < i ∨ (a = i ∧ b < u)) with z | z
                  · exact hI a b hab hb z
                  · obtain ⟨rfl, rfl⟩ : a = i ∧ b = u := by omega
                    first | exact bad_m c33 | exact bad_e c53 | exact bad_1 c67 | exact bad_2 c81
                · exact absurd rfl c43
              · refine g_iconst hR dX0_isStable_36 ?_
                refine z_goto hR (tgt := 41) dX0_isStable_37 (by decide) ?_
                refine z_istore_n hR dX0_isStable_41 rfl (by decide) rfl ?_
                refine z_iload_n hR dX0_isStable_42 rfl rfl ?_
                refine g_if_eq hR (tgt := 86) dX0_isStable_43 (by decide) (fun c43 => ?_) (fun c43 => ?_)
                · exact absurd c43 (by decide)
                · refine z_aload_n hR dX0_isStable_46 rfl rfl ?_
                  refine g_get hR dX0_isStable_47 zf_0_18 (wk_34 _) (show _ = some (Value.ref 37) from rfl) ?_
                  refine z_iload_n hR dX0_isStable_50 rfl rfl ?_
                  refine g_ialdN hR dX0_isStable_51 (wk_37 _) (show gg 37 i = r i by rw [h37]) ?_
                  refine z_iload_n hR dX0_isStable_52 rfl rfl ?_
                  refine g_icmp_eq hR (tgt := 86) dX0_isStable_53 (by decide) (fun c53 => ?_) (fun c53 => ?_)
                  · refine g_iinc hR dX0_isStable_86 rfl rfl (by decide) rfl ?_
                    refine z_goto hR (tgt := 14) dX0_isStable_89 (by decide) ?_
                    refine z_sub hR [0, 1, 2] rfl ?_
                    refine ihu (u + 1) (by omega) (by omega) (by omega) (fun a b hab hb hd => ?_)
                    rcases Classical.em (a < i ∨ (a = i ∧ b < u)) with z | z
                    · exact hI a b hab hb z
                    · obtain ⟨rfl, rfl⟩ : a = i ∧ b = u := by omega
                      first | exact bad_m c33 | exact bad_e c53 | exact bad_1 c67 | exact bad_2 c81
                  · refine z_aload_n hR dX0_isStable_56 rfl rfl ?_
                    refine z_iload_n hR dX0_isStable_57 rfl rfl ?_
                    refine z_aload_n hR dX0_isStable_58 rfl rfl ?_
                    refine g_get hR dX0_isStable_59 zf_0_18 (wk_34 _) (show _ = some (Value.ref 37) from rfl) ?_
                    refine z_iload_n hR dX0_isStable_62 rfl rfl ?_
                    refine g_ialdN hR dX0_isStable_63 (wk_37 _) (show gg 37 i = r i by rw [h37]) ?_
                    refine g_inv2 hR dX0_isStable_64 zm_0_62 (by decide) zN_X0_likesBetter ((wk_34 _) _) zO_X0_likesBetter (Nat.le_of_ble_eq_true rfl) ?_
                    refine c_X0_likesBetter hn5 hsz hun (hrr i hin) ?_
                    show R 67 _ (.int _ :: _) _
                    refine g_if_eqb hR (tgt := 86) dX0_isStable_67 (by decide) (fun c67 => ?_) (fun c67 => ?_)
                    · refine g_iinc hR dX0_isStable_86 rfl rfl (by decide) rfl ?_
                      refine z_goto hR (tgt := 14) dX0_isStable_89 (by decide) ?_
                      refine z_sub hR [0, 1, 2] rfl ?_
                      refine ihu (u + 1) (by omega) (by omega) (by omega) (fun a b hab hb hd => ?_)
                      rcases Classical.em (a < i ∨ (a = i ∧ b < u)) with z | z
                      · exact hI a b hab hb z
                      · obtain ⟨rfl, rfl⟩ : a = i ∧ b = u := by omega
                        first | exact bad_m c33 | exact bad_e c53 | exact bad_1 c67 | exact bad_2 c81
                    · refine z_aload_n hR dX0_isStable_70 rfl rfl ?_
                      refine z_iload_n hR dX0_isStable_71 rfl rfl ?_
                      refine z_aload_n hR dX0_isStable_72 rfl rfl ?_
                      refine g_get hR dX0_isStable_73 zf_0_18 (wk_34 _) (show _ = some (Value.ref 37) from rfl) ?_
                      refine z_iload_n hR dX0_isStable_76 rfl rfl ?_
                      refine g_ialdN hR dX0_isStable_77 (wk_37 _) (show gg 37 u = r u by rw [h37]) ?_
                      refine g_inv2 hR dX0_isStable_78 zm_0_62 (by decide) zN_X0_likesBetter ((wk_34 _) _) zO_X0_likesBetter (Nat.le_of_ble_eq_true rfl) ?_
                      refine c_X0_likesBetter hn5 hsz hin (hrr u hun) ?_
                      show R 81 _ (.int _ :: _) _
                      refine g_if_eqb hR (tgt := 86) dX0_isStable_81 (by decide) (fun c81 => ?_) (fun c81 => ?_)
                      · refine g_iinc hR dX0_isStable_86 rfl rfl (by decide) rfl ?_
                        refine z_goto hR (tgt := 14) dX0_isStable_89 (by decide) ?_
                        refine z_sub hR [0, 1, 2] rfl ?_
                        refine ihu (u + 1) (by omega) (by omega) (by omega) (fun a b hab hb hd => ?_)
                        rcases Classical.em (a < i ∨ (a = i ∧ b < u)) with z | z
                        · exact hI a b hab hb z
                        · obtain ⟨rfl, rfl⟩ : a = i ∧ b = u := by omega
                          first | exact bad_m c33 | exact bad_e c53 | exact bad_1 c67 | exact bad_2 c81
                      · refine g_iconst hR dX0_isStable_84 ?_
                        refine g_zret (b := false) hR dX0_isStable_85 rfl ?_
                        exact qz hQ (stB_f (by omega) hun (bad_t c33 c53 c67 c81))
        exact lp2 (n + 1) (i + 1) (by omega) (by omega) (by omega) (fun a b hab hb hd => hO a b hab hb (by omega))
  refine g_iconst hR dX0_isStable_0 ?_
  refine z_istore_n hR dX0_isStable_1 rfl (by decide) rfl ?_
  exact loop (n + 1) 0 (by omega) (by omega) (fun a b _ _ h => absurd h (by omega))
/-- the matches at work -/
def xw (g : Nat → Nat → Int) (r b : FI) (s m : Int) : Nat → Nat → Int := gr (gr (gr g 37 r) 38 b) 34 (iu (iu (g 34) 5 s) 6 m)
theorem xw_37 (g : Nat → Nat → Int) (r b : FI) (s m : Int) (i : Nat) (z : Int) : gr (xw g r b s m) 37 (iu ((xw g r b s m) 37) i z) = xw g (iu r i z) b s m := by
  show gr (xw g r b s m) 37 (iu r i z) = _
  unfold xw
  rw [gr_comm _ _ _ (show (34 : Nat) ≠ 37 by decide), gr_sw (show (37 : Nat) ≠ 38 by decide)]
theorem xw_38 (g : Nat → Nat → Int) (r b b1 : FI) (s m : Int) : gr (xw g r b s m) 38 b1 = xw g r b1 s m := by
  unfold xw
  rw [gr_sw (show (38 : Nat) ≠ 34 by decide)]
theorem xw_5 (g : Nat → Nat → Int) (r b : FI) (s m z : Int) : gr (xw g r b s m) 34 (iu ((xw g r b s m) 34) 5 z) = xw g r b z m := by
  show gr (xw g r b s m) 34 (iu (iu (iu (g 34) 5 s) 6 m) 5 z) = _
  unfold xw
  rw [gr_gr, iu_sw (show (5 : Nat) ≠ 6 by decide)]
theorem xw_6 (g : Nat → Nat → Int) (r b : FI) (s m z : Int) : gr (xw g r b s m) 34 (iu ((xw g r b s m) 34) 6 z) = xw g r b s z := by
  show gr (xw g r b s m) 34 (iu (iu (iu (g 34) 5 s) 6 m) 6 z) = _
  unfold xw
  rw [gr_gr, iu_iu]
def BR (n : Nat) (b : FI) (S : MS) : Prop := ∀ j, j < n → b j = if S.2.1 = -1 then -1 else hsc n S.2.2 j
def MX (g : Nat → Nat → Int) (n : Nat) (mB : Nat → Nat → Bool) (sz : FI) (su : Nat → Nat) : Prop := n ≤ 5 ∧ g 34 4 = (n : Int) ∧ (∀ j, j < n → g 35 j = sz j ∧ 1 ≤ sz j ∧ sz j ≤ 9) ∧ (∀ j, j < n → g 36 j = ((su j : Nat) : Int) ∧ su j < 2 ^ n ∧ ∀ t, t < n → (su j).testBit t = mB j t) ∧ ∀ a b, a < n → b < n → mB a b = mB b a
theorem wgh_f {S : MS} {pr : Int} {c : Nat} : wgh S false pr c = S := rfl
theorem wgh_t1 {S : MS} {pr : Int} {c : Nat} (h : S.2.1 < pr) : wgh S true pr c = (S.1 + 1, pr, c) := by unfold wgh; rw [if_pos rfl, if_pos h]
theorem wgh_t2 {S : MS} {pr : Int} {c : Nat} (h : ¬ S.2.1 < pr) : wgh S true pr c = (S.1 + 1, S.2) := by unfold wgh; rw [if_pos rfl, if_neg h]
theorem c_X0_weigh {zs : zzT} {d : Nat} {Q : zzQ} {g : Nat → Nat → Int} {hh : Int64} {n : Nat} {mB : Nat → Nat → Bool} {sz : FI} {su : Nat → Nat} (hX : MX g n mB sz su) {r b : FI} (hrr : hrg n r) {S : MS} (hS : -1 ≤ S.2.1 ∧ S.2.1 ≤ n) {P : Nat} (hP : ∀ j, j < n → r j = hsc n P j) (hB : BR n b S) (hQ : ∀ b1, BR n b1 (wgh S (stB n mB sz r) (prB n r) P) → Q [] (wof (xw g r b1 (wgh S (stB n mB sz r) (prB n r) P).1 (wgh S (stB n mB sz r) (prB n r) P).2.1) hh)) : zzCL zs (d + 3) 51 [.ref 34, .int (iI (prB n r))] (wof (xw g r b S.1 S.2.1) hh) Q := by
  refine st_X0_weigh (Nat.le_of_ble_eq_true rfl) (fun R hR => ?_)
  show R 0 [(0, .ref 34), (1, .int (iI (prB n r)))] [] _
  have hpr := prB_rg n r
  have hn5 := hX.1
  refine z_aload_n hR dX0_weigh_0 rfl rfl ?_
  refine g_inv0 hR dX0_weigh_1 zm_0_52 (by decide) zN_X0_isStable ((wk_34 _) _) zO_X0_isStable (Nat.le_of_ble_eq_true rfl) ?_
  refine c_X0_isStable (gg := xw g r b S.1 S.2.1) (r := r) hX.1 hX.2.1 hX.2.2.1 hX.2.2.2.1 rfl hrr ?_
  show R 4 _ (.int _ :: _) _
  refine g_if_neb hR (tgt := 8) dX0_weigh_4 (by decide) (fun c4 => ?_) (fun c4 => ?_)
  · refine z_aload_n hR dX0_weigh_8 rfl rfl ?_
    refine z_dup hR dX0_weigh_9 rfl ?_
    refine g_get hR dX0_weigh_10 zf_0_28 (wk_34 _) (gi (show (xw g r b S.1 S.2.1) 34 5 = S.1 from rfl)) ?_
    refine g_iconst hR dX0_weigh_13 ?_
    refine g_iadd hR dX0_weigh_14 rfl ?_
    refine g_put hR dX0_weigh_15 zf_0_28 (wk_34 _) (Nat.le_of_ble_eq_true rfl) rfl rfl rfl rfl ?_
    rw [xw_5]
    refine z_iload_n hR dX0_weigh_18 rfl rfl ?_
    refine z_aload_n hR dX0_weigh_19 rfl rfl ?_
    refine g_get hR dX0_weigh_20 zf_0_31 (wk_34 _) (gi (show (xw g r b (S.1 + 1) S.2.1) 34 6 = S.2.1 from rfl)) ?_
    refine g_icmp_le hR (tgt := 45) dX0_weigh_23 (by decide) (fun c23 => ?_) (fun c23 => ?_)
    · refine g_vret hR dX0_weigh_45 rfl ?_
      rw [c4] at hQ
      first | (rw [wgh_t1 (by omega)] at hQ; refine hQ _ (fun j hj => ?_); rw [if_neg (show ¬ prB n r = -1 by omega)]; show cpyI 5 r b j = hsc n P j; rw [cpyI_in j (by omega)]; exact hP j hj) | (rw [wgh_t2 (by omega)] at hQ; exact hQ b hB)
    · refine z_aload_n hR dX0_weigh_26 rfl rfl ?_
      refine z_iload_n hR dX0_weigh_27 rfl rfl ?_
      refine g_put hR dX0_weigh_28 zf_0_31 (wk_34 _) (Nat.le_of_ble_eq_true rfl) rfl rfl rfl rfl ?_
      rw [xw_6]
      refine z_aload_n hR dX0_weigh_31 rfl rfl ?_
      refine g_get hR dX0_weigh_32 zf_0_18 (wk_34 _) (show _ = some (Value.ref 37) from rfl) ?_
      refine g_iconst hR dX0_weigh_35 ?_
      refine z_aload_n hR dX0_weigh_36 rfl rfl ?_
      refine g_get hR dX0_weigh_37 zf_0_21 (wk_34 _) (show _ = some (Value.ref 38) from rfl) ?_
      refine g_iconst hR dX0_weigh_40 ?_
      refine g_iconst hR dX0_weigh_41 ?_
      refine g_acopy (N := 5) hR dX0_weigh_42 za_0_56 (wk_37 _) (wk_38 _) (by decide) (by decide) (Nat.le_of_ble_eq_true rfl) ?_
      rw [xw_38]
      refine g_vret hR dX0_weigh_45 rfl ?_
      rw [c4] at hQ
      first | (rw [wgh_t1 (by omega)] at hQ; refine hQ _ (fun j hj => ?_); rw [if_neg (show ¬ prB n r = -1 by omega)]; show cpyI 5 r b j = hsc n P j; rw [cpyI_in j (by omega)]; exact hP j hj) | (rw [wgh_t2 (by omega)] at hQ; exact hQ b hB)
  · refine g_vret hR dX0_weigh_7 rfl ?_
    rw [c4, wgh_f] at hQ
    exact hQ b hB
