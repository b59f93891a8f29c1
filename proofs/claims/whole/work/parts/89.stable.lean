theorem ss_step {n : Nat} {mB : Nat → Nat → Bool} {sz h : FI} {k : Nat} {B B2 : Bool} (hn : n ≤ 5) (hB : B = true ↔ ∀ a b, a < b → b < n → a * 5 + b < k → bad mB sz h a b = false) (h2 : B2 = (B && !(decide (k / 5 < k % 5 ∧ k % 5 < n) && bad mB sz h (k / 5) (k % 5)))) : B2 = true ↔ ∀ a b, a < b → b < n → a * 5 + b < k + 1 → bad mB sz h a b = false := by
  rw [h2, Bool.and_eq_true, hB]
  constructor
  · rintro ⟨q1, q2⟩ a b hab hb hk
    rcases Nat.lt_or_eq_of_le (Nat.le_of_lt_succ hk) with z | z
    · exact q1 a b hab hb z
    · have e1 : k / 5 = a := by omega
      have e2 : k % 5 = b := by omega
      rw [e1, e2, decide_eq_true ⟨hab, hb⟩, Bool.true_and] at q2
      cases e : bad mB sz h a b
      · rfl
      · rw [e] at q2; exact absurd q2 (by decide)
  · intro q
    refine ⟨fun a b hab hb hk => q a b hab hb (by omega), ?_⟩
    by_cases c : k / 5 < k % 5 ∧ k % 5 < n
    · rw [q (k / 5) (k % 5) c.1 c.2 (by omega), Bool.and_false]; rfl
    · rw [decide_eq_false c]; rfl
theorem ss_keep {B : Bool} {p : Prop} [Decidable p] {x : Bool} (h : ¬ p ∨ x = false) : B = (B && !(decide p && x)) := by
  rcases h with h | h
  · rw [decide_eq_false h]; simp
  · rw [h, Bool.and_false]; simp
theorem c_X4_isStable {zs : zzT} {d : Nat} {Q : zzQ} {gg : Nat → Nat → Int} {hh : Int64} {n : Nat} (hn : gg 39 8 = (n : Int)) (hn5 : n ≤ 5) {mB : Nat → Nat → Bool} (hmt : ∀ a b, a < n → b < n → gg 45 (5 * a + b) = b2i (mB a b)) {sz h : FI} (hsz : ∀ j, j < n → gg 42 (4 * j + 1) = sz j ∧ 1 ≤ sz j ∧ sz j ≤ 9) (h46 : gg 46 = h) (hrr : hrg n h) (hQ : Q [.int (iI (b2i (stB n mB sz h)))] (wof gg hh)) : zzCL zs (d + 2) 115 [.ref 39] (wof gg hh) Q := by
  refine st_X4_isStable (Nat.le_of_ble_eq_true rfl) (fun R hR => ?_)
  show R 0 [(0, .ref 39)] [] _
  have loop : ∀ (kk k : Nat) (B : Bool), k ≤ 25 → 25 < k + kk → (B = true ↔ ∀ a b, a < b → b < n → a * 5 + b < k → bad mB sz h a b = false) → R 4 [(0, .ref 39), (1, .int (iI (b2i B))), (2, .int (iI (k : Int)))] [] (wof gg hh) := by
    intro kk
    induction kk with
    | zero => intro k; intros; omega
    | succ kk ih =>
      intro k B hi1 hi2 hB
      refine z_iload_n hR dX4_isStable_4 rfl rfl ?_
      refine g_bipush hR dX4_isStable_5 ?_
      refine g_icmp_ge hR (tgt := 101) dX4_isStable_7 (by decide) (fun c7 => ?_) (fun c7 => ?_)
      · refine z_iload_n hR dX4_isStable_101 rfl rfl ?_
        refine g_zret hR dX4_isStable_102 rfl ?_
        have e : k = 25 := by omega
        subst e
        refine qz hQ (beq_of_iff ?_)
        rw [hB, stB_iff]
        exact ⟨fun q a b hab hb => q a b hab hb (by omega), fun q a b hab hb _ => q a b hab hb⟩
      · refine z_iload_n hR dX4_isStable_10 rfl rfl ?_
        refine g_iconst hR dX4_isStable_11 ?_
        refine g_idiv hR dX4_isStable_12 (show (k : Int) / 5 = ((k / 5 : Nat) : Int) by omega) ?_
        refine z_istore_n hR dX4_isStable_13 rfl (by decide) rfl ?_
        refine z_iload_n hR dX4_isStable_14 rfl rfl ?_
        refine g_iconst hR dX4_isStable_15 ?_
        refine g_irem hR dX4_isStable_16 (show (k : Int) % 5 = ((k % 5 : Nat) : Int) by omega) ?_
        refine z_istore hR dX4_isStable_17 (by decide) rfl ?_
        refine z_iload_n hR dX4_isStable_19 rfl rfl ?_
        refine z_iload hR dX4_isStable_20 rfl ?_
        refine g_icmp_ge hR (tgt := 95) dX4_isStable_22 (by decide) (fun c22 => ?_) (fun c22 => ?_)
        · refine g_iinc hR dX4_isStable_95 rfl rfl (by decide) rfl ?_
          refine z_goto hR (tgt := 4) dX4_isStable_98 (by decide) ?_
          refine z_sub hR [0, 1, 2] rfl ?_
          have hB2 : B = (B && !(decide (k / 5 < k % 5 ∧ k % 5 < n) && bad mB sz h (k / 5) (k % 5))) := by first | exact ss_keep (Or.inl (by omega)) | exact ss_keep (Or.inr (bad_m (b2i_f c41))) | exact ss_keep (Or.inr (bad_e c52))
          exact ih (k + 1) B (by omega) (by omega) (ss_step hn5 hB hB2)
        · refine z_iload hR dX4_isStable_25 rfl ?_
          refine z_aload_n hR dX4_isStable_27 rfl rfl ?_
          refine g_get hR dX4_isStable_28 zf_4_76 (wk_39 _) (gi hn) ?_
          refine g_icmp_ge hR (tgt := 95) dX4_isStable_31 (by decide) (fun c31 => ?_) (fun c31 => ?_)
          · refine g_iinc hR dX4_isStable_95 rfl rfl (by decide) rfl ?_
            refine z_goto hR (tgt := 4) dX4_isStable_98 (by decide) ?_
            refine z_sub hR [0, 1, 2] rfl ?_
            have hB2 : B = (B && !(decide (k / 5 < k % 5 ∧ k % 5 < n) && bad mB sz h (k / 5) (k % 5))) := by first | exact ss_keep (Or.inl (by omega)) | exact ss_keep (Or.inr (bad_m (b2i_f c41))) | exact ss_keep (Or.inr (bad_e c52))
            exact ih (k + 1) B (by omega) (by omega) (ss_step hn5 hB hB2)
          · have hra := hrr (k / 5) (by omega)
            have hrb := hrr (k % 5) (by omega)
            refine z_aload_n hR dX4_isStable_34 rfl rfl ?_
            refine g_get hR dX4_isStable_35 zf_4_25 (wk_39 _) (show _ = some (Value.ref 45) from rfl) ?_
            refine z_iload_n hR dX4_isStable_38 rfl rfl ?_
            refine g_ialdN hR dX4_isStable_39 (wk_45 _) (show gg 45 k = b2i (mB (k / 5) (k % 5)) by rw [← hmt (k / 5) (k % 5) (by omega) (by omega)]; congr 1; omega) ?_
            refine g_iconst hR dX4_isStable_40 ?_
            refine g_icmp_ne hR (tgt := 95) dX4_isStable_41 (by decide) (fun c41 => ?_) (fun c41 => ?_)
            · refine g_iinc hR dX4_isStable_95 rfl rfl (by decide) rfl ?_
              refine z_goto hR (tgt := 4) dX4_isStable_98 (by decide) ?_
              refine z_sub hR [0, 1, 2] rfl ?_
              have hB2 : B = (B && !(decide (k / 5 < k % 5 ∧ k % 5 < n) && bad mB sz h (k / 5) (k % 5))) := by first | exact ss_keep (Or.inl (by omega)) | exact ss_keep (Or.inr (bad_m (b2i_f c41))) | exact ss_keep (Or.inr (bad_e c52))
              exact ih (k + 1) B (by omega) (by omega) (ss_step hn5 hB hB2)
            · refine z_aload_n hR dX4_isStable_44 rfl rfl ?_
              refine g_get hR dX4_isStable_45 zf_4_28 (wk_39 _) (show _ = some (Value.ref 46) from rfl) ?_
              refine z_iload_n hR dX4_isStable_48 rfl rfl ?_
              refine g_ialdN hR dX4_isStable_49 (wk_46 _) (show gg 46 (k / 5) = h (k / 5) by rw [h46]) ?_
              refine z_iload hR dX4_isStable_50 rfl ?_
              refine g_icmp_eq hR (tgt := 95) dX4_isStable_52 (by decide) (fun c52 => ?_) (fun c52 => ?_)
              · refine g_iinc hR dX4_isStable_95 rfl rfl (by decide) rfl ?_
                refine z_goto hR (tgt := 4) dX4_isStable_98 (by decide) ?_
                refine z_sub hR [0, 1, 2] rfl ?_
                have hB2 : B = (B && !(decide (k / 5 < k % 5 ∧ k % 5 < n) && bad mB sz h (k / 5) (k % 5))) := by first | exact ss_keep (Or.inl (by omega)) | exact ss_keep (Or.inr (bad_m (b2i_f c41))) | exact ss_keep (Or.inr (bad_e c52))
                exact ih (k + 1) B (by omega) (by omega) (ss_step hn5 hB hB2)
              · refine z_iload_n hR dX4_isStable_55 rfl rfl ?_
                refine g_if_eqb hR (tgt := 93) dX4_isStable_56 (by decide) (fun c56 => ?_) (fun c56 => ?_)
                · refine g_iconst hR dX4_isStable_93 ?_
                  refine z_istore_n hR dX4_isStable_94 rfl (by decide) rfl ?_
                  refine g_iinc hR dX4_isStable_95 rfl rfl (by decide) rfl ?_
                  refine z_goto hR (tgt := 4) dX4_isStable_98 (by decide) ?_
                  refine z_sub hR [0, 1, 2] rfl ?_
                  have hB2 : false = (B && !(decide (k / 5 < k % 5 ∧ k % 5 < n) && bad mB sz h (k / 5) (k % 5))) := by first | (rw [c56]; rfl) | (rw [c56, bad_1 c71, Bool.and_false]; rfl) | (rw [c56, bad_2 c86, Bool.and_false]; rfl) | (rw [c56, bad_t (mB := mB) (b2i_t c41) c52 c71 c86, decide_eq_true (show k / 5 < k % 5 ∧ k % 5 < n by omega)]; rfl)
                  exact ih (k + 1) false (by omega) (by omega) (ss_step hn5 hB hB2)
                · refine z_aload_n hR dX4_isStable_59 rfl rfl ?_
                  refine z_iload hR dX4_isStable_60 rfl ?_
                  refine z_aload_n hR dX4_isStable_62 rfl rfl ?_
                  refine g_get hR dX4_isStable_63 zf_4_28 (wk_39 _) (show _ = some (Value.ref 46) from rfl) ?_
                  refine z_iload_n hR dX4_isStable_66 rfl rfl ?_
                  refine g_ialdN hR dX4_isStable_67 (wk_46 _) (show gg 46 (k / 5) = h (k / 5) by rw [h46]) ?_
                  refine g_inv2 hR dX4_isStable_68 zm_4_173 (by decide) zN_X4_likes ((wk_39 _) _) zO_X4_likes (Nat.le_of_ble_eq_true rfl) ?_
                  refine c_X4_likes hn5 hsz (b := k % 5) (by omega) hra ?_
                  show R 71 _ (.int _ :: _) _
                  refine g_if_eqb hR (tgt := 89) dX4_isStable_71 (by decide) (fun c71 => ?_) (fun c71 => ?_)
                  · refine g_iconst hR dX4_isStable_89 ?_
                    refine z_goto hR (tgt := 94) dX4_isStable_90 (by decide) ?_
                    refine z_istore_n hR dX4_isStable_94 rfl (by decide) rfl ?_
                    refine g_iinc hR dX4_isStable_95 rfl rfl (by decide) rfl ?_
                    refine z_goto hR (tgt := 4) dX4_isStable_98 (by decide) ?_
                    refine z_sub hR [0, 1, 2] rfl ?_
                    have hB2 : true = (B && !(decide (k / 5 < k % 5 ∧ k % 5 < n) && bad mB sz h (k / 5) (k % 5))) := by first | (rw [c56]; rfl) | (rw [c56, bad_1 c71, Bool.and_false]; rfl) | (rw [c56, bad_2 c86, Bool.and_false]; rfl) | (rw [c56, bad_t (mB := mB) (b2i_t c41) c52 c71 c86, decide_eq_true (show k / 5 < k % 5 ∧ k % 5 < n by omega)]; rfl)
                    exact ih (k + 1) true (by omega) (by omega) (ss_step hn5 hB hB2)
                  · refine z_aload_n hR dX4_isStable_74 rfl rfl ?_
                    refine z_iload_n hR dX4_isStable_75 rfl rfl ?_
                    refine z_aload_n hR dX4_isStable_76 rfl rfl ?_
                    refine g_get hR dX4_isStable_77 zf_4_28 (wk_39 _) (show _ = some (Value.ref 46) from rfl) ?_
                    refine z_iload hR dX4_isStable_80 rfl ?_
                    refine g_ialdN hR dX4_isStable_82 (wk_46 _) (show gg 46 (k % 5) = h (k % 5) by rw [h46]) ?_
                    refine g_inv2 hR dX4_isStable_83 zm_4_173 (by decide) zN_X4_likes ((wk_39 _) _) zO_X4_likes (Nat.le_of_ble_eq_true rfl) ?_
                    refine c_X4_likes hn5 hsz (b := k / 5) (by omega) hrb ?_
                    show R 86 _ (.int _ :: _) _
                    refine g_if_neb hR (tgt := 93) dX4_isStable_86 (by decide) (fun c86 => ?_) (fun c86 => ?_)
                    · refine g_iconst hR dX4_isStable_93 ?_
                      refine z_istore_n hR dX4_isStable_94 rfl (by decide) rfl ?_
                      refine g_iinc hR dX4_isStable_95 rfl rfl (by decide) rfl ?_
                      refine z_goto hR (tgt := 4) dX4_isStable_98 (by decide) ?_
                      refine z_sub hR [0, 1, 2] rfl ?_
                      have hB2 : false = (B && !(decide (k / 5 < k % 5 ∧ k % 5 < n) && bad mB sz h (k / 5) (k % 5))) := by first | (rw [c56]; rfl) | (rw [c56, bad_1 c71, Bool.and_false]; rfl) | (rw [c56, bad_2 c86, Bool.and_false]; rfl) | (rw [c56, bad_t (mB := mB) (b2i_t c41) c52 c71 c86, decide_eq_true (show k / 5 < k % 5 ∧ k % 5 < n by omega)]; rfl)
                      exact ih (k + 1) false (by omega) (by omega) (ss_step hn5 hB hB2)
                    · refine g_iconst hR dX4_isStable_89 ?_
                      refine z_goto hR (tgt := 94) dX4_isStable_90 (by decide) ?_
                      refine z_istore_n hR dX4_isStable_94 rfl (by decide) rfl ?_
                      refine g_iinc hR dX4_isStable_95 rfl rfl (by decide) rfl ?_
                      refine z_goto hR (tgt := 4) dX4_isStable_98 (by decide) ?_
                      refine z_sub hR [0, 1, 2] rfl ?_
                      have hB2 : true = (B && !(decide (k / 5 < k % 5 ∧ k % 5 < n) && bad mB sz h (k / 5) (k % 5))) := by first | (rw [c56]; rfl) | (rw [c56, bad_1 c71, Bool.and_false]; rfl) | (rw [c56, bad_2 c86, Bool.and_false]; rfl) | (rw [c56, bad_t (mB := mB) (b2i_t c41) c52 c71 c86, decide_eq_true (show k / 5 < k % 5 ∧ k % 5 < n by omega)]; rfl)
                      exact ih (k + 1) true (by omega) (by omega) (ss_step hn5 hB hB2)
  refine g_iconst hR dX4_isStable_0 ?_
  refine z_istore_n hR dX4_isStable_1 rfl (by decide) rfl ?_
  refine g_iconst hR dX4_isStable_2 ?_
  refine z_istore_n hR dX4_isStable_3 rfl (by decide) rfl ?_
  exact loop 26 0 true (by omega) (by omega) ⟨fun _ a b _ _ h => absurd h (by omega), fun _ => rfl⟩
def mvM (n : Nat) (mB : Nat → Nat → Bool) (k : Nat) : Int := b2i (decide (k / 5 < n ∧ k % 5 < n) && mB (k / 5) (k % 5))
def LSt (n : Nat) (S : MS) (gg : Nat → Nat → Int) : Prop := gg 39 20 = S.1 ∧ gg 39 21 = S.2.1 ∧ (S.2.1 ≠ -1 → ∀ j, j < n → gg 47 j = hsc n S.2.2 j)
theorem eqM_gr {g g1 : Nat → Nat → Int} (h : eqS scM g g1) {a : Nat} {f : FI} (ha : 44 ≤ a ∧ a ≤ 47) : eqS scM g (gr g1 a f) := eqS.gr h (fun k hk => absurd (by unfold scM; omega) hk)
theorem eqM_put {g g1 : Nat → Nat → Int} (h : eqS scM g g1) {i : Nat} {z : Int} (hi : i = 20 ∨ i = 21) : eqS scM g (gr g1 39 (iu (g1 39) i z)) := eqS.gr h (fun k hk => iu_n _ _ (by rintro rfl; exact hk (by unfold scM; omega)))
theorem mvM_t {n : Nat} {mB : Nat → Nat → Bool} {k : Nat} (h1 : k / 5 < n ∧ k % 5 < n) (h : mB (k / 5) (k % 5) = true) : mvM n mB k = 1 := by unfold mvM; rw [decide_eq_true h1, h]; rfl
theorem mvM_f {n : Nat} {mB : Nat → Nat → Bool} {k : Nat} (h : ¬ (k / 5 < n ∧ k % 5 < n) ∨ mB (k / 5) (k % 5) = false) : mvM n mB k = 0 := by
  unfold mvM
  rcases h with h | h
  · rw [decide_eq_false h]; rfl
  · rw [h, Bool.and_false]; rfl
theorem wgh_1 {S : MS} {b : Bool} {pr : Int} {c : Nat} : (wgh S b pr c).1 = if b = true then S.1 + 1 else S.1 := by unfold wgh; split <;> rfl
theorem c_X4_layStable {zs : zzT} {d : Nat} {Q : zzQ} {g : Nat → Nat → Int} {hh : Int64} {n m : Nat} {ea eb : Nat → Nat} (hp : MP g n m ea eb) (hQ : ∀ g1, eqS scM g g1 → LSt n (FF n (mtM n (kdM g) (szM g) (g 41) (pby ea eb lfa m) (anb g n) (g 39 3) (g 39 4) (nwr g n)) (szM g) S0 0 ((n + 1) ^ n)) g1 → Q [] (wof g1 hh)) : zzCL zs (d + 6) 113 [.ref 39] (wof g hh) Q := by
  refine st_X4_layStable (Nat.le_of_ble_eq_true rfl) (fun R hR => ?_)
  show R 0 [(0, .ref 39)] [] _
  have hn5 := hp.2.1
  have hor : anb g n ||| 0 = anb g n := Nat.or_zero _
  have loop : ∀ (kk k : Nat) (gg : Nat → Nat → Int), k ≤ 25 → 25 < k + kk → (eqS scM g gg) → (∀ j, j < k → gg 45 j = mvM n (mtM n (kdM g) (szM g) (g 41) (pby ea eb lfa m) (anb g n) (g 39 3) (g 39 4) (nwr g n)) j) → R 2 [(0, .ref 39), (1, .int (iI (k : Int)))] [] (wof gg hh) := by
    intro kk
    induction kk with
    | zero => intro k; intros; omega
    | succ kk ih =>
      intro k gg hi1 hi2 he hM
      refine z_iload_n hR dX4_layStable_2 rfl rfl ?_
      refine g_bipush hR dX4_layStable_3 ?_
      refine g_icmp_ge hR (tgt := 55) dX4_layStable_5 (by decide) (fun c5 => ?_) (fun c5 => ?_)
      · refine g_iconst hR dX4_layStable_55 ?_
        refine z_istore_n hR dX4_layStable_56 rfl (by decide) rfl ?_
        refine g_iconst hR dX4_layStable_57 ?_
        refine z_istore_n hR dX4_layStable_58 rfl (by decide) rfl ?_
        refine z_sub hR [0, 1, 2] rfl ?_
        have ek : k = 25 := by omega
        rw [ek] at hM
        have lp2 : ∀ (k i : Nat), i ≤ n → n < i + k → R 59 [(0, .ref 39), (1, .int (iI (((n + 1) ^ i : Nat) : Int))), (2, .int (iI (i : Int)))] [] (wof gg hh) := by
          intro k
          induction k with
          | zero => intro i; intros; omega
          | succ k ih =>
            intro i  hi1 hi2 
            refine z_iload_n hR dX4_layStable_59 rfl rfl ?_
            refine z_aload_n hR dX4_layStable_60 rfl rfl ?_
            refine g_get hR dX4_layStable_61 zf_4_76 (wk_39 _) (gi (show gg 39 8 = (n : Int) by rw [eqM_39 he (by omega)]; exact hp.1)) ?_
            refine g_icmp_ge hR (tgt := 82) dX4_layStable_64 (by decide) (fun c64 => ?_) (fun c64 => ?_)
            · have ei : i = n := by omega
              rw [ei]
              refine z_aload_n hR dX4_layStable_82 rfl rfl ?_
              refine g_iconst hR dX4_layStable_83 ?_
              refine g_put hR dX4_layStable_84 zf_4_176 (wk_39 _) (Nat.le_of_ble_eq_true rfl) rfl rfl rfl rfl ?_
              refine z_aload_n hR dX4_layStable_87 rfl rfl ?_
              refine g_iconst hR dX4_layStable_88 ?_
              refine g_put hR dX4_layStable_89 zf_4_179 (wk_39 _) (Nat.le_of_ble_eq_true rfl) rfl rfl rfl rfl ?_
              refine g_iconst hR dX4_layStable_92 ?_
              refine z_istore_n hR dX4_layStable_93 rfl (by decide) rfl ?_
              refine z_sub hR [0, 1, 2] rfl ?_
              obtain ⟨N, hN⟩ : ∃ N, N = (n + 1) ^ n := ⟨_, rfl⟩
              have hNl : N ≤ 7776 := by rw [hN]; exact Nat.le_trans (Nat.pow_le_pow_left (show n + 1 ≤ 6 by omega) n) (Nat.pow_le_pow_right (by decide) hn5)
              rw [← hN] at hQ ⊢
              obtain ⟨mB, hmB⟩ : ∃ mB, mB = mtM n (kdM g) (szM g) (g 41) (pby ea eb lfa m) (anb g n) (g 39 3) (g 39 4) (nwr g n) := ⟨_, rfl⟩
              rw [← hmB] at hQ hM
              have lp3 : ∀ (kc c : Nat) (gg : Nat → Nat → Int), c ≤ N → N < c + kc → (eqS scM g gg) → (∀ j, j < 25 → gg 45 j = mvM n mB j) → (LSt n (FF n mB (szM g) S0 0 c) gg) → R 94 [(0, .ref 39), (1, .int (iI ((N : Nat) : Int))), (2, .int (iI (c : Int)))] [] (wof gg hh) := by
                intro kc
                induction kc with
                | zero => intro c; intros; omega
                | succ kc ih =>
                  intro c gg hc1 hc2 he h45 hL
                  refine z_iload_n hR dX4_layStable_94 rfl rfl ?_
                  refine z_iload_n hR dX4_layStable_95 rfl rfl ?_
                  refine g_icmp_ge hR (tgt := 194) dX4_layStable_96 (by decide) (fun c96 => ?_) (fun c96 => ?_)
                  · refine g_vret hR dX4_layStable_194 rfl ?_
                    have ec : c = N := by omega
                    subst ec
                    exact hQ gg he hL
                  · have hcN : c < N := by omega
                    have hn : gg 39 8 = (n : Int) := by rw [eqM_39 he (by omega)]; exact hp.1
                    have hmt : ∀ a b, a < n → b < n → gg 45 (5 * a + b) = b2i (mB a b) := fun a b ha hb => by rw [h45 (5 * a + b) (by omega), mvM, show (5 * a + b) / 5 = a by omega, show (5 * a + b) % 5 = b by omega, decide_eq_true ⟨ha, hb⟩, Bool.true_and]
                    refine z_aload_n hR dX4_layStable_99 rfl rfl ?_
                    refine z_iload_n hR dX4_layStable_100 rfl rfl ?_
                    refine g_inv1 hR dX4_layStable_101 zm_4_182 (by decide) zN_X4_isMatch ((wk_39 _) _) zO_X4_isMatch (Nat.le_of_ble_eq_true rfl) ?_
                    refine c_X4_isMatch (n := n) hn hn5 (mB := mB) hmt (c := c) (by omega) (fun h hh1 => ?_)
                    have hr : hrg n h := fun j hj => by rw [hh1 j hj]; exact dgt_rg n c _
                    show R 104 _ (.int _ :: _) _
                    refine g_if_eqb hR (tgt := 188) dX4_layStable_104 (by decide) (fun c104 => ?_) (fun c104 => ?_)
                    · refine g_iinc hR dX4_layStable_188 rfl rfl (by decide) rfl ?_
                      refine z_goto hR (tgt := 94) dX4_layStable_191 (by decide) ?_
                      refine z_sub hR [0, 1, 2] rfl ?_
                      have hFs : FF n mB (szM g) S0 0 (c + 1) = FF n mB (szM g) S0 0 c := by
                        rw [FF, Nat.zero_add, stp]
                        first | rw [c104, if_neg (by decide)] | (rw [c104, if_pos rfl, stB_congr (mB1 := mB) (sz1 := szM g) (hsc_rg n c) (fun j hj => (hh1 j hj).symm) (fun _ _ _ _ => rfl) (fun _ _ => rfl), c111]; rfl)
                      refine ih (c + 1) _ (by omega) (by omega) (eqM_gr he (by omega)) h45 ?_
                      rw [hFs]
                      exact hL
                    · refine z_aload_n hR dX4_layStable_107 rfl rfl ?_
                      refine g_inv0 hR dX4_layStable_108 zm_4_185 (by decide) zN_X4_isStable ((wk_39 _) _) zO_X4_isStable (Nat.le_of_ble_eq_true rfl) ?_
                      refine c_X4_isStable (gg := gr gg 46 h) (mB := mB) (sz := szM g) hn hn5 hmt (fun j hj => ⟨by show gg 42 (4 * j + 1) = szM g j; rw [eqM_r he (by omega)]; rfl, hp.2.2.2.2.1 j hj⟩) (h := h) rfl hr ?_
                      show R 111 _ (.int _ :: _) _
                      refine g_if_eqb hR (tgt := 188) dX4_layStable_111 (by decide) (fun c111 => ?_) (fun c111 => ?_)
                      · refine g_iinc hR dX4_layStable_188 rfl rfl (by decide) rfl ?_
                        refine z_goto hR (tgt := 94) dX4_layStable_191 (by decide) ?_
                        refine z_sub hR [0, 1, 2] rfl ?_
                        have hFs : FF n mB (szM g) S0 0 (c + 1) = FF n mB (szM g) S0 0 c := by
                          rw [FF, Nat.zero_add, stp]
                          first | rw [c104, if_neg (by decide)] | (rw [c104, if_pos rfl, stB_congr (mB1 := mB) (sz1 := szM g) (hsc_rg n c) (fun j hj => (hh1 j hj).symm) (fun _ _ _ _ => rfl) (fun _ _ => rfl), c111]; rfl)
                        refine ih (c + 1) _ (by omega) (by omega) (eqM_gr he (by omega)) h45 ?_
                        rw [hFs]
                        exact hL
                      · refine z_aload_n hR dX4_layStable_114 rfl rfl ?_
                        refine z_dup hR dX4_layStable_115 rfl ?_
                        refine g_get hR dX4_layStable_116 zf_4_176 (wk_39 _) (gi (show (gr gg 46 h) 39 20 = (FF n mB (szM g) S0 0 c).1 from hL.1)) ?_
                        refine g_iconst hR dX4_layStable_119 ?_
                        refine g_iadd hR dX4_layStable_120 rfl ?_
                        refine g_put hR dX4_layStable_121 zf_4_176 (wk_39 _) (Nat.le_of_ble_eq_true rfl) rfl rfl rfl rfl ?_
                        refine g_iconst hR dX4_layStable_124 ?_
                        refine z_istore_n hR dX4_layStable_125 rfl (by decide) rfl ?_
                        refine g_iconst hR dX4_layStable_126 ?_
                        refine z_istore hR dX4_layStable_127 (by decide) rfl ?_
                        have hFr := FF_rg (n := n) (mB := mB) (sz := szM g) (S := S0) (lo := 0) (by unfold S0; dsimp only; omega) c
                        have hst1 : stB n mB (szM g) (hsc n c) = true := by rw [stB_congr (mB1 := mB) (sz1 := szM g) (hsc_rg n c) (fun j hj => (hh1 j hj).symm) (fun _ _ _ _ => rfl) (fun _ _ => rfl)]; exact c111
                        have hpr1 : prB n (hsc n c) = prB n h := prB_congr (fun j hj => (hh1 j hj).symm)
                        have hmt1 := c104
                        have hcr := cnt_rg (fun t => decide ((t : Int) < h t)) n
                        rw [show gr (gr gg 46 h) 39 (iu ((gr gg 46 h) 39) 20 _) = gr (gr gg 46 h) 39 (iu (gg 39) 20 ((FF n mB (szM g) S0 0 c).1 + 1)) from rfl]
                        have lpP : ∀ (kt t : Nat), t ≤ n → n < t + kt → R 129 [(0, .ref 39), (1, .int (iI ((N : Nat) : Int))), (2, .int (iI (c : Int))), (3, .int (iI (cnt (fun t => decide ((t : Int) < h t)) t))), (4, .int (iI (t : Int)))] [] (wof (gr (gr gg 46 h) 39 (iu (gg 39) 20 ((FF n mB (szM g) S0 0 c).1 + 1))) hh) := by
                          intro kt
                          induction kt with
                          | zero => intro t; intros; omega
                          | succ kt iht =>
                            intro t  ht1 ht2 
                            refine z_iload hR dX4_layStable_129 rfl ?_
                            refine z_aload_n hR dX4_layStable_131 rfl rfl ?_
                            refine g_get hR dX4_layStable_132 zf_4_76 (wk_39 _) (gi (show (gr (gr gg 46 h) 39 (iu (gg 39) 20 ((FF n mB (szM g) S0 0 c).1 + 1))) 39 8 = (n : Int) from hn)) ?_
                            refine g_icmp_ge hR (tgt := 164) dX4_layStable_135 (by decide) (fun c135 => ?_) (fun c135 => ?_)
                            · have et : t = n := by omega
                              rw [et]
                              refine z_iload_n hR dX4_layStable_164 rfl rfl ?_
                              refine z_aload_n hR dX4_layStable_165 rfl rfl ?_
                              refine g_get hR dX4_layStable_166 zf_4_179 (wk_39 _) (gi (show (gr (gr gg 46 h) 39 (iu (gg 39) 20 ((FF n mB (szM g) S0 0 c).1 + 1))) 39 21 = (FF n mB (szM g) S0 0 c).2.1 from hL.2.1)) ?_
                              refine g_icmp_le hR (tgt := 188) dX4_layStable_169 (by decide) (fun c169 => ?_) (fun c169 => ?_)
                              · refine g_iinc hR dX4_layStable_188 rfl rfl (by decide) rfl ?_
                                refine z_goto hR (tgt := 94) dX4_layStable_191 (by decide) ?_
                                refine z_sub hR [0, 1, 2] rfl ?_
                                have hFs : FF n mB (szM g) S0 0 (c + 1) = wgh (FF n mB (szM g) S0 0 c) true (prB n h) c := by rw [FF, Nat.zero_add, stp, hmt1, if_pos rfl, hst1, hpr1]
                                refine ih (c + 1) _ (by omega) (by omega) ?_ ?_ ?_
                                · first | exact eqM_put (eqM_gr he (by omega)) (by omega) | exact eqM_gr (eqM_put (eqM_put (eqM_gr he (by omega)) (by omega)) (by omega)) (by omega)
                                · exact h45
                                · rw [hFs]
                                  first | (rw [wgh_t2 (show ¬ (FF n mB (szM g) S0 0 c).2.1 < prB n h from by show ¬ (FF n mB (szM g) S0 0 c).2.1 < cnt (fun t => decide ((t : Int) < h t)) n; omega)]; exact ⟨rfl, hL.2.1, hL.2.2⟩) | (rw [wgh_t1 (show (FF n mB (szM g) S0 0 c).2.1 < prB n h from by show (FF n mB (szM g) S0 0 c).2.1 < cnt (fun t => decide ((t : Int) < h t)) n; omega)]; refine ⟨rfl, rfl, fun _ j hj => ?_⟩; show cpyI 5 h (gg 47) j = hsc n c j; rw [cpyI_in j (by omega)]; exact hh1 j hj)
                              · refine z_aload_n hR dX4_layStable_172 rfl rfl ?_
                                refine z_iload_n hR dX4_layStable_173 rfl rfl ?_
                                refine g_put hR dX4_layStable_174 zf_4_179 (wk_39 _) (Nat.le_of_ble_eq_true rfl) rfl rfl rfl rfl ?_
                                refine z_aload_n hR dX4_layStable_177 rfl rfl ?_
                                refine g_get hR dX4_layStable_178 zf_4_28 (wk_39 _) (show _ = some (Value.ref 46) from rfl) ?_
                                refine z_aload_n hR dX4_layStable_181 rfl rfl ?_
                                refine g_get hR dX4_layStable_182 zf_4_31 (wk_39 _) (show _ = some (Value.ref 47) from rfl) ?_
                                refine g_sta2 hR dX4_layStable_185 zm_4_189 zN_X4_copy (Nat.le_of_ble_eq_true rfl) ?_
                                refine c_X4_copy (by decide) (by decide) (wk_46 hh) (wk_47 hh) ?_
                                show R 188 _ _ _
                                refine g_iinc hR dX4_layStable_188 rfl rfl (by decide) rfl ?_
                                refine z_goto hR (tgt := 94) dX4_layStable_191 (by decide) ?_
                                refine z_sub hR [0, 1, 2] rfl ?_
                                have hFs : FF n mB (szM g) S0 0 (c + 1) = wgh (FF n mB (szM g) S0 0 c) true (prB n h) c := by rw [FF, Nat.zero_add, stp, hmt1, if_pos rfl, hst1, hpr1]
                                refine ih (c + 1) _ (by omega) (by omega) ?_ ?_ ?_
                                · first | exact eqM_put (eqM_gr he (by omega)) (by omega) | exact eqM_gr (eqM_put (eqM_put (eqM_gr he (by omega)) (by omega)) (by omega)) (by omega)
                                · exact h45
                                · rw [hFs]
                                  first | (rw [wgh_t2 (show ¬ (FF n mB (szM g) S0 0 c).2.1 < prB n h from by show ¬ (FF n mB (szM g) S0 0 c).2.1 < cnt (fun t => decide ((t : Int) < h t)) n; omega)]; exact ⟨rfl, hL.2.1, hL.2.2⟩) | (rw [wgh_t1 (show (FF n mB (szM g) S0 0 c).2.1 < prB n h from by show (FF n mB (szM g) S0 0 c).2.1 < cnt (fun t => decide ((t : Int) < h t)) n; omega)]; refine ⟨rfl, rfl, fun _ j hj => ?_⟩; show cpyI 5 h (gg 47) j = hsc n c j; rw [cpyI_in j (by omega)]; exact hh1 j hj)
                            · have htn : t < n := by omega
                              have hht := hr t htn
                              refine z_iload_n hR dX4_layStable_138 rfl rfl ?_
                              refine z_aload_n hR dX4_layStable_139 rfl rfl ?_
                              refine g_get hR dX4_layStable_140 zf_4_28 (wk_39 _) (show _ = some (Value.ref 46) from rfl) ?_
                              refine z_iload hR dX4_layStable_143 rfl ?_
                              refine g_ialdN hR dX4_layStable_145 (wk_46 _) (show (gr (gr gg 46 h) 39 (iu (gg 39) 20 ((FF n mB (szM g) S0 0 c).1 + 1))) 46 t = h t from rfl) ?_
                              refine z_iload hR dX4_layStable_146 rfl ?_
                              refine g_icmp_le hR (tgt := 155) dX4_layStable_148 (by decide) (fun c148 => ?_) (fun c148 => ?_)
                              · have hct : decide ((t : Int) < h t) = false := decide_eq_false (by omega)
                                refine g_iconst hR dX4_layStable_155 ?_
                                refine g_iadd hR dX4_layStable_156 rfl ?_
                                refine z_istore_n hR dX4_layStable_157 rfl (by decide) rfl ?_
                                refine g_iinc hR dX4_layStable_158 rfl rfl (by decide) rfl ?_
                                refine z_goto hR (tgt := 129) dX4_layStable_161 (by decide) ?_
                                have hst := iht (t + 1) (by omega) (by omega)
                                rw [cnt, hct] at hst
                                exact hst
                              · have hct : decide ((t : Int) < h t) = true := decide_eq_true (by omega)
                                refine g_iconst hR dX4_layStable_151 ?_
                                refine z_goto hR (tgt := 156) dX4_layStable_152 (by decide) ?_
                                refine g_iadd hR dX4_layStable_156 rfl ?_
                                refine z_istore_n hR dX4_layStable_157 rfl (by decide) rfl ?_
                                refine g_iinc hR dX4_layStable_158 rfl rfl (by decide) rfl ?_
                                refine z_goto hR (tgt := 129) dX4_layStable_161 (by decide) ?_
                                have hst := iht (t + 1) (by omega) (by omega)
                                rw [cnt, hct] at hst
                                exact hst
                        exact lpP (n + 1) 0 (by omega) (by omega)
              exact lp3 (N + 1) 0 _ (by omega) (by omega) (eqM_put (eqM_put he (by omega)) (by omega)) hM ⟨rfl, rfl, fun z => absurd rfl z⟩
            · refine z_iload_n hR dX4_layStable_67 rfl rfl ?_
              refine z_aload_n hR dX4_layStable_68 rfl rfl ?_
              refine g_get hR dX4_layStable_69 zf_4_76 (wk_39 _) (gi (show gg 39 8 = (n : Int) by rw [eqM_39 he (by omega)]; exact hp.1)) ?_
              refine g_iconst hR dX4_layStable_72 ?_
              refine g_iadd hR dX4_layStable_73 rfl ?_
              refine g_imul hR dX4_layStable_74 (show (((n + 1) ^ i : Nat) : Int) * ((n : Int) + 1) = (((n + 1) ^ (i + 1) : Nat) : Int) from (Int.natCast_mul _ _).symm) ?_
              refine z_istore_n hR dX4_layStable_75 rfl (by decide) rfl ?_
              refine g_iinc hR dX4_layStable_76 rfl rfl (by decide) rfl ?_
              refine z_goto hR (tgt := 59) dX4_layStable_79 (by decide) ?_
              exact ih (i + 1) (by omega) (by omega)
        exact lp2 (n + 1) 0 (by omega) (by omega)
      · refine z_iload_n hR dX4_layStable_8 rfl rfl ?_
        refine g_iconst hR dX4_layStable_9 ?_
        refine g_idiv hR dX4_layStable_10 (show (k : Int) / 5 = ((k / 5 : Nat) : Int) by omega) ?_
        refine z_istore_n hR dX4_layStable_11 rfl (by decide) rfl ?_
        refine z_iload_n hR dX4_layStable_12 rfl rfl ?_
        refine g_iconst hR dX4_layStable_13 ?_
        refine g_irem hR dX4_layStable_14 (show (k : Int) % 5 = ((k % 5 : Nat) : Int) by omega) ?_
        refine z_istore_n hR dX4_layStable_15 rfl (by decide) rfl ?_
        refine z_aload_n hR dX4_layStable_16 rfl rfl ?_
        refine g_get hR dX4_layStable_17 zf_4_25 (wk_39 _) (show _ = some (Value.ref 45) from rfl) ?_
        refine z_iload_n hR dX4_layStable_20 rfl rfl ?_
        refine z_aload_n hR dX4_layStable_21 rfl rfl ?_
        refine z_iload_n hR dX4_layStable_22 rfl rfl ?_
        refine z_iload_n hR dX4_layStable_23 rfl rfl ?_
        refine g_inv2 hR dX4_layStable_24 zm_4_151 (by decide) zN_X4_arePair ((wk_39 _) _) zO_X4_arePair (Nat.le_of_ble_eq_true rfl) ?_
        refine c_X4_arePair (n := n) (by rw [eqM_39 he (by omega)]; exact hp.1) hn5 (by unfold rg; omega) (by unfold rg; omega) ?_
        show R 27 _ (.int _ :: _) _
        refine g_if_eqb hR (tgt := 47) dX4_layStable_27 (by decide) (fun c27 => ?_) (fun c27 => ?_)
        · have c27 := of_decide_eq_false c27
          refine g_iconst hR dX4_layStable_47 ?_
          refine g_iastN hR dX4_layStable_48 (wk_45 _) ?_
          refine g_iinc hR dX4_layStable_49 rfl rfl (by decide) rfl ?_
          refine z_goto hR (tgt := 2) dX4_layStable_52 (by decide) ?_
          refine z_sub hR [0, 1] rfl ?_
          have hmv : mvM n (mtM n (kdM g) (szM g) (g 41) (pby ea eb lfa m) (anb g n) (g 39 3) (g 39 4) (nwr g n)) k = 0 := by first | exact mvM_f (Or.inr (decide_eq_false (fun z => z.2 (by rw [hor] at c40; exact c40)))) | exact (Classical.em (k / 5 < n ∧ k % 5 < n)).elim (fun hq => mvM_f (Or.inr (decide_eq_false (fun z => z.1 (by omega))))) (fun hq => mvM_f (Or.inl hq))
          refine ih (k + 1) _ (by omega) (by omega) (eqM_gr (by assumption) (by omega)) (fun j hj => ?_)
          rw [gr_s]
          rcases Nat.lt_or_eq_of_le (Nat.le_of_lt_succ hj) with z | z
          · rw [iu_n _ _ (by omega)]; first | (rw [show g2 45 = gg 45 from funext fun q => he2 45 q (by unfold scT; omega)]; exact hM j z) | exact hM j z
          · rw [z, iu_s, hmv]
        · have c27 := of_decide_eq_true c27
          refine z_aload_n hR dX4_layStable_30 rfl rfl ?_
          refine z_iload_n hR dX4_layStable_31 rfl rfl ?_
          refine z_iload_n hR dX4_layStable_32 rfl rfl ?_
          refine g_iconst hR dX4_layStable_33 ?_
          refine g_bipush hR dX4_layStable_34 ?_
          refine g_inv4 hR dX4_layStable_36 zm_4_157 (by decide) zN_X4_meetBy ((wk_39 _) _) zO_X4_meetBy (Nat.le_of_ble_eq_true rfl) ?_
          refine c_X4_meetBy2 (x := k / 5) (y := k % 5) (more := 0) (most := 30) (MP_M he hp) (by omega) (by omega) (Nat.pow_pos (by decide)) (by omega) (fun g2 he2 => ?_)
          rw [mtvM_M he hp 0 (by omega) (by omega)]
          have he3 := he.tr (scT_M he2)
          have hVr := @mtv_rg n (kdM g) (szM g) (g 41) (pby ea eb lfa m) (anb g n ||| 0) (g 39 3) (g 39 4) (nwr g n) (k / 5) (k % 5) 30
          show R 39 _ (.int _ :: _) _
          refine g_iconst hR dX4_layStable_39 ?_
          refine g_icmp_eq hR (tgt := 47) dX4_layStable_40 (by decide) (fun c40 => ?_) (fun c40 => ?_)
          · refine g_iconst hR dX4_layStable_47 ?_
            refine g_iastN hR dX4_layStable_48 (wk_45 _) ?_
            refine g_iinc hR dX4_layStable_49 rfl rfl (by decide) rfl ?_
            refine z_goto hR (tgt := 2) dX4_layStable_52 (by decide) ?_
            refine z_sub hR [0, 1] rfl ?_
            have hmv : mvM n (mtM n (kdM g) (szM g) (g 41) (pby ea eb lfa m) (anb g n) (g 39 3) (g 39 4) (nwr g n)) k = 0 := by first | exact mvM_f (Or.inr (decide_eq_false (fun z => z.2 (by rw [hor] at c40; exact c40)))) | exact (Classical.em (k / 5 < n ∧ k % 5 < n)).elim (fun hq => mvM_f (Or.inr (decide_eq_false (fun z => z.1 (by omega))))) (fun hq => mvM_f (Or.inl hq))
            refine ih (k + 1) _ (by omega) (by omega) (eqM_gr (by assumption) (by omega)) (fun j hj => ?_)
            rw [gr_s]
            rcases Nat.lt_or_eq_of_le (Nat.le_of_lt_succ hj) with z | z
            · rw [iu_n _ _ (by omega)]; first | (rw [show g2 45 = gg 45 from funext fun q => he2 45 q (by unfold scT; omega)]; exact hM j z) | exact hM j z
            · rw [z, iu_s, hmv]
          · refine g_iconst hR dX4_layStable_43 ?_
            refine z_goto hR (tgt := 48) dX4_layStable_44 (by decide) ?_
            refine g_iastN hR dX4_layStable_48 (wk_45 _) ?_
            refine g_iinc hR dX4_layStable_49 rfl rfl (by decide) rfl ?_
            refine z_goto hR (tgt := 2) dX4_layStable_52 (by decide) ?_
            refine z_sub hR [0, 1] rfl ?_
            have hmv : mvM n (mtM n (kdM g) (szM g) (g 41) (pby ea eb lfa m) (anb g n) (g 39 3) (g 39 4) (nwr g n)) k = 1 := mvM_t (by omega) (decide_eq_true ⟨by omega, by rw [hor] at c40; exact c40⟩)
            refine ih (k + 1) _ (by omega) (by omega) (eqM_gr (by assumption) (by omega)) (fun j hj => ?_)
            rw [gr_s]
            rcases Nat.lt_or_eq_of_le (Nat.le_of_lt_succ hj) with z | z
            · rw [iu_n _ _ (by omega)]; first | (rw [show g2 45 = gg 45 from funext fun q => he2 45 q (by unfold scT; omega)]; exact hM j z) | exact hM j z
            · rw [z, iu_s, hmv]
  refine g_iconst hR dX4_layStable_0 ?_
  refine z_istore_n hR dX4_layStable_1 rfl (by decide) rfl ?_
  exact loop 26 0 g (by omega) (by omega) eqS.rf (fun j hj => absurd hj (by omega))
