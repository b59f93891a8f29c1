/-- r is the set of fewest, then of least number, among those that V doesn't deny -/
def isMn (V : Nat → Int) (N : Nat) (r : Int) : Prop := (r = -1 ∧ ∀ t, t < N → V t = -1) ∨ ∃ s : Nat, s < N ∧ r = (s : Int) ∧ V s ≠ -1 ∧ ∀ t, t < N → V t ≠ -1 → pcN s 5 < pcN t 5 ∨ (pcN s 5 = pcN t 5 ∧ s ≤ t)
theorem mn_0 (V : Nat → Int) : isMn V 0 (-1) := Or.inl ⟨rfl, fun t h => absurd h (by omega)⟩
theorem mn_no {V : Nat → Int} {i : Nat} {r : Int} (h : isMn V i r) (hV : V i = -1) : isMn V (i + 1) r := by
  rcases h with ⟨e, h⟩ | ⟨s, a, b, c, d⟩
  · refine Or.inl ⟨e, fun t ht => ?_⟩
    rcases Nat.lt_or_eq_of_le (Nat.le_of_lt_succ ht) with q | q
    · exact h t q
    · rw [q]; exact hV
  · refine Or.inr ⟨s, by omega, b, c, fun t ht hv => ?_⟩
    rcases Nat.lt_or_eq_of_le (Nat.le_of_lt_succ ht) with q | q
    · exact d t q hv
    · exact absurd (q ▸ hV) hv
theorem mn_first {V : Nat → Int} {i : Nat} (h : isMn V i (-1)) (hV : V i ≠ -1) : isMn V (i + 1) (i : Int) := by
  rcases h with ⟨e, h⟩ | ⟨s, a, b, c, d⟩
  · refine Or.inr ⟨i, by omega, rfl, hV, fun t ht hv => ?_⟩
    rcases Nat.lt_or_eq_of_le (Nat.le_of_lt_succ ht) with q | q
    · exact absurd (h t q) hv
    · rw [q]; exact Or.inr ⟨rfl, Nat.le_refl _⟩
  · omega
theorem mn_less {V : Nat → Int} {i s : Nat} (h : isMn V i (s : Int)) (hV : V i ≠ -1) (hl : pcN i 5 < pcN s 5) : isMn V (i + 1) (i : Int) := by
  rcases h with ⟨e, h⟩ | ⟨s1, a, b, c, d⟩
  · omega
  · have e : s1 = s := by omega
    subst e
    refine Or.inr ⟨i, by omega, rfl, hV, fun t ht hv => ?_⟩
    rcases Nat.lt_or_eq_of_le (Nat.le_of_lt_succ ht) with q | q
    · have := d t q hv
      omega
    · rw [q]; exact Or.inr ⟨rfl, Nat.le_refl _⟩
theorem mn_more {V : Nat → Int} {i s : Nat} (h : isMn V i (s : Int)) (hl : pcN s 5 ≤ pcN i 5) : isMn V (i + 1) (s : Int) := by
  rcases h with ⟨e, h⟩ | ⟨s1, a, b, c, d⟩
  · omega
  · have e : s1 = s := by omega
    subst e
    refine Or.inr ⟨s1, by omega, rfl, c, fun t ht hv => ?_⟩
    rcases Nat.lt_or_eq_of_le (Nat.le_of_lt_succ ht) with q | q
    · exact d t q hv
    · rw [q]; omega
theorem mn_ex (V : Nat → Int) : ∀ N, ∃ r, isMn V N r
  | 0 => ⟨_, mn_0 V⟩
  | N + 1 => by
    obtain ⟨r, h⟩ := mn_ex V N
    by_cases hV : V N = -1
    · exact ⟨r, mn_no h hV⟩
    · rcases id h with ⟨e, _⟩ | ⟨s, _, b, _, _⟩
      · exact ⟨_, mn_first (e ▸ h) hV⟩
      · by_cases hl : pcN N 5 < pcN s 5
        · exact ⟨_, mn_less (b ▸ h) hV hl⟩
        · exact ⟨_, mn_more (b ▸ h) (by omega)⟩
theorem mn_un {V V1 : Nat → Int} {N : Nat} {r r1 : Int} (e : ∀ t, t < N → V t = V1 t) (h : isMn V N r) (h1 : isMn V1 N r1) : r = r1 := by
  rcases h with ⟨a, h⟩ | ⟨s, a, b, c, d⟩ <;> rcases h1 with ⟨a1, h1⟩ | ⟨s1, a1, b1, c1, d1⟩
  · rw [a, a1]
  · exact absurd ((e s1 a1) ▸ h s1 a1) c1
  · exact absurd ((e s a).trans (h1 s a)) c
  · have p1 := d s1 a1 (by rw [e s1 a1]; exact c1)
    have p2 := d1 s a (by rw [← e s a]; exact c)
    omega
theorem mn_rg {V : Nat → Int} {N : Nat} {r : Int} (h : isMn V N r) (hN : N ≤ 32) : -1 ≤ r ∧ r < 32 := by
  rcases h with ⟨a, h⟩ | ⟨s, a, b, c, d⟩ <;> omega
theorem an_out (an t : Nat) : an ||| (t ^^^ (t &&& an)) = an ||| t := by
  apply Nat.eq_of_testBit_eq
  intro k
  rw [Nat.testBit_or, Nat.testBit_or, Nat.testBit_xor, Nat.testBit_and]
  cases an.testBit k <;> cases t.testBit k <;> rfl
theorem an_and (an t : Nat) : (t ^^^ (t &&& an)) &&& an = 0 := by
  apply Nat.eq_of_testBit_eq
  intro k
  rw [Nat.testBit_and, Nat.testBit_xor, Nat.testBit_and, Nat.zero_testBit]
  cases an.testBit k <;> cases t.testBit k <;> rfl
theorem an_sub (an t : Nat) : bsub (t ^^^ (t &&& an)) t := by
  intro k
  rw [Nat.testBit_xor, Nat.testBit_and]
  cases an.testBit k <;> cases t.testBit k <;> decide
theorem sub_pc {b d n : Nat} (h : bsub b d) (hd : d < 2 ^ n) (he : pcN b n = pcN d n) : b = d := by
  by_cases e : d = b
  · exact e.symm
  · obtain ⟨t, h1, h2⟩ := bsub_ne h e
    have := pcN_lt h h1 h2 n (bit_lt hd h1)
    omega
theorem mn_found {V : Nat → Int} {an n i u : Nat} (hn5 : n ≤ 5) (hV : ∀ t, V (t ^^^ (t &&& an)) = V t) (hO : ∀ t, t < 2 ^ n → t &&& an = 0 → pcN t 5 < i → V t = -1) (hI : ∀ t, t < u → t &&& an = 0 → pcN t 5 = i → V t = -1) (hu : u < 2 ^ n) (hi : pcN u 5 = i) (hv : V u ≠ -1) : isMn V (2 ^ n) (u : Int) := by
  refine Or.inr ⟨u, hu, rfl, hv, fun t ht htv => ?_⟩
  have h32 : (2 : Nat) ^ n ≤ 2 ^ 5 := Nat.pow_le_pow_right (n := 2) (by decide) hn5
  have a1 := an_and an t
  have a2 := pcN_mono (an_sub an t) 5
  have a3 := xor_and_lt (b := an) ht
  have a4 : V (t ^^^ (t &&& an)) ≠ -1 := by rw [hV]; exact htv
  have a5 : ¬ pcN (t ^^^ (t &&& an)) 5 < i := fun q => a4 (hO _ a3 a1 q)
  rcases Nat.lt_or_ge i (pcN t 5) with q | q
  · exact Or.inl (by omega)
  · have e := sub_pc (n := 5) (an_sub an t) (Nat.lt_of_lt_of_le ht h32) (by omega)
    refine Or.inr ⟨by omega, ?_⟩
    rcases Nat.lt_or_ge t u with q1 | q1
    · rw [e] at a1
      exact absurd (hI t q1 a1 (by omega)) htv
    · exact q1
theorem mn_none {V : Nat → Int} {an n i : Nat} (hn5 : n ≤ 5) (hV : ∀ t, V (t ^^^ (t &&& an)) = V t) (hO : ∀ t, t < 2 ^ n → t &&& an = 0 → pcN t 5 < i → V t = -1) (hi : n < i) : isMn V (2 ^ n) (-1) := by
  refine Or.inl ⟨rfl, fun t ht => ?_⟩
  have a3 := xor_and_lt (b := an) ht
  rw [← hV]
  refine hO _ a3 (an_and an t) ?_
  rw [pcN_hi a3 5 hn5]
  have := pcN_le (t ^^^ (t &&& an)) n
  omega
theorem c_X3_fewestAnchors {zs : zzT} {d : Nat} {Q : zzQ} {g : Nat → Nat → Int} {hh : Int64} {n an : Nat} {pt : Nat → Nat} (hk : WK g 2 n an pt) (hz : zsok zs) {x y D : Nat} (hx : x < n) (hy : y < n) (hD : D ≤ 60) (hQ : ∀ r g1, eqS scX g g1 → isMn (fun u => mtv n (g 4) (g 5) (g 3) pt (an ||| u) (g 2 9) (g 2 10) (g 6) x y D) (2 ^ n) r → Q [.int (iI r)] (wof g1 hh)) : zzCL zs (d + 6) 43 [.ref 0, .int (iI (x : Int)), .int (iI (y : Int)), .int (iI (D : Int))] (wof g hh) Q := by
  refine st_X3_fewestAnchors (Nat.le_of_ble_eq_true rfl) (fun R hR => ?_)
  show R 0 [(0, .ref 0), (1, .int (iI (x : Int))), (2, .int (iI (y : Int))), (3, .int (iI (D : Int)))] [] _
  have hn5 := hk.1.2.1
  have h32 : (2 : Nat) ^ n ≤ 32 := Nat.pow_le_pow_right (n := 2) (by decide) hn5
  obtain ⟨V, hVe⟩ : ∃ V : Nat → Int, V = (fun u => mtv n (g 4) (g 5) (g 3) pt (an ||| u) (g 2 9) (g 2 10) (g 6) x y D) := ⟨_, rfl⟩
  have hV : ∀ u, V u = mtv n (g 4) (g 5) (g 3) pt (an ||| u) (g 2 9) (g 2 10) (g 6) x y D := fun u => by rw [hVe]
  rw [← hVe] at hQ
  have hVr : ∀ u, -1 ≤ V u ∧ V u ≤ D := fun u => by rw [hV]; exact mtv_rg
  have hVa : ∀ t, V (t ^^^ (t &&& an)) = V t := fun t => by rw [hV, hV, an_out]
  clear hVe
  have loop : ∀ (k i : Nat) (gg : Nat → Nat → Int), i ≤ (n + 1) → (n + 1) < i + k → (eqS scX g gg) → (∀ t, t < 2 ^ n → t &&& an = 0 → pcN t 5 < i → V t = -1) → R 14 [(0, .ref 0), (1, .int (iI (x : Int))), (2, .int (iI (y : Int))), (3, .int (iI (D : Int))), (4, .int (iI ((2 ^ n : Nat) : Int))), (5, .int (iI (i : Int)))] [] (wof gg hh) := by
    intro k
    induction k with
    | zero => intro i; intros; omega
    | succ k ih =>
      intro i gg hi1 hi2 he hO
      refine z_iload hR dX3_fewestAnchors_14 rfl ?_
      refine z_aload_n hR dX3_fewestAnchors_16 rfl rfl ?_
      refine g_get hR dX3_fewestAnchors_17 zf_3_33 (wk_0 _) (show _ = some (Value.ref 2) from rfl) ?_
      refine g_get hR dX3_fewestAnchors_20 zf_3_105 (wk_2 _) (gi (show gg 2 6 = (n : Int) by rw [eqX he 2 (by omega)]; exact hk.1.1)) ?_
      refine g_icmp_gt hR (tgt := 90) dX3_fewestAnchors_23 (by decide) (fun c23 => ?_) (fun c23 => ?_)
      · refine g_iconst hR dX3_fewestAnchors_90 ?_
        refine g_iret hR dX3_fewestAnchors_91 rfl ?_
        exact hQ _ _ he (mn_none hn5 hVa hO (by omega))
      · refine g_iconst hR dX3_fewestAnchors_26 ?_
        refine z_istore hR dX3_fewestAnchors_27 (by decide) rfl ?_
        obtain ⟨g0, hg0⟩ : ∃ g0, g0 = gg := ⟨_, rfl⟩
        have lp2 : ∀ (ku u : Nat) (gg : Nat → Nat → Int), u ≤ (2 ^ n) → (2 ^ n) < u + ku → (eqS scX g gg) → (∀ t, t < u → t &&& an = 0 → pcN t 5 = i → V t = -1) → R 29 [(0, .ref 0), (1, .int (iI (x : Int))), (2, .int (iI (y : Int))), (3, .int (iI (D : Int))), (4, .int (iI ((2 ^ n : Nat) : Int))), (5, .int (iI (i : Int))), (6, .int (iI (u : Int)))] [] (wof gg hh) := by
          intro ku
          induction ku with
          | zero => intro u; intros; omega
          | succ ku ihu =>
            intro u gg hu1 hu2 he hI
            refine z_iload hR dX3_fewestAnchors_29 rfl ?_
            refine z_iload hR dX3_fewestAnchors_31 rfl ?_
            refine g_icmp_ge hR (tgt := 84) dX3_fewestAnchors_33 (by decide) (fun c33 => ?_) (fun c33 => ?_)
            · refine g_iinc hR dX3_fewestAnchors_84 rfl rfl (by decide) rfl ?_
              refine z_goto hR (tgt := 14) dX3_fewestAnchors_87 (by decide) ?_
              refine z_sub hR [0, 1, 2, 3, 4, 5] rfl ?_
              have eu : u = 2 ^ n := by omega
              rw [eu] at hI
              refine ih (i + 1) gg (by omega) (by omega) he (fun t a b c => ?_)
              rcases Nat.lt_or_eq_of_le (Nat.le_of_lt_succ c) with q | q
              · exact hO t a b q
              · exact hI t a b q
            · have hu : u < 2 ^ n := by omega
              have hua := @Nat.and_le_left u an
              refine z_iload hR dX3_fewestAnchors_36 rfl ?_
              refine g_sta1 hR dX3_fewestAnchors_38 zm_3_172 zN_J6_bitCount_0f7a4 (Nat.le_of_ble_eq_true rfl) ?_
              have hpl := pcN_le u 5
              refine c_J6_bitCount (by omega) ?_
              show R 41 _ (.int _ :: _) _
              refine z_iload hR dX3_fewestAnchors_41 rfl ?_
              refine g_icmp_ne hR (tgt := 78) dX3_fewestAnchors_43 (by decide) (fun c43 => ?_) (fun c43 => ?_)
              · refine g_iinc hR dX3_fewestAnchors_78 rfl rfl (by decide) rfl ?_
                refine z_goto hR (tgt := 29) dX3_fewestAnchors_81 (by decide) ?_
                refine ihu (u + 1) _ (by omega) (by omega) (by assumption) (fun t a b c => ?_)
                rcases Nat.lt_or_eq_of_le (Nat.le_of_lt_succ a) with q | q
                · exact hI t q b c
                · rw [q] at b c ⊢
                  first | exact c72 | exact absurd c (by omega) | exact absurd b c56
              · refine z_iload hR dX3_fewestAnchors_46 rfl ?_
                refine z_aload_n hR dX3_fewestAnchors_48 rfl rfl ?_
                refine g_get hR dX3_fewestAnchors_49 zf_3_33 (wk_0 _) (show _ = some (Value.ref 2) from rfl) ?_
                refine g_get hR dX3_fewestAnchors_52 zf_3_139 (wk_2 _) (gi (show gg 2 8 = (an : Int) by rw [eqX he 2 (by omega)]; exact hk.2.2.1)) ?_
                refine g_iand hR dX3_fewestAnchors_55 ?_
                refine g_if_eq hR (tgt := 62) dX3_fewestAnchors_56 (by decide) (fun c56 => ?_) (fun c56 => ?_)
                · have c56 := nz c56
                  refine z_aload_n hR dX3_fewestAnchors_62 rfl rfl ?_
                  refine z_iload_n hR dX3_fewestAnchors_63 rfl rfl ?_
                  refine z_iload_n hR dX3_fewestAnchors_64 rfl rfl ?_
                  refine z_iload_n hR dX3_fewestAnchors_65 rfl rfl ?_
                  refine z_iload hR dX3_fewestAnchors_66 rfl ?_
                  refine g_inv4 hR dX3_fewestAnchors_68 zm_3_165 (by decide) zN_X3_firstMeeting ((wk_0 _) _) zO_X3_firstMeeting (Nat.le_of_ble_eq_true rfl) ?_
                  refine c_X3_firstMeeting (WK_X he hk) hz hx hy (more := u) hu (by omega) (fun g2 he2 => ?_)
                  rw [eqX he 2 (by omega), eqX he 3 (by omega), eqX he 4 (by omega), eqX he 5 (by omega), eqX he 6 (by omega), ← hV]
                  have he3 := he.tr he2
                  have hVu := hVr u
                  show R 71 _ (.int _ :: _) _
                  refine g_iconst hR dX3_fewestAnchors_71 ?_
                  refine g_icmp_eq hR (tgt := 78) dX3_fewestAnchors_72 (by decide) (fun c72 => ?_) (fun c72 => ?_)
                  · refine g_iinc hR dX3_fewestAnchors_78 rfl rfl (by decide) rfl ?_
                    refine z_goto hR (tgt := 29) dX3_fewestAnchors_81 (by decide) ?_
                    refine ihu (u + 1) _ (by omega) (by omega) (by assumption) (fun t a b c => ?_)
                    rcases Nat.lt_or_eq_of_le (Nat.le_of_lt_succ a) with q | q
                    · exact hI t q b c
                    · rw [q] at b c ⊢
                      first | exact c72 | exact absurd c (by omega) | exact absurd b c56
                  · refine z_iload hR dX3_fewestAnchors_75 rfl ?_
                    refine g_iret hR dX3_fewestAnchors_77 rfl ?_
                    exact hQ _ _ he3 (mn_found hn5 hVa hO hI hu (by omega) c72)
                · have c56 := nnz c56
                  refine z_goto hR (tgt := 78) dX3_fewestAnchors_59 (by decide) ?_
                  refine g_iinc hR dX3_fewestAnchors_78 rfl rfl (by decide) rfl ?_
                  refine z_goto hR (tgt := 29) dX3_fewestAnchors_81 (by decide) ?_
                  refine ihu (u + 1) _ (by omega) (by omega) (by assumption) (fun t a b c => ?_)
                  rcases Nat.lt_or_eq_of_le (Nat.le_of_lt_succ a) with q | q
                  · exact hI t q b c
                  · rw [q] at b c ⊢
                    first | exact c72 | exact absurd c (by omega) | exact absurd b c56
        exact lp2 (2 ^ n + 1) 0 gg (Nat.zero_le _) (by omega) he (fun t a => absurd a (by omega))
  refine g_iconst hR dX3_fewestAnchors_0 ?_
  refine z_aload_n hR dX3_fewestAnchors_1 rfl rfl ?_
  refine g_get hR dX3_fewestAnchors_2 zf_3_33 (wk_0 _) (show _ = some (Value.ref 2) from rfl) ?_
  refine g_get hR dX3_fewestAnchors_5 zf_3_105 (wk_2 _) (gi hk.1.1) ?_
  refine g_ishl hR dX3_fewestAnchors_8 (p2n _) (by omega) ?_
  refine z_istore hR dX3_fewestAnchors_9 (by decide) rfl ?_
  refine g_iconst hR dX3_fewestAnchors_11 ?_
  refine z_istore hR dX3_fewestAnchors_12 (by decide) rfl ?_
  exact loop (n + 2) 0 g (by omega) (by omega) eqS.rf (fun t _ _ a => absurd a (by omega))
theorem c_X4_anchorsOf {zs : zzT} {d : Nat} {Q : zzQ} {g : Nat → Nat → Int} {hh : Int64} {n m : Nat} {ea eb : Nat → Nat} (hp : MP g n m ea eb) {x y D : Nat} (hx : x < n) (hy : y < n) (hD : D ≤ 60) (hQ : ∀ r g1, eqS scM g g1 → isMn (fun u => mtv n (kdM g) (szM g) (g 41) (pby ea eb lfa m) (anb g n ||| u) (g 39 3) (g 39 4) (nwr g n) x y D) (2 ^ n) r → Q [.int (iI r)] (wof g1 hh)) : zzCL zs (d + 6) 110 [.ref 39, .int (iI (x : Int)), .int (iI (y : Int)), .int (iI (D : Int))] (wof g hh) Q := by
  refine st_X4_anchorsOf (Nat.le_of_ble_eq_true rfl) (fun R hR => ?_)
  show R 0 [(0, .ref 39), (1, .int (iI (x : Int))), (2, .int (iI (y : Int))), (3, .int (iI (D : Int)))] [] _
  have hn5 := hp.2.1
  have h32 : (2 : Nat) ^ n ≤ 32 := Nat.pow_le_pow_right (n := 2) (by decide) hn5
  obtain ⟨V, hVe⟩ : ∃ V : Nat → Int, V = (fun u => mtv n (kdM g) (szM g) (g 41) (pby ea eb lfa m) (anb g n ||| u) (g 39 3) (g 39 4) (nwr g n) x y D) := ⟨_, rfl⟩
  have hV : ∀ u, V u = mtv n (kdM g) (szM g) (g 41) (pby ea eb lfa m) (anb g n ||| u) (g 39 3) (g 39 4) (nwr g n) x y D := fun u => by rw [hVe]
  rw [← hVe] at hQ
  have hVr : ∀ u, -1 ≤ V u ∧ V u ≤ D := fun u => by rw [hV]; exact mtv_rg
  clear hVe
  have loop : ∀ (k i : Nat) (r : Int) (gg : Nat → Nat → Int), i ≤ (2 ^ n) → (2 ^ n) < i + k → (eqS scM g gg) → (isMn V i r) → R 6 [(0, .ref 39), (1, .int (iI (x : Int))), (2, .int (iI (y : Int))), (3, .int (iI (D : Int))), (4, .int (iI r)), (5, .int (iI (i : Int)))] [] (wof gg hh) := by
    intro k
    induction k with
    | zero => intro i; intros; omega
    | succ k ih =>
      intro i r gg hi1 hi2 he hM
      refine z_iload hR dX4_anchorsOf_6 rfl ?_
      refine g_iconst hR dX4_anchorsOf_8 ?_
      refine z_aload_n hR dX4_anchorsOf_9 rfl rfl ?_
      refine g_get hR dX4_anchorsOf_10 zf_4_76 (wk_39 _) (gi (show gg 39 8 = (n : Int) from (MP_M he hp).1)) ?_
      refine g_ishl hR dX4_anchorsOf_13 (p2n _) (by omega) ?_
      refine g_icmp_ge hR (tgt := 76) dX4_anchorsOf_14 (by decide) (fun c14 => ?_) (fun c14 => ?_)
      · refine z_iload hR dX4_anchorsOf_76 rfl ?_
        refine g_iret hR dX4_anchorsOf_78 rfl ?_
        have e : i = 2 ^ n := by omega
        rw [e] at hM
        exact hQ _ _ he hM
      · have hin : i < 2 ^ n := by omega
        have hrr := mn_rg hM (by omega)
        refine z_iload hR dX4_anchorsOf_17 rfl ?_
        refine g_iconst hR dX4_anchorsOf_19 ?_
        refine g_icmp_eq hR (tgt := 36) dX4_anchorsOf_20 (by decide) (fun c20 => ?_) (fun c20 => ?_)
        · refine g_iconst hR dX4_anchorsOf_36 ?_
          refine z_goto hR (tgt := 41) dX4_anchorsOf_37 (by decide) ?_
          refine z_istore hR dX4_anchorsOf_41 (by decide) rfl ?_
          refine z_iload hR dX4_anchorsOf_43 rfl ?_
          refine g_if_eq hR (tgt := 66) dX4_anchorsOf_45 (by decide) (fun c45 => ?_) (fun c45 => ?_)
          · exact absurd c45 (by decide)
          · refine z_aload_n hR dX4_anchorsOf_48 rfl rfl ?_
            refine z_iload_n hR dX4_anchorsOf_49 rfl rfl ?_
            refine z_iload_n hR dX4_anchorsOf_50 rfl rfl ?_
            refine z_iload hR dX4_anchorsOf_51 rfl ?_
            refine z_iload_n hR dX4_anchorsOf_53 rfl rfl ?_
            refine g_inv4 hR dX4_anchorsOf_54 zm_4_157 (by decide) zN_X4_meetBy ((wk_39 _) _) zO_X4_meetBy (Nat.le_of_ble_eq_true rfl) ?_
            refine c_X4_meetBy (MP_M he hp) hx hy (more := i) hin (by omega) (fun g2 he2 => ?_)
            rw [mtvM_M he hp i hx hy, ← hV]
            have he3 := he.tr he2
            have hVu := hVr i
            show R 57 _ (.int _ :: _) _
            refine g_iconst hR dX4_anchorsOf_57 ?_
            refine g_icmp_eq hR (tgt := 66) dX4_anchorsOf_58 (by decide) (fun c58 => ?_) (fun c58 => ?_)
            · refine z_iload hR dX4_anchorsOf_66 rfl ?_
              refine z_istore hR dX4_anchorsOf_68 (by decide) rfl ?_
              refine g_iinc hR dX4_anchorsOf_70 rfl rfl (by decide) rfl ?_
              refine z_goto hR (tgt := 6) dX4_anchorsOf_73 (by decide) ?_
              refine z_sub hR [0, 1, 2, 3, 4, 5] rfl ?_
              first | exact ih (i + 1) _ _ (by omega) (by omega) (by assumption) (mn_no hM c58) | exact ih (i + 1) _ _ (by omega) (by omega) (by assumption) (mn_first (c20 ▸ hM) c58) | exact ih (i + 1) _ _ (by omega) (by omega) (by assumption) (mn_less hM c58 (by omega))
            · refine z_iload hR dX4_anchorsOf_61 rfl ?_
              refine z_goto hR (tgt := 68) dX4_anchorsOf_63 (by decide) ?_
              refine z_istore hR dX4_anchorsOf_68 (by decide) rfl ?_
              refine g_iinc hR dX4_anchorsOf_70 rfl rfl (by decide) rfl ?_
              refine z_goto hR (tgt := 6) dX4_anchorsOf_73 (by decide) ?_
              refine z_sub hR [0, 1, 2, 3, 4, 5] rfl ?_
              first | exact ih (i + 1) _ _ (by omega) (by omega) (by assumption) (mn_no hM c58) | exact ih (i + 1) _ _ (by omega) (by omega) (by assumption) (mn_first (c20 ▸ hM) c58) | exact ih (i + 1) _ _ (by omega) (by omega) (by assumption) (mn_less hM c58 (by omega))
        · obtain ⟨s, hs1, rfl, hs3, hs4⟩ := (id hM).resolve_left (fun z => c20 z.1)
          have e10 := pcN_hi (n := 5) (show i < 2 ^ 5 by omega) 10 (by omega)
          have e11 := pcN_hi (n := 5) (show s < 2 ^ 5 by omega) 10 (by omega)
          have l1 := pcN_le i 5
          have l2 := pcN_le s 5
          refine z_iload hR dX4_anchorsOf_23 rfl ?_
          refine g_sta1 hR dX4_anchorsOf_25 zm_4_161 zN_X4_ones (Nat.le_of_ble_eq_true rfl) ?_
          refine c_X4_ones (x := i) (by omega) ?_
          show R 28 _ (.int _ :: _) _
          refine z_iload hR dX4_anchorsOf_28 rfl ?_
          refine g_sta1 hR dX4_anchorsOf_30 zm_4_161 zN_X4_ones (Nat.le_of_ble_eq_true rfl) ?_
          refine c_X4_ones (x := s) (by omega) ?_
          show R 33 _ (.int _ :: _) _
          refine g_icmp_ge hR (tgt := 40) dX4_anchorsOf_33 (by decide) (fun c33 => ?_) (fun c33 => ?_)
          · refine g_iconst hR dX4_anchorsOf_40 ?_
            refine z_istore hR dX4_anchorsOf_41 (by decide) rfl ?_
            refine z_iload hR dX4_anchorsOf_43 rfl ?_
            refine g_if_eq hR (tgt := 66) dX4_anchorsOf_45 (by decide) (fun c45 => ?_) (fun c45 => ?_)
            · refine z_iload hR dX4_anchorsOf_66 rfl ?_
              refine z_istore hR dX4_anchorsOf_68 (by decide) rfl ?_
              refine g_iinc hR dX4_anchorsOf_70 rfl rfl (by decide) rfl ?_
              refine z_goto hR (tgt := 6) dX4_anchorsOf_73 (by decide) ?_
              refine z_sub hR [0, 1, 2, 3, 4, 5] rfl ?_
              exact ih (i + 1) _ _ (by omega) (by omega) he (mn_more hM (by omega))
            · exact absurd rfl c45
          · refine g_iconst hR dX4_anchorsOf_36 ?_
            refine z_goto hR (tgt := 41) dX4_anchorsOf_37 (by decide) ?_
            refine z_istore hR dX4_anchorsOf_41 (by decide) rfl ?_
            refine z_iload hR dX4_anchorsOf_43 rfl ?_
            refine g_if_eq hR (tgt := 66) dX4_anchorsOf_45 (by decide) (fun c45 => ?_) (fun c45 => ?_)
            · exact absurd c45 (by decide)
            · refine z_aload_n hR dX4_anchorsOf_48 rfl rfl ?_
              refine z_iload_n hR dX4_anchorsOf_49 rfl rfl ?_
              refine z_iload_n hR dX4_anchorsOf_50 rfl rfl ?_
              refine z_iload hR dX4_anchorsOf_51 rfl ?_
              refine z_iload_n hR dX4_anchorsOf_53 rfl rfl ?_
              refine g_inv4 hR dX4_anchorsOf_54 zm_4_157 (by decide) zN_X4_meetBy ((wk_39 _) _) zO_X4_meetBy (Nat.le_of_ble_eq_true rfl) ?_
              refine c_X4_meetBy (MP_M he hp) hx hy (more := i) hin (by omega) (fun g2 he2 => ?_)
              rw [mtvM_M he hp i hx hy, ← hV]
              have he3 := he.tr he2
              have hVu := hVr i
              show R 57 _ (.int _ :: _) _
              refine g_iconst hR dX4_anchorsOf_57 ?_
              refine g_icmp_eq hR (tgt := 66) dX4_anchorsOf_58 (by decide) (fun c58 => ?_) (fun c58 => ?_)
              · refine z_iload hR dX4_anchorsOf_66 rfl ?_
                refine z_istore hR dX4_anchorsOf_68 (by decide) rfl ?_
                refine g_iinc hR dX4_anchorsOf_70 rfl rfl (by decide) rfl ?_
                refine z_goto hR (tgt := 6) dX4_anchorsOf_73 (by decide) ?_
                refine z_sub hR [0, 1, 2, 3, 4, 5] rfl ?_
                first | exact ih (i + 1) _ _ (by omega) (by omega) (by assumption) (mn_no hM c58) | exact ih (i + 1) _ _ (by omega) (by omega) (by assumption) (mn_first (c20 ▸ hM) c58) | exact ih (i + 1) _ _ (by omega) (by omega) (by assumption) (mn_less hM c58 (by omega))
              · refine z_iload hR dX4_anchorsOf_61 rfl ?_
                refine z_goto hR (tgt := 68) dX4_anchorsOf_63 (by decide) ?_
                refine z_istore hR dX4_anchorsOf_68 (by decide) rfl ?_
                refine g_iinc hR dX4_anchorsOf_70 rfl rfl (by decide) rfl ?_
                refine z_goto hR (tgt := 6) dX4_anchorsOf_73 (by decide) ?_
                refine z_sub hR [0, 1, 2, 3, 4, 5] rfl ?_
                first | exact ih (i + 1) _ _ (by omega) (by omega) (by assumption) (mn_no hM c58) | exact ih (i + 1) _ _ (by omega) (by omega) (by assumption) (mn_first (c20 ▸ hM) c58) | exact ih (i + 1) _ _ (by omega) (by omega) (by assumption) (mn_less hM c58 (by omega))
  refine g_iconst hR dX4_anchorsOf_0 ?_
  refine z_istore hR dX4_anchorsOf_1 (by decide) rfl ?_
  refine g_iconst hR dX4_anchorsOf_3 ?_
  refine z_istore hR dX4_anchorsOf_4 (by decide) rfl ?_
  exact loop (2 ^ n + 1) 0 (-1) g (Nat.zero_le _) (by omega) eqS.rf (mn_0 V)
def anV (r v : Int) : Int := if r = -1 then -1 else if v = 0 then ((pcN r.toNat 5 : Nat) : Int) else r
theorem anV_rg {r v : Int} (h : -1 ≤ r ∧ r < 32) : rg (anV r v) := by
  have := pcN_le r.toNat 5
  unfold anV rg
  split
  · omega
  · split <;> omega
theorem c_X3_anchors {zs : zzT} {d : Nat} {Q : zzQ} {g : Nat → Nat → Int} {hh : Int64} {n an : Nat} {pt : Nat → Nat} (hk : WK g 2 n an pt) (hz : zsok zs) {x y dy v : Int} (hr1 : rg x) (hr2 : rg y) (hr3 : rg dy) (hr4 : rg v) (hcn : 0 ≤ g 0 5 ∧ g 0 5 ≤ 30) (h1 : ¬ ((0 ≤ x ∧ x < (n : Int)) ∧ (0 ≤ y ∧ y < (n : Int)) ∧ x ≠ y) → Q [.int (iI (-101))] (wof g hh)) (h2 : (0 ≤ x ∧ x < (n : Int)) ∧ (0 ≤ y ∧ y < (n : Int)) ∧ x ≠ y → ¬ ((0 ≤ dy ∧ dy ≤ 30) ∧ (0 ≤ v ∧ v ≤ 1)) → Q [.int (iI (-102))] (wof g hh)) (h3 : (0 ≤ x ∧ x < (n : Int)) ∧ (0 ≤ y ∧ y < (n : Int)) ∧ x ≠ y → (0 ≤ dy ∧ dy ≤ 30) ∧ (0 ≤ v ∧ v ≤ 1) → g 0 5 = 30 → Q [.int (iI (-103))] (wof g hh)) (h4 : ∀ i j D : Nat, x = (i : Int) → y = (j : Int) → dy = (D : Int) → i < n → j < n → i ≠ j → (0 ≤ dy ∧ dy ≤ 30) ∧ (0 ≤ v ∧ v ≤ 1) → g 0 5 < 30 → ∀ r g1, eqS scX (gr g 0 (iu (g 0) 5 (g 0 5 + 1))) g1 → isMn (fun u => mtv n (g 4) (g 5) (g 3) pt (an ||| u) (g 2 9) (g 2 10) (g 6) i j D) (2 ^ n) r → Q [.int (iI (anV r v))] (wof g1 hh)) : zzCL zs (d + 7) 42 [.ref 0, .int (iI x), .int (iI y), .int (iI dy), .int (iI v)] (wof g hh) Q := by
  refine st_X3_anchors (Nat.le_of_ble_eq_true rfl) (fun R hR => ?_)
  show R 0 [(0, .ref 0), (1, .int (iI x)), (2, .int (iI y)), (3, .int (iI dy)), (4, .int (iI v))] [] _
  have h32 : (2 : Nat) ^ n ≤ 32 := Nat.pow_le_pow_right (n := 2) (by decide) hk.1.2.1
  refine z_aload_n hR dX3_anchors_0 rfl rfl ?_
  refine z_iload_n hR dX3_anchors_1 rfl rfl ?_
  refine z_iload_n hR dX3_anchors_2 rfl rfl ?_
  refine g_inv2 hR dX3_anchors_3 zm_3_142 (by decide) zN_X3_areTwo ((wk_0 _) _) zO_X3_areTwo (Nat.le_of_ble_eq_true rfl) ?_
  refine c_X3_areTwo hk.1.1 hk.1.2.1 hr1 hr2 ?_
  show R 6 _ (.int _ :: _) _
  refine g_if_neb hR (tgt := 12) dX3_anchors_6 (by decide) (fun c6 => ?_) (fun c6 => ?_)
  · have c6 := of_decide_eq_true c6
    refine z_iload_n hR dX3_anchors_12 rfl rfl ?_
    refine g_if_lt hR (tgt := 33) dX3_anchors_13 (by decide) (fun c13 => ?_) (fun c13 => ?_)
    · refine g_bipush hR dX3_anchors_33 ?_
      refine g_iret hR dX3_anchors_35 rfl ?_
      exact h2 c6 (by omega)
    · refine z_iload_n hR dX3_anchors_16 rfl rfl ?_
      refine g_bipush hR dX3_anchors_17 ?_
      refine g_icmp_gt hR (tgt := 33) dX3_anchors_19 (by decide) (fun c19 => ?_) (fun c19 => ?_)
      · refine g_bipush hR dX3_anchors_33 ?_
        refine g_iret hR dX3_anchors_35 rfl ?_
        exact h2 c6 (by omega)
      · refine z_iload hR dX3_anchors_22 rfl ?_
        refine g_if_lt hR (tgt := 33) dX3_anchors_24 (by decide) (fun c24 => ?_) (fun c24 => ?_)
        · refine g_bipush hR dX3_anchors_33 ?_
          refine g_iret hR dX3_anchors_35 rfl ?_
          exact h2 c6 (by omega)
        · refine z_iload hR dX3_anchors_27 rfl ?_
          refine g_iconst hR dX3_anchors_29 ?_
          refine g_icmp_le hR (tgt := 36) dX3_anchors_30 (by decide) (fun c30 => ?_) (fun c30 => ?_)
          · refine z_aload_n hR dX3_anchors_36 rfl rfl ?_
            refine g_get hR dX3_anchors_37 zf_3_27 (wk_0 _) rfl ?_
            refine g_bipush hR dX3_anchors_40 ?_
            refine g_icmp_lt hR (tgt := 48) dX3_anchors_42 (by decide) (fun c42 => ?_) (fun c42 => ?_)
            · have hT := c6
              obtain ⟨⟨q1, q2⟩, ⟨q3, q4⟩, q5⟩ := id c6
              obtain ⟨i, rfl⟩ := Int.eq_ofNat_of_zero_le q1
              obtain ⟨j, rfl⟩ := Int.eq_ofNat_of_zero_le q3
              have hi : i < n := by omega
              have hj : j < n := by omega
              obtain ⟨D, rfl⟩ := Int.eq_ofNat_of_zero_le (show 0 ≤ dy by omega)
              refine z_aload_n hR dX3_anchors_48 rfl rfl ?_
              refine z_dup hR dX3_anchors_49 rfl ?_
              refine g_get hR dX3_anchors_50 zf_3_27 (wk_0 _) rfl ?_
              refine g_iconst hR dX3_anchors_53 ?_
              refine g_iadd hR dX3_anchors_54 rfl ?_
              refine g_put hR dX3_anchors_55 zf_3_27 (wk_0 _) (Nat.le_of_ble_eq_true rfl) rfl rfl rfl rfl ?_
              refine z_aload_n hR dX3_anchors_58 rfl rfl ?_
              refine z_iload_n hR dX3_anchors_59 rfl rfl ?_
              refine z_iload_n hR dX3_anchors_60 rfl rfl ?_
              refine z_iload_n hR dX3_anchors_61 rfl rfl ?_
              refine g_inv3 hR dX3_anchors_62 zm_3_169 (by decide) zN_X3_fewestAnchors ((wk_0 _) _) zO_X3_fewestAnchors (Nat.le_of_ble_eq_true rfl) ?_
              refine c_X3_fewestAnchors (g := gr g 0 (iu (g 0) 5 (g 0 5 + 1))) hk hz hi hj (by omega) (fun r g1 he hM => ?_)
              have hrr := mn_rg hM h32
              show R 65 _ (.int _ :: _) _
              refine z_istore hR dX3_anchors_65 (by decide) rfl ?_
              refine z_iload hR dX3_anchors_67 rfl ?_
              refine g_iconst hR dX3_anchors_69 ?_
              refine g_icmp_ne hR (tgt := 75) dX3_anchors_70 (by decide) (fun c70 => ?_) (fun c70 => ?_)
              · refine z_iload hR dX3_anchors_75 rfl ?_
                refine g_if_ne hR (tgt := 88) dX3_anchors_77 (by decide) (fun c77 => ?_) (fun c77 => ?_)
                · refine z_iload hR dX3_anchors_88 rfl ?_
                  refine g_iret hR dX3_anchors_90 rfl ?_
                  first | exact qi (h4 i j D rfl rfl rfl hi hj (by omega) (by omega) (by omega) r _ he hM) (by rw [anV, if_neg c70, if_pos c77]) | exact qi (h4 i j D rfl rfl rfl hi hj (by omega) (by omega) (by omega) r _ he hM) (by rw [anV, if_neg c70, if_neg c77])
                · refine z_iload hR dX3_anchors_80 rfl ?_
                  refine g_sta1 hR dX3_anchors_82 zm_3_172 zN_J6_bitCount_0f7a4 (Nat.le_of_ble_eq_true rfl) ?_
                  rw [show r = ((r.toNat : Nat) : Int) by omega]
                  refine c_J6_bitCount (by omega) ?_
                  show R 85 _ (.int _ :: _) _
                  refine z_goto hR (tgt := 90) dX3_anchors_85 (by decide) ?_
                  refine g_iret hR dX3_anchors_90 rfl ?_
                  first | exact qi (h4 i j D rfl rfl rfl hi hj (by omega) (by omega) (by omega) r _ he hM) (by rw [anV, if_neg c70, if_pos c77]) | exact qi (h4 i j D rfl rfl rfl hi hj (by omega) (by omega) (by omega) r _ he hM) (by rw [anV, if_neg c70, if_neg c77])
              · refine g_iconst hR dX3_anchors_73 ?_
                refine g_iret hR dX3_anchors_74 rfl ?_
                exact qi (h4 i j D rfl rfl rfl hi hj (by omega) (by omega) (by omega) r _ he hM) (by rw [anV, if_pos c70])
            · refine g_bipush hR dX3_anchors_45 ?_
              refine g_iret hR dX3_anchors_47 rfl ?_
              exact h3 c6 (by omega) (by omega)
          · refine g_bipush hR dX3_anchors_33 ?_
            refine g_iret hR dX3_anchors_35 rfl ?_
            exact h2 c6 (by omega)
  · have c6 := of_decide_eq_false c6
    refine g_bipush hR dX3_anchors_9 ?_
    refine g_iret hR dX3_anchors_11 rfl ?_
    exact h1 c6
theorem c_X4_anchors {zs : zzT} {d : Nat} {Q : zzQ} {g : Nat → Nat → Int} {hh : Int64} {n m : Nat} {ea eb : Nat → Nat} (hp : MP g n m ea eb) {x y dy v : Int} (hr1 : rg x) (hr2 : rg y) (hr3 : rg dy) (hr4 : rg v) (hcn : 0 ≤ g 39 16 ∧ g 39 16 ≤ 30) (h1 : ¬ ((0 ≤ x ∧ x < (n : Int)) ∧ (0 ≤ y ∧ y < (n : Int)) ∧ x ≠ y) → Q [.int (iI (-101))] (wof g hh)) (h2 : (0 ≤ x ∧ x < (n : Int)) ∧ (0 ≤ y ∧ y < (n : Int)) ∧ x ≠ y → ¬ ((0 ≤ dy ∧ dy ≤ 30) ∧ (0 ≤ v ∧ v ≤ 1)) → Q [.int (iI (-102))] (wof g hh)) (h3 : (0 ≤ x ∧ x < (n : Int)) ∧ (0 ≤ y ∧ y < (n : Int)) ∧ x ≠ y → (0 ≤ dy ∧ dy ≤ 30) ∧ (0 ≤ v ∧ v ≤ 1) → g 39 16 = 30 → Q [.int (iI (-103))] (wof g hh)) (h4 : ∀ i j D : Nat, x = (i : Int) → y = (j : Int) → dy = (D : Int) → i < n → j < n → i ≠ j → (0 ≤ dy ∧ dy ≤ 30) ∧ (0 ≤ v ∧ v ≤ 1) → g 39 16 < 30 → ∀ r g1, eqS scM (gr g 39 (iu (g 39) 16 (g 39 16 + 1))) g1 → isMn (fun u => mtv n (kdM g) (szM g) (g 41) (pby ea eb lfa m) (anb g n ||| u) (g 39 3) (g 39 4) (nwr g n) i j D) (2 ^ n) r → Q [.int (iI (anV r v))] (wof g1 hh)) : zzCL zs (d + 7) 109 [.ref 39, .int (iI x), .int (iI y), .int (iI dy), .int (iI v)] (wof g hh) Q := by
  refine st_X4_anchors (Nat.le_of_ble_eq_true rfl) (fun R hR => ?_)
  show R 0 [(0, .ref 39), (1, .int (iI x)), (2, .int (iI y)), (3, .int (iI dy)), (4, .int (iI v))] [] _
  have h32 : (2 : Nat) ^ n ≤ 32 := Nat.pow_le_pow_right (n := 2) (by decide) hp.2.1
  refine z_aload_n hR dX4_anchors_0 rfl rfl ?_
  refine z_iload_n hR dX4_anchors_1 rfl rfl ?_
  refine z_iload_n hR dX4_anchors_2 rfl rfl ?_
  refine g_inv2 hR dX4_anchors_3 zm_4_151 (by decide) zN_X4_arePair ((wk_39 _) _) zO_X4_arePair (Nat.le_of_ble_eq_true rfl) ?_
  refine c_X4_arePair hp.1 hp.2.1 hr1 hr2 ?_
  show R 6 _ (.int _ :: _) _
  refine g_if_neb hR (tgt := 12) dX4_anchors_6 (by decide) (fun c6 => ?_) (fun c6 => ?_)
  · have c6 := of_decide_eq_true c6
    refine z_iload_n hR dX4_anchors_12 rfl rfl ?_
    refine g_i2l hR dX4_anchors_13 ?_
    refine z_lconst hR (v := lI 0) dX4_anchors_14 (by decide) ?_
    refine z_ldc2 hR dX4_anchors_15 zk_4_164 ?_
    rw [show (30 : Int64) = lI (30) from by decide]
    refine g_sta3 hR dX4_anchors_18 zm_4_52 zN_X4_in (Nat.le_of_ble_eq_true rfl) ?_
    refine c_X4_in (by first | assumption | (unfold rg; omega)) (by unfold rg; omega) (by unfold rg; omega) ?_
    show R 21 _ (.int _ :: _) _
    refine g_if_eqb hR (tgt := 35) dX4_anchors_21 (by decide) (fun c21 => ?_) (fun c21 => ?_)
    · have c21 := of_decide_eq_false c21
      refine g_bipush hR dX4_anchors_35 ?_
      refine g_iret hR dX4_anchors_37 rfl ?_
      exact h2 c6 (by omega)
    · have c21 := of_decide_eq_true c21
      refine z_iload hR dX4_anchors_24 rfl ?_
      refine g_i2l hR dX4_anchors_26 ?_
      refine z_lconst hR (v := lI 0) dX4_anchors_27 (by decide) ?_
      refine z_lconst hR (v := lI 1) dX4_anchors_28 (by decide) ?_
      refine g_sta3 hR dX4_anchors_29 zm_4_52 zN_X4_in (Nat.le_of_ble_eq_true rfl) ?_
      refine c_X4_in (by first | assumption | (unfold rg; omega)) (by unfold rg; omega) (by unfold rg; omega) ?_
      show R 32 _ (.int _ :: _) _
      refine g_if_neb hR (tgt := 38) dX4_anchors_32 (by decide) (fun c32 => ?_) (fun c32 => ?_)
      · have c32 := of_decide_eq_true c32
        refine z_aload_n hR dX4_anchors_38 rfl rfl ?_
        refine g_get hR dX4_anchors_39 zf_4_166 (wk_39 _) rfl ?_
        refine g_bipush hR dX4_anchors_42 ?_
        refine g_icmp_ne hR (tgt := 50) dX4_anchors_44 (by decide) (fun c44 => ?_) (fun c44 => ?_)
        · have hT := c6
          obtain ⟨⟨q1, q2⟩, ⟨q3, q4⟩, q5⟩ := id c6
          obtain ⟨i, rfl⟩ := Int.eq_ofNat_of_zero_le q1
          obtain ⟨j, rfl⟩ := Int.eq_ofNat_of_zero_le q3
          have hi : i < n := by omega
          have hj : j < n := by omega
          obtain ⟨D, rfl⟩ := Int.eq_ofNat_of_zero_le (show 0 ≤ dy by omega)
          refine z_aload_n hR dX4_anchors_50 rfl rfl ?_
          refine z_dup hR dX4_anchors_51 rfl ?_
          refine g_get hR dX4_anchors_52 zf_4_166 (wk_39 _) rfl ?_
          refine g_iconst hR dX4_anchors_55 ?_
          refine g_iadd hR dX4_anchors_56 rfl ?_
          refine g_put hR dX4_anchors_57 zf_4_166 (wk_39 _) (Nat.le_of_ble_eq_true rfl) rfl rfl rfl rfl ?_
          refine z_aload_n hR dX4_anchors_60 rfl rfl ?_
          refine z_iload_n hR dX4_anchors_61 rfl rfl ?_
          refine z_iload_n hR dX4_anchors_62 rfl rfl ?_
          refine z_iload_n hR dX4_anchors_63 rfl rfl ?_
          refine g_inv3 hR dX4_anchors_64 zm_4_169 (by decide) zN_X4_anchorsOf ((wk_39 _) _) zO_X4_anchorsOf (Nat.le_of_ble_eq_true rfl) ?_
          refine c_X4_anchorsOf (g := gr g 39 (iu (g 39) 16 (g 39 16 + 1))) hp hi hj (by omega) (fun r g1 he hM => ?_)
          have hrr := mn_rg hM h32
          show R 67 _ (.int _ :: _) _
          refine z_istore hR dX4_anchors_67 (by decide) rfl ?_
          refine z_iload hR dX4_anchors_69 rfl ?_
          refine g_iconst hR dX4_anchors_71 ?_
          refine g_icmp_eq hR (tgt := 81) dX4_anchors_72 (by decide) (fun c72 => ?_) (fun c72 => ?_)
          · refine z_iload hR dX4_anchors_81 rfl ?_
            refine z_goto hR (tgt := 91) dX4_anchors_83 (by decide) ?_
            refine g_iret hR dX4_anchors_91 rfl ?_
            first | exact qi (h4 i j D rfl rfl rfl hi hj (by omega) (by omega) (by omega) r _ he hM) (by rw [anV, if_pos c72]; exact c72) | exact qi (h4 i j D rfl rfl rfl hi hj (by omega) (by omega) (by omega) r _ he hM) (by rw [anV, if_neg c72, if_neg (by omega)]) | exact qi (h4 i j D rfl rfl rfl hi hj (by omega) (by omega) (by omega) r _ he hM) (by rw [anV, if_neg c72, if_pos (by omega)])
          · refine z_iload hR dX4_anchors_75 rfl ?_
            refine g_iconst hR dX4_anchors_77 ?_
            refine g_icmp_ne hR (tgt := 86) dX4_anchors_78 (by decide) (fun c78 => ?_) (fun c78 => ?_)
            · refine z_iload hR dX4_anchors_86 rfl ?_
              refine g_sta1 hR dX4_anchors_88 zm_4_161 zN_X4_ones (Nat.le_of_ble_eq_true rfl) ?_
              rw [show r = ((r.toNat : Nat) : Int) by omega]
              refine c_X4_ones (by omega) ?_
              rw [pcN_hi (n := 5) (show r.toNat < 2 ^ 5 by omega) 10 (by omega)]
              show R 91 _ (.int _ :: _) _
              refine g_iret hR dX4_anchors_91 rfl ?_
              first | exact qi (h4 i j D rfl rfl rfl hi hj (by omega) (by omega) (by omega) r _ he hM) (by rw [anV, if_pos c72]; exact c72) | exact qi (h4 i j D rfl rfl rfl hi hj (by omega) (by omega) (by omega) r _ he hM) (by rw [anV, if_neg c72, if_neg (by omega)]) | exact qi (h4 i j D rfl rfl rfl hi hj (by omega) (by omega) (by omega) r _ he hM) (by rw [anV, if_neg c72, if_pos (by omega)])
            · refine z_iload hR dX4_anchors_81 rfl ?_
              refine z_goto hR (tgt := 91) dX4_anchors_83 (by decide) ?_
              refine g_iret hR dX4_anchors_91 rfl ?_
              first | exact qi (h4 i j D rfl rfl rfl hi hj (by omega) (by omega) (by omega) r _ he hM) (by rw [anV, if_pos c72]; exact c72) | exact qi (h4 i j D rfl rfl rfl hi hj (by omega) (by omega) (by omega) r _ he hM) (by rw [anV, if_neg c72, if_neg (by omega)]) | exact qi (h4 i j D rfl rfl rfl hi hj (by omega) (by omega) (by omega) r _ he hM) (by rw [anV, if_neg c72, if_pos (by omega)])
        · refine g_bipush hR dX4_anchors_47 ?_
          refine g_iret hR dX4_anchors_49 rfl ?_
          exact h3 c6 (by omega) (by omega)
      · have c32 := of_decide_eq_false c32
        refine g_bipush hR dX4_anchors_35 ?_
        refine g_iret hR dX4_anchors_37 rfl ?_
        exact h2 c6 (by omega)
  · have c6 := of_decide_eq_false c6
    refine g_bipush hR dX4_anchors_9 ?_
    refine g_iret hR dX4_anchors_11 rfl ?_
    exact h1 c6
theorem op_anchors {zs : zzT} {c : Nat} {g : Nat → Nat → Int} {hh : Int64} (hz : zsok zs) (h : Rel c g) (hc : c < 512) {x y dy v : Int} (hr1 : rg x) (hr2 : rg y) (hr3 : rg dy) (hr4 : rg v) : opOK zs 42 109 [.ref 0, .int (iI x), .int (iI y), .int (iI dy), .int (iI v)] [.ref 39, .int (iI x), .int (iI y), .int (iI dy), .int (iI v)] c g hh := by
  obtain ⟨hc0, hpage, hnum, hcur, ⟨n, m, an, sn, rp, ea, eb, hS, hH⟩, himg⟩ := id h
  have hk := SS_WK hc0 hcur hS
  have hp := SS_MP hc0 hcur hS
  have hcm := hnum.2.2.2
  have ecn := hnum.2.2.1
  have hcx : 0 ≤ g 0 5 ∧ g 0 5 ≤ 30 := by rw [ecn]; exact hcm
  by_cases hA : (0 ≤ x ∧ x < (n : Int)) ∧ (0 ≤ y ∧ y < (n : Int)) ∧ x ≠ y
  · by_cases hB : (0 ≤ dy ∧ dy ≤ 30) ∧ (0 ≤ v ∧ v ≤ 1)
    · by_cases hC : g 0 5 = 30
      · exact op_id (r := -103) (by unfold rg; omega) h hc (fun Q q => c_X3_anchors hk hz hr1 hr2 hr3 hr4 hcx (fun z => absurd hA z) (fun _ z => absurd hB z) (fun _ _ _ => q) (fun i j D _ _ _ _ _ _ _ z => absurd hC (by omega))) (fun Q q => c_X4_anchors hp hr1 hr2 hr3 hr4 hcm (fun z => absurd hA z) (fun _ z => absurd hB z) (fun _ _ _ => q) (fun i j D _ _ _ _ _ _ _ z => absurd hC (by omega)))
      · obtain ⟨i, e1⟩ := Int.eq_ofNat_of_zero_le hA.1.1
        obtain ⟨j, e2⟩ := Int.eq_ofNat_of_zero_le hA.2.1.1
        obtain ⟨D, e3⟩ := Int.eq_ofNat_of_zero_le hB.1.1
        have hi : i < n := by omega
        have hj : j < n := by omega
        have h32 : (2 : Nat) ^ n ≤ 32 := Nat.pow_le_pow_right (n := 2) (by decide) hk.1.2.1
        obtain ⟨r0, hr0⟩ := mn_ex (fun u => mtv n (g 4) (g 5) (g 3) (pby ea eb lfa m) (an ||| u) (g 2 9) (g 2 10) (g 6) i j D) (2 ^ n)
        refine ⟨anV r0 v, fun g1 => eqS scX (gr g 0 (iu (g 0) 5 (g 0 5 + 1))) g1, anV_rg (mn_rg hr0 h32), fun Q q => c_X3_anchors hk hz hr1 hr2 hr3 hr4 hcx (fun z => absurd hA z) (fun _ z => absurd hB z) (fun _ _ z => absurd z hC) (fun i1 j1 D1 f1 f2 f3 _ _ _ _ _ r g1 he hM => ?_), ?_⟩
        · obtain rfl : i = i1 := by omega
          obtain rfl : j = j1 := by omega
          obtain rfl : D = D1 := by omega
          rw [mn_un (fun _ _ => rfl) hM hr0]
          exact q g1 he
        · intro g1 he Q q
          have r39 : g1 39 = g 39 := eqX he 39 (by omega)
          have hp1 : MP g1 n m ea eb := MP_X (g := gr g 0 (iu (g 0) 5 (g 0 5 + 1))) he hp
          refine c_X4_anchors hp1 hr1 hr2 hr3 hr4 (by rw [r39]; exact hcm) (fun z => absurd hA z) (fun _ z => absurd hB z) (fun _ _ z => absurd (r39 ▸ z) (ecn ▸ hC)) (fun i1 j1 D1 f1 f2 f3 _ _ _ _ _ r g2 he2 hM => ?_)
          obtain rfl : i = i1 := by omega
          obtain rfl : j = j1 := by omega
          obtain rfl : D = D1 := by omega
          have er : r = r0 := mn_un (fun t _ => by rw [mtvM_X (g := gr g 0 (iu (g 0) 5 (g 0 5 + 1))) he, mtv_both hcur hS t i j D hi hj]; rfl) hM hr0
          rw [er]
          refine q g2 ?_
          have hs := Rel_step h hc
          have hB1 : Rel (c + 1) (gr (gr g 0 (iu (g 0) 5 (g 0 5 + 1))) 39 (iu (g 39) 16 (g 39 16 + 1))) := ⟨hs.1, hs.2.1, ⟨hs.2.2.1.1, hs.2.2.1.2.1, ⟨by show g 0 5 + 1 = g 39 16 + 1; rw [ecn], by show 0 ≤ g 39 16 + 1; omega, by show g 39 16 + 1 ≤ 30; omega⟩⟩, hs.2.2.2.1, hs.2.2.2.2.1, hs.2.2.2.2.2⟩
          refine Rel_congr hB1 (fun b k hbk => ?_)
          rw [he2 b k (fun z => hbk (Or.inr z)), r39]
          by_cases hb : b = 39
          · subst hb; rw [gr_s, gr_s]
          · rw [gr_n _ _ hb, gr_n _ _ hb]; exact he b k (fun z => hbk (Or.inl z))
    · exact op_id (r := -102) (by unfold rg; omega) h hc (fun Q q => c_X3_anchors hk hz hr1 hr2 hr3 hr4 hcx (fun z => absurd hA z) (fun _ _ => q) (fun _ z => absurd z hB) (fun i j D _ _ _ _ _ _ z => absurd z hB)) (fun Q q => c_X4_anchors hp hr1 hr2 hr3 hr4 hcm (fun z => absurd hA z) (fun _ _ => q) (fun _ z => absurd z hB) (fun i j D _ _ _ _ _ _ z => absurd z hB))
  · exact op_id (r := -101) (by unfold rg; omega) h hc (fun Q q => c_X3_anchors hk hz hr1 hr2 hr3 hr4 hcx (fun _ => q) (fun z => absurd z hA) (fun z => absurd z hA) (fun i j D f1 f2 f3 a b c => absurd (by omega) hA)) (fun Q q => c_X4_anchors hp hr1 hr2 hr3 hr4 hcm (fun _ => q) (fun z => absurd z hA) (fun z => absurd z hA) (fun i j D f1 f2 f3 a b c => absurd (by omega) hA))
