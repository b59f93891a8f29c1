/-! DIGESTS -/
def hx (h : Int64) (z : Int) : Int64 := 31 * h + (iI z).toInt64
def fh (f : Nat → Int) (h : Int64) : Nat → Int64
  | 0 => h
  | k + 1 => hx (fh f h k) (f k)
def f2h (f f1 : Nat → Int) (h : Int64) : Nat → Int64
  | 0 => h
  | k + 1 => hx (hx (f2h f f1 h k) (f k)) (f1 k)
def fch (c : Nat → Bool) (f : Nat → Int) (h : Int64) : Nat → Int64
  | 0 => h
  | k + 1 => if c k = true then hx (fch c f h k) (f k) else fch c f h k
def isd (n : Nat) (ab mt : Nat → Nat → Int) (i : Nat) (h : Int64) : Int64 := fch (fun j => decide (j ≠ i)) (mt i) (fh (ab i) h 8) n
def ish (n : Nat) (ab mt : Nat → Nat → Int) (h : Int64) : Nat → Int64
  | 0 => h
  | i + 1 => isd n ab mt i (ish n ab mt h i)
theorem fh_congr {f f1 : Nat → Int} {h : Int64} : ∀ {k : Nat}, (∀ j, j < k → f j = f1 j) → fh f h k = fh f1 h k
  | 0, _ => rfl
  | k + 1, e => by rw [fh, fh, fh_congr (fun j hj => e j (by omega)), e k (by omega)]
theorem f2h_congr {f f1 f2 f3 : Nat → Int} {h : Int64} : ∀ {k : Nat}, (∀ j, j < k → f j = f2 j ∧ f1 j = f3 j) → f2h f f1 h k = f2h f2 f3 h k
  | 0, _ => rfl
  | k + 1, e => by rw [f2h, f2h, f2h_congr (fun j hj => e j (by omega)), (e k (by omega)).1, (e k (by omega)).2]
theorem fch_congr {c : Nat → Bool} {f f1 : Nat → Int} {h : Int64} : ∀ {k : Nat}, (∀ j, j < k → c j = true → f j = f1 j) → fch c f h k = fch c f1 h k
  | 0, _ => rfl
  | k + 1, e => by
    rw [fch, fch, fch_congr (fun j hj => e j (by omega))]
    by_cases q : c k = true
    · rw [if_pos q, if_pos q, e k (by omega) q]
    · rw [if_neg q, if_neg q]
theorem isd_congr {n : Nat} {ab ab1 mt mt1 : Nat → Nat → Int} {i : Nat} {h : Int64} (h1 : ∀ w, w < 8 → ab i w = ab1 i w) (h2 : ∀ j, j < n → j ≠ i → mt i j = mt1 i j) : isd n ab mt i h = isd n ab1 mt1 i h := by
  unfold isd
  rw [fh_congr h1]
  exact fch_congr (fun j hj q => h2 j hj (of_decide_eq_true q))
theorem ish_congr {n : Nat} {ab ab1 mt mt1 : Nat → Nat → Int} {h : Int64} (h1 : ∀ i w, i < n → w < 8 → ab i w = ab1 i w) (h2 : ∀ i j, i < n → j < n → j ≠ i → mt i j = mt1 i j) : ∀ k, k ≤ n → ish n ab mt h k = ish n ab1 mt1 h k
  | 0, _ => rfl
  | k + 1, hk => by rw [ish, ish, ish_congr h1 h2 k (by omega), isd_congr (fun w hw => h1 k w (by omega) hw) (fun j hj q => h2 k j (by omega) hj q)]
def whoA (pl : FI) (q : Int) : Nat → Int
  | 0 => -1
  | k + 1 => if pl k = q then (k : Int) else whoA pl q k
theorem isAt_who (pl : FI) (q : Int) : ∀ n, isAt pl n q (whoA pl q n)
  | 0 => Or.inr ⟨fun j hj => absurd hj (by omega), rfl⟩
  | n + 1 => by
    rw [whoA]
    by_cases h : pl n = q
    · rw [if_pos h]; exact Or.inl ⟨n, by omega, h, rfl⟩
    · rw [if_neg h]
      rcases isAt_who pl q n with ⟨j, a, b⟩ | ⟨a, b⟩
      · exact Or.inl ⟨j, by omega, b⟩
      · refine Or.inr ⟨fun j hj => ?_, b⟩
        rcases Nat.lt_or_eq_of_le (Nat.le_of_lt_succ hj) with z | z
        · exact a j z
        · rw [z]; exact h
theorem abX_X {g g1 : Nat → Nat → Int} (h : eqS scX g g1) (n an : Nat) (i : Nat) (v : Int) : abX g1 n an i v = abX g n an i v := by
  unfold abX
  rw [eqX h 2 (by omega), eqX h 3 (by omega), eqX h 4 (by omega), eqX h 5 (by omega), eqX h 6 (by omega), eqX h 7 (by omega), eqX h 8 (by omega)]
theorem abM_M {g g1 : Nat → Nat → Int} (h : eqS scM g g1) {n m : Nat} {ea eb : Nat → Nat} (hp : MP g n m ea eb) {i : Nat} (hi : i < n) (v : Int) : abM g1 n m ea eb i v = abM g n m ea eb i v := by
  have e42 : g1 42 = g 42 := eqM_r h (by omega)
  have e41 : g1 41 = g 41 := eqM_r h (by omega)
  have e : psh (kdM g) (g 41) (anb g n) (g 39 3) (g 39 4) (nwr g1 n) i = psh (kdM g) (g 41) (anb g n) (g 39 3) (g 39 4) (nwr g n) i := psh_congr hi (fun _ _ => rfl) (fun _ _ => rfl) (nwr_M h n) (fun j hj => by rw [nwr_M h n j hj]; exact nwr_ok hp.2.2.2.2.2.1 j hj)
  rw [← eqM_39 h (k := 3) (by omega), ← eqM_39 h (k := 4) (by omega)] at e
  unfold abM kdM anb at *
  rw [e42, e41]
  rw [e]
  rw [eqM_39 h (k := 3) (by omega), eqM_39 h (k := 4) (by omega)]
theorem c_X4_say {zs : zzT} {d : Nat} {Q : zzQ} {g : Nat → Nat → Int} {hh : Int64} {x : Int64} (hQ : Q [] (wof g (31 * hh + x))) : zzCL zs (d + 1) 133 [.ref 39, .long x] (wof g hh) Q := by
  refine st_X4_say (Nat.le_of_ble_eq_true rfl) (fun R hR => ?_)
  show R 0 [(0, .ref 39), (1, .long x)] [] _
  refine z_aload_n hR dX4_say_0 rfl rfl ?_
  refine z_ldc2 hR dX4_say_1 zk_4_253 ?_
  refine z_aload_n hR dX4_say_4 rfl rfl ?_
  refine g_get hR dX4_say_5 zf_4_255 (wk_39 _) rfl ?_
  refine z_lmul hR dX4_say_8 rfl ?_
  refine z_lload_n hR dX4_say_9 rfl rfl ?_
  refine z_ladd hR dX4_say_10 rfl ?_
  refine z_putl hR dX4_say_11 zf_4_255 (wk_39 _ _) (Nat.le_of_ble_eq_true rfl) rfl rfl rfl ?_
  rw [show (mfs _ _).set 35 (.long _) = mfs _ _ from rfl, wof_upL]
  refine g_vret hR dX4_say_14 rfl ?_
  exact hQ
theorem c_X4_sayIsland {zs : zzT} {d : Nat} {Q : zzQ} {g : Nat → Nat → Int} {hh : Int64} {n m : Nat} {ea eb : Nat → Nat} (hp : MP g n m ea eb) {i : Nat} (hin : i < n) (hQ : ∀ g1, eqS scM g g1 → Q [] (wof g1 (isd n (fun i w => abM g n m ea eb i ((w : Nat) : Int)) (fun i j => mtv n (kdM g) (szM g) (g 41) (pby ea eb lfa m) (anb g n ||| 0) (g 39 3) (g 39 4) (nwr g n) i j 60) i hh))) : zzCL zs (d + 6) 134 [.ref 39, .int (iI (i : Int))] (wof g hh) Q := by
  refine st_X4_sayIsland (Nat.le_of_ble_eq_true rfl) (fun R hR => ?_)
  show R 0 [(0, .ref 39), (1, .int (iI (i : Int)))] [] _
  have hn5 := hp.2.1
  have loop : ∀ (kw w : Nat) (gg : Nat → Nat → Int), w ≤ 8 → 8 < w + kw → (eqS scM g gg) → R 2 [(0, .ref 39), (1, .int (iI (i : Int))), (2, .int (iI (w : Int)))] [] (wof gg (fh ((fun i w => abM g n m ea eb i ((w : Nat) : Int)) i) hh w)) := by
    intro kw
    induction kw with
    | zero => intro w; intros; omega
    | succ kw ih =>
      intro w gg hi1 hi2 he
      refine z_iload_n hR dX4_sayIsland_2 rfl rfl ?_
      refine g_bipush hR dX4_sayIsland_3 ?_
      refine g_icmp_ge hR (tgt := 25) dX4_sayIsland_5 (by decide) (fun c5 => ?_) (fun c5 => ?_)
      · refine g_iconst hR dX4_sayIsland_25 ?_
        refine z_istore_n hR dX4_sayIsland_26 rfl (by decide) rfl ?_
        have ew : w = 8 := by omega
        subst ew
        have lp2 : ∀ (kj j : Nat) (gg : Nat → Nat → Int), j ≤ n → n < j + kj → (eqS scM g gg) → R 27 [(0, .ref 39), (1, .int (iI (i : Int))), (2, .int (iI (j : Int)))] [] (wof gg (fch (fun j => decide (j ≠ i)) ((fun i j => mtv n (kdM g) (szM g) (g 41) (pby ea eb lfa m) (anb g n ||| 0) (g 39 3) (g 39 4) (nwr g n) i j 60) i) (fh ((fun i w => abM g n m ea eb i ((w : Nat) : Int)) i) hh 8) j)) := by
          intro kj
          induction kj with
          | zero => intro j; intros; omega
          | succ kj ih =>
            intro j gg hi1 hi2 he
            refine z_iload_n hR dX4_sayIsland_27 rfl rfl ?_
            refine z_aload_n hR dX4_sayIsland_28 rfl rfl ?_
            refine g_get hR dX4_sayIsland_29 zf_4_76 (wk_39 _) (gi (show gg 39 8 = (n : Int) by rw [eqM_39 he (by omega)]; exact hp.1)) ?_
            refine g_icmp_ge hR (tgt := 60) dX4_sayIsland_32 (by decide) (fun c32 => ?_) (fun c32 => ?_)
            · refine g_vret hR dX4_sayIsland_60 rfl ?_
              have e : j = n := by omega
              subst e
              exact hQ gg he
            · have hjn : j < n := by omega
              refine z_iload_n hR dX4_sayIsland_35 rfl rfl ?_
              refine z_iload_n hR dX4_sayIsland_36 rfl rfl ?_
              refine g_icmp_eq hR (tgt := 54) dX4_sayIsland_37 (by decide) (fun c37 => ?_) (fun c37 => ?_)
              · refine g_iinc hR dX4_sayIsland_54 rfl rfl (by decide) rfl ?_
                refine z_goto hR (tgt := 27) dX4_sayIsland_57 (by decide) ?_
                first | (have hst := ih (j + 1) _ (by omega) (by omega) he3; rw [fch, if_pos (decide_eq_true (show j ≠ i by omega))] at hst; exact hst) | (have hst := ih (j + 1) gg (by omega) (by omega) he; rw [fch, if_neg (by rw [decide_eq_false (show ¬ j ≠ i by omega)]; decide)] at hst; exact hst)
              · refine z_aload_n hR dX4_sayIsland_40 rfl rfl ?_
                refine z_aload_n hR dX4_sayIsland_41 rfl rfl ?_
                refine z_iload_n hR dX4_sayIsland_42 rfl rfl ?_
                refine z_iload_n hR dX4_sayIsland_43 rfl rfl ?_
                refine g_iconst hR dX4_sayIsland_44 ?_
                refine g_bipush hR dX4_sayIsland_45 ?_
                refine g_inv4 hR dX4_sayIsland_47 zm_4_157 (by decide) zN_X4_meetBy ((wk_39 _) _) zO_X4_meetBy (Nat.le_of_ble_eq_true rfl) ?_
                refine c_X4_meetBy (x := i) (y := j) (more := 0) (most := 60) (MP_M he hp) hin hjn (Nat.pow_pos (by decide)) (by omega) (fun g2 he2 => ?_)
                rw [mtvM_M he hp 0 hin hjn]
                have he3 := he.tr he2
                show R 50 _ (.int _ :: _) _
                refine z_i2l hR dX4_sayIsland_50 rfl ?_
                refine g_inv1 hR dX4_sayIsland_51 zm_4_259 (by decide) zN_X4_say ((wk_39 _) _) zO_X4_say (Nat.le_of_ble_eq_true rfl) ?_
                refine c_X4_say ?_
                show R 54 _ _ _
                refine g_iinc hR dX4_sayIsland_54 rfl rfl (by decide) rfl ?_
                refine z_goto hR (tgt := 27) dX4_sayIsland_57 (by decide) ?_
                first | (have hst := ih (j + 1) _ (by omega) (by omega) he3; rw [fch, if_pos (decide_eq_true (show j ≠ i by omega))] at hst; exact hst) | (have hst := ih (j + 1) gg (by omega) (by omega) he; rw [fch, if_neg (by rw [decide_eq_false (show ¬ j ≠ i by omega)]; decide)] at hst; exact hst)
        exact lp2 (n + 1) 0 gg (by omega) (by omega) he
      · refine z_aload_n hR dX4_sayIsland_8 rfl rfl ?_
        refine z_aload_n hR dX4_sayIsland_9 rfl rfl ?_
        refine z_iload_n hR dX4_sayIsland_10 rfl rfl ?_
        refine z_iload_n hR dX4_sayIsland_11 rfl rfl ?_
        refine g_inv2 hR dX4_sayIsland_12 zm_4_148 (by decide) zN_X4_tell ((wk_39 _) _) zO_X4_tell (Nat.le_of_ble_eq_true rfl) ?_
        refine c_X4_tell (MP_M he hp) hin (v := ((w : Nat) : Int)) (by unfold rg; omega) (fun z => absurd (by omega) z) (fun _ g2 he2 => ?_)
        rw [abM_M he hp hin]
        have he3 := he.tr he2
        show R 15 _ (.int _ :: _) _
        refine z_i2l hR dX4_sayIsland_15 rfl ?_
        refine g_inv1 hR dX4_sayIsland_16 zm_4_259 (by decide) zN_X4_say ((wk_39 _) _) zO_X4_say (Nat.le_of_ble_eq_true rfl) ?_
        refine c_X4_say ?_
        show R 19 _ _ _
        refine g_iinc hR dX4_sayIsland_19 rfl rfl (by decide) rfl ?_
        refine z_goto hR (tgt := 2) dX4_sayIsland_22 (by decide) ?_
        have hst := ih (w + 1) _ (by omega) (by omega) he3
        rw [fh] at hst
        exact hst
  refine g_iconst hR dX4_sayIsland_0 ?_
  refine z_istore_n hR dX4_sayIsland_1 rfl (by decide) rfl ?_
  exact loop 9 0 g (by omega) (by omega) eqS.rf
theorem c_X3_digestIslands {zs : zzT} {d : Nat} {Q : zzQ} {gg : Nat → Nat → Int} {hh : Int64} {n an : Nat} {pt : Nat → Nat} (hk : WK gg 2 n an pt) (hz : zsok zs) {h : Int64} (hQ : Q [.long (ish n (fun i w => abX gg n an i ((w : Nat) : Int)) (fun i j => gg 33 (i * 5 + j)) h n)] (wof gg hh)) : zzCL zs (d + 5) 74 [.ref 0, .long h] (wof gg hh) Q := by
  refine st_X3_digestIslands (Nat.le_of_ble_eq_true rfl) (fun R hR => ?_)
  show R 0 [(0, .ref 0), (1, .long h)] [] _
  have hn5 := hk.1.2.1
  have lp1 : ∀ (ki i : Nat), i ≤ n → n < i + ki → R 5 [(0, .ref 0), (1, .long h), (3, .long (ish n (fun i w => abX gg n an i ((w : Nat) : Int)) (fun i j => gg 33 (i * 5 + j)) h i)), (5, .int (iI (i : Int)))] [] (wof gg hh) := by
    intro ki
    induction ki with
    | zero => intro i; intros; omega
    | succ ki ihi =>
      intro i  hi1 hi2 
      refine z_iload hR dX3_digestIslands_5 rfl ?_
      refine z_aload_n hR dX3_digestIslands_7 rfl rfl ?_
      refine g_get hR dX3_digestIslands_8 zf_3_33 (wk_0 _) (show _ = some (Value.ref 2) from rfl) ?_
      refine g_get hR dX3_digestIslands_11 zf_3_105 (wk_2 _) (gi hk.1.1) ?_
      refine g_icmp_ge hR (tgt := 103) dX3_digestIslands_14 (by decide) (fun c14 => ?_) (fun c14 => ?_)
      · refine z_lload_n hR dX3_digestIslands_103 rfl rfl ?_
        refine g_lret hR dX3_digestIslands_104 rfl ?_
        have e : i = n := by omega
        subst e
        exact hQ
      · have hin : i < n := by omega
        refine g_iconst hR dX3_digestIslands_17 ?_
        refine z_istore hR dX3_digestIslands_18 (by decide) rfl ?_
        have lp2 : ∀ (kw w : Nat), w ≤ 8 → 8 < w + kw → R 20 [(0, .ref 0), (1, .long h), (3, .long (fh ((fun i w => abX gg n an i ((w : Nat) : Int)) i) (ish n (fun i w => abX gg n an i ((w : Nat) : Int)) (fun i j => gg 33 (i * 5 + j)) h i) w)), (5, .int (iI (i : Int))), (6, .int (iI (w : Int)))] [] (wof gg hh) := by
          intro kw
          induction kw with
          | zero => intro w; intros; omega
          | succ kw ihw =>
            intro w  hw1 hw2 
            refine z_iload hR dX3_digestIslands_20 rfl ?_
            refine g_bipush hR dX3_digestIslands_22 ?_
            refine g_icmp_ge hR (tgt := 49) dX3_digestIslands_24 (by decide) (fun c24 => ?_) (fun c24 => ?_)
            · refine g_iconst hR dX3_digestIslands_49 ?_
              refine z_istore hR dX3_digestIslands_50 (by decide) rfl ?_
              have ew : w = 8 := by omega
              subst ew
              have lp3 : ∀ (kj j : Nat), j ≤ n → n < j + kj → R 52 [(0, .ref 0), (1, .long h), (3, .long (fch (fun j => decide (j ≠ i)) ((fun i j => gg 33 (i * 5 + j)) i) (fh ((fun i w => abX gg n an i ((w : Nat) : Int)) i) (ish n (fun i w => abX gg n an i ((w : Nat) : Int)) (fun i j => gg 33 (i * 5 + j)) h i) 8) j)), (5, .int (iI (i : Int))), (6, .int (iI (j : Int)))] [] (wof gg hh) := by
                intro kj
                induction kj with
                | zero => intro j; intros; omega
                | succ kj ihj =>
                  intro j  hj1 hj2 
                  refine z_iload hR dX3_digestIslands_52 rfl ?_
                  refine z_aload_n hR dX3_digestIslands_54 rfl rfl ?_
                  refine g_get hR dX3_digestIslands_55 zf_3_33 (wk_0 _) (show _ = some (Value.ref 2) from rfl) ?_
                  refine g_get hR dX3_digestIslands_58 zf_3_105 (wk_2 _) (gi hk.1.1) ?_
                  refine g_icmp_ge hR (tgt := 97) dX3_digestIslands_61 (by decide) (fun c61 => ?_) (fun c61 => ?_)
                  · refine g_iinc hR dX3_digestIslands_97 rfl rfl (by decide) rfl ?_
                    refine z_goto hR (tgt := 5) dX3_digestIslands_100 (by decide) ?_
                    refine z_sub hR [0, 1, 2, 3] rfl ?_
                    have ej : j = n := by omega
                    rw [ej]
                    have hst := ihi (i + 1) (by omega) (by omega)
                    rw [ish, isd] at hst
                    exact hst
                  · have hjn : j < n := by omega
                    refine z_iload hR dX3_digestIslands_64 rfl ?_
                    refine z_iload hR dX3_digestIslands_66 rfl ?_
                    refine g_icmp_eq hR (tgt := 91) dX3_digestIslands_68 (by decide) (fun c68 => ?_) (fun c68 => ?_)
                    · refine g_iinc hR dX3_digestIslands_91 rfl rfl (by decide) rfl ?_
                      refine z_goto hR (tgt := 52) dX3_digestIslands_94 (by decide) ?_
                      first | (have hst := ihj (j + 1) (by omega) (by omega); rw [fch, if_pos (decide_eq_true (show j ≠ i by omega))] at hst; exact hst) | (have hst := ihj (j + 1) (by omega) (by omega); rw [fch, if_neg (by rw [decide_eq_false (show ¬ j ≠ i by omega)]; decide)] at hst; exact hst)
                    · refine z_ldc2 hR dX3_digestIslands_71 zk_3_222 ?_
                      refine z_lload_n hR dX3_digestIslands_74 rfl rfl ?_
                      refine z_lmul hR dX3_digestIslands_75 rfl ?_
                      refine z_aload_n hR dX3_digestIslands_76 rfl rfl ?_
                      refine g_get hR dX3_digestIslands_77 zf_3_53 (wk_0 _) (show _ = some (Value.ref 33) from rfl) ?_
                      refine z_iload hR dX3_digestIslands_80 rfl ?_
                      refine g_iconst hR dX3_digestIslands_82 ?_
                      refine g_imul hR dX3_digestIslands_83 (nmul _ 5) ?_
                      refine z_iload hR dX3_digestIslands_84 rfl ?_
                      refine g_iadd hR dX3_digestIslands_86 (nadd _ _) ?_
                      refine g_ialdN hR dX3_digestIslands_87 (wk_33 _) rfl ?_
                      refine z_i2l hR dX3_digestIslands_88 rfl ?_
                      refine z_ladd hR dX3_digestIslands_89 rfl ?_
                      refine z_lstore_n hR dX3_digestIslands_90 rfl (by decide) rfl ?_
                      refine g_iinc hR dX3_digestIslands_91 rfl rfl (by decide) rfl ?_
                      refine z_goto hR (tgt := 52) dX3_digestIslands_94 (by decide) ?_
                      first | (have hst := ihj (j + 1) (by omega) (by omega); rw [fch, if_pos (decide_eq_true (show j ≠ i by omega))] at hst; exact hst) | (have hst := ihj (j + 1) (by omega) (by omega); rw [fch, if_neg (by rw [decide_eq_false (show ¬ j ≠ i by omega)]; decide)] at hst; exact hst)
              exact lp3 (n + 1) 0 (by omega) (by omega)
            · refine z_ldc2 hR dX3_digestIslands_27 zk_3_222 ?_
              refine z_lload_n hR dX3_digestIslands_30 rfl rfl ?_
              refine z_lmul hR dX3_digestIslands_31 rfl ?_
              refine z_aload_n hR dX3_digestIslands_32 rfl rfl ?_
              refine z_iload hR dX3_digestIslands_33 rfl ?_
              refine z_iload hR dX3_digestIslands_35 rfl ?_
              refine g_inv2 hR dX3_digestIslands_37 zm_3_268 (by decide) zN_X3_about ((wk_0 _) _) zO_X3_about (Nat.le_of_ble_eq_true rfl) ?_
              refine c_X3_about hk hz (z := (i : Int)) (v := ((w : Nat) : Int)) (by unfold rg; omega) (by unfold rg; omega) (fun z => absurd (by omega) z) (fun _ z => absurd (by omega) z) (fun i1 e1 _ _ => ?_)
              obtain rfl : i = i1 := by omega
              show R 40 _ (.int _ :: _) _
              refine z_i2l hR dX3_digestIslands_40 rfl ?_
              refine z_ladd hR dX3_digestIslands_41 rfl ?_
              refine z_lstore_n hR dX3_digestIslands_42 rfl (by decide) rfl ?_
              refine g_iinc hR dX3_digestIslands_43 rfl rfl (by decide) rfl ?_
              refine z_goto hR (tgt := 20) dX3_digestIslands_46 (by decide) ?_
              have hst := ihw (w + 1) (by omega) (by omega)
              rw [fh] at hst
              exact hst
        exact lp2 9 0 (by omega) (by omega)
  refine z_lload_n hR dX3_digestIslands_0 rfl rfl ?_
  refine z_lstore_n hR dX3_digestIslands_1 rfl (by decide) rfl ?_
  refine g_iconst hR dX3_digestIslands_2 ?_
  refine z_istore hR dX3_digestIslands_3 (by decide) rfl ?_
  exact lp1 (n + 1) 0 (by omega) (by omega)
