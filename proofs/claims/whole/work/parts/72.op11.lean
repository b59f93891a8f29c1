theorem mvp_inj {n pt : Nat} {pl : FI} {s : Int} (hp : plok n pl) (h : ∀ i j, i < n → j < n → pl i = pl j → i = j) : ∀ i j, i < n → j < n → mvp n pl pt s i = mvp n pl pt s j → i = j := by
  intro i j hi hj
  unfold mvp
  split
  · exact h i j hi hj
  · next q =>
    dsimp only
    have hb : ¬ brd n pl pt s = true := fun z => q (Or.inr z)
    rw [brd_iff] at hb
    have h1 := hp i hi
    have h2 := hp j hj
    intro e
    cases ei : pt.testBit i <;> cases ej : pt.testBit j <;> rw [ei, ej] at e <;> simp only [if_true, if_false, Bool.false_eq_true] at e
    · exact h i j hi hj e
    · exact absurd ⟨j, i, hj, hi, ej, ei, e.symm⟩ hb
    · exact absurd ⟨i, j, hi, hj, ei, ej, e⟩ hb
    · exact h i j hi hj (by omega)
theorem drf_inj {n : Nat} {kd sz cur : FI} {pt : Nat → Nat} {an : Nat} {wi da : Int} {pl : FI} (hp : plok n pl) (h : ∀ i j, i < n → j < n → pl i = pl j → i = j) : ∀ k i j, i < n → j < n → (drf n kd sz cur pt an wi da k pl).1 i = (drf n kd sz cur pt an wi da k pl).1 j → i = j
  | 0 => h
  | k + 1 => by
    unfold drf
    split
    · exact mvp_inj (drf_ok hp k) (drf_inj hp h k)
    · exact drf_inj hp h k
/-- the model's rows with new places below i -/
def dyr (f q : FI) (i : Nat) : FI := fun k => if k % 4 = 2 ∧ k / 4 < i then q (k / 4) else f k
theorem dyr_0 (f q : FI) : dyr f q 0 = f := by funext k; simp [dyr]
theorem dyr_s (f q : FI) (i : Nat) : iu (dyr f q i) (4 * i + 2) (q i) = dyr f q (i + 1) := by
  funext k
  simp only [iu, dyr]
  by_cases e : k = 4 * i + 2
  · rw [if_pos e, if_pos (by omega)]
    congr 1
    omega
  · rw [if_neg e]
    by_cases h : k % 4 = 2 ∧ k / 4 < i
    · rw [if_pos h, if_pos (by omega)]
    · rw [if_neg h, if_neg (by omega)]
theorem dyr_2 {f q : FI} {i j : Nat} (h : j < i) : dyr f q i (4 * j + 2) = q j := by
  unfold dyr
  rw [if_pos (by omega)]
  congr 1
  omega
theorem dyr_n {f q : FI} {i j k : Nat} (h : k < 4) (h2 : k ≠ 2) : dyr f q i (4 * j + k) = f (4 * j + k) := by
  unfold dyr
  rw [if_neg (by omega)]
theorem drf_rg {n : Nat} {kd sz cur : FI} {pt : Nat → Nat} {an : Nat} {wi da : Int} {pl : FI} : ∀ k : Nat, 0 ≤ (drf n kd sz cur pt an wi da k pl).2 ∧ (drf n kd sz cur pt an wi da k pl).2 ≤ k
  | 0 => by simp [drf]
  | k + 1 => by
    have ih := drf_rg (n := n) (kd := kd) (sz := sz) (cur := cur) (pt := pt) (an := an) (wi := wi) (da := da) (pl := pl) k
    unfold drf
    split
    · dsimp only
      unfold bmp
      split <;> omega
    · omega
theorem SS_day {n m an c : Nat} {rp ea eb : Nat → Nat} {o kdf szf plf rpI ptI : FI} {is rm wi da bu : Int} {rows ropes : FI} (h : SS n m an rp ea eb o kdf szf plf rpI ptI is rm wi da bu rows ropes c) {q q1 : FI} {b : Int} (hq : plok n q) (hi : ∀ i j, i < n → j < n → q i = q j → i = j) (he : eqn n q q1) : SS n m an rp ea eb (iu (iu o 11 (bu + b)) 10 (da + 1)) kdf szf q rpI ptI is rm wi (da + 1) (bu + b) (dyr rows q1 n) ropes (c + 1) := by
  obtain ⟨a1, a2, a3, a4, a5, a6, a7, a8, a9, a10, a11⟩ := h
  refine ⟨⟨a1.1, a1.2⟩, ⟨a2.1, a2.2⟩, ⟨a3.1, ?_⟩, ⟨a4.1, a4.2⟩, ⟨rfl, by omega, by have := a5.2.2; omega⟩, rfl, fun j hj => ?_, hi, a9, a10, a11⟩
  · rw [a3.2]
    exact bor_congr (fun j hj => ⟨rfl, by rw [dyr_n (by omega) (by omega)]⟩)
  · obtain ⟨d1, d2, d3, d4⟩ := a7 j hj
    have e0 := dyr_n (f := rows) (q := q1) (i := n) (j := j) (show 0 < 4 by omega) (by omega)
    rw [show 4 * j + 0 = 4 * j from rfl] at e0
    rw [e0, dyr_n (by omega) (by omega), dyr_2 hj, dyr_n (by omega) (by omega)]
    exact ⟨d1, d2, ⟨he j hj, hq j hj⟩, d4⟩
theorem c_X3_day {zs : zzT} {d : Nat} {Q : zzQ} {g : Nat → Nat → Int} {hh : Int64} (hs : g 0 2 = 0 ∨ g 0 2 = 1) {n an : Nat} {pt : Nat → Nat} (hk : WK g 2 n an pt) (hz : zsok zs) (h1 : g 0 2 = 0 → Q [.int (iI (-103))] (wof g hh)) (h2 : g 0 2 ≠ 0 → Q [.int (iI (drf n (g 4) (g 5) (g 3) pt an (g 2 9) (g 2 10) n (g 6)).2)] (wof (gr (gr g 6 (drf n (g 4) (g 5) (g 3) pt an (g 2 9) (g 2 10) n (g 6)).1) 2 (iu (iu (g 2) 11 (g 2 11 + (drf n (g 4) (g 5) (g 3) pt an (g 2 9) (g 2 10) n (g 6)).2)) 10 (g 2 10 + 1))) hh)) : zzCL zs (d + 5) 32 [.ref 0] (wof g hh) Q := by
  refine st_X3_day (Nat.le_of_ble_eq_true rfl) (fun R hR => ?_)
  show R 0 [(0, .ref 0)] [] _
  have han2 : an < 32 := Nat.lt_of_lt_of_le hk.2.2.2.1 (Nat.pow_le_pow_right (n := 2) (by decide) hk.1.2.1)
  have hwd : WD g 2 n an := ⟨hk.1.1, hk.1.2.1, hk.1.2.2.1, hk.1.2.2.2.1, hk.1.2.2.2.2, hk.2.1, hk.2.2.1, han2, hk.2.2.2.2.1, hk.2.2.2.2.2.1.1, by have := hk.2.2.2.2.2.1.2; omega⟩
  refine z_aload_n hR dX3_day_0 rfl rfl ?_
  refine g_get hR dX3_day_1 zf_3_17 (wk_0 _) rfl ?_
  refine g_if_eq hR (tgt := 17) dX3_day_4 (by decide) (fun c4 => ?_) (fun c4 => ?_)
  · refine g_bipush hR dX3_day_17 ?_
    refine g_iret hR dX3_day_19 rfl ?_
    first | exact h1 c4 | exact h2 c4
  · refine z_aload_n hR dX3_day_7 rfl rfl ?_
    refine g_get hR dX3_day_8 zf_3_33 (wk_0 _) (show _ = some (Value.ref 2) from rfl) ?_
    refine g_inv0 hR dX3_day_11 zm_3_162 (by decide) zN_X2_drift ((wk_2 _) _) zO_X2_drift (Nat.le_of_ble_eq_true rfl) ?_
    refine c_X2_drift isW2 hwd hz hk.2.2.2.2.2.2 ?_
    show R 14 _ (.int _ :: _) _
    refine z_goto hR (tgt := 19) dX3_day_14 (by decide) ?_
    refine g_iret hR dX3_day_19 rfl ?_
    first | exact h1 c4 | exact h2 c4
theorem c_X4_day {zs : zzT} {d : Nat} {Q : zzQ} {g : Nat → Nat → Int} {hh : Int64} (hs : g 39 2 = 0 ∨ g 39 2 = 1) {n m : Nat} {ea eb : Nat → Nat} (hp : MP g n m ea eb) (h1 : g 39 2 = 0 → Q [.int (iI (-103))] (wof g hh)) (h2 : g 39 2 ≠ 0 → Q [.int (iI (drf n (kdM g) (szM g) (g 41) (pby ea eb lfa m) (anb g n) (g 39 3) (g 39 4) n (nwr g n)).2)] (wof (gr (gr (mst g (drf n (kdM g) (szM g) (g 41) (pby ea eb lfa m) (anb g n) (g 39 3) (g 39 4) n (nwr g n)).1 ((anb g n : Nat) : Int) (g 39 3) (g 39 4 + 1)) 42 (dyr (g 42) (drf n (kdM g) (szM g) (g 41) (pby ea eb lfa m) (anb g n) (g 39 3) (g 39 4) n (nwr g n)).1 n)) 39 (iu (iu (iu (iu (iu (g 39) 13 ((anb g n : Nat) : Int)) 14 (g 39 3)) 15 (g 39 4 + 1)) 4 (g 39 4 + 1)) 5 (g 39 5 + (drf n (kdM g) (szM g) (g 41) (pby ea eb lfa m) (anb g n) (g 39 3) (g 39 4) n (nwr g n)).2))) hh)) : zzCL zs (d + 5) 103 [.ref 39] (wof g hh) Q := by
  refine st_X4_day (Nat.le_of_ble_eq_true rfl) (fun R hR => ?_)
  show R 0 [(0, .ref 39)] [] _
  have hda := hp.2.2.2.2.2.2.2.2.1
  have hn5 := hp.2.1
  refine z_aload_n hR dX4_day_0 rfl rfl ?_
  refine g_get hR dX4_day_1 zf_4_63 (wk_39 _) rfl ?_
  refine g_if_ne hR (tgt := 10) dX4_day_4 (by decide) (fun c4 => ?_) (fun c4 => ?_)
  · refine z_aload_n hR dX4_day_10 rfl rfl ?_
    refine g_inv0 hR dX4_day_11 zm_4_139 (by decide) zN_X4_asItIs ((wk_39 _) _) zO_X4_asItIs (Nat.le_of_ble_eq_true rfl) ?_
    refine c_X4_asItIs hp.1 hp.2.1 hp.2.2.2.2.2.2.1 ?_
    show R 14 _ _ _
    refine z_aload_n hR dX4_day_14 rfl rfl ?_
    refine g_inv0 hR dX4_day_15 zm_4_154 (by decide) zN_X4_passes ((wk_39 _) _) zO_X4_passes (Nat.le_of_ble_eq_true rfl) ?_
    rw [show gr (gr g 44 (nwr g n)) 39 (iu (iu (iu (g 39) 13 ((anb g n : Nat) : Int)) 14 (g 39 3)) 15 (g 39 4)) = mst g (nwr g n) ((anb g n : Nat) : Int) (g 39 3) (g 39 4) from rfl]
    refine c_X4_passes (mst_md hp (nwr_ok hp.2.2.2.2.2.1) (Nat.lt_of_lt_of_le (anb_lt g n) (Nat.pow_le_pow_right (n := 2) (by decide) hp.2.1)) hp.2.2.2.2.2.2.2.1 (by omega)) (mst_mr hp.2.2.2.2.2.2.2.2.2) ?_
    rw [mst_pass]
    show R 18 _ (.int _ :: _) _
    have hQ := h2 c4
    change R 18 _ [.int (iI (drf n (kdM g) (szM g) (g 41) (pby ea eb lfa m) (anb g n) (g 39 3) (g 39 4) n (nwr g n)).2)] (wof (mst g (drf n (kdM g) (szM g) (g 41) (pby ea eb lfa m) (anb g n) (g 39 3) (g 39 4) n (nwr g n)).1 _ _ _) hh)
    generalize drf n (kdM g) (szM g) (g 41) (pby ea eb lfa m) (anb g n) (g 39 3) (g 39 4) n (nwr g n) = qb at hQ ⊢
    obtain ⟨q, b⟩ := qb
    dsimp only at hQ ⊢
    have loop : ∀ (k i : Nat), i ≤ n → n < i + k → R 21 [(0, .ref 39), (1, .int (iI b)), (2, .int (iI (i : Int)))] [] (wof (gr (mst g q ((anb g n : Nat) : Int) (g 39 3) (g 39 4 + 1)) 42 (dyr (g 42) q i)) hh) := by
      intro k
      induction k with
      | zero => intro i; intros; omega
      | succ k ih =>
        intro i  hi1 hi2 
        refine z_iload_n hR dX4_day_21 rfl rfl ?_
        refine z_aload_n hR dX4_day_22 rfl rfl ?_
        refine g_get hR dX4_day_23 zf_4_76 (wk_39 _) (gi (show gr (mst g q ((anb g n : Nat) : Int) (g 39 3) (g 39 4 + 1)) 42 (dyr (g 42) q i) 39 8 = (n : Int) from hp.1)) ?_
        refine g_icmp_ge hR (tgt := 51) dX4_day_26 (by decide) (fun c26 => ?_) (fun c26 => ?_)
        · have e : n = i := by omega
          subst e
          refine z_aload_n hR dX4_day_51 rfl rfl ?_
          refine z_aload_n hR dX4_day_52 rfl rfl ?_
          refine g_get hR dX4_day_53 zf_4_113 (wk_39 _) (gi (show gr (mst g q ((anb g n : Nat) : Int) (g 39 3) (g 39 4 + 1)) 42 (dyr (g 42) q n) 39 15 = g 39 4 + 1 from rfl)) ?_
          refine g_put hR dX4_day_56 zf_4_70 (wk_39 _) (Nat.le_of_ble_eq_true rfl) rfl rfl rfl rfl ?_
          refine z_aload_n hR dX4_day_59 rfl rfl ?_
          refine z_dup hR dX4_day_60 rfl ?_
          refine g_get hR dX4_day_61 zf_4_73 (wk_39 _) rfl ?_
          refine z_iload_n hR dX4_day_64 rfl rfl ?_
          refine g_iadd hR dX4_day_65 rfl ?_
          refine g_put hR dX4_day_66 zf_4_73 (wk_39 _) (Nat.le_of_ble_eq_true rfl) rfl rfl rfl rfl ?_
          simp only [gr_gr, gr_s]
          refine z_iload_n hR dX4_day_69 rfl rfl ?_
          refine g_iret hR dX4_day_70 rfl ?_
          exact hQ
        · have hin : i < n := by omega
          refine z_aload_n hR dX4_day_29 rfl rfl ?_
          refine g_get hR dX4_day_30 zf_4_16 (wk_39 _) (show _ = some (Value.ref 42) from rfl) ?_
          refine g_iconst hR dX4_day_33 ?_
          refine z_iload_n hR dX4_day_34 rfl rfl ?_
          refine g_imul hR dX4_day_35 (nmul 4 _) ?_
          refine g_iconst hR dX4_day_36 ?_
          refine g_iadd hR dX4_day_37 (nadd _ 2) ?_
          refine z_aload_n hR dX4_day_38 rfl rfl ?_
          refine g_get hR dX4_day_39 zf_4_22 (wk_39 _) (show _ = some (Value.ref 44) from rfl) ?_
          refine z_iload_n hR dX4_day_42 rfl rfl ?_
          refine g_ialdN hR dX4_day_43 (wk_44 _) (show gr (mst g q ((anb g n : Nat) : Int) (g 39 3) (g 39 4 + 1)) 42 (dyr (g 42) q i) 44 i = q i from rfl) ?_
          refine g_iastN hR dX4_day_44 (wk_42 _) ?_
          rw [gr_s, gr_gr, dyr_s]
          refine g_iinc hR dX4_day_45 rfl rfl (by decide) rfl ?_
          refine z_goto hR (tgt := 21) dX4_day_48 (by decide) ?_
          exact ih (i + 1) (by omega) (by omega)
    refine z_istore_n hR dX4_day_18 rfl (by decide) rfl ?_
    refine g_iconst hR dX4_day_19 ?_
    refine z_istore_n hR dX4_day_20 rfl (by decide) rfl ?_
    have hl := loop (n + 1) 0 (by omega) (by omega)
    rw [dyr_0, show gr (mst g q ((anb g n : Nat) : Int) (g 39 3) (g 39 4 + 1)) 42 (g 42) = mst g q ((anb g n : Nat) : Int) (g 39 3) (g 39 4 + 1) from gr_self (mst g q ((anb g n : Nat) : Int) (g 39 3) (g 39 4 + 1)) 42] at hl
    exact hl
  · refine g_bipush hR dX4_day_7 ?_
    refine g_iret hR dX4_day_9 rfl ?_
    exact h1 c4
theorem op_day {zs : zzT} {c : Nat} {g : Nat → Nat → Int} {hh : Int64} (hz : zsok zs) (h : Rel c g) (hc : c < 512)  : opOK zs 32 103 [.ref 0] [.ref 39] c g hh := by
  obtain ⟨hc0, hpage, hnum, hcur, ⟨n, m, an, sn, rp, ea, eb, hS, hH⟩, himg⟩ := id h
  have hk := SS_WK hc0 hcur hS
  have hp := SS_MP hc0 hcur hS
  have hs1 : g 0 2 = 0 ∨ g 0 2 = 1 := by rw [hnum.1.1]; exact hnum.1.2
  have e02 := hnum.1.1
  obtain ⟨q1, q2, q3⟩ := SS_eqn hS
  by_cases hB : g 0 2 = 0
  · exact op_id (r := -103) (by unfold rg; omega) h hc (fun Q q => c_X3_day hs1 hk hz (fun _ => q) (fun x => absurd hB x)) (fun Q q => c_X4_day hnum.1.2 hp (fun _ => q) (fun x => absurd (e02 ▸ hB) x))
  · have hB2 : ¬ g 39 2 = 0 := e02 ▸ hB
    have hD := drf_congr (an := an) (wi := g 2 9) (da := g 2 10) q1 q2 (fun j hj => (hcur j hj).1) (pt := pby ea eb lfa m) (pt1 := pby ea eb lfa m) (fun _ _ => rfl) q3 hk.2.1 n (Nat.le_refl n)
    have hDe : drf n (kdM g) (szM g) (g 41) (pby ea eb lfa m) an (g 2 9) (g 2 10) n (nwr g n) = drf n (kdM g) (szM g) (g 41) (pby ea eb lfa m) (anb g n) (g 39 3) (g 39 4) n (nwr g n) := by rw [show g 2 9 = g 39 3 from hS.2.2.2.1.1, show g 2 10 = g 39 4 from hS.2.2.2.2.1.1, show an = anb g n from hS.2.2.1.2]
    rw [hDe] at hD
    have hrr := @drf_rg n (g 4) (g 5) (g 3) (pby ea eb lfa m) an (g 2 9) (g 2 10) (g 6) n
    refine op_ex (r := (drf n (g 4) (g 5) (g 3) (pby ea eb lfa m) an (g 2 9) (g 2 10) n (g 6)).2) (by have := hk.1.2.1; unfold rg; omega) ?_ (fun Q q => c_X3_day hs1 hk hz (fun x => absurd x hB) (fun _ => q)) (fun Q q => c_X4_day (g := gr (gr g 6 (drf n (g 4) (g 5) (g 3) (pby ea eb lfa m) an (g 2 9) (g 2 10) n (g 6)).1) 2 (iu (iu (g 2) 11 (g 2 11 + (drf n (g 4) (g 5) (g 3) (pby ea eb lfa m) an (g 2 9) (g 2 10) n (g 6)).2)) 10 (g 2 10 + 1))) hnum.1.2 hp (fun x => absurd x hB2) (fun _ => qi q hD.2.symm))
    · have hs := Rel_step h hc
      have hS1 := SS_day (b := (drf n (kdM g) (szM g) (g 41) (pby ea eb lfa m) (anb g n) (g 39 3) (g 39 4) n (nwr g n)).2) hS (drf_ok hk.2.1 n) (drf_inj hk.2.1 hS.2.2.2.2.2.2.2.1 n) hD.1
      refine ⟨hs.1, hs.2.1, hs.2.2.1, hs.2.2.2.1, ⟨n, m, an, sn, rp, ea, eb, ?_, hH⟩, hs.2.2.2.2.2⟩
      show SS n m an rp ea eb (iu (iu (g 2) 11 (g 2 11 + (drf n (g 4) (g 5) (g 3) (pby ea eb lfa m) an (g 2 9) (g 2 10) n (g 6)).2)) 10 (g 2 10 + 1)) (g 4) (g 5) (drf n (g 4) (g 5) (g 3) (pby ea eb lfa m) an (g 2 9) (g 2 10) n (g 6)).1 (g 7) (g 8) (g 39 8) (g 39 9) (g 39 3) (g 39 4 + 1) (g 39 5 + (drf n (kdM g) (szM g) (g 41) (pby ea eb lfa m) (anb g n) (g 39 3) (g 39 4) n (nwr g n)).2) (dyr (g 42) (drf n (kdM g) (szM g) (g 41) (pby ea eb lfa m) (anb g n) (g 39 3) (g 39 4) n (nwr g n)).1 n) (g 43) (c + 1)
      rw [show g 2 11 = g 39 5 from hS.2.2.2.2.2.1, hD.2, show g 2 10 + 1 = g 39 4 + 1 from congrArg (· + 1) hS.2.2.2.2.1.1]
      exact hS1
