theorem brd_bits {n : Nat} {pl : FI} {pt : Nat} {s : Int} (hp : plok n pl) : (bor (fun j => ((pl j + s) % 12).toNat) (fun j => pt.testBit j) n &&& bor (fun j => (pl j).toNat) (fun j => !pt.testBit j) n) ≠ 0 ↔ brd n pl pt s = true := by
  rw [brd_iff]
  constructor
  · intro h
    have : ∃ t, (bor (fun j => ((pl j + s) % 12).toNat) (fun j => pt.testBit j) n &&& bor (fun j => (pl j).toNat) (fun j => !pt.testBit j) n).testBit t = true := by
      rcases Classical.em (∃ t, (bor (fun j => ((pl j + s) % 12).toNat) (fun j => pt.testBit j) n &&& bor (fun j => (pl j).toNat) (fun j => !pt.testBit j) n).testBit t = true) with q | q
      · exact q
      · exfalso
        apply h
        apply Nat.eq_of_testBit_eq
        intro t
        rw [Nat.zero_testBit]
        cases e : (bor (fun j => ((pl j + s) % 12).toNat) (fun j => pt.testBit j) n &&& bor (fun j => (pl j).toNat) (fun j => !pt.testBit j) n).testBit t with
        | false => rfl
        | true => exact absurd ⟨t, e⟩ q
    obtain ⟨t, ht⟩ := this
    rw [Nat.testBit_and, Bool.and_eq_true, bor_bit, bor_bit] at ht
    obtain ⟨⟨i, hi, ci, ei⟩, ⟨k, hk, ck, ek⟩⟩ := ht
    have := hp k hk
    refine ⟨i, k, hi, hk, ci, by simpa using ck, ?_⟩
    omega
  · rintro ⟨i, k, hi, hk, ci, ck, e⟩ h
    have h1 : (bor (fun j => ((pl j + s) % 12).toNat) (fun j => pt.testBit j) n).testBit ((pl i + s) % 12).toNat = true := bor_bit.mpr ⟨i, hi, ci, rfl⟩
    have h2 : (bor (fun j => (pl j).toNat) (fun j => !pt.testBit j) n).testBit ((pl i + s) % 12).toNat = true := bor_bit.mpr ⟨k, hk, by simp [ck], by rw [e]⟩
    have h3 : (bor (fun j => ((pl j + s) % 12).toNat) (fun j => pt.testBit j) n &&& bor (fun j => (pl j).toNat) (fun j => !pt.testBit j) n).testBit ((pl i + s) % 12).toNat = true := by rw [Nat.testBit_and, h1, h2]; rfl
    rw [h] at h3
    simp at h3
/-- the first i of a party have moved -/
def mvi (pl : FI) (pt : Nat) (s : Int) (i : Nat) : FI := fun j => if j < i ∧ pt.testBit j = true then (pl j + s) % 12 else pl j
theorem mvi_0 (pl : FI) (pt : Nat) (s : Int) : mvi pl pt s 0 = pl := by funext j; simp [mvi]
theorem mvi_t {pl : FI} {pt : Nat} {s : Int} {i : Nat} (h : pt.testBit i = true) : iu (mvi pl pt s i) i ((pl i + s) % 12) = mvi pl pt s (i + 1) := by
  funext j
  simp only [iu, mvi]
  by_cases e : j = i
  · subst e
    simp [h]
  · simp only [if_neg e]
    by_cases h2 : j < i
    · have : j < i + 1 := by omega
      simp [h2, this]
    · have : ¬ j < i + 1 := by omega
      simp [h2, this]
theorem mvi_f {pl : FI} {pt : Nat} {s : Int} {i : Nat} (h : pt.testBit i = false) : mvi pl pt s i = mvi pl pt s (i + 1) := by
  funext j
  simp only [mvi]
  by_cases e : j = i
  · subst e
    simp [h]
  · by_cases h2 : j < i
    · have : j < i + 1 := by omega
      simp [h2, this]
    · have : ¬ j < i + 1 := by omega
      simp [h2, this]
theorem bit_lt {pt n j : Nat} (h : pt < 2 ^ n) (hb : pt.testBit j = true) : j < n := by
  rcases Nat.lt_or_ge j n with q | q
  · exact q
  · have := Nat.testBit_lt_two_pow (Nat.lt_of_lt_of_le h (Nat.pow_le_pow_right (by decide) q))
    rw [this] at hb
    cases hb
theorem mvi_n {n : Nat} {pl : FI} {pt : Nat} {s : Int} (hpt : pt < 2 ^ n) (h0 : s ≠ 0) (hb : brd n pl pt s = false) : mvi pl pt s n = mvp n pl pt s := by
  funext j
  unfold mvp
  rw [if_neg (by rw [hb]; simp [h0])]
  unfold mvi
  by_cases q : pt.testBit j = true
  · simp [q, bit_lt hpt q]
  · simp [q]
theorem WD_pl {g : Nat → Nat → Int} {a n an : Nat} {q : FI} (h : WD g a n an) (hq : plok n q) : WD (gr g (a + 4) q) a n an := by
  obtain ⟨hn, hn5, hcu, hkd, hsz, hpl, han, han2, hwi, hda⟩ := h
  have e0 : gr g (a + 4) q a = g a := gr_n _ _ (by omega)
  have e1 : gr g (a + 4) q (a + 1) = g (a + 1) := gr_n _ _ (by omega)
  have e2 : gr g (a + 4) q (a + 2) = g (a + 2) := gr_n _ _ (by omega)
  have e3 : gr g (a + 4) q (a + 3) = g (a + 3) := gr_n _ _ (by omega)
  unfold WD
  rw [e0, e1, e2, e3, gr_s]
  exact ⟨hn, hn5, hcu, hkd, hsz, hq, han, han2, hwi, hda⟩
theorem c_X2_isBarred {zs : zzT} {d : Nat} {Q : zzQ} {g : Nat → Nat → Int} {hh : Int64} {a : Nat} (ha : isW a) {n an : Nat} (hw : WD g a n an) {pt : Nat} (hpt : pt < 32) {s : Int} (hs : -1 ≤ s ∧ s ≤ 1) (hQ : Q [.int (iI (b2i (brd n (g (a + 4)) pt s)))] (wof g hh)) : zzCL zs (d + 2) 38 [.ref a, .int (iI (pt : Int)), .int (iI s)] (wof g hh) Q := by
  refine st_X2_isBarred (Nat.le_of_ble_eq_true rfl) (fun R hR => ?_)
  show R 0 [(0, .ref a), (1, .int (iI (pt : Int))), (2, .int (iI s))] [] _
  obtain ⟨hn, hn5, hcu, hkd, hsz, hpl, han, han2, hwi, hda⟩ := hw
  have loop : ∀ (k i : Nat) (wt tk : Nat), i ≤ n → n < i + k → (wt = bor (fun j => ((g (a + 4) j + s) % 12).toNat) (fun j => pt.testBit j) i) → (tk = bor (fun j => (g (a + 4) j).toNat) (fun j => !pt.testBit j) i) → R 8 [(0, .ref a), (1, .int (iI (pt : Int))), (2, .int (iI s)), (3, .int (iI ((wt : Nat) : Int))), (4, .int (iI ((tk : Nat) : Int))), (5, .int (iI (i : Int)))] [] (wof g hh) := by
    intro k
    induction k with
    | zero => intro i; intros; omega
    | succ k ih =>
      intro i wt tk hi1 hi2 hwt htk
      refine z_iload hR dX2_isBarred_8 rfl ?_
      refine z_aload_n hR dX2_isBarred_10 rfl rfl ?_
      refine g_get hR dX2_isBarred_11 zf_2_30 (wW_0 ha _) (gi hn) ?_
      refine g_icmp_ge hR (tgt := 66) dX2_isBarred_14 (by decide) (fun c14 => ?_) (fun c14 => ?_)
      · have e : i = n := by omega
        subst e
        have b1 : wt < 2 ^ 12 := by rw [hwt]; exact bor_lt (fun j hj => by have := hpl j hj; omega)
        have b2 : wt &&& tk ≤ wt := Nat.and_le_left
        have b3 := brd_bits (pt := pt) (s := s) hpl
        rw [← hwt, ← htk] at b3
        refine z_iload_n hR dX2_isBarred_66 rfl rfl ?_
        refine z_iload hR dX2_isBarred_67 rfl ?_
        refine g_iand hR dX2_isBarred_69 ?_
        refine g_if_eq hR (tgt := 77) dX2_isBarred_70 (by decide) (fun c70 => ?_) (fun c70 => ?_) (hx := by unfold rg; omega)
        · refine g_iconst hR dX2_isBarred_77 ?_
          refine g_zret (b := false) hR dX2_isBarred_78 rfl ?_
          refine qz hQ ?_
          rw [eq_comm]
          first | exact b3.mp (by omega) | (cases e : brd i (g (a + 4)) pt s with
      | false => rfl
      | true => exact absurd (b3.mpr e) (by omega))
        · refine g_iconst hR dX2_isBarred_73 ?_
          refine z_goto hR (tgt := 78) dX2_isBarred_74 (by decide) ?_
          refine g_zret (b := true) hR dX2_isBarred_78 rfl ?_
          refine qz hQ ?_
          rw [eq_comm]
          first | exact b3.mp (by omega) | (cases e : brd i (g (a + 4)) pt s with
      | false => rfl
      | true => exact absurd (b3.mpr e) (by omega))
      · have hin : i < n := by omega
        have hpi := hpl i hin
        refine z_iload_n hR dX2_isBarred_17 rfl rfl ?_
        refine z_iload hR dX2_isBarred_18 rfl ?_
        refine g_ishrN hR dX2_isBarred_20 rfl ?_
        refine g_iconst hR dX2_isBarred_21 ?_
        refine g_iand1 hR dX2_isBarred_22 (tb_int _ _) ?_
        refine g_iconst hR dX2_isBarred_23 ?_
        refine g_icmp_neb hR (tgt := 46) dX2_isBarred_24 (by decide) (fun c24 => ?_) (fun c24 => ?_)
        · refine z_iload hR dX2_isBarred_46 rfl ?_
          refine g_iconst hR dX2_isBarred_48 ?_
          refine z_aload_n hR dX2_isBarred_49 rfl rfl ?_
          refine g_get hR dX2_isBarred_50 zf_2_21 (wW_0 ha _) rfl ?_
          refine z_iload hR dX2_isBarred_53 rfl ?_
          refine g_ialdN hR dX2_isBarred_55 (wW_4 ha _) rfl ?_
          refine g_ishl hR dX2_isBarred_56 (p2z _) (p2b (by omega)) ?_
          refine g_ior hR dX2_isBarred_57 ?_
          refine z_istore hR dX2_isBarred_58 (by decide) rfl ?_
          refine g_iinc hR dX2_isBarred_60 rfl rfl (by decide) rfl ?_
          refine z_goto hR (tgt := 8) dX2_isBarred_63 (by decide) ?_
          refine ih (i + 1) _ _ (by omega) (by omega) ?_ ?_
          · simp [bor, c24, hwt]
          · simp [bor, c24, htk]
        · refine z_iload_n hR dX2_isBarred_27 rfl rfl ?_
          refine g_iconst hR dX2_isBarred_28 ?_
          refine z_aload_n hR dX2_isBarred_29 rfl rfl ?_
          refine g_get hR dX2_isBarred_30 zf_2_21 (wW_0 ha _) rfl ?_
          refine z_iload hR dX2_isBarred_33 rfl ?_
          refine g_ialdN hR dX2_isBarred_35 (wW_4 ha _) rfl ?_
          refine z_iload_n hR dX2_isBarred_36 rfl rfl ?_
          refine g_sta2 hR dX2_isBarred_37 zm_2_61 zN_X2_stepped (Nat.le_of_ble_eq_true rfl) ?_
          refine c_X2_stepped hpi hs ?_
          show R 40 _ (.int _ :: _) _
          refine g_ishl hR dX2_isBarred_40 (p2z _) (p2b (by omega)) ?_
          refine g_ior hR dX2_isBarred_41 ?_
          refine z_istore_n hR dX2_isBarred_42 rfl (by decide) rfl ?_
          refine z_goto hR (tgt := 60) dX2_isBarred_43 (by decide) ?_
          refine g_iinc hR dX2_isBarred_60 rfl rfl (by decide) rfl ?_
          refine z_goto hR (tgt := 8) dX2_isBarred_63 (by decide) ?_
          refine ih (i + 1) _ _ (by omega) (by omega) ?_ ?_
          · simp [bor, c24, hwt]
          · simp [bor, c24, htk]
  refine g_iconst hR dX2_isBarred_0 ?_
  refine z_istore_n hR dX2_isBarred_1 rfl (by decide) rfl ?_
  refine g_iconst hR dX2_isBarred_2 ?_
  refine z_istore hR dX2_isBarred_3 (by decide) rfl ?_
  refine g_iconst hR dX2_isBarred_5 ?_
  refine z_istore hR dX2_isBarred_6 (by decide) rfl ?_
  exact loop (n + 1) 0 0 0 (by omega) (by omega) rfl rfl
theorem c_X2_moves {zs : zzT} {d : Nat} {Q : zzQ} {g : Nat → Nat → Int} {hh : Int64} {a : Nat} (ha : isW a) {n an : Nat} (hw : WD g a n an) (hz : zsok zs) {pt : Nat} (hpt2 : pt < 2 ^ n) (hQ : Q [.int (iI (b2i (decide (bmp n (g (a + 4)) pt (way n (g (a + 2)) (g (a + 3)) (g (a + 1)) an (g a 9) (g a 10) pt (g (a + 4))) = 0))))] (wof (gr g (a + 4) (mvp n (g (a + 4)) pt (way n (g (a + 2)) (g (a + 3)) (g (a + 1)) an (g a 9) (g a 10) pt (g (a + 4))))) hh)) : zzCL zs (d + 3) 35 [.ref a, .int (iI (pt : Int))] (wof g hh) Q := by
  refine st_X2_moves (Nat.le_of_ble_eq_true rfl) (fun R hR => ?_)
  show R 0 [(0, .ref a), (1, .int (iI (pt : Int)))] [] _
  have hw0 := hw
  obtain ⟨hn, hn5, hcu, hkd, hsz, hpl, han, han2, hwi, hda⟩ := hw
  have hpt : pt < 32 := Nat.lt_of_lt_of_le hpt2 (Nat.pow_le_pow_right (n := 2) (by decide) hn5)
  refine z_aload_n hR dX2_moves_0 rfl rfl ?_
  refine z_iload_n hR dX2_moves_1 rfl rfl ?_
  refine g_inv1 hR dX2_moves_2 zm_2_99 (by decide) zN_X2_stepOf ((wW_0 ha _) _) zO_X2_stepOf (Nat.le_of_ble_eq_true rfl) ?_
  refine c_X2_stepOf ha hw0 hz hpt ?_
  show R 5 _ (.int _ :: _) _
  generalize hse : way n (g (a + 2)) (g (a + 3)) (g (a + 1)) an (g a 9) (g a 10) pt (g (a + 4)) = s at hQ ⊢
  have hs : -1 ≤ s ∧ s ≤ 1 := by rw [← hse]; exact sg_rg _
  refine z_istore_n hR dX2_moves_5 rfl (by decide) rfl ?_
  refine z_iload_n hR dX2_moves_6 rfl rfl ?_
  refine g_if_ne hR (tgt := 12) dX2_moves_7 (by decide) (fun c7 => ?_) (fun c7 => ?_)
  · refine z_aload_n hR dX2_moves_12 rfl rfl ?_
    refine z_iload_n hR dX2_moves_13 rfl rfl ?_
    refine z_iload_n hR dX2_moves_14 rfl rfl ?_
    refine g_inv2 hR dX2_moves_15 zm_2_102 (by decide) zN_X2_isBarred ((wW_0 ha _) _) zO_X2_isBarred (Nat.le_of_ble_eq_true rfl) ?_
    refine c_X2_isBarred ha hw0 hpt hs ?_
    show R 18 _ (.int _ :: _) _
    refine g_if_eqb hR (tgt := 23) dX2_moves_18 (by decide) (fun c18 => ?_) (fun c18 => ?_)
    · refine g_iconst hR dX2_moves_23 ?_
      refine z_istore_n hR dX2_moves_24 rfl (by decide) rfl ?_
      have hb : brd n (g (a + 4)) pt s = false := c18
      have h0 : s ≠ 0 := c7
      have loop : ∀ (k i : Nat) (row : FI), i ≤ n → n < i + k → (row = mvi (g (a + 4)) pt s i) → R 25 [(0, .ref a), (1, .int (iI (pt : Int))), (2, .int (iI s)), (3, .int (iI (i : Int)))] [] (wof (gr g (a + 4) row) hh) := by
        intro k
        induction k with
        | zero => intro i; intros; omega
        | succ k ih =>
          intro i row hi1 hi2 hrow
          refine z_iload_n hR dX2_moves_25 rfl rfl ?_
          refine z_aload_n hR dX2_moves_26 rfl rfl ?_
          refine g_get hR dX2_moves_27 zf_2_30 (wW_0 ha _) (gi (show gr g (a + 4) row a 6 = (n : Int) by rw [gr_n _ _ (show a ≠ a + 4 by omega)]; exact hn)) ?_
          refine g_icmp_ge hR (tgt := 64) dX2_moves_30 (by decide) (fun c30 => ?_) (fun c30 => ?_)
          · refine g_iconst hR dX2_moves_64 ?_
            refine g_zret (b := true) hR dX2_moves_65 rfl ?_
            have e : i = n := by omega
            subst e
            rw [hrow, mvi_n hpt2 h0 hb]
            refine qz hQ ?_
            simp [bmp, hb]
          · have hin : i < n := by omega
            have hpi := hpl i hin
            have hri : gr g (a + 4) row (a + 4) i = g (a + 4) i := by rw [gr_s, hrow]; simp [mvi]
            refine z_iload_n hR dX2_moves_33 rfl rfl ?_
            refine z_iload_n hR dX2_moves_34 rfl rfl ?_
            refine g_ishrN hR dX2_moves_35 rfl ?_
            refine g_iconst hR dX2_moves_36 ?_
            refine g_iand1 hR dX2_moves_37 (tb_int _ _) ?_
            refine g_iconst hR dX2_moves_38 ?_
            refine g_icmp_neb hR (tgt := 58) dX2_moves_39 (by decide) (fun c39 => ?_) (fun c39 => ?_)
            · refine g_iinc hR dX2_moves_58 rfl rfl (by decide) rfl ?_
              refine z_goto hR (tgt := 25) dX2_moves_61 (by decide) ?_
              first | exact ih (i + 1) row (by omega) (by omega) (by rw [hrow]; exact mvi_f c39) | (rw [gr_s, gr_gr]; exact ih (i + 1) _ (by omega) (by omega) (by rw [hrow]; exact mvi_t c39))
            · refine z_aload_n hR dX2_moves_42 rfl rfl ?_
              refine g_get hR dX2_moves_43 zf_2_21 (wW_0 ha _) rfl ?_
              refine z_iload_n hR dX2_moves_46 rfl rfl ?_
              refine z_aload_n hR dX2_moves_47 rfl rfl ?_
              refine g_get hR dX2_moves_48 zf_2_21 (wW_0 ha _) rfl ?_
              refine z_iload_n hR dX2_moves_51 rfl rfl ?_
              refine g_ialdN hR dX2_moves_52 (wW_4 ha _) hri ?_
              refine z_iload_n hR dX2_moves_53 rfl rfl ?_
              refine g_sta2 hR dX2_moves_54 zm_2_61 zN_X2_stepped (Nat.le_of_ble_eq_true rfl) ?_
              refine c_X2_stepped hpi hs ?_
              show R 57 _ (.int _ :: _) _
              refine g_iastN hR dX2_moves_57 (wW_4 ha _) ?_
              refine g_iinc hR dX2_moves_58 rfl rfl (by decide) rfl ?_
              refine z_goto hR (tgt := 25) dX2_moves_61 (by decide) ?_
              first | exact ih (i + 1) row (by omega) (by omega) (by rw [hrow]; exact mvi_f c39) | (rw [gr_s, gr_gr]; exact ih (i + 1) _ (by omega) (by omega) (by rw [hrow]; exact mvi_t c39))
      have hl := loop (n + 1) 0 (g (a + 4)) (by omega) (by omega) (mvi_0 _ _ _).symm
      rw [gr_self] at hl
      exact hl
    · refine g_iconst hR dX2_moves_21 ?_
      refine g_zret (b := false) hR dX2_moves_22 rfl ?_
      refine qw (qz hQ ?_) (wofg ?_)
      · simp [bmp, c7, c18]
      · rw [show mvp n (g (a + 4)) pt s = g (a + 4) by simp [mvp, c18], gr_self]
  · refine g_iconst hR dX2_moves_10 ?_
    refine g_zret (b := true) hR dX2_moves_11 rfl ?_
    refine qw (qz hQ ?_) (wofg ?_)
    · simp [bmp, c7]
    · rw [show mvp n (g (a + 4)) pt s = g (a + 4) by simp [mvp, c7], gr_self]
theorem drf_t {n : Nat} {kd sz cur : FI} {pt : Nat → Nat} {an : Nat} {wi da : Int} {i : Nat} {pl : FI} (h : lead pt i = true) : drf n kd sz cur pt an wi da (i + 1) pl = (mvp n (drf n kd sz cur pt an wi da i pl).1 (pt i) (way n kd sz cur an wi da (pt i) (drf n kd sz cur pt an wi da i pl).1), (drf n kd sz cur pt an wi da i pl).2 + bmp n (drf n kd sz cur pt an wi da i pl).1 (pt i) (way n kd sz cur an wi da (pt i) (drf n kd sz cur pt an wi da i pl).1)) := by
  rw [drf, if_pos h]
theorem drf_f {n : Nat} {kd sz cur : FI} {pt : Nat → Nat} {an : Nat} {wi da : Int} {i : Nat} {pl : FI} (h : lead pt i = false) : drf n kd sz cur pt an wi da (i + 1) pl = drf n kd sz cur pt an wi da i pl := by
  rw [drf, if_neg (by rw [h]; decide)]
theorem bmp_01 {n : Nat} {pl : FI} {pt : Nat} {s : Int} (h : ¬ bmp n pl pt s = 0) : bmp n pl pt s = 1 := by
  unfold bmp at h ⊢
  split
  · rfl
  · next q => rw [if_neg q] at h; exact absurd rfl h
theorem c_X2_drift {zs : zzT} {d : Nat} {Q : zzQ} {g : Nat → Nat → Int} {hh : Int64} {a : Nat} (ha : isW a) {n an : Nat} (hw : WD g a n an) (hz : zsok zs) {pt : Nat → Nat} (hpt : ∀ j, j < n → g (a + 6) j = ((pt j : Nat) : Int) ∧ pt j < 2 ^ n) (hQ : Q [.int (iI (drf n (g (a + 2)) (g (a + 3)) (g (a + 1)) pt an (g a 9) (g a 10) n (g (a + 4))).2)] (wof (gr (gr g (a + 4) (drf n (g (a + 2)) (g (a + 3)) (g (a + 1)) pt an (g a 9) (g a 10) n (g (a + 4))).1) a (iu (iu (g a) 11 (g a 11 + (drf n (g (a + 2)) (g (a + 3)) (g (a + 1)) pt an (g a 9) (g a 10) n (g (a + 4))).2)) 10 (g a 10 + 1))) hh)) : zzCL zs (d + 4) 33 [.ref a] (wof g hh) Q := by
  refine st_X2_drift (Nat.le_of_ble_eq_true rfl) (fun R hR => ?_)
  show R 0 [(0, .ref a)] [] _
  have hw0 := hw
  obtain ⟨hn, hn5, hcu, hkd, hsz, hpl, han, han2, hwi, hda⟩ := hw
  have loop : ∀ (k i : Nat) (q : FI) (b : Int), i ≤ n → n < i + k → (plok n q) → ((q, b) = drf n (g (a + 2)) (g (a + 3)) (g (a + 1)) pt an (g a 9) (g a 10) i (g (a + 4))) → R 4 [(0, .ref a), (1, .int (iI b)), (2, .int (iI (i : Int)))] [] (wof (gr g (a + 4) q) hh) := by
    intro k
    induction k with
    | zero => intro i; intros; omega
    | succ k ih =>
      intro i q b hi1 hi2 hq hqb
      refine z_iload_n hR dX2_drift_4 rfl rfl ?_
      refine z_aload_n hR dX2_drift_5 rfl rfl ?_
      refine g_get hR dX2_drift_6 zf_2_30 (wW_0 ha _) (gi (show gr g (a + 4) q a 6 = (n : Int) by rw [gr_n _ _ (show a ≠ a + 4 by omega)]; exact hn)) ?_
      refine g_icmp_ge hR (tgt := 42) dX2_drift_9 (by decide) (fun c9 => ?_) (fun c9 => ?_)
      · have e : i = n := by omega
        subst e
        refine z_aload_n hR dX2_drift_42 rfl rfl ?_
        refine z_dup hR dX2_drift_43 rfl ?_
        refine g_get hR dX2_drift_44 zf_2_46 (wW_0 ha _) rfl ?_
        refine z_iload_n hR dX2_drift_47 rfl rfl ?_
        refine g_iadd hR dX2_drift_48 rfl ?_
        refine g_put hR dX2_drift_49 zf_2_46 (wW_0 ha _) (Nat.le_of_ble_eq_true rfl) rfl rfl rfl rfl ?_
        refine z_aload_n hR dX2_drift_52 rfl rfl ?_
        refine z_dup hR dX2_drift_53 rfl ?_
        refine g_get hR dX2_drift_54 zf_2_43 (wW_0 ha _) rfl ?_
        refine g_iconst hR dX2_drift_57 ?_
        refine g_iadd hR dX2_drift_58 rfl ?_
        refine g_put hR dX2_drift_59 zf_2_43 (wW_0 ha _) (Nat.le_of_ble_eq_true rfl) rfl rfl rfl rfl ?_
        refine z_iload_n hR dX2_drift_62 rfl rfl ?_
        refine g_iret hR dX2_drift_63 rfl ?_
        simp only [gr_n _ _ (show a ≠ a + 4 by omega), gr_s, gr_gr] at hQ ⊢
        rw [← hqb] at hQ
        exact hQ
      · have hin : i < n := by omega
        refine z_aload_n hR dX2_drift_12 rfl rfl ?_
        refine z_iload_n hR dX2_drift_13 rfl rfl ?_
        refine g_inv1 hR dX2_drift_14 zm_2_84 (by decide) zN_X2_leads ((wW_0 ha _) _) zO_X2_leads (Nat.le_of_ble_eq_true rfl) ?_
        refine c_X2_leads ha (pt := pt) (by omega) (by rw [gr_n _ _ (show a + 6 ≠ a + 4 by omega)]; exact (hpt i hin).1) ?_
        show R 17 _ (.int _ :: _) _
        refine g_if_eqb hR (tgt := 36) dX2_drift_17 (by decide) (fun c17 => ?_) (fun c17 => ?_)
        · refine g_iinc hR dX2_drift_36 rfl rfl (by decide) rfl ?_
          refine z_goto hR (tgt := 4) dX2_drift_39 (by decide) ?_
          first | exact ih (i + 1) q b (by omega) (by omega) hq (by rw [drf_f c17]; exact hqb) | (refine ih (i + 1) _ _ (by omega) (by omega) (mvp_ok hq) ?_; rw [drf_t c17, ← hqb]; simp [c30])
        · refine z_aload_n hR dX2_drift_20 rfl rfl ?_
          refine z_aload_n hR dX2_drift_21 rfl rfl ?_
          refine g_get hR dX2_drift_22 zf_2_27 (wW_0 ha _) rfl ?_
          refine z_iload_n hR dX2_drift_25 rfl rfl ?_
          refine g_ialdN hR dX2_drift_26 (wW_6 ha _) (show gr g (a + 4) q (a + 6) i = ((pt i : Nat) : Int) by rw [gr_n _ _ (show a + 6 ≠ a + 4 by omega)]; exact (hpt i hin).1) ?_
          refine g_inv1 hR dX2_drift_27 zm_2_96 (by decide) zN_X2_moves ((wW_0 ha _) _) zO_X2_moves (Nat.le_of_ble_eq_true rfl) ?_
          refine c_X2_moves ha (WD_pl hw0 hq) hz (hpt i hin).2 ?_
          simp only [gr_n _ q (show a ≠ a + 4 by omega), gr_n _ q (show a + 1 ≠ a + 4 by omega), gr_n _ q (show a + 2 ≠ a + 4 by omega), gr_n _ q (show a + 3 ≠ a + 4 by omega), gr_s, gr_gr]
          show R 30 _ (.int _ :: _) _
          refine g_if_neb hR (tgt := 36) dX2_drift_30 (by decide) (fun c30 => ?_) (fun c30 => ?_)
          · have c30 := of_decide_eq_true c30
            refine g_iinc hR dX2_drift_36 rfl rfl (by decide) rfl ?_
            refine z_goto hR (tgt := 4) dX2_drift_39 (by decide) ?_
            first | exact ih (i + 1) q b (by omega) (by omega) hq (by rw [drf_f c17]; exact hqb) | (refine ih (i + 1) _ _ (by omega) (by omega) (mvp_ok hq) ?_; rw [drf_t c17, ← hqb]; simp [c30])
          · have c30 := bmp_01 (of_decide_eq_false c30)
            refine g_iinc hR dX2_drift_33 rfl rfl (by decide) rfl ?_
            refine g_iinc hR dX2_drift_36 rfl rfl (by decide) rfl ?_
            refine z_goto hR (tgt := 4) dX2_drift_39 (by decide) ?_
            first | exact ih (i + 1) q b (by omega) (by omega) hq (by rw [drf_f c17]; exact hqb) | (refine ih (i + 1) _ _ (by omega) (by omega) (mvp_ok hq) ?_; rw [drf_t c17, ← hqb]; simp [c30])
  refine g_iconst hR dX2_drift_0 ?_
  refine z_istore_n hR dX2_drift_1 rfl (by decide) rfl ?_
  refine g_iconst hR dX2_drift_2 ?_
  refine z_istore_n hR dX2_drift_3 rfl (by decide) rfl ?_
  have hl := loop (n + 1) 0 (g (a + 4)) 0 (by omega) (by omega) hpl rfl
  rw [gr_self] at hl
  exact hl
