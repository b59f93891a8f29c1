theorem anbF_bit (rows : FI) (n t : Nat) : (anbF rows n).testBit t = decide (t < n ∧ rows (4 * t + 3) = 1) := by
  have h : (anbF rows n).testBit t = true ↔ t < n ∧ rows (4 * t + 3) = 1 := by
    unfold anbF
    rw [bor_bit]
    constructor
    · rintro ⟨j, a, b, rfl⟩
      exact ⟨a, of_decide_eq_true b⟩
    · rintro ⟨a, b⟩
      exact ⟨t, a, decide_eq_true b, rfl⟩
  cases e : (anbF rows n).testBit t with
  | true => exact (decide_eq_true (h.mp e)).symm
  | false => exact (decide_eq_false (fun q => by rw [h.mpr q] at e; cases e)).symm
def ancN (an i : Nat) (b : Bool) : Nat := if b = true then an ||| 2 ^ i else an ^^^ (an &&& 2 ^ i)
theorem anb_anchor {rows : FI} {n i : Nat} (hi : i < n) (b : Bool) : ancN (anbF rows n) i b = anbF (iu rows (4 * i + 3) (b2i b)) n := by
  apply Nat.eq_of_testBit_eq
  intro t
  rw [anbF_bit]
  unfold ancN
  by_cases e : t = i
  · subst e
    rw [iu_s]
    cases b
    · simp only [Bool.false_eq_true, if_false, Nat.testBit_xor, Nat.testBit_and, Nat.testBit_two_pow_self, Bool.and_true, Bool.xor_self, b2i]
      simp
    · simp only [if_true, Nat.testBit_or, Nat.testBit_two_pow_self, Bool.or_true, b2i]
      simp [hi]
  · rw [iu_n _ _ (by omega)]
    have h2 : (2 ^ i).testBit t = false := by rw [Nat.testBit_two_pow]; simp; omega
    cases b
    · simp only [Bool.false_eq_true, if_false, Nat.testBit_xor, Nat.testBit_and, h2, Bool.and_false, Bool.xor_false]
      exact anbF_bit rows n t
    · simp only [if_true, Nat.testBit_or, h2, Bool.or_false]
      exact anbF_bit rows n t
theorem SS_anchor {n m an c : Nat} {rp ea eb : Nat → Nat} {o kdf szf plf rpI ptI : FI} {is rm wi da bu : Int} {rows ropes : FI} (h : SS n m an rp ea eb o kdf szf plf rpI ptI is rm wi da bu rows ropes c) {i : Nat} (hi : i < n) (b : Bool) : SS n m (ancN an i b) rp ea eb (iu o 8 ((ancN an i b : Nat) : Int)) kdf szf plf rpI ptI is rm wi da bu (iu rows (4 * i + 3) (b2i b)) ropes (c + 1) := by
  obtain ⟨h1, h2, h3, h4, h5, h6, h7, h8, h9, h10, h11⟩ := h
  refine ⟨⟨by rw [iu_n _ _ (by omega)]; exact h1.1, h1.2⟩, ⟨by rw [iu_n _ _ (by omega)]; exact h2.1, h2.2⟩, ⟨iu_s _ _ _, by rw [h3.2]; exact anb_anchor hi b⟩, ⟨by rw [iu_n _ _ (by omega)]; exact h4.1, h4.2⟩, ⟨by rw [iu_n _ _ (by omega)]; exact h5.1, h5.2.1, by have := h5.2.2; omega⟩, by rw [iu_n _ _ (by omega)]; exact h6, fun j hj => ?_, h8, h9, h10, h11⟩
  obtain ⟨a1, a2, a3, a4⟩ := h7 j hj
  rw [iu_n _ _ (show 4 * j ≠ 4 * i + 3 by omega), iu_n _ _ (show 4 * j + 1 ≠ 4 * i + 3 by omega), iu_n _ _ (show 4 * j + 2 ≠ 4 * i + 3 by omega)]
  refine ⟨a1, a2, a3, ?_⟩
  by_cases e : j = i
  · subst e
    rw [iu_s]
    cases b
    · exact Or.inl rfl
    · exact Or.inr rfl
  · rw [iu_n _ _ (by omega)]
    exact a4
theorem c_X3_anchor {zs : zzT} {d : Nat} {Q : zzQ} {g : Nat → Nat → Int} {hh : Int64} {n an : Nat} (hn : g 2 6 = (n : Int)) (hn5 : n ≤ 5) (han : g 2 8 = (an : Int)) (han2 : an < 32) {z : Int} {b : Bool} (hz1 : rg z) (h1 : ¬ (0 ≤ z ∧ z < (n : Int)) → Q [.int (iI (-101))] (wof g hh)) (h2 : ∀ i : Nat, z = (i : Int) → i < n → Q [.int (iI (b2i (an.testBit i)))] (wof (gr g 2 (iu (g 2) 8 ((ancN an i b : Nat) : Int))) hh)) : zzCL zs (d + 2) 23 [.ref 0, .int (iI z), .int (iI (b2i b))] (wof g hh) Q := by
  refine st_X3_anchor (Nat.le_of_ble_eq_true rfl) (fun R hR => ?_)
  show R 0 [(0, .ref 0), (1, .int (iI z)), (2, .int (iI (b2i b)))] [] _
  refine z_aload_n hR dX3_anchor_0 rfl rfl ?_
  refine z_iload_n hR dX3_anchor_1 rfl rfl ?_
  refine g_inv1 hR dX3_anchor_2 zm_3_112 (by decide) zN_X3_isIsland ((wk_0 _) _) zO_X3_isIsland (Nat.le_of_ble_eq_true rfl) ?_
  refine c_X3_isIsland hn hn5 hz1 ?_
  show R 5 _ (.int _ :: _) _
  refine g_if_neb hR (tgt := 11) dX3_anchor_5 (by decide) (fun c5 => ?_) (fun c5 => ?_)
  · have c5 := of_decide_eq_true c5
    obtain ⟨i, rfl⟩ := Int.eq_ofNat_of_zero_le c5.1
    refine z_aload_n hR dX3_anchor_11 rfl rfl ?_
    refine g_get hR dX3_anchor_12 zf_3_33 (wk_0 _) (show _ = some (Value.ref 2) from rfl) ?_
    refine z_iload_n hR dX3_anchor_15 rfl rfl ?_
    refine g_inv1 hR dX3_anchor_16 zm_3_127 (by decide) zN_X2_isAnchored ((wk_2 _) _) zO_X2_isAnchored (Nat.le_of_ble_eq_true rfl) ?_
    refine c_X2_isAnchored isW2 han han2 (i := i) (by omega) ?_
    show R 19 _ (.int _ :: _) _
    refine g_if_eqb hR (tgt := 26) dX3_anchor_19 (by decide) (fun c19 => ?_) (fun c19 => ?_)
    · refine g_iconst hR dX3_anchor_26 ?_
      refine z_istore_n hR dX3_anchor_27 rfl (by decide) rfl ?_
      refine z_iload_n hR dX3_anchor_28 rfl rfl ?_
      refine g_if_eqb hR (tgt := 50) dX3_anchor_29 (by decide) (fun c29 => ?_) (fun c29 => ?_)
      · refine z_aload_n hR dX3_anchor_50 rfl rfl ?_
        refine g_get hR dX3_anchor_51 zf_3_33 (wk_0 _) (show _ = some (Value.ref 2) from rfl) ?_
        refine z_dup hR dX3_anchor_54 rfl ?_
        refine g_get hR dX3_anchor_55 zf_3_139 (wk_2 _) (gi han) ?_
        refine g_iconst hR dX3_anchor_58 ?_
        refine z_iload_n hR dX3_anchor_59 rfl rfl ?_
        refine g_ishl hR dX3_anchor_60 (p2n _) (p2b (by omega)) ?_
        refine g_iconst hR dX3_anchor_61 ?_
        refine g_inot hR dX3_anchor_62 rfl ?_
        refine g_iandn hR dX3_anchor_63 ?_
        refine g_put hR dX3_anchor_64 zf_3_139 (wk_2 _) (Nat.le_of_ble_eq_true rfl) rfl rfl rfl rfl ?_
        refine z_iload_n hR dX3_anchor_67 rfl rfl ?_
        refine g_iret hR dX3_anchor_68 rfl ?_
        have hq := h2 i rfl (by omega)
        rw [c19] at hq
        simp only [ancN, c29, if_true, if_false, Bool.false_eq_true] at hq
        exact hq
      · refine z_aload_n hR dX3_anchor_32 rfl rfl ?_
        refine g_get hR dX3_anchor_33 zf_3_33 (wk_0 _) (show _ = some (Value.ref 2) from rfl) ?_
        refine z_dup hR dX3_anchor_36 rfl ?_
        refine g_get hR dX3_anchor_37 zf_3_139 (wk_2 _) (gi han) ?_
        refine g_iconst hR dX3_anchor_40 ?_
        refine z_iload_n hR dX3_anchor_41 rfl rfl ?_
        refine g_ishl hR dX3_anchor_42 (p2n _) (p2b (by omega)) ?_
        refine g_ior hR dX3_anchor_43 ?_
        refine g_put hR dX3_anchor_44 zf_3_139 (wk_2 _) (Nat.le_of_ble_eq_true rfl) rfl rfl rfl rfl ?_
        refine z_goto hR (tgt := 67) dX3_anchor_47 (by decide) ?_
        refine z_iload_n hR dX3_anchor_67 rfl rfl ?_
        refine g_iret hR dX3_anchor_68 rfl ?_
        have hq := h2 i rfl (by omega)
        rw [c19] at hq
        simp only [ancN, c29, if_true, if_false, Bool.false_eq_true] at hq
        exact hq
    · refine g_iconst hR dX3_anchor_22 ?_
      refine z_goto hR (tgt := 27) dX3_anchor_23 (by decide) ?_
      refine z_istore_n hR dX3_anchor_27 rfl (by decide) rfl ?_
      refine z_iload_n hR dX3_anchor_28 rfl rfl ?_
      refine g_if_eqb hR (tgt := 50) dX3_anchor_29 (by decide) (fun c29 => ?_) (fun c29 => ?_)
      · refine z_aload_n hR dX3_anchor_50 rfl rfl ?_
        refine g_get hR dX3_anchor_51 zf_3_33 (wk_0 _) (show _ = some (Value.ref 2) from rfl) ?_
        refine z_dup hR dX3_anchor_54 rfl ?_
        refine g_get hR dX3_anchor_55 zf_3_139 (wk_2 _) (gi han) ?_
        refine g_iconst hR dX3_anchor_58 ?_
        refine z_iload_n hR dX3_anchor_59 rfl rfl ?_
        refine g_ishl hR dX3_anchor_60 (p2n _) (p2b (by omega)) ?_
        refine g_iconst hR dX3_anchor_61 ?_
        refine g_inot hR dX3_anchor_62 rfl ?_
        refine g_iandn hR dX3_anchor_63 ?_
        refine g_put hR dX3_anchor_64 zf_3_139 (wk_2 _) (Nat.le_of_ble_eq_true rfl) rfl rfl rfl rfl ?_
        refine z_iload_n hR dX3_anchor_67 rfl rfl ?_
        refine g_iret hR dX3_anchor_68 rfl ?_
        have hq := h2 i rfl (by omega)
        rw [c19] at hq
        simp only [ancN, c29, if_true, if_false, Bool.false_eq_true] at hq
        exact hq
      · refine z_aload_n hR dX3_anchor_32 rfl rfl ?_
        refine g_get hR dX3_anchor_33 zf_3_33 (wk_0 _) (show _ = some (Value.ref 2) from rfl) ?_
        refine z_dup hR dX3_anchor_36 rfl ?_
        refine g_get hR dX3_anchor_37 zf_3_139 (wk_2 _) (gi han) ?_
        refine g_iconst hR dX3_anchor_40 ?_
        refine z_iload_n hR dX3_anchor_41 rfl rfl ?_
        refine g_ishl hR dX3_anchor_42 (p2n _) (p2b (by omega)) ?_
        refine g_ior hR dX3_anchor_43 ?_
        refine g_put hR dX3_anchor_44 zf_3_139 (wk_2 _) (Nat.le_of_ble_eq_true rfl) rfl rfl rfl rfl ?_
        refine z_goto hR (tgt := 67) dX3_anchor_47 (by decide) ?_
        refine z_iload_n hR dX3_anchor_67 rfl rfl ?_
        refine g_iret hR dX3_anchor_68 rfl ?_
        have hq := h2 i rfl (by omega)
        rw [c19] at hq
        simp only [ancN, c29, if_true, if_false, Bool.false_eq_true] at hq
        exact hq
  · have c5 := of_decide_eq_false c5
    refine g_bipush hR dX3_anchor_8 ?_
    refine g_iret hR dX3_anchor_10 rfl ?_
    exact h1 c5
theorem c_X4_anchor {zs : zzT} {d : Nat} {Q : zzQ} {g : Nat → Nat → Int} {hh : Int64} {n : Nat} (hn : g 39 8 = (n : Int)) (hn5 : n ≤ 5) {z : Int} {b : Bool} (hz1 : rg z) (h1 : ¬ (0 ≤ z ∧ z < (n : Int)) → Q [.int (iI (-101))] (wof g hh)) (h2 : ∀ i : Nat, z = (i : Int) → i < n → Q [.int (iI (g 42 (4 * i + 3)))] (wof (gr g 42 (iu (g 42) (4 * i + 3) (b2i b))) hh)) : zzCL zs (d + 3) 99 [.ref 39, .int (iI z), .int (iI (b2i b))] (wof g hh) Q := by
  refine st_X4_anchor (Nat.le_of_ble_eq_true rfl) (fun R hR => ?_)
  show R 0 [(0, .ref 39), (1, .int (iI z)), (2, .int (iI (b2i b)))] [] _
  refine z_aload_n hR dX4_anchor_0 rfl rfl ?_
  refine z_iload_n hR dX4_anchor_1 rfl rfl ?_
  refine g_inv1 hR dX4_anchor_2 zm_4_91 (by decide) zN_X4_isIsland ((wk_39 _) _) zO_X4_isIsland (Nat.le_of_ble_eq_true rfl) ?_
  refine c_X4_isIsland hn hn5 hz1 ?_
  show R 5 _ (.int _ :: _) _
  refine g_if_neb hR (tgt := 11) dX4_anchor_5 (by decide) (fun c5 => ?_) (fun c5 => ?_)
  · have c5 := of_decide_eq_true c5
    obtain ⟨i, rfl⟩ := Int.eq_ofNat_of_zero_le c5.1
    refine z_aload_n hR dX4_anchor_11 rfl rfl ?_
    refine g_get hR dX4_anchor_12 zf_4_16 (wk_39 _) (show _ = some (Value.ref 42) from rfl) ?_
    refine g_iconst hR dX4_anchor_15 ?_
    refine z_iload_n hR dX4_anchor_16 rfl rfl ?_
    refine g_imul hR dX4_anchor_17 (nmul 4 _) ?_
    refine g_iconst hR dX4_anchor_18 ?_
    refine g_iadd hR dX4_anchor_19 (nadd _ 3) ?_
    refine g_ialdN hR dX4_anchor_20 (wk_42 _) rfl ?_
    refine z_istore_n hR dX4_anchor_21 rfl (by decide) rfl ?_
    refine z_aload_n hR dX4_anchor_22 rfl rfl ?_
    refine g_get hR dX4_anchor_23 zf_4_16 (wk_39 _) (show _ = some (Value.ref 42) from rfl) ?_
    refine g_iconst hR dX4_anchor_26 ?_
    refine z_iload_n hR dX4_anchor_27 rfl rfl ?_
    refine g_imul hR dX4_anchor_28 (nmul 4 _) ?_
    refine g_iconst hR dX4_anchor_29 ?_
    refine g_iadd hR dX4_anchor_30 (nadd _ 3) ?_
    refine z_iload_n hR dX4_anchor_31 rfl rfl ?_
    refine g_if_eqb hR (tgt := 39) dX4_anchor_32 (by decide) (fun c32 => ?_) (fun c32 => ?_)
    · refine g_iconst hR dX4_anchor_39 ?_
      refine g_iastN hR dX4_anchor_40 (wk_42 _) ?_
      refine z_iload_n hR dX4_anchor_41 rfl rfl ?_
      refine g_iret hR dX4_anchor_42 rfl ?_
      have hq := h2 i rfl (by omega)
      rw [c32] at hq
      exact hq
    · refine g_iconst hR dX4_anchor_35 ?_
      refine z_goto hR (tgt := 40) dX4_anchor_36 (by decide) ?_
      refine g_iastN hR dX4_anchor_40 (wk_42 _) ?_
      refine z_iload_n hR dX4_anchor_41 rfl rfl ?_
      refine g_iret hR dX4_anchor_42 rfl ?_
      have hq := h2 i rfl (by omega)
      rw [c32] at hq
      exact hq
  · have c5 := of_decide_eq_false c5
    refine g_bipush hR dX4_anchor_8 ?_
    refine g_iret hR dX4_anchor_10 rfl ?_
    exact h1 c5
theorem op_anchor {zs : zzT} {c : Nat} {g : Nat → Nat → Int} {hh : Int64} (hz : zsok zs) (h : Rel c g) (hc : c < 512) {z : Int} {b : Bool} (hz1 : rg z) : opOK zs 23 99 [.ref 0, .int (iI z), .int (iI (b2i b))] [.ref 39, .int (iI z), .int (iI (b2i b))] c g hh := by
  obtain ⟨hc0, hpage, hnum, hcur, ⟨n, m, an, sn, rp, ea, eb, hS, hH⟩, himg⟩ := id h
  have hk := SS_WK hc0 hcur hS
  have hp := SS_MP hc0 hcur hS
  have han2 : an < 32 := Nat.lt_of_lt_of_le hk.2.2.2.1 (Nat.pow_le_pow_right (n := 2) (by decide) hk.1.2.1)
  by_cases hA : 0 ≤ z ∧ z < (n : Int)
  · obtain ⟨i, rfl⟩ := Int.eq_ofNat_of_zero_le hA.1
    have hin : i < n := by omega
    have hb : b2i (an.testBit i) = g 42 (4 * i + 3) := by
      rw [hS.2.2.1.2, anbF_bit]
      rcases (hS.2.2.2.2.2.2.1 i hin).2.2.2 with q | q <;> simp [q, b2i, hin]
    refine op_ex (r := b2i (an.testBit i)) (b2i_rg _) ?_ (fun Q q => c_X3_anchor hk.1.1 hk.1.2.1 hk.2.2.1 han2 hz1 (fun x => absurd hA x) (fun a e _ => by rw [← Int.ofNat.inj e]; exact q)) (fun Q q => c_X4_anchor (g := gr g 2 (iu (g 2) 8 ((ancN an i b : Nat) : Int))) hp.1 hp.2.1 hz1 (fun x => absurd hA x) (fun a e _ => by rw [← Int.ofNat.inj e, show gr g 2 (iu (g 2) 8 ((ancN an i b : Nat) : Int)) 42 (4 * i + 3) = b2i (an.testBit i) from hb.symm]; exact q))
    have hs := Rel_step h hc
    exact ⟨hs.1, hs.2.1, hs.2.2.1, hs.2.2.2.1, ⟨n, m, _, sn, rp, ea, eb, SS_anchor hS hin b, hH⟩, hs.2.2.2.2.2⟩
  · exact op_id (r := -101) (by unfold rg; omega) h hc (fun Q q => c_X3_anchor hk.1.1 hk.1.2.1 hk.2.2.1 han2 hz1 (fun _ => q) (fun a e x => absurd (by omega) hA)) (fun Q q => c_X4_anchor hp.1 hp.2.1 hz1 (fun _ => q) (fun a e x => absurd (by omega) hA))
theorem c_X2_neighbours {zs : zzT} {d : Nat} {Q : zzQ} {g : Nat → Nat → Int} {hh : Int64} {a : Nat} (ha : isW a) {n : Nat} (hn : g a 6 = (n : Int)) (hn5 : n ≤ 5) (hpl : plok n (g (a + 4))) {x : Nat} (hx : x < n) (hQ : Q [.int (iI ((bor (fun j => j) (fun j => bs (g (a + 4) x) (g (a + 4) j)) n : Nat) : Int))] (wof g hh)) : zzCL zs (d + 3) 19 [.ref a, .int (iI (x : Int))] (wof g hh) Q := by
  refine st_X2_neighbours (Nat.le_of_ble_eq_true rfl) (fun R hR => ?_)
  show R 0 [(0, .ref a), (1, .int (iI (x : Int)))] [] _
  have loop : ∀ (k i : Nat) (b : Nat), i ≤ n → n < i + k → (b = bor (fun j => j) (fun j => bs (g (a + 4) x) (g (a + 4) j)) i) → R 4 [(0, .ref a), (1, .int (iI (x : Int))), (2, .int (iI ((b : Nat) : Int))), (3, .int (iI (i : Int)))] [] (wof g hh) := by
    intro k
    induction k with
    | zero => intro i; intros; omega
    | succ k ih =>
      intro i b hi1 hi2 hb
      refine z_iload_n hR dX2_neighbours_4 rfl rfl ?_
      refine z_aload_n hR dX2_neighbours_5 rfl rfl ?_
      refine g_get hR dX2_neighbours_6 zf_2_30 (wW_0 ha _) (gi hn) ?_
      refine g_icmp_ge hR (tgt := 33) dX2_neighbours_9 (by decide) (fun c9 => ?_) (fun c9 => ?_)
      · refine z_iload_n hR dX2_neighbours_33 rfl rfl ?_
        refine g_iret hR dX2_neighbours_34 rfl ?_
        have e : i = n := by omega
        subst e
        rw [hb]
        exact hQ
      · have hin : i < n := by omega
        refine z_aload_n hR dX2_neighbours_12 rfl rfl ?_
        refine z_iload_n hR dX2_neighbours_13 rfl rfl ?_
        refine z_iload_n hR dX2_neighbours_14 rfl rfl ?_
        refine g_inv2 hR dX2_neighbours_15 zm_2_65 (by decide) zN_X2_areBeside ((wW_0 ha _) _) zO_X2_areBeside (Nat.le_of_ble_eq_true rfl) ?_
        refine c_X2_areBeside ha (by omega) (by omega) (hpl x hx) (hpl i hin) ?_
        show R 18 _ (.int _ :: _) _
        refine g_if_eqb hR (tgt := 27) dX2_neighbours_18 (by decide) (fun c18 => ?_) (fun c18 => ?_)
        · refine g_iinc hR dX2_neighbours_27 rfl rfl (by decide) rfl ?_
          refine z_goto hR (tgt := 4) dX2_neighbours_30 (by decide) ?_
          refine ih (i + 1) _ (by omega) (by omega) ?_
          simp [bor, c18, hb]
        · refine z_iload_n hR dX2_neighbours_21 rfl rfl ?_
          refine g_iconst hR dX2_neighbours_22 ?_
          refine z_iload_n hR dX2_neighbours_23 rfl rfl ?_
          refine g_ishl hR dX2_neighbours_24 (p2n _) (p2b (by omega)) ?_
          refine g_ior hR dX2_neighbours_25 ?_
          refine z_istore_n hR dX2_neighbours_26 rfl (by decide) rfl ?_
          refine g_iinc hR dX2_neighbours_27 rfl rfl (by decide) rfl ?_
          refine z_goto hR (tgt := 4) dX2_neighbours_30 (by decide) ?_
          refine ih (i + 1) _ (by omega) (by omega) ?_
          simp [bor, c18, hb]
  refine g_iconst hR dX2_neighbours_0 ?_
  refine z_istore_n hR dX2_neighbours_1 rfl (by decide) rfl ?_
  refine g_iconst hR dX2_neighbours_2 ?_
  refine z_istore_n hR dX2_neighbours_3 rfl (by decide) rfl ?_
  exact loop (n + 1) 0 0 (by omega) (by omega) rfl
/-- what about() tells, in the class -/
def abX (g : Nat → Nat → Int) (n an : Nat) (i : Nat) (w : Int) : Int := if w = 0 then g 4 i else if w = 1 then g 5 i else if w = 2 then g 6 i else if w = 3 then psh (g 4) (g 3) an (g 2 9) (g 2 10) (g 6) i + 100 else if w = 4 then b2i (an.testBit i) else if w = 5 then g 8 i else if w = 6 then ((bor (fun j => j) (fun j => bs (g 6 i) (g 6 j)) n : Nat) : Int) else g 7 i
theorem c_X3_about {zs : zzT} {d : Nat} {Q : zzQ} {g : Nat → Nat → Int} {hh : Int64} {n an : Nat} {pt : Nat → Nat} (hk : WK g 2 n an pt) (hz : zsok zs) {z v : Int} (hz1 : rg z) (hz2 : rg v) (h1 : ¬ (0 ≤ z ∧ z < (n : Int)) → Q [.int (iI (-101))] (wof g hh)) (h2 : 0 ≤ z ∧ z < (n : Int) → ¬ (0 ≤ v ∧ v < 8) → Q [.int (iI (-102))] (wof g hh)) (h3 : ∀ i : Nat, z = (i : Int) → i < n → 0 ≤ v ∧ v < 8 → Q [.int (iI (abX g n an i v))] (wof g hh)) : zzCL zs (d + 4) 15 [.ref 0, .int (iI z), .int (iI v)] (wof g hh) Q := by
  refine st_X3_about (Nat.le_of_ble_eq_true rfl) (fun R hR => ?_)
  show R 0 [(0, .ref 0), (1, .int (iI z)), (2, .int (iI v))] [] _
  have hn5 := hk.1.2.1
  have han2 : an < 32 := Nat.lt_of_lt_of_le hk.2.2.2.1 (Nat.pow_le_pow_right (n := 2) (by decide) hk.1.2.1)
  have hwd : WD g 2 n an := ⟨hk.1.1, hk.1.2.1, hk.1.2.2.1, hk.1.2.2.2.1, hk.1.2.2.2.2, hk.2.1, hk.2.2.1, han2, hk.2.2.2.2.1, hk.2.2.2.2.2.1.1, by have := hk.2.2.2.2.2.1.2; omega⟩
  refine z_aload_n hR dX3_about_0 rfl rfl ?_
  refine z_iload_n hR dX3_about_1 rfl rfl ?_
  refine g_inv1 hR dX3_about_2 zm_3_112 (by decide) zN_X3_isIsland ((wk_0 _) _) zO_X3_isIsland (Nat.le_of_ble_eq_true rfl) ?_
  refine c_X3_isIsland hk.1.1 hk.1.2.1 hz1 ?_
  show R 5 _ (.int _ :: _) _
  refine g_if_neb hR (tgt := 11) dX3_about_5 (by decide) (fun c5 => ?_) (fun c5 => ?_)
  · have c5 := of_decide_eq_true c5
    obtain ⟨i, rfl⟩ := Int.eq_ofNat_of_zero_le c5.1
    have hin : i < n := by omega
    rcases Classical.em (0 ≤ v ∧ v < 8) with hw8 | hw8
    · refine z_iload_n hR dX3_about_11 rfl rfl ?_
      have hsw : v = 0 ∨ v = 1 ∨ v = 2 ∨ v = 3 ∨ v = 4 ∨ v = 5 ∨ v = 6 ∨ v = 7 := by omega
      rcases hsw with rfl | rfl | rfl | rfl | rfl | rfl | rfl | rfl
      · refine z_tabIn hR (off := 48) (tgt := 60) dX3_about_12 (by decide) (by decide) (by decide) (by decide) ?_
        refine z_aload_n hR dX3_about_60 rfl rfl ?_
        refine g_get hR dX3_about_61 zf_3_33 (wk_0 _) (show _ = some (Value.ref 2) from rfl) ?_
        refine g_get hR dX3_about_64 zf_3_115 (wk_2 _) (show _ = some (Value.ref 4) from rfl) ?_
        refine z_iload_n hR dX3_about_67 rfl rfl ?_
        refine g_ialdN hR dX3_about_68 (wk_4 _) rfl ?_
        refine g_iret hR dX3_about_69 rfl ?_
        exact h3 i rfl hin (by omega)
      · refine z_tabIn hR (off := 58) (tgt := 70) dX3_about_12 (by decide) (by decide) (by decide) (by decide) ?_
        refine z_aload_n hR dX3_about_70 rfl rfl ?_
        refine g_get hR dX3_about_71 zf_3_33 (wk_0 _) (show _ = some (Value.ref 2) from rfl) ?_
        refine g_get hR dX3_about_74 zf_3_118 (wk_2 _) (show _ = some (Value.ref 5) from rfl) ?_
        refine z_iload_n hR dX3_about_77 rfl rfl ?_
        refine g_ialdN hR dX3_about_78 (wk_5 _) rfl ?_
        refine g_iret hR dX3_about_79 rfl ?_
        exact h3 i rfl hin (by omega)
      · refine z_tabIn hR (off := 68) (tgt := 80) dX3_about_12 (by decide) (by decide) (by decide) (by decide) ?_
        refine z_aload_n hR dX3_about_80 rfl rfl ?_
        refine g_get hR dX3_about_81 zf_3_33 (wk_0 _) (show _ = some (Value.ref 2) from rfl) ?_
        refine g_get hR dX3_about_84 zf_3_121 (wk_2 _) (show _ = some (Value.ref 6) from rfl) ?_
        refine z_iload_n hR dX3_about_87 rfl rfl ?_
        refine g_ialdN hR dX3_about_88 (wk_6 _) rfl ?_
        refine g_iret hR dX3_about_89 rfl ?_
        exact h3 i rfl hin (by omega)
      · refine z_tabIn hR (off := 78) (tgt := 90) dX3_about_12 (by decide) (by decide) (by decide) (by decide) ?_
        refine z_aload_n hR dX3_about_90 rfl rfl ?_
        refine g_get hR dX3_about_91 zf_3_33 (wk_0 _) (show _ = some (Value.ref 2) from rfl) ?_
        refine z_iload_n hR dX3_about_94 rfl rfl ?_
        refine g_inv1 hR dX3_about_95 zm_3_124 (by decide) zN_X2_pushOf ((wk_2 _) _) zO_X2_pushOf (Nat.le_of_ble_eq_true rfl) ?_
        refine c_X2_pushOf isW2 hwd hz hin ?_
        show R 98 _ (.int _ :: _) _
        refine g_bipush hR dX3_about_98 ?_
        refine g_iadd hR dX3_about_100 rfl ?_
        refine g_iret hR dX3_about_101 rfl ?_
        exact h3 i rfl hin (by omega)
      · refine z_tabIn hR (off := 90) (tgt := 102) dX3_about_12 (by decide) (by decide) (by decide) (by decide) ?_
        refine z_aload_n hR dX3_about_102 rfl rfl ?_
        refine g_get hR dX3_about_103 zf_3_33 (wk_0 _) (show _ = some (Value.ref 2) from rfl) ?_
        refine z_iload_n hR dX3_about_106 rfl rfl ?_
        refine g_inv1 hR dX3_about_107 zm_3_127 (by decide) zN_X2_isAnchored ((wk_2 _) _) zO_X2_isAnchored (Nat.le_of_ble_eq_true rfl) ?_
        refine c_X2_isAnchored isW2 hk.2.2.1 han2 (i := i) (by omega) ?_
        show R 110 _ (.int _ :: _) _
        refine g_if_eqb hR (tgt := 117) dX3_about_110 (by decide) (fun c110 => ?_) (fun c110 => ?_)
        · refine g_iconst hR dX3_about_117 ?_
          refine g_iret hR dX3_about_118 rfl ?_
          exact qi (h3 i rfl hin (by omega)) (by simp [abX, c110, b2i])
        · refine g_iconst hR dX3_about_113 ?_
          refine z_goto hR (tgt := 118) dX3_about_114 (by decide) ?_
          refine g_iret hR dX3_about_118 rfl ?_
          exact qi (h3 i rfl hin (by omega)) (by simp [abX, c110, b2i])
      · refine z_tabIn hR (off := 107) (tgt := 119) dX3_about_12 (by decide) (by decide) (by decide) (by decide) ?_
        refine z_aload_n hR dX3_about_119 rfl rfl ?_
        refine g_get hR dX3_about_120 zf_3_33 (wk_0 _) (show _ = some (Value.ref 2) from rfl) ?_
        refine g_get hR dX3_about_123 zf_3_130 (wk_2 _) (show _ = some (Value.ref 8) from rfl) ?_
        refine z_iload_n hR dX3_about_126 rfl rfl ?_
        refine g_ialdN hR dX3_about_127 (wk_8 _) rfl ?_
        refine g_iret hR dX3_about_128 rfl ?_
        exact h3 i rfl hin (by omega)
      · refine z_tabIn hR (off := 117) (tgt := 129) dX3_about_12 (by decide) (by decide) (by decide) (by decide) ?_
        refine z_aload_n hR dX3_about_129 rfl rfl ?_
        refine g_get hR dX3_about_130 zf_3_33 (wk_0 _) (show _ = some (Value.ref 2) from rfl) ?_
        refine z_iload_n hR dX3_about_133 rfl rfl ?_
        refine g_inv1 hR dX3_about_134 zm_3_133 (by decide) zN_X2_neighbours ((wk_2 _) _) zO_X2_neighbours (Nat.le_of_ble_eq_true rfl) ?_
        refine c_X2_neighbours isW2 hk.1.1 hk.1.2.1 hk.2.1 hin ?_
        show R 137 _ (.int _ :: _) _
        refine g_iret hR dX3_about_137 rfl ?_
        exact h3 i rfl hin (by omega)
      · refine z_tabIn hR (off := 126) (tgt := 138) dX3_about_12 (by decide) (by decide) (by decide) (by decide) ?_
        refine z_aload_n hR dX3_about_138 rfl rfl ?_
        refine g_get hR dX3_about_139 zf_3_33 (wk_0 _) (show _ = some (Value.ref 2) from rfl) ?_
        refine g_get hR dX3_about_142 zf_3_136 (wk_2 _) (show _ = some (Value.ref 7) from rfl) ?_
        refine z_iload_n hR dX3_about_145 rfl rfl ?_
        refine g_ialdN hR dX3_about_146 (wk_7 _) rfl ?_
        refine g_iret hR dX3_about_147 rfl ?_
        exact h3 i rfl hin (by omega)
    · refine z_iload_n hR dX3_about_11 rfl rfl ?_
      refine z_tabOut hR (tgt := 148) dX3_about_12 (by rw [toInt_iI hz2]; omega) (by decide) ?_
      refine g_bipush hR dX3_about_148 ?_
      refine g_iret hR dX3_about_150 rfl ?_
      exact h2 c5 hw8
  · have c5 := of_decide_eq_false c5
    refine g_bipush hR dX3_about_8 ?_
    refine g_iret hR dX3_about_10 rfl ?_
    exact h1 c5
