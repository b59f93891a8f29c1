theorem nz {x : Nat} (h : (x : Int) = 0) : x = 0 := by omega
theorem nnz {x : Nat} (h : (x : Int) ≠ 0) : x ≠ 0 := by omega
/-- one round of the ropes: both ends of a rope that is left and has an end among the bits come to them -/
def rnd (ea eb : Nat → Nat) (lf : Nat → Bool) : Nat → Nat → Nat
  | 0, b => b
  | r + 1, b => if lf r = true ∧ (rnd ea eb lf r b &&& (2 ^ ea r ||| 2 ^ eb r)) ≠ 0 then rnd ea eb lf r b ||| (2 ^ ea r ||| 2 ^ eb r) else rnd ea eb lf r b
def itn (f : Nat → Nat) : Nat → Nat → Nat
  | 0, b => b
  | k + 1, b => f (itn f k b)
/-- the party of i by m ropes, those that are left -/
def pby (ea eb : Nat → Nat) (lf : Nat → Bool) (m i : Nat) : Nat := itn (rnd ea eb lf m) 5 (2 ^ i)
theorem rnd_lt {ea eb : Nat → Nat} {lf : Nat → Bool} {n b : Nat} : ∀ {m : Nat}, (∀ r, r < m → ea r < n ∧ eb r < n) → b < 2 ^ n → rnd ea eb lf m b < 2 ^ n
  | 0, _, h => h
  | m + 1, he, h => by
    have h1 := rnd_lt (lf := lf) (m := m) (fun r hr => he r (by omega)) h
    have h2 := he m (by omega)
    unfold rnd
    split
    · exact Nat.or_lt_two_pow h1 (Nat.or_lt_two_pow (Nat.pow_lt_pow_right (by decide) h2.1) (Nat.pow_lt_pow_right (by decide) h2.2))
    · exact h1
theorem itn_lt {ea eb : Nat → Nat} {lf : Nat → Bool} {n b m : Nat} (he : ∀ r, r < m → ea r < n ∧ eb r < n) (h : b < 2 ^ n) : ∀ k, itn (rnd ea eb lf m) k b < 2 ^ n
  | 0 => h
  | k + 1 => rnd_lt he (itn_lt he h k)
theorem pby_lt {ea eb : Nat → Nat} {lf : Nat → Bool} {n m i : Nat} (he : ∀ r, r < m → ea r < n ∧ eb r < n) (h : i < n) : pby ea eb lf m i < 2 ^ n := itn_lt he (Nat.pow_lt_pow_right (by decide) h) 5
/-- the ropes of the model -/
def MR (g : Nat → Nat → Int) (m n : Nat) (ea eb : Nat → Nat) : Prop := g 39 9 = (m : Int) ∧ m ≤ 6 ∧ n ≤ 5 ∧ ∀ r, r < m → g 43 (2 * r) = ((ea r : Nat) : Int) ∧ g 43 (2 * r + 1) = ((eb r : Nat) : Int) ∧ ea r < n ∧ eb r < n
theorem c_X4_partyBy {zs : zzT} {d : Nat} {Q : zzQ} {g : Nat → Nat → Int} {hh : Int64} {m n : Nat} {ea eb : Nat → Nat} (hr : MR g m n ea eb) {i0 : Nat} (hi0 : i0 < n) {lv : Int} (hlv : rg lv) {lf : Nat → Bool} (hlf : ∀ r, r < m → (lv / 2 ^ r) % 2 = b2i (lf r)) (hQ : Q [.int (iI ((pby ea eb lf m i0 : Nat) : Int))] (wof g hh)) : zzCL zs (d + 1) 93 [.ref 39, .int (iI (i0 : Int)), .int (iI lv)] (wof g hh) Q := by
  refine st_X4_partyBy (Nat.le_of_ble_eq_true rfl) (fun R hR => ?_)
  show R 0 [(0, .ref 39), (1, .int (iI (i0 : Int))), (2, .int (iI lv))] [] _
  obtain ⟨hm, hm6, hn5, hE⟩ := hr
  have hp32 : 2 ^ i0 < 32 := by have := Nat.pow_lt_pow_right (a := 2) (by decide) (show i0 < 5 by omega); exact this
  have loop : ∀ (k i : Nat) (b : Nat), i ≤ 5 → 5 < i + k → (b < 32) → (b = itn (rnd ea eb lf m) i (2 ^ i0)) → R 7 [(0, .ref 39), (1, .int (iI (i0 : Int))), (2, .int (iI lv)), (3, .int (iI ((b : Nat) : Int))), (4, .int (iI (i : Int)))] [] (wof g hh) := by
    intro k
    induction k with
    | zero => intro i; intros; omega
    | succ k ih =>
      intro i b hi1 hi2 hb32 hb
      refine z_iload hR dX4_partyBy_7 rfl ?_
      refine g_iconst hR dX4_partyBy_9 ?_
      refine g_icmp_ge hR (tgt := 90) dX4_partyBy_10 (by decide) (fun c10 => ?_) (fun c10 => ?_)
      · refine z_iload_n hR dX4_partyBy_90 rfl rfl ?_
        refine g_iret hR dX4_partyBy_91 rfl ?_
        have e : i = 5 := by omega
        subst e
        rw [hb]
        exact hQ
      · refine g_iconst hR dX4_partyBy_13 ?_
        refine z_istore hR dX4_partyBy_14 (by decide) rfl ?_
        have iho := ih
        clear ih
        obtain ⟨t, rfl⟩ : ∃ t, t = i := ⟨_, rfl⟩
        obtain ⟨b0, hbo0⟩ : ∃ b0, b0 = b := ⟨_, rfl⟩
        have hbo : b0 = itn (rnd ea eb lf m) t (2 ^ i0) := hbo0.trans hb
        have lp2 : ∀ (k i : Nat) (b : Nat), i ≤ m → m < i + k → (b < 32) → (b = rnd ea eb lf i b0) → R 16 [(0, .ref 39), (1, .int (iI (i0 : Int))), (2, .int (iI lv)), (3, .int (iI ((b : Nat) : Int))), (4, .int (iI (t : Int))), (5, .int (iI (i : Int)))] [] (wof g hh) := by
          intro k
          induction k with
          | zero => intro i; intros; omega
          | succ k ih =>
            intro i b hi1 hi2 hb32 hb
            refine z_iload hR dX4_partyBy_16 rfl ?_
            refine z_aload_n hR dX4_partyBy_18 rfl rfl ?_
            refine g_get hR dX4_partyBy_19 zf_4_79 (wk_39 _) (gi hm) ?_
            refine g_icmp_ge hR (tgt := 84) dX4_partyBy_22 (by decide) (fun c22 => ?_) (fun c22 => ?_)
            · refine g_iinc hR dX4_partyBy_84 rfl rfl (by decide) rfl ?_
              refine z_goto hR (tgt := 7) dX4_partyBy_87 (by decide) ?_
              refine z_sub hR [0, 1, 2, 3, 4] rfl ?_
              have e : i = m := by omega
              rw [e] at hb
              exact iho (t + 1) b (by omega) (by omega) hb32 (by rw [itn, ← hbo]; exact hb)
            · have hin : i < m := by omega
              have hei := hE i hin
              refine g_iconst hR dX4_partyBy_25 ?_
              refine z_aload_n hR dX4_partyBy_26 rfl rfl ?_
              refine g_get hR dX4_partyBy_27 zf_4_19 (wk_39 _) rfl ?_
              refine g_iconst hR dX4_partyBy_30 ?_
              refine z_iload hR dX4_partyBy_31 rfl ?_
              refine g_imul hR dX4_partyBy_33 (nmul 2 _) ?_
              refine g_ialdN hR dX4_partyBy_34 (wk_43 _) (hE i (by omega)).1 ?_
              refine g_ishl hR dX4_partyBy_35 (p2n _) (p2b (by omega)) ?_
              refine g_iconst hR dX4_partyBy_36 ?_
              refine z_aload_n hR dX4_partyBy_37 rfl rfl ?_
              refine g_get hR dX4_partyBy_38 zf_4_19 (wk_39 _) rfl ?_
              refine g_iconst hR dX4_partyBy_41 ?_
              refine z_iload hR dX4_partyBy_42 rfl ?_
              refine g_imul hR dX4_partyBy_44 (nmul 2 _) ?_
              refine g_iconst hR dX4_partyBy_45 ?_
              refine g_iadd hR dX4_partyBy_46 (nadd _ 1) ?_
              refine g_ialdN hR dX4_partyBy_47 (wk_43 _) (hE i (by omega)).2.1 ?_
              refine g_ishl hR dX4_partyBy_48 (p2n _) (p2b (by omega)) ?_
              refine g_ior hR dX4_partyBy_49 ?_
              refine z_istore hR dX4_partyBy_50 (by decide) rfl ?_
              refine z_iload_n hR dX4_partyBy_52 rfl rfl ?_
              refine z_iload_n hR dX4_partyBy_53 rfl rfl ?_
              refine z_iload hR dX4_partyBy_54 rfl ?_
              refine g_ishrN hR dX4_partyBy_56 rfl ?_
              refine g_iconst hR dX4_partyBy_57 ?_
              refine g_iand1 hR dX4_partyBy_58 (hlf i (by omega)) ?_
              refine g_iconst hR dX4_partyBy_59 ?_
              refine g_icmp_neb hR (tgt := 75) dX4_partyBy_60 (by decide) (fun c60 => ?_) (fun c60 => ?_)
              · refine g_iconst hR dX4_partyBy_75 ?_
                refine g_ior (y := 0) hR dX4_partyBy_76 ?_
                refine z_istore_n hR dX4_partyBy_77 rfl (by decide) rfl ?_
                refine g_iinc hR dX4_partyBy_78 rfl rfl (by decide) rfl ?_
                refine z_goto hR (tgt := 16) dX4_partyBy_81 (by decide) ?_
                refine z_sub hR [0, 1, 2, 3, 4, 5] rfl ?_
                refine ih (i + 1) _ (by omega) (by omega) ?_ ?_
                · first | exact hb32 | (simp only [Nat.or_zero]; exact hb32) | exact Nat.or_lt_two_pow (n := 5) hb32 (Nat.or_lt_two_pow (Nat.pow_lt_pow_right (by decide) (by omega)) (Nat.pow_lt_pow_right (by decide) (by omega)))
                · rw [rnd, ← hb]
                  first | (simp [c60, c67]; done) | (simp [c60]; done)
              · refine z_iload_n hR dX4_partyBy_63 rfl rfl ?_
                refine z_iload hR dX4_partyBy_64 rfl ?_
                refine g_iand hR dX4_partyBy_66 ?_
                refine g_if_eq hR (tgt := 75) dX4_partyBy_67 (by decide) (fun c67 => ?_) (fun c67 => ?_) (hx := by have := Nat.and_le_left (n := b) (m := 2 ^ ea i ||| 2 ^ eb i); unfold rg; omega)
                · have c67 := nz c67
                  refine g_iconst hR dX4_partyBy_75 ?_
                  refine g_ior (y := 0) hR dX4_partyBy_76 ?_
                  refine z_istore_n hR dX4_partyBy_77 rfl (by decide) rfl ?_
                  refine g_iinc hR dX4_partyBy_78 rfl rfl (by decide) rfl ?_
                  refine z_goto hR (tgt := 16) dX4_partyBy_81 (by decide) ?_
                  refine z_sub hR [0, 1, 2, 3, 4, 5] rfl ?_
                  refine ih (i + 1) _ (by omega) (by omega) ?_ ?_
                  · first | exact hb32 | (simp only [Nat.or_zero]; exact hb32) | exact Nat.or_lt_two_pow (n := 5) hb32 (Nat.or_lt_two_pow (Nat.pow_lt_pow_right (by decide) (by omega)) (Nat.pow_lt_pow_right (by decide) (by omega)))
                  · rw [rnd, ← hb]
                    first | (simp [c60, c67]; done) | (simp [c60]; done)
                · have c67 := nnz c67
                  refine z_iload hR dX4_partyBy_70 rfl ?_
                  refine z_goto hR (tgt := 76) dX4_partyBy_72 (by decide) ?_
                  refine g_ior hR dX4_partyBy_76 ?_
                  refine z_istore_n hR dX4_partyBy_77 rfl (by decide) rfl ?_
                  refine g_iinc hR dX4_partyBy_78 rfl rfl (by decide) rfl ?_
                  refine z_goto hR (tgt := 16) dX4_partyBy_81 (by decide) ?_
                  refine z_sub hR [0, 1, 2, 3, 4, 5] rfl ?_
                  refine ih (i + 1) _ (by omega) (by omega) ?_ ?_
                  · first | exact hb32 | (simp only [Nat.or_zero]; exact hb32) | exact Nat.or_lt_two_pow (n := 5) hb32 (Nat.or_lt_two_pow (Nat.pow_lt_pow_right (by decide) (by omega)) (Nat.pow_lt_pow_right (by decide) (by omega)))
                  · rw [rnd, ← hb]
                    first | (simp [c60, c67]; done) | (simp [c60]; done)
        exact lp2 (m + 1) 0 b (by omega) (by omega) hb32 hbo0.symm
  refine g_iconst hR dX4_partyBy_0 ?_
  refine z_iload_n hR dX4_partyBy_1 rfl rfl ?_
  refine g_ishl hR dX4_partyBy_2 (p2n _) (p2b (by omega)) ?_
  refine z_istore_n hR dX4_partyBy_3 rfl (by decide) rfl ?_
  refine g_iconst hR dX4_partyBy_4 ?_
  refine z_istore hR dX4_partyBy_5 (by decide) rfl ?_
  exact loop 6 0 (2 ^ i0) (by omega) (by omega) hp32 rfl
/-- all ropes are left -/
def lfa : Nat → Bool := fun _ => true
theorem lf63 : ∀ r, r < 6 → ((63 : Int) / 2 ^ r) % 2 = b2i (lfa r) := by decide
theorem c_X4_partyOf {zs : zzT} {d : Nat} {Q : zzQ} {g : Nat → Nat → Int} {hh : Int64} {m n : Nat} {ea eb : Nat → Nat} (hr : MR g m n ea eb) {i0 : Nat} (hi0 : i0 < n) (hQ : Q [.int (iI ((pby ea eb lfa m i0 : Nat) : Int))] (wof g hh)) : zzCL zs (d + 2) 92 [.ref 39, .int (iI (i0 : Int))] (wof g hh) Q := by
  refine st_X4_partyOf (Nat.le_of_ble_eq_true rfl) (fun R hR => ?_)
  show R 0 [(0, .ref 39), (1, .int (iI (i0 : Int)))] [] _
  refine z_aload_n hR dX4_partyOf_0 rfl rfl ?_
  refine z_iload_n hR dX4_partyOf_1 rfl rfl ?_
  refine g_bipush hR dX4_partyOf_2 ?_
  refine g_inv2 hR dX4_partyOf_4 zm_4_116 (by decide) zN_X4_partyBy ((wk_39 _) _) zO_X4_partyBy (Nat.le_of_ble_eq_true rfl) ?_
  refine c_X4_partyBy hr hi0 (by unfold rg; omega) (lf := lfa) (fun r h => lf63 r (by have := hr.2.1; omega)) ?_
  show R 7 _ (.int _ :: _) _
  refine g_iret hR dX4_partyOf_7 rfl ?_
  exact hQ
theorem c_X4_isFirst {zs : zzT} {d : Nat} {Q : zzQ} {g : Nat → Nat → Int} {hh : Int64} {m n : Nat} {ea eb : Nat → Nat} (hr : MR g m n ea eb) {i0 : Nat} (hi0 : i0 < n) (hQ : Q [.int (iI (b2i (lead (pby ea eb lfa m) i0)))] (wof g hh)) : zzCL zs (d + 3) 105 [.ref 39, .int (iI (i0 : Int))] (wof g hh) Q := by
  refine st_X4_isFirst (Nat.le_of_ble_eq_true rfl) (fun R hR => ?_)
  show R 0 [(0, .ref 39), (1, .int (iI (i0 : Int)))] [] _
  have hn5 := hr.2.2.1
  refine z_aload_n hR dX4_isFirst_0 rfl rfl ?_
  refine z_iload_n hR dX4_isFirst_1 rfl rfl ?_
  refine g_inv1 hR dX4_isFirst_2 zm_4_120 (by decide) zN_X4_partyOf ((wk_39 _) _) zO_X4_partyOf (Nat.le_of_ble_eq_true rfl) ?_
  refine c_X4_partyOf hr hi0 ?_
  show R 5 _ (.int _ :: _) _
  refine g_iconst hR dX4_isFirst_5 ?_
  refine z_iload_n hR dX4_isFirst_6 rfl rfl ?_
  refine g_ishl hR dX4_isFirst_7 (p2n _) (p2b (by omega)) ?_
  refine g_iconst hR dX4_isFirst_8 ?_
  refine g_isub hR dX4_isFirst_9 (show ((2 ^ i0 : Nat) : Int) - 1 = ((2 ^ i0 - 1 : Nat) : Int) by have := Nat.two_pow_pos i0; omega) ?_
  refine g_iand hR dX4_isFirst_10 ?_
  rw [Nat.and_two_pow_sub_one_eq_mod]
  refine g_if_ne hR (tgt := 18) dX4_isFirst_11 (by decide) (fun c11 => ?_) (fun c11 => ?_) (hx := by have := Nat.mod_lt (pby ea eb lfa m i0) (Nat.two_pow_pos i0); have := p2b (show i0 < 31 by omega); unfold rg; omega)
  · refine g_iconst hR dX4_isFirst_18 ?_
    refine g_zret (b := false) hR dX4_isFirst_19 rfl ?_
    refine qz hQ ?_
    unfold lead
    simp only [decide_eq_true_eq, decide_eq_false_iff_not, eq_comm (a := true), eq_comm (a := false)]
    omega
  · refine g_iconst hR dX4_isFirst_14 ?_
    refine z_goto hR (tgt := 19) dX4_isFirst_15 (by decide) ?_
    refine g_zret (b := true) hR dX4_isFirst_19 rfl ?_
    refine qz hQ ?_
    unfold lead
    simp only [decide_eq_true_eq, decide_eq_false_iff_not, eq_comm (a := true), eq_comm (a := false)]
    omega
