theorem c_X2_tiedTo {zs : zzT} {d : Nat} {Q : zzQ} {g : Nat → Nat → Int} {hh : Int64} {n : Nat} (hn : g 2 6 = (n : Int)) (hn5 : n ≤ 5) {rp : Nat → Nat} (hrp : ∀ j, j < n → g 7 j = ((rp j : Nat) : Int) ∧ rp j < 32) {x : Nat} (hx : x < n) (hQ : Q [.int (iI ((tied rp n x : Nat) : Int))] (wof g hh)) : zzCL zs (d + 1) 29 [.ref 2, .int (iI (x : Int))] (wof g hh) Q := by
  refine st_X2_tiedTo (Nat.le_of_ble_eq_true rfl) (fun R hR => ?_)
  show R 0 [(0, .ref 2), (1, .int (iI (x : Int)))] [] _
  have hp32 : 2 ^ x < 32 := by have := Nat.pow_lt_pow_right (a := 2) (by decide) (show x < 5 by omega); exact this
  have loop : ∀ (k i : Nat) (b : Nat), i ≤ (n - 1) → (n - 1) < i + k → (b < 32) → (b = itn (trd rp n) i (2 ^ x)) → R 6 [(0, .ref 2), (1, .int (iI (x : Int))), (2, .int (iI ((b : Nat) : Int))), (3, .int (iI ((i + 1 : Nat) : Int)))] [] (wof g hh) := by
    intro k
    induction k with
    | zero => intro i; intros; omega
    | succ k ih =>
      intro i b hi1 hi2 hb32 hb
      refine z_iload_n hR dX2_tiedTo_6 rfl rfl ?_
      refine z_aload_n hR dX2_tiedTo_7 rfl rfl ?_
      refine g_get hR dX2_tiedTo_8 zf_2_30 (wk_2 _) (gi hn) ?_
      refine g_icmp_ge hR (tgt := 58) dX2_tiedTo_11 (by decide) (fun c11 => ?_) (fun c11 => ?_)
      · refine z_iload_n hR dX2_tiedTo_58 rfl rfl ?_
        refine g_iret hR dX2_tiedTo_59 rfl ?_
        have e : i = n - 1 := by omega
        subst e
        rw [hb]
        exact hQ
      · refine g_iconst hR dX2_tiedTo_14 ?_
        refine z_istore hR dX2_tiedTo_15 (by decide) rfl ?_
        have iho := ih
        clear ih
        obtain ⟨t, rfl⟩ : ∃ t, t = i := ⟨_, rfl⟩
        obtain ⟨b0, hbo0⟩ : ∃ b0, b0 = b := ⟨_, rfl⟩
        have hbo : b0 = itn (trd rp n) t (2 ^ x) := hbo0.trans hb
        have lp2 : ∀ (k i : Nat) (b : Nat), i ≤ n → n < i + k → (b < 32) → (b = trd rp i b0) → R 17 [(0, .ref 2), (1, .int (iI (x : Int))), (2, .int (iI ((b : Nat) : Int))), (3, .int (iI ((t + 1 : Nat) : Int))), (4, .int (iI (i : Int)))] [] (wof g hh) := by
          intro k
          induction k with
          | zero => intro i; intros; omega
          | succ k ih =>
            intro i b hi1 hi2 hb32 hb
            refine z_iload hR dX2_tiedTo_17 rfl ?_
            refine z_aload_n hR dX2_tiedTo_19 rfl rfl ?_
            refine g_get hR dX2_tiedTo_20 zf_2_30 (wk_2 _) (gi hn) ?_
            refine g_icmp_ge hR (tgt := 52) dX2_tiedTo_23 (by decide) (fun c23 => ?_) (fun c23 => ?_)
            · refine g_iinc hR dX2_tiedTo_52 rfl rfl (by decide) rfl ?_
              refine z_goto hR (tgt := 6) dX2_tiedTo_55 (by decide) ?_
              refine z_sub hR [0, 1, 2, 3] rfl ?_
              have e : i = n := by omega
              rw [e] at hb
              exact iho (t + 1) b (by omega) (by omega) hb32 (by rw [itn, ← hbo]; exact hb)
            · have hin : i < n := by omega
              refine z_iload_n hR dX2_tiedTo_26 rfl rfl ?_
              refine z_iload hR dX2_tiedTo_27 rfl ?_
              refine g_ishrN hR dX2_tiedTo_29 rfl ?_
              refine g_iconst hR dX2_tiedTo_30 ?_
              refine g_iand1 hR dX2_tiedTo_31 (tb_int _ _) ?_
              refine g_iconst hR dX2_tiedTo_32 ?_
              refine g_icmp_neb hR (tgt := 46) dX2_tiedTo_33 (by decide) (fun c33 => ?_) (fun c33 => ?_)
              · refine g_iinc hR dX2_tiedTo_46 rfl rfl (by decide) rfl ?_
                refine z_goto hR (tgt := 17) dX2_tiedTo_49 (by decide) ?_
                refine ih (i + 1) _ (by omega) (by omega) ?_ ?_
                · first | exact hb32 | exact Nat.or_lt_two_pow (n := 5) hb32 (hrp i hin).2
                · rw [trd, ← hb]
                  simp [c33]
              · refine z_iload_n hR dX2_tiedTo_36 rfl rfl ?_
                refine z_aload_n hR dX2_tiedTo_37 rfl rfl ?_
                refine g_get hR dX2_tiedTo_38 zf_2_24 (wk_2 _) (show _ = some (Value.ref 7) from rfl) ?_
                refine z_iload hR dX2_tiedTo_41 rfl ?_
                refine g_ialdN hR dX2_tiedTo_43 (wk_7 _) (hrp i hin).1 ?_
                refine g_ior hR dX2_tiedTo_44 ?_
                refine z_istore_n hR dX2_tiedTo_45 rfl (by decide) rfl ?_
                refine g_iinc hR dX2_tiedTo_46 rfl rfl (by decide) rfl ?_
                refine z_goto hR (tgt := 17) dX2_tiedTo_49 (by decide) ?_
                refine ih (i + 1) _ (by omega) (by omega) ?_ ?_
                · first | exact hb32 | exact Nat.or_lt_two_pow (n := 5) hb32 (hrp i hin).2
                · rw [trd, ← hb]
                  simp [c33]
        exact lp2 (n + 1) 0 b (by omega) (by omega) hb32 hbo0.symm
  refine g_iconst hR dX2_tiedTo_0 ?_
  refine z_iload_n hR dX2_tiedTo_1 rfl rfl ?_
  refine g_ishl hR dX2_tiedTo_2 (p2n _) (p2b (by omega)) ?_
  refine z_istore_n hR dX2_tiedTo_3 rfl (by decide) rfl ?_
  refine g_iconst hR dX2_tiedTo_4 ?_
  refine z_istore_n hR dX2_tiedTo_5 rfl (by decide) rfl ?_
  exact loop n 0 (2 ^ x) (by omega) (by omega) hp32 rfl
def ptr (rp : Nat → Nat) (n : Nat) (f : FI) (i : Nat) : FI := fun j => if j < i then ((tied rp n j : Nat) : Int) else f j
theorem ptr_0 (rp : Nat → Nat) (n : Nat) (f : FI) : ptr rp n f 0 = f := by funext j; simp [ptr]
theorem ptr_s (rp : Nat → Nat) (n : Nat) (f : FI) (i : Nat) : iu (ptr rp n f i) i ((tied rp n i : Nat) : Int) = ptr rp n f (i + 1) := by
  funext j
  simp only [iu, ptr]
  by_cases e : j = i
  · subst e
    simp
  · simp only [if_neg e]
    by_cases h2 : j < i
    · have : j < i + 1 := by omega
      simp [h2, this]
    · have : ¬ j < i + 1 := by omega
      simp [h2, this]
theorem c_X2_findParties {zs : zzT} {d : Nat} {Q : zzQ} {g : Nat → Nat → Int} {hh : Int64} {n : Nat} (hn : g 2 6 = (n : Int)) (hn5 : n ≤ 5) {rp : Nat → Nat} (hrp : ∀ j, j < n → g 7 j = ((rp j : Nat) : Int) ∧ rp j < 32) (hQ : Q [] (wof (gr g 8 (ptr rp n (g 8) n)) hh)) : zzCL zs (d + 2) 28 [.ref 2] (wof g hh) Q := by
  refine st_X2_findParties (Nat.le_of_ble_eq_true rfl) (fun R hR => ?_)
  show R 0 [(0, .ref 2)] [] _
  have loop : ∀ (k i : Nat), i ≤ n → n < i + k → R 2 [(0, .ref 2), (1, .int (iI (i : Int)))] [] (wof (gr g 8 (ptr rp n (g 8) i)) hh) := by
    intro k
    induction k with
    | zero => intro i; intros; omega
    | succ k ih =>
      intro i  hi1 hi2 
      refine z_iload_n hR dX2_findParties_2 rfl rfl ?_
      refine z_aload_n hR dX2_findParties_3 rfl rfl ?_
      refine g_get hR dX2_findParties_4 zf_2_30 (wk_2 _) (gi (show gr g 8 (ptr rp n (g 8) i) 2 6 = (n : Int) from hn)) ?_
      refine g_icmp_ge hR (tgt := 27) dX2_findParties_7 (by decide) (fun c7 => ?_) (fun c7 => ?_)
      · refine g_vret hR dX2_findParties_27 rfl ?_
        have e : i = n := by omega
        subst e
        exact hQ
      · have hin : i < n := by omega
        refine z_aload_n hR dX2_findParties_10 rfl rfl ?_
        refine g_get hR dX2_findParties_11 zf_2_27 (wk_2 _) (show _ = some (Value.ref 8) from rfl) ?_
        refine z_iload_n hR dX2_findParties_14 rfl rfl ?_
        refine z_aload_n hR dX2_findParties_15 rfl rfl ?_
        refine z_iload_n hR dX2_findParties_16 rfl rfl ?_
        refine g_inv1 hR dX2_findParties_17 zm_2_81 (by decide) zN_X2_tiedTo ((wk_2 _) _) zO_X2_tiedTo (Nat.le_of_ble_eq_true rfl) ?_
        refine c_X2_tiedTo (g := gr g 8 (ptr rp n (g 8) i)) hn hn5 hrp hin ?_
        show R 20 _ (.int _ :: _) _
        refine g_iastN hR dX2_findParties_20 (wk_8 _) ?_
        refine g_iinc hR dX2_findParties_21 rfl rfl (by decide) rfl ?_
        refine z_goto hR (tgt := 2) dX2_findParties_24 (by decide) ?_
        rw [gr_s, gr_gr, ptr_s]
        exact ih (i + 1) (by omega) (by omega)
  refine g_iconst hR dX2_findParties_0 ?_
  refine z_istore_n hR dX2_findParties_1 rfl (by decide) rfl ?_
  have hl := loop (n + 1) 0 (by omega) (by omega)
  rw [ptr_0, gr_self] at hl
  exact hl
def rpT (rp : Nat → Nat) (x y : Nat) : Nat → Nat := fun j => if j = y then rp y ||| 2 ^ x else if j = x then rp x ||| 2 ^ y else rp j
def rpC (rp : Nat → Nat) (x y : Nat) : Nat → Nat := fun j => if j = y then rp y ^^^ (rp y &&& 2 ^ x) else if j = x then rp x ^^^ (rp x &&& 2 ^ y) else rp j
theorem xor_and_lt {a b n : Nat} (h : a < 2 ^ n) : a ^^^ (a &&& b) < 2 ^ n := Nat.xor_lt_two_pow h (Nat.lt_of_le_of_lt Nat.and_le_left h)
theorem c_X2_tie {zs : zzT} {d : Nat} {Q : zzQ} {g : Nat → Nat → Int} {hh : Int64} {n : Nat} (hn : g 2 6 = (n : Int)) (hn5 : n ≤ 5) {rp : Nat → Nat} (hrp : ∀ j, j < n → g 7 j = ((rp j : Nat) : Int) ∧ rp j < 2 ^ n) {x y : Nat} (hx : x < n) (hy : y < n) (hxy : x ≠ y) (hQ : Q [] (wof (gr (gr (gr g 7 (iu (iu (g 7) x ((rp x ||| 2 ^ y : Nat) : Int)) y ((rp y ||| 2 ^ x : Nat) : Int))) 2 (iu (g 2) 7 (g 2 7 + 1))) 8 (ptr (rpT rp x y) n (g 8) n)) hh)) : zzCL zs (d + 3) 27 [.ref 2, .int (iI (x : Int)), .int (iI (y : Int))] (wof g hh) Q := by
  refine st_X2_tie (Nat.le_of_ble_eq_true rfl) (fun R hR => ?_)
  show R 0 [(0, .ref 2), (1, .int (iI (x : Int))), (2, .int (iI (y : Int)))] [] _
  have h32 : (2 : Nat) ^ n ≤ 32 := Nat.pow_le_pow_right (n := 2) (by decide) hn5
  have hpx : 2 ^ x < 2 ^ n := Nat.pow_lt_pow_right (by decide) hx
  have hpy : 2 ^ y < 2 ^ n := Nat.pow_lt_pow_right (by decide) hy
  have hrp2 : ∀ j, j < n → (gr (gr g 7 (iu (iu (g 7) x ((rp x ||| 2 ^ y : Nat) : Int)) y ((rp y ||| 2 ^ x : Nat) : Int))) 2 (iu (g 2) 7 (g 2 7 + 1))) 7 j = ((rpT rp x y j : Nat) : Int) ∧ rpT rp x y j < 32 := by
    intro j hj
    show iu (iu (g 7) x ((rp x ||| 2 ^ y : Nat) : Int)) y ((rp y ||| 2 ^ x : Nat) : Int) j = _ ∧ _
    have hrj := hrp j hj
    have hrx := (hrp x hx).2
    have hry := (hrp y hy).2
    unfold rpT
    by_cases ey : j = y
    · rw [ey, iu_s, if_pos rfl]
      exact ⟨rfl, Nat.lt_of_lt_of_le (Nat.or_lt_two_pow hry hpx) h32⟩
    · rw [iu_n _ _ ey, if_neg ey]
      by_cases ex : j = x
      · rw [ex, iu_s, if_pos rfl]
        exact ⟨rfl, Nat.lt_of_lt_of_le (Nat.or_lt_two_pow hrx hpy) h32⟩
      · rw [iu_n _ _ ex, if_neg ex]
        exact ⟨hrj.1, by omega⟩
  refine z_aload_n hR dX2_tie_0 rfl rfl ?_
  refine g_get hR dX2_tie_1 zf_2_24 (wk_2 _) (show _ = some (Value.ref 7) from rfl) ?_
  refine z_iload_n hR dX2_tie_4 rfl rfl ?_
  refine z_dup2 hR dX2_tie_5 rfl rfl ?_
  refine g_ialdN hR dX2_tie_6 (wk_7 _) (hrp x hx).1 ?_
  refine g_iconst hR dX2_tie_7 ?_
  refine z_iload_n hR dX2_tie_8 rfl rfl ?_
  refine g_ishl hR dX2_tie_9 (p2n _) (p2b (by omega)) ?_
  refine g_ior hR dX2_tie_10 ?_
  refine g_iastN hR dX2_tie_11 (wk_7 _) ?_
  refine z_aload_n hR dX2_tie_12 rfl rfl ?_
  refine g_get hR dX2_tie_13 zf_2_24 (wk_2 _) (show _ = some (Value.ref 7) from rfl) ?_
  refine z_iload_n hR dX2_tie_16 rfl rfl ?_
  refine z_dup2 hR dX2_tie_17 rfl rfl ?_
  refine g_ialdN hR dX2_tie_18 (wk_7 _) (show gr g 7 (iu (g 7) x ((rp x ||| 2 ^ y : Nat) : Int)) 7 y = ((rp y : Nat) : Int) by rw [gr_s, iu_n _ _ (Ne.symm hxy)]; exact (hrp y hy).1) ?_
  refine g_iconst hR dX2_tie_19 ?_
  refine z_iload_n hR dX2_tie_20 rfl rfl ?_
  refine g_ishl hR dX2_tie_21 (p2n _) (p2b (by omega)) ?_
  refine g_ior hR dX2_tie_22 ?_
  refine g_iastN hR dX2_tie_23 (wk_7 _) ?_
  simp only [gr_s, gr_gr]
  refine z_aload_n hR dX2_tie_24 rfl rfl ?_
  refine z_dup hR dX2_tie_25 rfl ?_
  refine g_get hR dX2_tie_26 zf_2_34 (wk_2 _) rfl ?_
  refine g_iconst hR dX2_tie_29 ?_
  refine g_iadd hR dX2_tie_30 rfl ?_
  refine g_put hR dX2_tie_31 zf_2_34 (wk_2 _) (Nat.le_of_ble_eq_true rfl) rfl rfl rfl rfl ?_
  refine z_aload_n hR dX2_tie_34 rfl rfl ?_
  refine g_inv0 hR dX2_tie_35 zm_2_78 (by decide) zN_X2_findParties ((wk_2 _) _) zO_X2_findParties (Nat.le_of_ble_eq_true rfl) ?_
  refine c_X2_findParties (g := gr (gr g 7 (iu (iu (g 7) x ((rp x ||| 2 ^ y : Nat) : Int)) y ((rp y ||| 2 ^ x : Nat) : Int))) 2 (iu (g 2) 7 (g 2 7 + 1))) (rp := rpT rp x y) hn hn5 hrp2 ?_
  show R 38 _ _ _
  refine g_vret hR dX2_tie_38 rfl ?_
  exact hQ
theorem c_X2_cut {zs : zzT} {d : Nat} {Q : zzQ} {g : Nat → Nat → Int} {hh : Int64} {n : Nat} (hn : g 2 6 = (n : Int)) (hn5 : n ≤ 5) {rp : Nat → Nat} (hrp : ∀ j, j < n → g 7 j = ((rp j : Nat) : Int) ∧ rp j < 2 ^ n) {x y : Nat} (hx : x < n) (hy : y < n) (hxy : x ≠ y) (hQ : Q [] (wof (gr (gr (gr g 7 (iu (iu (g 7) x ((rp x ^^^ (rp x &&& 2 ^ y) : Nat) : Int)) y ((rp y ^^^ (rp y &&& 2 ^ x) : Nat) : Int))) 2 (iu (g 2) 7 (g 2 7 - 1))) 8 (ptr (rpC rp x y) n (g 8) n)) hh)) : zzCL zs (d + 3) 31 [.ref 2, .int (iI (x : Int)), .int (iI (y : Int))] (wof g hh) Q := by
  refine st_X2_cut (Nat.le_of_ble_eq_true rfl) (fun R hR => ?_)
  show R 0 [(0, .ref 2), (1, .int (iI (x : Int))), (2, .int (iI (y : Int)))] [] _
  have h32 : (2 : Nat) ^ n ≤ 32 := Nat.pow_le_pow_right (n := 2) (by decide) hn5
  have hpx : 2 ^ x < 2 ^ n := Nat.pow_lt_pow_right (by decide) hx
  have hpy : 2 ^ y < 2 ^ n := Nat.pow_lt_pow_right (by decide) hy
  have hrp2 : ∀ j, j < n → (gr (gr g 7 (iu (iu (g 7) x ((rp x ^^^ (rp x &&& 2 ^ y) : Nat) : Int)) y ((rp y ^^^ (rp y &&& 2 ^ x) : Nat) : Int))) 2 (iu (g 2) 7 (g 2 7 - 1))) 7 j = ((rpC rp x y j : Nat) : Int) ∧ rpC rp x y j < 32 := by
    intro j hj
    show iu (iu (g 7) x ((rp x ^^^ (rp x &&& 2 ^ y) : Nat) : Int)) y ((rp y ^^^ (rp y &&& 2 ^ x) : Nat) : Int) j = _ ∧ _
    have hrj := hrp j hj
    have hrx := (hrp x hx).2
    have hry := (hrp y hy).2
    unfold rpC
    by_cases ey : j = y
    · rw [ey, iu_s, if_pos rfl]
      exact ⟨rfl, Nat.lt_of_lt_of_le (xor_and_lt hry) h32⟩
    · rw [iu_n _ _ ey, if_neg ey]
      by_cases ex : j = x
      · rw [ex, iu_s, if_pos rfl]
        exact ⟨rfl, Nat.lt_of_lt_of_le (xor_and_lt hrx) h32⟩
      · rw [iu_n _ _ ex, if_neg ex]
        exact ⟨hrj.1, by omega⟩
  refine z_aload_n hR dX2_cut_0 rfl rfl ?_
  refine g_get hR dX2_cut_1 zf_2_24 (wk_2 _) (show _ = some (Value.ref 7) from rfl) ?_
  refine z_iload_n hR dX2_cut_4 rfl rfl ?_
  refine z_dup2 hR dX2_cut_5 rfl rfl ?_
  refine g_ialdN hR dX2_cut_6 (wk_7 _) (hrp x hx).1 ?_
  refine g_iconst hR dX2_cut_7 ?_
  refine z_iload_n hR dX2_cut_8 rfl rfl ?_
  refine g_ishl hR dX2_cut_9 (p2n _) (p2b (by omega)) ?_
  refine g_iconst hR dX2_cut_10 ?_
  refine g_inot hR dX2_cut_11 rfl ?_
  refine g_iandn hR dX2_cut_12 ?_
  refine g_iastN hR dX2_cut_13 (wk_7 _) ?_
  refine z_aload_n hR dX2_cut_14 rfl rfl ?_
  refine g_get hR dX2_cut_15 zf_2_24 (wk_2 _) (show _ = some (Value.ref 7) from rfl) ?_
  refine z_iload_n hR dX2_cut_18 rfl rfl ?_
  refine z_dup2 hR dX2_cut_19 rfl rfl ?_
  refine g_ialdN hR dX2_cut_20 (wk_7 _) (show gr g 7 (iu (g 7) x ((rp x ^^^ (rp x &&& 2 ^ y) : Nat) : Int)) 7 y = ((rp y : Nat) : Int) by rw [gr_s, iu_n _ _ (Ne.symm hxy)]; exact (hrp y hy).1) ?_
  refine g_iconst hR dX2_cut_21 ?_
  refine z_iload_n hR dX2_cut_22 rfl rfl ?_
  refine g_ishl hR dX2_cut_23 (p2n _) (p2b (by omega)) ?_
  refine g_iconst hR dX2_cut_24 ?_
  refine g_inot hR dX2_cut_25 rfl ?_
  refine g_iandn hR dX2_cut_26 ?_
  refine g_iastN hR dX2_cut_27 (wk_7 _) ?_
  simp only [gr_s, gr_gr]
  refine z_aload_n hR dX2_cut_28 rfl rfl ?_
  refine z_dup hR dX2_cut_29 rfl ?_
  refine g_get hR dX2_cut_30 zf_2_34 (wk_2 _) rfl ?_
  refine g_iconst hR dX2_cut_33 ?_
  refine g_isub hR dX2_cut_34 rfl ?_
  refine g_put hR dX2_cut_35 zf_2_34 (wk_2 _) (Nat.le_of_ble_eq_true rfl) rfl rfl rfl rfl ?_
  refine z_aload_n hR dX2_cut_38 rfl rfl ?_
  refine g_inv0 hR dX2_cut_39 zm_2_78 (by decide) zN_X2_findParties ((wk_2 _) _) zO_X2_findParties (Nat.le_of_ble_eq_true rfl) ?_
  refine c_X2_findParties (g := gr (gr g 7 (iu (iu (g 7) x ((rp x ^^^ (rp x &&& 2 ^ y) : Nat) : Int)) y ((rp y ^^^ (rp y &&& 2 ^ x) : Nat) : Int))) 2 (iu (g 2) 7 (g 2 7 - 1))) (rp := rpC rp x y) hn hn5 hrp2 ?_
  show R 42 _ _ _
  refine g_vret hR dX2_cut_42 rfl ?_
  exact hQ
theorem c_X2_areRoped {zs : zzT} {d : Nat} {Q : zzQ} {g : Nat → Nat → Int} {hh : Int64} {r x y : Nat} (hrx : g 7 x = ((r : Nat) : Int)) (hr32 : r < 32) (hx : x < 5) (hy : y < 5) (hQ : Q [.int (iI (b2i (r.testBit y)))] (wof g hh)) : zzCL zs (d + 1) 26 [.ref 2, .int (iI (x : Int)), .int (iI (y : Int))] (wof g hh) Q := by
  refine st_X2_areRoped (Nat.le_of_ble_eq_true rfl) (fun R hR => ?_)
  show R 0 [(0, .ref 2), (1, .int (iI (x : Int))), (2, .int (iI (y : Int)))] [] _
  refine z_aload_n hR dX2_areRoped_0 rfl rfl ?_
  refine g_get hR dX2_areRoped_1 zf_2_24 (wk_2 _) (show _ = some (Value.ref 7) from rfl) ?_
  refine z_iload_n hR dX2_areRoped_4 rfl rfl ?_
  refine g_ialdN hR dX2_areRoped_5 (wk_7 _) hrx ?_
  refine z_iload_n hR dX2_areRoped_6 rfl rfl ?_
  refine g_ishrN hR dX2_areRoped_7 rfl ?_
  refine g_iconst hR dX2_areRoped_8 ?_
  refine g_iand1 hR dX2_areRoped_9 (tb_int _ _) ?_
  refine g_iconst hR dX2_areRoped_10 ?_
  refine g_icmp_neb hR (tgt := 18) dX2_areRoped_11 (by decide) (fun c11 => ?_) (fun c11 => ?_)
  · refine g_iconst hR dX2_areRoped_18 ?_
    refine g_zret (b := false) hR dX2_areRoped_19 rfl ?_
    exact qz hQ (by simp [*])
  · refine g_iconst hR dX2_areRoped_14 ?_
    refine z_goto hR (tgt := 19) dX2_areRoped_15 (by decide) ?_
    refine g_zret (b := true) hR dX2_areRoped_19 rfl ?_
    exact qz hQ (by simp [*])
