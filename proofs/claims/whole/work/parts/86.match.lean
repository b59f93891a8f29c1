/-- what noteMeetings makes of a row -/
def nvI (f q : FI) (t : Int) (x y : Nat) : Int := if f (x * 5 + y) = -1 ∧ bs (q x) (q y) = true then t else f (x * 5 + y)
def NI (n : Nat) (f q : FI) (t : Int) (i u : Nat) (f2 : FI) : Prop := (∀ x y, x < y → y < n → f2 (x * 5 + y) = (if x < i ∨ (x = i ∧ y < u) then nvI f q t x y else f (x * 5 + y)) ∧ f2 (y * 5 + x) = f2 (x * 5 + y)) ∧ ∀ x, x < n → f2 (x * 5 + x) = f (x * 5 + x)
theorem NI_0 {n : Nat} {f q : FI} {t : Int} (hs : ∀ x y, x < n → y < n → f (y * 5 + x) = f (x * 5 + y)) : NI n f q t 0 1 f := ⟨fun x y hxy hy => ⟨by rw [if_neg (by omega)], hs x y (by omega) hy⟩, fun _ _ => rfl⟩
theorem NI_keep {n : Nat} {f q : FI} {t : Int} {i u : Nat} {f2 : FI} (h : NI n f q t i u f2) (he : nvI f q t i u = f (i * 5 + u)) : NI n f q t i (u + 1) f2 := by
  refine ⟨fun x y hxy hy => ⟨?_, (h.1 x y hxy hy).2⟩, h.2⟩
  rw [(h.1 x y hxy hy).1]
  by_cases e : x = i ∧ y = u
  · rw [if_neg (by omega), if_pos (by omega), e.1, e.2, he]
  · by_cases c : x < i ∨ (x = i ∧ y < u)
    · rw [if_pos c, if_pos (by omega)]
    · rw [if_neg c, if_neg (by omega)]
theorem NI_set {n : Nat} {f q : FI} {t : Int} {i u : Nat} {f2 : FI} (h : NI n f q t i u f2) (hiu : i < u) (hu : u < n) (hn : n ≤ 5) (he : nvI f q t i u = t) : NI n f q t i (u + 1) (iu (iu f2 (i * 5 + u) t) (u * 5 + i) t) := by
  refine ⟨fun x y hxy hy => ?_, fun x hx => ?_⟩
  · by_cases e : x = i ∧ y = u
    · obtain ⟨rfl, rfl⟩ := e
      rw [iu_s, iu_n _ _ (by omega), iu_s, if_pos (by omega), he]
      exact ⟨rfl, rfl⟩
    · rw [iu_n _ _ (by omega), iu_n _ _ (by omega), iu_n _ _ (by omega), iu_n _ _ (by omega)]
      refine ⟨?_, (h.1 x y hxy hy).2⟩
      rw [(h.1 x y hxy hy).1]
      by_cases c : x < i ∨ (x = i ∧ y < u)
      · rw [if_pos c, if_pos (by omega)]
      · rw [if_neg c, if_neg (by omega)]
  · rw [iu_n _ _ (by omega), iu_n _ _ (by omega)]; exact h.2 x hx
theorem NI_row {n : Nat} {f q : FI} {t : Int} {i : Nat} {f2 : FI} (h : NI n f q t i n f2) : NI n f q t (i + 1) (i + 2) f2 := by
  refine ⟨fun x y hxy hy => ⟨?_, (h.1 x y hxy hy).2⟩, h.2⟩
  rw [(h.1 x y hxy hy).1]
  by_cases c : x < i ∨ (x = i ∧ y < n)
  · rw [if_pos c, if_pos (by omega)]
  · rw [if_neg c, if_neg (by omega)]
def NT (n : Nat) (f q : FI) (t : Int) (f1 : FI) : Prop := (∀ x y, x < n → y < n → x ≠ y → f1 (x * 5 + y) = nvI f q t x y) ∧ ∀ x, x < n → f1 (x * 5 + x) = f (x * 5 + x)
theorem NT_of {n : Nat} {f q : FI} {t : Int} {i : Nat} {f2 : FI} (hs : ∀ x y, x < n → y < n → f (y * 5 + x) = f (x * 5 + y)) (h : NI n f q t i (i + 1) f2) (hi : n ≤ i) : NT n f q t f2 := by
  refine ⟨fun x y hx hy hne => ?_, h.2⟩
  rcases Nat.lt_or_gt_of_ne hne with c | c
  · rw [(h.1 x y c hy).1, if_pos (by omega)]
  · rw [(h.1 y x c hx).2, (h.1 y x c hx).1, if_pos (by omega)]
    unfold nvI
    rw [hs x y hx hy, bs_comm]
theorem c_X2_noteMeetings {zs : zzT} {d : Nat} {Q : zzQ} {gg : Nat → Nat → Int} {hh : Int64} {n : Nat} (hn : gg 16 6 = (n : Int)) (hn5 : n ≤ 5) {f : FI} (h33 : gg 33 = f) (hq : plok n (gg 20)) (hs : ∀ x y, x < n → y < n → f (y * 5 + x) = f (x * 5 + y)) (hf : ∀ x y, x < n → y < n → -1 ≤ f (x * 5 + y) ∧ f (x * 5 + y) ≤ 1000) {t : Nat} (hQ : ∀ f1, NT n f (gg 20) (t : Int) f1 → Q [] (wof (gr gg 33 f1) hh)) : zzCL zs (d + 3) 48 [.ref 16, .ref 33, .int (iI (t : Int))] (wof gg hh) Q := by
  refine st_X2_noteMeetings (Nat.le_of_ble_eq_true rfl) (fun R hR => ?_)
  show R 0 [(0, .ref 16), (1, .ref 33), (2, .int (iI (t : Int)))] [] _
  have loop : ∀ (k i : Nat) (f2 : FI), i ≤ n → n < i + k → (NI n f (gg 20) (t : Int) i (i + 1) f2) → R 2 [(0, .ref 16), (1, .ref 33), (2, .int (iI (t : Int))), (3, .int (iI (i : Int)))] [] (wof (gr gg 33 f2) hh) := by
    intro k
    induction k with
    | zero => intro i; intros; omega
    | succ k ih =>
      intro i f2 hi1 hi2 hI
      refine z_iload_n hR dX2_noteMeetings_2 rfl rfl ?_
      refine z_aload_n hR dX2_noteMeetings_3 rfl rfl ?_
      refine g_get hR dX2_noteMeetings_4 zf_2_30 (wk_16 _) (gi (show gr gg 33 f2 16 6 = (n : Int) from hn)) ?_
      refine g_icmp_ge hR (tgt := 76) dX2_noteMeetings_7 (by decide) (fun c7 => ?_) (fun c7 => ?_)
      · refine g_vret hR dX2_noteMeetings_76 rfl ?_
        exact hQ f2 (NT_of hs hI (by omega))
      · have hin : i < n := by omega
        refine z_iload_n hR dX2_noteMeetings_10 rfl rfl ?_
        refine g_iconst hR dX2_noteMeetings_11 ?_
        refine g_iadd hR dX2_noteMeetings_12 (nadd _ 1) ?_
        refine z_istore hR dX2_noteMeetings_13 (by decide) rfl ?_
        obtain ⟨f0, hf0⟩ : ∃ f0, f0 = f2 := ⟨_, rfl⟩
        have lp2 : ∀ (ku u : Nat) (f2 : FI), u ≤ n → n < u + ku → (i < u) → (NI n f (gg 20) (t : Int) i u f2) → R 15 [(0, .ref 16), (1, .ref 33), (2, .int (iI (t : Int))), (3, .int (iI (i : Int))), (4, .int (iI (u : Int)))] [] (wof (gr gg 33 f2) hh) := by
          intro ku
          induction ku with
          | zero => intro u; intros; omega
          | succ ku ihu =>
            intro u f2 hu1 hu2 hiu hI
            refine z_iload hR dX2_noteMeetings_15 rfl ?_
            refine z_aload_n hR dX2_noteMeetings_17 rfl rfl ?_
            refine g_get hR dX2_noteMeetings_18 zf_2_30 (wk_16 _) (gi (show gr gg 33 f2 16 6 = (n : Int) from hn)) ?_
            refine g_icmp_ge hR (tgt := 70) dX2_noteMeetings_21 (by decide) (fun c21 => ?_) (fun c21 => ?_)
            · refine g_iinc hR dX2_noteMeetings_70 rfl rfl (by decide) rfl ?_
              refine z_goto hR (tgt := 2) dX2_noteMeetings_73 (by decide) ?_
              refine z_sub hR [0, 1, 2, 3] rfl ?_
              have eu : u = n := by omega
              rw [eu] at hI
              exact ih (i + 1) f2 (by omega) (by omega) (NI_row hI)
            · have hun : u < n := by omega
              have hfe : f2 (i * 5 + u) = f (i * 5 + u) := by rw [(hI.1 i u hiu hun).1, if_neg (by omega)]
              have hfr := hf i u hin hun
              refine z_aload_n hR dX2_noteMeetings_24 rfl rfl ?_
              refine z_iload_n hR dX2_noteMeetings_25 rfl rfl ?_
              refine g_iconst hR dX2_noteMeetings_26 ?_
              refine g_imul hR dX2_noteMeetings_27 (nmul _ 5) ?_
              refine z_iload hR dX2_noteMeetings_28 rfl ?_
              refine g_iadd hR dX2_noteMeetings_30 (nadd _ _) ?_
              refine g_ialdN hR dX2_noteMeetings_31 (wk_33 _) (show gr gg 33 f2 33 (i * 5 + u) = f (i * 5 + u) from hfe) ?_
              refine g_iconst hR dX2_noteMeetings_32 ?_
              refine g_icmp_ne hR (tgt := 64) dX2_noteMeetings_33 (by decide) (fun c33 => ?_) (fun c33 => ?_)
              · refine g_iinc hR dX2_noteMeetings_64 rfl rfl (by decide) rfl ?_
                refine z_goto hR (tgt := 15) dX2_noteMeetings_67 (by decide) ?_
                first | exact ihu (u + 1) f2 (by omega) (by omega) (by omega) (NI_keep hI (by unfold nvI; rw [if_neg (fun z => c33 z.1)])) | exact ihu (u + 1) f2 (by omega) (by omega) (by omega) (NI_keep hI (by unfold nvI; rw [if_neg (fun z => by rw [show bs (gg 20 i) (gg 20 u) = false from c43] at z; exact absurd z.2 (by decide))])) | (rw [gr_s, gr_gr]; exact ihu (u + 1) _ (by omega) (by omega) (by omega) (NI_set hI hiu hun hn5 (by unfold nvI; rw [if_pos ⟨c33, c43⟩])))
              · refine z_aload_n hR dX2_noteMeetings_36 rfl rfl ?_
                refine z_iload_n hR dX2_noteMeetings_37 rfl rfl ?_
                refine z_iload hR dX2_noteMeetings_38 rfl ?_
                refine g_inv2 hR dX2_noteMeetings_40 zm_2_65 (by decide) zN_X2_areBeside ((wk_16 _) _) zO_X2_areBeside (Nat.le_of_ble_eq_true rfl) ?_
                refine c_X2_areBeside isW16 (g := gr gg 33 f2) (i := i) (j := u) (by omega) (by omega) (hq i hin) (hq u hun) ?_
                show R 43 _ (.int _ :: _) _
                refine g_if_eqb hR (tgt := 64) dX2_noteMeetings_43 (by decide) (fun c43 => ?_) (fun c43 => ?_)
                · refine g_iinc hR dX2_noteMeetings_64 rfl rfl (by decide) rfl ?_
                  refine z_goto hR (tgt := 15) dX2_noteMeetings_67 (by decide) ?_
                  first | exact ihu (u + 1) f2 (by omega) (by omega) (by omega) (NI_keep hI (by unfold nvI; rw [if_neg (fun z => c33 z.1)])) | exact ihu (u + 1) f2 (by omega) (by omega) (by omega) (NI_keep hI (by unfold nvI; rw [if_neg (fun z => by rw [show bs (gg 20 i) (gg 20 u) = false from c43] at z; exact absurd z.2 (by decide))])) | (rw [gr_s, gr_gr]; exact ihu (u + 1) _ (by omega) (by omega) (by omega) (NI_set hI hiu hun hn5 (by unfold nvI; rw [if_pos ⟨c33, c43⟩])))
                · refine z_aload_n hR dX2_noteMeetings_46 rfl rfl ?_
                  refine z_iload_n hR dX2_noteMeetings_47 rfl rfl ?_
                  refine g_iconst hR dX2_noteMeetings_48 ?_
                  refine g_imul hR dX2_noteMeetings_49 (nmul _ 5) ?_
                  refine z_iload hR dX2_noteMeetings_50 rfl ?_
                  refine g_iadd hR dX2_noteMeetings_52 (nadd _ _) ?_
                  refine z_iload_n hR dX2_noteMeetings_53 rfl rfl ?_
                  refine g_iastN hR dX2_noteMeetings_54 (wk_33 _) ?_
                  rw [gr_s, gr_gr]
                  refine z_aload_n hR dX2_noteMeetings_55 rfl rfl ?_
                  refine z_iload hR dX2_noteMeetings_56 rfl ?_
                  refine g_iconst hR dX2_noteMeetings_58 ?_
                  refine g_imul hR dX2_noteMeetings_59 (nmul _ 5) ?_
                  refine z_iload_n hR dX2_noteMeetings_60 rfl rfl ?_
                  refine g_iadd hR dX2_noteMeetings_61 (nadd _ _) ?_
                  refine z_iload_n hR dX2_noteMeetings_62 rfl rfl ?_
                  refine g_iastN hR dX2_noteMeetings_63 (wk_33 _) ?_
                  refine g_iinc hR dX2_noteMeetings_64 rfl rfl (by decide) rfl ?_
                  refine z_goto hR (tgt := 15) dX2_noteMeetings_67 (by decide) ?_
                  first | exact ihu (u + 1) f2 (by omega) (by omega) (by omega) (NI_keep hI (by unfold nvI; rw [if_neg (fun z => c33 z.1)])) | exact ihu (u + 1) f2 (by omega) (by omega) (by omega) (NI_keep hI (by unfold nvI; rw [if_neg (fun z => by rw [show bs (gg 20 i) (gg 20 u) = false from c43] at z; exact absurd z.2 (by decide))])) | (rw [gr_s, gr_gr]; exact ihu (u + 1) _ (by omega) (by omega) (by omega) (NI_set hI hiu hun hn5 (by unfold nvI; rw [if_pos ⟨c33, c43⟩])))
        exact lp2 (n + 1) (i + 1) f2 (by omega) (by omega) (by omega) hI
  refine g_iconst hR dX2_noteMeetings_0 ?_
  refine z_istore_n hR dX2_noteMeetings_1 rfl (by decide) rfl ?_
  have hl := loop (n + 1) 0 f (by omega) (by omega) (NI_0 hs)
  rw [← h33, gr_self] at hl
  exact hl
theorem fm_snoc {P : Nat → Bool} : ∀ (r k : Nat), fm P (r + 1) k = if fm P r k = -1 then (if P (k + r + 1) = true then ((k + r + 1 : Nat) : Int) else -1) else fm P r k
  | 0, k => by
    unfold fm
    by_cases h : P k = true
    · rw [if_pos h, if_pos h, if_neg (by omega)]
    · rw [if_neg h, if_neg h, if_pos rfl]; rfl
  | r + 1, k => by
    rw [fm, fm_snoc r (k + 1)]
    by_cases h : P k = true
    · rw [if_pos h, fm, if_pos h, if_neg (by omega)]
    · rw [if_neg h, show fm P (r + 1) k = fm P r (k + 1) by rw [fm, if_neg h], show k + 1 + r + 1 = k + (r + 1) + 1 by omega]
theorem dst_33 {g : Nat → Nat → Int} {q : FI} {an wi b d : Int} {f : FI} : gr (dst g 16 q an wi b d) 33 f = dst (gr g 33 f) 16 q an wi b d := by
  unfold dst
  rw [gr_comm _ _ _ (show (16 : Nat) ≠ 33 by decide), gr_comm g _ _ (show (16 + 4 : Nat) ≠ 33 by decide)]
  rfl
def MT (n : Nat) (T : Nat → FI) (d : Nat) (f : FI) : Prop := (∀ x y, x < n → y < n → x ≠ y → f (x * 5 + y) = fm (fun k => bs (T k x) (T k y)) d 0) ∧ ∀ x, x < n → f (x * 5 + x) = -1
theorem MT_sym {n : Nat} {T : Nat → FI} {d : Nat} {f : FI} (h : MT n T d f) : ∀ x y, x < n → y < n → f (y * 5 + x) = f (x * 5 + y) := by
  intro x y hx hy
  by_cases e : x = y
  · rw [e]
  · rw [h.1 x y hx hy e, h.1 y x hy hx (Ne.symm e)]
    exact fm_congr d 0 (fun j _ _ => bs_comm _ _)
theorem MT_rg {n : Nat} {T : Nat → FI} {d : Nat} {f : FI} (h : MT n T d f) : ∀ x y, x < n → y < n → -1 ≤ f (x * 5 + y) ∧ f (x * 5 + y) ≤ d := by
  intro x y hx hy
  by_cases e : x = y
  · rw [e, h.2 y hy]; omega
  · rw [h.1 x y hx hy e]
    have := fm_rg (P := fun k => bs (T k x) (T k y)) d 0
    omega
theorem MT_0 {n : Nat} {T : Nat → FI} {f f1 : FI} (hf : ∀ k, k < 25 → f k = -1) (hn : n ≤ 5) (h : NT n f (T 0) ((0 : Nat) : Int) f1) : MT n T 0 f1 := by
  refine ⟨fun x y hx hy e => ?_, fun x hx => ?_⟩
  · rw [h.1 x y hx hy e, nvI, hf _ (by omega), fm]
    by_cases q : bs (T 0 x) (T 0 y) = true
    · rw [if_pos ⟨rfl, q⟩, if_pos q]
    · rw [if_neg (fun z => q z.2), if_neg q]
  · rw [h.2 x hx, hf _ (by omega)]
theorem MT_s {n : Nat} {T : Nat → FI} {d : Nat} {f f1 : FI} (hf : MT n T d f) (h : NT n f (T (d + 1)) ((d + 1 : Nat) : Int) f1) : MT n T (d + 1) f1 := by
  refine ⟨fun x y hx hy e => ?_, fun x hx => ?_⟩
  · rw [h.1 x y hx hy e, nvI, hf.1 x y hx hy e, fm_snoc]
    rw [show 0 + d + 1 = d + 1 by omega]
    by_cases q0 : fm (fun k => bs (T k x) (T k y)) d 0 = -1
    · by_cases q : bs (T (d + 1) x) (T (d + 1) y) = true
      · rw [if_pos ⟨q0, q⟩, if_pos q0, if_pos q]
      · rw [if_neg (fun z => q z.2), if_pos q0, if_neg q, q0]
    · rw [if_neg (fun z => q0 z.1), if_neg q0]
  · rw [h.2 x hx, hf.2 x hx]
theorem c_X3_meetAll {zs : zzT} {d : Nat} {Q : zzQ} {g : Nat → Nat → Int} {hh : Int64} {n an : Nat} {pt : Nat → Nat} (hk : WK g 2 n an pt) (hz : zsok zs) {D : Nat} (hD : D ≤ 60) (hQ : ∀ g1, eqS scX g g1 → MT n (trj n (g 4) (g 5) (g 3) pt an (g 2 9) (g 2 10) (g 6)) D (g1 33) → Q [] (wof g1 hh)) : zzCL zs (d + 5) 46 [.ref 0, .int (iI (D : Int))] (wof g hh) Q := by
  refine st_X3_meetAll (Nat.le_of_ble_eq_true rfl) (fun R hR => ?_)
  show R 0 [(0, .ref 0), (1, .int (iI (D : Int)))] [] _
  have hn5 := hk.1.2.1
  have han : an < 32 := Nat.lt_of_lt_of_le hk.2.2.2.1 (Nat.pow_le_pow_right (n := 2) (by decide) hn5)
  refine z_aload_n hR dX3_meetAll_0 rfl rfl ?_
  refine g_get hR dX3_meetAll_1 zf_3_53 (wk_0 _) (show _ = some (Value.ref 33) from rfl) ?_
  refine g_iconst hR dX3_meetAll_4 ?_
  refine g_sta2 hR dX3_meetAll_5 zm_3_240 zN_J7_fill_53178 (Nat.le_of_ble_eq_true rfl) ?_
  refine c_J7_fill (a := 33) (N := 25) (by decide) (wk_33 hh) ?_
  show R 8 _ _ _
  refine z_aload_n hR dX3_meetAll_8 rfl rfl ?_
  refine g_get hR dX3_meetAll_9 zf_3_40 (wk_0 _) (show _ = some (Value.ref 16) from rfl) ?_
  refine z_aload_n hR dX3_meetAll_12 rfl rfl ?_
  refine g_get hR dX3_meetAll_13 zf_3_33 (wk_0 _) (show _ = some (Value.ref 2) from rfl) ?_
  refine g_inv1 hR dX3_meetAll_16 zm_3_198 (by decide) zN_X2_copy ((wk_16 _) _) zO_X2_copy (Nat.le_of_ble_eq_true rfl) ?_
  refine c_X2_copy isW16 isW2 (by decide) (fun g1 hc => ?_)
  show R 19 _ _ _
  have hk0 : WK (gr g 33 (filI 25 (-1) (g 33))) 2 n an pt := hk
  have he : eqS scX g g1 := eqS.tr (eqS.gr eqS.rf (fun k hk => absurd (Or.inr ⟨by omega, by omega⟩) hk)) (cpd_eqS hc)
  obtain ⟨hk1, r2, r3, r1, r4, e8, e9, e10, e11⟩ := WK_cpd hk0 hc
  have hwi := hk1.2.2.2.2.1
  have hda := hk1.2.2.2.2.2.1
  have hf33 : ∀ k, k < 25 → g1 33 k = -1 := fun k hk => by rw [hc.2.2.2 33 k (by omega), gr_s]; exact if_pos hk
  have hTok : ∀ i, plok n (trj n (g1 18) (g1 19) (g1 17) pt an (g1 16 9) (g1 16 10) (g1 20) i) := trj_ok hk1.2.1
  have hT0 : trj n (g1 18) (g1 19) (g1 17) pt an (g1 16 9) (g1 16 10) (g1 20) 0 = g1 20 := rfl
  have hTs : ∀ i : Nat, trj n (g1 18) (g1 19) (g1 17) pt an (g1 16 9) (g1 16 10) (g1 20) (i + 1) = (drf n (g1 18) (g1 19) (g1 17) pt an (g1 16 9) (g1 16 10 + (i : Int)) n (trj n (g1 18) (g1 19) (g1 17) pt an (g1 16 9) (g1 16 10) (g1 20) i)).1 := fun _ => rfl
  have hMT : ∀ f, MT n (trj n (g1 18) (g1 19) (g1 17) pt an (g1 16 9) (g1 16 10) (g1 20)) D f → MT n (trj n (g 4) (g 5) (g 3) pt an (g 2 9) (g 2 10) (g 6)) D f := by
    intro f h0
    have hgc := trj_congr (pt := pt) (pt1 := pt) (an := an) (wi := g1 16 9) (da := g1 16 10) r2 r3 r1 (fun _ _ => rfl) r4 hk1.2.1
    refine ⟨fun x y hx hy hne => ?_, h0.2⟩
    rw [h0.1 x y hx hy hne, show g 2 9 = g1 16 9 from e9.symm, show g 2 10 = g1 16 10 from e10.symm]
    exact fm_congr D 0 (fun j _ _ => by rw [hgc j x hx, hgc j y hy]; rfl)
  generalize trj n (g1 18) (g1 19) (g1 17) pt an (g1 16 9) (g1 16 10) (g1 20) = T at hTok hT0 hTs hMT
  have ed : g1 = dst g1 16 (T 0) (an : Int) (g1 16 9) (g1 16 11) (g1 16 10) := by
    have := (dst_self (g := g1) (a := 16)).symm
    rw [show g1 16 8 = (an : Int) from hk1.2.2.1, show g1 (16 + 4) = T 0 from hT0.symm] at this
    exact this
  rw [ed]
  refine z_aload_n hR dX3_meetAll_19 rfl rfl ?_
  refine g_get hR dX3_meetAll_20 zf_3_40 (wk_0 _) (show _ = some (Value.ref 16) from rfl) ?_
  refine z_aload_n hR dX3_meetAll_23 rfl rfl ?_
  refine g_get hR dX3_meetAll_24 zf_3_53 (wk_0 _) (show _ = some (Value.ref 33) from rfl) ?_
  refine g_iconst hR dX3_meetAll_27 ?_
  refine g_inv2 hR dX3_meetAll_28 zm_3_246 (by decide) zN_X2_noteMeetings ((wk_16 _) _) zO_X2_noteMeetings (Nat.le_of_ble_eq_true rfl) ?_
  refine c_X2_noteMeetings (gg := dst g1 16 (T 0) (an : Int) (g1 16 9) (g1 16 11) (g1 16 10)) (t := 0) hk1.1.1 hn5 (f := g1 33) rfl (hTok 0) (fun x y hx hy => by rw [hf33 _ (by omega), hf33 _ (by omega)]) (fun x y hx hy => by rw [hf33 _ (by omega)]; omega) (fun f1 hf1 => ?_)
  rw [dst_33]
  show R 31 _ _ _
  refine g_iconst hR dX3_meetAll_31 ?_
  refine z_istore_n hR dX3_meetAll_32 rfl (by decide) rfl ?_
  have loop : ∀ (k i : Nat) (f : FI) (B : Int), i ≤ D → D < i + k → (MT n T i f) → R 33 [(0, .ref 0), (1, .int (iI (D : Int))), (2, .int (iI ((i + 1 : Nat) : Int)))] [] (wof (dst (gr g1 33 f) 16 (T i) (an : Int) (g1 16 9) B (g1 16 10 + (i : Int))) hh) := by
    intro k
    induction k with
    | zero => intro i; intros; omega
    | succ k ih =>
      intro i f B hi1 hi2 hM
      refine z_iload_n hR dX3_meetAll_33 rfl rfl ?_
      refine z_iload_n hR dX3_meetAll_34 rfl rfl ?_
      refine g_icmp_gt hR (tgt := 64) dX3_meetAll_35 (by decide) (fun c35 => ?_) (fun c35 => ?_)
      · refine g_vret hR dX3_meetAll_64 rfl ?_
        have e : i = D := by omega
        subst e
        refine hQ _ (dst_eqS (eqS.gr he (fun k hk => absurd (Or.inr ⟨by omega, by omega⟩) hk))) ?_
        exact hMT f hM
      · refine z_aload_n hR dX3_meetAll_38 rfl rfl ?_
        refine g_get hR dX3_meetAll_39 zf_3_40 (wk_0 _) (show _ = some (Value.ref 16) from rfl) ?_
        refine g_inv0 hR dX3_meetAll_42 zm_3_162 (by decide) zN_X2_drift ((wk_16 _) _) zO_X2_drift (Nat.le_of_ble_eq_true rfl) ?_
        refine c_drift (g := gr g1 33 f) isW16 hk1.1 (hTok i) han hwi (by omega) hz hk1.2.2.2.2.2.2 ?_
        show R 45 _ (.int _ :: _) _
        refine z_pop hR dX3_meetAll_45 rfl ?_
        refine z_aload_n hR dX3_meetAll_46 rfl rfl ?_
        refine g_get hR dX3_meetAll_47 zf_3_40 (wk_0 _) (show _ = some (Value.ref 16) from rfl) ?_
        refine z_aload_n hR dX3_meetAll_50 rfl rfl ?_
        refine g_get hR dX3_meetAll_51 zf_3_53 (wk_0 _) (show _ = some (Value.ref 33) from rfl) ?_
        refine z_iload_n hR dX3_meetAll_54 rfl rfl ?_
        refine g_inv2 hR dX3_meetAll_55 zm_3_246 (by decide) zN_X2_noteMeetings ((wk_16 _) _) zO_X2_noteMeetings (Nat.le_of_ble_eq_true rfl) ?_
        refine c_X2_noteMeetings (gg := dst (gr g1 33 f) 16 (drf n (g1 18) (g1 19) (g1 17) pt an (g1 16 9) (g1 16 10 + (i : Int)) n (T i)).1 (an : Int) (g1 16 9) (B + (drf n (g1 18) (g1 19) (g1 17) pt an (g1 16 9) (g1 16 10 + (i : Int)) n (T i)).2) (g1 16 10 + (i : Int) + 1)) (t := i + 1) hk1.1.1 hn5 (f := f) rfl (by rw [← hTs i]; exact hTok (i + 1)) (MT_sym hM) (fun x y hx hy => by have := MT_rg hM x y hx hy; omega) (fun f1 hf1 => ?_)
        rw [dst_33, gr_gr, ← hTs i]
        have hf2 : NT n f (T (i + 1)) ((i + 1 : Nat) : Int) f1 := by rw [hTs i]; exact hf1
        show R 58 _ _ _
        refine g_iinc hR dX3_meetAll_58 rfl (show ((i + 1 : Nat) : Int) + 1 = ((i + 1 + 1 : Nat) : Int) by omega) (by decide) rfl ?_
        refine z_goto hR (tgt := 33) dX3_meetAll_61 (by decide) ?_
        have hst := ih (i + 1) f1 (B + (drf n (g1 18) (g1 19) (g1 17) pt an (g1 16 9) (g1 16 10 + (i : Int)) n (T i)).2) (by omega) (by omega) (MT_s hM hf2)
        rw [show g1 16 10 + ((i + 1 : Nat) : Int) = g1 16 10 + (i : Int) + 1 by omega] at hst
        exact hst
  have hl := loop (D + 1) 0 f1 (g1 16 11) (by omega) (by omega) (MT_0 hf33 hn5 hf1)
  rw [show g1 16 10 + ((0 : Nat) : Int) = g1 16 10 by simp] at hl
  exact hl
