/-- the Waters at a with places, anchors, wind, bumps and day set -/
def dst (g : Nat → Nat → Int) (a : Nat) (q : FI) (an wi b d : Int) : Nat → Nat → Int := gr (gr g (a + 4) q) a (iu (iu (iu (iu (g a) 8 an) 9 wi) 11 b) 10 d)
def WS (g : Nat → Nat → Int) (a n : Nat) : Prop := g a 6 = (n : Int) ∧ n ≤ 5 ∧ (∀ j, j < 12 → -1 ≤ g (a + 1) j ∧ g (a + 1) j ≤ 1) ∧ (∀ j, j < n → 0 ≤ g (a + 2) j ∧ g (a + 2) j ≤ 4) ∧ (∀ j, j < n → 1 ≤ g (a + 3) j ∧ g (a + 3) j ≤ 9)
theorem dst_r {g : Nat → Nat → Int} {a : Nat} {q : FI} {an wi b d : Int} {c : Nat} (h : c ≠ a) (h4 : c ≠ a + 4) : dst g a q an wi b d c = g c := by
  unfold dst
  rw [gr_n _ _ h, gr_n _ _ h4]
theorem dst_4 {g : Nat → Nat → Int} {a : Nat} {q : FI} {an wi b d : Int} : dst g a q an wi b d (a + 4) = q := by
  unfold dst
  rw [gr_n _ _ (by omega), gr_s]
theorem dst_0 {g : Nat → Nat → Int} {a : Nat} {q : FI} {an wi b d : Int} : dst g a q an wi b d a = iu (iu (iu (iu (g a) 8 an) 9 wi) 11 b) 10 d := by
  unfold dst
  rw [gr_s]
theorem dst_self {g : Nat → Nat → Int} {a : Nat} : dst g a (g (a + 4)) (g a 8) (g a 9) (g a 11) (g a 10) = g := by
  unfold dst
  rw [gr_self]
  have : iu (iu (iu (iu (g a) 8 (g a 8)) 9 (g a 9)) 11 (g a 11)) 10 (g a 10) = g a := by
    funext k
    simp only [iu]
    repeat' split
    all_goals simp_all
  rw [this, gr_self]
theorem dst_wd {g : Nat → Nat → Int} {a n an : Nat} {q : FI} {wi b d : Int} (h : WS g a n) (hq : plok n q) (ha : an < 32) (hw : -1 ≤ wi ∧ wi ≤ 1) (hd : 0 ≤ d ∧ d < 2147483648) : WD (dst g a q (an : Int) wi b d) a n an := by
  obtain ⟨h1, h2, h3, h4, h5⟩ := h
  unfold WD
  rw [dst_0, dst_4, dst_r (show a + 1 ≠ a by omega) (by omega), dst_r (show a + 2 ≠ a by omega) (by omega), dst_r (show a + 3 ≠ a by omega) (by omega)]
  exact ⟨h1, h2, h3, h4, h5, hq, rfl, ha, hw, hd⟩
theorem dst_drift {g : Nat → Nat → Int} {a : Nat} {q q1 : FI} {an wi b d b1 : Int} : gr (gr (dst g a q an wi b d) (a + 4) q1) a (iu (iu (dst g a q an wi b d a) 11 (dst g a q an wi b d a 11 + b1)) 10 (dst g a q an wi b d a 10 + 1)) = dst g a q1 an wi (b + b1) (d + 1) := by
  have e11 : dst g a q an wi b d a 11 = b := by rw [dst_0]; rfl
  have e10 : dst g a q an wi b d a 10 = d := by rw [dst_0]; rfl
  rw [e11, e10, dst_0]
  unfold dst
  rw [gr_sw (show a + 4 ≠ a by omega), gr_gr]
  congr 1
  funext k
  simp only [iu]
  by_cases h : k = 10
  · simp [h]
  · by_cases h1 : k = 11
    · simp [h1]
    · simp [h, h1]
theorem dst_8 {g : Nat → Nat → Int} {a : Nat} {q : FI} {an wi b d z : Int} : gr (dst g a q an wi b d) a (iu (dst g a q an wi b d a) 8 z) = dst g a q z wi b d := by
  rw [dst_0]
  unfold dst
  rw [gr_gr]
  congr 1
  funext k
  simp only [iu]
  by_cases h : k = 8
  · simp [h]
  · simp [h]
theorem dst_9 {g : Nat → Nat → Int} {a : Nat} {q : FI} {an wi b d z : Int} : gr (dst g a q an wi b d) a (iu (dst g a q an wi b d a) 9 z) = dst g a q an z b d := by
  rw [dst_0]
  unfold dst
  rw [gr_gr]
  congr 1
  funext k
  simp only [iu]
  by_cases h : k = 9
  · simp [h]
  · simp [h]
theorem dst_pl {g : Nat → Nat → Int} {a : Nat} {q q1 : FI} {an wi b d : Int} : gr (dst g a q an wi b d) (a + 4) q1 = dst g a q1 an wi b d := by
  unfold dst
  rw [gr_sw (show a + 4 ≠ a by omega)]
theorem dst_eqS {g g1 : Nat → Nat → Int} {q : FI} {an wi b d : Int} (h : eqS scX g g1) : eqS scX g (dst g1 16 q an wi b d) :=
  eqS.gr (eqS.gr h (fun k hk => absurd (Or.inl ⟨by omega, by omega⟩) hk)) (fun k hk => absurd (Or.inl ⟨by omega, by omega⟩) hk)
/-- a drift of a Waters so set -/
theorem c_drift {zs : zzT} {d0 : Nat} {Q : zzQ} {g : Nat → Nat → Int} {hh : Int64} {a : Nat} (ha : isW a) {n an : Nat} {q : FI} {wi b d : Int} (hw : WS g a n) (hq : plok n q) (han : an < 32) (hwi : -1 ≤ wi ∧ wi ≤ 1) (hd : 0 ≤ d ∧ d < 2147483648) (hz : zsok zs) {pt : Nat → Nat} (hpt : ∀ j, j < n → g (a + 6) j = ((pt j : Nat) : Int) ∧ pt j < 2 ^ n)
    (hQ : Q [.int (iI (drf n (g (a + 2)) (g (a + 3)) (g (a + 1)) pt an wi d n q).2)] (wof (dst g a (drf n (g (a + 2)) (g (a + 3)) (g (a + 1)) pt an wi d n q).1 an wi (b + (drf n (g (a + 2)) (g (a + 3)) (g (a + 1)) pt an wi d n q).2) (d + 1)) hh)) : zzCL zs (d0 + 4) 33 [.ref a] (wof (dst g a q an wi b d) hh) Q := by
  refine c_X2_drift ha (dst_wd hw hq han hwi hd) hz (pt := pt) (fun j hj => by rw [dst_r (show a + 6 ≠ a by omega) (by omega)]; exact hpt j hj) ?_
  have e9 : dst g a q (an : Int) wi b d a 9 = wi := by rw [dst_0]; rfl
  have e10 : dst g a q (an : Int) wi b d a 10 = d := by rw [dst_0]; rfl
  rw [dst_4, dst_r (show a + 1 ≠ a by omega) (by omega), dst_r (show a + 2 ≠ a by omega) (by omega), dst_r (show a + 3 ≠ a by omega) (by omega), dst_drift, e9, e10]
  exact hQ
theorem c_beside {zs : zzT} {d0 : Nat} {Q : zzQ} {g : Nat → Nat → Int} {hh : Int64} {a : Nat} (ha : isW a) {n : Nat} {q : FI} {an wi b d : Int} (hn : n ≤ 5) (hq : plok n q) {i j : Nat} (hi : i < n) (hj : j < n) (hQ : Q [.int (iI (b2i (bs (q i) (q j))))] (wof (dst g a q an wi b d) hh)) : zzCL zs (d0 + 2) 20 [.ref a, .int (iI (i : Int)), .int (iI (j : Int))] (wof (dst g a q an wi b d) hh) Q := by
  refine c_X2_areBeside ha (by omega) (by omega) (by rw [dst_4]; exact hq i hi) (by rw [dst_4]; exact hq j hj) ?_
  rw [dst_4]
  exact hQ
/-- what the class keeps of now -/
def WK (g : Nat → Nat → Int) (a n an : Nat) (pt : Nat → Nat) : Prop := WS g a n ∧ plok n (g (a + 4)) ∧ g a 8 = (an : Int) ∧ an < 2 ^ n ∧ (-1 ≤ g a 9 ∧ g a 9 ≤ 1) ∧ (0 ≤ g a 10 ∧ g a 10 < 1000000) ∧ ∀ j, j < n → g (a + 6) j = ((pt j : Nat) : Int) ∧ pt j < 2 ^ n
theorem WK_cpd {g g1 : Nat → Nat → Int} {a b n an : Nat} {pt : Nat → Nat} (h : WK g b n an pt) (hc : cpd g a b g1) : WK g1 a n an pt ∧ eqn n (g1 (a + 2)) (g (b + 2)) ∧ eqn n (g1 (a + 3)) (g (b + 3)) ∧ eqn 12 (g1 (a + 1)) (g (b + 1)) ∧ eqn n (g1 (a + 4)) (g (b + 4)) ∧ g1 a 8 = g b 8 ∧ g1 a 9 = g b 9 ∧ g1 a 10 = g b 10 ∧ g1 a 11 = g b 11 := by
  obtain ⟨⟨h1, h2, h3, h4, h5⟩, hp, h8, h82, h9, h10, h6⟩ := h
  obtain ⟨c1, c2, c3, c4⟩ := hc
  have r2 : eqn n (g1 (a + 2)) (g (b + 2)) := fun j hj => c2 2 (by omega) (by omega) j (by omega)
  have r3 : eqn n (g1 (a + 3)) (g (b + 3)) := fun j hj => c2 3 (by omega) (by omega) j (by omega)
  have r4 : eqn n (g1 (a + 4)) (g (b + 4)) := fun j hj => c2 4 (by omega) (by omega) j (by omega)
  have r1 : eqn 12 (g1 (a + 1)) (g (b + 1)) := c1
  refine ⟨⟨⟨by rw [c3 6 (by omega) (by omega)]; exact h1, h2, fun j hj => by rw [c1 j hj]; exact h3 j hj, fun j hj => by rw [r2 j hj]; exact h4 j hj, fun j hj => by rw [r3 j hj]; exact h5 j hj⟩, fun j hj => by rw [r4 j hj]; exact hp j hj, by rw [c3 8 (by omega) (by omega)]; exact h8, h82, by rw [c3 9 (by omega) (by omega)]; exact h9, by rw [c3 10 (by omega) (by omega)]; exact h10, fun j hj => by rw [c2 6 (by omega) (by omega) j (by omega)]; exact h6 j hj⟩, r2, r3, r1, r4, c3 8 (by omega) (by omega), c3 9 (by omega) (by omega), c3 10 (by omega) (by omega), c3 11 (by omega) (by omega)⟩
theorem cpd_eqS {g g1 : Nat → Nat → Int} (hc : cpd g 16 2 g1) : eqS scX g g1 := by
  intro b k h
  refine hc.2.2.2 b k ?_
  unfold scX at h
  omega
theorem isW16 : isW 16 := Or.inr (Or.inr rfl)
theorem isW9 : isW 9 := Or.inr (Or.inl rfl)
theorem isW2 : isW 2 := Or.inl rfl
theorem c_X3_firstMeeting {zs : zzT} {d : Nat} {Q : zzQ} {g : Nat → Nat → Int} {hh : Int64} {n an : Nat} {pt : Nat → Nat} (hk : WK g 2 n an pt) (hz : zsok zs) {x y more days : Nat} (hx : x < n) (hy : y < n) (hmore : more < 2 ^ n) (hdays : days ≤ 60) (hQ : ∀ g1, eqS scX g g1 → Q [.int (iI (mtv n (g 4) (g 5) (g 3) pt (an ||| more) (g 2 9) (g 2 10) (g 6) x y days))] (wof g1 hh)) : zzCL zs (d + 5) 40 [.ref 0, .int (iI (x : Int)), .int (iI (y : Int)), .int (iI (days : Int)), .int (iI (more : Int))] (wof g hh) Q := by
  refine st_X3_firstMeeting (Nat.le_of_ble_eq_true rfl) (fun R hR => ?_)
  show R 0 [(0, .ref 0), (1, .int (iI (x : Int))), (2, .int (iI (y : Int))), (3, .int (iI (days : Int))), (4, .int (iI (more : Int)))] [] _
  have hn5 := hk.1.2.1
  obtain ⟨an1, hane⟩ : ∃ an1, an ||| more = an1 := ⟨_, rfl⟩
  rw [hane] at hQ
  have han : an1 < 32 := by rw [← hane]; exact Nat.lt_of_lt_of_le (Nat.or_lt_two_pow hk.2.2.2.1 hmore) (Nat.pow_le_pow_right (n := 2) (by decide) hn5)
  refine z_aload_n hR dX3_firstMeeting_0 rfl rfl ?_
  refine g_get hR dX3_firstMeeting_1 zf_3_40 (wk_0 _) rfl ?_
  refine z_aload_n hR dX3_firstMeeting_4 rfl rfl ?_
  refine g_get hR dX3_firstMeeting_5 zf_3_33 (wk_0 _) rfl ?_
  refine g_inv1 hR dX3_firstMeeting_8 zm_3_198 (by decide) zN_X2_copy ((wk_16 _) _) zO_X2_copy (Nat.le_of_ble_eq_true rfl) ?_
  refine c_X2_copy isW16 isW2 (by decide) (fun g1 hc => ?_)
  show R 11 _ _ _
  have he := cpd_eqS hc
  obtain ⟨hk1, r2, r3, r1, r4, e8, e9, e10, e11⟩ := WK_cpd hk hc
  have hwi := hk1.2.2.2.2.1
  have hda := hk1.2.2.2.2.2.1
  have hTok : ∀ i, plok n (trj n (g1 18) (g1 19) (g1 17) pt an1 (g1 16 9) (g1 16 10) (g1 20) i) := trj_ok hk1.2.1
  have hT0 : trj n (g1 18) (g1 19) (g1 17) pt an1 (g1 16 9) (g1 16 10) (g1 20) 0 = g1 20 := rfl
  have hTs : ∀ i : Nat, trj n (g1 18) (g1 19) (g1 17) pt an1 (g1 16 9) (g1 16 10) (g1 20) (i + 1) = (drf n (g1 18) (g1 19) (g1 17) pt an1 (g1 16 9) (g1 16 10 + (i : Int)) n (trj n (g1 18) (g1 19) (g1 17) pt an1 (g1 16 9) (g1 16 10) (g1 20) i)).1 := fun _ => rfl
  have hmt : mtv n (g 4) (g 5) (g 3) pt an1 (g 2 9) (g 2 10) (g 6) x y days = fm (fun k => bs (trj n (g1 18) (g1 19) (g1 17) pt an1 (g1 16 9) (g1 16 10) (g1 20) k x) (trj n (g1 18) (g1 19) (g1 17) pt an1 (g1 16 9) (g1 16 10) (g1 20) k y)) days 0 := by
    rw [show g 2 9 = g1 16 9 from e9.symm, show g 2 10 = g1 16 10 from e10.symm]
    exact (mtv_congr r2 r3 r1 (fun _ _ => rfl) r4 hk1.2.1 hx hy).symm
  rw [hmt] at hQ
  generalize trj n (g1 18) (g1 19) (g1 17) pt an1 (g1 16 9) (g1 16 10) (g1 20) = T at hTok hT0 hTs hQ
  clear hmt
  obtain ⟨V, hVe⟩ : ∃ V, V = fm (fun k => bs (T k x) (T k y)) days 0 := ⟨_, rfl⟩
  rw [← hVe] at hQ
  have loop : ∀ (k i : Nat) (B : Int), i ≤ days → days < i + k → (i ≤ days → V = fm (fun k => bs (T k x) (T k y)) (days - i) i) → R 28 [(0, .ref 0), (1, .int (iI (x : Int))), (2, .int (iI (y : Int))), (3, .int (iI (days : Int))), (4, .int (iI (more : Int))), (5, .int (iI (i : Int)))] [] (wof (dst g1 16 (T i) (an1 : Int) (g1 16 9) B (g1 16 10 + (i : Int))) hh) := by
    intro k
    induction k with
    | zero => intro i; intros; omega
    | succ k ih =>
      intro i B hi1 hi2 hV
      refine z_iload hR dX3_firstMeeting_28 rfl ?_
      refine z_iload_n hR dX3_firstMeeting_30 rfl rfl ?_
      refine g_icmp_ge hR (tgt := 63) dX3_firstMeeting_31 (by decide) (fun c31 => ?_) (fun c31 => ?_)
      · have e : i = days := by omega
        subst e
        refine z_aload_n hR dX3_firstMeeting_63 rfl rfl ?_
        refine g_get hR dX3_firstMeeting_64 zf_3_40 (wk_0 _) rfl ?_
        refine z_iload_n hR dX3_firstMeeting_67 rfl rfl ?_
        refine z_iload_n hR dX3_firstMeeting_68 rfl rfl ?_
        refine g_inv2 hR dX3_firstMeeting_69 zm_3_149 (by decide) zN_X2_areBeside ((wk_16 _) _) zO_X2_areBeside (Nat.le_of_ble_eq_true rfl) ?_
        refine c_beside isW16 hn5 (hTok _) hx hy ?_
        show R 72 _ (.int _ :: _) _
        refine g_if_eqb hR (tgt := 79) dX3_firstMeeting_72 (by decide) (fun c72 => ?_) (fun c72 => ?_)
        · refine g_iconst hR dX3_firstMeeting_79 ?_
          refine g_iret hR dX3_firstMeeting_80 rfl ?_
          refine qi (hQ _ (dst_eqS he)) ?_
          rw [hV (by omega)]
          simp [fm, c72]
        · refine z_iload_n hR dX3_firstMeeting_75 rfl rfl ?_
          refine z_goto hR (tgt := 80) dX3_firstMeeting_76 (by decide) ?_
          refine g_iret hR dX3_firstMeeting_80 rfl ?_
          refine qi (hQ _ (dst_eqS he)) ?_
          rw [hV (by omega)]
          simp [fm, c72]
      · refine z_aload_n hR dX3_firstMeeting_34 rfl rfl ?_
        refine g_get hR dX3_firstMeeting_35 zf_3_40 (wk_0 _) rfl ?_
        refine z_iload_n hR dX3_firstMeeting_38 rfl rfl ?_
        refine z_iload_n hR dX3_firstMeeting_39 rfl rfl ?_
        refine g_inv2 hR dX3_firstMeeting_40 zm_3_149 (by decide) zN_X2_areBeside ((wk_16 _) _) zO_X2_areBeside (Nat.le_of_ble_eq_true rfl) ?_
        refine c_beside isW16 hn5 (hTok _) hx hy ?_
        show R 43 _ (.int _ :: _) _
        refine g_if_eqb hR (tgt := 49) dX3_firstMeeting_43 (by decide) (fun c43 => ?_) (fun c43 => ?_)
        · refine z_aload_n hR dX3_firstMeeting_49 rfl rfl ?_
          refine g_get hR dX3_firstMeeting_50 zf_3_40 (wk_0 _) rfl ?_
          refine g_inv0 hR dX3_firstMeeting_53 zm_3_162 (by decide) zN_X2_drift ((wk_16 _) _) zO_X2_drift (Nat.le_of_ble_eq_true rfl) ?_
          refine c_drift (isW16) hk1.1 (hTok i) han hwi (by omega) hz hk1.2.2.2.2.2.2 ?_
          show R 56 _ (.int _ :: _) _
          refine z_pop hR dX3_firstMeeting_56 rfl ?_
          refine g_iinc hR dX3_firstMeeting_57 rfl rfl (by decide) rfl ?_
          refine z_goto hR (tgt := 28) dX3_firstMeeting_60 (by decide) ?_
          have hst := ih (i + 1) (B + (drf n (g1 18) (g1 19) (g1 17) pt an1 (g1 16 9) (g1 16 10 + (i : Int)) n (T i)).2) (by omega) (by omega) (fm_next (hV (by omega)) (by omega) c43).1
          rw [hTs i, show g1 16 10 + ((i + 1 : Nat) : Int) = g1 16 10 + (i : Int) + 1 by omega] at hst
          exact hst
        · refine z_iload hR dX3_firstMeeting_46 rfl ?_
          refine g_iret hR dX3_firstMeeting_48 rfl ?_
          exact qi (hQ _ (dst_eqS he)) (by rw [hV (by omega), fm_here c43])
  refine z_aload_n hR dX3_firstMeeting_11 rfl rfl ?_
  refine g_get hR dX3_firstMeeting_12 zf_3_40 (wk_0 _) rfl ?_
  refine z_dup hR dX3_firstMeeting_15 rfl ?_
  refine g_get hR dX3_firstMeeting_16 zf_3_139 (wk_16 _) (gi (show g1 16 8 = (an : Int) from hk1.2.2.1)) ?_
  refine z_iload hR dX3_firstMeeting_19 rfl ?_
  refine g_ior hR dX3_firstMeeting_21 ?_
  refine g_put hR dX3_firstMeeting_22 zf_3_139 (wk_16 _) (Nat.le_of_ble_eq_true rfl) rfl rfl rfl rfl ?_
  have ed : g1 = dst g1 16 (g1 20) (g1 16 8) (g1 16 9) (g1 16 11) (g1 16 10) := (dst_self (g := g1) (a := 16)).symm
  have ed8 : gr g1 16 (iu (g1 16) 8 ((an ||| more : Nat) : Int)) = dst g1 16 (g1 20) ((an ||| more : Nat) : Int) (g1 16 9) (g1 16 11) (g1 16 10) := by
    conv => lhs; rw [ed]
    exact dst_8
  rw [ed8, hane]
  refine g_iconst hR dX3_firstMeeting_25 ?_
  refine z_istore hR dX3_firstMeeting_26 (by decide) rfl ?_
  have hl := loop (days + 1) 0 (g1 16 11) (by omega) (by omega) (fun _ => hVe)
  rw [hT0, show g1 16 10 + ((0 : Nat) : Int) = g1 16 10 by simp] at hl
  exact hl
