/-- a shell holds on the way T -/
def shk (T : Nat → FI) (one oth whn wre : FI) (k : Nat) : Bool := bs (T (whn k).toNat (one k).toNat) (T (whn k).toNat (oth k).toNat) == decide (wre k = 1)
def hld (T : Nat → FI) (one oth whn wre : FI) (sn : Nat) : Bool := (List.range sn).all (shk T one oth whn wre)
theorem hld_iff {T : Nat → FI} {one oth whn wre : FI} {sn : Nat} : hld T one oth whn wre sn = true ↔ ∀ k, k < sn → shk T one oth whn wre k = true := by
  unfold hld
  simp only [List.all_eq_true, List.mem_range]
theorem hld_t {T : Nat → FI} {one oth whn wre : FI} {sn : Nat} (h : ∀ k, k < sn → shk T one oth whn wre k = true) : true = hld T one oth whn wre sn := (hld_iff.mpr h).symm
theorem hld_f {T : Nat → FI} {one oth whn wre : FI} {sn k : Nat} (hk : k < sn) (h : shk T one oth whn wre k = false) : false = hld T one oth whn wre sn := by
  cases e : hld T one oth whn wre sn
  · rfl
  · rw [hld_iff.mp e k hk] at h; exact absurd h (by decide)
theorem shk_at {T : Nat → FI} {one oth whn wre : FI} {k d a b : Nat} (h : whn k = (d : Int)) (h1 : one k = (a : Int)) (h2 : oth k = (b : Int)) : shk T one oth whn wre k = (bs (T d a) (T d b) == decide (wre k = 1)) := by
  unfold shk
  rw [h, h1, h2, Int.toNat_natCast, Int.toNat_natCast, Int.toNat_natCast]
/-- who may be at place q, if isl is put there -/
def okP (pl : FI) (n isl : Nat) (q : Int) : Bool := (List.range n).all fun j => decide (pl j = q → j = isl)
theorem okP_iff {pl : FI} {n isl : Nat} {q : Int} : okP pl n isl q = true ↔ ∀ j, j < n → pl j = q → j = isl := by
  unfold okP
  simp only [List.all_eq_true, List.mem_range, decide_eq_true_eq]
theorem okP_at {pl : FI} {n isl : Nat} {q r : Int} (hd : ∀ i j, i < n → j < n → pl i = pl j → i = j) (h : isAt pl n q r) : okP pl n isl q = true ↔ (r = -1 ∨ r = (isl : Int)) := by
  rw [okP_iff]
  rcases h with ⟨j, hj, e, er⟩ | ⟨h, er⟩
  · constructor
    · intro h
      have := h j hj e
      omega
    · intro h j1 hj1 e1
      have := hd j1 j hj1 hj (by rw [e1, e])
      omega
  · constructor
    · intro _; exact Or.inl er
    · intro _ j hj e; exact absurd e (h j hj)
/-- may isl be at c / 3 under wind c % 3 - 1 -/
def gss (n : Nat) (kd sz cur : FI) (pt : Nat → Nat) (an : Nat) (da : Int) (pl one oth whn wre : FI) (sn isl : Nat) (c : Nat) : Bool := okP pl n isl ((c / 3 : Nat) : Int) && hld (trj n kd sz cur pt an (((c % 3 : Nat) : Int) - 1) da (iu pl isl ((c / 3 : Nat) : Int))) one oth whn wre sn
theorem plok_iu {n : Nat} {pl : FI} {i p : Nat} (h : plok n pl) (hp : p < 12) : plok n (iu pl i (p : Int)) := by
  intro j hj
  unfold iu
  split
  · omega
  · exact h j hj
theorem gss_congr {n : Nat} {kd kd1 sz sz1 cur cur1 : FI} {pt : Nat → Nat} {an : Nat} {da : Int} {pl pl1 one one1 oth oth1 whn whn1 wre wre1 : FI} {sn isl : Nat} (h1 : eqn n kd kd1) (hs : eqn n sz sz1) (h2 : eqn 12 cur cur1) (h3 : eqn n pl pl1) (hp : plok n pl) (hb : ∀ k, k < sn → (one k = one1 k ∧ oth k = oth1 k ∧ whn k = whn1 k ∧ wre k = wre1 k) ∧ (0 ≤ one k ∧ one k < n) ∧ (0 ≤ oth k ∧ oth k < n)) {c : Nat} (hc : c < 36) : gss n kd sz cur pt an da pl one oth whn wre sn isl c = gss n kd1 sz1 cur1 pt an da pl1 one1 oth1 whn1 wre1 sn isl c := by
  unfold gss
  have e1 : okP pl n isl ((c / 3 : Nat) : Int) = okP pl1 n isl ((c / 3 : Nat) : Int) := by
    have : okP pl n isl ((c / 3 : Nat) : Int) = true ↔ okP pl1 n isl ((c / 3 : Nat) : Int) = true := by
      rw [okP_iff, okP_iff]
      exact ⟨fun h j hj e => h j hj (by rw [h3 j hj]; exact e), fun h j hj e => h j hj (by rw [← h3 j hj]; exact e)⟩
    cases a : okP pl n isl ((c / 3 : Nat) : Int) <;> cases b : okP pl1 n isl ((c / 3 : Nat) : Int) <;> simp_all
  have e3 : eqn n (iu pl isl ((c / 3 : Nat) : Int)) (iu pl1 isl ((c / 3 : Nat) : Int)) := by
    intro j hj
    unfold iu
    split
    · rfl
    · exact h3 j hj
  have eT := trj_congr (pt := pt) (pt1 := pt) (an := an) (wi := ((c % 3 : Nat) : Int) - 1) (da := da) h1 hs h2 (fun _ _ => rfl) e3 (plok_iu hp (by omega))
  have e2 : hld (trj n kd sz cur pt an (((c % 3 : Nat) : Int) - 1) da (iu pl isl ((c / 3 : Nat) : Int))) one oth whn wre sn = hld (trj n kd1 sz1 cur1 pt an (((c % 3 : Nat) : Int) - 1) da (iu pl1 isl ((c / 3 : Nat) : Int))) one1 oth1 whn1 wre1 sn := by
    have key : ∀ k, k < sn → shk (trj n kd sz cur pt an (((c % 3 : Nat) : Int) - 1) da (iu pl isl ((c / 3 : Nat) : Int))) one oth whn wre k = shk (trj n kd1 sz1 cur1 pt an (((c % 3 : Nat) : Int) - 1) da (iu pl1 isl ((c / 3 : Nat) : Int))) one1 oth1 whn1 wre1 k := by
      intro k hk
      obtain ⟨⟨q1, q2, q3, q4⟩, q5, q6⟩ := hb k hk
      unfold shk
      rw [← q1, ← q2, ← q3, ← q4, eT _ (one k).toNat (by omega), eT _ (oth k).toNat (by omega)]
    cases a : hld (trj n kd1 sz1 cur1 pt an (((c % 3 : Nat) : Int) - 1) da (iu pl1 isl ((c / 3 : Nat) : Int))) one1 oth1 whn1 wre1 sn
    · cases b : hld (trj n kd sz cur pt an (((c % 3 : Nat) : Int) - 1) da (iu pl isl ((c / 3 : Nat) : Int))) one oth whn wre sn
      · rfl
      · rw [hld_iff] at b
        have := hld_t (fun k hk => (key k hk) ▸ b k hk)
        rw [a] at this; exact absurd this (by decide)
    · rw [hld_iff] at a
      exact (hld_t (fun k hk => (key k hk).trans (a k hk))).symm
  rw [e1, e2]
/-- the first of those below c -/
def isF (G : Nat → Bool) (c : Nat) (L : Int) : Prop := (L = -1 ∧ ∀ j, j < c → G j = false) ∨ ∃ j : Nat, j < c ∧ L = (j : Int) ∧ G j = true ∧ ∀ i, i < j → G i = false
theorem isF_no {G : Nat → Bool} {c : Nat} {L : Int} (h : isF G c L) (hg : G c = false) : isF G (c + 1) L := by
  rcases h with ⟨a, b⟩ | ⟨j, a, b⟩
  · refine Or.inl ⟨a, fun j hj => ?_⟩
    rcases Nat.lt_or_eq_of_le (Nat.le_of_lt_succ hj) with q | q
    · exact b j q
    · rw [q]; exact hg
  · exact Or.inr ⟨j, by omega, b⟩
theorem isF_new {G : Nat → Bool} {c : Nat} (h : isF G c (-1)) (hg : G c = true) : isF G (c + 1) (c : Int) := by
  rcases h with ⟨a, b⟩ | ⟨j, a, b, _⟩
  · exact Or.inr ⟨c, by omega, rfl, hg, b⟩
  · omega
theorem isF_old {G : Nat → Bool} {c : Nat} {L : Int} (h : isF G c L) (hl : L ≠ -1) : isF G (c + 1) L := by
  rcases h with ⟨a, b⟩ | ⟨j, a, b⟩
  · exact absurd a hl
  · exact Or.inr ⟨j, by omega, b⟩
theorem isF_rg {G : Nat → Bool} {c : Nat} {L : Int} (h : isF G c L) : -1 ≤ L ∧ L < c := by
  rcases h with ⟨a, b⟩ | ⟨j, a, b, _⟩ <;> omega
theorem isF_0 (G : Nat → Bool) : isF G 0 (-1) := Or.inl ⟨rfl, fun j h => absurd h (by omega)⟩
theorem isF_un {G G1 : Nat → Bool} {c : Nat} {L L1 : Int} (e : ∀ j, j < c → G j = G1 j) (h : isF G c L) (h1 : isF G1 c L1) : L = L1 := by
  rcases h with ⟨a, b⟩ | ⟨j, a, b, d, f⟩ <;> rcases h1 with ⟨a1, b1⟩ | ⟨j1, a1, b1, d1, f1⟩
  · rw [a, a1]
  · have := b j1 a1; rw [e j1 a1, d1] at this; exact absurd this (by decide)
  · have := b1 j a; rw [← e j a, d] at this; exact absurd this (by decide)
  · rcases Nat.lt_trichotomy j j1 with q | q | q
    · have := f1 j q; rw [← e j a, d] at this; exact absurd this (by decide)
    · omega
    · have := f j1 q; rw [e j1 a1, d1] at this; exact absurd this (by decide)
/-- the same, going down -/
def isD (G : Nat → Bool) (c i : Nat) (L : Int) : Prop := (L = -1 ∧ ∀ j, i ≤ j → j < c → G j = false) ∨ ∃ j : Nat, j < c ∧ L = (j : Int) ∧ G j = true ∧ ∀ k, i ≤ k → k < j → G k = false
theorem isD_no {G : Nat → Bool} {c i : Nat} {L : Int} (h : isD G c (i + 1) L) (hg : G i = false) : isD G c i L := by
  rcases h with ⟨a, b⟩ | ⟨j, a, b, d, f⟩
  · refine Or.inl ⟨a, fun j hj hj2 => ?_⟩
    rcases Nat.lt_or_eq_of_le hj with q | q
    · exact b j q hj2
    · rw [← q]; exact hg
  · refine Or.inr ⟨j, a, b, d, fun k hk hk2 => ?_⟩
    rcases Nat.lt_or_eq_of_le hk with q | q
    · exact f k q hk2
    · rw [← q]; exact hg
theorem isD_yes {G : Nat → Bool} {c i : Nat} (hi : i < c) (hg : G i = true) : isD G c i (i : Int) := Or.inr ⟨i, hi, rfl, hg, fun k a b => absurd b (by omega)⟩
theorem isD_0 {G : Nat → Bool} {c : Nat} {L : Int} (h : isD G c 0 L) : isF G c L := by
  rcases h with ⟨a, b⟩ | ⟨j, a, b, d, f⟩
  · exact Or.inl ⟨a, fun j hj => b j (by omega) hj⟩
  · exact Or.inr ⟨j, a, b, d, fun k hk => f k (by omega) hk⟩
theorem isF_ex (G : Nat → Bool) : ∀ c, ∃ L, isF G c L
  | 0 => ⟨_, isF_0 G⟩
  | c + 1 => by
    obtain ⟨L, h⟩ := isF_ex G c
    cases e : G c
    · exact ⟨L, isF_no h e⟩
    · by_cases hl : L = -1
      · exact ⟨_, isF_new (hl ▸ h) e⟩
      · exact ⟨L, isF_old h hl⟩
theorem dst_p20 {g : Nat → Nat → Int} {q : FI} {an wi b d : Int} {i : Nat} {z : Int} : gr (dst g 16 q an wi b d) 20 (iu (dst g 16 q an wi b d 20) i z) = dst g 16 (iu q i z) an wi b d := by
  rw [show dst g 16 q an wi b d 20 = q from dst_4]
  exact dst_pl
theorem c_X1_lastDay {zs : zzT} {d : Nat} {Q : zzQ} {gg : Nat → Nat → Int} {hh : Int64} {sn : Nat} (hsn : gg 23 4 = (sn : Int)) (hs8 : sn ≤ 8) (hw : ∀ k, k < sn → 0 ≤ gg 26 k ∧ gg 26 k ≤ 20) (hQ : ∀ L, -1 ≤ L ∧ L ≤ 20 → (∀ k, k < sn → gg 26 k ≤ L) → Q [.int (iI L)] (wof gg hh)) : zzCL zs (d + 1) 63 [.ref 23] (wof gg hh) Q := by
  refine st_X1_lastDay (Nat.le_of_ble_eq_true rfl) (fun R hR => ?_)
  show R 0 [(0, .ref 23)] [] _
  have loop : ∀ (k i : Nat) (L : Int), i ≤ sn → sn < i + k → (-1 ≤ L ∧ L ≤ 20) → (∀ k, k < i → gg 26 k ≤ L) → R 4 [(0, .ref 23), (1, .int (iI L)), (2, .int (iI (i : Int)))] [] (wof gg hh) := by
    intro k
    induction k with
    | zero => intro i; intros; omega
    | succ k ih =>
      intro i L hi1 hi2 hLr hL
      refine z_iload_n hR dX1_lastDay_4 rfl rfl ?_
      refine z_aload_n hR dX1_lastDay_5 rfl rfl ?_
      refine g_get hR dX1_lastDay_6 zf_1_25 (wk_23 _) (gi hsn) ?_
      refine g_icmp_ge hR (tgt := 29) dX1_lastDay_9 (by decide) (fun c9 => ?_) (fun c9 => ?_)
      · refine z_iload_n hR dX1_lastDay_29 rfl rfl ?_
        refine g_iret hR dX1_lastDay_30 rfl ?_
        have e : i = sn := by omega
        rw [e] at hL
        exact hQ L hLr hL
      · have hin : i < sn := by omega
        have hwi := hw i hin
        refine z_iload_n hR dX1_lastDay_12 rfl rfl ?_
        refine z_aload_n hR dX1_lastDay_13 rfl rfl ?_
        refine g_get hR dX1_lastDay_14 zf_1_18 (wk_23 _) (show _ = some (Value.ref 26) from rfl) ?_
        refine z_iload_n hR dX1_lastDay_17 rfl rfl ?_
        refine g_ialdN hR dX1_lastDay_18 (wk_26 _) rfl ?_
        refine g_mmx hR dX1_lastDay_19 zx_1_29 rfl (Nat.le_of_ble_eq_true rfl) ?_
        refine z_istore_n hR dX1_lastDay_22 rfl (by decide) rfl ?_
        refine g_iinc hR dX1_lastDay_23 rfl rfl (by decide) rfl ?_
        refine z_goto hR (tgt := 4) dX1_lastDay_26 (by decide) ?_
        refine ih (i + 1) _ (by omega) (by omega) (by split <;> omega) (fun k hk => ?_)
        have hq : gg 26 k ≤ L ∨ k = i := by rcases Nat.lt_or_eq_of_le (Nat.le_of_lt_succ hk) with q | q; exact Or.inl (hL k q); exact Or.inr q
        rcases hq with q | q
        · split <;> omega
        · rw [q]; split <;> omega
  refine g_iconst hR dX1_lastDay_0 ?_
  refine z_istore_n hR dX1_lastDay_1 rfl (by decide) rfl ?_
  refine g_iconst hR dX1_lastDay_2 ?_
  refine z_istore_n hR dX1_lastDay_3 rfl (by decide) rfl ?_
  exact loop (sn + 1) 0 (-1) (by omega) (by omega) (by omega) (fun k hk => absurd hk (by omega))
theorem c_X1_holdOn {zs : zzT} {d : Nat} {Q : zzQ} {gg : Nat → Nat → Int} {hh : Int64} {n sn : Nat} (hn5 : n ≤ 5) (hsn : gg 23 4 = (sn : Int)) (hs8 : sn ≤ 8) {one oth whn wre q : FI} (e1 : gg 24 = one) (e2 : gg 25 = oth) (e3 : gg 26 = whn) (e4 : gg 27 = wre) (e5 : gg 20 = q) (hw : ∀ k, k < sn → 0 ≤ whn k ∧ whn k ≤ 20) (hon : ∀ k, k < sn → (0 ≤ one k ∧ one k < n) ∧ (0 ≤ oth k ∧ oth k < n) ∧ (wre k = 0 ∨ wre k = 1)) (hq : plok n q) {dd : Nat} (hdd : dd < 100) (hQ : ∀ b : Bool, (b = true ↔ ∀ k, k < sn → whn k = (dd : Int) → bs (q (one k).toNat) (q (oth k).toNat) = decide (wre k = 1)) → Q [.int (iI (b2i b))] (wof gg hh)) : zzCL zs (d + 3) 64 [.ref 23, .int (iI (dd : Int)), .ref 16] (wof gg hh) Q := by
  refine st_X1_holdOn (Nat.le_of_ble_eq_true rfl) (fun R hR => ?_)
  show R 0 [(0, .ref 23), (1, .int (iI (dd : Int))), (2, .ref 16)] [] _
  have loop : ∀ (k i : Nat), i ≤ sn → sn < i + k → (∀ k, k < i → whn k = (dd : Int) → bs (q (one k).toNat) (q (oth k).toNat) = decide (wre k = 1)) → R 2 [(0, .ref 23), (1, .int (iI (dd : Int))), (2, .ref 16), (3, .int (iI (i : Int)))] [] (wof gg hh) := by
    intro k
    induction k with
    | zero => intro i; intros; omega
    | succ k ih =>
      intro i  hi1 hi2 hA
      refine z_iload_n hR dX1_holdOn_2 rfl rfl ?_
      refine z_aload_n hR dX1_holdOn_3 rfl rfl ?_
      refine g_get hR dX1_holdOn_4 zf_1_25 (wk_23 _) (gi hsn) ?_
      refine g_icmp_ge hR (tgt := 53) dX1_holdOn_7 (by decide) (fun c7 => ?_) (fun c7 => ?_)
      · refine g_iconst hR dX1_holdOn_53 ?_
        refine g_zret (b := true) hR dX1_holdOn_54 rfl ?_
        have e : i = sn := by omega
        rw [e] at hA
        exact hQ true ⟨fun _ => hA, fun _ => rfl⟩
      · have hin : i < sn := by omega
        have hwi := hw i hin
        obtain ⟨⟨q1, q2⟩, ⟨q3, q4⟩, q5⟩ := hon i hin
        obtain ⟨o1, ho1⟩ := Int.eq_ofNat_of_zero_le q1
        obtain ⟨o2, ho2⟩ := Int.eq_ofNat_of_zero_le q3
        have hwr : rg (wre i) := by unfold rg; omega
        refine z_aload_n hR dX1_holdOn_10 rfl rfl ?_
        refine g_get hR dX1_holdOn_11 zf_1_18 (wk_23 _) (show _ = some (Value.ref 26) from rfl) ?_
        refine z_iload_n hR dX1_holdOn_14 rfl rfl ?_
        refine g_ialdN hR dX1_holdOn_15 (wk_26 _) (show gg 26 i = whn i by rw [e3]) ?_
        refine z_iload_n hR dX1_holdOn_16 rfl rfl ?_
        refine g_icmp_ne hR (tgt := 47) dX1_holdOn_17 (by decide) (fun c17 => ?_) (fun c17 => ?_)
        · refine g_iinc hR dX1_holdOn_47 rfl rfl (by decide) rfl ?_
          refine z_goto hR (tgt := 2) dX1_holdOn_50 (by decide) ?_
          refine ih (i + 1) (by omega) (by omega) (fun k hk hkd => ?_)
          rcases Nat.lt_or_eq_of_le (Nat.le_of_lt_succ hk) with z | z
          · exact hA k z hkd
          · rw [z] at hkd ⊢
            first | exact absurd hkd c17 | (rw [ho1, ho2, Int.toNat_natCast, Int.toNat_natCast]; rcases q5 with z0 | z0 <;> (rw [z0] at c42 ⊢; cases e : bs (q o1) (q o2) <;> rw [e] at c42 <;> first | rfl | exact absurd c42 (by decide)))
        · refine z_aload_n hR dX1_holdOn_20 rfl rfl ?_
          refine z_aload_n hR dX1_holdOn_21 rfl rfl ?_
          refine g_get hR dX1_holdOn_22 zf_1_9 (wk_23 _) (show _ = some (Value.ref 24) from rfl) ?_
          refine z_iload_n hR dX1_holdOn_25 rfl rfl ?_
          refine g_ialdN hR dX1_holdOn_26 (wk_24 _) (show gg 24 i = (o1 : Int) by rw [e1]; exact ho1) ?_
          refine z_aload_n hR dX1_holdOn_27 rfl rfl ?_
          refine g_get hR dX1_holdOn_28 zf_1_15 (wk_23 _) (show _ = some (Value.ref 25) from rfl) ?_
          refine z_iload_n hR dX1_holdOn_31 rfl rfl ?_
          refine g_ialdN hR dX1_holdOn_32 (wk_25 _) (show gg 25 i = (o2 : Int) by rw [e2]; exact ho2) ?_
          refine g_inv2 hR dX1_holdOn_33 zm_1_35 (by decide) zN_X2_areBeside ((wk_16 _) _) zO_X2_areBeside (Nat.le_of_ble_eq_true rfl) ?_
          refine c_X2_areBeside isW16 (i := o1) (j := o2) (by omega) (by omega) (by rw [show gg (16 + 4) = q from e5]; exact hq o1 (by omega)) (by rw [show gg (16 + 4) = q from e5]; exact hq o2 (by omega)) ?_
          rw [show gg (16 + 4) = q from e5]
          show R 36 _ (.int _ :: _) _
          refine z_aload_n hR dX1_holdOn_36 rfl rfl ?_
          refine g_get hR dX1_holdOn_37 zf_1_21 (wk_23 _) (show _ = some (Value.ref 27) from rfl) ?_
          refine z_iload_n hR dX1_holdOn_40 rfl rfl ?_
          refine g_zaldN hR dX1_holdOn_41 (wk_27 _) (show gg 27 i = wre i by rw [e4]) ?_
          refine g_icmp_eq hR (tgt := 47) dX1_holdOn_42 (by decide) (fun c42 => ?_) (fun c42 => ?_)
          · refine g_iinc hR dX1_holdOn_47 rfl rfl (by decide) rfl ?_
            refine z_goto hR (tgt := 2) dX1_holdOn_50 (by decide) ?_
            refine ih (i + 1) (by omega) (by omega) (fun k hk hkd => ?_)
            rcases Nat.lt_or_eq_of_le (Nat.le_of_lt_succ hk) with z | z
            · exact hA k z hkd
            · rw [z] at hkd ⊢
              first | exact absurd hkd c17 | (rw [ho1, ho2, Int.toNat_natCast, Int.toNat_natCast]; rcases q5 with z0 | z0 <;> (rw [z0] at c42 ⊢; cases e : bs (q o1) (q o2) <;> rw [e] at c42 <;> first | rfl | exact absurd c42 (by decide)))
          · refine g_iconst hR dX1_holdOn_45 ?_
            refine g_zret (b := false) hR dX1_holdOn_46 rfl ?_
            refine hQ false ⟨fun z => absurd z (by decide), fun z => ?_⟩
            have z1 := z i hin c17
            rw [ho1, ho2, Int.toNat_natCast, Int.toNat_natCast] at z1
            rw [z1] at c42
            rcases q5 with z0 | z0 <;> (rw [z0] at c42; exact absurd rfl c42)
  refine g_iconst hR dX1_holdOn_0 ?_
  refine z_istore_n hR dX1_holdOn_1 rfl (by decide) rfl ?_
  exact loop (sn + 1) 0 (by omega) (by omega) (fun k hk => absurd hk (by omega))
theorem hld_congr {T T1 : Nat → FI} {one oth whn wre : FI} {sn n : Nat} (h : ∀ d, eqn n (T d) (T1 d)) (hb : ∀ k, k < sn → (0 ≤ one k ∧ one k < n) ∧ (0 ≤ oth k ∧ oth k < n)) : hld T one oth whn wre sn = hld T1 one oth whn wre sn := by
  have key : ∀ k, k < sn → shk T one oth whn wre k = shk T1 one oth whn wre k := by
    intro k hk
    obtain ⟨q1, q2⟩ := hb k hk
    unfold shk
    rw [h _ (one k).toNat (by omega), h _ (oth k).toNat (by omega)]
  cases a : hld T1 one oth whn wre sn
  · cases b : hld T one oth whn wre sn
    · rfl
    · rw [hld_iff] at b
      have := hld_t (fun k hk => (key k hk) ▸ b k hk)
      rw [a] at this; exact absurd this (by decide)
  · rw [hld_iff] at a
    exact (hld_t (fun k hk => (key k hk).trans (a k hk))).symm
theorem c_X3_shellsWouldHold {zs : zzT} {d : Nat} {Q : zzQ} {g : Nat → Nat → Int} {hh : Int64} {n an : Nat} {pt : Nat → Nat} (hk : WK g 2 n an pt) (hz : zsok zs) {sn : Nat} (hH1 : g 23 4 = (sn : Int)) (hH3 : sn ≤ 8) (hH4 : ∀ k, k < sn → (0 ≤ g 26 k ∧ g 26 k ≤ 20) ∧ (0 ≤ g 24 k ∧ g 24 k < n) ∧ (0 ≤ g 25 k ∧ g 25 k < n) ∧ (g 27 k = 0 ∨ g 27 k = 1)) {i0 p0 : Nat} (hi0 : i0 < n) (hp0 : p0 < 12) {wv : Int} (hwv : -1 ≤ wv ∧ wv ≤ 1) (hQ : ∀ g1, eqS scX g g1 → Q [.int (iI (b2i (hld (trj n (g 4) (g 5) (g 3) pt an wv (g 2 10) (iu (g 6) i0 (p0 : Int))) (g 24) (g 25) (g 26) (g 27) sn)))] (wof g1 hh)) : zzCL zs (d + 5) 62 [.ref 0, .int (iI (i0 : Int)), .int (iI (p0 : Int)), .int (iI wv)] (wof g hh) Q := by
  refine st_X3_shellsWouldHold (Nat.le_of_ble_eq_true rfl) (fun R hR => ?_)
  show R 0 [(0, .ref 0), (1, .int (iI (i0 : Int))), (2, .int (iI (p0 : Int))), (3, .int (iI wv))] [] _
  have hn5 := hk.1.2.1
  have han : an < 32 := Nat.lt_of_lt_of_le hk.2.2.2.1 (Nat.pow_le_pow_right (n := 2) (by decide) hn5)
  refine z_aload_n hR dX3_shellsWouldHold_0 rfl rfl ?_
  refine g_get hR dX3_shellsWouldHold_1 zf_3_40 (wk_0 _) (show _ = some (Value.ref 16) from rfl) ?_
  refine z_aload_n hR dX3_shellsWouldHold_4 rfl rfl ?_
  refine g_get hR dX3_shellsWouldHold_5 zf_3_33 (wk_0 _) (show _ = some (Value.ref 2) from rfl) ?_
  refine g_inv1 hR dX3_shellsWouldHold_8 zm_3_198 (by decide) zN_X2_copy ((wk_16 _) _) zO_X2_copy (Nat.le_of_ble_eq_true rfl) ?_
  refine c_X2_copy isW16 isW2 (by decide) (fun g1 hc => ?_)
  show R 11 _ _ _
  have he := cpd_eqS hc
  obtain ⟨hk1, r2, r3, r1, r4, e8, e9, e10, e11⟩ := WK_cpd hk hc
  have hda := hk1.2.2.2.2.2.1
  have hTok : ∀ i, plok n (trj n (g1 18) (g1 19) (g1 17) pt an wv (g1 16 10) (iu (g1 20) i0 (p0 : Int)) i) := trj_ok (plok_iu hk1.2.1 hp0)
  have hT0 : trj n (g1 18) (g1 19) (g1 17) pt an wv (g1 16 10) (iu (g1 20) i0 (p0 : Int)) 0 = iu (g1 20) i0 (p0 : Int) := rfl
  have hTs : ∀ i : Nat, trj n (g1 18) (g1 19) (g1 17) pt an wv (g1 16 10) (iu (g1 20) i0 (p0 : Int)) (i + 1) = (drf n (g1 18) (g1 19) (g1 17) pt an wv (g1 16 10 + (i : Int)) n (trj n (g1 18) (g1 19) (g1 17) pt an wv (g1 16 10) (iu (g1 20) i0 (p0 : Int)) i)).1 := fun _ => rfl
  have hV : hld (trj n (g 4) (g 5) (g 3) pt an wv (g 2 10) (iu (g 6) i0 (p0 : Int))) (g 24) (g 25) (g 26) (g 27) sn = hld (trj n (g1 18) (g1 19) (g1 17) pt an wv (g1 16 10) (iu (g1 20) i0 (p0 : Int))) (g 24) (g 25) (g 26) (g 27) sn := by
    have hgc := trj_congr (pt := pt) (pt1 := pt) (an := an) (wi := wv) (da := g1 16 10) r2 r3 r1 (fun _ _ => rfl) (pl := iu (g1 20) i0 (p0 : Int)) (pl1 := iu (g 6) i0 (p0 : Int)) (fun j hj => by unfold iu; split; rfl; exact r4 j hj) (plok_iu hk1.2.1 hp0)
    rw [show g 2 10 = g1 16 10 from e10.symm]
    exact hld_congr (fun d j hj => (hgc d j hj).symm) (fun k hk => ⟨(hH4 k hk).2.1, (hH4 k hk).2.2.1⟩)
  generalize trj n (g1 18) (g1 19) (g1 17) pt an wv (g1 16 10) (iu (g1 20) i0 (p0 : Int)) = T at hTok hT0 hTs hV
  have hrow : ∀ (q : FI) (wi b d : Int) (c : Nat), 23 ≤ c → c ≤ 27 → dst g1 16 q (an : Int) wi b d c = g c := fun q wi b d c a1 a2 => by rw [dst_r (by omega) (by omega)]; funext k; exact hc.2.2.2 c k (by omega)
  have ed : g1 = dst g1 16 (g1 20) (an : Int) (g1 16 9) (g1 16 11) (g1 16 10) := by
    have := (dst_self (g := g1) (a := 16)).symm
    rw [show g1 16 8 = (an : Int) from hk1.2.2.1] at this
    exact this
  rw [ed]
  refine z_aload_n hR dX3_shellsWouldHold_11 rfl rfl ?_
  refine g_get hR dX3_shellsWouldHold_12 zf_3_40 (wk_0 _) (show _ = some (Value.ref 16) from rfl) ?_
  refine g_get hR dX3_shellsWouldHold_15 zf_3_121 (wk_16 _) (show _ = some (Value.ref 20) from rfl) ?_
  refine z_iload_n hR dX3_shellsWouldHold_18 rfl rfl ?_
  refine z_iload_n hR dX3_shellsWouldHold_19 rfl rfl ?_
  refine g_iastN hR dX3_shellsWouldHold_20 (wk_20 _) ?_
  rw [dst_p20]
  refine z_aload_n hR dX3_shellsWouldHold_21 rfl rfl ?_
  refine g_get hR dX3_shellsWouldHold_22 zf_3_40 (wk_0 _) (show _ = some (Value.ref 16) from rfl) ?_
  refine z_iload_n hR dX3_shellsWouldHold_25 rfl rfl ?_
  refine g_put hR dX3_shellsWouldHold_26 zf_3_99 (wk_16 _) (Nat.le_of_ble_eq_true rfl) rfl rfl rfl rfl ?_
  rw [dst_9]
  refine z_aload_n hR dX3_shellsWouldHold_29 rfl rfl ?_
  refine g_get hR dX3_shellsWouldHold_30 zf_3_46 (wk_0 _) (show _ = some (Value.ref 23) from rfl) ?_
  refine g_inv0 hR dX3_shellsWouldHold_33 zm_3_261 (by decide) zN_X1_lastDay ((wk_23 _) _) zO_X1_lastDay (Nat.le_of_ble_eq_true rfl) ?_
  refine c_X1_lastDay (sn := sn) (by rw [hrow _ _ _ _ 23 (by omega) (by omega)]; exact hH1) hH3 (by rw [hrow _ _ _ _ 26 (by omega) (by omega)]; exact fun k hk => (hH4 k hk).1) (fun L hLr hL => ?_)
  rw [hrow _ _ _ _ 26 (by omega) (by omega)] at hL
  show R 36 _ (.int _ :: _) _
  refine z_istore hR dX3_shellsWouldHold_36 (by decide) rfl ?_
  refine g_iconst hR dX3_shellsWouldHold_38 ?_
  refine z_istore hR dX3_shellsWouldHold_39 (by decide) rfl ?_
  have loop : ∀ (k i : Nat) (B : Int), i ≤ (L + 1).toNat → (L + 1).toNat < i + k → (∀ k, k < sn → g 26 k < (i : Int) → shk T (g 24) (g 25) (g 26) (g 27) k = true) → R 41 [(0, .ref 0), (1, .int (iI (i0 : Int))), (2, .int (iI (p0 : Int))), (3, .int (iI wv)), (4, .int (iI L)), (5, .int (iI (i : Int)))] [] (wof (dst g1 16 (T i) (an : Int) wv B (g1 16 10 + (i : Int))) hh) := by
    intro k
    induction k with
    | zero => intro i; intros; omega
    | succ k ih =>
      intro i B hi1 hi2 hA
      refine z_iload hR dX3_shellsWouldHold_41 rfl ?_
      refine z_iload hR dX3_shellsWouldHold_43 rfl ?_
      refine g_icmp_gt hR (tgt := 80) dX3_shellsWouldHold_45 (by decide) (fun c45 => ?_) (fun c45 => ?_)
      · refine g_iconst hR dX3_shellsWouldHold_80 ?_
        refine g_zret (b := true) hR dX3_shellsWouldHold_81 rfl ?_
        refine qz (hQ _ (dst_eqS he)) ?_
        rw [hV]
        exact hld_t (fun k hk => hA k hk (by have := hL k hk; omega))
      · refine z_aload_n hR dX3_shellsWouldHold_48 rfl rfl ?_
        refine g_get hR dX3_shellsWouldHold_49 zf_3_46 (wk_0 _) (show _ = some (Value.ref 23) from rfl) ?_
        refine z_iload hR dX3_shellsWouldHold_52 rfl ?_
        refine z_aload_n hR dX3_shellsWouldHold_54 rfl rfl ?_
        refine g_get hR dX3_shellsWouldHold_55 zf_3_40 (wk_0 _) (show _ = some (Value.ref 16) from rfl) ?_
        refine g_inv2 hR dX3_shellsWouldHold_58 zm_3_264 (by decide) zN_X1_holdOn ((wk_23 _) _) zO_X1_holdOn (Nat.le_of_ble_eq_true rfl) ?_
        refine c_X1_holdOn (dd := i) hn5 (by rw [hrow _ _ _ _ 23 (by omega) (by omega)]; exact hH1) hH3 (hrow _ _ _ _ 24 (by omega) (by omega)) (hrow _ _ _ _ 25 (by omega) (by omega)) (hrow _ _ _ _ 26 (by omega) (by omega)) (hrow _ _ _ _ 27 (by omega) (by omega)) (show dst g1 16 (T i) (an : Int) wv B (g1 16 10 + (i : Int)) 20 = T i from dst_4) (fun k hk => (hH4 k hk).1) (fun k hk => (hH4 k hk).2) (hTok i) (by omega) (fun b hb => ?_)
        show R 61 _ (.int _ :: _) _
        refine g_if_neb hR (tgt := 66) dX3_shellsWouldHold_61 (by decide) (fun c61 => ?_) (fun c61 => ?_)
        · refine z_aload_n hR dX3_shellsWouldHold_66 rfl rfl ?_
          refine g_get hR dX3_shellsWouldHold_67 zf_3_40 (wk_0 _) (show _ = some (Value.ref 16) from rfl) ?_
          refine g_inv0 hR dX3_shellsWouldHold_70 zm_3_162 (by decide) zN_X2_drift ((wk_16 _) _) zO_X2_drift (Nat.le_of_ble_eq_true rfl) ?_
          refine c_drift isW16 hk1.1 (hTok i) han hwv (by omega) hz hk1.2.2.2.2.2.2 ?_
          show R 73 _ (.int _ :: _) _
          refine z_pop hR dX3_shellsWouldHold_73 rfl ?_
          refine g_iinc hR dX3_shellsWouldHold_74 rfl rfl (by decide) rfl ?_
          refine z_goto hR (tgt := 41) dX3_shellsWouldHold_77 (by decide) ?_
          have hst := ih (i + 1) (B + (drf n (g1 18) (g1 19) (g1 17) pt an wv (g1 16 10 + (i : Int)) n (T i)).2) (by omega) (by omega) (fun k hk hki => ?_)
          · rw [hTs i, show g1 16 10 + ((i + 1 : Nat) : Int) = g1 16 10 + (i : Int) + 1 by omega] at hst
            exact hst
          · by_cases hd : g 26 k < (i : Int)
            · exact hA k hk hd
            · have hke : g 26 k = (i : Int) := by omega
              have := (hb.mp c61) k hk hke
              unfold shk
              rw [hke, Int.toNat_natCast, this]
              exact beq_self_eq_true _
        · refine g_iconst hR dX3_shellsWouldHold_64 ?_
          refine g_zret (b := false) hR dX3_shellsWouldHold_65 rfl ?_
          refine qz (hQ _ (dst_eqS he)) ?_
          rw [hV]
          cases e : hld T (g 24) (g 25) (g 26) (g 27) sn
          · rfl
          · exfalso
            rw [hld_iff] at e
            have : b = true := hb.mpr (fun k hk hke => by have h0 := e k hk; unfold shk at h0; rw [hke, Int.toNat_natCast] at h0; exact eq_of_beq h0)
            rw [c61] at this; exact absurd this (by decide)
  have hl := loop ((L + 1).toNat + 1) 0 (g1 16 11) (by omega) (by omega) (fun k hk hq => absurd hq (by have := (hH4 k hk).1; omega))
  rw [hT0, show g1 16 10 + ((0 : Nat) : Int) = g1 16 10 by simp] at hl
  exact hl
