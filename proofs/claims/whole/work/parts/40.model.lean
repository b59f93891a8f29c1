theorem nmul (c i : Nat) : (c : Int) * (i : Int) = ((c * i : Nat) : Int) := (Int.natCast_mul c i).symm
theorem nadd (i c : Nat) : (i : Int) + (c : Int) = ((i + c : Nat) : Int) := (Int.natCast_add i c).symm
theorem z_sub {zs : zzT} {CL : zzK} {cc : ByteArray} {o nL : Nat} {rt : Option FieldType} {Q : zzQ} {R : zzS} {pc : Nat} {ls ls1 : zzL} {st : List Value} {w : zzW} (h : zzC zs CL cc o nL rt Q R) (ks : List Nat) (hl : lv_pick ls ks = ls1) (kk : R pc ls1 st w) : R pc ls st w :=
  z_weak h (fun q hq => by
    rw [← hl] at hq
    obtain ⟨k, -, hk⟩ := List.mem_filterMap.mp hq
    exact List.mem_of_getElem? hk) kk
def kdM (g : Nat → Nat → Int) : FI := fun j => g 42 (4 * j)
def szM (g : Nat → Nat → Int) : FI := fun j => g 42 (4 * j + 1)
/-- what a drift needs of the model -/
def MD (g : Nat → Nat → Int) (n an : Nat) : Prop := g 39 8 = (n : Int) ∧ n ≤ 5 ∧ (∀ j, j < 12 → -1 ≤ g 41 j ∧ g 41 j ≤ 1) ∧ (∀ j, j < n → 0 ≤ g 42 (4 * j) ∧ g 42 (4 * j) ≤ 4) ∧ (∀ j, j < n → 1 ≤ g 42 (4 * j + 1) ∧ g 42 (4 * j + 1) ≤ 9) ∧ plok n (g 44) ∧ g 39 13 = (an : Int) ∧ an < 32 ∧ (-1 ≤ g 39 14 ∧ g 39 14 ≤ 1) ∧ (0 ≤ g 39 15 ∧ g 39 15 < 2147483648)
theorem c_X4_in {zs : zzT} {d : Nat} {Q : zzQ} {w : zzW} {v lo hi : Int} (hv : rg v) (hlo : rg lo) (hhi : rg hi) (hQ : Q [.int (iI (b2i (decide (lo ≤ v ∧ v ≤ hi))))] w) : zzCL zs (d + 1) 77 [.long (lI v), .long (lI lo), .long (lI hi)] w Q := by
  refine st_X4_in (Nat.le_of_ble_eq_true rfl) (fun R hR => ?_)
  show R 0 [(0, .long (lI v)), (2, .long (lI lo)), (4, .long (lI hi))] [] _
  refine z_lload_n hR dX4_in_0 rfl rfl ?_
  refine z_lload_n hR dX4_in_1 rfl rfl ?_
  refine g_lcmp hR dX4_in_2 rfl ?_
  generalize e1 : (if lo < v then (1 : Int) else if v = lo then 0 else -1) = t1
  have ht1 : (t1 = 1 ∧ lo < v) ∨ (t1 = 0 ∧ v = lo) ∨ (t1 = -1 ∧ v < lo) := by rw [← e1]; split <;> (try split) <;> omega
  refine g_if_lt hR (tgt := 17) dX4_in_3 (by decide) (fun c3 => ?_) (fun c3 => ?_)
  · refine g_iconst hR dX4_in_17 ?_
    refine g_zret (b := false) hR dX4_in_18 rfl ?_
    refine qz hQ ?_
    simp only [eq_comm (a := true), eq_comm (a := false), decide_eq_true_eq, decide_eq_false_iff_not]
    omega
  · refine z_lload_n hR dX4_in_6 rfl rfl ?_
    refine z_lload hR dX4_in_7 rfl ?_
    refine g_lcmp hR dX4_in_9 rfl ?_
    generalize e2 : (if hi < v then (1 : Int) else if v = hi then 0 else -1) = t2
    have ht2 : (t2 = 1 ∧ hi < v) ∨ (t2 = 0 ∧ v = hi) ∨ (t2 = -1 ∧ v < hi) := by rw [← e2]; split <;> (try split) <;> omega
    refine g_if_gt hR (tgt := 17) dX4_in_10 (by decide) (fun c10 => ?_) (fun c10 => ?_)
    · refine g_iconst hR dX4_in_17 ?_
      refine g_zret (b := false) hR dX4_in_18 rfl ?_
      refine qz hQ ?_
      simp only [eq_comm (a := true), eq_comm (a := false), decide_eq_true_eq, decide_eq_false_iff_not]
      omega
    · refine g_iconst hR dX4_in_13 ?_
      refine z_goto hR (tgt := 18) dX4_in_14 (by decide) ?_
      refine g_zret (b := true) hR dX4_in_18 rfl ?_
      refine qz hQ ?_
      simp only [eq_comm (a := true), eq_comm (a := false), decide_eq_true_eq, decide_eq_false_iff_not]
      omega
theorem c_X4_areBeside {zs : zzT} {d : Nat} {Q : zzQ} {w : zzW} {x y : Int} (hx : 0 ≤ x ∧ x < 12) (hy : 0 ≤ y ∧ y < 12) (hQ : Q [.int (iI (b2i (bs x y)))] w) : zzCL zs (d + 1) 95 [.int (iI x), .int (iI y)] w Q := by
  refine st_X4_areBeside (Nat.le_of_ble_eq_true rfl) (fun R hR => ?_)
  show R 0 [(0, .int (iI x)), (1, .int (iI y))] [] _
  refine z_iload_n hR dX4_areBeside_0 rfl rfl ?_
  refine g_iconst hR dX4_areBeside_1 ?_
  refine g_iadd hR dX4_areBeside_2 rfl ?_
  refine g_bipush hR dX4_areBeside_3 ?_
  refine g_irem hR dX4_areBeside_5 rfl ?_
  refine z_iload_n hR dX4_areBeside_6 rfl rfl ?_
  refine g_icmp_eq hR (tgt := 20) dX4_areBeside_7 (by decide) (fun c7 => ?_) (fun c7 => ?_)
  · refine g_iconst hR dX4_areBeside_20 ?_
    refine z_goto hR (tgt := 25) dX4_areBeside_21 (by decide) ?_
    refine g_zret (b := true) hR dX4_areBeside_25 rfl ?_
    refine qz hQ ?_
    simp [bs, *]
  · refine z_iload_n hR dX4_areBeside_10 rfl rfl ?_
    refine g_iconst hR dX4_areBeside_11 ?_
    refine g_iadd hR dX4_areBeside_12 rfl ?_
    refine g_bipush hR dX4_areBeside_13 ?_
    refine g_irem hR dX4_areBeside_15 rfl ?_
    refine z_iload_n hR dX4_areBeside_16 rfl rfl ?_
    refine g_icmp_ne hR (tgt := 24) dX4_areBeside_17 (by decide) (fun c17 => ?_) (fun c17 => ?_)
    · refine g_iconst hR dX4_areBeside_24 ?_
      refine g_zret (b := false) hR dX4_areBeside_25 rfl ?_
      refine qz hQ ?_
      simp [bs, *]
    · refine g_iconst hR dX4_areBeside_20 ?_
      refine z_goto hR (tgt := 25) dX4_areBeside_21 (by decide) ?_
      refine g_zret (b := true) hR dX4_areBeside_25 rfl ?_
      refine qz hQ ?_
      simp [bs, *]
theorem c_X4_pushOf {zs : zzT} {d : Nat} {Q : zzQ} {g : Nat → Nat → Int} {hh : Int64} {n an : Nat} (hw : MD g n an) {i : Nat} (hi : i < n) (hQ : Q [.int (iI (psh (kdM g) (g 41) an (g 39 14) (g 39 15) (g 44) i))] (wof g hh)) : zzCL zs (d + 1) 91 [.ref 39, .int (iI (i : Int))] (wof g hh) Q := by
  refine st_X4_pushOf (Nat.le_of_ble_eq_true rfl) (fun R hR => ?_)
  show R 0 [(0, .ref 39), (1, .int (iI (i : Int)))] [] _
  obtain ⟨hn, hn5, hcu, hkd, hsz, hpl, han, han2, hwi, hda⟩ := hw
  have hki := hkd i hi
  have hpi := hpl i hi
  have hci := hcu (g 44 i).toNat (by omega)
  refine z_aload_n hR dX4_pushOf_0 rfl rfl ?_
  refine g_get hR dX4_pushOf_1 zf_4_13 (wk_39 _) rfl ?_
  refine z_aload_n hR dX4_pushOf_4 rfl rfl ?_
  refine g_get hR dX4_pushOf_5 zf_4_22 (wk_39 _) rfl ?_
  refine z_iload_n hR dX4_pushOf_8 rfl rfl ?_
  refine g_ialdN hR dX4_pushOf_9 (wk_44 _) rfl ?_
  refine g_iald hR dX4_pushOf_10 (wk_41 _) rfl ?_
  refine z_istore_n hR dX4_pushOf_11 rfl (by decide) rfl ?_
  refine z_aload_n hR dX4_pushOf_12 rfl rfl ?_
  refine g_get hR dX4_pushOf_13 zf_4_107 (wk_39 _) (gi han) ?_
  refine z_iload_n hR dX4_pushOf_16 rfl rfl ?_
  refine g_ishrN hR dX4_pushOf_17 rfl ?_
  refine g_iconst hR dX4_pushOf_18 ?_
  refine g_iand1 hR dX4_pushOf_19 (tb_int _ _) ?_
  refine g_iconst hR dX4_pushOf_20 ?_
  refine g_icmp_neb hR (tgt := 26) dX4_pushOf_21 (by decide) (fun c21 => ?_) (fun c21 => ?_)
  · refine z_aload_n hR dX4_pushOf_26 rfl rfl ?_
    refine g_get hR dX4_pushOf_27 zf_4_16 (wk_39 _) rfl ?_
    refine g_iconst hR dX4_pushOf_30 ?_
    refine z_iload_n hR dX4_pushOf_31 rfl rfl ?_
    refine g_imul hR dX4_pushOf_32 (nmul 4 _) ?_
    refine g_ialdN hR dX4_pushOf_33 (wk_42 _) rfl ?_
    have hk : g 42 (4 * i) = 0 ∨ g 42 (4 * i) = 1 ∨ g 42 (4 * i) = 2 ∨ g 42 (4 * i) = 3 ∨ g 42 (4 * i) = 4 := by omega
    rcases hk with hk | hk | hk | hk | hk <;> rw [hk]
    · refine z_tabIn hR (off := 30) (tgt := 64) dX4_pushOf_34 (by decide) (by decide) (by decide) (by decide) ?_
      refine z_iload_n hR dX4_pushOf_64 rfl rfl ?_
      refine g_iret hR dX4_pushOf_65 rfl ?_
      refine qi hQ ?_
      unfold psh
      simp [c21, kdM, hk, *]
    · refine z_tabIn hR (off := 32) (tgt := 66) dX4_pushOf_34 (by decide) (by decide) (by decide) (by decide) ?_
      refine g_iconst hR dX4_pushOf_66 ?_
      refine g_iret hR dX4_pushOf_67 rfl ?_
      refine qi hQ ?_
      unfold psh
      simp [c21, kdM, hk, *]
    · refine z_tabIn hR (off := 34) (tgt := 68) dX4_pushOf_34 (by decide) (by decide) (by decide) (by decide) ?_
      refine z_iload_n hR dX4_pushOf_68 rfl rfl ?_
      refine z_aload_n hR dX4_pushOf_69 rfl rfl ?_
      refine g_get hR dX4_pushOf_70 zf_4_110 (wk_39 _) rfl ?_
      refine g_iadd hR dX4_pushOf_73 rfl ?_
      refine g_iret hR dX4_pushOf_74 rfl ?_
      refine qi hQ ?_
      unfold psh
      simp [c21, kdM, hk, *]
    · refine z_tabIn hR (off := 41) (tgt := 75) dX4_pushOf_34 (by decide) (by decide) (by decide) (by decide) ?_
      refine z_aload_n hR dX4_pushOf_75 rfl rfl ?_
      refine g_get hR dX4_pushOf_76 zf_4_113 (wk_39 _) rfl ?_
      refine g_iconst hR dX4_pushOf_79 ?_
      refine g_irem hR dX4_pushOf_80 rfl ?_
      refine g_if_ne hR (tgt := 89) dX4_pushOf_81 (by decide) (fun c81 => ?_) (fun c81 => ?_)
      · refine z_iload_n hR dX4_pushOf_89 rfl rfl ?_
        refine g_iret hR dX4_pushOf_90 rfl ?_
        refine qi hQ ?_
        unfold psh
        simp [c21, kdM, hk, *]
      · refine z_iload_n hR dX4_pushOf_84 rfl rfl ?_
        refine g_ineg hR dX4_pushOf_85 rfl ?_
        refine z_goto hR (tgt := 90) dX4_pushOf_86 (by decide) ?_
        refine g_iret hR dX4_pushOf_90 rfl ?_
        refine qi hQ ?_
        unfold psh
        simp [c21, kdM, hk, *]
    · refine z_tabOut hR (tgt := 91) dX4_pushOf_34 (Or.inr (by decide)) (by decide) ?_
      refine z_iload_n hR dX4_pushOf_91 rfl rfl ?_
      refine g_iconst hR dX4_pushOf_92 ?_
      refine z_aload_n hR dX4_pushOf_93 rfl rfl ?_
      refine g_get hR dX4_pushOf_94 zf_4_110 (wk_39 _) rfl ?_
      refine g_imul hR dX4_pushOf_97 rfl ?_
      refine g_iadd hR dX4_pushOf_98 rfl ?_
      refine g_iret hR dX4_pushOf_99 rfl ?_
      refine qi hQ ?_
      unfold psh
      simp [c21, kdM, hk, *]
  · refine g_iconst hR dX4_pushOf_24 ?_
    refine g_iret hR dX4_pushOf_25 rfl ?_
    exact qi hQ (by unfold psh; rw [if_pos c21])
