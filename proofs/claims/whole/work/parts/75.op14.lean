/-- how many lead below k -/
def cld (pt : Nat → Nat) : Nat → Int
  | 0 => 0
  | k + 1 => cld pt k + (if lead pt k = true then 1 else 0)
theorem cld_rg (pt : Nat → Nat) : ∀ k : Nat, 0 ≤ cld pt k ∧ cld pt k ≤ k
  | 0 => by simp [cld]
  | k + 1 => by
    have := cld_rg pt k
    unfold cld
    split <;> omega
theorem c_X2_parties {zs : zzT} {d : Nat} {Q : zzQ} {g : Nat → Nat → Int} {hh : Int64} {a : Nat} (ha : isW a) {pt : Nat → Nat} {n : Nat} (hn : g a 6 = (n : Int)) (hn5 : n ≤ 5) (hpt : ∀ j, j < n → g (a + 6) j = ((pt j : Nat) : Int)) (hQ : Q [.int (iI (cld pt n))] (wof g hh)) : zzCL zs (d + 2) 72 [.ref a] (wof g hh) Q := by
  refine st_X2_parties (Nat.le_of_ble_eq_true rfl) (fun R hR => ?_)
  show R 0 [(0, .ref a)] [] _
  have loop : ∀ (k i : Nat), i ≤ n → n < i + k → R 4 [(0, .ref a), (1, .int (iI (cld pt i))), (2, .int (iI (i : Int)))] [] (wof g hh) := by
    intro k
    induction k with
    | zero => intro i; intros; omega
    | succ k ih =>
      intro i  hi1 hi2 
      refine z_iload_n hR dX2_parties_4 rfl rfl ?_
      refine z_aload_n hR dX2_parties_5 rfl rfl ?_
      refine g_get hR dX2_parties_6 zf_2_30 (wW_0 ha _) (gi hn) ?_
      refine g_icmp_ge hR (tgt := 34) dX2_parties_9 (by decide) (fun c9 => ?_) (fun c9 => ?_)
      · refine z_iload_n hR dX2_parties_34 rfl rfl ?_
        refine g_iret hR dX2_parties_35 rfl ?_
        have e : i = n := by omega
        subst e
        exact hQ
      · have hin : i < n := by omega
        refine z_iload_n hR dX2_parties_12 rfl rfl ?_
        refine z_aload_n hR dX2_parties_13 rfl rfl ?_
        refine z_iload_n hR dX2_parties_14 rfl rfl ?_
        refine g_inv1 hR dX2_parties_15 zm_2_84 (by decide) zN_X2_leads ((wW_0 ha _) _) zO_X2_leads (Nat.le_of_ble_eq_true rfl) ?_
        refine c_X2_leads (pt := pt) ha (by omega) (hpt i hin) ?_
        show R 18 _ (.int _ :: _) _
        refine g_if_eqb hR (tgt := 25) dX2_parties_18 (by decide) (fun c18 => ?_) (fun c18 => ?_)
        · refine g_iconst hR dX2_parties_25 ?_
          refine g_iadd hR dX2_parties_26 rfl ?_
          refine z_istore_n hR dX2_parties_27 rfl (by decide) rfl ?_
          refine g_iinc hR dX2_parties_28 rfl rfl (by decide) rfl ?_
          refine z_goto hR (tgt := 4) dX2_parties_31 (by decide) ?_
          have hst := ih (i + 1) (by omega) (by omega)
          rw [cld, c18] at hst
          exact hst
        · refine g_iconst hR dX2_parties_21 ?_
          refine z_goto hR (tgt := 26) dX2_parties_22 (by decide) ?_
          refine g_iadd hR dX2_parties_26 rfl ?_
          refine z_istore_n hR dX2_parties_27 rfl (by decide) rfl ?_
          refine g_iinc hR dX2_parties_28 rfl rfl (by decide) rfl ?_
          refine z_goto hR (tgt := 4) dX2_parties_31 (by decide) ?_
          have hst := ih (i + 1) (by omega) (by omega)
          rw [cld, c18] at hst
          exact hst
  refine g_iconst hR dX2_parties_0 ?_
  refine z_istore_n hR dX2_parties_1 rfl (by decide) rfl ?_
  refine g_iconst hR dX2_parties_2 ?_
  refine z_istore_n hR dX2_parties_3 rfl (by decide) rfl ?_
  exact loop (n + 1) 0 (by omega) (by omega)
theorem c_X4_partyMany {zs : zzT} {d : Nat} {Q : zzQ} {g : Nat → Nat → Int} {hh : Int64} {m n : Nat} {ea eb : Nat → Nat} (hr : MR g m n ea eb) (hn : g 39 8 = (n : Int)) (hQ : Q [.int (iI (cld (pby ea eb lfa m) n))] (wof g hh)) : zzCL zs (d + 4) 131 [.ref 39] (wof g hh) Q := by
  refine st_X4_partyMany (Nat.le_of_ble_eq_true rfl) (fun R hR => ?_)
  show R 0 [(0, .ref 39)] [] _
  have hn5 := hr.2.2.1
  have loop : ∀ (k i : Nat), i ≤ n → n < i + k → R 4 [(0, .ref 39), (1, .int (iI (cld (pby ea eb lfa m) i))), (2, .int (iI (i : Int)))] [] (wof g hh) := by
    intro k
    induction k with
    | zero => intro i; intros; omega
    | succ k ih =>
      intro i  hi1 hi2 
      refine z_iload_n hR dX4_partyMany_4 rfl rfl ?_
      refine z_aload_n hR dX4_partyMany_5 rfl rfl ?_
      refine g_get hR dX4_partyMany_6 zf_4_76 (wk_39 _) (gi hn) ?_
      refine g_icmp_ge hR (tgt := 34) dX4_partyMany_9 (by decide) (fun c9 => ?_) (fun c9 => ?_)
      · refine z_iload_n hR dX4_partyMany_34 rfl rfl ?_
        refine g_iret hR dX4_partyMany_35 rfl ?_
        have e : i = n := by omega
        subst e
        exact hQ
      · have hin : i < n := by omega
        refine z_iload_n hR dX4_partyMany_12 rfl rfl ?_
        refine z_aload_n hR dX4_partyMany_13 rfl rfl ?_
        refine z_iload_n hR dX4_partyMany_14 rfl rfl ?_
        refine g_inv1 hR dX4_partyMany_15 zm_4_126 (by decide) zN_X4_isFirst ((wk_39 _) _) zO_X4_isFirst (Nat.le_of_ble_eq_true rfl) ?_
        refine c_X4_isFirst hr hin ?_
        show R 18 _ (.int _ :: _) _
        refine g_if_eqb hR (tgt := 25) dX4_partyMany_18 (by decide) (fun c18 => ?_) (fun c18 => ?_)
        · refine g_iconst hR dX4_partyMany_25 ?_
          refine g_iadd hR dX4_partyMany_26 rfl ?_
          refine z_istore_n hR dX4_partyMany_27 rfl (by decide) rfl ?_
          refine g_iinc hR dX4_partyMany_28 rfl rfl (by decide) rfl ?_
          refine z_goto hR (tgt := 4) dX4_partyMany_31 (by decide) ?_
          have hst := ih (i + 1) (by omega) (by omega)
          rw [cld, c18] at hst
          exact hst
        · refine g_iconst hR dX4_partyMany_21 ?_
          refine z_goto hR (tgt := 26) dX4_partyMany_22 (by decide) ?_
          refine g_iadd hR dX4_partyMany_26 rfl ?_
          refine z_istore_n hR dX4_partyMany_27 rfl (by decide) rfl ?_
          refine g_iinc hR dX4_partyMany_28 rfl rfl (by decide) rfl ?_
          refine z_goto hR (tgt := 4) dX4_partyMany_31 (by decide) ?_
          have hst := ih (i + 1) (by omega) (by omega)
          rw [cld, c18] at hst
          exact hst
  refine g_iconst hR dX4_partyMany_0 ?_
  refine z_istore_n hR dX4_partyMany_1 rfl (by decide) rfl ?_
  refine g_iconst hR dX4_partyMany_2 ?_
  refine z_istore_n hR dX4_partyMany_3 rfl (by decide) rfl ?_
  exact loop (n + 1) 0 (by omega) (by omega)
def cnX (g : Nat → Nat → Int) (n : Nat) (pt : Nat → Nat) (w : Int) : Int := if w = 0 then (if g 0 2 = 0 then 0 else 12) else if w = 1 then cnz (g 3) 12 else if w = 2 then (n : Int) else if w = 3 then g 2 7 else if w = 4 then cld pt n else if w = 5 then g 2 10 else if w = 6 then g 2 11 else if w = 7 then g 2 9 + 1 else if w = 8 then g 23 4 else if w = 9 then g 0 1 else if w = 10 then g 0 4 else g 0 5
def cnM (g : Nat → Nat → Int) (n : Nat) (pt : Nat → Nat) (w : Int) : Int := if w = 0 then (if g 39 2 = 0 then 0 else 12) else if w = 1 then cnz (g 41) 12 else if w = 2 then (n : Int) else if w = 3 then g 39 9 else if w = 4 then cld pt n else if w = 5 then g 39 4 else if w = 6 then g 39 5 else if w = 7 then g 39 3 + 1 else if w = 8 then g 39 22 else if w = 9 then g 39 1 else if w = 10 then g 39 6 else g 39 16
theorem c_X3_count {zs : zzT} {d : Nat} {Q : zzQ} {g : Nat → Nat → Int} {hh : Int64} (hs : g 0 2 = 0 ∨ g 0 2 = 1) {pt : Nat → Nat} {n : Nat} (hn : g 2 6 = (n : Int)) (hn5 : n ≤ 5) (hcu : ∀ j, j < 12 → -1 ≤ g 3 j ∧ g 3 j ≤ 1) (hpt : ∀ j, j < n → g 8 j = ((pt j : Nat) : Int)) {v : Int} (hv : rg v) (h1 : ¬ (0 ≤ v ∧ v < 12) → Q [.int (iI (-102))] (wof g hh)) (h2 : 0 ≤ v ∧ v < 12 → Q [.int (iI (cnX g n pt v))] (wof g hh)) : zzCL zs (d + 3) 71 [.ref 0, .int (iI v)] (wof g hh) Q := by
  refine st_X3_count (Nat.le_of_ble_eq_true rfl) (fun R hR => ?_)
  show R 0 [(0, .ref 0), (1, .int (iI v))] [] _
  rcases Classical.em (0 ≤ v ∧ v < 12) with hw8 | hw8
  · refine z_iload_n hR dX3_count_0 rfl rfl ?_
    have hsw : v = 0 ∨ v = 1 ∨ v = 2 ∨ v = 3 ∨ v = 4 ∨ v = 5 ∨ v = 6 ∨ v = 7 ∨ v = 8 ∨ v = 9 ∨ v = 10 ∨ v = 11 := by omega
    rcases hsw with rfl | rfl | rfl | rfl | rfl | rfl | rfl | rfl | rfl | rfl | rfl | rfl
    · refine z_tabIn hR (off := 63) (tgt := 64) dX3_count_1 (by decide) (by decide) (by decide) (by decide) ?_
      refine z_aload_n hR dX3_count_64 rfl rfl ?_
      refine g_get hR dX3_count_65 zf_3_17 (wk_0 _) rfl ?_
      refine g_if_eq hR (tgt := 76) dX3_count_68 (by decide) (fun c68 => ?_) (fun c68 => ?_)
      · refine g_iconst hR dX3_count_76 ?_
        refine g_iret hR dX3_count_77 rfl ?_
        have hq := h2 (by omega)
        rw [cnX, if_pos rfl] at hq
        first | (rw [if_pos c68] at hq; exact hq) | (rw [if_neg c68] at hq; exact hq)
      · refine g_bipush hR dX3_count_71 ?_
        refine z_goto hR (tgt := 77) dX3_count_73 (by decide) ?_
        refine g_iret hR dX3_count_77 rfl ?_
        have hq := h2 (by omega)
        rw [cnX, if_pos rfl] at hq
        first | (rw [if_pos c68] at hq; exact hq) | (rw [if_neg c68] at hq; exact hq)
    · refine z_tabIn hR (off := 77) (tgt := 78) dX3_count_1 (by decide) (by decide) (by decide) (by decide) ?_
      refine z_aload_n hR dX3_count_78 rfl rfl ?_
      refine g_get hR dX3_count_79 zf_3_33 (wk_0 _) (show _ = some (Value.ref 2) from rfl) ?_
      refine g_inv0 hR dX3_count_82 zm_3_90 (by decide) zN_X2_currents ((wk_2 _) _) zO_X2_currents (Nat.le_of_ble_eq_true rfl) ?_
      refine c_X2_currents isW2 hcu ?_
      show R 85 _ (.int _ :: _) _
      refine g_iret hR dX3_count_85 rfl ?_
      exact h2 (by omega)
    · refine z_tabIn hR (off := 85) (tgt := 86) dX3_count_1 (by decide) (by decide) (by decide) (by decide) ?_
      refine z_aload_n hR dX3_count_86 rfl rfl ?_
      refine g_get hR dX3_count_87 zf_3_33 (wk_0 _) (show _ = some (Value.ref 2) from rfl) ?_
      refine g_get hR dX3_count_90 zf_3_105 (wk_2 _) (gi hn) ?_
      refine g_iret hR dX3_count_93 rfl ?_
      exact h2 (by omega)
    · refine z_tabIn hR (off := 93) (tgt := 94) dX3_count_1 (by decide) (by decide) (by decide) (by decide) ?_
      refine z_aload_n hR dX3_count_94 rfl rfl ?_
      refine g_get hR dX3_count_95 zf_3_33 (wk_0 _) (show _ = some (Value.ref 2) from rfl) ?_
      refine g_get hR dX3_count_98 zf_3_152 (wk_2 _) rfl ?_
      refine g_iret hR dX3_count_101 rfl ?_
      exact h2 (by omega)
    · refine z_tabIn hR (off := 101) (tgt := 102) dX3_count_1 (by decide) (by decide) (by decide) (by decide) ?_
      refine z_aload_n hR dX3_count_102 rfl rfl ?_
      refine g_get hR dX3_count_103 zf_3_33 (wk_0 _) (show _ = some (Value.ref 2) from rfl) ?_
      refine g_inv0 hR dX3_count_106 zm_3_214 (by decide) zN_X2_parties ((wk_2 _) _) zO_X2_parties (Nat.le_of_ble_eq_true rfl) ?_
      refine c_X2_parties isW2 hn hn5 hpt ?_
      show R 109 _ (.int _ :: _) _
      refine g_iret hR dX3_count_109 rfl ?_
      exact h2 (by omega)
    · refine z_tabIn hR (off := 109) (tgt := 110) dX3_count_1 (by decide) (by decide) (by decide) (by decide) ?_
      refine z_aload_n hR dX3_count_110 rfl rfl ?_
      refine g_get hR dX3_count_111 zf_3_33 (wk_0 _) (show _ = some (Value.ref 2) from rfl) ?_
      refine g_get hR dX3_count_114 zf_3_211 (wk_2 _) rfl ?_
      refine g_iret hR dX3_count_117 rfl ?_
      exact h2 (by omega)
    · refine z_tabIn hR (off := 117) (tgt := 118) dX3_count_1 (by decide) (by decide) (by decide) (by decide) ?_
      refine z_aload_n hR dX3_count_118 rfl rfl ?_
      refine g_get hR dX3_count_119 zf_3_33 (wk_0 _) (show _ = some (Value.ref 2) from rfl) ?_
      refine g_get hR dX3_count_122 zf_3_217 (wk_2 _) rfl ?_
      refine g_iret hR dX3_count_125 rfl ?_
      exact h2 (by omega)
    · refine z_tabIn hR (off := 125) (tgt := 126) dX3_count_1 (by decide) (by decide) (by decide) (by decide) ?_
      refine z_aload_n hR dX3_count_126 rfl rfl ?_
      refine g_get hR dX3_count_127 zf_3_33 (wk_0 _) (show _ = some (Value.ref 2) from rfl) ?_
      refine g_get hR dX3_count_130 zf_3_99 (wk_2 _) rfl ?_
      refine g_iconst hR dX3_count_133 ?_
      refine g_iadd hR dX3_count_134 rfl ?_
      refine g_iret hR dX3_count_135 rfl ?_
      exact h2 (by omega)
    · refine z_tabIn hR (off := 135) (tgt := 136) dX3_count_1 (by decide) (by decide) (by decide) (by decide) ?_
      refine z_aload_n hR dX3_count_136 rfl rfl ?_
      refine g_get hR dX3_count_137 zf_3_46 (wk_0 _) (show _ = some (Value.ref 23) from rfl) ?_
      refine g_get hR dX3_count_140 zf_3_87 (wk_23 _) rfl ?_
      refine g_iret hR dX3_count_143 rfl ?_
      exact h2 (by omega)
    · refine z_tabIn hR (off := 143) (tgt := 144) dX3_count_1 (by decide) (by decide) (by decide) (by decide) ?_
      refine z_aload_n hR dX3_count_144 rfl rfl ?_
      refine g_get hR dX3_count_145 zf_3_13 (wk_0 _) rfl ?_
      refine g_iret hR dX3_count_148 rfl ?_
      exact h2 (by omega)
    · refine z_tabIn hR (off := 148) (tgt := 149) dX3_count_1 (by decide) (by decide) (by decide) (by decide) ?_
      refine z_aload_n hR dX3_count_149 rfl rfl ?_
      refine g_get hR dX3_count_150 zf_3_24 (wk_0 _) rfl ?_
      refine g_iret hR dX3_count_153 rfl ?_
      exact h2 (by omega)
    · refine z_tabIn hR (off := 153) (tgt := 154) dX3_count_1 (by decide) (by decide) (by decide) (by decide) ?_
      refine z_aload_n hR dX3_count_154 rfl rfl ?_
      refine g_get hR dX3_count_155 zf_3_27 (wk_0 _) rfl ?_
      refine g_iret hR dX3_count_158 rfl ?_
      exact h2 (by omega)
  · refine z_iload_n hR dX3_count_0 rfl rfl ?_
    refine z_tabOut hR (tgt := 159) dX3_count_1 (by rw [toInt_iI hv]; omega) (by decide) ?_
    refine g_bipush hR dX3_count_159 ?_
    refine g_iret hR dX3_count_161 rfl ?_
    exact h1 hw8
theorem c_X4_countOf {zs : zzT} {d : Nat} {Q : zzQ} {g : Nat → Nat → Int} {hh : Int64} (hs : g 39 2 = 0 ∨ g 39 2 = 1) {m n : Nat} {ea eb : Nat → Nat} (hr : MR g m n ea eb) (hn : g 39 8 = (n : Int)) (hcu : ∀ j, j < 12 → -1 ≤ g 41 j ∧ g 41 j ≤ 1) {v : Int} (hv : rg v) (h1 : ¬ (0 ≤ v ∧ v < 12) → Q [.int (iI (-102))] (wof g hh)) (h2 : 0 ≤ v ∧ v < 12 → Q [.int (iI (cnM g n (pby ea eb lfa m) v))] (wof g hh)) : zzCL zs (d + 5) 130 [.ref 39, .int (iI v)] (wof g hh) Q := by
  refine st_X4_countOf (Nat.le_of_ble_eq_true rfl) (fun R hR => ?_)
  show R 0 [(0, .ref 39), (1, .int (iI v))] [] _
  have hn5 := hr.2.2.1
  rcases Classical.em (0 ≤ v ∧ v < 12) with hw8 | hw8
  · refine z_iload_n hR dX4_countOf_0 rfl rfl ?_
    have hsw : v = 0 ∨ v = 1 ∨ v = 2 ∨ v = 3 ∨ v = 4 ∨ v = 5 ∨ v = 6 ∨ v = 7 ∨ v = 8 ∨ v = 9 ∨ v = 10 ∨ v = 11 := by omega
    rcases hsw with rfl | rfl | rfl | rfl | rfl | rfl | rfl | rfl | rfl | rfl | rfl | rfl
    · refine z_tabIn hR (off := 63) (tgt := 64) dX4_countOf_1 (by decide) (by decide) (by decide) (by decide) ?_
      refine z_aload_n hR dX4_countOf_64 rfl rfl ?_
      refine g_get hR dX4_countOf_65 zf_4_63 (wk_39 _) rfl ?_
      refine g_if_eq hR (tgt := 76) dX4_countOf_68 (by decide) (fun c68 => ?_) (fun c68 => ?_)
      · refine g_iconst hR dX4_countOf_76 ?_
        refine g_iret hR dX4_countOf_77 rfl ?_
        have hq := h2 (by omega)
        rw [cnM, if_pos rfl] at hq
        first | (rw [if_pos c68] at hq; exact hq) | (rw [if_neg c68] at hq; exact hq)
      · refine g_bipush hR dX4_countOf_71 ?_
        refine z_goto hR (tgt := 77) dX4_countOf_73 (by decide) ?_
        refine g_iret hR dX4_countOf_77 rfl ?_
        have hq := h2 (by omega)
        rw [cnM, if_pos rfl] at hq
        first | (rw [if_pos c68] at hq; exact hq) | (rw [if_neg c68] at hq; exact hq)
    · refine z_tabIn hR (off := 77) (tgt := 78) dX4_countOf_1 (by decide) (by decide) (by decide) (by decide) ?_
      refine z_aload_n hR dX4_countOf_78 rfl rfl ?_
      refine g_inv0 hR dX4_countOf_79 zm_4_88 (by decide) zN_X4_currentMany ((wk_39 _) _) zO_X4_currentMany (Nat.le_of_ble_eq_true rfl) ?_
      refine c_X4_currentMany hcu ?_
      show R 82 _ (.int _ :: _) _
      refine g_iret hR dX4_countOf_82 rfl ?_
      exact h2 (by omega)
    · refine z_tabIn hR (off := 82) (tgt := 83) dX4_countOf_1 (by decide) (by decide) (by decide) (by decide) ?_
      refine z_aload_n hR dX4_countOf_83 rfl rfl ?_
      refine g_get hR dX4_countOf_84 zf_4_76 (wk_39 _) (gi hn) ?_
      refine g_iret hR dX4_countOf_87 rfl ?_
      exact h2 (by omega)
    · refine z_tabIn hR (off := 87) (tgt := 88) dX4_countOf_1 (by decide) (by decide) (by decide) (by decide) ?_
      refine z_aload_n hR dX4_countOf_88 rfl rfl ?_
      refine g_get hR dX4_countOf_89 zf_4_79 (wk_39 _) rfl ?_
      refine g_iret hR dX4_countOf_92 rfl ?_
      exact h2 (by omega)
    · refine z_tabIn hR (off := 92) (tgt := 93) dX4_countOf_1 (by decide) (by decide) (by decide) (by decide) ?_
      refine z_aload_n hR dX4_countOf_93 rfl rfl ?_
      refine g_inv0 hR dX4_countOf_94 zm_4_247 (by decide) zN_X4_partyMany ((wk_39 _) _) zO_X4_partyMany (Nat.le_of_ble_eq_true rfl) ?_
      refine c_X4_partyMany hr hn ?_
      show R 97 _ (.int _ :: _) _
      refine g_iret hR dX4_countOf_97 rfl ?_
      exact h2 (by omega)
    · refine z_tabIn hR (off := 97) (tgt := 98) dX4_countOf_1 (by decide) (by decide) (by decide) (by decide) ?_
      refine z_aload_n hR dX4_countOf_98 rfl rfl ?_
      refine g_get hR dX4_countOf_99 zf_4_70 (wk_39 _) rfl ?_
      refine g_iret hR dX4_countOf_102 rfl ?_
      exact h2 (by omega)
    · refine z_tabIn hR (off := 102) (tgt := 103) dX4_countOf_1 (by decide) (by decide) (by decide) (by decide) ?_
      refine z_aload_n hR dX4_countOf_103 rfl rfl ?_
      refine g_get hR dX4_countOf_104 zf_4_73 (wk_39 _) rfl ?_
      refine g_iret hR dX4_countOf_107 rfl ?_
      exact h2 (by omega)
    · refine z_tabIn hR (off := 107) (tgt := 108) dX4_countOf_1 (by decide) (by decide) (by decide) (by decide) ?_
      refine z_aload_n hR dX4_countOf_108 rfl rfl ?_
      refine g_get hR dX4_countOf_109 zf_4_67 (wk_39 _) rfl ?_
      refine g_iconst hR dX4_countOf_112 ?_
      refine g_iadd hR dX4_countOf_113 rfl ?_
      refine g_iret hR dX4_countOf_114 rfl ?_
      exact h2 (by omega)
    · refine z_tabIn hR (off := 114) (tgt := 115) dX4_countOf_1 (by decide) (by decide) (by decide) (by decide) ?_
      refine z_aload_n hR dX4_countOf_115 rfl rfl ?_
      refine g_get hR dX4_countOf_116 zf_4_82 (wk_39 _) rfl ?_
      refine g_iret hR dX4_countOf_119 rfl ?_
      exact h2 (by omega)
    · refine z_tabIn hR (off := 119) (tgt := 120) dX4_countOf_1 (by decide) (by decide) (by decide) (by decide) ?_
      refine z_aload_n hR dX4_countOf_120 rfl rfl ?_
      refine g_get hR dX4_countOf_121 zf_4_56 (wk_39 _) rfl ?_
      refine g_iret hR dX4_countOf_124 rfl ?_
      exact h2 (by omega)
    · refine z_tabIn hR (off := 124) (tgt := 125) dX4_countOf_1 (by decide) (by decide) (by decide) (by decide) ?_
      refine z_aload_n hR dX4_countOf_125 rfl rfl ?_
      refine g_get hR dX4_countOf_126 zf_4_85 (wk_39 _) rfl ?_
      refine g_iret hR dX4_countOf_129 rfl ?_
      exact h2 (by omega)
    · refine z_tabIn hR (off := 129) (tgt := 130) dX4_countOf_1 (by decide) (by decide) (by decide) (by decide) ?_
      refine z_aload_n hR dX4_countOf_130 rfl rfl ?_
      refine g_get hR dX4_countOf_131 zf_4_166 (wk_39 _) rfl ?_
      refine g_iret hR dX4_countOf_134 rfl ?_
      exact h2 (by omega)
  · refine z_iload_n hR dX4_countOf_0 rfl rfl ?_
    refine z_tabOut hR (tgt := 135) dX4_countOf_1 (by rw [toInt_iI hv]; omega) (by decide) ?_
    refine g_bipush hR dX4_countOf_135 ?_
    refine g_iret hR dX4_countOf_137 rfl ?_
    exact h1 hw8
theorem c_X4_count {zs : zzT} {d : Nat} {Q : zzQ} {g : Nat → Nat → Int} {hh : Int64} (hs : g 39 2 = 0 ∨ g 39 2 = 1) {m n : Nat} {ea eb : Nat → Nat} (hr : MR g m n ea eb) (hn : g 39 8 = (n : Int)) (hcu : ∀ j, j < 12 → -1 ≤ g 41 j ∧ g 41 j ≤ 1) {v : Int} (hv : rg v) (h1 : ¬ (0 ≤ v ∧ v < 12) → Q [.int (iI (-102))] (wof g hh)) (h2 : 0 ≤ v ∧ v < 12 → Q [.int (iI (cnM g n (pby ea eb lfa m) v))] (wof g hh)) : zzCL zs (d + 6) 129 [.ref 39, .int (iI v)] (wof g hh) Q := by
  refine st_X4_count (Nat.le_of_ble_eq_true rfl) (fun R hR => ?_)
  show R 0 [(0, .ref 39), (1, .int (iI v))] [] _
  refine z_aload_n hR dX4_count_0 rfl rfl ?_
  refine z_iload_n hR dX4_count_1 rfl rfl ?_
  refine g_inv1 hR dX4_count_2 zm_4_250 (by decide) zN_X4_countOf ((wk_39 _) _) zO_X4_countOf (Nat.le_of_ble_eq_true rfl) ?_
  refine c_X4_countOf hs hr hn hcu hv ?_ ?_
  · intro hq
    show R 5 _ (.int _ :: _) _
    refine g_iret hR dX4_count_5 rfl ?_
    exact h1 hq
  · intro hq
    show R 5 _ (.int _ :: _) _
    refine g_iret hR dX4_count_5 rfl ?_
    exact h2 hq
theorem cn_both {c : Nat} {g : Nat → Nat → Int} (h : Rel c g) {n m an : Nat} {rp ea eb : Nat → Nat} (hS : SS n m an rp ea eb (g 2) (g 4) (g 5) (g 6) (g 7) (g 8) (g 39 8) (g 39 9) (g 39 3) (g 39 4) (g 39 5) (g 42) (g 43) c) {sn : Nat} (hsn : g 23 4 = (sn : Int) ∧ g 39 22 = (sn : Int)) (v : Int) : cnX g n (pby ea eb lfa m) v = cnM g n (pby ea eb lfa m) v := by
  obtain ⟨hc0, ⟨L, l1, l2, _⟩, hnum, hcur, _⟩ := id h
  unfold cnX cnM
  rw [hnum.1.1, cnz_congr (fun j hj => (hcur j hj).1), hS.2.1.1, hS.2.1.2, hS.2.2.2.2.1.1, hS.2.2.2.2.2.1, hS.2.2.2.1.1, hsn.1, hsn.2, l1, l2, hnum.2.1.1, hnum.2.2.1]
theorem op_count {zs : zzT} {c : Nat} {g : Nat → Nat → Int} {hh : Int64} (hz : zsok zs) (h : Rel c g) (hc : c < 512) {v : Int} (hv : rg v) : opOK zs 71 129 [.ref 0, .int (iI v)] [.ref 39, .int (iI v)] c g hh := by
  obtain ⟨hc0, hpage, hnum, hcur, ⟨n, m, an, sn, rp, ea, eb, hS, hH⟩, himg⟩ := id h
  have hk := SS_WK hc0 hcur hS
  have hp := SS_MP hc0 hcur hS
  have hs1 : g 0 2 = 0 ∨ g 0 2 = 1 := by rw [hnum.1.1]; exact hnum.1.2
  by_cases hA : 0 ≤ v ∧ v < 12
  · refine op_id (r := (iI (cnX g n (pby ea eb lfa m) v)).toInt) (rg_of _) h hc (fun Q q => ?_) (fun Q q => ?_)
    · rw [iI_toInt] at q
      exact c_X3_count hs1 hk.1.1 hk.1.2.1 hk.1.2.2.1 (fun j hj => (hk.2.2.2.2.2.2 j hj).1) hv (fun x => absurd hA x) (fun _ => q)
    · rw [iI_toInt, cn_both h hS ⟨hH.1, hH.2.1⟩] at q
      exact c_X4_count hnum.1.2 hp.2.2.2.2.2.2.2.2.2 hp.1 hp.2.2.1 hv (fun x => absurd hA x) (fun _ => q)
  · exact op_id (r := -102) (by unfold rg; omega) h hc (fun Q q => c_X3_count hs1 hk.1.1 hk.1.2.1 hk.1.2.2.1 (fun j hj => (hk.2.2.2.2.2.2 j hj).1) hv (fun _ => q) (fun x => absurd x hA)) (fun Q q => c_X4_count hnum.1.2 hp.2.2.2.2.2.2.2.2.2 hp.1 hp.2.2.1 hv (fun _ => q) (fun x => absurd x hA))
