def cpyI (N : Nat) (f f1 : FI) : FI := fun k => if k < N then f k else f1 k
theorem cpy_ir {N : Nat} (hN : (N : Int) < 2147483648) (f f1 : FI) : va_cpy (ir f) (ir f1) (iI 0).toNatClampNeg (iI 0).toNatClampNeg (iI (N : Int)).toNatClampNeg = ir (cpyI N f f1) := by
  funext k
  rw [iI_clamp (show rg (N : Int) from ⟨by omega, hN⟩), iI_clamp (show rg 0 by unfold rg; omega)]
  simp only [va_cpy, ir, cpyI]
  by_cases h : k < N <;> simp [h]
theorem g_acopy {zs : zzT} {CL : zzK} {cc : ByteArray} {o nL : Nat} {rt : Option FieldType} {Q : zzQ} {R : zzS} {pc : Nat} {ls : zzL} {st : List Value} {g : Nat → Nat → Int} {hh : Int64} {N : Nat} (h : zzC zs CL cc o nL rt Q R) {idx a0 a1 n0 n1 : Nat} (hd : decode cc pc = .ok (.invokestatic idx, 3)) (ha : zzac o idx = true) (hw0 : ∀ r, wofR a0 r hh = some (.inl (0, n0, ir r))) (hw1 : ∀ r, wofR a1 r hh = some (.inl (0, n1, ir r))) (h0 : N ≤ n0 ∧ (n0 : Int) < 2147483648) (h1 : N ≤ n1) (hst : (st.map fun v => v.category).sum ≤ 8) (kk : R (pc + 3) ls st (wof (gr g a1 (cpyI N (g a0) (g a1))) hh)) : R pc ls (.int (iI (N : Int)) :: .int (iI 0) :: .ref a1 :: .int (iI 0) :: .ref a0 :: st) (wof g hh) := by
  have hN : (N : Int) < 2147483648 := by omega
  have e0 : (iI 0).toNatClampNeg = 0 := iI_clamp (show rg 0 by unfold rg; omega)
  have eN : (iI (N : Int)).toNatClampNeg = N := iI_clamp (show rg (N : Int) from ⟨by omega, hN⟩)
  have nn : ∀ z : Int, 0 ≤ z → z < 2147483648 → ¬ iI z < 0 := fun z q1 q2 q => by
    have := (iI_lt (show rg z from ⟨by omega, q2⟩) (show rg 0 by unfold rg; omega)).mp q
    omega
  refine z_acopy h hd ha (hw0 (g a0)) (hw1 (g a1)) (nn 0 (by omega) (by omega)) (nn 0 (by omega) (by omega)) (nn _ (by omega) hN) (by rw [e0, eN]; omega) (by rw [e0, eN]; omega) hst ?_
  rw [cpy_ir hN, wof_up (hw1 _)]
  exact kk
/-- behind a copy of the Waters at b to that at a -/
def cpd (g : Nat → Nat → Int) (a b : Nat) (g1 : Nat → Nat → Int) : Prop := (∀ j, j < 12 → g1 (a + 1) j = g (b + 1) j) ∧ (∀ i, 2 ≤ i → i ≤ 6 → ∀ j, j < 5 → g1 (a + i) j = g (b + i) j) ∧ (∀ k, 6 ≤ k → k < 12 → g1 a k = g b k) ∧ (∀ c k, c < a ∨ a + 6 < c → g1 c k = g c k)
theorem c_X2_copy {zs : zzT} {d : Nat} {Q : zzQ} {g : Nat → Nat → Int} {hh : Int64} {a b : Nat} (ha : isW a) (hb : isW b) (hab : a ≠ b) (hQ : ∀ g1, cpd g a b g1 → Q [] (wof g1 hh)) : zzCL zs (d + 1) 41 [.ref a, .ref b] (wof g hh) Q := by
  refine st_X2_copy (Nat.le_of_ble_eq_true rfl) (fun R hR => ?_)
  show R 0 [(0, .ref a), (1, .ref b)] [] _
  have hab7 : a + 7 ≤ b ∨ b + 7 ≤ a := by rcases ha with rfl | rfl | rfl <;> rcases hb with rfl | rfl | rfl <;> omega
  refine z_aload_n hR dX2_copy_0 rfl rfl ?_
  refine g_get hR dX2_copy_1 zf_2_9 (wW_0 hb _) rfl ?_
  refine g_iconst hR dX2_copy_4 ?_
  refine z_aload_n hR dX2_copy_5 rfl rfl ?_
  refine g_get hR dX2_copy_6 zf_2_9 (wW_0 ha _) rfl ?_
  refine g_iconst hR dX2_copy_9 ?_
  refine g_bipush hR dX2_copy_10 ?_
  refine g_acopy (N := 12) hR dX2_copy_12 za_2_49 (wW_1 hb _) (wW_1 ha _) (by decide) (by decide) (Nat.le_of_ble_eq_true rfl) ?_
  generalize hk : gr g (a + 1) _ = g1
  have hn1 : ∀ c, c ≠ a + 1 → g1 c = g c := fun c hc => by rw [← hk, gr_n _ _ hc]
  have hs1 : ∀ j, j < 12 → g1 (a + 1) j = g (b + 1) j := fun j hj => by rw [← hk, gr_s]; simp [cpyI, hj]
  clear hk
  refine z_aload_n hR dX2_copy_15 rfl rfl ?_
  refine g_get hR dX2_copy_16 zf_2_15 (wW_0 hb _) rfl ?_
  refine g_iconst hR dX2_copy_19 ?_
  refine z_aload_n hR dX2_copy_20 rfl rfl ?_
  refine g_get hR dX2_copy_21 zf_2_15 (wW_0 ha _) rfl ?_
  refine g_iconst hR dX2_copy_24 ?_
  refine g_iconst hR dX2_copy_25 ?_
  refine g_acopy (N := 5) hR dX2_copy_26 za_2_49 (wW_2 hb _) (wW_2 ha _) (by decide) (by decide) (Nat.le_of_ble_eq_true rfl) ?_
  generalize hk : gr g1 (a + 2) _ = g2
  have hn2 : ∀ c, c ≠ a + 2 → g2 c = g1 c := fun c hc => by rw [← hk, gr_n _ _ hc]
  have hs2 : ∀ j, j < 5 → g2 (a + 2) j = g1 (b + 2) j := fun j hj => by rw [← hk, gr_s]; simp [cpyI, hj]
  clear hk
  refine z_aload_n hR dX2_copy_29 rfl rfl ?_
  refine g_get hR dX2_copy_30 zf_2_18 (wW_0 hb _) rfl ?_
  refine g_iconst hR dX2_copy_33 ?_
  refine z_aload_n hR dX2_copy_34 rfl rfl ?_
  refine g_get hR dX2_copy_35 zf_2_18 (wW_0 ha _) rfl ?_
  refine g_iconst hR dX2_copy_38 ?_
  refine g_iconst hR dX2_copy_39 ?_
  refine g_acopy (N := 5) hR dX2_copy_40 za_2_49 (wW_3 hb _) (wW_3 ha _) (by decide) (by decide) (Nat.le_of_ble_eq_true rfl) ?_
  generalize hk : gr g2 (a + 3) _ = g3
  have hn3 : ∀ c, c ≠ a + 3 → g3 c = g2 c := fun c hc => by rw [← hk, gr_n _ _ hc]
  have hs3 : ∀ j, j < 5 → g3 (a + 3) j = g2 (b + 3) j := fun j hj => by rw [← hk, gr_s]; simp [cpyI, hj]
  clear hk
  refine z_aload_n hR dX2_copy_43 rfl rfl ?_
  refine g_get hR dX2_copy_44 zf_2_21 (wW_0 hb _) rfl ?_
  refine g_iconst hR dX2_copy_47 ?_
  refine z_aload_n hR dX2_copy_48 rfl rfl ?_
  refine g_get hR dX2_copy_49 zf_2_21 (wW_0 ha _) rfl ?_
  refine g_iconst hR dX2_copy_52 ?_
  refine g_iconst hR dX2_copy_53 ?_
  refine g_acopy (N := 5) hR dX2_copy_54 za_2_49 (wW_4 hb _) (wW_4 ha _) (by decide) (by decide) (Nat.le_of_ble_eq_true rfl) ?_
  generalize hk : gr g3 (a + 4) _ = g4
  have hn4 : ∀ c, c ≠ a + 4 → g4 c = g3 c := fun c hc => by rw [← hk, gr_n _ _ hc]
  have hs4 : ∀ j, j < 5 → g4 (a + 4) j = g3 (b + 4) j := fun j hj => by rw [← hk, gr_s]; simp [cpyI, hj]
  clear hk
  refine z_aload_n hR dX2_copy_57 rfl rfl ?_
  refine g_get hR dX2_copy_58 zf_2_24 (wW_0 hb _) rfl ?_
  refine g_iconst hR dX2_copy_61 ?_
  refine z_aload_n hR dX2_copy_62 rfl rfl ?_
  refine g_get hR dX2_copy_63 zf_2_24 (wW_0 ha _) rfl ?_
  refine g_iconst hR dX2_copy_66 ?_
  refine g_iconst hR dX2_copy_67 ?_
  refine g_acopy (N := 5) hR dX2_copy_68 za_2_49 (wW_5 hb _) (wW_5 ha _) (by decide) (by decide) (Nat.le_of_ble_eq_true rfl) ?_
  generalize hk : gr g4 (a + 5) _ = g5
  have hn5 : ∀ c, c ≠ a + 5 → g5 c = g4 c := fun c hc => by rw [← hk, gr_n _ _ hc]
  have hs5 : ∀ j, j < 5 → g5 (a + 5) j = g4 (b + 5) j := fun j hj => by rw [← hk, gr_s]; simp [cpyI, hj]
  clear hk
  refine z_aload_n hR dX2_copy_71 rfl rfl ?_
  refine g_get hR dX2_copy_72 zf_2_27 (wW_0 hb _) rfl ?_
  refine g_iconst hR dX2_copy_75 ?_
  refine z_aload_n hR dX2_copy_76 rfl rfl ?_
  refine g_get hR dX2_copy_77 zf_2_27 (wW_0 ha _) rfl ?_
  refine g_iconst hR dX2_copy_80 ?_
  refine g_iconst hR dX2_copy_81 ?_
  refine g_acopy (N := 5) hR dX2_copy_82 za_2_49 (wW_6 hb _) (wW_6 ha _) (by decide) (by decide) (Nat.le_of_ble_eq_true rfl) ?_
  generalize hk : gr g5 (a + 6) _ = g6
  have hn6 : ∀ c, c ≠ a + 6 → g6 c = g5 c := fun c hc => by rw [← hk, gr_n _ _ hc]
  have hs6 : ∀ j, j < 5 → g6 (a + 6) j = g5 (b + 6) j := fun j hj => by rw [← hk, gr_s]; simp [cpyI, hj]
  clear hk
  refine z_aload_n hR dX2_copy_85 rfl rfl ?_
  refine z_aload_n hR dX2_copy_86 rfl rfl ?_
  refine g_get hR dX2_copy_87 zf_2_30 (wW_0 hb _) rfl ?_
  refine g_put hR dX2_copy_90 zf_2_30 (wW_0 ha _) (Nat.le_of_ble_eq_true rfl) rfl rfl rfl rfl ?_
  generalize hk : gr g6 a _ = g7
  have hn7 : ∀ c, c ≠ a → g7 c = g6 c := fun c hc => by rw [← hk, gr_n _ _ hc]
  have hs7 : g7 a 6 = g6 b 6 := by rw [← hk, gr_s, iu_s]
  have ho7 : ∀ k, k ≠ 6 → g7 a k = g6 a k := fun k hk2 => by rw [← hk, gr_s, iu_n _ _ hk2]
  clear hk
  refine z_aload_n hR dX2_copy_93 rfl rfl ?_
  refine z_aload_n hR dX2_copy_94 rfl rfl ?_
  refine g_get hR dX2_copy_95 zf_2_34 (wW_0 hb _) rfl ?_
  refine g_put hR dX2_copy_98 zf_2_34 (wW_0 ha _) (Nat.le_of_ble_eq_true rfl) rfl rfl rfl rfl ?_
  generalize hk : gr g7 a _ = g8
  have hn8 : ∀ c, c ≠ a → g8 c = g7 c := fun c hc => by rw [← hk, gr_n _ _ hc]
  have hs8 : g8 a 7 = g7 b 7 := by rw [← hk, gr_s, iu_s]
  have ho8 : ∀ k, k ≠ 7 → g8 a k = g7 a k := fun k hk2 => by rw [← hk, gr_s, iu_n _ _ hk2]
  clear hk
  refine z_aload_n hR dX2_copy_101 rfl rfl ?_
  refine z_aload_n hR dX2_copy_102 rfl rfl ?_
  refine g_get hR dX2_copy_103 zf_2_37 (wW_0 hb _) rfl ?_
  refine g_put hR dX2_copy_106 zf_2_37 (wW_0 ha _) (Nat.le_of_ble_eq_true rfl) rfl rfl rfl rfl ?_
  generalize hk : gr g8 a _ = g9
  have hn9 : ∀ c, c ≠ a → g9 c = g8 c := fun c hc => by rw [← hk, gr_n _ _ hc]
  have hs9 : g9 a 8 = g8 b 8 := by rw [← hk, gr_s, iu_s]
  have ho9 : ∀ k, k ≠ 8 → g9 a k = g8 a k := fun k hk2 => by rw [← hk, gr_s, iu_n _ _ hk2]
  clear hk
  refine z_aload_n hR dX2_copy_109 rfl rfl ?_
  refine z_aload_n hR dX2_copy_110 rfl rfl ?_
  refine g_get hR dX2_copy_111 zf_2_40 (wW_0 hb _) rfl ?_
  refine g_put hR dX2_copy_114 zf_2_40 (wW_0 ha _) (Nat.le_of_ble_eq_true rfl) rfl rfl rfl rfl ?_
  generalize hk : gr g9 a _ = g10
  have hn10 : ∀ c, c ≠ a → g10 c = g9 c := fun c hc => by rw [← hk, gr_n _ _ hc]
  have hs10 : g10 a 9 = g9 b 9 := by rw [← hk, gr_s, iu_s]
  have ho10 : ∀ k, k ≠ 9 → g10 a k = g9 a k := fun k hk2 => by rw [← hk, gr_s, iu_n _ _ hk2]
  clear hk
  refine z_aload_n hR dX2_copy_117 rfl rfl ?_
  refine z_aload_n hR dX2_copy_118 rfl rfl ?_
  refine g_get hR dX2_copy_119 zf_2_43 (wW_0 hb _) rfl ?_
  refine g_put hR dX2_copy_122 zf_2_43 (wW_0 ha _) (Nat.le_of_ble_eq_true rfl) rfl rfl rfl rfl ?_
  generalize hk : gr g10 a _ = g11
  have hn11 : ∀ c, c ≠ a → g11 c = g10 c := fun c hc => by rw [← hk, gr_n _ _ hc]
  have hs11 : g11 a 10 = g10 b 10 := by rw [← hk, gr_s, iu_s]
  have ho11 : ∀ k, k ≠ 10 → g11 a k = g10 a k := fun k hk2 => by rw [← hk, gr_s, iu_n _ _ hk2]
  clear hk
  refine z_aload_n hR dX2_copy_125 rfl rfl ?_
  refine z_aload_n hR dX2_copy_126 rfl rfl ?_
  refine g_get hR dX2_copy_127 zf_2_46 (wW_0 hb _) rfl ?_
  refine g_put hR dX2_copy_130 zf_2_46 (wW_0 ha _) (Nat.le_of_ble_eq_true rfl) rfl rfl rfl rfl ?_
  generalize hk : gr g11 a _ = g12
  have hn12 : ∀ c, c ≠ a → g12 c = g11 c := fun c hc => by rw [← hk, gr_n _ _ hc]
  have hs12 : g12 a 11 = g11 b 11 := by rw [← hk, gr_s, iu_s]
  have ho12 : ∀ k, k ≠ 11 → g12 a k = g11 a k := fun k hk2 => by rw [← hk, gr_s, iu_n _ _ hk2]
  clear hk
  refine g_vret hR dX2_copy_133 rfl ?_
  refine hQ _ ⟨fun j hj => ?_, fun i h1 h2 j hj => ?_, fun k h1 h2 => ?_, fun c k hc => ?_⟩
  · simp (disch := omega) only [hn12, hn11, hn10, hn9, hn8, hn7, hn6, hn5, hn4, hn3, hn2, hn1, hs1 j hj]
  · have hi : i = 2 ∨ i = 3 ∨ i = 4 ∨ i = 5 ∨ i = 6 := by omega
    rcases hi with rfl | rfl | rfl | rfl | rfl
    · simp (disch := omega) only [hn12, hn11, hn10, hn9, hn8, hn7, hn6, hn5, hn4, hn3, hn2, hn1, hs2 j hj]
    · simp (disch := omega) only [hn12, hn11, hn10, hn9, hn8, hn7, hn6, hn5, hn4, hn3, hn2, hn1, hs3 j hj]
    · simp (disch := omega) only [hn12, hn11, hn10, hn9, hn8, hn7, hn6, hn5, hn4, hn3, hn2, hn1, hs4 j hj]
    · simp (disch := omega) only [hn12, hn11, hn10, hn9, hn8, hn7, hn6, hn5, hn4, hn3, hn2, hn1, hs5 j hj]
    · simp (disch := omega) only [hn12, hn11, hn10, hn9, hn8, hn7, hn6, hn5, hn4, hn3, hn2, hn1, hs6 j hj]
  · have hk : k = 6 ∨ k = 7 ∨ k = 8 ∨ k = 9 ∨ k = 10 ∨ k = 11 := by omega
    rcases hk with rfl | rfl | rfl | rfl | rfl | rfl
    · simp (disch := omega) only [ho12, ho11, ho10, ho9, ho8, ho7, hs7, hn12, hn11, hn10, hn9, hn8, hn7, hn6, hn5, hn4, hn3, hn2, hn1]
    · simp (disch := omega) only [ho12, ho11, ho10, ho9, ho8, ho7, hs8, hn12, hn11, hn10, hn9, hn8, hn7, hn6, hn5, hn4, hn3, hn2, hn1]
    · simp (disch := omega) only [ho12, ho11, ho10, ho9, ho8, ho7, hs9, hn12, hn11, hn10, hn9, hn8, hn7, hn6, hn5, hn4, hn3, hn2, hn1]
    · simp (disch := omega) only [ho12, ho11, ho10, ho9, ho8, ho7, hs10, hn12, hn11, hn10, hn9, hn8, hn7, hn6, hn5, hn4, hn3, hn2, hn1]
    · simp (disch := omega) only [ho12, ho11, ho10, ho9, ho8, ho7, hs11, hn12, hn11, hn10, hn9, hn8, hn7, hn6, hn5, hn4, hn3, hn2, hn1]
    · simp (disch := omega) only [ho12, ho11, ho10, ho9, ho8, ho7, hs12, hn12, hn11, hn10, hn9, hn8, hn7, hn6, hn5, hn4, hn3, hn2, hn1]
  · simp (disch := omega) only [hn12, hn11, hn10, hn9, hn8, hn7, hn6, hn5, hn4, hn3, hn2, hn1]
