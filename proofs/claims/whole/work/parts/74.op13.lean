theorem isH23 : isH 23 := Or.inl rfl
theorem isH28 : isH 28 := Or.inr rfl
/-- a sea with its shells, copied -/
theorem SH_cp {o kd sz pl rpI ptI : FI} {is rm wi da bu : Int} {rows ropes : FI} {snI msn : Int} {one oth whn wre sh : FI} {c : Nat} (h : SH o kd sz pl rpI ptI is rm wi da bu rows ropes snI msn one oth whn wre sh c)
  {o1 kd1 sz1 pl1 rpI1 ptI1 rows1 ropes1 one1 oth1 whn1 wre1 sh1 : FI} (ho : ∀ k, 6 ≤ k → k < 12 → o1 k = o k) (h1 : eqn 5 kd1 kd) (h2 : eqn 5 sz1 sz) (h3 : eqn 5 pl1 pl) (h4 : eqn 5 rpI1 rpI) (h5 : eqn 5 ptI1 ptI) (h6 : eqn 20 rows1 rows) (h7 : eqn 12 ropes1 ropes) (h8 : ∀ k : Nat, (k : Int) < snI → one1 k = one k ∧ oth1 k = oth k ∧ whn1 k = whn k ∧ wre1 k = wre k) (h9 : eqn 32 sh1 sh) : SH o1 kd1 sz1 pl1 rpI1 ptI1 is rm wi da bu rows1 ropes1 snI msn one1 oth1 whn1 wre1 sh1 c := by
  obtain ⟨n, m, an, sn, rp, ea, eb, ⟨a1, a2, a3, a4, a5, a6, a7, a8, a9, a10, a11⟩, b1, b2, b3, b4⟩ := h
  have hn5 := a11.2.1
  have hm6 := a11.1
  refine ⟨n, m, an, sn, rp, ea, eb, ⟨?_, ?_, ⟨?_, ?_⟩, ?_, ?_, ?_, fun j hj => ?_, fun i j hi hj => ?_, fun j hj => ?_, fun r hr => ?_, a11⟩, b1, b2, b3, fun k hk => ?_⟩
  · rw [ho 6 (by omega) (by omega)]; exact a1
  · rw [ho 7 (by omega) (by omega)]; exact a2
  · rw [ho 8 (by omega) (by omega)]; exact a3.1
  · rw [a3.2]; exact bor_congr (fun j hj => ⟨rfl, by rw [h6 _ (by omega)]⟩)
  · rw [ho 9 (by omega) (by omega)]; exact a4
  · rw [ho 10 (by omega) (by omega)]; exact a5
  · rw [ho 11 (by omega) (by omega)]; exact a6
  · rw [h1 j (by omega), h2 j (by omega), h3 j (by omega), h6 _ (by omega), h6 _ (by omega), h6 _ (by omega), h6 _ (by omega)]; exact a7 j hj
  · rw [h3 i (by omega), h3 j (by omega)]; exact a8 i j hi hj
  · rw [h4 j (by omega), h5 j (by omega)]; exact a9 j hj
  · rw [h7 _ (by omega), h7 _ (by omega)]; exact a10 r hr
  · obtain ⟨e1, e2, e3, e4⟩ := h8 k (by omega)
    rw [e1, e2, e3, e4, h9 _ (by omega), h9 _ (by omega), h9 _ (by omega), h9 _ (by omega)]; exact b4 k hk
theorem cpyI_in {N : Nat} {f f1 : FI} : eqn N (cpyI N f f1) f := fun j hj => if_pos hj
theorem c_X3_image {zs : zzT} {d : Nat} {Q : zzQ} {g : Nat → Nat → Int} {hh : Int64} (hs : g 0 2 = 0 ∨ g 0 2 = 1) {sn : Nat} (hsn : g 23 4 = (sn : Int)) (hs8 : sn ≤ 8) (hwr : ∀ k, k < sn → g 27 k = 0 ∨ g 27 k = 1) (h1 : g 0 2 = 0 → Q [.int (iI (-103))] (wof g hh)) (h2 : g 0 2 ≠ 0 → ∀ g1 g2, cpd g 9 2 g1 → cph g1 28 23 g2 → Q [.int (iI (g 2 10))] (wof (gr g2 0 (iu (g2 0) 3 1)) hh)) : zzCL zs (d + 2) 68 [.ref 0] (wof g hh) Q := by
  refine st_X3_image (Nat.le_of_ble_eq_true rfl) (fun R hR => ?_)
  show R 0 [(0, .ref 0)] [] _
  refine z_aload_n hR dX3_image_0 rfl rfl ?_
  refine g_get hR dX3_image_1 zf_3_17 (wk_0 _) rfl ?_
  refine g_if_ne hR (tgt := 10) dX3_image_4 (by decide) (fun c4 => ?_) (fun c4 => ?_)
  · refine z_aload_n hR dX3_image_10 rfl rfl ?_
    refine g_get hR dX3_image_11 zf_3_37 (wk_0 _) (show _ = some (Value.ref 9) from rfl) ?_
    refine z_aload_n hR dX3_image_14 rfl rfl ?_
    refine g_get hR dX3_image_15 zf_3_33 (wk_0 _) (show _ = some (Value.ref 2) from rfl) ?_
    refine g_inv1 hR dX3_image_18 zm_3_198 (by decide) zN_X2_copy ((wk_9 _) _) zO_X2_copy (Nat.le_of_ble_eq_true rfl) ?_
    refine c_X2_copy isW9 isW2 (by decide) (fun g1 hcp1 => ?_)
    show R 21 _ _ _
    refine z_aload_n hR dX3_image_21 rfl rfl ?_
    refine g_get hR dX3_image_22 zf_3_50 (wk_0 _) (show _ = some (Value.ref 28) from rfl) ?_
    refine z_aload_n hR dX3_image_25 rfl rfl ?_
    refine g_get hR dX3_image_26 zf_3_46 (wk_0 _) (show _ = some (Value.ref 23) from rfl) ?_
    refine g_inv1 hR dX3_image_29 zm_3_208 (by decide) zN_X1_copy ((wk_28 _) _) zO_X1_copy (Nat.le_of_ble_eq_true rfl) ?_
    refine c_X1_copy isH28 isH23 (by decide) (show g1 23 4 = (sn : Int) by rw [hcp1.2.2.2 23 4 (by omega)]; exact hsn) hs8 (fun k hk => by rw [hcp1.2.2.2 (23 + 4) k (by omega)]; exact hwr k hk) (fun g2 hcp2 => ?_)
    show R 32 _ _ _
    refine z_aload_n hR dX3_image_32 rfl rfl ?_
    refine g_iconst hR dX3_image_33 ?_
    refine g_put hR dX3_image_34 zf_3_21 (wk_0 _) (Nat.le_of_ble_eq_true rfl) rfl (by decide) (by decide) rfl ?_
    refine z_aload_n hR dX3_image_37 rfl rfl ?_
    refine g_get hR dX3_image_38 zf_3_33 (wk_0 _) (show _ = some (Value.ref 2) from rfl) ?_
    refine g_get hR dX3_image_41 zf_3_211 (wk_2 _) (gi (show g2 2 10 = g 2 10 by rw [hcp2.2.2 2 10 (by omega), hcp1.2.2.2 2 10 (by omega)])) ?_
    refine g_iret hR dX3_image_44 rfl ?_
    exact h2 c4 g1 g2 hcp1 hcp2
  · refine g_bipush hR dX3_image_7 ?_
    refine g_iret hR dX3_image_9 rfl ?_
    exact h1 c4
theorem c_X3_restore {zs : zzT} {d : Nat} {Q : zzQ} {g : Nat → Nat → Int} {hh : Int64} (hs : g 0 3 = 0 ∨ g 0 3 = 1) {sn : Nat} (hsn : g 0 3 ≠ 0 → g 28 4 = (sn : Int)) (hs8 : g 0 3 ≠ 0 → sn ≤ 8) (hwr : g 0 3 ≠ 0 → ∀ k, k < sn → g 32 k = 0 ∨ g 32 k = 1) (h1 : g 0 3 = 0 → Q [.int (iI (-103))] (wof g hh)) (h2 : g 0 3 ≠ 0 → ∀ g1 g2, cpd g 2 9 g1 → cph g1 23 28 g2 → Q [.int (iI (g 9 10))] (wof g2 hh)) : zzCL zs (d + 2) 70 [.ref 0] (wof g hh) Q := by
  refine st_X3_restore (Nat.le_of_ble_eq_true rfl) (fun R hR => ?_)
  show R 0 [(0, .ref 0)] [] _
  refine z_aload_n hR dX3_restore_0 rfl rfl ?_
  refine g_get hR dX3_restore_1 zf_3_21 (wk_0 _) rfl ?_
  refine g_if_ne hR (tgt := 10) dX3_restore_4 (by decide) (fun c4 => ?_) (fun c4 => ?_)
  · refine z_aload_n hR dX3_restore_10 rfl rfl ?_
    refine g_get hR dX3_restore_11 zf_3_33 (wk_0 _) (show _ = some (Value.ref 2) from rfl) ?_
    refine z_aload_n hR dX3_restore_14 rfl rfl ?_
    refine g_get hR dX3_restore_15 zf_3_37 (wk_0 _) (show _ = some (Value.ref 9) from rfl) ?_
    refine g_inv1 hR dX3_restore_18 zm_3_198 (by decide) zN_X2_copy ((wk_2 _) _) zO_X2_copy (Nat.le_of_ble_eq_true rfl) ?_
    refine c_X2_copy isW2 isW9 (by decide) (fun g1 hcp1 => ?_)
    show R 21 _ _ _
    refine z_aload_n hR dX3_restore_21 rfl rfl ?_
    refine g_get hR dX3_restore_22 zf_3_46 (wk_0 _) (show _ = some (Value.ref 23) from rfl) ?_
    refine z_aload_n hR dX3_restore_25 rfl rfl ?_
    refine g_get hR dX3_restore_26 zf_3_50 (wk_0 _) (show _ = some (Value.ref 28) from rfl) ?_
    refine g_inv1 hR dX3_restore_29 zm_3_208 (by decide) zN_X1_copy ((wk_23 _) _) zO_X1_copy (Nat.le_of_ble_eq_true rfl) ?_
    refine c_X1_copy isH23 isH28 (by decide) (show g1 28 4 = (sn : Int) by rw [hcp1.2.2.2 28 4 (by omega)]; exact hsn c4) (hs8 c4) (fun k hk => by rw [hcp1.2.2.2 (28 + 4) k (by omega)]; exact hwr c4 k hk) (fun g2 hcp2 => ?_)
    show R 32 _ _ _
    refine z_aload_n hR dX3_restore_32 rfl rfl ?_
    refine g_get hR dX3_restore_33 zf_3_33 (wk_0 _) (show _ = some (Value.ref 2) from rfl) ?_
    refine g_get hR dX3_restore_36 zf_3_211 (wk_2 _) (gi (show g2 2 10 = g 9 10 by rw [hcp2.2.2 2 10 (by omega), hcp1.2.2.1 10 (by omega) (by omega)])) ?_
    refine g_iret hR dX3_restore_39 rfl ?_
    exact h2 c4 g1 g2 hcp1 hcp2
  · refine g_bipush hR dX3_restore_7 ?_
    refine g_iret hR dX3_restore_9 rfl ?_
    exact h1 c4
theorem c_X4_image {zs : zzT} {d : Nat} {Q : zzQ} {g : Nat → Nat → Int} {hh : Int64} (hs : g 39 2 = 0 ∨ g 39 2 = 1) (h1 : g 39 2 = 0 → Q [.int (iI (-103))] (wof g hh)) (h2 : g 39 2 ≠ 0 → Q [.int (iI (g 39 4))] (wof (gr (gr (gr (gr (g) 49 (cpyI 20 (g 42) (g 49))) 50 (cpyI 12 (g 43) (g 50))) 51 (cpyI 32 (g 48) (g 51))) 39 (iu (iu (iu (iu (iu (iu (iu (g 39) 26 (g 39 8)) 27 (g 39 9)) 28 (g 39 3)) 29 (g 39 4)) 30 (g 39 5)) 31 (g 39 22)) 25 (g 39 6))) hh)) : zzCL zs (d + 2) 127 [.ref 39] (wof g hh) Q := by
  refine st_X4_image (Nat.le_of_ble_eq_true rfl) (fun R hR => ?_)
  show R 0 [(0, .ref 39)] [] _
  refine z_aload_n hR dX4_image_0 rfl rfl ?_
  refine g_get hR dX4_image_1 zf_4_63 (wk_39 _) rfl ?_
  refine g_if_ne hR (tgt := 10) dX4_image_4 (by decide) (fun c4 => ?_) (fun c4 => ?_)
  · refine z_aload_n hR dX4_image_10 rfl rfl ?_
    refine g_get hR dX4_image_11 zf_4_16 (wk_39 _) (show _ = some (Value.ref 42) from rfl) ?_
    refine z_aload_n hR dX4_image_14 rfl rfl ?_
    refine g_get hR dX4_image_15 zf_4_37 (wk_39 _) (show _ = some (Value.ref 49) from rfl) ?_
    refine g_sta2 hR dX4_image_18 zm_4_189 zN_X4_copy (Nat.le_of_ble_eq_true rfl) ?_
    refine c_X4_copy (by decide) (by decide) (wk_42 hh) (wk_49 hh) ?_
    show R 21 _ _ _
    refine z_aload_n hR dX4_image_21 rfl rfl ?_
    refine g_get hR dX4_image_22 zf_4_19 (wk_39 _) (show _ = some (Value.ref 43) from rfl) ?_
    refine z_aload_n hR dX4_image_25 rfl rfl ?_
    refine g_get hR dX4_image_26 zf_4_40 (wk_39 _) (show _ = some (Value.ref 50) from rfl) ?_
    refine g_sta2 hR dX4_image_29 zm_4_189 zN_X4_copy (Nat.le_of_ble_eq_true rfl) ?_
    refine c_X4_copy (by decide) (by decide) (wk_43 hh) (wk_50 hh) ?_
    show R 32 _ _ _
    refine z_aload_n hR dX4_image_32 rfl rfl ?_
    refine g_get hR dX4_image_33 zf_4_34 (wk_39 _) (show _ = some (Value.ref 48) from rfl) ?_
    refine z_aload_n hR dX4_image_36 rfl rfl ?_
    refine g_get hR dX4_image_37 zf_4_43 (wk_39 _) (show _ = some (Value.ref 51) from rfl) ?_
    refine g_sta2 hR dX4_image_40 zm_4_189 zN_X4_copy (Nat.le_of_ble_eq_true rfl) ?_
    refine c_X4_copy (by decide) (by decide) (wk_48 hh) (wk_51 hh) ?_
    show R 43 _ _ _
    refine z_aload_n hR dX4_image_43 rfl rfl ?_
    refine z_aload_n hR dX4_image_44 rfl rfl ?_
    refine g_get hR dX4_image_45 zf_4_76 (wk_39 _) rfl ?_
    refine g_put hR dX4_image_48 zf_4_229 (wk_39 _) (Nat.le_of_ble_eq_true rfl) rfl rfl rfl rfl ?_
    refine z_aload_n hR dX4_image_51 rfl rfl ?_
    refine z_aload_n hR dX4_image_52 rfl rfl ?_
    refine g_get hR dX4_image_53 zf_4_79 (wk_39 _) rfl ?_
    refine g_put hR dX4_image_56 zf_4_232 (wk_39 _) (Nat.le_of_ble_eq_true rfl) rfl rfl rfl rfl ?_
    refine z_aload_n hR dX4_image_59 rfl rfl ?_
    refine z_aload_n hR dX4_image_60 rfl rfl ?_
    refine g_get hR dX4_image_61 zf_4_67 (wk_39 _) rfl ?_
    refine g_put hR dX4_image_64 zf_4_235 (wk_39 _) (Nat.le_of_ble_eq_true rfl) rfl rfl rfl rfl ?_
    refine z_aload_n hR dX4_image_67 rfl rfl ?_
    refine z_aload_n hR dX4_image_68 rfl rfl ?_
    refine g_get hR dX4_image_69 zf_4_70 (wk_39 _) rfl ?_
    refine g_put hR dX4_image_72 zf_4_238 (wk_39 _) (Nat.le_of_ble_eq_true rfl) rfl rfl rfl rfl ?_
    refine z_aload_n hR dX4_image_75 rfl rfl ?_
    refine z_aload_n hR dX4_image_76 rfl rfl ?_
    refine g_get hR dX4_image_77 zf_4_73 (wk_39 _) rfl ?_
    refine g_put hR dX4_image_80 zf_4_241 (wk_39 _) (Nat.le_of_ble_eq_true rfl) rfl rfl rfl rfl ?_
    refine z_aload_n hR dX4_image_83 rfl rfl ?_
    refine z_aload_n hR dX4_image_84 rfl rfl ?_
    refine g_get hR dX4_image_85 zf_4_82 (wk_39 _) rfl ?_
    refine g_put hR dX4_image_88 zf_4_244 (wk_39 _) (Nat.le_of_ble_eq_true rfl) rfl rfl rfl rfl ?_
    refine z_aload_n hR dX4_image_91 rfl rfl ?_
    refine z_aload_n hR dX4_image_92 rfl rfl ?_
    refine g_get hR dX4_image_93 zf_4_85 (wk_39 _) rfl ?_
    refine g_put hR dX4_image_96 zf_4_46 (wk_39 _) (Nat.le_of_ble_eq_true rfl) rfl rfl rfl rfl ?_
    simp only [gr_gr, gr_s]
    refine z_aload_n hR dX4_image_99 rfl rfl ?_
    refine g_get hR dX4_image_100 zf_4_70 (wk_39 _) rfl ?_
    refine g_iret hR dX4_image_103 rfl ?_
    exact h2 c4
  · refine g_bipush hR dX4_image_7 ?_
    refine g_iret hR dX4_image_9 rfl ?_
    exact h1 c4
theorem c_X4_restore {zs : zzT} {d : Nat} {Q : zzQ} {g : Nat → Nat → Int} {hh : Int64} (ha : rg (g 39 25)) (hb : rg (g 39 6)) (h1 : g 39 25 ≠ g 39 6 → Q [.int (iI (-103))] (wof g hh)) (h2 : g 39 25 = g 39 6 → Q [.int (iI (g 39 29))] (wof (gr (gr (gr (gr (g) 42 (cpyI 20 (g 49) (g 42))) 43 (cpyI 12 (g 50) (g 43))) 48 (cpyI 32 (g 51) (g 48))) 39 (iu (iu (iu (iu (iu (iu (g 39) 8 (g 39 26)) 9 (g 39 27)) 3 (g 39 28)) 4 (g 39 29)) 5 (g 39 30)) 22 (g 39 31))) hh)) : zzCL zs (d + 2) 128 [.ref 39] (wof g hh) Q := by
  refine st_X4_restore (Nat.le_of_ble_eq_true rfl) (fun R hR => ?_)
  show R 0 [(0, .ref 39)] [] _
  refine z_aload_n hR dX4_restore_0 rfl rfl ?_
  refine g_get hR dX4_restore_1 zf_4_46 (wk_39 _) rfl ?_
  refine z_aload_n hR dX4_restore_4 rfl rfl ?_
  refine g_get hR dX4_restore_5 zf_4_85 (wk_39 _) rfl ?_
  refine g_icmp_eq hR (tgt := 14) dX4_restore_8 (by decide) (fun c8 => ?_) (fun c8 => ?_)
  · refine z_aload_n hR dX4_restore_14 rfl rfl ?_
    refine g_get hR dX4_restore_15 zf_4_37 (wk_39 _) (show _ = some (Value.ref 49) from rfl) ?_
    refine z_aload_n hR dX4_restore_18 rfl rfl ?_
    refine g_get hR dX4_restore_19 zf_4_16 (wk_39 _) (show _ = some (Value.ref 42) from rfl) ?_
    refine g_sta2 hR dX4_restore_22 zm_4_189 zN_X4_copy (Nat.le_of_ble_eq_true rfl) ?_
    refine c_X4_copy (by decide) (by decide) (wk_49 hh) (wk_42 hh) ?_
    show R 25 _ _ _
    refine z_aload_n hR dX4_restore_25 rfl rfl ?_
    refine g_get hR dX4_restore_26 zf_4_40 (wk_39 _) (show _ = some (Value.ref 50) from rfl) ?_
    refine z_aload_n hR dX4_restore_29 rfl rfl ?_
    refine g_get hR dX4_restore_30 zf_4_19 (wk_39 _) (show _ = some (Value.ref 43) from rfl) ?_
    refine g_sta2 hR dX4_restore_33 zm_4_189 zN_X4_copy (Nat.le_of_ble_eq_true rfl) ?_
    refine c_X4_copy (by decide) (by decide) (wk_50 hh) (wk_43 hh) ?_
    show R 36 _ _ _
    refine z_aload_n hR dX4_restore_36 rfl rfl ?_
    refine g_get hR dX4_restore_37 zf_4_43 (wk_39 _) (show _ = some (Value.ref 51) from rfl) ?_
    refine z_aload_n hR dX4_restore_40 rfl rfl ?_
    refine g_get hR dX4_restore_41 zf_4_34 (wk_39 _) (show _ = some (Value.ref 48) from rfl) ?_
    refine g_sta2 hR dX4_restore_44 zm_4_189 zN_X4_copy (Nat.le_of_ble_eq_true rfl) ?_
    refine c_X4_copy (by decide) (by decide) (wk_51 hh) (wk_48 hh) ?_
    show R 47 _ _ _
    refine z_aload_n hR dX4_restore_47 rfl rfl ?_
    refine z_aload_n hR dX4_restore_48 rfl rfl ?_
    refine g_get hR dX4_restore_49 zf_4_229 (wk_39 _) rfl ?_
    refine g_put hR dX4_restore_52 zf_4_76 (wk_39 _) (Nat.le_of_ble_eq_true rfl) rfl rfl rfl rfl ?_
    refine z_aload_n hR dX4_restore_55 rfl rfl ?_
    refine z_aload_n hR dX4_restore_56 rfl rfl ?_
    refine g_get hR dX4_restore_57 zf_4_232 (wk_39 _) rfl ?_
    refine g_put hR dX4_restore_60 zf_4_79 (wk_39 _) (Nat.le_of_ble_eq_true rfl) rfl rfl rfl rfl ?_
    refine z_aload_n hR dX4_restore_63 rfl rfl ?_
    refine z_aload_n hR dX4_restore_64 rfl rfl ?_
    refine g_get hR dX4_restore_65 zf_4_235 (wk_39 _) rfl ?_
    refine g_put hR dX4_restore_68 zf_4_67 (wk_39 _) (Nat.le_of_ble_eq_true rfl) rfl rfl rfl rfl ?_
    refine z_aload_n hR dX4_restore_71 rfl rfl ?_
    refine z_aload_n hR dX4_restore_72 rfl rfl ?_
    refine g_get hR dX4_restore_73 zf_4_238 (wk_39 _) rfl ?_
    refine g_put hR dX4_restore_76 zf_4_70 (wk_39 _) (Nat.le_of_ble_eq_true rfl) rfl rfl rfl rfl ?_
    refine z_aload_n hR dX4_restore_79 rfl rfl ?_
    refine z_aload_n hR dX4_restore_80 rfl rfl ?_
    refine g_get hR dX4_restore_81 zf_4_241 (wk_39 _) rfl ?_
    refine g_put hR dX4_restore_84 zf_4_73 (wk_39 _) (Nat.le_of_ble_eq_true rfl) rfl rfl rfl rfl ?_
    refine z_aload_n hR dX4_restore_87 rfl rfl ?_
    refine z_aload_n hR dX4_restore_88 rfl rfl ?_
    refine g_get hR dX4_restore_89 zf_4_244 (wk_39 _) rfl ?_
    refine g_put hR dX4_restore_92 zf_4_82 (wk_39 _) (Nat.le_of_ble_eq_true rfl) rfl rfl rfl rfl ?_
    simp only [gr_gr, gr_s]
    refine z_aload_n hR dX4_restore_95 rfl rfl ?_
    refine g_get hR dX4_restore_96 zf_4_70 (wk_39 _) rfl ?_
    refine g_iret hR dX4_restore_99 rfl ?_
    exact h2 c8
  · refine g_bipush hR dX4_restore_11 ?_
    refine g_iret hR dX4_restore_13 rfl ?_
    exact h1 c8
theorem op_image {zs : zzT} {c : Nat} {g : Nat → Nat → Int} {hh : Int64} (hz : zsok zs) (h : Rel c g) (hc : c < 512)  : opOK zs 68 127 [.ref 0] [.ref 39] c g hh := by
  obtain ⟨hc0, hpage, hnum, hcur, ⟨n, m, an, sn, rp, ea, eb, hS, hH⟩, himg⟩ := id h
  have hk := SS_WK hc0 hcur hS
  have hp := SS_MP hc0 hcur hS
  have hs1 : g 0 2 = 0 ∨ g 0 2 = 1 := by rw [hnum.1.1]; exact hnum.1.2
  have e02 := hnum.1.1
  have hS0 : RNow c g := h.2.2.2.2.1
  have hwr : ∀ k, k < sn → g 27 k = 0 ∨ g 27 k = 1 := fun k hk => (hH.2.2.2 k hk).2.1
  by_cases hB : g 0 2 = 0
  · exact op_id (r := -103) (by unfold rg; omega) h hc (fun Q q => c_X3_image hs1 hH.1 hH.2.2.1 hwr (fun _ => q) (fun x => absurd hB x)) (fun Q q => c_X4_image hnum.1.2 (fun _ => q) (fun x => absurd (e02 ▸ hB) x))
  · have hB2 : ¬ g 39 2 = 0 := e02 ▸ hB
    refine ⟨g 2 10, fun g3 => ∃ g1 g2, cpd g 9 2 g1 ∧ cph g1 28 23 g2 ∧ g3 = gr g2 0 (iu (g2 0) 3 1), by have := hk.2.2.2.2.2.1; unfold rg; omega, fun Q q => c_X3_image hs1 hH.1 hH.2.2.1 hwr (fun x => absurd x hB) (fun _ g1 g2 a b => q _ ⟨g1, g2, a, b, rfl⟩), ?_⟩
    rintro g3 ⟨g1, g2, hcp1, hcp2, rfl⟩ Q q
    have row : ∀ b, b ≠ 0 → ¬ (9 ≤ b ∧ b ≤ 15) → ¬ (28 ≤ b ∧ b ≤ 32) → (gr g2 0 (iu (g2 0) 3 1)) b = g b := fun b h0 h1 h2 => funext fun k => by rw [gr_n _ _ h0, hcp2.2.2 b k (by omega), hcp1.2.2.2 b k (by omega)]
    have row0 : (gr g2 0 (iu (g2 0) 3 1)) 0 = iu (g 0) 3 1 := by rw [gr_s]; congr 1; funext k; rw [hcp2.2.2 0 k (by omega), hcp1.2.2.2 0 k (by omega)]
    have rowK : ∀ b, 9 ≤ b → b ≤ 15 → (gr g2 0 (iu (g2 0) 3 1)) b = g1 b := fun b h0 h1 => funext fun k => by rw [gr_n _ _ (by omega), hcp2.2.2 b k (by omega)]
    have rowS : ∀ b, 28 ≤ b → b ≤ 32 → (gr g2 0 (iu (g2 0) 3 1)) b = g2 b := fun b h0 h1 => funext fun k => by rw [gr_n _ _ (by omega)]
    generalize hg3 : gr g2 0 (iu (g2 0) 3 1) = g3 at row row0 rowK rowS ⊢
    have e1 : g1 23 4 = g 23 4 := hcp1.2.2.2 23 4 (by omega)
    have shl : ∀ i, 1 ≤ i → i ≤ 4 → ∀ k : Nat, (k : Int) < g 23 4 → g2 (28 + i) k = g (23 + i) k := fun i a b k hk => by rw [hcp2.1 i a b k (by rw [e1]; exact hk), hcp1.2.2.2 (23 + i) k (by omega)]
    refine c_X4_image (by rw [row 39 (by omega) (by omega) (by omega)]; exact hnum.1.2) (fun x => absurd x (by rw [row 39 (by omega) (by omega) (by omega)]; exact hB2)) (fun _ => qi (q _ ?_) (by rw [row 39 (by omega) (by omega) (by omega)]; exact hS.2.2.2.2.1.1.symm))
    have hs := Rel_step h hc
    have hSn := SH_cp hs.2.2.2.2.1 (o1 := g3 9) (kd1 := g3 11) (sz1 := g3 12) (pl1 := g3 13) (rpI1 := g3 14) (ptI1 := g3 15) (rows1 := cpyI 20 (g3 42) (g3 49)) (ropes1 := cpyI 12 (g3 43) (g3 50)) (one1 := g3 29) (oth1 := g3 30) (whn1 := g3 31) (wre1 := g3 32) (sh1 := cpyI 32 (g3 48) (g3 51)) (by rw [rowK 9 (by omega) (by omega)]; exact hcp1.2.2.1) (by rw [rowK 11 (by omega) (by omega)]; exact hcp1.2.1 2 (by omega) (by omega)) (by rw [rowK 12 (by omega) (by omega)]; exact hcp1.2.1 3 (by omega) (by omega)) (by rw [rowK 13 (by omega) (by omega)]; exact hcp1.2.1 4 (by omega) (by omega)) (by rw [rowK 14 (by omega) (by omega)]; exact hcp1.2.1 5 (by omega) (by omega)) (by rw [rowK 15 (by omega) (by omega)]; exact hcp1.2.1 6 (by omega) (by omega)) (by rw [row 42 (by omega) (by omega) (by omega)]; exact cpyI_in) (by rw [row 43 (by omega) (by omega) (by omega)]; exact cpyI_in) (by rw [rowS 29 (by omega) (by omega), rowS 30 (by omega) (by omega), rowS 31 (by omega) (by omega), rowS 32 (by omega) (by omega)]; exact fun k hk => ⟨shl 1 (by omega) (by omega) k hk, shl 2 (by omega) (by omega) k hk, shl 3 (by omega) (by omega) k hk, shl 4 (by omega) (by omega) k hk⟩) (by rw [row 48 (by omega) (by omega) (by omega)]; exact cpyI_in)
    have e28 : g3 28 4 = g 23 4 := by rw [rowS 28 (by omega) (by omega), hcp2.2.1, e1]
    have k10 : ∀ j, j < 12 → g3 10 j = g 3 j := by rw [rowK 10 (by omega) (by omega)]; exact hcp1.1
    have r1 : RPage g3 := by unfold RPage; rw [row0, row 39 (by omega) (by omega) (by omega), row 1 (by omega) (by omega) (by omega), row 40 (by omega) (by omega) (by omega)]; exact hs.2.1
    have r2 : RNum (c + 1) g3 := by unfold RNum; rw [row0, row 39 (by omega) (by omega) (by omega)]; exact hs.2.2.1
    have r3 : RCur g3 := by unfold RCur; rw [row 3 (by omega) (by omega) (by omega), row 41 (by omega) (by omega) (by omega)]; exact hs.2.2.2.1
    have r4 : RNow (c + 1) g3 := by unfold RNow; rw [row 2 (by omega) (by omega) (by omega), row 4 (by omega) (by omega) (by omega), row 5 (by omega) (by omega) (by omega), row 6 (by omega) (by omega) (by omega), row 7 (by omega) (by omega) (by omega), row 8 (by omega) (by omega) (by omega), row 23 (by omega) (by omega) (by omega), row 24 (by omega) (by omega) (by omega), row 25 (by omega) (by omega) (by omega), row 26 (by omega) (by omega) (by omega), row 27 (by omega) (by omega) (by omega), row 39 (by omega) (by omega) (by omega), row 42 (by omega) (by omega) (by omega), row 43 (by omega) (by omega) (by omega), row 48 (by omega) (by omega) (by omega)]; exact hs.2.2.2.2.1
    rw [← e28, ← row 39 (by omega) (by omega) (by omega)] at hSn
    refine ⟨hs.1, r1, r2, r3, r4, Or.inr ⟨?_, rfl, ?_, hSn⟩⟩
    · show g3 0 3 = 1
      rw [row0]; rfl
    · show ∀ j, j < 12 → g3 10 j = g3 3 j
      rw [row 3 (by omega) (by omega) (by omega)]; exact k10
theorem op_restore {zs : zzT} {c : Nat} {g : Nat → Nat → Int} {hh : Int64} (hz : zsok zs) (h : Rel c g) (hc : c < 512)  : opOK zs 70 128 [.ref 0] [.ref 39] c g hh := by
  obtain ⟨hc0, hpage, hnum, hcur, ⟨n, m, an, sn, rp, ea, eb, hS, hH⟩, himg⟩ := id h
  have hk := SS_WK hc0 hcur hS
  have hp := SS_MP hc0 hcur hS
  have hs0 : g 0 3 = 0 ∨ g 0 3 = 1 := by rcases himg with q | q; exact Or.inl q.1; exact Or.inr q.1
  have h25 : rg (g 39 25) := by rcases himg with q | q <;> (have := hnum.2.1.2; have := q.2; unfold rg; omega)
  have h6 : rg (g 39 6) := by have := hnum.2.1.2; unfold rg; omega
  by_cases hB : g 0 3 = 0
  · have hne : g 39 25 ≠ g 39 6 := by rcases himg with q | q <;> omega
    exact op_id (r := -103) (by unfold rg; omega) h hc (fun Q q => c_X3_restore (sn := 0) hs0 (fun x => absurd hB x) (fun x => absurd hB x) (fun x => absurd hB x) (fun _ => q) (fun x => absurd hB x)) (fun Q q => c_X4_restore h25 h6 (fun _ => q) (fun x => absurd x hne))
  · have himg := himg.resolve_left (fun z => hB z.1)
    obtain ⟨n1, m1, an1, sn1, rp1, ea1, eb1, hS1, hH1⟩ := himg.2.2.2
    have hda := hS1.2.2.2.2.1
    refine ⟨g 9 10, fun g2 => ∃ g1, cpd g 2 9 g1 ∧ cph g1 23 28 g2, by unfold rg; omega, fun Q q => c_X3_restore hs0 (fun _ => hH1.1) (fun _ => hH1.2.2.1) (fun _ k hk => (hH1.2.2.2 k hk).2.1) (fun x => absurd x hB) (fun _ g1 g2 a b => q _ ⟨g1, a, b⟩), ?_⟩
    rintro g3 ⟨g1, hcp1, hcp2⟩ Q q
    have row : ∀ b, ¬ (2 ≤ b ∧ b ≤ 8) → ¬ (23 ≤ b ∧ b ≤ 27) → g3 b = g b := fun b h1 h2 => funext fun k => by rw [hcp2.2.2 b k (by omega), hcp1.2.2.2 b k (by omega)]
    have rowK : ∀ b, 2 ≤ b → b ≤ 8 → g3 b = g1 b := fun b h0 h1 => funext fun k => by rw [hcp2.2.2 b k (by omega)]
    have e1 : g1 28 4 = g 28 4 := hcp1.2.2.2 28 4 (by omega)
    have shl : ∀ i, 1 ≤ i → i ≤ 4 → ∀ k : Nat, (k : Int) < g 28 4 → g3 (23 + i) k = g (28 + i) k := fun i a b k hk => by rw [hcp2.1 i a b k (by rw [e1]; exact hk), hcp1.2.2.2 (28 + i) k (by omega)]
    have r39 := row 39 (by omega) (by omega)
    refine c_X4_restore (by rw [r39]; exact h25) (by rw [r39]; exact h6) (fun x => absurd (by rw [r39]; exact himg.2.1) x) (fun _ => qi (q _ ?_) (by rw [r39]; exact hda.1.symm))
    have hs := Rel_step h hc
    have hSn := SH_cp (SH_mono himg.2.2.2 (Nat.le_succ c)) (o1 := g3 2) (kd1 := g3 4) (sz1 := g3 5) (pl1 := g3 6) (rpI1 := g3 7) (ptI1 := g3 8) (rows1 := cpyI 20 (g3 49) (g3 42)) (ropes1 := cpyI 12 (g3 50) (g3 43)) (one1 := g3 24) (oth1 := g3 25) (whn1 := g3 26) (wre1 := g3 27) (sh1 := cpyI 32 (g3 51) (g3 48)) (by rw [rowK 2 (by omega) (by omega)]; exact hcp1.2.2.1) (by rw [rowK 4 (by omega) (by omega)]; exact hcp1.2.1 2 (by omega) (by omega)) (by rw [rowK 5 (by omega) (by omega)]; exact hcp1.2.1 3 (by omega) (by omega)) (by rw [rowK 6 (by omega) (by omega)]; exact hcp1.2.1 4 (by omega) (by omega)) (by rw [rowK 7 (by omega) (by omega)]; exact hcp1.2.1 5 (by omega) (by omega)) (by rw [rowK 8 (by omega) (by omega)]; exact hcp1.2.1 6 (by omega) (by omega)) (by rw [row 49 (by omega) (by omega)]; exact cpyI_in) (by rw [row 50 (by omega) (by omega)]; exact cpyI_in) (fun k hk => ⟨shl 1 (by omega) (by omega) k hk, shl 2 (by omega) (by omega) k hk, shl 3 (by omega) (by omega) k hk, shl 4 (by omega) (by omega) k hk⟩) (by rw [row 51 (by omega) (by omega)]; exact cpyI_in)
    have e23 : g3 23 4 = g 28 4 := by rw [hcp2.2.1, e1]
    have k3 : ∀ j, j < 12 → g3 3 j = g 3 j := fun j hj => by rw [rowK 3 (by omega) (by omega)]; exact (hcp1.1 j hj).trans (himg.2.2.1 j hj)
    have r1 : RPage g3 := by unfold RPage; rw [row 0 (by omega) (by omega), row 39 (by omega) (by omega), row 1 (by omega) (by omega), row 40 (by omega) (by omega)]; exact hs.2.1
    have r2 : RNum (c + 1) g3 := by unfold RNum; rw [row 0 (by omega) (by omega), row 39 (by omega) (by omega)]; exact hs.2.2.1
    have r3 : RCur g3 := by unfold RCur; intro j hj; rw [k3 j hj, row 41 (by omega) (by omega)]; exact hs.2.2.2.1 j hj
    rw [← e23, ← r39] at hSn
    refine ⟨hs.1, r1, r2, r3, hSn, Or.inr ⟨?_, ?_, ?_, ?_⟩⟩
    · show g3 0 3 = 1
      rw [row 0 (by omega) (by omega)]; exact himg.1
    · show g3 39 25 = g3 39 6
      rw [r39]; exact himg.2.1
    · show ∀ j, j < 12 → g3 10 j = g3 3 j
      rw [row 10 (by omega) (by omega)]; exact fun j hj => by rw [k3 j hj]; exact himg.2.2.1 j hj
    · show SH (g3 9) (g3 11) (g3 12) (g3 13) (g3 14) (g3 15) (g3 39 26) (g3 39 27) (g3 39 28) (g3 39 29) (g3 39 30) (g3 49) (g3 50) (g3 28 4) (g3 39 31) (g3 29) (g3 30) (g3 31) (g3 32) (g3 51) (c + 1)
      rw [row 9 (by omega) (by omega), row 11 (by omega) (by omega), row 12 (by omega) (by omega), row 13 (by omega) (by omega), row 14 (by omega) (by omega), row 15 (by omega) (by omega), r39, row 49 (by omega) (by omega), row 50 (by omega) (by omega), row 28 (by omega) (by omega), row 29 (by omega) (by omega), row 30 (by omega) (by omega), row 31 (by omega) (by omega), row 32 (by omega) (by omega), row 51 (by omega) (by omega)]
      exact SH_mono himg.2.2.2 (Nat.le_succ c)
