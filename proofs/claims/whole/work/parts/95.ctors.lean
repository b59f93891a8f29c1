/-! THE FIVE CONSTRUCTORS -/
def dfX0 : List Value := [.null, .null, .null, .null, .int (iI 0), .int (iI 0), .int (iI 0)]
theorem dfX0_ok : ∀ j, j < zzNN 0 → defaultValue (zzty 0 j) = vp_V dfX0 j := by
  intro j hj
  have hj : j < 7 := hj
  match j, hj with
  | 0, _ => rfl
  | 1, _ => rfl
  | 2, _ => rfl
  | 3, _ => rfl
  | 4, _ => rfl
  | 5, _ => rfl
  | 6, _ => rfl
  | n + 7, h => exact absurd h (by omega)
set_option maxRecDepth 100000 in
theorem ziw_0 : (Cond.code yX0_init cX0_init 1 none ∈ zzT0 ∧ Cond.initialized yX0_init.cls ∈ zzT0 ∧ Cond.instanceMethod yX0_init ∈ zzT0) ∧ (Cond.instantiable (zzR 0) (zzNN 0) ∈ zzT0 ∧ Cond.initialized (zzR 0) ∈ zzT0 ∧ Cond.methodLink (zzR 0) 3 objectInit ∈ zzT0) := ⟨⟨zzin_mem (by decide +kernel), zzin_mem (by decide +kernel), zzin_mem (by decide +kernel)⟩, zzin_mem (by decide +kernel), zzin_mem (by decide +kernel), zzin_mem (by decide +kernel)⟩
theorem zid_0 : yX0_init.cls ≠ "java/lang/invoke/MethodHandle" ∧ yX0_init.cls ≠ "java/lang/invoke/VarHandle" ∧ (parseMethodDescriptor yX0_init.desc).map (fun d => d.parameters.length) = some 0 := by decide +kernel
def dfX1 : List Value := [.null, .null, .null, .null, .int (iI 0)]
theorem dfX1_ok : ∀ j, j < zzNN 1 → defaultValue (zzty 1 j) = vp_V dfX1 j := by
  intro j hj
  have hj : j < 5 := hj
  match j, hj with
  | 0, _ => rfl
  | 1, _ => rfl
  | 2, _ => rfl
  | 3, _ => rfl
  | 4, _ => rfl
  | n + 5, h => exact absurd h (by omega)
set_option maxRecDepth 100000 in
theorem ziw_1 : (Cond.code yX1_init cX1_init 1 none ∈ zzT0 ∧ Cond.initialized yX1_init.cls ∈ zzT0 ∧ Cond.instanceMethod yX1_init ∈ zzT0) ∧ (Cond.instantiable (zzR 1) (zzNN 1) ∈ zzT0 ∧ Cond.initialized (zzR 1) ∈ zzT0 ∧ Cond.methodLink (zzR 1) 3 objectInit ∈ zzT0) := ⟨⟨zzin_mem (by decide +kernel), zzin_mem (by decide +kernel), zzin_mem (by decide +kernel)⟩, zzin_mem (by decide +kernel), zzin_mem (by decide +kernel), zzin_mem (by decide +kernel)⟩
theorem zid_1 : yX1_init.cls ≠ "java/lang/invoke/MethodHandle" ∧ yX1_init.cls ≠ "java/lang/invoke/VarHandle" ∧ (parseMethodDescriptor yX1_init.desc).map (fun d => d.parameters.length) = some 0 := by decide +kernel
def dfX2 : List Value := [.null, .null, .null, .null, .null, .null, .int (iI 0), .int (iI 0), .int (iI 0), .int (iI 0), .int (iI 0), .int (iI 0)]
theorem dfX2_ok : ∀ j, j < zzNN 2 → defaultValue (zzty 2 j) = vp_V dfX2 j := by
  intro j hj
  have hj : j < 12 := hj
  match j, hj with
  | 0, _ => rfl
  | 1, _ => rfl
  | 2, _ => rfl
  | 3, _ => rfl
  | 4, _ => rfl
  | 5, _ => rfl
  | 6, _ => rfl
  | 7, _ => rfl
  | 8, _ => rfl
  | 9, _ => rfl
  | 10, _ => rfl
  | 11, _ => rfl
  | n + 12, h => exact absurd h (by omega)
set_option maxRecDepth 100000 in
theorem ziw_2 : (Cond.code yX2_init cX2_init 1 none ∈ zzT0 ∧ Cond.initialized yX2_init.cls ∈ zzT0 ∧ Cond.instanceMethod yX2_init ∈ zzT0) ∧ (Cond.instantiable (zzR 2) (zzNN 2) ∈ zzT0 ∧ Cond.initialized (zzR 2) ∈ zzT0 ∧ Cond.methodLink (zzR 2) 3 objectInit ∈ zzT0) := ⟨⟨zzin_mem (by decide +kernel), zzin_mem (by decide +kernel), zzin_mem (by decide +kernel)⟩, zzin_mem (by decide +kernel), zzin_mem (by decide +kernel), zzin_mem (by decide +kernel)⟩
theorem zid_2 : yX2_init.cls ≠ "java/lang/invoke/MethodHandle" ∧ yX2_init.cls ≠ "java/lang/invoke/VarHandle" ∧ (parseMethodDescriptor yX2_init.desc).map (fun d => d.parameters.length) = some 0 := by decide +kernel
def dfX3 : List Value := [.null, .int (iI 0), .int (iI 0), .int (iI 0), .int (iI 0), .int (iI 0), .null, .null, .null, .null, .null, .null, .null]
theorem dfX3_ok : ∀ j, j < zzNN 3 → defaultValue (zzty 3 j) = vp_V dfX3 j := by
  intro j hj
  have hj : j < 13 := hj
  match j, hj with
  | 0, _ => rfl
  | 1, _ => rfl
  | 2, _ => rfl
  | 3, _ => rfl
  | 4, _ => rfl
  | 5, _ => rfl
  | 6, _ => rfl
  | 7, _ => rfl
  | 8, _ => rfl
  | 9, _ => rfl
  | 10, _ => rfl
  | 11, _ => rfl
  | 12, _ => rfl
  | n + 13, h => exact absurd h (by omega)
set_option maxRecDepth 100000 in
theorem ziw_3 : (Cond.code yX3_init cX3_init 1 none ∈ zzT0 ∧ Cond.initialized yX3_init.cls ∈ zzT0 ∧ Cond.instanceMethod yX3_init ∈ zzT0) ∧ (Cond.instantiable (zzR 3) (zzNN 3) ∈ zzT0 ∧ Cond.initialized (zzR 3) ∈ zzT0 ∧ Cond.methodLink (zzR 3) 1 objectInit ∈ zzT0) := ⟨⟨zzin_mem (by decide +kernel), zzin_mem (by decide +kernel), zzin_mem (by decide +kernel)⟩, zzin_mem (by decide +kernel), zzin_mem (by decide +kernel), zzin_mem (by decide +kernel)⟩
theorem zid_3 : yX3_init.cls ≠ "java/lang/invoke/MethodHandle" ∧ yX3_init.cls ≠ "java/lang/invoke/VarHandle" ∧ (parseMethodDescriptor yX3_init.desc).map (fun d => d.parameters.length) = some 0 := by decide +kernel
def dfX4 : List Value := [.null, .int (iI 0), .int (iI 0), .int (iI 0), .int (iI 0), .int (iI 0), .int (iI 0), .null, .int (iI 0), .int (iI 0), .null, .null, .null, .int (iI 0), .int (iI 0), .int (iI 0), .int (iI 0), .null, .null, .null, .int (iI 0), .int (iI 0), .int (iI 0), .null, .int (iI 0), .int (iI 0), .int (iI 0), .int (iI 0), .int (iI 0), .int (iI 0), .int (iI 0), .int (iI 0), .null, .null, .null, .long 0]
theorem dfX4_ok : ∀ j, j < zzNN 4 → defaultValue (zzty 4 j) = vp_V dfX4 j := by
  intro j hj
  have hj : j < 36 := hj
  match j, hj with
  | 0, _ => rfl
  | 1, _ => rfl
  | 2, _ => rfl
  | 3, _ => rfl
  | 4, _ => rfl
  | 5, _ => rfl
  | 6, _ => rfl
  | 7, _ => rfl
  | 8, _ => rfl
  | 9, _ => rfl
  | 10, _ => rfl
  | 11, _ => rfl
  | 12, _ => rfl
  | 13, _ => rfl
  | 14, _ => rfl
  | 15, _ => rfl
  | 16, _ => rfl
  | 17, _ => rfl
  | 18, _ => rfl
  | 19, _ => rfl
  | 20, _ => rfl
  | 21, _ => rfl
  | 22, _ => rfl
  | 23, _ => rfl
  | 24, _ => rfl
  | 25, _ => rfl
  | 26, _ => rfl
  | 27, _ => rfl
  | 28, _ => rfl
  | 29, _ => rfl
  | 30, _ => rfl
  | 31, _ => rfl
  | 32, _ => rfl
  | 33, _ => rfl
  | 34, _ => rfl
  | 35, _ => rfl
  | n + 36, h => exact absurd h (by omega)
set_option maxRecDepth 100000 in
theorem ziw_4 : (Cond.code yX4_init cX4_init 1 none ∈ zzT0 ∧ Cond.initialized yX4_init.cls ∈ zzT0 ∧ Cond.instanceMethod yX4_init ∈ zzT0) ∧ (Cond.instantiable (zzR 4) (zzNN 4) ∈ zzT0 ∧ Cond.initialized (zzR 4) ∈ zzT0 ∧ Cond.methodLink (zzR 4) 1 objectInit ∈ zzT0) := ⟨⟨zzin_mem (by decide +kernel), zzin_mem (by decide +kernel), zzin_mem (by decide +kernel)⟩, zzin_mem (by decide +kernel), zzin_mem (by decide +kernel), zzin_mem (by decide +kernel)⟩
theorem zid_4 : yX4_init.cls ≠ "java/lang/invoke/MethodHandle" ∧ yX4_init.cls ≠ "java/lang/invoke/VarHandle" ∧ (parseMethodDescriptor yX4_init.desc).map (fun d => d.parameters.length) = some 0 := by decide +kernel
set_option maxRecDepth 100000 in
theorem zicl_2 : Cond.classLink (zzR 3) 30 (zzR 2) ∈ zzT0 := zzin_mem (by decide +kernel)
set_option maxRecDepth 100000 in
theorem zicl_1 : Cond.classLink (zzR 3) 43 (zzR 1) ∈ zzT0 := zzin_mem (by decide +kernel)
set_option maxRecDepth 100000 in
theorem zicl_0 : Cond.classLink (zzR 3) 56 (zzR 0) ∈ zzT0 := zzin_mem (by decide +kernel)
set_option maxRecDepth 100000 in
theorem zinl_2 : Cond.methodLinkNest (zzR 3) 32 yX2_init "IslandsWed" ∈ zzN0 := zzinN_mem (by decide +kernel)
set_option maxRecDepth 100000 in
theorem zinl_1 : Cond.methodLinkNest (zzR 3) 45 yX1_init "IslandsWed" ∈ zzN0 := zzinN_mem (by decide +kernel)
set_option maxRecDepth 100000 in
theorem zinl_0 : Cond.methodLinkNest (zzR 3) 58 yX0_init "IslandsWed" ∈ zzN0 := zzinN_mem (by decide +kernel)
abbrev arI (c : ClassId) (n : Nat) : va_E := .inl (c, n, .inl (fun _ => iI 0))
def fX2 (cI cZ : ClassId) (u : Nat → Nat) : va_W := [(u 0, .inr (2, [.ref (u 1), .ref (u 2), .ref (u 3), .ref (u 4), .ref (u 5), .ref (u 6), .int (iI 0), .int (iI 0), .int (iI 0), .int (iI 0), .int (iI 0), .int (iI 0)])), (u 1, arI cI 12), (u 2, arI cI 5), (u 3, arI cI 5), (u 4, arI cI 5), (u 5, arI cI 5), (u 6, arI cI 5)]
set_option maxHeartbeats 4000000 in
set_option maxRecDepth 100000 in
theorem ci_X2 (l : Launch) (D : va_G) (cI cZ : ClassId) (h0 : Nat) : ∀ sz : Nat, Met l yX2_init (ziws yX2_init cX2_init) { frames := 1, cells := 6, slots := 37, locals := 12 } (ziPc D cI cZ h0 (.inr (2, dfX2)) sz) (ziQc D (fX2 cI cZ) h0 (.inr (2, dfX2)) sz) 6 37 (va_A [(h0, .inr (2, dfX2))] sz) := by
  refine zi_met (o := 2) (by decide +kernel) rfl rfl (fun p e s m args below meth c ls1 A Z C hin hl hsz hret => ?_)
  refine zi_aload C dX2_init_0 rfl hl ?_
  refine zi_obj C dX2_init_1 ziw_2.2.2.2 hsz (Nat.le_of_ble_eq_true rfl) (Nat.le_of_ble_eq_true rfl) ?_
  refine zi_aload C dX2_init_4 rfl hl ?_
  refine zi_bipush C dX2_init_5 ?_
  refine zi_newi C (N := 12) dX2_init_7 (Nat.le_of_ble_eq_true rfl) (Nat.le_of_ble_eq_true rfl) (Nat.le_of_ble_eq_true rfl) (fun q1 => ?_)
  refine zi_putF C hin dX2_init_9 zf_2_9 rfl rfl rfl rfl (Nat.le_of_ble_eq_true rfl) ?_
  refine zi_aload C dX2_init_12 rfl hl ?_
  refine zi_iconst C dX2_init_13 ?_
  refine zi_newi C (N := 5) dX2_init_14 (Nat.le_of_ble_eq_true rfl) (Nat.le_of_ble_eq_true rfl) (Nat.le_of_ble_eq_true rfl) (fun q2 => ?_)
  refine zi_putF C hin dX2_init_16 zf_2_15 rfl rfl rfl rfl (Nat.le_of_ble_eq_true rfl) ?_
  refine zi_aload C dX2_init_19 rfl hl ?_
  refine zi_iconst C dX2_init_20 ?_
  refine zi_newi C (N := 5) dX2_init_21 (Nat.le_of_ble_eq_true rfl) (Nat.le_of_ble_eq_true rfl) (Nat.le_of_ble_eq_true rfl) (fun q3 => ?_)
  refine zi_putF C hin dX2_init_23 zf_2_18 rfl rfl rfl rfl (Nat.le_of_ble_eq_true rfl) ?_
  refine zi_aload C dX2_init_26 rfl hl ?_
  refine zi_iconst C dX2_init_27 ?_
  refine zi_newi C (N := 5) dX2_init_28 (Nat.le_of_ble_eq_true rfl) (Nat.le_of_ble_eq_true rfl) (Nat.le_of_ble_eq_true rfl) (fun q4 => ?_)
  refine zi_putF C hin dX2_init_30 zf_2_21 rfl rfl rfl rfl (Nat.le_of_ble_eq_true rfl) ?_
  refine zi_aload C dX2_init_33 rfl hl ?_
  refine zi_iconst C dX2_init_34 ?_
  refine zi_newi C (N := 5) dX2_init_35 (Nat.le_of_ble_eq_true rfl) (Nat.le_of_ble_eq_true rfl) (Nat.le_of_ble_eq_true rfl) (fun q5 => ?_)
  refine zi_putF C hin dX2_init_37 zf_2_24 rfl rfl rfl rfl (Nat.le_of_ble_eq_true rfl) ?_
  refine zi_aload C dX2_init_40 rfl hl ?_
  refine zi_iconst C dX2_init_41 ?_
  refine zi_newi C (N := 5) dX2_init_42 (Nat.le_of_ble_eq_true rfl) (Nat.le_of_ble_eq_true rfl) (Nat.le_of_ble_eq_true rfl) (fun q6 => ?_)
  refine zi_putF C hin dX2_init_44 zf_2_27 rfl rfl rfl rfl (Nat.le_of_ble_eq_true rfl) ?_
  refine zi_aload C dX2_init_47 rfl hl ?_
  refine zi_iconst C dX2_init_48 ?_
  refine zi_puti C dX2_init_49 zf_2_30 rfl rfl rfl (Nat.le_of_ble_eq_true rfl) ?_
  refine zi_aload C dX2_init_52 rfl hl ?_
  refine zi_iconst C dX2_init_53 ?_
  refine zi_puti C dX2_init_54 zf_2_34 rfl rfl rfl (Nat.le_of_ble_eq_true rfl) ?_
  refine zi_aload C dX2_init_57 rfl hl ?_
  refine zi_iconst C dX2_init_58 ?_
  refine zi_puti C dX2_init_59 zf_2_37 rfl rfl rfl (Nat.le_of_ble_eq_true rfl) ?_
  refine zi_aload C dX2_init_62 rfl hl ?_
  refine zi_iconst C dX2_init_63 ?_
  refine zi_puti C dX2_init_64 zf_2_40 rfl rfl rfl (Nat.le_of_ble_eq_true rfl) ?_
  refine zi_aload C dX2_init_67 rfl hl ?_
  refine zi_iconst C dX2_init_68 ?_
  refine zi_puti C dX2_init_69 zf_2_43 rfl rfl rfl (Nat.le_of_ble_eq_true rfl) ?_
  refine zi_aload C dX2_init_72 rfl hl ?_
  refine zi_iconst C dX2_init_73 ?_
  refine zi_puti C dX2_init_74 zf_2_46 rfl rfl rfl (Nat.le_of_ble_eq_true rfl) ?_
  exact hret 77 (fun k => ([h0, q1, q2, q3, q4, q5, q6] : List Nat).getD k 0) _ dX2_init_77 rfl rfl
def fX1 (cI cZ : ClassId) (u : Nat → Nat) : va_W := [(u 0, .inr (1, [.ref (u 1), .ref (u 2), .ref (u 3), .ref (u 4), .int (iI 0)])), (u 1, arI cI 8), (u 2, arI cI 8), (u 3, arI cI 8), (u 4, arI cZ 8)]
set_option maxHeartbeats 4000000 in
set_option maxRecDepth 100000 in
theorem ci_X1 (l : Launch) (D : va_G) (cI cZ : ClassId) (h0 : Nat) : ∀ sz : Nat, Met l yX1_init (ziws yX1_init cX1_init) { frames := 1, cells := 4, slots := 32, locals := 12 } (ziPc D cI cZ h0 (.inr (1, dfX1)) sz) (ziQc D (fX1 cI cZ) h0 (.inr (1, dfX1)) sz) 4 32 (va_A [(h0, .inr (1, dfX1))] sz) := by
  refine zi_met (o := 1) (by decide +kernel) rfl rfl (fun p e s m args below meth c ls1 A Z C hin hl hsz hret => ?_)
  refine zi_aload C dX1_init_0 rfl hl ?_
  refine zi_obj C dX1_init_1 ziw_1.2.2.2 hsz (Nat.le_of_ble_eq_true rfl) (Nat.le_of_ble_eq_true rfl) ?_
  refine zi_aload C dX1_init_4 rfl hl ?_
  refine zi_bipush C dX1_init_5 ?_
  refine zi_newi C (N := 8) dX1_init_7 (Nat.le_of_ble_eq_true rfl) (Nat.le_of_ble_eq_true rfl) (Nat.le_of_ble_eq_true rfl) (fun q1 => ?_)
  refine zi_putF C hin dX1_init_9 zf_1_9 rfl rfl rfl rfl (Nat.le_of_ble_eq_true rfl) ?_
  refine zi_aload C dX1_init_12 rfl hl ?_
  refine zi_bipush C dX1_init_13 ?_
  refine zi_newi C (N := 8) dX1_init_15 (Nat.le_of_ble_eq_true rfl) (Nat.le_of_ble_eq_true rfl) (Nat.le_of_ble_eq_true rfl) (fun q2 => ?_)
  refine zi_putF C hin dX1_init_17 zf_1_15 rfl rfl rfl rfl (Nat.le_of_ble_eq_true rfl) ?_
  refine zi_aload C dX1_init_20 rfl hl ?_
  refine zi_bipush C dX1_init_21 ?_
  refine zi_newi C (N := 8) dX1_init_23 (Nat.le_of_ble_eq_true rfl) (Nat.le_of_ble_eq_true rfl) (Nat.le_of_ble_eq_true rfl) (fun q3 => ?_)
  refine zi_putF C hin dX1_init_25 zf_1_18 rfl rfl rfl rfl (Nat.le_of_ble_eq_true rfl) ?_
  refine zi_aload C dX1_init_28 rfl hl ?_
  refine zi_bipush C dX1_init_29 ?_
  refine zi_newz C (N := 8) dX1_init_31 (Nat.le_of_ble_eq_true rfl) (Nat.le_of_ble_eq_true rfl) (Nat.le_of_ble_eq_true rfl) (fun q4 => ?_)
  refine zi_putF C hin dX1_init_33 zf_1_21 rfl rfl rfl rfl (Nat.le_of_ble_eq_true rfl) ?_
  refine zi_aload C dX1_init_36 rfl hl ?_
  refine zi_iconst C dX1_init_37 ?_
  refine zi_puti C dX1_init_38 zf_1_25 rfl rfl rfl (Nat.le_of_ble_eq_true rfl) ?_
  exact hret 41 (fun k => ([h0, q1, q2, q3, q4] : List Nat).getD k 0) _ dX1_init_41 rfl rfl
def fX0 (cI cZ : ClassId) (u : Nat → Nat) : va_W := [(u 0, .inr (0, [.ref (u 1), .ref (u 2), .ref (u 3), .ref (u 4), .int (iI 0), .int (iI 0), .int (iI (-1))])), (u 1, arI cI 5), (u 2, arI cI 5), (u 3, arI cI 5), (u 4, arI cI 5)]
set_option maxHeartbeats 4000000 in
set_option maxRecDepth 100000 in
theorem ci_X0 (l : Launch) (D : va_G) (cI cZ : ClassId) (h0 : Nat) : ∀ sz : Nat, Met l yX0_init (ziws yX0_init cX0_init) { frames := 1, cells := 4, slots := 20, locals := 12 } (ziPc D cI cZ h0 (.inr (0, dfX0)) sz) (ziQc D (fX0 cI cZ) h0 (.inr (0, dfX0)) sz) 4 20 (va_A [(h0, .inr (0, dfX0))] sz) := by
  refine zi_met (o := 0) (by decide +kernel) rfl rfl (fun p e s m args below meth c ls1 A Z C hin hl hsz hret => ?_)
  refine zi_aload C dX0_init_0 rfl hl ?_
  refine zi_obj C dX0_init_1 ziw_0.2.2.2 hsz (Nat.le_of_ble_eq_true rfl) (Nat.le_of_ble_eq_true rfl) ?_
  refine zi_aload C dX0_init_4 rfl hl ?_
  refine zi_iconst C dX0_init_5 ?_
  refine zi_newi C (N := 5) dX0_init_6 (Nat.le_of_ble_eq_true rfl) (Nat.le_of_ble_eq_true rfl) (Nat.le_of_ble_eq_true rfl) (fun q1 => ?_)
  refine zi_putF C hin dX0_init_8 zf_0_9 rfl rfl rfl rfl (Nat.le_of_ble_eq_true rfl) ?_
  refine zi_aload C dX0_init_11 rfl hl ?_
  refine zi_iconst C dX0_init_12 ?_
  refine zi_newi C (N := 5) dX0_init_13 (Nat.le_of_ble_eq_true rfl) (Nat.le_of_ble_eq_true rfl) (Nat.le_of_ble_eq_true rfl) (fun q2 => ?_)
  refine zi_putF C hin dX0_init_15 zf_0_15 rfl rfl rfl rfl (Nat.le_of_ble_eq_true rfl) ?_
  refine zi_aload C dX0_init_18 rfl hl ?_
  refine zi_iconst C dX0_init_19 ?_
  refine zi_newi C (N := 5) dX0_init_20 (Nat.le_of_ble_eq_true rfl) (Nat.le_of_ble_eq_true rfl) (Nat.le_of_ble_eq_true rfl) (fun q3 => ?_)
  refine zi_putF C hin dX0_init_22 zf_0_18 rfl rfl rfl rfl (Nat.le_of_ble_eq_true rfl) ?_
  refine zi_aload C dX0_init_25 rfl hl ?_
  refine zi_iconst C dX0_init_26 ?_
  refine zi_newi C (N := 5) dX0_init_27 (Nat.le_of_ble_eq_true rfl) (Nat.le_of_ble_eq_true rfl) (Nat.le_of_ble_eq_true rfl) (fun q4 => ?_)
  refine zi_putF C hin dX0_init_29 zf_0_21 rfl rfl rfl rfl (Nat.le_of_ble_eq_true rfl) ?_
  refine zi_aload C dX0_init_32 rfl hl ?_
  refine zi_iconst C dX0_init_33 ?_
  refine zi_puti C dX0_init_34 zf_0_24 rfl rfl rfl (Nat.le_of_ble_eq_true rfl) ?_
  refine zi_aload C dX0_init_37 rfl hl ?_
  refine zi_iconst C dX0_init_38 ?_
  refine zi_puti C dX0_init_39 zf_0_28 rfl rfl rfl (Nat.le_of_ble_eq_true rfl) ?_
  refine zi_aload C dX0_init_42 rfl hl ?_
  refine zi_iconst C dX0_init_43 ?_
  refine zi_puti C dX0_init_44 zf_0_31 rfl rfl rfl (Nat.le_of_ble_eq_true rfl) ?_
  exact hret 47 (fun k => ([h0, q1, q2, q3, q4] : List Nat).getD k 0) _ dX0_init_47 rfl rfl
def fX3 (cI cZ : ClassId) (u : Nat → Nat) : va_W := [(u 0, .inr (3, [.ref (u 1), .int (iI 0), .int (iI 0), .int (iI 0), .int (iI 0), .int (iI 0), .ref (u 2), .ref (u 9), .ref (u 16), .ref (u 23), .ref (u 28), .ref (u 33), .ref (u 34)])), (u 1, arI cI 14), (u 2, .inr (2, [.ref (u 3), .ref (u 4), .ref (u 5), .ref (u 6), .ref (u 7), .ref (u 8), .int (iI 0), .int (iI 0), .int (iI 0), .int (iI 0), .int (iI 0), .int (iI 0)])), (u 3, arI cI 12), (u 4, arI cI 5), (u 5, arI cI 5), (u 6, arI cI 5), (u 7, arI cI 5), (u 8, arI cI 5), (u 9, .inr (2, [.ref (u 10), .ref (u 11), .ref (u 12), .ref (u 13), .ref (u 14), .ref (u 15), .int (iI 0), .int (iI 0), .int (iI 0), .int (iI 0), .int (iI 0), .int (iI 0)])), (u 10, arI cI 12), (u 11, arI cI 5), (u 12, arI cI 5), (u 13, arI cI 5), (u 14, arI cI 5), (u 15, arI cI 5), (u 16, .inr (2, [.ref (u 17), .ref (u 18), .ref (u 19), .ref (u 20), .ref (u 21), .ref (u 22), .int (iI 0), .int (iI 0), .int (iI 0), .int (iI 0), .int (iI 0), .int (iI 0)])), (u 17, arI cI 12), (u 18, arI cI 5), (u 19, arI cI 5), (u 20, arI cI 5), (u 21, arI cI 5), (u 22, arI cI 5), (u 23, .inr (1, [.ref (u 24), .ref (u 25), .ref (u 26), .ref (u 27), .int (iI 0)])), (u 24, arI cI 8), (u 25, arI cI 8), (u 26, arI cI 8), (u 27, arI cZ 8), (u 28, .inr (1, [.ref (u 29), .ref (u 30), .ref (u 31), .ref (u 32), .int (iI 0)])), (u 29, arI cI 8), (u 30, arI cI 8), (u 31, arI cI 8), (u 32, arI cZ 8), (u 33, arI cI 25), (u 34, .inr (0, [.ref (u 35), .ref (u 36), .ref (u 37), .ref (u 38), .int (iI 0), .int (iI 0), .int (iI (-1))])), (u 35, arI cI 5), (u 36, arI cI 5), (u 37, arI cI 5), (u 38, arI cI 5)]
set_option maxHeartbeats 4000000 in
set_option maxRecDepth 100000 in
theorem ci_X3 (l : Launch) (D : va_G) (cI cZ : ClassId) (h0 : Nat) : ∀ sz : Nat, Met l yX3_init (ziws yX3_init cX3_init) { frames := 2, cells := 38, slots := 287, locals := 32 } (ziPc D cI cZ h0 (.inr (3, dfX3)) sz) (ziQc D (fX3 cI cZ) h0 (.inr (3, dfX3)) sz) 38 287 (va_A [(h0, .inr (3, dfX3))] sz) := by
  refine zi_met (o := 3) (by decide +kernel) rfl rfl (fun p e s m args below meth c ls1 A Z C hin hl hsz hret => ?_)
  refine zi_aload C dX3_init_0 rfl hl ?_
  refine zi_obj C dX3_init_1 ziw_3.2.2.2 hsz (Nat.le_of_ble_eq_true rfl) (Nat.le_of_ble_eq_true rfl) ?_
  refine zi_aload C dX3_init_4 rfl hl ?_
  refine zi_bipush C dX3_init_5 ?_
  refine zi_newi C (N := 14) dX3_init_7 (Nat.le_of_ble_eq_true rfl) (Nat.le_of_ble_eq_true rfl) (Nat.le_of_ble_eq_true rfl) (fun q1 => ?_)
  refine zi_putF C hin dX3_init_9 zf_3_9 rfl rfl rfl rfl (Nat.le_of_ble_eq_true rfl) ?_
  refine zi_aload C dX3_init_12 rfl hl ?_
  refine zi_iconst C dX3_init_13 ?_
  refine zi_puti C dX3_init_14 zf_3_13 rfl rfl rfl (Nat.le_of_ble_eq_true rfl) ?_
  refine zi_aload C dX3_init_17 rfl hl ?_
  refine zi_iconst C dX3_init_18 ?_
  refine zi_puti C dX3_init_19 zf_3_17 rfl rfl rfl (Nat.le_of_ble_eq_true rfl) ?_
  refine zi_aload C dX3_init_22 rfl hl ?_
  refine zi_iconst C dX3_init_23 ?_
  refine zi_puti C dX3_init_24 zf_3_21 rfl rfl rfl (Nat.le_of_ble_eq_true rfl) ?_
  refine zi_aload C dX3_init_27 rfl hl ?_
  refine zi_iconst C dX3_init_28 ?_
  refine zi_puti C dX3_init_29 zf_3_24 rfl rfl rfl (Nat.le_of_ble_eq_true rfl) ?_
  refine zi_aload C dX3_init_32 rfl hl ?_
  refine zi_iconst C dX3_init_33 ?_
  refine zi_puti C dX3_init_34 zf_3_27 rfl rfl rfl (Nat.le_of_ble_eq_true rfl) ?_
  refine zi_aload C dX3_init_37 rfl hl ?_
  refine zi_new C dX3_init_38 (by decide) zicl_2 ziw_2.2.1 ziw_2.2.2.1 dfX2_ok (N := 12) rfl (Nat.le_of_ble_eq_true rfl) (Nat.le_of_ble_eq_true rfl) (fun q2 => ?_)
  refine zi_dup C dX3_init_41 ?_
  refine zi_callN (ws := _ :: _) C (ci_X2 l D cI cZ q2) dX3_init_42 ziw_2.1.1 ziw_2.1.2.1 ziw_2.1.2.2 zinl_2 rfl zid_2 ⟨rfl, rfl, Nat.le_of_ble_eq_true rfl, Nat.le_of_ble_eq_true rfl⟩ hsz (Nat.le_of_ble_eq_true rfl) ⟨Nat.le_of_ble_eq_true rfl, Nat.le_of_ble_eq_true rfl⟩ (fun u2 e2 => ?_)
  subst e2
  show ziW p l e _ s m args below meth c Z D A ls1 8 63 45 _ (_ :: (_ ++ _))
  refine zi_putF C hin dX3_init_45 zf_3_33 rfl rfl rfl rfl (Nat.le_of_ble_eq_true rfl) ?_
  refine zi_aload C dX3_init_48 rfl hl ?_
  refine zi_new C dX3_init_49 (by decide) zicl_2 ziw_2.2.1 ziw_2.2.2.1 dfX2_ok (N := 12) rfl (Nat.le_of_ble_eq_true rfl) (Nat.le_of_ble_eq_true rfl) (fun q3 => ?_)
  refine zi_dup C dX3_init_52 ?_
  refine zi_callN (ws := _ :: _) C (ci_X2 l D cI cZ q3) dX3_init_53 ziw_2.1.1 ziw_2.1.2.1 ziw_2.1.2.2 zinl_2 rfl zid_2 ⟨rfl, rfl, Nat.le_of_ble_eq_true rfl, Nat.le_of_ble_eq_true rfl⟩ hsz (Nat.le_of_ble_eq_true rfl) ⟨Nat.le_of_ble_eq_true rfl, Nat.le_of_ble_eq_true rfl⟩ (fun u3 e3 => ?_)
  subst e3
  show ziW p l e _ s m args below meth c Z D A ls1 15 112 56 _ (_ :: (_ ++ _))
  refine zi_putF C hin dX3_init_56 zf_3_37 rfl rfl rfl rfl (Nat.le_of_ble_eq_true rfl) ?_
  refine zi_aload C dX3_init_59 rfl hl ?_
  refine zi_new C dX3_init_60 (by decide) zicl_2 ziw_2.2.1 ziw_2.2.2.1 dfX2_ok (N := 12) rfl (Nat.le_of_ble_eq_true rfl) (Nat.le_of_ble_eq_true rfl) (fun q4 => ?_)
  refine zi_dup C dX3_init_63 ?_
  refine zi_callN (ws := _ :: _) C (ci_X2 l D cI cZ q4) dX3_init_64 ziw_2.1.1 ziw_2.1.2.1 ziw_2.1.2.2 zinl_2 rfl zid_2 ⟨rfl, rfl, Nat.le_of_ble_eq_true rfl, Nat.le_of_ble_eq_true rfl⟩ hsz (Nat.le_of_ble_eq_true rfl) ⟨Nat.le_of_ble_eq_true rfl, Nat.le_of_ble_eq_true rfl⟩ (fun u4 e4 => ?_)
  subst e4
  show ziW p l e _ s m args below meth c Z D A ls1 22 161 67 _ (_ :: (_ ++ _))
  refine zi_putF C hin dX3_init_67 zf_3_40 rfl rfl rfl rfl (Nat.le_of_ble_eq_true rfl) ?_
  refine zi_aload C dX3_init_70 rfl hl ?_
  refine zi_new C dX3_init_71 (by decide) zicl_1 ziw_1.2.1 ziw_1.2.2.1 dfX1_ok (N := 5) rfl (Nat.le_of_ble_eq_true rfl) (Nat.le_of_ble_eq_true rfl) (fun q5 => ?_)
  refine zi_dup C dX3_init_74 ?_
  refine zi_callN (ws := _ :: _) C (ci_X1 l D cI cZ q5) dX3_init_75 ziw_1.1.1 ziw_1.1.2.1 ziw_1.1.2.2 zinl_1 rfl zid_1 ⟨rfl, rfl, Nat.le_of_ble_eq_true rfl, Nat.le_of_ble_eq_true rfl⟩ hsz (Nat.le_of_ble_eq_true rfl) ⟨Nat.le_of_ble_eq_true rfl, Nat.le_of_ble_eq_true rfl⟩ (fun u5 e5 => ?_)
  subst e5
  show ziW p l e _ s m args below meth c Z D A ls1 27 198 78 _ (_ :: (_ ++ _))
  refine zi_putF C hin dX3_init_78 zf_3_46 rfl rfl rfl rfl (Nat.le_of_ble_eq_true rfl) ?_
  refine zi_aload C dX3_init_81 rfl hl ?_
  refine zi_new C dX3_init_82 (by decide) zicl_1 ziw_1.2.1 ziw_1.2.2.1 dfX1_ok (N := 5) rfl (Nat.le_of_ble_eq_true rfl) (Nat.le_of_ble_eq_true rfl) (fun q6 => ?_)
  refine zi_dup C dX3_init_85 ?_
  refine zi_callN (ws := _ :: _) C (ci_X1 l D cI cZ q6) dX3_init_86 ziw_1.1.1 ziw_1.1.2.1 ziw_1.1.2.2 zinl_1 rfl zid_1 ⟨rfl, rfl, Nat.le_of_ble_eq_true rfl, Nat.le_of_ble_eq_true rfl⟩ hsz (Nat.le_of_ble_eq_true rfl) ⟨Nat.le_of_ble_eq_true rfl, Nat.le_of_ble_eq_true rfl⟩ (fun u6 e6 => ?_)
  subst e6
  show ziW p l e _ s m args below meth c Z D A ls1 32 235 89 _ (_ :: (_ ++ _))
  refine zi_putF C hin dX3_init_89 zf_3_50 rfl rfl rfl rfl (Nat.le_of_ble_eq_true rfl) ?_
  refine zi_aload C dX3_init_92 rfl hl ?_
  refine zi_bipush C dX3_init_93 ?_
  refine zi_newi C (N := 25) dX3_init_95 (Nat.le_of_ble_eq_true rfl) (Nat.le_of_ble_eq_true rfl) (Nat.le_of_ble_eq_true rfl) (fun q7 => ?_)
  refine zi_putF C hin dX3_init_97 zf_3_53 rfl rfl rfl rfl (Nat.le_of_ble_eq_true rfl) ?_
  refine zi_aload C dX3_init_100 rfl hl ?_
  refine zi_new C dX3_init_101 (by decide) zicl_0 ziw_0.2.1 ziw_0.2.2.1 dfX0_ok (N := 7) rfl (Nat.le_of_ble_eq_true rfl) (Nat.le_of_ble_eq_true rfl) (fun q8 => ?_)
  refine zi_dup C dX3_init_104 ?_
  refine zi_callN (ws := _ :: _) C (ci_X0 l D cI cZ q8) dX3_init_105 ziw_0.1.1 ziw_0.1.2.1 ziw_0.1.2.2 zinl_0 rfl zid_0 ⟨rfl, rfl, Nat.le_of_ble_eq_true rfl, Nat.le_of_ble_eq_true rfl⟩ hsz (Nat.le_of_ble_eq_true rfl) ⟨Nat.le_of_ble_eq_true rfl, Nat.le_of_ble_eq_true rfl⟩ (fun u8 e8 => ?_)
  subst e8
  show ziW p l e _ s m args below meth c Z D A ls1 38 287 108 _ (_ :: (_ ++ _))
  refine zi_putF C hin dX3_init_108 zf_3_59 rfl rfl rfl rfl (Nat.le_of_ble_eq_true rfl) ?_
  exact hret 111 (fun k => ([h0, q1, u2 0, u2 1, u2 2, u2 3, u2 4, u2 5, u2 6, u3 0, u3 1, u3 2, u3 3, u3 4, u3 5, u3 6, u4 0, u4 1, u4 2, u4 3, u4 4, u4 5, u4 6, u5 0, u5 1, u5 2, u5 3, u5 4, u6 0, u6 1, u6 2, u6 3, u6 4, q7, u8 0, u8 1, u8 2, u8 3, u8 4] : List Nat).getD k 0) _ dX3_init_111 rfl rfl
def fX4 (cI cZ : ClassId) (u : Nat → Nat) : va_W := [(u 0, .inr (4, [.ref (u 1), .int (iI 0), .int (iI 0), .int (iI 0), .int (iI 0), .int (iI 0), .int (iI 0), .ref (u 2), .int (iI 0), .int (iI 0), .ref (u 3), .ref (u 4), .ref (u 5), .int (iI 0), .int (iI 0), .int (iI 0), .int (iI 0), .ref (u 6), .ref (u 7), .ref (u 8), .int (iI 0), .int (iI 0), .int (iI 0), .ref (u 9), .int (iI 0), .int (iI (-1)), .int (iI 0), .int (iI 0), .int (iI 0), .int (iI 0), .int (iI 0), .int (iI 0), .ref (u 10), .ref (u 11), .ref (u 12), .long 0])), (u 1, arI cI 14), (u 2, arI cI 12), (u 3, arI cI 20), (u 4, arI cI 12), (u 5, arI cI 5), (u 6, arI cI 25), (u 7, arI cI 5), (u 8, arI cI 5), (u 9, arI cI 32), (u 10, arI cI 20), (u 11, arI cI 12), (u 12, arI cI 32)]
set_option maxHeartbeats 4000000 in
set_option maxRecDepth 100000 in
theorem ci_X4 (l : Launch) (D : va_G) (cI cZ : ClassId) (h0 : Nat) : ∀ sz : Nat, Met l yX4_init (ziws yX4_init cX4_init) { frames := 1, cells := 12, slots := 194, locals := 12 } (ziPc D cI cZ h0 (.inr (4, dfX4)) sz) (ziQc D (fX4 cI cZ) h0 (.inr (4, dfX4)) sz) 12 194 (va_A [(h0, .inr (4, dfX4))] sz) := by
  refine zi_met (o := 4) (by decide +kernel) rfl rfl (fun p e s m args below meth c ls1 A Z C hin hl hsz hret => ?_)
  refine zi_aload C dX4_init_0 rfl hl ?_
  refine zi_obj C dX4_init_1 ziw_4.2.2.2 hsz (Nat.le_of_ble_eq_true rfl) (Nat.le_of_ble_eq_true rfl) ?_
  refine zi_aload C dX4_init_4 rfl hl ?_
  refine zi_bipush C dX4_init_5 ?_
  refine zi_newi C (N := 14) dX4_init_7 (Nat.le_of_ble_eq_true rfl) (Nat.le_of_ble_eq_true rfl) (Nat.le_of_ble_eq_true rfl) (fun q1 => ?_)
  refine zi_putF C hin dX4_init_9 zf_4_7 rfl rfl rfl rfl (Nat.le_of_ble_eq_true rfl) ?_
  refine zi_aload C dX4_init_12 rfl hl ?_
  refine zi_bipush C dX4_init_13 ?_
  refine zi_newi C (N := 12) dX4_init_15 (Nat.le_of_ble_eq_true rfl) (Nat.le_of_ble_eq_true rfl) (Nat.le_of_ble_eq_true rfl) (fun q2 => ?_)
  refine zi_putF C hin dX4_init_17 zf_4_13 rfl rfl rfl rfl (Nat.le_of_ble_eq_true rfl) ?_
  refine zi_aload C dX4_init_20 rfl hl ?_
  refine zi_bipush C dX4_init_21 ?_
  refine zi_newi C (N := 20) dX4_init_23 (Nat.le_of_ble_eq_true rfl) (Nat.le_of_ble_eq_true rfl) (Nat.le_of_ble_eq_true rfl) (fun q3 => ?_)
  refine zi_putF C hin dX4_init_25 zf_4_16 rfl rfl rfl rfl (Nat.le_of_ble_eq_true rfl) ?_
  refine zi_aload C dX4_init_28 rfl hl ?_
  refine zi_bipush C dX4_init_29 ?_
  refine zi_newi C (N := 12) dX4_init_31 (Nat.le_of_ble_eq_true rfl) (Nat.le_of_ble_eq_true rfl) (Nat.le_of_ble_eq_true rfl) (fun q4 => ?_)
  refine zi_putF C hin dX4_init_33 zf_4_19 rfl rfl rfl rfl (Nat.le_of_ble_eq_true rfl) ?_
  refine zi_aload C dX4_init_36 rfl hl ?_
  refine zi_iconst C dX4_init_37 ?_
  refine zi_newi C (N := 5) dX4_init_38 (Nat.le_of_ble_eq_true rfl) (Nat.le_of_ble_eq_true rfl) (Nat.le_of_ble_eq_true rfl) (fun q5 => ?_)
  refine zi_putF C hin dX4_init_40 zf_4_22 rfl rfl rfl rfl (Nat.le_of_ble_eq_true rfl) ?_
  refine zi_aload C dX4_init_43 rfl hl ?_
  refine zi_bipush C dX4_init_44 ?_
  refine zi_newi C (N := 25) dX4_init_46 (Nat.le_of_ble_eq_true rfl) (Nat.le_of_ble_eq_true rfl) (Nat.le_of_ble_eq_true rfl) (fun q6 => ?_)
  refine zi_putF C hin dX4_init_48 zf_4_25 rfl rfl rfl rfl (Nat.le_of_ble_eq_true rfl) ?_
  refine zi_aload C dX4_init_51 rfl hl ?_
  refine zi_iconst C dX4_init_52 ?_
  refine zi_newi C (N := 5) dX4_init_53 (Nat.le_of_ble_eq_true rfl) (Nat.le_of_ble_eq_true rfl) (Nat.le_of_ble_eq_true rfl) (fun q7 => ?_)
  refine zi_putF C hin dX4_init_55 zf_4_28 rfl rfl rfl rfl (Nat.le_of_ble_eq_true rfl) ?_
  refine zi_aload C dX4_init_58 rfl hl ?_
  refine zi_iconst C dX4_init_59 ?_
  refine zi_newi C (N := 5) dX4_init_60 (Nat.le_of_ble_eq_true rfl) (Nat.le_of_ble_eq_true rfl) (Nat.le_of_ble_eq_true rfl) (fun q8 => ?_)
  refine zi_putF C hin dX4_init_62 zf_4_31 rfl rfl rfl rfl (Nat.le_of_ble_eq_true rfl) ?_
  refine zi_aload C dX4_init_65 rfl hl ?_
  refine zi_bipush C dX4_init_66 ?_
  refine zi_newi C (N := 32) dX4_init_68 (Nat.le_of_ble_eq_true rfl) (Nat.le_of_ble_eq_true rfl) (Nat.le_of_ble_eq_true rfl) (fun q9 => ?_)
  refine zi_putF C hin dX4_init_70 zf_4_34 rfl rfl rfl rfl (Nat.le_of_ble_eq_true rfl) ?_
  refine zi_aload C dX4_init_73 rfl hl ?_
  refine zi_bipush C dX4_init_74 ?_
  refine zi_newi C (N := 20) dX4_init_76 (Nat.le_of_ble_eq_true rfl) (Nat.le_of_ble_eq_true rfl) (Nat.le_of_ble_eq_true rfl) (fun q10 => ?_)
  refine zi_putF C hin dX4_init_78 zf_4_37 rfl rfl rfl rfl (Nat.le_of_ble_eq_true rfl) ?_
  refine zi_aload C dX4_init_81 rfl hl ?_
  refine zi_bipush C dX4_init_82 ?_
  refine zi_newi C (N := 12) dX4_init_84 (Nat.le_of_ble_eq_true rfl) (Nat.le_of_ble_eq_true rfl) (Nat.le_of_ble_eq_true rfl) (fun q11 => ?_)
  refine zi_putF C hin dX4_init_86 zf_4_40 rfl rfl rfl rfl (Nat.le_of_ble_eq_true rfl) ?_
  refine zi_aload C dX4_init_89 rfl hl ?_
  refine zi_bipush C dX4_init_90 ?_
  refine zi_newi C (N := 32) dX4_init_92 (Nat.le_of_ble_eq_true rfl) (Nat.le_of_ble_eq_true rfl) (Nat.le_of_ble_eq_true rfl) (fun q12 => ?_)
  refine zi_putF C hin dX4_init_94 zf_4_43 rfl rfl rfl rfl (Nat.le_of_ble_eq_true rfl) ?_
  refine zi_aload C dX4_init_97 rfl hl ?_
  refine zi_iconst C dX4_init_98 ?_
  refine zi_puti C dX4_init_99 zf_4_46 rfl rfl rfl (Nat.le_of_ble_eq_true rfl) ?_
  exact hret 102 (fun k => ([h0, q1, q2, q3, q4, q5, q6, q7, q8, q9, q10, q11, q12] : List Nat).getD k 0) _ dX4_init_102 rfl rfl
