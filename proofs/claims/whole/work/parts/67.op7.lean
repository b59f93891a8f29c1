/-- roped, in the model -/
def arp (ea eb : Nat → Nat) (m x y : Nat) : Bool := (List.range m).any fun r => decide ((ea r = x ∧ eb r = y) ∨ (ea r = y ∧ eb r = x))
theorem arp_iff {ea eb : Nat → Nat} {m x y : Nat} : arp ea eb m x y = true ↔ ∃ r, r < m ∧ ((ea r = x ∧ eb r = y) ∨ (ea r = y ∧ eb r = x)) := by
  unfold arp
  simp only [List.any_eq_true, List.mem_range, decide_eq_true_eq]
theorem arp_s {ea eb : Nat → Nat} {m x y : Nat} : arp ea eb (m + 1) x y = (arp ea eb m x y || decide ((ea m = x ∧ eb m = y) ∨ (ea m = y ∧ eb m = x))) := by
  unfold arp
  rw [List.range_succ, List.any_append]
  simp
theorem c_X4_areRoped {zs : zzT} {d : Nat} {Q : zzQ} {g : Nat → Nat → Int} {hh : Int64} {m n : Nat} {ea eb : Nat → Nat} (hr : MR g m n ea eb) {x y : Nat} (hx : x < n) (hy : y < n) (hQ : Q [.int (iI (b2i (arp ea eb m x y)))] (wof g hh)) : zzCL zs (d + 1) 97 [.ref 39, .int (iI (x : Int)), .int (iI (y : Int))] (wof g hh) Q := by
  refine st_X4_areRoped (Nat.le_of_ble_eq_true rfl) (fun R hR => ?_)
  show R 0 [(0, .ref 39), (1, .int (iI (x : Int))), (2, .int (iI (y : Int)))] [] _
  obtain ⟨hm, hm6, hn5, hE⟩ := hr
  have loop : ∀ (k i : Nat), i ≤ m → m < i + k → R 5 [(0, .ref 39), (1, .int (iI (x : Int))), (2, .int (iI (y : Int))), (3, .int (iI (b2i (arp ea eb i x y)))), (4, .int (iI (i : Int)))] [] (wof g hh) := by
    intro k
    induction k with
    | zero => intro i; intros; omega
    | succ k ih =>
      intro i  hi1 hi2 
      refine z_iload hR dX4_areRoped_5 rfl ?_
      refine z_aload_n hR dX4_areRoped_7 rfl rfl ?_
      refine g_get hR dX4_areRoped_8 zf_4_79 (wk_39 _) (gi hm) ?_
      refine g_icmp_ge hR (tgt := 86) dX4_areRoped_11 (by decide) (fun c11 => ?_) (fun c11 => ?_)
      · refine z_iload_n hR dX4_areRoped_86 rfl rfl ?_
        refine g_zret hR dX4_areRoped_87 rfl ?_
        have e : i = m := by omega
        subst e
        exact hQ
      · have hin : i < m := by omega
        have hei := hE i hin
        refine z_iload_n hR dX4_areRoped_14 rfl rfl ?_
        refine g_if_neb hR (tgt := 74) dX4_areRoped_15 (by decide) (fun c15 => ?_) (fun c15 => ?_)
        · refine g_iconst hR dX4_areRoped_74 ?_
          refine z_goto hR (tgt := 79) dX4_areRoped_75 (by decide) ?_
          refine z_istore_n hR dX4_areRoped_79 rfl (by decide) rfl ?_
          refine g_iinc hR dX4_areRoped_80 rfl rfl (by decide) rfl ?_
          refine z_goto hR (tgt := 5) dX4_areRoped_83 (by decide) ?_
          have hst := ih (i + 1) (by omega) (by omega)
          rw [arp_s] at hst
          first | (rw [c15] at hst; exact hst) | (rw [show decide ((ea i = x ∧ eb i = y) ∨ (ea i = y ∧ eb i = x)) = true from decide_eq_true (by omega), Bool.or_true] at hst; exact hst) | (rw [show decide ((ea i = x ∧ eb i = y) ∨ (ea i = y ∧ eb i = x)) = false from decide_eq_false (by omega), c15] at hst; exact hst)
        · refine z_aload_n hR dX4_areRoped_18 rfl rfl ?_
          refine g_get hR dX4_areRoped_19 zf_4_19 (wk_39 _) (show _ = some (Value.ref 43) from rfl) ?_
          refine g_iconst hR dX4_areRoped_22 ?_
          refine z_iload hR dX4_areRoped_23 rfl ?_
          refine g_imul hR dX4_areRoped_25 (nmul 2 _) ?_
          refine g_ialdN hR dX4_areRoped_26 (wk_43 _) (hE i hin).1 ?_
          refine z_iload_n hR dX4_areRoped_27 rfl rfl ?_
          refine g_icmp_ne hR (tgt := 46) dX4_areRoped_28 (by decide) (fun c28 => ?_) (fun c28 => ?_)
          · refine z_aload_n hR dX4_areRoped_46 rfl rfl ?_
            refine g_get hR dX4_areRoped_47 zf_4_19 (wk_39 _) (show _ = some (Value.ref 43) from rfl) ?_
            refine g_iconst hR dX4_areRoped_50 ?_
            refine z_iload hR dX4_areRoped_51 rfl ?_
            refine g_imul hR dX4_areRoped_53 (nmul 2 _) ?_
            refine g_ialdN hR dX4_areRoped_54 (wk_43 _) (hE i hin).1 ?_
            refine z_iload_n hR dX4_areRoped_55 rfl rfl ?_
            refine g_icmp_ne hR (tgt := 78) dX4_areRoped_56 (by decide) (fun c56 => ?_) (fun c56 => ?_)
            · refine g_iconst hR dX4_areRoped_78 ?_
              refine z_istore_n hR dX4_areRoped_79 rfl (by decide) rfl ?_
              refine g_iinc hR dX4_areRoped_80 rfl rfl (by decide) rfl ?_
              refine z_goto hR (tgt := 5) dX4_areRoped_83 (by decide) ?_
              have hst := ih (i + 1) (by omega) (by omega)
              rw [arp_s] at hst
              first | (rw [c15] at hst; exact hst) | (rw [show decide ((ea i = x ∧ eb i = y) ∨ (ea i = y ∧ eb i = x)) = true from decide_eq_true (by omega), Bool.or_true] at hst; exact hst) | (rw [show decide ((ea i = x ∧ eb i = y) ∨ (ea i = y ∧ eb i = x)) = false from decide_eq_false (by omega), c15] at hst; exact hst)
            · refine z_aload_n hR dX4_areRoped_59 rfl rfl ?_
              refine g_get hR dX4_areRoped_60 zf_4_19 (wk_39 _) (show _ = some (Value.ref 43) from rfl) ?_
              refine g_iconst hR dX4_areRoped_63 ?_
              refine z_iload hR dX4_areRoped_64 rfl ?_
              refine g_imul hR dX4_areRoped_66 (nmul 2 _) ?_
              refine g_iconst hR dX4_areRoped_67 ?_
              refine g_iadd hR dX4_areRoped_68 (nadd _ 1) ?_
              refine g_ialdN hR dX4_areRoped_69 (wk_43 _) (hE i hin).2.1 ?_
              refine z_iload_n hR dX4_areRoped_70 rfl rfl ?_
              refine g_icmp_ne hR (tgt := 78) dX4_areRoped_71 (by decide) (fun c71 => ?_) (fun c71 => ?_)
              · refine g_iconst hR dX4_areRoped_78 ?_
                refine z_istore_n hR dX4_areRoped_79 rfl (by decide) rfl ?_
                refine g_iinc hR dX4_areRoped_80 rfl rfl (by decide) rfl ?_
                refine z_goto hR (tgt := 5) dX4_areRoped_83 (by decide) ?_
                have hst := ih (i + 1) (by omega) (by omega)
                rw [arp_s] at hst
                first | (rw [c15] at hst; exact hst) | (rw [show decide ((ea i = x ∧ eb i = y) ∨ (ea i = y ∧ eb i = x)) = true from decide_eq_true (by omega), Bool.or_true] at hst; exact hst) | (rw [show decide ((ea i = x ∧ eb i = y) ∨ (ea i = y ∧ eb i = x)) = false from decide_eq_false (by omega), c15] at hst; exact hst)
              · refine g_iconst hR dX4_areRoped_74 ?_
                refine z_goto hR (tgt := 79) dX4_areRoped_75 (by decide) ?_
                refine z_istore_n hR dX4_areRoped_79 rfl (by decide) rfl ?_
                refine g_iinc hR dX4_areRoped_80 rfl rfl (by decide) rfl ?_
                refine z_goto hR (tgt := 5) dX4_areRoped_83 (by decide) ?_
                have hst := ih (i + 1) (by omega) (by omega)
                rw [arp_s] at hst
                first | (rw [c15] at hst; exact hst) | (rw [show decide ((ea i = x ∧ eb i = y) ∨ (ea i = y ∧ eb i = x)) = true from decide_eq_true (by omega), Bool.or_true] at hst; exact hst) | (rw [show decide ((ea i = x ∧ eb i = y) ∨ (ea i = y ∧ eb i = x)) = false from decide_eq_false (by omega), c15] at hst; exact hst)
          · refine z_aload_n hR dX4_areRoped_31 rfl rfl ?_
            refine g_get hR dX4_areRoped_32 zf_4_19 (wk_39 _) (show _ = some (Value.ref 43) from rfl) ?_
            refine g_iconst hR dX4_areRoped_35 ?_
            refine z_iload hR dX4_areRoped_36 rfl ?_
            refine g_imul hR dX4_areRoped_38 (nmul 2 _) ?_
            refine g_iconst hR dX4_areRoped_39 ?_
            refine g_iadd hR dX4_areRoped_40 (nadd _ 1) ?_
            refine g_ialdN hR dX4_areRoped_41 (wk_43 _) (hE i hin).2.1 ?_
            refine z_iload_n hR dX4_areRoped_42 rfl rfl ?_
            refine g_icmp_eq hR (tgt := 74) dX4_areRoped_43 (by decide) (fun c43 => ?_) (fun c43 => ?_)
            · refine g_iconst hR dX4_areRoped_74 ?_
              refine z_goto hR (tgt := 79) dX4_areRoped_75 (by decide) ?_
              refine z_istore_n hR dX4_areRoped_79 rfl (by decide) rfl ?_
              refine g_iinc hR dX4_areRoped_80 rfl rfl (by decide) rfl ?_
              refine z_goto hR (tgt := 5) dX4_areRoped_83 (by decide) ?_
              have hst := ih (i + 1) (by omega) (by omega)
              rw [arp_s] at hst
              first | (rw [c15] at hst; exact hst) | (rw [show decide ((ea i = x ∧ eb i = y) ∨ (ea i = y ∧ eb i = x)) = true from decide_eq_true (by omega), Bool.or_true] at hst; exact hst) | (rw [show decide ((ea i = x ∧ eb i = y) ∨ (ea i = y ∧ eb i = x)) = false from decide_eq_false (by omega), c15] at hst; exact hst)
            · refine z_aload_n hR dX4_areRoped_46 rfl rfl ?_
              refine g_get hR dX4_areRoped_47 zf_4_19 (wk_39 _) (show _ = some (Value.ref 43) from rfl) ?_
              refine g_iconst hR dX4_areRoped_50 ?_
              refine z_iload hR dX4_areRoped_51 rfl ?_
              refine g_imul hR dX4_areRoped_53 (nmul 2 _) ?_
              refine g_ialdN hR dX4_areRoped_54 (wk_43 _) (hE i hin).1 ?_
              refine z_iload_n hR dX4_areRoped_55 rfl rfl ?_
              refine g_icmp_ne hR (tgt := 78) dX4_areRoped_56 (by decide) (fun c56 => ?_) (fun c56 => ?_)
              · refine g_iconst hR dX4_areRoped_78 ?_
                refine z_istore_n hR dX4_areRoped_79 rfl (by decide) rfl ?_
                refine g_iinc hR dX4_areRoped_80 rfl rfl (by decide) rfl ?_
                refine z_goto hR (tgt := 5) dX4_areRoped_83 (by decide) ?_
                have hst := ih (i + 1) (by omega) (by omega)
                rw [arp_s] at hst
                first | (rw [c15] at hst; exact hst) | (rw [show decide ((ea i = x ∧ eb i = y) ∨ (ea i = y ∧ eb i = x)) = true from decide_eq_true (by omega), Bool.or_true] at hst; exact hst) | (rw [show decide ((ea i = x ∧ eb i = y) ∨ (ea i = y ∧ eb i = x)) = false from decide_eq_false (by omega), c15] at hst; exact hst)
              · refine z_aload_n hR dX4_areRoped_59 rfl rfl ?_
                refine g_get hR dX4_areRoped_60 zf_4_19 (wk_39 _) (show _ = some (Value.ref 43) from rfl) ?_
                refine g_iconst hR dX4_areRoped_63 ?_
                refine z_iload hR dX4_areRoped_64 rfl ?_
                refine g_imul hR dX4_areRoped_66 (nmul 2 _) ?_
                refine g_iconst hR dX4_areRoped_67 ?_
                refine g_iadd hR dX4_areRoped_68 (nadd _ 1) ?_
                refine g_ialdN hR dX4_areRoped_69 (wk_43 _) (hE i hin).2.1 ?_
                refine z_iload_n hR dX4_areRoped_70 rfl rfl ?_
                refine g_icmp_ne hR (tgt := 78) dX4_areRoped_71 (by decide) (fun c71 => ?_) (fun c71 => ?_)
                · refine g_iconst hR dX4_areRoped_78 ?_
                  refine z_istore_n hR dX4_areRoped_79 rfl (by decide) rfl ?_
                  refine g_iinc hR dX4_areRoped_80 rfl rfl (by decide) rfl ?_
                  refine z_goto hR (tgt := 5) dX4_areRoped_83 (by decide) ?_
                  have hst := ih (i + 1) (by omega) (by omega)
                  rw [arp_s] at hst
                  first | (rw [c15] at hst; exact hst) | (rw [show decide ((ea i = x ∧ eb i = y) ∨ (ea i = y ∧ eb i = x)) = true from decide_eq_true (by omega), Bool.or_true] at hst; exact hst) | (rw [show decide ((ea i = x ∧ eb i = y) ∨ (ea i = y ∧ eb i = x)) = false from decide_eq_false (by omega), c15] at hst; exact hst)
                · refine g_iconst hR dX4_areRoped_74 ?_
                  refine z_goto hR (tgt := 79) dX4_areRoped_75 (by decide) ?_
                  refine z_istore_n hR dX4_areRoped_79 rfl (by decide) rfl ?_
                  refine g_iinc hR dX4_areRoped_80 rfl rfl (by decide) rfl ?_
                  refine z_goto hR (tgt := 5) dX4_areRoped_83 (by decide) ?_
                  have hst := ih (i + 1) (by omega) (by omega)
                  rw [arp_s] at hst
                  first | (rw [c15] at hst; exact hst) | (rw [show decide ((ea i = x ∧ eb i = y) ∨ (ea i = y ∧ eb i = x)) = true from decide_eq_true (by omega), Bool.or_true] at hst; exact hst) | (rw [show decide ((ea i = x ∧ eb i = y) ∨ (ea i = y ∧ eb i = x)) = false from decide_eq_false (by omega), c15] at hst; exact hst)
  refine g_iconst hR dX4_areRoped_0 ?_
  refine z_istore_n hR dX4_areRoped_1 rfl (by decide) rfl ?_
  refine g_iconst hR dX4_areRoped_2 ?_
  refine z_istore hR dX4_areRoped_3 (by decide) rfl ?_
  exact loop (m + 1) 0 (by omega) (by omega)
theorem c_X4_ropedBits {zs : zzT} {d : Nat} {Q : zzQ} {g : Nat → Nat → Int} {hh : Int64} {m n : Nat} {ea eb : Nat → Nat} (hr : MR g m n ea eb) (hn : g 39 8 = (n : Int)) {x : Nat} (hx : x < n) (hQ : Q [.int (iI ((bor (fun j => j) (fun j => arp ea eb m x j) n : Nat) : Int))] (wof g hh)) : zzCL zs (d + 2) 96 [.ref 39, .int (iI (x : Int))] (wof g hh) Q := by
  refine st_X4_ropedBits (Nat.le_of_ble_eq_true rfl) (fun R hR => ?_)
  show R 0 [(0, .ref 39), (1, .int (iI (x : Int)))] [] _
  have hn5 := hr.2.2.1
  have loop : ∀ (k i : Nat) (b : Nat), i ≤ n → n < i + k → (b = bor (fun j => j) (fun j => arp ea eb m x j) i) → R 4 [(0, .ref 39), (1, .int (iI (x : Int))), (2, .int (iI ((b : Nat) : Int))), (3, .int (iI (i : Int)))] [] (wof g hh) := by
    intro k
    induction k with
    | zero => intro i; intros; omega
    | succ k ih =>
      intro i b hi1 hi2 hb
      refine z_iload_n hR dX4_ropedBits_4 rfl rfl ?_
      refine z_aload_n hR dX4_ropedBits_5 rfl rfl ?_
      refine g_get hR dX4_ropedBits_6 zf_4_76 (wk_39 _) (gi hn) ?_
      refine g_icmp_ge hR (tgt := 37) dX4_ropedBits_9 (by decide) (fun c9 => ?_) (fun c9 => ?_)
      · refine z_iload_n hR dX4_ropedBits_37 rfl rfl ?_
        refine g_iret hR dX4_ropedBits_38 rfl ?_
        have e : i = n := by omega
        subst e
        rw [hb]
        exact hQ
      · have hin : i < n := by omega
        refine z_iload_n hR dX4_ropedBits_12 rfl rfl ?_
        refine z_aload_n hR dX4_ropedBits_13 rfl rfl ?_
        refine z_iload_n hR dX4_ropedBits_14 rfl rfl ?_
        refine z_iload_n hR dX4_ropedBits_15 rfl rfl ?_
        refine g_inv2 hR dX4_ropedBits_16 zm_4_136 (by decide) zN_X4_areRoped ((wk_39 _) _) zO_X4_areRoped (Nat.le_of_ble_eq_true rfl) ?_
        refine c_X4_areRoped hr hx hin ?_
        show R 19 _ (.int _ :: _) _
        refine g_if_eqb hR (tgt := 28) dX4_ropedBits_19 (by decide) (fun c19 => ?_) (fun c19 => ?_)
        · refine g_iconst hR dX4_ropedBits_28 ?_
          refine g_ior (y := 0) hR dX4_ropedBits_29 ?_
          refine z_istore_n hR dX4_ropedBits_30 rfl (by decide) rfl ?_
          refine g_iinc hR dX4_ropedBits_31 rfl rfl (by decide) rfl ?_
          refine z_goto hR (tgt := 4) dX4_ropedBits_34 (by decide) ?_
          refine ih (i + 1) _ (by omega) (by omega) ?_
          simp [bor, c19, hb]
        · refine g_iconst hR dX4_ropedBits_22 ?_
          refine z_iload_n hR dX4_ropedBits_23 rfl rfl ?_
          refine g_ishl hR dX4_ropedBits_24 (p2n _) (p2b (by omega)) ?_
          refine z_goto hR (tgt := 29) dX4_ropedBits_25 (by decide) ?_
          refine g_ior hR dX4_ropedBits_29 ?_
          refine z_istore_n hR dX4_ropedBits_30 rfl (by decide) rfl ?_
          refine g_iinc hR dX4_ropedBits_31 rfl rfl (by decide) rfl ?_
          refine z_goto hR (tgt := 4) dX4_ropedBits_34 (by decide) ?_
          refine ih (i + 1) _ (by omega) (by omega) ?_
          simp [bor, c19, hb]
  refine g_iconst hR dX4_ropedBits_0 ?_
  refine z_istore_n hR dX4_ropedBits_1 rfl (by decide) rfl ?_
  refine g_iconst hR dX4_ropedBits_2 ?_
  refine z_istore_n hR dX4_ropedBits_3 rfl (by decide) rfl ?_
  exact loop (n + 1) 0 0 (by omega) (by omega) rfl
theorem c_X4_besideBits {zs : zzT} {d : Nat} {Q : zzQ} {g : Nat → Nat → Int} {hh : Int64} {n : Nat} (hn : g 39 8 = (n : Int)) (hn5 : n ≤ 5) (hpl : ∀ j, j < n → 0 ≤ g 42 (4 * j + 2) ∧ g 42 (4 * j + 2) < 12) {x : Nat} (hx : x < n) (hQ : Q [.int (iI ((bor (fun j => j) (fun j => bs (g 42 (4 * x + 2)) (g 42 (4 * j + 2))) n : Nat) : Int))] (wof g hh)) : zzCL zs (d + 2) 94 [.ref 39, .int (iI (x : Int))] (wof g hh) Q := by
  refine st_X4_besideBits (Nat.le_of_ble_eq_true rfl) (fun R hR => ?_)
  show R 0 [(0, .ref 39), (1, .int (iI (x : Int)))] [] _
  have loop : ∀ (k i : Nat) (b : Nat), i ≤ n → n < i + k → (b = bor (fun j => j) (fun j => bs (g 42 (4 * x + 2)) (g 42 (4 * j + 2))) i) → R 4 [(0, .ref 39), (1, .int (iI (x : Int))), (2, .int (iI ((b : Nat) : Int))), (3, .int (iI (i : Int)))] [] (wof g hh) := by
    intro k
    induction k with
    | zero => intro i; intros; omega
    | succ k ih =>
      intro i b hi1 hi2 hb
      refine z_iload_n hR dX4_besideBits_4 rfl rfl ?_
      refine z_aload_n hR dX4_besideBits_5 rfl rfl ?_
      refine g_get hR dX4_besideBits_6 zf_4_76 (wk_39 _) (gi hn) ?_
      refine g_icmp_ge hR (tgt := 54) dX4_besideBits_9 (by decide) (fun c9 => ?_) (fun c9 => ?_)
      · refine z_iload_n hR dX4_besideBits_54 rfl rfl ?_
        refine g_iret hR dX4_besideBits_55 rfl ?_
        have e : i = n := by omega
        subst e
        rw [hb]
        exact hQ
      · have hin : i < n := by omega
        refine z_iload_n hR dX4_besideBits_12 rfl rfl ?_
        refine z_aload_n hR dX4_besideBits_13 rfl rfl ?_
        refine g_get hR dX4_besideBits_14 zf_4_16 (wk_39 _) (show _ = some (Value.ref 42) from rfl) ?_
        refine g_iconst hR dX4_besideBits_17 ?_
        refine z_iload_n hR dX4_besideBits_18 rfl rfl ?_
        refine g_imul hR dX4_besideBits_19 (nmul 4 _) ?_
        refine g_iconst hR dX4_besideBits_20 ?_
        refine g_iadd hR dX4_besideBits_21 (nadd _ 2) ?_
        refine g_ialdN hR dX4_besideBits_22 (wk_42 _) rfl ?_
        refine z_aload_n hR dX4_besideBits_23 rfl rfl ?_
        refine g_get hR dX4_besideBits_24 zf_4_16 (wk_39 _) (show _ = some (Value.ref 42) from rfl) ?_
        refine g_iconst hR dX4_besideBits_27 ?_
        refine z_iload_n hR dX4_besideBits_28 rfl rfl ?_
        refine g_imul hR dX4_besideBits_29 (nmul 4 _) ?_
        refine g_iconst hR dX4_besideBits_30 ?_
        refine g_iadd hR dX4_besideBits_31 (nadd _ 2) ?_
        refine g_ialdN hR dX4_besideBits_32 (wk_42 _) rfl ?_
        refine g_sta2 hR dX4_besideBits_33 zm_4_132 zN_X4_areBeside (Nat.le_of_ble_eq_true rfl) ?_
        refine c_X4_areBeside (hpl x hx) (hpl i hin) ?_
        show R 36 _ (.int _ :: _) _
        refine g_if_eqb hR (tgt := 45) dX4_besideBits_36 (by decide) (fun c36 => ?_) (fun c36 => ?_)
        · refine g_iconst hR dX4_besideBits_45 ?_
          refine g_ior (y := 0) hR dX4_besideBits_46 ?_
          refine z_istore_n hR dX4_besideBits_47 rfl (by decide) rfl ?_
          refine g_iinc hR dX4_besideBits_48 rfl rfl (by decide) rfl ?_
          refine z_goto hR (tgt := 4) dX4_besideBits_51 (by decide) ?_
          refine ih (i + 1) _ (by omega) (by omega) ?_
          simp [bor, c36, hb]
        · refine g_iconst hR dX4_besideBits_39 ?_
          refine z_iload_n hR dX4_besideBits_40 rfl rfl ?_
          refine g_ishl hR dX4_besideBits_41 (p2n _) (p2b (by omega)) ?_
          refine z_goto hR (tgt := 46) dX4_besideBits_42 (by decide) ?_
          refine g_ior hR dX4_besideBits_46 ?_
          refine z_istore_n hR dX4_besideBits_47 rfl (by decide) rfl ?_
          refine g_iinc hR dX4_besideBits_48 rfl rfl (by decide) rfl ?_
          refine z_goto hR (tgt := 4) dX4_besideBits_51 (by decide) ?_
          refine ih (i + 1) _ (by omega) (by omega) ?_
          simp [bor, c36, hb]
  refine g_iconst hR dX4_besideBits_0 ?_
  refine z_istore_n hR dX4_besideBits_1 rfl (by decide) rfl ?_
  refine g_iconst hR dX4_besideBits_2 ?_
  refine z_istore_n hR dX4_besideBits_3 rfl (by decide) rfl ?_
  exact loop (n + 1) 0 0 (by omega) (by omega) rfl
/-- what tell() tells, in the model -/
def abM (g : Nat → Nat → Int) (n m : Nat) (ea eb : Nat → Nat) (i : Nat) (w : Int) : Int := if w = 0 then g 42 (4 * i) else if w = 1 then g 42 (4 * i + 1) else if w = 2 then g 42 (4 * i + 2) else if w = 3 then psh (kdM g) (g 41) (anb g n) (g 39 3) (g 39 4) (nwr g n) i + 100 else if w = 4 then g 42 (4 * i + 3) else if w = 5 then ((pby ea eb lfa m i : Nat) : Int) else if w = 6 then ((bor (fun j => j) (fun j => bs (g 42 (4 * i + 2)) (g 42 (4 * j + 2))) n : Nat) : Int) else ((bor (fun j => j) (fun j => arp ea eb m i j) n : Nat) : Int)
theorem c_X4_tell {zs : zzT} {d : Nat} {Q : zzQ} {g : Nat → Nat → Int} {hh : Int64} {n m : Nat} {ea eb : Nat → Nat} (hp : MP g n m ea eb) {i : Nat} (hin : i < n) {v : Int} (hz2 : rg v) (h2 : ¬ (0 ≤ v ∧ v < 8) → Q [.int (iI (-102))] (wof g hh)) (hQ : 0 ≤ v ∧ v < 8 → ∀ g1, eqS scM g g1 → Q [.int (iI (abM g n m ea eb i v))] (wof g1 hh)) : zzCL zs (d + 4) 89 [.ref 39, .int (iI (i : Int)), .int (iI v)] (wof g hh) Q := by
  refine st_X4_tell (Nat.le_of_ble_eq_true rfl) (fun R hR => ?_)
  show R 0 [(0, .ref 39), (1, .int (iI (i : Int))), (2, .int (iI v))] [] _
  have hr := hp.2.2.2.2.2.2.2.2.2
  have hn5 := hp.2.1
  have hda := hp.2.2.2.2.2.2.2.2.1
  rcases Classical.em (0 ≤ v ∧ v < 8) with hw8 | hw8
  · refine z_iload_n hR dX4_tell_0 rfl rfl ?_
    have hsw : v = 0 ∨ v = 1 ∨ v = 2 ∨ v = 3 ∨ v = 4 ∨ v = 5 ∨ v = 6 ∨ v = 7 := by omega
    rcases hsw with rfl | rfl | rfl | rfl | rfl | rfl | rfl | rfl
    · refine z_tabIn hR (off := 47) (tgt := 48) dX4_tell_1 (by decide) (by decide) (by decide) (by decide) ?_
      refine z_aload_n hR dX4_tell_48 rfl rfl ?_
      refine g_get hR dX4_tell_49 zf_4_16 (wk_39 _) (show _ = some (Value.ref 42) from rfl) ?_
      refine g_iconst hR dX4_tell_52 ?_
      refine z_iload_n hR dX4_tell_53 rfl rfl ?_
      refine g_imul hR dX4_tell_54 (nmul 4 _) ?_
      refine z_iload_n hR dX4_tell_55 rfl rfl ?_
      refine g_iadd hR dX4_tell_56 (nadd (4 * i) 0) ?_
      refine g_ialdN hR dX4_tell_57 (wk_42 _) rfl ?_
      refine g_iret hR dX4_tell_58 rfl ?_
      first | exact hQ (by omega) g eqS.rf
    · refine z_tabIn hR (off := 47) (tgt := 48) dX4_tell_1 (by decide) (by decide) (by decide) (by decide) ?_
      refine z_aload_n hR dX4_tell_48 rfl rfl ?_
      refine g_get hR dX4_tell_49 zf_4_16 (wk_39 _) (show _ = some (Value.ref 42) from rfl) ?_
      refine g_iconst hR dX4_tell_52 ?_
      refine z_iload_n hR dX4_tell_53 rfl rfl ?_
      refine g_imul hR dX4_tell_54 (nmul 4 _) ?_
      refine z_iload_n hR dX4_tell_55 rfl rfl ?_
      refine g_iadd hR dX4_tell_56 (nadd (4 * i) 1) ?_
      refine g_ialdN hR dX4_tell_57 (wk_42 _) rfl ?_
      refine g_iret hR dX4_tell_58 rfl ?_
      first | exact hQ (by omega) g eqS.rf
    · refine z_tabIn hR (off := 47) (tgt := 48) dX4_tell_1 (by decide) (by decide) (by decide) (by decide) ?_
      refine z_aload_n hR dX4_tell_48 rfl rfl ?_
      refine g_get hR dX4_tell_49 zf_4_16 (wk_39 _) (show _ = some (Value.ref 42) from rfl) ?_
      refine g_iconst hR dX4_tell_52 ?_
      refine z_iload_n hR dX4_tell_53 rfl rfl ?_
      refine g_imul hR dX4_tell_54 (nmul 4 _) ?_
      refine z_iload_n hR dX4_tell_55 rfl rfl ?_
      refine g_iadd hR dX4_tell_56 (nadd (4 * i) 2) ?_
      refine g_ialdN hR dX4_tell_57 (wk_42 _) rfl ?_
      refine g_iret hR dX4_tell_58 rfl ?_
      first | exact hQ (by omega) g eqS.rf
    · refine z_tabIn hR (off := 58) (tgt := 59) dX4_tell_1 (by decide) (by decide) (by decide) (by decide) ?_
      refine z_aload_n hR dX4_tell_59 rfl rfl ?_
      refine g_inv0 hR dX4_tell_60 zm_4_139 (by decide) zN_X4_asItIs ((wk_39 _) _) zO_X4_asItIs (Nat.le_of_ble_eq_true rfl) ?_
      refine c_X4_asItIs hp.1 hp.2.1 hp.2.2.2.2.2.2.1 ?_
      show R 63 _ _ _
      refine z_aload_n hR dX4_tell_63 rfl rfl ?_
      refine z_iload_n hR dX4_tell_64 rfl rfl ?_
      refine g_inv1 hR dX4_tell_65 zm_4_123 (by decide) zN_X4_pushOf ((wk_39 _) _) zO_X4_pushOf (Nat.le_of_ble_eq_true rfl) ?_
      refine c_X4_pushOf (mst_md (an := anb g n) hp (nwr_ok hp.2.2.2.2.2.1) (Nat.lt_of_lt_of_le (anb_lt g n) (Nat.pow_le_pow_right (n := 2) (by decide) hp.2.1)) hp.2.2.2.2.2.2.2.1 (by omega)) (i := i) hin ?_
      show R 68 _ (.int _ :: _) _
      refine g_bipush hR dX4_tell_68 ?_
      refine g_iadd hR dX4_tell_70 rfl ?_
      refine g_iret hR dX4_tell_71 rfl ?_
      exact hQ (by omega) _ (mst_eqS g (nwr g n) ((anb g n : Nat) : Int) (g 39 3) (g 39 4))
    · refine z_tabIn hR (off := 71) (tgt := 72) dX4_tell_1 (by decide) (by decide) (by decide) (by decide) ?_
      refine z_aload_n hR dX4_tell_72 rfl rfl ?_
      refine g_get hR dX4_tell_73 zf_4_16 (wk_39 _) (show _ = some (Value.ref 42) from rfl) ?_
      refine g_iconst hR dX4_tell_76 ?_
      refine z_iload_n hR dX4_tell_77 rfl rfl ?_
      refine g_imul hR dX4_tell_78 (nmul 4 _) ?_
      refine g_iconst hR dX4_tell_79 ?_
      refine g_iadd hR dX4_tell_80 (nadd _ 3) ?_
      refine g_ialdN hR dX4_tell_81 (wk_42 _) rfl ?_
      refine g_iret hR dX4_tell_82 rfl ?_
      exact hQ (by omega) g eqS.rf
    · refine z_tabIn hR (off := 82) (tgt := 83) dX4_tell_1 (by decide) (by decide) (by decide) (by decide) ?_
      refine z_aload_n hR dX4_tell_83 rfl rfl ?_
      refine z_iload_n hR dX4_tell_84 rfl rfl ?_
      refine g_inv1 hR dX4_tell_85 zm_4_120 (by decide) zN_X4_partyOf ((wk_39 _) _) zO_X4_partyOf (Nat.le_of_ble_eq_true rfl) ?_
      refine c_X4_partyOf hr (i0 := i) hin ?_
      show R 88 _ (.int _ :: _) _
      refine g_iret hR dX4_tell_88 rfl ?_
      exact hQ (by omega) g eqS.rf
    · refine z_tabIn hR (off := 88) (tgt := 89) dX4_tell_1 (by decide) (by decide) (by decide) (by decide) ?_
      refine z_aload_n hR dX4_tell_89 rfl rfl ?_
      refine z_iload_n hR dX4_tell_90 rfl rfl ?_
      refine g_inv1 hR dX4_tell_91 zm_4_142 (by decide) zN_X4_besideBits ((wk_39 _) _) zO_X4_besideBits (Nat.le_of_ble_eq_true rfl) ?_
      refine c_X4_besideBits hp.1 hp.2.1 hp.2.2.2.2.2.1 hin ?_
      show R 94 _ (.int _ :: _) _
      refine g_iret hR dX4_tell_94 rfl ?_
      exact hQ (by omega) g eqS.rf
    · refine z_tabIn hR (off := 94) (tgt := 95) dX4_tell_1 (by decide) (by decide) (by decide) (by decide) ?_
      refine z_aload_n hR dX4_tell_95 rfl rfl ?_
      refine z_iload_n hR dX4_tell_96 rfl rfl ?_
      refine g_inv1 hR dX4_tell_97 zm_4_145 (by decide) zN_X4_ropedBits ((wk_39 _) _) zO_X4_ropedBits (Nat.le_of_ble_eq_true rfl) ?_
      refine c_X4_ropedBits hr hp.1 hin ?_
      show R 100 _ (.int _ :: _) _
      refine g_iret hR dX4_tell_100 rfl ?_
      exact hQ (by omega) g eqS.rf
  · refine z_iload_n hR dX4_tell_0 rfl rfl ?_
    refine z_tabOut hR (tgt := 101) dX4_tell_1 (by rw [toInt_iI hz2]; omega) (by decide) ?_
    refine g_bipush hR dX4_tell_101 ?_
    refine g_iret hR dX4_tell_103 rfl ?_
    exact h2 hw8
theorem c_X4_about {zs : zzT} {d : Nat} {Q : zzQ} {g : Nat → Nat → Int} {hh : Int64} {n m : Nat} {ea eb : Nat → Nat} (hp : MP g n m ea eb) {z v : Int} (hz1 : rg z) (hz2 : rg v) (h1 : ¬ (0 ≤ z ∧ z < (n : Int)) → Q [.int (iI (-101))] (wof g hh)) (h2 : 0 ≤ z ∧ z < (n : Int) → ¬ (0 ≤ v ∧ v < 8) → Q [.int (iI (-102))] (wof g hh)) (h3 : ∀ i : Nat, z = (i : Int) → i < n → 0 ≤ v ∧ v < 8 → ∀ g1, eqS scM g g1 → Q [.int (iI (abM g n m ea eb i v))] (wof g1 hh)) : zzCL zs (d + 5) 87 [.ref 39, .int (iI z), .int (iI v)] (wof g hh) Q := by
  refine st_X4_about (Nat.le_of_ble_eq_true rfl) (fun R hR => ?_)
  show R 0 [(0, .ref 39), (1, .int (iI z)), (2, .int (iI v))] [] _
  refine z_aload_n hR dX4_about_0 rfl rfl ?_
  refine z_iload_n hR dX4_about_1 rfl rfl ?_
  refine g_inv1 hR dX4_about_2 zm_4_91 (by decide) zN_X4_isIsland ((wk_39 _) _) zO_X4_isIsland (Nat.le_of_ble_eq_true rfl) ?_
  refine c_X4_isIsland hp.1 hp.2.1 hz1 ?_
  show R 5 _ (.int _ :: _) _
  refine g_if_eqb hR (tgt := 17) dX4_about_5 (by decide) (fun c5 => ?_) (fun c5 => ?_)
  · have c5 := of_decide_eq_false c5
    refine g_bipush hR dX4_about_17 ?_
    refine g_iret hR dX4_about_19 rfl ?_
    exact h1 c5
  · have c5 := of_decide_eq_true c5
    obtain ⟨i, rfl⟩ := Int.eq_ofNat_of_zero_le c5.1
    have hin : i < n := by omega
    refine z_aload_n hR dX4_about_8 rfl rfl ?_
    refine z_iload_n hR dX4_about_9 rfl rfl ?_
    refine z_iload_n hR dX4_about_10 rfl rfl ?_
    refine g_inv2 hR dX4_about_11 zm_4_148 (by decide) zN_X4_tell ((wk_39 _) _) zO_X4_tell (Nat.le_of_ble_eq_true rfl) ?_
    refine c_X4_tell hp hin hz2 ?_ ?_
    · intro hv
      show R 14 _ (.int _ :: _) _
      refine z_goto hR (tgt := 19) dX4_about_14 (by decide) ?_
      refine g_iret hR dX4_about_19 rfl ?_
      exact h2 (by omega) hv
    · intro hv g1 he
      show R 14 _ (.int _ :: _) _
      refine z_goto hR (tgt := 19) dX4_about_14 (by decide) ?_
      refine g_iret hR dX4_about_19 rfl ?_
      exact h3 i rfl hin hv g1 he
theorem rp_bits {n m : Nat} {rp ea eb : Nat → Nat} (h : RR n m rp ea eb) {i : Nat} (hi : i < n) : rp i = bor (fun j => j) (fun j => arp ea eb m i j) n := by
  apply Nat.eq_of_testBit_eq
  intro t
  have e : (bor (fun j => j) (fun j => arp ea eb m i j) n).testBit t = true ↔ (rp i).testBit t = true := by
    rw [bor_bit]
    constructor
    · rintro ⟨j, a, b, rfl⟩
      exact (h.2.2.2.2.2 i j hi a).mpr (arp_iff.mp b)
    · intro q
      have ht := bit_lt (h.2.2.2.2.1 i hi) q
      exact ⟨t, ht, arp_iff.mpr ((h.2.2.2.2.2 i t hi ht).mp q), rfl⟩
  cases e1 : (rp i).testBit t <;> cases e2 : (bor (fun j => j) (fun j => arp ea eb m i j) n).testBit t <;> simp_all
/-- about() and tell() tell the same -/
theorem ab_both {g : Nat → Nat → Int} {n m an c : Nat} {rp ea eb : Nat → Nat} (hcu : RCur g) (h : SS n m an rp ea eb (g 2) (g 4) (g 5) (g 6) (g 7) (g 8) (g 39 8) (g 39 9) (g 39 3) (g 39 4) (g 39 5) (g 42) (g 43) c) {i : Nat} (hi : i < n) {v : Int} (hv : 0 ≤ v ∧ v < 8) : abX g n an i v = abM g n m ea eb i v := by
  obtain ⟨e1, e2, e3⟩ := SS_eqn h
  have hi7 := h.2.2.2.2.2.2.1 i hi
  have hi9 := h.2.2.2.2.2.2.2.2.1 i hi
  have hsw : v = 0 ∨ v = 1 ∨ v = 2 ∨ v = 3 ∨ v = 4 ∨ v = 5 ∨ v = 6 ∨ v = 7 := by omega
  have hpl : plok n (g 6) := fun j hj => (h.2.2.2.2.2.2.1 j hj).2.2.1.2
  rcases hsw with rfl | rfl | rfl | rfl | rfl | rfl | rfl | rfl
  · exact hi7.1.1
  · exact hi7.2.1.1
  · exact hi7.2.2.1.1
  · show psh (g 4) (g 3) an (g 2 9) (g 2 10) (g 6) i + 100 = psh (kdM g) (g 41) (anb g n) (g 39 3) (g 39 4) (nwr g n) i + 100
    rw [show g 2 9 = g 39 3 from h.2.2.2.1.1, show g 2 10 = g 39 4 from h.2.2.2.2.1.1, show an = anb g n from h.2.2.1.2, psh_congr hi e1 (fun j hj => (hcu j hj).1) e3 hpl]
  · show b2i (an.testBit i) = g 42 (4 * i + 3)
    rw [h.2.2.1.2, anbF_bit]
    rcases hi7.2.2.2 with q | q <;> simp [q, b2i, hi]
  · exact hi9.2
  · show ((bor (fun j => j) (fun j => bs (g 6 i) (g 6 j)) n : Nat) : Int) = ((bor (fun j => j) (fun j => bs (g 42 (4 * i + 2)) (g 42 (4 * j + 2))) n : Nat) : Int)
    rw [bor_congr (f1 := fun j => j) (c1 := fun j => bs (g 42 (4 * i + 2)) (g 42 (4 * j + 2)))]
    intro j hj
    exact ⟨rfl, by rw [hi7.2.2.1.1, (h.2.2.2.2.2.2.1 j hj).2.2.1.1]⟩
  · show g 7 i = ((bor (fun j => j) (fun j => arp ea eb m i j) n : Nat) : Int)
    rw [← rp_bits h.2.2.2.2.2.2.2.2.2.2 hi]
    exact hi9.1
theorem psh_rg2 {g : Nat → Nat → Int} {n an : Nat} {pt : Nat → Nat} (hk : WK g 2 n an pt) {i : Nat} (hi : i < n) : rg (psh (g 4) (g 3) an (g 2 9) (g 2 10) (g 6) i + 100) := by
  have := psh_rg (kd := g 4) (an := an) (da := g 2 10) hk.1.2.2.1 hk.2.2.2.2.1 (hk.2.1 i hi)
  unfold rg
  have h2 : psh (g 4) (g (2 + 1)) an (g 2 9) (g 2 10) (g (2 + 4)) i = psh (g 4) (g 3) an (g 2 9) (g 2 10) (g 6) i := rfl
  omega
theorem bor_small {f : Nat → Nat} {c : Nat → Bool} {n : Nat} (hn : n ≤ 5) (h : ∀ j, j < n → f j < 5) : bor f c n < 32 := bor_lt (m := 5) h
theorem abX_rg {g : Nat → Nat → Int} {n m an c : Nat} {rp ea eb : Nat → Nat} (hc : c ≤ 512) (hcu : RCur g) (h : SS n m an rp ea eb (g 2) (g 4) (g 5) (g 6) (g 7) (g 8) (g 39 8) (g 39 9) (g 39 3) (g 39 4) (g 39 5) (g 42) (g 43) c) {i : Nat} (hi : i < n) {v : Int} (hv : 0 ≤ v ∧ v < 8) : rg (abX g n an i v) := by
  have hk := SS_WK hc hcu h
  have hi7 := h.2.2.2.2.2.2.1 i hi
  have hi9 := h.2.2.2.2.2.2.2.2.1 i hi
  have hn5 := hk.1.2.1
  have h32 : (2 : Nat) ^ n ≤ 32 := Nat.pow_le_pow_right (n := 2) (by decide) hn5
  have hsw : v = 0 ∨ v = 1 ∨ v = 2 ∨ v = 3 ∨ v = 4 ∨ v = 5 ∨ v = 6 ∨ v = 7 := by omega
  rcases hsw with rfl | rfl | rfl | rfl | rfl | rfl | rfl | rfl
  · show rg (g 4 i); unfold rg; omega
  · show rg (g 5 i); unfold rg; omega
  · show rg (g 6 i); unfold rg; omega
  · exact psh_rg2 hk hi
  · exact b2i_rg _
  · show rg (g 8 i)
    have := (hk.2.2.2.2.2.2 i hi).2
    rw [hi9.2]; unfold rg; omega
  · show rg ((bor (fun j => j) (fun j => bs (g 6 i) (g 6 j)) n : Nat) : Int)
    have := bor_small (f := fun j => j) (c := fun j => bs (g 6 i) (g 6 j)) hn5 (fun j hj => by omega)
    unfold rg; omega
  · show rg (g 7 i)
    have := h.2.2.2.2.2.2.2.2.2.2.2.2.2.2.1 i hi
    rw [hi9.1]; unfold rg; omega
theorem abM_X {g g1 : Nat → Nat → Int} (h : eqS scX g g1) (n m : Nat) (ea eb : Nat → Nat) (i : Nat) (v : Int) : abM g1 n m ea eb i v = abM g n m ea eb i v := by
  unfold abM kdM anb nwr
  rw [eqX h 39 (by omega), eqX h 41 (by omega), eqX h 42 (by omega), eqX h 44 (by omega)]
theorem op_about {zs : zzT} {c : Nat} {g : Nat → Nat → Int} {hh : Int64} (hz : zsok zs) (h : Rel c g) (hc : c < 512) {z v : Int} (hz1 : rg z) (hz2 : rg v) : opOK zs 15 87 [.ref 0, .int (iI z), .int (iI v)] [.ref 39, .int (iI z), .int (iI v)] c g hh := by
  obtain ⟨hc0, hpage, hnum, hcur, ⟨n, m, an, sn, rp, ea, eb, hS, hH⟩, himg⟩ := id h
  have hk := SS_WK hc0 hcur hS
  have hp := SS_MP hc0 hcur hS
  by_cases hA : 0 ≤ z ∧ z < (n : Int)
  · obtain ⟨i, rfl⟩ := Int.eq_ofNat_of_zero_le hA.1
    by_cases hB : 0 ≤ v ∧ v < 8
    · refine op_sc (r := abX g n an i v) (abX_rg hc0 hcur hS (by omega) hB) h hc (fun Q q => c_X3_about hk hz hz1 hz2 (fun x => absurd hA x) (fun _ x => absurd hB x) (fun a e _ _ => by rw [← Int.ofNat.inj e]; exact q g eqS.rf)) (fun g1 hr1 he Q q => c_X4_about (MP_X he hp) hz1 hz2 (fun x => absurd hA x) (fun _ x => absurd hB x) (fun a e _ _ g2 he2 => by rw [← Int.ofNat.inj e, abM_X he, ← ab_both hcur hS (by omega) hB]; exact q g2 he2))
    · exact op_id (r := -102) (by unfold rg; omega) h hc (fun Q q => c_X3_about hk hz hz1 hz2 (fun x => absurd hA x) (fun _ _ => q) (fun _ _ _ x => absurd x hB)) (fun Q q => c_X4_about hp hz1 hz2 (fun x => absurd hA x) (fun _ _ => q) (fun _ _ _ x => absurd x hB))
  · exact op_id (r := -101) (by unfold rg; omega) h hc (fun Q q => c_X3_about hk hz hz1 hz2 (fun _ => q) (fun x => absurd x hA) (fun i e x => absurd (by omega) hA)) (fun Q q => c_X4_about hp hz1 hz2 (fun _ => q) (fun x => absurd x hA) (fun i e x => absurd (by omega) hA))
