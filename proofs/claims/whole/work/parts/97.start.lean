/-! THE CLAIM OUT OF ONE WALK OF THE LAW'S BODY. Your part is whole_start (and what it stands on); all else here is the same for every law, but numbers. -/
def R_law : String := "IslandsWedLaw"
def lw_P (b : Addr) (xs : List Int32) (args : Array Value) (s : State) : Prop := args = #[.ref b] ∧ s.IntsAt b xs ∧ xs.length ≤ 2560 ∧ (Jvm.Cond.and given_1 narrow_1).before args s = true
def lw_Q (_ : Array Value) (s : State) (o : Outcome) (t : State) : Prop := o = .returned (some (.int 1)) ∧ Framed s o t [] 600000 7302250
def lw_Z (below : List Frame) (a : Array Value) (s : State) : State → Prop := fun t => ∃ o, t.status = .running ∧ Ended t below o ∧ lw_Q a s o t
/-- the law's own end, with 1 on the stack, nothing written that was there before, its room as the claim has it -/
theorem lw_ret {p : Program} {l : Launch} {e : Env} {s : State} {m : MethodId} {below : List Frame} {meth : Method} {c : Code} {b : Nat} (hx : p.tables.exec = Jvm.exec) (hb : c.code = code) (hr : meth.sig.returnType = ret) (hlocks : meth.locks = false) {pc : Nat} {H : Heap} {ls : Array Slot} (hdg : decode code pc = .ok (.ireturn, 1)) : W p l e room_1 s m #[Value.ref b] below meth c H [] 600000 7302250 (lw_Z below #[Value.ref b] s) (F0 m pc ls [.int 1]) := by
  intro T hT X
  obtain ⟨fs, hret, hrun, hended, hW, hframe⟩ := X.leave (v := some (.int 1)) (hlocks := hlocks) (fun h => by rw [hr] at h; cases h)
  have hmeth' : T.vm.method? m = some meth := X.method'
  refine ⟨T.setFrames fs, ?_, .returned (some (.int 1)), hrun, hended, rfl, ⟨_, rfl⟩, hW, hframe⟩
  jvm_step X.here [X.here.top, hx, hb, hdg, hmeth', hr, ret, narrow_b1]
  (try refine ⟨rfl, ?_⟩); (try refine ⟨rfl, ?_⟩)
  first | (intro acts; rw [hret _ acts rfl rfl rfl]) | rw [hret _ _ rfl rfl rfl]
  exact Steps.refl _
/-- what holds at the law's entry: the machine, the code, the tables' words (any of lw_tbl by 'hts w (by decide +kernel)'), the script of L ints xs at the cell b, what the Statement gives of the start (any of its parts by flat_of_before) -/
def lw_At (p : Program) (s : State) (m : MethodId) (meth : Method) (c : Code) (b L : Nat) (xs : Nat → Int32) : Prop :=
  p.tables.exec = Jvm.exec ∧ c.code = code ∧ meth.sig.returnType = ret ∧ c.maxLocals = 4 ∧ s.vm.findClass R_law = some m.cls ∧ (∀ w ∈ lw_tbl, w.before #[Value.ref b] s = true) ∧ va_X b L xs s s.heap ∧ b < s.heap.size ∧ meth.locks = false ∧ (Jvm.Cond.and given_1 narrow_1).before #[Value.ref b] s = true
set_option maxRecDepth 100000 in
theorem zicl_L3 : Cond.classLink (zzR 5) 7 (zzR 3) ∈ zzT0 := zzin_mem (by decide +kernel)
set_option maxRecDepth 100000 in
theorem zicl_L4 : Cond.classLink (zzR 5) 10 (zzR 4) ∈ zzT0 := zzin_mem (by decide +kernel)
set_option maxRecDepth 100000 in
theorem zilk_3 : Cond.methodLink (zzR 5) 9 yX3_init ∈ zzT0 := zzin_mem (by decide +kernel)
set_option maxRecDepth 100000 in
theorem zilk_4 : Cond.methodLink (zzR 5) 12 yX4_init ∈ zzT0 := zzin_mem (by decide +kernel)
/-- both systems, new -/
def g00 : Nat → Nat → Int := fun a => match a with
  | 34 => fun j => if j = 6 then -1 else 0
  | 39 => fun j => if j = 25 then -1 else 0
  | _ => fun _ => 0
def alL (u v : Nat → Nat) (tA tB b : Nat) : Nat → Nat := fun k => ([u 0, u 1, u 2, u 3, u 4, u 5, u 6, u 7, u 8, u 9, u 10, u 11, u 12, u 13, u 14, u 15, u 16, u 17, u 18, u 19, u 20, u 21, u 22, u 23, u 24, u 25, u 26, u 27, u 28, u 29, u 30, u 31, u 32, u 33, u 34, u 35, u 36, u 37, u 38, v 0, v 1, v 2, v 3, v 4, v 5, v 6, v 7, v 8, v 9, v 10, v 11, v 12] : List Nat).getD k (if k = 1000 then tA else if k = 1001 then tB else b)
set_option maxHeartbeats 4000000 in
set_option maxRecDepth 100000 in
theorem al_w (cI cZ : ClassId) (u v : Nat → Nat) (tA tB b : Nat) : zzwl cI cZ (alL u v tA tB b) 52 (wof g00 0) = fX3 cI cZ u ++ fX4 cI cZ v := rfl
theorem Rel_00 : Rel 0 g00 := by
  refine ⟨by omega, ⟨0, rfl, rfl, by omega, fun j hj => absurd hj (by omega)⟩, ⟨⟨rfl, Or.inl rfl⟩, ⟨rfl, Int.le_refl _, Int.le_refl _⟩, ⟨rfl, Int.le_refl _, by decide⟩⟩, fun j _ => ⟨rfl, by show (-1 : Int) ≤ 0; decide, by show (0 : Int) ≤ 1; decide⟩, ?_, Or.inl ⟨rfl, by decide, by decide⟩⟩
  refine ⟨0, 0, 0, 0, fun _ => 0, fun _ => 0, fun _ => 0, ⟨⟨rfl, rfl⟩, ⟨rfl, rfl⟩, ⟨rfl, rfl⟩, ⟨rfl, by decide, by decide⟩, ⟨rfl, Int.le_refl _, Int.le_refl _⟩, rfl, fun j hj => absurd hj (by omega), fun i j hi => absurd hi (by omega), fun j hj => absurd hj (by omega), fun r hr => absurd hr (by omega), ⟨by omega, by omega, fun r hr => absurd hr (by omega), fun r s _ hs => absurd hs (by omega), fun i hi => absurd hi (by omega), fun i j hi => absurd hi (by omega)⟩⟩, ⟨rfl, rfl, by omega, fun k hk => absurd hk (by omega)⟩⟩
/-- a table that nobody writes, out of the Statement -/
theorem law_csh {s : State} {b : Nat} {A : Nat → Prop} (hgv : (Jvm.Cond.and given_1 narrow_1).before #[Value.ref b] s = true) (hA : ∀ a : Nat, a < s.heap.size → ¬ A a) : ∃ t : Nat, (Term.static "IslandsWed" "CURRENT_SHARE" "[I").eval #[Value.ref b] s none [] s = some (.ref t) ∧ va_T .int t 5 (fun j => .int (ir csh j)) A s s.heap := by
  have hs := flat_of_before _ hgv
  have h0 : (Term.elem (.static "IslandsWed" "CURRENT_SHARE" "[I") (.int 0)).eval #[Value.ref b] s none [] s = some (.int 1) := va_eqt (hs _ (by decide +kernel))
  have h1 : (Term.elem (.static "IslandsWed" "CURRENT_SHARE" "[I") (.int 1)).eval #[Value.ref b] s none [] s = some (.int 0) := va_eqt (hs _ (by decide +kernel))
  have h2 : (Term.elem (.static "IslandsWed" "CURRENT_SHARE" "[I") (.int 2)).eval #[Value.ref b] s none [] s = some (.int 1) := va_eqt (hs _ (by decide +kernel))
  have h3 : (Term.elem (.static "IslandsWed" "CURRENT_SHARE" "[I") (.int 3)).eval #[Value.ref b] s none [] s = some (.int 1) := va_eqt (hs _ (by decide +kernel))
  have h4 : (Term.elem (.static "IslandsWed" "CURRENT_SHARE" "[I") (.int 4)).eval #[Value.ref b] s none [] s = some (.int 1) := va_eqt (hs _ (by decide +kernel))
  have hlen : (Term.length (.static "IslandsWed" "CURRENT_SHARE" "[I")).eval #[Value.ref b] s none [] s = some (.int 5) := va_eqt (hs _ (by decide +kernel))
  refine va_Tof (by decide) (hs (Cond.arrayOf (.static "IslandsWed" "CURRENT_SHARE" "[I") .int) (by decide +kernel)) hlen (fun j hj => ?_) hA
  match j, hj with
  | 0, _ => exact h0
  | 1, _ => exact h1
  | 2, _ => exact h2
  | 3, _ => exact h3
  | 4, _ => exact h4
  | n + 5, h => exact absurd h (by omega)
theorem law_wsh {s : State} {b : Nat} {A : Nat → Prop} (hgv : (Jvm.Cond.and given_1 narrow_1).before #[Value.ref b] s = true) (hA : ∀ a : Nat, a < s.heap.size → ¬ A a) : ∃ t : Nat, (Term.static "IslandsWed" "WIND_SHARE" "[I").eval #[Value.ref b] s none [] s = some (.ref t) ∧ va_T .int t 5 (fun j => .int (ir wsh j)) A s s.heap := by
  have hs := flat_of_before _ hgv
  have h0 : (Term.elem (.static "IslandsWed" "WIND_SHARE" "[I") (.int 0)).eval #[Value.ref b] s none [] s = some (.int 0) := va_eqt (hs _ (by decide +kernel))
  have h1 : (Term.elem (.static "IslandsWed" "WIND_SHARE" "[I") (.int 1)).eval #[Value.ref b] s none [] s = some (.int 0) := va_eqt (hs _ (by decide +kernel))
  have h2 : (Term.elem (.static "IslandsWed" "WIND_SHARE" "[I") (.int 2)).eval #[Value.ref b] s none [] s = some (.int 1) := va_eqt (hs _ (by decide +kernel))
  have h3 : (Term.elem (.static "IslandsWed" "WIND_SHARE" "[I") (.int 3)).eval #[Value.ref b] s none [] s = some (.int 0) := va_eqt (hs _ (by decide +kernel))
  have h4 : (Term.elem (.static "IslandsWed" "WIND_SHARE" "[I") (.int 4)).eval #[Value.ref b] s none [] s = some (.int 2) := va_eqt (hs _ (by decide +kernel))
  have hlen : (Term.length (.static "IslandsWed" "WIND_SHARE" "[I")).eval #[Value.ref b] s none [] s = some (.int 5) := va_eqt (hs _ (by decide +kernel))
  refine va_Tof (by decide) (hs (Cond.arrayOf (.static "IslandsWed" "WIND_SHARE" "[I") .int) (by decide +kernel)) hlen (fun j hj => ?_) hA
  match j, hj with
  | 0, _ => exact h0
  | 1, _ => exact h1
  | 2, _ => exact h2
  | 3, _ => exact h3
  | 4, _ => exact h4
  | n + 5, h => exact absurd h (by omega)
/-- the tables, and the script -/
def zsL (L : Nat) (f : Nat → Int) : zzT := fun t => if t = 1000 then some (5, ir csh) else if t = 1001 then some (5, ir wsh) else if t = 1002 then some (L, ir f) else none
theorem law_K {p : Program} {s : State} {m : MethodId} {meth : Method} {c : Code} {b L : Nat} {xs : Nat → Int32} (C0 : lw_At p s m meth c b L xs) : ∃ (D : va_G) (cI cZ : ClassId), ziK p s m #[Value.ref b] c D cI cZ (fun q : Nat => s.heap.size ≤ q) cL_law 5 4 := by
  obtain ⟨hx, hb, hr, hml, hown, hts, hX, hbl, hlocks, hgv⟩ := id C0
  have hts0 : ∀ w ∈ zzT0, w.before #[Value.ref b] s = true := fun w hw => hts w (List.mem_filter.mp hw).1
  have hN0 : ∀ w ∈ zzN0, va_Nw w s := fun w hw => va_Nw.of (by rcases zzN0_kind w hw with ⟨_, _, _, _, _, _, rfl⟩ | ⟨_, _, _, _, rfl⟩ <;> rfl) (hts w (List.mem_filter.mp hw).1)
  obtain ⟨c0, i0, k0⟩ := u_known (n := 7) hts0 (zzu_in 0 (by decide)) (hts0 _ ziw_0.2.1)
  obtain ⟨c1, i1, k1⟩ := u_known (n := 5) hts0 (zzu_in 1 (by decide)) (hts0 _ ziw_1.2.1)
  obtain ⟨c2, i2, k2⟩ := u_known (n := 12) hts0 (zzu_in 2 (by decide)) (hts0 _ ziw_2.2.1)
  obtain ⟨c3, i3, k3⟩ := u_known (n := 13) hts0 (zzu_in 3 (by decide)) (hts0 _ ziw_3.2.1)
  obtain ⟨c4, i4, k4⟩ := u_known (n := 36) hts0 (zzu_in 4 (by decide)) (hts0 _ ziw_4.2.1)
  obtain ⟨cI, kI, compI, hfI, hkI, hkdI⟩ := Cond.arrayClass_spec (hts0 _ zi_ai)
  obtain ⟨cZ, kZ, compZ, hfZ, hkZ, hkdZ⟩ := Cond.arrayClass_spec (hts0 _ zi_az)
  refine ⟨(fun k => if k = 0 then c0 else if k = 1 then c1 else if k = 2 then c2 else if k = 3 then c3 else c4, fun k => if k = 0 then i0 else if k = 1 then i1 else if k = 2 then i2 else if k = 3 then i3 else i4), cI, cZ, hx, hb, hml, hown, hts0, ⟨?_, ?_⟩, hN0, fun _ h => h⟩
  · intro k q hq
    match k, hq with
    | 0, hq => cases hq; exact k0
    | 1, hq => cases hq; exact k1
    | 2, hq => cases hq; exact k2
    | 3, hq => cases hq; exact k3
    | 4, hq => cases hq; exact k4
    | k + 5, hq => simp [vwCl] at hq
  · intro k q hq
    match k, hq with
    | 0, hq => cases hq; exact ⟨fun n z => ⟨fun k h => (by cases h), kI, hkI, compI, hkdI⟩, hfI⟩
    | 1, hq => cases hq; exact ⟨fun n z => ⟨fun k h => (by cases h), kZ, hkZ, compZ, hkdZ⟩, hfZ⟩
    | k + 2, hq => simp at hq
set_option maxHeartbeats 4000000 in
set_option maxRecDepth 100000 in
/-- from the loop's head, both systems new -/
theorem law_18 {p : Program} {e : Env} {s : State} {m : MethodId} {below : List Frame} {meth : Method} {c : Code} (l : Launch) {b L : Nat} {xs : Nat → Int32} (hL : L ≤ 2560) (C0 : lw_At p s m meth c b L xs) {D : va_G} {cI cZ : ClassId} (C : ziK p s m #[Value.ref b] c D cI cZ (fun q : Nat => s.heap.size ≤ q) cL_law 5 4) {u v : Nat → Nat} {ls : Array Slot} (hl : lv_has ls 4 [(0, .ref b), (1, .ref (u 0)), (2, .ref (v 0)), (3, .int (iI 0))]) : ziW p l e room_1 s m #[Value.ref b] below meth c (lw_Z below #[Value.ref b] s) D (fun q : Nat => s.heap.size ≤ q) ls 52 530 18 [] (fX3 cI cZ u ++ fX4 cI cZ v) := by
  intro H locs hP hD hS
  obtain ⟨hx, hb, hr, hml, hown, hts, hX, hbl, hlocks, hgv⟩ := id C0
  have hnA : ∀ a : Nat, a < s.heap.size → ¬ (fun q : Nat => s.heap.size ≤ q) a := fun a h => Nat.not_le.mpr h
  obtain ⟨tA, eA, hTA⟩ := law_csh (A := fun q : Nat => s.heap.size ≤ q) hgv hnA
  obtain ⟨tB, eB, hTB⟩ := law_wsh (A := fun q : Nat => s.heap.size ≤ q) hgv hnA
  have hZA := va_Zref (A := fun q : Nat => s.heap.size ≤ q) (hts (.laysStatic "IslandsWed" "CURRENT_SHARE" "[I") (by decide +kernel)) (hts (.initialized "IslandsWed") (by decide +kernel)) eA hnA
  have hZB := va_Zref (A := fun q : Nat => s.heap.size ≤ q) (hts (.laysStatic "IslandsWed" "WIND_SHARE" "[I") (by decide +kernel)) (hts (.initialized "IslandsWed") (by decide +kernel)) eB hnA
  have hT : ∀ (t n : Nat) (f : Nat → Int32), zsL L (fun j => (xs j).toInt) t = some (n, f) → va_T .int (alL u v tA tB b t) n (fun j => .int (f j)) (fun q : Nat => s.heap.size ≤ q) s s.heap := by
    intro t n f ht
    unfold zsL at ht
    split at ht
    · next q => cases ht; subst q; exact hTA
    · split at ht
      · next q => cases ht; subst q; exact hTB
      · split at ht
        · next q =>
          cases ht
          subst q
          obtain ⟨scr, h1, h2, h3, h4, h5⟩ := hX
          refine ⟨scr, h1, h2, h3, by omega, by rw [h4], fun j hj => ?_, hnA b hbl⟩
          rw [h5 j hj]
          show some (Value.int (xs j)) = some (Value.int (iI (xs j).toInt))
          rw [iI_toInt]
        · cases ht
  rw [← al_w cI cZ u v tA tB b] at hP hD
  have hat : ∀ k, k < 52 → (zzwl cI cZ (alL u v tA tB b) 52 (wof g00 0))[k]? = some (alL u v tA tB b k, zzcell cI cZ (alL u v tA tB b) (wof g00 0 k)) := by
    intro k hk
    simp only [zzwl, List.getElem?_map, List.getElem?_range hk, Option.map_some]
  have hinj : ∀ i j, i < 52 → j < 52 → alL u v tA tB b i = alL u v tA tB b j → i = j := fun i j hi hj e => hD.1 i j _ _ (hat i hi) (hat j hj) e
  have hAl : ∀ k, k < 52 → s.heap.size ≤ alL u v tA tB b k := fun k hk => hD.2 k _ (hat k hk)
  have C2 : zzcx p room_1 s m #[Value.ref b] c D cI cZ (alL u v tA tB b) 52 (fun q : Nat => s.heap.size ≤ q) 4 (zsL L (fun j => (xs j).toInt)) cL_law 5 52 530 :=
    ⟨hx, hb, hml, hown, C.2.2.2.2.1, ⟨C.2.2.2.2.2.1, C.2.2.2.2.2.2.1, hT, hZA, hZB⟩, hinj, hAl, fun _ h => h, Nat.le_of_ble_eq_true rfl, Nat.le_of_ble_eq_true rfl, Nat.le_of_ble_eq_true rfl, Nat.le_of_ble_eq_true rfl⟩
  have hcl := zz_closed (l := l) (e := e) (below := below) (meth := meth) (Z := lw_Z below #[Value.ref b] s) (rt := some .boolean) (Q := fun r _ => r = [.int (iI 1)]) (CL := zzCL (zsL L (fun j => (xs j).toInt)) 20) C2 (zzrm 20) ⟨rfl, rfl, Nat.le_of_ble_eq_true rfl, Nat.le_of_ble_eq_true rfl⟩ (zzMet hinj 20)
    (by
      intro pc ls2 st w1 ty v1 hd hrt hn hQ hok1 H1 locs1 ls3 hP1 hS1 hl1
      have hv : v1 = 1 := by
        have h9 : v1 = iI 1 := by
          have := congrArg List.head? hQ
          simpa using this
        rw [h9]; decide
      subst hv
      refine va_forget hS1.2.2 ?_
      refine W.widen (k := 600000) (n := 7302250) (by decide) (by decide) ?_
      exact lw_ret hx hb hr hlocks hd)
    (by
      intro pc ls2 st w1 v1 hd hrt
      cases hrt)
    (by
      intro pc ls2 st w1 hd hrt
      cases hrt)
  exact law_lp hcl ⟨rfl, rfl⟩ (L := L) (f := fun j => (xs j).toInt) rfl hL (fun j => rg_of _) rfl (fun w => rfl) 513 0 g00 0 Rel_00 (by omega) (wof_ok g00 0) H locs ls hP hS (lv_sub hl [0, 1, 2, 3] rfl)
