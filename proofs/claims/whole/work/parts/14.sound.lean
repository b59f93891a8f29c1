section ZV
variable {p : Program} {l : Launch} {e : Env} {Rm : Room} {s : State} {m : MethodId} {args : Array Value} {below : List Frame} {meth : Method} {c : Code} {Z : State → Prop} {D : va_G} {cI cZ : ClassId} {al : Nat → Nat} {M : Nat} {A : Nat → Prop} {cells slots nL : Nat} {zs : zzT} {CL : zzK} {cc : ByteArray} {o : Nat} {rt : Option FieldType} {Q : zzQ}
/-- behind a call -/
theorem zz_back {pc : Nat} {ls : zzL} {st : List Value} {ls1 : Array Slot} {st1 : List Value} {a : Array Value} {H : Heap} {locs : List Loc} (C : zzcx p Rm s m args c D cI cZ al M A nL zs cc o cells slots)
    (hr : va_Run p l e Rm s m args below meth c H locs cells slots 0 0 (F0 m pc ls1 st1) (st.map (zzv al)) (zzQc D cI cZ al M (fun r w1 => zzRW p l e Rm s m args below meth c Z D cI cZ al M A cells slots nL (pc + 3) ls (r ++ st) w1) H.size a) (zzA al M H.size))
    (hS : va_S A s.heap H locs) (hl : lv_has ls1 nL (ls.map (zzq al))) : W p l e Rm s m args below meth c H locs cells slots Z (F0 m pc ls1 st1) := by
  have hsub : ∀ q, zzA al M H.size q → A q := by
    intro q hq
    rcases hq with ⟨k, hk, rfl⟩ | hq
    · exact C.2.2.2.2.2.2.2.1 k hk
    · exact C.2.2.2.2.2.2.2.2.1 q (Nat.le_trans hS.1 hq)
  intro T hT X
  obtain ⟨v, st₀, t, T', L, h0, X', hL, e1, e2, ⟨⟨r, w1, hok1, hQ, hlen, hv, hP1⟩, hz, hk⟩, stp⟩ := hr T hT X
  rw [h0] at hz hk
  have hv : v = (r.map (zzv al)).head? := by injection hv
  have hrv : v.toList ++ st.map (zzv al) = (r ++ st).map (zzv al) := by
    rw [hv, List.map_append]
    match r, hlen with
    | [], _ => rfl
    | [x], _ => rfl
    | x :: y :: z, h => simp at h
  have hS1 : va_S A s.heap T'.heap (locs ++ L) := ⟨Nat.le_trans hS.1 (by rw [e1]; exact hz), fun q h1 h2 => by rw [e1, hk q (Nat.lt_of_lt_of_le h1 hS.1) (fun z => h2 (hsub q z))]; exact hS.2.1 q h1 h2, fun q hq => by
      rcases List.mem_append.mp hq with h | h
      · exact hS.2.2 q h
      · exact hsub _ (hL q h)⟩
  obtain ⟨t2, a1, b1⟩ := hQ hok1 T'.heap (locs ++ L) ls1 (by rw [e1]; exact hP1) hS1 hl T' rfl X'
  refine ⟨t2, stp t2 ?_, b1⟩
  have : F0 m (pc + 3) ls1 ((r ++ st).map (zzv al)) = { F0 m pc ls1 st1 with pc := (F0 m pc ls1 st1).pc + 3, stack := v.toList ++ st.map (zzv al) } := by rw [hrv]
  rw [← this]
  exact a1
theorem zz_blind {av : List Value} {w : zzW} {sz : Nat} : FrameBlind (zzPc D cI cZ al M zs av w sz) := by
  intro a U g mk q
  obtain ⟨q0, q1, q2, q3, q4⟩ := q
  exact ⟨q0, q1, q2, q3, q4.call g mk a⟩
theorem zz_pre {av : List Value} {w : zzW} {H : Heap} {locs : List Loc} (C : zzcx p Rm s m args c D cI cZ al M A nL zs cc o cells slots) (hok : zzok M w) (hP : va_P D vwCl (zzwl cI cZ al M w) H) (hS : va_S A s.heap H locs) : ∀ U : State, U.heap = H → s.WarmedH U.vm → zzPc D cI cZ al M zs av w H.size (av.map (zzv al)).toArray U := by
  intro U hU hW
  refine ⟨rfl, by rw [hU], hok, by rw [hU]; exact hP, C.2.2.2.2.2.1.go hS hU hW ?_⟩
  intro q hq
  rcases hq with ⟨k, hk, rfl⟩ | hq
  · exact C.2.2.2.2.2.2.2.1 k hk
  · exact C.2.2.2.2.2.2.2.2.1 q (Nat.le_trans hS.1 hq)
theorem zs_invv (C : zzcx p Rm s m args c D cI cZ al M A nL zs cc o cells slots) (rm : Room) (hr0 : rm.cells = 0 ∧ rm.slots = 0 ∧ rm.frames + 1 ≤ Rm.frames ∧ 60 + rm.locals ≤ Rm.locals) (IH : ∀ (k : Nat) (av : List Value) (w : zzW) (Q : zzQ) (sz : Nat), CL k av w Q → Met l (zzy k) (zzws k) rm (zzPc D cI cZ al M zs av w sz) (zzQc D cI cZ al M Q sz) 0 0 (zzA al M sz)) : zr_invv zs CL cc o nL rt Q (zzRW p l e Rm s m args below meth c Z D cI cZ al M A cells slots nL) := by
  intro pc ls st w idx kd k As b ci fs st0 hd hm hkd hst hn hw hci hcat hcl hok H locs ls1 hP hS hl
  subst hst
  subst hci
  obtain ⟨hk, hm⟩ := zzmt_ok hm
  obtain ⟨hcode, hini, hpl, hcls, hds, hmx, hstat⟩ := zzcd_ok k hk
  have hb0 : (zzm k).2.2.2.2.2.2 = false := by
    rcases hm with h | h | h
    · exact h.2.2
    · exact h.2.2
    · omega
  obtain ⟨hinst, hsel, ho5⟩ := hstat.2 hb0
  have hts := C.2.2.2.2.1
  have hM := IH k (.ref b :: As) w _ H.size hcl
  have hrec := va_recv C.2.2.2.2.2.1.1 hP (zzcl_at _ ho5) (zzwl_at hok hw)
  have hpv : PreV s H (zzR (zzo k)) (al b) (zzPc D cI cZ al M zs (.ref b :: As) w H.size) (As.map (zzv al)) := ⟨zz_blind, hrec, zz_pre C hok hP hS⟩
  have hlen : (As.map (zzv al)).length = zzn k := by rw [List.length_map]; exact hn
  have hstack : (F0 m pc ls1 ((As.reverse ++ .ref b :: st).map (zzv al))).stack = (As.map (zzv al)).reverse ++ .ref (al b) :: st.map (zzv al) := by
    show (As.reverse ++ .ref b :: st).map (zzv al) = _
    rw [List.map_append, List.map_reverse]
    rfl
  have hroom : 2 * (F0 m pc ls1 ((As.reverse ++ .ref b :: st).map (zzv al))).monitorRoom + ((st.map (zzv al)).map fun v => v.category).sum ≤ 8 := lv_room (by rw [zzv_cats]; exact hcat)
  have hcells : cells + 0 ≤ Rm.cells ∧ slots + 0 ≤ Rm.slots := ⟨C.2.2.2.2.2.2.2.2.2.2.2.1, C.2.2.2.2.2.2.2.2.2.2.2.2⟩
  have hmx2 : 8 + (zzl k + 11) + rm.locals ≤ Rm.locals := by
    have : zzl k ≤ 40 := hmx
    have := hr0.2.2.2
    omega
  rcases hm with h | h | h
  · refine zz_back C (va_runV (C := zzR (zzo k)) (As := As.map (zzv al)) (rest := st.map (zzv al)) (n := zzn k) ⟨C.1, C.2.1, C.2.2.1, C.2.2.2.1, hts⟩ hM ⟨callB_of (zzn k) hts (zzgoodT (fun _ h => h) k hk) rfl hr0.1 hr0.2.1 (hts _ hini) (hts _ h.2.1) hds ⟨hr0.2.2.1, hmx2⟩, hts _ hinst, hts _ hsel⟩ hpv rfl hlen hl.1 hstack hroom hd hcells) hS hl
  · refine zz_back C (va_runVN (C := zzR (zzo k)) (As := As.map (zzv al)) (rest := st.map (zzv al)) (n := zzn k) ⟨C.1, C.2.1, C.2.2.1, C.2.2.2.1, hts⟩ hM ⟨va_cnB (zzn k) hts (zzgoodT (fun _ h => h) k hk) rfl hr0.1 hr0.2.1 (C.2.2.2.2.2.1.2.1 _ h.2.1) (hts _ hini) hds ⟨hr0.2.2.1, hmx2⟩, hts _ hinst, hts _ hsel⟩ hpv rfl hlen hl.1 hstack hroom hd hcells) hS hl
  · omega
theorem zs_invs (C : zzcx p Rm s m args c D cI cZ al M A nL zs cc o cells slots) (rm : Room) (hr0 : rm.cells = 0 ∧ rm.slots = 0 ∧ rm.frames + 1 ≤ Rm.frames ∧ 60 + rm.locals ≤ Rm.locals) (IH : ∀ (k : Nat) (av : List Value) (w : zzW) (Q : zzQ) (sz : Nat), CL k av w Q → Met l (zzy k) (zzws k) rm (zzPc D cI cZ al M zs av w sz) (zzQc D cI cZ al M Q sz) 0 0 (zzA al M sz)) : zr_invs zs CL cc o nL rt Q (zzRW p l e Rm s m args below meth c Z D cI cZ al M A cells slots nL) := by
  intro pc ls st w idx k As st0 hd hm hst hn hcat hcl hok H locs ls1 hP hS hl
  subst hst
  obtain ⟨hk, hm⟩ := zzmt_ok hm
  obtain ⟨hcode, hini, hpl, hcls, hds, hmx, hstat⟩ := zzcd_ok k hk
  have hm2 : Cond.methodLink (zzR o) idx (zzm k).1 ∈ zzT0 ∧ (zzm k).2.2.2.2.2.2 = true := by
    rcases hm with h | h | h
    · omega
    · omega
    · exact h.2
  have hsta := hstat.1 hm2.2
  have hts := C.2.2.2.2.1
  have hM := IH k As w _ H.size hcl
  have hlen : (As.map (zzv al)).length = zzn k := by rw [List.length_map]; exact hn
  have hstack : (F0 m pc ls1 ((As.reverse ++ st).map (zzv al))).stack = (As.map (zzv al)).reverse ++ st.map (zzv al) := by
    show (As.reverse ++ st).map (zzv al) = _
    rw [List.map_append, List.map_reverse]
  have hroom : 2 * (F0 m pc ls1 ((As.reverse ++ st).map (zzv al))).monitorRoom + ((st.map (zzv al)).map fun v => v.category).sum ≤ 8 := lv_room (by rw [zzv_cats]; exact hcat)
  have hcells : cells + 0 ≤ Rm.cells ∧ slots + 0 ≤ Rm.slots := ⟨C.2.2.2.2.2.2.2.2.2.2.2.1, C.2.2.2.2.2.2.2.2.2.2.2.2⟩
  have hmx2 : 8 + (zzl k + 11) + rm.locals ≤ Rm.locals := by
    have : zzl k ≤ 40 := hmx
    have := hr0.2.2.2
    omega
  exact zz_back C (va_runS (As := As.map (zzv al)) (rest := st.map (zzv al)) (n := zzn k) ⟨C.1, C.2.1, C.2.2.1, C.2.2.2.1, hts⟩ hM ⟨callB_of (zzn k) hts (zzgoodT (fun _ h => h) k hk) rfl hr0.1 hr0.2.1 (hts _ hini) (hts _ hm2.1) hds ⟨hr0.2.2.1, hmx2⟩, hts _ hsta⟩ ⟨zz_blind, zz_pre C hok hP hS⟩ rfl hlen hl.1 hstack hroom hd hcells) hS hl
/-- the machine's states are closed under the rules; the returns are the caller's to show -/
theorem zz_closed (C : zzcx p Rm s m args c D cI cZ al M A nL zs cc o cells slots) (rm : Room) (hr0 : rm.cells = 0 ∧ rm.slots = 0 ∧ rm.frames + 1 ≤ Rm.frames ∧ 60 + rm.locals ≤ Rm.locals) (IH : ∀ (k : Nat) (av : List Value) (w : zzW) (Q : zzQ) (sz : Nat), CL k av w Q → Met l (zzy k) (zzws k) rm (zzPc D cI cZ al M zs av w sz) (zzQc D cI cZ al M Q sz) 0 0 (zzA al M sz))
    (hi : zr_iret zs CL cc o nL rt Q (zzRW p l e Rm s m args below meth c Z D cI cZ al M A cells slots nL)) (hlr : zr_lret zs CL cc o nL rt Q (zzRW p l e Rm s m args below meth c Z D cI cZ al M A cells slots nL)) (hvr : zr_vret zs CL cc o nL rt Q (zzRW p l e Rm s m args below meth c Z D cI cZ al M A cells slots nL)) : zzC zs CL cc o nL rt Q (zzRW p l e Rm s m args below meth c Z D cI cZ al M A cells slots nL) :=
  ⟨⟨(zs_iconst C), (zs_bipush C), (zs_lconst C), (zs_ldc C), (zs_ldcw C), (zs_ldc2 C), (zs_iload_n C), (zs_iload C)⟩, ⟨(zs_lload_n C), (zs_lload C), (zs_aload_n C), (zs_aload C), (zs_istore_n C), (zs_istore C), (zs_lstore_n C), (zs_lstore C)⟩, ⟨(zs_astore_n C), (zs_astore C), (zs_iinc C), (zs_iadd C), (zs_isub C), (zs_imul C), (zs_iand C), (zs_ior C)⟩, ⟨(zs_ixor C), (zs_ishl C), (zs_ishr C), (zs_iushr C), (zs_idiv C), (zs_irem C), (zs_ineg C), (zs_ladd C)⟩, ⟨(zs_lmul C), (zs_land C), (zs_lcmp C), (zs_i2l C), (zs_l2i C), (zs_dup C), (zs_pop C), (zs_dup2 C)⟩, ⟨(zs_if_eq C), (zs_if_ne C), (zs_if_lt C), (zs_if_ge C), (zs_if_gt C), (zs_if_le C), (zs_icmp_eq C), (zs_icmp_ne C)⟩, ⟨(zs_icmp_lt C), (zs_icmp_ge C), (zs_icmp_gt C), (zs_icmp_le C), (zs_goto C), (zs_tabIn C), (zs_tabOut C), (zs_get C)⟩, ⟨(zs_puti C), (zs_putl C), (zs_gets C), (zs_iald C), (zs_tald C), (zs_zald C), (zs_iast C), (zs_zast C)⟩, ⟨(zs_alen C), (zs_tlen C), (zs_invv C rm hr0 IH), (zs_invs C rm hr0 IH), (zs_acopy C), (zs_mmn C), (zs_mmx C), (zs_weak C)⟩, ⟨hi, hlr, hvr⟩⟩
/-- a method of the system, met: by induction on the depth of the calls -/
theorem zzMet (hinj : ∀ i j, i < M → j < M → al i = al j → i = j) : ∀ (d k : Nat) (av : List Value) (w : zzW) (Q : zzQ) (sz : Nat), zzCL zs d k av w Q → Met l (zzy k) (zzws k) (zzrm d) (zzPc D cI cZ al M zs av w sz) (zzQc D cI cZ al M Q sz) 0 0 (zzA al M sz) := by
  intro d
  induction d with
  | zero => intro k av w Q sz h; exact h.elim
  | succ d ih =>
    intro k av w Q sz h
    obtain ⟨hk, hlen, hall⟩ := h
    obtain ⟨hcode, hini, hpl, hcls, hds, hmx, hstat⟩ := zzcd_ok k hk
    refine Met.ofW (cc := zzc k) (maxL := zzl k) (ret := zzr k) hpl rfl ?_
    intro p e s m args below meth c s₁ B hml hv
    obtain ⟨rfl, hsz, hok, hP, hE⟩ := hv
    have hts0 := atoms_spec (ws := zzws k) B.pre
    have hts : ∀ w ∈ zzT0, w.before ((av.map (zzv al)).toArray) s = true := fun w hw => hts0 w (List.mem_cons_of_mem _ hw)
    have hown0 := findClass_of_methodNamed B.named
    have hown : s.vm.findClass (zzR (zzo k)) = some m.cls := by
      have e0 : (zzy k).cls = zzR (zzo k) := hcls
      rw [← e0]; exact hown0
    subst hsz
    have C : zzcx p (zzrm (d + 1)) s m ((av.map (zzv al)).toArray) c D cI cZ al M (zzA al M s.heap.size) (zzl k) zs (zzc k) (zzo k) 0 0 :=
      ⟨B.exec, B.bytes, hml, hown, hts, hE, hinj, fun k hk => Or.inl ⟨k, hk, rfl⟩, fun q hq => Or.inr hq, by simp [zzrm], by simp only [zzrm]; omega, Nat.le_refl _, Nat.le_refl _⟩
    have hlocks := B.notSynchronized
    have hret := B.returns
    have hcl := zz_closed (l := l) (e := e) (below := below) (meth := meth) (Z := MQ below (zzQc D cI cZ al M Q s.heap.size) ((av.map (zzv al)).toArray) s 0 0 (zzA al M s.heap.size)) (rt := zzr k) (Q := Q) (CL := zzCL zs d) C (zzrm d) ⟨rfl, rfl, Nat.le_refl _, by simp only [zzrm]; omega⟩ ih
      (by
        intro pc ls st w1 ty v hd hrt hn hQ hok1 H locs ls1 hP1 hS1 hl1
        exact W.zret (Qc := zzQc D cI cZ al M Q s.heap.size) (ty := ty) B.exec B.bytes (hret.trans hrt) hn (fun t ht hW => ⟨⟨[.int v], w1, hok1, hQ, Nat.le_refl 1, rfl, by rw [ht]; exact hP1⟩, hS1.F ht⟩) hS1.2.2 hd hlocks)
      (by
        intro pc ls st w1 v hd hrt hQ hok1 H locs ls1 hP1 hS1 hl1
        exact W.lret (Qc := zzQc D cI cZ al M Q s.heap.size) B.exec B.bytes (hret.trans hrt) (fun t ht hW => ⟨⟨[.long v], w1, hok1, hQ, Nat.le_refl 1, rfl, by rw [ht]; exact hP1⟩, hS1.F ht⟩) hS1.2.2 hd hlocks)
      (by
        intro pc ls st w1 hd hrt hQ hok1 H locs ls1 hP1 hS1 hl1
        exact W.vret (Qc := zzQc D cI cZ al M Q s.heap.size) B.exec B.bytes (hret.trans hrt) (fun t ht hW => ⟨⟨[], w1, hok1, hQ, Nat.zero_le 1, rfl, by rw [ht]; exact hP1⟩, hS1.F ht⟩) hS1.2.2 hd hlocks)
    have hstart := hall _ hcl
    have hlen2 : (lg_sl (av.map (zzv al))).length ≤ zzl k := by
      have : (lg_sl (av.map (zzv al))).length = (lg_sl av).length := by
        clear hall hts hts0 C hcl hstart hok hP hE hlen B
        induction av with
        | nil => rfl
        | cons v t iht =>
          simp only [lg_sl, List.map_cons, List.flatMap_cons, List.length_append] at iht ⊢
          rw [iht, zzv_cat]
          split <;> rfl
      rw [this]; exact hlen
    have hl := lv_entry (av.map (zzv al)) (n := zzl k) hlen2
    have hargs : lv_args 0 (av.map (zzv al)) = (lv_args 0 av).map (zzq al) := by
      have : ∀ (i : Nat) (vs : List Value), lv_args i (vs.map (zzv al)) = (lv_args i vs).map (zzq al) := by
        intro i vs
        induction vs generalizing i with
        | nil => rfl
        | cons v t iht =>
          simp only [List.map_cons, lv_args, zzv_cat]
          rw [iht]
          rfl
      exact this 0 av
    rw [hargs] at hl
    rw [lg_entry_eq]
    exact hstart hok s.heap [] _ hP va_S.rf hl
end ZV
