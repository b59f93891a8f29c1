/-! CONSTRUCTORS: a world as a list that grows -/
def ziPc (D : va_G) (cI cZ : ClassId) (h0 : Nat) (x0 : va_E) (sz : Nat) : Array Value → State → Prop :=
  va_Pc [.ref h0] (fun U => U.heap.size = sz ∧ va_P D vwCl [(h0, x0)] U.heap ∧ va_K D vwCl [(cI, .int), (cZ, .boolean)] U ∧ ∀ w ∈ zzN0, va_Nw w U)
def ziQc (D : va_G) (F : (Nat → Nat) → va_W) (h0 : Nat) (x0 : va_E) (sz : Nat) : Array Value → State → Outcome → State → Prop :=
  va_Qv (fun q : Nat → Nat => q 0 = h0) (fun q t => va_P D vwCl (F q) t.heap ∧ va_D (va_A [(h0, x0)] sz) (F q)) (va_A [(h0, x0)] sz)
def ziws (y : MethodName) (yc : ByteArray) : List Cond := .code y yc 1 none :: zzT0
def ziK (p : Program) (s : State) (m : MethodId) (args : Array Value) (c : Code) (D : va_G) (cI cZ : ClassId) (A : Nat → Prop) (cc : ByteArray) (o nL : Nat) : Prop :=
  p.tables.exec = Jvm.exec ∧ c.code = cc ∧ c.maxLocals = nL ∧ s.vm.findClass (zzR o) = some m.cls ∧ (∀ w ∈ zzT0, w.before args s = true) ∧ va_K D vwCl [(cI, .int), (cZ, .boolean)] s ∧ (∀ w ∈ zzN0, va_Nw w s) ∧ (∀ q, s.heap.size ≤ q → A q)
def ziW (p : Program) (l : Launch) (e : Env) (Rm : Room) (s : State) (m : MethodId) (args : Array Value) (below : List Frame) (meth : Method) (c : Code) (Z : State → Prop) (D : va_G) (A : Nat → Prop) (ls1 : Array Slot) (cells slots pc : Nat) (st : List Value) (ws : va_W) : Prop :=
  ∀ (H : Heap) (locs : List Loc), va_P D vwCl ws H → va_D A ws → va_S A s.heap H locs → W p l e Rm s m args below meth c H locs cells slots Z (F0 m pc ls1 st)
set_option maxRecDepth 100000 in
theorem zi_ai : Cond.arrayClass .int ∈ zzT0 := zzin_mem (by decide +kernel)
set_option maxRecDepth 100000 in
theorem zi_az : Cond.arrayClass .boolean ∈ zzT0 := zzin_mem (by decide +kernel)
set_option maxRecDepth 100000 in
theorem zi_oi : Cond.instanceMethod objectInit ∈ zzT0 := zzin_mem (by decide +kernel)
set_option maxRecDepth 100000 in
theorem zi_oc : Cond.code objectInit ⟨#[0xb1]⟩ 1 none ∈ zzT0 := zzin_mem (by decide +kernel)
theorem zi_good {y : MethodName} {yc : ByteArray} (h : Cond.code y yc 1 none ∈ zzT0) : GoodIn zzT0 (ziws y yc) := by
  intro w hw
  rcases List.mem_cons.mp hw with rfl | hw
  · exact ⟨h, zzT0_good _ h⟩
  · exact ⟨hw, zzT0_good _ hw⟩
theorem zi_nest {s U : State} (hW : s.WarmedH U.vm) (h : ∀ w ∈ zzN0, va_Nw w s) : ∀ w ∈ zzN0, va_Nw w U := by
  intro w hw
  have h2 := h w hw
  rcases zzN0_kind w hw with ⟨_, _, _, _, _, _, rfl⟩ | ⟨_, _, _, _, rfl⟩
  · exact va_Nw.warmF hW h2
  · exact va_Nw.warmM hW h2
theorem zi_blind {D : va_G} {cI cZ : ClassId} {h0 sz : Nat} {x0 : va_E} : FrameBlind (ziPc D cI cZ h0 x0 sz) := by
  intro a U g mk q
  obtain ⟨q0, q1, q2, q3, q4⟩ := q
  exact ⟨q0, q1, q2, va_K.moved (u := U) (U := U.calling g mk a) (Vm.Alike.refl U.vm) q3, fun w hw => va_Nw.same (u := U) (by rcases zzN0_kind w hw with ⟨_, _, _, _, _, _, rfl⟩ | ⟨_, _, _, _, rfl⟩ <;> rfl) rfl (q4 w hw)⟩
theorem zi_one {A : Nat → Prop} {h0 : Nat} {x0 : va_E} (h : A h0) : va_D A [(h0, x0)] := by
  have key : ∀ (k : Nat) (q : Nat × va_E), ([(h0, x0)] : va_W)[k]? = some q → k = 0 ∧ q = (h0, x0) := by
    intro k q hk
    match k, hk with
    | 0, hk => exact ⟨rfl, (Option.some.inj hk).symm⟩
    | k + 1, hk => simp at hk
  refine ⟨fun i j x y hi hj _ => ?_, fun k q hk => ?_⟩
  · rw [(key i x hi).1, (key j y hj).1]
  · rw [(key k q hk).2]; exact h
theorem zi_join {D : va_G} {A : Nat → Prop} {ws w1 : va_W} {q : Nat} {x0 : va_E} {H H1 : Heap} (hP : va_P D vwCl (ws ++ [(q, x0)]) H) (hD : va_D A (ws ++ [(q, x0)])) (hk : ∀ a : Nat, a < H.size → ¬ va_A [(q, x0)] H.size a → H1[a]? = H[a]?) (hF : ∀ a, va_A [(q, x0)] H.size a → A a) (hP1 : va_P D vwCl w1 H1) (hD1 : va_D (va_A [(q, x0)] H.size) w1) : va_P D vwCl (ws ++ w1) H1 ∧ va_D A (ws ++ w1) := by
  have hin : ∀ (k : Nat) (y : Nat × va_E), ws[k]? = some y → k < ws.length ∧ (ws ++ [(q, x0)])[k]? = some y := by
    intro k y hy
    have hl := (List.getElem?_eq_some_iff.mp hy).1
    exact ⟨hl, by rw [List.getElem?_append_left hl]; exact hy⟩
  have hlast : (ws ++ [(q, x0)])[ws.length]? = some (q, x0) := by
    rw [List.getElem?_append_right (Nat.le_refl _), Nat.sub_self]; rfl
  have apart : ∀ (k : Nat) (y : Nat × va_E), ws[k]? = some y → y.1 < H.size ∧ ¬ va_A [(q, x0)] H.size y.1 := by
    intro k y hy
    obtain ⟨h1, h2⟩ := hin k y hy
    have hl := (hP k y h2).lt
    refine ⟨hl, fun h => ?_⟩
    rcases h with ⟨k2, e, h⟩ | h
    · have hq : y.1 = q := by
        match k2, h with
        | 0, h => exact (congrArg Prod.fst (Option.some.inj h)).symm
        | k2 + 1, h => simp at h
      have := hD.1 k ws.length y (q, x0) h2 hlast hq
      omega
    · omega
  refine ⟨va_P.app (fun k y hy => ?_) hP1, va_D.app ⟨fun i j x y hi hj e => hD.1 i j x y (hin i x hi).2 (hin j y hj).2 e, fun k y hy => hD.2 k y (hin k y hy).2⟩ (hD1.weaken (fun _ y _ h => hF y.1 h)) (fun i j x y hx hy e => ?_)⟩
  · obtain ⟨g1, g2⟩ := apart k y hy
    exact (hP k y (hin k y hy).2).kept (hk y.1 g1 g2)
  · exact (apart i x hx).2 (by rw [e]; exact hD1.2 j y hy)
section ZI
variable {p : Program} {l : Launch} {e : Env} {Rm : Room} {s : State} {m : MethodId} {args : Array Value} {below : List Frame} {meth : Method} {c : Code} {Z : State → Prop} {D : va_G} {cI cZ : ClassId} {A : Nat → Prop} {cells slots nL : Nat} {cc : ByteArray} {o : Nat} {ls1 : Array Slot} {pc : Nat} {st : List Value} {ws : va_W}
theorem zi_aload (C : ziK p s m args c D cI cZ A cc o nL) {k : Fin 4} {i a : Nat} (hd : decode cc pc = .ok (.aload_n k, 1)) (hi : (k : Nat) = i) (hl : ls1[i]? = some (.val (.ref a))) (kk : ziW p l e Rm s m args below meth c Z D A ls1 cells slots (pc + 1) (.ref a :: st) ws) : ziW p l e Rm s m args below meth c Z D A ls1 cells slots pc st ws := fun H locs hP hD hS => lv_aload_n C.1 C.2.1 hd hi hl (kk H locs hP hD hS)
theorem zi_iconst (C : ziK p s m args c D cI cZ A cc o nL) {n : Int} (hd : decode cc pc = .ok (.iconst n, 1)) (kk : ziW p l e Rm s m args below meth c Z D A ls1 cells slots (pc + 1) (.int (iI n) :: st) ws) : ziW p l e Rm s m args below meth c Z D A ls1 cells slots pc st ws := fun H locs hP hD hS => lv_iconst C.1 C.2.1 hd rfl (kk H locs hP hD hS)
theorem zi_bipush (C : ziK p s m args c D cI cZ A cc o nL) {n : Int} (hd : decode cc pc = .ok (.bipush n, 2)) (kk : ziW p l e Rm s m args below meth c Z D A ls1 cells slots (pc + 2) (.int (iI n) :: st) ws) (hv : (Int8.ofInt n).toInt32 = iI n := by decide) : ziW p l e Rm s m args below meth c Z D A ls1 cells slots pc st ws := fun H locs hP hD hS => lv_bipush C.1 C.2.1 hd hv (kk H locs hP hD hS)
theorem zi_dup (C : ziK p s m args c D cI cZ A cc o nL) {a : Nat} (hd : decode cc pc = .ok (.dup, 1)) (kk : ziW p l e Rm s m args below meth c Z D A ls1 cells slots (pc + 1) (.ref a :: .ref a :: st) ws) : ziW p l e Rm s m args below meth c Z D A ls1 cells slots pc (.ref a :: st) ws := fun H locs hP hD hS => lv_dup C.1 C.2.1 hd rfl (kk H locs hP hD hS)
theorem zi_newi (C : ziK p s m args c D cI cZ A cc o nL) {N : Nat} {x : Nat × va_E} (hd : decode cc pc = .ok (.newarray .int, 2)) (hN2 : N ≤ 64) (hc : cells + 1 ≤ Rm.cells) (hs : slots + N ≤ Rm.slots) (kk : ∀ q : Nat, ziW p l e Rm s m args below meth c Z D A ls1 (cells + 1) (slots + N) (pc + 2) (.ref q :: st) (x :: (ws ++ [(q, .inl (cI, N, .inl (fun _ => iI 0)))]))) : ziW p l e Rm s m args below meth c Z D A ls1 cells slots pc (.int (iI (N : Int)) :: st) (x :: ws) := by
  intro H locs hP hD hS
  have hr : rg (N : Int) := ⟨by omega, by omega⟩
  refine va_newa (atype := .int) (ty := .int) (a0 := (N, .inl (fun _ => iI 0))) (N' := N) C.1 C.2.1 (C.2.2.2.2.1 _ zi_ai) rfl C.2.2.2.2.2.1 hP hD hS C.2.2.2.2.2.2.2 (fun cA => rfl) (fun h => ?_) (by rw [iI_clamp hr]; rfl) ?_ hc hs hd ?_
  · have h9 : iI (N : Int) < iI 0 := h
    rw [iI_lt hr (by unfold rg; omega)] at h9
    omega
  · have : componentBytes .int ≤ 8 := by decide
    have := Nat.mul_le_mul hN2 this
    omega
  · intro q cA H1 hK hP1 hD1 hS1
    have h2 : s.vm.findClass ("[" ++ FieldType.int.toString) = some cA := (hK.2 2 _ rfl).2
    have h0 : s.vm.findClass ("[" ++ FieldType.int.toString) = some cI := (hK.2 0 _ rfl).2
    have e1 : cA = cI := Option.some.inj (h2.symm.trans h0)
    subst e1
    exact kk q H1 locs hP1 hD1 hS1
theorem zi_newz (C : ziK p s m args c D cI cZ A cc o nL) {N : Nat} {x : Nat × va_E} (hd : decode cc pc = .ok (.newarray .boolean, 2)) (hN2 : N ≤ 64) (hc : cells + 1 ≤ Rm.cells) (hs : slots + N ≤ Rm.slots) (kk : ∀ q : Nat, ziW p l e Rm s m args below meth c Z D A ls1 (cells + 1) (slots + N) (pc + 2) (.ref q :: st) (x :: (ws ++ [(q, .inl (cZ, N, .inl (fun _ => iI 0)))]))) : ziW p l e Rm s m args below meth c Z D A ls1 cells slots pc (.int (iI (N : Int)) :: st) (x :: ws) := by
  intro H locs hP hD hS
  have hr : rg (N : Int) := ⟨by omega, by omega⟩
  refine va_newa (atype := .boolean) (ty := .boolean) (a0 := (N, .inl (fun _ => iI 0))) (N' := N) C.1 C.2.1 (C.2.2.2.2.1 _ zi_az) rfl C.2.2.2.2.2.1 hP hD hS C.2.2.2.2.2.2.2 (fun cA => rfl) (fun h => ?_) (by rw [iI_clamp hr]; rfl) ?_ hc hs hd ?_
  · have h9 : iI (N : Int) < iI 0 := h
    rw [iI_lt hr (by unfold rg; omega)] at h9
    omega
  · have : componentBytes .boolean ≤ 8 := by decide
    have := Nat.mul_le_mul hN2 this
    omega
  · intro q cA H1 hK hP1 hD1 hS1
    have h2 : s.vm.findClass ("[" ++ FieldType.boolean.toString) = some cA := (hK.2 2 _ rfl).2
    have h0 : s.vm.findClass ("[" ++ FieldType.boolean.toString) = some cZ := (hK.2 1 _ rfl).2
    have e1 : cA = cZ := Option.some.inj (h2.symm.trans h0)
    subst e1
    exact kk q H1 locs hP1 hD1 hS1
theorem zi_putF (C : ziK p s m args c D cI cZ A cc o nL) (hin : meth.name = "<init>") {idx ci sl a q : Nat} {fs : List Value} (hd : decode cc pc = .ok (.putfield idx, 3)) (hf : zzf o idx = some (ci, sl, false)) (hfin : (zzTT ci sl).2.2.2 = true) (hdc : (zzTT ci sl).1 = zzR o) (hnar : narrow (zzty ci sl) (.ref q) = .ref q) (hfit : fits (zzty ci sl) (.ref q) = true) (hl : sl < fs.length) (kk : ziW p l e Rm s m args below meth c Z D A ls1 cells slots (pc + 3) st ((a, .inr (ci, fs.set sl (.ref q))) :: ws)) : ziW p l e Rm s m args below meth c Z D A ls1 cells slots pc (.ref q :: .ref a :: st) ((a, .inr (ci, fs)) :: ws) := by
  intro H locs hP hD hS
  obtain ⟨hci, hsl, hN, hT⟩ := zzf_ok hf
  exact va_putF C.1 C.2.1 C.2.2.2.2.1 (zzu_in ci hci) (zzty ci) (zzty_ok ci hci) (zznm_ok ci hci) C.2.2.2.1 C.2.2.2.2.2.1 hP hD hS 0 rfl (zzcl_at ci hci) sl hsl (C.2.2.2.2.1 _ (hT rfl)) (fun _ h9 => h9) hfin hin hdc (zzty_ok ci hci sl hsl) hnar hfit hl hd (fun H1 locs1 h1 h2 h3 => kk H1 locs1 h1 h2 h3)
theorem zi_puti (C : ziK p s m args c D cI cZ A cc o nL) {idx ci sl a : Nat} {v : Int32} {fs : List Value} (hd : decode cc pc = .ok (.putfield idx, 3)) (hf : zzf o idx = some (ci, sl, false)) (hfin : (zzTT ci sl).2.2.2 = false) (hnar : narrow (zzty ci sl) (.int v) = .int v) (hfit : fits (zzty ci sl) (.int v) = true) (hl : sl < fs.length) (kk : ziW p l e Rm s m args below meth c Z D A ls1 cells slots (pc + 3) st ((a, .inr (ci, fs.set sl (.int v))) :: ws)) : ziW p l e Rm s m args below meth c Z D A ls1 cells slots pc (.int v :: .ref a :: st) ((a, .inr (ci, fs)) :: ws) := by
  intro H locs hP hD hS
  obtain ⟨hci, hsl, hN, hT⟩ := zzf_ok hf
  exact va_put C.1 C.2.1 C.2.2.2.2.1 (zzu_in ci hci) (zzty ci) (zzty_ok ci hci) (zznm_ok ci hci) C.2.2.2.1 C.2.2.2.2.2.1 hP hD hS 0 rfl (zzcl_at ci hci) sl hsl (C.2.2.2.2.1 _ (hT rfl)) (fun _ h9 => h9) hfin (zzty_ok ci hci sl hsl) hnar hfit hl hd (fun H1 locs1 h1 h2 h3 => kk H1 locs1 h1 h2 h3)
theorem zi_new (C : ziK p s m args c D cI cZ A cc o nL) {idx ci N : Nat} {fs : List Value} (hd : decode cc pc = .ok (.new idx, 3)) (hci : ci < 5) (hcl : Cond.classLink (zzR o) idx (zzR ci) ∈ zzT0) (hin : Cond.instantiable (zzR ci) (zzNN ci) ∈ zzT0) (hini : Cond.initialized (zzR ci) ∈ zzT0) (hfs : ∀ j, j < zzNN ci → defaultValue (zzty ci j) = vp_V fs j) (hN : zzNN ci = N) (hc : cells + 1 ≤ Rm.cells) (hs : slots + N ≤ Rm.slots) (kk : ∀ q : Nat, ziW p l e Rm s m args below meth c Z D A ls1 (cells + 1) (slots + N) (pc + 3) (.ref q :: st) (ws ++ [(q, .inr (ci, fs))])) : ziW p l e Rm s m args below meth c Z D A ls1 cells slots pc st ws := by
  intro H locs hP hD hS
  subst hN
  exact va_new (ci := ci) (fs := fs) (N := zzNN ci) C.1 C.2.1 C.2.2.2.2.1 (zzu_in ci hci) (zzty ci) (zzty_ok ci hci) C.2.2.2.1 (C.2.2.2.2.1 _ hcl) (C.2.2.2.2.1 _ hin) (C.2.2.2.2.1 _ hini) C.2.2.2.2.2.1 hP hD hS C.2.2.2.2.2.2.2 (zzcl_at ci hci) hfs hc hs hd (fun q H1 h1 h2 h3 => kk q H1 locs h1 h2 h3)
theorem zi_obj (C : ziK p s m args c D cI cZ A cc o nL) {idx a : Nat} (hd : decode cc pc = .ok (.invokespecial idx, 3)) (hl : Cond.methodLink (zzR o) idx objectInit ∈ zzT0) (hsz : ls1.size = nL) (hfr : 1 ≤ Rm.frames) (hlo : 12 ≤ Rm.locals) (kk : ziW p l e Rm s m args below meth c Z D A ls1 cells slots (pc + 3) [] ws) : ziW p l e Rm s m args below meth c Z D A ls1 cells slots pc [.ref a] ws := by
  intro H locs hP hD hS
  refine W.objInit C.1 C.2.1 C.2.2.2.1 (C.2.2.2.2.1 _ hl) (C.2.2.2.2.1 _ zi_oi) (C.2.2.2.2.1 _ zi_oc) rfl (by rw [C.2.2.1]; exact hsz) rfl hd hfr hlo ?_
  exact kk H locs hP hD hS
theorem zi_pre (C : ziK p s m args c D cI cZ A cc o nL) {q : Nat} {x0 : va_E} {H : Heap} (hP : va_P D vwCl (ws ++ [(q, x0)]) H) : ∀ U : State, U.heap = H → s.WarmedH U.vm → ziPc D cI cZ q x0 H.size ([.ref q] : List Value).toArray U := by
  intro U hU hW
  refine ⟨rfl, by rw [hU], ?_, va_K.moved hW.alike C.2.2.2.2.2.1, zi_nest hW C.2.2.2.2.2.2.1⟩
  rw [hU]
  intro k y hk
  have hy : y ∈ ws ++ [(q, x0)] := List.mem_append_right _ (List.mem_of_getElem? hk)
  obtain ⟨i, hi⟩ := List.getElem?_of_mem hy
  exact hP i y hi
theorem zi_free (C : ziK p s m args c D cI cZ A cc o nL) {q : Nat} {x0 : va_E} {H : Heap} {locs : List Loc} (hD : va_D A (ws ++ [(q, x0)])) (hS : va_S A s.heap H locs) : ∀ a, va_A [(q, x0)] H.size a → A a := by
  intro a h
  rcases h with ⟨k2, e2, h⟩ | h
  · have hy : (a, e2) ∈ ws ++ [(q, x0)] := List.mem_append_right _ (List.mem_of_getElem? h)
    obtain ⟨i, hi⟩ := List.getElem?_of_mem hy
    exact hD.2 i _ hi
  · exact C.2.2.2.2.2.2.2 a (Nat.le_trans hS.1 h)
theorem zi_callN (C : ziK p s m args c D cI cZ A cc o nL) {y : MethodName} {yc : ByteArray} {rm : Room} {mc ms idx q : Nat} {x0 : va_E} {F : (Nat → Nat) → va_W} (hM : ∀ sz : Nat, Met l y (ziws y yc) rm (ziPc D cI cZ q x0 sz) (ziQc D F q x0 sz) mc ms (va_A [(q, x0)] sz)) (hd : decode cc pc = .ok (.invokespecial idx, 3)) (hcode : Cond.code y yc 1 none ∈ zzT0) (hini : Cond.initialized y.cls ∈ zzT0) (hinm : Cond.instanceMethod y ∈ zzT0) (hlk : Cond.methodLinkNest (zzR o) idx y "IslandsWed" ∈ zzN0) (hyn : y.name = "<init>") (hds : y.cls ≠ "java/lang/invoke/MethodHandle" ∧ y.cls ≠ "java/lang/invoke/VarHandle" ∧ (parseMethodDescriptor y.desc).map (fun d => d.parameters.length) = some 0) (hrm : rm.cells = mc ∧ rm.slots = ms ∧ rm.frames + 1 ≤ Rm.frames ∧ 20 + rm.locals ≤ Rm.locals) (hsz : ls1.size = nL) (hst : (st.map fun v => v.category).sum ≤ 8) (hcs : cells + mc ≤ Rm.cells ∧ slots + ms ≤ Rm.slots) (kk : ∀ u : Nat → Nat, u 0 = q → ziW p l e Rm s m args below meth c Z D A ls1 (cells + mc) (slots + ms) (pc + 3) st (ws ++ F u)) : ziW p l e Rm s m args below meth c Z D A ls1 cells slots pc (.ref q :: st) (ws ++ [(q, x0)]) := by
  intro H locs hP hD hS
  have hF := zi_free C hD hS
  refine va_callv (va_runIN (As := []) (rest := st) ⟨C.1, C.2.1, C.2.2.1, C.2.2.2.1, C.2.2.2.2.1⟩ (hM H.size) ⟨va_cnB 0 C.2.2.2.2.1 (zi_good hcode) rfl hrm.1 hrm.2.1 (C.2.2.2.2.2.2.1 _ hlk) (C.2.2.2.2.1 _ hini) hds ⟨hrm.2.2.1, by omega⟩, hyn, C.2.2.2.2.1 _ hinm⟩ ⟨zi_blind, zi_pre C hP⟩ rfl rfl hsz rfl (lv_room hst) hd hcs) hS (fun a _ h => hF a h) hF ?_
  intro u t H1 locs1 ht hvm hu hB hz1 hk1 hS1
  obtain ⟨hP1, hD1⟩ := hB
  rw [ht] at hP1
  obtain ⟨hP2, hD2⟩ := zi_join hP hD hk1 hF hP1 hD1
  exact kk u hu H1 locs1 hP2 hD2 hS1
theorem zi_callI (C : ziK p s m args c D cI cZ A cc o nL) {y : MethodName} {yc : ByteArray} {rm : Room} {mc ms idx q : Nat} {x0 : va_E} {F : (Nat → Nat) → va_W} (hM : ∀ sz : Nat, Met l y (ziws y yc) rm (ziPc D cI cZ q x0 sz) (ziQc D F q x0 sz) mc ms (va_A [(q, x0)] sz)) (hd : decode cc pc = .ok (.invokespecial idx, 3)) (hcode : Cond.code y yc 1 none ∈ zzT0) (hini : Cond.initialized y.cls ∈ zzT0) (hinm : Cond.instanceMethod y ∈ zzT0) (hlk : Cond.methodLink (zzR o) idx y ∈ zzT0) (hyn : y.name = "<init>") (hds : y.cls ≠ "java/lang/invoke/MethodHandle" ∧ y.cls ≠ "java/lang/invoke/VarHandle" ∧ (parseMethodDescriptor y.desc).map (fun d => d.parameters.length) = some 0) (hrm : rm.cells = mc ∧ rm.slots = ms ∧ rm.frames + 1 ≤ Rm.frames ∧ 20 + rm.locals ≤ Rm.locals) (hsz : ls1.size = nL) (hst : (st.map fun v => v.category).sum ≤ 8) (hcs : cells + mc ≤ Rm.cells ∧ slots + ms ≤ Rm.slots) (kk : ∀ u : Nat → Nat, u 0 = q → ziW p l e Rm s m args below meth c Z D A ls1 (cells + mc) (slots + ms) (pc + 3) st (ws ++ F u)) : ziW p l e Rm s m args below meth c Z D A ls1 cells slots pc (.ref q :: st) (ws ++ [(q, x0)]) := by
  intro H locs hP hD hS
  have hF := zi_free C hD hS
  refine va_callv (va_runI (As := []) (rest := st) ⟨C.1, C.2.1, C.2.2.1, C.2.2.2.1, C.2.2.2.2.1⟩ (hM H.size) ⟨callB_of 0 C.2.2.2.2.1 (zi_good hcode) rfl hrm.1 hrm.2.1 (C.2.2.2.2.1 _ hini) (C.2.2.2.2.1 _ hlk) hds ⟨hrm.2.2.1, by omega⟩, hyn, C.2.2.2.2.1 _ hinm⟩ ⟨zi_blind, zi_pre C hP⟩ rfl rfl hsz rfl (lv_room hst) hd hcs) hS (fun a _ h => hF a h) hF ?_
  intro u t H1 locs1 ht hvm hu hB hz1 hk1 hS1
  obtain ⟨hP1, hD1⟩ := hB
  rw [ht] at hP1
  obtain ⟨hP2, hD2⟩ := zi_join hP hD hk1 hF hP1 hD1
  exact kk u hu H1 locs1 hP2 hD2 hS1
end ZI
/-- a constructor's contract out of its walk -/
theorem zi_met {l : Launch} {D : va_G} {cI cZ : ClassId} {y : MethodName} {yc : ByteArray} {rm : Room} {mc ms o : Nat} {h0 : Nat} {x0 : va_E} {F : (Nat → Nat) → va_W} (hpl : plainName y.cls = true) (hcls : y.cls = zzR o) (hyn : y.name = "<init>")
    (body : ∀ (p : Program) (e : Env) (s : State) (m : MethodId) (args : Array Value) (below : List Frame) (meth : Method) (c : Code) (ls1 : Array Slot) (A : Nat → Prop) (Z : State → Prop), ziK p s m args c D cI cZ A yc o 1 → meth.name = "<init>" → ls1[0]? = some (.val (.ref h0)) → ls1.size = 1 →
      (∀ (pc : Nat) (u : Nat → Nat) (ws : va_W), decode yc pc = .ok (.return_, 1) → u 0 = h0 → F u = ws → ziW p l e rm s m args below meth c Z D A ls1 mc ms pc [] ws) → ziW p l e rm s m args below meth c Z D A ls1 0 0 0 [] [(h0, x0)]) (sz : Nat) :
    Met l y (ziws y yc) rm (ziPc D cI cZ h0 x0 sz) (ziQc D F h0 x0 sz) mc ms (va_A [(h0, x0)] sz) := by
  refine Met.ofW (cc := yc) (maxL := 1) (ret := none) hpl rfl ?_
  intro p e s m args below meth c s₁ B hml hv
  obtain ⟨rfl, hsz, hP, hK, hN⟩ := hv
  have hts0 := atoms_spec (ws := ziws y yc) B.pre
  have hts : ∀ w ∈ zzT0, w.before (([.ref h0] : List Value).toArray) s = true := fun w hw => hts0 w (List.mem_cons_of_mem _ hw)
  have hown0 := findClass_of_methodNamed B.named
  have hown : s.vm.findClass (zzR o) = some m.cls := by rw [← hcls]; exact hown0
  have hlocks := B.notSynchronized
  have hin : meth.name = "<init>" := (name_of_methodNamed B.named B.method).1.trans hyn
  have hr := B.returns
  subst hsz
  have C : ziK p s m (([.ref h0] : List Value).toArray) c D cI cZ (va_A [(h0, x0)] s.heap.size) yc o 1 := ⟨B.exec, B.bytes, hml, hown, hts, hK, hN, fun q hq => Or.inr hq⟩
  have hl := lv_entry ([.ref h0]) (n := 1) (Nat.le_of_ble_eq_true rfl)
  rw [lg_entry_eq]
  generalize (lg_sl ([.ref h0]) ++ List.replicate (1 - (lg_sl ([.ref h0])).length) Slot.unset).toArray = ls at hl ⊢
  have hl : lv_has ls 1 [(0, .ref h0)] := hl
  refine body p e s m _ below meth c ls (va_A [(h0, x0)] s.heap.size) _ C hin (lv_at hl 0 rfl) hl.1 ?_ s.heap [] hP (zi_one (Or.inl ⟨0, x0, rfl⟩)) va_S.rf
  intro pc u ws hd hu hw H locs hP1 hD1 hS1
  subst hw
  exact W.vret B.exec B.bytes hr (fun t ht hW => ⟨⟨u, rfl, hu, by rw [ht]; exact hP1, hD1⟩, hS1.F ht⟩) hS1.2.2 hd hlocks
