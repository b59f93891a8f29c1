/-! SOUNDNESS of the pure machine over the machine itself -/
def zzv (al : Nat → Nat) : Value → Value
  | .ref a => .ref (al a)
  | v => v
def zzq (al : Nat → Nat) (q : Nat × Value) : Nat × Value := (q.1, zzv al q.2)
theorem zzv_cat (al : Nat → Nat) (v : Value) : (zzv al v).category = v.category := by cases v <;> rfl
theorem zzv_cats (al : Nat → Nat) (st : List Value) : ((st.map (zzv al)).map fun v => v.category).sum = (st.map fun v => v.category).sum := by
  rw [List.map_map]
  congr 1
  exact List.map_congr_left (fun v _ => zzv_cat al v)
def zzcell (cI cZ : ClassId) (al : Nat → Nat) : Option zzE → va_E
  | some (.inl (tag, n, f)) => .inl (if tag = 0 then cI else cZ, n, .inl f)
  | some (.inr (ci, fs)) => .inr (ci, fs.map (zzv al))
  | none => .inr (0, [])
def zzwl (cI cZ : ClassId) (al : Nat → Nat) (M : Nat) (w : zzW) : va_W := (List.range M).map (fun k => (al k, zzcell cI cZ al (w k)))
def zzok (M : Nat) (w : zzW) : Prop := ∀ k, (w k).isSome = true ↔ k < M
theorem zzok_lt {M : Nat} {w : zzW} {a : Nat} {e : zzE} (h : zzok M w) (ha : w a = some e) : a < M := (h a).mp (by rw [ha]; rfl)
theorem zzok_up {M : Nat} {w : zzW} {a : Nat} {e0 : zzE} (h : zzok M w) (ha : w a = some e0) (e : zzE) : zzok M (zzup w a e) := by
  intro k
  by_cases hk : k = a
  · subst hk
    have : k < M := zzok_lt h ha
    simp [zzup, this]
  · simp only [zzup, if_neg hk]
    exact h k
theorem zzwl_at {cI cZ : ClassId} {al : Nat → Nat} {M : Nat} {w : zzW} {a : Nat} {e : zzE} (h : zzok M w) (ha : w a = some e) : (zzwl cI cZ al M w)[a]? = some (al a, zzcell cI cZ al (some e)) := by
  have hl := zzok_lt h ha
  simp only [zzwl, List.getElem?_map, List.getElem?_range hl, Option.map_some, ha]
theorem zzwl_set {cI cZ : ClassId} {al : Nat → Nat} {M : Nat} {w : zzW} {a : Nat} (ha : a < M) (e : zzE) : (zzwl cI cZ al M w).set a (al a, zzcell cI cZ al (some e)) = zzwl cI cZ al M (zzup w a e) := by
  apply List.ext_getElem?
  intro i
  rw [List.getElem?_set]
  simp only [zzwl, List.getElem?_map, List.length_map, List.length_range]
  by_cases hi : a = i
  · subst hi
    simp [ha, zzup]
  · rw [if_neg hi]
    by_cases h2 : i < M
    · simp [List.getElem?_range h2, zzup, Ne.symm hi]
    · simp [List.getElem?_eq_none (l := List.range M) (i := i) (by simpa using h2)]
theorem zzD {cI cZ : ClassId} {al : Nat → Nat} {M : Nat} {A : Nat → Prop} (hinj : ∀ i j, i < M → j < M → al i = al j → i = j) (hA : ∀ k, k < M → A (al k)) (w : zzW) : va_D A (zzwl cI cZ al M w) := by
  have key : ∀ (i : Nat) (p : Nat × va_E), (zzwl cI cZ al M w)[i]? = some p → i < M ∧ p.1 = al i := by
    intro i p hp
    by_cases h2 : i < M
    · simp only [zzwl, List.getElem?_map, List.getElem?_range h2, Option.map_some, Option.some.injEq] at hp
      subst hp
      exact ⟨h2, rfl⟩
    · simp [zzwl, List.getElem?_eq_none (l := List.range M) (i := i) (by simpa using h2)] at hp
  refine ⟨fun i j p q hp hq e => ?_, fun k q hq => ?_⟩
  · obtain ⟨h1, h2⟩ := key i p hp
    obtain ⟨h3, h4⟩ := key j q hq
    exact hinj i j h1 h3 (by rw [← h2, ← h4]; exact e)
  · obtain ⟨h1, h2⟩ := key k q hq
    rw [h2]
    exact hA k h1
theorem zzget_mem {i : Nat} {v : Value} : ∀ {ls : zzL}, zzget ls i = some v → (i, v) ∈ ls
  | [], h => by simp [zzget] at h
  | (j, u) :: t, h => by
    unfold zzget at h
    cases e : Nat.beq j i with
    | true =>
      rw [e] at h
      cases h
      have : j = i := Nat.eq_of_beq_eq_true e
      subst this
      exact List.mem_cons_self
    | false =>
      rw [e] at h
      exact List.mem_cons_of_mem _ (zzget_mem h)
theorem zzget_has {al : Nat → Nat} {ls : zzL} {ls' : Array Slot} {nL i : Nat} {v : Value} (h : lv_has ls' nL (ls.map (zzq al))) (hg : zzget ls i = some v) : ls'[i]? = some (.val (zzv al v)) :=
  h.2.2 (i, zzv al v) (List.mem_map.mpr ⟨(i, v), zzget_mem hg, rfl⟩)
theorem zzins_mem {i : Nat} {v : Value} {q : Nat × Value} : ∀ {l : zzL}, q ∈ zzins i v l → q = (i, v) ∨ q ∈ l
  | [], h => by
    simp only [zzins, List.mem_singleton] at h
    exact Or.inl h
  | p :: t, h => by
    unfold zzins at h
    cases e : Nat.ble i p.1 with
    | true =>
      rw [e] at h
      exact List.mem_cons.mp h
    | false =>
      rw [e] at h
      rcases List.mem_cons.mp h with h | h
      · exact Or.inr (h ▸ List.mem_cons_self)
      · rcases zzins_mem h with h | h
        · exact Or.inl h
        · exact Or.inr (List.mem_cons_of_mem _ h)
theorem zzdel_mem {i : Nat} {q : Nat × Value} : ∀ {l : zzL}, q ∈ zzdel i l → q ∈ l ∧ q.1 ≠ i ∧ ¬ (q.1 + 1 = i ∧ q.2.category = 2)
  | [], h => by simp [zzdel] at h
  | p :: t, h => by
    unfold zzdel at h
    cases e : (Nat.beq p.1 i || (Nat.beq (p.1 + 1) i && Nat.beq p.2.category 2)) with
    | true =>
      rw [e] at h
      obtain ⟨a, b⟩ := zzdel_mem h
      exact ⟨List.mem_cons_of_mem _ a, b⟩
    | false =>
      rw [e] at h
      rcases List.mem_cons.mp h with rfl | h
      · simp only [Bool.or_eq_false_iff, Bool.and_eq_false_iff] at e
        refine ⟨List.mem_cons_self, fun z => ?_, fun z => ?_⟩
        · have := e.1
          rw [z] at this
          simp at this
        · rcases e.2 with e | e
          · rw [z.1] at e; simp at e
          · rw [z.2] at e; simp at e
      · obtain ⟨a, b⟩ := zzdel_mem h
        exact ⟨List.mem_cons_of_mem _ a, b⟩
theorem zzdel2_mem {i : Nat} {q : Nat × Value} : ∀ {l : zzL}, q ∈ zzdel2 i l → q ∈ l ∧ q.1 ≠ i ∧ q.1 ≠ i + 1 ∧ ¬ (q.1 + 1 = i ∧ q.2.category = 2)
  | [], h => by simp [zzdel2] at h
  | p :: t, h => by
    unfold zzdel2 at h
    cases e : (Nat.beq p.1 i || (Nat.beq p.1 (i + 1) || (Nat.beq (p.1 + 1) i && Nat.beq p.2.category 2))) with
    | true =>
      rw [e] at h
      obtain ⟨a, b⟩ := zzdel2_mem h
      exact ⟨List.mem_cons_of_mem _ a, b⟩
    | false =>
      rw [e] at h
      rcases List.mem_cons.mp h with rfl | h
      · simp only [Bool.or_eq_false_iff, Bool.and_eq_false_iff] at e
        refine ⟨List.mem_cons_self, fun z => ?_, fun z => ?_, fun z => ?_⟩
        · have := e.1
          rw [z] at this
          simp at this
        · have := e.2.1
          rw [z] at this
          simp at this
        · rcases e.2.2 with e | e
          · rw [z.1] at e; simp at e
          · rw [z.2] at e; simp at e
      · obtain ⟨a, b⟩ := zzdel2_mem h
        exact ⟨List.mem_cons_of_mem _ a, b⟩
theorem zzput_has {al : Nat → Nat} {ls : zzL} {ls' : Array Slot} {nL i : Nat} {v : Value} (h : lv_has ls' nL ((i, zzv al v) :: (ls.map (zzq al)).filter (fun q => !(q.1 == i) && !(q.1 + 1 == i && q.2.category == 2)))) : lv_has ls' nL ((zzput ls i v).map (zzq al)) := by
  refine ⟨h.1, h.2.1, fun q hq => h.2.2 q ?_⟩
  obtain ⟨r, hr, rfl⟩ := List.mem_map.mp hq
  rcases zzins_mem hr with rfl | hr
  · exact List.mem_cons_self
  · obtain ⟨a, b, d⟩ := zzdel_mem hr
    refine List.mem_cons_of_mem _ (List.mem_filter.mpr ⟨List.mem_map.mpr ⟨r, a, rfl⟩, ?_⟩)
    have hc : (zzq al r).2.category = r.2.category := zzv_cat al r.2
    have h1 : (zzq al r).1 = r.1 := rfl
    rw [hc, h1]
    simp only [Bool.and_eq_true, Bool.not_eq_true', Bool.and_eq_false_iff, beq_eq_false_iff_ne]
    refine ⟨b, ?_⟩
    by_cases z : r.1 + 1 = i
    · exact Or.inr (fun z2 => d ⟨z, z2⟩)
    · exact Or.inl z
theorem zzput2_has {al : Nat → Nat} {ls : zzL} {ls' : Array Slot} {nL i : Nat} {v : Value} (h : lv_has ls' nL ((i, zzv al v) :: (ls.map (zzq al)).filter (fun q => !(q.1 == i) && (!(q.1 == i + 1) && !(q.1 + 1 == i && q.2.category == 2))))) : lv_has ls' nL ((zzput2 ls i v).map (zzq al)) := by
  refine ⟨h.1, h.2.1, fun q hq => h.2.2 q ?_⟩
  obtain ⟨r, hr, rfl⟩ := List.mem_map.mp hq
  rcases zzins_mem hr with rfl | hr
  · exact List.mem_cons_self
  · obtain ⟨a, b, b2, d⟩ := zzdel2_mem hr
    refine List.mem_cons_of_mem _ (List.mem_filter.mpr ⟨List.mem_map.mpr ⟨r, a, rfl⟩, ?_⟩)
    have hc : (zzq al r).2.category = r.2.category := zzv_cat al r.2
    have h1 : (zzq al r).1 = r.1 := rfl
    rw [hc, h1]
    simp only [Bool.and_eq_true, Bool.not_eq_true', Bool.and_eq_false_iff, beq_eq_false_iff_ne]
    refine ⟨b, b2, ?_⟩
    by_cases z : r.1 + 1 = i
    · exact Or.inr (fun z2 => d ⟨z, z2⟩)
    · exact Or.inl z
/-- what a method of the system finds: the tables' words of arrays and classes, the nest words, the tables that nobody writes -/
def zzEnv (D : va_G) (cI cZ : ClassId) (al : Nat → Nat) (zs : zzT) (A : Nat → Prop) (U : State) : Prop :=
  va_K D vwCl [(cI, .int), (cZ, .boolean)] U ∧ (∀ w ∈ zzN0, va_Nw w U) ∧ (∀ (t n : Nat) (f : Nat → Int32), zs t = some (n, f) → va_T .int (al t) n (fun j => .int (f j)) A U U.heap) ∧
  va_Z "IslandsWed" "CURRENT_SHARE" "[I" (.ref (al zzSA)) A U U.heap ∧ va_Z "IslandsWed" "WIND_SHARE" "[I" (.ref (al zzSB)) A U U.heap
theorem zzEnv.call {D : va_G} {cI cZ : ClassId} {al : Nat → Nat} {zs : zzT} {A : Nat → Prop} {U : State} (h : zzEnv D cI cZ al zs A U) (g : JFrame) (mk : MethodId) (a : Array Value) : zzEnv D cI cZ al zs A (U.calling g mk a) :=
  ⟨va_K.moved (u := U) (U := U.calling g mk a) (Vm.Alike.refl U.vm) h.1, fun w hw => va_Nw.same (u := U) (by rcases zzN0_kind w hw with ⟨_, _, _, _, _, _, rfl⟩ | ⟨_, _, _, _, rfl⟩ <;> rfl) rfl (h.2.1 w hw), fun t n f e => va_T.moved (u := U) (U := U.calling g mk a) (Vm.Alike.refl U.vm) (h.2.2.1 t n f e), va_Z.moved (u := U) (U := U.calling g mk a) (Vm.Alike.refl U.vm) h.2.2.2.1, va_Z.moved (u := U) (U := U.calling g mk a) (Vm.Alike.refl U.vm) h.2.2.2.2⟩
theorem zzEnv.go {D : va_G} {cI cZ : ClassId} {al : Nat → Nat} {zs : zzT} {A B : Nat → Prop} {s U : State} {H : Heap} {locs : List Loc} (h : zzEnv D cI cZ al zs A s) (hS : va_S A s.heap H locs) (hU : U.heap = H) (hW : s.WarmedH U.vm) (hAB : ∀ q, B q → A q) : zzEnv D cI cZ al zs B U := by
  subst hU
  refine ⟨va_K.moved hW.alike h.1, fun w hw => ?_, fun t n f e => ?_, ?_, ?_⟩
  · have h2 := h.2.1 w hw
    rcases zzN0_kind w hw with ⟨_, _, _, _, _, _, rfl⟩ | ⟨_, _, _, _, rfl⟩
    · exact va_Nw.warmF hW h2
    · exact va_Nw.warmM hW h2
  · exact ((va_T.moved hW.alike (h.2.2.1 t n f e)).kept (fun a h1 h2 => hS.2.1 a h1 h2)).narrow hAB
  · exact ((va_Z.moved hW.alike h.2.2.2.1).kept (fun a h1 h2 => hS.2.1 a h1 h2)).narrow hAB
  · exact ((va_Z.moved hW.alike h.2.2.2.2).kept (fun a h1 h2 => hS.2.1 a h1 h2)).narrow hAB
def zzA (al : Nat → Nat) (M sz : Nat) : Nat → Prop := fun q => (∃ k, k < M ∧ q = al k) ∨ sz ≤ q
def zzrm (d : Nat) : Room := { frames := d, cells := 0, slots := 0, locals := 64 * d }
def zzPc (D : va_G) (cI cZ : ClassId) (al : Nat → Nat) (M : Nat) (zs : zzT) (av : List Value) (w : zzW) (sz : Nat) : Array Value → State → Prop :=
  va_Pc (av.map (zzv al)) (fun U => U.heap.size = sz ∧ zzok M w ∧ va_P D vwCl (zzwl cI cZ al M w) U.heap ∧ zzEnv D cI cZ al zs (zzA al M sz) U)
def zzQc (D : va_G) (cI cZ : ClassId) (al : Nat → Nat) (M : Nat) (Q : zzQ) (sz : Nat) : Array Value → State → Outcome → State → Prop := fun _ st oc t =>
  (∃ (r : List Value) (w1 : zzW), zzok M w1 ∧ Q r w1 ∧ r.length ≤ 1 ∧ oc = .returned ((r.map (zzv al)).head?) ∧ va_P D vwCl (zzwl cI cZ al M w1) t.heap) ∧ va_F (zzA al M sz) st t
def zzRW (p : Program) (l : Launch) (e : Env) (Rm : Room) (s : State) (m : MethodId) (args : Array Value) (below : List Frame) (meth : Method) (c : Code) (Z : State → Prop) (D : va_G) (cI cZ : ClassId) (al : Nat → Nat) (M : Nat) (A : Nat → Prop) (cells slots nL : Nat) : zzS := fun pc ls st w =>
  zzok M w → ∀ (H : Heap) (locs : List Loc) (ls1 : Array Slot), va_P D vwCl (zzwl cI cZ al M w) H → va_S A s.heap H locs → lv_has ls1 nL (ls.map (zzq al)) → W p l e Rm s m args below meth c H locs cells slots Z (F0 m pc ls1 (st.map (zzv al)))
/-- where the walk stands: the machine, the method's code, its class, the words, the world's addresses -/
def zzcx (p : Program) (Rm : Room) (s : State) (m : MethodId) (args : Array Value) (c : Code) (D : va_G) (cI cZ : ClassId) (al : Nat → Nat) (M : Nat) (A : Nat → Prop) (nL : Nat) (zs : zzT) (cc : ByteArray) (o cells slots : Nat) : Prop :=
  p.tables.exec = Jvm.exec ∧ c.code = cc ∧ c.maxLocals = nL ∧ s.vm.findClass (zzR o) = some m.cls ∧ (∀ w ∈ zzT0, w.before args s = true) ∧ zzEnv D cI cZ al zs A s ∧ (∀ i j, i < M → j < M → al i = al j → i = j) ∧ (∀ k, k < M → A (al k)) ∧ (∀ q, s.heap.size ≤ q → A q) ∧ (1 ≤ Rm.frames ∧ 40 ≤ Rm.locals ∧ cells ≤ Rm.cells ∧ slots ≤ Rm.slots)
set_option maxRecDepth 20000 in
theorem zzkl_in {o idx : Nat} {v : Int64} (h : zzkl o idx = some v) : Cond.constantLong (zzR o) idx v ∈ zzT0 := zzin_mem (List.all_eq_true.mp zzkl_ok ((o, idx), v) (zz_lookup h))
theorem zzki_in {o idx : Nat} {v : Int32} (h : zzki o idx = some v) : Cond.constant (zzR o) idx v ∈ zzT0 := zzin_mem (List.all_eq_true.mp zzki_ok ((o, idx), v) (zz_lookup h))
section ZS
variable {p : Program} {l : Launch} {e : Env} {Rm : Room} {s : State} {m : MethodId} {args : Array Value} {below : List Frame} {meth : Method} {c : Code} {Z : State → Prop} {D : va_G} {cI cZ : ClassId} {al : Nat → Nat} {M : Nat} {A : Nat → Prop} {cells slots nL : Nat} {zs : zzT} {CL : zzK} {cc : ByteArray} {o : Nat} {rt : Option FieldType} {Q : zzQ}
theorem zs_iconst (C : zzcx p Rm s m args c D cI cZ al M A nL zs cc o cells slots) : zr_iconst zs CL cc o nL rt Q (zzRW p l e Rm s m args below meth c Z D cI cZ al M A cells slots nL) := by
  intro pc ls st w n v hd hv kk hok H locs ls1 hP hS hl
  exact lv_iconst C.1 C.2.1 hd hv (kk hok H locs ls1 hP hS hl)
theorem zs_bipush (C : zzcx p Rm s m args c D cI cZ al M A nL zs cc o cells slots) : zr_bipush zs CL cc o nL rt Q (zzRW p l e Rm s m args below meth c Z D cI cZ al M A cells slots nL) := by
  intro pc ls st w n v hd hv kk hok H locs ls1 hP hS hl
  exact lv_bipush C.1 C.2.1 hd hv (kk hok H locs ls1 hP hS hl)
theorem zs_lconst (C : zzcx p Rm s m args c D cI cZ al M A nL zs cc o cells slots) : zr_lconst zs CL cc o nL rt Q (zzRW p l e Rm s m args below meth c Z D cI cZ al M A cells slots nL) := by
  intro pc ls st w n v hd hv kk hok H locs ls1 hP hS hl
  exact lv_lconst C.1 C.2.1 hd hv (kk hok H locs ls1 hP hS hl)
theorem zs_ldc (C : zzcx p Rm s m args c D cI cZ al M A nL zs cc o cells slots) : zr_ldc zs CL cc o nL rt Q (zzRW p l e Rm s m args below meth c Z D cI cZ al M A cells slots nL) := by
  intro pc ls st w idx v hd hv kk hok H locs ls1 hP hS hl
  exact lv_ldc C.1 C.2.1 C.2.2.2.1 (C.2.2.2.2.1 _ (zzki_in hv)) hd (kk hok H locs ls1 hP hS hl)
theorem zs_ldcw (C : zzcx p Rm s m args c D cI cZ al M A nL zs cc o cells slots) : zr_ldcw zs CL cc o nL rt Q (zzRW p l e Rm s m args below meth c Z D cI cZ al M A cells slots nL) := by
  intro pc ls st w idx v hd hv kk hok H locs ls1 hP hS hl
  exact lv_ldcw C.1 C.2.1 C.2.2.2.1 (C.2.2.2.2.1 _ (zzki_in hv)) hd (kk hok H locs ls1 hP hS hl)
theorem zs_ldc2 (C : zzcx p Rm s m args c D cI cZ al M A nL zs cc o cells slots) : zr_ldc2 zs CL cc o nL rt Q (zzRW p l e Rm s m args below meth c Z D cI cZ al M A cells slots nL) := by
  intro pc ls st w idx v hd hv kk hok H locs ls1 hP hS hl
  exact lv_ldc2 C.1 C.2.1 C.2.2.2.1 (C.2.2.2.2.1 _ (zzkl_in hv)) hd (kk hok H locs ls1 hP hS hl)
theorem zs_iload_n (C : zzcx p Rm s m args c D cI cZ al M A nL zs cc o cells slots) : zr_iload_n zs CL cc o nL rt Q (zzRW p l e Rm s m args below meth c Z D cI cZ al M A cells slots nL) := by
  intro pc ls st w j i x hd hj hg kk hok H locs ls1 hP hS hl
  exact lv_iload_n C.1 C.2.1 hd hj (zzget_has hl hg) (kk hok H locs ls1 hP hS hl)
theorem zs_iload (C : zzcx p Rm s m args c D cI cZ al M A nL zs cc o cells slots) : zr_iload zs CL cc o nL rt Q (zzRW p l e Rm s m args below meth c Z D cI cZ al M A cells slots nL) := by
  intro pc ls st w i x hd hg kk hok H locs ls1 hP hS hl
  exact lv_iload C.1 C.2.1 hd (zzget_has hl hg) (kk hok H locs ls1 hP hS hl)
theorem zs_lload_n (C : zzcx p Rm s m args c D cI cZ al M A nL zs cc o cells slots) : zr_lload_n zs CL cc o nL rt Q (zzRW p l e Rm s m args below meth c Z D cI cZ al M A cells slots nL) := by
  intro pc ls st w j i x hd hj hg kk hok H locs ls1 hP hS hl
  exact lv_lload_n C.1 C.2.1 hd hj (zzget_has hl hg) (kk hok H locs ls1 hP hS hl)
theorem zs_lload (C : zzcx p Rm s m args c D cI cZ al M A nL zs cc o cells slots) : zr_lload zs CL cc o nL rt Q (zzRW p l e Rm s m args below meth c Z D cI cZ al M A cells slots nL) := by
  intro pc ls st w i x hd hg kk hok H locs ls1 hP hS hl
  exact lv_lload C.1 C.2.1 hd (zzget_has hl hg) (kk hok H locs ls1 hP hS hl)
theorem zs_aload_n (C : zzcx p Rm s m args c D cI cZ al M A nL zs cc o cells slots) : zr_aload_n zs CL cc o nL rt Q (zzRW p l e Rm s m args below meth c Z D cI cZ al M A cells slots nL) := by
  intro pc ls st w j i x hd hj hg kk hok H locs ls1 hP hS hl
  exact lv_aload_n C.1 C.2.1 hd hj (zzget_has hl hg) (kk hok H locs ls1 hP hS hl)
theorem zs_aload (C : zzcx p Rm s m args c D cI cZ al M A nL zs cc o cells slots) : zr_aload zs CL cc o nL rt Q (zzRW p l e Rm s m args below meth c Z D cI cZ al M A cells slots nL) := by
  intro pc ls st w i x hd hg kk hok H locs ls1 hP hS hl
  exact lv_aload C.1 C.2.1 hd (zzget_has hl hg) (kk hok H locs ls1 hP hS hl)
theorem zs_istore_n (C : zzcx p Rm s m args c D cI cZ al M A nL zs cc o cells slots) : zr_istore_n zs CL cc o nL rt Q (zzRW p l e Rm s m args below meth c Z D cI cZ al M A cells slots nL) := by
  intro pc ls st w j i x ls1 hd hj hn hp kk hok H locs ls1 hP hS hl
  subst hp
  exact lv_istore_n C.1 C.2.1 hd hj hl hn rfl (fun ls2 hl2 => kk hok H locs ls2 hP hS (zzput_has hl2))
theorem zs_istore (C : zzcx p Rm s m args c D cI cZ al M A nL zs cc o cells slots) : zr_istore zs CL cc o nL rt Q (zzRW p l e Rm s m args below meth c Z D cI cZ al M A cells slots nL) := by
  intro pc ls st w i x ls1 hd hn hp kk hok H locs ls1 hP hS hl
  subst hp
  exact lv_istore C.1 C.2.1 hd hl hn rfl (fun ls2 hl2 => kk hok H locs ls2 hP hS (zzput_has hl2))
theorem zs_lstore_n (C : zzcx p Rm s m args c D cI cZ al M A nL zs cc o cells slots) : zr_lstore_n zs CL cc o nL rt Q (zzRW p l e Rm s m args below meth c Z D cI cZ al M A cells slots nL) := by
  intro pc ls st w j i x ls1 hd hj hn hp kk hok H locs ls1 hP hS hl
  subst hp
  exact lv_lstore_n C.1 C.2.1 hd hj hl hn rfl (fun ls2 hl2 => kk hok H locs ls2 hP hS (zzput2_has hl2))
theorem zs_lstore (C : zzcx p Rm s m args c D cI cZ al M A nL zs cc o cells slots) : zr_lstore zs CL cc o nL rt Q (zzRW p l e Rm s m args below meth c Z D cI cZ al M A cells slots nL) := by
  intro pc ls st w i x ls1 hd hn hp kk hok H locs ls1 hP hS hl
  subst hp
  exact lv_lstore C.1 C.2.1 hd hl hn rfl (fun ls2 hl2 => kk hok H locs ls2 hP hS (zzput2_has hl2))
theorem zs_astore_n (C : zzcx p Rm s m args c D cI cZ al M A nL zs cc o cells slots) : zr_astore_n zs CL cc o nL rt Q (zzRW p l e Rm s m args below meth c Z D cI cZ al M A cells slots nL) := by
  intro pc ls st w j i x ls1 hd hj hn hp kk hok H locs ls1 hP hS hl
  subst hp
  exact lv_astore_n C.1 C.2.1 hd hj hl hn rfl (fun ls2 hl2 => kk hok H locs ls2 hP hS (zzput_has hl2))
theorem zs_astore (C : zzcx p Rm s m args c D cI cZ al M A nL zs cc o cells slots) : zr_astore zs CL cc o nL rt Q (zzRW p l e Rm s m args below meth c Z D cI cZ al M A cells slots nL) := by
  intro pc ls st w i x ls1 hd hn hp kk hok H locs ls1 hP hS hl
  subst hp
  exact lv_astore C.1 C.2.1 hd hl hn rfl (fun ls2 hl2 => kk hok H locs ls2 hP hS (zzput_has hl2))
theorem zs_iinc (C : zzcx p Rm s m args c D cI cZ al M A nL zs cc o cells slots) : zr_iinc zs CL cc o nL rt Q (zzRW p l e Rm s m args below meth c Z D cI cZ al M A cells slots nL) := by
  intro pc ls st w i n x v ls1 hd hg hv hn hp kk hok H locs ls1 hP hS hl
  subst hp
  obtain ⟨k0, hk0⟩ := List.getElem?_of_mem (List.mem_map.mpr ⟨(i, .int x), zzget_mem hg, rfl⟩ : zzq al (i, .int x) ∈ ls.map (zzq al))
  exact lv_iinc C.1 C.2.1 hd hl (k := k0) hk0 hv hn rfl (fun ls2 hl2 => kk hok H locs ls2 hP hS (zzput_has (v := .int v) hl2))
theorem zs_iadd (C : zzcx p Rm s m args c D cI cZ al M A nL zs cc o cells slots) : zr_iadd zs CL cc o nL rt Q (zzRW p l e Rm s m args below meth c Z D cI cZ al M A cells slots nL) := by
  intro pc ls st w x y v hd hv kk hok H locs ls1 hP hS hl
  subst hv
  exact lv_iadd C.1 C.2.1 hd (kk hok H locs ls1 hP hS hl)
theorem zs_isub (C : zzcx p Rm s m args c D cI cZ al M A nL zs cc o cells slots) : zr_isub zs CL cc o nL rt Q (zzRW p l e Rm s m args below meth c Z D cI cZ al M A cells slots nL) := by
  intro pc ls st w x y v hd hv kk hok H locs ls1 hP hS hl
  subst hv
  exact lv_isub C.1 C.2.1 hd (kk hok H locs ls1 hP hS hl)
theorem zs_imul (C : zzcx p Rm s m args c D cI cZ al M A nL zs cc o cells slots) : zr_imul zs CL cc o nL rt Q (zzRW p l e Rm s m args below meth c Z D cI cZ al M A cells slots nL) := by
  intro pc ls st w x y v hd hv kk hok H locs ls1 hP hS hl
  subst hv
  exact lv_imul C.1 C.2.1 hd (kk hok H locs ls1 hP hS hl)
theorem zs_iand (C : zzcx p Rm s m args c D cI cZ al M A nL zs cc o cells slots) : zr_iand zs CL cc o nL rt Q (zzRW p l e Rm s m args below meth c Z D cI cZ al M A cells slots nL) := by
  intro pc ls st w x y v hd hv kk hok H locs ls1 hP hS hl
  subst hv
  exact lv_iand C.1 C.2.1 hd (kk hok H locs ls1 hP hS hl)
theorem zs_ior (C : zzcx p Rm s m args c D cI cZ al M A nL zs cc o cells slots) : zr_ior zs CL cc o nL rt Q (zzRW p l e Rm s m args below meth c Z D cI cZ al M A cells slots nL) := by
  intro pc ls st w x y v hd hv kk hok H locs ls1 hP hS hl
  subst hv
  exact lv_ior C.1 C.2.1 hd (kk hok H locs ls1 hP hS hl)
theorem zs_ixor (C : zzcx p Rm s m args c D cI cZ al M A nL zs cc o cells slots) : zr_ixor zs CL cc o nL rt Q (zzRW p l e Rm s m args below meth c Z D cI cZ al M A cells slots nL) := by
  intro pc ls st w x y v hd hv kk hok H locs ls1 hP hS hl
  subst hv
  exact lv_ixor C.1 C.2.1 hd (kk hok H locs ls1 hP hS hl)
theorem zs_ishl (C : zzcx p Rm s m args c D cI cZ al M A nL zs cc o cells slots) : zr_ishl zs CL cc o nL rt Q (zzRW p l e Rm s m args below meth c Z D cI cZ al M A cells slots nL) := by
  intro pc ls st w x y v hd hv kk hok H locs ls1 hP hS hl
  subst hv
  exact lv_ishl C.1 C.2.1 hd (kk hok H locs ls1 hP hS hl)
theorem zs_ishr (C : zzcx p Rm s m args c D cI cZ al M A nL zs cc o cells slots) : zr_ishr zs CL cc o nL rt Q (zzRW p l e Rm s m args below meth c Z D cI cZ al M A cells slots nL) := by
  intro pc ls st w x y v hd hv kk hok H locs ls1 hP hS hl
  subst hv
  exact lv_ishr C.1 C.2.1 hd (kk hok H locs ls1 hP hS hl)
theorem zs_ladd (C : zzcx p Rm s m args c D cI cZ al M A nL zs cc o cells slots) : zr_ladd zs CL cc o nL rt Q (zzRW p l e Rm s m args below meth c Z D cI cZ al M A cells slots nL) := by
  intro pc ls st w x y v hd hv kk hok H locs ls1 hP hS hl
  subst hv
  exact lv_ladd C.1 C.2.1 hd (kk hok H locs ls1 hP hS hl)
theorem zs_lmul (C : zzcx p Rm s m args c D cI cZ al M A nL zs cc o cells slots) : zr_lmul zs CL cc o nL rt Q (zzRW p l e Rm s m args below meth c Z D cI cZ al M A cells slots nL) := by
  intro pc ls st w x y v hd hv kk hok H locs ls1 hP hS hl
  subst hv
  exact lv_lmul C.1 C.2.1 hd (kk hok H locs ls1 hP hS hl)
theorem zs_land (C : zzcx p Rm s m args c D cI cZ al M A nL zs cc o cells slots) : zr_land zs CL cc o nL rt Q (zzRW p l e Rm s m args below meth c Z D cI cZ al M A cells slots nL) := by
  intro pc ls st w x y v hd hv kk hok H locs ls1 hP hS hl
  subst hv
  exact lv_land C.1 C.2.1 hd (kk hok H locs ls1 hP hS hl)
theorem zs_ineg (C : zzcx p Rm s m args c D cI cZ al M A nL zs cc o cells slots) : zr_ineg zs CL cc o nL rt Q (zzRW p l e Rm s m args below meth c Z D cI cZ al M A cells slots nL) := by
  intro pc ls st w x v hd hv kk hok H locs ls1 hP hS hl
  subst hv
  exact lv_ineg C.1 C.2.1 hd (kk hok H locs ls1 hP hS hl)
theorem zs_idiv (C : zzcx p Rm s m args c D cI cZ al M A nL zs cc o cells slots) : zr_idiv zs CL cc o nL rt Q (zzRW p l e Rm s m args below meth c Z D cI cZ al M A cells slots nL) := by
  intro pc ls st w x y v hd h0 hv kk hok H locs ls1 hP hS hl
  subst hv
  exact lv_idiv C.1 C.2.1 hd h0 (kk hok H locs ls1 hP hS hl)
theorem zs_irem (C : zzcx p Rm s m args c D cI cZ al M A nL zs cc o cells slots) : zr_irem zs CL cc o nL rt Q (zzRW p l e Rm s m args below meth c Z D cI cZ al M A cells slots nL) := by
  intro pc ls st w x y v hd h0 hv kk hok H locs ls1 hP hS hl
  subst hv
  exact lv_irem C.1 C.2.1 hd h0 (kk hok H locs ls1 hP hS hl)
theorem zs_iushr (C : zzcx p Rm s m args c D cI cZ al M A nL zs cc o cells slots) : zr_iushr zs CL cc o nL rt Q (zzRW p l e Rm s m args below meth c Z D cI cZ al M A cells slots nL) := by
  intro pc ls st w x y v hd hv kk hok H locs ls1 hP hS hl
  exact lv_iushr C.1 C.2.1 hd hv (kk hok H locs ls1 hP hS hl)
theorem zs_lcmp (C : zzcx p Rm s m args c D cI cZ al M A nL zs cc o cells slots) : zr_lcmp zs CL cc o nL rt Q (zzRW p l e Rm s m args below meth c Z D cI cZ al M A cells slots nL) := by
  intro pc ls st w x y v hd hv kk hok H locs ls1 hP hS hl
  subst hv
  exact W.lcmp C.1 C.2.1 hd (kk hok H locs ls1 hP hS hl)
theorem zs_i2l (C : zzcx p Rm s m args c D cI cZ al M A nL zs cc o cells slots) : zr_i2l zs CL cc o nL rt Q (zzRW p l e Rm s m args below meth c Z D cI cZ al M A cells slots nL) := by
  intro pc ls st w x v hd hv kk hok H locs ls1 hP hS hl
  exact lv_i2l C.1 C.2.1 hd hv (kk hok H locs ls1 hP hS hl)
theorem zs_l2i (C : zzcx p Rm s m args c D cI cZ al M A nL zs cc o cells slots) : zr_l2i zs CL cc o nL rt Q (zzRW p l e Rm s m args below meth c Z D cI cZ al M A cells slots nL) := by
  intro pc ls st w x v hd hv kk hok H locs ls1 hP hS hl
  exact lv_l2i C.1 C.2.1 hd hv (kk hok H locs ls1 hP hS hl)
theorem zs_dup (C : zzcx p Rm s m args c D cI cZ al M A nL zs cc o cells slots) : zr_dup zs CL cc o nL rt Q (zzRW p l e Rm s m args below meth c Z D cI cZ al M A cells slots nL) := by
  intro pc ls st w u hd hu kk hok H locs ls1 hP hS hl
  exact lv_dup C.1 C.2.1 hd ((zzv_cat al u).trans hu) (kk hok H locs ls1 hP hS hl)
theorem zs_pop (C : zzcx p Rm s m args c D cI cZ al M A nL zs cc o cells slots) : zr_pop zs CL cc o nL rt Q (zzRW p l e Rm s m args below meth c Z D cI cZ al M A cells slots nL) := by
  intro pc ls st w u hd hu kk hok H locs ls1 hP hS hl
  exact lv_pop C.1 C.2.1 hd ((zzv_cat al u).trans hu) (kk hok H locs ls1 hP hS hl)
theorem zs_dup2 (C : zzcx p Rm s m args c D cI cZ al M A nL zs cc o cells slots) : zr_dup2 zs CL cc o nL rt Q (zzRW p l e Rm s m args below meth c Z D cI cZ al M A cells slots nL) := by
  intro pc ls st w u v hd hu hv kk hok H locs ls1 hP hS hl
  exact lv_dup2_11 C.1 C.2.1 hd ((zzv_cat al u).trans hu) ((zzv_cat al v).trans hv) (kk hok H locs ls1 hP hS hl)
theorem zs_if_eq (C : zzcx p Rm s m args c D cI cZ al M A nL zs cc o cells slots) : zr_if_eq zs CL cc o nL rt Q (zzRW p l e Rm s m args below meth c Z D cI cZ al M A cells slots nL) := by
  intro pc ls st w x off tgt hd ht kt kf hok H locs ls1 hP hS hl
  exact lv_if_eq C.1 C.2.1 hd ht (fun h => kt h hok H locs ls1 hP hS hl) (fun h => kf h hok H locs ls1 hP hS hl)
theorem zs_icmp_eq (C : zzcx p Rm s m args c D cI cZ al M A nL zs cc o cells slots) : zr_icmp_eq zs CL cc o nL rt Q (zzRW p l e Rm s m args below meth c Z D cI cZ al M A cells slots nL) := by
  intro pc ls st w x y off tgt hd ht kt kf hok H locs ls1 hP hS hl
  exact lv_icmp_eq C.1 C.2.1 hd ht (fun h => kt h hok H locs ls1 hP hS hl) (fun h => kf h hok H locs ls1 hP hS hl)
theorem zs_if_ne (C : zzcx p Rm s m args c D cI cZ al M A nL zs cc o cells slots) : zr_if_ne zs CL cc o nL rt Q (zzRW p l e Rm s m args below meth c Z D cI cZ al M A cells slots nL) := by
  intro pc ls st w x off tgt hd ht kt kf hok H locs ls1 hP hS hl
  exact lv_if_ne C.1 C.2.1 hd ht (fun h => kt h hok H locs ls1 hP hS hl) (fun h => kf h hok H locs ls1 hP hS hl)
theorem zs_icmp_ne (C : zzcx p Rm s m args c D cI cZ al M A nL zs cc o cells slots) : zr_icmp_ne zs CL cc o nL rt Q (zzRW p l e Rm s m args below meth c Z D cI cZ al M A cells slots nL) := by
  intro pc ls st w x y off tgt hd ht kt kf hok H locs ls1 hP hS hl
  exact lv_icmp_ne C.1 C.2.1 hd ht (fun h => kt h hok H locs ls1 hP hS hl) (fun h => kf h hok H locs ls1 hP hS hl)
theorem zs_if_lt (C : zzcx p Rm s m args c D cI cZ al M A nL zs cc o cells slots) : zr_if_lt zs CL cc o nL rt Q (zzRW p l e Rm s m args below meth c Z D cI cZ al M A cells slots nL) := by
  intro pc ls st w x off tgt hd ht kt kf hok H locs ls1 hP hS hl
  exact lv_if_lt C.1 C.2.1 hd ht (fun h => kt h hok H locs ls1 hP hS hl) (fun h => kf h hok H locs ls1 hP hS hl)
theorem zs_icmp_lt (C : zzcx p Rm s m args c D cI cZ al M A nL zs cc o cells slots) : zr_icmp_lt zs CL cc o nL rt Q (zzRW p l e Rm s m args below meth c Z D cI cZ al M A cells slots nL) := by
  intro pc ls st w x y off tgt hd ht kt kf hok H locs ls1 hP hS hl
  exact lv_icmp_lt C.1 C.2.1 hd ht (fun h => kt h hok H locs ls1 hP hS hl) (fun h => kf h hok H locs ls1 hP hS hl)
theorem zs_if_ge (C : zzcx p Rm s m args c D cI cZ al M A nL zs cc o cells slots) : zr_if_ge zs CL cc o nL rt Q (zzRW p l e Rm s m args below meth c Z D cI cZ al M A cells slots nL) := by
  intro pc ls st w x off tgt hd ht kt kf hok H locs ls1 hP hS hl
  exact lv_if_ge C.1 C.2.1 hd ht (fun h => kt h hok H locs ls1 hP hS hl) (fun h => kf h hok H locs ls1 hP hS hl)
theorem zs_icmp_ge (C : zzcx p Rm s m args c D cI cZ al M A nL zs cc o cells slots) : zr_icmp_ge zs CL cc o nL rt Q (zzRW p l e Rm s m args below meth c Z D cI cZ al M A cells slots nL) := by
  intro pc ls st w x y off tgt hd ht kt kf hok H locs ls1 hP hS hl
  exact lv_icmp_ge C.1 C.2.1 hd ht (fun h => kt h hok H locs ls1 hP hS hl) (fun h => kf h hok H locs ls1 hP hS hl)
theorem zs_if_gt (C : zzcx p Rm s m args c D cI cZ al M A nL zs cc o cells slots) : zr_if_gt zs CL cc o nL rt Q (zzRW p l e Rm s m args below meth c Z D cI cZ al M A cells slots nL) := by
  intro pc ls st w x off tgt hd ht kt kf hok H locs ls1 hP hS hl
  exact lv_if_gt C.1 C.2.1 hd ht (fun h => kt h hok H locs ls1 hP hS hl) (fun h => kf h hok H locs ls1 hP hS hl)
theorem zs_icmp_gt (C : zzcx p Rm s m args c D cI cZ al M A nL zs cc o cells slots) : zr_icmp_gt zs CL cc o nL rt Q (zzRW p l e Rm s m args below meth c Z D cI cZ al M A cells slots nL) := by
  intro pc ls st w x y off tgt hd ht kt kf hok H locs ls1 hP hS hl
  exact lv_icmp_gt C.1 C.2.1 hd ht (fun h => kt h hok H locs ls1 hP hS hl) (fun h => kf h hok H locs ls1 hP hS hl)
theorem zs_if_le (C : zzcx p Rm s m args c D cI cZ al M A nL zs cc o cells slots) : zr_if_le zs CL cc o nL rt Q (zzRW p l e Rm s m args below meth c Z D cI cZ al M A cells slots nL) := by
  intro pc ls st w x off tgt hd ht kt kf hok H locs ls1 hP hS hl
  exact lv_if_le C.1 C.2.1 hd ht (fun h => kt h hok H locs ls1 hP hS hl) (fun h => kf h hok H locs ls1 hP hS hl)
theorem zs_icmp_le (C : zzcx p Rm s m args c D cI cZ al M A nL zs cc o cells slots) : zr_icmp_le zs CL cc o nL rt Q (zzRW p l e Rm s m args below meth c Z D cI cZ al M A cells slots nL) := by
  intro pc ls st w x y off tgt hd ht kt kf hok H locs ls1 hP hS hl
  exact lv_icmp_le C.1 C.2.1 hd ht (fun h => kt h hok H locs ls1 hP hS hl) (fun h => kf h hok H locs ls1 hP hS hl)
theorem zs_goto (C : zzcx p Rm s m args c D cI cZ al M A nL zs cc o cells slots) : zr_goto zs CL cc o nL rt Q (zzRW p l e Rm s m args below meth c Z D cI cZ al M A cells slots nL) := by
  intro pc ls st w off tgt hd ht kk hok H locs ls1 hP hS hl
  exact lv_goto C.1 C.2.1 hd ht (kk hok H locs ls1 hP hS hl)
theorem zs_tabIn (C : zzcx p Rm s m args c D cI cZ al M A nL zs cc o cells slots) : zr_tabIn zs CL cc o nL rt Q (zzRW p l e Rm s m args below meth c Z D cI cZ al M A cells slots nL) := by
  intro pc ls st w dflt lo hi offs len x off tgt hd h1 h2 ho ht kk hok H locs ls1 hP hS hl
  exact lv_tableIn C.1 C.2.1 hd h1 h2 ho ht (kk hok H locs ls1 hP hS hl)
theorem zs_tabOut (C : zzcx p Rm s m args c D cI cZ al M A nL zs cc o cells slots) : zr_tabOut zs CL cc o nL rt Q (zzRW p l e Rm s m args below meth c Z D cI cZ al M A cells slots nL) := by
  intro pc ls st w dflt lo hi offs len x tgt hd h1 ht kk hok H locs ls1 hP hS hl
  exact lv_tableOut C.1 C.2.1 hd h1 ht (kk hok H locs ls1 hP hS hl)
theorem zs_get (C : zzcx p Rm s m args c D cI cZ al M A nL zs cc o cells slots) : zr_get zs CL cc o nL rt Q (zzRW p l e Rm s m args below meth c Z D cI cZ al M A cells slots nL) := by
  intro pc ls st w idx ci sl ne a fs v hd hf hw hv kk hok H locs ls1 hP hS hl
  obtain ⟨hci, hsl, hN, hT⟩ := zzf_ok hf
  have hv2 : (fs.map (zzv al))[sl]? = some (zzv al v) := by rw [List.getElem?_map, hv]; rfl
  cases ne with
  | true => exact va_getN C.1 C.2.1 C.2.2.2.2.1 (zzu_in ci hci) C.2.2.2.1 C.2.2.2.2.2.1.1 hP a (zzwl_at hok hw) (zzcl_at ci hci) sl hsl (va_Nw.use rfl (C.2.2.2.2.2.1.2.1 _ (hN rfl))) (fun _ h9 => h9) hv2 hd (kk hok H locs ls1 hP hS hl)
  | false => exact va_get C.1 C.2.1 C.2.2.2.2.1 (zzu_in ci hci) C.2.2.2.1 C.2.2.2.2.2.1.1 hP a (zzwl_at hok hw) (zzcl_at ci hci) sl hsl (C.2.2.2.2.1 _ (hT rfl)) (fun _ h9 => h9) hv2 hd (kk hok H locs ls1 hP hS hl)
theorem zs_puti (C : zzcx p Rm s m args c D cI cZ al M A nL zs cc o cells slots) : zr_puti zs CL cc o nL rt Q (zzRW p l e Rm s m args below meth c Z D cI cZ al M A cells slots nL) := by
  intro pc ls st w idx ci sl ne a fs x hd hf hw hlt hfin hnar hfit kk hok H locs ls1 hP hS hl
  obtain ⟨hci, hsl, hN, hT⟩ := zzf_ok hf
  have hM := zzok_lt hok hw
  have hl2 : sl < (fs.map (zzv al)).length := by rw [List.length_map]; exact hlt
  have hD : va_D A (zzwl cI cZ al M w) := zzD C.2.2.2.2.2.2.1 C.2.2.2.2.2.2.2.1 w
  have fin : ∀ (H1 : Heap) (locs1 : List Loc), va_P D vwCl ((zzwl cI cZ al M w).set a (al a, .inr (ci, (fs.map (zzv al)).set sl (.int x)))) H1 → va_D A ((zzwl cI cZ al M w).set a (al a, .inr (ci, (fs.map (zzv al)).set sl (.int x)))) → va_S A s.heap H1 locs1 → W p l e Rm s m args below meth c H1 locs1 cells slots Z (F0 m (pc + 3) ls1 (st.map (zzv al))) := by
    intro H1 locs1 hP1 _ hS1
    have e1 : (fs.map (zzv al)).set sl (.int x) = (fs.set sl (.int x)).map (zzv al) := by rw [List.map_set]; rfl
    have hP2 : va_P D vwCl (zzwl cI cZ al M (zzup w a (.inr (ci, fs.set sl (.int x))))) H1 := by
      rw [← zzwl_set hM]
      rw [e1] at hP1
      exact hP1
    exact kk (zzok_up hok hw _) H1 locs1 ls1 hP2 hS1 hl
  cases ne with
  | true => exact va_putN C.1 C.2.1 C.2.2.2.2.1 (zzu_in ci hci) (zzty ci) (zzty_ok ci hci) (zznm_ok ci hci) C.2.2.2.1 C.2.2.2.2.2.1.1 hP hD hS a (zzwl_at hok hw) (zzcl_at ci hci) sl hsl (va_Nw.use rfl (C.2.2.2.2.2.1.2.1 _ (hN rfl))) (fun _ h9 => h9) hfin (zzty_ok ci hci sl hsl) hnar hfit hl2 hd fin
  | false => exact va_put C.1 C.2.1 C.2.2.2.2.1 (zzu_in ci hci) (zzty ci) (zzty_ok ci hci) (zznm_ok ci hci) C.2.2.2.1 C.2.2.2.2.2.1.1 hP hD hS a (zzwl_at hok hw) (zzcl_at ci hci) sl hsl (C.2.2.2.2.1 _ (hT rfl)) (fun _ h9 => h9) hfin (zzty_ok ci hci sl hsl) hnar hfit hl2 hd fin
theorem zs_putl (C : zzcx p Rm s m args c D cI cZ al M A nL zs cc o cells slots) : zr_putl zs CL cc o nL rt Q (zzRW p l e Rm s m args below meth c Z D cI cZ al M A cells slots nL) := by
  intro pc ls st w idx ci sl ne a fs x hd hf hw hlt hfin hnar hfit kk hok H locs ls1 hP hS hl
  obtain ⟨hci, hsl, hN, hT⟩ := zzf_ok hf
  have hM := zzok_lt hok hw
  have hl2 : sl < (fs.map (zzv al)).length := by rw [List.length_map]; exact hlt
  have hD : va_D A (zzwl cI cZ al M w) := zzD C.2.2.2.2.2.2.1 C.2.2.2.2.2.2.2.1 w
  have fin : ∀ (H1 : Heap) (locs1 : List Loc), va_P D vwCl ((zzwl cI cZ al M w).set a (al a, .inr (ci, (fs.map (zzv al)).set sl (.long x)))) H1 → va_D A ((zzwl cI cZ al M w).set a (al a, .inr (ci, (fs.map (zzv al)).set sl (.long x)))) → va_S A s.heap H1 locs1 → W p l e Rm s m args below meth c H1 locs1 cells slots Z (F0 m (pc + 3) ls1 (st.map (zzv al))) := by
    intro H1 locs1 hP1 _ hS1
    have e1 : (fs.map (zzv al)).set sl (.long x) = (fs.set sl (.long x)).map (zzv al) := by rw [List.map_set]; rfl
    have hP2 : va_P D vwCl (zzwl cI cZ al M (zzup w a (.inr (ci, fs.set sl (.long x))))) H1 := by
      rw [← zzwl_set hM]
      rw [e1] at hP1
      exact hP1
    exact kk (zzok_up hok hw _) H1 locs1 ls1 hP2 hS1 hl
  cases ne with
  | true => exact va_putN C.1 C.2.1 C.2.2.2.2.1 (zzu_in ci hci) (zzty ci) (zzty_ok ci hci) (zznm_ok ci hci) C.2.2.2.1 C.2.2.2.2.2.1.1 hP hD hS a (zzwl_at hok hw) (zzcl_at ci hci) sl hsl (va_Nw.use rfl (C.2.2.2.2.2.1.2.1 _ (hN rfl))) (fun _ h9 => h9) hfin (zzty_ok ci hci sl hsl) hnar hfit hl2 hd fin
  | false => exact va_put C.1 C.2.1 C.2.2.2.2.1 (zzu_in ci hci) (zzty ci) (zzty_ok ci hci) (zznm_ok ci hci) C.2.2.2.1 C.2.2.2.2.2.1.1 hP hD hS a (zzwl_at hok hw) (zzcl_at ci hci) sl hsl (C.2.2.2.2.1 _ (hT rfl)) (fun _ h9 => h9) hfin (zzty_ok ci hci sl hsl) hnar hfit hl2 hd fin
theorem zs_gets (C : zzcx p Rm s m args c D cI cZ al M A nL zs cc o cells slots) : zr_gets zs CL cc o nL rt Q (zzRW p l e Rm s m args below meth c Z D cI cZ al M A cells slots nL) := by
  intro pc ls st w idx t hd ht kk hok H locs ls1 hP hS hl
  unfold zzgs at ht
  split at ht
  · next h =>
    obtain ⟨rfl, rfl⟩ := h
    cases ht
    exact va_getsN C.1 C.2.1 C.2.2.2.2.2.1.2.2.2.1 hS C.2.2.2.1 (va_Nw.use rfl (C.2.2.2.2.2.1.2.1 _ (zzinN_mem zzst_w.1))) (fun _ h9 => h9) hd (kk hok H locs ls1 hP hS hl)
  · split at ht
    · next h =>
      obtain ⟨rfl, rfl⟩ := h
      cases ht
      exact va_getsN C.1 C.2.1 C.2.2.2.2.2.1.2.2.2.2 hS C.2.2.2.1 (va_Nw.use rfl (C.2.2.2.2.2.1.2.1 _ (zzinN_mem zzst_w.2))) (fun _ h9 => h9) hd (kk hok H locs ls1 hP hS hl)
    · cases ht
theorem zs_iald (C : zzcx p Rm s m args c D cI cZ al M A nL zs cc o cells slots) : zr_iald zs CL cc o nL rt Q (zzRW p l e Rm s m args below meth c Z D cI cZ al M A cells slots nL) := by
  intro pc ls st w a n f i v hd hw hin hv kk hok H locs ls1 hP hS hl
  subst hv
  exact va_iald C.1 C.2.1 C.2.2.2.2.2.1.1 hP a 0 (zzwl_at hok hw) rfl hin hd (kk hok H locs ls1 hP hS hl)
theorem zs_zald (C : zzcx p Rm s m args c D cI cZ al M A nL zs cc o cells slots) : zr_zald zs CL cc o nL rt Q (zzRW p l e Rm s m args below meth c Z D cI cZ al M A cells slots nL) := by
  intro pc ls st w a n f i v hd hw hin hv kk hok H locs ls1 hP hS hl
  subst hv
  exact va_zald C.1 C.2.1 C.2.2.2.2.2.1.1 hP a 1 (zzwl_at hok hw) rfl hin hd (kk hok H locs ls1 hP hS hl)
theorem zs_tald (C : zzcx p Rm s m args c D cI cZ al M A nL zs cc o cells slots) : zr_tald zs CL cc o nL rt Q (zzRW p l e Rm s m args below meth c Z D cI cZ al M A cells slots nL) := by
  intro pc ls st w a n f i v hd hw hin hv kk hok H locs ls1 hP hS hl
  subst hv
  exact va_ti C.1 C.2.1 (C.2.2.2.2.2.1.2.2.1 _ _ _ hw) hS hin rfl hd (kk hok H locs ls1 hP hS hl)
theorem zs_iast (C : zzcx p Rm s m args c D cI cZ al M A nL zs cc o cells slots) : zr_iast zs CL cc o nL rt Q (zzRW p l e Rm s m args below meth c Z D cI cZ al M A cells slots nL) := by
  intro pc ls st w a n f i x hd hw hin kk hok H locs ls1 hP hS hl
  have hM := zzok_lt hok hw
  have hD : va_D A (zzwl cI cZ al M w) := zzD C.2.2.2.2.2.2.1 C.2.2.2.2.2.2.2.1 w
  refine va_iast C.1 C.2.1 C.2.2.2.2.2.1.1 hP hD hS a 0 (zzwl_at hok hw) rfl hin hd ?_
  intro H1 locs1 hP1 _ hS1
  have hP2 : va_P D vwCl (zzwl cI cZ al M (zzup w a (.inl (0, n, upd f i.toNatClampNeg x)))) H1 := by
    rw [← zzwl_set hM]
    exact hP1
  exact kk (zzok_up hok hw _) H1 locs1 ls1 hP2 hS1 hl
theorem zs_zast (C : zzcx p Rm s m args c D cI cZ al M A nL zs cc o cells slots) : zr_zast zs CL cc o nL rt Q (zzRW p l e Rm s m args below meth c Z D cI cZ al M A cells slots nL) := by
  intro pc ls st w a n f i x hd hw hin kk hok H locs ls1 hP hS hl
  have hM := zzok_lt hok hw
  have hD : va_D A (zzwl cI cZ al M w) := zzD C.2.2.2.2.2.2.1 C.2.2.2.2.2.2.2.1 w
  refine va_zast C.1 C.2.1 C.2.2.2.2.2.1.1 hP hD hS a 1 (zzwl_at hok hw) rfl hin hd ?_
  intro H1 locs1 hP1 _ hS1
  have hP2 : va_P D vwCl (zzwl cI cZ al M (zzup w a (.inl (1, n, upd f i.toNatClampNeg (vp_nar .boolean x))))) H1 := by
    rw [← zzwl_set hM]
    exact hP1
  exact kk (zzok_up hok hw _) H1 locs1 ls1 hP2 hS1 hl
theorem zs_alen (C : zzcx p Rm s m args c D cI cZ al M A nL zs cc o cells slots) : zr_alen zs CL cc o nL rt Q (zzRW p l e Rm s m args below meth c Z D cI cZ al M A cells slots nL) := by
  intro pc ls st w a n f v hd hw hv kk hok H locs ls1 hP hS hl
  exact va_alen C.1 C.2.1 C.2.2.2.2.2.1.1 hP a 0 (zzwl_at hok hw) rfl hv hd (kk hok H locs ls1 hP hS hl)
theorem zs_tlen (C : zzcx p Rm s m args c D cI cZ al M A nL zs cc o cells slots) : zr_tlen zs CL cc o nL rt Q (zzRW p l e Rm s m args below meth c Z D cI cZ al M A cells slots nL) := by
  intro pc ls st w a n f v hd hw hv kk hok H locs ls1 hP hS hl
  exact va_tlen C.1 C.2.1 (C.2.2.2.2.2.1.2.2.1 _ _ _ hw) hS hv hd (kk hok H locs ls1 hP hS hl)
theorem zs_mmn (C : zzcx p Rm s m args c D cI cZ al M A nL zs cc o cells slots) : zr_mmn zs CL cc o nL rt Q (zzRW p l e Rm s m args below meth c Z D cI cZ al M A cells slots nL) := by
  intro pc ls st w idx x y v hd hm hv hst kk hok H locs ls1 hP hS hl
  subst hv
  have hin := List.all_eq_true.mp zzmn_ok (o, idx) (List.contains_iff_mem.mp hm)
  have w := zzmm_w
  refine va_mmin C.1 C.2.1 (by rw [C.2.2.1, hl.1]) C.2.2.2.1 (C.2.2.2.2.1 _ (zzin_mem hin)) (C.2.2.2.2.1 _ (zzin_mem w.1)) (C.2.2.2.2.1 _ (zzin_mem w.2.2.1)) (C.2.2.2.2.1 _ (zzin_mem w.2.2.2.1)) C.2.2.2.2.2.2.2.2.2.1 ?_ C.2.2.2.2.2.2.2.2.2.2.2.1 C.2.2.2.2.2.2.2.2.2.2.2.2 hd (kk hok H locs ls1 hP hS hl)
  rw [zzv_cats]
  have := C.2.2.2.2.2.2.2.2.2.2.1
  omega
theorem zs_mmx (C : zzcx p Rm s m args c D cI cZ al M A nL zs cc o cells slots) : zr_mmx zs CL cc o nL rt Q (zzRW p l e Rm s m args below meth c Z D cI cZ al M A cells slots nL) := by
  intro pc ls st w idx x y v hd hm hv hst kk hok H locs ls1 hP hS hl
  subst hv
  have hin := List.all_eq_true.mp zzmx_ok (o, idx) (List.contains_iff_mem.mp hm)
  have w := zzmm_w
  refine va_mmax C.1 C.2.1 (by rw [C.2.2.1, hl.1]) C.2.2.2.1 (C.2.2.2.2.1 _ (zzin_mem hin)) (C.2.2.2.2.1 _ (zzin_mem w.2.1)) (C.2.2.2.2.1 _ (zzin_mem w.2.2.1)) (C.2.2.2.2.1 _ (zzin_mem w.2.2.2.2)) C.2.2.2.2.2.2.2.2.2.1 ?_ C.2.2.2.2.2.2.2.2.2.2.2.1 C.2.2.2.2.2.2.2.2.2.2.2.2 hd (kk hok H locs ls1 hP hS hl)
  rw [zzv_cats]
  have := C.2.2.2.2.2.2.2.2.2.2.1
  omega
theorem zs_acopy (C : zzcx p Rm s m args c D cI cZ al M A nL zs cc o cells slots) : zr_acopy zs CL cc o nL rt Q (zzRW p l e Rm s m args below meth c Z D cI cZ al M A cells slots nL) := by
  intro pc ls st w idx a0 a1 n0 n1 f g sp dp n hd ha hw0 hw1 h1 h2 h3 h4 h5 hst kk hok H locs ls1 hP hS hl
  have hM := zzok_lt hok hw1
  have hD : va_D A (zzwl cI cZ al M w) := zzD C.2.2.2.2.2.2.1 C.2.2.2.2.2.2.2.1 w
  have hin := List.all_eq_true.mp zzac_ok (o, idx) (List.contains_iff_mem.mp ha)
  have ww := zzac_w
  refine va_copyi C.1 C.2.1 (by rw [C.2.2.1, hl.1]) C.2.2.2.1 (C.2.2.2.2.1 _ (zzin_mem hin)) (C.2.2.2.2.1 _ (zzin_mem ww.1)) (C.2.2.2.2.1 _ (zzin_mem ww.2.1)) (C.2.2.2.2.1 _ (zzin_mem ww.2.2)) C.2.2.2.2.2.1.1 hP hD hS a0 a1 0 0 (zzwl_at hok hw0) (zzwl_at hok hw1) rfl rfl rfl h1 h2 h3 h4 h5 (fun _ _ => rfl) C.2.2.2.2.2.2.2.2.2.1 ?_ hd ?_
  · rw [zzv_cats]
    have := C.2.2.2.2.2.2.2.2.2.2.1
    have e9 : nativeFrameWords "java/lang/System" "arraycopy" 5 = 7 := by decide
    rw [e9]
    omega
  · intro H1 locs1 hP1 _ hS1
    have hP2 : va_P D vwCl (zzwl cI cZ al M (zzup w a1 (.inl (0, n1, va_cpy f g sp.toNatClampNeg dp.toNatClampNeg n.toNatClampNeg)))) H1 := by
      rw [← zzwl_set hM]
      exact hP1
    exact kk (zzok_up hok hw1 _) H1 locs1 ls1 hP2 hS1 hl
theorem zs_weak (C : zzcx p Rm s m args c D cI cZ al M A nL zs cc o cells slots) : zr_weak zs CL cc o nL rt Q (zzRW p l e Rm s m args below meth c Z D cI cZ al M A cells slots nL) := by
  intro pc ls st w ls1 hw kk hok H locs ls1 hP hS hl
  exact kk hok H locs ls1 hP hS ⟨hl.1, hl.2.1, fun q hq => by
    obtain ⟨r, hr, rfl⟩ := List.mem_map.mp hq
    exact hl.2.2 _ (List.mem_map.mpr ⟨r, hw r hr, rfl⟩)⟩
end ZS
