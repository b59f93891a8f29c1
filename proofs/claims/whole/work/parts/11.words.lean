/-! the words that every method of the system has: those of the tables that stay; the nest words apart -/
def zzT0 : List Cond := lw_tbl.filter goodWord
def zzisN : Cond → Bool
  | .fieldLinkNest _ _ _ _ _ _ => true
  | .methodLinkNest _ _ _ _ => true
  | _ => false
def zzN0 : List Cond := lw_tbl.filter zzisN
def zzws (k : Nat) : List Cond := .code (zzy k) (zzc k) (zzl k) (zzr k) :: zzT0
def zzNN (ci : Nat) : Nat := match ci with
  | 0 => 7
  | 1 => 5
  | 2 => 12
  | 3 => 13
  | _ => 36
def zzty (ci sl : Nat) : FieldType := match ci with
  | 0 => tyX0 sl
  | 1 => tyX1 sl
  | 2 => tyX2 sl
  | 3 => tyX3 sl
  | _ => tyX4 sl
def zzTT (ci : Nat) : u_T := match ci with
  | 0 => TX0
  | 1 => TX1
  | 2 => TX2
  | 3 => TX3
  | _ => TX4
def zzin (w : Cond) : Bool := decide (w ∈ lw_tbl) && goodWord w
def zzinN (w : Cond) : Bool := decide (w ∈ lw_tbl) && zzisN w
theorem zzin_mem {w : Cond} (h : zzin w = true) : w ∈ zzT0 := by
  simp only [zzin, Bool.and_eq_true, decide_eq_true_eq] at h
  exact List.mem_filter.mpr h
theorem zzinN_mem {w : Cond} (h : zzinN w = true) : w ∈ zzN0 := by
  simp only [zzinN, Bool.and_eq_true, decide_eq_true_eq] at h
  exact List.mem_filter.mpr h
theorem zzat_mem {w : Cond} (p : Nat) (h : lw_tbl[p]? = some w ∧ goodWord w = true) : w ∈ zzT0 := List.mem_filter.mpr ⟨List.mem_of_getElem? h.1, h.2⟩
theorem zzatN_mem {w : Cond} (p : Nat) (h : lw_tbl[p]? = some w ∧ zzisN w = true) : w ∈ zzN0 := List.mem_filter.mpr ⟨List.mem_of_getElem? h.1, h.2⟩
theorem zz_lookup {α β : Type} [BEq α] [LawfulBEq α] {k : α} {v : β} : ∀ {l : List (α × β)}, l.lookup k = some v → (k, v) ∈ l
  | [], h => by simp at h
  | (a, b) :: t, h => by
    rw [List.lookup_cons] at h
    cases e : k == a with
    | true =>
      rw [e] at h
      cases h
      have : k = a := eq_of_beq e
      subst this
      exact List.mem_cons_self
    | false =>
      rw [e] at h
      exact List.mem_cons_of_mem _ (zz_lookup h)
def zzchkF (e : (Nat × Nat) × (Nat × Nat × Bool)) : Bool :=
  decide (e.2.1 < 5) && decide (e.2.2.1 < zzNN e.2.1) && (if e.2.2.2 = true then zzinN (.fieldLinkNest (zzR e.1.1) e.1.2 (zzTT e.2.1 e.2.2.1).1 (zzTT e.2.1 e.2.2.1).2.1 (zzTT e.2.1 e.2.2.1).2.2.1 "IslandsWed") else zzin (.fieldLink (zzR e.1.1) e.1.2 (zzTT e.2.1 e.2.2.1).1 (zzTT e.2.1 e.2.2.1).2.1 (zzTT e.2.1 e.2.2.1).2.2.1))
set_option maxRecDepth 100000 in
theorem zzfT_ok : zzfT.all zzchkF = true := by decide +kernel
def zzPC (e : MethodName × ByteArray × Nat × Option FieldType × Nat × Nat × Bool) : Prop :=
  .code e.1 e.2.1 e.2.2.1 e.2.2.2.1 ∈ zzT0 ∧ .initialized e.1.cls ∈ zzT0 ∧ plainName e.1.cls = true ∧ e.1.cls = zzR e.2.2.2.2.1 ∧ (e.1.cls ≠ "java/lang/invoke/MethodHandle" ∧ e.1.cls ≠ "java/lang/invoke/VarHandle" ∧ (parseMethodDescriptor e.1.desc).map (fun d => d.parameters.length) = some e.2.2.2.2.2.1) ∧ e.2.2.1 ≤ 40 ∧
  ((e.2.2.2.2.2.2 = true → .static e.1 ∈ zzT0) ∧ (e.2.2.2.2.2.2 = false → .instanceMethod e.1 ∈ zzT0 ∧ .selects (zzR e.2.2.2.2.1) e.1 e.1 ∈ zzT0 ∧ e.2.2.2.2.1 < 5))
def zzokC (k : Nat) : Prop := zzPC (zzm k)
theorem zzokC_of {k : Nat} {e : MethodName × ByteArray × Nat × Option FieldType × Nat × Nat × Bool} (h : zzm k = e) : zzokC k = zzPC e := by rw [← h]; rfl
def zzPM (o idx kd k : Nat) (e : MethodName × ByteArray × Nat × Option FieldType × Nat × Nat × Bool) : Prop :=
  k < zzNM ∧ ((kd = 0 ∧ .methodLink (zzR o) idx e.1 ∈ zzT0 ∧ e.2.2.2.2.2.2 = false) ∨ (kd = 1 ∧ .methodLinkNest (zzR o) idx e.1 "IslandsWed" ∈ zzN0 ∧ e.2.2.2.2.2.2 = false) ∨ (kd = 2 ∧ .methodLink (zzR o) idx e.1 ∈ zzT0 ∧ e.2.2.2.2.2.2 = true))
def zzokM (q : (Nat × Nat) × (Nat × Nat)) : Prop := zzPM q.1.1 q.1.2 q.2.1 q.2.2 (zzm q.2.2)
theorem zzokM_of {o idx kd k : Nat} {e : MethodName × ByteArray × Nat × Option FieldType × Nat × Nat × Bool} (h : zzm k = e) : zzokM ((o, idx), (kd, k)) = zzPM o idx kd k e := by rw [← h]; rfl
theorem zwC_0 : zzokC 0 := by
  rw [zzokC_of zc_X3_letter]
  exact ⟨zzat_mem 247 (by decide +kernel), zzat_mem 74 (by decide +kernel), by decide +kernel, by decide +kernel, by decide +kernel, by decide, ⟨fun h => absurd h (by decide), fun _ => ⟨zzat_mem 245 (by decide +kernel), zzat_mem 246 (by decide +kernel), by decide⟩⟩⟩
theorem zwC_1 : zzokC 1 := by
  rw [zzokC_of zc_X3_blank]
  exact ⟨zzat_mem 251 (by decide +kernel), zzat_mem 74 (by decide +kernel), by decide +kernel, by decide +kernel, by decide +kernel, by decide, ⟨fun h => absurd h (by decide), fun _ => ⟨zzat_mem 249 (by decide +kernel), zzat_mem 250 (by decide +kernel), by decide⟩⟩⟩
theorem zwC_2 : zzokC 2 := by
  rw [zzokC_of zc_X3_fault]
  exact ⟨zzat_mem 255 (by decide +kernel), zzat_mem 74 (by decide +kernel), by decide +kernel, by decide +kernel, by decide +kernel, by decide, ⟨fun h => absurd h (by decide), fun _ => ⟨zzat_mem 253 (by decide +kernel), zzat_mem 254 (by decide +kernel), by decide⟩⟩⟩
theorem zwC_3 : zzokC 3 := by
  rw [zzokC_of zc_X3_isSign]
  exact ⟨zzat_mem 261 (by decide +kernel), zzat_mem 74 (by decide +kernel), by decide +kernel, by decide +kernel, by decide +kernel, by decide, ⟨fun _ => zzat_mem 260 (by decide +kernel), fun h => absurd h (by decide)⟩⟩
theorem zwC_4 : zzokC 4 := by
  rw [zzokC_of zc_X3_sea]
  exact ⟨zzat_mem 265 (by decide +kernel), zzat_mem 74 (by decide +kernel), by decide +kernel, by decide +kernel, by decide +kernel, by decide, ⟨fun h => absurd h (by decide), fun _ => ⟨zzat_mem 263 (by decide +kernel), zzat_mem 264 (by decide +kernel), by decide⟩⟩⟩
theorem zwC_5 : zzokC 5 := by
  rw [zzokC_of zc_X2_clear]
  exact ⟨zzat_mem 270 (by decide +kernel), zzat_mem 75 (by decide +kernel), by decide +kernel, by decide +kernel, by decide +kernel, by decide, ⟨fun h => absurd h (by decide), fun _ => ⟨zzat_mem 269 (by decide +kernel), zzat_mem 0 (by decide +kernel), by decide⟩⟩⟩
theorem zwC_6 : zzokC 6 := by
  rw [zzokC_of zc_X3_currentOf]
  exact ⟨zzat_mem 273 (by decide +kernel), zzat_mem 74 (by decide +kernel), by decide +kernel, by decide +kernel, by decide +kernel, by decide, ⟨fun _ => zzat_mem 272 (by decide +kernel), fun h => absurd h (by decide)⟩⟩
theorem zwC_7 : zzokC 7 := by
  rw [zzokC_of zc_X2_currents]
  exact ⟨zzat_mem 277 (by decide +kernel), zzat_mem 75 (by decide +kernel), by decide +kernel, by decide +kernel, by decide +kernel, by decide, ⟨fun h => absurd h (by decide), fun _ => ⟨zzat_mem 276 (by decide +kernel), zzat_mem 1 (by decide +kernel), by decide⟩⟩⟩
theorem zwC_8 : zzokC 8 := by
  rw [zzokC_of zc_X3_place]
  exact ⟨zzat_mem 281 (by decide +kernel), zzat_mem 74 (by decide +kernel), by decide +kernel, by decide +kernel, by decide +kernel, by decide, ⟨fun h => absurd h (by decide), fun _ => ⟨zzat_mem 279 (by decide +kernel), zzat_mem 280 (by decide +kernel), by decide⟩⟩⟩
theorem zwC_9 : zzokC 9 := by
  rw [zzokC_of zc_X3_isPlace]
  exact ⟨zzat_mem 285 (by decide +kernel), zzat_mem 74 (by decide +kernel), by decide +kernel, by decide +kernel, by decide +kernel, by decide, ⟨fun h => absurd h (by decide), fun _ => ⟨zzat_mem 284 (by decide +kernel), zzat_mem 2 (by decide +kernel), by decide⟩⟩⟩
theorem zwC_10 : zzokC 10 := by
  rw [zzokC_of zc_X2_islandAt]
  exact ⟨zzat_mem 289 (by decide +kernel), zzat_mem 75 (by decide +kernel), by decide +kernel, by decide +kernel, by decide +kernel, by decide, ⟨fun h => absurd h (by decide), fun _ => ⟨zzat_mem 288 (by decide +kernel), zzat_mem 3 (by decide +kernel), by decide⟩⟩⟩
theorem zwC_11 : zzokC 11 := by
  rw [zzokC_of zc_X3_wind]
  exact ⟨zzat_mem 293 (by decide +kernel), zzat_mem 74 (by decide +kernel), by decide +kernel, by decide +kernel, by decide +kernel, by decide, ⟨fun h => absurd h (by decide), fun _ => ⟨zzat_mem 291 (by decide +kernel), zzat_mem 292 (by decide +kernel), by decide⟩⟩⟩
theorem zwC_12 : zzokC 12 := by
  rw [zzokC_of zc_X3_island]
  exact ⟨zzat_mem 297 (by decide +kernel), zzat_mem 74 (by decide +kernel), by decide +kernel, by decide +kernel, by decide +kernel, by decide, ⟨fun h => absurd h (by decide), fun _ => ⟨zzat_mem 295 (by decide +kernel), zzat_mem 296 (by decide +kernel), by decide⟩⟩⟩
theorem zwC_13 : zzokC 13 := by
  rw [zzokC_of zc_X3_isKind]
  exact ⟨zzat_mem 300 (by decide +kernel), zzat_mem 74 (by decide +kernel), by decide +kernel, by decide +kernel, by decide +kernel, by decide, ⟨fun _ => zzat_mem 299 (by decide +kernel), fun h => absurd h (by decide)⟩⟩
theorem zwC_14 : zzokC 14 := by
  rw [zzokC_of zc_X2_add]
  exact ⟨zzat_mem 304 (by decide +kernel), zzat_mem 75 (by decide +kernel), by decide +kernel, by decide +kernel, by decide +kernel, by decide, ⟨fun h => absurd h (by decide), fun _ => ⟨zzat_mem 303 (by decide +kernel), zzat_mem 4 (by decide +kernel), by decide⟩⟩⟩
theorem zwC_15 : zzokC 15 := by
  rw [zzokC_of zc_X3_about]
  exact ⟨zzat_mem 308 (by decide +kernel), zzat_mem 74 (by decide +kernel), by decide +kernel, by decide +kernel, by decide +kernel, by decide, ⟨fun h => absurd h (by decide), fun _ => ⟨zzat_mem 306 (by decide +kernel), zzat_mem 307 (by decide +kernel), by decide⟩⟩⟩
theorem zwC_16 : zzokC 16 := by
  rw [zzokC_of zc_X3_isIsland]
  exact ⟨zzat_mem 312 (by decide +kernel), zzat_mem 74 (by decide +kernel), by decide +kernel, by decide +kernel, by decide +kernel, by decide, ⟨fun h => absurd h (by decide), fun _ => ⟨zzat_mem 311 (by decide +kernel), zzat_mem 5 (by decide +kernel), by decide⟩⟩⟩
theorem zwC_17 : zzokC 17 := by
  rw [zzokC_of zc_X2_pushOf]
  exact ⟨zzat_mem 316 (by decide +kernel), zzat_mem 75 (by decide +kernel), by decide +kernel, by decide +kernel, by decide +kernel, by decide, ⟨fun h => absurd h (by decide), fun _ => ⟨zzat_mem 315 (by decide +kernel), zzat_mem 6 (by decide +kernel), by decide⟩⟩⟩
theorem zwC_18 : zzokC 18 := by
  rw [zzokC_of zc_X2_isAnchored]
  exact ⟨zzat_mem 324 (by decide +kernel), zzat_mem 75 (by decide +kernel), by decide +kernel, by decide +kernel, by decide +kernel, by decide, ⟨fun h => absurd h (by decide), fun _ => ⟨zzat_mem 323 (by decide +kernel), zzat_mem 7 (by decide +kernel), by decide⟩⟩⟩
theorem zwC_19 : zzokC 19 := by
  rw [zzokC_of zc_X2_neighbours]
  exact ⟨zzat_mem 328 (by decide +kernel), zzat_mem 75 (by decide +kernel), by decide +kernel, by decide +kernel, by decide +kernel, by decide, ⟨fun h => absurd h (by decide), fun _ => ⟨zzat_mem 327 (by decide +kernel), zzat_mem 8 (by decide +kernel), by decide⟩⟩⟩
theorem zwC_20 : zzokC 20 := by
  rw [zzokC_of zc_X2_areBeside]
  exact ⟨zzat_mem 332 (by decide +kernel), zzat_mem 75 (by decide +kernel), by decide +kernel, by decide +kernel, by decide +kernel, by decide, ⟨fun h => absurd h (by decide), fun _ => ⟨zzat_mem 331 (by decide +kernel), zzat_mem 9 (by decide +kernel), by decide⟩⟩⟩
theorem zwC_21 : zzokC 21 := by
  rw [zzokC_of zc_X2_stepped]
  exact ⟨zzat_mem 335 (by decide +kernel), zzat_mem 75 (by decide +kernel), by decide +kernel, by decide +kernel, by decide +kernel, by decide, ⟨fun _ => zzat_mem 334 (by decide +kernel), fun h => absurd h (by decide)⟩⟩
theorem zwC_22 : zzokC 22 := by
  rw [zzokC_of zc_X3_as]
  exact ⟨zzat_mem 339 (by decide +kernel), zzat_mem 74 (by decide +kernel), by decide +kernel, by decide +kernel, by decide +kernel, by decide, ⟨fun h => absurd h (by decide), fun _ => ⟨zzat_mem 337 (by decide +kernel), zzat_mem 338 (by decide +kernel), by decide⟩⟩⟩
theorem zwC_23 : zzokC 23 := by
  rw [zzokC_of zc_X3_anchor]
  exact ⟨zzat_mem 343 (by decide +kernel), zzat_mem 74 (by decide +kernel), by decide +kernel, by decide +kernel, by decide +kernel, by decide, ⟨fun h => absurd h (by decide), fun _ => ⟨zzat_mem 341 (by decide +kernel), zzat_mem 342 (by decide +kernel), by decide⟩⟩⟩
theorem zwC_24 : zzokC 24 := by
  rw [zzokC_of zc_X3_wed]
  exact ⟨zzat_mem 347 (by decide +kernel), zzat_mem 74 (by decide +kernel), by decide +kernel, by decide +kernel, by decide +kernel, by decide, ⟨fun h => absurd h (by decide), fun _ => ⟨zzat_mem 345 (by decide +kernel), zzat_mem 346 (by decide +kernel), by decide⟩⟩⟩
theorem zwC_25 : zzokC 25 := by
  rw [zzokC_of zc_X3_areTwo]
  exact ⟨zzat_mem 351 (by decide +kernel), zzat_mem 74 (by decide +kernel), by decide +kernel, by decide +kernel, by decide +kernel, by decide, ⟨fun h => absurd h (by decide), fun _ => ⟨zzat_mem 350 (by decide +kernel), zzat_mem 10 (by decide +kernel), by decide⟩⟩⟩
theorem zwC_26 : zzokC 26 := by
  rw [zzokC_of zc_X2_areRoped]
  exact ⟨zzat_mem 355 (by decide +kernel), zzat_mem 75 (by decide +kernel), by decide +kernel, by decide +kernel, by decide +kernel, by decide, ⟨fun h => absurd h (by decide), fun _ => ⟨zzat_mem 354 (by decide +kernel), zzat_mem 11 (by decide +kernel), by decide⟩⟩⟩
theorem zwC_27 : zzokC 27 := by
  rw [zzokC_of zc_X2_tie]
  exact ⟨zzat_mem 360 (by decide +kernel), zzat_mem 75 (by decide +kernel), by decide +kernel, by decide +kernel, by decide +kernel, by decide, ⟨fun h => absurd h (by decide), fun _ => ⟨zzat_mem 359 (by decide +kernel), zzat_mem 12 (by decide +kernel), by decide⟩⟩⟩
theorem zwC_28 : zzokC 28 := by
  rw [zzokC_of zc_X2_findParties]
  exact ⟨zzat_mem 364 (by decide +kernel), zzat_mem 75 (by decide +kernel), by decide +kernel, by decide +kernel, by decide +kernel, by decide, ⟨fun h => absurd h (by decide), fun _ => ⟨zzat_mem 363 (by decide +kernel), zzat_mem 13 (by decide +kernel), by decide⟩⟩⟩
theorem zwC_29 : zzokC 29 := by
  rw [zzokC_of zc_X2_tiedTo]
  exact ⟨zzat_mem 368 (by decide +kernel), zzat_mem 75 (by decide +kernel), by decide +kernel, by decide +kernel, by decide +kernel, by decide, ⟨fun h => absurd h (by decide), fun _ => ⟨zzat_mem 367 (by decide +kernel), zzat_mem 14 (by decide +kernel), by decide⟩⟩⟩
theorem zwC_30 : zzokC 30 := by
  rw [zzokC_of zc_X3_axe]
  exact ⟨zzat_mem 372 (by decide +kernel), zzat_mem 74 (by decide +kernel), by decide +kernel, by decide +kernel, by decide +kernel, by decide, ⟨fun h => absurd h (by decide), fun _ => ⟨zzat_mem 370 (by decide +kernel), zzat_mem 371 (by decide +kernel), by decide⟩⟩⟩
theorem zwC_31 : zzokC 31 := by
  rw [zzokC_of zc_X2_cut]
  exact ⟨zzat_mem 376 (by decide +kernel), zzat_mem 75 (by decide +kernel), by decide +kernel, by decide +kernel, by decide +kernel, by decide, ⟨fun h => absurd h (by decide), fun _ => ⟨zzat_mem 375 (by decide +kernel), zzat_mem 15 (by decide +kernel), by decide⟩⟩⟩
theorem zwC_32 : zzokC 32 := by
  rw [zzokC_of zc_X3_day]
  exact ⟨zzat_mem 380 (by decide +kernel), zzat_mem 74 (by decide +kernel), by decide +kernel, by decide +kernel, by decide +kernel, by decide, ⟨fun h => absurd h (by decide), fun _ => ⟨zzat_mem 378 (by decide +kernel), zzat_mem 379 (by decide +kernel), by decide⟩⟩⟩
theorem zwC_33 : zzokC 33 := by
  rw [zzokC_of zc_X2_drift]
  exact ⟨zzat_mem 384 (by decide +kernel), zzat_mem 75 (by decide +kernel), by decide +kernel, by decide +kernel, by decide +kernel, by decide, ⟨fun h => absurd h (by decide), fun _ => ⟨zzat_mem 383 (by decide +kernel), zzat_mem 16 (by decide +kernel), by decide⟩⟩⟩
theorem zwC_34 : zzokC 34 := by
  rw [zzokC_of zc_X2_leads]
  exact ⟨zzat_mem 388 (by decide +kernel), zzat_mem 75 (by decide +kernel), by decide +kernel, by decide +kernel, by decide +kernel, by decide, ⟨fun h => absurd h (by decide), fun _ => ⟨zzat_mem 387 (by decide +kernel), zzat_mem 17 (by decide +kernel), by decide⟩⟩⟩
theorem zwC_35 : zzokC 35 := by
  rw [zzokC_of zc_X2_moves]
  exact ⟨zzat_mem 392 (by decide +kernel), zzat_mem 75 (by decide +kernel), by decide +kernel, by decide +kernel, by decide +kernel, by decide, ⟨fun h => absurd h (by decide), fun _ => ⟨zzat_mem 391 (by decide +kernel), zzat_mem 18 (by decide +kernel), by decide⟩⟩⟩
theorem zwC_36 : zzokC 36 := by
  rw [zzokC_of zc_X2_stepOf]
  exact ⟨zzat_mem 396 (by decide +kernel), zzat_mem 75 (by decide +kernel), by decide +kernel, by decide +kernel, by decide +kernel, by decide, ⟨fun h => absurd h (by decide), fun _ => ⟨zzat_mem 395 (by decide +kernel), zzat_mem 19 (by decide +kernel), by decide⟩⟩⟩
theorem zwC_37 : zzokC 37 := by
  rw [zzokC_of zc_J6_compare_7cf53]
  exact ⟨zzat_mem 400 (by decide +kernel), zzat_mem 80 (by decide +kernel), by decide +kernel, by decide +kernel, by decide +kernel, by decide, ⟨fun _ => zzat_mem 399 (by decide +kernel), fun h => absurd h (by decide)⟩⟩
theorem zwC_38 : zzokC 38 := by
  rw [zzokC_of zc_X2_isBarred]
  exact ⟨zzat_mem 404 (by decide +kernel), zzat_mem 75 (by decide +kernel), by decide +kernel, by decide +kernel, by decide +kernel, by decide, ⟨fun h => absurd h (by decide), fun _ => ⟨zzat_mem 403 (by decide +kernel), zzat_mem 20 (by decide +kernel), by decide⟩⟩⟩
theorem zwC_39 : zzokC 39 := by
  rw [zzokC_of zc_X3_meet]
  exact ⟨zzat_mem 408 (by decide +kernel), zzat_mem 74 (by decide +kernel), by decide +kernel, by decide +kernel, by decide +kernel, by decide, ⟨fun h => absurd h (by decide), fun _ => ⟨zzat_mem 406 (by decide +kernel), zzat_mem 407 (by decide +kernel), by decide⟩⟩⟩
theorem zwC_40 : zzokC 40 := by
  rw [zzokC_of zc_X3_firstMeeting]
  exact ⟨zzat_mem 412 (by decide +kernel), zzat_mem 74 (by decide +kernel), by decide +kernel, by decide +kernel, by decide +kernel, by decide, ⟨fun h => absurd h (by decide), fun _ => ⟨zzat_mem 411 (by decide +kernel), zzat_mem 21 (by decide +kernel), by decide⟩⟩⟩
theorem zwC_41 : zzokC 41 := by
  rw [zzokC_of zc_X2_copy]
  exact ⟨zzat_mem 416 (by decide +kernel), zzat_mem 75 (by decide +kernel), by decide +kernel, by decide +kernel, by decide +kernel, by decide, ⟨fun h => absurd h (by decide), fun _ => ⟨zzat_mem 415 (by decide +kernel), zzat_mem 22 (by decide +kernel), by decide⟩⟩⟩
theorem zwC_42 : zzokC 42 := by
  rw [zzokC_of zc_X3_anchors]
  exact ⟨zzat_mem 423 (by decide +kernel), zzat_mem 74 (by decide +kernel), by decide +kernel, by decide +kernel, by decide +kernel, by decide, ⟨fun h => absurd h (by decide), fun _ => ⟨zzat_mem 421 (by decide +kernel), zzat_mem 422 (by decide +kernel), by decide⟩⟩⟩
theorem zwC_43 : zzokC 43 := by
  rw [zzokC_of zc_X3_fewestAnchors]
  exact ⟨zzat_mem 427 (by decide +kernel), zzat_mem 74 (by decide +kernel), by decide +kernel, by decide +kernel, by decide +kernel, by decide, ⟨fun h => absurd h (by decide), fun _ => ⟨zzat_mem 426 (by decide +kernel), zzat_mem 23 (by decide +kernel), by decide⟩⟩⟩
theorem zwC_44 : zzokC 44 := by
  rw [zzokC_of zc_J6_bitCount_0f7a4]
  exact ⟨zzat_mem 430 (by decide +kernel), zzat_mem 80 (by decide +kernel), by decide +kernel, by decide +kernel, by decide +kernel, by decide, ⟨fun _ => zzat_mem 429 (by decide +kernel), fun h => absurd h (by decide)⟩⟩
theorem zwC_45 : zzokC 45 := by
  rw [zzokC_of zc_X3_stable]
  exact ⟨zzat_mem 437 (by decide +kernel), zzat_mem 74 (by decide +kernel), by decide +kernel, by decide +kernel, by decide +kernel, by decide, ⟨fun h => absurd h (by decide), fun _ => ⟨zzat_mem 435 (by decide +kernel), zzat_mem 436 (by decide +kernel), by decide⟩⟩⟩
theorem zwC_46 : zzokC 46 := by
  rw [zzokC_of zc_X3_meetAll]
  exact ⟨zzat_mem 441 (by decide +kernel), zzat_mem 74 (by decide +kernel), by decide +kernel, by decide +kernel, by decide +kernel, by decide, ⟨fun h => absurd h (by decide), fun _ => ⟨zzat_mem 440 (by decide +kernel), zzat_mem 24 (by decide +kernel), by decide⟩⟩⟩
theorem zwC_47 : zzokC 47 := by
  rw [zzokC_of zc_J7_fill_53178]
  exact ⟨zzat_mem 444 (by decide +kernel), zzat_mem 82 (by decide +kernel), by decide +kernel, by decide +kernel, by decide +kernel, by decide, ⟨fun _ => zzat_mem 443 (by decide +kernel), fun h => absurd h (by decide)⟩⟩
theorem zwC_48 : zzokC 48 := by
  rw [zzokC_of zc_X2_noteMeetings]
  exact ⟨zzat_mem 448 (by decide +kernel), zzat_mem 75 (by decide +kernel), by decide +kernel, by decide +kernel, by decide +kernel, by decide, ⟨fun h => absurd h (by decide), fun _ => ⟨zzat_mem 447 (by decide +kernel), zzat_mem 25 (by decide +kernel), by decide⟩⟩⟩
theorem zwC_49 : zzokC 49 := by
  rw [zzokC_of zc_X0_solve]
  exact ⟨zzat_mem 452 (by decide +kernel), zzat_mem 77 (by decide +kernel), by decide +kernel, by decide +kernel, by decide +kernel, by decide, ⟨fun h => absurd h (by decide), fun _ => ⟨zzat_mem 451 (by decide +kernel), zzat_mem 26 (by decide +kernel), by decide⟩⟩⟩
theorem zwC_50 : zzokC 50 := by
  rw [zzokC_of zc_X0_goThrough]
  exact ⟨zzat_mem 457 (by decide +kernel), zzat_mem 77 (by decide +kernel), by decide +kernel, by decide +kernel, by decide +kernel, by decide, ⟨fun h => absurd h (by decide), fun _ => ⟨zzat_mem 456 (by decide +kernel), zzat_mem 27 (by decide +kernel), by decide⟩⟩⟩
theorem zwC_51 : zzokC 51 := by
  rw [zzokC_of zc_X0_weigh]
  exact ⟨zzat_mem 461 (by decide +kernel), zzat_mem 77 (by decide +kernel), by decide +kernel, by decide +kernel, by decide +kernel, by decide, ⟨fun h => absurd h (by decide), fun _ => ⟨zzat_mem 460 (by decide +kernel), zzat_mem 28 (by decide +kernel), by decide⟩⟩⟩
theorem zwC_52 : zzokC 52 := by
  rw [zzokC_of zc_X0_isStable]
  exact ⟨zzat_mem 465 (by decide +kernel), zzat_mem 77 (by decide +kernel), by decide +kernel, by decide +kernel, by decide +kernel, by decide, ⟨fun h => absurd h (by decide), fun _ => ⟨zzat_mem 464 (by decide +kernel), zzat_mem 29 (by decide +kernel), by decide⟩⟩⟩
theorem zwC_53 : zzokC 53 := by
  rw [zzokC_of zc_X0_likesBetter]
  exact ⟨zzat_mem 469 (by decide +kernel), zzat_mem 77 (by decide +kernel), by decide +kernel, by decide +kernel, by decide +kernel, by decide, ⟨fun h => absurd h (by decide), fun _ => ⟨zzat_mem 468 (by decide +kernel), zzat_mem 30 (by decide +kernel), by decide⟩⟩⟩
theorem zwC_54 : zzokC 54 := by
  rw [zzokC_of zc_X3_matchesTell]
  exact ⟨zzat_mem 474 (by decide +kernel), zzat_mem 74 (by decide +kernel), by decide +kernel, by decide +kernel, by decide +kernel, by decide, ⟨fun h => absurd h (by decide), fun _ => ⟨zzat_mem 473 (by decide +kernel), zzat_mem 31 (by decide +kernel), by decide⟩⟩⟩
theorem zwC_55 : zzokC 55 := by
  rw [zzokC_of zc_X3_parting]
  exact ⟨zzat_mem 481 (by decide +kernel), zzat_mem 74 (by decide +kernel), by decide +kernel, by decide +kernel, by decide +kernel, by decide, ⟨fun h => absurd h (by decide), fun _ => ⟨zzat_mem 479 (by decide +kernel), zzat_mem 480 (by decide +kernel), by decide⟩⟩⟩
theorem zwC_56 : zzokC 56 := by
  rw [zzokC_of zc_X2_fewestCuts]
  exact ⟨zzat_mem 485 (by decide +kernel), zzat_mem 75 (by decide +kernel), by decide +kernel, by decide +kernel, by decide +kernel, by decide, ⟨fun h => absurd h (by decide), fun _ => ⟨zzat_mem 484 (by decide +kernel), zzat_mem 32 (by decide +kernel), by decide⟩⟩⟩
theorem zwC_57 : zzokC 57 := by
  rw [zzokC_of zc_X2_ropesOutOf]
  exact ⟨zzat_mem 489 (by decide +kernel), zzat_mem 75 (by decide +kernel), by decide +kernel, by decide +kernel, by decide +kernel, by decide, ⟨fun h => absurd h (by decide), fun _ => ⟨zzat_mem 488 (by decide +kernel), zzat_mem 33 (by decide +kernel), by decide⟩⟩⟩
theorem zwC_58 : zzokC 58 := by
  rw [zzokC_of zc_X3_shell]
  exact ⟨zzat_mem 495 (by decide +kernel), zzat_mem 74 (by decide +kernel), by decide +kernel, by decide +kernel, by decide +kernel, by decide, ⟨fun h => absurd h (by decide), fun _ => ⟨zzat_mem 493 (by decide +kernel), zzat_mem 494 (by decide +kernel), by decide⟩⟩⟩
theorem zwC_59 : zzokC 59 := by
  rw [zzokC_of zc_X1_add]
  exact ⟨zzat_mem 499 (by decide +kernel), zzat_mem 76 (by decide +kernel), by decide +kernel, by decide +kernel, by decide +kernel, by decide, ⟨fun h => absurd h (by decide), fun _ => ⟨zzat_mem 498 (by decide +kernel), zzat_mem 34 (by decide +kernel), by decide⟩⟩⟩
theorem zwC_60 : zzokC 60 := by
  rw [zzokC_of zc_X3_forget]
  exact ⟨zzat_mem 503 (by decide +kernel), zzat_mem 74 (by decide +kernel), by decide +kernel, by decide +kernel, by decide +kernel, by decide, ⟨fun h => absurd h (by decide), fun _ => ⟨zzat_mem 501 (by decide +kernel), zzat_mem 502 (by decide +kernel), by decide⟩⟩⟩
theorem zwC_61 : zzokC 61 := by
  rw [zzokC_of zc_X3_guess]
  exact ⟨zzat_mem 507 (by decide +kernel), zzat_mem 74 (by decide +kernel), by decide +kernel, by decide +kernel, by decide +kernel, by decide, ⟨fun h => absurd h (by decide), fun _ => ⟨zzat_mem 505 (by decide +kernel), zzat_mem 506 (by decide +kernel), by decide⟩⟩⟩
theorem zwC_62 : zzokC 62 := by
  rw [zzokC_of zc_X3_shellsWouldHold]
  exact ⟨zzat_mem 511 (by decide +kernel), zzat_mem 74 (by decide +kernel), by decide +kernel, by decide +kernel, by decide +kernel, by decide, ⟨fun h => absurd h (by decide), fun _ => ⟨zzat_mem 510 (by decide +kernel), zzat_mem 35 (by decide +kernel), by decide⟩⟩⟩
theorem zwC_63 : zzokC 63 := by
  rw [zzokC_of zc_X1_lastDay]
  exact ⟨zzat_mem 515 (by decide +kernel), zzat_mem 76 (by decide +kernel), by decide +kernel, by decide +kernel, by decide +kernel, by decide, ⟨fun h => absurd h (by decide), fun _ => ⟨zzat_mem 514 (by decide +kernel), zzat_mem 36 (by decide +kernel), by decide⟩⟩⟩
theorem zwC_64 : zzokC 64 := by
  rw [zzokC_of zc_X1_holdOn]
  exact ⟨zzat_mem 520 (by decide +kernel), zzat_mem 76 (by decide +kernel), by decide +kernel, by decide +kernel, by decide +kernel, by decide, ⟨fun h => absurd h (by decide), fun _ => ⟨zzat_mem 519 (by decide +kernel), zzat_mem 37 (by decide +kernel), by decide⟩⟩⟩
theorem zwC_65 : zzokC 65 := by
  rw [zzokC_of zc_X3_seasons]
  exact ⟨zzat_mem 525 (by decide +kernel), zzat_mem 74 (by decide +kernel), by decide +kernel, by decide +kernel, by decide +kernel, by decide, ⟨fun h => absurd h (by decide), fun _ => ⟨zzat_mem 523 (by decide +kernel), zzat_mem 524 (by decide +kernel), by decide⟩⟩⟩
theorem zwC_66 : zzokC 66 := by
  rw [zzokC_of zc_X3_nextSeed]
  exact ⟨zzat_mem 528 (by decide +kernel), zzat_mem 74 (by decide +kernel), by decide +kernel, by decide +kernel, by decide +kernel, by decide, ⟨fun _ => zzat_mem 527 (by decide +kernel), fun h => absurd h (by decide)⟩⟩
theorem zwC_67 : zzokC 67 := by
  rw [zzokC_of zc_X2_pairsBeside]
  exact ⟨zzat_mem 535 (by decide +kernel), zzat_mem 75 (by decide +kernel), by decide +kernel, by decide +kernel, by decide +kernel, by decide, ⟨fun h => absurd h (by decide), fun _ => ⟨zzat_mem 534 (by decide +kernel), zzat_mem 38 (by decide +kernel), by decide⟩⟩⟩
theorem zwC_68 : zzokC 68 := by
  rw [zzokC_of zc_X3_image]
  exact ⟨zzat_mem 540 (by decide +kernel), zzat_mem 74 (by decide +kernel), by decide +kernel, by decide +kernel, by decide +kernel, by decide, ⟨fun h => absurd h (by decide), fun _ => ⟨zzat_mem 538 (by decide +kernel), zzat_mem 539 (by decide +kernel), by decide⟩⟩⟩
theorem zwC_69 : zzokC 69 := by
  rw [zzokC_of zc_X1_copy]
  exact ⟨zzat_mem 544 (by decide +kernel), zzat_mem 76 (by decide +kernel), by decide +kernel, by decide +kernel, by decide +kernel, by decide, ⟨fun h => absurd h (by decide), fun _ => ⟨zzat_mem 543 (by decide +kernel), zzat_mem 39 (by decide +kernel), by decide⟩⟩⟩
theorem zwC_70 : zzokC 70 := by
  rw [zzokC_of zc_X3_restore]
  exact ⟨zzat_mem 548 (by decide +kernel), zzat_mem 74 (by decide +kernel), by decide +kernel, by decide +kernel, by decide +kernel, by decide, ⟨fun h => absurd h (by decide), fun _ => ⟨zzat_mem 546 (by decide +kernel), zzat_mem 547 (by decide +kernel), by decide⟩⟩⟩
theorem zwC_71 : zzokC 71 := by
  rw [zzokC_of zc_X3_count]
  exact ⟨zzat_mem 552 (by decide +kernel), zzat_mem 74 (by decide +kernel), by decide +kernel, by decide +kernel, by decide +kernel, by decide, ⟨fun h => absurd h (by decide), fun _ => ⟨zzat_mem 550 (by decide +kernel), zzat_mem 551 (by decide +kernel), by decide⟩⟩⟩
theorem zwC_72 : zzokC 72 := by
  rw [zzokC_of zc_X2_parties]
  exact ⟨zzat_mem 556 (by decide +kernel), zzat_mem 75 (by decide +kernel), by decide +kernel, by decide +kernel, by decide +kernel, by decide, ⟨fun h => absurd h (by decide), fun _ => ⟨zzat_mem 555 (by decide +kernel), zzat_mem 40 (by decide +kernel), by decide⟩⟩⟩
theorem zwC_73 : zzokC 73 := by
  rw [zzokC_of zc_X3_digest]
  exact ⟨zzat_mem 560 (by decide +kernel), zzat_mem 74 (by decide +kernel), by decide +kernel, by decide +kernel, by decide +kernel, by decide, ⟨fun h => absurd h (by decide), fun _ => ⟨zzat_mem 558 (by decide +kernel), zzat_mem 559 (by decide +kernel), by decide⟩⟩⟩
theorem zwC_74 : zzokC 74 := by
  rw [zzokC_of zc_X3_digestIslands]
  exact ⟨zzat_mem 566 (by decide +kernel), zzat_mem 74 (by decide +kernel), by decide +kernel, by decide +kernel, by decide +kernel, by decide, ⟨fun h => absurd h (by decide), fun _ => ⟨zzat_mem 565 (by decide +kernel), zzat_mem 41 (by decide +kernel), by decide⟩⟩⟩
theorem zwC_75 : zzokC 75 := by
  rw [zzokC_of zc_X3_digestMatches]
  exact ⟨zzat_mem 571 (by decide +kernel), zzat_mem 74 (by decide +kernel), by decide +kernel, by decide +kernel, by decide +kernel, by decide, ⟨fun h => absurd h (by decide), fun _ => ⟨zzat_mem 570 (by decide +kernel), zzat_mem 42 (by decide +kernel), by decide⟩⟩⟩
theorem zwC_76 : zzokC 76 := by
  rw [zzokC_of zc_X4_letter]
  exact ⟨zzat_mem 691 (by decide +kernel), zzat_mem 78 (by decide +kernel), by decide +kernel, by decide +kernel, by decide +kernel, by decide, ⟨fun h => absurd h (by decide), fun _ => ⟨zzat_mem 689 (by decide +kernel), zzat_mem 690 (by decide +kernel), by decide⟩⟩⟩
theorem zwC_77 : zzokC 77 := by
  rw [zzokC_of zc_X4_in]
  exact ⟨zzat_mem 695 (by decide +kernel), zzat_mem 78 (by decide +kernel), by decide +kernel, by decide +kernel, by decide +kernel, by decide, ⟨fun _ => zzat_mem 694 (by decide +kernel), fun h => absurd h (by decide)⟩⟩
theorem zwC_78 : zzokC 78 := by
  rw [zzokC_of zc_X4_blank]
  exact ⟨zzat_mem 699 (by decide +kernel), zzat_mem 78 (by decide +kernel), by decide +kernel, by decide +kernel, by decide +kernel, by decide, ⟨fun h => absurd h (by decide), fun _ => ⟨zzat_mem 697 (by decide +kernel), zzat_mem 698 (by decide +kernel), by decide⟩⟩⟩
theorem zwC_79 : zzokC 79 := by
  rw [zzokC_of zc_X4_fault]
  exact ⟨zzat_mem 703 (by decide +kernel), zzat_mem 78 (by decide +kernel), by decide +kernel, by decide +kernel, by decide +kernel, by decide, ⟨fun h => absurd h (by decide), fun _ => ⟨zzat_mem 701 (by decide +kernel), zzat_mem 702 (by decide +kernel), by decide⟩⟩⟩
theorem zwC_80 : zzokC 80 := by
  rw [zzokC_of zc_X4_faultOf]
  exact ⟨zzat_mem 707 (by decide +kernel), zzat_mem 78 (by decide +kernel), by decide +kernel, by decide +kernel, by decide +kernel, by decide, ⟨fun h => absurd h (by decide), fun _ => ⟨zzat_mem 706 (by decide +kernel), zzat_mem 43 (by decide +kernel), by decide⟩⟩⟩
theorem zwC_81 : zzokC 81 := by
  rw [zzokC_of zc_X4_sea]
  exact ⟨zzat_mem 711 (by decide +kernel), zzat_mem 78 (by decide +kernel), by decide +kernel, by decide +kernel, by decide +kernel, by decide, ⟨fun h => absurd h (by decide), fun _ => ⟨zzat_mem 709 (by decide +kernel), zzat_mem 710 (by decide +kernel), by decide⟩⟩⟩
theorem zwC_82 : zzokC 82 := by
  rw [zzokC_of zc_X4_currentMany]
  exact ⟨zzat_mem 715 (by decide +kernel), zzat_mem 78 (by decide +kernel), by decide +kernel, by decide +kernel, by decide +kernel, by decide, ⟨fun h => absurd h (by decide), fun _ => ⟨zzat_mem 714 (by decide +kernel), zzat_mem 44 (by decide +kernel), by decide⟩⟩⟩
theorem zwC_83 : zzokC 83 := by
  rw [zzokC_of zc_X4_place]
  exact ⟨zzat_mem 719 (by decide +kernel), zzat_mem 78 (by decide +kernel), by decide +kernel, by decide +kernel, by decide +kernel, by decide, ⟨fun h => absurd h (by decide), fun _ => ⟨zzat_mem 717 (by decide +kernel), zzat_mem 718 (by decide +kernel), by decide⟩⟩⟩
theorem zwC_84 : zzokC 84 := by
  rw [zzokC_of zc_X4_whoIsAt]
  exact ⟨zzat_mem 724 (by decide +kernel), zzat_mem 78 (by decide +kernel), by decide +kernel, by decide +kernel, by decide +kernel, by decide, ⟨fun h => absurd h (by decide), fun _ => ⟨zzat_mem 723 (by decide +kernel), zzat_mem 45 (by decide +kernel), by decide⟩⟩⟩
theorem zwC_85 : zzokC 85 := by
  rw [zzokC_of zc_X4_wind]
  exact ⟨zzat_mem 728 (by decide +kernel), zzat_mem 78 (by decide +kernel), by decide +kernel, by decide +kernel, by decide +kernel, by decide, ⟨fun h => absurd h (by decide), fun _ => ⟨zzat_mem 726 (by decide +kernel), zzat_mem 727 (by decide +kernel), by decide⟩⟩⟩
theorem zwC_86 : zzokC 86 := by
  rw [zzokC_of zc_X4_island]
  exact ⟨zzat_mem 733 (by decide +kernel), zzat_mem 78 (by decide +kernel), by decide +kernel, by decide +kernel, by decide +kernel, by decide, ⟨fun h => absurd h (by decide), fun _ => ⟨zzat_mem 731 (by decide +kernel), zzat_mem 732 (by decide +kernel), by decide⟩⟩⟩
theorem zwC_87 : zzokC 87 := by
  rw [zzokC_of zc_X4_about]
  exact ⟨zzat_mem 739 (by decide +kernel), zzat_mem 78 (by decide +kernel), by decide +kernel, by decide +kernel, by decide +kernel, by decide, ⟨fun h => absurd h (by decide), fun _ => ⟨zzat_mem 737 (by decide +kernel), zzat_mem 738 (by decide +kernel), by decide⟩⟩⟩
theorem zwC_88 : zzokC 88 := by
  rw [zzokC_of zc_X4_isIsland]
  exact ⟨zzat_mem 743 (by decide +kernel), zzat_mem 78 (by decide +kernel), by decide +kernel, by decide +kernel, by decide +kernel, by decide, ⟨fun h => absurd h (by decide), fun _ => ⟨zzat_mem 742 (by decide +kernel), zzat_mem 46 (by decide +kernel), by decide⟩⟩⟩
theorem zwC_89 : zzokC 89 := by
  rw [zzokC_of zc_X4_tell]
  exact ⟨zzat_mem 747 (by decide +kernel), zzat_mem 78 (by decide +kernel), by decide +kernel, by decide +kernel, by decide +kernel, by decide, ⟨fun h => absurd h (by decide), fun _ => ⟨zzat_mem 746 (by decide +kernel), zzat_mem 47 (by decide +kernel), by decide⟩⟩⟩
theorem zwC_90 : zzokC 90 := by
  rw [zzokC_of zc_X4_asItIs]
  exact ⟨zzat_mem 751 (by decide +kernel), zzat_mem 78 (by decide +kernel), by decide +kernel, by decide +kernel, by decide +kernel, by decide, ⟨fun h => absurd h (by decide), fun _ => ⟨zzat_mem 750 (by decide +kernel), zzat_mem 48 (by decide +kernel), by decide⟩⟩⟩
theorem zwC_91 : zzokC 91 := by
  rw [zzokC_of zc_X4_pushOf]
  exact ⟨zzat_mem 755 (by decide +kernel), zzat_mem 78 (by decide +kernel), by decide +kernel, by decide +kernel, by decide +kernel, by decide, ⟨fun h => absurd h (by decide), fun _ => ⟨zzat_mem 754 (by decide +kernel), zzat_mem 49 (by decide +kernel), by decide⟩⟩⟩
theorem zwC_92 : zzokC 92 := by
  rw [zzokC_of zc_X4_partyOf]
  exact ⟨zzat_mem 759 (by decide +kernel), zzat_mem 78 (by decide +kernel), by decide +kernel, by decide +kernel, by decide +kernel, by decide, ⟨fun h => absurd h (by decide), fun _ => ⟨zzat_mem 758 (by decide +kernel), zzat_mem 50 (by decide +kernel), by decide⟩⟩⟩
theorem zwC_93 : zzokC 93 := by
  rw [zzokC_of zc_X4_partyBy]
  exact ⟨zzat_mem 763 (by decide +kernel), zzat_mem 78 (by decide +kernel), by decide +kernel, by decide +kernel, by decide +kernel, by decide, ⟨fun h => absurd h (by decide), fun _ => ⟨zzat_mem 762 (by decide +kernel), zzat_mem 51 (by decide +kernel), by decide⟩⟩⟩
theorem zwC_94 : zzokC 94 := by
  rw [zzokC_of zc_X4_besideBits]
  exact ⟨zzat_mem 767 (by decide +kernel), zzat_mem 78 (by decide +kernel), by decide +kernel, by decide +kernel, by decide +kernel, by decide, ⟨fun h => absurd h (by decide), fun _ => ⟨zzat_mem 766 (by decide +kernel), zzat_mem 52 (by decide +kernel), by decide⟩⟩⟩
theorem zwC_95 : zzokC 95 := by
  rw [zzokC_of zc_X4_areBeside]
  exact ⟨zzat_mem 770 (by decide +kernel), zzat_mem 78 (by decide +kernel), by decide +kernel, by decide +kernel, by decide +kernel, by decide, ⟨fun _ => zzat_mem 769 (by decide +kernel), fun h => absurd h (by decide)⟩⟩
theorem zwC_96 : zzokC 96 := by
  rw [zzokC_of zc_X4_ropedBits]
  exact ⟨zzat_mem 774 (by decide +kernel), zzat_mem 78 (by decide +kernel), by decide +kernel, by decide +kernel, by decide +kernel, by decide, ⟨fun h => absurd h (by decide), fun _ => ⟨zzat_mem 773 (by decide +kernel), zzat_mem 53 (by decide +kernel), by decide⟩⟩⟩
theorem zwC_97 : zzokC 97 := by
  rw [zzokC_of zc_X4_areRoped]
  exact ⟨zzat_mem 778 (by decide +kernel), zzat_mem 78 (by decide +kernel), by decide +kernel, by decide +kernel, by decide +kernel, by decide, ⟨fun h => absurd h (by decide), fun _ => ⟨zzat_mem 777 (by decide +kernel), zzat_mem 54 (by decide +kernel), by decide⟩⟩⟩
theorem zwC_98 : zzokC 98 := by
  rw [zzokC_of zc_X4_as]
  exact ⟨zzat_mem 782 (by decide +kernel), zzat_mem 78 (by decide +kernel), by decide +kernel, by decide +kernel, by decide +kernel, by decide, ⟨fun h => absurd h (by decide), fun _ => ⟨zzat_mem 780 (by decide +kernel), zzat_mem 781 (by decide +kernel), by decide⟩⟩⟩
theorem zwC_99 : zzokC 99 := by
  rw [zzokC_of zc_X4_anchor]
  exact ⟨zzat_mem 786 (by decide +kernel), zzat_mem 78 (by decide +kernel), by decide +kernel, by decide +kernel, by decide +kernel, by decide, ⟨fun h => absurd h (by decide), fun _ => ⟨zzat_mem 784 (by decide +kernel), zzat_mem 785 (by decide +kernel), by decide⟩⟩⟩
theorem zwC_100 : zzokC 100 := by
  rw [zzokC_of zc_X4_wed]
  exact ⟨zzat_mem 790 (by decide +kernel), zzat_mem 78 (by decide +kernel), by decide +kernel, by decide +kernel, by decide +kernel, by decide, ⟨fun h => absurd h (by decide), fun _ => ⟨zzat_mem 788 (by decide +kernel), zzat_mem 789 (by decide +kernel), by decide⟩⟩⟩
theorem zwC_101 : zzokC 101 := by
  rw [zzokC_of zc_X4_arePair]
  exact ⟨zzat_mem 794 (by decide +kernel), zzat_mem 78 (by decide +kernel), by decide +kernel, by decide +kernel, by decide +kernel, by decide, ⟨fun h => absurd h (by decide), fun _ => ⟨zzat_mem 793 (by decide +kernel), zzat_mem 55 (by decide +kernel), by decide⟩⟩⟩
theorem zwC_102 : zzokC 102 := by
  rw [zzokC_of zc_X4_axe]
  exact ⟨zzat_mem 798 (by decide +kernel), zzat_mem 78 (by decide +kernel), by decide +kernel, by decide +kernel, by decide +kernel, by decide, ⟨fun h => absurd h (by decide), fun _ => ⟨zzat_mem 796 (by decide +kernel), zzat_mem 797 (by decide +kernel), by decide⟩⟩⟩
theorem zwC_103 : zzokC 103 := by
  rw [zzokC_of zc_X4_day]
  exact ⟨zzat_mem 802 (by decide +kernel), zzat_mem 78 (by decide +kernel), by decide +kernel, by decide +kernel, by decide +kernel, by decide, ⟨fun h => absurd h (by decide), fun _ => ⟨zzat_mem 800 (by decide +kernel), zzat_mem 801 (by decide +kernel), by decide⟩⟩⟩
theorem zwC_104 : zzokC 104 := by
  rw [zzokC_of zc_X4_passes]
  exact ⟨zzat_mem 806 (by decide +kernel), zzat_mem 78 (by decide +kernel), by decide +kernel, by decide +kernel, by decide +kernel, by decide, ⟨fun h => absurd h (by decide), fun _ => ⟨zzat_mem 805 (by decide +kernel), zzat_mem 56 (by decide +kernel), by decide⟩⟩⟩
theorem zwC_105 : zzokC 105 := by
  rw [zzokC_of zc_X4_isFirst]
  exact ⟨zzat_mem 810 (by decide +kernel), zzat_mem 78 (by decide +kernel), by decide +kernel, by decide +kernel, by decide +kernel, by decide, ⟨fun h => absurd h (by decide), fun _ => ⟨zzat_mem 809 (by decide +kernel), zzat_mem 57 (by decide +kernel), by decide⟩⟩⟩
theorem zwC_106 : zzokC 106 := by
  rw [zzokC_of zc_X4_drifts]
  exact ⟨zzat_mem 814 (by decide +kernel), zzat_mem 78 (by decide +kernel), by decide +kernel, by decide +kernel, by decide +kernel, by decide, ⟨fun h => absurd h (by decide), fun _ => ⟨zzat_mem 813 (by decide +kernel), zzat_mem 58 (by decide +kernel), by decide⟩⟩⟩
theorem zwC_107 : zzokC 107 := by
  rw [zzokC_of zc_X4_meet]
  exact ⟨zzat_mem 818 (by decide +kernel), zzat_mem 78 (by decide +kernel), by decide +kernel, by decide +kernel, by decide +kernel, by decide, ⟨fun h => absurd h (by decide), fun _ => ⟨zzat_mem 816 (by decide +kernel), zzat_mem 817 (by decide +kernel), by decide⟩⟩⟩
theorem zwC_108 : zzokC 108 := by
  rw [zzokC_of zc_X4_meetBy]
  exact ⟨zzat_mem 822 (by decide +kernel), zzat_mem 78 (by decide +kernel), by decide +kernel, by decide +kernel, by decide +kernel, by decide, ⟨fun h => absurd h (by decide), fun _ => ⟨zzat_mem 821 (by decide +kernel), zzat_mem 59 (by decide +kernel), by decide⟩⟩⟩
theorem zwC_109 : zzokC 109 := by
  rw [zzokC_of zc_X4_anchors]
  exact ⟨zzat_mem 826 (by decide +kernel), zzat_mem 78 (by decide +kernel), by decide +kernel, by decide +kernel, by decide +kernel, by decide, ⟨fun h => absurd h (by decide), fun _ => ⟨zzat_mem 824 (by decide +kernel), zzat_mem 825 (by decide +kernel), by decide⟩⟩⟩
theorem zwC_110 : zzokC 110 := by
  rw [zzokC_of zc_X4_anchorsOf]
  exact ⟨zzat_mem 831 (by decide +kernel), zzat_mem 78 (by decide +kernel), by decide +kernel, by decide +kernel, by decide +kernel, by decide, ⟨fun h => absurd h (by decide), fun _ => ⟨zzat_mem 830 (by decide +kernel), zzat_mem 60 (by decide +kernel), by decide⟩⟩⟩
theorem zwC_111 : zzokC 111 := by
  rw [zzokC_of zc_X4_ones]
  exact ⟨zzat_mem 834 (by decide +kernel), zzat_mem 78 (by decide +kernel), by decide +kernel, by decide +kernel, by decide +kernel, by decide, ⟨fun _ => zzat_mem 833 (by decide +kernel), fun h => absurd h (by decide)⟩⟩
theorem zwC_112 : zzokC 112 := by
  rw [zzokC_of zc_X4_stable]
  exact ⟨zzat_mem 838 (by decide +kernel), zzat_mem 78 (by decide +kernel), by decide +kernel, by decide +kernel, by decide +kernel, by decide, ⟨fun h => absurd h (by decide), fun _ => ⟨zzat_mem 836 (by decide +kernel), zzat_mem 837 (by decide +kernel), by decide⟩⟩⟩
theorem zwC_113 : zzokC 113 := by
  rw [zzokC_of zc_X4_layStable]
  exact ⟨zzat_mem 844 (by decide +kernel), zzat_mem 78 (by decide +kernel), by decide +kernel, by decide +kernel, by decide +kernel, by decide, ⟨fun h => absurd h (by decide), fun _ => ⟨zzat_mem 843 (by decide +kernel), zzat_mem 61 (by decide +kernel), by decide⟩⟩⟩
theorem zwC_114 : zzokC 114 := by
  rw [zzokC_of zc_X4_isMatch]
  exact ⟨zzat_mem 848 (by decide +kernel), zzat_mem 78 (by decide +kernel), by decide +kernel, by decide +kernel, by decide +kernel, by decide, ⟨fun h => absurd h (by decide), fun _ => ⟨zzat_mem 847 (by decide +kernel), zzat_mem 62 (by decide +kernel), by decide⟩⟩⟩
theorem zwC_115 : zzokC 115 := by
  rw [zzokC_of zc_X4_isStable]
  exact ⟨zzat_mem 852 (by decide +kernel), zzat_mem 78 (by decide +kernel), by decide +kernel, by decide +kernel, by decide +kernel, by decide, ⟨fun h => absurd h (by decide), fun _ => ⟨zzat_mem 851 (by decide +kernel), zzat_mem 63 (by decide +kernel), by decide⟩⟩⟩
theorem zwC_116 : zzokC 116 := by
  rw [zzokC_of zc_X4_likes]
  exact ⟨zzat_mem 856 (by decide +kernel), zzat_mem 78 (by decide +kernel), by decide +kernel, by decide +kernel, by decide +kernel, by decide, ⟨fun h => absurd h (by decide), fun _ => ⟨zzat_mem 855 (by decide +kernel), zzat_mem 64 (by decide +kernel), by decide⟩⟩⟩
theorem zwC_117 : zzokC 117 := by
  rw [zzokC_of zc_X4_copy]
  exact ⟨zzat_mem 859 (by decide +kernel), zzat_mem 78 (by decide +kernel), by decide +kernel, by decide +kernel, by decide +kernel, by decide, ⟨fun _ => zzat_mem 858 (by decide +kernel), fun h => absurd h (by decide)⟩⟩
theorem zwC_118 : zzokC 118 := by
  rw [zzokC_of zc_X4_tellStable]
  exact ⟨zzat_mem 863 (by decide +kernel), zzat_mem 78 (by decide +kernel), by decide +kernel, by decide +kernel, by decide +kernel, by decide, ⟨fun h => absurd h (by decide), fun _ => ⟨zzat_mem 862 (by decide +kernel), zzat_mem 65 (by decide +kernel), by decide⟩⟩⟩
theorem zwC_119 : zzokC 119 := by
  rw [zzokC_of zc_X4_parting]
  exact ⟨zzat_mem 867 (by decide +kernel), zzat_mem 78 (by decide +kernel), by decide +kernel, by decide +kernel, by decide +kernel, by decide, ⟨fun h => absurd h (by decide), fun _ => ⟨zzat_mem 865 (by decide +kernel), zzat_mem 866 (by decide +kernel), by decide⟩⟩⟩
theorem zwC_120 : zzokC 120 := by
  rw [zzokC_of zc_X4_shell]
  exact ⟨zzat_mem 871 (by decide +kernel), zzat_mem 78 (by decide +kernel), by decide +kernel, by decide +kernel, by decide +kernel, by decide, ⟨fun h => absurd h (by decide), fun _ => ⟨zzat_mem 869 (by decide +kernel), zzat_mem 870 (by decide +kernel), by decide⟩⟩⟩
theorem zwC_121 : zzokC 121 := by
  rw [zzokC_of zc_X4_forget]
  exact ⟨zzat_mem 876 (by decide +kernel), zzat_mem 78 (by decide +kernel), by decide +kernel, by decide +kernel, by decide +kernel, by decide, ⟨fun h => absurd h (by decide), fun _ => ⟨zzat_mem 874 (by decide +kernel), zzat_mem 875 (by decide +kernel), by decide⟩⟩⟩
theorem zwC_122 : zzokC 122 := by
  rw [zzokC_of zc_X4_guess]
  exact ⟨zzat_mem 880 (by decide +kernel), zzat_mem 78 (by decide +kernel), by decide +kernel, by decide +kernel, by decide +kernel, by decide, ⟨fun h => absurd h (by decide), fun _ => ⟨zzat_mem 878 (by decide +kernel), zzat_mem 879 (by decide +kernel), by decide⟩⟩⟩
theorem zwC_123 : zzokC 123 := by
  rw [zzokC_of zc_X4_guessOf]
  exact ⟨zzat_mem 884 (by decide +kernel), zzat_mem 78 (by decide +kernel), by decide +kernel, by decide +kernel, by decide +kernel, by decide, ⟨fun h => absurd h (by decide), fun _ => ⟨zzat_mem 883 (by decide +kernel), zzat_mem 66 (by decide +kernel), by decide⟩⟩⟩
theorem zwC_124 : zzokC 124 := by
  rw [zzokC_of zc_X4_isSo]
  exact ⟨zzat_mem 888 (by decide +kernel), zzat_mem 78 (by decide +kernel), by decide +kernel, by decide +kernel, by decide +kernel, by decide, ⟨fun h => absurd h (by decide), fun _ => ⟨zzat_mem 887 (by decide +kernel), zzat_mem 67 (by decide +kernel), by decide⟩⟩⟩
theorem zwC_125 : zzokC 125 := by
  rw [zzokC_of zc_X4_seasons]
  exact ⟨zzat_mem 892 (by decide +kernel), zzat_mem 78 (by decide +kernel), by decide +kernel, by decide +kernel, by decide +kernel, by decide, ⟨fun h => absurd h (by decide), fun _ => ⟨zzat_mem 890 (by decide +kernel), zzat_mem 891 (by decide +kernel), by decide⟩⟩⟩
theorem zwC_126 : zzokC 126 := by
  rw [zzokC_of zc_X4_draw]
  exact ⟨zzat_mem 898 (by decide +kernel), zzat_mem 78 (by decide +kernel), by decide +kernel, by decide +kernel, by decide +kernel, by decide, ⟨fun h => absurd h (by decide), fun _ => ⟨zzat_mem 897 (by decide +kernel), zzat_mem 68 (by decide +kernel), by decide⟩⟩⟩
theorem zwC_127 : zzokC 127 := by
  rw [zzokC_of zc_X4_image]
  exact ⟨zzat_mem 906 (by decide +kernel), zzat_mem 78 (by decide +kernel), by decide +kernel, by decide +kernel, by decide +kernel, by decide, ⟨fun h => absurd h (by decide), fun _ => ⟨zzat_mem 904 (by decide +kernel), zzat_mem 905 (by decide +kernel), by decide⟩⟩⟩
theorem zwC_128 : zzokC 128 := by
  rw [zzokC_of zc_X4_restore]
  exact ⟨zzat_mem 910 (by decide +kernel), zzat_mem 78 (by decide +kernel), by decide +kernel, by decide +kernel, by decide +kernel, by decide, ⟨fun h => absurd h (by decide), fun _ => ⟨zzat_mem 908 (by decide +kernel), zzat_mem 909 (by decide +kernel), by decide⟩⟩⟩
theorem zwC_129 : zzokC 129 := by
  rw [zzokC_of zc_X4_count]
  exact ⟨zzat_mem 914 (by decide +kernel), zzat_mem 78 (by decide +kernel), by decide +kernel, by decide +kernel, by decide +kernel, by decide, ⟨fun h => absurd h (by decide), fun _ => ⟨zzat_mem 912 (by decide +kernel), zzat_mem 913 (by decide +kernel), by decide⟩⟩⟩
theorem zwC_130 : zzokC 130 := by
  rw [zzokC_of zc_X4_countOf]
  exact ⟨zzat_mem 918 (by decide +kernel), zzat_mem 78 (by decide +kernel), by decide +kernel, by decide +kernel, by decide +kernel, by decide, ⟨fun h => absurd h (by decide), fun _ => ⟨zzat_mem 917 (by decide +kernel), zzat_mem 69 (by decide +kernel), by decide⟩⟩⟩
theorem zwC_131 : zzokC 131 := by
  rw [zzokC_of zc_X4_partyMany]
  exact ⟨zzat_mem 922 (by decide +kernel), zzat_mem 78 (by decide +kernel), by decide +kernel, by decide +kernel, by decide +kernel, by decide, ⟨fun h => absurd h (by decide), fun _ => ⟨zzat_mem 921 (by decide +kernel), zzat_mem 70 (by decide +kernel), by decide⟩⟩⟩
theorem zwC_132 : zzokC 132 := by
  rw [zzokC_of zc_X4_digest]
  exact ⟨zzat_mem 926 (by decide +kernel), zzat_mem 78 (by decide +kernel), by decide +kernel, by decide +kernel, by decide +kernel, by decide, ⟨fun h => absurd h (by decide), fun _ => ⟨zzat_mem 924 (by decide +kernel), zzat_mem 925 (by decide +kernel), by decide⟩⟩⟩
theorem zwC_133 : zzokC 133 := by
  rw [zzokC_of zc_X4_say]
  exact ⟨zzat_mem 931 (by decide +kernel), zzat_mem 78 (by decide +kernel), by decide +kernel, by decide +kernel, by decide +kernel, by decide, ⟨fun h => absurd h (by decide), fun _ => ⟨zzat_mem 930 (by decide +kernel), zzat_mem 71 (by decide +kernel), by decide⟩⟩⟩
theorem zwC_134 : zzokC 134 := by
  rw [zzokC_of zc_X4_sayIsland]
  exact ⟨zzat_mem 936 (by decide +kernel), zzat_mem 78 (by decide +kernel), by decide +kernel, by decide +kernel, by decide +kernel, by decide, ⟨fun h => absurd h (by decide), fun _ => ⟨zzat_mem 935 (by decide +kernel), zzat_mem 72 (by decide +kernel), by decide⟩⟩⟩
theorem zwC_r0 : ∀ e ∈ ([0, 1, 2, 3, 4, 5, 6, 7, 8, 9, 10, 11, 12, 13, 14, 15] : List Nat), zzokC e := List.forall_mem_cons.mpr ⟨zwC_0, List.forall_mem_cons.mpr ⟨zwC_1, List.forall_mem_cons.mpr ⟨zwC_2, List.forall_mem_cons.mpr ⟨zwC_3, List.forall_mem_cons.mpr ⟨zwC_4, List.forall_mem_cons.mpr ⟨zwC_5, List.forall_mem_cons.mpr ⟨zwC_6, List.forall_mem_cons.mpr ⟨zwC_7, List.forall_mem_cons.mpr ⟨zwC_8, List.forall_mem_cons.mpr ⟨zwC_9, List.forall_mem_cons.mpr ⟨zwC_10, List.forall_mem_cons.mpr ⟨zwC_11, List.forall_mem_cons.mpr ⟨zwC_12, List.forall_mem_cons.mpr ⟨zwC_13, List.forall_mem_cons.mpr ⟨zwC_14, List.forall_mem_cons.mpr ⟨zwC_15, fun _ h => absurd h List.not_mem_nil⟩⟩⟩⟩⟩⟩⟩⟩⟩⟩⟩⟩⟩⟩⟩⟩
theorem zwC_r1 : ∀ e ∈ ([16, 17, 18, 19, 20, 21, 22, 23, 24, 25, 26, 27, 28, 29, 30, 31] : List Nat), zzokC e := List.forall_mem_cons.mpr ⟨zwC_16, List.forall_mem_cons.mpr ⟨zwC_17, List.forall_mem_cons.mpr ⟨zwC_18, List.forall_mem_cons.mpr ⟨zwC_19, List.forall_mem_cons.mpr ⟨zwC_20, List.forall_mem_cons.mpr ⟨zwC_21, List.forall_mem_cons.mpr ⟨zwC_22, List.forall_mem_cons.mpr ⟨zwC_23, List.forall_mem_cons.mpr ⟨zwC_24, List.forall_mem_cons.mpr ⟨zwC_25, List.forall_mem_cons.mpr ⟨zwC_26, List.forall_mem_cons.mpr ⟨zwC_27, List.forall_mem_cons.mpr ⟨zwC_28, List.forall_mem_cons.mpr ⟨zwC_29, List.forall_mem_cons.mpr ⟨zwC_30, List.forall_mem_cons.mpr ⟨zwC_31, fun _ h => absurd h List.not_mem_nil⟩⟩⟩⟩⟩⟩⟩⟩⟩⟩⟩⟩⟩⟩⟩⟩
theorem zwC_r2 : ∀ e ∈ ([32, 33, 34, 35, 36, 37, 38, 39, 40, 41, 42, 43, 44, 45, 46, 47] : List Nat), zzokC e := List.forall_mem_cons.mpr ⟨zwC_32, List.forall_mem_cons.mpr ⟨zwC_33, List.forall_mem_cons.mpr ⟨zwC_34, List.forall_mem_cons.mpr ⟨zwC_35, List.forall_mem_cons.mpr ⟨zwC_36, List.forall_mem_cons.mpr ⟨zwC_37, List.forall_mem_cons.mpr ⟨zwC_38, List.forall_mem_cons.mpr ⟨zwC_39, List.forall_mem_cons.mpr ⟨zwC_40, List.forall_mem_cons.mpr ⟨zwC_41, List.forall_mem_cons.mpr ⟨zwC_42, List.forall_mem_cons.mpr ⟨zwC_43, List.forall_mem_cons.mpr ⟨zwC_44, List.forall_mem_cons.mpr ⟨zwC_45, List.forall_mem_cons.mpr ⟨zwC_46, List.forall_mem_cons.mpr ⟨zwC_47, fun _ h => absurd h List.not_mem_nil⟩⟩⟩⟩⟩⟩⟩⟩⟩⟩⟩⟩⟩⟩⟩⟩
theorem zwC_r3 : ∀ e ∈ ([48, 49, 50, 51, 52, 53, 54, 55, 56, 57, 58, 59, 60, 61, 62, 63] : List Nat), zzokC e := List.forall_mem_cons.mpr ⟨zwC_48, List.forall_mem_cons.mpr ⟨zwC_49, List.forall_mem_cons.mpr ⟨zwC_50, List.forall_mem_cons.mpr ⟨zwC_51, List.forall_mem_cons.mpr ⟨zwC_52, List.forall_mem_cons.mpr ⟨zwC_53, List.forall_mem_cons.mpr ⟨zwC_54, List.forall_mem_cons.mpr ⟨zwC_55, List.forall_mem_cons.mpr ⟨zwC_56, List.forall_mem_cons.mpr ⟨zwC_57, List.forall_mem_cons.mpr ⟨zwC_58, List.forall_mem_cons.mpr ⟨zwC_59, List.forall_mem_cons.mpr ⟨zwC_60, List.forall_mem_cons.mpr ⟨zwC_61, List.forall_mem_cons.mpr ⟨zwC_62, List.forall_mem_cons.mpr ⟨zwC_63, fun _ h => absurd h List.not_mem_nil⟩⟩⟩⟩⟩⟩⟩⟩⟩⟩⟩⟩⟩⟩⟩⟩
theorem zwC_r4 : ∀ e ∈ ([64, 65, 66, 67, 68, 69, 70, 71, 72, 73, 74, 75, 76, 77, 78, 79] : List Nat), zzokC e := List.forall_mem_cons.mpr ⟨zwC_64, List.forall_mem_cons.mpr ⟨zwC_65, List.forall_mem_cons.mpr ⟨zwC_66, List.forall_mem_cons.mpr ⟨zwC_67, List.forall_mem_cons.mpr ⟨zwC_68, List.forall_mem_cons.mpr ⟨zwC_69, List.forall_mem_cons.mpr ⟨zwC_70, List.forall_mem_cons.mpr ⟨zwC_71, List.forall_mem_cons.mpr ⟨zwC_72, List.forall_mem_cons.mpr ⟨zwC_73, List.forall_mem_cons.mpr ⟨zwC_74, List.forall_mem_cons.mpr ⟨zwC_75, List.forall_mem_cons.mpr ⟨zwC_76, List.forall_mem_cons.mpr ⟨zwC_77, List.forall_mem_cons.mpr ⟨zwC_78, List.forall_mem_cons.mpr ⟨zwC_79, fun _ h => absurd h List.not_mem_nil⟩⟩⟩⟩⟩⟩⟩⟩⟩⟩⟩⟩⟩⟩⟩⟩
theorem zwC_r5 : ∀ e ∈ ([80, 81, 82, 83, 84, 85, 86, 87, 88, 89, 90, 91, 92, 93, 94, 95] : List Nat), zzokC e := List.forall_mem_cons.mpr ⟨zwC_80, List.forall_mem_cons.mpr ⟨zwC_81, List.forall_mem_cons.mpr ⟨zwC_82, List.forall_mem_cons.mpr ⟨zwC_83, List.forall_mem_cons.mpr ⟨zwC_84, List.forall_mem_cons.mpr ⟨zwC_85, List.forall_mem_cons.mpr ⟨zwC_86, List.forall_mem_cons.mpr ⟨zwC_87, List.forall_mem_cons.mpr ⟨zwC_88, List.forall_mem_cons.mpr ⟨zwC_89, List.forall_mem_cons.mpr ⟨zwC_90, List.forall_mem_cons.mpr ⟨zwC_91, List.forall_mem_cons.mpr ⟨zwC_92, List.forall_mem_cons.mpr ⟨zwC_93, List.forall_mem_cons.mpr ⟨zwC_94, List.forall_mem_cons.mpr ⟨zwC_95, fun _ h => absurd h List.not_mem_nil⟩⟩⟩⟩⟩⟩⟩⟩⟩⟩⟩⟩⟩⟩⟩⟩
theorem zwC_r6 : ∀ e ∈ ([96, 97, 98, 99, 100, 101, 102, 103, 104, 105, 106, 107, 108, 109, 110, 111] : List Nat), zzokC e := List.forall_mem_cons.mpr ⟨zwC_96, List.forall_mem_cons.mpr ⟨zwC_97, List.forall_mem_cons.mpr ⟨zwC_98, List.forall_mem_cons.mpr ⟨zwC_99, List.forall_mem_cons.mpr ⟨zwC_100, List.forall_mem_cons.mpr ⟨zwC_101, List.forall_mem_cons.mpr ⟨zwC_102, List.forall_mem_cons.mpr ⟨zwC_103, List.forall_mem_cons.mpr ⟨zwC_104, List.forall_mem_cons.mpr ⟨zwC_105, List.forall_mem_cons.mpr ⟨zwC_106, List.forall_mem_cons.mpr ⟨zwC_107, List.forall_mem_cons.mpr ⟨zwC_108, List.forall_mem_cons.mpr ⟨zwC_109, List.forall_mem_cons.mpr ⟨zwC_110, List.forall_mem_cons.mpr ⟨zwC_111, fun _ h => absurd h List.not_mem_nil⟩⟩⟩⟩⟩⟩⟩⟩⟩⟩⟩⟩⟩⟩⟩⟩
theorem zwC_r7 : ∀ e ∈ ([112, 113, 114, 115, 116, 117, 118, 119, 120, 121, 122, 123, 124, 125, 126, 127] : List Nat), zzokC e := List.forall_mem_cons.mpr ⟨zwC_112, List.forall_mem_cons.mpr ⟨zwC_113, List.forall_mem_cons.mpr ⟨zwC_114, List.forall_mem_cons.mpr ⟨zwC_115, List.forall_mem_cons.mpr ⟨zwC_116, List.forall_mem_cons.mpr ⟨zwC_117, List.forall_mem_cons.mpr ⟨zwC_118, List.forall_mem_cons.mpr ⟨zwC_119, List.forall_mem_cons.mpr ⟨zwC_120, List.forall_mem_cons.mpr ⟨zwC_121, List.forall_mem_cons.mpr ⟨zwC_122, List.forall_mem_cons.mpr ⟨zwC_123, List.forall_mem_cons.mpr ⟨zwC_124, List.forall_mem_cons.mpr ⟨zwC_125, List.forall_mem_cons.mpr ⟨zwC_126, List.forall_mem_cons.mpr ⟨zwC_127, fun _ h => absurd h List.not_mem_nil⟩⟩⟩⟩⟩⟩⟩⟩⟩⟩⟩⟩⟩⟩⟩⟩
theorem zwC_r8 : ∀ e ∈ ([128, 129, 130, 131, 132, 133, 134] : List Nat), zzokC e := List.forall_mem_cons.mpr ⟨zwC_128, List.forall_mem_cons.mpr ⟨zwC_129, List.forall_mem_cons.mpr ⟨zwC_130, List.forall_mem_cons.mpr ⟨zwC_131, List.forall_mem_cons.mpr ⟨zwC_132, List.forall_mem_cons.mpr ⟨zwC_133, List.forall_mem_cons.mpr ⟨zwC_134, fun _ h => absurd h List.not_mem_nil⟩⟩⟩⟩⟩⟩⟩
set_option maxRecDepth 100000 in
theorem zwC_all : ∀ e ∈ List.range 135, zzokC e := by
  have h : ∀ e ∈ ([0, 1, 2, 3, 4, 5, 6, 7, 8, 9, 10, 11, 12, 13, 14, 15] ++ ([16, 17, 18, 19, 20, 21, 22, 23, 24, 25, 26, 27, 28, 29, 30, 31] ++ ([32, 33, 34, 35, 36, 37, 38, 39, 40, 41, 42, 43, 44, 45, 46, 47] ++ ([48, 49, 50, 51, 52, 53, 54, 55, 56, 57, 58, 59, 60, 61, 62, 63] ++ ([64, 65, 66, 67, 68, 69, 70, 71, 72, 73, 74, 75, 76, 77, 78, 79] ++ ([80, 81, 82, 83, 84, 85, 86, 87, 88, 89, 90, 91, 92, 93, 94, 95] ++ ([96, 97, 98, 99, 100, 101, 102, 103, 104, 105, 106, 107, 108, 109, 110, 111] ++ ([112, 113, 114, 115, 116, 117, 118, 119, 120, 121, 122, 123, 124, 125, 126, 127] ++ ([128, 129, 130, 131, 132, 133, 134])))))))) : List Nat), zzokC e := List.forall_mem_append.mpr ⟨zwC_r0, List.forall_mem_append.mpr ⟨zwC_r1, List.forall_mem_append.mpr ⟨zwC_r2, List.forall_mem_append.mpr ⟨zwC_r3, List.forall_mem_append.mpr ⟨zwC_r4, List.forall_mem_append.mpr ⟨zwC_r5, List.forall_mem_append.mpr ⟨zwC_r6, List.forall_mem_append.mpr ⟨zwC_r7, zwC_r8⟩⟩⟩⟩⟩⟩⟩⟩
  exact fun e he => h e (by first | exact he | (rw [show ([0, 1, 2, 3, 4, 5, 6, 7, 8, 9, 10, 11, 12, 13, 14, 15] ++ ([16, 17, 18, 19, 20, 21, 22, 23, 24, 25, 26, 27, 28, 29, 30, 31] ++ ([32, 33, 34, 35, 36, 37, 38, 39, 40, 41, 42, 43, 44, 45, 46, 47] ++ ([48, 49, 50, 51, 52, 53, 54, 55, 56, 57, 58, 59, 60, 61, 62, 63] ++ ([64, 65, 66, 67, 68, 69, 70, 71, 72, 73, 74, 75, 76, 77, 78, 79] ++ ([80, 81, 82, 83, 84, 85, 86, 87, 88, 89, 90, 91, 92, 93, 94, 95] ++ ([96, 97, 98, 99, 100, 101, 102, 103, 104, 105, 106, 107, 108, 109, 110, 111] ++ ([112, 113, 114, 115, 116, 117, 118, 119, 120, 121, 122, 123, 124, 125, 126, 127] ++ ([128, 129, 130, 131, 132, 133, 134])))))))) : List Nat) = List.range 135 from rfl]; exact he))
theorem zwM_0 : zzokM ((5, 13), (0, 0)) := by
  rw [zzokM_of zc_X3_letter]
  exact ⟨by decide, Or.inl ⟨rfl, zzat_mem 244 (by decide +kernel), rfl⟩⟩
theorem zwM_1 : zzokM ((5, 18), (0, 1)) := by
  rw [zzokM_of zc_X3_blank]
  exact ⟨by decide, Or.inl ⟨rfl, zzat_mem 248 (by decide +kernel), rfl⟩⟩
theorem zwM_2 : zzokM ((5, 23), (0, 2)) := by
  rw [zzokM_of zc_X3_fault]
  exact ⟨by decide, Or.inl ⟨rfl, zzat_mem 252 (by decide +kernel), rfl⟩⟩
theorem zwM_3 : zzokM ((3, 69), (2, 3)) := by
  rw [zzokM_of zc_X3_isSign]
  exact ⟨by decide, Or.inr (Or.inr ⟨rfl, zzat_mem 259 (by decide +kernel), rfl⟩)⟩
theorem zwM_4 : zzokM ((5, 27), (0, 4)) := by
  rw [zzokM_of zc_X3_sea]
  exact ⟨by decide, Or.inl ⟨rfl, zzat_mem 262 (by decide +kernel), rfl⟩⟩
theorem zwM_5 : zzokM ((3, 73), (0, 2)) := by
  rw [zzokM_of zc_X3_fault]
  exact ⟨by decide, Or.inl ⟨rfl, zzat_mem 266 (by decide +kernel), rfl⟩⟩
theorem zwM_6 : zzokM ((3, 77), (1, 5)) := by
  rw [zzokM_of zc_X2_clear]
  exact ⟨by decide, Or.inr (Or.inl ⟨rfl, zzatN_mem 267 (by decide +kernel), rfl⟩)⟩
theorem zwM_7 : zzokM ((3, 83), (2, 6)) := by
  rw [zzokM_of zc_X3_currentOf]
  exact ⟨by decide, Or.inr (Or.inr ⟨rfl, zzat_mem 271 (by decide +kernel), rfl⟩)⟩
theorem zwM_8 : zzokM ((3, 90), (1, 7)) := by
  rw [zzokM_of zc_X2_currents]
  exact ⟨by decide, Or.inr (Or.inl ⟨rfl, zzatN_mem 274 (by decide +kernel), rfl⟩)⟩
theorem zwM_9 : zzokM ((5, 31), (0, 8)) := by
  rw [zzokM_of zc_X3_place]
  exact ⟨by decide, Or.inl ⟨rfl, zzat_mem 278 (by decide +kernel), rfl⟩⟩
theorem zwM_10 : zzokM ((3, 93), (0, 9)) := by
  rw [zzokM_of zc_X3_isPlace]
  exact ⟨by decide, Or.inl ⟨rfl, zzat_mem 282 (by decide +kernel), rfl⟩⟩
theorem zwM_11 : zzokM ((3, 96), (1, 10)) := by
  rw [zzokM_of zc_X2_islandAt]
  exact ⟨by decide, Or.inr (Or.inl ⟨rfl, zzatN_mem 286 (by decide +kernel), rfl⟩)⟩
theorem zwM_12 : zzokM ((5, 36), (0, 11)) := by
  rw [zzokM_of zc_X3_wind]
  exact ⟨by decide, Or.inl ⟨rfl, zzat_mem 290 (by decide +kernel), rfl⟩⟩
theorem zwM_13 : zzokM ((5, 40), (0, 12)) := by
  rw [zzokM_of zc_X3_island]
  exact ⟨by decide, Or.inl ⟨rfl, zzat_mem 294 (by decide +kernel), rfl⟩⟩
theorem zwM_14 : zzokM ((3, 102), (2, 13)) := by
  rw [zzokM_of zc_X3_isKind]
  exact ⟨by decide, Or.inr (Or.inr ⟨rfl, zzat_mem 298 (by decide +kernel), rfl⟩)⟩
theorem zwM_15 : zzokM ((3, 108), (1, 14)) := by
  rw [zzokM_of zc_X2_add]
  exact ⟨by decide, Or.inr (Or.inl ⟨rfl, zzatN_mem 301 (by decide +kernel), rfl⟩)⟩
theorem zwM_16 : zzokM ((5, 45), (0, 15)) := by
  rw [zzokM_of zc_X3_about]
  exact ⟨by decide, Or.inl ⟨rfl, zzat_mem 305 (by decide +kernel), rfl⟩⟩
theorem zwM_17 : zzokM ((3, 112), (0, 16)) := by
  rw [zzokM_of zc_X3_isIsland]
  exact ⟨by decide, Or.inl ⟨rfl, zzat_mem 309 (by decide +kernel), rfl⟩⟩
theorem zwM_18 : zzokM ((3, 124), (1, 17)) := by
  rw [zzokM_of zc_X2_pushOf]
  exact ⟨by decide, Or.inr (Or.inl ⟨rfl, zzatN_mem 313 (by decide +kernel), rfl⟩)⟩
theorem zwM_19 : zzokM ((3, 127), (1, 18)) := by
  rw [zzokM_of zc_X2_isAnchored]
  exact ⟨by decide, Or.inr (Or.inl ⟨rfl, zzatN_mem 321 (by decide +kernel), rfl⟩)⟩
theorem zwM_20 : zzokM ((3, 133), (1, 19)) := by
  rw [zzokM_of zc_X2_neighbours]
  exact ⟨by decide, Or.inr (Or.inl ⟨rfl, zzatN_mem 325 (by decide +kernel), rfl⟩)⟩
theorem zwM_21 : zzokM ((2, 65), (0, 20)) := by
  rw [zzokM_of zc_X2_areBeside]
  exact ⟨by decide, Or.inl ⟨rfl, zzat_mem 329 (by decide +kernel), rfl⟩⟩
theorem zwM_22 : zzokM ((2, 61), (2, 21)) := by
  rw [zzokM_of zc_X2_stepped]
  exact ⟨by decide, Or.inr (Or.inr ⟨rfl, zzat_mem 333 (by decide +kernel), rfl⟩)⟩
theorem zwM_23 : zzokM ((5, 49), (0, 22)) := by
  rw [zzokM_of zc_X3_as]
  exact ⟨by decide, Or.inl ⟨rfl, zzat_mem 336 (by decide +kernel), rfl⟩⟩
theorem zwM_24 : zzokM ((5, 53), (0, 23)) := by
  rw [zzokM_of zc_X3_anchor]
  exact ⟨by decide, Or.inl ⟨rfl, zzat_mem 340 (by decide +kernel), rfl⟩⟩
theorem zwM_25 : zzokM ((5, 58), (0, 24)) := by
  rw [zzokM_of zc_X3_wed]
  exact ⟨by decide, Or.inl ⟨rfl, zzat_mem 344 (by decide +kernel), rfl⟩⟩
theorem zwM_26 : zzokM ((3, 142), (0, 25)) := by
  rw [zzokM_of zc_X3_areTwo]
  exact ⟨by decide, Or.inl ⟨rfl, zzat_mem 348 (by decide +kernel), rfl⟩⟩
theorem zwM_27 : zzokM ((3, 146), (1, 26)) := by
  rw [zzokM_of zc_X2_areRoped]
  exact ⟨by decide, Or.inr (Or.inl ⟨rfl, zzatN_mem 352 (by decide +kernel), rfl⟩)⟩
theorem zwM_28 : zzokM ((3, 149), (1, 20)) := by
  rw [zzokM_of zc_X2_areBeside]
  exact ⟨by decide, Or.inr (Or.inl ⟨rfl, zzatN_mem 356 (by decide +kernel), rfl⟩)⟩
theorem zwM_29 : zzokM ((3, 155), (1, 27)) := by
  rw [zzokM_of zc_X2_tie]
  exact ⟨by decide, Or.inr (Or.inl ⟨rfl, zzatN_mem 357 (by decide +kernel), rfl⟩)⟩
theorem zwM_30 : zzokM ((2, 78), (0, 28)) := by
  rw [zzokM_of zc_X2_findParties]
  exact ⟨by decide, Or.inl ⟨rfl, zzat_mem 361 (by decide +kernel), rfl⟩⟩
theorem zwM_31 : zzokM ((2, 81), (0, 29)) := by
  rw [zzokM_of zc_X2_tiedTo]
  exact ⟨by decide, Or.inl ⟨rfl, zzat_mem 365 (by decide +kernel), rfl⟩⟩
theorem zwM_32 : zzokM ((5, 62), (0, 30)) := by
  rw [zzokM_of zc_X3_axe]
  exact ⟨by decide, Or.inl ⟨rfl, zzat_mem 369 (by decide +kernel), rfl⟩⟩
theorem zwM_33 : zzokM ((3, 159), (1, 31)) := by
  rw [zzokM_of zc_X2_cut]
  exact ⟨by decide, Or.inr (Or.inl ⟨rfl, zzatN_mem 373 (by decide +kernel), rfl⟩)⟩
theorem zwM_34 : zzokM ((5, 66), (0, 32)) := by
  rw [zzokM_of zc_X3_day]
  exact ⟨by decide, Or.inl ⟨rfl, zzat_mem 377 (by decide +kernel), rfl⟩⟩
theorem zwM_35 : zzokM ((3, 162), (1, 33)) := by
  rw [zzokM_of zc_X2_drift]
  exact ⟨by decide, Or.inr (Or.inl ⟨rfl, zzatN_mem 381 (by decide +kernel), rfl⟩)⟩
theorem zwM_36 : zzokM ((2, 84), (0, 34)) := by
  rw [zzokM_of zc_X2_leads]
  exact ⟨by decide, Or.inl ⟨rfl, zzat_mem 385 (by decide +kernel), rfl⟩⟩
theorem zwM_37 : zzokM ((2, 96), (0, 35)) := by
  rw [zzokM_of zc_X2_moves]
  exact ⟨by decide, Or.inl ⟨rfl, zzat_mem 389 (by decide +kernel), rfl⟩⟩
theorem zwM_38 : zzokM ((2, 99), (0, 36)) := by
  rw [zzokM_of zc_X2_stepOf]
  exact ⟨by decide, Or.inl ⟨rfl, zzat_mem 393 (by decide +kernel), rfl⟩⟩
theorem zwM_39 : zzokM ((2, 105), (0, 17)) := by
  rw [zzokM_of zc_X2_pushOf]
  exact ⟨by decide, Or.inl ⟨rfl, zzat_mem 397 (by decide +kernel), rfl⟩⟩
theorem zwM_40 : zzokM ((2, 108), (2, 37)) := by
  rw [zzokM_of zc_J6_compare_7cf53]
  exact ⟨by decide, Or.inr (Or.inr ⟨rfl, zzat_mem 398 (by decide +kernel), rfl⟩)⟩
theorem zwM_41 : zzokM ((2, 102), (0, 38)) := by
  rw [zzokM_of zc_X2_isBarred]
  exact ⟨by decide, Or.inl ⟨rfl, zzat_mem 401 (by decide +kernel), rfl⟩⟩
theorem zwM_42 : zzokM ((5, 70), (0, 39)) := by
  rw [zzokM_of zc_X3_meet]
  exact ⟨by decide, Or.inl ⟨rfl, zzat_mem 405 (by decide +kernel), rfl⟩⟩
theorem zwM_43 : zzokM ((3, 165), (0, 40)) := by
  rw [zzokM_of zc_X3_firstMeeting]
  exact ⟨by decide, Or.inl ⟨rfl, zzat_mem 409 (by decide +kernel), rfl⟩⟩
theorem zwM_44 : zzokM ((3, 198), (1, 41)) := by
  rw [zzokM_of zc_X2_copy]
  exact ⟨by decide, Or.inr (Or.inl ⟨rfl, zzatN_mem 413 (by decide +kernel), rfl⟩)⟩
theorem zwM_45 : zzokM ((5, 74), (0, 42)) := by
  rw [zzokM_of zc_X3_anchors]
  exact ⟨by decide, Or.inl ⟨rfl, zzat_mem 420 (by decide +kernel), rfl⟩⟩
theorem zwM_46 : zzokM ((3, 169), (0, 43)) := by
  rw [zzokM_of zc_X3_fewestAnchors]
  exact ⟨by decide, Or.inl ⟨rfl, zzat_mem 424 (by decide +kernel), rfl⟩⟩
theorem zwM_47 : zzokM ((3, 172), (2, 44)) := by
  rw [zzokM_of zc_J6_bitCount_0f7a4]
  exact ⟨by decide, Or.inr (Or.inr ⟨rfl, zzat_mem 428 (by decide +kernel), rfl⟩)⟩
theorem zwM_48 : zzokM ((5, 79), (0, 45)) := by
  rw [zzokM_of zc_X3_stable]
  exact ⟨by decide, Or.inl ⟨rfl, zzat_mem 434 (by decide +kernel), rfl⟩⟩
theorem zwM_49 : zzokM ((3, 177), (0, 46)) := by
  rw [zzokM_of zc_X3_meetAll]
  exact ⟨by decide, Or.inl ⟨rfl, zzat_mem 438 (by decide +kernel), rfl⟩⟩
theorem zwM_50 : zzokM ((3, 240), (2, 47)) := by
  rw [zzokM_of zc_J7_fill_53178]
  exact ⟨by decide, Or.inr (Or.inr ⟨rfl, zzat_mem 442 (by decide +kernel), rfl⟩)⟩
theorem zwM_51 : zzokM ((3, 246), (1, 48)) := by
  rw [zzokM_of zc_X2_noteMeetings]
  exact ⟨by decide, Or.inr (Or.inl ⟨rfl, zzatN_mem 445 (by decide +kernel), rfl⟩)⟩
theorem zwM_52 : zzokM ((3, 181), (1, 49)) := by
  rw [zzokM_of zc_X0_solve]
  exact ⟨by decide, Or.inr (Or.inl ⟨rfl, zzatN_mem 449 (by decide +kernel), rfl⟩)⟩
theorem zwM_53 : zzokM ((0, 38), (2, 47)) := by
  rw [zzokM_of zc_J7_fill_53178]
  exact ⟨by decide, Or.inr (Or.inr ⟨rfl, zzat_mem 453 (by decide +kernel), rfl⟩)⟩
theorem zwM_54 : zzokM ((0, 44), (0, 50)) := by
  rw [zzokM_of zc_X0_goThrough]
  exact ⟨by decide, Or.inl ⟨rfl, zzat_mem 454 (by decide +kernel), rfl⟩⟩
theorem zwM_55 : zzokM ((0, 48), (0, 51)) := by
  rw [zzokM_of zc_X0_weigh]
  exact ⟨by decide, Or.inl ⟨rfl, zzat_mem 458 (by decide +kernel), rfl⟩⟩
theorem zwM_56 : zzokM ((0, 52), (0, 52)) := by
  rw [zzokM_of zc_X0_isStable]
  exact ⟨by decide, Or.inl ⟨rfl, zzat_mem 462 (by decide +kernel), rfl⟩⟩
theorem zwM_57 : zzokM ((0, 62), (0, 53)) := by
  rw [zzokM_of zc_X0_likesBetter]
  exact ⟨by decide, Or.inl ⟨rfl, zzat_mem 466 (by decide +kernel), rfl⟩⟩
theorem zwM_58 : zzokM ((3, 185), (0, 54)) := by
  rw [zzokM_of zc_X3_matchesTell]
  exact ⟨by decide, Or.inl ⟨rfl, zzat_mem 471 (by decide +kernel), rfl⟩⟩
theorem zwM_59 : zzokM ((5, 83), (0, 55)) := by
  rw [zzokM_of zc_X3_parting]
  exact ⟨by decide, Or.inl ⟨rfl, zzat_mem 478 (by decide +kernel), rfl⟩⟩
theorem zwM_60 : zzokM ((3, 188), (1, 56)) := by
  rw [zzokM_of zc_X2_fewestCuts]
  exact ⟨by decide, Or.inr (Or.inl ⟨rfl, zzatN_mem 482 (by decide +kernel), rfl⟩)⟩
theorem zwM_61 : zzokM ((2, 88), (0, 57)) := by
  rw [zzokM_of zc_X2_ropesOutOf]
  exact ⟨by decide, Or.inl ⟨rfl, zzat_mem 486 (by decide +kernel), rfl⟩⟩
theorem zwM_62 : zzokM ((2, 73), (2, 44)) := by
  rw [zzokM_of zc_J6_bitCount_0f7a4]
  exact ⟨by decide, Or.inr (Or.inr ⟨rfl, zzat_mem 490 (by decide +kernel), rfl⟩)⟩
theorem zwM_63 : zzokM ((5, 87), (0, 58)) := by
  rw [zzokM_of zc_X3_shell]
  exact ⟨by decide, Or.inl ⟨rfl, zzat_mem 492 (by decide +kernel), rfl⟩⟩
theorem zwM_64 : zzokM ((3, 191), (1, 59)) := by
  rw [zzokM_of zc_X1_add]
  exact ⟨by decide, Or.inr (Or.inl ⟨rfl, zzatN_mem 496 (by decide +kernel), rfl⟩)⟩
theorem zwM_65 : zzokM ((5, 92), (0, 60)) := by
  rw [zzokM_of zc_X3_forget]
  exact ⟨by decide, Or.inl ⟨rfl, zzat_mem 500 (by decide +kernel), rfl⟩⟩
theorem zwM_66 : zzokM ((5, 96), (0, 61)) := by
  rw [zzokM_of zc_X3_guess]
  exact ⟨by decide, Or.inl ⟨rfl, zzat_mem 504 (by decide +kernel), rfl⟩⟩
theorem zwM_67 : zzokM ((3, 194), (0, 62)) := by
  rw [zzokM_of zc_X3_shellsWouldHold]
  exact ⟨by decide, Or.inl ⟨rfl, zzat_mem 508 (by decide +kernel), rfl⟩⟩
theorem zwM_68 : zzokM ((3, 261), (1, 63)) := by
  rw [zzokM_of zc_X1_lastDay]
  exact ⟨by decide, Or.inr (Or.inl ⟨rfl, zzatN_mem 512 (by decide +kernel), rfl⟩)⟩
theorem zwM_69 : zzokM ((3, 264), (1, 64)) := by
  rw [zzokM_of zc_X1_holdOn]
  exact ⟨by decide, Or.inr (Or.inl ⟨rfl, zzatN_mem 517 (by decide +kernel), rfl⟩)⟩
theorem zwM_70 : zzokM ((1, 35), (1, 20)) := by
  rw [zzokM_of zc_X2_areBeside]
  exact ⟨by decide, Or.inr (Or.inl ⟨rfl, zzatN_mem 521 (by decide +kernel), rfl⟩)⟩
theorem zwM_71 : zzokM ((5, 100), (0, 65)) := by
  rw [zzokM_of zc_X3_seasons]
  exact ⟨by decide, Or.inl ⟨rfl, zzat_mem 522 (by decide +kernel), rfl⟩⟩
theorem zwM_72 : zzokM ((3, 202), (2, 66)) := by
  rw [zzokM_of zc_X3_nextSeed]
  exact ⟨by decide, Or.inr (Or.inr ⟨rfl, zzat_mem 526 (by decide +kernel), rfl⟩)⟩
theorem zwM_73 : zzokM ((3, 205), (1, 67)) := by
  rw [zzokM_of zc_X2_pairsBeside]
  exact ⟨by decide, Or.inr (Or.inl ⟨rfl, zzatN_mem 532 (by decide +kernel), rfl⟩)⟩
theorem zwM_74 : zzokM ((2, 69), (0, 19)) := by
  rw [zzokM_of zc_X2_neighbours]
  exact ⟨by decide, Or.inl ⟨rfl, zzat_mem 536 (by decide +kernel), rfl⟩⟩
theorem zwM_75 : zzokM ((5, 104), (0, 68)) := by
  rw [zzokM_of zc_X3_image]
  exact ⟨by decide, Or.inl ⟨rfl, zzat_mem 537 (by decide +kernel), rfl⟩⟩
theorem zwM_76 : zzokM ((3, 208), (1, 69)) := by
  rw [zzokM_of zc_X1_copy]
  exact ⟨by decide, Or.inr (Or.inl ⟨rfl, zzatN_mem 541 (by decide +kernel), rfl⟩)⟩
theorem zwM_77 : zzokM ((5, 108), (0, 70)) := by
  rw [zzokM_of zc_X3_restore]
  exact ⟨by decide, Or.inl ⟨rfl, zzat_mem 545 (by decide +kernel), rfl⟩⟩
theorem zwM_78 : zzokM ((5, 112), (0, 71)) := by
  rw [zzokM_of zc_X3_count]
  exact ⟨by decide, Or.inl ⟨rfl, zzat_mem 549 (by decide +kernel), rfl⟩⟩
theorem zwM_79 : zzokM ((3, 214), (1, 72)) := by
  rw [zzokM_of zc_X2_parties]
  exact ⟨by decide, Or.inr (Or.inl ⟨rfl, zzatN_mem 553 (by decide +kernel), rfl⟩)⟩
theorem zwM_80 : zzokM ((5, 116), (0, 73)) := by
  rw [zzokM_of zc_X3_digest]
  exact ⟨by decide, Or.inl ⟨rfl, zzat_mem 557 (by decide +kernel), rfl⟩⟩
theorem zwM_81 : zzokM ((3, 224), (0, 74)) := by
  rw [zzokM_of zc_X3_digestIslands]
  exact ⟨by decide, Or.inl ⟨rfl, zzat_mem 563 (by decide +kernel), rfl⟩⟩
theorem zwM_82 : zzokM ((3, 268), (0, 15)) := by
  rw [zzokM_of zc_X3_about]
  exact ⟨by decide, Or.inl ⟨rfl, zzat_mem 567 (by decide +kernel), rfl⟩⟩
theorem zwM_83 : zzokM ((3, 228), (0, 75)) := by
  rw [zzokM_of zc_X3_digestMatches]
  exact ⟨by decide, Or.inl ⟨rfl, zzat_mem 568 (by decide +kernel), rfl⟩⟩
theorem zwM_84 : zzokM ((3, 231), (0, 71)) := by
  rw [zzokM_of zc_X3_count]
  exact ⟨by decide, Or.inl ⟨rfl, zzat_mem 572 (by decide +kernel), rfl⟩⟩
theorem zwM_85 : zzokM ((5, 17), (0, 76)) := by
  rw [zzokM_of zc_X4_letter]
  exact ⟨by decide, Or.inl ⟨rfl, zzat_mem 688 (by decide +kernel), rfl⟩⟩
theorem zwM_86 : zzokM ((4, 52), (2, 77)) := by
  rw [zzokM_of zc_X4_in]
  exact ⟨by decide, Or.inr (Or.inr ⟨rfl, zzat_mem 693 (by decide +kernel), rfl⟩)⟩
theorem zwM_87 : zzokM ((5, 22), (0, 78)) := by
  rw [zzokM_of zc_X4_blank]
  exact ⟨by decide, Or.inl ⟨rfl, zzat_mem 696 (by decide +kernel), rfl⟩⟩
theorem zwM_88 : zzokM ((5, 26), (0, 79)) := by
  rw [zzokM_of zc_X4_fault]
  exact ⟨by decide, Or.inl ⟨rfl, zzat_mem 700 (by decide +kernel), rfl⟩⟩
theorem zwM_89 : zzokM ((4, 59), (0, 80)) := by
  rw [zzokM_of zc_X4_faultOf]
  exact ⟨by decide, Or.inl ⟨rfl, zzat_mem 704 (by decide +kernel), rfl⟩⟩
theorem zwM_90 : zzokM ((5, 30), (0, 81)) := by
  rw [zzokM_of zc_X4_sea]
  exact ⟨by decide, Or.inl ⟨rfl, zzat_mem 708 (by decide +kernel), rfl⟩⟩
theorem zwM_91 : zzokM ((4, 88), (0, 82)) := by
  rw [zzokM_of zc_X4_currentMany]
  exact ⟨by decide, Or.inl ⟨rfl, zzat_mem 712 (by decide +kernel), rfl⟩⟩
theorem zwM_92 : zzokM ((5, 35), (0, 83)) := by
  rw [zzokM_of zc_X4_place]
  exact ⟨by decide, Or.inl ⟨rfl, zzat_mem 716 (by decide +kernel), rfl⟩⟩
theorem zwM_93 : zzokM ((4, 97), (0, 84)) := by
  rw [zzokM_of zc_X4_whoIsAt]
  exact ⟨by decide, Or.inl ⟨rfl, zzat_mem 721 (by decide +kernel), rfl⟩⟩
theorem zwM_94 : zzokM ((5, 39), (0, 85)) := by
  rw [zzokM_of zc_X4_wind]
  exact ⟨by decide, Or.inl ⟨rfl, zzat_mem 725 (by decide +kernel), rfl⟩⟩
theorem zwM_95 : zzokM ((5, 44), (0, 86)) := by
  rw [zzokM_of zc_X4_island]
  exact ⟨by decide, Or.inl ⟨rfl, zzat_mem 730 (by decide +kernel), rfl⟩⟩
theorem zwM_96 : zzokM ((5, 48), (0, 87)) := by
  rw [zzokM_of zc_X4_about]
  exact ⟨by decide, Or.inl ⟨rfl, zzat_mem 736 (by decide +kernel), rfl⟩⟩
theorem zwM_97 : zzokM ((4, 91), (0, 88)) := by
  rw [zzokM_of zc_X4_isIsland]
  exact ⟨by decide, Or.inl ⟨rfl, zzat_mem 740 (by decide +kernel), rfl⟩⟩
theorem zwM_98 : zzokM ((4, 148), (0, 89)) := by
  rw [zzokM_of zc_X4_tell]
  exact ⟨by decide, Or.inl ⟨rfl, zzat_mem 744 (by decide +kernel), rfl⟩⟩
theorem zwM_99 : zzokM ((4, 139), (0, 90)) := by
  rw [zzokM_of zc_X4_asItIs]
  exact ⟨by decide, Or.inl ⟨rfl, zzat_mem 748 (by decide +kernel), rfl⟩⟩
theorem zwM_100 : zzokM ((4, 123), (0, 91)) := by
  rw [zzokM_of zc_X4_pushOf]
  exact ⟨by decide, Or.inl ⟨rfl, zzat_mem 752 (by decide +kernel), rfl⟩⟩
theorem zwM_101 : zzokM ((4, 120), (0, 92)) := by
  rw [zzokM_of zc_X4_partyOf]
  exact ⟨by decide, Or.inl ⟨rfl, zzat_mem 756 (by decide +kernel), rfl⟩⟩
theorem zwM_102 : zzokM ((4, 116), (0, 93)) := by
  rw [zzokM_of zc_X4_partyBy]
  exact ⟨by decide, Or.inl ⟨rfl, zzat_mem 760 (by decide +kernel), rfl⟩⟩
theorem zwM_103 : zzokM ((4, 142), (0, 94)) := by
  rw [zzokM_of zc_X4_besideBits]
  exact ⟨by decide, Or.inl ⟨rfl, zzat_mem 764 (by decide +kernel), rfl⟩⟩
theorem zwM_104 : zzokM ((4, 132), (2, 95)) := by
  rw [zzokM_of zc_X4_areBeside]
  exact ⟨by decide, Or.inr (Or.inr ⟨rfl, zzat_mem 768 (by decide +kernel), rfl⟩)⟩
theorem zwM_105 : zzokM ((4, 145), (0, 96)) := by
  rw [zzokM_of zc_X4_ropedBits]
  exact ⟨by decide, Or.inl ⟨rfl, zzat_mem 771 (by decide +kernel), rfl⟩⟩
theorem zwM_106 : zzokM ((4, 136), (0, 97)) := by
  rw [zzokM_of zc_X4_areRoped]
  exact ⟨by decide, Or.inl ⟨rfl, zzat_mem 775 (by decide +kernel), rfl⟩⟩
theorem zwM_107 : zzokM ((5, 52), (0, 98)) := by
  rw [zzokM_of zc_X4_as]
  exact ⟨by decide, Or.inl ⟨rfl, zzat_mem 779 (by decide +kernel), rfl⟩⟩
theorem zwM_108 : zzokM ((5, 57), (0, 99)) := by
  rw [zzokM_of zc_X4_anchor]
  exact ⟨by decide, Or.inl ⟨rfl, zzat_mem 783 (by decide +kernel), rfl⟩⟩
theorem zwM_109 : zzokM ((5, 61), (0, 100)) := by
  rw [zzokM_of zc_X4_wed]
  exact ⟨by decide, Or.inl ⟨rfl, zzat_mem 787 (by decide +kernel), rfl⟩⟩
theorem zwM_110 : zzokM ((4, 151), (0, 101)) := by
  rw [zzokM_of zc_X4_arePair]
  exact ⟨by decide, Or.inl ⟨rfl, zzat_mem 791 (by decide +kernel), rfl⟩⟩
theorem zwM_111 : zzokM ((5, 65), (0, 102)) := by
  rw [zzokM_of zc_X4_axe]
  exact ⟨by decide, Or.inl ⟨rfl, zzat_mem 795 (by decide +kernel), rfl⟩⟩
theorem zwM_112 : zzokM ((5, 69), (0, 103)) := by
  rw [zzokM_of zc_X4_day]
  exact ⟨by decide, Or.inl ⟨rfl, zzat_mem 799 (by decide +kernel), rfl⟩⟩
theorem zwM_113 : zzokM ((4, 154), (0, 104)) := by
  rw [zzokM_of zc_X4_passes]
  exact ⟨by decide, Or.inl ⟨rfl, zzat_mem 803 (by decide +kernel), rfl⟩⟩
theorem zwM_114 : zzokM ((4, 126), (0, 105)) := by
  rw [zzokM_of zc_X4_isFirst]
  exact ⟨by decide, Or.inl ⟨rfl, zzat_mem 807 (by decide +kernel), rfl⟩⟩
theorem zwM_115 : zzokM ((4, 129), (0, 106)) := by
  rw [zzokM_of zc_X4_drifts]
  exact ⟨by decide, Or.inl ⟨rfl, zzat_mem 811 (by decide +kernel), rfl⟩⟩
theorem zwM_116 : zzokM ((5, 73), (0, 107)) := by
  rw [zzokM_of zc_X4_meet]
  exact ⟨by decide, Or.inl ⟨rfl, zzat_mem 815 (by decide +kernel), rfl⟩⟩
theorem zwM_117 : zzokM ((4, 157), (0, 108)) := by
  rw [zzokM_of zc_X4_meetBy]
  exact ⟨by decide, Or.inl ⟨rfl, zzat_mem 819 (by decide +kernel), rfl⟩⟩
theorem zwM_118 : zzokM ((5, 78), (0, 109)) := by
  rw [zzokM_of zc_X4_anchors]
  exact ⟨by decide, Or.inl ⟨rfl, zzat_mem 823 (by decide +kernel), rfl⟩⟩
theorem zwM_119 : zzokM ((4, 169), (0, 110)) := by
  rw [zzokM_of zc_X4_anchorsOf]
  exact ⟨by decide, Or.inl ⟨rfl, zzat_mem 828 (by decide +kernel), rfl⟩⟩
theorem zwM_120 : zzokM ((4, 161), (2, 111)) := by
  rw [zzokM_of zc_X4_ones]
  exact ⟨by decide, Or.inr (Or.inr ⟨rfl, zzat_mem 832 (by decide +kernel), rfl⟩)⟩
theorem zwM_121 : zzokM ((5, 82), (0, 112)) := by
  rw [zzokM_of zc_X4_stable]
  exact ⟨by decide, Or.inl ⟨rfl, zzat_mem 835 (by decide +kernel), rfl⟩⟩
theorem zwM_122 : zzokM ((4, 197), (0, 113)) := by
  rw [zzokM_of zc_X4_layStable]
  exact ⟨by decide, Or.inl ⟨rfl, zzat_mem 841 (by decide +kernel), rfl⟩⟩
theorem zwM_123 : zzokM ((4, 182), (0, 114)) := by
  rw [zzokM_of zc_X4_isMatch]
  exact ⟨by decide, Or.inl ⟨rfl, zzat_mem 845 (by decide +kernel), rfl⟩⟩
theorem zwM_124 : zzokM ((4, 185), (0, 115)) := by
  rw [zzokM_of zc_X4_isStable]
  exact ⟨by decide, Or.inl ⟨rfl, zzat_mem 849 (by decide +kernel), rfl⟩⟩
theorem zwM_125 : zzokM ((4, 173), (0, 116)) := by
  rw [zzokM_of zc_X4_likes]
  exact ⟨by decide, Or.inl ⟨rfl, zzat_mem 853 (by decide +kernel), rfl⟩⟩
theorem zwM_126 : zzokM ((4, 189), (2, 117)) := by
  rw [zzokM_of zc_X4_copy]
  exact ⟨by decide, Or.inr (Or.inr ⟨rfl, zzat_mem 857 (by decide +kernel), rfl⟩)⟩
theorem zwM_127 : zzokM ((4, 200), (0, 118)) := by
  rw [zzokM_of zc_X4_tellStable]
  exact ⟨by decide, Or.inl ⟨rfl, zzat_mem 860 (by decide +kernel), rfl⟩⟩
theorem zwM_128 : zzokM ((5, 86), (0, 119)) := by
  rw [zzokM_of zc_X4_parting]
  exact ⟨by decide, Or.inl ⟨rfl, zzat_mem 864 (by decide +kernel), rfl⟩⟩
theorem zwM_129 : zzokM ((5, 91), (0, 120)) := by
  rw [zzokM_of zc_X4_shell]
  exact ⟨by decide, Or.inl ⟨rfl, zzat_mem 868 (by decide +kernel), rfl⟩⟩
theorem zwM_130 : zzokM ((5, 95), (0, 121)) := by
  rw [zzokM_of zc_X4_forget]
  exact ⟨by decide, Or.inl ⟨rfl, zzat_mem 873 (by decide +kernel), rfl⟩⟩
theorem zwM_131 : zzokM ((5, 99), (0, 122)) := by
  rw [zzokM_of zc_X4_guess]
  exact ⟨by decide, Or.inl ⟨rfl, zzat_mem 877 (by decide +kernel), rfl⟩⟩
theorem zwM_132 : zzokM ((4, 209), (0, 123)) := by
  rw [zzokM_of zc_X4_guessOf]
  exact ⟨by decide, Or.inl ⟨rfl, zzat_mem 881 (by decide +kernel), rfl⟩⟩
theorem zwM_133 : zzokM ((4, 205), (0, 124)) := by
  rw [zzokM_of zc_X4_isSo]
  exact ⟨by decide, Or.inl ⟨rfl, zzat_mem 885 (by decide +kernel), rfl⟩⟩
theorem zwM_134 : zzokM ((5, 103), (0, 125)) := by
  rw [zzokM_of zc_X4_seasons]
  exact ⟨by decide, Or.inl ⟨rfl, zzat_mem 889 (by decide +kernel), rfl⟩⟩
theorem zwM_135 : zzokM ((4, 226), (0, 126)) := by
  rw [zzokM_of zc_X4_draw]
  exact ⟨by decide, Or.inl ⟨rfl, zzat_mem 895 (by decide +kernel), rfl⟩⟩
theorem zwM_136 : zzokM ((5, 107), (0, 127)) := by
  rw [zzokM_of zc_X4_image]
  exact ⟨by decide, Or.inl ⟨rfl, zzat_mem 903 (by decide +kernel), rfl⟩⟩
theorem zwM_137 : zzokM ((5, 111), (0, 128)) := by
  rw [zzokM_of zc_X4_restore]
  exact ⟨by decide, Or.inl ⟨rfl, zzat_mem 907 (by decide +kernel), rfl⟩⟩
theorem zwM_138 : zzokM ((5, 115), (0, 129)) := by
  rw [zzokM_of zc_X4_count]
  exact ⟨by decide, Or.inl ⟨rfl, zzat_mem 911 (by decide +kernel), rfl⟩⟩
theorem zwM_139 : zzokM ((4, 250), (0, 130)) := by
  rw [zzokM_of zc_X4_countOf]
  exact ⟨by decide, Or.inl ⟨rfl, zzat_mem 915 (by decide +kernel), rfl⟩⟩
theorem zwM_140 : zzokM ((4, 247), (0, 131)) := by
  rw [zzokM_of zc_X4_partyMany]
  exact ⟨by decide, Or.inl ⟨rfl, zzat_mem 919 (by decide +kernel), rfl⟩⟩
theorem zwM_141 : zzokM ((5, 120), (0, 132)) := by
  rw [zzokM_of zc_X4_digest]
  exact ⟨by decide, Or.inl ⟨rfl, zzat_mem 923 (by decide +kernel), rfl⟩⟩
theorem zwM_142 : zzokM ((4, 259), (0, 133)) := by
  rw [zzokM_of zc_X4_say]
  exact ⟨by decide, Or.inl ⟨rfl, zzat_mem 928 (by decide +kernel), rfl⟩⟩
theorem zwM_143 : zzokM ((4, 265), (0, 134)) := by
  rw [zzokM_of zc_X4_sayIsland]
  exact ⟨by decide, Or.inl ⟨rfl, zzat_mem 933 (by decide +kernel), rfl⟩⟩
theorem zwM_r0 : ∀ e ∈ ([((5, 13), (0, 0)), ((5, 18), (0, 1)), ((5, 23), (0, 2)), ((3, 69), (2, 3)), ((5, 27), (0, 4)), ((3, 73), (0, 2)), ((3, 77), (1, 5)), ((3, 83), (2, 6)), ((3, 90), (1, 7)), ((5, 31), (0, 8)), ((3, 93), (0, 9)), ((3, 96), (1, 10)), ((5, 36), (0, 11)), ((5, 40), (0, 12)), ((3, 102), (2, 13)), ((3, 108), (1, 14))] : List ((Nat × Nat) × (Nat × Nat))), zzokM e := List.forall_mem_cons.mpr ⟨zwM_0, List.forall_mem_cons.mpr ⟨zwM_1, List.forall_mem_cons.mpr ⟨zwM_2, List.forall_mem_cons.mpr ⟨zwM_3, List.forall_mem_cons.mpr ⟨zwM_4, List.forall_mem_cons.mpr ⟨zwM_5, List.forall_mem_cons.mpr ⟨zwM_6, List.forall_mem_cons.mpr ⟨zwM_7, List.forall_mem_cons.mpr ⟨zwM_8, List.forall_mem_cons.mpr ⟨zwM_9, List.forall_mem_cons.mpr ⟨zwM_10, List.forall_mem_cons.mpr ⟨zwM_11, List.forall_mem_cons.mpr ⟨zwM_12, List.forall_mem_cons.mpr ⟨zwM_13, List.forall_mem_cons.mpr ⟨zwM_14, List.forall_mem_cons.mpr ⟨zwM_15, fun _ h => absurd h List.not_mem_nil⟩⟩⟩⟩⟩⟩⟩⟩⟩⟩⟩⟩⟩⟩⟩⟩
theorem zwM_r1 : ∀ e ∈ ([((5, 45), (0, 15)), ((3, 112), (0, 16)), ((3, 124), (1, 17)), ((3, 127), (1, 18)), ((3, 133), (1, 19)), ((2, 65), (0, 20)), ((2, 61), (2, 21)), ((5, 49), (0, 22)), ((5, 53), (0, 23)), ((5, 58), (0, 24)), ((3, 142), (0, 25)), ((3, 146), (1, 26)), ((3, 149), (1, 20)), ((3, 155), (1, 27)), ((2, 78), (0, 28)), ((2, 81), (0, 29))] : List ((Nat × Nat) × (Nat × Nat))), zzokM e := List.forall_mem_cons.mpr ⟨zwM_16, List.forall_mem_cons.mpr ⟨zwM_17, List.forall_mem_cons.mpr ⟨zwM_18, List.forall_mem_cons.mpr ⟨zwM_19, List.forall_mem_cons.mpr ⟨zwM_20, List.forall_mem_cons.mpr ⟨zwM_21, List.forall_mem_cons.mpr ⟨zwM_22, List.forall_mem_cons.mpr ⟨zwM_23, List.forall_mem_cons.mpr ⟨zwM_24, List.forall_mem_cons.mpr ⟨zwM_25, List.forall_mem_cons.mpr ⟨zwM_26, List.forall_mem_cons.mpr ⟨zwM_27, List.forall_mem_cons.mpr ⟨zwM_28, List.forall_mem_cons.mpr ⟨zwM_29, List.forall_mem_cons.mpr ⟨zwM_30, List.forall_mem_cons.mpr ⟨zwM_31, fun _ h => absurd h List.not_mem_nil⟩⟩⟩⟩⟩⟩⟩⟩⟩⟩⟩⟩⟩⟩⟩⟩
theorem zwM_r2 : ∀ e ∈ ([((5, 62), (0, 30)), ((3, 159), (1, 31)), ((5, 66), (0, 32)), ((3, 162), (1, 33)), ((2, 84), (0, 34)), ((2, 96), (0, 35)), ((2, 99), (0, 36)), ((2, 105), (0, 17)), ((2, 108), (2, 37)), ((2, 102), (0, 38)), ((5, 70), (0, 39)), ((3, 165), (0, 40)), ((3, 198), (1, 41)), ((5, 74), (0, 42)), ((3, 169), (0, 43)), ((3, 172), (2, 44))] : List ((Nat × Nat) × (Nat × Nat))), zzokM e := List.forall_mem_cons.mpr ⟨zwM_32, List.forall_mem_cons.mpr ⟨zwM_33, List.forall_mem_cons.mpr ⟨zwM_34, List.forall_mem_cons.mpr ⟨zwM_35, List.forall_mem_cons.mpr ⟨zwM_36, List.forall_mem_cons.mpr ⟨zwM_37, List.forall_mem_cons.mpr ⟨zwM_38, List.forall_mem_cons.mpr ⟨zwM_39, List.forall_mem_cons.mpr ⟨zwM_40, List.forall_mem_cons.mpr ⟨zwM_41, List.forall_mem_cons.mpr ⟨zwM_42, List.forall_mem_cons.mpr ⟨zwM_43, List.forall_mem_cons.mpr ⟨zwM_44, List.forall_mem_cons.mpr ⟨zwM_45, List.forall_mem_cons.mpr ⟨zwM_46, List.forall_mem_cons.mpr ⟨zwM_47, fun _ h => absurd h List.not_mem_nil⟩⟩⟩⟩⟩⟩⟩⟩⟩⟩⟩⟩⟩⟩⟩⟩
theorem zwM_r3 : ∀ e ∈ ([((5, 79), (0, 45)), ((3, 177), (0, 46)), ((3, 240), (2, 47)), ((3, 246), (1, 48)), ((3, 181), (1, 49)), ((0, 38), (2, 47)), ((0, 44), (0, 50)), ((0, 48), (0, 51)), ((0, 52), (0, 52)), ((0, 62), (0, 53)), ((3, 185), (0, 54)), ((5, 83), (0, 55)), ((3, 188), (1, 56)), ((2, 88), (0, 57)), ((2, 73), (2, 44)), ((5, 87), (0, 58))] : List ((Nat × Nat) × (Nat × Nat))), zzokM e := List.forall_mem_cons.mpr ⟨zwM_48, List.forall_mem_cons.mpr ⟨zwM_49, List.forall_mem_cons.mpr ⟨zwM_50, List.forall_mem_cons.mpr ⟨zwM_51, List.forall_mem_cons.mpr ⟨zwM_52, List.forall_mem_cons.mpr ⟨zwM_53, List.forall_mem_cons.mpr ⟨zwM_54, List.forall_mem_cons.mpr ⟨zwM_55, List.forall_mem_cons.mpr ⟨zwM_56, List.forall_mem_cons.mpr ⟨zwM_57, List.forall_mem_cons.mpr ⟨zwM_58, List.forall_mem_cons.mpr ⟨zwM_59, List.forall_mem_cons.mpr ⟨zwM_60, List.forall_mem_cons.mpr ⟨zwM_61, List.forall_mem_cons.mpr ⟨zwM_62, List.forall_mem_cons.mpr ⟨zwM_63, fun _ h => absurd h List.not_mem_nil⟩⟩⟩⟩⟩⟩⟩⟩⟩⟩⟩⟩⟩⟩⟩⟩
theorem zwM_r4 : ∀ e ∈ ([((3, 191), (1, 59)), ((5, 92), (0, 60)), ((5, 96), (0, 61)), ((3, 194), (0, 62)), ((3, 261), (1, 63)), ((3, 264), (1, 64)), ((1, 35), (1, 20)), ((5, 100), (0, 65)), ((3, 202), (2, 66)), ((3, 205), (1, 67)), ((2, 69), (0, 19)), ((5, 104), (0, 68)), ((3, 208), (1, 69)), ((5, 108), (0, 70)), ((5, 112), (0, 71)), ((3, 214), (1, 72))] : List ((Nat × Nat) × (Nat × Nat))), zzokM e := List.forall_mem_cons.mpr ⟨zwM_64, List.forall_mem_cons.mpr ⟨zwM_65, List.forall_mem_cons.mpr ⟨zwM_66, List.forall_mem_cons.mpr ⟨zwM_67, List.forall_mem_cons.mpr ⟨zwM_68, List.forall_mem_cons.mpr ⟨zwM_69, List.forall_mem_cons.mpr ⟨zwM_70, List.forall_mem_cons.mpr ⟨zwM_71, List.forall_mem_cons.mpr ⟨zwM_72, List.forall_mem_cons.mpr ⟨zwM_73, List.forall_mem_cons.mpr ⟨zwM_74, List.forall_mem_cons.mpr ⟨zwM_75, List.forall_mem_cons.mpr ⟨zwM_76, List.forall_mem_cons.mpr ⟨zwM_77, List.forall_mem_cons.mpr ⟨zwM_78, List.forall_mem_cons.mpr ⟨zwM_79, fun _ h => absurd h List.not_mem_nil⟩⟩⟩⟩⟩⟩⟩⟩⟩⟩⟩⟩⟩⟩⟩⟩
theorem zwM_r5 : ∀ e ∈ ([((5, 116), (0, 73)), ((3, 224), (0, 74)), ((3, 268), (0, 15)), ((3, 228), (0, 75)), ((3, 231), (0, 71)), ((5, 17), (0, 76)), ((4, 52), (2, 77)), ((5, 22), (0, 78)), ((5, 26), (0, 79)), ((4, 59), (0, 80)), ((5, 30), (0, 81)), ((4, 88), (0, 82)), ((5, 35), (0, 83)), ((4, 97), (0, 84)), ((5, 39), (0, 85)), ((5, 44), (0, 86))] : List ((Nat × Nat) × (Nat × Nat))), zzokM e := List.forall_mem_cons.mpr ⟨zwM_80, List.forall_mem_cons.mpr ⟨zwM_81, List.forall_mem_cons.mpr ⟨zwM_82, List.forall_mem_cons.mpr ⟨zwM_83, List.forall_mem_cons.mpr ⟨zwM_84, List.forall_mem_cons.mpr ⟨zwM_85, List.forall_mem_cons.mpr ⟨zwM_86, List.forall_mem_cons.mpr ⟨zwM_87, List.forall_mem_cons.mpr ⟨zwM_88, List.forall_mem_cons.mpr ⟨zwM_89, List.forall_mem_cons.mpr ⟨zwM_90, List.forall_mem_cons.mpr ⟨zwM_91, List.forall_mem_cons.mpr ⟨zwM_92, List.forall_mem_cons.mpr ⟨zwM_93, List.forall_mem_cons.mpr ⟨zwM_94, List.forall_mem_cons.mpr ⟨zwM_95, fun _ h => absurd h List.not_mem_nil⟩⟩⟩⟩⟩⟩⟩⟩⟩⟩⟩⟩⟩⟩⟩⟩
theorem zwM_r6 : ∀ e ∈ ([((5, 48), (0, 87)), ((4, 91), (0, 88)), ((4, 148), (0, 89)), ((4, 139), (0, 90)), ((4, 123), (0, 91)), ((4, 120), (0, 92)), ((4, 116), (0, 93)), ((4, 142), (0, 94)), ((4, 132), (2, 95)), ((4, 145), (0, 96)), ((4, 136), (0, 97)), ((5, 52), (0, 98)), ((5, 57), (0, 99)), ((5, 61), (0, 100)), ((4, 151), (0, 101)), ((5, 65), (0, 102))] : List ((Nat × Nat) × (Nat × Nat))), zzokM e := List.forall_mem_cons.mpr ⟨zwM_96, List.forall_mem_cons.mpr ⟨zwM_97, List.forall_mem_cons.mpr ⟨zwM_98, List.forall_mem_cons.mpr ⟨zwM_99, List.forall_mem_cons.mpr ⟨zwM_100, List.forall_mem_cons.mpr ⟨zwM_101, List.forall_mem_cons.mpr ⟨zwM_102, List.forall_mem_cons.mpr ⟨zwM_103, List.forall_mem_cons.mpr ⟨zwM_104, List.forall_mem_cons.mpr ⟨zwM_105, List.forall_mem_cons.mpr ⟨zwM_106, List.forall_mem_cons.mpr ⟨zwM_107, List.forall_mem_cons.mpr ⟨zwM_108, List.forall_mem_cons.mpr ⟨zwM_109, List.forall_mem_cons.mpr ⟨zwM_110, List.forall_mem_cons.mpr ⟨zwM_111, fun _ h => absurd h List.not_mem_nil⟩⟩⟩⟩⟩⟩⟩⟩⟩⟩⟩⟩⟩⟩⟩⟩
theorem zwM_r7 : ∀ e ∈ ([((5, 69), (0, 103)), ((4, 154), (0, 104)), ((4, 126), (0, 105)), ((4, 129), (0, 106)), ((5, 73), (0, 107)), ((4, 157), (0, 108)), ((5, 78), (0, 109)), ((4, 169), (0, 110)), ((4, 161), (2, 111)), ((5, 82), (0, 112)), ((4, 197), (0, 113)), ((4, 182), (0, 114)), ((4, 185), (0, 115)), ((4, 173), (0, 116)), ((4, 189), (2, 117)), ((4, 200), (0, 118))] : List ((Nat × Nat) × (Nat × Nat))), zzokM e := List.forall_mem_cons.mpr ⟨zwM_112, List.forall_mem_cons.mpr ⟨zwM_113, List.forall_mem_cons.mpr ⟨zwM_114, List.forall_mem_cons.mpr ⟨zwM_115, List.forall_mem_cons.mpr ⟨zwM_116, List.forall_mem_cons.mpr ⟨zwM_117, List.forall_mem_cons.mpr ⟨zwM_118, List.forall_mem_cons.mpr ⟨zwM_119, List.forall_mem_cons.mpr ⟨zwM_120, List.forall_mem_cons.mpr ⟨zwM_121, List.forall_mem_cons.mpr ⟨zwM_122, List.forall_mem_cons.mpr ⟨zwM_123, List.forall_mem_cons.mpr ⟨zwM_124, List.forall_mem_cons.mpr ⟨zwM_125, List.forall_mem_cons.mpr ⟨zwM_126, List.forall_mem_cons.mpr ⟨zwM_127, fun _ h => absurd h List.not_mem_nil⟩⟩⟩⟩⟩⟩⟩⟩⟩⟩⟩⟩⟩⟩⟩⟩
theorem zwM_r8 : ∀ e ∈ ([((5, 86), (0, 119)), ((5, 91), (0, 120)), ((5, 95), (0, 121)), ((5, 99), (0, 122)), ((4, 209), (0, 123)), ((4, 205), (0, 124)), ((5, 103), (0, 125)), ((4, 226), (0, 126)), ((5, 107), (0, 127)), ((5, 111), (0, 128)), ((5, 115), (0, 129)), ((4, 250), (0, 130)), ((4, 247), (0, 131)), ((5, 120), (0, 132)), ((4, 259), (0, 133)), ((4, 265), (0, 134))] : List ((Nat × Nat) × (Nat × Nat))), zzokM e := List.forall_mem_cons.mpr ⟨zwM_128, List.forall_mem_cons.mpr ⟨zwM_129, List.forall_mem_cons.mpr ⟨zwM_130, List.forall_mem_cons.mpr ⟨zwM_131, List.forall_mem_cons.mpr ⟨zwM_132, List.forall_mem_cons.mpr ⟨zwM_133, List.forall_mem_cons.mpr ⟨zwM_134, List.forall_mem_cons.mpr ⟨zwM_135, List.forall_mem_cons.mpr ⟨zwM_136, List.forall_mem_cons.mpr ⟨zwM_137, List.forall_mem_cons.mpr ⟨zwM_138, List.forall_mem_cons.mpr ⟨zwM_139, List.forall_mem_cons.mpr ⟨zwM_140, List.forall_mem_cons.mpr ⟨zwM_141, List.forall_mem_cons.mpr ⟨zwM_142, List.forall_mem_cons.mpr ⟨zwM_143, fun _ h => absurd h List.not_mem_nil⟩⟩⟩⟩⟩⟩⟩⟩⟩⟩⟩⟩⟩⟩⟩⟩
set_option maxRecDepth 100000 in
theorem zwM_all : ∀ e ∈ zzmT, zzokM e := by
  have h : ∀ e ∈ ([((5, 13), (0, 0)), ((5, 18), (0, 1)), ((5, 23), (0, 2)), ((3, 69), (2, 3)), ((5, 27), (0, 4)), ((3, 73), (0, 2)), ((3, 77), (1, 5)), ((3, 83), (2, 6)), ((3, 90), (1, 7)), ((5, 31), (0, 8)), ((3, 93), (0, 9)), ((3, 96), (1, 10)), ((5, 36), (0, 11)), ((5, 40), (0, 12)), ((3, 102), (2, 13)), ((3, 108), (1, 14))] ++ ([((5, 45), (0, 15)), ((3, 112), (0, 16)), ((3, 124), (1, 17)), ((3, 127), (1, 18)), ((3, 133), (1, 19)), ((2, 65), (0, 20)), ((2, 61), (2, 21)), ((5, 49), (0, 22)), ((5, 53), (0, 23)), ((5, 58), (0, 24)), ((3, 142), (0, 25)), ((3, 146), (1, 26)), ((3, 149), (1, 20)), ((3, 155), (1, 27)), ((2, 78), (0, 28)), ((2, 81), (0, 29))] ++ ([((5, 62), (0, 30)), ((3, 159), (1, 31)), ((5, 66), (0, 32)), ((3, 162), (1, 33)), ((2, 84), (0, 34)), ((2, 96), (0, 35)), ((2, 99), (0, 36)), ((2, 105), (0, 17)), ((2, 108), (2, 37)), ((2, 102), (0, 38)), ((5, 70), (0, 39)), ((3, 165), (0, 40)), ((3, 198), (1, 41)), ((5, 74), (0, 42)), ((3, 169), (0, 43)), ((3, 172), (2, 44))] ++ ([((5, 79), (0, 45)), ((3, 177), (0, 46)), ((3, 240), (2, 47)), ((3, 246), (1, 48)), ((3, 181), (1, 49)), ((0, 38), (2, 47)), ((0, 44), (0, 50)), ((0, 48), (0, 51)), ((0, 52), (0, 52)), ((0, 62), (0, 53)), ((3, 185), (0, 54)), ((5, 83), (0, 55)), ((3, 188), (1, 56)), ((2, 88), (0, 57)), ((2, 73), (2, 44)), ((5, 87), (0, 58))] ++ ([((3, 191), (1, 59)), ((5, 92), (0, 60)), ((5, 96), (0, 61)), ((3, 194), (0, 62)), ((3, 261), (1, 63)), ((3, 264), (1, 64)), ((1, 35), (1, 20)), ((5, 100), (0, 65)), ((3, 202), (2, 66)), ((3, 205), (1, 67)), ((2, 69), (0, 19)), ((5, 104), (0, 68)), ((3, 208), (1, 69)), ((5, 108), (0, 70)), ((5, 112), (0, 71)), ((3, 214), (1, 72))] ++ ([((5, 116), (0, 73)), ((3, 224), (0, 74)), ((3, 268), (0, 15)), ((3, 228), (0, 75)), ((3, 231), (0, 71)), ((5, 17), (0, 76)), ((4, 52), (2, 77)), ((5, 22), (0, 78)), ((5, 26), (0, 79)), ((4, 59), (0, 80)), ((5, 30), (0, 81)), ((4, 88), (0, 82)), ((5, 35), (0, 83)), ((4, 97), (0, 84)), ((5, 39), (0, 85)), ((5, 44), (0, 86))] ++ ([((5, 48), (0, 87)), ((4, 91), (0, 88)), ((4, 148), (0, 89)), ((4, 139), (0, 90)), ((4, 123), (0, 91)), ((4, 120), (0, 92)), ((4, 116), (0, 93)), ((4, 142), (0, 94)), ((4, 132), (2, 95)), ((4, 145), (0, 96)), ((4, 136), (0, 97)), ((5, 52), (0, 98)), ((5, 57), (0, 99)), ((5, 61), (0, 100)), ((4, 151), (0, 101)), ((5, 65), (0, 102))] ++ ([((5, 69), (0, 103)), ((4, 154), (0, 104)), ((4, 126), (0, 105)), ((4, 129), (0, 106)), ((5, 73), (0, 107)), ((4, 157), (0, 108)), ((5, 78), (0, 109)), ((4, 169), (0, 110)), ((4, 161), (2, 111)), ((5, 82), (0, 112)), ((4, 197), (0, 113)), ((4, 182), (0, 114)), ((4, 185), (0, 115)), ((4, 173), (0, 116)), ((4, 189), (2, 117)), ((4, 200), (0, 118))] ++ ([((5, 86), (0, 119)), ((5, 91), (0, 120)), ((5, 95), (0, 121)), ((5, 99), (0, 122)), ((4, 209), (0, 123)), ((4, 205), (0, 124)), ((5, 103), (0, 125)), ((4, 226), (0, 126)), ((5, 107), (0, 127)), ((5, 111), (0, 128)), ((5, 115), (0, 129)), ((4, 250), (0, 130)), ((4, 247), (0, 131)), ((5, 120), (0, 132)), ((4, 259), (0, 133)), ((4, 265), (0, 134))])))))))) : List ((Nat × Nat) × (Nat × Nat))), zzokM e := List.forall_mem_append.mpr ⟨zwM_r0, List.forall_mem_append.mpr ⟨zwM_r1, List.forall_mem_append.mpr ⟨zwM_r2, List.forall_mem_append.mpr ⟨zwM_r3, List.forall_mem_append.mpr ⟨zwM_r4, List.forall_mem_append.mpr ⟨zwM_r5, List.forall_mem_append.mpr ⟨zwM_r6, List.forall_mem_append.mpr ⟨zwM_r7, zwM_r8⟩⟩⟩⟩⟩⟩⟩⟩
  exact fun e he => h e (by first | exact he | (rw [show ([((5, 13), (0, 0)), ((5, 18), (0, 1)), ((5, 23), (0, 2)), ((3, 69), (2, 3)), ((5, 27), (0, 4)), ((3, 73), (0, 2)), ((3, 77), (1, 5)), ((3, 83), (2, 6)), ((3, 90), (1, 7)), ((5, 31), (0, 8)), ((3, 93), (0, 9)), ((3, 96), (1, 10)), ((5, 36), (0, 11)), ((5, 40), (0, 12)), ((3, 102), (2, 13)), ((3, 108), (1, 14))] ++ ([((5, 45), (0, 15)), ((3, 112), (0, 16)), ((3, 124), (1, 17)), ((3, 127), (1, 18)), ((3, 133), (1, 19)), ((2, 65), (0, 20)), ((2, 61), (2, 21)), ((5, 49), (0, 22)), ((5, 53), (0, 23)), ((5, 58), (0, 24)), ((3, 142), (0, 25)), ((3, 146), (1, 26)), ((3, 149), (1, 20)), ((3, 155), (1, 27)), ((2, 78), (0, 28)), ((2, 81), (0, 29))] ++ ([((5, 62), (0, 30)), ((3, 159), (1, 31)), ((5, 66), (0, 32)), ((3, 162), (1, 33)), ((2, 84), (0, 34)), ((2, 96), (0, 35)), ((2, 99), (0, 36)), ((2, 105), (0, 17)), ((2, 108), (2, 37)), ((2, 102), (0, 38)), ((5, 70), (0, 39)), ((3, 165), (0, 40)), ((3, 198), (1, 41)), ((5, 74), (0, 42)), ((3, 169), (0, 43)), ((3, 172), (2, 44))] ++ ([((5, 79), (0, 45)), ((3, 177), (0, 46)), ((3, 240), (2, 47)), ((3, 246), (1, 48)), ((3, 181), (1, 49)), ((0, 38), (2, 47)), ((0, 44), (0, 50)), ((0, 48), (0, 51)), ((0, 52), (0, 52)), ((0, 62), (0, 53)), ((3, 185), (0, 54)), ((5, 83), (0, 55)), ((3, 188), (1, 56)), ((2, 88), (0, 57)), ((2, 73), (2, 44)), ((5, 87), (0, 58))] ++ ([((3, 191), (1, 59)), ((5, 92), (0, 60)), ((5, 96), (0, 61)), ((3, 194), (0, 62)), ((3, 261), (1, 63)), ((3, 264), (1, 64)), ((1, 35), (1, 20)), ((5, 100), (0, 65)), ((3, 202), (2, 66)), ((3, 205), (1, 67)), ((2, 69), (0, 19)), ((5, 104), (0, 68)), ((3, 208), (1, 69)), ((5, 108), (0, 70)), ((5, 112), (0, 71)), ((3, 214), (1, 72))] ++ ([((5, 116), (0, 73)), ((3, 224), (0, 74)), ((3, 268), (0, 15)), ((3, 228), (0, 75)), ((3, 231), (0, 71)), ((5, 17), (0, 76)), ((4, 52), (2, 77)), ((5, 22), (0, 78)), ((5, 26), (0, 79)), ((4, 59), (0, 80)), ((5, 30), (0, 81)), ((4, 88), (0, 82)), ((5, 35), (0, 83)), ((4, 97), (0, 84)), ((5, 39), (0, 85)), ((5, 44), (0, 86))] ++ ([((5, 48), (0, 87)), ((4, 91), (0, 88)), ((4, 148), (0, 89)), ((4, 139), (0, 90)), ((4, 123), (0, 91)), ((4, 120), (0, 92)), ((4, 116), (0, 93)), ((4, 142), (0, 94)), ((4, 132), (2, 95)), ((4, 145), (0, 96)), ((4, 136), (0, 97)), ((5, 52), (0, 98)), ((5, 57), (0, 99)), ((5, 61), (0, 100)), ((4, 151), (0, 101)), ((5, 65), (0, 102))] ++ ([((5, 69), (0, 103)), ((4, 154), (0, 104)), ((4, 126), (0, 105)), ((4, 129), (0, 106)), ((5, 73), (0, 107)), ((4, 157), (0, 108)), ((5, 78), (0, 109)), ((4, 169), (0, 110)), ((4, 161), (2, 111)), ((5, 82), (0, 112)), ((4, 197), (0, 113)), ((4, 182), (0, 114)), ((4, 185), (0, 115)), ((4, 173), (0, 116)), ((4, 189), (2, 117)), ((4, 200), (0, 118))] ++ ([((5, 86), (0, 119)), ((5, 91), (0, 120)), ((5, 95), (0, 121)), ((5, 99), (0, 122)), ((4, 209), (0, 123)), ((4, 205), (0, 124)), ((5, 103), (0, 125)), ((4, 226), (0, 126)), ((5, 107), (0, 127)), ((5, 111), (0, 128)), ((5, 115), (0, 129)), ((4, 250), (0, 130)), ((4, 247), (0, 131)), ((5, 120), (0, 132)), ((4, 259), (0, 133)), ((4, 265), (0, 134))])))))))) : List ((Nat × Nat) × (Nat × Nat))) = zzmT from rfl]; exact he))
set_option maxRecDepth 100000 in
theorem zzki_ok : zzkiT.all (fun e => zzin (.constant (zzR e.1.1) e.1.2 e.2)) = true := by decide +kernel
set_option maxRecDepth 100000 in
theorem zzkl_ok : zzklT.all (fun e => zzin (.constantLong (zzR e.1.1) e.1.2 e.2)) = true := by decide +kernel
set_option maxRecDepth 100000 in
theorem zzac_ok : [(2, 49), (0, 56)].all (fun e : Nat × Nat => zzin (.methodLink (zzR e.1) e.2 arraycopyName)) = true := by decide +kernel
theorem zzac_w : zzin (.native arraycopyName) = true ∧ zzin (.static arraycopyName) = true ∧ zzin (.initialized "java/lang/System") = true := by decide +kernel
set_option maxRecDepth 100000 in
theorem zzmn_ok : [(3, 63), (2, 91)].all (fun e : Nat × Nat => zzin (.methodLink (zzR e.1) e.2 Lib.Math.min.name)) = true := by decide +kernel
set_option maxRecDepth 100000 in
theorem zzmx_ok : [(3, 255), (1, 29)].all (fun e : Nat × Nat => zzin (.methodLink (zzR e.1) e.2 Lib.Math.max.name)) = true := by decide +kernel
theorem zzmm_w : zzin (.static Lib.Math.min.name) = true ∧ zzin (.static Lib.Math.max.name) = true ∧ zzin (.initialized "java/lang/Math") = true ∧ zzin (.code Lib.Math.min.name Lib.Math.min.code 2 (some .int)) = true ∧ zzin (.code Lib.Math.max.name Lib.Math.max.code 2 (some .int)) = true := by decide +kernel
theorem zzst_w : zzinN (.fieldLinkNest (zzR 2) 55 "IslandsWed" "CURRENT_SHARE" "[I" "IslandsWed") = true ∧ zzinN (.fieldLinkNest (zzR 2) 58 "IslandsWed" "WIND_SHARE" "[I" "IslandsWed") = true := by decide +kernel
set_option maxRecDepth 100000 in
theorem zzu_ok : ∀ ci, ci < 5 → (u_ws (zzR ci) (zzTT ci) (zzNN ci)).all zzin = true := by decide +kernel
theorem zzcl_at : ∀ ci, ci < 5 → vwCl[ci]? = some (zzR ci, zzTT ci, zzNN ci) := by
  intro ci h
  match ci, h with
  | 0, _ => rfl
  | 1, _ => rfl
  | 2, _ => rfl
  | 3, _ => rfl
  | 4, _ => rfl
theorem zzty_ok : ∀ ci, ci < 5 → ∀ k, k < zzNN ci → parseFieldDescriptor (zzTT ci k).2.2.1 = some (zzty ci k) := by
  intro ci h
  match ci, h with
  | 0, _ => exact tyX0_ok
  | 1, _ => exact tyX1_ok
  | 2, _ => exact tyX2_ok
  | 3, _ => exact tyX3_ok
  | 4, _ => exact tyX4_ok
theorem zznm_ok : ∀ ci, ci < 5 → ∀ a, a < zzNN ci → ∀ b, b < zzNN ci → a ≠ b → (zzTT ci a).2.1 ≠ (zzTT ci b).2.1 := by
  intro ci h
  match ci, h with
  | 0, _ => exact nmX0
  | 1, _ => exact nmX1
  | 2, _ => exact nmX2
  | 3, _ => exact nmX3
  | 4, _ => exact nmX4
theorem zzT0_good : ∀ w ∈ zzT0, ((w.onTables && w.keeps) = true ∨ ∃ ty, w = .arrayClass ty) := fun w h => good_of_word (List.mem_filter.mp h).2
theorem zzcd_ok (k : Nat) (hk : k < zzNM) : zzPC (zzm k) := zwC_all k (List.mem_range.mpr hk)
theorem zzmt_ok {o idx kd k : Nat} (h : zzmt o idx = some (kd, k)) : zzPM o idx kd k (zzm k) := zwM_all _ (zz_lookup h)
theorem zzgoodT {Ts : List Cond} (hT : ∀ w ∈ zzT0, w ∈ Ts) (k : Nat) (hk : k < zzNM) : GoodIn Ts (zzws k) := by
  have h := zzcd_ok k hk
  intro w hw
  rcases List.mem_cons.mp hw with rfl | hw
  · exact ⟨hT _ h.1, zzT0_good _ h.1⟩
  · exact ⟨hT _ hw, zzT0_good _ hw⟩
theorem zzu_in (ci : Nat) (h : ci < 5) : ∀ w ∈ u_ws (zzR ci) (zzTT ci) (zzNN ci), w ∈ zzT0 := fun w hw => zzin_mem (List.all_eq_true.mp (zzu_ok ci h) w hw)
theorem zzN0_kind : ∀ w ∈ zzN0, (∃ a i b n d h, w = .fieldLinkNest a i b n d h) ∨ ∃ a i x h, w = .methodLinkNest a i x h := by
  intro w hw
  have h := (List.mem_filter.mp hw).2
  cases w <;> first | exact Or.inl ⟨_, _, _, _, _, _, rfl⟩ | exact Or.inr ⟨_, _, _, _, rfl⟩ | exact absurd h (by simp [zzisN])
theorem zzf_ok {o idx ci sl : Nat} {ne : Bool} (h : zzf o idx = some (ci, sl, ne)) : ci < 5 ∧ sl < zzNN ci ∧ (ne = true → Cond.fieldLinkNest (zzR o) idx (zzTT ci sl).1 (zzTT ci sl).2.1 (zzTT ci sl).2.2.1 "IslandsWed" ∈ zzN0) ∧ (ne = false → Cond.fieldLink (zzR o) idx (zzTT ci sl).1 (zzTT ci sl).2.1 (zzTT ci sl).2.2.1 ∈ zzT0) := by
  have h1 := List.all_eq_true.mp zzfT_ok _ (zz_lookup h)
  simp only [zzchkF, Bool.and_eq_true, decide_eq_true_eq] at h1
  obtain ⟨⟨a, b⟩, c⟩ := h1
  refine ⟨a, b, fun e => ?_, fun e => ?_⟩
  · rw [if_pos e] at c; exact zzinN_mem c
  · rw [if_neg (by rw [e]; decide)] at c; exact zzin_mem c
