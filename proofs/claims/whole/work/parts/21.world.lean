/-! THE WORLD OF THE TWO SYSTEMS as one table of integers g: address, place; the hash apart -/
def ir (r : Nat → Int) : Nat → Int32 := fun j => iI (r j)
def iu (f : Nat → Int) (k : Nat) (z : Int) : Nat → Int := fun j => if j = k then z else f j
def gr (g : Nat → Nat → Int) (a : Nat) (f : Nat → Int) : Nat → Nat → Int := fun b => if b = a then f else g b
theorem gr_s (g : Nat → Nat → Int) (a : Nat) (f : Nat → Int) : gr g a f a = f := by simp [gr]
theorem gr_n (g : Nat → Nat → Int) {a b : Nat} (f : Nat → Int) (h : b ≠ a) : gr g a f b = g b := by simp [gr, h]
theorem gr_gr (g : Nat → Nat → Int) (a : Nat) (f f1 : Nat → Int) : gr (gr g a f) a f1 = gr g a f1 := by
  funext b
  simp only [gr]
  split <;> rfl
theorem gr_self (g : Nat → Nat → Int) (a : Nat) : gr g a (g a) = g := by
  funext b
  simp only [gr]
  split
  · next h => rw [h]
  · rfl
theorem gr_comm (g : Nat → Nat → Int) {a b : Nat} (f f1 : Nat → Int) (h : a ≠ b) : gr (gr g a f) b f1 = gr (gr g b f1) a f := by
  funext c
  simp only [gr]
  by_cases h1 : c = a
  · by_cases h2 : c = b
    · exact absurd (h1.symm.trans h2) h
    · simp [h1, h]
  · by_cases h2 : c = b
    · simp [h2, Ne.symm h]
    · simp [h1, h2]
theorem iu_s (f : Nat → Int) (k : Nat) (z : Int) : iu f k z k = z := by simp [iu]
theorem iu_n (f : Nat → Int) {k j : Nat} (z : Int) (h : j ≠ k) : iu f k z j = f j := by simp [iu, h]
theorem iu_iu (f : Nat → Int) (k : Nat) (z z1 : Int) : iu (iu f k z) k z1 = iu f k z1 := by
  funext b
  simp only [iu]
  split <;> rfl
theorem ir_iu (f : Nat → Int) {i : Int} (z : Int) (h : rg i) : upd (ir f) (iI i).toNatClampNeg (iI z) = ir (iu f i.toNat z) := by
  funext j
  rw [iI_clamp h]
  simp only [upd, ir, iu]
  split <;> rfl
def xfs (r : Nat → Int) : List Value := [.ref 1, .int (iI (r 1)), .int (iI (r 2)), .int (iI (r 3)), .int (iI (r 4)), .int (iI (r 5)), .ref 2, .ref 9, .ref 16, .ref 23, .ref 28, .ref 33, .ref 34]
def mfs (r : Nat → Int) (hh : Int64) : List Value := [.ref 40, .int (iI (r 1)), .int (iI (r 2)), .int (iI (r 3)), .int (iI (r 4)), .int (iI (r 5)), .int (iI (r 6)), .ref 41, .int (iI (r 8)), .int (iI (r 9)), .ref 42, .ref 43, .ref 44, .int (iI (r 13)), .int (iI (r 14)), .int (iI (r 15)), .int (iI (r 16)), .ref 45, .ref 46, .ref 47, .int (iI (r 20)), .int (iI (r 21)), .int (iI (r 22)), .ref 48, .int (iI (r 24)), .int (iI (r 25)), .int (iI (r 26)), .int (iI (r 27)), .int (iI (r 28)), .int (iI (r 29)), .int (iI (r 30)), .int (iI (r 31)), .ref 49, .ref 50, .ref 51, .long hh]
def wfs (a : Nat) (r : Nat → Int) : List Value := [.ref (a + 1), .ref (a + 2), .ref (a + 3), .ref (a + 4), .ref (a + 5), .ref (a + 6), .int (iI (r 6)), .int (iI (r 7)), .int (iI (r 8)), .int (iI (r 9)), .int (iI (r 10)), .int (iI (r 11))]
def sfs (a : Nat) (r : Nat → Int) : List Value := [.ref (a + 1), .ref (a + 2), .ref (a + 3), .ref (a + 4), .int (iI (r 4))]
def afs (r : Nat → Int) : List Value := [.ref 35, .ref 36, .ref 37, .ref 38, .int (iI (r 4)), .int (iI (r 5)), .int (iI (r 6))]
def wofR (k : Nat) (r : Nat → Int) (hh : Int64) : Option zzE := match k with
  | 0 => some (.inr (3, xfs r))
  | 1 => some (.inl (0, 14, ir r))
  | 2 => some (.inr (2, wfs 2 r))
  | 3 => some (.inl (0, 12, ir r))
  | 4 => some (.inl (0, 5, ir r))
  | 5 => some (.inl (0, 5, ir r))
  | 6 => some (.inl (0, 5, ir r))
  | 7 => some (.inl (0, 5, ir r))
  | 8 => some (.inl (0, 5, ir r))
  | 9 => some (.inr (2, wfs 9 r))
  | 10 => some (.inl (0, 12, ir r))
  | 11 => some (.inl (0, 5, ir r))
  | 12 => some (.inl (0, 5, ir r))
  | 13 => some (.inl (0, 5, ir r))
  | 14 => some (.inl (0, 5, ir r))
  | 15 => some (.inl (0, 5, ir r))
  | 16 => some (.inr (2, wfs 16 r))
  | 17 => some (.inl (0, 12, ir r))
  | 18 => some (.inl (0, 5, ir r))
  | 19 => some (.inl (0, 5, ir r))
  | 20 => some (.inl (0, 5, ir r))
  | 21 => some (.inl (0, 5, ir r))
  | 22 => some (.inl (0, 5, ir r))
  | 23 => some (.inr (1, sfs 23 r))
  | 24 => some (.inl (0, 8, ir r))
  | 25 => some (.inl (0, 8, ir r))
  | 26 => some (.inl (0, 8, ir r))
  | 27 => some (.inl (1, 8, ir r))
  | 28 => some (.inr (1, sfs 28 r))
  | 29 => some (.inl (0, 8, ir r))
  | 30 => some (.inl (0, 8, ir r))
  | 31 => some (.inl (0, 8, ir r))
  | 32 => some (.inl (1, 8, ir r))
  | 33 => some (.inl (0, 25, ir r))
  | 34 => some (.inr (0, afs r))
  | 35 => some (.inl (0, 5, ir r))
  | 36 => some (.inl (0, 5, ir r))
  | 37 => some (.inl (0, 5, ir r))
  | 38 => some (.inl (0, 5, ir r))
  | 39 => some (.inr (4, mfs r hh))
  | 40 => some (.inl (0, 14, ir r))
  | 41 => some (.inl (0, 12, ir r))
  | 42 => some (.inl (0, 20, ir r))
  | 43 => some (.inl (0, 12, ir r))
  | 44 => some (.inl (0, 5, ir r))
  | 45 => some (.inl (0, 25, ir r))
  | 46 => some (.inl (0, 5, ir r))
  | 47 => some (.inl (0, 5, ir r))
  | 48 => some (.inl (0, 32, ir r))
  | 49 => some (.inl (0, 20, ir r))
  | 50 => some (.inl (0, 12, ir r))
  | 51 => some (.inl (0, 32, ir r))
  | _ => none
def wof (g : Nat → Nat → Int) (hh : Int64) : zzW := fun k => wofR k (g k) hh
theorem wof_up {g : Nat → Nat → Int} {hh : Int64} {k : Nat} {r : Nat → Int} {e : zzE} (h : wofR k r hh = some e) : zzup (wof g hh) k e = wof (gr g k r) hh := by
  funext j
  by_cases hj : j = k
  · subst hj
    simp [zzup, wof, gr, h]
  · simp [zzup, wof, gr, hj]
theorem wof_upL {g : Nat → Nat → Int} {hh z : Int64} : zzup (wof g hh) 39 (.inr (4, mfs (g 39) z)) = wof g z := by
  funext j
  by_cases hj : j = 39
  · subst hj
    rfl
  · simp only [zzup, if_neg hj, wof]
    unfold wofR
    split <;> first | rfl | exact absurd rfl hj
theorem wk_0 (hh : Int64) (r : Nat → Int) : wofR 0 r hh = some (.inr (3, xfs r)) := rfl
theorem wk_1 (hh : Int64) (r : Nat → Int) : wofR 1 r hh = some (.inl (0, 14, ir r)) := rfl
theorem wk_2 (hh : Int64) (r : Nat → Int) : wofR 2 r hh = some (.inr (2, wfs 2 r)) := rfl
theorem wk_3 (hh : Int64) (r : Nat → Int) : wofR 3 r hh = some (.inl (0, 12, ir r)) := rfl
theorem wk_4 (hh : Int64) (r : Nat → Int) : wofR 4 r hh = some (.inl (0, 5, ir r)) := rfl
theorem wk_5 (hh : Int64) (r : Nat → Int) : wofR 5 r hh = some (.inl (0, 5, ir r)) := rfl
theorem wk_6 (hh : Int64) (r : Nat → Int) : wofR 6 r hh = some (.inl (0, 5, ir r)) := rfl
theorem wk_7 (hh : Int64) (r : Nat → Int) : wofR 7 r hh = some (.inl (0, 5, ir r)) := rfl
theorem wk_8 (hh : Int64) (r : Nat → Int) : wofR 8 r hh = some (.inl (0, 5, ir r)) := rfl
theorem wk_9 (hh : Int64) (r : Nat → Int) : wofR 9 r hh = some (.inr (2, wfs 9 r)) := rfl
theorem wk_10 (hh : Int64) (r : Nat → Int) : wofR 10 r hh = some (.inl (0, 12, ir r)) := rfl
theorem wk_11 (hh : Int64) (r : Nat → Int) : wofR 11 r hh = some (.inl (0, 5, ir r)) := rfl
theorem wk_12 (hh : Int64) (r : Nat → Int) : wofR 12 r hh = some (.inl (0, 5, ir r)) := rfl
theorem wk_13 (hh : Int64) (r : Nat → Int) : wofR 13 r hh = some (.inl (0, 5, ir r)) := rfl
theorem wk_14 (hh : Int64) (r : Nat → Int) : wofR 14 r hh = some (.inl (0, 5, ir r)) := rfl
theorem wk_15 (hh : Int64) (r : Nat → Int) : wofR 15 r hh = some (.inl (0, 5, ir r)) := rfl
theorem wk_16 (hh : Int64) (r : Nat → Int) : wofR 16 r hh = some (.inr (2, wfs 16 r)) := rfl
theorem wk_17 (hh : Int64) (r : Nat → Int) : wofR 17 r hh = some (.inl (0, 12, ir r)) := rfl
theorem wk_18 (hh : Int64) (r : Nat → Int) : wofR 18 r hh = some (.inl (0, 5, ir r)) := rfl
theorem wk_19 (hh : Int64) (r : Nat → Int) : wofR 19 r hh = some (.inl (0, 5, ir r)) := rfl
theorem wk_20 (hh : Int64) (r : Nat → Int) : wofR 20 r hh = some (.inl (0, 5, ir r)) := rfl
theorem wk_21 (hh : Int64) (r : Nat → Int) : wofR 21 r hh = some (.inl (0, 5, ir r)) := rfl
theorem wk_22 (hh : Int64) (r : Nat → Int) : wofR 22 r hh = some (.inl (0, 5, ir r)) := rfl
theorem wk_23 (hh : Int64) (r : Nat → Int) : wofR 23 r hh = some (.inr (1, sfs 23 r)) := rfl
theorem wk_24 (hh : Int64) (r : Nat → Int) : wofR 24 r hh = some (.inl (0, 8, ir r)) := rfl
theorem wk_25 (hh : Int64) (r : Nat → Int) : wofR 25 r hh = some (.inl (0, 8, ir r)) := rfl
theorem wk_26 (hh : Int64) (r : Nat → Int) : wofR 26 r hh = some (.inl (0, 8, ir r)) := rfl
theorem wk_27 (hh : Int64) (r : Nat → Int) : wofR 27 r hh = some (.inl (1, 8, ir r)) := rfl
theorem wk_28 (hh : Int64) (r : Nat → Int) : wofR 28 r hh = some (.inr (1, sfs 28 r)) := rfl
theorem wk_29 (hh : Int64) (r : Nat → Int) : wofR 29 r hh = some (.inl (0, 8, ir r)) := rfl
theorem wk_30 (hh : Int64) (r : Nat → Int) : wofR 30 r hh = some (.inl (0, 8, ir r)) := rfl
theorem wk_31 (hh : Int64) (r : Nat → Int) : wofR 31 r hh = some (.inl (0, 8, ir r)) := rfl
theorem wk_32 (hh : Int64) (r : Nat → Int) : wofR 32 r hh = some (.inl (1, 8, ir r)) := rfl
theorem wk_33 (hh : Int64) (r : Nat → Int) : wofR 33 r hh = some (.inl (0, 25, ir r)) := rfl
theorem wk_34 (hh : Int64) (r : Nat → Int) : wofR 34 r hh = some (.inr (0, afs r)) := rfl
theorem wk_35 (hh : Int64) (r : Nat → Int) : wofR 35 r hh = some (.inl (0, 5, ir r)) := rfl
theorem wk_36 (hh : Int64) (r : Nat → Int) : wofR 36 r hh = some (.inl (0, 5, ir r)) := rfl
theorem wk_37 (hh : Int64) (r : Nat → Int) : wofR 37 r hh = some (.inl (0, 5, ir r)) := rfl
theorem wk_38 (hh : Int64) (r : Nat → Int) : wofR 38 r hh = some (.inl (0, 5, ir r)) := rfl
theorem wk_39 (hh : Int64) (r : Nat → Int) : wofR 39 r hh = some (.inr (4, mfs r hh)) := rfl
theorem wk_40 (hh : Int64) (r : Nat → Int) : wofR 40 r hh = some (.inl (0, 14, ir r)) := rfl
theorem wk_41 (hh : Int64) (r : Nat → Int) : wofR 41 r hh = some (.inl (0, 12, ir r)) := rfl
theorem wk_42 (hh : Int64) (r : Nat → Int) : wofR 42 r hh = some (.inl (0, 20, ir r)) := rfl
theorem wk_43 (hh : Int64) (r : Nat → Int) : wofR 43 r hh = some (.inl (0, 12, ir r)) := rfl
theorem wk_44 (hh : Int64) (r : Nat → Int) : wofR 44 r hh = some (.inl (0, 5, ir r)) := rfl
theorem wk_45 (hh : Int64) (r : Nat → Int) : wofR 45 r hh = some (.inl (0, 25, ir r)) := rfl
theorem wk_46 (hh : Int64) (r : Nat → Int) : wofR 46 r hh = some (.inl (0, 5, ir r)) := rfl
theorem wk_47 (hh : Int64) (r : Nat → Int) : wofR 47 r hh = some (.inl (0, 5, ir r)) := rfl
theorem wk_48 (hh : Int64) (r : Nat → Int) : wofR 48 r hh = some (.inl (0, 32, ir r)) := rfl
theorem wk_49 (hh : Int64) (r : Nat → Int) : wofR 49 r hh = some (.inl (0, 20, ir r)) := rfl
theorem wk_50 (hh : Int64) (r : Nat → Int) : wofR 50 r hh = some (.inl (0, 12, ir r)) := rfl
theorem wk_51 (hh : Int64) (r : Nat → Int) : wofR 51 r hh = some (.inl (0, 32, ir r)) := rfl
def isW (a : Nat) : Prop := a = 2 ∨ a = 9 ∨ a = 16
def isH (a : Nat) : Prop := a = 23 ∨ a = 28
theorem wW_0 {a : Nat} (h : isW a) (hh : Int64) (r : Nat → Int) : wofR a r hh = some (.inr (2, wfs a r)) := by rcases h with rfl | rfl | rfl <;> rfl
theorem wW_1 {a : Nat} (h : isW a) (hh : Int64) (r : Nat → Int) : wofR (a + 1) r hh = some (.inl (0, 12, ir r)) := by rcases h with rfl | rfl | rfl <;> rfl
theorem wW_2 {a : Nat} (h : isW a) (hh : Int64) (r : Nat → Int) : wofR (a + 2) r hh = some (.inl (0, 5, ir r)) := by rcases h with rfl | rfl | rfl <;> rfl
theorem wW_3 {a : Nat} (h : isW a) (hh : Int64) (r : Nat → Int) : wofR (a + 3) r hh = some (.inl (0, 5, ir r)) := by rcases h with rfl | rfl | rfl <;> rfl
theorem wW_4 {a : Nat} (h : isW a) (hh : Int64) (r : Nat → Int) : wofR (a + 4) r hh = some (.inl (0, 5, ir r)) := by rcases h with rfl | rfl | rfl <;> rfl
theorem wW_5 {a : Nat} (h : isW a) (hh : Int64) (r : Nat → Int) : wofR (a + 5) r hh = some (.inl (0, 5, ir r)) := by rcases h with rfl | rfl | rfl <;> rfl
theorem wW_6 {a : Nat} (h : isW a) (hh : Int64) (r : Nat → Int) : wofR (a + 6) r hh = some (.inl (0, 5, ir r)) := by rcases h with rfl | rfl | rfl <;> rfl
theorem wH_0 {a : Nat} (h : isH a) (hh : Int64) (r : Nat → Int) : wofR a r hh = some (.inr (1, sfs a r)) := by rcases h with rfl | rfl <;> rfl
theorem wH_1 {a : Nat} (h : isH a) (hh : Int64) (r : Nat → Int) : wofR (a + 1) r hh = some (.inl (0, 8, ir r)) := by rcases h with rfl | rfl <;> rfl
theorem wH_2 {a : Nat} (h : isH a) (hh : Int64) (r : Nat → Int) : wofR (a + 2) r hh = some (.inl (0, 8, ir r)) := by rcases h with rfl | rfl <;> rfl
theorem wH_3 {a : Nat} (h : isH a) (hh : Int64) (r : Nat → Int) : wofR (a + 3) r hh = some (.inl (0, 8, ir r)) := by rcases h with rfl | rfl <;> rfl
theorem wH_4 {a : Nat} (h : isH a) (hh : Int64) (r : Nat → Int) : wofR (a + 4) r hh = some (.inl (1, 8, ir r)) := by rcases h with rfl | rfl <;> rfl
theorem wof_ok (g : Nat → Nat → Int) (hh : Int64) : zzok 52 (wof g hh) := by
  intro k
  by_cases h : k < 52
  · simp only [h, iff_true]
    have : ∀ k, k < 52 → ∀ r, (wofR k r hh).isSome = true := by
      intro k h r
      match k, h with
      | 0, _ => rfl
      | 1, _ => rfl
      | 2, _ => rfl
      | 3, _ => rfl
      | 4, _ => rfl
      | 5, _ => rfl
      | 6, _ => rfl
      | 7, _ => rfl
      | 8, _ => rfl
      | 9, _ => rfl
      | 10, _ => rfl
      | 11, _ => rfl
      | 12, _ => rfl
      | 13, _ => rfl
      | 14, _ => rfl
      | 15, _ => rfl
      | 16, _ => rfl
      | 17, _ => rfl
      | 18, _ => rfl
      | 19, _ => rfl
      | 20, _ => rfl
      | 21, _ => rfl
      | 22, _ => rfl
      | 23, _ => rfl
      | 24, _ => rfl
      | 25, _ => rfl
      | 26, _ => rfl
      | 27, _ => rfl
      | 28, _ => rfl
      | 29, _ => rfl
      | 30, _ => rfl
      | 31, _ => rfl
      | 32, _ => rfl
      | 33, _ => rfl
      | 34, _ => rfl
      | 35, _ => rfl
      | 36, _ => rfl
      | 37, _ => rfl
      | 38, _ => rfl
      | 39, _ => rfl
      | 40, _ => rfl
      | 41, _ => rfl
      | 42, _ => rfl
      | 43, _ => rfl
      | 44, _ => rfl
      | 45, _ => rfl
      | 46, _ => rfl
      | 47, _ => rfl
      | 48, _ => rfl
      | 49, _ => rfl
      | 50, _ => rfl
      | 51, _ => rfl
      | n + 52, h => exact absurd h (by omega)
    exact this k h _
  · simp only [h, iff_false]
    have : wofR k (g k) hh = none := by
      unfold wofR
      split <;> first | omega | rfl
    show ¬ (wofR k (g k) hh).isSome = true
    rw [this]
    decide
section GW
variable {zs : zzT} {CL : zzK} {cc : ByteArray} {o nL : Nat} {rt : Option FieldType} {Q : zzQ} {R : zzS} {pc : Nat} {ls : zzL} {st : List Value} {w : zzW} {g : Nat → Nat → Int} {hh : Int64}
theorem g_iconst (h : zzC zs CL cc o nL rt Q R) {n : Int} (hd : decode cc pc = .ok (.iconst n, 1)) (kk : R (pc + 1) ls (.int (iI n) :: st) (w)) : R (pc) ls (st) (w) := z_iconst h hd rfl kk
theorem g_bipush (h : zzC zs CL cc o nL rt Q R) {n : Int} (hd : decode cc pc = .ok (.bipush n, 2)) (kk : R (pc + 2) ls (.int (iI n) :: st) (w)) (hv : (Int8.ofInt n).toInt32 = iI n := by decide) : R (pc) ls (st) (w) := z_bipush h hd hv kk
theorem g_iinc (h : zzC zs CL cc o nL rt Q R) {i : Nat} {n z v : Int} {ls1 : zzL} (hd : decode cc pc = .ok (.iinc i n, 3)) (hg : zzget ls i = some (.int (iI z))) (hv : z + n = v) (hn : i < nL) (hp : zzput ls i (.int (iI v)) = ls1) (kk : R (pc + 3) ls1 (st) (w)) : R (pc) ls (st) (w) := z_iinc h hd hg (by rw [← hv]; exact iI_add z n) hn hp kk
theorem g_iadd (h : zzC zs CL cc o nL rt Q R) {x y v : Int} (hd : decode cc pc = .ok (.iadd, 1)) (hv : x + y = v) (kk : R (pc + 1) ls (.int (iI v) :: st) (w)) : R (pc) ls (.int (iI y) :: .int (iI x) :: st) (w) := z_iadd h hd (by rw [← hv]; exact iI_add x y) kk
theorem g_isub (h : zzC zs CL cc o nL rt Q R) {x y v : Int} (hd : decode cc pc = .ok (.isub, 1)) (hv : x - y = v) (kk : R (pc + 1) ls (.int (iI v) :: st) (w)) : R (pc) ls (.int (iI y) :: .int (iI x) :: st) (w) := z_isub h hd (by rw [← hv]; exact iI_sub x y) kk
theorem g_imul (h : zzC zs CL cc o nL rt Q R) {x y v : Int} (hd : decode cc pc = .ok (.imul, 1)) (hv : x * y = v) (kk : R (pc + 1) ls (.int (iI v) :: st) (w)) : R (pc) ls (.int (iI y) :: .int (iI x) :: st) (w) := z_imul h hd (by rw [← hv]; exact iI_mul x y) kk
theorem g_ineg (h : zzC zs CL cc o nL rt Q R) {x v : Int} (hd : decode cc pc = .ok (.ineg, 1)) (hv : -x = v) (kk : R (pc + 1) ls (.int (iI v) :: st) (w)) : R (pc) ls (.int (iI x) :: st) (w) := z_ineg h hd (by rw [← hv]; exact iI_neg x) kk
theorem g_idiv (h : zzC zs CL cc o nL rt Q R) {x y v : Int} (hd : decode cc pc = .ok (.idiv, 1)) (hv : x / y = v) (kk : R (pc + 1) ls (.int (iI v) :: st) (w)) (hx : 0 ≤ x := by omega) (hx2 : x < 2147483648 := by omega) (hy : 0 < y := by omega) (hy2 : y < 2147483648 := by omega) : R (pc) ls (.int (iI y) :: .int (iI x) :: st) (w) := z_idiv h hd (iI_ne0 ⟨by omega, hy2⟩ (by omega)) (by rw [← hv]; exact iI_div hx hx2 hy hy2) kk
theorem g_irem (h : zzC zs CL cc o nL rt Q R) {x y v : Int} (hd : decode cc pc = .ok (.irem, 1)) (hv : x % y = v) (kk : R (pc + 1) ls (.int (iI v) :: st) (w)) (hx : 0 ≤ x := by omega) (hx2 : x < 2147483648 := by omega) (hy : 0 < y := by omega) (hy2 : y < 2147483648 := by omega) : R (pc) ls (.int (iI y) :: .int (iI x) :: st) (w) := z_irem h hd (iI_ne0 ⟨by omega, hy2⟩ (by omega)) (by rw [← hv]; exact iI_rem hx hx2 hy hy2) kk
theorem g_iand (h : zzC zs CL cc o nL rt Q R) {x y : Nat} (hd : decode cc pc = .ok (.iand, 1)) (kk : R (pc + 1) ls (.int (iI ((x &&& y : Nat) : Int)) :: st) (w)) : R (pc) ls (.int (iI (y : Int)) :: .int (iI (x : Int)) :: st) (w) := z_iand h hd (iI_and x y) kk
theorem g_iandn (h : zzC zs CL cc o nL rt Q R) {x y : Nat} (hd : decode cc pc = .ok (.iand, 1)) (kk : R (pc + 1) ls (.int (iI ((x ^^^ (x &&& y) : Nat) : Int)) :: st) (w)) : R (pc) ls (.int (iI (-(y : Int) - 1)) :: .int (iI (x : Int)) :: st) (w) := z_iand h hd (iI_andnot x y) kk
theorem g_iand1 (h : zzC zs CL cc o nL rt Q R) {x v : Int} (hd : decode cc pc = .ok (.iand, 1)) (hv : x % 2 = v) (kk : R (pc + 1) ls (.int (iI v) :: st) (w)) : R (pc) ls (.int (iI 1) :: .int (iI x) :: st) (w) := z_iand h hd (by rw [← hv]; exact iI_and1 x) kk
theorem g_ior (h : zzC zs CL cc o nL rt Q R) {x y : Nat} (hd : decode cc pc = .ok (.ior, 1)) (kk : R (pc + 1) ls (.int (iI ((x ||| y : Nat) : Int)) :: st) (w)) : R (pc) ls (.int (iI (y : Int)) :: .int (iI (x : Int)) :: st) (w) := z_ior h hd (iI_or x y) kk
theorem g_inot (h : zzC zs CL cc o nL rt Q R) {x v : Int} (hd : decode cc pc = .ok (.ixor, 1)) (hv : -x - 1 = v) (kk : R (pc + 1) ls (.int (iI v) :: st) (w)) : R (pc) ls (.int (iI (-1)) :: .int (iI x) :: st) (w) := z_ixor h hd (by rw [← hv]; exact iI_not x) kk
theorem g_ishl (h : zzC zs CL cc o nL rt Q R) {x z v : Int} (hd : decode cc pc = .ok (.ishl, 1)) (hv : x * 2 ^ z.toNat = v) (h4 : v < 2147483648) (kk : R (pc + 1) ls (.int (iI v) :: st) (w)) (hx : 0 ≤ x := by omega) (h0 : 0 ≤ z := by omega) (h1 : z < 32 := by omega) : R (pc) ls (.int (iI z) :: .int (iI x) :: st) (w) := z_ishl h hd (by rw [iI_shl hx h0 h1 (by rw [hv]; exact h4), hv]) kk
theorem g_ishr (h : zzC zs CL cc o nL rt Q R) {x z v : Int} (hd : decode cc pc = .ok (.ishr, 1)) (hv : x / 2 ^ z.toNat = v) (kk : R (pc + 1) ls (.int (iI v) :: st) (w)) (hx : rg x := by first | assumption | exact b2i_rg _ | (unfold rg; omega)) (h0 : 0 ≤ z := by omega) (h1 : z < 32 := by omega) : R (pc) ls (.int (iI z) :: .int (iI x) :: st) (w) := z_ishr h hd (by rw [iI_shr hx h0 h1, hv]) kk
theorem g_ishrN (h : zzC zs CL cc o nL rt Q R) {x v : Int} {i : Nat} (hd : decode cc pc = .ok (.ishr, 1)) (hv : x / 2 ^ i = v) (kk : R (pc + 1) ls (.int (iI v) :: st) (w)) (hx : rg x := by first | assumption | exact b2i_rg _ | (unfold rg; omega)) (h1 : i < 32 := by omega) : R (pc) ls (.int (iI (i : Int)) :: .int (iI x) :: st) (w) := g_ishr h hd hv kk hx
theorem g_i2l (h : zzC zs CL cc o nL rt Q R) {x : Int} (hd : decode cc pc = .ok (.i2l, 1)) (kk : R (pc + 1) ls (.long (lI x) :: st) (w)) (hx : rg x := by first | assumption | exact b2i_rg _ | (unfold rg; omega)) : R (pc) ls (.int (iI x) :: st) (w) := z_i2l h hd (lI_i hx) kk
theorem g_lcmp (h : zzC zs CL cc o nL rt Q R) {x y v : Int} (hd : decode cc pc = .ok (.lcmp, 1)) (hv : (if y < x then 1 else if x = y then 0 else -1) = v) (kk : R (pc + 1) ls (.int (iI v) :: st) (w)) (hx : rg x := by first | assumption | exact b2i_rg _ | (unfold rg; omega)) (hy : rg y := by first | assumption | exact b2i_rg _ | (unfold rg; omega)) : R (pc) ls (.long (lI y) :: .long (lI x) :: st) (w) := z_lcmp h hd (by rw [lI_cmp hx hy, hv]) kk
theorem g_if_eq (h : zzC zs CL cc o nL rt Q R) {x off : Int} {tgt : Nat} (hd : decode cc pc = .ok (.ifCond .eq off, 3)) (ht : (pc : Int) + off = (tgt : Int)) (kt : x = 0 → R tgt ls st w) (kf : x ≠ 0 → R (pc + 3) ls st w) (hx : rg x := by first | assumption | exact b2i_rg _ | (unfold rg; omega)) : R (pc) ls (.int (iI x) :: st) (w) := z_if_eq h hd ht (fun q => kt ((iI_eq hx (show rg 0 by unfold rg; omega)).mp q)) (fun q => kf (fun q1 => q (congrArg iI q1)))
theorem g_if_ne (h : zzC zs CL cc o nL rt Q R) {x off : Int} {tgt : Nat} (hd : decode cc pc = .ok (.ifCond .ne off, 3)) (ht : (pc : Int) + off = (tgt : Int)) (kt : x ≠ 0 → R tgt ls st w) (kf : x = 0 → R (pc + 3) ls st w) (hx : rg x := by first | assumption | exact b2i_rg _ | (unfold rg; omega)) : R (pc) ls (.int (iI x) :: st) (w) := z_if_ne h hd ht (fun q => kt (fun q1 => q (congrArg iI q1))) (fun q => kf ((iI_eq hx (show rg 0 by unfold rg; omega)).mp q))
theorem g_if_lt (h : zzC zs CL cc o nL rt Q R) {x off : Int} {tgt : Nat} (hd : decode cc pc = .ok (.ifCond .lt off, 3)) (ht : (pc : Int) + off = (tgt : Int)) (kt : x < 0 → R tgt ls st w) (kf : 0 ≤ x → R (pc + 3) ls st w) (hx : rg x := by first | assumption | exact b2i_rg _ | (unfold rg; omega)) : R (pc) ls (.int (iI x) :: st) (w) := z_if_lt h hd ht (fun q => kt ((iI_lt hx (show rg 0 by unfold rg; omega)).mp q)) (fun q => kf (Int.not_lt.mp (fun q1 => q ((iI_lt hx (show rg 0 by unfold rg; omega)).mpr q1))))
theorem g_if_ge (h : zzC zs CL cc o nL rt Q R) {x off : Int} {tgt : Nat} (hd : decode cc pc = .ok (.ifCond .ge off, 3)) (ht : (pc : Int) + off = (tgt : Int)) (kt : 0 ≤ x → R tgt ls st w) (kf : x < 0 → R (pc + 3) ls st w) (hx : rg x := by first | assumption | exact b2i_rg _ | (unfold rg; omega)) : R (pc) ls (.int (iI x) :: st) (w) := z_if_ge h hd ht (fun q => kt ((iI_le (show rg 0 by unfold rg; omega) hx).mp q)) (fun q => kf (Int.not_le.mp (fun q1 => q ((iI_le (show rg 0 by unfold rg; omega) hx).mpr q1))))
theorem g_if_gt (h : zzC zs CL cc o nL rt Q R) {x off : Int} {tgt : Nat} (hd : decode cc pc = .ok (.ifCond .gt off, 3)) (ht : (pc : Int) + off = (tgt : Int)) (kt : 0 < x → R tgt ls st w) (kf : x ≤ 0 → R (pc + 3) ls st w) (hx : rg x := by first | assumption | exact b2i_rg _ | (unfold rg; omega)) : R (pc) ls (.int (iI x) :: st) (w) := z_if_gt h hd ht (fun q => kt ((iI_lt (show rg 0 by unfold rg; omega) hx).mp q)) (fun q => kf (Int.not_lt.mp (fun q1 => q ((iI_lt (show rg 0 by unfold rg; omega) hx).mpr q1))))
theorem g_if_le (h : zzC zs CL cc o nL rt Q R) {x off : Int} {tgt : Nat} (hd : decode cc pc = .ok (.ifCond .le off, 3)) (ht : (pc : Int) + off = (tgt : Int)) (kt : x ≤ 0 → R tgt ls st w) (kf : 0 < x → R (pc + 3) ls st w) (hx : rg x := by first | assumption | exact b2i_rg _ | (unfold rg; omega)) : R (pc) ls (.int (iI x) :: st) (w) := z_if_le h hd ht (fun q => kt ((iI_le hx (show rg 0 by unfold rg; omega)).mp q)) (fun q => kf (Int.not_le.mp (fun q1 => q ((iI_le hx (show rg 0 by unfold rg; omega)).mpr q1))))
theorem g_icmp_eq (h : zzC zs CL cc o nL rt Q R) {x y off : Int} {tgt : Nat} (hd : decode cc pc = .ok (.if_icmp .eq off, 3)) (ht : (pc : Int) + off = (tgt : Int)) (kt : x = y → R tgt ls st w) (kf : x ≠ y → R (pc + 3) ls st w) (hx : rg x := by first | assumption | exact b2i_rg _ | (unfold rg; omega)) (hy : rg y := by first | assumption | exact b2i_rg _ | (unfold rg; omega)) : R (pc) ls (.int (iI y) :: .int (iI x) :: st) (w) := z_icmp_eq h hd ht (fun q => kt ((iI_eq hx hy).mp q)) (fun q => kf (fun q1 => q (congrArg iI q1)))
theorem g_icmp_ne (h : zzC zs CL cc o nL rt Q R) {x y off : Int} {tgt : Nat} (hd : decode cc pc = .ok (.if_icmp .ne off, 3)) (ht : (pc : Int) + off = (tgt : Int)) (kt : x ≠ y → R tgt ls st w) (kf : x = y → R (pc + 3) ls st w) (hx : rg x := by first | assumption | exact b2i_rg _ | (unfold rg; omega)) (hy : rg y := by first | assumption | exact b2i_rg _ | (unfold rg; omega)) : R (pc) ls (.int (iI y) :: .int (iI x) :: st) (w) := z_icmp_ne h hd ht (fun q => kt (fun q1 => q (congrArg iI q1))) (fun q => kf ((iI_eq hx hy).mp q))
theorem g_icmp_lt (h : zzC zs CL cc o nL rt Q R) {x y off : Int} {tgt : Nat} (hd : decode cc pc = .ok (.if_icmp .lt off, 3)) (ht : (pc : Int) + off = (tgt : Int)) (kt : x < y → R tgt ls st w) (kf : y ≤ x → R (pc + 3) ls st w) (hx : rg x := by first | assumption | exact b2i_rg _ | (unfold rg; omega)) (hy : rg y := by first | assumption | exact b2i_rg _ | (unfold rg; omega)) : R (pc) ls (.int (iI y) :: .int (iI x) :: st) (w) := z_icmp_lt h hd ht (fun q => kt ((iI_lt hx hy).mp q)) (fun q => kf (Int.not_lt.mp (fun q1 => q ((iI_lt hx hy).mpr q1))))
theorem g_icmp_ge (h : zzC zs CL cc o nL rt Q R) {x y off : Int} {tgt : Nat} (hd : decode cc pc = .ok (.if_icmp .ge off, 3)) (ht : (pc : Int) + off = (tgt : Int)) (kt : y ≤ x → R tgt ls st w) (kf : x < y → R (pc + 3) ls st w) (hx : rg x := by first | assumption | exact b2i_rg _ | (unfold rg; omega)) (hy : rg y := by first | assumption | exact b2i_rg _ | (unfold rg; omega)) : R (pc) ls (.int (iI y) :: .int (iI x) :: st) (w) := z_icmp_ge h hd ht (fun q => kt ((iI_le hy hx).mp q)) (fun q => kf (Int.not_le.mp (fun q1 => q ((iI_le hy hx).mpr q1))))
theorem g_icmp_gt (h : zzC zs CL cc o nL rt Q R) {x y off : Int} {tgt : Nat} (hd : decode cc pc = .ok (.if_icmp .gt off, 3)) (ht : (pc : Int) + off = (tgt : Int)) (kt : y < x → R tgt ls st w) (kf : x ≤ y → R (pc + 3) ls st w) (hx : rg x := by first | assumption | exact b2i_rg _ | (unfold rg; omega)) (hy : rg y := by first | assumption | exact b2i_rg _ | (unfold rg; omega)) : R (pc) ls (.int (iI y) :: .int (iI x) :: st) (w) := z_icmp_gt h hd ht (fun q => kt ((iI_lt hy hx).mp q)) (fun q => kf (Int.not_lt.mp (fun q1 => q ((iI_lt hy hx).mpr q1))))
theorem g_icmp_le (h : zzC zs CL cc o nL rt Q R) {x y off : Int} {tgt : Nat} (hd : decode cc pc = .ok (.if_icmp .le off, 3)) (ht : (pc : Int) + off = (tgt : Int)) (kt : x ≤ y → R tgt ls st w) (kf : y < x → R (pc + 3) ls st w) (hx : rg x := by first | assumption | exact b2i_rg _ | (unfold rg; omega)) (hy : rg y := by first | assumption | exact b2i_rg _ | (unfold rg; omega)) : R (pc) ls (.int (iI y) :: .int (iI x) :: st) (w) := z_icmp_le h hd ht (fun q => kt ((iI_le hx hy).mp q)) (fun q => kf (Int.not_le.mp (fun q1 => q ((iI_le hx hy).mpr q1))))
theorem b2i_0 {b : Bool} (h : b2i b = 0) : b = false := by
  cases b
  · rfl
  · exact absurd h (by decide)
theorem b2i_1 {b : Bool} (h : b2i b ≠ 0) : b = true := by
  cases b
  · exact absurd rfl h
  · rfl
theorem g_if_eqb (h : zzC zs CL cc o nL rt Q R) {b : Bool} {off : Int} {tgt : Nat} (hd : decode cc pc = .ok (.ifCond .eq off, 3)) (ht : (pc : Int) + off = (tgt : Int)) (kt : b = false → R tgt ls st w) (kf : b = true → R (pc + 3) ls st w) : R (pc) ls (.int (iI (b2i b)) :: st) (w) := g_if_eq h hd ht (fun q => kt (b2i_0 q)) (fun q => kf (b2i_1 q))
theorem g_if_neb (h : zzC zs CL cc o nL rt Q R) {b : Bool} {off : Int} {tgt : Nat} (hd : decode cc pc = .ok (.ifCond .ne off, 3)) (ht : (pc : Int) + off = (tgt : Int)) (kt : b = true → R tgt ls st w) (kf : b = false → R (pc + 3) ls st w) : R (pc) ls (.int (iI (b2i b)) :: st) (w) := g_if_ne h hd ht (fun q => kt (b2i_1 q)) (fun q => kf (b2i_0 q))
theorem g_get (h : zzC zs CL cc o nL rt Q R) {idx ci sl a : Nat} {ne : Bool} {F : (Nat → Int) → List Value} {v : Value} (hd : decode cc pc = .ok (.getfield idx, 3)) (hf : zzf o idx = some (ci, sl, ne)) (hw : ∀ r, wofR a r hh = some (.inr (ci, F r))) (hv : (F (g a))[sl]? = some v) (kk : R (pc + 3) ls (v :: st) (wof g hh)) : R (pc) ls (.ref a :: st) (wof g hh) := z_get h hd hf (hw (g a)) hv kk
theorem g_put (h : zzC zs CL cc o nL rt Q R) {idx ci sl a : Nat} {ne : Bool} {F : (Nat → Int) → List Value} {z : Int} (hd : decode cc pc = .ok (.putfield idx, 3)) (hf : zzf o idx = some (ci, sl, ne)) (hw : ∀ r, wofR a r hh = some (.inr (ci, F r))) (hlt : sl < (F (g a)).length) (hfin : (zzTT ci sl).2.2.2 = false) (hn : narrow (zzty ci sl) (.int (iI z)) = .int (iI z)) (hfit : fits (zzty ci sl) (.int (iI z)) = true) (hs : (F (g a)).set sl (.int (iI z)) = F (iu (g a) sl z)) (kk : R (pc + 3) ls (st) (wof (gr g a (iu (g a) sl z)) hh)) : R (pc) ls (.int (iI z) :: .ref a :: st) (wof g hh) := z_puti h hd hf (hw (g a)) hlt hfin hn hfit (by rw [hs, wof_up (hw (iu (g a) sl z))]; exact kk)
theorem g_iald (h : zzC zs CL cc o nL rt Q R) {a n : Nat} {i v : Int} (hd : decode cc pc = .ok (.iaload, 1)) (hw : ∀ r, wofR a r hh = some (.inl (0, n, ir r))) (hv : g a i.toNat = v) (kk : R (pc + 1) ls (.int (iI v) :: st) (wof g hh)) (h0 : 0 ≤ i := by omega) (h1 : i < n := by omega) (hn : (n : Int) < 2147483648 := by decide) : R (pc) ls (.int (iI i) :: .ref a :: st) (wof g hh) := z_iald h hd (hw (g a)) (iI_in h0 h1 hn) (by rw [iI_clamp ⟨by omega, by omega⟩, ← hv]; rfl) kk
theorem g_zald (h : zzC zs CL cc o nL rt Q R) {a n : Nat} {i v : Int} (hd : decode cc pc = .ok (.baload, 1)) (hw : ∀ r, wofR a r hh = some (.inl (1, n, ir r))) (hv : g a i.toNat = v) (kk : R (pc + 1) ls (.int (iI v) :: st) (wof g hh)) (h0 : 0 ≤ i := by omega) (h1 : i < n := by omega) (hn : (n : Int) < 2147483648 := by decide) : R (pc) ls (.int (iI i) :: .ref a :: st) (wof g hh) := z_zald h hd (hw (g a)) (iI_in h0 h1 hn) (by rw [iI_clamp ⟨by omega, by omega⟩, ← hv]; rfl) kk
theorem g_tald (h : zzC zs CL cc o nL rt Q R) {a n : Nat} {f : Nat → Int} {i v : Int} (hd : decode cc pc = .ok (.iaload, 1)) (hw : zs a = some (n, ir f)) (hv : f i.toNat = v) (kk : R (pc + 1) ls (.int (iI v) :: st) (w)) (h0 : 0 ≤ i := by omega) (h1 : i < n := by omega) (hn : (n : Int) < 2147483648 := by omega) : R (pc) ls (.int (iI i) :: .ref a :: st) (w) := z_tald h hd hw (iI_in h0 h1 hn) (by rw [iI_clamp ⟨by omega, by omega⟩, ← hv]; rfl) kk
theorem g_iast (h : zzC zs CL cc o nL rt Q R) {a n : Nat} {i z : Int} (hd : decode cc pc = .ok (.iastore, 1)) (hw : ∀ r, wofR a r hh = some (.inl (0, n, ir r))) (kk : R (pc + 1) ls (st) (wof (gr g a (iu (g a) i.toNat z)) hh)) (h0 : 0 ≤ i := by omega) (h1 : i < n := by omega) (hn : (n : Int) < 2147483648 := by decide) : R (pc) ls (.int (iI z) :: .int (iI i) :: .ref a :: st) (wof g hh) := z_iast h hd (hw (g a)) (iI_in h0 h1 hn) (by rw [ir_iu _ _ ⟨by omega, by omega⟩, wof_up (hw _)]; exact kk)
theorem g_ialdN (h : zzC zs CL cc o nL rt Q R) {a n i : Nat} {v : Int} (hd : decode cc pc = .ok (.iaload, 1)) (hw : ∀ r, wofR a r hh = some (.inl (0, n, ir r))) (hv : g a i = v) (kk : R (pc + 1) ls (.int (iI v) :: st) (wof g hh)) (h1 : i < n := by omega) (hn : (n : Int) < 2147483648 := by decide) : R (pc) ls (.int (iI (i : Int)) :: .ref a :: st) (wof g hh) := g_iald h hd hw hv kk (hn := hn)
theorem g_zaldN (h : zzC zs CL cc o nL rt Q R) {a n i : Nat} {v : Int} (hd : decode cc pc = .ok (.baload, 1)) (hw : ∀ r, wofR a r hh = some (.inl (1, n, ir r))) (hv : g a i = v) (kk : R (pc + 1) ls (.int (iI v) :: st) (wof g hh)) (h1 : i < n := by omega) (hn : (n : Int) < 2147483648 := by decide) : R (pc) ls (.int (iI (i : Int)) :: .ref a :: st) (wof g hh) := g_zald h hd hw hv kk (hn := hn)
theorem g_taldN (h : zzC zs CL cc o nL rt Q R) {a n i : Nat} {f : Nat → Int} {v : Int} (hd : decode cc pc = .ok (.iaload, 1)) (hw : zs a = some (n, ir f)) (hv : f i = v) (kk : R (pc + 1) ls (.int (iI v) :: st) (w)) (h1 : i < n := by omega) (hn : (n : Int) < 2147483648 := by omega) : R (pc) ls (.int (iI (i : Int)) :: .ref a :: st) (w) := g_tald h hd hw hv kk (hn := hn)
theorem g_iastN (h : zzC zs CL cc o nL rt Q R) {a n i : Nat} {z : Int} (hd : decode cc pc = .ok (.iastore, 1)) (hw : ∀ r, wofR a r hh = some (.inl (0, n, ir r))) (kk : R (pc + 1) ls (st) (wof (gr g a (iu (g a) i z)) hh)) (h1 : i < n := by omega) (hn : (n : Int) < 2147483648 := by decide) : R (pc) ls (.int (iI z) :: .int (iI (i : Int)) :: .ref a :: st) (wof g hh) := g_iast h hd hw kk (hn := hn)
theorem nar_b2i (b : Bool) : vp_nar .boolean (iI (b2i b)) = iI (b2i b) := by cases b <;> decide
theorem g_zast (h : zzC zs CL cc o nL rt Q R) {a n : Nat} {i : Int} {b : Bool} (hd : decode cc pc = .ok (.bastore, 1)) (hw : ∀ r, wofR a r hh = some (.inl (1, n, ir r))) (kk : R (pc + 1) ls (st) (wof (gr g a (iu (g a) i.toNat (b2i b))) hh)) (h0 : 0 ≤ i := by omega) (h1 : i < n := by omega) (hn : (n : Int) < 2147483648 := by decide) : R (pc) ls (.int (iI (b2i b)) :: .int (iI i) :: .ref a :: st) (wof g hh) := z_zast h hd (hw (g a)) (iI_in h0 h1 hn) (by rw [nar_b2i, ir_iu _ _ ⟨by omega, by omega⟩, wof_up (hw _)]; exact kk)
theorem g_iret (h : zzC zs CL cc o nL rt Q R) {v : Int} (hd : decode cc pc = .ok (.ireturn, 1)) (hrt : rt = some .int) (kk : Q [.int (iI v)] w) : R (pc) ls ([.int (iI v)]) (w) := z_iret h (st := []) hd hrt rfl kk
theorem g_zret (h : zzC zs CL cc o nL rt Q R) {b : Bool} (hd : decode cc pc = .ok (.ireturn, 1)) (hrt : rt = some .boolean) (kk : Q [.int (iI (b2i b))] w) : R (pc) ls ([.int (iI (b2i b))]) (w) := z_iret h (st := []) hd hrt (by cases b <;> rfl) kk
theorem g_vret (h : zzC zs CL cc o nL rt Q R) (hd : decode cc pc = .ok (.return_, 1)) (hrt : rt = none) (kk : Q [] w) : R (pc) ls ([]) (w) := z_vret h (st := []) hd hrt kk
theorem g_lret (h : zzC zs CL cc o nL rt Q R) {v : Int64} (hd : decode cc pc = .ok (.lreturn, 1)) (hrt : rt = some .long) (kk : Q [.long v] w) : R (pc) ls ([.long v]) (w) := z_lret h (st := []) hd hrt kk
theorem g_mmn (h : zzC zs CL cc o nL rt Q R) {idx : Nat} {x y v : Int} (hd : decode cc pc = .ok (.invokestatic idx, 3)) (hm : zzmn o idx = true) (hv : (if y < x then y else x) = v) (hst : (st.map fun v => v.category).sum ≤ 8) (kk : R (pc + 3) ls (.int (iI v) :: st) (w)) (hx : rg x := by first | assumption | exact b2i_rg _ | (unfold rg; omega)) (hy : rg y := by first | assumption | exact b2i_rg _ | (unfold rg; omega)) : R (pc) ls (.int (iI y) :: .int (iI x) :: st) (w) := z_mmn h hd hm (by rw [← hv]; by_cases q : y < x <;> simp [iI_lt hy hx, q]) hst kk
theorem g_mmx (h : zzC zs CL cc o nL rt Q R) {idx : Nat} {x y v : Int} (hd : decode cc pc = .ok (.invokestatic idx, 3)) (hm : zzmx o idx = true) (hv : (if x < y then y else x) = v) (hst : (st.map fun v => v.category).sum ≤ 8) (kk : R (pc + 3) ls (.int (iI v) :: st) (w)) (hx : rg x := by first | assumption | exact b2i_rg _ | (unfold rg; omega)) (hy : rg y := by first | assumption | exact b2i_rg _ | (unfold rg; omega)) : R (pc) ls (.int (iI y) :: .int (iI x) :: st) (w) := z_mmx h hd hm (by rw [← hv]; by_cases q : x < y <;> simp [iI_lt hx hy, q]) hst kk
theorem g_zastN (h : zzC zs CL cc o nL rt Q R) {a n i : Nat} {b : Bool} (hd : decode cc pc = .ok (.bastore, 1)) (hw : ∀ r, wofR a r hh = some (.inl (1, n, ir r))) (kk : R (pc + 1) ls (st) (wof (gr g a (iu (g a) i (b2i b))) hh)) (h1 : i < n := by omega) (hn : (n : Int) < 2147483648 := by decide) : R (pc) ls (.int (iI (b2i b)) :: .int (iI (i : Int)) :: .ref a :: st) (wof g hh) := g_zast h hd hw kk (hn := hn)
end GW
