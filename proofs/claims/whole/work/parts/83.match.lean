/-! MATCHES -/
def lk (sz : FI) (b : Nat) (t : Int) : Bool := decide (t = -1) || (decide (sz t.toNat < sz b) || (decide (sz b = sz t.toNat) && decide ((b : Int) < t)))
def mtB (n : Nat) (mB : Nat → Nat → Bool) (h : FI) : Bool := (List.range n).all fun i => decide (h i = -1) || (decide (h i ≠ (i : Int)) && (decide (h (h i).toNat = (i : Int)) && mB i (h i).toNat))
def bad (mB : Nat → Nat → Bool) (sz h : FI) (a b : Nat) : Bool := mB a b && (decide (h a ≠ (b : Int)) && (lk sz b (h a) && lk sz a (h b)))
def stB (n : Nat) (mB : Nat → Nat → Bool) (sz h : FI) : Bool := (List.range n).all fun a => (List.range n).all fun b => !(decide (a < b) && bad mB sz h a b)
def prB (n : Nat) (h : FI) : Int := cnt (fun j => decide ((j : Int) < h j)) n
theorem mtB_iff {n : Nat} {mB : Nat → Nat → Bool} {h : FI} : mtB n mB h = true ↔ ∀ i, i < n → h i = -1 ∨ (h i ≠ (i : Int) ∧ h (h i).toNat = (i : Int) ∧ mB i (h i).toNat = true) := by
  unfold mtB
  simp only [List.all_eq_true, List.mem_range, Bool.or_eq_true, Bool.and_eq_true, decide_eq_true_eq]
theorem stB_iff {n : Nat} {mB : Nat → Nat → Bool} {sz h : FI} : stB n mB sz h = true ↔ ∀ a b, a < b → b < n → bad mB sz h a b = false := by
  unfold stB
  simp only [List.all_eq_true, List.mem_range]
  constructor
  · intro q a b hab hb
    have := q a (by omega) b hb
    rw [decide_eq_true hab, Bool.true_and] at this
    cases e : bad mB sz h a b
    · rfl
    · rw [e] at this; exact absurd this (by decide)
  · intro q a ha b hb
    by_cases hab : a < b
    · rw [q a b hab hb, Bool.and_false]; rfl
    · rw [decide_eq_false hab]; rfl
theorem beq_of_iff {a b : Bool} (h : a = true ↔ b = true) : a = b := by
  cases a <;> cases b
  · rfl
  · exact h.mpr rfl
  · exact (h.mp rfl).symm
  · rfl
def hrg (n : Nat) (h : FI) : Prop := ∀ j, j < n → -1 ≤ h j ∧ h j < n
theorem mtB_congr {n : Nat} {mB mB1 : Nat → Nat → Bool} {h h1 : FI} (hr : hrg n h) (e : eqn n h h1) (hm : ∀ a b, a < n → b < n → mB a b = mB1 a b) : mtB n mB h = mtB n mB1 h1 := by
  refine beq_of_iff ?_
  rw [mtB_iff, mtB_iff]
  refine forall_congr' fun i => forall_congr' fun hi => ?_
  rw [← e i hi]
  have := hr i hi
  by_cases q : h i = -1
  · simp [q]
  · rw [← e (h i).toNat (by omega), hm i (h i).toNat hi (by omega)]
theorem lk_congr {n : Nat} {sz sz1 : FI} (hs : eqn n sz sz1) {b : Nat} (hb : b < n) {t : Int} (ht : -1 ≤ t ∧ t < n) : lk sz b t = lk sz1 b t := by
  unfold lk
  by_cases q : t = -1
  · simp [q]
  · rw [hs b hb, hs t.toNat (by omega)]
theorem stB_congr {n : Nat} {mB mB1 : Nat → Nat → Bool} {sz sz1 h h1 : FI} (hr : hrg n h) (e : eqn n h h1) (hm : ∀ a b, a < n → b < n → mB a b = mB1 a b) (hs : eqn n sz sz1) : stB n mB sz h = stB n mB1 sz1 h1 := by
  refine beq_of_iff ?_
  rw [stB_iff, stB_iff]
  refine forall_congr' fun a => forall_congr' fun b => forall_congr' fun hab => forall_congr' fun hb => ?_
  unfold bad
  rw [← e a (by omega), ← e b hb, hm a b (by omega) hb, lk_congr hs hb (hr a (by omega)), lk_congr hs (by omega) (hr b hb)]
theorem prB_congr {n : Nat} {h h1 : FI} (e : eqn n h h1) : prB n h = prB n h1 := cnt_congr (fun j hj => by rw [e j hj])
theorem prB_rg (n : Nat) (h : FI) : 0 ≤ prB n h ∧ prB n h ≤ n := cnt_rg _ n
/-- digits -/
def dgt (n c t : Nat) : Int := ((c / (n + 1) ^ t % (n + 1) : Nat) : Int) - 1
def hsc (n c : Nat) : FI := fun j => dgt n c (n - 1 - j)
theorem dgt_rg (n c t : Nat) : -1 ≤ dgt n c t ∧ dgt n c t < n := by
  unfold dgt
  have := Nat.mod_lt (c / (n + 1) ^ t) (show n + 1 > 0 by omega)
  omega
theorem hsc_rg (n c : Nat) : hrg n (hsc n c) := fun j _ => dgt_rg n c _
abbrev MS : Type := Int × Int × Nat
def wgh (S : MS) (st : Bool) (pr : Int) (c : Nat) : MS := if st = true then (S.1 + 1, if S.2.1 < pr then (pr, c) else S.2) else S
def stp (n : Nat) (mB : Nat → Nat → Bool) (sz : FI) (S : MS) (c : Nat) : MS := if mtB n mB (hsc n c) = true then wgh S (stB n mB sz (hsc n c)) (prB n (hsc n c)) c else S
def FF (n : Nat) (mB : Nat → Nat → Bool) (sz : FI) (S : MS) (lo : Nat) : Nat → MS
  | 0 => S
  | k + 1 => stp n mB sz (FF n mB sz S lo k) (lo + k)
theorem stp_congr {n : Nat} {mB mB1 : Nat → Nat → Bool} {sz sz1 : FI} (hm : ∀ a b, a < n → b < n → mB a b = mB1 a b) (hs : eqn n sz sz1) (S : MS) (c : Nat) : stp n mB sz S c = stp n mB1 sz1 S c := by
  unfold stp
  rw [mtB_congr (hsc_rg n c) (fun _ _ => rfl) hm, stB_congr (hsc_rg n c) (fun _ _ => rfl) hm hs]
theorem FF_congr {n : Nat} {mB mB1 : Nat → Nat → Bool} {sz sz1 : FI} (hm : ∀ a b, a < n → b < n → mB a b = mB1 a b) (hs : eqn n sz sz1) (S : MS) (lo : Nat) : ∀ k, FF n mB sz S lo k = FF n mB1 sz1 S lo k
  | 0 => rfl
  | k + 1 => by rw [FF, FF, FF_congr hm hs S lo k, stp_congr hm hs]
theorem FF_add {n : Nat} {mB : Nat → Nat → Bool} {sz : FI} (S : MS) (lo k : Nat) : ∀ l, FF n mB sz S lo (k + l) = FF n mB sz (FF n mB sz S lo k) (lo + k) l
  | 0 => rfl
  | l + 1 => by rw [← Nat.add_assoc, FF, FF_add S lo k l, FF, Nat.add_assoc]
theorem FF_dead {n : Nat} {mB : Nat → Nat → Bool} {sz : FI} (S : MS) (lo : Nat) : ∀ k, (∀ x, x < k → mtB n mB (hsc n (lo + x)) = false) → FF n mB sz S lo k = S
  | 0, _ => rfl
  | k + 1, h => by
    rw [FF, FF_dead S lo k (fun x hx => h x (by omega)), stp, h k (by omega)]
    rfl
theorem FF_rg {n : Nat} {mB : Nat → Nat → Bool} {sz : FI} {S : MS} {lo : Nat} (hS : 0 ≤ S.1 ∧ -1 ≤ S.2.1 ∧ S.2.1 ≤ n) : ∀ k : Nat, (0 ≤ (FF n mB sz S lo k).1 ∧ (FF n mB sz S lo k).1 ≤ S.1 + k) ∧ -1 ≤ (FF n mB sz S lo k).2.1 ∧ (FF n mB sz S lo k).2.1 ≤ n
  | 0 => ⟨⟨hS.1, by simp [FF]⟩, hS.2⟩
  | k + 1 => by
    have ih := FF_rg (mB := mB) (sz := sz) (lo := lo) hS k
    have hp := prB_rg n (hsc n (lo + k))
    rw [FF, stp]
    generalize FF n mB sz S lo k = W at ih
    split
    · unfold wgh
      split
      · dsimp only
        split
        · dsimp only; omega
        · omega
      · omega
    · omega
theorem pw_pos (n k : Nat) : 0 < (n + 1) ^ k := Nat.pow_pos (by omega)
theorem dgt_hi {n c c1 k t : Nat} (h : c / (n + 1) ^ k = c1 / (n + 1) ^ k) (ht : k ≤ t) : dgt n c t = dgt n c1 t := by
  obtain ⟨u, rfl⟩ := Nat.exists_eq_add_of_le ht
  unfold dgt
  rw [Nat.pow_add, ← Nat.div_div_eq_div_mul, ← Nat.div_div_eq_div_mul, h]
theorem blk_div {n P k x : Nat} (hx : x < (n + 1) ^ k) : (P * (n + 1) ^ k + x) / (n + 1) ^ k = P := by
  have hp := pw_pos n k
  rw [Nat.mul_comm, Nat.mul_add_div hp, Nat.div_eq_of_lt hx, Nat.add_zero]
theorem blk_div0 {n P k : Nat} : P * (n + 1) ^ k / (n + 1) ^ k = P := Nat.mul_div_cancel _ (pw_pos n k)
theorem sub_hi {n P k e t : Nat} (he : e ≤ n) (ht : k + 1 ≤ t) : dgt n ((P * (n + 1) + e) * (n + 1) ^ k) t = dgt n (P * (n + 1) ^ (k + 1)) t := by
  refine dgt_hi (k := k + 1) ?_ ht
  rw [blk_div0, Nat.pow_succ, ← Nat.div_div_eq_div_mul, blk_div0]
  rw [Nat.mul_comm, Nat.mul_add_div (by omega), Nat.div_eq_of_lt (by omega), Nat.add_zero]
theorem sub_at {n P k e : Nat} (he : e ≤ n) : dgt n ((P * (n + 1) + e) * (n + 1) ^ k) k = (e : Int) - 1 := by
  unfold dgt
  rw [blk_div0, Nat.mul_comm P, Nat.mul_add_mod, Nat.mod_eq_of_lt (by omega)]
theorem sub_lo (n P k e : Nat) : (P * (n + 1) + e) * (n + 1) ^ k = P * (n + 1) ^ (k + 1) + e * (n + 1) ^ k := by
  rw [Nat.add_mul, Nat.mul_assoc, Nat.pow_succ, Nat.mul_comm ((n + 1) ^ k)]
theorem FF_sub {n : Nat} {mB : Nat → Nat → Bool} {sz : FI} (S : MS) (P k e : Nat) : FF n mB sz S (P * (n + 1) ^ (k + 1)) ((e + 1) * (n + 1) ^ k) = FF n mB sz (FF n mB sz S (P * (n + 1) ^ (k + 1)) (e * (n + 1) ^ k)) ((P * (n + 1) + e) * (n + 1) ^ k) ((n + 1) ^ k) := by
  rw [Nat.succ_mul, FF_add, sub_lo]
/-- a row of mates: all pairs have one below i -/
def MI (n : Nat) (mB : Nat → Nat → Bool) (i : Nat) (r : FI) : Prop := ∀ j, j < n → r j = -1 ∨ ∃ k, k < n ∧ r j = (k : Int) ∧ k ≠ j ∧ r k = (j : Int) ∧ mB j k = true ∧ (j < i ∨ k < i)
def AI (n P k i : Nat) (r : FI) : Prop := ∀ j, j < i → r j = dgt n (P * (n + 1) ^ k) (n - 1 - j)
theorem MI_s {n : Nat} {mB : Nat → Nat → Bool} {i : Nat} {r : FI} (h : MI n mB i r) : MI n mB (i + 1) r := by
  intro j hj
  rcases h j hj with q | ⟨k, a, b, c, d, e, f⟩
  · exact Or.inl q
  · exact Or.inr ⟨k, a, b, c, d, e, by omega⟩
theorem MI_pair {n : Nat} {mB : Nat → Nat → Bool} {i j : Nat} {r : FI} (hs : ∀ a b, a < n → b < n → mB a b = mB b a) (h : MI n mB i r) (hij : i < j) (hj : j < n) (hi : r i = -1) (hrj : r j = -1) (hm : mB i j = true) : MI n mB (i + 1) (iu (iu r i (j : Int)) j (i : Int)) := by
  intro t ht
  by_cases e1 : t = j
  · subst e1
    refine Or.inr ⟨i, by omega, iu_s _ _ _, by omega, ?_, ?_, by omega⟩
    · rw [iu_n _ _ (by omega), iu_s]
    · rw [hs t i hj (by omega)]; exact hm
  · rw [iu_n _ _ e1]
    by_cases e2 : t = i
    · subst e2
      exact Or.inr ⟨j, hj, iu_s _ _ _, by omega, iu_s _ _ _, hm, by omega⟩
    · rw [iu_n _ _ e2]
      rcases h t ht with q | ⟨k, a, b, c, d, e, f⟩
      · exact Or.inl q
      · refine Or.inr ⟨k, a, b, c, ?_, e, by omega⟩
        rw [iu_n _ _, iu_n _ _]
        · exact d
        · rintro rfl; rw [hi] at d; omega
        · rintro rfl; rw [hrj] at d; omega
theorem AI_child {n P k i e : Nat} {r r1 : FI} (hik : i + (k + 1) = n) (h : AI n P (k + 1) i r) (he : e ≤ n) (h0 : ∀ j, j < i → r1 j = r j) (h1 : r1 i = (e : Int) - 1) : AI n (P * (n + 1) + e) k (i + 1) r1 := by
  intro j hj
  rcases Nat.lt_or_eq_of_le (Nat.le_of_lt_succ hj) with q | q
  · rw [h0 j q, h j q, sub_hi he (by omega)]
  · subst q
    rw [h1, show n - 1 - j = k by omega, sub_at he]
/-- below and at i, in a block -/
theorem blk_hs {n P k i e c : Nat} {r : FI} (hik : i + (k + 1) = n) (h : AI n P (k + 1) i r) (he : e ≤ n) (hc : c / (n + 1) ^ k = P * (n + 1) + e) : (∀ j, j < i → hsc n c j = r j) ∧ hsc n c i = (e : Int) - 1 := by
  have h1 : ∀ t, k ≤ t → dgt n c t = dgt n ((P * (n + 1) + e) * (n + 1) ^ k) t := fun t ht => dgt_hi (k := k) (by rw [blk_div0]; exact hc) ht
  constructor
  · intro j hj
    unfold hsc
    rw [h j hj, h1 _ (by omega), sub_hi he (by omega)]
  · unfold hsc
    rw [h1 _ (by omega), show n - 1 - i = k by omega, sub_at he]
theorem FF_blk {n : Nat} {mB : Nat → Nat → Bool} {sz : FI} (S : MS) {P k : Nat} (h : ∀ c, c / (n + 1) ^ k = P → mtB n mB (hsc n c) = false) : FF n mB sz S (P * (n + 1) ^ k) ((n + 1) ^ k) = S := FF_dead _ _ _ (fun x hx => h _ (blk_div hx))
theorem not_mt {n : Nat} {mB : Nat → Nat → Bool} {h : FI} (hn : ¬ ∀ i, i < n → h i = -1 ∨ (h i ≠ (i : Int) ∧ h (h i).toNat = (i : Int) ∧ mB i (h i).toNat = true)) : mtB n mB h = false := by
  cases e : mtB n mB h
  · rfl
  · exact absurd (mtB_iff.mp e) hn
theorem dead_1 {n : Nat} {mB : Nat → Nat → Bool} {sz : FI} (S : MS) {P k i e k0 : Nat} {r : FI} (hik : i + (k + 1) = n) (hA : AI n P (k + 1) i r) (hM : MI n mB i r) (he : e ≤ n) (hr : r i = (k0 : Int)) (hne : e ≠ k0 + 1) : FF n mB sz S ((P * (n + 1) + e) * (n + 1) ^ k) ((n + 1) ^ k) = S := by
  refine FF_blk S (fun c hc => not_mt (fun q => ?_))
  obtain ⟨b1, b2⟩ := blk_hs hik hA he hc
  rcases hM i (by omega) with z | ⟨k1, a, b, c1, d, e1, f⟩
  · omega
  · have ek : k1 = k0 := by omega
    subst ek
    have q1 := q k1 a
    rw [b1 k1 (by omega), d] at q1
    rcases q1 with z | ⟨_, z, _⟩
    · omega
    · rw [Int.toNat_natCast, b2] at z; omega
theorem dead_2 {n : Nat} {mB : Nat → Nat → Bool} {sz : FI} (S : MS) {P k i e : Nat} {r : FI} (hik : i + (k + 1) = n) (hA : AI n P (k + 1) i r) (hM : MI n mB i r) (hr : r i = -1) (he1 : 1 ≤ e) (he : e ≤ i + 1) : FF n mB sz S ((P * (n + 1) + e) * (n + 1) ^ k) ((n + 1) ^ k) = S := by
  refine FF_blk S (fun c hc => not_mt (fun q => ?_))
  obtain ⟨b1, b2⟩ := blk_hs hik hA (by omega) hc
  have q1 := q i (by omega)
  obtain ⟨d, hd⟩ : ∃ d, e = d + 1 := ⟨e - 1, by omega⟩
  rw [show ((e : Nat) : Int) - 1 = (d : Int) by omega] at b2
  rw [b2] at q1
  rcases q1 with z | ⟨z1, z, _⟩
  · omega
  · rw [Int.toNat_natCast, b1 d (by omega)] at z
    rcases hM d (by omega) with y | ⟨k1, a, b, c1, dd, e1, f⟩
    · omega
    · have : k1 = i := by omega
      subst this
      omega
theorem dead_3 {n : Nat} {mB : Nat → Nat → Bool} {sz : FI} (S : MS) {P k i j : Nat} {r : FI} (hik : i + (k + 1) = n) (hA : AI n P (k + 1) i r) (hM : MI n mB i r) (hij : i < j) (hj : j < n) (hr : r j ≠ -1) : FF n mB sz S ((P * (n + 1) + (j + 1)) * (n + 1) ^ k) ((n + 1) ^ k) = S := by
  refine FF_blk S (fun c hc => not_mt (fun q => ?_))
  obtain ⟨b1, b2⟩ := blk_hs hik hA (by omega) hc
  have q1 := q i (by omega)
  rw [show (((j + 1 : Nat)) : Int) - 1 = (j : Int) by omega] at b2
  rw [b2] at q1
  rcases q1 with z | ⟨z1, z, _⟩
  · omega
  · rw [Int.toNat_natCast] at z
    rcases hM j hj with y | ⟨k1, a, b, c1, dd, e1, f⟩
    · exact hr y
    · have q2 := q k1 a
      rw [b1 k1 (by omega), dd] at q2
      rcases q2 with y | ⟨_, y, _⟩
      · omega
      · rw [Int.toNat_natCast, z] at y; omega
theorem dead_4 {n : Nat} {mB : Nat → Nat → Bool} {sz : FI} (S : MS) {P k i j : Nat} {r : FI} (hik : i + (k + 1) = n) (hA : AI n P (k + 1) i r) (hj : j < n) (hm : mB i j = false) : FF n mB sz S ((P * (n + 1) + (j + 1)) * (n + 1) ^ k) ((n + 1) ^ k) = S := by
  refine FF_blk S (fun c hc => not_mt (fun q => ?_))
  obtain ⟨b1, b2⟩ := blk_hs hik hA (by omega) hc
  have q1 := q i (by omega)
  rw [show (((j + 1 : Nat)) : Int) - 1 = (j : Int) by omega] at b2
  rw [b2] at q1
  rcases q1 with z | ⟨z1, _, z⟩
  · omega
  · rw [Int.toNat_natCast, hm] at z; exact absurd z (by decide)
theorem leaf_mt {n : Nat} {mB : Nat → Nat → Bool} {sz : FI} (S : MS) {P : Nat} {r : FI} (hA : AI n P 0 n r) (hM : MI n mB n r) : FF n mB sz S (P * (n + 1) ^ 0) ((n + 1) ^ 0) = wgh S (stB n mB sz r) (prB n r) P := by
  have e : eqn n (hsc n P) r := fun j hj => by rw [hA j hj, Nat.pow_zero, Nat.mul_one]; rfl
  rw [Nat.pow_zero, Nat.mul_one, FF, FF, Nat.add_zero, stp, if_pos, stB_congr (hsc_rg n P) e (fun _ _ _ _ => rfl) (fun _ _ => rfl), prB_congr e]
  rw [mtB_congr (hsc_rg n P) e (fun _ _ _ _ => rfl), mtB_iff]
  intro i hi
  rcases hM i hi with z | ⟨k1, a, b, c1, d, e1, f⟩
  · exact Or.inl z
  · refine Or.inr ⟨by omega, ?_, ?_⟩
    · rw [b, Int.toNat_natCast]; exact d
    · rw [b, Int.toNat_natCast]; exact e1
theorem dead_up {n : Nat} {mB : Nat → Nat → Bool} {sz : FI} (S : MS) {P k a : Nat} : ∀ d, (∀ e, a ≤ e → e < a + d → ∀ S, FF n mB sz S ((P * (n + 1) + e) * (n + 1) ^ k) ((n + 1) ^ k) = S) → FF n mB sz S (P * (n + 1) ^ (k + 1)) ((a + d) * (n + 1) ^ k) = FF n mB sz S (P * (n + 1) ^ (k + 1)) (a * (n + 1) ^ k)
  | 0, _ => rfl
  | d + 1, h => by
    rw [← Nat.add_assoc, FF_sub, h (a + d) (by omega) (by omega), dead_up S d (fun e h1 h2 => h e h1 (by omega))]
theorem MI_rg {n : Nat} {mB : Nat → Nat → Bool} {i : Nat} {r : FI} (h : MI n mB i r) : hrg n r := by
  intro j hj
  rcases h j hj with q | ⟨k, a, b, _⟩ <;> omega
theorem prB_pair {n : Nat} {i j : Nat} {r : FI} (hij : i < j) (hj : j < n) (hi : r i = -1) (hrj : r j = -1) : prB n (iu (iu r i (j : Int)) j (i : Int)) = prB n r + 1 := by
  unfold prB
  have key : ∀ m, cnt (fun t => decide ((t : Int) < iu (iu r i (j : Int)) j (i : Int) t)) m = cnt (fun t => decide ((t : Int) < r t)) m + (if i < m then 1 else 0) := by
    intro m
    induction m with
    | zero => rfl
    | succ m ih =>
      rw [cnt, cnt, ih]
      by_cases e1 : m = j
      · subst e1
        rw [iu_s, hrj, decide_eq_false (by omega), decide_eq_false (by omega), if_pos hij, if_pos (by omega)]
        simp [b2i]
      · rw [iu_n _ _ e1]
        by_cases e2 : m = i
        · subst e2
          rw [iu_s, hi, decide_eq_true (by omega), decide_eq_false (by omega), if_neg (by omega), if_pos (by omega)]
          simp [b2i]
        · rw [iu_n _ _ e2]
          by_cases h3 : i < m
          · rw [if_pos h3, if_pos (by omega)]; omega
          · rw [if_neg h3, if_neg (by omega)]; omega
  rw [key n, if_pos (by omega)]
theorem iu_back {r : FI} {i j : Nat} {x y : Int} (hij : i ≠ j) (hi : r i = -1) (hj : r j = -1) : iu (iu (iu (iu r i x) j y) i (-1)) j (-1) = r := by
  funext t
  by_cases e1 : t = j
  · rw [e1, iu_s, hj]
  · rw [iu_n _ _ e1]
    by_cases e2 : t = i
    · rw [e2, iu_s, hi]
    · rw [iu_n _ _ e2, iu_n _ _ e1, iu_n _ _ e2]
