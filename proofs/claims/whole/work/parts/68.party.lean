/-! PARTIES: the class's rounds and the model's come to the same bits -/
def bsub (b d : Nat) : Prop := ∀ t, b.testBit t = true → d.testBit t = true
def pcN (b : Nat) : Nat → Nat
  | 0 => 0
  | k + 1 => pcN b k + (if b.testBit k = true then 1 else 0)
theorem pcN_le (b : Nat) : ∀ k, pcN b k ≤ k
  | 0 => Nat.le_refl 0
  | k + 1 => by
    have := pcN_le b k
    unfold pcN
    split <;> omega
theorem pcN_mono {b d : Nat} (h : bsub b d) : ∀ k, pcN b k ≤ pcN d k
  | 0 => Nat.le_refl 0
  | k + 1 => by
    have := pcN_mono h k
    unfold pcN
    split
    · next q => rw [if_pos (h k q)]; omega
    · split <;> omega
theorem pcN_lt {b d t : Nat} (h : bsub b d) (ht : d.testBit t = true) (hb : b.testBit t = false) : ∀ k, t < k → pcN b k < pcN d k
  | 0, q => by omega
  | k + 1, q => by
    unfold pcN
    rcases Nat.lt_or_eq_of_le (Nat.le_of_lt_succ q) with z | z
    · have := pcN_lt h ht hb k z
      split
      · next y => rw [if_pos (h k y)]; omega
      · split <;> omega
    · subst z
      have := pcN_mono h t
      rw [if_neg (by rw [hb]; decide), if_pos ht]
      omega
theorem pcN_full {b : Nat} : ∀ k, pcN b k = k → ∀ t, t < k → b.testBit t = true
  | 0, _, _, q => by omega
  | k + 1, h, t, q => by
    have hl := pcN_le b k
    unfold pcN at h
    split at h
    · next y =>
      rcases Nat.lt_or_eq_of_le (Nat.le_of_lt_succ q) with z | z
      · exact pcN_full k (by omega) t z
      · rw [z]; exact y
    · omega
theorem pcN_pos {b t : Nat} (h : b.testBit t = true) : ∀ k, t < k → 1 ≤ pcN b k
  | 0, q => by omega
  | k + 1, q => by
    unfold pcN
    rcases Nat.lt_or_eq_of_le (Nat.le_of_lt_succ q) with z | z
    · have := pcN_pos h k z
      omega
    · subst z
      rw [if_pos h]
      omega
theorem bsub_ne {b d : Nat} (h : bsub b d) (hne : d ≠ b) : ∃ t, d.testBit t = true ∧ b.testBit t = false := by
  rcases Classical.em (∃ t, d.testBit t = true ∧ b.testBit t = false) with q | q
  · exact q
  · exfalso
    apply hne
    apply Nat.eq_of_testBit_eq
    intro t
    cases e : d.testBit t <;> cases e1 : b.testBit t
    · rfl
    · rw [h t e1] at e; cases e
    · exact absurd ⟨t, e, e1⟩ q
    · rfl
/-- rounds that only add come to rest -/
theorem itn_rest {f : Nat → Nat} {N b0 i : Nat} (hinf : ∀ b, bsub b (f b)) (hlt : ∀ b, b < 2 ^ N → f b < 2 ^ N) (hb : b0 < 2 ^ N) (hi : b0.testBit i = true) : ∀ k, f (itn f k b0) = itn f k b0 ∨ k + 1 ≤ pcN (itn f k b0) N := by
  have hltk : ∀ k, itn f k b0 < 2 ^ N := by
    intro k
    induction k with
    | zero => exact hb
    | succ k ih => exact hlt _ ih
  have hiN : i < N := bit_lt hb hi
  intro k
  induction k with
  | zero => exact Or.inr (pcN_pos hi N hiN)
  | succ k ih =>
    rcases Classical.em (f (itn f k b0) = itn f k b0) with q | q
    · left
      show f (f (itn f k b0)) = f (itn f k b0)
      rw [q, q]
    · right
      rcases ih with ih | ih
      · exact absurd ih q
      · obtain ⟨t, h1, h2⟩ := bsub_ne (hinf (itn f k b0)) q
        have := pcN_lt (hinf (itn f k b0)) h1 h2 N (bit_lt (hlt _ (hltk k)) h1)
        show k + 1 + 1 ≤ pcN (f (itn f k b0)) N
        omega
theorem itn_fix {f : Nat → Nat} {N b0 i : Nat} (hinf : ∀ b, bsub b (f b)) (hlt : ∀ b, b < 2 ^ N → f b < 2 ^ N) (hb : b0 < 2 ^ N) (hi : b0.testBit i = true) {k : Nat} (hk : N ≤ k + 1) : f (itn f k b0) = itn f k b0 := by
  rcases itn_rest hinf hlt hb hi k with q | q
  · exact q
  · have hltk : ∀ k, itn f k b0 < 2 ^ N := by
      intro k
      induction k with
      | zero => exact hb
      | succ k ih => exact hlt _ ih
    have hfull : pcN (itn f k b0) N = N := by
      have := pcN_le (itn f k b0) N
      omega
    rcases Classical.em (f (itn f k b0) = itn f k b0) with z | z
    · exact z
    · obtain ⟨t, h1, h2⟩ := bsub_ne (hinf (itn f k b0)) z
      have ht := bit_lt (hlt _ (hltk k)) h1
      rw [pcN_full N hfull t ht] at h2
      cases h2
theorem itn_sub {f : Nat → Nat} (hinf : ∀ b, bsub b (f b)) (b0 : Nat) : ∀ k, bsub b0 (itn f k b0)
  | 0 => fun _ h => h
  | k + 1 => fun t h => hinf _ t (itn_sub hinf b0 k t h)
theorem itn_min {f : Nat → Nat} {C : Nat → Prop} (hC : ∀ b, (∀ t, b.testBit t = true → C t) → ∀ t, (f b).testBit t = true → C t) {b0 : Nat} (h0 : ∀ t, b0.testBit t = true → C t) : ∀ k t, (itn f k b0).testBit t = true → C t
  | 0 => h0
  | k + 1 => hC _ (itn_min hC h0 k)
theorem rnd_inf {ea eb : Nat → Nat} {lf : Nat → Bool} {b : Nat} : ∀ m, bsub b (rnd ea eb lf m b)
  | 0 => fun _ h => h
  | m + 1 => fun t h => by
    have := rnd_inf (ea := ea) (eb := eb) (lf := lf) m t h
    unfold rnd
    split
    · rw [Nat.testBit_or, this, Bool.true_or]
    · exact this
theorem and_ne {b x y : Nat} : (b &&& (2 ^ x ||| 2 ^ y)) ≠ 0 ↔ b.testBit x = true ∨ b.testBit y = true := by
  constructor
  · intro h
    rcases Classical.em (b.testBit x = true ∨ b.testBit y = true) with q | q
    · exact q
    · exfalso
      apply h
      apply Nat.eq_of_testBit_eq
      intro t
      rw [Nat.testBit_and, Nat.testBit_or, Nat.testBit_two_pow, Nat.testBit_two_pow, Nat.zero_testBit]
      by_cases e1 : x = t
      · subst e1
        cases z : b.testBit x
        · simp
        · exact absurd (Or.inl z) q
      · by_cases e2 : y = t
        · subst e2
          cases z : b.testBit y
          · simp
          · exact absurd (Or.inr z) q
        · simp [e1, e2]
  · intro h e
    rcases h with h | h
    · have : (b &&& (2 ^ x ||| 2 ^ y)).testBit x = true := by rw [Nat.testBit_and, Nat.testBit_or, h, Nat.testBit_two_pow_self]; rfl
      rw [e, Nat.zero_testBit] at this
      cases this
    · have : (b &&& (2 ^ x ||| 2 ^ y)).testBit y = true := by rw [Nat.testBit_and, Nat.testBit_or, h, Nat.testBit_two_pow_self]; simp
      rw [e, Nat.zero_testBit] at this
      cases this
theorem rnd_edge {ea eb : Nat → Nat} {lf : Nat → Bool} {b r : Nat} (hl : lf r = true) (h : b.testBit (ea r) = true ∨ b.testBit (eb r) = true) : ∀ m, r < m → (rnd ea eb lf m b).testBit (ea r) = true ∧ (rnd ea eb lf m b).testBit (eb r) = true
  | 0, q => by omega
  | m + 1, q => by
    rcases Nat.lt_or_eq_of_le (Nat.le_of_lt_succ q) with z | z
    · have ih := rnd_edge hl h m z
      unfold rnd
      split
      · constructor
        · rw [Nat.testBit_or, ih.1, Bool.true_or]
        · rw [Nat.testBit_or, ih.2, Bool.true_or]
      · exact ih
    · subst z
      have h2 : (rnd ea eb lf r b).testBit (ea r) = true ∨ (rnd ea eb lf r b).testBit (eb r) = true := h.imp (rnd_inf r _) (rnd_inf r _)
      unfold rnd
      rw [if_pos ⟨hl, and_ne.mpr h2⟩]
      constructor
      · rw [Nat.testBit_or, Nat.testBit_or, Nat.testBit_two_pow_self]; simp
      · rw [Nat.testBit_or, Nat.testBit_or, Nat.testBit_two_pow_self]; simp
theorem rnd_min {ea eb : Nat → Nat} {lf : Nat → Bool} {C : Nat → Prop} {b : Nat} (h0 : ∀ t, b.testBit t = true → C t) : ∀ m, (∀ r, r < m → lf r = true → (C (ea r) ↔ C (eb r))) → ∀ t, (rnd ea eb lf m b).testBit t = true → C t
  | 0, _, t, h => h0 t h
  | m + 1, hC, t, h => by
    have ih := rnd_min h0 m (fun r hr => hC r (by omega))
    unfold rnd at h
    split at h
    · next q =>
      rw [Nat.testBit_or, Nat.testBit_or, Nat.testBit_two_pow, Nat.testBit_two_pow, Bool.or_eq_true, Bool.or_eq_true, decide_eq_true_eq, decide_eq_true_eq] at h
      have hcm := hC m (by omega) q.1
      have hany : C (ea m) ∧ C (eb m) := by
        rcases and_ne.mp q.2 with z | z
        · have := ih _ z
          exact ⟨this, hcm.mp this⟩
        · have := ih _ z
          exact ⟨hcm.mpr this, this⟩
      rcases h with h | h | h
      · exact ih t h
      · exact h ▸ hany.1
      · exact h ▸ hany.2
    · exact ih t h
theorem pby_in {ea eb : Nat → Nat} {lf : Nat → Bool} {m i : Nat} : (pby ea eb lf m i).testBit i = true := itn_sub (fun b => rnd_inf m) _ 5 i (Nat.testBit_two_pow_self)
theorem pby_cl {ea eb : Nat → Nat} {lf : Nat → Bool} {n m i : Nat} (hn : n ≤ 5) (he : ∀ r, r < m → ea r < n ∧ eb r < n) (hi : i < n) {r : Nat} (hr : r < m) (hl : lf r = true) : (pby ea eb lf m i).testBit (ea r) = true ↔ (pby ea eb lf m i).testBit (eb r) = true := by
  have hfix : rnd ea eb lf m (pby ea eb lf m i) = pby ea eb lf m i := itn_fix (N := n) (fun b => rnd_inf m) (fun b hb => rnd_lt he hb) (Nat.pow_lt_pow_right (by decide) hi) Nat.testBit_two_pow_self (by omega)
  constructor
  · intro h
    have := (rnd_edge (ea := ea) (eb := eb) (b := pby ea eb lf m i) hl (Or.inl h) m hr).2
    rwa [hfix] at this
  · intro h
    have := (rnd_edge (ea := ea) (eb := eb) (b := pby ea eb lf m i) hl (Or.inr h) m hr).1
    rwa [hfix] at this
theorem pby_min {ea eb : Nat → Nat} {lf : Nat → Bool} {m i : Nat} {C : Nat → Prop} (hi : C i) (hC : ∀ r, r < m → lf r = true → (C (ea r) ↔ C (eb r))) : ∀ t, (pby ea eb lf m i).testBit t = true → C t :=
  itn_min (fun b hb => rnd_min hb m hC) (fun t h => by
    rw [Nat.testBit_two_pow, decide_eq_true_eq] at h
    exact h ▸ hi) 5
/-- one round of the class -/
def trd (rp : Nat → Nat) : Nat → Nat → Nat
  | 0, b => b
  | i + 1, b => if (trd rp i b).testBit i = true then trd rp i b ||| rp i else trd rp i b
theorem trd_inf {rp : Nat → Nat} {b : Nat} : ∀ n, bsub b (trd rp n b)
  | 0 => fun _ h => h
  | n + 1 => fun t h => by
    have := trd_inf (rp := rp) n t h
    unfold trd
    split
    · rw [Nat.testBit_or, this, Bool.true_or]
    · exact this
theorem trd_lt {rp : Nat → Nat} {N b : Nat} (hb : b < 2 ^ N) : ∀ n, (∀ i, i < n → rp i < 2 ^ N) → trd rp n b < 2 ^ N
  | 0, _ => hb
  | n + 1, h => by
    have := trd_lt hb n (fun i hi => h i (by omega))
    unfold trd
    split
    · exact Nat.or_lt_two_pow this (h n (by omega))
    · exact this
theorem trd_edge {rp : Nat → Nat} {b x y : Nat} (hx : b.testBit x = true) (hy : (rp x).testBit y = true) : ∀ n, x < n → (trd rp n b).testBit y = true
  | 0, q => by omega
  | n + 1, q => by
    rcases Nat.lt_or_eq_of_le (Nat.le_of_lt_succ q) with z | z
    · have ih := trd_edge hx hy n z
      unfold trd
      split
      · rw [Nat.testBit_or, ih, Bool.true_or]
      · exact ih
    · subst z
      unfold trd
      rw [if_pos (trd_inf x x hx), Nat.testBit_or, hy, Bool.or_true]
theorem trd_min {rp : Nat → Nat} {C : Nat → Prop} {b : Nat} (h0 : ∀ t, b.testBit t = true → C t) : ∀ n, (∀ x y, x < n → C x → (rp x).testBit y = true → C y) → ∀ t, (trd rp n b).testBit t = true → C t
  | 0, _, t, h => h0 t h
  | n + 1, hC, t, h => by
    have ih := trd_min h0 n (fun x y hx => hC x y (by omega))
    unfold trd at h
    split at h
    · next q =>
      rw [Nat.testBit_or, Bool.or_eq_true] at h
      rcases h with h | h
      · exact ih t h
      · exact hC n t (by omega) (ih n q) h
    · exact ih t h
def tied (rp : Nat → Nat) (n i : Nat) : Nat := itn (trd rp n) (n - 1) (2 ^ i)
theorem tied_lt {rp : Nat → Nat} {n i : Nat} (h : ∀ j, j < n → rp j < 2 ^ n) (hi : i < n) : tied rp n i < 2 ^ n := by
  have : ∀ k, itn (trd rp n) k (2 ^ i) < 2 ^ n := by
    intro k
    induction k with
    | zero => exact Nat.pow_lt_pow_right (by decide) hi
    | succ k ih => exact trd_lt ih n h
  exact this _
theorem party_eq {n m : Nat} {rp ea eb : Nat → Nat} (h : RR n m rp ea eb) {i : Nat} (hi : i < n) : tied rp n i = pby ea eb lfa m i := by
  obtain ⟨b1, b2, b3, b4, b5, b6⟩ := h
  have he : ∀ r, r < m → ea r < n ∧ eb r < n := fun r hr => ⟨(b3 r hr).1, (b3 r hr).2.1⟩
  have hfix : trd rp n (tied rp n i) = tied rp n i := itn_fix (N := n) (fun b => trd_inf n) (fun b hb => trd_lt hb n b5) (Nat.pow_lt_pow_right (by decide) hi) Nat.testBit_two_pow_self (by omega)
  have hin : (tied rp n i).testBit i = true := itn_sub (fun b => trd_inf n) _ _ i Nat.testBit_two_pow_self
  have hcl : ∀ x y, x < n → (tied rp n i).testBit x = true → (rp x).testBit y = true → (tied rp n i).testBit y = true := by
    intro x y hx hb hy
    have := trd_edge hb hy n hx
    rwa [hfix] at this
  apply Nat.eq_of_testBit_eq
  intro t
  have hAB : (tied rp n i).testBit t = true → (pby ea eb lfa m i).testBit t = true := by
    refine itn_min (C := fun t => (pby ea eb lfa m i).testBit t = true) (fun b hb => trd_min hb n ?_) ?_ (n - 1) t
    · intro x y hx hc hy
      obtain ⟨r, hr, q⟩ := (b6 x y hx (bit_lt (b5 x hx) hy)).mp hy
      have hcl2 := pby_cl (lf := lfa) b2 he hi hr rfl
      rcases q with ⟨rfl, rfl⟩ | ⟨rfl, rfl⟩
      · exact hcl2.mp hc
      · exact hcl2.mpr hc
    · intro t ht
      rw [Nat.testBit_two_pow, decide_eq_true_eq] at ht
      exact ht ▸ pby_in
  have hBA : (pby ea eb lfa m i).testBit t = true → (tied rp n i).testBit t = true := by
    refine pby_min (C := fun t => (tied rp n i).testBit t = true) hin (fun r hr _ => ?_) t
    have := he r hr
    constructor
    · intro q
      exact hcl _ _ this.1 q ((b6 _ _ this.1 this.2).mpr ⟨r, hr, Or.inl ⟨rfl, rfl⟩⟩)
    · intro q
      exact hcl _ _ this.2 q ((b6 _ _ this.2 this.1).mpr ⟨r, hr, Or.inr ⟨rfl, rfl⟩⟩)
  cases e : (tied rp n i).testBit t <;> cases e1 : (pby ea eb lfa m i).testBit t <;> simp_all
