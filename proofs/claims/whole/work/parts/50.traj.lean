/-! DAYS THAT GO BY -/
/-- the places behind k days -/
def trj (n : Nat) (kd sz cur : FI) (pt : Nat → Nat) (an : Nat) (wi da : Int) (pl : FI) : Nat → FI
  | 0 => pl
  | k + 1 => (drf n kd sz cur pt an wi (da + k) n (trj n kd sz cur pt an wi da pl k)).1
theorem trj_ok {n : Nat} {kd sz cur : FI} {pt : Nat → Nat} {an : Nat} {wi da : Int} {pl : FI} (h : plok n pl) : ∀ k, plok n (trj n kd sz cur pt an wi da pl k)
  | 0 => h
  | k + 1 => drf_ok (trj_ok h k) n
/-- the first of the days k, .., k + r on which it is so -/
def fm (P : Nat → Bool) : Nat → Nat → Int
  | 0, k => if P k = true then (k : Int) else -1
  | r + 1, k => if P k = true then (k : Int) else fm P r (k + 1)
theorem fm_rg {P : Nat → Bool} : ∀ (r k : Nat), fm P r k = -1 ∨ ((k : Int) ≤ fm P r k ∧ fm P r k ≤ k + r)
  | 0, k => by unfold fm; split <;> omega
  | r + 1, k => by
    unfold fm
    split
    · omega
    · have := fm_rg (P := P) r (k + 1)
      omega
theorem fm_congr {P P1 : Nat → Bool} : ∀ (r k : Nat), (∀ j, k ≤ j → j ≤ k + r → P j = P1 j) → fm P r k = fm P1 r k
  | 0, k, h => by unfold fm; rw [h k (by omega) (by omega)]
  | r + 1, k, h => by
    unfold fm
    rw [h k (by omega) (by omega), fm_congr r (k + 1) (fun j h1 h2 => h j (by omega) (by omega))]
/-- a longer look finds the same day, if a shorter one finds one -/
theorem fm_ext {P : Nat → Bool} {s : Nat} : ∀ (r k : Nat), r ≤ s → (fm P r k ≠ -1 → fm P s k = fm P r k) ∧ (fm P r k = -1 → fm P s k = -1 ∨ (k + r : Int) < fm P s k)
  | 0, k, _ => by
    constructor
    · intro h
      unfold fm at h ⊢
      split at h
      · next q => cases s <;> simp [fm, q]
      · exact absurd rfl h
    · intro h
      unfold fm at h
      split at h
      · omega
      · next q =>
        cases s with
        | zero => left; simp [fm, q]
        | succ s =>
          rw [show fm P (s + 1) k = fm P s (k + 1) by rw [fm, if_neg q]]
          have := fm_rg (P := P) s (k + 1)
          omega
  | r + 1, k, hs => by
    cases s with
    | zero => omega
    | succ s =>
      have ih := fm_ext (P := P) (s := s) r (k + 1) (by omega)
      by_cases q : P k = true
      · simp [fm, q]
      · rw [show fm P (r + 1) k = fm P r (k + 1) by rw [fm, if_neg q], show fm P (s + 1) k = fm P s (k + 1) by rw [fm, if_neg q]]
        refine ⟨ih.1, fun h => ?_⟩
        have := ih.2 h
        omega
def eqn (n : Nat) (f f1 : FI) : Prop := ∀ j, j < n → f j = f1 j
theorem psh_congr {n : Nat} {kd kd1 cur cur1 : FI} {an : Nat} {wi da : Int} {pl pl1 : FI} {i : Nat} (hi : i < n) (h1 : eqn n kd kd1) (h2 : eqn 12 cur cur1) (h3 : eqn n pl pl1) (hp : plok n pl) : psh kd cur an wi da pl i = psh kd1 cur1 an wi da pl1 i := by
  have e := hp i hi
  unfold psh
  rw [h1 i hi, ← h3 i hi, h2 (pl i).toNat (by omega)]
theorem smu_congr {f f1 : FI} : ∀ {n : Nat}, (∀ i, i < n → f i = f1 i) → smu f n = smu f1 n
  | 0, _ => rfl
  | n + 1, h => by rw [smu, smu, h n (by omega), smu_congr (fun i hi => h i (by omega))]
theorem way_congr {n : Nat} {kd kd1 sz sz1 cur cur1 : FI} {an pt : Nat} {wi da : Int} {pl pl1 : FI} (h1 : eqn n kd kd1) (hs : eqn n sz sz1) (h2 : eqn 12 cur cur1) (h3 : eqn n pl pl1) (hp : plok n pl) : way n kd sz cur an wi da pt pl = way n kd1 sz1 cur1 an wi da pt pl1 := by
  unfold way
  rw [smu_congr (f1 := wpu kd1 sz1 cur1 an wi da pt pl1)]
  intro i hi
  unfold wpu
  rw [psh_congr hi h1 h2 h3 hp, hs i hi]
theorem brd_congr {n pt : Nat} {s : Int} {pl pl1 : FI} (h : eqn n pl pl1) : brd n pl pt s = brd n pl1 pt s := by
  have : brd n pl pt s = true ↔ brd n pl1 pt s = true := by
    rw [brd_iff, brd_iff]
    constructor
    · rintro ⟨i, k, hi, hk, a, b, c⟩
      exact ⟨i, k, hi, hk, a, b, by rw [← h i hi, ← h k hk]; exact c⟩
    · rintro ⟨i, k, hi, hk, a, b, c⟩
      exact ⟨i, k, hi, hk, a, b, by rw [h i hi, h k hk]; exact c⟩
  cases e : brd n pl pt s <;> cases e1 : brd n pl1 pt s <;> simp_all
theorem mvp_congr {n pt : Nat} {s : Int} {pl pl1 : FI} (h : eqn n pl pl1) : eqn n (mvp n pl pt s) (mvp n pl1 pt s) := by
  intro j hj
  unfold mvp
  rw [brd_congr h]
  split
  · exact h j hj
  · dsimp only
    rw [h j hj]
theorem bmp_congr {n pt : Nat} {s : Int} {pl pl1 : FI} (h : eqn n pl pl1) : bmp n pl pt s = bmp n pl1 pt s := by
  unfold bmp
  rw [brd_congr h]
theorem drf_congr {n : Nat} {kd kd1 sz sz1 cur cur1 : FI} {pt pt1 : Nat → Nat} {an : Nat} {wi da : Int} {pl pl1 : FI} (h1 : eqn n kd kd1) (hs : eqn n sz sz1) (h2 : eqn 12 cur cur1) (hpt : ∀ j, j < n → pt j = pt1 j) (h3 : eqn n pl pl1) (hp : plok n pl) : ∀ i, i ≤ n → eqn n (drf n kd sz cur pt an wi da i pl).1 (drf n kd1 sz1 cur1 pt1 an wi da i pl1).1 ∧ (drf n kd sz cur pt an wi da i pl).2 = (drf n kd1 sz1 cur1 pt1 an wi da i pl1).2
  | 0, _ => ⟨h3, rfl⟩
  | i + 1, hi => by
    obtain ⟨ha, hb⟩ := drf_congr (an := an) (wi := wi) (da := da) h1 hs h2 hpt h3 hp i (by omega)
    have hok := drf_ok (kd := kd) (sz := sz) (cur := cur) (pt := pt) (an := an) (wi := wi) (da := da) hp i
    have hl : lead pt i = lead pt1 i := by unfold lead; rw [hpt i (by omega)]
    cases e : lead pt i with
    | false =>
      rw [drf_f e, drf_f (hl ▸ e)]
      exact ⟨ha, hb⟩
    | true =>
      rw [drf_t e, drf_t (hl ▸ e), way_congr h1 hs h2 ha hok, hpt i (by omega)]
      exact ⟨mvp_congr ha, by rw [hb, bmp_congr ha]⟩
theorem trj_congr {n : Nat} {kd kd1 sz sz1 cur cur1 : FI} {pt pt1 : Nat → Nat} {an : Nat} {wi da : Int} {pl pl1 : FI} (h1 : eqn n kd kd1) (hs : eqn n sz sz1) (h2 : eqn 12 cur cur1) (hpt : ∀ j, j < n → pt j = pt1 j) (h3 : eqn n pl pl1) (hp : plok n pl) : ∀ k, eqn n (trj n kd sz cur pt an wi da pl k) (trj n kd1 sz1 cur1 pt1 an wi da pl1 k)
  | 0 => h3
  | k + 1 => (drf_congr h1 hs h2 hpt (trj_congr h1 hs h2 hpt h3 hp k) (trj_ok hp k) n (Nat.le_refl n)).1
/-- when two meet, within d days -/
def mtv (n : Nat) (kd sz cur : FI) (pt : Nat → Nat) (an : Nat) (wi da : Int) (pl : FI) (x y d : Nat) : Int := fm (fun k => bs (trj n kd sz cur pt an wi da pl k x) (trj n kd sz cur pt an wi da pl k y)) d 0
theorem mtv_congr {n : Nat} {kd kd1 sz sz1 cur cur1 : FI} {pt pt1 : Nat → Nat} {an : Nat} {wi da : Int} {pl pl1 : FI} {x y d : Nat} (h1 : eqn n kd kd1) (hs : eqn n sz sz1) (h2 : eqn 12 cur cur1) (hpt : ∀ j, j < n → pt j = pt1 j) (h3 : eqn n pl pl1) (hp : plok n pl) (hx : x < n) (hy : y < n) : mtv n kd sz cur pt an wi da pl x y d = mtv n kd1 sz1 cur1 pt1 an wi da pl1 x y d := by
  unfold mtv
  apply fm_congr
  intro j _ _
  have h := trj_congr (an := an) (wi := wi) (da := da) h1 hs h2 hpt h3 hp j
  rw [h x hx, h y hy]
theorem mtv_rg {n : Nat} {kd sz cur : FI} {pt : Nat → Nat} {an : Nat} {wi da : Int} {pl : FI} {x y d : Nat} : -1 ≤ mtv n kd sz cur pt an wi da pl x y d ∧ mtv n kd sz cur pt an wi da pl x y d ≤ d := by
  have := fm_rg (P := fun k => bs (trj n kd sz cur pt an wi da pl k x) (trj n kd sz cur pt an wi da pl k y)) d 0
  unfold mtv
  omega
/-- rows and places that are scratch -/
def eqS (S : Nat → Nat → Prop) (g g1 : Nat → Nat → Int) : Prop := ∀ b k, ¬ S b k → g1 b k = g b k
theorem eqS.rf {S : Nat → Nat → Prop} {g : Nat → Nat → Int} : eqS S g g := fun _ _ _ => rfl
theorem eqS.tr {S : Nat → Nat → Prop} {g g1 g2 : Nat → Nat → Int} (h : eqS S g g1) (h1 : eqS S g1 g2) : eqS S g g2 := fun b k q => (h1 b k q).trans (h b k q)
theorem eqS.gr {S : Nat → Nat → Prop} {g g1 : Nat → Nat → Int} (h : eqS S g g1) {a : Nat} {f : FI} (hf : ∀ k, ¬ S a k → f k = g1 a k) : eqS S g (gr g1 a f) := by
  intro b k q
  by_cases e : b = a
  · subst e
    rw [gr_s, hf k q]
    exact h b k q
  · rw [gr_n _ _ e]
    exact h b k q
theorem iu_out {P : Nat → Prop} {f : FI} {i : Nat} {z : Int} (h : P i) {k : Nat} (hk : ¬ P k) : iu f i z k = f k := iu_n _ _ (fun e => hk (e ▸ h))
/-- the model's scratch -/
def scM (b k : Nat) : Prop := b = 44 ∨ b = 45 ∨ b = 46 ∨ b = 47 ∨ (b = 39 ∧ (k = 13 ∨ k = 14 ∨ k = 15 ∨ k = 20 ∨ k = 21 ∨ k = 24))
/-- the class's scratch -/
def scX (b _k : Nat) : Prop := (16 ≤ b ∧ b ≤ 22) ∨ (33 ≤ b ∧ b ≤ 38)
theorem fm_next {P : Nat → Bool} {most i : Nat} {V : Int} (h : V = fm P (most - i) i) (hi : i ≤ most) (hP : P i = false) : (i + 1 ≤ most → V = fm P (most - (i + 1)) (i + 1)) ∧ (i + 1 = most + 1 → V = -1) := by
  constructor
  · intro h1
    obtain ⟨r, hr⟩ : ∃ r, most - i = r + 1 := ⟨most - i - 1, by omega⟩
    rw [h, hr, fm, if_neg (by rw [hP]; decide)]
    congr 1
    omega
  · intro h1
    have hr : most - i = 0 := by omega
    rw [h, hr, fm, if_neg (by rw [hP]; decide)]
theorem fm_here {P : Nat → Bool} {r i : Nat} (hP : P i = true) : fm P r i = i := by
  cases r <;> simp [fm, hP]
