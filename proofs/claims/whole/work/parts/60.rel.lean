/-! THE TWO SYSTEMS, SIDE BY SIDE -/
/-- ropes, as bits of each and as a row of pairs -/
def RR (n m : Nat) (rp ea eb : Nat → Nat) : Prop := m ≤ 6 ∧ n ≤ 5 ∧ (∀ r, r < m → ea r < n ∧ eb r < n ∧ ea r ≠ eb r) ∧ (∀ r s, r < s → s < m → ¬ ((ea r = ea s ∧ eb r = eb s) ∨ (ea r = eb s ∧ eb r = ea s))) ∧ (∀ i, i < n → rp i < 2 ^ n) ∧ (∀ i j, i < n → j < n → ((rp i).testBit j = true ↔ ∃ r, r < m ∧ ((ea r = i ∧ eb r = j) ∨ (ea r = j ∧ eb r = i))))
def anbF (rows : FI) (n : Nat) : Nat := bor (fun j => j) (fun j => decide (rows (4 * j + 3) = 1)) n
/-- one sea in both: the class's Waters o, kd .., the model's numbers and rows -/
def SS (n m an : Nat) (rp ea eb : Nat → Nat) (o kd sz pl rpI ptI : FI) (is rm wi da bu : Int) (rows ropes : FI) (c : Nat) : Prop :=
  (o 6 = (n : Int) ∧ is = (n : Int)) ∧ (o 7 = (m : Int) ∧ rm = (m : Int)) ∧ (o 8 = (an : Int) ∧ an = anbF rows n) ∧ (o 9 = wi ∧ -1 ≤ wi ∧ wi ≤ 1) ∧ (o 10 = da ∧ 0 ≤ da ∧ da ≤ c) ∧ o 11 = bu ∧
  (∀ j, j < n → (kd j = rows (4 * j) ∧ 0 ≤ kd j ∧ kd j ≤ 4) ∧ (sz j = rows (4 * j + 1) ∧ 1 ≤ sz j ∧ sz j ≤ 9) ∧ (pl j = rows (4 * j + 2) ∧ 0 ≤ pl j ∧ pl j < 12) ∧ (rows (4 * j + 3) = 0 ∨ rows (4 * j + 3) = 1)) ∧
  (∀ i j, i < n → j < n → pl i = pl j → i = j) ∧ (∀ j, j < n → rpI j = ((rp j : Nat) : Int) ∧ ptI j = ((pby ea eb lfa m j : Nat) : Int)) ∧ (∀ r, r < m → ropes (2 * r) = ((ea r : Nat) : Int) ∧ ropes (2 * r + 1) = ((eb r : Nat) : Int)) ∧ RR n m rp ea eb
/-- shells in both -/
def HH (n sn : Nat) (snI msn : Int) (one oth whn wre sh : FI) : Prop := snI = (sn : Int) ∧ msn = (sn : Int) ∧ sn ≤ 8 ∧ ∀ k, k < sn → (one k = sh (4 * k) ∧ oth k = sh (4 * k + 1) ∧ whn k = sh (4 * k + 2) ∧ wre k = sh (4 * k + 3)) ∧ (wre k = 0 ∨ wre k = 1) ∧ (0 ≤ one k ∧ one k < n) ∧ (0 ≤ oth k ∧ oth k < n) ∧ one k ≠ oth k ∧ (0 ≤ whn k ∧ whn k ≤ 20)
/-- a sea with its shells -/
def SH (o kd sz pl rpI ptI : FI) (is rm wi da bu : Int) (rows ropes : FI) (snI msn : Int) (one oth whn wre sh : FI) (c : Nat) : Prop :=
  ∃ (n m an sn : Nat) (rp ea eb : Nat → Nat), SS n m an rp ea eb o kd sz pl rpI ptI is rm wi da bu rows ropes c ∧ HH n sn snI msn one oth whn wre sh
def RPage (g : Nat → Nat → Int) : Prop := ∃ L : Nat, g 0 1 = (L : Int) ∧ g 39 1 = (L : Int) ∧ L ≤ 14 ∧ ∀ j, j < L → g 1 j = g 40 j ∧ 1 ≤ g 1 j ∧ g 1 j ≤ 126
def RNum (c : Nat) (g : Nat → Nat → Int) : Prop := (g 0 2 = g 39 2 ∧ (g 39 2 = 0 ∨ g 39 2 = 1)) ∧ (g 0 4 = g 39 6 ∧ 0 ≤ g 39 6 ∧ g 39 6 ≤ c) ∧ (g 0 5 = g 39 16 ∧ 0 ≤ g 39 16 ∧ g 39 16 ≤ 30)
def RCur (g : Nat → Nat → Int) : Prop := ∀ j, j < 12 → g 3 j = g 41 j ∧ -1 ≤ g 3 j ∧ g 3 j ≤ 1
def RNow (c : Nat) (g : Nat → Nat → Int) : Prop := SH (g 2) (g 4) (g 5) (g 6) (g 7) (g 8) (g 39 8) (g 39 9) (g 39 3) (g 39 4) (g 39 5) (g 42) (g 43) (g 23 4) (g 39 22) (g 24) (g 25) (g 26) (g 27) (g 48) c
def RImg (c : Nat) (g : Nat → Nat → Int) : Prop := (g 0 3 = 0 ∧ -1 ≤ g 39 25 ∧ g 39 25 < g 39 6) ∨ (g 0 3 = 1 ∧ g 39 25 = g 39 6 ∧ (∀ j, j < 12 → g 10 j = g 3 j) ∧ SH (g 9) (g 11) (g 12) (g 13) (g 14) (g 15) (g 39 26) (g 39 27) (g 39 28) (g 39 29) (g 39 30) (g 49) (g 50) (g 28 4) (g 39 31) (g 29) (g 30) (g 31) (g 32) (g 51) c)
/-- behind c calls on both -/
def Rel (c : Nat) (g : Nat → Nat → Int) : Prop := c ≤ 512 ∧ RPage g ∧ RNum c g ∧ RCur g ∧ RNow c g ∧ RImg c g
theorem SH_mono {o kd sz pl rpI ptI : FI} {is rm wi da bu : Int} {rows ropes : FI} {snI msn : Int} {one oth whn wre sh : FI} {c c1 : Nat} (h : SH o kd sz pl rpI ptI is rm wi da bu rows ropes snI msn one oth whn wre sh c) (hc : c ≤ c1) : SH o kd sz pl rpI ptI is rm wi da bu rows ropes snI msn one oth whn wre sh c1 := by
  obtain ⟨n, m, an, sn, rp, ea, eb, ⟨h1, h2, h3, h4, h5, h6⟩, hh⟩ := h
  exact ⟨n, m, an, sn, rp, ea, eb, ⟨h1, h2, h3, h4, ⟨h5.1, h5.2.1, by omega⟩, h6⟩, hh⟩
theorem RNum_mono {c c1 : Nat} {g : Nat → Nat → Int} (h : RNum c g) (hc : c ≤ c1) : RNum c1 g := ⟨h.1, ⟨h.2.1.1, h.2.1.2.1, by have := h.2.1.2.2; omega⟩, h.2.2⟩
theorem RImg_mono {c c1 : Nat} {g : Nat → Nat → Int} (h : RImg c g) (hc : c ≤ c1) : RImg c1 g := h.imp id (fun h => ⟨h.1, h.2.1, h.2.2.1, SH_mono h.2.2.2 hc⟩)
theorem Rel_step {c : Nat} {g : Nat → Nat → Int} (h : Rel c g) (hc : c < 512) : Rel (c + 1) g := ⟨by omega, h.2.1, RNum_mono h.2.2.1 (by omega), h.2.2.2.1, SH_mono h.2.2.2.2.1 (by omega), RImg_mono h.2.2.2.2.2 (by omega)⟩
theorem SS_WK {g : Nat → Nat → Int} {n m an c : Nat} {rp ea eb : Nat → Nat} (hc : c ≤ 512) (hcu : RCur g) (h : SS n m an rp ea eb (g 2) (g 4) (g 5) (g 6) (g 7) (g 8) (g 39 8) (g 39 9) (g 39 3) (g 39 4) (g 39 5) (g 42) (g 43) c) : WK g 2 n an (pby ea eb lfa m) := by
  obtain ⟨h1, h2, h3, h4, h5, h6, h7, h8, h9, h10, h11⟩ := h
  refine ⟨⟨h1.1, h11.2.1, fun j hj => (hcu j hj).2, fun j hj => (h7 j hj).1.2, fun j hj => (h7 j hj).2.1.2⟩, fun j hj => (h7 j hj).2.2.1.2, h3.1, ?_, ⟨by rw [h4.1]; exact h4.2.1, by rw [h4.1]; exact h4.2.2⟩, ⟨by rw [h5.1]; exact h5.2.1, by rw [h5.1]; omega⟩, fun j hj => ⟨(h9 j hj).2, pby_lt (fun r hr => ⟨(h11.2.2.1 r hr).1, (h11.2.2.1 r hr).2.1⟩) hj⟩⟩
  rw [h3.2]
  exact bor_lt (fun j hj => hj)
theorem SS_MP {g : Nat → Nat → Int} {n m an c : Nat} {rp ea eb : Nat → Nat} (hc : c ≤ 512) (hcu : RCur g) (h : SS n m an rp ea eb (g 2) (g 4) (g 5) (g 6) (g 7) (g 8) (g 39 8) (g 39 9) (g 39 3) (g 39 4) (g 39 5) (g 42) (g 43) c) : MP g n m ea eb := by
  obtain ⟨h1, h2, h3, h4, h5, h6, h7, h8, h9, h10, h11⟩ := h
  exact ⟨h1.2, h11.2.1, fun j hj => by rw [← (hcu j hj).1]; exact (hcu j hj).2, fun j hj => by rw [← (h7 j hj).1.1]; exact (h7 j hj).1.2, fun j hj => by rw [← (h7 j hj).2.1.1]; exact (h7 j hj).2.1.2, fun j hj => by rw [← (h7 j hj).2.2.1.1]; exact (h7 j hj).2.2.1.2, fun j hj => (h7 j hj).2.2.2, h4.2, ⟨h5.2.1, by omega⟩, h2.2, h11.1, h11.2.1, fun r hr => ⟨(h10 r hr).1, (h10 r hr).2, (h11.2.2.1 r hr).1, (h11.2.2.1 r hr).2.1⟩⟩
/-- rows that tell the same of a drift in both -/
theorem SS_eqn {g : Nat → Nat → Int} {n m an c : Nat} {rp ea eb : Nat → Nat} (h : SS n m an rp ea eb (g 2) (g 4) (g 5) (g 6) (g 7) (g 8) (g 39 8) (g 39 9) (g 39 3) (g 39 4) (g 39 5) (g 42) (g 43) c) : eqn n (g 4) (kdM g) ∧ eqn n (g 5) (szM g) ∧ eqn n (g 6) (nwr g n) :=
  ⟨fun j hj => (h.2.2.2.2.2.2.1 j hj).1.1, fun j hj => (h.2.2.2.2.2.2.1 j hj).2.1.1, fun j hj => by simp only [nwr, if_pos hj]; exact (h.2.2.2.2.2.2.1 j hj).2.2.1.1⟩
theorem mtv_both {g : Nat → Nat → Int} {n m an c : Nat} {rp ea eb : Nat → Nat} (hcu : RCur g) (h : SS n m an rp ea eb (g 2) (g 4) (g 5) (g 6) (g 7) (g 8) (g 39 8) (g 39 9) (g 39 3) (g 39 4) (g 39 5) (g 42) (g 43) c) (more x y d : Nat) (hx : x < n) (hy : y < n) : mtv n (g 4) (g 5) (g 3) (pby ea eb lfa m) (an ||| more) (g 2 9) (g 2 10) (g 6) x y d = mtv n (kdM g) (szM g) (g 41) (pby ea eb lfa m) (anb g n ||| more) (g 39 3) (g 39 4) (nwr g n) x y d := by
  obtain ⟨e1, e2, e3⟩ := SS_eqn h
  rw [show g 2 9 = g 39 3 from h.2.2.2.1.1, show g 2 10 = g 39 4 from h.2.2.2.2.1.1, show an = anb g n from h.2.2.1.2]
  exact mtv_congr e1 e2 (fun j hj => (hcu j hj).1) (fun _ _ => rfl) e3 (fun j hj => (h.2.2.2.2.2.2.1 j hj).2.2.1.2) hx hy
/-- what is scratch in both -/
theorem Rel_congr {c : Nat} {g g1 : Nat → Nat → Int} (h : Rel c g) (e : ∀ b k, ¬ (scX b k ∨ scM b k) → g1 b k = g b k) : Rel c g1 := by
  have row : ∀ b, (¬ ((16 ≤ b ∧ b ≤ 22) ∨ (33 ≤ b ∧ b ≤ 38)) ∧ b ≠ 44 ∧ b ≠ 45 ∧ b ≠ 46 ∧ b ≠ 47 ∧ b ≠ 39) → g1 b = g b := by
    intro b hb
    funext k
    refine e b k ?_
    unfold scX scM
    omega
  have c39 : ∀ k, (k ≠ 13 ∧ k ≠ 14 ∧ k ≠ 15 ∧ k ≠ 20 ∧ k ≠ 21 ∧ k ≠ 24) → g1 39 k = g 39 k := by
    intro k hk
    refine e 39 k ?_
    unfold scX scM
    omega
  unfold Rel RPage RNum RCur RNow RImg at h ⊢
  rw [row 0 (by omega), row 1 (by omega), row 2 (by omega), row 3 (by omega), row 4 (by omega), row 5 (by omega), row 6 (by omega), row 7 (by omega), row 8 (by omega), row 9 (by omega), row 10 (by omega), row 11 (by omega), row 12 (by omega), row 13 (by omega), row 14 (by omega), row 15 (by omega), row 23 (by omega), row 24 (by omega), row 25 (by omega), row 26 (by omega), row 27 (by omega), row 28 (by omega), row 29 (by omega), row 30 (by omega), row 31 (by omega), row 32 (by omega), row 40 (by omega), row 41 (by omega), row 42 (by omega), row 43 (by omega), row 48 (by omega), row 49 (by omega), row 50 (by omega), row 51 (by omega), c39 1 (by omega), c39 2 (by omega), c39 3 (by omega), c39 4 (by omega), c39 5 (by omega), c39 6 (by omega), c39 8 (by omega), c39 9 (by omega), c39 16 (by omega), c39 22 (by omega), c39 25 (by omega), c39 26 (by omega), c39 27 (by omega), c39 28 (by omega), c39 29 (by omega), c39 30 (by omega), c39 31 (by omega)]
  exact h
theorem Rel_X {c : Nat} {g g1 : Nat → Nat → Int} (h : Rel c g) (e : eqS scX g g1) : Rel c g1 := Rel_congr h (fun b k q => e b k (fun x => q (Or.inl x)))
theorem Rel_M {c : Nat} {g g1 : Nat → Nat → Int} (h : Rel c g) (e : eqS scM g g1) : Rel c g1 := Rel_congr h (fun b k q => e b k (fun x => q (Or.inr x)))
/-- one call on each, with the same answer, and they stand side by side behind it -/
def opOK (zs : zzT) (kx km : Nat) (ax am : List Value) (c : Nat) (g : Nat → Nat → Int) (hh : Int64) : Prop := ∃ (r : Int) (Mid : (Nat → Nat → Int) → Prop), rg r ∧ (∀ Q : zzQ, (∀ g1, Mid g1 → Q [.int (iI r)] (wof g1 hh)) → zzCL zs 20 kx ax (wof g hh) Q) ∧ (∀ g1, Mid g1 → ∀ Q : zzQ, (∀ g2, Rel (c + 1) g2 → Q [.int (iI r)] (wof g2 hh)) → zzCL zs 20 km am (wof g1 hh) Q)
theorem op_id {zs : zzT} {kx km : Nat} {ax am : List Value} {c : Nat} {g : Nat → Nat → Int} {hh : Int64} {r : Int} (hr : rg r) (h : Rel c g) (hc : c < 512) (hx : ∀ Q : zzQ, Q [.int (iI r)] (wof g hh) → zzCL zs 20 kx ax (wof g hh) Q) (hm : ∀ Q : zzQ, Q [.int (iI r)] (wof g hh) → zzCL zs 20 km am (wof g hh) Q) : opOK zs kx km ax am c g hh :=
  ⟨r, fun g1 => g1 = g, hr, fun Q q => hx Q (q g rfl), fun g1 e Q q => by subst e; exact hm Q (q g1 (Rel_step h hc))⟩
theorem op_ex {zs : zzT} {kx km : Nat} {ax am : List Value} {c : Nat} {g gx gm : Nat → Nat → Int} {hh : Int64} {r : Int} (hr : rg r) (h : Rel (c + 1) gm) (hx : ∀ Q : zzQ, Q [.int (iI r)] (wof gx hh) → zzCL zs 20 kx ax (wof g hh) Q) (hm : ∀ Q : zzQ, Q [.int (iI r)] (wof gm hh) → zzCL zs 20 km am (wof gx hh) Q) : opOK zs kx km ax am c g hh :=
  ⟨r, fun g1 => g1 = gx, hr, fun Q q => hx Q (q gx rfl), fun g1 e Q q => by subst e; exact hm Q (q gm h)⟩
theorem op_sc {zs : zzT} {kx km : Nat} {ax am : List Value} {c : Nat} {g : Nat → Nat → Int} {hh : Int64} {r : Int} (hr : rg r) (h : Rel c g) (hc : c < 512) (hx : ∀ Q : zzQ, (∀ g1, eqS scX g g1 → Q [.int (iI r)] (wof g1 hh)) → zzCL zs 20 kx ax (wof g hh) Q) (hm : ∀ g1, Rel c g1 → eqS scX g g1 → ∀ Q : zzQ, (∀ g2, eqS scM g1 g2 → Q [.int (iI r)] (wof g2 hh)) → zzCL zs 20 km am (wof g1 hh) Q) : opOK zs kx km ax am c g hh :=
  ⟨r, fun g1 => eqS scX g g1, hr, hx, fun g1 e Q q => hm g1 (Rel_X h e) e Q (fun g2 e2 => q g2 (Rel_step (Rel_M (Rel_X h e) e2) hc))⟩
