def eaN (ea : Nat → Nat) (m x : Nat) : Nat → Nat := fun r => if r = m then x else ea r
theorem arp_rp {n m : Nat} {rp ea eb : Nat → Nat} (h : RR n m rp ea eb) {i j : Nat} (hi : i < n) (hj : j < n) : arp ea eb m i j = (rp i).testBit j := by
  have e : arp ea eb m i j = true ↔ (rp i).testBit j = true := by rw [arp_iff]; exact (h.2.2.2.2.2 i j hi hj).symm
  cases e1 : arp ea eb m i j <;> cases e2 : (rp i).testBit j <;> simp_all
theorem RR_wed {n m : Nat} {rp ea eb : Nat → Nat} (h : RR n m rp ea eb) {i j : Nat} (hi : i < n) (hj : j < n) (hij : i ≠ j) (hno : (rp i).testBit j = false) (hm : m < 6) : RR n (m + 1) (rpT rp i j) (eaN ea m i) (eaN eb m j) := by
  obtain ⟨b1, b2, b3, b4, b5, b6⟩ := h
  have hno1 : ∀ r, r < m → ¬ ((ea r = i ∧ eb r = j) ∨ (ea r = j ∧ eb r = i)) := by
    intro r hr q
    have := (b6 i j hi hj).mpr ⟨r, hr, q⟩
    rw [this] at hno
    cases hno
  have hpi : 2 ^ i < 2 ^ n := Nat.pow_lt_pow_right (by decide) hi
  have hpj : 2 ^ j < 2 ^ n := Nat.pow_lt_pow_right (by decide) hj
  refine ⟨by omega, b2, fun r hr => ?_, fun r s hrs hs => ?_, fun a ha => ?_, fun a b ha hb => ?_⟩
  · unfold eaN
    by_cases e : r = m
    · simp [e]; omega
    · simp only [if_neg e]; exact b3 r (by omega)
  · unfold eaN
    rw [if_neg (by omega : ¬ r = m), if_neg (by omega : ¬ r = m)]
    by_cases e : s = m
    · rw [if_pos e, if_pos e]
      exact hno1 r (by omega)
    · rw [if_neg e, if_neg e]
      exact b4 r s hrs (by omega)
  · unfold rpT
    split
    · exact Nat.or_lt_two_pow (b5 j hj) hpi
    · split
      · exact Nat.or_lt_two_pow (b5 i hi) hpj
      · exact b5 a ha
  · have hex : (∃ r, r < m + 1 ∧ ((eaN ea m i r = a ∧ eaN eb m j r = b) ∨ (eaN ea m i r = b ∧ eaN eb m j r = a))) ↔ (∃ r, r < m ∧ ((ea r = a ∧ eb r = b) ∨ (ea r = b ∧ eb r = a))) ∨ ((i = a ∧ j = b) ∨ (i = b ∧ j = a)) := by
      constructor
      · rintro ⟨r, hr, q⟩
        unfold eaN at q
        by_cases e : r = m
        · rw [if_pos e, if_pos e] at q
          exact Or.inr q
        · rw [if_neg e, if_neg e] at q
          exact Or.inl ⟨r, by omega, q⟩
      · rintro (⟨r, hr, q⟩ | q)
        · refine ⟨r, by omega, ?_⟩
          unfold eaN
          rw [if_neg (by omega : ¬ r = m), if_neg (by omega : ¬ r = m)]
          exact q
        · refine ⟨m, by omega, ?_⟩
          unfold eaN
          rw [if_pos rfl, if_pos rfl]
          exact q
    rw [hex, ← b6 a b ha hb]
    unfold rpT
    by_cases e1 : a = j
    · subst e1
      rw [if_pos rfl, Nat.testBit_or, Nat.testBit_two_pow, Bool.or_eq_true, decide_eq_true_eq]
      constructor
      · rintro (q | q)
        · exact Or.inl q
        · exact Or.inr (Or.inr ⟨q, rfl⟩)
      · rintro (q | q)
        · exact Or.inl q
        · exact Or.inr (by omega)
    · rw [if_neg e1]
      by_cases e2 : a = i
      · subst e2
        rw [if_pos rfl, Nat.testBit_or, Nat.testBit_two_pow, Bool.or_eq_true, decide_eq_true_eq]
        constructor
        · rintro (q | q)
          · exact Or.inl q
          · exact Or.inr (Or.inl ⟨rfl, q⟩)
        · rintro (q | q)
          · exact Or.inl q
          · exact Or.inr (by omega)
      · rw [if_neg e2]
        constructor
        · exact Or.inl
        · rintro (q | q)
          · exact q
          · omega
theorem RR_axe {n m : Nat} {rp ea eb : Nat → Nat} (h : RR n m rp ea eb) {i j : Nat} (hi : i < n) (hj : j < n) (hij : i ≠ j) (hro : (rp i).testBit j = true) (row0 : FI) : ∃ ea1 eb1 : Nat → Nat, (cpr ea eb i j row0 m).2 + 1 = m ∧ RR n (cpr ea eb i j row0 m).2 (rpC rp i j) ea1 eb1 ∧ ∀ k, k < (cpr ea eb i j row0 m).2 → (cpr ea eb i j row0 m).1 (2 * k) = ((ea1 k : Nat) : Int) ∧ (cpr ea eb i j row0 m).1 (2 * k + 1) = ((eb1 k : Nat) : Int) := by
  obtain ⟨b1, b2, b3, b4, b5, b6⟩ := h
  obtain ⟨r0, hr0, q0⟩ := (b6 i j hi hj).mp hro
  have hu : ∀ r, r < m → (mtcB ea eb i j r = true ↔ r = r0) := by
    intro r hr
    unfold mtcB
    rw [decide_eq_true_eq]
    constructor
    · intro q
      rcases Nat.lt_trichotomy r r0 with z | z | z
      · exact absurd (by omega) (b4 r r0 z hr0)
      · exact z
      · exact absurd (by omega) (b4 r0 r z hr)
    · intro e
      rw [e]; exact q0
  have hcnt := cpr_n (row0 := row0) hu m (Nat.le_refl m)
  rw [if_pos hr0] at hcnt
  obtain ⟨sg0, s1, s2, s3⟩ := cpr_sig (ea := ea) (eb := eb) (x := i) (y := j) (row0 := row0) m
  refine ⟨fun k => ea (sg0 k), fun k => eb (sg0 k), by omega, ⟨by omega, b2, fun r hr => b3 _ (s1 r hr).1, fun r s hrs hs => b4 _ _ (s3 r s hrs hs) (s1 s hs).1, fun a ha => ?_, fun a b ha hb => ?_⟩, fun k hk => (s1 k hk).2.2⟩
  · unfold rpC
    split
    · exact xor_and_lt (b5 j hj)
    · split
      · exact xor_and_lt (b5 i hi)
      · exact b5 a ha
  · have hex : (∃ r, r < (cpr ea eb i j row0 m).2 ∧ ((ea (sg0 r) = a ∧ eb (sg0 r) = b) ∨ (ea (sg0 r) = b ∧ eb (sg0 r) = a))) ↔ (∃ r, r < m ∧ ((ea r = a ∧ eb r = b) ∨ (ea r = b ∧ eb r = a))) ∧ ¬ ((a = i ∧ b = j) ∨ (a = j ∧ b = i)) := by
      constructor
      · rintro ⟨k, hk, q⟩
        refine ⟨⟨sg0 k, (s1 k hk).1, q⟩, fun z => ?_⟩
        have := of_decide_eq_false (s1 k hk).2.1
        omega
      · rintro ⟨⟨r, hr, q⟩, hnot⟩
        obtain ⟨k, hk, hks⟩ := s2 r hr (decide_eq_false (by omega))
        exact ⟨k, hk, by rw [hks]; exact q⟩
    show (rpC rp i j a).testBit b = true ↔ (∃ r, r < (cpr ea eb i j row0 m).2 ∧ ((ea (sg0 r) = a ∧ eb (sg0 r) = b) ∨ (ea (sg0 r) = b ∧ eb (sg0 r) = a)))
    rw [hex, ← b6 a b ha hb]
    unfold rpC
    by_cases e1 : a = j
    · subst e1
      rw [if_pos rfl, Nat.testBit_xor, Nat.testBit_and, Nat.testBit_two_pow]
      by_cases e : i = b
      · simp [e]
      · have : ¬ ((a = i ∧ b = a) ∨ (a = a ∧ b = i)) := by omega
        simp [e, this]
        omega
    · rw [if_neg e1]
      by_cases e2 : a = i
      · subst e2
        rw [if_pos rfl, Nat.testBit_xor, Nat.testBit_and, Nat.testBit_two_pow]
        by_cases e : j = b
        · simp [e]
        · have : ¬ ((a = a ∧ b = j) ∨ (a = j ∧ b = a)) := by omega
          simp [e, this]
          omega
      · rw [if_neg e2]
        constructor
        · intro q
          exact ⟨q, by omega⟩
        · exact fun q => q.1
/-- ropes and parties anew -/
theorem SS_ropes {n m m1 an c : Nat} {rp rp1 ea eb ea1 eb1 : Nat → Nat} {o kdf szf plf rpI ptI rpI1 ptI1 : FI} {is rm rm1 wi da bu : Int} {rows ropes ropes1 : FI} (h : SS n m an rp ea eb o kdf szf plf rpI ptI is rm wi da bu rows ropes c) (hr : RR n m1 rp1 ea1 eb1) (h7 : ∀ j, j < n → rpI1 j = ((rp1 j : Nat) : Int)) (h8 : ∀ j, j < n → ptI1 j = ((tied rp1 n j : Nat) : Int)) (h43 : ∀ r, r < m1 → ropes1 (2 * r) = ((ea1 r : Nat) : Int) ∧ ropes1 (2 * r + 1) = ((eb1 r : Nat) : Int)) (hrm : rm1 = (m1 : Int)) : SS n m1 an rp1 ea1 eb1 (iu o 7 rm1) kdf szf plf rpI1 ptI1 is rm1 wi da bu rows ropes1 (c + 1) := by
  obtain ⟨a1, a2, a3, a4, a5, a6, a7, a8, a9, a10, a11⟩ := h
  exact ⟨⟨by rw [iu_n _ _ (by omega)]; exact a1.1, a1.2⟩, ⟨by rw [iu_s]; exact hrm, hrm⟩, ⟨by rw [iu_n _ _ (by omega)]; exact a3.1, a3.2⟩, ⟨by rw [iu_n _ _ (by omega)]; exact a4.1, a4.2⟩, ⟨by rw [iu_n _ _ (by omega)]; exact a5.1, a5.2.1, by have := a5.2.2; omega⟩, by rw [iu_n _ _ (by omega)]; exact a6, a7, a8, fun j hj => ⟨h7 j hj, by rw [h8 j hj, party_eq hr hj]⟩, h43, hr⟩
theorem iu_rpT {f : FI} {rp : Nat → Nat} {n i j : Nat} (hij : i ≠ j) (h : ∀ k, k < n → f k = ((rp k : Nat) : Int)) : ∀ k, k < n → iu (iu f i ((rp i ||| 2 ^ j : Nat) : Int)) j ((rp j ||| 2 ^ i : Nat) : Int) k = ((rpT rp i j k : Nat) : Int) := by
  intro k hk
  unfold rpT
  by_cases e1 : k = j
  · rw [e1, iu_s, if_pos rfl]
  · rw [iu_n _ _ e1, if_neg e1]
    by_cases e2 : k = i
    · rw [e2, iu_s, if_pos rfl]
    · rw [iu_n _ _ e2, if_neg e2]
      exact h k hk
theorem iu_rpC {f : FI} {rp : Nat → Nat} {n i j : Nat} (hij : i ≠ j) (h : ∀ k, k < n → f k = ((rp k : Nat) : Int)) : ∀ k, k < n → iu (iu f i ((rp i ^^^ (rp i &&& 2 ^ j) : Nat) : Int)) j ((rp j ^^^ (rp j &&& 2 ^ i) : Nat) : Int) k = ((rpC rp i j k : Nat) : Int) := by
  intro k hk
  unfold rpC
  by_cases e1 : k = j
  · rw [e1, iu_s, if_pos rfl]
  · rw [iu_n _ _ e1, if_neg e1]
    by_cases e2 : k = i
    · rw [e2, iu_s, if_pos rfl]
    · rw [iu_n _ _ e2, if_neg e2]
      exact h k hk
theorem op_wed {zs : zzT} {c : Nat} {g : Nat → Nat → Int} {hh : Int64} (hz : zsok zs) (h : Rel c g) (hc : c < 512) {x y : Int} (hx : rg x) (hy : rg y) : opOK zs 24 100 [.ref 0, .int (iI x), .int (iI y)] [.ref 39, .int (iI x), .int (iI y)] c g hh := by
  obtain ⟨hc0, hpage, hnum, hcur, ⟨n, m, an, sn, rp, ea, eb, hS, hH⟩, himg⟩ := id h
  have hk := SS_WK hc0 hcur hS
  have hp := SS_MP hc0 hcur hS
  have hRR := hS.2.2.2.2.2.2.2.2.2.2
  have hm : g 2 7 = (m : Int) := hS.2.1.1
  have hm6 := hRR.1
  have hrp : ∀ j, j < n → g 7 j = ((rp j : Nat) : Int) ∧ rp j < 2 ^ n := fun j hj => ⟨(hS.2.2.2.2.2.2.2.2.1 j hj).1, hRR.2.2.2.2.1 j hj⟩
  by_cases hA : (0 ≤ x ∧ x < (n : Int)) ∧ (0 ≤ y ∧ y < (n : Int)) ∧ x ≠ y
  · obtain ⟨i, rfl⟩ := Int.eq_ofNat_of_zero_le hA.1.1
    obtain ⟨j, rfl⟩ := Int.eq_ofNat_of_zero_le hA.2.1.1
    have hin : i < n := by omega
    have hjn : j < n := by omega
    have hij : i ≠ j := by omega
    have harp := arp_rp hRR hin hjn
    have hbs : bs (g 6 i) (g 6 j) = bs (g 42 (4 * i + 2)) (g 42 (4 * j + 2)) := by rw [(hS.2.2.2.2.2.2.1 i hin).2.2.1.1, (hS.2.2.2.2.2.2.1 j hjn).2.2.1.1]
    by_cases hB : (rp i).testBit j = true ∨ bs (g 6 i) (g 6 j) = false
    · have hB2 : arp ea eb m i j = true ∨ bs (g 42 (4 * i + 2)) (g 42 (4 * j + 2)) = false := by rw [harp, ← hbs]; exact hB
      exact op_id (r := -103) (by unfold rg; omega) h hc (fun Q q => c_X3_wed hk.1.1 hk.1.2.1 hm hm6 hk.2.1 hrp hx hy (fun x => absurd hA x) (fun _ _ _ _ _ _ _ _ => q) (fun a b e1 e2 _ _ _ z1 z2 => by obtain rfl := Int.ofNat.inj e1; obtain rfl := Int.ofNat.inj e2; exact absurd hB (by rw [z1, z2]; simp)) (fun a b e1 e2 _ _ _ z1 z2 => by obtain rfl := Int.ofNat.inj e1; obtain rfl := Int.ofNat.inj e2; exact absurd hB (by rw [z1, z2]; simp))) (fun Q q => c_X4_wed hp hx hy (fun x => absurd hA x) (fun _ _ _ _ _ _ _ _ => q) (fun a b e1 e2 _ _ _ z1 z2 => by obtain rfl := Int.ofNat.inj e1; obtain rfl := Int.ofNat.inj e2; exact absurd hB2 (by rw [z1, z2]; simp)) (fun a b e1 e2 _ _ _ z1 z2 => by obtain rfl := Int.ofNat.inj e1; obtain rfl := Int.ofNat.inj e2; exact absurd hB2 (by rw [z1, z2]; simp)))
    · have hB2 : ¬ (arp ea eb m i j = true ∨ bs (g 42 (4 * i + 2)) (g 42 (4 * j + 2)) = false) := by rw [harp, ← hbs]; exact hB
      have hrf : (rp i).testBit j = false := by cases e : (rp i).testBit j; (· rfl); (· exact absurd (Or.inl e) hB)
      by_cases hD : m = 6
      · exact op_id (r := -104) (by unfold rg; omega) h hc (fun Q q => c_X3_wed hk.1.1 hk.1.2.1 hm hm6 hk.2.1 hrp hx hy (fun x => absurd hA x) (fun a b e1 e2 _ _ _ z => by obtain rfl := Int.ofNat.inj e1; obtain rfl := Int.ofNat.inj e2; exact absurd z hB) (fun _ _ _ _ _ _ _ _ _ _ => q) (fun _ _ _ _ _ _ _ _ _ z => absurd hD (by omega))) (fun Q q => c_X4_wed hp hx hy (fun x => absurd hA x) (fun a b e1 e2 _ _ _ z => by obtain rfl := Int.ofNat.inj e1; obtain rfl := Int.ofNat.inj e2; exact absurd z hB2) (fun _ _ _ _ _ _ _ _ _ _ => q) (fun _ _ _ _ _ _ _ _ _ z => absurd hD (by omega)))
      · refine op_ex (r := (m : Int) + 1) (by unfold rg; omega) ?_ (fun Q q => c_X3_wed hk.1.1 hk.1.2.1 hm hm6 hk.2.1 hrp hx hy (fun x => absurd hA x) (fun a b e1 e2 _ _ _ z => by obtain rfl := Int.ofNat.inj e1; obtain rfl := Int.ofNat.inj e2; exact absurd z hB) (fun _ _ _ _ _ _ _ _ _ z => absurd z hD) (fun a b e1 e2 _ _ _ _ _ _ => by obtain rfl := Int.ofNat.inj e1; obtain rfl := Int.ofNat.inj e2; exact q)) (fun Q q => c_X4_wed (g := gr (gr (gr g 7 (iu (iu (g 7) i ((rp i ||| 2 ^ j : Nat) : Int)) j ((rp j ||| 2 ^ i : Nat) : Int))) 2 (iu (g 2) 7 (g 2 7 + 1))) 8 (ptr (rpT rp i j) n (g 8) n)) hp hx hy (fun x => absurd hA x) (fun a b e1 e2 _ _ _ z => by obtain rfl := Int.ofNat.inj e1; obtain rfl := Int.ofNat.inj e2; exact absurd z hB2) (fun _ _ _ _ _ _ _ _ _ z => absurd z hD) (fun a b e1 e2 _ _ _ _ _ _ => by obtain rfl := Int.ofNat.inj e1; obtain rfl := Int.ofNat.inj e2; exact q))
        have hs := Rel_step h hc
        have hR1 := RR_wed hRR hin hjn hij hrf (by omega)
        have hS1 := SS_ropes (rm1 := (m : Int) + 1) (rpI1 := iu (iu (g 7) i ((rp i ||| 2 ^ j : Nat) : Int)) j ((rp j ||| 2 ^ i : Nat) : Int)) (ptI1 := ptr (rpT rp i j) n (g 8) n) (ropes1 := iu (iu (g 43) (2 * m) (i : Int)) (2 * m + 1) (j : Int)) hS hR1 (iu_rpT hij (fun k hk => (hrp k hk).1)) (fun k hk => by simp only [ptr, if_pos hk]) (fun r hr => ?_) (by omega)
        · rw [← hm] at hS1
          exact ⟨hs.1, hs.2.1, hs.2.2.1, hs.2.2.2.1, ⟨n, m + 1, an, sn, _, _, _, by rw [hm] at hS1; exact (show SS n (m + 1) an _ _ _ (iu (g 2) 7 (g 2 7 + 1)) (g 4) (g 5) (g 6) _ _ (g 39 8) ((m : Int) + 1) (g 39 3) (g 39 4) (g 39 5) (g 42) _ (c + 1) from by rw [hm]; exact hS1), hH⟩, hs.2.2.2.2.2⟩
        · unfold eaN
          by_cases e : r = m
          · rw [e, if_pos rfl, if_pos rfl, iu_n _ _ (by omega), iu_s, iu_s]; exact ⟨rfl, rfl⟩
          · rw [if_neg e, if_neg e, iu_n _ _ (by omega), iu_n _ _ (by omega), iu_n _ _ (by omega), iu_n _ _ (by omega)]
            exact hS.2.2.2.2.2.2.2.2.2.1 r (by omega)
  · exact op_id (r := -101) (by unfold rg; omega) h hc (fun Q q => c_X3_wed hk.1.1 hk.1.2.1 hm hm6 hk.2.1 hrp hx hy (fun _ => q) (fun a b e1 e2 z1 z2 z3 => absurd (by omega) hA) (fun a b e1 e2 z1 z2 z3 => absurd (by omega) hA) (fun a b e1 e2 z1 z2 z3 => absurd (by omega) hA)) (fun Q q => c_X4_wed hp hx hy (fun _ => q) (fun a b e1 e2 z1 z2 z3 => absurd (by omega) hA) (fun a b e1 e2 z1 z2 z3 => absurd (by omega) hA) (fun a b e1 e2 z1 z2 z3 => absurd (by omega) hA))
theorem op_axe {zs : zzT} {c : Nat} {g : Nat → Nat → Int} {hh : Int64} (hz : zsok zs) (h : Rel c g) (hc : c < 512) {x y : Int} (hx : rg x) (hy : rg y) : opOK zs 30 102 [.ref 0, .int (iI x), .int (iI y)] [.ref 39, .int (iI x), .int (iI y)] c g hh := by
  obtain ⟨hc0, hpage, hnum, hcur, ⟨n, m, an, sn, rp, ea, eb, hS, hH⟩, himg⟩ := id h
  have hk := SS_WK hc0 hcur hS
  have hp := SS_MP hc0 hcur hS
  have hRR := hS.2.2.2.2.2.2.2.2.2.2
  have hm : g 2 7 = (m : Int) := hS.2.1.1
  have hm6 := hRR.1
  have hrp : ∀ j, j < n → g 7 j = ((rp j : Nat) : Int) ∧ rp j < 2 ^ n := fun j hj => ⟨(hS.2.2.2.2.2.2.2.2.1 j hj).1, hRR.2.2.2.2.1 j hj⟩
  by_cases hA : (0 ≤ x ∧ x < (n : Int)) ∧ (0 ≤ y ∧ y < (n : Int)) ∧ x ≠ y
  · obtain ⟨i, rfl⟩ := Int.eq_ofNat_of_zero_le hA.1.1
    obtain ⟨j, rfl⟩ := Int.eq_ofNat_of_zero_le hA.2.1.1
    have hin : i < n := by omega
    have hjn : j < n := by omega
    have hij : i ≠ j := by omega
    have harp := arp_rp hRR hin hjn
    by_cases hB : (rp i).testBit j = true
    · have hB2 : arp ea eb m i j = true := by rw [harp]; exact hB
      obtain ⟨ea1, eb1, hcnt, hR1, h43⟩ := RR_axe hRR hin hjn hij hB (g 43)
      have hv : (((cpr ea eb i j (g 43) m).2 : Nat) : Int) = (m : Int) - 1 := by omega
      refine op_ex (r := (m : Int) - 1) (by unfold rg; omega) ?_ (fun Q q => c_X3_axe hk.1.1 hk.1.2.1 hm hm6 hk.2.1 hrp hx hy (fun x => absurd hA x) (fun a b e1 e2 _ _ _ z => by obtain rfl := Int.ofNat.inj e1; obtain rfl := Int.ofNat.inj e2; rw [hB] at z; cases z) (fun a b e1 e2 _ _ _ _ => by obtain rfl := Int.ofNat.inj e1; obtain rfl := Int.ofNat.inj e2; exact q)) (fun Q q => c_X4_axe (g := gr (gr (gr g 7 (iu (iu (g 7) i ((rp i ^^^ (rp i &&& 2 ^ j) : Nat) : Int)) j ((rp j ^^^ (rp j &&& 2 ^ i) : Nat) : Int))) 2 (iu (g 2) 7 (g 2 7 - 1))) 8 (ptr (rpC rp i j) n (g 8) n)) hp hx hy (fun x => absurd hA x) (fun a b e1 e2 _ _ _ z => by obtain rfl := Int.ofNat.inj e1; obtain rfl := Int.ofNat.inj e2; rw [hB2] at z; cases z) (fun a b e1 e2 _ _ _ _ => by obtain rfl := Int.ofNat.inj e1; obtain rfl := Int.ofNat.inj e2; rw [show (((cpr ea eb i j ((gr (gr (gr g 7 (iu (iu (g 7) i ((rp i ^^^ (rp i &&& 2 ^ j) : Nat) : Int)) j ((rp j ^^^ (rp j &&& 2 ^ i) : Nat) : Int))) 2 (iu (g 2) 7 (g 2 7 - 1))) 8 (ptr (rpC rp i j) n (g 8) n)) 43) m).2 : Nat) : Int) = (m : Int) - 1 from hv]; exact q))
      have hs := Rel_step h hc
      have hS1 := SS_ropes (rm1 := (m : Int) - 1) (rpI1 := iu (iu (g 7) i ((rp i ^^^ (rp i &&& 2 ^ j) : Nat) : Int)) j ((rp j ^^^ (rp j &&& 2 ^ i) : Nat) : Int)) (ptI1 := ptr (rpC rp i j) n (g 8) n) (ropes1 := (cpr ea eb i j (g 43) m).1) hS hR1 (iu_rpC hij (fun k hk => (hrp k hk).1)) (fun k hk => by simp only [ptr, if_pos hk]) h43 hv.symm
      exact ⟨hs.1, hs.2.1, hs.2.2.1, hs.2.2.2.1, ⟨n, _, an, sn, _, _, _, (show SS n (cpr ea eb i j (g 43) m).2 an _ _ _ (iu (g 2) 7 (g 2 7 - 1)) (g 4) (g 5) (g 6) _ _ (g 39 8) ((m : Int) - 1) (g 39 3) (g 39 4) (g 39 5) (g 42) _ (c + 1) from by rw [hm]; exact hS1), hH⟩, hs.2.2.2.2.2⟩
    · have hrf : (rp i).testBit j = false := by cases e : (rp i).testBit j; (· rfl); (· exact absurd e hB)
      exact op_id (r := -103) (by unfold rg; omega) h hc (fun Q q => c_X3_axe hk.1.1 hk.1.2.1 hm hm6 hk.2.1 hrp hx hy (fun x => absurd hA x) (fun _ _ _ _ _ _ _ _ => q) (fun a b e1 e2 _ _ _ z => by obtain rfl := Int.ofNat.inj e1; obtain rfl := Int.ofNat.inj e2; exact absurd z hB)) (fun Q q => c_X4_axe hp hx hy (fun x => absurd hA x) (fun _ _ _ _ _ _ _ _ => q) (fun a b e1 e2 _ _ _ z => by obtain rfl := Int.ofNat.inj e1; obtain rfl := Int.ofNat.inj e2; exact absurd (harp.symm.trans z) hB))
  · exact op_id (r := -101) (by unfold rg; omega) h hc (fun Q q => c_X3_axe hk.1.1 hk.1.2.1 hm hm6 hk.2.1 hrp hx hy (fun _ => q) (fun a b e1 e2 z1 z2 z3 => absurd (by omega) hA) (fun a b e1 e2 z1 z2 z3 => absurd (by omega) hA)) (fun Q q => c_X4_axe hp hx hy (fun _ => q) (fun a b e1 e2 z1 z2 z3 => absurd (by omega) hA) (fun a b e1 e2 z1 z2 z3 => absurd (by omega) hA))
