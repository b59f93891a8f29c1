def cnd (pl : FI) (pt : Nat) (s : Int) (i k : Nat) : Prop := pt.testBit i = true ∧ pt.testBit k = false ∧ (pl i + s) % 12 = pl k
theorem stepB {P : Nat → Nat → Prop} {t k n : Nat} {B : Bool} (hB : B = true ↔ ∃ i1 k1, ((i1 < t ∧ k1 < n) ∨ (i1 = t ∧ k1 < k)) ∧ P i1 k1) : (B = true ∨ P t k) ↔ ∃ i1 k1, ((i1 < t ∧ k1 < n) ∨ (i1 = t ∧ k1 < k + 1)) ∧ P i1 k1 := by
  rw [hB]
  constructor
  · rintro (⟨i1, k1, h, hp⟩ | hp)
    · refine ⟨i1, k1, ?_, hp⟩
      rcases h with h | h
      · exact Or.inl h
      · exact Or.inr ⟨h.1, by omega⟩
    · exact ⟨t, k, Or.inr ⟨rfl, by omega⟩, hp⟩
  · rintro ⟨i1, k1, h, hp⟩
    rcases h with h | h
    · exact Or.inl ⟨i1, k1, Or.inl h, hp⟩
    · rcases Nat.lt_or_eq_of_le (Nat.le_of_lt_succ h.2) with q | q
      · exact Or.inl ⟨i1, k1, Or.inr ⟨h.1, q⟩, hp⟩
      · obtain ⟨rfl, -⟩ := h
        subst q
        exact Or.inr hp
theorem stepO {P : Nat → Nat → Prop} {t n : Nat} {B : Bool} (hB : B = true ↔ ∃ i1 k1, ((i1 < t ∧ k1 < n) ∨ (i1 = t ∧ k1 < n)) ∧ P i1 k1) : B = true ↔ ∃ i1 k1, (i1 < t + 1 ∧ k1 < n) ∧ P i1 k1 := by
  rw [hB]
  constructor
  · rintro ⟨i1, k1, h, hp⟩
    exact ⟨i1, k1, by omega, hp⟩
  · rintro ⟨i1, k1, h, hp⟩
    exact ⟨i1, k1, by omega, hp⟩
theorem stepI {P : Nat → Nat → Prop} {t n : Nat} {B : Bool} (hB : B = true ↔ ∃ i1 k1, (i1 < t ∧ k1 < n) ∧ P i1 k1) : B = true ↔ ∃ i1 k1, ((i1 < t ∧ k1 < n) ∨ (i1 = t ∧ k1 < 0)) ∧ P i1 k1 := by
  rw [hB]
  constructor
  · rintro ⟨i1, k1, h, hp⟩
    exact ⟨i1, k1, by omega, hp⟩
  · rintro ⟨i1, k1, h, hp⟩
    exact ⟨i1, k1, by omega, hp⟩
theorem brdB {n : Nat} {pl : FI} {pt : Nat} {s : Int} {B : Bool} (hB : B = true ↔ ∃ i1 k1, (i1 < n ∧ k1 < n) ∧ cnd pl pt s i1 k1) : B = brd n pl pt s := by
  have h : B = true ↔ brd n pl pt s = true := by
    rw [hB, brd_iff]
    constructor
    · rintro ⟨i, k, h, a, b, c⟩
      exact ⟨i, k, h.1, h.2, a, b, c⟩
    · rintro ⟨i, k, h1, h2, a, b, c⟩
      exact ⟨i, k, ⟨h1, h2⟩, a, b, c⟩
  cases B <;> cases e : brd n pl pt s <;> simp_all
/-- the model's moving row -/
def mrow (B : Bool) (pl : FI) (pt : Nat) (s : Int) (i : Nat) : FI := if B = true then pl else mvi pl pt s i
theorem iu_same (f : FI) (i : Nat) : iu f i (f i) = f := by
  funext j
  simp only [iu]
  split
  · next h => rw [h]
  · rfl
theorem mrow_i {B : Bool} {pl : FI} {pt : Nat} {s : Int} {i : Nat} : mrow B pl pt s i i = pl i := by
  unfold mrow
  split
  · rfl
  · simp [mvi]
theorem mrow_0 {B : Bool} {pl : FI} {pt : Nat} {s : Int} : mrow B pl pt s 0 = pl := by
  unfold mrow
  split
  · rfl
  · exact mvi_0 _ _ _
theorem mrow_f {B : Bool} {pl : FI} {pt : Nat} {s : Int} {i : Nat} (h : pt.testBit i = false ∨ B = true) : iu (mrow B pl pt s i) i (pl i) = mrow B pl pt s (i + 1) := by
  have e : iu (mrow B pl pt s i) i (pl i) = mrow B pl pt s i := by
    have := iu_same (mrow B pl pt s i) i
    rw [mrow_i] at this
    exact this
  rw [e]
  unfold mrow
  split
  · rfl
  · next q =>
    rcases h with h | h
    · exact mvi_f h
    · exact absurd h q
theorem mrow_t {B : Bool} {pl : FI} {pt : Nat} {s : Int} {i : Nat} (h : pt.testBit i = true) (hb : B = false) : iu (mrow B pl pt s i) i ((pl i + s) % 12) = mrow B pl pt s (i + 1) := by
  subst hb
  simp only [mrow, Bool.false_eq_true, if_false]
  exact mvi_t h
theorem mrow_n {n : Nat} {pl : FI} {pt : Nat} {s : Int} (hp : plok n pl) (hpt : pt < 2 ^ n) : mrow (brd n pl pt s) pl pt s n = mvp n pl pt s := by
  cases e : brd n pl pt s with
  | true => simp [mrow, mvp, e]
  | false =>
    simp only [mrow, Bool.false_eq_true, if_false]
    by_cases h0 : s = 0
    · subst h0
      rw [show mvp n pl pt 0 = pl by simp [mvp]]
      funext j
      simp only [mvi]
      split
      · next h =>
        have := hp j h.1
        omega
      · rfl
    · exact mvi_n hpt h0 e
theorem MD_pl {g : Nat → Nat → Int} {n an : Nat} {q : FI} (h : MD g n an) (hq : plok n q) : MD (gr g 44 q) n an := by
  obtain ⟨hn, hn5, hcu, hkd, hsz, hpl, han, han2, hwi, hda⟩ := h
  exact ⟨hn, hn5, hcu, hkd, hsz, hq, han, han2, hwi, hda⟩
theorem MR_pl {g : Nat → Nat → Int} {m n : Nat} {ea eb : Nat → Nat} {q : FI} (h : MR g m n ea eb) : MR (gr g 44 q) m n ea eb := h
theorem c_X4_drifts {zs : zzT} {d : Nat} {Q : zzQ} {g : Nat → Nat → Int} {hh : Int64} {n an : Nat} (hw : MD g n an) {pt : Nat} (hpt2 : pt < 2 ^ n) (hQ : Q [.int (iI (bmp n (g 44) pt (way n (kdM g) (szM g) (g 41) an (g 39 14) (g 39 15) pt (g 44))))] (wof (gr g 44 (mvp n (g 44) pt (way n (kdM g) (szM g) (g 41) an (g 39 14) (g 39 15) pt (g 44)))) hh)) : zzCL zs (d + 2) 106 [.ref 39, .int (iI (pt : Int))] (wof g hh) Q := by
  refine st_X4_drifts (Nat.le_of_ble_eq_true rfl) (fun R hR => ?_)
  show R 0 [(0, .ref 39), (1, .int (iI (pt : Int)))] [] _
  have hw0 := hw
  obtain ⟨hn, hn5, hcu, hkd, hsz, hpl, han, han2, hwi, hda⟩ := hw
  have hpt : pt < 32 := Nat.lt_of_lt_of_le hpt2 (Nat.pow_le_pow_right (n := 2) (by decide) hn5)
  have hsr : ∀ i, i ≤ n → -(27 * (i : Int)) ≤ smu (wpu (kdM g) (szM g) (g 41) an (g 39 14) (g 39 15) pt (g 44)) i ∧ smu (wpu (kdM g) (szM g) (g 41) an (g 39 14) (g 39 15) pt (g 44)) i ≤ 27 * (i : Int) := fun i hi => smu_rg i (fun j hj => wpu_rg hcu hwi (hpl j (by omega)) (hsz j (by omega)))
  have hs0 : sg (smu (wpu (kdM g) (szM g) (g 41) an (g 39 14) (g 39 15) pt (g 44)) n) = way n (kdM g) (szM g) (g 41) an (g 39 14) (g 39 15) pt (g 44) := rfl
  generalize way n (kdM g) (szM g) (g 41) an (g 39 14) (g 39 15) pt (g 44) = s at hQ hs0
  have hs : -1 ≤ s ∧ s ≤ 1 := by rw [← hs0]; exact sg_rg _
  have rest : ∀ (by0 sm : Int) (n0 : Nat), by0 = s % 12 → R 68 [(0, .ref 39), (1, .int (iI (pt : Int))), (2, .int (iI sm)), (3, .int (iI (n0 : Int)))] [.int (iI by0)] (wof g hh) := by
    intro by0 sm n0 hby
    have hby0 : 0 ≤ by0 ∧ by0 < 12 := by omega
    have lp2 : ∀ (k i : Nat) (B : Bool), i ≤ n → n < i + k → (B = true ↔ ∃ i1 k1, (i1 < i ∧ k1 < n) ∧ cnd (g 44) pt s i1 k1) → R 75 [(0, .ref 39), (1, .int (iI (pt : Int))), (2, .int (iI sm)), (3, .int (iI by0)), (4, .int (iI (b2i B))), (5, .int (iI (i : Int)))] [] (wof g hh) := by
      intro k
      induction k with
      | zero => intro i; intros; omega
      | succ k ih =>
        intro i B hi1 hi2 hB
        refine z_iload hR dX4_drifts_75 rfl ?_
        refine z_aload_n hR dX4_drifts_77 rfl rfl ?_
        refine g_get hR dX4_drifts_78 zf_4_76 (wk_39 _) (gi hn) ?_
        refine g_icmp_ge hR (tgt := 161) dX4_drifts_81 (by decide) (fun c81 => ?_) (fun c81 => ?_)
        · refine g_iconst hR dX4_drifts_161 ?_
          refine z_istore hR dX4_drifts_162 (by decide) rfl ?_
          have e : i = n := by omega
          rw [e] at hB
          have hBb := brdB hB
          have lp3 : ∀ (k i : Nat) (row : FI), i ≤ n → n < i + k → (row = mrow B (g 44) pt s i) → R 164 [(0, .ref 39), (1, .int (iI (pt : Int))), (2, .int (iI sm)), (3, .int (iI by0)), (4, .int (iI (b2i B))), (5, .int (iI (i : Int)))] [] (wof (gr g 44 row) hh) := by
            intro k
            induction k with
            | zero => intro i; intros; omega
            | succ k ih =>
              intro i row hi1 hi2 hrow
              refine z_iload hR dX4_drifts_164 rfl ?_
              refine z_aload_n hR dX4_drifts_166 rfl rfl ?_
              refine g_get hR dX4_drifts_167 zf_4_76 (wk_39 _) (gi (show gr g 44 row 39 8 = (n : Int) from hn)) ?_
              refine g_icmp_ge hR (tgt := 223) dX4_drifts_170 (by decide) (fun c170 => ?_) (fun c170 => ?_)
              · have e : i = n := by omega
                subst e
                rw [hrow, hBb, mrow_n hpl hpt2]
                refine z_iload_n hR dX4_drifts_223 rfl rfl ?_
                refine g_if_eq hR (tgt := 236) dX4_drifts_224 (by decide) (fun c224 => ?_) (fun c224 => ?_)
                · refine g_iconst hR dX4_drifts_236 ?_
                  refine g_iret hR dX4_drifts_237 rfl ?_
                  refine qi hQ ?_
                  unfold bmp
                  first | (rw [if_pos ⟨by omega, c229⟩]; done) | (rw [if_neg (by rintro ⟨q1, q2⟩; first | omega | (rw [c229] at q2; cases q2))]; done)
                · refine z_iload hR dX4_drifts_227 rfl ?_
                  refine g_if_eqb hR (tgt := 236) dX4_drifts_229 (by decide) (fun c229 => ?_) (fun c229 => ?_)
                  · refine g_iconst hR dX4_drifts_236 ?_
                    refine g_iret hR dX4_drifts_237 rfl ?_
                    refine qi hQ ?_
                    unfold bmp
                    first | (rw [if_pos ⟨by omega, c229⟩]; done) | (rw [if_neg (by rintro ⟨q1, q2⟩; first | omega | (rw [c229] at q2; cases q2))]; done)
                  · refine g_iconst hR dX4_drifts_232 ?_
                    refine z_goto hR (tgt := 237) dX4_drifts_233 (by decide) ?_
                    refine g_iret hR dX4_drifts_237 rfl ?_
                    refine qi hQ ?_
                    unfold bmp
                    first | (rw [if_pos ⟨by omega, c229⟩]; done) | (rw [if_neg (by rintro ⟨q1, q2⟩; first | omega | (rw [c229] at q2; cases q2))]; done)
              · have hin : i < n := by omega
                have hpi := hpl i hin
                have hri : gr g 44 row 44 i = g 44 i := by rw [gr_s, hrow]; exact mrow_i
                refine z_aload_n hR dX4_drifts_173 rfl rfl ?_
                refine g_get hR dX4_drifts_174 zf_4_22 (wk_39 _) rfl ?_
                refine z_iload hR dX4_drifts_177 rfl ?_
                refine z_iload_n hR dX4_drifts_179 rfl rfl ?_
                refine z_iload hR dX4_drifts_180 rfl ?_
                refine g_ishrN hR dX4_drifts_182 rfl ?_
                refine g_iconst hR dX4_drifts_183 ?_
                refine g_iand1 hR dX4_drifts_184 (tb_int _ _) ?_
                refine g_iconst hR dX4_drifts_185 ?_
                refine g_icmp_neb hR (tgt := 209) dX4_drifts_186 (by decide) (fun c186 => ?_) (fun c186 => ?_)
                · refine z_aload_n hR dX4_drifts_209 rfl rfl ?_
                  refine g_get hR dX4_drifts_210 zf_4_22 (wk_39 _) rfl ?_
                  refine z_iload hR dX4_drifts_213 rfl ?_
                  refine g_ialdN hR dX4_drifts_215 (wk_44 _) hri ?_
                  refine g_iastN hR dX4_drifts_216 (wk_44 _) ?_
                  refine g_iinc hR dX4_drifts_217 rfl rfl (by decide) rfl ?_
                  refine z_goto hR (tgt := 164) dX4_drifts_220 (by decide) ?_
                  rw [gr_s, gr_gr]
                  refine ih (i + 1) _ (by omega) (by omega) ?_
                  rw [hrow]
                  first | exact mrow_f (Or.inl c186) | exact mrow_f (Or.inr c191) | (rw [show (g 44 i + by0) % 12 = (g 44 i + s) % 12 by omega]; exact mrow_t c186 c191)
                · refine z_iload hR dX4_drifts_189 rfl ?_
                  refine g_if_neb hR (tgt := 209) dX4_drifts_191 (by decide) (fun c191 => ?_) (fun c191 => ?_)
                  · refine z_aload_n hR dX4_drifts_209 rfl rfl ?_
                    refine g_get hR dX4_drifts_210 zf_4_22 (wk_39 _) rfl ?_
                    refine z_iload hR dX4_drifts_213 rfl ?_
                    refine g_ialdN hR dX4_drifts_215 (wk_44 _) hri ?_
                    refine g_iastN hR dX4_drifts_216 (wk_44 _) ?_
                    refine g_iinc hR dX4_drifts_217 rfl rfl (by decide) rfl ?_
                    refine z_goto hR (tgt := 164) dX4_drifts_220 (by decide) ?_
                    rw [gr_s, gr_gr]
                    refine ih (i + 1) _ (by omega) (by omega) ?_
                    rw [hrow]
                    first | exact mrow_f (Or.inl c186) | exact mrow_f (Or.inr c191) | (rw [show (g 44 i + by0) % 12 = (g 44 i + s) % 12 by omega]; exact mrow_t c186 c191)
                  · refine z_aload_n hR dX4_drifts_194 rfl rfl ?_
                    refine g_get hR dX4_drifts_195 zf_4_22 (wk_39 _) rfl ?_
                    refine z_iload hR dX4_drifts_198 rfl ?_
                    refine g_ialdN hR dX4_drifts_200 (wk_44 _) hri ?_
                    refine z_iload_n hR dX4_drifts_201 rfl rfl ?_
                    refine g_iadd hR dX4_drifts_202 rfl ?_
                    refine g_bipush hR dX4_drifts_203 ?_
                    refine g_irem hR dX4_drifts_205 rfl ?_
                    refine z_goto hR (tgt := 216) dX4_drifts_206 (by decide) ?_
                    refine g_iastN hR dX4_drifts_216 (wk_44 _) ?_
                    refine g_iinc hR dX4_drifts_217 rfl rfl (by decide) rfl ?_
                    refine z_goto hR (tgt := 164) dX4_drifts_220 (by decide) ?_
                    rw [gr_s, gr_gr]
                    refine ih (i + 1) _ (by omega) (by omega) ?_
                    rw [hrow]
                    first | exact mrow_f (Or.inl c186) | exact mrow_f (Or.inr c191) | (rw [show (g 44 i + by0) % 12 = (g 44 i + s) % 12 by omega]; exact mrow_t c186 c191)
          have hl := lp3 (n + 1) 0 (g 44) (by omega) (by omega) mrow_0.symm
          rw [gr_self] at hl
          exact hl
        · refine g_iconst hR dX4_drifts_84 ?_
          refine z_istore hR dX4_drifts_85 (by decide) rfl ?_
          have iho := ih
          clear ih
          obtain ⟨t, rfl⟩ : ∃ t, t = i := ⟨_, rfl⟩
          have htn : t < n := by omega
          have hpt0 := hpl t htn
          have lp2i : ∀ (k i : Nat) (B : Bool), i ≤ n → n < i + k → (B = true ↔ ∃ i1 k1, ((i1 < t ∧ k1 < n) ∨ (i1 = t ∧ k1 < i)) ∧ cnd (g 44) pt s i1 k1) → R 87 [(0, .ref 39), (1, .int (iI (pt : Int))), (2, .int (iI sm)), (3, .int (iI by0)), (4, .int (iI (b2i B))), (5, .int (iI (t : Int))), (6, .int (iI (i : Int)))] [] (wof g hh) := by
            intro k
            induction k with
            | zero => intro i; intros; omega
            | succ k ih =>
              intro i B hi1 hi2 hB
              refine z_iload hR dX4_drifts_87 rfl ?_
              refine z_aload_n hR dX4_drifts_89 rfl rfl ?_
              refine g_get hR dX4_drifts_90 zf_4_76 (wk_39 _) (gi hn) ?_
              refine g_icmp_ge hR (tgt := 155) dX4_drifts_93 (by decide) (fun c93 => ?_) (fun c93 => ?_)
              · refine g_iinc hR dX4_drifts_155 rfl rfl (by decide) rfl ?_
                refine z_goto hR (tgt := 75) dX4_drifts_158 (by decide) ?_
                refine z_sub hR [0, 1, 2, 3, 4, 5] rfl ?_
                have e : i = n := by omega
                rw [e] at hB
                exact iho (t + 1) B (by omega) (by omega) (stepO hB)
              · have hin : i < n := by omega
                have hpk := hpl i hin
                refine z_iload hR dX4_drifts_96 rfl ?_
                refine g_if_neb hR (tgt := 142) dX4_drifts_98 (by decide) (fun c98 => ?_) (fun c98 => ?_)
                · refine g_iconst hR dX4_drifts_142 ?_
                  refine z_goto hR (tgt := 147) dX4_drifts_143 (by decide) ?_
                  refine z_istore hR dX4_drifts_147 (by decide) rfl ?_
                  refine g_iinc hR dX4_drifts_149 rfl rfl (by decide) rfl ?_
                  refine z_goto hR (tgt := 87) dX4_drifts_152 (by decide) ?_
                  first
                    | exact ih (i + 1) true (by omega) (by omega) (iff_of_true rfl ((stepB hB).mp (Or.inl c98)))
                    | exact ih (i + 1) true (by omega) (by omega) (iff_of_true rfl ((stepB hB).mp (Or.inr ⟨c108, c117, by omega⟩)))
                    | exact ih (i + 1) false (by omega) (by omega) (iff_of_false (by decide) (fun h => ((stepB hB).mpr h).elim (fun q => absurd (q.symm.trans c98) (by decide)) (fun q => absurd (q.1.symm.trans c108) (by decide))))
                    | exact ih (i + 1) false (by omega) (by omega) (iff_of_false (by decide) (fun h => ((stepB hB).mpr h).elim (fun q => absurd (q.symm.trans c98) (by decide)) (fun q => absurd (q.2.1.symm.trans c117) (by decide))))
                    | exact ih (i + 1) false (by omega) (by omega) (iff_of_false (by decide) (fun h => ((stepB hB).mpr h).elim (fun q => absurd (q.symm.trans c98) (by decide)) (fun q => c139 (by have := q.2.2; omega))))
                · refine z_iload_n hR dX4_drifts_101 rfl rfl ?_
                  refine z_iload hR dX4_drifts_102 rfl ?_
                  refine g_ishrN hR dX4_drifts_104 rfl ?_
                  refine g_iconst hR dX4_drifts_105 ?_
                  refine g_iand1 hR dX4_drifts_106 (tb_int _ _) ?_
                  refine g_iconst hR dX4_drifts_107 ?_
                  refine g_icmp_neb hR (tgt := 146) dX4_drifts_108 (by decide) (fun c108 => ?_) (fun c108 => ?_)
                  · refine g_iconst hR dX4_drifts_146 ?_
                    refine z_istore hR dX4_drifts_147 (by decide) rfl ?_
                    refine g_iinc hR dX4_drifts_149 rfl rfl (by decide) rfl ?_
                    refine z_goto hR (tgt := 87) dX4_drifts_152 (by decide) ?_
                    first
                      | exact ih (i + 1) true (by omega) (by omega) (iff_of_true rfl ((stepB hB).mp (Or.inl c98)))
                      | exact ih (i + 1) true (by omega) (by omega) (iff_of_true rfl ((stepB hB).mp (Or.inr ⟨c108, c117, by omega⟩)))
                      | exact ih (i + 1) false (by omega) (by omega) (iff_of_false (by decide) (fun h => ((stepB hB).mpr h).elim (fun q => absurd (q.symm.trans c98) (by decide)) (fun q => absurd (q.1.symm.trans c108) (by decide))))
                      | exact ih (i + 1) false (by omega) (by omega) (iff_of_false (by decide) (fun h => ((stepB hB).mpr h).elim (fun q => absurd (q.symm.trans c98) (by decide)) (fun q => absurd (q.2.1.symm.trans c117) (by decide))))
                      | exact ih (i + 1) false (by omega) (by omega) (iff_of_false (by decide) (fun h => ((stepB hB).mpr h).elim (fun q => absurd (q.symm.trans c98) (by decide)) (fun q => c139 (by have := q.2.2; omega))))
                  · refine z_iload_n hR dX4_drifts_111 rfl rfl ?_
                    refine z_iload hR dX4_drifts_112 rfl ?_
                    refine g_ishrN hR dX4_drifts_114 rfl ?_
                    refine g_iconst hR dX4_drifts_115 ?_
                    refine g_iand1 hR dX4_drifts_116 (tb_int _ _) ?_
                    refine g_if_neb hR (tgt := 146) dX4_drifts_117 (by decide) (fun c117 => ?_) (fun c117 => ?_)
                    · refine g_iconst hR dX4_drifts_146 ?_
                      refine z_istore hR dX4_drifts_147 (by decide) rfl ?_
                      refine g_iinc hR dX4_drifts_149 rfl rfl (by decide) rfl ?_
                      refine z_goto hR (tgt := 87) dX4_drifts_152 (by decide) ?_
                      first
                        | exact ih (i + 1) true (by omega) (by omega) (iff_of_true rfl ((stepB hB).mp (Or.inl c98)))
                        | exact ih (i + 1) true (by omega) (by omega) (iff_of_true rfl ((stepB hB).mp (Or.inr ⟨c108, c117, by omega⟩)))
                        | exact ih (i + 1) false (by omega) (by omega) (iff_of_false (by decide) (fun h => ((stepB hB).mpr h).elim (fun q => absurd (q.symm.trans c98) (by decide)) (fun q => absurd (q.1.symm.trans c108) (by decide))))
                        | exact ih (i + 1) false (by omega) (by omega) (iff_of_false (by decide) (fun h => ((stepB hB).mpr h).elim (fun q => absurd (q.symm.trans c98) (by decide)) (fun q => absurd (q.2.1.symm.trans c117) (by decide))))
                        | exact ih (i + 1) false (by omega) (by omega) (iff_of_false (by decide) (fun h => ((stepB hB).mpr h).elim (fun q => absurd (q.symm.trans c98) (by decide)) (fun q => c139 (by have := q.2.2; omega))))
                    · refine z_aload_n hR dX4_drifts_120 rfl rfl ?_
                      refine g_get hR dX4_drifts_121 zf_4_22 (wk_39 _) rfl ?_
                      refine z_iload hR dX4_drifts_124 rfl ?_
                      refine g_ialdN hR dX4_drifts_126 (wk_44 _) rfl ?_
                      refine z_iload_n hR dX4_drifts_127 rfl rfl ?_
                      refine g_iadd hR dX4_drifts_128 rfl ?_
                      refine g_bipush hR dX4_drifts_129 ?_
                      refine g_irem hR dX4_drifts_131 rfl ?_
                      refine z_aload_n hR dX4_drifts_132 rfl rfl ?_
                      refine g_get hR dX4_drifts_133 zf_4_22 (wk_39 _) rfl ?_
                      refine z_iload hR dX4_drifts_136 rfl ?_
                      refine g_ialdN hR dX4_drifts_138 (wk_44 _) rfl ?_
                      refine g_icmp_ne hR (tgt := 146) dX4_drifts_139 (by decide) (fun c139 => ?_) (fun c139 => ?_)
                      · refine g_iconst hR dX4_drifts_146 ?_
                        refine z_istore hR dX4_drifts_147 (by decide) rfl ?_
                        refine g_iinc hR dX4_drifts_149 rfl rfl (by decide) rfl ?_
                        refine z_goto hR (tgt := 87) dX4_drifts_152 (by decide) ?_
                        first
                          | exact ih (i + 1) true (by omega) (by omega) (iff_of_true rfl ((stepB hB).mp (Or.inl c98)))
                          | exact ih (i + 1) true (by omega) (by omega) (iff_of_true rfl ((stepB hB).mp (Or.inr ⟨c108, c117, by omega⟩)))
                          | exact ih (i + 1) false (by omega) (by omega) (iff_of_false (by decide) (fun h => ((stepB hB).mpr h).elim (fun q => absurd (q.symm.trans c98) (by decide)) (fun q => absurd (q.1.symm.trans c108) (by decide))))
                          | exact ih (i + 1) false (by omega) (by omega) (iff_of_false (by decide) (fun h => ((stepB hB).mpr h).elim (fun q => absurd (q.symm.trans c98) (by decide)) (fun q => absurd (q.2.1.symm.trans c117) (by decide))))
                          | exact ih (i + 1) false (by omega) (by omega) (iff_of_false (by decide) (fun h => ((stepB hB).mpr h).elim (fun q => absurd (q.symm.trans c98) (by decide)) (fun q => c139 (by have := q.2.2; omega))))
                      · refine g_iconst hR dX4_drifts_142 ?_
                        refine z_goto hR (tgt := 147) dX4_drifts_143 (by decide) ?_
                        refine z_istore hR dX4_drifts_147 (by decide) rfl ?_
                        refine g_iinc hR dX4_drifts_149 rfl rfl (by decide) rfl ?_
                        refine z_goto hR (tgt := 87) dX4_drifts_152 (by decide) ?_
                        first
                          | exact ih (i + 1) true (by omega) (by omega) (iff_of_true rfl ((stepB hB).mp (Or.inl c98)))
                          | exact ih (i + 1) true (by omega) (by omega) (iff_of_true rfl ((stepB hB).mp (Or.inr ⟨c108, c117, by omega⟩)))
                          | exact ih (i + 1) false (by omega) (by omega) (iff_of_false (by decide) (fun h => ((stepB hB).mpr h).elim (fun q => absurd (q.symm.trans c98) (by decide)) (fun q => absurd (q.1.symm.trans c108) (by decide))))
                          | exact ih (i + 1) false (by omega) (by omega) (iff_of_false (by decide) (fun h => ((stepB hB).mpr h).elim (fun q => absurd (q.symm.trans c98) (by decide)) (fun q => absurd (q.2.1.symm.trans c117) (by decide))))
                          | exact ih (i + 1) false (by omega) (by omega) (iff_of_false (by decide) (fun h => ((stepB hB).mpr h).elim (fun q => absurd (q.symm.trans c98) (by decide)) (fun q => c139 (by have := q.2.2; omega))))
          exact lp2i (n + 1) 0 B (by omega) (by omega) (stepI hB)
    refine z_istore_n hR dX4_drifts_68 rfl (by decide) rfl ?_
    refine g_iconst hR dX4_drifts_69 ?_
    refine z_istore hR dX4_drifts_70 (by decide) rfl ?_
    refine g_iconst hR dX4_drifts_72 ?_
    refine z_istore hR dX4_drifts_73 (by decide) rfl ?_
    exact lp2 (n + 1) 0 false (by omega) (by omega) (iff_of_false (by decide) (by rintro ⟨_, _, h, _⟩; omega))
  have lp1 : ∀ (k i : Nat) (sm : Int), i ≤ n → n < i + k → (sm = smu (wpu (kdM g) (szM g) (g 41) an (g 39 14) (g 39 15) pt (g 44)) i) → R 4 [(0, .ref 39), (1, .int (iI (pt : Int))), (2, .int (iI sm)), (3, .int (iI (i : Int)))] [] (wof g hh) := by
    intro k
    induction k with
    | zero => intro i; intros; omega
    | succ k ih =>
      intro i sm hi1 hi2 hsm
      refine z_iload_n hR dX4_drifts_4 rfl rfl ?_
      refine z_aload_n hR dX4_drifts_5 rfl rfl ?_
      refine g_get hR dX4_drifts_6 zf_4_76 (wk_39 _) (gi hn) ?_
      refine g_icmp_ge hR (tgt := 50) dX4_drifts_9 (by decide) (fun c9 => ?_) (fun c9 => ?_)
      · have e : i = n := by omega
        subst e
        have hb := hsr i (by omega)
        have hse : sg sm = s := by rw [hsm]; exact hs0
        refine z_iload_n hR dX4_drifts_50 rfl rfl ?_
        refine g_if_le hR (tgt := 58) dX4_drifts_51 (by decide) (fun c51 => ?_) (fun c51 => ?_)
        · refine z_iload_n hR dX4_drifts_58 rfl rfl ?_
          refine g_if_ge hR (tgt := 67) dX4_drifts_59 (by decide) (fun c59 => ?_) (fun c59 => ?_)
          · refine g_iconst hR dX4_drifts_67 ?_
            refine rest _ _ _ ?_
            rw [← hse]
            unfold sg
            repeat' split
            all_goals omega
          · refine g_bipush hR dX4_drifts_62 ?_
            refine z_goto hR (tgt := 68) dX4_drifts_64 (by decide) ?_
            refine rest _ _ _ ?_
            rw [← hse]
            unfold sg
            repeat' split
            all_goals omega
        · refine g_iconst hR dX4_drifts_54 ?_
          refine z_goto hR (tgt := 68) dX4_drifts_55 (by decide) ?_
          refine rest _ _ _ ?_
          rw [← hse]
          unfold sg
          repeat' split
          all_goals omega
      · have hin : i < n := by omega
        refine z_iload_n hR dX4_drifts_12 rfl rfl ?_
        refine z_iload_n hR dX4_drifts_13 rfl rfl ?_
        refine z_iload_n hR dX4_drifts_14 rfl rfl ?_
        refine g_ishrN hR dX4_drifts_15 rfl ?_
        refine g_iconst hR dX4_drifts_16 ?_
        refine g_iand1 hR dX4_drifts_17 (tb_int _ _) ?_
        refine g_iconst hR dX4_drifts_18 ?_
        refine g_icmp_neb hR (tgt := 41) dX4_drifts_19 (by decide) (fun c19 => ?_) (fun c19 => ?_)
        · refine g_iconst hR dX4_drifts_41 ?_
          refine g_iadd hR dX4_drifts_42 rfl ?_
          refine z_istore_n hR dX4_drifts_43 rfl (by decide) rfl ?_
          refine g_iinc hR dX4_drifts_44 rfl rfl (by decide) rfl ?_
          refine z_goto hR (tgt := 4) dX4_drifts_47 (by decide) ?_
          refine ih (i + 1) _ (by omega) (by omega) ?_
          simp [smu, wpu, c19, hsm, szM]
        · refine z_aload_n hR dX4_drifts_22 rfl rfl ?_
          refine z_iload_n hR dX4_drifts_23 rfl rfl ?_
          refine g_inv1 hR dX4_drifts_24 zm_4_123 (by decide) zN_X4_pushOf ((wk_39 _) _) zO_X4_pushOf (Nat.le_of_ble_eq_true rfl) ?_
          refine c_X4_pushOf hw0 hin ?_
          show R 27 _ (.int _ :: _) _
          refine z_aload_n hR dX4_drifts_27 rfl rfl ?_
          refine g_get hR dX4_drifts_28 zf_4_16 (wk_39 _) rfl ?_
          refine g_iconst hR dX4_drifts_31 ?_
          refine z_iload_n hR dX4_drifts_32 rfl rfl ?_
          refine g_imul hR dX4_drifts_33 (nmul 4 _) ?_
          refine g_iconst hR dX4_drifts_34 ?_
          refine g_iadd hR dX4_drifts_35 (nadd _ 1) ?_
          refine g_ialdN hR dX4_drifts_36 (wk_42 _) rfl ?_
          refine g_imul hR dX4_drifts_37 rfl ?_
          refine z_goto hR (tgt := 42) dX4_drifts_38 (by decide) ?_
          refine g_iadd hR dX4_drifts_42 rfl ?_
          refine z_istore_n hR dX4_drifts_43 rfl (by decide) rfl ?_
          refine g_iinc hR dX4_drifts_44 rfl rfl (by decide) rfl ?_
          refine z_goto hR (tgt := 4) dX4_drifts_47 (by decide) ?_
          refine ih (i + 1) _ (by omega) (by omega) ?_
          simp [smu, wpu, c19, hsm, szM]
  refine g_iconst hR dX4_drifts_0 ?_
  refine z_istore_n hR dX4_drifts_1 rfl (by decide) rfl ?_
  refine g_iconst hR dX4_drifts_2 ?_
  refine z_istore_n hR dX4_drifts_3 rfl (by decide) rfl ?_
  exact lp1 (n + 1) 0 0 (by omega) (by omega) rfl
