theorem zN_X3_letter : 1 = zzn 0 := by rw [zzn, zc_X3_letter]
theorem zO_X3_letter : 3 = zzo 0 := by rw [zzo, zc_X3_letter]
theorem st_X3_letter {zs : zzT} {d : Nat} {av : List Value} {w : zzW} {Q : zzQ} (hl : (lg_sl av).length ≤ 2) (hk : ∀ R : zzS, zzC zs (zzCL zs d) cX3_letter 3 2 (some .int) Q R → R 0 (lv_args 0 av) [] w) : zzCL zs (d + 1) 0 av w Q := by
  refine ⟨by decide, ?_, fun R hR => hk R ?_⟩
  · rw [zzl, zc_X3_letter]; exact hl
  · rw [zzc, zzo, zzl, zzr, zc_X3_letter] at hR; exact hR
theorem zN_X3_blank : 0 = zzn 1 := by rw [zzn, zc_X3_blank]
theorem zO_X3_blank : 3 = zzo 1 := by rw [zzo, zc_X3_blank]
theorem st_X3_blank {zs : zzT} {d : Nat} {av : List Value} {w : zzW} {Q : zzQ} (hl : (lg_sl av).length ≤ 2) (hk : ∀ R : zzS, zzC zs (zzCL zs d) cX3_blank 3 2 (some .int) Q R → R 0 (lv_args 0 av) [] w) : zzCL zs (d + 1) 1 av w Q := by
  refine ⟨by decide, ?_, fun R hR => hk R ?_⟩
  · rw [zzl, zc_X3_blank]; exact hl
  · rw [zzc, zzo, zzl, zzr, zc_X3_blank] at hR; exact hR
theorem zN_X3_fault : 0 = zzn 2 := by rw [zzn, zc_X3_fault]
theorem zO_X3_fault : 3 = zzo 2 := by rw [zzo, zc_X3_fault]
theorem st_X3_fault {zs : zzT} {d : Nat} {av : List Value} {w : zzW} {Q : zzQ} (hl : (lg_sl av).length ≤ 3) (hk : ∀ R : zzS, zzC zs (zzCL zs d) cX3_fault 3 3 (some .int) Q R → R 0 (lv_args 0 av) [] w) : zzCL zs (d + 1) 2 av w Q := by
  refine ⟨by decide, ?_, fun R hR => hk R ?_⟩
  · rw [zzl, zc_X3_fault]; exact hl
  · rw [zzc, zzo, zzl, zzr, zc_X3_fault] at hR; exact hR
theorem zN_X3_isSign : 1 = zzn 3 := by rw [zzn, zc_X3_isSign]
theorem zO_X3_isSign : 3 = zzo 3 := by rw [zzo, zc_X3_isSign]
theorem st_X3_isSign {zs : zzT} {d : Nat} {av : List Value} {w : zzW} {Q : zzQ} (hl : (lg_sl av).length ≤ 1) (hk : ∀ R : zzS, zzC zs (zzCL zs d) cX3_isSign 3 1 (some .boolean) Q R → R 0 (lv_args 0 av) [] w) : zzCL zs (d + 1) 3 av w Q := by
  refine ⟨by decide, ?_, fun R hR => hk R ?_⟩
  · rw [zzl, zc_X3_isSign]; exact hl
  · rw [zzc, zzo, zzl, zzr, zc_X3_isSign] at hR; exact hR
theorem zN_X3_sea : 0 = zzn 4 := by rw [zzn, zc_X3_sea]
theorem zO_X3_sea : 3 = zzo 4 := by rw [zzo, zc_X3_sea]
theorem st_X3_sea {zs : zzT} {d : Nat} {av : List Value} {w : zzW} {Q : zzQ} (hl : (lg_sl av).length ≤ 2) (hk : ∀ R : zzS, zzC zs (zzCL zs d) cX3_sea 3 2 (some .int) Q R → R 0 (lv_args 0 av) [] w) : zzCL zs (d + 1) 4 av w Q := by
  refine ⟨by decide, ?_, fun R hR => hk R ?_⟩
  · rw [zzl, zc_X3_sea]; exact hl
  · rw [zzc, zzo, zzl, zzr, zc_X3_sea] at hR; exact hR
theorem zN_X2_clear : 0 = zzn 5 := by rw [zzn, zc_X2_clear]
theorem zO_X2_clear : 2 = zzo 5 := by rw [zzo, zc_X2_clear]
theorem st_X2_clear {zs : zzT} {d : Nat} {av : List Value} {w : zzW} {Q : zzQ} (hl : (lg_sl av).length ≤ 1) (hk : ∀ R : zzS, zzC zs (zzCL zs d) cX2_clear 2 1 none Q R → R 0 (lv_args 0 av) [] w) : zzCL zs (d + 1) 5 av w Q := by
  refine ⟨by decide, ?_, fun R hR => hk R ?_⟩
  · rw [zzl, zc_X2_clear]; exact hl
  · rw [zzc, zzo, zzl, zzr, zc_X2_clear] at hR; exact hR
theorem zN_X3_currentOf : 1 = zzn 6 := by rw [zzn, zc_X3_currentOf]
theorem zO_X3_currentOf : 3 = zzo 6 := by rw [zzo, zc_X3_currentOf]
theorem st_X3_currentOf {zs : zzT} {d : Nat} {av : List Value} {w : zzW} {Q : zzQ} (hl : (lg_sl av).length ≤ 1) (hk : ∀ R : zzS, zzC zs (zzCL zs d) cX3_currentOf 3 1 (some .int) Q R → R 0 (lv_args 0 av) [] w) : zzCL zs (d + 1) 6 av w Q := by
  refine ⟨by decide, ?_, fun R hR => hk R ?_⟩
  · rw [zzl, zc_X3_currentOf]; exact hl
  · rw [zzc, zzo, zzl, zzr, zc_X3_currentOf] at hR; exact hR
theorem zN_X2_currents : 0 = zzn 7 := by rw [zzn, zc_X2_currents]
theorem zO_X2_currents : 2 = zzo 7 := by rw [zzo, zc_X2_currents]
theorem st_X2_currents {zs : zzT} {d : Nat} {av : List Value} {w : zzW} {Q : zzQ} (hl : (lg_sl av).length ≤ 3) (hk : ∀ R : zzS, zzC zs (zzCL zs d) cX2_currents 2 3 (some .int) Q R → R 0 (lv_args 0 av) [] w) : zzCL zs (d + 1) 7 av w Q := by
  refine ⟨by decide, ?_, fun R hR => hk R ?_⟩
  · rw [zzl, zc_X2_currents]; exact hl
  · rw [zzc, zzo, zzl, zzr, zc_X2_currents] at hR; exact hR
theorem zN_X3_place : 2 = zzn 8 := by rw [zzn, zc_X3_place]
theorem zO_X3_place : 3 = zzo 8 := by rw [zzo, zc_X3_place]
theorem st_X3_place {zs : zzT} {d : Nat} {av : List Value} {w : zzW} {Q : zzQ} (hl : (lg_sl av).length ≤ 3) (hk : ∀ R : zzS, zzC zs (zzCL zs d) cX3_place 3 3 (some .int) Q R → R 0 (lv_args 0 av) [] w) : zzCL zs (d + 1) 8 av w Q := by
  refine ⟨by decide, ?_, fun R hR => hk R ?_⟩
  · rw [zzl, zc_X3_place]; exact hl
  · rw [zzc, zzo, zzl, zzr, zc_X3_place] at hR; exact hR
theorem zN_X3_isPlace : 1 = zzn 9 := by rw [zzn, zc_X3_isPlace]
theorem zO_X3_isPlace : 3 = zzo 9 := by rw [zzo, zc_X3_isPlace]
theorem st_X3_isPlace {zs : zzT} {d : Nat} {av : List Value} {w : zzW} {Q : zzQ} (hl : (lg_sl av).length ≤ 2) (hk : ∀ R : zzS, zzC zs (zzCL zs d) cX3_isPlace 3 2 (some .boolean) Q R → R 0 (lv_args 0 av) [] w) : zzCL zs (d + 1) 9 av w Q := by
  refine ⟨by decide, ?_, fun R hR => hk R ?_⟩
  · rw [zzl, zc_X3_isPlace]; exact hl
  · rw [zzc, zzo, zzl, zzr, zc_X3_isPlace] at hR; exact hR
theorem zN_X2_islandAt : 1 = zzn 10 := by rw [zzn, zc_X2_islandAt]
theorem zO_X2_islandAt : 2 = zzo 10 := by rw [zzo, zc_X2_islandAt]
theorem st_X2_islandAt {zs : zzT} {d : Nat} {av : List Value} {w : zzW} {Q : zzQ} (hl : (lg_sl av).length ≤ 3) (hk : ∀ R : zzS, zzC zs (zzCL zs d) cX2_islandAt 2 3 (some .int) Q R → R 0 (lv_args 0 av) [] w) : zzCL zs (d + 1) 10 av w Q := by
  refine ⟨by decide, ?_, fun R hR => hk R ?_⟩
  · rw [zzl, zc_X2_islandAt]; exact hl
  · rw [zzc, zzo, zzl, zzr, zc_X2_islandAt] at hR; exact hR
theorem zN_X3_wind : 1 = zzn 11 := by rw [zzn, zc_X3_wind]
theorem zO_X3_wind : 3 = zzo 11 := by rw [zzo, zc_X3_wind]
theorem st_X3_wind {zs : zzT} {d : Nat} {av : List Value} {w : zzW} {Q : zzQ} (hl : (lg_sl av).length ≤ 3) (hk : ∀ R : zzS, zzC zs (zzCL zs d) cX3_wind 3 3 (some .int) Q R → R 0 (lv_args 0 av) [] w) : zzCL zs (d + 1) 11 av w Q := by
  refine ⟨by decide, ?_, fun R hR => hk R ?_⟩
  · rw [zzl, zc_X3_wind]; exact hl
  · rw [zzc, zzo, zzl, zzr, zc_X3_wind] at hR; exact hR
theorem zN_X3_island : 3 = zzn 12 := by rw [zzn, zc_X3_island]
theorem zO_X3_island : 3 = zzo 12 := by rw [zzo, zc_X3_island]
theorem st_X3_island {zs : zzT} {d : Nat} {av : List Value} {w : zzW} {Q : zzQ} (hl : (lg_sl av).length ≤ 4) (hk : ∀ R : zzS, zzC zs (zzCL zs d) cX3_island 3 4 (some .int) Q R → R 0 (lv_args 0 av) [] w) : zzCL zs (d + 1) 12 av w Q := by
  refine ⟨by decide, ?_, fun R hR => hk R ?_⟩
  · rw [zzl, zc_X3_island]; exact hl
  · rw [zzc, zzo, zzl, zzr, zc_X3_island] at hR; exact hR
theorem zN_X3_isKind : 1 = zzn 13 := by rw [zzn, zc_X3_isKind]
theorem zO_X3_isKind : 3 = zzo 13 := by rw [zzo, zc_X3_isKind]
theorem st_X3_isKind {zs : zzT} {d : Nat} {av : List Value} {w : zzW} {Q : zzQ} (hl : (lg_sl av).length ≤ 1) (hk : ∀ R : zzS, zzC zs (zzCL zs d) cX3_isKind 3 1 (some .boolean) Q R → R 0 (lv_args 0 av) [] w) : zzCL zs (d + 1) 13 av w Q := by
  refine ⟨by decide, ?_, fun R hR => hk R ?_⟩
  · rw [zzl, zc_X3_isKind]; exact hl
  · rw [zzc, zzo, zzl, zzr, zc_X3_isKind] at hR; exact hR
theorem zN_X2_add : 3 = zzn 14 := by rw [zzn, zc_X2_add]
theorem zO_X2_add : 2 = zzo 14 := by rw [zzo, zc_X2_add]
theorem st_X2_add {zs : zzT} {d : Nat} {av : List Value} {w : zzW} {Q : zzQ} (hl : (lg_sl av).length ≤ 5) (hk : ∀ R : zzS, zzC zs (zzCL zs d) cX2_add 2 5 (some .int) Q R → R 0 (lv_args 0 av) [] w) : zzCL zs (d + 1) 14 av w Q := by
  refine ⟨by decide, ?_, fun R hR => hk R ?_⟩
  · rw [zzl, zc_X2_add]; exact hl
  · rw [zzc, zzo, zzl, zzr, zc_X2_add] at hR; exact hR
theorem zN_X3_about : 2 = zzn 15 := by rw [zzn, zc_X3_about]
theorem zO_X3_about : 3 = zzo 15 := by rw [zzo, zc_X3_about]
theorem st_X3_about {zs : zzT} {d : Nat} {av : List Value} {w : zzW} {Q : zzQ} (hl : (lg_sl av).length ≤ 3) (hk : ∀ R : zzS, zzC zs (zzCL zs d) cX3_about 3 3 (some .int) Q R → R 0 (lv_args 0 av) [] w) : zzCL zs (d + 1) 15 av w Q := by
  refine ⟨by decide, ?_, fun R hR => hk R ?_⟩
  · rw [zzl, zc_X3_about]; exact hl
  · rw [zzc, zzo, zzl, zzr, zc_X3_about] at hR; exact hR
theorem zN_X3_isIsland : 1 = zzn 16 := by rw [zzn, zc_X3_isIsland]
theorem zO_X3_isIsland : 3 = zzo 16 := by rw [zzo, zc_X3_isIsland]
theorem st_X3_isIsland {zs : zzT} {d : Nat} {av : List Value} {w : zzW} {Q : zzQ} (hl : (lg_sl av).length ≤ 2) (hk : ∀ R : zzS, zzC zs (zzCL zs d) cX3_isIsland 3 2 (some .boolean) Q R → R 0 (lv_args 0 av) [] w) : zzCL zs (d + 1) 16 av w Q := by
  refine ⟨by decide, ?_, fun R hR => hk R ?_⟩
  · rw [zzl, zc_X3_isIsland]; exact hl
  · rw [zzc, zzo, zzl, zzr, zc_X3_isIsland] at hR; exact hR
theorem zN_X2_pushOf : 1 = zzn 17 := by rw [zzn, zc_X2_pushOf]
theorem zO_X2_pushOf : 2 = zzo 17 := by rw [zzo, zc_X2_pushOf]
theorem st_X2_pushOf {zs : zzT} {d : Nat} {av : List Value} {w : zzW} {Q : zzQ} (hl : (lg_sl av).length ≤ 4) (hk : ∀ R : zzS, zzC zs (zzCL zs d) cX2_pushOf 2 4 (some .int) Q R → R 0 (lv_args 0 av) [] w) : zzCL zs (d + 1) 17 av w Q := by
  refine ⟨by decide, ?_, fun R hR => hk R ?_⟩
  · rw [zzl, zc_X2_pushOf]; exact hl
  · rw [zzc, zzo, zzl, zzr, zc_X2_pushOf] at hR; exact hR
theorem zN_X2_isAnchored : 1 = zzn 18 := by rw [zzn, zc_X2_isAnchored]
theorem zO_X2_isAnchored : 2 = zzo 18 := by rw [zzo, zc_X2_isAnchored]
theorem st_X2_isAnchored {zs : zzT} {d : Nat} {av : List Value} {w : zzW} {Q : zzQ} (hl : (lg_sl av).length ≤ 2) (hk : ∀ R : zzS, zzC zs (zzCL zs d) cX2_isAnchored 2 2 (some .boolean) Q R → R 0 (lv_args 0 av) [] w) : zzCL zs (d + 1) 18 av w Q := by
  refine ⟨by decide, ?_, fun R hR => hk R ?_⟩
  · rw [zzl, zc_X2_isAnchored]; exact hl
  · rw [zzc, zzo, zzl, zzr, zc_X2_isAnchored] at hR; exact hR
theorem zN_X2_neighbours : 1 = zzn 19 := by rw [zzn, zc_X2_neighbours]
theorem zO_X2_neighbours : 2 = zzo 19 := by rw [zzo, zc_X2_neighbours]
theorem st_X2_neighbours {zs : zzT} {d : Nat} {av : List Value} {w : zzW} {Q : zzQ} (hl : (lg_sl av).length ≤ 4) (hk : ∀ R : zzS, zzC zs (zzCL zs d) cX2_neighbours 2 4 (some .int) Q R → R 0 (lv_args 0 av) [] w) : zzCL zs (d + 1) 19 av w Q := by
  refine ⟨by decide, ?_, fun R hR => hk R ?_⟩
  · rw [zzl, zc_X2_neighbours]; exact hl
  · rw [zzc, zzo, zzl, zzr, zc_X2_neighbours] at hR; exact hR
theorem zN_X2_areBeside : 2 = zzn 20 := by rw [zzn, zc_X2_areBeside]
theorem zO_X2_areBeside : 2 = zzo 20 := by rw [zzo, zc_X2_areBeside]
theorem st_X2_areBeside {zs : zzT} {d : Nat} {av : List Value} {w : zzW} {Q : zzQ} (hl : (lg_sl av).length ≤ 3) (hk : ∀ R : zzS, zzC zs (zzCL zs d) cX2_areBeside 2 3 (some .boolean) Q R → R 0 (lv_args 0 av) [] w) : zzCL zs (d + 1) 20 av w Q := by
  refine ⟨by decide, ?_, fun R hR => hk R ?_⟩
  · rw [zzl, zc_X2_areBeside]; exact hl
  · rw [zzc, zzo, zzl, zzr, zc_X2_areBeside] at hR; exact hR
theorem zN_X2_stepped : 2 = zzn 21 := by rw [zzn, zc_X2_stepped]
theorem zO_X2_stepped : 2 = zzo 21 := by rw [zzo, zc_X2_stepped]
theorem st_X2_stepped {zs : zzT} {d : Nat} {av : List Value} {w : zzW} {Q : zzQ} (hl : (lg_sl av).length ≤ 3) (hk : ∀ R : zzS, zzC zs (zzCL zs d) cX2_stepped 2 3 (some .int) Q R → R 0 (lv_args 0 av) [] w) : zzCL zs (d + 1) 21 av w Q := by
  refine ⟨by decide, ?_, fun R hR => hk R ?_⟩
  · rw [zzl, zc_X2_stepped]; exact hl
  · rw [zzc, zzo, zzl, zzr, zc_X2_stepped] at hR; exact hR
theorem zN_X3_as : 2 = zzn 22 := by rw [zzn, zc_X3_as]
theorem zO_X3_as : 3 = zzo 22 := by rw [zzo, zc_X3_as]
theorem st_X3_as {zs : zzT} {d : Nat} {av : List Value} {w : zzW} {Q : zzQ} (hl : (lg_sl av).length ≤ 5) (hk : ∀ R : zzS, zzC zs (zzCL zs d) cX3_as 3 5 (some .int) Q R → R 0 (lv_args 0 av) [] w) : zzCL zs (d + 1) 22 av w Q := by
  refine ⟨by decide, ?_, fun R hR => hk R ?_⟩
  · rw [zzl, zc_X3_as]; exact hl
  · rw [zzc, zzo, zzl, zzr, zc_X3_as] at hR; exact hR
theorem zN_X3_anchor : 2 = zzn 23 := by rw [zzn, zc_X3_anchor]
theorem zO_X3_anchor : 3 = zzo 23 := by rw [zzo, zc_X3_anchor]
theorem st_X3_anchor {zs : zzT} {d : Nat} {av : List Value} {w : zzW} {Q : zzQ} (hl : (lg_sl av).length ≤ 4) (hk : ∀ R : zzS, zzC zs (zzCL zs d) cX3_anchor 3 4 (some .int) Q R → R 0 (lv_args 0 av) [] w) : zzCL zs (d + 1) 23 av w Q := by
  refine ⟨by decide, ?_, fun R hR => hk R ?_⟩
  · rw [zzl, zc_X3_anchor]; exact hl
  · rw [zzc, zzo, zzl, zzr, zc_X3_anchor] at hR; exact hR
theorem zN_X3_wed : 2 = zzn 24 := by rw [zzn, zc_X3_wed]
theorem zO_X3_wed : 3 = zzo 24 := by rw [zzo, zc_X3_wed]
theorem st_X3_wed {zs : zzT} {d : Nat} {av : List Value} {w : zzW} {Q : zzQ} (hl : (lg_sl av).length ≤ 3) (hk : ∀ R : zzS, zzC zs (zzCL zs d) cX3_wed 3 3 (some .int) Q R → R 0 (lv_args 0 av) [] w) : zzCL zs (d + 1) 24 av w Q := by
  refine ⟨by decide, ?_, fun R hR => hk R ?_⟩
  · rw [zzl, zc_X3_wed]; exact hl
  · rw [zzc, zzo, zzl, zzr, zc_X3_wed] at hR; exact hR
theorem zN_X3_areTwo : 2 = zzn 25 := by rw [zzn, zc_X3_areTwo]
theorem zO_X3_areTwo : 3 = zzo 25 := by rw [zzo, zc_X3_areTwo]
theorem st_X3_areTwo {zs : zzT} {d : Nat} {av : List Value} {w : zzW} {Q : zzQ} (hl : (lg_sl av).length ≤ 3) (hk : ∀ R : zzS, zzC zs (zzCL zs d) cX3_areTwo 3 3 (some .boolean) Q R → R 0 (lv_args 0 av) [] w) : zzCL zs (d + 1) 25 av w Q := by
  refine ⟨by decide, ?_, fun R hR => hk R ?_⟩
  · rw [zzl, zc_X3_areTwo]; exact hl
  · rw [zzc, zzo, zzl, zzr, zc_X3_areTwo] at hR; exact hR
theorem zN_X2_areRoped : 2 = zzn 26 := by rw [zzn, zc_X2_areRoped]
theorem zO_X2_areRoped : 2 = zzo 26 := by rw [zzo, zc_X2_areRoped]
theorem st_X2_areRoped {zs : zzT} {d : Nat} {av : List Value} {w : zzW} {Q : zzQ} (hl : (lg_sl av).length ≤ 3) (hk : ∀ R : zzS, zzC zs (zzCL zs d) cX2_areRoped 2 3 (some .boolean) Q R → R 0 (lv_args 0 av) [] w) : zzCL zs (d + 1) 26 av w Q := by
  refine ⟨by decide, ?_, fun R hR => hk R ?_⟩
  · rw [zzl, zc_X2_areRoped]; exact hl
  · rw [zzc, zzo, zzl, zzr, zc_X2_areRoped] at hR; exact hR
theorem zN_X2_tie : 2 = zzn 27 := by rw [zzn, zc_X2_tie]
theorem zO_X2_tie : 2 = zzo 27 := by rw [zzo, zc_X2_tie]
theorem st_X2_tie {zs : zzT} {d : Nat} {av : List Value} {w : zzW} {Q : zzQ} (hl : (lg_sl av).length ≤ 3) (hk : ∀ R : zzS, zzC zs (zzCL zs d) cX2_tie 2 3 none Q R → R 0 (lv_args 0 av) [] w) : zzCL zs (d + 1) 27 av w Q := by
  refine ⟨by decide, ?_, fun R hR => hk R ?_⟩
  · rw [zzl, zc_X2_tie]; exact hl
  · rw [zzc, zzo, zzl, zzr, zc_X2_tie] at hR; exact hR
theorem zN_X2_findParties : 0 = zzn 28 := by rw [zzn, zc_X2_findParties]
theorem zO_X2_findParties : 2 = zzo 28 := by rw [zzo, zc_X2_findParties]
theorem st_X2_findParties {zs : zzT} {d : Nat} {av : List Value} {w : zzW} {Q : zzQ} (hl : (lg_sl av).length ≤ 2) (hk : ∀ R : zzS, zzC zs (zzCL zs d) cX2_findParties 2 2 none Q R → R 0 (lv_args 0 av) [] w) : zzCL zs (d + 1) 28 av w Q := by
  refine ⟨by decide, ?_, fun R hR => hk R ?_⟩
  · rw [zzl, zc_X2_findParties]; exact hl
  · rw [zzc, zzo, zzl, zzr, zc_X2_findParties] at hR; exact hR
theorem zN_X2_tiedTo : 1 = zzn 29 := by rw [zzn, zc_X2_tiedTo]
theorem zO_X2_tiedTo : 2 = zzo 29 := by rw [zzo, zc_X2_tiedTo]
theorem st_X2_tiedTo {zs : zzT} {d : Nat} {av : List Value} {w : zzW} {Q : zzQ} (hl : (lg_sl av).length ≤ 5) (hk : ∀ R : zzS, zzC zs (zzCL zs d) cX2_tiedTo 2 5 (some .int) Q R → R 0 (lv_args 0 av) [] w) : zzCL zs (d + 1) 29 av w Q := by
  refine ⟨by decide, ?_, fun R hR => hk R ?_⟩
  · rw [zzl, zc_X2_tiedTo]; exact hl
  · rw [zzc, zzo, zzl, zzr, zc_X2_tiedTo] at hR; exact hR
theorem zN_X3_axe : 2 = zzn 30 := by rw [zzn, zc_X3_axe]
theorem zO_X3_axe : 3 = zzo 30 := by rw [zzo, zc_X3_axe]
theorem st_X3_axe {zs : zzT} {d : Nat} {av : List Value} {w : zzW} {Q : zzQ} (hl : (lg_sl av).length ≤ 3) (hk : ∀ R : zzS, zzC zs (zzCL zs d) cX3_axe 3 3 (some .int) Q R → R 0 (lv_args 0 av) [] w) : zzCL zs (d + 1) 30 av w Q := by
  refine ⟨by decide, ?_, fun R hR => hk R ?_⟩
  · rw [zzl, zc_X3_axe]; exact hl
  · rw [zzc, zzo, zzl, zzr, zc_X3_axe] at hR; exact hR
theorem zN_X2_cut : 2 = zzn 31 := by rw [zzn, zc_X2_cut]
theorem zO_X2_cut : 2 = zzo 31 := by rw [zzo, zc_X2_cut]
theorem st_X2_cut {zs : zzT} {d : Nat} {av : List Value} {w : zzW} {Q : zzQ} (hl : (lg_sl av).length ≤ 3) (hk : ∀ R : zzS, zzC zs (zzCL zs d) cX2_cut 2 3 none Q R → R 0 (lv_args 0 av) [] w) : zzCL zs (d + 1) 31 av w Q := by
  refine ⟨by decide, ?_, fun R hR => hk R ?_⟩
  · rw [zzl, zc_X2_cut]; exact hl
  · rw [zzc, zzo, zzl, zzr, zc_X2_cut] at hR; exact hR
theorem zN_X3_day : 0 = zzn 32 := by rw [zzn, zc_X3_day]
theorem zO_X3_day : 3 = zzo 32 := by rw [zzo, zc_X3_day]
theorem st_X3_day {zs : zzT} {d : Nat} {av : List Value} {w : zzW} {Q : zzQ} (hl : (lg_sl av).length ≤ 1) (hk : ∀ R : zzS, zzC zs (zzCL zs d) cX3_day 3 1 (some .int) Q R → R 0 (lv_args 0 av) [] w) : zzCL zs (d + 1) 32 av w Q := by
  refine ⟨by decide, ?_, fun R hR => hk R ?_⟩
  · rw [zzl, zc_X3_day]; exact hl
  · rw [zzc, zzo, zzl, zzr, zc_X3_day] at hR; exact hR
theorem zN_X2_drift : 0 = zzn 33 := by rw [zzn, zc_X2_drift]
theorem zO_X2_drift : 2 = zzo 33 := by rw [zzo, zc_X2_drift]
theorem st_X2_drift {zs : zzT} {d : Nat} {av : List Value} {w : zzW} {Q : zzQ} (hl : (lg_sl av).length ≤ 3) (hk : ∀ R : zzS, zzC zs (zzCL zs d) cX2_drift 2 3 (some .int) Q R → R 0 (lv_args 0 av) [] w) : zzCL zs (d + 1) 33 av w Q := by
  refine ⟨by decide, ?_, fun R hR => hk R ?_⟩
  · rw [zzl, zc_X2_drift]; exact hl
  · rw [zzc, zzo, zzl, zzr, zc_X2_drift] at hR; exact hR
theorem zN_X2_leads : 1 = zzn 34 := by rw [zzn, zc_X2_leads]
theorem zO_X2_leads : 2 = zzo 34 := by rw [zzo, zc_X2_leads]
theorem st_X2_leads {zs : zzT} {d : Nat} {av : List Value} {w : zzW} {Q : zzQ} (hl : (lg_sl av).length ≤ 2) (hk : ∀ R : zzS, zzC zs (zzCL zs d) cX2_leads 2 2 (some .boolean) Q R → R 0 (lv_args 0 av) [] w) : zzCL zs (d + 1) 34 av w Q := by
  refine ⟨by decide, ?_, fun R hR => hk R ?_⟩
  · rw [zzl, zc_X2_leads]; exact hl
  · rw [zzc, zzo, zzl, zzr, zc_X2_leads] at hR; exact hR
theorem zN_X2_moves : 1 = zzn 35 := by rw [zzn, zc_X2_moves]
theorem zO_X2_moves : 2 = zzo 35 := by rw [zzo, zc_X2_moves]
theorem st_X2_moves {zs : zzT} {d : Nat} {av : List Value} {w : zzW} {Q : zzQ} (hl : (lg_sl av).length ≤ 4) (hk : ∀ R : zzS, zzC zs (zzCL zs d) cX2_moves 2 4 (some .boolean) Q R → R 0 (lv_args 0 av) [] w) : zzCL zs (d + 1) 35 av w Q := by
  refine ⟨by decide, ?_, fun R hR => hk R ?_⟩
  · rw [zzl, zc_X2_moves]; exact hl
  · rw [zzc, zzo, zzl, zzr, zc_X2_moves] at hR; exact hR
theorem zN_X2_stepOf : 1 = zzn 36 := by rw [zzn, zc_X2_stepOf]
theorem zO_X2_stepOf : 2 = zzo 36 := by rw [zzo, zc_X2_stepOf]
theorem st_X2_stepOf {zs : zzT} {d : Nat} {av : List Value} {w : zzW} {Q : zzQ} (hl : (lg_sl av).length ≤ 4) (hk : ∀ R : zzS, zzC zs (zzCL zs d) cX2_stepOf 2 4 (some .int) Q R → R 0 (lv_args 0 av) [] w) : zzCL zs (d + 1) 36 av w Q := by
  refine ⟨by decide, ?_, fun R hR => hk R ?_⟩
  · rw [zzl, zc_X2_stepOf]; exact hl
  · rw [zzc, zzo, zzl, zzr, zc_X2_stepOf] at hR; exact hR
theorem zN_J6_compare_7cf53 : 2 = zzn 37 := by rw [zzn, zc_J6_compare_7cf53]
theorem zO_J6_compare_7cf53 : 6 = zzo 37 := by rw [zzo, zc_J6_compare_7cf53]
theorem st_J6_compare_7cf53 {zs : zzT} {d : Nat} {av : List Value} {w : zzW} {Q : zzQ} (hl : (lg_sl av).length ≤ 2) (hk : ∀ R : zzS, zzC zs (zzCL zs d) cJ6_compare_7cf53 6 2 (some .int) Q R → R 0 (lv_args 0 av) [] w) : zzCL zs (d + 1) 37 av w Q := by
  refine ⟨by decide, ?_, fun R hR => hk R ?_⟩
  · rw [zzl, zc_J6_compare_7cf53]; exact hl
  · rw [zzc, zzo, zzl, zzr, zc_J6_compare_7cf53] at hR; exact hR
theorem zN_X2_isBarred : 2 = zzn 38 := by rw [zzn, zc_X2_isBarred]
theorem zO_X2_isBarred : 2 = zzo 38 := by rw [zzo, zc_X2_isBarred]
theorem st_X2_isBarred {zs : zzT} {d : Nat} {av : List Value} {w : zzW} {Q : zzQ} (hl : (lg_sl av).length ≤ 6) (hk : ∀ R : zzS, zzC zs (zzCL zs d) cX2_isBarred 2 6 (some .boolean) Q R → R 0 (lv_args 0 av) [] w) : zzCL zs (d + 1) 38 av w Q := by
  refine ⟨by decide, ?_, fun R hR => hk R ?_⟩
  · rw [zzl, zc_X2_isBarred]; exact hl
  · rw [zzc, zzo, zzl, zzr, zc_X2_isBarred] at hR; exact hR
theorem zN_X3_meet : 2 = zzn 39 := by rw [zzn, zc_X3_meet]
theorem zO_X3_meet : 3 = zzo 39 := by rw [zzo, zc_X3_meet]
theorem st_X3_meet {zs : zzT} {d : Nat} {av : List Value} {w : zzW} {Q : zzQ} (hl : (lg_sl av).length ≤ 3) (hk : ∀ R : zzS, zzC zs (zzCL zs d) cX3_meet 3 3 (some .int) Q R → R 0 (lv_args 0 av) [] w) : zzCL zs (d + 1) 39 av w Q := by
  refine ⟨by decide, ?_, fun R hR => hk R ?_⟩
  · rw [zzl, zc_X3_meet]; exact hl
  · rw [zzc, zzo, zzl, zzr, zc_X3_meet] at hR; exact hR
theorem zN_X3_firstMeeting : 4 = zzn 40 := by rw [zzn, zc_X3_firstMeeting]
theorem zO_X3_firstMeeting : 3 = zzo 40 := by rw [zzo, zc_X3_firstMeeting]
theorem st_X3_firstMeeting {zs : zzT} {d : Nat} {av : List Value} {w : zzW} {Q : zzQ} (hl : (lg_sl av).length ≤ 6) (hk : ∀ R : zzS, zzC zs (zzCL zs d) cX3_firstMeeting 3 6 (some .int) Q R → R 0 (lv_args 0 av) [] w) : zzCL zs (d + 1) 40 av w Q := by
  refine ⟨by decide, ?_, fun R hR => hk R ?_⟩
  · rw [zzl, zc_X3_firstMeeting]; exact hl
  · rw [zzc, zzo, zzl, zzr, zc_X3_firstMeeting] at hR; exact hR
theorem zN_X2_copy : 1 = zzn 41 := by rw [zzn, zc_X2_copy]
theorem zO_X2_copy : 2 = zzo 41 := by rw [zzo, zc_X2_copy]
theorem st_X2_copy {zs : zzT} {d : Nat} {av : List Value} {w : zzW} {Q : zzQ} (hl : (lg_sl av).length ≤ 2) (hk : ∀ R : zzS, zzC zs (zzCL zs d) cX2_copy 2 2 none Q R → R 0 (lv_args 0 av) [] w) : zzCL zs (d + 1) 41 av w Q := by
  refine ⟨by decide, ?_, fun R hR => hk R ?_⟩
  · rw [zzl, zc_X2_copy]; exact hl
  · rw [zzc, zzo, zzl, zzr, zc_X2_copy] at hR; exact hR
theorem zN_X3_anchors : 4 = zzn 42 := by rw [zzn, zc_X3_anchors]
theorem zO_X3_anchors : 3 = zzo 42 := by rw [zzo, zc_X3_anchors]
theorem st_X3_anchors {zs : zzT} {d : Nat} {av : List Value} {w : zzW} {Q : zzQ} (hl : (lg_sl av).length ≤ 6) (hk : ∀ R : zzS, zzC zs (zzCL zs d) cX3_anchors 3 6 (some .int) Q R → R 0 (lv_args 0 av) [] w) : zzCL zs (d + 1) 42 av w Q := by
  refine ⟨by decide, ?_, fun R hR => hk R ?_⟩
  · rw [zzl, zc_X3_anchors]; exact hl
  · rw [zzc, zzo, zzl, zzr, zc_X3_anchors] at hR; exact hR
theorem zN_X3_fewestAnchors : 3 = zzn 43 := by rw [zzn, zc_X3_fewestAnchors]
theorem zO_X3_fewestAnchors : 3 = zzo 43 := by rw [zzo, zc_X3_fewestAnchors]
theorem st_X3_fewestAnchors {zs : zzT} {d : Nat} {av : List Value} {w : zzW} {Q : zzQ} (hl : (lg_sl av).length ≤ 7) (hk : ∀ R : zzS, zzC zs (zzCL zs d) cX3_fewestAnchors 3 7 (some .int) Q R → R 0 (lv_args 0 av) [] w) : zzCL zs (d + 1) 43 av w Q := by
  refine ⟨by decide, ?_, fun R hR => hk R ?_⟩
  · rw [zzl, zc_X3_fewestAnchors]; exact hl
  · rw [zzc, zzo, zzl, zzr, zc_X3_fewestAnchors] at hR; exact hR
theorem zN_J6_bitCount_0f7a4 : 1 = zzn 44 := by rw [zzn, zc_J6_bitCount_0f7a4]
theorem zO_J6_bitCount_0f7a4 : 6 = zzo 44 := by rw [zzo, zc_J6_bitCount_0f7a4]
theorem st_J6_bitCount_0f7a4 {zs : zzT} {d : Nat} {av : List Value} {w : zzW} {Q : zzQ} (hl : (lg_sl av).length ≤ 1) (hk : ∀ R : zzS, zzC zs (zzCL zs d) cJ6_bitCount_0f7a4 6 1 (some .int) Q R → R 0 (lv_args 0 av) [] w) : zzCL zs (d + 1) 44 av w Q := by
  refine ⟨by decide, ?_, fun R hR => hk R ?_⟩
  · rw [zzl, zc_J6_bitCount_0f7a4]; exact hl
  · rw [zzc, zzo, zzl, zzr, zc_J6_bitCount_0f7a4] at hR; exact hR
theorem zN_X3_stable : 1 = zzn 45 := by rw [zzn, zc_X3_stable]
theorem zO_X3_stable : 3 = zzo 45 := by rw [zzo, zc_X3_stable]
theorem st_X3_stable {zs : zzT} {d : Nat} {av : List Value} {w : zzW} {Q : zzQ} (hl : (lg_sl av).length ≤ 3) (hk : ∀ R : zzS, zzC zs (zzCL zs d) cX3_stable 3 3 (some .int) Q R → R 0 (lv_args 0 av) [] w) : zzCL zs (d + 1) 45 av w Q := by
  refine ⟨by decide, ?_, fun R hR => hk R ?_⟩
  · rw [zzl, zc_X3_stable]; exact hl
  · rw [zzc, zzo, zzl, zzr, zc_X3_stable] at hR; exact hR
theorem zN_X3_meetAll : 1 = zzn 46 := by rw [zzn, zc_X3_meetAll]
theorem zO_X3_meetAll : 3 = zzo 46 := by rw [zzo, zc_X3_meetAll]
theorem st_X3_meetAll {zs : zzT} {d : Nat} {av : List Value} {w : zzW} {Q : zzQ} (hl : (lg_sl av).length ≤ 3) (hk : ∀ R : zzS, zzC zs (zzCL zs d) cX3_meetAll 3 3 none Q R → R 0 (lv_args 0 av) [] w) : zzCL zs (d + 1) 46 av w Q := by
  refine ⟨by decide, ?_, fun R hR => hk R ?_⟩
  · rw [zzl, zc_X3_meetAll]; exact hl
  · rw [zzc, zzo, zzl, zzr, zc_X3_meetAll] at hR; exact hR
theorem zN_J7_fill_53178 : 2 = zzn 47 := by rw [zzn, zc_J7_fill_53178]
theorem zO_J7_fill_53178 : 7 = zzo 47 := by rw [zzo, zc_J7_fill_53178]
theorem st_J7_fill_53178 {zs : zzT} {d : Nat} {av : List Value} {w : zzW} {Q : zzQ} (hl : (lg_sl av).length ≤ 4) (hk : ∀ R : zzS, zzC zs (zzCL zs d) cJ7_fill_53178 7 4 none Q R → R 0 (lv_args 0 av) [] w) : zzCL zs (d + 1) 47 av w Q := by
  refine ⟨by decide, ?_, fun R hR => hk R ?_⟩
  · rw [zzl, zc_J7_fill_53178]; exact hl
  · rw [zzc, zzo, zzl, zzr, zc_J7_fill_53178] at hR; exact hR
theorem zN_X2_noteMeetings : 2 = zzn 48 := by rw [zzn, zc_X2_noteMeetings]
theorem zO_X2_noteMeetings : 2 = zzo 48 := by rw [zzo, zc_X2_noteMeetings]
theorem st_X2_noteMeetings {zs : zzT} {d : Nat} {av : List Value} {w : zzW} {Q : zzQ} (hl : (lg_sl av).length ≤ 5) (hk : ∀ R : zzS, zzC zs (zzCL zs d) cX2_noteMeetings 2 5 none Q R → R 0 (lv_args 0 av) [] w) : zzCL zs (d + 1) 48 av w Q := by
  refine ⟨by decide, ?_, fun R hR => hk R ?_⟩
  · rw [zzl, zc_X2_noteMeetings]; exact hl
  · rw [zzc, zzo, zzl, zzr, zc_X2_noteMeetings] at hR; exact hR
theorem zN_X0_solve : 2 = zzn 49 := by rw [zzn, zc_X0_solve]
theorem zO_X0_solve : 0 = zzo 49 := by rw [zzo, zc_X0_solve]
theorem st_X0_solve {zs : zzT} {d : Nat} {av : List Value} {w : zzW} {Q : zzQ} (hl : (lg_sl av).length ≤ 6) (hk : ∀ R : zzS, zzC zs (zzCL zs d) cX0_solve 0 6 none Q R → R 0 (lv_args 0 av) [] w) : zzCL zs (d + 1) 49 av w Q := by
  refine ⟨by decide, ?_, fun R hR => hk R ?_⟩
  · rw [zzl, zc_X0_solve]; exact hl
  · rw [zzc, zzo, zzl, zzr, zc_X0_solve] at hR; exact hR
theorem zN_X0_goThrough : 2 = zzn 50 := by rw [zzn, zc_X0_goThrough]
theorem zO_X0_goThrough : 0 = zzo 50 := by rw [zzo, zc_X0_goThrough]
theorem st_X0_goThrough {zs : zzT} {d : Nat} {av : List Value} {w : zzW} {Q : zzQ} (hl : (lg_sl av).length ≤ 4) (hk : ∀ R : zzS, zzC zs (zzCL zs d) cX0_goThrough 0 4 none Q R → R 0 (lv_args 0 av) [] w) : zzCL zs (d + 1) 50 av w Q := by
  refine ⟨by decide, ?_, fun R hR => hk R ?_⟩
  · rw [zzl, zc_X0_goThrough]; exact hl
  · rw [zzc, zzo, zzl, zzr, zc_X0_goThrough] at hR; exact hR
theorem zN_X0_weigh : 1 = zzn 51 := by rw [zzn, zc_X0_weigh]
theorem zO_X0_weigh : 0 = zzo 51 := by rw [zzo, zc_X0_weigh]
theorem st_X0_weigh {zs : zzT} {d : Nat} {av : List Value} {w : zzW} {Q : zzQ} (hl : (lg_sl av).length ≤ 2) (hk : ∀ R : zzS, zzC zs (zzCL zs d) cX0_weigh 0 2 none Q R → R 0 (lv_args 0 av) [] w) : zzCL zs (d + 1) 51 av w Q := by
  refine ⟨by decide, ?_, fun R hR => hk R ?_⟩
  · rw [zzl, zc_X0_weigh]; exact hl
  · rw [zzc, zzo, zzl, zzr, zc_X0_weigh] at hR; exact hR
theorem zN_X0_isStable : 0 = zzn 52 := by rw [zzn, zc_X0_isStable]
theorem zO_X0_isStable : 0 = zzo 52 := by rw [zzo, zc_X0_isStable]
theorem st_X0_isStable {zs : zzT} {d : Nat} {av : List Value} {w : zzW} {Q : zzQ} (hl : (lg_sl av).length ≤ 4) (hk : ∀ R : zzS, zzC zs (zzCL zs d) cX0_isStable 0 4 (some .boolean) Q R → R 0 (lv_args 0 av) [] w) : zzCL zs (d + 1) 52 av w Q := by
  refine ⟨by decide, ?_, fun R hR => hk R ?_⟩
  · rw [zzl, zc_X0_isStable]; exact hl
  · rw [zzc, zzo, zzl, zzr, zc_X0_isStable] at hR; exact hR
theorem zN_X0_likesBetter : 2 = zzn 53 := by rw [zzn, zc_X0_likesBetter]
theorem zO_X0_likesBetter : 0 = zzo 53 := by rw [zzo, zc_X0_likesBetter]
theorem st_X0_likesBetter {zs : zzT} {d : Nat} {av : List Value} {w : zzW} {Q : zzQ} (hl : (lg_sl av).length ≤ 3) (hk : ∀ R : zzS, zzC zs (zzCL zs d) cX0_likesBetter 0 3 (some .boolean) Q R → R 0 (lv_args 0 av) [] w) : zzCL zs (d + 1) 53 av w Q := by
  refine ⟨by decide, ?_, fun R hR => hk R ?_⟩
  · rw [zzl, zc_X0_likesBetter]; exact hl
  · rw [zzc, zzo, zzl, zzr, zc_X0_likesBetter] at hR; exact hR
theorem zN_X3_matchesTell : 1 = zzn 54 := by rw [zzn, zc_X3_matchesTell]
theorem zO_X3_matchesTell : 3 = zzo 54 := by rw [zzo, zc_X3_matchesTell]
theorem st_X3_matchesTell {zs : zzT} {d : Nat} {av : List Value} {w : zzW} {Q : zzQ} (hl : (lg_sl av).length ≤ 3) (hk : ∀ R : zzS, zzC zs (zzCL zs d) cX3_matchesTell 3 3 (some .int) Q R → R 0 (lv_args 0 av) [] w) : zzCL zs (d + 1) 54 av w Q := by
  refine ⟨by decide, ?_, fun R hR => hk R ?_⟩
  · rw [zzl, zc_X3_matchesTell]; exact hl
  · rw [zzc, zzo, zzl, zzr, zc_X3_matchesTell] at hR; exact hR
theorem zN_X3_parting : 2 = zzn 55 := by rw [zzn, zc_X3_parting]
theorem zO_X3_parting : 3 = zzo 55 := by rw [zzo, zc_X3_parting]
theorem st_X3_parting {zs : zzT} {d : Nat} {av : List Value} {w : zzW} {Q : zzQ} (hl : (lg_sl av).length ≤ 3) (hk : ∀ R : zzS, zzC zs (zzCL zs d) cX3_parting 3 3 (some .int) Q R → R 0 (lv_args 0 av) [] w) : zzCL zs (d + 1) 55 av w Q := by
  refine ⟨by decide, ?_, fun R hR => hk R ?_⟩
  · rw [zzl, zc_X3_parting]; exact hl
  · rw [zzc, zzo, zzl, zzr, zc_X3_parting] at hR; exact hR
theorem zN_X2_fewestCuts : 2 = zzn 56 := by rw [zzn, zc_X2_fewestCuts]
theorem zO_X2_fewestCuts : 2 = zzo 56 := by rw [zzo, zc_X2_fewestCuts]
theorem st_X2_fewestCuts {zs : zzT} {d : Nat} {av : List Value} {w : zzW} {Q : zzQ} (hl : (lg_sl av).length ≤ 6) (hk : ∀ R : zzS, zzC zs (zzCL zs d) cX2_fewestCuts 2 6 (some .int) Q R → R 0 (lv_args 0 av) [] w) : zzCL zs (d + 1) 56 av w Q := by
  refine ⟨by decide, ?_, fun R hR => hk R ?_⟩
  · rw [zzl, zc_X2_fewestCuts]; exact hl
  · rw [zzc, zzo, zzl, zzr, zc_X2_fewestCuts] at hR; exact hR
theorem zN_X2_ropesOutOf : 1 = zzn 57 := by rw [zzn, zc_X2_ropesOutOf]
theorem zO_X2_ropesOutOf : 2 = zzo 57 := by rw [zzo, zc_X2_ropesOutOf]
theorem st_X2_ropesOutOf {zs : zzT} {d : Nat} {av : List Value} {w : zzW} {Q : zzQ} (hl : (lg_sl av).length ≤ 4) (hk : ∀ R : zzS, zzC zs (zzCL zs d) cX2_ropesOutOf 2 4 (some .int) Q R → R 0 (lv_args 0 av) [] w) : zzCL zs (d + 1) 57 av w Q := by
  refine ⟨by decide, ?_, fun R hR => hk R ?_⟩
  · rw [zzl, zc_X2_ropesOutOf]; exact hl
  · rw [zzc, zzo, zzl, zzr, zc_X2_ropesOutOf] at hR; exact hR
theorem zN_X3_shell : 4 = zzn 58 := by rw [zzn, zc_X3_shell]
theorem zO_X3_shell : 3 = zzo 58 := by rw [zzo, zc_X3_shell]
theorem st_X3_shell {zs : zzT} {d : Nat} {av : List Value} {w : zzW} {Q : zzQ} (hl : (lg_sl av).length ≤ 5) (hk : ∀ R : zzS, zzC zs (zzCL zs d) cX3_shell 3 5 (some .int) Q R → R 0 (lv_args 0 av) [] w) : zzCL zs (d + 1) 58 av w Q := by
  refine ⟨by decide, ?_, fun R hR => hk R ?_⟩
  · rw [zzl, zc_X3_shell]; exact hl
  · rw [zzc, zzo, zzl, zzr, zc_X3_shell] at hR; exact hR
theorem zN_X1_add : 4 = zzn 59 := by rw [zzn, zc_X1_add]
theorem zO_X1_add : 1 = zzo 59 := by rw [zzo, zc_X1_add]
theorem st_X1_add {zs : zzT} {d : Nat} {av : List Value} {w : zzW} {Q : zzQ} (hl : (lg_sl av).length ≤ 5) (hk : ∀ R : zzS, zzC zs (zzCL zs d) cX1_add 1 5 (some .int) Q R → R 0 (lv_args 0 av) [] w) : zzCL zs (d + 1) 59 av w Q := by
  refine ⟨by decide, ?_, fun R hR => hk R ?_⟩
  · rw [zzl, zc_X1_add]; exact hl
  · rw [zzc, zzo, zzl, zzr, zc_X1_add] at hR; exact hR
theorem zN_X3_forget : 0 = zzn 60 := by rw [zzn, zc_X3_forget]
theorem zO_X3_forget : 3 = zzo 60 := by rw [zzo, zc_X3_forget]
theorem st_X3_forget {zs : zzT} {d : Nat} {av : List Value} {w : zzW} {Q : zzQ} (hl : (lg_sl av).length ≤ 2) (hk : ∀ R : zzS, zzC zs (zzCL zs d) cX3_forget 3 2 (some .int) Q R → R 0 (lv_args 0 av) [] w) : zzCL zs (d + 1) 60 av w Q := by
  refine ⟨by decide, ?_, fun R hR => hk R ?_⟩
  · rw [zzl, zc_X3_forget]; exact hl
  · rw [zzc, zzo, zzl, zzr, zc_X3_forget] at hR; exact hR
theorem zN_X3_guess : 2 = zzn 61 := by rw [zzn, zc_X3_guess]
theorem zO_X3_guess : 3 = zzo 61 := by rw [zzo, zc_X3_guess]
theorem st_X3_guess {zs : zzT} {d : Nat} {av : List Value} {w : zzW} {Q : zzQ} (hl : (lg_sl av).length ≤ 8) (hk : ∀ R : zzS, zzC zs (zzCL zs d) cX3_guess 3 8 (some .int) Q R → R 0 (lv_args 0 av) [] w) : zzCL zs (d + 1) 61 av w Q := by
  refine ⟨by decide, ?_, fun R hR => hk R ?_⟩
  · rw [zzl, zc_X3_guess]; exact hl
  · rw [zzc, zzo, zzl, zzr, zc_X3_guess] at hR; exact hR
theorem zN_X3_shellsWouldHold : 3 = zzn 62 := by rw [zzn, zc_X3_shellsWouldHold]
theorem zO_X3_shellsWouldHold : 3 = zzo 62 := by rw [zzo, zc_X3_shellsWouldHold]
theorem st_X3_shellsWouldHold {zs : zzT} {d : Nat} {av : List Value} {w : zzW} {Q : zzQ} (hl : (lg_sl av).length ≤ 6) (hk : ∀ R : zzS, zzC zs (zzCL zs d) cX3_shellsWouldHold 3 6 (some .boolean) Q R → R 0 (lv_args 0 av) [] w) : zzCL zs (d + 1) 62 av w Q := by
  refine ⟨by decide, ?_, fun R hR => hk R ?_⟩
  · rw [zzl, zc_X3_shellsWouldHold]; exact hl
  · rw [zzc, zzo, zzl, zzr, zc_X3_shellsWouldHold] at hR; exact hR
theorem zN_X1_lastDay : 0 = zzn 63 := by rw [zzn, zc_X1_lastDay]
theorem zO_X1_lastDay : 1 = zzo 63 := by rw [zzo, zc_X1_lastDay]
theorem st_X1_lastDay {zs : zzT} {d : Nat} {av : List Value} {w : zzW} {Q : zzQ} (hl : (lg_sl av).length ≤ 3) (hk : ∀ R : zzS, zzC zs (zzCL zs d) cX1_lastDay 1 3 (some .int) Q R → R 0 (lv_args 0 av) [] w) : zzCL zs (d + 1) 63 av w Q := by
  refine ⟨by decide, ?_, fun R hR => hk R ?_⟩
  · rw [zzl, zc_X1_lastDay]; exact hl
  · rw [zzc, zzo, zzl, zzr, zc_X1_lastDay] at hR; exact hR
theorem zN_X1_holdOn : 2 = zzn 64 := by rw [zzn, zc_X1_holdOn]
theorem zO_X1_holdOn : 1 = zzo 64 := by rw [zzo, zc_X1_holdOn]
theorem st_X1_holdOn {zs : zzT} {d : Nat} {av : List Value} {w : zzW} {Q : zzQ} (hl : (lg_sl av).length ≤ 4) (hk : ∀ R : zzS, zzC zs (zzCL zs d) cX1_holdOn 1 4 (some .boolean) Q R → R 0 (lv_args 0 av) [] w) : zzCL zs (d + 1) 64 av w Q := by
  refine ⟨by decide, ?_, fun R hR => hk R ?_⟩
  · rw [zzl, zc_X1_holdOn]; exact hl
  · rw [zzc, zzo, zzl, zzr, zc_X1_holdOn] at hR; exact hR
theorem zN_X3_seasons : 3 = zzn 65 := by rw [zzn, zc_X3_seasons]
theorem zO_X3_seasons : 3 = zzo 65 := by rw [zzo, zc_X3_seasons]
theorem st_X3_seasons {zs : zzT} {d : Nat} {av : List Value} {w : zzW} {Q : zzQ} (hl : (lg_sl av).length ≤ 7) (hk : ∀ R : zzS, zzC zs (zzCL zs d) cX3_seasons 3 7 (some .int) Q R → R 0 (lv_args 0 av) [] w) : zzCL zs (d + 1) 65 av w Q := by
  refine ⟨by decide, ?_, fun R hR => hk R ?_⟩
  · rw [zzl, zc_X3_seasons]; exact hl
  · rw [zzc, zzo, zzl, zzr, zc_X3_seasons] at hR; exact hR
theorem zN_X3_nextSeed : 1 = zzn 66 := by rw [zzn, zc_X3_nextSeed]
theorem zO_X3_nextSeed : 3 = zzo 66 := by rw [zzo, zc_X3_nextSeed]
theorem st_X3_nextSeed {zs : zzT} {d : Nat} {av : List Value} {w : zzW} {Q : zzQ} (hl : (lg_sl av).length ≤ 1) (hk : ∀ R : zzS, zzC zs (zzCL zs d) cX3_nextSeed 3 1 (some .int) Q R → R 0 (lv_args 0 av) [] w) : zzCL zs (d + 1) 66 av w Q := by
  refine ⟨by decide, ?_, fun R hR => hk R ?_⟩
  · rw [zzl, zc_X3_nextSeed]; exact hl
  · rw [zzc, zzo, zzl, zzr, zc_X3_nextSeed] at hR; exact hR
theorem zN_X2_pairsBeside : 0 = zzn 67 := by rw [zzn, zc_X2_pairsBeside]
theorem zO_X2_pairsBeside : 2 = zzo 67 := by rw [zzo, zc_X2_pairsBeside]
theorem st_X2_pairsBeside {zs : zzT} {d : Nat} {av : List Value} {w : zzW} {Q : zzQ} (hl : (lg_sl av).length ≤ 3) (hk : ∀ R : zzS, zzC zs (zzCL zs d) cX2_pairsBeside 2 3 (some .int) Q R → R 0 (lv_args 0 av) [] w) : zzCL zs (d + 1) 67 av w Q := by
  refine ⟨by decide, ?_, fun R hR => hk R ?_⟩
  · rw [zzl, zc_X2_pairsBeside]; exact hl
  · rw [zzc, zzo, zzl, zzr, zc_X2_pairsBeside] at hR; exact hR
theorem zN_X3_image : 0 = zzn 68 := by rw [zzn, zc_X3_image]
theorem zO_X3_image : 3 = zzo 68 := by rw [zzo, zc_X3_image]
theorem st_X3_image {zs : zzT} {d : Nat} {av : List Value} {w : zzW} {Q : zzQ} (hl : (lg_sl av).length ≤ 1) (hk : ∀ R : zzS, zzC zs (zzCL zs d) cX3_image 3 1 (some .int) Q R → R 0 (lv_args 0 av) [] w) : zzCL zs (d + 1) 68 av w Q := by
  refine ⟨by decide, ?_, fun R hR => hk R ?_⟩
  · rw [zzl, zc_X3_image]; exact hl
  · rw [zzc, zzo, zzl, zzr, zc_X3_image] at hR; exact hR
theorem zN_X1_copy : 1 = zzn 69 := by rw [zzn, zc_X1_copy]
theorem zO_X1_copy : 1 = zzo 69 := by rw [zzo, zc_X1_copy]
theorem st_X1_copy {zs : zzT} {d : Nat} {av : List Value} {w : zzW} {Q : zzQ} (hl : (lg_sl av).length ≤ 3) (hk : ∀ R : zzS, zzC zs (zzCL zs d) cX1_copy 1 3 none Q R → R 0 (lv_args 0 av) [] w) : zzCL zs (d + 1) 69 av w Q := by
  refine ⟨by decide, ?_, fun R hR => hk R ?_⟩
  · rw [zzl, zc_X1_copy]; exact hl
  · rw [zzc, zzo, zzl, zzr, zc_X1_copy] at hR; exact hR
theorem zN_X3_restore : 0 = zzn 70 := by rw [zzn, zc_X3_restore]
theorem zO_X3_restore : 3 = zzo 70 := by rw [zzo, zc_X3_restore]
theorem st_X3_restore {zs : zzT} {d : Nat} {av : List Value} {w : zzW} {Q : zzQ} (hl : (lg_sl av).length ≤ 1) (hk : ∀ R : zzS, zzC zs (zzCL zs d) cX3_restore 3 1 (some .int) Q R → R 0 (lv_args 0 av) [] w) : zzCL zs (d + 1) 70 av w Q := by
  refine ⟨by decide, ?_, fun R hR => hk R ?_⟩
  · rw [zzl, zc_X3_restore]; exact hl
  · rw [zzc, zzo, zzl, zzr, zc_X3_restore] at hR; exact hR
theorem zN_X3_count : 1 = zzn 71 := by rw [zzn, zc_X3_count]
theorem zO_X3_count : 3 = zzo 71 := by rw [zzo, zc_X3_count]
theorem st_X3_count {zs : zzT} {d : Nat} {av : List Value} {w : zzW} {Q : zzQ} (hl : (lg_sl av).length ≤ 2) (hk : ∀ R : zzS, zzC zs (zzCL zs d) cX3_count 3 2 (some .int) Q R → R 0 (lv_args 0 av) [] w) : zzCL zs (d + 1) 71 av w Q := by
  refine ⟨by decide, ?_, fun R hR => hk R ?_⟩
  · rw [zzl, zc_X3_count]; exact hl
  · rw [zzc, zzo, zzl, zzr, zc_X3_count] at hR; exact hR
theorem zN_X2_parties : 0 = zzn 72 := by rw [zzn, zc_X2_parties]
theorem zO_X2_parties : 2 = zzo 72 := by rw [zzo, zc_X2_parties]
theorem st_X2_parties {zs : zzT} {d : Nat} {av : List Value} {w : zzW} {Q : zzQ} (hl : (lg_sl av).length ≤ 3) (hk : ∀ R : zzS, zzC zs (zzCL zs d) cX2_parties 2 3 (some .int) Q R → R 0 (lv_args 0 av) [] w) : zzCL zs (d + 1) 72 av w Q := by
  refine ⟨by decide, ?_, fun R hR => hk R ?_⟩
  · rw [zzl, zc_X2_parties]; exact hl
  · rw [zzc, zzo, zzl, zzr, zc_X2_parties] at hR; exact hR
theorem zN_X3_digest : 0 = zzn 73 := by rw [zzn, zc_X3_digest]
theorem zO_X3_digest : 3 = zzo 73 := by rw [zzo, zc_X3_digest]
theorem st_X3_digest {zs : zzT} {d : Nat} {av : List Value} {w : zzW} {Q : zzQ} (hl : (lg_sl av).length ≤ 4) (hk : ∀ R : zzS, zzC zs (zzCL zs d) cX3_digest 3 4 (some .long) Q R → R 0 (lv_args 0 av) [] w) : zzCL zs (d + 1) 73 av w Q := by
  refine ⟨by decide, ?_, fun R hR => hk R ?_⟩
  · rw [zzl, zc_X3_digest]; exact hl
  · rw [zzc, zzo, zzl, zzr, zc_X3_digest] at hR; exact hR
theorem zN_X3_digestIslands : 1 = zzn 74 := by rw [zzn, zc_X3_digestIslands]
theorem zO_X3_digestIslands : 3 = zzo 74 := by rw [zzo, zc_X3_digestIslands]
theorem st_X3_digestIslands {zs : zzT} {d : Nat} {av : List Value} {w : zzW} {Q : zzQ} (hl : (lg_sl av).length ≤ 7) (hk : ∀ R : zzS, zzC zs (zzCL zs d) cX3_digestIslands 3 7 (some .long) Q R → R 0 (lv_args 0 av) [] w) : zzCL zs (d + 1) 74 av w Q := by
  refine ⟨by decide, ?_, fun R hR => hk R ?_⟩
  · rw [zzl, zc_X3_digestIslands]; exact hl
  · rw [zzc, zzo, zzl, zzr, zc_X3_digestIslands] at hR; exact hR
theorem zN_X3_digestMatches : 1 = zzn 75 := by rw [zzn, zc_X3_digestMatches]
theorem zO_X3_digestMatches : 3 = zzo 75 := by rw [zzo, zc_X3_digestMatches]
theorem st_X3_digestMatches {zs : zzT} {d : Nat} {av : List Value} {w : zzW} {Q : zzQ} (hl : (lg_sl av).length ≤ 6) (hk : ∀ R : zzS, zzC zs (zzCL zs d) cX3_digestMatches 3 6 (some .long) Q R → R 0 (lv_args 0 av) [] w) : zzCL zs (d + 1) 75 av w Q := by
  refine ⟨by decide, ?_, fun R hR => hk R ?_⟩
  · rw [zzl, zc_X3_digestMatches]; exact hl
  · rw [zzc, zzo, zzl, zzr, zc_X3_digestMatches] at hR; exact hR
theorem zN_X4_letter : 1 = zzn 76 := by rw [zzn, zc_X4_letter]
theorem zO_X4_letter : 4 = zzo 76 := by rw [zzo, zc_X4_letter]
theorem st_X4_letter {zs : zzT} {d : Nat} {av : List Value} {w : zzW} {Q : zzQ} (hl : (lg_sl av).length ≤ 2) (hk : ∀ R : zzS, zzC zs (zzCL zs d) cX4_letter 4 2 (some .int) Q R → R 0 (lv_args 0 av) [] w) : zzCL zs (d + 1) 76 av w Q := by
  refine ⟨by decide, ?_, fun R hR => hk R ?_⟩
  · rw [zzl, zc_X4_letter]; exact hl
  · rw [zzc, zzo, zzl, zzr, zc_X4_letter] at hR; exact hR
theorem zN_X4_in : 3 = zzn 77 := by rw [zzn, zc_X4_in]
theorem zO_X4_in : 4 = zzo 77 := by rw [zzo, zc_X4_in]
theorem st_X4_in {zs : zzT} {d : Nat} {av : List Value} {w : zzW} {Q : zzQ} (hl : (lg_sl av).length ≤ 6) (hk : ∀ R : zzS, zzC zs (zzCL zs d) cX4_in 4 6 (some .boolean) Q R → R 0 (lv_args 0 av) [] w) : zzCL zs (d + 1) 77 av w Q := by
  refine ⟨by decide, ?_, fun R hR => hk R ?_⟩
  · rw [zzl, zc_X4_in]; exact hl
  · rw [zzc, zzo, zzl, zzr, zc_X4_in] at hR; exact hR
theorem zN_X4_blank : 0 = zzn 78 := by rw [zzn, zc_X4_blank]
theorem zO_X4_blank : 4 = zzo 78 := by rw [zzo, zc_X4_blank]
theorem st_X4_blank {zs : zzT} {d : Nat} {av : List Value} {w : zzW} {Q : zzQ} (hl : (lg_sl av).length ≤ 2) (hk : ∀ R : zzS, zzC zs (zzCL zs d) cX4_blank 4 2 (some .int) Q R → R 0 (lv_args 0 av) [] w) : zzCL zs (d + 1) 78 av w Q := by
  refine ⟨by decide, ?_, fun R hR => hk R ?_⟩
  · rw [zzl, zc_X4_blank]; exact hl
  · rw [zzc, zzo, zzl, zzr, zc_X4_blank] at hR; exact hR
theorem zN_X4_fault : 0 = zzn 79 := by rw [zzn, zc_X4_fault]
theorem zO_X4_fault : 4 = zzo 79 := by rw [zzo, zc_X4_fault]
theorem st_X4_fault {zs : zzT} {d : Nat} {av : List Value} {w : zzW} {Q : zzQ} (hl : (lg_sl av).length ≤ 1) (hk : ∀ R : zzS, zzC zs (zzCL zs d) cX4_fault 4 1 (some .int) Q R → R 0 (lv_args 0 av) [] w) : zzCL zs (d + 1) 79 av w Q := by
  refine ⟨by decide, ?_, fun R hR => hk R ?_⟩
  · rw [zzl, zc_X4_fault]; exact hl
  · rw [zzc, zzo, zzl, zzr, zc_X4_fault] at hR; exact hR
theorem zN_X4_faultOf : 0 = zzn 80 := by rw [zzn, zc_X4_faultOf]
theorem zO_X4_faultOf : 4 = zzo 80 := by rw [zzo, zc_X4_faultOf]
theorem st_X4_faultOf {zs : zzT} {d : Nat} {av : List Value} {w : zzW} {Q : zzQ} (hl : (lg_sl av).length ≤ 2) (hk : ∀ R : zzS, zzC zs (zzCL zs d) cX4_faultOf 4 2 (some .int) Q R → R 0 (lv_args 0 av) [] w) : zzCL zs (d + 1) 80 av w Q := by
  refine ⟨by decide, ?_, fun R hR => hk R ?_⟩
  · rw [zzl, zc_X4_faultOf]; exact hl
  · rw [zzc, zzo, zzl, zzr, zc_X4_faultOf] at hR; exact hR
theorem zN_X4_sea : 0 = zzn 81 := by rw [zzn, zc_X4_sea]
theorem zO_X4_sea : 4 = zzo 81 := by rw [zzo, zc_X4_sea]
theorem st_X4_sea {zs : zzT} {d : Nat} {av : List Value} {w : zzW} {Q : zzQ} (hl : (lg_sl av).length ≤ 2) (hk : ∀ R : zzS, zzC zs (zzCL zs d) cX4_sea 4 2 (some .int) Q R → R 0 (lv_args 0 av) [] w) : zzCL zs (d + 1) 81 av w Q := by
  refine ⟨by decide, ?_, fun R hR => hk R ?_⟩
  · rw [zzl, zc_X4_sea]; exact hl
  · rw [zzc, zzo, zzl, zzr, zc_X4_sea] at hR; exact hR
theorem zN_X4_currentMany : 0 = zzn 82 := by rw [zzn, zc_X4_currentMany]
theorem zO_X4_currentMany : 4 = zzo 82 := by rw [zzo, zc_X4_currentMany]
theorem st_X4_currentMany {zs : zzT} {d : Nat} {av : List Value} {w : zzW} {Q : zzQ} (hl : (lg_sl av).length ≤ 3) (hk : ∀ R : zzS, zzC zs (zzCL zs d) cX4_currentMany 4 3 (some .int) Q R → R 0 (lv_args 0 av) [] w) : zzCL zs (d + 1) 82 av w Q := by
  refine ⟨by decide, ?_, fun R hR => hk R ?_⟩
  · rw [zzl, zc_X4_currentMany]; exact hl
  · rw [zzc, zzo, zzl, zzr, zc_X4_currentMany] at hR; exact hR
theorem zN_X4_place : 2 = zzn 83 := by rw [zzn, zc_X4_place]
theorem zO_X4_place : 4 = zzo 83 := by rw [zzo, zc_X4_place]
theorem st_X4_place {zs : zzT} {d : Nat} {av : List Value} {w : zzW} {Q : zzQ} (hl : (lg_sl av).length ≤ 3) (hk : ∀ R : zzS, zzC zs (zzCL zs d) cX4_place 4 3 (some .int) Q R → R 0 (lv_args 0 av) [] w) : zzCL zs (d + 1) 83 av w Q := by
  refine ⟨by decide, ?_, fun R hR => hk R ?_⟩
  · rw [zzl, zc_X4_place]; exact hl
  · rw [zzc, zzo, zzl, zzr, zc_X4_place] at hR; exact hR
theorem zN_X4_whoIsAt : 1 = zzn 84 := by rw [zzn, zc_X4_whoIsAt]
theorem zO_X4_whoIsAt : 4 = zzo 84 := by rw [zzo, zc_X4_whoIsAt]
theorem st_X4_whoIsAt {zs : zzT} {d : Nat} {av : List Value} {w : zzW} {Q : zzQ} (hl : (lg_sl av).length ≤ 4) (hk : ∀ R : zzS, zzC zs (zzCL zs d) cX4_whoIsAt 4 4 (some .int) Q R → R 0 (lv_args 0 av) [] w) : zzCL zs (d + 1) 84 av w Q := by
  refine ⟨by decide, ?_, fun R hR => hk R ?_⟩
  · rw [zzl, zc_X4_whoIsAt]; exact hl
  · rw [zzc, zzo, zzl, zzr, zc_X4_whoIsAt] at hR; exact hR
theorem zN_X4_wind : 1 = zzn 85 := by rw [zzn, zc_X4_wind]
theorem zO_X4_wind : 4 = zzo 85 := by rw [zzo, zc_X4_wind]
theorem st_X4_wind {zs : zzT} {d : Nat} {av : List Value} {w : zzW} {Q : zzQ} (hl : (lg_sl av).length ≤ 3) (hk : ∀ R : zzS, zzC zs (zzCL zs d) cX4_wind 4 3 (some .int) Q R → R 0 (lv_args 0 av) [] w) : zzCL zs (d + 1) 85 av w Q := by
  refine ⟨by decide, ?_, fun R hR => hk R ?_⟩
  · rw [zzl, zc_X4_wind]; exact hl
  · rw [zzc, zzo, zzl, zzr, zc_X4_wind] at hR; exact hR
theorem zN_X4_island : 3 = zzn 86 := by rw [zzn, zc_X4_island]
theorem zO_X4_island : 4 = zzo 86 := by rw [zzo, zc_X4_island]
theorem st_X4_island {zs : zzT} {d : Nat} {av : List Value} {w : zzW} {Q : zzQ} (hl : (lg_sl av).length ≤ 4) (hk : ∀ R : zzS, zzC zs (zzCL zs d) cX4_island 4 4 (some .int) Q R → R 0 (lv_args 0 av) [] w) : zzCL zs (d + 1) 86 av w Q := by
  refine ⟨by decide, ?_, fun R hR => hk R ?_⟩
  · rw [zzl, zc_X4_island]; exact hl
  · rw [zzc, zzo, zzl, zzr, zc_X4_island] at hR; exact hR
theorem zN_X4_about : 2 = zzn 87 := by rw [zzn, zc_X4_about]
theorem zO_X4_about : 4 = zzo 87 := by rw [zzo, zc_X4_about]
theorem st_X4_about {zs : zzT} {d : Nat} {av : List Value} {w : zzW} {Q : zzQ} (hl : (lg_sl av).length ≤ 3) (hk : ∀ R : zzS, zzC zs (zzCL zs d) cX4_about 4 3 (some .int) Q R → R 0 (lv_args 0 av) [] w) : zzCL zs (d + 1) 87 av w Q := by
  refine ⟨by decide, ?_, fun R hR => hk R ?_⟩
  · rw [zzl, zc_X4_about]; exact hl
  · rw [zzc, zzo, zzl, zzr, zc_X4_about] at hR; exact hR
theorem zN_X4_isIsland : 1 = zzn 88 := by rw [zzn, zc_X4_isIsland]
theorem zO_X4_isIsland : 4 = zzo 88 := by rw [zzo, zc_X4_isIsland]
theorem st_X4_isIsland {zs : zzT} {d : Nat} {av : List Value} {w : zzW} {Q : zzQ} (hl : (lg_sl av).length ≤ 2) (hk : ∀ R : zzS, zzC zs (zzCL zs d) cX4_isIsland 4 2 (some .boolean) Q R → R 0 (lv_args 0 av) [] w) : zzCL zs (d + 1) 88 av w Q := by
  refine ⟨by decide, ?_, fun R hR => hk R ?_⟩
  · rw [zzl, zc_X4_isIsland]; exact hl
  · rw [zzc, zzo, zzl, zzr, zc_X4_isIsland] at hR; exact hR
theorem zN_X4_tell : 2 = zzn 89 := by rw [zzn, zc_X4_tell]
theorem zO_X4_tell : 4 = zzo 89 := by rw [zzo, zc_X4_tell]
theorem st_X4_tell {zs : zzT} {d : Nat} {av : List Value} {w : zzW} {Q : zzQ} (hl : (lg_sl av).length ≤ 3) (hk : ∀ R : zzS, zzC zs (zzCL zs d) cX4_tell 4 3 (some .int) Q R → R 0 (lv_args 0 av) [] w) : zzCL zs (d + 1) 89 av w Q := by
  refine ⟨by decide, ?_, fun R hR => hk R ?_⟩
  · rw [zzl, zc_X4_tell]; exact hl
  · rw [zzc, zzo, zzl, zzr, zc_X4_tell] at hR; exact hR
theorem zN_X4_asItIs : 0 = zzn 90 := by rw [zzn, zc_X4_asItIs]
theorem zO_X4_asItIs : 4 = zzo 90 := by rw [zzo, zc_X4_asItIs]
theorem st_X4_asItIs {zs : zzT} {d : Nat} {av : List Value} {w : zzW} {Q : zzQ} (hl : (lg_sl av).length ≤ 2) (hk : ∀ R : zzS, zzC zs (zzCL zs d) cX4_asItIs 4 2 none Q R → R 0 (lv_args 0 av) [] w) : zzCL zs (d + 1) 90 av w Q := by
  refine ⟨by decide, ?_, fun R hR => hk R ?_⟩
  · rw [zzl, zc_X4_asItIs]; exact hl
  · rw [zzc, zzo, zzl, zzr, zc_X4_asItIs] at hR; exact hR
theorem zN_X4_pushOf : 1 = zzn 91 := by rw [zzn, zc_X4_pushOf]
theorem zO_X4_pushOf : 4 = zzo 91 := by rw [zzo, zc_X4_pushOf]
theorem st_X4_pushOf {zs : zzT} {d : Nat} {av : List Value} {w : zzW} {Q : zzQ} (hl : (lg_sl av).length ≤ 3) (hk : ∀ R : zzS, zzC zs (zzCL zs d) cX4_pushOf 4 3 (some .int) Q R → R 0 (lv_args 0 av) [] w) : zzCL zs (d + 1) 91 av w Q := by
  refine ⟨by decide, ?_, fun R hR => hk R ?_⟩
  · rw [zzl, zc_X4_pushOf]; exact hl
  · rw [zzc, zzo, zzl, zzr, zc_X4_pushOf] at hR; exact hR
theorem zN_X4_partyOf : 1 = zzn 92 := by rw [zzn, zc_X4_partyOf]
theorem zO_X4_partyOf : 4 = zzo 92 := by rw [zzo, zc_X4_partyOf]
theorem st_X4_partyOf {zs : zzT} {d : Nat} {av : List Value} {w : zzW} {Q : zzQ} (hl : (lg_sl av).length ≤ 2) (hk : ∀ R : zzS, zzC zs (zzCL zs d) cX4_partyOf 4 2 (some .int) Q R → R 0 (lv_args 0 av) [] w) : zzCL zs (d + 1) 92 av w Q := by
  refine ⟨by decide, ?_, fun R hR => hk R ?_⟩
  · rw [zzl, zc_X4_partyOf]; exact hl
  · rw [zzc, zzo, zzl, zzr, zc_X4_partyOf] at hR; exact hR
theorem zN_X4_partyBy : 2 = zzn 93 := by rw [zzn, zc_X4_partyBy]
theorem zO_X4_partyBy : 4 = zzo 93 := by rw [zzo, zc_X4_partyBy]
theorem st_X4_partyBy {zs : zzT} {d : Nat} {av : List Value} {w : zzW} {Q : zzQ} (hl : (lg_sl av).length ≤ 7) (hk : ∀ R : zzS, zzC zs (zzCL zs d) cX4_partyBy 4 7 (some .int) Q R → R 0 (lv_args 0 av) [] w) : zzCL zs (d + 1) 93 av w Q := by
  refine ⟨by decide, ?_, fun R hR => hk R ?_⟩
  · rw [zzl, zc_X4_partyBy]; exact hl
  · rw [zzc, zzo, zzl, zzr, zc_X4_partyBy] at hR; exact hR
theorem zN_X4_besideBits : 1 = zzn 94 := by rw [zzn, zc_X4_besideBits]
theorem zO_X4_besideBits : 4 = zzo 94 := by rw [zzo, zc_X4_besideBits]
theorem st_X4_besideBits {zs : zzT} {d : Nat} {av : List Value} {w : zzW} {Q : zzQ} (hl : (lg_sl av).length ≤ 4) (hk : ∀ R : zzS, zzC zs (zzCL zs d) cX4_besideBits 4 4 (some .int) Q R → R 0 (lv_args 0 av) [] w) : zzCL zs (d + 1) 94 av w Q := by
  refine ⟨by decide, ?_, fun R hR => hk R ?_⟩
  · rw [zzl, zc_X4_besideBits]; exact hl
  · rw [zzc, zzo, zzl, zzr, zc_X4_besideBits] at hR; exact hR
theorem zN_X4_areBeside : 2 = zzn 95 := by rw [zzn, zc_X4_areBeside]
theorem zO_X4_areBeside : 4 = zzo 95 := by rw [zzo, zc_X4_areBeside]
theorem st_X4_areBeside {zs : zzT} {d : Nat} {av : List Value} {w : zzW} {Q : zzQ} (hl : (lg_sl av).length ≤ 2) (hk : ∀ R : zzS, zzC zs (zzCL zs d) cX4_areBeside 4 2 (some .boolean) Q R → R 0 (lv_args 0 av) [] w) : zzCL zs (d + 1) 95 av w Q := by
  refine ⟨by decide, ?_, fun R hR => hk R ?_⟩
  · rw [zzl, zc_X4_areBeside]; exact hl
  · rw [zzc, zzo, zzl, zzr, zc_X4_areBeside] at hR; exact hR
theorem zN_X4_ropedBits : 1 = zzn 96 := by rw [zzn, zc_X4_ropedBits]
theorem zO_X4_ropedBits : 4 = zzo 96 := by rw [zzo, zc_X4_ropedBits]
theorem st_X4_ropedBits {zs : zzT} {d : Nat} {av : List Value} {w : zzW} {Q : zzQ} (hl : (lg_sl av).length ≤ 4) (hk : ∀ R : zzS, zzC zs (zzCL zs d) cX4_ropedBits 4 4 (some .int) Q R → R 0 (lv_args 0 av) [] w) : zzCL zs (d + 1) 96 av w Q := by
  refine ⟨by decide, ?_, fun R hR => hk R ?_⟩
  · rw [zzl, zc_X4_ropedBits]; exact hl
  · rw [zzc, zzo, zzl, zzr, zc_X4_ropedBits] at hR; exact hR
theorem zN_X4_areRoped : 2 = zzn 97 := by rw [zzn, zc_X4_areRoped]
theorem zO_X4_areRoped : 4 = zzo 97 := by rw [zzo, zc_X4_areRoped]
theorem st_X4_areRoped {zs : zzT} {d : Nat} {av : List Value} {w : zzW} {Q : zzQ} (hl : (lg_sl av).length ≤ 5) (hk : ∀ R : zzS, zzC zs (zzCL zs d) cX4_areRoped 4 5 (some .boolean) Q R → R 0 (lv_args 0 av) [] w) : zzCL zs (d + 1) 97 av w Q := by
  refine ⟨by decide, ?_, fun R hR => hk R ?_⟩
  · rw [zzl, zc_X4_areRoped]; exact hl
  · rw [zzc, zzo, zzl, zzr, zc_X4_areRoped] at hR; exact hR
theorem zN_X4_as : 2 = zzn 98 := by rw [zzn, zc_X4_as]
theorem zO_X4_as : 4 = zzo 98 := by rw [zzo, zc_X4_as]
theorem st_X4_as {zs : zzT} {d : Nat} {av : List Value} {w : zzW} {Q : zzQ} (hl : (lg_sl av).length ≤ 5) (hk : ∀ R : zzS, zzC zs (zzCL zs d) cX4_as 4 5 (some .int) Q R → R 0 (lv_args 0 av) [] w) : zzCL zs (d + 1) 98 av w Q := by
  refine ⟨by decide, ?_, fun R hR => hk R ?_⟩
  · rw [zzl, zc_X4_as]; exact hl
  · rw [zzc, zzo, zzl, zzr, zc_X4_as] at hR; exact hR
theorem zN_X4_anchor : 2 = zzn 99 := by rw [zzn, zc_X4_anchor]
theorem zO_X4_anchor : 4 = zzo 99 := by rw [zzo, zc_X4_anchor]
theorem st_X4_anchor {zs : zzT} {d : Nat} {av : List Value} {w : zzW} {Q : zzQ} (hl : (lg_sl av).length ≤ 4) (hk : ∀ R : zzS, zzC zs (zzCL zs d) cX4_anchor 4 4 (some .int) Q R → R 0 (lv_args 0 av) [] w) : zzCL zs (d + 1) 99 av w Q := by
  refine ⟨by decide, ?_, fun R hR => hk R ?_⟩
  · rw [zzl, zc_X4_anchor]; exact hl
  · rw [zzc, zzo, zzl, zzr, zc_X4_anchor] at hR; exact hR
theorem zN_X4_wed : 2 = zzn 100 := by rw [zzn, zc_X4_wed]
theorem zO_X4_wed : 4 = zzo 100 := by rw [zzo, zc_X4_wed]
theorem st_X4_wed {zs : zzT} {d : Nat} {av : List Value} {w : zzW} {Q : zzQ} (hl : (lg_sl av).length ≤ 3) (hk : ∀ R : zzS, zzC zs (zzCL zs d) cX4_wed 4 3 (some .int) Q R → R 0 (lv_args 0 av) [] w) : zzCL zs (d + 1) 100 av w Q := by
  refine ⟨by decide, ?_, fun R hR => hk R ?_⟩
  · rw [zzl, zc_X4_wed]; exact hl
  · rw [zzc, zzo, zzl, zzr, zc_X4_wed] at hR; exact hR
theorem zN_X4_arePair : 2 = zzn 101 := by rw [zzn, zc_X4_arePair]
theorem zO_X4_arePair : 4 = zzo 101 := by rw [zzo, zc_X4_arePair]
theorem st_X4_arePair {zs : zzT} {d : Nat} {av : List Value} {w : zzW} {Q : zzQ} (hl : (lg_sl av).length ≤ 3) (hk : ∀ R : zzS, zzC zs (zzCL zs d) cX4_arePair 4 3 (some .boolean) Q R → R 0 (lv_args 0 av) [] w) : zzCL zs (d + 1) 101 av w Q := by
  refine ⟨by decide, ?_, fun R hR => hk R ?_⟩
  · rw [zzl, zc_X4_arePair]; exact hl
  · rw [zzc, zzo, zzl, zzr, zc_X4_arePair] at hR; exact hR
theorem zN_X4_axe : 2 = zzn 102 := by rw [zzn, zc_X4_axe]
theorem zO_X4_axe : 4 = zzo 102 := by rw [zzo, zc_X4_axe]
theorem st_X4_axe {zs : zzT} {d : Nat} {av : List Value} {w : zzW} {Q : zzQ} (hl : (lg_sl av).length ≤ 8) (hk : ∀ R : zzS, zzC zs (zzCL zs d) cX4_axe 4 8 (some .int) Q R → R 0 (lv_args 0 av) [] w) : zzCL zs (d + 1) 102 av w Q := by
  refine ⟨by decide, ?_, fun R hR => hk R ?_⟩
  · rw [zzl, zc_X4_axe]; exact hl
  · rw [zzc, zzo, zzl, zzr, zc_X4_axe] at hR; exact hR
theorem zN_X4_day : 0 = zzn 103 := by rw [zzn, zc_X4_day]
theorem zO_X4_day : 4 = zzo 103 := by rw [zzo, zc_X4_day]
theorem st_X4_day {zs : zzT} {d : Nat} {av : List Value} {w : zzW} {Q : zzQ} (hl : (lg_sl av).length ≤ 3) (hk : ∀ R : zzS, zzC zs (zzCL zs d) cX4_day 4 3 (some .int) Q R → R 0 (lv_args 0 av) [] w) : zzCL zs (d + 1) 103 av w Q := by
  refine ⟨by decide, ?_, fun R hR => hk R ?_⟩
  · rw [zzl, zc_X4_day]; exact hl
  · rw [zzc, zzo, zzl, zzr, zc_X4_day] at hR; exact hR
theorem zN_X4_passes : 0 = zzn 104 := by rw [zzn, zc_X4_passes]
theorem zO_X4_passes : 4 = zzo 104 := by rw [zzo, zc_X4_passes]
theorem st_X4_passes {zs : zzT} {d : Nat} {av : List Value} {w : zzW} {Q : zzQ} (hl : (lg_sl av).length ≤ 3) (hk : ∀ R : zzS, zzC zs (zzCL zs d) cX4_passes 4 3 (some .int) Q R → R 0 (lv_args 0 av) [] w) : zzCL zs (d + 1) 104 av w Q := by
  refine ⟨by decide, ?_, fun R hR => hk R ?_⟩
  · rw [zzl, zc_X4_passes]; exact hl
  · rw [zzc, zzo, zzl, zzr, zc_X4_passes] at hR; exact hR
theorem zN_X4_isFirst : 1 = zzn 105 := by rw [zzn, zc_X4_isFirst]
theorem zO_X4_isFirst : 4 = zzo 105 := by rw [zzo, zc_X4_isFirst]
theorem st_X4_isFirst {zs : zzT} {d : Nat} {av : List Value} {w : zzW} {Q : zzQ} (hl : (lg_sl av).length ≤ 2) (hk : ∀ R : zzS, zzC zs (zzCL zs d) cX4_isFirst 4 2 (some .boolean) Q R → R 0 (lv_args 0 av) [] w) : zzCL zs (d + 1) 105 av w Q := by
  refine ⟨by decide, ?_, fun R hR => hk R ?_⟩
  · rw [zzl, zc_X4_isFirst]; exact hl
  · rw [zzc, zzo, zzl, zzr, zc_X4_isFirst] at hR; exact hR
theorem zN_X4_drifts : 1 = zzn 106 := by rw [zzn, zc_X4_drifts]
theorem zO_X4_drifts : 4 = zzo 106 := by rw [zzo, zc_X4_drifts]
theorem st_X4_drifts {zs : zzT} {d : Nat} {av : List Value} {w : zzW} {Q : zzQ} (hl : (lg_sl av).length ≤ 7) (hk : ∀ R : zzS, zzC zs (zzCL zs d) cX4_drifts 4 7 (some .int) Q R → R 0 (lv_args 0 av) [] w) : zzCL zs (d + 1) 106 av w Q := by
  refine ⟨by decide, ?_, fun R hR => hk R ?_⟩
  · rw [zzl, zc_X4_drifts]; exact hl
  · rw [zzc, zzo, zzl, zzr, zc_X4_drifts] at hR; exact hR
theorem zN_X4_meet : 2 = zzn 107 := by rw [zzn, zc_X4_meet]
theorem zO_X4_meet : 4 = zzo 107 := by rw [zzo, zc_X4_meet]
theorem st_X4_meet {zs : zzT} {d : Nat} {av : List Value} {w : zzW} {Q : zzQ} (hl : (lg_sl av).length ≤ 3) (hk : ∀ R : zzS, zzC zs (zzCL zs d) cX4_meet 4 3 (some .int) Q R → R 0 (lv_args 0 av) [] w) : zzCL zs (d + 1) 107 av w Q := by
  refine ⟨by decide, ?_, fun R hR => hk R ?_⟩
  · rw [zzl, zc_X4_meet]; exact hl
  · rw [zzc, zzo, zzl, zzr, zc_X4_meet] at hR; exact hR
theorem zN_X4_meetBy : 4 = zzn 108 := by rw [zzn, zc_X4_meetBy]
theorem zO_X4_meetBy : 4 = zzo 108 := by rw [zzo, zc_X4_meetBy]
theorem st_X4_meetBy {zs : zzT} {d : Nat} {av : List Value} {w : zzW} {Q : zzQ} (hl : (lg_sl av).length ≤ 7) (hk : ∀ R : zzS, zzC zs (zzCL zs d) cX4_meetBy 4 7 (some .int) Q R → R 0 (lv_args 0 av) [] w) : zzCL zs (d + 1) 108 av w Q := by
  refine ⟨by decide, ?_, fun R hR => hk R ?_⟩
  · rw [zzl, zc_X4_meetBy]; exact hl
  · rw [zzc, zzo, zzl, zzr, zc_X4_meetBy] at hR; exact hR
theorem zN_X4_anchors : 4 = zzn 109 := by rw [zzn, zc_X4_anchors]
theorem zO_X4_anchors : 4 = zzo 109 := by rw [zzo, zc_X4_anchors]
theorem st_X4_anchors {zs : zzT} {d : Nat} {av : List Value} {w : zzW} {Q : zzQ} (hl : (lg_sl av).length ≤ 6) (hk : ∀ R : zzS, zzC zs (zzCL zs d) cX4_anchors 4 6 (some .int) Q R → R 0 (lv_args 0 av) [] w) : zzCL zs (d + 1) 109 av w Q := by
  refine ⟨by decide, ?_, fun R hR => hk R ?_⟩
  · rw [zzl, zc_X4_anchors]; exact hl
  · rw [zzc, zzo, zzl, zzr, zc_X4_anchors] at hR; exact hR
theorem zN_X4_anchorsOf : 3 = zzn 110 := by rw [zzn, zc_X4_anchorsOf]
theorem zO_X4_anchorsOf : 4 = zzo 110 := by rw [zzo, zc_X4_anchorsOf]
theorem st_X4_anchorsOf {zs : zzT} {d : Nat} {av : List Value} {w : zzW} {Q : zzQ} (hl : (lg_sl av).length ≤ 7) (hk : ∀ R : zzS, zzC zs (zzCL zs d) cX4_anchorsOf 4 7 (some .int) Q R → R 0 (lv_args 0 av) [] w) : zzCL zs (d + 1) 110 av w Q := by
  refine ⟨by decide, ?_, fun R hR => hk R ?_⟩
  · rw [zzl, zc_X4_anchorsOf]; exact hl
  · rw [zzc, zzo, zzl, zzr, zc_X4_anchorsOf] at hR; exact hR
theorem zN_X4_ones : 1 = zzn 111 := by rw [zzn, zc_X4_ones]
theorem zO_X4_ones : 4 = zzo 111 := by rw [zzo, zc_X4_ones]
theorem st_X4_ones {zs : zzT} {d : Nat} {av : List Value} {w : zzW} {Q : zzQ} (hl : (lg_sl av).length ≤ 3) (hk : ∀ R : zzS, zzC zs (zzCL zs d) cX4_ones 4 3 (some .int) Q R → R 0 (lv_args 0 av) [] w) : zzCL zs (d + 1) 111 av w Q := by
  refine ⟨by decide, ?_, fun R hR => hk R ?_⟩
  · rw [zzl, zc_X4_ones]; exact hl
  · rw [zzc, zzo, zzl, zzr, zc_X4_ones] at hR; exact hR
theorem zN_X4_stable : 1 = zzn 112 := by rw [zzn, zc_X4_stable]
theorem zO_X4_stable : 4 = zzo 112 := by rw [zzo, zc_X4_stable]
theorem st_X4_stable {zs : zzT} {d : Nat} {av : List Value} {w : zzW} {Q : zzQ} (hl : (lg_sl av).length ≤ 2) (hk : ∀ R : zzS, zzC zs (zzCL zs d) cX4_stable 4 2 (some .int) Q R → R 0 (lv_args 0 av) [] w) : zzCL zs (d + 1) 112 av w Q := by
  refine ⟨by decide, ?_, fun R hR => hk R ?_⟩
  · rw [zzl, zc_X4_stable]; exact hl
  · rw [zzc, zzo, zzl, zzr, zc_X4_stable] at hR; exact hR
theorem zN_X4_layStable : 0 = zzn 113 := by rw [zzn, zc_X4_layStable]
theorem zO_X4_layStable : 4 = zzo 113 := by rw [zzo, zc_X4_layStable]
theorem st_X4_layStable {zs : zzT} {d : Nat} {av : List Value} {w : zzW} {Q : zzQ} (hl : (lg_sl av).length ≤ 5) (hk : ∀ R : zzS, zzC zs (zzCL zs d) cX4_layStable 4 5 none Q R → R 0 (lv_args 0 av) [] w) : zzCL zs (d + 1) 113 av w Q := by
  refine ⟨by decide, ?_, fun R hR => hk R ?_⟩
  · rw [zzl, zc_X4_layStable]; exact hl
  · rw [zzc, zzo, zzl, zzr, zc_X4_layStable] at hR; exact hR
theorem zN_X4_isMatch : 1 = zzn 114 := by rw [zzn, zc_X4_isMatch]
theorem zO_X4_isMatch : 4 = zzo 114 := by rw [zzo, zc_X4_isMatch]
theorem st_X4_isMatch {zs : zzT} {d : Nat} {av : List Value} {w : zzW} {Q : zzQ} (hl : (lg_sl av).length ≤ 5) (hk : ∀ R : zzS, zzC zs (zzCL zs d) cX4_isMatch 4 5 (some .boolean) Q R → R 0 (lv_args 0 av) [] w) : zzCL zs (d + 1) 114 av w Q := by
  refine ⟨by decide, ?_, fun R hR => hk R ?_⟩
  · rw [zzl, zc_X4_isMatch]; exact hl
  · rw [zzc, zzo, zzl, zzr, zc_X4_isMatch] at hR; exact hR
theorem zN_X4_isStable : 0 = zzn 115 := by rw [zzn, zc_X4_isStable]
theorem zO_X4_isStable : 4 = zzo 115 := by rw [zzo, zc_X4_isStable]
theorem st_X4_isStable {zs : zzT} {d : Nat} {av : List Value} {w : zzW} {Q : zzQ} (hl : (lg_sl av).length ≤ 5) (hk : ∀ R : zzS, zzC zs (zzCL zs d) cX4_isStable 4 5 (some .boolean) Q R → R 0 (lv_args 0 av) [] w) : zzCL zs (d + 1) 115 av w Q := by
  refine ⟨by decide, ?_, fun R hR => hk R ?_⟩
  · rw [zzl, zc_X4_isStable]; exact hl
  · rw [zzc, zzo, zzl, zzr, zc_X4_isStable] at hR; exact hR
theorem zN_X4_likes : 2 = zzn 116 := by rw [zzn, zc_X4_likes]
theorem zO_X4_likes : 4 = zzo 116 := by rw [zzo, zc_X4_likes]
theorem st_X4_likes {zs : zzT} {d : Nat} {av : List Value} {w : zzW} {Q : zzQ} (hl : (lg_sl av).length ≤ 3) (hk : ∀ R : zzS, zzC zs (zzCL zs d) cX4_likes 4 3 (some .boolean) Q R → R 0 (lv_args 0 av) [] w) : zzCL zs (d + 1) 116 av w Q := by
  refine ⟨by decide, ?_, fun R hR => hk R ?_⟩
  · rw [zzl, zc_X4_likes]; exact hl
  · rw [zzc, zzo, zzl, zzr, zc_X4_likes] at hR; exact hR
theorem zN_X4_copy : 2 = zzn 117 := by rw [zzn, zc_X4_copy]
theorem zO_X4_copy : 4 = zzo 117 := by rw [zzo, zc_X4_copy]
theorem st_X4_copy {zs : zzT} {d : Nat} {av : List Value} {w : zzW} {Q : zzQ} (hl : (lg_sl av).length ≤ 3) (hk : ∀ R : zzS, zzC zs (zzCL zs d) cX4_copy 4 3 none Q R → R 0 (lv_args 0 av) [] w) : zzCL zs (d + 1) 117 av w Q := by
  refine ⟨by decide, ?_, fun R hR => hk R ?_⟩
  · rw [zzl, zc_X4_copy]; exact hl
  · rw [zzc, zzo, zzl, zzr, zc_X4_copy] at hR; exact hR
theorem zN_X4_tellStable : 1 = zzn 118 := by rw [zzn, zc_X4_tellStable]
theorem zO_X4_tellStable : 4 = zzo 118 := by rw [zzo, zc_X4_tellStable]
theorem st_X4_tellStable {zs : zzT} {d : Nat} {av : List Value} {w : zzW} {Q : zzQ} (hl : (lg_sl av).length ≤ 2) (hk : ∀ R : zzS, zzC zs (zzCL zs d) cX4_tellStable 4 2 (some .int) Q R → R 0 (lv_args 0 av) [] w) : zzCL zs (d + 1) 118 av w Q := by
  refine ⟨by decide, ?_, fun R hR => hk R ?_⟩
  · rw [zzl, zc_X4_tellStable]; exact hl
  · rw [zzc, zzo, zzl, zzr, zc_X4_tellStable] at hR; exact hR
theorem zN_X4_parting : 2 = zzn 119 := by rw [zzn, zc_X4_parting]
theorem zO_X4_parting : 4 = zzo 119 := by rw [zzo, zc_X4_parting]
theorem st_X4_parting {zs : zzT} {d : Nat} {av : List Value} {w : zzW} {Q : zzQ} (hl : (lg_sl av).length ≤ 6) (hk : ∀ R : zzS, zzC zs (zzCL zs d) cX4_parting 4 6 (some .int) Q R → R 0 (lv_args 0 av) [] w) : zzCL zs (d + 1) 119 av w Q := by
  refine ⟨by decide, ?_, fun R hR => hk R ?_⟩
  · rw [zzl, zc_X4_parting]; exact hl
  · rw [zzc, zzo, zzl, zzr, zc_X4_parting] at hR; exact hR
theorem zN_X4_shell : 4 = zzn 120 := by rw [zzn, zc_X4_shell]
theorem zO_X4_shell : 4 = zzo 120 := by rw [zzo, zc_X4_shell]
theorem st_X4_shell {zs : zzT} {d : Nat} {av : List Value} {w : zzW} {Q : zzQ} (hl : (lg_sl av).length ≤ 5) (hk : ∀ R : zzS, zzC zs (zzCL zs d) cX4_shell 4 5 (some .int) Q R → R 0 (lv_args 0 av) [] w) : zzCL zs (d + 1) 120 av w Q := by
  refine ⟨by decide, ?_, fun R hR => hk R ?_⟩
  · rw [zzl, zc_X4_shell]; exact hl
  · rw [zzc, zzo, zzl, zzr, zc_X4_shell] at hR; exact hR
theorem zN_X4_forget : 0 = zzn 121 := by rw [zzn, zc_X4_forget]
theorem zO_X4_forget : 4 = zzo 121 := by rw [zzo, zc_X4_forget]
theorem st_X4_forget {zs : zzT} {d : Nat} {av : List Value} {w : zzW} {Q : zzQ} (hl : (lg_sl av).length ≤ 2) (hk : ∀ R : zzS, zzC zs (zzCL zs d) cX4_forget 4 2 (some .int) Q R → R 0 (lv_args 0 av) [] w) : zzCL zs (d + 1) 121 av w Q := by
  refine ⟨by decide, ?_, fun R hR => hk R ?_⟩
  · rw [zzl, zc_X4_forget]; exact hl
  · rw [zzc, zzo, zzl, zzr, zc_X4_forget] at hR; exact hR
theorem zN_X4_guess : 2 = zzn 122 := by rw [zzn, zc_X4_guess]
theorem zO_X4_guess : 4 = zzo 122 := by rw [zzo, zc_X4_guess]
theorem st_X4_guess {zs : zzT} {d : Nat} {av : List Value} {w : zzW} {Q : zzQ} (hl : (lg_sl av).length ≤ 3) (hk : ∀ R : zzS, zzC zs (zzCL zs d) cX4_guess 4 3 (some .int) Q R → R 0 (lv_args 0 av) [] w) : zzCL zs (d + 1) 122 av w Q := by
  refine ⟨by decide, ?_, fun R hR => hk R ?_⟩
  · rw [zzl, zc_X4_guess]; exact hl
  · rw [zzc, zzo, zzl, zzr, zc_X4_guess] at hR; exact hR
theorem zN_X4_guessOf : 2 = zzn 123 := by rw [zzn, zc_X4_guessOf]
theorem zO_X4_guessOf : 4 = zzo 123 := by rw [zzo, zc_X4_guessOf]
theorem st_X4_guessOf {zs : zzT} {d : Nat} {av : List Value} {w : zzW} {Q : zzQ} (hl : (lg_sl av).length ≤ 7) (hk : ∀ R : zzS, zzC zs (zzCL zs d) cX4_guessOf 4 7 (some .int) Q R → R 0 (lv_args 0 av) [] w) : zzCL zs (d + 1) 123 av w Q := by
  refine ⟨by decide, ?_, fun R hR => hk R ?_⟩
  · rw [zzl, zc_X4_guessOf]; exact hl
  · rw [zzc, zzo, zzl, zzr, zc_X4_guessOf] at hR; exact hR
theorem zN_X4_isSo : 3 = zzn 124 := by rw [zzn, zc_X4_isSo]
theorem zO_X4_isSo : 4 = zzo 124 := by rw [zzo, zc_X4_isSo]
theorem st_X4_isSo {zs : zzT} {d : Nat} {av : List Value} {w : zzW} {Q : zzQ} (hl : (lg_sl av).length ≤ 8) (hk : ∀ R : zzS, zzC zs (zzCL zs d) cX4_isSo 4 8 (some .boolean) Q R → R 0 (lv_args 0 av) [] w) : zzCL zs (d + 1) 124 av w Q := by
  refine ⟨by decide, ?_, fun R hR => hk R ?_⟩
  · rw [zzl, zc_X4_isSo]; exact hl
  · rw [zzc, zzo, zzl, zzr, zc_X4_isSo] at hR; exact hR
theorem zN_X4_seasons : 3 = zzn 125 := by rw [zzn, zc_X4_seasons]
theorem zO_X4_seasons : 4 = zzo 125 := by rw [zzo, zc_X4_seasons]
theorem st_X4_seasons {zs : zzT} {d : Nat} {av : List Value} {w : zzW} {Q : zzQ} (hl : (lg_sl av).length ≤ 8) (hk : ∀ R : zzS, zzC zs (zzCL zs d) cX4_seasons 4 8 (some .int) Q R → R 0 (lv_args 0 av) [] w) : zzCL zs (d + 1) 125 av w Q := by
  refine ⟨by decide, ?_, fun R hR => hk R ?_⟩
  · rw [zzl, zc_X4_seasons]; exact hl
  · rw [zzc, zzo, zzl, zzr, zc_X4_seasons] at hR; exact hR
theorem zN_X4_draw : 1 = zzn 126 := by rw [zzn, zc_X4_draw]
theorem zO_X4_draw : 4 = zzo 126 := by rw [zzo, zc_X4_draw]
theorem st_X4_draw {zs : zzT} {d : Nat} {av : List Value} {w : zzW} {Q : zzQ} (hl : (lg_sl av).length ≤ 2) (hk : ∀ R : zzS, zzC zs (zzCL zs d) cX4_draw 4 2 (some .int) Q R → R 0 (lv_args 0 av) [] w) : zzCL zs (d + 1) 126 av w Q := by
  refine ⟨by decide, ?_, fun R hR => hk R ?_⟩
  · rw [zzl, zc_X4_draw]; exact hl
  · rw [zzc, zzo, zzl, zzr, zc_X4_draw] at hR; exact hR
theorem zN_X4_image : 0 = zzn 127 := by rw [zzn, zc_X4_image]
theorem zO_X4_image : 4 = zzo 127 := by rw [zzo, zc_X4_image]
theorem st_X4_image {zs : zzT} {d : Nat} {av : List Value} {w : zzW} {Q : zzQ} (hl : (lg_sl av).length ≤ 1) (hk : ∀ R : zzS, zzC zs (zzCL zs d) cX4_image 4 1 (some .int) Q R → R 0 (lv_args 0 av) [] w) : zzCL zs (d + 1) 127 av w Q := by
  refine ⟨by decide, ?_, fun R hR => hk R ?_⟩
  · rw [zzl, zc_X4_image]; exact hl
  · rw [zzc, zzo, zzl, zzr, zc_X4_image] at hR; exact hR
theorem zN_X4_restore : 0 = zzn 128 := by rw [zzn, zc_X4_restore]
theorem zO_X4_restore : 4 = zzo 128 := by rw [zzo, zc_X4_restore]
theorem st_X4_restore {zs : zzT} {d : Nat} {av : List Value} {w : zzW} {Q : zzQ} (hl : (lg_sl av).length ≤ 1) (hk : ∀ R : zzS, zzC zs (zzCL zs d) cX4_restore 4 1 (some .int) Q R → R 0 (lv_args 0 av) [] w) : zzCL zs (d + 1) 128 av w Q := by
  refine ⟨by decide, ?_, fun R hR => hk R ?_⟩
  · rw [zzl, zc_X4_restore]; exact hl
  · rw [zzc, zzo, zzl, zzr, zc_X4_restore] at hR; exact hR
theorem zN_X4_count : 1 = zzn 129 := by rw [zzn, zc_X4_count]
theorem zO_X4_count : 4 = zzo 129 := by rw [zzo, zc_X4_count]
theorem st_X4_count {zs : zzT} {d : Nat} {av : List Value} {w : zzW} {Q : zzQ} (hl : (lg_sl av).length ≤ 2) (hk : ∀ R : zzS, zzC zs (zzCL zs d) cX4_count 4 2 (some .int) Q R → R 0 (lv_args 0 av) [] w) : zzCL zs (d + 1) 129 av w Q := by
  refine ⟨by decide, ?_, fun R hR => hk R ?_⟩
  · rw [zzl, zc_X4_count]; exact hl
  · rw [zzc, zzo, zzl, zzr, zc_X4_count] at hR; exact hR
theorem zN_X4_countOf : 1 = zzn 130 := by rw [zzn, zc_X4_countOf]
theorem zO_X4_countOf : 4 = zzo 130 := by rw [zzo, zc_X4_countOf]
theorem st_X4_countOf {zs : zzT} {d : Nat} {av : List Value} {w : zzW} {Q : zzQ} (hl : (lg_sl av).length ≤ 2) (hk : ∀ R : zzS, zzC zs (zzCL zs d) cX4_countOf 4 2 (some .int) Q R → R 0 (lv_args 0 av) [] w) : zzCL zs (d + 1) 130 av w Q := by
  refine ⟨by decide, ?_, fun R hR => hk R ?_⟩
  · rw [zzl, zc_X4_countOf]; exact hl
  · rw [zzc, zzo, zzl, zzr, zc_X4_countOf] at hR; exact hR
theorem zN_X4_partyMany : 0 = zzn 131 := by rw [zzn, zc_X4_partyMany]
theorem zO_X4_partyMany : 4 = zzo 131 := by rw [zzo, zc_X4_partyMany]
theorem st_X4_partyMany {zs : zzT} {d : Nat} {av : List Value} {w : zzW} {Q : zzQ} (hl : (lg_sl av).length ≤ 3) (hk : ∀ R : zzS, zzC zs (zzCL zs d) cX4_partyMany 4 3 (some .int) Q R → R 0 (lv_args 0 av) [] w) : zzCL zs (d + 1) 131 av w Q := by
  refine ⟨by decide, ?_, fun R hR => hk R ?_⟩
  · rw [zzl, zc_X4_partyMany]; exact hl
  · rw [zzc, zzo, zzl, zzr, zc_X4_partyMany] at hR; exact hR
theorem zN_X4_digest : 0 = zzn 132 := by rw [zzn, zc_X4_digest]
theorem zO_X4_digest : 4 = zzo 132 := by rw [zzo, zc_X4_digest]
theorem st_X4_digest {zs : zzT} {d : Nat} {av : List Value} {w : zzW} {Q : zzQ} (hl : (lg_sl av).length ≤ 2) (hk : ∀ R : zzS, zzC zs (zzCL zs d) cX4_digest 4 2 (some .long) Q R → R 0 (lv_args 0 av) [] w) : zzCL zs (d + 1) 132 av w Q := by
  refine ⟨by decide, ?_, fun R hR => hk R ?_⟩
  · rw [zzl, zc_X4_digest]; exact hl
  · rw [zzc, zzo, zzl, zzr, zc_X4_digest] at hR; exact hR
theorem zN_X4_say : 1 = zzn 133 := by rw [zzn, zc_X4_say]
theorem zO_X4_say : 4 = zzo 133 := by rw [zzo, zc_X4_say]
theorem st_X4_say {zs : zzT} {d : Nat} {av : List Value} {w : zzW} {Q : zzQ} (hl : (lg_sl av).length ≤ 3) (hk : ∀ R : zzS, zzC zs (zzCL zs d) cX4_say 4 3 none Q R → R 0 (lv_args 0 av) [] w) : zzCL zs (d + 1) 133 av w Q := by
  refine ⟨by decide, ?_, fun R hR => hk R ?_⟩
  · rw [zzl, zc_X4_say]; exact hl
  · rw [zzc, zzo, zzl, zzr, zc_X4_say] at hR; exact hR
theorem zN_X4_sayIsland : 1 = zzn 134 := by rw [zzn, zc_X4_sayIsland]
theorem zO_X4_sayIsland : 4 = zzo 134 := by rw [zzo, zc_X4_sayIsland]
theorem st_X4_sayIsland {zs : zzT} {d : Nat} {av : List Value} {w : zzW} {Q : zzQ} (hl : (lg_sl av).length ≤ 3) (hk : ∀ R : zzS, zzC zs (zzCL zs d) cX4_sayIsland 4 3 none Q R → R 0 (lv_args 0 av) [] w) : zzCL zs (d + 1) 134 av w Q := by
  refine ⟨by decide, ?_, fun R hR => hk R ?_⟩
  · rw [zzl, zc_X4_sayIsland]; exact hl
  · rw [zzc, zzo, zzl, zzr, zc_X4_sayIsland] at hR; exact hR
theorem g_inv0 {zs : zzT} {CL : zzK} {cc : ByteArray} {o nL : Nat} {rt : Option FieldType} {Q : zzQ} {R : zzS} {pc : Nat} {ls : zzL} {st : List Value} {w : zzW} (h : zzC zs CL cc o nL rt Q R) {idx kd k b ci : Nat} {fs : List Value} (hd : decode cc pc = .ok (.invokevirtual idx, 3)) (hm : zzmt o idx = some (kd, k)) (hkd : kd < 2) (hn : 0 = zzn k) (hw : w b = some (.inr (ci, fs))) (hc : ci = zzo k) (hst : (st.map fun v => v.category).sum ≤ 8) (kk : CL k [.ref b] w (fun r w1 => R (pc + 3) ls (r ++ st) w1)) : R pc ls (.ref b :: st) w := z_invv h (As := []) hd hm hkd rfl hn hw hc hst kk
theorem g_sta0 {zs : zzT} {CL : zzK} {cc : ByteArray} {o nL : Nat} {rt : Option FieldType} {Q : zzQ} {R : zzS} {pc : Nat} {ls : zzL} {st : List Value} {w : zzW} (h : zzC zs CL cc o nL rt Q R) {idx k : Nat} (hd : decode cc pc = .ok (.invokestatic idx, 3)) (hm : zzmt o idx = some (2, k)) (hn : 0 = zzn k) (hst : (st.map fun v => v.category).sum ≤ 8) (kk : CL k [] w (fun r w1 => R (pc + 3) ls (r ++ st) w1)) : R pc ls (st) w := z_invs h (As := []) hd hm rfl hn hst kk
theorem g_inv1 {zs : zzT} {CL : zzK} {cc : ByteArray} {o nL : Nat} {rt : Option FieldType} {Q : zzQ} {R : zzS} {pc : Nat} {ls : zzL} {st : List Value} {w : zzW} (h : zzC zs CL cc o nL rt Q R) {idx kd k b ci : Nat} {fs : List Value} {v1 : Value} (hd : decode cc pc = .ok (.invokevirtual idx, 3)) (hm : zzmt o idx = some (kd, k)) (hkd : kd < 2) (hn : 1 = zzn k) (hw : w b = some (.inr (ci, fs))) (hc : ci = zzo k) (hst : (st.map fun v => v.category).sum ≤ 8) (kk : CL k [.ref b, v1] w (fun r w1 => R (pc + 3) ls (r ++ st) w1)) : R pc ls (v1 :: .ref b :: st) w := z_invv h (As := [v1]) hd hm hkd rfl hn hw hc hst kk
theorem g_sta1 {zs : zzT} {CL : zzK} {cc : ByteArray} {o nL : Nat} {rt : Option FieldType} {Q : zzQ} {R : zzS} {pc : Nat} {ls : zzL} {st : List Value} {w : zzW} (h : zzC zs CL cc o nL rt Q R) {idx k : Nat} {v1 : Value} (hd : decode cc pc = .ok (.invokestatic idx, 3)) (hm : zzmt o idx = some (2, k)) (hn : 1 = zzn k) (hst : (st.map fun v => v.category).sum ≤ 8) (kk : CL k [v1] w (fun r w1 => R (pc + 3) ls (r ++ st) w1)) : R pc ls (v1 :: st) w := z_invs h (As := [v1]) hd hm rfl hn hst kk
theorem g_inv2 {zs : zzT} {CL : zzK} {cc : ByteArray} {o nL : Nat} {rt : Option FieldType} {Q : zzQ} {R : zzS} {pc : Nat} {ls : zzL} {st : List Value} {w : zzW} (h : zzC zs CL cc o nL rt Q R) {idx kd k b ci : Nat} {fs : List Value} {v1 v2 : Value} (hd : decode cc pc = .ok (.invokevirtual idx, 3)) (hm : zzmt o idx = some (kd, k)) (hkd : kd < 2) (hn : 2 = zzn k) (hw : w b = some (.inr (ci, fs))) (hc : ci = zzo k) (hst : (st.map fun v => v.category).sum ≤ 8) (kk : CL k [.ref b, v1, v2] w (fun r w1 => R (pc + 3) ls (r ++ st) w1)) : R pc ls (v2 :: v1 :: .ref b :: st) w := z_invv h (As := [v1, v2]) hd hm hkd rfl hn hw hc hst kk
theorem g_sta2 {zs : zzT} {CL : zzK} {cc : ByteArray} {o nL : Nat} {rt : Option FieldType} {Q : zzQ} {R : zzS} {pc : Nat} {ls : zzL} {st : List Value} {w : zzW} (h : zzC zs CL cc o nL rt Q R) {idx k : Nat} {v1 v2 : Value} (hd : decode cc pc = .ok (.invokestatic idx, 3)) (hm : zzmt o idx = some (2, k)) (hn : 2 = zzn k) (hst : (st.map fun v => v.category).sum ≤ 8) (kk : CL k [v1, v2] w (fun r w1 => R (pc + 3) ls (r ++ st) w1)) : R pc ls (v2 :: v1 :: st) w := z_invs h (As := [v1, v2]) hd hm rfl hn hst kk
theorem g_inv3 {zs : zzT} {CL : zzK} {cc : ByteArray} {o nL : Nat} {rt : Option FieldType} {Q : zzQ} {R : zzS} {pc : Nat} {ls : zzL} {st : List Value} {w : zzW} (h : zzC zs CL cc o nL rt Q R) {idx kd k b ci : Nat} {fs : List Value} {v1 v2 v3 : Value} (hd : decode cc pc = .ok (.invokevirtual idx, 3)) (hm : zzmt o idx = some (kd, k)) (hkd : kd < 2) (hn : 3 = zzn k) (hw : w b = some (.inr (ci, fs))) (hc : ci = zzo k) (hst : (st.map fun v => v.category).sum ≤ 8) (kk : CL k [.ref b, v1, v2, v3] w (fun r w1 => R (pc + 3) ls (r ++ st) w1)) : R pc ls (v3 :: v2 :: v1 :: .ref b :: st) w := z_invv h (As := [v1, v2, v3]) hd hm hkd rfl hn hw hc hst kk
theorem g_sta3 {zs : zzT} {CL : zzK} {cc : ByteArray} {o nL : Nat} {rt : Option FieldType} {Q : zzQ} {R : zzS} {pc : Nat} {ls : zzL} {st : List Value} {w : zzW} (h : zzC zs CL cc o nL rt Q R) {idx k : Nat} {v1 v2 v3 : Value} (hd : decode cc pc = .ok (.invokestatic idx, 3)) (hm : zzmt o idx = some (2, k)) (hn : 3 = zzn k) (hst : (st.map fun v => v.category).sum ≤ 8) (kk : CL k [v1, v2, v3] w (fun r w1 => R (pc + 3) ls (r ++ st) w1)) : R pc ls (v3 :: v2 :: v1 :: st) w := z_invs h (As := [v1, v2, v3]) hd hm rfl hn hst kk
theorem g_inv4 {zs : zzT} {CL : zzK} {cc : ByteArray} {o nL : Nat} {rt : Option FieldType} {Q : zzQ} {R : zzS} {pc : Nat} {ls : zzL} {st : List Value} {w : zzW} (h : zzC zs CL cc o nL rt Q R) {idx kd k b ci : Nat} {fs : List Value} {v1 v2 v3 v4 : Value} (hd : decode cc pc = .ok (.invokevirtual idx, 3)) (hm : zzmt o idx = some (kd, k)) (hkd : kd < 2) (hn : 4 = zzn k) (hw : w b = some (.inr (ci, fs))) (hc : ci = zzo k) (hst : (st.map fun v => v.category).sum ≤ 8) (kk : CL k [.ref b, v1, v2, v3, v4] w (fun r w1 => R (pc + 3) ls (r ++ st) w1)) : R pc ls (v4 :: v3 :: v2 :: v1 :: .ref b :: st) w := z_invv h (As := [v1, v2, v3, v4]) hd hm hkd rfl hn hw hc hst kk
theorem g_sta4 {zs : zzT} {CL : zzK} {cc : ByteArray} {o nL : Nat} {rt : Option FieldType} {Q : zzQ} {R : zzS} {pc : Nat} {ls : zzL} {st : List Value} {w : zzW} (h : zzC zs CL cc o nL rt Q R) {idx k : Nat} {v1 v2 v3 v4 : Value} (hd : decode cc pc = .ok (.invokestatic idx, 3)) (hm : zzmt o idx = some (2, k)) (hn : 4 = zzn k) (hst : (st.map fun v => v.category).sum ≤ 8) (kk : CL k [v1, v2, v3, v4] w (fun r w1 => R (pc + 3) ls (r ++ st) w1)) : R pc ls (v4 :: v3 :: v2 :: v1 :: st) w := z_invs h (As := [v1, v2, v3, v4]) hd hm rfl hn hst kk
