/-! THE LAW, in the pure machine -/
abbrev lls (c : Nat) : zzL := [(0, .ref 1002), (1, .ref 0), (2, .ref 39), (3, .int (iI ((5 * c : Nat) : Int)))]
theorem lg_self (r : Int64) : lg_cmp r r = iI 0 := by
  unfold lg_cmp
  rw [if_neg (Int64.lt_irrefl : ¬ r < r), if_pos rfl]
  rfl
theorem and31 (z : Int) : ∃ k : Nat, k < 32 ∧ iI z &&& iI 31 = iI (k : Int) := by
  refine ⟨((BitVec.ofInt 32 z) &&& (BitVec.ofInt 32 31)).toNat, ?_, ?_⟩
  · rw [BitVec.toNat_and]
    have h1 : (BitVec.ofInt 32 31).toNat = 31 := by decide
    rw [h1]
    have := Nat.and_le_right (n := (BitVec.ofInt 32 z).toNat) (m := 31)
    omega
  · rw [iI_nat]
    apply Int32.toBitVec_inj.1
    show BitVec.ofInt 32 z &&& BitVec.ofInt 32 31 = BitVec.ofNat 32 ((BitVec.ofInt 32 z) &&& (BitVec.ofInt 32 31)).toNat
    rw [BitVec.ofNat_toNat, BitVec.setWidth_eq]
theorem la_0 {zs : zzT} {Q : zzQ} {R : zzS} {rt : Option FieldType} (hR : zzC zs (zzCL zs 20) cL_law 5 4 rt Q R) (hz : zsok zs) {L : Nat} {f : Nat → Int} (hs : zs 1002 = some (L, ir f)) (hL : L ≤ 2560) (hf : ∀ j, rg (f j)) {c : Nat} {g : Nat → Nat → Int} {hh : Int64} (h : Rel c g) (hi : 5 * c + 5 ≤ L) (kk : ∀ (g2 : Nat → Nat → Int) (hh2 : Int64), Rel (c + 1) g2 → R 866 (lls c) [] (wof g2 hh2)) : R 148 (lls c) [] (wof g hh) := by
  have hc : c < 512 := by omega
  obtain ⟨r, Mid, hr, hx, hm⟩ := op_letter (hh := hh) hz h hc (hf (5 * c + 1))
  refine z_aload_n hR dL_law_148 rfl rfl ?_
  refine z_aload_n hR dL_law_149 rfl rfl ?_
  refine z_iload_n hR dL_law_150 rfl rfl ?_
  refine g_iconst hR dL_law_151 ?_
  refine g_iadd hR (v := ((5 * c + 1 : Nat) : Int)) dL_law_152 (by omega) ?_
  refine g_taldN hR dL_law_153 hs rfl ?_
  refine g_inv1 hR dL_law_154 zm_5_13 (by decide) zN_X3_letter ((wk_0 _) _) zO_X3_letter (Nat.le_of_ble_eq_true rfl) ?_
  refine hx _ (fun g1 m1 => ?_)
  show R 157 _ (.int (iI r) :: []) _
  refine z_aload_n hR dL_law_157 rfl rfl ?_
  refine z_aload_n hR dL_law_158 rfl rfl ?_
  refine z_iload_n hR dL_law_159 rfl rfl ?_
  refine g_iconst hR dL_law_160 ?_
  refine g_iadd hR (v := ((5 * c + 1 : Nat) : Int)) dL_law_161 (by omega) ?_
  refine g_taldN hR dL_law_162 hs rfl ?_
  refine g_inv1 hR dL_law_163 zm_5_17 (by decide) zN_X4_letter ((wk_39 _) _) zO_X4_letter (Nat.le_of_ble_eq_true rfl) ?_
  refine hm g1 m1 _ (fun g2 r2 => ?_)
  show R 166 _ (.int (iI r) :: .int (iI r) :: []) _
  exact g_icmp_eq hR (tgt := 866) dL_law_166 (by decide) (fun _ => kk g2 hh r2) (fun q => absurd rfl q)
theorem la_1 {zs : zzT} {Q : zzQ} {R : zzS} {rt : Option FieldType} (hR : zzC zs (zzCL zs 20) cL_law 5 4 rt Q R) (hz : zsok zs) {L : Nat} {f : Nat → Int} (hs : zs 1002 = some (L, ir f)) (hL : L ≤ 2560) (hf : ∀ j, rg (f j)) {c : Nat} {g : Nat → Nat → Int} {hh : Int64} (h : Rel c g) (hi : 5 * c + 5 ≤ L) (kk : ∀ (g2 : Nat → Nat → Int) (hh2 : Int64), Rel (c + 1) g2 → R 866 (lls c) [] (wof g2 hh2)) : R 171 (lls c) [] (wof g hh) := by
  have hc : c < 512 := by omega
  obtain ⟨r, Mid, hr, hx, hm⟩ := op_blank (hh := hh) hz h hc
  refine z_aload_n hR dL_law_171 rfl rfl ?_
  refine g_inv0 hR dL_law_172 zm_5_18 (by decide) zN_X3_blank ((wk_0 _) _) zO_X3_blank (Nat.le_of_ble_eq_true rfl) ?_
  refine hx _ (fun g1 m1 => ?_)
  show R 175 _ (.int (iI r) :: []) _
  refine z_aload_n hR dL_law_175 rfl rfl ?_
  refine g_inv0 hR dL_law_176 zm_5_22 (by decide) zN_X4_blank ((wk_39 _) _) zO_X4_blank (Nat.le_of_ble_eq_true rfl) ?_
  refine hm g1 m1 _ (fun g2 r2 => ?_)
  show R 179 _ (.int (iI r) :: .int (iI r) :: []) _
  exact g_icmp_eq hR (tgt := 866) dL_law_179 (by decide) (fun _ => kk g2 hh r2) (fun q => absurd rfl q)
theorem la_2 {zs : zzT} {Q : zzQ} {R : zzS} {rt : Option FieldType} (hR : zzC zs (zzCL zs 20) cL_law 5 4 rt Q R) (hz : zsok zs) {L : Nat} {f : Nat → Int} (hs : zs 1002 = some (L, ir f)) (hL : L ≤ 2560) (hf : ∀ j, rg (f j)) {c : Nat} {g : Nat → Nat → Int} {hh : Int64} (h : Rel c g) (hi : 5 * c + 5 ≤ L) (kk : ∀ (g2 : Nat → Nat → Int) (hh2 : Int64), Rel (c + 1) g2 → R 866 (lls c) [] (wof g2 hh2)) : R 184 (lls c) [] (wof g hh) := by
  have hc : c < 512 := by omega
  obtain ⟨r, Mid, hr, hx, hm⟩ := op_fault (hh := hh) hz h hc
  refine z_aload_n hR dL_law_184 rfl rfl ?_
  refine g_inv0 hR dL_law_185 zm_5_23 (by decide) zN_X3_fault ((wk_0 _) _) zO_X3_fault (Nat.le_of_ble_eq_true rfl) ?_
  refine hx _ (fun g1 m1 => ?_)
  show R 188 _ (.int (iI r) :: []) _
  refine z_aload_n hR dL_law_188 rfl rfl ?_
  refine g_inv0 hR dL_law_189 zm_5_26 (by decide) zN_X4_fault ((wk_39 _) _) zO_X4_fault (Nat.le_of_ble_eq_true rfl) ?_
  refine hm g1 m1 _ (fun g2 r2 => ?_)
  show R 192 _ (.int (iI r) :: .int (iI r) :: []) _
  exact g_icmp_eq hR (tgt := 866) dL_law_192 (by decide) (fun _ => kk g2 hh r2) (fun q => absurd rfl q)
theorem la_3 {zs : zzT} {Q : zzQ} {R : zzS} {rt : Option FieldType} (hR : zzC zs (zzCL zs 20) cL_law 5 4 rt Q R) (hz : zsok zs) {L : Nat} {f : Nat → Int} (hs : zs 1002 = some (L, ir f)) (hL : L ≤ 2560) (hf : ∀ j, rg (f j)) {c : Nat} {g : Nat → Nat → Int} {hh : Int64} (h : Rel c g) (hi : 5 * c + 5 ≤ L) (kk : ∀ (g2 : Nat → Nat → Int) (hh2 : Int64), Rel (c + 1) g2 → R 866 (lls c) [] (wof g2 hh2)) : R 197 (lls c) [] (wof g hh) := by
  have hc : c < 512 := by omega
  obtain ⟨r, Mid, hr, hx, hm⟩ := op_sea (hh := hh) hz h hc
  refine z_aload_n hR dL_law_197 rfl rfl ?_
  refine g_inv0 hR dL_law_198 zm_5_27 (by decide) zN_X3_sea ((wk_0 _) _) zO_X3_sea (Nat.le_of_ble_eq_true rfl) ?_
  refine hx _ (fun g1 m1 => ?_)
  show R 201 _ (.int (iI r) :: []) _
  refine z_aload_n hR dL_law_201 rfl rfl ?_
  refine g_inv0 hR dL_law_202 zm_5_30 (by decide) zN_X4_sea ((wk_39 _) _) zO_X4_sea (Nat.le_of_ble_eq_true rfl) ?_
  refine hm g1 m1 _ (fun g2 r2 => ?_)
  show R 205 _ (.int (iI r) :: .int (iI r) :: []) _
  exact g_icmp_eq hR (tgt := 866) dL_law_205 (by decide) (fun _ => kk g2 hh r2) (fun q => absurd rfl q)
theorem la_4 {zs : zzT} {Q : zzQ} {R : zzS} {rt : Option FieldType} (hR : zzC zs (zzCL zs 20) cL_law 5 4 rt Q R) (hz : zsok zs) {L : Nat} {f : Nat → Int} (hs : zs 1002 = some (L, ir f)) (hL : L ≤ 2560) (hf : ∀ j, rg (f j)) {c : Nat} {g : Nat → Nat → Int} {hh : Int64} (h : Rel c g) (hi : 5 * c + 5 ≤ L) (kk : ∀ (g2 : Nat → Nat → Int) (hh2 : Int64), Rel (c + 1) g2 → R 866 (lls c) [] (wof g2 hh2)) : R 210 (lls c) [] (wof g hh) := by
  have hc : c < 512 := by omega
  obtain ⟨r, Mid, hr, hx, hm⟩ := op_place (hh := hh) hz h hc (hf (5 * c + 1)) (hf (5 * c + 2))
  refine z_aload_n hR dL_law_210 rfl rfl ?_
  refine z_aload_n hR dL_law_211 rfl rfl ?_
  refine z_iload_n hR dL_law_212 rfl rfl ?_
  refine g_iconst hR dL_law_213 ?_
  refine g_iadd hR (v := ((5 * c + 1 : Nat) : Int)) dL_law_214 (by omega) ?_
  refine g_taldN hR dL_law_215 hs rfl ?_
  refine z_aload_n hR dL_law_216 rfl rfl ?_
  refine z_iload_n hR dL_law_217 rfl rfl ?_
  refine g_iconst hR dL_law_218 ?_
  refine g_iadd hR (v := ((5 * c + 2 : Nat) : Int)) dL_law_219 (by omega) ?_
  refine g_taldN hR dL_law_220 hs rfl ?_
  refine g_inv2 hR dL_law_221 zm_5_31 (by decide) zN_X3_place ((wk_0 _) _) zO_X3_place (Nat.le_of_ble_eq_true rfl) ?_
  refine hx _ (fun g1 m1 => ?_)
  show R 224 _ (.int (iI r) :: []) _
  refine z_aload_n hR dL_law_224 rfl rfl ?_
  refine z_aload_n hR dL_law_225 rfl rfl ?_
  refine z_iload_n hR dL_law_226 rfl rfl ?_
  refine g_iconst hR dL_law_227 ?_
  refine g_iadd hR (v := ((5 * c + 1 : Nat) : Int)) dL_law_228 (by omega) ?_
  refine g_taldN hR dL_law_229 hs rfl ?_
  refine z_aload_n hR dL_law_230 rfl rfl ?_
  refine z_iload_n hR dL_law_231 rfl rfl ?_
  refine g_iconst hR dL_law_232 ?_
  refine g_iadd hR (v := ((5 * c + 2 : Nat) : Int)) dL_law_233 (by omega) ?_
  refine g_taldN hR dL_law_234 hs rfl ?_
  refine g_inv2 hR dL_law_235 zm_5_35 (by decide) zN_X4_place ((wk_39 _) _) zO_X4_place (Nat.le_of_ble_eq_true rfl) ?_
  refine hm g1 m1 _ (fun g2 r2 => ?_)
  show R 238 _ (.int (iI r) :: .int (iI r) :: []) _
  exact g_icmp_eq hR (tgt := 866) dL_law_238 (by decide) (fun _ => kk g2 hh r2) (fun q => absurd rfl q)
theorem la_5 {zs : zzT} {Q : zzQ} {R : zzS} {rt : Option FieldType} (hR : zzC zs (zzCL zs 20) cL_law 5 4 rt Q R) (hz : zsok zs) {L : Nat} {f : Nat → Int} (hs : zs 1002 = some (L, ir f)) (hL : L ≤ 2560) (hf : ∀ j, rg (f j)) {c : Nat} {g : Nat → Nat → Int} {hh : Int64} (h : Rel c g) (hi : 5 * c + 5 ≤ L) (kk : ∀ (g2 : Nat → Nat → Int) (hh2 : Int64), Rel (c + 1) g2 → R 866 (lls c) [] (wof g2 hh2)) : R 243 (lls c) [] (wof g hh) := by
  have hc : c < 512 := by omega
  obtain ⟨r, Mid, hr, hx, hm⟩ := op_wind (hh := hh) hz h hc (hf (5 * c + 1))
  refine z_aload_n hR dL_law_243 rfl rfl ?_
  refine z_aload_n hR dL_law_244 rfl rfl ?_
  refine z_iload_n hR dL_law_245 rfl rfl ?_
  refine g_iconst hR dL_law_246 ?_
  refine g_iadd hR (v := ((5 * c + 1 : Nat) : Int)) dL_law_247 (by omega) ?_
  refine g_taldN hR dL_law_248 hs rfl ?_
  refine g_inv1 hR dL_law_249 zm_5_36 (by decide) zN_X3_wind ((wk_0 _) _) zO_X3_wind (Nat.le_of_ble_eq_true rfl) ?_
  refine hx _ (fun g1 m1 => ?_)
  show R 252 _ (.int (iI r) :: []) _
  refine z_aload_n hR dL_law_252 rfl rfl ?_
  refine z_aload_n hR dL_law_253 rfl rfl ?_
  refine z_iload_n hR dL_law_254 rfl rfl ?_
  refine g_iconst hR dL_law_255 ?_
  refine g_iadd hR (v := ((5 * c + 1 : Nat) : Int)) dL_law_256 (by omega) ?_
  refine g_taldN hR dL_law_257 hs rfl ?_
  refine g_inv1 hR dL_law_258 zm_5_39 (by decide) zN_X4_wind ((wk_39 _) _) zO_X4_wind (Nat.le_of_ble_eq_true rfl) ?_
  refine hm g1 m1 _ (fun g2 r2 => ?_)
  show R 261 _ (.int (iI r) :: .int (iI r) :: []) _
  exact g_icmp_eq hR (tgt := 866) dL_law_261 (by decide) (fun _ => kk g2 hh r2) (fun q => absurd rfl q)
theorem la_6 {zs : zzT} {Q : zzQ} {R : zzS} {rt : Option FieldType} (hR : zzC zs (zzCL zs 20) cL_law 5 4 rt Q R) (hz : zsok zs) {L : Nat} {f : Nat → Int} (hs : zs 1002 = some (L, ir f)) (hL : L ≤ 2560) (hf : ∀ j, rg (f j)) {c : Nat} {g : Nat → Nat → Int} {hh : Int64} (h : Rel c g) (hi : 5 * c + 5 ≤ L) (kk : ∀ (g2 : Nat → Nat → Int) (hh2 : Int64), Rel (c + 1) g2 → R 866 (lls c) [] (wof g2 hh2)) : R 266 (lls c) [] (wof g hh) := by
  have hc : c < 512 := by omega
  obtain ⟨r, Mid, hr, hx, hm⟩ := op_island (hh := hh) hz h hc (hf (5 * c + 1)) (hf (5 * c + 2)) (hf (5 * c + 3))
  refine z_aload_n hR dL_law_266 rfl rfl ?_
  refine z_aload_n hR dL_law_267 rfl rfl ?_
  refine z_iload_n hR dL_law_268 rfl rfl ?_
  refine g_iconst hR dL_law_269 ?_
  refine g_iadd hR (v := ((5 * c + 1 : Nat) : Int)) dL_law_270 (by omega) ?_
  refine g_taldN hR dL_law_271 hs rfl ?_
  refine z_aload_n hR dL_law_272 rfl rfl ?_
  refine z_iload_n hR dL_law_273 rfl rfl ?_
  refine g_iconst hR dL_law_274 ?_
  refine g_iadd hR (v := ((5 * c + 2 : Nat) : Int)) dL_law_275 (by omega) ?_
  refine g_taldN hR dL_law_276 hs rfl ?_
  refine z_aload_n hR dL_law_277 rfl rfl ?_
  refine z_iload_n hR dL_law_278 rfl rfl ?_
  refine g_iconst hR dL_law_279 ?_
  refine g_iadd hR (v := ((5 * c + 3 : Nat) : Int)) dL_law_280 (by omega) ?_
  refine g_taldN hR dL_law_281 hs rfl ?_
  refine g_inv3 hR dL_law_282 zm_5_40 (by decide) zN_X3_island ((wk_0 _) _) zO_X3_island (Nat.le_of_ble_eq_true rfl) ?_
  refine hx _ (fun g1 m1 => ?_)
  show R 285 _ (.int (iI r) :: []) _
  refine z_aload_n hR dL_law_285 rfl rfl ?_
  refine z_aload_n hR dL_law_286 rfl rfl ?_
  refine z_iload_n hR dL_law_287 rfl rfl ?_
  refine g_iconst hR dL_law_288 ?_
  refine g_iadd hR (v := ((5 * c + 1 : Nat) : Int)) dL_law_289 (by omega) ?_
  refine g_taldN hR dL_law_290 hs rfl ?_
  refine z_aload_n hR dL_law_291 rfl rfl ?_
  refine z_iload_n hR dL_law_292 rfl rfl ?_
  refine g_iconst hR dL_law_293 ?_
  refine g_iadd hR (v := ((5 * c + 2 : Nat) : Int)) dL_law_294 (by omega) ?_
  refine g_taldN hR dL_law_295 hs rfl ?_
  refine z_aload_n hR dL_law_296 rfl rfl ?_
  refine z_iload_n hR dL_law_297 rfl rfl ?_
  refine g_iconst hR dL_law_298 ?_
  refine g_iadd hR (v := ((5 * c + 3 : Nat) : Int)) dL_law_299 (by omega) ?_
  refine g_taldN hR dL_law_300 hs rfl ?_
  refine g_inv3 hR dL_law_301 zm_5_44 (by decide) zN_X4_island ((wk_39 _) _) zO_X4_island (Nat.le_of_ble_eq_true rfl) ?_
  refine hm g1 m1 _ (fun g2 r2 => ?_)
  show R 304 _ (.int (iI r) :: .int (iI r) :: []) _
  exact g_icmp_eq hR (tgt := 866) dL_law_304 (by decide) (fun _ => kk g2 hh r2) (fun q => absurd rfl q)
theorem la_7 {zs : zzT} {Q : zzQ} {R : zzS} {rt : Option FieldType} (hR : zzC zs (zzCL zs 20) cL_law 5 4 rt Q R) (hz : zsok zs) {L : Nat} {f : Nat → Int} (hs : zs 1002 = some (L, ir f)) (hL : L ≤ 2560) (hf : ∀ j, rg (f j)) {c : Nat} {g : Nat → Nat → Int} {hh : Int64} (h : Rel c g) (hi : 5 * c + 5 ≤ L) (kk : ∀ (g2 : Nat → Nat → Int) (hh2 : Int64), Rel (c + 1) g2 → R 866 (lls c) [] (wof g2 hh2)) : R 309 (lls c) [] (wof g hh) := by
  have hc : c < 512 := by omega
  obtain ⟨r, Mid, hr, hx, hm⟩ := op_about (hh := hh) hz h hc (hf (5 * c + 1)) (hf (5 * c + 2))
  refine z_aload_n hR dL_law_309 rfl rfl ?_
  refine z_aload_n hR dL_law_310 rfl rfl ?_
  refine z_iload_n hR dL_law_311 rfl rfl ?_
  refine g_iconst hR dL_law_312 ?_
  refine g_iadd hR (v := ((5 * c + 1 : Nat) : Int)) dL_law_313 (by omega) ?_
  refine g_taldN hR dL_law_314 hs rfl ?_
  refine z_aload_n hR dL_law_315 rfl rfl ?_
  refine z_iload_n hR dL_law_316 rfl rfl ?_
  refine g_iconst hR dL_law_317 ?_
  refine g_iadd hR (v := ((5 * c + 2 : Nat) : Int)) dL_law_318 (by omega) ?_
  refine g_taldN hR dL_law_319 hs rfl ?_
  refine g_inv2 hR dL_law_320 zm_5_45 (by decide) zN_X3_about ((wk_0 _) _) zO_X3_about (Nat.le_of_ble_eq_true rfl) ?_
  refine hx _ (fun g1 m1 => ?_)
  show R 323 _ (.int (iI r) :: []) _
  refine z_aload_n hR dL_law_323 rfl rfl ?_
  refine z_aload_n hR dL_law_324 rfl rfl ?_
  refine z_iload_n hR dL_law_325 rfl rfl ?_
  refine g_iconst hR dL_law_326 ?_
  refine g_iadd hR (v := ((5 * c + 1 : Nat) : Int)) dL_law_327 (by omega) ?_
  refine g_taldN hR dL_law_328 hs rfl ?_
  refine z_aload_n hR dL_law_329 rfl rfl ?_
  refine z_iload_n hR dL_law_330 rfl rfl ?_
  refine g_iconst hR dL_law_331 ?_
  refine g_iadd hR (v := ((5 * c + 2 : Nat) : Int)) dL_law_332 (by omega) ?_
  refine g_taldN hR dL_law_333 hs rfl ?_
  refine g_inv2 hR dL_law_334 zm_5_48 (by decide) zN_X4_about ((wk_39 _) _) zO_X4_about (Nat.le_of_ble_eq_true rfl) ?_
  refine hm g1 m1 _ (fun g2 r2 => ?_)
  show R 337 _ (.int (iI r) :: .int (iI r) :: []) _
  exact g_icmp_eq hR (tgt := 866) dL_law_337 (by decide) (fun _ => kk g2 hh r2) (fun q => absurd rfl q)
theorem la_8 {zs : zzT} {Q : zzQ} {R : zzS} {rt : Option FieldType} (hR : zzC zs (zzCL zs 20) cL_law 5 4 rt Q R) (hz : zsok zs) {L : Nat} {f : Nat → Int} (hs : zs 1002 = some (L, ir f)) (hL : L ≤ 2560) (hf : ∀ j, rg (f j)) {c : Nat} {g : Nat → Nat → Int} {hh : Int64} (h : Rel c g) (hi : 5 * c + 5 ≤ L) (kk : ∀ (g2 : Nat → Nat → Int) (hh2 : Int64), Rel (c + 1) g2 → R 866 (lls c) [] (wof g2 hh2)) : R 342 (lls c) [] (wof g hh) := by
  have hc : c < 512 := by omega
  obtain ⟨r, Mid, hr, hx, hm⟩ := op_as (hh := hh) hz h hc (hf (5 * c + 1)) (hf (5 * c + 2))
  refine z_aload_n hR dL_law_342 rfl rfl ?_
  refine z_aload_n hR dL_law_343 rfl rfl ?_
  refine z_iload_n hR dL_law_344 rfl rfl ?_
  refine g_iconst hR dL_law_345 ?_
  refine g_iadd hR (v := ((5 * c + 1 : Nat) : Int)) dL_law_346 (by omega) ?_
  refine g_taldN hR dL_law_347 hs rfl ?_
  refine z_aload_n hR dL_law_348 rfl rfl ?_
  refine z_iload_n hR dL_law_349 rfl rfl ?_
  refine g_iconst hR dL_law_350 ?_
  refine g_iadd hR (v := ((5 * c + 2 : Nat) : Int)) dL_law_351 (by omega) ?_
  refine g_taldN hR dL_law_352 hs rfl ?_
  refine g_inv2 hR dL_law_353 zm_5_49 (by decide) zN_X3_as ((wk_0 _) _) zO_X3_as (Nat.le_of_ble_eq_true rfl) ?_
  refine hx _ (fun g1 m1 => ?_)
  show R 356 _ (.int (iI r) :: []) _
  refine z_aload_n hR dL_law_356 rfl rfl ?_
  refine z_aload_n hR dL_law_357 rfl rfl ?_
  refine z_iload_n hR dL_law_358 rfl rfl ?_
  refine g_iconst hR dL_law_359 ?_
  refine g_iadd hR (v := ((5 * c + 1 : Nat) : Int)) dL_law_360 (by omega) ?_
  refine g_taldN hR dL_law_361 hs rfl ?_
  refine z_aload_n hR dL_law_362 rfl rfl ?_
  refine z_iload_n hR dL_law_363 rfl rfl ?_
  refine g_iconst hR dL_law_364 ?_
  refine g_iadd hR (v := ((5 * c + 2 : Nat) : Int)) dL_law_365 (by omega) ?_
  refine g_taldN hR dL_law_366 hs rfl ?_
  refine g_inv2 hR dL_law_367 zm_5_52 (by decide) zN_X4_as ((wk_39 _) _) zO_X4_as (Nat.le_of_ble_eq_true rfl) ?_
  refine hm g1 m1 _ (fun g2 r2 => ?_)
  show R 370 _ (.int (iI r) :: .int (iI r) :: []) _
  exact g_icmp_eq hR (tgt := 866) dL_law_370 (by decide) (fun _ => kk g2 hh r2) (fun q => absurd rfl q)
theorem la_9 {zs : zzT} {Q : zzQ} {R : zzS} {rt : Option FieldType} (hR : zzC zs (zzCL zs 20) cL_law 5 4 rt Q R) (hz : zsok zs) {L : Nat} {f : Nat → Int} (hs : zs 1002 = some (L, ir f)) (hL : L ≤ 2560) (hf : ∀ j, rg (f j)) {c : Nat} {g : Nat → Nat → Int} {hh : Int64} (h : Rel c g) (hi : 5 * c + 5 ≤ L) (kk : ∀ (g2 : Nat → Nat → Int) (hh2 : Int64), Rel (c + 1) g2 → R 866 (lls c) [] (wof g2 hh2)) : R 375 (lls c) [] (wof g hh) := by
  have hc : c < 512 := by omega
  by_cases hb : f (5 * c + 2) = 0
  · obtain ⟨r, Mid, hr, hx, hm⟩ := op_anchor (hh := hh) (b := false) hz h hc (hf (5 * c + 1))
    refine z_aload_n hR dL_law_375 rfl rfl ?_
    refine z_aload_n hR dL_law_376 rfl rfl ?_
    refine z_iload_n hR dL_law_377 rfl rfl ?_
    refine g_iconst hR dL_law_378 ?_
    refine g_iadd hR (v := ((5 * c + 1 : Nat) : Int)) dL_law_379 (by omega) ?_
    refine g_taldN hR dL_law_380 hs rfl ?_
    refine z_aload_n hR dL_law_381 rfl rfl ?_
    refine z_iload_n hR dL_law_382 rfl rfl ?_
    refine g_iconst hR dL_law_383 ?_
    refine g_iadd hR (v := ((5 * c + 2 : Nat) : Int)) dL_law_384 (by omega) ?_
    refine g_taldN hR dL_law_385 hs rfl ?_
    refine g_if_eq hR (tgt := 393) dL_law_386 (by decide) (fun _ => ?_) (fun q => absurd hb q) (hf _)
    refine g_iconst hR dL_law_393 ?_
    refine g_inv2 hR dL_law_394 zm_5_53 (by decide) zN_X3_anchor ((wk_0 _) _) zO_X3_anchor (Nat.le_of_ble_eq_true rfl) ?_
    refine hx _ (fun g1 m1 => ?_)
    show R 397 _ (.int (iI r) :: []) _
    refine z_aload_n hR dL_law_397 rfl rfl ?_
    refine z_aload_n hR dL_law_398 rfl rfl ?_
    refine z_iload_n hR dL_law_399 rfl rfl ?_
    refine g_iconst hR dL_law_400 ?_
    refine g_iadd hR (v := ((5 * c + 1 : Nat) : Int)) dL_law_401 (by omega) ?_
    refine g_taldN hR dL_law_402 hs rfl ?_
    refine z_aload_n hR dL_law_403 rfl rfl ?_
    refine z_iload_n hR dL_law_404 rfl rfl ?_
    refine g_iconst hR dL_law_405 ?_
    refine g_iadd hR (v := ((5 * c + 2 : Nat) : Int)) dL_law_406 (by omega) ?_
    refine g_taldN hR dL_law_407 hs rfl ?_
    refine g_if_eq hR (tgt := 415) dL_law_408 (by decide) (fun _ => ?_) (fun q => absurd hb q) (hf _)
    refine g_iconst hR dL_law_415 ?_
    refine g_inv2 hR dL_law_416 zm_5_57 (by decide) zN_X4_anchor ((wk_39 _) _) zO_X4_anchor (Nat.le_of_ble_eq_true rfl) ?_
    refine hm g1 m1 _ (fun g2 r2 => ?_)
    show R 419 _ (.int (iI r) :: .int (iI r) :: []) _
    exact g_icmp_eq hR (tgt := 866) dL_law_419 (by decide) (fun _ => kk g2 hh r2) (fun q => absurd rfl q)
  · obtain ⟨r, Mid, hr, hx, hm⟩ := op_anchor (hh := hh) (b := true) hz h hc (hf (5 * c + 1))
    refine z_aload_n hR dL_law_375 rfl rfl ?_
    refine z_aload_n hR dL_law_376 rfl rfl ?_
    refine z_iload_n hR dL_law_377 rfl rfl ?_
    refine g_iconst hR dL_law_378 ?_
    refine g_iadd hR (v := ((5 * c + 1 : Nat) : Int)) dL_law_379 (by omega) ?_
    refine g_taldN hR dL_law_380 hs rfl ?_
    refine z_aload_n hR dL_law_381 rfl rfl ?_
    refine z_iload_n hR dL_law_382 rfl rfl ?_
    refine g_iconst hR dL_law_383 ?_
    refine g_iadd hR (v := ((5 * c + 2 : Nat) : Int)) dL_law_384 (by omega) ?_
    refine g_taldN hR dL_law_385 hs rfl ?_
    refine g_if_eq hR (tgt := 393) dL_law_386 (by decide) (fun q => absurd q hb) (fun _ => ?_) (hf _)
    refine g_iconst hR dL_law_389 ?_
    refine z_goto hR (tgt := 394) dL_law_390 (by decide) ?_
    refine g_inv2 hR dL_law_394 zm_5_53 (by decide) zN_X3_anchor ((wk_0 _) _) zO_X3_anchor (Nat.le_of_ble_eq_true rfl) ?_
    refine hx _ (fun g1 m1 => ?_)
    show R 397 _ (.int (iI r) :: []) _
    refine z_aload_n hR dL_law_397 rfl rfl ?_
    refine z_aload_n hR dL_law_398 rfl rfl ?_
    refine z_iload_n hR dL_law_399 rfl rfl ?_
    refine g_iconst hR dL_law_400 ?_
    refine g_iadd hR (v := ((5 * c + 1 : Nat) : Int)) dL_law_401 (by omega) ?_
    refine g_taldN hR dL_law_402 hs rfl ?_
    refine z_aload_n hR dL_law_403 rfl rfl ?_
    refine z_iload_n hR dL_law_404 rfl rfl ?_
    refine g_iconst hR dL_law_405 ?_
    refine g_iadd hR (v := ((5 * c + 2 : Nat) : Int)) dL_law_406 (by omega) ?_
    refine g_taldN hR dL_law_407 hs rfl ?_
    refine g_if_eq hR (tgt := 415) dL_law_408 (by decide) (fun q => absurd q hb) (fun _ => ?_) (hf _)
    refine g_iconst hR dL_law_411 ?_
    refine z_goto hR (tgt := 416) dL_law_412 (by decide) ?_
    refine g_inv2 hR dL_law_416 zm_5_57 (by decide) zN_X4_anchor ((wk_39 _) _) zO_X4_anchor (Nat.le_of_ble_eq_true rfl) ?_
    refine hm g1 m1 _ (fun g2 r2 => ?_)
    show R 419 _ (.int (iI r) :: .int (iI r) :: []) _
    exact g_icmp_eq hR (tgt := 866) dL_law_419 (by decide) (fun _ => kk g2 hh r2) (fun q => absurd rfl q)
theorem la_10 {zs : zzT} {Q : zzQ} {R : zzS} {rt : Option FieldType} (hR : zzC zs (zzCL zs 20) cL_law 5 4 rt Q R) (hz : zsok zs) {L : Nat} {f : Nat → Int} (hs : zs 1002 = some (L, ir f)) (hL : L ≤ 2560) (hf : ∀ j, rg (f j)) {c : Nat} {g : Nat → Nat → Int} {hh : Int64} (h : Rel c g) (hi : 5 * c + 5 ≤ L) (kk : ∀ (g2 : Nat → Nat → Int) (hh2 : Int64), Rel (c + 1) g2 → R 866 (lls c) [] (wof g2 hh2)) : R 424 (lls c) [] (wof g hh) := by
  have hc : c < 512 := by omega
  obtain ⟨r, Mid, hr, hx, hm⟩ := op_wed (hh := hh) hz h hc (hf (5 * c + 1)) (hf (5 * c + 2))
  refine z_aload_n hR dL_law_424 rfl rfl ?_
  refine z_aload_n hR dL_law_425 rfl rfl ?_
  refine z_iload_n hR dL_law_426 rfl rfl ?_
  refine g_iconst hR dL_law_427 ?_
  refine g_iadd hR (v := ((5 * c + 1 : Nat) : Int)) dL_law_428 (by omega) ?_
  refine g_taldN hR dL_law_429 hs rfl ?_
  refine z_aload_n hR dL_law_430 rfl rfl ?_
  refine z_iload_n hR dL_law_431 rfl rfl ?_
  refine g_iconst hR dL_law_432 ?_
  refine g_iadd hR (v := ((5 * c + 2 : Nat) : Int)) dL_law_433 (by omega) ?_
  refine g_taldN hR dL_law_434 hs rfl ?_
  refine g_inv2 hR dL_law_435 zm_5_58 (by decide) zN_X3_wed ((wk_0 _) _) zO_X3_wed (Nat.le_of_ble_eq_true rfl) ?_
  refine hx _ (fun g1 m1 => ?_)
  show R 438 _ (.int (iI r) :: []) _
  refine z_aload_n hR dL_law_438 rfl rfl ?_
  refine z_aload_n hR dL_law_439 rfl rfl ?_
  refine z_iload_n hR dL_law_440 rfl rfl ?_
  refine g_iconst hR dL_law_441 ?_
  refine g_iadd hR (v := ((5 * c + 1 : Nat) : Int)) dL_law_442 (by omega) ?_
  refine g_taldN hR dL_law_443 hs rfl ?_
  refine z_aload_n hR dL_law_444 rfl rfl ?_
  refine z_iload_n hR dL_law_445 rfl rfl ?_
  refine g_iconst hR dL_law_446 ?_
  refine g_iadd hR (v := ((5 * c + 2 : Nat) : Int)) dL_law_447 (by omega) ?_
  refine g_taldN hR dL_law_448 hs rfl ?_
  refine g_inv2 hR dL_law_449 zm_5_61 (by decide) zN_X4_wed ((wk_39 _) _) zO_X4_wed (Nat.le_of_ble_eq_true rfl) ?_
  refine hm g1 m1 _ (fun g2 r2 => ?_)
  show R 452 _ (.int (iI r) :: .int (iI r) :: []) _
  exact g_icmp_eq hR (tgt := 866) dL_law_452 (by decide) (fun _ => kk g2 hh r2) (fun q => absurd rfl q)
theorem la_11 {zs : zzT} {Q : zzQ} {R : zzS} {rt : Option FieldType} (hR : zzC zs (zzCL zs 20) cL_law 5 4 rt Q R) (hz : zsok zs) {L : Nat} {f : Nat → Int} (hs : zs 1002 = some (L, ir f)) (hL : L ≤ 2560) (hf : ∀ j, rg (f j)) {c : Nat} {g : Nat → Nat → Int} {hh : Int64} (h : Rel c g) (hi : 5 * c + 5 ≤ L) (kk : ∀ (g2 : Nat → Nat → Int) (hh2 : Int64), Rel (c + 1) g2 → R 866 (lls c) [] (wof g2 hh2)) : R 457 (lls c) [] (wof g hh) := by
  have hc : c < 512 := by omega
  obtain ⟨r, Mid, hr, hx, hm⟩ := op_axe (hh := hh) hz h hc (hf (5 * c + 1)) (hf (5 * c + 2))
  refine z_aload_n hR dL_law_457 rfl rfl ?_
  refine z_aload_n hR dL_law_458 rfl rfl ?_
  refine z_iload_n hR dL_law_459 rfl rfl ?_
  refine g_iconst hR dL_law_460 ?_
  refine g_iadd hR (v := ((5 * c + 1 : Nat) : Int)) dL_law_461 (by omega) ?_
  refine g_taldN hR dL_law_462 hs rfl ?_
  refine z_aload_n hR dL_law_463 rfl rfl ?_
  refine z_iload_n hR dL_law_464 rfl rfl ?_
  refine g_iconst hR dL_law_465 ?_
  refine g_iadd hR (v := ((5 * c + 2 : Nat) : Int)) dL_law_466 (by omega) ?_
  refine g_taldN hR dL_law_467 hs rfl ?_
  refine g_inv2 hR dL_law_468 zm_5_62 (by decide) zN_X3_axe ((wk_0 _) _) zO_X3_axe (Nat.le_of_ble_eq_true rfl) ?_
  refine hx _ (fun g1 m1 => ?_)
  show R 471 _ (.int (iI r) :: []) _
  refine z_aload_n hR dL_law_471 rfl rfl ?_
  refine z_aload_n hR dL_law_472 rfl rfl ?_
  refine z_iload_n hR dL_law_473 rfl rfl ?_
  refine g_iconst hR dL_law_474 ?_
  refine g_iadd hR (v := ((5 * c + 1 : Nat) : Int)) dL_law_475 (by omega) ?_
  refine g_taldN hR dL_law_476 hs rfl ?_
  refine z_aload_n hR dL_law_477 rfl rfl ?_
  refine z_iload_n hR dL_law_478 rfl rfl ?_
  refine g_iconst hR dL_law_479 ?_
  refine g_iadd hR (v := ((5 * c + 2 : Nat) : Int)) dL_law_480 (by omega) ?_
  refine g_taldN hR dL_law_481 hs rfl ?_
  refine g_inv2 hR dL_law_482 zm_5_65 (by decide) zN_X4_axe ((wk_39 _) _) zO_X4_axe (Nat.le_of_ble_eq_true rfl) ?_
  refine hm g1 m1 _ (fun g2 r2 => ?_)
  show R 485 _ (.int (iI r) :: .int (iI r) :: []) _
  exact g_icmp_eq hR (tgt := 866) dL_law_485 (by decide) (fun _ => kk g2 hh r2) (fun q => absurd rfl q)
theorem la_12 {zs : zzT} {Q : zzQ} {R : zzS} {rt : Option FieldType} (hR : zzC zs (zzCL zs 20) cL_law 5 4 rt Q R) (hz : zsok zs) {L : Nat} {f : Nat → Int} (hs : zs 1002 = some (L, ir f)) (hL : L ≤ 2560) (hf : ∀ j, rg (f j)) {c : Nat} {g : Nat → Nat → Int} {hh : Int64} (h : Rel c g) (hi : 5 * c + 5 ≤ L) (kk : ∀ (g2 : Nat → Nat → Int) (hh2 : Int64), Rel (c + 1) g2 → R 866 (lls c) [] (wof g2 hh2)) : R 490 (lls c) [] (wof g hh) := by
  have hc : c < 512 := by omega
  obtain ⟨r, Mid, hr, hx, hm⟩ := op_day (hh := hh) hz h hc
  refine z_aload_n hR dL_law_490 rfl rfl ?_
  refine g_inv0 hR dL_law_491 zm_5_66 (by decide) zN_X3_day ((wk_0 _) _) zO_X3_day (Nat.le_of_ble_eq_true rfl) ?_
  refine hx _ (fun g1 m1 => ?_)
  show R 494 _ (.int (iI r) :: []) _
  refine z_aload_n hR dL_law_494 rfl rfl ?_
  refine g_inv0 hR dL_law_495 zm_5_69 (by decide) zN_X4_day ((wk_39 _) _) zO_X4_day (Nat.le_of_ble_eq_true rfl) ?_
  refine hm g1 m1 _ (fun g2 r2 => ?_)
  show R 498 _ (.int (iI r) :: .int (iI r) :: []) _
  exact g_icmp_eq hR (tgt := 866) dL_law_498 (by decide) (fun _ => kk g2 hh r2) (fun q => absurd rfl q)
theorem la_13 {zs : zzT} {Q : zzQ} {R : zzS} {rt : Option FieldType} (hR : zzC zs (zzCL zs 20) cL_law 5 4 rt Q R) (hz : zsok zs) {L : Nat} {f : Nat → Int} (hs : zs 1002 = some (L, ir f)) (hL : L ≤ 2560) (hf : ∀ j, rg (f j)) {c : Nat} {g : Nat → Nat → Int} {hh : Int64} (h : Rel c g) (hi : 5 * c + 5 ≤ L) (kk : ∀ (g2 : Nat → Nat → Int) (hh2 : Int64), Rel (c + 1) g2 → R 866 (lls c) [] (wof g2 hh2)) : R 503 (lls c) [] (wof g hh) := by
  have hc : c < 512 := by omega
  obtain ⟨r, Mid, hr, hx, hm⟩ := op_meet (hh := hh) hz h hc (hf (5 * c + 1)) (hf (5 * c + 2))
  refine z_aload_n hR dL_law_503 rfl rfl ?_
  refine z_aload_n hR dL_law_504 rfl rfl ?_
  refine z_iload_n hR dL_law_505 rfl rfl ?_
  refine g_iconst hR dL_law_506 ?_
  refine g_iadd hR (v := ((5 * c + 1 : Nat) : Int)) dL_law_507 (by omega) ?_
  refine g_taldN hR dL_law_508 hs rfl ?_
  refine z_aload_n hR dL_law_509 rfl rfl ?_
  refine z_iload_n hR dL_law_510 rfl rfl ?_
  refine g_iconst hR dL_law_511 ?_
  refine g_iadd hR (v := ((5 * c + 2 : Nat) : Int)) dL_law_512 (by omega) ?_
  refine g_taldN hR dL_law_513 hs rfl ?_
  refine g_inv2 hR dL_law_514 zm_5_70 (by decide) zN_X3_meet ((wk_0 _) _) zO_X3_meet (Nat.le_of_ble_eq_true rfl) ?_
  refine hx _ (fun g1 m1 => ?_)
  show R 517 _ (.int (iI r) :: []) _
  refine z_aload_n hR dL_law_517 rfl rfl ?_
  refine z_aload_n hR dL_law_518 rfl rfl ?_
  refine z_iload_n hR dL_law_519 rfl rfl ?_
  refine g_iconst hR dL_law_520 ?_
  refine g_iadd hR (v := ((5 * c + 1 : Nat) : Int)) dL_law_521 (by omega) ?_
  refine g_taldN hR dL_law_522 hs rfl ?_
  refine z_aload_n hR dL_law_523 rfl rfl ?_
  refine z_iload_n hR dL_law_524 rfl rfl ?_
  refine g_iconst hR dL_law_525 ?_
  refine g_iadd hR (v := ((5 * c + 2 : Nat) : Int)) dL_law_526 (by omega) ?_
  refine g_taldN hR dL_law_527 hs rfl ?_
  refine g_inv2 hR dL_law_528 zm_5_73 (by decide) zN_X4_meet ((wk_39 _) _) zO_X4_meet (Nat.le_of_ble_eq_true rfl) ?_
  refine hm g1 m1 _ (fun g2 r2 => ?_)
  show R 531 _ (.int (iI r) :: .int (iI r) :: []) _
  exact g_icmp_eq hR (tgt := 866) dL_law_531 (by decide) (fun _ => kk g2 hh r2) (fun q => absurd rfl q)
theorem la_14 {zs : zzT} {Q : zzQ} {R : zzS} {rt : Option FieldType} (hR : zzC zs (zzCL zs 20) cL_law 5 4 rt Q R) (hz : zsok zs) {L : Nat} {f : Nat → Int} (hs : zs 1002 = some (L, ir f)) (hL : L ≤ 2560) (hf : ∀ j, rg (f j)) {c : Nat} {g : Nat → Nat → Int} {hh : Int64} (h : Rel c g) (hi : 5 * c + 5 ≤ L) (kk : ∀ (g2 : Nat → Nat → Int) (hh2 : Int64), Rel (c + 1) g2 → R 866 (lls c) [] (wof g2 hh2)) : R 536 (lls c) [] (wof g hh) := by
  have hc : c < 512 := by omega
  obtain ⟨r, Mid, hr, hx, hm⟩ := op_anchors (hh := hh) hz h hc (hf (5 * c + 1)) (hf (5 * c + 2)) (hf (5 * c + 3)) (hf (5 * c + 4))
  refine z_aload_n hR dL_law_536 rfl rfl ?_
  refine z_aload_n hR dL_law_537 rfl rfl ?_
  refine z_iload_n hR dL_law_538 rfl rfl ?_
  refine g_iconst hR dL_law_539 ?_
  refine g_iadd hR (v := ((5 * c + 1 : Nat) : Int)) dL_law_540 (by omega) ?_
  refine g_taldN hR dL_law_541 hs rfl ?_
  refine z_aload_n hR dL_law_542 rfl rfl ?_
  refine z_iload_n hR dL_law_543 rfl rfl ?_
  refine g_iconst hR dL_law_544 ?_
  refine g_iadd hR (v := ((5 * c + 2 : Nat) : Int)) dL_law_545 (by omega) ?_
  refine g_taldN hR dL_law_546 hs rfl ?_
  refine z_aload_n hR dL_law_547 rfl rfl ?_
  refine z_iload_n hR dL_law_548 rfl rfl ?_
  refine g_iconst hR dL_law_549 ?_
  refine g_iadd hR (v := ((5 * c + 3 : Nat) : Int)) dL_law_550 (by omega) ?_
  refine g_taldN hR dL_law_551 hs rfl ?_
  refine z_aload_n hR dL_law_552 rfl rfl ?_
  refine z_iload_n hR dL_law_553 rfl rfl ?_
  refine g_iconst hR dL_law_554 ?_
  refine g_iadd hR (v := ((5 * c + 4 : Nat) : Int)) dL_law_555 (by omega) ?_
  refine g_taldN hR dL_law_556 hs rfl ?_
  refine g_inv4 hR dL_law_557 zm_5_74 (by decide) zN_X3_anchors ((wk_0 _) _) zO_X3_anchors (Nat.le_of_ble_eq_true rfl) ?_
  refine hx _ (fun g1 m1 => ?_)
  show R 560 _ (.int (iI r) :: []) _
  refine z_aload_n hR dL_law_560 rfl rfl ?_
  refine z_aload_n hR dL_law_561 rfl rfl ?_
  refine z_iload_n hR dL_law_562 rfl rfl ?_
  refine g_iconst hR dL_law_563 ?_
  refine g_iadd hR (v := ((5 * c + 1 : Nat) : Int)) dL_law_564 (by omega) ?_
  refine g_taldN hR dL_law_565 hs rfl ?_
  refine z_aload_n hR dL_law_566 rfl rfl ?_
  refine z_iload_n hR dL_law_567 rfl rfl ?_
  refine g_iconst hR dL_law_568 ?_
  refine g_iadd hR (v := ((5 * c + 2 : Nat) : Int)) dL_law_569 (by omega) ?_
  refine g_taldN hR dL_law_570 hs rfl ?_
  refine z_aload_n hR dL_law_571 rfl rfl ?_
  refine z_iload_n hR dL_law_572 rfl rfl ?_
  refine g_iconst hR dL_law_573 ?_
  refine g_iadd hR (v := ((5 * c + 3 : Nat) : Int)) dL_law_574 (by omega) ?_
  refine g_taldN hR dL_law_575 hs rfl ?_
  refine z_aload_n hR dL_law_576 rfl rfl ?_
  refine z_iload_n hR dL_law_577 rfl rfl ?_
  refine g_iconst hR dL_law_578 ?_
  refine g_iadd hR (v := ((5 * c + 4 : Nat) : Int)) dL_law_579 (by omega) ?_
  refine g_taldN hR dL_law_580 hs rfl ?_
  refine g_inv4 hR dL_law_581 zm_5_78 (by decide) zN_X4_anchors ((wk_39 _) _) zO_X4_anchors (Nat.le_of_ble_eq_true rfl) ?_
  refine hm g1 m1 _ (fun g2 r2 => ?_)
  show R 584 _ (.int (iI r) :: .int (iI r) :: []) _
  exact g_icmp_eq hR (tgt := 866) dL_law_584 (by decide) (fun _ => kk g2 hh r2) (fun q => absurd rfl q)
theorem la_15 {zs : zzT} {Q : zzQ} {R : zzS} {rt : Option FieldType} (hR : zzC zs (zzCL zs 20) cL_law 5 4 rt Q R) (hz : zsok zs) {L : Nat} {f : Nat → Int} (hs : zs 1002 = some (L, ir f)) (hL : L ≤ 2560) (hf : ∀ j, rg (f j)) {c : Nat} {g : Nat → Nat → Int} {hh : Int64} (h : Rel c g) (hi : 5 * c + 5 ≤ L) (kk : ∀ (g2 : Nat → Nat → Int) (hh2 : Int64), Rel (c + 1) g2 → R 866 (lls c) [] (wof g2 hh2)) : R 589 (lls c) [] (wof g hh) := by
  have hc : c < 512 := by omega
  obtain ⟨r, Mid, hr, hx, hm⟩ := op_stable (hh := hh) hz h hc (hf (5 * c + 1))
  refine z_aload_n hR dL_law_589 rfl rfl ?_
  refine z_aload_n hR dL_law_590 rfl rfl ?_
  refine z_iload_n hR dL_law_591 rfl rfl ?_
  refine g_iconst hR dL_law_592 ?_
  refine g_iadd hR (v := ((5 * c + 1 : Nat) : Int)) dL_law_593 (by omega) ?_
  refine g_taldN hR dL_law_594 hs rfl ?_
  refine g_inv1 hR dL_law_595 zm_5_79 (by decide) zN_X3_stable ((wk_0 _) _) zO_X3_stable (Nat.le_of_ble_eq_true rfl) ?_
  refine hx _ (fun g1 m1 => ?_)
  show R 598 _ (.int (iI r) :: []) _
  refine z_aload_n hR dL_law_598 rfl rfl ?_
  refine z_aload_n hR dL_law_599 rfl rfl ?_
  refine z_iload_n hR dL_law_600 rfl rfl ?_
  refine g_iconst hR dL_law_601 ?_
  refine g_iadd hR (v := ((5 * c + 1 : Nat) : Int)) dL_law_602 (by omega) ?_
  refine g_taldN hR dL_law_603 hs rfl ?_
  refine g_inv1 hR dL_law_604 zm_5_82 (by decide) zN_X4_stable ((wk_39 _) _) zO_X4_stable (Nat.le_of_ble_eq_true rfl) ?_
  refine hm g1 m1 _ (fun g2 r2 => ?_)
  show R 607 _ (.int (iI r) :: .int (iI r) :: []) _
  exact g_icmp_eq hR (tgt := 866) dL_law_607 (by decide) (fun _ => kk g2 hh r2) (fun q => absurd rfl q)
theorem la_16 {zs : zzT} {Q : zzQ} {R : zzS} {rt : Option FieldType} (hR : zzC zs (zzCL zs 20) cL_law 5 4 rt Q R) (hz : zsok zs) {L : Nat} {f : Nat → Int} (hs : zs 1002 = some (L, ir f)) (hL : L ≤ 2560) (hf : ∀ j, rg (f j)) {c : Nat} {g : Nat → Nat → Int} {hh : Int64} (h : Rel c g) (hi : 5 * c + 5 ≤ L) (kk : ∀ (g2 : Nat → Nat → Int) (hh2 : Int64), Rel (c + 1) g2 → R 866 (lls c) [] (wof g2 hh2)) : R 612 (lls c) [] (wof g hh) := by
  have hc : c < 512 := by omega
  obtain ⟨r, Mid, hr, hx, hm⟩ := op_parting (hh := hh) hz h hc (hf (5 * c + 1)) (hf (5 * c + 2))
  refine z_aload_n hR dL_law_612 rfl rfl ?_
  refine z_aload_n hR dL_law_613 rfl rfl ?_
  refine z_iload_n hR dL_law_614 rfl rfl ?_
  refine g_iconst hR dL_law_615 ?_
  refine g_iadd hR (v := ((5 * c + 1 : Nat) : Int)) dL_law_616 (by omega) ?_
  refine g_taldN hR dL_law_617 hs rfl ?_
  refine z_aload_n hR dL_law_618 rfl rfl ?_
  refine z_iload_n hR dL_law_619 rfl rfl ?_
  refine g_iconst hR dL_law_620 ?_
  refine g_iadd hR (v := ((5 * c + 2 : Nat) : Int)) dL_law_621 (by omega) ?_
  refine g_taldN hR dL_law_622 hs rfl ?_
  refine g_inv2 hR dL_law_623 zm_5_83 (by decide) zN_X3_parting ((wk_0 _) _) zO_X3_parting (Nat.le_of_ble_eq_true rfl) ?_
  refine hx _ (fun g1 m1 => ?_)
  show R 626 _ (.int (iI r) :: []) _
  refine z_aload_n hR dL_law_626 rfl rfl ?_
  refine z_aload_n hR dL_law_627 rfl rfl ?_
  refine z_iload_n hR dL_law_628 rfl rfl ?_
  refine g_iconst hR dL_law_629 ?_
  refine g_iadd hR (v := ((5 * c + 1 : Nat) : Int)) dL_law_630 (by omega) ?_
  refine g_taldN hR dL_law_631 hs rfl ?_
  refine z_aload_n hR dL_law_632 rfl rfl ?_
  refine z_iload_n hR dL_law_633 rfl rfl ?_
  refine g_iconst hR dL_law_634 ?_
  refine g_iadd hR (v := ((5 * c + 2 : Nat) : Int)) dL_law_635 (by omega) ?_
  refine g_taldN hR dL_law_636 hs rfl ?_
  refine g_inv2 hR dL_law_637 zm_5_86 (by decide) zN_X4_parting ((wk_39 _) _) zO_X4_parting (Nat.le_of_ble_eq_true rfl) ?_
  refine hm g1 m1 _ (fun g2 r2 => ?_)
  show R 640 _ (.int (iI r) :: .int (iI r) :: []) _
  exact g_icmp_eq hR (tgt := 866) dL_law_640 (by decide) (fun _ => kk g2 hh r2) (fun q => absurd rfl q)
theorem la_17 {zs : zzT} {Q : zzQ} {R : zzS} {rt : Option FieldType} (hR : zzC zs (zzCL zs 20) cL_law 5 4 rt Q R) (hz : zsok zs) {L : Nat} {f : Nat → Int} (hs : zs 1002 = some (L, ir f)) (hL : L ≤ 2560) (hf : ∀ j, rg (f j)) {c : Nat} {g : Nat → Nat → Int} {hh : Int64} (h : Rel c g) (hi : 5 * c + 5 ≤ L) (kk : ∀ (g2 : Nat → Nat → Int) (hh2 : Int64), Rel (c + 1) g2 → R 866 (lls c) [] (wof g2 hh2)) : R 645 (lls c) [] (wof g hh) := by
  have hc : c < 512 := by omega
  by_cases hb : f (5 * c + 4) = 0
  · obtain ⟨r, Mid, hr, hx, hm⟩ := op_shell (hh := hh) (b := false) hz h hc (hf (5 * c + 1)) (hf (5 * c + 2)) (hf (5 * c + 3))
    refine z_aload_n hR dL_law_645 rfl rfl ?_
    refine z_aload_n hR dL_law_646 rfl rfl ?_
    refine z_iload_n hR dL_law_647 rfl rfl ?_
    refine g_iconst hR dL_law_648 ?_
    refine g_iadd hR (v := ((5 * c + 1 : Nat) : Int)) dL_law_649 (by omega) ?_
    refine g_taldN hR dL_law_650 hs rfl ?_
    refine z_aload_n hR dL_law_651 rfl rfl ?_
    refine z_iload_n hR dL_law_652 rfl rfl ?_
    refine g_iconst hR dL_law_653 ?_
    refine g_iadd hR (v := ((5 * c + 2 : Nat) : Int)) dL_law_654 (by omega) ?_
    refine g_taldN hR dL_law_655 hs rfl ?_
    refine z_aload_n hR dL_law_656 rfl rfl ?_
    refine z_iload_n hR dL_law_657 rfl rfl ?_
    refine g_iconst hR dL_law_658 ?_
    refine g_iadd hR (v := ((5 * c + 3 : Nat) : Int)) dL_law_659 (by omega) ?_
    refine g_taldN hR dL_law_660 hs rfl ?_
    refine z_aload_n hR dL_law_661 rfl rfl ?_
    refine z_iload_n hR dL_law_662 rfl rfl ?_
    refine g_iconst hR dL_law_663 ?_
    refine g_iadd hR (v := ((5 * c + 4 : Nat) : Int)) dL_law_664 (by omega) ?_
    refine g_taldN hR dL_law_665 hs rfl ?_
    refine g_if_eq hR (tgt := 673) dL_law_666 (by decide) (fun _ => ?_) (fun q => absurd hb q) (hf _)
    refine g_iconst hR dL_law_673 ?_
    refine g_inv4 hR dL_law_674 zm_5_87 (by decide) zN_X3_shell ((wk_0 _) _) zO_X3_shell (Nat.le_of_ble_eq_true rfl) ?_
    refine hx _ (fun g1 m1 => ?_)
    show R 677 _ (.int (iI r) :: []) _
    refine z_aload_n hR dL_law_677 rfl rfl ?_
    refine z_aload_n hR dL_law_678 rfl rfl ?_
    refine z_iload_n hR dL_law_679 rfl rfl ?_
    refine g_iconst hR dL_law_680 ?_
    refine g_iadd hR (v := ((5 * c + 1 : Nat) : Int)) dL_law_681 (by omega) ?_
    refine g_taldN hR dL_law_682 hs rfl ?_
    refine z_aload_n hR dL_law_683 rfl rfl ?_
    refine z_iload_n hR dL_law_684 rfl rfl ?_
    refine g_iconst hR dL_law_685 ?_
    refine g_iadd hR (v := ((5 * c + 2 : Nat) : Int)) dL_law_686 (by omega) ?_
    refine g_taldN hR dL_law_687 hs rfl ?_
    refine z_aload_n hR dL_law_688 rfl rfl ?_
    refine z_iload_n hR dL_law_689 rfl rfl ?_
    refine g_iconst hR dL_law_690 ?_
    refine g_iadd hR (v := ((5 * c + 3 : Nat) : Int)) dL_law_691 (by omega) ?_
    refine g_taldN hR dL_law_692 hs rfl ?_
    refine z_aload_n hR dL_law_693 rfl rfl ?_
    refine z_iload_n hR dL_law_694 rfl rfl ?_
    refine g_iconst hR dL_law_695 ?_
    refine g_iadd hR (v := ((5 * c + 4 : Nat) : Int)) dL_law_696 (by omega) ?_
    refine g_taldN hR dL_law_697 hs rfl ?_
    refine g_if_eq hR (tgt := 705) dL_law_698 (by decide) (fun _ => ?_) (fun q => absurd hb q) (hf _)
    refine g_iconst hR dL_law_705 ?_
    refine g_inv4 hR dL_law_706 zm_5_91 (by decide) zN_X4_shell ((wk_39 _) _) zO_X4_shell (Nat.le_of_ble_eq_true rfl) ?_
    refine hm g1 m1 _ (fun g2 r2 => ?_)
    show R 709 _ (.int (iI r) :: .int (iI r) :: []) _
    exact g_icmp_eq hR (tgt := 866) dL_law_709 (by decide) (fun _ => kk g2 hh r2) (fun q => absurd rfl q)
  · obtain ⟨r, Mid, hr, hx, hm⟩ := op_shell (hh := hh) (b := true) hz h hc (hf (5 * c + 1)) (hf (5 * c + 2)) (hf (5 * c + 3))
    refine z_aload_n hR dL_law_645 rfl rfl ?_
    refine z_aload_n hR dL_law_646 rfl rfl ?_
    refine z_iload_n hR dL_law_647 rfl rfl ?_
    refine g_iconst hR dL_law_648 ?_
    refine g_iadd hR (v := ((5 * c + 1 : Nat) : Int)) dL_law_649 (by omega) ?_
    refine g_taldN hR dL_law_650 hs rfl ?_
    refine z_aload_n hR dL_law_651 rfl rfl ?_
    refine z_iload_n hR dL_law_652 rfl rfl ?_
    refine g_iconst hR dL_law_653 ?_
    refine g_iadd hR (v := ((5 * c + 2 : Nat) : Int)) dL_law_654 (by omega) ?_
    refine g_taldN hR dL_law_655 hs rfl ?_
    refine z_aload_n hR dL_law_656 rfl rfl ?_
    refine z_iload_n hR dL_law_657 rfl rfl ?_
    refine g_iconst hR dL_law_658 ?_
    refine g_iadd hR (v := ((5 * c + 3 : Nat) : Int)) dL_law_659 (by omega) ?_
    refine g_taldN hR dL_law_660 hs rfl ?_
    refine z_aload_n hR dL_law_661 rfl rfl ?_
    refine z_iload_n hR dL_law_662 rfl rfl ?_
    refine g_iconst hR dL_law_663 ?_
    refine g_iadd hR (v := ((5 * c + 4 : Nat) : Int)) dL_law_664 (by omega) ?_
    refine g_taldN hR dL_law_665 hs rfl ?_
    refine g_if_eq hR (tgt := 673) dL_law_666 (by decide) (fun q => absurd q hb) (fun _ => ?_) (hf _)
    refine g_iconst hR dL_law_669 ?_
    refine z_goto hR (tgt := 674) dL_law_670 (by decide) ?_
    refine g_inv4 hR dL_law_674 zm_5_87 (by decide) zN_X3_shell ((wk_0 _) _) zO_X3_shell (Nat.le_of_ble_eq_true rfl) ?_
    refine hx _ (fun g1 m1 => ?_)
    show R 677 _ (.int (iI r) :: []) _
    refine z_aload_n hR dL_law_677 rfl rfl ?_
    refine z_aload_n hR dL_law_678 rfl rfl ?_
    refine z_iload_n hR dL_law_679 rfl rfl ?_
    refine g_iconst hR dL_law_680 ?_
    refine g_iadd hR (v := ((5 * c + 1 : Nat) : Int)) dL_law_681 (by omega) ?_
    refine g_taldN hR dL_law_682 hs rfl ?_
    refine z_aload_n hR dL_law_683 rfl rfl ?_
    refine z_iload_n hR dL_law_684 rfl rfl ?_
    refine g_iconst hR dL_law_685 ?_
    refine g_iadd hR (v := ((5 * c + 2 : Nat) : Int)) dL_law_686 (by omega) ?_
    refine g_taldN hR dL_law_687 hs rfl ?_
    refine z_aload_n hR dL_law_688 rfl rfl ?_
    refine z_iload_n hR dL_law_689 rfl rfl ?_
    refine g_iconst hR dL_law_690 ?_
    refine g_iadd hR (v := ((5 * c + 3 : Nat) : Int)) dL_law_691 (by omega) ?_
    refine g_taldN hR dL_law_692 hs rfl ?_
    refine z_aload_n hR dL_law_693 rfl rfl ?_
    refine z_iload_n hR dL_law_694 rfl rfl ?_
    refine g_iconst hR dL_law_695 ?_
    refine g_iadd hR (v := ((5 * c + 4 : Nat) : Int)) dL_law_696 (by omega) ?_
    refine g_taldN hR dL_law_697 hs rfl ?_
    refine g_if_eq hR (tgt := 705) dL_law_698 (by decide) (fun q => absurd q hb) (fun _ => ?_) (hf _)
    refine g_iconst hR dL_law_701 ?_
    refine z_goto hR (tgt := 706) dL_law_702 (by decide) ?_
    refine g_inv4 hR dL_law_706 zm_5_91 (by decide) zN_X4_shell ((wk_39 _) _) zO_X4_shell (Nat.le_of_ble_eq_true rfl) ?_
    refine hm g1 m1 _ (fun g2 r2 => ?_)
    show R 709 _ (.int (iI r) :: .int (iI r) :: []) _
    exact g_icmp_eq hR (tgt := 866) dL_law_709 (by decide) (fun _ => kk g2 hh r2) (fun q => absurd rfl q)
theorem la_18 {zs : zzT} {Q : zzQ} {R : zzS} {rt : Option FieldType} (hR : zzC zs (zzCL zs 20) cL_law 5 4 rt Q R) (hz : zsok zs) {L : Nat} {f : Nat → Int} (hs : zs 1002 = some (L, ir f)) (hL : L ≤ 2560) (hf : ∀ j, rg (f j)) {c : Nat} {g : Nat → Nat → Int} {hh : Int64} (h : Rel c g) (hi : 5 * c + 5 ≤ L) (kk : ∀ (g2 : Nat → Nat → Int) (hh2 : Int64), Rel (c + 1) g2 → R 866 (lls c) [] (wof g2 hh2)) : R 714 (lls c) [] (wof g hh) := by
  have hc : c < 512 := by omega
  obtain ⟨r, Mid, hr, hx, hm⟩ := op_forget (hh := hh) hz h hc
  refine z_aload_n hR dL_law_714 rfl rfl ?_
  refine g_inv0 hR dL_law_715 zm_5_92 (by decide) zN_X3_forget ((wk_0 _) _) zO_X3_forget (Nat.le_of_ble_eq_true rfl) ?_
  refine hx _ (fun g1 m1 => ?_)
  show R 718 _ (.int (iI r) :: []) _
  refine z_aload_n hR dL_law_718 rfl rfl ?_
  refine g_inv0 hR dL_law_719 zm_5_95 (by decide) zN_X4_forget ((wk_39 _) _) zO_X4_forget (Nat.le_of_ble_eq_true rfl) ?_
  refine hm g1 m1 _ (fun g2 r2 => ?_)
  show R 722 _ (.int (iI r) :: .int (iI r) :: []) _
  exact g_icmp_eq hR (tgt := 866) dL_law_722 (by decide) (fun _ => kk g2 hh r2) (fun q => absurd rfl q)
theorem la_19 {zs : zzT} {Q : zzQ} {R : zzS} {rt : Option FieldType} (hR : zzC zs (zzCL zs 20) cL_law 5 4 rt Q R) (hz : zsok zs) {L : Nat} {f : Nat → Int} (hs : zs 1002 = some (L, ir f)) (hL : L ≤ 2560) (hf : ∀ j, rg (f j)) {c : Nat} {g : Nat → Nat → Int} {hh : Int64} (h : Rel c g) (hi : 5 * c + 5 ≤ L) (kk : ∀ (g2 : Nat → Nat → Int) (hh2 : Int64), Rel (c + 1) g2 → R 866 (lls c) [] (wof g2 hh2)) : R 727 (lls c) [] (wof g hh) := by
  have hc : c < 512 := by omega
  obtain ⟨r, Mid, hr, hx, hm⟩ := op_guess (hh := hh) hz h hc (hf (5 * c + 1)) (hf (5 * c + 2))
  refine z_aload_n hR dL_law_727 rfl rfl ?_
  refine z_aload_n hR dL_law_728 rfl rfl ?_
  refine z_iload_n hR dL_law_729 rfl rfl ?_
  refine g_iconst hR dL_law_730 ?_
  refine g_iadd hR (v := ((5 * c + 1 : Nat) : Int)) dL_law_731 (by omega) ?_
  refine g_taldN hR dL_law_732 hs rfl ?_
  refine z_aload_n hR dL_law_733 rfl rfl ?_
  refine z_iload_n hR dL_law_734 rfl rfl ?_
  refine g_iconst hR dL_law_735 ?_
  refine g_iadd hR (v := ((5 * c + 2 : Nat) : Int)) dL_law_736 (by omega) ?_
  refine g_taldN hR dL_law_737 hs rfl ?_
  refine g_inv2 hR dL_law_738 zm_5_96 (by decide) zN_X3_guess ((wk_0 _) _) zO_X3_guess (Nat.le_of_ble_eq_true rfl) ?_
  refine hx _ (fun g1 m1 => ?_)
  show R 741 _ (.int (iI r) :: []) _
  refine z_aload_n hR dL_law_741 rfl rfl ?_
  refine z_aload_n hR dL_law_742 rfl rfl ?_
  refine z_iload_n hR dL_law_743 rfl rfl ?_
  refine g_iconst hR dL_law_744 ?_
  refine g_iadd hR (v := ((5 * c + 1 : Nat) : Int)) dL_law_745 (by omega) ?_
  refine g_taldN hR dL_law_746 hs rfl ?_
  refine z_aload_n hR dL_law_747 rfl rfl ?_
  refine z_iload_n hR dL_law_748 rfl rfl ?_
  refine g_iconst hR dL_law_749 ?_
  refine g_iadd hR (v := ((5 * c + 2 : Nat) : Int)) dL_law_750 (by omega) ?_
  refine g_taldN hR dL_law_751 hs rfl ?_
  refine g_inv2 hR dL_law_752 zm_5_99 (by decide) zN_X4_guess ((wk_39 _) _) zO_X4_guess (Nat.le_of_ble_eq_true rfl) ?_
  refine hm g1 m1 _ (fun g2 r2 => ?_)
  show R 755 _ (.int (iI r) :: .int (iI r) :: []) _
  exact g_icmp_eq hR (tgt := 866) dL_law_755 (by decide) (fun _ => kk g2 hh r2) (fun q => absurd rfl q)
theorem la_20 {zs : zzT} {Q : zzQ} {R : zzS} {rt : Option FieldType} (hR : zzC zs (zzCL zs 20) cL_law 5 4 rt Q R) (hz : zsok zs) {L : Nat} {f : Nat → Int} (hs : zs 1002 = some (L, ir f)) (hL : L ≤ 2560) (hf : ∀ j, rg (f j)) {c : Nat} {g : Nat → Nat → Int} {hh : Int64} (h : Rel c g) (hi : 5 * c + 5 ≤ L) (kk : ∀ (g2 : Nat → Nat → Int) (hh2 : Int64), Rel (c + 1) g2 → R 866 (lls c) [] (wof g2 hh2)) : R 760 (lls c) [] (wof g hh) := by
  have hc : c < 512 := by omega
  obtain ⟨r, Mid, hr, hx, hm⟩ := op_seasons (hh := hh) hz h hc (hf (5 * c + 1)) (hf (5 * c + 2)) (hf (5 * c + 3))
  refine z_aload_n hR dL_law_760 rfl rfl ?_
  refine z_aload_n hR dL_law_761 rfl rfl ?_
  refine z_iload_n hR dL_law_762 rfl rfl ?_
  refine g_iconst hR dL_law_763 ?_
  refine g_iadd hR (v := ((5 * c + 1 : Nat) : Int)) dL_law_764 (by omega) ?_
  refine g_taldN hR dL_law_765 hs rfl ?_
  refine z_aload_n hR dL_law_766 rfl rfl ?_
  refine z_iload_n hR dL_law_767 rfl rfl ?_
  refine g_iconst hR dL_law_768 ?_
  refine g_iadd hR (v := ((5 * c + 2 : Nat) : Int)) dL_law_769 (by omega) ?_
  refine g_taldN hR dL_law_770 hs rfl ?_
  refine z_aload_n hR dL_law_771 rfl rfl ?_
  refine z_iload_n hR dL_law_772 rfl rfl ?_
  refine g_iconst hR dL_law_773 ?_
  refine g_iadd hR (v := ((5 * c + 3 : Nat) : Int)) dL_law_774 (by omega) ?_
  refine g_taldN hR dL_law_775 hs rfl ?_
  refine g_inv3 hR dL_law_776 zm_5_100 (by decide) zN_X3_seasons ((wk_0 _) _) zO_X3_seasons (Nat.le_of_ble_eq_true rfl) ?_
  refine hx _ (fun g1 m1 => ?_)
  show R 779 _ (.int (iI r) :: []) _
  refine z_aload_n hR dL_law_779 rfl rfl ?_
  refine z_aload_n hR dL_law_780 rfl rfl ?_
  refine z_iload_n hR dL_law_781 rfl rfl ?_
  refine g_iconst hR dL_law_782 ?_
  refine g_iadd hR (v := ((5 * c + 1 : Nat) : Int)) dL_law_783 (by omega) ?_
  refine g_taldN hR dL_law_784 hs rfl ?_
  refine z_aload_n hR dL_law_785 rfl rfl ?_
  refine z_iload_n hR dL_law_786 rfl rfl ?_
  refine g_iconst hR dL_law_787 ?_
  refine g_iadd hR (v := ((5 * c + 2 : Nat) : Int)) dL_law_788 (by omega) ?_
  refine g_taldN hR dL_law_789 hs rfl ?_
  refine z_aload_n hR dL_law_790 rfl rfl ?_
  refine z_iload_n hR dL_law_791 rfl rfl ?_
  refine g_iconst hR dL_law_792 ?_
  refine g_iadd hR (v := ((5 * c + 3 : Nat) : Int)) dL_law_793 (by omega) ?_
  refine g_taldN hR dL_law_794 hs rfl ?_
  refine g_inv3 hR dL_law_795 zm_5_103 (by decide) zN_X4_seasons ((wk_39 _) _) zO_X4_seasons (Nat.le_of_ble_eq_true rfl) ?_
  refine hm g1 m1 _ (fun g2 r2 => ?_)
  show R 798 _ (.int (iI r) :: .int (iI r) :: []) _
  exact g_icmp_eq hR (tgt := 866) dL_law_798 (by decide) (fun _ => kk g2 hh r2) (fun q => absurd rfl q)
theorem la_21 {zs : zzT} {Q : zzQ} {R : zzS} {rt : Option FieldType} (hR : zzC zs (zzCL zs 20) cL_law 5 4 rt Q R) (hz : zsok zs) {L : Nat} {f : Nat → Int} (hs : zs 1002 = some (L, ir f)) (hL : L ≤ 2560) (hf : ∀ j, rg (f j)) {c : Nat} {g : Nat → Nat → Int} {hh : Int64} (h : Rel c g) (hi : 5 * c + 5 ≤ L) (kk : ∀ (g2 : Nat → Nat → Int) (hh2 : Int64), Rel (c + 1) g2 → R 866 (lls c) [] (wof g2 hh2)) : R 803 (lls c) [] (wof g hh) := by
  have hc : c < 512 := by omega
  obtain ⟨r, Mid, hr, hx, hm⟩ := op_image (hh := hh) hz h hc
  refine z_aload_n hR dL_law_803 rfl rfl ?_
  refine g_inv0 hR dL_law_804 zm_5_104 (by decide) zN_X3_image ((wk_0 _) _) zO_X3_image (Nat.le_of_ble_eq_true rfl) ?_
  refine hx _ (fun g1 m1 => ?_)
  show R 807 _ (.int (iI r) :: []) _
  refine z_aload_n hR dL_law_807 rfl rfl ?_
  refine g_inv0 hR dL_law_808 zm_5_107 (by decide) zN_X4_image ((wk_39 _) _) zO_X4_image (Nat.le_of_ble_eq_true rfl) ?_
  refine hm g1 m1 _ (fun g2 r2 => ?_)
  show R 811 _ (.int (iI r) :: .int (iI r) :: []) _
  exact g_icmp_eq hR (tgt := 866) dL_law_811 (by decide) (fun _ => kk g2 hh r2) (fun q => absurd rfl q)
theorem la_22 {zs : zzT} {Q : zzQ} {R : zzS} {rt : Option FieldType} (hR : zzC zs (zzCL zs 20) cL_law 5 4 rt Q R) (hz : zsok zs) {L : Nat} {f : Nat → Int} (hs : zs 1002 = some (L, ir f)) (hL : L ≤ 2560) (hf : ∀ j, rg (f j)) {c : Nat} {g : Nat → Nat → Int} {hh : Int64} (h : Rel c g) (hi : 5 * c + 5 ≤ L) (kk : ∀ (g2 : Nat → Nat → Int) (hh2 : Int64), Rel (c + 1) g2 → R 866 (lls c) [] (wof g2 hh2)) : R 816 (lls c) [] (wof g hh) := by
  have hc : c < 512 := by omega
  obtain ⟨r, Mid, hr, hx, hm⟩ := op_restore (hh := hh) hz h hc
  refine z_aload_n hR dL_law_816 rfl rfl ?_
  refine g_inv0 hR dL_law_817 zm_5_108 (by decide) zN_X3_restore ((wk_0 _) _) zO_X3_restore (Nat.le_of_ble_eq_true rfl) ?_
  refine hx _ (fun g1 m1 => ?_)
  show R 820 _ (.int (iI r) :: []) _
  refine z_aload_n hR dL_law_820 rfl rfl ?_
  refine g_inv0 hR dL_law_821 zm_5_111 (by decide) zN_X4_restore ((wk_39 _) _) zO_X4_restore (Nat.le_of_ble_eq_true rfl) ?_
  refine hm g1 m1 _ (fun g2 r2 => ?_)
  show R 824 _ (.int (iI r) :: .int (iI r) :: []) _
  exact g_icmp_eq hR (tgt := 866) dL_law_824 (by decide) (fun _ => kk g2 hh r2) (fun q => absurd rfl q)
theorem la_23 {zs : zzT} {Q : zzQ} {R : zzS} {rt : Option FieldType} (hR : zzC zs (zzCL zs 20) cL_law 5 4 rt Q R) (hz : zsok zs) {L : Nat} {f : Nat → Int} (hs : zs 1002 = some (L, ir f)) (hL : L ≤ 2560) (hf : ∀ j, rg (f j)) {c : Nat} {g : Nat → Nat → Int} {hh : Int64} (h : Rel c g) (hi : 5 * c + 5 ≤ L) (kk : ∀ (g2 : Nat → Nat → Int) (hh2 : Int64), Rel (c + 1) g2 → R 866 (lls c) [] (wof g2 hh2)) : R 829 (lls c) [] (wof g hh) := by
  have hc : c < 512 := by omega
  obtain ⟨r, Mid, hr, hx, hm⟩ := op_count (hh := hh) hz h hc (hf (5 * c + 1))
  refine z_aload_n hR dL_law_829 rfl rfl ?_
  refine z_aload_n hR dL_law_830 rfl rfl ?_
  refine z_iload_n hR dL_law_831 rfl rfl ?_
  refine g_iconst hR dL_law_832 ?_
  refine g_iadd hR (v := ((5 * c + 1 : Nat) : Int)) dL_law_833 (by omega) ?_
  refine g_taldN hR dL_law_834 hs rfl ?_
  refine g_inv1 hR dL_law_835 zm_5_112 (by decide) zN_X3_count ((wk_0 _) _) zO_X3_count (Nat.le_of_ble_eq_true rfl) ?_
  refine hx _ (fun g1 m1 => ?_)
  show R 838 _ (.int (iI r) :: []) _
  refine z_aload_n hR dL_law_838 rfl rfl ?_
  refine z_aload_n hR dL_law_839 rfl rfl ?_
  refine z_iload_n hR dL_law_840 rfl rfl ?_
  refine g_iconst hR dL_law_841 ?_
  refine g_iadd hR (v := ((5 * c + 1 : Nat) : Int)) dL_law_842 (by omega) ?_
  refine g_taldN hR dL_law_843 hs rfl ?_
  refine g_inv1 hR dL_law_844 zm_5_115 (by decide) zN_X4_count ((wk_39 _) _) zO_X4_count (Nat.le_of_ble_eq_true rfl) ?_
  refine hm g1 m1 _ (fun g2 r2 => ?_)
  show R 847 _ (.int (iI r) :: .int (iI r) :: []) _
  exact g_icmp_eq hR (tgt := 866) dL_law_847 (by decide) (fun _ => kk g2 hh r2) (fun q => absurd rfl q)
theorem la_24 {zs : zzT} {Q : zzQ} {R : zzS} {rt : Option FieldType} (hR : zzC zs (zzCL zs 20) cL_law 5 4 rt Q R) (hz : zsok zs) {L : Nat} {f : Nat → Int} (hs : zs 1002 = some (L, ir f)) (hL : L ≤ 2560) (hf : ∀ j, rg (f j)) {c : Nat} {g : Nat → Nat → Int} {hh : Int64} (h : Rel c g) (hi : 5 * c + 5 ≤ L) (kk : ∀ (g2 : Nat → Nat → Int) (hh2 : Int64), Rel (c + 1) g2 → R 866 (lls c) [] (wof g2 hh2)) : R 852 (lls c) [] (wof g hh) := by
  have hc : c < 512 := by omega
  obtain ⟨r, hh2, Mid, hx, hm⟩ := op_digest (hh := hh) hz h hc
  refine z_aload_n hR dL_law_852 rfl rfl ?_
  refine g_inv0 hR dL_law_853 zm_5_116 (by decide) zN_X3_digest ((wk_0 _) _) zO_X3_digest (Nat.le_of_ble_eq_true rfl) ?_
  refine hx _ (fun g1 m1 => ?_)
  show R 856 _ (.long r :: []) _
  refine z_aload_n hR dL_law_856 rfl rfl ?_
  refine g_inv0 hR dL_law_857 zm_5_120 (by decide) zN_X4_digest ((wk_39 _) _) zO_X4_digest (Nat.le_of_ble_eq_true rfl) ?_
  refine hm g1 m1 _ (fun g2 r2 => ?_)
  show R 860 _ (.long r :: .long r :: []) _
  refine z_lcmp hR dL_law_860 (lg_self r) ?_
  exact g_if_eq hR (tgt := 866) dL_law_861 (by decide) (fun _ => kk g2 hh2 r2) (fun q => absurd rfl q)
theorem law_lp {zs : zzT} {Q : zzQ} {R : zzS} {rt : Option FieldType} (hR : zzC zs (zzCL zs 20) cL_law 5 4 rt Q R) (hz : zsok zs) {L : Nat} {f : Nat → Int} (hs : zs 1002 = some (L, ir f)) (hL : L ≤ 2560) (hf : ∀ j, rg (f j)) (hrt : rt = some .boolean) (hQ : ∀ w : zzW, Q [.int (iI 1)] w) : ∀ (N c : Nat) (g : Nat → Nat → Int) (hh : Int64), Rel c g → 513 ≤ N + c → R 18 (lls c) [] (wof g hh)
  | 0, c, g, hh, h, hN => absurd h.1 (by omega)
  | N + 1, c, g, hh, h, hN => by
    have hc0 := h.1
    have ih := law_lp hR hz hs hL hf hrt hQ N
    refine z_iload_n hR dL_law_18 rfl rfl ?_
    refine z_aload_n hR dL_law_19 rfl rfl ?_
    refine z_tlen hR dL_law_20 hs (iI_nat L).symm ?_
    refine g_iconst hR dL_law_21 ?_
    refine g_isub hR dL_law_22 rfl ?_
    refine g_icmp_gt hR (tgt := 872) dL_law_23 (by decide) (fun q => ?_) (fun q => ?_)
    · refine g_iconst hR dL_law_872 ?_
      exact z_iret hR (st := []) dL_law_873 hrt rfl (hQ _)
    · have hi : 5 * c + 5 ≤ L := by omega
      have kk : ∀ (g2 : Nat → Nat → Int) (hh2 : Int64), Rel (c + 1) g2 → R 866 (lls c) [] (wof g2 hh2) := by
        intro g2 hh2 h2
        refine g_iinc hR dL_law_866 rfl (v := ((5 * (c + 1) : Nat) : Int)) (by omega) (by decide) rfl ?_
        refine z_goto hR (tgt := 18) dL_law_869 (by decide) ?_
        exact ih (c + 1) g2 hh2 h2 (by omega)
      refine z_aload_n hR dL_law_26 rfl rfl ?_
      refine z_iload_n hR dL_law_27 rfl rfl ?_
      refine g_taldN hR dL_law_28 hs rfl ?_
      refine g_bipush hR dL_law_29 ?_
      obtain ⟨k, hk, e⟩ := and31 (f (5 * c))
      refine z_iand hR dL_law_31 e ?_
      have hdf : R 866 (lls c) [] (wof g hh) := kk g hh (Rel_step h (by omega))
      match k, hk with
      | 0, _ => exact z_tabIn hR dL_law_32 (by decide +kernel) (by decide +kernel) (off := 116) (tgt := 148) (by decide +kernel) (by decide) (la_0 hR hz hs hL hf h hi kk)
      | 1, _ => exact z_tabIn hR dL_law_32 (by decide +kernel) (by decide +kernel) (off := 139) (tgt := 171) (by decide +kernel) (by decide) (la_1 hR hz hs hL hf h hi kk)
      | 2, _ => exact z_tabIn hR dL_law_32 (by decide +kernel) (by decide +kernel) (off := 152) (tgt := 184) (by decide +kernel) (by decide) (la_2 hR hz hs hL hf h hi kk)
      | 3, _ => exact z_tabIn hR dL_law_32 (by decide +kernel) (by decide +kernel) (off := 165) (tgt := 197) (by decide +kernel) (by decide) (la_3 hR hz hs hL hf h hi kk)
      | 4, _ => exact z_tabIn hR dL_law_32 (by decide +kernel) (by decide +kernel) (off := 178) (tgt := 210) (by decide +kernel) (by decide) (la_4 hR hz hs hL hf h hi kk)
      | 5, _ => exact z_tabIn hR dL_law_32 (by decide +kernel) (by decide +kernel) (off := 211) (tgt := 243) (by decide +kernel) (by decide) (la_5 hR hz hs hL hf h hi kk)
      | 6, _ => exact z_tabIn hR dL_law_32 (by decide +kernel) (by decide +kernel) (off := 234) (tgt := 266) (by decide +kernel) (by decide) (la_6 hR hz hs hL hf h hi kk)
      | 7, _ => exact z_tabIn hR dL_law_32 (by decide +kernel) (by decide +kernel) (off := 277) (tgt := 309) (by decide +kernel) (by decide) (la_7 hR hz hs hL hf h hi kk)
      | 8, _ => exact z_tabIn hR dL_law_32 (by decide +kernel) (by decide +kernel) (off := 310) (tgt := 342) (by decide +kernel) (by decide) (la_8 hR hz hs hL hf h hi kk)
      | 9, _ => exact z_tabIn hR dL_law_32 (by decide +kernel) (by decide +kernel) (off := 343) (tgt := 375) (by decide +kernel) (by decide) (la_9 hR hz hs hL hf h hi kk)
      | 10, _ => exact z_tabIn hR dL_law_32 (by decide +kernel) (by decide +kernel) (off := 392) (tgt := 424) (by decide +kernel) (by decide) (la_10 hR hz hs hL hf h hi kk)
      | 11, _ => exact z_tabIn hR dL_law_32 (by decide +kernel) (by decide +kernel) (off := 425) (tgt := 457) (by decide +kernel) (by decide) (la_11 hR hz hs hL hf h hi kk)
      | 12, _ => exact z_tabIn hR dL_law_32 (by decide +kernel) (by decide +kernel) (off := 458) (tgt := 490) (by decide +kernel) (by decide) (la_12 hR hz hs hL hf h hi kk)
      | 13, _ => exact z_tabIn hR dL_law_32 (by decide +kernel) (by decide +kernel) (off := 471) (tgt := 503) (by decide +kernel) (by decide) (la_13 hR hz hs hL hf h hi kk)
      | 14, _ => exact z_tabIn hR dL_law_32 (by decide +kernel) (by decide +kernel) (off := 504) (tgt := 536) (by decide +kernel) (by decide) (la_14 hR hz hs hL hf h hi kk)
      | 15, _ => exact z_tabIn hR dL_law_32 (by decide +kernel) (by decide +kernel) (off := 557) (tgt := 589) (by decide +kernel) (by decide) (la_15 hR hz hs hL hf h hi kk)
      | 16, _ => exact z_tabIn hR dL_law_32 (by decide +kernel) (by decide +kernel) (off := 580) (tgt := 612) (by decide +kernel) (by decide) (la_16 hR hz hs hL hf h hi kk)
      | 17, _ => exact z_tabIn hR dL_law_32 (by decide +kernel) (by decide +kernel) (off := 613) (tgt := 645) (by decide +kernel) (by decide) (la_17 hR hz hs hL hf h hi kk)
      | 18, _ => exact z_tabIn hR dL_law_32 (by decide +kernel) (by decide +kernel) (off := 682) (tgt := 714) (by decide +kernel) (by decide) (la_18 hR hz hs hL hf h hi kk)
      | 19, _ => exact z_tabIn hR dL_law_32 (by decide +kernel) (by decide +kernel) (off := 695) (tgt := 727) (by decide +kernel) (by decide) (la_19 hR hz hs hL hf h hi kk)
      | 20, _ => exact z_tabIn hR dL_law_32 (by decide +kernel) (by decide +kernel) (off := 728) (tgt := 760) (by decide +kernel) (by decide) (la_20 hR hz hs hL hf h hi kk)
      | 21, _ => exact z_tabIn hR dL_law_32 (by decide +kernel) (by decide +kernel) (off := 771) (tgt := 803) (by decide +kernel) (by decide) (la_21 hR hz hs hL hf h hi kk)
      | 22, _ => exact z_tabIn hR dL_law_32 (by decide +kernel) (by decide +kernel) (off := 784) (tgt := 816) (by decide +kernel) (by decide) (la_22 hR hz hs hL hf h hi kk)
      | 23, _ => exact z_tabIn hR dL_law_32 (by decide +kernel) (by decide +kernel) (off := 797) (tgt := 829) (by decide +kernel) (by decide) (la_23 hR hz hs hL hf h hi kk)
      | 24, _ => exact z_tabIn hR dL_law_32 (by decide +kernel) (by decide +kernel) (off := 820) (tgt := 852) (by decide +kernel) (by decide) (la_24 hR hz hs hL hf h hi kk)
      | 25, _ => exact z_tabOut hR dL_law_32 (Or.inr (by decide +kernel)) (tgt := 866) (by decide) hdf
      | 26, _ => exact z_tabOut hR dL_law_32 (Or.inr (by decide +kernel)) (tgt := 866) (by decide) hdf
      | 27, _ => exact z_tabOut hR dL_law_32 (Or.inr (by decide +kernel)) (tgt := 866) (by decide) hdf
      | 28, _ => exact z_tabOut hR dL_law_32 (Or.inr (by decide +kernel)) (tgt := 866) (by decide) hdf
      | 29, _ => exact z_tabOut hR dL_law_32 (Or.inr (by decide +kernel)) (tgt := 866) (by decide) hdf
      | 30, _ => exact z_tabOut hR dL_law_32 (Or.inr (by decide +kernel)) (tgt := 866) (by decide) hdf
      | 31, _ => exact z_tabOut hR dL_law_32 (Or.inr (by decide +kernel)) (tgt := 866) (by decide) hdf
      | n + 32, h => exact absurd h (by omega)
