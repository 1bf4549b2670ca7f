/-! the law, case by case -/
theorem vin {i L : Nat} (hi : i + 5 ≤ L) (hL : L ≤ 2560) (k : Nat) (hk : k < 5) {x : Int32} (hx : x = nI k) : vp_in (nI i + x) L := by
  subst hx
  rw [nI_add]
  exact vp_in_nI (by omega) (by omega)
theorem vin0 {i L : Nat} (hi : i + 5 ≤ L) (hL : L ≤ 2560) : vp_in (nI i) L := vp_in_nI (by omega) (by omega)
section XLAW
variable {U : xU} {K : xK} {cells slots : Nat} {Q : State → Prop} {lab : Nat → Nat} {pa o ma : Nat → Nat} {b L i : Nat} {xs : Nat → Int32}
theorem lc_set (X : Cx U K yL_law cL_law 4 (some .boolean) room_1) (hX : va_X b L xs (ks K) (ks K).heap ∧ b < (ks K).heap.size ∧ ¬ uB U b) (hl : LA lab ma) (hf : cells ≤ room_1.cells ∧ slots ≤ room_1.slots) (hi : i + 5 ≤ L) (hL : L ≤ 2560) {μ : xH} (hLI : LI U lab pa o ma μ) (kk : ∀ μ' : xH, LI U lab pa o ma μ' → AW U K 4 cells slots Q μ' 907 [some (.ref b), some (.ref (o 0)), some (.ref (ma 0)), some (.int (nI i))] []) : AW U K 4 cells slots Q μ 164 [some (.ref b), some (.ref (o 0)), some (.ref (ma 0)), some (.int (nI i))] [] := by
  refine aw_aload_n X dL_law_164 rfl ?_
  refine aw_aload_n X dL_law_165 rfl ?_
  refine aw_iload_n X dL_law_166 rfl ?_
  refine aw_iconst X (1) dL_law_167 rfl ?_
  refine aw_iadd X dL_law_168 ?_
  refine aw_sld X hX (vin hi hL 1 (by decide) rfl) dL_law_169 ?_
  refine aw_aload_n X dL_law_170 rfl ?_
  refine aw_iload_n X dL_law_171 rfl ?_
  refine aw_iconst X (2) dL_law_172 rfl ?_
  refine aw_iadd X dL_law_173 ?_
  refine aw_sld X hX (vin hi hL 2 (by decide) rfl) dL_law_174 ?_
  refine aw_p4 (As := [.int _, .int _]) X hLI (pr_set hl _ _) s_L_13 k_X4_set (by decide) ⟨rfl, rfl⟩ hf rfl (by exact Nat.le_of_ble_eq_true rfl) rfl dL_law_175 (fun μ r hM => ?_)
  refine aw_aload_n X dL_law_178 rfl ?_
  refine aw_aload_n X dL_law_179 rfl ?_
  refine aw_iload_n X dL_law_180 rfl ?_
  refine aw_iconst X (1) dL_law_181 rfl ?_
  refine aw_iadd X dL_law_182 ?_
  refine aw_sld X hX (vin hi hL 1 (by decide) rfl) dL_law_183 ?_
  refine aw_aload_n X dL_law_184 rfl ?_
  refine aw_iload_n X dL_law_185 rfl ?_
  refine aw_iconst X (2) dL_law_186 rfl ?_
  refine aw_iadd X dL_law_187 ?_
  refine aw_sld X hX (vin hi hL 2 (by decide) rfl) dL_law_188 ?_
  refine aw_p5 (As := [.int _, .int _]) X hM s_L_17 k_X5_set (by decide) ⟨rfl, rfl⟩ hf rfl (by exact Nat.le_of_ble_eq_true rfl) rfl dL_law_189 (fun μ hLI => ?_)
  exact aw_icmp_eq_t (tgt := 907) X dL_law_192 (by decide) rfl (kk _ hLI)
theorem lc_arrive (X : Cx U K yL_law cL_law 4 (some .boolean) room_1) (hX : va_X b L xs (ks K) (ks K).heap ∧ b < (ks K).heap.size ∧ ¬ uB U b) (hl : LA lab ma) (hf : cells ≤ room_1.cells ∧ slots ≤ room_1.slots) (hi : i + 5 ≤ L) (hL : L ≤ 2560) {μ : xH} (hLI : LI U lab pa o ma μ) (kk : ∀ μ' : xH, LI U lab pa o ma μ' → AW U K 4 cells slots Q μ' 907 [some (.ref b), some (.ref (o 0)), some (.ref (ma 0)), some (.int (nI i))] []) : AW U K 4 cells slots Q μ 197 [some (.ref b), some (.ref (o 0)), some (.ref (ma 0)), some (.int (nI i))] [] := by
  refine aw_aload_n X dL_law_197 rfl ?_
  refine aw_aload_n X dL_law_198 rfl ?_
  refine aw_iload_n X dL_law_199 rfl ?_
  refine aw_iconst X (1) dL_law_200 rfl ?_
  refine aw_iadd X dL_law_201 ?_
  refine aw_sld X hX (vin hi hL 1 (by decide) rfl) dL_law_202 ?_
  refine aw_aload_n X dL_law_203 rfl ?_
  refine aw_iload_n X dL_law_204 rfl ?_
  refine aw_iconst X (2) dL_law_205 rfl ?_
  refine aw_iadd X dL_law_206 ?_
  refine aw_sld X hX (vin hi hL 2 (by decide) rfl) dL_law_207 ?_
  refine aw_aload_n X dL_law_208 rfl ?_
  refine aw_iload_n X dL_law_209 rfl ?_
  refine aw_iconst X (3) dL_law_210 rfl ?_
  refine aw_iadd X dL_law_211 ?_
  refine aw_sld X hX (vin hi hL 3 (by decide) rfl) dL_law_212 ?_
  refine aw_aload_n X dL_law_213 rfl ?_
  refine aw_iload_n X dL_law_214 rfl ?_
  refine aw_iconst X (4) dL_law_215 rfl ?_
  refine aw_iadd X dL_law_216 ?_
  refine aw_sld X hX (vin hi hL 4 (by decide) rfl) dL_law_217 ?_
  refine aw_p4 (As := [.int _, .int _, .int _, .int _]) X hLI (pr_arrive hl _ _ _ _) s_L_18 k_X4_arrive (by decide) ⟨rfl, rfl⟩ hf rfl (by exact Nat.le_of_ble_eq_true rfl) rfl dL_law_218 (fun μ r hM => ?_)
  refine aw_aload_n X dL_law_221 rfl ?_
  refine aw_aload_n X dL_law_222 rfl ?_
  refine aw_iload_n X dL_law_223 rfl ?_
  refine aw_iconst X (1) dL_law_224 rfl ?_
  refine aw_iadd X dL_law_225 ?_
  refine aw_sld X hX (vin hi hL 1 (by decide) rfl) dL_law_226 ?_
  refine aw_aload_n X dL_law_227 rfl ?_
  refine aw_iload_n X dL_law_228 rfl ?_
  refine aw_iconst X (2) dL_law_229 rfl ?_
  refine aw_iadd X dL_law_230 ?_
  refine aw_sld X hX (vin hi hL 2 (by decide) rfl) dL_law_231 ?_
  refine aw_aload_n X dL_law_232 rfl ?_
  refine aw_iload_n X dL_law_233 rfl ?_
  refine aw_iconst X (3) dL_law_234 rfl ?_
  refine aw_iadd X dL_law_235 ?_
  refine aw_sld X hX (vin hi hL 3 (by decide) rfl) dL_law_236 ?_
  refine aw_aload_n X dL_law_237 rfl ?_
  refine aw_iload_n X dL_law_238 rfl ?_
  refine aw_iconst X (4) dL_law_239 rfl ?_
  refine aw_iadd X dL_law_240 ?_
  refine aw_sld X hX (vin hi hL 4 (by decide) rfl) dL_law_241 ?_
  refine aw_p5 (As := [.int _, .int _, .int _, .int _]) X hM s_L_22 k_X5_arrive (by decide) ⟨rfl, rfl⟩ hf rfl (by exact Nat.le_of_ble_eq_true rfl) rfl dL_law_242 (fun μ hLI => ?_)
  exact aw_icmp_eq_t (tgt := 907) X dL_law_245 (by decide) rfl (kk _ hLI)
theorem lc_berth (X : Cx U K yL_law cL_law 4 (some .boolean) room_1) (hX : va_X b L xs (ks K) (ks K).heap ∧ b < (ks K).heap.size ∧ ¬ uB U b) (hl : LA lab ma) (hf : cells ≤ room_1.cells ∧ slots ≤ room_1.slots) (hi : i + 5 ≤ L) (hL : L ≤ 2560) {μ : xH} (hLI : LI U lab pa o ma μ) (kk : ∀ μ' : xH, LI U lab pa o ma μ' → AW U K 4 cells slots Q μ' 907 [some (.ref b), some (.ref (o 0)), some (.ref (ma 0)), some (.int (nI i))] []) : AW U K 4 cells slots Q μ 250 [some (.ref b), some (.ref (o 0)), some (.ref (ma 0)), some (.int (nI i))] [] := by
  refine aw_aload_n X dL_law_250 rfl ?_
  refine aw_p4 (As := []) X hLI (pr_berth hl) s_L_23 k_X4_berth (by decide) ⟨rfl, rfl⟩ hf rfl (by exact Nat.le_of_ble_eq_true rfl) rfl dL_law_251 (fun μ r hM => ?_)
  refine aw_aload_n X dL_law_254 rfl ?_
  refine aw_p5 (As := []) X hM s_L_27 k_X5_berth (by decide) ⟨rfl, rfl⟩ hf rfl (by exact Nat.le_of_ble_eq_true rfl) rfl dL_law_255 (fun μ hLI => ?_)
  exact aw_icmp_eq_t (tgt := 907) X dL_law_258 (by decide) rfl (kk _ hLI)
theorem lc_leave (X : Cx U K yL_law cL_law 4 (some .boolean) room_1) (hX : va_X b L xs (ks K) (ks K).heap ∧ b < (ks K).heap.size ∧ ¬ uB U b) (hl : LA lab ma) (hf : cells ≤ room_1.cells ∧ slots ≤ room_1.slots) (hi : i + 5 ≤ L) (hL : L ≤ 2560) {μ : xH} (hLI : LI U lab pa o ma μ) (kk : ∀ μ' : xH, LI U lab pa o ma μ' → AW U K 4 cells slots Q μ' 907 [some (.ref b), some (.ref (o 0)), some (.ref (ma 0)), some (.int (nI i))] []) : AW U K 4 cells slots Q μ 263 [some (.ref b), some (.ref (o 0)), some (.ref (ma 0)), some (.int (nI i))] [] := by
  refine aw_aload_n X dL_law_263 rfl ?_
  refine aw_p4 (As := []) X hLI (pr_leave hl) s_L_28 k_X4_leave (by decide) ⟨rfl, rfl⟩ hf rfl (by exact Nat.le_of_ble_eq_true rfl) rfl dL_law_264 (fun μ r hM => ?_)
  refine aw_aload_n X dL_law_267 rfl ?_
  refine aw_p5 (As := []) X hM s_L_31 k_X5_leave (by decide) ⟨rfl, rfl⟩ hf rfl (by exact Nat.le_of_ble_eq_true rfl) rfl dL_law_268 (fun μ hLI => ?_)
  exact aw_icmp_eq_t (tgt := 907) X dL_law_271 (by decide) rfl (kk _ hLI)
theorem lc_reach (X : Cx U K yL_law cL_law 4 (some .boolean) room_1) (hX : va_X b L xs (ks K) (ks K).heap ∧ b < (ks K).heap.size ∧ ¬ uB U b) (hl : LA lab ma) (hf : cells ≤ room_1.cells ∧ slots ≤ room_1.slots) (hi : i + 5 ≤ L) (hL : L ≤ 2560) {μ : xH} (hLI : LI U lab pa o ma μ) (kk : ∀ μ' : xH, LI U lab pa o ma μ' → AW U K 4 cells slots Q μ' 907 [some (.ref b), some (.ref (o 0)), some (.ref (ma 0)), some (.int (nI i))] []) : AW U K 4 cells slots Q μ 276 [some (.ref b), some (.ref (o 0)), some (.ref (ma 0)), some (.int (nI i))] [] := by
  refine aw_aload_n X dL_law_276 rfl ?_
  refine aw_aload_n X dL_law_277 rfl ?_
  refine aw_iload_n X dL_law_278 rfl ?_
  refine aw_iconst X (1) dL_law_279 rfl ?_
  refine aw_iadd X dL_law_280 ?_
  refine aw_sld X hX (vin hi hL 1 (by decide) rfl) dL_law_281 ?_
  refine aw_aload_n X dL_law_282 rfl ?_
  refine aw_iload_n X dL_law_283 rfl ?_
  refine aw_iconst X (2) dL_law_284 rfl ?_
  refine aw_iadd X dL_law_285 ?_
  refine aw_sld X hX (vin hi hL 2 (by decide) rfl) dL_law_286 ?_
  refine aw_p4 (As := [.int _, .int _]) X hLI (pr_reach hl _ _) s_L_32 k_X4_reach (by decide) ⟨rfl, rfl⟩ hf rfl (by exact Nat.le_of_ble_eq_true rfl) rfl dL_law_287 (fun μ r hM => ?_)
  refine aw_aload_n X dL_law_290 rfl ?_
  refine aw_aload_n X dL_law_291 rfl ?_
  refine aw_iload_n X dL_law_292 rfl ?_
  refine aw_iconst X (1) dL_law_293 rfl ?_
  refine aw_iadd X dL_law_294 ?_
  refine aw_sld X hX (vin hi hL 1 (by decide) rfl) dL_law_295 ?_
  refine aw_aload_n X dL_law_296 rfl ?_
  refine aw_iload_n X dL_law_297 rfl ?_
  refine aw_iconst X (2) dL_law_298 rfl ?_
  refine aw_iadd X dL_law_299 ?_
  refine aw_sld X hX (vin hi hL 2 (by decide) rfl) dL_law_300 ?_
  refine aw_p5 (As := [.int _, .int _]) X hM s_L_35 k_X5_reach (by decide) ⟨rfl, rfl⟩ hf rfl (by exact Nat.le_of_ble_eq_true rfl) rfl dL_law_301 (fun μ hLI => ?_)
  exact aw_icmp_eq_t (tgt := 907) X dL_law_304 (by decide) rfl (kk _ hLI)
theorem lc_connect (X : Cx U K yL_law cL_law 4 (some .boolean) room_1) (hX : va_X b L xs (ks K) (ks K).heap ∧ b < (ks K).heap.size ∧ ¬ uB U b) (hl : LA lab ma) (hf : cells ≤ room_1.cells ∧ slots ≤ room_1.slots) (hi : i + 5 ≤ L) (hL : L ≤ 2560) {μ : xH} (hLI : LI U lab pa o ma μ) (kk : ∀ μ' : xH, LI U lab pa o ma μ' → AW U K 4 cells slots Q μ' 907 [some (.ref b), some (.ref (o 0)), some (.ref (ma 0)), some (.int (nI i))] []) : AW U K 4 cells slots Q μ 309 [some (.ref b), some (.ref (o 0)), some (.ref (ma 0)), some (.int (nI i))] [] := by
  refine aw_aload_n X dL_law_309 rfl ?_
  refine aw_aload_n X dL_law_310 rfl ?_
  refine aw_iload_n X dL_law_311 rfl ?_
  refine aw_iconst X (1) dL_law_312 rfl ?_
  refine aw_iadd X dL_law_313 ?_
  refine aw_sld X hX (vin hi hL 1 (by decide) rfl) dL_law_314 ?_
  refine aw_aload_n X dL_law_315 rfl ?_
  refine aw_iload_n X dL_law_316 rfl ?_
  refine aw_iconst X (2) dL_law_317 rfl ?_
  refine aw_iadd X dL_law_318 ?_
  refine aw_sld X hX (vin hi hL 2 (by decide) rfl) dL_law_319 ?_
  refine aw_p4 (As := [.int _, .int _]) X hLI (pr_connect hl _ _) s_L_36 k_X4_connect (by decide) ⟨rfl, rfl⟩ hf rfl (by exact Nat.le_of_ble_eq_true rfl) rfl dL_law_320 (fun μ r hM => ?_)
  refine aw_aload_n X dL_law_323 rfl ?_
  refine aw_aload_n X dL_law_324 rfl ?_
  refine aw_iload_n X dL_law_325 rfl ?_
  refine aw_iconst X (1) dL_law_326 rfl ?_
  refine aw_iadd X dL_law_327 ?_
  refine aw_sld X hX (vin hi hL 1 (by decide) rfl) dL_law_328 ?_
  refine aw_aload_n X dL_law_329 rfl ?_
  refine aw_iload_n X dL_law_330 rfl ?_
  refine aw_iconst X (2) dL_law_331 rfl ?_
  refine aw_iadd X dL_law_332 ?_
  refine aw_sld X hX (vin hi hL 2 (by decide) rfl) dL_law_333 ?_
  refine aw_p5 (As := [.int _, .int _]) X hM s_L_39 k_X5_connect (by decide) ⟨rfl, rfl⟩ hf rfl (by exact Nat.le_of_ble_eq_true rfl) rfl dL_law_334 (fun μ hLI => ?_)
  exact aw_icmp_eq_t (tgt := 907) X dL_law_337 (by decide) rfl (kk _ hLI)
theorem lc_disconnect (X : Cx U K yL_law cL_law 4 (some .boolean) room_1) (hX : va_X b L xs (ks K) (ks K).heap ∧ b < (ks K).heap.size ∧ ¬ uB U b) (hl : LA lab ma) (hf : cells ≤ room_1.cells ∧ slots ≤ room_1.slots) (hi : i + 5 ≤ L) (hL : L ≤ 2560) {μ : xH} (hLI : LI U lab pa o ma μ) (kk : ∀ μ' : xH, LI U lab pa o ma μ' → AW U K 4 cells slots Q μ' 907 [some (.ref b), some (.ref (o 0)), some (.ref (ma 0)), some (.int (nI i))] []) : AW U K 4 cells slots Q μ 342 [some (.ref b), some (.ref (o 0)), some (.ref (ma 0)), some (.int (nI i))] [] := by
  refine aw_aload_n X dL_law_342 rfl ?_
  refine aw_aload_n X dL_law_343 rfl ?_
  refine aw_iload_n X dL_law_344 rfl ?_
  refine aw_iconst X (1) dL_law_345 rfl ?_
  refine aw_iadd X dL_law_346 ?_
  refine aw_sld X hX (vin hi hL 1 (by decide) rfl) dL_law_347 ?_
  refine aw_p4 (As := [.int _]) X hLI (pr_disconnect hl _) s_L_40 k_X4_disconnect (by decide) ⟨rfl, rfl⟩ hf rfl (by exact Nat.le_of_ble_eq_true rfl) rfl dL_law_348 (fun μ r hM => ?_)
  refine aw_aload_n X dL_law_351 rfl ?_
  refine aw_aload_n X dL_law_352 rfl ?_
  refine aw_iload_n X dL_law_353 rfl ?_
  refine aw_iconst X (1) dL_law_354 rfl ?_
  refine aw_iadd X dL_law_355 ?_
  refine aw_sld X hX (vin hi hL 1 (by decide) rfl) dL_law_356 ?_
  refine aw_p5 (As := [.int _]) X hM s_L_44 k_X5_disconnect (by decide) ⟨rfl, rfl⟩ hf rfl (by exact Nat.le_of_ble_eq_true rfl) rfl dL_law_357 (fun μ hLI => ?_)
  exact aw_icmp_eq_t (tgt := 907) X dL_law_360 (by decide) rfl (kk _ hLI)
theorem lc_flush (X : Cx U K yL_law cL_law 4 (some .boolean) room_1) (hX : va_X b L xs (ks K) (ks K).heap ∧ b < (ks K).heap.size ∧ ¬ uB U b) (hl : LA lab ma) (hf : cells ≤ room_1.cells ∧ slots ≤ room_1.slots) (hi : i + 5 ≤ L) (hL : L ≤ 2560) {μ : xH} (hLI : LI U lab pa o ma μ) (kk : ∀ μ' : xH, LI U lab pa o ma μ' → AW U K 4 cells slots Q μ' 907 [some (.ref b), some (.ref (o 0)), some (.ref (ma 0)), some (.int (nI i))] []) : AW U K 4 cells slots Q μ 365 [some (.ref b), some (.ref (o 0)), some (.ref (ma 0)), some (.int (nI i))] [] := by
  refine aw_aload_n X dL_law_365 rfl ?_
  refine aw_aload_n X dL_law_366 rfl ?_
  refine aw_iload_n X dL_law_367 rfl ?_
  refine aw_iconst X (1) dL_law_368 rfl ?_
  refine aw_iadd X dL_law_369 ?_
  refine aw_sld X hX (vin hi hL 1 (by decide) rfl) dL_law_370 ?_
  refine aw_p4 (As := [.int _]) X hLI (pr_flush hl _) s_L_45 k_X4_flush (by decide) ⟨rfl, rfl⟩ hf rfl (by exact Nat.le_of_ble_eq_true rfl) rfl dL_law_371 (fun μ r hM => ?_)
  refine aw_aload_n X dL_law_374 rfl ?_
  refine aw_aload_n X dL_law_375 rfl ?_
  refine aw_iload_n X dL_law_376 rfl ?_
  refine aw_iconst X (1) dL_law_377 rfl ?_
  refine aw_iadd X dL_law_378 ?_
  refine aw_sld X hX (vin hi hL 1 (by decide) rfl) dL_law_379 ?_
  refine aw_p5 (As := [.int _]) X hM s_L_48 k_X5_flush (by decide) ⟨rfl, rfl⟩ hf rfl (by exact Nat.le_of_ble_eq_true rfl) rfl dL_law_380 (fun μ hLI => ?_)
  exact aw_icmp_eq_t (tgt := 907) X dL_law_383 (by decide) rfl (kk _ hLI)
theorem lc_mend (X : Cx U K yL_law cL_law 4 (some .boolean) room_1) (hX : va_X b L xs (ks K) (ks K).heap ∧ b < (ks K).heap.size ∧ ¬ uB U b) (hl : LA lab ma) (hf : cells ≤ room_1.cells ∧ slots ≤ room_1.slots) (hi : i + 5 ≤ L) (hL : L ≤ 2560) {μ : xH} (hLI : LI U lab pa o ma μ) (kk : ∀ μ' : xH, LI U lab pa o ma μ' → AW U K 4 cells slots Q μ' 907 [some (.ref b), some (.ref (o 0)), some (.ref (ma 0)), some (.int (nI i))] []) : AW U K 4 cells slots Q μ 388 [some (.ref b), some (.ref (o 0)), some (.ref (ma 0)), some (.int (nI i))] [] := by
  refine aw_aload_n X dL_law_388 rfl ?_
  refine aw_aload_n X dL_law_389 rfl ?_
  refine aw_iload_n X dL_law_390 rfl ?_
  refine aw_iconst X (1) dL_law_391 rfl ?_
  refine aw_iadd X dL_law_392 ?_
  refine aw_sld X hX (vin hi hL 1 (by decide) rfl) dL_law_393 ?_
  refine aw_p4 (As := [.int _]) X hLI (pr_mend hl _) s_L_49 k_X4_mend (by decide) ⟨rfl, rfl⟩ hf rfl (by exact Nat.le_of_ble_eq_true rfl) rfl dL_law_394 (fun μ r hM => ?_)
  refine aw_aload_n X dL_law_397 rfl ?_
  refine aw_aload_n X dL_law_398 rfl ?_
  refine aw_iload_n X dL_law_399 rfl ?_
  refine aw_iconst X (1) dL_law_400 rfl ?_
  refine aw_iadd X dL_law_401 ?_
  refine aw_sld X hX (vin hi hL 1 (by decide) rfl) dL_law_402 ?_
  refine aw_p5 (As := [.int _]) X hM s_L_52 k_X5_mend (by decide) ⟨rfl, rfl⟩ hf rfl (by exact Nat.le_of_ble_eq_true rfl) rfl dL_law_403 (fun μ hLI => ?_)
  exact aw_icmp_eq_t (tgt := 907) X dL_law_406 (by decide) rfl (kk _ hLI)
theorem lc_boom (X : Cx U K yL_law cL_law 4 (some .boolean) room_1) (hX : va_X b L xs (ks K) (ks K).heap ∧ b < (ks K).heap.size ∧ ¬ uB U b) (hl : LA lab ma) (hf : cells ≤ room_1.cells ∧ slots ≤ room_1.slots) (hi : i + 5 ≤ L) (hL : L ≤ 2560) {μ : xH} (hLI : LI U lab pa o ma μ) (kk : ∀ μ' : xH, LI U lab pa o ma μ' → AW U K 4 cells slots Q μ' 907 [some (.ref b), some (.ref (o 0)), some (.ref (ma 0)), some (.int (nI i))] []) : AW U K 4 cells slots Q μ 411 [some (.ref b), some (.ref (o 0)), some (.ref (ma 0)), some (.int (nI i))] [] := by
  refine aw_aload_n X dL_law_411 rfl ?_
  refine aw_aload_n X dL_law_412 rfl ?_
  refine aw_iload_n X dL_law_413 rfl ?_
  refine aw_iconst X (1) dL_law_414 rfl ?_
  refine aw_iadd X dL_law_415 ?_
  refine aw_sld X hX (vin hi hL 1 (by decide) rfl) dL_law_416 ?_
  refine aw_bj (tgt := 424) (t2 := 425) X dL_law_417 dL_law_420 dL_law_421 dL_law_424 (by decide) (by decide) rfl ?_
  refine aw_p4 (As := [.int _]) X hLI (pr_boom hl _ (bI_x _)) s_L_53 k_X4_boom (by decide) ⟨rfl, rfl⟩ hf rfl (by exact Nat.le_of_ble_eq_true rfl) rfl dL_law_425 (fun μ r hM => ?_)
  refine aw_aload_n X dL_law_428 rfl ?_
  refine aw_aload_n X dL_law_429 rfl ?_
  refine aw_iload_n X dL_law_430 rfl ?_
  refine aw_iconst X (1) dL_law_431 rfl ?_
  refine aw_iadd X dL_law_432 ?_
  refine aw_sld X hX (vin hi hL 1 (by decide) rfl) dL_law_433 ?_
  refine aw_bj (tgt := 441) (t2 := 442) X dL_law_434 dL_law_437 dL_law_438 dL_law_441 (by decide) (by decide) rfl ?_
  refine aw_p5 (As := [.int _]) X hM s_L_57 k_X5_boom (by decide) ⟨rfl, rfl⟩ hf rfl (by exact Nat.le_of_ble_eq_true rfl) rfl dL_law_442 (fun μ hLI => ?_)
  exact aw_icmp_eq_t (tgt := 907) X dL_law_445 (by decide) rfl (kk _ hLI)
theorem lc_draw (X : Cx U K yL_law cL_law 4 (some .boolean) room_1) (hX : va_X b L xs (ks K) (ks K).heap ∧ b < (ks K).heap.size ∧ ¬ uB U b) (hl : LA lab ma) (hf : cells ≤ room_1.cells ∧ slots ≤ room_1.slots) (hi : i + 5 ≤ L) (hL : L ≤ 2560) {μ : xH} (hLI : LI U lab pa o ma μ) (kk : ∀ μ' : xH, LI U lab pa o ma μ' → AW U K 4 cells slots Q μ' 907 [some (.ref b), some (.ref (o 0)), some (.ref (ma 0)), some (.int (nI i))] []) : AW U K 4 cells slots Q μ 450 [some (.ref b), some (.ref (o 0)), some (.ref (ma 0)), some (.int (nI i))] [] := by
  refine aw_aload_n X dL_law_450 rfl ?_
  refine aw_aload_n X dL_law_451 rfl ?_
  refine aw_iload_n X dL_law_452 rfl ?_
  refine aw_iconst X (1) dL_law_453 rfl ?_
  refine aw_iadd X dL_law_454 ?_
  refine aw_sld X hX (vin hi hL 1 (by decide) rfl) dL_law_455 ?_
  refine aw_aload_n X dL_law_456 rfl ?_
  refine aw_iload_n X dL_law_457 rfl ?_
  refine aw_iconst X (2) dL_law_458 rfl ?_
  refine aw_iadd X dL_law_459 ?_
  refine aw_sld X hX (vin hi hL 2 (by decide) rfl) dL_law_460 ?_
  refine aw_p4 (As := [.int _, .int _]) X hLI (pr_draw hl _ _) s_L_58 k_X4_draw (by decide) ⟨rfl, rfl⟩ hf rfl (by exact Nat.le_of_ble_eq_true rfl) rfl dL_law_461 (fun μ r hM => ?_)
  refine aw_aload_n X dL_law_464 rfl ?_
  refine aw_aload_n X dL_law_465 rfl ?_
  refine aw_iload_n X dL_law_466 rfl ?_
  refine aw_iconst X (1) dL_law_467 rfl ?_
  refine aw_iadd X dL_law_468 ?_
  refine aw_sld X hX (vin hi hL 1 (by decide) rfl) dL_law_469 ?_
  refine aw_aload_n X dL_law_470 rfl ?_
  refine aw_iload_n X dL_law_471 rfl ?_
  refine aw_iconst X (2) dL_law_472 rfl ?_
  refine aw_iadd X dL_law_473 ?_
  refine aw_sld X hX (vin hi hL 2 (by decide) rfl) dL_law_474 ?_
  refine aw_p5 (As := [.int _, .int _]) X hM s_L_61 k_X5_draw (by decide) ⟨rfl, rfl⟩ hf rfl (by exact Nat.le_of_ble_eq_true rfl) rfl dL_law_475 (fun μ hLI => ?_)
  exact aw_icmp_eq_t (tgt := 907) X dL_law_478 (by decide) rfl (kk _ hLI)
theorem lc_pass (X : Cx U K yL_law cL_law 4 (some .boolean) room_1) (hX : va_X b L xs (ks K) (ks K).heap ∧ b < (ks K).heap.size ∧ ¬ uB U b) (hl : LA lab ma) (hf : cells ≤ room_1.cells ∧ slots ≤ room_1.slots) (hi : i + 5 ≤ L) (hL : L ≤ 2560) {μ : xH} (hLI : LI U lab pa o ma μ) (kk : ∀ μ' : xH, LI U lab pa o ma μ' → AW U K 4 cells slots Q μ' 907 [some (.ref b), some (.ref (o 0)), some (.ref (ma 0)), some (.int (nI i))] []) : AW U K 4 cells slots Q μ 483 [some (.ref b), some (.ref (o 0)), some (.ref (ma 0)), some (.int (nI i))] [] := by
  refine aw_aload_n X dL_law_483 rfl ?_
  refine aw_aload_n X dL_law_484 rfl ?_
  refine aw_iload_n X dL_law_485 rfl ?_
  refine aw_iconst X (1) dL_law_486 rfl ?_
  refine aw_iadd X dL_law_487 ?_
  refine aw_sld X hX (vin hi hL 1 (by decide) rfl) dL_law_488 ?_
  refine aw_p4 (As := [.int _]) X hLI (pr_pass hl _) s_L_62 k_X4_pass (by decide) ⟨rfl, rfl⟩ hf rfl (by exact Nat.le_of_ble_eq_true rfl) rfl dL_law_489 (fun μ r hM => ?_)
  refine aw_aload_n X dL_law_492 rfl ?_
  refine aw_aload_n X dL_law_493 rfl ?_
  refine aw_iload_n X dL_law_494 rfl ?_
  refine aw_iconst X (1) dL_law_495 rfl ?_
  refine aw_iadd X dL_law_496 ?_
  refine aw_sld X hX (vin hi hL 1 (by decide) rfl) dL_law_497 ?_
  refine aw_p5 (As := [.int _]) X hM s_L_65 k_X5_pass (by decide) ⟨rfl, rfl⟩ hf rfl (by exact Nat.le_of_ble_eq_true rfl) rfl dL_law_498 (fun μ hLI => ?_)
  exact aw_icmp_eq_t (tgt := 907) X dL_law_501 (by decide) rfl (kk _ hLI)
theorem lc_run (X : Cx U K yL_law cL_law 4 (some .boolean) room_1) (hX : va_X b L xs (ks K) (ks K).heap ∧ b < (ks K).heap.size ∧ ¬ uB U b) (hl : LA lab ma) (hf : cells ≤ room_1.cells ∧ slots ≤ room_1.slots) (hi : i + 5 ≤ L) (hL : L ≤ 2560) {μ : xH} (hLI : LI U lab pa o ma μ) (kk : ∀ μ' : xH, LI U lab pa o ma μ' → AW U K 4 cells slots Q μ' 907 [some (.ref b), some (.ref (o 0)), some (.ref (ma 0)), some (.int (nI i))] []) : AW U K 4 cells slots Q μ 506 [some (.ref b), some (.ref (o 0)), some (.ref (ma 0)), some (.int (nI i))] [] := by
  refine aw_aload_n X dL_law_506 rfl ?_
  refine aw_p4 (As := []) X hLI (pr_run hl) s_L_66 k_X4_run (by decide) ⟨rfl, rfl⟩ hf rfl (by exact Nat.le_of_ble_eq_true rfl) rfl dL_law_507 (fun μ r hM => ?_)
  refine aw_aload_n X dL_law_510 rfl ?_
  refine aw_p5 (As := []) X hM s_L_69 k_X5_run (by decide) ⟨rfl, rfl⟩ hf rfl (by exact Nat.le_of_ble_eq_true rfl) rfl dL_law_511 (fun μ hLI => ?_)
  exact aw_icmp_eq_t (tgt := 907) X dL_law_514 (by decide) rfl (kk _ hLI)
theorem lc_tanker (X : Cx U K yL_law cL_law 4 (some .boolean) room_1) (hX : va_X b L xs (ks K) (ks K).heap ∧ b < (ks K).heap.size ∧ ¬ uB U b) (hl : LA lab ma) (hf : cells ≤ room_1.cells ∧ slots ≤ room_1.slots) (hi : i + 5 ≤ L) (hL : L ≤ 2560) {μ : xH} (hLI : LI U lab pa o ma μ) (kk : ∀ μ' : xH, LI U lab pa o ma μ' → AW U K 4 cells slots Q μ' 907 [some (.ref b), some (.ref (o 0)), some (.ref (ma 0)), some (.int (nI i))] []) : AW U K 4 cells slots Q μ 519 [some (.ref b), some (.ref (o 0)), some (.ref (ma 0)), some (.int (nI i))] [] := by
  refine aw_aload_n X dL_law_519 rfl ?_
  refine aw_aload_n X dL_law_520 rfl ?_
  refine aw_iload_n X dL_law_521 rfl ?_
  refine aw_iconst X (1) dL_law_522 rfl ?_
  refine aw_iadd X dL_law_523 ?_
  refine aw_sld X hX (vin hi hL 1 (by decide) rfl) dL_law_524 ?_
  refine aw_aload_n X dL_law_525 rfl ?_
  refine aw_iload_n X dL_law_526 rfl ?_
  refine aw_iconst X (2) dL_law_527 rfl ?_
  refine aw_iadd X dL_law_528 ?_
  refine aw_sld X hX (vin hi hL 2 (by decide) rfl) dL_law_529 ?_
  refine aw_p4 (As := [.int _, .int _]) X hLI (pr_tanker hl _ _) s_L_70 k_X4_tanker (by decide) ⟨rfl, rfl⟩ hf rfl (by exact Nat.le_of_ble_eq_true rfl) rfl dL_law_530 (fun μ r hM => ?_)
  refine aw_aload_n X dL_law_533 rfl ?_
  refine aw_aload_n X dL_law_534 rfl ?_
  refine aw_iload_n X dL_law_535 rfl ?_
  refine aw_iconst X (1) dL_law_536 rfl ?_
  refine aw_iadd X dL_law_537 ?_
  refine aw_sld X hX (vin hi hL 1 (by decide) rfl) dL_law_538 ?_
  refine aw_aload_n X dL_law_539 rfl ?_
  refine aw_iload_n X dL_law_540 rfl ?_
  refine aw_iconst X (2) dL_law_541 rfl ?_
  refine aw_iadd X dL_law_542 ?_
  refine aw_sld X hX (vin hi hL 2 (by decide) rfl) dL_law_543 ?_
  refine aw_p5 (As := [.int _, .int _]) X hM s_L_73 k_X5_tanker (by decide) ⟨rfl, rfl⟩ hf rfl (by exact Nat.le_of_ble_eq_true rfl) rfl dL_law_544 (fun μ hLI => ?_)
  exact aw_icmp_eq_t (tgt := 907) X dL_law_547 (by decide) rfl (kk _ hLI)
theorem lc_hose (X : Cx U K yL_law cL_law 4 (some .boolean) room_1) (hX : va_X b L xs (ks K) (ks K).heap ∧ b < (ks K).heap.size ∧ ¬ uB U b) (hl : LA lab ma) (hf : cells ≤ room_1.cells ∧ slots ≤ room_1.slots) (hi : i + 5 ≤ L) (hL : L ≤ 2560) {μ : xH} (hLI : LI U lab pa o ma μ) (kk : ∀ μ' : xH, LI U lab pa o ma μ' → AW U K 4 cells slots Q μ' 907 [some (.ref b), some (.ref (o 0)), some (.ref (ma 0)), some (.int (nI i))] []) : AW U K 4 cells slots Q μ 552 [some (.ref b), some (.ref (o 0)), some (.ref (ma 0)), some (.int (nI i))] [] := by
  refine aw_aload_n X dL_law_552 rfl ?_
  refine aw_aload_n X dL_law_553 rfl ?_
  refine aw_iload_n X dL_law_554 rfl ?_
  refine aw_iconst X (1) dL_law_555 rfl ?_
  refine aw_iadd X dL_law_556 ?_
  refine aw_sld X hX (vin hi hL 1 (by decide) rfl) dL_law_557 ?_
  refine aw_aload_n X dL_law_558 rfl ?_
  refine aw_iload_n X dL_law_559 rfl ?_
  refine aw_iconst X (2) dL_law_560 rfl ?_
  refine aw_iadd X dL_law_561 ?_
  refine aw_sld X hX (vin hi hL 2 (by decide) rfl) dL_law_562 ?_
  refine aw_p4 (As := [.int _, .int _]) X hLI (pr_hose hl _ _) s_L_74 k_X4_hose (by decide) ⟨rfl, rfl⟩ hf rfl (by exact Nat.le_of_ble_eq_true rfl) rfl dL_law_563 (fun μ r hM => ?_)
  refine aw_aload_n X dL_law_566 rfl ?_
  refine aw_aload_n X dL_law_567 rfl ?_
  refine aw_iload_n X dL_law_568 rfl ?_
  refine aw_iconst X (1) dL_law_569 rfl ?_
  refine aw_iadd X dL_law_570 ?_
  refine aw_sld X hX (vin hi hL 1 (by decide) rfl) dL_law_571 ?_
  refine aw_aload_n X dL_law_572 rfl ?_
  refine aw_iload_n X dL_law_573 rfl ?_
  refine aw_iconst X (2) dL_law_574 rfl ?_
  refine aw_iadd X dL_law_575 ?_
  refine aw_sld X hX (vin hi hL 2 (by decide) rfl) dL_law_576 ?_
  refine aw_p5 (As := [.int _, .int _]) X hM s_L_77 k_X5_hose (by decide) ⟨rfl, rfl⟩ hf rfl (by exact Nat.le_of_ble_eq_true rfl) rfl dL_law_577 (fun μ hLI => ?_)
  exact aw_icmp_eq_t (tgt := 907) X dL_law_580 (by decide) rfl (kk _ hLI)
theorem lc_grade (X : Cx U K yL_law cL_law 4 (some .boolean) room_1) (hX : va_X b L xs (ks K) (ks K).heap ∧ b < (ks K).heap.size ∧ ¬ uB U b) (hl : LA lab ma) (hf : cells ≤ room_1.cells ∧ slots ≤ room_1.slots) (hi : i + 5 ≤ L) (hL : L ≤ 2560) {μ : xH} (hLI : LI U lab pa o ma μ) (kk : ∀ μ' : xH, LI U lab pa o ma μ' → AW U K 4 cells slots Q μ' 907 [some (.ref b), some (.ref (o 0)), some (.ref (ma 0)), some (.int (nI i))] []) : AW U K 4 cells slots Q μ 585 [some (.ref b), some (.ref (o 0)), some (.ref (ma 0)), some (.int (nI i))] [] := by
  refine aw_aload_n X dL_law_585 rfl ?_
  refine aw_aload_n X dL_law_586 rfl ?_
  refine aw_iload_n X dL_law_587 rfl ?_
  refine aw_iconst X (1) dL_law_588 rfl ?_
  refine aw_iadd X dL_law_589 ?_
  refine aw_sld X hX (vin hi hL 1 (by decide) rfl) dL_law_590 ?_
  refine aw_aload_n X dL_law_591 rfl ?_
  refine aw_iload_n X dL_law_592 rfl ?_
  refine aw_iconst X (2) dL_law_593 rfl ?_
  refine aw_iadd X dL_law_594 ?_
  refine aw_sld X hX (vin hi hL 2 (by decide) rfl) dL_law_595 ?_
  refine aw_p4 (As := [.int _, .int _]) X hLI (pr_grade hl _ _) s_L_78 k_X4_grade (by decide) ⟨rfl, rfl⟩ hf rfl (by exact Nat.le_of_ble_eq_true rfl) rfl dL_law_596 (fun μ r hM => ?_)
  refine aw_aload_n X dL_law_599 rfl ?_
  refine aw_aload_n X dL_law_600 rfl ?_
  refine aw_iload_n X dL_law_601 rfl ?_
  refine aw_iconst X (1) dL_law_602 rfl ?_
  refine aw_iadd X dL_law_603 ?_
  refine aw_sld X hX (vin hi hL 1 (by decide) rfl) dL_law_604 ?_
  refine aw_aload_n X dL_law_605 rfl ?_
  refine aw_iload_n X dL_law_606 rfl ?_
  refine aw_iconst X (2) dL_law_607 rfl ?_
  refine aw_iadd X dL_law_608 ?_
  refine aw_sld X hX (vin hi hL 2 (by decide) rfl) dL_law_609 ?_
  refine aw_p5 (As := [.int _, .int _]) X hM s_L_81 k_X5_grade (by decide) ⟨rfl, rfl⟩ hf rfl (by exact Nat.le_of_ble_eq_true rfl) rfl dL_law_610 (fun μ hLI => ?_)
  exact aw_icmp_eq_t (tgt := 907) X dL_law_613 (by decide) rfl (kk _ hLI)
theorem lc_count (X : Cx U K yL_law cL_law 4 (some .boolean) room_1) (hX : va_X b L xs (ks K) (ks K).heap ∧ b < (ks K).heap.size ∧ ¬ uB U b) (hl : LA lab ma) (hf : cells ≤ room_1.cells ∧ slots ≤ room_1.slots) (hi : i + 5 ≤ L) (hL : L ≤ 2560) {μ : xH} (hLI : LI U lab pa o ma μ) (kk : ∀ μ' : xH, LI U lab pa o ma μ' → AW U K 4 cells slots Q μ' 907 [some (.ref b), some (.ref (o 0)), some (.ref (ma 0)), some (.int (nI i))] []) : AW U K 4 cells slots Q μ 618 [some (.ref b), some (.ref (o 0)), some (.ref (ma 0)), some (.int (nI i))] [] := by
  refine aw_aload_n X dL_law_618 rfl ?_
  refine aw_aload_n X dL_law_619 rfl ?_
  refine aw_iload_n X dL_law_620 rfl ?_
  refine aw_iconst X (1) dL_law_621 rfl ?_
  refine aw_iadd X dL_law_622 ?_
  refine aw_sld X hX (vin hi hL 1 (by decide) rfl) dL_law_623 ?_
  refine aw_p4 (As := [.int _]) X hLI (pr_count hl _) s_L_82 k_X4_count (by decide) ⟨rfl, rfl⟩ hf rfl (by exact Nat.le_of_ble_eq_true rfl) rfl dL_law_624 (fun μ r hM => ?_)
  refine aw_aload_n X dL_law_627 rfl ?_
  refine aw_aload_n X dL_law_628 rfl ?_
  refine aw_iload_n X dL_law_629 rfl ?_
  refine aw_iconst X (1) dL_law_630 rfl ?_
  refine aw_iadd X dL_law_631 ?_
  refine aw_sld X hX (vin hi hL 1 (by decide) rfl) dL_law_632 ?_
  refine aw_p5 (As := [.int _]) X hM s_L_85 k_X5_count (by decide) ⟨rfl, rfl⟩ hf rfl (by exact Nat.le_of_ble_eq_true rfl) rfl dL_law_633 (fun μ hLI => ?_)
  exact aw_icmp_eq_t (tgt := 907) X dL_law_636 (by decide) rfl (kk _ hLI)
theorem lc_tide (X : Cx U K yL_law cL_law 4 (some .boolean) room_1) (hX : va_X b L xs (ks K) (ks K).heap ∧ b < (ks K).heap.size ∧ ¬ uB U b) (hl : LA lab ma) (hf : cells ≤ room_1.cells ∧ slots ≤ room_1.slots) (hi : i + 5 ≤ L) (hL : L ≤ 2560) {μ : xH} (hLI : LI U lab pa o ma μ) (kk : ∀ μ' : xH, LI U lab pa o ma μ' → AW U K 4 cells slots Q μ' 907 [some (.ref b), some (.ref (o 0)), some (.ref (ma 0)), some (.int (nI i))] []) : AW U K 4 cells slots Q μ 641 [some (.ref b), some (.ref (o 0)), some (.ref (ma 0)), some (.int (nI i))] [] := by
  refine aw_aload_n X dL_law_641 rfl ?_
  refine aw_aload_n X dL_law_642 rfl ?_
  refine aw_iload_n X dL_law_643 rfl ?_
  refine aw_iconst X (1) dL_law_644 rfl ?_
  refine aw_iadd X dL_law_645 ?_
  refine aw_sld X hX (vin hi hL 1 (by decide) rfl) dL_law_646 ?_
  refine aw_p4 (As := [.int _]) X hLI (pr_tide hl _) s_L_86 k_X4_tide (by decide) ⟨rfl, rfl⟩ hf rfl (by exact Nat.le_of_ble_eq_true rfl) rfl dL_law_647 (fun μ r hM => ?_)
  refine aw_aload_n X dL_law_650 rfl ?_
  refine aw_aload_n X dL_law_651 rfl ?_
  refine aw_iload_n X dL_law_652 rfl ?_
  refine aw_iconst X (1) dL_law_653 rfl ?_
  refine aw_iadd X dL_law_654 ?_
  refine aw_sld X hX (vin hi hL 1 (by decide) rfl) dL_law_655 ?_
  refine aw_p5 (As := [.int _]) X hM s_L_89 k_X5_tide (by decide) ⟨rfl, rfl⟩ hf rfl (by exact Nat.le_of_ble_eq_true rfl) rfl dL_law_656 (fun μ hLI => ?_)
  exact aw_icmp_eq_t (tgt := 907) X dL_law_659 (by decide) rfl (kk _ hLI)
theorem lc_untilFloats (X : Cx U K yL_law cL_law 4 (some .boolean) room_1) (hX : va_X b L xs (ks K) (ks K).heap ∧ b < (ks K).heap.size ∧ ¬ uB U b) (hl : LA lab ma) (hf : cells ≤ room_1.cells ∧ slots ≤ room_1.slots) (hi : i + 5 ≤ L) (hL : L ≤ 2560) {μ : xH} (hLI : LI U lab pa o ma μ) (kk : ∀ μ' : xH, LI U lab pa o ma μ' → AW U K 4 cells slots Q μ' 907 [some (.ref b), some (.ref (o 0)), some (.ref (ma 0)), some (.int (nI i))] []) : AW U K 4 cells slots Q μ 664 [some (.ref b), some (.ref (o 0)), some (.ref (ma 0)), some (.int (nI i))] [] := by
  refine aw_aload_n X dL_law_664 rfl ?_
  refine aw_p4 (As := []) X hLI (pr_untilFloats hl) s_L_90 k_X4_untilFloats (by decide) ⟨rfl, rfl⟩ hf rfl (by exact Nat.le_of_ble_eq_true rfl) rfl dL_law_665 (fun μ r hM => ?_)
  refine aw_aload_n X dL_law_668 rfl ?_
  refine aw_p5 (As := []) X hM s_L_93 k_X5_untilFloats (by decide) ⟨rfl, rfl⟩ hf rfl (by exact Nat.le_of_ble_eq_true rfl) rfl dL_law_669 (fun μ hLI => ?_)
  exact aw_icmp_eq_t (tgt := 907) X dL_law_672 (by decide) rfl (kk _ hLI)
theorem lc_safeFor (X : Cx U K yL_law cL_law 4 (some .boolean) room_1) (hX : va_X b L xs (ks K) (ks K).heap ∧ b < (ks K).heap.size ∧ ¬ uB U b) (hl : LA lab ma) (hf : cells ≤ room_1.cells ∧ slots ≤ room_1.slots) (hi : i + 5 ≤ L) (hL : L ≤ 2560) {μ : xH} (hLI : LI U lab pa o ma μ) (kk : ∀ μ' : xH, LI U lab pa o ma μ' → AW U K 4 cells slots Q μ' 907 [some (.ref b), some (.ref (o 0)), some (.ref (ma 0)), some (.int (nI i))] []) : AW U K 4 cells slots Q μ 677 [some (.ref b), some (.ref (o 0)), some (.ref (ma 0)), some (.int (nI i))] [] := by
  refine aw_aload_n X dL_law_677 rfl ?_
  refine aw_aload_n X dL_law_678 rfl ?_
  refine aw_iload_n X dL_law_679 rfl ?_
  refine aw_iconst X (1) dL_law_680 rfl ?_
  refine aw_iadd X dL_law_681 ?_
  refine aw_sld X hX (vin hi hL 1 (by decide) rfl) dL_law_682 ?_
  refine aw_p4 (As := [.int _]) X hLI (pr_safeFor hl _) s_L_94 k_X4_safeFor (by decide) ⟨rfl, rfl⟩ hf rfl (by exact Nat.le_of_ble_eq_true rfl) rfl dL_law_683 (fun μ r hM => ?_)
  refine aw_aload_n X dL_law_686 rfl ?_
  refine aw_aload_n X dL_law_687 rfl ?_
  refine aw_iload_n X dL_law_688 rfl ?_
  refine aw_iconst X (1) dL_law_689 rfl ?_
  refine aw_iadd X dL_law_690 ?_
  refine aw_sld X hX (vin hi hL 1 (by decide) rfl) dL_law_691 ?_
  refine aw_p5 (As := [.int _]) X hM s_L_97 k_X5_safeFor (by decide) ⟨rfl, rfl⟩ hf rfl (by exact Nat.le_of_ble_eq_true rfl) rfl dL_law_692 (fun μ hLI => ?_)
  exact aw_icmp_eq_t (tgt := 907) X dL_law_695 (by decide) rfl (kk _ hLI)
theorem lc_untilEmpty (X : Cx U K yL_law cL_law 4 (some .boolean) room_1) (hX : va_X b L xs (ks K) (ks K).heap ∧ b < (ks K).heap.size ∧ ¬ uB U b) (hl : LA lab ma) (hf : cells ≤ room_1.cells ∧ slots ≤ room_1.slots) (hi : i + 5 ≤ L) (hL : L ≤ 2560) {μ : xH} (hLI : LI U lab pa o ma μ) (kk : ∀ μ' : xH, LI U lab pa o ma μ' → AW U K 4 cells slots Q μ' 907 [some (.ref b), some (.ref (o 0)), some (.ref (ma 0)), some (.int (nI i))] []) : AW U K 4 cells slots Q μ 700 [some (.ref b), some (.ref (o 0)), some (.ref (ma 0)), some (.int (nI i))] [] := by
  refine aw_aload_n X dL_law_700 rfl ?_
  refine aw_p4 (As := []) X hLI (pr_untilEmpty hl) s_L_98 k_X4_untilEmpty (by decide) ⟨rfl, rfl⟩ hf rfl (by exact Nat.le_of_ble_eq_true rfl) rfl dL_law_701 (fun μ r hM => ?_)
  refine aw_aload_n X dL_law_704 rfl ?_
  refine aw_p5 (As := []) X hM s_L_101 k_X5_untilEmpty (by decide) ⟨rfl, rfl⟩ hf rfl (by exact Nat.le_of_ble_eq_true rfl) rfl dL_law_705 (fun μ hLI => ?_)
  exact aw_icmp_eq_t (tgt := 907) X dL_law_708 (by decide) rfl (kk _ hLI)
theorem lc_ifPassed (X : Cx U K yL_law cL_law 4 (some .boolean) room_1) (hX : va_X b L xs (ks K) (ks K).heap ∧ b < (ks K).heap.size ∧ ¬ uB U b) (hl : LA lab ma) (hf : cells ≤ room_1.cells ∧ slots ≤ room_1.slots) (hi : i + 5 ≤ L) (hL : L ≤ 2560) {μ : xH} (hLI : LI U lab pa o ma μ) (kk : ∀ μ' : xH, LI U lab pa o ma μ' → AW U K 4 cells slots Q μ' 907 [some (.ref b), some (.ref (o 0)), some (.ref (ma 0)), some (.int (nI i))] []) : AW U K 4 cells slots Q μ 713 [some (.ref b), some (.ref (o 0)), some (.ref (ma 0)), some (.int (nI i))] [] := by
  refine aw_aload_n X dL_law_713 rfl ?_
  refine aw_aload_n X dL_law_714 rfl ?_
  refine aw_iload_n X dL_law_715 rfl ?_
  refine aw_iconst X (1) dL_law_716 rfl ?_
  refine aw_iadd X dL_law_717 ?_
  refine aw_sld X hX (vin hi hL 1 (by decide) rfl) dL_law_718 ?_
  refine aw_aload_n X dL_law_719 rfl ?_
  refine aw_iload_n X dL_law_720 rfl ?_
  refine aw_iconst X (2) dL_law_721 rfl ?_
  refine aw_iadd X dL_law_722 ?_
  refine aw_sld X hX (vin hi hL 2 (by decide) rfl) dL_law_723 ?_
  refine aw_p4 (As := [.int _, .int _]) X hLI (pr_ifPassed hl _ _) s_L_102 k_X4_ifPassed (by decide) ⟨rfl, rfl⟩ hf rfl (by exact Nat.le_of_ble_eq_true rfl) rfl dL_law_724 (fun μ r hM => ?_)
  refine aw_aload_n X dL_law_727 rfl ?_
  refine aw_aload_n X dL_law_728 rfl ?_
  refine aw_iload_n X dL_law_729 rfl ?_
  refine aw_iconst X (1) dL_law_730 rfl ?_
  refine aw_iadd X dL_law_731 ?_
  refine aw_sld X hX (vin hi hL 1 (by decide) rfl) dL_law_732 ?_
  refine aw_aload_n X dL_law_733 rfl ?_
  refine aw_iload_n X dL_law_734 rfl ?_
  refine aw_iconst X (2) dL_law_735 rfl ?_
  refine aw_iadd X dL_law_736 ?_
  refine aw_sld X hX (vin hi hL 2 (by decide) rfl) dL_law_737 ?_
  refine aw_p5 (As := [.int _, .int _]) X hM s_L_105 k_X5_ifPassed (by decide) ⟨rfl, rfl⟩ hf rfl (by exact Nat.le_of_ble_eq_true rfl) rfl dL_law_738 (fun μ hLI => ?_)
  exact aw_icmp_eq_t (tgt := 907) X dL_law_741 (by decide) rfl (kk _ hLI)
theorem lc_leastReach (X : Cx U K yL_law cL_law 4 (some .boolean) room_1) (hX : va_X b L xs (ks K) (ks K).heap ∧ b < (ks K).heap.size ∧ ¬ uB U b) (hl : LA lab ma) (hf : cells ≤ room_1.cells ∧ slots ≤ room_1.slots) (hi : i + 5 ≤ L) (hL : L ≤ 2560) {μ : xH} (hLI : LI U lab pa o ma μ) (kk : ∀ μ' : xH, LI U lab pa o ma μ' → AW U K 4 cells slots Q μ' 907 [some (.ref b), some (.ref (o 0)), some (.ref (ma 0)), some (.int (nI i))] []) : AW U K 4 cells slots Q μ 746 [some (.ref b), some (.ref (o 0)), some (.ref (ma 0)), some (.int (nI i))] [] := by
  refine aw_aload_n X dL_law_746 rfl ?_
  refine aw_aload_n X dL_law_747 rfl ?_
  refine aw_iload_n X dL_law_748 rfl ?_
  refine aw_iconst X (1) dL_law_749 rfl ?_
  refine aw_iadd X dL_law_750 ?_
  refine aw_sld X hX (vin hi hL 1 (by decide) rfl) dL_law_751 ?_
  refine aw_p4 (As := [.int _]) X hLI (pr_leastReach hl _) s_L_106 k_X4_leastReach (by decide) ⟨rfl, rfl⟩ hf rfl (by exact Nat.le_of_ble_eq_true rfl) rfl dL_law_752 (fun μ r hM => ?_)
  refine aw_aload_n X dL_law_755 rfl ?_
  refine aw_aload_n X dL_law_756 rfl ?_
  refine aw_iload_n X dL_law_757 rfl ?_
  refine aw_iconst X (1) dL_law_758 rfl ?_
  refine aw_iadd X dL_law_759 ?_
  refine aw_sld X hX (vin hi hL 1 (by decide) rfl) dL_law_760 ?_
  refine aw_p5 (As := [.int _]) X hM s_L_109 k_X5_leastReach (by decide) ⟨rfl, rfl⟩ hf rfl (by exact Nat.le_of_ble_eq_true rfl) rfl dL_law_761 (fun μ hLI => ?_)
  exact aw_icmp_eq_t (tgt := 907) X dL_law_764 (by decide) rfl (kk _ hLI)
theorem lc_put (X : Cx U K yL_law cL_law 4 (some .boolean) room_1) (hX : va_X b L xs (ks K) (ks K).heap ∧ b < (ks K).heap.size ∧ ¬ uB U b) (hl : LA lab ma) (hf : cells ≤ room_1.cells ∧ slots ≤ room_1.slots) (hi : i + 5 ≤ L) (hL : L ≤ 2560) {μ : xH} (hLI : LI U lab pa o ma μ) (kk : ∀ μ' : xH, LI U lab pa o ma μ' → AW U K 4 cells slots Q μ' 907 [some (.ref b), some (.ref (o 0)), some (.ref (ma 0)), some (.int (nI i))] []) : AW U K 4 cells slots Q μ 769 [some (.ref b), some (.ref (o 0)), some (.ref (ma 0)), some (.int (nI i))] [] := by
  refine aw_aload_n X dL_law_769 rfl ?_
  refine aw_aload_n X dL_law_770 rfl ?_
  refine aw_iload_n X dL_law_771 rfl ?_
  refine aw_iconst X (1) dL_law_772 rfl ?_
  refine aw_iadd X dL_law_773 ?_
  refine aw_sld X hX (vin hi hL 1 (by decide) rfl) dL_law_774 ?_
  refine aw_i2l X dL_law_775 ?_
  refine aw_bipush X (32) dL_law_776 rfl ?_
  refine aw_lshl X dL_law_778 ?_
  refine aw_aload_n X dL_law_779 rfl ?_
  refine aw_iload_n X dL_law_780 rfl ?_
  refine aw_iconst X (2) dL_law_781 rfl ?_
  refine aw_iadd X dL_law_782 ?_
  refine aw_sld X hX (vin hi hL 2 (by decide) rfl) dL_law_783 ?_
  refine aw_i2l X dL_law_784 ?_
  refine aw_ldc2 X dL_law_785 a_L_110 ?_
  refine aw_land X dL_law_788 ?_
  refine aw_lor X dL_law_789 ?_
  refine aw_p4 (As := [.long _]) X hLI (pr_put hl _) s_L_112 k_X4_put (by decide) ⟨rfl, rfl⟩ hf rfl (by exact Nat.le_of_ble_eq_true rfl) rfl dL_law_790 (fun μ r hM => ?_)
  refine aw_aload_n X dL_law_793 rfl ?_
  refine aw_aload_n X dL_law_794 rfl ?_
  refine aw_iload_n X dL_law_795 rfl ?_
  refine aw_iconst X (1) dL_law_796 rfl ?_
  refine aw_iadd X dL_law_797 ?_
  refine aw_sld X hX (vin hi hL 1 (by decide) rfl) dL_law_798 ?_
  refine aw_i2l X dL_law_799 ?_
  refine aw_bipush X (32) dL_law_800 rfl ?_
  refine aw_lshl X dL_law_802 ?_
  refine aw_aload_n X dL_law_803 rfl ?_
  refine aw_iload_n X dL_law_804 rfl ?_
  refine aw_iconst X (2) dL_law_805 rfl ?_
  refine aw_iadd X dL_law_806 ?_
  refine aw_sld X hX (vin hi hL 2 (by decide) rfl) dL_law_807 ?_
  refine aw_i2l X dL_law_808 ?_
  refine aw_ldc2 X dL_law_809 a_L_110 ?_
  refine aw_land X dL_law_812 ?_
  refine aw_lor X dL_law_813 ?_
  refine aw_p5 (As := [.long _]) X hM s_L_116 k_X5_put (by decide) ⟨rfl, rfl⟩ hf rfl (by exact Nat.le_of_ble_eq_true rfl) rfl dL_law_814 (fun μ hLI => ?_)
  exact aw_icmp_eq_t (tgt := 907) X dL_law_817 (by decide) rfl (kk _ hLI)
theorem lc_wipe (X : Cx U K yL_law cL_law 4 (some .boolean) room_1) (hX : va_X b L xs (ks K) (ks K).heap ∧ b < (ks K).heap.size ∧ ¬ uB U b) (hl : LA lab ma) (hf : cells ≤ room_1.cells ∧ slots ≤ room_1.slots) (hi : i + 5 ≤ L) (hL : L ≤ 2560) {μ : xH} (hLI : LI U lab pa o ma μ) (kk : ∀ μ' : xH, LI U lab pa o ma μ' → AW U K 4 cells slots Q μ' 907 [some (.ref b), some (.ref (o 0)), some (.ref (ma 0)), some (.int (nI i))] []) : AW U K 4 cells slots Q μ 822 [some (.ref b), some (.ref (o 0)), some (.ref (ma 0)), some (.int (nI i))] [] := by
  refine aw_aload_n X dL_law_822 rfl ?_
  refine aw_p4 (As := []) X hLI (pr_wipe hl) s_L_117 k_X4_wipe (by decide) ⟨rfl, rfl⟩ hf rfl (by exact Nat.le_of_ble_eq_true rfl) rfl dL_law_823 (fun μ r hM => ?_)
  refine aw_aload_n X dL_law_826 rfl ?_
  refine aw_p5 (As := []) X hM s_L_120 k_X5_wipe (by decide) ⟨rfl, rfl⟩ hf rfl (by exact Nat.le_of_ble_eq_true rfl) rfl dL_law_827 (fun μ hLI => ?_)
  exact aw_icmp_eq_t (tgt := 907) X dL_law_830 (by decide) rfl (kk _ hLI)
theorem lc_fault (X : Cx U K yL_law cL_law 4 (some .boolean) room_1) (hX : va_X b L xs (ks K) (ks K).heap ∧ b < (ks K).heap.size ∧ ¬ uB U b) (hl : LA lab ma) (hf : cells ≤ room_1.cells ∧ slots ≤ room_1.slots) (hi : i + 5 ≤ L) (hL : L ≤ 2560) {μ : xH} (hLI : LI U lab pa o ma μ) (kk : ∀ μ' : xH, LI U lab pa o ma μ' → AW U K 4 cells slots Q μ' 907 [some (.ref b), some (.ref (o 0)), some (.ref (ma 0)), some (.int (nI i))] []) : AW U K 4 cells slots Q μ 835 [some (.ref b), some (.ref (o 0)), some (.ref (ma 0)), some (.int (nI i))] [] := by
  refine aw_aload_n X dL_law_835 rfl ?_
  refine aw_p4 (As := []) X hLI (pr_fault hl) s_L_121 k_X4_fault (by decide) ⟨rfl, rfl⟩ hf rfl (by exact Nat.le_of_ble_eq_true rfl) rfl dL_law_836 (fun μ r hM => ?_)
  refine aw_aload_n X dL_law_839 rfl ?_
  refine aw_p5 (As := []) X hM s_L_124 k_X5_fault (by decide) ⟨rfl, rfl⟩ hf rfl (by exact Nat.le_of_ble_eq_true rfl) rfl dL_law_840 (fun μ hLI => ?_)
  exact aw_icmp_eq_t (tgt := 907) X dL_law_843 (by decide) rfl (kk _ hLI)
theorem lc_undo (X : Cx U K yL_law cL_law 4 (some .boolean) room_1) (hX : va_X b L xs (ks K) (ks K).heap ∧ b < (ks K).heap.size ∧ ¬ uB U b) (hl : LA lab ma) (hf : cells ≤ room_1.cells ∧ slots ≤ room_1.slots) (hi : i + 5 ≤ L) (hL : L ≤ 2560) {μ : xH} (hLI : LI U lab pa o ma μ) (kk : ∀ μ' : xH, LI U lab pa o ma μ' → AW U K 4 cells slots Q μ' 907 [some (.ref b), some (.ref (o 0)), some (.ref (ma 0)), some (.int (nI i))] []) : AW U K 4 cells slots Q μ 848 [some (.ref b), some (.ref (o 0)), some (.ref (ma 0)), some (.int (nI i))] [] := by
  refine aw_aload_n X dL_law_848 rfl ?_
  refine aw_p4 (As := []) X hLI (pr_undo hl) s_L_125 k_X4_undo (by decide) ⟨rfl, rfl⟩ hf rfl (by exact Nat.le_of_ble_eq_true rfl) rfl dL_law_849 (fun μ r hM => ?_)
  refine aw_aload_n X dL_law_852 rfl ?_
  refine aw_p5 (As := []) X hM s_L_128 k_X5_undo (by decide) ⟨rfl, rfl⟩ hf rfl (by exact Nat.le_of_ble_eq_true rfl) rfl dL_law_853 (fun μ hLI => ?_)
  exact aw_icmp_eq_t (tgt := 907) X dL_law_856 (by decide) rfl (kk _ hLI)
theorem lc_save (X : Cx U K yL_law cL_law 4 (some .boolean) room_1) (hX : va_X b L xs (ks K) (ks K).heap ∧ b < (ks K).heap.size ∧ ¬ uB U b) (hl : LA lab ma) (hf : cells ≤ room_1.cells ∧ slots ≤ room_1.slots) (hi : i + 5 ≤ L) (hL : L ≤ 2560) {μ : xH} (hLI : LI U lab pa o ma μ) (kk : ∀ μ' : xH, LI U lab pa o ma μ' → AW U K 4 cells slots Q μ' 907 [some (.ref b), some (.ref (o 0)), some (.ref (ma 0)), some (.int (nI i))] []) : AW U K 4 cells slots Q μ 861 [some (.ref b), some (.ref (o 0)), some (.ref (ma 0)), some (.int (nI i))] [] := by
  refine aw_aload_n X dL_law_861 rfl ?_
  refine aw_aload_n X dL_law_862 rfl ?_
  refine aw_iload_n X dL_law_863 rfl ?_
  refine aw_iconst X (1) dL_law_864 rfl ?_
  refine aw_iadd X dL_law_865 ?_
  refine aw_sld X hX (vin hi hL 1 (by decide) rfl) dL_law_866 ?_
  refine aw_p4 (As := [.int _]) X hLI (pr_save hl _) s_L_129 k_X4_save (by decide) ⟨rfl, rfl⟩ hf rfl (by exact Nat.le_of_ble_eq_true rfl) rfl dL_law_867 (fun μ r hM => ?_)
  refine aw_aload_n X dL_law_870 rfl ?_
  refine aw_aload_n X dL_law_871 rfl ?_
  refine aw_iload_n X dL_law_872 rfl ?_
  refine aw_iconst X (1) dL_law_873 rfl ?_
  refine aw_iadd X dL_law_874 ?_
  refine aw_sld X hX (vin hi hL 1 (by decide) rfl) dL_law_875 ?_
  refine aw_p5 (As := [.int _]) X hM s_L_132 k_X5_save (by decide) ⟨rfl, rfl⟩ hf rfl (by exact Nat.le_of_ble_eq_true rfl) rfl dL_law_876 (fun μ hLI => ?_)
  exact aw_icmp_eq_t (tgt := 907) X dL_law_879 (by decide) rfl (kk _ hLI)
theorem lc_restore (X : Cx U K yL_law cL_law 4 (some .boolean) room_1) (hX : va_X b L xs (ks K) (ks K).heap ∧ b < (ks K).heap.size ∧ ¬ uB U b) (hl : LA lab ma) (hf : cells ≤ room_1.cells ∧ slots ≤ room_1.slots) (hi : i + 5 ≤ L) (hL : L ≤ 2560) {μ : xH} (hLI : LI U lab pa o ma μ) (kk : ∀ μ' : xH, LI U lab pa o ma μ' → AW U K 4 cells slots Q μ' 907 [some (.ref b), some (.ref (o 0)), some (.ref (ma 0)), some (.int (nI i))] []) : AW U K 4 cells slots Q μ 884 [some (.ref b), some (.ref (o 0)), some (.ref (ma 0)), some (.int (nI i))] [] := by
  refine aw_aload_n X dL_law_884 rfl ?_
  refine aw_aload_n X dL_law_885 rfl ?_
  refine aw_iload_n X dL_law_886 rfl ?_
  refine aw_iconst X (1) dL_law_887 rfl ?_
  refine aw_iadd X dL_law_888 ?_
  refine aw_sld X hX (vin hi hL 1 (by decide) rfl) dL_law_889 ?_
  refine aw_p4 (As := [.int _]) X hLI (pr_restore hl _) s_L_133 k_X4_restore (by decide) ⟨rfl, rfl⟩ hf rfl (by exact Nat.le_of_ble_eq_true rfl) rfl dL_law_890 (fun μ r hM => ?_)
  refine aw_aload_n X dL_law_893 rfl ?_
  refine aw_aload_n X dL_law_894 rfl ?_
  refine aw_iload_n X dL_law_895 rfl ?_
  refine aw_iconst X (1) dL_law_896 rfl ?_
  refine aw_iadd X dL_law_897 ?_
  refine aw_sld X hX (vin hi hL 1 (by decide) rfl) dL_law_898 ?_
  refine aw_p5 (As := [.int _]) X hM s_L_136 k_X5_restore (by decide) ⟨rfl, rfl⟩ hf rfl (by exact Nat.le_of_ble_eq_true rfl) rfl dL_law_899 (fun μ hLI => ?_)
  exact aw_icmp_eq_t (tgt := 907) X dL_law_902 (by decide) rfl (kk _ hLI)
end XLAW
