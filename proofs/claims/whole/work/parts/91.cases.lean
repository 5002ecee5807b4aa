/-! THE LAW: its cases, a call of each kind on both -/
theorem rgI (v : Int32) : Rng v.toInt := ⟨by have := v.le_toInt; omega, by have := v.toInt_lt; omega⟩
theorem lw_c0 {L : Nat} {xs : Nat → Int32} {i : Nat} {M N : Mem} {σ : Sg} (hi : i + 6 ≤ L) (hW : SgW σ) (hT : InvT M σ) (hM : InvM N σ) (kk : ∀ σ2 M2 N2, SgW σ2 → InvT M2 σ2 → InvM N2 σ2 → Lw L xs 792 i [] M2 N2) : Lw L xs 136 i [] M N := by
  refine lw_T (np := 137) dL_law_136 rfl ?_
  refine lw_arg (np := 142) (k := 1) dL_law_137 dL_law_138 dL_law_139 dL_law_140 dL_law_141 rfl (by omega) rfl ?_
  refine lw_arg (np := 147) (k := 2) dL_law_142 dL_law_143 dL_law_144 dL_law_145 dL_law_146 rfl (by omega) rfl ?_
  refine lw_arg (np := 152) (k := 3) dL_law_147 dL_law_148 dL_law_149 dL_law_150 dL_law_151 rfl (by omega) rfl ?_
  refine lw_arg (np := 157) (k := 4) dL_law_152 dL_law_153 dL_law_154 dL_law_155 dL_law_156 rfl (by omega) rfl ?_
  refine lw_arg (np := 162) (k := 5) dL_law_157 dL_law_158 dL_law_159 dL_law_160 dL_law_161 rfl (by omega) rfl ?_
  refine lw_callT (np := 165) (ks := [xs (i + 1), xs (i + 2), xs (i + 3), xs (i + 4), xs (i + 5)]) (rest := []) (r := (spGate σ (xs (i + 1)).toInt (xs (i + 2)).toInt (xs (i + 3)).toInt (xs (i + 4)).toInt (xs (i + 5)).toInt).1) (σ := (spGate σ (xs (i + 1)).toInt (xs (i + 2)).toInt (xs (i + 3)).toInt (xs (i + 4)).toInt (xs (i + 5)).toInt).2) (sem_gate hW hT (rgI _) (rgI _) (rgI _) (rgI _) (rgI _)) moX9_gate sL_162 rfl rfl rfl (Nat.zero_le _) rfl (fun M1 h1 => ?_)
  refine lw_M (np := 166) dL_law_165 rfl ?_
  refine lw_arg (np := 171) (k := 1) dL_law_166 dL_law_167 dL_law_168 dL_law_169 dL_law_170 rfl (by omega) rfl ?_
  refine lw_arg (np := 176) (k := 2) dL_law_171 dL_law_172 dL_law_173 dL_law_174 dL_law_175 rfl (by omega) rfl ?_
  refine lw_arg (np := 181) (k := 3) dL_law_176 dL_law_177 dL_law_178 dL_law_179 dL_law_180 rfl (by omega) rfl ?_
  refine lw_arg (np := 186) (k := 4) dL_law_181 dL_law_182 dL_law_183 dL_law_184 dL_law_185 rfl (by omega) rfl ?_
  refine lw_arg (np := 191) (k := 5) dL_law_186 dL_law_187 dL_law_188 dL_law_189 dL_law_190 rfl (by omega) rfl ?_
  refine lw_callM (np := 194) (ks := [xs (i + 1), xs (i + 2), xs (i + 3), xs (i + 4), xs (i + 5)]) (rest := [.inl (Int32.ofInt (spGate σ (xs (i + 1)).toInt (xs (i + 2)).toInt (xs (i + 3)).toInt (xs (i + 4)).toInt (xs (i + 5)).toInt).1)]) (r := (spGate σ (xs (i + 1)).toInt (xs (i + 2)).toInt (xs (i + 3)).toInt (xs (i + 4)).toInt (xs (i + 5)).toInt).1) (σ := (spGate σ (xs (i + 1)).toInt (xs (i + 2)).toInt (xs (i + 3)).toInt (xs (i + 4)).toInt (xs (i + 5)).toInt).2) (sem_mgate hW hM (rgI _) (rgI _) (rgI _) (rgI _) (rgI _)) moX10_gate sL_191 rfl rfl rfl (Nat.le_of_ble_eq_true rfl) rfl (fun N1 h2 => ?_)
  exact lw_eq dL_law_194 (by decide) (kk _ M1 N1 (spGate_w hW _ _ _ _ _) h1 h2)
theorem lw_c1 {L : Nat} {xs : Nat → Int32} {i : Nat} {M N : Mem} {σ : Sg} (hi : i + 6 ≤ L) (hW : SgW σ) (hT : InvT M σ) (hM : InvM N σ) (kk : ∀ σ2 M2 N2, SgW σ2 → InvT M2 σ2 → InvM N2 σ2 → Lw L xs 792 i [] M2 N2) : Lw L xs 199 i [] M N := by
  refine lw_T (np := 200) dL_law_199 rfl ?_
  refine lw_arg (np := 205) (k := 1) dL_law_200 dL_law_201 dL_law_202 dL_law_203 dL_law_204 rfl (by omega) rfl ?_
  refine lw_callT (np := 208) (ks := [xs (i + 1)]) (rest := []) (r := (spDrop σ (xs (i + 1)).toInt).1) (σ := (spDrop σ (xs (i + 1)).toInt).2) (sem_dropGate hW hT (rgI _)) moX9_dropGate sL_205 rfl rfl rfl (Nat.zero_le _) rfl (fun M1 h1 => ?_)
  refine lw_M (np := 209) dL_law_208 rfl ?_
  refine lw_arg (np := 214) (k := 1) dL_law_209 dL_law_210 dL_law_211 dL_law_212 dL_law_213 rfl (by omega) rfl ?_
  refine lw_callM (np := 217) (ks := [xs (i + 1)]) (rest := [.inl (Int32.ofInt (spDrop σ (xs (i + 1)).toInt).1)]) (r := (spDrop σ (xs (i + 1)).toInt).1) (σ := (spDrop σ (xs (i + 1)).toInt).2) (sem_mdropGate hW hM (rgI _)) moX10_dropGate sL_214 rfl rfl rfl (Nat.le_of_ble_eq_true rfl) rfl (fun N1 h2 => ?_)
  exact lw_eq dL_law_217 (by decide) (kk _ M1 N1 (spDrop_w hW _) h1 h2)
theorem lw_c2 {L : Nat} {xs : Nat → Int32} {i : Nat} {M N : Mem} {σ : Sg} (hi : i + 6 ≤ L) (hW : SgW σ) (hT : InvT M σ) (hM : InvM N σ) (kk : ∀ σ2 M2 N2, SgW σ2 → InvT M2 σ2 → InvM N2 σ2 → Lw L xs 792 i [] M2 N2) : Lw L xs 222 i [] M N := by
  refine lw_T (np := 223) dL_law_222 rfl ?_
  refine lw_arg (np := 228) (k := 1) dL_law_223 dL_law_224 dL_law_225 dL_law_226 dL_law_227 rfl (by omega) rfl ?_
  refine lw_arg (np := 233) (k := 2) dL_law_228 dL_law_229 dL_law_230 dL_law_231 dL_law_232 rfl (by omega) rfl ?_
  refine lw_arg (np := 238) (k := 3) dL_law_233 dL_law_234 dL_law_235 dL_law_236 dL_law_237 rfl (by omega) rfl ?_
  refine lw_arg (np := 243) (k := 4) dL_law_238 dL_law_239 dL_law_240 dL_law_241 dL_law_242 rfl (by omega) rfl ?_
  refine lw_callT (np := 246) (ks := [xs (i + 1), xs (i + 2), xs (i + 3), xs (i + 4)]) (rest := []) (r := (spReg σ (xs (i + 1)).toInt (xs (i + 2)).toInt (xs (i + 3)).toInt (xs (i + 4)).toInt).1) (σ := (spReg σ (xs (i + 1)).toInt (xs (i + 2)).toInt (xs (i + 3)).toInt (xs (i + 4)).toInt).2) (sem_register hW hT (rgI _) (rgI _) (rgI _) (rgI _)) moX9_register sL_243 rfl rfl rfl (Nat.zero_le _) rfl (fun M1 h1 => ?_)
  refine lw_M (np := 247) dL_law_246 rfl ?_
  refine lw_arg (np := 252) (k := 1) dL_law_247 dL_law_248 dL_law_249 dL_law_250 dL_law_251 rfl (by omega) rfl ?_
  refine lw_arg (np := 257) (k := 2) dL_law_252 dL_law_253 dL_law_254 dL_law_255 dL_law_256 rfl (by omega) rfl ?_
  refine lw_arg (np := 262) (k := 3) dL_law_257 dL_law_258 dL_law_259 dL_law_260 dL_law_261 rfl (by omega) rfl ?_
  refine lw_arg (np := 267) (k := 4) dL_law_262 dL_law_263 dL_law_264 dL_law_265 dL_law_266 rfl (by omega) rfl ?_
  refine lw_callM (np := 270) (ks := [xs (i + 1), xs (i + 2), xs (i + 3), xs (i + 4)]) (rest := [.inl (Int32.ofInt (spReg σ (xs (i + 1)).toInt (xs (i + 2)).toInt (xs (i + 3)).toInt (xs (i + 4)).toInt).1)]) (r := (spReg σ (xs (i + 1)).toInt (xs (i + 2)).toInt (xs (i + 3)).toInt (xs (i + 4)).toInt).1) (σ := (spReg σ (xs (i + 1)).toInt (xs (i + 2)).toInt (xs (i + 3)).toInt (xs (i + 4)).toInt).2) (sem_mregister hW hM (rgI _) (rgI _) (rgI _) (rgI _)) moX10_register sL_267 rfl rfl rfl (Nat.le_of_ble_eq_true rfl) rfl (fun N1 h2 => ?_)
  exact lw_eq dL_law_270 (by decide) (kk _ M1 N1 (spReg_w hW _ _ _ _) h1 h2)
theorem lw_c3 {L : Nat} {xs : Nat → Int32} {i : Nat} {M N : Mem} {σ : Sg} (hi : i + 6 ≤ L) (hW : SgW σ) (hT : InvT M σ) (hM : InvM N σ) (kk : ∀ σ2 M2 N2, SgW σ2 → InvT M2 σ2 → InvM N2 σ2 → Lw L xs 792 i [] M2 N2) : Lw L xs 275 i [] M N := by
  refine lw_T (np := 276) dL_law_275 rfl ?_
  refine lw_arg (np := 281) (k := 1) dL_law_276 dL_law_277 dL_law_278 dL_law_279 dL_law_280 rfl (by omega) rfl ?_
  refine lw_arg (np := 286) (k := 2) dL_law_281 dL_law_282 dL_law_283 dL_law_284 dL_law_285 rfl (by omega) rfl ?_
  refine lw_callT (np := 289) (ks := [xs (i + 1), xs (i + 2)]) (rest := []) (r := (spOut σ (xs (i + 1)).toInt (xs (i + 2)).toInt).1) (σ := (spOut σ (xs (i + 1)).toInt (xs (i + 2)).toInt).2) (sem_output hW hT (rgI _) (rgI _)) moX9_output sL_286 rfl rfl rfl (Nat.zero_le _) rfl (fun M1 h1 => ?_)
  refine lw_M (np := 290) dL_law_289 rfl ?_
  refine lw_arg (np := 295) (k := 1) dL_law_290 dL_law_291 dL_law_292 dL_law_293 dL_law_294 rfl (by omega) rfl ?_
  refine lw_arg (np := 300) (k := 2) dL_law_295 dL_law_296 dL_law_297 dL_law_298 dL_law_299 rfl (by omega) rfl ?_
  refine lw_callM (np := 303) (ks := [xs (i + 1), xs (i + 2)]) (rest := [.inl (Int32.ofInt (spOut σ (xs (i + 1)).toInt (xs (i + 2)).toInt).1)]) (r := (spOut σ (xs (i + 1)).toInt (xs (i + 2)).toInt).1) (σ := (spOut σ (xs (i + 1)).toInt (xs (i + 2)).toInt).2) (sem_moutput hW hM (rgI _) (rgI _)) moX10_output sL_300 rfl rfl rfl (Nat.le_of_ble_eq_true rfl) rfl (fun N1 h2 => ?_)
  exact lw_eq dL_law_303 (by decide) (kk _ M1 N1 (spOut_w hW _ _) h1 h2)
theorem lw_c4 {L : Nat} {xs : Nat → Int32} {i : Nat} {M N : Mem} {σ : Sg} (hi : i + 6 ≤ L) (hW : SgW σ) (hT : InvT M σ) (hM : InvM N σ) (kk : ∀ σ2 M2 N2, SgW σ2 → InvT M2 σ2 → InvM N2 σ2 → Lw L xs 792 i [] M2 N2) : Lw L xs 308 i [] M N := by
  refine lw_T (np := 309) dL_law_308 rfl ?_
  refine lw_arg (np := 314) (k := 1) dL_law_309 dL_law_310 dL_law_311 dL_law_312 dL_law_313 rfl (by omega) rfl ?_
  refine lw_callT (np := 317) (ks := [xs (i + 1)]) (rest := []) (r := (spCopy σ (xs (i + 1)).toInt).1) (σ := (spCopy σ (xs (i + 1)).toInt).2) (sem_copy hW hT (rgI _)) moX9_copy sL_314 rfl rfl rfl (Nat.zero_le _) rfl (fun M1 h1 => ?_)
  refine lw_M (np := 318) dL_law_317 rfl ?_
  refine lw_arg (np := 323) (k := 1) dL_law_318 dL_law_319 dL_law_320 dL_law_321 dL_law_322 rfl (by omega) rfl ?_
  refine lw_callM (np := 326) (ks := [xs (i + 1)]) (rest := [.inl (Int32.ofInt (spCopy σ (xs (i + 1)).toInt).1)]) (r := (spCopy σ (xs (i + 1)).toInt).1) (σ := (spCopy σ (xs (i + 1)).toInt).2) (sem_mcopy hW hM (rgI _)) moX10_copy sL_323 rfl rfl rfl (Nat.le_of_ble_eq_true rfl) rfl (fun N1 h2 => ?_)
  exact lw_eq dL_law_326 (by decide) (kk _ M1 N1 (spCopy_w hW _) h1 h2)
theorem lw_c5 {L : Nat} {xs : Nat → Int32} {i : Nat} {M N : Mem} {σ : Sg} (hi : i + 6 ≤ L) (hW : SgW σ) (hT : InvT M σ) (hM : InvM N σ) (kk : ∀ σ2 M2 N2, SgW σ2 → InvT M2 σ2 → InvM N2 σ2 → Lw L xs 792 i [] M2 N2) : Lw L xs 331 i [] M N := by
  refine lw_T (np := 332) dL_law_331 rfl ?_
  refine lw_arg (np := 337) (k := 1) dL_law_332 dL_law_333 dL_law_334 dL_law_335 dL_law_336 rfl (by omega) rfl ?_
  refine lw_arg (np := 342) (k := 2) dL_law_337 dL_law_338 dL_law_339 dL_law_340 dL_law_341 rfl (by omega) rfl ?_
  refine lw_callT (np := 345) (ks := [xs (i + 1), xs (i + 2)]) (rest := []) (r := (spOf σ (xs (i + 1)).toInt (xs (i + 2)).toInt)) (σ := σ) (sem_circuitOf hW hT (rgI _) (rgI _)) moX9_circuitOf sL_342 rfl rfl rfl (Nat.zero_le _) rfl (fun M1 h1 => ?_)
  refine lw_M (np := 346) dL_law_345 rfl ?_
  refine lw_arg (np := 351) (k := 1) dL_law_346 dL_law_347 dL_law_348 dL_law_349 dL_law_350 rfl (by omega) rfl ?_
  refine lw_arg (np := 356) (k := 2) dL_law_351 dL_law_352 dL_law_353 dL_law_354 dL_law_355 rfl (by omega) rfl ?_
  refine lw_callM (np := 359) (ks := [xs (i + 1), xs (i + 2)]) (rest := [.inl (Int32.ofInt (spOf σ (xs (i + 1)).toInt (xs (i + 2)).toInt))]) (r := (spOf σ (xs (i + 1)).toInt (xs (i + 2)).toInt)) (σ := σ) (sem_mcircuitOf hW hM (rgI _) (rgI _)) moX10_circuitOf sL_356 rfl rfl rfl (Nat.le_of_ble_eq_true rfl) rfl (fun N1 h2 => ?_)
  exact lw_eq dL_law_359 (by decide) (kk _ M1 N1 hW h1 h2)
theorem lw_c6 {L : Nat} {xs : Nat → Int32} {i : Nat} {M N : Mem} {σ : Sg} (hi : i + 6 ≤ L) (hW : SgW σ) (hT : InvT M σ) (hM : InvM N σ) (kk : ∀ σ2 M2 N2, SgW σ2 → InvT M2 σ2 → InvM N2 σ2 → Lw L xs 792 i [] M2 N2) : Lw L xs 364 i [] M N := by
  refine lw_T (np := 365) dL_law_364 rfl ?_
  refine lw_arg (np := 370) (k := 1) dL_law_365 dL_law_366 dL_law_367 dL_law_368 dL_law_369 rfl (by omega) rfl ?_
  refine lw_arg (np := 375) (k := 2) dL_law_370 dL_law_371 dL_law_372 dL_law_373 dL_law_374 rfl (by omega) rfl ?_
  refine lw_arg (np := 380) (k := 3) dL_law_375 dL_law_376 dL_law_377 dL_law_378 dL_law_379 rfl (by omega) rfl ?_
  refine lw_arg (np := 385) (k := 4) dL_law_380 dL_law_381 dL_law_382 dL_law_383 dL_law_384 rfl (by omega) rfl ?_
  refine lw_callT (np := 388) (ks := [xs (i + 1), xs (i + 2), xs (i + 3), xs (i + 4)]) (rest := []) (r := (spBit σ (xs (i + 1)).toInt (xs (i + 2)).toInt (xs (i + 3)).toInt (xs (i + 4)).toInt)) (σ := σ) ((sem_bitA hW hT (rgI _) (rgI _) (rgI _) (rgI _)).imp (fun v O z => ⟨z.1, by rw [z.2]; exact hT⟩)) moX9_bit sL_385 rfl rfl rfl (Nat.zero_le _) rfl (fun M1 h1 => ?_)
  refine lw_M (np := 389) dL_law_388 rfl ?_
  refine lw_arg (np := 394) (k := 1) dL_law_389 dL_law_390 dL_law_391 dL_law_392 dL_law_393 rfl (by omega) rfl ?_
  refine lw_arg (np := 399) (k := 2) dL_law_394 dL_law_395 dL_law_396 dL_law_397 dL_law_398 rfl (by omega) rfl ?_
  refine lw_arg (np := 404) (k := 3) dL_law_399 dL_law_400 dL_law_401 dL_law_402 dL_law_403 rfl (by omega) rfl ?_
  refine lw_arg (np := 409) (k := 4) dL_law_404 dL_law_405 dL_law_406 dL_law_407 dL_law_408 rfl (by omega) rfl ?_
  refine lw_callM (np := 412) (ks := [xs (i + 1), xs (i + 2), xs (i + 3), xs (i + 4)]) (rest := [.inl (Int32.ofInt (spBit σ (xs (i + 1)).toInt (xs (i + 2)).toInt (xs (i + 3)).toInt (xs (i + 4)).toInt))]) (r := (spBit σ (xs (i + 1)).toInt (xs (i + 2)).toInt (xs (i + 3)).toInt (xs (i + 4)).toInt)) (σ := σ) (sem_mbit hW hM (rgI _) (rgI _) (rgI _) (rgI _)) moX10_bit sL_409 rfl rfl rfl (Nat.le_of_ble_eq_true rfl) rfl (fun N1 h2 => ?_)
  exact lw_eq dL_law_412 (by decide) (kk _ M1 N1 hW h1 h2)
theorem lw_c7 {L : Nat} {xs : Nat → Int32} {i : Nat} {M N : Mem} {σ : Sg} (hi : i + 6 ≤ L) (hW : SgW σ) (hT : InvT M σ) (hM : InvM N σ) (kk : ∀ σ2 M2 N2, SgW σ2 → InvT M2 σ2 → InvM N2 σ2 → Lw L xs 792 i [] M2 N2) : Lw L xs 417 i [] M N := by
  refine lw_T (np := 418) dL_law_417 rfl ?_
  refine lw_arg (np := 423) (k := 1) dL_law_418 dL_law_419 dL_law_420 dL_law_421 dL_law_422 rfl (by omega) rfl ?_
  refine lw_arg (np := 428) (k := 2) dL_law_423 dL_law_424 dL_law_425 dL_law_426 dL_law_427 rfl (by omega) rfl ?_
  refine lw_arg (np := 433) (k := 3) dL_law_428 dL_law_429 dL_law_430 dL_law_431 dL_law_432 rfl (by omega) rfl ?_
  refine lw_callT (np := 436) (ks := [xs (i + 1), xs (i + 2), xs (i + 3)]) (rest := []) (r := (spBehind σ (xs (i + 1)).toInt (xs (i + 2)).toInt (xs (i + 3)).toInt)) (σ := σ) ((sem_behindA hW hT (rgI _) (rgI _) (rgI _)).imp (fun v O z => ⟨z.1, by rw [z.2]; exact hT⟩)) moX9_behind sL_433 rfl rfl rfl (Nat.zero_le _) rfl (fun M1 h1 => ?_)
  refine lw_M (np := 437) dL_law_436 rfl ?_
  refine lw_arg (np := 442) (k := 1) dL_law_437 dL_law_438 dL_law_439 dL_law_440 dL_law_441 rfl (by omega) rfl ?_
  refine lw_arg (np := 447) (k := 2) dL_law_442 dL_law_443 dL_law_444 dL_law_445 dL_law_446 rfl (by omega) rfl ?_
  refine lw_arg (np := 452) (k := 3) dL_law_447 dL_law_448 dL_law_449 dL_law_450 dL_law_451 rfl (by omega) rfl ?_
  refine lw_callM (np := 455) (ks := [xs (i + 1), xs (i + 2), xs (i + 3)]) (rest := [.inl (Int32.ofInt (spBehind σ (xs (i + 1)).toInt (xs (i + 2)).toInt (xs (i + 3)).toInt))]) (r := (spBehind σ (xs (i + 1)).toInt (xs (i + 2)).toInt (xs (i + 3)).toInt)) (σ := σ) (sem_mbehind hW hM (rgI _) (rgI _) (rgI _)) moX10_behind sL_452 rfl rfl rfl (Nat.le_of_ble_eq_true rfl) rfl (fun N1 h2 => ?_)
  exact lw_eq dL_law_455 (by decide) (kk _ M1 N1 hW h1 h2)
theorem lw_c8 {L : Nat} {xs : Nat → Int32} {i : Nat} {M N : Mem} {σ : Sg} (hi : i + 6 ≤ L) (hW : SgW σ) (hT : InvT M σ) (hM : InvM N σ) (kk : ∀ σ2 M2 N2, SgW σ2 → InvT M2 σ2 → InvM N2 σ2 → Lw L xs 792 i [] M2 N2) : Lw L xs 460 i [] M N := by
  refine lw_T (np := 461) dL_law_460 rfl ?_
  refine lw_arg (np := 466) (k := 1) dL_law_461 dL_law_462 dL_law_463 dL_law_464 dL_law_465 rfl (by omega) rfl ?_
  refine lw_arg (np := 471) (k := 2) dL_law_466 dL_law_467 dL_law_468 dL_law_469 dL_law_470 rfl (by omega) rfl ?_
  refine lw_arg (np := 476) (k := 3) dL_law_471 dL_law_472 dL_law_473 dL_law_474 dL_law_475 rfl (by omega) rfl ?_
  refine lw_arg (np := 481) (k := 4) dL_law_476 dL_law_477 dL_law_478 dL_law_479 dL_law_480 rfl (by omega) rfl ?_
  refine lw_callT (np := 484) (ks := [xs (i + 1), xs (i + 2), xs (i + 3), xs (i + 4)]) (rest := []) (r := (spRun σ (xs (i + 1)).toInt (xs (i + 2)).toInt (xs (i + 3)).toInt (xs (i + 4)).toInt)) (σ := σ) ((sem_runA hW hT (rgI _) (rgI _) (rgI _) (rgI _)).imp (fun v O z => ⟨z.1, by rw [z.2]; exact hT⟩)) moX9_run sL_481 rfl rfl rfl (Nat.zero_le _) rfl (fun M1 h1 => ?_)
  refine lw_M (np := 485) dL_law_484 rfl ?_
  refine lw_arg (np := 490) (k := 1) dL_law_485 dL_law_486 dL_law_487 dL_law_488 dL_law_489 rfl (by omega) rfl ?_
  refine lw_arg (np := 495) (k := 2) dL_law_490 dL_law_491 dL_law_492 dL_law_493 dL_law_494 rfl (by omega) rfl ?_
  refine lw_arg (np := 500) (k := 3) dL_law_495 dL_law_496 dL_law_497 dL_law_498 dL_law_499 rfl (by omega) rfl ?_
  refine lw_arg (np := 505) (k := 4) dL_law_500 dL_law_501 dL_law_502 dL_law_503 dL_law_504 rfl (by omega) rfl ?_
  refine lw_callM (np := 508) (ks := [xs (i + 1), xs (i + 2), xs (i + 3), xs (i + 4)]) (rest := [.inl (Int32.ofInt (spRun σ (xs (i + 1)).toInt (xs (i + 2)).toInt (xs (i + 3)).toInt (xs (i + 4)).toInt))]) (r := (spRun σ (xs (i + 1)).toInt (xs (i + 2)).toInt (xs (i + 3)).toInt (xs (i + 4)).toInt)) (σ := σ) (sem_mrun hW hM (rgI _) (rgI _) (rgI _) (rgI _)) moX10_run sL_505 rfl rfl rfl (Nat.le_of_ble_eq_true rfl) rfl (fun N1 h2 => ?_)
  exact lw_eq dL_law_508 (by decide) (kk _ M1 N1 hW h1 h2)
theorem lw_c9 {L : Nat} {xs : Nat → Int32} {i : Nat} {M N : Mem} {σ : Sg} (hi : i + 6 ≤ L) (hW : SgW σ) (hT : InvT M σ) (hM : InvM N σ) (kk : ∀ σ2 M2 N2, SgW σ2 → InvT M2 σ2 → InvM N2 σ2 → Lw L xs 792 i [] M2 N2) : Lw L xs 513 i [] M N := by
  refine lw_T (np := 514) dL_law_513 rfl ?_
  refine lw_arg (np := 519) (k := 1) dL_law_514 dL_law_515 dL_law_516 dL_law_517 dL_law_518 rfl (by omega) rfl ?_
  refine lw_arg (np := 524) (k := 2) dL_law_519 dL_law_520 dL_law_521 dL_law_522 dL_law_523 rfl (by omega) rfl ?_
  refine lw_callT (np := 527) (ks := [xs (i + 1), xs (i + 2)]) (rest := []) (r := (spShare σ (xs (i + 1)).toInt (xs (i + 2)).toInt)) (σ := σ) ((sem_shareA hW hT (rgI _) (rgI _)).imp (fun v O z => ⟨z.1, by rw [z.2]; exact hT⟩)) moX9_share sL_524 rfl rfl rfl (Nat.zero_le _) rfl (fun M1 h1 => ?_)
  refine lw_M (np := 528) dL_law_527 rfl ?_
  refine lw_arg (np := 533) (k := 1) dL_law_528 dL_law_529 dL_law_530 dL_law_531 dL_law_532 rfl (by omega) rfl ?_
  refine lw_arg (np := 538) (k := 2) dL_law_533 dL_law_534 dL_law_535 dL_law_536 dL_law_537 rfl (by omega) rfl ?_
  refine lw_callM (np := 541) (ks := [xs (i + 1), xs (i + 2)]) (rest := [.inl (Int32.ofInt (spShare σ (xs (i + 1)).toInt (xs (i + 2)).toInt))]) (r := (spShare σ (xs (i + 1)).toInt (xs (i + 2)).toInt)) (σ := σ) (sem_mshare hW hM (rgI _) (rgI _)) moX10_share sL_538 rfl rfl rfl (Nat.le_of_ble_eq_true rfl) rfl (fun N1 h2 => ?_)
  exact lw_eq dL_law_541 (by decide) (kk _ M1 N1 hW h1 h2)
theorem lw_c10 {L : Nat} {xs : Nat → Int32} {i : Nat} {M N : Mem} {σ : Sg} (hi : i + 6 ≤ L) (hW : SgW σ) (hT : InvT M σ) (hM : InvM N σ) (kk : ∀ σ2 M2 N2, SgW σ2 → InvT M2 σ2 → InvM N2 σ2 → Lw L xs 792 i [] M2 N2) : Lw L xs 546 i [] M N := by
  refine lw_T (np := 547) dL_law_546 rfl ?_
  refine lw_arg (np := 552) (k := 1) dL_law_547 dL_law_548 dL_law_549 dL_law_550 dL_law_551 rfl (by omega) rfl ?_
  refine lw_arg (np := 557) (k := 2) dL_law_552 dL_law_553 dL_law_554 dL_law_555 dL_law_556 rfl (by omega) rfl ?_
  refine lw_callT (np := 560) (ks := [xs (i + 1), xs (i + 2)]) (rest := []) (r := (spPairOf σ (xs (i + 1)).toInt (xs (i + 2)).toInt)) (σ := σ) (sem_pairOf hW hT (rgI _) (rgI _)) moX9_pairOf sL_557 rfl rfl rfl (Nat.zero_le _) rfl (fun M1 h1 => ?_)
  refine lw_M (np := 561) dL_law_560 rfl ?_
  refine lw_arg (np := 566) (k := 1) dL_law_561 dL_law_562 dL_law_563 dL_law_564 dL_law_565 rfl (by omega) rfl ?_
  refine lw_arg (np := 571) (k := 2) dL_law_566 dL_law_567 dL_law_568 dL_law_569 dL_law_570 rfl (by omega) rfl ?_
  refine lw_callM (np := 574) (ks := [xs (i + 1), xs (i + 2)]) (rest := [.inl (Int32.ofInt (spPairOf σ (xs (i + 1)).toInt (xs (i + 2)).toInt))]) (r := (spPairOf σ (xs (i + 1)).toInt (xs (i + 2)).toInt)) (σ := σ) (sem_mpairOf hW hM (rgI _) (rgI _)) moX10_pairOf sL_571 rfl rfl rfl (Nat.le_of_ble_eq_true rfl) rfl (fun N1 h2 => ?_)
  exact lw_eq dL_law_574 (by decide) (kk _ M1 N1 hW h1 h2)
theorem lw_c11 {L : Nat} {xs : Nat → Int32} {i : Nat} {M N : Mem} {σ : Sg} (hi : i + 6 ≤ L) (hW : SgW σ) (hT : InvT M σ) (hM : InvM N σ) (kk : ∀ σ2 M2 N2, SgW σ2 → InvT M2 σ2 → InvM N2 σ2 → Lw L xs 792 i [] M2 N2) : Lw L xs 579 i [] M N := by
  refine lw_T (np := 580) dL_law_579 rfl ?_
  refine lw_callT (np := 583) (ks := []) (rest := []) (r := (spPairs σ)) (σ := σ) (sem_pairs hW hT) moX9_pairs sL_580 rfl rfl rfl (Nat.zero_le _) rfl (fun M1 h1 => ?_)
  refine lw_M (np := 584) dL_law_583 rfl ?_
  refine lw_callM (np := 587) (ks := []) (rest := [.inl (Int32.ofInt (spPairs σ))]) (r := (spPairs σ)) (σ := σ) (sem_mpairs hW hM) moX10_pairs sL_584 rfl rfl rfl (Nat.le_of_ble_eq_true rfl) rfl (fun N1 h2 => ?_)
  exact lw_eq dL_law_587 (by decide) (kk _ M1 N1 hW h1 h2)
theorem lw_c12 {L : Nat} {xs : Nat → Int32} {i : Nat} {M N : Mem} {σ : Sg} (hi : i + 6 ≤ L) (hW : SgW σ) (hT : InvT M σ) (hM : InvM N σ) (kk : ∀ σ2 M2 N2, SgW σ2 → InvT M2 σ2 → InvM N2 σ2 → Lw L xs 792 i [] M2 N2) : Lw L xs 592 i [] M N := by
  refine lw_T (np := 593) dL_law_592 rfl ?_
  refine lw_arg (np := 598) (k := 1) dL_law_593 dL_law_594 dL_law_595 dL_law_596 dL_law_597 rfl (by omega) rfl ?_
  refine lw_callT (np := 601) (ks := [xs (i + 1)]) (rest := []) (r := (spApart σ (xs (i + 1)).toInt)) (σ := σ) (sem_apart hW hT (rgI _)) moX9_apart sL_598 rfl rfl rfl (Nat.zero_le _) rfl (fun M1 h1 => ?_)
  refine lw_M (np := 602) dL_law_601 rfl ?_
  refine lw_arg (np := 607) (k := 1) dL_law_602 dL_law_603 dL_law_604 dL_law_605 dL_law_606 rfl (by omega) rfl ?_
  refine lw_callM (np := 610) (ks := [xs (i + 1)]) (rest := [.inl (Int32.ofInt (spApart σ (xs (i + 1)).toInt))]) (r := (spApart σ (xs (i + 1)).toInt)) (σ := σ) (sem_mapart hW hM (rgI _)) moX10_apart sL_607 rfl rfl rfl (Nat.le_of_ble_eq_true rfl) rfl (fun N1 h2 => ?_)
  exact lw_eq dL_law_610 (by decide) (kk _ M1 N1 hW h1 h2)
theorem lw_c13 {L : Nat} {xs : Nat → Int32} {i : Nat} {M N : Mem} {σ : Sg} (hi : i + 6 ≤ L) (hW : SgW σ) (hT : InvT M σ) (hM : InvM N σ) (kk : ∀ σ2 M2 N2, SgW σ2 → InvT M2 σ2 → InvM N2 σ2 → Lw L xs 792 i [] M2 N2) : Lw L xs 615 i [] M N := by
  refine lw_T (np := 616) dL_law_615 rfl ?_
  refine lw_callT (np := 619) (ks := []) (rest := []) (r := (spLate σ)) (σ := σ) (sem_late hW hT) moX9_late sL_616 rfl rfl rfl (Nat.zero_le _) rfl (fun M1 h1 => ?_)
  refine lw_M (np := 620) dL_law_619 rfl ?_
  refine lw_callM (np := 623) (ks := []) (rest := [.inl (Int32.ofInt (spLate σ))]) (r := (spLate σ)) (σ := σ) (sem_mlate hW hM) moX10_late sL_620 rfl rfl rfl (Nat.le_of_ble_eq_true rfl) rfl (fun N1 h2 => ?_)
  exact lw_eq dL_law_623 (by decide) (kk _ M1 N1 hW h1 h2)
theorem lw_c14 {L : Nat} {xs : Nat → Int32} {i : Nat} {M N : Mem} {σ : Sg} (hi : i + 6 ≤ L) (hW : SgW σ) (hT : InvT M σ) (hM : InvM N σ) (kk : ∀ σ2 M2 N2, SgW σ2 → InvT M2 σ2 → InvM N2 σ2 → Lw L xs 792 i [] M2 N2) : Lw L xs 628 i [] M N := by
  refine lw_T (np := 629) dL_law_628 rfl ?_
  refine lw_arg (np := 634) (k := 1) dL_law_629 dL_law_630 dL_law_631 dL_law_632 dL_law_633 rfl (by omega) rfl ?_
  refine lw_callT (np := 637) (ks := [xs (i + 1)]) (rest := []) (r := (spSame σ (xs (i + 1)).toInt)) (σ := σ) (sem_same hW hT (rgI _)) moX9_same sL_634 rfl rfl rfl (Nat.zero_le _) rfl (fun M1 h1 => ?_)
  refine lw_M (np := 638) dL_law_637 rfl ?_
  refine lw_arg (np := 643) (k := 1) dL_law_638 dL_law_639 dL_law_640 dL_law_641 dL_law_642 rfl (by omega) rfl ?_
  refine lw_callM (np := 646) (ks := [xs (i + 1)]) (rest := [.inl (Int32.ofInt (spSame σ (xs (i + 1)).toInt))]) (r := (spSame σ (xs (i + 1)).toInt)) (σ := σ) (sem_msame hW hM (rgI _)) moX10_same sL_643 rfl rfl rfl (Nat.le_of_ble_eq_true rfl) rfl (fun N1 h2 => ?_)
  exact lw_eq dL_law_646 (by decide) (kk _ M1 N1 hW h1 h2)
theorem lw_c15 {L : Nat} {xs : Nat → Int32} {i : Nat} {M N : Mem} {σ : Sg} (hi : i + 6 ≤ L) (hW : SgW σ) (hT : InvT M σ) (hM : InvM N σ) (kk : ∀ σ2 M2 N2, SgW σ2 → InvT M2 σ2 → InvM N2 σ2 → Lw L xs 792 i [] M2 N2) : Lw L xs 651 i [] M N := by
  refine lw_T (np := 652) dL_law_651 rfl ?_
  refine lw_arg (np := 657) (k := 1) dL_law_652 dL_law_653 dL_law_654 dL_law_655 dL_law_656 rfl (by omega) rfl ?_
  refine lw_callT (np := 660) (ks := [xs (i + 1)]) (rest := []) (r := (spKinds σ (xs (i + 1)).toInt)) (σ := σ) (sem_kinds hW hT (rgI _)) moX9_kinds sL_657 rfl rfl rfl (Nat.zero_le _) rfl (fun M1 h1 => ?_)
  refine lw_M (np := 661) dL_law_660 rfl ?_
  refine lw_arg (np := 666) (k := 1) dL_law_661 dL_law_662 dL_law_663 dL_law_664 dL_law_665 rfl (by omega) rfl ?_
  refine lw_callM (np := 669) (ks := [xs (i + 1)]) (rest := [.inl (Int32.ofInt (spKinds σ (xs (i + 1)).toInt))]) (r := (spKinds σ (xs (i + 1)).toInt)) (σ := σ) (sem_mkinds hW hM (rgI _)) moX10_kinds sL_666 rfl rfl rfl (Nat.le_of_ble_eq_true rfl) rfl (fun N1 h2 => ?_)
  exact lw_eq dL_law_669 (by decide) (kk _ M1 N1 hW h1 h2)
theorem lw_c16 {L : Nat} {xs : Nat → Int32} {i : Nat} {M N : Mem} {σ : Sg} (hi : i + 6 ≤ L) (hW : SgW σ) (hT : InvT M σ) (hM : InvM N σ) (kk : ∀ σ2 M2 N2, SgW σ2 → InvT M2 σ2 → InvM N2 σ2 → Lw L xs 792 i [] M2 N2) : Lw L xs 674 i [] M N := by
  refine lw_T (np := 675) dL_law_674 rfl ?_
  refine lw_arg (np := 680) (k := 1) dL_law_675 dL_law_676 dL_law_677 dL_law_678 dL_law_679 rfl (by omega) rfl ?_
  refine lw_callT (np := 683) (ks := [xs (i + 1)]) (rest := []) (r := (spCount σ (xs (i + 1)).toInt)) (σ := σ) (sem_count hW hT (rgI _)) moX9_count sL_680 rfl rfl rfl (Nat.zero_le _) rfl (fun M1 h1 => ?_)
  refine lw_M (np := 684) dL_law_683 rfl ?_
  refine lw_arg (np := 689) (k := 1) dL_law_684 dL_law_685 dL_law_686 dL_law_687 dL_law_688 rfl (by omega) rfl ?_
  refine lw_callM (np := 692) (ks := [xs (i + 1)]) (rest := [.inl (Int32.ofInt (spCount σ (xs (i + 1)).toInt))]) (r := (spCount σ (xs (i + 1)).toInt)) (σ := σ) (sem_mcount hW hM (rgI _)) moX10_count sL_689 rfl rfl rfl (Nat.le_of_ble_eq_true rfl) rfl (fun N1 h2 => ?_)
  exact lw_eq dL_law_692 (by decide) (kk _ M1 N1 hW h1 h2)
theorem lw_c17 {L : Nat} {xs : Nat → Int32} {i : Nat} {M N : Mem} {σ : Sg} (hi : i + 6 ≤ L) (hW : SgW σ) (hT : InvT M σ) (hM : InvM N σ) (kk : ∀ σ2 M2 N2, SgW σ2 → InvT M2 σ2 → InvM N2 σ2 → Lw L xs 792 i [] M2 N2) : Lw L xs 697 i [] M N := by
  refine lw_T (np := 698) dL_law_697 rfl ?_
  refine lw_callT (np := 701) (ks := []) (rest := []) (r := (spUndo σ).1) (σ := (spUndo σ).2) (sem_undo hW hT) moX9_undo sL_698 rfl rfl rfl (Nat.zero_le _) rfl (fun M1 h1 => ?_)
  refine lw_M (np := 702) dL_law_701 rfl ?_
  refine lw_callM (np := 705) (ks := []) (rest := [.inl (Int32.ofInt (spUndo σ).1)]) (r := (spUndo σ).1) (σ := (spUndo σ).2) (sem_mundo hW hM) moX10_undo sL_702 rfl rfl rfl (Nat.le_of_ble_eq_true rfl) rfl (fun N1 h2 => ?_)
  exact lw_eq dL_law_705 (by decide) (kk _ M1 N1 (spUndo_w hW) h1 h2)
theorem lw_c18 {L : Nat} {xs : Nat → Int32} {i : Nat} {M N : Mem} {σ : Sg} (hi : i + 6 ≤ L) (hW : SgW σ) (hT : InvT M σ) (hM : InvM N σ) (kk : ∀ σ2 M2 N2, SgW σ2 → InvT M2 σ2 → InvM N2 σ2 → Lw L xs 792 i [] M2 N2) : Lw L xs 710 i [] M N := by
  refine lw_T (np := 711) dL_law_710 rfl ?_
  refine lw_arg (np := 716) (k := 1) dL_law_711 dL_law_712 dL_law_713 dL_law_714 dL_law_715 rfl (by omega) rfl ?_
  refine lw_callT (np := 719) (ks := [xs (i + 1)]) (rest := []) (r := (spType σ (xs (i + 1)).toInt).1) (σ := (spType σ (xs (i + 1)).toInt).2) (sem_type hW hT (rgI _)) moX9_type sL_716 rfl rfl rfl (Nat.zero_le _) rfl (fun M1 h1 => ?_)
  refine lw_M (np := 720) dL_law_719 rfl ?_
  refine lw_arg (np := 725) (k := 1) dL_law_720 dL_law_721 dL_law_722 dL_law_723 dL_law_724 rfl (by omega) rfl ?_
  refine lw_callM (np := 728) (ks := [xs (i + 1)]) (rest := [.inl (Int32.ofInt (spType σ (xs (i + 1)).toInt).1)]) (r := (spType σ (xs (i + 1)).toInt).1) (σ := (spType σ (xs (i + 1)).toInt).2) (sem_mtype hW hM (rgI _)) moX10_type sL_725 rfl rfl rfl (Nat.le_of_ble_eq_true rfl) rfl (fun N1 h2 => ?_)
  exact lw_eq dL_law_728 (by decide) (kk _ M1 N1 (spType_w hW _) h1 h2)
theorem lw_c19 {L : Nat} {xs : Nat → Int32} {i : Nat} {M N : Mem} {σ : Sg} (hi : i + 6 ≤ L) (hW : SgW σ) (hT : InvT M σ) (hM : InvM N σ) (kk : ∀ σ2 M2 N2, SgW σ2 → InvT M2 σ2 → InvM N2 σ2 → Lw L xs 792 i [] M2 N2) : Lw L xs 733 i [] M N := by
  refine lw_T (np := 734) dL_law_733 rfl ?_
  refine lw_callT (np := 737) (ks := []) (rest := []) (r := (spClear σ).1) (σ := (spClear σ).2) (sem_clearText hT) moX9_clearText sL_734 rfl rfl rfl (Nat.zero_le _) rfl (fun M1 h1 => ?_)
  refine lw_M (np := 738) dL_law_737 rfl ?_
  refine lw_callM (np := 741) (ks := []) (rest := [.inl (Int32.ofInt (spClear σ).1)]) (r := (spClear σ).1) (σ := (spClear σ).2) (sem_mclearText hW hM) moX10_clearText sL_738 rfl rfl rfl (Nat.le_of_ble_eq_true rfl) rfl (fun N1 h2 => ?_)
  exact lw_eq dL_law_741 (by decide) (kk _ M1 N1 (spClear_w hW) h1 h2)
theorem lw_c20 {L : Nat} {xs : Nat → Int32} {i : Nat} {M N : Mem} {σ : Sg} (hi : i + 6 ≤ L) (hW : SgW σ) (hT : InvT M σ) (hM : InvM N σ) (kk : ∀ σ2 M2 N2, SgW σ2 → InvT M2 σ2 → InvM N2 σ2 → Lw L xs 792 i [] M2 N2) : Lw L xs 746 i [] M N := by
  refine lw_T (np := 747) dL_law_746 rfl ?_
  refine lw_arg (np := 752) (k := 1) dL_law_747 dL_law_748 dL_law_749 dL_law_750 dL_law_751 rfl (by omega) rfl ?_
  refine lw_callT (np := 755) (ks := [xs (i + 1)]) (rest := []) (r := (spFault σ (xs (i + 1)).toInt)) (σ := σ) (sem_fault hW hT (rgI _)) moX9_fault sL_752 rfl rfl rfl (Nat.zero_le _) rfl (fun M1 h1 => ?_)
  refine lw_M (np := 756) dL_law_755 rfl ?_
  refine lw_arg (np := 761) (k := 1) dL_law_756 dL_law_757 dL_law_758 dL_law_759 dL_law_760 rfl (by omega) rfl ?_
  refine lw_callM (np := 764) (ks := [xs (i + 1)]) (rest := [.inl (Int32.ofInt (spFault σ (xs (i + 1)).toInt))]) (r := (spFault σ (xs (i + 1)).toInt)) (σ := σ) (sem_mfault hW hM (rgI _)) moX10_fault sL_761 rfl rfl rfl (Nat.le_of_ble_eq_true rfl) rfl (fun N1 h2 => ?_)
  exact lw_eq dL_law_764 (by decide) (kk _ M1 N1 hW h1 h2)
theorem lw_c21 {L : Nat} {xs : Nat → Int32} {i : Nat} {M N : Mem} {σ : Sg} (hi : i + 6 ≤ L) (hW : SgW σ) (hT : InvT M σ) (hM : InvM N σ) (kk : ∀ σ2 M2 N2, SgW σ2 → InvT M2 σ2 → InvM N2 σ2 → Lw L xs 792 i [] M2 N2) : Lw L xs 769 i [] M N := by
  refine lw_T (np := 770) dL_law_769 rfl ?_
  refine lw_arg (np := 775) (k := 1) dL_law_770 dL_law_771 dL_law_772 dL_law_773 dL_law_774 rfl (by omega) rfl ?_
  refine lw_callT (np := 778) (ks := [xs (i + 1)]) (rest := []) (r := (spRead σ (xs (i + 1)).toInt).1) (σ := (spRead σ (xs (i + 1)).toInt).2) (sem_read hW hT (rgI _)) moX9_read sL_775 rfl rfl rfl (Nat.zero_le _) rfl (fun M1 h1 => ?_)
  refine lw_M (np := 779) dL_law_778 rfl ?_
  refine lw_arg (np := 784) (k := 1) dL_law_779 dL_law_780 dL_law_781 dL_law_782 dL_law_783 rfl (by omega) rfl ?_
  refine lw_callM (np := 787) (ks := [xs (i + 1)]) (rest := [.inl (Int32.ofInt (spRead σ (xs (i + 1)).toInt).1)]) (r := (spRead σ (xs (i + 1)).toInt).1) (σ := (spRead σ (xs (i + 1)).toInt).2) (sem_mread hW hM (rgI _)) moX10_read sL_784 rfl rfl rfl (Nat.le_of_ble_eq_true rfl) rfl (fun N1 h2 => ?_)
  exact lw_eq dL_law_787 (by decide) (kk _ M1 N1 (spRead_w hW _) h1 h2)
theorem lw_mod (v : Int32) : (v &&& 31).toInt = v.toInt % 32 := by
  have h := fx_mask v.toInt 5 (by decide)
  rw [Int32.ofInt_toInt] at h
  have e : v &&& 31 = Int32.ofInt (v.toInt % ((2 ^ 5 : Nat) : Int)) := h
  rw [e, i32_toInt ⟨by omega, by omega⟩]
  rfl
section LS
variable {L : Nat} {xs : Nat → Int32} {i : Nat} {M N : Mem}
theorem lw_next (kk : Lw L xs 18 (i + 6) [] M N) : Lw L xs 792 i [] M N := by
  intro p l e s m below meth c b aT aM ty D H locs ls hF hP hR hS hl
  obtain ⟨⟨hx, hb, -⟩, -⟩ := id hF
  refine lv_iinc (k := 0) (v := nI (i + 6)) hx hb dL_law_792 hl rfl (nI_add i 6) (by decide) rfl (fun ls hl => ?_)
  refine lv_goto (tgt := 18) hx hb dL_law_795 (by decide) ?_
  exact kk p l e s m below meth c b aT aM ty D H locs ls hF hP hR hS hl
theorem lw_sel {k tgt : Nat} {off : Int} (hi : i < L) (h : (xs i).toInt % 32 = (k : Int)) (hk : k ≤ 21) (ho : (#[103, 166, 189, 242, 275, 298, 331, 384, 427, 480, 513, 546, 559, 582, 595, 618, 641, 664, 677, 700, 713, 736] : Array Int)[k]? = some off) (ht : (33 : Int) + off = (tgt : Int)) (kk : Lw L xs tgt i [] M N) : Lw L xs 27 i [] M N := by
  intro p l e s m below meth c b aT aM ty D H locs ls hF hP hR hS hl
  obtain ⟨⟨hx, hb, -, -, -, -, hX, hbl, -, -⟩, hL, -⟩ := id hF
  refine lv_aload_n hx hb dL_law_27 rfl (lv_at hl 3 rfl) ?_
  refine lv_iload_n hx hb dL_law_28 rfl (lv_at hl 0 rfl) ?_
  refine va_sld hx hb hX hbl (A := fun q => s.heap.size ≤ q) (Nat.not_le.mpr hbl) hS (nI_in hi (by omega)) dL_law_29 ?_
  rw [nI_clamp (by omega)]
  refine lv_bipush (v := 31) hx hb dL_law_30 (by decide) ?_
  refine lv_iand hx hb dL_law_32 ?_
  refine lv_tableIn (off := off) (tgt := tgt) hx hb dL_law_33 (by rw [lw_mod, h]; omega) (by rw [lw_mod, h]; omega) ?_ ht ?_
  · rw [lw_mod, h, Int.sub_zero, Int.toNat_natCast]
    exact ho
  · exact kk p l e s m below meth c b aT aM ty D H locs ls hF hP hR hS hl
theorem lw_def (hi : i < L) (h : 21 < (xs i).toInt % 32) (kk : Lw L xs 792 i [] M N) : Lw L xs 27 i [] M N := by
  intro p l e s m below meth c b aT aM ty D H locs ls hF hP hR hS hl
  obtain ⟨⟨hx, hb, -, -, -, -, hX, hbl, -, -⟩, hL, -⟩ := id hF
  refine lv_aload_n hx hb dL_law_27 rfl (lv_at hl 3 rfl) ?_
  refine lv_iload_n hx hb dL_law_28 rfl (lv_at hl 0 rfl) ?_
  refine va_sld hx hb hX hbl (A := fun q => s.heap.size ≤ q) (Nat.not_le.mpr hbl) hS (nI_in hi (by omega)) dL_law_29 ?_
  rw [nI_clamp (by omega)]
  refine lv_bipush (v := 31) hx hb dL_law_30 (by decide) ?_
  refine lv_iand hx hb dL_law_32 ?_
  exact lv_tableOut (tgt := 792) hx hb dL_law_33 (Or.inr (by rw [lw_mod]; exact h)) (by decide) (kk p l e s m below meth c b aT aM ty D H locs ls hF hP hR hS hl)
theorem lw_head (kk : i + 6 ≤ L → Lw L xs 27 i [] M N) (hi : i ≤ L) : Lw L xs 18 i [] M N := by
  intro p l e s m below meth c b aT aM ty D H locs ls hF hP hR hS hl
  obtain ⟨⟨hx, hb, hr, -, -, -, hX, hbl, hlocks, -⟩, hL, -⟩ := id hF
  refine lv_iload_n hx hb dL_law_18 rfl (lv_at hl 0 rfl) ?_
  refine lv_aload_n hx hb dL_law_19 rfl (lv_at hl 3 rfl) ?_
  refine va_slen hx hb hX hbl (A := fun q => s.heap.size ≤ q) (Nat.not_le.mpr hbl) hS dL_law_20 ?_
  refine lv_bipush (v := 6) hx hb dL_law_21 (by decide) ?_
  refine lv_isub hx hb dL_law_23 ?_
  have e1 : (Int32.ofNat L - 6 : Int32) = Int32.ofInt ((L : Int) - 6) := by
    rw [Int32.ofInt_sub, show Int32.ofInt (L : Int) = Int32.ofNat L from iNn L]
    rfl
  have e2 : nI i = Int32.ofInt (i : Int) := (iNn i).symm
  rw [e1, e2]
  refine lv_icmp_gt (tgt := 798) hx hb dL_law_24 (by decide) (fun hgt => ?_) (fun hgt => ?_)
  · refine lv_iconst (v := 1) hx hb dL_law_798 rfl ?_
    exact va_forget (fun q hq => hS.2.2 q hq) (lw_ret hx hb hr hlocks dL_law_799)
  · rw [i32_lt ⟨by omega, by omega⟩ ⟨by omega, by omega⟩] at hgt
    exact kk (by omega) p l e s m below meth c b aT aM ty D H locs ls hF hP hR hS (by rw [e2] at hl; rw [e2]; exact hl)
end LS
theorem lw_loop {L : Nat} {xs : Nat → Int32} : ∀ (n i : Nat) (M N : Mem) (σ : Sg), i ≤ L → L ≤ i + n → SgW σ → InvT M σ → InvM N σ → Lw L xs 18 i [] M N := by
  intro n
  induction n with
  | zero => exact fun i M N σ h1 h2 hW hT hM => lw_head (fun h => absurd h (by omega)) h1
  | succ n ih =>
    intro i M N σ h1 h2 hW hT hM
    refine lw_head (fun hi => ?_) h1
    have kk : ∀ σ2 M2 N2, SgW σ2 → InvT M2 σ2 → InvM N2 σ2 → Lw L xs 792 i [] M2 N2 := fun σ2 M2 N2 a b c => lw_next (ih (i + 6) M2 N2 σ2 hi (by omega) a b c)
    by_cases h21 : (xs i).toInt % 32 ≤ 21
    · have h0 : 0 ≤ (xs i).toInt % 32 := Int.emod_nonneg _ (by decide)
      obtain ⟨k, hk⟩ : ∃ k : Nat, (xs i).toInt % 32 = (k : Int) := ⟨((xs i).toInt % 32).toNat, (Int.toNat_of_nonneg h0).symm⟩
      have hk2 : k ≤ 21 := by omega
      match k, hk, hk2 with
      | 0, hk, _ => exact lw_sel (by omega) hk (by decide) rfl (by decide) (lw_c0 hi hW hT hM kk)
      | 1, hk, _ => exact lw_sel (by omega) hk (by decide) rfl (by decide) (lw_c1 hi hW hT hM kk)
      | 2, hk, _ => exact lw_sel (by omega) hk (by decide) rfl (by decide) (lw_c2 hi hW hT hM kk)
      | 3, hk, _ => exact lw_sel (by omega) hk (by decide) rfl (by decide) (lw_c3 hi hW hT hM kk)
      | 4, hk, _ => exact lw_sel (by omega) hk (by decide) rfl (by decide) (lw_c4 hi hW hT hM kk)
      | 5, hk, _ => exact lw_sel (by omega) hk (by decide) rfl (by decide) (lw_c5 hi hW hT hM kk)
      | 6, hk, _ => exact lw_sel (by omega) hk (by decide) rfl (by decide) (lw_c6 hi hW hT hM kk)
      | 7, hk, _ => exact lw_sel (by omega) hk (by decide) rfl (by decide) (lw_c7 hi hW hT hM kk)
      | 8, hk, _ => exact lw_sel (by omega) hk (by decide) rfl (by decide) (lw_c8 hi hW hT hM kk)
      | 9, hk, _ => exact lw_sel (by omega) hk (by decide) rfl (by decide) (lw_c9 hi hW hT hM kk)
      | 10, hk, _ => exact lw_sel (by omega) hk (by decide) rfl (by decide) (lw_c10 hi hW hT hM kk)
      | 11, hk, _ => exact lw_sel (by omega) hk (by decide) rfl (by decide) (lw_c11 hi hW hT hM kk)
      | 12, hk, _ => exact lw_sel (by omega) hk (by decide) rfl (by decide) (lw_c12 hi hW hT hM kk)
      | 13, hk, _ => exact lw_sel (by omega) hk (by decide) rfl (by decide) (lw_c13 hi hW hT hM kk)
      | 14, hk, _ => exact lw_sel (by omega) hk (by decide) rfl (by decide) (lw_c14 hi hW hT hM kk)
      | 15, hk, _ => exact lw_sel (by omega) hk (by decide) rfl (by decide) (lw_c15 hi hW hT hM kk)
      | 16, hk, _ => exact lw_sel (by omega) hk (by decide) rfl (by decide) (lw_c16 hi hW hT hM kk)
      | 17, hk, _ => exact lw_sel (by omega) hk (by decide) rfl (by decide) (lw_c17 hi hW hT hM kk)
      | 18, hk, _ => exact lw_sel (by omega) hk (by decide) rfl (by decide) (lw_c18 hi hW hT hM kk)
      | 19, hk, _ => exact lw_sel (by omega) hk (by decide) rfl (by decide) (lw_c19 hi hW hT hM kk)
      | 20, hk, _ => exact lw_sel (by omega) hk (by decide) rfl (by decide) (lw_c20 hi hW hT hM kk)
      | 21, hk, _ => exact lw_sel (by omega) hk (by decide) rfl (by decide) (lw_c21 hi hW hT hM kk)
      | k + 22, _, h => exact absurd h (by omega)
    · exact lw_def (by omega) (by omega) (kk σ M N hW hT hM)
