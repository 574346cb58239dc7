-- THE LAW: each call on both sides (written by wip/whole/gen_law.py)
abbrev lls (i : Int) : List av := [vR (-1), vR ((0 : Nat) : Int), vR ((169 : Nat) : Int), vI i]
theorem xr (x : Int32) : inR x.toInt := ⟨by have := Int32.le_toInt x; omega, by have := Int32.toInt_lt x; omega⟩
/-- how the law goes on behind a call -/
def Kt (nm : String) (L : Nat) (xs : Nat → Int32) (i B : Int) : Prop := ∀ (σ : sto) (g : G), OI σ g (B + 2) → RI σ g → g.ok → Run (M_Law nm) (rxL L xs) (198, 8577) 1175 (lls i) [] (sg σ)
section LCL
variable {nm : String} {L : Nat} {xs : Nat → Int32} {i B : Int} {σ : sto} {g : G}
theorem lc_street (hL : L ≤ 2560) (h0 : 0 ≤ i) (h1 : i + 5 ≤ L) (hI : OI σ g B) (hB : B ≤ 3998) (hR : RI σ g) (hk : g.ok) (K : Kt nm L xs i B) : Run (M_Law nm) (rxL L xs) (198, 8577) 172 (lls i) [] (sg σ) := by
  refine r_aload_n 1 d_law_172 rfl rfl ?_
  refine r_aload_n 0 d_law_173 rfl rfl ?_
  refine r_iload_n 3 d_law_174 rfl rfl ?_
  refine r_iconst d_law_175 ?_
  refine r_iadd d_law_176 ?_
  refine s_ld d_law_177 (by omega) (by omega) hL ?_
  refine r_aload_n 0 d_law_178 rfl rfl ?_
  refine r_iload_n 3 d_law_179 rfl rfl ?_
  refine r_iconst d_law_180 ?_
  refine r_iadd d_law_181 ?_
  refine s_ld d_law_182 (by omega) (by omega) hL ?_
  refine r_aload_n 0 d_law_183 rfl rfl ?_
  refine r_iload_n 3 d_law_184 rfl rfl ?_
  refine r_iconst d_law_185 ?_
  refine r_iadd d_law_186 ?_
  refine s_ld d_law_187 (by omega) (by omega) hL ?_
  refine r_cVI 7 d_law_188 lk_Law_13 vc_Van_street (cv_street hI hB hk (xr _) (xr _) (xr _)) rfl rfl rfl rfl ⟨(Nat.le_of_ble_eq_true rfl), (Nat.le_of_ble_eq_true rfl)⟩ ⟨(Nat.le_of_ble_eq_true rfl), (Nat.le_of_ble_eq_true rfl)⟩ (Nat.le_of_ble_eq_true rfl) (fun r s q => ?_)
  obtain ⟨q1, q2, q3, q4⟩ := q
  refine r_aload_n 2 d_law_191 rfl rfl ?_
  refine r_aload_n 0 d_law_192 rfl rfl ?_
  refine r_iload_n 3 d_law_193 rfl rfl ?_
  refine r_iconst d_law_194 ?_
  refine r_iadd d_law_195 ?_
  refine s_ld d_law_196 (by omega) (by omega) hL ?_
  refine r_aload_n 0 d_law_197 rfl rfl ?_
  refine r_iload_n 3 d_law_198 rfl rfl ?_
  refine r_iconst d_law_199 ?_
  refine r_iadd d_law_200 ?_
  refine s_ld d_law_201 (by omega) (by omega) hL ?_
  refine r_aload_n 0 d_law_202 rfl rfl ?_
  refine r_iload_n 3 d_law_203 rfl rfl ?_
  refine r_iconst d_law_204 ?_
  refine r_iadd d_law_205 ?_
  refine s_ld d_law_206 (by omega) (by omega) hL ?_
  refine r_cVI 8 d_law_207 lk_Law_17 vc_Mod_street (cr_street (hR.vf q4) hk (xr _) (xr _) (xr _)) rfl rfl rfl rfl ⟨(Nat.le_of_ble_eq_true rfl), (Nat.le_of_ble_eq_true rfl)⟩ ⟨(Nat.le_of_ble_eq_true rfl), (Nat.le_of_ble_eq_true rfl)⟩ (Nat.le_of_ble_eq_true rfl) (fun r2 s2 q => ?_)
  obtain ⟨q5, q6, q7⟩ := q
  rw [q1, q5]
  refine s_same 1175 d_law_210 rfl ?_
  exact K s2 _ (q2.mf q7) q6 q3
theorem lc_slow (hL : L ≤ 2560) (h0 : 0 ≤ i) (h1 : i + 5 ≤ L) (hI : OI σ g B) (hB : B ≤ 3998) (hR : RI σ g) (hk : g.ok) (K : Kt nm L xs i B) : Run (M_Law nm) (rxL L xs) (198, 8577) 215 (lls i) [] (sg σ) := by
  refine r_aload_n 1 d_law_215 rfl rfl ?_
  refine r_aload_n 0 d_law_216 rfl rfl ?_
  refine r_iload_n 3 d_law_217 rfl rfl ?_
  refine r_iconst d_law_218 ?_
  refine r_iadd d_law_219 ?_
  refine s_ld d_law_220 (by omega) (by omega) hL ?_
  refine r_aload_n 0 d_law_221 rfl rfl ?_
  refine r_iload_n 3 d_law_222 rfl rfl ?_
  refine r_iconst d_law_223 ?_
  refine r_iadd d_law_224 ?_
  refine s_ld d_law_225 (by omega) (by omega) hL ?_
  refine r_aload_n 0 d_law_226 rfl rfl ?_
  refine r_iload_n 3 d_law_227 rfl rfl ?_
  refine r_iconst d_law_228 ?_
  refine r_iadd d_law_229 ?_
  refine s_ld d_law_230 (by omega) (by omega) hL ?_
  refine r_aload_n 0 d_law_231 rfl rfl ?_
  refine r_iload_n 3 d_law_232 rfl rfl ?_
  refine r_iconst d_law_233 ?_
  refine r_iadd d_law_234 ?_
  refine s_ld d_law_235 (by omega) (by omega) hL ?_
  refine r_cVI 7 d_law_236 lk_Law_18 vc_Van_slow (cv_slow hI hB hk (xr _) (xr _) (xr _) (xr _)) rfl rfl rfl rfl ⟨(Nat.le_of_ble_eq_true rfl), (Nat.le_of_ble_eq_true rfl)⟩ ⟨(Nat.le_of_ble_eq_true rfl), (Nat.le_of_ble_eq_true rfl)⟩ (Nat.le_of_ble_eq_true rfl) (fun r s q => ?_)
  obtain ⟨q1, q2, q3, q4⟩ := q
  refine r_aload_n 2 d_law_239 rfl rfl ?_
  refine r_aload_n 0 d_law_240 rfl rfl ?_
  refine r_iload_n 3 d_law_241 rfl rfl ?_
  refine r_iconst d_law_242 ?_
  refine r_iadd d_law_243 ?_
  refine s_ld d_law_244 (by omega) (by omega) hL ?_
  refine r_aload_n 0 d_law_245 rfl rfl ?_
  refine r_iload_n 3 d_law_246 rfl rfl ?_
  refine r_iconst d_law_247 ?_
  refine r_iadd d_law_248 ?_
  refine s_ld d_law_249 (by omega) (by omega) hL ?_
  refine r_aload_n 0 d_law_250 rfl rfl ?_
  refine r_iload_n 3 d_law_251 rfl rfl ?_
  refine r_iconst d_law_252 ?_
  refine r_iadd d_law_253 ?_
  refine s_ld d_law_254 (by omega) (by omega) hL ?_
  refine r_aload_n 0 d_law_255 rfl rfl ?_
  refine r_iload_n 3 d_law_256 rfl rfl ?_
  refine r_iconst d_law_257 ?_
  refine r_iadd d_law_258 ?_
  refine s_ld d_law_259 (by omega) (by omega) hL ?_
  refine r_cVI 8 d_law_260 lk_Law_22 vc_Mod_slow (cr_slow (hR.vf q4) hk (xr _) (xr _) (xr _) (xr _)) rfl rfl rfl rfl ⟨(Nat.le_of_ble_eq_true rfl), (Nat.le_of_ble_eq_true rfl)⟩ ⟨(Nat.le_of_ble_eq_true rfl), (Nat.le_of_ble_eq_true rfl)⟩ (Nat.le_of_ble_eq_true rfl) (fun r2 s2 q => ?_)
  obtain ⟨q5, q6, q7⟩ := q
  rw [q1, q5]
  refine s_same 1175 d_law_263 rfl ?_
  exact K s2 _ (q2.mf q7) q6 q3
theorem lc_way (hL : L ≤ 2560) (h0 : 0 ≤ i) (h1 : i + 5 ≤ L) (hI : OI σ g B) (hB : B ≤ 3998) (hR : RI σ g) (hk : g.ok) (K : Kt nm L xs i B) : Run (M_Law nm) (rxL L xs) (198, 8577) 268 (lls i) [] (sg σ) := by
  refine r_aload_n 1 d_law_268 rfl rfl ?_
  refine r_aload_n 0 d_law_269 rfl rfl ?_
  refine r_iload_n 3 d_law_270 rfl rfl ?_
  refine r_iconst d_law_271 ?_
  refine r_iadd d_law_272 ?_
  refine s_ld d_law_273 (by omega) (by omega) hL ?_
  refine r_aload_n 0 d_law_274 rfl rfl ?_
  refine r_iload_n 3 d_law_275 rfl rfl ?_
  refine r_iconst d_law_276 ?_
  refine r_iadd d_law_277 ?_
  refine s_ld d_law_278 (by omega) (by omega) hL ?_
  refine r_aload_n 0 d_law_279 rfl rfl ?_
  refine r_iload_n 3 d_law_280 rfl rfl ?_
  refine r_iconst d_law_281 ?_
  refine r_iadd d_law_282 ?_
  refine s_ld d_law_283 (by omega) (by omega) hL ?_
  refine r_cVI 7 d_law_284 lk_Law_23 vc_Van_way (cv_way hI hB hk (xr _) (xr _) (xr _)) rfl rfl rfl rfl ⟨(Nat.le_of_ble_eq_true rfl), (Nat.le_of_ble_eq_true rfl)⟩ ⟨(Nat.le_of_ble_eq_true rfl), (Nat.le_of_ble_eq_true rfl)⟩ (Nat.le_of_ble_eq_true rfl) (fun r s q => ?_)
  obtain ⟨q1, q2, q3, q4⟩ := q
  refine r_aload_n 2 d_law_287 rfl rfl ?_
  refine r_aload_n 0 d_law_288 rfl rfl ?_
  refine r_iload_n 3 d_law_289 rfl rfl ?_
  refine r_iconst d_law_290 ?_
  refine r_iadd d_law_291 ?_
  refine s_ld d_law_292 (by omega) (by omega) hL ?_
  refine r_aload_n 0 d_law_293 rfl rfl ?_
  refine r_iload_n 3 d_law_294 rfl rfl ?_
  refine r_iconst d_law_295 ?_
  refine r_iadd d_law_296 ?_
  refine s_ld d_law_297 (by omega) (by omega) hL ?_
  refine r_aload_n 0 d_law_298 rfl rfl ?_
  refine r_iload_n 3 d_law_299 rfl rfl ?_
  refine r_iconst d_law_300 ?_
  refine r_iadd d_law_301 ?_
  refine s_ld d_law_302 (by omega) (by omega) hL ?_
  refine r_cVI 8 d_law_303 lk_Law_26 vc_Mod_way (cr_way (hR.vf q4) hk (xr _) (xr _) (xr _)) rfl rfl rfl rfl ⟨(Nat.le_of_ble_eq_true rfl), (Nat.le_of_ble_eq_true rfl)⟩ ⟨(Nat.le_of_ble_eq_true rfl), (Nat.le_of_ble_eq_true rfl)⟩ (Nat.le_of_ble_eq_true rfl) (fun r2 s2 q => ?_)
  obtain ⟨q5, q6, q7⟩ := q
  rw [q1, q5]
  refine s_same 1175 d_law_306 rfl ?_
  exact K s2 _ (q2.mf q7) q6 q3
theorem lc_stop (hL : L ≤ 2560) (h0 : 0 ≤ i) (h1 : i + 5 ≤ L) (hI : OI σ g B) (hB : B ≤ 3998) (hR : RI σ g) (hk : g.ok) (K : Kt nm L xs i B) : Run (M_Law nm) (rxL L xs) (198, 8577) 311 (lls i) [] (sg σ) := by
  refine r_aload_n 1 d_law_311 rfl rfl ?_
  refine r_aload_n 0 d_law_312 rfl rfl ?_
  refine r_iload_n 3 d_law_313 rfl rfl ?_
  refine r_iconst d_law_314 ?_
  refine r_iadd d_law_315 ?_
  refine s_ld d_law_316 (by omega) (by omega) hL ?_
  refine r_aload_n 0 d_law_317 rfl rfl ?_
  refine r_iload_n 3 d_law_318 rfl rfl ?_
  refine r_iconst d_law_319 ?_
  refine r_iadd d_law_320 ?_
  refine s_ld d_law_321 (by omega) (by omega) hL ?_
  refine r_aload_n 0 d_law_322 rfl rfl ?_
  refine r_iload_n 3 d_law_323 rfl rfl ?_
  refine r_iconst d_law_324 ?_
  refine r_iadd d_law_325 ?_
  refine s_ld d_law_326 (by omega) (by omega) hL ?_
  refine r_aload_n 0 d_law_327 rfl rfl ?_
  refine r_iload_n 3 d_law_328 rfl rfl ?_
  refine r_iconst d_law_329 ?_
  refine r_iadd d_law_330 ?_
  refine s_ld d_law_331 (by omega) (by omega) hL ?_
  refine r_cVI 7 d_law_332 lk_Law_27 vc_Van_stop (cv_stop hI hB hk (xr _) (xr _) (xr _) (xr _)) rfl rfl rfl rfl ⟨(Nat.le_of_ble_eq_true rfl), (Nat.le_of_ble_eq_true rfl)⟩ ⟨(Nat.le_of_ble_eq_true rfl), (Nat.le_of_ble_eq_true rfl)⟩ (Nat.le_of_ble_eq_true rfl) (fun r s q => ?_)
  obtain ⟨q1, q2, q3, q4⟩ := q
  refine r_aload_n 2 d_law_335 rfl rfl ?_
  refine r_aload_n 0 d_law_336 rfl rfl ?_
  refine r_iload_n 3 d_law_337 rfl rfl ?_
  refine r_iconst d_law_338 ?_
  refine r_iadd d_law_339 ?_
  refine s_ld d_law_340 (by omega) (by omega) hL ?_
  refine r_aload_n 0 d_law_341 rfl rfl ?_
  refine r_iload_n 3 d_law_342 rfl rfl ?_
  refine r_iconst d_law_343 ?_
  refine r_iadd d_law_344 ?_
  refine s_ld d_law_345 (by omega) (by omega) hL ?_
  refine r_aload_n 0 d_law_346 rfl rfl ?_
  refine r_iload_n 3 d_law_347 rfl rfl ?_
  refine r_iconst d_law_348 ?_
  refine r_iadd d_law_349 ?_
  refine s_ld d_law_350 (by omega) (by omega) hL ?_
  refine r_aload_n 0 d_law_351 rfl rfl ?_
  refine r_iload_n 3 d_law_352 rfl rfl ?_
  refine r_iconst d_law_353 ?_
  refine r_iadd d_law_354 ?_
  refine s_ld d_law_355 (by omega) (by omega) hL ?_
  refine r_cVI 8 d_law_356 lk_Law_30 vc_Mod_stop (cr_stop (hR.vf q4) hk (xr _) (xr _) (xr _) (xr _)) rfl rfl rfl rfl ⟨(Nat.le_of_ble_eq_true rfl), (Nat.le_of_ble_eq_true rfl)⟩ ⟨(Nat.le_of_ble_eq_true rfl), (Nat.le_of_ble_eq_true rfl)⟩ (Nat.le_of_ble_eq_true rfl) (fun r2 s2 q => ?_)
  obtain ⟨q5, q6, q7⟩ := q
  rw [q1, q5]
  refine s_same 1175 d_law_359 rfl ?_
  exact K s2 _ (q2.mf q7) q6 q3
theorem lc_span (hL : L ≤ 2560) (h0 : 0 ≤ i) (h1 : i + 5 ≤ L) (hI : OI σ g B) (hB : B ≤ 3998) (hR : RI σ g) (hk : g.ok) (K : Kt nm L xs i B) : Run (M_Law nm) (rxL L xs) (198, 8577) 364 (lls i) [] (sg σ) := by
  refine r_aload_n 1 d_law_364 rfl rfl ?_
  refine r_aload_n 0 d_law_365 rfl rfl ?_
  refine r_iload_n 3 d_law_366 rfl rfl ?_
  refine r_iconst d_law_367 ?_
  refine r_iadd d_law_368 ?_
  refine s_ld d_law_369 (by omega) (by omega) hL ?_
  refine r_aload_n 0 d_law_370 rfl rfl ?_
  refine r_iload_n 3 d_law_371 rfl rfl ?_
  refine r_iconst d_law_372 ?_
  refine r_iadd d_law_373 ?_
  refine s_ld d_law_374 (by omega) (by omega) hL ?_
  refine r_cVI 7 d_law_375 lk_Law_31 vc_Van_span (cv_span hI hB hk (xr _) (xr _)) rfl rfl rfl rfl ⟨(Nat.le_of_ble_eq_true rfl), (Nat.le_of_ble_eq_true rfl)⟩ ⟨(Nat.le_of_ble_eq_true rfl), (Nat.le_of_ble_eq_true rfl)⟩ (Nat.le_of_ble_eq_true rfl) (fun r s q => ?_)
  obtain ⟨q1, q2, q3, q4⟩ := q
  refine r_aload_n 2 d_law_378 rfl rfl ?_
  refine r_aload_n 0 d_law_379 rfl rfl ?_
  refine r_iload_n 3 d_law_380 rfl rfl ?_
  refine r_iconst d_law_381 ?_
  refine r_iadd d_law_382 ?_
  refine s_ld d_law_383 (by omega) (by omega) hL ?_
  refine r_aload_n 0 d_law_384 rfl rfl ?_
  refine r_iload_n 3 d_law_385 rfl rfl ?_
  refine r_iconst d_law_386 ?_
  refine r_iadd d_law_387 ?_
  refine s_ld d_law_388 (by omega) (by omega) hL ?_
  refine r_cVI 8 d_law_389 lk_Law_35 vc_Mod_span (cr_span (hR.vf q4) hk (xr _) (xr _)) rfl rfl rfl rfl ⟨(Nat.le_of_ble_eq_true rfl), (Nat.le_of_ble_eq_true rfl)⟩ ⟨(Nat.le_of_ble_eq_true rfl), (Nat.le_of_ble_eq_true rfl)⟩ (Nat.le_of_ble_eq_true rfl) (fun r2 s2 q => ?_)
  obtain ⟨q5, q6, q7⟩ := q
  rw [q1, q5]
  refine s_same 1175 d_law_392 rfl ?_
  exact K s2 _ (q2.mf q7) q6 q3
theorem lc_price (hL : L ≤ 2560) (h0 : 0 ≤ i) (h1 : i + 5 ≤ L) (hI : OI σ g B) (hB : B ≤ 3998) (hR : RI σ g) (hk : g.ok) (K : Kt nm L xs i B) : Run (M_Law nm) (rxL L xs) (198, 8577) 397 (lls i) [] (sg σ) := by
  refine r_aload_n 1 d_law_397 rfl rfl ?_
  refine r_aload_n 0 d_law_398 rfl rfl ?_
  refine r_iload_n 3 d_law_399 rfl rfl ?_
  refine r_iconst d_law_400 ?_
  refine r_iadd d_law_401 ?_
  refine s_ld d_law_402 (by omega) (by omega) hL ?_
  refine r_aload_n 0 d_law_403 rfl rfl ?_
  refine r_iload_n 3 d_law_404 rfl rfl ?_
  refine r_iconst d_law_405 ?_
  refine r_iadd d_law_406 ?_
  refine s_ld d_law_407 (by omega) (by omega) hL ?_
  refine r_cVI 7 d_law_408 lk_Law_36 vc_Van_price (cv_price hI hB hk (xr _) (xr _)) rfl rfl rfl rfl ⟨(Nat.le_of_ble_eq_true rfl), (Nat.le_of_ble_eq_true rfl)⟩ ⟨(Nat.le_of_ble_eq_true rfl), (Nat.le_of_ble_eq_true rfl)⟩ (Nat.le_of_ble_eq_true rfl) (fun r s q => ?_)
  obtain ⟨q1, q2, q3, q4⟩ := q
  refine r_aload_n 2 d_law_411 rfl rfl ?_
  refine r_aload_n 0 d_law_412 rfl rfl ?_
  refine r_iload_n 3 d_law_413 rfl rfl ?_
  refine r_iconst d_law_414 ?_
  refine r_iadd d_law_415 ?_
  refine s_ld d_law_416 (by omega) (by omega) hL ?_
  refine r_aload_n 0 d_law_417 rfl rfl ?_
  refine r_iload_n 3 d_law_418 rfl rfl ?_
  refine r_iconst d_law_419 ?_
  refine r_iadd d_law_420 ?_
  refine s_ld d_law_421 (by omega) (by omega) hL ?_
  refine r_cVI 8 d_law_422 lk_Law_39 vc_Mod_price (cr_price (hR.vf q4) hk (xr _) (xr _)) rfl rfl rfl rfl ⟨(Nat.le_of_ble_eq_true rfl), (Nat.le_of_ble_eq_true rfl)⟩ ⟨(Nat.le_of_ble_eq_true rfl), (Nat.le_of_ble_eq_true rfl)⟩ (Nat.le_of_ble_eq_true rfl) (fun r2 s2 q => ?_)
  obtain ⟨q5, q6, q7⟩ := q
  rw [q1, q5]
  refine s_same 1175 d_law_425 rfl ?_
  exact K s2 _ (q2.mf q7) q6 q3
theorem lc_van (hL : L ≤ 2560) (h0 : 0 ≤ i) (h1 : i + 5 ≤ L) (hI : OI σ g B) (hB : B ≤ 3998) (hR : RI σ g) (hk : g.ok) (K : Kt nm L xs i B) : Run (M_Law nm) (rxL L xs) (198, 8577) 430 (lls i) [] (sg σ) := by
  refine r_aload_n 1 d_law_430 rfl rfl ?_
  refine r_aload_n 0 d_law_431 rfl rfl ?_
  refine r_iload_n 3 d_law_432 rfl rfl ?_
  refine r_iconst d_law_433 ?_
  refine r_iadd d_law_434 ?_
  refine s_ld d_law_435 (by omega) (by omega) hL ?_
  refine r_aload_n 0 d_law_436 rfl rfl ?_
  refine r_iload_n 3 d_law_437 rfl rfl ?_
  refine r_iconst d_law_438 ?_
  refine r_iadd d_law_439 ?_
  refine s_ld d_law_440 (by omega) (by omega) hL ?_
  refine r_aload_n 0 d_law_441 rfl rfl ?_
  refine r_iload_n 3 d_law_442 rfl rfl ?_
  refine r_iconst d_law_443 ?_
  refine r_iadd d_law_444 ?_
  refine s_ld d_law_445 (by omega) (by omega) hL ?_
  refine r_cVI 7 d_law_446 lk_Law_40 vc_Van_van (cv_van hI hB hk (xr _) (xr _) (xr _)) rfl rfl rfl rfl ⟨(Nat.le_of_ble_eq_true rfl), (Nat.le_of_ble_eq_true rfl)⟩ ⟨(Nat.le_of_ble_eq_true rfl), (Nat.le_of_ble_eq_true rfl)⟩ (Nat.le_of_ble_eq_true rfl) (fun r s q => ?_)
  obtain ⟨q1, q2, q3, q4⟩ := q
  refine r_aload_n 2 d_law_449 rfl rfl ?_
  refine r_aload_n 0 d_law_450 rfl rfl ?_
  refine r_iload_n 3 d_law_451 rfl rfl ?_
  refine r_iconst d_law_452 ?_
  refine r_iadd d_law_453 ?_
  refine s_ld d_law_454 (by omega) (by omega) hL ?_
  refine r_aload_n 0 d_law_455 rfl rfl ?_
  refine r_iload_n 3 d_law_456 rfl rfl ?_
  refine r_iconst d_law_457 ?_
  refine r_iadd d_law_458 ?_
  refine s_ld d_law_459 (by omega) (by omega) hL ?_
  refine r_aload_n 0 d_law_460 rfl rfl ?_
  refine r_iload_n 3 d_law_461 rfl rfl ?_
  refine r_iconst d_law_462 ?_
  refine r_iadd d_law_463 ?_
  refine s_ld d_law_464 (by omega) (by omega) hL ?_
  refine r_cVI 8 d_law_465 lk_Law_43 vc_Mod_van (cr_van (hR.vf q4) hk (xr _) (xr _) (xr _)) rfl rfl rfl rfl ⟨(Nat.le_of_ble_eq_true rfl), (Nat.le_of_ble_eq_true rfl)⟩ ⟨(Nat.le_of_ble_eq_true rfl), (Nat.le_of_ble_eq_true rfl)⟩ (Nat.le_of_ble_eq_true rfl) (fun r2 s2 q => ?_)
  obtain ⟨q5, q6, q7⟩ := q
  rw [q1, q5]
  refine s_same 1175 d_law_468 rfl ?_
  exact K s2 _ (q2.mf q7) q6 q3
theorem lc_shift (hL : L ≤ 2560) (h0 : 0 ≤ i) (h1 : i + 5 ≤ L) (hI : OI σ g B) (hB : B ≤ 3998) (hR : RI σ g) (hk : g.ok) (K : Kt nm L xs i B) : Run (M_Law nm) (rxL L xs) (198, 8577) 473 (lls i) [] (sg σ) := by
  refine r_aload_n 1 d_law_473 rfl rfl ?_
  refine r_aload_n 0 d_law_474 rfl rfl ?_
  refine r_iload_n 3 d_law_475 rfl rfl ?_
  refine r_iconst d_law_476 ?_
  refine r_iadd d_law_477 ?_
  refine s_ld d_law_478 (by omega) (by omega) hL ?_
  refine r_aload_n 0 d_law_479 rfl rfl ?_
  refine r_iload_n 3 d_law_480 rfl rfl ?_
  refine r_iconst d_law_481 ?_
  refine r_iadd d_law_482 ?_
  refine s_ld d_law_483 (by omega) (by omega) hL ?_
  refine r_cVI 7 d_law_484 lk_Law_44 vc_Van_shift (cv_shift hI hB hk (xr _) (xr _)) rfl rfl rfl rfl ⟨(Nat.le_of_ble_eq_true rfl), (Nat.le_of_ble_eq_true rfl)⟩ ⟨(Nat.le_of_ble_eq_true rfl), (Nat.le_of_ble_eq_true rfl)⟩ (Nat.le_of_ble_eq_true rfl) (fun r s q => ?_)
  obtain ⟨q1, q2, q3, q4⟩ := q
  refine r_aload_n 2 d_law_487 rfl rfl ?_
  refine r_aload_n 0 d_law_488 rfl rfl ?_
  refine r_iload_n 3 d_law_489 rfl rfl ?_
  refine r_iconst d_law_490 ?_
  refine r_iadd d_law_491 ?_
  refine s_ld d_law_492 (by omega) (by omega) hL ?_
  refine r_aload_n 0 d_law_493 rfl rfl ?_
  refine r_iload_n 3 d_law_494 rfl rfl ?_
  refine r_iconst d_law_495 ?_
  refine r_iadd d_law_496 ?_
  refine s_ld d_law_497 (by omega) (by omega) hL ?_
  refine r_cVI 8 d_law_498 lk_Law_47 vc_Mod_shift (cr_shift (hR.vf q4) hk (xr _) (xr _)) rfl rfl rfl rfl ⟨(Nat.le_of_ble_eq_true rfl), (Nat.le_of_ble_eq_true rfl)⟩ ⟨(Nat.le_of_ble_eq_true rfl), (Nat.le_of_ble_eq_true rfl)⟩ (Nat.le_of_ble_eq_true rfl) (fun r2 s2 q => ?_)
  obtain ⟨q5, q6, q7⟩ := q
  rw [q1, q5]
  refine s_same 1175 d_law_501 rfl ?_
  exact K s2 _ (q2.mf q7) q6 q3
theorem lc_look (hL : L ≤ 2560) (h0 : 0 ≤ i) (h1 : i + 5 ≤ L) (hI : OI σ g B) (hB : B ≤ 3998) (hR : RI σ g) (hk : g.ok) (K : Kt nm L xs i B) : Run (M_Law nm) (rxL L xs) (198, 8577) 506 (lls i) [] (sg σ) := by
  refine r_aload_n 1 d_law_506 rfl rfl ?_
  refine r_aload_n 0 d_law_507 rfl rfl ?_
  refine r_iload_n 3 d_law_508 rfl rfl ?_
  refine r_iconst d_law_509 ?_
  refine r_iadd d_law_510 ?_
  refine s_ld d_law_511 (by omega) (by omega) hL ?_
  refine r_aload_n 0 d_law_512 rfl rfl ?_
  refine r_iload_n 3 d_law_513 rfl rfl ?_
  refine r_iconst d_law_514 ?_
  refine r_iadd d_law_515 ?_
  refine s_ld d_law_516 (by omega) (by omega) hL ?_
  refine r_cVI 7 d_law_517 lk_Law_48 vc_Van_look (cv_look hI hB hk (xr _) (xr _)) rfl rfl rfl rfl ⟨(Nat.le_of_ble_eq_true rfl), (Nat.le_of_ble_eq_true rfl)⟩ ⟨(Nat.le_of_ble_eq_true rfl), (Nat.le_of_ble_eq_true rfl)⟩ (Nat.le_of_ble_eq_true rfl) (fun r s q => ?_)
  obtain ⟨q1, q2, q3, q4⟩ := q
  refine r_aload_n 2 d_law_520 rfl rfl ?_
  refine r_aload_n 0 d_law_521 rfl rfl ?_
  refine r_iload_n 3 d_law_522 rfl rfl ?_
  refine r_iconst d_law_523 ?_
  refine r_iadd d_law_524 ?_
  refine s_ld d_law_525 (by omega) (by omega) hL ?_
  refine r_aload_n 0 d_law_526 rfl rfl ?_
  refine r_iload_n 3 d_law_527 rfl rfl ?_
  refine r_iconst d_law_528 ?_
  refine r_iadd d_law_529 ?_
  refine s_ld d_law_530 (by omega) (by omega) hL ?_
  refine r_cVI 8 d_law_531 lk_Law_51 vc_Mod_look (cr_look (hR.vf q4) hk (xr _) (xr _)) rfl rfl rfl rfl ⟨(Nat.le_of_ble_eq_true rfl), (Nat.le_of_ble_eq_true rfl)⟩ ⟨(Nat.le_of_ble_eq_true rfl), (Nat.le_of_ble_eq_true rfl)⟩ (Nat.le_of_ble_eq_true rfl) (fun r2 s2 q => ?_)
  obtain ⟨q5, q6, q7⟩ := q
  rw [q1, q5]
  refine s_same 1175 d_law_534 rfl ?_
  exact K s2 _ (q2.mf q7) q6 q3
theorem lc_round (hL : L ≤ 2560) (h0 : 0 ≤ i) (h1 : i + 5 ≤ L) (hI : OI σ g B) (hB : B ≤ 3998) (hR : RI σ g) (hk : g.ok) (K : Kt nm L xs i B) : Run (M_Law nm) (rxL L xs) (198, 8577) 539 (lls i) [] (sg σ) := by
  refine r_aload_n 1 d_law_539 rfl rfl ?_
  refine r_aload_n 0 d_law_540 rfl rfl ?_
  refine r_iload_n 3 d_law_541 rfl rfl ?_
  refine r_iconst d_law_542 ?_
  refine r_iadd d_law_543 ?_
  refine s_ld d_law_544 (by omega) (by omega) hL ?_
  refine r_aload_n 0 d_law_545 rfl rfl ?_
  refine r_iload_n 3 d_law_546 rfl rfl ?_
  refine r_iconst d_law_547 ?_
  refine r_iadd d_law_548 ?_
  refine s_ld d_law_549 (by omega) (by omega) hL ?_
  refine r_cVI 7 d_law_550 lk_Law_52 vc_Van_round (cv_round hI hB hk (xr _) (xr _)) rfl rfl rfl rfl ⟨(Nat.le_of_ble_eq_true rfl), (Nat.le_of_ble_eq_true rfl)⟩ ⟨(Nat.le_of_ble_eq_true rfl), (Nat.le_of_ble_eq_true rfl)⟩ (Nat.le_of_ble_eq_true rfl) (fun r s q => ?_)
  obtain ⟨q1, q2, q3, q4⟩ := q
  refine r_aload_n 2 d_law_553 rfl rfl ?_
  refine r_aload_n 0 d_law_554 rfl rfl ?_
  refine r_iload_n 3 d_law_555 rfl rfl ?_
  refine r_iconst d_law_556 ?_
  refine r_iadd d_law_557 ?_
  refine s_ld d_law_558 (by omega) (by omega) hL ?_
  refine r_aload_n 0 d_law_559 rfl rfl ?_
  refine r_iload_n 3 d_law_560 rfl rfl ?_
  refine r_iconst d_law_561 ?_
  refine r_iadd d_law_562 ?_
  refine s_ld d_law_563 (by omega) (by omega) hL ?_
  refine r_cVI 8 d_law_564 lk_Law_55 vc_Mod_round (cr_round (hR.vf q4) hk (xr _) (xr _)) rfl rfl rfl rfl ⟨(Nat.le_of_ble_eq_true rfl), (Nat.le_of_ble_eq_true rfl)⟩ ⟨(Nat.le_of_ble_eq_true rfl), (Nat.le_of_ble_eq_true rfl)⟩ (Nat.le_of_ble_eq_true rfl) (fun r2 s2 q => ?_)
  obtain ⟨q5, q6, q7⟩ := q
  rw [q1, q5]
  refine s_same 1175 d_law_567 rfl ?_
  exact K s2 _ (q2.mf q7) q6 q3
theorem lc_when (hL : L ≤ 2560) (h0 : 0 ≤ i) (h1 : i + 5 ≤ L) (hI : OI σ g B) (hB : B ≤ 3998) (hR : RI σ g) (hk : g.ok) (K : Kt nm L xs i B) : Run (M_Law nm) (rxL L xs) (198, 8577) 572 (lls i) [] (sg σ) := by
  refine r_aload_n 1 d_law_572 rfl rfl ?_
  refine r_aload_n 0 d_law_573 rfl rfl ?_
  refine r_iload_n 3 d_law_574 rfl rfl ?_
  refine r_iconst d_law_575 ?_
  refine r_iadd d_law_576 ?_
  refine s_ld d_law_577 (by omega) (by omega) hL ?_
  refine r_aload_n 0 d_law_578 rfl rfl ?_
  refine r_iload_n 3 d_law_579 rfl rfl ?_
  refine r_iconst d_law_580 ?_
  refine r_iadd d_law_581 ?_
  refine s_ld d_law_582 (by omega) (by omega) hL ?_
  refine r_aload_n 0 d_law_583 rfl rfl ?_
  refine r_iload_n 3 d_law_584 rfl rfl ?_
  refine r_iconst d_law_585 ?_
  refine r_iadd d_law_586 ?_
  refine s_ld d_law_587 (by omega) (by omega) hL ?_
  refine r_cVI 7 d_law_588 lk_Law_56 vc_Van_when (cv_when hI hB hk (xr _) (xr _) (xr _)) rfl rfl rfl rfl ⟨(Nat.le_of_ble_eq_true rfl), (Nat.le_of_ble_eq_true rfl)⟩ ⟨(Nat.le_of_ble_eq_true rfl), (Nat.le_of_ble_eq_true rfl)⟩ (Nat.le_of_ble_eq_true rfl) (fun r s q => ?_)
  obtain ⟨q1, q2, q3, q4⟩ := q
  refine r_aload_n 2 d_law_591 rfl rfl ?_
  refine r_aload_n 0 d_law_592 rfl rfl ?_
  refine r_iload_n 3 d_law_593 rfl rfl ?_
  refine r_iconst d_law_594 ?_
  refine r_iadd d_law_595 ?_
  refine s_ld d_law_596 (by omega) (by omega) hL ?_
  refine r_aload_n 0 d_law_597 rfl rfl ?_
  refine r_iload_n 3 d_law_598 rfl rfl ?_
  refine r_iconst d_law_599 ?_
  refine r_iadd d_law_600 ?_
  refine s_ld d_law_601 (by omega) (by omega) hL ?_
  refine r_aload_n 0 d_law_602 rfl rfl ?_
  refine r_iload_n 3 d_law_603 rfl rfl ?_
  refine r_iconst d_law_604 ?_
  refine r_iadd d_law_605 ?_
  refine s_ld d_law_606 (by omega) (by omega) hL ?_
  refine r_cVI 8 d_law_607 lk_Law_59 vc_Mod_when (cr_when (hR.vf q4) hk (xr _) (xr _) (xr _)) rfl rfl rfl rfl ⟨(Nat.le_of_ble_eq_true rfl), (Nat.le_of_ble_eq_true rfl)⟩ ⟨(Nat.le_of_ble_eq_true rfl), (Nat.le_of_ble_eq_true rfl)⟩ (Nat.le_of_ble_eq_true rfl) (fun r2 s2 q => ?_)
  obtain ⟨q5, q6, q7⟩ := q
  rw [q1, q5]
  refine s_same 1175 d_law_610 rfl ?_
  exact K s2 _ (q2.mf q7) q6 q3
theorem lc_cost (hL : L ≤ 2560) (h0 : 0 ≤ i) (h1 : i + 5 ≤ L) (hI : OI σ g B) (hB : B ≤ 3998) (hR : RI σ g) (hk : g.ok) (K : Kt nm L xs i B) : Run (M_Law nm) (rxL L xs) (198, 8577) 615 (lls i) [] (sg σ) := by
  refine r_aload_n 1 d_law_615 rfl rfl ?_
  refine r_aload_n 0 d_law_616 rfl rfl ?_
  refine r_iload_n 3 d_law_617 rfl rfl ?_
  refine r_iconst d_law_618 ?_
  refine r_iadd d_law_619 ?_
  refine s_ld d_law_620 (by omega) (by omega) hL ?_
  refine r_cVI 7 d_law_621 lk_Law_60 vc_Van_cost (cv_cost hI hB hk (xr _)) rfl rfl rfl rfl ⟨(Nat.le_of_ble_eq_true rfl), (Nat.le_of_ble_eq_true rfl)⟩ ⟨(Nat.le_of_ble_eq_true rfl), (Nat.le_of_ble_eq_true rfl)⟩ (Nat.le_of_ble_eq_true rfl) (fun r s q => ?_)
  obtain ⟨q1, q2, q3, q4⟩ := q
  refine r_aload_n 2 d_law_624 rfl rfl ?_
  refine r_aload_n 0 d_law_625 rfl rfl ?_
  refine r_iload_n 3 d_law_626 rfl rfl ?_
  refine r_iconst d_law_627 ?_
  refine r_iadd d_law_628 ?_
  refine s_ld d_law_629 (by omega) (by omega) hL ?_
  refine r_cVI 8 d_law_630 lk_Law_64 vc_Mod_cost (cr_cost (hR.vf q4) hk (xr _)) rfl rfl rfl rfl ⟨(Nat.le_of_ble_eq_true rfl), (Nat.le_of_ble_eq_true rfl)⟩ ⟨(Nat.le_of_ble_eq_true rfl), (Nat.le_of_ble_eq_true rfl)⟩ (Nat.le_of_ble_eq_true rfl) (fun r2 s2 q => ?_)
  obtain ⟨q5, q6, q7⟩ := q
  rw [q1, q5]
  refine s_same 1175 d_law_633 rfl ?_
  exact K s2 _ (q2.mf q7) q6 q3
theorem lc_why (hL : L ≤ 2560) (h0 : 0 ≤ i) (h1 : i + 5 ≤ L) (hI : OI σ g B) (hB : B ≤ 3998) (hR : RI σ g) (hk : g.ok) (K : Kt nm L xs i B) : Run (M_Law nm) (rxL L xs) (198, 8577) 638 (lls i) [] (sg σ) := by
  refine r_aload_n 1 d_law_638 rfl rfl ?_
  refine r_aload_n 0 d_law_639 rfl rfl ?_
  refine r_iload_n 3 d_law_640 rfl rfl ?_
  refine r_iconst d_law_641 ?_
  refine r_iadd d_law_642 ?_
  refine s_ld d_law_643 (by omega) (by omega) hL ?_
  refine r_aload_n 0 d_law_644 rfl rfl ?_
  refine r_iload_n 3 d_law_645 rfl rfl ?_
  refine r_iconst d_law_646 ?_
  refine r_iadd d_law_647 ?_
  refine s_ld d_law_648 (by omega) (by omega) hL ?_
  refine r_aload_n 0 d_law_649 rfl rfl ?_
  refine r_iload_n 3 d_law_650 rfl rfl ?_
  refine r_iconst d_law_651 ?_
  refine r_iadd d_law_652 ?_
  refine s_ld d_law_653 (by omega) (by omega) hL ?_
  refine r_cVI 7 d_law_654 lk_Law_65 vc_Van_why (cv_why hI hB hk (xr _) (xr _) (xr _)) rfl rfl rfl rfl ⟨(Nat.le_of_ble_eq_true rfl), (Nat.le_of_ble_eq_true rfl)⟩ ⟨(Nat.le_of_ble_eq_true rfl), (Nat.le_of_ble_eq_true rfl)⟩ (Nat.le_of_ble_eq_true rfl) (fun r s q => ?_)
  obtain ⟨q1, q2, q3, q4⟩ := q
  refine r_aload_n 2 d_law_657 rfl rfl ?_
  refine r_aload_n 0 d_law_658 rfl rfl ?_
  refine r_iload_n 3 d_law_659 rfl rfl ?_
  refine r_iconst d_law_660 ?_
  refine r_iadd d_law_661 ?_
  refine s_ld d_law_662 (by omega) (by omega) hL ?_
  refine r_aload_n 0 d_law_663 rfl rfl ?_
  refine r_iload_n 3 d_law_664 rfl rfl ?_
  refine r_iconst d_law_665 ?_
  refine r_iadd d_law_666 ?_
  refine s_ld d_law_667 (by omega) (by omega) hL ?_
  refine r_aload_n 0 d_law_668 rfl rfl ?_
  refine r_iload_n 3 d_law_669 rfl rfl ?_
  refine r_iconst d_law_670 ?_
  refine r_iadd d_law_671 ?_
  refine s_ld d_law_672 (by omega) (by omega) hL ?_
  refine r_cVI 8 d_law_673 lk_Law_68 vc_Mod_why (cr_why (hR.vf q4) hk (xr _) (xr _) (xr _)) rfl rfl rfl rfl ⟨(Nat.le_of_ble_eq_true rfl), (Nat.le_of_ble_eq_true rfl)⟩ ⟨(Nat.le_of_ble_eq_true rfl), (Nat.le_of_ble_eq_true rfl)⟩ (Nat.le_of_ble_eq_true rfl) (fun r2 s2 q => ?_)
  obtain ⟨q5, q6, q7⟩ := q
  rw [q1, q5]
  refine s_same 1175 d_law_676 rfl ?_
  exact K s2 _ (q2.mf q7) q6 q3
theorem lc_where (hL : L ≤ 2560) (h0 : 0 ≤ i) (h1 : i + 5 ≤ L) (hI : OI σ g B) (hB : B ≤ 3998) (hR : RI σ g) (hk : g.ok) (K : Kt nm L xs i B) : Run (M_Law nm) (rxL L xs) (198, 8577) 681 (lls i) [] (sg σ) := by
  refine r_aload_n 1 d_law_681 rfl rfl ?_
  refine r_cVI 7 d_law_682 lk_Law_69 vc_Van_where (cv_where hI hk) rfl rfl rfl rfl ⟨(Nat.le_of_ble_eq_true rfl), (Nat.le_of_ble_eq_true rfl)⟩ ⟨(Nat.le_of_ble_eq_true rfl), (Nat.le_of_ble_eq_true rfl)⟩ (Nat.le_of_ble_eq_true rfl) (fun r s q => ?_)
  obtain ⟨q1, q2, q3, q4⟩ := q
  refine r_aload_n 2 d_law_685 rfl rfl ?_
  refine r_cVI 8 d_law_686 lk_Law_73 vc_Mod_where (cr_where (hR.vf q4)) rfl rfl rfl rfl ⟨(Nat.le_of_ble_eq_true rfl), (Nat.le_of_ble_eq_true rfl)⟩ ⟨(Nat.le_of_ble_eq_true rfl), (Nat.le_of_ble_eq_true rfl)⟩ (Nat.le_of_ble_eq_true rfl) (fun r2 s2 q => ?_)
  obtain ⟨q5, q6, q7⟩ := q
  rw [q1, q5]
  refine s_same 1175 d_law_689 rfl ?_
  exact K s2 _ (q2.mf q7) q6 q3
theorem lc_put (hL : L ≤ 2560) (h0 : 0 ≤ i) (h1 : i + 5 ≤ L) (hI : OI σ g B) (hB : B ≤ 3998) (hR : RI σ g) (hk : g.ok) (K : Kt nm L xs i B) : Run (M_Law nm) (rxL L xs) (198, 8577) 694 (lls i) [] (sg σ) := by
  refine r_aload_n 1 d_law_694 rfl rfl ?_
  refine r_aload_n 0 d_law_695 rfl rfl ?_
  refine r_iload_n 3 d_law_696 rfl rfl ?_
  refine r_iconst d_law_697 ?_
  refine r_iadd d_law_698 ?_
  refine s_ld d_law_699 (by omega) (by omega) hL ?_
  refine r_aload_n 0 d_law_700 rfl rfl ?_
  refine r_iload_n 3 d_law_701 rfl rfl ?_
  refine r_iconst d_law_702 ?_
  refine r_iadd d_law_703 ?_
  refine s_ld d_law_704 (by omega) (by omega) hL ?_
  refine r_aload_n 0 d_law_705 rfl rfl ?_
  refine r_iload_n 3 d_law_706 rfl rfl ?_
  refine r_iconst d_law_707 ?_
  refine r_iadd d_law_708 ?_
  refine s_ld d_law_709 (by omega) (by omega) hL ?_
  refine r_cVI 7 d_law_710 lk_Law_74 vc_Van_put (cv_put hI hB hk (xr _) (xr _) (xr _)) rfl rfl rfl rfl ⟨(Nat.le_of_ble_eq_true rfl), (Nat.le_of_ble_eq_true rfl)⟩ ⟨(Nat.le_of_ble_eq_true rfl), (Nat.le_of_ble_eq_true rfl)⟩ (Nat.le_of_ble_eq_true rfl) (fun r s q => ?_)
  obtain ⟨q1, q2, q3, q4⟩ := q
  refine r_aload_n 2 d_law_713 rfl rfl ?_
  refine r_aload_n 0 d_law_714 rfl rfl ?_
  refine r_iload_n 3 d_law_715 rfl rfl ?_
  refine r_iconst d_law_716 ?_
  refine r_iadd d_law_717 ?_
  refine s_ld d_law_718 (by omega) (by omega) hL ?_
  refine r_aload_n 0 d_law_719 rfl rfl ?_
  refine r_iload_n 3 d_law_720 rfl rfl ?_
  refine r_iconst d_law_721 ?_
  refine r_iadd d_law_722 ?_
  refine s_ld d_law_723 (by omega) (by omega) hL ?_
  refine r_aload_n 0 d_law_724 rfl rfl ?_
  refine r_iload_n 3 d_law_725 rfl rfl ?_
  refine r_iconst d_law_726 ?_
  refine r_iadd d_law_727 ?_
  refine s_ld d_law_728 (by omega) (by omega) hL ?_
  refine r_cVI 8 d_law_729 lk_Law_77 vc_Mod_put (cr_put (hR.vf q4) hk (xr _) (xr _) (xr _)) rfl rfl rfl rfl ⟨(Nat.le_of_ble_eq_true rfl), (Nat.le_of_ble_eq_true rfl)⟩ ⟨(Nat.le_of_ble_eq_true rfl), (Nat.le_of_ble_eq_true rfl)⟩ (Nat.le_of_ble_eq_true rfl) (fun r2 s2 q => ?_)
  obtain ⟨q5, q6, q7⟩ := q
  rw [q1, q5]
  refine s_same 1175 d_law_732 rfl ?_
  exact K s2 _ (q2.mf q7) q6 q3
theorem lc_pair (hL : L ≤ 2560) (h0 : 0 ≤ i) (h1 : i + 5 ≤ L) (hI : OI σ g B) (hB : B ≤ 3998) (hR : RI σ g) (hk : g.ok) (K : Kt nm L xs i B) : Run (M_Law nm) (rxL L xs) (198, 8577) 737 (lls i) [] (sg σ) := by
  refine r_aload_n 1 d_law_737 rfl rfl ?_
  refine r_aload_n 0 d_law_738 rfl rfl ?_
  refine r_iload_n 3 d_law_739 rfl rfl ?_
  refine r_iconst d_law_740 ?_
  refine r_iadd d_law_741 ?_
  refine s_ld d_law_742 (by omega) (by omega) hL ?_
  refine r_aload_n 0 d_law_743 rfl rfl ?_
  refine r_iload_n 3 d_law_744 rfl rfl ?_
  refine r_iconst d_law_745 ?_
  refine r_iadd d_law_746 ?_
  refine s_ld d_law_747 (by omega) (by omega) hL ?_
  refine r_aload_n 0 d_law_748 rfl rfl ?_
  refine r_iload_n 3 d_law_749 rfl rfl ?_
  refine r_iconst d_law_750 ?_
  refine r_iadd d_law_751 ?_
  refine s_ld d_law_752 (by omega) (by omega) hL ?_
  refine r_aload_n 0 d_law_753 rfl rfl ?_
  refine r_iload_n 3 d_law_754 rfl rfl ?_
  refine r_iconst d_law_755 ?_
  refine r_iadd d_law_756 ?_
  refine s_ld d_law_757 (by omega) (by omega) hL ?_
  refine r_cVI 7 d_law_758 lk_Law_78 vc_Van_pair (cv_pair hI hB hk (xr _) (xr _) (xr _) (xr _)) rfl rfl rfl rfl ⟨(Nat.le_of_ble_eq_true rfl), (Nat.le_of_ble_eq_true rfl)⟩ ⟨(Nat.le_of_ble_eq_true rfl), (Nat.le_of_ble_eq_true rfl)⟩ (Nat.le_of_ble_eq_true rfl) (fun r s q => ?_)
  obtain ⟨q1, q2, q3, q4⟩ := q
  refine r_aload_n 2 d_law_761 rfl rfl ?_
  refine r_aload_n 0 d_law_762 rfl rfl ?_
  refine r_iload_n 3 d_law_763 rfl rfl ?_
  refine r_iconst d_law_764 ?_
  refine r_iadd d_law_765 ?_
  refine s_ld d_law_766 (by omega) (by omega) hL ?_
  refine r_aload_n 0 d_law_767 rfl rfl ?_
  refine r_iload_n 3 d_law_768 rfl rfl ?_
  refine r_iconst d_law_769 ?_
  refine r_iadd d_law_770 ?_
  refine s_ld d_law_771 (by omega) (by omega) hL ?_
  refine r_aload_n 0 d_law_772 rfl rfl ?_
  refine r_iload_n 3 d_law_773 rfl rfl ?_
  refine r_iconst d_law_774 ?_
  refine r_iadd d_law_775 ?_
  refine s_ld d_law_776 (by omega) (by omega) hL ?_
  refine r_aload_n 0 d_law_777 rfl rfl ?_
  refine r_iload_n 3 d_law_778 rfl rfl ?_
  refine r_iconst d_law_779 ?_
  refine r_iadd d_law_780 ?_
  refine s_ld d_law_781 (by omega) (by omega) hL ?_
  refine r_cVI 8 d_law_782 lk_Law_81 vc_Mod_pair (cr_pair (hR.vf q4) hk (xr _) (xr _) (xr _) (xr _)) rfl rfl rfl rfl ⟨(Nat.le_of_ble_eq_true rfl), (Nat.le_of_ble_eq_true rfl)⟩ ⟨(Nat.le_of_ble_eq_true rfl), (Nat.le_of_ble_eq_true rfl)⟩ (Nat.le_of_ble_eq_true rfl) (fun r2 s2 q => ?_)
  obtain ⟨q5, q6, q7⟩ := q
  rw [q1, q5]
  refine s_same 1175 d_law_785 rfl ?_
  exact K s2 _ (q2.mf q7) q6 q3
theorem lc_take (hL : L ≤ 2560) (h0 : 0 ≤ i) (h1 : i + 5 ≤ L) (hI : OI σ g B) (hB : B ≤ 3998) (hR : RI σ g) (hk : g.ok) (K : Kt nm L xs i B) : Run (M_Law nm) (rxL L xs) (198, 8577) 790 (lls i) [] (sg σ) := by
  refine r_aload_n 1 d_law_790 rfl rfl ?_
  refine r_aload_n 0 d_law_791 rfl rfl ?_
  refine r_iload_n 3 d_law_792 rfl rfl ?_
  refine r_iconst d_law_793 ?_
  refine r_iadd d_law_794 ?_
  refine s_ld d_law_795 (by omega) (by omega) hL ?_
  refine r_cVI 7 d_law_796 lk_Law_82 vc_Van_take (cv_take hI hB hk (xr _)) rfl rfl rfl rfl ⟨(Nat.le_of_ble_eq_true rfl), (Nat.le_of_ble_eq_true rfl)⟩ ⟨(Nat.le_of_ble_eq_true rfl), (Nat.le_of_ble_eq_true rfl)⟩ (Nat.le_of_ble_eq_true rfl) (fun r s q => ?_)
  obtain ⟨q1, q2, q3, q4⟩ := q
  refine r_aload_n 2 d_law_799 rfl rfl ?_
  refine r_aload_n 0 d_law_800 rfl rfl ?_
  refine r_iload_n 3 d_law_801 rfl rfl ?_
  refine r_iconst d_law_802 ?_
  refine r_iadd d_law_803 ?_
  refine s_ld d_law_804 (by omega) (by omega) hL ?_
  refine r_cVI 8 d_law_805 lk_Law_85 vc_Mod_take (cr_take (hR.vf q4) hk (xr _)) rfl rfl rfl rfl ⟨(Nat.le_of_ble_eq_true rfl), (Nat.le_of_ble_eq_true rfl)⟩ ⟨(Nat.le_of_ble_eq_true rfl), (Nat.le_of_ble_eq_true rfl)⟩ (Nat.le_of_ble_eq_true rfl) (fun r2 s2 q => ?_)
  obtain ⟨q5, q6, q7⟩ := q
  rw [q1, q5]
  refine s_same 1175 d_law_808 rfl ?_
  exact K s2 _ (q2.mf q7) q6 q3
theorem lc_move (hL : L ≤ 2560) (h0 : 0 ≤ i) (h1 : i + 5 ≤ L) (hI : OI σ g B) (hB : B ≤ 3998) (hR : RI σ g) (hk : g.ok) (K : Kt nm L xs i B) : Run (M_Law nm) (rxL L xs) (198, 8577) 813 (lls i) [] (sg σ) := by
  refine r_aload_n 1 d_law_813 rfl rfl ?_
  refine r_aload_n 0 d_law_814 rfl rfl ?_
  refine r_iload_n 3 d_law_815 rfl rfl ?_
  refine r_iconst d_law_816 ?_
  refine r_iadd d_law_817 ?_
  refine s_ld d_law_818 (by omega) (by omega) hL ?_
  refine r_aload_n 0 d_law_819 rfl rfl ?_
  refine r_iload_n 3 d_law_820 rfl rfl ?_
  refine r_iconst d_law_821 ?_
  refine r_iadd d_law_822 ?_
  refine s_ld d_law_823 (by omega) (by omega) hL ?_
  refine r_aload_n 0 d_law_824 rfl rfl ?_
  refine r_iload_n 3 d_law_825 rfl rfl ?_
  refine r_iconst d_law_826 ?_
  refine r_iadd d_law_827 ?_
  refine s_ld d_law_828 (by omega) (by omega) hL ?_
  refine r_cVI 7 d_law_829 lk_Law_86 vc_Van_move (cv_move hI hB hk (xr _) (xr _) (xr _)) rfl rfl rfl rfl ⟨(Nat.le_of_ble_eq_true rfl), (Nat.le_of_ble_eq_true rfl)⟩ ⟨(Nat.le_of_ble_eq_true rfl), (Nat.le_of_ble_eq_true rfl)⟩ (Nat.le_of_ble_eq_true rfl) (fun r s q => ?_)
  obtain ⟨q1, q2, q3, q4⟩ := q
  refine r_aload_n 2 d_law_832 rfl rfl ?_
  refine r_aload_n 0 d_law_833 rfl rfl ?_
  refine r_iload_n 3 d_law_834 rfl rfl ?_
  refine r_iconst d_law_835 ?_
  refine r_iadd d_law_836 ?_
  refine s_ld d_law_837 (by omega) (by omega) hL ?_
  refine r_aload_n 0 d_law_838 rfl rfl ?_
  refine r_iload_n 3 d_law_839 rfl rfl ?_
  refine r_iconst d_law_840 ?_
  refine r_iadd d_law_841 ?_
  refine s_ld d_law_842 (by omega) (by omega) hL ?_
  refine r_aload_n 0 d_law_843 rfl rfl ?_
  refine r_iload_n 3 d_law_844 rfl rfl ?_
  refine r_iconst d_law_845 ?_
  refine r_iadd d_law_846 ?_
  refine s_ld d_law_847 (by omega) (by omega) hL ?_
  refine r_cVI 8 d_law_848 lk_Law_89 vc_Mod_move (cr_move (hR.vf q4) hk (xr _) (xr _) (xr _)) rfl rfl rfl rfl ⟨(Nat.le_of_ble_eq_true rfl), (Nat.le_of_ble_eq_true rfl)⟩ ⟨(Nat.le_of_ble_eq_true rfl), (Nat.le_of_ble_eq_true rfl)⟩ (Nat.le_of_ble_eq_true rfl) (fun r2 s2 q => ?_)
  obtain ⟨q5, q6, q7⟩ := q
  rw [q1, q5]
  refine s_same 1175 d_law_851 rfl ?_
  exact K s2 _ (q2.mf q7) q6 q3
theorem lc_cross (hL : L ≤ 2560) (h0 : 0 ≤ i) (h1 : i + 5 ≤ L) (hI : OI σ g B) (hB : B ≤ 3998) (hR : RI σ g) (hk : g.ok) (K : Kt nm L xs i B) : Run (M_Law nm) (rxL L xs) (198, 8577) 856 (lls i) [] (sg σ) := by
  refine r_aload_n 1 d_law_856 rfl rfl ?_
  refine r_aload_n 0 d_law_857 rfl rfl ?_
  refine r_iload_n 3 d_law_858 rfl rfl ?_
  refine r_iconst d_law_859 ?_
  refine r_iadd d_law_860 ?_
  refine s_ld d_law_861 (by omega) (by omega) hL ?_
  refine r_aload_n 0 d_law_862 rfl rfl ?_
  refine r_iload_n 3 d_law_863 rfl rfl ?_
  refine r_iconst d_law_864 ?_
  refine r_iadd d_law_865 ?_
  refine s_ld d_law_866 (by omega) (by omega) hL ?_
  refine r_aload_n 0 d_law_867 rfl rfl ?_
  refine r_iload_n 3 d_law_868 rfl rfl ?_
  refine r_iconst d_law_869 ?_
  refine r_iadd d_law_870 ?_
  refine s_ld d_law_871 (by omega) (by omega) hL ?_
  refine r_aload_n 0 d_law_872 rfl rfl ?_
  refine r_iload_n 3 d_law_873 rfl rfl ?_
  refine r_iconst d_law_874 ?_
  refine r_iadd d_law_875 ?_
  refine s_ld d_law_876 (by omega) (by omega) hL ?_
  refine r_cVI 7 d_law_877 lk_Law_90 vc_Van_cross (cv_cross hI hB hk (xr _) (xr _) (xr _) (xr _)) rfl rfl rfl rfl ⟨(Nat.le_of_ble_eq_true rfl), (Nat.le_of_ble_eq_true rfl)⟩ ⟨(Nat.le_of_ble_eq_true rfl), (Nat.le_of_ble_eq_true rfl)⟩ (Nat.le_of_ble_eq_true rfl) (fun r s q => ?_)
  obtain ⟨q1, q2, q3, q4⟩ := q
  refine r_aload_n 2 d_law_880 rfl rfl ?_
  refine r_aload_n 0 d_law_881 rfl rfl ?_
  refine r_iload_n 3 d_law_882 rfl rfl ?_
  refine r_iconst d_law_883 ?_
  refine r_iadd d_law_884 ?_
  refine s_ld d_law_885 (by omega) (by omega) hL ?_
  refine r_aload_n 0 d_law_886 rfl rfl ?_
  refine r_iload_n 3 d_law_887 rfl rfl ?_
  refine r_iconst d_law_888 ?_
  refine r_iadd d_law_889 ?_
  refine s_ld d_law_890 (by omega) (by omega) hL ?_
  refine r_aload_n 0 d_law_891 rfl rfl ?_
  refine r_iload_n 3 d_law_892 rfl rfl ?_
  refine r_iconst d_law_893 ?_
  refine r_iadd d_law_894 ?_
  refine s_ld d_law_895 (by omega) (by omega) hL ?_
  refine r_aload_n 0 d_law_896 rfl rfl ?_
  refine r_iload_n 3 d_law_897 rfl rfl ?_
  refine r_iconst d_law_898 ?_
  refine r_iadd d_law_899 ?_
  refine s_ld d_law_900 (by omega) (by omega) hL ?_
  refine r_cVI 8 d_law_901 lk_Law_93 vc_Mod_cross (cr_cross (hR.vf q4) hk (xr _) (xr _) (xr _) (xr _)) rfl rfl rfl rfl ⟨(Nat.le_of_ble_eq_true rfl), (Nat.le_of_ble_eq_true rfl)⟩ ⟨(Nat.le_of_ble_eq_true rfl), (Nat.le_of_ble_eq_true rfl)⟩ (Nat.le_of_ble_eq_true rfl) (fun r2 s2 q => ?_)
  obtain ⟨q5, q6, q7⟩ := q
  rw [q1, q5]
  refine s_same 1175 d_law_904 rfl ?_
  exact K s2 _ (q2.mf q7) q6 q3
theorem lc_turn (hL : L ≤ 2560) (h0 : 0 ≤ i) (h1 : i + 5 ≤ L) (hI : OI σ g B) (hB : B ≤ 3998) (hR : RI σ g) (hk : g.ok) (K : Kt nm L xs i B) : Run (M_Law nm) (rxL L xs) (198, 8577) 909 (lls i) [] (sg σ) := by
  refine r_aload_n 1 d_law_909 rfl rfl ?_
  refine r_aload_n 0 d_law_910 rfl rfl ?_
  refine r_iload_n 3 d_law_911 rfl rfl ?_
  refine r_iconst d_law_912 ?_
  refine r_iadd d_law_913 ?_
  refine s_ld d_law_914 (by omega) (by omega) hL ?_
  refine r_aload_n 0 d_law_915 rfl rfl ?_
  refine r_iload_n 3 d_law_916 rfl rfl ?_
  refine r_iconst d_law_917 ?_
  refine r_iadd d_law_918 ?_
  refine s_ld d_law_919 (by omega) (by omega) hL ?_
  refine r_aload_n 0 d_law_920 rfl rfl ?_
  refine r_iload_n 3 d_law_921 rfl rfl ?_
  refine r_iconst d_law_922 ?_
  refine r_iadd d_law_923 ?_
  refine s_ld d_law_924 (by omega) (by omega) hL ?_
  refine r_cVI 7 d_law_925 lk_Law_94 vc_Van_turn (cv_turn hI hB hk (xr _) (xr _) (xr _)) rfl rfl rfl rfl ⟨(Nat.le_of_ble_eq_true rfl), (Nat.le_of_ble_eq_true rfl)⟩ ⟨(Nat.le_of_ble_eq_true rfl), (Nat.le_of_ble_eq_true rfl)⟩ (Nat.le_of_ble_eq_true rfl) (fun r s q => ?_)
  obtain ⟨q1, q2, q3, q4⟩ := q
  refine r_aload_n 2 d_law_928 rfl rfl ?_
  refine r_aload_n 0 d_law_929 rfl rfl ?_
  refine r_iload_n 3 d_law_930 rfl rfl ?_
  refine r_iconst d_law_931 ?_
  refine r_iadd d_law_932 ?_
  refine s_ld d_law_933 (by omega) (by omega) hL ?_
  refine r_aload_n 0 d_law_934 rfl rfl ?_
  refine r_iload_n 3 d_law_935 rfl rfl ?_
  refine r_iconst d_law_936 ?_
  refine r_iadd d_law_937 ?_
  refine s_ld d_law_938 (by omega) (by omega) hL ?_
  refine r_aload_n 0 d_law_939 rfl rfl ?_
  refine r_iload_n 3 d_law_940 rfl rfl ?_
  refine r_iconst d_law_941 ?_
  refine r_iadd d_law_942 ?_
  refine s_ld d_law_943 (by omega) (by omega) hL ?_
  refine r_cVI 8 d_law_944 lk_Law_97 vc_Mod_turn (cr_turn (hR.vf q4) hk (xr _) (xr _) (xr _)) rfl rfl rfl rfl ⟨(Nat.le_of_ble_eq_true rfl), (Nat.le_of_ble_eq_true rfl)⟩ ⟨(Nat.le_of_ble_eq_true rfl), (Nat.le_of_ble_eq_true rfl)⟩ (Nat.le_of_ble_eq_true rfl) (fun r2 s2 q => ?_)
  obtain ⟨q5, q6, q7⟩ := q
  rw [q1, q5]
  refine s_same 1175 d_law_947 rfl ?_
  exact K s2 _ (q2.mf q7) q6 q3
theorem lc_build (hL : L ≤ 2560) (h0 : 0 ≤ i) (h1 : i + 5 ≤ L) (hI : OI σ g B) (hB : B ≤ 3998) (hR : RI σ g) (hk : g.ok) (K : Kt nm L xs i B) : Run (M_Law nm) (rxL L xs) (198, 8577) 952 (lls i) [] (sg σ) := by
  refine r_aload_n 1 d_law_952 rfl rfl ?_
  refine r_cVI 7 d_law_953 lk_Law_98 vc_Van_build (cv_build hI hB hk) rfl rfl rfl rfl ⟨(Nat.le_of_ble_eq_true rfl), (Nat.le_of_ble_eq_true rfl)⟩ ⟨(Nat.le_of_ble_eq_true rfl), (Nat.le_of_ble_eq_true rfl)⟩ (Nat.le_of_ble_eq_true rfl) (fun r s q => ?_)
  obtain ⟨q1, q2, q3, q4⟩ := q
  refine r_aload_n 2 d_law_956 rfl rfl ?_
  refine r_cVI 8 d_law_957 lk_Law_101 vc_Mod_build (cr_build (hR.vf q4) hk) rfl rfl rfl rfl ⟨(Nat.le_of_ble_eq_true rfl), (Nat.le_of_ble_eq_true rfl)⟩ ⟨(Nat.le_of_ble_eq_true rfl), (Nat.le_of_ble_eq_true rfl)⟩ (Nat.le_of_ble_eq_true rfl) (fun r2 s2 q => ?_)
  obtain ⟨q5, q6, q7⟩ := q
  rw [q1, q5]
  refine s_same 1175 d_law_960 rfl ?_
  exact K s2 _ (q2.mf q7) q6 q3
theorem lc_better (hL : L ≤ 2560) (h0 : 0 ≤ i) (h1 : i + 5 ≤ L) (hI : OI σ g B) (hB : B ≤ 3998) (hR : RI σ g) (hk : g.ok) (K : Kt nm L xs i B) : Run (M_Law nm) (rxL L xs) (198, 8577) 965 (lls i) [] (sg σ) := by
  refine r_aload_n 1 d_law_965 rfl rfl ?_
  refine r_aload_n 0 d_law_966 rfl rfl ?_
  refine r_iload_n 3 d_law_967 rfl rfl ?_
  refine r_iconst d_law_968 ?_
  refine r_iadd d_law_969 ?_
  refine s_ld d_law_970 (by omega) (by omega) hL ?_
  refine r_cVI 7 d_law_971 lk_Law_102 vc_Van_better (cv_better hI hB hk (xr _)) rfl rfl rfl rfl ⟨(Nat.le_of_ble_eq_true rfl), (Nat.le_of_ble_eq_true rfl)⟩ ⟨(Nat.le_of_ble_eq_true rfl), (Nat.le_of_ble_eq_true rfl)⟩ (Nat.le_of_ble_eq_true rfl) (fun r s q => ?_)
  obtain ⟨q1, q2, q3, q4⟩ := q
  refine r_aload_n 2 d_law_974 rfl rfl ?_
  refine r_aload_n 0 d_law_975 rfl rfl ?_
  refine r_iload_n 3 d_law_976 rfl rfl ?_
  refine r_iconst d_law_977 ?_
  refine r_iadd d_law_978 ?_
  refine s_ld d_law_979 (by omega) (by omega) hL ?_
  refine r_cVI 8 d_law_980 lk_Law_105 vc_Mod_better (cr_better (hR.vf q4) hk (xr _)) rfl rfl rfl rfl ⟨(Nat.le_of_ble_eq_true rfl), (Nat.le_of_ble_eq_true rfl)⟩ ⟨(Nat.le_of_ble_eq_true rfl), (Nat.le_of_ble_eq_true rfl)⟩ (Nat.le_of_ble_eq_true rfl) (fun r2 s2 q => ?_)
  obtain ⟨q5, q6, q7⟩ := q
  rw [q1, q5]
  refine s_same 1175 d_law_983 rfl ?_
  exact K s2 _ (q2.mf q7) q6 q3
theorem lc_least (hL : L ≤ 2560) (h0 : 0 ≤ i) (h1 : i + 5 ≤ L) (hI : OI σ g B) (hB : B ≤ 3998) (hR : RI σ g) (hk : g.ok) (K : Kt nm L xs i B) : Run (M_Law nm) (rxL L xs) (198, 8577) 988 (lls i) [] (sg σ) := by
  refine r_aload_n 1 d_law_988 rfl rfl ?_
  refine r_cVI 7 d_law_989 lk_Law_106 vc_Van_least (cv_least hI hB hk) rfl rfl rfl rfl ⟨(Nat.le_of_ble_eq_true rfl), (Nat.le_of_ble_eq_true rfl)⟩ ⟨(Nat.le_of_ble_eq_true rfl), (Nat.le_of_ble_eq_true rfl)⟩ (Nat.le_of_ble_eq_true rfl) (fun r s q => ?_)
  obtain ⟨q1, q2, q3, q4⟩ := q
  refine r_aload_n 2 d_law_992 rfl rfl ?_
  refine r_cVI 8 d_law_993 lk_Law_109 vc_Mod_least (cr_least (hR.vf q4) hk) rfl rfl rfl rfl ⟨(Nat.le_of_ble_eq_true rfl), (Nat.le_of_ble_eq_true rfl)⟩ ⟨(Nat.le_of_ble_eq_true rfl), (Nat.le_of_ble_eq_true rfl)⟩ (Nat.le_of_ble_eq_true rfl) (fun r2 s2 q => ?_)
  obtain ⟨q5, q6, q7⟩ := q
  rw [q1, q5]
  refine s_same 1175 d_law_996 rfl ?_
  exact K s2 _ (q2.mf q7) q6 q3
theorem lc_undo (hL : L ≤ 2560) (h0 : 0 ≤ i) (h1 : i + 5 ≤ L) (hI : OI σ g B) (hB : B ≤ 3998) (hR : RI σ g) (hk : g.ok) (K : Kt nm L xs i B) : Run (M_Law nm) (rxL L xs) (198, 8577) 1001 (lls i) [] (sg σ) := by
  refine r_aload_n 1 d_law_1001 rfl rfl ?_
  refine r_cVI 7 d_law_1002 lk_Law_110 vc_Van_undo (cv_undo hI hB hk) rfl rfl rfl rfl ⟨(Nat.le_of_ble_eq_true rfl), (Nat.le_of_ble_eq_true rfl)⟩ ⟨(Nat.le_of_ble_eq_true rfl), (Nat.le_of_ble_eq_true rfl)⟩ (Nat.le_of_ble_eq_true rfl) (fun r s q => ?_)
  obtain ⟨q1, q2, q3, q4⟩ := q
  refine r_aload_n 2 d_law_1005 rfl rfl ?_
  refine r_cVI 8 d_law_1006 lk_Law_113 vc_Mod_undo (cr_undo (hR.vf q4) hk) rfl rfl rfl rfl ⟨(Nat.le_of_ble_eq_true rfl), (Nat.le_of_ble_eq_true rfl)⟩ ⟨(Nat.le_of_ble_eq_true rfl), (Nat.le_of_ble_eq_true rfl)⟩ (Nat.le_of_ble_eq_true rfl) (fun r2 s2 q => ?_)
  obtain ⟨q5, q6, q7⟩ := q
  rw [q1, q5]
  refine s_same 1175 d_law_1009 rfl ?_
  exact K s2 _ (q2.mf q7) q6 q3
theorem lc_clear (hL : L ≤ 2560) (h0 : 0 ≤ i) (h1 : i + 5 ≤ L) (hI : OI σ g B) (hB : B ≤ 3998) (hR : RI σ g) (hk : g.ok) (K : Kt nm L xs i B) : Run (M_Law nm) (rxL L xs) (198, 8577) 1014 (lls i) [] (sg σ) := by
  refine r_aload_n 1 d_law_1014 rfl rfl ?_
  refine r_cVI 7 d_law_1015 lk_Law_114 vc_Van_clear (cv_clear hI hB hk) rfl rfl rfl rfl ⟨(Nat.le_of_ble_eq_true rfl), (Nat.le_of_ble_eq_true rfl)⟩ ⟨(Nat.le_of_ble_eq_true rfl), (Nat.le_of_ble_eq_true rfl)⟩ (Nat.le_of_ble_eq_true rfl) (fun r s q => ?_)
  obtain ⟨q1, q2, q3, q4⟩ := q
  refine r_aload_n 2 d_law_1018 rfl rfl ?_
  refine r_cVI 8 d_law_1019 lk_Law_117 vc_Mod_clear (cr_clear (hR.vf q4) hk) rfl rfl rfl rfl ⟨(Nat.le_of_ble_eq_true rfl), (Nat.le_of_ble_eq_true rfl)⟩ ⟨(Nat.le_of_ble_eq_true rfl), (Nat.le_of_ble_eq_true rfl)⟩ (Nat.le_of_ble_eq_true rfl) (fun r2 s2 q => ?_)
  obtain ⟨q5, q6, q7⟩ := q
  rw [q1, q5]
  refine s_same 1175 d_law_1022 rfl ?_
  exact K s2 _ (q2.mf q7) q6 q3
theorem lc_count (hL : L ≤ 2560) (h0 : 0 ≤ i) (h1 : i + 5 ≤ L) (hI : OI σ g B) (hB : B ≤ 3998) (hR : RI σ g) (hk : g.ok) (K : Kt nm L xs i B) : Run (M_Law nm) (rxL L xs) (198, 8577) 1027 (lls i) [] (sg σ) := by
  refine r_aload_n 1 d_law_1027 rfl rfl ?_
  refine r_aload_n 0 d_law_1028 rfl rfl ?_
  refine r_iload_n 3 d_law_1029 rfl rfl ?_
  refine r_iconst d_law_1030 ?_
  refine r_iadd d_law_1031 ?_
  refine s_ld d_law_1032 (by omega) (by omega) hL ?_
  refine r_cVI 7 d_law_1033 lk_Law_118 vc_Van_count (cv_count hI hB hk (xr _)) rfl rfl rfl rfl ⟨(Nat.le_of_ble_eq_true rfl), (Nat.le_of_ble_eq_true rfl)⟩ ⟨(Nat.le_of_ble_eq_true rfl), (Nat.le_of_ble_eq_true rfl)⟩ (Nat.le_of_ble_eq_true rfl) (fun r s q => ?_)
  obtain ⟨q1, q2, q3, q4⟩ := q
  refine r_aload_n 2 d_law_1036 rfl rfl ?_
  refine r_aload_n 0 d_law_1037 rfl rfl ?_
  refine r_iload_n 3 d_law_1038 rfl rfl ?_
  refine r_iconst d_law_1039 ?_
  refine r_iadd d_law_1040 ?_
  refine s_ld d_law_1041 (by omega) (by omega) hL ?_
  refine r_cVI 8 d_law_1042 lk_Law_121 vc_Mod_count (cr_count (hR.vf q4) hk (xr _)) rfl rfl rfl rfl ⟨(Nat.le_of_ble_eq_true rfl), (Nat.le_of_ble_eq_true rfl)⟩ ⟨(Nat.le_of_ble_eq_true rfl), (Nat.le_of_ble_eq_true rfl)⟩ (Nat.le_of_ble_eq_true rfl) (fun r2 s2 q => ?_)
  obtain ⟨q5, q6, q7⟩ := q
  rw [q1, q5]
  refine s_same 1175 d_law_1045 rfl ?_
  exact K s2 _ (q2.mf q7) q6 q3
theorem lc_lay (hL : L ≤ 2560) (h0 : 0 ≤ i) (h1 : i + 5 ≤ L) (hI : OI σ g B) (hB : B ≤ 3998) (hR : RI σ g) (hk : g.ok) (K : Kt nm L xs i B) : Run (M_Law nm) (rxL L xs) (198, 8577) 1050 (lls i) [] (sg σ) := by
  refine r_aload_n 1 d_law_1050 rfl rfl ?_
  refine r_aload_n 0 d_law_1051 rfl rfl ?_
  refine r_iload_n 3 d_law_1052 rfl rfl ?_
  refine r_iconst d_law_1053 ?_
  refine r_iadd d_law_1054 ?_
  refine s_ld d_law_1055 (by omega) (by omega) hL ?_
  refine r_cVI 7 d_law_1056 lk_Law_122 vc_Van_lay (cv_lay hI hB hk (xr _)) rfl rfl rfl rfl ⟨(Nat.le_of_ble_eq_true rfl), (Nat.le_of_ble_eq_true rfl)⟩ ⟨(Nat.le_of_ble_eq_true rfl), (Nat.le_of_ble_eq_true rfl)⟩ (Nat.le_of_ble_eq_true rfl) (fun r s q => ?_)
  obtain ⟨q1, q2, q3, q4⟩ := q
  refine r_aload_n 2 d_law_1059 rfl rfl ?_
  refine r_aload_n 0 d_law_1060 rfl rfl ?_
  refine r_iload_n 3 d_law_1061 rfl rfl ?_
  refine r_iconst d_law_1062 ?_
  refine r_iadd d_law_1063 ?_
  refine s_ld d_law_1064 (by omega) (by omega) hL ?_
  refine r_cVI 8 d_law_1065 lk_Law_125 vc_Mod_lay (cr_lay (hR.vf q4) hk (xr _)) rfl rfl rfl rfl ⟨(Nat.le_of_ble_eq_true rfl), (Nat.le_of_ble_eq_true rfl)⟩ ⟨(Nat.le_of_ble_eq_true rfl), (Nat.le_of_ble_eq_true rfl)⟩ (Nat.le_of_ble_eq_true rfl) (fun r2 s2 q => ?_)
  obtain ⟨q5, q6, q7⟩ := q
  rw [q1, q5]
  refine s_same 1175 d_law_1068 rfl ?_
  exact K s2 _ (q2.mf q7) q6 q3
theorem lc_tear (hL : L ≤ 2560) (h0 : 0 ≤ i) (h1 : i + 5 ≤ L) (hI : OI σ g B) (hB : B ≤ 3998) (hR : RI σ g) (hk : g.ok) (K : Kt nm L xs i B) : Run (M_Law nm) (rxL L xs) (198, 8577) 1073 (lls i) [] (sg σ) := by
  refine r_aload_n 1 d_law_1073 rfl rfl ?_
  refine r_cVI 7 d_law_1074 lk_Law_126 vc_Van_tear (cv_tear hI hB hk) rfl rfl rfl rfl ⟨(Nat.le_of_ble_eq_true rfl), (Nat.le_of_ble_eq_true rfl)⟩ ⟨(Nat.le_of_ble_eq_true rfl), (Nat.le_of_ble_eq_true rfl)⟩ (Nat.le_of_ble_eq_true rfl) (fun r s q => ?_)
  obtain ⟨q1, q2, q3, q4⟩ := q
  refine r_aload_n 2 d_law_1077 rfl rfl ?_
  refine r_cVI 8 d_law_1078 lk_Law_129 vc_Mod_tear (cr_tear (hR.vf q4) hk) rfl rfl rfl rfl ⟨(Nat.le_of_ble_eq_true rfl), (Nat.le_of_ble_eq_true rfl)⟩ ⟨(Nat.le_of_ble_eq_true rfl), (Nat.le_of_ble_eq_true rfl)⟩ (Nat.le_of_ble_eq_true rfl) (fun r2 s2 q => ?_)
  obtain ⟨q5, q6, q7⟩ := q
  rw [q1, q5]
  refine s_same 1175 d_law_1081 rfl ?_
  exact K s2 _ (q2.mf q7) q6 q3
theorem lc_row (hL : L ≤ 2560) (h0 : 0 ≤ i) (h1 : i + 5 ≤ L) (hI : OI σ g B) (hB : B ≤ 3998) (hR : RI σ g) (hk : g.ok) (K : Kt nm L xs i B) : Run (M_Law nm) (rxL L xs) (198, 8577) 1086 (lls i) [] (sg σ) := by
  refine r_aload_n 1 d_law_1086 rfl rfl ?_
  refine r_aload_n 0 d_law_1087 rfl rfl ?_
  refine r_iload_n 3 d_law_1088 rfl rfl ?_
  refine r_iconst d_law_1089 ?_
  refine r_iadd d_law_1090 ?_
  refine s_ld d_law_1091 (by omega) (by omega) hL ?_
  refine r_cVI 7 d_law_1092 lk_Law_130 vc_Van_row (cv_row hI hB hk (xr _)) rfl rfl rfl rfl ⟨(Nat.le_of_ble_eq_true rfl), (Nat.le_of_ble_eq_true rfl)⟩ ⟨(Nat.le_of_ble_eq_true rfl), (Nat.le_of_ble_eq_true rfl)⟩ (Nat.le_of_ble_eq_true rfl) (fun r s q => ?_)
  obtain ⟨q1, q2, q3, q4⟩ := q
  refine r_aload_n 2 d_law_1095 rfl rfl ?_
  refine r_aload_n 0 d_law_1096 rfl rfl ?_
  refine r_iload_n 3 d_law_1097 rfl rfl ?_
  refine r_iconst d_law_1098 ?_
  refine r_iadd d_law_1099 ?_
  refine s_ld d_law_1100 (by omega) (by omega) hL ?_
  refine r_cVI 8 d_law_1101 lk_Law_133 vc_Mod_row (cr_row (hR.vf q4) hk (xr _)) rfl rfl rfl rfl ⟨(Nat.le_of_ble_eq_true rfl), (Nat.le_of_ble_eq_true rfl)⟩ ⟨(Nat.le_of_ble_eq_true rfl), (Nat.le_of_ble_eq_true rfl)⟩ (Nat.le_of_ble_eq_true rfl) (fun r2 s2 q => ?_)
  obtain ⟨q5, q6, q7⟩ := q
  rw [q1, q5]
  refine s_same 1175 d_law_1104 rfl ?_
  exact K s2 _ (q2.mf q7) q6 q3
theorem lc_copy (hL : L ≤ 2560) (h0 : 0 ≤ i) (h1 : i + 5 ≤ L) (hI : OI σ g B) (hB : B ≤ 3998) (hR : RI σ g) (hk : g.ok) (K : Kt nm L xs i B) : Run (M_Law nm) (rxL L xs) (198, 8577) 1109 (lls i) [] (sg σ) := by
  refine r_aload_n 1 d_law_1109 rfl rfl ?_
  refine r_aload_n 0 d_law_1110 rfl rfl ?_
  refine r_iload_n 3 d_law_1111 rfl rfl ?_
  refine r_iconst d_law_1112 ?_
  refine r_iadd d_law_1113 ?_
  refine s_ld d_law_1114 (by omega) (by omega) hL ?_
  refine r_aload_n 0 d_law_1115 rfl rfl ?_
  refine r_iload_n 3 d_law_1116 rfl rfl ?_
  refine r_iconst d_law_1117 ?_
  refine r_iadd d_law_1118 ?_
  refine s_ld d_law_1119 (by omega) (by omega) hL ?_
  refine r_aload_n 0 d_law_1120 rfl rfl ?_
  refine r_iload_n 3 d_law_1121 rfl rfl ?_
  refine r_iconst d_law_1122 ?_
  refine r_iadd d_law_1123 ?_
  refine s_ld d_law_1124 (by omega) (by omega) hL ?_
  refine r_cVI 7 d_law_1125 lk_Law_134 vc_Van_copy (cv_copy hI hB hk (xr _) (xr _) (xr _)) rfl rfl rfl rfl ⟨(Nat.le_of_ble_eq_true rfl), (Nat.le_of_ble_eq_true rfl)⟩ ⟨(Nat.le_of_ble_eq_true rfl), (Nat.le_of_ble_eq_true rfl)⟩ (Nat.le_of_ble_eq_true rfl) (fun r s q => ?_)
  obtain ⟨q1, q2, q3, q4⟩ := q
  refine r_aload_n 2 d_law_1128 rfl rfl ?_
  refine r_aload_n 0 d_law_1129 rfl rfl ?_
  refine r_iload_n 3 d_law_1130 rfl rfl ?_
  refine r_iconst d_law_1131 ?_
  refine r_iadd d_law_1132 ?_
  refine s_ld d_law_1133 (by omega) (by omega) hL ?_
  refine r_aload_n 0 d_law_1134 rfl rfl ?_
  refine r_iload_n 3 d_law_1135 rfl rfl ?_
  refine r_iconst d_law_1136 ?_
  refine r_iadd d_law_1137 ?_
  refine s_ld d_law_1138 (by omega) (by omega) hL ?_
  refine r_aload_n 0 d_law_1139 rfl rfl ?_
  refine r_iload_n 3 d_law_1140 rfl rfl ?_
  refine r_iconst d_law_1141 ?_
  refine r_iadd d_law_1142 ?_
  refine s_ld d_law_1143 (by omega) (by omega) hL ?_
  refine r_cVI 8 d_law_1144 lk_Law_137 vc_Mod_copy (cr_copy (hR.vf q4) hk (xr _) (xr _) (xr _)) rfl rfl rfl rfl ⟨(Nat.le_of_ble_eq_true rfl), (Nat.le_of_ble_eq_true rfl)⟩ ⟨(Nat.le_of_ble_eq_true rfl), (Nat.le_of_ble_eq_true rfl)⟩ (Nat.le_of_ble_eq_true rfl) (fun r2 s2 q => ?_)
  obtain ⟨q5, q6, q7⟩ := q
  rw [q1, q5]
  refine s_same 1175 d_law_1147 rfl ?_
  exact K s2 _ (q2.mf q7) q6 q3
theorem lc_status (hL : L ≤ 2560) (h0 : 0 ≤ i) (h1 : i + 5 ≤ L) (hI : OI σ g B) (hB : B ≤ 3998) (hR : RI σ g) (hk : g.ok) (K : Kt nm L xs i B) : Run (M_Law nm) (rxL L xs) (198, 8577) 1152 (lls i) [] (sg σ) := by
  refine r_aload_n 1 d_law_1152 rfl rfl ?_
  refine r_aload_n 0 d_law_1153 rfl rfl ?_
  refine r_iload_n 3 d_law_1154 rfl rfl ?_
  refine r_iconst d_law_1155 ?_
  refine r_iadd d_law_1156 ?_
  refine s_ld d_law_1157 (by omega) (by omega) hL ?_
  refine r_cVI 7 d_law_1158 lk_Law_138 vc_Van_status (cv_status hI hB hk (xr _)) rfl rfl rfl rfl ⟨(Nat.le_of_ble_eq_true rfl), (Nat.le_of_ble_eq_true rfl)⟩ ⟨(Nat.le_of_ble_eq_true rfl), (Nat.le_of_ble_eq_true rfl)⟩ (Nat.le_of_ble_eq_true rfl) (fun r s q => ?_)
  obtain ⟨q1, q2, q3, q4⟩ := q
  refine r_aload_n 2 d_law_1161 rfl rfl ?_
  refine r_aload_n 0 d_law_1162 rfl rfl ?_
  refine r_iload_n 3 d_law_1163 rfl rfl ?_
  refine r_iconst d_law_1164 ?_
  refine r_iadd d_law_1165 ?_
  refine s_ld d_law_1166 (by omega) (by omega) hL ?_
  refine r_cVI 8 d_law_1167 lk_Law_141 vc_Mod_status (cr_status (hR.vf q4) hk (xr _)) rfl rfl rfl rfl ⟨(Nat.le_of_ble_eq_true rfl), (Nat.le_of_ble_eq_true rfl)⟩ ⟨(Nat.le_of_ble_eq_true rfl), (Nat.le_of_ble_eq_true rfl)⟩ (Nat.le_of_ble_eq_true rfl) (fun r2 s2 q => ?_)
  obtain ⟨q5, q6, q7⟩ := q
  rw [q1, q5]
  refine s_same 1175 d_law_1170 rfl ?_
  exact K s2 _ (q2.mf q7) q6 q3
end LCL
