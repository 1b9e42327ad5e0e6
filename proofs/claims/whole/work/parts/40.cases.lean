/-! ===== the law, call by call ===== -/
section LAW2
variable {p : Program} {l : Launch} {e : Env} {s : State} {m : MethodId} {below : List Frame} {meth : Method} {c : Code} {b L : Nat} {xs : Nat → Int32} {D : va_G} {cy : Nat → ClassId} {qc qm : Nat → Nat} {σc σm : St}
theorem k_feed (X : LX p l s m meth c b L xs D cy qc qm) {i : Nat} (hi : i + 7 ≤ L) (h : R σc σm) (kk : ∀ σc' σm' : St, R σc' σm' → LW p l e s m below meth c b D cy qc qm σc' σm' 1064 (lvL qc qm b i) []) : LW p l e s m below meth c b D cy qc qm σc σm 184 (lvL qc qm b i) [] := by
  refine l_al X 2 dL_law_184 rfl ?_
  refine l_arg X (k := 1) (n := 1) (by omega) (by decide) dL_law_185 dL_law_186 dL_law_187 dL_law_188 dL_law_189 ?_
  refine l_callC (st := []) (As := [.int (xs (i + 1))]) X (c_X8_feed (l, D, qc, cy) _ σc _ (P_feed h)) gL_law_X8_feed rfl ⟨rfl, nkX8_feed⟩ ⟨rfl, rfl, by decide, by decide⟩ rfl (Nat.le_of_ble_eq_true rfl) dL_law_190 rfl (fun r σc' h1 => ?_)
  refine l_al X 1 dL_law_193 rfl ?_
  refine l_arg X (k := 1) (n := 1) (by omega) (by decide) dL_law_194 dL_law_195 dL_law_196 dL_law_197 dL_law_198 ?_
  refine l_callM (st := [.int r]) (As := [.int (xs (i + 1))]) X (c_X9_feed (l, D, qm, cy) _ σm _ h1) gL_law_X9_feed rfl ⟨rfl, nkX9_feed⟩ ⟨rfl, rfl, by decide, by decide⟩ rfl (Nat.le_of_ble_eq_true rfl) dL_law_199 rfl (fun r' σm' h2 => ?_)
  exact l_end X dL_law_202 (by decide) h2.1 (kk _ _ h2.2)
theorem k_mount (X : LX p l s m meth c b L xs D cy qc qm) {i : Nat} (hi : i + 7 ≤ L) (h : R σc σm) (kk : ∀ σc' σm' : St, R σc' σm' → LW p l e s m below meth c b D cy qc qm σc' σm' 1064 (lvL qc qm b i) []) : LW p l e s m below meth c b D cy qc qm σc σm 207 (lvL qc qm b i) [] := by
  refine l_al X 2 dL_law_207 rfl ?_
  refine l_callC (st := []) (As := []) X (c_X8_mount (l, D, qc, cy)  σc _ (P_mount h)) gL_law_X8_mount rfl ⟨rfl, nkX8_mount⟩ ⟨rfl, rfl, by decide, by decide⟩ rfl (Nat.le_of_ble_eq_true rfl) dL_law_208 rfl (fun r σc' h1 => ?_)
  refine l_al X 1 dL_law_211 rfl ?_
  refine l_callM (st := [.int r]) (As := []) X (c_X9_mount (l, D, qm, cy)  σm _ h1) gL_law_X9_mount rfl ⟨rfl, nkX9_mount⟩ ⟨rfl, rfl, by decide, by decide⟩ rfl (Nat.le_of_ble_eq_true rfl) dL_law_212 rfl (fun r' σm' h2 => ?_)
  exact l_end X dL_law_215 (by decide) h2.1 (kk _ _ h2.2)
theorem k_fault (X : LX p l s m meth c b L xs D cy qc qm) {i : Nat} (hi : i + 7 ≤ L) (h : R σc σm) (kk : ∀ σc' σm' : St, R σc' σm' → LW p l e s m below meth c b D cy qc qm σc' σm' 1064 (lvL qc qm b i) []) : LW p l e s m below meth c b D cy qc qm σc σm 220 (lvL qc qm b i) [] := by
  refine l_al X 2 dL_law_220 rfl ?_
  refine l_callC (st := []) (As := []) X (c_X8_fault (l, D, qc, cy)  σc _ (P_fault h)) gL_law_X8_fault rfl ⟨rfl, nkX8_fault⟩ ⟨rfl, rfl, by decide, by decide⟩ rfl (Nat.le_of_ble_eq_true rfl) dL_law_221 rfl (fun r σc' h1 => ?_)
  refine l_al X 1 dL_law_224 rfl ?_
  refine l_callM (st := [.int r]) (As := []) X (c_X9_fault (l, D, qm, cy)  σm _ h1) gL_law_X9_fault rfl ⟨rfl, nkX9_fault⟩ ⟨rfl, rfl, by decide, by decide⟩ rfl (Nat.le_of_ble_eq_true rfl) dL_law_225 rfl (fun r' σm' h2 => ?_)
  exact l_end X dL_law_228 (by decide) h2.1 (kk _ _ h2.2)
theorem k_told (X : LX p l s m meth c b L xs D cy qc qm) {i : Nat} (hi : i + 7 ≤ L) (h : R σc σm) (kk : ∀ σc' σm' : St, R σc' σm' → LW p l e s m below meth c b D cy qc qm σc' σm' 1064 (lvL qc qm b i) []) : LW p l e s m below meth c b D cy qc qm σc σm 233 (lvL qc qm b i) [] := by
  refine l_al X 2 dL_law_233 rfl ?_
  refine l_arg X (k := 1) (n := 1) (by omega) (by decide) dL_law_234 dL_law_235 dL_law_236 dL_law_237 dL_law_238 ?_
  refine l_callC (st := []) (As := [.int (xs (i + 1))]) X (c_X8_told (l, D, qc, cy) _ σc _ (P_told h)) gL_law_X8_told rfl ⟨rfl, nkX8_told⟩ ⟨rfl, rfl, by decide, by decide⟩ rfl (Nat.le_of_ble_eq_true rfl) dL_law_239 rfl (fun r σc' h1 => ?_)
  refine l_al X 1 dL_law_242 rfl ?_
  refine l_arg X (k := 1) (n := 1) (by omega) (by decide) dL_law_243 dL_law_244 dL_law_245 dL_law_246 dL_law_247 ?_
  refine l_callM (st := [.int r]) (As := [.int (xs (i + 1))]) X (c_X9_told (l, D, qm, cy) _ σm _ h1) gL_law_X9_told rfl ⟨rfl, nkX9_told⟩ ⟨rfl, rfl, by decide, by decide⟩ rfl (Nat.le_of_ble_eq_true rfl) dL_law_248 rfl (fun r' σm' h2 => ?_)
  exact l_end X dL_law_251 (by decide) h2.1 (kk _ _ h2.2)
theorem k_worm (X : LX p l s m meth c b L xs D cy qc qm) {i : Nat} (hi : i + 7 ≤ L) (h : R σc σm) (kk : ∀ σc' σm' : St, R σc' σm' → LW p l e s m below meth c b D cy qc qm σc' σm' 1064 (lvL qc qm b i) []) : LW p l e s m below meth c b D cy qc qm σc σm 256 (lvL qc qm b i) [] := by
  refine l_al X 2 dL_law_256 rfl ?_
  refine l_arg X (k := 1) (n := 1) (by omega) (by decide) dL_law_257 dL_law_258 dL_law_259 dL_law_260 dL_law_261 ?_
  refine l_callC (st := []) (As := [.int (xs (i + 1))]) X (c_X8_worm (l, D, qc, cy) _ σc _ (P_worm h)) gL_law_X8_worm rfl ⟨rfl, nkX8_worm⟩ ⟨rfl, rfl, by decide, by decide⟩ rfl (Nat.le_of_ble_eq_true rfl) dL_law_262 rfl (fun r σc' h1 => ?_)
  refine l_al X 1 dL_law_265 rfl ?_
  refine l_arg X (k := 1) (n := 1) (by omega) (by decide) dL_law_266 dL_law_267 dL_law_268 dL_law_269 dL_law_270 ?_
  refine l_callM (st := [.int r]) (As := [.int (xs (i + 1))]) X (c_X9_worm (l, D, qm, cy) _ σm _ h1) gL_law_X9_worm rfl ⟨rfl, nkX9_worm⟩ ⟨rfl, rfl, by decide, by decide⟩ rfl (Nat.le_of_ble_eq_true rfl) dL_law_271 rfl (fun r' σm' h2 => ?_)
  exact l_end X dL_law_274 (by decide) h2.1 (kk _ _ h2.2)
theorem k_star (X : LX p l s m meth c b L xs D cy qc qm) {i : Nat} (hi : i + 7 ≤ L) (h : R σc σm) (kk : ∀ σc' σm' : St, R σc' σm' → LW p l e s m below meth c b D cy qc qm σc' σm' 1064 (lvL qc qm b i) []) : LW p l e s m below meth c b D cy qc qm σc σm 279 (lvL qc qm b i) [] := by
  refine l_al X 2 dL_law_279 rfl ?_
  refine l_arg X (k := 1) (n := 1) (by omega) (by decide) dL_law_280 dL_law_281 dL_law_282 dL_law_283 dL_law_284 ?_
  refine l_arg X (k := 2) (n := 2) (by omega) (by decide) dL_law_285 dL_law_286 dL_law_287 dL_law_288 dL_law_289 ?_
  refine l_callC (st := []) (As := [.int (xs (i + 1)), .int (xs (i + 2))]) X (c_X8_star (l, D, qc, cy) _ _ σc _ (P_star h)) gL_law_X8_star rfl ⟨rfl, nkX8_star⟩ ⟨rfl, rfl, by decide, by decide⟩ rfl (Nat.le_of_ble_eq_true rfl) dL_law_290 rfl (fun r σc' h1 => ?_)
  refine l_al X 1 dL_law_293 rfl ?_
  refine l_arg X (k := 1) (n := 1) (by omega) (by decide) dL_law_294 dL_law_295 dL_law_296 dL_law_297 dL_law_298 ?_
  refine l_arg X (k := 2) (n := 2) (by omega) (by decide) dL_law_299 dL_law_300 dL_law_301 dL_law_302 dL_law_303 ?_
  refine l_callM (st := [.int r]) (As := [.int (xs (i + 1)), .int (xs (i + 2))]) X (c_X9_star (l, D, qm, cy) _ _ σm _ h1) gL_law_X9_star rfl ⟨rfl, nkX9_star⟩ ⟨rfl, rfl, by decide, by decide⟩ rfl (Nat.le_of_ble_eq_true rfl) dL_law_304 rfl (fun r' σm' h2 => ?_)
  exact l_end X dL_law_307 (by decide) h2.1 (kk _ _ h2.2)
theorem k_minute (X : LX p l s m meth c b L xs D cy qc qm) {i : Nat} (hi : i + 7 ≤ L) (h : R σc σm) (kk : ∀ σc' σm' : St, R σc' σm' → LW p l e s m below meth c b D cy qc qm σc' σm' 1064 (lvL qc qm b i) []) : LW p l e s m below meth c b D cy qc qm σc σm 312 (lvL qc qm b i) [] := by
  refine l_al X 2 dL_law_312 rfl ?_
  refine l_arg X (k := 1) (n := 1) (by omega) (by decide) dL_law_313 dL_law_314 dL_law_315 dL_law_316 dL_law_317 ?_
  refine l_callC (st := []) (As := [.int (xs (i + 1))]) X (c_X8_minute (l, D, qc, cy) _ σc _ (P_minute h)) gL_law_X8_minute rfl ⟨rfl, nkX8_minute⟩ ⟨rfl, rfl, by decide, by decide⟩ rfl (Nat.le_of_ble_eq_true rfl) dL_law_318 rfl (fun r σc' h1 => ?_)
  refine l_al X 1 dL_law_321 rfl ?_
  refine l_arg X (k := 1) (n := 1) (by omega) (by decide) dL_law_322 dL_law_323 dL_law_324 dL_law_325 dL_law_326 ?_
  refine l_callM (st := [.int r]) (As := [.int (xs (i + 1))]) X (c_X9_minute (l, D, qm, cy) _ σm _ h1) gL_law_X9_minute rfl ⟨rfl, nkX9_minute⟩ ⟨rfl, rfl, by decide, by decide⟩ rfl (Nat.le_of_ble_eq_true rfl) dL_law_327 rfl (fun r' σm' h2 => ?_)
  exact l_end X dL_law_330 (by decide) h2.1 (kk _ _ h2.2)
theorem k_press (X : LX p l s m meth c b L xs D cy qc qm) {i : Nat} (hi : i + 7 ≤ L) (h : R σc σm) (kk : ∀ σc' σm' : St, R σc' σm' → LW p l e s m below meth c b D cy qc qm σc' σm' 1064 (lvL qc qm b i) []) : LW p l e s m below meth c b D cy qc qm σc σm 335 (lvL qc qm b i) [] := by
  refine l_al X 2 dL_law_335 rfl ?_
  refine l_arg X (k := 1) (n := 1) (by omega) (by decide) dL_law_336 dL_law_337 dL_law_338 dL_law_339 dL_law_340 ?_
  refine l_arg X (k := 2) (n := 2) (by omega) (by decide) dL_law_341 dL_law_342 dL_law_343 dL_law_344 dL_law_345 ?_
  refine l_callC (st := []) (As := [.int (xs (i + 1)), .int (xs (i + 2))]) X (c_X8_press (l, D, qc, cy) _ _ σc _ (P_press h)) gL_law_X8_press rfl ⟨rfl, nkX8_press⟩ ⟨rfl, rfl, by decide, by decide⟩ rfl (Nat.le_of_ble_eq_true rfl) dL_law_346 rfl (fun r σc' h1 => ?_)
  refine l_al X 1 dL_law_349 rfl ?_
  refine l_arg X (k := 1) (n := 1) (by omega) (by decide) dL_law_350 dL_law_351 dL_law_352 dL_law_353 dL_law_354 ?_
  refine l_arg X (k := 2) (n := 2) (by omega) (by decide) dL_law_355 dL_law_356 dL_law_357 dL_law_358 dL_law_359 ?_
  refine l_callM (st := [.int r]) (As := [.int (xs (i + 1)), .int (xs (i + 2))]) X (c_X9_press (l, D, qm, cy) _ _ σm _ h1) gL_law_X9_press rfl ⟨rfl, nkX9_press⟩ ⟨rfl, rfl, by decide, by decide⟩ rfl (Nat.le_of_ble_eq_true rfl) dL_law_360 rfl (fun r' σm' h2 => ?_)
  exact l_end X dL_law_363 (by decide) h2.1 (kk _ _ h2.2)
theorem k_rule (X : LX p l s m meth c b L xs D cy qc qm) {i : Nat} (hi : i + 7 ≤ L) (h : R σc σm) (kk : ∀ σc' σm' : St, R σc' σm' → LW p l e s m below meth c b D cy qc qm σc' σm' 1064 (lvL qc qm b i) []) : LW p l e s m below meth c b D cy qc qm σc σm 368 (lvL qc qm b i) [] := by
  refine l_al X 2 dL_law_368 rfl ?_
  refine l_arg X (k := 1) (n := 1) (by omega) (by decide) dL_law_369 dL_law_370 dL_law_371 dL_law_372 dL_law_373 ?_
  refine l_arg X (k := 2) (n := 2) (by omega) (by decide) dL_law_374 dL_law_375 dL_law_376 dL_law_377 dL_law_378 ?_
  refine l_arg X (k := 3) (n := 3) (by omega) (by decide) dL_law_379 dL_law_380 dL_law_381 dL_law_382 dL_law_383 ?_
  refine l_callC (st := []) (As := [.int (xs (i + 1)), .int (xs (i + 2)), .int (xs (i + 3))]) X (c_X8_rule (l, D, qc, cy) _ _ _ σc _ (P_rule h)) gL_law_X8_rule rfl ⟨rfl, nkX8_rule⟩ ⟨rfl, rfl, by decide, by decide⟩ rfl (Nat.le_of_ble_eq_true rfl) dL_law_384 rfl (fun r σc' h1 => ?_)
  refine l_al X 1 dL_law_387 rfl ?_
  refine l_arg X (k := 1) (n := 1) (by omega) (by decide) dL_law_388 dL_law_389 dL_law_390 dL_law_391 dL_law_392 ?_
  refine l_arg X (k := 2) (n := 2) (by omega) (by decide) dL_law_393 dL_law_394 dL_law_395 dL_law_396 dL_law_397 ?_
  refine l_arg X (k := 3) (n := 3) (by omega) (by decide) dL_law_398 dL_law_399 dL_law_400 dL_law_401 dL_law_402 ?_
  refine l_callM (st := [.int r]) (As := [.int (xs (i + 1)), .int (xs (i + 2)), .int (xs (i + 3))]) X (c_X9_rule (l, D, qm, cy) _ _ _ σm _ h1) gL_law_X9_rule rfl ⟨rfl, nkX9_rule⟩ ⟨rfl, rfl, by decide, by decide⟩ rfl (Nat.le_of_ble_eq_true rfl) dL_law_403 rfl (fun r' σm' h2 => ?_)
  exact l_end X dL_law_406 (by decide) h2.1 (kk _ _ h2.2)
theorem k_shut (X : LX p l s m meth c b L xs D cy qc qm) {i : Nat} (hi : i + 7 ≤ L) (h : R σc σm) (kk : ∀ σc' σm' : St, R σc' σm' → LW p l e s m below meth c b D cy qc qm σc' σm' 1064 (lvL qc qm b i) []) : LW p l e s m below meth c b D cy qc qm σc σm 411 (lvL qc qm b i) [] := by
  refine l_al X 2 dL_law_411 rfl ?_
  refine l_arg X (k := 1) (n := 1) (by omega) (by decide) dL_law_412 dL_law_413 dL_law_414 dL_law_415 dL_law_416 ?_
  refine l_bool X dL_law_417 dL_law_420 dL_law_421 dL_law_424 (fun v ev => ?_)
  have hv : v = 0 ∨ v = 1 := by rw [ev]; split; exact Or.inl rfl; exact Or.inr rfl
  refine l_callC (st := []) (As := [.int v]) X (c_X8_shut (l, D, qc, cy) _ σc _ (P_shut hv h)) gL_law_X8_shut rfl ⟨rfl, nkX8_shut⟩ ⟨rfl, rfl, by decide, by decide⟩ rfl (Nat.le_of_ble_eq_true rfl) dL_law_425 rfl (fun r σc' h1 => ?_)
  refine l_al X 1 dL_law_428 rfl ?_
  refine l_arg X (k := 1) (n := 1) (by omega) (by decide) dL_law_429 dL_law_430 dL_law_431 dL_law_432 dL_law_433 ?_
  refine l_bool X dL_law_434 dL_law_437 dL_law_438 dL_law_441 (fun w ew => ?_)
  rw [show w = v from ew.trans ev.symm]
  refine l_callM (st := [.int r]) (As := [.int v]) X (c_X9_shut (l, D, qm, cy) _ σm _ h1) gL_law_X9_shut rfl ⟨rfl, nkX9_shut⟩ ⟨rfl, rfl, by decide, by decide⟩ rfl (Nat.le_of_ble_eq_true rfl) dL_law_442 rfl (fun r' σm' h2 => ?_)
  exact l_end X dL_law_445 (by decide) h2.1 (kk _ _ h2.2)
theorem k_plate (X : LX p l s m meth c b L xs D cy qc qm) {i : Nat} (hi : i + 7 ≤ L) (h : R σc σm) (kk : ∀ σc' σm' : St, R σc' σm' → LW p l e s m below meth c b D cy qc qm σc' σm' 1064 (lvL qc qm b i) []) : LW p l e s m below meth c b D cy qc qm σc σm 450 (lvL qc qm b i) [] := by
  refine l_al X 2 dL_law_450 rfl ?_
  refine l_callC (st := []) (As := []) X (c_X8_plate (l, D, qc, cy)  σc _ (P_plate h)) gL_law_X8_plate rfl ⟨rfl, nkX8_plate⟩ ⟨rfl, rfl, by decide, by decide⟩ rfl (Nat.le_of_ble_eq_true rfl) dL_law_451 rfl (fun r σc' h1 => ?_)
  refine l_al X 1 dL_law_454 rfl ?_
  refine l_callM (st := [.int r]) (As := []) X (c_X9_plate (l, D, qm, cy)  σm _ h1) gL_law_X9_plate rfl ⟨rfl, nkX9_plate⟩ ⟨rfl, rfl, by decide, by decide⟩ rfl (Nat.le_of_ble_eq_true rfl) dL_law_455 rfl (fun r' σm' h2 => ?_)
  exact l_end X dL_law_458 (by decide) h2.1 (kk _ _ h2.2)
theorem k_drift (X : LX p l s m meth c b L xs D cy qc qm) {i : Nat} (hi : i + 7 ≤ L) (h : R σc σm) (kk : ∀ σc' σm' : St, R σc' σm' → LW p l e s m below meth c b D cy qc qm σc' σm' 1064 (lvL qc qm b i) []) : LW p l e s m below meth c b D cy qc qm σc σm 463 (lvL qc qm b i) [] := by
  refine l_al X 2 dL_law_463 rfl ?_
  refine l_arg X (k := 1) (n := 1) (by omega) (by decide) dL_law_464 dL_law_465 dL_law_466 dL_law_467 dL_law_468 ?_
  refine l_callC (st := []) (As := [.int (xs (i + 1))]) X (c_X8_drift (l, D, qc, cy) _ σc _ (P_drift h)) gL_law_X8_drift rfl ⟨rfl, nkX8_drift⟩ ⟨rfl, rfl, by decide, by decide⟩ rfl (Nat.le_of_ble_eq_true rfl) dL_law_469 rfl (fun r σc' h1 => ?_)
  refine l_al X 1 dL_law_472 rfl ?_
  refine l_arg X (k := 1) (n := 1) (by omega) (by decide) dL_law_473 dL_law_474 dL_law_475 dL_law_476 dL_law_477 ?_
  refine l_callM (st := [.int r]) (As := [.int (xs (i + 1))]) X (c_X9_drift (l, D, qm, cy) _ σm _ h1) gL_law_X9_drift rfl ⟨rfl, nkX9_drift⟩ ⟨rfl, rfl, by decide, by decide⟩ rfl (Nat.le_of_ble_eq_true rfl) dL_law_478 rfl (fun r' σm' h2 => ?_)
  exact l_end X dL_law_481 (by decide) h2.1 (kk _ _ h2.2)
theorem k_undo (X : LX p l s m meth c b L xs D cy qc qm) {i : Nat} (hi : i + 7 ≤ L) (h : R σc σm) (kk : ∀ σc' σm' : St, R σc' σm' → LW p l e s m below meth c b D cy qc qm σc' σm' 1064 (lvL qc qm b i) []) : LW p l e s m below meth c b D cy qc qm σc σm 486 (lvL qc qm b i) [] := by
  refine l_al X 2 dL_law_486 rfl ?_
  refine l_callC (st := []) (As := []) X (c_X8_undo (l, D, qc, cy)  σc _ (P_undo h)) gL_law_X8_undo rfl ⟨rfl, nkX8_undo⟩ ⟨rfl, rfl, by decide, by decide⟩ rfl (Nat.le_of_ble_eq_true rfl) dL_law_487 rfl (fun r σc' h1 => ?_)
  refine l_al X 1 dL_law_490 rfl ?_
  refine l_callM (st := [.int r]) (As := []) X (c_X9_undo (l, D, qm, cy)  σm _ h1) gL_law_X9_undo rfl ⟨rfl, nkX9_undo⟩ ⟨rfl, rfl, by decide, by decide⟩ rfl (Nat.le_of_ble_eq_true rfl) dL_law_491 rfl (fun r' σm' h2 => ?_)
  exact l_end X dL_law_494 (by decide) h2.1 (kk _ _ h2.2)
theorem k_where (X : LX p l s m meth c b L xs D cy qc qm) {i : Nat} (hi : i + 7 ≤ L) (h : R σc σm) (kk : ∀ σc' σm' : St, R σc' σm' → LW p l e s m below meth c b D cy qc qm σc' σm' 1064 (lvL qc qm b i) []) : LW p l e s m below meth c b D cy qc qm σc σm 499 (lvL qc qm b i) [] := by
  refine l_al X 2 dL_law_499 rfl ?_
  refine l_arg X (k := 1) (n := 1) (by omega) (by decide) dL_law_500 dL_law_501 dL_law_502 dL_law_503 dL_law_504 ?_
  refine l_arg X (k := 2) (n := 2) (by omega) (by decide) dL_law_505 dL_law_506 dL_law_507 dL_law_508 dL_law_509 ?_
  refine l_callC (st := []) (As := [.int (xs (i + 1)), .int (xs (i + 2))]) X (c_X8_where (l, D, qc, cy) _ _ σc _ (P_where h)) gL_law_X8_where rfl ⟨rfl, nkX8_where⟩ ⟨rfl, rfl, by decide, by decide⟩ rfl (Nat.le_of_ble_eq_true rfl) dL_law_510 rfl (fun r σc' h1 => ?_)
  refine l_al X 1 dL_law_513 rfl ?_
  refine l_arg X (k := 1) (n := 1) (by omega) (by decide) dL_law_514 dL_law_515 dL_law_516 dL_law_517 dL_law_518 ?_
  refine l_arg X (k := 2) (n := 2) (by omega) (by decide) dL_law_519 dL_law_520 dL_law_521 dL_law_522 dL_law_523 ?_
  refine l_callM (st := [.int r]) (As := [.int (xs (i + 1)), .int (xs (i + 2))]) X (c_X9_where (l, D, qm, cy) _ _ σm _ h1) gL_law_X9_where rfl ⟨rfl, nkX9_where⟩ ⟨rfl, rfl, by decide, by decide⟩ rfl (Nat.le_of_ble_eq_true rfl) dL_law_524 rfl (fun r' σm' h2 => ?_)
  exact l_end X dL_law_527 (by decide) h2.1 (kk _ _ h2.2)
theorem k_lostWhen (X : LX p l s m meth c b L xs D cy qc qm) {i : Nat} (hi : i + 7 ≤ L) (h : R σc σm) (kk : ∀ σc' σm' : St, R σc' σm' → LW p l e s m below meth c b D cy qc qm σc' σm' 1064 (lvL qc qm b i) []) : LW p l e s m below meth c b D cy qc qm σc σm 532 (lvL qc qm b i) [] := by
  refine l_al X 2 dL_law_532 rfl ?_
  refine l_callC (st := []) (As := []) X (c_X8_lostWhen (l, D, qc, cy)  σc _ (P_lostWhen h)) gL_law_X8_lostWhen rfl ⟨rfl, nkX8_lostWhen⟩ ⟨rfl, rfl, by decide, by decide⟩ rfl (Nat.le_of_ble_eq_true rfl) dL_law_533 rfl (fun r σc' h1 => ?_)
  refine l_al X 1 dL_law_536 rfl ?_
  refine l_callM (st := [.int r]) (As := []) X (c_X9_lostWhen (l, D, qm, cy)  σm _ h1) gL_law_X9_lostWhen rfl ⟨rfl, nkX9_lostWhen⟩ ⟨rfl, rfl, by decide, by decide⟩ rfl (Nat.le_of_ble_eq_true rfl) dL_law_537 rfl (fun r' σm' h2 => ?_)
  exact l_end X dL_law_540 (by decide) h2.1 (kk _ _ h2.2)
theorem k_stretch (X : LX p l s m meth c b L xs D cy qc qm) {i : Nat} (hi : i + 7 ≤ L) (h : R σc σm) (kk : ∀ σc' σm' : St, R σc' σm' → LW p l e s m below meth c b D cy qc qm σc' σm' 1064 (lvL qc qm b i) []) : LW p l e s m below meth c b D cy qc qm σc σm 545 (lvL qc qm b i) [] := by
  refine l_al X 2 dL_law_545 rfl ?_
  refine l_arg X (k := 1) (n := 1) (by omega) (by decide) dL_law_546 dL_law_547 dL_law_548 dL_law_549 dL_law_550 ?_
  refine l_callC (st := []) (As := [.int (xs (i + 1))]) X (c_X8_stretch (l, D, qc, cy) _ σc _ (P_stretch h)) gL_law_X8_stretch rfl ⟨rfl, nkX8_stretch⟩ ⟨rfl, rfl, by decide, by decide⟩ rfl (Nat.le_of_ble_eq_true rfl) dL_law_551 rfl (fun r σc' h1 => ?_)
  refine l_al X 1 dL_law_554 rfl ?_
  refine l_arg X (k := 1) (n := 1) (by omega) (by decide) dL_law_555 dL_law_556 dL_law_557 dL_law_558 dL_law_559 ?_
  refine l_callM (st := [.int r]) (As := [.int (xs (i + 1))]) X (c_X9_stretch (l, D, qm, cy) _ σm _ h1) gL_law_X9_stretch rfl ⟨rfl, nkX9_stretch⟩ ⟨rfl, rfl, by decide, by decide⟩ rfl (Nat.le_of_ble_eq_true rfl) dL_law_560 rfl (fun r' σm' h2 => ?_)
  exact l_end X dL_law_563 (by decide) h2.1 (kk _ _ h2.2)
theorem k_bestRule (X : LX p l s m meth c b L xs D cy qc qm) {i : Nat} (hi : i + 7 ≤ L) (h : R σc σm) (kk : ∀ σc' σm' : St, R σc' σm' → LW p l e s m below meth c b D cy qc qm σc' σm' 1064 (lvL qc qm b i) []) : LW p l e s m below meth c b D cy qc qm σc σm 568 (lvL qc qm b i) [] := by
  refine l_al X 2 dL_law_568 rfl ?_
  refine l_arg X (k := 1) (n := 1) (by omega) (by decide) dL_law_569 dL_law_570 dL_law_571 dL_law_572 dL_law_573 ?_
  refine l_arg X (k := 2) (n := 2) (by omega) (by decide) dL_law_574 dL_law_575 dL_law_576 dL_law_577 dL_law_578 ?_
  refine l_callC (st := []) (As := [.int (xs (i + 1)), .int (xs (i + 2))]) X (c_X8_bestRule (l, D, qc, cy) _ _ σc _ (P_bestRule h)) gL_law_X8_bestRule rfl ⟨rfl, nkX8_bestRule⟩ ⟨rfl, rfl, by decide, by decide⟩ rfl (Nat.le_of_ble_eq_true rfl) dL_law_579 rfl (fun r σc' h1 => ?_)
  refine l_al X 1 dL_law_582 rfl ?_
  refine l_arg X (k := 1) (n := 1) (by omega) (by decide) dL_law_583 dL_law_584 dL_law_585 dL_law_586 dL_law_587 ?_
  refine l_arg X (k := 2) (n := 2) (by omega) (by decide) dL_law_588 dL_law_589 dL_law_590 dL_law_591 dL_law_592 ?_
  refine l_callM (st := [.int r]) (As := [.int (xs (i + 1)), .int (xs (i + 2))]) X (c_X9_bestRule (l, D, qm, cy) _ _ σm _ h1) gL_law_X9_bestRule rfl ⟨rfl, nkX9_bestRule⟩ ⟨rfl, rfl, by decide, by decide⟩ rfl (Nat.le_of_ble_eq_true rfl) dL_law_593 rfl (fun r' σm' h2 => ?_)
  exact l_end X dL_law_596 (by decide) h2.1 (kk _ _ h2.2)
theorem k_nodded (X : LX p l s m meth c b L xs D cy qc qm) {i : Nat} (hi : i + 7 ≤ L) (h : R σc σm) (kk : ∀ σc' σm' : St, R σc' σm' → LW p l e s m below meth c b D cy qc qm σc' σm' 1064 (lvL qc qm b i) []) : LW p l e s m below meth c b D cy qc qm σc σm 601 (lvL qc qm b i) [] := by
  refine l_al X 2 dL_law_601 rfl ?_
  refine l_arg X (k := 1) (n := 1) (by omega) (by decide) dL_law_602 dL_law_603 dL_law_604 dL_law_605 dL_law_606 ?_
  refine l_arg X (k := 2) (n := 2) (by omega) (by decide) dL_law_607 dL_law_608 dL_law_609 dL_law_610 dL_law_611 ?_
  refine l_arg X (k := 3) (n := 3) (by omega) (by decide) dL_law_612 dL_law_613 dL_law_614 dL_law_615 dL_law_616 ?_
  refine l_arg X (k := 4) (n := 4) (by omega) (by decide) dL_law_617 dL_law_618 dL_law_619 dL_law_620 dL_law_621 ?_
  refine l_arg X (k := 5) (n := 5) (by omega) (by decide) dL_law_622 dL_law_623 dL_law_624 dL_law_625 dL_law_626 ?_
  refine l_arg6 X (k := 6) (n := 6) (by omega) (by decide) dL_law_627 dL_law_628 dL_law_629 dL_law_631 dL_law_632 ?_
  refine l_callC (st := []) (As := [.int (xs (i + 1)), .int (xs (i + 2)), .int (xs (i + 3)), .int (xs (i + 4)), .int (xs (i + 5)), .int (xs (i + 6))]) X (c_X8_nodded (l, D, qc, cy) _ _ _ _ _ _ σc _ (P_nodded h)) gL_law_X8_nodded rfl ⟨rfl, nkX8_nodded⟩ ⟨rfl, rfl, by decide, by decide⟩ rfl (Nat.le_of_ble_eq_true rfl) dL_law_633 rfl (fun r σc' h1 => ?_)
  refine l_al X 1 dL_law_636 rfl ?_
  refine l_arg X (k := 1) (n := 1) (by omega) (by decide) dL_law_637 dL_law_638 dL_law_639 dL_law_640 dL_law_641 ?_
  refine l_arg X (k := 2) (n := 2) (by omega) (by decide) dL_law_642 dL_law_643 dL_law_644 dL_law_645 dL_law_646 ?_
  refine l_arg X (k := 3) (n := 3) (by omega) (by decide) dL_law_647 dL_law_648 dL_law_649 dL_law_650 dL_law_651 ?_
  refine l_arg X (k := 4) (n := 4) (by omega) (by decide) dL_law_652 dL_law_653 dL_law_654 dL_law_655 dL_law_656 ?_
  refine l_arg X (k := 5) (n := 5) (by omega) (by decide) dL_law_657 dL_law_658 dL_law_659 dL_law_660 dL_law_661 ?_
  refine l_arg6 X (k := 6) (n := 6) (by omega) (by decide) dL_law_662 dL_law_663 dL_law_664 dL_law_666 dL_law_667 ?_
  refine l_callM (st := [.int r]) (As := [.int (xs (i + 1)), .int (xs (i + 2)), .int (xs (i + 3)), .int (xs (i + 4)), .int (xs (i + 5)), .int (xs (i + 6))]) X (c_X9_nodded (l, D, qm, cy) _ _ _ _ _ _ σm _ h1) gL_law_X9_nodded rfl ⟨rfl, nkX9_nodded⟩ ⟨rfl, rfl, by decide, by decide⟩ rfl (Nat.le_of_ble_eq_true rfl) dL_law_668 rfl (fun r' σm' h2 => ?_)
  exact l_end X dL_law_671 (by decide) h2.1 (kk _ _ h2.2)
theorem k_guide (X : LX p l s m meth c b L xs D cy qc qm) {i : Nat} (hi : i + 7 ≤ L) (h : R σc σm) (kk : ∀ σc' σm' : St, R σc' σm' → LW p l e s m below meth c b D cy qc qm σc' σm' 1064 (lvL qc qm b i) []) : LW p l e s m below meth c b D cy qc qm σc σm 676 (lvL qc qm b i) [] := by
  refine l_al X 2 dL_law_676 rfl ?_
  refine l_arg X (k := 1) (n := 1) (by omega) (by decide) dL_law_677 dL_law_678 dL_law_679 dL_law_680 dL_law_681 ?_
  refine l_callC (st := []) (As := [.int (xs (i + 1))]) X (c_X8_guide (l, D, qc, cy) _ σc _ (P_guide h)) gL_law_X8_guide rfl ⟨rfl, nkX8_guide⟩ ⟨rfl, rfl, by decide, by decide⟩ rfl (Nat.le_of_ble_eq_true rfl) dL_law_682 rfl (fun r σc' h1 => ?_)
  refine l_al X 1 dL_law_685 rfl ?_
  refine l_arg X (k := 1) (n := 1) (by omega) (by decide) dL_law_686 dL_law_687 dL_law_688 dL_law_689 dL_law_690 ?_
  refine l_callM (st := [.int r]) (As := [.int (xs (i + 1))]) X (c_X9_guide (l, D, qm, cy) _ σm _ h1) gL_law_X9_guide rfl ⟨rfl, nkX9_guide⟩ ⟨rfl, rfl, by decide, by decide⟩ rfl (Nat.le_of_ble_eq_true rfl) dL_law_691 rfl (fun r' σm' h2 => ?_)
  exact l_end X dL_law_694 (by decide) h2.1 (kk _ _ h2.2)
theorem k_turns (X : LX p l s m meth c b L xs D cy qc qm) {i : Nat} (hi : i + 7 ≤ L) (h : R σc σm) (kk : ∀ σc' σm' : St, R σc' σm' → LW p l e s m below meth c b D cy qc qm σc' σm' 1064 (lvL qc qm b i) []) : LW p l e s m below meth c b D cy qc qm σc σm 699 (lvL qc qm b i) [] := by
  refine l_al X 2 dL_law_699 rfl ?_
  refine l_arg X (k := 1) (n := 1) (by omega) (by decide) dL_law_700 dL_law_701 dL_law_702 dL_law_703 dL_law_704 ?_
  refine l_arg X (k := 2) (n := 2) (by omega) (by decide) dL_law_705 dL_law_706 dL_law_707 dL_law_708 dL_law_709 ?_
  refine l_callC (st := []) (As := [.int (xs (i + 1)), .int (xs (i + 2))]) X (c_X8_turns (l, D, qc, cy) _ _ σc _ (P_turns h)) gL_law_X8_turns rfl ⟨rfl, nkX8_turns⟩ ⟨rfl, rfl, by decide, by decide⟩ rfl (Nat.le_of_ble_eq_true rfl) dL_law_710 rfl (fun r σc' h1 => ?_)
  refine l_al X 1 dL_law_713 rfl ?_
  refine l_arg X (k := 1) (n := 1) (by omega) (by decide) dL_law_714 dL_law_715 dL_law_716 dL_law_717 dL_law_718 ?_
  refine l_arg X (k := 2) (n := 2) (by omega) (by decide) dL_law_719 dL_law_720 dL_law_721 dL_law_722 dL_law_723 ?_
  refine l_callM (st := [.int r]) (As := [.int (xs (i + 1)), .int (xs (i + 2))]) X (c_X9_turns (l, D, qm, cy) _ _ σm _ h1) gL_law_X9_turns rfl ⟨rfl, nkX9_turns⟩ ⟨rfl, rfl, by decide, by decide⟩ rfl (Nat.le_of_ble_eq_true rfl) dL_law_724 rfl (fun r' σm' h2 => ?_)
  exact l_end X dL_law_727 (by decide) h2.1 (kk _ _ h2.2)
theorem k_stop (X : LX p l s m meth c b L xs D cy qc qm) {i : Nat} (hi : i + 7 ≤ L) (h : R σc σm) (kk : ∀ σc' σm' : St, R σc' σm' → LW p l e s m below meth c b D cy qc qm σc' σm' 1064 (lvL qc qm b i) []) : LW p l e s m below meth c b D cy qc qm σc σm 732 (lvL qc qm b i) [] := by
  refine l_al X 2 dL_law_732 rfl ?_
  refine l_arg X (k := 1) (n := 1) (by omega) (by decide) dL_law_733 dL_law_734 dL_law_735 dL_law_736 dL_law_737 ?_
  refine l_callC (st := []) (As := [.int (xs (i + 1))]) X (c_X8_stop (l, D, qc, cy) _ σc _ (P_stop h)) gL_law_X8_stop rfl ⟨rfl, nkX8_stop⟩ ⟨rfl, rfl, by decide, by decide⟩ rfl (Nat.le_of_ble_eq_true rfl) dL_law_738 rfl (fun r σc' h1 => ?_)
  refine l_al X 1 dL_law_741 rfl ?_
  refine l_arg X (k := 1) (n := 1) (by omega) (by decide) dL_law_742 dL_law_743 dL_law_744 dL_law_745 dL_law_746 ?_
  refine l_callM (st := [.int r]) (As := [.int (xs (i + 1))]) X (c_X9_stop (l, D, qm, cy) _ σm _ h1) gL_law_X9_stop rfl ⟨rfl, nkX9_stop⟩ ⟨rfl, rfl, by decide, by decide⟩ rfl (Nat.le_of_ble_eq_true rfl) dL_law_747 rfl (fun r' σm' h2 => ?_)
  exact l_end X dL_law_750 (by decide) h2.1 (kk _ _ h2.2)
theorem k_nods (X : LX p l s m meth c b L xs D cy qc qm) {i : Nat} (hi : i + 7 ≤ L) (h : R σc σm) (kk : ∀ σc' σm' : St, R σc' σm' → LW p l e s m below meth c b D cy qc qm σc' σm' 1064 (lvL qc qm b i) []) : LW p l e s m below meth c b D cy qc qm σc σm 755 (lvL qc qm b i) [] := by
  refine l_al X 2 dL_law_755 rfl ?_
  refine l_arg X (k := 1) (n := 1) (by omega) (by decide) dL_law_756 dL_law_757 dL_law_758 dL_law_759 dL_law_760 ?_
  refine l_arg X (k := 2) (n := 2) (by omega) (by decide) dL_law_761 dL_law_762 dL_law_763 dL_law_764 dL_law_765 ?_
  refine l_callC (st := []) (As := [.int (xs (i + 1)), .int (xs (i + 2))]) X (c_X8_nods (l, D, qc, cy) _ _ σc _ (P_nods h)) gL_law_X8_nods rfl ⟨rfl, nkX8_nods⟩ ⟨rfl, rfl, by decide, by decide⟩ rfl (Nat.le_of_ble_eq_true rfl) dL_law_766 rfl (fun r σc' h1 => ?_)
  refine l_al X 1 dL_law_769 rfl ?_
  refine l_arg X (k := 1) (n := 1) (by omega) (by decide) dL_law_770 dL_law_771 dL_law_772 dL_law_773 dL_law_774 ?_
  refine l_arg X (k := 2) (n := 2) (by omega) (by decide) dL_law_775 dL_law_776 dL_law_777 dL_law_778 dL_law_779 ?_
  refine l_callM (st := [.int r]) (As := [.int (xs (i + 1)), .int (xs (i + 2))]) X (c_X9_nods (l, D, qm, cy) _ _ σm _ h1) gL_law_X9_nods rfl ⟨rfl, nkX9_nods⟩ ⟨rfl, rfl, by decide, by decide⟩ rfl (Nat.le_of_ble_eq_true rfl) dL_law_780 rfl (fun r' σm' h2 => ?_)
  exact l_end X dL_law_783 (by decide) h2.1 (kk _ _ h2.2)
theorem k_see (X : LX p l s m meth c b L xs D cy qc qm) {i : Nat} (hi : i + 7 ≤ L) (h : R σc σm) (kk : ∀ σc' σm' : St, R σc' σm' → LW p l e s m below meth c b D cy qc qm σc' σm' 1064 (lvL qc qm b i) []) : LW p l e s m below meth c b D cy qc qm σc σm 788 (lvL qc qm b i) [] := by
  refine l_al X 2 dL_law_788 rfl ?_
  refine l_arg X (k := 1) (n := 1) (by omega) (by decide) dL_law_789 dL_law_790 dL_law_791 dL_law_792 dL_law_793 ?_
  refine l_arg X (k := 2) (n := 2) (by omega) (by decide) dL_law_794 dL_law_795 dL_law_796 dL_law_797 dL_law_798 ?_
  refine l_callC (st := []) (As := [.int (xs (i + 1)), .int (xs (i + 2))]) X (c_X8_see (l, D, qc, cy) _ _ σc _ (P_see h)) gL_law_X8_see rfl ⟨rfl, nkX8_see⟩ ⟨rfl, rfl, by decide, by decide⟩ rfl (Nat.le_of_ble_eq_true rfl) dL_law_799 rfl (fun r σc' h1 => ?_)
  refine l_al X 1 dL_law_802 rfl ?_
  refine l_arg X (k := 1) (n := 1) (by omega) (by decide) dL_law_803 dL_law_804 dL_law_805 dL_law_806 dL_law_807 ?_
  refine l_arg X (k := 2) (n := 2) (by omega) (by decide) dL_law_808 dL_law_809 dL_law_810 dL_law_811 dL_law_812 ?_
  refine l_callM (st := [.int r]) (As := [.int (xs (i + 1)), .int (xs (i + 2))]) X (c_X9_see (l, D, qm, cy) _ _ σm _ h1) gL_law_X9_see rfl ⟨rfl, nkX9_see⟩ ⟨rfl, rfl, by decide, by decide⟩ rfl (Nat.le_of_ble_eq_true rfl) dL_law_813 rfl (fun r' σm' h2 => ?_)
  exact l_end X dL_law_816 (by decide) h2.1 (kk _ _ h2.2)
theorem k_fits (X : LX p l s m meth c b L xs D cy qc qm) {i : Nat} (hi : i + 7 ≤ L) (h : R σc σm) (kk : ∀ σc' σm' : St, R σc' σm' → LW p l e s m below meth c b D cy qc qm σc' σm' 1064 (lvL qc qm b i) []) : LW p l e s m below meth c b D cy qc qm σc σm 821 (lvL qc qm b i) [] := by
  refine l_al X 2 dL_law_821 rfl ?_
  refine l_arg X (k := 1) (n := 1) (by omega) (by decide) dL_law_822 dL_law_823 dL_law_824 dL_law_825 dL_law_826 ?_
  refine l_arg X (k := 2) (n := 2) (by omega) (by decide) dL_law_827 dL_law_828 dL_law_829 dL_law_830 dL_law_831 ?_
  refine l_callC (st := []) (As := [.int (xs (i + 1)), .int (xs (i + 2))]) X (c_X8_fits (l, D, qc, cy) _ _ σc _ (P_fits h)) gL_law_X8_fits rfl ⟨rfl, nkX8_fits⟩ ⟨rfl, rfl, by decide, by decide⟩ rfl (Nat.le_of_ble_eq_true rfl) dL_law_832 rfl (fun r σc' h1 => ?_)
  refine l_al X 1 dL_law_835 rfl ?_
  refine l_arg X (k := 1) (n := 1) (by omega) (by decide) dL_law_836 dL_law_837 dL_law_838 dL_law_839 dL_law_840 ?_
  refine l_arg X (k := 2) (n := 2) (by omega) (by decide) dL_law_841 dL_law_842 dL_law_843 dL_law_844 dL_law_845 ?_
  refine l_callM (st := [.int r]) (As := [.int (xs (i + 1)), .int (xs (i + 2))]) X (c_X9_fits (l, D, qm, cy) _ _ σm _ h1) gL_law_X9_fits rfl ⟨rfl, nkX9_fits⟩ ⟨rfl, rfl, by decide, by decide⟩ rfl (Nat.le_of_ble_eq_true rfl) dL_law_846 rfl (fun r' σm' h2 => ?_)
  exact l_end X dL_law_849 (by decide) h2.1 (kk _ _ h2.2)
theorem k_periods (X : LX p l s m meth c b L xs D cy qc qm) {i : Nat} (hi : i + 7 ≤ L) (h : R σc σm) (kk : ∀ σc' σm' : St, R σc' σm' → LW p l e s m below meth c b D cy qc qm σc' σm' 1064 (lvL qc qm b i) []) : LW p l e s m below meth c b D cy qc qm σc σm 854 (lvL qc qm b i) [] := by
  refine l_al X 2 dL_law_854 rfl ?_
  refine l_callC (st := []) (As := []) X (c_X8_periods (l, D, qc, cy)  σc _ (P_periods h)) gL_law_X8_periods rfl ⟨rfl, nkX8_periods⟩ ⟨rfl, rfl, by decide, by decide⟩ rfl (Nat.le_of_ble_eq_true rfl) dL_law_855 rfl (fun r σc' h1 => ?_)
  refine l_al X 1 dL_law_858 rfl ?_
  refine l_callM (st := [.int r]) (As := []) X (c_X9_periods (l, D, qm, cy)  σm _ h1) gL_law_X9_periods rfl ⟨rfl, nkX9_periods⟩ ⟨rfl, rfl, by decide, by decide⟩ rfl (Nat.le_of_ble_eq_true rfl) dL_law_859 rfl (fun r' σm' h2 => ?_)
  exact l_end X dL_law_862 (by decide) h2.1 (kk _ _ h2.2)
theorem k_look (X : LX p l s m meth c b L xs D cy qc qm) {i : Nat} (hi : i + 7 ≤ L) (h : R σc σm) (kk : ∀ σc' σm' : St, R σc' σm' → LW p l e s m below meth c b D cy qc qm σc' σm' 1064 (lvL qc qm b i) []) : LW p l e s m below meth c b D cy qc qm σc σm 867 (lvL qc qm b i) [] := by
  refine l_al X 2 dL_law_867 rfl ?_
  refine l_callC (st := []) (As := []) X (c_X8_look (l, D, qc, cy)  σc _ (P_look h)) gL_law_X8_look rfl ⟨rfl, nkX8_look⟩ ⟨rfl, rfl, by decide, by decide⟩ rfl (Nat.le_of_ble_eq_true rfl) dL_law_868 rfl (fun r σc' h1 => ?_)
  refine l_al X 1 dL_law_871 rfl ?_
  refine l_callM (st := [.int r]) (As := []) X (c_X9_look (l, D, qm, cy)  σm _ h1) gL_law_X9_look rfl ⟨rfl, nkX9_look⟩ ⟨rfl, rfl, by decide, by decide⟩ rfl (Nat.le_of_ble_eq_true rfl) dL_law_872 rfl (fun r' σm' h2 => ?_)
  exact l_end X dL_law_875 (by decide) h2.1 (kk _ _ h2.2)
theorem k_tail (X : LX p l s m meth c b L xs D cy qc qm) {i : Nat} (hi : i + 7 ≤ L) (h : R σc σm) (kk : ∀ σc' σm' : St, R σc' σm' → LW p l e s m below meth c b D cy qc qm σc' σm' 1064 (lvL qc qm b i) []) : LW p l e s m below meth c b D cy qc qm σc σm 880 (lvL qc qm b i) [] := by
  refine l_al X 2 dL_law_880 rfl ?_
  refine l_arg X (k := 1) (n := 1) (by omega) (by decide) dL_law_881 dL_law_882 dL_law_883 dL_law_884 dL_law_885 ?_
  refine l_arg X (k := 2) (n := 2) (by omega) (by decide) dL_law_886 dL_law_887 dL_law_888 dL_law_889 dL_law_890 ?_
  refine l_arg X (k := 3) (n := 3) (by omega) (by decide) dL_law_891 dL_law_892 dL_law_893 dL_law_894 dL_law_895 ?_
  refine l_callC (st := []) (As := [.int (xs (i + 1)), .int (xs (i + 2)), .int (xs (i + 3))]) X (c_X8_tail (l, D, qc, cy) _ _ _ σc _ (P_tail h)) gL_law_X8_tail rfl ⟨rfl, nkX8_tail⟩ ⟨rfl, rfl, by decide, by decide⟩ rfl (Nat.le_of_ble_eq_true rfl) dL_law_896 rfl (fun r σc' h1 => ?_)
  refine l_al X 1 dL_law_899 rfl ?_
  refine l_arg X (k := 1) (n := 1) (by omega) (by decide) dL_law_900 dL_law_901 dL_law_902 dL_law_903 dL_law_904 ?_
  refine l_arg X (k := 2) (n := 2) (by omega) (by decide) dL_law_905 dL_law_906 dL_law_907 dL_law_908 dL_law_909 ?_
  refine l_arg X (k := 3) (n := 3) (by omega) (by decide) dL_law_910 dL_law_911 dL_law_912 dL_law_913 dL_law_914 ?_
  refine l_callM (st := [.int r]) (As := [.int (xs (i + 1)), .int (xs (i + 2)), .int (xs (i + 3))]) X (c_X9_tail (l, D, qm, cy) _ _ _ σm _ h1) gL_law_X9_tail rfl ⟨rfl, nkX9_tail⟩ ⟨rfl, rfl, by decide, by decide⟩ rfl (Nat.le_of_ble_eq_true rfl) dL_law_915 rfl (fun r' σm' h2 => ?_)
  exact l_end X dL_law_918 (by decide) h2.1 (kk _ _ h2.2)
theorem k_axes (X : LX p l s m meth c b L xs D cy qc qm) {i : Nat} (hi : i + 7 ≤ L) (h : R σc σm) (kk : ∀ σc' σm' : St, R σc' σm' → LW p l e s m below meth c b D cy qc qm σc' σm' 1064 (lvL qc qm b i) []) : LW p l e s m below meth c b D cy qc qm σc σm 923 (lvL qc qm b i) [] := by
  refine l_al X 2 dL_law_923 rfl ?_
  refine l_callC (st := []) (As := []) X (c_X8_axes (l, D, qc, cy)  σc _ (P_axes h)) gL_law_X8_axes rfl ⟨rfl, nkX8_axes⟩ ⟨rfl, rfl, by decide, by decide⟩ rfl (Nat.le_of_ble_eq_true rfl) dL_law_924 rfl (fun r σc' h1 => ?_)
  refine l_al X 1 dL_law_927 rfl ?_
  refine l_callM (st := [.int r]) (As := []) X (c_X9_axes (l, D, qm, cy)  σm _ h1) gL_law_X9_axes rfl ⟨rfl, nkX9_axes⟩ ⟨rfl, rfl, by decide, by decide⟩ rfl (Nat.le_of_ble_eq_true rfl) dL_law_928 rfl (fun r' σm' h2 => ?_)
  exact l_end X dL_law_931 (by decide) h2.1 (kk _ _ h2.2)
theorem k_write (X : LX p l s m meth c b L xs D cy qc qm) {i : Nat} (hi : i + 7 ≤ L) (h : R σc σm) (kk : ∀ σc' σm' : St, R σc' σm' → LW p l e s m below meth c b D cy qc qm σc' σm' 1064 (lvL qc qm b i) []) : LW p l e s m below meth c b D cy qc qm σc σm 936 (lvL qc qm b i) [] := by
  refine l_al X 2 dL_law_936 rfl ?_
  refine l_arg X (k := 1) (n := 1) (by omega) (by decide) dL_law_937 dL_law_938 dL_law_939 dL_law_940 dL_law_941 ?_
  refine l_arg X (k := 2) (n := 2) (by omega) (by decide) dL_law_942 dL_law_943 dL_law_944 dL_law_945 dL_law_946 ?_
  refine l_callC (st := []) (As := [.int (xs (i + 1)), .int (xs (i + 2))]) X (c_X8_write (l, D, qc, cy) _ _ σc _ (P_write h)) gL_law_X8_write rfl ⟨rfl, nkX8_write⟩ ⟨rfl, rfl, by decide, by decide⟩ rfl (Nat.le_of_ble_eq_true rfl) dL_law_947 rfl (fun r σc' h1 => ?_)
  refine l_al X 1 dL_law_950 rfl ?_
  refine l_arg X (k := 1) (n := 1) (by omega) (by decide) dL_law_951 dL_law_952 dL_law_953 dL_law_954 dL_law_955 ?_
  refine l_arg X (k := 2) (n := 2) (by omega) (by decide) dL_law_956 dL_law_957 dL_law_958 dL_law_959 dL_law_960 ?_
  refine l_callM (st := [.int r]) (As := [.int (xs (i + 1)), .int (xs (i + 2))]) X (c_X9_write (l, D, qm, cy) _ _ σm _ h1) gL_law_X9_write rfl ⟨rfl, nkX9_write⟩ ⟨rfl, rfl, by decide, by decide⟩ rfl (Nat.le_of_ble_eq_true rfl) dL_law_961 rfl (fun r' σm' h2 => ?_)
  exact l_end X dL_law_964 (by decide) h2.1 (kk _ _ h2.2)
theorem k_tear (X : LX p l s m meth c b L xs D cy qc qm) {i : Nat} (hi : i + 7 ≤ L) (h : R σc σm) (kk : ∀ σc' σm' : St, R σc' σm' → LW p l e s m below meth c b D cy qc qm σc' σm' 1064 (lvL qc qm b i) []) : LW p l e s m below meth c b D cy qc qm σc σm 969 (lvL qc qm b i) [] := by
  refine l_al X 2 dL_law_969 rfl ?_
  refine l_callC (st := []) (As := []) X (c_X8_tear (l, D, qc, cy)  σc _ (P_tear h)) gL_law_X8_tear rfl ⟨rfl, nkX8_tear⟩ ⟨rfl, rfl, by decide, by decide⟩ rfl (Nat.le_of_ble_eq_true rfl) dL_law_970 rfl (fun r σc' h1 => ?_)
  refine l_al X 1 dL_law_973 rfl ?_
  refine l_callM (st := [.int r]) (As := []) X (c_X9_tear (l, D, qm, cy)  σm _ h1) gL_law_X9_tear rfl ⟨rfl, nkX9_tear⟩ ⟨rfl, rfl, by decide, by decide⟩ rfl (Nat.le_of_ble_eq_true rfl) dL_law_974 rfl (fun r' σm' h2 => ?_)
  exact l_end X dL_law_977 (by decide) h2.1 (kk _ _ h2.2)
theorem k_judge (X : LX p l s m meth c b L xs D cy qc qm) {i : Nat} (hi : i + 7 ≤ L) (h : R σc σm) (kk : ∀ σc' σm' : St, R σc' σm' → LW p l e s m below meth c b D cy qc qm σc' σm' 1064 (lvL qc qm b i) []) : LW p l e s m below meth c b D cy qc qm σc σm 982 (lvL qc qm b i) [] := by
  refine l_al X 2 dL_law_982 rfl ?_
  refine l_callC (st := []) (As := []) X (c_X8_judge (l, D, qc, cy)  σc _ (P_judge h)) gL_law_X8_judge rfl ⟨rfl, nkX8_judge⟩ ⟨rfl, rfl, by decide, by decide⟩ rfl (Nat.le_of_ble_eq_true rfl) dL_law_983 rfl (fun r σc' h1 => ?_)
  refine l_al X 1 dL_law_986 rfl ?_
  refine l_callM (st := [.int r]) (As := []) X (c_X9_judge (l, D, qm, cy)  σm _ h1) gL_law_X9_judge rfl ⟨rfl, nkX9_judge⟩ ⟨rfl, rfl, by decide, by decide⟩ rfl (Nat.le_of_ble_eq_true rfl) dL_law_987 rfl (fun r' σm' h2 => ?_)
  exact l_end X dL_law_990 (by decide) h2.1 (kk _ _ h2.2)
theorem k_seed (X : LX p l s m meth c b L xs D cy qc qm) {i : Nat} (hi : i + 7 ≤ L) (h : R σc σm) (kk : ∀ σc' σm' : St, R σc' σm' → LW p l e s m below meth c b D cy qc qm σc' σm' 1064 (lvL qc qm b i) []) : LW p l e s m below meth c b D cy qc qm σc σm 995 (lvL qc qm b i) [] := by
  refine l_al X 2 dL_law_995 rfl ?_
  refine l_arg X (k := 1) (n := 1) (by omega) (by decide) dL_law_996 dL_law_997 dL_law_998 dL_law_999 dL_law_1000 ?_
  refine l_callC (st := []) (As := [.int (xs (i + 1))]) X (c_X8_seed (l, D, qc, cy) _ σc _ (P_seed h)) gL_law_X8_seed rfl ⟨rfl, nkX8_seed⟩ ⟨rfl, rfl, by decide, by decide⟩ rfl (Nat.le_of_ble_eq_true rfl) dL_law_1001 rfl (fun r σc' h1 => ?_)
  refine l_al X 1 dL_law_1004 rfl ?_
  refine l_arg X (k := 1) (n := 1) (by omega) (by decide) dL_law_1005 dL_law_1006 dL_law_1007 dL_law_1008 dL_law_1009 ?_
  refine l_callM (st := [.int r]) (As := [.int (xs (i + 1))]) X (c_X9_seed (l, D, qm, cy) _ σm _ h1) gL_law_X9_seed rfl ⟨rfl, nkX9_seed⟩ ⟨rfl, rfl, by decide, by decide⟩ rfl (Nat.le_of_ble_eq_true rfl) dL_law_1010 rfl (fun r' σm' h2 => ?_)
  exact l_end X dL_law_1013 (by decide) h2.1 (kk _ _ h2.2)
theorem k_keep (X : LX p l s m meth c b L xs D cy qc qm) {i : Nat} (hi : i + 7 ≤ L) (h : R σc σm) (kk : ∀ σc' σm' : St, R σc' σm' → LW p l e s m below meth c b D cy qc qm σc' σm' 1064 (lvL qc qm b i) []) : LW p l e s m below meth c b D cy qc qm σc σm 1018 (lvL qc qm b i) [] := by
  refine l_al X 2 dL_law_1018 rfl ?_
  refine l_arg X (k := 1) (n := 1) (by omega) (by decide) dL_law_1019 dL_law_1020 dL_law_1021 dL_law_1022 dL_law_1023 ?_
  refine l_callC (st := []) (As := [.int (xs (i + 1))]) X (c_X8_keep (l, D, qc, cy) _ σc _ (P_keep h)) gL_law_X8_keep rfl ⟨rfl, nkX8_keep⟩ ⟨rfl, rfl, by decide, by decide⟩ rfl (Nat.le_of_ble_eq_true rfl) dL_law_1024 rfl (fun r σc' h1 => ?_)
  refine l_al X 1 dL_law_1027 rfl ?_
  refine l_arg X (k := 1) (n := 1) (by omega) (by decide) dL_law_1028 dL_law_1029 dL_law_1030 dL_law_1031 dL_law_1032 ?_
  refine l_callM (st := [.int r]) (As := [.int (xs (i + 1))]) X (c_X9_keep (l, D, qm, cy) _ σm _ h1) gL_law_X9_keep rfl ⟨rfl, nkX9_keep⟩ ⟨rfl, rfl, by decide, by decide⟩ rfl (Nat.le_of_ble_eq_true rfl) dL_law_1033 rfl (fun r' σm' h2 => ?_)
  exact l_end X dL_law_1036 (by decide) h2.1 (kk _ _ h2.2)
theorem k_goBack (X : LX p l s m meth c b L xs D cy qc qm) {i : Nat} (hi : i + 7 ≤ L) (h : R σc σm) (kk : ∀ σc' σm' : St, R σc' σm' → LW p l e s m below meth c b D cy qc qm σc' σm' 1064 (lvL qc qm b i) []) : LW p l e s m below meth c b D cy qc qm σc σm 1041 (lvL qc qm b i) [] := by
  refine l_al X 2 dL_law_1041 rfl ?_
  refine l_arg X (k := 1) (n := 1) (by omega) (by decide) dL_law_1042 dL_law_1043 dL_law_1044 dL_law_1045 dL_law_1046 ?_
  refine l_callC (st := []) (As := [.int (xs (i + 1))]) X (c_X8_goBack (l, D, qc, cy) _ σc _ (P_goBack h)) gL_law_X8_goBack rfl ⟨rfl, nkX8_goBack⟩ ⟨rfl, rfl, by decide, by decide⟩ rfl (Nat.le_of_ble_eq_true rfl) dL_law_1047 rfl (fun r σc' h1 => ?_)
  refine l_al X 1 dL_law_1050 rfl ?_
  refine l_arg X (k := 1) (n := 1) (by omega) (by decide) dL_law_1051 dL_law_1052 dL_law_1053 dL_law_1054 dL_law_1055 ?_
  refine l_callM (st := [.int r]) (As := [.int (xs (i + 1))]) X (c_X9_goBack (l, D, qm, cy) _ σm _ h1) gL_law_X9_goBack rfl ⟨rfl, nkX9_goBack⟩ ⟨rfl, rfl, by decide, by decide⟩ rfl (Nat.le_of_ble_eq_true rfl) dL_law_1056 rfl (fun r' σm' h2 => ?_)
  exact l_end X dL_law_1059 (by decide) h2.1 (kk _ _ h2.2)
end LAW2
