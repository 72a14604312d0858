abbrev lsL (i : Nat) : List (Option Value) := [some (.ref 0), some (.ref 16), some (.ref 108), some (.int (nI i))]
abbrev qT : Option Value → Wd → Prop := qI (fun v _ => v = 1)
/-- the loop goes on with house and reference alike -/
def Nx (L : Nat) (xs : Nat → Int32) (i B : Nat) : Prop := ∀ C F R T K D s, Jn C F R T K s (B + 20) → V (kL_law L xs) 1190 (lsL i) [] (gW C F R T K D s) 97 1867 qT
theorem l97 : 97 ≤ 97 := Nat.le_refl _
theorem l1867 : 1867 ≤ 1867 := Nat.le_refl _
section LawC
variable {C : Nat → Ch} {F : Nat → Nat → Int32} {R T K D s : Nat → Int32} {L i B : Nat} {xs : Nat → Int32}
theorem Lc_candle (j : Jn C F R T K s B) (hB : B < 100000) (hi : i + 5 < L) (hL : L ≤ 384) (nx : Nx L xs i B) : V (kL_law L xs) 188 (lsL i) [] (gW C F R T K D s) 97 1867 qT := by
  refine iL_law_188 (iL_law_189 (iL_law_190 (iL_law_191 (iL_law_192 (iL_law_193 (nI_add i 1) (by omega) (by omega) ?_)))))
  refine iL_law_194F plX (hW C F) [.ref 16, .int (xs (i + 1))] ptX ndX (asX rfl).symm gX (Nat.le_of_ble_eq_true rfl) l97 l1867 (CallI.imp (J_candle (D := D) j) (fun v w hq => ?_))
  obtain ⟨C1, F1, rfl, hq⟩ := hq
  rw [wrX]
  refine iL_law_197 (iL_law_198 (iL_law_199 (iL_law_200 (iL_law_201 (iL_law_202 (nI_add i 1) (by omega) (by omega) ?_)))))
  refine iL_law_203F (r := 92) plM (mW R T K D s) [.ref 16, .int (xs (i + 1))] ptM ndM (by rw [glen, rnM]; rfl) gM (Nat.le_of_ble_eq_true rfl) l97 l1867 (CallI.imp hq (fun v2 w2 h2 => ?_))
  obtain ⟨rfl, R1, T1, K1, D1, s1, rfl, j1⟩ := h2
  rw [wrM]
  exact iL_law_206 (fun _ => nx _ _ _ _ _ _ _ j1) (fun h => absurd rfl h)
theorem Lc_thick (j : Jn C F R T K s B) (hB : B < 100000) (hi : i + 5 < L) (hL : L ≤ 384) (nx : Nx L xs i B) : V (kL_law L xs) 211 (lsL i) [] (gW C F R T K D s) 97 1867 qT := by
  refine iL_law_211 (iL_law_212 (iL_law_213 (iL_law_214 (iL_law_215 (iL_law_216 (nI_add i 1) (by omega) (by omega) (iL_law_217 (iL_law_218 (iL_law_219 (iL_law_220 (iL_law_221 (nI_add i 2) (by omega) (by omega) ?_))))))))))
  refine iL_law_222F plX (hW C F) [.ref 16, .int (xs (i + 1)), .int (xs (i + 2))] ptX ndX (asX rfl).symm gX (Nat.le_of_ble_eq_true rfl) l97 l1867 (CallI.imp (J_thick (D := D) j) (fun v w hq => ?_))
  obtain ⟨C1, F1, rfl, hq⟩ := hq
  rw [wrX]
  refine iL_law_225 (iL_law_226 (iL_law_227 (iL_law_228 (iL_law_229 (iL_law_230 (nI_add i 1) (by omega) (by omega) (iL_law_231 (iL_law_232 (iL_law_233 (iL_law_234 (iL_law_235 (nI_add i 2) (by omega) (by omega) ?_))))))))))
  refine iL_law_236F (r := 92) plM (mW R T K D s) [.ref 16, .int (xs (i + 1)), .int (xs (i + 2))] ptM ndM (by rw [glen, rnM]; rfl) gM (Nat.le_of_ble_eq_true rfl) l97 l1867 (CallI.imp hq (fun v2 w2 h2 => ?_))
  obtain ⟨rfl, R1, T1, K1, D1, s1, rfl, j1⟩ := h2
  rw [wrM]
  exact iL_law_239 (fun _ => nx _ _ _ _ _ _ _ j1) (fun h => absurd rfl h)
theorem Lc_door (j : Jn C F R T K s B) (hB : B < 100000) (hi : i + 5 < L) (hL : L ≤ 384) (nx : Nx L xs i B) : V (kL_law L xs) 244 (lsL i) [] (gW C F R T K D s) 97 1867 qT := by
  refine iL_law_244 (iL_law_245 (iL_law_246 (iL_law_247 (iL_law_248 (iL_law_249 (nI_add i 1) (by omega) (by omega) ?_)))))
  refine iL_law_250F plX (hW C F) [.ref 16, .int (xs (i + 1))] ptX ndX (asX rfl).symm gX (Nat.le_of_ble_eq_true rfl) l97 l1867 (CallI.imp (J_door (D := D) j) (fun v w hq => ?_))
  obtain ⟨C1, F1, rfl, hq⟩ := hq
  rw [wrX]
  refine iL_law_253 (iL_law_254 (iL_law_255 (iL_law_256 (iL_law_257 (iL_law_258 (nI_add i 1) (by omega) (by omega) ?_)))))
  refine iL_law_259F (r := 92) plM (mW R T K D s) [.ref 16, .int (xs (i + 1))] ptM ndM (by rw [glen, rnM]; rfl) gM (Nat.le_of_ble_eq_true rfl) l97 l1867 (CallI.imp hq (fun v2 w2 h2 => ?_))
  obtain ⟨rfl, R1, T1, K1, D1, s1, rfl, j1⟩ := h2
  rw [wrM]
  exact iL_law_262 (fun _ => nx _ _ _ _ _ _ _ j1) (fun h => absurd rfl h)
theorem Lc_open (j : Jn C F R T K s B) (hB : B < 100000) (hi : i + 5 < L) (hL : L ≤ 384) (nx : Nx L xs i B) : V (kL_law L xs) 267 (lsL i) [] (gW C F R T K D s) 97 1867 qT := by
  have go : ∀ y : Int32, (y = 0 ∨ y = 1) → (V (kL_law L xs) 286 (lsL i) [.int y, .int (xs (i + 1)), .ref 16] (gW C F R T K D s) 97 1867 qT → V (kL_law L xs) 267 (lsL i) [] (gW C F R T K D s) 97 1867 qT) → (∀ C F R T K D s v, V (kL_law L xs) 308 (lsL i) [.int y, .int (xs (i + 1)), .ref 108, .int v] (gW C F R T K D s) 97 1867 qT → V (kL_law L xs) 289 (lsL i) [.int v] (gW C F R T K D s) 97 1867 qT) → V (kL_law L xs) 267 (lsL i) [] (gW C F R T K D s) 97 1867 qT := by
    intro y hy f1 f2
    refine f1 ?_
    refine iL_law_286F plX (hW C F) [.ref 16, .int (xs (i + 1)), .int y] ptX ndX (asX rfl).symm gX (Nat.le_of_ble_eq_true rfl) l97 l1867 (CallI.imp (J_open (D := D) j hy) (fun v w hq => ?_))
    obtain ⟨C1, F1, rfl, hq⟩ := hq
    rw [wrX]
    refine f2 _ _ _ _ _ _ _ v ?_
    refine iL_law_308F (r := 92) plM (mW R T K D s) [.ref 16, .int (xs (i + 1)), .int y] ptM ndM (by rw [glen, rnM]; rfl) gM (Nat.le_of_ble_eq_true rfl) l97 l1867 (CallI.imp hq (fun v2 w2 h2 => ?_))
    obtain ⟨rfl, R1, T1, K1, D1, s1, rfl, j1⟩ := h2
    rw [wrM]
    exact iL_law_311 (fun _ => nx _ _ _ _ _ _ _ j1) (fun h => absurd rfl h)
  by_cases z : xs (i + 2) = 0
  · refine go 0 (Or.inl rfl) (fun h => ?_) (fun C F R T K D s v h => ?_)
    · refine iL_law_267 (iL_law_268 (iL_law_269 (iL_law_270 (iL_law_271 (iL_law_272 (nI_add i 1) (by omega) (by omega) (iL_law_273 (iL_law_274 (iL_law_275 (iL_law_276 (iL_law_277 (nI_add i 2) (by omega) (by omega) (iL_law_278 (fun _ => (iL_law_285 ?_)) (fun h => False.elim (by exact h z)))))))))))))
      exact h
    · refine iL_law_289 (iL_law_290 (iL_law_291 (iL_law_292 (iL_law_293 (iL_law_294 (nI_add i 1) (by omega) (by omega) (iL_law_295 (iL_law_296 (iL_law_297 (iL_law_298 (iL_law_299 (nI_add i 2) (by omega) (by omega) (iL_law_300 (fun _ => (iL_law_307 ?_)) (fun h => False.elim (by exact h z)))))))))))))
      exact h
  · refine go 1 (Or.inr rfl) (fun h => ?_) (fun C F R T K D s v h => ?_)
    · refine iL_law_267 (iL_law_268 (iL_law_269 (iL_law_270 (iL_law_271 (iL_law_272 (nI_add i 1) (by omega) (by omega) (iL_law_273 (iL_law_274 (iL_law_275 (iL_law_276 (iL_law_277 (nI_add i 2) (by omega) (by omega) (iL_law_278 (fun h => False.elim (by exact z h)) (fun _ => (iL_law_281 (iL_law_282 ?_))))))))))))))
      exact h
    · refine iL_law_289 (iL_law_290 (iL_law_291 (iL_law_292 (iL_law_293 (iL_law_294 (nI_add i 1) (by omega) (by omega) (iL_law_295 (iL_law_296 (iL_law_297 (iL_law_298 (iL_law_299 (nI_add i 2) (by omega) (by omega) (iL_law_300 (fun h => False.elim (by exact z h)) (fun _ => (iL_law_303 (iL_law_304 ?_))))))))))))))
      exact h
theorem Lc_pin (j : Jn C F R T K s B) (hB : B < 100000) (hi : i + 5 < L) (hL : L ≤ 384) (nx : Nx L xs i B) : V (kL_law L xs) 316 (lsL i) [] (gW C F R T K D s) 97 1867 qT := by
  refine iL_law_316 (iL_law_317 (iL_law_318 (iL_law_319 (iL_law_320 (iL_law_321 (nI_add i 1) (by omega) (by omega) (iL_law_322 (iL_law_323 (iL_law_324 (iL_law_325 (iL_law_326 (nI_add i 2) (by omega) (by omega) ?_))))))))))
  refine iL_law_327F plX (hW C F) [.ref 16, .int (xs (i + 1)), .int (xs (i + 2))] ptX ndX (asX rfl).symm gX (Nat.le_of_ble_eq_true rfl) l97 l1867 (CallI.imp (J_pin (D := D) j) (fun v w hq => ?_))
  obtain ⟨C1, F1, rfl, hq⟩ := hq
  rw [wrX]
  refine iL_law_330 (iL_law_331 (iL_law_332 (iL_law_333 (iL_law_334 (iL_law_335 (nI_add i 1) (by omega) (by omega) (iL_law_336 (iL_law_337 (iL_law_338 (iL_law_339 (iL_law_340 (nI_add i 2) (by omega) (by omega) ?_))))))))))
  refine iL_law_341F (r := 92) plM (mW R T K D s) [.ref 16, .int (xs (i + 1)), .int (xs (i + 2))] ptM ndM (by rw [glen, rnM]; rfl) gM (Nat.le_of_ble_eq_true rfl) l97 l1867 (CallI.imp hq (fun v2 w2 h2 => ?_))
  obtain ⟨rfl, R1, T1, K1, D1, s1, rfl, j1⟩ := h2
  rw [wrM]
  exact iL_law_344 (fun _ => nx _ _ _ _ _ _ _ j1) (fun h => absurd rfl h)
theorem Lc_member (j : Jn C F R T K s B) (hB : B < 100000) (hi : i + 5 < L) (hL : L ≤ 384) (nx : Nx L xs i B) : V (kL_law L xs) 349 (lsL i) [] (gW C F R T K D s) 97 1867 qT := by
  refine iL_law_349 (iL_law_350 (iL_law_351 (iL_law_352 (iL_law_353 (iL_law_354 (nI_add i 1) (by omega) (by omega) (iL_law_355 (iL_law_356 (iL_law_357 (iL_law_358 (iL_law_359 (nI_add i 2) (by omega) (by omega) (iL_law_360 (iL_law_361 (iL_law_362 (iL_law_363 (iL_law_364 (nI_add i 3) (by omega) (by omega) (iL_law_365 (iL_law_366 (iL_law_367 (iL_law_368 (iL_law_369 (nI_add i 4) (by omega) (by omega) ?_))))))))))))))))))))
  refine iL_law_370F plX (hW C F) [.ref 16, .int (xs (i + 1)), .int (xs (i + 2)), .int (xs (i + 3)), .int (xs (i + 4))] ptX ndX (asX rfl).symm gX (Nat.le_of_ble_eq_true rfl) l97 l1867 (CallI.imp (J_member (D := D) j) (fun v w hq => ?_))
  obtain ⟨C1, F1, rfl, hq⟩ := hq
  rw [wrX]
  refine iL_law_373 (iL_law_374 (iL_law_375 (iL_law_376 (iL_law_377 (iL_law_378 (nI_add i 1) (by omega) (by omega) (iL_law_379 (iL_law_380 (iL_law_381 (iL_law_382 (iL_law_383 (nI_add i 2) (by omega) (by omega) (iL_law_384 (iL_law_385 (iL_law_386 (iL_law_387 (iL_law_388 (nI_add i 3) (by omega) (by omega) (iL_law_389 (iL_law_390 (iL_law_391 (iL_law_392 (iL_law_393 (nI_add i 4) (by omega) (by omega) ?_))))))))))))))))))))
  refine iL_law_394F (r := 92) plM (mW R T K D s) [.ref 16, .int (xs (i + 1)), .int (xs (i + 2)), .int (xs (i + 3)), .int (xs (i + 4))] ptM ndM (by rw [glen, rnM]; rfl) gM (Nat.le_of_ble_eq_true rfl) l97 l1867 (CallI.imp hq (fun v2 w2 h2 => ?_))
  obtain ⟨rfl, R1, T1, K1, D1, s1, rfl, j1⟩ := h2
  rw [wrM]
  exact iL_law_397 (fun _ => nx _ _ _ _ _ _ _ j1) (fun h => absurd rfl h)
theorem Lc_drop (j : Jn C F R T K s B) (hB : B < 100000) (hi : i + 5 < L) (hL : L ≤ 384) (nx : Nx L xs i B) : V (kL_law L xs) 402 (lsL i) [] (gW C F R T K D s) 97 1867 qT := by
  refine iL_law_402 (iL_law_403 (iL_law_404 (iL_law_405 (iL_law_406 (iL_law_407 (nI_add i 1) (by omega) (by omega) ?_)))))
  refine iL_law_408F plX (hW C F) [.ref 16, .int (xs (i + 1))] ptX ndX (asX rfl).symm gX (Nat.le_of_ble_eq_true rfl) l97 l1867 (CallI.imp (J_drop (D := D) j) (fun v w hq => ?_))
  obtain ⟨C1, F1, rfl, hq⟩ := hq
  rw [wrX]
  refine iL_law_411 (iL_law_412 (iL_law_413 (iL_law_414 (iL_law_415 (iL_law_416 (nI_add i 1) (by omega) (by omega) ?_)))))
  refine iL_law_417F (r := 92) plM (mW R T K D s) [.ref 16, .int (xs (i + 1))] ptM ndM (by rw [glen, rnM]; rfl) gM (Nat.le_of_ble_eq_true rfl) l97 l1867 (CallI.imp hq (fun v2 w2 h2 => ?_))
  obtain ⟨rfl, R1, T1, K1, D1, s1, rfl, j1⟩ := h2
  rw [wrM]
  exact iL_law_420 (fun _ => nx _ _ _ _ _ _ _ j1) (fun h => absurd rfl h)
theorem Lc_type (j : Jn C F R T K s B) (hB : B < 100000) (hi : i + 5 < L) (hL : L ≤ 384) (nx : Nx L xs i B) : V (kL_law L xs) 425 (lsL i) [] (gW C F R T K D s) 97 1867 qT := by
  refine iL_law_425 (iL_law_426 (iL_law_427 (iL_law_428 (iL_law_429 (iL_law_430 (nI_add i 1) (by omega) (by omega) ?_)))))
  refine iL_law_431F plX (hW C F) [.ref 16, .int (xs (i + 1))] ptX ndX (asX rfl).symm gX (Nat.le_of_ble_eq_true rfl) l97 l1867 (CallI.imp (J_type (D := D) j) (fun v w hq => ?_))
  obtain ⟨C1, F1, rfl, hq⟩ := hq
  rw [wrX]
  refine iL_law_434 (iL_law_435 (iL_law_436 (iL_law_437 (iL_law_438 (iL_law_439 (nI_add i 1) (by omega) (by omega) ?_)))))
  refine iL_law_440F (r := 92) plM (mW R T K D s) [.ref 16, .int (xs (i + 1))] ptM ndM (by rw [glen, rnM]; rfl) gM (Nat.le_of_ble_eq_true rfl) l97 l1867 (CallI.imp hq (fun v2 w2 h2 => ?_))
  obtain ⟨rfl, R1, T1, K1, D1, s1, rfl, j1⟩ := h2
  rw [wrM]
  exact iL_law_443 (fun _ => nx _ _ _ _ _ _ _ j1) (fun h => absurd rfl h)
theorem Lc_clear (j : Jn C F R T K s B) (hB : B < 100000) (hi : i + 5 < L) (hL : L ≤ 384) (nx : Nx L xs i B) : V (kL_law L xs) 448 (lsL i) [] (gW C F R T K D s) 97 1867 qT := by
  refine iL_law_448 ?_
  refine iL_law_449F plX (hW C F) [.ref 16] ptX ndX (asX rfl).symm gX (Nat.le_of_ble_eq_true rfl) l97 l1867 (CallI.imp (J_clear (D := D) j) (fun v w hq => ?_))
  obtain ⟨C1, F1, rfl, hq⟩ := hq
  rw [wrX]
  refine iL_law_452 ?_
  refine iL_law_453F (r := 92) plM (mW R T K D s) [.ref 16] ptM ndM (by rw [glen, rnM]; rfl) gM (Nat.le_of_ble_eq_true rfl) l97 l1867 (CallI.imp hq (fun v2 w2 h2 => ?_))
  obtain ⟨rfl, R1, T1, K1, D1, s1, rfl, j1⟩ := h2
  rw [wrM]
  exact iL_law_456 (fun _ => nx _ _ _ _ _ _ _ j1) (fun h => absurd rfl h)
theorem Lc_read (j : Jn C F R T K s B) (hB : B < 100000) (hi : i + 5 < L) (hL : L ≤ 384) (nx : Nx L xs i B) : V (kL_law L xs) 461 (lsL i) [] (gW C F R T K D s) 97 1867 qT := by
  refine iL_law_461 ?_
  refine iL_law_462F plX (hW C F) [.ref 16] ptX ndX (asX rfl).symm gX (Nat.le_of_ble_eq_true rfl) l97 l1867 (CallI.imp (J_read (D := D) j) (fun v w hq => ?_))
  obtain ⟨C1, F1, rfl, hq⟩ := hq
  rw [wrX]
  refine iL_law_465 ?_
  refine iL_law_466F (r := 92) plM (mW R T K D s) [.ref 16] ptM ndM (by rw [glen, rnM]; rfl) gM (Nat.le_of_ble_eq_true rfl) l97 l1867 (CallI.imp hq (fun v2 w2 h2 => ?_))
  obtain ⟨rfl, R1, T1, K1, D1, s1, rfl, j1⟩ := h2
  rw [wrM]
  exact iL_law_469 (fun _ => nx _ _ _ _ _ _ _ j1) (fun h => absurd rfl h)
theorem Lc_minute (j : Jn C F R T K s B) (hB : B < 100000) (hi : i + 5 < L) (hL : L ≤ 384) (nx : Nx L xs i B) : V (kL_law L xs) 474 (lsL i) [] (gW C F R T K D s) 97 1867 qT := by
  refine iL_law_474 (iL_law_475 (iL_law_476 (iL_law_477 (iL_law_478 (iL_law_479 (nI_add i 1) (by omega) (by omega) ?_)))))
  refine iL_law_480F plX (hW C F) [.ref 16, .int (xs (i + 1))] ptX ndX (asX rfl).symm gX (Nat.le_of_ble_eq_true rfl) l97 l1867 (CallI.imp (J_minute (D := D) j hB) (fun v w hq => ?_))
  obtain ⟨C1, F1, rfl, hq⟩ := hq
  rw [wrX]
  refine iL_law_483 (iL_law_484 (iL_law_485 (iL_law_486 (iL_law_487 (iL_law_488 (nI_add i 1) (by omega) (by omega) ?_)))))
  refine iL_law_489F (r := 92) plM (mW R T K D s) [.ref 16, .int (xs (i + 1))] ptM ndM (by rw [glen, rnM]; rfl) gM (Nat.le_of_ble_eq_true rfl) l97 l1867 (CallI.imp hq (fun v2 w2 h2 => ?_))
  obtain ⟨rfl, R1, T1, K1, D1, s1, rfl, j1⟩ := h2
  rw [wrM]
  exact iL_law_492 (fun _ => nx _ _ _ _ _ _ _ j1) (fun h => absurd rfl h)
theorem Lc_undo (j : Jn C F R T K s B) (hB : B < 100000) (hi : i + 5 < L) (hL : L ≤ 384) (nx : Nx L xs i B) : V (kL_law L xs) 497 (lsL i) [] (gW C F R T K D s) 97 1867 qT := by
  refine iL_law_497 ?_
  refine iL_law_498F plX (hW C F) [.ref 16] ptX ndX (asX rfl).symm gX (Nat.le_of_ble_eq_true rfl) l97 l1867 (CallI.imp (J_undo (D := D) j) (fun v w hq => ?_))
  obtain ⟨C1, F1, rfl, hq⟩ := hq
  rw [wrX]
  refine iL_law_501 ?_
  refine iL_law_502F (r := 92) plM (mW R T K D s) [.ref 16] ptM ndM (by rw [glen, rnM]; rfl) gM (Nat.le_of_ble_eq_true rfl) l97 l1867 (CallI.imp hq (fun v2 w2 h2 => ?_))
  obtain ⟨rfl, R1, T1, K1, D1, s1, rfl, j1⟩ := h2
  rw [wrM]
  exact iL_law_505 (fun _ => nx _ _ _ _ _ _ _ j1) (fun h => absurd rfl h)
theorem Lc_house (j : Jn C F R T K s B) (hB : B < 100000) (hi : i + 5 < L) (hL : L ≤ 384) (nx : Nx L xs i B) : V (kL_law L xs) 510 (lsL i) [] (gW C F R T K D s) 97 1867 qT := by
  refine iL_law_510 (iL_law_511 (iL_law_512 (iL_law_513 (iL_law_514 (iL_law_515 (nI_add i 1) (by omega) (by omega) ?_)))))
  refine iL_law_516F plX (hW C F) [.ref 16, .int (xs (i + 1))] ptX ndX (asX rfl).symm gX (Nat.le_of_ble_eq_true rfl) l97 l1867 (CallI.imp (J_house (D := D) j) (fun v w hq => ?_))
  obtain ⟨C1, F1, rfl, hq⟩ := hq
  rw [wrX]
  refine iL_law_519 (iL_law_520 (iL_law_521 (iL_law_522 (iL_law_523 (iL_law_524 (nI_add i 1) (by omega) (by omega) ?_)))))
  refine iL_law_525F (r := 92) plM (mW R T K D s) [.ref 16, .int (xs (i + 1))] ptM ndM (by rw [glen, rnM]; rfl) gM (Nat.le_of_ble_eq_true rfl) l97 l1867 (CallI.imp hq (fun v2 w2 h2 => ?_))
  obtain ⟨rfl, R1, T1, K1, D1, s1, rfl, j1⟩ := h2
  rw [wrM]
  exact iL_law_528 (fun _ => nx _ _ _ _ _ _ _ j1) (fun h => absurd rfl h)
theorem Lc_votes (j : Jn C F R T K s B) (hB : B < 100000) (hi : i + 5 < L) (hL : L ≤ 384) (nx : Nx L xs i B) : V (kL_law L xs) 533 (lsL i) [] (gW C F R T K D s) 97 1867 qT := by
  refine iL_law_533 (iL_law_534 (iL_law_535 (iL_law_536 (iL_law_537 (iL_law_538 (nI_add i 1) (by omega) (by omega) (iL_law_539 (iL_law_540 (iL_law_541 (iL_law_542 (iL_law_543 (nI_add i 2) (by omega) (by omega) ?_))))))))))
  refine iL_law_544F plX (hW C F) [.ref 16, .int (xs (i + 1)), .int (xs (i + 2))] ptX ndX (asX rfl).symm gX (Nat.le_of_ble_eq_true rfl) l97 l1867 (CallI.imp (J_votes (D := D) j) (fun v w hq => ?_))
  obtain ⟨C1, F1, rfl, hq⟩ := hq
  rw [wrX]
  refine iL_law_547 (iL_law_548 (iL_law_549 (iL_law_550 (iL_law_551 (iL_law_552 (nI_add i 1) (by omega) (by omega) (iL_law_553 (iL_law_554 (iL_law_555 (iL_law_556 (iL_law_557 (nI_add i 2) (by omega) (by omega) ?_))))))))))
  refine iL_law_558F (r := 92) plM (mW R T K D s) [.ref 16, .int (xs (i + 1)), .int (xs (i + 2))] ptM ndM (by rw [glen, rnM]; rfl) gM (Nat.le_of_ble_eq_true rfl) l97 l1867 (CallI.imp hq (fun v2 w2 h2 => ?_))
  obtain ⟨rfl, R1, T1, K1, D1, s1, rfl, j1⟩ := h2
  rw [wrM]
  exact iL_law_561 (fun _ => nx _ _ _ _ _ _ _ j1) (fun h => absurd rfl h)
theorem Lc_burns (j : Jn C F R T K s B) (hB : B < 100000) (hi : i + 5 < L) (hL : L ≤ 384) (nx : Nx L xs i B) : V (kL_law L xs) 566 (lsL i) [] (gW C F R T K D s) 97 1867 qT := by
  refine iL_law_566 (iL_law_567 (iL_law_568 (iL_law_569 (iL_law_570 (iL_law_571 (nI_add i 1) (by omega) (by omega) ?_)))))
  refine iL_law_572F plX (hW C F) [.ref 16, .int (xs (i + 1))] ptX ndX (asX rfl).symm gX (Nat.le_of_ble_eq_true rfl) l97 l1867 (CallI.imp (J_burns (D := D) j hB) (fun v w hq => ?_))
  obtain ⟨C1, F1, rfl, hq⟩ := hq
  rw [wrX]
  refine iL_law_575 (iL_law_576 (iL_law_577 (iL_law_578 (iL_law_579 (iL_law_580 (nI_add i 1) (by omega) (by omega) ?_)))))
  refine iL_law_581F (r := 92) plM (mW R T K D s) [.ref 16, .int (xs (i + 1))] ptM ndM (by rw [glen, rnM]; rfl) gM (Nat.le_of_ble_eq_true rfl) l97 l1867 (CallI.imp hq (fun v2 w2 h2 => ?_))
  obtain ⟨rfl, R1, T1, K1, D1, s1, rfl, j1⟩ := h2
  rw [wrM]
  exact iL_law_584 (fun _ => nx _ _ _ _ _ _ _ j1) (fun h => absurd rfl h)
theorem Lc_fallen (j : Jn C F R T K s B) (hB : B < 100000) (hi : i + 5 < L) (hL : L ≤ 384) (nx : Nx L xs i B) : V (kL_law L xs) 589 (lsL i) [] (gW C F R T K D s) 97 1867 qT := by
  refine iL_law_589 (iL_law_590 (iL_law_591 (iL_law_592 (iL_law_593 (iL_law_594 (nI_add i 1) (by omega) (by omega) ?_)))))
  refine iL_law_595F plX (hW C F) [.ref 16, .int (xs (i + 1))] ptX ndX (asX rfl).symm gX (Nat.le_of_ble_eq_true rfl) l97 l1867 (CallI.imp (J_fallen (D := D) j) (fun v w hq => ?_))
  obtain ⟨C1, F1, rfl, hq⟩ := hq
  rw [wrX]
  refine iL_law_598 (iL_law_599 (iL_law_600 (iL_law_601 (iL_law_602 (iL_law_603 (nI_add i 1) (by omega) (by omega) ?_)))))
  refine iL_law_604F (r := 92) plM (mW R T K D s) [.ref 16, .int (xs (i + 1))] ptM ndM (by rw [glen, rnM]; rfl) gM (Nat.le_of_ble_eq_true rfl) l97 l1867 (CallI.imp hq (fun v2 w2 h2 => ?_))
  obtain ⟨rfl, R1, T1, K1, D1, s1, rfl, j1⟩ := h2
  rw [wrM]
  exact iL_law_607 (fun _ => nx _ _ _ _ _ _ _ j1) (fun h => absurd rfl h)
theorem Lc_falls (j : Jn C F R T K s B) (hB : B < 100000) (hi : i + 5 < L) (hL : L ≤ 384) (nx : Nx L xs i B) : V (kL_law L xs) 612 (lsL i) [] (gW C F R T K D s) 97 1867 qT := by
  refine iL_law_612 (iL_law_613 (iL_law_614 (iL_law_615 (iL_law_616 (iL_law_617 (nI_add i 1) (by omega) (by omega) ?_)))))
  refine iL_law_618F plX (hW C F) [.ref 16, .int (xs (i + 1))] ptX ndX (asX rfl).symm gX (Nat.le_of_ble_eq_true rfl) l97 l1867 (CallI.imp (J_falls (D := D) j hB) (fun v w hq => ?_))
  obtain ⟨C1, F1, rfl, hq⟩ := hq
  rw [wrX]
  refine iL_law_621 (iL_law_622 (iL_law_623 (iL_law_624 (iL_law_625 (iL_law_626 (nI_add i 1) (by omega) (by omega) ?_)))))
  refine iL_law_627F (r := 92) plM (mW R T K D s) [.ref 16, .int (xs (i + 1))] ptM ndM (by rw [glen, rnM]; rfl) gM (Nat.le_of_ble_eq_true rfl) l97 l1867 (CallI.imp hq (fun v2 w2 h2 => ?_))
  obtain ⟨rfl, R1, T1, K1, D1, s1, rfl, j1⟩ := h2
  rw [wrM]
  exact iL_law_630 (fun _ => nx _ _ _ _ _ _ _ j1) (fun h => absurd rfl h)
theorem Lc_out (j : Jn C F R T K s B) (hB : B < 100000) (hi : i + 5 < L) (hL : L ≤ 384) (nx : Nx L xs i B) : V (kL_law L xs) 635 (lsL i) [] (gW C F R T K D s) 97 1867 qT := by
  refine iL_law_635 ?_
  refine iL_law_636F plX (hW C F) [.ref 16] ptX ndX (asX rfl).symm gX (Nat.le_of_ble_eq_true rfl) l97 l1867 (CallI.imp (J_out (D := D) j hB) (fun v w hq => ?_))
  obtain ⟨C1, F1, rfl, hq⟩ := hq
  rw [wrX]
  refine iL_law_639 ?_
  refine iL_law_640F (r := 92) plM (mW R T K D s) [.ref 16] ptM ndM (by rw [glen, rnM]; rfl) gM (Nat.le_of_ble_eq_true rfl) l97 l1867 (CallI.imp hq (fun v2 w2 h2 => ?_))
  obtain ⟨rfl, R1, T1, K1, D1, s1, rfl, j1⟩ := h2
  rw [wrM]
  exact iL_law_643 (fun _ => nx _ _ _ _ _ _ _ j1) (fun h => absurd rfl h)
theorem Lc_whose (j : Jn C F R T K s B) (hB : B < 100000) (hi : i + 5 < L) (hL : L ≤ 384) (nx : Nx L xs i B) : V (kL_law L xs) 648 (lsL i) [] (gW C F R T K D s) 97 1867 qT := by
  refine iL_law_648 (iL_law_649 (iL_law_650 (iL_law_651 (iL_law_652 (iL_law_653 (nI_add i 1) (by omega) (by omega) ?_)))))
  refine iL_law_654F plX (hW C F) [.ref 16, .int (xs (i + 1))] ptX ndX (asX rfl).symm gX (Nat.le_of_ble_eq_true rfl) l97 l1867 (CallI.imp (J_whose (D := D) j hB) (fun v w hq => ?_))
  obtain ⟨C1, F1, rfl, hq⟩ := hq
  rw [wrX]
  refine iL_law_657 (iL_law_658 (iL_law_659 (iL_law_660 (iL_law_661 (iL_law_662 (nI_add i 1) (by omega) (by omega) ?_)))))
  refine iL_law_663F (r := 92) plM (mW R T K D s) [.ref 16, .int (xs (i + 1))] ptM ndM (by rw [glen, rnM]; rfl) gM (Nat.le_of_ble_eq_true rfl) l97 l1867 (CallI.imp hq (fun v2 w2 h2 => ?_))
  obtain ⟨rfl, R1, T1, K1, D1, s1, rfl, j1⟩ := h2
  rw [wrM]
  exact iL_law_666 (fun _ => nx _ _ _ _ _ _ _ j1) (fun h => absurd rfl h)
theorem Lc_reads (j : Jn C F R T K s B) (hB : B < 100000) (hi : i + 5 < L) (hL : L ≤ 384) (nx : Nx L xs i B) : V (kL_law L xs) 671 (lsL i) [] (gW C F R T K D s) 97 1867 qT := by
  refine iL_law_671 (iL_law_672 (iL_law_673 (iL_law_674 (iL_law_675 (iL_law_676 (nI_add i 1) (by omega) (by omega) (iL_law_677 (iL_law_678 (iL_law_679 (iL_law_680 (iL_law_681 (nI_add i 2) (by omega) (by omega) (iL_law_682 (iL_law_683 (iL_law_684 (iL_law_685 (iL_law_686 (nI_add i 3) (by omega) (by omega) ?_)))))))))))))))
  refine iL_law_687F plX (hW C F) [.ref 16, .int (xs (i + 1)), .int (xs (i + 2)), .int (xs (i + 3))] ptX ndX (asX rfl).symm gX (Nat.le_of_ble_eq_true rfl) l97 l1867 (CallI.imp (J_reads (D := D) j hB) (fun v w hq => ?_))
  obtain ⟨C1, F1, rfl, hq⟩ := hq
  rw [wrX]
  refine iL_law_690 (iL_law_691 (iL_law_692 (iL_law_693 (iL_law_694 (iL_law_695 (nI_add i 1) (by omega) (by omega) (iL_law_696 (iL_law_697 (iL_law_698 (iL_law_699 (iL_law_700 (nI_add i 2) (by omega) (by omega) (iL_law_701 (iL_law_702 (iL_law_703 (iL_law_704 (iL_law_705 (nI_add i 3) (by omega) (by omega) ?_)))))))))))))))
  refine iL_law_706F (r := 92) plM (mW R T K D s) [.ref 16, .int (xs (i + 1)), .int (xs (i + 2)), .int (xs (i + 3))] ptM ndM (by rw [glen, rnM]; rfl) gM (Nat.le_of_ble_eq_true rfl) l97 l1867 (CallI.imp hq (fun v2 w2 h2 => ?_))
  obtain ⟨rfl, R1, T1, K1, D1, s1, rfl, j1⟩ := h2
  rw [wrM]
  exact iL_law_709 (fun _ => nx _ _ _ _ _ _ _ j1) (fun h => absurd rfl h)
theorem Lc_set (j : Jn C F R T K s B) (hB : B < 100000) (hi : i + 5 < L) (hL : L ≤ 384) (nx : Nx L xs i B) : V (kL_law L xs) 714 (lsL i) [] (gW C F R T K D s) 97 1867 qT := by
  refine iL_law_714 (iL_law_715 (iL_law_716 (iL_law_717 (iL_law_718 (iL_law_719 (nI_add i 1) (by omega) (by omega) (iL_law_720 (iL_law_721 (iL_law_722 (iL_law_723 (iL_law_724 (nI_add i 2) (by omega) (by omega) (iL_law_725 (iL_law_726 (iL_law_727 (iL_law_728 (iL_law_729 (nI_add i 3) (by omega) (by omega) ?_)))))))))))))))
  refine iL_law_730F plX (hW C F) [.ref 16, .int (xs (i + 1)), .int (xs (i + 2)), .int (xs (i + 3))] ptX ndX (asX rfl).symm gX (Nat.le_of_ble_eq_true rfl) l97 l1867 (CallI.imp (J_set (D := D) j hB) (fun v w hq => ?_))
  obtain ⟨C1, F1, rfl, hq⟩ := hq
  rw [wrX]
  refine iL_law_733 (iL_law_734 (iL_law_735 (iL_law_736 (iL_law_737 (iL_law_738 (nI_add i 1) (by omega) (by omega) (iL_law_739 (iL_law_740 (iL_law_741 (iL_law_742 (iL_law_743 (nI_add i 2) (by omega) (by omega) (iL_law_744 (iL_law_745 (iL_law_746 (iL_law_747 (iL_law_748 (nI_add i 3) (by omega) (by omega) ?_)))))))))))))))
  refine iL_law_749F (r := 92) plM (mW R T K D s) [.ref 16, .int (xs (i + 1)), .int (xs (i + 2)), .int (xs (i + 3))] ptM ndM (by rw [glen, rnM]; rfl) gM (Nat.le_of_ble_eq_true rfl) l97 l1867 (CallI.imp hq (fun v2 w2 h2 => ?_))
  obtain ⟨rfl, R1, T1, K1, D1, s1, rfl, j1⟩ := h2
  rw [wrM]
  exact iL_law_752 (fun _ => nx _ _ _ _ _ _ _ j1) (fun h => absurd rfl h)
theorem Lc_shut (j : Jn C F R T K s B) (hB : B < 100000) (hi : i + 5 < L) (hL : L ≤ 384) (nx : Nx L xs i B) : V (kL_law L xs) 757 (lsL i) [] (gW C F R T K D s) 97 1867 qT := by
  refine iL_law_757 (iL_law_758 (iL_law_759 (iL_law_760 (iL_law_761 (iL_law_762 (nI_add i 1) (by omega) (by omega) (iL_law_763 (iL_law_764 (iL_law_765 (iL_law_766 (iL_law_767 (nI_add i 2) (by omega) (by omega) ?_))))))))))
  refine iL_law_768F plX (hW C F) [.ref 16, .int (xs (i + 1)), .int (xs (i + 2))] ptX ndX (asX rfl).symm gX (Nat.le_of_ble_eq_true rfl) l97 l1867 (CallI.imp (J_shut (D := D) j hB) (fun v w hq => ?_))
  obtain ⟨C1, F1, rfl, hq⟩ := hq
  rw [wrX]
  refine iL_law_771 (iL_law_772 (iL_law_773 (iL_law_774 (iL_law_775 (iL_law_776 (nI_add i 1) (by omega) (by omega) (iL_law_777 (iL_law_778 (iL_law_779 (iL_law_780 (iL_law_781 (nI_add i 2) (by omega) (by omega) ?_))))))))))
  refine iL_law_782F (r := 92) plM (mW R T K D s) [.ref 16, .int (xs (i + 1)), .int (xs (i + 2))] ptM ndM (by rw [glen, rnM]; rfl) gM (Nat.le_of_ble_eq_true rfl) l97 l1867 (CallI.imp hq (fun v2 w2 h2 => ?_))
  obtain ⟨rfl, R1, T1, K1, D1, s1, rfl, j1⟩ := h2
  rw [wrM]
  exact iL_law_785 (fun _ => nx _ _ _ _ _ _ _ j1) (fun h => absurd rfl h)
theorem Lc_lean (j : Jn C F R T K s B) (hB : B < 100000) (hi : i + 5 < L) (hL : L ≤ 384) (nx : Nx L xs i B) : V (kL_law L xs) 790 (lsL i) [] (gW C F R T K D s) 97 1867 qT := by
  refine iL_law_790 (iL_law_791 (iL_law_792 (iL_law_793 (iL_law_794 (iL_law_795 (nI_add i 1) (by omega) (by omega) (iL_law_796 (iL_law_797 (iL_law_798 (iL_law_799 (iL_law_800 (nI_add i 2) (by omega) (by omega) ?_))))))))))
  refine iL_law_801F plX (hW C F) [.ref 16, .int (xs (i + 1)), .int (xs (i + 2))] ptX ndX (asX rfl).symm gX (Nat.le_of_ble_eq_true rfl) l97 l1867 (CallI.imp (J_lean (D := D) j) (fun v w hq => ?_))
  obtain ⟨C1, F1, rfl, hq⟩ := hq
  rw [wrX]
  refine iL_law_804 (iL_law_805 (iL_law_806 (iL_law_807 (iL_law_808 (iL_law_809 (nI_add i 1) (by omega) (by omega) (iL_law_810 (iL_law_811 (iL_law_812 (iL_law_813 (iL_law_814 (nI_add i 2) (by omega) (by omega) ?_))))))))))
  refine iL_law_815F (r := 92) plM (mW R T K D s) [.ref 16, .int (xs (i + 1)), .int (xs (i + 2))] ptM ndM (by rw [glen, rnM]; rfl) gM (Nat.le_of_ble_eq_true rfl) l97 l1867 (CallI.imp hq (fun v2 w2 h2 => ?_))
  obtain ⟨rfl, R1, T1, K1, D1, s1, rfl, j1⟩ := h2
  rw [wrM]
  exact iL_law_818 (fun _ => nx _ _ _ _ _ _ _ j1) (fun h => absurd rfl h)
theorem Lc_leaned (j : Jn C F R T K s B) (hB : B < 100000) (hi : i + 5 < L) (hL : L ≤ 384) (nx : Nx L xs i B) : V (kL_law L xs) 823 (lsL i) [] (gW C F R T K D s) 97 1867 qT := by
  refine iL_law_823 (iL_law_824 (iL_law_825 (iL_law_826 (iL_law_827 (iL_law_828 (nI_add i 1) (by omega) (by omega) ?_)))))
  refine iL_law_829F plX (hW C F) [.ref 16, .int (xs (i + 1))] ptX ndX (asX rfl).symm gX (Nat.le_of_ble_eq_true rfl) l97 l1867 (CallI.imp (J_leaned (D := D) j hB) (fun v w hq => ?_))
  obtain ⟨C1, F1, rfl, hq⟩ := hq
  rw [wrX]
  refine iL_law_832 (iL_law_833 (iL_law_834 (iL_law_835 (iL_law_836 (iL_law_837 (nI_add i 1) (by omega) (by omega) ?_)))))
  refine iL_law_838F (r := 92) plM (mW R T K D s) [.ref 16, .int (xs (i + 1))] ptM ndM (by rw [glen, rnM]; rfl) gM (Nat.le_of_ble_eq_true rfl) l97 l1867 (CallI.imp hq (fun v2 w2 h2 => ?_))
  obtain ⟨rfl, R1, T1, K1, D1, s1, rfl, j1⟩ := h2
  rw [wrM]
  exact iL_law_841 (fun _ => nx _ _ _ _ _ _ _ j1) (fun h => absurd rfl h)
theorem Lc_quorum (j : Jn C F R T K s B) (hB : B < 100000) (hi : i + 5 < L) (hL : L ≤ 384) (nx : Nx L xs i B) : V (kL_law L xs) 846 (lsL i) [] (gW C F R T K D s) 97 1867 qT := by
  refine iL_law_846 (iL_law_847 (iL_law_848 (iL_law_849 (iL_law_850 (iL_law_851 (nI_add i 1) (by omega) (by omega) (iL_law_852 (iL_law_853 (iL_law_854 (iL_law_855 (iL_law_856 (nI_add i 2) (by omega) (by omega) (iL_law_857 (iL_law_858 (iL_law_859 (iL_law_860 (iL_law_861 (nI_add i 3) (by omega) (by omega) ?_)))))))))))))))
  refine iL_law_862F plX (hW C F) [.ref 16, .int (xs (i + 1)), .int (xs (i + 2)), .int (xs (i + 3))] ptX ndX (asX rfl).symm gX (Nat.le_of_ble_eq_true rfl) l97 l1867 (CallI.imp (J_quorum (D := D) j hB) (fun v w hq => ?_))
  obtain ⟨C1, F1, rfl, hq⟩ := hq
  rw [wrX]
  refine iL_law_865 (iL_law_866 (iL_law_867 (iL_law_868 (iL_law_869 (iL_law_870 (nI_add i 1) (by omega) (by omega) (iL_law_871 (iL_law_872 (iL_law_873 (iL_law_874 (iL_law_875 (nI_add i 2) (by omega) (by omega) (iL_law_876 (iL_law_877 (iL_law_878 (iL_law_879 (iL_law_880 (nI_add i 3) (by omega) (by omega) ?_)))))))))))))))
  refine iL_law_881F (r := 92) plM (mW R T K D s) [.ref 16, .int (xs (i + 1)), .int (xs (i + 2)), .int (xs (i + 3))] ptM ndM (by rw [glen, rnM]; rfl) gM (Nat.le_of_ble_eq_true rfl) l97 l1867 (CallI.imp hq (fun v2 w2 h2 => ?_))
  obtain ⟨rfl, R1, T1, K1, D1, s1, rfl, j1⟩ := h2
  rw [wrM]
  exact iL_law_884 (fun _ => nx _ _ _ _ _ _ _ j1) (fun h => absurd rfl h)
theorem Lc_tallow (j : Jn C F R T K s B) (hB : B < 100000) (hi : i + 5 < L) (hL : L ≤ 384) (nx : Nx L xs i B) : V (kL_law L xs) 889 (lsL i) [] (gW C F R T K D s) 97 1867 qT := by
  refine iL_law_889 (iL_law_890 (iL_law_891 (iL_law_892 (iL_law_893 (iL_law_894 (nI_add i 1) (by omega) (by omega) (iL_law_895 (iL_law_896 (iL_law_897 (iL_law_898 (iL_law_899 (nI_add i 2) (by omega) (by omega) ?_))))))))))
  refine iL_law_900F plX (hW C F) [.ref 16, .int (xs (i + 1)), .int (xs (i + 2))] ptX ndX (asX rfl).symm gX (Nat.le_of_ble_eq_true rfl) l97 l1867 (CallI.imp (J_tallow (D := D) j hB) (fun v w hq => ?_))
  obtain ⟨C1, F1, rfl, hq⟩ := hq
  rw [wrX]
  refine iL_law_903 (iL_law_904 (iL_law_905 (iL_law_906 (iL_law_907 (iL_law_908 (nI_add i 1) (by omega) (by omega) (iL_law_909 (iL_law_910 (iL_law_911 (iL_law_912 (iL_law_913 (nI_add i 2) (by omega) (by omega) ?_))))))))))
  refine iL_law_914F (r := 92) plM (mW R T K D s) [.ref 16, .int (xs (i + 1)), .int (xs (i + 2))] ptM ndM (by rw [glen, rnM]; rfl) gM (Nat.le_of_ble_eq_true rfl) l97 l1867 (CallI.imp hq (fun v2 w2 h2 => ?_))
  obtain ⟨rfl, R1, T1, K1, D1, s1, rfl, j1⟩ := h2
  rw [wrM]
  exact iL_law_917 (fun _ => nx _ _ _ _ _ _ _ j1) (fun h => absurd rfl h)
theorem Lc_race (j : Jn C F R T K s B) (hB : B < 100000) (hi : i + 5 < L) (hL : L ≤ 384) (nx : Nx L xs i B) : V (kL_law L xs) 922 (lsL i) [] (gW C F R T K D s) 97 1867 qT := by
  refine iL_law_922 (iL_law_923 (iL_law_924 (iL_law_925 (iL_law_926 (iL_law_927 (nI_add i 1) (by omega) (by omega) (iL_law_928 (iL_law_929 (iL_law_930 (iL_law_931 (iL_law_932 (nI_add i 2) (by omega) (by omega) ?_))))))))))
  refine iL_law_933F plX (hW C F) [.ref 16, .int (xs (i + 1)), .int (xs (i + 2))] ptX ndX (asX rfl).symm gX (Nat.le_of_ble_eq_true rfl) l97 l1867 (CallI.imp (J_race (D := D) j hB) (fun v w hq => ?_))
  obtain ⟨C1, F1, rfl, hq⟩ := hq
  rw [wrX]
  refine iL_law_936 (iL_law_937 (iL_law_938 (iL_law_939 (iL_law_940 (iL_law_941 (nI_add i 1) (by omega) (by omega) (iL_law_942 (iL_law_943 (iL_law_944 (iL_law_945 (iL_law_946 (nI_add i 2) (by omega) (by omega) ?_))))))))))
  refine iL_law_947F (r := 92) plM (mW R T K D s) [.ref 16, .int (xs (i + 1)), .int (xs (i + 2))] ptM ndM (by rw [glen, rnM]; rfl) gM (Nat.le_of_ble_eq_true rfl) l97 l1867 (CallI.imp hq (fun v2 w2 h2 => ?_))
  obtain ⟨rfl, R1, T1, K1, D1, s1, rfl, j1⟩ := h2
  rw [wrM]
  exact iL_law_950 (fun _ => nx _ _ _ _ _ _ _ j1) (fun h => absurd rfl h)
theorem Lc_game (j : Jn C F R T K s B) (hB : B < 100000) (hi : i + 5 < L) (hL : L ≤ 384) (nx : Nx L xs i B) : V (kL_law L xs) 955 (lsL i) [] (gW C F R T K D s) 97 1867 qT := by
  refine iL_law_955 (iL_law_956 (iL_law_957 (iL_law_958 (iL_law_959 (iL_law_960 (nI_add i 1) (by omega) (by omega) (iL_law_961 (iL_law_962 (iL_law_963 (iL_law_964 (iL_law_965 (nI_add i 2) (by omega) (by omega) (iL_law_966 (iL_law_967 (iL_law_968 (iL_law_969 (iL_law_970 (nI_add i 3) (by omega) (by omega) (iL_law_971 (iL_law_972 (iL_law_973 (iL_law_974 (iL_law_975 (nI_add i 4) (by omega) (by omega) (iL_law_976 (iL_law_977 (iL_law_978 (iL_law_979 (iL_law_980 (nI_add i 5) (by omega) (by omega) ?_)))))))))))))))))))))))))
  refine iL_law_981F plX (hW C F) [.ref 16, .int (xs (i + 1)), .int (xs (i + 2)), .int (xs (i + 3)), .int (xs (i + 4)), .int (xs (i + 5))] ptX ndX (asX rfl).symm gX (Nat.le_of_ble_eq_true rfl) l97 l1867 (CallI.imp (J_game (D := D) j hB) (fun v w hq => ?_))
  obtain ⟨C1, F1, rfl, hq⟩ := hq
  rw [wrX]
  refine iL_law_984 (iL_law_985 (iL_law_986 (iL_law_987 (iL_law_988 (iL_law_989 (nI_add i 1) (by omega) (by omega) (iL_law_990 (iL_law_991 (iL_law_992 (iL_law_993 (iL_law_994 (nI_add i 2) (by omega) (by omega) (iL_law_995 (iL_law_996 (iL_law_997 (iL_law_998 (iL_law_999 (nI_add i 3) (by omega) (by omega) (iL_law_1000 (iL_law_1001 (iL_law_1002 (iL_law_1003 (iL_law_1004 (nI_add i 4) (by omega) (by omega) (iL_law_1005 (iL_law_1006 (iL_law_1007 (iL_law_1008 (iL_law_1009 (nI_add i 5) (by omega) (by omega) ?_)))))))))))))))))))))))))
  refine iL_law_1010F (r := 92) plM (mW R T K D s) [.ref 16, .int (xs (i + 1)), .int (xs (i + 2)), .int (xs (i + 3)), .int (xs (i + 4)), .int (xs (i + 5))] ptM ndM (by rw [glen, rnM]; rfl) gM (Nat.le_of_ble_eq_true rfl) l97 l1867 (CallI.imp hq (fun v2 w2 h2 => ?_))
  obtain ⟨rfl, R1, T1, K1, D1, s1, rfl, j1⟩ := h2
  rw [wrM]
  exact iL_law_1013 (fun _ => nx _ _ _ _ _ _ _ j1) (fun h => absurd rfl h)
theorem Lc_moths (j : Jn C F R T K s B) (hB : B < 100000) (hi : i + 5 < L) (hL : L ≤ 384) (nx : Nx L xs i B) : V (kL_law L xs) 1018 (lsL i) [] (gW C F R T K D s) 97 1867 qT := by
  refine iL_law_1018 (iL_law_1019 (iL_law_1020 (iL_law_1021 (iL_law_1022 (iL_law_1023 (nI_add i 1) (by omega) (by omega) (iL_law_1024 (iL_law_1025 (iL_law_1026 (iL_law_1027 (iL_law_1028 (nI_add i 2) (by omega) (by omega) (iL_law_1029 (iL_law_1030 (iL_law_1031 (iL_law_1032 (iL_law_1033 (nI_add i 3) (by omega) (by omega) ?_)))))))))))))))
  refine iL_law_1034F plX (hW C F) [.ref 16, .int (xs (i + 1)), .int (xs (i + 2)), .int (xs (i + 3))] ptX ndX (asX rfl).symm gX (Nat.le_of_ble_eq_true rfl) l97 l1867 (CallI.imp (J_moths (D := D) j hB) (fun v w hq => ?_))
  obtain ⟨C1, F1, rfl, hq⟩ := hq
  rw [wrX]
  refine iL_law_1037 (iL_law_1038 (iL_law_1039 (iL_law_1040 (iL_law_1041 (iL_law_1042 (nI_add i 1) (by omega) (by omega) (iL_law_1043 (iL_law_1044 (iL_law_1045 (iL_law_1046 (iL_law_1047 (nI_add i 2) (by omega) (by omega) (iL_law_1048 (iL_law_1049 (iL_law_1050 (iL_law_1051 (iL_law_1052 (nI_add i 3) (by omega) (by omega) ?_)))))))))))))))
  refine iL_law_1053F (r := 92) plM (mW R T K D s) [.ref 16, .int (xs (i + 1)), .int (xs (i + 2)), .int (xs (i + 3))] ptM ndM (by rw [glen, rnM]; rfl) gM (Nat.le_of_ble_eq_true rfl) l97 l1867 (CallI.imp hq (fun v2 w2 h2 => ?_))
  obtain ⟨rfl, R1, T1, K1, D1, s1, rfl, j1⟩ := h2
  rw [wrM]
  exact iL_law_1056 (fun _ => nx _ _ _ _ _ _ _ j1) (fun h => absurd rfl h)
theorem Lc_loan (j : Jn C F R T K s B) (hB : B < 100000) (hi : i + 5 < L) (hL : L ≤ 384) (nx : Nx L xs i B) : V (kL_law L xs) 1061 (lsL i) [] (gW C F R T K D s) 97 1867 qT := by
  refine iL_law_1061 (iL_law_1062 (iL_law_1063 (iL_law_1064 (iL_law_1065 (iL_law_1066 (nI_add i 1) (by omega) (by omega) ?_)))))
  refine iL_law_1067F plX (hW C F) [.ref 16, .int (xs (i + 1))] ptX ndX (asX rfl).symm gX (Nat.le_of_ble_eq_true rfl) l97 l1867 (CallI.imp (J_loan (D := D) j) (fun v w hq => ?_))
  obtain ⟨C1, F1, rfl, hq⟩ := hq
  rw [wrX]
  refine iL_law_1070 (iL_law_1071 (iL_law_1072 (iL_law_1073 (iL_law_1074 (iL_law_1075 (nI_add i 1) (by omega) (by omega) ?_)))))
  refine iL_law_1076F (r := 92) plM (mW R T K D s) [.ref 16, .int (xs (i + 1))] ptM ndM (by rw [glen, rnM]; rfl) gM (Nat.le_of_ble_eq_true rfl) l97 l1867 (CallI.imp hq (fun v2 w2 h2 => ?_))
  obtain ⟨rfl, R1, T1, K1, D1, s1, rfl, j1⟩ := h2
  rw [wrM]
  exact iL_law_1079 (fun _ => nx _ _ _ _ _ _ _ j1) (fun h => absurd rfl h)
theorem Lc_image (j : Jn C F R T K s B) (hB : B < 100000) (hi : i + 5 < L) (hL : L ≤ 384) (nx : Nx L xs i B) : V (kL_law L xs) 1084 (lsL i) [] (gW C F R T K D s) 97 1867 qT := by
  refine iL_law_1084 (iL_law_1085 (iL_law_1086 (iL_law_1087 (iL_law_1088 (iL_law_1089 (nI_add i 1) (by omega) (by omega) ?_)))))
  refine iL_law_1090F plX (hW C F) [.ref 16, .int (xs (i + 1))] ptX ndX (asX rfl).symm gX (Nat.le_of_ble_eq_true rfl) l97 l1867 (CallI.imp (J_image (D := D) j) (fun v w hq => ?_))
  obtain ⟨C1, F1, rfl, hq⟩ := hq
  rw [wrX]
  refine iL_law_1093 (iL_law_1094 (iL_law_1095 (iL_law_1096 (iL_law_1097 (iL_law_1098 (nI_add i 1) (by omega) (by omega) ?_)))))
  refine iL_law_1099F (r := 92) plM (mW R T K D s) [.ref 16, .int (xs (i + 1))] ptM ndM (by rw [glen, rnM]; rfl) gM (Nat.le_of_ble_eq_true rfl) l97 l1867 (CallI.imp hq (fun v2 w2 h2 => ?_))
  obtain ⟨rfl, R1, T1, K1, D1, s1, rfl, j1⟩ := h2
  rw [wrM]
  exact iL_law_1102 (fun _ => nx _ _ _ _ _ _ _ j1) (fun h => absurd rfl h)
theorem Lc_from (j : Jn C F R T K s B) (hB : B < 100000) (hi : i + 5 < L) (hL : L ≤ 384) (nx : Nx L xs i B) : V (kL_law L xs) 1107 (lsL i) [] (gW C F R T K D s) 97 1867 qT := by
  refine iL_law_1107 (iL_law_1108 (iL_law_1109 (iL_law_1110 (iL_law_1111 (iL_law_1112 (nI_add i 1) (by omega) (by omega) ?_)))))
  refine iL_law_1113F plX (hW C F) [.ref 16, .int (xs (i + 1))] ptX ndX (asX rfl).symm gX (Nat.le_of_ble_eq_true rfl) l97 l1867 (CallI.imp (J_from (D := D) j) (fun v w hq => ?_))
  obtain ⟨C1, F1, rfl, hq⟩ := hq
  rw [wrX]
  refine iL_law_1116 (iL_law_1117 (iL_law_1118 (iL_law_1119 (iL_law_1120 (iL_law_1121 (nI_add i 1) (by omega) (by omega) ?_)))))
  refine iL_law_1122F (r := 92) plM (mW R T K D s) [.ref 16, .int (xs (i + 1))] ptM ndM (by rw [glen, rnM]; rfl) gM (Nat.le_of_ble_eq_true rfl) l97 l1867 (CallI.imp hq (fun v2 w2 h2 => ?_))
  obtain ⟨rfl, R1, T1, K1, D1, s1, rfl, j1⟩ := h2
  rw [wrM]
  exact iL_law_1125 (fun _ => nx _ _ _ _ _ _ _ j1) (fun h => absurd rfl h)
theorem Lc_status (j : Jn C F R T K s B) (hB : B < 100000) (hi : i + 5 < L) (hL : L ≤ 384) (nx : Nx L xs i B) : V (kL_law L xs) 1130 (lsL i) [] (gW C F R T K D s) 97 1867 qT := by
  refine iL_law_1130 (iL_law_1131 (iL_law_1132 (iL_law_1133 (iL_law_1134 (iL_law_1135 (nI_add i 1) (by omega) (by omega) ?_)))))
  refine iL_law_1136F plX (hW C F) [.ref 16, .int (xs (i + 1))] ptX ndX (asX rfl).symm gX (Nat.le_of_ble_eq_true rfl) l97 l1867 (CallI.imp (J_status (D := D) j) (fun v w hq => ?_))
  obtain ⟨C1, F1, rfl, hq⟩ := hq
  rw [wrX]
  refine iL_law_1139 (iL_law_1140 (iL_law_1141 (iL_law_1142 (iL_law_1143 (iL_law_1144 (nI_add i 1) (by omega) (by omega) ?_)))))
  refine iL_law_1145F (r := 92) plM (mW R T K D s) [.ref 16, .int (xs (i + 1))] ptM ndM (by rw [glen, rnM]; rfl) gM (Nat.le_of_ble_eq_true rfl) l97 l1867 (CallI.imp hq (fun v2 w2 h2 => ?_))
  obtain ⟨rfl, R1, T1, K1, D1, s1, rfl, j1⟩ := h2
  rw [wrM]
  exact iL_law_1148 (fun _ => nx _ _ _ _ _ _ _ j1) (fun h => absurd rfl h)
theorem Lc_count (j : Jn C F R T K s B) (hB : B < 100000) (hi : i + 5 < L) (hL : L ≤ 384) (nx : Nx L xs i B) : V (kL_law L xs) 1153 (lsL i) [] (gW C F R T K D s) 97 1867 qT := by
  refine iL_law_1153 (iL_law_1154 (iL_law_1155 (iL_law_1156 (iL_law_1157 (iL_law_1158 (nI_add i 1) (by omega) (by omega) ?_)))))
  refine iL_law_1159F plX (hW C F) [.ref 16, .int (xs (i + 1))] ptX ndX (asX rfl).symm gX (Nat.le_of_ble_eq_true rfl) l97 l1867 (CallI.imp (J_count (D := D) j) (fun v w hq => ?_))
  obtain ⟨C1, F1, rfl, hq⟩ := hq
  rw [wrX]
  refine iL_law_1162 (iL_law_1163 (iL_law_1164 (iL_law_1165 (iL_law_1166 (iL_law_1167 (nI_add i 1) (by omega) (by omega) ?_)))))
  refine iL_law_1168F (r := 92) plM (mW R T K D s) [.ref 16, .int (xs (i + 1))] ptM ndM (by rw [glen, rnM]; rfl) gM (Nat.le_of_ble_eq_true rfl) l97 l1867 (CallI.imp hq (fun v2 w2 h2 => ?_))
  obtain ⟨rfl, R1, T1, K1, D1, s1, rfl, j1⟩ := h2
  rw [wrM]
  exact iL_law_1171 (fun _ => nx _ _ _ _ _ _ _ j1) (fun h => absurd rfl h)
theorem Lc_digest (j : Jn C F R T K s B) (hB : B < 100000) (hi : i + 5 < L) (hL : L ≤ 384) (nx : Nx L xs i B) : V (kL_law L xs) 1176 (lsL i) [] (gW C F R T K D s) 97 1867 qT := by
  refine iL_law_1176 ?_
  refine iL_law_1177F plX (hW C F) [.ref 16] ptX ndX (asX rfl).symm gX (Nat.le_of_ble_eq_true rfl) l97 l1867 (CallL.imp (J_digest (D := D) j) (fun v w hq => ?_))
  obtain ⟨C1, F1, rfl, hq⟩ := hq
  rw [wrX]
  refine iL_law_1180 ?_
  refine iL_law_1181F (r := 92) plM (mW R T K D s) [.ref 16] ptM ndM (by rw [glen, rnM]; rfl) gM (Nat.le_of_ble_eq_true rfl) l97 l1867 (CallL.imp hq (fun v2 w2 h2 => ?_))
  obtain ⟨rfl, R1, T1, K1, D1, s1, rfl, j1⟩ := h2
  rw [wrM]
  refine iL_law_1184 (iL_law_1185 (fun _ => nx _ _ _ _ _ _ _ j1) (fun h => absurd ?_ h))
  unfold lg_cmp
  rw [if_neg (Int64.lt_irrefl), if_pos rfl]
end LawC
