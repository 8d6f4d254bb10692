/-! THE LAW: its cases -/
abbrev lwV (i b : Nat) (ad : Nat → Nat) : List (Nat × Value) := [(3, .int (nI i)), (2, .ref (ad 87)), (1, .ref (ad 0)), (0, .ref b)]
theorem law_c0 {p : Program} {l : Launch} {e : Env} {s : State} {m : MethodId} {args : Array Value} {below : List Frame} {meth : Method} {c : Code} {A : Nat → Prop} {Q : State → Prop} {D : va_G} {ca ss ad : Nat → Nat} {cells slots : Nat} {b L : Nat} {xs : Nat → Int32} {f : Nat → va_E} {i : Nat} (C : kX p s m args meth c A D ca ss 4 "StarTrackerLaw" cL_law ret) (hX : va_X b L xs s s.heap) (hbl : b < s.heap.size) (hbA : ¬ A b) (hL : L ≤ 3584) (hcs : cells ≤ room_1.cells ∧ slots ≤ room_1.slots) (hi : i + 6 < L) (hJ : JJ ca ad f) (K : ∀ u, JJ ca ad u → kJ p l e room_1 s m args below meth c A Q D 4 (gWn ad 108 u) cells slots (lwV i b ad) 1231 []) : kJ p l e room_1 s m args below meth c A Q D 4 (gWn ad 108 f) cells slots (lwV i b ad) 168 [] := by
  obtain ⟨v, P, hc, hm⟩ := p_add (l := l) (D := D) (ss := ss) (xs (i + 1)) (xs (i + 2)) (xs (i + 3)) (xs (i + 4)) f hJ
  obtain ⟨fs0, hf0⟩ := JJ_0 hJ
  refine kj_aload_n C 1 dL_law_168 rfl 2 rfl ?_
  refine law_arg C hX hbl hbA 1 (by omega) hL (by decide) dL_law_169 dL_law_170 dL_law_171 dL_law_172 dL_law_173 ?_
  refine law_arg C hX hbl hbA 2 (by omega) hL (by decide) dL_law_174 dL_law_175 dL_law_176 dL_law_177 dL_law_178 ?_
  refine law_arg C hX hbl hbA 3 (by omega) hL (by decide) dL_law_179 dL_law_180 dL_law_181 dL_law_182 dL_law_183 ?_
  refine law_arg C hX hbl hbA 4 (by omega) hL (by decide) dL_law_184 dL_law_185 dL_law_186 dL_law_187 dL_law_188 ?_
  refine kj_callVi C mi_X11_add w_370 0 (by decide) hf0 rfl hc mc_X11_add ⟨Nat.le_of_ble_eq_true rfl, Nat.le_of_ble_eq_true rfl⟩ hcs (rest := []) rfl (Nat.le_of_ble_eq_true rfl) dL_law_189 (fun r u h => ?_)
  obtain ⟨hr, hu⟩ := h
  obtain ⟨⟨fs1, hf87⟩, hmu⟩ := hm u hu
  refine kj_aload_n C 2 dL_law_192 rfl 1 rfl ?_
  refine law_arg C hX hbl hbA 1 (by omega) hL (by decide) dL_law_193 dL_law_194 dL_law_195 dL_law_196 dL_law_197 ?_
  refine law_arg C hX hbl hbA 2 (by omega) hL (by decide) dL_law_198 dL_law_199 dL_law_200 dL_law_201 dL_law_202 ?_
  refine law_arg C hX hbl hbA 3 (by omega) hL (by decide) dL_law_203 dL_law_204 dL_law_205 dL_law_206 dL_law_207 ?_
  refine law_arg C hX hbl hbA 4 (by omega) hL (by decide) dL_law_208 dL_law_209 dL_law_210 dL_law_211 dL_law_212 ?_
  refine kj_callVi C mi_X12_add w_975 87 (by decide) hf87 rfl hmu mc_X12_add ⟨Nat.le_of_ble_eq_true rfl, Nat.le_of_ble_eq_true rfl⟩ hcs (rest := [.int r]) rfl (Nat.le_of_ble_eq_true rfl) dL_law_213 (fun r' u' h' => ?_)
  obtain ⟨hr', hJ'⟩ := h'
  exact kj_icmp_eq C 1231 dL_law_216 (by decide) (fun _ => K u' hJ') (fun hne => absurd (hr.trans hr'.symm) hne)
theorem law_c1 {p : Program} {l : Launch} {e : Env} {s : State} {m : MethodId} {args : Array Value} {below : List Frame} {meth : Method} {c : Code} {A : Nat → Prop} {Q : State → Prop} {D : va_G} {ca ss ad : Nat → Nat} {cells slots : Nat} {b L : Nat} {xs : Nat → Int32} {f : Nat → va_E} {i : Nat} (C : kX p s m args meth c A D ca ss 4 "StarTrackerLaw" cL_law ret) (hX : va_X b L xs s s.heap) (hbl : b < s.heap.size) (hbA : ¬ A b) (hL : L ≤ 3584) (hcs : cells ≤ room_1.cells ∧ slots ≤ room_1.slots) (hi : i + 6 < L) (hJ : JJ ca ad f) (K : ∀ u, JJ ca ad u → kJ p l e room_1 s m args below meth c A Q D 4 (gWn ad 108 u) cells slots (lwV i b ad) 1231 []) : kJ p l e room_1 s m args below meth c A Q D 4 (gWn ad 108 f) cells slots (lwV i b ad) 221 [] := by
  obtain ⟨v, P, hc, hm⟩ := p_back (l := l) (D := D) (ss := ss) (xs (i + 1)) f hJ
  obtain ⟨fs0, hf0⟩ := JJ_0 hJ
  refine kj_aload_n C 1 dL_law_221 rfl 2 rfl ?_
  refine law_arg C hX hbl hbA 1 (by omega) hL (by decide) dL_law_222 dL_law_223 dL_law_224 dL_law_225 dL_law_226 ?_
  refine kj_callVi C mi_X11_back w_404 0 (by decide) hf0 rfl hc mc_X11_back ⟨Nat.le_of_ble_eq_true rfl, Nat.le_of_ble_eq_true rfl⟩ hcs (rest := []) rfl (Nat.le_of_ble_eq_true rfl) dL_law_227 (fun r u h => ?_)
  obtain ⟨hr, hu⟩ := h
  obtain ⟨⟨fs1, hf87⟩, hmu⟩ := hm u hu
  refine kj_aload_n C 2 dL_law_230 rfl 1 rfl ?_
  refine law_arg C hX hbl hbA 1 (by omega) hL (by decide) dL_law_231 dL_law_232 dL_law_233 dL_law_234 dL_law_235 ?_
  refine kj_callVi C mi_X12_back w_994 87 (by decide) hf87 rfl hmu mc_X12_back ⟨Nat.le_of_ble_eq_true rfl, Nat.le_of_ble_eq_true rfl⟩ hcs (rest := [.int r]) rfl (Nat.le_of_ble_eq_true rfl) dL_law_236 (fun r' u' h' => ?_)
  obtain ⟨hr', hJ'⟩ := h'
  exact kj_icmp_eq C 1231 dL_law_239 (by decide) (fun _ => K u' hJ') (fun hne => absurd (hr.trans hr'.symm) hne)
theorem law_c2 {p : Program} {l : Launch} {e : Env} {s : State} {m : MethodId} {args : Array Value} {below : List Frame} {meth : Method} {c : Code} {A : Nat → Prop} {Q : State → Prop} {D : va_G} {ca ss ad : Nat → Nat} {cells slots : Nat} {b L : Nat} {xs : Nat → Int32} {f : Nat → va_E} {i : Nat} (C : kX p s m args meth c A D ca ss 4 "StarTrackerLaw" cL_law ret) (hX : va_X b L xs s s.heap) (hbl : b < s.heap.size) (hbA : ¬ A b) (hL : L ≤ 3584) (hcs : cells ≤ room_1.cells ∧ slots ≤ room_1.slots) (hi : i + 6 < L) (hJ : JJ ca ad f) (K : ∀ u, JJ ca ad u → kJ p l e room_1 s m args below meth c A Q D 4 (gWn ad 108 u) cells slots (lwV i b ad) 1231 []) : kJ p l e room_1 s m args below meth c A Q D 4 (gWn ad 108 f) cells slots (lwV i b ad) 244 [] := by
  obtain ⟨v, P, hc, hm⟩ := p_at (l := l) (D := D) (ss := ss) (xs (i + 1)) (xs (i + 2)) (xs (i + 3)) f hJ
  obtain ⟨fs0, hf0⟩ := JJ_0 hJ
  refine kj_aload_n C 1 dL_law_244 rfl 2 rfl ?_
  refine law_arg C hX hbl hbA 1 (by omega) hL (by decide) dL_law_245 dL_law_246 dL_law_247 dL_law_248 dL_law_249 ?_
  refine law_arg C hX hbl hbA 2 (by omega) hL (by decide) dL_law_250 dL_law_251 dL_law_252 dL_law_253 dL_law_254 ?_
  refine law_arg C hX hbl hbA 3 (by omega) hL (by decide) dL_law_255 dL_law_256 dL_law_257 dL_law_258 dL_law_259 ?_
  refine kj_callVi C mi_X11_at w_412 0 (by decide) hf0 rfl hc mc_X11_at ⟨Nat.le_of_ble_eq_true rfl, Nat.le_of_ble_eq_true rfl⟩ hcs (rest := []) rfl (Nat.le_of_ble_eq_true rfl) dL_law_260 (fun r u h => ?_)
  obtain ⟨hr, hu⟩ := h
  obtain ⟨⟨fs1, hf87⟩, hmu⟩ := hm u hu
  refine kj_aload_n C 2 dL_law_263 rfl 1 rfl ?_
  refine law_arg C hX hbl hbA 1 (by omega) hL (by decide) dL_law_264 dL_law_265 dL_law_266 dL_law_267 dL_law_268 ?_
  refine law_arg C hX hbl hbA 2 (by omega) hL (by decide) dL_law_269 dL_law_270 dL_law_271 dL_law_272 dL_law_273 ?_
  refine law_arg C hX hbl hbA 3 (by omega) hL (by decide) dL_law_274 dL_law_275 dL_law_276 dL_law_277 dL_law_278 ?_
  refine kj_callVi C mi_X12_at w_998 87 (by decide) hf87 rfl hmu mc_X12_at ⟨Nat.le_of_ble_eq_true rfl, Nat.le_of_ble_eq_true rfl⟩ hcs (rest := [.int r]) rfl (Nat.le_of_ble_eq_true rfl) dL_law_279 (fun r' u' h' => ?_)
  obtain ⟨hr', hJ'⟩ := h'
  exact kj_icmp_eq C 1231 dL_law_282 (by decide) (fun _ => K u' hJ') (fun hne => absurd (hr.trans hr'.symm) hne)
theorem law_c3 {p : Program} {l : Launch} {e : Env} {s : State} {m : MethodId} {args : Array Value} {below : List Frame} {meth : Method} {c : Code} {A : Nat → Prop} {Q : State → Prop} {D : va_G} {ca ss ad : Nat → Nat} {cells slots : Nat} {b L : Nat} {xs : Nat → Int32} {f : Nat → va_E} {i : Nat} (C : kX p s m args meth c A D ca ss 4 "StarTrackerLaw" cL_law ret) (hX : va_X b L xs s s.heap) (hbl : b < s.heap.size) (hbA : ¬ A b) (hL : L ≤ 3584) (hcs : cells ≤ room_1.cells ∧ slots ≤ room_1.slots) (hi : i + 6 < L) (hJ : JJ ca ad f) (K : ∀ u, JJ ca ad u → kJ p l e room_1 s m args below meth c A Q D 4 (gWn ad 108 u) cells slots (lwV i b ad) 1231 []) : kJ p l e room_1 s m args below meth c A Q D 4 (gWn ad 108 f) cells slots (lwV i b ad) 287 [] := by
  obtain ⟨v, P, hc, hm⟩ := p_read (l := l) (D := D) (ss := ss) (xs (i + 1)) (xs (i + 2)) f hJ
  obtain ⟨fs0, hf0⟩ := JJ_0 hJ
  refine kj_aload_n C 1 dL_law_287 rfl 2 rfl ?_
  refine law_arg C hX hbl hbA 1 (by omega) hL (by decide) dL_law_288 dL_law_289 dL_law_290 dL_law_291 dL_law_292 ?_
  refine law_arg C hX hbl hbA 2 (by omega) hL (by decide) dL_law_293 dL_law_294 dL_law_295 dL_law_296 dL_law_297 ?_
  refine kj_callVi C mi_X11_read w_431 0 (by decide) hf0 rfl hc mc_X11_read ⟨Nat.le_of_ble_eq_true rfl, Nat.le_of_ble_eq_true rfl⟩ hcs (rest := []) rfl (Nat.le_of_ble_eq_true rfl) dL_law_298 (fun r u h => ?_)
  obtain ⟨hr, hu⟩ := h
  obtain ⟨⟨fs1, hf87⟩, hmu⟩ := hm u hu
  refine kj_aload_n C 2 dL_law_301 rfl 1 rfl ?_
  refine law_arg C hX hbl hbA 1 (by omega) hL (by decide) dL_law_302 dL_law_303 dL_law_304 dL_law_305 dL_law_306 ?_
  refine law_arg C hX hbl hbA 2 (by omega) hL (by decide) dL_law_307 dL_law_308 dL_law_309 dL_law_310 dL_law_311 ?_
  refine kj_callVi C mi_X12_read w_1010 87 (by decide) hf87 rfl hmu mc_X12_read ⟨Nat.le_of_ble_eq_true rfl, Nat.le_of_ble_eq_true rfl⟩ hcs (rest := [.int r]) rfl (Nat.le_of_ble_eq_true rfl) dL_law_312 (fun r' u' h' => ?_)
  obtain ⟨hr', hJ'⟩ := h'
  exact kj_icmp_eq C 1231 dL_law_315 (by decide) (fun _ => K u' hJ') (fun hne => absurd (hr.trans hr'.symm) hne)
theorem law_c4 {p : Program} {l : Launch} {e : Env} {s : State} {m : MethodId} {args : Array Value} {below : List Frame} {meth : Method} {c : Code} {A : Nat → Prop} {Q : State → Prop} {D : va_G} {ca ss ad : Nat → Nat} {cells slots : Nat} {b L : Nat} {xs : Nat → Int32} {f : Nat → va_E} {i : Nat} (C : kX p s m args meth c A D ca ss 4 "StarTrackerLaw" cL_law ret) (hX : va_X b L xs s s.heap) (hbl : b < s.heap.size) (hbA : ¬ A b) (hL : L ≤ 3584) (hcs : cells ≤ room_1.cells ∧ slots ≤ room_1.slots) (hi : i + 6 < L) (hJ : JJ ca ad f) (K : ∀ u, JJ ca ad u → kJ p l e room_1 s m args below meth c A Q D 4 (gWn ad 108 u) cells slots (lwV i b ad) 1231 []) : kJ p l e room_1 s m args below meth c A Q D 4 (gWn ad 108 f) cells slots (lwV i b ad) 320 [] := by
  obtain ⟨v, P, hc, hm⟩ := p_see (l := l) (D := D) (ss := ss) (xs (i + 1)) (xs (i + 2)) (xs (i + 3)) (xs (i + 4)) (xs (i + 5)) (xs (i + 6)) f hJ
  obtain ⟨fs0, hf0⟩ := JJ_0 hJ
  refine kj_aload_n C 1 dL_law_320 rfl 2 rfl ?_
  refine law_arg C hX hbl hbA 1 (by omega) hL (by decide) dL_law_321 dL_law_322 dL_law_323 dL_law_324 dL_law_325 ?_
  refine law_arg C hX hbl hbA 2 (by omega) hL (by decide) dL_law_326 dL_law_327 dL_law_328 dL_law_329 dL_law_330 ?_
  refine law_arg C hX hbl hbA 3 (by omega) hL (by decide) dL_law_331 dL_law_332 dL_law_333 dL_law_334 dL_law_335 ?_
  refine law_arg C hX hbl hbA 4 (by omega) hL (by decide) dL_law_336 dL_law_337 dL_law_338 dL_law_339 dL_law_340 ?_
  refine law_arg C hX hbl hbA 5 (by omega) hL (by decide) dL_law_341 dL_law_342 dL_law_343 dL_law_344 dL_law_345 ?_
  refine law_argB C hX hbl hbA 6 (by omega) hL (by decide) dL_law_346 dL_law_347 dL_law_348 dL_law_350 dL_law_351 ?_
  refine kj_callVi C mi_X11_see w_454 0 (by decide) hf0 rfl hc mc_X11_see ⟨Nat.le_of_ble_eq_true rfl, Nat.le_of_ble_eq_true rfl⟩ hcs (rest := []) rfl (Nat.le_of_ble_eq_true rfl) dL_law_352 (fun r u h => ?_)
  obtain ⟨hr, hu⟩ := h
  obtain ⟨⟨fs1, hf87⟩, hmu⟩ := hm u hu
  refine kj_aload_n C 2 dL_law_355 rfl 1 rfl ?_
  refine law_arg C hX hbl hbA 1 (by omega) hL (by decide) dL_law_356 dL_law_357 dL_law_358 dL_law_359 dL_law_360 ?_
  refine law_arg C hX hbl hbA 2 (by omega) hL (by decide) dL_law_361 dL_law_362 dL_law_363 dL_law_364 dL_law_365 ?_
  refine law_arg C hX hbl hbA 3 (by omega) hL (by decide) dL_law_366 dL_law_367 dL_law_368 dL_law_369 dL_law_370 ?_
  refine law_arg C hX hbl hbA 4 (by omega) hL (by decide) dL_law_371 dL_law_372 dL_law_373 dL_law_374 dL_law_375 ?_
  refine law_arg C hX hbl hbA 5 (by omega) hL (by decide) dL_law_376 dL_law_377 dL_law_378 dL_law_379 dL_law_380 ?_
  refine law_argB C hX hbl hbA 6 (by omega) hL (by decide) dL_law_381 dL_law_382 dL_law_383 dL_law_385 dL_law_386 ?_
  refine kj_callVi C mi_X12_see w_1015 87 (by decide) hf87 rfl hmu mc_X12_see ⟨Nat.le_of_ble_eq_true rfl, Nat.le_of_ble_eq_true rfl⟩ hcs (rest := [.int r]) rfl (Nat.le_of_ble_eq_true rfl) dL_law_387 (fun r' u' h' => ?_)
  obtain ⟨hr', hJ'⟩ := h'
  exact kj_icmp_eq C 1231 dL_law_390 (by decide) (fun _ => K u' hJ') (fun hne => absurd (hr.trans hr'.symm) hne)
theorem law_c5 {p : Program} {l : Launch} {e : Env} {s : State} {m : MethodId} {args : Array Value} {below : List Frame} {meth : Method} {c : Code} {A : Nat → Prop} {Q : State → Prop} {D : va_G} {ca ss ad : Nat → Nat} {cells slots : Nat} {b L : Nat} {xs : Nat → Int32} {f : Nat → va_E} {i : Nat} (C : kX p s m args meth c A D ca ss 4 "StarTrackerLaw" cL_law ret) (hX : va_X b L xs s s.heap) (hbl : b < s.heap.size) (hbA : ¬ A b) (hL : L ≤ 3584) (hcs : cells ≤ room_1.cells ∧ slots ≤ room_1.slots) (hi : i + 6 < L) (hJ : JJ ca ad f) (K : ∀ u, JJ ca ad u → kJ p l e room_1 s m args below meth c A Q D 4 (gWn ad 108 u) cells slots (lwV i b ad) 1231 []) : kJ p l e room_1 s m args below meth c A Q D 4 (gWn ad 108 f) cells slots (lwV i b ad) 395 [] := by
  obtain ⟨v, P, hc, hm⟩ := p_set (l := l) (D := D) (ss := ss) (xs (i + 1)) (xs (i + 2)) f hJ
  obtain ⟨fs0, hf0⟩ := JJ_0 hJ
  refine kj_aload_n C 1 dL_law_395 rfl 2 rfl ?_
  refine law_arg C hX hbl hbA 1 (by omega) hL (by decide) dL_law_396 dL_law_397 dL_law_398 dL_law_399 dL_law_400 ?_
  refine law_arg C hX hbl hbA 2 (by omega) hL (by decide) dL_law_401 dL_law_402 dL_law_403 dL_law_404 dL_law_405 ?_
  refine kj_callVi C mi_X11_set w_474 0 (by decide) hf0 rfl hc mc_X11_set ⟨Nat.le_of_ble_eq_true rfl, Nat.le_of_ble_eq_true rfl⟩ hcs (rest := []) rfl (Nat.le_of_ble_eq_true rfl) dL_law_406 (fun r u h => ?_)
  obtain ⟨hr, hu⟩ := h
  obtain ⟨⟨fs1, hf87⟩, hmu⟩ := hm u hu
  refine kj_aload_n C 2 dL_law_409 rfl 1 rfl ?_
  refine law_arg C hX hbl hbA 1 (by omega) hL (by decide) dL_law_410 dL_law_411 dL_law_412 dL_law_413 dL_law_414 ?_
  refine law_arg C hX hbl hbA 2 (by omega) hL (by decide) dL_law_415 dL_law_416 dL_law_417 dL_law_418 dL_law_419 ?_
  refine kj_callVi C mi_X12_set w_1038 87 (by decide) hf87 rfl hmu mc_X12_set ⟨Nat.le_of_ble_eq_true rfl, Nat.le_of_ble_eq_true rfl⟩ hcs (rest := [.int r]) rfl (Nat.le_of_ble_eq_true rfl) dL_law_420 (fun r' u' h' => ?_)
  obtain ⟨hr', hJ'⟩ := h'
  exact kj_icmp_eq C 1231 dL_law_423 (by decide) (fun _ => K u' hJ') (fun hne => absurd (hr.trans hr'.symm) hne)
theorem law_c6 {p : Program} {l : Launch} {e : Env} {s : State} {m : MethodId} {args : Array Value} {below : List Frame} {meth : Method} {c : Code} {A : Nat → Prop} {Q : State → Prop} {D : va_G} {ca ss ad : Nat → Nat} {cells slots : Nat} {b L : Nat} {xs : Nat → Int32} {f : Nat → va_E} {i : Nat} (C : kX p s m args meth c A D ca ss 4 "StarTrackerLaw" cL_law ret) (hX : va_X b L xs s s.heap) (hbl : b < s.heap.size) (hbA : ¬ A b) (hL : L ≤ 3584) (hcs : cells ≤ room_1.cells ∧ slots ≤ room_1.slots) (hi : i + 6 < L) (hJ : JJ ca ad f) (K : ∀ u, JJ ca ad u → kJ p l e room_1 s m args below meth c A Q D 4 (gWn ad 108 u) cells slots (lwV i b ad) 1231 []) : kJ p l e room_1 s m args below meth c A Q D 4 (gWn ad 108 f) cells slots (lwV i b ad) 428 [] := by
  obtain ⟨v, P, hc, hm⟩ := p_side (l := l) (D := D) (ss := ss) (xs (i + 1)) (xs (i + 2)) (xs (i + 3)) f hJ
  obtain ⟨fs0, hf0⟩ := JJ_0 hJ
  refine kj_aload_n C 1 dL_law_428 rfl 2 rfl ?_
  refine law_arg C hX hbl hbA 1 (by omega) hL (by decide) dL_law_429 dL_law_430 dL_law_431 dL_law_432 dL_law_433 ?_
  refine law_arg C hX hbl hbA 2 (by omega) hL (by decide) dL_law_434 dL_law_435 dL_law_436 dL_law_437 dL_law_438 ?_
  refine law_arg C hX hbl hbA 3 (by omega) hL (by decide) dL_law_439 dL_law_440 dL_law_441 dL_law_442 dL_law_443 ?_
  refine kj_callVi C mi_X11_side w_482 0 (by decide) hf0 rfl hc mc_X11_side ⟨Nat.le_of_ble_eq_true rfl, Nat.le_of_ble_eq_true rfl⟩ hcs (rest := []) rfl (Nat.le_of_ble_eq_true rfl) dL_law_444 (fun r u h => ?_)
  obtain ⟨hr, hu⟩ := h
  obtain ⟨⟨fs1, hf87⟩, hmu⟩ := hm u hu
  refine kj_aload_n C 2 dL_law_447 rfl 1 rfl ?_
  refine law_arg C hX hbl hbA 1 (by omega) hL (by decide) dL_law_448 dL_law_449 dL_law_450 dL_law_451 dL_law_452 ?_
  refine law_arg C hX hbl hbA 2 (by omega) hL (by decide) dL_law_453 dL_law_454 dL_law_455 dL_law_456 dL_law_457 ?_
  refine law_arg C hX hbl hbA 3 (by omega) hL (by decide) dL_law_458 dL_law_459 dL_law_460 dL_law_461 dL_law_462 ?_
  refine kj_callVi C mi_X12_side w_1045 87 (by decide) hf87 rfl hmu mc_X12_side ⟨Nat.le_of_ble_eq_true rfl, Nat.le_of_ble_eq_true rfl⟩ hcs (rest := [.int r]) rfl (Nat.le_of_ble_eq_true rfl) dL_law_463 (fun r' u' h' => ?_)
  obtain ⟨hr', hJ'⟩ := h'
  exact kj_icmp_eq C 1231 dL_law_466 (by decide) (fun _ => K u' hJ') (fun hne => absurd (hr.trans hr'.symm) hne)
theorem law_c7 {p : Program} {l : Launch} {e : Env} {s : State} {m : MethodId} {args : Array Value} {below : List Frame} {meth : Method} {c : Code} {A : Nat → Prop} {Q : State → Prop} {D : va_G} {ca ss ad : Nat → Nat} {cells slots : Nat} {b L : Nat} {xs : Nat → Int32} {f : Nat → va_E} {i : Nat} (C : kX p s m args meth c A D ca ss 4 "StarTrackerLaw" cL_law ret) (hX : va_X b L xs s s.heap) (hbl : b < s.heap.size) (hbA : ¬ A b) (hL : L ≤ 3584) (hcs : cells ≤ room_1.cells ∧ slots ≤ room_1.slots) (hi : i + 6 < L) (hJ : JJ ca ad f) (K : ∀ u, JJ ca ad u → kJ p l e room_1 s m args below meth c A Q D 4 (gWn ad 108 u) cells slots (lwV i b ad) 1231 []) : kJ p l e room_1 s m args below meth c A Q D 4 (gWn ad 108 f) cells slots (lwV i b ad) 471 [] := by
  obtain ⟨v, P, hc, hm⟩ := p_key (l := l) (D := D) (ss := ss) (xs (i + 1)) (xs (i + 2)) (xs (i + 3)) (xs (i + 4)) (xs (i + 5)) f hJ
  obtain ⟨fs0, hf0⟩ := JJ_0 hJ
  refine kj_aload_n C 1 dL_law_471 rfl 2 rfl ?_
  refine law_arg C hX hbl hbA 1 (by omega) hL (by decide) dL_law_472 dL_law_473 dL_law_474 dL_law_475 dL_law_476 ?_
  refine law_arg C hX hbl hbA 2 (by omega) hL (by decide) dL_law_477 dL_law_478 dL_law_479 dL_law_480 dL_law_481 ?_
  refine law_arg C hX hbl hbA 3 (by omega) hL (by decide) dL_law_482 dL_law_483 dL_law_484 dL_law_485 dL_law_486 ?_
  refine law_arg C hX hbl hbA 4 (by omega) hL (by decide) dL_law_487 dL_law_488 dL_law_489 dL_law_490 dL_law_491 ?_
  refine law_arg C hX hbl hbA 5 (by omega) hL (by decide) dL_law_492 dL_law_493 dL_law_494 dL_law_495 dL_law_496 ?_
  refine kj_callVi C mi_X11_key w_491 0 (by decide) hf0 rfl hc mc_X11_key ⟨Nat.le_of_ble_eq_true rfl, Nat.le_of_ble_eq_true rfl⟩ hcs (rest := []) rfl (Nat.le_of_ble_eq_true rfl) dL_law_497 (fun r u h => ?_)
  obtain ⟨hr, hu⟩ := h
  obtain ⟨⟨fs1, hf87⟩, hmu⟩ := hm u hu
  refine kj_aload_n C 2 dL_law_500 rfl 1 rfl ?_
  refine law_arg C hX hbl hbA 1 (by omega) hL (by decide) dL_law_501 dL_law_502 dL_law_503 dL_law_504 dL_law_505 ?_
  refine law_arg C hX hbl hbA 2 (by omega) hL (by decide) dL_law_506 dL_law_507 dL_law_508 dL_law_509 dL_law_510 ?_
  refine law_arg C hX hbl hbA 3 (by omega) hL (by decide) dL_law_511 dL_law_512 dL_law_513 dL_law_514 dL_law_515 ?_
  refine law_arg C hX hbl hbA 4 (by omega) hL (by decide) dL_law_516 dL_law_517 dL_law_518 dL_law_519 dL_law_520 ?_
  refine law_arg C hX hbl hbA 5 (by omega) hL (by decide) dL_law_521 dL_law_522 dL_law_523 dL_law_524 dL_law_525 ?_
  refine kj_callVi C mi_X12_key w_1053 87 (by decide) hf87 rfl hmu mc_X12_key ⟨Nat.le_of_ble_eq_true rfl, Nat.le_of_ble_eq_true rfl⟩ hcs (rest := [.int r]) rfl (Nat.le_of_ble_eq_true rfl) dL_law_526 (fun r' u' h' => ?_)
  obtain ⟨hr', hJ'⟩ := h'
  exact kj_icmp_eq C 1231 dL_law_529 (by decide) (fun _ => K u' hJ') (fun hne => absurd (hr.trans hr'.symm) hne)
theorem law_c8 {p : Program} {l : Launch} {e : Env} {s : State} {m : MethodId} {args : Array Value} {below : List Frame} {meth : Method} {c : Code} {A : Nat → Prop} {Q : State → Prop} {D : va_G} {ca ss ad : Nat → Nat} {cells slots : Nat} {b L : Nat} {xs : Nat → Int32} {f : Nat → va_E} {i : Nat} (C : kX p s m args meth c A D ca ss 4 "StarTrackerLaw" cL_law ret) (hX : va_X b L xs s s.heap) (hbl : b < s.heap.size) (hbA : ¬ A b) (hL : L ≤ 3584) (hcs : cells ≤ room_1.cells ∧ slots ≤ room_1.slots) (hi : i + 6 < L) (hJ : JJ ca ad f) (K : ∀ u, JJ ca ad u → kJ p l e room_1 s m args below meth c A Q D 4 (gWn ad 108 u) cells slots (lwV i b ad) 1231 []) : kJ p l e room_1 s m args below meth c A Q D 4 (gWn ad 108 f) cells slots (lwV i b ad) 534 [] := by
  obtain ⟨v, P, hc, hm⟩ := p_looks (l := l) (D := D) (ss := ss) (xs (i + 1)) f hJ
  obtain ⟨fs0, hf0⟩ := JJ_0 hJ
  refine kj_aload_n C 1 dL_law_534 rfl 2 rfl ?_
  refine law_arg C hX hbl hbA 1 (by omega) hL (by decide) dL_law_535 dL_law_536 dL_law_537 dL_law_538 dL_law_539 ?_
  refine kj_callVi C mi_X11_looks w_500 0 (by decide) hf0 rfl hc mc_X11_looks ⟨Nat.le_of_ble_eq_true rfl, Nat.le_of_ble_eq_true rfl⟩ hcs (rest := []) rfl (Nat.le_of_ble_eq_true rfl) dL_law_540 (fun r u h => ?_)
  obtain ⟨hr, hu⟩ := h
  obtain ⟨⟨fs1, hf87⟩, hmu⟩ := hm u hu
  refine kj_aload_n C 2 dL_law_543 rfl 1 rfl ?_
  refine law_arg C hX hbl hbA 1 (by omega) hL (by decide) dL_law_544 dL_law_545 dL_law_546 dL_law_547 dL_law_548 ?_
  refine kj_callVi C mi_X12_looks w_1065 87 (by decide) hf87 rfl hmu mc_X12_looks ⟨Nat.le_of_ble_eq_true rfl, Nat.le_of_ble_eq_true rfl⟩ hcs (rest := [.int r]) rfl (Nat.le_of_ble_eq_true rfl) dL_law_549 (fun r' u' h' => ?_)
  obtain ⟨hr', hJ'⟩ := h'
  exact kj_icmp_eq C 1231 dL_law_552 (by decide) (fun _ => K u' hJ') (fun hne => absurd (hr.trans hr'.symm) hne)
theorem law_c9 {p : Program} {l : Launch} {e : Env} {s : State} {m : MethodId} {args : Array Value} {below : List Frame} {meth : Method} {c : Code} {A : Nat → Prop} {Q : State → Prop} {D : va_G} {ca ss ad : Nat → Nat} {cells slots : Nat} {b L : Nat} {xs : Nat → Int32} {f : Nat → va_E} {i : Nat} (C : kX p s m args meth c A D ca ss 4 "StarTrackerLaw" cL_law ret) (hX : va_X b L xs s s.heap) (hbl : b < s.heap.size) (hbA : ¬ A b) (hL : L ≤ 3584) (hcs : cells ≤ room_1.cells ∧ slots ≤ room_1.slots) (hi : i + 6 < L) (hJ : JJ ca ad f) (K : ∀ u, JJ ca ad u → kJ p l e room_1 s m args below meth c A Q D 4 (gWn ad 108 u) cells slots (lwV i b ad) 1231 []) : kJ p l e room_1 s m args below meth c A Q D 4 (gWn ad 108 f) cells slots (lwV i b ad) 557 [] := by
  obtain ⟨v, P, hc, hm⟩ := p_votes (l := l) (D := D) (ss := ss) (xs (i + 1)) (xs (i + 2)) f hJ
  obtain ⟨fs0, hf0⟩ := JJ_0 hJ
  refine kj_aload_n C 1 dL_law_557 rfl 2 rfl ?_
  refine law_arg C hX hbl hbA 1 (by omega) hL (by decide) dL_law_558 dL_law_559 dL_law_560 dL_law_561 dL_law_562 ?_
  refine law_arg C hX hbl hbA 2 (by omega) hL (by decide) dL_law_563 dL_law_564 dL_law_565 dL_law_566 dL_law_567 ?_
  refine kj_callVi C mi_X11_votes w_642 0 (by decide) hf0 rfl hc mc_X11_votes ⟨Nat.le_of_ble_eq_true rfl, Nat.le_of_ble_eq_true rfl⟩ hcs (rest := []) rfl (Nat.le_of_ble_eq_true rfl) dL_law_568 (fun r u h => ?_)
  obtain ⟨hr, hu⟩ := h
  obtain ⟨⟨fs1, hf87⟩, hmu⟩ := hm u hu
  refine kj_aload_n C 2 dL_law_571 rfl 1 rfl ?_
  refine law_arg C hX hbl hbA 1 (by omega) hL (by decide) dL_law_572 dL_law_573 dL_law_574 dL_law_575 dL_law_576 ?_
  refine law_arg C hX hbl hbA 2 (by omega) hL (by decide) dL_law_577 dL_law_578 dL_law_579 dL_law_580 dL_law_581 ?_
  refine kj_callVi C mi_X12_votes w_1140 87 (by decide) hf87 rfl hmu mc_X12_votes ⟨Nat.le_of_ble_eq_true rfl, Nat.le_of_ble_eq_true rfl⟩ hcs (rest := [.int r]) rfl (Nat.le_of_ble_eq_true rfl) dL_law_582 (fun r' u' h' => ?_)
  obtain ⟨hr', hJ'⟩ := h'
  exact kj_icmp_eq C 1231 dL_law_585 (by decide) (fun _ => K u' hJ') (fun hne => absurd (hr.trans hr'.symm) hne)
theorem law_c10 {p : Program} {l : Launch} {e : Env} {s : State} {m : MethodId} {args : Array Value} {below : List Frame} {meth : Method} {c : Code} {A : Nat → Prop} {Q : State → Prop} {D : va_G} {ca ss ad : Nat → Nat} {cells slots : Nat} {b L : Nat} {xs : Nat → Int32} {f : Nat → va_E} {i : Nat} (C : kX p s m args meth c A D ca ss 4 "StarTrackerLaw" cL_law ret) (hX : va_X b L xs s s.heap) (hbl : b < s.heap.size) (hbA : ¬ A b) (hL : L ≤ 3584) (hcs : cells ≤ room_1.cells ∧ slots ≤ room_1.slots) (hi : i + 6 < L) (hJ : JJ ca ad f) (K : ∀ u, JJ ca ad u → kJ p l e room_1 s m args below meth c A Q D 4 (gWn ad 108 u) cells slots (lwV i b ad) 1231 []) : kJ p l e room_1 s m args below meth c A Q D 4 (gWn ad 108 f) cells slots (lwV i b ad) 590 [] := by
  obtain ⟨v, P, hc, hm⟩ := p_taken (l := l) (D := D) (ss := ss) (xs (i + 1)) (xs (i + 2)) f hJ
  obtain ⟨fs0, hf0⟩ := JJ_0 hJ
  refine kj_aload_n C 1 dL_law_590 rfl 2 rfl ?_
  refine law_arg C hX hbl hbA 1 (by omega) hL (by decide) dL_law_591 dL_law_592 dL_law_593 dL_law_594 dL_law_595 ?_
  refine law_arg C hX hbl hbA 2 (by omega) hL (by decide) dL_law_596 dL_law_597 dL_law_598 dL_law_599 dL_law_600 ?_
  refine kj_callVi C mi_X11_taken w_647 0 (by decide) hf0 rfl hc mc_X11_taken ⟨Nat.le_of_ble_eq_true rfl, Nat.le_of_ble_eq_true rfl⟩ hcs (rest := []) rfl (Nat.le_of_ble_eq_true rfl) dL_law_601 (fun r u h => ?_)
  obtain ⟨hr, hu⟩ := h
  obtain ⟨⟨fs1, hf87⟩, hmu⟩ := hm u hu
  refine kj_aload_n C 2 dL_law_604 rfl 1 rfl ?_
  refine law_arg C hX hbl hbA 1 (by omega) hL (by decide) dL_law_605 dL_law_606 dL_law_607 dL_law_608 dL_law_609 ?_
  refine law_arg C hX hbl hbA 2 (by omega) hL (by decide) dL_law_610 dL_law_611 dL_law_612 dL_law_613 dL_law_614 ?_
  refine kj_callVi C mi_X12_taken w_1144 87 (by decide) hf87 rfl hmu mc_X12_taken ⟨Nat.le_of_ble_eq_true rfl, Nat.le_of_ble_eq_true rfl⟩ hcs (rest := [.int r]) rfl (Nat.le_of_ble_eq_true rfl) dL_law_615 (fun r' u' h' => ?_)
  obtain ⟨hr', hJ'⟩ := h'
  exact kj_icmp_eq C 1231 dL_law_618 (by decide) (fun _ => K u' hJ') (fun hne => absurd (hr.trans hr'.symm) hne)
theorem law_c11 {p : Program} {l : Launch} {e : Env} {s : State} {m : MethodId} {args : Array Value} {below : List Frame} {meth : Method} {c : Code} {A : Nat → Prop} {Q : State → Prop} {D : va_G} {ca ss ad : Nat → Nat} {cells slots : Nat} {b L : Nat} {xs : Nat → Int32} {f : Nat → va_E} {i : Nat} (C : kX p s m args meth c A D ca ss 4 "StarTrackerLaw" cL_law ret) (hX : va_X b L xs s s.heap) (hbl : b < s.heap.size) (hbA : ¬ A b) (hL : L ≤ 3584) (hcs : cells ≤ room_1.cells ∧ slots ≤ room_1.slots) (hi : i + 6 < L) (hJ : JJ ca ad f) (K : ∀ u, JJ ca ad u → kJ p l e room_1 s m args below meth c A Q D 4 (gWn ad 108 u) cells slots (lwV i b ad) 1231 []) : kJ p l e room_1 s m args below meth c A Q D 4 (gWn ad 108 f) cells slots (lwV i b ad) 623 [] := by
  obtain ⟨v, P, hc, hm⟩ := p_turn (l := l) (D := D) (ss := ss)  f hJ
  obtain ⟨fs0, hf0⟩ := JJ_0 hJ
  refine kj_aload_n C 1 dL_law_623 rfl 2 rfl ?_
  refine kj_callVi C mi_X11_turn w_651 0 (by decide) hf0 rfl hc mc_X11_turn ⟨Nat.le_of_ble_eq_true rfl, Nat.le_of_ble_eq_true rfl⟩ hcs (rest := []) rfl (Nat.le_of_ble_eq_true rfl) dL_law_624 (fun r u h => ?_)
  obtain ⟨hr, hu⟩ := h
  obtain ⟨⟨fs1, hf87⟩, hmu⟩ := hm u hu
  refine kj_aload_n C 2 dL_law_627 rfl 1 rfl ?_
  refine kj_callVi C mi_X12_turn w_1152 87 (by decide) hf87 rfl hmu mc_X12_turn ⟨Nat.le_of_ble_eq_true rfl, Nat.le_of_ble_eq_true rfl⟩ hcs (rest := [.int r]) rfl (Nat.le_of_ble_eq_true rfl) dL_law_628 (fun r' u' h' => ?_)
  obtain ⟨hr', hJ'⟩ := h'
  exact kj_icmp_eq C 1231 dL_law_631 (by decide) (fun _ => K u' hJ') (fun hne => absurd (hr.trans hr'.symm) hne)
theorem law_c12 {p : Program} {l : Launch} {e : Env} {s : State} {m : MethodId} {args : Array Value} {below : List Frame} {meth : Method} {c : Code} {A : Nat → Prop} {Q : State → Prop} {D : va_G} {ca ss ad : Nat → Nat} {cells slots : Nat} {b L : Nat} {xs : Nat → Int32} {f : Nat → va_E} {i : Nat} (C : kX p s m args meth c A D ca ss 4 "StarTrackerLaw" cL_law ret) (hX : va_X b L xs s s.heap) (hbl : b < s.heap.size) (hbA : ¬ A b) (hL : L ≤ 3584) (hcs : cells ≤ room_1.cells ∧ slots ≤ room_1.slots) (hi : i + 6 < L) (hJ : JJ ca ad f) (K : ∀ u, JJ ca ad u → kJ p l e room_1 s m args below meth c A Q D 4 (gWn ad 108 u) cells slots (lwV i b ad) 1231 []) : kJ p l e room_1 s m args below meth c A Q D 4 (gWn ad 108 f) cells slots (lwV i b ad) 636 [] := by
  obtain ⟨v, P, hc, hm⟩ := p_place (l := l) (D := D) (ss := ss) (xs (i + 1)) (xs (i + 2)) f hJ
  obtain ⟨fs0, hf0⟩ := JJ_0 hJ
  refine kj_aload_n C 1 dL_law_636 rfl 2 rfl ?_
  refine law_arg C hX hbl hbA 1 (by omega) hL (by decide) dL_law_637 dL_law_638 dL_law_639 dL_law_640 dL_law_641 ?_
  refine law_arg C hX hbl hbA 2 (by omega) hL (by decide) dL_law_642 dL_law_643 dL_law_644 dL_law_645 dL_law_646 ?_
  refine kj_callVi C mi_X11_place w_655 0 (by decide) hf0 rfl hc mc_X11_place ⟨Nat.le_of_ble_eq_true rfl, Nat.le_of_ble_eq_true rfl⟩ hcs (rest := []) rfl (Nat.le_of_ble_eq_true rfl) dL_law_647 (fun r u h => ?_)
  obtain ⟨hr, hu⟩ := h
  obtain ⟨⟨fs1, hf87⟩, hmu⟩ := hm u hu
  refine kj_aload_n C 2 dL_law_650 rfl 1 rfl ?_
  refine law_arg C hX hbl hbA 1 (by omega) hL (by decide) dL_law_651 dL_law_652 dL_law_653 dL_law_654 dL_law_655 ?_
  refine law_arg C hX hbl hbA 2 (by omega) hL (by decide) dL_law_656 dL_law_657 dL_law_658 dL_law_659 dL_law_660 ?_
  refine kj_callVi C mi_X12_place w_1156 87 (by decide) hf87 rfl hmu mc_X12_place ⟨Nat.le_of_ble_eq_true rfl, Nat.le_of_ble_eq_true rfl⟩ hcs (rest := [.int r]) rfl (Nat.le_of_ble_eq_true rfl) dL_law_661 (fun r' u' h' => ?_)
  obtain ⟨hr', hJ'⟩ := h'
  exact kj_icmp_eq C 1231 dL_law_664 (by decide) (fun _ => K u' hJ') (fun hne => absurd (hr.trans hr'.symm) hne)
theorem law_c13 {p : Program} {l : Launch} {e : Env} {s : State} {m : MethodId} {args : Array Value} {below : List Frame} {meth : Method} {c : Code} {A : Nat → Prop} {Q : State → Prop} {D : va_G} {ca ss ad : Nat → Nat} {cells slots : Nat} {b L : Nat} {xs : Nat → Int32} {f : Nat → va_E} {i : Nat} (C : kX p s m args meth c A D ca ss 4 "StarTrackerLaw" cL_law ret) (hX : va_X b L xs s s.heap) (hbl : b < s.heap.size) (hbA : ¬ A b) (hL : L ≤ 3584) (hcs : cells ≤ room_1.cells ∧ slots ≤ room_1.slots) (hi : i + 6 < L) (hJ : JJ ca ad f) (K : ∀ u, JJ ca ad u → kJ p l e room_1 s m args below meth c A Q D 4 (gWn ad 108 u) cells slots (lwV i b ad) 1231 []) : kJ p l e room_1 s m args below meth c A Q D 4 (gWn ad 108 f) cells slots (lwV i b ad) 669 [] := by
  obtain ⟨v, P, hc, hm⟩ := p_confirmed (l := l) (D := D) (ss := ss) (xs (i + 1)) (xs (i + 2)) f hJ
  obtain ⟨fs0, hf0⟩ := JJ_0 hJ
  refine kj_aload_n C 1 dL_law_669 rfl 2 rfl ?_
  refine law_arg C hX hbl hbA 1 (by omega) hL (by decide) dL_law_670 dL_law_671 dL_law_672 dL_law_673 dL_law_674 ?_
  refine law_arg C hX hbl hbA 2 (by omega) hL (by decide) dL_law_675 dL_law_676 dL_law_677 dL_law_678 dL_law_679 ?_
  refine kj_callVi C mi_X11_confirmed w_659 0 (by decide) hf0 rfl hc mc_X11_confirmed ⟨Nat.le_of_ble_eq_true rfl, Nat.le_of_ble_eq_true rfl⟩ hcs (rest := []) rfl (Nat.le_of_ble_eq_true rfl) dL_law_680 (fun r u h => ?_)
  obtain ⟨hr, hu⟩ := h
  obtain ⟨⟨fs1, hf87⟩, hmu⟩ := hm u hu
  refine kj_aload_n C 2 dL_law_683 rfl 1 rfl ?_
  refine law_arg C hX hbl hbA 1 (by omega) hL (by decide) dL_law_684 dL_law_685 dL_law_686 dL_law_687 dL_law_688 ?_
  refine law_arg C hX hbl hbA 2 (by omega) hL (by decide) dL_law_689 dL_law_690 dL_law_691 dL_law_692 dL_law_693 ?_
  refine kj_callVi C mi_X12_confirmed w_1164 87 (by decide) hf87 rfl hmu mc_X12_confirmed ⟨Nat.le_of_ble_eq_true rfl, Nat.le_of_ble_eq_true rfl⟩ hcs (rest := [.int r]) rfl (Nat.le_of_ble_eq_true rfl) dL_law_694 (fun r' u' h' => ?_)
  obtain ⟨hr', hJ'⟩ := h'
  exact kj_icmp_eq C 1231 dL_law_697 (by decide) (fun _ => K u' hJ') (fun hne => absurd (hr.trans hr'.symm) hne)
theorem law_c14 {p : Program} {l : Launch} {e : Env} {s : State} {m : MethodId} {args : Array Value} {below : List Frame} {meth : Method} {c : Code} {A : Nat → Prop} {Q : State → Prop} {D : va_G} {ca ss ad : Nat → Nat} {cells slots : Nat} {b L : Nat} {xs : Nat → Int32} {f : Nat → va_E} {i : Nat} (C : kX p s m args meth c A D ca ss 4 "StarTrackerLaw" cL_law ret) (hX : va_X b L xs s s.heap) (hbl : b < s.heap.size) (hbA : ¬ A b) (hL : L ≤ 3584) (hcs : cells ≤ room_1.cells ∧ slots ≤ room_1.slots) (hi : i + 6 < L) (hJ : JJ ca ad f) (K : ∀ u, JJ ca ad u → kJ p l e room_1 s m args below meth c A Q D 4 (gWn ad 108 u) cells slots (lwV i b ad) 1231 []) : kJ p l e room_1 s m args below meth c A Q D 4 (gWn ad 108 f) cells slots (lwV i b ad) 702 [] := by
  obtain ⟨v, P, hc, hm⟩ := p_wrong (l := l) (D := D) (ss := ss)  f hJ
  obtain ⟨fs0, hf0⟩ := JJ_0 hJ
  refine kj_aload_n C 1 dL_law_702 rfl 2 rfl ?_
  refine kj_callVi C mi_X11_wrong w_663 0 (by decide) hf0 rfl hc mc_X11_wrong ⟨Nat.le_of_ble_eq_true rfl, Nat.le_of_ble_eq_true rfl⟩ hcs (rest := []) rfl (Nat.le_of_ble_eq_true rfl) dL_law_703 (fun r u h => ?_)
  obtain ⟨hr, hu⟩ := h
  obtain ⟨⟨fs1, hf87⟩, hmu⟩ := hm u hu
  refine kj_aload_n C 2 dL_law_706 rfl 1 rfl ?_
  refine kj_callVi C mi_X12_wrong w_1172 87 (by decide) hf87 rfl hmu mc_X12_wrong ⟨Nat.le_of_ble_eq_true rfl, Nat.le_of_ble_eq_true rfl⟩ hcs (rest := [.int r]) rfl (Nat.le_of_ble_eq_true rfl) dL_law_707 (fun r' u' h' => ?_)
  obtain ⟨hr', hJ'⟩ := h'
  exact kj_icmp_eq C 1231 dL_law_710 (by decide) (fun _ => K u' hJ') (fun hne => absurd (hr.trans hr'.symm) hne)
theorem law_c15 {p : Program} {l : Launch} {e : Env} {s : State} {m : MethodId} {args : Array Value} {below : List Frame} {meth : Method} {c : Code} {A : Nat → Prop} {Q : State → Prop} {D : va_G} {ca ss ad : Nat → Nat} {cells slots : Nat} {b L : Nat} {xs : Nat → Int32} {f : Nat → va_E} {i : Nat} (C : kX p s m args meth c A D ca ss 4 "StarTrackerLaw" cL_law ret) (hX : va_X b L xs s s.heap) (hbl : b < s.heap.size) (hbA : ¬ A b) (hL : L ≤ 3584) (hcs : cells ≤ room_1.cells ∧ slots ≤ room_1.slots) (hi : i + 6 < L) (hJ : JJ ca ad f) (K : ∀ u, JJ ca ad u → kJ p l e room_1 s m args below meth c A Q D 4 (gWn ad 108 u) cells slots (lwV i b ad) 1231 []) : kJ p l e room_1 s m args below meth c A Q D 4 (gWn ad 108 f) cells slots (lwV i b ad) 715 [] := by
  obtain ⟨v, P, hc, hm⟩ := p_better (l := l) (D := D) (ss := ss) (xs (i + 1)) f hJ
  obtain ⟨fs0, hf0⟩ := JJ_0 hJ
  refine kj_aload_n C 1 dL_law_715 rfl 2 rfl ?_
  refine law_arg C hX hbl hbA 1 (by omega) hL (by decide) dL_law_716 dL_law_717 dL_law_718 dL_law_719 dL_law_720 ?_
  refine kj_callVi C mi_X11_better w_671 0 (by decide) hf0 rfl hc mc_X11_better ⟨Nat.le_of_ble_eq_true rfl, Nat.le_of_ble_eq_true rfl⟩ hcs (rest := []) rfl (Nat.le_of_ble_eq_true rfl) dL_law_721 (fun r u h => ?_)
  obtain ⟨hr, hu⟩ := h
  obtain ⟨⟨fs1, hf87⟩, hmu⟩ := hm u hu
  refine kj_aload_n C 2 dL_law_724 rfl 1 rfl ?_
  refine law_arg C hX hbl hbA 1 (by omega) hL (by decide) dL_law_725 dL_law_726 dL_law_727 dL_law_728 dL_law_729 ?_
  refine kj_callVi C mi_X12_better w_1180 87 (by decide) hf87 rfl hmu mc_X12_better ⟨Nat.le_of_ble_eq_true rfl, Nat.le_of_ble_eq_true rfl⟩ hcs (rest := [.int r]) rfl (Nat.le_of_ble_eq_true rfl) dL_law_730 (fun r' u' h' => ?_)
  obtain ⟨hr', hJ'⟩ := h'
  exact kj_icmp_eq C 1231 dL_law_733 (by decide) (fun _ => K u' hJ') (fun hne => absurd (hr.trans hr'.symm) hne)
theorem law_c16 {p : Program} {l : Launch} {e : Env} {s : State} {m : MethodId} {args : Array Value} {below : List Frame} {meth : Method} {c : Code} {A : Nat → Prop} {Q : State → Prop} {D : va_G} {ca ss ad : Nat → Nat} {cells slots : Nat} {b L : Nat} {xs : Nat → Int32} {f : Nat → va_E} {i : Nat} (C : kX p s m args meth c A D ca ss 4 "StarTrackerLaw" cL_law ret) (hX : va_X b L xs s s.heap) (hbl : b < s.heap.size) (hbA : ¬ A b) (hL : L ≤ 3584) (hcs : cells ≤ room_1.cells ∧ slots ≤ room_1.slots) (hi : i + 6 < L) (hJ : JJ ca ad f) (K : ∀ u, JJ ca ad u → kJ p l e room_1 s m args below meth c A Q D 4 (gWn ad 108 u) cells slots (lwV i b ad) 1231 []) : kJ p l e room_1 s m args below meth c A Q D 4 (gWn ad 108 f) cells slots (lwV i b ad) 738 [] := by
  obtain ⟨v, P, hc, hm⟩ := p_spare (l := l) (D := D) (ss := ss) (xs (i + 1)) f hJ
  obtain ⟨fs0, hf0⟩ := JJ_0 hJ
  refine kj_aload_n C 1 dL_law_738 rfl 2 rfl ?_
  refine law_arg C hX hbl hbA 1 (by omega) hL (by decide) dL_law_739 dL_law_740 dL_law_741 dL_law_742 dL_law_743 ?_
  refine kj_callVi C mi_X11_spare w_688 0 (by decide) hf0 rfl hc mc_X11_spare ⟨Nat.le_of_ble_eq_true rfl, Nat.le_of_ble_eq_true rfl⟩ hcs (rest := []) rfl (Nat.le_of_ble_eq_true rfl) dL_law_744 (fun r u h => ?_)
  obtain ⟨hr, hu⟩ := h
  obtain ⟨⟨fs1, hf87⟩, hmu⟩ := hm u hu
  refine kj_aload_n C 2 dL_law_747 rfl 1 rfl ?_
  refine law_arg C hX hbl hbA 1 (by omega) hL (by decide) dL_law_748 dL_law_749 dL_law_750 dL_law_751 dL_law_752 ?_
  refine kj_callVi C mi_X12_spare w_1188 87 (by decide) hf87 rfl hmu mc_X12_spare ⟨Nat.le_of_ble_eq_true rfl, Nat.le_of_ble_eq_true rfl⟩ hcs (rest := [.int r]) rfl (Nat.le_of_ble_eq_true rfl) dL_law_753 (fun r' u' h' => ?_)
  obtain ⟨hr', hJ'⟩ := h'
  exact kj_icmp_eq C 1231 dL_law_756 (by decide) (fun _ => K u' hJ') (fun hne => absurd (hr.trans hr'.symm) hne)
theorem law_c17 {p : Program} {l : Launch} {e : Env} {s : State} {m : MethodId} {args : Array Value} {below : List Frame} {meth : Method} {c : Code} {A : Nat → Prop} {Q : State → Prop} {D : va_G} {ca ss ad : Nat → Nat} {cells slots : Nat} {b L : Nat} {xs : Nat → Int32} {f : Nat → va_E} {i : Nat} (C : kX p s m args meth c A D ca ss 4 "StarTrackerLaw" cL_law ret) (hX : va_X b L xs s s.heap) (hbl : b < s.heap.size) (hbA : ¬ A b) (hL : L ≤ 3584) (hcs : cells ≤ room_1.cells ∧ slots ≤ room_1.slots) (hi : i + 6 < L) (hJ : JJ ca ad f) (K : ∀ u, JJ ca ad u → kJ p l e room_1 s m args below meth c A Q D 4 (gWn ad 108 u) cells slots (lwV i b ad) 1231 []) : kJ p l e room_1 s m args below meth c A Q D 4 (gWn ad 108 f) cells slots (lwV i b ad) 761 [] := by
  obtain ⟨v, P, hc, hm⟩ := p_put (l := l) (D := D) (ss := ss) (xs (i + 1)) (xs (i + 2)) (xs (i + 3)) f hJ
  obtain ⟨fs0, hf0⟩ := JJ_0 hJ
  refine kj_aload_n C 1 dL_law_761 rfl 2 rfl ?_
  refine law_arg C hX hbl hbA 1 (by omega) hL (by decide) dL_law_762 dL_law_763 dL_law_764 dL_law_765 dL_law_766 ?_
  refine law_arg C hX hbl hbA 2 (by omega) hL (by decide) dL_law_767 dL_law_768 dL_law_769 dL_law_770 dL_law_771 ?_
  refine law_arg C hX hbl hbA 3 (by omega) hL (by decide) dL_law_772 dL_law_773 dL_law_774 dL_law_775 dL_law_776 ?_
  refine kj_callVi C mi_X11_put w_702 0 (by decide) hf0 rfl hc mc_X11_put ⟨Nat.le_of_ble_eq_true rfl, Nat.le_of_ble_eq_true rfl⟩ hcs (rest := []) rfl (Nat.le_of_ble_eq_true rfl) dL_law_777 (fun r u h => ?_)
  obtain ⟨hr, hu⟩ := h
  obtain ⟨⟨fs1, hf87⟩, hmu⟩ := hm u hu
  refine kj_aload_n C 2 dL_law_780 rfl 1 rfl ?_
  refine law_arg C hX hbl hbA 1 (by omega) hL (by decide) dL_law_781 dL_law_782 dL_law_783 dL_law_784 dL_law_785 ?_
  refine law_arg C hX hbl hbA 2 (by omega) hL (by decide) dL_law_786 dL_law_787 dL_law_788 dL_law_789 dL_law_790 ?_
  refine law_arg C hX hbl hbA 3 (by omega) hL (by decide) dL_law_791 dL_law_792 dL_law_793 dL_law_794 dL_law_795 ?_
  refine kj_callVi C mi_X12_put w_1196 87 (by decide) hf87 rfl hmu mc_X12_put ⟨Nat.le_of_ble_eq_true rfl, Nat.le_of_ble_eq_true rfl⟩ hcs (rest := [.int r]) rfl (Nat.le_of_ble_eq_true rfl) dL_law_796 (fun r' u' h' => ?_)
  obtain ⟨hr', hJ'⟩ := h'
  exact kj_icmp_eq C 1231 dL_law_799 (by decide) (fun _ => K u' hJ') (fun hne => absurd (hr.trans hr'.symm) hne)
theorem law_c18 {p : Program} {l : Launch} {e : Env} {s : State} {m : MethodId} {args : Array Value} {below : List Frame} {meth : Method} {c : Code} {A : Nat → Prop} {Q : State → Prop} {D : va_G} {ca ss ad : Nat → Nat} {cells slots : Nat} {b L : Nat} {xs : Nat → Int32} {f : Nat → va_E} {i : Nat} (C : kX p s m args meth c A D ca ss 4 "StarTrackerLaw" cL_law ret) (hX : va_X b L xs s s.heap) (hbl : b < s.heap.size) (hbA : ¬ A b) (hL : L ≤ 3584) (hcs : cells ≤ room_1.cells ∧ slots ≤ room_1.slots) (hi : i + 6 < L) (hJ : JJ ca ad f) (K : ∀ u, JJ ca ad u → kJ p l e room_1 s m args below meth c A Q D 4 (gWn ad 108 u) cells slots (lwV i b ad) 1231 []) : kJ p l e room_1 s m args below meth c A Q D 4 (gWn ad 108 f) cells slots (lwV i b ad) 804 [] := by
  obtain ⟨v, P, hc, hm⟩ := p_fork (l := l) (D := D) (ss := ss) (xs (i + 1)) (xs (i + 2)) f hJ
  obtain ⟨fs0, hf0⟩ := JJ_0 hJ
  refine kj_aload_n C 1 dL_law_804 rfl 2 rfl ?_
  refine law_arg C hX hbl hbA 1 (by omega) hL (by decide) dL_law_805 dL_law_806 dL_law_807 dL_law_808 dL_law_809 ?_
  refine law_arg C hX hbl hbA 2 (by omega) hL (by decide) dL_law_810 dL_law_811 dL_law_812 dL_law_813 dL_law_814 ?_
  refine kj_callVi C mi_X11_fork w_717 0 (by decide) hf0 rfl hc mc_X11_fork ⟨Nat.le_of_ble_eq_true rfl, Nat.le_of_ble_eq_true rfl⟩ hcs (rest := []) rfl (Nat.le_of_ble_eq_true rfl) dL_law_815 (fun r u h => ?_)
  obtain ⟨hr, hu⟩ := h
  obtain ⟨⟨fs1, hf87⟩, hmu⟩ := hm u hu
  refine kj_aload_n C 2 dL_law_818 rfl 1 rfl ?_
  refine law_arg C hX hbl hbA 1 (by omega) hL (by decide) dL_law_819 dL_law_820 dL_law_821 dL_law_822 dL_law_823 ?_
  refine law_arg C hX hbl hbA 2 (by omega) hL (by decide) dL_law_824 dL_law_825 dL_law_826 dL_law_827 dL_law_828 ?_
  refine kj_callVi C mi_X12_fork w_1203 87 (by decide) hf87 rfl hmu mc_X12_fork ⟨Nat.le_of_ble_eq_true rfl, Nat.le_of_ble_eq_true rfl⟩ hcs (rest := [.int r]) rfl (Nat.le_of_ble_eq_true rfl) dL_law_829 (fun r' u' h' => ?_)
  obtain ⟨hr', hJ'⟩ := h'
  exact kj_icmp_eq C 1231 dL_law_832 (by decide) (fun _ => K u' hJ') (fun hne => absurd (hr.trans hr'.symm) hne)
theorem law_c19 {p : Program} {l : Launch} {e : Env} {s : State} {m : MethodId} {args : Array Value} {below : List Frame} {meth : Method} {c : Code} {A : Nat → Prop} {Q : State → Prop} {D : va_G} {ca ss ad : Nat → Nat} {cells slots : Nat} {b L : Nat} {xs : Nat → Int32} {f : Nat → va_E} {i : Nat} (C : kX p s m args meth c A D ca ss 4 "StarTrackerLaw" cL_law ret) (hX : va_X b L xs s s.heap) (hbl : b < s.heap.size) (hbA : ¬ A b) (hL : L ≤ 3584) (hcs : cells ≤ room_1.cells ∧ slots ≤ room_1.slots) (hi : i + 6 < L) (hJ : JJ ca ad f) (K : ∀ u, JJ ca ad u → kJ p l e room_1 s m args below meth c A Q D 4 (gWn ad 108 u) cells slots (lwV i b ad) 1231 []) : kJ p l e room_1 s m args below meth c A Q D 4 (gWn ad 108 f) cells slots (lwV i b ad) 837 [] := by
  obtain ⟨v, P, hc, hm⟩ := p_take (l := l) (D := D) (ss := ss) (xs (i + 1)) f hJ
  obtain ⟨fs0, hf0⟩ := JJ_0 hJ
  refine kj_aload_n C 1 dL_law_837 rfl 2 rfl ?_
  refine law_arg C hX hbl hbA 1 (by omega) hL (by decide) dL_law_838 dL_law_839 dL_law_840 dL_law_841 dL_law_842 ?_
  refine kj_callVi C mi_X11_take w_728 0 (by decide) hf0 rfl hc mc_X11_take ⟨Nat.le_of_ble_eq_true rfl, Nat.le_of_ble_eq_true rfl⟩ hcs (rest := []) rfl (Nat.le_of_ble_eq_true rfl) dL_law_843 (fun r u h => ?_)
  obtain ⟨hr, hu⟩ := h
  obtain ⟨⟨fs1, hf87⟩, hmu⟩ := hm u hu
  refine kj_aload_n C 2 dL_law_846 rfl 1 rfl ?_
  refine law_arg C hX hbl hbA 1 (by omega) hL (by decide) dL_law_847 dL_law_848 dL_law_849 dL_law_850 dL_law_851 ?_
  refine kj_callVi C mi_X12_take w_1207 87 (by decide) hf87 rfl hmu mc_X12_take ⟨Nat.le_of_ble_eq_true rfl, Nat.le_of_ble_eq_true rfl⟩ hcs (rest := [.int r]) rfl (Nat.le_of_ble_eq_true rfl) dL_law_852 (fun r' u' h' => ?_)
  obtain ⟨hr', hJ'⟩ := h'
  exact kj_icmp_eq C 1231 dL_law_855 (by decide) (fun _ => K u' hJ') (fun hne => absurd (hr.trans hr'.symm) hne)
theorem law_c20 {p : Program} {l : Launch} {e : Env} {s : State} {m : MethodId} {args : Array Value} {below : List Frame} {meth : Method} {c : Code} {A : Nat → Prop} {Q : State → Prop} {D : va_G} {ca ss ad : Nat → Nat} {cells slots : Nat} {b L : Nat} {xs : Nat → Int32} {f : Nat → va_E} {i : Nat} (C : kX p s m args meth c A D ca ss 4 "StarTrackerLaw" cL_law ret) (hX : va_X b L xs s s.heap) (hbl : b < s.heap.size) (hbA : ¬ A b) (hL : L ≤ 3584) (hcs : cells ≤ room_1.cells ∧ slots ≤ room_1.slots) (hi : i + 6 < L) (hJ : JJ ca ad f) (K : ∀ u, JJ ca ad u → kJ p l e room_1 s m args below meth c A Q D 4 (gWn ad 108 u) cells slots (lwV i b ad) 1231 []) : kJ p l e room_1 s m args below meth c A Q D 4 (gWn ad 108 f) cells slots (lwV i b ad) 860 [] := by
  obtain ⟨v, P, hc, hm⟩ := p_thing (l := l) (D := D) (ss := ss) (xs (i + 1)) (xs (i + 2)) (xs (i + 3)) f hJ
  obtain ⟨fs0, hf0⟩ := JJ_0 hJ
  refine kj_aload_n C 1 dL_law_860 rfl 2 rfl ?_
  refine law_arg C hX hbl hbA 1 (by omega) hL (by decide) dL_law_861 dL_law_862 dL_law_863 dL_law_864 dL_law_865 ?_
  refine law_arg C hX hbl hbA 2 (by omega) hL (by decide) dL_law_866 dL_law_867 dL_law_868 dL_law_869 dL_law_870 ?_
  refine law_arg C hX hbl hbA 3 (by omega) hL (by decide) dL_law_871 dL_law_872 dL_law_873 dL_law_874 dL_law_875 ?_
  refine kj_callVi C mi_X11_thing w_732 0 (by decide) hf0 rfl hc mc_X11_thing ⟨Nat.le_of_ble_eq_true rfl, Nat.le_of_ble_eq_true rfl⟩ hcs (rest := []) rfl (Nat.le_of_ble_eq_true rfl) dL_law_876 (fun r u h => ?_)
  obtain ⟨hr, hu⟩ := h
  obtain ⟨⟨fs1, hf87⟩, hmu⟩ := hm u hu
  refine kj_aload_n C 2 dL_law_879 rfl 1 rfl ?_
  refine law_arg C hX hbl hbA 1 (by omega) hL (by decide) dL_law_880 dL_law_881 dL_law_882 dL_law_883 dL_law_884 ?_
  refine law_arg C hX hbl hbA 2 (by omega) hL (by decide) dL_law_885 dL_law_886 dL_law_887 dL_law_888 dL_law_889 ?_
  refine law_arg C hX hbl hbA 3 (by omega) hL (by decide) dL_law_890 dL_law_891 dL_law_892 dL_law_893 dL_law_894 ?_
  refine kj_callVi C mi_X12_thing w_1211 87 (by decide) hf87 rfl hmu mc_X12_thing ⟨Nat.le_of_ble_eq_true rfl, Nat.le_of_ble_eq_true rfl⟩ hcs (rest := [.int r]) rfl (Nat.le_of_ble_eq_true rfl) dL_law_895 (fun r' u' h' => ?_)
  obtain ⟨hr', hJ'⟩ := h'
  exact kj_icmp_eq C 1231 dL_law_898 (by decide) (fun _ => K u' hJ') (fun hne => absurd (hr.trans hr'.symm) hne)
theorem law_c21 {p : Program} {l : Launch} {e : Env} {s : State} {m : MethodId} {args : Array Value} {below : List Frame} {meth : Method} {c : Code} {A : Nat → Prop} {Q : State → Prop} {D : va_G} {ca ss ad : Nat → Nat} {cells slots : Nat} {b L : Nat} {xs : Nat → Int32} {f : Nat → va_E} {i : Nat} (C : kX p s m args meth c A D ca ss 4 "StarTrackerLaw" cL_law ret) (hX : va_X b L xs s s.heap) (hbl : b < s.heap.size) (hbA : ¬ A b) (hL : L ≤ 3584) (hcs : cells ≤ room_1.cells ∧ slots ≤ room_1.slots) (hi : i + 6 < L) (hJ : JJ ca ad f) (K : ∀ u, JJ ca ad u → kJ p l e room_1 s m args below meth c A Q D 4 (gWn ad 108 u) cells slots (lwV i b ad) 1231 []) : kJ p l e room_1 s m args below meth c A Q D 4 (gWn ad 108 f) cells slots (lwV i b ad) 903 [] := by
  obtain ⟨v, P, hc, hm⟩ := p_share (l := l) (D := D) (ss := ss) (xs (i + 1)) (xs (i + 2)) (xs (i + 3)) f hJ
  obtain ⟨fs0, hf0⟩ := JJ_0 hJ
  refine kj_aload_n C 1 dL_law_903 rfl 2 rfl ?_
  refine law_arg C hX hbl hbA 1 (by omega) hL (by decide) dL_law_904 dL_law_905 dL_law_906 dL_law_907 dL_law_908 ?_
  refine law_arg C hX hbl hbA 2 (by omega) hL (by decide) dL_law_909 dL_law_910 dL_law_911 dL_law_912 dL_law_913 ?_
  refine law_arg C hX hbl hbA 3 (by omega) hL (by decide) dL_law_914 dL_law_915 dL_law_916 dL_law_917 dL_law_918 ?_
  refine kj_callVi C mi_X11_share w_746 0 (by decide) hf0 rfl hc mc_X11_share ⟨Nat.le_of_ble_eq_true rfl, Nat.le_of_ble_eq_true rfl⟩ hcs (rest := []) rfl (Nat.le_of_ble_eq_true rfl) dL_law_919 (fun r u h => ?_)
  obtain ⟨hr, hu⟩ := h
  obtain ⟨⟨fs1, hf87⟩, hmu⟩ := hm u hu
  refine kj_aload_n C 2 dL_law_922 rfl 1 rfl ?_
  refine law_arg C hX hbl hbA 1 (by omega) hL (by decide) dL_law_923 dL_law_924 dL_law_925 dL_law_926 dL_law_927 ?_
  refine law_arg C hX hbl hbA 2 (by omega) hL (by decide) dL_law_928 dL_law_929 dL_law_930 dL_law_931 dL_law_932 ?_
  refine law_arg C hX hbl hbA 3 (by omega) hL (by decide) dL_law_933 dL_law_934 dL_law_935 dL_law_936 dL_law_937 ?_
  refine kj_callVi C mi_X12_share w_1219 87 (by decide) hf87 rfl hmu mc_X12_share ⟨Nat.le_of_ble_eq_true rfl, Nat.le_of_ble_eq_true rfl⟩ hcs (rest := [.int r]) rfl (Nat.le_of_ble_eq_true rfl) dL_law_938 (fun r' u' h' => ?_)
  obtain ⟨hr', hJ'⟩ := h'
  exact kj_icmp_eq C 1231 dL_law_941 (by decide) (fun _ => K u' hJ') (fun hne => absurd (hr.trans hr'.symm) hne)
theorem law_c22 {p : Program} {l : Launch} {e : Env} {s : State} {m : MethodId} {args : Array Value} {below : List Frame} {meth : Method} {c : Code} {A : Nat → Prop} {Q : State → Prop} {D : va_G} {ca ss ad : Nat → Nat} {cells slots : Nat} {b L : Nat} {xs : Nat → Int32} {f : Nat → va_E} {i : Nat} (C : kX p s m args meth c A D ca ss 4 "StarTrackerLaw" cL_law ret) (hX : va_X b L xs s s.heap) (hbl : b < s.heap.size) (hbA : ¬ A b) (hL : L ≤ 3584) (hcs : cells ≤ room_1.cells ∧ slots ≤ room_1.slots) (hi : i + 6 < L) (hJ : JJ ca ad f) (K : ∀ u, JJ ca ad u → kJ p l e room_1 s m args below meth c A Q D 4 (gWn ad 108 u) cells slots (lwV i b ad) 1231 []) : kJ p l e room_1 s m args below meth c A Q D 4 (gWn ad 108 f) cells slots (lwV i b ad) 946 [] := by
  obtain ⟨v, P, hc, hm⟩ := p_sheet (l := l) (D := D) (ss := ss) (xs (i + 1)) (xs (i + 2)) (xs (i + 3)) f hJ
  obtain ⟨fs0, hf0⟩ := JJ_0 hJ
  refine kj_aload_n C 1 dL_law_946 rfl 2 rfl ?_
  refine law_arg C hX hbl hbA 1 (by omega) hL (by decide) dL_law_947 dL_law_948 dL_law_949 dL_law_950 dL_law_951 ?_
  refine law_arg C hX hbl hbA 2 (by omega) hL (by decide) dL_law_952 dL_law_953 dL_law_954 dL_law_955 dL_law_956 ?_
  refine law_arg C hX hbl hbA 3 (by omega) hL (by decide) dL_law_957 dL_law_958 dL_law_959 dL_law_960 dL_law_961 ?_
  refine kj_callVi C mi_X11_sheet w_761 0 (by decide) hf0 rfl hc mc_X11_sheet ⟨Nat.le_of_ble_eq_true rfl, Nat.le_of_ble_eq_true rfl⟩ hcs (rest := []) rfl (Nat.le_of_ble_eq_true rfl) dL_law_962 (fun r u h => ?_)
  obtain ⟨hr, hu⟩ := h
  obtain ⟨⟨fs1, hf87⟩, hmu⟩ := hm u hu
  refine kj_aload_n C 2 dL_law_965 rfl 1 rfl ?_
  refine law_arg C hX hbl hbA 1 (by omega) hL (by decide) dL_law_966 dL_law_967 dL_law_968 dL_law_969 dL_law_970 ?_
  refine law_arg C hX hbl hbA 2 (by omega) hL (by decide) dL_law_971 dL_law_972 dL_law_973 dL_law_974 dL_law_975 ?_
  refine law_arg C hX hbl hbA 3 (by omega) hL (by decide) dL_law_976 dL_law_977 dL_law_978 dL_law_979 dL_law_980 ?_
  refine kj_callVi C mi_X12_sheet w_935 87 (by decide) hf87 rfl hmu mc_X12_sheet ⟨Nat.le_of_ble_eq_true rfl, Nat.le_of_ble_eq_true rfl⟩ hcs (rest := [.int r]) rfl (Nat.le_of_ble_eq_true rfl) dL_law_981 (fun r' u' h' => ?_)
  obtain ⟨hr', hJ'⟩ := h'
  exact kj_icmp_eq C 1231 dL_law_984 (by decide) (fun _ => K u' hJ') (fun hne => absurd (hr.trans hr'.symm) hne)
theorem law_c23 {p : Program} {l : Launch} {e : Env} {s : State} {m : MethodId} {args : Array Value} {below : List Frame} {meth : Method} {c : Code} {A : Nat → Prop} {Q : State → Prop} {D : va_G} {ca ss ad : Nat → Nat} {cells slots : Nat} {b L : Nat} {xs : Nat → Int32} {f : Nat → va_E} {i : Nat} (C : kX p s m args meth c A D ca ss 4 "StarTrackerLaw" cL_law ret) (hX : va_X b L xs s s.heap) (hbl : b < s.heap.size) (hbA : ¬ A b) (hL : L ≤ 3584) (hcs : cells ≤ room_1.cells ∧ slots ≤ room_1.slots) (hi : i + 6 < L) (hJ : JJ ca ad f) (K : ∀ u, JJ ca ad u → kJ p l e room_1 s m args below meth c A Q D 4 (gWn ad 108 u) cells slots (lwV i b ad) 1231 []) : kJ p l e room_1 s m args below meth c A Q D 4 (gWn ad 108 f) cells slots (lwV i b ad) 989 [] := by
  obtain ⟨v, P, hc, hm⟩ := p_lose (l := l) (D := D) (ss := ss) (xs (i + 1)) f hJ
  obtain ⟨fs0, hf0⟩ := JJ_0 hJ
  refine kj_aload_n C 1 dL_law_989 rfl 2 rfl ?_
  refine law_arg C hX hbl hbA 1 (by omega) hL (by decide) dL_law_990 dL_law_991 dL_law_992 dL_law_993 dL_law_994 ?_
  refine kj_callVi C mi_X11_lose w_775 0 (by decide) hf0 rfl hc mc_X11_lose ⟨Nat.le_of_ble_eq_true rfl, Nat.le_of_ble_eq_true rfl⟩ hcs (rest := []) rfl (Nat.le_of_ble_eq_true rfl) dL_law_995 (fun r u h => ?_)
  obtain ⟨hr, hu⟩ := h
  obtain ⟨⟨fs1, hf87⟩, hmu⟩ := hm u hu
  refine kj_aload_n C 2 dL_law_998 rfl 1 rfl ?_
  refine law_arg C hX hbl hbA 1 (by omega) hL (by decide) dL_law_999 dL_law_1000 dL_law_1001 dL_law_1002 dL_law_1003 ?_
  refine kj_callVi C mi_X12_lose w_951 87 (by decide) hf87 rfl hmu mc_X12_lose ⟨Nat.le_of_ble_eq_true rfl, Nat.le_of_ble_eq_true rfl⟩ hcs (rest := [.int r]) rfl (Nat.le_of_ble_eq_true rfl) dL_law_1004 (fun r' u' h' => ?_)
  obtain ⟨hr', hJ'⟩ := h'
  exact kj_icmp_eq C 1231 dL_law_1007 (by decide) (fun _ => K u' hJ') (fun hne => absurd (hr.trans hr'.symm) hne)
theorem law_c24 {p : Program} {l : Launch} {e : Env} {s : State} {m : MethodId} {args : Array Value} {below : List Frame} {meth : Method} {c : Code} {A : Nat → Prop} {Q : State → Prop} {D : va_G} {ca ss ad : Nat → Nat} {cells slots : Nat} {b L : Nat} {xs : Nat → Int32} {f : Nat → va_E} {i : Nat} (C : kX p s m args meth c A D ca ss 4 "StarTrackerLaw" cL_law ret) (hX : va_X b L xs s s.heap) (hbl : b < s.heap.size) (hbA : ¬ A b) (hL : L ≤ 3584) (hcs : cells ≤ room_1.cells ∧ slots ≤ room_1.slots) (hi : i + 6 < L) (hJ : JJ ca ad f) (K : ∀ u, JJ ca ad u → kJ p l e room_1 s m args below meth c A Q D 4 (gWn ad 108 u) cells slots (lwV i b ad) 1231 []) : kJ p l e room_1 s m args below meth c A Q D 4 (gWn ad 108 f) cells slots (lwV i b ad) 1012 [] := by
  obtain ⟨v, P, hc, hm⟩ := p_lay (l := l) (D := D) (ss := ss) (xs (i + 1)) (xs (i + 2)) (xs (i + 3)) (xs (i + 4)) f hJ
  obtain ⟨fs0, hf0⟩ := JJ_0 hJ
  refine kj_aload_n C 1 dL_law_1012 rfl 2 rfl ?_
  refine law_arg C hX hbl hbA 1 (by omega) hL (by decide) dL_law_1013 dL_law_1014 dL_law_1015 dL_law_1016 dL_law_1017 ?_
  refine law_arg C hX hbl hbA 2 (by omega) hL (by decide) dL_law_1018 dL_law_1019 dL_law_1020 dL_law_1021 dL_law_1022 ?_
  refine law_arg C hX hbl hbA 3 (by omega) hL (by decide) dL_law_1023 dL_law_1024 dL_law_1025 dL_law_1026 dL_law_1027 ?_
  refine law_arg C hX hbl hbA 4 (by omega) hL (by decide) dL_law_1028 dL_law_1029 dL_law_1030 dL_law_1031 dL_law_1032 ?_
  refine kj_callVi C mi_X11_lay w_779 0 (by decide) hf0 rfl hc mc_X11_lay ⟨Nat.le_of_ble_eq_true rfl, Nat.le_of_ble_eq_true rfl⟩ hcs (rest := []) rfl (Nat.le_of_ble_eq_true rfl) dL_law_1033 (fun r u h => ?_)
  obtain ⟨hr, hu⟩ := h
  obtain ⟨⟨fs1, hf87⟩, hmu⟩ := hm u hu
  refine kj_aload_n C 2 dL_law_1036 rfl 1 rfl ?_
  refine law_arg C hX hbl hbA 1 (by omega) hL (by decide) dL_law_1037 dL_law_1038 dL_law_1039 dL_law_1040 dL_law_1041 ?_
  refine law_arg C hX hbl hbA 2 (by omega) hL (by decide) dL_law_1042 dL_law_1043 dL_law_1044 dL_law_1045 dL_law_1046 ?_
  refine law_arg C hX hbl hbA 3 (by omega) hL (by decide) dL_law_1047 dL_law_1048 dL_law_1049 dL_law_1050 dL_law_1051 ?_
  refine law_arg C hX hbl hbA 4 (by omega) hL (by decide) dL_law_1052 dL_law_1053 dL_law_1054 dL_law_1055 dL_law_1056 ?_
  refine kj_callVi C mi_X12_lay w_955 87 (by decide) hf87 rfl hmu mc_X12_lay ⟨Nat.le_of_ble_eq_true rfl, Nat.le_of_ble_eq_true rfl⟩ hcs (rest := [.int r]) rfl (Nat.le_of_ble_eq_true rfl) dL_law_1057 (fun r' u' h' => ?_)
  obtain ⟨hr', hJ'⟩ := h'
  exact kj_icmp_eq C 1231 dL_law_1060 (by decide) (fun _ => K u' hJ') (fun hne => absurd (hr.trans hr'.symm) hne)
theorem law_c25 {p : Program} {l : Launch} {e : Env} {s : State} {m : MethodId} {args : Array Value} {below : List Frame} {meth : Method} {c : Code} {A : Nat → Prop} {Q : State → Prop} {D : va_G} {ca ss ad : Nat → Nat} {cells slots : Nat} {b L : Nat} {xs : Nat → Int32} {f : Nat → va_E} {i : Nat} (C : kX p s m args meth c A D ca ss 4 "StarTrackerLaw" cL_law ret) (hX : va_X b L xs s s.heap) (hbl : b < s.heap.size) (hbA : ¬ A b) (hL : L ≤ 3584) (hcs : cells ≤ room_1.cells ∧ slots ≤ room_1.slots) (hi : i + 6 < L) (hJ : JJ ca ad f) (K : ∀ u, JJ ca ad u → kJ p l e room_1 s m args below meth c A Q D 4 (gWn ad 108 u) cells slots (lwV i b ad) 1231 []) : kJ p l e room_1 s m args below meth c A Q D 4 (gWn ad 108 f) cells slots (lwV i b ad) 1065 [] := by
  obtain ⟨v, P, hc, hm⟩ := p_get (l := l) (D := D) (ss := ss) (xs (i + 1)) (xs (i + 2)) (xs (i + 3)) f hJ
  obtain ⟨fs0, hf0⟩ := JJ_0 hJ
  refine kj_aload_n C 1 dL_law_1065 rfl 2 rfl ?_
  refine law_arg C hX hbl hbA 1 (by omega) hL (by decide) dL_law_1066 dL_law_1067 dL_law_1068 dL_law_1069 dL_law_1070 ?_
  refine law_arg C hX hbl hbA 2 (by omega) hL (by decide) dL_law_1071 dL_law_1072 dL_law_1073 dL_law_1074 dL_law_1075 ?_
  refine law_arg C hX hbl hbA 3 (by omega) hL (by decide) dL_law_1076 dL_law_1077 dL_law_1078 dL_law_1079 dL_law_1080 ?_
  refine kj_callVi C mi_X11_get w_792 0 (by decide) hf0 rfl hc mc_X11_get ⟨Nat.le_of_ble_eq_true rfl, Nat.le_of_ble_eq_true rfl⟩ hcs (rest := []) rfl (Nat.le_of_ble_eq_true rfl) dL_law_1081 (fun r u h => ?_)
  obtain ⟨hr, hu⟩ := h
  obtain ⟨⟨fs1, hf87⟩, hmu⟩ := hm u hu
  refine kj_aload_n C 2 dL_law_1084 rfl 1 rfl ?_
  refine law_arg C hX hbl hbA 1 (by omega) hL (by decide) dL_law_1085 dL_law_1086 dL_law_1087 dL_law_1088 dL_law_1089 ?_
  refine law_arg C hX hbl hbA 2 (by omega) hL (by decide) dL_law_1090 dL_law_1091 dL_law_1092 dL_law_1093 dL_law_1094 ?_
  refine law_arg C hX hbl hbA 3 (by omega) hL (by decide) dL_law_1095 dL_law_1096 dL_law_1097 dL_law_1098 dL_law_1099 ?_
  refine kj_callVi C mi_X12_get w_966 87 (by decide) hf87 rfl hmu mc_X12_get ⟨Nat.le_of_ble_eq_true rfl, Nat.le_of_ble_eq_true rfl⟩ hcs (rest := [.int r]) rfl (Nat.le_of_ble_eq_true rfl) dL_law_1100 (fun r' u' h' => ?_)
  obtain ⟨hr', hJ'⟩ := h'
  exact kj_icmp_eq C 1231 dL_law_1103 (by decide) (fun _ => K u' hJ') (fun hne => absurd (hr.trans hr'.symm) hne)
theorem law_c26 {p : Program} {l : Launch} {e : Env} {s : State} {m : MethodId} {args : Array Value} {below : List Frame} {meth : Method} {c : Code} {A : Nat → Prop} {Q : State → Prop} {D : va_G} {ca ss ad : Nat → Nat} {cells slots : Nat} {b L : Nat} {xs : Nat → Int32} {f : Nat → va_E} {i : Nat} (C : kX p s m args meth c A D ca ss 4 "StarTrackerLaw" cL_law ret) (hX : va_X b L xs s s.heap) (hbl : b < s.heap.size) (hbA : ¬ A b) (hL : L ≤ 3584) (hcs : cells ≤ room_1.cells ∧ slots ≤ room_1.slots) (hi : i + 6 < L) (hJ : JJ ca ad f) (K : ∀ u, JJ ca ad u → kJ p l e room_1 s m args below meth c A Q D 4 (gWn ad 108 u) cells slots (lwV i b ad) 1231 []) : kJ p l e room_1 s m args below meth c A Q D 4 (gWn ad 108 f) cells slots (lwV i b ad) 1108 [] := by
  obtain ⟨v, P, hc, hm⟩ := p_copy (l := l) (D := D) (ss := ss) (xs (i + 1)) (xs (i + 2)) (xs (i + 3)) (xs (i + 4)) (xs (i + 5)) f hJ
  obtain ⟨fs0, hf0⟩ := JJ_0 hJ
  refine kj_aload_n C 1 dL_law_1108 rfl 2 rfl ?_
  refine law_arg C hX hbl hbA 1 (by omega) hL (by decide) dL_law_1109 dL_law_1110 dL_law_1111 dL_law_1112 dL_law_1113 ?_
  refine law_arg C hX hbl hbA 2 (by omega) hL (by decide) dL_law_1114 dL_law_1115 dL_law_1116 dL_law_1117 dL_law_1118 ?_
  refine law_arg C hX hbl hbA 3 (by omega) hL (by decide) dL_law_1119 dL_law_1120 dL_law_1121 dL_law_1122 dL_law_1123 ?_
  refine law_arg C hX hbl hbA 4 (by omega) hL (by decide) dL_law_1124 dL_law_1125 dL_law_1126 dL_law_1127 dL_law_1128 ?_
  refine law_arg C hX hbl hbA 5 (by omega) hL (by decide) dL_law_1129 dL_law_1130 dL_law_1131 dL_law_1132 dL_law_1133 ?_
  refine kj_callVi C mi_X11_copy w_796 0 (by decide) hf0 rfl hc mc_X11_copy ⟨Nat.le_of_ble_eq_true rfl, Nat.le_of_ble_eq_true rfl⟩ hcs (rest := []) rfl (Nat.le_of_ble_eq_true rfl) dL_law_1134 (fun r u h => ?_)
  obtain ⟨hr, hu⟩ := h
  obtain ⟨⟨fs1, hf87⟩, hmu⟩ := hm u hu
  refine kj_aload_n C 2 dL_law_1137 rfl 1 rfl ?_
  refine law_arg C hX hbl hbA 1 (by omega) hL (by decide) dL_law_1138 dL_law_1139 dL_law_1140 dL_law_1141 dL_law_1142 ?_
  refine law_arg C hX hbl hbA 2 (by omega) hL (by decide) dL_law_1143 dL_law_1144 dL_law_1145 dL_law_1146 dL_law_1147 ?_
  refine law_arg C hX hbl hbA 3 (by omega) hL (by decide) dL_law_1148 dL_law_1149 dL_law_1150 dL_law_1151 dL_law_1152 ?_
  refine law_arg C hX hbl hbA 4 (by omega) hL (by decide) dL_law_1153 dL_law_1154 dL_law_1155 dL_law_1156 dL_law_1157 ?_
  refine law_arg C hX hbl hbA 5 (by omega) hL (by decide) dL_law_1158 dL_law_1159 dL_law_1160 dL_law_1161 dL_law_1162 ?_
  refine kj_callVi C mi_X12_copy w_971 87 (by decide) hf87 rfl hmu mc_X12_copy ⟨Nat.le_of_ble_eq_true rfl, Nat.le_of_ble_eq_true rfl⟩ hcs (rest := [.int r]) rfl (Nat.le_of_ble_eq_true rfl) dL_law_1163 (fun r' u' h' => ?_)
  obtain ⟨hr', hJ'⟩ := h'
  exact kj_icmp_eq C 1231 dL_law_1166 (by decide) (fun _ => K u' hJ') (fun hne => absurd (hr.trans hr'.symm) hne)
theorem law_c27 {p : Program} {l : Launch} {e : Env} {s : State} {m : MethodId} {args : Array Value} {below : List Frame} {meth : Method} {c : Code} {A : Nat → Prop} {Q : State → Prop} {D : va_G} {ca ss ad : Nat → Nat} {cells slots : Nat} {b L : Nat} {xs : Nat → Int32} {f : Nat → va_E} {i : Nat} (C : kX p s m args meth c A D ca ss 4 "StarTrackerLaw" cL_law ret) (hX : va_X b L xs s s.heap) (hbl : b < s.heap.size) (hbA : ¬ A b) (hL : L ≤ 3584) (hcs : cells ≤ room_1.cells ∧ slots ≤ room_1.slots) (hi : i + 6 < L) (hJ : JJ ca ad f) (K : ∀ u, JJ ca ad u → kJ p l e room_1 s m args below meth c A Q D 4 (gWn ad 108 u) cells slots (lwV i b ad) 1231 []) : kJ p l e room_1 s m args below meth c A Q D 4 (gWn ad 108 f) cells slots (lwV i b ad) 1171 [] := by
  obtain ⟨v, P, hc, hm⟩ := p_write (l := l) (D := D) (ss := ss) (xs (i + 1)) f hJ
  obtain ⟨fs0, hf0⟩ := JJ_0 hJ
  refine kj_aload_n C 1 dL_law_1171 rfl 2 rfl ?_
  refine law_arg C hX hbl hbA 1 (by omega) hL (by decide) dL_law_1172 dL_law_1173 dL_law_1174 dL_law_1175 dL_law_1176 ?_
  refine kj_callVi C mi_X11_write w_810 0 (by decide) hf0 rfl hc mc_X11_write ⟨Nat.le_of_ble_eq_true rfl, Nat.le_of_ble_eq_true rfl⟩ hcs (rest := []) rfl (Nat.le_of_ble_eq_true rfl) dL_law_1177 (fun r u h => ?_)
  obtain ⟨hr, hu⟩ := h
  obtain ⟨⟨fs1, hf87⟩, hmu⟩ := hm u hu
  refine kj_aload_n C 2 dL_law_1180 rfl 1 rfl ?_
  refine law_arg C hX hbl hbA 1 (by omega) hL (by decide) dL_law_1181 dL_law_1182 dL_law_1183 dL_law_1184 dL_law_1185 ?_
  refine kj_callVi C mi_X12_write w_1236 87 (by decide) hf87 rfl hmu mc_X12_write ⟨Nat.le_of_ble_eq_true rfl, Nat.le_of_ble_eq_true rfl⟩ hcs (rest := [.int r]) rfl (Nat.le_of_ble_eq_true rfl) dL_law_1186 (fun r' u' h' => ?_)
  obtain ⟨hr', hJ'⟩ := h'
  exact kj_icmp_eq C 1231 dL_law_1189 (by decide) (fun _ => K u' hJ') (fun hne => absurd (hr.trans hr'.symm) hne)
theorem law_c28 {p : Program} {l : Launch} {e : Env} {s : State} {m : MethodId} {args : Array Value} {below : List Frame} {meth : Method} {c : Code} {A : Nat → Prop} {Q : State → Prop} {D : va_G} {ca ss ad : Nat → Nat} {cells slots : Nat} {b L : Nat} {xs : Nat → Int32} {f : Nat → va_E} {i : Nat} (C : kX p s m args meth c A D ca ss 4 "StarTrackerLaw" cL_law ret) (hX : va_X b L xs s s.heap) (hbl : b < s.heap.size) (hbA : ¬ A b) (hL : L ≤ 3584) (hcs : cells ≤ room_1.cells ∧ slots ≤ room_1.slots) (hi : i + 6 < L) (hJ : JJ ca ad f) (K : ∀ u, JJ ca ad u → kJ p l e room_1 s m args below meth c A Q D 4 (gWn ad 108 u) cells slots (lwV i b ad) 1231 []) : kJ p l e room_1 s m args below meth c A Q D 4 (gWn ad 108 f) cells slots (lwV i b ad) 1194 [] := by
  obtain ⟨v, P, hc, hm⟩ := p_count (l := l) (D := D) (ss := ss) (xs (i + 1)) f hJ
  obtain ⟨fs0, hf0⟩ := JJ_0 hJ
  refine kj_aload_n C 1 dL_law_1194 rfl 2 rfl ?_
  refine law_arg C hX hbl hbA 1 (by omega) hL (by decide) dL_law_1195 dL_law_1196 dL_law_1197 dL_law_1198 dL_law_1199 ?_
  refine kj_callVi C mi_X11_count w_814 0 (by decide) hf0 rfl hc mc_X11_count ⟨Nat.le_of_ble_eq_true rfl, Nat.le_of_ble_eq_true rfl⟩ hcs (rest := []) rfl (Nat.le_of_ble_eq_true rfl) dL_law_1200 (fun r u h => ?_)
  obtain ⟨hr, hu⟩ := h
  obtain ⟨⟨fs1, hf87⟩, hmu⟩ := hm u hu
  refine kj_aload_n C 2 dL_law_1203 rfl 1 rfl ?_
  refine law_arg C hX hbl hbA 1 (by omega) hL (by decide) dL_law_1204 dL_law_1205 dL_law_1206 dL_law_1207 dL_law_1208 ?_
  refine kj_callVi C mi_X12_count w_1240 87 (by decide) hf87 rfl hmu mc_X12_count ⟨Nat.le_of_ble_eq_true rfl, Nat.le_of_ble_eq_true rfl⟩ hcs (rest := [.int r]) rfl (Nat.le_of_ble_eq_true rfl) dL_law_1209 (fun r' u' h' => ?_)
  obtain ⟨hr', hJ'⟩ := h'
  exact kj_icmp_eq C 1231 dL_law_1212 (by decide) (fun _ => K u' hJ') (fun hne => absurd (hr.trans hr'.symm) hne)
theorem law_c29 {p : Program} {l : Launch} {e : Env} {s : State} {m : MethodId} {args : Array Value} {below : List Frame} {meth : Method} {c : Code} {A : Nat → Prop} {Q : State → Prop} {D : va_G} {ca ss ad : Nat → Nat} {cells slots : Nat} {b L : Nat} {xs : Nat → Int32} {f : Nat → va_E} {i : Nat} (C : kX p s m args meth c A D ca ss 4 "StarTrackerLaw" cL_law ret) (hX : va_X b L xs s s.heap) (hbl : b < s.heap.size) (hbA : ¬ A b) (hL : L ≤ 3584) (hcs : cells ≤ room_1.cells ∧ slots ≤ room_1.slots) (hi : i + 6 < L) (hJ : JJ ca ad f) (K : ∀ u, JJ ca ad u → kJ p l e room_1 s m args below meth c A Q D 4 (gWn ad 108 u) cells slots (lwV i b ad) 1231 []) : kJ p l e room_1 s m args below meth c A Q D 4 (gWn ad 108 f) cells slots (lwV i b ad) 1217 [] := by
  obtain ⟨v, P, hc, hm⟩ := p_digest (l := l) (D := D) (ss := ss)  f hJ
  obtain ⟨fs0, hf0⟩ := JJ_0 hJ
  refine kj_aload_n C 1 dL_law_1217 rfl 2 rfl ?_
  refine kj_callVl C mi_X11_digest w_824 0 (by decide) hf0 rfl hc mc_X11_digest ⟨Nat.le_of_ble_eq_true rfl, Nat.le_of_ble_eq_true rfl⟩ hcs (rest := []) rfl (Nat.le_of_ble_eq_true rfl) dL_law_1218 (fun r u h => ?_)
  obtain ⟨hr, hu⟩ := h
  obtain ⟨⟨fs1, hf87⟩, hmu⟩ := hm u hu
  refine kj_aload_n C 2 dL_law_1221 rfl 1 rfl ?_
  refine kj_callVl C mi_X12_digest w_1255 87 (by decide) hf87 rfl hmu mc_X12_digest ⟨Nat.le_of_ble_eq_true rfl, Nat.le_of_ble_eq_true rfl⟩ hcs (rest := [.long r]) rfl (Nat.le_of_ble_eq_true rfl) dL_law_1222 (fun r' u' h' => ?_)
  obtain ⟨hr', hJ'⟩ := h'
  refine kj_lcmp C dL_law_1225 ?_
  exact kj_if_eq C 1231 dL_law_1226 (by decide) (fun _ => K u' hJ') (fun hne => absurd ((lg_cmp_eq r r').mpr (hr.trans hr'.symm)) hne)
