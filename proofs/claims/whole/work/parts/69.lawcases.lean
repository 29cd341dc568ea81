section ZLC
variable {p : Program} {l : Launch} {e : Env} {s : State} {m : MethodId} {b : Nat} {below : List Frame} {meth : Method} {c : Code} {D : va_G} {tc : Nat → ClassId} {tF tL tM : Nat} {Q : State → Prop} {μ ν : Nat → Int32} {pc : Nat} {lv : List (Nat × Value)} {st : List Value} {L i : Nat} {xs : Nat → Int32}
set_option maxHeartbeats 1000000 in
theorem lc_addFirm (X : zLX p s m c b D tc tF tL tM) (hX : va_X b L xs s s.heap) (hbl : b < s.heap.size) (hL : L ≤ 2560) {B : Nat} (hR : REL B μ ν) (hB : B ≤ 600) (hi : i + 5 ≤ L) (kk : ∀ u v, REL (B + 1) u v → zB p l e s m b below meth c D tc Q u v 915 (lwL b s.heap.size (nI i)) []) : zB p l e s m b below meth c D tc Q μ ν 148 (lwL b s.heap.size (nI i)) [] := by
  obtain ⟨rv, PC, PR, dC, dR, hdC, hdR, hC, hR, hrel⟩ := op_addFirm (l := l) hR hB 
  refine zb_al1 X dL_law_148 ?_
  refine zb_callC X (as := []) (rest := []) hdC hC k_237 k_238 k_239 k_240 hdX5_addFirm rfl (Nat.le_of_ble_eq_true rfl) rfl (Nat.le_of_ble_eq_true rfl) dL_law_149 (fun u hu => ?_)
  refine zb_al2 X dL_law_152 ?_
  refine zb_callR X (as := []) (rest := [.int rv]) hdR hR k_593 k_594 k_595 k_596 hdX6_addFirm rfl (Nat.le_of_ble_eq_true rfl) rfl (Nat.le_of_ble_eq_true rfl) dL_law_153 (fun v hv => ?_)
  exact zb_eq X 915 dL_law_156 (by decide) (kk u v (hrel u v hu hv))
set_option maxHeartbeats 1000000 in
theorem lc_set (X : zLX p s m c b D tc tF tL tM) (hX : va_X b L xs s s.heap) (hbl : b < s.heap.size) (hL : L ≤ 2560) {B : Nat} (hR : REL B μ ν) (hB : B ≤ 600) (hi : i + 5 ≤ L) (kk : ∀ u v, REL (B + 1) u v → zB p l e s m b below meth c D tc Q u v 915 (lwL b s.heap.size (nI i)) []) : zB p l e s m b below meth c D tc Q μ ν 161 (lwL b s.heap.size (nI i)) [] := by
  obtain ⟨rv, PC, PR, dC, dR, hdC, hdR, hC, hR, hrel⟩ := op_set (l := l) hR hB (xs (i + 1)) (xs (i + 2))
  refine zb_al1 X dL_law_161 ?_
  refine zb_arg X hX hbl hL 1 (by omega) dL_law_162 dL_law_163 dL_law_164 (by decide +kernel) dL_law_165 dL_law_166 ?_
  refine zb_arg X hX hbl hL 2 (by omega) dL_law_167 dL_law_168 dL_law_169 (by decide +kernel) dL_law_170 dL_law_171 ?_
  refine zb_callC X (as := [.int (xs (i + 1)), .int (xs (i + 2))]) (rest := []) hdC hC k_261 k_262 k_263 k_264 hdX5_set rfl (Nat.le_of_ble_eq_true rfl) rfl (Nat.le_of_ble_eq_true rfl) dL_law_172 (fun u hu => ?_)
  refine zb_al2 X dL_law_175 ?_
  refine zb_arg X hX hbl hL 1 (by omega) dL_law_176 dL_law_177 dL_law_178 (by decide +kernel) dL_law_179 dL_law_180 ?_
  refine zb_arg X hX hbl hL 2 (by omega) dL_law_181 dL_law_182 dL_law_183 (by decide +kernel) dL_law_184 dL_law_185 ?_
  refine zb_callR X (as := [.int (xs (i + 1)), .int (xs (i + 2))]) (rest := [.int rv]) hdR hR k_600 k_601 k_602 k_603 hdX6_set rfl (Nat.le_of_ble_eq_true rfl) rfl (Nat.le_of_ble_eq_true rfl) dL_law_186 (fun v hv => ?_)
  exact zb_eq X 915 dL_law_189 (by decide) (kk u v (hrel u v hu hv))
set_option maxHeartbeats 1000000 in
theorem lc_issue (X : zLX p s m c b D tc tF tL tM) (hX : va_X b L xs s s.heap) (hbl : b < s.heap.size) (hL : L ≤ 2560) {B : Nat} (hR : REL B μ ν) (hB : B ≤ 600) (hi : i + 5 ≤ L) (kk : ∀ u v, REL (B + 1) u v → zB p l e s m b below meth c D tc Q u v 915 (lwL b s.heap.size (nI i)) []) : zB p l e s m b below meth c D tc Q μ ν 194 (lwL b s.heap.size (nI i)) [] := by
  obtain ⟨rv, PC, PR, dC, dR, hdC, hdR, hC, hR, hrel⟩ := op_issue (l := l) hR hB (xs (i + 1)) (xs (i + 2))
  refine zb_al1 X dL_law_194 ?_
  refine zb_arg X hX hbl hL 1 (by omega) dL_law_195 dL_law_196 dL_law_197 (by decide +kernel) dL_law_198 dL_law_199 ?_
  refine zb_arg X hX hbl hL 2 (by omega) dL_law_200 dL_law_201 dL_law_202 (by decide +kernel) dL_law_203 dL_law_204 ?_
  refine zb_callC X (as := [.int (xs (i + 1)), .int (xs (i + 2))]) (rest := []) hdC hC k_269 k_270 k_271 k_272 hdX5_issue rfl (Nat.le_of_ble_eq_true rfl) rfl (Nat.le_of_ble_eq_true rfl) dL_law_205 (fun u hu => ?_)
  refine zb_al2 X dL_law_208 ?_
  refine zb_arg X hX hbl hL 1 (by omega) dL_law_209 dL_law_210 dL_law_211 (by decide +kernel) dL_law_212 dL_law_213 ?_
  refine zb_arg X hX hbl hL 2 (by omega) dL_law_214 dL_law_215 dL_law_216 (by decide +kernel) dL_law_217 dL_law_218 ?_
  refine zb_callR X (as := [.int (xs (i + 1)), .int (xs (i + 2))]) (rest := [.int rv]) hdR hR k_607 k_608 k_609 k_610 hdX6_issue rfl (Nat.le_of_ble_eq_true rfl) rfl (Nat.le_of_ble_eq_true rfl) dL_law_219 (fun v hv => ?_)
  exact zb_eq X 915 dL_law_222 (by decide) (kk u v (hrel u v hu hv))
set_option maxHeartbeats 1000000 in
theorem lc_issueOffsets (X : zLX p s m c b D tc tF tL tM) (hX : va_X b L xs s s.heap) (hbl : b < s.heap.size) (hL : L ≤ 2560) {B : Nat} (hR : REL B μ ν) (hB : B ≤ 600) (hi : i + 5 ≤ L) (kk : ∀ u v, REL (B + 1) u v → zB p l e s m b below meth c D tc Q u v 915 (lwL b s.heap.size (nI i)) []) : zB p l e s m b below meth c D tc Q μ ν 227 (lwL b s.heap.size (nI i)) [] := by
  obtain ⟨rv, PC, PR, dC, dR, hdC, hdR, hC, hR, hrel⟩ := op_issueOffsets (l := l) hR hB (xs (i + 1)) (xs (i + 2)) (xs (i + 3))
  refine zb_al1 X dL_law_227 ?_
  refine zb_arg X hX hbl hL 1 (by omega) dL_law_228 dL_law_229 dL_law_230 (by decide +kernel) dL_law_231 dL_law_232 ?_
  refine zb_arg X hX hbl hL 2 (by omega) dL_law_233 dL_law_234 dL_law_235 (by decide +kernel) dL_law_236 dL_law_237 ?_
  refine zb_arg X hX hbl hL 3 (by omega) dL_law_238 dL_law_239 dL_law_240 (by decide +kernel) dL_law_241 dL_law_242 ?_
  refine zb_callC X (as := [.int (xs (i + 1)), .int (xs (i + 2)), .int (xs (i + 3))]) (rest := []) hdC hC k_284 k_285 k_286 k_287 hdX5_issueOffsets rfl (Nat.le_of_ble_eq_true rfl) rfl (Nat.le_of_ble_eq_true rfl) dL_law_243 (fun u hu => ?_)
  refine zb_al2 X dL_law_246 ?_
  refine zb_arg X hX hbl hL 1 (by omega) dL_law_247 dL_law_248 dL_law_249 (by decide +kernel) dL_law_250 dL_law_251 ?_
  refine zb_arg X hX hbl hL 2 (by omega) dL_law_252 dL_law_253 dL_law_254 (by decide +kernel) dL_law_255 dL_law_256 ?_
  refine zb_arg X hX hbl hL 3 (by omega) dL_law_257 dL_law_258 dL_law_259 (by decide +kernel) dL_law_260 dL_law_261 ?_
  refine zb_callR X (as := [.int (xs (i + 1)), .int (xs (i + 2)), .int (xs (i + 3))]) (rest := [.int rv]) hdR hR k_622 k_623 k_624 k_625 hdX6_issueOffsets rfl (Nat.le_of_ble_eq_true rfl) rfl (Nat.le_of_ble_eq_true rfl) dL_law_262 (fun v hv => ?_)
  exact zb_eq X 915 dL_law_265 (by decide) (kk u v (hrel u v hu hv))
set_option maxHeartbeats 1000000 in
theorem lc_transfer (X : zLX p s m c b D tc tF tL tM) (hX : va_X b L xs s s.heap) (hbl : b < s.heap.size) (hL : L ≤ 2560) {B : Nat} (hR : REL B μ ν) (hB : B ≤ 600) (hi : i + 5 ≤ L) (kk : ∀ u v, REL (B + 1) u v → zB p l e s m b below meth c D tc Q u v 915 (lwL b s.heap.size (nI i)) []) : zB p l e s m b below meth c D tc Q μ ν 270 (lwL b s.heap.size (nI i)) [] := by
  obtain ⟨rv, PC, PR, dC, dR, hdC, hdR, hC, hR, hrel⟩ := op_transfer (l := l) hR hB (xs (i + 1)) (xs (i + 2)) (xs (i + 3)) (xs (i + 4))
  refine zb_al1 X dL_law_270 ?_
  refine zb_arg X hX hbl hL 1 (by omega) dL_law_271 dL_law_272 dL_law_273 (by decide +kernel) dL_law_274 dL_law_275 ?_
  refine zb_arg X hX hbl hL 2 (by omega) dL_law_276 dL_law_277 dL_law_278 (by decide +kernel) dL_law_279 dL_law_280 ?_
  refine zb_arg X hX hbl hL 3 (by omega) dL_law_281 dL_law_282 dL_law_283 (by decide +kernel) dL_law_284 dL_law_285 ?_
  refine zb_arg X hX hbl hL 4 (by omega) dL_law_286 dL_law_287 dL_law_288 (by decide +kernel) dL_law_289 dL_law_290 ?_
  refine zb_callC X (as := [.int (xs (i + 1)), .int (xs (i + 2)), .int (xs (i + 3)), .int (xs (i + 4))]) (rest := []) hdC hC k_291 k_292 k_293 k_294 hdX5_transfer rfl (Nat.le_of_ble_eq_true rfl) rfl (Nat.le_of_ble_eq_true rfl) dL_law_291 (fun u hu => ?_)
  refine zb_al2 X dL_law_294 ?_
  refine zb_arg X hX hbl hL 1 (by omega) dL_law_295 dL_law_296 dL_law_297 (by decide +kernel) dL_law_298 dL_law_299 ?_
  refine zb_arg X hX hbl hL 2 (by omega) dL_law_300 dL_law_301 dL_law_302 (by decide +kernel) dL_law_303 dL_law_304 ?_
  refine zb_arg X hX hbl hL 3 (by omega) dL_law_305 dL_law_306 dL_law_307 (by decide +kernel) dL_law_308 dL_law_309 ?_
  refine zb_arg X hX hbl hL 4 (by omega) dL_law_310 dL_law_311 dL_law_312 (by decide +kernel) dL_law_313 dL_law_314 ?_
  refine zb_callR X (as := [.int (xs (i + 1)), .int (xs (i + 2)), .int (xs (i + 3)), .int (xs (i + 4))]) (rest := [.int rv]) hdR hR k_629 k_630 k_631 k_632 hdX6_transfer rfl (Nat.le_of_ble_eq_true rfl) rfl (Nat.le_of_ble_eq_true rfl) dL_law_315 (fun v hv => ?_)
  exact zb_eq X 915 dL_law_318 (by decide) (kk u v (hrel u v hu hv))
set_option maxHeartbeats 1000000 in
theorem lc_transferOffsets (X : zLX p s m c b D tc tF tL tM) (hX : va_X b L xs s s.heap) (hbl : b < s.heap.size) (hL : L ≤ 2560) {B : Nat} (hR : REL B μ ν) (hB : B ≤ 600) (hi : i + 5 ≤ L) (kk : ∀ u v, REL (B + 1) u v → zB p l e s m b below meth c D tc Q u v 915 (lwL b s.heap.size (nI i)) []) : zB p l e s m b below meth c D tc Q μ ν 323 (lwL b s.heap.size (nI i)) [] := by
  obtain ⟨rv, PC, PR, dC, dR, hdC, hdR, hC, hR, hrel⟩ := op_transferOffsets (l := l) hR hB (xs (i + 1)) (xs (i + 2)) (xs (i + 3)) (xs (i + 4))
  refine zb_al1 X dL_law_323 ?_
  refine zb_arg X hX hbl hL 1 (by omega) dL_law_324 dL_law_325 dL_law_326 (by decide +kernel) dL_law_327 dL_law_328 ?_
  refine zb_arg X hX hbl hL 2 (by omega) dL_law_329 dL_law_330 dL_law_331 (by decide +kernel) dL_law_332 dL_law_333 ?_
  refine zb_arg X hX hbl hL 3 (by omega) dL_law_334 dL_law_335 dL_law_336 (by decide +kernel) dL_law_337 dL_law_338 ?_
  refine zb_arg X hX hbl hL 4 (by omega) dL_law_339 dL_law_340 dL_law_341 (by decide +kernel) dL_law_342 dL_law_343 ?_
  refine zb_callC X (as := [.int (xs (i + 1)), .int (xs (i + 2)), .int (xs (i + 3)), .int (xs (i + 4))]) (rest := []) hdC hC k_308 k_309 k_310 k_311 hdX5_transferOffsets rfl (Nat.le_of_ble_eq_true rfl) rfl (Nat.le_of_ble_eq_true rfl) dL_law_344 (fun u hu => ?_)
  refine zb_al2 X dL_law_347 ?_
  refine zb_arg X hX hbl hL 1 (by omega) dL_law_348 dL_law_349 dL_law_350 (by decide +kernel) dL_law_351 dL_law_352 ?_
  refine zb_arg X hX hbl hL 2 (by omega) dL_law_353 dL_law_354 dL_law_355 (by decide +kernel) dL_law_356 dL_law_357 ?_
  refine zb_arg X hX hbl hL 3 (by omega) dL_law_358 dL_law_359 dL_law_360 (by decide +kernel) dL_law_361 dL_law_362 ?_
  refine zb_arg X hX hbl hL 4 (by omega) dL_law_363 dL_law_364 dL_law_365 (by decide +kernel) dL_law_366 dL_law_367 ?_
  refine zb_callR X (as := [.int (xs (i + 1)), .int (xs (i + 2)), .int (xs (i + 3)), .int (xs (i + 4))]) (rest := [.int rv]) hdR hR k_644 k_645 k_646 k_647 hdX6_transferOffsets rfl (Nat.le_of_ble_eq_true rfl) rfl (Nat.le_of_ble_eq_true rfl) dL_law_368 (fun v hv => ?_)
  exact zb_eq X 915 dL_law_371 (by decide) (kk u v (hrel u v hu hv))
set_option maxHeartbeats 1000000 in
theorem lc_cancel (X : zLX p s m c b D tc tF tL tM) (hX : va_X b L xs s s.heap) (hbl : b < s.heap.size) (hL : L ≤ 2560) {B : Nat} (hR : REL B μ ν) (hB : B ≤ 600) (hi : i + 5 ≤ L) (kk : ∀ u v, REL (B + 1) u v → zB p l e s m b below meth c D tc Q u v 915 (lwL b s.heap.size (nI i)) []) : zB p l e s m b below meth c D tc Q μ ν 376 (lwL b s.heap.size (nI i)) [] := by
  obtain ⟨rv, PC, PR, dC, dR, hdC, hdR, hC, hR, hrel⟩ := op_cancel (l := l) hR hB (xs (i + 1)) (xs (i + 2)) (xs (i + 3))
  refine zb_al1 X dL_law_376 ?_
  refine zb_arg X hX hbl hL 1 (by omega) dL_law_377 dL_law_378 dL_law_379 (by decide +kernel) dL_law_380 dL_law_381 ?_
  refine zb_arg X hX hbl hL 2 (by omega) dL_law_382 dL_law_383 dL_law_384 (by decide +kernel) dL_law_385 dL_law_386 ?_
  refine zb_arg X hX hbl hL 3 (by omega) dL_law_387 dL_law_388 dL_law_389 (by decide +kernel) dL_law_390 dL_law_391 ?_
  refine zb_callC X (as := [.int (xs (i + 1)), .int (xs (i + 2)), .int (xs (i + 3))]) (rest := []) hdC hC k_312 k_313 k_314 k_315 hdX5_cancel rfl (Nat.le_of_ble_eq_true rfl) rfl (Nat.le_of_ble_eq_true rfl) dL_law_392 (fun u hu => ?_)
  refine zb_al2 X dL_law_395 ?_
  refine zb_arg X hX hbl hL 1 (by omega) dL_law_396 dL_law_397 dL_law_398 (by decide +kernel) dL_law_399 dL_law_400 ?_
  refine zb_arg X hX hbl hL 2 (by omega) dL_law_401 dL_law_402 dL_law_403 (by decide +kernel) dL_law_404 dL_law_405 ?_
  refine zb_arg X hX hbl hL 3 (by omega) dL_law_406 dL_law_407 dL_law_408 (by decide +kernel) dL_law_409 dL_law_410 ?_
  refine zb_callR X (as := [.int (xs (i + 1)), .int (xs (i + 2)), .int (xs (i + 3))]) (rest := [.int rv]) hdR hR k_648 k_649 k_650 k_651 hdX6_cancel rfl (Nat.le_of_ble_eq_true rfl) rfl (Nat.le_of_ble_eq_true rfl) dL_law_411 (fun v hv => ?_)
  exact zb_eq X 915 dL_law_414 (by decide) (kk u v (hrel u v hu hv))
set_option maxHeartbeats 1000000 in
theorem lc_report (X : zLX p s m c b D tc tF tL tM) (hX : va_X b L xs s s.heap) (hbl : b < s.heap.size) (hL : L ≤ 2560) {B : Nat} (hR : REL B μ ν) (hB : B ≤ 600) (hi : i + 5 ≤ L) (kk : ∀ u v, REL (B + 1) u v → zB p l e s m b below meth c D tc Q u v 915 (lwL b s.heap.size (nI i)) []) : zB p l e s m b below meth c D tc Q μ ν 419 (lwL b s.heap.size (nI i)) [] := by
  obtain ⟨rv, PC, PR, dC, dR, hdC, hdR, hC, hR, hrel⟩ := op_report (l := l) hR hB (xs (i + 1)) (xs (i + 2))
  refine zb_al1 X dL_law_419 ?_
  refine zb_arg X hX hbl hL 1 (by omega) dL_law_420 dL_law_421 dL_law_422 (by decide +kernel) dL_law_423 dL_law_424 ?_
  refine zb_arg X hX hbl hL 2 (by omega) dL_law_425 dL_law_426 dL_law_427 (by decide +kernel) dL_law_428 dL_law_429 ?_
  refine zb_callC X (as := [.int (xs (i + 1)), .int (xs (i + 2))]) (rest := []) hdC hC k_317 k_318 k_319 k_320 hdX5_report rfl (Nat.le_of_ble_eq_true rfl) rfl (Nat.le_of_ble_eq_true rfl) dL_law_430 (fun u hu => ?_)
  refine zb_al2 X dL_law_433 ?_
  refine zb_arg X hX hbl hL 1 (by omega) dL_law_434 dL_law_435 dL_law_436 (by decide +kernel) dL_law_437 dL_law_438 ?_
  refine zb_arg X hX hbl hL 2 (by omega) dL_law_439 dL_law_440 dL_law_441 (by decide +kernel) dL_law_442 dL_law_443 ?_
  refine zb_callR X (as := [.int (xs (i + 1)), .int (xs (i + 2))]) (rest := [.int rv]) hdR hR k_652 k_653 k_654 k_655 hdX6_report rfl (Nat.le_of_ble_eq_true rfl) rfl (Nat.le_of_ble_eq_true rfl) dL_law_444 (fun v hv => ?_)
  exact zb_eq X 915 dL_law_447 (by decide) (kk u v (hrel u v hu hv))
set_option maxHeartbeats 1000000 in
theorem lc_verify (X : zLX p s m c b D tc tF tL tM) (hX : va_X b L xs s s.heap) (hbl : b < s.heap.size) (hL : L ≤ 2560) {B : Nat} (hR : REL B μ ν) (hB : B ≤ 600) (hi : i + 5 ≤ L) (kk : ∀ u v, REL (B + 1) u v → zB p l e s m b below meth c D tc Q u v 915 (lwL b s.heap.size (nI i)) []) : zB p l e s m b below meth c D tc Q μ ν 452 (lwL b s.heap.size (nI i)) [] := by
  obtain ⟨rv, PC, PR, dC, dR, hdC, hdR, hC, hR, hrel⟩ := op_verify (l := l) hR hB (xs (i + 1))
  refine zb_al1 X dL_law_452 ?_
  refine zb_arg X hX hbl hL 1 (by omega) dL_law_453 dL_law_454 dL_law_455 (by decide +kernel) dL_law_456 dL_law_457 ?_
  refine zb_callC X (as := [.int (xs (i + 1))]) (rest := []) hdC hC k_321 k_322 k_323 k_324 hdX5_verify rfl (Nat.le_of_ble_eq_true rfl) rfl (Nat.le_of_ble_eq_true rfl) dL_law_458 (fun u hu => ?_)
  refine zb_al2 X dL_law_461 ?_
  refine zb_arg X hX hbl hL 1 (by omega) dL_law_462 dL_law_463 dL_law_464 (by decide +kernel) dL_law_465 dL_law_466 ?_
  refine zb_callR X (as := [.int (xs (i + 1))]) (rest := [.int rv]) hdR hR k_656 k_657 k_658 k_659 hdX6_verify rfl (Nat.le_of_ble_eq_true rfl) rfl (Nat.le_of_ble_eq_true rfl) dL_law_467 (fun v hv => ?_)
  exact zb_eq X 915 dL_law_470 (by decide) (kk u v (hrel u v hu hv))
set_option maxHeartbeats 1000000 in
theorem lc_surrender (X : zLX p s m c b D tc tF tL tM) (hX : va_X b L xs s s.heap) (hbl : b < s.heap.size) (hL : L ≤ 2560) {B : Nat} (hR : REL B μ ν) (hB : B ≤ 600) (hi : i + 5 ≤ L) (kk : ∀ u v, REL (B + 1) u v → zB p l e s m b below meth c D tc Q u v 915 (lwL b s.heap.size (nI i)) []) : zB p l e s m b below meth c D tc Q μ ν 475 (lwL b s.heap.size (nI i)) [] := by
  obtain ⟨rv, PC, PR, dC, dR, hdC, hdR, hC, hR, hrel⟩ := op_surrender (l := l) hR hB (xs (i + 1)) (xs (i + 2)) (xs (i + 3))
  refine zb_al1 X dL_law_475 ?_
  refine zb_arg X hX hbl hL 1 (by omega) dL_law_476 dL_law_477 dL_law_478 (by decide +kernel) dL_law_479 dL_law_480 ?_
  refine zb_arg X hX hbl hL 2 (by omega) dL_law_481 dL_law_482 dL_law_483 (by decide +kernel) dL_law_484 dL_law_485 ?_
  refine zb_arg X hX hbl hL 3 (by omega) dL_law_486 dL_law_487 dL_law_488 (by decide +kernel) dL_law_489 dL_law_490 ?_
  refine zb_callC X (as := [.int (xs (i + 1)), .int (xs (i + 2)), .int (xs (i + 3))]) (rest := []) hdC hC k_325 k_326 k_327 k_328 hdX5_surrender rfl (Nat.le_of_ble_eq_true rfl) rfl (Nat.le_of_ble_eq_true rfl) dL_law_491 (fun u hu => ?_)
  refine zb_al2 X dL_law_494 ?_
  refine zb_arg X hX hbl hL 1 (by omega) dL_law_495 dL_law_496 dL_law_497 (by decide +kernel) dL_law_498 dL_law_499 ?_
  refine zb_arg X hX hbl hL 2 (by omega) dL_law_500 dL_law_501 dL_law_502 (by decide +kernel) dL_law_503 dL_law_504 ?_
  refine zb_arg X hX hbl hL 3 (by omega) dL_law_505 dL_law_506 dL_law_507 (by decide +kernel) dL_law_508 dL_law_509 ?_
  refine zb_callR X (as := [.int (xs (i + 1)), .int (xs (i + 2)), .int (xs (i + 3))]) (rest := [.int rv]) hdR hR k_660 k_661 k_662 k_663 hdX6_surrender rfl (Nat.le_of_ble_eq_true rfl) rfl (Nat.le_of_ble_eq_true rfl) dL_law_510 (fun v hv => ?_)
  exact zb_eq X 915 dL_law_513 (by decide) (kk u v (hrel u v hu hv))
set_option maxHeartbeats 1000000 in
theorem lc_pass (X : zLX p s m c b D tc tF tL tM) (hX : va_X b L xs s s.heap) (hbl : b < s.heap.size) (hL : L ≤ 2560) {B : Nat} (hR : REL B μ ν) (hB : B ≤ 600) (hi : i + 5 ≤ L) (kk : ∀ u v, REL (B + 1) u v → zB p l e s m b below meth c D tc Q u v 915 (lwL b s.heap.size (nI i)) []) : zB p l e s m b below meth c D tc Q μ ν 518 (lwL b s.heap.size (nI i)) [] := by
  obtain ⟨rv, PC, PR, dC, dR, hdC, hdR, hC, hR, hrel⟩ := op_pass (l := l) hR hB (xs (i + 1))
  refine zb_al1 X dL_law_518 ?_
  refine zb_arg X hX hbl hL 1 (by omega) dL_law_519 dL_law_520 dL_law_521 (by decide +kernel) dL_law_522 dL_law_523 ?_
  refine zb_callC X (as := [.int (xs (i + 1))]) (rest := []) hdC hC k_357 k_358 k_359 k_360 hdX5_pass rfl (Nat.le_of_ble_eq_true rfl) rfl (Nat.le_of_ble_eq_true rfl) dL_law_524 (fun u hu => ?_)
  refine zb_al2 X dL_law_527 ?_
  refine zb_arg X hX hbl hL 1 (by omega) dL_law_528 dL_law_529 dL_law_530 (by decide +kernel) dL_law_531 dL_law_532 ?_
  refine zb_callR X (as := [.int (xs (i + 1))]) (rest := [.int rv]) hdR hR k_679 k_680 k_681 k_682 hdX6_pass rfl (Nat.le_of_ble_eq_true rfl) rfl (Nat.le_of_ble_eq_true rfl) dL_law_533 (fun v hv => ?_)
  exact zb_eq X 915 dL_law_536 (by decide) (kk u v (hrel u v hu hv))
set_option maxHeartbeats 1000000 in
theorem lc_type (X : zLX p s m c b D tc tF tL tM) (hX : va_X b L xs s s.heap) (hbl : b < s.heap.size) (hL : L ≤ 2560) {B : Nat} (hR : REL B μ ν) (hB : B ≤ 600) (hi : i + 5 ≤ L) (kk : ∀ u v, REL (B + 1) u v → zB p l e s m b below meth c D tc Q u v 915 (lwL b s.heap.size (nI i)) []) : zB p l e s m b below meth c D tc Q μ ν 541 (lwL b s.heap.size (nI i)) [] := by
  obtain ⟨rv, PC, PR, dC, dR, hdC, hdR, hC, hR, hrel⟩ := op_type (l := l) hR hB ((xs (i + 1)).toUInt32 % 65536).toInt32 (pk_nc _)
  refine zb_al1 X dL_law_541 ?_
  refine zb_arg X hX hbl hL 1 (by omega) dL_law_542 dL_law_543 dL_law_544 (by decide +kernel) dL_law_545 dL_law_546 ?_
  refine zb_i2c X dL_law_547 ?_
  refine zb_callC X (as := [.int ((xs (i + 1)).toUInt32 % 65536).toInt32]) (rest := []) hdC hC k_382 k_383 k_384 k_385 hdX5_type rfl (Nat.le_of_ble_eq_true rfl) rfl (Nat.le_of_ble_eq_true rfl) dL_law_548 (fun u hu => ?_)
  refine zb_al2 X dL_law_551 ?_
  refine zb_arg X hX hbl hL 1 (by omega) dL_law_552 dL_law_553 dL_law_554 (by decide +kernel) dL_law_555 dL_law_556 ?_
  refine zb_i2c X dL_law_557 ?_
  refine zb_callR X (as := [.int ((xs (i + 1)).toUInt32 % 65536).toInt32]) (rest := [.int rv]) hdR hR k_691 k_692 k_693 k_694 hdX6_type rfl (Nat.le_of_ble_eq_true rfl) rfl (Nat.le_of_ble_eq_true rfl) dL_law_558 (fun v hv => ?_)
  exact zb_eq X 915 dL_law_561 (by decide) (kk u v (hrel u v hu hv))
set_option maxHeartbeats 1000000 in
theorem lc_clearText (X : zLX p s m c b D tc tF tL tM) (hX : va_X b L xs s s.heap) (hbl : b < s.heap.size) (hL : L ≤ 2560) {B : Nat} (hR : REL B μ ν) (hB : B ≤ 600) (hi : i + 5 ≤ L) (kk : ∀ u v, REL (B + 1) u v → zB p l e s m b below meth c D tc Q u v 915 (lwL b s.heap.size (nI i)) []) : zB p l e s m b below meth c D tc Q μ ν 566 (lwL b s.heap.size (nI i)) [] := by
  obtain ⟨rv, PC, PR, dC, dR, hdC, hdR, hC, hR, hrel⟩ := op_clearText (l := l) hR hB 
  refine zb_al1 X dL_law_566 ?_
  refine zb_callC X (as := []) (rest := []) hdC hC k_386 k_387 k_388 k_389 hdX5_clearText rfl (Nat.le_of_ble_eq_true rfl) rfl (Nat.le_of_ble_eq_true rfl) dL_law_567 (fun u hu => ?_)
  refine zb_al2 X dL_law_570 ?_
  refine zb_callR X (as := []) (rest := [.int rv]) hdR hR k_695 k_696 k_697 k_698 hdX6_clearText rfl (Nat.le_of_ble_eq_true rfl) rfl (Nat.le_of_ble_eq_true rfl) dL_law_571 (fun v hv => ?_)
  exact zb_eq X 915 dL_law_574 (by decide) (kk u v (hrel u v hu hv))
set_option maxHeartbeats 1000000 in
theorem lc_readTransfers (X : zLX p s m c b D tc tF tL tM) (hX : va_X b L xs s s.heap) (hbl : b < s.heap.size) (hL : L ≤ 2560) {B : Nat} (hR : REL B μ ν) (hB : B ≤ 600) (hi : i + 5 ≤ L) (kk : ∀ u v, REL (B + 1) u v → zB p l e s m b below meth c D tc Q u v 915 (lwL b s.heap.size (nI i)) []) : zB p l e s m b below meth c D tc Q μ ν 579 (lwL b s.heap.size (nI i)) [] := by
  obtain ⟨rv, PC, PR, dC, dR, hdC, hdR, hC, hR, hrel⟩ := op_readTransfers (l := l) hR hB 
  refine zb_al1 X dL_law_579 ?_
  refine zb_callC X (as := []) (rest := []) hdC hC k_390 k_391 k_392 k_393 hdX5_readTransfers rfl (Nat.le_of_ble_eq_true rfl) rfl (Nat.le_of_ble_eq_true rfl) dL_law_580 (fun u hu => ?_)
  refine zb_al2 X dL_law_583 ?_
  refine zb_callR X (as := []) (rest := [.int rv]) hdR hR k_699 k_700 k_701 k_702 hdX6_readTransfers rfl (Nat.le_of_ble_eq_true rfl) rfl (Nat.le_of_ble_eq_true rfl) dL_law_584 (fun v hv => ?_)
  exact zb_eq X 915 dL_law_587 (by decide) (kk u v (hrel u v hu hv))
set_option maxHeartbeats 1000000 in
theorem lc_undo (X : zLX p s m c b D tc tF tL tM) (hX : va_X b L xs s s.heap) (hbl : b < s.heap.size) (hL : L ≤ 2560) {B : Nat} (hR : REL B μ ν) (hB : B ≤ 600) (hi : i + 5 ≤ L) (kk : ∀ u v, REL (B + 1) u v → zB p l e s m b below meth c D tc Q u v 915 (lwL b s.heap.size (nI i)) []) : zB p l e s m b below meth c D tc Q μ ν 592 (lwL b s.heap.size (nI i)) [] := by
  obtain ⟨rv, PC, PR, dC, dR, hdC, hdR, hC, hR, hrel⟩ := op_undo (l := l) hR hB 
  refine zb_al1 X dL_law_592 ?_
  refine zb_callC X (as := []) (rest := []) hdC hC k_415 k_416 k_417 k_418 hdX5_undo rfl (Nat.le_of_ble_eq_true rfl) rfl (Nat.le_of_ble_eq_true rfl) dL_law_593 (fun u hu => ?_)
  refine zb_al2 X dL_law_596 ?_
  refine zb_callR X (as := []) (rest := [.int rv]) hdR hR k_573 k_574 k_575 k_576 hdX6_undo rfl (Nat.le_of_ble_eq_true rfl) rfl (Nat.le_of_ble_eq_true rfl) dL_law_597 (fun v hv => ?_)
  exact zb_eq X 915 dL_law_600 (by decide) (kk u v (hrel u v hu hv))
set_option maxHeartbeats 1000000 in
theorem lc_keep (X : zLX p s m c b D tc tF tL tM) (hX : va_X b L xs s s.heap) (hbl : b < s.heap.size) (hL : L ≤ 2560) {B : Nat} (hR : REL B μ ν) (hB : B ≤ 600) (hi : i + 5 ≤ L) (kk : ∀ u v, REL (B + 1) u v → zB p l e s m b below meth c D tc Q u v 915 (lwL b s.heap.size (nI i)) []) : zB p l e s m b below meth c D tc Q μ ν 605 (lwL b s.heap.size (nI i)) [] := by
  obtain ⟨rv, PC, PR, dC, dR, hdC, hdR, hC, hR, hrel⟩ := op_keep (l := l) hR hB 
  refine zb_al1 X dL_law_605 ?_
  refine zb_callC X (as := []) (rest := []) hdC hC k_423 k_424 k_425 k_426 hdX5_keep rfl (Nat.le_of_ble_eq_true rfl) rfl (Nat.le_of_ble_eq_true rfl) dL_law_606 (fun u hu => ?_)
  refine zb_al2 X dL_law_609 ?_
  refine zb_callR X (as := []) (rest := [.int rv]) hdR hR k_581 k_582 k_583 k_584 hdX6_keep rfl (Nat.le_of_ble_eq_true rfl) rfl (Nat.le_of_ble_eq_true rfl) dL_law_610 (fun v hv => ?_)
  exact zb_eq X 915 dL_law_613 (by decide) (kk u v (hrel u v hu hv))
set_option maxHeartbeats 1000000 in
theorem lc_restore (X : zLX p s m c b D tc tF tL tM) (hX : va_X b L xs s s.heap) (hbl : b < s.heap.size) (hL : L ≤ 2560) {B : Nat} (hR : REL B μ ν) (hB : B ≤ 600) (hi : i + 5 ≤ L) (kk : ∀ u v, REL (B + 1) u v → zB p l e s m b below meth c D tc Q u v 915 (lwL b s.heap.size (nI i)) []) : zB p l e s m b below meth c D tc Q μ ν 618 (lwL b s.heap.size (nI i)) [] := by
  obtain ⟨rv, PC, PR, dC, dR, hdC, hdR, hC, hR, hrel⟩ := op_restore (l := l) hR hB 
  refine zb_al1 X dL_law_618 ?_
  refine zb_callC X (as := []) (rest := []) hdC hC k_427 k_428 k_429 k_430 hdX5_restore rfl (Nat.le_of_ble_eq_true rfl) rfl (Nat.le_of_ble_eq_true rfl) dL_law_619 (fun u hu => ?_)
  refine zb_al2 X dL_law_622 ?_
  refine zb_callR X (as := []) (rest := [.int rv]) hdR hR k_585 k_586 k_587 k_588 hdX6_restore rfl (Nat.le_of_ble_eq_true rfl) rfl (Nat.le_of_ble_eq_true rfl) dL_law_623 (fun v hv => ?_)
  exact zb_eq X 915 dL_law_626 (by decide) (kk u v (hrel u v hu hv))
set_option maxHeartbeats 1000000 in
theorem lc_firm (X : zLX p s m c b D tc tF tL tM) (hX : va_X b L xs s s.heap) (hbl : b < s.heap.size) (hL : L ≤ 2560) {B : Nat} (hR : REL B μ ν) (hB : B ≤ 600) (hi : i + 5 ≤ L) (kk : ∀ u v, REL (B + 1) u v → zB p l e s m b below meth c D tc Q u v 915 (lwL b s.heap.size (nI i)) []) : zB p l e s m b below meth c D tc Q μ ν 631 (lwL b s.heap.size (nI i)) [] := by
  obtain ⟨rv, PC, PR, dC, dR, hdC, hdR, hC, hR, hrel⟩ := op_firm (l := l) hR hB (xs (i + 1)) (xs (i + 2))
  refine zb_al1 X dL_law_631 ?_
  refine zb_arg X hX hbl hL 1 (by omega) dL_law_632 dL_law_633 dL_law_634 (by decide +kernel) dL_law_635 dL_law_636 ?_
  refine zb_arg X hX hbl hL 2 (by omega) dL_law_637 dL_law_638 dL_law_639 (by decide +kernel) dL_law_640 dL_law_641 ?_
  refine zb_callC X (as := [.int (xs (i + 1)), .int (xs (i + 2))]) (rest := []) hdC hC k_431 k_432 k_433 k_434 hdX5_firm rfl (Nat.le_of_ble_eq_true rfl) rfl (Nat.le_of_ble_eq_true rfl) dL_law_642 (fun u hu => ?_)
  refine zb_al2 X dL_law_645 ?_
  refine zb_arg X hX hbl hL 1 (by omega) dL_law_646 dL_law_647 dL_law_648 (by decide +kernel) dL_law_649 dL_law_650 ?_
  refine zb_arg X hX hbl hL 2 (by omega) dL_law_651 dL_law_652 dL_law_653 (by decide +kernel) dL_law_654 dL_law_655 ?_
  refine zb_callR X (as := [.int (xs (i + 1)), .int (xs (i + 2))]) (rest := [.int rv]) hdR hR k_727 k_728 k_729 k_730 hdX6_firm rfl (Nat.le_of_ble_eq_true rfl) rfl (Nat.le_of_ble_eq_true rfl) dL_law_656 (fun v hv => ?_)
  exact zb_eq X 915 dL_law_659 (by decide) (kk u v (hrel u v hu hv))
set_option maxHeartbeats 1000000 in
theorem lc_holds (X : zLX p s m c b D tc tF tL tM) (hX : va_X b L xs s s.heap) (hbl : b < s.heap.size) (hL : L ≤ 2560) {B : Nat} (hR : REL B μ ν) (hB : B ≤ 600) (hi : i + 5 ≤ L) (kk : ∀ u v, REL (B + 1) u v → zB p l e s m b below meth c D tc Q u v 915 (lwL b s.heap.size (nI i)) []) : zB p l e s m b below meth c D tc Q μ ν 664 (lwL b s.heap.size (nI i)) [] := by
  obtain ⟨rv, PC, PR, dC, dR, hdC, hdR, hC, hR, hrel⟩ := op_holds (l := l) hR hB (xs (i + 1)) (xs (i + 2))
  refine zb_al1 X dL_law_664 ?_
  refine zb_arg X hX hbl hL 1 (by omega) dL_law_665 dL_law_666 dL_law_667 (by decide +kernel) dL_law_668 dL_law_669 ?_
  refine zb_arg X hX hbl hL 2 (by omega) dL_law_670 dL_law_671 dL_law_672 (by decide +kernel) dL_law_673 dL_law_674 ?_
  refine zb_callC X (as := [.int (xs (i + 1)), .int (xs (i + 2))]) (rest := []) hdC hC k_457 k_458 k_459 k_460 hdX5_holds rfl (Nat.le_of_ble_eq_true rfl) rfl (Nat.le_of_ble_eq_true rfl) dL_law_675 (fun u hu => ?_)
  refine zb_al2 X dL_law_678 ?_
  refine zb_arg X hX hbl hL 1 (by omega) dL_law_679 dL_law_680 dL_law_681 (by decide +kernel) dL_law_682 dL_law_683 ?_
  refine zb_arg X hX hbl hL 2 (by omega) dL_law_684 dL_law_685 dL_law_686 (by decide +kernel) dL_law_687 dL_law_688 ?_
  refine zb_callR X (as := [.int (xs (i + 1)), .int (xs (i + 2))]) (rest := [.int rv]) hdR hR k_747 k_748 k_749 k_750 hdX6_holds rfl (Nat.le_of_ble_eq_true rfl) rfl (Nat.le_of_ble_eq_true rfl) dL_law_689 (fun v hv => ?_)
  exact zb_eq X 915 dL_law_692 (by decide) (kk u v (hrel u v hu hv))
set_option maxHeartbeats 1000000 in
theorem lc_offsets (X : zLX p s m c b D tc tF tL tM) (hX : va_X b L xs s s.heap) (hbl : b < s.heap.size) (hL : L ≤ 2560) {B : Nat} (hR : REL B μ ν) (hB : B ≤ 600) (hi : i + 5 ≤ L) (kk : ∀ u v, REL (B + 1) u v → zB p l e s m b below meth c D tc Q u v 915 (lwL b s.heap.size (nI i)) []) : zB p l e s m b below meth c D tc Q μ ν 697 (lwL b s.heap.size (nI i)) [] := by
  obtain ⟨rv, PC, PR, dC, dR, hdC, hdR, hC, hR, hrel⟩ := op_offsets (l := l) hR hB (xs (i + 1)) (xs (i + 2)) (xs (i + 3))
  refine zb_al1 X dL_law_697 ?_
  refine zb_arg X hX hbl hL 1 (by omega) dL_law_698 dL_law_699 dL_law_700 (by decide +kernel) dL_law_701 dL_law_702 ?_
  refine zb_arg X hX hbl hL 2 (by omega) dL_law_703 dL_law_704 dL_law_705 (by decide +kernel) dL_law_706 dL_law_707 ?_
  refine zb_arg X hX hbl hL 3 (by omega) dL_law_708 dL_law_709 dL_law_710 (by decide +kernel) dL_law_711 dL_law_712 ?_
  refine zb_callC X (as := [.int (xs (i + 1)), .int (xs (i + 2)), .int (xs (i + 3))]) (rest := []) hdC hC k_461 k_462 k_463 k_464 hdX5_offsets rfl (Nat.le_of_ble_eq_true rfl) rfl (Nat.le_of_ble_eq_true rfl) dL_law_713 (fun u hu => ?_)
  refine zb_al2 X dL_law_716 ?_
  refine zb_arg X hX hbl hL 1 (by omega) dL_law_717 dL_law_718 dL_law_719 (by decide +kernel) dL_law_720 dL_law_721 ?_
  refine zb_arg X hX hbl hL 2 (by omega) dL_law_722 dL_law_723 dL_law_724 (by decide +kernel) dL_law_725 dL_law_726 ?_
  refine zb_arg X hX hbl hL 3 (by omega) dL_law_727 dL_law_728 dL_law_729 (by decide +kernel) dL_law_730 dL_law_731 ?_
  refine zb_callR X (as := [.int (xs (i + 1)), .int (xs (i + 2)), .int (xs (i + 3))]) (rest := [.int rv]) hdR hR k_751 k_752 k_753 k_754 hdX6_offsets rfl (Nat.le_of_ble_eq_true rfl) rfl (Nat.le_of_ble_eq_true rfl) dL_law_732 (fun v hv => ?_)
  exact zb_eq X 915 dL_law_735 (by decide) (kk u v (hrel u v hu hv))
set_option maxHeartbeats 1000000 in
theorem lc_vintage (X : zLX p s m c b D tc tF tL tM) (hX : va_X b L xs s s.heap) (hbl : b < s.heap.size) (hL : L ≤ 2560) {B : Nat} (hR : REL B μ ν) (hB : B ≤ 600) (hi : i + 5 ≤ L) (kk : ∀ u v, REL (B + 1) u v → zB p l e s m b below meth c D tc Q u v 915 (lwL b s.heap.size (nI i)) []) : zB p l e s m b below meth c D tc Q μ ν 740 (lwL b s.heap.size (nI i)) [] := by
  obtain ⟨rv, PC, PR, dC, dR, hdC, hdR, hC, hR, hrel⟩ := op_vintage (l := l) hR hB (xs (i + 1)) (xs (i + 2))
  refine zb_al1 X dL_law_740 ?_
  refine zb_arg X hX hbl hL 1 (by omega) dL_law_741 dL_law_742 dL_law_743 (by decide +kernel) dL_law_744 dL_law_745 ?_
  refine zb_arg X hX hbl hL 2 (by omega) dL_law_746 dL_law_747 dL_law_748 (by decide +kernel) dL_law_749 dL_law_750 ?_
  refine zb_callC X (as := [.int (xs (i + 1)), .int (xs (i + 2))]) (rest := []) hdC hC k_466 k_467 k_468 k_469 hdX5_vintage rfl (Nat.le_of_ble_eq_true rfl) rfl (Nat.le_of_ble_eq_true rfl) dL_law_751 (fun u hu => ?_)
  refine zb_al2 X dL_law_754 ?_
  refine zb_arg X hX hbl hL 1 (by omega) dL_law_755 dL_law_756 dL_law_757 (by decide +kernel) dL_law_758 dL_law_759 ?_
  refine zb_arg X hX hbl hL 2 (by omega) dL_law_760 dL_law_761 dL_law_762 (by decide +kernel) dL_law_763 dL_law_764 ?_
  refine zb_callR X (as := [.int (xs (i + 1)), .int (xs (i + 2))]) (rest := [.int rv]) hdR hR k_755 k_756 k_757 k_758 hdX6_vintage rfl (Nat.le_of_ble_eq_true rfl) rfl (Nat.le_of_ble_eq_true rfl) dL_law_765 (fun v hv => ?_)
  exact zb_eq X 915 dL_law_768 (by decide) (kk u v (hrel u v hu hv))
set_option maxHeartbeats 1000000 in
theorem lc_grade (X : zLX p s m c b D tc tF tL tM) (hX : va_X b L xs s s.heap) (hbl : b < s.heap.size) (hL : L ≤ 2560) {B : Nat} (hR : REL B μ ν) (hB : B ≤ 600) (hi : i + 5 ≤ L) (kk : ∀ u v, REL (B + 1) u v → zB p l e s m b below meth c D tc Q u v 915 (lwL b s.heap.size (nI i)) []) : zB p l e s m b below meth c D tc Q μ ν 773 (lwL b s.heap.size (nI i)) [] := by
  obtain ⟨rv, PC, PR, dC, dR, hdC, hdR, hC, hR, hrel⟩ := op_grade (l := l) hR hB (xs (i + 1)) (xs (i + 2))
  refine zb_al1 X dL_law_773 ?_
  refine zb_arg X hX hbl hL 1 (by omega) dL_law_774 dL_law_775 dL_law_776 (by decide +kernel) dL_law_777 dL_law_778 ?_
  refine zb_arg X hX hbl hL 2 (by omega) dL_law_779 dL_law_780 dL_law_781 (by decide +kernel) dL_law_782 dL_law_783 ?_
  refine zb_callC X (as := [.int (xs (i + 1)), .int (xs (i + 2))]) (rest := []) hdC hC k_484 k_485 k_486 k_487 hdX5_grade rfl (Nat.le_of_ble_eq_true rfl) rfl (Nat.le_of_ble_eq_true rfl) dL_law_784 (fun u hu => ?_)
  refine zb_al2 X dL_law_787 ?_
  refine zb_arg X hX hbl hL 1 (by omega) dL_law_788 dL_law_789 dL_law_790 (by decide +kernel) dL_law_791 dL_law_792 ?_
  refine zb_arg X hX hbl hL 2 (by omega) dL_law_793 dL_law_794 dL_law_795 (by decide +kernel) dL_law_796 dL_law_797 ?_
  refine zb_callR X (as := [.int (xs (i + 1)), .int (xs (i + 2))]) (rest := [.int rv]) hdR hR k_771 k_772 k_773 k_774 hdX6_grade rfl (Nat.le_of_ble_eq_true rfl) rfl (Nat.le_of_ble_eq_true rfl) dL_law_798 (fun v hv => ?_)
  exact zb_eq X 915 dL_law_801 (by decide) (kk u v (hrel u v hu hv))
set_option maxHeartbeats 1000000 in
theorem lc_holder (X : zLX p s m c b D tc tF tL tM) (hX : va_X b L xs s s.heap) (hbl : b < s.heap.size) (hL : L ≤ 2560) {B : Nat} (hR : REL B μ ν) (hB : B ≤ 600) (hi : i + 5 ≤ L) (kk : ∀ u v, REL (B + 1) u v → zB p l e s m b below meth c D tc Q u v 915 (lwL b s.heap.size (nI i)) []) : zB p l e s m b below meth c D tc Q μ ν 806 (lwL b s.heap.size (nI i)) [] := by
  obtain ⟨rv, PC, PR, dC, dR, hdC, hdR, hC, hR, hrel⟩ := op_holder (l := l) hR hB (xs (i + 1)) (xs (i + 2))
  refine zb_al1 X dL_law_806 ?_
  refine zb_arg X hX hbl hL 1 (by omega) dL_law_807 dL_law_808 dL_law_809 (by decide +kernel) dL_law_810 dL_law_811 ?_
  refine zb_arg X hX hbl hL 2 (by omega) dL_law_812 dL_law_813 dL_law_814 (by decide +kernel) dL_law_815 dL_law_816 ?_
  refine zb_callC X (as := [.int (xs (i + 1)), .int (xs (i + 2))]) (rest := []) hdC hC k_492 k_493 k_494 k_495 hdX5_holder rfl (Nat.le_of_ble_eq_true rfl) rfl (Nat.le_of_ble_eq_true rfl) dL_law_817 (fun u hu => ?_)
  refine zb_al2 X dL_law_820 ?_
  refine zb_arg X hX hbl hL 1 (by omega) dL_law_821 dL_law_822 dL_law_823 (by decide +kernel) dL_law_824 dL_law_825 ?_
  refine zb_arg X hX hbl hL 2 (by omega) dL_law_826 dL_law_827 dL_law_828 (by decide +kernel) dL_law_829 dL_law_830 ?_
  refine zb_callR X (as := [.int (xs (i + 1)), .int (xs (i + 2))]) (rest := [.int rv]) hdR hR k_775 k_776 k_777 k_778 hdX6_holder rfl (Nat.le_of_ble_eq_true rfl) rfl (Nat.le_of_ble_eq_true rfl) dL_law_831 (fun v hv => ?_)
  exact zb_eq X 915 dL_law_834 (by decide) (kk u v (hrel u v hu hv))
set_option maxHeartbeats 1000000 in
theorem lc_plan (X : zLX p s m c b D tc tF tL tM) (hX : va_X b L xs s s.heap) (hbl : b < s.heap.size) (hL : L ≤ 2560) {B : Nat} (hR : REL B μ ν) (hB : B ≤ 600) (hi : i + 5 ≤ L) (kk : ∀ u v, REL (B + 1) u v → zB p l e s m b below meth c D tc Q u v 915 (lwL b s.heap.size (nI i)) []) : zB p l e s m b below meth c D tc Q μ ν 839 (lwL b s.heap.size (nI i)) [] := by
  obtain ⟨rv, PC, PR, dC, dR, hdC, hdR, hC, hR, hrel⟩ := op_plan (l := l) hR hB (xs (i + 1)) (xs (i + 2)) (xs (i + 3)) (xs (i + 4))
  refine zb_al1 X dL_law_839 ?_
  refine zb_arg X hX hbl hL 1 (by omega) dL_law_840 dL_law_841 dL_law_842 (by decide +kernel) dL_law_843 dL_law_844 ?_
  refine zb_arg X hX hbl hL 2 (by omega) dL_law_845 dL_law_846 dL_law_847 (by decide +kernel) dL_law_848 dL_law_849 ?_
  refine zb_arg X hX hbl hL 3 (by omega) dL_law_850 dL_law_851 dL_law_852 (by decide +kernel) dL_law_853 dL_law_854 ?_
  refine zb_arg X hX hbl hL 4 (by omega) dL_law_855 dL_law_856 dL_law_857 (by decide +kernel) dL_law_858 dL_law_859 ?_
  refine zb_callC X (as := [.int (xs (i + 1)), .int (xs (i + 2)), .int (xs (i + 3)), .int (xs (i + 4))]) (rest := []) hdC hC k_504 k_505 k_506 k_507 hdX5_plan rfl (Nat.le_of_ble_eq_true rfl) rfl (Nat.le_of_ble_eq_true rfl) dL_law_860 (fun u hu => ?_)
  refine zb_al2 X dL_law_863 ?_
  refine zb_arg X hX hbl hL 1 (by omega) dL_law_864 dL_law_865 dL_law_866 (by decide +kernel) dL_law_867 dL_law_868 ?_
  refine zb_arg X hX hbl hL 2 (by omega) dL_law_869 dL_law_870 dL_law_871 (by decide +kernel) dL_law_872 dL_law_873 ?_
  refine zb_arg X hX hbl hL 3 (by omega) dL_law_874 dL_law_875 dL_law_876 (by decide +kernel) dL_law_877 dL_law_878 ?_
  refine zb_arg X hX hbl hL 4 (by omega) dL_law_879 dL_law_880 dL_law_881 (by decide +kernel) dL_law_882 dL_law_883 ?_
  refine zb_callR X (as := [.int (xs (i + 1)), .int (xs (i + 2)), .int (xs (i + 3)), .int (xs (i + 4))]) (rest := [.int rv]) hdR hR k_779 k_780 k_781 k_782 hdX6_plan rfl (Nat.le_of_ble_eq_true rfl) rfl (Nat.le_of_ble_eq_true rfl) dL_law_884 (fun v hv => ?_)
  exact zb_eq X 915 dL_law_887 (by decide) (kk u v (hrel u v hu hv))
set_option maxHeartbeats 1000000 in
theorem lc_count (X : zLX p s m c b D tc tF tL tM) (hX : va_X b L xs s s.heap) (hbl : b < s.heap.size) (hL : L ≤ 2560) {B : Nat} (hR : REL B μ ν) (hB : B ≤ 600) (hi : i + 5 ≤ L) (kk : ∀ u v, REL (B + 1) u v → zB p l e s m b below meth c D tc Q u v 915 (lwL b s.heap.size (nI i)) []) : zB p l e s m b below meth c D tc Q μ ν 892 (lwL b s.heap.size (nI i)) [] := by
  obtain ⟨rv, PC, PR, dC, dR, hdC, hdR, hC, hR, hrel⟩ := op_count (l := l) hR hB (xs (i + 1))
  refine zb_al1 X dL_law_892 ?_
  refine zb_arg X hX hbl hL 1 (by omega) dL_law_893 dL_law_894 dL_law_895 (by decide +kernel) dL_law_896 dL_law_897 ?_
  refine zb_callC X (as := [.int (xs (i + 1))]) (rest := []) hdC hC k_508 k_509 k_510 k_511 hdX5_count rfl (Nat.le_of_ble_eq_true rfl) rfl (Nat.le_of_ble_eq_true rfl) dL_law_898 (fun u hu => ?_)
  refine zb_al2 X dL_law_901 ?_
  refine zb_arg X hX hbl hL 1 (by omega) dL_law_902 dL_law_903 dL_law_904 (by decide +kernel) dL_law_905 dL_law_906 ?_
  refine zb_callR X (as := [.int (xs (i + 1))]) (rest := [.int rv]) hdR hR k_783 k_784 k_785 k_786 hdX6_count rfl (Nat.le_of_ble_eq_true rfl) rfl (Nat.le_of_ble_eq_true rfl) dL_law_907 (fun v hv => ?_)
  exact zb_eq X 915 dL_law_910 (by decide) (kk u v (hrel u v hu hv))
end ZLC
