/-! acts: an act of the script -/
set_option maxHeartbeats 4000000 in
set_option maxRecDepth 100000 in
theorem l_acts_t {pP : Program} {l : Launch} {eE : Env} {sS : State} {mM : MethodId} {aS : Array Value} {bL : List Frame} {mT : Method} {cO : Code} {A : Nat → Prop} {D : va_G} {tc : Nat → ClassId} {ad : Nat → Nat} {tF tL tM : Nat} {ow : Nat → Nat} (E : zN 299 A ad) (μ : Nat → Int32) {B m c ro z : Nat} (h : INV B μ) (hB : B ≤ 600) (S : clsS μ m c ro z) (hc1 : 1 ≤ c) {y f to t : Int32} (X : zX pP sS mM aS mT cO A D vwCl ad 299 7 (zK A D tc tF tL tM) (zTY tc) ow shC cL_acts RL (some .int)) : zG pP l eE (zrm 6) sS mM aS bL mT cO A D vwCl tc ad 299 shC 7 (MQ bL (va_Qi (fun r u => ACT B μ r u) (fun u t => zW D vwCl tc ad 299 shC u t.heap) A) aS sS (zrm 6).cells (zrm 6).slots A) μ 76 [(0, .ref (ad (0))), (1, .int (y)), (2, .int (nI (c))), (3, .int (f)), (4, .int (to)), (5, .int (t))] [] := by
  have h8 := S.2.2.2.1
  have hm2 := S.2.1
  refine zr_iloadn X 1 dL_acts_76 rfl ?_
  refine zr_bipush X (nI (18)) dL_acts_77 (by decide +kernel) ?_
  refine zr_ishr X dL_acts_79 ?_
  refine zr_iconst X (nI (1)) dL_acts_80 (by decide +kernel) ?_
  refine zr_aloadn X 0 dL_acts_81 rfl ?_
  refine zr_iconst X (nI (1)) dL_acts_82 (by decide +kernel) ?_
  refine zr_dVi (C := RX5) (ci := 5) [.int (nI (1))] [.int (nI (1)), .int (y >>> ((nI (18)) &&& 31))] X (zK_ok A D tc tF tL tM) (d_count_1 E μ S rfl) k_535 k_509 k_510 k_1 k_511 hdX5_count ⟨rfl, rfl⟩ ⟨Nat.le_of_ble_eq_true rfl, Nat.le_of_ble_eq_true rfl⟩ (by omega) sc_0 rfl rfl rfl (Nat.le_of_ble_eq_true rfl) dL_acts_83 ?_
  refine zr_iadd X (nI ((m / 12) + 1)) dL_acts_86 ((nI_add _ _).trans (congrArg nI (by omega))) ?_
  refine zr_low X ((m / 12) + 1) k_312 dL_acts_87 [] (by omega) (by omega) ⟨Nat.le_of_ble_eq_true rfl, Nat.le_of_ble_eq_true rfl, Nat.le_of_ble_eq_true rfl⟩ (fun j87 hj87 => ?_)
  refine zr_istore X [1, 2, 3, 4, 5, 6, 0] [(0, .ref (ad (0))), (1, .int (y)), (2, .int (nI (c))), (3, .int (f)), (4, .int (to)), (5, .int (t)), (6, .int (nI (j87)))] dL_acts_90 (by decide) rfl ?_
  refine zr_iloadn X 1 dL_acts_92 rfl ?_
  refine zr_bipush X (nI (20)) dL_acts_93 (by decide +kernel) ?_
  refine zr_low X (20) k_312 dL_acts_95 [] (by omega) (by omega) ⟨Nat.le_of_ble_eq_true rfl, Nat.le_of_ble_eq_true rfl, Nat.le_of_ble_eq_true rfl⟩ (fun j95 hj95 => ?_)
  rcases (show j95 = 0 ∨ j95 = 1 ∨ j95 = 2 ∨ j95 = 3 ∨ j95 = 4 ∨ j95 = 5 ∨ j95 = 6 ∨ j95 = 7 ∨ j95 = 8 ∨ j95 = 9 ∨ j95 = 10 ∨ j95 = 11 ∨ j95 = 12 ∨ j95 = 13 ∨ j95 = 14 ∨ j95 = 15 ∨ j95 = 16 ∨ j95 = 17 ∨ j95 = 18 ∨ j95 = 19 by omega) with rfl | rfl | rfl | rfl | rfl | rfl | rfl | rfl | rfl | rfl | rfl | rfl | rfl | rfl | rfl | rfl | rfl | rfl | rfl | rfl
  · refine zr_tswI (off := 82) X 180 dL_acts_98 ⟨by decide +kernel, by decide +kernel, by decide +kernel⟩ (by decide) ?_
    refine zr_aloadn X 0 dL_acts_180 rfl ?_
    refine zr_iloadn X 3 dL_acts_181 rfl ?_
    refine zr_iload X 5 dL_acts_182 rfl ?_
    refine zr_cVi (C := RX5) (ci := 5) [.int (f), .int (t)] [] X (zK_ok A D tc tF tL tM) (a_issue h hB (f) (t) D tc ad A tF tL tM E) k_p258 k_270 k_271 k_1 k_272 hdX5_issue ⟨rfl, rfl⟩ ⟨Nat.le_of_ble_eq_true rfl, Nat.le_of_ble_eq_true rfl⟩ (by omega) sc_0 rfl rfl rfl (Nat.le_of_ble_eq_true rfl) dL_acts_184 (fun z19 u19 hq19 => ?_)
    exact zr_iret X dL_acts_187 hq19
  · refine zr_tswI (off := 82) X 180 dL_acts_98 ⟨by decide +kernel, by decide +kernel, by decide +kernel⟩ (by decide) ?_
    refine zr_aloadn X 0 dL_acts_180 rfl ?_
    refine zr_iloadn X 3 dL_acts_181 rfl ?_
    refine zr_iload X 5 dL_acts_182 rfl ?_
    refine zr_cVi (C := RX5) (ci := 5) [.int (f), .int (t)] [] X (zK_ok A D tc tF tL tM) (a_issue h hB (f) (t) D tc ad A tF tL tM E) k_p258 k_270 k_271 k_1 k_272 hdX5_issue ⟨rfl, rfl⟩ ⟨Nat.le_of_ble_eq_true rfl, Nat.le_of_ble_eq_true rfl⟩ (by omega) sc_0 rfl rfl rfl (Nat.le_of_ble_eq_true rfl) dL_acts_184 (fun z25 u25 hq25 => ?_)
    exact zr_iret X dL_acts_187 hq25
  · refine zr_tswI (off := 82) X 180 dL_acts_98 ⟨by decide +kernel, by decide +kernel, by decide +kernel⟩ (by decide) ?_
    refine zr_aloadn X 0 dL_acts_180 rfl ?_
    refine zr_iloadn X 3 dL_acts_181 rfl ?_
    refine zr_iload X 5 dL_acts_182 rfl ?_
    refine zr_cVi (C := RX5) (ci := 5) [.int (f), .int (t)] [] X (zK_ok A D tc tF tL tM) (a_issue h hB (f) (t) D tc ad A tF tL tM E) k_p258 k_270 k_271 k_1 k_272 hdX5_issue ⟨rfl, rfl⟩ ⟨Nat.le_of_ble_eq_true rfl, Nat.le_of_ble_eq_true rfl⟩ (by omega) sc_0 rfl rfl rfl (Nat.le_of_ble_eq_true rfl) dL_acts_184 (fun z31 u31 hq31 => ?_)
    exact zr_iret X dL_acts_187 hq31
  · refine zr_tswI (off := 90) X 188 dL_acts_98 ⟨by decide +kernel, by decide +kernel, by decide +kernel⟩ (by decide) ?_
    refine zr_aloadn X 0 dL_acts_188 rfl ?_
    refine zr_iloadn X 3 dL_acts_189 rfl ?_
    refine zr_iloadn X 1 dL_acts_190 rfl ?_
    refine zr_bipush X (nI (18)) dL_acts_191 (by decide +kernel) ?_
    refine zr_ishr X dL_acts_193 ?_
    refine zr_iconst X (nI (4)) dL_acts_194 (by decide +kernel) ?_
    refine zr_low X (4) k_312 dL_acts_195 [.int (f), .ref (ad (0))] (by omega) (by omega) ⟨Nat.le_of_ble_eq_true rfl, Nat.le_of_ble_eq_true rfl, Nat.le_of_ble_eq_true rfl⟩ (fun j195 hj195 => ?_)
    refine zr_iload X 5 dL_acts_198 rfl ?_
    refine zr_cVi (C := RX5) (ci := 5) [.int (f), .int (nI (j195)), .int (t)] [] X (zK_ok A D tc tF tL tM) (a_issueOffsets h hB (f) (nI (j195)) (t) D tc ad A tF tL tM E) k_382 k_285 k_286 k_1 k_287 hdX5_issueOffsets ⟨rfl, rfl⟩ ⟨Nat.le_of_ble_eq_true rfl, Nat.le_of_ble_eq_true rfl⟩ (by omega) sc_0 rfl rfl rfl (Nat.le_of_ble_eq_true rfl) dL_acts_200 (fun z42 u42 hq42 => ?_)
    exact zr_iret X dL_acts_203 hq42
  · refine zr_tswI (off := 90) X 188 dL_acts_98 ⟨by decide +kernel, by decide +kernel, by decide +kernel⟩ (by decide) ?_
    refine zr_aloadn X 0 dL_acts_188 rfl ?_
    refine zr_iloadn X 3 dL_acts_189 rfl ?_
    refine zr_iloadn X 1 dL_acts_190 rfl ?_
    refine zr_bipush X (nI (18)) dL_acts_191 (by decide +kernel) ?_
    refine zr_ishr X dL_acts_193 ?_
    refine zr_iconst X (nI (4)) dL_acts_194 (by decide +kernel) ?_
    refine zr_low X (4) k_312 dL_acts_195 [.int (f), .ref (ad (0))] (by omega) (by omega) ⟨Nat.le_of_ble_eq_true rfl, Nat.le_of_ble_eq_true rfl, Nat.le_of_ble_eq_true rfl⟩ (fun j195 hj195 => ?_)
    refine zr_iload X 5 dL_acts_198 rfl ?_
    refine zr_cVi (C := RX5) (ci := 5) [.int (f), .int (nI (j195)), .int (t)] [] X (zK_ok A D tc tF tL tM) (a_issueOffsets h hB (f) (nI (j195)) (t) D tc ad A tF tL tM E) k_382 k_285 k_286 k_1 k_287 hdX5_issueOffsets ⟨rfl, rfl⟩ ⟨Nat.le_of_ble_eq_true rfl, Nat.le_of_ble_eq_true rfl⟩ (by omega) sc_0 rfl rfl rfl (Nat.le_of_ble_eq_true rfl) dL_acts_200 (fun z53 u53 hq53 => ?_)
    exact zr_iret X dL_acts_203 hq53
  · refine zr_tswI (off := 106) X 204 dL_acts_98 ⟨by decide +kernel, by decide +kernel, by decide +kernel⟩ (by decide) ?_
    refine zr_aloadn X 0 dL_acts_204 rfl ?_
    refine zr_iloadn X 3 dL_acts_205 rfl ?_
    refine zr_iload X 4 dL_acts_206 rfl ?_
    refine zr_iload X 6 dL_acts_208 rfl ?_
    refine zr_iload X 5 dL_acts_210 rfl ?_
    refine zr_cVi (C := RX5) (ci := 5) [.int (f), .int (to), .int (nI (j87)), .int (t)] [] X (zK_ok A D tc tF tL tM) (a_transfer h hB (f) (to) (nI (j87)) (t) D tc ad A tF tL tM E) k_p485 k_292 k_293 k_1 k_294 hdX5_transfer ⟨rfl, rfl⟩ ⟨Nat.le_of_ble_eq_true rfl, Nat.le_of_ble_eq_true rfl⟩ (by omega) sc_0 rfl rfl rfl (Nat.le_of_ble_eq_true rfl) dL_acts_212 (fun z61 u61 hq61 => ?_)
    exact zr_iret X dL_acts_215 hq61
  · refine zr_tswI (off := 106) X 204 dL_acts_98 ⟨by decide +kernel, by decide +kernel, by decide +kernel⟩ (by decide) ?_
    refine zr_aloadn X 0 dL_acts_204 rfl ?_
    refine zr_iloadn X 3 dL_acts_205 rfl ?_
    refine zr_iload X 4 dL_acts_206 rfl ?_
    refine zr_iload X 6 dL_acts_208 rfl ?_
    refine zr_iload X 5 dL_acts_210 rfl ?_
    refine zr_cVi (C := RX5) (ci := 5) [.int (f), .int (to), .int (nI (j87)), .int (t)] [] X (zK_ok A D tc tF tL tM) (a_transfer h hB (f) (to) (nI (j87)) (t) D tc ad A tF tL tM E) k_p485 k_292 k_293 k_1 k_294 hdX5_transfer ⟨rfl, rfl⟩ ⟨Nat.le_of_ble_eq_true rfl, Nat.le_of_ble_eq_true rfl⟩ (by omega) sc_0 rfl rfl rfl (Nat.le_of_ble_eq_true rfl) dL_acts_212 (fun z69 u69 hq69 => ?_)
    exact zr_iret X dL_acts_215 hq69
  · refine zr_tswI (off := 118) X 216 dL_acts_98 ⟨by decide +kernel, by decide +kernel, by decide +kernel⟩ (by decide) ?_
    refine zr_aloadn X 0 dL_acts_216 rfl ?_
    refine zr_iloadn X 3 dL_acts_217 rfl ?_
    refine zr_iload X 4 dL_acts_218 rfl ?_
    refine zr_iloadn X 1 dL_acts_220 rfl ?_
    refine zr_bipush X (nI (18)) dL_acts_221 (by decide +kernel) ?_
    refine zr_ishr X dL_acts_223 ?_
    refine zr_iconst X (nI (3)) dL_acts_224 (by decide +kernel) ?_
    refine zr_low X (3) k_312 dL_acts_225 [.int (to), .int (f), .ref (ad (0))] (by omega) (by omega) ⟨Nat.le_of_ble_eq_true rfl, Nat.le_of_ble_eq_true rfl, Nat.le_of_ble_eq_true rfl⟩ (fun j225 hj225 => ?_)
    refine zr_iload X 5 dL_acts_228 rfl ?_
    refine zr_cVi (C := RX5) (ci := 5) [.int (f), .int (to), .int (nI (j225)), .int (t)] [] X (zK_ok A D tc tF tL tM) (a_transferOffsets h hB (f) (to) (nI (j225)) (t) D tc ad A tF tL tM E) k_p500 k_309 k_310 k_1 k_311 hdX5_transferOffsets ⟨rfl, rfl⟩ ⟨Nat.le_of_ble_eq_true rfl, Nat.le_of_ble_eq_true rfl⟩ (by omega) sc_0 rfl rfl rfl (Nat.le_of_ble_eq_true rfl) dL_acts_230 (fun z81 u81 hq81 => ?_)
    exact zr_iret X dL_acts_233 hq81
  · refine zr_tswI (off := 136) X 234 dL_acts_98 ⟨by decide +kernel, by decide +kernel, by decide +kernel⟩ (by decide) ?_
    refine zr_aloadn X 0 dL_acts_234 rfl ?_
    refine zr_iloadn X 3 dL_acts_235 rfl ?_
    refine zr_iload X 6 dL_acts_236 rfl ?_
    refine zr_iload X 5 dL_acts_238 rfl ?_
    refine zr_cVi (C := RX5) (ci := 5) [.int (f), .int (nI (j87)), .int (t)] [] X (zK_ok A D tc tF tL tM) (a_cancel h hB (f) (nI (j87)) (t) D tc ad A tF tL tM E) k_390 k_313 k_314 k_1 k_315 hdX5_cancel ⟨rfl, rfl⟩ ⟨Nat.le_of_ble_eq_true rfl, Nat.le_of_ble_eq_true rfl⟩ (by omega) sc_0 rfl rfl rfl (Nat.le_of_ble_eq_true rfl) dL_acts_240 (fun z88 u88 hq88 => ?_)
    exact zr_iret X dL_acts_243 hq88
  · refine zr_tswI (off := 146) X 244 dL_acts_98 ⟨by decide +kernel, by decide +kernel, by decide +kernel⟩ (by decide) ?_
    refine zr_aloadn X 0 dL_acts_244 rfl ?_
    refine zr_iloadn X 3 dL_acts_245 rfl ?_
    refine zr_iload X 5 dL_acts_246 rfl ?_
    refine zr_cVi (C := RX5) (ci := 5) [.int (f), .int (t)] [] X (zK_ok A D tc tF tL tM) (a_report h hB (f) (t) D tc ad A tF tL tM E) k_699 k_318 k_319 k_1 k_320 hdX5_report ⟨rfl, rfl⟩ ⟨Nat.le_of_ble_eq_true rfl, Nat.le_of_ble_eq_true rfl⟩ (by omega) sc_0 rfl rfl rfl (Nat.le_of_ble_eq_true rfl) dL_acts_248 (fun z94 u94 hq94 => ?_)
    exact zr_iret X dL_acts_251 hq94
  · refine zr_tswI (off := 146) X 244 dL_acts_98 ⟨by decide +kernel, by decide +kernel, by decide +kernel⟩ (by decide) ?_
    refine zr_aloadn X 0 dL_acts_244 rfl ?_
    refine zr_iloadn X 3 dL_acts_245 rfl ?_
    refine zr_iload X 5 dL_acts_246 rfl ?_
    refine zr_cVi (C := RX5) (ci := 5) [.int (f), .int (t)] [] X (zK_ok A D tc tF tL tM) (a_report h hB (f) (t) D tc ad A tF tL tM E) k_699 k_318 k_319 k_1 k_320 hdX5_report ⟨rfl, rfl⟩ ⟨Nat.le_of_ble_eq_true rfl, Nat.le_of_ble_eq_true rfl⟩ (by omega) sc_0 rfl rfl rfl (Nat.le_of_ble_eq_true rfl) dL_acts_248 (fun z100 u100 hq100 => ?_)
    exact zr_iret X dL_acts_251 hq100
  · refine zr_tswI (off := 146) X 244 dL_acts_98 ⟨by decide +kernel, by decide +kernel, by decide +kernel⟩ (by decide) ?_
    refine zr_aloadn X 0 dL_acts_244 rfl ?_
    refine zr_iloadn X 3 dL_acts_245 rfl ?_
    refine zr_iload X 5 dL_acts_246 rfl ?_
    refine zr_cVi (C := RX5) (ci := 5) [.int (f), .int (t)] [] X (zK_ok A D tc tF tL tM) (a_report h hB (f) (t) D tc ad A tF tL tM E) k_699 k_318 k_319 k_1 k_320 hdX5_report ⟨rfl, rfl⟩ ⟨Nat.le_of_ble_eq_true rfl, Nat.le_of_ble_eq_true rfl⟩ (by omega) sc_0 rfl rfl rfl (Nat.le_of_ble_eq_true rfl) dL_acts_248 (fun z106 u106 hq106 => ?_)
    exact zr_iret X dL_acts_251 hq106
  · refine zr_tswI (off := 154) X 252 dL_acts_98 ⟨by decide +kernel, by decide +kernel, by decide +kernel⟩ (by decide) ?_
    refine zr_aloadn X 0 dL_acts_252 rfl ?_
    refine zr_iloadn X 3 dL_acts_253 rfl ?_
    refine zr_cVi (C := RX5) (ci := 5) [.int (f)] [] X (zK_ok A D tc tF tL tM) (a_verify h hB (f) D tc ad A tF tL tM E) k_p508 k_322 k_323 k_1 k_324 hdX5_verify ⟨rfl, rfl⟩ ⟨Nat.le_of_ble_eq_true rfl, Nat.le_of_ble_eq_true rfl⟩ (by omega) sc_0 rfl rfl rfl (Nat.le_of_ble_eq_true rfl) dL_acts_254 (fun z111 u111 hq111 => ?_)
    exact zr_iret X dL_acts_257 hq111
  · refine zr_tswI (off := 160) X 258 dL_acts_98 ⟨by decide +kernel, by decide +kernel, by decide +kernel⟩ (by decide) ?_
    refine zr_aloadn X 0 dL_acts_258 rfl ?_
    refine zr_iloadn X 3 dL_acts_259 rfl ?_
    refine zr_iload X 5 dL_acts_260 rfl ?_
    refine zr_iloadn X 1 dL_acts_262 rfl ?_
    refine zr_bipush X (nI (18)) dL_acts_263 (by decide +kernel) ?_
    refine zr_ishr X dL_acts_265 ?_
    refine zr_iconst X (nI (3)) dL_acts_266 (by decide +kernel) ?_
    refine zr_low X (3) k_312 dL_acts_267 [.int (t), .int (f), .ref (ad (0))] (by omega) (by omega) ⟨Nat.le_of_ble_eq_true rfl, Nat.le_of_ble_eq_true rfl, Nat.le_of_ble_eq_true rfl⟩ (fun j267 hj267 => ?_)
    refine zr_cVi (C := RX5) (ci := 5) [.int (f), .int (t), .int (nI (j267))] [] X (zK_ok A D tc tF tL tM) (a_surrender h hB (f) (t) (nI (j267)) D tc ad A tF tL tM E) k_p470 k_326 k_327 k_1 k_328 hdX5_surrender ⟨rfl, rfl⟩ ⟨Nat.le_of_ble_eq_true rfl, Nat.le_of_ble_eq_true rfl⟩ (by omega) sc_0 rfl rfl rfl (Nat.le_of_ble_eq_true rfl) dL_acts_270 (fun z122 u122 hq122 => ?_)
    exact zr_iret X dL_acts_273 hq122
  · refine zr_tswI (off := 160) X 258 dL_acts_98 ⟨by decide +kernel, by decide +kernel, by decide +kernel⟩ (by decide) ?_
    refine zr_aloadn X 0 dL_acts_258 rfl ?_
    refine zr_iloadn X 3 dL_acts_259 rfl ?_
    refine zr_iload X 5 dL_acts_260 rfl ?_
    refine zr_iloadn X 1 dL_acts_262 rfl ?_
    refine zr_bipush X (nI (18)) dL_acts_263 (by decide +kernel) ?_
    refine zr_ishr X dL_acts_265 ?_
    refine zr_iconst X (nI (3)) dL_acts_266 (by decide +kernel) ?_
    refine zr_low X (3) k_312 dL_acts_267 [.int (t), .int (f), .ref (ad (0))] (by omega) (by omega) ⟨Nat.le_of_ble_eq_true rfl, Nat.le_of_ble_eq_true rfl, Nat.le_of_ble_eq_true rfl⟩ (fun j267 hj267 => ?_)
    refine zr_cVi (C := RX5) (ci := 5) [.int (f), .int (t), .int (nI (j267))] [] X (zK_ok A D tc tF tL tM) (a_surrender h hB (f) (t) (nI (j267)) D tc ad A tF tL tM E) k_p470 k_326 k_327 k_1 k_328 hdX5_surrender ⟨rfl, rfl⟩ ⟨Nat.le_of_ble_eq_true rfl, Nat.le_of_ble_eq_true rfl⟩ (by omega) sc_0 rfl rfl rfl (Nat.le_of_ble_eq_true rfl) dL_acts_270 (fun z133 u133 hq133 => ?_)
    exact zr_iret X dL_acts_273 hq133
  · refine zr_tswI (off := 176) X 274 dL_acts_98 ⟨by decide +kernel, by decide +kernel, by decide +kernel⟩ (by decide) ?_
    refine zr_aloadn X 0 dL_acts_274 rfl ?_
    refine zr_iloadn X 1 dL_acts_275 rfl ?_
    refine zr_iconst X (nI (4)) dL_acts_276 (by decide +kernel) ?_
    refine zr_ishr X dL_acts_277 ?_
    refine zr_bipush X (nI (6)) dL_acts_278 (by decide +kernel) ?_
    refine zr_low X (6) k_312 dL_acts_280 [.ref (ad (0))] (by omega) (by omega) ⟨Nat.le_of_ble_eq_true rfl, Nat.le_of_ble_eq_true rfl, Nat.le_of_ble_eq_true rfl⟩ (fun j280 hj280 => ?_)
    refine zr_iloadn X 1 dL_acts_283 rfl ?_
    refine zr_bipush X (nI (9)) dL_acts_284 (by decide +kernel) ?_
    refine zr_ishr X dL_acts_286 ?_
    refine zr_bipush X (nI (103)) dL_acts_287 (by decide +kernel) ?_
    refine zr_low X (103) k_312 dL_acts_289 [.int (nI (j280)), .ref (ad (0))] (by omega) (by omega) ⟨Nat.le_of_ble_eq_true rfl, Nat.le_of_ble_eq_true rfl, Nat.le_of_ble_eq_true rfl⟩ (fun j289 hj289 => ?_)
    refine zr_cVi (C := RX5) (ci := 5) [.int (nI (j280)), .int (nI (j289))] [] X (zK_ok A D tc tF tL tM) (a_set h hB (nI (j280)) (nI (j289)) D tc ad A tF tL tM E) k_p250 k_262 k_263 k_1 k_264 hdX5_set ⟨rfl, rfl⟩ ⟨Nat.le_of_ble_eq_true rfl, Nat.le_of_ble_eq_true rfl⟩ (by omega) sc_0 rfl rfl rfl (Nat.le_of_ble_eq_true rfl) dL_acts_292 (fun z147 u147 hq147 => ?_)
    exact zr_iret X dL_acts_295 hq147
  · refine zr_tswI (off := 198) X 296 dL_acts_98 ⟨by decide +kernel, by decide +kernel, by decide +kernel⟩ (by decide) ?_
    refine zr_aloadn X 0 dL_acts_296 rfl ?_
    refine zr_cVi (C := RX5) (ci := 5) [] [] X (zK_ok A D tc tF tL tM) (a_addFirm h hB  D tc ad A tF tL tM E) k_427 k_238 k_239 k_1 k_240 hdX5_addFirm ⟨rfl, rfl⟩ ⟨Nat.le_of_ble_eq_true rfl, Nat.le_of_ble_eq_true rfl⟩ (by omega) sc_0 rfl rfl rfl (Nat.le_of_ble_eq_true rfl) dL_acts_297 (fun z151 u151 hq151 => ?_)
    exact zr_iret X dL_acts_300 hq151
  · refine zr_tswO X 301 dL_acts_98 (by decide +kernel) (by decide) ?_
    refine zr_aloadn X 0 dL_acts_301 rfl ?_
    refine zr_iconst X (nI (1)) dL_acts_302 (by decide +kernel) ?_
    refine zr_iloadn X 1 dL_acts_303 rfl ?_
    refine zr_bipush X (nI (9)) dL_acts_304 (by decide +kernel) ?_
    refine zr_ishr X dL_acts_306 ?_
    refine zr_bipush X (nI (25)) dL_acts_307 (by decide +kernel) ?_
    refine zr_low X (25) k_312 dL_acts_309 [.int (nI (1)), .ref (ad (0))] (by omega) (by omega) ⟨Nat.le_of_ble_eq_true rfl, Nat.le_of_ble_eq_true rfl, Nat.le_of_ble_eq_true rfl⟩ (fun j309 hj309 => ?_)
    refine zr_iadd X (nI (j309 + 1)) dL_acts_312 ((nI_add _ _).trans (congrArg nI (by omega))) ?_
    refine zr_cVi (C := RX5) (ci := 5) [.int (nI (j309 + 1))] [] X (zK_ok A D tc tF tL tM) (a_pass h hB (nI (j309 + 1)) D tc ad A tF tL tM E) k_585 k_358 k_359 k_1 k_360 hdX5_pass ⟨rfl, rfl⟩ ⟨Nat.le_of_ble_eq_true rfl, Nat.le_of_ble_eq_true rfl⟩ (by omega) sc_0 rfl rfl rfl (Nat.le_of_ble_eq_true rfl) dL_acts_313 (fun z162 u162 hq162 => ?_)
    exact zr_iret X dL_acts_316 hq162
  · refine zr_tswO X 301 dL_acts_98 (by decide +kernel) (by decide) ?_
    refine zr_aloadn X 0 dL_acts_301 rfl ?_
    refine zr_iconst X (nI (1)) dL_acts_302 (by decide +kernel) ?_
    refine zr_iloadn X 1 dL_acts_303 rfl ?_
    refine zr_bipush X (nI (9)) dL_acts_304 (by decide +kernel) ?_
    refine zr_ishr X dL_acts_306 ?_
    refine zr_bipush X (nI (25)) dL_acts_307 (by decide +kernel) ?_
    refine zr_low X (25) k_312 dL_acts_309 [.int (nI (1)), .ref (ad (0))] (by omega) (by omega) ⟨Nat.le_of_ble_eq_true rfl, Nat.le_of_ble_eq_true rfl, Nat.le_of_ble_eq_true rfl⟩ (fun j309 hj309 => ?_)
    refine zr_iadd X (nI (j309 + 1)) dL_acts_312 ((nI_add _ _).trans (congrArg nI (by omega))) ?_
    refine zr_cVi (C := RX5) (ci := 5) [.int (nI (j309 + 1))] [] X (zK_ok A D tc tF tL tM) (a_pass h hB (nI (j309 + 1)) D tc ad A tF tL tM E) k_585 k_358 k_359 k_1 k_360 hdX5_pass ⟨rfl, rfl⟩ ⟨Nat.le_of_ble_eq_true rfl, Nat.le_of_ble_eq_true rfl⟩ (by omega) sc_0 rfl rfl rfl (Nat.le_of_ble_eq_true rfl) dL_acts_313 (fun z173 u173 hq173 => ?_)
    exact zr_iret X dL_acts_316 hq173
  · refine zr_tswO X 301 dL_acts_98 (by decide +kernel) (by decide) ?_
    refine zr_aloadn X 0 dL_acts_301 rfl ?_
    refine zr_iconst X (nI (1)) dL_acts_302 (by decide +kernel) ?_
    refine zr_iloadn X 1 dL_acts_303 rfl ?_
    refine zr_bipush X (nI (9)) dL_acts_304 (by decide +kernel) ?_
    refine zr_ishr X dL_acts_306 ?_
    refine zr_bipush X (nI (25)) dL_acts_307 (by decide +kernel) ?_
    refine zr_low X (25) k_312 dL_acts_309 [.int (nI (1)), .ref (ad (0))] (by omega) (by omega) ⟨Nat.le_of_ble_eq_true rfl, Nat.le_of_ble_eq_true rfl, Nat.le_of_ble_eq_true rfl⟩ (fun j309 hj309 => ?_)
    refine zr_iadd X (nI (j309 + 1)) dL_acts_312 ((nI_add _ _).trans (congrArg nI (by omega))) ?_
    refine zr_cVi (C := RX5) (ci := 5) [.int (nI (j309 + 1))] [] X (zK_ok A D tc tF tL tM) (a_pass h hB (nI (j309 + 1)) D tc ad A tF tL tM E) k_585 k_358 k_359 k_1 k_360 hdX5_pass ⟨rfl, rfl⟩ ⟨Nat.le_of_ble_eq_true rfl, Nat.le_of_ble_eq_true rfl⟩ (by omega) sc_0 rfl rfl rfl (Nat.le_of_ble_eq_true rfl) dL_acts_313 (fun z184 u184 hq184 => ?_)
    exact zr_iret X dL_acts_316 hq184
set_option maxHeartbeats 4000000 in
set_option maxRecDepth 100000 in
theorem l_acts {l : Launch} {D : va_G} {tc : Nat → ClassId} {ad : Nat → Nat} {A : Nat → Prop} {tF tL tM : Nat} (E : zN 299 A ad) (μ : Nat → Int32) {B m c ro z : Nat} (h : INV B μ) (hB : B ≤ 600) (S : clsS μ m c ro z) (hc1 : 1 ≤ c) (y : Int32) : zMi l yL_acts cL_acts 7 (some .int) (zrm 6) (zK A D tc tF tL tM) A D vwCl tc ad 299 shC [.ref (ad (0)), .int (y)] μ (fun r u => ACT B μ r u) := by
  refine zM_of RL [(0, .ref (ad (0))), (1, .int (y))] (zK_ok A D tc tF tL tM) E.1 E.2 owC_ok (by decide +kernel) rfl (Nat.le_of_ble_eq_true rfl) rfl ?_
  intro pP eE sS mM aS bL mT cO X
  have h8 := S.2.2.2.1
  have hm2 := S.2.1
  refine zr_aloadn X 0 dL_acts_0 rfl ?_
  refine zr_iconst X (nI (2)) dL_acts_1 (by decide +kernel) ?_
  refine zr_dVi (C := RX5) (ci := 5) [.int (nI (2))] [] X (zK_ok A D tc tF tL tM) (d_count_2 E μ S) k_535 k_509 k_510 k_1 k_511 hdX5_count ⟨rfl, rfl⟩ ⟨Nat.le_of_ble_eq_true rfl, Nat.le_of_ble_eq_true rfl⟩ (by omega) sc_0 rfl rfl rfl (Nat.le_of_ble_eq_true rfl) dL_acts_2 ?_
  refine zr_istoren X [1, 2, 0] [(0, .ref (ad (0))), (1, .int (y)), (2, .int (nI (c)))] dL_acts_5 (by decide) rfl ?_
  refine zr_iloadn X 1 dL_acts_6 rfl ?_
  refine zr_iconst X (nI (4)) dL_acts_7 (by decide +kernel) ?_
  refine zr_ishr X dL_acts_8 ?_
  refine zr_iloadn X 1 dL_acts_9 rfl ?_
  refine zr_bipush X (nI (26)) dL_acts_10 (by decide +kernel) ?_
  refine zr_ishr X dL_acts_12 ?_
  refine zr_bipush X (nI (7)) dL_acts_13 (by decide +kernel) ?_
  refine zr_iand X dL_acts_15 ?_
  refine zr_if_ne X 25 dL_acts_16 (by decide) (fun h16 => ?_) (fun h16 => ?_)
  · refine zr_iloadn X 2 dL_acts_25 rfl ?_
    refine zr_low X (c) k_312 dL_acts_26 [] (by omega) (by omega) ⟨Nat.le_of_ble_eq_true rfl, Nat.le_of_ble_eq_true rfl, Nat.le_of_ble_eq_true rfl⟩ (fun j26 hj26 => ?_)
    refine zr_istoren X [1, 2, 3, 0] [(0, .ref (ad (0))), (1, .int (y)), (2, .int (nI (c))), (3, .int (nI (j26)))] dL_acts_29 (by decide) rfl ?_
    refine zr_iloadn X 1 dL_acts_30 rfl ?_
    refine zr_bipush X (nI (7)) dL_acts_31 (by decide +kernel) ?_
    refine zr_ishr X dL_acts_33 ?_
    refine zr_iloadn X 2 dL_acts_34 rfl ?_
    refine zr_low X (c) k_312 dL_acts_35 [] (by omega) (by omega) ⟨Nat.le_of_ble_eq_true rfl, Nat.le_of_ble_eq_true rfl, Nat.le_of_ble_eq_true rfl⟩ (fun j35 hj35 => ?_)
    refine zr_istore X [1, 2, 3, 4, 0] [(0, .ref (ad (0))), (1, .int (y)), (2, .int (nI (c))), (3, .int (nI (j26))), (4, .int (nI (j35)))] dL_acts_38 (by decide) rfl ?_
    refine zr_iloadn X 1 dL_acts_40 rfl ?_
    refine zr_bipush X (nI (25)) dL_acts_41 (by decide +kernel) ?_
    refine zr_ishr X dL_acts_43 ?_
    refine zr_iconst X (nI (3)) dL_acts_44 (by decide +kernel) ?_
    refine zr_iand X dL_acts_45 ?_
    refine zr_if_ne X 62 dL_acts_46 (by decide) (fun h46 => ?_) (fun h46 => ?_)
    · refine zr_iconst X (nI (1)) dL_acts_62 (by decide +kernel) ?_
      refine zr_iloadn X 1 dL_acts_63 rfl ?_
      refine zr_bipush X (nI (9)) dL_acts_64 (by decide +kernel) ?_
      refine zr_ishr X dL_acts_66 ?_
      refine zr_sipush X (nI (700)) dL_acts_67 (by decide +kernel) ?_
      refine zr_low X (700) k_312 dL_acts_70 [.int (nI (1))] (by omega) (by omega) ⟨Nat.le_of_ble_eq_true rfl, Nat.le_of_ble_eq_true rfl, Nat.le_of_ble_eq_true rfl⟩ (fun j70 hj70 => ?_)
      refine zr_iadd X (nI (j70 + 1)) dL_acts_73 ((nI_add _ _).trans (congrArg nI (by omega))) ?_
      refine zr_istore X [1, 2, 3, 4, 5, 0] [(0, .ref (ad (0))), (1, .int (y)), (2, .int (nI (c))), (3, .int (nI (j26))), (4, .int (nI (j35))), (5, .int (nI (j70 + 1)))] dL_acts_74 (by decide) rfl ?_
      exact l_acts_t E μ h hB S hc1 X
    · refine zr_iloadn X 1 dL_acts_49 rfl ?_
      refine zr_bipush X (nI (9)) dL_acts_50 (by decide +kernel) ?_
      refine zr_ishr X dL_acts_52 ?_
      refine zr_sipush X (nI (10001)) dL_acts_53 (by decide +kernel) ?_
      refine zr_low X (10001) k_312 dL_acts_56 [] (by omega) (by omega) ⟨Nat.le_of_ble_eq_true rfl, Nat.le_of_ble_eq_true rfl, Nat.le_of_ble_eq_true rfl⟩ (fun j56 hj56 => ?_)
      refine zr_goto X 74 dL_acts_59 (by decide) ?_
      refine zr_istore X [1, 2, 3, 4, 5, 0] [(0, .ref (ad (0))), (1, .int (y)), (2, .int (nI (c))), (3, .int (nI (j26))), (4, .int (nI (j35))), (5, .int (nI (j56)))] dL_acts_74 (by decide) rfl ?_
      exact l_acts_t E μ h hB S hc1 X
  · refine zr_iloadn X 2 dL_acts_19 rfl ?_
    refine zr_iconst X (nI (1)) dL_acts_20 (by decide +kernel) ?_
    refine zr_iadd X (nI (c + 1)) dL_acts_21 (nI_add _ _) ?_
    refine zr_goto X 26 dL_acts_22 (by decide) ?_
    refine zr_low X (c + 1) k_312 dL_acts_26 [] (by omega) (by omega) ⟨Nat.le_of_ble_eq_true rfl, Nat.le_of_ble_eq_true rfl, Nat.le_of_ble_eq_true rfl⟩ (fun j26 hj26 => ?_)
    refine zr_istoren X [1, 2, 3, 0] [(0, .ref (ad (0))), (1, .int (y)), (2, .int (nI (c))), (3, .int (nI (j26)))] dL_acts_29 (by decide) rfl ?_
    refine zr_iloadn X 1 dL_acts_30 rfl ?_
    refine zr_bipush X (nI (7)) dL_acts_31 (by decide +kernel) ?_
    refine zr_ishr X dL_acts_33 ?_
    refine zr_iloadn X 2 dL_acts_34 rfl ?_
    refine zr_low X (c) k_312 dL_acts_35 [] (by omega) (by omega) ⟨Nat.le_of_ble_eq_true rfl, Nat.le_of_ble_eq_true rfl, Nat.le_of_ble_eq_true rfl⟩ (fun j35 hj35 => ?_)
    refine zr_istore X [1, 2, 3, 4, 0] [(0, .ref (ad (0))), (1, .int (y)), (2, .int (nI (c))), (3, .int (nI (j26))), (4, .int (nI (j35)))] dL_acts_38 (by decide) rfl ?_
    refine zr_iloadn X 1 dL_acts_40 rfl ?_
    refine zr_bipush X (nI (25)) dL_acts_41 (by decide +kernel) ?_
    refine zr_ishr X dL_acts_43 ?_
    refine zr_iconst X (nI (3)) dL_acts_44 (by decide +kernel) ?_
    refine zr_iand X dL_acts_45 ?_
    refine zr_if_ne X 62 dL_acts_46 (by decide) (fun h46 => ?_) (fun h46 => ?_)
    · refine zr_iconst X (nI (1)) dL_acts_62 (by decide +kernel) ?_
      refine zr_iloadn X 1 dL_acts_63 rfl ?_
      refine zr_bipush X (nI (9)) dL_acts_64 (by decide +kernel) ?_
      refine zr_ishr X dL_acts_66 ?_
      refine zr_sipush X (nI (700)) dL_acts_67 (by decide +kernel) ?_
      refine zr_low X (700) k_312 dL_acts_70 [.int (nI (1))] (by omega) (by omega) ⟨Nat.le_of_ble_eq_true rfl, Nat.le_of_ble_eq_true rfl, Nat.le_of_ble_eq_true rfl⟩ (fun j70 hj70 => ?_)
      refine zr_iadd X (nI (j70 + 1)) dL_acts_73 ((nI_add _ _).trans (congrArg nI (by omega))) ?_
      refine zr_istore X [1, 2, 3, 4, 5, 0] [(0, .ref (ad (0))), (1, .int (y)), (2, .int (nI (c))), (3, .int (nI (j26))), (4, .int (nI (j35))), (5, .int (nI (j70 + 1)))] dL_acts_74 (by decide) rfl ?_
      exact l_acts_t E μ h hB S hc1 X
    · refine zr_iloadn X 1 dL_acts_49 rfl ?_
      refine zr_bipush X (nI (9)) dL_acts_50 (by decide +kernel) ?_
      refine zr_ishr X dL_acts_52 ?_
      refine zr_sipush X (nI (10001)) dL_acts_53 (by decide +kernel) ?_
      refine zr_low X (10001) k_312 dL_acts_56 [] (by omega) (by omega) ⟨Nat.le_of_ble_eq_true rfl, Nat.le_of_ble_eq_true rfl, Nat.le_of_ble_eq_true rfl⟩ (fun j56 hj56 => ?_)
      refine zr_goto X 74 dL_acts_59 (by decide) ?_
      refine zr_istore X [1, 2, 3, 4, 5, 0] [(0, .ref (ad (0))), (1, .int (y)), (2, .int (nI (c))), (3, .int (nI (j26))), (4, .int (nI (j35))), (5, .int (nI (j56)))] dL_acts_74 (by decide) rfl ?_
      exact l_acts_t E μ h hB S hc1 X
