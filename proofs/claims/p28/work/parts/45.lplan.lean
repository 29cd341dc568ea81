/-! a surrender takes what was planned -/
theorem pl_end {B : Nat} {μ u : Nat → Int32} (h : INV B μ) (k : hM μ u) : INV (B + 1) u ∧ eqr u μ ∧ KEP μ u := ⟨(h.lay k).mono (Nat.le_succ B), k.eqr, fun x hx => k x (by omega)⟩
set_option maxHeartbeats 4000000 in
set_option maxRecDepth 100000 in
theorem l_pl_m {pP : Program} {l : Launch} {eE : Env} {sS : State} {mM : MethodId} {aS : Array Value} {bL : List Frame} {mT : Method} {cO : Code} {A : Nat → Prop} {D : va_G} {tc : Nat → ClassId} {ad : Nat → Nat} {tF tL tM : Nat} {ow : Nat → Nat} (E : zN 299 A ad) (μ : Nat → Int32) {B m c b ro z kf : Nat} (h : INV B μ) (hB : B ≤ 600) (S : clsS μ m c ro z) (I : rowI B μ m c b) (N : SND μ m) {f t w : Nat} (hf : f < c) (hw : w < 3) (ht1 : 1 ≤ t) (ht9 : t ≤ 9999) {y dv : Int32} (hdv : firF μ f 7 = dv) (hp : ∀ {M : Nat → Int32}, hM μ M → ∀ {i : Nat}, i ≤ 5 → zMi l yX5_plan cX5_plan 6 (some .int) (zrm 5) (zK A D tc tF tL tM) A D vwCl tc ad 299 shC [.ref (ad 0), .int (nI f), .int (nI t), .int (nI w), .int (nI i)] M (fun r u => r = -4 ∧ hM μ u)) (hs : ∀ {M : Nat → Int32}, hM μ M → zMi l yX5_surrender cX5_surrender 5 (some .int) (zrm 5) (zK A D tc tF tL tM) A D vwCl tc ad 299 shC [.ref (ad 0), .int (nI f), .int (nI t), .int (nI w)] M (fun r u => r = -4 ∧ hM μ u)) (hmiss : ¬ nI w = nI 2 → ¬ nI t ≤ firF μ f 0) (X : zX pP sS mM aS mT cO A D vwCl ad 299 15 (zK A D tc tF tL tM) (zTY tc) ow shC cL_isPlanned RL (some .boolean)) : zG pP l eE (zrm 7) sS mM aS bL mT cO A D vwCl tc ad 299 shC 15 (MQ bL (va_Qi (fun r u => r = nI 1 ∧ INV (B + 1) u ∧ eqr u μ ∧ KEP μ u) (fun u t => zW D vwCl tc ad 299 shC u t.heap) A) aS sS (zrm 7).cells (zrm 7).slots A) μ 70 [(0, .ref (ad (0))), (1, .int (y)), (2, .int (nI (f))), (3, .int (nI (w))), (4, .int (dv))] [.int (nI t)] := by
  have h8 := S.2.2.2.1
  have hb := I.2.2.2.2.1
  have hb1 := I.2.2.2.2.2.1
  have hb5 := I.2.2.2.2.2.2.1
  have hcm : cnt μ = c := zto S.2.2.1 (by omega)
  have hM0 := hM_same μ
  refine zr_istore X [1, 2, 3, 4, 5, 0] [(0, .ref (ad (0))), (1, .int (y)), (2, .int (nI (f))), (3, .int (nI (w))), (4, .int (dv)), (5, .int (nI (t)))] dL_isPlanned_70 (by decide) rfl ?_
  refine zr_aloadn X 0 dL_isPlanned_72 rfl ?_
  refine zr_dSl [.ref (ad (0))] [] X (zK_ok A D tc tF tL tM) (q_all E μ S hb hb1 hb5 hM0) k_648 k_p438 k_0 k_p439 hdL_all ⟨rfl, rfl⟩ ⟨Nat.le_of_ble_eq_true rfl, Nat.le_of_ble_eq_true rfl⟩ rfl rfl (Nat.le_of_ble_eq_true rfl) dL_isPlanned_73 ?_
  refine zr_lstore X [1, 2, 3, 4, 5, 6, 0] [(0, .ref (ad (0))), (1, .int (y)), (2, .int (nI (f))), (3, .int (nI (w))), (4, .int (dv)), (5, .int (nI (t))), (6, .long (AL μ c))] dL_isPlanned_76 (by decide) rfl ?_
  refine zr_aloadn X 0 dL_isPlanned_78 rfl ?_
  refine zr_iloadn X 2 dL_isPlanned_79 rfl ?_
  refine zr_iload X 5 dL_isPlanned_80 rfl ?_
  refine zr_iloadn X 3 dL_isPlanned_82 rfl ?_
  refine zr_iconst X (nI (0)) dL_isPlanned_83 (by decide +kernel) ?_
  refine zr_cVi (C := RX5) (ci := 5) [.int (nI (f)), .int (nI (t)), .int (nI (w)), .int (nI (0))] [] X (zK_ok A D tc tF tL tM) (hp hM0 (i := 0) (by omega)) k_652 k_505 k_506 k_1 k_507 hdX5_plan ⟨rfl, rfl⟩ ⟨Nat.le_of_ble_eq_true rfl, Nat.le_of_ble_eq_true rfl⟩ (by omega) sc_0 rfl rfl rfl (Nat.le_of_ble_eq_true rfl) dL_isPlanned_84 (fun z10 u9 hq10 => ?_)
  obtain ⟨rfl, hM9⟩ := hq10
  refine zr_istore X [1, 2, 3, 4, 5, 6, 7, 0] [(0, .ref (ad (0))), (1, .int (y)), (2, .int (nI (f))), (3, .int (nI (w))), (4, .int (dv)), (5, .int (nI (t))), (6, .long (AL μ c)), (8, .int (-4))] dL_isPlanned_87 (by decide) rfl ?_
  refine zr_iload X 7 dL_isPlanned_89 rfl ?_
  refine zr_if_ge X 146 dL_isPlanned_91 (by decide) (fun q => absurd q (by decide +kernel)) (fun _ => ?_)
  refine zr_iload X 7 dL_isPlanned_94 rfl ?_
  refine zr_bipush X (-4) dL_isPlanned_96 (by decide +kernel) ?_
  refine zr_icmp_ne X 144 dL_isPlanned_98 (by decide) (fun q => absurd (rfl) q) (fun _ => ?_)
  refine zr_aloadn X 0 dL_isPlanned_101 rfl ?_
  refine zr_iloadn X 2 dL_isPlanned_102 rfl ?_
  refine zr_iload X 5 dL_isPlanned_103 rfl ?_
  refine zr_iloadn X 3 dL_isPlanned_105 rfl ?_
  refine zr_cVi (C := RX5) (ci := 5) [.int (nI (f)), .int (nI (t)), .int (nI (w))] [] X (zK_ok A D tc tF tL tM) (hs hM9) k_p470 k_326 k_327 k_1 k_328 hdX5_surrender ⟨rfl, rfl⟩ ⟨Nat.le_of_ble_eq_true rfl, Nat.le_of_ble_eq_true rfl⟩ (by omega) sc_0 rfl rfl rfl (Nat.le_of_ble_eq_true rfl) dL_isPlanned_106 (fun z22 u21 hq22 => ?_)
  obtain ⟨rfl, hM21⟩ := hq22
  refine zr_bipush X (-4) dL_isPlanned_109 (by decide +kernel) ?_
  refine zr_icmp_ne X 144 dL_isPlanned_111 (by decide) (fun q => absurd (rfl) q) (fun _ => ?_)
  refine zr_aloadn X 0 dL_isPlanned_114 rfl ?_
  refine zr_dSl [.ref (ad (0))] [] X (zK_ok A D tc tF tL tM) (q_all E μ S hb hb1 hb5 hM21) k_648 k_p438 k_0 k_p439 hdL_all ⟨rfl, rfl⟩ ⟨Nat.le_of_ble_eq_true rfl, Nat.le_of_ble_eq_true rfl⟩ rfl rfl (Nat.le_of_ble_eq_true rfl) dL_isPlanned_115 ?_
  refine zr_lload X 6 dL_isPlanned_118 rfl ?_
  refine zr_lcmp X dL_isPlanned_120 ?_
  refine zr_if_ne X 144 dL_isPlanned_121 (by decide) (fun q => absurd (lg_same _) q) (fun _ => ?_)
  refine zr_iloadn X 3 dL_isPlanned_124 rfl ?_
  refine zr_iconst X (nI (2)) dL_isPlanned_125 (by decide +kernel) ?_
  refine zr_icmp_eq X 140 dL_isPlanned_126 (by decide) (fun h126 => ?_) (fun h126 => ?_)
  · refine zr_iconst X (nI (1)) dL_isPlanned_140 (by decide +kernel) ?_
    refine zr_goto X 145 dL_isPlanned_141 (by decide) ?_
    exact zr_zret X dL_isPlanned_145 rfl ⟨rfl, pl_end h hM21⟩
  · refine zr_aloadn X 0 dL_isPlanned_129 rfl ?_
    refine zr_iloadn X 2 dL_isPlanned_130 rfl ?_
    refine zr_iconst X (nI (0)) dL_isPlanned_131 (by decide +kernel) ?_
    refine zr_dVi (C := RX5) (ci := 5) [.int (nI (f)), .int (nI (0))] [] X (zK_ok A D tc tF tL tM) (q_firm E μ S hM21 (f := f) hf (i := 0) (by omega)) k_261 k_432 k_433 k_1 k_434 hdX5_firm ⟨rfl, rfl⟩ ⟨Nat.le_of_ble_eq_true rfl, Nat.le_of_ble_eq_true rfl⟩ (by omega) sc_0 rfl rfl rfl (Nat.le_of_ble_eq_true rfl) dL_isPlanned_132 ?_
    refine zr_iload X 5 dL_isPlanned_135 rfl ?_
    refine zr_icmp_ge X 144 dL_isPlanned_137 (by decide) (fun q => absurd q (hmiss h126)) (fun _ => ?_)
    refine zr_iconst X (nI (1)) dL_isPlanned_140 (by decide +kernel) ?_
    refine zr_goto X 145 dL_isPlanned_141 (by decide) ?_
    exact zr_zret X dL_isPlanned_145 rfl ⟨rfl, pl_end h hM21⟩
set_option maxHeartbeats 4000000 in
set_option maxRecDepth 100000 in
theorem l_pl_d {pP : Program} {l : Launch} {eE : Env} {sS : State} {mM : MethodId} {aS : Array Value} {bL : List Frame} {mT : Method} {cO : Code} {A : Nat → Prop} {D : va_G} {tc : Nat → ClassId} {ad : Nat → Nat} {tF tL tM : Nat} {ow : Nat → Nat} (E : zN 299 A ad) (μ : Nat → Int32) {B m c b ro z kf : Nat} (h : INV B μ) (hB : B ≤ 600) (S : clsS μ m c ro z) (I : rowI B μ m c b) (N : SND μ m) {f t w : Nat} (hf : f < c) (hw : w < 3) (ht1 : 1 ≤ t) (ht9 : t ≤ 9999) {y dv : Int32} (hdv : firF μ f 7 = dv) {P : Nat → Int32} (hp : ∀ {M : Nat → Int32}, hM μ M → ∀ {i : Nat}, i ≤ 5 → zMi l yX5_plan cX5_plan 6 (some .int) (zrm 5) (zK A D tc tF tL tM) A D vwCl tc ad 299 shC [.ref (ad 0), .int (nI f), .int (nI t), .int (nI w), .int (nI i)] M (fun r u => r = P i ∧ hM μ u)) (hs : ∀ {M : Nat → Int32}, hM μ M → zMi l yX5_surrender cX5_surrender 5 (some .int) (zrm 5) (zK A D tc tF tL tM) A D vwCl tc ad 299 shC [.ref (ad 0), .int (nI f), .int (nI t), .int (nI w)] M (fun r u => r = -4 ∧ hM μ u)) (L : PLN μ f t w P) (hdn : ¬ nI t ≤ dv) (X : zX pP sS mM aS mT cO A D vwCl ad 299 15 (zK A D tc tF tL tM) (zTY tc) ow shC cL_isPlanned RL (some .boolean)) : zG pP l eE (zrm 7) sS mM aS bL mT cO A D vwCl tc ad 299 shC 15 (MQ bL (va_Qi (fun r u => r = nI 1 ∧ INV (B + 1) u ∧ eqr u μ ∧ KEP μ u) (fun u t => zW D vwCl tc ad 299 shC u t.heap) A) aS sS (zrm 7).cells (zrm 7).slots A) μ 70 [(0, .ref (ad (0))), (1, .int (y)), (2, .int (nI (f))), (3, .int (nI (w))), (4, .int (dv))] [.int (nI t)] := by
  have h8 := S.2.2.2.1
  have hb := I.2.2.2.2.1
  have hb1 := I.2.2.2.2.2.1
  have hb5 := I.2.2.2.2.2.2.1
  have hcm : cnt μ = c := zto S.2.2.1 (by omega)
  have hM0 := hM_same μ
  refine zr_istore X [1, 2, 3, 4, 5, 0] [(0, .ref (ad (0))), (1, .int (y)), (2, .int (nI (f))), (3, .int (nI (w))), (4, .int (dv)), (5, .int (nI (t)))] dL_isPlanned_70 (by decide) rfl ?_
  refine zr_aloadn X 0 dL_isPlanned_72 rfl ?_
  refine zr_dSl [.ref (ad (0))] [] X (zK_ok A D tc tF tL tM) (q_all E μ S hb hb1 hb5 hM0) k_648 k_p438 k_0 k_p439 hdL_all ⟨rfl, rfl⟩ ⟨Nat.le_of_ble_eq_true rfl, Nat.le_of_ble_eq_true rfl⟩ rfl rfl (Nat.le_of_ble_eq_true rfl) dL_isPlanned_73 ?_
  refine zr_lstore X [1, 2, 3, 4, 5, 6, 0] [(0, .ref (ad (0))), (1, .int (y)), (2, .int (nI (f))), (3, .int (nI (w))), (4, .int (dv)), (5, .int (nI (t))), (6, .long (AL μ c))] dL_isPlanned_76 (by decide) rfl ?_
  refine zr_aloadn X 0 dL_isPlanned_78 rfl ?_
  refine zr_iloadn X 2 dL_isPlanned_79 rfl ?_
  refine zr_iload X 5 dL_isPlanned_80 rfl ?_
  refine zr_iloadn X 3 dL_isPlanned_82 rfl ?_
  refine zr_iconst X (nI (0)) dL_isPlanned_83 (by decide +kernel) ?_
  refine zr_cVi (C := RX5) (ci := 5) [.int (nI (f)), .int (nI (t)), .int (nI (w)), .int (nI (0))] [] X (zK_ok A D tc tF tL tM) (hp hM0 (i := 0) (by omega)) k_652 k_505 k_506 k_1 k_507 hdX5_plan ⟨rfl, rfl⟩ ⟨Nat.le_of_ble_eq_true rfl, Nat.le_of_ble_eq_true rfl⟩ (by omega) sc_0 rfl rfl rfl (Nat.le_of_ble_eq_true rfl) dL_isPlanned_84 (fun z10 u9 hq10 => ?_)
  obtain ⟨rfl, hM9⟩ := hq10
  refine zr_istore X [1, 2, 3, 4, 5, 6, 7, 0] [(0, .ref (ad (0))), (1, .int (y)), (2, .int (nI (f))), (3, .int (nI (w))), (4, .int (dv)), (5, .int (nI (t))), (6, .long (AL μ c)), (8, .int (P (0)))] dL_isPlanned_87 (by decide) rfl ?_
  refine zr_iload X 7 dL_isPlanned_89 rfl ?_
  refine zr_if_ge X 146 dL_isPlanned_91 (by decide) (fun _ => ?_) (fun q => absurd (L.1) q)
  refine zr_iconst X (nI (0)) dL_isPlanned_146 (by decide +kernel) ?_
  refine zr_istore X [1, 2, 3, 4, 5, 6, 7, 8, 0] [(0, .ref (ad (0))), (1, .int (y)), (2, .int (nI (f))), (3, .int (nI (w))), (4, .int (dv)), (5, .int (nI (t))), (6, .long (AL μ c)), (8, .int (P (0))), (9, .int (nI (0)))] dL_isPlanned_147 (by decide) rfl ?_
  refine zr_iconst X (nI (0)) dL_isPlanned_149 (by decide +kernel) ?_
  refine zr_istore X [1, 2, 3, 4, 5, 6, 7, 8, 9, 0] [(0, .ref (ad (0))), (1, .int (y)), (2, .int (nI (f))), (3, .int (nI (w))), (4, .int (dv)), (5, .int (nI (t))), (6, .long (AL μ c)), (8, .int (P (0))), (9, .int (nI (0))), (10, .int (nI (0)))] dL_isPlanned_150 (by decide) rfl ?_
  refine zr_drop X [0, 2, 3, 4, 5, 6, 7, 8, 9] [(0, .ref (ad (0))), (2, .int (nI (f))), (3, .int (nI (w))), (4, .int (dv)), (5, .int (nI (t))), (6, .long (AL μ c)), (8, .int (P (0))), (9, .int (nI (0))), (10, .int (nI (0)))] rfl ?_
  refine zr_forM X (3) (fun k u => hM μ u) (fun k => [(0, .ref (ad (0))), (2, .int (nI (f))), (3, .int (nI (w))), (4, .int (dv)), (5, .int (nI (t))), (6, .long (AL μ c)), (8, .int (P (0))), (9, .int (zsum (fun k => P (k + 1)) (k))), (10, .int (nI (k)))]) [] (hM9) rfl ?_ ?_
  · intro u21 hg21
    refine zr_iload X 8 dL_isPlanned_152 rfl ?_
    refine zr_iconst X (nI (3)) dL_isPlanned_154 (by decide +kernel) ?_
    refine zr_icmp_ge X 228 dL_isPlanned_155 (by decide) (fun _ => ?_) (fun q => absurd (zq_le (by omega) (by omega)) q)
    refine zr_aloadn X 0 dL_isPlanned_228 rfl ?_
    refine zr_iloadn X 1 dL_isPlanned_229 rfl ?_
    refine zr_iload X 4 dL_isPlanned_230 rfl ?_
    refine zr_iloadn X 2 dL_isPlanned_232 rfl ?_
    refine zr_iconst X (nI (4)) dL_isPlanned_233 (by decide +kernel) ?_
    refine zr_cVi (C := RX5) (ci := 5) [.int (nI (f)), .int (nI (t)), .int (nI (w)), .int (nI (4))] [] X (zK_ok A D tc tF tL tM) (hp hg21 (i := 4) (by omega)) k_652 k_505 k_506 k_1 k_507 hdX5_plan ⟨rfl, rfl⟩ ⟨Nat.le_of_ble_eq_true rfl, Nat.le_of_ble_eq_true rfl⟩ (by omega) sc_0 rfl rfl rfl (Nat.le_of_ble_eq_true rfl) dL_isPlanned_234 (fun z31 u30 hq31 => ?_)
    obtain ⟨rfl, hM30⟩ := hq31
    refine zr_istore X [1, 2, 3, 4, 5, 6, 7, 8, 0] [(0, .ref (ad (0))), (2, .int (nI (f))), (3, .int (nI (w))), (4, .int (dv)), (5, .int (nI (t))), (6, .long (AL μ c)), (8, .int (P (0))), (9, .int (zsum (fun k => P (k + 1)) (3))), (10, .int (P (4)))] dL_isPlanned_237 (by decide) rfl ?_
    refine zr_aloadn X 0 dL_isPlanned_239 rfl ?_
    refine zr_iloadn X 1 dL_isPlanned_240 rfl ?_
    refine zr_iload X 4 dL_isPlanned_241 rfl ?_
    refine zr_iloadn X 2 dL_isPlanned_243 rfl ?_
    refine zr_iconst X (nI (5)) dL_isPlanned_244 (by decide +kernel) ?_
    refine zr_cVi (C := RX5) (ci := 5) [.int (nI (f)), .int (nI (t)), .int (nI (w)), .int (nI (5))] [] X (zK_ok A D tc tF tL tM) (hp hM30 (i := 5) (by omega)) k_652 k_505 k_506 k_1 k_507 hdX5_plan ⟨rfl, rfl⟩ ⟨Nat.le_of_ble_eq_true rfl, Nat.le_of_ble_eq_true rfl⟩ (by omega) sc_0 rfl rfl rfl (Nat.le_of_ble_eq_true rfl) dL_isPlanned_245 (fun z39 u38 hq39 => ?_)
    obtain ⟨rfl, hM38⟩ := hq39
    refine zr_istore X [1, 2, 3, 4, 5, 6, 7, 8, 9, 0] [(0, .ref (ad (0))), (2, .int (nI (f))), (3, .int (nI (w))), (4, .int (dv)), (5, .int (nI (t))), (6, .long (AL μ c)), (8, .int (P (0))), (9, .int (zsum (fun k => P (k + 1)) (3))), (10, .int (P (4))), (11, .int (P (5)))] dL_isPlanned_248 (by decide) rfl ?_
    refine zr_iload X 6 dL_isPlanned_250 rfl ?_
    refine zr_iload X 7 dL_isPlanned_252 rfl ?_
    refine zr_iadd X ((P (0)) + (zsum (fun k => P (k + 1)) (3))) dL_isPlanned_254 rfl ?_
    refine zr_iload X 4 dL_isPlanned_255 rfl ?_
    refine zr_icmp_ne X 353 dL_isPlanned_257 (by decide) (fun q => absurd (L.2.2.1) q) (fun _ => ?_)
    refine zr_iload X 6 dL_isPlanned_260 rfl ?_
    refine zr_if_ne X 269 dL_isPlanned_262 (by decide) (fun h262 => ?_) (fun h262 => ?_)
    · have n5 : ¬ P (5) = -5 := fun q => h262 (L.2.2.2.1.mpr (L.2.2.2.2.1.mpr q))
      refine zr_iconst X (nI (0)) dL_isPlanned_269 (by decide +kernel) ?_
      refine zr_iload X 8 dL_isPlanned_270 rfl ?_
      refine zr_if_ne X 279 dL_isPlanned_272 (by decide) (fun _ => ?_) (fun q => absurd q (fun q => h262 (L.2.2.2.1.mpr q)))
      refine zr_iconst X (nI (0)) dL_isPlanned_279 (by decide +kernel) ?_
      refine zr_icmp_ne X 353 dL_isPlanned_280 (by decide) (fun q => absurd (zq_eq (by omega)) q) (fun _ => ?_)
      refine zr_iload X 8 dL_isPlanned_283 rfl ?_
      refine zr_if_ne X 292 dL_isPlanned_285 (by decide) (fun _ => ?_) (fun q => absurd q (fun q => h262 (L.2.2.2.1.mpr q)))
      refine zr_iconst X (nI (0)) dL_isPlanned_292 (by decide +kernel) ?_
      refine zr_iload X 9 dL_isPlanned_293 rfl ?_
      refine zr_bipush X (-5) dL_isPlanned_295 (by decide +kernel) ?_
      refine zr_icmp_ne X 304 dL_isPlanned_297 (by decide) (fun _ => ?_) (fun q => absurd q (n5))
      refine zr_iconst X (nI (0)) dL_isPlanned_304 (by decide +kernel) ?_
      refine zr_icmp_ne X 353 dL_isPlanned_305 (by decide) (fun q => absurd (zq_eq (by omega)) q) (fun _ => ?_)
      refine zr_iload X 9 dL_isPlanned_308 rfl ?_
      refine zr_if_lt X 343 dL_isPlanned_310 (by decide) (fun q => absurd q ((L.2.2.2.2.2 n5).1)) (fun _ => ?_)
      refine zr_iloadn X 2 dL_isPlanned_313 rfl ?_
      refine zr_iconst X (nI (1)) dL_isPlanned_314 (by decide +kernel) ?_
      refine zr_icmp_ne X 332 dL_isPlanned_315 (by decide) (fun h315 => ?_) (fun h315 => ?_)
      · refine zr_iload X 9 dL_isPlanned_332 rfl ?_
        refine zr_aloadn X 0 dL_isPlanned_334 rfl ?_
        refine zr_iloadn X 1 dL_isPlanned_335 rfl ?_
        refine zr_iconst X (nI (2)) dL_isPlanned_336 (by decide +kernel) ?_
        refine zr_dVi (C := RX5) (ci := 5) [.int (nI (f)), .int (nI (2))] [.int (P (5))] X (zK_ok A D tc tF tL tM) (q_firm E μ S hM38 (f := f) hf (i := 2) (by omega)) k_261 k_432 k_433 k_1 k_434 hdX5_firm ⟨rfl, rfl⟩ ⟨Nat.le_of_ble_eq_true rfl, Nat.le_of_ble_eq_true rfl⟩ (by omega) sc_0 rfl rfl rfl (Nat.le_of_ble_eq_true rfl) dL_isPlanned_337 ?_
        refine zr_icmp_ne X 353 dL_isPlanned_340 (by decide) (fun q => absurd ((L.2.2.2.2.2 n5).2.2 h315) q) (fun _ => ?_)
        refine zr_aloadn X 0 dL_isPlanned_343 rfl ?_
        refine zr_dSl [.ref (ad (0))] [] X (zK_ok A D tc tF tL tM) (q_all E μ S hb hb1 hb5 hM38) k_648 k_p438 k_0 k_p439 hdL_all ⟨rfl, rfl⟩ ⟨Nat.le_of_ble_eq_true rfl, Nat.le_of_ble_eq_true rfl⟩ rfl rfl (Nat.le_of_ble_eq_true rfl) dL_isPlanned_344 ?_
        refine zr_lload X 5 dL_isPlanned_347 rfl ?_
        refine zr_lcmp X dL_isPlanned_349 ?_
        refine zr_if_eq X 355 dL_isPlanned_350 (by decide) (fun _ => ?_) (fun q => absurd (lg_same _) q)
        refine zr_iload X 3 dL_isPlanned_355 rfl ?_
        refine zr_iload X 4 dL_isPlanned_357 rfl ?_
        refine zr_icmp_ge X 381 dL_isPlanned_359 (by decide) (fun q => absurd q (hdn)) (fun _ => ?_)
        refine zr_aloadn X 0 dL_isPlanned_362 rfl ?_
        refine zr_iloadn X 1 dL_isPlanned_363 rfl ?_
        refine zr_iload X 4 dL_isPlanned_364 rfl ?_
        refine zr_iloadn X 2 dL_isPlanned_366 rfl ?_
        refine zr_cVi (C := RX5) (ci := 5) [.int (nI (f)), .int (nI (t)), .int (nI (w))] [] X (zK_ok A D tc tF tL tM) (hs hM38) k_p470 k_326 k_327 k_1 k_328 hdX5_surrender ⟨rfl, rfl⟩ ⟨Nat.le_of_ble_eq_true rfl, Nat.le_of_ble_eq_true rfl⟩ (by omega) sc_0 rfl rfl rfl (Nat.le_of_ble_eq_true rfl) dL_isPlanned_367 (fun z88 u87 hq88 => ?_)
        obtain ⟨rfl, hM87⟩ := hq88
        refine zr_bipush X (-4) dL_isPlanned_370 (by decide +kernel) ?_
        refine zr_icmp_ne X 379 dL_isPlanned_372 (by decide) (fun q => absurd (rfl) q) (fun _ => ?_)
        refine zr_iconst X (nI (1)) dL_isPlanned_375 (by decide +kernel) ?_
        refine zr_goto X 380 dL_isPlanned_376 (by decide) ?_
        exact zr_zret X dL_isPlanned_380 rfl ⟨rfl, pl_end h hM87⟩
      · refine zr_iload X 9 dL_isPlanned_318 rfl ?_
        refine zr_aloadn X 0 dL_isPlanned_320 rfl ?_
        refine zr_iloadn X 1 dL_isPlanned_321 rfl ?_
        refine zr_iconst X (nI (3)) dL_isPlanned_322 (by decide +kernel) ?_
        refine zr_dVi (C := RX5) (ci := 5) [.int (nI (f)), .int (nI (3))] [.int (P (5))] X (zK_ok A D tc tF tL tM) (q_firm E μ S hM38 (f := f) hf (i := 3) (by omega)) k_261 k_432 k_433 k_1 k_434 hdX5_firm ⟨rfl, rfl⟩ ⟨Nat.le_of_ble_eq_true rfl, Nat.le_of_ble_eq_true rfl⟩ (by omega) sc_0 rfl rfl rfl (Nat.le_of_ble_eq_true rfl) dL_isPlanned_323 ?_
        refine zr_icmp_eq X 343 dL_isPlanned_326 (by decide) (fun _ => ?_) (fun q => absurd ((L.2.2.2.2.2 n5).2.1 h315) q)
        refine zr_aloadn X 0 dL_isPlanned_343 rfl ?_
        refine zr_dSl [.ref (ad (0))] [] X (zK_ok A D tc tF tL tM) (q_all E μ S hb hb1 hb5 hM38) k_648 k_p438 k_0 k_p439 hdL_all ⟨rfl, rfl⟩ ⟨Nat.le_of_ble_eq_true rfl, Nat.le_of_ble_eq_true rfl⟩ rfl rfl (Nat.le_of_ble_eq_true rfl) dL_isPlanned_344 ?_
        refine zr_lload X 5 dL_isPlanned_347 rfl ?_
        refine zr_lcmp X dL_isPlanned_349 ?_
        refine zr_if_eq X 355 dL_isPlanned_350 (by decide) (fun _ => ?_) (fun q => absurd (lg_same _) q)
        refine zr_iload X 3 dL_isPlanned_355 rfl ?_
        refine zr_iload X 4 dL_isPlanned_357 rfl ?_
        refine zr_icmp_ge X 381 dL_isPlanned_359 (by decide) (fun q => absurd q (hdn)) (fun _ => ?_)
        refine zr_aloadn X 0 dL_isPlanned_362 rfl ?_
        refine zr_iloadn X 1 dL_isPlanned_363 rfl ?_
        refine zr_iload X 4 dL_isPlanned_364 rfl ?_
        refine zr_iloadn X 2 dL_isPlanned_366 rfl ?_
        refine zr_cVi (C := RX5) (ci := 5) [.int (nI (f)), .int (nI (t)), .int (nI (w))] [] X (zK_ok A D tc tF tL tM) (hs hM38) k_p470 k_326 k_327 k_1 k_328 hdX5_surrender ⟨rfl, rfl⟩ ⟨Nat.le_of_ble_eq_true rfl, Nat.le_of_ble_eq_true rfl⟩ (by omega) sc_0 rfl rfl rfl (Nat.le_of_ble_eq_true rfl) dL_isPlanned_367 (fun z113 u112 hq113 => ?_)
        obtain ⟨rfl, hM112⟩ := hq113
        refine zr_bipush X (-4) dL_isPlanned_370 (by decide +kernel) ?_
        refine zr_icmp_ne X 379 dL_isPlanned_372 (by decide) (fun q => absurd (rfl) q) (fun _ => ?_)
        refine zr_iconst X (nI (1)) dL_isPlanned_375 (by decide +kernel) ?_
        refine zr_goto X 380 dL_isPlanned_376 (by decide) ?_
        exact zr_zret X dL_isPlanned_380 rfl ⟨rfl, pl_end h hM112⟩
    · refine zr_iconst X (nI (1)) dL_isPlanned_265 (by decide +kernel) ?_
      refine zr_goto X 270 dL_isPlanned_266 (by decide) ?_
      refine zr_iload X 8 dL_isPlanned_270 rfl ?_
      refine zr_if_ne X 279 dL_isPlanned_272 (by decide) (fun q => absurd (L.2.2.2.1.mp h262) q) (fun _ => ?_)
      refine zr_iconst X (nI (1)) dL_isPlanned_275 (by decide +kernel) ?_
      refine zr_goto X 280 dL_isPlanned_276 (by decide) ?_
      refine zr_icmp_ne X 353 dL_isPlanned_280 (by decide) (fun q => absurd (zq_eq (by omega)) q) (fun _ => ?_)
      refine zr_iload X 8 dL_isPlanned_283 rfl ?_
      refine zr_if_ne X 292 dL_isPlanned_285 (by decide) (fun q => absurd (L.2.2.2.1.mp h262) q) (fun _ => ?_)
      refine zr_iconst X (nI (1)) dL_isPlanned_288 (by decide +kernel) ?_
      refine zr_goto X 293 dL_isPlanned_289 (by decide) ?_
      refine zr_iload X 9 dL_isPlanned_293 rfl ?_
      refine zr_bipush X (-5) dL_isPlanned_295 (by decide +kernel) ?_
      refine zr_icmp_ne X 304 dL_isPlanned_297 (by decide) (fun q => absurd (L.2.2.2.2.1.mp (L.2.2.2.1.mp h262)) q) (fun _ => ?_)
      refine zr_iconst X (nI (1)) dL_isPlanned_300 (by decide +kernel) ?_
      refine zr_goto X 305 dL_isPlanned_301 (by decide) ?_
      refine zr_icmp_ne X 353 dL_isPlanned_305 (by decide) (fun q => absurd (zq_eq (by omega)) q) (fun _ => ?_)
      refine zr_iload X 9 dL_isPlanned_308 rfl ?_
      refine zr_if_lt X 343 dL_isPlanned_310 (by decide) (fun _ => ?_) (fun q => absurd (by rw [L.2.2.2.2.1.mp (L.2.2.2.1.mp h262)]; decide +kernel) q)
      refine zr_aloadn X 0 dL_isPlanned_343 rfl ?_
      refine zr_dSl [.ref (ad (0))] [] X (zK_ok A D tc tF tL tM) (q_all E μ S hb hb1 hb5 hM38) k_648 k_p438 k_0 k_p439 hdL_all ⟨rfl, rfl⟩ ⟨Nat.le_of_ble_eq_true rfl, Nat.le_of_ble_eq_true rfl⟩ rfl rfl (Nat.le_of_ble_eq_true rfl) dL_isPlanned_344 ?_
      refine zr_lload X 5 dL_isPlanned_347 rfl ?_
      refine zr_lcmp X dL_isPlanned_349 ?_
      refine zr_if_eq X 355 dL_isPlanned_350 (by decide) (fun _ => ?_) (fun q => absurd (lg_same _) q)
      refine zr_iload X 3 dL_isPlanned_355 rfl ?_
      refine zr_iload X 4 dL_isPlanned_357 rfl ?_
      refine zr_icmp_ge X 381 dL_isPlanned_359 (by decide) (fun q => absurd q (hdn)) (fun _ => ?_)
      refine zr_aloadn X 0 dL_isPlanned_362 rfl ?_
      refine zr_iloadn X 1 dL_isPlanned_363 rfl ?_
      refine zr_iload X 4 dL_isPlanned_364 rfl ?_
      refine zr_iloadn X 2 dL_isPlanned_366 rfl ?_
      refine zr_cVi (C := RX5) (ci := 5) [.int (nI (f)), .int (nI (t)), .int (nI (w))] [] X (zK_ok A D tc tF tL tM) (hs hM38) k_p470 k_326 k_327 k_1 k_328 hdX5_surrender ⟨rfl, rfl⟩ ⟨Nat.le_of_ble_eq_true rfl, Nat.le_of_ble_eq_true rfl⟩ (by omega) sc_0 rfl rfl rfl (Nat.le_of_ble_eq_true rfl) dL_isPlanned_367 (fun z150 u149 hq150 => ?_)
      obtain ⟨rfl, hM149⟩ := hq150
      refine zr_bipush X (-4) dL_isPlanned_370 (by decide +kernel) ?_
      refine zr_icmp_ne X 379 dL_isPlanned_372 (by decide) (fun q => absurd (rfl) q) (fun _ => ?_)
      refine zr_iconst X (nI (1)) dL_isPlanned_375 (by decide +kernel) ?_
      refine zr_goto X 380 dL_isPlanned_376 (by decide) ?_
      exact zr_zret X dL_isPlanned_380 rfl ⟨rfl, pl_end h hM149⟩
  · intro k u155 hk hg155 ih152
    refine zr_iload X 8 dL_isPlanned_152 rfl ?_
    refine zr_iconst X (nI (3)) dL_isPlanned_154 (by decide +kernel) ?_
    refine zr_icmp_ge X 228 dL_isPlanned_155 (by decide) (fun q => absurd q (nI_ge (by omega) (by omega))) (fun _ => ?_)
    refine zr_aloadn X 0 dL_isPlanned_158 rfl ?_
    refine zr_iloadn X 1 dL_isPlanned_159 rfl ?_
    refine zr_iload X 4 dL_isPlanned_160 rfl ?_
    refine zr_iloadn X 2 dL_isPlanned_162 rfl ?_
    refine zr_iconst X (nI (1)) dL_isPlanned_163 (by decide +kernel) ?_
    refine zr_iload X 8 dL_isPlanned_164 rfl ?_
    refine zr_iadd X (nI (k + 1)) dL_isPlanned_166 ((nI_add _ _).trans (congrArg nI (by omega))) ?_
    refine zr_cVi (C := RX5) (ci := 5) [.int (nI (f)), .int (nI (t)), .int (nI (w)), .int (nI (k + 1))] [] X (zK_ok A D tc tF tL tM) (hp hg155 (i := k + 1) (by omega)) k_652 k_505 k_506 k_1 k_507 hdX5_plan ⟨rfl, rfl⟩ ⟨Nat.le_of_ble_eq_true rfl, Nat.le_of_ble_eq_true rfl⟩ (by omega) sc_0 rfl rfl rfl (Nat.le_of_ble_eq_true rfl) dL_isPlanned_167 (fun z167 u166 hq167 => ?_)
    obtain ⟨rfl, hM166⟩ := hq167
    refine zr_istore X [1, 2, 3, 4, 5, 6, 7, 8, 9, 0] [(0, .ref (ad (0))), (2, .int (nI (f))), (3, .int (nI (w))), (4, .int (dv)), (5, .int (nI (t))), (6, .long (AL μ c)), (8, .int (P (0))), (9, .int (zsum (fun k => P (k + 1)) (k))), (10, .int (nI (k))), (11, .int (P (k + 1)))] dL_isPlanned_170 (by decide) rfl ?_
    refine zr_iload X 7 dL_isPlanned_172 rfl ?_
    refine zr_iload X 9 dL_isPlanned_174 rfl ?_
    refine zr_iadd X ((zsum (fun k => P (k + 1)) (k)) + (P (k + 1))) dL_isPlanned_176 rfl ?_
    refine zr_istore X [1, 2, 3, 4, 5, 6, 7, 0, 8, 9] [(0, .ref (ad (0))), (2, .int (nI (f))), (3, .int (nI (w))), (4, .int (dv)), (5, .int (nI (t))), (6, .long (AL μ c)), (8, .int (P (0))), (9, .int ((zsum (fun k => P (k + 1)) (k)) + (P (k + 1)))), (10, .int (nI (k))), (11, .int (P (k + 1)))] dL_isPlanned_177 (by decide) rfl ?_
    refine zr_iload X 9 dL_isPlanned_179 rfl ?_
    refine zr_if_lt X 220 dL_isPlanned_181 (by decide) (fun q => absurd q ((L.2.1 k (by omega)).1)) (fun _ => ?_)
    refine zr_iload X 9 dL_isPlanned_184 rfl ?_
    refine zr_aloadn X 0 dL_isPlanned_186 rfl ?_
    refine zr_iloadn X 1 dL_isPlanned_187 rfl ?_
    refine zr_iload X 8 dL_isPlanned_188 rfl ?_
    refine zr_iconst X (nI (0)) dL_isPlanned_190 (by decide +kernel) ?_
    refine zr_dVi (C := RX5) (ci := 5) [.int (nI (f)), .int (nI (k)), .int (nI (0))] [.int (P (k + 1))] X (zK_ok A D tc tF tL tM) (q_offsets E μ S hM166 (f := f) hf (k := k) (by omega) (i := 0) (by omega)) k_p356 k_462 k_463 k_1 k_464 hdX5_offsets ⟨rfl, rfl⟩ ⟨Nat.le_of_ble_eq_true rfl, Nat.le_of_ble_eq_true rfl⟩ (by omega) sc_0 rfl rfl rfl (Nat.le_of_ble_eq_true rfl) dL_isPlanned_191 ?_
    refine zr_icmp_gt X 220 dL_isPlanned_194 (by decide) (fun q => absurd q ((L.2.1 k (by omega)).2.1)) (fun _ => ?_)
    refine zr_iload X 9 dL_isPlanned_197 rfl ?_
    refine zr_aloadn X 0 dL_isPlanned_199 rfl ?_
    refine zr_iloadn X 1 dL_isPlanned_200 rfl ?_
    refine zr_iload X 8 dL_isPlanned_201 rfl ?_
    refine zr_iconst X (nI (1)) dL_isPlanned_203 (by decide +kernel) ?_
    refine zr_dVi (C := RX5) (ci := 5) [.int (nI (f)), .int (nI (k)), .int (nI (1))] [.int (P (k + 1))] X (zK_ok A D tc tF tL tM) (q_offsets E μ S hM166 (f := f) hf (k := k) (by omega) (i := 1) (by omega)) k_p356 k_462 k_463 k_1 k_464 hdX5_offsets ⟨rfl, rfl⟩ ⟨Nat.le_of_ble_eq_true rfl, Nat.le_of_ble_eq_true rfl⟩ (by omega) sc_0 rfl rfl rfl (Nat.le_of_ble_eq_true rfl) dL_isPlanned_204 ?_
    refine zr_icmp_gt X 220 dL_isPlanned_207 (by decide) (fun q => absurd q ((L.2.1 k (by omega)).2.2.1)) (fun _ => ?_)
    refine zr_iloadn X 2 dL_isPlanned_210 rfl ?_
    refine zr_iconst X (nI (2)) dL_isPlanned_211 (by decide +kernel) ?_
    refine zr_icmp_ge X 222 dL_isPlanned_212 (by decide) (fun h212 => ?_) (fun h212 => ?_)
    · refine zr_iinc X 8 (nI (k + 1)) [1, 2, 3, 4, 5, 6, 7, 8, 0, 9] [(0, .ref (ad (0))), (2, .int (nI (f))), (3, .int (nI (w))), (4, .int (dv)), (5, .int (nI (t))), (6, .long (AL μ c)), (8, .int (P (0))), (9, .int ((zsum (fun k => P (k + 1)) (k)) + (P (k + 1)))), (10, .int (nI (k + 1))), (11, .int (P (k + 1)))] dL_isPlanned_222 rfl (zinc _) (by decide) rfl ?_
      refine zr_goto X 152 dL_isPlanned_225 (by decide) ?_
      refine zr_drop X [0, 1, 2, 3, 4, 5, 6, 7, 8] [(0, .ref (ad (0))), (2, .int (nI (f))), (3, .int (nI (w))), (4, .int (dv)), (5, .int (nI (t))), (6, .long (AL μ c)), (8, .int (P (0))), (9, .int ((zsum (fun k => P (k + 1)) (k)) + (P (k + 1)))), (10, .int (nI (k + 1)))] rfl ?_
      exact ih152 _ hM166
    · refine zr_iload X 9 dL_isPlanned_215 rfl ?_
      refine zr_if_le X 222 dL_isPlanned_217 (by decide) (fun _ => ?_) (fun q => absurd ((L.2.1 k (by omega)).2.2.2 h212) q)
      refine zr_iinc X 8 (nI (k + 1)) [1, 2, 3, 4, 5, 6, 7, 8, 0, 9] [(0, .ref (ad (0))), (2, .int (nI (f))), (3, .int (nI (w))), (4, .int (dv)), (5, .int (nI (t))), (6, .long (AL μ c)), (8, .int (P (0))), (9, .int ((zsum (fun k => P (k + 1)) (k)) + (P (k + 1)))), (10, .int (nI (k + 1))), (11, .int (P (k + 1)))] dL_isPlanned_222 rfl (zinc _) (by decide) rfl ?_
      refine zr_goto X 152 dL_isPlanned_225 (by decide) ?_
      refine zr_drop X [0, 1, 2, 3, 4, 5, 6, 7, 8] [(0, .ref (ad (0))), (2, .int (nI (f))), (3, .int (nI (w))), (4, .int (dv)), (5, .int (nI (t))), (6, .long (AL μ c)), (8, .int (P (0))), (9, .int ((zsum (fun k => P (k + 1)) (k)) + (P (k + 1)))), (10, .int (nI (k + 1)))] rfl ?_
      exact ih152 _ hM166
set_option maxHeartbeats 4000000 in
set_option maxRecDepth 100000 in
theorem l_pl_s {pP : Program} {l : Launch} {eE : Env} {sS : State} {mM : MethodId} {aS : Array Value} {bL : List Frame} {mT : Method} {cO : Code} {A : Nat → Prop} {D : va_G} {tc : Nat → ClassId} {ad : Nat → Nat} {tF tL tM : Nat} {ow : Nat → Nat} (E : zN 299 A ad) (μ : Nat → Int32) {B m c b ro z kf : Nat} (h : INV B μ) (hB : B ≤ 600) (S : clsS μ m c ro z) (I : rowI B μ m c b) (N : SND μ m) {f t w : Nat} (hf : f < c) (hw : w < 3) (ht1 : 1 ≤ t) (ht9 : t ≤ 9999) {y dv : Int32} (hdv : firF μ f 7 = dv) {P : Nat → Int32} (hp : ∀ {M : Nat → Int32}, hM μ M → ∀ {i : Nat}, i ≤ 5 → zMi l yX5_plan cX5_plan 6 (some .int) (zrm 5) (zK A D tc tF tL tM) A D vwCl tc ad 299 shC [.ref (ad 0), .int (nI f), .int (nI t), .int (nI w), .int (nI i)] M (fun r u => r = P i ∧ hM μ u)) (hs : ∀ {M : Nat → Int32}, hM μ M → zMi l yX5_surrender cX5_surrender 5 (some .int) (zrm 5) (zK A D tc tF tL tM) A D vwCl tc ad 299 shC [.ref (ad 0), .int (nI f), .int (nI t), .int (nI w)] M (fun r u => r = μ (32 * f + 36) - nI t ∧ INV (B + 1) u ∧ KEP μ u ∧ TOP μ u ∧ cnt μ ≤ cnt u ∧ firF u f 0 = firF μ f 0 - P 0 ∧ firF u f 7 = firF μ f 7 - nI t ∧ firF u f 10 = firF μ f 10)) (L : PLN μ f t w P) (hdn : nI t ≤ dv) (X : zX pP sS mM aS mT cO A D vwCl ad 299 15 (zK A D tc tF tL tM) (zTY tc) ow shC cL_isPlanned RL (some .boolean)) : zG pP l eE (zrm 7) sS mM aS bL mT cO A D vwCl tc ad 299 shC 15 (MQ bL (va_Qi (fun r u => r = nI 1 ∧ INV (B + 1) u ∧ eqr u μ ∧ KEP μ u) (fun u t => zW D vwCl tc ad 299 shC u t.heap) A) aS sS (zrm 7).cells (zrm 7).slots A) μ 70 [(0, .ref (ad (0))), (1, .int (y)), (2, .int (nI (f))), (3, .int (nI (w))), (4, .int (dv))] [.int (nI t)] := by
  have h8 := S.2.2.2.1
  have hb := I.2.2.2.2.1
  have hb1 := I.2.2.2.2.2.1
  have hb5 := I.2.2.2.2.2.2.1
  have hcm : cnt μ = c := zto S.2.2.1 (by omega)
  have hM0 := hM_same μ
  have hr0 : μ (32 * f + 36) - nI t = dv - nI t := by rw [← hdv]; rfl
  refine zr_istore X [1, 2, 3, 4, 5, 0] [(0, .ref (ad (0))), (1, .int (y)), (2, .int (nI (f))), (3, .int (nI (w))), (4, .int (dv)), (5, .int (nI (t)))] dL_isPlanned_70 (by decide) rfl ?_
  refine zr_aloadn X 0 dL_isPlanned_72 rfl ?_
  refine zr_dSl [.ref (ad (0))] [] X (zK_ok A D tc tF tL tM) (q_all E μ S hb hb1 hb5 hM0) k_648 k_p438 k_0 k_p439 hdL_all ⟨rfl, rfl⟩ ⟨Nat.le_of_ble_eq_true rfl, Nat.le_of_ble_eq_true rfl⟩ rfl rfl (Nat.le_of_ble_eq_true rfl) dL_isPlanned_73 ?_
  refine zr_lstore X [1, 2, 3, 4, 5, 6, 0] [(0, .ref (ad (0))), (1, .int (y)), (2, .int (nI (f))), (3, .int (nI (w))), (4, .int (dv)), (5, .int (nI (t))), (6, .long (AL μ c))] dL_isPlanned_76 (by decide) rfl ?_
  refine zr_aloadn X 0 dL_isPlanned_78 rfl ?_
  refine zr_iloadn X 2 dL_isPlanned_79 rfl ?_
  refine zr_iload X 5 dL_isPlanned_80 rfl ?_
  refine zr_iloadn X 3 dL_isPlanned_82 rfl ?_
  refine zr_iconst X (nI (0)) dL_isPlanned_83 (by decide +kernel) ?_
  refine zr_cVi (C := RX5) (ci := 5) [.int (nI (f)), .int (nI (t)), .int (nI (w)), .int (nI (0))] [] X (zK_ok A D tc tF tL tM) (hp hM0 (i := 0) (by omega)) k_652 k_505 k_506 k_1 k_507 hdX5_plan ⟨rfl, rfl⟩ ⟨Nat.le_of_ble_eq_true rfl, Nat.le_of_ble_eq_true rfl⟩ (by omega) sc_0 rfl rfl rfl (Nat.le_of_ble_eq_true rfl) dL_isPlanned_84 (fun z10 u9 hq10 => ?_)
  obtain ⟨rfl, hM9⟩ := hq10
  refine zr_istore X [1, 2, 3, 4, 5, 6, 7, 0] [(0, .ref (ad (0))), (1, .int (y)), (2, .int (nI (f))), (3, .int (nI (w))), (4, .int (dv)), (5, .int (nI (t))), (6, .long (AL μ c)), (8, .int (P (0)))] dL_isPlanned_87 (by decide) rfl ?_
  refine zr_iload X 7 dL_isPlanned_89 rfl ?_
  refine zr_if_ge X 146 dL_isPlanned_91 (by decide) (fun _ => ?_) (fun q => absurd (L.1) q)
  refine zr_iconst X (nI (0)) dL_isPlanned_146 (by decide +kernel) ?_
  refine zr_istore X [1, 2, 3, 4, 5, 6, 7, 8, 0] [(0, .ref (ad (0))), (1, .int (y)), (2, .int (nI (f))), (3, .int (nI (w))), (4, .int (dv)), (5, .int (nI (t))), (6, .long (AL μ c)), (8, .int (P (0))), (9, .int (nI (0)))] dL_isPlanned_147 (by decide) rfl ?_
  refine zr_iconst X (nI (0)) dL_isPlanned_149 (by decide +kernel) ?_
  refine zr_istore X [1, 2, 3, 4, 5, 6, 7, 8, 9, 0] [(0, .ref (ad (0))), (1, .int (y)), (2, .int (nI (f))), (3, .int (nI (w))), (4, .int (dv)), (5, .int (nI (t))), (6, .long (AL μ c)), (8, .int (P (0))), (9, .int (nI (0))), (10, .int (nI (0)))] dL_isPlanned_150 (by decide) rfl ?_
  refine zr_drop X [0, 2, 3, 4, 5, 6, 7, 8, 9] [(0, .ref (ad (0))), (2, .int (nI (f))), (3, .int (nI (w))), (4, .int (dv)), (5, .int (nI (t))), (6, .long (AL μ c)), (8, .int (P (0))), (9, .int (nI (0))), (10, .int (nI (0)))] rfl ?_
  refine zr_forM X (3) (fun k u => hM μ u) (fun k => [(0, .ref (ad (0))), (2, .int (nI (f))), (3, .int (nI (w))), (4, .int (dv)), (5, .int (nI (t))), (6, .long (AL μ c)), (8, .int (P (0))), (9, .int (zsum (fun k => P (k + 1)) (k))), (10, .int (nI (k)))]) [] (hM9) rfl ?_ ?_
  · intro u21 hg21
    refine zr_iload X 8 dL_isPlanned_152 rfl ?_
    refine zr_iconst X (nI (3)) dL_isPlanned_154 (by decide +kernel) ?_
    refine zr_icmp_ge X 228 dL_isPlanned_155 (by decide) (fun _ => ?_) (fun q => absurd (zq_le (by omega) (by omega)) q)
    refine zr_aloadn X 0 dL_isPlanned_228 rfl ?_
    refine zr_iloadn X 1 dL_isPlanned_229 rfl ?_
    refine zr_iload X 4 dL_isPlanned_230 rfl ?_
    refine zr_iloadn X 2 dL_isPlanned_232 rfl ?_
    refine zr_iconst X (nI (4)) dL_isPlanned_233 (by decide +kernel) ?_
    refine zr_cVi (C := RX5) (ci := 5) [.int (nI (f)), .int (nI (t)), .int (nI (w)), .int (nI (4))] [] X (zK_ok A D tc tF tL tM) (hp hg21 (i := 4) (by omega)) k_652 k_505 k_506 k_1 k_507 hdX5_plan ⟨rfl, rfl⟩ ⟨Nat.le_of_ble_eq_true rfl, Nat.le_of_ble_eq_true rfl⟩ (by omega) sc_0 rfl rfl rfl (Nat.le_of_ble_eq_true rfl) dL_isPlanned_234 (fun z31 u30 hq31 => ?_)
    obtain ⟨rfl, hM30⟩ := hq31
    refine zr_istore X [1, 2, 3, 4, 5, 6, 7, 8, 0] [(0, .ref (ad (0))), (2, .int (nI (f))), (3, .int (nI (w))), (4, .int (dv)), (5, .int (nI (t))), (6, .long (AL μ c)), (8, .int (P (0))), (9, .int (zsum (fun k => P (k + 1)) (3))), (10, .int (P (4)))] dL_isPlanned_237 (by decide) rfl ?_
    refine zr_aloadn X 0 dL_isPlanned_239 rfl ?_
    refine zr_iloadn X 1 dL_isPlanned_240 rfl ?_
    refine zr_iload X 4 dL_isPlanned_241 rfl ?_
    refine zr_iloadn X 2 dL_isPlanned_243 rfl ?_
    refine zr_iconst X (nI (5)) dL_isPlanned_244 (by decide +kernel) ?_
    refine zr_cVi (C := RX5) (ci := 5) [.int (nI (f)), .int (nI (t)), .int (nI (w)), .int (nI (5))] [] X (zK_ok A D tc tF tL tM) (hp hM30 (i := 5) (by omega)) k_652 k_505 k_506 k_1 k_507 hdX5_plan ⟨rfl, rfl⟩ ⟨Nat.le_of_ble_eq_true rfl, Nat.le_of_ble_eq_true rfl⟩ (by omega) sc_0 rfl rfl rfl (Nat.le_of_ble_eq_true rfl) dL_isPlanned_245 (fun z39 u38 hq39 => ?_)
    obtain ⟨rfl, hM38⟩ := hq39
    refine zr_istore X [1, 2, 3, 4, 5, 6, 7, 8, 9, 0] [(0, .ref (ad (0))), (2, .int (nI (f))), (3, .int (nI (w))), (4, .int (dv)), (5, .int (nI (t))), (6, .long (AL μ c)), (8, .int (P (0))), (9, .int (zsum (fun k => P (k + 1)) (3))), (10, .int (P (4))), (11, .int (P (5)))] dL_isPlanned_248 (by decide) rfl ?_
    refine zr_iload X 6 dL_isPlanned_250 rfl ?_
    refine zr_iload X 7 dL_isPlanned_252 rfl ?_
    refine zr_iadd X ((P (0)) + (zsum (fun k => P (k + 1)) (3))) dL_isPlanned_254 rfl ?_
    refine zr_iload X 4 dL_isPlanned_255 rfl ?_
    refine zr_icmp_ne X 353 dL_isPlanned_257 (by decide) (fun q => absurd (L.2.2.1) q) (fun _ => ?_)
    refine zr_iload X 6 dL_isPlanned_260 rfl ?_
    refine zr_if_ne X 269 dL_isPlanned_262 (by decide) (fun h262 => ?_) (fun h262 => ?_)
    · have n5 : ¬ P (5) = -5 := fun q => h262 (L.2.2.2.1.mpr (L.2.2.2.2.1.mpr q))
      refine zr_iconst X (nI (0)) dL_isPlanned_269 (by decide +kernel) ?_
      refine zr_iload X 8 dL_isPlanned_270 rfl ?_
      refine zr_if_ne X 279 dL_isPlanned_272 (by decide) (fun _ => ?_) (fun q => absurd q (fun q => h262 (L.2.2.2.1.mpr q)))
      refine zr_iconst X (nI (0)) dL_isPlanned_279 (by decide +kernel) ?_
      refine zr_icmp_ne X 353 dL_isPlanned_280 (by decide) (fun q => absurd (zq_eq (by omega)) q) (fun _ => ?_)
      refine zr_iload X 8 dL_isPlanned_283 rfl ?_
      refine zr_if_ne X 292 dL_isPlanned_285 (by decide) (fun _ => ?_) (fun q => absurd q (fun q => h262 (L.2.2.2.1.mpr q)))
      refine zr_iconst X (nI (0)) dL_isPlanned_292 (by decide +kernel) ?_
      refine zr_iload X 9 dL_isPlanned_293 rfl ?_
      refine zr_bipush X (-5) dL_isPlanned_295 (by decide +kernel) ?_
      refine zr_icmp_ne X 304 dL_isPlanned_297 (by decide) (fun _ => ?_) (fun q => absurd q (n5))
      refine zr_iconst X (nI (0)) dL_isPlanned_304 (by decide +kernel) ?_
      refine zr_icmp_ne X 353 dL_isPlanned_305 (by decide) (fun q => absurd (zq_eq (by omega)) q) (fun _ => ?_)
      refine zr_iload X 9 dL_isPlanned_308 rfl ?_
      refine zr_if_lt X 343 dL_isPlanned_310 (by decide) (fun q => absurd q ((L.2.2.2.2.2 n5).1)) (fun _ => ?_)
      refine zr_iloadn X 2 dL_isPlanned_313 rfl ?_
      refine zr_iconst X (nI (1)) dL_isPlanned_314 (by decide +kernel) ?_
      refine zr_icmp_ne X 332 dL_isPlanned_315 (by decide) (fun h315 => ?_) (fun h315 => ?_)
      · refine zr_iload X 9 dL_isPlanned_332 rfl ?_
        refine zr_aloadn X 0 dL_isPlanned_334 rfl ?_
        refine zr_iloadn X 1 dL_isPlanned_335 rfl ?_
        refine zr_iconst X (nI (2)) dL_isPlanned_336 (by decide +kernel) ?_
        refine zr_dVi (C := RX5) (ci := 5) [.int (nI (f)), .int (nI (2))] [.int (P (5))] X (zK_ok A D tc tF tL tM) (q_firm E μ S hM38 (f := f) hf (i := 2) (by omega)) k_261 k_432 k_433 k_1 k_434 hdX5_firm ⟨rfl, rfl⟩ ⟨Nat.le_of_ble_eq_true rfl, Nat.le_of_ble_eq_true rfl⟩ (by omega) sc_0 rfl rfl rfl (Nat.le_of_ble_eq_true rfl) dL_isPlanned_337 ?_
        refine zr_icmp_ne X 353 dL_isPlanned_340 (by decide) (fun q => absurd ((L.2.2.2.2.2 n5).2.2 h315) q) (fun _ => ?_)
        refine zr_aloadn X 0 dL_isPlanned_343 rfl ?_
        refine zr_dSl [.ref (ad (0))] [] X (zK_ok A D tc tF tL tM) (q_all E μ S hb hb1 hb5 hM38) k_648 k_p438 k_0 k_p439 hdL_all ⟨rfl, rfl⟩ ⟨Nat.le_of_ble_eq_true rfl, Nat.le_of_ble_eq_true rfl⟩ rfl rfl (Nat.le_of_ble_eq_true rfl) dL_isPlanned_344 ?_
        refine zr_lload X 5 dL_isPlanned_347 rfl ?_
        refine zr_lcmp X dL_isPlanned_349 ?_
        refine zr_if_eq X 355 dL_isPlanned_350 (by decide) (fun _ => ?_) (fun q => absurd (lg_same _) q)
        refine zr_iload X 3 dL_isPlanned_355 rfl ?_
        refine zr_iload X 4 dL_isPlanned_357 rfl ?_
        refine zr_icmp_ge X 381 dL_isPlanned_359 (by decide) (fun _ => ?_) (fun q => absurd (hdn) q)
        refine zr_aloadn X 0 dL_isPlanned_381 rfl ?_
        refine zr_iloadn X 1 dL_isPlanned_382 rfl ?_
        refine zr_iconst X (nI (0)) dL_isPlanned_383 (by decide +kernel) ?_
        refine zr_dVi (C := RX5) (ci := 5) [.int (nI (f)), .int (nI (0))] [] X (zK_ok A D tc tF tL tM) (q_firm E μ S hM38 (f := f) hf (i := 0) (by omega)) k_261 k_432 k_433 k_1 k_434 hdX5_firm ⟨rfl, rfl⟩ ⟨Nat.le_of_ble_eq_true rfl, Nat.le_of_ble_eq_true rfl⟩ (by omega) sc_0 rfl rfl rfl (Nat.le_of_ble_eq_true rfl) dL_isPlanned_384 ?_
        refine zr_istore X [1, 2, 3, 4, 5, 6, 7, 8, 9, 10, 0] [(0, .ref (ad (0))), (2, .int (nI (f))), (3, .int (nI (w))), (4, .int (dv)), (5, .int (nI (t))), (6, .long (AL μ c)), (8, .int (P (0))), (9, .int (zsum (fun k => P (k + 1)) (3))), (10, .int (P (4))), (11, .int (P (5))), (12, .int (firF μ (f) (0)))] dL_isPlanned_387 (by decide) rfl ?_
        refine zr_aloadn X 0 dL_isPlanned_389 rfl ?_
        refine zr_iloadn X 1 dL_isPlanned_390 rfl ?_
        refine zr_bipush X (nI (10)) dL_isPlanned_391 (by decide +kernel) ?_
        refine zr_dVi (C := RX5) (ci := 5) [.int (nI (f)), .int (nI (10))] [] X (zK_ok A D tc tF tL tM) (q_firm E μ S hM38 (f := f) hf (i := 10) (by omega)) k_261 k_432 k_433 k_1 k_434 hdX5_firm ⟨rfl, rfl⟩ ⟨Nat.le_of_ble_eq_true rfl, Nat.le_of_ble_eq_true rfl⟩ (by omega) sc_0 rfl rfl rfl (Nat.le_of_ble_eq_true rfl) dL_isPlanned_393 ?_
        refine zr_istore X [1, 2, 3, 4, 5, 6, 7, 8, 9, 10, 11, 0] [(0, .ref (ad (0))), (2, .int (nI (f))), (3, .int (nI (w))), (4, .int (dv)), (5, .int (nI (t))), (6, .long (AL μ c)), (8, .int (P (0))), (9, .int (zsum (fun k => P (k + 1)) (3))), (10, .int (P (4))), (11, .int (P (5))), (12, .int (firF μ (f) (0))), (13, .int (firF μ (f) (10)))] dL_isPlanned_396 (by decide) rfl ?_
        refine zr_aloadn X 0 dL_isPlanned_398 rfl ?_
        refine zr_iloadn X 1 dL_isPlanned_399 rfl ?_
        refine zr_iload X 4 dL_isPlanned_400 rfl ?_
        refine zr_iloadn X 2 dL_isPlanned_402 rfl ?_
        refine zr_cVi (C := RX5) (ci := 5) [.int (nI (f)), .int (nI (t)), .int (nI (w))] [] X (zK_ok A D tc tF tL tM) (hs hM38) k_p470 k_326 k_327 k_1 k_328 hdX5_surrender ⟨rfl, rfl⟩ ⟨Nat.le_of_ble_eq_true rfl, Nat.le_of_ble_eq_true rfl⟩ (by omega) sc_0 rfl rfl rfl (Nat.le_of_ble_eq_true rfl) dL_isPlanned_403 (fun z98 u97 hq98 => ?_)
        obtain ⟨rfl, hi, hkp, htp, hcn, he0, he7, he10⟩ := hq98
        have hcu : c ≤ cnt u97 := hcm ▸ hcn
        refine zr_iload X 3 dL_isPlanned_406 rfl ?_
        refine zr_iload X 4 dL_isPlanned_408 rfl ?_
        refine zr_isub X (dv - (nI (t))) dL_isPlanned_410 rfl ?_
        refine zr_icmp_ne X 462 dL_isPlanned_411 (by decide) (fun q => absurd (hr0) q) (fun _ => ?_)
        refine zr_aloadn X 0 dL_isPlanned_414 rfl ?_
        refine zr_iloadn X 1 dL_isPlanned_415 rfl ?_
        refine zr_iconst X (nI (0)) dL_isPlanned_416 (by decide +kernel) ?_
        refine zr_dVi (C := RX5) (ci := 5) [.int (nI (f)), .int (nI (0))] [] X (zK_ok A D tc tF tL tM) (q_firm2 E μ hi hcu (f := f) hf (i := 0) (by omega)) k_261 k_432 k_433 k_1 k_434 hdX5_firm ⟨rfl, rfl⟩ ⟨Nat.le_of_ble_eq_true rfl, Nat.le_of_ble_eq_true rfl⟩ (by omega) sc_0 rfl rfl rfl (Nat.le_of_ble_eq_true rfl) dL_isPlanned_417 ?_
        refine zr_iload X 10 dL_isPlanned_420 rfl ?_
        refine zr_iload X 6 dL_isPlanned_422 rfl ?_
        refine zr_isub X ((firF μ (f) (0)) - (P (0))) dL_isPlanned_424 rfl ?_
        refine zr_icmp_ne X 462 dL_isPlanned_425 (by decide) (fun q => absurd (he0) q) (fun _ => ?_)
        refine zr_aloadn X 0 dL_isPlanned_428 rfl ?_
        refine zr_iloadn X 1 dL_isPlanned_429 rfl ?_
        refine zr_bipush X (nI (7)) dL_isPlanned_430 (by decide +kernel) ?_
        refine zr_dVi (C := RX5) (ci := 5) [.int (nI (f)), .int (nI (7))] [] X (zK_ok A D tc tF tL tM) (q_firm2 E μ hi hcu (f := f) hf (i := 7) (by omega)) k_261 k_432 k_433 k_1 k_434 hdX5_firm ⟨rfl, rfl⟩ ⟨Nat.le_of_ble_eq_true rfl, Nat.le_of_ble_eq_true rfl⟩ (by omega) sc_0 rfl rfl rfl (Nat.le_of_ble_eq_true rfl) dL_isPlanned_432 ?_
        refine zr_iload X 3 dL_isPlanned_435 rfl ?_
        refine zr_iload X 4 dL_isPlanned_437 rfl ?_
        refine zr_isub X (dv - (nI (t))) dL_isPlanned_439 rfl ?_
        refine zr_icmp_ne X 462 dL_isPlanned_440 (by decide) (fun q => absurd (he7.trans (by rw [hdv])) q) (fun _ => ?_)
        refine zr_aloadn X 0 dL_isPlanned_443 rfl ?_
        refine zr_iloadn X 1 dL_isPlanned_444 rfl ?_
        refine zr_bipush X (nI (10)) dL_isPlanned_445 (by decide +kernel) ?_
        refine zr_dVi (C := RX5) (ci := 5) [.int (nI (f)), .int (nI (10))] [] X (zK_ok A D tc tF tL tM) (q_firm2 E μ hi hcu (f := f) hf (i := 10) (by omega)) k_261 k_432 k_433 k_1 k_434 hdX5_firm ⟨rfl, rfl⟩ ⟨Nat.le_of_ble_eq_true rfl, Nat.le_of_ble_eq_true rfl⟩ (by omega) sc_0 rfl rfl rfl (Nat.le_of_ble_eq_true rfl) dL_isPlanned_447 ?_
        refine zr_iload X 11 dL_isPlanned_450 rfl ?_
        refine zr_iload X 4 dL_isPlanned_452 rfl ?_
        refine zr_isub X ((firF μ (f) (10)) - (nI (t))) dL_isPlanned_454 rfl ?_
        refine zr_icmp_lt X 462 dL_isPlanned_455 (by decide) (fun q => absurd q (by rw [he10]; exact still_le hB I N hf ht9)) (fun _ => ?_)
        refine zr_iconst X (nI (1)) dL_isPlanned_458 (by decide +kernel) ?_
        refine zr_goto X 463 dL_isPlanned_459 (by decide) ?_
        refine zr_istore X [1, 2, 3, 4, 5, 6, 7, 8, 9, 10, 11, 12, 0] [(0, .ref (ad (0))), (2, .int (nI (f))), (3, .int (nI (w))), (4, .int (dv)), (5, .int (nI (t))), (6, .long (AL μ c)), (8, .int (P (0))), (9, .int (zsum (fun k => P (k + 1)) (3))), (10, .int (P (4))), (11, .int (P (5))), (12, .int (firF μ (f) (0))), (13, .int (firF μ (f) (10))), (14, .int (nI (1)))] dL_isPlanned_463 (by decide) rfl ?_
        refine zr_iload X 12 dL_isPlanned_465 rfl ?_
        refine zr_if_eq X 491 dL_isPlanned_467 (by decide) (fun q => absurd q (nI_ne0 (by omega) (by omega))) (fun _ => ?_)
        refine zr_aloadn X 0 dL_isPlanned_470 rfl ?_
        refine zr_cVi (C := RX5) (ci := 5) [] [] X (zK_ok A D tc tF tL tM) (p_undo E u97 hi htp) k_p302 k_416 k_417 k_1 k_418 hdX5_undo ⟨rfl, rfl⟩ ⟨Nat.le_of_ble_eq_true rfl, Nat.le_of_ble_eq_true rfl⟩ (by omega) sc_0 rfl rfl rfl (Nat.le_of_ble_eq_true rfl) dL_isPlanned_471 (fun z134 u134 hq134 => ?_)
        obtain ⟨hz, hi2, he2, hk2⟩ := hq134
        refine zr_if_lt X 491 dL_isPlanned_474 (by decide) (fun q => absurd q (nlt_of_le hz)) (fun _ => ?_)
        refine zr_aloadn X 0 dL_isPlanned_477 rfl ?_
        refine zr_dSl [.ref (ad (0))] [] X (zK_ok A D tc tF tL tM) (q_all2 E μ S hi2 he2) k_648 k_p438 k_0 k_p439 hdL_all ⟨rfl, rfl⟩ ⟨Nat.le_of_ble_eq_true rfl, Nat.le_of_ble_eq_true rfl⟩ rfl rfl (Nat.le_of_ble_eq_true rfl) dL_isPlanned_478 ?_
        refine zr_lload X 5 dL_isPlanned_481 rfl ?_
        refine zr_lcmp X dL_isPlanned_483 ?_
        refine zr_if_ne X 491 dL_isPlanned_484 (by decide) (fun q => absurd (lg_same _) q) (fun _ => ?_)
        refine zr_iconst X (nI (1)) dL_isPlanned_487 (by decide +kernel) ?_
        refine zr_goto X 492 dL_isPlanned_488 (by decide) ?_
        exact zr_zret X dL_isPlanned_492 rfl ⟨rfl, hi2, he2, KEP.trans hkp hk2⟩
      · refine zr_iload X 9 dL_isPlanned_318 rfl ?_
        refine zr_aloadn X 0 dL_isPlanned_320 rfl ?_
        refine zr_iloadn X 1 dL_isPlanned_321 rfl ?_
        refine zr_iconst X (nI (3)) dL_isPlanned_322 (by decide +kernel) ?_
        refine zr_dVi (C := RX5) (ci := 5) [.int (nI (f)), .int (nI (3))] [.int (P (5))] X (zK_ok A D tc tF tL tM) (q_firm E μ S hM38 (f := f) hf (i := 3) (by omega)) k_261 k_432 k_433 k_1 k_434 hdX5_firm ⟨rfl, rfl⟩ ⟨Nat.le_of_ble_eq_true rfl, Nat.le_of_ble_eq_true rfl⟩ (by omega) sc_0 rfl rfl rfl (Nat.le_of_ble_eq_true rfl) dL_isPlanned_323 ?_
        refine zr_icmp_eq X 343 dL_isPlanned_326 (by decide) (fun _ => ?_) (fun q => absurd ((L.2.2.2.2.2 n5).2.1 h315) q)
        refine zr_aloadn X 0 dL_isPlanned_343 rfl ?_
        refine zr_dSl [.ref (ad (0))] [] X (zK_ok A D tc tF tL tM) (q_all E μ S hb hb1 hb5 hM38) k_648 k_p438 k_0 k_p439 hdL_all ⟨rfl, rfl⟩ ⟨Nat.le_of_ble_eq_true rfl, Nat.le_of_ble_eq_true rfl⟩ rfl rfl (Nat.le_of_ble_eq_true rfl) dL_isPlanned_344 ?_
        refine zr_lload X 5 dL_isPlanned_347 rfl ?_
        refine zr_lcmp X dL_isPlanned_349 ?_
        refine zr_if_eq X 355 dL_isPlanned_350 (by decide) (fun _ => ?_) (fun q => absurd (lg_same _) q)
        refine zr_iload X 3 dL_isPlanned_355 rfl ?_
        refine zr_iload X 4 dL_isPlanned_357 rfl ?_
        refine zr_icmp_ge X 381 dL_isPlanned_359 (by decide) (fun _ => ?_) (fun q => absurd (hdn) q)
        refine zr_aloadn X 0 dL_isPlanned_381 rfl ?_
        refine zr_iloadn X 1 dL_isPlanned_382 rfl ?_
        refine zr_iconst X (nI (0)) dL_isPlanned_383 (by decide +kernel) ?_
        refine zr_dVi (C := RX5) (ci := 5) [.int (nI (f)), .int (nI (0))] [] X (zK_ok A D tc tF tL tM) (q_firm E μ S hM38 (f := f) hf (i := 0) (by omega)) k_261 k_432 k_433 k_1 k_434 hdX5_firm ⟨rfl, rfl⟩ ⟨Nat.le_of_ble_eq_true rfl, Nat.le_of_ble_eq_true rfl⟩ (by omega) sc_0 rfl rfl rfl (Nat.le_of_ble_eq_true rfl) dL_isPlanned_384 ?_
        refine zr_istore X [1, 2, 3, 4, 5, 6, 7, 8, 9, 10, 0] [(0, .ref (ad (0))), (2, .int (nI (f))), (3, .int (nI (w))), (4, .int (dv)), (5, .int (nI (t))), (6, .long (AL μ c)), (8, .int (P (0))), (9, .int (zsum (fun k => P (k + 1)) (3))), (10, .int (P (4))), (11, .int (P (5))), (12, .int (firF μ (f) (0)))] dL_isPlanned_387 (by decide) rfl ?_
        refine zr_aloadn X 0 dL_isPlanned_389 rfl ?_
        refine zr_iloadn X 1 dL_isPlanned_390 rfl ?_
        refine zr_bipush X (nI (10)) dL_isPlanned_391 (by decide +kernel) ?_
        refine zr_dVi (C := RX5) (ci := 5) [.int (nI (f)), .int (nI (10))] [] X (zK_ok A D tc tF tL tM) (q_firm E μ S hM38 (f := f) hf (i := 10) (by omega)) k_261 k_432 k_433 k_1 k_434 hdX5_firm ⟨rfl, rfl⟩ ⟨Nat.le_of_ble_eq_true rfl, Nat.le_of_ble_eq_true rfl⟩ (by omega) sc_0 rfl rfl rfl (Nat.le_of_ble_eq_true rfl) dL_isPlanned_393 ?_
        refine zr_istore X [1, 2, 3, 4, 5, 6, 7, 8, 9, 10, 11, 0] [(0, .ref (ad (0))), (2, .int (nI (f))), (3, .int (nI (w))), (4, .int (dv)), (5, .int (nI (t))), (6, .long (AL μ c)), (8, .int (P (0))), (9, .int (zsum (fun k => P (k + 1)) (3))), (10, .int (P (4))), (11, .int (P (5))), (12, .int (firF μ (f) (0))), (13, .int (firF μ (f) (10)))] dL_isPlanned_396 (by decide) rfl ?_
        refine zr_aloadn X 0 dL_isPlanned_398 rfl ?_
        refine zr_iloadn X 1 dL_isPlanned_399 rfl ?_
        refine zr_iload X 4 dL_isPlanned_400 rfl ?_
        refine zr_iloadn X 2 dL_isPlanned_402 rfl ?_
        refine zr_cVi (C := RX5) (ci := 5) [.int (nI (f)), .int (nI (t)), .int (nI (w))] [] X (zK_ok A D tc tF tL tM) (hs hM38) k_p470 k_326 k_327 k_1 k_328 hdX5_surrender ⟨rfl, rfl⟩ ⟨Nat.le_of_ble_eq_true rfl, Nat.le_of_ble_eq_true rfl⟩ (by omega) sc_0 rfl rfl rfl (Nat.le_of_ble_eq_true rfl) dL_isPlanned_403 (fun z174 u173 hq174 => ?_)
        obtain ⟨rfl, hi, hkp, htp, hcn, he0, he7, he10⟩ := hq174
        have hcu : c ≤ cnt u173 := hcm ▸ hcn
        refine zr_iload X 3 dL_isPlanned_406 rfl ?_
        refine zr_iload X 4 dL_isPlanned_408 rfl ?_
        refine zr_isub X (dv - (nI (t))) dL_isPlanned_410 rfl ?_
        refine zr_icmp_ne X 462 dL_isPlanned_411 (by decide) (fun q => absurd (hr0) q) (fun _ => ?_)
        refine zr_aloadn X 0 dL_isPlanned_414 rfl ?_
        refine zr_iloadn X 1 dL_isPlanned_415 rfl ?_
        refine zr_iconst X (nI (0)) dL_isPlanned_416 (by decide +kernel) ?_
        refine zr_dVi (C := RX5) (ci := 5) [.int (nI (f)), .int (nI (0))] [] X (zK_ok A D tc tF tL tM) (q_firm2 E μ hi hcu (f := f) hf (i := 0) (by omega)) k_261 k_432 k_433 k_1 k_434 hdX5_firm ⟨rfl, rfl⟩ ⟨Nat.le_of_ble_eq_true rfl, Nat.le_of_ble_eq_true rfl⟩ (by omega) sc_0 rfl rfl rfl (Nat.le_of_ble_eq_true rfl) dL_isPlanned_417 ?_
        refine zr_iload X 10 dL_isPlanned_420 rfl ?_
        refine zr_iload X 6 dL_isPlanned_422 rfl ?_
        refine zr_isub X ((firF μ (f) (0)) - (P (0))) dL_isPlanned_424 rfl ?_
        refine zr_icmp_ne X 462 dL_isPlanned_425 (by decide) (fun q => absurd (he0) q) (fun _ => ?_)
        refine zr_aloadn X 0 dL_isPlanned_428 rfl ?_
        refine zr_iloadn X 1 dL_isPlanned_429 rfl ?_
        refine zr_bipush X (nI (7)) dL_isPlanned_430 (by decide +kernel) ?_
        refine zr_dVi (C := RX5) (ci := 5) [.int (nI (f)), .int (nI (7))] [] X (zK_ok A D tc tF tL tM) (q_firm2 E μ hi hcu (f := f) hf (i := 7) (by omega)) k_261 k_432 k_433 k_1 k_434 hdX5_firm ⟨rfl, rfl⟩ ⟨Nat.le_of_ble_eq_true rfl, Nat.le_of_ble_eq_true rfl⟩ (by omega) sc_0 rfl rfl rfl (Nat.le_of_ble_eq_true rfl) dL_isPlanned_432 ?_
        refine zr_iload X 3 dL_isPlanned_435 rfl ?_
        refine zr_iload X 4 dL_isPlanned_437 rfl ?_
        refine zr_isub X (dv - (nI (t))) dL_isPlanned_439 rfl ?_
        refine zr_icmp_ne X 462 dL_isPlanned_440 (by decide) (fun q => absurd (he7.trans (by rw [hdv])) q) (fun _ => ?_)
        refine zr_aloadn X 0 dL_isPlanned_443 rfl ?_
        refine zr_iloadn X 1 dL_isPlanned_444 rfl ?_
        refine zr_bipush X (nI (10)) dL_isPlanned_445 (by decide +kernel) ?_
        refine zr_dVi (C := RX5) (ci := 5) [.int (nI (f)), .int (nI (10))] [] X (zK_ok A D tc tF tL tM) (q_firm2 E μ hi hcu (f := f) hf (i := 10) (by omega)) k_261 k_432 k_433 k_1 k_434 hdX5_firm ⟨rfl, rfl⟩ ⟨Nat.le_of_ble_eq_true rfl, Nat.le_of_ble_eq_true rfl⟩ (by omega) sc_0 rfl rfl rfl (Nat.le_of_ble_eq_true rfl) dL_isPlanned_447 ?_
        refine zr_iload X 11 dL_isPlanned_450 rfl ?_
        refine zr_iload X 4 dL_isPlanned_452 rfl ?_
        refine zr_isub X ((firF μ (f) (10)) - (nI (t))) dL_isPlanned_454 rfl ?_
        refine zr_icmp_lt X 462 dL_isPlanned_455 (by decide) (fun q => absurd q (by rw [he10]; exact still_le hB I N hf ht9)) (fun _ => ?_)
        refine zr_iconst X (nI (1)) dL_isPlanned_458 (by decide +kernel) ?_
        refine zr_goto X 463 dL_isPlanned_459 (by decide) ?_
        refine zr_istore X [1, 2, 3, 4, 5, 6, 7, 8, 9, 10, 11, 12, 0] [(0, .ref (ad (0))), (2, .int (nI (f))), (3, .int (nI (w))), (4, .int (dv)), (5, .int (nI (t))), (6, .long (AL μ c)), (8, .int (P (0))), (9, .int (zsum (fun k => P (k + 1)) (3))), (10, .int (P (4))), (11, .int (P (5))), (12, .int (firF μ (f) (0))), (13, .int (firF μ (f) (10))), (14, .int (nI (1)))] dL_isPlanned_463 (by decide) rfl ?_
        refine zr_iload X 12 dL_isPlanned_465 rfl ?_
        refine zr_if_eq X 491 dL_isPlanned_467 (by decide) (fun q => absurd q (nI_ne0 (by omega) (by omega))) (fun _ => ?_)
        refine zr_aloadn X 0 dL_isPlanned_470 rfl ?_
        refine zr_cVi (C := RX5) (ci := 5) [] [] X (zK_ok A D tc tF tL tM) (p_undo E u173 hi htp) k_p302 k_416 k_417 k_1 k_418 hdX5_undo ⟨rfl, rfl⟩ ⟨Nat.le_of_ble_eq_true rfl, Nat.le_of_ble_eq_true rfl⟩ (by omega) sc_0 rfl rfl rfl (Nat.le_of_ble_eq_true rfl) dL_isPlanned_471 (fun z210 u210 hq210 => ?_)
        obtain ⟨hz, hi2, he2, hk2⟩ := hq210
        refine zr_if_lt X 491 dL_isPlanned_474 (by decide) (fun q => absurd q (nlt_of_le hz)) (fun _ => ?_)
        refine zr_aloadn X 0 dL_isPlanned_477 rfl ?_
        refine zr_dSl [.ref (ad (0))] [] X (zK_ok A D tc tF tL tM) (q_all2 E μ S hi2 he2) k_648 k_p438 k_0 k_p439 hdL_all ⟨rfl, rfl⟩ ⟨Nat.le_of_ble_eq_true rfl, Nat.le_of_ble_eq_true rfl⟩ rfl rfl (Nat.le_of_ble_eq_true rfl) dL_isPlanned_478 ?_
        refine zr_lload X 5 dL_isPlanned_481 rfl ?_
        refine zr_lcmp X dL_isPlanned_483 ?_
        refine zr_if_ne X 491 dL_isPlanned_484 (by decide) (fun q => absurd (lg_same _) q) (fun _ => ?_)
        refine zr_iconst X (nI (1)) dL_isPlanned_487 (by decide +kernel) ?_
        refine zr_goto X 492 dL_isPlanned_488 (by decide) ?_
        exact zr_zret X dL_isPlanned_492 rfl ⟨rfl, hi2, he2, KEP.trans hkp hk2⟩
    · refine zr_iconst X (nI (1)) dL_isPlanned_265 (by decide +kernel) ?_
      refine zr_goto X 270 dL_isPlanned_266 (by decide) ?_
      refine zr_iload X 8 dL_isPlanned_270 rfl ?_
      refine zr_if_ne X 279 dL_isPlanned_272 (by decide) (fun q => absurd (L.2.2.2.1.mp h262) q) (fun _ => ?_)
      refine zr_iconst X (nI (1)) dL_isPlanned_275 (by decide +kernel) ?_
      refine zr_goto X 280 dL_isPlanned_276 (by decide) ?_
      refine zr_icmp_ne X 353 dL_isPlanned_280 (by decide) (fun q => absurd (zq_eq (by omega)) q) (fun _ => ?_)
      refine zr_iload X 8 dL_isPlanned_283 rfl ?_
      refine zr_if_ne X 292 dL_isPlanned_285 (by decide) (fun q => absurd (L.2.2.2.1.mp h262) q) (fun _ => ?_)
      refine zr_iconst X (nI (1)) dL_isPlanned_288 (by decide +kernel) ?_
      refine zr_goto X 293 dL_isPlanned_289 (by decide) ?_
      refine zr_iload X 9 dL_isPlanned_293 rfl ?_
      refine zr_bipush X (-5) dL_isPlanned_295 (by decide +kernel) ?_
      refine zr_icmp_ne X 304 dL_isPlanned_297 (by decide) (fun q => absurd (L.2.2.2.2.1.mp (L.2.2.2.1.mp h262)) q) (fun _ => ?_)
      refine zr_iconst X (nI (1)) dL_isPlanned_300 (by decide +kernel) ?_
      refine zr_goto X 305 dL_isPlanned_301 (by decide) ?_
      refine zr_icmp_ne X 353 dL_isPlanned_305 (by decide) (fun q => absurd (zq_eq (by omega)) q) (fun _ => ?_)
      refine zr_iload X 9 dL_isPlanned_308 rfl ?_
      refine zr_if_lt X 343 dL_isPlanned_310 (by decide) (fun _ => ?_) (fun q => absurd (by rw [L.2.2.2.2.1.mp (L.2.2.2.1.mp h262)]; decide +kernel) q)
      refine zr_aloadn X 0 dL_isPlanned_343 rfl ?_
      refine zr_dSl [.ref (ad (0))] [] X (zK_ok A D tc tF tL tM) (q_all E μ S hb hb1 hb5 hM38) k_648 k_p438 k_0 k_p439 hdL_all ⟨rfl, rfl⟩ ⟨Nat.le_of_ble_eq_true rfl, Nat.le_of_ble_eq_true rfl⟩ rfl rfl (Nat.le_of_ble_eq_true rfl) dL_isPlanned_344 ?_
      refine zr_lload X 5 dL_isPlanned_347 rfl ?_
      refine zr_lcmp X dL_isPlanned_349 ?_
      refine zr_if_eq X 355 dL_isPlanned_350 (by decide) (fun _ => ?_) (fun q => absurd (lg_same _) q)
      refine zr_iload X 3 dL_isPlanned_355 rfl ?_
      refine zr_iload X 4 dL_isPlanned_357 rfl ?_
      refine zr_icmp_ge X 381 dL_isPlanned_359 (by decide) (fun _ => ?_) (fun q => absurd (hdn) q)
      refine zr_aloadn X 0 dL_isPlanned_381 rfl ?_
      refine zr_iloadn X 1 dL_isPlanned_382 rfl ?_
      refine zr_iconst X (nI (0)) dL_isPlanned_383 (by decide +kernel) ?_
      refine zr_dVi (C := RX5) (ci := 5) [.int (nI (f)), .int (nI (0))] [] X (zK_ok A D tc tF tL tM) (q_firm E μ S hM38 (f := f) hf (i := 0) (by omega)) k_261 k_432 k_433 k_1 k_434 hdX5_firm ⟨rfl, rfl⟩ ⟨Nat.le_of_ble_eq_true rfl, Nat.le_of_ble_eq_true rfl⟩ (by omega) sc_0 rfl rfl rfl (Nat.le_of_ble_eq_true rfl) dL_isPlanned_384 ?_
      refine zr_istore X [1, 2, 3, 4, 5, 6, 7, 8, 9, 10, 0] [(0, .ref (ad (0))), (2, .int (nI (f))), (3, .int (nI (w))), (4, .int (dv)), (5, .int (nI (t))), (6, .long (AL μ c)), (8, .int (P (0))), (9, .int (zsum (fun k => P (k + 1)) (3))), (10, .int (P (4))), (11, .int (P (5))), (12, .int (firF μ (f) (0)))] dL_isPlanned_387 (by decide) rfl ?_
      refine zr_aloadn X 0 dL_isPlanned_389 rfl ?_
      refine zr_iloadn X 1 dL_isPlanned_390 rfl ?_
      refine zr_bipush X (nI (10)) dL_isPlanned_391 (by decide +kernel) ?_
      refine zr_dVi (C := RX5) (ci := 5) [.int (nI (f)), .int (nI (10))] [] X (zK_ok A D tc tF tL tM) (q_firm E μ S hM38 (f := f) hf (i := 10) (by omega)) k_261 k_432 k_433 k_1 k_434 hdX5_firm ⟨rfl, rfl⟩ ⟨Nat.le_of_ble_eq_true rfl, Nat.le_of_ble_eq_true rfl⟩ (by omega) sc_0 rfl rfl rfl (Nat.le_of_ble_eq_true rfl) dL_isPlanned_393 ?_
      refine zr_istore X [1, 2, 3, 4, 5, 6, 7, 8, 9, 10, 11, 0] [(0, .ref (ad (0))), (2, .int (nI (f))), (3, .int (nI (w))), (4, .int (dv)), (5, .int (nI (t))), (6, .long (AL μ c)), (8, .int (P (0))), (9, .int (zsum (fun k => P (k + 1)) (3))), (10, .int (P (4))), (11, .int (P (5))), (12, .int (firF μ (f) (0))), (13, .int (firF μ (f) (10)))] dL_isPlanned_396 (by decide) rfl ?_
      refine zr_aloadn X 0 dL_isPlanned_398 rfl ?_
      refine zr_iloadn X 1 dL_isPlanned_399 rfl ?_
      refine zr_iload X 4 dL_isPlanned_400 rfl ?_
      refine zr_iloadn X 2 dL_isPlanned_402 rfl ?_
      refine zr_cVi (C := RX5) (ci := 5) [.int (nI (f)), .int (nI (t)), .int (nI (w))] [] X (zK_ok A D tc tF tL tM) (hs hM38) k_p470 k_326 k_327 k_1 k_328 hdX5_surrender ⟨rfl, rfl⟩ ⟨Nat.le_of_ble_eq_true rfl, Nat.le_of_ble_eq_true rfl⟩ (by omega) sc_0 rfl rfl rfl (Nat.le_of_ble_eq_true rfl) dL_isPlanned_403 (fun z262 u261 hq262 => ?_)
      obtain ⟨rfl, hi, hkp, htp, hcn, he0, he7, he10⟩ := hq262
      have hcu : c ≤ cnt u261 := hcm ▸ hcn
      refine zr_iload X 3 dL_isPlanned_406 rfl ?_
      refine zr_iload X 4 dL_isPlanned_408 rfl ?_
      refine zr_isub X (dv - (nI (t))) dL_isPlanned_410 rfl ?_
      refine zr_icmp_ne X 462 dL_isPlanned_411 (by decide) (fun q => absurd (hr0) q) (fun _ => ?_)
      refine zr_aloadn X 0 dL_isPlanned_414 rfl ?_
      refine zr_iloadn X 1 dL_isPlanned_415 rfl ?_
      refine zr_iconst X (nI (0)) dL_isPlanned_416 (by decide +kernel) ?_
      refine zr_dVi (C := RX5) (ci := 5) [.int (nI (f)), .int (nI (0))] [] X (zK_ok A D tc tF tL tM) (q_firm2 E μ hi hcu (f := f) hf (i := 0) (by omega)) k_261 k_432 k_433 k_1 k_434 hdX5_firm ⟨rfl, rfl⟩ ⟨Nat.le_of_ble_eq_true rfl, Nat.le_of_ble_eq_true rfl⟩ (by omega) sc_0 rfl rfl rfl (Nat.le_of_ble_eq_true rfl) dL_isPlanned_417 ?_
      refine zr_iload X 10 dL_isPlanned_420 rfl ?_
      refine zr_iload X 6 dL_isPlanned_422 rfl ?_
      refine zr_isub X ((firF μ (f) (0)) - (P (0))) dL_isPlanned_424 rfl ?_
      refine zr_icmp_ne X 462 dL_isPlanned_425 (by decide) (fun q => absurd (he0) q) (fun _ => ?_)
      refine zr_aloadn X 0 dL_isPlanned_428 rfl ?_
      refine zr_iloadn X 1 dL_isPlanned_429 rfl ?_
      refine zr_bipush X (nI (7)) dL_isPlanned_430 (by decide +kernel) ?_
      refine zr_dVi (C := RX5) (ci := 5) [.int (nI (f)), .int (nI (7))] [] X (zK_ok A D tc tF tL tM) (q_firm2 E μ hi hcu (f := f) hf (i := 7) (by omega)) k_261 k_432 k_433 k_1 k_434 hdX5_firm ⟨rfl, rfl⟩ ⟨Nat.le_of_ble_eq_true rfl, Nat.le_of_ble_eq_true rfl⟩ (by omega) sc_0 rfl rfl rfl (Nat.le_of_ble_eq_true rfl) dL_isPlanned_432 ?_
      refine zr_iload X 3 dL_isPlanned_435 rfl ?_
      refine zr_iload X 4 dL_isPlanned_437 rfl ?_
      refine zr_isub X (dv - (nI (t))) dL_isPlanned_439 rfl ?_
      refine zr_icmp_ne X 462 dL_isPlanned_440 (by decide) (fun q => absurd (he7.trans (by rw [hdv])) q) (fun _ => ?_)
      refine zr_aloadn X 0 dL_isPlanned_443 rfl ?_
      refine zr_iloadn X 1 dL_isPlanned_444 rfl ?_
      refine zr_bipush X (nI (10)) dL_isPlanned_445 (by decide +kernel) ?_
      refine zr_dVi (C := RX5) (ci := 5) [.int (nI (f)), .int (nI (10))] [] X (zK_ok A D tc tF tL tM) (q_firm2 E μ hi hcu (f := f) hf (i := 10) (by omega)) k_261 k_432 k_433 k_1 k_434 hdX5_firm ⟨rfl, rfl⟩ ⟨Nat.le_of_ble_eq_true rfl, Nat.le_of_ble_eq_true rfl⟩ (by omega) sc_0 rfl rfl rfl (Nat.le_of_ble_eq_true rfl) dL_isPlanned_447 ?_
      refine zr_iload X 11 dL_isPlanned_450 rfl ?_
      refine zr_iload X 4 dL_isPlanned_452 rfl ?_
      refine zr_isub X ((firF μ (f) (10)) - (nI (t))) dL_isPlanned_454 rfl ?_
      refine zr_icmp_lt X 462 dL_isPlanned_455 (by decide) (fun q => absurd q (by rw [he10]; exact still_le hB I N hf ht9)) (fun _ => ?_)
      refine zr_iconst X (nI (1)) dL_isPlanned_458 (by decide +kernel) ?_
      refine zr_goto X 463 dL_isPlanned_459 (by decide) ?_
      refine zr_istore X [1, 2, 3, 4, 5, 6, 7, 8, 9, 10, 11, 12, 0] [(0, .ref (ad (0))), (2, .int (nI (f))), (3, .int (nI (w))), (4, .int (dv)), (5, .int (nI (t))), (6, .long (AL μ c)), (8, .int (P (0))), (9, .int (zsum (fun k => P (k + 1)) (3))), (10, .int (P (4))), (11, .int (P (5))), (12, .int (firF μ (f) (0))), (13, .int (firF μ (f) (10))), (14, .int (nI (1)))] dL_isPlanned_463 (by decide) rfl ?_
      refine zr_iload X 12 dL_isPlanned_465 rfl ?_
      refine zr_if_eq X 491 dL_isPlanned_467 (by decide) (fun q => absurd q (nI_ne0 (by omega) (by omega))) (fun _ => ?_)
      refine zr_aloadn X 0 dL_isPlanned_470 rfl ?_
      refine zr_cVi (C := RX5) (ci := 5) [] [] X (zK_ok A D tc tF tL tM) (p_undo E u261 hi htp) k_p302 k_416 k_417 k_1 k_418 hdX5_undo ⟨rfl, rfl⟩ ⟨Nat.le_of_ble_eq_true rfl, Nat.le_of_ble_eq_true rfl⟩ (by omega) sc_0 rfl rfl rfl (Nat.le_of_ble_eq_true rfl) dL_isPlanned_471 (fun z298 u298 hq298 => ?_)
      obtain ⟨hz, hi2, he2, hk2⟩ := hq298
      refine zr_if_lt X 491 dL_isPlanned_474 (by decide) (fun q => absurd q (nlt_of_le hz)) (fun _ => ?_)
      refine zr_aloadn X 0 dL_isPlanned_477 rfl ?_
      refine zr_dSl [.ref (ad (0))] [] X (zK_ok A D tc tF tL tM) (q_all2 E μ S hi2 he2) k_648 k_p438 k_0 k_p439 hdL_all ⟨rfl, rfl⟩ ⟨Nat.le_of_ble_eq_true rfl, Nat.le_of_ble_eq_true rfl⟩ rfl rfl (Nat.le_of_ble_eq_true rfl) dL_isPlanned_478 ?_
      refine zr_lload X 5 dL_isPlanned_481 rfl ?_
      refine zr_lcmp X dL_isPlanned_483 ?_
      refine zr_if_ne X 491 dL_isPlanned_484 (by decide) (fun q => absurd (lg_same _) q) (fun _ => ?_)
      refine zr_iconst X (nI (1)) dL_isPlanned_487 (by decide +kernel) ?_
      refine zr_goto X 492 dL_isPlanned_488 (by decide) ?_
      exact zr_zret X dL_isPlanned_492 rfl ⟨rfl, hi2, he2, KEP.trans hkp hk2⟩
  · intro k u308 hk hg308 ih152
    refine zr_iload X 8 dL_isPlanned_152 rfl ?_
    refine zr_iconst X (nI (3)) dL_isPlanned_154 (by decide +kernel) ?_
    refine zr_icmp_ge X 228 dL_isPlanned_155 (by decide) (fun q => absurd q (nI_ge (by omega) (by omega))) (fun _ => ?_)
    refine zr_aloadn X 0 dL_isPlanned_158 rfl ?_
    refine zr_iloadn X 1 dL_isPlanned_159 rfl ?_
    refine zr_iload X 4 dL_isPlanned_160 rfl ?_
    refine zr_iloadn X 2 dL_isPlanned_162 rfl ?_
    refine zr_iconst X (nI (1)) dL_isPlanned_163 (by decide +kernel) ?_
    refine zr_iload X 8 dL_isPlanned_164 rfl ?_
    refine zr_iadd X (nI (k + 1)) dL_isPlanned_166 ((nI_add _ _).trans (congrArg nI (by omega))) ?_
    refine zr_cVi (C := RX5) (ci := 5) [.int (nI (f)), .int (nI (t)), .int (nI (w)), .int (nI (k + 1))] [] X (zK_ok A D tc tF tL tM) (hp hg308 (i := k + 1) (by omega)) k_652 k_505 k_506 k_1 k_507 hdX5_plan ⟨rfl, rfl⟩ ⟨Nat.le_of_ble_eq_true rfl, Nat.le_of_ble_eq_true rfl⟩ (by omega) sc_0 rfl rfl rfl (Nat.le_of_ble_eq_true rfl) dL_isPlanned_167 (fun z320 u319 hq320 => ?_)
    obtain ⟨rfl, hM319⟩ := hq320
    refine zr_istore X [1, 2, 3, 4, 5, 6, 7, 8, 9, 0] [(0, .ref (ad (0))), (2, .int (nI (f))), (3, .int (nI (w))), (4, .int (dv)), (5, .int (nI (t))), (6, .long (AL μ c)), (8, .int (P (0))), (9, .int (zsum (fun k => P (k + 1)) (k))), (10, .int (nI (k))), (11, .int (P (k + 1)))] dL_isPlanned_170 (by decide) rfl ?_
    refine zr_iload X 7 dL_isPlanned_172 rfl ?_
    refine zr_iload X 9 dL_isPlanned_174 rfl ?_
    refine zr_iadd X ((zsum (fun k => P (k + 1)) (k)) + (P (k + 1))) dL_isPlanned_176 rfl ?_
    refine zr_istore X [1, 2, 3, 4, 5, 6, 7, 0, 8, 9] [(0, .ref (ad (0))), (2, .int (nI (f))), (3, .int (nI (w))), (4, .int (dv)), (5, .int (nI (t))), (6, .long (AL μ c)), (8, .int (P (0))), (9, .int ((zsum (fun k => P (k + 1)) (k)) + (P (k + 1)))), (10, .int (nI (k))), (11, .int (P (k + 1)))] dL_isPlanned_177 (by decide) rfl ?_
    refine zr_iload X 9 dL_isPlanned_179 rfl ?_
    refine zr_if_lt X 220 dL_isPlanned_181 (by decide) (fun q => absurd q ((L.2.1 k (by omega)).1)) (fun _ => ?_)
    refine zr_iload X 9 dL_isPlanned_184 rfl ?_
    refine zr_aloadn X 0 dL_isPlanned_186 rfl ?_
    refine zr_iloadn X 1 dL_isPlanned_187 rfl ?_
    refine zr_iload X 8 dL_isPlanned_188 rfl ?_
    refine zr_iconst X (nI (0)) dL_isPlanned_190 (by decide +kernel) ?_
    refine zr_dVi (C := RX5) (ci := 5) [.int (nI (f)), .int (nI (k)), .int (nI (0))] [.int (P (k + 1))] X (zK_ok A D tc tF tL tM) (q_offsets E μ S hM319 (f := f) hf (k := k) (by omega) (i := 0) (by omega)) k_p356 k_462 k_463 k_1 k_464 hdX5_offsets ⟨rfl, rfl⟩ ⟨Nat.le_of_ble_eq_true rfl, Nat.le_of_ble_eq_true rfl⟩ (by omega) sc_0 rfl rfl rfl (Nat.le_of_ble_eq_true rfl) dL_isPlanned_191 ?_
    refine zr_icmp_gt X 220 dL_isPlanned_194 (by decide) (fun q => absurd q ((L.2.1 k (by omega)).2.1)) (fun _ => ?_)
    refine zr_iload X 9 dL_isPlanned_197 rfl ?_
    refine zr_aloadn X 0 dL_isPlanned_199 rfl ?_
    refine zr_iloadn X 1 dL_isPlanned_200 rfl ?_
    refine zr_iload X 8 dL_isPlanned_201 rfl ?_
    refine zr_iconst X (nI (1)) dL_isPlanned_203 (by decide +kernel) ?_
    refine zr_dVi (C := RX5) (ci := 5) [.int (nI (f)), .int (nI (k)), .int (nI (1))] [.int (P (k + 1))] X (zK_ok A D tc tF tL tM) (q_offsets E μ S hM319 (f := f) hf (k := k) (by omega) (i := 1) (by omega)) k_p356 k_462 k_463 k_1 k_464 hdX5_offsets ⟨rfl, rfl⟩ ⟨Nat.le_of_ble_eq_true rfl, Nat.le_of_ble_eq_true rfl⟩ (by omega) sc_0 rfl rfl rfl (Nat.le_of_ble_eq_true rfl) dL_isPlanned_204 ?_
    refine zr_icmp_gt X 220 dL_isPlanned_207 (by decide) (fun q => absurd q ((L.2.1 k (by omega)).2.2.1)) (fun _ => ?_)
    refine zr_iloadn X 2 dL_isPlanned_210 rfl ?_
    refine zr_iconst X (nI (2)) dL_isPlanned_211 (by decide +kernel) ?_
    refine zr_icmp_ge X 222 dL_isPlanned_212 (by decide) (fun h212 => ?_) (fun h212 => ?_)
    · refine zr_iinc X 8 (nI (k + 1)) [1, 2, 3, 4, 5, 6, 7, 8, 0, 9] [(0, .ref (ad (0))), (2, .int (nI (f))), (3, .int (nI (w))), (4, .int (dv)), (5, .int (nI (t))), (6, .long (AL μ c)), (8, .int (P (0))), (9, .int ((zsum (fun k => P (k + 1)) (k)) + (P (k + 1)))), (10, .int (nI (k + 1))), (11, .int (P (k + 1)))] dL_isPlanned_222 rfl (zinc _) (by decide) rfl ?_
      refine zr_goto X 152 dL_isPlanned_225 (by decide) ?_
      refine zr_drop X [0, 1, 2, 3, 4, 5, 6, 7, 8] [(0, .ref (ad (0))), (2, .int (nI (f))), (3, .int (nI (w))), (4, .int (dv)), (5, .int (nI (t))), (6, .long (AL μ c)), (8, .int (P (0))), (9, .int ((zsum (fun k => P (k + 1)) (k)) + (P (k + 1)))), (10, .int (nI (k + 1)))] rfl ?_
      exact ih152 _ hM319
    · refine zr_iload X 9 dL_isPlanned_215 rfl ?_
      refine zr_if_le X 222 dL_isPlanned_217 (by decide) (fun _ => ?_) (fun q => absurd ((L.2.1 k (by omega)).2.2.2 h212) q)
      refine zr_iinc X 8 (nI (k + 1)) [1, 2, 3, 4, 5, 6, 7, 8, 0, 9] [(0, .ref (ad (0))), (2, .int (nI (f))), (3, .int (nI (w))), (4, .int (dv)), (5, .int (nI (t))), (6, .long (AL μ c)), (8, .int (P (0))), (9, .int ((zsum (fun k => P (k + 1)) (k)) + (P (k + 1)))), (10, .int (nI (k + 1))), (11, .int (P (k + 1)))] dL_isPlanned_222 rfl (zinc _) (by decide) rfl ?_
      refine zr_goto X 152 dL_isPlanned_225 (by decide) ?_
      refine zr_drop X [0, 1, 2, 3, 4, 5, 6, 7, 8] [(0, .ref (ad (0))), (2, .int (nI (f))), (3, .int (nI (w))), (4, .int (dv)), (5, .int (nI (t))), (6, .long (AL μ c)), (8, .int (P (0))), (9, .int ((zsum (fun k => P (k + 1)) (k)) + (P (k + 1)))), (10, .int (nI (k + 1)))] rfl ?_
      exact ih152 _ hM319
set_option maxHeartbeats 4000000 in
theorem l_pl_t {pP : Program} {l : Launch} {eE : Env} {sS : State} {mM : MethodId} {aS : Array Value} {bL : List Frame} {mT : Method} {cO : Code} {A : Nat → Prop} {D : va_G} {tc : Nat → ClassId} {ad : Nat → Nat} {tF tL tM : Nat} {ow : Nat → Nat} (E : zN 299 A ad) (μ : Nat → Int32) {B m c b ro z kf : Nat} (h : INV B μ) (hB : B ≤ 600) (S : clsS μ m c ro z) (I : rowI B μ m c b) (N : SND μ m) {f t w : Nat} (hf : f < c) (hw : w < 3) (ht1 : 1 ≤ t) (ht9 : t ≤ 9999) {y dv : Int32} (hdv : firF μ f 7 = dv) (H : hst B μ ro z kf) (X : zX pP sS mM aS mT cO A D vwCl ad 299 15 (zK A D tc tF tL tM) (zTY tc) ow shC cL_isPlanned RL (some .boolean)) : zG pP l eE (zrm 7) sS mM aS bL mT cO A D vwCl tc ad 299 shC 15 (MQ bL (va_Qi (fun r u => r = nI 1 ∧ INV (B + 1) u ∧ eqr u μ ∧ KEP μ u) (fun u t => zW D vwCl tc ad 299 shC u t.heap) A) aS sS (zrm 7).cells (zrm 7).slots A) μ 70 [(0, .ref (ad (0))), (1, .int (y)), (2, .int (nI (f))), (3, .int (nI (w))), (4, .int (dv))] [.int (nI t)] := by
  have h8 := S.2.2.2.1
  have L := lay_LAY (w := w) (show f < 8 by omega) ht9 (held_0 I (by omega))
  by_cases hm : clay μ f (nI t) w 2458 ≤ 0
  · have hP := lay_PLN hB I N hf hw ht9 L hm
    by_cases hd : μ (32 * f + 36) < nI t
    · exact l_pl_d (kf := kf) (tF := tF) (tL := tL) (tM := tM) E μ h hB S I N hf hw ht1 ht9 hdv (fun hMM _ hi => p_plan_ok E μ S hf ht1 ht9 hw hB I N H hMM hi hm) (fun hMM => p_sur_n E μ S hf ht1 ht9 hw hB I N H hMM hd) hP (fun q => by rw [← hdv] at q; exact nlt_of_le q hd) X
    · exact l_pl_s (kf := kf) (tF := tF) (tL := tL) (tM := tM) E μ h hB S I N hf hw ht1 ht9 hdv (fun hMM _ hi => p_plan_ok E μ S hf ht1 ht9 hw hB I N H hMM hi hm) (fun hMM => zMi_post (p_sur_ok E μ S hf ht1 ht9 hw hB I N H hMM hd hm) (fun r u q => by rw [plF_0]; exact q)) hP (by rw [← hdv]; exact Int32.not_lt.mp hd) X
  · by_cases hd : μ (32 * f + 36) < nI t
    · exact l_pl_m (kf := kf) (tF := tF) (tL := tL) (tM := tM) E μ h hB S I N hf hw ht1 ht9 hdv (fun hMM _ hi => p_plan_n E μ S hf ht1 ht9 hw hB I N H hMM hi hm) (fun hMM => p_sur_n E μ S hf ht1 ht9 hw hB I N H hMM hd) (fun q => lay_miss hB I hf hw ht9 L hm q) X
    · exact l_pl_m (kf := kf) (tF := tF) (tL := tL) (tM := tM) E μ h hB S I N hf hw ht1 ht9 hdv (fun hMM _ hi => p_plan_n E μ S hf ht1 ht9 hw hB I N H hMM hi hm) (fun hMM => p_sur_m E μ S hf ht1 ht9 hw hB I N H hMM hd hm) (fun q => lay_miss hB I hf hw ht9 L hm q) X
set_option maxHeartbeats 4000000 in
set_option maxRecDepth 100000 in
theorem l_isPlanned {l : Launch} {D : va_G} {tc : Nat → ClassId} {ad : Nat → Nat} {A : Nat → Prop} {tF tL tM : Nat} (E : zN 299 A ad) (μ : Nat → Int32) {B m c b ro z kf : Nat} (h : INV B μ) (hB : B ≤ 600) (S : clsS μ m c ro z) (I : rowI B μ m c b) (N : SND μ m) (H : hst B μ ro z kf) (hc1 : 1 ≤ c) (y : Int32) : zMi l yL_isPlanned cL_isPlanned 15 (some .boolean) (zrm 7) (zK A D tc tF tL tM) A D vwCl tc ad 299 shC [.ref (ad (0)), .int (y)] μ (fun r u => r = nI 1 ∧ INV (B + 1) u ∧ eqr u μ ∧ KEP μ u) := by
  refine zM_of RL [(0, .ref (ad (0))), (1, .int (y))] (zK_ok A D tc tF tL tM) E.1 E.2 owC_ok (by decide +kernel) rfl (Nat.le_of_ble_eq_true rfl) rfl ?_
  intro pP eE sS mM aS bL mT cO X
  have h8 := S.2.2.2.1
  refine zr_iloadn X 1 dL_isPlanned_0 rfl ?_
  refine zr_aloadn X 0 dL_isPlanned_1 rfl ?_
  refine zr_iconst X (nI (2)) dL_isPlanned_2 (by decide +kernel) ?_
  refine zr_dVi (C := RX5) (ci := 5) [.int (nI (2))] [.int (y)] X (zK_ok A D tc tF tL tM) (d_count_2 E μ S) k_535 k_509 k_510 k_1 k_511 hdX5_count ⟨rfl, rfl⟩ ⟨Nat.le_of_ble_eq_true rfl, Nat.le_of_ble_eq_true rfl⟩ (by omega) sc_0 rfl rfl rfl (Nat.le_of_ble_eq_true rfl) dL_isPlanned_3 ?_
  refine zr_low X (c) k_312 dL_isPlanned_6 [] (by omega) (by omega) ⟨Nat.le_of_ble_eq_true rfl, Nat.le_of_ble_eq_true rfl, Nat.le_of_ble_eq_true rfl⟩ (fun j6 hj6 => ?_)
  refine zr_istoren X [1, 2, 0] [(0, .ref (ad (0))), (1, .int (y)), (2, .int (nI (j6)))] dL_isPlanned_9 (by decide) rfl ?_
  refine zr_iloadn X 1 dL_isPlanned_10 rfl ?_
  refine zr_iconst X (nI (3)) dL_isPlanned_11 (by decide +kernel) ?_
  refine zr_ishr X dL_isPlanned_12 ?_
  refine zr_iconst X (nI (3)) dL_isPlanned_13 (by decide +kernel) ?_
  refine zr_low X (3) k_312 dL_isPlanned_14 [] (by omega) (by omega) ⟨Nat.le_of_ble_eq_true rfl, Nat.le_of_ble_eq_true rfl, Nat.le_of_ble_eq_true rfl⟩ (fun j14 hj14 => ?_)
  refine zr_istoren X [1, 2, 3, 0] [(0, .ref (ad (0))), (1, .int (y)), (2, .int (nI (j6))), (3, .int (nI (j14)))] dL_isPlanned_17 (by decide) rfl ?_
  refine zr_aloadn X 0 dL_isPlanned_18 rfl ?_
  refine zr_iloadn X 2 dL_isPlanned_19 rfl ?_
  refine zr_bipush X (nI (7)) dL_isPlanned_20 (by decide +kernel) ?_
  refine zr_dVi (C := RX5) (ci := 5) [.int (nI (j6)), .int (nI (7))] [] X (zK_ok A D tc tF tL tM) (t_firm E μ S (f := j6) hj6 (i := 7) (by omega)) k_261 k_432 k_433 k_1 k_434 hdX5_firm ⟨rfl, rfl⟩ ⟨Nat.le_of_ble_eq_true rfl, Nat.le_of_ble_eq_true rfl⟩ (by omega) sc_0 rfl rfl rfl (Nat.le_of_ble_eq_true rfl) dL_isPlanned_22 ?_
  refine zr_istore X [1, 2, 3, 4, 0] [(0, .ref (ad (0))), (1, .int (y)), (2, .int (nI (j6))), (3, .int (nI (j14))), (4, .int (firF μ (j6) (7)))] dL_isPlanned_25 (by decide) rfl ?_
  refine zr_iload X 4 dL_isPlanned_27 rfl ?_
  refine zr_if_le X 59 dL_isPlanned_29 (by decide) (fun h29 => ?_) (fun h29 => ?_)
  · refine zr_iconst X (nI (1)) dL_isPlanned_59 (by decide +kernel) ?_
    refine zr_iloadn X 1 dL_isPlanned_60 rfl ?_
    refine zr_iconst X (nI (5)) dL_isPlanned_61 (by decide +kernel) ?_
    refine zr_ishr X dL_isPlanned_62 ?_
    refine zr_sipush X (nI (500)) dL_isPlanned_63 (by decide +kernel) ?_
    refine zr_low X (500) k_312 dL_isPlanned_66 [.int (nI (1))] (by omega) (by omega) ⟨Nat.le_of_ble_eq_true rfl, Nat.le_of_ble_eq_true rfl, Nat.le_of_ble_eq_true rfl⟩ (fun j66 hj66 => ?_)
    refine zr_iadd X (nI (j66 + 1)) dL_isPlanned_69 ((nI_add _ _).trans (congrArg nI (by omega))) ?_
    exact l_pl_t (tF := tF) (tL := tL) (tM := tM) E μ h hB S I N (by omega) (by omega) (by omega) (by omega) rfl H X
  · refine zr_iconst X (nI (1)) dL_isPlanned_32 (by decide +kernel) ?_
    refine zr_iloadn X 1 dL_isPlanned_33 rfl ?_
    refine zr_iconst X (nI (5)) dL_isPlanned_34 (by decide +kernel) ?_
    refine zr_ishr X dL_isPlanned_35 ?_
    refine zr_iload X 4 dL_isPlanned_36 rfl ?_
    refine zr_sipush X (nI (9999)) dL_isPlanned_38 (by decide +kernel) ?_
    refine zr_icmp_ge X 49 dL_isPlanned_41 (by decide) (fun h41 => ?_) (fun h41 => ?_)
    · refine zr_sipush X (nI (9999)) dL_isPlanned_49 (by decide +kernel) ?_
      refine zr_low X (9999) k_312 dL_isPlanned_52 [.int (nI (1))] (by omega) (by omega) ⟨Nat.le_of_ble_eq_true rfl, Nat.le_of_ble_eq_true rfl, Nat.le_of_ble_eq_true rfl⟩ (fun j52 hj52 => ?_)
      refine zr_iadd X (nI (j52 + 1)) dL_isPlanned_55 ((nI_add _ _).trans (congrArg nI (by omega))) ?_
      refine zr_goto X 70 dL_isPlanned_56 (by decide) ?_
      exact l_pl_t (tF := tF) (tL := tL) (tM := tM) E μ h hB S I N (by omega) (by omega) (by omega) (by omega) rfl H X
    · obtain ⟨d, ed, hd3⟩ := due_nat (f := j6) N S.2.1 (by omega)
      have hd0 : 0 < d := by
        rw [ed, Int32.le_iff_toInt_le, nI_toInt (by omega)] at h29
        have : (0 : Int32).toInt = 0 := rfl
        omega
      have hd9 : d < 9999 := by
        rw [ed, nI_leI (by omega) (by omega)] at h41
        omega
      refine zr_lv X (lv1 := [(0, .ref (ad (0))), (1, .int (y)), (2, .int (nI (j6))), (3, .int (nI (j14))), (4, .int (nI (d)))]) (by rw [ed]) ?_
      refine zr_iload X 4 dL_isPlanned_44 rfl ?_
      refine zr_goto X 52 dL_isPlanned_46 (by decide) ?_
      refine zr_low X (d) k_312 dL_isPlanned_52 [.int (nI (1))] (by omega) (by omega) ⟨Nat.le_of_ble_eq_true rfl, Nat.le_of_ble_eq_true rfl, Nat.le_of_ble_eq_true rfl⟩ (fun j52 hj52 => ?_)
      refine zr_iadd X (nI (j52 + 1)) dL_isPlanned_55 ((nI_add _ _).trans (congrArg nI (by omega))) ?_
      refine zr_goto X 70 dL_isPlanned_56 (by decide) ?_
      exact l_pl_t (tF := tF) (tL := tL) (tM := tM) E μ h hB S I N (by omega) (by omega) (by omega) (by omega) ed H X
