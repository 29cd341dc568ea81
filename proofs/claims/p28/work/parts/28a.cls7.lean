set_option maxHeartbeats 4000000 in
set_option maxRecDepth 100000 in
theorem d_surrender_u {l : Launch} {D : va_G} {tc : Nat → ClassId} {ad : Nat → Nat} {A : Nat → Prop} {tF tL tM : Nat} (E : zN 299 A ad) (μ : Nat → Int32) {m c ro z : Nat} (S : clsS μ m c ro z) {x : Int32} (hx : ¬ zfm x c) (t : Int32) (w : Int32)  : zMi l yX5_surrender cX5_surrender 5 (some .int) (zrm 5) (zK A D tc tF tL tM) A D vwCl tc ad 299 shC [.ref (ad (0)), .int (x), .int (t), .int (w)] μ (fun r u => r = -1 ∧ u = μ) := by
  refine zM_of RX5 [(0, .ref (ad (0))), (1, .int (x)), (2, .int (t)), (3, .int (w))] (zK_ok A D tc tF tL tM) E.1 E.2 owC_ok (by decide +kernel) rfl (Nat.le_of_ble_eq_true rfl) rfl ?_
  intro pP eE sS mM aS bL mT cO X
  obtain ⟨hm, hm2, hc, h8, hr, hr4, hz, hz4⟩ := S
  refine zr_aloadn X 0 dX5_surrender_0 rfl ?_
  refine zr_get X (ci := 5) (q := 0) (zR _) (.ref (ad (1))) dX5_surrender_1 (by omega) sc_0 rfl inX5 (by decide) rfl (zvR rfl) rfl k_215 ?_
  refine zr_iloadn X 1 dX5_surrender_4 rfl ?_
  refine zr_dVq (C := RX2) (ci := 2) [.int (x)] [] X (zK_ok A D tc tF tL tM) (d_firmAt0_f E μ (hc) h8 hx) k_273 k_274 k_275 k_2 k_276 hdX2_firmAt ⟨rfl, rfl⟩ ⟨Nat.le_of_ble_eq_true rfl, Nat.le_of_ble_eq_true rfl⟩ (by omega) (sc_st (j := 0) (by omega) (by have := cb_0; omega)) rfl rfl rfl (Nat.le_of_ble_eq_true rfl) dX5_surrender_5 rfl ?_
  refine zr_astoreN X [1, 2, 3, 4, 0] [(0, .ref (ad (0))), (1, .int (x)), (2, .int (t)), (3, .int (w)), (4, .null)] dX5_surrender_8 (by decide) rfl ?_
  refine zr_aloadN X 4 dX5_surrender_10 rfl ?_
  refine zr_ifnonnullN X dX5_surrender_12 ?_
  refine zr_iconst X (-1) dX5_surrender_15 (by decide +kernel) ?_
  exact zr_iret X dX5_surrender_16 ⟨rfl, rfl⟩

set_option maxHeartbeats 4000000 in
set_option maxRecDepth 100000 in
theorem d_surrender_b1 {l : Launch} {D : va_G} {tc : Nat → ClassId} {ad : Nat → Nat} {A : Nat → Prop} {tF tL tM : Nat} (E : zN 299 A ad) (μ : Nat → Int32) {m c ro z : Nat} (S : clsS μ m c ro z) {f : Nat} (hf : f < c) {x : Int32} (hx : ¬ zin x 1 9999) (w : Int32)  : zMi l yX5_surrender cX5_surrender 5 (some .int) (zrm 5) (zK A D tc tF tL tM) A D vwCl tc ad 299 shC [.ref (ad (0)), .int (nI (f)), .int (x), .int (w)] μ (fun r u => r = -2 ∧ u = μ) := by
  refine zM_of RX5 [(0, .ref (ad (0))), (1, .int (nI (f))), (2, .int (x)), (3, .int (w))] (zK_ok A D tc tF tL tM) E.1 E.2 owC_ok (by decide +kernel) rfl (Nat.le_of_ble_eq_true rfl) rfl ?_
  intro pP eE sS mM aS bL mT cO X
  obtain ⟨hm, hm2, hc, h8, hr, hr4, hz, hz4⟩ := S
  refine zr_aloadn X 0 dX5_surrender_0 rfl ?_
  refine zr_get X (ci := 5) (q := 0) (zR _) (.ref (ad (1))) dX5_surrender_1 (by omega) sc_0 rfl inX5 (by decide) rfl (zvR rfl) rfl k_215 ?_
  refine zr_iloadn X 1 dX5_surrender_4 rfl ?_
  refine zr_dVq (C := RX2) (ci := 2) [.int (nI (f))] [] X (zK_ok A D tc tF tL tM) (d_firmAt0_t E μ (f := f) (hc) h8 (by omega)) k_273 k_274 k_275 k_2 k_276 hdX2_firmAt ⟨rfl, rfl⟩ ⟨Nat.le_of_ble_eq_true rfl, Nat.le_of_ble_eq_true rfl⟩ (by omega) (sc_st (j := 0) (by omega) (by have := cb_0; omega)) rfl rfl rfl (Nat.le_of_ble_eq_true rfl) dX5_surrender_5 rfl ?_
  refine zr_astore X [1, 2, 3, 4, 0] [(0, .ref (ad (0))), (1, .int (nI (f))), (2, .int (x)), (3, .int (w)), (4, .ref (ad (4 * f + 4)))] dX5_surrender_8 (by decide) rfl ?_
  refine zr_aload X 4 dX5_surrender_10 rfl ?_
  refine zr_ifnonnull X 17 dX5_surrender_12 (by decide) ?_
  refine zr_iloadn X 2 dX5_surrender_17 rfl ?_
  refine zr_dSi [.int (x)] [] X (zK_ok A D tc tF tL tM) (d_isTonnes_f E μ hx) k_277 k_278 k_1 k_279 hdX5_isTonnes ⟨rfl, rfl⟩ ⟨Nat.le_of_ble_eq_true rfl, Nat.le_of_ble_eq_true rfl⟩ rfl rfl (Nat.le_of_ble_eq_true rfl) dX5_surrender_18 ?_
  refine zr_if_eq X 31 dX5_surrender_21 (by decide) (fun _ => ?_) (fun q => absurd (zq_eq0 (by omega)) q)
  refine zr_bipush X (-2) dX5_surrender_31 (by decide +kernel) ?_
  exact zr_iret X dX5_surrender_33 ⟨rfl, rfl⟩

set_option maxHeartbeats 4000000 in
set_option maxRecDepth 100000 in
theorem d_surrender_b2 {l : Launch} {D : va_G} {tc : Nat → ClassId} {ad : Nat → Nat} {A : Nat → Prop} {tF tL tM : Nat} (E : zN 299 A ad) (μ : Nat → Int32) {m c ro z : Nat} (S : clsS μ m c ro z) {f : Nat} (hf : f < c) {t : Nat} (ht1 : 1 ≤ t) (ht9 : t ≤ 9999) {x : Int32} (hx : ¬ zin x 0 2)  : zMi l yX5_surrender cX5_surrender 5 (some .int) (zrm 5) (zK A D tc tF tL tM) A D vwCl tc ad 299 shC [.ref (ad (0)), .int (nI (f)), .int (nI (t)), .int (x)] μ (fun r u => r = -2 ∧ u = μ) := by
  refine zM_of RX5 [(0, .ref (ad (0))), (1, .int (nI (f))), (2, .int (nI (t))), (3, .int (x))] (zK_ok A D tc tF tL tM) E.1 E.2 owC_ok (by decide +kernel) rfl (Nat.le_of_ble_eq_true rfl) rfl ?_
  intro pP eE sS mM aS bL mT cO X
  obtain ⟨hm, hm2, hc, h8, hr, hr4, hz, hz4⟩ := S
  refine zr_aloadn X 0 dX5_surrender_0 rfl ?_
  refine zr_get X (ci := 5) (q := 0) (zR _) (.ref (ad (1))) dX5_surrender_1 (by omega) sc_0 rfl inX5 (by decide) rfl (zvR rfl) rfl k_215 ?_
  refine zr_iloadn X 1 dX5_surrender_4 rfl ?_
  refine zr_dVq (C := RX2) (ci := 2) [.int (nI (f))] [] X (zK_ok A D tc tF tL tM) (d_firmAt0_t E μ (f := f) (hc) h8 (by omega)) k_273 k_274 k_275 k_2 k_276 hdX2_firmAt ⟨rfl, rfl⟩ ⟨Nat.le_of_ble_eq_true rfl, Nat.le_of_ble_eq_true rfl⟩ (by omega) (sc_st (j := 0) (by omega) (by have := cb_0; omega)) rfl rfl rfl (Nat.le_of_ble_eq_true rfl) dX5_surrender_5 rfl ?_
  refine zr_astore X [1, 2, 3, 4, 0] [(0, .ref (ad (0))), (1, .int (nI (f))), (2, .int (nI (t))), (3, .int (x)), (4, .ref (ad (4 * f + 4)))] dX5_surrender_8 (by decide) rfl ?_
  refine zr_aload X 4 dX5_surrender_10 rfl ?_
  refine zr_ifnonnull X 17 dX5_surrender_12 (by decide) ?_
  refine zr_iloadn X 2 dX5_surrender_17 rfl ?_
  refine zr_dSi [.int (nI (t))] [] X (zK_ok A D tc tF tL tM) (d_isTonnes_t E μ (by omega) (by omega)) k_277 k_278 k_1 k_279 hdX5_isTonnes ⟨rfl, rfl⟩ ⟨Nat.le_of_ble_eq_true rfl, Nat.le_of_ble_eq_true rfl⟩ rfl rfl (Nat.le_of_ble_eq_true rfl) dX5_surrender_18 ?_
  refine zr_if_eq X 31 dX5_surrender_21 (by decide) (fun q => absurd q (nI_ne0 (by omega) (by omega))) (fun _ => ?_)
  refine zr_iloadn X 3 dX5_surrender_24 rfl ?_
  refine zr_dSi [.int (x)] [] X (zK_ok A D tc tF tL tM) (d_isWay_f E μ hx) k_329 k_330 k_1 k_331 hdX5_isWay ⟨rfl, rfl⟩ ⟨Nat.le_of_ble_eq_true rfl, Nat.le_of_ble_eq_true rfl⟩ rfl rfl (Nat.le_of_ble_eq_true rfl) dX5_surrender_25 ?_
  refine zr_if_ne X 34 dX5_surrender_28 (by decide) (fun q => absurd (zq_eq0 (by omega)) q) (fun _ => ?_)
  refine zr_bipush X (-2) dX5_surrender_31 (by decide +kernel) ?_
  exact zr_iret X dX5_surrender_33 ⟨rfl, rfl⟩

set_option maxHeartbeats 4000000 in
set_option maxRecDepth 100000 in
theorem d_surrender_n0 {l : Launch} {D : va_G} {tc : Nat → ClassId} {ad : Nat → Nat} {A : Nat → Prop} {tF tL tM : Nat} (E : zN 299 A ad) (μ : Nat → Int32) {m c ro z : Nat} (S : clsS μ m c ro z) {f : Nat} (hf : f < c) {t : Nat} (ht1 : 1 ≤ t) (ht9 : t ≤ 9999) (h : μ (32 * f + 36) < nI t) : zMi l yX5_surrender cX5_surrender 5 (some .int) (zrm 5) (zK A D tc tF tL tM) A D vwCl tc ad 299 shC [.ref (ad (0)), .int (nI (f)), .int (nI (t)), .int (nI (0))] μ (fun r u => r = -4 ∧ u = μ) := by
  refine zM_of RX5 [(0, .ref (ad (0))), (1, .int (nI (f))), (2, .int (nI (t))), (3, .int (nI (0)))] (zK_ok A D tc tF tL tM) E.1 E.2 owC_ok (by decide +kernel) rfl (Nat.le_of_ble_eq_true rfl) rfl ?_
  intro pP eE sS mM aS bL mT cO X
  obtain ⟨hm, hm2, hc, h8, hr, hr4, hz, hz4⟩ := S
  refine zr_aloadn X 0 dX5_surrender_0 rfl ?_
  refine zr_get X (ci := 5) (q := 0) (zR _) (.ref (ad (1))) dX5_surrender_1 (by omega) sc_0 rfl inX5 (by decide) rfl (zvR rfl) rfl k_215 ?_
  refine zr_iloadn X 1 dX5_surrender_4 rfl ?_
  refine zr_dVq (C := RX2) (ci := 2) [.int (nI (f))] [] X (zK_ok A D tc tF tL tM) (d_firmAt0_t E μ (f := f) (hc) h8 (by omega)) k_273 k_274 k_275 k_2 k_276 hdX2_firmAt ⟨rfl, rfl⟩ ⟨Nat.le_of_ble_eq_true rfl, Nat.le_of_ble_eq_true rfl⟩ (by omega) (sc_st (j := 0) (by omega) (by have := cb_0; omega)) rfl rfl rfl (Nat.le_of_ble_eq_true rfl) dX5_surrender_5 rfl ?_
  refine zr_astore X [1, 2, 3, 4, 0] [(0, .ref (ad (0))), (1, .int (nI (f))), (2, .int (nI (t))), (3, .int (nI (0))), (4, .ref (ad (4 * f + 4)))] dX5_surrender_8 (by decide) rfl ?_
  refine zr_aload X 4 dX5_surrender_10 rfl ?_
  refine zr_ifnonnull X 17 dX5_surrender_12 (by decide) ?_
  refine zr_iloadn X 2 dX5_surrender_17 rfl ?_
  refine zr_dSi [.int (nI (t))] [] X (zK_ok A D tc tF tL tM) (d_isTonnes_t E μ (by omega) (by omega)) k_277 k_278 k_1 k_279 hdX5_isTonnes ⟨rfl, rfl⟩ ⟨Nat.le_of_ble_eq_true rfl, Nat.le_of_ble_eq_true rfl⟩ rfl rfl (Nat.le_of_ble_eq_true rfl) dX5_surrender_18 ?_
  refine zr_if_eq X 31 dX5_surrender_21 (by decide) (fun q => absurd q (nI_ne0 (by omega) (by omega))) (fun _ => ?_)
  refine zr_iloadn X 3 dX5_surrender_24 rfl ?_
  refine zr_dSi [.int (nI (0))] [] X (zK_ok A D tc tF tL tM) (d_isWay_t E μ (by omega) (by omega)) k_329 k_330 k_1 k_331 hdX5_isWay ⟨rfl, rfl⟩ ⟨Nat.le_of_ble_eq_true rfl, Nat.le_of_ble_eq_true rfl⟩ rfl rfl (Nat.le_of_ble_eq_true rfl) dX5_surrender_25 ?_
  refine zr_if_ne X 34 dX5_surrender_28 (by decide) (fun _ => ?_) (fun q => absurd q (nI_ne0 (by omega) (by omega)))
  refine zr_aload X 4 dX5_surrender_34 rfl ?_
  refine zr_get X (ci := 0) (q := 6) zI (.int (μ (32 * f + 36))) dX5_surrender_36 (by omega) (sc_firm (j := 0) (i := f) (by omega) (by omega) (by have := cb_0; omega)) rfl inX0 (by decide) rfl (congrArg Value.int (zcg (by omega) (rfl))) rfl k_58 ?_
  refine zr_iloadn X 2 dX5_surrender_39 rfl ?_
  refine zr_icmp_ge X 46 dX5_surrender_40 (by decide) (fun q => absurd q (Int32.not_le.mpr h)) (fun _ => ?_)
  refine zr_bipush X (-4) dX5_surrender_43 (by decide +kernel) ?_
  exact zr_iret X dX5_surrender_45 ⟨rfl, rfl⟩

set_option maxHeartbeats 4000000 in
set_option maxRecDepth 100000 in
theorem d_surrender_m0 {l : Launch} {D : va_G} {tc : Nat → ClassId} {ad : Nat → Nat} {A : Nat → Prop} {tF tL tM : Nat} (E : zN 299 A ad) (μ : Nat → Int32) {m c ro z : Nat} (S : clsS μ m c ro z) {f : Nat} (hf : f < c) {t : Nat} (ht1 : 1 ≤ t) (ht9 : t ≤ 9999) (h : ¬ μ (32 * f + 36) < nI t) (h2 : ¬ clay μ f (nI t) 0 2458 ≤ 0) : zMi l yX5_surrender cX5_surrender 5 (some .int) (zrm 5) (zK A D tc tF tL tM) A D vwCl tc ad 299 shC [.ref (ad (0)), .int (nI (f)), .int (nI (t)), .int (nI (0))] μ (fun r u => r = -4 ∧ u = clay μ f (nI t) 0) := by
  refine zM_of RX5 [(0, .ref (ad (0))), (1, .int (nI (f))), (2, .int (nI (t))), (3, .int (nI (0)))] (zK_ok A D tc tF tL tM) E.1 E.2 owC_ok (by decide +kernel) rfl (Nat.le_of_ble_eq_true rfl) rfl ?_
  intro pP eE sS mM aS bL mT cO X
  obtain ⟨hm, hm2, hc, h8, hr, hr4, hz, hz4⟩ := S
  refine zr_aloadn X 0 dX5_surrender_0 rfl ?_
  refine zr_get X (ci := 5) (q := 0) (zR _) (.ref (ad (1))) dX5_surrender_1 (by omega) sc_0 rfl inX5 (by decide) rfl (zvR rfl) rfl k_215 ?_
  refine zr_iloadn X 1 dX5_surrender_4 rfl ?_
  refine zr_dVq (C := RX2) (ci := 2) [.int (nI (f))] [] X (zK_ok A D tc tF tL tM) (d_firmAt0_t E μ (f := f) (hc) h8 (by omega)) k_273 k_274 k_275 k_2 k_276 hdX2_firmAt ⟨rfl, rfl⟩ ⟨Nat.le_of_ble_eq_true rfl, Nat.le_of_ble_eq_true rfl⟩ (by omega) (sc_st (j := 0) (by omega) (by have := cb_0; omega)) rfl rfl rfl (Nat.le_of_ble_eq_true rfl) dX5_surrender_5 rfl ?_
  refine zr_astore X [1, 2, 3, 4, 0] [(0, .ref (ad (0))), (1, .int (nI (f))), (2, .int (nI (t))), (3, .int (nI (0))), (4, .ref (ad (4 * f + 4)))] dX5_surrender_8 (by decide) rfl ?_
  refine zr_aload X 4 dX5_surrender_10 rfl ?_
  refine zr_ifnonnull X 17 dX5_surrender_12 (by decide) ?_
  refine zr_iloadn X 2 dX5_surrender_17 rfl ?_
  refine zr_dSi [.int (nI (t))] [] X (zK_ok A D tc tF tL tM) (d_isTonnes_t E μ (by omega) (by omega)) k_277 k_278 k_1 k_279 hdX5_isTonnes ⟨rfl, rfl⟩ ⟨Nat.le_of_ble_eq_true rfl, Nat.le_of_ble_eq_true rfl⟩ rfl rfl (Nat.le_of_ble_eq_true rfl) dX5_surrender_18 ?_
  refine zr_if_eq X 31 dX5_surrender_21 (by decide) (fun q => absurd q (nI_ne0 (by omega) (by omega))) (fun _ => ?_)
  refine zr_iloadn X 3 dX5_surrender_24 rfl ?_
  refine zr_dSi [.int (nI (0))] [] X (zK_ok A D tc tF tL tM) (d_isWay_t E μ (by omega) (by omega)) k_329 k_330 k_1 k_331 hdX5_isWay ⟨rfl, rfl⟩ ⟨Nat.le_of_ble_eq_true rfl, Nat.le_of_ble_eq_true rfl⟩ rfl rfl (Nat.le_of_ble_eq_true rfl) dX5_surrender_25 ?_
  refine zr_if_ne X 34 dX5_surrender_28 (by decide) (fun _ => ?_) (fun q => absurd q (nI_ne0 (by omega) (by omega)))
  refine zr_aload X 4 dX5_surrender_34 rfl ?_
  refine zr_get X (ci := 0) (q := 6) zI (.int (μ (32 * f + 36))) dX5_surrender_36 (by omega) (sc_firm (j := 0) (i := f) (by omega) (by omega) (by have := cb_0; omega)) rfl inX0 (by decide) rfl (congrArg Value.int (zcg (by omega) (rfl))) rfl k_58 ?_
  refine zr_iloadn X 2 dX5_surrender_39 rfl ?_
  refine zr_icmp_ge X 46 dX5_surrender_40 (by decide) (fun _ => ?_) (fun q => absurd (Int32.not_lt.mp h) q)
  refine zr_aloadn X 0 dX5_surrender_46 rfl ?_
  refine zr_get X (ci := 5) (q := 4) (zR _) (.ref (ad (290))) dX5_surrender_47 (by omega) sc_0 rfl inX5 (by decide) rfl (zvR rfl) rfl k_219 ?_
  refine zr_aload X 4 dX5_surrender_50 rfl ?_
  refine zr_aloadn X 0 dX5_surrender_52 rfl ?_
  refine zr_get X (ci := 5) (q := 0) (zR _) (.ref (ad (1))) dX5_surrender_53 (by omega) sc_0 rfl inX5 (by decide) rfl (zvR rfl) rfl k_215 ?_
  refine zr_get X (ci := 2) (q := 2) (zR _) (.ref (ad (2))) dX5_surrender_56 (by omega) (sc_st (j := 0) (by omega) (by have := cb_0; omega)) rfl inX2 (by decide) rfl (zvR (by have := cb_0; omega)) rfl k_87 ?_
  refine zr_iloadn X 2 dX5_surrender_59 rfl ?_
  refine zr_iloadn X 3 dX5_surrender_60 rfl ?_
  refine zr_dVv (C := RX3) (ci := 3) [.ref (ad (4 * f + 4)), .ref (ad (2)), .int (nI (t)), .int (nI (0))] [] X (zK_ok A D tc tF tL tM) (d_workOut0 E μ (f := f) (t := t) (by omega) ht1 ht9) k_332 k_333 k_334 k_5 k_335 hdX3_workOut ⟨rfl, rfl⟩ ⟨Nat.le_of_ble_eq_true rfl, Nat.le_of_ble_eq_true rfl⟩ (by omega) sc_290 rfl rfl rfl (Nat.le_of_ble_eq_true rfl) dX5_surrender_61 ?_
  refine zr_aloadn X 0 dX5_surrender_64 rfl ?_
  refine zr_get X (ci := 5) (q := 4) (zR _) (.ref (ad (290))) dX5_surrender_65 (by omega) sc_0 rfl inX5 (by decide) rfl (zvR rfl) rfl k_219 ?_
  refine zr_get X (ci := 3) (q := 5) zI (.int ((clay μ f (nI t) 0) (2458))) dX5_surrender_68 (by omega) sc_290 rfl inX3 (by decide) rfl (congrArg Value.int (rfl)) rfl k_161 ?_
  refine zr_if_le X 77 dX5_surrender_71 (by decide) (fun q => absurd q (h2)) (fun _ => ?_)
  refine zr_bipush X (-4) dX5_surrender_74 (by decide +kernel) ?_
  exact zr_iret X dX5_surrender_76 ⟨rfl, rfl⟩

set_option maxHeartbeats 4000000 in
set_option maxRecDepth 100000 in
theorem d_surrender_ok0 {l : Launch} {D : va_G} {tc : Nat → ClassId} {ad : Nat → Nat} {A : Nat → Prop} {tF tL tM : Nat} (E : zN 299 A ad) (μ : Nat → Int32) {m c ro z : Nat} (S : clsS μ m c ro z) {f : Nat} (hf : f < c) {t : Nat} (ht1 : 1 ≤ t) (ht9 : t ≤ 9999) (h : ¬ μ (32 * f + 36) < nI t) (h2 : clay μ f (nI t) 0 2458 ≤ 0) : zMi l yX5_surrender cX5_surrender 5 (some .int) (zrm 5) (zK A D tc tF tL tM) A D vwCl tc ad 299 shC [.ref (ad (0)), .int (nI (f)), .int (nI (t)), .int (nI (0))] μ (fun r u => r = (csg (csv (zpush (clay μ f (nI (t)) 0) (ro) (z)) f 20) f 3) (32 * f + 36) - nI (t) ∧ u = (upd (upd (csg (csv (zpush (clay μ f (nI (t)) 0) (ro) (z)) f 20) f 3) (32 * f + 36) ((csg (csv (zpush (clay μ f (nI (t)) 0) (ro) (z)) f 20) f 3) (32 * f + 36) - nI (t))) (32 * f + 37) ((csg (csv (zpush (clay μ f (nI (t)) 0) (ro) (z)) f 20) f 3) (32 * f + 37) + nI (t)))) := by
  refine zM_of RX5 [(0, .ref (ad (0))), (1, .int (nI (f))), (2, .int (nI (t))), (3, .int (nI (0)))] (zK_ok A D tc tF tL tM) E.1 E.2 owC_ok (by decide +kernel) rfl (Nat.le_of_ble_eq_true rfl) rfl ?_
  intro pP eE sS mM aS bL mT cO X
  obtain ⟨hm, hm2, hc, h8, hr, hr4, hz, hz4⟩ := S
  refine zr_aloadn X 0 dX5_surrender_0 rfl ?_
  refine zr_get X (ci := 5) (q := 0) (zR _) (.ref (ad (1))) dX5_surrender_1 (by omega) sc_0 rfl inX5 (by decide) rfl (zvR rfl) rfl k_215 ?_
  refine zr_iloadn X 1 dX5_surrender_4 rfl ?_
  refine zr_dVq (C := RX2) (ci := 2) [.int (nI (f))] [] X (zK_ok A D tc tF tL tM) (d_firmAt0_t E μ (f := f) (hc) h8 (by omega)) k_273 k_274 k_275 k_2 k_276 hdX2_firmAt ⟨rfl, rfl⟩ ⟨Nat.le_of_ble_eq_true rfl, Nat.le_of_ble_eq_true rfl⟩ (by omega) (sc_st (j := 0) (by omega) (by have := cb_0; omega)) rfl rfl rfl (Nat.le_of_ble_eq_true rfl) dX5_surrender_5 rfl ?_
  refine zr_astore X [1, 2, 3, 4, 0] [(0, .ref (ad (0))), (1, .int (nI (f))), (2, .int (nI (t))), (3, .int (nI (0))), (4, .ref (ad (4 * f + 4)))] dX5_surrender_8 (by decide) rfl ?_
  refine zr_aload X 4 dX5_surrender_10 rfl ?_
  refine zr_ifnonnull X 17 dX5_surrender_12 (by decide) ?_
  refine zr_iloadn X 2 dX5_surrender_17 rfl ?_
  refine zr_dSi [.int (nI (t))] [] X (zK_ok A D tc tF tL tM) (d_isTonnes_t E μ (by omega) (by omega)) k_277 k_278 k_1 k_279 hdX5_isTonnes ⟨rfl, rfl⟩ ⟨Nat.le_of_ble_eq_true rfl, Nat.le_of_ble_eq_true rfl⟩ rfl rfl (Nat.le_of_ble_eq_true rfl) dX5_surrender_18 ?_
  refine zr_if_eq X 31 dX5_surrender_21 (by decide) (fun q => absurd q (nI_ne0 (by omega) (by omega))) (fun _ => ?_)
  refine zr_iloadn X 3 dX5_surrender_24 rfl ?_
  refine zr_dSi [.int (nI (0))] [] X (zK_ok A D tc tF tL tM) (d_isWay_t E μ (by omega) (by omega)) k_329 k_330 k_1 k_331 hdX5_isWay ⟨rfl, rfl⟩ ⟨Nat.le_of_ble_eq_true rfl, Nat.le_of_ble_eq_true rfl⟩ rfl rfl (Nat.le_of_ble_eq_true rfl) dX5_surrender_25 ?_
  refine zr_if_ne X 34 dX5_surrender_28 (by decide) (fun _ => ?_) (fun q => absurd q (nI_ne0 (by omega) (by omega)))
  refine zr_aload X 4 dX5_surrender_34 rfl ?_
  refine zr_get X (ci := 0) (q := 6) zI (.int (μ (32 * f + 36))) dX5_surrender_36 (by omega) (sc_firm (j := 0) (i := f) (by omega) (by omega) (by have := cb_0; omega)) rfl inX0 (by decide) rfl (congrArg Value.int (zcg (by omega) (rfl))) rfl k_58 ?_
  refine zr_iloadn X 2 dX5_surrender_39 rfl ?_
  refine zr_icmp_ge X 46 dX5_surrender_40 (by decide) (fun _ => ?_) (fun q => absurd (Int32.not_lt.mp h) q)
  refine zr_aloadn X 0 dX5_surrender_46 rfl ?_
  refine zr_get X (ci := 5) (q := 4) (zR _) (.ref (ad (290))) dX5_surrender_47 (by omega) sc_0 rfl inX5 (by decide) rfl (zvR rfl) rfl k_219 ?_
  refine zr_aload X 4 dX5_surrender_50 rfl ?_
  refine zr_aloadn X 0 dX5_surrender_52 rfl ?_
  refine zr_get X (ci := 5) (q := 0) (zR _) (.ref (ad (1))) dX5_surrender_53 (by omega) sc_0 rfl inX5 (by decide) rfl (zvR rfl) rfl k_215 ?_
  refine zr_get X (ci := 2) (q := 2) (zR _) (.ref (ad (2))) dX5_surrender_56 (by omega) (sc_st (j := 0) (by omega) (by have := cb_0; omega)) rfl inX2 (by decide) rfl (zvR (by have := cb_0; omega)) rfl k_87 ?_
  refine zr_iloadn X 2 dX5_surrender_59 rfl ?_
  refine zr_iloadn X 3 dX5_surrender_60 rfl ?_
  refine zr_dVv (C := RX3) (ci := 3) [.ref (ad (4 * f + 4)), .ref (ad (2)), .int (nI (t)), .int (nI (0))] [] X (zK_ok A D tc tF tL tM) (d_workOut0 E μ (f := f) (t := t) (by omega) ht1 ht9) k_332 k_333 k_334 k_5 k_335 hdX3_workOut ⟨rfl, rfl⟩ ⟨Nat.le_of_ble_eq_true rfl, Nat.le_of_ble_eq_true rfl⟩ (by omega) sc_290 rfl rfl rfl (Nat.le_of_ble_eq_true rfl) dX5_surrender_61 ?_
  refine zr_aloadn X 0 dX5_surrender_64 rfl ?_
  refine zr_get X (ci := 5) (q := 4) (zR _) (.ref (ad (290))) dX5_surrender_65 (by omega) sc_0 rfl inX5 (by decide) rfl (zvR rfl) rfl k_219 ?_
  refine zr_get X (ci := 3) (q := 5) zI (.int ((clay μ f (nI t) 0) (2458))) dX5_surrender_68 (by omega) sc_290 rfl inX3 (by decide) rfl (congrArg Value.int (rfl)) rfl k_161 ?_
  refine zr_if_le X 77 dX5_surrender_71 (by decide) (fun _ => ?_) (fun q => absurd (h2) q)
  refine zr_aloadn X 0 dX5_surrender_77 rfl ?_
  refine zr_get X (ci := 5) (q := 3) (zR _) (.ref (ad (124))) dX5_surrender_78 (by omega) sc_0 rfl inX5 (by decide) rfl (zvR rfl) rfl k_218 ?_
  refine zr_aloadn X 0 dX5_surrender_81 rfl ?_
  refine zr_get X (ci := 5) (q := 0) (zR _) (.ref (ad (1))) dX5_surrender_82 (by omega) sc_0 rfl inX5 (by decide) rfl (zvR rfl) rfl k_215 ?_
  refine zr_dVv (C := RX1) (ci := 1) [.ref (ad (1))] [] X (zK_ok A D tc tF tL tM) (d_push E (clay μ f (nI t) 0) ((clay_lo (by omega)).trans (hr)) hr4 ((clay_lo (by omega)).trans (hz)) hz4) k_241 k_242 k_243 k_4 k_244 hdX1_push ⟨rfl, rfl⟩ ⟨Nat.le_of_ble_eq_true rfl, Nat.le_of_ble_eq_true rfl⟩ (by omega) sc_124 rfl rfl rfl (Nat.le_of_ble_eq_true rfl) dX5_surrender_85 ?_
  refine zr_aloadn X 0 dX5_surrender_88 rfl ?_
  refine zr_get X (ci := 5) (q := 0) (zR _) (.ref (ad (1))) dX5_surrender_89 (by omega) sc_0 rfl inX5 (by decide) rfl (zvR rfl) rfl k_215 ?_
  refine zr_aload X 4 dX5_surrender_92 rfl ?_
  refine zr_aloadn X 0 dX5_surrender_94 rfl ?_
  refine zr_get X (ci := 5) (q := 4) (zR _) (.ref (ad (290))) dX5_surrender_95 (by omega) sc_0 rfl inX5 (by decide) rfl (zvR rfl) rfl k_219 ?_
  refine zr_dVv (C := RX2) (ci := 2) [.ref (ad (4 * f + 4)), .ref (ad (290))] [] X (zK_ok A D tc tF tL tM) (d_takeFrom E (zpush (clay μ f (nI t) 0) (ro) (z)) (f := f) (by omega)) k_353 k_354 k_355 k_2 k_356 hdX2_takeFrom ⟨rfl, rfl⟩ ⟨Nat.le_of_ble_eq_true rfl, Nat.le_of_ble_eq_true rfl⟩ (by omega) (sc_st (j := 0) (by omega) (by have := cb_0; omega)) rfl rfl rfl (Nat.le_of_ble_eq_true rfl) dX5_surrender_98 ?_
  refine zr_aload X 4 dX5_surrender_101 rfl ?_
  refine zr_dup X dX5_surrender_103 rfl ?_
  refine zr_get X (ci := 0) (q := 6) zI (.int ((csg (csv (zpush (clay μ f (nI t) 0) (ro) (z)) f 20) f 3) (32 * f + 36))) dX5_surrender_104 (by omega) (sc_firm (j := 0) (i := f) (by omega) (by omega) (by have := cb_0; omega)) rfl inX0 (by decide) rfl (congrArg Value.int (zcg (by omega) (rfl))) rfl k_58 ?_
  refine zr_iloadn X 2 dX5_surrender_107 rfl ?_
  refine zr_isub X (((csg (csv (zpush (clay μ f (nI t) 0) (ro) (z)) f 20) f 3) (32 * f + 36)) - (nI (t))) dX5_surrender_108 rfl ?_
  refine zr_put X (ci := 0) (q := 6) (ty0 := tyX0) (ty := .int) (32 * f + 36) dX5_surrender_109 (by omega) (sc_firm (j := 0) (i := f) (by omega) (by omega) (by have := cb_0; omega)) rfl inX0 tyX0_ok nmX0 (by decide) rfl rfl rfl rfl rfl rfl k_58 (by omega) ?_
  refine zr_aload X 4 dX5_surrender_112 rfl ?_
  refine zr_dup X dX5_surrender_114 rfl ?_
  refine zr_get X (ci := 0) (q := 7) zI (.int ((csg (csv (zpush (clay μ f (nI t) 0) (ro) (z)) f 20) f 3) (32 * f + 37))) dX5_surrender_115 (by omega) (sc_firm (j := 0) (i := f) (by omega) (by omega) (by have := cb_0; omega)) rfl inX0 (by decide) rfl (congrArg Value.int (zcg (by omega) ((pk_un (by omega)).trans (rfl)))) rfl k_59 ?_
  refine zr_iloadn X 2 dX5_surrender_118 rfl ?_
  refine zr_iadd X (((csg (csv (zpush (clay μ f (nI t) 0) (ro) (z)) f 20) f 3) (32 * f + 37)) + (nI (t))) dX5_surrender_119 rfl ?_
  refine zr_put X (ci := 0) (q := 7) (ty0 := tyX0) (ty := .int) (32 * f + 37) dX5_surrender_120 (by omega) (sc_firm (j := 0) (i := f) (by omega) (by omega) (by have := cb_0; omega)) rfl inX0 tyX0_ok nmX0 (by decide) rfl rfl rfl rfl rfl rfl k_59 (by omega) ?_
  refine zr_aload X 4 dX5_surrender_123 rfl ?_
  refine zr_get X (ci := 0) (q := 6) zI (.int (((csg (csv (zpush (clay μ f (nI t) 0) (ro) (z)) f 20) f 3) (32 * f + 36)) - (nI (t)))) dX5_surrender_125 (by omega) (sc_firm (j := 0) (i := f) (by omega) (by omega) (by have := cb_0; omega)) rfl inX0 (by decide) rfl (congrArg Value.int (zcg (by omega) ((pk_un (by omega)).trans (pk_us)))) rfl k_58 ?_
  exact zr_iret X dX5_surrender_128 ⟨rfl, rfl⟩

set_option maxHeartbeats 4000000 in
set_option maxRecDepth 100000 in
theorem d_surrender_n1 {l : Launch} {D : va_G} {tc : Nat → ClassId} {ad : Nat → Nat} {A : Nat → Prop} {tF tL tM : Nat} (E : zN 299 A ad) (μ : Nat → Int32) {m c ro z : Nat} (S : clsS μ m c ro z) {f : Nat} (hf : f < c) {t : Nat} (ht1 : 1 ≤ t) (ht9 : t ≤ 9999) (h : μ (32 * f + 36) < nI t) : zMi l yX5_surrender cX5_surrender 5 (some .int) (zrm 5) (zK A D tc tF tL tM) A D vwCl tc ad 299 shC [.ref (ad (0)), .int (nI (f)), .int (nI (t)), .int (nI (1))] μ (fun r u => r = -4 ∧ u = μ) := by
  refine zM_of RX5 [(0, .ref (ad (0))), (1, .int (nI (f))), (2, .int (nI (t))), (3, .int (nI (1)))] (zK_ok A D tc tF tL tM) E.1 E.2 owC_ok (by decide +kernel) rfl (Nat.le_of_ble_eq_true rfl) rfl ?_
  intro pP eE sS mM aS bL mT cO X
  obtain ⟨hm, hm2, hc, h8, hr, hr4, hz, hz4⟩ := S
  refine zr_aloadn X 0 dX5_surrender_0 rfl ?_
  refine zr_get X (ci := 5) (q := 0) (zR _) (.ref (ad (1))) dX5_surrender_1 (by omega) sc_0 rfl inX5 (by decide) rfl (zvR rfl) rfl k_215 ?_
  refine zr_iloadn X 1 dX5_surrender_4 rfl ?_
  refine zr_dVq (C := RX2) (ci := 2) [.int (nI (f))] [] X (zK_ok A D tc tF tL tM) (d_firmAt0_t E μ (f := f) (hc) h8 (by omega)) k_273 k_274 k_275 k_2 k_276 hdX2_firmAt ⟨rfl, rfl⟩ ⟨Nat.le_of_ble_eq_true rfl, Nat.le_of_ble_eq_true rfl⟩ (by omega) (sc_st (j := 0) (by omega) (by have := cb_0; omega)) rfl rfl rfl (Nat.le_of_ble_eq_true rfl) dX5_surrender_5 rfl ?_
  refine zr_astore X [1, 2, 3, 4, 0] [(0, .ref (ad (0))), (1, .int (nI (f))), (2, .int (nI (t))), (3, .int (nI (1))), (4, .ref (ad (4 * f + 4)))] dX5_surrender_8 (by decide) rfl ?_
  refine zr_aload X 4 dX5_surrender_10 rfl ?_
  refine zr_ifnonnull X 17 dX5_surrender_12 (by decide) ?_
  refine zr_iloadn X 2 dX5_surrender_17 rfl ?_
  refine zr_dSi [.int (nI (t))] [] X (zK_ok A D tc tF tL tM) (d_isTonnes_t E μ (by omega) (by omega)) k_277 k_278 k_1 k_279 hdX5_isTonnes ⟨rfl, rfl⟩ ⟨Nat.le_of_ble_eq_true rfl, Nat.le_of_ble_eq_true rfl⟩ rfl rfl (Nat.le_of_ble_eq_true rfl) dX5_surrender_18 ?_
  refine zr_if_eq X 31 dX5_surrender_21 (by decide) (fun q => absurd q (nI_ne0 (by omega) (by omega))) (fun _ => ?_)
  refine zr_iloadn X 3 dX5_surrender_24 rfl ?_
  refine zr_dSi [.int (nI (1))] [] X (zK_ok A D tc tF tL tM) (d_isWay_t E μ (by omega) (by omega)) k_329 k_330 k_1 k_331 hdX5_isWay ⟨rfl, rfl⟩ ⟨Nat.le_of_ble_eq_true rfl, Nat.le_of_ble_eq_true rfl⟩ rfl rfl (Nat.le_of_ble_eq_true rfl) dX5_surrender_25 ?_
  refine zr_if_ne X 34 dX5_surrender_28 (by decide) (fun _ => ?_) (fun q => absurd q (nI_ne0 (by omega) (by omega)))
  refine zr_aload X 4 dX5_surrender_34 rfl ?_
  refine zr_get X (ci := 0) (q := 6) zI (.int (μ (32 * f + 36))) dX5_surrender_36 (by omega) (sc_firm (j := 0) (i := f) (by omega) (by omega) (by have := cb_0; omega)) rfl inX0 (by decide) rfl (congrArg Value.int (zcg (by omega) (rfl))) rfl k_58 ?_
  refine zr_iloadn X 2 dX5_surrender_39 rfl ?_
  refine zr_icmp_ge X 46 dX5_surrender_40 (by decide) (fun q => absurd q (Int32.not_le.mpr h)) (fun _ => ?_)
  refine zr_bipush X (-4) dX5_surrender_43 (by decide +kernel) ?_
  exact zr_iret X dX5_surrender_45 ⟨rfl, rfl⟩

set_option maxHeartbeats 4000000 in
set_option maxRecDepth 100000 in
theorem d_surrender_m1 {l : Launch} {D : va_G} {tc : Nat → ClassId} {ad : Nat → Nat} {A : Nat → Prop} {tF tL tM : Nat} (E : zN 299 A ad) (μ : Nat → Int32) {m c ro z : Nat} (S : clsS μ m c ro z) {f : Nat} (hf : f < c) {t : Nat} (ht1 : 1 ≤ t) (ht9 : t ≤ 9999) (h : ¬ μ (32 * f + 36) < nI t) (h2 : ¬ clay μ f (nI t) 1 2458 ≤ 0) : zMi l yX5_surrender cX5_surrender 5 (some .int) (zrm 5) (zK A D tc tF tL tM) A D vwCl tc ad 299 shC [.ref (ad (0)), .int (nI (f)), .int (nI (t)), .int (nI (1))] μ (fun r u => r = -4 ∧ u = clay μ f (nI t) 1) := by
  refine zM_of RX5 [(0, .ref (ad (0))), (1, .int (nI (f))), (2, .int (nI (t))), (3, .int (nI (1)))] (zK_ok A D tc tF tL tM) E.1 E.2 owC_ok (by decide +kernel) rfl (Nat.le_of_ble_eq_true rfl) rfl ?_
  intro pP eE sS mM aS bL mT cO X
  obtain ⟨hm, hm2, hc, h8, hr, hr4, hz, hz4⟩ := S
  refine zr_aloadn X 0 dX5_surrender_0 rfl ?_
  refine zr_get X (ci := 5) (q := 0) (zR _) (.ref (ad (1))) dX5_surrender_1 (by omega) sc_0 rfl inX5 (by decide) rfl (zvR rfl) rfl k_215 ?_
  refine zr_iloadn X 1 dX5_surrender_4 rfl ?_
  refine zr_dVq (C := RX2) (ci := 2) [.int (nI (f))] [] X (zK_ok A D tc tF tL tM) (d_firmAt0_t E μ (f := f) (hc) h8 (by omega)) k_273 k_274 k_275 k_2 k_276 hdX2_firmAt ⟨rfl, rfl⟩ ⟨Nat.le_of_ble_eq_true rfl, Nat.le_of_ble_eq_true rfl⟩ (by omega) (sc_st (j := 0) (by omega) (by have := cb_0; omega)) rfl rfl rfl (Nat.le_of_ble_eq_true rfl) dX5_surrender_5 rfl ?_
  refine zr_astore X [1, 2, 3, 4, 0] [(0, .ref (ad (0))), (1, .int (nI (f))), (2, .int (nI (t))), (3, .int (nI (1))), (4, .ref (ad (4 * f + 4)))] dX5_surrender_8 (by decide) rfl ?_
  refine zr_aload X 4 dX5_surrender_10 rfl ?_
  refine zr_ifnonnull X 17 dX5_surrender_12 (by decide) ?_
  refine zr_iloadn X 2 dX5_surrender_17 rfl ?_
  refine zr_dSi [.int (nI (t))] [] X (zK_ok A D tc tF tL tM) (d_isTonnes_t E μ (by omega) (by omega)) k_277 k_278 k_1 k_279 hdX5_isTonnes ⟨rfl, rfl⟩ ⟨Nat.le_of_ble_eq_true rfl, Nat.le_of_ble_eq_true rfl⟩ rfl rfl (Nat.le_of_ble_eq_true rfl) dX5_surrender_18 ?_
  refine zr_if_eq X 31 dX5_surrender_21 (by decide) (fun q => absurd q (nI_ne0 (by omega) (by omega))) (fun _ => ?_)
  refine zr_iloadn X 3 dX5_surrender_24 rfl ?_
  refine zr_dSi [.int (nI (1))] [] X (zK_ok A D tc tF tL tM) (d_isWay_t E μ (by omega) (by omega)) k_329 k_330 k_1 k_331 hdX5_isWay ⟨rfl, rfl⟩ ⟨Nat.le_of_ble_eq_true rfl, Nat.le_of_ble_eq_true rfl⟩ rfl rfl (Nat.le_of_ble_eq_true rfl) dX5_surrender_25 ?_
  refine zr_if_ne X 34 dX5_surrender_28 (by decide) (fun _ => ?_) (fun q => absurd q (nI_ne0 (by omega) (by omega)))
  refine zr_aload X 4 dX5_surrender_34 rfl ?_
  refine zr_get X (ci := 0) (q := 6) zI (.int (μ (32 * f + 36))) dX5_surrender_36 (by omega) (sc_firm (j := 0) (i := f) (by omega) (by omega) (by have := cb_0; omega)) rfl inX0 (by decide) rfl (congrArg Value.int (zcg (by omega) (rfl))) rfl k_58 ?_
  refine zr_iloadn X 2 dX5_surrender_39 rfl ?_
  refine zr_icmp_ge X 46 dX5_surrender_40 (by decide) (fun _ => ?_) (fun q => absurd (Int32.not_lt.mp h) q)
  refine zr_aloadn X 0 dX5_surrender_46 rfl ?_
  refine zr_get X (ci := 5) (q := 4) (zR _) (.ref (ad (290))) dX5_surrender_47 (by omega) sc_0 rfl inX5 (by decide) rfl (zvR rfl) rfl k_219 ?_
  refine zr_aload X 4 dX5_surrender_50 rfl ?_
  refine zr_aloadn X 0 dX5_surrender_52 rfl ?_
  refine zr_get X (ci := 5) (q := 0) (zR _) (.ref (ad (1))) dX5_surrender_53 (by omega) sc_0 rfl inX5 (by decide) rfl (zvR rfl) rfl k_215 ?_
  refine zr_get X (ci := 2) (q := 2) (zR _) (.ref (ad (2))) dX5_surrender_56 (by omega) (sc_st (j := 0) (by omega) (by have := cb_0; omega)) rfl inX2 (by decide) rfl (zvR (by have := cb_0; omega)) rfl k_87 ?_
  refine zr_iloadn X 2 dX5_surrender_59 rfl ?_
  refine zr_iloadn X 3 dX5_surrender_60 rfl ?_
  refine zr_dVv (C := RX3) (ci := 3) [.ref (ad (4 * f + 4)), .ref (ad (2)), .int (nI (t)), .int (nI (1))] [] X (zK_ok A D tc tF tL tM) (d_workOut1 E μ (f := f) (t := t) (by omega) ht1 ht9) k_332 k_333 k_334 k_5 k_335 hdX3_workOut ⟨rfl, rfl⟩ ⟨Nat.le_of_ble_eq_true rfl, Nat.le_of_ble_eq_true rfl⟩ (by omega) sc_290 rfl rfl rfl (Nat.le_of_ble_eq_true rfl) dX5_surrender_61 ?_
  refine zr_aloadn X 0 dX5_surrender_64 rfl ?_
  refine zr_get X (ci := 5) (q := 4) (zR _) (.ref (ad (290))) dX5_surrender_65 (by omega) sc_0 rfl inX5 (by decide) rfl (zvR rfl) rfl k_219 ?_
  refine zr_get X (ci := 3) (q := 5) zI (.int ((clay μ f (nI t) 1) (2458))) dX5_surrender_68 (by omega) sc_290 rfl inX3 (by decide) rfl (congrArg Value.int (rfl)) rfl k_161 ?_
  refine zr_if_le X 77 dX5_surrender_71 (by decide) (fun q => absurd q (h2)) (fun _ => ?_)
  refine zr_bipush X (-4) dX5_surrender_74 (by decide +kernel) ?_
  exact zr_iret X dX5_surrender_76 ⟨rfl, rfl⟩

set_option maxHeartbeats 4000000 in
set_option maxRecDepth 100000 in
theorem d_surrender_ok1 {l : Launch} {D : va_G} {tc : Nat → ClassId} {ad : Nat → Nat} {A : Nat → Prop} {tF tL tM : Nat} (E : zN 299 A ad) (μ : Nat → Int32) {m c ro z : Nat} (S : clsS μ m c ro z) {f : Nat} (hf : f < c) {t : Nat} (ht1 : 1 ≤ t) (ht9 : t ≤ 9999) (h : ¬ μ (32 * f + 36) < nI t) (h2 : clay μ f (nI t) 1 2458 ≤ 0) : zMi l yX5_surrender cX5_surrender 5 (some .int) (zrm 5) (zK A D tc tF tL tM) A D vwCl tc ad 299 shC [.ref (ad (0)), .int (nI (f)), .int (nI (t)), .int (nI (1))] μ (fun r u => r = (csg (csv (zpush (clay μ f (nI (t)) 1) (ro) (z)) f 20) f 3) (32 * f + 36) - nI (t) ∧ u = (upd (upd (csg (csv (zpush (clay μ f (nI (t)) 1) (ro) (z)) f 20) f 3) (32 * f + 36) ((csg (csv (zpush (clay μ f (nI (t)) 1) (ro) (z)) f 20) f 3) (32 * f + 36) - nI (t))) (32 * f + 37) ((csg (csv (zpush (clay μ f (nI (t)) 1) (ro) (z)) f 20) f 3) (32 * f + 37) + nI (t)))) := by
  refine zM_of RX5 [(0, .ref (ad (0))), (1, .int (nI (f))), (2, .int (nI (t))), (3, .int (nI (1)))] (zK_ok A D tc tF tL tM) E.1 E.2 owC_ok (by decide +kernel) rfl (Nat.le_of_ble_eq_true rfl) rfl ?_
  intro pP eE sS mM aS bL mT cO X
  obtain ⟨hm, hm2, hc, h8, hr, hr4, hz, hz4⟩ := S
  refine zr_aloadn X 0 dX5_surrender_0 rfl ?_
  refine zr_get X (ci := 5) (q := 0) (zR _) (.ref (ad (1))) dX5_surrender_1 (by omega) sc_0 rfl inX5 (by decide) rfl (zvR rfl) rfl k_215 ?_
  refine zr_iloadn X 1 dX5_surrender_4 rfl ?_
  refine zr_dVq (C := RX2) (ci := 2) [.int (nI (f))] [] X (zK_ok A D tc tF tL tM) (d_firmAt0_t E μ (f := f) (hc) h8 (by omega)) k_273 k_274 k_275 k_2 k_276 hdX2_firmAt ⟨rfl, rfl⟩ ⟨Nat.le_of_ble_eq_true rfl, Nat.le_of_ble_eq_true rfl⟩ (by omega) (sc_st (j := 0) (by omega) (by have := cb_0; omega)) rfl rfl rfl (Nat.le_of_ble_eq_true rfl) dX5_surrender_5 rfl ?_
  refine zr_astore X [1, 2, 3, 4, 0] [(0, .ref (ad (0))), (1, .int (nI (f))), (2, .int (nI (t))), (3, .int (nI (1))), (4, .ref (ad (4 * f + 4)))] dX5_surrender_8 (by decide) rfl ?_
  refine zr_aload X 4 dX5_surrender_10 rfl ?_
  refine zr_ifnonnull X 17 dX5_surrender_12 (by decide) ?_
  refine zr_iloadn X 2 dX5_surrender_17 rfl ?_
  refine zr_dSi [.int (nI (t))] [] X (zK_ok A D tc tF tL tM) (d_isTonnes_t E μ (by omega) (by omega)) k_277 k_278 k_1 k_279 hdX5_isTonnes ⟨rfl, rfl⟩ ⟨Nat.le_of_ble_eq_true rfl, Nat.le_of_ble_eq_true rfl⟩ rfl rfl (Nat.le_of_ble_eq_true rfl) dX5_surrender_18 ?_
  refine zr_if_eq X 31 dX5_surrender_21 (by decide) (fun q => absurd q (nI_ne0 (by omega) (by omega))) (fun _ => ?_)
  refine zr_iloadn X 3 dX5_surrender_24 rfl ?_
  refine zr_dSi [.int (nI (1))] [] X (zK_ok A D tc tF tL tM) (d_isWay_t E μ (by omega) (by omega)) k_329 k_330 k_1 k_331 hdX5_isWay ⟨rfl, rfl⟩ ⟨Nat.le_of_ble_eq_true rfl, Nat.le_of_ble_eq_true rfl⟩ rfl rfl (Nat.le_of_ble_eq_true rfl) dX5_surrender_25 ?_
  refine zr_if_ne X 34 dX5_surrender_28 (by decide) (fun _ => ?_) (fun q => absurd q (nI_ne0 (by omega) (by omega)))
  refine zr_aload X 4 dX5_surrender_34 rfl ?_
  refine zr_get X (ci := 0) (q := 6) zI (.int (μ (32 * f + 36))) dX5_surrender_36 (by omega) (sc_firm (j := 0) (i := f) (by omega) (by omega) (by have := cb_0; omega)) rfl inX0 (by decide) rfl (congrArg Value.int (zcg (by omega) (rfl))) rfl k_58 ?_
  refine zr_iloadn X 2 dX5_surrender_39 rfl ?_
  refine zr_icmp_ge X 46 dX5_surrender_40 (by decide) (fun _ => ?_) (fun q => absurd (Int32.not_lt.mp h) q)
  refine zr_aloadn X 0 dX5_surrender_46 rfl ?_
  refine zr_get X (ci := 5) (q := 4) (zR _) (.ref (ad (290))) dX5_surrender_47 (by omega) sc_0 rfl inX5 (by decide) rfl (zvR rfl) rfl k_219 ?_
  refine zr_aload X 4 dX5_surrender_50 rfl ?_
  refine zr_aloadn X 0 dX5_surrender_52 rfl ?_
  refine zr_get X (ci := 5) (q := 0) (zR _) (.ref (ad (1))) dX5_surrender_53 (by omega) sc_0 rfl inX5 (by decide) rfl (zvR rfl) rfl k_215 ?_
  refine zr_get X (ci := 2) (q := 2) (zR _) (.ref (ad (2))) dX5_surrender_56 (by omega) (sc_st (j := 0) (by omega) (by have := cb_0; omega)) rfl inX2 (by decide) rfl (zvR (by have := cb_0; omega)) rfl k_87 ?_
  refine zr_iloadn X 2 dX5_surrender_59 rfl ?_
  refine zr_iloadn X 3 dX5_surrender_60 rfl ?_
  refine zr_dVv (C := RX3) (ci := 3) [.ref (ad (4 * f + 4)), .ref (ad (2)), .int (nI (t)), .int (nI (1))] [] X (zK_ok A D tc tF tL tM) (d_workOut1 E μ (f := f) (t := t) (by omega) ht1 ht9) k_332 k_333 k_334 k_5 k_335 hdX3_workOut ⟨rfl, rfl⟩ ⟨Nat.le_of_ble_eq_true rfl, Nat.le_of_ble_eq_true rfl⟩ (by omega) sc_290 rfl rfl rfl (Nat.le_of_ble_eq_true rfl) dX5_surrender_61 ?_
  refine zr_aloadn X 0 dX5_surrender_64 rfl ?_
  refine zr_get X (ci := 5) (q := 4) (zR _) (.ref (ad (290))) dX5_surrender_65 (by omega) sc_0 rfl inX5 (by decide) rfl (zvR rfl) rfl k_219 ?_
  refine zr_get X (ci := 3) (q := 5) zI (.int ((clay μ f (nI t) 1) (2458))) dX5_surrender_68 (by omega) sc_290 rfl inX3 (by decide) rfl (congrArg Value.int (rfl)) rfl k_161 ?_
  refine zr_if_le X 77 dX5_surrender_71 (by decide) (fun _ => ?_) (fun q => absurd (h2) q)
  refine zr_aloadn X 0 dX5_surrender_77 rfl ?_
  refine zr_get X (ci := 5) (q := 3) (zR _) (.ref (ad (124))) dX5_surrender_78 (by omega) sc_0 rfl inX5 (by decide) rfl (zvR rfl) rfl k_218 ?_
  refine zr_aloadn X 0 dX5_surrender_81 rfl ?_
  refine zr_get X (ci := 5) (q := 0) (zR _) (.ref (ad (1))) dX5_surrender_82 (by omega) sc_0 rfl inX5 (by decide) rfl (zvR rfl) rfl k_215 ?_
  refine zr_dVv (C := RX1) (ci := 1) [.ref (ad (1))] [] X (zK_ok A D tc tF tL tM) (d_push E (clay μ f (nI t) 1) ((clay_lo (by omega)).trans (hr)) hr4 ((clay_lo (by omega)).trans (hz)) hz4) k_241 k_242 k_243 k_4 k_244 hdX1_push ⟨rfl, rfl⟩ ⟨Nat.le_of_ble_eq_true rfl, Nat.le_of_ble_eq_true rfl⟩ (by omega) sc_124 rfl rfl rfl (Nat.le_of_ble_eq_true rfl) dX5_surrender_85 ?_
  refine zr_aloadn X 0 dX5_surrender_88 rfl ?_
  refine zr_get X (ci := 5) (q := 0) (zR _) (.ref (ad (1))) dX5_surrender_89 (by omega) sc_0 rfl inX5 (by decide) rfl (zvR rfl) rfl k_215 ?_
  refine zr_aload X 4 dX5_surrender_92 rfl ?_
  refine zr_aloadn X 0 dX5_surrender_94 rfl ?_
  refine zr_get X (ci := 5) (q := 4) (zR _) (.ref (ad (290))) dX5_surrender_95 (by omega) sc_0 rfl inX5 (by decide) rfl (zvR rfl) rfl k_219 ?_
  refine zr_dVv (C := RX2) (ci := 2) [.ref (ad (4 * f + 4)), .ref (ad (290))] [] X (zK_ok A D tc tF tL tM) (d_takeFrom E (zpush (clay μ f (nI t) 1) (ro) (z)) (f := f) (by omega)) k_353 k_354 k_355 k_2 k_356 hdX2_takeFrom ⟨rfl, rfl⟩ ⟨Nat.le_of_ble_eq_true rfl, Nat.le_of_ble_eq_true rfl⟩ (by omega) (sc_st (j := 0) (by omega) (by have := cb_0; omega)) rfl rfl rfl (Nat.le_of_ble_eq_true rfl) dX5_surrender_98 ?_
  refine zr_aload X 4 dX5_surrender_101 rfl ?_
  refine zr_dup X dX5_surrender_103 rfl ?_
  refine zr_get X (ci := 0) (q := 6) zI (.int ((csg (csv (zpush (clay μ f (nI t) 1) (ro) (z)) f 20) f 3) (32 * f + 36))) dX5_surrender_104 (by omega) (sc_firm (j := 0) (i := f) (by omega) (by omega) (by have := cb_0; omega)) rfl inX0 (by decide) rfl (congrArg Value.int (zcg (by omega) (rfl))) rfl k_58 ?_
  refine zr_iloadn X 2 dX5_surrender_107 rfl ?_
  refine zr_isub X (((csg (csv (zpush (clay μ f (nI t) 1) (ro) (z)) f 20) f 3) (32 * f + 36)) - (nI (t))) dX5_surrender_108 rfl ?_
  refine zr_put X (ci := 0) (q := 6) (ty0 := tyX0) (ty := .int) (32 * f + 36) dX5_surrender_109 (by omega) (sc_firm (j := 0) (i := f) (by omega) (by omega) (by have := cb_0; omega)) rfl inX0 tyX0_ok nmX0 (by decide) rfl rfl rfl rfl rfl rfl k_58 (by omega) ?_
  refine zr_aload X 4 dX5_surrender_112 rfl ?_
  refine zr_dup X dX5_surrender_114 rfl ?_
  refine zr_get X (ci := 0) (q := 7) zI (.int ((csg (csv (zpush (clay μ f (nI t) 1) (ro) (z)) f 20) f 3) (32 * f + 37))) dX5_surrender_115 (by omega) (sc_firm (j := 0) (i := f) (by omega) (by omega) (by have := cb_0; omega)) rfl inX0 (by decide) rfl (congrArg Value.int (zcg (by omega) ((pk_un (by omega)).trans (rfl)))) rfl k_59 ?_
  refine zr_iloadn X 2 dX5_surrender_118 rfl ?_
  refine zr_iadd X (((csg (csv (zpush (clay μ f (nI t) 1) (ro) (z)) f 20) f 3) (32 * f + 37)) + (nI (t))) dX5_surrender_119 rfl ?_
  refine zr_put X (ci := 0) (q := 7) (ty0 := tyX0) (ty := .int) (32 * f + 37) dX5_surrender_120 (by omega) (sc_firm (j := 0) (i := f) (by omega) (by omega) (by have := cb_0; omega)) rfl inX0 tyX0_ok nmX0 (by decide) rfl rfl rfl rfl rfl rfl k_59 (by omega) ?_
  refine zr_aload X 4 dX5_surrender_123 rfl ?_
  refine zr_get X (ci := 0) (q := 6) zI (.int (((csg (csv (zpush (clay μ f (nI t) 1) (ro) (z)) f 20) f 3) (32 * f + 36)) - (nI (t)))) dX5_surrender_125 (by omega) (sc_firm (j := 0) (i := f) (by omega) (by omega) (by have := cb_0; omega)) rfl inX0 (by decide) rfl (congrArg Value.int (zcg (by omega) ((pk_un (by omega)).trans (pk_us)))) rfl k_58 ?_
  exact zr_iret X dX5_surrender_128 ⟨rfl, rfl⟩

set_option maxHeartbeats 4000000 in
set_option maxRecDepth 100000 in
theorem d_surrender_n2 {l : Launch} {D : va_G} {tc : Nat → ClassId} {ad : Nat → Nat} {A : Nat → Prop} {tF tL tM : Nat} (E : zN 299 A ad) (μ : Nat → Int32) {m c ro z : Nat} (S : clsS μ m c ro z) {f : Nat} (hf : f < c) {t : Nat} (ht1 : 1 ≤ t) (ht9 : t ≤ 9999) (h : μ (32 * f + 36) < nI t) : zMi l yX5_surrender cX5_surrender 5 (some .int) (zrm 5) (zK A D tc tF tL tM) A D vwCl tc ad 299 shC [.ref (ad (0)), .int (nI (f)), .int (nI (t)), .int (nI (2))] μ (fun r u => r = -4 ∧ u = μ) := by
  refine zM_of RX5 [(0, .ref (ad (0))), (1, .int (nI (f))), (2, .int (nI (t))), (3, .int (nI (2)))] (zK_ok A D tc tF tL tM) E.1 E.2 owC_ok (by decide +kernel) rfl (Nat.le_of_ble_eq_true rfl) rfl ?_
  intro pP eE sS mM aS bL mT cO X
  obtain ⟨hm, hm2, hc, h8, hr, hr4, hz, hz4⟩ := S
  refine zr_aloadn X 0 dX5_surrender_0 rfl ?_
  refine zr_get X (ci := 5) (q := 0) (zR _) (.ref (ad (1))) dX5_surrender_1 (by omega) sc_0 rfl inX5 (by decide) rfl (zvR rfl) rfl k_215 ?_
  refine zr_iloadn X 1 dX5_surrender_4 rfl ?_
  refine zr_dVq (C := RX2) (ci := 2) [.int (nI (f))] [] X (zK_ok A D tc tF tL tM) (d_firmAt0_t E μ (f := f) (hc) h8 (by omega)) k_273 k_274 k_275 k_2 k_276 hdX2_firmAt ⟨rfl, rfl⟩ ⟨Nat.le_of_ble_eq_true rfl, Nat.le_of_ble_eq_true rfl⟩ (by omega) (sc_st (j := 0) (by omega) (by have := cb_0; omega)) rfl rfl rfl (Nat.le_of_ble_eq_true rfl) dX5_surrender_5 rfl ?_
  refine zr_astore X [1, 2, 3, 4, 0] [(0, .ref (ad (0))), (1, .int (nI (f))), (2, .int (nI (t))), (3, .int (nI (2))), (4, .ref (ad (4 * f + 4)))] dX5_surrender_8 (by decide) rfl ?_
  refine zr_aload X 4 dX5_surrender_10 rfl ?_
  refine zr_ifnonnull X 17 dX5_surrender_12 (by decide) ?_
  refine zr_iloadn X 2 dX5_surrender_17 rfl ?_
  refine zr_dSi [.int (nI (t))] [] X (zK_ok A D tc tF tL tM) (d_isTonnes_t E μ (by omega) (by omega)) k_277 k_278 k_1 k_279 hdX5_isTonnes ⟨rfl, rfl⟩ ⟨Nat.le_of_ble_eq_true rfl, Nat.le_of_ble_eq_true rfl⟩ rfl rfl (Nat.le_of_ble_eq_true rfl) dX5_surrender_18 ?_
  refine zr_if_eq X 31 dX5_surrender_21 (by decide) (fun q => absurd q (nI_ne0 (by omega) (by omega))) (fun _ => ?_)
  refine zr_iloadn X 3 dX5_surrender_24 rfl ?_
  refine zr_dSi [.int (nI (2))] [] X (zK_ok A D tc tF tL tM) (d_isWay_t E μ (by omega) (by omega)) k_329 k_330 k_1 k_331 hdX5_isWay ⟨rfl, rfl⟩ ⟨Nat.le_of_ble_eq_true rfl, Nat.le_of_ble_eq_true rfl⟩ rfl rfl (Nat.le_of_ble_eq_true rfl) dX5_surrender_25 ?_
  refine zr_if_ne X 34 dX5_surrender_28 (by decide) (fun _ => ?_) (fun q => absurd q (nI_ne0 (by omega) (by omega)))
  refine zr_aload X 4 dX5_surrender_34 rfl ?_
  refine zr_get X (ci := 0) (q := 6) zI (.int (μ (32 * f + 36))) dX5_surrender_36 (by omega) (sc_firm (j := 0) (i := f) (by omega) (by omega) (by have := cb_0; omega)) rfl inX0 (by decide) rfl (congrArg Value.int (zcg (by omega) (rfl))) rfl k_58 ?_
  refine zr_iloadn X 2 dX5_surrender_39 rfl ?_
  refine zr_icmp_ge X 46 dX5_surrender_40 (by decide) (fun q => absurd q (Int32.not_le.mpr h)) (fun _ => ?_)
  refine zr_bipush X (-4) dX5_surrender_43 (by decide +kernel) ?_
  exact zr_iret X dX5_surrender_45 ⟨rfl, rfl⟩

set_option maxHeartbeats 4000000 in
set_option maxRecDepth 100000 in
theorem d_surrender_m2 {l : Launch} {D : va_G} {tc : Nat → ClassId} {ad : Nat → Nat} {A : Nat → Prop} {tF tL tM : Nat} (E : zN 299 A ad) (μ : Nat → Int32) {m c ro z : Nat} (S : clsS μ m c ro z) {f : Nat} (hf : f < c) {t : Nat} (ht1 : 1 ≤ t) (ht9 : t ≤ 9999) (h : ¬ μ (32 * f + 36) < nI t) (h2 : ¬ clay μ f (nI t) 2 2458 ≤ 0) : zMi l yX5_surrender cX5_surrender 5 (some .int) (zrm 5) (zK A D tc tF tL tM) A D vwCl tc ad 299 shC [.ref (ad (0)), .int (nI (f)), .int (nI (t)), .int (nI (2))] μ (fun r u => r = -4 ∧ u = clay μ f (nI t) 2) := by
  refine zM_of RX5 [(0, .ref (ad (0))), (1, .int (nI (f))), (2, .int (nI (t))), (3, .int (nI (2)))] (zK_ok A D tc tF tL tM) E.1 E.2 owC_ok (by decide +kernel) rfl (Nat.le_of_ble_eq_true rfl) rfl ?_
  intro pP eE sS mM aS bL mT cO X
  obtain ⟨hm, hm2, hc, h8, hr, hr4, hz, hz4⟩ := S
  refine zr_aloadn X 0 dX5_surrender_0 rfl ?_
  refine zr_get X (ci := 5) (q := 0) (zR _) (.ref (ad (1))) dX5_surrender_1 (by omega) sc_0 rfl inX5 (by decide) rfl (zvR rfl) rfl k_215 ?_
  refine zr_iloadn X 1 dX5_surrender_4 rfl ?_
  refine zr_dVq (C := RX2) (ci := 2) [.int (nI (f))] [] X (zK_ok A D tc tF tL tM) (d_firmAt0_t E μ (f := f) (hc) h8 (by omega)) k_273 k_274 k_275 k_2 k_276 hdX2_firmAt ⟨rfl, rfl⟩ ⟨Nat.le_of_ble_eq_true rfl, Nat.le_of_ble_eq_true rfl⟩ (by omega) (sc_st (j := 0) (by omega) (by have := cb_0; omega)) rfl rfl rfl (Nat.le_of_ble_eq_true rfl) dX5_surrender_5 rfl ?_
  refine zr_astore X [1, 2, 3, 4, 0] [(0, .ref (ad (0))), (1, .int (nI (f))), (2, .int (nI (t))), (3, .int (nI (2))), (4, .ref (ad (4 * f + 4)))] dX5_surrender_8 (by decide) rfl ?_
  refine zr_aload X 4 dX5_surrender_10 rfl ?_
  refine zr_ifnonnull X 17 dX5_surrender_12 (by decide) ?_
  refine zr_iloadn X 2 dX5_surrender_17 rfl ?_
  refine zr_dSi [.int (nI (t))] [] X (zK_ok A D tc tF tL tM) (d_isTonnes_t E μ (by omega) (by omega)) k_277 k_278 k_1 k_279 hdX5_isTonnes ⟨rfl, rfl⟩ ⟨Nat.le_of_ble_eq_true rfl, Nat.le_of_ble_eq_true rfl⟩ rfl rfl (Nat.le_of_ble_eq_true rfl) dX5_surrender_18 ?_
  refine zr_if_eq X 31 dX5_surrender_21 (by decide) (fun q => absurd q (nI_ne0 (by omega) (by omega))) (fun _ => ?_)
  refine zr_iloadn X 3 dX5_surrender_24 rfl ?_
  refine zr_dSi [.int (nI (2))] [] X (zK_ok A D tc tF tL tM) (d_isWay_t E μ (by omega) (by omega)) k_329 k_330 k_1 k_331 hdX5_isWay ⟨rfl, rfl⟩ ⟨Nat.le_of_ble_eq_true rfl, Nat.le_of_ble_eq_true rfl⟩ rfl rfl (Nat.le_of_ble_eq_true rfl) dX5_surrender_25 ?_
  refine zr_if_ne X 34 dX5_surrender_28 (by decide) (fun _ => ?_) (fun q => absurd q (nI_ne0 (by omega) (by omega)))
  refine zr_aload X 4 dX5_surrender_34 rfl ?_
  refine zr_get X (ci := 0) (q := 6) zI (.int (μ (32 * f + 36))) dX5_surrender_36 (by omega) (sc_firm (j := 0) (i := f) (by omega) (by omega) (by have := cb_0; omega)) rfl inX0 (by decide) rfl (congrArg Value.int (zcg (by omega) (rfl))) rfl k_58 ?_
  refine zr_iloadn X 2 dX5_surrender_39 rfl ?_
  refine zr_icmp_ge X 46 dX5_surrender_40 (by decide) (fun _ => ?_) (fun q => absurd (Int32.not_lt.mp h) q)
  refine zr_aloadn X 0 dX5_surrender_46 rfl ?_
  refine zr_get X (ci := 5) (q := 4) (zR _) (.ref (ad (290))) dX5_surrender_47 (by omega) sc_0 rfl inX5 (by decide) rfl (zvR rfl) rfl k_219 ?_
  refine zr_aload X 4 dX5_surrender_50 rfl ?_
  refine zr_aloadn X 0 dX5_surrender_52 rfl ?_
  refine zr_get X (ci := 5) (q := 0) (zR _) (.ref (ad (1))) dX5_surrender_53 (by omega) sc_0 rfl inX5 (by decide) rfl (zvR rfl) rfl k_215 ?_
  refine zr_get X (ci := 2) (q := 2) (zR _) (.ref (ad (2))) dX5_surrender_56 (by omega) (sc_st (j := 0) (by omega) (by have := cb_0; omega)) rfl inX2 (by decide) rfl (zvR (by have := cb_0; omega)) rfl k_87 ?_
  refine zr_iloadn X 2 dX5_surrender_59 rfl ?_
  refine zr_iloadn X 3 dX5_surrender_60 rfl ?_
  refine zr_dVv (C := RX3) (ci := 3) [.ref (ad (4 * f + 4)), .ref (ad (2)), .int (nI (t)), .int (nI (2))] [] X (zK_ok A D tc tF tL tM) (d_workOut2 E μ (f := f) (t := t) (by omega) ht1 ht9) k_332 k_333 k_334 k_5 k_335 hdX3_workOut ⟨rfl, rfl⟩ ⟨Nat.le_of_ble_eq_true rfl, Nat.le_of_ble_eq_true rfl⟩ (by omega) sc_290 rfl rfl rfl (Nat.le_of_ble_eq_true rfl) dX5_surrender_61 ?_
  refine zr_aloadn X 0 dX5_surrender_64 rfl ?_
  refine zr_get X (ci := 5) (q := 4) (zR _) (.ref (ad (290))) dX5_surrender_65 (by omega) sc_0 rfl inX5 (by decide) rfl (zvR rfl) rfl k_219 ?_
  refine zr_get X (ci := 3) (q := 5) zI (.int ((clay μ f (nI t) 2) (2458))) dX5_surrender_68 (by omega) sc_290 rfl inX3 (by decide) rfl (congrArg Value.int (rfl)) rfl k_161 ?_
  refine zr_if_le X 77 dX5_surrender_71 (by decide) (fun q => absurd q (h2)) (fun _ => ?_)
  refine zr_bipush X (-4) dX5_surrender_74 (by decide +kernel) ?_
  exact zr_iret X dX5_surrender_76 ⟨rfl, rfl⟩

set_option maxHeartbeats 4000000 in
set_option maxRecDepth 100000 in
theorem d_surrender_ok2 {l : Launch} {D : va_G} {tc : Nat → ClassId} {ad : Nat → Nat} {A : Nat → Prop} {tF tL tM : Nat} (E : zN 299 A ad) (μ : Nat → Int32) {m c ro z : Nat} (S : clsS μ m c ro z) {f : Nat} (hf : f < c) {t : Nat} (ht1 : 1 ≤ t) (ht9 : t ≤ 9999) (h : ¬ μ (32 * f + 36) < nI t) (h2 : clay μ f (nI t) 2 2458 ≤ 0) : zMi l yX5_surrender cX5_surrender 5 (some .int) (zrm 5) (zK A D tc tF tL tM) A D vwCl tc ad 299 shC [.ref (ad (0)), .int (nI (f)), .int (nI (t)), .int (nI (2))] μ (fun r u => r = (csg (csv (zpush (clay μ f (nI (t)) 2) (ro) (z)) f 20) f 3) (32 * f + 36) - nI (t) ∧ u = (upd (upd (csg (csv (zpush (clay μ f (nI (t)) 2) (ro) (z)) f 20) f 3) (32 * f + 36) ((csg (csv (zpush (clay μ f (nI (t)) 2) (ro) (z)) f 20) f 3) (32 * f + 36) - nI (t))) (32 * f + 37) ((csg (csv (zpush (clay μ f (nI (t)) 2) (ro) (z)) f 20) f 3) (32 * f + 37) + nI (t)))) := by
  refine zM_of RX5 [(0, .ref (ad (0))), (1, .int (nI (f))), (2, .int (nI (t))), (3, .int (nI (2)))] (zK_ok A D tc tF tL tM) E.1 E.2 owC_ok (by decide +kernel) rfl (Nat.le_of_ble_eq_true rfl) rfl ?_
  intro pP eE sS mM aS bL mT cO X
  obtain ⟨hm, hm2, hc, h8, hr, hr4, hz, hz4⟩ := S
  refine zr_aloadn X 0 dX5_surrender_0 rfl ?_
  refine zr_get X (ci := 5) (q := 0) (zR _) (.ref (ad (1))) dX5_surrender_1 (by omega) sc_0 rfl inX5 (by decide) rfl (zvR rfl) rfl k_215 ?_
  refine zr_iloadn X 1 dX5_surrender_4 rfl ?_
  refine zr_dVq (C := RX2) (ci := 2) [.int (nI (f))] [] X (zK_ok A D tc tF tL tM) (d_firmAt0_t E μ (f := f) (hc) h8 (by omega)) k_273 k_274 k_275 k_2 k_276 hdX2_firmAt ⟨rfl, rfl⟩ ⟨Nat.le_of_ble_eq_true rfl, Nat.le_of_ble_eq_true rfl⟩ (by omega) (sc_st (j := 0) (by omega) (by have := cb_0; omega)) rfl rfl rfl (Nat.le_of_ble_eq_true rfl) dX5_surrender_5 rfl ?_
  refine zr_astore X [1, 2, 3, 4, 0] [(0, .ref (ad (0))), (1, .int (nI (f))), (2, .int (nI (t))), (3, .int (nI (2))), (4, .ref (ad (4 * f + 4)))] dX5_surrender_8 (by decide) rfl ?_
  refine zr_aload X 4 dX5_surrender_10 rfl ?_
  refine zr_ifnonnull X 17 dX5_surrender_12 (by decide) ?_
  refine zr_iloadn X 2 dX5_surrender_17 rfl ?_
  refine zr_dSi [.int (nI (t))] [] X (zK_ok A D tc tF tL tM) (d_isTonnes_t E μ (by omega) (by omega)) k_277 k_278 k_1 k_279 hdX5_isTonnes ⟨rfl, rfl⟩ ⟨Nat.le_of_ble_eq_true rfl, Nat.le_of_ble_eq_true rfl⟩ rfl rfl (Nat.le_of_ble_eq_true rfl) dX5_surrender_18 ?_
  refine zr_if_eq X 31 dX5_surrender_21 (by decide) (fun q => absurd q (nI_ne0 (by omega) (by omega))) (fun _ => ?_)
  refine zr_iloadn X 3 dX5_surrender_24 rfl ?_
  refine zr_dSi [.int (nI (2))] [] X (zK_ok A D tc tF tL tM) (d_isWay_t E μ (by omega) (by omega)) k_329 k_330 k_1 k_331 hdX5_isWay ⟨rfl, rfl⟩ ⟨Nat.le_of_ble_eq_true rfl, Nat.le_of_ble_eq_true rfl⟩ rfl rfl (Nat.le_of_ble_eq_true rfl) dX5_surrender_25 ?_
  refine zr_if_ne X 34 dX5_surrender_28 (by decide) (fun _ => ?_) (fun q => absurd q (nI_ne0 (by omega) (by omega)))
  refine zr_aload X 4 dX5_surrender_34 rfl ?_
  refine zr_get X (ci := 0) (q := 6) zI (.int (μ (32 * f + 36))) dX5_surrender_36 (by omega) (sc_firm (j := 0) (i := f) (by omega) (by omega) (by have := cb_0; omega)) rfl inX0 (by decide) rfl (congrArg Value.int (zcg (by omega) (rfl))) rfl k_58 ?_
  refine zr_iloadn X 2 dX5_surrender_39 rfl ?_
  refine zr_icmp_ge X 46 dX5_surrender_40 (by decide) (fun _ => ?_) (fun q => absurd (Int32.not_lt.mp h) q)
  refine zr_aloadn X 0 dX5_surrender_46 rfl ?_
  refine zr_get X (ci := 5) (q := 4) (zR _) (.ref (ad (290))) dX5_surrender_47 (by omega) sc_0 rfl inX5 (by decide) rfl (zvR rfl) rfl k_219 ?_
  refine zr_aload X 4 dX5_surrender_50 rfl ?_
  refine zr_aloadn X 0 dX5_surrender_52 rfl ?_
  refine zr_get X (ci := 5) (q := 0) (zR _) (.ref (ad (1))) dX5_surrender_53 (by omega) sc_0 rfl inX5 (by decide) rfl (zvR rfl) rfl k_215 ?_
  refine zr_get X (ci := 2) (q := 2) (zR _) (.ref (ad (2))) dX5_surrender_56 (by omega) (sc_st (j := 0) (by omega) (by have := cb_0; omega)) rfl inX2 (by decide) rfl (zvR (by have := cb_0; omega)) rfl k_87 ?_
  refine zr_iloadn X 2 dX5_surrender_59 rfl ?_
  refine zr_iloadn X 3 dX5_surrender_60 rfl ?_
  refine zr_dVv (C := RX3) (ci := 3) [.ref (ad (4 * f + 4)), .ref (ad (2)), .int (nI (t)), .int (nI (2))] [] X (zK_ok A D tc tF tL tM) (d_workOut2 E μ (f := f) (t := t) (by omega) ht1 ht9) k_332 k_333 k_334 k_5 k_335 hdX3_workOut ⟨rfl, rfl⟩ ⟨Nat.le_of_ble_eq_true rfl, Nat.le_of_ble_eq_true rfl⟩ (by omega) sc_290 rfl rfl rfl (Nat.le_of_ble_eq_true rfl) dX5_surrender_61 ?_
  refine zr_aloadn X 0 dX5_surrender_64 rfl ?_
  refine zr_get X (ci := 5) (q := 4) (zR _) (.ref (ad (290))) dX5_surrender_65 (by omega) sc_0 rfl inX5 (by decide) rfl (zvR rfl) rfl k_219 ?_
  refine zr_get X (ci := 3) (q := 5) zI (.int ((clay μ f (nI t) 2) (2458))) dX5_surrender_68 (by omega) sc_290 rfl inX3 (by decide) rfl (congrArg Value.int (rfl)) rfl k_161 ?_
  refine zr_if_le X 77 dX5_surrender_71 (by decide) (fun _ => ?_) (fun q => absurd (h2) q)
  refine zr_aloadn X 0 dX5_surrender_77 rfl ?_
  refine zr_get X (ci := 5) (q := 3) (zR _) (.ref (ad (124))) dX5_surrender_78 (by omega) sc_0 rfl inX5 (by decide) rfl (zvR rfl) rfl k_218 ?_
  refine zr_aloadn X 0 dX5_surrender_81 rfl ?_
  refine zr_get X (ci := 5) (q := 0) (zR _) (.ref (ad (1))) dX5_surrender_82 (by omega) sc_0 rfl inX5 (by decide) rfl (zvR rfl) rfl k_215 ?_
  refine zr_dVv (C := RX1) (ci := 1) [.ref (ad (1))] [] X (zK_ok A D tc tF tL tM) (d_push E (clay μ f (nI t) 2) ((clay_lo (by omega)).trans (hr)) hr4 ((clay_lo (by omega)).trans (hz)) hz4) k_241 k_242 k_243 k_4 k_244 hdX1_push ⟨rfl, rfl⟩ ⟨Nat.le_of_ble_eq_true rfl, Nat.le_of_ble_eq_true rfl⟩ (by omega) sc_124 rfl rfl rfl (Nat.le_of_ble_eq_true rfl) dX5_surrender_85 ?_
  refine zr_aloadn X 0 dX5_surrender_88 rfl ?_
  refine zr_get X (ci := 5) (q := 0) (zR _) (.ref (ad (1))) dX5_surrender_89 (by omega) sc_0 rfl inX5 (by decide) rfl (zvR rfl) rfl k_215 ?_
  refine zr_aload X 4 dX5_surrender_92 rfl ?_
  refine zr_aloadn X 0 dX5_surrender_94 rfl ?_
  refine zr_get X (ci := 5) (q := 4) (zR _) (.ref (ad (290))) dX5_surrender_95 (by omega) sc_0 rfl inX5 (by decide) rfl (zvR rfl) rfl k_219 ?_
  refine zr_dVv (C := RX2) (ci := 2) [.ref (ad (4 * f + 4)), .ref (ad (290))] [] X (zK_ok A D tc tF tL tM) (d_takeFrom E (zpush (clay μ f (nI t) 2) (ro) (z)) (f := f) (by omega)) k_353 k_354 k_355 k_2 k_356 hdX2_takeFrom ⟨rfl, rfl⟩ ⟨Nat.le_of_ble_eq_true rfl, Nat.le_of_ble_eq_true rfl⟩ (by omega) (sc_st (j := 0) (by omega) (by have := cb_0; omega)) rfl rfl rfl (Nat.le_of_ble_eq_true rfl) dX5_surrender_98 ?_
  refine zr_aload X 4 dX5_surrender_101 rfl ?_
  refine zr_dup X dX5_surrender_103 rfl ?_
  refine zr_get X (ci := 0) (q := 6) zI (.int ((csg (csv (zpush (clay μ f (nI t) 2) (ro) (z)) f 20) f 3) (32 * f + 36))) dX5_surrender_104 (by omega) (sc_firm (j := 0) (i := f) (by omega) (by omega) (by have := cb_0; omega)) rfl inX0 (by decide) rfl (congrArg Value.int (zcg (by omega) (rfl))) rfl k_58 ?_
  refine zr_iloadn X 2 dX5_surrender_107 rfl ?_
  refine zr_isub X (((csg (csv (zpush (clay μ f (nI t) 2) (ro) (z)) f 20) f 3) (32 * f + 36)) - (nI (t))) dX5_surrender_108 rfl ?_
  refine zr_put X (ci := 0) (q := 6) (ty0 := tyX0) (ty := .int) (32 * f + 36) dX5_surrender_109 (by omega) (sc_firm (j := 0) (i := f) (by omega) (by omega) (by have := cb_0; omega)) rfl inX0 tyX0_ok nmX0 (by decide) rfl rfl rfl rfl rfl rfl k_58 (by omega) ?_
  refine zr_aload X 4 dX5_surrender_112 rfl ?_
  refine zr_dup X dX5_surrender_114 rfl ?_
  refine zr_get X (ci := 0) (q := 7) zI (.int ((csg (csv (zpush (clay μ f (nI t) 2) (ro) (z)) f 20) f 3) (32 * f + 37))) dX5_surrender_115 (by omega) (sc_firm (j := 0) (i := f) (by omega) (by omega) (by have := cb_0; omega)) rfl inX0 (by decide) rfl (congrArg Value.int (zcg (by omega) ((pk_un (by omega)).trans (rfl)))) rfl k_59 ?_
  refine zr_iloadn X 2 dX5_surrender_118 rfl ?_
  refine zr_iadd X (((csg (csv (zpush (clay μ f (nI t) 2) (ro) (z)) f 20) f 3) (32 * f + 37)) + (nI (t))) dX5_surrender_119 rfl ?_
  refine zr_put X (ci := 0) (q := 7) (ty0 := tyX0) (ty := .int) (32 * f + 37) dX5_surrender_120 (by omega) (sc_firm (j := 0) (i := f) (by omega) (by omega) (by have := cb_0; omega)) rfl inX0 tyX0_ok nmX0 (by decide) rfl rfl rfl rfl rfl rfl k_59 (by omega) ?_
  refine zr_aload X 4 dX5_surrender_123 rfl ?_
  refine zr_get X (ci := 0) (q := 6) zI (.int (((csg (csv (zpush (clay μ f (nI t) 2) (ro) (z)) f 20) f 3) (32 * f + 36)) - (nI (t)))) dX5_surrender_125 (by omega) (sc_firm (j := 0) (i := f) (by omega) (by omega) (by have := cb_0; omega)) rfl inX0 (by decide) rfl (congrArg Value.int (zcg (by omega) ((pk_un (by omega)).trans (pk_us)))) rfl k_58 ?_
  exact zr_iret X dX5_surrender_128 ⟨rfl, rfl⟩

set_option maxHeartbeats 4000000 in
set_option maxRecDepth 100000 in
theorem d_pass_b {l : Launch} {D : va_G} {tc : Nat → ClassId} {ad : Nat → Nat} {A : Nat → Prop} {tF tL tM : Nat} (E : zN 299 A ad) (μ : Nat → Int32) {m c ro z : Nat} (S : clsS μ m c ro z) {x : Int32} (hx : ¬ zin x 1 24)  : zMi l yX5_pass cX5_pass 4 (some .int) (zrm 5) (zK A D tc tF tL tM) A D vwCl tc ad 299 shC [.ref (ad (0)), .int (x)] μ (fun r u => r = -2 ∧ u = μ) := by
  refine zM_of RX5 [(0, .ref (ad (0))), (1, .int (x))] (zK_ok A D tc tF tL tM) E.1 E.2 owC_ok (by decide +kernel) rfl (Nat.le_of_ble_eq_true rfl) rfl ?_
  intro pP eE sS mM aS bL mT cO X
  obtain ⟨hm, hm2, hc, h8, hr, hr4, hz, hz4⟩ := S
  refine zr_iloadn X 1 dX5_pass_0 rfl ?_
  refine zr_iconst X (nI (1)) dX5_pass_1 (by decide +kernel) ?_
  refine zr_icmp_lt X 11 dX5_pass_2 (by decide) (fun h2 => ?_) (fun h2 => ?_)
  · refine zr_bipush X (-2) dX5_pass_11 (by decide +kernel) ?_
    exact zr_iret X dX5_pass_13 ⟨rfl, rfl⟩
  · refine zr_iloadn X 1 dX5_pass_5 rfl ?_
    refine zr_bipush X (nI (24)) dX5_pass_6 (by decide +kernel) ?_
    refine zr_icmp_le X 14 dX5_pass_8 (by decide) (fun q => absurd q (fun q => hx (zin_of (by omega) (Int32.not_lt.mp h2) q (by omega)))) (fun _ => ?_)
    refine zr_bipush X (-2) dX5_pass_11 (by decide +kernel) ?_
    exact zr_iret X dX5_pass_13 ⟨rfl, rfl⟩

set_option maxHeartbeats 4000000 in
set_option maxRecDepth 100000 in
theorem d_pass_n {l : Launch} {D : va_G} {tc : Nat → ClassId} {ad : Nat → Nat} {A : Nat → Prop} {tF tL tM : Nat} (E : zN 299 A ad) (μ : Nat → Int32) {m c ro z : Nat} (S : clsS μ m c ro z) {q : Nat} (hq1 : 1 ≤ q) (hq2 : q ≤ 24) (h : 239 < m + q) : zMi l yX5_pass cX5_pass 4 (some .int) (zrm 5) (zK A D tc tF tL tM) A D vwCl tc ad 299 shC [.ref (ad (0)), .int (nI (q))] μ (fun r u => r = -4 ∧ u = μ) := by
  refine zM_of RX5 [(0, .ref (ad (0))), (1, .int (nI (q)))] (zK_ok A D tc tF tL tM) E.1 E.2 owC_ok (by decide +kernel) rfl (Nat.le_of_ble_eq_true rfl) rfl ?_
  intro pP eE sS mM aS bL mT cO X
  obtain ⟨hm, hm2, hc, h8, hr, hr4, hz, hz4⟩ := S
  refine zr_iloadn X 1 dX5_pass_0 rfl ?_
  refine zr_iconst X (nI (1)) dX5_pass_1 (by decide +kernel) ?_
  refine zr_icmp_lt X 11 dX5_pass_2 (by decide) (fun q => absurd q (nI_nlt (by omega) (by omega))) (fun _ => ?_)
  refine zr_iloadn X 1 dX5_pass_5 rfl ?_
  refine zr_bipush X (nI (24)) dX5_pass_6 (by decide +kernel) ?_
  refine zr_icmp_le X 14 dX5_pass_8 (by decide) (fun _ => ?_) (fun q => absurd (zq_le (by omega) (by omega)) q)
  refine zr_aloadn X 0 dX5_pass_14 rfl ?_
  refine zr_get X (ci := 5) (q := 0) (zR _) (.ref (ad (1))) dX5_pass_15 (by omega) sc_0 rfl inX5 (by decide) rfl (zvR rfl) rfl k_215 ?_
  refine zr_get X (ci := 2) (q := 0) zI (.int (nI (m))) dX5_pass_18 (by omega) (sc_st (j := 0) (by omega) (by have := cb_0; omega)) rfl inX2 (by decide) rfl (congrArg Value.int (hm)) rfl k_83 ?_
  refine zr_iloadn X 1 dX5_pass_21 rfl ?_
  refine zr_iadd X (nI (m + q)) dX5_pass_22 (nI_add _ _) ?_
  refine zr_sipush X (nI (239)) dX5_pass_23 (by decide +kernel) ?_
  refine zr_icmp_le X 32 dX5_pass_26 (by decide) (fun q => absurd q (nI_ge (by omega) (by omega))) (fun _ => ?_)
  refine zr_bipush X (-4) dX5_pass_29 (by decide +kernel) ?_
  exact zr_iret X dX5_pass_31 ⟨rfl, rfl⟩

set_option maxHeartbeats 4000000 in
set_option maxRecDepth 100000 in
theorem d_pass_ok {l : Launch} {D : va_G} {tc : Nat → ClassId} {ad : Nat → Nat} {A : Nat → Prop} {tF tL tM : Nat} (E : zN 299 A ad) (μ : Nat → Int32) {m c ro z : Nat} (S : clsS μ m c ro z) {q : Nat} (hq1 : 1 ≤ q) (hq2 : q ≤ 24) {b : Nat} (hb : μ 5 = nI b) (hb1 : 1 ≤ b) (hb5 : b ≤ 5) (h : m + q ≤ 239) : zMi l yX5_pass cX5_pass 4 (some .int) (zrm 5) (zK A D tc tF tL tM) A D vwCl tc ad 299 shC [.ref (ad (0)), .int (nI (q))] μ (fun r u => r = zpc (zpush μ (ro) (z)) 8 b m q ∧ u = zps (zpush μ (ro) (z)) 8 b m q) := by
  refine zM_of RX5 [(0, .ref (ad (0))), (1, .int (nI (q)))] (zK_ok A D tc tF tL tM) E.1 E.2 owC_ok (by decide +kernel) rfl (Nat.le_of_ble_eq_true rfl) rfl ?_
  intro pP eE sS mM aS bL mT cO X
  obtain ⟨hm, hm2, hc, h8, hr, hr4, hz, hz4⟩ := S
  refine zr_iloadn X 1 dX5_pass_0 rfl ?_
  refine zr_iconst X (nI (1)) dX5_pass_1 (by decide +kernel) ?_
  refine zr_icmp_lt X 11 dX5_pass_2 (by decide) (fun q => absurd q (nI_nlt (by omega) (by omega))) (fun _ => ?_)
  refine zr_iloadn X 1 dX5_pass_5 rfl ?_
  refine zr_bipush X (nI (24)) dX5_pass_6 (by decide +kernel) ?_
  refine zr_icmp_le X 14 dX5_pass_8 (by decide) (fun _ => ?_) (fun q => absurd (zq_le (by omega) (by omega)) q)
  refine zr_aloadn X 0 dX5_pass_14 rfl ?_
  refine zr_get X (ci := 5) (q := 0) (zR _) (.ref (ad (1))) dX5_pass_15 (by omega) sc_0 rfl inX5 (by decide) rfl (zvR rfl) rfl k_215 ?_
  refine zr_get X (ci := 2) (q := 0) zI (.int (nI (m))) dX5_pass_18 (by omega) (sc_st (j := 0) (by omega) (by have := cb_0; omega)) rfl inX2 (by decide) rfl (congrArg Value.int (hm)) rfl k_83 ?_
  refine zr_iloadn X 1 dX5_pass_21 rfl ?_
  refine zr_iadd X (nI (m + q)) dX5_pass_22 (nI_add _ _) ?_
  refine zr_sipush X (nI (239)) dX5_pass_23 (by decide +kernel) ?_
  refine zr_icmp_le X 32 dX5_pass_26 (by decide) (fun _ => ?_) (fun q => absurd (zq_le (by omega) (by omega)) q)
  refine zr_aloadn X 0 dX5_pass_32 rfl ?_
  refine zr_get X (ci := 5) (q := 3) (zR _) (.ref (ad (124))) dX5_pass_33 (by omega) sc_0 rfl inX5 (by decide) rfl (zvR rfl) rfl k_218 ?_
  refine zr_aloadn X 0 dX5_pass_36 rfl ?_
  refine zr_get X (ci := 5) (q := 0) (zR _) (.ref (ad (1))) dX5_pass_37 (by omega) sc_0 rfl inX5 (by decide) rfl (zvR rfl) rfl k_215 ?_
  refine zr_dVv (C := RX1) (ci := 1) [.ref (ad (1))] [] X (zK_ok A D tc tF tL tM) (d_push E μ (hr) hr4 (hz) hz4) k_241 k_242 k_243 k_4 k_244 hdX1_push ⟨rfl, rfl⟩ ⟨Nat.le_of_ble_eq_true rfl, Nat.le_of_ble_eq_true rfl⟩ (by omega) sc_124 rfl rfl rfl (Nat.le_of_ble_eq_true rfl) dX5_pass_40 ?_
  refine zr_iconst X (nI (0)) dX5_pass_43 (by decide +kernel) ?_
  refine zr_istoren X [1, 2, 0] [(0, .ref (ad (0))), (1, .int (nI (q))), (2, .int (nI (0)))] dX5_pass_44 (by decide) rfl ?_
  refine zr_iconst X (nI (0)) dX5_pass_45 (by decide +kernel) ?_
  refine zr_istoren X [1, 2, 3, 0] [(0, .ref (ad (0))), (1, .int (nI (q))), (2, .int (nI (0))), (3, .int (nI (0)))] dX5_pass_46 (by decide) rfl ?_
  refine zr_for X (q) (fun i => (zps (zpush μ (ro) (z)) 8 b m (i))) (fun i => [(0, .ref (ad (0))), (1, .int (nI (q))), (2, .int (zpc (zpush μ (ro) (z)) 8 b m (i))), (3, .int (nI (i)))]) [] (rfl) rfl ?_ ?_
  · refine zr_iloadn X 3 dX5_pass_47 rfl ?_
    refine zr_iloadn X 1 dX5_pass_48 rfl ?_
    refine zr_icmp_ge X 68 dX5_pass_49 (by decide) (fun _ => ?_) (fun q => absurd (zq_le (by omega) (by omega)) q)
    refine zr_iloadn X 2 dX5_pass_68 rfl ?_
    exact zr_iret X dX5_pass_69 ⟨rfl, rfl⟩
  · intro i hi ih47
    refine zr_iloadn X 3 dX5_pass_47 rfl ?_
    refine zr_iloadn X 1 dX5_pass_48 rfl ?_
    refine zr_icmp_ge X 68 dX5_pass_49 (by decide) (fun q => absurd q (nI_ge (by omega) (by omega))) (fun _ => ?_)
    refine zr_iloadn X 2 dX5_pass_52 rfl ?_
    refine zr_aloadn X 0 dX5_pass_53 rfl ?_
    refine zr_get X (ci := 5) (q := 0) (zR _) (.ref (ad (1))) dX5_pass_54 (by omega) sc_0 rfl inX5 (by decide) rfl (zvR rfl) rfl k_215 ?_
    refine zr_dVi (C := RX2) (ci := 2) [] [.int (zpc (zpush μ (ro) (z)) 8 b m (i))] X (zK_ok A D tc tF tL tM) (d_beginMonth E (zps (zpush μ (ro) (z)) 8 b m (i)) (m := (i + m)) (zps_0 ((zpush_lo (by omega) hr4).trans hm) _) (by omega) ((zps_lo (by omega) (by omega) _).trans ((zpush_lo (by omega) hr4).trans hb)) hb1 hb5) k_361 k_362 k_363 k_2 k_364 hdX2_beginMonth ⟨rfl, rfl⟩ ⟨Nat.le_of_ble_eq_true rfl, Nat.le_of_ble_eq_true rfl⟩ (by omega) (sc_st (j := 0) (by omega) (by have := cb_0; omega)) rfl rfl rfl (Nat.le_of_ble_eq_true rfl) dX5_pass_57 ?_
    refine zr_iadd X ((zpc (zpush μ (ro) (z)) 8 b m (i)) + (zc1 (zps (zpush μ (ro) (z)) 8 b m (i)) 8 (i + m))) dX5_pass_60 rfl ?_
    refine zr_istoren X [1, 2, 0, 3] [(0, .ref (ad (0))), (1, .int (nI (q))), (2, .int ((zpc (zpush μ (ro) (z)) 8 b m (i)) + (zc1 (zps (zpush μ (ro) (z)) 8 b m (i)) 8 (i + m)))), (3, .int (nI (i)))] dX5_pass_61 (by decide) rfl ?_
    refine zr_iinc X 3 (nI (i + 1)) [1, 2, 3, 0] [(0, .ref (ad (0))), (1, .int (nI (q))), (2, .int ((zpc (zpush μ (ro) (z)) 8 b m (i)) + (zc1 (zps (zpush μ (ro) (z)) 8 b m (i)) 8 (i + m)))), (3, .int (nI (i + 1)))] dX5_pass_62 rfl (zinc _) (by decide) rfl ?_
    refine zr_goto X 47 dX5_pass_65 (by decide) ?_
    exact ih47

set_option maxHeartbeats 4000000 in
set_option maxRecDepth 100000 in
theorem d_firm_u {l : Launch} {D : va_G} {tc : Nat → ClassId} {ad : Nat → Nat} {A : Nat → Prop} {tF tL tM : Nat} (E : zN 299 A ad) (μ : Nat → Int32) {m c ro z : Nat} (S : clsS μ m c ro z) {x : Int32} (hx : ¬ zfm x c) (y : Int32)  : zMi l yX5_firm cX5_firm 4 (some .int) (zrm 5) (zK A D tc tF tL tM) A D vwCl tc ad 299 shC [.ref (ad (0)), .int (x), .int (y)] μ (fun r u => r = -1 ∧ u = μ) := by
  refine zM_of RX5 [(0, .ref (ad (0))), (1, .int (x)), (2, .int (y))] (zK_ok A D tc tF tL tM) E.1 E.2 owC_ok (by decide +kernel) rfl (Nat.le_of_ble_eq_true rfl) rfl ?_
  intro pP eE sS mM aS bL mT cO X
  obtain ⟨hm, hm2, hc, h8, hr, hr4, hz, hz4⟩ := S
  refine zr_aloadn X 0 dX5_firm_0 rfl ?_
  refine zr_get X (ci := 5) (q := 0) (zR _) (.ref (ad (1))) dX5_firm_1 (by omega) sc_0 rfl inX5 (by decide) rfl (zvR rfl) rfl k_215 ?_
  refine zr_iloadn X 1 dX5_firm_4 rfl ?_
  refine zr_dVq (C := RX2) (ci := 2) [.int (x)] [] X (zK_ok A D tc tF tL tM) (d_firmAt0_f E μ (hc) h8 hx) k_273 k_274 k_275 k_2 k_276 hdX2_firmAt ⟨rfl, rfl⟩ ⟨Nat.le_of_ble_eq_true rfl, Nat.le_of_ble_eq_true rfl⟩ (by omega) (sc_st (j := 0) (by omega) (by have := cb_0; omega)) rfl rfl rfl (Nat.le_of_ble_eq_true rfl) dX5_firm_5 rfl ?_
  refine zr_astorenN X [1, 2, 3, 0] [(0, .ref (ad (0))), (1, .int (x)), (2, .int (y)), (3, .null)] dX5_firm_8 (by decide) rfl ?_
  refine zr_aloadnN X 3 dX5_firm_9 rfl ?_
  refine zr_ifnonnullN X dX5_firm_10 ?_
  refine zr_iconst X (-1) dX5_firm_13 (by decide +kernel) ?_
  exact zr_iret X dX5_firm_14 ⟨rfl, rfl⟩

set_option maxHeartbeats 4000000 in
set_option maxRecDepth 100000 in
theorem d_firm_b {l : Launch} {D : va_G} {tc : Nat → ClassId} {ad : Nat → Nat} {A : Nat → Prop} {tF tL tM : Nat} (E : zN 299 A ad) (μ : Nat → Int32) {m c ro z : Nat} (S : clsS μ m c ro z) {f : Nat} (hf : f < c) {x : Int32} (hx : ¬ zin x 0 10)  : zMi l yX5_firm cX5_firm 4 (some .int) (zrm 5) (zK A D tc tF tL tM) A D vwCl tc ad 299 shC [.ref (ad (0)), .int (nI (f)), .int (x)] μ (fun r u => r = -2 ∧ u = μ) := by
  refine zM_of RX5 [(0, .ref (ad (0))), (1, .int (nI (f))), (2, .int (x))] (zK_ok A D tc tF tL tM) E.1 E.2 owC_ok (by decide +kernel) rfl (Nat.le_of_ble_eq_true rfl) rfl ?_
  intro pP eE sS mM aS bL mT cO X
  obtain ⟨hm, hm2, hc, h8, hr, hr4, hz, hz4⟩ := S
  refine zr_aloadn X 0 dX5_firm_0 rfl ?_
  refine zr_get X (ci := 5) (q := 0) (zR _) (.ref (ad (1))) dX5_firm_1 (by omega) sc_0 rfl inX5 (by decide) rfl (zvR rfl) rfl k_215 ?_
  refine zr_iloadn X 1 dX5_firm_4 rfl ?_
  refine zr_dVq (C := RX2) (ci := 2) [.int (nI (f))] [] X (zK_ok A D tc tF tL tM) (d_firmAt0_t E μ (f := f) (hc) h8 (by omega)) k_273 k_274 k_275 k_2 k_276 hdX2_firmAt ⟨rfl, rfl⟩ ⟨Nat.le_of_ble_eq_true rfl, Nat.le_of_ble_eq_true rfl⟩ (by omega) (sc_st (j := 0) (by omega) (by have := cb_0; omega)) rfl rfl rfl (Nat.le_of_ble_eq_true rfl) dX5_firm_5 rfl ?_
  refine zr_astoren X [1, 2, 3, 0] [(0, .ref (ad (0))), (1, .int (nI (f))), (2, .int (x)), (3, .ref (ad (4 * f + 4)))] dX5_firm_8 (by decide) rfl ?_
  refine zr_aloadn X 3 dX5_firm_9 rfl ?_
  refine zr_ifnonnull X 15 dX5_firm_10 (by decide) ?_
  refine zr_iloadn X 2 dX5_firm_15 rfl ?_
  refine zr_tswO X 138 dX5_firm_16 (zsw_out hx (by omega) rfl rfl) (by decide) ?_
  refine zr_bipush X (-2) dX5_firm_138 (by decide +kernel) ?_
  exact zr_iret X dX5_firm_140 ⟨rfl, rfl⟩

set_option maxHeartbeats 4000000 in
set_option maxRecDepth 100000 in
theorem d_firm_0 {l : Launch} {D : va_G} {tc : Nat → ClassId} {ad : Nat → Nat} {A : Nat → Prop} {tF tL tM : Nat} (E : zN 299 A ad) (μ : Nat → Int32) {m c ro z : Nat} (S : clsS μ m c ro z) {f : Nat} (hf : f < c)  : zMi l yX5_firm cX5_firm 4 (some .int) (zrm 5) (zK A D tc tF tL tM) A D vwCl tc ad 299 shC [.ref (ad (0)), .int (nI (f)), .int (nI (0))] μ (fun r u => r = zsum (fun v => μ (32 * f + v + 7)) 20 ∧ u = μ) := by
  refine zM_of RX5 [(0, .ref (ad (0))), (1, .int (nI (f))), (2, .int (nI (0)))] (zK_ok A D tc tF tL tM) E.1 E.2 owC_ok (by decide +kernel) rfl (Nat.le_of_ble_eq_true rfl) rfl ?_
  intro pP eE sS mM aS bL mT cO X
  obtain ⟨hm, hm2, hc, h8, hr, hr4, hz, hz4⟩ := S
  refine zr_aloadn X 0 dX5_firm_0 rfl ?_
  refine zr_get X (ci := 5) (q := 0) (zR _) (.ref (ad (1))) dX5_firm_1 (by omega) sc_0 rfl inX5 (by decide) rfl (zvR rfl) rfl k_215 ?_
  refine zr_iloadn X 1 dX5_firm_4 rfl ?_
  refine zr_dVq (C := RX2) (ci := 2) [.int (nI (f))] [] X (zK_ok A D tc tF tL tM) (d_firmAt0_t E μ (f := f) (hc) h8 (by omega)) k_273 k_274 k_275 k_2 k_276 hdX2_firmAt ⟨rfl, rfl⟩ ⟨Nat.le_of_ble_eq_true rfl, Nat.le_of_ble_eq_true rfl⟩ (by omega) (sc_st (j := 0) (by omega) (by have := cb_0; omega)) rfl rfl rfl (Nat.le_of_ble_eq_true rfl) dX5_firm_5 rfl ?_
  refine zr_astoren X [1, 2, 3, 0] [(0, .ref (ad (0))), (1, .int (nI (f))), (2, .int (nI (0))), (3, .ref (ad (4 * f + 4)))] dX5_firm_8 (by decide) rfl ?_
  refine zr_aloadn X 3 dX5_firm_9 rfl ?_
  refine zr_ifnonnull X 15 dX5_firm_10 (by decide) ?_
  refine zr_iloadn X 2 dX5_firm_15 rfl ?_
  refine zr_tswI (off := 60) X 76 dX5_firm_16 ⟨by decide +kernel, by decide +kernel, by decide +kernel⟩ (by decide) ?_
  refine zr_aloadn X 3 dX5_firm_76 rfl ?_
  refine zr_dVi (C := RX0) (ci := 0) [] [] X (zK_ok A D tc tF tL tM) (d_allowances E μ (f := f) (by omega)) k_435 k_436 k_437 k_3 k_438 hdX0_allowances ⟨rfl, rfl⟩ ⟨Nat.le_of_ble_eq_true rfl, Nat.le_of_ble_eq_true rfl⟩ (by omega) (sc_firm (j := 0) (i := f) (by omega) (by omega) (by have := cb_0; omega)) rfl rfl rfl (Nat.le_of_ble_eq_true rfl) dX5_firm_77 ?_
  exact zr_iret X dX5_firm_80 ⟨rfl, rfl⟩

set_option maxHeartbeats 4000000 in
set_option maxRecDepth 100000 in
theorem d_firm_1 {l : Launch} {D : va_G} {tc : Nat → ClassId} {ad : Nat → Nat} {A : Nat → Prop} {tF tL tM : Nat} (E : zN 299 A ad) (μ : Nat → Int32) {m c ro z : Nat} (S : clsS μ m c ro z) {f : Nat} (hf : f < c)  : zMi l yX5_firm cX5_firm 4 (some .int) (zrm 5) (zK A D tc tF tL tM) A D vwCl tc ad 299 shC [.ref (ad (0)), .int (nI (f)), .int (nI (1))] μ (fun r u => r = nI (zcnt (fun v => μ (32 * f + v + 7)) 20) ∧ u = μ) := by
  refine zM_of RX5 [(0, .ref (ad (0))), (1, .int (nI (f))), (2, .int (nI (1)))] (zK_ok A D tc tF tL tM) E.1 E.2 owC_ok (by decide +kernel) rfl (Nat.le_of_ble_eq_true rfl) rfl ?_
  intro pP eE sS mM aS bL mT cO X
  obtain ⟨hm, hm2, hc, h8, hr, hr4, hz, hz4⟩ := S
  refine zr_aloadn X 0 dX5_firm_0 rfl ?_
  refine zr_get X (ci := 5) (q := 0) (zR _) (.ref (ad (1))) dX5_firm_1 (by omega) sc_0 rfl inX5 (by decide) rfl (zvR rfl) rfl k_215 ?_
  refine zr_iloadn X 1 dX5_firm_4 rfl ?_
  refine zr_dVq (C := RX2) (ci := 2) [.int (nI (f))] [] X (zK_ok A D tc tF tL tM) (d_firmAt0_t E μ (f := f) (hc) h8 (by omega)) k_273 k_274 k_275 k_2 k_276 hdX2_firmAt ⟨rfl, rfl⟩ ⟨Nat.le_of_ble_eq_true rfl, Nat.le_of_ble_eq_true rfl⟩ (by omega) (sc_st (j := 0) (by omega) (by have := cb_0; omega)) rfl rfl rfl (Nat.le_of_ble_eq_true rfl) dX5_firm_5 rfl ?_
  refine zr_astoren X [1, 2, 3, 0] [(0, .ref (ad (0))), (1, .int (nI (f))), (2, .int (nI (1))), (3, .ref (ad (4 * f + 4)))] dX5_firm_8 (by decide) rfl ?_
  refine zr_aloadn X 3 dX5_firm_9 rfl ?_
  refine zr_ifnonnull X 15 dX5_firm_10 (by decide) ?_
  refine zr_iloadn X 2 dX5_firm_15 rfl ?_
  refine zr_tswI (off := 65) X 81 dX5_firm_16 ⟨by decide +kernel, by decide +kernel, by decide +kernel⟩ (by decide) ?_
  refine zr_aloadn X 3 dX5_firm_81 rfl ?_
  refine zr_dVi (C := RX0) (ci := 0) [] [] X (zK_ok A D tc tF tL tM) (d_vintagesHeld E μ (f := f) (by omega)) k_439 k_440 k_441 k_3 k_442 hdX0_vintagesHeld ⟨rfl, rfl⟩ ⟨Nat.le_of_ble_eq_true rfl, Nat.le_of_ble_eq_true rfl⟩ (by omega) (sc_firm (j := 0) (i := f) (by omega) (by omega) (by have := cb_0; omega)) rfl rfl rfl (Nat.le_of_ble_eq_true rfl) dX5_firm_82 ?_
  exact zr_iret X dX5_firm_85 ⟨rfl, rfl⟩

set_option maxHeartbeats 4000000 in
set_option maxRecDepth 100000 in
theorem d_firm_2 {l : Launch} {D : va_G} {tc : Nat → ClassId} {ad : Nat → Nat} {A : Nat → Prop} {tF tL tM : Nat} (E : zN 299 A ad) (μ : Nat → Int32) {m c ro z : Nat} (S : clsS μ m c ro z) {f : Nat} (hf : f < c)  : zMi l yX5_firm cX5_firm 4 (some .int) (zrm 5) (zK A D tc tF tL tM) A D vwCl tc ad 299 shC [.ref (ad (0)), .int (nI (f)), .int (nI (2))] μ (fun r u => r = zexO (fun v => μ (32 * f + v + 7)) 20 ∧ u = μ) := by
  refine zM_of RX5 [(0, .ref (ad (0))), (1, .int (nI (f))), (2, .int (nI (2)))] (zK_ok A D tc tF tL tM) E.1 E.2 owC_ok (by decide +kernel) rfl (Nat.le_of_ble_eq_true rfl) rfl ?_
  intro pP eE sS mM aS bL mT cO X
  obtain ⟨hm, hm2, hc, h8, hr, hr4, hz, hz4⟩ := S
  refine zr_aloadn X 0 dX5_firm_0 rfl ?_
  refine zr_get X (ci := 5) (q := 0) (zR _) (.ref (ad (1))) dX5_firm_1 (by omega) sc_0 rfl inX5 (by decide) rfl (zvR rfl) rfl k_215 ?_
  refine zr_iloadn X 1 dX5_firm_4 rfl ?_
  refine zr_dVq (C := RX2) (ci := 2) [.int (nI (f))] [] X (zK_ok A D tc tF tL tM) (d_firmAt0_t E μ (f := f) (hc) h8 (by omega)) k_273 k_274 k_275 k_2 k_276 hdX2_firmAt ⟨rfl, rfl⟩ ⟨Nat.le_of_ble_eq_true rfl, Nat.le_of_ble_eq_true rfl⟩ (by omega) (sc_st (j := 0) (by omega) (by have := cb_0; omega)) rfl rfl rfl (Nat.le_of_ble_eq_true rfl) dX5_firm_5 rfl ?_
  refine zr_astoren X [1, 2, 3, 0] [(0, .ref (ad (0))), (1, .int (nI (f))), (2, .int (nI (2))), (3, .ref (ad (4 * f + 4)))] dX5_firm_8 (by decide) rfl ?_
  refine zr_aloadn X 3 dX5_firm_9 rfl ?_
  refine zr_ifnonnull X 15 dX5_firm_10 (by decide) ?_
  refine zr_iloadn X 2 dX5_firm_15 rfl ?_
  refine zr_tswI (off := 70) X 86 dX5_firm_16 ⟨by decide +kernel, by decide +kernel, by decide +kernel⟩ (by decide) ?_
  refine zr_aloadn X 3 dX5_firm_86 rfl ?_
  refine zr_dVi (C := RX0) (ci := 0) [] [] X (zK_ok A D tc tF tL tM) (d_oldestHeld E μ (f := f) (by omega)) k_443 k_444 k_445 k_3 k_446 hdX0_oldestHeld ⟨rfl, rfl⟩ ⟨Nat.le_of_ble_eq_true rfl, Nat.le_of_ble_eq_true rfl⟩ (by omega) (sc_firm (j := 0) (i := f) (by omega) (by omega) (by have := cb_0; omega)) rfl rfl rfl (Nat.le_of_ble_eq_true rfl) dX5_firm_87 ?_
  exact zr_iret X dX5_firm_90 ⟨rfl, rfl⟩

set_option maxHeartbeats 4000000 in
set_option maxRecDepth 100000 in
theorem d_firm_3 {l : Launch} {D : va_G} {tc : Nat → ClassId} {ad : Nat → Nat} {A : Nat → Prop} {tF tL tM : Nat} (E : zN 299 A ad) (μ : Nat → Int32) {m c ro z : Nat} (S : clsS μ m c ro z) {f : Nat} (hf : f < c)  : zMi l yX5_firm cX5_firm 4 (some .int) (zrm 5) (zK A D tc tF tL tM) A D vwCl tc ad 299 shC [.ref (ad (0)), .int (nI (f)), .int (nI (3))] μ (fun r u => r = zexW (fun v => μ (32 * f + v + 7)) 20 ∧ u = μ) := by
  refine zM_of RX5 [(0, .ref (ad (0))), (1, .int (nI (f))), (2, .int (nI (3)))] (zK_ok A D tc tF tL tM) E.1 E.2 owC_ok (by decide +kernel) rfl (Nat.le_of_ble_eq_true rfl) rfl ?_
  intro pP eE sS mM aS bL mT cO X
  obtain ⟨hm, hm2, hc, h8, hr, hr4, hz, hz4⟩ := S
  refine zr_aloadn X 0 dX5_firm_0 rfl ?_
  refine zr_get X (ci := 5) (q := 0) (zR _) (.ref (ad (1))) dX5_firm_1 (by omega) sc_0 rfl inX5 (by decide) rfl (zvR rfl) rfl k_215 ?_
  refine zr_iloadn X 1 dX5_firm_4 rfl ?_
  refine zr_dVq (C := RX2) (ci := 2) [.int (nI (f))] [] X (zK_ok A D tc tF tL tM) (d_firmAt0_t E μ (f := f) (hc) h8 (by omega)) k_273 k_274 k_275 k_2 k_276 hdX2_firmAt ⟨rfl, rfl⟩ ⟨Nat.le_of_ble_eq_true rfl, Nat.le_of_ble_eq_true rfl⟩ (by omega) (sc_st (j := 0) (by omega) (by have := cb_0; omega)) rfl rfl rfl (Nat.le_of_ble_eq_true rfl) dX5_firm_5 rfl ?_
  refine zr_astoren X [1, 2, 3, 0] [(0, .ref (ad (0))), (1, .int (nI (f))), (2, .int (nI (3))), (3, .ref (ad (4 * f + 4)))] dX5_firm_8 (by decide) rfl ?_
  refine zr_aloadn X 3 dX5_firm_9 rfl ?_
  refine zr_ifnonnull X 15 dX5_firm_10 (by decide) ?_
  refine zr_iloadn X 2 dX5_firm_15 rfl ?_
  refine zr_tswI (off := 75) X 91 dX5_firm_16 ⟨by decide +kernel, by decide +kernel, by decide +kernel⟩ (by decide) ?_
  refine zr_aloadn X 3 dX5_firm_91 rfl ?_
  refine zr_dVi (C := RX0) (ci := 0) [] [] X (zK_ok A D tc tF tL tM) (d_newestHeld E μ (f := f) (by omega)) k_447 k_448 k_449 k_3 k_450 hdX0_newestHeld ⟨rfl, rfl⟩ ⟨Nat.le_of_ble_eq_true rfl, Nat.le_of_ble_eq_true rfl⟩ (by omega) (sc_firm (j := 0) (i := f) (by omega) (by omega) (by have := cb_0; omega)) rfl rfl rfl (Nat.le_of_ble_eq_true rfl) dX5_firm_92 ?_
  exact zr_iret X dX5_firm_95 ⟨rfl, rfl⟩

set_option maxHeartbeats 4000000 in
set_option maxRecDepth 100000 in
theorem d_firm_4 {l : Launch} {D : va_G} {tc : Nat → ClassId} {ad : Nat → Nat} {A : Nat → Prop} {tF tL tM : Nat} (E : zN 299 A ad) (μ : Nat → Int32) {m c ro z : Nat} (S : clsS μ m c ro z) {f : Nat} (hf : f < c)  : zMi l yX5_firm cX5_firm 4 (some .int) (zrm 5) (zK A D tc tF tL tM) A D vwCl tc ad 299 shC [.ref (ad (0)), .int (nI (f)), .int (nI (4))] μ (fun r u => r = μ (32 * f + 33) ∧ u = μ) := by
  refine zM_of RX5 [(0, .ref (ad (0))), (1, .int (nI (f))), (2, .int (nI (4)))] (zK_ok A D tc tF tL tM) E.1 E.2 owC_ok (by decide +kernel) rfl (Nat.le_of_ble_eq_true rfl) rfl ?_
  intro pP eE sS mM aS bL mT cO X
  obtain ⟨hm, hm2, hc, h8, hr, hr4, hz, hz4⟩ := S
  refine zr_aloadn X 0 dX5_firm_0 rfl ?_
  refine zr_get X (ci := 5) (q := 0) (zR _) (.ref (ad (1))) dX5_firm_1 (by omega) sc_0 rfl inX5 (by decide) rfl (zvR rfl) rfl k_215 ?_
  refine zr_iloadn X 1 dX5_firm_4 rfl ?_
  refine zr_dVq (C := RX2) (ci := 2) [.int (nI (f))] [] X (zK_ok A D tc tF tL tM) (d_firmAt0_t E μ (f := f) (hc) h8 (by omega)) k_273 k_274 k_275 k_2 k_276 hdX2_firmAt ⟨rfl, rfl⟩ ⟨Nat.le_of_ble_eq_true rfl, Nat.le_of_ble_eq_true rfl⟩ (by omega) (sc_st (j := 0) (by omega) (by have := cb_0; omega)) rfl rfl rfl (Nat.le_of_ble_eq_true rfl) dX5_firm_5 rfl ?_
  refine zr_astoren X [1, 2, 3, 0] [(0, .ref (ad (0))), (1, .int (nI (f))), (2, .int (nI (4))), (3, .ref (ad (4 * f + 4)))] dX5_firm_8 (by decide) rfl ?_
  refine zr_aloadn X 3 dX5_firm_9 rfl ?_
  refine zr_ifnonnull X 15 dX5_firm_10 (by decide) ?_
  refine zr_iloadn X 2 dX5_firm_15 rfl ?_
  refine zr_tswI (off := 80) X 96 dX5_firm_16 ⟨by decide +kernel, by decide +kernel, by decide +kernel⟩ (by decide) ?_
  refine zr_aloadn X 3 dX5_firm_96 rfl ?_
  refine zr_get X (ci := 0) (q := 3) zI (.int (μ (32 * f + 33))) dX5_firm_97 (by omega) (sc_firm (j := 0) (i := f) (by omega) (by omega) (by have := cb_0; omega)) rfl inX0 (by decide) rfl (congrArg Value.int (zcg (by omega) (rfl))) rfl k_51 ?_
  exact zr_iret X dX5_firm_100 ⟨rfl, rfl⟩

set_option maxHeartbeats 4000000 in
set_option maxRecDepth 100000 in
theorem d_firm_5 {l : Launch} {D : va_G} {tc : Nat → ClassId} {ad : Nat → Nat} {A : Nat → Prop} {tF tL tM : Nat} (E : zN 299 A ad) (μ : Nat → Int32) {m c ro z : Nat} (S : clsS μ m c ro z) {f : Nat} (hf : f < c)  : zMi l yX5_firm cX5_firm 4 (some .int) (zrm 5) (zK A D tc tF tL tM) A D vwCl tc ad 299 shC [.ref (ad (0)), .int (nI (f)), .int (nI (5))] μ (fun r u => r = μ (32 * f + 34) ∧ u = μ) := by
  refine zM_of RX5 [(0, .ref (ad (0))), (1, .int (nI (f))), (2, .int (nI (5)))] (zK_ok A D tc tF tL tM) E.1 E.2 owC_ok (by decide +kernel) rfl (Nat.le_of_ble_eq_true rfl) rfl ?_
  intro pP eE sS mM aS bL mT cO X
  obtain ⟨hm, hm2, hc, h8, hr, hr4, hz, hz4⟩ := S
  refine zr_aloadn X 0 dX5_firm_0 rfl ?_
  refine zr_get X (ci := 5) (q := 0) (zR _) (.ref (ad (1))) dX5_firm_1 (by omega) sc_0 rfl inX5 (by decide) rfl (zvR rfl) rfl k_215 ?_
  refine zr_iloadn X 1 dX5_firm_4 rfl ?_
  refine zr_dVq (C := RX2) (ci := 2) [.int (nI (f))] [] X (zK_ok A D tc tF tL tM) (d_firmAt0_t E μ (f := f) (hc) h8 (by omega)) k_273 k_274 k_275 k_2 k_276 hdX2_firmAt ⟨rfl, rfl⟩ ⟨Nat.le_of_ble_eq_true rfl, Nat.le_of_ble_eq_true rfl⟩ (by omega) (sc_st (j := 0) (by omega) (by have := cb_0; omega)) rfl rfl rfl (Nat.le_of_ble_eq_true rfl) dX5_firm_5 rfl ?_
  refine zr_astoren X [1, 2, 3, 0] [(0, .ref (ad (0))), (1, .int (nI (f))), (2, .int (nI (5))), (3, .ref (ad (4 * f + 4)))] dX5_firm_8 (by decide) rfl ?_
  refine zr_aloadn X 3 dX5_firm_9 rfl ?_
  refine zr_ifnonnull X 15 dX5_firm_10 (by decide) ?_
  refine zr_iloadn X 2 dX5_firm_15 rfl ?_
  refine zr_tswI (off := 85) X 101 dX5_firm_16 ⟨by decide +kernel, by decide +kernel, by decide +kernel⟩ (by decide) ?_
  refine zr_aloadn X 3 dX5_firm_101 rfl ?_
  refine zr_get X (ci := 0) (q := 4) zI (.int (μ (32 * f + 34))) dX5_firm_102 (by omega) (sc_firm (j := 0) (i := f) (by omega) (by omega) (by have := cb_0; omega)) rfl inX0 (by decide) rfl (congrArg Value.int (zcg (by omega) (rfl))) rfl k_53 ?_
  exact zr_iret X dX5_firm_105 ⟨rfl, rfl⟩

set_option maxHeartbeats 4000000 in
set_option maxRecDepth 100000 in
theorem d_firm_6 {l : Launch} {D : va_G} {tc : Nat → ClassId} {ad : Nat → Nat} {A : Nat → Prop} {tF tL tM : Nat} (E : zN 299 A ad) (μ : Nat → Int32) {m c ro z : Nat} (S : clsS μ m c ro z) {f : Nat} (hf : f < c)  : zMi l yX5_firm cX5_firm 4 (some .int) (zrm 5) (zK A D tc tF tL tM) A D vwCl tc ad 299 shC [.ref (ad (0)), .int (nI (f)), .int (nI (6))] μ (fun r u => r = μ (32 * f + 35) ∧ u = μ) := by
  refine zM_of RX5 [(0, .ref (ad (0))), (1, .int (nI (f))), (2, .int (nI (6)))] (zK_ok A D tc tF tL tM) E.1 E.2 owC_ok (by decide +kernel) rfl (Nat.le_of_ble_eq_true rfl) rfl ?_
  intro pP eE sS mM aS bL mT cO X
  obtain ⟨hm, hm2, hc, h8, hr, hr4, hz, hz4⟩ := S
  refine zr_aloadn X 0 dX5_firm_0 rfl ?_
  refine zr_get X (ci := 5) (q := 0) (zR _) (.ref (ad (1))) dX5_firm_1 (by omega) sc_0 rfl inX5 (by decide) rfl (zvR rfl) rfl k_215 ?_
  refine zr_iloadn X 1 dX5_firm_4 rfl ?_
  refine zr_dVq (C := RX2) (ci := 2) [.int (nI (f))] [] X (zK_ok A D tc tF tL tM) (d_firmAt0_t E μ (f := f) (hc) h8 (by omega)) k_273 k_274 k_275 k_2 k_276 hdX2_firmAt ⟨rfl, rfl⟩ ⟨Nat.le_of_ble_eq_true rfl, Nat.le_of_ble_eq_true rfl⟩ (by omega) (sc_st (j := 0) (by omega) (by have := cb_0; omega)) rfl rfl rfl (Nat.le_of_ble_eq_true rfl) dX5_firm_5 rfl ?_
  refine zr_astoren X [1, 2, 3, 0] [(0, .ref (ad (0))), (1, .int (nI (f))), (2, .int (nI (6))), (3, .ref (ad (4 * f + 4)))] dX5_firm_8 (by decide) rfl ?_
  refine zr_aloadn X 3 dX5_firm_9 rfl ?_
  refine zr_ifnonnull X 15 dX5_firm_10 (by decide) ?_
  refine zr_iloadn X 2 dX5_firm_15 rfl ?_
  refine zr_tswI (off := 90) X 106 dX5_firm_16 ⟨by decide +kernel, by decide +kernel, by decide +kernel⟩ (by decide) ?_
  refine zr_aloadn X 3 dX5_firm_106 rfl ?_
  refine zr_get X (ci := 0) (q := 5) zI (.int (μ (32 * f + 35))) dX5_firm_107 (by omega) (sc_firm (j := 0) (i := f) (by omega) (by omega) (by have := cb_0; omega)) rfl inX0 (by decide) rfl (congrArg Value.int (zcg (by omega) (rfl))) rfl k_55 ?_
  exact zr_iret X dX5_firm_110 ⟨rfl, rfl⟩

set_option maxHeartbeats 4000000 in
set_option maxRecDepth 100000 in
theorem d_firm_7 {l : Launch} {D : va_G} {tc : Nat → ClassId} {ad : Nat → Nat} {A : Nat → Prop} {tF tL tM : Nat} (E : zN 299 A ad) (μ : Nat → Int32) {m c ro z : Nat} (S : clsS μ m c ro z) {f : Nat} (hf : f < c)  : zMi l yX5_firm cX5_firm 4 (some .int) (zrm 5) (zK A D tc tF tL tM) A D vwCl tc ad 299 shC [.ref (ad (0)), .int (nI (f)), .int (nI (7))] μ (fun r u => r = μ (32 * f + 36) ∧ u = μ) := by
  refine zM_of RX5 [(0, .ref (ad (0))), (1, .int (nI (f))), (2, .int (nI (7)))] (zK_ok A D tc tF tL tM) E.1 E.2 owC_ok (by decide +kernel) rfl (Nat.le_of_ble_eq_true rfl) rfl ?_
  intro pP eE sS mM aS bL mT cO X
  obtain ⟨hm, hm2, hc, h8, hr, hr4, hz, hz4⟩ := S
  refine zr_aloadn X 0 dX5_firm_0 rfl ?_
  refine zr_get X (ci := 5) (q := 0) (zR _) (.ref (ad (1))) dX5_firm_1 (by omega) sc_0 rfl inX5 (by decide) rfl (zvR rfl) rfl k_215 ?_
  refine zr_iloadn X 1 dX5_firm_4 rfl ?_
  refine zr_dVq (C := RX2) (ci := 2) [.int (nI (f))] [] X (zK_ok A D tc tF tL tM) (d_firmAt0_t E μ (f := f) (hc) h8 (by omega)) k_273 k_274 k_275 k_2 k_276 hdX2_firmAt ⟨rfl, rfl⟩ ⟨Nat.le_of_ble_eq_true rfl, Nat.le_of_ble_eq_true rfl⟩ (by omega) (sc_st (j := 0) (by omega) (by have := cb_0; omega)) rfl rfl rfl (Nat.le_of_ble_eq_true rfl) dX5_firm_5 rfl ?_
  refine zr_astoren X [1, 2, 3, 0] [(0, .ref (ad (0))), (1, .int (nI (f))), (2, .int (nI (7))), (3, .ref (ad (4 * f + 4)))] dX5_firm_8 (by decide) rfl ?_
  refine zr_aloadn X 3 dX5_firm_9 rfl ?_
  refine zr_ifnonnull X 15 dX5_firm_10 (by decide) ?_
  refine zr_iloadn X 2 dX5_firm_15 rfl ?_
  refine zr_tswI (off := 95) X 111 dX5_firm_16 ⟨by decide +kernel, by decide +kernel, by decide +kernel⟩ (by decide) ?_
  refine zr_aloadn X 3 dX5_firm_111 rfl ?_
  refine zr_get X (ci := 0) (q := 6) zI (.int (μ (32 * f + 36))) dX5_firm_112 (by omega) (sc_firm (j := 0) (i := f) (by omega) (by omega) (by have := cb_0; omega)) rfl inX0 (by decide) rfl (congrArg Value.int (zcg (by omega) (rfl))) rfl k_58 ?_
  exact zr_iret X dX5_firm_115 ⟨rfl, rfl⟩

set_option maxHeartbeats 4000000 in
set_option maxRecDepth 100000 in
theorem d_firm_8 {l : Launch} {D : va_G} {tc : Nat → ClassId} {ad : Nat → Nat} {A : Nat → Prop} {tF tL tM : Nat} (E : zN 299 A ad) (μ : Nat → Int32) {m c ro z : Nat} (S : clsS μ m c ro z) {f : Nat} (hf : f < c)  : zMi l yX5_firm cX5_firm 4 (some .int) (zrm 5) (zK A D tc tF tL tM) A D vwCl tc ad 299 shC [.ref (ad (0)), .int (nI (f)), .int (nI (8))] μ (fun r u => r = μ (32 * f + 37) ∧ u = μ) := by
  refine zM_of RX5 [(0, .ref (ad (0))), (1, .int (nI (f))), (2, .int (nI (8)))] (zK_ok A D tc tF tL tM) E.1 E.2 owC_ok (by decide +kernel) rfl (Nat.le_of_ble_eq_true rfl) rfl ?_
  intro pP eE sS mM aS bL mT cO X
  obtain ⟨hm, hm2, hc, h8, hr, hr4, hz, hz4⟩ := S
  refine zr_aloadn X 0 dX5_firm_0 rfl ?_
  refine zr_get X (ci := 5) (q := 0) (zR _) (.ref (ad (1))) dX5_firm_1 (by omega) sc_0 rfl inX5 (by decide) rfl (zvR rfl) rfl k_215 ?_
  refine zr_iloadn X 1 dX5_firm_4 rfl ?_
  refine zr_dVq (C := RX2) (ci := 2) [.int (nI (f))] [] X (zK_ok A D tc tF tL tM) (d_firmAt0_t E μ (f := f) (hc) h8 (by omega)) k_273 k_274 k_275 k_2 k_276 hdX2_firmAt ⟨rfl, rfl⟩ ⟨Nat.le_of_ble_eq_true rfl, Nat.le_of_ble_eq_true rfl⟩ (by omega) (sc_st (j := 0) (by omega) (by have := cb_0; omega)) rfl rfl rfl (Nat.le_of_ble_eq_true rfl) dX5_firm_5 rfl ?_
  refine zr_astoren X [1, 2, 3, 0] [(0, .ref (ad (0))), (1, .int (nI (f))), (2, .int (nI (8))), (3, .ref (ad (4 * f + 4)))] dX5_firm_8 (by decide) rfl ?_
  refine zr_aloadn X 3 dX5_firm_9 rfl ?_
  refine zr_ifnonnull X 15 dX5_firm_10 (by decide) ?_
  refine zr_iloadn X 2 dX5_firm_15 rfl ?_
  refine zr_tswI (off := 100) X 116 dX5_firm_16 ⟨by decide +kernel, by decide +kernel, by decide +kernel⟩ (by decide) ?_
  refine zr_aloadn X 3 dX5_firm_116 rfl ?_
  refine zr_get X (ci := 0) (q := 7) zI (.int (μ (32 * f + 37))) dX5_firm_117 (by omega) (sc_firm (j := 0) (i := f) (by omega) (by omega) (by have := cb_0; omega)) rfl inX0 (by decide) rfl (congrArg Value.int (zcg (by omega) (rfl))) rfl k_59 ?_
  exact zr_iret X dX5_firm_120 ⟨rfl, rfl⟩

set_option maxHeartbeats 4000000 in
set_option maxRecDepth 100000 in
theorem d_firm_9 {l : Launch} {D : va_G} {tc : Nat → ClassId} {ad : Nat → Nat} {A : Nat → Prop} {tF tL tM : Nat} (E : zN 299 A ad) (μ : Nat → Int32) {m c ro z : Nat} (S : clsS μ m c ro z) {f : Nat} (hf : f < c)  : zMi l yX5_firm cX5_firm 4 (some .int) (zrm 5) (zK A D tc tF tL tM) A D vwCl tc ad 299 shC [.ref (ad (0)), .int (nI (f)), .int (nI (9))] μ (fun r u => r = μ (32 * f + 38) ∧ u = μ) := by
  refine zM_of RX5 [(0, .ref (ad (0))), (1, .int (nI (f))), (2, .int (nI (9)))] (zK_ok A D tc tF tL tM) E.1 E.2 owC_ok (by decide +kernel) rfl (Nat.le_of_ble_eq_true rfl) rfl ?_
  intro pP eE sS mM aS bL mT cO X
  obtain ⟨hm, hm2, hc, h8, hr, hr4, hz, hz4⟩ := S
  refine zr_aloadn X 0 dX5_firm_0 rfl ?_
  refine zr_get X (ci := 5) (q := 0) (zR _) (.ref (ad (1))) dX5_firm_1 (by omega) sc_0 rfl inX5 (by decide) rfl (zvR rfl) rfl k_215 ?_
  refine zr_iloadn X 1 dX5_firm_4 rfl ?_
  refine zr_dVq (C := RX2) (ci := 2) [.int (nI (f))] [] X (zK_ok A D tc tF tL tM) (d_firmAt0_t E μ (f := f) (hc) h8 (by omega)) k_273 k_274 k_275 k_2 k_276 hdX2_firmAt ⟨rfl, rfl⟩ ⟨Nat.le_of_ble_eq_true rfl, Nat.le_of_ble_eq_true rfl⟩ (by omega) (sc_st (j := 0) (by omega) (by have := cb_0; omega)) rfl rfl rfl (Nat.le_of_ble_eq_true rfl) dX5_firm_5 rfl ?_
  refine zr_astoren X [1, 2, 3, 0] [(0, .ref (ad (0))), (1, .int (nI (f))), (2, .int (nI (9))), (3, .ref (ad (4 * f + 4)))] dX5_firm_8 (by decide) rfl ?_
  refine zr_aloadn X 3 dX5_firm_9 rfl ?_
  refine zr_ifnonnull X 15 dX5_firm_10 (by decide) ?_
  refine zr_iloadn X 2 dX5_firm_15 rfl ?_
  refine zr_tswI (off := 105) X 121 dX5_firm_16 ⟨by decide +kernel, by decide +kernel, by decide +kernel⟩ (by decide) ?_
  refine zr_aloadn X 3 dX5_firm_121 rfl ?_
  refine zr_get X (ci := 0) (q := 8) zI (.int (μ (32 * f + 38))) dX5_firm_122 (by omega) (sc_firm (j := 0) (i := f) (by omega) (by omega) (by have := cb_0; omega)) rfl inX0 (by decide) rfl (congrArg Value.int (zcg (by omega) (rfl))) rfl k_61 ?_
  exact zr_iret X dX5_firm_125 ⟨rfl, rfl⟩

set_option maxHeartbeats 4000000 in
set_option maxRecDepth 100000 in
theorem d_firm_10 {l : Launch} {D : va_G} {tc : Nat → ClassId} {ad : Nat → Nat} {A : Nat → Prop} {tF tL tM : Nat} (E : zN 299 A ad) (μ : Nat → Int32) {m c ro z : Nat} (S : clsS μ m c ro z) {f : Nat} (hf : f < c)  : zMi l yX5_firm cX5_firm 4 (some .int) (zrm 5) (zK A D tc tF tL tM) A D vwCl tc ad 299 shC [.ref (ad (0)), .int (nI (f)), .int (nI (10))] μ (fun r u => r = zmax (nI 0) (μ (32 * f + 36) - zsdC μ f 3) ∧ u = μ) := by
  refine zM_of RX5 [(0, .ref (ad (0))), (1, .int (nI (f))), (2, .int (nI (10)))] (zK_ok A D tc tF tL tM) E.1 E.2 owC_ok (by decide +kernel) rfl (Nat.le_of_ble_eq_true rfl) rfl ?_
  intro pP eE sS mM aS bL mT cO X
  obtain ⟨hm, hm2, hc, h8, hr, hr4, hz, hz4⟩ := S
  refine zr_aloadn X 0 dX5_firm_0 rfl ?_
  refine zr_get X (ci := 5) (q := 0) (zR _) (.ref (ad (1))) dX5_firm_1 (by omega) sc_0 rfl inX5 (by decide) rfl (zvR rfl) rfl k_215 ?_
  refine zr_iloadn X 1 dX5_firm_4 rfl ?_
  refine zr_dVq (C := RX2) (ci := 2) [.int (nI (f))] [] X (zK_ok A D tc tF tL tM) (d_firmAt0_t E μ (f := f) (hc) h8 (by omega)) k_273 k_274 k_275 k_2 k_276 hdX2_firmAt ⟨rfl, rfl⟩ ⟨Nat.le_of_ble_eq_true rfl, Nat.le_of_ble_eq_true rfl⟩ (by omega) (sc_st (j := 0) (by omega) (by have := cb_0; omega)) rfl rfl rfl (Nat.le_of_ble_eq_true rfl) dX5_firm_5 rfl ?_
  refine zr_astoren X [1, 2, 3, 0] [(0, .ref (ad (0))), (1, .int (nI (f))), (2, .int (nI (10))), (3, .ref (ad (4 * f + 4)))] dX5_firm_8 (by decide) rfl ?_
  refine zr_aloadn X 3 dX5_firm_9 rfl ?_
  refine zr_ifnonnull X 15 dX5_firm_10 (by decide) ?_
  refine zr_iloadn X 2 dX5_firm_15 rfl ?_
  refine zr_tswI (off := 110) X 126 dX5_firm_16 ⟨by decide +kernel, by decide +kernel, by decide +kernel⟩ (by decide) ?_
  refine zr_aloadn X 3 dX5_firm_126 rfl ?_
  refine zr_aloadn X 0 dX5_firm_127 rfl ?_
  refine zr_get X (ci := 5) (q := 0) (zR _) (.ref (ad (1))) dX5_firm_128 (by omega) sc_0 rfl inX5 (by decide) rfl (zvR rfl) rfl k_215 ?_
  refine zr_get X (ci := 2) (q := 2) (zR _) (.ref (ad (2))) dX5_firm_131 (by omega) (sc_st (j := 0) (by omega) (by have := cb_0; omega)) rfl inX2 (by decide) rfl (zvR (by have := cb_0; omega)) rfl k_87 ?_
  refine zr_dVi (C := RX0) (ci := 0) [.ref (ad (2))] [] X (zK_ok A D tc tF tL tM) (d_dueAtBest E μ (f := f) (by omega)) k_451 k_452 k_453 k_3 k_454 hdX0_dueAtBest ⟨rfl, rfl⟩ ⟨Nat.le_of_ble_eq_true rfl, Nat.le_of_ble_eq_true rfl⟩ (by omega) (sc_firm (j := 0) (i := f) (by omega) (by omega) (by have := cb_0; omega)) rfl rfl rfl (Nat.le_of_ble_eq_true rfl) dX5_firm_134 ?_
  exact zr_iret X dX5_firm_137 ⟨rfl, rfl⟩

set_option maxHeartbeats 4000000 in
set_option maxRecDepth 100000 in
theorem d_holds_u1 {l : Launch} {D : va_G} {tc : Nat → ClassId} {ad : Nat → Nat} {A : Nat → Prop} {tF tL tM : Nat} (E : zN 299 A ad) (μ : Nat → Int32) {m c ro z : Nat} (S : clsS μ m c ro z) {x : Int32} (hx : ¬ zfm x c) (y : Int32)  : zMi l yX5_holds cX5_holds 4 (some .int) (zrm 5) (zK A D tc tF tL tM) A D vwCl tc ad 299 shC [.ref (ad (0)), .int (x), .int (y)] μ (fun r u => r = -1 ∧ u = μ) := by
  refine zM_of RX5 [(0, .ref (ad (0))), (1, .int (x)), (2, .int (y))] (zK_ok A D tc tF tL tM) E.1 E.2 owC_ok (by decide +kernel) rfl (Nat.le_of_ble_eq_true rfl) rfl ?_
  intro pP eE sS mM aS bL mT cO X
  obtain ⟨hm, hm2, hc, h8, hr, hr4, hz, hz4⟩ := S
  refine zr_aloadn X 0 dX5_holds_0 rfl ?_
  refine zr_get X (ci := 5) (q := 0) (zR _) (.ref (ad (1))) dX5_holds_1 (by omega) sc_0 rfl inX5 (by decide) rfl (zvR rfl) rfl k_215 ?_
  refine zr_iloadn X 1 dX5_holds_4 rfl ?_
  refine zr_dVq (C := RX2) (ci := 2) [.int (x)] [] X (zK_ok A D tc tF tL tM) (d_firmAt0_f E μ (hc) h8 hx) k_273 k_274 k_275 k_2 k_276 hdX2_firmAt ⟨rfl, rfl⟩ ⟨Nat.le_of_ble_eq_true rfl, Nat.le_of_ble_eq_true rfl⟩ (by omega) (sc_st (j := 0) (by omega) (by have := cb_0; omega)) rfl rfl rfl (Nat.le_of_ble_eq_true rfl) dX5_holds_5 rfl ?_
  refine zr_astorenN X [1, 2, 3, 0] [(0, .ref (ad (0))), (1, .int (x)), (2, .int (y)), (3, .null)] dX5_holds_8 (by decide) rfl ?_
  refine zr_aloadnN X 3 dX5_holds_9 rfl ?_
  refine zr_ifnullN X 20 dX5_holds_10 (by decide) ?_
  refine zr_iconst X (-1) dX5_holds_20 (by decide +kernel) ?_
  exact zr_iret X dX5_holds_21 ⟨rfl, rfl⟩

set_option maxHeartbeats 4000000 in
set_option maxRecDepth 100000 in
theorem d_holds_u2 {l : Launch} {D : va_G} {tc : Nat → ClassId} {ad : Nat → Nat} {A : Nat → Prop} {tF tL tM : Nat} (E : zN 299 A ad) (μ : Nat → Int32) {m c ro z : Nat} (S : clsS μ m c ro z) {f : Nat} (hf : f < c) {x : Int32} (hx : ¬ zin x 0 19)  : zMi l yX5_holds cX5_holds 4 (some .int) (zrm 5) (zK A D tc tF tL tM) A D vwCl tc ad 299 shC [.ref (ad (0)), .int (nI (f)), .int (x)] μ (fun r u => r = -1 ∧ u = μ) := by
  refine zM_of RX5 [(0, .ref (ad (0))), (1, .int (nI (f))), (2, .int (x))] (zK_ok A D tc tF tL tM) E.1 E.2 owC_ok (by decide +kernel) rfl (Nat.le_of_ble_eq_true rfl) rfl ?_
  intro pP eE sS mM aS bL mT cO X
  obtain ⟨hm, hm2, hc, h8, hr, hr4, hz, hz4⟩ := S
  refine zr_aloadn X 0 dX5_holds_0 rfl ?_
  refine zr_get X (ci := 5) (q := 0) (zR _) (.ref (ad (1))) dX5_holds_1 (by omega) sc_0 rfl inX5 (by decide) rfl (zvR rfl) rfl k_215 ?_
  refine zr_iloadn X 1 dX5_holds_4 rfl ?_
  refine zr_dVq (C := RX2) (ci := 2) [.int (nI (f))] [] X (zK_ok A D tc tF tL tM) (d_firmAt0_t E μ (f := f) (hc) h8 (by omega)) k_273 k_274 k_275 k_2 k_276 hdX2_firmAt ⟨rfl, rfl⟩ ⟨Nat.le_of_ble_eq_true rfl, Nat.le_of_ble_eq_true rfl⟩ (by omega) (sc_st (j := 0) (by omega) (by have := cb_0; omega)) rfl rfl rfl (Nat.le_of_ble_eq_true rfl) dX5_holds_5 rfl ?_
  refine zr_astoren X [1, 2, 3, 0] [(0, .ref (ad (0))), (1, .int (nI (f))), (2, .int (x)), (3, .ref (ad (4 * f + 4)))] dX5_holds_8 (by decide) rfl ?_
  refine zr_aloadn X 3 dX5_holds_9 rfl ?_
  refine zr_ifnull X dX5_holds_10 ?_
  refine zr_iloadn X 2 dX5_holds_13 rfl ?_
  refine zr_dSi [.int (x)] [] X (zK_ok A D tc tF tL tM) (d_isVintage_f E μ hx) k_316 k_301 k_1 k_302 hdX5_isVintage ⟨rfl, rfl⟩ ⟨Nat.le_of_ble_eq_true rfl, Nat.le_of_ble_eq_true rfl⟩ rfl rfl (Nat.le_of_ble_eq_true rfl) dX5_holds_14 ?_
  refine zr_if_ne X 22 dX5_holds_17 (by decide) (fun q => absurd (zq_eq0 (by omega)) q) (fun _ => ?_)
  refine zr_iconst X (-1) dX5_holds_20 (by decide +kernel) ?_
  exact zr_iret X dX5_holds_21 ⟨rfl, rfl⟩

set_option maxHeartbeats 4000000 in
set_option maxRecDepth 100000 in
theorem d_holds_ok {l : Launch} {D : va_G} {tc : Nat → ClassId} {ad : Nat → Nat} {A : Nat → Prop} {tF tL tM : Nat} (E : zN 299 A ad) (μ : Nat → Int32) {m c ro z : Nat} (S : clsS μ m c ro z) {f : Nat} (hf : f < c) {v : Nat} (hv : v ≤ 19)  : zMi l yX5_holds cX5_holds 4 (some .int) (zrm 5) (zK A D tc tF tL tM) A D vwCl tc ad 299 shC [.ref (ad (0)), .int (nI (f)), .int (nI (v))] μ (fun r u => r = μ (32 * f + v + 7) ∧ u = μ) := by
  refine zM_of RX5 [(0, .ref (ad (0))), (1, .int (nI (f))), (2, .int (nI (v)))] (zK_ok A D tc tF tL tM) E.1 E.2 owC_ok (by decide +kernel) rfl (Nat.le_of_ble_eq_true rfl) rfl ?_
  intro pP eE sS mM aS bL mT cO X
  obtain ⟨hm, hm2, hc, h8, hr, hr4, hz, hz4⟩ := S
  refine zr_aloadn X 0 dX5_holds_0 rfl ?_
  refine zr_get X (ci := 5) (q := 0) (zR _) (.ref (ad (1))) dX5_holds_1 (by omega) sc_0 rfl inX5 (by decide) rfl (zvR rfl) rfl k_215 ?_
  refine zr_iloadn X 1 dX5_holds_4 rfl ?_
  refine zr_dVq (C := RX2) (ci := 2) [.int (nI (f))] [] X (zK_ok A D tc tF tL tM) (d_firmAt0_t E μ (f := f) (hc) h8 (by omega)) k_273 k_274 k_275 k_2 k_276 hdX2_firmAt ⟨rfl, rfl⟩ ⟨Nat.le_of_ble_eq_true rfl, Nat.le_of_ble_eq_true rfl⟩ (by omega) (sc_st (j := 0) (by omega) (by have := cb_0; omega)) rfl rfl rfl (Nat.le_of_ble_eq_true rfl) dX5_holds_5 rfl ?_
  refine zr_astoren X [1, 2, 3, 0] [(0, .ref (ad (0))), (1, .int (nI (f))), (2, .int (nI (v))), (3, .ref (ad (4 * f + 4)))] dX5_holds_8 (by decide) rfl ?_
  refine zr_aloadn X 3 dX5_holds_9 rfl ?_
  refine zr_ifnull X dX5_holds_10 ?_
  refine zr_iloadn X 2 dX5_holds_13 rfl ?_
  refine zr_dSi [.int (nI (v))] [] X (zK_ok A D tc tF tL tM) (d_isVintage_t E μ (by omega) (by omega)) k_316 k_301 k_1 k_302 hdX5_isVintage ⟨rfl, rfl⟩ ⟨Nat.le_of_ble_eq_true rfl, Nat.le_of_ble_eq_true rfl⟩ rfl rfl (Nat.le_of_ble_eq_true rfl) dX5_holds_14 ?_
  refine zr_if_ne X 22 dX5_holds_17 (by decide) (fun _ => ?_) (fun q => absurd q (nI_ne0 (by omega) (by omega)))
  refine zr_aloadn X 3 dX5_holds_22 rfl ?_
  refine zr_get X (ci := 0) (q := 0) (zR _) (.ref (ad (4 * f + 5))) dX5_holds_23 (by omega) (sc_firm (j := 0) (i := f) (by omega) (by omega) (by have := cb_0; omega)) rfl inX0 (by decide) rfl (zvR (by have := cb_0; omega)) rfl k_42 ?_
  refine zr_iloadn X 2 dX5_holds_26 rfl ?_
  refine zr_iald X (j := v) 0 (μ (32 * f + v + 7)) dX5_holds_27 (by omega) (sc_held (j := 0) (i := f) (by omega) (by omega) (by have := cb_0; omega)) rfl rfl (by omega) (by omega) (zcg (b := 32 * f + v + 7) (by omega) (rfl)) ?_
  exact zr_iret X dX5_holds_28 ⟨rfl, rfl⟩

set_option maxHeartbeats 4000000 in
set_option maxRecDepth 100000 in
theorem d_offsets_u1 {l : Launch} {D : va_G} {tc : Nat → ClassId} {ad : Nat → Nat} {A : Nat → Prop} {tF tL tM : Nat} (E : zN 299 A ad) (μ : Nat → Int32) {m c ro z : Nat} (S : clsS μ m c ro z) {x : Int32} (hx : ¬ zfm x c) (g : Int32) (y : Int32)  : zMi l yX5_offsets cX5_offsets 5 (some .int) (zrm 5) (zK A D tc tF tL tM) A D vwCl tc ad 299 shC [.ref (ad (0)), .int (x), .int (g), .int (y)] μ (fun r u => r = -1 ∧ u = μ) := by
  refine zM_of RX5 [(0, .ref (ad (0))), (1, .int (x)), (2, .int (g)), (3, .int (y))] (zK_ok A D tc tF tL tM) E.1 E.2 owC_ok (by decide +kernel) rfl (Nat.le_of_ble_eq_true rfl) rfl ?_
  intro pP eE sS mM aS bL mT cO X
  obtain ⟨hm, hm2, hc, h8, hr, hr4, hz, hz4⟩ := S
  refine zr_aloadn X 0 dX5_offsets_0 rfl ?_
  refine zr_get X (ci := 5) (q := 0) (zR _) (.ref (ad (1))) dX5_offsets_1 (by omega) sc_0 rfl inX5 (by decide) rfl (zvR rfl) rfl k_215 ?_
  refine zr_iloadn X 1 dX5_offsets_4 rfl ?_
  refine zr_dVq (C := RX2) (ci := 2) [.int (x)] [] X (zK_ok A D tc tF tL tM) (d_firmAt0_f E μ (hc) h8 hx) k_273 k_274 k_275 k_2 k_276 hdX2_firmAt ⟨rfl, rfl⟩ ⟨Nat.le_of_ble_eq_true rfl, Nat.le_of_ble_eq_true rfl⟩ (by omega) (sc_st (j := 0) (by omega) (by have := cb_0; omega)) rfl rfl rfl (Nat.le_of_ble_eq_true rfl) dX5_offsets_5 rfl ?_
  refine zr_astoreN X [1, 2, 3, 4, 0] [(0, .ref (ad (0))), (1, .int (x)), (2, .int (g)), (3, .int (y)), (4, .null)] dX5_offsets_8 (by decide) rfl ?_
  refine zr_aloadN X 4 dX5_offsets_10 rfl ?_
  refine zr_ifnullN X 22 dX5_offsets_12 (by decide) ?_
  refine zr_iconst X (-1) dX5_offsets_22 (by decide +kernel) ?_
  exact zr_iret X dX5_offsets_23 ⟨rfl, rfl⟩

set_option maxHeartbeats 4000000 in
set_option maxRecDepth 100000 in
theorem d_offsets_u2 {l : Launch} {D : va_G} {tc : Nat → ClassId} {ad : Nat → Nat} {A : Nat → Prop} {tF tL tM : Nat} (E : zN 299 A ad) (μ : Nat → Int32) {m c ro z : Nat} (S : clsS μ m c ro z) {f : Nat} (hf : f < c) {x : Int32} (hx : ¬ zin x 0 2) (y : Int32)  : zMi l yX5_offsets cX5_offsets 5 (some .int) (zrm 5) (zK A D tc tF tL tM) A D vwCl tc ad 299 shC [.ref (ad (0)), .int (nI (f)), .int (x), .int (y)] μ (fun r u => r = -1 ∧ u = μ) := by
  refine zM_of RX5 [(0, .ref (ad (0))), (1, .int (nI (f))), (2, .int (x)), (3, .int (y))] (zK_ok A D tc tF tL tM) E.1 E.2 owC_ok (by decide +kernel) rfl (Nat.le_of_ble_eq_true rfl) rfl ?_
  intro pP eE sS mM aS bL mT cO X
  obtain ⟨hm, hm2, hc, h8, hr, hr4, hz, hz4⟩ := S
  refine zr_aloadn X 0 dX5_offsets_0 rfl ?_
  refine zr_get X (ci := 5) (q := 0) (zR _) (.ref (ad (1))) dX5_offsets_1 (by omega) sc_0 rfl inX5 (by decide) rfl (zvR rfl) rfl k_215 ?_
  refine zr_iloadn X 1 dX5_offsets_4 rfl ?_
  refine zr_dVq (C := RX2) (ci := 2) [.int (nI (f))] [] X (zK_ok A D tc tF tL tM) (d_firmAt0_t E μ (f := f) (hc) h8 (by omega)) k_273 k_274 k_275 k_2 k_276 hdX2_firmAt ⟨rfl, rfl⟩ ⟨Nat.le_of_ble_eq_true rfl, Nat.le_of_ble_eq_true rfl⟩ (by omega) (sc_st (j := 0) (by omega) (by have := cb_0; omega)) rfl rfl rfl (Nat.le_of_ble_eq_true rfl) dX5_offsets_5 rfl ?_
  refine zr_astore X [1, 2, 3, 4, 0] [(0, .ref (ad (0))), (1, .int (nI (f))), (2, .int (x)), (3, .int (y)), (4, .ref (ad (4 * f + 4)))] dX5_offsets_8 (by decide) rfl ?_
  refine zr_aload X 4 dX5_offsets_10 rfl ?_
  refine zr_ifnull X dX5_offsets_12 ?_
  refine zr_iloadn X 2 dX5_offsets_15 rfl ?_
  refine zr_dSi [.int (x)] [] X (zK_ok A D tc tF tL tM) (d_isGrade_f E μ hx) k_288 k_289 k_1 k_290 hdX5_isGrade ⟨rfl, rfl⟩ ⟨Nat.le_of_ble_eq_true rfl, Nat.le_of_ble_eq_true rfl⟩ rfl rfl (Nat.le_of_ble_eq_true rfl) dX5_offsets_16 ?_
  refine zr_if_ne X 24 dX5_offsets_19 (by decide) (fun q => absurd (zq_eq0 (by omega)) q) (fun _ => ?_)
  refine zr_iconst X (-1) dX5_offsets_22 (by decide +kernel) ?_
  exact zr_iret X dX5_offsets_23 ⟨rfl, rfl⟩

set_option maxHeartbeats 4000000 in
set_option maxRecDepth 100000 in
theorem d_offsets_b {l : Launch} {D : va_G} {tc : Nat → ClassId} {ad : Nat → Nat} {A : Nat → Prop} {tF tL tM : Nat} (E : zN 299 A ad) (μ : Nat → Int32) {m c ro z : Nat} (S : clsS μ m c ro z) {f : Nat} (hf : f < c) {g : Nat} (hg : g ≤ 2) {x : Int32} (hx : ¬ zin x 0 2)  : zMi l yX5_offsets cX5_offsets 5 (some .int) (zrm 5) (zK A D tc tF tL tM) A D vwCl tc ad 299 shC [.ref (ad (0)), .int (nI (f)), .int (nI (g)), .int (x)] μ (fun r u => r = -2 ∧ u = μ) := by
  refine zM_of RX5 [(0, .ref (ad (0))), (1, .int (nI (f))), (2, .int (nI (g))), (3, .int (x))] (zK_ok A D tc tF tL tM) E.1 E.2 owC_ok (by decide +kernel) rfl (Nat.le_of_ble_eq_true rfl) rfl ?_
  intro pP eE sS mM aS bL mT cO X
  obtain ⟨hm, hm2, hc, h8, hr, hr4, hz, hz4⟩ := S
  refine zr_aloadn X 0 dX5_offsets_0 rfl ?_
  refine zr_get X (ci := 5) (q := 0) (zR _) (.ref (ad (1))) dX5_offsets_1 (by omega) sc_0 rfl inX5 (by decide) rfl (zvR rfl) rfl k_215 ?_
  refine zr_iloadn X 1 dX5_offsets_4 rfl ?_
  refine zr_dVq (C := RX2) (ci := 2) [.int (nI (f))] [] X (zK_ok A D tc tF tL tM) (d_firmAt0_t E μ (f := f) (hc) h8 (by omega)) k_273 k_274 k_275 k_2 k_276 hdX2_firmAt ⟨rfl, rfl⟩ ⟨Nat.le_of_ble_eq_true rfl, Nat.le_of_ble_eq_true rfl⟩ (by omega) (sc_st (j := 0) (by omega) (by have := cb_0; omega)) rfl rfl rfl (Nat.le_of_ble_eq_true rfl) dX5_offsets_5 rfl ?_
  refine zr_astore X [1, 2, 3, 4, 0] [(0, .ref (ad (0))), (1, .int (nI (f))), (2, .int (nI (g))), (3, .int (x)), (4, .ref (ad (4 * f + 4)))] dX5_offsets_8 (by decide) rfl ?_
  refine zr_aload X 4 dX5_offsets_10 rfl ?_
  refine zr_ifnull X dX5_offsets_12 ?_
  refine zr_iloadn X 2 dX5_offsets_15 rfl ?_
  refine zr_dSi [.int (nI (g))] [] X (zK_ok A D tc tF tL tM) (d_isGrade_t E μ (by omega) (by omega)) k_288 k_289 k_1 k_290 hdX5_isGrade ⟨rfl, rfl⟩ ⟨Nat.le_of_ble_eq_true rfl, Nat.le_of_ble_eq_true rfl⟩ rfl rfl (Nat.le_of_ble_eq_true rfl) dX5_offsets_16 ?_
  refine zr_if_ne X 24 dX5_offsets_19 (by decide) (fun _ => ?_) (fun q => absurd q (nI_ne0 (by omega) (by omega)))
  refine zr_iloadn X 3 dX5_offsets_24 rfl ?_
  refine zr_tswO X 84 dX5_offsets_25 (zsw_out hx (by omega) rfl rfl) (by decide) ?_
  refine zr_bipush X (-2) dX5_offsets_84 (by decide +kernel) ?_
  exact zr_iret X dX5_offsets_86 ⟨rfl, rfl⟩

set_option maxHeartbeats 4000000 in
set_option maxRecDepth 100000 in
theorem d_offsets_0 {l : Launch} {D : va_G} {tc : Nat → ClassId} {ad : Nat → Nat} {A : Nat → Prop} {tF tL tM : Nat} (E : zN 299 A ad) (μ : Nat → Int32) {m c ro z : Nat} (S : clsS μ m c ro z) {f : Nat} (hf : f < c) {g : Nat} (hg : g ≤ 2)  : zMi l yX5_offsets cX5_offsets 5 (some .int) (zrm 5) (zK A D tc tF tL tM) A D vwCl tc ad 299 shC [.ref (ad (0)), .int (nI (f)), .int (nI (g)), .int (nI (0))] μ (fun r u => r = μ (32 * f + g + 27) ∧ u = μ) := by
  refine zM_of RX5 [(0, .ref (ad (0))), (1, .int (nI (f))), (2, .int (nI (g))), (3, .int (nI (0)))] (zK_ok A D tc tF tL tM) E.1 E.2 owC_ok (by decide +kernel) rfl (Nat.le_of_ble_eq_true rfl) rfl ?_
  intro pP eE sS mM aS bL mT cO X
  obtain ⟨hm, hm2, hc, h8, hr, hr4, hz, hz4⟩ := S
  refine zr_aloadn X 0 dX5_offsets_0 rfl ?_
  refine zr_get X (ci := 5) (q := 0) (zR _) (.ref (ad (1))) dX5_offsets_1 (by omega) sc_0 rfl inX5 (by decide) rfl (zvR rfl) rfl k_215 ?_
  refine zr_iloadn X 1 dX5_offsets_4 rfl ?_
  refine zr_dVq (C := RX2) (ci := 2) [.int (nI (f))] [] X (zK_ok A D tc tF tL tM) (d_firmAt0_t E μ (f := f) (hc) h8 (by omega)) k_273 k_274 k_275 k_2 k_276 hdX2_firmAt ⟨rfl, rfl⟩ ⟨Nat.le_of_ble_eq_true rfl, Nat.le_of_ble_eq_true rfl⟩ (by omega) (sc_st (j := 0) (by omega) (by have := cb_0; omega)) rfl rfl rfl (Nat.le_of_ble_eq_true rfl) dX5_offsets_5 rfl ?_
  refine zr_astore X [1, 2, 3, 4, 0] [(0, .ref (ad (0))), (1, .int (nI (f))), (2, .int (nI (g))), (3, .int (nI (0))), (4, .ref (ad (4 * f + 4)))] dX5_offsets_8 (by decide) rfl ?_
  refine zr_aload X 4 dX5_offsets_10 rfl ?_
  refine zr_ifnull X dX5_offsets_12 ?_
  refine zr_iloadn X 2 dX5_offsets_15 rfl ?_
  refine zr_dSi [.int (nI (g))] [] X (zK_ok A D tc tF tL tM) (d_isGrade_t E μ (by omega) (by omega)) k_288 k_289 k_1 k_290 hdX5_isGrade ⟨rfl, rfl⟩ ⟨Nat.le_of_ble_eq_true rfl, Nat.le_of_ble_eq_true rfl⟩ rfl rfl (Nat.le_of_ble_eq_true rfl) dX5_offsets_16 ?_
  refine zr_if_ne X 24 dX5_offsets_19 (by decide) (fun _ => ?_) (fun q => absurd q (nI_ne0 (by omega) (by omega)))
  refine zr_iloadn X 3 dX5_offsets_24 rfl ?_
  refine zr_tswI (off := 27) X 52 dX5_offsets_25 ⟨by decide +kernel, by decide +kernel, by decide +kernel⟩ (by decide) ?_
  refine zr_aload X 4 dX5_offsets_52 rfl ?_
  refine zr_get X (ci := 0) (q := 1) (zR _) (.ref (ad (4 * f + 6))) dX5_offsets_54 (by omega) (sc_firm (j := 0) (i := f) (by omega) (by omega) (by have := cb_0; omega)) rfl inX0 (by decide) rfl (zvR (by have := cb_0; omega)) rfl k_45 ?_
  refine zr_iloadn X 2 dX5_offsets_57 rfl ?_
  refine zr_iald X (j := g) 0 (μ (32 * f + g + 27)) dX5_offsets_58 (by omega) (sc_off (j := 0) (i := f) (by omega) (by omega) (by have := cb_0; omega)) rfl rfl (by omega) (by omega) (zcg (b := 32 * f + g + 27) (by omega) (rfl)) ?_
  exact zr_iret X dX5_offsets_59 ⟨rfl, rfl⟩

set_option maxHeartbeats 4000000 in
set_option maxRecDepth 100000 in
theorem d_offsets_1 {l : Launch} {D : va_G} {tc : Nat → ClassId} {ad : Nat → Nat} {A : Nat → Prop} {tF tL tM : Nat} (E : zN 299 A ad) (μ : Nat → Int32) {m c ro z : Nat} (S : clsS μ m c ro z) {f : Nat} (hf : f < c) {g : Nat} (hg : g ≤ 2)  : zMi l yX5_offsets cX5_offsets 5 (some .int) (zrm 5) (zK A D tc tF tL tM) A D vwCl tc ad 299 shC [.ref (ad (0)), .int (nI (f)), .int (nI (g)), .int (nI (1))] μ (fun r u => r = zmax (nI 0) (μ (32 * f + 35) * μ (g + 2) / nI 100 - μ (32 * f + g + 30)) ∧ u = μ) := by
  refine zM_of RX5 [(0, .ref (ad (0))), (1, .int (nI (f))), (2, .int (nI (g))), (3, .int (nI (1)))] (zK_ok A D tc tF tL tM) E.1 E.2 owC_ok (by decide +kernel) rfl (Nat.le_of_ble_eq_true rfl) rfl ?_
  intro pP eE sS mM aS bL mT cO X
  obtain ⟨hm, hm2, hc, h8, hr, hr4, hz, hz4⟩ := S
  refine zr_aloadn X 0 dX5_offsets_0 rfl ?_
  refine zr_get X (ci := 5) (q := 0) (zR _) (.ref (ad (1))) dX5_offsets_1 (by omega) sc_0 rfl inX5 (by decide) rfl (zvR rfl) rfl k_215 ?_
  refine zr_iloadn X 1 dX5_offsets_4 rfl ?_
  refine zr_dVq (C := RX2) (ci := 2) [.int (nI (f))] [] X (zK_ok A D tc tF tL tM) (d_firmAt0_t E μ (f := f) (hc) h8 (by omega)) k_273 k_274 k_275 k_2 k_276 hdX2_firmAt ⟨rfl, rfl⟩ ⟨Nat.le_of_ble_eq_true rfl, Nat.le_of_ble_eq_true rfl⟩ (by omega) (sc_st (j := 0) (by omega) (by have := cb_0; omega)) rfl rfl rfl (Nat.le_of_ble_eq_true rfl) dX5_offsets_5 rfl ?_
  refine zr_astore X [1, 2, 3, 4, 0] [(0, .ref (ad (0))), (1, .int (nI (f))), (2, .int (nI (g))), (3, .int (nI (1))), (4, .ref (ad (4 * f + 4)))] dX5_offsets_8 (by decide) rfl ?_
  refine zr_aload X 4 dX5_offsets_10 rfl ?_
  refine zr_ifnull X dX5_offsets_12 ?_
  refine zr_iloadn X 2 dX5_offsets_15 rfl ?_
  refine zr_dSi [.int (nI (g))] [] X (zK_ok A D tc tF tL tM) (d_isGrade_t E μ (by omega) (by omega)) k_288 k_289 k_1 k_290 hdX5_isGrade ⟨rfl, rfl⟩ ⟨Nat.le_of_ble_eq_true rfl, Nat.le_of_ble_eq_true rfl⟩ rfl rfl (Nat.le_of_ble_eq_true rfl) dX5_offsets_16 ?_
  refine zr_if_ne X 24 dX5_offsets_19 (by decide) (fun _ => ?_) (fun q => absurd q (nI_ne0 (by omega) (by omega)))
  refine zr_iloadn X 3 dX5_offsets_24 rfl ?_
  refine zr_tswI (off := 35) X 60 dX5_offsets_25 ⟨by decide +kernel, by decide +kernel, by decide +kernel⟩ (by decide) ?_
  refine zr_aload X 4 dX5_offsets_60 rfl ?_
  refine zr_iloadn X 2 dX5_offsets_62 rfl ?_
  refine zr_aloadn X 0 dX5_offsets_63 rfl ?_
  refine zr_get X (ci := 5) (q := 0) (zR _) (.ref (ad (1))) dX5_offsets_64 (by omega) sc_0 rfl inX5 (by decide) rfl (zvR rfl) rfl k_215 ?_
  refine zr_get X (ci := 2) (q := 2) (zR _) (.ref (ad (2))) dX5_offsets_67 (by omega) (sc_st (j := 0) (by omega) (by have := cb_0; omega)) rfl inX2 (by decide) rfl (zvR (by have := cb_0; omega)) rfl k_87 ?_
  refine zr_iloadn X 2 dX5_offsets_70 rfl ?_
  refine zr_iald X (j := g) 0 (μ (g + 2)) dX5_offsets_71 (by omega) (sc_set (j := 0) (by omega) (by have := cb_0; omega)) rfl rfl (by omega) (by omega) (zcg (b := g + 2) (by omega) (rfl)) ?_
  refine zr_dVi (C := RX0) (ci := 0) [.int (nI (g)), .int (μ (g + 2))] [] X (zK_ok A D tc tF tL tM) (d_mayUse E μ (f := f) (g := g) (by omega) (by omega) (μ (g + 2))) k_465 k_341 k_342 k_3 k_343 hdX0_mayUse ⟨rfl, rfl⟩ ⟨Nat.le_of_ble_eq_true rfl, Nat.le_of_ble_eq_true rfl⟩ (by omega) (sc_firm (j := 0) (i := f) (by omega) (by omega) (by have := cb_0; omega)) rfl rfl rfl (Nat.le_of_ble_eq_true rfl) dX5_offsets_72 ?_
  exact zr_iret X dX5_offsets_75 ⟨rfl, rfl⟩

set_option maxHeartbeats 4000000 in
set_option maxRecDepth 100000 in
theorem d_offsets_2 {l : Launch} {D : va_G} {tc : Nat → ClassId} {ad : Nat → Nat} {A : Nat → Prop} {tF tL tM : Nat} (E : zN 299 A ad) (μ : Nat → Int32) {m c ro z : Nat} (S : clsS μ m c ro z) {f : Nat} (hf : f < c) {g : Nat} (hg : g ≤ 2)  : zMi l yX5_offsets cX5_offsets 5 (some .int) (zrm 5) (zK A D tc tF tL tM) A D vwCl tc ad 299 shC [.ref (ad (0)), .int (nI (f)), .int (nI (g)), .int (nI (2))] μ (fun r u => r = μ (32 * f + g + 30) ∧ u = μ) := by
  refine zM_of RX5 [(0, .ref (ad (0))), (1, .int (nI (f))), (2, .int (nI (g))), (3, .int (nI (2)))] (zK_ok A D tc tF tL tM) E.1 E.2 owC_ok (by decide +kernel) rfl (Nat.le_of_ble_eq_true rfl) rfl ?_
  intro pP eE sS mM aS bL mT cO X
  obtain ⟨hm, hm2, hc, h8, hr, hr4, hz, hz4⟩ := S
  refine zr_aloadn X 0 dX5_offsets_0 rfl ?_
  refine zr_get X (ci := 5) (q := 0) (zR _) (.ref (ad (1))) dX5_offsets_1 (by omega) sc_0 rfl inX5 (by decide) rfl (zvR rfl) rfl k_215 ?_
  refine zr_iloadn X 1 dX5_offsets_4 rfl ?_
  refine zr_dVq (C := RX2) (ci := 2) [.int (nI (f))] [] X (zK_ok A D tc tF tL tM) (d_firmAt0_t E μ (f := f) (hc) h8 (by omega)) k_273 k_274 k_275 k_2 k_276 hdX2_firmAt ⟨rfl, rfl⟩ ⟨Nat.le_of_ble_eq_true rfl, Nat.le_of_ble_eq_true rfl⟩ (by omega) (sc_st (j := 0) (by omega) (by have := cb_0; omega)) rfl rfl rfl (Nat.le_of_ble_eq_true rfl) dX5_offsets_5 rfl ?_
  refine zr_astore X [1, 2, 3, 4, 0] [(0, .ref (ad (0))), (1, .int (nI (f))), (2, .int (nI (g))), (3, .int (nI (2))), (4, .ref (ad (4 * f + 4)))] dX5_offsets_8 (by decide) rfl ?_
  refine zr_aload X 4 dX5_offsets_10 rfl ?_
  refine zr_ifnull X dX5_offsets_12 ?_
  refine zr_iloadn X 2 dX5_offsets_15 rfl ?_
  refine zr_dSi [.int (nI (g))] [] X (zK_ok A D tc tF tL tM) (d_isGrade_t E μ (by omega) (by omega)) k_288 k_289 k_1 k_290 hdX5_isGrade ⟨rfl, rfl⟩ ⟨Nat.le_of_ble_eq_true rfl, Nat.le_of_ble_eq_true rfl⟩ rfl rfl (Nat.le_of_ble_eq_true rfl) dX5_offsets_16 ?_
  refine zr_if_ne X 24 dX5_offsets_19 (by decide) (fun _ => ?_) (fun q => absurd q (nI_ne0 (by omega) (by omega)))
  refine zr_iloadn X 3 dX5_offsets_24 rfl ?_
  refine zr_tswI (off := 51) X 76 dX5_offsets_25 ⟨by decide +kernel, by decide +kernel, by decide +kernel⟩ (by decide) ?_
  refine zr_aload X 4 dX5_offsets_76 rfl ?_
  refine zr_get X (ci := 0) (q := 2) (zR _) (.ref (ad (4 * f + 7))) dX5_offsets_78 (by omega) (sc_firm (j := 0) (i := f) (by omega) (by omega) (by have := cb_0; omega)) rfl inX0 (by decide) rfl (zvR (by have := cb_0; omega)) rfl k_49 ?_
  refine zr_iloadn X 2 dX5_offsets_81 rfl ?_
  refine zr_iald X (j := g) 0 (μ (32 * f + g + 30)) dX5_offsets_82 (by omega) (sc_used (j := 0) (i := f) (by omega) (by omega) (by have := cb_0; omega)) rfl rfl (by omega) (by omega) (zcg (b := 32 * f + g + 30) (by omega) (rfl)) ?_
  exact zr_iret X dX5_offsets_83 ⟨rfl, rfl⟩

set_option maxHeartbeats 4000000 in
set_option maxRecDepth 100000 in
theorem d_vintage_u {l : Launch} {D : va_G} {tc : Nat → ClassId} {ad : Nat → Nat} {A : Nat → Prop} {tF tL tM : Nat} (E : zN 299 A ad) (μ : Nat → Int32) {m c ro z : Nat} (S : clsS μ m c ro z) {x : Int32} (hx : ¬ zin x 0 19) (y : Int32)  : zMi l yX5_vintage cX5_vintage 3 (some .int) (zrm 5) (zK A D tc tF tL tM) A D vwCl tc ad 299 shC [.ref (ad (0)), .int (x), .int (y)] μ (fun r u => r = -1 ∧ u = μ) := by
  refine zM_of RX5 [(0, .ref (ad (0))), (1, .int (x)), (2, .int (y))] (zK_ok A D tc tF tL tM) E.1 E.2 owC_ok (by decide +kernel) rfl (Nat.le_of_ble_eq_true rfl) rfl ?_
  intro pP eE sS mM aS bL mT cO X
  obtain ⟨hm, hm2, hc, h8, hr, hr4, hz, hz4⟩ := S
  refine zr_iloadn X 1 dX5_vintage_0 rfl ?_
  refine zr_dSi [.int (x)] [] X (zK_ok A D tc tF tL tM) (d_isVintage_f E μ hx) k_316 k_301 k_1 k_302 hdX5_isVintage ⟨rfl, rfl⟩ ⟨Nat.le_of_ble_eq_true rfl, Nat.le_of_ble_eq_true rfl⟩ rfl rfl (Nat.le_of_ble_eq_true rfl) dX5_vintage_1 ?_
  refine zr_if_ne X 9 dX5_vintage_4 (by decide) (fun q => absurd (zq_eq0 (by omega)) q) (fun _ => ?_)
  refine zr_iconst X (-1) dX5_vintage_7 (by decide +kernel) ?_
  exact zr_iret X dX5_vintage_8 ⟨rfl, rfl⟩

set_option maxHeartbeats 4000000 in
set_option maxRecDepth 100000 in
theorem d_vintage_b {l : Launch} {D : va_G} {tc : Nat → ClassId} {ad : Nat → Nat} {A : Nat → Prop} {tF tL tM : Nat} (E : zN 299 A ad) (μ : Nat → Int32) {m c ro z : Nat} (S : clsS μ m c ro z) {v : Nat} (hv : v ≤ 19) {x : Int32} (hx : ¬ zin x 0 6)  : zMi l yX5_vintage cX5_vintage 3 (some .int) (zrm 5) (zK A D tc tF tL tM) A D vwCl tc ad 299 shC [.ref (ad (0)), .int (nI (v)), .int (x)] μ (fun r u => r = -2 ∧ u = μ) := by
  refine zM_of RX5 [(0, .ref (ad (0))), (1, .int (nI (v))), (2, .int (x))] (zK_ok A D tc tF tL tM) E.1 E.2 owC_ok (by decide +kernel) rfl (Nat.le_of_ble_eq_true rfl) rfl ?_
  intro pP eE sS mM aS bL mT cO X
  obtain ⟨hm, hm2, hc, h8, hr, hr4, hz, hz4⟩ := S
  refine zr_iloadn X 1 dX5_vintage_0 rfl ?_
  refine zr_dSi [.int (nI (v))] [] X (zK_ok A D tc tF tL tM) (d_isVintage_t E μ (by omega) (by omega)) k_316 k_301 k_1 k_302 hdX5_isVintage ⟨rfl, rfl⟩ ⟨Nat.le_of_ble_eq_true rfl, Nat.le_of_ble_eq_true rfl⟩ rfl rfl (Nat.le_of_ble_eq_true rfl) dX5_vintage_1 ?_
  refine zr_if_ne X 9 dX5_vintage_4 (by decide) (fun _ => ?_) (fun q => absurd q (nI_ne0 (by omega) (by omega)))
  refine zr_iloadn X 2 dX5_vintage_9 rfl ?_
  refine zr_tswO X 119 dX5_vintage_10 (zsw_out hx (by omega) rfl rfl) (by decide) ?_
  refine zr_bipush X (-2) dX5_vintage_119 (by decide +kernel) ?_
  exact zr_iret X dX5_vintage_121 ⟨rfl, rfl⟩

set_option maxHeartbeats 4000000 in
set_option maxRecDepth 100000 in
theorem d_vintage_0 {l : Launch} {D : va_G} {tc : Nat → ClassId} {ad : Nat → Nat} {A : Nat → Prop} {tF tL tM : Nat} (E : zN 299 A ad) (μ : Nat → Int32) {m c ro z : Nat} (S : clsS μ m c ro z) {v : Nat} (hv : v ≤ 19)  : zMi l yX5_vintage cX5_vintage 3 (some .int) (zrm 5) (zK A D tc tF tL tM) A D vwCl tc ad 299 shC [.ref (ad (0)), .int (nI (v)), .int (nI (0))] μ (fun r u => r = μ (v + 263) ∧ u = μ) := by
  refine zM_of RX5 [(0, .ref (ad (0))), (1, .int (nI (v))), (2, .int (nI (0)))] (zK_ok A D tc tF tL tM) E.1 E.2 owC_ok (by decide +kernel) rfl (Nat.le_of_ble_eq_true rfl) rfl ?_
  intro pP eE sS mM aS bL mT cO X
  obtain ⟨hm, hm2, hc, h8, hr, hr4, hz, hz4⟩ := S
  refine zr_iloadn X 1 dX5_vintage_0 rfl ?_
  refine zr_dSi [.int (nI (v))] [] X (zK_ok A D tc tF tL tM) (d_isVintage_t E μ (by omega) (by omega)) k_316 k_301 k_1 k_302 hdX5_isVintage ⟨rfl, rfl⟩ ⟨Nat.le_of_ble_eq_true rfl, Nat.le_of_ble_eq_true rfl⟩ rfl rfl (Nat.le_of_ble_eq_true rfl) dX5_vintage_1 ?_
  refine zr_if_ne X 9 dX5_vintage_4 (by decide) (fun _ => ?_) (fun q => absurd q (nI_ne0 (by omega) (by omega)))
  refine zr_iloadn X 2 dX5_vintage_9 rfl ?_
  refine zr_tswI (off := 42) X 52 dX5_vintage_10 ⟨by decide +kernel, by decide +kernel, by decide +kernel⟩ (by decide) ?_
  refine zr_aloadn X 0 dX5_vintage_52 rfl ?_
  refine zr_get X (ci := 5) (q := 0) (zR _) (.ref (ad (1))) dX5_vintage_53 (by omega) sc_0 rfl inX5 (by decide) rfl (zvR rfl) rfl k_215 ?_
  refine zr_get X (ci := 2) (q := 4) (zR _) (.ref (ad (36))) dX5_vintage_56 (by omega) (sc_st (j := 0) (by omega) (by have := cb_0; omega)) rfl inX2 (by decide) rfl (zvR (by have := cb_0; omega)) rfl k_91 ?_
  refine zr_iloadn X 1 dX5_vintage_59 rfl ?_
  refine zr_iald X (j := v) 0 (μ (v + 263)) dX5_vintage_60 (by omega) (sc_iss (j := 0) (by omega) (by have := cb_0; omega)) rfl rfl (by omega) (by omega) (zcg (b := v + 263) (by omega) (rfl)) ?_
  exact zr_iret X dX5_vintage_61 ⟨rfl, rfl⟩

set_option maxHeartbeats 4000000 in
set_option maxRecDepth 100000 in
theorem d_vintage_1 {l : Launch} {D : va_G} {tc : Nat → ClassId} {ad : Nat → Nat} {A : Nat → Prop} {tF tL tM : Nat} (E : zN 299 A ad) (μ : Nat → Int32) {m c ro z : Nat} (S : clsS μ m c ro z) {v : Nat} (hv : v ≤ 19)  : zMi l yX5_vintage cX5_vintage 3 (some .int) (zrm 5) (zK A D tc tF tL tM) A D vwCl tc ad 299 shC [.ref (ad (0)), .int (nI (v)), .int (nI (1))] μ (fun r u => r = zsum (fun f => μ (32 * f + v + 7)) 8 ∧ u = μ) := by
  refine zM_of RX5 [(0, .ref (ad (0))), (1, .int (nI (v))), (2, .int (nI (1)))] (zK_ok A D tc tF tL tM) E.1 E.2 owC_ok (by decide +kernel) rfl (Nat.le_of_ble_eq_true rfl) rfl ?_
  intro pP eE sS mM aS bL mT cO X
  obtain ⟨hm, hm2, hc, h8, hr, hr4, hz, hz4⟩ := S
  refine zr_iloadn X 1 dX5_vintage_0 rfl ?_
  refine zr_dSi [.int (nI (v))] [] X (zK_ok A D tc tF tL tM) (d_isVintage_t E μ (by omega) (by omega)) k_316 k_301 k_1 k_302 hdX5_isVintage ⟨rfl, rfl⟩ ⟨Nat.le_of_ble_eq_true rfl, Nat.le_of_ble_eq_true rfl⟩ rfl rfl (Nat.le_of_ble_eq_true rfl) dX5_vintage_1 ?_
  refine zr_if_ne X 9 dX5_vintage_4 (by decide) (fun _ => ?_) (fun q => absurd q (nI_ne0 (by omega) (by omega)))
  refine zr_iloadn X 2 dX5_vintage_9 rfl ?_
  refine zr_tswI (off := 52) X 62 dX5_vintage_10 ⟨by decide +kernel, by decide +kernel, by decide +kernel⟩ (by decide) ?_
  refine zr_aloadn X 0 dX5_vintage_62 rfl ?_
  refine zr_get X (ci := 5) (q := 0) (zR _) (.ref (ad (1))) dX5_vintage_63 (by omega) sc_0 rfl inX5 (by decide) rfl (zvR rfl) rfl k_215 ?_
  refine zr_iloadn X 1 dX5_vintage_66 rfl ?_
  refine zr_dVi (C := RX2) (ci := 2) [.int (nI (v))] [] X (zK_ok A D tc tF tL tM) (d_heldOf E μ (v := v) (by omega)) k_470 k_471 k_472 k_2 k_473 hdX2_heldOf ⟨rfl, rfl⟩ ⟨Nat.le_of_ble_eq_true rfl, Nat.le_of_ble_eq_true rfl⟩ (by omega) (sc_st (j := 0) (by omega) (by have := cb_0; omega)) rfl rfl rfl (Nat.le_of_ble_eq_true rfl) dX5_vintage_67 ?_
  exact zr_iret X dX5_vintage_70 ⟨rfl, rfl⟩

set_option maxHeartbeats 4000000 in
set_option maxRecDepth 100000 in
theorem d_vintage_2 {l : Launch} {D : va_G} {tc : Nat → ClassId} {ad : Nat → Nat} {A : Nat → Prop} {tF tL tM : Nat} (E : zN 299 A ad) (μ : Nat → Int32) {m c ro z : Nat} (S : clsS μ m c ro z) {v : Nat} (hv : v ≤ 19)  : zMi l yX5_vintage cX5_vintage 3 (some .int) (zrm 5) (zK A D tc tF tL tM) A D vwCl tc ad 299 shC [.ref (ad (0)), .int (nI (v)), .int (nI (2))] μ (fun r u => r = μ (v + 283) ∧ u = μ) := by
  refine zM_of RX5 [(0, .ref (ad (0))), (1, .int (nI (v))), (2, .int (nI (2)))] (zK_ok A D tc tF tL tM) E.1 E.2 owC_ok (by decide +kernel) rfl (Nat.le_of_ble_eq_true rfl) rfl ?_
  intro pP eE sS mM aS bL mT cO X
  obtain ⟨hm, hm2, hc, h8, hr, hr4, hz, hz4⟩ := S
  refine zr_iloadn X 1 dX5_vintage_0 rfl ?_
  refine zr_dSi [.int (nI (v))] [] X (zK_ok A D tc tF tL tM) (d_isVintage_t E μ (by omega) (by omega)) k_316 k_301 k_1 k_302 hdX5_isVintage ⟨rfl, rfl⟩ ⟨Nat.le_of_ble_eq_true rfl, Nat.le_of_ble_eq_true rfl⟩ rfl rfl (Nat.le_of_ble_eq_true rfl) dX5_vintage_1 ?_
  refine zr_if_ne X 9 dX5_vintage_4 (by decide) (fun _ => ?_) (fun q => absurd q (nI_ne0 (by omega) (by omega)))
  refine zr_iloadn X 2 dX5_vintage_9 rfl ?_
  refine zr_tswI (off := 61) X 71 dX5_vintage_10 ⟨by decide +kernel, by decide +kernel, by decide +kernel⟩ (by decide) ?_
  refine zr_aloadn X 0 dX5_vintage_71 rfl ?_
  refine zr_get X (ci := 5) (q := 0) (zR _) (.ref (ad (1))) dX5_vintage_72 (by omega) sc_0 rfl inX5 (by decide) rfl (zvR rfl) rfl k_215 ?_
  refine zr_get X (ci := 2) (q := 5) (zR _) (.ref (ad (37))) dX5_vintage_75 (by omega) (sc_st (j := 0) (by omega) (by have := cb_0; omega)) rfl inX2 (by decide) rfl (zvR (by have := cb_0; omega)) rfl k_93 ?_
  refine zr_iloadn X 1 dX5_vintage_78 rfl ?_
  refine zr_iald X (j := v) 0 (μ (v + 283)) dX5_vintage_79 (by omega) (sc_sur (j := 0) (by omega) (by have := cb_0; omega)) rfl rfl (by omega) (by omega) (zcg (b := v + 283) (by omega) (rfl)) ?_
  exact zr_iret X dX5_vintage_80 ⟨rfl, rfl⟩

set_option maxHeartbeats 4000000 in
set_option maxRecDepth 100000 in
theorem d_vintage_3 {l : Launch} {D : va_G} {tc : Nat → ClassId} {ad : Nat → Nat} {A : Nat → Prop} {tF tL tM : Nat} (E : zN 299 A ad) (μ : Nat → Int32) {m c ro z : Nat} (S : clsS μ m c ro z) {v : Nat} (hv : v ≤ 19)  : zMi l yX5_vintage cX5_vintage 3 (some .int) (zrm 5) (zK A D tc tF tL tM) A D vwCl tc ad 299 shC [.ref (ad (0)), .int (nI (v)), .int (nI (3))] μ (fun r u => r = μ (v + 303) ∧ u = μ) := by
  refine zM_of RX5 [(0, .ref (ad (0))), (1, .int (nI (v))), (2, .int (nI (3)))] (zK_ok A D tc tF tL tM) E.1 E.2 owC_ok (by decide +kernel) rfl (Nat.le_of_ble_eq_true rfl) rfl ?_
  intro pP eE sS mM aS bL mT cO X
  obtain ⟨hm, hm2, hc, h8, hr, hr4, hz, hz4⟩ := S
  refine zr_iloadn X 1 dX5_vintage_0 rfl ?_
  refine zr_dSi [.int (nI (v))] [] X (zK_ok A D tc tF tL tM) (d_isVintage_t E μ (by omega) (by omega)) k_316 k_301 k_1 k_302 hdX5_isVintage ⟨rfl, rfl⟩ ⟨Nat.le_of_ble_eq_true rfl, Nat.le_of_ble_eq_true rfl⟩ rfl rfl (Nat.le_of_ble_eq_true rfl) dX5_vintage_1 ?_
  refine zr_if_ne X 9 dX5_vintage_4 (by decide) (fun _ => ?_) (fun q => absurd q (nI_ne0 (by omega) (by omega)))
  refine zr_iloadn X 2 dX5_vintage_9 rfl ?_
  refine zr_tswI (off := 71) X 81 dX5_vintage_10 ⟨by decide +kernel, by decide +kernel, by decide +kernel⟩ (by decide) ?_
  refine zr_aloadn X 0 dX5_vintage_81 rfl ?_
  refine zr_get X (ci := 5) (q := 0) (zR _) (.ref (ad (1))) dX5_vintage_82 (by omega) sc_0 rfl inX5 (by decide) rfl (zvR rfl) rfl k_215 ?_
  refine zr_get X (ci := 2) (q := 6) (zR _) (.ref (ad (38))) dX5_vintage_85 (by omega) (sc_st (j := 0) (by omega) (by have := cb_0; omega)) rfl inX2 (by decide) rfl (zvR (by have := cb_0; omega)) rfl k_95 ?_
  refine zr_iloadn X 1 dX5_vintage_88 rfl ?_
  refine zr_iald X (j := v) 0 (μ (v + 303)) dX5_vintage_89 (by omega) (sc_can (j := 0) (by omega) (by have := cb_0; omega)) rfl rfl (by omega) (by omega) (zcg (b := v + 303) (by omega) (rfl)) ?_
  exact zr_iret X dX5_vintage_90 ⟨rfl, rfl⟩

set_option maxHeartbeats 4000000 in
set_option maxRecDepth 100000 in
theorem d_vintage_4 {l : Launch} {D : va_G} {tc : Nat → ClassId} {ad : Nat → Nat} {A : Nat → Prop} {tF tL tM : Nat} (E : zN 299 A ad) (μ : Nat → Int32) {m c ro z : Nat} (S : clsS μ m c ro z) {v : Nat} (hv : v ≤ 19)  : zMi l yX5_vintage cX5_vintage 3 (some .int) (zrm 5) (zK A D tc tF tL tM) A D vwCl tc ad 299 shC [.ref (ad (0)), .int (nI (v)), .int (nI (4))] μ (fun r u => r = μ (v + 323) ∧ u = μ) := by
  refine zM_of RX5 [(0, .ref (ad (0))), (1, .int (nI (v))), (2, .int (nI (4)))] (zK_ok A D tc tF tL tM) E.1 E.2 owC_ok (by decide +kernel) rfl (Nat.le_of_ble_eq_true rfl) rfl ?_
  intro pP eE sS mM aS bL mT cO X
  obtain ⟨hm, hm2, hc, h8, hr, hr4, hz, hz4⟩ := S
  refine zr_iloadn X 1 dX5_vintage_0 rfl ?_
  refine zr_dSi [.int (nI (v))] [] X (zK_ok A D tc tF tL tM) (d_isVintage_t E μ (by omega) (by omega)) k_316 k_301 k_1 k_302 hdX5_isVintage ⟨rfl, rfl⟩ ⟨Nat.le_of_ble_eq_true rfl, Nat.le_of_ble_eq_true rfl⟩ rfl rfl (Nat.le_of_ble_eq_true rfl) dX5_vintage_1 ?_
  refine zr_if_ne X 9 dX5_vintage_4 (by decide) (fun _ => ?_) (fun q => absurd q (nI_ne0 (by omega) (by omega)))
  refine zr_iloadn X 2 dX5_vintage_9 rfl ?_
  refine zr_tswI (off := 81) X 91 dX5_vintage_10 ⟨by decide +kernel, by decide +kernel, by decide +kernel⟩ (by decide) ?_
  refine zr_aloadn X 0 dX5_vintage_91 rfl ?_
  refine zr_get X (ci := 5) (q := 0) (zR _) (.ref (ad (1))) dX5_vintage_92 (by omega) sc_0 rfl inX5 (by decide) rfl (zvR rfl) rfl k_215 ?_
  refine zr_get X (ci := 2) (q := 7) (zR _) (.ref (ad (39))) dX5_vintage_95 (by omega) (sc_st (j := 0) (by omega) (by have := cb_0; omega)) rfl inX2 (by decide) rfl (zvR (by have := cb_0; omega)) rfl k_97 ?_
  refine zr_iloadn X 1 dX5_vintage_98 rfl ?_
  refine zr_iald X (j := v) 0 (μ (v + 323)) dX5_vintage_99 (by omega) (sc_los (j := 0) (by omega) (by have := cb_0; omega)) rfl rfl (by omega) (by omega) (zcg (b := v + 323) (by omega) (rfl)) ?_
  exact zr_iret X dX5_vintage_100 ⟨rfl, rfl⟩

set_option maxHeartbeats 4000000 in
set_option maxRecDepth 100000 in
theorem d_vintage_5 {l : Launch} {D : va_G} {tc : Nat → ClassId} {ad : Nat → Nat} {A : Nat → Prop} {tF tL tM : Nat} (E : zN 299 A ad) (μ : Nat → Int32) {m c ro z : Nat} (S : clsS μ m c ro z) {v : Nat} (hv : v ≤ 19)  : zMi l yX5_vintage cX5_vintage 3 (some .int) (zrm 5) (zK A D tc tF tL tM) A D vwCl tc ad 299 shC [.ref (ad (0)), .int (nI (v)), .int (nI (5))] μ (fun r u => r = nI (zcnt (fun f => μ (32 * f + v + 7)) 8) ∧ u = μ) := by
  refine zM_of RX5 [(0, .ref (ad (0))), (1, .int (nI (v))), (2, .int (nI (5)))] (zK_ok A D tc tF tL tM) E.1 E.2 owC_ok (by decide +kernel) rfl (Nat.le_of_ble_eq_true rfl) rfl ?_
  intro pP eE sS mM aS bL mT cO X
  obtain ⟨hm, hm2, hc, h8, hr, hr4, hz, hz4⟩ := S
  refine zr_iloadn X 1 dX5_vintage_0 rfl ?_
  refine zr_dSi [.int (nI (v))] [] X (zK_ok A D tc tF tL tM) (d_isVintage_t E μ (by omega) (by omega)) k_316 k_301 k_1 k_302 hdX5_isVintage ⟨rfl, rfl⟩ ⟨Nat.le_of_ble_eq_true rfl, Nat.le_of_ble_eq_true rfl⟩ rfl rfl (Nat.le_of_ble_eq_true rfl) dX5_vintage_1 ?_
  refine zr_if_ne X 9 dX5_vintage_4 (by decide) (fun _ => ?_) (fun q => absurd q (nI_ne0 (by omega) (by omega)))
  refine zr_iloadn X 2 dX5_vintage_9 rfl ?_
  refine zr_tswI (off := 91) X 101 dX5_vintage_10 ⟨by decide +kernel, by decide +kernel, by decide +kernel⟩ (by decide) ?_
  refine zr_aloadn X 0 dX5_vintage_101 rfl ?_
  refine zr_get X (ci := 5) (q := 0) (zR _) (.ref (ad (1))) dX5_vintage_102 (by omega) sc_0 rfl inX5 (by decide) rfl (zvR rfl) rfl k_215 ?_
  refine zr_iloadn X 1 dX5_vintage_105 rfl ?_
  refine zr_dVi (C := RX2) (ci := 2) [.int (nI (v))] [] X (zK_ok A D tc tF tL tM) (d_holdersOf E μ (v := v) (by omega)) k_474 k_475 k_476 k_2 k_477 hdX2_holdersOf ⟨rfl, rfl⟩ ⟨Nat.le_of_ble_eq_true rfl, Nat.le_of_ble_eq_true rfl⟩ (by omega) (sc_st (j := 0) (by omega) (by have := cb_0; omega)) rfl rfl rfl (Nat.le_of_ble_eq_true rfl) dX5_vintage_106 ?_
  exact zr_iret X dX5_vintage_109 ⟨rfl, rfl⟩

set_option maxHeartbeats 4000000 in
set_option maxRecDepth 100000 in
theorem d_vintage_6 {l : Launch} {D : va_G} {tc : Nat → ClassId} {ad : Nat → Nat} {A : Nat → Prop} {tF tL tM : Nat} (E : zN 299 A ad) (μ : Nat → Int32) {m c ro z : Nat} (S : clsS μ m c ro z) {v : Nat} (hv : v ≤ 19) {y : Nat} (hy : m / 12 = y) {b : Nat} (hb : μ 5 = nI b) (hb1 : 1 ≤ b) (hb5 : b ≤ 5)  : zMi l yX5_vintage cX5_vintage 3 (some .int) (zrm 5) (zK A D tc tF tL tM) A D vwCl tc ad 299 shC [.ref (ad (0)), .int (nI (v)), .int (nI (6))] μ (fun r u => r = zmoC (fun f => μ (32 * f + v + 7)) v b y m ∧ u = μ) := by
  refine zM_of RX5 [(0, .ref (ad (0))), (1, .int (nI (v))), (2, .int (nI (6)))] (zK_ok A D tc tF tL tM) E.1 E.2 owC_ok (by decide +kernel) rfl (Nat.le_of_ble_eq_true rfl) rfl ?_
  intro pP eE sS mM aS bL mT cO X
  obtain ⟨hm, hm2, hc, h8, hr, hr4, hz, hz4⟩ := S
  refine zr_iloadn X 1 dX5_vintage_0 rfl ?_
  refine zr_dSi [.int (nI (v))] [] X (zK_ok A D tc tF tL tM) (d_isVintage_t E μ (by omega) (by omega)) k_316 k_301 k_1 k_302 hdX5_isVintage ⟨rfl, rfl⟩ ⟨Nat.le_of_ble_eq_true rfl, Nat.le_of_ble_eq_true rfl⟩ rfl rfl (Nat.le_of_ble_eq_true rfl) dX5_vintage_1 ?_
  refine zr_if_ne X 9 dX5_vintage_4 (by decide) (fun _ => ?_) (fun q => absurd q (nI_ne0 (by omega) (by omega)))
  refine zr_iloadn X 2 dX5_vintage_9 rfl ?_
  refine zr_tswI (off := 100) X 110 dX5_vintage_10 ⟨by decide +kernel, by decide +kernel, by decide +kernel⟩ (by decide) ?_
  refine zr_aloadn X 0 dX5_vintage_110 rfl ?_
  refine zr_get X (ci := 5) (q := 0) (zR _) (.ref (ad (1))) dX5_vintage_111 (by omega) sc_0 rfl inX5 (by decide) rfl (zvR rfl) rfl k_215 ?_
  refine zr_iloadn X 1 dX5_vintage_114 rfl ?_
  refine zr_dVi (C := RX2) (ci := 2) [.int (nI (v))] [] X (zK_ok A D tc tF tL tM) (d_monthsUntilLost E μ hm hm2 hy (v := v) (by omega) hb hb1 hb5) k_478 k_479 k_480 k_2 k_481 hdX2_monthsUntilLost ⟨rfl, rfl⟩ ⟨Nat.le_of_ble_eq_true rfl, Nat.le_of_ble_eq_true rfl⟩ (by omega) (sc_st (j := 0) (by omega) (by have := cb_0; omega)) rfl rfl rfl (Nat.le_of_ble_eq_true rfl) dX5_vintage_115 ?_
  exact zr_iret X dX5_vintage_118 ⟨rfl, rfl⟩

set_option maxHeartbeats 4000000 in
set_option maxRecDepth 100000 in
theorem d_grade_u {l : Launch} {D : va_G} {tc : Nat → ClassId} {ad : Nat → Nat} {A : Nat → Prop} {tF tL tM : Nat} (E : zN 299 A ad) (μ : Nat → Int32) {m c ro z : Nat} (S : clsS μ m c ro z) {x : Int32} (hx : ¬ zin x 0 2) (y : Int32)  : zMi l yX5_grade cX5_grade 3 (some .int) (zrm 5) (zK A D tc tF tL tM) A D vwCl tc ad 299 shC [.ref (ad (0)), .int (x), .int (y)] μ (fun r u => r = -1 ∧ u = μ) := by
  refine zM_of RX5 [(0, .ref (ad (0))), (1, .int (x)), (2, .int (y))] (zK_ok A D tc tF tL tM) E.1 E.2 owC_ok (by decide +kernel) rfl (Nat.le_of_ble_eq_true rfl) rfl ?_
  intro pP eE sS mM aS bL mT cO X
  obtain ⟨hm, hm2, hc, h8, hr, hr4, hz, hz4⟩ := S
  refine zr_iloadn X 1 dX5_grade_0 rfl ?_
  refine zr_dSi [.int (x)] [] X (zK_ok A D tc tF tL tM) (d_isGrade_f E μ hx) k_288 k_289 k_1 k_290 hdX5_isGrade ⟨rfl, rfl⟩ ⟨Nat.le_of_ble_eq_true rfl, Nat.le_of_ble_eq_true rfl⟩ rfl rfl (Nat.le_of_ble_eq_true rfl) dX5_grade_1 ?_
  refine zr_if_ne X 9 dX5_grade_4 (by decide) (fun q => absurd (zq_eq0 (by omega)) q) (fun _ => ?_)
  refine zr_iconst X (-1) dX5_grade_7 (by decide +kernel) ?_
  exact zr_iret X dX5_grade_8 ⟨rfl, rfl⟩

set_option maxHeartbeats 4000000 in
set_option maxRecDepth 100000 in
theorem d_grade_b {l : Launch} {D : va_G} {tc : Nat → ClassId} {ad : Nat → Nat} {A : Nat → Prop} {tF tL tM : Nat} (E : zN 299 A ad) (μ : Nat → Int32) {m c ro z : Nat} (S : clsS μ m c ro z) {g : Nat} (hg : g ≤ 2) {x : Int32} (hx : ¬ zin x 0 2)  : zMi l yX5_grade cX5_grade 3 (some .int) (zrm 5) (zK A D tc tF tL tM) A D vwCl tc ad 299 shC [.ref (ad (0)), .int (nI (g)), .int (x)] μ (fun r u => r = -2 ∧ u = μ) := by
  refine zM_of RX5 [(0, .ref (ad (0))), (1, .int (nI (g))), (2, .int (x))] (zK_ok A D tc tF tL tM) E.1 E.2 owC_ok (by decide +kernel) rfl (Nat.le_of_ble_eq_true rfl) rfl ?_
  intro pP eE sS mM aS bL mT cO X
  obtain ⟨hm, hm2, hc, h8, hr, hr4, hz, hz4⟩ := S
  refine zr_iloadn X 1 dX5_grade_0 rfl ?_
  refine zr_dSi [.int (nI (g))] [] X (zK_ok A D tc tF tL tM) (d_isGrade_t E μ (by omega) (by omega)) k_288 k_289 k_1 k_290 hdX5_isGrade ⟨rfl, rfl⟩ ⟨Nat.le_of_ble_eq_true rfl, Nat.le_of_ble_eq_true rfl⟩ rfl rfl (Nat.le_of_ble_eq_true rfl) dX5_grade_1 ?_
  refine zr_if_ne X 9 dX5_grade_4 (by decide) (fun _ => ?_) (fun q => absurd q (nI_ne0 (by omega) (by omega)))
  refine zr_iloadn X 2 dX5_grade_9 rfl ?_
  refine zr_tswO X 65 dX5_grade_10 (zsw_out hx (by omega) rfl rfl) (by decide) ?_
  refine zr_bipush X (-2) dX5_grade_65 (by decide +kernel) ?_
  exact zr_iret X dX5_grade_67 ⟨rfl, rfl⟩

set_option maxHeartbeats 4000000 in
set_option maxRecDepth 100000 in
theorem d_grade_0 {l : Launch} {D : va_G} {tc : Nat → ClassId} {ad : Nat → Nat} {A : Nat → Prop} {tF tL tM : Nat} (E : zN 299 A ad) (μ : Nat → Int32) {m c ro z : Nat} (S : clsS μ m c ro z) {g : Nat} (hg : g ≤ 2)  : zMi l yX5_grade cX5_grade 3 (some .int) (zrm 5) (zK A D tc tF tL tM) A D vwCl tc ad 299 shC [.ref (ad (0)), .int (nI (g)), .int (nI (0))] μ (fun r u => r = μ (g + 343) ∧ u = μ) := by
  refine zM_of RX5 [(0, .ref (ad (0))), (1, .int (nI (g))), (2, .int (nI (0)))] (zK_ok A D tc tF tL tM) E.1 E.2 owC_ok (by decide +kernel) rfl (Nat.le_of_ble_eq_true rfl) rfl ?_
  intro pP eE sS mM aS bL mT cO X
  obtain ⟨hm, hm2, hc, h8, hr, hr4, hz, hz4⟩ := S
  refine zr_iloadn X 1 dX5_grade_0 rfl ?_
  refine zr_dSi [.int (nI (g))] [] X (zK_ok A D tc tF tL tM) (d_isGrade_t E μ (by omega) (by omega)) k_288 k_289 k_1 k_290 hdX5_isGrade ⟨rfl, rfl⟩ ⟨Nat.le_of_ble_eq_true rfl, Nat.le_of_ble_eq_true rfl⟩ rfl rfl (Nat.le_of_ble_eq_true rfl) dX5_grade_1 ?_
  refine zr_if_ne X 9 dX5_grade_4 (by decide) (fun _ => ?_) (fun q => absurd q (nI_ne0 (by omega) (by omega)))
  refine zr_iloadn X 2 dX5_grade_9 rfl ?_
  refine zr_tswI (off := 26) X 36 dX5_grade_10 ⟨by decide +kernel, by decide +kernel, by decide +kernel⟩ (by decide) ?_
  refine zr_aloadn X 0 dX5_grade_36 rfl ?_
  refine zr_get X (ci := 5) (q := 0) (zR _) (.ref (ad (1))) dX5_grade_37 (by omega) sc_0 rfl inX5 (by decide) rfl (zvR rfl) rfl k_215 ?_
  refine zr_get X (ci := 2) (q := 8) (zR _) (.ref (ad (40))) dX5_grade_40 (by omega) (sc_st (j := 0) (by omega) (by have := cb_0; omega)) rfl inX2 (by decide) rfl (zvR (by have := cb_0; omega)) rfl k_99 ?_
  refine zr_iloadn X 1 dX5_grade_43 rfl ?_
  refine zr_iald X (j := g) 0 (μ (g + 343)) dX5_grade_44 (by omega) (sc_oi (j := 0) (by omega) (by have := cb_0; omega)) rfl rfl (by omega) (by omega) (zcg (b := g + 343) (by omega) (rfl)) ?_
  exact zr_iret X dX5_grade_45 ⟨rfl, rfl⟩

set_option maxHeartbeats 4000000 in
set_option maxRecDepth 100000 in
theorem d_grade_1 {l : Launch} {D : va_G} {tc : Nat → ClassId} {ad : Nat → Nat} {A : Nat → Prop} {tF tL tM : Nat} (E : zN 299 A ad) (μ : Nat → Int32) {m c ro z : Nat} (S : clsS μ m c ro z) {g : Nat} (hg : g ≤ 2)  : zMi l yX5_grade cX5_grade 3 (some .int) (zrm 5) (zK A D tc tF tL tM) A D vwCl tc ad 299 shC [.ref (ad (0)), .int (nI (g)), .int (nI (1))] μ (fun r u => r = zsum (fun f => μ (32 * f + g + 27)) 8 ∧ u = μ) := by
  refine zM_of RX5 [(0, .ref (ad (0))), (1, .int (nI (g))), (2, .int (nI (1)))] (zK_ok A D tc tF tL tM) E.1 E.2 owC_ok (by decide +kernel) rfl (Nat.le_of_ble_eq_true rfl) rfl ?_
  intro pP eE sS mM aS bL mT cO X
  obtain ⟨hm, hm2, hc, h8, hr, hr4, hz, hz4⟩ := S
  refine zr_iloadn X 1 dX5_grade_0 rfl ?_
  refine zr_dSi [.int (nI (g))] [] X (zK_ok A D tc tF tL tM) (d_isGrade_t E μ (by omega) (by omega)) k_288 k_289 k_1 k_290 hdX5_isGrade ⟨rfl, rfl⟩ ⟨Nat.le_of_ble_eq_true rfl, Nat.le_of_ble_eq_true rfl⟩ rfl rfl (Nat.le_of_ble_eq_true rfl) dX5_grade_1 ?_
  refine zr_if_ne X 9 dX5_grade_4 (by decide) (fun _ => ?_) (fun q => absurd q (nI_ne0 (by omega) (by omega)))
  refine zr_iloadn X 2 dX5_grade_9 rfl ?_
  refine zr_tswI (off := 36) X 46 dX5_grade_10 ⟨by decide +kernel, by decide +kernel, by decide +kernel⟩ (by decide) ?_
  refine zr_aloadn X 0 dX5_grade_46 rfl ?_
  refine zr_get X (ci := 5) (q := 0) (zR _) (.ref (ad (1))) dX5_grade_47 (by omega) sc_0 rfl inX5 (by decide) rfl (zvR rfl) rfl k_215 ?_
  refine zr_iloadn X 1 dX5_grade_50 rfl ?_
  refine zr_dVi (C := RX2) (ci := 2) [.int (nI (g))] [] X (zK_ok A D tc tF tL tM) (d_offsetsHeldOf E μ (g := g) (by omega)) k_488 k_489 k_490 k_2 k_491 hdX2_offsetsHeldOf ⟨rfl, rfl⟩ ⟨Nat.le_of_ble_eq_true rfl, Nat.le_of_ble_eq_true rfl⟩ (by omega) (sc_st (j := 0) (by omega) (by have := cb_0; omega)) rfl rfl rfl (Nat.le_of_ble_eq_true rfl) dX5_grade_51 ?_
  exact zr_iret X dX5_grade_54 ⟨rfl, rfl⟩

set_option maxHeartbeats 4000000 in
set_option maxRecDepth 100000 in
theorem d_grade_2 {l : Launch} {D : va_G} {tc : Nat → ClassId} {ad : Nat → Nat} {A : Nat → Prop} {tF tL tM : Nat} (E : zN 299 A ad) (μ : Nat → Int32) {m c ro z : Nat} (S : clsS μ m c ro z) {g : Nat} (hg : g ≤ 2)  : zMi l yX5_grade cX5_grade 3 (some .int) (zrm 5) (zK A D tc tF tL tM) A D vwCl tc ad 299 shC [.ref (ad (0)), .int (nI (g)), .int (nI (2))] μ (fun r u => r = μ (g + 346) ∧ u = μ) := by
  refine zM_of RX5 [(0, .ref (ad (0))), (1, .int (nI (g))), (2, .int (nI (2)))] (zK_ok A D tc tF tL tM) E.1 E.2 owC_ok (by decide +kernel) rfl (Nat.le_of_ble_eq_true rfl) rfl ?_
  intro pP eE sS mM aS bL mT cO X
  obtain ⟨hm, hm2, hc, h8, hr, hr4, hz, hz4⟩ := S
  refine zr_iloadn X 1 dX5_grade_0 rfl ?_
  refine zr_dSi [.int (nI (g))] [] X (zK_ok A D tc tF tL tM) (d_isGrade_t E μ (by omega) (by omega)) k_288 k_289 k_1 k_290 hdX5_isGrade ⟨rfl, rfl⟩ ⟨Nat.le_of_ble_eq_true rfl, Nat.le_of_ble_eq_true rfl⟩ rfl rfl (Nat.le_of_ble_eq_true rfl) dX5_grade_1 ?_
  refine zr_if_ne X 9 dX5_grade_4 (by decide) (fun _ => ?_) (fun q => absurd q (nI_ne0 (by omega) (by omega)))
  refine zr_iloadn X 2 dX5_grade_9 rfl ?_
  refine zr_tswI (off := 45) X 55 dX5_grade_10 ⟨by decide +kernel, by decide +kernel, by decide +kernel⟩ (by decide) ?_
  refine zr_aloadn X 0 dX5_grade_55 rfl ?_
  refine zr_get X (ci := 5) (q := 0) (zR _) (.ref (ad (1))) dX5_grade_56 (by omega) sc_0 rfl inX5 (by decide) rfl (zvR rfl) rfl k_215 ?_
  refine zr_get X (ci := 2) (q := 9) (zR _) (.ref (ad (41))) dX5_grade_59 (by omega) (sc_st (j := 0) (by omega) (by have := cb_0; omega)) rfl inX2 (by decide) rfl (zvR (by have := cb_0; omega)) rfl k_101 ?_
  refine zr_iloadn X 1 dX5_grade_62 rfl ?_
  refine zr_iald X (j := g) 0 (μ (g + 346)) dX5_grade_63 (by omega) (sc_os (j := 0) (by omega) (by have := cb_0; omega)) rfl rfl (by omega) (by omega) (zcg (b := g + 346) (by omega) (rfl)) ?_
  exact zr_iret X dX5_grade_64 ⟨rfl, rfl⟩

set_option maxHeartbeats 4000000 in
set_option maxRecDepth 100000 in
theorem d_holder_u {l : Launch} {D : va_G} {tc : Nat → ClassId} {ad : Nat → Nat} {A : Nat → Prop} {tF tL tM : Nat} (E : zN 299 A ad) (μ : Nat → Int32) {m c ro z : Nat} (S : clsS μ m c ro z) {x : Int32} (hx : ¬ zin x 0 19) (y : Int32)  : zMi l yX5_holder cX5_holder 3 (some .int) (zrm 5) (zK A D tc tF tL tM) A D vwCl tc ad 299 shC [.ref (ad (0)), .int (x), .int (y)] μ (fun r u => r = -1 ∧ u = μ) := by
  refine zM_of RX5 [(0, .ref (ad (0))), (1, .int (x)), (2, .int (y))] (zK_ok A D tc tF tL tM) E.1 E.2 owC_ok (by decide +kernel) rfl (Nat.le_of_ble_eq_true rfl) rfl ?_
  intro pP eE sS mM aS bL mT cO X
  obtain ⟨hm, hm2, hc, h8, hr, hr4, hz, hz4⟩ := S
  refine zr_iloadn X 1 dX5_holder_0 rfl ?_
  refine zr_dSi [.int (x)] [] X (zK_ok A D tc tF tL tM) (d_isVintage_f E μ hx) k_316 k_301 k_1 k_302 hdX5_isVintage ⟨rfl, rfl⟩ ⟨Nat.le_of_ble_eq_true rfl, Nat.le_of_ble_eq_true rfl⟩ rfl rfl (Nat.le_of_ble_eq_true rfl) dX5_holder_1 ?_
  refine zr_if_ne X 9 dX5_holder_4 (by decide) (fun q => absurd (zq_eq0 (by omega)) q) (fun _ => ?_)
  refine zr_iconst X (-1) dX5_holder_7 (by decide +kernel) ?_
  exact zr_iret X dX5_holder_8 ⟨rfl, rfl⟩

set_option maxHeartbeats 4000000 in
set_option maxRecDepth 100000 in
theorem d_holder_b {l : Launch} {D : va_G} {tc : Nat → ClassId} {ad : Nat → Nat} {A : Nat → Prop} {tF tL tM : Nat} (E : zN 299 A ad) (μ : Nat → Int32) {m c ro z : Nat} (S : clsS μ m c ro z) {v : Nat} (hv : v ≤ 19) {y : Int32} (hy0 : ¬ 0 ≤ y) : zMi l yX5_holder cX5_holder 3 (some .int) (zrm 5) (zK A D tc tF tL tM) A D vwCl tc ad 299 shC [.ref (ad (0)), .int (nI (v)), .int (y)] μ (fun r u => r = -2 ∧ u = μ) := by
  refine zM_of RX5 [(0, .ref (ad (0))), (1, .int (nI (v))), (2, .int (y))] (zK_ok A D tc tF tL tM) E.1 E.2 owC_ok (by decide +kernel) rfl (Nat.le_of_ble_eq_true rfl) rfl ?_
  intro pP eE sS mM aS bL mT cO X
  obtain ⟨hm, hm2, hc, h8, hr, hr4, hz, hz4⟩ := S
  refine zr_iloadn X 1 dX5_holder_0 rfl ?_
  refine zr_dSi [.int (nI (v))] [] X (zK_ok A D tc tF tL tM) (d_isVintage_t E μ (by omega) (by omega)) k_316 k_301 k_1 k_302 hdX5_isVintage ⟨rfl, rfl⟩ ⟨Nat.le_of_ble_eq_true rfl, Nat.le_of_ble_eq_true rfl⟩ rfl rfl (Nat.le_of_ble_eq_true rfl) dX5_holder_1 ?_
  refine zr_if_ne X 9 dX5_holder_4 (by decide) (fun _ => ?_) (fun q => absurd q (nI_ne0 (by omega) (by omega)))
  refine zr_iloadn X 2 dX5_holder_9 rfl ?_
  refine zr_if_ge X 16 dX5_holder_10 (by decide) (fun q => absurd q (hy0)) (fun _ => ?_)
  refine zr_bipush X (-2) dX5_holder_13 (by decide +kernel) ?_
  exact zr_iret X dX5_holder_15 ⟨rfl, rfl⟩

set_option maxHeartbeats 4000000 in
set_option maxRecDepth 100000 in
theorem d_holder_ok {l : Launch} {D : va_G} {tc : Nat → ClassId} {ad : Nat → Nat} {A : Nat → Prop} {tF tL tM : Nat} (E : zN 299 A ad) (μ : Nat → Int32) {m c ro z : Nat} (S : clsS μ m c ro z) {v : Nat} (hv : v ≤ 19) {y : Int32} (hy0 : 0 ≤ y) : zMi l yX5_holder cX5_holder 3 (some .int) (zrm 5) (zK A D tc tF tL tM) A D vwCl tc ad 299 shC [.ref (ad (0)), .int (nI (v)), .int (y)] μ (fun r u => r = zhol (fun f => μ (32 * f + v + 7)) 8 y 8 ∧ u = μ) := by
  refine zM_of RX5 [(0, .ref (ad (0))), (1, .int (nI (v))), (2, .int (y))] (zK_ok A D tc tF tL tM) E.1 E.2 owC_ok (by decide +kernel) rfl (Nat.le_of_ble_eq_true rfl) rfl ?_
  intro pP eE sS mM aS bL mT cO X
  obtain ⟨hm, hm2, hc, h8, hr, hr4, hz, hz4⟩ := S
  refine zr_iloadn X 1 dX5_holder_0 rfl ?_
  refine zr_dSi [.int (nI (v))] [] X (zK_ok A D tc tF tL tM) (d_isVintage_t E μ (by omega) (by omega)) k_316 k_301 k_1 k_302 hdX5_isVintage ⟨rfl, rfl⟩ ⟨Nat.le_of_ble_eq_true rfl, Nat.le_of_ble_eq_true rfl⟩ rfl rfl (Nat.le_of_ble_eq_true rfl) dX5_holder_1 ?_
  refine zr_if_ne X 9 dX5_holder_4 (by decide) (fun _ => ?_) (fun q => absurd q (nI_ne0 (by omega) (by omega)))
  refine zr_iloadn X 2 dX5_holder_9 rfl ?_
  refine zr_if_ge X 16 dX5_holder_10 (by decide) (fun _ => ?_) (fun q => absurd (hy0) q)
  refine zr_aloadn X 0 dX5_holder_16 rfl ?_
  refine zr_get X (ci := 5) (q := 0) (zR _) (.ref (ad (1))) dX5_holder_17 (by omega) sc_0 rfl inX5 (by decide) rfl (zvR rfl) rfl k_215 ?_
  refine zr_iloadn X 1 dX5_holder_20 rfl ?_
  refine zr_iloadn X 2 dX5_holder_21 rfl ?_
  refine zr_dVi (C := RX2) (ci := 2) [.int (nI (v)), .int (y)] [] X (zK_ok A D tc tF tL tM) (d_holderAt E μ (v := v) (by omega) (z := y)) k_496 k_497 k_498 k_2 k_499 hdX2_holderAt ⟨rfl, rfl⟩ ⟨Nat.le_of_ble_eq_true rfl, Nat.le_of_ble_eq_true rfl⟩ (by omega) (sc_st (j := 0) (by omega) (by have := cb_0; omega)) rfl rfl rfl (Nat.le_of_ble_eq_true rfl) dX5_holder_22 ?_
  exact zr_iret X dX5_holder_25 ⟨rfl, rfl⟩

set_option maxHeartbeats 4000000 in
set_option maxRecDepth 100000 in
theorem d_plan_u {l : Launch} {D : va_G} {tc : Nat → ClassId} {ad : Nat → Nat} {A : Nat → Prop} {tF tL tM : Nat} (E : zN 299 A ad) (μ : Nat → Int32) {m c ro z : Nat} (S : clsS μ m c ro z) {x : Int32} (hx : ¬ zfm x c) (t : Int32) (w : Int32) (y : Int32)  : zMi l yX5_plan cX5_plan 6 (some .int) (zrm 5) (zK A D tc tF tL tM) A D vwCl tc ad 299 shC [.ref (ad (0)), .int (x), .int (t), .int (w), .int (y)] μ (fun r u => r = -1 ∧ u = μ) := by
  refine zM_of RX5 [(0, .ref (ad (0))), (1, .int (x)), (2, .int (t)), (3, .int (w)), (4, .int (y))] (zK_ok A D tc tF tL tM) E.1 E.2 owC_ok (by decide +kernel) rfl (Nat.le_of_ble_eq_true rfl) rfl ?_
  intro pP eE sS mM aS bL mT cO X
  obtain ⟨hm, hm2, hc, h8, hr, hr4, hz, hz4⟩ := S
  refine zr_aloadn X 0 dX5_plan_0 rfl ?_
  refine zr_get X (ci := 5) (q := 0) (zR _) (.ref (ad (1))) dX5_plan_1 (by omega) sc_0 rfl inX5 (by decide) rfl (zvR rfl) rfl k_215 ?_
  refine zr_iloadn X 1 dX5_plan_4 rfl ?_
  refine zr_dVq (C := RX2) (ci := 2) [.int (x)] [] X (zK_ok A D tc tF tL tM) (d_firmAt0_f E μ (hc) h8 hx) k_273 k_274 k_275 k_2 k_276 hdX2_firmAt ⟨rfl, rfl⟩ ⟨Nat.le_of_ble_eq_true rfl, Nat.le_of_ble_eq_true rfl⟩ (by omega) (sc_st (j := 0) (by omega) (by have := cb_0; omega)) rfl rfl rfl (Nat.le_of_ble_eq_true rfl) dX5_plan_5 rfl ?_
  refine zr_astoreN X [1, 2, 3, 4, 5, 0] [(0, .ref (ad (0))), (1, .int (x)), (2, .int (t)), (3, .int (w)), (4, .int (y)), (5, .null)] dX5_plan_8 (by decide) rfl ?_
  refine zr_aloadN X 5 dX5_plan_10 rfl ?_
  refine zr_ifnonnullN X dX5_plan_12 ?_
  refine zr_iconst X (-1) dX5_plan_15 (by decide +kernel) ?_
  exact zr_iret X dX5_plan_16 ⟨rfl, rfl⟩

set_option maxHeartbeats 4000000 in
set_option maxRecDepth 100000 in
theorem d_plan_b1 {l : Launch} {D : va_G} {tc : Nat → ClassId} {ad : Nat → Nat} {A : Nat → Prop} {tF tL tM : Nat} (E : zN 299 A ad) (μ : Nat → Int32) {m c ro z : Nat} (S : clsS μ m c ro z) {f : Nat} (hf : f < c) {x : Int32} (hx : ¬ zin x 1 9999) (w : Int32) (y : Int32)  : zMi l yX5_plan cX5_plan 6 (some .int) (zrm 5) (zK A D tc tF tL tM) A D vwCl tc ad 299 shC [.ref (ad (0)), .int (nI (f)), .int (x), .int (w), .int (y)] μ (fun r u => r = -2 ∧ u = μ) := by
  refine zM_of RX5 [(0, .ref (ad (0))), (1, .int (nI (f))), (2, .int (x)), (3, .int (w)), (4, .int (y))] (zK_ok A D tc tF tL tM) E.1 E.2 owC_ok (by decide +kernel) rfl (Nat.le_of_ble_eq_true rfl) rfl ?_
  intro pP eE sS mM aS bL mT cO X
  obtain ⟨hm, hm2, hc, h8, hr, hr4, hz, hz4⟩ := S
  refine zr_aloadn X 0 dX5_plan_0 rfl ?_
  refine zr_get X (ci := 5) (q := 0) (zR _) (.ref (ad (1))) dX5_plan_1 (by omega) sc_0 rfl inX5 (by decide) rfl (zvR rfl) rfl k_215 ?_
  refine zr_iloadn X 1 dX5_plan_4 rfl ?_
  refine zr_dVq (C := RX2) (ci := 2) [.int (nI (f))] [] X (zK_ok A D tc tF tL tM) (d_firmAt0_t E μ (f := f) (hc) h8 (by omega)) k_273 k_274 k_275 k_2 k_276 hdX2_firmAt ⟨rfl, rfl⟩ ⟨Nat.le_of_ble_eq_true rfl, Nat.le_of_ble_eq_true rfl⟩ (by omega) (sc_st (j := 0) (by omega) (by have := cb_0; omega)) rfl rfl rfl (Nat.le_of_ble_eq_true rfl) dX5_plan_5 rfl ?_
  refine zr_astore X [1, 2, 3, 4, 5, 0] [(0, .ref (ad (0))), (1, .int (nI (f))), (2, .int (x)), (3, .int (w)), (4, .int (y)), (5, .ref (ad (4 * f + 4)))] dX5_plan_8 (by decide) rfl ?_
  refine zr_aload X 5 dX5_plan_10 rfl ?_
  refine zr_ifnonnull X 17 dX5_plan_12 (by decide) ?_
  refine zr_iloadn X 2 dX5_plan_17 rfl ?_
  refine zr_dSi [.int (x)] [] X (zK_ok A D tc tF tL tM) (d_isTonnes_f E μ hx) k_277 k_278 k_1 k_279 hdX5_isTonnes ⟨rfl, rfl⟩ ⟨Nat.le_of_ble_eq_true rfl, Nat.le_of_ble_eq_true rfl⟩ rfl rfl (Nat.le_of_ble_eq_true rfl) dX5_plan_18 ?_
  refine zr_if_eq X 42 dX5_plan_21 (by decide) (fun _ => ?_) (fun q => absurd (zq_eq0 (by omega)) q)
  refine zr_bipush X (-2) dX5_plan_42 (by decide +kernel) ?_
  exact zr_iret X dX5_plan_44 ⟨rfl, rfl⟩

set_option maxHeartbeats 4000000 in
set_option maxRecDepth 100000 in
theorem d_plan_b2 {l : Launch} {D : va_G} {tc : Nat → ClassId} {ad : Nat → Nat} {A : Nat → Prop} {tF tL tM : Nat} (E : zN 299 A ad) (μ : Nat → Int32) {m c ro z : Nat} (S : clsS μ m c ro z) {f : Nat} (hf : f < c) {t : Nat} (ht1 : 1 ≤ t) (ht9 : t ≤ 9999) {x : Int32} (hx : ¬ zin x 0 2) (y : Int32)  : zMi l yX5_plan cX5_plan 6 (some .int) (zrm 5) (zK A D tc tF tL tM) A D vwCl tc ad 299 shC [.ref (ad (0)), .int (nI (f)), .int (nI (t)), .int (x), .int (y)] μ (fun r u => r = -2 ∧ u = μ) := by
  refine zM_of RX5 [(0, .ref (ad (0))), (1, .int (nI (f))), (2, .int (nI (t))), (3, .int (x)), (4, .int (y))] (zK_ok A D tc tF tL tM) E.1 E.2 owC_ok (by decide +kernel) rfl (Nat.le_of_ble_eq_true rfl) rfl ?_
  intro pP eE sS mM aS bL mT cO X
  obtain ⟨hm, hm2, hc, h8, hr, hr4, hz, hz4⟩ := S
  refine zr_aloadn X 0 dX5_plan_0 rfl ?_
  refine zr_get X (ci := 5) (q := 0) (zR _) (.ref (ad (1))) dX5_plan_1 (by omega) sc_0 rfl inX5 (by decide) rfl (zvR rfl) rfl k_215 ?_
  refine zr_iloadn X 1 dX5_plan_4 rfl ?_
  refine zr_dVq (C := RX2) (ci := 2) [.int (nI (f))] [] X (zK_ok A D tc tF tL tM) (d_firmAt0_t E μ (f := f) (hc) h8 (by omega)) k_273 k_274 k_275 k_2 k_276 hdX2_firmAt ⟨rfl, rfl⟩ ⟨Nat.le_of_ble_eq_true rfl, Nat.le_of_ble_eq_true rfl⟩ (by omega) (sc_st (j := 0) (by omega) (by have := cb_0; omega)) rfl rfl rfl (Nat.le_of_ble_eq_true rfl) dX5_plan_5 rfl ?_
  refine zr_astore X [1, 2, 3, 4, 5, 0] [(0, .ref (ad (0))), (1, .int (nI (f))), (2, .int (nI (t))), (3, .int (x)), (4, .int (y)), (5, .ref (ad (4 * f + 4)))] dX5_plan_8 (by decide) rfl ?_
  refine zr_aload X 5 dX5_plan_10 rfl ?_
  refine zr_ifnonnull X 17 dX5_plan_12 (by decide) ?_
  refine zr_iloadn X 2 dX5_plan_17 rfl ?_
  refine zr_dSi [.int (nI (t))] [] X (zK_ok A D tc tF tL tM) (d_isTonnes_t E μ (by omega) (by omega)) k_277 k_278 k_1 k_279 hdX5_isTonnes ⟨rfl, rfl⟩ ⟨Nat.le_of_ble_eq_true rfl, Nat.le_of_ble_eq_true rfl⟩ rfl rfl (Nat.le_of_ble_eq_true rfl) dX5_plan_18 ?_
  refine zr_if_eq X 42 dX5_plan_21 (by decide) (fun q => absurd q (nI_ne0 (by omega) (by omega))) (fun _ => ?_)
  refine zr_iloadn X 3 dX5_plan_24 rfl ?_
  refine zr_dSi [.int (x)] [] X (zK_ok A D tc tF tL tM) (d_isWay_f E μ hx) k_329 k_330 k_1 k_331 hdX5_isWay ⟨rfl, rfl⟩ ⟨Nat.le_of_ble_eq_true rfl, Nat.le_of_ble_eq_true rfl⟩ rfl rfl (Nat.le_of_ble_eq_true rfl) dX5_plan_25 ?_
  refine zr_if_eq X 42 dX5_plan_28 (by decide) (fun _ => ?_) (fun q => absurd (zq_eq0 (by omega)) q)
  refine zr_bipush X (-2) dX5_plan_42 (by decide +kernel) ?_
  exact zr_iret X dX5_plan_44 ⟨rfl, rfl⟩

set_option maxHeartbeats 4000000 in
set_option maxRecDepth 100000 in
theorem d_plan_b3 {l : Launch} {D : va_G} {tc : Nat → ClassId} {ad : Nat → Nat} {A : Nat → Prop} {tF tL tM : Nat} (E : zN 299 A ad) (μ : Nat → Int32) {m c ro z : Nat} (S : clsS μ m c ro z) {f : Nat} (hf : f < c) {t : Nat} (ht1 : 1 ≤ t) (ht9 : t ≤ 9999) {w : Nat} (hw : w ≤ 2) {x : Int32} (hx : ¬ zin x 0 5)  : zMi l yX5_plan cX5_plan 6 (some .int) (zrm 5) (zK A D tc tF tL tM) A D vwCl tc ad 299 shC [.ref (ad (0)), .int (nI (f)), .int (nI (t)), .int (nI (w)), .int (x)] μ (fun r u => r = -2 ∧ u = μ) := by
  refine zM_of RX5 [(0, .ref (ad (0))), (1, .int (nI (f))), (2, .int (nI (t))), (3, .int (nI (w))), (4, .int (x))] (zK_ok A D tc tF tL tM) E.1 E.2 owC_ok (by decide +kernel) rfl (Nat.le_of_ble_eq_true rfl) rfl ?_
  intro pP eE sS mM aS bL mT cO X
  obtain ⟨hm, hm2, hc, h8, hr, hr4, hz, hz4⟩ := S
  refine zr_aloadn X 0 dX5_plan_0 rfl ?_
  refine zr_get X (ci := 5) (q := 0) (zR _) (.ref (ad (1))) dX5_plan_1 (by omega) sc_0 rfl inX5 (by decide) rfl (zvR rfl) rfl k_215 ?_
  refine zr_iloadn X 1 dX5_plan_4 rfl ?_
  refine zr_dVq (C := RX2) (ci := 2) [.int (nI (f))] [] X (zK_ok A D tc tF tL tM) (d_firmAt0_t E μ (f := f) (hc) h8 (by omega)) k_273 k_274 k_275 k_2 k_276 hdX2_firmAt ⟨rfl, rfl⟩ ⟨Nat.le_of_ble_eq_true rfl, Nat.le_of_ble_eq_true rfl⟩ (by omega) (sc_st (j := 0) (by omega) (by have := cb_0; omega)) rfl rfl rfl (Nat.le_of_ble_eq_true rfl) dX5_plan_5 rfl ?_
  refine zr_astore X [1, 2, 3, 4, 5, 0] [(0, .ref (ad (0))), (1, .int (nI (f))), (2, .int (nI (t))), (3, .int (nI (w))), (4, .int (x)), (5, .ref (ad (4 * f + 4)))] dX5_plan_8 (by decide) rfl ?_
  refine zr_aload X 5 dX5_plan_10 rfl ?_
  refine zr_ifnonnull X 17 dX5_plan_12 (by decide) ?_
  refine zr_iloadn X 2 dX5_plan_17 rfl ?_
  refine zr_dSi [.int (nI (t))] [] X (zK_ok A D tc tF tL tM) (d_isTonnes_t E μ (by omega) (by omega)) k_277 k_278 k_1 k_279 hdX5_isTonnes ⟨rfl, rfl⟩ ⟨Nat.le_of_ble_eq_true rfl, Nat.le_of_ble_eq_true rfl⟩ rfl rfl (Nat.le_of_ble_eq_true rfl) dX5_plan_18 ?_
  refine zr_if_eq X 42 dX5_plan_21 (by decide) (fun q => absurd q (nI_ne0 (by omega) (by omega))) (fun _ => ?_)
  refine zr_iloadn X 3 dX5_plan_24 rfl ?_
  refine zr_dSi [.int (nI (w))] [] X (zK_ok A D tc tF tL tM) (d_isWay_t E μ (by omega) (by omega)) k_329 k_330 k_1 k_331 hdX5_isWay ⟨rfl, rfl⟩ ⟨Nat.le_of_ble_eq_true rfl, Nat.le_of_ble_eq_true rfl⟩ rfl rfl (Nat.le_of_ble_eq_true rfl) dX5_plan_25 ?_
  refine zr_if_eq X 42 dX5_plan_28 (by decide) (fun q => absurd q (nI_ne0 (by omega) (by omega))) (fun _ => ?_)
  refine zr_iload X 4 dX5_plan_31 rfl ?_
  refine zr_if_lt X 42 dX5_plan_33 (by decide) (fun h33 => ?_) (fun h33 => ?_)
  · refine zr_bipush X (-2) dX5_plan_42 (by decide +kernel) ?_
    exact zr_iret X dX5_plan_44 ⟨rfl, rfl⟩
  · refine zr_iload X 4 dX5_plan_36 rfl ?_
    refine zr_iconst X (nI (5)) dX5_plan_38 (by decide +kernel) ?_
    refine zr_icmp_le X 45 dX5_plan_39 (by decide) (fun q => absurd q (fun q => hx (zin_of (by omega) (by rw [nI_0]; exact Int32.not_lt.mp h33) q (by omega)))) (fun _ => ?_)
    refine zr_bipush X (-2) dX5_plan_42 (by decide +kernel) ?_
    exact zr_iret X dX5_plan_44 ⟨rfl, rfl⟩

set_option maxHeartbeats 4000000 in
set_option maxRecDepth 100000 in
theorem d_plan_n0 {l : Launch} {D : va_G} {tc : Nat → ClassId} {ad : Nat → Nat} {A : Nat → Prop} {tF tL tM : Nat} (E : zN 299 A ad) (μ : Nat → Int32) {m c ro z : Nat} (S : clsS μ m c ro z) {f : Nat} (hf : f < c) {t : Nat} (ht1 : 1 ≤ t) (ht9 : t ≤ 9999) {w : Nat} (hw : w ≤ 5) (h : ¬ clay μ f (nI t) 0 2458 ≤ 0) : zMi l yX5_plan cX5_plan 6 (some .int) (zrm 5) (zK A D tc tF tL tM) A D vwCl tc ad 299 shC [.ref (ad (0)), .int (nI (f)), .int (nI (t)), .int (nI (0)), .int (nI (w))] μ (fun r u => r = -4 ∧ u = clay μ f (nI t) 0) := by
  refine zM_of RX5 [(0, .ref (ad (0))), (1, .int (nI (f))), (2, .int (nI (t))), (3, .int (nI (0))), (4, .int (nI (w)))] (zK_ok A D tc tF tL tM) E.1 E.2 owC_ok (by decide +kernel) rfl (Nat.le_of_ble_eq_true rfl) rfl ?_
  intro pP eE sS mM aS bL mT cO X
  obtain ⟨hm, hm2, hc, h8, hr, hr4, hz, hz4⟩ := S
  refine zr_aloadn X 0 dX5_plan_0 rfl ?_
  refine zr_get X (ci := 5) (q := 0) (zR _) (.ref (ad (1))) dX5_plan_1 (by omega) sc_0 rfl inX5 (by decide) rfl (zvR rfl) rfl k_215 ?_
  refine zr_iloadn X 1 dX5_plan_4 rfl ?_
  refine zr_dVq (C := RX2) (ci := 2) [.int (nI (f))] [] X (zK_ok A D tc tF tL tM) (d_firmAt0_t E μ (f := f) (hc) h8 (by omega)) k_273 k_274 k_275 k_2 k_276 hdX2_firmAt ⟨rfl, rfl⟩ ⟨Nat.le_of_ble_eq_true rfl, Nat.le_of_ble_eq_true rfl⟩ (by omega) (sc_st (j := 0) (by omega) (by have := cb_0; omega)) rfl rfl rfl (Nat.le_of_ble_eq_true rfl) dX5_plan_5 rfl ?_
  refine zr_astore X [1, 2, 3, 4, 5, 0] [(0, .ref (ad (0))), (1, .int (nI (f))), (2, .int (nI (t))), (3, .int (nI (0))), (4, .int (nI (w))), (5, .ref (ad (4 * f + 4)))] dX5_plan_8 (by decide) rfl ?_
  refine zr_aload X 5 dX5_plan_10 rfl ?_
  refine zr_ifnonnull X 17 dX5_plan_12 (by decide) ?_
  refine zr_iloadn X 2 dX5_plan_17 rfl ?_
  refine zr_dSi [.int (nI (t))] [] X (zK_ok A D tc tF tL tM) (d_isTonnes_t E μ (by omega) (by omega)) k_277 k_278 k_1 k_279 hdX5_isTonnes ⟨rfl, rfl⟩ ⟨Nat.le_of_ble_eq_true rfl, Nat.le_of_ble_eq_true rfl⟩ rfl rfl (Nat.le_of_ble_eq_true rfl) dX5_plan_18 ?_
  refine zr_if_eq X 42 dX5_plan_21 (by decide) (fun q => absurd q (nI_ne0 (by omega) (by omega))) (fun _ => ?_)
  refine zr_iloadn X 3 dX5_plan_24 rfl ?_
  refine zr_dSi [.int (nI (0))] [] X (zK_ok A D tc tF tL tM) (d_isWay_t E μ (by omega) (by omega)) k_329 k_330 k_1 k_331 hdX5_isWay ⟨rfl, rfl⟩ ⟨Nat.le_of_ble_eq_true rfl, Nat.le_of_ble_eq_true rfl⟩ rfl rfl (Nat.le_of_ble_eq_true rfl) dX5_plan_25 ?_
  refine zr_if_eq X 42 dX5_plan_28 (by decide) (fun q => absurd q (nI_ne0 (by omega) (by omega))) (fun _ => ?_)
  refine zr_iload X 4 dX5_plan_31 rfl ?_
  refine zr_if_lt X 42 dX5_plan_33 (by decide) (fun q => absurd q (nI_pos (by omega))) (fun _ => ?_)
  refine zr_iload X 4 dX5_plan_36 rfl ?_
  refine zr_iconst X (nI (5)) dX5_plan_38 (by decide +kernel) ?_
  refine zr_icmp_le X 45 dX5_plan_39 (by decide) (fun _ => ?_) (fun q => absurd (zq_le (by omega) (by omega)) q)
  refine zr_aloadn X 0 dX5_plan_45 rfl ?_
  refine zr_get X (ci := 5) (q := 4) (zR _) (.ref (ad (290))) dX5_plan_46 (by omega) sc_0 rfl inX5 (by decide) rfl (zvR rfl) rfl k_219 ?_
  refine zr_aload X 5 dX5_plan_49 rfl ?_
  refine zr_aloadn X 0 dX5_plan_51 rfl ?_
  refine zr_get X (ci := 5) (q := 0) (zR _) (.ref (ad (1))) dX5_plan_52 (by omega) sc_0 rfl inX5 (by decide) rfl (zvR rfl) rfl k_215 ?_
  refine zr_get X (ci := 2) (q := 2) (zR _) (.ref (ad (2))) dX5_plan_55 (by omega) (sc_st (j := 0) (by omega) (by have := cb_0; omega)) rfl inX2 (by decide) rfl (zvR (by have := cb_0; omega)) rfl k_87 ?_
  refine zr_iloadn X 2 dX5_plan_58 rfl ?_
  refine zr_iloadn X 3 dX5_plan_59 rfl ?_
  refine zr_dVv (C := RX3) (ci := 3) [.ref (ad (4 * f + 4)), .ref (ad (2)), .int (nI (t)), .int (nI (0))] [] X (zK_ok A D tc tF tL tM) (d_workOut0 E μ (f := f) (t := t) (by omega) ht1 ht9) k_332 k_333 k_334 k_5 k_335 hdX3_workOut ⟨rfl, rfl⟩ ⟨Nat.le_of_ble_eq_true rfl, Nat.le_of_ble_eq_true rfl⟩ (by omega) sc_290 rfl rfl rfl (Nat.le_of_ble_eq_true rfl) dX5_plan_60 ?_
  refine zr_aloadn X 0 dX5_plan_63 rfl ?_
  refine zr_get X (ci := 5) (q := 4) (zR _) (.ref (ad (290))) dX5_plan_64 (by omega) sc_0 rfl inX5 (by decide) rfl (zvR rfl) rfl k_219 ?_
  refine zr_get X (ci := 3) (q := 5) zI (.int ((clay μ f (nI t) 0) (2458))) dX5_plan_67 (by omega) sc_290 rfl inX3 (by decide) rfl (congrArg Value.int (rfl)) rfl k_161 ?_
  refine zr_if_le X 76 dX5_plan_70 (by decide) (fun q => absurd q (h)) (fun _ => ?_)
  refine zr_bipush X (-4) dX5_plan_73 (by decide +kernel) ?_
  exact zr_iret X dX5_plan_75 ⟨rfl, rfl⟩

set_option maxHeartbeats 4000000 in
set_option maxRecDepth 100000 in
theorem d_plan_0_0 {l : Launch} {D : va_G} {tc : Nat → ClassId} {ad : Nat → Nat} {A : Nat → Prop} {tF tL tM : Nat} (E : zN 299 A ad) (μ : Nat → Int32) {m c ro z : Nat} (S : clsS μ m c ro z) {f : Nat} (hf : f < c) {t : Nat} (ht1 : 1 ≤ t) (ht9 : t ≤ 9999) (h : clay μ f (nI t) 0 2458 ≤ 0) : zMi l yX5_plan cX5_plan 6 (some .int) (zrm 5) (zK A D tc tF tL tM) A D vwCl tc ad 299 shC [.ref (ad (0)), .int (nI (f)), .int (nI (t)), .int (nI (0)), .int (nI (0))] μ (fun r u => r = clay μ f (nI t) 0 2455 ∧ u = clay μ f (nI t) 0) := by
  refine zM_of RX5 [(0, .ref (ad (0))), (1, .int (nI (f))), (2, .int (nI (t))), (3, .int (nI (0))), (4, .int (nI (0)))] (zK_ok A D tc tF tL tM) E.1 E.2 owC_ok (by decide +kernel) rfl (Nat.le_of_ble_eq_true rfl) rfl ?_
  intro pP eE sS mM aS bL mT cO X
  obtain ⟨hm, hm2, hc, h8, hr, hr4, hz, hz4⟩ := S
  refine zr_aloadn X 0 dX5_plan_0 rfl ?_
  refine zr_get X (ci := 5) (q := 0) (zR _) (.ref (ad (1))) dX5_plan_1 (by omega) sc_0 rfl inX5 (by decide) rfl (zvR rfl) rfl k_215 ?_
  refine zr_iloadn X 1 dX5_plan_4 rfl ?_
  refine zr_dVq (C := RX2) (ci := 2) [.int (nI (f))] [] X (zK_ok A D tc tF tL tM) (d_firmAt0_t E μ (f := f) (hc) h8 (by omega)) k_273 k_274 k_275 k_2 k_276 hdX2_firmAt ⟨rfl, rfl⟩ ⟨Nat.le_of_ble_eq_true rfl, Nat.le_of_ble_eq_true rfl⟩ (by omega) (sc_st (j := 0) (by omega) (by have := cb_0; omega)) rfl rfl rfl (Nat.le_of_ble_eq_true rfl) dX5_plan_5 rfl ?_
  refine zr_astore X [1, 2, 3, 4, 5, 0] [(0, .ref (ad (0))), (1, .int (nI (f))), (2, .int (nI (t))), (3, .int (nI (0))), (4, .int (nI (0))), (5, .ref (ad (4 * f + 4)))] dX5_plan_8 (by decide) rfl ?_
  refine zr_aload X 5 dX5_plan_10 rfl ?_
  refine zr_ifnonnull X 17 dX5_plan_12 (by decide) ?_
  refine zr_iloadn X 2 dX5_plan_17 rfl ?_
  refine zr_dSi [.int (nI (t))] [] X (zK_ok A D tc tF tL tM) (d_isTonnes_t E μ (by omega) (by omega)) k_277 k_278 k_1 k_279 hdX5_isTonnes ⟨rfl, rfl⟩ ⟨Nat.le_of_ble_eq_true rfl, Nat.le_of_ble_eq_true rfl⟩ rfl rfl (Nat.le_of_ble_eq_true rfl) dX5_plan_18 ?_
  refine zr_if_eq X 42 dX5_plan_21 (by decide) (fun q => absurd q (nI_ne0 (by omega) (by omega))) (fun _ => ?_)
  refine zr_iloadn X 3 dX5_plan_24 rfl ?_
  refine zr_dSi [.int (nI (0))] [] X (zK_ok A D tc tF tL tM) (d_isWay_t E μ (by omega) (by omega)) k_329 k_330 k_1 k_331 hdX5_isWay ⟨rfl, rfl⟩ ⟨Nat.le_of_ble_eq_true rfl, Nat.le_of_ble_eq_true rfl⟩ rfl rfl (Nat.le_of_ble_eq_true rfl) dX5_plan_25 ?_
  refine zr_if_eq X 42 dX5_plan_28 (by decide) (fun q => absurd q (nI_ne0 (by omega) (by omega))) (fun _ => ?_)
  refine zr_iload X 4 dX5_plan_31 rfl ?_
  refine zr_if_lt X 42 dX5_plan_33 (by decide) (fun q => absurd q (nI_pos (by omega))) (fun _ => ?_)
  refine zr_iload X 4 dX5_plan_36 rfl ?_
  refine zr_iconst X (nI (5)) dX5_plan_38 (by decide +kernel) ?_
  refine zr_icmp_le X 45 dX5_plan_39 (by decide) (fun _ => ?_) (fun q => absurd (zq_le (by omega) (by omega)) q)
  refine zr_aloadn X 0 dX5_plan_45 rfl ?_
  refine zr_get X (ci := 5) (q := 4) (zR _) (.ref (ad (290))) dX5_plan_46 (by omega) sc_0 rfl inX5 (by decide) rfl (zvR rfl) rfl k_219 ?_
  refine zr_aload X 5 dX5_plan_49 rfl ?_
  refine zr_aloadn X 0 dX5_plan_51 rfl ?_
  refine zr_get X (ci := 5) (q := 0) (zR _) (.ref (ad (1))) dX5_plan_52 (by omega) sc_0 rfl inX5 (by decide) rfl (zvR rfl) rfl k_215 ?_
  refine zr_get X (ci := 2) (q := 2) (zR _) (.ref (ad (2))) dX5_plan_55 (by omega) (sc_st (j := 0) (by omega) (by have := cb_0; omega)) rfl inX2 (by decide) rfl (zvR (by have := cb_0; omega)) rfl k_87 ?_
  refine zr_iloadn X 2 dX5_plan_58 rfl ?_
  refine zr_iloadn X 3 dX5_plan_59 rfl ?_
  refine zr_dVv (C := RX3) (ci := 3) [.ref (ad (4 * f + 4)), .ref (ad (2)), .int (nI (t)), .int (nI (0))] [] X (zK_ok A D tc tF tL tM) (d_workOut0 E μ (f := f) (t := t) (by omega) ht1 ht9) k_332 k_333 k_334 k_5 k_335 hdX3_workOut ⟨rfl, rfl⟩ ⟨Nat.le_of_ble_eq_true rfl, Nat.le_of_ble_eq_true rfl⟩ (by omega) sc_290 rfl rfl rfl (Nat.le_of_ble_eq_true rfl) dX5_plan_60 ?_
  refine zr_aloadn X 0 dX5_plan_63 rfl ?_
  refine zr_get X (ci := 5) (q := 4) (zR _) (.ref (ad (290))) dX5_plan_64 (by omega) sc_0 rfl inX5 (by decide) rfl (zvR rfl) rfl k_219 ?_
  refine zr_get X (ci := 3) (q := 5) zI (.int ((clay μ f (nI t) 0) (2458))) dX5_plan_67 (by omega) sc_290 rfl inX3 (by decide) rfl (congrArg Value.int (rfl)) rfl k_161 ?_
  refine zr_if_le X 76 dX5_plan_70 (by decide) (fun _ => ?_) (fun q => absurd (h) q)
  refine zr_iload X 4 dX5_plan_76 rfl ?_
  refine zr_tswI (off := 34) X 112 dX5_plan_78 ⟨by decide +kernel, by decide +kernel, by decide +kernel⟩ (by decide) ?_
  refine zr_aloadn X 0 dX5_plan_112 rfl ?_
  refine zr_get X (ci := 5) (q := 4) (zR _) (.ref (ad (290))) dX5_plan_113 (by omega) sc_0 rfl inX5 (by decide) rfl (zvR rfl) rfl k_219 ?_
  refine zr_get X (ci := 3) (q := 2) zI (.int ((clay μ f (nI t) 0) (2455))) dX5_plan_116 (by omega) sc_290 rfl inX3 (by decide) rfl (congrArg Value.int (rfl)) rfl k_155 ?_
  exact zr_iret X dX5_plan_119 ⟨rfl, rfl⟩

set_option maxHeartbeats 4000000 in
set_option maxRecDepth 100000 in
theorem d_plan_0_1 {l : Launch} {D : va_G} {tc : Nat → ClassId} {ad : Nat → Nat} {A : Nat → Prop} {tF tL tM : Nat} (E : zN 299 A ad) (μ : Nat → Int32) {m c ro z : Nat} (S : clsS μ m c ro z) {f : Nat} (hf : f < c) {t : Nat} (ht1 : 1 ≤ t) (ht9 : t ≤ 9999) (h : clay μ f (nI t) 0 2458 ≤ 0) : zMi l yX5_plan cX5_plan 6 (some .int) (zrm 5) (zK A D tc tF tL tM) A D vwCl tc ad 299 shC [.ref (ad (0)), .int (nI (f)), .int (nI (t)), .int (nI (0)), .int (nI (1))] μ (fun r u => r = clay μ f (nI t) 0 2480 ∧ u = clay μ f (nI t) 0) := by
  refine zM_of RX5 [(0, .ref (ad (0))), (1, .int (nI (f))), (2, .int (nI (t))), (3, .int (nI (0))), (4, .int (nI (1)))] (zK_ok A D tc tF tL tM) E.1 E.2 owC_ok (by decide +kernel) rfl (Nat.le_of_ble_eq_true rfl) rfl ?_
  intro pP eE sS mM aS bL mT cO X
  obtain ⟨hm, hm2, hc, h8, hr, hr4, hz, hz4⟩ := S
  refine zr_aloadn X 0 dX5_plan_0 rfl ?_
  refine zr_get X (ci := 5) (q := 0) (zR _) (.ref (ad (1))) dX5_plan_1 (by omega) sc_0 rfl inX5 (by decide) rfl (zvR rfl) rfl k_215 ?_
  refine zr_iloadn X 1 dX5_plan_4 rfl ?_
  refine zr_dVq (C := RX2) (ci := 2) [.int (nI (f))] [] X (zK_ok A D tc tF tL tM) (d_firmAt0_t E μ (f := f) (hc) h8 (by omega)) k_273 k_274 k_275 k_2 k_276 hdX2_firmAt ⟨rfl, rfl⟩ ⟨Nat.le_of_ble_eq_true rfl, Nat.le_of_ble_eq_true rfl⟩ (by omega) (sc_st (j := 0) (by omega) (by have := cb_0; omega)) rfl rfl rfl (Nat.le_of_ble_eq_true rfl) dX5_plan_5 rfl ?_
  refine zr_astore X [1, 2, 3, 4, 5, 0] [(0, .ref (ad (0))), (1, .int (nI (f))), (2, .int (nI (t))), (3, .int (nI (0))), (4, .int (nI (1))), (5, .ref (ad (4 * f + 4)))] dX5_plan_8 (by decide) rfl ?_
  refine zr_aload X 5 dX5_plan_10 rfl ?_
  refine zr_ifnonnull X 17 dX5_plan_12 (by decide) ?_
  refine zr_iloadn X 2 dX5_plan_17 rfl ?_
  refine zr_dSi [.int (nI (t))] [] X (zK_ok A D tc tF tL tM) (d_isTonnes_t E μ (by omega) (by omega)) k_277 k_278 k_1 k_279 hdX5_isTonnes ⟨rfl, rfl⟩ ⟨Nat.le_of_ble_eq_true rfl, Nat.le_of_ble_eq_true rfl⟩ rfl rfl (Nat.le_of_ble_eq_true rfl) dX5_plan_18 ?_
  refine zr_if_eq X 42 dX5_plan_21 (by decide) (fun q => absurd q (nI_ne0 (by omega) (by omega))) (fun _ => ?_)
  refine zr_iloadn X 3 dX5_plan_24 rfl ?_
  refine zr_dSi [.int (nI (0))] [] X (zK_ok A D tc tF tL tM) (d_isWay_t E μ (by omega) (by omega)) k_329 k_330 k_1 k_331 hdX5_isWay ⟨rfl, rfl⟩ ⟨Nat.le_of_ble_eq_true rfl, Nat.le_of_ble_eq_true rfl⟩ rfl rfl (Nat.le_of_ble_eq_true rfl) dX5_plan_25 ?_
  refine zr_if_eq X 42 dX5_plan_28 (by decide) (fun q => absurd q (nI_ne0 (by omega) (by omega))) (fun _ => ?_)
  refine zr_iload X 4 dX5_plan_31 rfl ?_
  refine zr_if_lt X 42 dX5_plan_33 (by decide) (fun q => absurd q (nI_pos (by omega))) (fun _ => ?_)
  refine zr_iload X 4 dX5_plan_36 rfl ?_
  refine zr_iconst X (nI (5)) dX5_plan_38 (by decide +kernel) ?_
  refine zr_icmp_le X 45 dX5_plan_39 (by decide) (fun _ => ?_) (fun q => absurd (zq_le (by omega) (by omega)) q)
  refine zr_aloadn X 0 dX5_plan_45 rfl ?_
  refine zr_get X (ci := 5) (q := 4) (zR _) (.ref (ad (290))) dX5_plan_46 (by omega) sc_0 rfl inX5 (by decide) rfl (zvR rfl) rfl k_219 ?_
  refine zr_aload X 5 dX5_plan_49 rfl ?_
  refine zr_aloadn X 0 dX5_plan_51 rfl ?_
  refine zr_get X (ci := 5) (q := 0) (zR _) (.ref (ad (1))) dX5_plan_52 (by omega) sc_0 rfl inX5 (by decide) rfl (zvR rfl) rfl k_215 ?_
  refine zr_get X (ci := 2) (q := 2) (zR _) (.ref (ad (2))) dX5_plan_55 (by omega) (sc_st (j := 0) (by omega) (by have := cb_0; omega)) rfl inX2 (by decide) rfl (zvR (by have := cb_0; omega)) rfl k_87 ?_
  refine zr_iloadn X 2 dX5_plan_58 rfl ?_
  refine zr_iloadn X 3 dX5_plan_59 rfl ?_
  refine zr_dVv (C := RX3) (ci := 3) [.ref (ad (4 * f + 4)), .ref (ad (2)), .int (nI (t)), .int (nI (0))] [] X (zK_ok A D tc tF tL tM) (d_workOut0 E μ (f := f) (t := t) (by omega) ht1 ht9) k_332 k_333 k_334 k_5 k_335 hdX3_workOut ⟨rfl, rfl⟩ ⟨Nat.le_of_ble_eq_true rfl, Nat.le_of_ble_eq_true rfl⟩ (by omega) sc_290 rfl rfl rfl (Nat.le_of_ble_eq_true rfl) dX5_plan_60 ?_
  refine zr_aloadn X 0 dX5_plan_63 rfl ?_
  refine zr_get X (ci := 5) (q := 4) (zR _) (.ref (ad (290))) dX5_plan_64 (by omega) sc_0 rfl inX5 (by decide) rfl (zvR rfl) rfl k_219 ?_
  refine zr_get X (ci := 3) (q := 5) zI (.int ((clay μ f (nI t) 0) (2458))) dX5_plan_67 (by omega) sc_290 rfl inX3 (by decide) rfl (congrArg Value.int (rfl)) rfl k_161 ?_
  refine zr_if_le X 76 dX5_plan_70 (by decide) (fun _ => ?_) (fun q => absurd (h) q)
  refine zr_iload X 4 dX5_plan_76 rfl ?_
  refine zr_tswI (off := 42) X 120 dX5_plan_78 ⟨by decide +kernel, by decide +kernel, by decide +kernel⟩ (by decide) ?_
  refine zr_aloadn X 0 dX5_plan_120 rfl ?_
  refine zr_get X (ci := 5) (q := 4) (zR _) (.ref (ad (290))) dX5_plan_121 (by omega) sc_0 rfl inX5 (by decide) rfl (zvR rfl) rfl k_219 ?_
  refine zr_get X (ci := 3) (q := 1) (zR _) (.ref (ad (292))) dX5_plan_124 (by omega) sc_290 rfl inX3 (by decide) rfl (zvR rfl) rfl k_153 ?_
  refine zr_iconst X (nI (0)) dX5_plan_127 (by decide +kernel) ?_
  refine zr_iald X (j := 0) 0 ((clay μ f (nI t) 0) (2480)) dX5_plan_128 (by omega) sc_292 rfl rfl (by omega) (by omega) (zcg (b := 2480) (by omega) (rfl)) ?_
  exact zr_iret X dX5_plan_129 ⟨rfl, rfl⟩

set_option maxHeartbeats 4000000 in
set_option maxRecDepth 100000 in
theorem d_plan_0_2 {l : Launch} {D : va_G} {tc : Nat → ClassId} {ad : Nat → Nat} {A : Nat → Prop} {tF tL tM : Nat} (E : zN 299 A ad) (μ : Nat → Int32) {m c ro z : Nat} (S : clsS μ m c ro z) {f : Nat} (hf : f < c) {t : Nat} (ht1 : 1 ≤ t) (ht9 : t ≤ 9999) (h : clay μ f (nI t) 0 2458 ≤ 0) : zMi l yX5_plan cX5_plan 6 (some .int) (zrm 5) (zK A D tc tF tL tM) A D vwCl tc ad 299 shC [.ref (ad (0)), .int (nI (f)), .int (nI (t)), .int (nI (0)), .int (nI (2))] μ (fun r u => r = clay μ f (nI t) 0 2481 ∧ u = clay μ f (nI t) 0) := by
  refine zM_of RX5 [(0, .ref (ad (0))), (1, .int (nI (f))), (2, .int (nI (t))), (3, .int (nI (0))), (4, .int (nI (2)))] (zK_ok A D tc tF tL tM) E.1 E.2 owC_ok (by decide +kernel) rfl (Nat.le_of_ble_eq_true rfl) rfl ?_
  intro pP eE sS mM aS bL mT cO X
  obtain ⟨hm, hm2, hc, h8, hr, hr4, hz, hz4⟩ := S
  refine zr_aloadn X 0 dX5_plan_0 rfl ?_
  refine zr_get X (ci := 5) (q := 0) (zR _) (.ref (ad (1))) dX5_plan_1 (by omega) sc_0 rfl inX5 (by decide) rfl (zvR rfl) rfl k_215 ?_
  refine zr_iloadn X 1 dX5_plan_4 rfl ?_
  refine zr_dVq (C := RX2) (ci := 2) [.int (nI (f))] [] X (zK_ok A D tc tF tL tM) (d_firmAt0_t E μ (f := f) (hc) h8 (by omega)) k_273 k_274 k_275 k_2 k_276 hdX2_firmAt ⟨rfl, rfl⟩ ⟨Nat.le_of_ble_eq_true rfl, Nat.le_of_ble_eq_true rfl⟩ (by omega) (sc_st (j := 0) (by omega) (by have := cb_0; omega)) rfl rfl rfl (Nat.le_of_ble_eq_true rfl) dX5_plan_5 rfl ?_
  refine zr_astore X [1, 2, 3, 4, 5, 0] [(0, .ref (ad (0))), (1, .int (nI (f))), (2, .int (nI (t))), (3, .int (nI (0))), (4, .int (nI (2))), (5, .ref (ad (4 * f + 4)))] dX5_plan_8 (by decide) rfl ?_
  refine zr_aload X 5 dX5_plan_10 rfl ?_
  refine zr_ifnonnull X 17 dX5_plan_12 (by decide) ?_
  refine zr_iloadn X 2 dX5_plan_17 rfl ?_
  refine zr_dSi [.int (nI (t))] [] X (zK_ok A D tc tF tL tM) (d_isTonnes_t E μ (by omega) (by omega)) k_277 k_278 k_1 k_279 hdX5_isTonnes ⟨rfl, rfl⟩ ⟨Nat.le_of_ble_eq_true rfl, Nat.le_of_ble_eq_true rfl⟩ rfl rfl (Nat.le_of_ble_eq_true rfl) dX5_plan_18 ?_
  refine zr_if_eq X 42 dX5_plan_21 (by decide) (fun q => absurd q (nI_ne0 (by omega) (by omega))) (fun _ => ?_)
  refine zr_iloadn X 3 dX5_plan_24 rfl ?_
  refine zr_dSi [.int (nI (0))] [] X (zK_ok A D tc tF tL tM) (d_isWay_t E μ (by omega) (by omega)) k_329 k_330 k_1 k_331 hdX5_isWay ⟨rfl, rfl⟩ ⟨Nat.le_of_ble_eq_true rfl, Nat.le_of_ble_eq_true rfl⟩ rfl rfl (Nat.le_of_ble_eq_true rfl) dX5_plan_25 ?_
  refine zr_if_eq X 42 dX5_plan_28 (by decide) (fun q => absurd q (nI_ne0 (by omega) (by omega))) (fun _ => ?_)
  refine zr_iload X 4 dX5_plan_31 rfl ?_
  refine zr_if_lt X 42 dX5_plan_33 (by decide) (fun q => absurd q (nI_pos (by omega))) (fun _ => ?_)
  refine zr_iload X 4 dX5_plan_36 rfl ?_
  refine zr_iconst X (nI (5)) dX5_plan_38 (by decide +kernel) ?_
  refine zr_icmp_le X 45 dX5_plan_39 (by decide) (fun _ => ?_) (fun q => absurd (zq_le (by omega) (by omega)) q)
  refine zr_aloadn X 0 dX5_plan_45 rfl ?_
  refine zr_get X (ci := 5) (q := 4) (zR _) (.ref (ad (290))) dX5_plan_46 (by omega) sc_0 rfl inX5 (by decide) rfl (zvR rfl) rfl k_219 ?_
  refine zr_aload X 5 dX5_plan_49 rfl ?_
  refine zr_aloadn X 0 dX5_plan_51 rfl ?_
  refine zr_get X (ci := 5) (q := 0) (zR _) (.ref (ad (1))) dX5_plan_52 (by omega) sc_0 rfl inX5 (by decide) rfl (zvR rfl) rfl k_215 ?_
  refine zr_get X (ci := 2) (q := 2) (zR _) (.ref (ad (2))) dX5_plan_55 (by omega) (sc_st (j := 0) (by omega) (by have := cb_0; omega)) rfl inX2 (by decide) rfl (zvR (by have := cb_0; omega)) rfl k_87 ?_
  refine zr_iloadn X 2 dX5_plan_58 rfl ?_
  refine zr_iloadn X 3 dX5_plan_59 rfl ?_
  refine zr_dVv (C := RX3) (ci := 3) [.ref (ad (4 * f + 4)), .ref (ad (2)), .int (nI (t)), .int (nI (0))] [] X (zK_ok A D tc tF tL tM) (d_workOut0 E μ (f := f) (t := t) (by omega) ht1 ht9) k_332 k_333 k_334 k_5 k_335 hdX3_workOut ⟨rfl, rfl⟩ ⟨Nat.le_of_ble_eq_true rfl, Nat.le_of_ble_eq_true rfl⟩ (by omega) sc_290 rfl rfl rfl (Nat.le_of_ble_eq_true rfl) dX5_plan_60 ?_
  refine zr_aloadn X 0 dX5_plan_63 rfl ?_
  refine zr_get X (ci := 5) (q := 4) (zR _) (.ref (ad (290))) dX5_plan_64 (by omega) sc_0 rfl inX5 (by decide) rfl (zvR rfl) rfl k_219 ?_
  refine zr_get X (ci := 3) (q := 5) zI (.int ((clay μ f (nI t) 0) (2458))) dX5_plan_67 (by omega) sc_290 rfl inX3 (by decide) rfl (congrArg Value.int (rfl)) rfl k_161 ?_
  refine zr_if_le X 76 dX5_plan_70 (by decide) (fun _ => ?_) (fun q => absurd (h) q)
  refine zr_iload X 4 dX5_plan_76 rfl ?_
  refine zr_tswI (off := 52) X 130 dX5_plan_78 ⟨by decide +kernel, by decide +kernel, by decide +kernel⟩ (by decide) ?_
  refine zr_aloadn X 0 dX5_plan_130 rfl ?_
  refine zr_get X (ci := 5) (q := 4) (zR _) (.ref (ad (290))) dX5_plan_131 (by omega) sc_0 rfl inX5 (by decide) rfl (zvR rfl) rfl k_219 ?_
  refine zr_get X (ci := 3) (q := 1) (zR _) (.ref (ad (292))) dX5_plan_134 (by omega) sc_290 rfl inX3 (by decide) rfl (zvR rfl) rfl k_153 ?_
  refine zr_iconst X (nI (1)) dX5_plan_137 (by decide +kernel) ?_
  refine zr_iald X (j := 1) 0 ((clay μ f (nI t) 0) (2481)) dX5_plan_138 (by omega) sc_292 rfl rfl (by omega) (by omega) (zcg (b := 2481) (by omega) (rfl)) ?_
  exact zr_iret X dX5_plan_139 ⟨rfl, rfl⟩

set_option maxHeartbeats 4000000 in
set_option maxRecDepth 100000 in
theorem d_plan_0_3 {l : Launch} {D : va_G} {tc : Nat → ClassId} {ad : Nat → Nat} {A : Nat → Prop} {tF tL tM : Nat} (E : zN 299 A ad) (μ : Nat → Int32) {m c ro z : Nat} (S : clsS μ m c ro z) {f : Nat} (hf : f < c) {t : Nat} (ht1 : 1 ≤ t) (ht9 : t ≤ 9999) (h : clay μ f (nI t) 0 2458 ≤ 0) : zMi l yX5_plan cX5_plan 6 (some .int) (zrm 5) (zK A D tc tF tL tM) A D vwCl tc ad 299 shC [.ref (ad (0)), .int (nI (f)), .int (nI (t)), .int (nI (0)), .int (nI (3))] μ (fun r u => r = clay μ f (nI t) 0 2482 ∧ u = clay μ f (nI t) 0) := by
  refine zM_of RX5 [(0, .ref (ad (0))), (1, .int (nI (f))), (2, .int (nI (t))), (3, .int (nI (0))), (4, .int (nI (3)))] (zK_ok A D tc tF tL tM) E.1 E.2 owC_ok (by decide +kernel) rfl (Nat.le_of_ble_eq_true rfl) rfl ?_
  intro pP eE sS mM aS bL mT cO X
  obtain ⟨hm, hm2, hc, h8, hr, hr4, hz, hz4⟩ := S
  refine zr_aloadn X 0 dX5_plan_0 rfl ?_
  refine zr_get X (ci := 5) (q := 0) (zR _) (.ref (ad (1))) dX5_plan_1 (by omega) sc_0 rfl inX5 (by decide) rfl (zvR rfl) rfl k_215 ?_
  refine zr_iloadn X 1 dX5_plan_4 rfl ?_
  refine zr_dVq (C := RX2) (ci := 2) [.int (nI (f))] [] X (zK_ok A D tc tF tL tM) (d_firmAt0_t E μ (f := f) (hc) h8 (by omega)) k_273 k_274 k_275 k_2 k_276 hdX2_firmAt ⟨rfl, rfl⟩ ⟨Nat.le_of_ble_eq_true rfl, Nat.le_of_ble_eq_true rfl⟩ (by omega) (sc_st (j := 0) (by omega) (by have := cb_0; omega)) rfl rfl rfl (Nat.le_of_ble_eq_true rfl) dX5_plan_5 rfl ?_
  refine zr_astore X [1, 2, 3, 4, 5, 0] [(0, .ref (ad (0))), (1, .int (nI (f))), (2, .int (nI (t))), (3, .int (nI (0))), (4, .int (nI (3))), (5, .ref (ad (4 * f + 4)))] dX5_plan_8 (by decide) rfl ?_
  refine zr_aload X 5 dX5_plan_10 rfl ?_
  refine zr_ifnonnull X 17 dX5_plan_12 (by decide) ?_
  refine zr_iloadn X 2 dX5_plan_17 rfl ?_
  refine zr_dSi [.int (nI (t))] [] X (zK_ok A D tc tF tL tM) (d_isTonnes_t E μ (by omega) (by omega)) k_277 k_278 k_1 k_279 hdX5_isTonnes ⟨rfl, rfl⟩ ⟨Nat.le_of_ble_eq_true rfl, Nat.le_of_ble_eq_true rfl⟩ rfl rfl (Nat.le_of_ble_eq_true rfl) dX5_plan_18 ?_
  refine zr_if_eq X 42 dX5_plan_21 (by decide) (fun q => absurd q (nI_ne0 (by omega) (by omega))) (fun _ => ?_)
  refine zr_iloadn X 3 dX5_plan_24 rfl ?_
  refine zr_dSi [.int (nI (0))] [] X (zK_ok A D tc tF tL tM) (d_isWay_t E μ (by omega) (by omega)) k_329 k_330 k_1 k_331 hdX5_isWay ⟨rfl, rfl⟩ ⟨Nat.le_of_ble_eq_true rfl, Nat.le_of_ble_eq_true rfl⟩ rfl rfl (Nat.le_of_ble_eq_true rfl) dX5_plan_25 ?_
  refine zr_if_eq X 42 dX5_plan_28 (by decide) (fun q => absurd q (nI_ne0 (by omega) (by omega))) (fun _ => ?_)
  refine zr_iload X 4 dX5_plan_31 rfl ?_
  refine zr_if_lt X 42 dX5_plan_33 (by decide) (fun q => absurd q (nI_pos (by omega))) (fun _ => ?_)
  refine zr_iload X 4 dX5_plan_36 rfl ?_
  refine zr_iconst X (nI (5)) dX5_plan_38 (by decide +kernel) ?_
  refine zr_icmp_le X 45 dX5_plan_39 (by decide) (fun _ => ?_) (fun q => absurd (zq_le (by omega) (by omega)) q)
  refine zr_aloadn X 0 dX5_plan_45 rfl ?_
  refine zr_get X (ci := 5) (q := 4) (zR _) (.ref (ad (290))) dX5_plan_46 (by omega) sc_0 rfl inX5 (by decide) rfl (zvR rfl) rfl k_219 ?_
  refine zr_aload X 5 dX5_plan_49 rfl ?_
  refine zr_aloadn X 0 dX5_plan_51 rfl ?_
  refine zr_get X (ci := 5) (q := 0) (zR _) (.ref (ad (1))) dX5_plan_52 (by omega) sc_0 rfl inX5 (by decide) rfl (zvR rfl) rfl k_215 ?_
  refine zr_get X (ci := 2) (q := 2) (zR _) (.ref (ad (2))) dX5_plan_55 (by omega) (sc_st (j := 0) (by omega) (by have := cb_0; omega)) rfl inX2 (by decide) rfl (zvR (by have := cb_0; omega)) rfl k_87 ?_
  refine zr_iloadn X 2 dX5_plan_58 rfl ?_
  refine zr_iloadn X 3 dX5_plan_59 rfl ?_
  refine zr_dVv (C := RX3) (ci := 3) [.ref (ad (4 * f + 4)), .ref (ad (2)), .int (nI (t)), .int (nI (0))] [] X (zK_ok A D tc tF tL tM) (d_workOut0 E μ (f := f) (t := t) (by omega) ht1 ht9) k_332 k_333 k_334 k_5 k_335 hdX3_workOut ⟨rfl, rfl⟩ ⟨Nat.le_of_ble_eq_true rfl, Nat.le_of_ble_eq_true rfl⟩ (by omega) sc_290 rfl rfl rfl (Nat.le_of_ble_eq_true rfl) dX5_plan_60 ?_
  refine zr_aloadn X 0 dX5_plan_63 rfl ?_
  refine zr_get X (ci := 5) (q := 4) (zR _) (.ref (ad (290))) dX5_plan_64 (by omega) sc_0 rfl inX5 (by decide) rfl (zvR rfl) rfl k_219 ?_
  refine zr_get X (ci := 3) (q := 5) zI (.int ((clay μ f (nI t) 0) (2458))) dX5_plan_67 (by omega) sc_290 rfl inX3 (by decide) rfl (congrArg Value.int (rfl)) rfl k_161 ?_
  refine zr_if_le X 76 dX5_plan_70 (by decide) (fun _ => ?_) (fun q => absurd (h) q)
  refine zr_iload X 4 dX5_plan_76 rfl ?_
  refine zr_tswI (off := 62) X 140 dX5_plan_78 ⟨by decide +kernel, by decide +kernel, by decide +kernel⟩ (by decide) ?_
  refine zr_aloadn X 0 dX5_plan_140 rfl ?_
  refine zr_get X (ci := 5) (q := 4) (zR _) (.ref (ad (290))) dX5_plan_141 (by omega) sc_0 rfl inX5 (by decide) rfl (zvR rfl) rfl k_219 ?_
  refine zr_get X (ci := 3) (q := 1) (zR _) (.ref (ad (292))) dX5_plan_144 (by omega) sc_290 rfl inX3 (by decide) rfl (zvR rfl) rfl k_153 ?_
  refine zr_iconst X (nI (2)) dX5_plan_147 (by decide +kernel) ?_
  refine zr_iald X (j := 2) 0 ((clay μ f (nI t) 0) (2482)) dX5_plan_148 (by omega) sc_292 rfl rfl (by omega) (by omega) (zcg (b := 2482) (by omega) (rfl)) ?_
  exact zr_iret X dX5_plan_149 ⟨rfl, rfl⟩

set_option maxHeartbeats 4000000 in
set_option maxRecDepth 100000 in
theorem d_plan_0_4 {l : Launch} {D : va_G} {tc : Nat → ClassId} {ad : Nat → Nat} {A : Nat → Prop} {tF tL tM : Nat} (E : zN 299 A ad) (μ : Nat → Int32) {m c ro z : Nat} (S : clsS μ m c ro z) {f : Nat} (hf : f < c) {t : Nat} (ht1 : 1 ≤ t) (ht9 : t ≤ 9999) (h : clay μ f (nI t) 0 2458 ≤ 0) : zMi l yX5_plan cX5_plan 6 (some .int) (zrm 5) (zK A D tc tF tL tM) A D vwCl tc ad 299 shC [.ref (ad (0)), .int (nI (f)), .int (nI (t)), .int (nI (0)), .int (nI (4))] μ (fun r u => r = clay μ f (nI t) 0 2456 ∧ u = clay μ f (nI t) 0) := by
  refine zM_of RX5 [(0, .ref (ad (0))), (1, .int (nI (f))), (2, .int (nI (t))), (3, .int (nI (0))), (4, .int (nI (4)))] (zK_ok A D tc tF tL tM) E.1 E.2 owC_ok (by decide +kernel) rfl (Nat.le_of_ble_eq_true rfl) rfl ?_
  intro pP eE sS mM aS bL mT cO X
  obtain ⟨hm, hm2, hc, h8, hr, hr4, hz, hz4⟩ := S
  refine zr_aloadn X 0 dX5_plan_0 rfl ?_
  refine zr_get X (ci := 5) (q := 0) (zR _) (.ref (ad (1))) dX5_plan_1 (by omega) sc_0 rfl inX5 (by decide) rfl (zvR rfl) rfl k_215 ?_
  refine zr_iloadn X 1 dX5_plan_4 rfl ?_
  refine zr_dVq (C := RX2) (ci := 2) [.int (nI (f))] [] X (zK_ok A D tc tF tL tM) (d_firmAt0_t E μ (f := f) (hc) h8 (by omega)) k_273 k_274 k_275 k_2 k_276 hdX2_firmAt ⟨rfl, rfl⟩ ⟨Nat.le_of_ble_eq_true rfl, Nat.le_of_ble_eq_true rfl⟩ (by omega) (sc_st (j := 0) (by omega) (by have := cb_0; omega)) rfl rfl rfl (Nat.le_of_ble_eq_true rfl) dX5_plan_5 rfl ?_
  refine zr_astore X [1, 2, 3, 4, 5, 0] [(0, .ref (ad (0))), (1, .int (nI (f))), (2, .int (nI (t))), (3, .int (nI (0))), (4, .int (nI (4))), (5, .ref (ad (4 * f + 4)))] dX5_plan_8 (by decide) rfl ?_
  refine zr_aload X 5 dX5_plan_10 rfl ?_
  refine zr_ifnonnull X 17 dX5_plan_12 (by decide) ?_
  refine zr_iloadn X 2 dX5_plan_17 rfl ?_
  refine zr_dSi [.int (nI (t))] [] X (zK_ok A D tc tF tL tM) (d_isTonnes_t E μ (by omega) (by omega)) k_277 k_278 k_1 k_279 hdX5_isTonnes ⟨rfl, rfl⟩ ⟨Nat.le_of_ble_eq_true rfl, Nat.le_of_ble_eq_true rfl⟩ rfl rfl (Nat.le_of_ble_eq_true rfl) dX5_plan_18 ?_
  refine zr_if_eq X 42 dX5_plan_21 (by decide) (fun q => absurd q (nI_ne0 (by omega) (by omega))) (fun _ => ?_)
  refine zr_iloadn X 3 dX5_plan_24 rfl ?_
  refine zr_dSi [.int (nI (0))] [] X (zK_ok A D tc tF tL tM) (d_isWay_t E μ (by omega) (by omega)) k_329 k_330 k_1 k_331 hdX5_isWay ⟨rfl, rfl⟩ ⟨Nat.le_of_ble_eq_true rfl, Nat.le_of_ble_eq_true rfl⟩ rfl rfl (Nat.le_of_ble_eq_true rfl) dX5_plan_25 ?_
  refine zr_if_eq X 42 dX5_plan_28 (by decide) (fun q => absurd q (nI_ne0 (by omega) (by omega))) (fun _ => ?_)
  refine zr_iload X 4 dX5_plan_31 rfl ?_
  refine zr_if_lt X 42 dX5_plan_33 (by decide) (fun q => absurd q (nI_pos (by omega))) (fun _ => ?_)
  refine zr_iload X 4 dX5_plan_36 rfl ?_
  refine zr_iconst X (nI (5)) dX5_plan_38 (by decide +kernel) ?_
  refine zr_icmp_le X 45 dX5_plan_39 (by decide) (fun _ => ?_) (fun q => absurd (zq_le (by omega) (by omega)) q)
  refine zr_aloadn X 0 dX5_plan_45 rfl ?_
  refine zr_get X (ci := 5) (q := 4) (zR _) (.ref (ad (290))) dX5_plan_46 (by omega) sc_0 rfl inX5 (by decide) rfl (zvR rfl) rfl k_219 ?_
  refine zr_aload X 5 dX5_plan_49 rfl ?_
  refine zr_aloadn X 0 dX5_plan_51 rfl ?_
  refine zr_get X (ci := 5) (q := 0) (zR _) (.ref (ad (1))) dX5_plan_52 (by omega) sc_0 rfl inX5 (by decide) rfl (zvR rfl) rfl k_215 ?_
  refine zr_get X (ci := 2) (q := 2) (zR _) (.ref (ad (2))) dX5_plan_55 (by omega) (sc_st (j := 0) (by omega) (by have := cb_0; omega)) rfl inX2 (by decide) rfl (zvR (by have := cb_0; omega)) rfl k_87 ?_
  refine zr_iloadn X 2 dX5_plan_58 rfl ?_
  refine zr_iloadn X 3 dX5_plan_59 rfl ?_
  refine zr_dVv (C := RX3) (ci := 3) [.ref (ad (4 * f + 4)), .ref (ad (2)), .int (nI (t)), .int (nI (0))] [] X (zK_ok A D tc tF tL tM) (d_workOut0 E μ (f := f) (t := t) (by omega) ht1 ht9) k_332 k_333 k_334 k_5 k_335 hdX3_workOut ⟨rfl, rfl⟩ ⟨Nat.le_of_ble_eq_true rfl, Nat.le_of_ble_eq_true rfl⟩ (by omega) sc_290 rfl rfl rfl (Nat.le_of_ble_eq_true rfl) dX5_plan_60 ?_
  refine zr_aloadn X 0 dX5_plan_63 rfl ?_
  refine zr_get X (ci := 5) (q := 4) (zR _) (.ref (ad (290))) dX5_plan_64 (by omega) sc_0 rfl inX5 (by decide) rfl (zvR rfl) rfl k_219 ?_
  refine zr_get X (ci := 3) (q := 5) zI (.int ((clay μ f (nI t) 0) (2458))) dX5_plan_67 (by omega) sc_290 rfl inX3 (by decide) rfl (congrArg Value.int (rfl)) rfl k_161 ?_
  refine zr_if_le X 76 dX5_plan_70 (by decide) (fun _ => ?_) (fun q => absurd (h) q)
  refine zr_iload X 4 dX5_plan_76 rfl ?_
  refine zr_tswI (off := 72) X 150 dX5_plan_78 ⟨by decide +kernel, by decide +kernel, by decide +kernel⟩ (by decide) ?_
  refine zr_aloadn X 0 dX5_plan_150 rfl ?_
  refine zr_get X (ci := 5) (q := 4) (zR _) (.ref (ad (290))) dX5_plan_151 (by omega) sc_0 rfl inX5 (by decide) rfl (zvR rfl) rfl k_219 ?_
  refine zr_get X (ci := 3) (q := 3) zI (.int ((clay μ f (nI t) 0) (2456))) dX5_plan_154 (by omega) sc_290 rfl inX3 (by decide) rfl (congrArg Value.int (rfl)) rfl k_157 ?_
  exact zr_iret X dX5_plan_157 ⟨rfl, rfl⟩

set_option maxHeartbeats 4000000 in
set_option maxRecDepth 100000 in
theorem d_plan_0_5 {l : Launch} {D : va_G} {tc : Nat → ClassId} {ad : Nat → Nat} {A : Nat → Prop} {tF tL tM : Nat} (E : zN 299 A ad) (μ : Nat → Int32) {m c ro z : Nat} (S : clsS μ m c ro z) {f : Nat} (hf : f < c) {t : Nat} (ht1 : 1 ≤ t) (ht9 : t ≤ 9999) (h : clay μ f (nI t) 0 2458 ≤ 0) : zMi l yX5_plan cX5_plan 6 (some .int) (zrm 5) (zK A D tc tF tL tM) A D vwCl tc ad 299 shC [.ref (ad (0)), .int (nI (f)), .int (nI (t)), .int (nI (0)), .int (nI (5))] μ (fun r u => r = clay μ f (nI t) 0 2457 ∧ u = clay μ f (nI t) 0) := by
  refine zM_of RX5 [(0, .ref (ad (0))), (1, .int (nI (f))), (2, .int (nI (t))), (3, .int (nI (0))), (4, .int (nI (5)))] (zK_ok A D tc tF tL tM) E.1 E.2 owC_ok (by decide +kernel) rfl (Nat.le_of_ble_eq_true rfl) rfl ?_
  intro pP eE sS mM aS bL mT cO X
  obtain ⟨hm, hm2, hc, h8, hr, hr4, hz, hz4⟩ := S
  refine zr_aloadn X 0 dX5_plan_0 rfl ?_
  refine zr_get X (ci := 5) (q := 0) (zR _) (.ref (ad (1))) dX5_plan_1 (by omega) sc_0 rfl inX5 (by decide) rfl (zvR rfl) rfl k_215 ?_
  refine zr_iloadn X 1 dX5_plan_4 rfl ?_
  refine zr_dVq (C := RX2) (ci := 2) [.int (nI (f))] [] X (zK_ok A D tc tF tL tM) (d_firmAt0_t E μ (f := f) (hc) h8 (by omega)) k_273 k_274 k_275 k_2 k_276 hdX2_firmAt ⟨rfl, rfl⟩ ⟨Nat.le_of_ble_eq_true rfl, Nat.le_of_ble_eq_true rfl⟩ (by omega) (sc_st (j := 0) (by omega) (by have := cb_0; omega)) rfl rfl rfl (Nat.le_of_ble_eq_true rfl) dX5_plan_5 rfl ?_
  refine zr_astore X [1, 2, 3, 4, 5, 0] [(0, .ref (ad (0))), (1, .int (nI (f))), (2, .int (nI (t))), (3, .int (nI (0))), (4, .int (nI (5))), (5, .ref (ad (4 * f + 4)))] dX5_plan_8 (by decide) rfl ?_
  refine zr_aload X 5 dX5_plan_10 rfl ?_
  refine zr_ifnonnull X 17 dX5_plan_12 (by decide) ?_
  refine zr_iloadn X 2 dX5_plan_17 rfl ?_
  refine zr_dSi [.int (nI (t))] [] X (zK_ok A D tc tF tL tM) (d_isTonnes_t E μ (by omega) (by omega)) k_277 k_278 k_1 k_279 hdX5_isTonnes ⟨rfl, rfl⟩ ⟨Nat.le_of_ble_eq_true rfl, Nat.le_of_ble_eq_true rfl⟩ rfl rfl (Nat.le_of_ble_eq_true rfl) dX5_plan_18 ?_
  refine zr_if_eq X 42 dX5_plan_21 (by decide) (fun q => absurd q (nI_ne0 (by omega) (by omega))) (fun _ => ?_)
  refine zr_iloadn X 3 dX5_plan_24 rfl ?_
  refine zr_dSi [.int (nI (0))] [] X (zK_ok A D tc tF tL tM) (d_isWay_t E μ (by omega) (by omega)) k_329 k_330 k_1 k_331 hdX5_isWay ⟨rfl, rfl⟩ ⟨Nat.le_of_ble_eq_true rfl, Nat.le_of_ble_eq_true rfl⟩ rfl rfl (Nat.le_of_ble_eq_true rfl) dX5_plan_25 ?_
  refine zr_if_eq X 42 dX5_plan_28 (by decide) (fun q => absurd q (nI_ne0 (by omega) (by omega))) (fun _ => ?_)
  refine zr_iload X 4 dX5_plan_31 rfl ?_
  refine zr_if_lt X 42 dX5_plan_33 (by decide) (fun q => absurd q (nI_pos (by omega))) (fun _ => ?_)
  refine zr_iload X 4 dX5_plan_36 rfl ?_
  refine zr_iconst X (nI (5)) dX5_plan_38 (by decide +kernel) ?_
  refine zr_icmp_le X 45 dX5_plan_39 (by decide) (fun _ => ?_) (fun q => absurd (zq_le (by omega) (by omega)) q)
  refine zr_aloadn X 0 dX5_plan_45 rfl ?_
  refine zr_get X (ci := 5) (q := 4) (zR _) (.ref (ad (290))) dX5_plan_46 (by omega) sc_0 rfl inX5 (by decide) rfl (zvR rfl) rfl k_219 ?_
  refine zr_aload X 5 dX5_plan_49 rfl ?_
  refine zr_aloadn X 0 dX5_plan_51 rfl ?_
  refine zr_get X (ci := 5) (q := 0) (zR _) (.ref (ad (1))) dX5_plan_52 (by omega) sc_0 rfl inX5 (by decide) rfl (zvR rfl) rfl k_215 ?_
  refine zr_get X (ci := 2) (q := 2) (zR _) (.ref (ad (2))) dX5_plan_55 (by omega) (sc_st (j := 0) (by omega) (by have := cb_0; omega)) rfl inX2 (by decide) rfl (zvR (by have := cb_0; omega)) rfl k_87 ?_
  refine zr_iloadn X 2 dX5_plan_58 rfl ?_
  refine zr_iloadn X 3 dX5_plan_59 rfl ?_
  refine zr_dVv (C := RX3) (ci := 3) [.ref (ad (4 * f + 4)), .ref (ad (2)), .int (nI (t)), .int (nI (0))] [] X (zK_ok A D tc tF tL tM) (d_workOut0 E μ (f := f) (t := t) (by omega) ht1 ht9) k_332 k_333 k_334 k_5 k_335 hdX3_workOut ⟨rfl, rfl⟩ ⟨Nat.le_of_ble_eq_true rfl, Nat.le_of_ble_eq_true rfl⟩ (by omega) sc_290 rfl rfl rfl (Nat.le_of_ble_eq_true rfl) dX5_plan_60 ?_
  refine zr_aloadn X 0 dX5_plan_63 rfl ?_
  refine zr_get X (ci := 5) (q := 4) (zR _) (.ref (ad (290))) dX5_plan_64 (by omega) sc_0 rfl inX5 (by decide) rfl (zvR rfl) rfl k_219 ?_
  refine zr_get X (ci := 3) (q := 5) zI (.int ((clay μ f (nI t) 0) (2458))) dX5_plan_67 (by omega) sc_290 rfl inX3 (by decide) rfl (congrArg Value.int (rfl)) rfl k_161 ?_
  refine zr_if_le X 76 dX5_plan_70 (by decide) (fun _ => ?_) (fun q => absurd (h) q)
  refine zr_iload X 4 dX5_plan_76 rfl ?_
  refine zr_tswO X 158 dX5_plan_78 (by decide +kernel) (by decide) ?_
  refine zr_aloadn X 0 dX5_plan_158 rfl ?_
  refine zr_get X (ci := 5) (q := 4) (zR _) (.ref (ad (290))) dX5_plan_159 (by omega) sc_0 rfl inX5 (by decide) rfl (zvR rfl) rfl k_219 ?_
  refine zr_get X (ci := 3) (q := 4) zI (.int ((clay μ f (nI t) 0) (2457))) dX5_plan_162 (by omega) sc_290 rfl inX3 (by decide) rfl (congrArg Value.int (rfl)) rfl k_159 ?_
  exact zr_iret X dX5_plan_165 ⟨rfl, rfl⟩

set_option maxHeartbeats 4000000 in
set_option maxRecDepth 100000 in
theorem d_plan_n1 {l : Launch} {D : va_G} {tc : Nat → ClassId} {ad : Nat → Nat} {A : Nat → Prop} {tF tL tM : Nat} (E : zN 299 A ad) (μ : Nat → Int32) {m c ro z : Nat} (S : clsS μ m c ro z) {f : Nat} (hf : f < c) {t : Nat} (ht1 : 1 ≤ t) (ht9 : t ≤ 9999) {w : Nat} (hw : w ≤ 5) (h : ¬ clay μ f (nI t) 1 2458 ≤ 0) : zMi l yX5_plan cX5_plan 6 (some .int) (zrm 5) (zK A D tc tF tL tM) A D vwCl tc ad 299 shC [.ref (ad (0)), .int (nI (f)), .int (nI (t)), .int (nI (1)), .int (nI (w))] μ (fun r u => r = -4 ∧ u = clay μ f (nI t) 1) := by
  refine zM_of RX5 [(0, .ref (ad (0))), (1, .int (nI (f))), (2, .int (nI (t))), (3, .int (nI (1))), (4, .int (nI (w)))] (zK_ok A D tc tF tL tM) E.1 E.2 owC_ok (by decide +kernel) rfl (Nat.le_of_ble_eq_true rfl) rfl ?_
  intro pP eE sS mM aS bL mT cO X
  obtain ⟨hm, hm2, hc, h8, hr, hr4, hz, hz4⟩ := S
  refine zr_aloadn X 0 dX5_plan_0 rfl ?_
  refine zr_get X (ci := 5) (q := 0) (zR _) (.ref (ad (1))) dX5_plan_1 (by omega) sc_0 rfl inX5 (by decide) rfl (zvR rfl) rfl k_215 ?_
  refine zr_iloadn X 1 dX5_plan_4 rfl ?_
  refine zr_dVq (C := RX2) (ci := 2) [.int (nI (f))] [] X (zK_ok A D tc tF tL tM) (d_firmAt0_t E μ (f := f) (hc) h8 (by omega)) k_273 k_274 k_275 k_2 k_276 hdX2_firmAt ⟨rfl, rfl⟩ ⟨Nat.le_of_ble_eq_true rfl, Nat.le_of_ble_eq_true rfl⟩ (by omega) (sc_st (j := 0) (by omega) (by have := cb_0; omega)) rfl rfl rfl (Nat.le_of_ble_eq_true rfl) dX5_plan_5 rfl ?_
  refine zr_astore X [1, 2, 3, 4, 5, 0] [(0, .ref (ad (0))), (1, .int (nI (f))), (2, .int (nI (t))), (3, .int (nI (1))), (4, .int (nI (w))), (5, .ref (ad (4 * f + 4)))] dX5_plan_8 (by decide) rfl ?_
  refine zr_aload X 5 dX5_plan_10 rfl ?_
  refine zr_ifnonnull X 17 dX5_plan_12 (by decide) ?_
  refine zr_iloadn X 2 dX5_plan_17 rfl ?_
  refine zr_dSi [.int (nI (t))] [] X (zK_ok A D tc tF tL tM) (d_isTonnes_t E μ (by omega) (by omega)) k_277 k_278 k_1 k_279 hdX5_isTonnes ⟨rfl, rfl⟩ ⟨Nat.le_of_ble_eq_true rfl, Nat.le_of_ble_eq_true rfl⟩ rfl rfl (Nat.le_of_ble_eq_true rfl) dX5_plan_18 ?_
  refine zr_if_eq X 42 dX5_plan_21 (by decide) (fun q => absurd q (nI_ne0 (by omega) (by omega))) (fun _ => ?_)
  refine zr_iloadn X 3 dX5_plan_24 rfl ?_
  refine zr_dSi [.int (nI (1))] [] X (zK_ok A D tc tF tL tM) (d_isWay_t E μ (by omega) (by omega)) k_329 k_330 k_1 k_331 hdX5_isWay ⟨rfl, rfl⟩ ⟨Nat.le_of_ble_eq_true rfl, Nat.le_of_ble_eq_true rfl⟩ rfl rfl (Nat.le_of_ble_eq_true rfl) dX5_plan_25 ?_
  refine zr_if_eq X 42 dX5_plan_28 (by decide) (fun q => absurd q (nI_ne0 (by omega) (by omega))) (fun _ => ?_)
  refine zr_iload X 4 dX5_plan_31 rfl ?_
  refine zr_if_lt X 42 dX5_plan_33 (by decide) (fun q => absurd q (nI_pos (by omega))) (fun _ => ?_)
  refine zr_iload X 4 dX5_plan_36 rfl ?_
  refine zr_iconst X (nI (5)) dX5_plan_38 (by decide +kernel) ?_
  refine zr_icmp_le X 45 dX5_plan_39 (by decide) (fun _ => ?_) (fun q => absurd (zq_le (by omega) (by omega)) q)
  refine zr_aloadn X 0 dX5_plan_45 rfl ?_
  refine zr_get X (ci := 5) (q := 4) (zR _) (.ref (ad (290))) dX5_plan_46 (by omega) sc_0 rfl inX5 (by decide) rfl (zvR rfl) rfl k_219 ?_
  refine zr_aload X 5 dX5_plan_49 rfl ?_
  refine zr_aloadn X 0 dX5_plan_51 rfl ?_
  refine zr_get X (ci := 5) (q := 0) (zR _) (.ref (ad (1))) dX5_plan_52 (by omega) sc_0 rfl inX5 (by decide) rfl (zvR rfl) rfl k_215 ?_
  refine zr_get X (ci := 2) (q := 2) (zR _) (.ref (ad (2))) dX5_plan_55 (by omega) (sc_st (j := 0) (by omega) (by have := cb_0; omega)) rfl inX2 (by decide) rfl (zvR (by have := cb_0; omega)) rfl k_87 ?_
  refine zr_iloadn X 2 dX5_plan_58 rfl ?_
  refine zr_iloadn X 3 dX5_plan_59 rfl ?_
  refine zr_dVv (C := RX3) (ci := 3) [.ref (ad (4 * f + 4)), .ref (ad (2)), .int (nI (t)), .int (nI (1))] [] X (zK_ok A D tc tF tL tM) (d_workOut1 E μ (f := f) (t := t) (by omega) ht1 ht9) k_332 k_333 k_334 k_5 k_335 hdX3_workOut ⟨rfl, rfl⟩ ⟨Nat.le_of_ble_eq_true rfl, Nat.le_of_ble_eq_true rfl⟩ (by omega) sc_290 rfl rfl rfl (Nat.le_of_ble_eq_true rfl) dX5_plan_60 ?_
  refine zr_aloadn X 0 dX5_plan_63 rfl ?_
  refine zr_get X (ci := 5) (q := 4) (zR _) (.ref (ad (290))) dX5_plan_64 (by omega) sc_0 rfl inX5 (by decide) rfl (zvR rfl) rfl k_219 ?_
  refine zr_get X (ci := 3) (q := 5) zI (.int ((clay μ f (nI t) 1) (2458))) dX5_plan_67 (by omega) sc_290 rfl inX3 (by decide) rfl (congrArg Value.int (rfl)) rfl k_161 ?_
  refine zr_if_le X 76 dX5_plan_70 (by decide) (fun q => absurd q (h)) (fun _ => ?_)
  refine zr_bipush X (-4) dX5_plan_73 (by decide +kernel) ?_
  exact zr_iret X dX5_plan_75 ⟨rfl, rfl⟩

set_option maxHeartbeats 4000000 in
set_option maxRecDepth 100000 in
theorem d_plan_1_0 {l : Launch} {D : va_G} {tc : Nat → ClassId} {ad : Nat → Nat} {A : Nat → Prop} {tF tL tM : Nat} (E : zN 299 A ad) (μ : Nat → Int32) {m c ro z : Nat} (S : clsS μ m c ro z) {f : Nat} (hf : f < c) {t : Nat} (ht1 : 1 ≤ t) (ht9 : t ≤ 9999) (h : clay μ f (nI t) 1 2458 ≤ 0) : zMi l yX5_plan cX5_plan 6 (some .int) (zrm 5) (zK A D tc tF tL tM) A D vwCl tc ad 299 shC [.ref (ad (0)), .int (nI (f)), .int (nI (t)), .int (nI (1)), .int (nI (0))] μ (fun r u => r = clay μ f (nI t) 1 2455 ∧ u = clay μ f (nI t) 1) := by
  refine zM_of RX5 [(0, .ref (ad (0))), (1, .int (nI (f))), (2, .int (nI (t))), (3, .int (nI (1))), (4, .int (nI (0)))] (zK_ok A D tc tF tL tM) E.1 E.2 owC_ok (by decide +kernel) rfl (Nat.le_of_ble_eq_true rfl) rfl ?_
  intro pP eE sS mM aS bL mT cO X
  obtain ⟨hm, hm2, hc, h8, hr, hr4, hz, hz4⟩ := S
  refine zr_aloadn X 0 dX5_plan_0 rfl ?_
  refine zr_get X (ci := 5) (q := 0) (zR _) (.ref (ad (1))) dX5_plan_1 (by omega) sc_0 rfl inX5 (by decide) rfl (zvR rfl) rfl k_215 ?_
  refine zr_iloadn X 1 dX5_plan_4 rfl ?_
  refine zr_dVq (C := RX2) (ci := 2) [.int (nI (f))] [] X (zK_ok A D tc tF tL tM) (d_firmAt0_t E μ (f := f) (hc) h8 (by omega)) k_273 k_274 k_275 k_2 k_276 hdX2_firmAt ⟨rfl, rfl⟩ ⟨Nat.le_of_ble_eq_true rfl, Nat.le_of_ble_eq_true rfl⟩ (by omega) (sc_st (j := 0) (by omega) (by have := cb_0; omega)) rfl rfl rfl (Nat.le_of_ble_eq_true rfl) dX5_plan_5 rfl ?_
  refine zr_astore X [1, 2, 3, 4, 5, 0] [(0, .ref (ad (0))), (1, .int (nI (f))), (2, .int (nI (t))), (3, .int (nI (1))), (4, .int (nI (0))), (5, .ref (ad (4 * f + 4)))] dX5_plan_8 (by decide) rfl ?_
  refine zr_aload X 5 dX5_plan_10 rfl ?_
  refine zr_ifnonnull X 17 dX5_plan_12 (by decide) ?_
  refine zr_iloadn X 2 dX5_plan_17 rfl ?_
  refine zr_dSi [.int (nI (t))] [] X (zK_ok A D tc tF tL tM) (d_isTonnes_t E μ (by omega) (by omega)) k_277 k_278 k_1 k_279 hdX5_isTonnes ⟨rfl, rfl⟩ ⟨Nat.le_of_ble_eq_true rfl, Nat.le_of_ble_eq_true rfl⟩ rfl rfl (Nat.le_of_ble_eq_true rfl) dX5_plan_18 ?_
  refine zr_if_eq X 42 dX5_plan_21 (by decide) (fun q => absurd q (nI_ne0 (by omega) (by omega))) (fun _ => ?_)
  refine zr_iloadn X 3 dX5_plan_24 rfl ?_
  refine zr_dSi [.int (nI (1))] [] X (zK_ok A D tc tF tL tM) (d_isWay_t E μ (by omega) (by omega)) k_329 k_330 k_1 k_331 hdX5_isWay ⟨rfl, rfl⟩ ⟨Nat.le_of_ble_eq_true rfl, Nat.le_of_ble_eq_true rfl⟩ rfl rfl (Nat.le_of_ble_eq_true rfl) dX5_plan_25 ?_
  refine zr_if_eq X 42 dX5_plan_28 (by decide) (fun q => absurd q (nI_ne0 (by omega) (by omega))) (fun _ => ?_)
  refine zr_iload X 4 dX5_plan_31 rfl ?_
  refine zr_if_lt X 42 dX5_plan_33 (by decide) (fun q => absurd q (nI_pos (by omega))) (fun _ => ?_)
  refine zr_iload X 4 dX5_plan_36 rfl ?_
  refine zr_iconst X (nI (5)) dX5_plan_38 (by decide +kernel) ?_
  refine zr_icmp_le X 45 dX5_plan_39 (by decide) (fun _ => ?_) (fun q => absurd (zq_le (by omega) (by omega)) q)
  refine zr_aloadn X 0 dX5_plan_45 rfl ?_
  refine zr_get X (ci := 5) (q := 4) (zR _) (.ref (ad (290))) dX5_plan_46 (by omega) sc_0 rfl inX5 (by decide) rfl (zvR rfl) rfl k_219 ?_
  refine zr_aload X 5 dX5_plan_49 rfl ?_
  refine zr_aloadn X 0 dX5_plan_51 rfl ?_
  refine zr_get X (ci := 5) (q := 0) (zR _) (.ref (ad (1))) dX5_plan_52 (by omega) sc_0 rfl inX5 (by decide) rfl (zvR rfl) rfl k_215 ?_
  refine zr_get X (ci := 2) (q := 2) (zR _) (.ref (ad (2))) dX5_plan_55 (by omega) (sc_st (j := 0) (by omega) (by have := cb_0; omega)) rfl inX2 (by decide) rfl (zvR (by have := cb_0; omega)) rfl k_87 ?_
  refine zr_iloadn X 2 dX5_plan_58 rfl ?_
  refine zr_iloadn X 3 dX5_plan_59 rfl ?_
  refine zr_dVv (C := RX3) (ci := 3) [.ref (ad (4 * f + 4)), .ref (ad (2)), .int (nI (t)), .int (nI (1))] [] X (zK_ok A D tc tF tL tM) (d_workOut1 E μ (f := f) (t := t) (by omega) ht1 ht9) k_332 k_333 k_334 k_5 k_335 hdX3_workOut ⟨rfl, rfl⟩ ⟨Nat.le_of_ble_eq_true rfl, Nat.le_of_ble_eq_true rfl⟩ (by omega) sc_290 rfl rfl rfl (Nat.le_of_ble_eq_true rfl) dX5_plan_60 ?_
  refine zr_aloadn X 0 dX5_plan_63 rfl ?_
  refine zr_get X (ci := 5) (q := 4) (zR _) (.ref (ad (290))) dX5_plan_64 (by omega) sc_0 rfl inX5 (by decide) rfl (zvR rfl) rfl k_219 ?_
  refine zr_get X (ci := 3) (q := 5) zI (.int ((clay μ f (nI t) 1) (2458))) dX5_plan_67 (by omega) sc_290 rfl inX3 (by decide) rfl (congrArg Value.int (rfl)) rfl k_161 ?_
  refine zr_if_le X 76 dX5_plan_70 (by decide) (fun _ => ?_) (fun q => absurd (h) q)
  refine zr_iload X 4 dX5_plan_76 rfl ?_
  refine zr_tswI (off := 34) X 112 dX5_plan_78 ⟨by decide +kernel, by decide +kernel, by decide +kernel⟩ (by decide) ?_
  refine zr_aloadn X 0 dX5_plan_112 rfl ?_
  refine zr_get X (ci := 5) (q := 4) (zR _) (.ref (ad (290))) dX5_plan_113 (by omega) sc_0 rfl inX5 (by decide) rfl (zvR rfl) rfl k_219 ?_
  refine zr_get X (ci := 3) (q := 2) zI (.int ((clay μ f (nI t) 1) (2455))) dX5_plan_116 (by omega) sc_290 rfl inX3 (by decide) rfl (congrArg Value.int (rfl)) rfl k_155 ?_
  exact zr_iret X dX5_plan_119 ⟨rfl, rfl⟩

set_option maxHeartbeats 4000000 in
set_option maxRecDepth 100000 in
theorem d_plan_1_1 {l : Launch} {D : va_G} {tc : Nat → ClassId} {ad : Nat → Nat} {A : Nat → Prop} {tF tL tM : Nat} (E : zN 299 A ad) (μ : Nat → Int32) {m c ro z : Nat} (S : clsS μ m c ro z) {f : Nat} (hf : f < c) {t : Nat} (ht1 : 1 ≤ t) (ht9 : t ≤ 9999) (h : clay μ f (nI t) 1 2458 ≤ 0) : zMi l yX5_plan cX5_plan 6 (some .int) (zrm 5) (zK A D tc tF tL tM) A D vwCl tc ad 299 shC [.ref (ad (0)), .int (nI (f)), .int (nI (t)), .int (nI (1)), .int (nI (1))] μ (fun r u => r = clay μ f (nI t) 1 2480 ∧ u = clay μ f (nI t) 1) := by
  refine zM_of RX5 [(0, .ref (ad (0))), (1, .int (nI (f))), (2, .int (nI (t))), (3, .int (nI (1))), (4, .int (nI (1)))] (zK_ok A D tc tF tL tM) E.1 E.2 owC_ok (by decide +kernel) rfl (Nat.le_of_ble_eq_true rfl) rfl ?_
  intro pP eE sS mM aS bL mT cO X
  obtain ⟨hm, hm2, hc, h8, hr, hr4, hz, hz4⟩ := S
  refine zr_aloadn X 0 dX5_plan_0 rfl ?_
  refine zr_get X (ci := 5) (q := 0) (zR _) (.ref (ad (1))) dX5_plan_1 (by omega) sc_0 rfl inX5 (by decide) rfl (zvR rfl) rfl k_215 ?_
  refine zr_iloadn X 1 dX5_plan_4 rfl ?_
  refine zr_dVq (C := RX2) (ci := 2) [.int (nI (f))] [] X (zK_ok A D tc tF tL tM) (d_firmAt0_t E μ (f := f) (hc) h8 (by omega)) k_273 k_274 k_275 k_2 k_276 hdX2_firmAt ⟨rfl, rfl⟩ ⟨Nat.le_of_ble_eq_true rfl, Nat.le_of_ble_eq_true rfl⟩ (by omega) (sc_st (j := 0) (by omega) (by have := cb_0; omega)) rfl rfl rfl (Nat.le_of_ble_eq_true rfl) dX5_plan_5 rfl ?_
  refine zr_astore X [1, 2, 3, 4, 5, 0] [(0, .ref (ad (0))), (1, .int (nI (f))), (2, .int (nI (t))), (3, .int (nI (1))), (4, .int (nI (1))), (5, .ref (ad (4 * f + 4)))] dX5_plan_8 (by decide) rfl ?_
  refine zr_aload X 5 dX5_plan_10 rfl ?_
  refine zr_ifnonnull X 17 dX5_plan_12 (by decide) ?_
  refine zr_iloadn X 2 dX5_plan_17 rfl ?_
  refine zr_dSi [.int (nI (t))] [] X (zK_ok A D tc tF tL tM) (d_isTonnes_t E μ (by omega) (by omega)) k_277 k_278 k_1 k_279 hdX5_isTonnes ⟨rfl, rfl⟩ ⟨Nat.le_of_ble_eq_true rfl, Nat.le_of_ble_eq_true rfl⟩ rfl rfl (Nat.le_of_ble_eq_true rfl) dX5_plan_18 ?_
  refine zr_if_eq X 42 dX5_plan_21 (by decide) (fun q => absurd q (nI_ne0 (by omega) (by omega))) (fun _ => ?_)
  refine zr_iloadn X 3 dX5_plan_24 rfl ?_
  refine zr_dSi [.int (nI (1))] [] X (zK_ok A D tc tF tL tM) (d_isWay_t E μ (by omega) (by omega)) k_329 k_330 k_1 k_331 hdX5_isWay ⟨rfl, rfl⟩ ⟨Nat.le_of_ble_eq_true rfl, Nat.le_of_ble_eq_true rfl⟩ rfl rfl (Nat.le_of_ble_eq_true rfl) dX5_plan_25 ?_
  refine zr_if_eq X 42 dX5_plan_28 (by decide) (fun q => absurd q (nI_ne0 (by omega) (by omega))) (fun _ => ?_)
  refine zr_iload X 4 dX5_plan_31 rfl ?_
  refine zr_if_lt X 42 dX5_plan_33 (by decide) (fun q => absurd q (nI_pos (by omega))) (fun _ => ?_)
  refine zr_iload X 4 dX5_plan_36 rfl ?_
  refine zr_iconst X (nI (5)) dX5_plan_38 (by decide +kernel) ?_
  refine zr_icmp_le X 45 dX5_plan_39 (by decide) (fun _ => ?_) (fun q => absurd (zq_le (by omega) (by omega)) q)
  refine zr_aloadn X 0 dX5_plan_45 rfl ?_
  refine zr_get X (ci := 5) (q := 4) (zR _) (.ref (ad (290))) dX5_plan_46 (by omega) sc_0 rfl inX5 (by decide) rfl (zvR rfl) rfl k_219 ?_
  refine zr_aload X 5 dX5_plan_49 rfl ?_
  refine zr_aloadn X 0 dX5_plan_51 rfl ?_
  refine zr_get X (ci := 5) (q := 0) (zR _) (.ref (ad (1))) dX5_plan_52 (by omega) sc_0 rfl inX5 (by decide) rfl (zvR rfl) rfl k_215 ?_
  refine zr_get X (ci := 2) (q := 2) (zR _) (.ref (ad (2))) dX5_plan_55 (by omega) (sc_st (j := 0) (by omega) (by have := cb_0; omega)) rfl inX2 (by decide) rfl (zvR (by have := cb_0; omega)) rfl k_87 ?_
  refine zr_iloadn X 2 dX5_plan_58 rfl ?_
  refine zr_iloadn X 3 dX5_plan_59 rfl ?_
  refine zr_dVv (C := RX3) (ci := 3) [.ref (ad (4 * f + 4)), .ref (ad (2)), .int (nI (t)), .int (nI (1))] [] X (zK_ok A D tc tF tL tM) (d_workOut1 E μ (f := f) (t := t) (by omega) ht1 ht9) k_332 k_333 k_334 k_5 k_335 hdX3_workOut ⟨rfl, rfl⟩ ⟨Nat.le_of_ble_eq_true rfl, Nat.le_of_ble_eq_true rfl⟩ (by omega) sc_290 rfl rfl rfl (Nat.le_of_ble_eq_true rfl) dX5_plan_60 ?_
  refine zr_aloadn X 0 dX5_plan_63 rfl ?_
  refine zr_get X (ci := 5) (q := 4) (zR _) (.ref (ad (290))) dX5_plan_64 (by omega) sc_0 rfl inX5 (by decide) rfl (zvR rfl) rfl k_219 ?_
  refine zr_get X (ci := 3) (q := 5) zI (.int ((clay μ f (nI t) 1) (2458))) dX5_plan_67 (by omega) sc_290 rfl inX3 (by decide) rfl (congrArg Value.int (rfl)) rfl k_161 ?_
  refine zr_if_le X 76 dX5_plan_70 (by decide) (fun _ => ?_) (fun q => absurd (h) q)
  refine zr_iload X 4 dX5_plan_76 rfl ?_
  refine zr_tswI (off := 42) X 120 dX5_plan_78 ⟨by decide +kernel, by decide +kernel, by decide +kernel⟩ (by decide) ?_
  refine zr_aloadn X 0 dX5_plan_120 rfl ?_
  refine zr_get X (ci := 5) (q := 4) (zR _) (.ref (ad (290))) dX5_plan_121 (by omega) sc_0 rfl inX5 (by decide) rfl (zvR rfl) rfl k_219 ?_
  refine zr_get X (ci := 3) (q := 1) (zR _) (.ref (ad (292))) dX5_plan_124 (by omega) sc_290 rfl inX3 (by decide) rfl (zvR rfl) rfl k_153 ?_
  refine zr_iconst X (nI (0)) dX5_plan_127 (by decide +kernel) ?_
  refine zr_iald X (j := 0) 0 ((clay μ f (nI t) 1) (2480)) dX5_plan_128 (by omega) sc_292 rfl rfl (by omega) (by omega) (zcg (b := 2480) (by omega) (rfl)) ?_
  exact zr_iret X dX5_plan_129 ⟨rfl, rfl⟩

set_option maxHeartbeats 4000000 in
set_option maxRecDepth 100000 in
theorem d_plan_1_2 {l : Launch} {D : va_G} {tc : Nat → ClassId} {ad : Nat → Nat} {A : Nat → Prop} {tF tL tM : Nat} (E : zN 299 A ad) (μ : Nat → Int32) {m c ro z : Nat} (S : clsS μ m c ro z) {f : Nat} (hf : f < c) {t : Nat} (ht1 : 1 ≤ t) (ht9 : t ≤ 9999) (h : clay μ f (nI t) 1 2458 ≤ 0) : zMi l yX5_plan cX5_plan 6 (some .int) (zrm 5) (zK A D tc tF tL tM) A D vwCl tc ad 299 shC [.ref (ad (0)), .int (nI (f)), .int (nI (t)), .int (nI (1)), .int (nI (2))] μ (fun r u => r = clay μ f (nI t) 1 2481 ∧ u = clay μ f (nI t) 1) := by
  refine zM_of RX5 [(0, .ref (ad (0))), (1, .int (nI (f))), (2, .int (nI (t))), (3, .int (nI (1))), (4, .int (nI (2)))] (zK_ok A D tc tF tL tM) E.1 E.2 owC_ok (by decide +kernel) rfl (Nat.le_of_ble_eq_true rfl) rfl ?_
  intro pP eE sS mM aS bL mT cO X
  obtain ⟨hm, hm2, hc, h8, hr, hr4, hz, hz4⟩ := S
  refine zr_aloadn X 0 dX5_plan_0 rfl ?_
  refine zr_get X (ci := 5) (q := 0) (zR _) (.ref (ad (1))) dX5_plan_1 (by omega) sc_0 rfl inX5 (by decide) rfl (zvR rfl) rfl k_215 ?_
  refine zr_iloadn X 1 dX5_plan_4 rfl ?_
  refine zr_dVq (C := RX2) (ci := 2) [.int (nI (f))] [] X (zK_ok A D tc tF tL tM) (d_firmAt0_t E μ (f := f) (hc) h8 (by omega)) k_273 k_274 k_275 k_2 k_276 hdX2_firmAt ⟨rfl, rfl⟩ ⟨Nat.le_of_ble_eq_true rfl, Nat.le_of_ble_eq_true rfl⟩ (by omega) (sc_st (j := 0) (by omega) (by have := cb_0; omega)) rfl rfl rfl (Nat.le_of_ble_eq_true rfl) dX5_plan_5 rfl ?_
  refine zr_astore X [1, 2, 3, 4, 5, 0] [(0, .ref (ad (0))), (1, .int (nI (f))), (2, .int (nI (t))), (3, .int (nI (1))), (4, .int (nI (2))), (5, .ref (ad (4 * f + 4)))] dX5_plan_8 (by decide) rfl ?_
  refine zr_aload X 5 dX5_plan_10 rfl ?_
  refine zr_ifnonnull X 17 dX5_plan_12 (by decide) ?_
  refine zr_iloadn X 2 dX5_plan_17 rfl ?_
  refine zr_dSi [.int (nI (t))] [] X (zK_ok A D tc tF tL tM) (d_isTonnes_t E μ (by omega) (by omega)) k_277 k_278 k_1 k_279 hdX5_isTonnes ⟨rfl, rfl⟩ ⟨Nat.le_of_ble_eq_true rfl, Nat.le_of_ble_eq_true rfl⟩ rfl rfl (Nat.le_of_ble_eq_true rfl) dX5_plan_18 ?_
  refine zr_if_eq X 42 dX5_plan_21 (by decide) (fun q => absurd q (nI_ne0 (by omega) (by omega))) (fun _ => ?_)
  refine zr_iloadn X 3 dX5_plan_24 rfl ?_
  refine zr_dSi [.int (nI (1))] [] X (zK_ok A D tc tF tL tM) (d_isWay_t E μ (by omega) (by omega)) k_329 k_330 k_1 k_331 hdX5_isWay ⟨rfl, rfl⟩ ⟨Nat.le_of_ble_eq_true rfl, Nat.le_of_ble_eq_true rfl⟩ rfl rfl (Nat.le_of_ble_eq_true rfl) dX5_plan_25 ?_
  refine zr_if_eq X 42 dX5_plan_28 (by decide) (fun q => absurd q (nI_ne0 (by omega) (by omega))) (fun _ => ?_)
  refine zr_iload X 4 dX5_plan_31 rfl ?_
  refine zr_if_lt X 42 dX5_plan_33 (by decide) (fun q => absurd q (nI_pos (by omega))) (fun _ => ?_)
  refine zr_iload X 4 dX5_plan_36 rfl ?_
  refine zr_iconst X (nI (5)) dX5_plan_38 (by decide +kernel) ?_
  refine zr_icmp_le X 45 dX5_plan_39 (by decide) (fun _ => ?_) (fun q => absurd (zq_le (by omega) (by omega)) q)
  refine zr_aloadn X 0 dX5_plan_45 rfl ?_
  refine zr_get X (ci := 5) (q := 4) (zR _) (.ref (ad (290))) dX5_plan_46 (by omega) sc_0 rfl inX5 (by decide) rfl (zvR rfl) rfl k_219 ?_
  refine zr_aload X 5 dX5_plan_49 rfl ?_
  refine zr_aloadn X 0 dX5_plan_51 rfl ?_
  refine zr_get X (ci := 5) (q := 0) (zR _) (.ref (ad (1))) dX5_plan_52 (by omega) sc_0 rfl inX5 (by decide) rfl (zvR rfl) rfl k_215 ?_
  refine zr_get X (ci := 2) (q := 2) (zR _) (.ref (ad (2))) dX5_plan_55 (by omega) (sc_st (j := 0) (by omega) (by have := cb_0; omega)) rfl inX2 (by decide) rfl (zvR (by have := cb_0; omega)) rfl k_87 ?_
  refine zr_iloadn X 2 dX5_plan_58 rfl ?_
  refine zr_iloadn X 3 dX5_plan_59 rfl ?_
  refine zr_dVv (C := RX3) (ci := 3) [.ref (ad (4 * f + 4)), .ref (ad (2)), .int (nI (t)), .int (nI (1))] [] X (zK_ok A D tc tF tL tM) (d_workOut1 E μ (f := f) (t := t) (by omega) ht1 ht9) k_332 k_333 k_334 k_5 k_335 hdX3_workOut ⟨rfl, rfl⟩ ⟨Nat.le_of_ble_eq_true rfl, Nat.le_of_ble_eq_true rfl⟩ (by omega) sc_290 rfl rfl rfl (Nat.le_of_ble_eq_true rfl) dX5_plan_60 ?_
  refine zr_aloadn X 0 dX5_plan_63 rfl ?_
  refine zr_get X (ci := 5) (q := 4) (zR _) (.ref (ad (290))) dX5_plan_64 (by omega) sc_0 rfl inX5 (by decide) rfl (zvR rfl) rfl k_219 ?_
  refine zr_get X (ci := 3) (q := 5) zI (.int ((clay μ f (nI t) 1) (2458))) dX5_plan_67 (by omega) sc_290 rfl inX3 (by decide) rfl (congrArg Value.int (rfl)) rfl k_161 ?_
  refine zr_if_le X 76 dX5_plan_70 (by decide) (fun _ => ?_) (fun q => absurd (h) q)
  refine zr_iload X 4 dX5_plan_76 rfl ?_
  refine zr_tswI (off := 52) X 130 dX5_plan_78 ⟨by decide +kernel, by decide +kernel, by decide +kernel⟩ (by decide) ?_
  refine zr_aloadn X 0 dX5_plan_130 rfl ?_
  refine zr_get X (ci := 5) (q := 4) (zR _) (.ref (ad (290))) dX5_plan_131 (by omega) sc_0 rfl inX5 (by decide) rfl (zvR rfl) rfl k_219 ?_
  refine zr_get X (ci := 3) (q := 1) (zR _) (.ref (ad (292))) dX5_plan_134 (by omega) sc_290 rfl inX3 (by decide) rfl (zvR rfl) rfl k_153 ?_
  refine zr_iconst X (nI (1)) dX5_plan_137 (by decide +kernel) ?_
  refine zr_iald X (j := 1) 0 ((clay μ f (nI t) 1) (2481)) dX5_plan_138 (by omega) sc_292 rfl rfl (by omega) (by omega) (zcg (b := 2481) (by omega) (rfl)) ?_
  exact zr_iret X dX5_plan_139 ⟨rfl, rfl⟩

set_option maxHeartbeats 4000000 in
set_option maxRecDepth 100000 in
theorem d_plan_1_3 {l : Launch} {D : va_G} {tc : Nat → ClassId} {ad : Nat → Nat} {A : Nat → Prop} {tF tL tM : Nat} (E : zN 299 A ad) (μ : Nat → Int32) {m c ro z : Nat} (S : clsS μ m c ro z) {f : Nat} (hf : f < c) {t : Nat} (ht1 : 1 ≤ t) (ht9 : t ≤ 9999) (h : clay μ f (nI t) 1 2458 ≤ 0) : zMi l yX5_plan cX5_plan 6 (some .int) (zrm 5) (zK A D tc tF tL tM) A D vwCl tc ad 299 shC [.ref (ad (0)), .int (nI (f)), .int (nI (t)), .int (nI (1)), .int (nI (3))] μ (fun r u => r = clay μ f (nI t) 1 2482 ∧ u = clay μ f (nI t) 1) := by
  refine zM_of RX5 [(0, .ref (ad (0))), (1, .int (nI (f))), (2, .int (nI (t))), (3, .int (nI (1))), (4, .int (nI (3)))] (zK_ok A D tc tF tL tM) E.1 E.2 owC_ok (by decide +kernel) rfl (Nat.le_of_ble_eq_true rfl) rfl ?_
  intro pP eE sS mM aS bL mT cO X
  obtain ⟨hm, hm2, hc, h8, hr, hr4, hz, hz4⟩ := S
  refine zr_aloadn X 0 dX5_plan_0 rfl ?_
  refine zr_get X (ci := 5) (q := 0) (zR _) (.ref (ad (1))) dX5_plan_1 (by omega) sc_0 rfl inX5 (by decide) rfl (zvR rfl) rfl k_215 ?_
  refine zr_iloadn X 1 dX5_plan_4 rfl ?_
  refine zr_dVq (C := RX2) (ci := 2) [.int (nI (f))] [] X (zK_ok A D tc tF tL tM) (d_firmAt0_t E μ (f := f) (hc) h8 (by omega)) k_273 k_274 k_275 k_2 k_276 hdX2_firmAt ⟨rfl, rfl⟩ ⟨Nat.le_of_ble_eq_true rfl, Nat.le_of_ble_eq_true rfl⟩ (by omega) (sc_st (j := 0) (by omega) (by have := cb_0; omega)) rfl rfl rfl (Nat.le_of_ble_eq_true rfl) dX5_plan_5 rfl ?_
  refine zr_astore X [1, 2, 3, 4, 5, 0] [(0, .ref (ad (0))), (1, .int (nI (f))), (2, .int (nI (t))), (3, .int (nI (1))), (4, .int (nI (3))), (5, .ref (ad (4 * f + 4)))] dX5_plan_8 (by decide) rfl ?_
  refine zr_aload X 5 dX5_plan_10 rfl ?_
  refine zr_ifnonnull X 17 dX5_plan_12 (by decide) ?_
  refine zr_iloadn X 2 dX5_plan_17 rfl ?_
  refine zr_dSi [.int (nI (t))] [] X (zK_ok A D tc tF tL tM) (d_isTonnes_t E μ (by omega) (by omega)) k_277 k_278 k_1 k_279 hdX5_isTonnes ⟨rfl, rfl⟩ ⟨Nat.le_of_ble_eq_true rfl, Nat.le_of_ble_eq_true rfl⟩ rfl rfl (Nat.le_of_ble_eq_true rfl) dX5_plan_18 ?_
  refine zr_if_eq X 42 dX5_plan_21 (by decide) (fun q => absurd q (nI_ne0 (by omega) (by omega))) (fun _ => ?_)
  refine zr_iloadn X 3 dX5_plan_24 rfl ?_
  refine zr_dSi [.int (nI (1))] [] X (zK_ok A D tc tF tL tM) (d_isWay_t E μ (by omega) (by omega)) k_329 k_330 k_1 k_331 hdX5_isWay ⟨rfl, rfl⟩ ⟨Nat.le_of_ble_eq_true rfl, Nat.le_of_ble_eq_true rfl⟩ rfl rfl (Nat.le_of_ble_eq_true rfl) dX5_plan_25 ?_
  refine zr_if_eq X 42 dX5_plan_28 (by decide) (fun q => absurd q (nI_ne0 (by omega) (by omega))) (fun _ => ?_)
  refine zr_iload X 4 dX5_plan_31 rfl ?_
  refine zr_if_lt X 42 dX5_plan_33 (by decide) (fun q => absurd q (nI_pos (by omega))) (fun _ => ?_)
  refine zr_iload X 4 dX5_plan_36 rfl ?_
  refine zr_iconst X (nI (5)) dX5_plan_38 (by decide +kernel) ?_
  refine zr_icmp_le X 45 dX5_plan_39 (by decide) (fun _ => ?_) (fun q => absurd (zq_le (by omega) (by omega)) q)
  refine zr_aloadn X 0 dX5_plan_45 rfl ?_
  refine zr_get X (ci := 5) (q := 4) (zR _) (.ref (ad (290))) dX5_plan_46 (by omega) sc_0 rfl inX5 (by decide) rfl (zvR rfl) rfl k_219 ?_
  refine zr_aload X 5 dX5_plan_49 rfl ?_
  refine zr_aloadn X 0 dX5_plan_51 rfl ?_
  refine zr_get X (ci := 5) (q := 0) (zR _) (.ref (ad (1))) dX5_plan_52 (by omega) sc_0 rfl inX5 (by decide) rfl (zvR rfl) rfl k_215 ?_
  refine zr_get X (ci := 2) (q := 2) (zR _) (.ref (ad (2))) dX5_plan_55 (by omega) (sc_st (j := 0) (by omega) (by have := cb_0; omega)) rfl inX2 (by decide) rfl (zvR (by have := cb_0; omega)) rfl k_87 ?_
  refine zr_iloadn X 2 dX5_plan_58 rfl ?_
  refine zr_iloadn X 3 dX5_plan_59 rfl ?_
  refine zr_dVv (C := RX3) (ci := 3) [.ref (ad (4 * f + 4)), .ref (ad (2)), .int (nI (t)), .int (nI (1))] [] X (zK_ok A D tc tF tL tM) (d_workOut1 E μ (f := f) (t := t) (by omega) ht1 ht9) k_332 k_333 k_334 k_5 k_335 hdX3_workOut ⟨rfl, rfl⟩ ⟨Nat.le_of_ble_eq_true rfl, Nat.le_of_ble_eq_true rfl⟩ (by omega) sc_290 rfl rfl rfl (Nat.le_of_ble_eq_true rfl) dX5_plan_60 ?_
  refine zr_aloadn X 0 dX5_plan_63 rfl ?_
  refine zr_get X (ci := 5) (q := 4) (zR _) (.ref (ad (290))) dX5_plan_64 (by omega) sc_0 rfl inX5 (by decide) rfl (zvR rfl) rfl k_219 ?_
  refine zr_get X (ci := 3) (q := 5) zI (.int ((clay μ f (nI t) 1) (2458))) dX5_plan_67 (by omega) sc_290 rfl inX3 (by decide) rfl (congrArg Value.int (rfl)) rfl k_161 ?_
  refine zr_if_le X 76 dX5_plan_70 (by decide) (fun _ => ?_) (fun q => absurd (h) q)
  refine zr_iload X 4 dX5_plan_76 rfl ?_
  refine zr_tswI (off := 62) X 140 dX5_plan_78 ⟨by decide +kernel, by decide +kernel, by decide +kernel⟩ (by decide) ?_
  refine zr_aloadn X 0 dX5_plan_140 rfl ?_
  refine zr_get X (ci := 5) (q := 4) (zR _) (.ref (ad (290))) dX5_plan_141 (by omega) sc_0 rfl inX5 (by decide) rfl (zvR rfl) rfl k_219 ?_
  refine zr_get X (ci := 3) (q := 1) (zR _) (.ref (ad (292))) dX5_plan_144 (by omega) sc_290 rfl inX3 (by decide) rfl (zvR rfl) rfl k_153 ?_
  refine zr_iconst X (nI (2)) dX5_plan_147 (by decide +kernel) ?_
  refine zr_iald X (j := 2) 0 ((clay μ f (nI t) 1) (2482)) dX5_plan_148 (by omega) sc_292 rfl rfl (by omega) (by omega) (zcg (b := 2482) (by omega) (rfl)) ?_
  exact zr_iret X dX5_plan_149 ⟨rfl, rfl⟩

set_option maxHeartbeats 4000000 in
set_option maxRecDepth 100000 in
theorem d_plan_1_4 {l : Launch} {D : va_G} {tc : Nat → ClassId} {ad : Nat → Nat} {A : Nat → Prop} {tF tL tM : Nat} (E : zN 299 A ad) (μ : Nat → Int32) {m c ro z : Nat} (S : clsS μ m c ro z) {f : Nat} (hf : f < c) {t : Nat} (ht1 : 1 ≤ t) (ht9 : t ≤ 9999) (h : clay μ f (nI t) 1 2458 ≤ 0) : zMi l yX5_plan cX5_plan 6 (some .int) (zrm 5) (zK A D tc tF tL tM) A D vwCl tc ad 299 shC [.ref (ad (0)), .int (nI (f)), .int (nI (t)), .int (nI (1)), .int (nI (4))] μ (fun r u => r = clay μ f (nI t) 1 2456 ∧ u = clay μ f (nI t) 1) := by
  refine zM_of RX5 [(0, .ref (ad (0))), (1, .int (nI (f))), (2, .int (nI (t))), (3, .int (nI (1))), (4, .int (nI (4)))] (zK_ok A D tc tF tL tM) E.1 E.2 owC_ok (by decide +kernel) rfl (Nat.le_of_ble_eq_true rfl) rfl ?_
  intro pP eE sS mM aS bL mT cO X
  obtain ⟨hm, hm2, hc, h8, hr, hr4, hz, hz4⟩ := S
  refine zr_aloadn X 0 dX5_plan_0 rfl ?_
  refine zr_get X (ci := 5) (q := 0) (zR _) (.ref (ad (1))) dX5_plan_1 (by omega) sc_0 rfl inX5 (by decide) rfl (zvR rfl) rfl k_215 ?_
  refine zr_iloadn X 1 dX5_plan_4 rfl ?_
  refine zr_dVq (C := RX2) (ci := 2) [.int (nI (f))] [] X (zK_ok A D tc tF tL tM) (d_firmAt0_t E μ (f := f) (hc) h8 (by omega)) k_273 k_274 k_275 k_2 k_276 hdX2_firmAt ⟨rfl, rfl⟩ ⟨Nat.le_of_ble_eq_true rfl, Nat.le_of_ble_eq_true rfl⟩ (by omega) (sc_st (j := 0) (by omega) (by have := cb_0; omega)) rfl rfl rfl (Nat.le_of_ble_eq_true rfl) dX5_plan_5 rfl ?_
  refine zr_astore X [1, 2, 3, 4, 5, 0] [(0, .ref (ad (0))), (1, .int (nI (f))), (2, .int (nI (t))), (3, .int (nI (1))), (4, .int (nI (4))), (5, .ref (ad (4 * f + 4)))] dX5_plan_8 (by decide) rfl ?_
  refine zr_aload X 5 dX5_plan_10 rfl ?_
  refine zr_ifnonnull X 17 dX5_plan_12 (by decide) ?_
  refine zr_iloadn X 2 dX5_plan_17 rfl ?_
  refine zr_dSi [.int (nI (t))] [] X (zK_ok A D tc tF tL tM) (d_isTonnes_t E μ (by omega) (by omega)) k_277 k_278 k_1 k_279 hdX5_isTonnes ⟨rfl, rfl⟩ ⟨Nat.le_of_ble_eq_true rfl, Nat.le_of_ble_eq_true rfl⟩ rfl rfl (Nat.le_of_ble_eq_true rfl) dX5_plan_18 ?_
  refine zr_if_eq X 42 dX5_plan_21 (by decide) (fun q => absurd q (nI_ne0 (by omega) (by omega))) (fun _ => ?_)
  refine zr_iloadn X 3 dX5_plan_24 rfl ?_
  refine zr_dSi [.int (nI (1))] [] X (zK_ok A D tc tF tL tM) (d_isWay_t E μ (by omega) (by omega)) k_329 k_330 k_1 k_331 hdX5_isWay ⟨rfl, rfl⟩ ⟨Nat.le_of_ble_eq_true rfl, Nat.le_of_ble_eq_true rfl⟩ rfl rfl (Nat.le_of_ble_eq_true rfl) dX5_plan_25 ?_
  refine zr_if_eq X 42 dX5_plan_28 (by decide) (fun q => absurd q (nI_ne0 (by omega) (by omega))) (fun _ => ?_)
  refine zr_iload X 4 dX5_plan_31 rfl ?_
  refine zr_if_lt X 42 dX5_plan_33 (by decide) (fun q => absurd q (nI_pos (by omega))) (fun _ => ?_)
  refine zr_iload X 4 dX5_plan_36 rfl ?_
  refine zr_iconst X (nI (5)) dX5_plan_38 (by decide +kernel) ?_
  refine zr_icmp_le X 45 dX5_plan_39 (by decide) (fun _ => ?_) (fun q => absurd (zq_le (by omega) (by omega)) q)
  refine zr_aloadn X 0 dX5_plan_45 rfl ?_
  refine zr_get X (ci := 5) (q := 4) (zR _) (.ref (ad (290))) dX5_plan_46 (by omega) sc_0 rfl inX5 (by decide) rfl (zvR rfl) rfl k_219 ?_
  refine zr_aload X 5 dX5_plan_49 rfl ?_
  refine zr_aloadn X 0 dX5_plan_51 rfl ?_
  refine zr_get X (ci := 5) (q := 0) (zR _) (.ref (ad (1))) dX5_plan_52 (by omega) sc_0 rfl inX5 (by decide) rfl (zvR rfl) rfl k_215 ?_
  refine zr_get X (ci := 2) (q := 2) (zR _) (.ref (ad (2))) dX5_plan_55 (by omega) (sc_st (j := 0) (by omega) (by have := cb_0; omega)) rfl inX2 (by decide) rfl (zvR (by have := cb_0; omega)) rfl k_87 ?_
  refine zr_iloadn X 2 dX5_plan_58 rfl ?_
  refine zr_iloadn X 3 dX5_plan_59 rfl ?_
  refine zr_dVv (C := RX3) (ci := 3) [.ref (ad (4 * f + 4)), .ref (ad (2)), .int (nI (t)), .int (nI (1))] [] X (zK_ok A D tc tF tL tM) (d_workOut1 E μ (f := f) (t := t) (by omega) ht1 ht9) k_332 k_333 k_334 k_5 k_335 hdX3_workOut ⟨rfl, rfl⟩ ⟨Nat.le_of_ble_eq_true rfl, Nat.le_of_ble_eq_true rfl⟩ (by omega) sc_290 rfl rfl rfl (Nat.le_of_ble_eq_true rfl) dX5_plan_60 ?_
  refine zr_aloadn X 0 dX5_plan_63 rfl ?_
  refine zr_get X (ci := 5) (q := 4) (zR _) (.ref (ad (290))) dX5_plan_64 (by omega) sc_0 rfl inX5 (by decide) rfl (zvR rfl) rfl k_219 ?_
  refine zr_get X (ci := 3) (q := 5) zI (.int ((clay μ f (nI t) 1) (2458))) dX5_plan_67 (by omega) sc_290 rfl inX3 (by decide) rfl (congrArg Value.int (rfl)) rfl k_161 ?_
  refine zr_if_le X 76 dX5_plan_70 (by decide) (fun _ => ?_) (fun q => absurd (h) q)
  refine zr_iload X 4 dX5_plan_76 rfl ?_
  refine zr_tswI (off := 72) X 150 dX5_plan_78 ⟨by decide +kernel, by decide +kernel, by decide +kernel⟩ (by decide) ?_
  refine zr_aloadn X 0 dX5_plan_150 rfl ?_
  refine zr_get X (ci := 5) (q := 4) (zR _) (.ref (ad (290))) dX5_plan_151 (by omega) sc_0 rfl inX5 (by decide) rfl (zvR rfl) rfl k_219 ?_
  refine zr_get X (ci := 3) (q := 3) zI (.int ((clay μ f (nI t) 1) (2456))) dX5_plan_154 (by omega) sc_290 rfl inX3 (by decide) rfl (congrArg Value.int (rfl)) rfl k_157 ?_
  exact zr_iret X dX5_plan_157 ⟨rfl, rfl⟩

set_option maxHeartbeats 4000000 in
set_option maxRecDepth 100000 in
theorem d_plan_1_5 {l : Launch} {D : va_G} {tc : Nat → ClassId} {ad : Nat → Nat} {A : Nat → Prop} {tF tL tM : Nat} (E : zN 299 A ad) (μ : Nat → Int32) {m c ro z : Nat} (S : clsS μ m c ro z) {f : Nat} (hf : f < c) {t : Nat} (ht1 : 1 ≤ t) (ht9 : t ≤ 9999) (h : clay μ f (nI t) 1 2458 ≤ 0) : zMi l yX5_plan cX5_plan 6 (some .int) (zrm 5) (zK A D tc tF tL tM) A D vwCl tc ad 299 shC [.ref (ad (0)), .int (nI (f)), .int (nI (t)), .int (nI (1)), .int (nI (5))] μ (fun r u => r = clay μ f (nI t) 1 2457 ∧ u = clay μ f (nI t) 1) := by
  refine zM_of RX5 [(0, .ref (ad (0))), (1, .int (nI (f))), (2, .int (nI (t))), (3, .int (nI (1))), (4, .int (nI (5)))] (zK_ok A D tc tF tL tM) E.1 E.2 owC_ok (by decide +kernel) rfl (Nat.le_of_ble_eq_true rfl) rfl ?_
  intro pP eE sS mM aS bL mT cO X
  obtain ⟨hm, hm2, hc, h8, hr, hr4, hz, hz4⟩ := S
  refine zr_aloadn X 0 dX5_plan_0 rfl ?_
  refine zr_get X (ci := 5) (q := 0) (zR _) (.ref (ad (1))) dX5_plan_1 (by omega) sc_0 rfl inX5 (by decide) rfl (zvR rfl) rfl k_215 ?_
  refine zr_iloadn X 1 dX5_plan_4 rfl ?_
  refine zr_dVq (C := RX2) (ci := 2) [.int (nI (f))] [] X (zK_ok A D tc tF tL tM) (d_firmAt0_t E μ (f := f) (hc) h8 (by omega)) k_273 k_274 k_275 k_2 k_276 hdX2_firmAt ⟨rfl, rfl⟩ ⟨Nat.le_of_ble_eq_true rfl, Nat.le_of_ble_eq_true rfl⟩ (by omega) (sc_st (j := 0) (by omega) (by have := cb_0; omega)) rfl rfl rfl (Nat.le_of_ble_eq_true rfl) dX5_plan_5 rfl ?_
  refine zr_astore X [1, 2, 3, 4, 5, 0] [(0, .ref (ad (0))), (1, .int (nI (f))), (2, .int (nI (t))), (3, .int (nI (1))), (4, .int (nI (5))), (5, .ref (ad (4 * f + 4)))] dX5_plan_8 (by decide) rfl ?_
  refine zr_aload X 5 dX5_plan_10 rfl ?_
  refine zr_ifnonnull X 17 dX5_plan_12 (by decide) ?_
  refine zr_iloadn X 2 dX5_plan_17 rfl ?_
  refine zr_dSi [.int (nI (t))] [] X (zK_ok A D tc tF tL tM) (d_isTonnes_t E μ (by omega) (by omega)) k_277 k_278 k_1 k_279 hdX5_isTonnes ⟨rfl, rfl⟩ ⟨Nat.le_of_ble_eq_true rfl, Nat.le_of_ble_eq_true rfl⟩ rfl rfl (Nat.le_of_ble_eq_true rfl) dX5_plan_18 ?_
  refine zr_if_eq X 42 dX5_plan_21 (by decide) (fun q => absurd q (nI_ne0 (by omega) (by omega))) (fun _ => ?_)
  refine zr_iloadn X 3 dX5_plan_24 rfl ?_
  refine zr_dSi [.int (nI (1))] [] X (zK_ok A D tc tF tL tM) (d_isWay_t E μ (by omega) (by omega)) k_329 k_330 k_1 k_331 hdX5_isWay ⟨rfl, rfl⟩ ⟨Nat.le_of_ble_eq_true rfl, Nat.le_of_ble_eq_true rfl⟩ rfl rfl (Nat.le_of_ble_eq_true rfl) dX5_plan_25 ?_
  refine zr_if_eq X 42 dX5_plan_28 (by decide) (fun q => absurd q (nI_ne0 (by omega) (by omega))) (fun _ => ?_)
  refine zr_iload X 4 dX5_plan_31 rfl ?_
  refine zr_if_lt X 42 dX5_plan_33 (by decide) (fun q => absurd q (nI_pos (by omega))) (fun _ => ?_)
  refine zr_iload X 4 dX5_plan_36 rfl ?_
  refine zr_iconst X (nI (5)) dX5_plan_38 (by decide +kernel) ?_
  refine zr_icmp_le X 45 dX5_plan_39 (by decide) (fun _ => ?_) (fun q => absurd (zq_le (by omega) (by omega)) q)
  refine zr_aloadn X 0 dX5_plan_45 rfl ?_
  refine zr_get X (ci := 5) (q := 4) (zR _) (.ref (ad (290))) dX5_plan_46 (by omega) sc_0 rfl inX5 (by decide) rfl (zvR rfl) rfl k_219 ?_
  refine zr_aload X 5 dX5_plan_49 rfl ?_
  refine zr_aloadn X 0 dX5_plan_51 rfl ?_
  refine zr_get X (ci := 5) (q := 0) (zR _) (.ref (ad (1))) dX5_plan_52 (by omega) sc_0 rfl inX5 (by decide) rfl (zvR rfl) rfl k_215 ?_
  refine zr_get X (ci := 2) (q := 2) (zR _) (.ref (ad (2))) dX5_plan_55 (by omega) (sc_st (j := 0) (by omega) (by have := cb_0; omega)) rfl inX2 (by decide) rfl (zvR (by have := cb_0; omega)) rfl k_87 ?_
  refine zr_iloadn X 2 dX5_plan_58 rfl ?_
  refine zr_iloadn X 3 dX5_plan_59 rfl ?_
  refine zr_dVv (C := RX3) (ci := 3) [.ref (ad (4 * f + 4)), .ref (ad (2)), .int (nI (t)), .int (nI (1))] [] X (zK_ok A D tc tF tL tM) (d_workOut1 E μ (f := f) (t := t) (by omega) ht1 ht9) k_332 k_333 k_334 k_5 k_335 hdX3_workOut ⟨rfl, rfl⟩ ⟨Nat.le_of_ble_eq_true rfl, Nat.le_of_ble_eq_true rfl⟩ (by omega) sc_290 rfl rfl rfl (Nat.le_of_ble_eq_true rfl) dX5_plan_60 ?_
  refine zr_aloadn X 0 dX5_plan_63 rfl ?_
  refine zr_get X (ci := 5) (q := 4) (zR _) (.ref (ad (290))) dX5_plan_64 (by omega) sc_0 rfl inX5 (by decide) rfl (zvR rfl) rfl k_219 ?_
  refine zr_get X (ci := 3) (q := 5) zI (.int ((clay μ f (nI t) 1) (2458))) dX5_plan_67 (by omega) sc_290 rfl inX3 (by decide) rfl (congrArg Value.int (rfl)) rfl k_161 ?_
  refine zr_if_le X 76 dX5_plan_70 (by decide) (fun _ => ?_) (fun q => absurd (h) q)
  refine zr_iload X 4 dX5_plan_76 rfl ?_
  refine zr_tswO X 158 dX5_plan_78 (by decide +kernel) (by decide) ?_
  refine zr_aloadn X 0 dX5_plan_158 rfl ?_
  refine zr_get X (ci := 5) (q := 4) (zR _) (.ref (ad (290))) dX5_plan_159 (by omega) sc_0 rfl inX5 (by decide) rfl (zvR rfl) rfl k_219 ?_
  refine zr_get X (ci := 3) (q := 4) zI (.int ((clay μ f (nI t) 1) (2457))) dX5_plan_162 (by omega) sc_290 rfl inX3 (by decide) rfl (congrArg Value.int (rfl)) rfl k_159 ?_
  exact zr_iret X dX5_plan_165 ⟨rfl, rfl⟩

set_option maxHeartbeats 4000000 in
set_option maxRecDepth 100000 in
theorem d_plan_n2 {l : Launch} {D : va_G} {tc : Nat → ClassId} {ad : Nat → Nat} {A : Nat → Prop} {tF tL tM : Nat} (E : zN 299 A ad) (μ : Nat → Int32) {m c ro z : Nat} (S : clsS μ m c ro z) {f : Nat} (hf : f < c) {t : Nat} (ht1 : 1 ≤ t) (ht9 : t ≤ 9999) {w : Nat} (hw : w ≤ 5) (h : ¬ clay μ f (nI t) 2 2458 ≤ 0) : zMi l yX5_plan cX5_plan 6 (some .int) (zrm 5) (zK A D tc tF tL tM) A D vwCl tc ad 299 shC [.ref (ad (0)), .int (nI (f)), .int (nI (t)), .int (nI (2)), .int (nI (w))] μ (fun r u => r = -4 ∧ u = clay μ f (nI t) 2) := by
  refine zM_of RX5 [(0, .ref (ad (0))), (1, .int (nI (f))), (2, .int (nI (t))), (3, .int (nI (2))), (4, .int (nI (w)))] (zK_ok A D tc tF tL tM) E.1 E.2 owC_ok (by decide +kernel) rfl (Nat.le_of_ble_eq_true rfl) rfl ?_
  intro pP eE sS mM aS bL mT cO X
  obtain ⟨hm, hm2, hc, h8, hr, hr4, hz, hz4⟩ := S
  refine zr_aloadn X 0 dX5_plan_0 rfl ?_
  refine zr_get X (ci := 5) (q := 0) (zR _) (.ref (ad (1))) dX5_plan_1 (by omega) sc_0 rfl inX5 (by decide) rfl (zvR rfl) rfl k_215 ?_
  refine zr_iloadn X 1 dX5_plan_4 rfl ?_
  refine zr_dVq (C := RX2) (ci := 2) [.int (nI (f))] [] X (zK_ok A D tc tF tL tM) (d_firmAt0_t E μ (f := f) (hc) h8 (by omega)) k_273 k_274 k_275 k_2 k_276 hdX2_firmAt ⟨rfl, rfl⟩ ⟨Nat.le_of_ble_eq_true rfl, Nat.le_of_ble_eq_true rfl⟩ (by omega) (sc_st (j := 0) (by omega) (by have := cb_0; omega)) rfl rfl rfl (Nat.le_of_ble_eq_true rfl) dX5_plan_5 rfl ?_
  refine zr_astore X [1, 2, 3, 4, 5, 0] [(0, .ref (ad (0))), (1, .int (nI (f))), (2, .int (nI (t))), (3, .int (nI (2))), (4, .int (nI (w))), (5, .ref (ad (4 * f + 4)))] dX5_plan_8 (by decide) rfl ?_
  refine zr_aload X 5 dX5_plan_10 rfl ?_
  refine zr_ifnonnull X 17 dX5_plan_12 (by decide) ?_
  refine zr_iloadn X 2 dX5_plan_17 rfl ?_
  refine zr_dSi [.int (nI (t))] [] X (zK_ok A D tc tF tL tM) (d_isTonnes_t E μ (by omega) (by omega)) k_277 k_278 k_1 k_279 hdX5_isTonnes ⟨rfl, rfl⟩ ⟨Nat.le_of_ble_eq_true rfl, Nat.le_of_ble_eq_true rfl⟩ rfl rfl (Nat.le_of_ble_eq_true rfl) dX5_plan_18 ?_
  refine zr_if_eq X 42 dX5_plan_21 (by decide) (fun q => absurd q (nI_ne0 (by omega) (by omega))) (fun _ => ?_)
  refine zr_iloadn X 3 dX5_plan_24 rfl ?_
  refine zr_dSi [.int (nI (2))] [] X (zK_ok A D tc tF tL tM) (d_isWay_t E μ (by omega) (by omega)) k_329 k_330 k_1 k_331 hdX5_isWay ⟨rfl, rfl⟩ ⟨Nat.le_of_ble_eq_true rfl, Nat.le_of_ble_eq_true rfl⟩ rfl rfl (Nat.le_of_ble_eq_true rfl) dX5_plan_25 ?_
  refine zr_if_eq X 42 dX5_plan_28 (by decide) (fun q => absurd q (nI_ne0 (by omega) (by omega))) (fun _ => ?_)
  refine zr_iload X 4 dX5_plan_31 rfl ?_
  refine zr_if_lt X 42 dX5_plan_33 (by decide) (fun q => absurd q (nI_pos (by omega))) (fun _ => ?_)
  refine zr_iload X 4 dX5_plan_36 rfl ?_
  refine zr_iconst X (nI (5)) dX5_plan_38 (by decide +kernel) ?_
  refine zr_icmp_le X 45 dX5_plan_39 (by decide) (fun _ => ?_) (fun q => absurd (zq_le (by omega) (by omega)) q)
  refine zr_aloadn X 0 dX5_plan_45 rfl ?_
  refine zr_get X (ci := 5) (q := 4) (zR _) (.ref (ad (290))) dX5_plan_46 (by omega) sc_0 rfl inX5 (by decide) rfl (zvR rfl) rfl k_219 ?_
  refine zr_aload X 5 dX5_plan_49 rfl ?_
  refine zr_aloadn X 0 dX5_plan_51 rfl ?_
  refine zr_get X (ci := 5) (q := 0) (zR _) (.ref (ad (1))) dX5_plan_52 (by omega) sc_0 rfl inX5 (by decide) rfl (zvR rfl) rfl k_215 ?_
  refine zr_get X (ci := 2) (q := 2) (zR _) (.ref (ad (2))) dX5_plan_55 (by omega) (sc_st (j := 0) (by omega) (by have := cb_0; omega)) rfl inX2 (by decide) rfl (zvR (by have := cb_0; omega)) rfl k_87 ?_
  refine zr_iloadn X 2 dX5_plan_58 rfl ?_
  refine zr_iloadn X 3 dX5_plan_59 rfl ?_
  refine zr_dVv (C := RX3) (ci := 3) [.ref (ad (4 * f + 4)), .ref (ad (2)), .int (nI (t)), .int (nI (2))] [] X (zK_ok A D tc tF tL tM) (d_workOut2 E μ (f := f) (t := t) (by omega) ht1 ht9) k_332 k_333 k_334 k_5 k_335 hdX3_workOut ⟨rfl, rfl⟩ ⟨Nat.le_of_ble_eq_true rfl, Nat.le_of_ble_eq_true rfl⟩ (by omega) sc_290 rfl rfl rfl (Nat.le_of_ble_eq_true rfl) dX5_plan_60 ?_
  refine zr_aloadn X 0 dX5_plan_63 rfl ?_
  refine zr_get X (ci := 5) (q := 4) (zR _) (.ref (ad (290))) dX5_plan_64 (by omega) sc_0 rfl inX5 (by decide) rfl (zvR rfl) rfl k_219 ?_
  refine zr_get X (ci := 3) (q := 5) zI (.int ((clay μ f (nI t) 2) (2458))) dX5_plan_67 (by omega) sc_290 rfl inX3 (by decide) rfl (congrArg Value.int (rfl)) rfl k_161 ?_
  refine zr_if_le X 76 dX5_plan_70 (by decide) (fun q => absurd q (h)) (fun _ => ?_)
  refine zr_bipush X (-4) dX5_plan_73 (by decide +kernel) ?_
  exact zr_iret X dX5_plan_75 ⟨rfl, rfl⟩

set_option maxHeartbeats 4000000 in
set_option maxRecDepth 100000 in
theorem d_plan_2_0 {l : Launch} {D : va_G} {tc : Nat → ClassId} {ad : Nat → Nat} {A : Nat → Prop} {tF tL tM : Nat} (E : zN 299 A ad) (μ : Nat → Int32) {m c ro z : Nat} (S : clsS μ m c ro z) {f : Nat} (hf : f < c) {t : Nat} (ht1 : 1 ≤ t) (ht9 : t ≤ 9999) (h : clay μ f (nI t) 2 2458 ≤ 0) : zMi l yX5_plan cX5_plan 6 (some .int) (zrm 5) (zK A D tc tF tL tM) A D vwCl tc ad 299 shC [.ref (ad (0)), .int (nI (f)), .int (nI (t)), .int (nI (2)), .int (nI (0))] μ (fun r u => r = clay μ f (nI t) 2 2455 ∧ u = clay μ f (nI t) 2) := by
  refine zM_of RX5 [(0, .ref (ad (0))), (1, .int (nI (f))), (2, .int (nI (t))), (3, .int (nI (2))), (4, .int (nI (0)))] (zK_ok A D tc tF tL tM) E.1 E.2 owC_ok (by decide +kernel) rfl (Nat.le_of_ble_eq_true rfl) rfl ?_
  intro pP eE sS mM aS bL mT cO X
  obtain ⟨hm, hm2, hc, h8, hr, hr4, hz, hz4⟩ := S
  refine zr_aloadn X 0 dX5_plan_0 rfl ?_
  refine zr_get X (ci := 5) (q := 0) (zR _) (.ref (ad (1))) dX5_plan_1 (by omega) sc_0 rfl inX5 (by decide) rfl (zvR rfl) rfl k_215 ?_
  refine zr_iloadn X 1 dX5_plan_4 rfl ?_
  refine zr_dVq (C := RX2) (ci := 2) [.int (nI (f))] [] X (zK_ok A D tc tF tL tM) (d_firmAt0_t E μ (f := f) (hc) h8 (by omega)) k_273 k_274 k_275 k_2 k_276 hdX2_firmAt ⟨rfl, rfl⟩ ⟨Nat.le_of_ble_eq_true rfl, Nat.le_of_ble_eq_true rfl⟩ (by omega) (sc_st (j := 0) (by omega) (by have := cb_0; omega)) rfl rfl rfl (Nat.le_of_ble_eq_true rfl) dX5_plan_5 rfl ?_
  refine zr_astore X [1, 2, 3, 4, 5, 0] [(0, .ref (ad (0))), (1, .int (nI (f))), (2, .int (nI (t))), (3, .int (nI (2))), (4, .int (nI (0))), (5, .ref (ad (4 * f + 4)))] dX5_plan_8 (by decide) rfl ?_
  refine zr_aload X 5 dX5_plan_10 rfl ?_
  refine zr_ifnonnull X 17 dX5_plan_12 (by decide) ?_
  refine zr_iloadn X 2 dX5_plan_17 rfl ?_
  refine zr_dSi [.int (nI (t))] [] X (zK_ok A D tc tF tL tM) (d_isTonnes_t E μ (by omega) (by omega)) k_277 k_278 k_1 k_279 hdX5_isTonnes ⟨rfl, rfl⟩ ⟨Nat.le_of_ble_eq_true rfl, Nat.le_of_ble_eq_true rfl⟩ rfl rfl (Nat.le_of_ble_eq_true rfl) dX5_plan_18 ?_
  refine zr_if_eq X 42 dX5_plan_21 (by decide) (fun q => absurd q (nI_ne0 (by omega) (by omega))) (fun _ => ?_)
  refine zr_iloadn X 3 dX5_plan_24 rfl ?_
  refine zr_dSi [.int (nI (2))] [] X (zK_ok A D tc tF tL tM) (d_isWay_t E μ (by omega) (by omega)) k_329 k_330 k_1 k_331 hdX5_isWay ⟨rfl, rfl⟩ ⟨Nat.le_of_ble_eq_true rfl, Nat.le_of_ble_eq_true rfl⟩ rfl rfl (Nat.le_of_ble_eq_true rfl) dX5_plan_25 ?_
  refine zr_if_eq X 42 dX5_plan_28 (by decide) (fun q => absurd q (nI_ne0 (by omega) (by omega))) (fun _ => ?_)
  refine zr_iload X 4 dX5_plan_31 rfl ?_
  refine zr_if_lt X 42 dX5_plan_33 (by decide) (fun q => absurd q (nI_pos (by omega))) (fun _ => ?_)
  refine zr_iload X 4 dX5_plan_36 rfl ?_
  refine zr_iconst X (nI (5)) dX5_plan_38 (by decide +kernel) ?_
  refine zr_icmp_le X 45 dX5_plan_39 (by decide) (fun _ => ?_) (fun q => absurd (zq_le (by omega) (by omega)) q)
  refine zr_aloadn X 0 dX5_plan_45 rfl ?_
  refine zr_get X (ci := 5) (q := 4) (zR _) (.ref (ad (290))) dX5_plan_46 (by omega) sc_0 rfl inX5 (by decide) rfl (zvR rfl) rfl k_219 ?_
  refine zr_aload X 5 dX5_plan_49 rfl ?_
  refine zr_aloadn X 0 dX5_plan_51 rfl ?_
  refine zr_get X (ci := 5) (q := 0) (zR _) (.ref (ad (1))) dX5_plan_52 (by omega) sc_0 rfl inX5 (by decide) rfl (zvR rfl) rfl k_215 ?_
  refine zr_get X (ci := 2) (q := 2) (zR _) (.ref (ad (2))) dX5_plan_55 (by omega) (sc_st (j := 0) (by omega) (by have := cb_0; omega)) rfl inX2 (by decide) rfl (zvR (by have := cb_0; omega)) rfl k_87 ?_
  refine zr_iloadn X 2 dX5_plan_58 rfl ?_
  refine zr_iloadn X 3 dX5_plan_59 rfl ?_
  refine zr_dVv (C := RX3) (ci := 3) [.ref (ad (4 * f + 4)), .ref (ad (2)), .int (nI (t)), .int (nI (2))] [] X (zK_ok A D tc tF tL tM) (d_workOut2 E μ (f := f) (t := t) (by omega) ht1 ht9) k_332 k_333 k_334 k_5 k_335 hdX3_workOut ⟨rfl, rfl⟩ ⟨Nat.le_of_ble_eq_true rfl, Nat.le_of_ble_eq_true rfl⟩ (by omega) sc_290 rfl rfl rfl (Nat.le_of_ble_eq_true rfl) dX5_plan_60 ?_
  refine zr_aloadn X 0 dX5_plan_63 rfl ?_
  refine zr_get X (ci := 5) (q := 4) (zR _) (.ref (ad (290))) dX5_plan_64 (by omega) sc_0 rfl inX5 (by decide) rfl (zvR rfl) rfl k_219 ?_
  refine zr_get X (ci := 3) (q := 5) zI (.int ((clay μ f (nI t) 2) (2458))) dX5_plan_67 (by omega) sc_290 rfl inX3 (by decide) rfl (congrArg Value.int (rfl)) rfl k_161 ?_
  refine zr_if_le X 76 dX5_plan_70 (by decide) (fun _ => ?_) (fun q => absurd (h) q)
  refine zr_iload X 4 dX5_plan_76 rfl ?_
  refine zr_tswI (off := 34) X 112 dX5_plan_78 ⟨by decide +kernel, by decide +kernel, by decide +kernel⟩ (by decide) ?_
  refine zr_aloadn X 0 dX5_plan_112 rfl ?_
  refine zr_get X (ci := 5) (q := 4) (zR _) (.ref (ad (290))) dX5_plan_113 (by omega) sc_0 rfl inX5 (by decide) rfl (zvR rfl) rfl k_219 ?_
  refine zr_get X (ci := 3) (q := 2) zI (.int ((clay μ f (nI t) 2) (2455))) dX5_plan_116 (by omega) sc_290 rfl inX3 (by decide) rfl (congrArg Value.int (rfl)) rfl k_155 ?_
  exact zr_iret X dX5_plan_119 ⟨rfl, rfl⟩

set_option maxHeartbeats 4000000 in
set_option maxRecDepth 100000 in
theorem d_plan_2_1 {l : Launch} {D : va_G} {tc : Nat → ClassId} {ad : Nat → Nat} {A : Nat → Prop} {tF tL tM : Nat} (E : zN 299 A ad) (μ : Nat → Int32) {m c ro z : Nat} (S : clsS μ m c ro z) {f : Nat} (hf : f < c) {t : Nat} (ht1 : 1 ≤ t) (ht9 : t ≤ 9999) (h : clay μ f (nI t) 2 2458 ≤ 0) : zMi l yX5_plan cX5_plan 6 (some .int) (zrm 5) (zK A D tc tF tL tM) A D vwCl tc ad 299 shC [.ref (ad (0)), .int (nI (f)), .int (nI (t)), .int (nI (2)), .int (nI (1))] μ (fun r u => r = clay μ f (nI t) 2 2480 ∧ u = clay μ f (nI t) 2) := by
  refine zM_of RX5 [(0, .ref (ad (0))), (1, .int (nI (f))), (2, .int (nI (t))), (3, .int (nI (2))), (4, .int (nI (1)))] (zK_ok A D tc tF tL tM) E.1 E.2 owC_ok (by decide +kernel) rfl (Nat.le_of_ble_eq_true rfl) rfl ?_
  intro pP eE sS mM aS bL mT cO X
  obtain ⟨hm, hm2, hc, h8, hr, hr4, hz, hz4⟩ := S
  refine zr_aloadn X 0 dX5_plan_0 rfl ?_
  refine zr_get X (ci := 5) (q := 0) (zR _) (.ref (ad (1))) dX5_plan_1 (by omega) sc_0 rfl inX5 (by decide) rfl (zvR rfl) rfl k_215 ?_
  refine zr_iloadn X 1 dX5_plan_4 rfl ?_
  refine zr_dVq (C := RX2) (ci := 2) [.int (nI (f))] [] X (zK_ok A D tc tF tL tM) (d_firmAt0_t E μ (f := f) (hc) h8 (by omega)) k_273 k_274 k_275 k_2 k_276 hdX2_firmAt ⟨rfl, rfl⟩ ⟨Nat.le_of_ble_eq_true rfl, Nat.le_of_ble_eq_true rfl⟩ (by omega) (sc_st (j := 0) (by omega) (by have := cb_0; omega)) rfl rfl rfl (Nat.le_of_ble_eq_true rfl) dX5_plan_5 rfl ?_
  refine zr_astore X [1, 2, 3, 4, 5, 0] [(0, .ref (ad (0))), (1, .int (nI (f))), (2, .int (nI (t))), (3, .int (nI (2))), (4, .int (nI (1))), (5, .ref (ad (4 * f + 4)))] dX5_plan_8 (by decide) rfl ?_
  refine zr_aload X 5 dX5_plan_10 rfl ?_
  refine zr_ifnonnull X 17 dX5_plan_12 (by decide) ?_
  refine zr_iloadn X 2 dX5_plan_17 rfl ?_
  refine zr_dSi [.int (nI (t))] [] X (zK_ok A D tc tF tL tM) (d_isTonnes_t E μ (by omega) (by omega)) k_277 k_278 k_1 k_279 hdX5_isTonnes ⟨rfl, rfl⟩ ⟨Nat.le_of_ble_eq_true rfl, Nat.le_of_ble_eq_true rfl⟩ rfl rfl (Nat.le_of_ble_eq_true rfl) dX5_plan_18 ?_
  refine zr_if_eq X 42 dX5_plan_21 (by decide) (fun q => absurd q (nI_ne0 (by omega) (by omega))) (fun _ => ?_)
  refine zr_iloadn X 3 dX5_plan_24 rfl ?_
  refine zr_dSi [.int (nI (2))] [] X (zK_ok A D tc tF tL tM) (d_isWay_t E μ (by omega) (by omega)) k_329 k_330 k_1 k_331 hdX5_isWay ⟨rfl, rfl⟩ ⟨Nat.le_of_ble_eq_true rfl, Nat.le_of_ble_eq_true rfl⟩ rfl rfl (Nat.le_of_ble_eq_true rfl) dX5_plan_25 ?_
  refine zr_if_eq X 42 dX5_plan_28 (by decide) (fun q => absurd q (nI_ne0 (by omega) (by omega))) (fun _ => ?_)
  refine zr_iload X 4 dX5_plan_31 rfl ?_
  refine zr_if_lt X 42 dX5_plan_33 (by decide) (fun q => absurd q (nI_pos (by omega))) (fun _ => ?_)
  refine zr_iload X 4 dX5_plan_36 rfl ?_
  refine zr_iconst X (nI (5)) dX5_plan_38 (by decide +kernel) ?_
  refine zr_icmp_le X 45 dX5_plan_39 (by decide) (fun _ => ?_) (fun q => absurd (zq_le (by omega) (by omega)) q)
  refine zr_aloadn X 0 dX5_plan_45 rfl ?_
  refine zr_get X (ci := 5) (q := 4) (zR _) (.ref (ad (290))) dX5_plan_46 (by omega) sc_0 rfl inX5 (by decide) rfl (zvR rfl) rfl k_219 ?_
  refine zr_aload X 5 dX5_plan_49 rfl ?_
  refine zr_aloadn X 0 dX5_plan_51 rfl ?_
  refine zr_get X (ci := 5) (q := 0) (zR _) (.ref (ad (1))) dX5_plan_52 (by omega) sc_0 rfl inX5 (by decide) rfl (zvR rfl) rfl k_215 ?_
  refine zr_get X (ci := 2) (q := 2) (zR _) (.ref (ad (2))) dX5_plan_55 (by omega) (sc_st (j := 0) (by omega) (by have := cb_0; omega)) rfl inX2 (by decide) rfl (zvR (by have := cb_0; omega)) rfl k_87 ?_
  refine zr_iloadn X 2 dX5_plan_58 rfl ?_
  refine zr_iloadn X 3 dX5_plan_59 rfl ?_
  refine zr_dVv (C := RX3) (ci := 3) [.ref (ad (4 * f + 4)), .ref (ad (2)), .int (nI (t)), .int (nI (2))] [] X (zK_ok A D tc tF tL tM) (d_workOut2 E μ (f := f) (t := t) (by omega) ht1 ht9) k_332 k_333 k_334 k_5 k_335 hdX3_workOut ⟨rfl, rfl⟩ ⟨Nat.le_of_ble_eq_true rfl, Nat.le_of_ble_eq_true rfl⟩ (by omega) sc_290 rfl rfl rfl (Nat.le_of_ble_eq_true rfl) dX5_plan_60 ?_
  refine zr_aloadn X 0 dX5_plan_63 rfl ?_
  refine zr_get X (ci := 5) (q := 4) (zR _) (.ref (ad (290))) dX5_plan_64 (by omega) sc_0 rfl inX5 (by decide) rfl (zvR rfl) rfl k_219 ?_
  refine zr_get X (ci := 3) (q := 5) zI (.int ((clay μ f (nI t) 2) (2458))) dX5_plan_67 (by omega) sc_290 rfl inX3 (by decide) rfl (congrArg Value.int (rfl)) rfl k_161 ?_
  refine zr_if_le X 76 dX5_plan_70 (by decide) (fun _ => ?_) (fun q => absurd (h) q)
  refine zr_iload X 4 dX5_plan_76 rfl ?_
  refine zr_tswI (off := 42) X 120 dX5_plan_78 ⟨by decide +kernel, by decide +kernel, by decide +kernel⟩ (by decide) ?_
  refine zr_aloadn X 0 dX5_plan_120 rfl ?_
  refine zr_get X (ci := 5) (q := 4) (zR _) (.ref (ad (290))) dX5_plan_121 (by omega) sc_0 rfl inX5 (by decide) rfl (zvR rfl) rfl k_219 ?_
  refine zr_get X (ci := 3) (q := 1) (zR _) (.ref (ad (292))) dX5_plan_124 (by omega) sc_290 rfl inX3 (by decide) rfl (zvR rfl) rfl k_153 ?_
  refine zr_iconst X (nI (0)) dX5_plan_127 (by decide +kernel) ?_
  refine zr_iald X (j := 0) 0 ((clay μ f (nI t) 2) (2480)) dX5_plan_128 (by omega) sc_292 rfl rfl (by omega) (by omega) (zcg (b := 2480) (by omega) (rfl)) ?_
  exact zr_iret X dX5_plan_129 ⟨rfl, rfl⟩

set_option maxHeartbeats 4000000 in
set_option maxRecDepth 100000 in
theorem d_plan_2_2 {l : Launch} {D : va_G} {tc : Nat → ClassId} {ad : Nat → Nat} {A : Nat → Prop} {tF tL tM : Nat} (E : zN 299 A ad) (μ : Nat → Int32) {m c ro z : Nat} (S : clsS μ m c ro z) {f : Nat} (hf : f < c) {t : Nat} (ht1 : 1 ≤ t) (ht9 : t ≤ 9999) (h : clay μ f (nI t) 2 2458 ≤ 0) : zMi l yX5_plan cX5_plan 6 (some .int) (zrm 5) (zK A D tc tF tL tM) A D vwCl tc ad 299 shC [.ref (ad (0)), .int (nI (f)), .int (nI (t)), .int (nI (2)), .int (nI (2))] μ (fun r u => r = clay μ f (nI t) 2 2481 ∧ u = clay μ f (nI t) 2) := by
  refine zM_of RX5 [(0, .ref (ad (0))), (1, .int (nI (f))), (2, .int (nI (t))), (3, .int (nI (2))), (4, .int (nI (2)))] (zK_ok A D tc tF tL tM) E.1 E.2 owC_ok (by decide +kernel) rfl (Nat.le_of_ble_eq_true rfl) rfl ?_
  intro pP eE sS mM aS bL mT cO X
  obtain ⟨hm, hm2, hc, h8, hr, hr4, hz, hz4⟩ := S
  refine zr_aloadn X 0 dX5_plan_0 rfl ?_
  refine zr_get X (ci := 5) (q := 0) (zR _) (.ref (ad (1))) dX5_plan_1 (by omega) sc_0 rfl inX5 (by decide) rfl (zvR rfl) rfl k_215 ?_
  refine zr_iloadn X 1 dX5_plan_4 rfl ?_
  refine zr_dVq (C := RX2) (ci := 2) [.int (nI (f))] [] X (zK_ok A D tc tF tL tM) (d_firmAt0_t E μ (f := f) (hc) h8 (by omega)) k_273 k_274 k_275 k_2 k_276 hdX2_firmAt ⟨rfl, rfl⟩ ⟨Nat.le_of_ble_eq_true rfl, Nat.le_of_ble_eq_true rfl⟩ (by omega) (sc_st (j := 0) (by omega) (by have := cb_0; omega)) rfl rfl rfl (Nat.le_of_ble_eq_true rfl) dX5_plan_5 rfl ?_
  refine zr_astore X [1, 2, 3, 4, 5, 0] [(0, .ref (ad (0))), (1, .int (nI (f))), (2, .int (nI (t))), (3, .int (nI (2))), (4, .int (nI (2))), (5, .ref (ad (4 * f + 4)))] dX5_plan_8 (by decide) rfl ?_
  refine zr_aload X 5 dX5_plan_10 rfl ?_
  refine zr_ifnonnull X 17 dX5_plan_12 (by decide) ?_
  refine zr_iloadn X 2 dX5_plan_17 rfl ?_
  refine zr_dSi [.int (nI (t))] [] X (zK_ok A D tc tF tL tM) (d_isTonnes_t E μ (by omega) (by omega)) k_277 k_278 k_1 k_279 hdX5_isTonnes ⟨rfl, rfl⟩ ⟨Nat.le_of_ble_eq_true rfl, Nat.le_of_ble_eq_true rfl⟩ rfl rfl (Nat.le_of_ble_eq_true rfl) dX5_plan_18 ?_
  refine zr_if_eq X 42 dX5_plan_21 (by decide) (fun q => absurd q (nI_ne0 (by omega) (by omega))) (fun _ => ?_)
  refine zr_iloadn X 3 dX5_plan_24 rfl ?_
  refine zr_dSi [.int (nI (2))] [] X (zK_ok A D tc tF tL tM) (d_isWay_t E μ (by omega) (by omega)) k_329 k_330 k_1 k_331 hdX5_isWay ⟨rfl, rfl⟩ ⟨Nat.le_of_ble_eq_true rfl, Nat.le_of_ble_eq_true rfl⟩ rfl rfl (Nat.le_of_ble_eq_true rfl) dX5_plan_25 ?_
  refine zr_if_eq X 42 dX5_plan_28 (by decide) (fun q => absurd q (nI_ne0 (by omega) (by omega))) (fun _ => ?_)
  refine zr_iload X 4 dX5_plan_31 rfl ?_
  refine zr_if_lt X 42 dX5_plan_33 (by decide) (fun q => absurd q (nI_pos (by omega))) (fun _ => ?_)
  refine zr_iload X 4 dX5_plan_36 rfl ?_
  refine zr_iconst X (nI (5)) dX5_plan_38 (by decide +kernel) ?_
  refine zr_icmp_le X 45 dX5_plan_39 (by decide) (fun _ => ?_) (fun q => absurd (zq_le (by omega) (by omega)) q)
  refine zr_aloadn X 0 dX5_plan_45 rfl ?_
  refine zr_get X (ci := 5) (q := 4) (zR _) (.ref (ad (290))) dX5_plan_46 (by omega) sc_0 rfl inX5 (by decide) rfl (zvR rfl) rfl k_219 ?_
  refine zr_aload X 5 dX5_plan_49 rfl ?_
  refine zr_aloadn X 0 dX5_plan_51 rfl ?_
  refine zr_get X (ci := 5) (q := 0) (zR _) (.ref (ad (1))) dX5_plan_52 (by omega) sc_0 rfl inX5 (by decide) rfl (zvR rfl) rfl k_215 ?_
  refine zr_get X (ci := 2) (q := 2) (zR _) (.ref (ad (2))) dX5_plan_55 (by omega) (sc_st (j := 0) (by omega) (by have := cb_0; omega)) rfl inX2 (by decide) rfl (zvR (by have := cb_0; omega)) rfl k_87 ?_
  refine zr_iloadn X 2 dX5_plan_58 rfl ?_
  refine zr_iloadn X 3 dX5_plan_59 rfl ?_
  refine zr_dVv (C := RX3) (ci := 3) [.ref (ad (4 * f + 4)), .ref (ad (2)), .int (nI (t)), .int (nI (2))] [] X (zK_ok A D tc tF tL tM) (d_workOut2 E μ (f := f) (t := t) (by omega) ht1 ht9) k_332 k_333 k_334 k_5 k_335 hdX3_workOut ⟨rfl, rfl⟩ ⟨Nat.le_of_ble_eq_true rfl, Nat.le_of_ble_eq_true rfl⟩ (by omega) sc_290 rfl rfl rfl (Nat.le_of_ble_eq_true rfl) dX5_plan_60 ?_
  refine zr_aloadn X 0 dX5_plan_63 rfl ?_
  refine zr_get X (ci := 5) (q := 4) (zR _) (.ref (ad (290))) dX5_plan_64 (by omega) sc_0 rfl inX5 (by decide) rfl (zvR rfl) rfl k_219 ?_
  refine zr_get X (ci := 3) (q := 5) zI (.int ((clay μ f (nI t) 2) (2458))) dX5_plan_67 (by omega) sc_290 rfl inX3 (by decide) rfl (congrArg Value.int (rfl)) rfl k_161 ?_
  refine zr_if_le X 76 dX5_plan_70 (by decide) (fun _ => ?_) (fun q => absurd (h) q)
  refine zr_iload X 4 dX5_plan_76 rfl ?_
  refine zr_tswI (off := 52) X 130 dX5_plan_78 ⟨by decide +kernel, by decide +kernel, by decide +kernel⟩ (by decide) ?_
  refine zr_aloadn X 0 dX5_plan_130 rfl ?_
  refine zr_get X (ci := 5) (q := 4) (zR _) (.ref (ad (290))) dX5_plan_131 (by omega) sc_0 rfl inX5 (by decide) rfl (zvR rfl) rfl k_219 ?_
  refine zr_get X (ci := 3) (q := 1) (zR _) (.ref (ad (292))) dX5_plan_134 (by omega) sc_290 rfl inX3 (by decide) rfl (zvR rfl) rfl k_153 ?_
  refine zr_iconst X (nI (1)) dX5_plan_137 (by decide +kernel) ?_
  refine zr_iald X (j := 1) 0 ((clay μ f (nI t) 2) (2481)) dX5_plan_138 (by omega) sc_292 rfl rfl (by omega) (by omega) (zcg (b := 2481) (by omega) (rfl)) ?_
  exact zr_iret X dX5_plan_139 ⟨rfl, rfl⟩

set_option maxHeartbeats 4000000 in
set_option maxRecDepth 100000 in
theorem d_plan_2_3 {l : Launch} {D : va_G} {tc : Nat → ClassId} {ad : Nat → Nat} {A : Nat → Prop} {tF tL tM : Nat} (E : zN 299 A ad) (μ : Nat → Int32) {m c ro z : Nat} (S : clsS μ m c ro z) {f : Nat} (hf : f < c) {t : Nat} (ht1 : 1 ≤ t) (ht9 : t ≤ 9999) (h : clay μ f (nI t) 2 2458 ≤ 0) : zMi l yX5_plan cX5_plan 6 (some .int) (zrm 5) (zK A D tc tF tL tM) A D vwCl tc ad 299 shC [.ref (ad (0)), .int (nI (f)), .int (nI (t)), .int (nI (2)), .int (nI (3))] μ (fun r u => r = clay μ f (nI t) 2 2482 ∧ u = clay μ f (nI t) 2) := by
  refine zM_of RX5 [(0, .ref (ad (0))), (1, .int (nI (f))), (2, .int (nI (t))), (3, .int (nI (2))), (4, .int (nI (3)))] (zK_ok A D tc tF tL tM) E.1 E.2 owC_ok (by decide +kernel) rfl (Nat.le_of_ble_eq_true rfl) rfl ?_
  intro pP eE sS mM aS bL mT cO X
  obtain ⟨hm, hm2, hc, h8, hr, hr4, hz, hz4⟩ := S
  refine zr_aloadn X 0 dX5_plan_0 rfl ?_
  refine zr_get X (ci := 5) (q := 0) (zR _) (.ref (ad (1))) dX5_plan_1 (by omega) sc_0 rfl inX5 (by decide) rfl (zvR rfl) rfl k_215 ?_
  refine zr_iloadn X 1 dX5_plan_4 rfl ?_
  refine zr_dVq (C := RX2) (ci := 2) [.int (nI (f))] [] X (zK_ok A D tc tF tL tM) (d_firmAt0_t E μ (f := f) (hc) h8 (by omega)) k_273 k_274 k_275 k_2 k_276 hdX2_firmAt ⟨rfl, rfl⟩ ⟨Nat.le_of_ble_eq_true rfl, Nat.le_of_ble_eq_true rfl⟩ (by omega) (sc_st (j := 0) (by omega) (by have := cb_0; omega)) rfl rfl rfl (Nat.le_of_ble_eq_true rfl) dX5_plan_5 rfl ?_
  refine zr_astore X [1, 2, 3, 4, 5, 0] [(0, .ref (ad (0))), (1, .int (nI (f))), (2, .int (nI (t))), (3, .int (nI (2))), (4, .int (nI (3))), (5, .ref (ad (4 * f + 4)))] dX5_plan_8 (by decide) rfl ?_
  refine zr_aload X 5 dX5_plan_10 rfl ?_
  refine zr_ifnonnull X 17 dX5_plan_12 (by decide) ?_
  refine zr_iloadn X 2 dX5_plan_17 rfl ?_
  refine zr_dSi [.int (nI (t))] [] X (zK_ok A D tc tF tL tM) (d_isTonnes_t E μ (by omega) (by omega)) k_277 k_278 k_1 k_279 hdX5_isTonnes ⟨rfl, rfl⟩ ⟨Nat.le_of_ble_eq_true rfl, Nat.le_of_ble_eq_true rfl⟩ rfl rfl (Nat.le_of_ble_eq_true rfl) dX5_plan_18 ?_
  refine zr_if_eq X 42 dX5_plan_21 (by decide) (fun q => absurd q (nI_ne0 (by omega) (by omega))) (fun _ => ?_)
  refine zr_iloadn X 3 dX5_plan_24 rfl ?_
  refine zr_dSi [.int (nI (2))] [] X (zK_ok A D tc tF tL tM) (d_isWay_t E μ (by omega) (by omega)) k_329 k_330 k_1 k_331 hdX5_isWay ⟨rfl, rfl⟩ ⟨Nat.le_of_ble_eq_true rfl, Nat.le_of_ble_eq_true rfl⟩ rfl rfl (Nat.le_of_ble_eq_true rfl) dX5_plan_25 ?_
  refine zr_if_eq X 42 dX5_plan_28 (by decide) (fun q => absurd q (nI_ne0 (by omega) (by omega))) (fun _ => ?_)
  refine zr_iload X 4 dX5_plan_31 rfl ?_
  refine zr_if_lt X 42 dX5_plan_33 (by decide) (fun q => absurd q (nI_pos (by omega))) (fun _ => ?_)
  refine zr_iload X 4 dX5_plan_36 rfl ?_
  refine zr_iconst X (nI (5)) dX5_plan_38 (by decide +kernel) ?_
  refine zr_icmp_le X 45 dX5_plan_39 (by decide) (fun _ => ?_) (fun q => absurd (zq_le (by omega) (by omega)) q)
  refine zr_aloadn X 0 dX5_plan_45 rfl ?_
  refine zr_get X (ci := 5) (q := 4) (zR _) (.ref (ad (290))) dX5_plan_46 (by omega) sc_0 rfl inX5 (by decide) rfl (zvR rfl) rfl k_219 ?_
  refine zr_aload X 5 dX5_plan_49 rfl ?_
  refine zr_aloadn X 0 dX5_plan_51 rfl ?_
  refine zr_get X (ci := 5) (q := 0) (zR _) (.ref (ad (1))) dX5_plan_52 (by omega) sc_0 rfl inX5 (by decide) rfl (zvR rfl) rfl k_215 ?_
  refine zr_get X (ci := 2) (q := 2) (zR _) (.ref (ad (2))) dX5_plan_55 (by omega) (sc_st (j := 0) (by omega) (by have := cb_0; omega)) rfl inX2 (by decide) rfl (zvR (by have := cb_0; omega)) rfl k_87 ?_
  refine zr_iloadn X 2 dX5_plan_58 rfl ?_
  refine zr_iloadn X 3 dX5_plan_59 rfl ?_
  refine zr_dVv (C := RX3) (ci := 3) [.ref (ad (4 * f + 4)), .ref (ad (2)), .int (nI (t)), .int (nI (2))] [] X (zK_ok A D tc tF tL tM) (d_workOut2 E μ (f := f) (t := t) (by omega) ht1 ht9) k_332 k_333 k_334 k_5 k_335 hdX3_workOut ⟨rfl, rfl⟩ ⟨Nat.le_of_ble_eq_true rfl, Nat.le_of_ble_eq_true rfl⟩ (by omega) sc_290 rfl rfl rfl (Nat.le_of_ble_eq_true rfl) dX5_plan_60 ?_
  refine zr_aloadn X 0 dX5_plan_63 rfl ?_
  refine zr_get X (ci := 5) (q := 4) (zR _) (.ref (ad (290))) dX5_plan_64 (by omega) sc_0 rfl inX5 (by decide) rfl (zvR rfl) rfl k_219 ?_
  refine zr_get X (ci := 3) (q := 5) zI (.int ((clay μ f (nI t) 2) (2458))) dX5_plan_67 (by omega) sc_290 rfl inX3 (by decide) rfl (congrArg Value.int (rfl)) rfl k_161 ?_
  refine zr_if_le X 76 dX5_plan_70 (by decide) (fun _ => ?_) (fun q => absurd (h) q)
  refine zr_iload X 4 dX5_plan_76 rfl ?_
  refine zr_tswI (off := 62) X 140 dX5_plan_78 ⟨by decide +kernel, by decide +kernel, by decide +kernel⟩ (by decide) ?_
  refine zr_aloadn X 0 dX5_plan_140 rfl ?_
  refine zr_get X (ci := 5) (q := 4) (zR _) (.ref (ad (290))) dX5_plan_141 (by omega) sc_0 rfl inX5 (by decide) rfl (zvR rfl) rfl k_219 ?_
  refine zr_get X (ci := 3) (q := 1) (zR _) (.ref (ad (292))) dX5_plan_144 (by omega) sc_290 rfl inX3 (by decide) rfl (zvR rfl) rfl k_153 ?_
  refine zr_iconst X (nI (2)) dX5_plan_147 (by decide +kernel) ?_
  refine zr_iald X (j := 2) 0 ((clay μ f (nI t) 2) (2482)) dX5_plan_148 (by omega) sc_292 rfl rfl (by omega) (by omega) (zcg (b := 2482) (by omega) (rfl)) ?_
  exact zr_iret X dX5_plan_149 ⟨rfl, rfl⟩

set_option maxHeartbeats 4000000 in
set_option maxRecDepth 100000 in
theorem d_plan_2_4 {l : Launch} {D : va_G} {tc : Nat → ClassId} {ad : Nat → Nat} {A : Nat → Prop} {tF tL tM : Nat} (E : zN 299 A ad) (μ : Nat → Int32) {m c ro z : Nat} (S : clsS μ m c ro z) {f : Nat} (hf : f < c) {t : Nat} (ht1 : 1 ≤ t) (ht9 : t ≤ 9999) (h : clay μ f (nI t) 2 2458 ≤ 0) : zMi l yX5_plan cX5_plan 6 (some .int) (zrm 5) (zK A D tc tF tL tM) A D vwCl tc ad 299 shC [.ref (ad (0)), .int (nI (f)), .int (nI (t)), .int (nI (2)), .int (nI (4))] μ (fun r u => r = clay μ f (nI t) 2 2456 ∧ u = clay μ f (nI t) 2) := by
  refine zM_of RX5 [(0, .ref (ad (0))), (1, .int (nI (f))), (2, .int (nI (t))), (3, .int (nI (2))), (4, .int (nI (4)))] (zK_ok A D tc tF tL tM) E.1 E.2 owC_ok (by decide +kernel) rfl (Nat.le_of_ble_eq_true rfl) rfl ?_
  intro pP eE sS mM aS bL mT cO X
  obtain ⟨hm, hm2, hc, h8, hr, hr4, hz, hz4⟩ := S
  refine zr_aloadn X 0 dX5_plan_0 rfl ?_
  refine zr_get X (ci := 5) (q := 0) (zR _) (.ref (ad (1))) dX5_plan_1 (by omega) sc_0 rfl inX5 (by decide) rfl (zvR rfl) rfl k_215 ?_
  refine zr_iloadn X 1 dX5_plan_4 rfl ?_
  refine zr_dVq (C := RX2) (ci := 2) [.int (nI (f))] [] X (zK_ok A D tc tF tL tM) (d_firmAt0_t E μ (f := f) (hc) h8 (by omega)) k_273 k_274 k_275 k_2 k_276 hdX2_firmAt ⟨rfl, rfl⟩ ⟨Nat.le_of_ble_eq_true rfl, Nat.le_of_ble_eq_true rfl⟩ (by omega) (sc_st (j := 0) (by omega) (by have := cb_0; omega)) rfl rfl rfl (Nat.le_of_ble_eq_true rfl) dX5_plan_5 rfl ?_
  refine zr_astore X [1, 2, 3, 4, 5, 0] [(0, .ref (ad (0))), (1, .int (nI (f))), (2, .int (nI (t))), (3, .int (nI (2))), (4, .int (nI (4))), (5, .ref (ad (4 * f + 4)))] dX5_plan_8 (by decide) rfl ?_
  refine zr_aload X 5 dX5_plan_10 rfl ?_
  refine zr_ifnonnull X 17 dX5_plan_12 (by decide) ?_
  refine zr_iloadn X 2 dX5_plan_17 rfl ?_
  refine zr_dSi [.int (nI (t))] [] X (zK_ok A D tc tF tL tM) (d_isTonnes_t E μ (by omega) (by omega)) k_277 k_278 k_1 k_279 hdX5_isTonnes ⟨rfl, rfl⟩ ⟨Nat.le_of_ble_eq_true rfl, Nat.le_of_ble_eq_true rfl⟩ rfl rfl (Nat.le_of_ble_eq_true rfl) dX5_plan_18 ?_
  refine zr_if_eq X 42 dX5_plan_21 (by decide) (fun q => absurd q (nI_ne0 (by omega) (by omega))) (fun _ => ?_)
  refine zr_iloadn X 3 dX5_plan_24 rfl ?_
  refine zr_dSi [.int (nI (2))] [] X (zK_ok A D tc tF tL tM) (d_isWay_t E μ (by omega) (by omega)) k_329 k_330 k_1 k_331 hdX5_isWay ⟨rfl, rfl⟩ ⟨Nat.le_of_ble_eq_true rfl, Nat.le_of_ble_eq_true rfl⟩ rfl rfl (Nat.le_of_ble_eq_true rfl) dX5_plan_25 ?_
  refine zr_if_eq X 42 dX5_plan_28 (by decide) (fun q => absurd q (nI_ne0 (by omega) (by omega))) (fun _ => ?_)
  refine zr_iload X 4 dX5_plan_31 rfl ?_
  refine zr_if_lt X 42 dX5_plan_33 (by decide) (fun q => absurd q (nI_pos (by omega))) (fun _ => ?_)
  refine zr_iload X 4 dX5_plan_36 rfl ?_
  refine zr_iconst X (nI (5)) dX5_plan_38 (by decide +kernel) ?_
  refine zr_icmp_le X 45 dX5_plan_39 (by decide) (fun _ => ?_) (fun q => absurd (zq_le (by omega) (by omega)) q)
  refine zr_aloadn X 0 dX5_plan_45 rfl ?_
  refine zr_get X (ci := 5) (q := 4) (zR _) (.ref (ad (290))) dX5_plan_46 (by omega) sc_0 rfl inX5 (by decide) rfl (zvR rfl) rfl k_219 ?_
  refine zr_aload X 5 dX5_plan_49 rfl ?_
  refine zr_aloadn X 0 dX5_plan_51 rfl ?_
  refine zr_get X (ci := 5) (q := 0) (zR _) (.ref (ad (1))) dX5_plan_52 (by omega) sc_0 rfl inX5 (by decide) rfl (zvR rfl) rfl k_215 ?_
  refine zr_get X (ci := 2) (q := 2) (zR _) (.ref (ad (2))) dX5_plan_55 (by omega) (sc_st (j := 0) (by omega) (by have := cb_0; omega)) rfl inX2 (by decide) rfl (zvR (by have := cb_0; omega)) rfl k_87 ?_
  refine zr_iloadn X 2 dX5_plan_58 rfl ?_
  refine zr_iloadn X 3 dX5_plan_59 rfl ?_
  refine zr_dVv (C := RX3) (ci := 3) [.ref (ad (4 * f + 4)), .ref (ad (2)), .int (nI (t)), .int (nI (2))] [] X (zK_ok A D tc tF tL tM) (d_workOut2 E μ (f := f) (t := t) (by omega) ht1 ht9) k_332 k_333 k_334 k_5 k_335 hdX3_workOut ⟨rfl, rfl⟩ ⟨Nat.le_of_ble_eq_true rfl, Nat.le_of_ble_eq_true rfl⟩ (by omega) sc_290 rfl rfl rfl (Nat.le_of_ble_eq_true rfl) dX5_plan_60 ?_
  refine zr_aloadn X 0 dX5_plan_63 rfl ?_
  refine zr_get X (ci := 5) (q := 4) (zR _) (.ref (ad (290))) dX5_plan_64 (by omega) sc_0 rfl inX5 (by decide) rfl (zvR rfl) rfl k_219 ?_
  refine zr_get X (ci := 3) (q := 5) zI (.int ((clay μ f (nI t) 2) (2458))) dX5_plan_67 (by omega) sc_290 rfl inX3 (by decide) rfl (congrArg Value.int (rfl)) rfl k_161 ?_
  refine zr_if_le X 76 dX5_plan_70 (by decide) (fun _ => ?_) (fun q => absurd (h) q)
  refine zr_iload X 4 dX5_plan_76 rfl ?_
  refine zr_tswI (off := 72) X 150 dX5_plan_78 ⟨by decide +kernel, by decide +kernel, by decide +kernel⟩ (by decide) ?_
  refine zr_aloadn X 0 dX5_plan_150 rfl ?_
  refine zr_get X (ci := 5) (q := 4) (zR _) (.ref (ad (290))) dX5_plan_151 (by omega) sc_0 rfl inX5 (by decide) rfl (zvR rfl) rfl k_219 ?_
  refine zr_get X (ci := 3) (q := 3) zI (.int ((clay μ f (nI t) 2) (2456))) dX5_plan_154 (by omega) sc_290 rfl inX3 (by decide) rfl (congrArg Value.int (rfl)) rfl k_157 ?_
  exact zr_iret X dX5_plan_157 ⟨rfl, rfl⟩

set_option maxHeartbeats 4000000 in
set_option maxRecDepth 100000 in
theorem d_plan_2_5 {l : Launch} {D : va_G} {tc : Nat → ClassId} {ad : Nat → Nat} {A : Nat → Prop} {tF tL tM : Nat} (E : zN 299 A ad) (μ : Nat → Int32) {m c ro z : Nat} (S : clsS μ m c ro z) {f : Nat} (hf : f < c) {t : Nat} (ht1 : 1 ≤ t) (ht9 : t ≤ 9999) (h : clay μ f (nI t) 2 2458 ≤ 0) : zMi l yX5_plan cX5_plan 6 (some .int) (zrm 5) (zK A D tc tF tL tM) A D vwCl tc ad 299 shC [.ref (ad (0)), .int (nI (f)), .int (nI (t)), .int (nI (2)), .int (nI (5))] μ (fun r u => r = clay μ f (nI t) 2 2457 ∧ u = clay μ f (nI t) 2) := by
  refine zM_of RX5 [(0, .ref (ad (0))), (1, .int (nI (f))), (2, .int (nI (t))), (3, .int (nI (2))), (4, .int (nI (5)))] (zK_ok A D tc tF tL tM) E.1 E.2 owC_ok (by decide +kernel) rfl (Nat.le_of_ble_eq_true rfl) rfl ?_
  intro pP eE sS mM aS bL mT cO X
  obtain ⟨hm, hm2, hc, h8, hr, hr4, hz, hz4⟩ := S
  refine zr_aloadn X 0 dX5_plan_0 rfl ?_
  refine zr_get X (ci := 5) (q := 0) (zR _) (.ref (ad (1))) dX5_plan_1 (by omega) sc_0 rfl inX5 (by decide) rfl (zvR rfl) rfl k_215 ?_
  refine zr_iloadn X 1 dX5_plan_4 rfl ?_
  refine zr_dVq (C := RX2) (ci := 2) [.int (nI (f))] [] X (zK_ok A D tc tF tL tM) (d_firmAt0_t E μ (f := f) (hc) h8 (by omega)) k_273 k_274 k_275 k_2 k_276 hdX2_firmAt ⟨rfl, rfl⟩ ⟨Nat.le_of_ble_eq_true rfl, Nat.le_of_ble_eq_true rfl⟩ (by omega) (sc_st (j := 0) (by omega) (by have := cb_0; omega)) rfl rfl rfl (Nat.le_of_ble_eq_true rfl) dX5_plan_5 rfl ?_
  refine zr_astore X [1, 2, 3, 4, 5, 0] [(0, .ref (ad (0))), (1, .int (nI (f))), (2, .int (nI (t))), (3, .int (nI (2))), (4, .int (nI (5))), (5, .ref (ad (4 * f + 4)))] dX5_plan_8 (by decide) rfl ?_
  refine zr_aload X 5 dX5_plan_10 rfl ?_
  refine zr_ifnonnull X 17 dX5_plan_12 (by decide) ?_
  refine zr_iloadn X 2 dX5_plan_17 rfl ?_
  refine zr_dSi [.int (nI (t))] [] X (zK_ok A D tc tF tL tM) (d_isTonnes_t E μ (by omega) (by omega)) k_277 k_278 k_1 k_279 hdX5_isTonnes ⟨rfl, rfl⟩ ⟨Nat.le_of_ble_eq_true rfl, Nat.le_of_ble_eq_true rfl⟩ rfl rfl (Nat.le_of_ble_eq_true rfl) dX5_plan_18 ?_
  refine zr_if_eq X 42 dX5_plan_21 (by decide) (fun q => absurd q (nI_ne0 (by omega) (by omega))) (fun _ => ?_)
  refine zr_iloadn X 3 dX5_plan_24 rfl ?_
  refine zr_dSi [.int (nI (2))] [] X (zK_ok A D tc tF tL tM) (d_isWay_t E μ (by omega) (by omega)) k_329 k_330 k_1 k_331 hdX5_isWay ⟨rfl, rfl⟩ ⟨Nat.le_of_ble_eq_true rfl, Nat.le_of_ble_eq_true rfl⟩ rfl rfl (Nat.le_of_ble_eq_true rfl) dX5_plan_25 ?_
  refine zr_if_eq X 42 dX5_plan_28 (by decide) (fun q => absurd q (nI_ne0 (by omega) (by omega))) (fun _ => ?_)
  refine zr_iload X 4 dX5_plan_31 rfl ?_
  refine zr_if_lt X 42 dX5_plan_33 (by decide) (fun q => absurd q (nI_pos (by omega))) (fun _ => ?_)
  refine zr_iload X 4 dX5_plan_36 rfl ?_
  refine zr_iconst X (nI (5)) dX5_plan_38 (by decide +kernel) ?_
  refine zr_icmp_le X 45 dX5_plan_39 (by decide) (fun _ => ?_) (fun q => absurd (zq_le (by omega) (by omega)) q)
  refine zr_aloadn X 0 dX5_plan_45 rfl ?_
  refine zr_get X (ci := 5) (q := 4) (zR _) (.ref (ad (290))) dX5_plan_46 (by omega) sc_0 rfl inX5 (by decide) rfl (zvR rfl) rfl k_219 ?_
  refine zr_aload X 5 dX5_plan_49 rfl ?_
  refine zr_aloadn X 0 dX5_plan_51 rfl ?_
  refine zr_get X (ci := 5) (q := 0) (zR _) (.ref (ad (1))) dX5_plan_52 (by omega) sc_0 rfl inX5 (by decide) rfl (zvR rfl) rfl k_215 ?_
  refine zr_get X (ci := 2) (q := 2) (zR _) (.ref (ad (2))) dX5_plan_55 (by omega) (sc_st (j := 0) (by omega) (by have := cb_0; omega)) rfl inX2 (by decide) rfl (zvR (by have := cb_0; omega)) rfl k_87 ?_
  refine zr_iloadn X 2 dX5_plan_58 rfl ?_
  refine zr_iloadn X 3 dX5_plan_59 rfl ?_
  refine zr_dVv (C := RX3) (ci := 3) [.ref (ad (4 * f + 4)), .ref (ad (2)), .int (nI (t)), .int (nI (2))] [] X (zK_ok A D tc tF tL tM) (d_workOut2 E μ (f := f) (t := t) (by omega) ht1 ht9) k_332 k_333 k_334 k_5 k_335 hdX3_workOut ⟨rfl, rfl⟩ ⟨Nat.le_of_ble_eq_true rfl, Nat.le_of_ble_eq_true rfl⟩ (by omega) sc_290 rfl rfl rfl (Nat.le_of_ble_eq_true rfl) dX5_plan_60 ?_
  refine zr_aloadn X 0 dX5_plan_63 rfl ?_
  refine zr_get X (ci := 5) (q := 4) (zR _) (.ref (ad (290))) dX5_plan_64 (by omega) sc_0 rfl inX5 (by decide) rfl (zvR rfl) rfl k_219 ?_
  refine zr_get X (ci := 3) (q := 5) zI (.int ((clay μ f (nI t) 2) (2458))) dX5_plan_67 (by omega) sc_290 rfl inX3 (by decide) rfl (congrArg Value.int (rfl)) rfl k_161 ?_
  refine zr_if_le X 76 dX5_plan_70 (by decide) (fun _ => ?_) (fun q => absurd (h) q)
  refine zr_iload X 4 dX5_plan_76 rfl ?_
  refine zr_tswO X 158 dX5_plan_78 (by decide +kernel) (by decide) ?_
  refine zr_aloadn X 0 dX5_plan_158 rfl ?_
  refine zr_get X (ci := 5) (q := 4) (zR _) (.ref (ad (290))) dX5_plan_159 (by omega) sc_0 rfl inX5 (by decide) rfl (zvR rfl) rfl k_219 ?_
  refine zr_get X (ci := 3) (q := 4) zI (.int ((clay μ f (nI t) 2) (2457))) dX5_plan_162 (by omega) sc_290 rfl inX3 (by decide) rfl (congrArg Value.int (rfl)) rfl k_159 ?_
  exact zr_iret X dX5_plan_165 ⟨rfl, rfl⟩

set_option maxHeartbeats 4000000 in
set_option maxRecDepth 100000 in
theorem d_count_b {l : Launch} {D : va_G} {tc : Nat → ClassId} {ad : Nat → Nat} {A : Nat → Prop} {tF tL tM : Nat} (E : zN 299 A ad) (μ : Nat → Int32) {m c ro z : Nat} (S : clsS μ m c ro z) {x : Int32} (hx : ¬ zin x 0 14)  : zMi l yX5_count cX5_count 2 (some .int) (zrm 5) (zK A D tc tF tL tM) A D vwCl tc ad 299 shC [.ref (ad (0)), .int (x)] μ (fun r u => r = -2 ∧ u = μ) := by
  refine zM_of RX5 [(0, .ref (ad (0))), (1, .int (x))] (zK_ok A D tc tF tL tM) E.1 E.2 owC_ok (by decide +kernel) rfl (Nat.le_of_ble_eq_true rfl) rfl ?_
  intro pP eE sS mM aS bL mT cO X
  obtain ⟨hm, hm2, hc, h8, hr, hr4, hz, hz4⟩ := S
  refine zr_iloadn X 1 dX5_count_0 rfl ?_
  refine zr_iconst X (nI (3)) dX5_count_1 (by decide +kernel) ?_
  refine zr_icmp_lt X 23 dX5_count_2 (by decide) (fun h2 => ?_) (fun h2 => ?_)
  · refine zr_iloadn X 1 dX5_count_23 rfl ?_
    refine zr_tswO X 180 dX5_count_24 (zsw_out hx (by omega) rfl rfl) (by decide) ?_
    refine zr_bipush X (-2) dX5_count_180 (by decide +kernel) ?_
    exact zr_iret X dX5_count_182 ⟨rfl, rfl⟩
  · refine zr_iloadn X 1 dX5_count_5 rfl ?_
    refine zr_bipush X (nI (8)) dX5_count_6 (by decide +kernel) ?_
    refine zr_icmp_ge X 23 dX5_count_8 (by decide) (fun _ => ?_) (fun q => absurd (Int32.not_lt.mp (fun q => hx (zin_mid h2 q))) q)
    refine zr_iloadn X 1 dX5_count_23 rfl ?_
    refine zr_tswO X 180 dX5_count_24 (zsw_out hx (by omega) rfl rfl) (by decide) ?_
    refine zr_bipush X (-2) dX5_count_180 (by decide +kernel) ?_
    exact zr_iret X dX5_count_182 ⟨rfl, rfl⟩

set_option maxHeartbeats 4000000 in
set_option maxRecDepth 100000 in
theorem d_count_0 {l : Launch} {D : va_G} {tc : Nat → ClassId} {ad : Nat → Nat} {A : Nat → Prop} {tF tL tM : Nat} (E : zN 299 A ad) (μ : Nat → Int32) {m c ro z : Nat} (S : clsS μ m c ro z)  : zMi l yX5_count cX5_count 2 (some .int) (zrm 5) (zK A D tc tF tL tM) A D vwCl tc ad 299 shC [.ref (ad (0)), .int (nI (0))] μ (fun r u => r = nI m ∧ u = μ) := by
  refine zM_of RX5 [(0, .ref (ad (0))), (1, .int (nI (0)))] (zK_ok A D tc tF tL tM) E.1 E.2 owC_ok (by decide +kernel) rfl (Nat.le_of_ble_eq_true rfl) rfl ?_
  intro pP eE sS mM aS bL mT cO X
  obtain ⟨hm, hm2, hc, h8, hr, hr4, hz, hz4⟩ := S
  refine zr_iloadn X 1 dX5_count_0 rfl ?_
  refine zr_iconst X (nI (3)) dX5_count_1 (by decide +kernel) ?_
  refine zr_icmp_lt X 23 dX5_count_2 (by decide) (fun _ => ?_) (fun q => absurd (nI_lt (by omega) (by omega)) q)
  refine zr_iloadn X 1 dX5_count_23 rfl ?_
  refine zr_tswI (off := 76) X 100 dX5_count_24 ⟨by decide +kernel, by decide +kernel, by decide +kernel⟩ (by decide) ?_
  refine zr_aloadn X 0 dX5_count_100 rfl ?_
  refine zr_get X (ci := 5) (q := 0) (zR _) (.ref (ad (1))) dX5_count_101 (by omega) sc_0 rfl inX5 (by decide) rfl (zvR rfl) rfl k_215 ?_
  refine zr_get X (ci := 2) (q := 0) zI (.int (nI (m))) dX5_count_104 (by omega) (sc_st (j := 0) (by omega) (by have := cb_0; omega)) rfl inX2 (by decide) rfl (congrArg Value.int (hm)) rfl k_83 ?_
  exact zr_iret X dX5_count_107 ⟨rfl, rfl⟩

set_option maxHeartbeats 4000000 in
set_option maxRecDepth 100000 in
theorem d_count_1 {l : Launch} {D : va_G} {tc : Nat → ClassId} {ad : Nat → Nat} {A : Nat → Prop} {tF tL tM : Nat} (E : zN 299 A ad) (μ : Nat → Int32) {m c ro z : Nat} (S : clsS μ m c ro z) {y : Nat} (hy : m / 12 = y)  : zMi l yX5_count cX5_count 2 (some .int) (zrm 5) (zK A D tc tF tL tM) A D vwCl tc ad 299 shC [.ref (ad (0)), .int (nI (1))] μ (fun r u => r = nI y ∧ u = μ) := by
  refine zM_of RX5 [(0, .ref (ad (0))), (1, .int (nI (1)))] (zK_ok A D tc tF tL tM) E.1 E.2 owC_ok (by decide +kernel) rfl (Nat.le_of_ble_eq_true rfl) rfl ?_
  intro pP eE sS mM aS bL mT cO X
  obtain ⟨hm, hm2, hc, h8, hr, hr4, hz, hz4⟩ := S
  refine zr_iloadn X 1 dX5_count_0 rfl ?_
  refine zr_iconst X (nI (3)) dX5_count_1 (by decide +kernel) ?_
  refine zr_icmp_lt X 23 dX5_count_2 (by decide) (fun _ => ?_) (fun q => absurd (nI_lt (by omega) (by omega)) q)
  refine zr_iloadn X 1 dX5_count_23 rfl ?_
  refine zr_tswI (off := 84) X 108 dX5_count_24 ⟨by decide +kernel, by decide +kernel, by decide +kernel⟩ (by decide) ?_
  refine zr_aloadn X 0 dX5_count_108 rfl ?_
  refine zr_get X (ci := 5) (q := 0) (zR _) (.ref (ad (1))) dX5_count_109 (by omega) sc_0 rfl inX5 (by decide) rfl (zvR rfl) rfl k_215 ?_
  refine zr_dVi (C := RX2) (ci := 2) [] [] X (zK_ok A D tc tF tL tM) (d_year E μ (hm) hm2 hy) k_280 k_281 k_282 k_2 k_283 hdX2_year ⟨rfl, rfl⟩ ⟨Nat.le_of_ble_eq_true rfl, Nat.le_of_ble_eq_true rfl⟩ (by omega) (sc_st (j := 0) (by omega) (by have := cb_0; omega)) rfl rfl rfl (Nat.le_of_ble_eq_true rfl) dX5_count_112 ?_
  exact zr_iret X dX5_count_115 ⟨rfl, rfl⟩

set_option maxHeartbeats 4000000 in
set_option maxRecDepth 100000 in
theorem d_count_2 {l : Launch} {D : va_G} {tc : Nat → ClassId} {ad : Nat → Nat} {A : Nat → Prop} {tF tL tM : Nat} (E : zN 299 A ad) (μ : Nat → Int32) {m c ro z : Nat} (S : clsS μ m c ro z)  : zMi l yX5_count cX5_count 2 (some .int) (zrm 5) (zK A D tc tF tL tM) A D vwCl tc ad 299 shC [.ref (ad (0)), .int (nI (2))] μ (fun r u => r = nI c ∧ u = μ) := by
  refine zM_of RX5 [(0, .ref (ad (0))), (1, .int (nI (2)))] (zK_ok A D tc tF tL tM) E.1 E.2 owC_ok (by decide +kernel) rfl (Nat.le_of_ble_eq_true rfl) rfl ?_
  intro pP eE sS mM aS bL mT cO X
  obtain ⟨hm, hm2, hc, h8, hr, hr4, hz, hz4⟩ := S
  refine zr_iloadn X 1 dX5_count_0 rfl ?_
  refine zr_iconst X (nI (3)) dX5_count_1 (by decide +kernel) ?_
  refine zr_icmp_lt X 23 dX5_count_2 (by decide) (fun _ => ?_) (fun q => absurd (nI_lt (by omega) (by omega)) q)
  refine zr_iloadn X 1 dX5_count_23 rfl ?_
  refine zr_tswI (off := 92) X 116 dX5_count_24 ⟨by decide +kernel, by decide +kernel, by decide +kernel⟩ (by decide) ?_
  refine zr_aloadn X 0 dX5_count_116 rfl ?_
  refine zr_get X (ci := 5) (q := 0) (zR _) (.ref (ad (1))) dX5_count_117 (by omega) sc_0 rfl inX5 (by decide) rfl (zvR rfl) rfl k_215 ?_
  refine zr_get X (ci := 2) (q := 1) zI (.int (nI (c))) dX5_count_120 (by omega) (sc_st (j := 0) (by omega) (by have := cb_0; omega)) rfl inX2 (by decide) rfl (congrArg Value.int (hc)) rfl k_84 ?_
  exact zr_iret X dX5_count_123 ⟨rfl, rfl⟩

set_option maxHeartbeats 4000000 in
set_option maxRecDepth 100000 in
theorem d_count_3 {l : Launch} {D : va_G} {tc : Nat → ClassId} {ad : Nat → Nat} {A : Nat → Prop} {tF tL tM : Nat} (E : zN 299 A ad) (μ : Nat → Int32) {m c ro z : Nat} (S : clsS μ m c ro z)  : zMi l yX5_count cX5_count 2 (some .int) (zrm 5) (zK A D tc tF tL tM) A D vwCl tc ad 299 shC [.ref (ad (0)), .int (nI (3))] μ (fun r u => r = μ 2 ∧ u = μ) := by
  refine zM_of RX5 [(0, .ref (ad (0))), (1, .int (nI (3)))] (zK_ok A D tc tF tL tM) E.1 E.2 owC_ok (by decide +kernel) rfl (Nat.le_of_ble_eq_true rfl) rfl ?_
  intro pP eE sS mM aS bL mT cO X
  obtain ⟨hm, hm2, hc, h8, hr, hr4, hz, hz4⟩ := S
  refine zr_iloadn X 1 dX5_count_0 rfl ?_
  refine zr_iconst X (nI (3)) dX5_count_1 (by decide +kernel) ?_
  refine zr_icmp_lt X 23 dX5_count_2 (by decide) (fun q => absurd q (nI_nlt (by omega) (by omega))) (fun _ => ?_)
  refine zr_iloadn X 1 dX5_count_5 rfl ?_
  refine zr_bipush X (nI (8)) dX5_count_6 (by decide +kernel) ?_
  refine zr_icmp_ge X 23 dX5_count_8 (by decide) (fun q => absurd q (nI_ge (by omega) (by omega))) (fun _ => ?_)
  refine zr_aloadn X 0 dX5_count_11 rfl ?_
  refine zr_get X (ci := 5) (q := 0) (zR _) (.ref (ad (1))) dX5_count_12 (by omega) sc_0 rfl inX5 (by decide) rfl (zvR rfl) rfl k_215 ?_
  refine zr_get X (ci := 2) (q := 2) (zR _) (.ref (ad (2))) dX5_count_15 (by omega) (sc_st (j := 0) (by omega) (by have := cb_0; omega)) rfl inX2 (by decide) rfl (zvR (by have := cb_0; omega)) rfl k_87 ?_
  refine zr_iloadn X 1 dX5_count_18 rfl ?_
  refine zr_iconst X (nI (3)) dX5_count_19 (by decide +kernel) ?_
  refine zr_isub X (nI (0)) dX5_count_20 ((pk_sub (by omega)).trans (congrArg nI (by omega))) ?_
  refine zr_iald X (j := 0) 0 (μ (2)) dX5_count_21 (by omega) (sc_set (j := 0) (by omega) (by have := cb_0; omega)) rfl rfl (by omega) (by omega) (zcg (b := 2) (by omega) (rfl)) ?_
  exact zr_iret X dX5_count_22 ⟨rfl, rfl⟩

set_option maxHeartbeats 4000000 in
set_option maxRecDepth 100000 in
theorem d_count_4 {l : Launch} {D : va_G} {tc : Nat → ClassId} {ad : Nat → Nat} {A : Nat → Prop} {tF tL tM : Nat} (E : zN 299 A ad) (μ : Nat → Int32) {m c ro z : Nat} (S : clsS μ m c ro z)  : zMi l yX5_count cX5_count 2 (some .int) (zrm 5) (zK A D tc tF tL tM) A D vwCl tc ad 299 shC [.ref (ad (0)), .int (nI (4))] μ (fun r u => r = μ 3 ∧ u = μ) := by
  refine zM_of RX5 [(0, .ref (ad (0))), (1, .int (nI (4)))] (zK_ok A D tc tF tL tM) E.1 E.2 owC_ok (by decide +kernel) rfl (Nat.le_of_ble_eq_true rfl) rfl ?_
  intro pP eE sS mM aS bL mT cO X
  obtain ⟨hm, hm2, hc, h8, hr, hr4, hz, hz4⟩ := S
  refine zr_iloadn X 1 dX5_count_0 rfl ?_
  refine zr_iconst X (nI (3)) dX5_count_1 (by decide +kernel) ?_
  refine zr_icmp_lt X 23 dX5_count_2 (by decide) (fun q => absurd q (nI_nlt (by omega) (by omega))) (fun _ => ?_)
  refine zr_iloadn X 1 dX5_count_5 rfl ?_
  refine zr_bipush X (nI (8)) dX5_count_6 (by decide +kernel) ?_
  refine zr_icmp_ge X 23 dX5_count_8 (by decide) (fun q => absurd q (nI_ge (by omega) (by omega))) (fun _ => ?_)
  refine zr_aloadn X 0 dX5_count_11 rfl ?_
  refine zr_get X (ci := 5) (q := 0) (zR _) (.ref (ad (1))) dX5_count_12 (by omega) sc_0 rfl inX5 (by decide) rfl (zvR rfl) rfl k_215 ?_
  refine zr_get X (ci := 2) (q := 2) (zR _) (.ref (ad (2))) dX5_count_15 (by omega) (sc_st (j := 0) (by omega) (by have := cb_0; omega)) rfl inX2 (by decide) rfl (zvR (by have := cb_0; omega)) rfl k_87 ?_
  refine zr_iloadn X 1 dX5_count_18 rfl ?_
  refine zr_iconst X (nI (3)) dX5_count_19 (by decide +kernel) ?_
  refine zr_isub X (nI (1)) dX5_count_20 ((pk_sub (by omega)).trans (congrArg nI (by omega))) ?_
  refine zr_iald X (j := 1) 0 (μ (3)) dX5_count_21 (by omega) (sc_set (j := 0) (by omega) (by have := cb_0; omega)) rfl rfl (by omega) (by omega) (zcg (b := 3) (by omega) (rfl)) ?_
  exact zr_iret X dX5_count_22 ⟨rfl, rfl⟩

set_option maxHeartbeats 4000000 in
set_option maxRecDepth 100000 in
theorem d_count_5 {l : Launch} {D : va_G} {tc : Nat → ClassId} {ad : Nat → Nat} {A : Nat → Prop} {tF tL tM : Nat} (E : zN 299 A ad) (μ : Nat → Int32) {m c ro z : Nat} (S : clsS μ m c ro z)  : zMi l yX5_count cX5_count 2 (some .int) (zrm 5) (zK A D tc tF tL tM) A D vwCl tc ad 299 shC [.ref (ad (0)), .int (nI (5))] μ (fun r u => r = μ 4 ∧ u = μ) := by
  refine zM_of RX5 [(0, .ref (ad (0))), (1, .int (nI (5)))] (zK_ok A D tc tF tL tM) E.1 E.2 owC_ok (by decide +kernel) rfl (Nat.le_of_ble_eq_true rfl) rfl ?_
  intro pP eE sS mM aS bL mT cO X
  obtain ⟨hm, hm2, hc, h8, hr, hr4, hz, hz4⟩ := S
  refine zr_iloadn X 1 dX5_count_0 rfl ?_
  refine zr_iconst X (nI (3)) dX5_count_1 (by decide +kernel) ?_
  refine zr_icmp_lt X 23 dX5_count_2 (by decide) (fun q => absurd q (nI_nlt (by omega) (by omega))) (fun _ => ?_)
  refine zr_iloadn X 1 dX5_count_5 rfl ?_
  refine zr_bipush X (nI (8)) dX5_count_6 (by decide +kernel) ?_
  refine zr_icmp_ge X 23 dX5_count_8 (by decide) (fun q => absurd q (nI_ge (by omega) (by omega))) (fun _ => ?_)
  refine zr_aloadn X 0 dX5_count_11 rfl ?_
  refine zr_get X (ci := 5) (q := 0) (zR _) (.ref (ad (1))) dX5_count_12 (by omega) sc_0 rfl inX5 (by decide) rfl (zvR rfl) rfl k_215 ?_
  refine zr_get X (ci := 2) (q := 2) (zR _) (.ref (ad (2))) dX5_count_15 (by omega) (sc_st (j := 0) (by omega) (by have := cb_0; omega)) rfl inX2 (by decide) rfl (zvR (by have := cb_0; omega)) rfl k_87 ?_
  refine zr_iloadn X 1 dX5_count_18 rfl ?_
  refine zr_iconst X (nI (3)) dX5_count_19 (by decide +kernel) ?_
  refine zr_isub X (nI (2)) dX5_count_20 ((pk_sub (by omega)).trans (congrArg nI (by omega))) ?_
  refine zr_iald X (j := 2) 0 (μ (4)) dX5_count_21 (by omega) (sc_set (j := 0) (by omega) (by have := cb_0; omega)) rfl rfl (by omega) (by omega) (zcg (b := 4) (by omega) (rfl)) ?_
  exact zr_iret X dX5_count_22 ⟨rfl, rfl⟩

set_option maxHeartbeats 4000000 in
set_option maxRecDepth 100000 in
theorem d_count_6 {l : Launch} {D : va_G} {tc : Nat → ClassId} {ad : Nat → Nat} {A : Nat → Prop} {tF tL tM : Nat} (E : zN 299 A ad) (μ : Nat → Int32) {m c ro z : Nat} (S : clsS μ m c ro z)  : zMi l yX5_count cX5_count 2 (some .int) (zrm 5) (zK A D tc tF tL tM) A D vwCl tc ad 299 shC [.ref (ad (0)), .int (nI (6))] μ (fun r u => r = μ 5 ∧ u = μ) := by
  refine zM_of RX5 [(0, .ref (ad (0))), (1, .int (nI (6)))] (zK_ok A D tc tF tL tM) E.1 E.2 owC_ok (by decide +kernel) rfl (Nat.le_of_ble_eq_true rfl) rfl ?_
  intro pP eE sS mM aS bL mT cO X
  obtain ⟨hm, hm2, hc, h8, hr, hr4, hz, hz4⟩ := S
  refine zr_iloadn X 1 dX5_count_0 rfl ?_
  refine zr_iconst X (nI (3)) dX5_count_1 (by decide +kernel) ?_
  refine zr_icmp_lt X 23 dX5_count_2 (by decide) (fun q => absurd q (nI_nlt (by omega) (by omega))) (fun _ => ?_)
  refine zr_iloadn X 1 dX5_count_5 rfl ?_
  refine zr_bipush X (nI (8)) dX5_count_6 (by decide +kernel) ?_
  refine zr_icmp_ge X 23 dX5_count_8 (by decide) (fun q => absurd q (nI_ge (by omega) (by omega))) (fun _ => ?_)
  refine zr_aloadn X 0 dX5_count_11 rfl ?_
  refine zr_get X (ci := 5) (q := 0) (zR _) (.ref (ad (1))) dX5_count_12 (by omega) sc_0 rfl inX5 (by decide) rfl (zvR rfl) rfl k_215 ?_
  refine zr_get X (ci := 2) (q := 2) (zR _) (.ref (ad (2))) dX5_count_15 (by omega) (sc_st (j := 0) (by omega) (by have := cb_0; omega)) rfl inX2 (by decide) rfl (zvR (by have := cb_0; omega)) rfl k_87 ?_
  refine zr_iloadn X 1 dX5_count_18 rfl ?_
  refine zr_iconst X (nI (3)) dX5_count_19 (by decide +kernel) ?_
  refine zr_isub X (nI (3)) dX5_count_20 ((pk_sub (by omega)).trans (congrArg nI (by omega))) ?_
  refine zr_iald X (j := 3) 0 (μ (5)) dX5_count_21 (by omega) (sc_set (j := 0) (by omega) (by have := cb_0; omega)) rfl rfl (by omega) (by omega) (zcg (b := 5) (by omega) (rfl)) ?_
  exact zr_iret X dX5_count_22 ⟨rfl, rfl⟩

set_option maxHeartbeats 4000000 in
set_option maxRecDepth 100000 in
theorem d_count_7 {l : Launch} {D : va_G} {tc : Nat → ClassId} {ad : Nat → Nat} {A : Nat → Prop} {tF tL tM : Nat} (E : zN 299 A ad) (μ : Nat → Int32) {m c ro z : Nat} (S : clsS μ m c ro z)  : zMi l yX5_count cX5_count 2 (some .int) (zrm 5) (zK A D tc tF tL tM) A D vwCl tc ad 299 shC [.ref (ad (0)), .int (nI (7))] μ (fun r u => r = μ 6 ∧ u = μ) := by
  refine zM_of RX5 [(0, .ref (ad (0))), (1, .int (nI (7)))] (zK_ok A D tc tF tL tM) E.1 E.2 owC_ok (by decide +kernel) rfl (Nat.le_of_ble_eq_true rfl) rfl ?_
  intro pP eE sS mM aS bL mT cO X
  obtain ⟨hm, hm2, hc, h8, hr, hr4, hz, hz4⟩ := S
  refine zr_iloadn X 1 dX5_count_0 rfl ?_
  refine zr_iconst X (nI (3)) dX5_count_1 (by decide +kernel) ?_
  refine zr_icmp_lt X 23 dX5_count_2 (by decide) (fun q => absurd q (nI_nlt (by omega) (by omega))) (fun _ => ?_)
  refine zr_iloadn X 1 dX5_count_5 rfl ?_
  refine zr_bipush X (nI (8)) dX5_count_6 (by decide +kernel) ?_
  refine zr_icmp_ge X 23 dX5_count_8 (by decide) (fun q => absurd q (nI_ge (by omega) (by omega))) (fun _ => ?_)
  refine zr_aloadn X 0 dX5_count_11 rfl ?_
  refine zr_get X (ci := 5) (q := 0) (zR _) (.ref (ad (1))) dX5_count_12 (by omega) sc_0 rfl inX5 (by decide) rfl (zvR rfl) rfl k_215 ?_
  refine zr_get X (ci := 2) (q := 2) (zR _) (.ref (ad (2))) dX5_count_15 (by omega) (sc_st (j := 0) (by omega) (by have := cb_0; omega)) rfl inX2 (by decide) rfl (zvR (by have := cb_0; omega)) rfl k_87 ?_
  refine zr_iloadn X 1 dX5_count_18 rfl ?_
  refine zr_iconst X (nI (3)) dX5_count_19 (by decide +kernel) ?_
  refine zr_isub X (nI (4)) dX5_count_20 ((pk_sub (by omega)).trans (congrArg nI (by omega))) ?_
  refine zr_iald X (j := 4) 0 (μ (6)) dX5_count_21 (by omega) (sc_set (j := 0) (by omega) (by have := cb_0; omega)) rfl rfl (by omega) (by omega) (zcg (b := 6) (by omega) (rfl)) ?_
  exact zr_iret X dX5_count_22 ⟨rfl, rfl⟩

set_option maxHeartbeats 4000000 in
set_option maxRecDepth 100000 in
theorem d_count_8 {l : Launch} {D : va_G} {tc : Nat → ClassId} {ad : Nat → Nat} {A : Nat → Prop} {tF tL tM : Nat} (E : zN 299 A ad) (μ : Nat → Int32) {m c ro z : Nat} (S : clsS μ m c ro z)  : zMi l yX5_count cX5_count 2 (some .int) (zrm 5) (zK A D tc tF tL tM) A D vwCl tc ad 299 shC [.ref (ad (0)), .int (nI (8))] μ (fun r u => r = zsum (fun f => μ (32 * f + 36)) 8 ∧ u = μ) := by
  refine zM_of RX5 [(0, .ref (ad (0))), (1, .int (nI (8)))] (zK_ok A D tc tF tL tM) E.1 E.2 owC_ok (by decide +kernel) rfl (Nat.le_of_ble_eq_true rfl) rfl ?_
  intro pP eE sS mM aS bL mT cO X
  obtain ⟨hm, hm2, hc, h8, hr, hr4, hz, hz4⟩ := S
  refine zr_iloadn X 1 dX5_count_0 rfl ?_
  refine zr_iconst X (nI (3)) dX5_count_1 (by decide +kernel) ?_
  refine zr_icmp_lt X 23 dX5_count_2 (by decide) (fun q => absurd q (nI_nlt (by omega) (by omega))) (fun _ => ?_)
  refine zr_iloadn X 1 dX5_count_5 rfl ?_
  refine zr_bipush X (nI (8)) dX5_count_6 (by decide +kernel) ?_
  refine zr_icmp_ge X 23 dX5_count_8 (by decide) (fun _ => ?_) (fun q => absurd (zq_le (by omega) (by omega)) q)
  refine zr_iloadn X 1 dX5_count_23 rfl ?_
  refine zr_tswI (off := 100) X 124 dX5_count_24 ⟨by decide +kernel, by decide +kernel, by decide +kernel⟩ (by decide) ?_
  refine zr_aloadn X 0 dX5_count_124 rfl ?_
  refine zr_get X (ci := 5) (q := 0) (zR _) (.ref (ad (1))) dX5_count_125 (by omega) sc_0 rfl inX5 (by decide) rfl (zvR rfl) rfl k_215 ?_
  refine zr_dVi (C := RX2) (ci := 2) [] [] X (zK_ok A D tc tF tL tM) (d_allDue E μ) k_512 k_513 k_514 k_2 k_515 hdX2_allDue ⟨rfl, rfl⟩ ⟨Nat.le_of_ble_eq_true rfl, Nat.le_of_ble_eq_true rfl⟩ (by omega) (sc_st (j := 0) (by omega) (by have := cb_0; omega)) rfl rfl rfl (Nat.le_of_ble_eq_true rfl) dX5_count_128 ?_
  exact zr_iret X dX5_count_131 ⟨rfl, rfl⟩

set_option maxHeartbeats 4000000 in
set_option maxRecDepth 100000 in
theorem d_count_9 {l : Launch} {D : va_G} {tc : Nat → ClassId} {ad : Nat → Nat} {A : Nat → Prop} {tF tL tM : Nat} (E : zN 299 A ad) (μ : Nat → Int32) {m c ro z : Nat} (S : clsS μ m c ro z)  : zMi l yX5_count cX5_count 2 (some .int) (zrm 5) (zK A D tc tF tL tM) A D vwCl tc ad 299 shC [.ref (ad (0)), .int (nI (9))] μ (fun r u => r = zsum (fun f => μ (32 * f + 38)) 8 ∧ u = μ) := by
  refine zM_of RX5 [(0, .ref (ad (0))), (1, .int (nI (9)))] (zK_ok A D tc tF tL tM) E.1 E.2 owC_ok (by decide +kernel) rfl (Nat.le_of_ble_eq_true rfl) rfl ?_
  intro pP eE sS mM aS bL mT cO X
  obtain ⟨hm, hm2, hc, h8, hr, hr4, hz, hz4⟩ := S
  refine zr_iloadn X 1 dX5_count_0 rfl ?_
  refine zr_iconst X (nI (3)) dX5_count_1 (by decide +kernel) ?_
  refine zr_icmp_lt X 23 dX5_count_2 (by decide) (fun q => absurd q (nI_nlt (by omega) (by omega))) (fun _ => ?_)
  refine zr_iloadn X 1 dX5_count_5 rfl ?_
  refine zr_bipush X (nI (8)) dX5_count_6 (by decide +kernel) ?_
  refine zr_icmp_ge X 23 dX5_count_8 (by decide) (fun _ => ?_) (fun q => absurd (zq_le (by omega) (by omega)) q)
  refine zr_iloadn X 1 dX5_count_23 rfl ?_
  refine zr_tswI (off := 108) X 132 dX5_count_24 ⟨by decide +kernel, by decide +kernel, by decide +kernel⟩ (by decide) ?_
  refine zr_aloadn X 0 dX5_count_132 rfl ?_
  refine zr_get X (ci := 5) (q := 0) (zR _) (.ref (ad (1))) dX5_count_133 (by omega) sc_0 rfl inX5 (by decide) rfl (zvR rfl) rfl k_215 ?_
  refine zr_dVi (C := RX2) (ci := 2) [] [] X (zK_ok A D tc tF tL tM) (d_allFines E μ) k_516 k_517 k_518 k_2 k_519 hdX2_allFines ⟨rfl, rfl⟩ ⟨Nat.le_of_ble_eq_true rfl, Nat.le_of_ble_eq_true rfl⟩ (by omega) (sc_st (j := 0) (by omega) (by have := cb_0; omega)) rfl rfl rfl (Nat.le_of_ble_eq_true rfl) dX5_count_136 ?_
  exact zr_iret X dX5_count_139 ⟨rfl, rfl⟩

set_option maxHeartbeats 4000000 in
set_option maxRecDepth 100000 in
theorem d_count_10 {l : Launch} {D : va_G} {tc : Nat → ClassId} {ad : Nat → Nat} {A : Nat → Prop} {tF tL tM : Nat} (E : zN 299 A ad) (μ : Nat → Int32) {m c ro z : Nat} (S : clsS μ m c ro z)  : zMi l yX5_count cX5_count 2 (some .int) (zrm 5) (zK A D tc tF tL tM) A D vwCl tc ad 299 shC [.ref (ad (0)), .int (nI (10))] μ (fun r u => r = zsum (fun f => zsum (fun v => μ (32 * f + v + 7)) 20) 8 ∧ u = μ) := by
  refine zM_of RX5 [(0, .ref (ad (0))), (1, .int (nI (10)))] (zK_ok A D tc tF tL tM) E.1 E.2 owC_ok (by decide +kernel) rfl (Nat.le_of_ble_eq_true rfl) rfl ?_
  intro pP eE sS mM aS bL mT cO X
  obtain ⟨hm, hm2, hc, h8, hr, hr4, hz, hz4⟩ := S
  refine zr_iloadn X 1 dX5_count_0 rfl ?_
  refine zr_iconst X (nI (3)) dX5_count_1 (by decide +kernel) ?_
  refine zr_icmp_lt X 23 dX5_count_2 (by decide) (fun q => absurd q (nI_nlt (by omega) (by omega))) (fun _ => ?_)
  refine zr_iloadn X 1 dX5_count_5 rfl ?_
  refine zr_bipush X (nI (8)) dX5_count_6 (by decide +kernel) ?_
  refine zr_icmp_ge X 23 dX5_count_8 (by decide) (fun _ => ?_) (fun q => absurd (zq_le (by omega) (by omega)) q)
  refine zr_iloadn X 1 dX5_count_23 rfl ?_
  refine zr_tswI (off := 116) X 140 dX5_count_24 ⟨by decide +kernel, by decide +kernel, by decide +kernel⟩ (by decide) ?_
  refine zr_aloadn X 0 dX5_count_140 rfl ?_
  refine zr_get X (ci := 5) (q := 0) (zR _) (.ref (ad (1))) dX5_count_141 (by omega) sc_0 rfl inX5 (by decide) rfl (zvR rfl) rfl k_215 ?_
  refine zr_dVi (C := RX2) (ci := 2) [] [] X (zK_ok A D tc tF tL tM) (d_allHeld E μ) k_520 k_521 k_522 k_2 k_523 hdX2_allHeld ⟨rfl, rfl⟩ ⟨Nat.le_of_ble_eq_true rfl, Nat.le_of_ble_eq_true rfl⟩ (by omega) (sc_st (j := 0) (by omega) (by have := cb_0; omega)) rfl rfl rfl (Nat.le_of_ble_eq_true rfl) dX5_count_144 ?_
  exact zr_iret X dX5_count_147 ⟨rfl, rfl⟩

set_option maxHeartbeats 4000000 in
set_option maxRecDepth 100000 in
theorem d_count_11 {l : Launch} {D : va_G} {tc : Nat → ClassId} {ad : Nat → Nat} {A : Nat → Prop} {tF tL tM : Nat} (E : zN 299 A ad) (μ : Nat → Int32) {m c ro z : Nat} (S : clsS μ m c ro z)  : zMi l yX5_count cX5_count 2 (some .int) (zrm 5) (zK A D tc tF tL tM) A D vwCl tc ad 299 shC [.ref (ad (0)), .int (nI (11))] μ (fun r u => r = zsum (fun v => μ (v + 323)) 20 ∧ u = μ) := by
  refine zM_of RX5 [(0, .ref (ad (0))), (1, .int (nI (11)))] (zK_ok A D tc tF tL tM) E.1 E.2 owC_ok (by decide +kernel) rfl (Nat.le_of_ble_eq_true rfl) rfl ?_
  intro pP eE sS mM aS bL mT cO X
  obtain ⟨hm, hm2, hc, h8, hr, hr4, hz, hz4⟩ := S
  refine zr_iloadn X 1 dX5_count_0 rfl ?_
  refine zr_iconst X (nI (3)) dX5_count_1 (by decide +kernel) ?_
  refine zr_icmp_lt X 23 dX5_count_2 (by decide) (fun q => absurd q (nI_nlt (by omega) (by omega))) (fun _ => ?_)
  refine zr_iloadn X 1 dX5_count_5 rfl ?_
  refine zr_bipush X (nI (8)) dX5_count_6 (by decide +kernel) ?_
  refine zr_icmp_ge X 23 dX5_count_8 (by decide) (fun _ => ?_) (fun q => absurd (zq_le (by omega) (by omega)) q)
  refine zr_iloadn X 1 dX5_count_23 rfl ?_
  refine zr_tswI (off := 124) X 148 dX5_count_24 ⟨by decide +kernel, by decide +kernel, by decide +kernel⟩ (by decide) ?_
  refine zr_aloadn X 0 dX5_count_148 rfl ?_
  refine zr_get X (ci := 5) (q := 0) (zR _) (.ref (ad (1))) dX5_count_149 (by omega) sc_0 rfl inX5 (by decide) rfl (zvR rfl) rfl k_215 ?_
  refine zr_dVi (C := RX2) (ci := 2) [] [] X (zK_ok A D tc tF tL tM) (d_allLost E μ) k_525 k_526 k_527 k_2 k_528 hdX2_allLost ⟨rfl, rfl⟩ ⟨Nat.le_of_ble_eq_true rfl, Nat.le_of_ble_eq_true rfl⟩ (by omega) (sc_st (j := 0) (by omega) (by have := cb_0; omega)) rfl rfl rfl (Nat.le_of_ble_eq_true rfl) dX5_count_152 ?_
  exact zr_iret X dX5_count_155 ⟨rfl, rfl⟩

set_option maxHeartbeats 4000000 in
set_option maxRecDepth 100000 in
theorem d_count_12 {l : Launch} {D : va_G} {tc : Nat → ClassId} {ad : Nat → Nat} {A : Nat → Prop} {tF tL tM : Nat} (E : zN 299 A ad) (μ : Nat → Int32) {m c ro z : Nat} (S : clsS μ m c ro z) {y : Nat} (hy : m / 12 = y)  : zMi l yX5_count cX5_count 2 (some .int) (zrm 5) (zK A D tc tF tL tM) A D vwCl tc ad 299 shC [.ref (ad (0)), .int (nI (12))] μ (fun r u => r = nI (if m % 12 < 4 ∧ 0 < y then 4 - m % 12 else 16 - m % 12) ∧ u = μ) := by
  refine zM_of RX5 [(0, .ref (ad (0))), (1, .int (nI (12)))] (zK_ok A D tc tF tL tM) E.1 E.2 owC_ok (by decide +kernel) rfl (Nat.le_of_ble_eq_true rfl) rfl ?_
  intro pP eE sS mM aS bL mT cO X
  obtain ⟨hm, hm2, hc, h8, hr, hr4, hz, hz4⟩ := S
  refine zr_iloadn X 1 dX5_count_0 rfl ?_
  refine zr_iconst X (nI (3)) dX5_count_1 (by decide +kernel) ?_
  refine zr_icmp_lt X 23 dX5_count_2 (by decide) (fun q => absurd q (nI_nlt (by omega) (by omega))) (fun _ => ?_)
  refine zr_iloadn X 1 dX5_count_5 rfl ?_
  refine zr_bipush X (nI (8)) dX5_count_6 (by decide +kernel) ?_
  refine zr_icmp_ge X 23 dX5_count_8 (by decide) (fun _ => ?_) (fun q => absurd (zq_le (by omega) (by omega)) q)
  refine zr_iloadn X 1 dX5_count_23 rfl ?_
  refine zr_tswI (off := 132) X 156 dX5_count_24 ⟨by decide +kernel, by decide +kernel, by decide +kernel⟩ (by decide) ?_
  refine zr_aloadn X 0 dX5_count_156 rfl ?_
  refine zr_get X (ci := 5) (q := 0) (zR _) (.ref (ad (1))) dX5_count_157 (by omega) sc_0 rfl inX5 (by decide) rfl (zvR rfl) rfl k_215 ?_
  refine zr_dVi (C := RX2) (ci := 2) [] [] X (zK_ok A D tc tF tL tM) (d_monthsUntilDeadline E μ hm hm2 hy) k_529 k_530 k_531 k_2 k_532 hdX2_monthsUntilDeadline ⟨rfl, rfl⟩ ⟨Nat.le_of_ble_eq_true rfl, Nat.le_of_ble_eq_true rfl⟩ (by omega) (sc_st (j := 0) (by omega) (by have := cb_0; omega)) rfl rfl rfl (Nat.le_of_ble_eq_true rfl) dX5_count_160 ?_
  exact zr_iret X dX5_count_163 ⟨rfl, rfl⟩

set_option maxHeartbeats 4000000 in
set_option maxRecDepth 100000 in
theorem d_count_13 {l : Launch} {D : va_G} {tc : Nat → ClassId} {ad : Nat → Nat} {A : Nat → Prop} {tF tL tM : Nat} (E : zN 299 A ad) (μ : Nat → Int32) {m c ro z : Nat} (S : clsS μ m c ro z)  : zMi l yX5_count cX5_count 2 (some .int) (zrm 5) (zK A D tc tF tL tM) A D vwCl tc ad 299 shC [.ref (ad (0)), .int (nI (13))] μ (fun r u => r = nI z ∧ u = μ) := by
  refine zM_of RX5 [(0, .ref (ad (0))), (1, .int (nI (13)))] (zK_ok A D tc tF tL tM) E.1 E.2 owC_ok (by decide +kernel) rfl (Nat.le_of_ble_eq_true rfl) rfl ?_
  intro pP eE sS mM aS bL mT cO X
  obtain ⟨hm, hm2, hc, h8, hr, hr4, hz, hz4⟩ := S
  refine zr_iloadn X 1 dX5_count_0 rfl ?_
  refine zr_iconst X (nI (3)) dX5_count_1 (by decide +kernel) ?_
  refine zr_icmp_lt X 23 dX5_count_2 (by decide) (fun q => absurd q (nI_nlt (by omega) (by omega))) (fun _ => ?_)
  refine zr_iloadn X 1 dX5_count_5 rfl ?_
  refine zr_bipush X (nI (8)) dX5_count_6 (by decide +kernel) ?_
  refine zr_icmp_ge X 23 dX5_count_8 (by decide) (fun _ => ?_) (fun q => absurd (zq_le (by omega) (by omega)) q)
  refine zr_iloadn X 1 dX5_count_23 rfl ?_
  refine zr_tswI (off := 140) X 164 dX5_count_24 ⟨by decide +kernel, by decide +kernel, by decide +kernel⟩ (by decide) ?_
  refine zr_aloadn X 0 dX5_count_164 rfl ?_
  refine zr_get X (ci := 5) (q := 3) (zR _) (.ref (ad (124))) dX5_count_165 (by omega) sc_0 rfl inX5 (by decide) rfl (zvR rfl) rfl k_218 ?_
  refine zr_get X (ci := 1) (q := 1) zI (.int (nI (z))) dX5_count_168 (by omega) sc_124 rfl inX1 (by decide) rfl (congrArg Value.int (hz)) rfl k_134 ?_
  exact zr_iret X dX5_count_171 ⟨rfl, rfl⟩

set_option maxHeartbeats 4000000 in
set_option maxRecDepth 100000 in
theorem d_count_14 {l : Launch} {D : va_G} {tc : Nat → ClassId} {ad : Nat → Nat} {A : Nat → Prop} {tF tL tM : Nat} (E : zN 299 A ad) (μ : Nat → Int32) {m c ro z : Nat} (S : clsS μ m c ro z)  : zMi l yX5_count cX5_count 2 (some .int) (zrm 5) (zK A D tc tF tL tM) A D vwCl tc ad 299 shC [.ref (ad (0)), .int (nI (14))] μ (fun r u => r = μ 2491 ∧ u = μ) := by
  refine zM_of RX5 [(0, .ref (ad (0))), (1, .int (nI (14)))] (zK_ok A D tc tF tL tM) E.1 E.2 owC_ok (by decide +kernel) rfl (Nat.le_of_ble_eq_true rfl) rfl ?_
  intro pP eE sS mM aS bL mT cO X
  obtain ⟨hm, hm2, hc, h8, hr, hr4, hz, hz4⟩ := S
  refine zr_iloadn X 1 dX5_count_0 rfl ?_
  refine zr_iconst X (nI (3)) dX5_count_1 (by decide +kernel) ?_
  refine zr_icmp_lt X 23 dX5_count_2 (by decide) (fun q => absurd q (nI_nlt (by omega) (by omega))) (fun _ => ?_)
  refine zr_iloadn X 1 dX5_count_5 rfl ?_
  refine zr_bipush X (nI (8)) dX5_count_6 (by decide +kernel) ?_
  refine zr_icmp_ge X 23 dX5_count_8 (by decide) (fun _ => ?_) (fun q => absurd (zq_le (by omega) (by omega)) q)
  refine zr_iloadn X 1 dX5_count_23 rfl ?_
  refine zr_tswI (off := 148) X 172 dX5_count_24 ⟨by decide +kernel, by decide +kernel, by decide +kernel⟩ (by decide) ?_
  refine zr_aloadn X 0 dX5_count_172 rfl ?_
  refine zr_get X (ci := 5) (q := 5) (zR _) (.ref (ad (293))) dX5_count_173 (by omega) sc_0 rfl inX5 (by decide) rfl (zvR rfl) rfl k_220 ?_
  refine zr_get X (ci := 4) (q := 1) zI (.int (μ (2491))) dX5_count_176 (by omega) sc_293 rfl inX4 (by decide) rfl (congrArg Value.int (rfl)) rfl k_184 ?_
  exact zr_iret X dX5_count_179 ⟨rfl, rfl⟩

