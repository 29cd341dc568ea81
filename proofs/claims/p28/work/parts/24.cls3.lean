theorem zmax_nI {a b : Nat} (ha : a < 2 ^ 31) (hb : b < 2 ^ 31) : zmax (nI a) (nI b) = nI (max a b) := by
  unfold zmax
  by_cases h : a < b
  · rw [if_pos (nI_lt h hb), Nat.max_eq_right (by omega)]
  · rw [if_neg (nI_nlt (by omega) ha), Nat.max_eq_left (by omega)]
theorem zfm_of {x : Int32} {c : Nat} (hc : c ≤ 8) (h1 : ¬ x < nI 0) (h2 : x < nI c) : zfm x c := by
  rw [Int32.lt_iff_toInt_lt, nI_toInt (by omega)] at h1 h2
  refine ⟨x.toInt.toNat, by omega, ?_⟩
  apply Int32.toInt_inj.mp
  rw [nI_toInt (by omega)]
  omega
set_option maxHeartbeats 4000000 in
set_option maxRecDepth 100000 in
theorem d_firmAt0_t {l : Launch} {D : va_G} {tc : Nat → ClassId} {ad : Nat → Nat} {A : Nat → Prop} {tF tL tM : Nat} (E : zN 299 A ad) (μ : Nat → Int32) {c : Nat} (hc : μ 1 = nI c) (h8 : c ≤ 8) {f : Nat} (hf : f < c)  : zMq l yX2_firmAt cX2_firmAt 2 (some (.object "AllowanceBook$Firm")) (zrm 1) (zK A D tc tF tL tM) A D vwCl tc ad 299 shC [.ref (ad (1)), .int (nI (f))] μ (fun r u => r = some (ad (4 * f + 4)) ∧ u = μ) := by
  refine zM_of RX2 [(0, .ref (ad (1))), (1, .int (nI (f)))] (zK_ok A D tc tF tL tM) E.1 E.2 owC_ok (by decide +kernel) rfl (Nat.le_of_ble_eq_true rfl) rfl ?_
  intro pP eE sS mM aS bL mT cO X
  refine zr_iloadn X 1 dX2_firmAt_0 rfl ?_
  refine zr_if_lt X 27 dX2_firmAt_1 (by decide) (fun q => absurd q (nI_pos (by omega))) (fun _ => ?_)
  refine zr_iloadn X 1 dX2_firmAt_4 rfl ?_
  refine zr_aloadn X 0 dX2_firmAt_5 rfl ?_
  refine zr_get X (ci := 2) (q := 1) zI (.int (nI (c))) dX2_firmAt_6 (by omega) (sc_st (j := 0) (by omega) (by have := cb_0; omega)) rfl inX2 (by decide) rfl (congrArg Value.int (hc)) rfl k_85 ?_
  refine zr_icmp_ge X 27 dX2_firmAt_9 (by decide) (fun q => absurd q (nI_ge (by omega) (by omega))) (fun _ => ?_)
  refine zr_iloadn X 1 dX2_firmAt_12 rfl ?_
  refine zr_bipush X (nI (8)) dX2_firmAt_13 (by decide +kernel) ?_
  refine zr_icmp_ge X 27 dX2_firmAt_15 (by decide) (fun q => absurd q (nI_ge (by omega) (by omega))) (fun _ => ?_)
  refine zr_aloadn X 0 dX2_firmAt_18 rfl ?_
  refine zr_get X (ci := 2) (q := 3) (zR _) (.ref (ad (3))) dX2_firmAt_19 (by omega) (sc_st (j := 0) (by omega) (by have := cb_0; omega)) rfl inX2 (by decide) rfl (zvR (by have := cb_0; omega)) rfl k_88 ?_
  refine zr_iloadn X 1 dX2_firmAt_22 rfl ?_
  refine zr_aald X (j := f) 2 (4 * f + 4) dX2_firmAt_23 (by omega) (sc_firms (j := 0) (by omega) (by have := cb_0; omega)) rfl rfl (by simp) (zks (by omega) (by have := cb_0; omega)) ?_
  refine zr_goto X 28 dX2_firmAt_24 (by decide) ?_
  exact zr_aret (some (ad (4 * f + 4))) X dX2_firmAt_28 rfl ⟨rfl, rfl⟩

set_option maxHeartbeats 4000000 in
set_option maxRecDepth 100000 in
theorem d_firmAt0_f {l : Launch} {D : va_G} {tc : Nat → ClassId} {ad : Nat → Nat} {A : Nat → Prop} {tF tL tM : Nat} (E : zN 299 A ad) (μ : Nat → Int32) {c : Nat} (hc : μ 1 = nI c) (h8 : c ≤ 8) {x : Int32} (hx : ¬ zfm x c)  : zMq l yX2_firmAt cX2_firmAt 2 (some (.object "AllowanceBook$Firm")) (zrm 1) (zK A D tc tF tL tM) A D vwCl tc ad 299 shC [.ref (ad (1)), .int (x)] μ (fun r u => r = none ∧ u = μ) := by
  refine zM_of RX2 [(0, .ref (ad (1))), (1, .int (x))] (zK_ok A D tc tF tL tM) E.1 E.2 owC_ok (by decide +kernel) rfl (Nat.le_of_ble_eq_true rfl) rfl ?_
  intro pP eE sS mM aS bL mT cO X
  refine zr_iloadn X 1 dX2_firmAt_0 rfl ?_
  refine zr_if_lt X 27 dX2_firmAt_1 (by decide) (fun h1 => ?_) (fun h1 => ?_)
  · refine zr_null X dX2_firmAt_27 ?_
    exact zr_aret none X dX2_firmAt_28 rfl ⟨rfl, rfl⟩
  · refine zr_iloadn X 1 dX2_firmAt_4 rfl ?_
    refine zr_aloadn X 0 dX2_firmAt_5 rfl ?_
    refine zr_get X (ci := 2) (q := 1) zI (.int (nI (c))) dX2_firmAt_6 (by omega) (sc_st (j := 0) (by omega) (by have := cb_0; omega)) rfl inX2 (by decide) rfl (congrArg Value.int (hc)) rfl k_85 ?_
    refine zr_icmp_ge X 27 dX2_firmAt_9 (by decide) (fun _ => ?_) (fun q => absurd (Int32.not_lt.mp (fun q => hx (zfm_of h8 (by rw [nI_0]; exact h1) q))) q)
    refine zr_null X dX2_firmAt_27 ?_
    exact zr_aret none X dX2_firmAt_28 rfl ⟨rfl, rfl⟩

set_option maxHeartbeats 4000000 in
set_option maxRecDepth 100000 in
theorem d_firmAt2_t {l : Launch} {D : va_G} {tc : Nat → ClassId} {ad : Nat → Nat} {A : Nat → Prop} {tF tL tM : Nat} (E : zN 299 A ad) (μ : Nat → Int32) {c : Nat} (hc : μ 699 = nI c) (h8 : c ≤ 8) {f : Nat} (hf : f < c)  : zMq l yX2_firmAt cX2_firmAt 2 (some (.object "AllowanceBook$Firm")) (zrm 1) (zK A D tc tF tL tM) A D vwCl tc ad 299 shC [.ref (ad (83)), .int (nI (f))] μ (fun r u => r = some (ad (4 * f + 86)) ∧ u = μ) := by
  refine zM_of RX2 [(0, .ref (ad (83))), (1, .int (nI (f)))] (zK_ok A D tc tF tL tM) E.1 E.2 owC_ok (by decide +kernel) rfl (Nat.le_of_ble_eq_true rfl) rfl ?_
  intro pP eE sS mM aS bL mT cO X
  refine zr_iloadn X 1 dX2_firmAt_0 rfl ?_
  refine zr_if_lt X 27 dX2_firmAt_1 (by decide) (fun q => absurd q (nI_pos (by omega))) (fun _ => ?_)
  refine zr_iloadn X 1 dX2_firmAt_4 rfl ?_
  refine zr_aloadn X 0 dX2_firmAt_5 rfl ?_
  refine zr_get X (ci := 2) (q := 1) zI (.int (nI (c))) dX2_firmAt_6 (by omega) (sc_st (j := 2) (by omega) (by have := cb_2; omega)) rfl inX2 (by decide) rfl (congrArg Value.int (hc)) rfl k_85 ?_
  refine zr_icmp_ge X 27 dX2_firmAt_9 (by decide) (fun q => absurd q (nI_ge (by omega) (by omega))) (fun _ => ?_)
  refine zr_iloadn X 1 dX2_firmAt_12 rfl ?_
  refine zr_bipush X (nI (8)) dX2_firmAt_13 (by decide +kernel) ?_
  refine zr_icmp_ge X 27 dX2_firmAt_15 (by decide) (fun q => absurd q (nI_ge (by omega) (by omega))) (fun _ => ?_)
  refine zr_aloadn X 0 dX2_firmAt_18 rfl ?_
  refine zr_get X (ci := 2) (q := 3) (zR _) (.ref (ad (85))) dX2_firmAt_19 (by omega) (sc_st (j := 2) (by omega) (by have := cb_2; omega)) rfl inX2 (by decide) rfl (zvR (by have := cb_2; omega)) rfl k_88 ?_
  refine zr_iloadn X 1 dX2_firmAt_22 rfl ?_
  refine zr_aald X (j := f) 2 (4 * f + 86) dX2_firmAt_23 (by omega) (sc_firms (j := 2) (by omega) (by have := cb_2; omega)) rfl rfl (by simp) (zks (by omega) (by have := cb_2; omega)) ?_
  refine zr_goto X 28 dX2_firmAt_24 (by decide) ?_
  exact zr_aret (some (ad (4 * f + 86))) X dX2_firmAt_28 rfl ⟨rfl, rfl⟩

set_option maxHeartbeats 4000000 in
set_option maxRecDepth 100000 in
theorem d_firmAt2_f {l : Launch} {D : va_G} {tc : Nat → ClassId} {ad : Nat → Nat} {A : Nat → Prop} {tF tL tM : Nat} (E : zN 299 A ad) (μ : Nat → Int32) {c : Nat} (hc : μ 699 = nI c) (h8 : c ≤ 8) {x : Int32} (hx : ¬ zfm x c)  : zMq l yX2_firmAt cX2_firmAt 2 (some (.object "AllowanceBook$Firm")) (zrm 1) (zK A D tc tF tL tM) A D vwCl tc ad 299 shC [.ref (ad (83)), .int (x)] μ (fun r u => r = none ∧ u = μ) := by
  refine zM_of RX2 [(0, .ref (ad (83))), (1, .int (x))] (zK_ok A D tc tF tL tM) E.1 E.2 owC_ok (by decide +kernel) rfl (Nat.le_of_ble_eq_true rfl) rfl ?_
  intro pP eE sS mM aS bL mT cO X
  refine zr_iloadn X 1 dX2_firmAt_0 rfl ?_
  refine zr_if_lt X 27 dX2_firmAt_1 (by decide) (fun h1 => ?_) (fun h1 => ?_)
  · refine zr_null X dX2_firmAt_27 ?_
    exact zr_aret none X dX2_firmAt_28 rfl ⟨rfl, rfl⟩
  · refine zr_iloadn X 1 dX2_firmAt_4 rfl ?_
    refine zr_aloadn X 0 dX2_firmAt_5 rfl ?_
    refine zr_get X (ci := 2) (q := 1) zI (.int (nI (c))) dX2_firmAt_6 (by omega) (sc_st (j := 2) (by omega) (by have := cb_2; omega)) rfl inX2 (by decide) rfl (congrArg Value.int (hc)) rfl k_85 ?_
    refine zr_icmp_ge X 27 dX2_firmAt_9 (by decide) (fun _ => ?_) (fun q => absurd (Int32.not_lt.mp (fun q => hx (zfm_of h8 (by rw [nI_0]; exact h1) q))) q)
    refine zr_null X dX2_firmAt_27 ?_
    exact zr_aret none X dX2_firmAt_28 rfl ⟨rfl, rfl⟩

set_option maxHeartbeats 4000000 in
set_option maxRecDepth 100000 in
theorem d_year {l : Launch} {D : va_G} {tc : Nat → ClassId} {ad : Nat → Nat} {A : Nat → Prop} {tF tL tM : Nat} (E : zN 299 A ad) (μ : Nat → Int32) {m y : Nat} (hm : μ 0 = nI m) (hm2 : m < 240) (hy : m / 12 = y) : zMi l yX2_year cX2_year 1 (some .int) (zrm 1) (zK A D tc tF tL tM) A D vwCl tc ad 299 shC [.ref (ad (1))] μ (fun r u => r = nI y ∧ u = μ) := by
  refine zM_of RX2 [(0, .ref (ad (1)))] (zK_ok A D tc tF tL tM) E.1 E.2 owC_ok (by decide +kernel) rfl (Nat.le_of_ble_eq_true rfl) rfl ?_
  intro pP eE sS mM aS bL mT cO X
  refine zr_aloadn X 0 dX2_year_0 rfl ?_
  refine zr_get X (ci := 2) (q := 0) zI (.int (nI (m))) dX2_year_1 (by omega) (sc_st (j := 0) (by omega) (by have := cb_0; omega)) rfl inX2 (by decide) rfl (congrArg Value.int (hm)) rfl k_82 ?_
  refine zr_bipush X (nI (12)) dX2_year_4 (by decide +kernel) ?_
  refine zr_idiv X (nI (y)) dX2_year_6 (by decide +kernel) ((pk_div (by omega) (by omega) (by omega)).trans (congrArg nI hy)) ?_
  exact zr_iret X dX2_year_7 ⟨rfl, rfl⟩

set_option maxHeartbeats 4000000 in
set_option maxRecDepth 100000 in
theorem d_moveError0_u1 {l : Launch} {D : va_G} {tc : Nat → ClassId} {ad : Nat → Nat} {A : Nat → Prop} {tF tL tM : Nat} (E : zN 299 A ad) (μ : Nat → Int32) {c : Nat} (hc : μ 1 = nI c) (h8 : c ≤ 8) {x : Int32} (hx : ¬ zfm x c) (to : Int32) (v : Int32) (t : Int32)  : zMi l yX2_moveError cX2_moveError 6 (some .int) (zrm 2) (zK A D tc tF tL tM) A D vwCl tc ad 299 shC [.ref (ad (1)), .int (x), .int (to), .int (v), .int (t)] μ (fun r u => r = -1 ∧ u = μ) := by
  refine zM_of RX2 [(0, .ref (ad (1))), (1, .int (x)), (2, .int (to)), (3, .int (v)), (4, .int (t))] (zK_ok A D tc tF tL tM) E.1 E.2 owC_ok (by decide +kernel) rfl (Nat.le_of_ble_eq_true rfl) rfl ?_
  intro pP eE sS mM aS bL mT cO X
  refine zr_aloadn X 0 dX2_moveError_0 rfl ?_
  refine zr_iloadn X 1 dX2_moveError_1 rfl ?_
  refine zr_dVq (C := RX2) (ci := 2) [.int (x)] [] X (zK_ok A D tc tF tL tM) (d_firmAt0_f E μ (hc) h8 hx) k_299 k_274 k_275 k_2 k_276 hdX2_firmAt ⟨rfl, rfl⟩ ⟨Nat.le_of_ble_eq_true rfl, Nat.le_of_ble_eq_true rfl⟩ (by omega) (sc_st (j := 0) (by omega) (by have := cb_0; omega)) rfl rfl rfl (Nat.le_of_ble_eq_true rfl) dX2_moveError_2 rfl ?_
  refine zr_astoreN X [1, 2, 3, 4, 5, 0] [(0, .ref (ad (1))), (1, .int (x)), (2, .int (to)), (3, .int (v)), (4, .int (t)), (5, .null)] dX2_moveError_5 (by decide) rfl ?_
  refine zr_aloadN X 5 dX2_moveError_7 rfl ?_
  refine zr_ifnullN X 27 dX2_moveError_9 (by decide) ?_
  refine zr_iconst X (-1) dX2_moveError_27 (by decide +kernel) ?_
  exact zr_iret X dX2_moveError_28 ⟨rfl, rfl⟩

set_option maxHeartbeats 4000000 in
set_option maxRecDepth 100000 in
theorem d_moveError0_u2 {l : Launch} {D : va_G} {tc : Nat → ClassId} {ad : Nat → Nat} {A : Nat → Prop} {tF tL tM : Nat} (E : zN 299 A ad) (μ : Nat → Int32) {c : Nat} (hc : μ 1 = nI c) (h8 : c ≤ 8) {f : Nat} (hf : f < c) {x : Int32} (hx : ¬ zfm x c) (v : Int32) (t : Int32)  : zMi l yX2_moveError cX2_moveError 6 (some .int) (zrm 2) (zK A D tc tF tL tM) A D vwCl tc ad 299 shC [.ref (ad (1)), .int (nI (f)), .int (x), .int (v), .int (t)] μ (fun r u => r = -1 ∧ u = μ) := by
  refine zM_of RX2 [(0, .ref (ad (1))), (1, .int (nI (f))), (2, .int (x)), (3, .int (v)), (4, .int (t))] (zK_ok A D tc tF tL tM) E.1 E.2 owC_ok (by decide +kernel) rfl (Nat.le_of_ble_eq_true rfl) rfl ?_
  intro pP eE sS mM aS bL mT cO X
  refine zr_aloadn X 0 dX2_moveError_0 rfl ?_
  refine zr_iloadn X 1 dX2_moveError_1 rfl ?_
  refine zr_dVq (C := RX2) (ci := 2) [.int (nI (f))] [] X (zK_ok A D tc tF tL tM) (d_firmAt0_t E μ (f := f) (hc) h8 (by omega)) k_299 k_274 k_275 k_2 k_276 hdX2_firmAt ⟨rfl, rfl⟩ ⟨Nat.le_of_ble_eq_true rfl, Nat.le_of_ble_eq_true rfl⟩ (by omega) (sc_st (j := 0) (by omega) (by have := cb_0; omega)) rfl rfl rfl (Nat.le_of_ble_eq_true rfl) dX2_moveError_2 rfl ?_
  refine zr_astore X [1, 2, 3, 4, 5, 0] [(0, .ref (ad (1))), (1, .int (nI (f))), (2, .int (x)), (3, .int (v)), (4, .int (t)), (5, .ref (ad (4 * f + 4)))] dX2_moveError_5 (by decide) rfl ?_
  refine zr_aload X 5 dX2_moveError_7 rfl ?_
  refine zr_ifnull X dX2_moveError_9 ?_
  refine zr_aloadn X 0 dX2_moveError_12 rfl ?_
  refine zr_iloadn X 2 dX2_moveError_13 rfl ?_
  refine zr_dVq (C := RX2) (ci := 2) [.int (x)] [] X (zK_ok A D tc tF tL tM) (d_firmAt0_f E μ (hc) h8 hx) k_299 k_274 k_275 k_2 k_276 hdX2_firmAt ⟨rfl, rfl⟩ ⟨Nat.le_of_ble_eq_true rfl, Nat.le_of_ble_eq_true rfl⟩ (by omega) (sc_st (j := 0) (by omega) (by have := cb_0; omega)) rfl rfl rfl (Nat.le_of_ble_eq_true rfl) dX2_moveError_14 rfl ?_
  refine zr_ifnullN X 27 dX2_moveError_17 (by decide) ?_
  refine zr_iconst X (-1) dX2_moveError_27 (by decide +kernel) ?_
  exact zr_iret X dX2_moveError_28 ⟨rfl, rfl⟩

set_option maxHeartbeats 4000000 in
set_option maxRecDepth 100000 in
theorem d_moveError0_u3 {l : Launch} {D : va_G} {tc : Nat → ClassId} {ad : Nat → Nat} {A : Nat → Prop} {tF tL tM : Nat} (E : zN 299 A ad) (μ : Nat → Int32) {c : Nat} (hc : μ 1 = nI c) (h8 : c ≤ 8) {f f2 : Nat} (hf : f < c) (hf2 : f2 < c) {x : Int32} (hx : ¬ zin x 0 19) (t : Int32)  : zMi l yX2_moveError cX2_moveError 6 (some .int) (zrm 2) (zK A D tc tF tL tM) A D vwCl tc ad 299 shC [.ref (ad (1)), .int (nI (f)), .int (nI (f2)), .int (x), .int (t)] μ (fun r u => r = -1 ∧ u = μ) := by
  refine zM_of RX2 [(0, .ref (ad (1))), (1, .int (nI (f))), (2, .int (nI (f2))), (3, .int (x)), (4, .int (t))] (zK_ok A D tc tF tL tM) E.1 E.2 owC_ok (by decide +kernel) rfl (Nat.le_of_ble_eq_true rfl) rfl ?_
  intro pP eE sS mM aS bL mT cO X
  refine zr_aloadn X 0 dX2_moveError_0 rfl ?_
  refine zr_iloadn X 1 dX2_moveError_1 rfl ?_
  refine zr_dVq (C := RX2) (ci := 2) [.int (nI (f))] [] X (zK_ok A D tc tF tL tM) (d_firmAt0_t E μ (f := f) (hc) h8 (by omega)) k_299 k_274 k_275 k_2 k_276 hdX2_firmAt ⟨rfl, rfl⟩ ⟨Nat.le_of_ble_eq_true rfl, Nat.le_of_ble_eq_true rfl⟩ (by omega) (sc_st (j := 0) (by omega) (by have := cb_0; omega)) rfl rfl rfl (Nat.le_of_ble_eq_true rfl) dX2_moveError_2 rfl ?_
  refine zr_astore X [1, 2, 3, 4, 5, 0] [(0, .ref (ad (1))), (1, .int (nI (f))), (2, .int (nI (f2))), (3, .int (x)), (4, .int (t)), (5, .ref (ad (4 * f + 4)))] dX2_moveError_5 (by decide) rfl ?_
  refine zr_aload X 5 dX2_moveError_7 rfl ?_
  refine zr_ifnull X dX2_moveError_9 ?_
  refine zr_aloadn X 0 dX2_moveError_12 rfl ?_
  refine zr_iloadn X 2 dX2_moveError_13 rfl ?_
  refine zr_dVq (C := RX2) (ci := 2) [.int (nI (f2))] [] X (zK_ok A D tc tF tL tM) (d_firmAt0_t E μ (f := f2) (hc) h8 (by omega)) k_299 k_274 k_275 k_2 k_276 hdX2_firmAt ⟨rfl, rfl⟩ ⟨Nat.le_of_ble_eq_true rfl, Nat.le_of_ble_eq_true rfl⟩ (by omega) (sc_st (j := 0) (by omega) (by have := cb_0; omega)) rfl rfl rfl (Nat.le_of_ble_eq_true rfl) dX2_moveError_14 rfl ?_
  refine zr_ifnull X dX2_moveError_17 ?_
  refine zr_iloadn X 3 dX2_moveError_20 rfl ?_
  refine zr_dNi (host := RX5) [.int (x)] [] X (zK_ok A D tc tF tL tM) (d_isVintage_f E μ hx) X.2.2.2.2.2.2.2.2.2.2.1 k_301 k_1 k_302 hdX5_isVintagen ⟨rfl, rfl⟩ ⟨Nat.le_of_ble_eq_true rfl, Nat.le_of_ble_eq_true rfl⟩ rfl rfl (Nat.le_of_ble_eq_true rfl) dX2_moveError_21 ?_
  refine zr_if_ne X 29 dX2_moveError_24 (by decide) (fun q => absurd (zq_eq0 (by omega)) q) (fun _ => ?_)
  refine zr_iconst X (-1) dX2_moveError_27 (by decide +kernel) ?_
  exact zr_iret X dX2_moveError_28 ⟨rfl, rfl⟩

set_option maxHeartbeats 4000000 in
set_option maxRecDepth 100000 in
theorem d_moveError0_b1 {l : Launch} {D : va_G} {tc : Nat → ClassId} {ad : Nat → Nat} {A : Nat → Prop} {tF tL tM : Nat} (E : zN 299 A ad) (μ : Nat → Int32) {c : Nat} (hc : μ 1 = nI c) (h8 : c ≤ 8) {f f2 : Nat} (hf : f < c) (hf2 : f2 < c) {v : Nat} (hv : v ≤ 19) {x : Int32} (hx : ¬ zin x 1 9999)  : zMi l yX2_moveError cX2_moveError 6 (some .int) (zrm 2) (zK A D tc tF tL tM) A D vwCl tc ad 299 shC [.ref (ad (1)), .int (nI (f)), .int (nI (f2)), .int (nI (v)), .int (x)] μ (fun r u => r = -2 ∧ u = μ) := by
  refine zM_of RX2 [(0, .ref (ad (1))), (1, .int (nI (f))), (2, .int (nI (f2))), (3, .int (nI (v))), (4, .int (x))] (zK_ok A D tc tF tL tM) E.1 E.2 owC_ok (by decide +kernel) rfl (Nat.le_of_ble_eq_true rfl) rfl ?_
  intro pP eE sS mM aS bL mT cO X
  refine zr_aloadn X 0 dX2_moveError_0 rfl ?_
  refine zr_iloadn X 1 dX2_moveError_1 rfl ?_
  refine zr_dVq (C := RX2) (ci := 2) [.int (nI (f))] [] X (zK_ok A D tc tF tL tM) (d_firmAt0_t E μ (f := f) (hc) h8 (by omega)) k_299 k_274 k_275 k_2 k_276 hdX2_firmAt ⟨rfl, rfl⟩ ⟨Nat.le_of_ble_eq_true rfl, Nat.le_of_ble_eq_true rfl⟩ (by omega) (sc_st (j := 0) (by omega) (by have := cb_0; omega)) rfl rfl rfl (Nat.le_of_ble_eq_true rfl) dX2_moveError_2 rfl ?_
  refine zr_astore X [1, 2, 3, 4, 5, 0] [(0, .ref (ad (1))), (1, .int (nI (f))), (2, .int (nI (f2))), (3, .int (nI (v))), (4, .int (x)), (5, .ref (ad (4 * f + 4)))] dX2_moveError_5 (by decide) rfl ?_
  refine zr_aload X 5 dX2_moveError_7 rfl ?_
  refine zr_ifnull X dX2_moveError_9 ?_
  refine zr_aloadn X 0 dX2_moveError_12 rfl ?_
  refine zr_iloadn X 2 dX2_moveError_13 rfl ?_
  refine zr_dVq (C := RX2) (ci := 2) [.int (nI (f2))] [] X (zK_ok A D tc tF tL tM) (d_firmAt0_t E μ (f := f2) (hc) h8 (by omega)) k_299 k_274 k_275 k_2 k_276 hdX2_firmAt ⟨rfl, rfl⟩ ⟨Nat.le_of_ble_eq_true rfl, Nat.le_of_ble_eq_true rfl⟩ (by omega) (sc_st (j := 0) (by omega) (by have := cb_0; omega)) rfl rfl rfl (Nat.le_of_ble_eq_true rfl) dX2_moveError_14 rfl ?_
  refine zr_ifnull X dX2_moveError_17 ?_
  refine zr_iloadn X 3 dX2_moveError_20 rfl ?_
  refine zr_dNi (host := RX5) [.int (nI (v))] [] X (zK_ok A D tc tF tL tM) (d_isVintage_t E μ (by omega) (by omega)) X.2.2.2.2.2.2.2.2.2.2.1 k_301 k_1 k_302 hdX5_isVintagen ⟨rfl, rfl⟩ ⟨Nat.le_of_ble_eq_true rfl, Nat.le_of_ble_eq_true rfl⟩ rfl rfl (Nat.le_of_ble_eq_true rfl) dX2_moveError_21 ?_
  refine zr_if_ne X 29 dX2_moveError_24 (by decide) (fun _ => ?_) (fun q => absurd q (nI_ne0 (by omega) (by omega)))
  refine zr_iload X 4 dX2_moveError_29 rfl ?_
  refine zr_dNi (host := RX5) [.int (x)] [] X (zK_ok A D tc tF tL tM) (d_isTonnes_f E μ hx) X.2.2.2.2.2.2.2.2.2.2.2.1 k_278 k_1 k_279 hdX5_isTonnesn ⟨rfl, rfl⟩ ⟨Nat.le_of_ble_eq_true rfl, Nat.le_of_ble_eq_true rfl⟩ rfl rfl (Nat.le_of_ble_eq_true rfl) dX2_moveError_31 ?_
  refine zr_if_eq X 42 dX2_moveError_34 (by decide) (fun _ => ?_) (fun q => absurd (zq_eq0 (by omega)) q)
  refine zr_bipush X (-2) dX2_moveError_42 (by decide +kernel) ?_
  exact zr_iret X dX2_moveError_44 ⟨rfl, rfl⟩

set_option maxHeartbeats 4000000 in
set_option maxRecDepth 100000 in
theorem d_moveError0_b2 {l : Launch} {D : va_G} {tc : Nat → ClassId} {ad : Nat → Nat} {A : Nat → Prop} {tF tL tM : Nat} (E : zN 299 A ad) (μ : Nat → Int32) {c : Nat} (hc : μ 1 = nI c) (h8 : c ≤ 8) {f : Nat} (hf : f < c) {v : Nat} (hv : v ≤ 19) {t : Nat} (ht1 : 1 ≤ t) (ht9 : t ≤ 9999)  : zMi l yX2_moveError cX2_moveError 6 (some .int) (zrm 2) (zK A D tc tF tL tM) A D vwCl tc ad 299 shC [.ref (ad (1)), .int (nI (f)), .int (nI (f)), .int (nI (v)), .int (nI (t))] μ (fun r u => r = -2 ∧ u = μ) := by
  refine zM_of RX2 [(0, .ref (ad (1))), (1, .int (nI (f))), (2, .int (nI (f))), (3, .int (nI (v))), (4, .int (nI (t)))] (zK_ok A D tc tF tL tM) E.1 E.2 owC_ok (by decide +kernel) rfl (Nat.le_of_ble_eq_true rfl) rfl ?_
  intro pP eE sS mM aS bL mT cO X
  refine zr_aloadn X 0 dX2_moveError_0 rfl ?_
  refine zr_iloadn X 1 dX2_moveError_1 rfl ?_
  refine zr_dVq (C := RX2) (ci := 2) [.int (nI (f))] [] X (zK_ok A D tc tF tL tM) (d_firmAt0_t E μ (f := f) (hc) h8 (by omega)) k_299 k_274 k_275 k_2 k_276 hdX2_firmAt ⟨rfl, rfl⟩ ⟨Nat.le_of_ble_eq_true rfl, Nat.le_of_ble_eq_true rfl⟩ (by omega) (sc_st (j := 0) (by omega) (by have := cb_0; omega)) rfl rfl rfl (Nat.le_of_ble_eq_true rfl) dX2_moveError_2 rfl ?_
  refine zr_astore X [1, 2, 3, 4, 5, 0] [(0, .ref (ad (1))), (1, .int (nI (f))), (2, .int (nI (f))), (3, .int (nI (v))), (4, .int (nI (t))), (5, .ref (ad (4 * f + 4)))] dX2_moveError_5 (by decide) rfl ?_
  refine zr_aload X 5 dX2_moveError_7 rfl ?_
  refine zr_ifnull X dX2_moveError_9 ?_
  refine zr_aloadn X 0 dX2_moveError_12 rfl ?_
  refine zr_iloadn X 2 dX2_moveError_13 rfl ?_
  refine zr_dVq (C := RX2) (ci := 2) [.int (nI (f))] [] X (zK_ok A D tc tF tL tM) (d_firmAt0_t E μ (f := f) (hc) h8 (by omega)) k_299 k_274 k_275 k_2 k_276 hdX2_firmAt ⟨rfl, rfl⟩ ⟨Nat.le_of_ble_eq_true rfl, Nat.le_of_ble_eq_true rfl⟩ (by omega) (sc_st (j := 0) (by omega) (by have := cb_0; omega)) rfl rfl rfl (Nat.le_of_ble_eq_true rfl) dX2_moveError_14 rfl ?_
  refine zr_ifnull X dX2_moveError_17 ?_
  refine zr_iloadn X 3 dX2_moveError_20 rfl ?_
  refine zr_dNi (host := RX5) [.int (nI (v))] [] X (zK_ok A D tc tF tL tM) (d_isVintage_t E μ (by omega) (by omega)) X.2.2.2.2.2.2.2.2.2.2.1 k_301 k_1 k_302 hdX5_isVintagen ⟨rfl, rfl⟩ ⟨Nat.le_of_ble_eq_true rfl, Nat.le_of_ble_eq_true rfl⟩ rfl rfl (Nat.le_of_ble_eq_true rfl) dX2_moveError_21 ?_
  refine zr_if_ne X 29 dX2_moveError_24 (by decide) (fun _ => ?_) (fun q => absurd q (nI_ne0 (by omega) (by omega)))
  refine zr_iload X 4 dX2_moveError_29 rfl ?_
  refine zr_dNi (host := RX5) [.int (nI (t))] [] X (zK_ok A D tc tF tL tM) (d_isTonnes_t E μ (by omega) (by omega)) X.2.2.2.2.2.2.2.2.2.2.2.1 k_278 k_1 k_279 hdX5_isTonnesn ⟨rfl, rfl⟩ ⟨Nat.le_of_ble_eq_true rfl, Nat.le_of_ble_eq_true rfl⟩ rfl rfl (Nat.le_of_ble_eq_true rfl) dX2_moveError_31 ?_
  refine zr_if_eq X 42 dX2_moveError_34 (by decide) (fun q => absurd q (nI_ne0 (by omega) (by omega))) (fun _ => ?_)
  refine zr_iloadn X 1 dX2_moveError_37 rfl ?_
  refine zr_iloadn X 2 dX2_moveError_38 rfl ?_
  refine zr_icmp_ne X 45 dX2_moveError_39 (by decide) (fun q => absurd (zq_eq (by omega)) q) (fun _ => ?_)
  refine zr_bipush X (-2) dX2_moveError_42 (by decide +kernel) ?_
  exact zr_iret X dX2_moveError_44 ⟨rfl, rfl⟩

set_option maxHeartbeats 4000000 in
set_option maxRecDepth 100000 in
theorem d_moveError0_n {l : Launch} {D : va_G} {tc : Nat → ClassId} {ad : Nat → Nat} {A : Nat → Prop} {tF tL tM : Nat} (E : zN 299 A ad) (μ : Nat → Int32) {c : Nat} (hc : μ 1 = nI c) (h8 : c ≤ 8) {f f2 : Nat} (hf : f < c) (hf2 : f2 < c) {v : Nat} (hv : v ≤ 19) {t : Nat} (ht1 : 1 ≤ t) (ht9 : t ≤ 9999) (hne : f ≠ f2) (h : ¬ nI t ≤ μ (32 * f + v + 7)) : zMi l yX2_moveError cX2_moveError 6 (some .int) (zrm 2) (zK A D tc tF tL tM) A D vwCl tc ad 299 shC [.ref (ad (1)), .int (nI (f)), .int (nI (f2)), .int (nI (v)), .int (nI (t))] μ (fun r u => r = -4 ∧ u = μ) := by
  refine zM_of RX2 [(0, .ref (ad (1))), (1, .int (nI (f))), (2, .int (nI (f2))), (3, .int (nI (v))), (4, .int (nI (t)))] (zK_ok A D tc tF tL tM) E.1 E.2 owC_ok (by decide +kernel) rfl (Nat.le_of_ble_eq_true rfl) rfl ?_
  intro pP eE sS mM aS bL mT cO X
  refine zr_aloadn X 0 dX2_moveError_0 rfl ?_
  refine zr_iloadn X 1 dX2_moveError_1 rfl ?_
  refine zr_dVq (C := RX2) (ci := 2) [.int (nI (f))] [] X (zK_ok A D tc tF tL tM) (d_firmAt0_t E μ (f := f) (hc) h8 (by omega)) k_299 k_274 k_275 k_2 k_276 hdX2_firmAt ⟨rfl, rfl⟩ ⟨Nat.le_of_ble_eq_true rfl, Nat.le_of_ble_eq_true rfl⟩ (by omega) (sc_st (j := 0) (by omega) (by have := cb_0; omega)) rfl rfl rfl (Nat.le_of_ble_eq_true rfl) dX2_moveError_2 rfl ?_
  refine zr_astore X [1, 2, 3, 4, 5, 0] [(0, .ref (ad (1))), (1, .int (nI (f))), (2, .int (nI (f2))), (3, .int (nI (v))), (4, .int (nI (t))), (5, .ref (ad (4 * f + 4)))] dX2_moveError_5 (by decide) rfl ?_
  refine zr_aload X 5 dX2_moveError_7 rfl ?_
  refine zr_ifnull X dX2_moveError_9 ?_
  refine zr_aloadn X 0 dX2_moveError_12 rfl ?_
  refine zr_iloadn X 2 dX2_moveError_13 rfl ?_
  refine zr_dVq (C := RX2) (ci := 2) [.int (nI (f2))] [] X (zK_ok A D tc tF tL tM) (d_firmAt0_t E μ (f := f2) (hc) h8 (by omega)) k_299 k_274 k_275 k_2 k_276 hdX2_firmAt ⟨rfl, rfl⟩ ⟨Nat.le_of_ble_eq_true rfl, Nat.le_of_ble_eq_true rfl⟩ (by omega) (sc_st (j := 0) (by omega) (by have := cb_0; omega)) rfl rfl rfl (Nat.le_of_ble_eq_true rfl) dX2_moveError_14 rfl ?_
  refine zr_ifnull X dX2_moveError_17 ?_
  refine zr_iloadn X 3 dX2_moveError_20 rfl ?_
  refine zr_dNi (host := RX5) [.int (nI (v))] [] X (zK_ok A D tc tF tL tM) (d_isVintage_t E μ (by omega) (by omega)) X.2.2.2.2.2.2.2.2.2.2.1 k_301 k_1 k_302 hdX5_isVintagen ⟨rfl, rfl⟩ ⟨Nat.le_of_ble_eq_true rfl, Nat.le_of_ble_eq_true rfl⟩ rfl rfl (Nat.le_of_ble_eq_true rfl) dX2_moveError_21 ?_
  refine zr_if_ne X 29 dX2_moveError_24 (by decide) (fun _ => ?_) (fun q => absurd q (nI_ne0 (by omega) (by omega)))
  refine zr_iload X 4 dX2_moveError_29 rfl ?_
  refine zr_dNi (host := RX5) [.int (nI (t))] [] X (zK_ok A D tc tF tL tM) (d_isTonnes_t E μ (by omega) (by omega)) X.2.2.2.2.2.2.2.2.2.2.2.1 k_278 k_1 k_279 hdX5_isTonnesn ⟨rfl, rfl⟩ ⟨Nat.le_of_ble_eq_true rfl, Nat.le_of_ble_eq_true rfl⟩ rfl rfl (Nat.le_of_ble_eq_true rfl) dX2_moveError_31 ?_
  refine zr_if_eq X 42 dX2_moveError_34 (by decide) (fun q => absurd q (nI_ne0 (by omega) (by omega))) (fun _ => ?_)
  refine zr_iloadn X 1 dX2_moveError_37 rfl ?_
  refine zr_iloadn X 2 dX2_moveError_38 rfl ?_
  refine zr_icmp_ne X 45 dX2_moveError_39 (by decide) (fun _ => ?_) (fun q => absurd q (zq_ne (by omega) (by omega) (by omega)))
  refine zr_aload X 5 dX2_moveError_45 rfl ?_
  refine zr_get X (ci := 0) (q := 0) (zR _) (.ref (ad (4 * f + 5))) dX2_moveError_47 (by omega) (sc_firm (j := 0) (i := f) (by omega) (by omega) (by have := cb_0; omega)) rfl inX0 (by decide) rfl (zvR (by have := cb_0; omega)) rfl k_43 ?_
  refine zr_iloadn X 3 dX2_moveError_50 rfl ?_
  refine zr_iald X (j := v) 0 (μ (32 * f + v + 7)) dX2_moveError_51 (by omega) (sc_held (j := 0) (i := f) (by omega) (by omega) (by have := cb_0; omega)) rfl rfl (by omega) (by omega) (zcg (b := 32 * f + v + 7) (by omega) (rfl)) ?_
  refine zr_iload X 4 dX2_moveError_52 rfl ?_
  refine zr_icmp_ge X 62 dX2_moveError_54 (by decide) (fun q => absurd q (h)) (fun _ => ?_)
  refine zr_bipush X (-4) dX2_moveError_57 (by decide +kernel) ?_
  refine zr_goto X 63 dX2_moveError_59 (by decide) ?_
  exact zr_iret X dX2_moveError_63 ⟨rfl, rfl⟩

set_option maxHeartbeats 4000000 in
set_option maxRecDepth 100000 in
theorem d_moveError0_0 {l : Launch} {D : va_G} {tc : Nat → ClassId} {ad : Nat → Nat} {A : Nat → Prop} {tF tL tM : Nat} (E : zN 299 A ad) (μ : Nat → Int32) {c : Nat} (hc : μ 1 = nI c) (h8 : c ≤ 8) {f f2 : Nat} (hf : f < c) (hf2 : f2 < c) {v : Nat} (hv : v ≤ 19) {t : Nat} (ht1 : 1 ≤ t) (ht9 : t ≤ 9999) (hne : f ≠ f2) (h : nI t ≤ μ (32 * f + v + 7)) : zMi l yX2_moveError cX2_moveError 6 (some .int) (zrm 2) (zK A D tc tF tL tM) A D vwCl tc ad 299 shC [.ref (ad (1)), .int (nI (f)), .int (nI (f2)), .int (nI (v)), .int (nI (t))] μ (fun r u => r = nI 0 ∧ u = μ) := by
  refine zM_of RX2 [(0, .ref (ad (1))), (1, .int (nI (f))), (2, .int (nI (f2))), (3, .int (nI (v))), (4, .int (nI (t)))] (zK_ok A D tc tF tL tM) E.1 E.2 owC_ok (by decide +kernel) rfl (Nat.le_of_ble_eq_true rfl) rfl ?_
  intro pP eE sS mM aS bL mT cO X
  refine zr_aloadn X 0 dX2_moveError_0 rfl ?_
  refine zr_iloadn X 1 dX2_moveError_1 rfl ?_
  refine zr_dVq (C := RX2) (ci := 2) [.int (nI (f))] [] X (zK_ok A D tc tF tL tM) (d_firmAt0_t E μ (f := f) (hc) h8 (by omega)) k_299 k_274 k_275 k_2 k_276 hdX2_firmAt ⟨rfl, rfl⟩ ⟨Nat.le_of_ble_eq_true rfl, Nat.le_of_ble_eq_true rfl⟩ (by omega) (sc_st (j := 0) (by omega) (by have := cb_0; omega)) rfl rfl rfl (Nat.le_of_ble_eq_true rfl) dX2_moveError_2 rfl ?_
  refine zr_astore X [1, 2, 3, 4, 5, 0] [(0, .ref (ad (1))), (1, .int (nI (f))), (2, .int (nI (f2))), (3, .int (nI (v))), (4, .int (nI (t))), (5, .ref (ad (4 * f + 4)))] dX2_moveError_5 (by decide) rfl ?_
  refine zr_aload X 5 dX2_moveError_7 rfl ?_
  refine zr_ifnull X dX2_moveError_9 ?_
  refine zr_aloadn X 0 dX2_moveError_12 rfl ?_
  refine zr_iloadn X 2 dX2_moveError_13 rfl ?_
  refine zr_dVq (C := RX2) (ci := 2) [.int (nI (f2))] [] X (zK_ok A D tc tF tL tM) (d_firmAt0_t E μ (f := f2) (hc) h8 (by omega)) k_299 k_274 k_275 k_2 k_276 hdX2_firmAt ⟨rfl, rfl⟩ ⟨Nat.le_of_ble_eq_true rfl, Nat.le_of_ble_eq_true rfl⟩ (by omega) (sc_st (j := 0) (by omega) (by have := cb_0; omega)) rfl rfl rfl (Nat.le_of_ble_eq_true rfl) dX2_moveError_14 rfl ?_
  refine zr_ifnull X dX2_moveError_17 ?_
  refine zr_iloadn X 3 dX2_moveError_20 rfl ?_
  refine zr_dNi (host := RX5) [.int (nI (v))] [] X (zK_ok A D tc tF tL tM) (d_isVintage_t E μ (by omega) (by omega)) X.2.2.2.2.2.2.2.2.2.2.1 k_301 k_1 k_302 hdX5_isVintagen ⟨rfl, rfl⟩ ⟨Nat.le_of_ble_eq_true rfl, Nat.le_of_ble_eq_true rfl⟩ rfl rfl (Nat.le_of_ble_eq_true rfl) dX2_moveError_21 ?_
  refine zr_if_ne X 29 dX2_moveError_24 (by decide) (fun _ => ?_) (fun q => absurd q (nI_ne0 (by omega) (by omega)))
  refine zr_iload X 4 dX2_moveError_29 rfl ?_
  refine zr_dNi (host := RX5) [.int (nI (t))] [] X (zK_ok A D tc tF tL tM) (d_isTonnes_t E μ (by omega) (by omega)) X.2.2.2.2.2.2.2.2.2.2.2.1 k_278 k_1 k_279 hdX5_isTonnesn ⟨rfl, rfl⟩ ⟨Nat.le_of_ble_eq_true rfl, Nat.le_of_ble_eq_true rfl⟩ rfl rfl (Nat.le_of_ble_eq_true rfl) dX2_moveError_31 ?_
  refine zr_if_eq X 42 dX2_moveError_34 (by decide) (fun q => absurd q (nI_ne0 (by omega) (by omega))) (fun _ => ?_)
  refine zr_iloadn X 1 dX2_moveError_37 rfl ?_
  refine zr_iloadn X 2 dX2_moveError_38 rfl ?_
  refine zr_icmp_ne X 45 dX2_moveError_39 (by decide) (fun _ => ?_) (fun q => absurd q (zq_ne (by omega) (by omega) (by omega)))
  refine zr_aload X 5 dX2_moveError_45 rfl ?_
  refine zr_get X (ci := 0) (q := 0) (zR _) (.ref (ad (4 * f + 5))) dX2_moveError_47 (by omega) (sc_firm (j := 0) (i := f) (by omega) (by omega) (by have := cb_0; omega)) rfl inX0 (by decide) rfl (zvR (by have := cb_0; omega)) rfl k_43 ?_
  refine zr_iloadn X 3 dX2_moveError_50 rfl ?_
  refine zr_iald X (j := v) 0 (μ (32 * f + v + 7)) dX2_moveError_51 (by omega) (sc_held (j := 0) (i := f) (by omega) (by omega) (by have := cb_0; omega)) rfl rfl (by omega) (by omega) (zcg (b := 32 * f + v + 7) (by omega) (rfl)) ?_
  refine zr_iload X 4 dX2_moveError_52 rfl ?_
  refine zr_icmp_ge X 62 dX2_moveError_54 (by decide) (fun _ => ?_) (fun q => absurd (h) q)
  refine zr_iconst X (nI (0)) dX2_moveError_62 (by decide +kernel) ?_
  exact zr_iret X dX2_moveError_63 ⟨rfl, rfl⟩

set_option maxHeartbeats 4000000 in
set_option maxRecDepth 100000 in
theorem d_move0 {l : Launch} {D : va_G} {tc : Nat → ClassId} {ad : Nat → Nat} {A : Nat → Prop} {tF tL tM : Nat} (E : zN 299 A ad) (μ : Nat → Int32) {c : Nat} (hc : μ 1 = nI c) (h8 : c ≤ 8) {f f2 : Nat} (hf : f < c) (hf2 : f2 < c) {v : Nat} (hv : v ≤ 19) {t : Int32} (hne : f ≠ f2) : zMi l yX2_move cX2_move 7 (some .int) (zrm 2) (zK A D tc tF tL tM) A D vwCl tc ad 299 shC [.ref (ad (1)), .int (nI (f)), .int (nI (f2)), .int (nI (v)), .int (t)] μ (fun r u => r = μ (32 * f + v + 7) - t ∧ u = (upd (upd μ (32 * f + v + 7) (μ (32 * f + v + 7) - t)) (32 * f2 + v + 7) (μ (32 * f2 + v + 7) + t))) := by
  refine zM_of RX2 [(0, .ref (ad (1))), (1, .int (nI (f))), (2, .int (nI (f2))), (3, .int (nI (v))), (4, .int (t))] (zK_ok A D tc tF tL tM) E.1 E.2 owC_ok (by decide +kernel) rfl (Nat.le_of_ble_eq_true rfl) rfl ?_
  intro pP eE sS mM aS bL mT cO X
  refine zr_aloadn X 0 dX2_move_0 rfl ?_
  refine zr_iloadn X 1 dX2_move_1 rfl ?_
  refine zr_dVq (C := RX2) (ci := 2) [.int (nI (f))] [] X (zK_ok A D tc tF tL tM) (d_firmAt0_t E μ (f := f) (hc) h8 (by omega)) k_299 k_274 k_275 k_2 k_276 hdX2_firmAt ⟨rfl, rfl⟩ ⟨Nat.le_of_ble_eq_true rfl, Nat.le_of_ble_eq_true rfl⟩ (by omega) (sc_st (j := 0) (by omega) (by have := cb_0; omega)) rfl rfl rfl (Nat.le_of_ble_eq_true rfl) dX2_move_2 rfl ?_
  refine zr_astore X [1, 2, 3, 4, 5, 0] [(0, .ref (ad (1))), (1, .int (nI (f))), (2, .int (nI (f2))), (3, .int (nI (v))), (4, .int (t)), (5, .ref (ad (4 * f + 4)))] dX2_move_5 (by decide) rfl ?_
  refine zr_aloadn X 0 dX2_move_7 rfl ?_
  refine zr_iloadn X 2 dX2_move_8 rfl ?_
  refine zr_dVq (C := RX2) (ci := 2) [.int (nI (f2))] [] X (zK_ok A D tc tF tL tM) (d_firmAt0_t E μ (f := f2) (hc) h8 (by omega)) k_299 k_274 k_275 k_2 k_276 hdX2_firmAt ⟨rfl, rfl⟩ ⟨Nat.le_of_ble_eq_true rfl, Nat.le_of_ble_eq_true rfl⟩ (by omega) (sc_st (j := 0) (by omega) (by have := cb_0; omega)) rfl rfl rfl (Nat.le_of_ble_eq_true rfl) dX2_move_9 rfl ?_
  refine zr_astore X [1, 2, 3, 4, 5, 6, 0] [(0, .ref (ad (1))), (1, .int (nI (f))), (2, .int (nI (f2))), (3, .int (nI (v))), (4, .int (t)), (5, .ref (ad (4 * f + 4))), (6, .ref (ad (4 * f2 + 4)))] dX2_move_12 (by decide) rfl ?_
  refine zr_aload X 5 dX2_move_14 rfl ?_
  refine zr_ifnull X dX2_move_16 ?_
  refine zr_aload X 6 dX2_move_19 rfl ?_
  refine zr_ifnull X dX2_move_21 ?_
  refine zr_iloadn X 3 dX2_move_24 rfl ?_
  refine zr_dNi (host := RX5) [.int (nI (v))] [] X (zK_ok A D tc tF tL tM) (d_isVintage_t E μ (by omega) (by omega)) X.2.2.2.2.2.2.2.2.2.2.1 k_301 k_1 k_302 hdX5_isVintagen ⟨rfl, rfl⟩ ⟨Nat.le_of_ble_eq_true rfl, Nat.le_of_ble_eq_true rfl⟩ rfl rfl (Nat.le_of_ble_eq_true rfl) dX2_move_25 ?_
  refine zr_if_ne X 33 dX2_move_28 (by decide) (fun _ => ?_) (fun q => absurd q (nI_ne0 (by omega) (by omega)))
  refine zr_aload X 5 dX2_move_33 rfl ?_
  refine zr_get X (ci := 0) (q := 0) (zR _) (.ref (ad (4 * f + 5))) dX2_move_35 (by omega) (sc_firm (j := 0) (i := f) (by omega) (by omega) (by have := cb_0; omega)) rfl inX0 (by decide) rfl (zvR (by have := cb_0; omega)) rfl k_43 ?_
  refine zr_iloadn X 3 dX2_move_38 rfl ?_
  refine zr_dup2 X dX2_move_39 rfl rfl ?_
  refine zr_iald X (j := v) 0 (μ (32 * f + v + 7)) dX2_move_40 (by omega) (sc_held (j := 0) (i := f) (by omega) (by omega) (by have := cb_0; omega)) rfl rfl (by omega) (by omega) (zcg (b := 32 * f + v + 7) (by omega) (rfl)) ?_
  refine zr_iload X 4 dX2_move_41 rfl ?_
  refine zr_isub X ((μ (32 * f + v + 7)) - t) dX2_move_43 rfl ?_
  refine zr_iast X (j := v) 0 (32 * f + v + 7) dX2_move_44 (by omega) (sc_held (j := 0) (i := f) (by omega) (by omega) (by have := cb_0; omega)) rfl rfl (by omega) (by omega) (by omega) ?_
  refine zr_aload X 6 dX2_move_45 rfl ?_
  refine zr_get X (ci := 0) (q := 0) (zR _) (.ref (ad (4 * f2 + 5))) dX2_move_47 (by omega) (sc_firm (j := 0) (i := f2) (by omega) (by omega) (by have := cb_0; omega)) rfl inX0 (by decide) rfl (zvR (by have := cb_0; omega)) rfl k_43 ?_
  refine zr_iloadn X 3 dX2_move_50 rfl ?_
  refine zr_dup2 X dX2_move_51 rfl rfl ?_
  refine zr_iald X (j := v) 0 (μ (32 * f2 + v + 7)) dX2_move_52 (by omega) (sc_held (j := 0) (i := f2) (by omega) (by omega) (by have := cb_0; omega)) rfl rfl (by omega) (by omega) (zcg (b := 32 * f2 + v + 7) (by omega) ((pk_un (by omega)).trans (rfl))) ?_
  refine zr_iload X 4 dX2_move_53 rfl ?_
  refine zr_iadd X ((μ (32 * f2 + v + 7)) + t) dX2_move_55 rfl ?_
  refine zr_iast X (j := v) 0 (32 * f2 + v + 7) dX2_move_56 (by omega) (sc_held (j := 0) (i := f2) (by omega) (by omega) (by have := cb_0; omega)) rfl rfl (by omega) (by omega) (by omega) ?_
  refine zr_aload X 5 dX2_move_57 rfl ?_
  refine zr_get X (ci := 0) (q := 0) (zR _) (.ref (ad (4 * f + 5))) dX2_move_59 (by omega) (sc_firm (j := 0) (i := f) (by omega) (by omega) (by have := cb_0; omega)) rfl inX0 (by decide) rfl (zvR (by have := cb_0; omega)) rfl k_43 ?_
  refine zr_iloadn X 3 dX2_move_62 rfl ?_
  refine zr_iald X (j := v) 0 ((μ (32 * f + v + 7)) - t) dX2_move_63 (by omega) (sc_held (j := 0) (i := f) (by omega) (by omega) (by have := cb_0; omega)) rfl rfl (by omega) (by omega) (zcg (b := 32 * f + v + 7) (by omega) ((pk_un (by omega)).trans (pk_us))) ?_
  exact zr_iret X dX2_move_64 ⟨rfl, rfl⟩

set_option maxHeartbeats 4000000 in
set_option maxRecDepth 100000 in
theorem d_moveError2_u1 {l : Launch} {D : va_G} {tc : Nat → ClassId} {ad : Nat → Nat} {A : Nat → Prop} {tF tL tM : Nat} (E : zN 299 A ad) (μ : Nat → Int32) {c : Nat} (hc : μ 699 = nI c) (h8 : c ≤ 8) {x : Int32} (hx : ¬ zfm x c) (to : Int32) (v : Int32) (t : Int32)  : zMi l yX2_moveError cX2_moveError 6 (some .int) (zrm 2) (zK A D tc tF tL tM) A D vwCl tc ad 299 shC [.ref (ad (83)), .int (x), .int (to), .int (v), .int (t)] μ (fun r u => r = -1 ∧ u = μ) := by
  refine zM_of RX2 [(0, .ref (ad (83))), (1, .int (x)), (2, .int (to)), (3, .int (v)), (4, .int (t))] (zK_ok A D tc tF tL tM) E.1 E.2 owC_ok (by decide +kernel) rfl (Nat.le_of_ble_eq_true rfl) rfl ?_
  intro pP eE sS mM aS bL mT cO X
  refine zr_aloadn X 0 dX2_moveError_0 rfl ?_
  refine zr_iloadn X 1 dX2_moveError_1 rfl ?_
  refine zr_dVq (C := RX2) (ci := 2) [.int (x)] [] X (zK_ok A D tc tF tL tM) (d_firmAt2_f E μ (hc) h8 hx) k_299 k_274 k_275 k_2 k_276 hdX2_firmAt ⟨rfl, rfl⟩ ⟨Nat.le_of_ble_eq_true rfl, Nat.le_of_ble_eq_true rfl⟩ (by omega) (sc_st (j := 2) (by omega) (by have := cb_2; omega)) rfl rfl rfl (Nat.le_of_ble_eq_true rfl) dX2_moveError_2 rfl ?_
  refine zr_astoreN X [1, 2, 3, 4, 5, 0] [(0, .ref (ad (83))), (1, .int (x)), (2, .int (to)), (3, .int (v)), (4, .int (t)), (5, .null)] dX2_moveError_5 (by decide) rfl ?_
  refine zr_aloadN X 5 dX2_moveError_7 rfl ?_
  refine zr_ifnullN X 27 dX2_moveError_9 (by decide) ?_
  refine zr_iconst X (-1) dX2_moveError_27 (by decide +kernel) ?_
  exact zr_iret X dX2_moveError_28 ⟨rfl, rfl⟩

set_option maxHeartbeats 4000000 in
set_option maxRecDepth 100000 in
theorem d_moveError2_u2 {l : Launch} {D : va_G} {tc : Nat → ClassId} {ad : Nat → Nat} {A : Nat → Prop} {tF tL tM : Nat} (E : zN 299 A ad) (μ : Nat → Int32) {c : Nat} (hc : μ 699 = nI c) (h8 : c ≤ 8) {f : Nat} (hf : f < c) {x : Int32} (hx : ¬ zfm x c) (v : Int32) (t : Int32)  : zMi l yX2_moveError cX2_moveError 6 (some .int) (zrm 2) (zK A D tc tF tL tM) A D vwCl tc ad 299 shC [.ref (ad (83)), .int (nI (f)), .int (x), .int (v), .int (t)] μ (fun r u => r = -1 ∧ u = μ) := by
  refine zM_of RX2 [(0, .ref (ad (83))), (1, .int (nI (f))), (2, .int (x)), (3, .int (v)), (4, .int (t))] (zK_ok A D tc tF tL tM) E.1 E.2 owC_ok (by decide +kernel) rfl (Nat.le_of_ble_eq_true rfl) rfl ?_
  intro pP eE sS mM aS bL mT cO X
  refine zr_aloadn X 0 dX2_moveError_0 rfl ?_
  refine zr_iloadn X 1 dX2_moveError_1 rfl ?_
  refine zr_dVq (C := RX2) (ci := 2) [.int (nI (f))] [] X (zK_ok A D tc tF tL tM) (d_firmAt2_t E μ (f := f) (hc) h8 (by omega)) k_299 k_274 k_275 k_2 k_276 hdX2_firmAt ⟨rfl, rfl⟩ ⟨Nat.le_of_ble_eq_true rfl, Nat.le_of_ble_eq_true rfl⟩ (by omega) (sc_st (j := 2) (by omega) (by have := cb_2; omega)) rfl rfl rfl (Nat.le_of_ble_eq_true rfl) dX2_moveError_2 rfl ?_
  refine zr_astore X [1, 2, 3, 4, 5, 0] [(0, .ref (ad (83))), (1, .int (nI (f))), (2, .int (x)), (3, .int (v)), (4, .int (t)), (5, .ref (ad (4 * f + 86)))] dX2_moveError_5 (by decide) rfl ?_
  refine zr_aload X 5 dX2_moveError_7 rfl ?_
  refine zr_ifnull X dX2_moveError_9 ?_
  refine zr_aloadn X 0 dX2_moveError_12 rfl ?_
  refine zr_iloadn X 2 dX2_moveError_13 rfl ?_
  refine zr_dVq (C := RX2) (ci := 2) [.int (x)] [] X (zK_ok A D tc tF tL tM) (d_firmAt2_f E μ (hc) h8 hx) k_299 k_274 k_275 k_2 k_276 hdX2_firmAt ⟨rfl, rfl⟩ ⟨Nat.le_of_ble_eq_true rfl, Nat.le_of_ble_eq_true rfl⟩ (by omega) (sc_st (j := 2) (by omega) (by have := cb_2; omega)) rfl rfl rfl (Nat.le_of_ble_eq_true rfl) dX2_moveError_14 rfl ?_
  refine zr_ifnullN X 27 dX2_moveError_17 (by decide) ?_
  refine zr_iconst X (-1) dX2_moveError_27 (by decide +kernel) ?_
  exact zr_iret X dX2_moveError_28 ⟨rfl, rfl⟩

set_option maxHeartbeats 4000000 in
set_option maxRecDepth 100000 in
theorem d_moveError2_u3 {l : Launch} {D : va_G} {tc : Nat → ClassId} {ad : Nat → Nat} {A : Nat → Prop} {tF tL tM : Nat} (E : zN 299 A ad) (μ : Nat → Int32) {c : Nat} (hc : μ 699 = nI c) (h8 : c ≤ 8) {f f2 : Nat} (hf : f < c) (hf2 : f2 < c) {x : Int32} (hx : ¬ zin x 0 19) (t : Int32)  : zMi l yX2_moveError cX2_moveError 6 (some .int) (zrm 2) (zK A D tc tF tL tM) A D vwCl tc ad 299 shC [.ref (ad (83)), .int (nI (f)), .int (nI (f2)), .int (x), .int (t)] μ (fun r u => r = -1 ∧ u = μ) := by
  refine zM_of RX2 [(0, .ref (ad (83))), (1, .int (nI (f))), (2, .int (nI (f2))), (3, .int (x)), (4, .int (t))] (zK_ok A D tc tF tL tM) E.1 E.2 owC_ok (by decide +kernel) rfl (Nat.le_of_ble_eq_true rfl) rfl ?_
  intro pP eE sS mM aS bL mT cO X
  refine zr_aloadn X 0 dX2_moveError_0 rfl ?_
  refine zr_iloadn X 1 dX2_moveError_1 rfl ?_
  refine zr_dVq (C := RX2) (ci := 2) [.int (nI (f))] [] X (zK_ok A D tc tF tL tM) (d_firmAt2_t E μ (f := f) (hc) h8 (by omega)) k_299 k_274 k_275 k_2 k_276 hdX2_firmAt ⟨rfl, rfl⟩ ⟨Nat.le_of_ble_eq_true rfl, Nat.le_of_ble_eq_true rfl⟩ (by omega) (sc_st (j := 2) (by omega) (by have := cb_2; omega)) rfl rfl rfl (Nat.le_of_ble_eq_true rfl) dX2_moveError_2 rfl ?_
  refine zr_astore X [1, 2, 3, 4, 5, 0] [(0, .ref (ad (83))), (1, .int (nI (f))), (2, .int (nI (f2))), (3, .int (x)), (4, .int (t)), (5, .ref (ad (4 * f + 86)))] dX2_moveError_5 (by decide) rfl ?_
  refine zr_aload X 5 dX2_moveError_7 rfl ?_
  refine zr_ifnull X dX2_moveError_9 ?_
  refine zr_aloadn X 0 dX2_moveError_12 rfl ?_
  refine zr_iloadn X 2 dX2_moveError_13 rfl ?_
  refine zr_dVq (C := RX2) (ci := 2) [.int (nI (f2))] [] X (zK_ok A D tc tF tL tM) (d_firmAt2_t E μ (f := f2) (hc) h8 (by omega)) k_299 k_274 k_275 k_2 k_276 hdX2_firmAt ⟨rfl, rfl⟩ ⟨Nat.le_of_ble_eq_true rfl, Nat.le_of_ble_eq_true rfl⟩ (by omega) (sc_st (j := 2) (by omega) (by have := cb_2; omega)) rfl rfl rfl (Nat.le_of_ble_eq_true rfl) dX2_moveError_14 rfl ?_
  refine zr_ifnull X dX2_moveError_17 ?_
  refine zr_iloadn X 3 dX2_moveError_20 rfl ?_
  refine zr_dNi (host := RX5) [.int (x)] [] X (zK_ok A D tc tF tL tM) (d_isVintage_f E μ hx) X.2.2.2.2.2.2.2.2.2.2.1 k_301 k_1 k_302 hdX5_isVintagen ⟨rfl, rfl⟩ ⟨Nat.le_of_ble_eq_true rfl, Nat.le_of_ble_eq_true rfl⟩ rfl rfl (Nat.le_of_ble_eq_true rfl) dX2_moveError_21 ?_
  refine zr_if_ne X 29 dX2_moveError_24 (by decide) (fun q => absurd (zq_eq0 (by omega)) q) (fun _ => ?_)
  refine zr_iconst X (-1) dX2_moveError_27 (by decide +kernel) ?_
  exact zr_iret X dX2_moveError_28 ⟨rfl, rfl⟩

set_option maxHeartbeats 4000000 in
set_option maxRecDepth 100000 in
theorem d_moveError2_b1 {l : Launch} {D : va_G} {tc : Nat → ClassId} {ad : Nat → Nat} {A : Nat → Prop} {tF tL tM : Nat} (E : zN 299 A ad) (μ : Nat → Int32) {c : Nat} (hc : μ 699 = nI c) (h8 : c ≤ 8) {f f2 : Nat} (hf : f < c) (hf2 : f2 < c) {v : Nat} (hv : v ≤ 19) {x : Int32} (hx : ¬ zin x 1 9999)  : zMi l yX2_moveError cX2_moveError 6 (some .int) (zrm 2) (zK A D tc tF tL tM) A D vwCl tc ad 299 shC [.ref (ad (83)), .int (nI (f)), .int (nI (f2)), .int (nI (v)), .int (x)] μ (fun r u => r = -2 ∧ u = μ) := by
  refine zM_of RX2 [(0, .ref (ad (83))), (1, .int (nI (f))), (2, .int (nI (f2))), (3, .int (nI (v))), (4, .int (x))] (zK_ok A D tc tF tL tM) E.1 E.2 owC_ok (by decide +kernel) rfl (Nat.le_of_ble_eq_true rfl) rfl ?_
  intro pP eE sS mM aS bL mT cO X
  refine zr_aloadn X 0 dX2_moveError_0 rfl ?_
  refine zr_iloadn X 1 dX2_moveError_1 rfl ?_
  refine zr_dVq (C := RX2) (ci := 2) [.int (nI (f))] [] X (zK_ok A D tc tF tL tM) (d_firmAt2_t E μ (f := f) (hc) h8 (by omega)) k_299 k_274 k_275 k_2 k_276 hdX2_firmAt ⟨rfl, rfl⟩ ⟨Nat.le_of_ble_eq_true rfl, Nat.le_of_ble_eq_true rfl⟩ (by omega) (sc_st (j := 2) (by omega) (by have := cb_2; omega)) rfl rfl rfl (Nat.le_of_ble_eq_true rfl) dX2_moveError_2 rfl ?_
  refine zr_astore X [1, 2, 3, 4, 5, 0] [(0, .ref (ad (83))), (1, .int (nI (f))), (2, .int (nI (f2))), (3, .int (nI (v))), (4, .int (x)), (5, .ref (ad (4 * f + 86)))] dX2_moveError_5 (by decide) rfl ?_
  refine zr_aload X 5 dX2_moveError_7 rfl ?_
  refine zr_ifnull X dX2_moveError_9 ?_
  refine zr_aloadn X 0 dX2_moveError_12 rfl ?_
  refine zr_iloadn X 2 dX2_moveError_13 rfl ?_
  refine zr_dVq (C := RX2) (ci := 2) [.int (nI (f2))] [] X (zK_ok A D tc tF tL tM) (d_firmAt2_t E μ (f := f2) (hc) h8 (by omega)) k_299 k_274 k_275 k_2 k_276 hdX2_firmAt ⟨rfl, rfl⟩ ⟨Nat.le_of_ble_eq_true rfl, Nat.le_of_ble_eq_true rfl⟩ (by omega) (sc_st (j := 2) (by omega) (by have := cb_2; omega)) rfl rfl rfl (Nat.le_of_ble_eq_true rfl) dX2_moveError_14 rfl ?_
  refine zr_ifnull X dX2_moveError_17 ?_
  refine zr_iloadn X 3 dX2_moveError_20 rfl ?_
  refine zr_dNi (host := RX5) [.int (nI (v))] [] X (zK_ok A D tc tF tL tM) (d_isVintage_t E μ (by omega) (by omega)) X.2.2.2.2.2.2.2.2.2.2.1 k_301 k_1 k_302 hdX5_isVintagen ⟨rfl, rfl⟩ ⟨Nat.le_of_ble_eq_true rfl, Nat.le_of_ble_eq_true rfl⟩ rfl rfl (Nat.le_of_ble_eq_true rfl) dX2_moveError_21 ?_
  refine zr_if_ne X 29 dX2_moveError_24 (by decide) (fun _ => ?_) (fun q => absurd q (nI_ne0 (by omega) (by omega)))
  refine zr_iload X 4 dX2_moveError_29 rfl ?_
  refine zr_dNi (host := RX5) [.int (x)] [] X (zK_ok A D tc tF tL tM) (d_isTonnes_f E μ hx) X.2.2.2.2.2.2.2.2.2.2.2.1 k_278 k_1 k_279 hdX5_isTonnesn ⟨rfl, rfl⟩ ⟨Nat.le_of_ble_eq_true rfl, Nat.le_of_ble_eq_true rfl⟩ rfl rfl (Nat.le_of_ble_eq_true rfl) dX2_moveError_31 ?_
  refine zr_if_eq X 42 dX2_moveError_34 (by decide) (fun _ => ?_) (fun q => absurd (zq_eq0 (by omega)) q)
  refine zr_bipush X (-2) dX2_moveError_42 (by decide +kernel) ?_
  exact zr_iret X dX2_moveError_44 ⟨rfl, rfl⟩

set_option maxHeartbeats 4000000 in
set_option maxRecDepth 100000 in
theorem d_moveError2_b2 {l : Launch} {D : va_G} {tc : Nat → ClassId} {ad : Nat → Nat} {A : Nat → Prop} {tF tL tM : Nat} (E : zN 299 A ad) (μ : Nat → Int32) {c : Nat} (hc : μ 699 = nI c) (h8 : c ≤ 8) {f : Nat} (hf : f < c) {v : Nat} (hv : v ≤ 19) {t : Nat} (ht1 : 1 ≤ t) (ht9 : t ≤ 9999)  : zMi l yX2_moveError cX2_moveError 6 (some .int) (zrm 2) (zK A D tc tF tL tM) A D vwCl tc ad 299 shC [.ref (ad (83)), .int (nI (f)), .int (nI (f)), .int (nI (v)), .int (nI (t))] μ (fun r u => r = -2 ∧ u = μ) := by
  refine zM_of RX2 [(0, .ref (ad (83))), (1, .int (nI (f))), (2, .int (nI (f))), (3, .int (nI (v))), (4, .int (nI (t)))] (zK_ok A D tc tF tL tM) E.1 E.2 owC_ok (by decide +kernel) rfl (Nat.le_of_ble_eq_true rfl) rfl ?_
  intro pP eE sS mM aS bL mT cO X
  refine zr_aloadn X 0 dX2_moveError_0 rfl ?_
  refine zr_iloadn X 1 dX2_moveError_1 rfl ?_
  refine zr_dVq (C := RX2) (ci := 2) [.int (nI (f))] [] X (zK_ok A D tc tF tL tM) (d_firmAt2_t E μ (f := f) (hc) h8 (by omega)) k_299 k_274 k_275 k_2 k_276 hdX2_firmAt ⟨rfl, rfl⟩ ⟨Nat.le_of_ble_eq_true rfl, Nat.le_of_ble_eq_true rfl⟩ (by omega) (sc_st (j := 2) (by omega) (by have := cb_2; omega)) rfl rfl rfl (Nat.le_of_ble_eq_true rfl) dX2_moveError_2 rfl ?_
  refine zr_astore X [1, 2, 3, 4, 5, 0] [(0, .ref (ad (83))), (1, .int (nI (f))), (2, .int (nI (f))), (3, .int (nI (v))), (4, .int (nI (t))), (5, .ref (ad (4 * f + 86)))] dX2_moveError_5 (by decide) rfl ?_
  refine zr_aload X 5 dX2_moveError_7 rfl ?_
  refine zr_ifnull X dX2_moveError_9 ?_
  refine zr_aloadn X 0 dX2_moveError_12 rfl ?_
  refine zr_iloadn X 2 dX2_moveError_13 rfl ?_
  refine zr_dVq (C := RX2) (ci := 2) [.int (nI (f))] [] X (zK_ok A D tc tF tL tM) (d_firmAt2_t E μ (f := f) (hc) h8 (by omega)) k_299 k_274 k_275 k_2 k_276 hdX2_firmAt ⟨rfl, rfl⟩ ⟨Nat.le_of_ble_eq_true rfl, Nat.le_of_ble_eq_true rfl⟩ (by omega) (sc_st (j := 2) (by omega) (by have := cb_2; omega)) rfl rfl rfl (Nat.le_of_ble_eq_true rfl) dX2_moveError_14 rfl ?_
  refine zr_ifnull X dX2_moveError_17 ?_
  refine zr_iloadn X 3 dX2_moveError_20 rfl ?_
  refine zr_dNi (host := RX5) [.int (nI (v))] [] X (zK_ok A D tc tF tL tM) (d_isVintage_t E μ (by omega) (by omega)) X.2.2.2.2.2.2.2.2.2.2.1 k_301 k_1 k_302 hdX5_isVintagen ⟨rfl, rfl⟩ ⟨Nat.le_of_ble_eq_true rfl, Nat.le_of_ble_eq_true rfl⟩ rfl rfl (Nat.le_of_ble_eq_true rfl) dX2_moveError_21 ?_
  refine zr_if_ne X 29 dX2_moveError_24 (by decide) (fun _ => ?_) (fun q => absurd q (nI_ne0 (by omega) (by omega)))
  refine zr_iload X 4 dX2_moveError_29 rfl ?_
  refine zr_dNi (host := RX5) [.int (nI (t))] [] X (zK_ok A D tc tF tL tM) (d_isTonnes_t E μ (by omega) (by omega)) X.2.2.2.2.2.2.2.2.2.2.2.1 k_278 k_1 k_279 hdX5_isTonnesn ⟨rfl, rfl⟩ ⟨Nat.le_of_ble_eq_true rfl, Nat.le_of_ble_eq_true rfl⟩ rfl rfl (Nat.le_of_ble_eq_true rfl) dX2_moveError_31 ?_
  refine zr_if_eq X 42 dX2_moveError_34 (by decide) (fun q => absurd q (nI_ne0 (by omega) (by omega))) (fun _ => ?_)
  refine zr_iloadn X 1 dX2_moveError_37 rfl ?_
  refine zr_iloadn X 2 dX2_moveError_38 rfl ?_
  refine zr_icmp_ne X 45 dX2_moveError_39 (by decide) (fun q => absurd (zq_eq (by omega)) q) (fun _ => ?_)
  refine zr_bipush X (-2) dX2_moveError_42 (by decide +kernel) ?_
  exact zr_iret X dX2_moveError_44 ⟨rfl, rfl⟩

set_option maxHeartbeats 4000000 in
set_option maxRecDepth 100000 in
theorem d_moveError2_n {l : Launch} {D : va_G} {tc : Nat → ClassId} {ad : Nat → Nat} {A : Nat → Prop} {tF tL tM : Nat} (E : zN 299 A ad) (μ : Nat → Int32) {c : Nat} (hc : μ 699 = nI c) (h8 : c ≤ 8) {f f2 : Nat} (hf : f < c) (hf2 : f2 < c) {v : Nat} (hv : v ≤ 19) {t : Nat} (ht1 : 1 ≤ t) (ht9 : t ≤ 9999) (hne : f ≠ f2) (h : ¬ nI t ≤ μ (32 * f + v + 705)) : zMi l yX2_moveError cX2_moveError 6 (some .int) (zrm 2) (zK A D tc tF tL tM) A D vwCl tc ad 299 shC [.ref (ad (83)), .int (nI (f)), .int (nI (f2)), .int (nI (v)), .int (nI (t))] μ (fun r u => r = -4 ∧ u = μ) := by
  refine zM_of RX2 [(0, .ref (ad (83))), (1, .int (nI (f))), (2, .int (nI (f2))), (3, .int (nI (v))), (4, .int (nI (t)))] (zK_ok A D tc tF tL tM) E.1 E.2 owC_ok (by decide +kernel) rfl (Nat.le_of_ble_eq_true rfl) rfl ?_
  intro pP eE sS mM aS bL mT cO X
  refine zr_aloadn X 0 dX2_moveError_0 rfl ?_
  refine zr_iloadn X 1 dX2_moveError_1 rfl ?_
  refine zr_dVq (C := RX2) (ci := 2) [.int (nI (f))] [] X (zK_ok A D tc tF tL tM) (d_firmAt2_t E μ (f := f) (hc) h8 (by omega)) k_299 k_274 k_275 k_2 k_276 hdX2_firmAt ⟨rfl, rfl⟩ ⟨Nat.le_of_ble_eq_true rfl, Nat.le_of_ble_eq_true rfl⟩ (by omega) (sc_st (j := 2) (by omega) (by have := cb_2; omega)) rfl rfl rfl (Nat.le_of_ble_eq_true rfl) dX2_moveError_2 rfl ?_
  refine zr_astore X [1, 2, 3, 4, 5, 0] [(0, .ref (ad (83))), (1, .int (nI (f))), (2, .int (nI (f2))), (3, .int (nI (v))), (4, .int (nI (t))), (5, .ref (ad (4 * f + 86)))] dX2_moveError_5 (by decide) rfl ?_
  refine zr_aload X 5 dX2_moveError_7 rfl ?_
  refine zr_ifnull X dX2_moveError_9 ?_
  refine zr_aloadn X 0 dX2_moveError_12 rfl ?_
  refine zr_iloadn X 2 dX2_moveError_13 rfl ?_
  refine zr_dVq (C := RX2) (ci := 2) [.int (nI (f2))] [] X (zK_ok A D tc tF tL tM) (d_firmAt2_t E μ (f := f2) (hc) h8 (by omega)) k_299 k_274 k_275 k_2 k_276 hdX2_firmAt ⟨rfl, rfl⟩ ⟨Nat.le_of_ble_eq_true rfl, Nat.le_of_ble_eq_true rfl⟩ (by omega) (sc_st (j := 2) (by omega) (by have := cb_2; omega)) rfl rfl rfl (Nat.le_of_ble_eq_true rfl) dX2_moveError_14 rfl ?_
  refine zr_ifnull X dX2_moveError_17 ?_
  refine zr_iloadn X 3 dX2_moveError_20 rfl ?_
  refine zr_dNi (host := RX5) [.int (nI (v))] [] X (zK_ok A D tc tF tL tM) (d_isVintage_t E μ (by omega) (by omega)) X.2.2.2.2.2.2.2.2.2.2.1 k_301 k_1 k_302 hdX5_isVintagen ⟨rfl, rfl⟩ ⟨Nat.le_of_ble_eq_true rfl, Nat.le_of_ble_eq_true rfl⟩ rfl rfl (Nat.le_of_ble_eq_true rfl) dX2_moveError_21 ?_
  refine zr_if_ne X 29 dX2_moveError_24 (by decide) (fun _ => ?_) (fun q => absurd q (nI_ne0 (by omega) (by omega)))
  refine zr_iload X 4 dX2_moveError_29 rfl ?_
  refine zr_dNi (host := RX5) [.int (nI (t))] [] X (zK_ok A D tc tF tL tM) (d_isTonnes_t E μ (by omega) (by omega)) X.2.2.2.2.2.2.2.2.2.2.2.1 k_278 k_1 k_279 hdX5_isTonnesn ⟨rfl, rfl⟩ ⟨Nat.le_of_ble_eq_true rfl, Nat.le_of_ble_eq_true rfl⟩ rfl rfl (Nat.le_of_ble_eq_true rfl) dX2_moveError_31 ?_
  refine zr_if_eq X 42 dX2_moveError_34 (by decide) (fun q => absurd q (nI_ne0 (by omega) (by omega))) (fun _ => ?_)
  refine zr_iloadn X 1 dX2_moveError_37 rfl ?_
  refine zr_iloadn X 2 dX2_moveError_38 rfl ?_
  refine zr_icmp_ne X 45 dX2_moveError_39 (by decide) (fun _ => ?_) (fun q => absurd q (zq_ne (by omega) (by omega) (by omega)))
  refine zr_aload X 5 dX2_moveError_45 rfl ?_
  refine zr_get X (ci := 0) (q := 0) (zR _) (.ref (ad (4 * f + 87))) dX2_moveError_47 (by omega) (sc_firm (j := 2) (i := f) (by omega) (by omega) (by have := cb_2; omega)) rfl inX0 (by decide) rfl (zvR (by have := cb_2; omega)) rfl k_43 ?_
  refine zr_iloadn X 3 dX2_moveError_50 rfl ?_
  refine zr_iald X (j := v) 0 (μ (32 * f + v + 705)) dX2_moveError_51 (by omega) (sc_held (j := 2) (i := f) (by omega) (by omega) (by have := cb_2; omega)) rfl rfl (by omega) (by omega) (zcg (b := 32 * f + v + 705) (by omega) (rfl)) ?_
  refine zr_iload X 4 dX2_moveError_52 rfl ?_
  refine zr_icmp_ge X 62 dX2_moveError_54 (by decide) (fun q => absurd q (h)) (fun _ => ?_)
  refine zr_bipush X (-4) dX2_moveError_57 (by decide +kernel) ?_
  refine zr_goto X 63 dX2_moveError_59 (by decide) ?_
  exact zr_iret X dX2_moveError_63 ⟨rfl, rfl⟩

set_option maxHeartbeats 4000000 in
set_option maxRecDepth 100000 in
theorem d_moveError2_0 {l : Launch} {D : va_G} {tc : Nat → ClassId} {ad : Nat → Nat} {A : Nat → Prop} {tF tL tM : Nat} (E : zN 299 A ad) (μ : Nat → Int32) {c : Nat} (hc : μ 699 = nI c) (h8 : c ≤ 8) {f f2 : Nat} (hf : f < c) (hf2 : f2 < c) {v : Nat} (hv : v ≤ 19) {t : Nat} (ht1 : 1 ≤ t) (ht9 : t ≤ 9999) (hne : f ≠ f2) (h : nI t ≤ μ (32 * f + v + 705)) : zMi l yX2_moveError cX2_moveError 6 (some .int) (zrm 2) (zK A D tc tF tL tM) A D vwCl tc ad 299 shC [.ref (ad (83)), .int (nI (f)), .int (nI (f2)), .int (nI (v)), .int (nI (t))] μ (fun r u => r = nI 0 ∧ u = μ) := by
  refine zM_of RX2 [(0, .ref (ad (83))), (1, .int (nI (f))), (2, .int (nI (f2))), (3, .int (nI (v))), (4, .int (nI (t)))] (zK_ok A D tc tF tL tM) E.1 E.2 owC_ok (by decide +kernel) rfl (Nat.le_of_ble_eq_true rfl) rfl ?_
  intro pP eE sS mM aS bL mT cO X
  refine zr_aloadn X 0 dX2_moveError_0 rfl ?_
  refine zr_iloadn X 1 dX2_moveError_1 rfl ?_
  refine zr_dVq (C := RX2) (ci := 2) [.int (nI (f))] [] X (zK_ok A D tc tF tL tM) (d_firmAt2_t E μ (f := f) (hc) h8 (by omega)) k_299 k_274 k_275 k_2 k_276 hdX2_firmAt ⟨rfl, rfl⟩ ⟨Nat.le_of_ble_eq_true rfl, Nat.le_of_ble_eq_true rfl⟩ (by omega) (sc_st (j := 2) (by omega) (by have := cb_2; omega)) rfl rfl rfl (Nat.le_of_ble_eq_true rfl) dX2_moveError_2 rfl ?_
  refine zr_astore X [1, 2, 3, 4, 5, 0] [(0, .ref (ad (83))), (1, .int (nI (f))), (2, .int (nI (f2))), (3, .int (nI (v))), (4, .int (nI (t))), (5, .ref (ad (4 * f + 86)))] dX2_moveError_5 (by decide) rfl ?_
  refine zr_aload X 5 dX2_moveError_7 rfl ?_
  refine zr_ifnull X dX2_moveError_9 ?_
  refine zr_aloadn X 0 dX2_moveError_12 rfl ?_
  refine zr_iloadn X 2 dX2_moveError_13 rfl ?_
  refine zr_dVq (C := RX2) (ci := 2) [.int (nI (f2))] [] X (zK_ok A D tc tF tL tM) (d_firmAt2_t E μ (f := f2) (hc) h8 (by omega)) k_299 k_274 k_275 k_2 k_276 hdX2_firmAt ⟨rfl, rfl⟩ ⟨Nat.le_of_ble_eq_true rfl, Nat.le_of_ble_eq_true rfl⟩ (by omega) (sc_st (j := 2) (by omega) (by have := cb_2; omega)) rfl rfl rfl (Nat.le_of_ble_eq_true rfl) dX2_moveError_14 rfl ?_
  refine zr_ifnull X dX2_moveError_17 ?_
  refine zr_iloadn X 3 dX2_moveError_20 rfl ?_
  refine zr_dNi (host := RX5) [.int (nI (v))] [] X (zK_ok A D tc tF tL tM) (d_isVintage_t E μ (by omega) (by omega)) X.2.2.2.2.2.2.2.2.2.2.1 k_301 k_1 k_302 hdX5_isVintagen ⟨rfl, rfl⟩ ⟨Nat.le_of_ble_eq_true rfl, Nat.le_of_ble_eq_true rfl⟩ rfl rfl (Nat.le_of_ble_eq_true rfl) dX2_moveError_21 ?_
  refine zr_if_ne X 29 dX2_moveError_24 (by decide) (fun _ => ?_) (fun q => absurd q (nI_ne0 (by omega) (by omega)))
  refine zr_iload X 4 dX2_moveError_29 rfl ?_
  refine zr_dNi (host := RX5) [.int (nI (t))] [] X (zK_ok A D tc tF tL tM) (d_isTonnes_t E μ (by omega) (by omega)) X.2.2.2.2.2.2.2.2.2.2.2.1 k_278 k_1 k_279 hdX5_isTonnesn ⟨rfl, rfl⟩ ⟨Nat.le_of_ble_eq_true rfl, Nat.le_of_ble_eq_true rfl⟩ rfl rfl (Nat.le_of_ble_eq_true rfl) dX2_moveError_31 ?_
  refine zr_if_eq X 42 dX2_moveError_34 (by decide) (fun q => absurd q (nI_ne0 (by omega) (by omega))) (fun _ => ?_)
  refine zr_iloadn X 1 dX2_moveError_37 rfl ?_
  refine zr_iloadn X 2 dX2_moveError_38 rfl ?_
  refine zr_icmp_ne X 45 dX2_moveError_39 (by decide) (fun _ => ?_) (fun q => absurd q (zq_ne (by omega) (by omega) (by omega)))
  refine zr_aload X 5 dX2_moveError_45 rfl ?_
  refine zr_get X (ci := 0) (q := 0) (zR _) (.ref (ad (4 * f + 87))) dX2_moveError_47 (by omega) (sc_firm (j := 2) (i := f) (by omega) (by omega) (by have := cb_2; omega)) rfl inX0 (by decide) rfl (zvR (by have := cb_2; omega)) rfl k_43 ?_
  refine zr_iloadn X 3 dX2_moveError_50 rfl ?_
  refine zr_iald X (j := v) 0 (μ (32 * f + v + 705)) dX2_moveError_51 (by omega) (sc_held (j := 2) (i := f) (by omega) (by omega) (by have := cb_2; omega)) rfl rfl (by omega) (by omega) (zcg (b := 32 * f + v + 705) (by omega) (rfl)) ?_
  refine zr_iload X 4 dX2_moveError_52 rfl ?_
  refine zr_icmp_ge X 62 dX2_moveError_54 (by decide) (fun _ => ?_) (fun q => absurd (h) q)
  refine zr_iconst X (nI (0)) dX2_moveError_62 (by decide +kernel) ?_
  exact zr_iret X dX2_moveError_63 ⟨rfl, rfl⟩

set_option maxHeartbeats 4000000 in
set_option maxRecDepth 100000 in
theorem d_move2 {l : Launch} {D : va_G} {tc : Nat → ClassId} {ad : Nat → Nat} {A : Nat → Prop} {tF tL tM : Nat} (E : zN 299 A ad) (μ : Nat → Int32) {c : Nat} (hc : μ 699 = nI c) (h8 : c ≤ 8) {f f2 : Nat} (hf : f < c) (hf2 : f2 < c) {v : Nat} (hv : v ≤ 19) {t : Int32} (hne : f ≠ f2) : zMi l yX2_move cX2_move 7 (some .int) (zrm 2) (zK A D tc tF tL tM) A D vwCl tc ad 299 shC [.ref (ad (83)), .int (nI (f)), .int (nI (f2)), .int (nI (v)), .int (t)] μ (fun r u => r = μ (32 * f + v + 705) - t ∧ u = (upd (upd μ (32 * f + v + 705) (μ (32 * f + v + 705) - t)) (32 * f2 + v + 705) (μ (32 * f2 + v + 705) + t))) := by
  refine zM_of RX2 [(0, .ref (ad (83))), (1, .int (nI (f))), (2, .int (nI (f2))), (3, .int (nI (v))), (4, .int (t))] (zK_ok A D tc tF tL tM) E.1 E.2 owC_ok (by decide +kernel) rfl (Nat.le_of_ble_eq_true rfl) rfl ?_
  intro pP eE sS mM aS bL mT cO X
  refine zr_aloadn X 0 dX2_move_0 rfl ?_
  refine zr_iloadn X 1 dX2_move_1 rfl ?_
  refine zr_dVq (C := RX2) (ci := 2) [.int (nI (f))] [] X (zK_ok A D tc tF tL tM) (d_firmAt2_t E μ (f := f) (hc) h8 (by omega)) k_299 k_274 k_275 k_2 k_276 hdX2_firmAt ⟨rfl, rfl⟩ ⟨Nat.le_of_ble_eq_true rfl, Nat.le_of_ble_eq_true rfl⟩ (by omega) (sc_st (j := 2) (by omega) (by have := cb_2; omega)) rfl rfl rfl (Nat.le_of_ble_eq_true rfl) dX2_move_2 rfl ?_
  refine zr_astore X [1, 2, 3, 4, 5, 0] [(0, .ref (ad (83))), (1, .int (nI (f))), (2, .int (nI (f2))), (3, .int (nI (v))), (4, .int (t)), (5, .ref (ad (4 * f + 86)))] dX2_move_5 (by decide) rfl ?_
  refine zr_aloadn X 0 dX2_move_7 rfl ?_
  refine zr_iloadn X 2 dX2_move_8 rfl ?_
  refine zr_dVq (C := RX2) (ci := 2) [.int (nI (f2))] [] X (zK_ok A D tc tF tL tM) (d_firmAt2_t E μ (f := f2) (hc) h8 (by omega)) k_299 k_274 k_275 k_2 k_276 hdX2_firmAt ⟨rfl, rfl⟩ ⟨Nat.le_of_ble_eq_true rfl, Nat.le_of_ble_eq_true rfl⟩ (by omega) (sc_st (j := 2) (by omega) (by have := cb_2; omega)) rfl rfl rfl (Nat.le_of_ble_eq_true rfl) dX2_move_9 rfl ?_
  refine zr_astore X [1, 2, 3, 4, 5, 6, 0] [(0, .ref (ad (83))), (1, .int (nI (f))), (2, .int (nI (f2))), (3, .int (nI (v))), (4, .int (t)), (5, .ref (ad (4 * f + 86))), (6, .ref (ad (4 * f2 + 86)))] dX2_move_12 (by decide) rfl ?_
  refine zr_aload X 5 dX2_move_14 rfl ?_
  refine zr_ifnull X dX2_move_16 ?_
  refine zr_aload X 6 dX2_move_19 rfl ?_
  refine zr_ifnull X dX2_move_21 ?_
  refine zr_iloadn X 3 dX2_move_24 rfl ?_
  refine zr_dNi (host := RX5) [.int (nI (v))] [] X (zK_ok A D tc tF tL tM) (d_isVintage_t E μ (by omega) (by omega)) X.2.2.2.2.2.2.2.2.2.2.1 k_301 k_1 k_302 hdX5_isVintagen ⟨rfl, rfl⟩ ⟨Nat.le_of_ble_eq_true rfl, Nat.le_of_ble_eq_true rfl⟩ rfl rfl (Nat.le_of_ble_eq_true rfl) dX2_move_25 ?_
  refine zr_if_ne X 33 dX2_move_28 (by decide) (fun _ => ?_) (fun q => absurd q (nI_ne0 (by omega) (by omega)))
  refine zr_aload X 5 dX2_move_33 rfl ?_
  refine zr_get X (ci := 0) (q := 0) (zR _) (.ref (ad (4 * f + 87))) dX2_move_35 (by omega) (sc_firm (j := 2) (i := f) (by omega) (by omega) (by have := cb_2; omega)) rfl inX0 (by decide) rfl (zvR (by have := cb_2; omega)) rfl k_43 ?_
  refine zr_iloadn X 3 dX2_move_38 rfl ?_
  refine zr_dup2 X dX2_move_39 rfl rfl ?_
  refine zr_iald X (j := v) 0 (μ (32 * f + v + 705)) dX2_move_40 (by omega) (sc_held (j := 2) (i := f) (by omega) (by omega) (by have := cb_2; omega)) rfl rfl (by omega) (by omega) (zcg (b := 32 * f + v + 705) (by omega) (rfl)) ?_
  refine zr_iload X 4 dX2_move_41 rfl ?_
  refine zr_isub X ((μ (32 * f + v + 705)) - t) dX2_move_43 rfl ?_
  refine zr_iast X (j := v) 0 (32 * f + v + 705) dX2_move_44 (by omega) (sc_held (j := 2) (i := f) (by omega) (by omega) (by have := cb_2; omega)) rfl rfl (by omega) (by omega) (by omega) ?_
  refine zr_aload X 6 dX2_move_45 rfl ?_
  refine zr_get X (ci := 0) (q := 0) (zR _) (.ref (ad (4 * f2 + 87))) dX2_move_47 (by omega) (sc_firm (j := 2) (i := f2) (by omega) (by omega) (by have := cb_2; omega)) rfl inX0 (by decide) rfl (zvR (by have := cb_2; omega)) rfl k_43 ?_
  refine zr_iloadn X 3 dX2_move_50 rfl ?_
  refine zr_dup2 X dX2_move_51 rfl rfl ?_
  refine zr_iald X (j := v) 0 (μ (32 * f2 + v + 705)) dX2_move_52 (by omega) (sc_held (j := 2) (i := f2) (by omega) (by omega) (by have := cb_2; omega)) rfl rfl (by omega) (by omega) (zcg (b := 32 * f2 + v + 705) (by omega) ((pk_un (by omega)).trans (rfl))) ?_
  refine zr_iload X 4 dX2_move_53 rfl ?_
  refine zr_iadd X ((μ (32 * f2 + v + 705)) + t) dX2_move_55 rfl ?_
  refine zr_iast X (j := v) 0 (32 * f2 + v + 705) dX2_move_56 (by omega) (sc_held (j := 2) (i := f2) (by omega) (by omega) (by have := cb_2; omega)) rfl rfl (by omega) (by omega) (by omega) ?_
  refine zr_aload X 5 dX2_move_57 rfl ?_
  refine zr_get X (ci := 0) (q := 0) (zR _) (.ref (ad (4 * f + 87))) dX2_move_59 (by omega) (sc_firm (j := 2) (i := f) (by omega) (by omega) (by have := cb_2; omega)) rfl inX0 (by decide) rfl (zvR (by have := cb_2; omega)) rfl k_43 ?_
  refine zr_iloadn X 3 dX2_move_62 rfl ?_
  refine zr_iald X (j := v) 0 ((μ (32 * f + v + 705)) - t) dX2_move_63 (by omega) (sc_held (j := 2) (i := f) (by omega) (by omega) (by have := cb_2; omega)) rfl rfl (by omega) (by omega) (zcg (b := 32 * f + v + 705) (by omega) ((pk_un (by omega)).trans (pk_us))) ?_
  exact zr_iret X dX2_move_64 ⟨rfl, rfl⟩

set_option maxHeartbeats 4000000 in
set_option maxRecDepth 100000 in
theorem d_mayUse {l : Launch} {D : va_G} {tc : Nat → ClassId} {ad : Nat → Nat} {A : Nat → Prop} {tF tL tM : Nat} (E : zN 299 A ad) (μ : Nat → Int32) {f : Nat} (hf : f < 8) {g : Nat} (hg : g ≤ 2) (lim : Int32)  : zMi l yX0_mayUse cX0_mayUse 3 (some .int) (zrm 1) (zK A D tc tF tL tM) A D vwCl tc ad 299 shC [.ref (ad (4 * f + 4)), .int (nI (g)), .int (lim)] μ (fun r u => r = zmax (nI 0) (μ (32 * f + 35) * lim / nI 100 - μ (32 * f + g + 30)) ∧ u = μ) := by
  refine zM_of RX0 [(0, .ref (ad (4 * f + 4))), (1, .int (nI (g))), (2, .int (lim))] (zK_ok A D tc tF tL tM) E.1 E.2 owC_ok (by decide +kernel) rfl (Nat.le_of_ble_eq_true rfl) rfl ?_
  intro pP eE sS mM aS bL mT cO X
  refine zr_iconst X (nI (0)) dX0_mayUse_0 (by decide +kernel) ?_
  refine zr_aloadn X 0 dX0_mayUse_1 rfl ?_
  refine zr_get X (ci := 0) (q := 5) zI (.int (μ (32 * f + 35))) dX0_mayUse_2 (by omega) (sc_firm (j := 0) (i := f) (by omega) (by omega) (by have := cb_0; omega)) rfl inX0 (by decide) rfl (congrArg Value.int (zcg (by omega) (rfl))) rfl k_54 ?_
  refine zr_iloadn X 2 dX0_mayUse_5 rfl ?_
  refine zr_imul X ((μ (32 * f + 35)) * lim) dX0_mayUse_6 rfl ?_
  refine zr_bipush X (nI (100)) dX0_mayUse_7 (by decide +kernel) ?_
  refine zr_idiv X (((μ (32 * f + 35)) * lim) / (nI (100))) dX0_mayUse_9 (by decide +kernel) rfl ?_
  refine zr_aloadn X 0 dX0_mayUse_10 rfl ?_
  refine zr_get X (ci := 0) (q := 2) (zR _) (.ref (ad (4 * f + 7))) dX0_mayUse_11 (by omega) (sc_firm (j := 0) (i := f) (by omega) (by omega) (by have := cb_0; omega)) rfl inX0 (by decide) rfl (zvR (by have := cb_0; omega)) rfl k_47 ?_
  refine zr_iloadn X 1 dX0_mayUse_14 rfl ?_
  refine zr_iald X (j := g) 0 (μ (32 * f + g + 30)) dX0_mayUse_15 (by omega) (sc_used (j := 0) (i := f) (by omega) (by omega) (by have := cb_0; omega)) rfl rfl (by omega) (by omega) (zcg (b := 32 * f + g + 30) (by omega) (rfl)) ?_
  refine zr_isub X ((((μ (32 * f + 35)) * lim) / (nI (100))) - (μ (32 * f + g + 30))) dX0_mayUse_16 rfl ?_
  refine zr_mmax X (zmax (nI (0)) ((((μ (32 * f + 35)) * lim) / (nI (100))) - (μ (32 * f + g + 30)))) dX0_mayUse_17 k_344 k_345 k_8 k_346 (Nat.le_of_ble_eq_true rfl) (Nat.le_of_ble_eq_true rfl) (zmax_eq _ _) ?_
  exact zr_iret X dX0_mayUse_20 ⟨rfl, rfl⟩

set_option maxHeartbeats 4000000 in
set_option maxRecDepth 100000 in
theorem d_canUse {l : Launch} {D : va_G} {tc : Nat → ClassId} {ad : Nat → Nat} {A : Nat → Prop} {tF tL tM : Nat} (E : zN 299 A ad) (μ : Nat → Int32) {f : Nat} (hf : f < 8) {g : Nat} (hg : g ≤ 2) (lim : Int32)  : zMi l yX0_canUse cX0_canUse 3 (some .int) (zrm 2) (zK A D tc tF tL tM) A D vwCl tc ad 299 shC [.ref (ad (4 * f + 4)), .int (nI (g)), .int (lim)] μ (fun r u => r = zcu μ f g lim ∧ u = μ) := by
  refine zM_of RX0 [(0, .ref (ad (4 * f + 4))), (1, .int (nI (g))), (2, .int (lim))] (zK_ok A D tc tF tL tM) E.1 E.2 owC_ok (by decide +kernel) rfl (Nat.le_of_ble_eq_true rfl) rfl ?_
  intro pP eE sS mM aS bL mT cO X
  refine zr_aloadn X 0 dX0_canUse_0 rfl ?_
  refine zr_get X (ci := 0) (q := 1) (zR _) (.ref (ad (4 * f + 6))) dX0_canUse_1 (by omega) (sc_firm (j := 0) (i := f) (by omega) (by omega) (by have := cb_0; omega)) rfl inX0 (by decide) rfl (zvR (by have := cb_0; omega)) rfl k_44 ?_
  refine zr_iloadn X 1 dX0_canUse_4 rfl ?_
  refine zr_iald X (j := g) 0 (μ (32 * f + g + 27)) dX0_canUse_5 (by omega) (sc_off (j := 0) (i := f) (by omega) (by omega) (by have := cb_0; omega)) rfl rfl (by omega) (by omega) (zcg (b := 32 * f + g + 27) (by omega) (rfl)) ?_
  refine zr_aloadn X 0 dX0_canUse_6 rfl ?_
  refine zr_iloadn X 1 dX0_canUse_7 rfl ?_
  refine zr_iloadn X 2 dX0_canUse_8 rfl ?_
  refine zr_dVi (C := RX0) (ci := 0) [.int (nI (g)), .int (lim)] [.int (μ (32 * f + g + 27))] X (zK_ok A D tc tF tL tM) (d_mayUse E μ (f := f) (g := g) (by omega) (by omega) (lim)) k_340 k_341 k_342 k_3 k_343 hdX0_mayUse ⟨rfl, rfl⟩ ⟨Nat.le_of_ble_eq_true rfl, Nat.le_of_ble_eq_true rfl⟩ (by omega) (sc_firm (j := 0) (i := f) (by omega) (by omega) (by have := cb_0; omega)) rfl rfl rfl (Nat.le_of_ble_eq_true rfl) dX0_canUse_9 ?_
  refine zr_mmin X (zmin (μ (32 * f + g + 27)) (zmax (nI 0) (μ (32 * f + 35) * lim / nI 100 - μ (32 * f + g + 30)))) dX0_canUse_12 k_347 k_252 k_8 k_253 (Nat.le_of_ble_eq_true rfl) (Nat.le_of_ble_eq_true rfl) (zmin_eq _ _) ?_
  exact zr_iret X dX0_canUse_15 ⟨rfl, rfl⟩

set_option maxHeartbeats 4000000 in
set_option maxRecDepth 100000 in
theorem d_dueAtBest {l : Launch} {D : va_G} {tc : Nat → ClassId} {ad : Nat → Nat} {A : Nat → Prop} {tF tL tM : Nat} (E : zN 299 A ad) (μ : Nat → Int32) {f : Nat} (hf : f < 8)  : zMi l yX0_dueAtBest cX0_dueAtBest 4 (some .int) (zrm 3) (zK A D tc tF tL tM) A D vwCl tc ad 299 shC [.ref (ad (4 * f + 4)), .ref (ad (2))] μ (fun r u => r = zmax (nI 0) (μ (32 * f + 36) - zsdC μ f 3) ∧ u = μ) := by
  refine zM_of RX0 [(0, .ref (ad (4 * f + 4))), (1, .ref (ad (2)))] (zK_ok A D tc tF tL tM) E.1 E.2 owC_ok (by decide +kernel) rfl (Nat.le_of_ble_eq_true rfl) rfl ?_
  intro pP eE sS mM aS bL mT cO X
  refine zr_aloadn X 0 dX0_dueAtBest_0 rfl ?_
  refine zr_dVi (C := RX0) (ci := 0) [] [] X (zK_ok A D tc tF tL tM) (d_allowances E μ (f := f) (by omega)) k_455 k_436 k_437 k_3 k_438 hdX0_allowances ⟨rfl, rfl⟩ ⟨Nat.le_of_ble_eq_true rfl, Nat.le_of_ble_eq_true rfl⟩ (by omega) (sc_firm (j := 0) (i := f) (by omega) (by omega) (by have := cb_0; omega)) rfl rfl rfl (Nat.le_of_ble_eq_true rfl) dX0_dueAtBest_1 ?_
  refine zr_istoren X [1, 2, 0] [(0, .ref (ad (4 * f + 4))), (1, .ref (ad (2))), (2, .int (zsum (fun v => μ (32 * f + v + 7)) 20))] dX0_dueAtBest_4 (by decide) rfl ?_
  refine zr_iconst X (nI (0)) dX0_dueAtBest_5 (by decide +kernel) ?_
  refine zr_istoren X [1, 2, 3, 0] [(0, .ref (ad (4 * f + 4))), (1, .ref (ad (2))), (2, .int (zsum (fun v => μ (32 * f + v + 7)) 20)), (3, .int (nI (0)))] dX0_dueAtBest_6 (by decide) rfl ?_
  refine zr_for X (3) (fun i => μ) (fun i => [(0, .ref (ad (4 * f + 4))), (1, .ref (ad (2))), (2, .int (zsdC μ f (i))), (3, .int (nI (i)))]) [] (rfl) rfl ?_ ?_
  · refine zr_iloadn X 3 dX0_dueAtBest_7 rfl ?_
    refine zr_iconst X (nI (3)) dX0_dueAtBest_8 (by decide +kernel) ?_
    refine zr_icmp_ge X 29 dX0_dueAtBest_9 (by decide) (fun _ => ?_) (fun q => absurd (zq_le (by omega) (by omega)) q)
    refine zr_iconst X (nI (0)) dX0_dueAtBest_29 (by decide +kernel) ?_
    refine zr_aloadn X 0 dX0_dueAtBest_30 rfl ?_
    refine zr_get X (ci := 0) (q := 6) zI (.int (μ (32 * f + 36))) dX0_dueAtBest_31 (by omega) (sc_firm (j := 0) (i := f) (by omega) (by omega) (by have := cb_0; omega)) rfl inX0 (by decide) rfl (congrArg Value.int (zcg (by omega) (rfl))) rfl k_56 ?_
    refine zr_iloadn X 2 dX0_dueAtBest_34 rfl ?_
    refine zr_isub X ((μ (32 * f + 36)) - (zsdC μ f (3))) dX0_dueAtBest_35 rfl ?_
    refine zr_mmax X (zmax (nI (0)) ((μ (32 * f + 36)) - (zsdC μ f (3)))) dX0_dueAtBest_36 k_344 k_345 k_8 k_346 (Nat.le_of_ble_eq_true rfl) (Nat.le_of_ble_eq_true rfl) (zmax_eq _ _) ?_
    exact zr_iret X dX0_dueAtBest_39 ⟨rfl, rfl⟩
  · intro i hi ih7
    refine zr_iloadn X 3 dX0_dueAtBest_7 rfl ?_
    refine zr_iconst X (nI (3)) dX0_dueAtBest_8 (by decide +kernel) ?_
    refine zr_icmp_ge X 29 dX0_dueAtBest_9 (by decide) (fun q => absurd q (nI_ge (by omega) (by omega))) (fun _ => ?_)
    refine zr_iloadn X 2 dX0_dueAtBest_12 rfl ?_
    refine zr_aloadn X 0 dX0_dueAtBest_13 rfl ?_
    refine zr_iloadn X 3 dX0_dueAtBest_14 rfl ?_
    refine zr_aloadn X 1 dX0_dueAtBest_15 rfl ?_
    refine zr_iloadn X 3 dX0_dueAtBest_16 rfl ?_
    refine zr_iald X (j := i) 0 (μ (i + 2)) dX0_dueAtBest_17 (by omega) (sc_set (j := 0) (by omega) (by have := cb_0; omega)) rfl rfl (by omega) (by omega) (zcg (b := i + 2) (by omega) (rfl)) ?_
    refine zr_dVi (C := RX0) (ci := 0) [.int (nI (i)), .int (μ (i + 2))] [.int (zsdC μ f (i))] X (zK_ok A D tc tF tL tM) (d_canUse E μ (f := f) (g := i) (by omega) (by omega) (μ (i + 2))) k_456 k_337 k_338 k_3 k_339 hdX0_canUse ⟨rfl, rfl⟩ ⟨Nat.le_of_ble_eq_true rfl, Nat.le_of_ble_eq_true rfl⟩ (by omega) (sc_firm (j := 0) (i := f) (by omega) (by omega) (by have := cb_0; omega)) rfl rfl rfl (Nat.le_of_ble_eq_true rfl) dX0_dueAtBest_18 ?_
    refine zr_iadd X ((zsdC μ f (i)) + (zcu μ f i (μ (i + 2)))) dX0_dueAtBest_21 rfl ?_
    refine zr_istoren X [1, 2, 0, 3] [(0, .ref (ad (4 * f + 4))), (1, .ref (ad (2))), (2, .int ((zsdC μ f (i)) + (zcu μ f i (μ (i + 2))))), (3, .int (nI (i)))] dX0_dueAtBest_22 (by decide) rfl ?_
    refine zr_iinc X 3 (nI (i + 1)) [1, 2, 3, 0] [(0, .ref (ad (4 * f + 4))), (1, .ref (ad (2))), (2, .int ((zsdC μ f (i)) + (zcu μ f i (μ (i + 2))))), (3, .int (nI (i + 1)))] dX0_dueAtBest_23 rfl (zinc _) (by decide) rfl ?_
    refine zr_goto X 7 dX0_dueAtBest_26 (by decide) ?_
    exact ih7

set_option maxHeartbeats 4000000 in
set_option maxRecDepth 100000 in
theorem d_closeYear {l : Launch} {D : va_G} {tc : Nat → ClassId} {ad : Nat → Nat} {A : Nat → Prop} {tF tL tM : Nat} (E : zN 299 A ad) (μ : Nat → Int32) {f : Nat} (hf : f < 8)  : zMv l yX0_closeYear cX0_closeYear 3 (zrm 1) (zK A D tc tF tL tM) A D vwCl tc ad 299 shC [.ref (ad (4 * f + 4))] μ (fun u => u = zcf μ f) := by
  refine zM_of RX0 [(0, .ref (ad (4 * f + 4)))] (zK_ok A D tc tF tL tM) E.1 E.2 owC_ok (by decide +kernel) rfl (Nat.le_of_ble_eq_true rfl) rfl ?_
  intro pP eE sS mM aS bL mT cO X
  refine zr_aloadn X 0 dX0_closeYear_0 rfl ?_
  refine zr_get X (ci := 0) (q := 3) zI (.int (μ (32 * f + 33))) dX0_closeYear_1 (by omega) (sc_firm (j := 0) (i := f) (by omega) (by omega) (by have := cb_0; omega)) rfl inX0 (by decide) rfl (congrArg Value.int (zcg (by omega) (rfl))) rfl k_50 ?_
  refine zr_bipush X (nI (9)) dX0_closeYear_4 (by decide +kernel) ?_
  refine zr_iadd X ((μ (32 * f + 33)) + (nI (9))) dX0_closeYear_6 rfl ?_
  refine zr_bipush X (nI (10)) dX0_closeYear_7 (by decide +kernel) ?_
  refine zr_idiv X (((μ (32 * f + 33)) + (nI (9))) / (nI (10))) dX0_closeYear_9 (by decide +kernel) rfl ?_
  refine zr_istoren X [1, 0] [(0, .ref (ad (4 * f + 4))), (1, .int (((μ (32 * f + 33)) + (nI (9))) / (nI (10))))] dX0_closeYear_10 (by decide) rfl ?_
  refine zr_aloadn X 0 dX0_closeYear_11 rfl ?_
  refine zr_aloadn X 0 dX0_closeYear_12 rfl ?_
  refine zr_get X (ci := 0) (q := 4) zI (.int (μ (32 * f + 34))) dX0_closeYear_13 (by omega) (sc_firm (j := 0) (i := f) (by omega) (by omega) (by have := cb_0; omega)) rfl inX0 (by decide) rfl (congrArg Value.int (zcg (by omega) (rfl))) rfl k_52 ?_
  refine zr_aloadn X 0 dX0_closeYear_16 rfl ?_
  refine zr_get X (ci := 0) (q := 3) zI (.int (μ (32 * f + 33))) dX0_closeYear_17 (by omega) (sc_firm (j := 0) (i := f) (by omega) (by omega) (by have := cb_0; omega)) rfl inX0 (by decide) rfl (congrArg Value.int (zcg (by omega) (rfl))) rfl k_50 ?_
  refine zr_iadd X ((μ (32 * f + 34)) + (μ (32 * f + 33))) dX0_closeYear_20 rfl ?_
  refine zr_iloadn X 1 dX0_closeYear_21 rfl ?_
  refine zr_iadd X (((μ (32 * f + 34)) + (μ (32 * f + 33))) + (((μ (32 * f + 33)) + (nI (9))) / (nI (10)))) dX0_closeYear_22 rfl ?_
  refine zr_put X (ci := 0) (q := 5) (ty0 := tyX0) (ty := .int) (32 * f + 35) dX0_closeYear_23 (by omega) (sc_firm (j := 0) (i := f) (by omega) (by omega) (by have := cb_0; omega)) rfl inX0 tyX0_ok nmX0 (by decide) rfl rfl rfl rfl rfl rfl k_54 (by omega) ?_
  refine zr_aloadn X 0 dX0_closeYear_26 rfl ?_
  refine zr_dup X dX0_closeYear_27 rfl ?_
  refine zr_get X (ci := 0) (q := 6) zI (.int (μ (32 * f + 36))) dX0_closeYear_28 (by omega) (sc_firm (j := 0) (i := f) (by omega) (by omega) (by have := cb_0; omega)) rfl inX0 (by decide) rfl (congrArg Value.int (zcg (by omega) ((pk_un (by omega)).trans (rfl)))) rfl k_56 ?_
  refine zr_aloadn X 0 dX0_closeYear_31 rfl ?_
  refine zr_get X (ci := 0) (q := 5) zI (.int (((μ (32 * f + 34)) + (μ (32 * f + 33))) + (((μ (32 * f + 33)) + (nI (9))) / (nI (10))))) dX0_closeYear_32 (by omega) (sc_firm (j := 0) (i := f) (by omega) (by omega) (by have := cb_0; omega)) rfl inX0 (by decide) rfl (congrArg Value.int (zcg (by omega) (pk_us))) rfl k_54 ?_
  refine zr_iadd X ((μ (32 * f + 36)) + (((μ (32 * f + 34)) + (μ (32 * f + 33))) + (((μ (32 * f + 33)) + (nI (9))) / (nI (10))))) dX0_closeYear_35 rfl ?_
  refine zr_put X (ci := 0) (q := 6) (ty0 := tyX0) (ty := .int) (32 * f + 36) dX0_closeYear_36 (by omega) (sc_firm (j := 0) (i := f) (by omega) (by omega) (by have := cb_0; omega)) rfl inX0 tyX0_ok nmX0 (by decide) rfl rfl rfl rfl rfl rfl k_56 (by omega) ?_
  refine zr_aloadn X 0 dX0_closeYear_39 rfl ?_
  refine zr_iconst X (nI (0)) dX0_closeYear_40 (by decide +kernel) ?_
  refine zr_put X (ci := 0) (q := 3) (ty0 := tyX0) (ty := .int) (32 * f + 33) dX0_closeYear_41 (by omega) (sc_firm (j := 0) (i := f) (by omega) (by omega) (by have := cb_0; omega)) rfl inX0 tyX0_ok nmX0 (by decide) rfl rfl rfl rfl rfl rfl k_50 (by omega) ?_
  refine zr_aloadn X 0 dX0_closeYear_44 rfl ?_
  refine zr_iconst X (nI (0)) dX0_closeYear_45 (by decide +kernel) ?_
  refine zr_put X (ci := 0) (q := 4) (ty0 := tyX0) (ty := .int) (32 * f + 34) dX0_closeYear_46 (by omega) (sc_firm (j := 0) (i := f) (by omega) (by omega) (by have := cb_0; omega)) rfl inX0 tyX0_ok nmX0 (by decide) rfl rfl rfl rfl rfl rfl k_52 (by omega) ?_
  refine zr_iconst X (nI (0)) dX0_closeYear_49 (by decide +kernel) ?_
  refine zr_istoren X [1, 2, 0] [(0, .ref (ad (4 * f + 4))), (1, .int (((μ (32 * f + 33)) + (nI (9))) / (nI (10)))), (2, .int (nI (0)))] dX0_closeYear_50 (by decide) rfl ?_
  refine zr_iloadn X 2 dX0_closeYear_51 rfl ?_
  refine zr_iconst X (nI (3)) dX0_closeYear_52 (by decide +kernel) ?_
  refine zr_icmp_ge X 69 dX0_closeYear_53 (by decide) (fun q => absurd q (nI_ge (by omega) (by omega))) (fun _ => ?_)
  refine zr_aloadn X 0 dX0_closeYear_56 rfl ?_
  refine zr_get X (ci := 0) (q := 2) (zR _) (.ref (ad (4 * f + 7))) dX0_closeYear_57 (by omega) (sc_firm (j := 0) (i := f) (by omega) (by omega) (by have := cb_0; omega)) rfl inX0 (by decide) rfl (zvR (by have := cb_0; omega)) rfl k_47 ?_
  refine zr_iloadn X 2 dX0_closeYear_60 rfl ?_
  refine zr_iconst X (nI (0)) dX0_closeYear_61 (by decide +kernel) ?_
  refine zr_iast X (j := 0) 0 (32 * f + 30) dX0_closeYear_62 (by omega) (sc_used (j := 0) (i := f) (by omega) (by omega) (by have := cb_0; omega)) rfl rfl (by omega) (by omega) (by omega) ?_
  refine zr_iinc X 2 (nI (1)) [1, 2, 0] [(0, .ref (ad (4 * f + 4))), (1, .int (((μ (32 * f + 33)) + (nI (9))) / (nI (10)))), (2, .int (nI (1)))] dX0_closeYear_63 rfl (zinc _) (by decide) rfl ?_
  refine zr_goto X 51 dX0_closeYear_66 (by decide) ?_
  refine zr_iloadn X 2 dX0_closeYear_51 rfl ?_
  refine zr_iconst X (nI (3)) dX0_closeYear_52 (by decide +kernel) ?_
  refine zr_icmp_ge X 69 dX0_closeYear_53 (by decide) (fun q => absurd q (nI_ge (by omega) (by omega))) (fun _ => ?_)
  refine zr_aloadn X 0 dX0_closeYear_56 rfl ?_
  refine zr_get X (ci := 0) (q := 2) (zR _) (.ref (ad (4 * f + 7))) dX0_closeYear_57 (by omega) (sc_firm (j := 0) (i := f) (by omega) (by omega) (by have := cb_0; omega)) rfl inX0 (by decide) rfl (zvR (by have := cb_0; omega)) rfl k_47 ?_
  refine zr_iloadn X 2 dX0_closeYear_60 rfl ?_
  refine zr_iconst X (nI (0)) dX0_closeYear_61 (by decide +kernel) ?_
  refine zr_iast X (j := 1) 0 (32 * f + 31) dX0_closeYear_62 (by omega) (sc_used (j := 0) (i := f) (by omega) (by omega) (by have := cb_0; omega)) rfl rfl (by omega) (by omega) (by omega) ?_
  refine zr_iinc X 2 (nI (2)) [1, 2, 0] [(0, .ref (ad (4 * f + 4))), (1, .int (((μ (32 * f + 33)) + (nI (9))) / (nI (10)))), (2, .int (nI (2)))] dX0_closeYear_63 rfl (zinc _) (by decide) rfl ?_
  refine zr_goto X 51 dX0_closeYear_66 (by decide) ?_
  refine zr_iloadn X 2 dX0_closeYear_51 rfl ?_
  refine zr_iconst X (nI (3)) dX0_closeYear_52 (by decide +kernel) ?_
  refine zr_icmp_ge X 69 dX0_closeYear_53 (by decide) (fun q => absurd q (nI_ge (by omega) (by omega))) (fun _ => ?_)
  refine zr_aloadn X 0 dX0_closeYear_56 rfl ?_
  refine zr_get X (ci := 0) (q := 2) (zR _) (.ref (ad (4 * f + 7))) dX0_closeYear_57 (by omega) (sc_firm (j := 0) (i := f) (by omega) (by omega) (by have := cb_0; omega)) rfl inX0 (by decide) rfl (zvR (by have := cb_0; omega)) rfl k_47 ?_
  refine zr_iloadn X 2 dX0_closeYear_60 rfl ?_
  refine zr_iconst X (nI (0)) dX0_closeYear_61 (by decide +kernel) ?_
  refine zr_iast X (j := 2) 0 (32 * f + 32) dX0_closeYear_62 (by omega) (sc_used (j := 0) (i := f) (by omega) (by omega) (by have := cb_0; omega)) rfl rfl (by omega) (by omega) (by omega) ?_
  refine zr_iinc X 2 (nI (3)) [1, 2, 0] [(0, .ref (ad (4 * f + 4))), (1, .int (((μ (32 * f + 33)) + (nI (9))) / (nI (10)))), (2, .int (nI (3)))] dX0_closeYear_63 rfl (zinc _) (by decide) rfl ?_
  refine zr_goto X 51 dX0_closeYear_66 (by decide) ?_
  refine zr_iloadn X 2 dX0_closeYear_51 rfl ?_
  refine zr_iconst X (nI (3)) dX0_closeYear_52 (by decide +kernel) ?_
  refine zr_icmp_ge X 69 dX0_closeYear_53 (by decide) (fun _ => ?_) (fun q => absurd (zq_le (by omega) (by omega)) q)
  exact zr_vret X dX0_closeYear_69 rfl

