/-- the present state's month, its firms; where the history's rows stand, how many they are -/
def clsS (μ : Nat → Int32) (m c r z : Nat) : Prop := μ 0 = nI m ∧ m < 240 ∧ μ 1 = nI c ∧ c ≤ 8 ∧ μ 2452 = nI r ∧ r < 4 ∧ μ 2451 = nI z ∧ z ≤ 4
theorem d_mv {l : Launch} {D : va_G} {tc : Nat → ClassId} {ad : Nat → Nat} {A : Nat → Prop} {tF tL tM : Nat} (E : zN 299 A ad) (μ : Nat → Int32) {c : Nat} (hc : μ 1 = nI c) (h8 : c ≤ 8) {f f2 : Nat} (hf : f < c) (hf2 : f2 < c) {v : Nat} (hv : v ≤ 19) {t : Int32} (hne : f ≠ f2) {pa pb : Nat} (ea : 32 * f + v + 7 = pa) (eb : 32 * f2 + v + 7 = pb) {xa xb : Int32} (ha : μ pa = xa) (hb : μ pb = xb) : zMi l yX2_move cX2_move 7 (some .int) (zrm 2) (zK A D tc tF tL tM) A D vwCl tc ad 299 shC [.ref (ad 1), .int (nI (f)), .int (nI (f2)), .int (nI (v)), .int t] μ (fun r u => r = xa - t ∧ u = upd (upd μ pa (xa - t)) pb (xb + t)) := by
  subst ea; subst eb; subst ha; subst hb
  exact d_move0 E μ hc h8 hf hf2 hv hne
set_option maxHeartbeats 4000000 in
set_option maxRecDepth 100000 in
theorem d_addFirm_full {l : Launch} {D : va_G} {tc : Nat → ClassId} {ad : Nat → Nat} {A : Nat → Prop} {tF tL tM : Nat} (E : zN 299 A ad) (μ : Nat → Int32) {m c ro z : Nat} (S : clsS μ m c ro z) (h : c = 8) : zMi l yX5_addFirm cX5_addFirm 1 (some .int) (zrm 5) (zK A D tc tF tL tM) A D vwCl tc ad 299 shC [.ref (ad (0))] μ (fun r u => r = -3 ∧ u = μ) := by
  refine zM_of RX5 [(0, .ref (ad (0)))] (zK_ok A D tc tF tL tM) E.1 E.2 owC_ok (by decide +kernel) rfl (Nat.le_of_ble_eq_true rfl) rfl ?_
  intro pP eE sS mM aS bL mT cO X
  obtain ⟨hm, hm2, hc, h8, hr, hr4, hz, hz4⟩ := S
  refine zr_aloadn X 0 dX5_addFirm_0 rfl ?_
  refine zr_get X (ci := 5) (q := 0) (zR _) (.ref (ad (1))) dX5_addFirm_1 (by omega) sc_0 rfl inX5 (by decide) rfl (zvR rfl) rfl k_215 ?_
  refine zr_get X (ci := 2) (q := 1) zI (.int (nI (c))) dX5_addFirm_4 (by omega) (sc_st (j := 0) (by omega) (by have := cb_0; omega)) rfl inX2 (by decide) rfl (congrArg Value.int (hc)) rfl k_84 ?_
  refine zr_bipush X (nI (8)) dX5_addFirm_7 (by decide +kernel) ?_
  refine zr_icmp_lt X 15 dX5_addFirm_9 (by decide) (fun q => absurd q (nI_nlt (by omega) (by omega))) (fun _ => ?_)
  refine zr_bipush X (-3) dX5_addFirm_12 (by decide +kernel) ?_
  exact zr_iret X dX5_addFirm_14 ⟨rfl, rfl⟩

set_option maxHeartbeats 4000000 in
set_option maxRecDepth 100000 in
theorem d_addFirm_ok {l : Launch} {D : va_G} {tc : Nat → ClassId} {ad : Nat → Nat} {A : Nat → Prop} {tF tL tM : Nat} (E : zN 299 A ad) (μ : Nat → Int32) {m c ro z : Nat} (S : clsS μ m c ro z) (h : c < 8) : zMi l yX5_addFirm cX5_addFirm 1 (some .int) (zrm 5) (zK A D tc tF tL tM) A D vwCl tc ad 299 shC [.ref (ad (0))] μ (fun r u => r = nI c ∧ u = (upd (zpush μ (ro) (z)) (1) (nI (c + 1)))) := by
  refine zM_of RX5 [(0, .ref (ad (0)))] (zK_ok A D tc tF tL tM) E.1 E.2 owC_ok (by decide +kernel) rfl (Nat.le_of_ble_eq_true rfl) rfl ?_
  intro pP eE sS mM aS bL mT cO X
  obtain ⟨hm, hm2, hc, h8, hr, hr4, hz, hz4⟩ := S
  refine zr_aloadn X 0 dX5_addFirm_0 rfl ?_
  refine zr_get X (ci := 5) (q := 0) (zR _) (.ref (ad (1))) dX5_addFirm_1 (by omega) sc_0 rfl inX5 (by decide) rfl (zvR rfl) rfl k_215 ?_
  refine zr_get X (ci := 2) (q := 1) zI (.int (nI (c))) dX5_addFirm_4 (by omega) (sc_st (j := 0) (by omega) (by have := cb_0; omega)) rfl inX2 (by decide) rfl (congrArg Value.int (hc)) rfl k_84 ?_
  refine zr_bipush X (nI (8)) dX5_addFirm_7 (by decide +kernel) ?_
  refine zr_icmp_lt X 15 dX5_addFirm_9 (by decide) (fun _ => ?_) (fun q => absurd (nI_lt (by omega) (by omega)) q)
  refine zr_aloadn X 0 dX5_addFirm_15 rfl ?_
  refine zr_get X (ci := 5) (q := 3) (zR _) (.ref (ad (124))) dX5_addFirm_16 (by omega) sc_0 rfl inX5 (by decide) rfl (zvR rfl) rfl k_218 ?_
  refine zr_aloadn X 0 dX5_addFirm_19 rfl ?_
  refine zr_get X (ci := 5) (q := 0) (zR _) (.ref (ad (1))) dX5_addFirm_20 (by omega) sc_0 rfl inX5 (by decide) rfl (zvR rfl) rfl k_215 ?_
  refine zr_dVv (C := RX1) (ci := 1) [.ref (ad (1))] [] X (zK_ok A D tc tF tL tM) (d_push E μ (hr) hr4 (hz) hz4) k_241 k_242 k_243 k_4 k_244 hdX1_push ⟨rfl, rfl⟩ ⟨Nat.le_of_ble_eq_true rfl, Nat.le_of_ble_eq_true rfl⟩ (by omega) sc_124 rfl rfl rfl (Nat.le_of_ble_eq_true rfl) dX5_addFirm_23 ?_
  refine zr_aloadn X 0 dX5_addFirm_26 rfl ?_
  refine zr_get X (ci := 5) (q := 0) (zR _) (.ref (ad (1))) dX5_addFirm_27 (by omega) sc_0 rfl inX5 (by decide) rfl (zvR rfl) rfl k_215 ?_
  refine zr_dup X dX5_addFirm_30 rfl ?_
  refine zr_get X (ci := 2) (q := 1) zI (.int (nI (c))) dX5_addFirm_31 (by omega) (sc_st (j := 0) (by omega) (by have := cb_0; omega)) rfl inX2 (by decide) rfl (congrArg Value.int ((zpush_lo (by omega) hr4).trans (hc))) rfl k_84 ?_
  refine zr_iconst X (nI (1)) dX5_addFirm_34 (by decide +kernel) ?_
  refine zr_iadd X (nI (c + 1)) dX5_addFirm_35 (nI_add _ _) ?_
  refine zr_put X (ci := 2) (q := 1) (ty0 := tyX2) (ty := .int) (1) dX5_addFirm_36 (by omega) (sc_st (j := 0) (by omega) (by have := cb_0; omega)) rfl inX2 tyX2_ok nmX2 (by decide) rfl rfl rfl rfl rfl rfl k_84 (by omega) ?_
  refine zr_aloadn X 0 dX5_addFirm_39 rfl ?_
  refine zr_get X (ci := 5) (q := 0) (zR _) (.ref (ad (1))) dX5_addFirm_40 (by omega) sc_0 rfl inX5 (by decide) rfl (zvR rfl) rfl k_215 ?_
  refine zr_get X (ci := 2) (q := 1) zI (.int (nI (c + 1))) dX5_addFirm_43 (by omega) (sc_st (j := 0) (by omega) (by have := cb_0; omega)) rfl inX2 (by decide) rfl (congrArg Value.int (pk_us)) rfl k_84 ?_
  refine zr_iconst X (nI (1)) dX5_addFirm_46 (by decide +kernel) ?_
  refine zr_isub X (nI (c)) dX5_addFirm_47 ((pk_sub (by omega)).trans (congrArg nI (by omega))) ?_
  exact zr_iret X dX5_addFirm_48 ⟨rfl, rfl⟩

set_option maxHeartbeats 4000000 in
set_option maxRecDepth 100000 in
theorem d_set_bad0 {l : Launch} {D : va_G} {tc : Nat → ClassId} {ad : Nat → Nat} {A : Nat → Prop} {tF tL tM : Nat} (E : zN 299 A ad) (μ : Nat → Int32) {m c ro z : Nat} (S : clsS μ m c ro z) {x : Int32} (hx : ¬ zin x 0 100)  : zMi l yX5_set cX5_set 4 (some .int) (zrm 5) (zK A D tc tF tL tM) A D vwCl tc ad 299 shC [.ref (ad (0)), .int (nI (0)), .int (x)] μ (fun r u => r = -2 ∧ u = μ) := by
  refine zM_of RX5 [(0, .ref (ad (0))), (1, .int (nI (0))), (2, .int (x))] (zK_ok A D tc tF tL tM) E.1 E.2 owC_ok (by decide +kernel) rfl (Nat.le_of_ble_eq_true rfl) rfl ?_
  intro pP eE sS mM aS bL mT cO X
  obtain ⟨hm, hm2, hc, h8, hr, hr4, hz, hz4⟩ := S
  refine zr_iloadn X 1 dX5_set_0 rfl ?_
  refine zr_if_lt X 27 dX5_set_1 (by decide) (fun q => absurd q (nI_pos (by omega))) (fun _ => ?_)
  refine zr_iloadn X 1 dX5_set_4 rfl ?_
  refine zr_iconst X (nI (5)) dX5_set_5 (by decide +kernel) ?_
  refine zr_icmp_ge X 27 dX5_set_6 (by decide) (fun q => absurd q (nI_ge (by omega) (by omega))) (fun _ => ?_)
  refine zr_iloadn X 2 dX5_set_9 rfl ?_
  refine zr_gets X X.2.2.2.2.2.2.2.2.2.2.2.2.2.2.2.1 k_265 dX5_set_10 ?_
  refine zr_iloadn X 1 dX5_set_13 rfl ?_
  refine zr_tiald X 0 (nI 0) X.2.2.2.2.2.2.2.2.2.2.2.2.2.2.2.2.1 rfl (by omega) (by omega) (congrArg Value.int (by decide +kernel)) dX5_set_14 ?_
  refine zr_icmp_lt X 27 dX5_set_15 (by decide) (fun h15 => ?_) (fun h15 => ?_)
  · refine zr_bipush X (-2) dX5_set_27 (by decide +kernel) ?_
    exact zr_iret X dX5_set_29 ⟨rfl, rfl⟩
  · refine zr_iloadn X 2 dX5_set_18 rfl ?_
    refine zr_gets X X.2.2.2.2.2.2.2.2.2.2.2.2.2.2.2.2.2.1 k_267 dX5_set_19 ?_
    refine zr_iloadn X 1 dX5_set_22 rfl ?_
    refine zr_tiald X 0 (nI 100) X.2.2.2.2.2.2.2.2.2.2.2.2.2.2.2.2.2.2 rfl (by omega) (by omega) (congrArg Value.int (by decide +kernel)) dX5_set_23 ?_
    refine zr_icmp_le X 30 dX5_set_24 (by decide) (fun q => absurd q (fun q => hx (zin_of (by omega) (Int32.not_lt.mp h15) q (by omega)))) (fun _ => ?_)
    refine zr_bipush X (-2) dX5_set_27 (by decide +kernel) ?_
    exact zr_iret X dX5_set_29 ⟨rfl, rfl⟩

set_option maxHeartbeats 4000000 in
set_option maxRecDepth 100000 in
theorem d_set_none0 {l : Launch} {D : va_G} {tc : Nat → ClassId} {ad : Nat → Nat} {A : Nat → Prop} {tF tL tM : Nat} (E : zN 299 A ad) (μ : Nat → Int32) {m c ro z : Nat} (S : clsS μ m c ro z) {v : Nat} (h1 : 0 ≤ v) (h2 : v ≤ 100) (h : μ 2 = nI v) : zMi l yX5_set cX5_set 4 (some .int) (zrm 5) (zK A D tc tF tL tM) A D vwCl tc ad 299 shC [.ref (ad (0)), .int (nI (0)), .int (nI (v))] μ (fun r u => r = -5 ∧ u = μ) := by
  refine zM_of RX5 [(0, .ref (ad (0))), (1, .int (nI (0))), (2, .int (nI (v)))] (zK_ok A D tc tF tL tM) E.1 E.2 owC_ok (by decide +kernel) rfl (Nat.le_of_ble_eq_true rfl) rfl ?_
  intro pP eE sS mM aS bL mT cO X
  obtain ⟨hm, hm2, hc, h8, hr, hr4, hz, hz4⟩ := S
  refine zr_iloadn X 1 dX5_set_0 rfl ?_
  refine zr_if_lt X 27 dX5_set_1 (by decide) (fun q => absurd q (nI_pos (by omega))) (fun _ => ?_)
  refine zr_iloadn X 1 dX5_set_4 rfl ?_
  refine zr_iconst X (nI (5)) dX5_set_5 (by decide +kernel) ?_
  refine zr_icmp_ge X 27 dX5_set_6 (by decide) (fun q => absurd q (nI_ge (by omega) (by omega))) (fun _ => ?_)
  refine zr_iloadn X 2 dX5_set_9 rfl ?_
  refine zr_gets X X.2.2.2.2.2.2.2.2.2.2.2.2.2.2.2.1 k_265 dX5_set_10 ?_
  refine zr_iloadn X 1 dX5_set_13 rfl ?_
  refine zr_tiald X 0 (nI 0) X.2.2.2.2.2.2.2.2.2.2.2.2.2.2.2.2.1 rfl (by omega) (by omega) (congrArg Value.int (by decide +kernel)) dX5_set_14 ?_
  refine zr_icmp_lt X 27 dX5_set_15 (by decide) (fun q => absurd q (nI_nlt (by omega) (by omega))) (fun _ => ?_)
  refine zr_iloadn X 2 dX5_set_18 rfl ?_
  refine zr_gets X X.2.2.2.2.2.2.2.2.2.2.2.2.2.2.2.2.2.1 k_267 dX5_set_19 ?_
  refine zr_iloadn X 1 dX5_set_22 rfl ?_
  refine zr_tiald X 0 (nI 100) X.2.2.2.2.2.2.2.2.2.2.2.2.2.2.2.2.2.2 rfl (by omega) (by omega) (congrArg Value.int (by decide +kernel)) dX5_set_23 ?_
  refine zr_icmp_le X 30 dX5_set_24 (by decide) (fun _ => ?_) (fun q => absurd (zq_le (by omega) (by omega)) q)
  refine zr_aloadn X 0 dX5_set_30 rfl ?_
  refine zr_get X (ci := 5) (q := 0) (zR _) (.ref (ad (1))) dX5_set_31 (by omega) sc_0 rfl inX5 (by decide) rfl (zvR rfl) rfl k_215 ?_
  refine zr_get X (ci := 2) (q := 2) (zR _) (.ref (ad (2))) dX5_set_34 (by omega) (sc_st (j := 0) (by omega) (by have := cb_0; omega)) rfl inX2 (by decide) rfl (zvR (by have := cb_0; omega)) rfl k_87 ?_
  refine zr_iloadn X 1 dX5_set_37 rfl ?_
  refine zr_iald X (j := 0) 0 (μ (2)) dX5_set_38 (by omega) (sc_set (j := 0) (by omega) (by have := cb_0; omega)) rfl rfl (by omega) (by omega) (zcg (b := 2) (by omega) (rfl)) ?_
  refine zr_istoren X [1, 2, 3, 0] [(0, .ref (ad (0))), (1, .int (nI (0))), (2, .int (nI (v))), (3, .int (μ (2)))] dX5_set_39 (by decide) rfl ?_
  refine zr_iloadn X 2 dX5_set_40 rfl ?_
  refine zr_iloadn X 3 dX5_set_41 rfl ?_
  refine zr_icmp_ne X 48 dX5_set_42 (by decide) (fun q => absurd (h.symm) q) (fun _ => ?_)
  refine zr_bipush X (-5) dX5_set_45 (by decide +kernel) ?_
  exact zr_iret X dX5_set_47 ⟨rfl, rfl⟩

set_option maxHeartbeats 4000000 in
set_option maxRecDepth 100000 in
theorem d_set_ok0 {l : Launch} {D : va_G} {tc : Nat → ClassId} {ad : Nat → Nat} {A : Nat → Prop} {tF tL tM : Nat} (E : zN 299 A ad) (μ : Nat → Int32) {m c ro z : Nat} (S : clsS μ m c ro z) {v : Nat} (h1 : 0 ≤ v) (h2 : v ≤ 100) (h : ¬ μ 2 = nI v) : zMi l yX5_set cX5_set 4 (some .int) (zrm 5) (zK A D tc tF tL tM) A D vwCl tc ad 299 shC [.ref (ad (0)), .int (nI (0)), .int (nI (v))] μ (fun r u => r = μ 2 ∧ u = (upd (zpush μ (ro) (z)) (2) (nI (v)))) := by
  refine zM_of RX5 [(0, .ref (ad (0))), (1, .int (nI (0))), (2, .int (nI (v)))] (zK_ok A D tc tF tL tM) E.1 E.2 owC_ok (by decide +kernel) rfl (Nat.le_of_ble_eq_true rfl) rfl ?_
  intro pP eE sS mM aS bL mT cO X
  obtain ⟨hm, hm2, hc, h8, hr, hr4, hz, hz4⟩ := S
  refine zr_iloadn X 1 dX5_set_0 rfl ?_
  refine zr_if_lt X 27 dX5_set_1 (by decide) (fun q => absurd q (nI_pos (by omega))) (fun _ => ?_)
  refine zr_iloadn X 1 dX5_set_4 rfl ?_
  refine zr_iconst X (nI (5)) dX5_set_5 (by decide +kernel) ?_
  refine zr_icmp_ge X 27 dX5_set_6 (by decide) (fun q => absurd q (nI_ge (by omega) (by omega))) (fun _ => ?_)
  refine zr_iloadn X 2 dX5_set_9 rfl ?_
  refine zr_gets X X.2.2.2.2.2.2.2.2.2.2.2.2.2.2.2.1 k_265 dX5_set_10 ?_
  refine zr_iloadn X 1 dX5_set_13 rfl ?_
  refine zr_tiald X 0 (nI 0) X.2.2.2.2.2.2.2.2.2.2.2.2.2.2.2.2.1 rfl (by omega) (by omega) (congrArg Value.int (by decide +kernel)) dX5_set_14 ?_
  refine zr_icmp_lt X 27 dX5_set_15 (by decide) (fun q => absurd q (nI_nlt (by omega) (by omega))) (fun _ => ?_)
  refine zr_iloadn X 2 dX5_set_18 rfl ?_
  refine zr_gets X X.2.2.2.2.2.2.2.2.2.2.2.2.2.2.2.2.2.1 k_267 dX5_set_19 ?_
  refine zr_iloadn X 1 dX5_set_22 rfl ?_
  refine zr_tiald X 0 (nI 100) X.2.2.2.2.2.2.2.2.2.2.2.2.2.2.2.2.2.2 rfl (by omega) (by omega) (congrArg Value.int (by decide +kernel)) dX5_set_23 ?_
  refine zr_icmp_le X 30 dX5_set_24 (by decide) (fun _ => ?_) (fun q => absurd (zq_le (by omega) (by omega)) q)
  refine zr_aloadn X 0 dX5_set_30 rfl ?_
  refine zr_get X (ci := 5) (q := 0) (zR _) (.ref (ad (1))) dX5_set_31 (by omega) sc_0 rfl inX5 (by decide) rfl (zvR rfl) rfl k_215 ?_
  refine zr_get X (ci := 2) (q := 2) (zR _) (.ref (ad (2))) dX5_set_34 (by omega) (sc_st (j := 0) (by omega) (by have := cb_0; omega)) rfl inX2 (by decide) rfl (zvR (by have := cb_0; omega)) rfl k_87 ?_
  refine zr_iloadn X 1 dX5_set_37 rfl ?_
  refine zr_iald X (j := 0) 0 (μ (2)) dX5_set_38 (by omega) (sc_set (j := 0) (by omega) (by have := cb_0; omega)) rfl rfl (by omega) (by omega) (zcg (b := 2) (by omega) (rfl)) ?_
  refine zr_istoren X [1, 2, 3, 0] [(0, .ref (ad (0))), (1, .int (nI (0))), (2, .int (nI (v))), (3, .int (μ (2)))] dX5_set_39 (by decide) rfl ?_
  refine zr_iloadn X 2 dX5_set_40 rfl ?_
  refine zr_iloadn X 3 dX5_set_41 rfl ?_
  refine zr_icmp_ne X 48 dX5_set_42 (by decide) (fun _ => ?_) (fun q => absurd q (fun q => h q.symm))
  refine zr_aloadn X 0 dX5_set_48 rfl ?_
  refine zr_get X (ci := 5) (q := 3) (zR _) (.ref (ad (124))) dX5_set_49 (by omega) sc_0 rfl inX5 (by decide) rfl (zvR rfl) rfl k_218 ?_
  refine zr_aloadn X 0 dX5_set_52 rfl ?_
  refine zr_get X (ci := 5) (q := 0) (zR _) (.ref (ad (1))) dX5_set_53 (by omega) sc_0 rfl inX5 (by decide) rfl (zvR rfl) rfl k_215 ?_
  refine zr_dVv (C := RX1) (ci := 1) [.ref (ad (1))] [] X (zK_ok A D tc tF tL tM) (d_push E μ (hr) hr4 (hz) hz4) k_241 k_242 k_243 k_4 k_244 hdX1_push ⟨rfl, rfl⟩ ⟨Nat.le_of_ble_eq_true rfl, Nat.le_of_ble_eq_true rfl⟩ (by omega) sc_124 rfl rfl rfl (Nat.le_of_ble_eq_true rfl) dX5_set_56 ?_
  refine zr_aloadn X 0 dX5_set_59 rfl ?_
  refine zr_get X (ci := 5) (q := 0) (zR _) (.ref (ad (1))) dX5_set_60 (by omega) sc_0 rfl inX5 (by decide) rfl (zvR rfl) rfl k_215 ?_
  refine zr_get X (ci := 2) (q := 2) (zR _) (.ref (ad (2))) dX5_set_63 (by omega) (sc_st (j := 0) (by omega) (by have := cb_0; omega)) rfl inX2 (by decide) rfl (zvR (by have := cb_0; omega)) rfl k_87 ?_
  refine zr_iloadn X 1 dX5_set_66 rfl ?_
  refine zr_iloadn X 2 dX5_set_67 rfl ?_
  refine zr_iast X (j := 0) 0 (2) dX5_set_68 (by omega) (sc_set (j := 0) (by omega) (by have := cb_0; omega)) rfl rfl (by omega) (by omega) (by omega) ?_
  refine zr_iloadn X 3 dX5_set_69 rfl ?_
  exact zr_iret X dX5_set_70 ⟨rfl, rfl⟩

set_option maxHeartbeats 4000000 in
set_option maxRecDepth 100000 in
theorem d_set_bad1 {l : Launch} {D : va_G} {tc : Nat → ClassId} {ad : Nat → Nat} {A : Nat → Prop} {tF tL tM : Nat} (E : zN 299 A ad) (μ : Nat → Int32) {m c ro z : Nat} (S : clsS μ m c ro z) {x : Int32} (hx : ¬ zin x 0 100)  : zMi l yX5_set cX5_set 4 (some .int) (zrm 5) (zK A D tc tF tL tM) A D vwCl tc ad 299 shC [.ref (ad (0)), .int (nI (1)), .int (x)] μ (fun r u => r = -2 ∧ u = μ) := by
  refine zM_of RX5 [(0, .ref (ad (0))), (1, .int (nI (1))), (2, .int (x))] (zK_ok A D tc tF tL tM) E.1 E.2 owC_ok (by decide +kernel) rfl (Nat.le_of_ble_eq_true rfl) rfl ?_
  intro pP eE sS mM aS bL mT cO X
  obtain ⟨hm, hm2, hc, h8, hr, hr4, hz, hz4⟩ := S
  refine zr_iloadn X 1 dX5_set_0 rfl ?_
  refine zr_if_lt X 27 dX5_set_1 (by decide) (fun q => absurd q (nI_pos (by omega))) (fun _ => ?_)
  refine zr_iloadn X 1 dX5_set_4 rfl ?_
  refine zr_iconst X (nI (5)) dX5_set_5 (by decide +kernel) ?_
  refine zr_icmp_ge X 27 dX5_set_6 (by decide) (fun q => absurd q (nI_ge (by omega) (by omega))) (fun _ => ?_)
  refine zr_iloadn X 2 dX5_set_9 rfl ?_
  refine zr_gets X X.2.2.2.2.2.2.2.2.2.2.2.2.2.2.2.1 k_265 dX5_set_10 ?_
  refine zr_iloadn X 1 dX5_set_13 rfl ?_
  refine zr_tiald X 1 (nI 0) X.2.2.2.2.2.2.2.2.2.2.2.2.2.2.2.2.1 rfl (by omega) (by omega) (congrArg Value.int (by decide +kernel)) dX5_set_14 ?_
  refine zr_icmp_lt X 27 dX5_set_15 (by decide) (fun h15 => ?_) (fun h15 => ?_)
  · refine zr_bipush X (-2) dX5_set_27 (by decide +kernel) ?_
    exact zr_iret X dX5_set_29 ⟨rfl, rfl⟩
  · refine zr_iloadn X 2 dX5_set_18 rfl ?_
    refine zr_gets X X.2.2.2.2.2.2.2.2.2.2.2.2.2.2.2.2.2.1 k_267 dX5_set_19 ?_
    refine zr_iloadn X 1 dX5_set_22 rfl ?_
    refine zr_tiald X 1 (nI 100) X.2.2.2.2.2.2.2.2.2.2.2.2.2.2.2.2.2.2 rfl (by omega) (by omega) (congrArg Value.int (by decide +kernel)) dX5_set_23 ?_
    refine zr_icmp_le X 30 dX5_set_24 (by decide) (fun q => absurd q (fun q => hx (zin_of (by omega) (Int32.not_lt.mp h15) q (by omega)))) (fun _ => ?_)
    refine zr_bipush X (-2) dX5_set_27 (by decide +kernel) ?_
    exact zr_iret X dX5_set_29 ⟨rfl, rfl⟩

set_option maxHeartbeats 4000000 in
set_option maxRecDepth 100000 in
theorem d_set_none1 {l : Launch} {D : va_G} {tc : Nat → ClassId} {ad : Nat → Nat} {A : Nat → Prop} {tF tL tM : Nat} (E : zN 299 A ad) (μ : Nat → Int32) {m c ro z : Nat} (S : clsS μ m c ro z) {v : Nat} (h1 : 0 ≤ v) (h2 : v ≤ 100) (h : μ 3 = nI v) : zMi l yX5_set cX5_set 4 (some .int) (zrm 5) (zK A D tc tF tL tM) A D vwCl tc ad 299 shC [.ref (ad (0)), .int (nI (1)), .int (nI (v))] μ (fun r u => r = -5 ∧ u = μ) := by
  refine zM_of RX5 [(0, .ref (ad (0))), (1, .int (nI (1))), (2, .int (nI (v)))] (zK_ok A D tc tF tL tM) E.1 E.2 owC_ok (by decide +kernel) rfl (Nat.le_of_ble_eq_true rfl) rfl ?_
  intro pP eE sS mM aS bL mT cO X
  obtain ⟨hm, hm2, hc, h8, hr, hr4, hz, hz4⟩ := S
  refine zr_iloadn X 1 dX5_set_0 rfl ?_
  refine zr_if_lt X 27 dX5_set_1 (by decide) (fun q => absurd q (nI_pos (by omega))) (fun _ => ?_)
  refine zr_iloadn X 1 dX5_set_4 rfl ?_
  refine zr_iconst X (nI (5)) dX5_set_5 (by decide +kernel) ?_
  refine zr_icmp_ge X 27 dX5_set_6 (by decide) (fun q => absurd q (nI_ge (by omega) (by omega))) (fun _ => ?_)
  refine zr_iloadn X 2 dX5_set_9 rfl ?_
  refine zr_gets X X.2.2.2.2.2.2.2.2.2.2.2.2.2.2.2.1 k_265 dX5_set_10 ?_
  refine zr_iloadn X 1 dX5_set_13 rfl ?_
  refine zr_tiald X 1 (nI 0) X.2.2.2.2.2.2.2.2.2.2.2.2.2.2.2.2.1 rfl (by omega) (by omega) (congrArg Value.int (by decide +kernel)) dX5_set_14 ?_
  refine zr_icmp_lt X 27 dX5_set_15 (by decide) (fun q => absurd q (nI_nlt (by omega) (by omega))) (fun _ => ?_)
  refine zr_iloadn X 2 dX5_set_18 rfl ?_
  refine zr_gets X X.2.2.2.2.2.2.2.2.2.2.2.2.2.2.2.2.2.1 k_267 dX5_set_19 ?_
  refine zr_iloadn X 1 dX5_set_22 rfl ?_
  refine zr_tiald X 1 (nI 100) X.2.2.2.2.2.2.2.2.2.2.2.2.2.2.2.2.2.2 rfl (by omega) (by omega) (congrArg Value.int (by decide +kernel)) dX5_set_23 ?_
  refine zr_icmp_le X 30 dX5_set_24 (by decide) (fun _ => ?_) (fun q => absurd (zq_le (by omega) (by omega)) q)
  refine zr_aloadn X 0 dX5_set_30 rfl ?_
  refine zr_get X (ci := 5) (q := 0) (zR _) (.ref (ad (1))) dX5_set_31 (by omega) sc_0 rfl inX5 (by decide) rfl (zvR rfl) rfl k_215 ?_
  refine zr_get X (ci := 2) (q := 2) (zR _) (.ref (ad (2))) dX5_set_34 (by omega) (sc_st (j := 0) (by omega) (by have := cb_0; omega)) rfl inX2 (by decide) rfl (zvR (by have := cb_0; omega)) rfl k_87 ?_
  refine zr_iloadn X 1 dX5_set_37 rfl ?_
  refine zr_iald X (j := 1) 0 (μ (3)) dX5_set_38 (by omega) (sc_set (j := 0) (by omega) (by have := cb_0; omega)) rfl rfl (by omega) (by omega) (zcg (b := 3) (by omega) (rfl)) ?_
  refine zr_istoren X [1, 2, 3, 0] [(0, .ref (ad (0))), (1, .int (nI (1))), (2, .int (nI (v))), (3, .int (μ (3)))] dX5_set_39 (by decide) rfl ?_
  refine zr_iloadn X 2 dX5_set_40 rfl ?_
  refine zr_iloadn X 3 dX5_set_41 rfl ?_
  refine zr_icmp_ne X 48 dX5_set_42 (by decide) (fun q => absurd (h.symm) q) (fun _ => ?_)
  refine zr_bipush X (-5) dX5_set_45 (by decide +kernel) ?_
  exact zr_iret X dX5_set_47 ⟨rfl, rfl⟩

set_option maxHeartbeats 4000000 in
set_option maxRecDepth 100000 in
theorem d_set_ok1 {l : Launch} {D : va_G} {tc : Nat → ClassId} {ad : Nat → Nat} {A : Nat → Prop} {tF tL tM : Nat} (E : zN 299 A ad) (μ : Nat → Int32) {m c ro z : Nat} (S : clsS μ m c ro z) {v : Nat} (h1 : 0 ≤ v) (h2 : v ≤ 100) (h : ¬ μ 3 = nI v) : zMi l yX5_set cX5_set 4 (some .int) (zrm 5) (zK A D tc tF tL tM) A D vwCl tc ad 299 shC [.ref (ad (0)), .int (nI (1)), .int (nI (v))] μ (fun r u => r = μ 3 ∧ u = (upd (zpush μ (ro) (z)) (3) (nI (v)))) := by
  refine zM_of RX5 [(0, .ref (ad (0))), (1, .int (nI (1))), (2, .int (nI (v)))] (zK_ok A D tc tF tL tM) E.1 E.2 owC_ok (by decide +kernel) rfl (Nat.le_of_ble_eq_true rfl) rfl ?_
  intro pP eE sS mM aS bL mT cO X
  obtain ⟨hm, hm2, hc, h8, hr, hr4, hz, hz4⟩ := S
  refine zr_iloadn X 1 dX5_set_0 rfl ?_
  refine zr_if_lt X 27 dX5_set_1 (by decide) (fun q => absurd q (nI_pos (by omega))) (fun _ => ?_)
  refine zr_iloadn X 1 dX5_set_4 rfl ?_
  refine zr_iconst X (nI (5)) dX5_set_5 (by decide +kernel) ?_
  refine zr_icmp_ge X 27 dX5_set_6 (by decide) (fun q => absurd q (nI_ge (by omega) (by omega))) (fun _ => ?_)
  refine zr_iloadn X 2 dX5_set_9 rfl ?_
  refine zr_gets X X.2.2.2.2.2.2.2.2.2.2.2.2.2.2.2.1 k_265 dX5_set_10 ?_
  refine zr_iloadn X 1 dX5_set_13 rfl ?_
  refine zr_tiald X 1 (nI 0) X.2.2.2.2.2.2.2.2.2.2.2.2.2.2.2.2.1 rfl (by omega) (by omega) (congrArg Value.int (by decide +kernel)) dX5_set_14 ?_
  refine zr_icmp_lt X 27 dX5_set_15 (by decide) (fun q => absurd q (nI_nlt (by omega) (by omega))) (fun _ => ?_)
  refine zr_iloadn X 2 dX5_set_18 rfl ?_
  refine zr_gets X X.2.2.2.2.2.2.2.2.2.2.2.2.2.2.2.2.2.1 k_267 dX5_set_19 ?_
  refine zr_iloadn X 1 dX5_set_22 rfl ?_
  refine zr_tiald X 1 (nI 100) X.2.2.2.2.2.2.2.2.2.2.2.2.2.2.2.2.2.2 rfl (by omega) (by omega) (congrArg Value.int (by decide +kernel)) dX5_set_23 ?_
  refine zr_icmp_le X 30 dX5_set_24 (by decide) (fun _ => ?_) (fun q => absurd (zq_le (by omega) (by omega)) q)
  refine zr_aloadn X 0 dX5_set_30 rfl ?_
  refine zr_get X (ci := 5) (q := 0) (zR _) (.ref (ad (1))) dX5_set_31 (by omega) sc_0 rfl inX5 (by decide) rfl (zvR rfl) rfl k_215 ?_
  refine zr_get X (ci := 2) (q := 2) (zR _) (.ref (ad (2))) dX5_set_34 (by omega) (sc_st (j := 0) (by omega) (by have := cb_0; omega)) rfl inX2 (by decide) rfl (zvR (by have := cb_0; omega)) rfl k_87 ?_
  refine zr_iloadn X 1 dX5_set_37 rfl ?_
  refine zr_iald X (j := 1) 0 (μ (3)) dX5_set_38 (by omega) (sc_set (j := 0) (by omega) (by have := cb_0; omega)) rfl rfl (by omega) (by omega) (zcg (b := 3) (by omega) (rfl)) ?_
  refine zr_istoren X [1, 2, 3, 0] [(0, .ref (ad (0))), (1, .int (nI (1))), (2, .int (nI (v))), (3, .int (μ (3)))] dX5_set_39 (by decide) rfl ?_
  refine zr_iloadn X 2 dX5_set_40 rfl ?_
  refine zr_iloadn X 3 dX5_set_41 rfl ?_
  refine zr_icmp_ne X 48 dX5_set_42 (by decide) (fun _ => ?_) (fun q => absurd q (fun q => h q.symm))
  refine zr_aloadn X 0 dX5_set_48 rfl ?_
  refine zr_get X (ci := 5) (q := 3) (zR _) (.ref (ad (124))) dX5_set_49 (by omega) sc_0 rfl inX5 (by decide) rfl (zvR rfl) rfl k_218 ?_
  refine zr_aloadn X 0 dX5_set_52 rfl ?_
  refine zr_get X (ci := 5) (q := 0) (zR _) (.ref (ad (1))) dX5_set_53 (by omega) sc_0 rfl inX5 (by decide) rfl (zvR rfl) rfl k_215 ?_
  refine zr_dVv (C := RX1) (ci := 1) [.ref (ad (1))] [] X (zK_ok A D tc tF tL tM) (d_push E μ (hr) hr4 (hz) hz4) k_241 k_242 k_243 k_4 k_244 hdX1_push ⟨rfl, rfl⟩ ⟨Nat.le_of_ble_eq_true rfl, Nat.le_of_ble_eq_true rfl⟩ (by omega) sc_124 rfl rfl rfl (Nat.le_of_ble_eq_true rfl) dX5_set_56 ?_
  refine zr_aloadn X 0 dX5_set_59 rfl ?_
  refine zr_get X (ci := 5) (q := 0) (zR _) (.ref (ad (1))) dX5_set_60 (by omega) sc_0 rfl inX5 (by decide) rfl (zvR rfl) rfl k_215 ?_
  refine zr_get X (ci := 2) (q := 2) (zR _) (.ref (ad (2))) dX5_set_63 (by omega) (sc_st (j := 0) (by omega) (by have := cb_0; omega)) rfl inX2 (by decide) rfl (zvR (by have := cb_0; omega)) rfl k_87 ?_
  refine zr_iloadn X 1 dX5_set_66 rfl ?_
  refine zr_iloadn X 2 dX5_set_67 rfl ?_
  refine zr_iast X (j := 1) 0 (3) dX5_set_68 (by omega) (sc_set (j := 0) (by omega) (by have := cb_0; omega)) rfl rfl (by omega) (by omega) (by omega) ?_
  refine zr_iloadn X 3 dX5_set_69 rfl ?_
  exact zr_iret X dX5_set_70 ⟨rfl, rfl⟩

set_option maxHeartbeats 4000000 in
set_option maxRecDepth 100000 in
theorem d_set_bad2 {l : Launch} {D : va_G} {tc : Nat → ClassId} {ad : Nat → Nat} {A : Nat → Prop} {tF tL tM : Nat} (E : zN 299 A ad) (μ : Nat → Int32) {m c ro z : Nat} (S : clsS μ m c ro z) {x : Int32} (hx : ¬ zin x 0 100)  : zMi l yX5_set cX5_set 4 (some .int) (zrm 5) (zK A D tc tF tL tM) A D vwCl tc ad 299 shC [.ref (ad (0)), .int (nI (2)), .int (x)] μ (fun r u => r = -2 ∧ u = μ) := by
  refine zM_of RX5 [(0, .ref (ad (0))), (1, .int (nI (2))), (2, .int (x))] (zK_ok A D tc tF tL tM) E.1 E.2 owC_ok (by decide +kernel) rfl (Nat.le_of_ble_eq_true rfl) rfl ?_
  intro pP eE sS mM aS bL mT cO X
  obtain ⟨hm, hm2, hc, h8, hr, hr4, hz, hz4⟩ := S
  refine zr_iloadn X 1 dX5_set_0 rfl ?_
  refine zr_if_lt X 27 dX5_set_1 (by decide) (fun q => absurd q (nI_pos (by omega))) (fun _ => ?_)
  refine zr_iloadn X 1 dX5_set_4 rfl ?_
  refine zr_iconst X (nI (5)) dX5_set_5 (by decide +kernel) ?_
  refine zr_icmp_ge X 27 dX5_set_6 (by decide) (fun q => absurd q (nI_ge (by omega) (by omega))) (fun _ => ?_)
  refine zr_iloadn X 2 dX5_set_9 rfl ?_
  refine zr_gets X X.2.2.2.2.2.2.2.2.2.2.2.2.2.2.2.1 k_265 dX5_set_10 ?_
  refine zr_iloadn X 1 dX5_set_13 rfl ?_
  refine zr_tiald X 2 (nI 0) X.2.2.2.2.2.2.2.2.2.2.2.2.2.2.2.2.1 rfl (by omega) (by omega) (congrArg Value.int (by decide +kernel)) dX5_set_14 ?_
  refine zr_icmp_lt X 27 dX5_set_15 (by decide) (fun h15 => ?_) (fun h15 => ?_)
  · refine zr_bipush X (-2) dX5_set_27 (by decide +kernel) ?_
    exact zr_iret X dX5_set_29 ⟨rfl, rfl⟩
  · refine zr_iloadn X 2 dX5_set_18 rfl ?_
    refine zr_gets X X.2.2.2.2.2.2.2.2.2.2.2.2.2.2.2.2.2.1 k_267 dX5_set_19 ?_
    refine zr_iloadn X 1 dX5_set_22 rfl ?_
    refine zr_tiald X 2 (nI 100) X.2.2.2.2.2.2.2.2.2.2.2.2.2.2.2.2.2.2 rfl (by omega) (by omega) (congrArg Value.int (by decide +kernel)) dX5_set_23 ?_
    refine zr_icmp_le X 30 dX5_set_24 (by decide) (fun q => absurd q (fun q => hx (zin_of (by omega) (Int32.not_lt.mp h15) q (by omega)))) (fun _ => ?_)
    refine zr_bipush X (-2) dX5_set_27 (by decide +kernel) ?_
    exact zr_iret X dX5_set_29 ⟨rfl, rfl⟩

set_option maxHeartbeats 4000000 in
set_option maxRecDepth 100000 in
theorem d_set_none2 {l : Launch} {D : va_G} {tc : Nat → ClassId} {ad : Nat → Nat} {A : Nat → Prop} {tF tL tM : Nat} (E : zN 299 A ad) (μ : Nat → Int32) {m c ro z : Nat} (S : clsS μ m c ro z) {v : Nat} (h1 : 0 ≤ v) (h2 : v ≤ 100) (h : μ 4 = nI v) : zMi l yX5_set cX5_set 4 (some .int) (zrm 5) (zK A D tc tF tL tM) A D vwCl tc ad 299 shC [.ref (ad (0)), .int (nI (2)), .int (nI (v))] μ (fun r u => r = -5 ∧ u = μ) := by
  refine zM_of RX5 [(0, .ref (ad (0))), (1, .int (nI (2))), (2, .int (nI (v)))] (zK_ok A D tc tF tL tM) E.1 E.2 owC_ok (by decide +kernel) rfl (Nat.le_of_ble_eq_true rfl) rfl ?_
  intro pP eE sS mM aS bL mT cO X
  obtain ⟨hm, hm2, hc, h8, hr, hr4, hz, hz4⟩ := S
  refine zr_iloadn X 1 dX5_set_0 rfl ?_
  refine zr_if_lt X 27 dX5_set_1 (by decide) (fun q => absurd q (nI_pos (by omega))) (fun _ => ?_)
  refine zr_iloadn X 1 dX5_set_4 rfl ?_
  refine zr_iconst X (nI (5)) dX5_set_5 (by decide +kernel) ?_
  refine zr_icmp_ge X 27 dX5_set_6 (by decide) (fun q => absurd q (nI_ge (by omega) (by omega))) (fun _ => ?_)
  refine zr_iloadn X 2 dX5_set_9 rfl ?_
  refine zr_gets X X.2.2.2.2.2.2.2.2.2.2.2.2.2.2.2.1 k_265 dX5_set_10 ?_
  refine zr_iloadn X 1 dX5_set_13 rfl ?_
  refine zr_tiald X 2 (nI 0) X.2.2.2.2.2.2.2.2.2.2.2.2.2.2.2.2.1 rfl (by omega) (by omega) (congrArg Value.int (by decide +kernel)) dX5_set_14 ?_
  refine zr_icmp_lt X 27 dX5_set_15 (by decide) (fun q => absurd q (nI_nlt (by omega) (by omega))) (fun _ => ?_)
  refine zr_iloadn X 2 dX5_set_18 rfl ?_
  refine zr_gets X X.2.2.2.2.2.2.2.2.2.2.2.2.2.2.2.2.2.1 k_267 dX5_set_19 ?_
  refine zr_iloadn X 1 dX5_set_22 rfl ?_
  refine zr_tiald X 2 (nI 100) X.2.2.2.2.2.2.2.2.2.2.2.2.2.2.2.2.2.2 rfl (by omega) (by omega) (congrArg Value.int (by decide +kernel)) dX5_set_23 ?_
  refine zr_icmp_le X 30 dX5_set_24 (by decide) (fun _ => ?_) (fun q => absurd (zq_le (by omega) (by omega)) q)
  refine zr_aloadn X 0 dX5_set_30 rfl ?_
  refine zr_get X (ci := 5) (q := 0) (zR _) (.ref (ad (1))) dX5_set_31 (by omega) sc_0 rfl inX5 (by decide) rfl (zvR rfl) rfl k_215 ?_
  refine zr_get X (ci := 2) (q := 2) (zR _) (.ref (ad (2))) dX5_set_34 (by omega) (sc_st (j := 0) (by omega) (by have := cb_0; omega)) rfl inX2 (by decide) rfl (zvR (by have := cb_0; omega)) rfl k_87 ?_
  refine zr_iloadn X 1 dX5_set_37 rfl ?_
  refine zr_iald X (j := 2) 0 (μ (4)) dX5_set_38 (by omega) (sc_set (j := 0) (by omega) (by have := cb_0; omega)) rfl rfl (by omega) (by omega) (zcg (b := 4) (by omega) (rfl)) ?_
  refine zr_istoren X [1, 2, 3, 0] [(0, .ref (ad (0))), (1, .int (nI (2))), (2, .int (nI (v))), (3, .int (μ (4)))] dX5_set_39 (by decide) rfl ?_
  refine zr_iloadn X 2 dX5_set_40 rfl ?_
  refine zr_iloadn X 3 dX5_set_41 rfl ?_
  refine zr_icmp_ne X 48 dX5_set_42 (by decide) (fun q => absurd (h.symm) q) (fun _ => ?_)
  refine zr_bipush X (-5) dX5_set_45 (by decide +kernel) ?_
  exact zr_iret X dX5_set_47 ⟨rfl, rfl⟩

set_option maxHeartbeats 4000000 in
set_option maxRecDepth 100000 in
theorem d_set_ok2 {l : Launch} {D : va_G} {tc : Nat → ClassId} {ad : Nat → Nat} {A : Nat → Prop} {tF tL tM : Nat} (E : zN 299 A ad) (μ : Nat → Int32) {m c ro z : Nat} (S : clsS μ m c ro z) {v : Nat} (h1 : 0 ≤ v) (h2 : v ≤ 100) (h : ¬ μ 4 = nI v) : zMi l yX5_set cX5_set 4 (some .int) (zrm 5) (zK A D tc tF tL tM) A D vwCl tc ad 299 shC [.ref (ad (0)), .int (nI (2)), .int (nI (v))] μ (fun r u => r = μ 4 ∧ u = (upd (zpush μ (ro) (z)) (4) (nI (v)))) := by
  refine zM_of RX5 [(0, .ref (ad (0))), (1, .int (nI (2))), (2, .int (nI (v)))] (zK_ok A D tc tF tL tM) E.1 E.2 owC_ok (by decide +kernel) rfl (Nat.le_of_ble_eq_true rfl) rfl ?_
  intro pP eE sS mM aS bL mT cO X
  obtain ⟨hm, hm2, hc, h8, hr, hr4, hz, hz4⟩ := S
  refine zr_iloadn X 1 dX5_set_0 rfl ?_
  refine zr_if_lt X 27 dX5_set_1 (by decide) (fun q => absurd q (nI_pos (by omega))) (fun _ => ?_)
  refine zr_iloadn X 1 dX5_set_4 rfl ?_
  refine zr_iconst X (nI (5)) dX5_set_5 (by decide +kernel) ?_
  refine zr_icmp_ge X 27 dX5_set_6 (by decide) (fun q => absurd q (nI_ge (by omega) (by omega))) (fun _ => ?_)
  refine zr_iloadn X 2 dX5_set_9 rfl ?_
  refine zr_gets X X.2.2.2.2.2.2.2.2.2.2.2.2.2.2.2.1 k_265 dX5_set_10 ?_
  refine zr_iloadn X 1 dX5_set_13 rfl ?_
  refine zr_tiald X 2 (nI 0) X.2.2.2.2.2.2.2.2.2.2.2.2.2.2.2.2.1 rfl (by omega) (by omega) (congrArg Value.int (by decide +kernel)) dX5_set_14 ?_
  refine zr_icmp_lt X 27 dX5_set_15 (by decide) (fun q => absurd q (nI_nlt (by omega) (by omega))) (fun _ => ?_)
  refine zr_iloadn X 2 dX5_set_18 rfl ?_
  refine zr_gets X X.2.2.2.2.2.2.2.2.2.2.2.2.2.2.2.2.2.1 k_267 dX5_set_19 ?_
  refine zr_iloadn X 1 dX5_set_22 rfl ?_
  refine zr_tiald X 2 (nI 100) X.2.2.2.2.2.2.2.2.2.2.2.2.2.2.2.2.2.2 rfl (by omega) (by omega) (congrArg Value.int (by decide +kernel)) dX5_set_23 ?_
  refine zr_icmp_le X 30 dX5_set_24 (by decide) (fun _ => ?_) (fun q => absurd (zq_le (by omega) (by omega)) q)
  refine zr_aloadn X 0 dX5_set_30 rfl ?_
  refine zr_get X (ci := 5) (q := 0) (zR _) (.ref (ad (1))) dX5_set_31 (by omega) sc_0 rfl inX5 (by decide) rfl (zvR rfl) rfl k_215 ?_
  refine zr_get X (ci := 2) (q := 2) (zR _) (.ref (ad (2))) dX5_set_34 (by omega) (sc_st (j := 0) (by omega) (by have := cb_0; omega)) rfl inX2 (by decide) rfl (zvR (by have := cb_0; omega)) rfl k_87 ?_
  refine zr_iloadn X 1 dX5_set_37 rfl ?_
  refine zr_iald X (j := 2) 0 (μ (4)) dX5_set_38 (by omega) (sc_set (j := 0) (by omega) (by have := cb_0; omega)) rfl rfl (by omega) (by omega) (zcg (b := 4) (by omega) (rfl)) ?_
  refine zr_istoren X [1, 2, 3, 0] [(0, .ref (ad (0))), (1, .int (nI (2))), (2, .int (nI (v))), (3, .int (μ (4)))] dX5_set_39 (by decide) rfl ?_
  refine zr_iloadn X 2 dX5_set_40 rfl ?_
  refine zr_iloadn X 3 dX5_set_41 rfl ?_
  refine zr_icmp_ne X 48 dX5_set_42 (by decide) (fun _ => ?_) (fun q => absurd q (fun q => h q.symm))
  refine zr_aloadn X 0 dX5_set_48 rfl ?_
  refine zr_get X (ci := 5) (q := 3) (zR _) (.ref (ad (124))) dX5_set_49 (by omega) sc_0 rfl inX5 (by decide) rfl (zvR rfl) rfl k_218 ?_
  refine zr_aloadn X 0 dX5_set_52 rfl ?_
  refine zr_get X (ci := 5) (q := 0) (zR _) (.ref (ad (1))) dX5_set_53 (by omega) sc_0 rfl inX5 (by decide) rfl (zvR rfl) rfl k_215 ?_
  refine zr_dVv (C := RX1) (ci := 1) [.ref (ad (1))] [] X (zK_ok A D tc tF tL tM) (d_push E μ (hr) hr4 (hz) hz4) k_241 k_242 k_243 k_4 k_244 hdX1_push ⟨rfl, rfl⟩ ⟨Nat.le_of_ble_eq_true rfl, Nat.le_of_ble_eq_true rfl⟩ (by omega) sc_124 rfl rfl rfl (Nat.le_of_ble_eq_true rfl) dX5_set_56 ?_
  refine zr_aloadn X 0 dX5_set_59 rfl ?_
  refine zr_get X (ci := 5) (q := 0) (zR _) (.ref (ad (1))) dX5_set_60 (by omega) sc_0 rfl inX5 (by decide) rfl (zvR rfl) rfl k_215 ?_
  refine zr_get X (ci := 2) (q := 2) (zR _) (.ref (ad (2))) dX5_set_63 (by omega) (sc_st (j := 0) (by omega) (by have := cb_0; omega)) rfl inX2 (by decide) rfl (zvR (by have := cb_0; omega)) rfl k_87 ?_
  refine zr_iloadn X 1 dX5_set_66 rfl ?_
  refine zr_iloadn X 2 dX5_set_67 rfl ?_
  refine zr_iast X (j := 2) 0 (4) dX5_set_68 (by omega) (sc_set (j := 0) (by omega) (by have := cb_0; omega)) rfl rfl (by omega) (by omega) (by omega) ?_
  refine zr_iloadn X 3 dX5_set_69 rfl ?_
  exact zr_iret X dX5_set_70 ⟨rfl, rfl⟩

set_option maxHeartbeats 4000000 in
set_option maxRecDepth 100000 in
theorem d_set_bad3 {l : Launch} {D : va_G} {tc : Nat → ClassId} {ad : Nat → Nat} {A : Nat → Prop} {tF tL tM : Nat} (E : zN 299 A ad) (μ : Nat → Int32) {m c ro z : Nat} (S : clsS μ m c ro z) {x : Int32} (hx : ¬ zin x 1 5)  : zMi l yX5_set cX5_set 4 (some .int) (zrm 5) (zK A D tc tF tL tM) A D vwCl tc ad 299 shC [.ref (ad (0)), .int (nI (3)), .int (x)] μ (fun r u => r = -2 ∧ u = μ) := by
  refine zM_of RX5 [(0, .ref (ad (0))), (1, .int (nI (3))), (2, .int (x))] (zK_ok A D tc tF tL tM) E.1 E.2 owC_ok (by decide +kernel) rfl (Nat.le_of_ble_eq_true rfl) rfl ?_
  intro pP eE sS mM aS bL mT cO X
  obtain ⟨hm, hm2, hc, h8, hr, hr4, hz, hz4⟩ := S
  refine zr_iloadn X 1 dX5_set_0 rfl ?_
  refine zr_if_lt X 27 dX5_set_1 (by decide) (fun q => absurd q (nI_pos (by omega))) (fun _ => ?_)
  refine zr_iloadn X 1 dX5_set_4 rfl ?_
  refine zr_iconst X (nI (5)) dX5_set_5 (by decide +kernel) ?_
  refine zr_icmp_ge X 27 dX5_set_6 (by decide) (fun q => absurd q (nI_ge (by omega) (by omega))) (fun _ => ?_)
  refine zr_iloadn X 2 dX5_set_9 rfl ?_
  refine zr_gets X X.2.2.2.2.2.2.2.2.2.2.2.2.2.2.2.1 k_265 dX5_set_10 ?_
  refine zr_iloadn X 1 dX5_set_13 rfl ?_
  refine zr_tiald X 3 (nI 1) X.2.2.2.2.2.2.2.2.2.2.2.2.2.2.2.2.1 rfl (by omega) (by omega) (congrArg Value.int (by decide +kernel)) dX5_set_14 ?_
  refine zr_icmp_lt X 27 dX5_set_15 (by decide) (fun h15 => ?_) (fun h15 => ?_)
  · refine zr_bipush X (-2) dX5_set_27 (by decide +kernel) ?_
    exact zr_iret X dX5_set_29 ⟨rfl, rfl⟩
  · refine zr_iloadn X 2 dX5_set_18 rfl ?_
    refine zr_gets X X.2.2.2.2.2.2.2.2.2.2.2.2.2.2.2.2.2.1 k_267 dX5_set_19 ?_
    refine zr_iloadn X 1 dX5_set_22 rfl ?_
    refine zr_tiald X 3 (nI 5) X.2.2.2.2.2.2.2.2.2.2.2.2.2.2.2.2.2.2 rfl (by omega) (by omega) (congrArg Value.int (by decide +kernel)) dX5_set_23 ?_
    refine zr_icmp_le X 30 dX5_set_24 (by decide) (fun q => absurd q (fun q => hx (zin_of (by omega) (Int32.not_lt.mp h15) q (by omega)))) (fun _ => ?_)
    refine zr_bipush X (-2) dX5_set_27 (by decide +kernel) ?_
    exact zr_iret X dX5_set_29 ⟨rfl, rfl⟩

set_option maxHeartbeats 4000000 in
set_option maxRecDepth 100000 in
theorem d_set_none3 {l : Launch} {D : va_G} {tc : Nat → ClassId} {ad : Nat → Nat} {A : Nat → Prop} {tF tL tM : Nat} (E : zN 299 A ad) (μ : Nat → Int32) {m c ro z : Nat} (S : clsS μ m c ro z) {v : Nat} (h1 : 1 ≤ v) (h2 : v ≤ 5) (h : μ 5 = nI v) : zMi l yX5_set cX5_set 4 (some .int) (zrm 5) (zK A D tc tF tL tM) A D vwCl tc ad 299 shC [.ref (ad (0)), .int (nI (3)), .int (nI (v))] μ (fun r u => r = -5 ∧ u = μ) := by
  refine zM_of RX5 [(0, .ref (ad (0))), (1, .int (nI (3))), (2, .int (nI (v)))] (zK_ok A D tc tF tL tM) E.1 E.2 owC_ok (by decide +kernel) rfl (Nat.le_of_ble_eq_true rfl) rfl ?_
  intro pP eE sS mM aS bL mT cO X
  obtain ⟨hm, hm2, hc, h8, hr, hr4, hz, hz4⟩ := S
  refine zr_iloadn X 1 dX5_set_0 rfl ?_
  refine zr_if_lt X 27 dX5_set_1 (by decide) (fun q => absurd q (nI_pos (by omega))) (fun _ => ?_)
  refine zr_iloadn X 1 dX5_set_4 rfl ?_
  refine zr_iconst X (nI (5)) dX5_set_5 (by decide +kernel) ?_
  refine zr_icmp_ge X 27 dX5_set_6 (by decide) (fun q => absurd q (nI_ge (by omega) (by omega))) (fun _ => ?_)
  refine zr_iloadn X 2 dX5_set_9 rfl ?_
  refine zr_gets X X.2.2.2.2.2.2.2.2.2.2.2.2.2.2.2.1 k_265 dX5_set_10 ?_
  refine zr_iloadn X 1 dX5_set_13 rfl ?_
  refine zr_tiald X 3 (nI 1) X.2.2.2.2.2.2.2.2.2.2.2.2.2.2.2.2.1 rfl (by omega) (by omega) (congrArg Value.int (by decide +kernel)) dX5_set_14 ?_
  refine zr_icmp_lt X 27 dX5_set_15 (by decide) (fun q => absurd q (nI_nlt (by omega) (by omega))) (fun _ => ?_)
  refine zr_iloadn X 2 dX5_set_18 rfl ?_
  refine zr_gets X X.2.2.2.2.2.2.2.2.2.2.2.2.2.2.2.2.2.1 k_267 dX5_set_19 ?_
  refine zr_iloadn X 1 dX5_set_22 rfl ?_
  refine zr_tiald X 3 (nI 5) X.2.2.2.2.2.2.2.2.2.2.2.2.2.2.2.2.2.2 rfl (by omega) (by omega) (congrArg Value.int (by decide +kernel)) dX5_set_23 ?_
  refine zr_icmp_le X 30 dX5_set_24 (by decide) (fun _ => ?_) (fun q => absurd (zq_le (by omega) (by omega)) q)
  refine zr_aloadn X 0 dX5_set_30 rfl ?_
  refine zr_get X (ci := 5) (q := 0) (zR _) (.ref (ad (1))) dX5_set_31 (by omega) sc_0 rfl inX5 (by decide) rfl (zvR rfl) rfl k_215 ?_
  refine zr_get X (ci := 2) (q := 2) (zR _) (.ref (ad (2))) dX5_set_34 (by omega) (sc_st (j := 0) (by omega) (by have := cb_0; omega)) rfl inX2 (by decide) rfl (zvR (by have := cb_0; omega)) rfl k_87 ?_
  refine zr_iloadn X 1 dX5_set_37 rfl ?_
  refine zr_iald X (j := 3) 0 (μ (5)) dX5_set_38 (by omega) (sc_set (j := 0) (by omega) (by have := cb_0; omega)) rfl rfl (by omega) (by omega) (zcg (b := 5) (by omega) (rfl)) ?_
  refine zr_istoren X [1, 2, 3, 0] [(0, .ref (ad (0))), (1, .int (nI (3))), (2, .int (nI (v))), (3, .int (μ (5)))] dX5_set_39 (by decide) rfl ?_
  refine zr_iloadn X 2 dX5_set_40 rfl ?_
  refine zr_iloadn X 3 dX5_set_41 rfl ?_
  refine zr_icmp_ne X 48 dX5_set_42 (by decide) (fun q => absurd (h.symm) q) (fun _ => ?_)
  refine zr_bipush X (-5) dX5_set_45 (by decide +kernel) ?_
  exact zr_iret X dX5_set_47 ⟨rfl, rfl⟩

set_option maxHeartbeats 4000000 in
set_option maxRecDepth 100000 in
theorem d_set_ok3 {l : Launch} {D : va_G} {tc : Nat → ClassId} {ad : Nat → Nat} {A : Nat → Prop} {tF tL tM : Nat} (E : zN 299 A ad) (μ : Nat → Int32) {m c ro z : Nat} (S : clsS μ m c ro z) {v : Nat} (h1 : 1 ≤ v) (h2 : v ≤ 5) (h : ¬ μ 5 = nI v) : zMi l yX5_set cX5_set 4 (some .int) (zrm 5) (zK A D tc tF tL tM) A D vwCl tc ad 299 shC [.ref (ad (0)), .int (nI (3)), .int (nI (v))] μ (fun r u => r = μ 5 ∧ u = (upd (zpush μ (ro) (z)) (5) (nI (v)))) := by
  refine zM_of RX5 [(0, .ref (ad (0))), (1, .int (nI (3))), (2, .int (nI (v)))] (zK_ok A D tc tF tL tM) E.1 E.2 owC_ok (by decide +kernel) rfl (Nat.le_of_ble_eq_true rfl) rfl ?_
  intro pP eE sS mM aS bL mT cO X
  obtain ⟨hm, hm2, hc, h8, hr, hr4, hz, hz4⟩ := S
  refine zr_iloadn X 1 dX5_set_0 rfl ?_
  refine zr_if_lt X 27 dX5_set_1 (by decide) (fun q => absurd q (nI_pos (by omega))) (fun _ => ?_)
  refine zr_iloadn X 1 dX5_set_4 rfl ?_
  refine zr_iconst X (nI (5)) dX5_set_5 (by decide +kernel) ?_
  refine zr_icmp_ge X 27 dX5_set_6 (by decide) (fun q => absurd q (nI_ge (by omega) (by omega))) (fun _ => ?_)
  refine zr_iloadn X 2 dX5_set_9 rfl ?_
  refine zr_gets X X.2.2.2.2.2.2.2.2.2.2.2.2.2.2.2.1 k_265 dX5_set_10 ?_
  refine zr_iloadn X 1 dX5_set_13 rfl ?_
  refine zr_tiald X 3 (nI 1) X.2.2.2.2.2.2.2.2.2.2.2.2.2.2.2.2.1 rfl (by omega) (by omega) (congrArg Value.int (by decide +kernel)) dX5_set_14 ?_
  refine zr_icmp_lt X 27 dX5_set_15 (by decide) (fun q => absurd q (nI_nlt (by omega) (by omega))) (fun _ => ?_)
  refine zr_iloadn X 2 dX5_set_18 rfl ?_
  refine zr_gets X X.2.2.2.2.2.2.2.2.2.2.2.2.2.2.2.2.2.1 k_267 dX5_set_19 ?_
  refine zr_iloadn X 1 dX5_set_22 rfl ?_
  refine zr_tiald X 3 (nI 5) X.2.2.2.2.2.2.2.2.2.2.2.2.2.2.2.2.2.2 rfl (by omega) (by omega) (congrArg Value.int (by decide +kernel)) dX5_set_23 ?_
  refine zr_icmp_le X 30 dX5_set_24 (by decide) (fun _ => ?_) (fun q => absurd (zq_le (by omega) (by omega)) q)
  refine zr_aloadn X 0 dX5_set_30 rfl ?_
  refine zr_get X (ci := 5) (q := 0) (zR _) (.ref (ad (1))) dX5_set_31 (by omega) sc_0 rfl inX5 (by decide) rfl (zvR rfl) rfl k_215 ?_
  refine zr_get X (ci := 2) (q := 2) (zR _) (.ref (ad (2))) dX5_set_34 (by omega) (sc_st (j := 0) (by omega) (by have := cb_0; omega)) rfl inX2 (by decide) rfl (zvR (by have := cb_0; omega)) rfl k_87 ?_
  refine zr_iloadn X 1 dX5_set_37 rfl ?_
  refine zr_iald X (j := 3) 0 (μ (5)) dX5_set_38 (by omega) (sc_set (j := 0) (by omega) (by have := cb_0; omega)) rfl rfl (by omega) (by omega) (zcg (b := 5) (by omega) (rfl)) ?_
  refine zr_istoren X [1, 2, 3, 0] [(0, .ref (ad (0))), (1, .int (nI (3))), (2, .int (nI (v))), (3, .int (μ (5)))] dX5_set_39 (by decide) rfl ?_
  refine zr_iloadn X 2 dX5_set_40 rfl ?_
  refine zr_iloadn X 3 dX5_set_41 rfl ?_
  refine zr_icmp_ne X 48 dX5_set_42 (by decide) (fun _ => ?_) (fun q => absurd q (fun q => h q.symm))
  refine zr_aloadn X 0 dX5_set_48 rfl ?_
  refine zr_get X (ci := 5) (q := 3) (zR _) (.ref (ad (124))) dX5_set_49 (by omega) sc_0 rfl inX5 (by decide) rfl (zvR rfl) rfl k_218 ?_
  refine zr_aloadn X 0 dX5_set_52 rfl ?_
  refine zr_get X (ci := 5) (q := 0) (zR _) (.ref (ad (1))) dX5_set_53 (by omega) sc_0 rfl inX5 (by decide) rfl (zvR rfl) rfl k_215 ?_
  refine zr_dVv (C := RX1) (ci := 1) [.ref (ad (1))] [] X (zK_ok A D tc tF tL tM) (d_push E μ (hr) hr4 (hz) hz4) k_241 k_242 k_243 k_4 k_244 hdX1_push ⟨rfl, rfl⟩ ⟨Nat.le_of_ble_eq_true rfl, Nat.le_of_ble_eq_true rfl⟩ (by omega) sc_124 rfl rfl rfl (Nat.le_of_ble_eq_true rfl) dX5_set_56 ?_
  refine zr_aloadn X 0 dX5_set_59 rfl ?_
  refine zr_get X (ci := 5) (q := 0) (zR _) (.ref (ad (1))) dX5_set_60 (by omega) sc_0 rfl inX5 (by decide) rfl (zvR rfl) rfl k_215 ?_
  refine zr_get X (ci := 2) (q := 2) (zR _) (.ref (ad (2))) dX5_set_63 (by omega) (sc_st (j := 0) (by omega) (by have := cb_0; omega)) rfl inX2 (by decide) rfl (zvR (by have := cb_0; omega)) rfl k_87 ?_
  refine zr_iloadn X 1 dX5_set_66 rfl ?_
  refine zr_iloadn X 2 dX5_set_67 rfl ?_
  refine zr_iast X (j := 3) 0 (5) dX5_set_68 (by omega) (sc_set (j := 0) (by omega) (by have := cb_0; omega)) rfl rfl (by omega) (by omega) (by omega) ?_
  refine zr_iloadn X 3 dX5_set_69 rfl ?_
  exact zr_iret X dX5_set_70 ⟨rfl, rfl⟩

set_option maxHeartbeats 4000000 in
set_option maxRecDepth 100000 in
theorem d_set_bad4 {l : Launch} {D : va_G} {tc : Nat → ClassId} {ad : Nat → Nat} {A : Nat → Prop} {tF tL tM : Nat} (E : zN 299 A ad) (μ : Nat → Int32) {m c ro z : Nat} (S : clsS μ m c ro z) {x : Int32} (hx : ¬ zin x 0 99)  : zMi l yX5_set cX5_set 4 (some .int) (zrm 5) (zK A D tc tF tL tM) A D vwCl tc ad 299 shC [.ref (ad (0)), .int (nI (4)), .int (x)] μ (fun r u => r = -2 ∧ u = μ) := by
  refine zM_of RX5 [(0, .ref (ad (0))), (1, .int (nI (4))), (2, .int (x))] (zK_ok A D tc tF tL tM) E.1 E.2 owC_ok (by decide +kernel) rfl (Nat.le_of_ble_eq_true rfl) rfl ?_
  intro pP eE sS mM aS bL mT cO X
  obtain ⟨hm, hm2, hc, h8, hr, hr4, hz, hz4⟩ := S
  refine zr_iloadn X 1 dX5_set_0 rfl ?_
  refine zr_if_lt X 27 dX5_set_1 (by decide) (fun q => absurd q (nI_pos (by omega))) (fun _ => ?_)
  refine zr_iloadn X 1 dX5_set_4 rfl ?_
  refine zr_iconst X (nI (5)) dX5_set_5 (by decide +kernel) ?_
  refine zr_icmp_ge X 27 dX5_set_6 (by decide) (fun q => absurd q (nI_ge (by omega) (by omega))) (fun _ => ?_)
  refine zr_iloadn X 2 dX5_set_9 rfl ?_
  refine zr_gets X X.2.2.2.2.2.2.2.2.2.2.2.2.2.2.2.1 k_265 dX5_set_10 ?_
  refine zr_iloadn X 1 dX5_set_13 rfl ?_
  refine zr_tiald X 4 (nI 0) X.2.2.2.2.2.2.2.2.2.2.2.2.2.2.2.2.1 rfl (by omega) (by omega) (congrArg Value.int (by decide +kernel)) dX5_set_14 ?_
  refine zr_icmp_lt X 27 dX5_set_15 (by decide) (fun h15 => ?_) (fun h15 => ?_)
  · refine zr_bipush X (-2) dX5_set_27 (by decide +kernel) ?_
    exact zr_iret X dX5_set_29 ⟨rfl, rfl⟩
  · refine zr_iloadn X 2 dX5_set_18 rfl ?_
    refine zr_gets X X.2.2.2.2.2.2.2.2.2.2.2.2.2.2.2.2.2.1 k_267 dX5_set_19 ?_
    refine zr_iloadn X 1 dX5_set_22 rfl ?_
    refine zr_tiald X 4 (nI 99) X.2.2.2.2.2.2.2.2.2.2.2.2.2.2.2.2.2.2 rfl (by omega) (by omega) (congrArg Value.int (by decide +kernel)) dX5_set_23 ?_
    refine zr_icmp_le X 30 dX5_set_24 (by decide) (fun q => absurd q (fun q => hx (zin_of (by omega) (Int32.not_lt.mp h15) q (by omega)))) (fun _ => ?_)
    refine zr_bipush X (-2) dX5_set_27 (by decide +kernel) ?_
    exact zr_iret X dX5_set_29 ⟨rfl, rfl⟩

set_option maxHeartbeats 4000000 in
set_option maxRecDepth 100000 in
theorem d_set_none4 {l : Launch} {D : va_G} {tc : Nat → ClassId} {ad : Nat → Nat} {A : Nat → Prop} {tF tL tM : Nat} (E : zN 299 A ad) (μ : Nat → Int32) {m c ro z : Nat} (S : clsS μ m c ro z) {v : Nat} (h1 : 0 ≤ v) (h2 : v ≤ 99) (h : μ 6 = nI v) : zMi l yX5_set cX5_set 4 (some .int) (zrm 5) (zK A D tc tF tL tM) A D vwCl tc ad 299 shC [.ref (ad (0)), .int (nI (4)), .int (nI (v))] μ (fun r u => r = -5 ∧ u = μ) := by
  refine zM_of RX5 [(0, .ref (ad (0))), (1, .int (nI (4))), (2, .int (nI (v)))] (zK_ok A D tc tF tL tM) E.1 E.2 owC_ok (by decide +kernel) rfl (Nat.le_of_ble_eq_true rfl) rfl ?_
  intro pP eE sS mM aS bL mT cO X
  obtain ⟨hm, hm2, hc, h8, hr, hr4, hz, hz4⟩ := S
  refine zr_iloadn X 1 dX5_set_0 rfl ?_
  refine zr_if_lt X 27 dX5_set_1 (by decide) (fun q => absurd q (nI_pos (by omega))) (fun _ => ?_)
  refine zr_iloadn X 1 dX5_set_4 rfl ?_
  refine zr_iconst X (nI (5)) dX5_set_5 (by decide +kernel) ?_
  refine zr_icmp_ge X 27 dX5_set_6 (by decide) (fun q => absurd q (nI_ge (by omega) (by omega))) (fun _ => ?_)
  refine zr_iloadn X 2 dX5_set_9 rfl ?_
  refine zr_gets X X.2.2.2.2.2.2.2.2.2.2.2.2.2.2.2.1 k_265 dX5_set_10 ?_
  refine zr_iloadn X 1 dX5_set_13 rfl ?_
  refine zr_tiald X 4 (nI 0) X.2.2.2.2.2.2.2.2.2.2.2.2.2.2.2.2.1 rfl (by omega) (by omega) (congrArg Value.int (by decide +kernel)) dX5_set_14 ?_
  refine zr_icmp_lt X 27 dX5_set_15 (by decide) (fun q => absurd q (nI_nlt (by omega) (by omega))) (fun _ => ?_)
  refine zr_iloadn X 2 dX5_set_18 rfl ?_
  refine zr_gets X X.2.2.2.2.2.2.2.2.2.2.2.2.2.2.2.2.2.1 k_267 dX5_set_19 ?_
  refine zr_iloadn X 1 dX5_set_22 rfl ?_
  refine zr_tiald X 4 (nI 99) X.2.2.2.2.2.2.2.2.2.2.2.2.2.2.2.2.2.2 rfl (by omega) (by omega) (congrArg Value.int (by decide +kernel)) dX5_set_23 ?_
  refine zr_icmp_le X 30 dX5_set_24 (by decide) (fun _ => ?_) (fun q => absurd (zq_le (by omega) (by omega)) q)
  refine zr_aloadn X 0 dX5_set_30 rfl ?_
  refine zr_get X (ci := 5) (q := 0) (zR _) (.ref (ad (1))) dX5_set_31 (by omega) sc_0 rfl inX5 (by decide) rfl (zvR rfl) rfl k_215 ?_
  refine zr_get X (ci := 2) (q := 2) (zR _) (.ref (ad (2))) dX5_set_34 (by omega) (sc_st (j := 0) (by omega) (by have := cb_0; omega)) rfl inX2 (by decide) rfl (zvR (by have := cb_0; omega)) rfl k_87 ?_
  refine zr_iloadn X 1 dX5_set_37 rfl ?_
  refine zr_iald X (j := 4) 0 (μ (6)) dX5_set_38 (by omega) (sc_set (j := 0) (by omega) (by have := cb_0; omega)) rfl rfl (by omega) (by omega) (zcg (b := 6) (by omega) (rfl)) ?_
  refine zr_istoren X [1, 2, 3, 0] [(0, .ref (ad (0))), (1, .int (nI (4))), (2, .int (nI (v))), (3, .int (μ (6)))] dX5_set_39 (by decide) rfl ?_
  refine zr_iloadn X 2 dX5_set_40 rfl ?_
  refine zr_iloadn X 3 dX5_set_41 rfl ?_
  refine zr_icmp_ne X 48 dX5_set_42 (by decide) (fun q => absurd (h.symm) q) (fun _ => ?_)
  refine zr_bipush X (-5) dX5_set_45 (by decide +kernel) ?_
  exact zr_iret X dX5_set_47 ⟨rfl, rfl⟩

set_option maxHeartbeats 4000000 in
set_option maxRecDepth 100000 in
theorem d_set_ok4 {l : Launch} {D : va_G} {tc : Nat → ClassId} {ad : Nat → Nat} {A : Nat → Prop} {tF tL tM : Nat} (E : zN 299 A ad) (μ : Nat → Int32) {m c ro z : Nat} (S : clsS μ m c ro z) {v : Nat} (h1 : 0 ≤ v) (h2 : v ≤ 99) (h : ¬ μ 6 = nI v) : zMi l yX5_set cX5_set 4 (some .int) (zrm 5) (zK A D tc tF tL tM) A D vwCl tc ad 299 shC [.ref (ad (0)), .int (nI (4)), .int (nI (v))] μ (fun r u => r = μ 6 ∧ u = (upd (zpush μ (ro) (z)) (6) (nI (v)))) := by
  refine zM_of RX5 [(0, .ref (ad (0))), (1, .int (nI (4))), (2, .int (nI (v)))] (zK_ok A D tc tF tL tM) E.1 E.2 owC_ok (by decide +kernel) rfl (Nat.le_of_ble_eq_true rfl) rfl ?_
  intro pP eE sS mM aS bL mT cO X
  obtain ⟨hm, hm2, hc, h8, hr, hr4, hz, hz4⟩ := S
  refine zr_iloadn X 1 dX5_set_0 rfl ?_
  refine zr_if_lt X 27 dX5_set_1 (by decide) (fun q => absurd q (nI_pos (by omega))) (fun _ => ?_)
  refine zr_iloadn X 1 dX5_set_4 rfl ?_
  refine zr_iconst X (nI (5)) dX5_set_5 (by decide +kernel) ?_
  refine zr_icmp_ge X 27 dX5_set_6 (by decide) (fun q => absurd q (nI_ge (by omega) (by omega))) (fun _ => ?_)
  refine zr_iloadn X 2 dX5_set_9 rfl ?_
  refine zr_gets X X.2.2.2.2.2.2.2.2.2.2.2.2.2.2.2.1 k_265 dX5_set_10 ?_
  refine zr_iloadn X 1 dX5_set_13 rfl ?_
  refine zr_tiald X 4 (nI 0) X.2.2.2.2.2.2.2.2.2.2.2.2.2.2.2.2.1 rfl (by omega) (by omega) (congrArg Value.int (by decide +kernel)) dX5_set_14 ?_
  refine zr_icmp_lt X 27 dX5_set_15 (by decide) (fun q => absurd q (nI_nlt (by omega) (by omega))) (fun _ => ?_)
  refine zr_iloadn X 2 dX5_set_18 rfl ?_
  refine zr_gets X X.2.2.2.2.2.2.2.2.2.2.2.2.2.2.2.2.2.1 k_267 dX5_set_19 ?_
  refine zr_iloadn X 1 dX5_set_22 rfl ?_
  refine zr_tiald X 4 (nI 99) X.2.2.2.2.2.2.2.2.2.2.2.2.2.2.2.2.2.2 rfl (by omega) (by omega) (congrArg Value.int (by decide +kernel)) dX5_set_23 ?_
  refine zr_icmp_le X 30 dX5_set_24 (by decide) (fun _ => ?_) (fun q => absurd (zq_le (by omega) (by omega)) q)
  refine zr_aloadn X 0 dX5_set_30 rfl ?_
  refine zr_get X (ci := 5) (q := 0) (zR _) (.ref (ad (1))) dX5_set_31 (by omega) sc_0 rfl inX5 (by decide) rfl (zvR rfl) rfl k_215 ?_
  refine zr_get X (ci := 2) (q := 2) (zR _) (.ref (ad (2))) dX5_set_34 (by omega) (sc_st (j := 0) (by omega) (by have := cb_0; omega)) rfl inX2 (by decide) rfl (zvR (by have := cb_0; omega)) rfl k_87 ?_
  refine zr_iloadn X 1 dX5_set_37 rfl ?_
  refine zr_iald X (j := 4) 0 (μ (6)) dX5_set_38 (by omega) (sc_set (j := 0) (by omega) (by have := cb_0; omega)) rfl rfl (by omega) (by omega) (zcg (b := 6) (by omega) (rfl)) ?_
  refine zr_istoren X [1, 2, 3, 0] [(0, .ref (ad (0))), (1, .int (nI (4))), (2, .int (nI (v))), (3, .int (μ (6)))] dX5_set_39 (by decide) rfl ?_
  refine zr_iloadn X 2 dX5_set_40 rfl ?_
  refine zr_iloadn X 3 dX5_set_41 rfl ?_
  refine zr_icmp_ne X 48 dX5_set_42 (by decide) (fun _ => ?_) (fun q => absurd q (fun q => h q.symm))
  refine zr_aloadn X 0 dX5_set_48 rfl ?_
  refine zr_get X (ci := 5) (q := 3) (zR _) (.ref (ad (124))) dX5_set_49 (by omega) sc_0 rfl inX5 (by decide) rfl (zvR rfl) rfl k_218 ?_
  refine zr_aloadn X 0 dX5_set_52 rfl ?_
  refine zr_get X (ci := 5) (q := 0) (zR _) (.ref (ad (1))) dX5_set_53 (by omega) sc_0 rfl inX5 (by decide) rfl (zvR rfl) rfl k_215 ?_
  refine zr_dVv (C := RX1) (ci := 1) [.ref (ad (1))] [] X (zK_ok A D tc tF tL tM) (d_push E μ (hr) hr4 (hz) hz4) k_241 k_242 k_243 k_4 k_244 hdX1_push ⟨rfl, rfl⟩ ⟨Nat.le_of_ble_eq_true rfl, Nat.le_of_ble_eq_true rfl⟩ (by omega) sc_124 rfl rfl rfl (Nat.le_of_ble_eq_true rfl) dX5_set_56 ?_
  refine zr_aloadn X 0 dX5_set_59 rfl ?_
  refine zr_get X (ci := 5) (q := 0) (zR _) (.ref (ad (1))) dX5_set_60 (by omega) sc_0 rfl inX5 (by decide) rfl (zvR rfl) rfl k_215 ?_
  refine zr_get X (ci := 2) (q := 2) (zR _) (.ref (ad (2))) dX5_set_63 (by omega) (sc_st (j := 0) (by omega) (by have := cb_0; omega)) rfl inX2 (by decide) rfl (zvR (by have := cb_0; omega)) rfl k_87 ?_
  refine zr_iloadn X 1 dX5_set_66 rfl ?_
  refine zr_iloadn X 2 dX5_set_67 rfl ?_
  refine zr_iast X (j := 4) 0 (6) dX5_set_68 (by omega) (sc_set (j := 0) (by omega) (by have := cb_0; omega)) rfl rfl (by omega) (by omega) (by omega) ?_
  refine zr_iloadn X 3 dX5_set_69 rfl ?_
  exact zr_iret X dX5_set_70 ⟨rfl, rfl⟩

set_option maxHeartbeats 4000000 in
set_option maxRecDepth 100000 in
theorem d_set_badw {l : Launch} {D : va_G} {tc : Nat → ClassId} {ad : Nat → Nat} {A : Nat → Prop} {tF tL tM : Nat} (E : zN 299 A ad) (μ : Nat → Int32) {m c ro z : Nat} (S : clsS μ m c ro z) {x : Int32} (hx : ¬ zin x 0 4) (z : Int32)  : zMi l yX5_set cX5_set 4 (some .int) (zrm 5) (zK A D tc tF tL tM) A D vwCl tc ad 299 shC [.ref (ad (0)), .int (x), .int (z)] μ (fun r u => r = -2 ∧ u = μ) := by
  refine zM_of RX5 [(0, .ref (ad (0))), (1, .int (x)), (2, .int (z))] (zK_ok A D tc tF tL tM) E.1 E.2 owC_ok (by decide +kernel) rfl (Nat.le_of_ble_eq_true rfl) rfl ?_
  intro pP eE sS mM aS bL mT cO X
  obtain ⟨hm, hm2, hc, h8, hr, hr4, hz, hz4⟩ := S
  refine zr_iloadn X 1 dX5_set_0 rfl ?_
  refine zr_if_lt X 27 dX5_set_1 (by decide) (fun h1 => ?_) (fun h1 => ?_)
  · refine zr_bipush X (-2) dX5_set_27 (by decide +kernel) ?_
    exact zr_iret X dX5_set_29 ⟨rfl, rfl⟩
  · refine zr_iloadn X 1 dX5_set_4 rfl ?_
    refine zr_iconst X (nI (5)) dX5_set_5 (by decide +kernel) ?_
    refine zr_icmp_ge X 27 dX5_set_6 (by decide) (fun _ => ?_) (fun q => absurd (Int32.not_lt.mp (fun q => hx (zin_of (b := 4) (by omega) (by rw [nI_0]; exact Int32.not_lt.mp h1) (zle_pred (n := 4) (by omega) q) (by omega)))) q)
    refine zr_bipush X (-2) dX5_set_27 (by decide +kernel) ?_
    exact zr_iret X dX5_set_29 ⟨rfl, rfl⟩

set_option maxHeartbeats 4000000 in
set_option maxRecDepth 100000 in
theorem d_issue_u {l : Launch} {D : va_G} {tc : Nat → ClassId} {ad : Nat → Nat} {A : Nat → Prop} {tF tL tM : Nat} (E : zN 299 A ad) (μ : Nat → Int32) {m c ro z : Nat} (S : clsS μ m c ro z) {x : Int32} (hx : ¬ zfm x c) (y : Int32)  : zMi l yX5_issue cX5_issue 5 (some .int) (zrm 5) (zK A D tc tF tL tM) A D vwCl tc ad 299 shC [.ref (ad (0)), .int (x), .int (y)] μ (fun r u => r = -1 ∧ u = μ) := by
  refine zM_of RX5 [(0, .ref (ad (0))), (1, .int (x)), (2, .int (y))] (zK_ok A D tc tF tL tM) E.1 E.2 owC_ok (by decide +kernel) rfl (Nat.le_of_ble_eq_true rfl) rfl ?_
  intro pP eE sS mM aS bL mT cO X
  obtain ⟨hm, hm2, hc, h8, hr, hr4, hz, hz4⟩ := S
  refine zr_aloadn X 0 dX5_issue_0 rfl ?_
  refine zr_get X (ci := 5) (q := 0) (zR _) (.ref (ad (1))) dX5_issue_1 (by omega) sc_0 rfl inX5 (by decide) rfl (zvR rfl) rfl k_215 ?_
  refine zr_iloadn X 1 dX5_issue_4 rfl ?_
  refine zr_dVq (C := RX2) (ci := 2) [.int (x)] [] X (zK_ok A D tc tF tL tM) (d_firmAt0_f E μ (hc) h8 hx) k_273 k_274 k_275 k_2 k_276 hdX2_firmAt ⟨rfl, rfl⟩ ⟨Nat.le_of_ble_eq_true rfl, Nat.le_of_ble_eq_true rfl⟩ (by omega) (sc_st (j := 0) (by omega) (by have := cb_0; omega)) rfl rfl rfl (Nat.le_of_ble_eq_true rfl) dX5_issue_5 rfl ?_
  refine zr_astorenN X [1, 2, 3, 0] [(0, .ref (ad (0))), (1, .int (x)), (2, .int (y)), (3, .null)] dX5_issue_8 (by decide) rfl ?_
  refine zr_aloadnN X 3 dX5_issue_9 rfl ?_
  refine zr_ifnonnullN X dX5_issue_10 ?_
  refine zr_iconst X (-1) dX5_issue_13 (by decide +kernel) ?_
  exact zr_iret X dX5_issue_14 ⟨rfl, rfl⟩

set_option maxHeartbeats 4000000 in
set_option maxRecDepth 100000 in
theorem d_issue_b {l : Launch} {D : va_G} {tc : Nat → ClassId} {ad : Nat → Nat} {A : Nat → Prop} {tF tL tM : Nat} (E : zN 299 A ad) (μ : Nat → Int32) {m c ro z : Nat} (S : clsS μ m c ro z) {f : Nat} (hf : f < c) {x : Int32} (hx : ¬ zin x 1 9999)  : zMi l yX5_issue cX5_issue 5 (some .int) (zrm 5) (zK A D tc tF tL tM) A D vwCl tc ad 299 shC [.ref (ad (0)), .int (nI (f)), .int (x)] μ (fun r u => r = -2 ∧ u = μ) := by
  refine zM_of RX5 [(0, .ref (ad (0))), (1, .int (nI (f))), (2, .int (x))] (zK_ok A D tc tF tL tM) E.1 E.2 owC_ok (by decide +kernel) rfl (Nat.le_of_ble_eq_true rfl) rfl ?_
  intro pP eE sS mM aS bL mT cO X
  obtain ⟨hm, hm2, hc, h8, hr, hr4, hz, hz4⟩ := S
  refine zr_aloadn X 0 dX5_issue_0 rfl ?_
  refine zr_get X (ci := 5) (q := 0) (zR _) (.ref (ad (1))) dX5_issue_1 (by omega) sc_0 rfl inX5 (by decide) rfl (zvR rfl) rfl k_215 ?_
  refine zr_iloadn X 1 dX5_issue_4 rfl ?_
  refine zr_dVq (C := RX2) (ci := 2) [.int (nI (f))] [] X (zK_ok A D tc tF tL tM) (d_firmAt0_t E μ (f := f) (hc) h8 (by omega)) k_273 k_274 k_275 k_2 k_276 hdX2_firmAt ⟨rfl, rfl⟩ ⟨Nat.le_of_ble_eq_true rfl, Nat.le_of_ble_eq_true rfl⟩ (by omega) (sc_st (j := 0) (by omega) (by have := cb_0; omega)) rfl rfl rfl (Nat.le_of_ble_eq_true rfl) dX5_issue_5 rfl ?_
  refine zr_astoren X [1, 2, 3, 0] [(0, .ref (ad (0))), (1, .int (nI (f))), (2, .int (x)), (3, .ref (ad (4 * f + 4)))] dX5_issue_8 (by decide) rfl ?_
  refine zr_aloadn X 3 dX5_issue_9 rfl ?_
  refine zr_ifnonnull X 15 dX5_issue_10 (by decide) ?_
  refine zr_iloadn X 2 dX5_issue_15 rfl ?_
  refine zr_dSi [.int (x)] [] X (zK_ok A D tc tF tL tM) (d_isTonnes_f E μ hx) k_277 k_278 k_1 k_279 hdX5_isTonnes ⟨rfl, rfl⟩ ⟨Nat.le_of_ble_eq_true rfl, Nat.le_of_ble_eq_true rfl⟩ rfl rfl (Nat.le_of_ble_eq_true rfl) dX5_issue_16 ?_
  refine zr_if_ne X 25 dX5_issue_19 (by decide) (fun q => absurd (zq_eq0 (by omega)) q) (fun _ => ?_)
  refine zr_bipush X (-2) dX5_issue_22 (by decide +kernel) ?_
  exact zr_iret X dX5_issue_24 ⟨rfl, rfl⟩

set_option maxHeartbeats 4000000 in
set_option maxRecDepth 100000 in
theorem d_issue_ok {l : Launch} {D : va_G} {tc : Nat → ClassId} {ad : Nat → Nat} {A : Nat → Prop} {tF tL tM : Nat} (E : zN 299 A ad) (μ : Nat → Int32) {m c ro z : Nat} (S : clsS μ m c ro z) {f : Nat} (hf : f < c) {t : Nat} (ht1 : 1 ≤ t) (ht9 : t ≤ 9999) {y : Nat} (hy : m / 12 = y)  : zMi l yX5_issue cX5_issue 5 (some .int) (zrm 5) (zK A D tc tF tL tM) A D vwCl tc ad 299 shC [.ref (ad (0)), .int (nI (f)), .int (nI (t))] μ (fun r u => r = μ (32 * f + y + 7) + nI t ∧ u = (upd (upd (zpush μ (ro) (z)) (32 * f + y + 7) (μ (32 * f + y + 7) + nI (t))) (y + 263) (μ (y + 263) + nI (t)))) := by
  refine zM_of RX5 [(0, .ref (ad (0))), (1, .int (nI (f))), (2, .int (nI (t)))] (zK_ok A D tc tF tL tM) E.1 E.2 owC_ok (by decide +kernel) rfl (Nat.le_of_ble_eq_true rfl) rfl ?_
  intro pP eE sS mM aS bL mT cO X
  obtain ⟨hm, hm2, hc, h8, hr, hr4, hz, hz4⟩ := S
  refine zr_aloadn X 0 dX5_issue_0 rfl ?_
  refine zr_get X (ci := 5) (q := 0) (zR _) (.ref (ad (1))) dX5_issue_1 (by omega) sc_0 rfl inX5 (by decide) rfl (zvR rfl) rfl k_215 ?_
  refine zr_iloadn X 1 dX5_issue_4 rfl ?_
  refine zr_dVq (C := RX2) (ci := 2) [.int (nI (f))] [] X (zK_ok A D tc tF tL tM) (d_firmAt0_t E μ (f := f) (hc) h8 (by omega)) k_273 k_274 k_275 k_2 k_276 hdX2_firmAt ⟨rfl, rfl⟩ ⟨Nat.le_of_ble_eq_true rfl, Nat.le_of_ble_eq_true rfl⟩ (by omega) (sc_st (j := 0) (by omega) (by have := cb_0; omega)) rfl rfl rfl (Nat.le_of_ble_eq_true rfl) dX5_issue_5 rfl ?_
  refine zr_astoren X [1, 2, 3, 0] [(0, .ref (ad (0))), (1, .int (nI (f))), (2, .int (nI (t))), (3, .ref (ad (4 * f + 4)))] dX5_issue_8 (by decide) rfl ?_
  refine zr_aloadn X 3 dX5_issue_9 rfl ?_
  refine zr_ifnonnull X 15 dX5_issue_10 (by decide) ?_
  refine zr_iloadn X 2 dX5_issue_15 rfl ?_
  refine zr_dSi [.int (nI (t))] [] X (zK_ok A D tc tF tL tM) (d_isTonnes_t E μ (by omega) (by omega)) k_277 k_278 k_1 k_279 hdX5_isTonnes ⟨rfl, rfl⟩ ⟨Nat.le_of_ble_eq_true rfl, Nat.le_of_ble_eq_true rfl⟩ rfl rfl (Nat.le_of_ble_eq_true rfl) dX5_issue_16 ?_
  refine zr_if_ne X 25 dX5_issue_19 (by decide) (fun _ => ?_) (fun q => absurd q (nI_ne0 (by omega) (by omega)))
  refine zr_aloadn X 0 dX5_issue_25 rfl ?_
  refine zr_get X (ci := 5) (q := 3) (zR _) (.ref (ad (124))) dX5_issue_26 (by omega) sc_0 rfl inX5 (by decide) rfl (zvR rfl) rfl k_218 ?_
  refine zr_aloadn X 0 dX5_issue_29 rfl ?_
  refine zr_get X (ci := 5) (q := 0) (zR _) (.ref (ad (1))) dX5_issue_30 (by omega) sc_0 rfl inX5 (by decide) rfl (zvR rfl) rfl k_215 ?_
  refine zr_dVv (C := RX1) (ci := 1) [.ref (ad (1))] [] X (zK_ok A D tc tF tL tM) (d_push E μ (hr) hr4 (hz) hz4) k_241 k_242 k_243 k_4 k_244 hdX1_push ⟨rfl, rfl⟩ ⟨Nat.le_of_ble_eq_true rfl, Nat.le_of_ble_eq_true rfl⟩ (by omega) sc_124 rfl rfl rfl (Nat.le_of_ble_eq_true rfl) dX5_issue_33 ?_
  refine zr_aloadn X 0 dX5_issue_36 rfl ?_
  refine zr_get X (ci := 5) (q := 0) (zR _) (.ref (ad (1))) dX5_issue_37 (by omega) sc_0 rfl inX5 (by decide) rfl (zvR rfl) rfl k_215 ?_
  refine zr_dVi (C := RX2) (ci := 2) [] [] X (zK_ok A D tc tF tL tM) (d_year E (zpush μ (ro) (z)) ((zpush_lo (by omega) hr4).trans (hm)) hm2 hy) k_280 k_281 k_282 k_2 k_283 hdX2_year ⟨rfl, rfl⟩ ⟨Nat.le_of_ble_eq_true rfl, Nat.le_of_ble_eq_true rfl⟩ (by omega) (sc_st (j := 0) (by omega) (by have := cb_0; omega)) rfl rfl rfl (Nat.le_of_ble_eq_true rfl) dX5_issue_40 ?_
  refine zr_istore X [1, 2, 3, 4, 0] [(0, .ref (ad (0))), (1, .int (nI (f))), (2, .int (nI (t))), (3, .ref (ad (4 * f + 4))), (4, .int (nI (y)))] dX5_issue_43 (by decide) rfl ?_
  refine zr_aloadn X 3 dX5_issue_45 rfl ?_
  refine zr_get X (ci := 0) (q := 0) (zR _) (.ref (ad (4 * f + 5))) dX5_issue_46 (by omega) (sc_firm (j := 0) (i := f) (by omega) (by omega) (by have := cb_0; omega)) rfl inX0 (by decide) rfl (zvR (by have := cb_0; omega)) rfl k_42 ?_
  refine zr_iload X 4 dX5_issue_49 rfl ?_
  refine zr_dup2 X dX5_issue_51 rfl rfl ?_
  refine zr_iald X (j := y) 0 (μ (32 * f + y + 7)) dX5_issue_52 (by omega) (sc_held (j := 0) (i := f) (by omega) (by omega) (by have := cb_0; omega)) rfl rfl (by omega) (by omega) (zcg (b := 32 * f + y + 7) (by omega) (zpush_lo (by omega) hr4)) ?_
  refine zr_iloadn X 2 dX5_issue_53 rfl ?_
  refine zr_iadd X ((μ (32 * f + y + 7)) + (nI (t))) dX5_issue_54 rfl ?_
  refine zr_iast X (j := y) 0 (32 * f + y + 7) dX5_issue_55 (by omega) (sc_held (j := 0) (i := f) (by omega) (by omega) (by have := cb_0; omega)) rfl rfl (by omega) (by omega) (by omega) ?_
  refine zr_aloadn X 0 dX5_issue_56 rfl ?_
  refine zr_get X (ci := 5) (q := 0) (zR _) (.ref (ad (1))) dX5_issue_57 (by omega) sc_0 rfl inX5 (by decide) rfl (zvR rfl) rfl k_215 ?_
  refine zr_get X (ci := 2) (q := 4) (zR _) (.ref (ad (36))) dX5_issue_60 (by omega) (sc_st (j := 0) (by omega) (by have := cb_0; omega)) rfl inX2 (by decide) rfl (zvR (by have := cb_0; omega)) rfl k_91 ?_
  refine zr_iload X 4 dX5_issue_63 rfl ?_
  refine zr_dup2 X dX5_issue_65 rfl rfl ?_
  refine zr_iald X (j := y) 0 (μ (y + 263)) dX5_issue_66 (by omega) (sc_iss (j := 0) (by omega) (by have := cb_0; omega)) rfl rfl (by omega) (by omega) (zcg (b := y + 263) (by omega) ((pk_un (by omega)).trans (zpush_lo (by omega) hr4))) ?_
  refine zr_iloadn X 2 dX5_issue_67 rfl ?_
  refine zr_iadd X ((μ (y + 263)) + (nI (t))) dX5_issue_68 rfl ?_
  refine zr_iast X (j := y) 0 (y + 263) dX5_issue_69 (by omega) (sc_iss (j := 0) (by omega) (by have := cb_0; omega)) rfl rfl (by omega) (by omega) (by omega) ?_
  refine zr_aloadn X 3 dX5_issue_70 rfl ?_
  refine zr_get X (ci := 0) (q := 0) (zR _) (.ref (ad (4 * f + 5))) dX5_issue_71 (by omega) (sc_firm (j := 0) (i := f) (by omega) (by omega) (by have := cb_0; omega)) rfl inX0 (by decide) rfl (zvR (by have := cb_0; omega)) rfl k_42 ?_
  refine zr_iload X 4 dX5_issue_74 rfl ?_
  refine zr_iald X (j := y) 0 ((μ (32 * f + y + 7)) + (nI (t))) dX5_issue_76 (by omega) (sc_held (j := 0) (i := f) (by omega) (by omega) (by have := cb_0; omega)) rfl rfl (by omega) (by omega) (zcg (b := 32 * f + y + 7) (by omega) ((pk_un (by omega)).trans (pk_us))) ?_
  exact zr_iret X dX5_issue_77 ⟨rfl, rfl⟩

set_option maxHeartbeats 4000000 in
set_option maxRecDepth 100000 in
theorem d_issueOffsets_u1 {l : Launch} {D : va_G} {tc : Nat → ClassId} {ad : Nat → Nat} {A : Nat → Prop} {tF tL tM : Nat} (E : zN 299 A ad) (μ : Nat → Int32) {m c ro z : Nat} (S : clsS μ m c ro z) {x : Int32} (hx : ¬ zfm x c) (g : Int32) (y : Int32)  : zMi l yX5_issueOffsets cX5_issueOffsets 5 (some .int) (zrm 5) (zK A D tc tF tL tM) A D vwCl tc ad 299 shC [.ref (ad (0)), .int (x), .int (g), .int (y)] μ (fun r u => r = -1 ∧ u = μ) := by
  refine zM_of RX5 [(0, .ref (ad (0))), (1, .int (x)), (2, .int (g)), (3, .int (y))] (zK_ok A D tc tF tL tM) E.1 E.2 owC_ok (by decide +kernel) rfl (Nat.le_of_ble_eq_true rfl) rfl ?_
  intro pP eE sS mM aS bL mT cO X
  obtain ⟨hm, hm2, hc, h8, hr, hr4, hz, hz4⟩ := S
  refine zr_aloadn X 0 dX5_issueOffsets_0 rfl ?_
  refine zr_get X (ci := 5) (q := 0) (zR _) (.ref (ad (1))) dX5_issueOffsets_1 (by omega) sc_0 rfl inX5 (by decide) rfl (zvR rfl) rfl k_215 ?_
  refine zr_iloadn X 1 dX5_issueOffsets_4 rfl ?_
  refine zr_dVq (C := RX2) (ci := 2) [.int (x)] [] X (zK_ok A D tc tF tL tM) (d_firmAt0_f E μ (hc) h8 hx) k_273 k_274 k_275 k_2 k_276 hdX2_firmAt ⟨rfl, rfl⟩ ⟨Nat.le_of_ble_eq_true rfl, Nat.le_of_ble_eq_true rfl⟩ (by omega) (sc_st (j := 0) (by omega) (by have := cb_0; omega)) rfl rfl rfl (Nat.le_of_ble_eq_true rfl) dX5_issueOffsets_5 rfl ?_
  refine zr_astoreN X [1, 2, 3, 4, 0] [(0, .ref (ad (0))), (1, .int (x)), (2, .int (g)), (3, .int (y)), (4, .null)] dX5_issueOffsets_8 (by decide) rfl ?_
  refine zr_aloadN X 4 dX5_issueOffsets_10 rfl ?_
  refine zr_ifnullN X 22 dX5_issueOffsets_12 (by decide) ?_
  refine zr_iconst X (-1) dX5_issueOffsets_22 (by decide +kernel) ?_
  exact zr_iret X dX5_issueOffsets_23 ⟨rfl, rfl⟩

set_option maxHeartbeats 4000000 in
set_option maxRecDepth 100000 in
theorem d_issueOffsets_u2 {l : Launch} {D : va_G} {tc : Nat → ClassId} {ad : Nat → Nat} {A : Nat → Prop} {tF tL tM : Nat} (E : zN 299 A ad) (μ : Nat → Int32) {m c ro z : Nat} (S : clsS μ m c ro z) {f : Nat} (hf : f < c) {x : Int32} (hx : ¬ zin x 0 2) (y : Int32)  : zMi l yX5_issueOffsets cX5_issueOffsets 5 (some .int) (zrm 5) (zK A D tc tF tL tM) A D vwCl tc ad 299 shC [.ref (ad (0)), .int (nI (f)), .int (x), .int (y)] μ (fun r u => r = -1 ∧ u = μ) := by
  refine zM_of RX5 [(0, .ref (ad (0))), (1, .int (nI (f))), (2, .int (x)), (3, .int (y))] (zK_ok A D tc tF tL tM) E.1 E.2 owC_ok (by decide +kernel) rfl (Nat.le_of_ble_eq_true rfl) rfl ?_
  intro pP eE sS mM aS bL mT cO X
  obtain ⟨hm, hm2, hc, h8, hr, hr4, hz, hz4⟩ := S
  refine zr_aloadn X 0 dX5_issueOffsets_0 rfl ?_
  refine zr_get X (ci := 5) (q := 0) (zR _) (.ref (ad (1))) dX5_issueOffsets_1 (by omega) sc_0 rfl inX5 (by decide) rfl (zvR rfl) rfl k_215 ?_
  refine zr_iloadn X 1 dX5_issueOffsets_4 rfl ?_
  refine zr_dVq (C := RX2) (ci := 2) [.int (nI (f))] [] X (zK_ok A D tc tF tL tM) (d_firmAt0_t E μ (f := f) (hc) h8 (by omega)) k_273 k_274 k_275 k_2 k_276 hdX2_firmAt ⟨rfl, rfl⟩ ⟨Nat.le_of_ble_eq_true rfl, Nat.le_of_ble_eq_true rfl⟩ (by omega) (sc_st (j := 0) (by omega) (by have := cb_0; omega)) rfl rfl rfl (Nat.le_of_ble_eq_true rfl) dX5_issueOffsets_5 rfl ?_
  refine zr_astore X [1, 2, 3, 4, 0] [(0, .ref (ad (0))), (1, .int (nI (f))), (2, .int (x)), (3, .int (y)), (4, .ref (ad (4 * f + 4)))] dX5_issueOffsets_8 (by decide) rfl ?_
  refine zr_aload X 4 dX5_issueOffsets_10 rfl ?_
  refine zr_ifnull X dX5_issueOffsets_12 ?_
  refine zr_iloadn X 2 dX5_issueOffsets_15 rfl ?_
  refine zr_dSi [.int (x)] [] X (zK_ok A D tc tF tL tM) (d_isGrade_f E μ hx) k_288 k_289 k_1 k_290 hdX5_isGrade ⟨rfl, rfl⟩ ⟨Nat.le_of_ble_eq_true rfl, Nat.le_of_ble_eq_true rfl⟩ rfl rfl (Nat.le_of_ble_eq_true rfl) dX5_issueOffsets_16 ?_
  refine zr_if_ne X 24 dX5_issueOffsets_19 (by decide) (fun q => absurd (zq_eq0 (by omega)) q) (fun _ => ?_)
  refine zr_iconst X (-1) dX5_issueOffsets_22 (by decide +kernel) ?_
  exact zr_iret X dX5_issueOffsets_23 ⟨rfl, rfl⟩

set_option maxHeartbeats 4000000 in
set_option maxRecDepth 100000 in
theorem d_issueOffsets_b {l : Launch} {D : va_G} {tc : Nat → ClassId} {ad : Nat → Nat} {A : Nat → Prop} {tF tL tM : Nat} (E : zN 299 A ad) (μ : Nat → Int32) {m c ro z : Nat} (S : clsS μ m c ro z) {f : Nat} (hf : f < c) {g : Nat} (hg : g ≤ 2) {x : Int32} (hx : ¬ zin x 1 9999)  : zMi l yX5_issueOffsets cX5_issueOffsets 5 (some .int) (zrm 5) (zK A D tc tF tL tM) A D vwCl tc ad 299 shC [.ref (ad (0)), .int (nI (f)), .int (nI (g)), .int (x)] μ (fun r u => r = -2 ∧ u = μ) := by
  refine zM_of RX5 [(0, .ref (ad (0))), (1, .int (nI (f))), (2, .int (nI (g))), (3, .int (x))] (zK_ok A D tc tF tL tM) E.1 E.2 owC_ok (by decide +kernel) rfl (Nat.le_of_ble_eq_true rfl) rfl ?_
  intro pP eE sS mM aS bL mT cO X
  obtain ⟨hm, hm2, hc, h8, hr, hr4, hz, hz4⟩ := S
  refine zr_aloadn X 0 dX5_issueOffsets_0 rfl ?_
  refine zr_get X (ci := 5) (q := 0) (zR _) (.ref (ad (1))) dX5_issueOffsets_1 (by omega) sc_0 rfl inX5 (by decide) rfl (zvR rfl) rfl k_215 ?_
  refine zr_iloadn X 1 dX5_issueOffsets_4 rfl ?_
  refine zr_dVq (C := RX2) (ci := 2) [.int (nI (f))] [] X (zK_ok A D tc tF tL tM) (d_firmAt0_t E μ (f := f) (hc) h8 (by omega)) k_273 k_274 k_275 k_2 k_276 hdX2_firmAt ⟨rfl, rfl⟩ ⟨Nat.le_of_ble_eq_true rfl, Nat.le_of_ble_eq_true rfl⟩ (by omega) (sc_st (j := 0) (by omega) (by have := cb_0; omega)) rfl rfl rfl (Nat.le_of_ble_eq_true rfl) dX5_issueOffsets_5 rfl ?_
  refine zr_astore X [1, 2, 3, 4, 0] [(0, .ref (ad (0))), (1, .int (nI (f))), (2, .int (nI (g))), (3, .int (x)), (4, .ref (ad (4 * f + 4)))] dX5_issueOffsets_8 (by decide) rfl ?_
  refine zr_aload X 4 dX5_issueOffsets_10 rfl ?_
  refine zr_ifnull X dX5_issueOffsets_12 ?_
  refine zr_iloadn X 2 dX5_issueOffsets_15 rfl ?_
  refine zr_dSi [.int (nI (g))] [] X (zK_ok A D tc tF tL tM) (d_isGrade_t E μ (by omega) (by omega)) k_288 k_289 k_1 k_290 hdX5_isGrade ⟨rfl, rfl⟩ ⟨Nat.le_of_ble_eq_true rfl, Nat.le_of_ble_eq_true rfl⟩ rfl rfl (Nat.le_of_ble_eq_true rfl) dX5_issueOffsets_16 ?_
  refine zr_if_ne X 24 dX5_issueOffsets_19 (by decide) (fun _ => ?_) (fun q => absurd q (nI_ne0 (by omega) (by omega)))
  refine zr_iloadn X 3 dX5_issueOffsets_24 rfl ?_
  refine zr_dSi [.int (x)] [] X (zK_ok A D tc tF tL tM) (d_isTonnes_f E μ hx) k_277 k_278 k_1 k_279 hdX5_isTonnes ⟨rfl, rfl⟩ ⟨Nat.le_of_ble_eq_true rfl, Nat.le_of_ble_eq_true rfl⟩ rfl rfl (Nat.le_of_ble_eq_true rfl) dX5_issueOffsets_25 ?_
  refine zr_if_ne X 34 dX5_issueOffsets_28 (by decide) (fun q => absurd (zq_eq0 (by omega)) q) (fun _ => ?_)
  refine zr_bipush X (-2) dX5_issueOffsets_31 (by decide +kernel) ?_
  exact zr_iret X dX5_issueOffsets_33 ⟨rfl, rfl⟩

set_option maxHeartbeats 4000000 in
set_option maxRecDepth 100000 in
theorem d_issueOffsets_ok {l : Launch} {D : va_G} {tc : Nat → ClassId} {ad : Nat → Nat} {A : Nat → Prop} {tF tL tM : Nat} (E : zN 299 A ad) (μ : Nat → Int32) {m c ro z : Nat} (S : clsS μ m c ro z) {f : Nat} (hf : f < c) {g : Nat} (hg : g ≤ 2) {t : Nat} (ht1 : 1 ≤ t) (ht9 : t ≤ 9999)  : zMi l yX5_issueOffsets cX5_issueOffsets 5 (some .int) (zrm 5) (zK A D tc tF tL tM) A D vwCl tc ad 299 shC [.ref (ad (0)), .int (nI (f)), .int (nI (g)), .int (nI (t))] μ (fun r u => r = μ (32 * f + g + 27) + nI t ∧ u = (upd (upd (zpush μ (ro) (z)) (32 * f + g + 27) (μ (32 * f + g + 27) + nI (t))) (g + 343) (μ (g + 343) + nI (t)))) := by
  refine zM_of RX5 [(0, .ref (ad (0))), (1, .int (nI (f))), (2, .int (nI (g))), (3, .int (nI (t)))] (zK_ok A D tc tF tL tM) E.1 E.2 owC_ok (by decide +kernel) rfl (Nat.le_of_ble_eq_true rfl) rfl ?_
  intro pP eE sS mM aS bL mT cO X
  obtain ⟨hm, hm2, hc, h8, hr, hr4, hz, hz4⟩ := S
  refine zr_aloadn X 0 dX5_issueOffsets_0 rfl ?_
  refine zr_get X (ci := 5) (q := 0) (zR _) (.ref (ad (1))) dX5_issueOffsets_1 (by omega) sc_0 rfl inX5 (by decide) rfl (zvR rfl) rfl k_215 ?_
  refine zr_iloadn X 1 dX5_issueOffsets_4 rfl ?_
  refine zr_dVq (C := RX2) (ci := 2) [.int (nI (f))] [] X (zK_ok A D tc tF tL tM) (d_firmAt0_t E μ (f := f) (hc) h8 (by omega)) k_273 k_274 k_275 k_2 k_276 hdX2_firmAt ⟨rfl, rfl⟩ ⟨Nat.le_of_ble_eq_true rfl, Nat.le_of_ble_eq_true rfl⟩ (by omega) (sc_st (j := 0) (by omega) (by have := cb_0; omega)) rfl rfl rfl (Nat.le_of_ble_eq_true rfl) dX5_issueOffsets_5 rfl ?_
  refine zr_astore X [1, 2, 3, 4, 0] [(0, .ref (ad (0))), (1, .int (nI (f))), (2, .int (nI (g))), (3, .int (nI (t))), (4, .ref (ad (4 * f + 4)))] dX5_issueOffsets_8 (by decide) rfl ?_
  refine zr_aload X 4 dX5_issueOffsets_10 rfl ?_
  refine zr_ifnull X dX5_issueOffsets_12 ?_
  refine zr_iloadn X 2 dX5_issueOffsets_15 rfl ?_
  refine zr_dSi [.int (nI (g))] [] X (zK_ok A D tc tF tL tM) (d_isGrade_t E μ (by omega) (by omega)) k_288 k_289 k_1 k_290 hdX5_isGrade ⟨rfl, rfl⟩ ⟨Nat.le_of_ble_eq_true rfl, Nat.le_of_ble_eq_true rfl⟩ rfl rfl (Nat.le_of_ble_eq_true rfl) dX5_issueOffsets_16 ?_
  refine zr_if_ne X 24 dX5_issueOffsets_19 (by decide) (fun _ => ?_) (fun q => absurd q (nI_ne0 (by omega) (by omega)))
  refine zr_iloadn X 3 dX5_issueOffsets_24 rfl ?_
  refine zr_dSi [.int (nI (t))] [] X (zK_ok A D tc tF tL tM) (d_isTonnes_t E μ (by omega) (by omega)) k_277 k_278 k_1 k_279 hdX5_isTonnes ⟨rfl, rfl⟩ ⟨Nat.le_of_ble_eq_true rfl, Nat.le_of_ble_eq_true rfl⟩ rfl rfl (Nat.le_of_ble_eq_true rfl) dX5_issueOffsets_25 ?_
  refine zr_if_ne X 34 dX5_issueOffsets_28 (by decide) (fun _ => ?_) (fun q => absurd q (nI_ne0 (by omega) (by omega)))
  refine zr_aloadn X 0 dX5_issueOffsets_34 rfl ?_
  refine zr_get X (ci := 5) (q := 3) (zR _) (.ref (ad (124))) dX5_issueOffsets_35 (by omega) sc_0 rfl inX5 (by decide) rfl (zvR rfl) rfl k_218 ?_
  refine zr_aloadn X 0 dX5_issueOffsets_38 rfl ?_
  refine zr_get X (ci := 5) (q := 0) (zR _) (.ref (ad (1))) dX5_issueOffsets_39 (by omega) sc_0 rfl inX5 (by decide) rfl (zvR rfl) rfl k_215 ?_
  refine zr_dVv (C := RX1) (ci := 1) [.ref (ad (1))] [] X (zK_ok A D tc tF tL tM) (d_push E μ (hr) hr4 (hz) hz4) k_241 k_242 k_243 k_4 k_244 hdX1_push ⟨rfl, rfl⟩ ⟨Nat.le_of_ble_eq_true rfl, Nat.le_of_ble_eq_true rfl⟩ (by omega) sc_124 rfl rfl rfl (Nat.le_of_ble_eq_true rfl) dX5_issueOffsets_42 ?_
  refine zr_aload X 4 dX5_issueOffsets_45 rfl ?_
  refine zr_get X (ci := 0) (q := 1) (zR _) (.ref (ad (4 * f + 6))) dX5_issueOffsets_47 (by omega) (sc_firm (j := 0) (i := f) (by omega) (by omega) (by have := cb_0; omega)) rfl inX0 (by decide) rfl (zvR (by have := cb_0; omega)) rfl k_45 ?_
  refine zr_iloadn X 2 dX5_issueOffsets_50 rfl ?_
  refine zr_dup2 X dX5_issueOffsets_51 rfl rfl ?_
  refine zr_iald X (j := g) 0 (μ (32 * f + g + 27)) dX5_issueOffsets_52 (by omega) (sc_off (j := 0) (i := f) (by omega) (by omega) (by have := cb_0; omega)) rfl rfl (by omega) (by omega) (zcg (b := 32 * f + g + 27) (by omega) (zpush_lo (by omega) hr4)) ?_
  refine zr_iloadn X 3 dX5_issueOffsets_53 rfl ?_
  refine zr_iadd X ((μ (32 * f + g + 27)) + (nI (t))) dX5_issueOffsets_54 rfl ?_
  refine zr_iast X (j := g) 0 (32 * f + g + 27) dX5_issueOffsets_55 (by omega) (sc_off (j := 0) (i := f) (by omega) (by omega) (by have := cb_0; omega)) rfl rfl (by omega) (by omega) (by omega) ?_
  refine zr_aloadn X 0 dX5_issueOffsets_56 rfl ?_
  refine zr_get X (ci := 5) (q := 0) (zR _) (.ref (ad (1))) dX5_issueOffsets_57 (by omega) sc_0 rfl inX5 (by decide) rfl (zvR rfl) rfl k_215 ?_
  refine zr_get X (ci := 2) (q := 8) (zR _) (.ref (ad (40))) dX5_issueOffsets_60 (by omega) (sc_st (j := 0) (by omega) (by have := cb_0; omega)) rfl inX2 (by decide) rfl (zvR (by have := cb_0; omega)) rfl k_99 ?_
  refine zr_iloadn X 2 dX5_issueOffsets_63 rfl ?_
  refine zr_dup2 X dX5_issueOffsets_64 rfl rfl ?_
  refine zr_iald X (j := g) 0 (μ (g + 343)) dX5_issueOffsets_65 (by omega) (sc_oi (j := 0) (by omega) (by have := cb_0; omega)) rfl rfl (by omega) (by omega) (zcg (b := g + 343) (by omega) ((pk_un (by omega)).trans (zpush_lo (by omega) hr4))) ?_
  refine zr_iloadn X 3 dX5_issueOffsets_66 rfl ?_
  refine zr_iadd X ((μ (g + 343)) + (nI (t))) dX5_issueOffsets_67 rfl ?_
  refine zr_iast X (j := g) 0 (g + 343) dX5_issueOffsets_68 (by omega) (sc_oi (j := 0) (by omega) (by have := cb_0; omega)) rfl rfl (by omega) (by omega) (by omega) ?_
  refine zr_aload X 4 dX5_issueOffsets_69 rfl ?_
  refine zr_get X (ci := 0) (q := 1) (zR _) (.ref (ad (4 * f + 6))) dX5_issueOffsets_71 (by omega) (sc_firm (j := 0) (i := f) (by omega) (by omega) (by have := cb_0; omega)) rfl inX0 (by decide) rfl (zvR (by have := cb_0; omega)) rfl k_45 ?_
  refine zr_iloadn X 2 dX5_issueOffsets_74 rfl ?_
  refine zr_iald X (j := g) 0 ((μ (32 * f + g + 27)) + (nI (t))) dX5_issueOffsets_75 (by omega) (sc_off (j := 0) (i := f) (by omega) (by omega) (by have := cb_0; omega)) rfl rfl (by omega) (by omega) (zcg (b := 32 * f + g + 27) (by omega) ((pk_un (by omega)).trans (pk_us))) ?_
  exact zr_iret X dX5_issueOffsets_76 ⟨rfl, rfl⟩

set_option maxHeartbeats 4000000 in
set_option maxRecDepth 100000 in
theorem d_transfer_u1 {l : Launch} {D : va_G} {tc : Nat → ClassId} {ad : Nat → Nat} {A : Nat → Prop} {tF tL tM : Nat} (E : zN 299 A ad) (μ : Nat → Int32) {m c ro z : Nat} (S : clsS μ m c ro z) {x : Int32} (hx : ¬ zfm x c) (to : Int32) (v : Int32) (t : Int32)  : zMi l yX5_transfer cX5_transfer 6 (some .int) (zrm 5) (zK A D tc tF tL tM) A D vwCl tc ad 299 shC [.ref (ad (0)), .int (x), .int (to), .int (v), .int (t)] μ (fun r u => r = -1 ∧ u = μ) := by
  refine zM_of RX5 [(0, .ref (ad (0))), (1, .int (x)), (2, .int (to)), (3, .int (v)), (4, .int (t))] (zK_ok A D tc tF tL tM) E.1 E.2 owC_ok (by decide +kernel) rfl (Nat.le_of_ble_eq_true rfl) rfl ?_
  intro pP eE sS mM aS bL mT cO X
  obtain ⟨hm, hm2, hc, h8, hr, hr4, hz, hz4⟩ := S
  refine zr_aloadn X 0 dX5_transfer_0 rfl ?_
  refine zr_get X (ci := 5) (q := 0) (zR _) (.ref (ad (1))) dX5_transfer_1 (by omega) sc_0 rfl inX5 (by decide) rfl (zvR rfl) rfl k_215 ?_
  refine zr_iloadn X 1 dX5_transfer_4 rfl ?_
  refine zr_iloadn X 2 dX5_transfer_5 rfl ?_
  refine zr_iloadn X 3 dX5_transfer_6 rfl ?_
  refine zr_iload X 4 dX5_transfer_7 rfl ?_
  refine zr_dVi (C := RX2) (ci := 2) [.int (x), .int (to), .int (v), .int (t)] [] X (zK_ok A D tc tF tL tM) (d_moveError0_u1 E μ (hc) h8 hx _ _ _) k_295 k_296 k_297 k_2 k_298 hdX2_moveError ⟨rfl, rfl⟩ ⟨Nat.le_of_ble_eq_true rfl, Nat.le_of_ble_eq_true rfl⟩ (by omega) (sc_st (j := 0) (by omega) (by have := cb_0; omega)) rfl rfl rfl (Nat.le_of_ble_eq_true rfl) dX5_transfer_9 ?_
  refine zr_istore X [1, 2, 3, 4, 5, 0] [(0, .ref (ad (0))), (1, .int (x)), (2, .int (to)), (3, .int (v)), (4, .int (t)), (5, .int (-1))] dX5_transfer_12 (by decide) rfl ?_
  refine zr_iload X 5 dX5_transfer_14 rfl ?_
  refine zr_if_eq X 22 dX5_transfer_16 (by decide) (fun q => absurd q (by decide)) (fun _ => ?_)
  refine zr_iload X 5 dX5_transfer_19 rfl ?_
  exact zr_iret X dX5_transfer_21 ⟨rfl, rfl⟩

set_option maxHeartbeats 4000000 in
set_option maxRecDepth 100000 in
theorem d_transfer_u2 {l : Launch} {D : va_G} {tc : Nat → ClassId} {ad : Nat → Nat} {A : Nat → Prop} {tF tL tM : Nat} (E : zN 299 A ad) (μ : Nat → Int32) {m c ro z : Nat} (S : clsS μ m c ro z) {f : Nat} (hf : f < c) {x : Int32} (hx : ¬ zfm x c) (v : Int32) (t : Int32)  : zMi l yX5_transfer cX5_transfer 6 (some .int) (zrm 5) (zK A D tc tF tL tM) A D vwCl tc ad 299 shC [.ref (ad (0)), .int (nI (f)), .int (x), .int (v), .int (t)] μ (fun r u => r = -1 ∧ u = μ) := by
  refine zM_of RX5 [(0, .ref (ad (0))), (1, .int (nI (f))), (2, .int (x)), (3, .int (v)), (4, .int (t))] (zK_ok A D tc tF tL tM) E.1 E.2 owC_ok (by decide +kernel) rfl (Nat.le_of_ble_eq_true rfl) rfl ?_
  intro pP eE sS mM aS bL mT cO X
  obtain ⟨hm, hm2, hc, h8, hr, hr4, hz, hz4⟩ := S
  refine zr_aloadn X 0 dX5_transfer_0 rfl ?_
  refine zr_get X (ci := 5) (q := 0) (zR _) (.ref (ad (1))) dX5_transfer_1 (by omega) sc_0 rfl inX5 (by decide) rfl (zvR rfl) rfl k_215 ?_
  refine zr_iloadn X 1 dX5_transfer_4 rfl ?_
  refine zr_iloadn X 2 dX5_transfer_5 rfl ?_
  refine zr_iloadn X 3 dX5_transfer_6 rfl ?_
  refine zr_iload X 4 dX5_transfer_7 rfl ?_
  refine zr_dVi (C := RX2) (ci := 2) [.int (nI (f)), .int (x), .int (v), .int (t)] [] X (zK_ok A D tc tF tL tM) (d_moveError0_u2 E μ (hc) h8 hf hx _ _) k_295 k_296 k_297 k_2 k_298 hdX2_moveError ⟨rfl, rfl⟩ ⟨Nat.le_of_ble_eq_true rfl, Nat.le_of_ble_eq_true rfl⟩ (by omega) (sc_st (j := 0) (by omega) (by have := cb_0; omega)) rfl rfl rfl (Nat.le_of_ble_eq_true rfl) dX5_transfer_9 ?_
  refine zr_istore X [1, 2, 3, 4, 5, 0] [(0, .ref (ad (0))), (1, .int (nI (f))), (2, .int (x)), (3, .int (v)), (4, .int (t)), (5, .int (-1))] dX5_transfer_12 (by decide) rfl ?_
  refine zr_iload X 5 dX5_transfer_14 rfl ?_
  refine zr_if_eq X 22 dX5_transfer_16 (by decide) (fun q => absurd q (by decide)) (fun _ => ?_)
  refine zr_iload X 5 dX5_transfer_19 rfl ?_
  exact zr_iret X dX5_transfer_21 ⟨rfl, rfl⟩

set_option maxHeartbeats 4000000 in
set_option maxRecDepth 100000 in
theorem d_transfer_u3 {l : Launch} {D : va_G} {tc : Nat → ClassId} {ad : Nat → Nat} {A : Nat → Prop} {tF tL tM : Nat} (E : zN 299 A ad) (μ : Nat → Int32) {m c ro z : Nat} (S : clsS μ m c ro z) {f f2 : Nat} (hf : f < c) (hf2 : f2 < c) {x : Int32} (hx : ¬ zin x 0 19) (t : Int32)  : zMi l yX5_transfer cX5_transfer 6 (some .int) (zrm 5) (zK A D tc tF tL tM) A D vwCl tc ad 299 shC [.ref (ad (0)), .int (nI (f)), .int (nI (f2)), .int (x), .int (t)] μ (fun r u => r = -1 ∧ u = μ) := by
  refine zM_of RX5 [(0, .ref (ad (0))), (1, .int (nI (f))), (2, .int (nI (f2))), (3, .int (x)), (4, .int (t))] (zK_ok A D tc tF tL tM) E.1 E.2 owC_ok (by decide +kernel) rfl (Nat.le_of_ble_eq_true rfl) rfl ?_
  intro pP eE sS mM aS bL mT cO X
  obtain ⟨hm, hm2, hc, h8, hr, hr4, hz, hz4⟩ := S
  refine zr_aloadn X 0 dX5_transfer_0 rfl ?_
  refine zr_get X (ci := 5) (q := 0) (zR _) (.ref (ad (1))) dX5_transfer_1 (by omega) sc_0 rfl inX5 (by decide) rfl (zvR rfl) rfl k_215 ?_
  refine zr_iloadn X 1 dX5_transfer_4 rfl ?_
  refine zr_iloadn X 2 dX5_transfer_5 rfl ?_
  refine zr_iloadn X 3 dX5_transfer_6 rfl ?_
  refine zr_iload X 4 dX5_transfer_7 rfl ?_
  refine zr_dVi (C := RX2) (ci := 2) [.int (nI (f)), .int (nI (f2)), .int (x), .int (t)] [] X (zK_ok A D tc tF tL tM) (d_moveError0_u3 E μ (hc) h8 hf hf2 hx _) k_295 k_296 k_297 k_2 k_298 hdX2_moveError ⟨rfl, rfl⟩ ⟨Nat.le_of_ble_eq_true rfl, Nat.le_of_ble_eq_true rfl⟩ (by omega) (sc_st (j := 0) (by omega) (by have := cb_0; omega)) rfl rfl rfl (Nat.le_of_ble_eq_true rfl) dX5_transfer_9 ?_
  refine zr_istore X [1, 2, 3, 4, 5, 0] [(0, .ref (ad (0))), (1, .int (nI (f))), (2, .int (nI (f2))), (3, .int (x)), (4, .int (t)), (5, .int (-1))] dX5_transfer_12 (by decide) rfl ?_
  refine zr_iload X 5 dX5_transfer_14 rfl ?_
  refine zr_if_eq X 22 dX5_transfer_16 (by decide) (fun q => absurd q (by decide)) (fun _ => ?_)
  refine zr_iload X 5 dX5_transfer_19 rfl ?_
  exact zr_iret X dX5_transfer_21 ⟨rfl, rfl⟩

set_option maxHeartbeats 4000000 in
set_option maxRecDepth 100000 in
theorem d_transfer_b1 {l : Launch} {D : va_G} {tc : Nat → ClassId} {ad : Nat → Nat} {A : Nat → Prop} {tF tL tM : Nat} (E : zN 299 A ad) (μ : Nat → Int32) {m c ro z : Nat} (S : clsS μ m c ro z) {f f2 : Nat} (hf : f < c) (hf2 : f2 < c) {v : Nat} (hv : v ≤ 19) {x : Int32} (hx : ¬ zin x 1 9999)  : zMi l yX5_transfer cX5_transfer 6 (some .int) (zrm 5) (zK A D tc tF tL tM) A D vwCl tc ad 299 shC [.ref (ad (0)), .int (nI (f)), .int (nI (f2)), .int (nI (v)), .int (x)] μ (fun r u => r = -2 ∧ u = μ) := by
  refine zM_of RX5 [(0, .ref (ad (0))), (1, .int (nI (f))), (2, .int (nI (f2))), (3, .int (nI (v))), (4, .int (x))] (zK_ok A D tc tF tL tM) E.1 E.2 owC_ok (by decide +kernel) rfl (Nat.le_of_ble_eq_true rfl) rfl ?_
  intro pP eE sS mM aS bL mT cO X
  obtain ⟨hm, hm2, hc, h8, hr, hr4, hz, hz4⟩ := S
  refine zr_aloadn X 0 dX5_transfer_0 rfl ?_
  refine zr_get X (ci := 5) (q := 0) (zR _) (.ref (ad (1))) dX5_transfer_1 (by omega) sc_0 rfl inX5 (by decide) rfl (zvR rfl) rfl k_215 ?_
  refine zr_iloadn X 1 dX5_transfer_4 rfl ?_
  refine zr_iloadn X 2 dX5_transfer_5 rfl ?_
  refine zr_iloadn X 3 dX5_transfer_6 rfl ?_
  refine zr_iload X 4 dX5_transfer_7 rfl ?_
  refine zr_dVi (C := RX2) (ci := 2) [.int (nI (f)), .int (nI (f2)), .int (nI (v)), .int (x)] [] X (zK_ok A D tc tF tL tM) (d_moveError0_b1 E μ (hc) h8 hf hf2 hv hx) k_295 k_296 k_297 k_2 k_298 hdX2_moveError ⟨rfl, rfl⟩ ⟨Nat.le_of_ble_eq_true rfl, Nat.le_of_ble_eq_true rfl⟩ (by omega) (sc_st (j := 0) (by omega) (by have := cb_0; omega)) rfl rfl rfl (Nat.le_of_ble_eq_true rfl) dX5_transfer_9 ?_
  refine zr_istore X [1, 2, 3, 4, 5, 0] [(0, .ref (ad (0))), (1, .int (nI (f))), (2, .int (nI (f2))), (3, .int (nI (v))), (4, .int (x)), (5, .int (-2))] dX5_transfer_12 (by decide) rfl ?_
  refine zr_iload X 5 dX5_transfer_14 rfl ?_
  refine zr_if_eq X 22 dX5_transfer_16 (by decide) (fun q => absurd q (by decide)) (fun _ => ?_)
  refine zr_iload X 5 dX5_transfer_19 rfl ?_
  exact zr_iret X dX5_transfer_21 ⟨rfl, rfl⟩

set_option maxHeartbeats 4000000 in
set_option maxRecDepth 100000 in
theorem d_transfer_b2 {l : Launch} {D : va_G} {tc : Nat → ClassId} {ad : Nat → Nat} {A : Nat → Prop} {tF tL tM : Nat} (E : zN 299 A ad) (μ : Nat → Int32) {m c ro z : Nat} (S : clsS μ m c ro z) {f : Nat} (hf : f < c) {v : Nat} (hv : v ≤ 19) {t : Nat} (ht1 : 1 ≤ t) (ht9 : t ≤ 9999)  : zMi l yX5_transfer cX5_transfer 6 (some .int) (zrm 5) (zK A D tc tF tL tM) A D vwCl tc ad 299 shC [.ref (ad (0)), .int (nI (f)), .int (nI (f)), .int (nI (v)), .int (nI (t))] μ (fun r u => r = -2 ∧ u = μ) := by
  refine zM_of RX5 [(0, .ref (ad (0))), (1, .int (nI (f))), (2, .int (nI (f))), (3, .int (nI (v))), (4, .int (nI (t)))] (zK_ok A D tc tF tL tM) E.1 E.2 owC_ok (by decide +kernel) rfl (Nat.le_of_ble_eq_true rfl) rfl ?_
  intro pP eE sS mM aS bL mT cO X
  obtain ⟨hm, hm2, hc, h8, hr, hr4, hz, hz4⟩ := S
  refine zr_aloadn X 0 dX5_transfer_0 rfl ?_
  refine zr_get X (ci := 5) (q := 0) (zR _) (.ref (ad (1))) dX5_transfer_1 (by omega) sc_0 rfl inX5 (by decide) rfl (zvR rfl) rfl k_215 ?_
  refine zr_iloadn X 1 dX5_transfer_4 rfl ?_
  refine zr_iloadn X 2 dX5_transfer_5 rfl ?_
  refine zr_iloadn X 3 dX5_transfer_6 rfl ?_
  refine zr_iload X 4 dX5_transfer_7 rfl ?_
  refine zr_dVi (C := RX2) (ci := 2) [.int (nI (f)), .int (nI (f)), .int (nI (v)), .int (nI (t))] [] X (zK_ok A D tc tF tL tM) (d_moveError0_b2 E μ (hc) h8 hf hv ht1 ht9) k_295 k_296 k_297 k_2 k_298 hdX2_moveError ⟨rfl, rfl⟩ ⟨Nat.le_of_ble_eq_true rfl, Nat.le_of_ble_eq_true rfl⟩ (by omega) (sc_st (j := 0) (by omega) (by have := cb_0; omega)) rfl rfl rfl (Nat.le_of_ble_eq_true rfl) dX5_transfer_9 ?_
  refine zr_istore X [1, 2, 3, 4, 5, 0] [(0, .ref (ad (0))), (1, .int (nI (f))), (2, .int (nI (f))), (3, .int (nI (v))), (4, .int (nI (t))), (5, .int (-2))] dX5_transfer_12 (by decide) rfl ?_
  refine zr_iload X 5 dX5_transfer_14 rfl ?_
  refine zr_if_eq X 22 dX5_transfer_16 (by decide) (fun q => absurd q (by decide)) (fun _ => ?_)
  refine zr_iload X 5 dX5_transfer_19 rfl ?_
  exact zr_iret X dX5_transfer_21 ⟨rfl, rfl⟩

set_option maxHeartbeats 4000000 in
set_option maxRecDepth 100000 in
theorem d_transfer_n {l : Launch} {D : va_G} {tc : Nat → ClassId} {ad : Nat → Nat} {A : Nat → Prop} {tF tL tM : Nat} (E : zN 299 A ad) (μ : Nat → Int32) {m c ro z : Nat} (S : clsS μ m c ro z) {f f2 : Nat} (hf : f < c) (hf2 : f2 < c) {v : Nat} (hv : v ≤ 19) {t : Nat} (ht1 : 1 ≤ t) (ht9 : t ≤ 9999) (hne : f ≠ f2) (h : ¬ nI t ≤ μ (32 * f + v + 7)) : zMi l yX5_transfer cX5_transfer 6 (some .int) (zrm 5) (zK A D tc tF tL tM) A D vwCl tc ad 299 shC [.ref (ad (0)), .int (nI (f)), .int (nI (f2)), .int (nI (v)), .int (nI (t))] μ (fun r u => r = -4 ∧ u = μ) := by
  refine zM_of RX5 [(0, .ref (ad (0))), (1, .int (nI (f))), (2, .int (nI (f2))), (3, .int (nI (v))), (4, .int (nI (t)))] (zK_ok A D tc tF tL tM) E.1 E.2 owC_ok (by decide +kernel) rfl (Nat.le_of_ble_eq_true rfl) rfl ?_
  intro pP eE sS mM aS bL mT cO X
  obtain ⟨hm, hm2, hc, h8, hr, hr4, hz, hz4⟩ := S
  refine zr_aloadn X 0 dX5_transfer_0 rfl ?_
  refine zr_get X (ci := 5) (q := 0) (zR _) (.ref (ad (1))) dX5_transfer_1 (by omega) sc_0 rfl inX5 (by decide) rfl (zvR rfl) rfl k_215 ?_
  refine zr_iloadn X 1 dX5_transfer_4 rfl ?_
  refine zr_iloadn X 2 dX5_transfer_5 rfl ?_
  refine zr_iloadn X 3 dX5_transfer_6 rfl ?_
  refine zr_iload X 4 dX5_transfer_7 rfl ?_
  refine zr_dVi (C := RX2) (ci := 2) [.int (nI (f)), .int (nI (f2)), .int (nI (v)), .int (nI (t))] [] X (zK_ok A D tc tF tL tM) (d_moveError0_n E μ (hc) h8 hf hf2 hv ht1 ht9 hne h) k_295 k_296 k_297 k_2 k_298 hdX2_moveError ⟨rfl, rfl⟩ ⟨Nat.le_of_ble_eq_true rfl, Nat.le_of_ble_eq_true rfl⟩ (by omega) (sc_st (j := 0) (by omega) (by have := cb_0; omega)) rfl rfl rfl (Nat.le_of_ble_eq_true rfl) dX5_transfer_9 ?_
  refine zr_istore X [1, 2, 3, 4, 5, 0] [(0, .ref (ad (0))), (1, .int (nI (f))), (2, .int (nI (f2))), (3, .int (nI (v))), (4, .int (nI (t))), (5, .int (-4))] dX5_transfer_12 (by decide) rfl ?_
  refine zr_iload X 5 dX5_transfer_14 rfl ?_
  refine zr_if_eq X 22 dX5_transfer_16 (by decide) (fun q => absurd q (by decide)) (fun _ => ?_)
  refine zr_iload X 5 dX5_transfer_19 rfl ?_
  exact zr_iret X dX5_transfer_21 ⟨rfl, rfl⟩

set_option maxHeartbeats 4000000 in
set_option maxRecDepth 100000 in
theorem d_transfer_ok {l : Launch} {D : va_G} {tc : Nat → ClassId} {ad : Nat → Nat} {A : Nat → Prop} {tF tL tM : Nat} (E : zN 299 A ad) (μ : Nat → Int32) {m c ro z : Nat} (S : clsS μ m c ro z) {f f2 : Nat} (hf : f < c) (hf2 : f2 < c) {v : Nat} (hv : v ≤ 19) {t : Nat} (ht1 : 1 ≤ t) (ht9 : t ≤ 9999) (hne : f ≠ f2) (h : nI t ≤ μ (32 * f + v + 7)) : zMi l yX5_transfer cX5_transfer 6 (some .int) (zrm 5) (zK A D tc tF tL tM) A D vwCl tc ad 299 shC [.ref (ad (0)), .int (nI (f)), .int (nI (f2)), .int (nI (v)), .int (nI (t))] μ (fun r u => r = μ (32 * f + v + 7) - nI (t) ∧ u = (upd (upd (zpush μ (ro) (z)) (32 * f + v + 7) (μ (32 * f + v + 7) - nI (t))) (32 * f2 + v + 7) (μ (32 * f2 + v + 7) + nI (t)))) := by
  refine zM_of RX5 [(0, .ref (ad (0))), (1, .int (nI (f))), (2, .int (nI (f2))), (3, .int (nI (v))), (4, .int (nI (t)))] (zK_ok A D tc tF tL tM) E.1 E.2 owC_ok (by decide +kernel) rfl (Nat.le_of_ble_eq_true rfl) rfl ?_
  intro pP eE sS mM aS bL mT cO X
  obtain ⟨hm, hm2, hc, h8, hr, hr4, hz, hz4⟩ := S
  refine zr_aloadn X 0 dX5_transfer_0 rfl ?_
  refine zr_get X (ci := 5) (q := 0) (zR _) (.ref (ad (1))) dX5_transfer_1 (by omega) sc_0 rfl inX5 (by decide) rfl (zvR rfl) rfl k_215 ?_
  refine zr_iloadn X 1 dX5_transfer_4 rfl ?_
  refine zr_iloadn X 2 dX5_transfer_5 rfl ?_
  refine zr_iloadn X 3 dX5_transfer_6 rfl ?_
  refine zr_iload X 4 dX5_transfer_7 rfl ?_
  refine zr_dVi (C := RX2) (ci := 2) [.int (nI (f)), .int (nI (f2)), .int (nI (v)), .int (nI (t))] [] X (zK_ok A D tc tF tL tM) (d_moveError0_0 E μ (hc) h8 hf hf2 hv ht1 ht9 hne h) k_295 k_296 k_297 k_2 k_298 hdX2_moveError ⟨rfl, rfl⟩ ⟨Nat.le_of_ble_eq_true rfl, Nat.le_of_ble_eq_true rfl⟩ (by omega) (sc_st (j := 0) (by omega) (by have := cb_0; omega)) rfl rfl rfl (Nat.le_of_ble_eq_true rfl) dX5_transfer_9 ?_
  refine zr_istore X [1, 2, 3, 4, 5, 0] [(0, .ref (ad (0))), (1, .int (nI (f))), (2, .int (nI (f2))), (3, .int (nI (v))), (4, .int (nI (t))), (5, .int (nI (0)))] dX5_transfer_12 (by decide) rfl ?_
  refine zr_iload X 5 dX5_transfer_14 rfl ?_
  refine zr_if_eq X 22 dX5_transfer_16 (by decide) (fun _ => ?_) (fun q => absurd (zq_eq0 (by omega)) q)
  refine zr_aloadn X 0 dX5_transfer_22 rfl ?_
  refine zr_get X (ci := 5) (q := 3) (zR _) (.ref (ad (124))) dX5_transfer_23 (by omega) sc_0 rfl inX5 (by decide) rfl (zvR rfl) rfl k_218 ?_
  refine zr_aloadn X 0 dX5_transfer_26 rfl ?_
  refine zr_get X (ci := 5) (q := 0) (zR _) (.ref (ad (1))) dX5_transfer_27 (by omega) sc_0 rfl inX5 (by decide) rfl (zvR rfl) rfl k_215 ?_
  refine zr_dVv (C := RX1) (ci := 1) [.ref (ad (1))] [] X (zK_ok A D tc tF tL tM) (d_push E μ (hr) hr4 (hz) hz4) k_241 k_242 k_243 k_4 k_244 hdX1_push ⟨rfl, rfl⟩ ⟨Nat.le_of_ble_eq_true rfl, Nat.le_of_ble_eq_true rfl⟩ (by omega) sc_124 rfl rfl rfl (Nat.le_of_ble_eq_true rfl) dX5_transfer_30 ?_
  refine zr_aloadn X 0 dX5_transfer_33 rfl ?_
  refine zr_get X (ci := 5) (q := 0) (zR _) (.ref (ad (1))) dX5_transfer_34 (by omega) sc_0 rfl inX5 (by decide) rfl (zvR rfl) rfl k_215 ?_
  refine zr_iloadn X 1 dX5_transfer_37 rfl ?_
  refine zr_iloadn X 2 dX5_transfer_38 rfl ?_
  refine zr_iloadn X 3 dX5_transfer_39 rfl ?_
  refine zr_iload X 4 dX5_transfer_40 rfl ?_
  refine zr_dVi (C := RX2) (ci := 2) [.int (nI (f)), .int (nI (f2)), .int (nI (v)), .int (nI (t))] [] X (zK_ok A D tc tF tL tM) (d_mv E (zpush μ (ro) (z)) (t := nI (t)) ((zpush_lo (by omega) hr4).trans (hc)) h8 hf hf2 hv hne (pa := 32 * f + v + 7) (pb := 32 * f2 + v + 7) (by omega) (by omega) (zpush_lo (by omega) hr4) (zpush_lo (by omega) hr4)) k_304 k_305 k_306 k_2 k_307 hdX2_move ⟨rfl, rfl⟩ ⟨Nat.le_of_ble_eq_true rfl, Nat.le_of_ble_eq_true rfl⟩ (by omega) (sc_st (j := 0) (by omega) (by have := cb_0; omega)) rfl rfl rfl (Nat.le_of_ble_eq_true rfl) dX5_transfer_42 ?_
  exact zr_iret X dX5_transfer_45 ⟨rfl, rfl⟩

set_option maxHeartbeats 4000000 in
set_option maxRecDepth 100000 in
theorem d_transferOffsets_u1a {l : Launch} {D : va_G} {tc : Nat → ClassId} {ad : Nat → Nat} {A : Nat → Prop} {tF tL tM : Nat} (E : zN 299 A ad) (μ : Nat → Int32) {m c ro z : Nat} (S : clsS μ m c ro z) {x : Int32} (hx : ¬ zfm x c) {f2 : Nat} (hf2 : f2 < c) (g : Int32) (t : Int32)  : zMi l yX5_transferOffsets cX5_transferOffsets 7 (some .int) (zrm 5) (zK A D tc tF tL tM) A D vwCl tc ad 299 shC [.ref (ad (0)), .int (x), .int (nI (f2)), .int (g), .int (t)] μ (fun r u => r = -1 ∧ u = μ) := by
  refine zM_of RX5 [(0, .ref (ad (0))), (1, .int (x)), (2, .int (nI (f2))), (3, .int (g)), (4, .int (t))] (zK_ok A D tc tF tL tM) E.1 E.2 owC_ok (by decide +kernel) rfl (Nat.le_of_ble_eq_true rfl) rfl ?_
  intro pP eE sS mM aS bL mT cO X
  obtain ⟨hm, hm2, hc, h8, hr, hr4, hz, hz4⟩ := S
  refine zr_aloadn X 0 dX5_transferOffsets_0 rfl ?_
  refine zr_get X (ci := 5) (q := 0) (zR _) (.ref (ad (1))) dX5_transferOffsets_1 (by omega) sc_0 rfl inX5 (by decide) rfl (zvR rfl) rfl k_215 ?_
  refine zr_iloadn X 1 dX5_transferOffsets_4 rfl ?_
  refine zr_dVq (C := RX2) (ci := 2) [.int (x)] [] X (zK_ok A D tc tF tL tM) (d_firmAt0_f E μ (hc) h8 hx) k_273 k_274 k_275 k_2 k_276 hdX2_firmAt ⟨rfl, rfl⟩ ⟨Nat.le_of_ble_eq_true rfl, Nat.le_of_ble_eq_true rfl⟩ (by omega) (sc_st (j := 0) (by omega) (by have := cb_0; omega)) rfl rfl rfl (Nat.le_of_ble_eq_true rfl) dX5_transferOffsets_5 rfl ?_
  refine zr_astoreN X [1, 2, 3, 4, 5, 0] [(0, .ref (ad (0))), (1, .int (x)), (2, .int (nI (f2))), (3, .int (g)), (4, .int (t)), (5, .null)] dX5_transferOffsets_8 (by decide) rfl ?_
  refine zr_aloadn X 0 dX5_transferOffsets_10 rfl ?_
  refine zr_get X (ci := 5) (q := 0) (zR _) (.ref (ad (1))) dX5_transferOffsets_11 (by omega) sc_0 rfl inX5 (by decide) rfl (zvR rfl) rfl k_215 ?_
  refine zr_iloadn X 2 dX5_transferOffsets_14 rfl ?_
  refine zr_dVq (C := RX2) (ci := 2) [.int (nI (f2))] [] X (zK_ok A D tc tF tL tM) (d_firmAt0_t E μ (f := f2) (hc) h8 (by omega)) k_273 k_274 k_275 k_2 k_276 hdX2_firmAt ⟨rfl, rfl⟩ ⟨Nat.le_of_ble_eq_true rfl, Nat.le_of_ble_eq_true rfl⟩ (by omega) (sc_st (j := 0) (by omega) (by have := cb_0; omega)) rfl rfl rfl (Nat.le_of_ble_eq_true rfl) dX5_transferOffsets_15 rfl ?_
  refine zr_astore X [1, 2, 3, 4, 5, 6, 0] [(0, .ref (ad (0))), (1, .int (x)), (2, .int (nI (f2))), (3, .int (g)), (4, .int (t)), (5, .null), (6, .ref (ad (4 * f2 + 4)))] dX5_transferOffsets_18 (by decide) rfl ?_
  refine zr_aloadN X 5 dX5_transferOffsets_20 rfl ?_
  refine zr_ifnullN X 37 dX5_transferOffsets_22 (by decide) ?_
  refine zr_iconst X (-1) dX5_transferOffsets_37 (by decide +kernel) ?_
  exact zr_iret X dX5_transferOffsets_38 ⟨rfl, rfl⟩

set_option maxHeartbeats 4000000 in
set_option maxRecDepth 100000 in
theorem d_transferOffsets_u1b {l : Launch} {D : va_G} {tc : Nat → ClassId} {ad : Nat → Nat} {A : Nat → Prop} {tF tL tM : Nat} (E : zN 299 A ad) (μ : Nat → Int32) {m c ro z : Nat} (S : clsS μ m c ro z) {x : Int32} (hx : ¬ zfm x c) {x2 : Int32} (hx2 : ¬ zfm x2 c) (g : Int32) (t : Int32)  : zMi l yX5_transferOffsets cX5_transferOffsets 7 (some .int) (zrm 5) (zK A D tc tF tL tM) A D vwCl tc ad 299 shC [.ref (ad (0)), .int (x), .int (x2), .int (g), .int (t)] μ (fun r u => r = -1 ∧ u = μ) := by
  refine zM_of RX5 [(0, .ref (ad (0))), (1, .int (x)), (2, .int (x2)), (3, .int (g)), (4, .int (t))] (zK_ok A D tc tF tL tM) E.1 E.2 owC_ok (by decide +kernel) rfl (Nat.le_of_ble_eq_true rfl) rfl ?_
  intro pP eE sS mM aS bL mT cO X
  obtain ⟨hm, hm2, hc, h8, hr, hr4, hz, hz4⟩ := S
  refine zr_aloadn X 0 dX5_transferOffsets_0 rfl ?_
  refine zr_get X (ci := 5) (q := 0) (zR _) (.ref (ad (1))) dX5_transferOffsets_1 (by omega) sc_0 rfl inX5 (by decide) rfl (zvR rfl) rfl k_215 ?_
  refine zr_iloadn X 1 dX5_transferOffsets_4 rfl ?_
  refine zr_dVq (C := RX2) (ci := 2) [.int (x)] [] X (zK_ok A D tc tF tL tM) (d_firmAt0_f E μ (hc) h8 hx) k_273 k_274 k_275 k_2 k_276 hdX2_firmAt ⟨rfl, rfl⟩ ⟨Nat.le_of_ble_eq_true rfl, Nat.le_of_ble_eq_true rfl⟩ (by omega) (sc_st (j := 0) (by omega) (by have := cb_0; omega)) rfl rfl rfl (Nat.le_of_ble_eq_true rfl) dX5_transferOffsets_5 rfl ?_
  refine zr_astoreN X [1, 2, 3, 4, 5, 0] [(0, .ref (ad (0))), (1, .int (x)), (2, .int (x2)), (3, .int (g)), (4, .int (t)), (5, .null)] dX5_transferOffsets_8 (by decide) rfl ?_
  refine zr_aloadn X 0 dX5_transferOffsets_10 rfl ?_
  refine zr_get X (ci := 5) (q := 0) (zR _) (.ref (ad (1))) dX5_transferOffsets_11 (by omega) sc_0 rfl inX5 (by decide) rfl (zvR rfl) rfl k_215 ?_
  refine zr_iloadn X 2 dX5_transferOffsets_14 rfl ?_
  refine zr_dVq (C := RX2) (ci := 2) [.int (x2)] [] X (zK_ok A D tc tF tL tM) (d_firmAt0_f E μ (hc) h8 hx2) k_273 k_274 k_275 k_2 k_276 hdX2_firmAt ⟨rfl, rfl⟩ ⟨Nat.le_of_ble_eq_true rfl, Nat.le_of_ble_eq_true rfl⟩ (by omega) (sc_st (j := 0) (by omega) (by have := cb_0; omega)) rfl rfl rfl (Nat.le_of_ble_eq_true rfl) dX5_transferOffsets_15 rfl ?_
  refine zr_astoreN X [1, 2, 3, 4, 5, 6, 0] [(0, .ref (ad (0))), (1, .int (x)), (2, .int (x2)), (3, .int (g)), (4, .int (t)), (5, .null), (6, .null)] dX5_transferOffsets_18 (by decide) rfl ?_
  refine zr_aloadN X 5 dX5_transferOffsets_20 rfl ?_
  refine zr_ifnullN X 37 dX5_transferOffsets_22 (by decide) ?_
  refine zr_iconst X (-1) dX5_transferOffsets_37 (by decide +kernel) ?_
  exact zr_iret X dX5_transferOffsets_38 ⟨rfl, rfl⟩

set_option maxHeartbeats 4000000 in
set_option maxRecDepth 100000 in
theorem d_transferOffsets_u2 {l : Launch} {D : va_G} {tc : Nat → ClassId} {ad : Nat → Nat} {A : Nat → Prop} {tF tL tM : Nat} (E : zN 299 A ad) (μ : Nat → Int32) {m c ro z : Nat} (S : clsS μ m c ro z) {f : Nat} (hf : f < c) {x : Int32} (hx : ¬ zfm x c) (g : Int32) (t : Int32)  : zMi l yX5_transferOffsets cX5_transferOffsets 7 (some .int) (zrm 5) (zK A D tc tF tL tM) A D vwCl tc ad 299 shC [.ref (ad (0)), .int (nI (f)), .int (x), .int (g), .int (t)] μ (fun r u => r = -1 ∧ u = μ) := by
  refine zM_of RX5 [(0, .ref (ad (0))), (1, .int (nI (f))), (2, .int (x)), (3, .int (g)), (4, .int (t))] (zK_ok A D tc tF tL tM) E.1 E.2 owC_ok (by decide +kernel) rfl (Nat.le_of_ble_eq_true rfl) rfl ?_
  intro pP eE sS mM aS bL mT cO X
  obtain ⟨hm, hm2, hc, h8, hr, hr4, hz, hz4⟩ := S
  refine zr_aloadn X 0 dX5_transferOffsets_0 rfl ?_
  refine zr_get X (ci := 5) (q := 0) (zR _) (.ref (ad (1))) dX5_transferOffsets_1 (by omega) sc_0 rfl inX5 (by decide) rfl (zvR rfl) rfl k_215 ?_
  refine zr_iloadn X 1 dX5_transferOffsets_4 rfl ?_
  refine zr_dVq (C := RX2) (ci := 2) [.int (nI (f))] [] X (zK_ok A D tc tF tL tM) (d_firmAt0_t E μ (f := f) (hc) h8 (by omega)) k_273 k_274 k_275 k_2 k_276 hdX2_firmAt ⟨rfl, rfl⟩ ⟨Nat.le_of_ble_eq_true rfl, Nat.le_of_ble_eq_true rfl⟩ (by omega) (sc_st (j := 0) (by omega) (by have := cb_0; omega)) rfl rfl rfl (Nat.le_of_ble_eq_true rfl) dX5_transferOffsets_5 rfl ?_
  refine zr_astore X [1, 2, 3, 4, 5, 0] [(0, .ref (ad (0))), (1, .int (nI (f))), (2, .int (x)), (3, .int (g)), (4, .int (t)), (5, .ref (ad (4 * f + 4)))] dX5_transferOffsets_8 (by decide) rfl ?_
  refine zr_aloadn X 0 dX5_transferOffsets_10 rfl ?_
  refine zr_get X (ci := 5) (q := 0) (zR _) (.ref (ad (1))) dX5_transferOffsets_11 (by omega) sc_0 rfl inX5 (by decide) rfl (zvR rfl) rfl k_215 ?_
  refine zr_iloadn X 2 dX5_transferOffsets_14 rfl ?_
  refine zr_dVq (C := RX2) (ci := 2) [.int (x)] [] X (zK_ok A D tc tF tL tM) (d_firmAt0_f E μ (hc) h8 hx) k_273 k_274 k_275 k_2 k_276 hdX2_firmAt ⟨rfl, rfl⟩ ⟨Nat.le_of_ble_eq_true rfl, Nat.le_of_ble_eq_true rfl⟩ (by omega) (sc_st (j := 0) (by omega) (by have := cb_0; omega)) rfl rfl rfl (Nat.le_of_ble_eq_true rfl) dX5_transferOffsets_15 rfl ?_
  refine zr_astoreN X [1, 2, 3, 4, 5, 6, 0] [(0, .ref (ad (0))), (1, .int (nI (f))), (2, .int (x)), (3, .int (g)), (4, .int (t)), (5, .ref (ad (4 * f + 4))), (6, .null)] dX5_transferOffsets_18 (by decide) rfl ?_
  refine zr_aload X 5 dX5_transferOffsets_20 rfl ?_
  refine zr_ifnull X dX5_transferOffsets_22 ?_
  refine zr_aloadN X 6 dX5_transferOffsets_25 rfl ?_
  refine zr_ifnullN X 37 dX5_transferOffsets_27 (by decide) ?_
  refine zr_iconst X (-1) dX5_transferOffsets_37 (by decide +kernel) ?_
  exact zr_iret X dX5_transferOffsets_38 ⟨rfl, rfl⟩

set_option maxHeartbeats 4000000 in
set_option maxRecDepth 100000 in
theorem d_transferOffsets_u3 {l : Launch} {D : va_G} {tc : Nat → ClassId} {ad : Nat → Nat} {A : Nat → Prop} {tF tL tM : Nat} (E : zN 299 A ad) (μ : Nat → Int32) {m c ro z : Nat} (S : clsS μ m c ro z) {f f2 : Nat} (hf : f < c) (hf2 : f2 < c) {x : Int32} (hx : ¬ zin x 0 2) (t : Int32)  : zMi l yX5_transferOffsets cX5_transferOffsets 7 (some .int) (zrm 5) (zK A D tc tF tL tM) A D vwCl tc ad 299 shC [.ref (ad (0)), .int (nI (f)), .int (nI (f2)), .int (x), .int (t)] μ (fun r u => r = -1 ∧ u = μ) := by
  refine zM_of RX5 [(0, .ref (ad (0))), (1, .int (nI (f))), (2, .int (nI (f2))), (3, .int (x)), (4, .int (t))] (zK_ok A D tc tF tL tM) E.1 E.2 owC_ok (by decide +kernel) rfl (Nat.le_of_ble_eq_true rfl) rfl ?_
  intro pP eE sS mM aS bL mT cO X
  obtain ⟨hm, hm2, hc, h8, hr, hr4, hz, hz4⟩ := S
  refine zr_aloadn X 0 dX5_transferOffsets_0 rfl ?_
  refine zr_get X (ci := 5) (q := 0) (zR _) (.ref (ad (1))) dX5_transferOffsets_1 (by omega) sc_0 rfl inX5 (by decide) rfl (zvR rfl) rfl k_215 ?_
  refine zr_iloadn X 1 dX5_transferOffsets_4 rfl ?_
  refine zr_dVq (C := RX2) (ci := 2) [.int (nI (f))] [] X (zK_ok A D tc tF tL tM) (d_firmAt0_t E μ (f := f) (hc) h8 (by omega)) k_273 k_274 k_275 k_2 k_276 hdX2_firmAt ⟨rfl, rfl⟩ ⟨Nat.le_of_ble_eq_true rfl, Nat.le_of_ble_eq_true rfl⟩ (by omega) (sc_st (j := 0) (by omega) (by have := cb_0; omega)) rfl rfl rfl (Nat.le_of_ble_eq_true rfl) dX5_transferOffsets_5 rfl ?_
  refine zr_astore X [1, 2, 3, 4, 5, 0] [(0, .ref (ad (0))), (1, .int (nI (f))), (2, .int (nI (f2))), (3, .int (x)), (4, .int (t)), (5, .ref (ad (4 * f + 4)))] dX5_transferOffsets_8 (by decide) rfl ?_
  refine zr_aloadn X 0 dX5_transferOffsets_10 rfl ?_
  refine zr_get X (ci := 5) (q := 0) (zR _) (.ref (ad (1))) dX5_transferOffsets_11 (by omega) sc_0 rfl inX5 (by decide) rfl (zvR rfl) rfl k_215 ?_
  refine zr_iloadn X 2 dX5_transferOffsets_14 rfl ?_
  refine zr_dVq (C := RX2) (ci := 2) [.int (nI (f2))] [] X (zK_ok A D tc tF tL tM) (d_firmAt0_t E μ (f := f2) (hc) h8 (by omega)) k_273 k_274 k_275 k_2 k_276 hdX2_firmAt ⟨rfl, rfl⟩ ⟨Nat.le_of_ble_eq_true rfl, Nat.le_of_ble_eq_true rfl⟩ (by omega) (sc_st (j := 0) (by omega) (by have := cb_0; omega)) rfl rfl rfl (Nat.le_of_ble_eq_true rfl) dX5_transferOffsets_15 rfl ?_
  refine zr_astore X [1, 2, 3, 4, 5, 6, 0] [(0, .ref (ad (0))), (1, .int (nI (f))), (2, .int (nI (f2))), (3, .int (x)), (4, .int (t)), (5, .ref (ad (4 * f + 4))), (6, .ref (ad (4 * f2 + 4)))] dX5_transferOffsets_18 (by decide) rfl ?_
  refine zr_aload X 5 dX5_transferOffsets_20 rfl ?_
  refine zr_ifnull X dX5_transferOffsets_22 ?_
  refine zr_aload X 6 dX5_transferOffsets_25 rfl ?_
  refine zr_ifnull X dX5_transferOffsets_27 ?_
  refine zr_iloadn X 3 dX5_transferOffsets_30 rfl ?_
  refine zr_dSi [.int (x)] [] X (zK_ok A D tc tF tL tM) (d_isGrade_f E μ hx) k_288 k_289 k_1 k_290 hdX5_isGrade ⟨rfl, rfl⟩ ⟨Nat.le_of_ble_eq_true rfl, Nat.le_of_ble_eq_true rfl⟩ rfl rfl (Nat.le_of_ble_eq_true rfl) dX5_transferOffsets_31 ?_
  refine zr_if_ne X 39 dX5_transferOffsets_34 (by decide) (fun q => absurd (zq_eq0 (by omega)) q) (fun _ => ?_)
  refine zr_iconst X (-1) dX5_transferOffsets_37 (by decide +kernel) ?_
  exact zr_iret X dX5_transferOffsets_38 ⟨rfl, rfl⟩

set_option maxHeartbeats 4000000 in
set_option maxRecDepth 100000 in
theorem d_transferOffsets_b1 {l : Launch} {D : va_G} {tc : Nat → ClassId} {ad : Nat → Nat} {A : Nat → Prop} {tF tL tM : Nat} (E : zN 299 A ad) (μ : Nat → Int32) {m c ro z : Nat} (S : clsS μ m c ro z) {f f2 : Nat} (hf : f < c) (hf2 : f2 < c) {g : Nat} (hg : g ≤ 2) {x : Int32} (hx : ¬ zin x 1 9999)  : zMi l yX5_transferOffsets cX5_transferOffsets 7 (some .int) (zrm 5) (zK A D tc tF tL tM) A D vwCl tc ad 299 shC [.ref (ad (0)), .int (nI (f)), .int (nI (f2)), .int (nI (g)), .int (x)] μ (fun r u => r = -2 ∧ u = μ) := by
  refine zM_of RX5 [(0, .ref (ad (0))), (1, .int (nI (f))), (2, .int (nI (f2))), (3, .int (nI (g))), (4, .int (x))] (zK_ok A D tc tF tL tM) E.1 E.2 owC_ok (by decide +kernel) rfl (Nat.le_of_ble_eq_true rfl) rfl ?_
  intro pP eE sS mM aS bL mT cO X
  obtain ⟨hm, hm2, hc, h8, hr, hr4, hz, hz4⟩ := S
  refine zr_aloadn X 0 dX5_transferOffsets_0 rfl ?_
  refine zr_get X (ci := 5) (q := 0) (zR _) (.ref (ad (1))) dX5_transferOffsets_1 (by omega) sc_0 rfl inX5 (by decide) rfl (zvR rfl) rfl k_215 ?_
  refine zr_iloadn X 1 dX5_transferOffsets_4 rfl ?_
  refine zr_dVq (C := RX2) (ci := 2) [.int (nI (f))] [] X (zK_ok A D tc tF tL tM) (d_firmAt0_t E μ (f := f) (hc) h8 (by omega)) k_273 k_274 k_275 k_2 k_276 hdX2_firmAt ⟨rfl, rfl⟩ ⟨Nat.le_of_ble_eq_true rfl, Nat.le_of_ble_eq_true rfl⟩ (by omega) (sc_st (j := 0) (by omega) (by have := cb_0; omega)) rfl rfl rfl (Nat.le_of_ble_eq_true rfl) dX5_transferOffsets_5 rfl ?_
  refine zr_astore X [1, 2, 3, 4, 5, 0] [(0, .ref (ad (0))), (1, .int (nI (f))), (2, .int (nI (f2))), (3, .int (nI (g))), (4, .int (x)), (5, .ref (ad (4 * f + 4)))] dX5_transferOffsets_8 (by decide) rfl ?_
  refine zr_aloadn X 0 dX5_transferOffsets_10 rfl ?_
  refine zr_get X (ci := 5) (q := 0) (zR _) (.ref (ad (1))) dX5_transferOffsets_11 (by omega) sc_0 rfl inX5 (by decide) rfl (zvR rfl) rfl k_215 ?_
  refine zr_iloadn X 2 dX5_transferOffsets_14 rfl ?_
  refine zr_dVq (C := RX2) (ci := 2) [.int (nI (f2))] [] X (zK_ok A D tc tF tL tM) (d_firmAt0_t E μ (f := f2) (hc) h8 (by omega)) k_273 k_274 k_275 k_2 k_276 hdX2_firmAt ⟨rfl, rfl⟩ ⟨Nat.le_of_ble_eq_true rfl, Nat.le_of_ble_eq_true rfl⟩ (by omega) (sc_st (j := 0) (by omega) (by have := cb_0; omega)) rfl rfl rfl (Nat.le_of_ble_eq_true rfl) dX5_transferOffsets_15 rfl ?_
  refine zr_astore X [1, 2, 3, 4, 5, 6, 0] [(0, .ref (ad (0))), (1, .int (nI (f))), (2, .int (nI (f2))), (3, .int (nI (g))), (4, .int (x)), (5, .ref (ad (4 * f + 4))), (6, .ref (ad (4 * f2 + 4)))] dX5_transferOffsets_18 (by decide) rfl ?_
  refine zr_aload X 5 dX5_transferOffsets_20 rfl ?_
  refine zr_ifnull X dX5_transferOffsets_22 ?_
  refine zr_aload X 6 dX5_transferOffsets_25 rfl ?_
  refine zr_ifnull X dX5_transferOffsets_27 ?_
  refine zr_iloadn X 3 dX5_transferOffsets_30 rfl ?_
  refine zr_dSi [.int (nI (g))] [] X (zK_ok A D tc tF tL tM) (d_isGrade_t E μ (by omega) (by omega)) k_288 k_289 k_1 k_290 hdX5_isGrade ⟨rfl, rfl⟩ ⟨Nat.le_of_ble_eq_true rfl, Nat.le_of_ble_eq_true rfl⟩ rfl rfl (Nat.le_of_ble_eq_true rfl) dX5_transferOffsets_31 ?_
  refine zr_if_ne X 39 dX5_transferOffsets_34 (by decide) (fun _ => ?_) (fun q => absurd q (nI_ne0 (by omega) (by omega)))
  refine zr_iload X 4 dX5_transferOffsets_39 rfl ?_
  refine zr_dSi [.int (x)] [] X (zK_ok A D tc tF tL tM) (d_isTonnes_f E μ hx) k_277 k_278 k_1 k_279 hdX5_isTonnes ⟨rfl, rfl⟩ ⟨Nat.le_of_ble_eq_true rfl, Nat.le_of_ble_eq_true rfl⟩ rfl rfl (Nat.le_of_ble_eq_true rfl) dX5_transferOffsets_41 ?_
  refine zr_if_eq X 52 dX5_transferOffsets_44 (by decide) (fun _ => ?_) (fun q => absurd (zq_eq0 (by omega)) q)
  refine zr_bipush X (-2) dX5_transferOffsets_52 (by decide +kernel) ?_
  exact zr_iret X dX5_transferOffsets_54 ⟨rfl, rfl⟩

set_option maxHeartbeats 4000000 in
set_option maxRecDepth 100000 in
theorem d_transferOffsets_b2 {l : Launch} {D : va_G} {tc : Nat → ClassId} {ad : Nat → Nat} {A : Nat → Prop} {tF tL tM : Nat} (E : zN 299 A ad) (μ : Nat → Int32) {m c ro z : Nat} (S : clsS μ m c ro z) {f : Nat} (hf : f < c) {g : Nat} (hg : g ≤ 2) {t : Nat} (ht1 : 1 ≤ t) (ht9 : t ≤ 9999)  : zMi l yX5_transferOffsets cX5_transferOffsets 7 (some .int) (zrm 5) (zK A D tc tF tL tM) A D vwCl tc ad 299 shC [.ref (ad (0)), .int (nI (f)), .int (nI (f)), .int (nI (g)), .int (nI (t))] μ (fun r u => r = -2 ∧ u = μ) := by
  refine zM_of RX5 [(0, .ref (ad (0))), (1, .int (nI (f))), (2, .int (nI (f))), (3, .int (nI (g))), (4, .int (nI (t)))] (zK_ok A D tc tF tL tM) E.1 E.2 owC_ok (by decide +kernel) rfl (Nat.le_of_ble_eq_true rfl) rfl ?_
  intro pP eE sS mM aS bL mT cO X
  obtain ⟨hm, hm2, hc, h8, hr, hr4, hz, hz4⟩ := S
  refine zr_aloadn X 0 dX5_transferOffsets_0 rfl ?_
  refine zr_get X (ci := 5) (q := 0) (zR _) (.ref (ad (1))) dX5_transferOffsets_1 (by omega) sc_0 rfl inX5 (by decide) rfl (zvR rfl) rfl k_215 ?_
  refine zr_iloadn X 1 dX5_transferOffsets_4 rfl ?_
  refine zr_dVq (C := RX2) (ci := 2) [.int (nI (f))] [] X (zK_ok A D tc tF tL tM) (d_firmAt0_t E μ (f := f) (hc) h8 (by omega)) k_273 k_274 k_275 k_2 k_276 hdX2_firmAt ⟨rfl, rfl⟩ ⟨Nat.le_of_ble_eq_true rfl, Nat.le_of_ble_eq_true rfl⟩ (by omega) (sc_st (j := 0) (by omega) (by have := cb_0; omega)) rfl rfl rfl (Nat.le_of_ble_eq_true rfl) dX5_transferOffsets_5 rfl ?_
  refine zr_astore X [1, 2, 3, 4, 5, 0] [(0, .ref (ad (0))), (1, .int (nI (f))), (2, .int (nI (f))), (3, .int (nI (g))), (4, .int (nI (t))), (5, .ref (ad (4 * f + 4)))] dX5_transferOffsets_8 (by decide) rfl ?_
  refine zr_aloadn X 0 dX5_transferOffsets_10 rfl ?_
  refine zr_get X (ci := 5) (q := 0) (zR _) (.ref (ad (1))) dX5_transferOffsets_11 (by omega) sc_0 rfl inX5 (by decide) rfl (zvR rfl) rfl k_215 ?_
  refine zr_iloadn X 2 dX5_transferOffsets_14 rfl ?_
  refine zr_dVq (C := RX2) (ci := 2) [.int (nI (f))] [] X (zK_ok A D tc tF tL tM) (d_firmAt0_t E μ (f := f) (hc) h8 (by omega)) k_273 k_274 k_275 k_2 k_276 hdX2_firmAt ⟨rfl, rfl⟩ ⟨Nat.le_of_ble_eq_true rfl, Nat.le_of_ble_eq_true rfl⟩ (by omega) (sc_st (j := 0) (by omega) (by have := cb_0; omega)) rfl rfl rfl (Nat.le_of_ble_eq_true rfl) dX5_transferOffsets_15 rfl ?_
  refine zr_astore X [1, 2, 3, 4, 5, 6, 0] [(0, .ref (ad (0))), (1, .int (nI (f))), (2, .int (nI (f))), (3, .int (nI (g))), (4, .int (nI (t))), (5, .ref (ad (4 * f + 4))), (6, .ref (ad (4 * f + 4)))] dX5_transferOffsets_18 (by decide) rfl ?_
  refine zr_aload X 5 dX5_transferOffsets_20 rfl ?_
  refine zr_ifnull X dX5_transferOffsets_22 ?_
  refine zr_aload X 6 dX5_transferOffsets_25 rfl ?_
  refine zr_ifnull X dX5_transferOffsets_27 ?_
  refine zr_iloadn X 3 dX5_transferOffsets_30 rfl ?_
  refine zr_dSi [.int (nI (g))] [] X (zK_ok A D tc tF tL tM) (d_isGrade_t E μ (by omega) (by omega)) k_288 k_289 k_1 k_290 hdX5_isGrade ⟨rfl, rfl⟩ ⟨Nat.le_of_ble_eq_true rfl, Nat.le_of_ble_eq_true rfl⟩ rfl rfl (Nat.le_of_ble_eq_true rfl) dX5_transferOffsets_31 ?_
  refine zr_if_ne X 39 dX5_transferOffsets_34 (by decide) (fun _ => ?_) (fun q => absurd q (nI_ne0 (by omega) (by omega)))
  refine zr_iload X 4 dX5_transferOffsets_39 rfl ?_
  refine zr_dSi [.int (nI (t))] [] X (zK_ok A D tc tF tL tM) (d_isTonnes_t E μ (by omega) (by omega)) k_277 k_278 k_1 k_279 hdX5_isTonnes ⟨rfl, rfl⟩ ⟨Nat.le_of_ble_eq_true rfl, Nat.le_of_ble_eq_true rfl⟩ rfl rfl (Nat.le_of_ble_eq_true rfl) dX5_transferOffsets_41 ?_
  refine zr_if_eq X 52 dX5_transferOffsets_44 (by decide) (fun q => absurd q (nI_ne0 (by omega) (by omega))) (fun _ => ?_)
  refine zr_iloadn X 1 dX5_transferOffsets_47 rfl ?_
  refine zr_iloadn X 2 dX5_transferOffsets_48 rfl ?_
  refine zr_icmp_ne X 55 dX5_transferOffsets_49 (by decide) (fun q => absurd (zq_eq (by omega)) q) (fun _ => ?_)
  refine zr_bipush X (-2) dX5_transferOffsets_52 (by decide +kernel) ?_
  exact zr_iret X dX5_transferOffsets_54 ⟨rfl, rfl⟩

set_option maxHeartbeats 4000000 in
set_option maxRecDepth 100000 in
theorem d_transferOffsets_n {l : Launch} {D : va_G} {tc : Nat → ClassId} {ad : Nat → Nat} {A : Nat → Prop} {tF tL tM : Nat} (E : zN 299 A ad) (μ : Nat → Int32) {m c ro z : Nat} (S : clsS μ m c ro z) {f f2 : Nat} (hf : f < c) (hf2 : f2 < c) {g : Nat} (hg : g ≤ 2) {t : Nat} (ht1 : 1 ≤ t) (ht9 : t ≤ 9999) (hne : f ≠ f2) (h : ¬ nI t ≤ μ (32 * f + g + 27)) : zMi l yX5_transferOffsets cX5_transferOffsets 7 (some .int) (zrm 5) (zK A D tc tF tL tM) A D vwCl tc ad 299 shC [.ref (ad (0)), .int (nI (f)), .int (nI (f2)), .int (nI (g)), .int (nI (t))] μ (fun r u => r = -4 ∧ u = μ) := by
  refine zM_of RX5 [(0, .ref (ad (0))), (1, .int (nI (f))), (2, .int (nI (f2))), (3, .int (nI (g))), (4, .int (nI (t)))] (zK_ok A D tc tF tL tM) E.1 E.2 owC_ok (by decide +kernel) rfl (Nat.le_of_ble_eq_true rfl) rfl ?_
  intro pP eE sS mM aS bL mT cO X
  obtain ⟨hm, hm2, hc, h8, hr, hr4, hz, hz4⟩ := S
  refine zr_aloadn X 0 dX5_transferOffsets_0 rfl ?_
  refine zr_get X (ci := 5) (q := 0) (zR _) (.ref (ad (1))) dX5_transferOffsets_1 (by omega) sc_0 rfl inX5 (by decide) rfl (zvR rfl) rfl k_215 ?_
  refine zr_iloadn X 1 dX5_transferOffsets_4 rfl ?_
  refine zr_dVq (C := RX2) (ci := 2) [.int (nI (f))] [] X (zK_ok A D tc tF tL tM) (d_firmAt0_t E μ (f := f) (hc) h8 (by omega)) k_273 k_274 k_275 k_2 k_276 hdX2_firmAt ⟨rfl, rfl⟩ ⟨Nat.le_of_ble_eq_true rfl, Nat.le_of_ble_eq_true rfl⟩ (by omega) (sc_st (j := 0) (by omega) (by have := cb_0; omega)) rfl rfl rfl (Nat.le_of_ble_eq_true rfl) dX5_transferOffsets_5 rfl ?_
  refine zr_astore X [1, 2, 3, 4, 5, 0] [(0, .ref (ad (0))), (1, .int (nI (f))), (2, .int (nI (f2))), (3, .int (nI (g))), (4, .int (nI (t))), (5, .ref (ad (4 * f + 4)))] dX5_transferOffsets_8 (by decide) rfl ?_
  refine zr_aloadn X 0 dX5_transferOffsets_10 rfl ?_
  refine zr_get X (ci := 5) (q := 0) (zR _) (.ref (ad (1))) dX5_transferOffsets_11 (by omega) sc_0 rfl inX5 (by decide) rfl (zvR rfl) rfl k_215 ?_
  refine zr_iloadn X 2 dX5_transferOffsets_14 rfl ?_
  refine zr_dVq (C := RX2) (ci := 2) [.int (nI (f2))] [] X (zK_ok A D tc tF tL tM) (d_firmAt0_t E μ (f := f2) (hc) h8 (by omega)) k_273 k_274 k_275 k_2 k_276 hdX2_firmAt ⟨rfl, rfl⟩ ⟨Nat.le_of_ble_eq_true rfl, Nat.le_of_ble_eq_true rfl⟩ (by omega) (sc_st (j := 0) (by omega) (by have := cb_0; omega)) rfl rfl rfl (Nat.le_of_ble_eq_true rfl) dX5_transferOffsets_15 rfl ?_
  refine zr_astore X [1, 2, 3, 4, 5, 6, 0] [(0, .ref (ad (0))), (1, .int (nI (f))), (2, .int (nI (f2))), (3, .int (nI (g))), (4, .int (nI (t))), (5, .ref (ad (4 * f + 4))), (6, .ref (ad (4 * f2 + 4)))] dX5_transferOffsets_18 (by decide) rfl ?_
  refine zr_aload X 5 dX5_transferOffsets_20 rfl ?_
  refine zr_ifnull X dX5_transferOffsets_22 ?_
  refine zr_aload X 6 dX5_transferOffsets_25 rfl ?_
  refine zr_ifnull X dX5_transferOffsets_27 ?_
  refine zr_iloadn X 3 dX5_transferOffsets_30 rfl ?_
  refine zr_dSi [.int (nI (g))] [] X (zK_ok A D tc tF tL tM) (d_isGrade_t E μ (by omega) (by omega)) k_288 k_289 k_1 k_290 hdX5_isGrade ⟨rfl, rfl⟩ ⟨Nat.le_of_ble_eq_true rfl, Nat.le_of_ble_eq_true rfl⟩ rfl rfl (Nat.le_of_ble_eq_true rfl) dX5_transferOffsets_31 ?_
  refine zr_if_ne X 39 dX5_transferOffsets_34 (by decide) (fun _ => ?_) (fun q => absurd q (nI_ne0 (by omega) (by omega)))
  refine zr_iload X 4 dX5_transferOffsets_39 rfl ?_
  refine zr_dSi [.int (nI (t))] [] X (zK_ok A D tc tF tL tM) (d_isTonnes_t E μ (by omega) (by omega)) k_277 k_278 k_1 k_279 hdX5_isTonnes ⟨rfl, rfl⟩ ⟨Nat.le_of_ble_eq_true rfl, Nat.le_of_ble_eq_true rfl⟩ rfl rfl (Nat.le_of_ble_eq_true rfl) dX5_transferOffsets_41 ?_
  refine zr_if_eq X 52 dX5_transferOffsets_44 (by decide) (fun q => absurd q (nI_ne0 (by omega) (by omega))) (fun _ => ?_)
  refine zr_iloadn X 1 dX5_transferOffsets_47 rfl ?_
  refine zr_iloadn X 2 dX5_transferOffsets_48 rfl ?_
  refine zr_icmp_ne X 55 dX5_transferOffsets_49 (by decide) (fun _ => ?_) (fun q => absurd q (zq_ne (by omega) (by omega) (by omega)))
  refine zr_aload X 5 dX5_transferOffsets_55 rfl ?_
  refine zr_get X (ci := 0) (q := 1) (zR _) (.ref (ad (4 * f + 6))) dX5_transferOffsets_57 (by omega) (sc_firm (j := 0) (i := f) (by omega) (by omega) (by have := cb_0; omega)) rfl inX0 (by decide) rfl (zvR (by have := cb_0; omega)) rfl k_45 ?_
  refine zr_iloadn X 3 dX5_transferOffsets_60 rfl ?_
  refine zr_iald X (j := g) 0 (μ (32 * f + g + 27)) dX5_transferOffsets_61 (by omega) (sc_off (j := 0) (i := f) (by omega) (by omega) (by have := cb_0; omega)) rfl rfl (by omega) (by omega) (zcg (b := 32 * f + g + 27) (by omega) (rfl)) ?_
  refine zr_iload X 4 dX5_transferOffsets_62 rfl ?_
  refine zr_icmp_ge X 70 dX5_transferOffsets_64 (by decide) (fun q => absurd q (h)) (fun _ => ?_)
  refine zr_bipush X (-4) dX5_transferOffsets_67 (by decide +kernel) ?_
  exact zr_iret X dX5_transferOffsets_69 ⟨rfl, rfl⟩

set_option maxHeartbeats 4000000 in
set_option maxRecDepth 100000 in
theorem d_transferOffsets_ok {l : Launch} {D : va_G} {tc : Nat → ClassId} {ad : Nat → Nat} {A : Nat → Prop} {tF tL tM : Nat} (E : zN 299 A ad) (μ : Nat → Int32) {m c ro z : Nat} (S : clsS μ m c ro z) {f f2 : Nat} (hf : f < c) (hf2 : f2 < c) {g : Nat} (hg : g ≤ 2) {t : Nat} (ht1 : 1 ≤ t) (ht9 : t ≤ 9999) (hne : f ≠ f2) (h : nI t ≤ μ (32 * f + g + 27)) : zMi l yX5_transferOffsets cX5_transferOffsets 7 (some .int) (zrm 5) (zK A D tc tF tL tM) A D vwCl tc ad 299 shC [.ref (ad (0)), .int (nI (f)), .int (nI (f2)), .int (nI (g)), .int (nI (t))] μ (fun r u => r = μ (32 * f + g + 27) - nI (t) ∧ u = (upd (upd (zpush μ (ro) (z)) (32 * f + g + 27) (μ (32 * f + g + 27) - nI (t))) (32 * f2 + g + 27) (μ (32 * f2 + g + 27) + nI (t)))) := by
  refine zM_of RX5 [(0, .ref (ad (0))), (1, .int (nI (f))), (2, .int (nI (f2))), (3, .int (nI (g))), (4, .int (nI (t)))] (zK_ok A D tc tF tL tM) E.1 E.2 owC_ok (by decide +kernel) rfl (Nat.le_of_ble_eq_true rfl) rfl ?_
  intro pP eE sS mM aS bL mT cO X
  obtain ⟨hm, hm2, hc, h8, hr, hr4, hz, hz4⟩ := S
  refine zr_aloadn X 0 dX5_transferOffsets_0 rfl ?_
  refine zr_get X (ci := 5) (q := 0) (zR _) (.ref (ad (1))) dX5_transferOffsets_1 (by omega) sc_0 rfl inX5 (by decide) rfl (zvR rfl) rfl k_215 ?_
  refine zr_iloadn X 1 dX5_transferOffsets_4 rfl ?_
  refine zr_dVq (C := RX2) (ci := 2) [.int (nI (f))] [] X (zK_ok A D tc tF tL tM) (d_firmAt0_t E μ (f := f) (hc) h8 (by omega)) k_273 k_274 k_275 k_2 k_276 hdX2_firmAt ⟨rfl, rfl⟩ ⟨Nat.le_of_ble_eq_true rfl, Nat.le_of_ble_eq_true rfl⟩ (by omega) (sc_st (j := 0) (by omega) (by have := cb_0; omega)) rfl rfl rfl (Nat.le_of_ble_eq_true rfl) dX5_transferOffsets_5 rfl ?_
  refine zr_astore X [1, 2, 3, 4, 5, 0] [(0, .ref (ad (0))), (1, .int (nI (f))), (2, .int (nI (f2))), (3, .int (nI (g))), (4, .int (nI (t))), (5, .ref (ad (4 * f + 4)))] dX5_transferOffsets_8 (by decide) rfl ?_
  refine zr_aloadn X 0 dX5_transferOffsets_10 rfl ?_
  refine zr_get X (ci := 5) (q := 0) (zR _) (.ref (ad (1))) dX5_transferOffsets_11 (by omega) sc_0 rfl inX5 (by decide) rfl (zvR rfl) rfl k_215 ?_
  refine zr_iloadn X 2 dX5_transferOffsets_14 rfl ?_
  refine zr_dVq (C := RX2) (ci := 2) [.int (nI (f2))] [] X (zK_ok A D tc tF tL tM) (d_firmAt0_t E μ (f := f2) (hc) h8 (by omega)) k_273 k_274 k_275 k_2 k_276 hdX2_firmAt ⟨rfl, rfl⟩ ⟨Nat.le_of_ble_eq_true rfl, Nat.le_of_ble_eq_true rfl⟩ (by omega) (sc_st (j := 0) (by omega) (by have := cb_0; omega)) rfl rfl rfl (Nat.le_of_ble_eq_true rfl) dX5_transferOffsets_15 rfl ?_
  refine zr_astore X [1, 2, 3, 4, 5, 6, 0] [(0, .ref (ad (0))), (1, .int (nI (f))), (2, .int (nI (f2))), (3, .int (nI (g))), (4, .int (nI (t))), (5, .ref (ad (4 * f + 4))), (6, .ref (ad (4 * f2 + 4)))] dX5_transferOffsets_18 (by decide) rfl ?_
  refine zr_aload X 5 dX5_transferOffsets_20 rfl ?_
  refine zr_ifnull X dX5_transferOffsets_22 ?_
  refine zr_aload X 6 dX5_transferOffsets_25 rfl ?_
  refine zr_ifnull X dX5_transferOffsets_27 ?_
  refine zr_iloadn X 3 dX5_transferOffsets_30 rfl ?_
  refine zr_dSi [.int (nI (g))] [] X (zK_ok A D tc tF tL tM) (d_isGrade_t E μ (by omega) (by omega)) k_288 k_289 k_1 k_290 hdX5_isGrade ⟨rfl, rfl⟩ ⟨Nat.le_of_ble_eq_true rfl, Nat.le_of_ble_eq_true rfl⟩ rfl rfl (Nat.le_of_ble_eq_true rfl) dX5_transferOffsets_31 ?_
  refine zr_if_ne X 39 dX5_transferOffsets_34 (by decide) (fun _ => ?_) (fun q => absurd q (nI_ne0 (by omega) (by omega)))
  refine zr_iload X 4 dX5_transferOffsets_39 rfl ?_
  refine zr_dSi [.int (nI (t))] [] X (zK_ok A D tc tF tL tM) (d_isTonnes_t E μ (by omega) (by omega)) k_277 k_278 k_1 k_279 hdX5_isTonnes ⟨rfl, rfl⟩ ⟨Nat.le_of_ble_eq_true rfl, Nat.le_of_ble_eq_true rfl⟩ rfl rfl (Nat.le_of_ble_eq_true rfl) dX5_transferOffsets_41 ?_
  refine zr_if_eq X 52 dX5_transferOffsets_44 (by decide) (fun q => absurd q (nI_ne0 (by omega) (by omega))) (fun _ => ?_)
  refine zr_iloadn X 1 dX5_transferOffsets_47 rfl ?_
  refine zr_iloadn X 2 dX5_transferOffsets_48 rfl ?_
  refine zr_icmp_ne X 55 dX5_transferOffsets_49 (by decide) (fun _ => ?_) (fun q => absurd q (zq_ne (by omega) (by omega) (by omega)))
  refine zr_aload X 5 dX5_transferOffsets_55 rfl ?_
  refine zr_get X (ci := 0) (q := 1) (zR _) (.ref (ad (4 * f + 6))) dX5_transferOffsets_57 (by omega) (sc_firm (j := 0) (i := f) (by omega) (by omega) (by have := cb_0; omega)) rfl inX0 (by decide) rfl (zvR (by have := cb_0; omega)) rfl k_45 ?_
  refine zr_iloadn X 3 dX5_transferOffsets_60 rfl ?_
  refine zr_iald X (j := g) 0 (μ (32 * f + g + 27)) dX5_transferOffsets_61 (by omega) (sc_off (j := 0) (i := f) (by omega) (by omega) (by have := cb_0; omega)) rfl rfl (by omega) (by omega) (zcg (b := 32 * f + g + 27) (by omega) (rfl)) ?_
  refine zr_iload X 4 dX5_transferOffsets_62 rfl ?_
  refine zr_icmp_ge X 70 dX5_transferOffsets_64 (by decide) (fun _ => ?_) (fun q => absurd (h) q)
  refine zr_aloadn X 0 dX5_transferOffsets_70 rfl ?_
  refine zr_get X (ci := 5) (q := 3) (zR _) (.ref (ad (124))) dX5_transferOffsets_71 (by omega) sc_0 rfl inX5 (by decide) rfl (zvR rfl) rfl k_218 ?_
  refine zr_aloadn X 0 dX5_transferOffsets_74 rfl ?_
  refine zr_get X (ci := 5) (q := 0) (zR _) (.ref (ad (1))) dX5_transferOffsets_75 (by omega) sc_0 rfl inX5 (by decide) rfl (zvR rfl) rfl k_215 ?_
  refine zr_dVv (C := RX1) (ci := 1) [.ref (ad (1))] [] X (zK_ok A D tc tF tL tM) (d_push E μ (hr) hr4 (hz) hz4) k_241 k_242 k_243 k_4 k_244 hdX1_push ⟨rfl, rfl⟩ ⟨Nat.le_of_ble_eq_true rfl, Nat.le_of_ble_eq_true rfl⟩ (by omega) sc_124 rfl rfl rfl (Nat.le_of_ble_eq_true rfl) dX5_transferOffsets_78 ?_
  refine zr_aload X 5 dX5_transferOffsets_81 rfl ?_
  refine zr_get X (ci := 0) (q := 1) (zR _) (.ref (ad (4 * f + 6))) dX5_transferOffsets_83 (by omega) (sc_firm (j := 0) (i := f) (by omega) (by omega) (by have := cb_0; omega)) rfl inX0 (by decide) rfl (zvR (by have := cb_0; omega)) rfl k_45 ?_
  refine zr_iloadn X 3 dX5_transferOffsets_86 rfl ?_
  refine zr_dup2 X dX5_transferOffsets_87 rfl rfl ?_
  refine zr_iald X (j := g) 0 (μ (32 * f + g + 27)) dX5_transferOffsets_88 (by omega) (sc_off (j := 0) (i := f) (by omega) (by omega) (by have := cb_0; omega)) rfl rfl (by omega) (by omega) (zcg (b := 32 * f + g + 27) (by omega) (zpush_lo (by omega) hr4)) ?_
  refine zr_iload X 4 dX5_transferOffsets_89 rfl ?_
  refine zr_isub X ((μ (32 * f + g + 27)) - (nI (t))) dX5_transferOffsets_91 rfl ?_
  refine zr_iast X (j := g) 0 (32 * f + g + 27) dX5_transferOffsets_92 (by omega) (sc_off (j := 0) (i := f) (by omega) (by omega) (by have := cb_0; omega)) rfl rfl (by omega) (by omega) (by omega) ?_
  refine zr_aload X 6 dX5_transferOffsets_93 rfl ?_
  refine zr_get X (ci := 0) (q := 1) (zR _) (.ref (ad (4 * f2 + 6))) dX5_transferOffsets_95 (by omega) (sc_firm (j := 0) (i := f2) (by omega) (by omega) (by have := cb_0; omega)) rfl inX0 (by decide) rfl (zvR (by have := cb_0; omega)) rfl k_45 ?_
  refine zr_iloadn X 3 dX5_transferOffsets_98 rfl ?_
  refine zr_dup2 X dX5_transferOffsets_99 rfl rfl ?_
  refine zr_iald X (j := g) 0 (μ (32 * f2 + g + 27)) dX5_transferOffsets_100 (by omega) (sc_off (j := 0) (i := f2) (by omega) (by omega) (by have := cb_0; omega)) rfl rfl (by omega) (by omega) (zcg (b := 32 * f2 + g + 27) (by omega) ((pk_un (by omega)).trans (zpush_lo (by omega) hr4))) ?_
  refine zr_iload X 4 dX5_transferOffsets_101 rfl ?_
  refine zr_iadd X ((μ (32 * f2 + g + 27)) + (nI (t))) dX5_transferOffsets_103 rfl ?_
  refine zr_iast X (j := g) 0 (32 * f2 + g + 27) dX5_transferOffsets_104 (by omega) (sc_off (j := 0) (i := f2) (by omega) (by omega) (by have := cb_0; omega)) rfl rfl (by omega) (by omega) (by omega) ?_
  refine zr_aload X 5 dX5_transferOffsets_105 rfl ?_
  refine zr_get X (ci := 0) (q := 1) (zR _) (.ref (ad (4 * f + 6))) dX5_transferOffsets_107 (by omega) (sc_firm (j := 0) (i := f) (by omega) (by omega) (by have := cb_0; omega)) rfl inX0 (by decide) rfl (zvR (by have := cb_0; omega)) rfl k_45 ?_
  refine zr_iloadn X 3 dX5_transferOffsets_110 rfl ?_
  refine zr_iald X (j := g) 0 ((μ (32 * f + g + 27)) - (nI (t))) dX5_transferOffsets_111 (by omega) (sc_off (j := 0) (i := f) (by omega) (by omega) (by have := cb_0; omega)) rfl rfl (by omega) (by omega) (zcg (b := 32 * f + g + 27) (by omega) ((pk_un (by omega)).trans (pk_us))) ?_
  exact zr_iret X dX5_transferOffsets_112 ⟨rfl, rfl⟩

set_option maxHeartbeats 4000000 in
set_option maxRecDepth 100000 in
theorem d_cancel_u1 {l : Launch} {D : va_G} {tc : Nat → ClassId} {ad : Nat → Nat} {A : Nat → Prop} {tF tL tM : Nat} (E : zN 299 A ad) (μ : Nat → Int32) {m c ro z : Nat} (S : clsS μ m c ro z) {x : Int32} (hx : ¬ zfm x c) (v : Int32) (y : Int32)  : zMi l yX5_cancel cX5_cancel 5 (some .int) (zrm 5) (zK A D tc tF tL tM) A D vwCl tc ad 299 shC [.ref (ad (0)), .int (x), .int (v), .int (y)] μ (fun r u => r = -1 ∧ u = μ) := by
  refine zM_of RX5 [(0, .ref (ad (0))), (1, .int (x)), (2, .int (v)), (3, .int (y))] (zK_ok A D tc tF tL tM) E.1 E.2 owC_ok (by decide +kernel) rfl (Nat.le_of_ble_eq_true rfl) rfl ?_
  intro pP eE sS mM aS bL mT cO X
  obtain ⟨hm, hm2, hc, h8, hr, hr4, hz, hz4⟩ := S
  refine zr_aloadn X 0 dX5_cancel_0 rfl ?_
  refine zr_get X (ci := 5) (q := 0) (zR _) (.ref (ad (1))) dX5_cancel_1 (by omega) sc_0 rfl inX5 (by decide) rfl (zvR rfl) rfl k_215 ?_
  refine zr_iloadn X 1 dX5_cancel_4 rfl ?_
  refine zr_dVq (C := RX2) (ci := 2) [.int (x)] [] X (zK_ok A D tc tF tL tM) (d_firmAt0_f E μ (hc) h8 hx) k_273 k_274 k_275 k_2 k_276 hdX2_firmAt ⟨rfl, rfl⟩ ⟨Nat.le_of_ble_eq_true rfl, Nat.le_of_ble_eq_true rfl⟩ (by omega) (sc_st (j := 0) (by omega) (by have := cb_0; omega)) rfl rfl rfl (Nat.le_of_ble_eq_true rfl) dX5_cancel_5 rfl ?_
  refine zr_astoreN X [1, 2, 3, 4, 0] [(0, .ref (ad (0))), (1, .int (x)), (2, .int (v)), (3, .int (y)), (4, .null)] dX5_cancel_8 (by decide) rfl ?_
  refine zr_aloadN X 4 dX5_cancel_10 rfl ?_
  refine zr_ifnullN X 22 dX5_cancel_12 (by decide) ?_
  refine zr_iconst X (-1) dX5_cancel_22 (by decide +kernel) ?_
  exact zr_iret X dX5_cancel_23 ⟨rfl, rfl⟩

set_option maxHeartbeats 4000000 in
set_option maxRecDepth 100000 in
theorem d_cancel_u2 {l : Launch} {D : va_G} {tc : Nat → ClassId} {ad : Nat → Nat} {A : Nat → Prop} {tF tL tM : Nat} (E : zN 299 A ad) (μ : Nat → Int32) {m c ro z : Nat} (S : clsS μ m c ro z) {f : Nat} (hf : f < c) {x : Int32} (hx : ¬ zin x 0 19) (y : Int32)  : zMi l yX5_cancel cX5_cancel 5 (some .int) (zrm 5) (zK A D tc tF tL tM) A D vwCl tc ad 299 shC [.ref (ad (0)), .int (nI (f)), .int (x), .int (y)] μ (fun r u => r = -1 ∧ u = μ) := by
  refine zM_of RX5 [(0, .ref (ad (0))), (1, .int (nI (f))), (2, .int (x)), (3, .int (y))] (zK_ok A D tc tF tL tM) E.1 E.2 owC_ok (by decide +kernel) rfl (Nat.le_of_ble_eq_true rfl) rfl ?_
  intro pP eE sS mM aS bL mT cO X
  obtain ⟨hm, hm2, hc, h8, hr, hr4, hz, hz4⟩ := S
  refine zr_aloadn X 0 dX5_cancel_0 rfl ?_
  refine zr_get X (ci := 5) (q := 0) (zR _) (.ref (ad (1))) dX5_cancel_1 (by omega) sc_0 rfl inX5 (by decide) rfl (zvR rfl) rfl k_215 ?_
  refine zr_iloadn X 1 dX5_cancel_4 rfl ?_
  refine zr_dVq (C := RX2) (ci := 2) [.int (nI (f))] [] X (zK_ok A D tc tF tL tM) (d_firmAt0_t E μ (f := f) (hc) h8 (by omega)) k_273 k_274 k_275 k_2 k_276 hdX2_firmAt ⟨rfl, rfl⟩ ⟨Nat.le_of_ble_eq_true rfl, Nat.le_of_ble_eq_true rfl⟩ (by omega) (sc_st (j := 0) (by omega) (by have := cb_0; omega)) rfl rfl rfl (Nat.le_of_ble_eq_true rfl) dX5_cancel_5 rfl ?_
  refine zr_astore X [1, 2, 3, 4, 0] [(0, .ref (ad (0))), (1, .int (nI (f))), (2, .int (x)), (3, .int (y)), (4, .ref (ad (4 * f + 4)))] dX5_cancel_8 (by decide) rfl ?_
  refine zr_aload X 4 dX5_cancel_10 rfl ?_
  refine zr_ifnull X dX5_cancel_12 ?_
  refine zr_iloadn X 2 dX5_cancel_15 rfl ?_
  refine zr_dSi [.int (x)] [] X (zK_ok A D tc tF tL tM) (d_isVintage_f E μ hx) k_316 k_301 k_1 k_302 hdX5_isVintage ⟨rfl, rfl⟩ ⟨Nat.le_of_ble_eq_true rfl, Nat.le_of_ble_eq_true rfl⟩ rfl rfl (Nat.le_of_ble_eq_true rfl) dX5_cancel_16 ?_
  refine zr_if_ne X 24 dX5_cancel_19 (by decide) (fun q => absurd (zq_eq0 (by omega)) q) (fun _ => ?_)
  refine zr_iconst X (-1) dX5_cancel_22 (by decide +kernel) ?_
  exact zr_iret X dX5_cancel_23 ⟨rfl, rfl⟩

set_option maxHeartbeats 4000000 in
set_option maxRecDepth 100000 in
theorem d_cancel_b {l : Launch} {D : va_G} {tc : Nat → ClassId} {ad : Nat → Nat} {A : Nat → Prop} {tF tL tM : Nat} (E : zN 299 A ad) (μ : Nat → Int32) {m c ro z : Nat} (S : clsS μ m c ro z) {f : Nat} (hf : f < c) {v : Nat} (hv : v ≤ 19) {x : Int32} (hx : ¬ zin x 1 9999)  : zMi l yX5_cancel cX5_cancel 5 (some .int) (zrm 5) (zK A D tc tF tL tM) A D vwCl tc ad 299 shC [.ref (ad (0)), .int (nI (f)), .int (nI (v)), .int (x)] μ (fun r u => r = -2 ∧ u = μ) := by
  refine zM_of RX5 [(0, .ref (ad (0))), (1, .int (nI (f))), (2, .int (nI (v))), (3, .int (x))] (zK_ok A D tc tF tL tM) E.1 E.2 owC_ok (by decide +kernel) rfl (Nat.le_of_ble_eq_true rfl) rfl ?_
  intro pP eE sS mM aS bL mT cO X
  obtain ⟨hm, hm2, hc, h8, hr, hr4, hz, hz4⟩ := S
  refine zr_aloadn X 0 dX5_cancel_0 rfl ?_
  refine zr_get X (ci := 5) (q := 0) (zR _) (.ref (ad (1))) dX5_cancel_1 (by omega) sc_0 rfl inX5 (by decide) rfl (zvR rfl) rfl k_215 ?_
  refine zr_iloadn X 1 dX5_cancel_4 rfl ?_
  refine zr_dVq (C := RX2) (ci := 2) [.int (nI (f))] [] X (zK_ok A D tc tF tL tM) (d_firmAt0_t E μ (f := f) (hc) h8 (by omega)) k_273 k_274 k_275 k_2 k_276 hdX2_firmAt ⟨rfl, rfl⟩ ⟨Nat.le_of_ble_eq_true rfl, Nat.le_of_ble_eq_true rfl⟩ (by omega) (sc_st (j := 0) (by omega) (by have := cb_0; omega)) rfl rfl rfl (Nat.le_of_ble_eq_true rfl) dX5_cancel_5 rfl ?_
  refine zr_astore X [1, 2, 3, 4, 0] [(0, .ref (ad (0))), (1, .int (nI (f))), (2, .int (nI (v))), (3, .int (x)), (4, .ref (ad (4 * f + 4)))] dX5_cancel_8 (by decide) rfl ?_
  refine zr_aload X 4 dX5_cancel_10 rfl ?_
  refine zr_ifnull X dX5_cancel_12 ?_
  refine zr_iloadn X 2 dX5_cancel_15 rfl ?_
  refine zr_dSi [.int (nI (v))] [] X (zK_ok A D tc tF tL tM) (d_isVintage_t E μ (by omega) (by omega)) k_316 k_301 k_1 k_302 hdX5_isVintage ⟨rfl, rfl⟩ ⟨Nat.le_of_ble_eq_true rfl, Nat.le_of_ble_eq_true rfl⟩ rfl rfl (Nat.le_of_ble_eq_true rfl) dX5_cancel_16 ?_
  refine zr_if_ne X 24 dX5_cancel_19 (by decide) (fun _ => ?_) (fun q => absurd q (nI_ne0 (by omega) (by omega)))
  refine zr_iloadn X 3 dX5_cancel_24 rfl ?_
  refine zr_dSi [.int (x)] [] X (zK_ok A D tc tF tL tM) (d_isTonnes_f E μ hx) k_277 k_278 k_1 k_279 hdX5_isTonnes ⟨rfl, rfl⟩ ⟨Nat.le_of_ble_eq_true rfl, Nat.le_of_ble_eq_true rfl⟩ rfl rfl (Nat.le_of_ble_eq_true rfl) dX5_cancel_25 ?_
  refine zr_if_ne X 34 dX5_cancel_28 (by decide) (fun q => absurd (zq_eq0 (by omega)) q) (fun _ => ?_)
  refine zr_bipush X (-2) dX5_cancel_31 (by decide +kernel) ?_
  exact zr_iret X dX5_cancel_33 ⟨rfl, rfl⟩

set_option maxHeartbeats 4000000 in
set_option maxRecDepth 100000 in
theorem d_cancel_n {l : Launch} {D : va_G} {tc : Nat → ClassId} {ad : Nat → Nat} {A : Nat → Prop} {tF tL tM : Nat} (E : zN 299 A ad) (μ : Nat → Int32) {m c ro z : Nat} (S : clsS μ m c ro z) {f : Nat} (hf : f < c) {v : Nat} (hv : v ≤ 19) {t : Nat} (ht1 : 1 ≤ t) (ht9 : t ≤ 9999) (h : ¬ nI t ≤ μ (32 * f + v + 7)) : zMi l yX5_cancel cX5_cancel 5 (some .int) (zrm 5) (zK A D tc tF tL tM) A D vwCl tc ad 299 shC [.ref (ad (0)), .int (nI (f)), .int (nI (v)), .int (nI (t))] μ (fun r u => r = -4 ∧ u = μ) := by
  refine zM_of RX5 [(0, .ref (ad (0))), (1, .int (nI (f))), (2, .int (nI (v))), (3, .int (nI (t)))] (zK_ok A D tc tF tL tM) E.1 E.2 owC_ok (by decide +kernel) rfl (Nat.le_of_ble_eq_true rfl) rfl ?_
  intro pP eE sS mM aS bL mT cO X
  obtain ⟨hm, hm2, hc, h8, hr, hr4, hz, hz4⟩ := S
  refine zr_aloadn X 0 dX5_cancel_0 rfl ?_
  refine zr_get X (ci := 5) (q := 0) (zR _) (.ref (ad (1))) dX5_cancel_1 (by omega) sc_0 rfl inX5 (by decide) rfl (zvR rfl) rfl k_215 ?_
  refine zr_iloadn X 1 dX5_cancel_4 rfl ?_
  refine zr_dVq (C := RX2) (ci := 2) [.int (nI (f))] [] X (zK_ok A D tc tF tL tM) (d_firmAt0_t E μ (f := f) (hc) h8 (by omega)) k_273 k_274 k_275 k_2 k_276 hdX2_firmAt ⟨rfl, rfl⟩ ⟨Nat.le_of_ble_eq_true rfl, Nat.le_of_ble_eq_true rfl⟩ (by omega) (sc_st (j := 0) (by omega) (by have := cb_0; omega)) rfl rfl rfl (Nat.le_of_ble_eq_true rfl) dX5_cancel_5 rfl ?_
  refine zr_astore X [1, 2, 3, 4, 0] [(0, .ref (ad (0))), (1, .int (nI (f))), (2, .int (nI (v))), (3, .int (nI (t))), (4, .ref (ad (4 * f + 4)))] dX5_cancel_8 (by decide) rfl ?_
  refine zr_aload X 4 dX5_cancel_10 rfl ?_
  refine zr_ifnull X dX5_cancel_12 ?_
  refine zr_iloadn X 2 dX5_cancel_15 rfl ?_
  refine zr_dSi [.int (nI (v))] [] X (zK_ok A D tc tF tL tM) (d_isVintage_t E μ (by omega) (by omega)) k_316 k_301 k_1 k_302 hdX5_isVintage ⟨rfl, rfl⟩ ⟨Nat.le_of_ble_eq_true rfl, Nat.le_of_ble_eq_true rfl⟩ rfl rfl (Nat.le_of_ble_eq_true rfl) dX5_cancel_16 ?_
  refine zr_if_ne X 24 dX5_cancel_19 (by decide) (fun _ => ?_) (fun q => absurd q (nI_ne0 (by omega) (by omega)))
  refine zr_iloadn X 3 dX5_cancel_24 rfl ?_
  refine zr_dSi [.int (nI (t))] [] X (zK_ok A D tc tF tL tM) (d_isTonnes_t E μ (by omega) (by omega)) k_277 k_278 k_1 k_279 hdX5_isTonnes ⟨rfl, rfl⟩ ⟨Nat.le_of_ble_eq_true rfl, Nat.le_of_ble_eq_true rfl⟩ rfl rfl (Nat.le_of_ble_eq_true rfl) dX5_cancel_25 ?_
  refine zr_if_ne X 34 dX5_cancel_28 (by decide) (fun _ => ?_) (fun q => absurd q (nI_ne0 (by omega) (by omega)))
  refine zr_aload X 4 dX5_cancel_34 rfl ?_
  refine zr_get X (ci := 0) (q := 0) (zR _) (.ref (ad (4 * f + 5))) dX5_cancel_36 (by omega) (sc_firm (j := 0) (i := f) (by omega) (by omega) (by have := cb_0; omega)) rfl inX0 (by decide) rfl (zvR (by have := cb_0; omega)) rfl k_42 ?_
  refine zr_iloadn X 2 dX5_cancel_39 rfl ?_
  refine zr_iald X (j := v) 0 (μ (32 * f + v + 7)) dX5_cancel_40 (by omega) (sc_held (j := 0) (i := f) (by omega) (by omega) (by have := cb_0; omega)) rfl rfl (by omega) (by omega) (zcg (b := 32 * f + v + 7) (by omega) (rfl)) ?_
  refine zr_iloadn X 3 dX5_cancel_41 rfl ?_
  refine zr_icmp_ge X 48 dX5_cancel_42 (by decide) (fun q => absurd q (h)) (fun _ => ?_)
  refine zr_bipush X (-4) dX5_cancel_45 (by decide +kernel) ?_
  exact zr_iret X dX5_cancel_47 ⟨rfl, rfl⟩

set_option maxHeartbeats 4000000 in
set_option maxRecDepth 100000 in
theorem d_cancel_ok {l : Launch} {D : va_G} {tc : Nat → ClassId} {ad : Nat → Nat} {A : Nat → Prop} {tF tL tM : Nat} (E : zN 299 A ad) (μ : Nat → Int32) {m c ro z : Nat} (S : clsS μ m c ro z) {f : Nat} (hf : f < c) {v : Nat} (hv : v ≤ 19) {t : Nat} (ht1 : 1 ≤ t) (ht9 : t ≤ 9999) (h : nI t ≤ μ (32 * f + v + 7)) : zMi l yX5_cancel cX5_cancel 5 (some .int) (zrm 5) (zK A D tc tF tL tM) A D vwCl tc ad 299 shC [.ref (ad (0)), .int (nI (f)), .int (nI (v)), .int (nI (t))] μ (fun r u => r = μ (32 * f + v + 7) - nI (t) ∧ u = (upd (upd (zpush μ (ro) (z)) (32 * f + v + 7) (μ (32 * f + v + 7) - nI (t))) (v + 303) (μ (v + 303) + nI (t)))) := by
  refine zM_of RX5 [(0, .ref (ad (0))), (1, .int (nI (f))), (2, .int (nI (v))), (3, .int (nI (t)))] (zK_ok A D tc tF tL tM) E.1 E.2 owC_ok (by decide +kernel) rfl (Nat.le_of_ble_eq_true rfl) rfl ?_
  intro pP eE sS mM aS bL mT cO X
  obtain ⟨hm, hm2, hc, h8, hr, hr4, hz, hz4⟩ := S
  refine zr_aloadn X 0 dX5_cancel_0 rfl ?_
  refine zr_get X (ci := 5) (q := 0) (zR _) (.ref (ad (1))) dX5_cancel_1 (by omega) sc_0 rfl inX5 (by decide) rfl (zvR rfl) rfl k_215 ?_
  refine zr_iloadn X 1 dX5_cancel_4 rfl ?_
  refine zr_dVq (C := RX2) (ci := 2) [.int (nI (f))] [] X (zK_ok A D tc tF tL tM) (d_firmAt0_t E μ (f := f) (hc) h8 (by omega)) k_273 k_274 k_275 k_2 k_276 hdX2_firmAt ⟨rfl, rfl⟩ ⟨Nat.le_of_ble_eq_true rfl, Nat.le_of_ble_eq_true rfl⟩ (by omega) (sc_st (j := 0) (by omega) (by have := cb_0; omega)) rfl rfl rfl (Nat.le_of_ble_eq_true rfl) dX5_cancel_5 rfl ?_
  refine zr_astore X [1, 2, 3, 4, 0] [(0, .ref (ad (0))), (1, .int (nI (f))), (2, .int (nI (v))), (3, .int (nI (t))), (4, .ref (ad (4 * f + 4)))] dX5_cancel_8 (by decide) rfl ?_
  refine zr_aload X 4 dX5_cancel_10 rfl ?_
  refine zr_ifnull X dX5_cancel_12 ?_
  refine zr_iloadn X 2 dX5_cancel_15 rfl ?_
  refine zr_dSi [.int (nI (v))] [] X (zK_ok A D tc tF tL tM) (d_isVintage_t E μ (by omega) (by omega)) k_316 k_301 k_1 k_302 hdX5_isVintage ⟨rfl, rfl⟩ ⟨Nat.le_of_ble_eq_true rfl, Nat.le_of_ble_eq_true rfl⟩ rfl rfl (Nat.le_of_ble_eq_true rfl) dX5_cancel_16 ?_
  refine zr_if_ne X 24 dX5_cancel_19 (by decide) (fun _ => ?_) (fun q => absurd q (nI_ne0 (by omega) (by omega)))
  refine zr_iloadn X 3 dX5_cancel_24 rfl ?_
  refine zr_dSi [.int (nI (t))] [] X (zK_ok A D tc tF tL tM) (d_isTonnes_t E μ (by omega) (by omega)) k_277 k_278 k_1 k_279 hdX5_isTonnes ⟨rfl, rfl⟩ ⟨Nat.le_of_ble_eq_true rfl, Nat.le_of_ble_eq_true rfl⟩ rfl rfl (Nat.le_of_ble_eq_true rfl) dX5_cancel_25 ?_
  refine zr_if_ne X 34 dX5_cancel_28 (by decide) (fun _ => ?_) (fun q => absurd q (nI_ne0 (by omega) (by omega)))
  refine zr_aload X 4 dX5_cancel_34 rfl ?_
  refine zr_get X (ci := 0) (q := 0) (zR _) (.ref (ad (4 * f + 5))) dX5_cancel_36 (by omega) (sc_firm (j := 0) (i := f) (by omega) (by omega) (by have := cb_0; omega)) rfl inX0 (by decide) rfl (zvR (by have := cb_0; omega)) rfl k_42 ?_
  refine zr_iloadn X 2 dX5_cancel_39 rfl ?_
  refine zr_iald X (j := v) 0 (μ (32 * f + v + 7)) dX5_cancel_40 (by omega) (sc_held (j := 0) (i := f) (by omega) (by omega) (by have := cb_0; omega)) rfl rfl (by omega) (by omega) (zcg (b := 32 * f + v + 7) (by omega) (rfl)) ?_
  refine zr_iloadn X 3 dX5_cancel_41 rfl ?_
  refine zr_icmp_ge X 48 dX5_cancel_42 (by decide) (fun _ => ?_) (fun q => absurd (h) q)
  refine zr_aloadn X 0 dX5_cancel_48 rfl ?_
  refine zr_get X (ci := 5) (q := 3) (zR _) (.ref (ad (124))) dX5_cancel_49 (by omega) sc_0 rfl inX5 (by decide) rfl (zvR rfl) rfl k_218 ?_
  refine zr_aloadn X 0 dX5_cancel_52 rfl ?_
  refine zr_get X (ci := 5) (q := 0) (zR _) (.ref (ad (1))) dX5_cancel_53 (by omega) sc_0 rfl inX5 (by decide) rfl (zvR rfl) rfl k_215 ?_
  refine zr_dVv (C := RX1) (ci := 1) [.ref (ad (1))] [] X (zK_ok A D tc tF tL tM) (d_push E μ (hr) hr4 (hz) hz4) k_241 k_242 k_243 k_4 k_244 hdX1_push ⟨rfl, rfl⟩ ⟨Nat.le_of_ble_eq_true rfl, Nat.le_of_ble_eq_true rfl⟩ (by omega) sc_124 rfl rfl rfl (Nat.le_of_ble_eq_true rfl) dX5_cancel_56 ?_
  refine zr_aload X 4 dX5_cancel_59 rfl ?_
  refine zr_get X (ci := 0) (q := 0) (zR _) (.ref (ad (4 * f + 5))) dX5_cancel_61 (by omega) (sc_firm (j := 0) (i := f) (by omega) (by omega) (by have := cb_0; omega)) rfl inX0 (by decide) rfl (zvR (by have := cb_0; omega)) rfl k_42 ?_
  refine zr_iloadn X 2 dX5_cancel_64 rfl ?_
  refine zr_dup2 X dX5_cancel_65 rfl rfl ?_
  refine zr_iald X (j := v) 0 (μ (32 * f + v + 7)) dX5_cancel_66 (by omega) (sc_held (j := 0) (i := f) (by omega) (by omega) (by have := cb_0; omega)) rfl rfl (by omega) (by omega) (zcg (b := 32 * f + v + 7) (by omega) (zpush_lo (by omega) hr4)) ?_
  refine zr_iloadn X 3 dX5_cancel_67 rfl ?_
  refine zr_isub X ((μ (32 * f + v + 7)) - (nI (t))) dX5_cancel_68 rfl ?_
  refine zr_iast X (j := v) 0 (32 * f + v + 7) dX5_cancel_69 (by omega) (sc_held (j := 0) (i := f) (by omega) (by omega) (by have := cb_0; omega)) rfl rfl (by omega) (by omega) (by omega) ?_
  refine zr_aloadn X 0 dX5_cancel_70 rfl ?_
  refine zr_get X (ci := 5) (q := 0) (zR _) (.ref (ad (1))) dX5_cancel_71 (by omega) sc_0 rfl inX5 (by decide) rfl (zvR rfl) rfl k_215 ?_
  refine zr_get X (ci := 2) (q := 6) (zR _) (.ref (ad (38))) dX5_cancel_74 (by omega) (sc_st (j := 0) (by omega) (by have := cb_0; omega)) rfl inX2 (by decide) rfl (zvR (by have := cb_0; omega)) rfl k_95 ?_
  refine zr_iloadn X 2 dX5_cancel_77 rfl ?_
  refine zr_dup2 X dX5_cancel_78 rfl rfl ?_
  refine zr_iald X (j := v) 0 (μ (v + 303)) dX5_cancel_79 (by omega) (sc_can (j := 0) (by omega) (by have := cb_0; omega)) rfl rfl (by omega) (by omega) (zcg (b := v + 303) (by omega) ((pk_un (by omega)).trans (zpush_lo (by omega) hr4))) ?_
  refine zr_iloadn X 3 dX5_cancel_80 rfl ?_
  refine zr_iadd X ((μ (v + 303)) + (nI (t))) dX5_cancel_81 rfl ?_
  refine zr_iast X (j := v) 0 (v + 303) dX5_cancel_82 (by omega) (sc_can (j := 0) (by omega) (by have := cb_0; omega)) rfl rfl (by omega) (by omega) (by omega) ?_
  refine zr_aload X 4 dX5_cancel_83 rfl ?_
  refine zr_get X (ci := 0) (q := 0) (zR _) (.ref (ad (4 * f + 5))) dX5_cancel_85 (by omega) (sc_firm (j := 0) (i := f) (by omega) (by omega) (by have := cb_0; omega)) rfl inX0 (by decide) rfl (zvR (by have := cb_0; omega)) rfl k_42 ?_
  refine zr_iloadn X 2 dX5_cancel_88 rfl ?_
  refine zr_iald X (j := v) 0 ((μ (32 * f + v + 7)) - (nI (t))) dX5_cancel_89 (by omega) (sc_held (j := 0) (i := f) (by omega) (by omega) (by have := cb_0; omega)) rfl rfl (by omega) (by omega) (zcg (b := 32 * f + v + 7) (by omega) ((pk_un (by omega)).trans (pk_us))) ?_
  exact zr_iret X dX5_cancel_90 ⟨rfl, rfl⟩

set_option maxHeartbeats 4000000 in
set_option maxRecDepth 100000 in
theorem d_report_u {l : Launch} {D : va_G} {tc : Nat → ClassId} {ad : Nat → Nat} {A : Nat → Prop} {tF tL tM : Nat} (E : zN 299 A ad) (μ : Nat → Int32) {m c ro z : Nat} (S : clsS μ m c ro z) {x : Int32} (hx : ¬ zfm x c) (y : Int32)  : zMi l yX5_report cX5_report 4 (some .int) (zrm 5) (zK A D tc tF tL tM) A D vwCl tc ad 299 shC [.ref (ad (0)), .int (x), .int (y)] μ (fun r u => r = -1 ∧ u = μ) := by
  refine zM_of RX5 [(0, .ref (ad (0))), (1, .int (x)), (2, .int (y))] (zK_ok A D tc tF tL tM) E.1 E.2 owC_ok (by decide +kernel) rfl (Nat.le_of_ble_eq_true rfl) rfl ?_
  intro pP eE sS mM aS bL mT cO X
  obtain ⟨hm, hm2, hc, h8, hr, hr4, hz, hz4⟩ := S
  refine zr_aloadn X 0 dX5_report_0 rfl ?_
  refine zr_get X (ci := 5) (q := 0) (zR _) (.ref (ad (1))) dX5_report_1 (by omega) sc_0 rfl inX5 (by decide) rfl (zvR rfl) rfl k_215 ?_
  refine zr_iloadn X 1 dX5_report_4 rfl ?_
  refine zr_dVq (C := RX2) (ci := 2) [.int (x)] [] X (zK_ok A D tc tF tL tM) (d_firmAt0_f E μ (hc) h8 hx) k_273 k_274 k_275 k_2 k_276 hdX2_firmAt ⟨rfl, rfl⟩ ⟨Nat.le_of_ble_eq_true rfl, Nat.le_of_ble_eq_true rfl⟩ (by omega) (sc_st (j := 0) (by omega) (by have := cb_0; omega)) rfl rfl rfl (Nat.le_of_ble_eq_true rfl) dX5_report_5 rfl ?_
  refine zr_astorenN X [1, 2, 3, 0] [(0, .ref (ad (0))), (1, .int (x)), (2, .int (y)), (3, .null)] dX5_report_8 (by decide) rfl ?_
  refine zr_aloadnN X 3 dX5_report_9 rfl ?_
  refine zr_ifnonnullN X dX5_report_10 ?_
  refine zr_iconst X (-1) dX5_report_13 (by decide +kernel) ?_
  exact zr_iret X dX5_report_14 ⟨rfl, rfl⟩

set_option maxHeartbeats 4000000 in
set_option maxRecDepth 100000 in
theorem d_report_b {l : Launch} {D : va_G} {tc : Nat → ClassId} {ad : Nat → Nat} {A : Nat → Prop} {tF tL tM : Nat} (E : zN 299 A ad) (μ : Nat → Int32) {m c ro z : Nat} (S : clsS μ m c ro z) {f : Nat} (hf : f < c) {x : Int32} (hx : ¬ zin x 1 9999)  : zMi l yX5_report cX5_report 4 (some .int) (zrm 5) (zK A D tc tF tL tM) A D vwCl tc ad 299 shC [.ref (ad (0)), .int (nI (f)), .int (x)] μ (fun r u => r = -2 ∧ u = μ) := by
  refine zM_of RX5 [(0, .ref (ad (0))), (1, .int (nI (f))), (2, .int (x))] (zK_ok A D tc tF tL tM) E.1 E.2 owC_ok (by decide +kernel) rfl (Nat.le_of_ble_eq_true rfl) rfl ?_
  intro pP eE sS mM aS bL mT cO X
  obtain ⟨hm, hm2, hc, h8, hr, hr4, hz, hz4⟩ := S
  refine zr_aloadn X 0 dX5_report_0 rfl ?_
  refine zr_get X (ci := 5) (q := 0) (zR _) (.ref (ad (1))) dX5_report_1 (by omega) sc_0 rfl inX5 (by decide) rfl (zvR rfl) rfl k_215 ?_
  refine zr_iloadn X 1 dX5_report_4 rfl ?_
  refine zr_dVq (C := RX2) (ci := 2) [.int (nI (f))] [] X (zK_ok A D tc tF tL tM) (d_firmAt0_t E μ (f := f) (hc) h8 (by omega)) k_273 k_274 k_275 k_2 k_276 hdX2_firmAt ⟨rfl, rfl⟩ ⟨Nat.le_of_ble_eq_true rfl, Nat.le_of_ble_eq_true rfl⟩ (by omega) (sc_st (j := 0) (by omega) (by have := cb_0; omega)) rfl rfl rfl (Nat.le_of_ble_eq_true rfl) dX5_report_5 rfl ?_
  refine zr_astoren X [1, 2, 3, 0] [(0, .ref (ad (0))), (1, .int (nI (f))), (2, .int (x)), (3, .ref (ad (4 * f + 4)))] dX5_report_8 (by decide) rfl ?_
  refine zr_aloadn X 3 dX5_report_9 rfl ?_
  refine zr_ifnonnull X 15 dX5_report_10 (by decide) ?_
  refine zr_iloadn X 2 dX5_report_15 rfl ?_
  refine zr_dSi [.int (x)] [] X (zK_ok A D tc tF tL tM) (d_isTonnes_f E μ hx) k_277 k_278 k_1 k_279 hdX5_isTonnes ⟨rfl, rfl⟩ ⟨Nat.le_of_ble_eq_true rfl, Nat.le_of_ble_eq_true rfl⟩ rfl rfl (Nat.le_of_ble_eq_true rfl) dX5_report_16 ?_
  refine zr_if_ne X 25 dX5_report_19 (by decide) (fun q => absurd (zq_eq0 (by omega)) q) (fun _ => ?_)
  refine zr_bipush X (-2) dX5_report_22 (by decide +kernel) ?_
  exact zr_iret X dX5_report_24 ⟨rfl, rfl⟩

set_option maxHeartbeats 4000000 in
set_option maxRecDepth 100000 in
theorem d_report_f {l : Launch} {D : va_G} {tc : Nat → ClassId} {ad : Nat → Nat} {A : Nat → Prop} {tF tL tM : Nat} (E : zN 299 A ad) (μ : Nat → Int32) {m c ro z : Nat} (S : clsS μ m c ro z) {f : Nat} (hf : f < c) {t : Nat} (ht1 : 1 ≤ t) (ht9 : t ≤ 9999) (h : ¬ μ (32 * f + 33) + μ (32 * f + 34) + nI t ≤ nI 9999) : zMi l yX5_report cX5_report 4 (some .int) (zrm 5) (zK A D tc tF tL tM) A D vwCl tc ad 299 shC [.ref (ad (0)), .int (nI (f)), .int (nI (t))] μ (fun r u => r = -3 ∧ u = μ) := by
  refine zM_of RX5 [(0, .ref (ad (0))), (1, .int (nI (f))), (2, .int (nI (t)))] (zK_ok A D tc tF tL tM) E.1 E.2 owC_ok (by decide +kernel) rfl (Nat.le_of_ble_eq_true rfl) rfl ?_
  intro pP eE sS mM aS bL mT cO X
  obtain ⟨hm, hm2, hc, h8, hr, hr4, hz, hz4⟩ := S
  refine zr_aloadn X 0 dX5_report_0 rfl ?_
  refine zr_get X (ci := 5) (q := 0) (zR _) (.ref (ad (1))) dX5_report_1 (by omega) sc_0 rfl inX5 (by decide) rfl (zvR rfl) rfl k_215 ?_
  refine zr_iloadn X 1 dX5_report_4 rfl ?_
  refine zr_dVq (C := RX2) (ci := 2) [.int (nI (f))] [] X (zK_ok A D tc tF tL tM) (d_firmAt0_t E μ (f := f) (hc) h8 (by omega)) k_273 k_274 k_275 k_2 k_276 hdX2_firmAt ⟨rfl, rfl⟩ ⟨Nat.le_of_ble_eq_true rfl, Nat.le_of_ble_eq_true rfl⟩ (by omega) (sc_st (j := 0) (by omega) (by have := cb_0; omega)) rfl rfl rfl (Nat.le_of_ble_eq_true rfl) dX5_report_5 rfl ?_
  refine zr_astoren X [1, 2, 3, 0] [(0, .ref (ad (0))), (1, .int (nI (f))), (2, .int (nI (t))), (3, .ref (ad (4 * f + 4)))] dX5_report_8 (by decide) rfl ?_
  refine zr_aloadn X 3 dX5_report_9 rfl ?_
  refine zr_ifnonnull X 15 dX5_report_10 (by decide) ?_
  refine zr_iloadn X 2 dX5_report_15 rfl ?_
  refine zr_dSi [.int (nI (t))] [] X (zK_ok A D tc tF tL tM) (d_isTonnes_t E μ (by omega) (by omega)) k_277 k_278 k_1 k_279 hdX5_isTonnes ⟨rfl, rfl⟩ ⟨Nat.le_of_ble_eq_true rfl, Nat.le_of_ble_eq_true rfl⟩ rfl rfl (Nat.le_of_ble_eq_true rfl) dX5_report_16 ?_
  refine zr_if_ne X 25 dX5_report_19 (by decide) (fun _ => ?_) (fun q => absurd q (nI_ne0 (by omega) (by omega)))
  refine zr_aloadn X 3 dX5_report_25 rfl ?_
  refine zr_get X (ci := 0) (q := 3) zI (.int (μ (32 * f + 33))) dX5_report_26 (by omega) (sc_firm (j := 0) (i := f) (by omega) (by omega) (by have := cb_0; omega)) rfl inX0 (by decide) rfl (congrArg Value.int (zcg (by omega) (rfl))) rfl k_51 ?_
  refine zr_aloadn X 3 dX5_report_29 rfl ?_
  refine zr_get X (ci := 0) (q := 4) zI (.int (μ (32 * f + 34))) dX5_report_30 (by omega) (sc_firm (j := 0) (i := f) (by omega) (by omega) (by have := cb_0; omega)) rfl inX0 (by decide) rfl (congrArg Value.int (zcg (by omega) (rfl))) rfl k_53 ?_
  refine zr_iadd X ((μ (32 * f + 33)) + (μ (32 * f + 34))) dX5_report_33 rfl ?_
  refine zr_iloadn X 2 dX5_report_34 rfl ?_
  refine zr_iadd X (((μ (32 * f + 33)) + (μ (32 * f + 34))) + (nI (t))) dX5_report_35 rfl ?_
  refine zr_sipush X (nI (9999)) dX5_report_36 (by decide +kernel) ?_
  refine zr_icmp_le X 45 dX5_report_39 (by decide) (fun q => absurd q (h)) (fun _ => ?_)
  refine zr_bipush X (-3) dX5_report_42 (by decide +kernel) ?_
  exact zr_iret X dX5_report_44 ⟨rfl, rfl⟩

set_option maxHeartbeats 4000000 in
set_option maxRecDepth 100000 in
theorem d_report_ok {l : Launch} {D : va_G} {tc : Nat → ClassId} {ad : Nat → Nat} {A : Nat → Prop} {tF tL tM : Nat} (E : zN 299 A ad) (μ : Nat → Int32) {m c ro z : Nat} (S : clsS μ m c ro z) {f : Nat} (hf : f < c) {t : Nat} (ht1 : 1 ≤ t) (ht9 : t ≤ 9999) (h : μ (32 * f + 33) + μ (32 * f + 34) + nI t ≤ nI 9999) : zMi l yX5_report cX5_report 4 (some .int) (zrm 5) (zK A D tc tF tL tM) A D vwCl tc ad 299 shC [.ref (ad (0)), .int (nI (f)), .int (nI (t))] μ (fun r u => r = μ (32 * f + 33) + nI (t) ∧ u = (upd (zpush μ (ro) (z)) (32 * f + 33) (μ (32 * f + 33) + nI (t)))) := by
  refine zM_of RX5 [(0, .ref (ad (0))), (1, .int (nI (f))), (2, .int (nI (t)))] (zK_ok A D tc tF tL tM) E.1 E.2 owC_ok (by decide +kernel) rfl (Nat.le_of_ble_eq_true rfl) rfl ?_
  intro pP eE sS mM aS bL mT cO X
  obtain ⟨hm, hm2, hc, h8, hr, hr4, hz, hz4⟩ := S
  refine zr_aloadn X 0 dX5_report_0 rfl ?_
  refine zr_get X (ci := 5) (q := 0) (zR _) (.ref (ad (1))) dX5_report_1 (by omega) sc_0 rfl inX5 (by decide) rfl (zvR rfl) rfl k_215 ?_
  refine zr_iloadn X 1 dX5_report_4 rfl ?_
  refine zr_dVq (C := RX2) (ci := 2) [.int (nI (f))] [] X (zK_ok A D tc tF tL tM) (d_firmAt0_t E μ (f := f) (hc) h8 (by omega)) k_273 k_274 k_275 k_2 k_276 hdX2_firmAt ⟨rfl, rfl⟩ ⟨Nat.le_of_ble_eq_true rfl, Nat.le_of_ble_eq_true rfl⟩ (by omega) (sc_st (j := 0) (by omega) (by have := cb_0; omega)) rfl rfl rfl (Nat.le_of_ble_eq_true rfl) dX5_report_5 rfl ?_
  refine zr_astoren X [1, 2, 3, 0] [(0, .ref (ad (0))), (1, .int (nI (f))), (2, .int (nI (t))), (3, .ref (ad (4 * f + 4)))] dX5_report_8 (by decide) rfl ?_
  refine zr_aloadn X 3 dX5_report_9 rfl ?_
  refine zr_ifnonnull X 15 dX5_report_10 (by decide) ?_
  refine zr_iloadn X 2 dX5_report_15 rfl ?_
  refine zr_dSi [.int (nI (t))] [] X (zK_ok A D tc tF tL tM) (d_isTonnes_t E μ (by omega) (by omega)) k_277 k_278 k_1 k_279 hdX5_isTonnes ⟨rfl, rfl⟩ ⟨Nat.le_of_ble_eq_true rfl, Nat.le_of_ble_eq_true rfl⟩ rfl rfl (Nat.le_of_ble_eq_true rfl) dX5_report_16 ?_
  refine zr_if_ne X 25 dX5_report_19 (by decide) (fun _ => ?_) (fun q => absurd q (nI_ne0 (by omega) (by omega)))
  refine zr_aloadn X 3 dX5_report_25 rfl ?_
  refine zr_get X (ci := 0) (q := 3) zI (.int (μ (32 * f + 33))) dX5_report_26 (by omega) (sc_firm (j := 0) (i := f) (by omega) (by omega) (by have := cb_0; omega)) rfl inX0 (by decide) rfl (congrArg Value.int (zcg (by omega) (rfl))) rfl k_51 ?_
  refine zr_aloadn X 3 dX5_report_29 rfl ?_
  refine zr_get X (ci := 0) (q := 4) zI (.int (μ (32 * f + 34))) dX5_report_30 (by omega) (sc_firm (j := 0) (i := f) (by omega) (by omega) (by have := cb_0; omega)) rfl inX0 (by decide) rfl (congrArg Value.int (zcg (by omega) (rfl))) rfl k_53 ?_
  refine zr_iadd X ((μ (32 * f + 33)) + (μ (32 * f + 34))) dX5_report_33 rfl ?_
  refine zr_iloadn X 2 dX5_report_34 rfl ?_
  refine zr_iadd X (((μ (32 * f + 33)) + (μ (32 * f + 34))) + (nI (t))) dX5_report_35 rfl ?_
  refine zr_sipush X (nI (9999)) dX5_report_36 (by decide +kernel) ?_
  refine zr_icmp_le X 45 dX5_report_39 (by decide) (fun _ => ?_) (fun q => absurd (h) q)
  refine zr_aloadn X 0 dX5_report_45 rfl ?_
  refine zr_get X (ci := 5) (q := 3) (zR _) (.ref (ad (124))) dX5_report_46 (by omega) sc_0 rfl inX5 (by decide) rfl (zvR rfl) rfl k_218 ?_
  refine zr_aloadn X 0 dX5_report_49 rfl ?_
  refine zr_get X (ci := 5) (q := 0) (zR _) (.ref (ad (1))) dX5_report_50 (by omega) sc_0 rfl inX5 (by decide) rfl (zvR rfl) rfl k_215 ?_
  refine zr_dVv (C := RX1) (ci := 1) [.ref (ad (1))] [] X (zK_ok A D tc tF tL tM) (d_push E μ (hr) hr4 (hz) hz4) k_241 k_242 k_243 k_4 k_244 hdX1_push ⟨rfl, rfl⟩ ⟨Nat.le_of_ble_eq_true rfl, Nat.le_of_ble_eq_true rfl⟩ (by omega) sc_124 rfl rfl rfl (Nat.le_of_ble_eq_true rfl) dX5_report_53 ?_
  refine zr_aloadn X 3 dX5_report_56 rfl ?_
  refine zr_dup X dX5_report_57 rfl ?_
  refine zr_get X (ci := 0) (q := 3) zI (.int (μ (32 * f + 33))) dX5_report_58 (by omega) (sc_firm (j := 0) (i := f) (by omega) (by omega) (by have := cb_0; omega)) rfl inX0 (by decide) rfl (congrArg Value.int (zcg (by omega) (zpush_lo (by omega) hr4))) rfl k_51 ?_
  refine zr_iloadn X 2 dX5_report_61 rfl ?_
  refine zr_iadd X ((μ (32 * f + 33)) + (nI (t))) dX5_report_62 rfl ?_
  refine zr_put X (ci := 0) (q := 3) (ty0 := tyX0) (ty := .int) (32 * f + 33) dX5_report_63 (by omega) (sc_firm (j := 0) (i := f) (by omega) (by omega) (by have := cb_0; omega)) rfl inX0 tyX0_ok nmX0 (by decide) rfl rfl rfl rfl rfl rfl k_51 (by omega) ?_
  refine zr_aloadn X 3 dX5_report_66 rfl ?_
  refine zr_get X (ci := 0) (q := 3) zI (.int ((μ (32 * f + 33)) + (nI (t)))) dX5_report_67 (by omega) (sc_firm (j := 0) (i := f) (by omega) (by omega) (by have := cb_0; omega)) rfl inX0 (by decide) rfl (congrArg Value.int (zcg (by omega) (pk_us))) rfl k_51 ?_
  exact zr_iret X dX5_report_70 ⟨rfl, rfl⟩

set_option maxHeartbeats 4000000 in
set_option maxRecDepth 100000 in
theorem d_verify_u {l : Launch} {D : va_G} {tc : Nat → ClassId} {ad : Nat → Nat} {A : Nat → Prop} {tF tL tM : Nat} (E : zN 299 A ad) (μ : Nat → Int32) {m c ro z : Nat} (S : clsS μ m c ro z) {x : Int32} (hx : ¬ zfm x c)  : zMi l yX5_verify cX5_verify 3 (some .int) (zrm 5) (zK A D tc tF tL tM) A D vwCl tc ad 299 shC [.ref (ad (0)), .int (x)] μ (fun r u => r = -1 ∧ u = μ) := by
  refine zM_of RX5 [(0, .ref (ad (0))), (1, .int (x))] (zK_ok A D tc tF tL tM) E.1 E.2 owC_ok (by decide +kernel) rfl (Nat.le_of_ble_eq_true rfl) rfl ?_
  intro pP eE sS mM aS bL mT cO X
  obtain ⟨hm, hm2, hc, h8, hr, hr4, hz, hz4⟩ := S
  refine zr_aloadn X 0 dX5_verify_0 rfl ?_
  refine zr_get X (ci := 5) (q := 0) (zR _) (.ref (ad (1))) dX5_verify_1 (by omega) sc_0 rfl inX5 (by decide) rfl (zvR rfl) rfl k_215 ?_
  refine zr_iloadn X 1 dX5_verify_4 rfl ?_
  refine zr_dVq (C := RX2) (ci := 2) [.int (x)] [] X (zK_ok A D tc tF tL tM) (d_firmAt0_f E μ (hc) h8 hx) k_273 k_274 k_275 k_2 k_276 hdX2_firmAt ⟨rfl, rfl⟩ ⟨Nat.le_of_ble_eq_true rfl, Nat.le_of_ble_eq_true rfl⟩ (by omega) (sc_st (j := 0) (by omega) (by have := cb_0; omega)) rfl rfl rfl (Nat.le_of_ble_eq_true rfl) dX5_verify_5 rfl ?_
  refine zr_astorenN X [1, 2, 0] [(0, .ref (ad (0))), (1, .int (x)), (2, .null)] dX5_verify_8 (by decide) rfl ?_
  refine zr_aloadnN X 2 dX5_verify_9 rfl ?_
  refine zr_ifnonnullN X dX5_verify_10 ?_
  refine zr_iconst X (-1) dX5_verify_13 (by decide +kernel) ?_
  exact zr_iret X dX5_verify_14 ⟨rfl, rfl⟩

set_option maxHeartbeats 4000000 in
set_option maxRecDepth 100000 in
theorem d_verify_n {l : Launch} {D : va_G} {tc : Nat → ClassId} {ad : Nat → Nat} {A : Nat → Prop} {tF tL tM : Nat} (E : zN 299 A ad) (μ : Nat → Int32) {m c ro z : Nat} (S : clsS μ m c ro z) {f : Nat} (hf : f < c) (h : μ (32 * f + 33) = 0) : zMi l yX5_verify cX5_verify 3 (some .int) (zrm 5) (zK A D tc tF tL tM) A D vwCl tc ad 299 shC [.ref (ad (0)), .int (nI (f))] μ (fun r u => r = -5 ∧ u = μ) := by
  refine zM_of RX5 [(0, .ref (ad (0))), (1, .int (nI (f)))] (zK_ok A D tc tF tL tM) E.1 E.2 owC_ok (by decide +kernel) rfl (Nat.le_of_ble_eq_true rfl) rfl ?_
  intro pP eE sS mM aS bL mT cO X
  obtain ⟨hm, hm2, hc, h8, hr, hr4, hz, hz4⟩ := S
  refine zr_aloadn X 0 dX5_verify_0 rfl ?_
  refine zr_get X (ci := 5) (q := 0) (zR _) (.ref (ad (1))) dX5_verify_1 (by omega) sc_0 rfl inX5 (by decide) rfl (zvR rfl) rfl k_215 ?_
  refine zr_iloadn X 1 dX5_verify_4 rfl ?_
  refine zr_dVq (C := RX2) (ci := 2) [.int (nI (f))] [] X (zK_ok A D tc tF tL tM) (d_firmAt0_t E μ (f := f) (hc) h8 (by omega)) k_273 k_274 k_275 k_2 k_276 hdX2_firmAt ⟨rfl, rfl⟩ ⟨Nat.le_of_ble_eq_true rfl, Nat.le_of_ble_eq_true rfl⟩ (by omega) (sc_st (j := 0) (by omega) (by have := cb_0; omega)) rfl rfl rfl (Nat.le_of_ble_eq_true rfl) dX5_verify_5 rfl ?_
  refine zr_astoren X [1, 2, 0] [(0, .ref (ad (0))), (1, .int (nI (f))), (2, .ref (ad (4 * f + 4)))] dX5_verify_8 (by decide) rfl ?_
  refine zr_aloadn X 2 dX5_verify_9 rfl ?_
  refine zr_ifnonnull X 15 dX5_verify_10 (by decide) ?_
  refine zr_aloadn X 2 dX5_verify_15 rfl ?_
  refine zr_get X (ci := 0) (q := 3) zI (.int (μ (32 * f + 33))) dX5_verify_16 (by omega) (sc_firm (j := 0) (i := f) (by omega) (by omega) (by have := cb_0; omega)) rfl inX0 (by decide) rfl (congrArg Value.int (zcg (by omega) (rfl))) rfl k_51 ?_
  refine zr_if_ne X 25 dX5_verify_19 (by decide) (fun q => absurd (h) q) (fun _ => ?_)
  refine zr_bipush X (-5) dX5_verify_22 (by decide +kernel) ?_
  exact zr_iret X dX5_verify_24 ⟨rfl, rfl⟩

set_option maxHeartbeats 4000000 in
set_option maxRecDepth 100000 in
theorem d_verify_ok {l : Launch} {D : va_G} {tc : Nat → ClassId} {ad : Nat → Nat} {A : Nat → Prop} {tF tL tM : Nat} (E : zN 299 A ad) (μ : Nat → Int32) {m c ro z : Nat} (S : clsS μ m c ro z) {f : Nat} (hf : f < c) (h : ¬ μ (32 * f + 33) = 0) : zMi l yX5_verify cX5_verify 3 (some .int) (zrm 5) (zK A D tc tF tL tM) A D vwCl tc ad 299 shC [.ref (ad (0)), .int (nI (f))] μ (fun r u => r = μ (32 * f + 34) + μ (32 * f + 33) ∧ u = (upd (upd (zpush μ (ro) (z)) (32 * f + 34) (μ (32 * f + 34) + μ (32 * f + 33))) (32 * f + 33) (nI (0)))) := by
  refine zM_of RX5 [(0, .ref (ad (0))), (1, .int (nI (f)))] (zK_ok A D tc tF tL tM) E.1 E.2 owC_ok (by decide +kernel) rfl (Nat.le_of_ble_eq_true rfl) rfl ?_
  intro pP eE sS mM aS bL mT cO X
  obtain ⟨hm, hm2, hc, h8, hr, hr4, hz, hz4⟩ := S
  refine zr_aloadn X 0 dX5_verify_0 rfl ?_
  refine zr_get X (ci := 5) (q := 0) (zR _) (.ref (ad (1))) dX5_verify_1 (by omega) sc_0 rfl inX5 (by decide) rfl (zvR rfl) rfl k_215 ?_
  refine zr_iloadn X 1 dX5_verify_4 rfl ?_
  refine zr_dVq (C := RX2) (ci := 2) [.int (nI (f))] [] X (zK_ok A D tc tF tL tM) (d_firmAt0_t E μ (f := f) (hc) h8 (by omega)) k_273 k_274 k_275 k_2 k_276 hdX2_firmAt ⟨rfl, rfl⟩ ⟨Nat.le_of_ble_eq_true rfl, Nat.le_of_ble_eq_true rfl⟩ (by omega) (sc_st (j := 0) (by omega) (by have := cb_0; omega)) rfl rfl rfl (Nat.le_of_ble_eq_true rfl) dX5_verify_5 rfl ?_
  refine zr_astoren X [1, 2, 0] [(0, .ref (ad (0))), (1, .int (nI (f))), (2, .ref (ad (4 * f + 4)))] dX5_verify_8 (by decide) rfl ?_
  refine zr_aloadn X 2 dX5_verify_9 rfl ?_
  refine zr_ifnonnull X 15 dX5_verify_10 (by decide) ?_
  refine zr_aloadn X 2 dX5_verify_15 rfl ?_
  refine zr_get X (ci := 0) (q := 3) zI (.int (μ (32 * f + 33))) dX5_verify_16 (by omega) (sc_firm (j := 0) (i := f) (by omega) (by omega) (by have := cb_0; omega)) rfl inX0 (by decide) rfl (congrArg Value.int (zcg (by omega) (rfl))) rfl k_51 ?_
  refine zr_if_ne X 25 dX5_verify_19 (by decide) (fun _ => ?_) (fun q => absurd q (h))
  refine zr_aloadn X 0 dX5_verify_25 rfl ?_
  refine zr_get X (ci := 5) (q := 3) (zR _) (.ref (ad (124))) dX5_verify_26 (by omega) sc_0 rfl inX5 (by decide) rfl (zvR rfl) rfl k_218 ?_
  refine zr_aloadn X 0 dX5_verify_29 rfl ?_
  refine zr_get X (ci := 5) (q := 0) (zR _) (.ref (ad (1))) dX5_verify_30 (by omega) sc_0 rfl inX5 (by decide) rfl (zvR rfl) rfl k_215 ?_
  refine zr_dVv (C := RX1) (ci := 1) [.ref (ad (1))] [] X (zK_ok A D tc tF tL tM) (d_push E μ (hr) hr4 (hz) hz4) k_241 k_242 k_243 k_4 k_244 hdX1_push ⟨rfl, rfl⟩ ⟨Nat.le_of_ble_eq_true rfl, Nat.le_of_ble_eq_true rfl⟩ (by omega) sc_124 rfl rfl rfl (Nat.le_of_ble_eq_true rfl) dX5_verify_33 ?_
  refine zr_aloadn X 2 dX5_verify_36 rfl ?_
  refine zr_dup X dX5_verify_37 rfl ?_
  refine zr_get X (ci := 0) (q := 4) zI (.int (μ (32 * f + 34))) dX5_verify_38 (by omega) (sc_firm (j := 0) (i := f) (by omega) (by omega) (by have := cb_0; omega)) rfl inX0 (by decide) rfl (congrArg Value.int (zcg (by omega) (zpush_lo (by omega) hr4))) rfl k_53 ?_
  refine zr_aloadn X 2 dX5_verify_41 rfl ?_
  refine zr_get X (ci := 0) (q := 3) zI (.int (μ (32 * f + 33))) dX5_verify_42 (by omega) (sc_firm (j := 0) (i := f) (by omega) (by omega) (by have := cb_0; omega)) rfl inX0 (by decide) rfl (congrArg Value.int (zcg (by omega) (zpush_lo (by omega) hr4))) rfl k_51 ?_
  refine zr_iadd X ((μ (32 * f + 34)) + (μ (32 * f + 33))) dX5_verify_45 rfl ?_
  refine zr_put X (ci := 0) (q := 4) (ty0 := tyX0) (ty := .int) (32 * f + 34) dX5_verify_46 (by omega) (sc_firm (j := 0) (i := f) (by omega) (by omega) (by have := cb_0; omega)) rfl inX0 tyX0_ok nmX0 (by decide) rfl rfl rfl rfl rfl rfl k_53 (by omega) ?_
  refine zr_aloadn X 2 dX5_verify_49 rfl ?_
  refine zr_iconst X (nI (0)) dX5_verify_50 (by decide +kernel) ?_
  refine zr_put X (ci := 0) (q := 3) (ty0 := tyX0) (ty := .int) (32 * f + 33) dX5_verify_51 (by omega) (sc_firm (j := 0) (i := f) (by omega) (by omega) (by have := cb_0; omega)) rfl inX0 tyX0_ok nmX0 (by decide) rfl rfl rfl rfl rfl rfl k_51 (by omega) ?_
  refine zr_aloadn X 2 dX5_verify_54 rfl ?_
  refine zr_get X (ci := 0) (q := 4) zI (.int ((μ (32 * f + 34)) + (μ (32 * f + 33)))) dX5_verify_55 (by omega) (sc_firm (j := 0) (i := f) (by omega) (by omega) (by have := cb_0; omega)) rfl inX0 (by decide) rfl (congrArg Value.int (zcg (by omega) ((pk_un (by omega)).trans (pk_us)))) rfl k_53 ?_
  exact zr_iret X dX5_verify_58 ⟨rfl, rfl⟩

set_option maxHeartbeats 4000000 in
set_option maxRecDepth 100000 in
theorem d_undo_none {l : Launch} {D : va_G} {tc : Nat → ClassId} {ad : Nat → Nat} {A : Nat → Prop} {tF tL tM : Nat} (E : zN 299 A ad) (μ : Nat → Int32) (hz : μ 2451 = nI 0) : zMi l yX5_undo cX5_undo 1 (some .int) (zrm 5) (zK A D tc tF tL tM) A D vwCl tc ad 299 shC [.ref (ad (0))] μ (fun r u => r = -5 ∧ u = μ) := by
  refine zM_of RX5 [(0, .ref (ad (0)))] (zK_ok A D tc tF tL tM) E.1 E.2 owC_ok (by decide +kernel) rfl (Nat.le_of_ble_eq_true rfl) rfl ?_
  intro pP eE sS mM aS bL mT cO X
  refine zr_aloadn X 0 dX5_undo_0 rfl ?_
  refine zr_get X (ci := 5) (q := 3) (zR _) (.ref (ad (124))) dX5_undo_1 (by omega) sc_0 rfl inX5 (by decide) rfl (zvR rfl) rfl k_218 ?_
  refine zr_get X (ci := 1) (q := 1) zI (.int (nI (0))) dX5_undo_4 (by omega) sc_124 rfl inX1 (by decide) rfl (congrArg Value.int (hz)) rfl k_134 ?_
  refine zr_if_ne X 13 dX5_undo_7 (by decide) (fun q => absurd (zq_eq0 (by omega)) q) (fun _ => ?_)
  refine zr_bipush X (-5) dX5_undo_10 (by decide +kernel) ?_
  exact zr_iret X dX5_undo_12 ⟨rfl, rfl⟩

set_option maxHeartbeats 4000000 in
set_option maxRecDepth 100000 in
theorem d_undo_ok {l : Launch} {D : va_G} {tc : Nat → ClassId} {ad : Nat → Nat} {A : Nat → Prop} {tF tL tM : Nat} (E : zN 299 A ad) (μ : Nat → Int32) {ro r2 z : Nat} (hr : μ 2452 = nI ro) (hr4 : ro < 4) (hr2 : (ro + 3) % 4 = r2) (hz : μ 2451 = nI (z + 1)) (hz4 : z < 4) : zMi l yX5_undo cX5_undo 1 (some .int) (zrm 5) (zK A D tc tF tL tM) A D vwCl tc ad 299 shC [.ref (ad (0))] μ (fun r u => r = nI z ∧ u = cp (upd (upd μ 2452 (nI r2)) 2451 (nI z)) (349 * r2 + 1047) 0) := by
  refine zM_of RX5 [(0, .ref (ad (0)))] (zK_ok A D tc tF tL tM) E.1 E.2 owC_ok (by decide +kernel) rfl (Nat.le_of_ble_eq_true rfl) rfl ?_
  intro pP eE sS mM aS bL mT cO X
  refine zr_aloadn X 0 dX5_undo_0 rfl ?_
  refine zr_get X (ci := 5) (q := 3) (zR _) (.ref (ad (124))) dX5_undo_1 (by omega) sc_0 rfl inX5 (by decide) rfl (zvR rfl) rfl k_218 ?_
  refine zr_get X (ci := 1) (q := 1) zI (.int (nI (z + 1))) dX5_undo_4 (by omega) sc_124 rfl inX1 (by decide) rfl (congrArg Value.int (hz)) rfl k_134 ?_
  refine zr_if_ne X 13 dX5_undo_7 (by decide) (fun _ => ?_) (fun q => absurd q (nI_ne0 (by omega) (by omega)))
  refine zr_aloadn X 0 dX5_undo_13 rfl ?_
  refine zr_get X (ci := 5) (q := 3) (zR _) (.ref (ad (124))) dX5_undo_14 (by omega) sc_0 rfl inX5 (by decide) rfl (zvR rfl) rfl k_218 ?_
  refine zr_aloadn X 0 dX5_undo_17 rfl ?_
  refine zr_get X (ci := 5) (q := 0) (zR _) (.ref (ad (1))) dX5_undo_18 (by omega) sc_0 rfl inX5 (by decide) rfl (zvR rfl) rfl k_215 ?_
  refine zr_dVv (C := RX1) (ci := 1) [.ref (ad (1))] [] X (zK_ok A D tc tF tL tM) (d_popInto E μ hr hr4 hr2 hz hz4) k_419 k_420 k_421 k_4 k_422 hdX1_popInto ⟨rfl, rfl⟩ ⟨Nat.le_of_ble_eq_true rfl, Nat.le_of_ble_eq_true rfl⟩ (by omega) sc_124 rfl rfl rfl (Nat.le_of_ble_eq_true rfl) dX5_undo_21 ?_
  refine zr_aloadn X 0 dX5_undo_24 rfl ?_
  refine zr_get X (ci := 5) (q := 3) (zR _) (.ref (ad (124))) dX5_undo_25 (by omega) sc_0 rfl inX5 (by decide) rfl (zvR rfl) rfl k_218 ?_
  refine zr_get X (ci := 1) (q := 1) zI (.int (nI (z))) dX5_undo_28 (by omega) sc_124 rfl inX1 (by decide) rfl (congrArg Value.int ((cp_out (by omega)).trans (pk_us))) rfl k_134 ?_
  exact zr_iret X dX5_undo_31 ⟨rfl, rfl⟩

set_option maxHeartbeats 4000000 in
set_option maxRecDepth 100000 in
theorem d_keep {l : Launch} {D : va_G} {tc : Nat → ClassId} {ad : Nat → Nat} {A : Nat → Prop} {tF tL tM : Nat} (E : zN 299 A ad) (μ : Nat → Int32) {m c ro z : Nat} (S : clsS μ m c ro z)  : zMi l yX5_keep cX5_keep 1 (some .int) (zrm 5) (zK A D tc tF tL tM) A D vwCl tc ad 299 shC [.ref (ad (0))] μ (fun r u => r = nI m ∧ u = upd (cp μ 0 349) 2449 (nI 1)) := by
  refine zM_of RX5 [(0, .ref (ad (0)))] (zK_ok A D tc tF tL tM) E.1 E.2 owC_ok (by decide +kernel) rfl (Nat.le_of_ble_eq_true rfl) rfl ?_
  intro pP eE sS mM aS bL mT cO X
  obtain ⟨hm, hm2, hc, h8, hr, hr4, hz, hz4⟩ := S
  refine zr_aloadn X 0 dX5_keep_0 rfl ?_
  refine zr_get X (ci := 5) (q := 0) (zR _) (.ref (ad (1))) dX5_keep_1 (by omega) sc_0 rfl inX5 (by decide) rfl (zvR rfl) rfl k_215 ?_
  refine zr_aloadn X 0 dX5_keep_4 rfl ?_
  refine zr_get X (ci := 5) (q := 1) (zR _) (.ref (ad (42))) dX5_keep_5 (by omega) sc_0 rfl inX5 (by decide) rfl (zvR rfl) rfl k_216 ?_
  refine zr_dSv [.ref (ad (1)), .ref (ad (42))] [] X (zK_ok A D tc tF tL tM) (d_copyState E μ (j1 := 0) (j2 := 1) (by omega) (by omega) (by omega) cb_0 cb_1 (a := 0) (b := 349) (by omega) (by omega)) k_414 k_246 k_1 k_247 hdX5_copyState ⟨rfl, rfl⟩ ⟨Nat.le_of_ble_eq_true rfl, Nat.le_of_ble_eq_true rfl⟩ rfl rfl (Nat.le_of_ble_eq_true rfl) dX5_keep_8 ?_
  refine zr_aloadn X 0 dX5_keep_11 rfl ?_
  refine zr_iconst X (nI (1)) dX5_keep_12 (by decide +kernel) ?_
  refine zr_put X (ci := 5) (q := 6) (ty0 := tyX5) (ty := .boolean) (2449) dX5_keep_13 (by omega) sc_0 rfl inX5 tyX5_ok nmX5 (by decide) rfl rfl rfl rfl rfl rfl k_221 (by omega) ?_
  refine zr_aloadn X 0 dX5_keep_16 rfl ?_
  refine zr_get X (ci := 5) (q := 0) (zR _) (.ref (ad (1))) dX5_keep_17 (by omega) sc_0 rfl inX5 (by decide) rfl (zvR rfl) rfl k_215 ?_
  refine zr_get X (ci := 2) (q := 0) zI (.int (nI (m))) dX5_keep_20 (by omega) (sc_st (j := 0) (by omega) (by have := cb_0; omega)) rfl inX2 (by decide) rfl (congrArg Value.int ((pk_un (by omega)).trans ((cp_out (by omega)).trans (hm)))) rfl k_83 ?_
  exact zr_iret X dX5_keep_23 ⟨rfl, rfl⟩

set_option maxHeartbeats 4000000 in
set_option maxRecDepth 100000 in
theorem d_restore_none {l : Launch} {D : va_G} {tc : Nat → ClassId} {ad : Nat → Nat} {A : Nat → Prop} {tF tL tM : Nat} (E : zN 299 A ad) (μ : Nat → Int32) {m c ro z : Nat} (S : clsS μ m c ro z) (hq : μ 2449 = nI 0) : zMi l yX5_restore cX5_restore 1 (some .int) (zrm 5) (zK A D tc tF tL tM) A D vwCl tc ad 299 shC [.ref (ad (0))] μ (fun r u => r = -5 ∧ u = μ) := by
  refine zM_of RX5 [(0, .ref (ad (0)))] (zK_ok A D tc tF tL tM) E.1 E.2 owC_ok (by decide +kernel) rfl (Nat.le_of_ble_eq_true rfl) rfl ?_
  intro pP eE sS mM aS bL mT cO X
  obtain ⟨hm, hm2, hc, h8, hr, hr4, hz, hz4⟩ := S
  refine zr_aloadn X 0 dX5_restore_0 rfl ?_
  refine zr_get X (ci := 5) (q := 6) zI (.int (nI (0))) dX5_restore_1 (by omega) sc_0 rfl inX5 (by decide) rfl (congrArg Value.int (hq)) rfl k_221 ?_
  refine zr_if_ne X 10 dX5_restore_4 (by decide) (fun q => absurd (zq_eq0 (by omega)) q) (fun _ => ?_)
  refine zr_bipush X (-5) dX5_restore_7 (by decide +kernel) ?_
  exact zr_iret X dX5_restore_9 ⟨rfl, rfl⟩

set_option maxHeartbeats 4000000 in
set_option maxRecDepth 100000 in
theorem d_restore_ok {l : Launch} {D : va_G} {tc : Nat → ClassId} {ad : Nat → Nat} {A : Nat → Prop} {tF tL tM : Nat} (E : zN 299 A ad) (μ : Nat → Int32) {m c ro z : Nat} (S : clsS μ m c ro z) (hq : μ 2449 = nI 1) : zMi l yX5_restore cX5_restore 1 (some .int) (zrm 5) (zK A D tc tF tL tM) A D vwCl tc ad 299 shC [.ref (ad (0))] μ (fun r u => r = μ 349 ∧ u = cp (zpush μ (ro) (z)) 349 0) := by
  refine zM_of RX5 [(0, .ref (ad (0)))] (zK_ok A D tc tF tL tM) E.1 E.2 owC_ok (by decide +kernel) rfl (Nat.le_of_ble_eq_true rfl) rfl ?_
  intro pP eE sS mM aS bL mT cO X
  obtain ⟨hm, hm2, hc, h8, hr, hr4, hz, hz4⟩ := S
  refine zr_aloadn X 0 dX5_restore_0 rfl ?_
  refine zr_get X (ci := 5) (q := 6) zI (.int (nI (1))) dX5_restore_1 (by omega) sc_0 rfl inX5 (by decide) rfl (congrArg Value.int (hq)) rfl k_221 ?_
  refine zr_if_ne X 10 dX5_restore_4 (by decide) (fun _ => ?_) (fun q => absurd q (nI_ne0 (by omega) (by omega)))
  refine zr_aloadn X 0 dX5_restore_10 rfl ?_
  refine zr_get X (ci := 5) (q := 3) (zR _) (.ref (ad (124))) dX5_restore_11 (by omega) sc_0 rfl inX5 (by decide) rfl (zvR rfl) rfl k_218 ?_
  refine zr_aloadn X 0 dX5_restore_14 rfl ?_
  refine zr_get X (ci := 5) (q := 0) (zR _) (.ref (ad (1))) dX5_restore_15 (by omega) sc_0 rfl inX5 (by decide) rfl (zvR rfl) rfl k_215 ?_
  refine zr_dVv (C := RX1) (ci := 1) [.ref (ad (1))] [] X (zK_ok A D tc tF tL tM) (d_push E μ (hr) hr4 (hz) hz4) k_241 k_242 k_243 k_4 k_244 hdX1_push ⟨rfl, rfl⟩ ⟨Nat.le_of_ble_eq_true rfl, Nat.le_of_ble_eq_true rfl⟩ (by omega) sc_124 rfl rfl rfl (Nat.le_of_ble_eq_true rfl) dX5_restore_18 ?_
  refine zr_aloadn X 0 dX5_restore_21 rfl ?_
  refine zr_get X (ci := 5) (q := 1) (zR _) (.ref (ad (42))) dX5_restore_22 (by omega) sc_0 rfl inX5 (by decide) rfl (zvR rfl) rfl k_216 ?_
  refine zr_aloadn X 0 dX5_restore_25 rfl ?_
  refine zr_get X (ci := 5) (q := 0) (zR _) (.ref (ad (1))) dX5_restore_26 (by omega) sc_0 rfl inX5 (by decide) rfl (zvR rfl) rfl k_215 ?_
  refine zr_dSv [.ref (ad (42)), .ref (ad (1))] [] X (zK_ok A D tc tF tL tM) (d_copyState E (zpush μ (ro) (z)) (j1 := 1) (j2 := 0) (by omega) (by omega) (by omega) cb_1 cb_0 (a := 349) (b := 0) (by omega) (by omega)) k_414 k_246 k_1 k_247 hdX5_copyState ⟨rfl, rfl⟩ ⟨Nat.le_of_ble_eq_true rfl, Nat.le_of_ble_eq_true rfl⟩ rfl rfl (Nat.le_of_ble_eq_true rfl) dX5_restore_29 ?_
  refine zr_aloadn X 0 dX5_restore_32 rfl ?_
  refine zr_get X (ci := 5) (q := 0) (zR _) (.ref (ad (1))) dX5_restore_33 (by omega) sc_0 rfl inX5 (by decide) rfl (zvR rfl) rfl k_215 ?_
  refine zr_get X (ci := 2) (q := 0) zI (.int (μ (349))) dX5_restore_36 (by omega) (sc_st (j := 0) (by omega) (by have := cb_0; omega)) rfl inX2 (by decide) rfl (congrArg Value.int ((cp_in (by omega) (by omega) (by omega)).trans (zpush_lo (by omega) hr4))) rfl k_83 ?_
  exact zr_iret X dX5_restore_39 ⟨rfl, rfl⟩

