set_option maxHeartbeats 4000000 in
set_option maxRecDepth 100000 in
theorem d_copyNumbers {l : Launch} {D : va_G} {tc : Nat → ClassId} {ad : Nat → Nat} {A : Nat → Prop} {tF tL tM : Nat} (E : zN 299 A ad) (μ : Nat → Int32) {k1 k2 n o1 o2 : Nat} (hk1 : k1 < 299) (hk2 : k2 < 299) (hs1 : shC k1 = .inl (0, n, o1)) (hs2 : shC k2 = .inl (0, n, o2)) (hn : n ≤ 20) : zMv l yX5_copyNumbers cX5_copyNumbers 2 (zrm 1) (zK A D tc tF tL tM) A D vwCl tc ad 299 shC [.ref (ad (k1)), .ref (ad (k2))] μ (fun u => u = cpn μ o1 o2 n) := by
  refine zM_of RX5 [(0, .ref (ad (k1))), (1, .ref (ad (k2)))] (zK_ok A D tc tF tL tM) E.1 E.2 owC_ok (by decide +kernel) rfl (Nat.le_of_ble_eq_true rfl) rfl ?_
  intro pP eE sS mM aS bL mT cO X
  refine zr_aloadn X 0 dX5_copyNumbers_0 rfl ?_
  refine zr_iconst X (nI (0)) dX5_copyNumbers_1 (by decide +kernel) ?_
  refine zr_aloadn X 1 dX5_copyNumbers_2 rfl ?_
  refine zr_iconst X (nI (0)) dX5_copyNumbers_3 (by decide +kernel) ?_
  refine zr_aloadn X 0 dX5_copyNumbers_4 rfl ?_
  refine zr_alenI X 0 (nI (n)) dX5_copyNumbers_5 hk1 hs1 rfl rfl ?_
  refine zr_aloadn X 1 dX5_copyNumbers_6 rfl ?_
  refine zr_alenI X 0 (nI (n)) dX5_copyNumbers_7 hk2 hs2 rfl rfl ?_
  refine zr_mmin X (nI (n)) dX5_copyNumbers_8 k_251 k_252 k_8 k_253 (Nat.le_of_ble_eq_true rfl) (Nat.le_of_ble_eq_true rfl) ((zmin_eq _ _).trans (zmin_self _)) ?_
  refine zr_acopy X 0 dX5_copyNumbers_11 hk1 hk2 hs1 hs2 rfl rfl (by omega) k_254 k_256 k_255 k_9 (by decide) (by decide) ?_
  exact zr_vret X dX5_copyNumbers_14 rfl
theorem d_cN {l : Launch} {D : va_G} {tc : Nat → ClassId} {ad : Nat → Nat} {A : Nat → Prop} {tF tL tM : Nat} (E : zN 299 A ad) (μ : Nat → Int32) {k1 k2 n o1 o2 a b : Nat} (hk1 : k1 < 299) (hk2 : k2 < 299) (hs1 : shC k1 = .inl (0, n, o1)) (hs2 : shC k2 = .inl (0, n, o2)) (hn : n ≤ 20) (ha : o1 = a) (hb : o2 = b) : zMv l yX5_copyNumbers cX5_copyNumbers 2 (zrm 1) (zK A D tc tF tL tM) A D vwCl tc ad 299 shC [.ref (ad k1), .ref (ad k2)] μ (fun u => u = cpn μ a b n) := by
  subst ha; subst hb
  exact d_copyNumbers E μ hk1 hk2 hs1 hs2 hn
set_option maxHeartbeats 4000000 in
set_option maxRecDepth 100000 in
theorem d_copyFirm {l : Launch} {D : va_G} {tc : Nat → ClassId} {ad : Nat → Nat} {A : Nat → Prop} {tF tL tM : Nat} (E : zN 299 A ad) (μ : Nat → Int32) {j1 j2 i : Nat} (h1 : j1 < 7) (h2 : j2 < 7) (hne : j1 ≠ j2) (hi8 : i < 8)  : zMv l yX5_copyFirm cX5_copyFirm 2 (zrm 2) (zK A D tc tF tL tM) A D vwCl tc ad 299 shC [.ref (ad ((cb j1) + 4 * i + 3)), .ref (ad ((cb j2) + 4 * i + 3))] μ (fun u => u = cpn μ (32 * i + 349 * j1 + 7) (32 * i + 349 * j2 + 7) 32) := by
  refine zM_of RX5 [(0, .ref (ad ((cb j1) + 4 * i + 3))), (1, .ref (ad ((cb j2) + 4 * i + 3)))] (zK_ok A D tc tF tL tM) E.1 E.2 owC_ok (by decide +kernel) rfl (Nat.le_of_ble_eq_true rfl) rfl ?_
  intro pP eE sS mM aS bL mT cO X
  refine zr_aloadn X 0 dX5_copyFirm_0 rfl ?_
  refine zr_ifnull X dX5_copyFirm_1 ?_
  refine zr_aloadn X 1 dX5_copyFirm_4 rfl ?_
  refine zr_ifnonnull X 9 dX5_copyFirm_5 (by decide) ?_
  refine zr_aloadn X 0 dX5_copyFirm_9 rfl ?_
  refine zr_get X (ci := 0) (q := 0) (zR _) (.ref (ad ((cb j1) + 4 * i + 4))) dX5_copyFirm_10 (by have := cb_lt (j := j1) (by omega); omega) (sc_firm (j := j1) (i := i) (by omega) (by omega) (by omega)) rfl inX0 (by decide) rfl (zvR (by omega)) rfl k_42 ?_
  refine zr_aloadn X 1 dX5_copyFirm_13 rfl ?_
  refine zr_get X (ci := 0) (q := 0) (zR _) (.ref (ad ((cb j2) + 4 * i + 4))) dX5_copyFirm_14 (by have := cb_lt (j := j2) (by omega); omega) (sc_firm (j := j2) (i := i) (by omega) (by omega) (by omega)) rfl inX0 (by decide) rfl (zvR (by omega)) rfl k_42 ?_
  refine zr_dSv [.ref (ad ((cb j1) + 4 * i + 4)), .ref (ad ((cb j2) + 4 * i + 4))] [] X (zK_ok A D tc tF tL tM) (d_cN E μ (k1 := (cb j1) + 4 * i + 4) (k2 := (cb j2) + 4 * i + 4) (by have := cb_lt (j := j1) (by omega); omega) (by have := cb_lt (j := j2) (by omega); omega) (sc_held (j := j1) (i := i) (by omega) (by omega) (by omega)) (sc_held (j := j2) (i := i) (by omega) (by omega) (by omega)) (by omega) (a := 32 * i + 349 * j1 + 7) (b := 32 * i + 349 * j2 + 7) (by omega) (by omega)) k_248 k_249 k_1 k_250 hdX5_copyNumbers ⟨rfl, rfl⟩ ⟨Nat.le_of_ble_eq_true rfl, Nat.le_of_ble_eq_true rfl⟩ rfl rfl (Nat.le_of_ble_eq_true rfl) dX5_copyFirm_17 ?_
  refine zr_aloadn X 0 dX5_copyFirm_20 rfl ?_
  refine zr_get X (ci := 0) (q := 1) (zR _) (.ref (ad ((cb j1) + 4 * i + 5))) dX5_copyFirm_21 (by have := cb_lt (j := j1) (by omega); omega) (sc_firm (j := j1) (i := i) (by omega) (by omega) (by omega)) rfl inX0 (by decide) rfl (zvR (by omega)) rfl k_45 ?_
  refine zr_aloadn X 1 dX5_copyFirm_24 rfl ?_
  refine zr_get X (ci := 0) (q := 1) (zR _) (.ref (ad ((cb j2) + 4 * i + 5))) dX5_copyFirm_25 (by have := cb_lt (j := j2) (by omega); omega) (sc_firm (j := j2) (i := i) (by omega) (by omega) (by omega)) rfl inX0 (by decide) rfl (zvR (by omega)) rfl k_45 ?_
  refine zr_dSv [.ref (ad ((cb j1) + 4 * i + 5)), .ref (ad ((cb j2) + 4 * i + 5))] [] X (zK_ok A D tc tF tL tM) (d_cN E (cpn μ (32 * i + 349 * j1 + 7) (32 * i + 349 * j2 + 7) 20) (k1 := (cb j1) + 4 * i + 5) (k2 := (cb j2) + 4 * i + 5) (by have := cb_lt (j := j1) (by omega); omega) (by have := cb_lt (j := j2) (by omega); omega) (sc_off (j := j1) (i := i) (by omega) (by omega) (by omega)) (sc_off (j := j2) (i := i) (by omega) (by omega) (by omega)) (by omega) (a := 32 * i + 349 * j1 + 27) (b := 32 * i + 349 * j2 + 27) (by omega) (by omega)) k_248 k_249 k_1 k_250 hdX5_copyNumbers ⟨rfl, rfl⟩ ⟨Nat.le_of_ble_eq_true rfl, Nat.le_of_ble_eq_true rfl⟩ rfl rfl (Nat.le_of_ble_eq_true rfl) dX5_copyFirm_28 ?_
  refine zr_aloadn X 0 dX5_copyFirm_31 rfl ?_
  refine zr_get X (ci := 0) (q := 2) (zR _) (.ref (ad ((cb j1) + 4 * i + 6))) dX5_copyFirm_32 (by have := cb_lt (j := j1) (by omega); omega) (sc_firm (j := j1) (i := i) (by omega) (by omega) (by omega)) rfl inX0 (by decide) rfl (zvR (by omega)) rfl k_49 ?_
  refine zr_aloadn X 1 dX5_copyFirm_35 rfl ?_
  refine zr_get X (ci := 0) (q := 2) (zR _) (.ref (ad ((cb j2) + 4 * i + 6))) dX5_copyFirm_36 (by have := cb_lt (j := j2) (by omega); omega) (sc_firm (j := j2) (i := i) (by omega) (by omega) (by omega)) rfl inX0 (by decide) rfl (zvR (by omega)) rfl k_49 ?_
  refine zr_dSv [.ref (ad ((cb j1) + 4 * i + 6)), .ref (ad ((cb j2) + 4 * i + 6))] [] X (zK_ok A D tc tF tL tM) (d_cN E (cpn (cpn μ (32 * i + 349 * j1 + 7) (32 * i + 349 * j2 + 7) 20) (32 * i + 349 * j1 + 27) (32 * i + 349 * j2 + 27) 3) (k1 := (cb j1) + 4 * i + 6) (k2 := (cb j2) + 4 * i + 6) (by have := cb_lt (j := j1) (by omega); omega) (by have := cb_lt (j := j2) (by omega); omega) (sc_used (j := j1) (i := i) (by omega) (by omega) (by omega)) (sc_used (j := j2) (i := i) (by omega) (by omega) (by omega)) (by omega) (a := 32 * i + 349 * j1 + 30) (b := 32 * i + 349 * j2 + 30) (by omega) (by omega)) k_248 k_249 k_1 k_250 hdX5_copyNumbers ⟨rfl, rfl⟩ ⟨Nat.le_of_ble_eq_true rfl, Nat.le_of_ble_eq_true rfl⟩ rfl rfl (Nat.le_of_ble_eq_true rfl) dX5_copyFirm_39 ?_
  refine zr_aloadn X 1 dX5_copyFirm_42 rfl ?_
  refine zr_aloadn X 0 dX5_copyFirm_43 rfl ?_
  refine zr_get X (ci := 0) (q := 3) zI (.int (μ (32 * i + 349 * j1 + 33))) dX5_copyFirm_44 (by have := cb_lt (j := j1) (by omega); omega) (sc_firm (j := j1) (i := i) (by omega) (by omega) (by omega)) rfl inX0 (by decide) rfl (congrArg Value.int (zcg (by omega) ((cpn_out (by omega)).trans ((cpn_out (by omega)).trans (cpn_out (by omega)))))) rfl k_51 ?_
  refine zr_put X (ci := 0) (q := 3) (ty0 := tyX0) (ty := .int) (32 * i + 349 * j2 + 33) dX5_copyFirm_47 (by have := cb_lt (j := j2) (by omega); omega) (sc_firm (j := j2) (i := i) (by omega) (by omega) (by omega)) rfl inX0 tyX0_ok nmX0 (by decide) rfl rfl rfl rfl rfl rfl k_51 (by omega) ?_
  refine zr_aloadn X 1 dX5_copyFirm_50 rfl ?_
  refine zr_aloadn X 0 dX5_copyFirm_51 rfl ?_
  refine zr_get X (ci := 0) (q := 4) zI (.int (μ (32 * i + 349 * j1 + 34))) dX5_copyFirm_52 (by have := cb_lt (j := j1) (by omega); omega) (sc_firm (j := j1) (i := i) (by omega) (by omega) (by omega)) rfl inX0 (by decide) rfl (congrArg Value.int (zcg (by omega) ((pk_un (by omega)).trans ((cpn_out (by omega)).trans ((cpn_out (by omega)).trans (cpn_out (by omega))))))) rfl k_53 ?_
  refine zr_put X (ci := 0) (q := 4) (ty0 := tyX0) (ty := .int) (32 * i + 349 * j2 + 34) dX5_copyFirm_55 (by have := cb_lt (j := j2) (by omega); omega) (sc_firm (j := j2) (i := i) (by omega) (by omega) (by omega)) rfl inX0 tyX0_ok nmX0 (by decide) rfl rfl rfl rfl rfl rfl k_53 (by omega) ?_
  refine zr_aloadn X 1 dX5_copyFirm_58 rfl ?_
  refine zr_aloadn X 0 dX5_copyFirm_59 rfl ?_
  refine zr_get X (ci := 0) (q := 5) zI (.int (μ (32 * i + 349 * j1 + 35))) dX5_copyFirm_60 (by have := cb_lt (j := j1) (by omega); omega) (sc_firm (j := j1) (i := i) (by omega) (by omega) (by omega)) rfl inX0 (by decide) rfl (congrArg Value.int (zcg (by omega) ((pk_un (by omega)).trans ((pk_un (by omega)).trans ((cpn_out (by omega)).trans ((cpn_out (by omega)).trans (cpn_out (by omega)))))))) rfl k_55 ?_
  refine zr_put X (ci := 0) (q := 5) (ty0 := tyX0) (ty := .int) (32 * i + 349 * j2 + 35) dX5_copyFirm_63 (by have := cb_lt (j := j2) (by omega); omega) (sc_firm (j := j2) (i := i) (by omega) (by omega) (by omega)) rfl inX0 tyX0_ok nmX0 (by decide) rfl rfl rfl rfl rfl rfl k_55 (by omega) ?_
  refine zr_aloadn X 1 dX5_copyFirm_66 rfl ?_
  refine zr_aloadn X 0 dX5_copyFirm_67 rfl ?_
  refine zr_get X (ci := 0) (q := 6) zI (.int (μ (32 * i + 349 * j1 + 36))) dX5_copyFirm_68 (by have := cb_lt (j := j1) (by omega); omega) (sc_firm (j := j1) (i := i) (by omega) (by omega) (by omega)) rfl inX0 (by decide) rfl (congrArg Value.int (zcg (by omega) ((pk_un (by omega)).trans ((pk_un (by omega)).trans ((pk_un (by omega)).trans ((cpn_out (by omega)).trans ((cpn_out (by omega)).trans (cpn_out (by omega))))))))) rfl k_58 ?_
  refine zr_put X (ci := 0) (q := 6) (ty0 := tyX0) (ty := .int) (32 * i + 349 * j2 + 36) dX5_copyFirm_71 (by have := cb_lt (j := j2) (by omega); omega) (sc_firm (j := j2) (i := i) (by omega) (by omega) (by omega)) rfl inX0 tyX0_ok nmX0 (by decide) rfl rfl rfl rfl rfl rfl k_58 (by omega) ?_
  refine zr_aloadn X 1 dX5_copyFirm_74 rfl ?_
  refine zr_aloadn X 0 dX5_copyFirm_75 rfl ?_
  refine zr_get X (ci := 0) (q := 7) zI (.int (μ (32 * i + 349 * j1 + 37))) dX5_copyFirm_76 (by have := cb_lt (j := j1) (by omega); omega) (sc_firm (j := j1) (i := i) (by omega) (by omega) (by omega)) rfl inX0 (by decide) rfl (congrArg Value.int (zcg (by omega) ((pk_un (by omega)).trans ((pk_un (by omega)).trans ((pk_un (by omega)).trans ((pk_un (by omega)).trans ((cpn_out (by omega)).trans ((cpn_out (by omega)).trans (cpn_out (by omega)))))))))) rfl k_59 ?_
  refine zr_put X (ci := 0) (q := 7) (ty0 := tyX0) (ty := .int) (32 * i + 349 * j2 + 37) dX5_copyFirm_79 (by have := cb_lt (j := j2) (by omega); omega) (sc_firm (j := j2) (i := i) (by omega) (by omega) (by omega)) rfl inX0 tyX0_ok nmX0 (by decide) rfl rfl rfl rfl rfl rfl k_59 (by omega) ?_
  refine zr_aloadn X 1 dX5_copyFirm_82 rfl ?_
  refine zr_aloadn X 0 dX5_copyFirm_83 rfl ?_
  refine zr_get X (ci := 0) (q := 8) zI (.int (μ (32 * i + 349 * j1 + 38))) dX5_copyFirm_84 (by have := cb_lt (j := j1) (by omega); omega) (sc_firm (j := j1) (i := i) (by omega) (by omega) (by omega)) rfl inX0 (by decide) rfl (congrArg Value.int (zcg (by omega) ((pk_un (by omega)).trans ((pk_un (by omega)).trans ((pk_un (by omega)).trans ((pk_un (by omega)).trans ((pk_un (by omega)).trans ((cpn_out (by omega)).trans ((cpn_out (by omega)).trans (cpn_out (by omega))))))))))) rfl k_61 ?_
  refine zr_put X (ci := 0) (q := 8) (ty0 := tyX0) (ty := .int) (32 * i + 349 * j2 + 38) dX5_copyFirm_87 (by have := cb_lt (j := j2) (by omega); omega) (sc_firm (j := j2) (i := i) (by omega) (by omega) (by omega)) rfl inX0 tyX0_ok nmX0 (by decide) rfl rfl rfl rfl rfl rfl k_61 (by omega) ?_
  exact zr_vret X dX5_copyFirm_90 (firm_all (a := 32 * i + 349 * j1 + 7) (b := 32 * i + 349 * j2 + 7) (by omega))

set_option maxHeartbeats 4000000 in
set_option maxRecDepth 100000 in
theorem d_copyState0 {l : Launch} {D : va_G} {tc : Nat → ClassId} {ad : Nat → Nat} {A : Nat → Prop} {tF tL tM : Nat} (E : zN 299 A ad) (μ : Nat → Int32) {j1 j2 : Nat} (h1 : j1 < 7) (h2 : j2 < 7) (hne : j1 ≠ j2) : zMv l yX5_copyState cX5_copyState 3 (zrm 3) (zK A D tc tF tL tM) A D vwCl tc ad 299 shC [.ref (ad ((cb j1))), .ref (ad ((cb j2)))] μ (fun u => u = cp μ (349 * j1) (349 * j2)) := by
  refine zM_of RX5 [(0, .ref (ad ((cb j1)))), (1, .ref (ad ((cb j2))))] (zK_ok A D tc tF tL tM) E.1 E.2 owC_ok (by decide +kernel) rfl (Nat.le_of_ble_eq_true rfl) rfl ?_
  intro pP eE sS mM aS bL mT cO X
  refine zr_aloadn X 0 dX5_copyState_0 rfl ?_
  refine zr_ifnull X dX5_copyState_1 ?_
  refine zr_aloadn X 1 dX5_copyState_4 rfl ?_
  refine zr_ifnonnull X 9 dX5_copyState_5 (by decide) ?_
  refine zr_aloadn X 1 dX5_copyState_9 rfl ?_
  refine zr_aloadn X 0 dX5_copyState_10 rfl ?_
  refine zr_get X (ci := 2) (q := 0) zI (.int (μ (349 * j1))) dX5_copyState_11 (by have := cb_lt (j := j1) (by omega); omega) (sc_st (j := j1) (by omega) (by omega)) rfl inX2 (by decide) rfl (congrArg Value.int (zcg (by omega) (rfl))) rfl k_83 ?_
  refine zr_put X (ci := 2) (q := 0) (ty0 := tyX2) (ty := .int) (349 * j2) dX5_copyState_14 (by have := cb_lt (j := j2) (by omega); omega) (sc_st (j := j2) (by omega) (by omega)) rfl inX2 tyX2_ok nmX2 (by decide) rfl rfl rfl rfl rfl rfl k_83 (by omega) ?_
  refine zr_aloadn X 1 dX5_copyState_17 rfl ?_
  refine zr_aloadn X 0 dX5_copyState_18 rfl ?_
  refine zr_get X (ci := 2) (q := 1) zI (.int (μ (349 * j1 + 1))) dX5_copyState_19 (by have := cb_lt (j := j1) (by omega); omega) (sc_st (j := j1) (by omega) (by omega)) rfl inX2 (by decide) rfl (congrArg Value.int (zcg (by omega) ((pk_un (by omega)).trans (rfl)))) rfl k_84 ?_
  refine zr_put X (ci := 2) (q := 1) (ty0 := tyX2) (ty := .int) (349 * j2 + 1) dX5_copyState_22 (by have := cb_lt (j := j2) (by omega); omega) (sc_st (j := j2) (by omega) (by omega)) rfl inX2 tyX2_ok nmX2 (by decide) rfl rfl rfl rfl rfl rfl k_84 (by omega) ?_
  refine zr_aloadn X 0 dX5_copyState_25 rfl ?_
  refine zr_get X (ci := 2) (q := 2) (zR _) (.ref (ad ((cb j1) + 1))) dX5_copyState_26 (by have := cb_lt (j := j1) (by omega); omega) (sc_st (j := j1) (by omega) (by omega)) rfl inX2 (by decide) rfl (zvR (by omega)) rfl k_87 ?_
  refine zr_aloadn X 1 dX5_copyState_29 rfl ?_
  refine zr_get X (ci := 2) (q := 2) (zR _) (.ref (ad ((cb j2) + 1))) dX5_copyState_30 (by have := cb_lt (j := j2) (by omega); omega) (sc_st (j := j2) (by omega) (by omega)) rfl inX2 (by decide) rfl (zvR (by omega)) rfl k_87 ?_
  refine zr_dSv [.ref (ad ((cb j1) + 1)), .ref (ad ((cb j2) + 1))] [] X (zK_ok A D tc tF tL tM) (d_cN E (upd (upd μ (349 * j2) (μ (349 * j1))) (349 * j2 + 1) (μ (349 * j1 + 1))) (k1 := (cb j1) + 1) (k2 := (cb j2) + 1) (by have := cb_lt (j := j1) (by omega); omega) (by have := cb_lt (j := j2) (by omega); omega) (sc_set (j := j1) (by omega) (by omega)) (sc_set (j := j2) (by omega) (by omega)) (by omega) (a := 349 * j1 + 2) (b := 349 * j2 + 2) (by omega) (by omega)) k_248 k_249 k_1 k_250 hdX5_copyNumbers ⟨rfl, rfl⟩ ⟨Nat.le_of_ble_eq_true rfl, Nat.le_of_ble_eq_true rfl⟩ rfl rfl (Nat.le_of_ble_eq_true rfl) dX5_copyState_33 ?_
  refine zr_aloadn X 0 dX5_copyState_36 rfl ?_
  refine zr_get X (ci := 2) (q := 4) (zR _) (.ref (ad ((cb j1) + 35))) dX5_copyState_37 (by have := cb_lt (j := j1) (by omega); omega) (sc_st (j := j1) (by omega) (by omega)) rfl inX2 (by decide) rfl (zvR (by omega)) rfl k_91 ?_
  refine zr_aloadn X 1 dX5_copyState_40 rfl ?_
  refine zr_get X (ci := 2) (q := 4) (zR _) (.ref (ad ((cb j2) + 35))) dX5_copyState_41 (by have := cb_lt (j := j2) (by omega); omega) (sc_st (j := j2) (by omega) (by omega)) rfl inX2 (by decide) rfl (zvR (by omega)) rfl k_91 ?_
  refine zr_dSv [.ref (ad ((cb j1) + 35)), .ref (ad ((cb j2) + 35))] [] X (zK_ok A D tc tF tL tM) (d_cN E (cpn (upd (upd μ (349 * j2) (μ (349 * j1))) (349 * j2 + 1) (μ (349 * j1 + 1))) (349 * j1 + 2) (349 * j2 + 2) 5) (k1 := (cb j1) + 35) (k2 := (cb j2) + 35) (by have := cb_lt (j := j1) (by omega); omega) (by have := cb_lt (j := j2) (by omega); omega) (sc_iss (j := j1) (by omega) (by omega)) (sc_iss (j := j2) (by omega) (by omega)) (by omega) (a := 349 * j1 + 263) (b := 349 * j2 + 263) (by omega) (by omega)) k_248 k_249 k_1 k_250 hdX5_copyNumbers ⟨rfl, rfl⟩ ⟨Nat.le_of_ble_eq_true rfl, Nat.le_of_ble_eq_true rfl⟩ rfl rfl (Nat.le_of_ble_eq_true rfl) dX5_copyState_44 ?_
  refine zr_aloadn X 0 dX5_copyState_47 rfl ?_
  refine zr_get X (ci := 2) (q := 5) (zR _) (.ref (ad ((cb j1) + 36))) dX5_copyState_48 (by have := cb_lt (j := j1) (by omega); omega) (sc_st (j := j1) (by omega) (by omega)) rfl inX2 (by decide) rfl (zvR (by omega)) rfl k_93 ?_
  refine zr_aloadn X 1 dX5_copyState_51 rfl ?_
  refine zr_get X (ci := 2) (q := 5) (zR _) (.ref (ad ((cb j2) + 36))) dX5_copyState_52 (by have := cb_lt (j := j2) (by omega); omega) (sc_st (j := j2) (by omega) (by omega)) rfl inX2 (by decide) rfl (zvR (by omega)) rfl k_93 ?_
  refine zr_dSv [.ref (ad ((cb j1) + 36)), .ref (ad ((cb j2) + 36))] [] X (zK_ok A D tc tF tL tM) (d_cN E (cpn (cpn (upd (upd μ (349 * j2) (μ (349 * j1))) (349 * j2 + 1) (μ (349 * j1 + 1))) (349 * j1 + 2) (349 * j2 + 2) 5) (349 * j1 + 263) (349 * j2 + 263) 20) (k1 := (cb j1) + 36) (k2 := (cb j2) + 36) (by have := cb_lt (j := j1) (by omega); omega) (by have := cb_lt (j := j2) (by omega); omega) (sc_sur (j := j1) (by omega) (by omega)) (sc_sur (j := j2) (by omega) (by omega)) (by omega) (a := 349 * j1 + 283) (b := 349 * j2 + 283) (by omega) (by omega)) k_248 k_249 k_1 k_250 hdX5_copyNumbers ⟨rfl, rfl⟩ ⟨Nat.le_of_ble_eq_true rfl, Nat.le_of_ble_eq_true rfl⟩ rfl rfl (Nat.le_of_ble_eq_true rfl) dX5_copyState_55 ?_
  refine zr_aloadn X 0 dX5_copyState_58 rfl ?_
  refine zr_get X (ci := 2) (q := 6) (zR _) (.ref (ad ((cb j1) + 37))) dX5_copyState_59 (by have := cb_lt (j := j1) (by omega); omega) (sc_st (j := j1) (by omega) (by omega)) rfl inX2 (by decide) rfl (zvR (by omega)) rfl k_95 ?_
  refine zr_aloadn X 1 dX5_copyState_62 rfl ?_
  refine zr_get X (ci := 2) (q := 6) (zR _) (.ref (ad ((cb j2) + 37))) dX5_copyState_63 (by have := cb_lt (j := j2) (by omega); omega) (sc_st (j := j2) (by omega) (by omega)) rfl inX2 (by decide) rfl (zvR (by omega)) rfl k_95 ?_
  refine zr_dSv [.ref (ad ((cb j1) + 37)), .ref (ad ((cb j2) + 37))] [] X (zK_ok A D tc tF tL tM) (d_cN E (cpn (cpn (cpn (upd (upd μ (349 * j2) (μ (349 * j1))) (349 * j2 + 1) (μ (349 * j1 + 1))) (349 * j1 + 2) (349 * j2 + 2) 5) (349 * j1 + 263) (349 * j2 + 263) 20) (349 * j1 + 283) (349 * j2 + 283) 20) (k1 := (cb j1) + 37) (k2 := (cb j2) + 37) (by have := cb_lt (j := j1) (by omega); omega) (by have := cb_lt (j := j2) (by omega); omega) (sc_can (j := j1) (by omega) (by omega)) (sc_can (j := j2) (by omega) (by omega)) (by omega) (a := 349 * j1 + 303) (b := 349 * j2 + 303) (by omega) (by omega)) k_248 k_249 k_1 k_250 hdX5_copyNumbers ⟨rfl, rfl⟩ ⟨Nat.le_of_ble_eq_true rfl, Nat.le_of_ble_eq_true rfl⟩ rfl rfl (Nat.le_of_ble_eq_true rfl) dX5_copyState_66 ?_
  refine zr_aloadn X 0 dX5_copyState_69 rfl ?_
  refine zr_get X (ci := 2) (q := 7) (zR _) (.ref (ad ((cb j1) + 38))) dX5_copyState_70 (by have := cb_lt (j := j1) (by omega); omega) (sc_st (j := j1) (by omega) (by omega)) rfl inX2 (by decide) rfl (zvR (by omega)) rfl k_97 ?_
  refine zr_aloadn X 1 dX5_copyState_73 rfl ?_
  refine zr_get X (ci := 2) (q := 7) (zR _) (.ref (ad ((cb j2) + 38))) dX5_copyState_74 (by have := cb_lt (j := j2) (by omega); omega) (sc_st (j := j2) (by omega) (by omega)) rfl inX2 (by decide) rfl (zvR (by omega)) rfl k_97 ?_
  refine zr_dSv [.ref (ad ((cb j1) + 38)), .ref (ad ((cb j2) + 38))] [] X (zK_ok A D tc tF tL tM) (d_cN E (cpn (cpn (cpn (cpn (upd (upd μ (349 * j2) (μ (349 * j1))) (349 * j2 + 1) (μ (349 * j1 + 1))) (349 * j1 + 2) (349 * j2 + 2) 5) (349 * j1 + 263) (349 * j2 + 263) 20) (349 * j1 + 283) (349 * j2 + 283) 20) (349 * j1 + 303) (349 * j2 + 303) 20) (k1 := (cb j1) + 38) (k2 := (cb j2) + 38) (by have := cb_lt (j := j1) (by omega); omega) (by have := cb_lt (j := j2) (by omega); omega) (sc_los (j := j1) (by omega) (by omega)) (sc_los (j := j2) (by omega) (by omega)) (by omega) (a := 349 * j1 + 323) (b := 349 * j2 + 323) (by omega) (by omega)) k_248 k_249 k_1 k_250 hdX5_copyNumbers ⟨rfl, rfl⟩ ⟨Nat.le_of_ble_eq_true rfl, Nat.le_of_ble_eq_true rfl⟩ rfl rfl (Nat.le_of_ble_eq_true rfl) dX5_copyState_77 ?_
  refine zr_aloadn X 0 dX5_copyState_80 rfl ?_
  refine zr_get X (ci := 2) (q := 8) (zR _) (.ref (ad ((cb j1) + 39))) dX5_copyState_81 (by have := cb_lt (j := j1) (by omega); omega) (sc_st (j := j1) (by omega) (by omega)) rfl inX2 (by decide) rfl (zvR (by omega)) rfl k_99 ?_
  refine zr_aloadn X 1 dX5_copyState_84 rfl ?_
  refine zr_get X (ci := 2) (q := 8) (zR _) (.ref (ad ((cb j2) + 39))) dX5_copyState_85 (by have := cb_lt (j := j2) (by omega); omega) (sc_st (j := j2) (by omega) (by omega)) rfl inX2 (by decide) rfl (zvR (by omega)) rfl k_99 ?_
  refine zr_dSv [.ref (ad ((cb j1) + 39)), .ref (ad ((cb j2) + 39))] [] X (zK_ok A D tc tF tL tM) (d_cN E (cpn (cpn (cpn (cpn (cpn (upd (upd μ (349 * j2) (μ (349 * j1))) (349 * j2 + 1) (μ (349 * j1 + 1))) (349 * j1 + 2) (349 * j2 + 2) 5) (349 * j1 + 263) (349 * j2 + 263) 20) (349 * j1 + 283) (349 * j2 + 283) 20) (349 * j1 + 303) (349 * j2 + 303) 20) (349 * j1 + 323) (349 * j2 + 323) 20) (k1 := (cb j1) + 39) (k2 := (cb j2) + 39) (by have := cb_lt (j := j1) (by omega); omega) (by have := cb_lt (j := j2) (by omega); omega) (sc_oi (j := j1) (by omega) (by omega)) (sc_oi (j := j2) (by omega) (by omega)) (by omega) (a := 349 * j1 + 343) (b := 349 * j2 + 343) (by omega) (by omega)) k_248 k_249 k_1 k_250 hdX5_copyNumbers ⟨rfl, rfl⟩ ⟨Nat.le_of_ble_eq_true rfl, Nat.le_of_ble_eq_true rfl⟩ rfl rfl (Nat.le_of_ble_eq_true rfl) dX5_copyState_88 ?_
  refine zr_aloadn X 0 dX5_copyState_91 rfl ?_
  refine zr_get X (ci := 2) (q := 9) (zR _) (.ref (ad ((cb j1) + 40))) dX5_copyState_92 (by have := cb_lt (j := j1) (by omega); omega) (sc_st (j := j1) (by omega) (by omega)) rfl inX2 (by decide) rfl (zvR (by omega)) rfl k_101 ?_
  refine zr_aloadn X 1 dX5_copyState_95 rfl ?_
  refine zr_get X (ci := 2) (q := 9) (zR _) (.ref (ad ((cb j2) + 40))) dX5_copyState_96 (by have := cb_lt (j := j2) (by omega); omega) (sc_st (j := j2) (by omega) (by omega)) rfl inX2 (by decide) rfl (zvR (by omega)) rfl k_101 ?_
  refine zr_dSv [.ref (ad ((cb j1) + 40)), .ref (ad ((cb j2) + 40))] [] X (zK_ok A D tc tF tL tM) (d_cN E (cpn (cpn (cpn (cpn (cpn (cpn (upd (upd μ (349 * j2) (μ (349 * j1))) (349 * j2 + 1) (μ (349 * j1 + 1))) (349 * j1 + 2) (349 * j2 + 2) 5) (349 * j1 + 263) (349 * j2 + 263) 20) (349 * j1 + 283) (349 * j2 + 283) 20) (349 * j1 + 303) (349 * j2 + 303) 20) (349 * j1 + 323) (349 * j2 + 323) 20) (349 * j1 + 343) (349 * j2 + 343) 3) (k1 := (cb j1) + 40) (k2 := (cb j2) + 40) (by have := cb_lt (j := j1) (by omega); omega) (by have := cb_lt (j := j2) (by omega); omega) (sc_os (j := j1) (by omega) (by omega)) (sc_os (j := j2) (by omega) (by omega)) (by omega) (a := 349 * j1 + 346) (b := 349 * j2 + 346) (by omega) (by omega)) k_248 k_249 k_1 k_250 hdX5_copyNumbers ⟨rfl, rfl⟩ ⟨Nat.le_of_ble_eq_true rfl, Nat.le_of_ble_eq_true rfl⟩ rfl rfl (Nat.le_of_ble_eq_true rfl) dX5_copyState_99 ?_
  refine zr_iconst X (nI (0)) dX5_copyState_102 (by decide +kernel) ?_
  refine zr_istoren X [1, 2, 0] [(0, .ref (ad ((cb j1)))), (1, .ref (ad ((cb j2)))), (2, .int (nI (0)))] dX5_copyState_103 (by decide) rfl ?_
  refine zr_for X (8) (fun i => (cpn (cpn (cpn (cpn (cpn (cpn (cpn (cpn (upd (upd μ (349 * j2) (μ (349 * j1))) (349 * j2 + 1) (μ (349 * j1 + 1))) (349 * j1 + 2) (349 * j2 + 2) 5) (349 * j1 + 263) (349 * j2 + 263) 20) (349 * j1 + 283) (349 * j2 + 283) 20) (349 * j1 + 303) (349 * j2 + 303) 20) (349 * j1 + 323) (349 * j2 + 323) 20) (349 * j1 + 343) (349 * j2 + 343) 3) (349 * j1 + 346) (349 * j2 + 346) 3) (349 * j1 + 7) (349 * j2 + 7) (32 * (i)))) (fun i => [(0, .ref (ad ((cb j1)))), (1, .ref (ad ((cb j2)))), (2, .int (nI (i)))]) [] (cpn_0 _ _ _) rfl ?_ ?_
  · refine zr_iloadn X 2 dX5_copyState_104 rfl ?_
    refine zr_bipush X (nI (8)) dX5_copyState_105 (by decide +kernel) ?_
    refine zr_icmp_ge X 131 dX5_copyState_107 (by decide) (fun _ => ?_) (fun q => absurd (zq_le (by omega) (by omega)) q)
    exact zr_vret X dX5_copyState_131 (state_all (by omega))
  · intro i hi ih104
    refine zr_iloadn X 2 dX5_copyState_104 rfl ?_
    refine zr_bipush X (nI (8)) dX5_copyState_105 (by decide +kernel) ?_
    refine zr_icmp_ge X 131 dX5_copyState_107 (by decide) (fun q => absurd q (nI_ge (by omega) (by omega))) (fun _ => ?_)
    refine zr_aloadn X 0 dX5_copyState_110 rfl ?_
    refine zr_get X (ci := 2) (q := 3) (zR _) (.ref (ad ((cb j1) + 2))) dX5_copyState_111 (by have := cb_lt (j := j1) (by omega); omega) (sc_st (j := j1) (by omega) (by omega)) rfl inX2 (by decide) rfl (zvR (by omega)) rfl k_89 ?_
    refine zr_iloadn X 2 dX5_copyState_114 rfl ?_
    refine zr_aald X (j := i) 2 ((cb j1) + 4 * i + 3) dX5_copyState_115 (by have := cb_lt (j := j1) (by omega); omega) (sc_firms (j := j1) (by omega) (by omega)) rfl rfl (by simp) (zks (by omega) (by omega)) ?_
    refine zr_aloadn X 1 dX5_copyState_116 rfl ?_
    refine zr_get X (ci := 2) (q := 3) (zR _) (.ref (ad ((cb j2) + 2))) dX5_copyState_117 (by have := cb_lt (j := j2) (by omega); omega) (sc_st (j := j2) (by omega) (by omega)) rfl inX2 (by decide) rfl (zvR (by omega)) rfl k_89 ?_
    refine zr_iloadn X 2 dX5_copyState_120 rfl ?_
    refine zr_aald X (j := i) 2 ((cb j2) + 4 * i + 3) dX5_copyState_121 (by have := cb_lt (j := j2) (by omega); omega) (sc_firms (j := j2) (by omega) (by omega)) rfl rfl (by simp) (zks (by omega) (by omega)) ?_
    refine zr_dSv [.ref (ad ((cb j1) + 4 * i + 3)), .ref (ad ((cb j2) + 4 * i + 3))] [] X (zK_ok A D tc tF tL tM) (d_copyFirm E (cpn (cpn (cpn (cpn (cpn (cpn (cpn (cpn (upd (upd μ (349 * j2) (μ (349 * j1))) (349 * j2 + 1) (μ (349 * j1 + 1))) (349 * j1 + 2) (349 * j2 + 2) 5) (349 * j1 + 263) (349 * j2 + 263) 20) (349 * j1 + 283) (349 * j2 + 283) 20) (349 * j1 + 303) (349 * j2 + 303) 20) (349 * j1 + 323) (349 * j2 + 323) 20) (349 * j1 + 343) (349 * j2 + 343) 3) (349 * j1 + 346) (349 * j2 + 346) 3) (349 * j1 + 7) (349 * j2 + 7) (32 * (i))) (j1 := j1) (j2 := j2) (i := i) (by omega) (by omega) (by omega) (by omega)) k_257 k_258 k_1 k_259 hdX5_copyFirm ⟨rfl, rfl⟩ ⟨Nat.le_of_ble_eq_true rfl, Nat.le_of_ble_eq_true rfl⟩ rfl rfl (Nat.le_of_ble_eq_true rfl) dX5_copyState_122 ?_
    refine zr_iinc X 2 (nI (i + 1)) [1, 2, 0] [(0, .ref (ad ((cb j1)))), (1, .ref (ad ((cb j2)))), (2, .int (nI (i + 1)))] dX5_copyState_125 rfl (zinc _) (by decide) rfl ?_
    refine zr_goto X 104 dX5_copyState_128 (by decide) ?_
    exact zr_mem X (cpn_app (by omega) (by omega) (by omega) (by omega)) ih104

theorem d_copyState {l : Launch} {D : va_G} {tc : Nat → ClassId} {ad : Nat → Nat} {A : Nat → Prop} {tF tL tM : Nat} (E : zN 299 A ad) (μ : Nat → Int32) {j1 j2 k1 k2 a b : Nat} (h1 : j1 < 7) (h2 : j2 < 7) (hne : j1 ≠ j2) (e1 : cb j1 = k1) (e2 : cb j2 = k2) (ha : 349 * j1 = a) (hb : 349 * j2 = b) : zMv l yX5_copyState cX5_copyState 3 (zrm 3) (zK A D tc tF tL tM) A D vwCl tc ad 299 shC [.ref (ad k1), .ref (ad k2)] μ (fun u => u = cp μ a b) := by
  subst ha; subst hb; subst e1; subst e2
  exact d_copyState0 E μ h1 h2 hne
set_option maxHeartbeats 4000000 in
set_option maxRecDepth 100000 in
theorem d_push {l : Launch} {D : va_G} {tc : Nat → ClassId} {ad : Nat → Nat} {A : Nat → Prop} {tF tL tM : Nat} (E : zN 299 A ad) (μ : Nat → Int32) {r z : Nat} (hr : μ 2452 = nI r) (hr4 : r < 4) (hz : μ 2451 = nI z) (hz4 : z ≤ 4)  : zMv l yX1_push cX1_push 2 (zrm 4) (zK A D tc tF tL tM) A D vwCl tc ad 299 shC [.ref (ad (124)), .ref (ad (1))] μ (fun u => u = zpush μ r z) := by
  refine zM_of RX1 [(0, .ref (ad (124))), (1, .ref (ad (1)))] (zK_ok A D tc tF tL tM) E.1 E.2 owC_ok (by decide +kernel) rfl (Nat.le_of_ble_eq_true rfl) rfl ?_
  intro pP eE sS mM aS bL mT cO X
  refine zr_aloadn X 1 dX1_push_0 rfl ?_
  refine zr_aloadn X 0 dX1_push_1 rfl ?_
  refine zr_get X (ci := 1) (q := 0) (zR _) (.ref (ad (125))) dX1_push_2 (by omega) sc_124 rfl inX1 (by decide) rfl (zvR rfl) rfl k_132 ?_
  refine zr_aloadn X 0 dX1_push_5 rfl ?_
  refine zr_get X (ci := 1) (q := 2) zI (.int (nI (r))) dX1_push_6 (by omega) sc_124 rfl inX1 (by decide) rfl (congrArg Value.int (hr)) rfl k_135 ?_
  refine zr_aald X (j := r) 3 ((cb (r + 3))) dX1_push_9 (by omega) sc_125 rfl rfl (by simp) (zks (by omega) (congrArg cb (by omega))) ?_
  refine zr_dNv (host := RX5) [.ref (ad (1)), .ref (ad ((cb (r + 3))))] [] X (zK_ok A D tc tF tL tM) (d_copyState E μ (j1 := 0) (j2 := r + 3) (by omega) (by omega) (by omega) cb_0 rfl (a := 0) (b := 349 * r + 1047) (by omega) (by omega)) X.2.2.2.2.2.2.2.2.2.1 k_246 k_1 k_247 hdX5_copyStaten ⟨rfl, rfl⟩ ⟨Nat.le_of_ble_eq_true rfl, Nat.le_of_ble_eq_true rfl⟩ rfl rfl (Nat.le_of_ble_eq_true rfl) dX1_push_10 ?_
  refine zr_aloadn X 0 dX1_push_13 rfl ?_
  refine zr_aloadn X 0 dX1_push_14 rfl ?_
  refine zr_get X (ci := 1) (q := 2) zI (.int (nI (r))) dX1_push_15 (by omega) sc_124 rfl inX1 (by decide) rfl (congrArg Value.int ((cp_out (by omega)).trans (hr))) rfl k_135 ?_
  refine zr_iconst X (nI (1)) dX1_push_18 (by decide +kernel) ?_
  refine zr_iadd X (nI (r + 1)) dX1_push_19 (nI_add _ _) ?_
  refine zr_iconst X (nI (4)) dX1_push_20 (by decide +kernel) ?_
  refine zr_irem X (nI (((r + 1) % 4))) dX1_push_21 (by decide +kernel) (pk_rem (by omega) (by omega) (by omega)) ?_
  refine zr_put X (ci := 1) (q := 2) (ty0 := tyX1) (ty := .int) (2452) dX1_push_22 (by omega) sc_124 rfl inX1 tyX1_ok nmX1 (by decide) rfl rfl rfl rfl rfl rfl k_135 (by omega) ?_
  refine zr_aloadn X 0 dX1_push_25 rfl ?_
  refine zr_aloadn X 0 dX1_push_26 rfl ?_
  refine zr_get X (ci := 1) (q := 1) zI (.int (nI (z))) dX1_push_27 (by omega) sc_124 rfl inX1 (by decide) rfl (congrArg Value.int ((pk_un (by omega)).trans ((cp_out (by omega)).trans (hz)))) rfl k_133 ?_
  refine zr_iconst X (nI (1)) dX1_push_30 (by decide +kernel) ?_
  refine zr_iadd X (nI (z + 1)) dX1_push_31 (nI_add _ _) ?_
  refine zr_iconst X (nI (4)) dX1_push_32 (by decide +kernel) ?_
  refine zr_mmin X (nI ((min (z + 1) 4))) dX1_push_33 k_260 k_252 k_8 k_253 (Nat.le_of_ble_eq_true rfl) (Nat.le_of_ble_eq_true rfl) ((zmin_eq _ _).trans (zmin_nI (by omega) (by omega))) ?_
  refine zr_put X (ci := 1) (q := 1) (ty0 := tyX1) (ty := .int) (2451) dX1_push_36 (by omega) sc_124 rfl inX1 tyX1_ok nmX1 (by decide) rfl rfl rfl rfl rfl rfl k_133 (by omega) ?_
  exact zr_vret X dX1_push_39 rfl

set_option maxHeartbeats 4000000 in
set_option maxRecDepth 100000 in
theorem d_popInto {l : Launch} {D : va_G} {tc : Nat → ClassId} {ad : Nat → Nat} {A : Nat → Prop} {tF tL tM : Nat} (E : zN 299 A ad) (μ : Nat → Int32) {r r2 z : Nat} (hr : μ 2452 = nI r) (hr4 : r < 4) (hr2 : (r + 3) % 4 = r2) (hz : μ 2451 = nI (z + 1)) (hz4 : z < 4) : zMv l yX1_popInto cX1_popInto 2 (zrm 4) (zK A D tc tF tL tM) A D vwCl tc ad 299 shC [.ref (ad (124)), .ref (ad (1))] μ (fun u => u = cp (upd (upd μ 2452 (nI r2)) 2451 (nI z)) (349 * r2 + 1047) 0) := by
  refine zM_of RX1 [(0, .ref (ad (124))), (1, .ref (ad (1)))] (zK_ok A D tc tF tL tM) E.1 E.2 owC_ok (by decide +kernel) rfl (Nat.le_of_ble_eq_true rfl) rfl ?_
  intro pP eE sS mM aS bL mT cO X
  refine zr_aloadn X 0 dX1_popInto_0 rfl ?_
  refine zr_aloadn X 0 dX1_popInto_1 rfl ?_
  refine zr_get X (ci := 1) (q := 2) zI (.int (nI (r))) dX1_popInto_2 (by omega) sc_124 rfl inX1 (by decide) rfl (congrArg Value.int (hr)) rfl k_135 ?_
  refine zr_iconst X (nI (4)) dX1_popInto_5 (by decide +kernel) ?_
  refine zr_iadd X (nI (r + 4)) dX1_popInto_6 (nI_add _ _) ?_
  refine zr_iconst X (nI (1)) dX1_popInto_7 (by decide +kernel) ?_
  refine zr_isub X (nI (r + 3)) dX1_popInto_8 ((pk_sub (by omega)).trans (congrArg nI (by omega))) ?_
  refine zr_iconst X (nI (4)) dX1_popInto_9 (by decide +kernel) ?_
  refine zr_irem X (nI (r2)) dX1_popInto_10 (by decide +kernel) ((pk_rem (by omega) (by omega) (by omega)).trans (congrArg nI hr2)) ?_
  refine zr_put X (ci := 1) (q := 2) (ty0 := tyX1) (ty := .int) (2452) dX1_popInto_11 (by omega) sc_124 rfl inX1 tyX1_ok nmX1 (by decide) rfl rfl rfl rfl rfl rfl k_135 (by omega) ?_
  refine zr_aloadn X 0 dX1_popInto_14 rfl ?_
  refine zr_dup X dX1_popInto_15 rfl ?_
  refine zr_get X (ci := 1) (q := 1) zI (.int (nI (z + 1))) dX1_popInto_16 (by omega) sc_124 rfl inX1 (by decide) rfl (congrArg Value.int ((pk_un (by omega)).trans (hz))) rfl k_133 ?_
  refine zr_iconst X (nI (1)) dX1_popInto_19 (by decide +kernel) ?_
  refine zr_isub X (nI (z)) dX1_popInto_20 ((pk_sub (by omega)).trans (congrArg nI (by omega))) ?_
  refine zr_put X (ci := 1) (q := 1) (ty0 := tyX1) (ty := .int) (2451) dX1_popInto_21 (by omega) sc_124 rfl inX1 tyX1_ok nmX1 (by decide) rfl rfl rfl rfl rfl rfl k_133 (by omega) ?_
  refine zr_aloadn X 0 dX1_popInto_24 rfl ?_
  refine zr_get X (ci := 1) (q := 0) (zR _) (.ref (ad (125))) dX1_popInto_25 (by omega) sc_124 rfl inX1 (by decide) rfl (zvR rfl) rfl k_132 ?_
  refine zr_aloadn X 0 dX1_popInto_28 rfl ?_
  refine zr_get X (ci := 1) (q := 2) zI (.int (nI (r2))) dX1_popInto_29 (by omega) sc_124 rfl inX1 (by decide) rfl (congrArg Value.int ((pk_un (by omega)).trans (pk_us))) rfl k_135 ?_
  refine zr_aald X (j := r2) 3 ((cb (r2 + 3))) dX1_popInto_32 (by omega) sc_125 rfl rfl (by simp) (zks (by omega) (congrArg cb (by omega))) ?_
  refine zr_aloadn X 1 dX1_popInto_33 rfl ?_
  refine zr_dNv (host := RX5) [.ref (ad ((cb (r2 + 3)))), .ref (ad (1))] [] X (zK_ok A D tc tF tL tM) (d_copyState E (upd (upd μ (2452) (nI (r2))) (2451) (nI (z))) (j1 := r2 + 3) (j2 := 0) (by omega) (by omega) (by omega) rfl cb_0 (a := 349 * r2 + 1047) (b := 0) (by omega) (by omega)) X.2.2.2.2.2.2.2.2.2.1 k_246 k_1 k_247 hdX5_copyStaten ⟨rfl, rfl⟩ ⟨Nat.le_of_ble_eq_true rfl, Nat.le_of_ble_eq_true rfl⟩ rfl rfl (Nat.le_of_ble_eq_true rfl) dX1_popInto_34 ?_
  exact zr_vret X dX1_popInto_37 rfl

