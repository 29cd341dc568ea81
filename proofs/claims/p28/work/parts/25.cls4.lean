set_option maxHeartbeats 4000000 in
set_option maxRecDepth 100000 in
theorem d_loseAll {l : Launch} {D : va_G} {tc : Nat → ClassId} {ad : Nat → Nat} {A : Nat → Prop} {tF tL tM : Nat} (E : zN 299 A ad) (μ : Nat → Int32) {v : Nat} (hv : v ≤ 19)  : zMv l yX2_loseAll cX2_loseAll 6 (zrm 1) (zK A D tc tF tL tM) A D vwCl tc ad 299 shC [.ref (ad (1)), .int (nI (v))] μ (fun u => u = zls μ v 8) := by
  refine zM_of RX2 [(0, .ref (ad (1))), (1, .int (nI (v)))] (zK_ok A D tc tF tL tM) E.1 E.2 owC_ok (by decide +kernel) rfl (Nat.le_of_ble_eq_true rfl) rfl ?_
  intro pP eE sS mM aS bL mT cO X
  refine zr_aloadn X 0 dX2_loseAll_0 rfl ?_
  refine zr_get X (ci := 2) (q := 3) (zR _) (.ref (ad (3))) dX2_loseAll_1 (by omega) (sc_st (j := 0) (by omega) (by have := cb_0; omega)) rfl inX2 (by decide) rfl (zvR (by have := cb_0; omega)) rfl k_88 ?_
  refine zr_astoren X [1, 2, 0] [(0, .ref (ad (1))), (1, .int (nI (v))), (2, .ref (ad (3)))] dX2_loseAll_4 (by decide) rfl ?_
  refine zr_aloadn X 2 dX2_loseAll_5 rfl ?_
  refine zr_alenQ X 2 (nI (8)) dX2_loseAll_6 (by omega) (sc_firms (j := 0) (by omega) (by have := cb_0; omega)) rfl (by decide +kernel) ?_
  refine zr_istoren X [1, 2, 3, 0] [(0, .ref (ad (1))), (1, .int (nI (v))), (2, .ref (ad (3))), (3, .int (nI (8)))] dX2_loseAll_7 (by decide) rfl ?_
  refine zr_iconst X (nI (0)) dX2_loseAll_8 (by decide +kernel) ?_
  refine zr_istore X [1, 2, 3, 4, 0] [(0, .ref (ad (1))), (1, .int (nI (v))), (2, .ref (ad (3))), (3, .int (nI (8))), (4, .int (nI (0)))] dX2_loseAll_9 (by decide) rfl ?_
  refine zr_for X (8) (fun i => (zls μ v (i))) (fun i => [(0, .ref (ad (1))), (1, .int (nI (v))), (2, .ref (ad (3))), (3, .int (nI (8))), (4, .int (nI (i)))]) [] (rfl) rfl ?_ ?_
  · refine zr_iload X 4 dX2_loseAll_11 rfl ?_
    refine zr_iloadn X 3 dX2_loseAll_13 rfl ?_
    refine zr_icmp_ge X 53 dX2_loseAll_14 (by decide) (fun _ => ?_) (fun q => absurd (zq_le (by omega) (by omega)) q)
    exact zr_vret X dX2_loseAll_53 rfl
  · intro i hi ih11
    refine zr_iload X 4 dX2_loseAll_11 rfl ?_
    refine zr_iloadn X 3 dX2_loseAll_13 rfl ?_
    refine zr_icmp_ge X 53 dX2_loseAll_14 (by decide) (fun q => absurd q (nI_ge (by omega) (by omega))) (fun _ => ?_)
    refine zr_aloadn X 2 dX2_loseAll_17 rfl ?_
    refine zr_iload X 4 dX2_loseAll_18 rfl ?_
    refine zr_aald X (j := i) 2 (4 * i + 4) dX2_loseAll_20 (by omega) (sc_firms (j := 0) (by omega) (by have := cb_0; omega)) rfl rfl (by simp) (zks (by omega) (by have := cb_0; omega)) ?_
    refine zr_astore X [1, 2, 3, 4, 5, 0] [(0, .ref (ad (1))), (1, .int (nI (v))), (2, .ref (ad (3))), (3, .int (nI (8))), (4, .int (nI (i))), (5, .ref (ad (4 * i + 4)))] dX2_loseAll_21 (by decide) rfl ?_
    refine zr_aloadn X 0 dX2_loseAll_23 rfl ?_
    refine zr_get X (ci := 2) (q := 7) (zR _) (.ref (ad (39))) dX2_loseAll_24 (by omega) (sc_st (j := 0) (by omega) (by have := cb_0; omega)) rfl inX2 (by decide) rfl (zvR (by have := cb_0; omega)) rfl k_96 ?_
    refine zr_iloadn X 1 dX2_loseAll_27 rfl ?_
    refine zr_dup2 X dX2_loseAll_28 rfl rfl ?_
    refine zr_iald X (j := v) 0 ((zls μ v (i)) (v + 323)) dX2_loseAll_29 (by omega) (sc_los (j := 0) (by omega) (by have := cb_0; omega)) rfl rfl (by omega) (by omega) (zcg (b := v + 323) (by omega) (rfl)) ?_
    refine zr_aload X 5 dX2_loseAll_30 rfl ?_
    refine zr_get X (ci := 0) (q := 0) (zR _) (.ref (ad (4 * i + 5))) dX2_loseAll_32 (by omega) (sc_firm (j := 0) (i := i) (by omega) (by omega) (by have := cb_0; omega)) rfl inX0 (by decide) rfl (zvR (by have := cb_0; omega)) rfl k_43 ?_
    refine zr_iloadn X 1 dX2_loseAll_35 rfl ?_
    refine zr_iald X (j := v) 0 ((zls μ v (i)) (32 * i + v + 7)) dX2_loseAll_36 (by omega) (sc_held (j := 0) (i := i) (by omega) (by omega) (by have := cb_0; omega)) rfl rfl (by omega) (by omega) (zcg (b := 32 * i + v + 7) (by omega) (rfl)) ?_
    refine zr_iadd X (((zls μ v (i)) (v + 323)) + ((zls μ v (i)) (32 * i + v + 7))) dX2_loseAll_37 rfl ?_
    refine zr_iast X (j := v) 0 (v + 323) dX2_loseAll_38 (by omega) (sc_los (j := 0) (by omega) (by have := cb_0; omega)) rfl rfl (by omega) (by omega) (by omega) ?_
    refine zr_aload X 5 dX2_loseAll_39 rfl ?_
    refine zr_get X (ci := 0) (q := 0) (zR _) (.ref (ad (4 * i + 5))) dX2_loseAll_41 (by omega) (sc_firm (j := 0) (i := i) (by omega) (by omega) (by have := cb_0; omega)) rfl inX0 (by decide) rfl (zvR (by have := cb_0; omega)) rfl k_43 ?_
    refine zr_iloadn X 1 dX2_loseAll_44 rfl ?_
    refine zr_iconst X (nI (0)) dX2_loseAll_45 (by decide +kernel) ?_
    refine zr_iast X (j := v) 0 (32 * i + v + 7) dX2_loseAll_46 (by omega) (sc_held (j := 0) (i := i) (by omega) (by omega) (by have := cb_0; omega)) rfl rfl (by omega) (by omega) (by omega) ?_
    refine zr_iinc X 4 (nI (i + 1)) [1, 2, 3, 4, 0, 5] [(0, .ref (ad (1))), (1, .int (nI (v))), (2, .ref (ad (3))), (3, .int (nI (8))), (4, .int (nI (i + 1))), (5, .ref (ad (4 * i + 4)))] dX2_loseAll_47 rfl (zinc _) (by decide) rfl ?_
    refine zr_goto X 11 dX2_loseAll_50 (by decide) ?_
    refine zr_drop X [0, 1, 2, 3, 4] [(0, .ref (ad (1))), (1, .int (nI (v))), (2, .ref (ad (3))), (3, .int (nI (8))), (4, .int (nI (i + 1)))] rfl ?_
    exact ih11

set_option maxHeartbeats 4000000 in
set_option maxRecDepth 100000 in
theorem d_fineAll {l : Launch} {D : va_G} {tc : Nat → ClassId} {ad : Nat → Nat} {A : Nat → Prop} {tF tL tM : Nat} (E : zN 299 A ad) (μ : Nat → Int32)  : zMi l yX2_fineAll cX2_fineAll 7 (some .int) (zrm 1) (zK A D tc tF tL tM) A D vwCl tc ad 299 shC [.ref (ad (1))] μ (fun r u => r = zfs μ 8 ∧ u = zfn μ 8) := by
  refine zM_of RX2 [(0, .ref (ad (1)))] (zK_ok A D tc tF tL tM) E.1 E.2 owC_ok (by decide +kernel) rfl (Nat.le_of_ble_eq_true rfl) rfl ?_
  intro pP eE sS mM aS bL mT cO X
  refine zr_iconst X (nI (0)) dX2_fineAll_0 (by decide +kernel) ?_
  refine zr_istoren X [1, 0] [(0, .ref (ad (1))), (1, .int (nI (0)))] dX2_fineAll_1 (by decide) rfl ?_
  refine zr_aloadn X 0 dX2_fineAll_2 rfl ?_
  refine zr_get X (ci := 2) (q := 3) (zR _) (.ref (ad (3))) dX2_fineAll_3 (by omega) (sc_st (j := 0) (by omega) (by have := cb_0; omega)) rfl inX2 (by decide) rfl (zvR (by have := cb_0; omega)) rfl k_88 ?_
  refine zr_astoren X [1, 2, 0] [(0, .ref (ad (1))), (1, .int (nI (0))), (2, .ref (ad (3)))] dX2_fineAll_6 (by decide) rfl ?_
  refine zr_aloadn X 2 dX2_fineAll_7 rfl ?_
  refine zr_alenQ X 2 (nI (8)) dX2_fineAll_8 (by omega) (sc_firms (j := 0) (by omega) (by have := cb_0; omega)) rfl (by decide +kernel) ?_
  refine zr_istoren X [1, 2, 3, 0] [(0, .ref (ad (1))), (1, .int (nI (0))), (2, .ref (ad (3))), (3, .int (nI (8)))] dX2_fineAll_9 (by decide) rfl ?_
  refine zr_iconst X (nI (0)) dX2_fineAll_10 (by decide +kernel) ?_
  refine zr_istore X [1, 2, 3, 4, 0] [(0, .ref (ad (1))), (1, .int (nI (0))), (2, .ref (ad (3))), (3, .int (nI (8))), (4, .int (nI (0)))] dX2_fineAll_11 (by decide) rfl ?_
  refine zr_for X (8) (fun i => (zfn μ (i))) (fun i => [(0, .ref (ad (1))), (1, .int (zfs μ (i))), (2, .ref (ad (3))), (3, .int (nI (8))), (4, .int (nI (i)))]) [] (rfl) rfl ?_ ?_
  · refine zr_iload X 4 dX2_fineAll_13 rfl ?_
    refine zr_iloadn X 3 dX2_fineAll_15 rfl ?_
    refine zr_icmp_ge X 62 dX2_fineAll_16 (by decide) (fun _ => ?_) (fun q => absurd (zq_le (by omega) (by omega)) q)
    refine zr_iloadn X 1 dX2_fineAll_62 rfl ?_
    exact zr_iret X dX2_fineAll_63 ⟨rfl, rfl⟩
  · intro i hi ih13
    refine zr_iload X 4 dX2_fineAll_13 rfl ?_
    refine zr_iloadn X 3 dX2_fineAll_15 rfl ?_
    refine zr_icmp_ge X 62 dX2_fineAll_16 (by decide) (fun q => absurd q (nI_ge (by omega) (by omega))) (fun _ => ?_)
    refine zr_aloadn X 2 dX2_fineAll_19 rfl ?_
    refine zr_iload X 4 dX2_fineAll_20 rfl ?_
    refine zr_aald X (j := i) 2 (4 * i + 4) dX2_fineAll_22 (by omega) (sc_firms (j := 0) (by omega) (by have := cb_0; omega)) rfl rfl (by simp) (zks (by omega) (by have := cb_0; omega)) ?_
    refine zr_astore X [1, 2, 3, 4, 5, 0] [(0, .ref (ad (1))), (1, .int (zfs μ (i))), (2, .ref (ad (3))), (3, .int (nI (8))), (4, .int (nI (i))), (5, .ref (ad (4 * i + 4)))] dX2_fineAll_23 (by decide) rfl ?_
    refine zr_aload X 5 dX2_fineAll_25 rfl ?_
    refine zr_get X (ci := 0) (q := 6) zI (.int ((zfn μ (i)) (32 * i + 36))) dX2_fineAll_27 (by omega) (sc_firm (j := 0) (i := i) (by omega) (by omega) (by have := cb_0; omega)) rfl inX0 (by decide) rfl (congrArg Value.int (zcg (by omega) (rfl))) rfl k_57 ?_
    refine zr_aloadn X 0 dX2_fineAll_30 rfl ?_
    refine zr_get X (ci := 2) (q := 2) (zR _) (.ref (ad (2))) dX2_fineAll_31 (by omega) (sc_st (j := 0) (by omega) (by have := cb_0; omega)) rfl inX2 (by decide) rfl (zvR (by have := cb_0; omega)) rfl k_86 ?_
    refine zr_iconst X (nI (4)) dX2_fineAll_34 (by decide +kernel) ?_
    refine zr_iald X (j := 4) 0 ((zfn μ (i)) (6)) dX2_fineAll_35 (by omega) (sc_set (j := 0) (by omega) (by have := cb_0; omega)) rfl rfl (by omega) (by omega) (zcg (b := 6) (by omega) (rfl)) ?_
    refine zr_imul X (((zfn μ (i)) (32 * i + 36)) * ((zfn μ (i)) (6))) dX2_fineAll_36 rfl ?_
    refine zr_istore X [1, 2, 3, 4, 5, 6, 0] [(0, .ref (ad (1))), (1, .int (zfs μ (i))), (2, .ref (ad (3))), (3, .int (nI (8))), (4, .int (nI (i))), (5, .ref (ad (4 * i + 4))), (6, .int (((zfn μ (i)) (32 * i + 36)) * ((zfn μ (i)) (6))))] dX2_fineAll_37 (by decide) rfl ?_
    refine zr_aload X 5 dX2_fineAll_39 rfl ?_
    refine zr_dup X dX2_fineAll_41 rfl ?_
    refine zr_get X (ci := 0) (q := 8) zI (.int ((zfn μ (i)) (32 * i + 38))) dX2_fineAll_42 (by omega) (sc_firm (j := 0) (i := i) (by omega) (by omega) (by have := cb_0; omega)) rfl inX0 (by decide) rfl (congrArg Value.int (zcg (by omega) (rfl))) rfl k_60 ?_
    refine zr_iload X 6 dX2_fineAll_45 rfl ?_
    refine zr_iadd X (((zfn μ (i)) (32 * i + 38)) + (((zfn μ (i)) (32 * i + 36)) * ((zfn μ (i)) (6)))) dX2_fineAll_47 rfl ?_
    refine zr_put X (ci := 0) (q := 8) (ty0 := tyX0) (ty := .int) (32 * i + 38) dX2_fineAll_48 (by omega) (sc_firm (j := 0) (i := i) (by omega) (by omega) (by have := cb_0; omega)) rfl inX0 tyX0_ok nmX0 (by decide) rfl rfl rfl rfl rfl rfl k_60 (by omega) ?_
    refine zr_iloadn X 1 dX2_fineAll_51 rfl ?_
    refine zr_iload X 6 dX2_fineAll_52 rfl ?_
    refine zr_iadd X ((zfs μ (i)) + (((zfn μ (i)) (32 * i + 36)) * ((zfn μ (i)) (6)))) dX2_fineAll_54 rfl ?_
    refine zr_istoren X [1, 0, 2, 3, 4, 5, 6] [(0, .ref (ad (1))), (1, .int ((zfs μ (i)) + (((zfn μ (i)) (32 * i + 36)) * ((zfn μ (i)) (6))))), (2, .ref (ad (3))), (3, .int (nI (8))), (4, .int (nI (i))), (5, .ref (ad (4 * i + 4))), (6, .int (((zfn μ (i)) (32 * i + 36)) * ((zfn μ (i)) (6))))] dX2_fineAll_55 (by decide) rfl ?_
    refine zr_iinc X 4 (nI (i + 1)) [1, 2, 3, 4, 0, 5, 6] [(0, .ref (ad (1))), (1, .int ((zfs μ (i)) + (((zfn μ (i)) (32 * i + 36)) * ((zfn μ (i)) (6))))), (2, .ref (ad (3))), (3, .int (nI (8))), (4, .int (nI (i + 1))), (5, .ref (ad (4 * i + 4))), (6, .int (((zfn μ (i)) (32 * i + 36)) * ((zfn μ (i)) (6))))] dX2_fineAll_56 rfl (zinc _) (by decide) rfl ?_
    refine zr_goto X 13 dX2_fineAll_59 (by decide) ?_
    refine zr_drop X [0, 1, 2, 3, 4] [(0, .ref (ad (1))), (1, .int ((zfs μ (i)) + (((zfn μ (i)) (32 * i + 36)) * ((zfn μ (i)) (6))))), (2, .ref (ad (3))), (3, .int (nI (8))), (4, .int (nI (i + 1)))] rfl ?_
    exact ih13

set_option maxHeartbeats 4000000 in
set_option maxRecDepth 100000 in
theorem d_beginYear {l : Launch} {D : va_G} {tc : Nat → ClassId} {ad : Nat → Nat} {A : Nat → Prop} {tF tL tM : Nat} (E : zN 299 A ad) (μ : Nat → Int32) {m b y n : Nat} (hm : μ 0 = nI m) (hm2 : m < 240) (hy : m / 12 = y) (hb : μ 5 = nI b) (hb1 : 1 ≤ b) (hb5 : b ≤ 5) (hn : y - b = n) : zMv l yX2_beginYear cX2_beginYear 5 (zrm 3) (zK A D tc tF tL tM) A D vwCl tc ad 299 shC [.ref (ad (1))] μ (fun u => u = zla (zca μ 8) 8 n) := by
  refine zM_of RX2 [(0, .ref (ad (1)))] (zK_ok A D tc tF tL tM) E.1 E.2 owC_ok (by decide +kernel) rfl (Nat.le_of_ble_eq_true rfl) rfl ?_
  intro pP eE sS mM aS bL mT cO X
  refine zr_aloadn X 0 dX2_beginYear_0 rfl ?_
  refine zr_get X (ci := 2) (q := 3) (zR _) (.ref (ad (3))) dX2_beginYear_1 (by omega) (sc_st (j := 0) (by omega) (by have := cb_0; omega)) rfl inX2 (by decide) rfl (zvR (by have := cb_0; omega)) rfl k_88 ?_
  refine zr_astoren X [1, 0] [(0, .ref (ad (1))), (1, .ref (ad (3)))] dX2_beginYear_4 (by decide) rfl ?_
  refine zr_aloadn X 1 dX2_beginYear_5 rfl ?_
  refine zr_alenQ X 2 (nI (8)) dX2_beginYear_6 (by omega) (sc_firms (j := 0) (by omega) (by have := cb_0; omega)) rfl (by decide +kernel) ?_
  refine zr_istoren X [1, 2, 0] [(0, .ref (ad (1))), (1, .ref (ad (3))), (2, .int (nI (8)))] dX2_beginYear_7 (by decide) rfl ?_
  refine zr_iconst X (nI (0)) dX2_beginYear_8 (by decide +kernel) ?_
  refine zr_istoren X [1, 2, 3, 0] [(0, .ref (ad (1))), (1, .ref (ad (3))), (2, .int (nI (8))), (3, .int (nI (0)))] dX2_beginYear_9 (by decide) rfl ?_
  refine zr_for X (8) (fun i => (zca μ (i))) (fun i => [(0, .ref (ad (1))), (1, .ref (ad (3))), (2, .int (nI (8))), (3, .int (nI (i)))]) [] (rfl) rfl ?_ ?_
  · refine zr_iloadn X 3 dX2_beginYear_10 rfl ?_
    refine zr_iloadn X 2 dX2_beginYear_11 rfl ?_
    refine zr_icmp_ge X 31 dX2_beginYear_12 (by decide) (fun _ => ?_) (fun q => absurd (zq_le (by omega) (by omega)) q)
    refine zr_iconst X (nI (0)) dX2_beginYear_31 (by decide +kernel) ?_
    refine zr_istoren X [1, 0, 2, 3] [(0, .ref (ad (1))), (1, .int (nI (0))), (2, .int (nI (8))), (3, .int (nI (8)))] dX2_beginYear_32 (by decide) rfl ?_
    refine zr_drop X [0, 1] [(0, .ref (ad (1))), (1, .int (nI (0)))] rfl ?_
    refine zr_for X (20) (fun v => (zla (zca μ 8) 8 (min (v) n))) (fun v => [(0, .ref (ad (1))), (1, .int (nI (v)))]) [] (by rw [Nat.zero_min]; rfl) rfl ?_ ?_
    · refine zr_iloadn X 1 dX2_beginYear_33 rfl ?_
      refine zr_bipush X (nI (20)) dX2_beginYear_34 (by decide +kernel) ?_
      refine zr_icmp_ge X 65 dX2_beginYear_36 (by decide) (fun _ => ?_) (fun q => absurd (zq_le (by omega) (by omega)) q)
      exact zr_vret X dX2_beginYear_65 (by rw [Nat.min_eq_right (by omega)])
    · intro v hv ih33
      refine zr_iloadn X 1 dX2_beginYear_33 rfl ?_
      refine zr_bipush X (nI (20)) dX2_beginYear_34 (by decide +kernel) ?_
      refine zr_icmp_ge X 65 dX2_beginYear_36 (by decide) (fun q => absurd q (nI_ge (by omega) (by omega))) (fun _ => ?_)
      refine zr_aloadn X 0 dX2_beginYear_39 rfl ?_
      refine zr_dVi (C := RX2) (ci := 2) [] [] X (zK_ok A D tc tF tL tM) (d_year E (zla (zca μ 8) 8 (min (v) n)) ((zla_lo (by omega) _).trans ((zca_lo (by omega) _).trans (hm))) hm2 hy) k_373 k_281 k_282 k_2 k_283 hdX2_year ⟨rfl, rfl⟩ ⟨Nat.le_of_ble_eq_true rfl, Nat.le_of_ble_eq_true rfl⟩ (by omega) (sc_st (j := 0) (by omega) (by have := cb_0; omega)) rfl rfl rfl (Nat.le_of_ble_eq_true rfl) dX2_beginYear_40 ?_
      refine zr_iloadn X 1 dX2_beginYear_43 rfl ?_
      refine zr_aloadn X 0 dX2_beginYear_44 rfl ?_
      refine zr_get X (ci := 2) (q := 2) (zR _) (.ref (ad (2))) dX2_beginYear_45 (by omega) (sc_st (j := 0) (by omega) (by have := cb_0; omega)) rfl inX2 (by decide) rfl (zvR (by have := cb_0; omega)) rfl k_86 ?_
      refine zr_iconst X (nI (3)) dX2_beginYear_48 (by decide +kernel) ?_
      refine zr_iald X (j := 3) 0 (nI (b)) dX2_beginYear_49 (by omega) (sc_set (j := 0) (by omega) (by have := cb_0; omega)) rfl rfl (by omega) (by omega) (zcg (b := 5) (by omega) ((zla_lo (by omega) _).trans ((zca_lo (by omega) _).trans (hb)))) ?_
      refine zr_iadd X (nI (b + v)) dX2_beginYear_50 ((nI_add _ _).trans (congrArg nI (by omega))) ?_
      refine zr_icmp_le X 59 dX2_beginYear_51 (by decide) (fun h51 => ?_) (fun h51 => ?_)
      · have h51 := (nI_leI (by omega) (by omega)).mp h51
        refine zr_iinc X 1 (nI (v + 1)) [1, 0] [(0, .ref (ad (1))), (1, .int (nI (v + 1)))] dX2_beginYear_59 rfl (zinc _) (by decide) rfl ?_
        refine zr_goto X 33 dX2_beginYear_62 (by decide) ?_
        exact zr_mem X (by rw [Nat.min_eq_right (by omega), Nat.min_eq_right (by omega)]) ih33
      · have h51 : ¬ y ≤ b + v := fun q => h51 (nI_le q (by omega))
        refine zr_aloadn X 0 dX2_beginYear_54 rfl ?_
        refine zr_iloadn X 1 dX2_beginYear_55 rfl ?_
        refine zr_dVv (C := RX2) (ci := 2) [.int (nI (v))] [] X (zK_ok A D tc tF tL tM) (d_loseAll E (zla (zca μ 8) 8 (min (v) n)) (v := v) (by omega)) k_374 k_375 k_376 k_2 k_377 hdX2_loseAll ⟨rfl, rfl⟩ ⟨Nat.le_of_ble_eq_true rfl, Nat.le_of_ble_eq_true rfl⟩ (by omega) (sc_st (j := 0) (by omega) (by have := cb_0; omega)) rfl rfl rfl (Nat.le_of_ble_eq_true rfl) dX2_beginYear_56 ?_
        refine zr_iinc X 1 (nI (v + 1)) [1, 0] [(0, .ref (ad (1))), (1, .int (nI (v + 1)))] dX2_beginYear_59 rfl (zinc _) (by decide) rfl ?_
        refine zr_goto X 33 dX2_beginYear_62 (by decide) ?_
        exact zr_mem X (by rw [Nat.min_eq_left (by omega), Nat.min_eq_left (by omega)]; rfl) ih33
  · intro i hi ih10
    refine zr_iloadn X 3 dX2_beginYear_10 rfl ?_
    refine zr_iloadn X 2 dX2_beginYear_11 rfl ?_
    refine zr_icmp_ge X 31 dX2_beginYear_12 (by decide) (fun q => absurd q (nI_ge (by omega) (by omega))) (fun _ => ?_)
    refine zr_aloadn X 1 dX2_beginYear_15 rfl ?_
    refine zr_iloadn X 3 dX2_beginYear_16 rfl ?_
    refine zr_aald X (j := i) 2 (4 * i + 4) dX2_beginYear_17 (by omega) (sc_firms (j := 0) (by omega) (by have := cb_0; omega)) rfl rfl (by simp) (zks (by omega) (by have := cb_0; omega)) ?_
    refine zr_astore X [1, 2, 3, 4, 0] [(0, .ref (ad (1))), (1, .ref (ad (3))), (2, .int (nI (8))), (3, .int (nI (i))), (4, .ref (ad (4 * i + 4)))] dX2_beginYear_18 (by decide) rfl ?_
    refine zr_aload X 4 dX2_beginYear_20 rfl ?_
    refine zr_dVv (C := RX0) (ci := 0) [] [] X (zK_ok A D tc tF tL tM) (d_closeYear E (zca μ (i)) (f := i) (by omega)) k_369 k_370 k_371 k_3 k_372 hdX0_closeYear ⟨rfl, rfl⟩ ⟨Nat.le_of_ble_eq_true rfl, Nat.le_of_ble_eq_true rfl⟩ (by omega) (sc_firm (j := 0) (i := i) (by omega) (by omega) (by have := cb_0; omega)) rfl rfl rfl (Nat.le_of_ble_eq_true rfl) dX2_beginYear_22 ?_
    refine zr_iinc X 3 (nI (i + 1)) [1, 2, 3, 0, 4] [(0, .ref (ad (1))), (1, .ref (ad (3))), (2, .int (nI (8))), (3, .int (nI (i + 1))), (4, .ref (ad (4 * i + 4)))] dX2_beginYear_25 rfl (zinc _) (by decide) rfl ?_
    refine zr_goto X 10 dX2_beginYear_28 (by decide) ?_
    refine zr_drop X [0, 1, 2, 3] [(0, .ref (ad (1))), (1, .ref (ad (3))), (2, .int (nI (8))), (3, .int (nI (i + 1)))] rfl ?_
    exact ih10

set_option maxHeartbeats 4000000 in
set_option maxRecDepth 100000 in
theorem d_beginMonth {l : Launch} {D : va_G} {tc : Nat → ClassId} {ad : Nat → Nat} {A : Nat → Prop} {tF tL tM : Nat} (E : zN 299 A ad) (μ : Nat → Int32) {m b : Nat} (hm : μ 0 = nI m) (hm2 : m + 1 < 240) (hb : μ 5 = nI b) (hb1 : 1 ≤ b) (hb5 : b ≤ 5) : zMi l yX2_beginMonth cX2_beginMonth 1 (some .int) (zrm 4) (zK A D tc tF tL tM) A D vwCl tc ad 299 shC [.ref (ad (1))] μ (fun r u => r = zc1 μ 8 m ∧ u = zm1 μ 8 b m) := by
  refine zM_of RX2 [(0, .ref (ad (1)))] (zK_ok A D tc tF tL tM) E.1 E.2 owC_ok (by decide +kernel) rfl (Nat.le_of_ble_eq_true rfl) rfl ?_
  intro pP eE sS mM aS bL mT cO X
  refine zr_aloadn X 0 dX2_beginMonth_0 rfl ?_
  refine zr_dup X dX2_beginMonth_1 rfl ?_
  refine zr_get X (ci := 2) (q := 0) zI (.int (nI (m))) dX2_beginMonth_2 (by omega) (sc_st (j := 0) (by omega) (by have := cb_0; omega)) rfl inX2 (by decide) rfl (congrArg Value.int (hm)) rfl k_82 ?_
  refine zr_iconst X (nI (1)) dX2_beginMonth_5 (by decide +kernel) ?_
  refine zr_iadd X (nI (m + 1)) dX2_beginMonth_6 (nI_add _ _) ?_
  refine zr_put X (ci := 2) (q := 0) (ty0 := tyX2) (ty := .int) (0) dX2_beginMonth_7 (by omega) (sc_st (j := 0) (by omega) (by have := cb_0; omega)) rfl inX2 tyX2_ok nmX2 (by decide) rfl rfl rfl rfl rfl rfl k_82 (by omega) ?_
  refine zr_aloadn X 0 dX2_beginMonth_10 rfl ?_
  refine zr_get X (ci := 2) (q := 0) zI (.int (nI (m + 1))) dX2_beginMonth_11 (by omega) (sc_st (j := 0) (by omega) (by have := cb_0; omega)) rfl inX2 (by decide) rfl (congrArg Value.int (pk_us)) rfl k_82 ?_
  refine zr_bipush X (nI (12)) dX2_beginMonth_14 (by decide +kernel) ?_
  refine zr_irem X (nI (((m + 1) % 12))) dX2_beginMonth_16 (by decide +kernel) (pk_rem (by omega) (by omega) (by omega)) ?_
  refine zr_if_ne X 24 dX2_beginMonth_17 (by decide) (fun h17 => ?_) (fun h17 => ?_)
  · have h17 : ¬ (m + 1) % 12 = 0 := fun q => h17 (by rw [q]; rfl)
    refine zr_aloadn X 0 dX2_beginMonth_24 rfl ?_
    refine zr_get X (ci := 2) (q := 0) zI (.int (nI (m + 1))) dX2_beginMonth_25 (by omega) (sc_st (j := 0) (by omega) (by have := cb_0; omega)) rfl inX2 (by decide) rfl (congrArg Value.int (pk_us)) rfl k_82 ?_
    refine zr_bipush X (nI (12)) dX2_beginMonth_28 (by decide +kernel) ?_
    refine zr_irem X (nI (((m + 1) % 12))) dX2_beginMonth_30 (by decide +kernel) (pk_rem (by omega) (by omega) (by omega)) ?_
    refine zr_iconst X (nI (4)) dX2_beginMonth_31 (by decide +kernel) ?_
    refine zr_icmp_ne X 49 dX2_beginMonth_32 (by decide) (fun h32 => ?_) (fun h32 => ?_)
    · have h32 : ¬ (m + 1) % 12 = 4 := fun q => h32 (by rw [q])
      refine zr_iconst X (nI (0)) dX2_beginMonth_49 (by decide +kernel) ?_
      exact zr_iret X dX2_beginMonth_50 ⟨by simp only [zc1]; rw [if_neg (by omega)], by simp only [zm1, zyr]; rw [if_neg h17, if_neg (by omega)]⟩
    · have h32 : (m + 1) % 12 = 4 := (nI_eq (by omega) (by omega)).mp h32
      refine zr_aloadn X 0 dX2_beginMonth_35 rfl ?_
      refine zr_dVi (C := RX2) (ci := 2) [] [] X (zK_ok A D tc tF tL tM) (d_year E (upd μ (0) (nI (m + 1))) (pk_us) (by omega) rfl) k_373 k_281 k_282 k_2 k_283 hdX2_year ⟨rfl, rfl⟩ ⟨Nat.le_of_ble_eq_true rfl, Nat.le_of_ble_eq_true rfl⟩ (by omega) (sc_st (j := 0) (by omega) (by have := cb_0; omega)) rfl rfl rfl (Nat.le_of_ble_eq_true rfl) dX2_beginMonth_36 ?_
      refine zr_if_eq X 49 dX2_beginMonth_39 (by decide) (fun h39 => ?_) (fun h39 => ?_)
      · have h39 : (m + 1) / 12 = 0 := by rw [← nI_0] at h39; exact (nI_eq (by omega) (by omega)).mp h39
        refine zr_iconst X (nI (0)) dX2_beginMonth_49 (by decide +kernel) ?_
        exact zr_iret X dX2_beginMonth_50 ⟨by simp only [zc1]; rw [if_neg (by omega)], by simp only [zm1, zyr]; rw [if_neg h17, if_neg (by omega)]⟩
      · have h39 : ¬ (m + 1) / 12 = 0 := fun q => h39 (by rw [q]; rfl)
        refine zr_aloadn X 0 dX2_beginMonth_42 rfl ?_
        refine zr_dVi (C := RX2) (ci := 2) [] [] X (zK_ok A D tc tF tL tM) (d_fineAll E (upd μ (0) (nI (m + 1)))) k_378 k_379 k_380 k_2 k_381 hdX2_fineAll ⟨rfl, rfl⟩ ⟨Nat.le_of_ble_eq_true rfl, Nat.le_of_ble_eq_true rfl⟩ (by omega) (sc_st (j := 0) (by omega) (by have := cb_0; omega)) rfl rfl rfl (Nat.le_of_ble_eq_true rfl) dX2_beginMonth_43 ?_
        refine zr_goto X 50 dX2_beginMonth_46 (by decide) ?_
        exact zr_iret X dX2_beginMonth_50 ⟨by simp only [zc1]; rw [if_pos ⟨h32, by omega⟩], by simp only [zm1, zyr]; rw [if_neg h17, if_pos ⟨h32, by omega⟩]⟩
  · have h17 : (m + 1) % 12 = 0 := by rw [← nI_0] at h17; exact (nI_eq (by omega) (by omega)).mp h17
    refine zr_aloadn X 0 dX2_beginMonth_20 rfl ?_
    refine zr_dVv (C := RX2) (ci := 2) [] [] X (zK_ok A D tc tF tL tM) (d_beginYear E (upd μ (0) (nI (m + 1))) (pk_us) (by omega) rfl ((pk_un (by omega)).trans (hb)) hb1 hb5 rfl) k_365 k_366 k_367 k_2 k_368 hdX2_beginYear ⟨rfl, rfl⟩ ⟨Nat.le_of_ble_eq_true rfl, Nat.le_of_ble_eq_true rfl⟩ (by omega) (sc_st (j := 0) (by omega) (by have := cb_0; omega)) rfl rfl rfl (Nat.le_of_ble_eq_true rfl) dX2_beginMonth_21 ?_
    refine zr_aloadn X 0 dX2_beginMonth_24 rfl ?_
    refine zr_get X (ci := 2) (q := 0) zI (.int (nI (m + 1))) dX2_beginMonth_25 (by omega) (sc_st (j := 0) (by omega) (by have := cb_0; omega)) rfl inX2 (by decide) rfl (congrArg Value.int ((zla_lo (by omega) _).trans ((zca_lo (by omega) _).trans (pk_us)))) rfl k_82 ?_
    refine zr_bipush X (nI (12)) dX2_beginMonth_28 (by decide +kernel) ?_
    refine zr_irem X (nI (((m + 1) % 12))) dX2_beginMonth_30 (by decide +kernel) (pk_rem (by omega) (by omega) (by omega)) ?_
    refine zr_iconst X (nI (4)) dX2_beginMonth_31 (by decide +kernel) ?_
    refine zr_icmp_ne X 49 dX2_beginMonth_32 (by decide) (fun _ => ?_) (fun q => absurd q (zq_ne (by omega) (by omega) (by omega)))
    refine zr_iconst X (nI (0)) dX2_beginMonth_49 (by decide +kernel) ?_
    exact zr_iret X dX2_beginMonth_50 ⟨by simp only [zc1]; rw [if_neg (by omega)], by simp only [zm1, zyr]; rw [if_pos h17]⟩

set_option maxHeartbeats 4000000 in
set_option maxRecDepth 100000 in
theorem d_heldOf {l : Launch} {D : va_G} {tc : Nat → ClassId} {ad : Nat → Nat} {A : Nat → Prop} {tF tL tM : Nat} (E : zN 299 A ad) (μ : Nat → Int32) {v : Nat} (hv : v ≤ 19)  : zMi l yX2_heldOf cX2_heldOf 7 (some .int) (zrm 1) (zK A D tc tF tL tM) A D vwCl tc ad 299 shC [.ref (ad (1)), .int (nI (v))] μ (fun r u => r = zsum (fun f => μ (32 * f + v + 7)) 8 ∧ u = μ) := by
  refine zM_of RX2 [(0, .ref (ad (1))), (1, .int (nI (v)))] (zK_ok A D tc tF tL tM) E.1 E.2 owC_ok (by decide +kernel) rfl (Nat.le_of_ble_eq_true rfl) rfl ?_
  intro pP eE sS mM aS bL mT cO X
  refine zr_iconst X (nI (0)) dX2_heldOf_0 (by decide +kernel) ?_
  refine zr_istoren X [1, 2, 0] [(0, .ref (ad (1))), (1, .int (nI (v))), (2, .int (nI (0)))] dX2_heldOf_1 (by decide) rfl ?_
  refine zr_aloadn X 0 dX2_heldOf_2 rfl ?_
  refine zr_get X (ci := 2) (q := 3) (zR _) (.ref (ad (3))) dX2_heldOf_3 (by omega) (sc_st (j := 0) (by omega) (by have := cb_0; omega)) rfl inX2 (by decide) rfl (zvR (by have := cb_0; omega)) rfl k_88 ?_
  refine zr_astoren X [1, 2, 3, 0] [(0, .ref (ad (1))), (1, .int (nI (v))), (2, .int (nI (0))), (3, .ref (ad (3)))] dX2_heldOf_6 (by decide) rfl ?_
  refine zr_aloadn X 3 dX2_heldOf_7 rfl ?_
  refine zr_alenQ X 2 (nI (8)) dX2_heldOf_8 (by omega) (sc_firms (j := 0) (by omega) (by have := cb_0; omega)) rfl (by decide +kernel) ?_
  refine zr_istore X [1, 2, 3, 4, 0] [(0, .ref (ad (1))), (1, .int (nI (v))), (2, .int (nI (0))), (3, .ref (ad (3))), (4, .int (nI (8)))] dX2_heldOf_9 (by decide) rfl ?_
  refine zr_iconst X (nI (0)) dX2_heldOf_11 (by decide +kernel) ?_
  refine zr_istore X [1, 2, 3, 4, 5, 0] [(0, .ref (ad (1))), (1, .int (nI (v))), (2, .int (nI (0))), (3, .ref (ad (3))), (4, .int (nI (8))), (5, .int (nI (0)))] dX2_heldOf_12 (by decide) rfl ?_
  refine zr_for X (8) (fun i => μ) (fun i => [(0, .ref (ad (1))), (1, .int (nI (v))), (2, .int (zsum (fun f => μ (32 * f + v + 7)) (i))), (3, .ref (ad (3))), (4, .int (nI (8))), (5, .int (nI (i)))]) [] (rfl) rfl ?_ ?_
  · refine zr_iload X 5 dX2_heldOf_14 rfl ?_
    refine zr_iload X 4 dX2_heldOf_16 rfl ?_
    refine zr_icmp_ge X 43 dX2_heldOf_18 (by decide) (fun _ => ?_) (fun q => absurd (zq_le (by omega) (by omega)) q)
    refine zr_iloadn X 2 dX2_heldOf_43 rfl ?_
    exact zr_iret X dX2_heldOf_44 ⟨rfl, rfl⟩
  · intro i hi ih14
    refine zr_iload X 5 dX2_heldOf_14 rfl ?_
    refine zr_iload X 4 dX2_heldOf_16 rfl ?_
    refine zr_icmp_ge X 43 dX2_heldOf_18 (by decide) (fun q => absurd q (nI_ge (by omega) (by omega))) (fun _ => ?_)
    refine zr_aloadn X 3 dX2_heldOf_21 rfl ?_
    refine zr_iload X 5 dX2_heldOf_22 rfl ?_
    refine zr_aald X (j := i) 2 (4 * i + 4) dX2_heldOf_24 (by omega) (sc_firms (j := 0) (by omega) (by have := cb_0; omega)) rfl rfl (by simp) (zks (by omega) (by have := cb_0; omega)) ?_
    refine zr_astore X [1, 2, 3, 4, 5, 6, 0] [(0, .ref (ad (1))), (1, .int (nI (v))), (2, .int (zsum (fun f => μ (32 * f + v + 7)) (i))), (3, .ref (ad (3))), (4, .int (nI (8))), (5, .int (nI (i))), (6, .ref (ad (4 * i + 4)))] dX2_heldOf_25 (by decide) rfl ?_
    refine zr_iloadn X 2 dX2_heldOf_27 rfl ?_
    refine zr_aload X 6 dX2_heldOf_28 rfl ?_
    refine zr_get X (ci := 0) (q := 0) (zR _) (.ref (ad (4 * i + 5))) dX2_heldOf_30 (by omega) (sc_firm (j := 0) (i := i) (by omega) (by omega) (by have := cb_0; omega)) rfl inX0 (by decide) rfl (zvR (by have := cb_0; omega)) rfl k_43 ?_
    refine zr_iloadn X 1 dX2_heldOf_33 rfl ?_
    refine zr_iald X (j := v) 0 (μ (32 * i + v + 7)) dX2_heldOf_34 (by omega) (sc_held (j := 0) (i := i) (by omega) (by omega) (by have := cb_0; omega)) rfl rfl (by omega) (by omega) (zcg (b := 32 * i + v + 7) (by omega) (rfl)) ?_
    refine zr_iadd X ((zsum (fun f => μ (32 * f + v + 7)) (i)) + (μ (32 * i + v + 7))) dX2_heldOf_35 rfl ?_
    refine zr_istoren X [1, 2, 0, 3, 4, 5, 6] [(0, .ref (ad (1))), (1, .int (nI (v))), (2, .int ((zsum (fun f => μ (32 * f + v + 7)) (i)) + (μ (32 * i + v + 7)))), (3, .ref (ad (3))), (4, .int (nI (8))), (5, .int (nI (i))), (6, .ref (ad (4 * i + 4)))] dX2_heldOf_36 (by decide) rfl ?_
    refine zr_iinc X 5 (nI (i + 1)) [1, 2, 3, 4, 5, 0, 6] [(0, .ref (ad (1))), (1, .int (nI (v))), (2, .int ((zsum (fun f => μ (32 * f + v + 7)) (i)) + (μ (32 * i + v + 7)))), (3, .ref (ad (3))), (4, .int (nI (8))), (5, .int (nI (i + 1))), (6, .ref (ad (4 * i + 4)))] dX2_heldOf_37 rfl (zinc _) (by decide) rfl ?_
    refine zr_goto X 14 dX2_heldOf_40 (by decide) ?_
    refine zr_drop X [0, 1, 2, 3, 4, 5] [(0, .ref (ad (1))), (1, .int (nI (v))), (2, .int ((zsum (fun f => μ (32 * f + v + 7)) (i)) + (μ (32 * i + v + 7)))), (3, .ref (ad (3))), (4, .int (nI (8))), (5, .int (nI (i + 1)))] rfl ?_
    exact ih14

set_option maxHeartbeats 4000000 in
set_option maxRecDepth 100000 in
theorem d_holdersOf {l : Launch} {D : va_G} {tc : Nat → ClassId} {ad : Nat → Nat} {A : Nat → Prop} {tF tL tM : Nat} (E : zN 299 A ad) (μ : Nat → Int32) {v : Nat} (hv : v ≤ 19)  : zMi l yX2_holdersOf cX2_holdersOf 7 (some .int) (zrm 1) (zK A D tc tF tL tM) A D vwCl tc ad 299 shC [.ref (ad (1)), .int (nI (v))] μ (fun r u => r = nI (zcnt (fun f => μ (32 * f + v + 7)) 8) ∧ u = μ) := by
  refine zM_of RX2 [(0, .ref (ad (1))), (1, .int (nI (v)))] (zK_ok A D tc tF tL tM) E.1 E.2 owC_ok (by decide +kernel) rfl (Nat.le_of_ble_eq_true rfl) rfl ?_
  intro pP eE sS mM aS bL mT cO X
  refine zr_iconst X (nI (0)) dX2_holdersOf_0 (by decide +kernel) ?_
  refine zr_istoren X [1, 2, 0] [(0, .ref (ad (1))), (1, .int (nI (v))), (2, .int (nI (0)))] dX2_holdersOf_1 (by decide) rfl ?_
  refine zr_aloadn X 0 dX2_holdersOf_2 rfl ?_
  refine zr_get X (ci := 2) (q := 3) (zR _) (.ref (ad (3))) dX2_holdersOf_3 (by omega) (sc_st (j := 0) (by omega) (by have := cb_0; omega)) rfl inX2 (by decide) rfl (zvR (by have := cb_0; omega)) rfl k_88 ?_
  refine zr_astoren X [1, 2, 3, 0] [(0, .ref (ad (1))), (1, .int (nI (v))), (2, .int (nI (0))), (3, .ref (ad (3)))] dX2_holdersOf_6 (by decide) rfl ?_
  refine zr_aloadn X 3 dX2_holdersOf_7 rfl ?_
  refine zr_alenQ X 2 (nI (8)) dX2_holdersOf_8 (by omega) (sc_firms (j := 0) (by omega) (by have := cb_0; omega)) rfl (by decide +kernel) ?_
  refine zr_istore X [1, 2, 3, 4, 0] [(0, .ref (ad (1))), (1, .int (nI (v))), (2, .int (nI (0))), (3, .ref (ad (3))), (4, .int (nI (8)))] dX2_holdersOf_9 (by decide) rfl ?_
  refine zr_iconst X (nI (0)) dX2_holdersOf_11 (by decide +kernel) ?_
  refine zr_istore X [1, 2, 3, 4, 5, 0] [(0, .ref (ad (1))), (1, .int (nI (v))), (2, .int (nI (0))), (3, .ref (ad (3))), (4, .int (nI (8))), (5, .int (nI (0)))] dX2_holdersOf_12 (by decide) rfl ?_
  refine zr_for X (8) (fun i => μ) (fun i => [(0, .ref (ad (1))), (1, .int (nI (v))), (2, .int (nI (zcnt (fun f => μ (32 * f + v + 7)) (i)))), (3, .ref (ad (3))), (4, .int (nI (8))), (5, .int (nI (i)))]) [] (rfl) rfl ?_ ?_
  · refine zr_iload X 5 dX2_holdersOf_14 rfl ?_
    refine zr_iload X 4 dX2_holdersOf_16 rfl ?_
    refine zr_icmp_ge X 46 dX2_holdersOf_18 (by decide) (fun _ => ?_) (fun q => absurd (zq_le (by omega) (by omega)) q)
    refine zr_iloadn X 2 dX2_holdersOf_46 rfl ?_
    exact zr_iret X dX2_holdersOf_47 ⟨rfl, rfl⟩
  · intro i hi ih14
    refine zr_iload X 5 dX2_holdersOf_14 rfl ?_
    refine zr_iload X 4 dX2_holdersOf_16 rfl ?_
    refine zr_icmp_ge X 46 dX2_holdersOf_18 (by decide) (fun q => absurd q (nI_ge (by omega) (by omega))) (fun _ => ?_)
    refine zr_aloadn X 3 dX2_holdersOf_21 rfl ?_
    refine zr_iload X 5 dX2_holdersOf_22 rfl ?_
    refine zr_aald X (j := i) 2 (4 * i + 4) dX2_holdersOf_24 (by omega) (sc_firms (j := 0) (by omega) (by have := cb_0; omega)) rfl rfl (by simp) (zks (by omega) (by have := cb_0; omega)) ?_
    refine zr_astore X [1, 2, 3, 4, 5, 6, 0] [(0, .ref (ad (1))), (1, .int (nI (v))), (2, .int (nI (zcnt (fun f => μ (32 * f + v + 7)) (i)))), (3, .ref (ad (3))), (4, .int (nI (8))), (5, .int (nI (i))), (6, .ref (ad (4 * i + 4)))] dX2_holdersOf_25 (by decide) rfl ?_
    refine zr_aload X 6 dX2_holdersOf_27 rfl ?_
    refine zr_get X (ci := 0) (q := 0) (zR _) (.ref (ad (4 * i + 5))) dX2_holdersOf_29 (by omega) (sc_firm (j := 0) (i := i) (by omega) (by omega) (by have := cb_0; omega)) rfl inX0 (by decide) rfl (zvR (by have := cb_0; omega)) rfl k_43 ?_
    refine zr_iloadn X 1 dX2_holdersOf_32 rfl ?_
    refine zr_iald X (j := v) 0 (μ (32 * i + v + 7)) dX2_holdersOf_33 (by omega) (sc_held (j := 0) (i := i) (by omega) (by omega) (by have := cb_0; omega)) rfl rfl (by omega) (by omega) (zcg (b := 32 * i + v + 7) (by omega) (rfl)) ?_
    refine zr_if_le X 40 dX2_holdersOf_34 (by decide) (fun h34 => ?_) (fun h34 => ?_)
    · refine zr_iinc X 5 (nI (i + 1)) [1, 2, 3, 4, 5, 0, 6] [(0, .ref (ad (1))), (1, .int (nI (v))), (2, .int (nI (zcnt (fun f => μ (32 * f + v + 7)) (i)))), (3, .ref (ad (3))), (4, .int (nI (8))), (5, .int (nI (i + 1))), (6, .ref (ad (4 * i + 4)))] dX2_holdersOf_40 rfl (zinc _) (by decide) rfl ?_
      refine zr_goto X 14 dX2_holdersOf_43 (by decide) ?_
      refine zr_drop X [0, 1, 2, 3, 4, 5] [(0, .ref (ad (1))), (1, .int (nI (v))), (2, .int (nI (zcnt (fun f => μ (32 * f + v + 7)) (i)))), (3, .ref (ad (3))), (4, .int (nI (8))), (5, .int (nI (i + 1)))] rfl ?_
      exact zr_lv X (by simp only [zcnt, Nat.add_zero, if_pos h34]) ih14
    · refine zr_iinc X 2 (nI (zcnt (fun f => μ (32 * f + v + 7)) (i) + 1)) [1, 2, 0, 3, 4, 5, 6] [(0, .ref (ad (1))), (1, .int (nI (v))), (2, .int (nI (zcnt (fun f => μ (32 * f + v + 7)) (i) + 1))), (3, .ref (ad (3))), (4, .int (nI (8))), (5, .int (nI (i))), (6, .ref (ad (4 * i + 4)))] dX2_holdersOf_37 rfl (zinc _) (by decide) rfl ?_
      refine zr_iinc X 5 (nI (i + 1)) [1, 2, 3, 4, 5, 0, 6] [(0, .ref (ad (1))), (1, .int (nI (v))), (2, .int (nI (zcnt (fun f => μ (32 * f + v + 7)) (i) + 1))), (3, .ref (ad (3))), (4, .int (nI (8))), (5, .int (nI (i + 1))), (6, .ref (ad (4 * i + 4)))] dX2_holdersOf_40 rfl (zinc _) (by decide) rfl ?_
      refine zr_goto X 14 dX2_holdersOf_43 (by decide) ?_
      refine zr_drop X [0, 1, 2, 3, 4, 5] [(0, .ref (ad (1))), (1, .int (nI (v))), (2, .int (nI (zcnt (fun f => μ (32 * f + v + 7)) (i) + 1))), (3, .ref (ad (3))), (4, .int (nI (8))), (5, .int (nI (i + 1)))] rfl ?_
      exact zr_lv X (by simp only [zcnt, Nat.add_zero, if_neg h34]) ih14

set_option maxHeartbeats 4000000 in
set_option maxRecDepth 100000 in
theorem d_offsetsHeldOf {l : Launch} {D : va_G} {tc : Nat → ClassId} {ad : Nat → Nat} {A : Nat → Prop} {tF tL tM : Nat} (E : zN 299 A ad) (μ : Nat → Int32) {g : Nat} (hg : g ≤ 2)  : zMi l yX2_offsetsHeldOf cX2_offsetsHeldOf 7 (some .int) (zrm 1) (zK A D tc tF tL tM) A D vwCl tc ad 299 shC [.ref (ad (1)), .int (nI (g))] μ (fun r u => r = zsum (fun f => μ (32 * f + g + 27)) 8 ∧ u = μ) := by
  refine zM_of RX2 [(0, .ref (ad (1))), (1, .int (nI (g)))] (zK_ok A D tc tF tL tM) E.1 E.2 owC_ok (by decide +kernel) rfl (Nat.le_of_ble_eq_true rfl) rfl ?_
  intro pP eE sS mM aS bL mT cO X
  refine zr_iconst X (nI (0)) dX2_offsetsHeldOf_0 (by decide +kernel) ?_
  refine zr_istoren X [1, 2, 0] [(0, .ref (ad (1))), (1, .int (nI (g))), (2, .int (nI (0)))] dX2_offsetsHeldOf_1 (by decide) rfl ?_
  refine zr_aloadn X 0 dX2_offsetsHeldOf_2 rfl ?_
  refine zr_get X (ci := 2) (q := 3) (zR _) (.ref (ad (3))) dX2_offsetsHeldOf_3 (by omega) (sc_st (j := 0) (by omega) (by have := cb_0; omega)) rfl inX2 (by decide) rfl (zvR (by have := cb_0; omega)) rfl k_88 ?_
  refine zr_astoren X [1, 2, 3, 0] [(0, .ref (ad (1))), (1, .int (nI (g))), (2, .int (nI (0))), (3, .ref (ad (3)))] dX2_offsetsHeldOf_6 (by decide) rfl ?_
  refine zr_aloadn X 3 dX2_offsetsHeldOf_7 rfl ?_
  refine zr_alenQ X 2 (nI (8)) dX2_offsetsHeldOf_8 (by omega) (sc_firms (j := 0) (by omega) (by have := cb_0; omega)) rfl (by decide +kernel) ?_
  refine zr_istore X [1, 2, 3, 4, 0] [(0, .ref (ad (1))), (1, .int (nI (g))), (2, .int (nI (0))), (3, .ref (ad (3))), (4, .int (nI (8)))] dX2_offsetsHeldOf_9 (by decide) rfl ?_
  refine zr_iconst X (nI (0)) dX2_offsetsHeldOf_11 (by decide +kernel) ?_
  refine zr_istore X [1, 2, 3, 4, 5, 0] [(0, .ref (ad (1))), (1, .int (nI (g))), (2, .int (nI (0))), (3, .ref (ad (3))), (4, .int (nI (8))), (5, .int (nI (0)))] dX2_offsetsHeldOf_12 (by decide) rfl ?_
  refine zr_for X (8) (fun f => μ) (fun f => [(0, .ref (ad (1))), (1, .int (nI (g))), (2, .int (zsum (fun f => μ (32 * f + g + 27)) (f))), (3, .ref (ad (3))), (4, .int (nI (8))), (5, .int (nI (f)))]) [] (rfl) rfl ?_ ?_
  · refine zr_iload X 5 dX2_offsetsHeldOf_14 rfl ?_
    refine zr_iload X 4 dX2_offsetsHeldOf_16 rfl ?_
    refine zr_icmp_ge X 43 dX2_offsetsHeldOf_18 (by decide) (fun _ => ?_) (fun q => absurd (zq_le (by omega) (by omega)) q)
    refine zr_iloadn X 2 dX2_offsetsHeldOf_43 rfl ?_
    exact zr_iret X dX2_offsetsHeldOf_44 ⟨rfl, rfl⟩
  · intro f hf ih14
    refine zr_iload X 5 dX2_offsetsHeldOf_14 rfl ?_
    refine zr_iload X 4 dX2_offsetsHeldOf_16 rfl ?_
    refine zr_icmp_ge X 43 dX2_offsetsHeldOf_18 (by decide) (fun q => absurd q (nI_ge (by omega) (by omega))) (fun _ => ?_)
    refine zr_aloadn X 3 dX2_offsetsHeldOf_21 rfl ?_
    refine zr_iload X 5 dX2_offsetsHeldOf_22 rfl ?_
    refine zr_aald X (j := f) 2 (4 * f + 4) dX2_offsetsHeldOf_24 (by omega) (sc_firms (j := 0) (by omega) (by have := cb_0; omega)) rfl rfl (by simp) (zks (by omega) (by have := cb_0; omega)) ?_
    refine zr_astore X [1, 2, 3, 4, 5, 6, 0] [(0, .ref (ad (1))), (1, .int (nI (g))), (2, .int (zsum (fun f => μ (32 * f + g + 27)) (f))), (3, .ref (ad (3))), (4, .int (nI (8))), (5, .int (nI (f))), (6, .ref (ad (4 * f + 4)))] dX2_offsetsHeldOf_25 (by decide) rfl ?_
    refine zr_iloadn X 2 dX2_offsetsHeldOf_27 rfl ?_
    refine zr_aload X 6 dX2_offsetsHeldOf_28 rfl ?_
    refine zr_get X (ci := 0) (q := 1) (zR _) (.ref (ad (4 * f + 6))) dX2_offsetsHeldOf_30 (by omega) (sc_firm (j := 0) (i := f) (by omega) (by omega) (by have := cb_0; omega)) rfl inX0 (by decide) rfl (zvR (by have := cb_0; omega)) rfl k_46 ?_
    refine zr_iloadn X 1 dX2_offsetsHeldOf_33 rfl ?_
    refine zr_iald X (j := g) 0 (μ (32 * f + g + 27)) dX2_offsetsHeldOf_34 (by omega) (sc_off (j := 0) (i := f) (by omega) (by omega) (by have := cb_0; omega)) rfl rfl (by omega) (by omega) (zcg (b := 32 * f + g + 27) (by omega) (rfl)) ?_
    refine zr_iadd X ((zsum (fun f => μ (32 * f + g + 27)) (f)) + (μ (32 * f + g + 27))) dX2_offsetsHeldOf_35 rfl ?_
    refine zr_istoren X [1, 2, 0, 3, 4, 5, 6] [(0, .ref (ad (1))), (1, .int (nI (g))), (2, .int ((zsum (fun f => μ (32 * f + g + 27)) (f)) + (μ (32 * f + g + 27)))), (3, .ref (ad (3))), (4, .int (nI (8))), (5, .int (nI (f))), (6, .ref (ad (4 * f + 4)))] dX2_offsetsHeldOf_36 (by decide) rfl ?_
    refine zr_iinc X 5 (nI (f + 1)) [1, 2, 3, 4, 5, 0, 6] [(0, .ref (ad (1))), (1, .int (nI (g))), (2, .int ((zsum (fun f => μ (32 * f + g + 27)) (f)) + (μ (32 * f + g + 27)))), (3, .ref (ad (3))), (4, .int (nI (8))), (5, .int (nI (f + 1))), (6, .ref (ad (4 * f + 4)))] dX2_offsetsHeldOf_37 rfl (zinc _) (by decide) rfl ?_
    refine zr_goto X 14 dX2_offsetsHeldOf_40 (by decide) ?_
    refine zr_drop X [0, 1, 2, 3, 4, 5] [(0, .ref (ad (1))), (1, .int (nI (g))), (2, .int ((zsum (fun f => μ (32 * f + g + 27)) (f)) + (μ (32 * f + g + 27)))), (3, .ref (ad (3))), (4, .int (nI (8))), (5, .int (nI (f + 1)))] rfl ?_
    exact ih14

set_option maxHeartbeats 4000000 in
set_option maxRecDepth 100000 in
theorem d_monthsUntilLost {l : Launch} {D : va_G} {tc : Nat → ClassId} {ad : Nat → Nat} {A : Nat → Prop} {tF tL tM : Nat} (E : zN 299 A ad) (μ : Nat → Int32) {m : Nat} (hm : μ 0 = nI m) (hm2 : m < 240) {y : Nat} (hy : m / 12 = y) {v : Nat} (hv : v ≤ 19) {b : Nat} (hb : μ 5 = nI b) (hb1 : 1 ≤ b) (hb5 : b ≤ 5)  : zMi l yX2_monthsUntilLost cX2_monthsUntilLost 3 (some .int) (zrm 2) (zK A D tc tF tL tM) A D vwCl tc ad 299 shC [.ref (ad (1)), .int (nI (v))] μ (fun r u => r = zmoC (fun f => μ (32 * f + v + 7)) v b y m ∧ u = μ) := by
  refine zM_of RX2 [(0, .ref (ad (1))), (1, .int (nI (v)))] (zK_ok A D tc tF tL tM) E.1 E.2 owC_ok (by decide +kernel) rfl (Nat.le_of_ble_eq_true rfl) rfl ?_
  intro pP eE sS mM aS bL mT cO X
  refine zr_aloadn X 0 dX2_monthsUntilLost_0 rfl ?_
  refine zr_iloadn X 1 dX2_monthsUntilLost_1 rfl ?_
  refine zr_dVi (C := RX2) (ci := 2) [.int (nI (v))] [] X (zK_ok A D tc tF tL tM) (d_holdersOf E μ (v := v) (by omega)) k_482 k_475 k_476 k_2 k_477 hdX2_holdersOf ⟨rfl, rfl⟩ ⟨Nat.le_of_ble_eq_true rfl, Nat.le_of_ble_eq_true rfl⟩ (by omega) (sc_st (j := 0) (by omega) (by have := cb_0; omega)) rfl rfl rfl (Nat.le_of_ble_eq_true rfl) dX2_monthsUntilLost_2 ?_
  refine zr_if_ne X 11 dX2_monthsUntilLost_5 (by decide) (fun h5 => ?_) (fun h5 => ?_)
  · have h5 : ¬ zcnt (fun f => μ (32 * f + v + 7)) 8 = 0 := fun q => h5 (by rw [q]; rfl)
    refine zr_iloadn X 1 dX2_monthsUntilLost_11 rfl ?_
    refine zr_aloadn X 0 dX2_monthsUntilLost_12 rfl ?_
    refine zr_get X (ci := 2) (q := 2) (zR _) (.ref (ad (2))) dX2_monthsUntilLost_13 (by omega) (sc_st (j := 0) (by omega) (by have := cb_0; omega)) rfl inX2 (by decide) rfl (zvR (by have := cb_0; omega)) rfl k_86 ?_
    refine zr_iconst X (nI (3)) dX2_monthsUntilLost_16 (by decide +kernel) ?_
    refine zr_iald X (j := 3) 0 (nI (b)) dX2_monthsUntilLost_17 (by omega) (sc_set (j := 0) (by omega) (by have := cb_0; omega)) rfl rfl (by omega) (by omega) (zcg (b := 5) (by omega) (hb)) ?_
    refine zr_iadd X (nI (b + v)) dX2_monthsUntilLost_18 ((nI_add _ _).trans (congrArg nI (by omega))) ?_
    refine zr_aloadn X 0 dX2_monthsUntilLost_19 rfl ?_
    refine zr_dVi (C := RX2) (ci := 2) [] [.int (nI (b + v))] X (zK_ok A D tc tF tL tM) (d_year E μ (hm) hm2 hy) k_373 k_281 k_282 k_2 k_283 hdX2_year ⟨rfl, rfl⟩ ⟨Nat.le_of_ble_eq_true rfl, Nat.le_of_ble_eq_true rfl⟩ (by omega) (sc_st (j := 0) (by omega) (by have := cb_0; omega)) rfl rfl rfl (Nat.le_of_ble_eq_true rfl) dX2_monthsUntilLost_20 ?_
    refine zr_mmax X (nI ((max (b + v) y))) dX2_monthsUntilLost_23 k_483 k_345 k_8 k_346 (Nat.le_of_ble_eq_true rfl) (Nat.le_of_ble_eq_true rfl) ((zmax_eq _ _).trans (zmax_nI (by omega) (by omega))) ?_
    refine zr_iconst X (nI (1)) dX2_monthsUntilLost_26 (by decide +kernel) ?_
    refine zr_iadd X (nI ((max (b + v) y) + 1)) dX2_monthsUntilLost_27 (nI_add _ _) ?_
    refine zr_istoren X [1, 2, 0] [(0, .ref (ad (1))), (1, .int (nI (v))), (2, .int (nI ((max (b + v) y) + 1)))] dX2_monthsUntilLost_28 (by decide) rfl ?_
    refine zr_iloadn X 2 dX2_monthsUntilLost_29 rfl ?_
    refine zr_bipush X (nI (12)) dX2_monthsUntilLost_30 (by decide +kernel) ?_
    refine zr_imul X (nI (12 * (max (b + v) y) + 12)) dX2_monthsUntilLost_32 ((pk_mul _ _).trans (congrArg nI (by omega))) ?_
    refine zr_aloadn X 0 dX2_monthsUntilLost_33 rfl ?_
    refine zr_get X (ci := 2) (q := 0) zI (.int (nI (m))) dX2_monthsUntilLost_34 (by omega) (sc_st (j := 0) (by omega) (by have := cb_0; omega)) rfl inX2 (by decide) rfl (congrArg Value.int (hm)) rfl k_82 ?_
    refine zr_isub X (nI (12 * (max (b + v) y) + 12) - nI (m)) dX2_monthsUntilLost_37 rfl ?_
    exact zr_iret X dX2_monthsUntilLost_38 ⟨by unfold zmoC; rw [if_neg h5]; exact congrArg (· - nI m) (congrArg nI (by omega)), rfl⟩
  · have h5 : zcnt (fun f => μ (32 * f + v + 7)) 8 = 0 := by rw [← nI_0] at h5; exact (nI_eq (by have := zcnt_le (fun f => μ (32 * f + v + 7)) 8; omega) (by omega)).mp h5
    refine zr_bipush X (-5) dX2_monthsUntilLost_8 (by decide +kernel) ?_
    exact zr_iret X dX2_monthsUntilLost_10 ⟨by unfold zmoC; rw [if_pos h5], rfl⟩

set_option maxHeartbeats 4000000 in
set_option maxRecDepth 100000 in
theorem d_holdersAhead {l : Launch} {D : va_G} {tc : Nat → ClassId} {ad : Nat → Nat} {A : Nat → Prop} {tF tL tM : Nat} (E : zN 299 A ad) (μ : Nat → Int32) {v : Nat} (hv : v ≤ 19) {f : Nat} (hf : f < 8)  : zMi l yX2_holdersAhead cX2_holdersAhead 7 (some .int) (zrm 1) (zK A D tc tF tL tM) A D vwCl tc ad 299 shC [.ref (ad (1)), .int (nI (v)), .int (nI (f))] μ (fun r u => r = nI (zah (fun f => μ (32 * f + v + 7)) (μ (32 * f + v + 7)) f 8) ∧ u = μ) := by
  refine zM_of RX2 [(0, .ref (ad (1))), (1, .int (nI (v))), (2, .int (nI (f)))] (zK_ok A D tc tF tL tM) E.1 E.2 owC_ok (by decide +kernel) rfl (Nat.le_of_ble_eq_true rfl) rfl ?_
  intro pP eE sS mM aS bL mT cO X
  refine zr_aloadn X 0 dX2_holdersAhead_0 rfl ?_
  refine zr_get X (ci := 2) (q := 3) (zR _) (.ref (ad (3))) dX2_holdersAhead_1 (by omega) (sc_st (j := 0) (by omega) (by have := cb_0; omega)) rfl inX2 (by decide) rfl (zvR (by have := cb_0; omega)) rfl k_88 ?_
  refine zr_iloadn X 2 dX2_holdersAhead_4 rfl ?_
  refine zr_aald X (j := f) 2 (4 * f + 4) dX2_holdersAhead_5 (by omega) (sc_firms (j := 0) (by omega) (by have := cb_0; omega)) rfl rfl (by simp) (zks (by omega) (by have := cb_0; omega)) ?_
  refine zr_get X (ci := 0) (q := 0) (zR _) (.ref (ad (4 * f + 5))) dX2_holdersAhead_6 (by omega) (sc_firm (j := 0) (i := f) (by omega) (by omega) (by have := cb_0; omega)) rfl inX0 (by decide) rfl (zvR (by have := cb_0; omega)) rfl k_43 ?_
  refine zr_iloadn X 1 dX2_holdersAhead_9 rfl ?_
  refine zr_iald X (j := v) 0 (μ (32 * f + v + 7)) dX2_holdersAhead_10 (by omega) (sc_held (j := 0) (i := f) (by omega) (by omega) (by have := cb_0; omega)) rfl rfl (by omega) (by omega) (zcg (b := 32 * f + v + 7) (by omega) (rfl)) ?_
  refine zr_istoren X [1, 2, 3, 0] [(0, .ref (ad (1))), (1, .int (nI (v))), (2, .int (nI (f))), (3, .int (μ (32 * f + v + 7)))] dX2_holdersAhead_11 (by decide) rfl ?_
  refine zr_iconst X (nI (0)) dX2_holdersAhead_12 (by decide +kernel) ?_
  refine zr_istore X [1, 2, 3, 4, 0] [(0, .ref (ad (1))), (1, .int (nI (v))), (2, .int (nI (f))), (3, .int (μ (32 * f + v + 7))), (4, .int (nI (0)))] dX2_holdersAhead_13 (by decide) rfl ?_
  refine zr_iconst X (nI (0)) dX2_holdersAhead_15 (by decide +kernel) ?_
  refine zr_istore X [1, 2, 3, 4, 5, 0] [(0, .ref (ad (1))), (1, .int (nI (v))), (2, .int (nI (f))), (3, .int (μ (32 * f + v + 7))), (4, .int (nI (0))), (5, .int (nI (0)))] dX2_holdersAhead_16 (by decide) rfl ?_
  refine zr_for X (8) (fun j => μ) (fun j => [(0, .ref (ad (1))), (1, .int (nI (v))), (2, .int (nI (f))), (3, .int (μ (32 * f + v + 7))), (4, .int (nI (zah (fun f => μ (32 * f + v + 7)) (μ (32 * f + v + 7)) f (j)))), (5, .int (nI (j)))]) [] (rfl) rfl ?_ ?_
  · refine zr_iload X 5 dX2_holdersAhead_18 rfl ?_
    refine zr_bipush X (nI (8)) dX2_holdersAhead_20 (by decide +kernel) ?_
    refine zr_icmp_ge X 66 dX2_holdersAhead_22 (by decide) (fun _ => ?_) (fun q => absurd (zq_le (by omega) (by omega)) q)
    refine zr_iload X 4 dX2_holdersAhead_66 rfl ?_
    exact zr_iret X dX2_holdersAhead_68 ⟨rfl, rfl⟩
  · intro j hj ih18
    refine zr_iload X 5 dX2_holdersAhead_18 rfl ?_
    refine zr_bipush X (nI (8)) dX2_holdersAhead_20 (by decide +kernel) ?_
    refine zr_icmp_ge X 66 dX2_holdersAhead_22 (by decide) (fun q => absurd q (nI_ge (by omega) (by omega))) (fun _ => ?_)
    refine zr_aloadn X 0 dX2_holdersAhead_25 rfl ?_
    refine zr_get X (ci := 2) (q := 3) (zR _) (.ref (ad (3))) dX2_holdersAhead_26 (by omega) (sc_st (j := 0) (by omega) (by have := cb_0; omega)) rfl inX2 (by decide) rfl (zvR (by have := cb_0; omega)) rfl k_88 ?_
    refine zr_iload X 5 dX2_holdersAhead_29 rfl ?_
    refine zr_aald X (j := j) 2 (4 * j + 4) dX2_holdersAhead_31 (by omega) (sc_firms (j := 0) (by omega) (by have := cb_0; omega)) rfl rfl (by simp) (zks (by omega) (by have := cb_0; omega)) ?_
    refine zr_get X (ci := 0) (q := 0) (zR _) (.ref (ad (4 * j + 5))) dX2_holdersAhead_32 (by omega) (sc_firm (j := 0) (i := j) (by omega) (by omega) (by have := cb_0; omega)) rfl inX0 (by decide) rfl (zvR (by have := cb_0; omega)) rfl k_43 ?_
    refine zr_iloadn X 1 dX2_holdersAhead_35 rfl ?_
    refine zr_iald X (j := v) 0 (μ (32 * j + v + 7)) dX2_holdersAhead_36 (by omega) (sc_held (j := 0) (i := j) (by omega) (by omega) (by have := cb_0; omega)) rfl rfl (by omega) (by omega) (zcg (b := 32 * j + v + 7) (by omega) (rfl)) ?_
    refine zr_istore X [1, 2, 3, 4, 5, 6, 0] [(0, .ref (ad (1))), (1, .int (nI (v))), (2, .int (nI (f))), (3, .int (μ (32 * f + v + 7))), (4, .int (nI (zah (fun f => μ (32 * f + v + 7)) (μ (32 * f + v + 7)) f (j)))), (5, .int (nI (j))), (6, .int (μ (32 * j + v + 7)))] dX2_holdersAhead_37 (by decide) rfl ?_
    refine zr_iload X 6 dX2_holdersAhead_39 rfl ?_
    refine zr_iloadn X 3 dX2_holdersAhead_41 rfl ?_
    refine zr_icmp_gt X 57 dX2_holdersAhead_42 (by decide) (fun h42 => ?_) (fun h42 => ?_)
    · refine zr_iinc X 4 (nI (zah (fun f => μ (32 * f + v + 7)) (μ (32 * f + v + 7)) f (j) + 1)) [1, 2, 3, 4, 0, 5, 6] [(0, .ref (ad (1))), (1, .int (nI (v))), (2, .int (nI (f))), (3, .int (μ (32 * f + v + 7))), (4, .int (nI (zah (fun f => μ (32 * f + v + 7)) (μ (32 * f + v + 7)) f (j) + 1))), (5, .int (nI (j))), (6, .int (μ (32 * j + v + 7)))] dX2_holdersAhead_57 rfl (zinc _) (by decide) rfl ?_
      refine zr_iinc X 5 (nI (j + 1)) [1, 2, 3, 4, 5, 0, 6] [(0, .ref (ad (1))), (1, .int (nI (v))), (2, .int (nI (f))), (3, .int (μ (32 * f + v + 7))), (4, .int (nI (zah (fun f => μ (32 * f + v + 7)) (μ (32 * f + v + 7)) f (j) + 1))), (5, .int (nI (j + 1))), (6, .int (μ (32 * j + v + 7)))] dX2_holdersAhead_60 rfl (zinc _) (by decide) rfl ?_
      refine zr_goto X 18 dX2_holdersAhead_63 (by decide) ?_
      refine zr_drop X [0, 1, 2, 3, 4, 5] [(0, .ref (ad (1))), (1, .int (nI (v))), (2, .int (nI (f))), (3, .int (μ (32 * f + v + 7))), (4, .int (nI (zah (fun f => μ (32 * f + v + 7)) (μ (32 * f + v + 7)) f (j) + 1))), (5, .int (nI (j + 1)))] rfl ?_
      exact zr_lv X (by simp only [zah, Nat.add_zero, if_pos h42]) ih18
    · refine zr_iload X 6 dX2_holdersAhead_45 rfl ?_
      refine zr_iloadn X 3 dX2_holdersAhead_47 rfl ?_
      refine zr_icmp_ne X 60 dX2_holdersAhead_48 (by decide) (fun h48 => ?_) (fun h48 => ?_)
      · refine zr_iinc X 5 (nI (j + 1)) [1, 2, 3, 4, 5, 0, 6] [(0, .ref (ad (1))), (1, .int (nI (v))), (2, .int (nI (f))), (3, .int (μ (32 * f + v + 7))), (4, .int (nI (zah (fun f => μ (32 * f + v + 7)) (μ (32 * f + v + 7)) f (j)))), (5, .int (nI (j + 1))), (6, .int (μ (32 * j + v + 7)))] dX2_holdersAhead_60 rfl (zinc _) (by decide) rfl ?_
        refine zr_goto X 18 dX2_holdersAhead_63 (by decide) ?_
        refine zr_drop X [0, 1, 2, 3, 4, 5] [(0, .ref (ad (1))), (1, .int (nI (v))), (2, .int (nI (f))), (3, .int (μ (32 * f + v + 7))), (4, .int (nI (zah (fun f => μ (32 * f + v + 7)) (μ (32 * f + v + 7)) f (j)))), (5, .int (nI (j + 1)))] rfl ?_
        exact zr_lv X (by simp only [zah, Nat.add_zero, if_neg h42, if_neg h48]) ih18
      · refine zr_iload X 5 dX2_holdersAhead_51 rfl ?_
        refine zr_iloadn X 2 dX2_holdersAhead_53 rfl ?_
        refine zr_icmp_ge X 60 dX2_holdersAhead_54 (by decide) (fun h54 => ?_) (fun h54 => ?_)
        · have h54 : f ≤ j := (nI_leI (by omega) (by omega)).mp h54
          refine zr_iinc X 5 (nI (j + 1)) [1, 2, 3, 4, 5, 0, 6] [(0, .ref (ad (1))), (1, .int (nI (v))), (2, .int (nI (f))), (3, .int (μ (32 * f + v + 7))), (4, .int (nI (zah (fun f => μ (32 * f + v + 7)) (μ (32 * f + v + 7)) f (j)))), (5, .int (nI (j + 1))), (6, .int (μ (32 * j + v + 7)))] dX2_holdersAhead_60 rfl (zinc _) (by decide) rfl ?_
          refine zr_goto X 18 dX2_holdersAhead_63 (by decide) ?_
          refine zr_drop X [0, 1, 2, 3, 4, 5] [(0, .ref (ad (1))), (1, .int (nI (v))), (2, .int (nI (f))), (3, .int (μ (32 * f + v + 7))), (4, .int (nI (zah (fun f => μ (32 * f + v + 7)) (μ (32 * f + v + 7)) f (j)))), (5, .int (nI (j + 1)))] rfl ?_
          exact zr_lv X (by simp only [zah, Nat.add_zero, if_neg h42, if_pos h48, if_pos h54]) ih18
        · have h54 : ¬ f ≤ j := fun q => h54 (nI_le q (by omega))
          refine zr_iinc X 4 (nI (zah (fun f => μ (32 * f + v + 7)) (μ (32 * f + v + 7)) f (j) + 1)) [1, 2, 3, 4, 0, 5, 6] [(0, .ref (ad (1))), (1, .int (nI (v))), (2, .int (nI (f))), (3, .int (μ (32 * f + v + 7))), (4, .int (nI (zah (fun f => μ (32 * f + v + 7)) (μ (32 * f + v + 7)) f (j) + 1))), (5, .int (nI (j))), (6, .int (μ (32 * j + v + 7)))] dX2_holdersAhead_57 rfl (zinc _) (by decide) rfl ?_
          refine zr_iinc X 5 (nI (j + 1)) [1, 2, 3, 4, 5, 0, 6] [(0, .ref (ad (1))), (1, .int (nI (v))), (2, .int (nI (f))), (3, .int (μ (32 * f + v + 7))), (4, .int (nI (zah (fun f => μ (32 * f + v + 7)) (μ (32 * f + v + 7)) f (j) + 1))), (5, .int (nI (j + 1))), (6, .int (μ (32 * j + v + 7)))] dX2_holdersAhead_60 rfl (zinc _) (by decide) rfl ?_
          refine zr_goto X 18 dX2_holdersAhead_63 (by decide) ?_
          refine zr_drop X [0, 1, 2, 3, 4, 5] [(0, .ref (ad (1))), (1, .int (nI (v))), (2, .int (nI (f))), (3, .int (μ (32 * f + v + 7))), (4, .int (nI (zah (fun f => μ (32 * f + v + 7)) (μ (32 * f + v + 7)) f (j) + 1))), (5, .int (nI (j + 1)))] rfl ?_
          exact zr_lv X (by simp only [zah, Nat.add_zero, if_neg h42, if_pos h48, if_neg h54]) ih18

set_option maxHeartbeats 4000000 in
set_option maxRecDepth 100000 in
theorem d_holderAt {l : Launch} {D : va_G} {tc : Nat → ClassId} {ad : Nat → Nat} {A : Nat → Prop} {tF tL tM : Nat} (E : zN 299 A ad) (μ : Nat → Int32) {v : Nat} (hv : v ≤ 19) {z : Int32}  : zMi l yX2_holderAt cX2_holderAt 4 (some .int) (zrm 2) (zK A D tc tF tL tM) A D vwCl tc ad 299 shC [.ref (ad (1)), .int (nI (v)), .int (z)] μ (fun r u => r = zhol (fun f => μ (32 * f + v + 7)) 8 z 8 ∧ u = μ) := by
  refine zM_of RX2 [(0, .ref (ad (1))), (1, .int (nI (v))), (2, .int (z))] (zK_ok A D tc tF tL tM) E.1 E.2 owC_ok (by decide +kernel) rfl (Nat.le_of_ble_eq_true rfl) rfl ?_
  intro pP eE sS mM aS bL mT cO X
  refine zr_iconst X (nI (0)) dX2_holderAt_0 (by decide +kernel) ?_
  refine zr_istoren X [1, 2, 3, 0] [(0, .ref (ad (1))), (1, .int (nI (v))), (2, .int (z)), (3, .int (nI (0)))] dX2_holderAt_1 (by decide) rfl ?_
  refine zr_forH X (8) (fun f => zhol (fun f => μ (32 * f + v + 7)) 8 z f = -5) (fun f => μ) (fun f => [(0, .ref (ad (1))), (1, .int (nI (v))), (2, .int (z)), (3, .int (nI (f)))]) [] (rfl) (rfl) (rfl) (fun hP2 => ?_) ?_
  · refine zr_iloadn X 3 dX2_holderAt_2 rfl ?_
    refine zr_bipush X (nI (8)) dX2_holderAt_3 (by decide +kernel) ?_
    refine zr_icmp_ge X 40 dX2_holderAt_5 (by decide) (fun _ => ?_) (fun q => absurd (zq_le (by omega) (by omega)) q)
    refine zr_bipush X (-5) dX2_holderAt_40 (by decide +kernel) ?_
    exact zr_iret X dX2_holderAt_42 ⟨hP2.symm, rfl⟩
  · intro f hf hP2 ih2
    refine zr_iloadn X 3 dX2_holderAt_2 rfl ?_
    refine zr_bipush X (nI (8)) dX2_holderAt_3 (by decide +kernel) ?_
    refine zr_icmp_ge X 40 dX2_holderAt_5 (by decide) (fun q => absurd q (nI_ge (by omega) (by omega))) (fun _ => ?_)
    refine zr_aloadn X 0 dX2_holderAt_8 rfl ?_
    refine zr_get X (ci := 2) (q := 3) (zR _) (.ref (ad (3))) dX2_holderAt_9 (by omega) (sc_st (j := 0) (by omega) (by have := cb_0; omega)) rfl inX2 (by decide) rfl (zvR (by have := cb_0; omega)) rfl k_88 ?_
    refine zr_iloadn X 3 dX2_holderAt_12 rfl ?_
    refine zr_aald X (j := f) 2 (4 * f + 4) dX2_holderAt_13 (by omega) (sc_firms (j := 0) (by omega) (by have := cb_0; omega)) rfl rfl (by simp) (zks (by omega) (by have := cb_0; omega)) ?_
    refine zr_get X (ci := 0) (q := 0) (zR _) (.ref (ad (4 * f + 5))) dX2_holderAt_14 (by omega) (sc_firm (j := 0) (i := f) (by omega) (by omega) (by have := cb_0; omega)) rfl inX0 (by decide) rfl (zvR (by have := cb_0; omega)) rfl k_43 ?_
    refine zr_iloadn X 1 dX2_holderAt_17 rfl ?_
    refine zr_iald X (j := v) 0 (μ (32 * f + v + 7)) dX2_holderAt_18 (by omega) (sc_held (j := 0) (i := f) (by omega) (by omega) (by have := cb_0; omega)) rfl rfl (by omega) (by omega) (zcg (b := 32 * f + v + 7) (by omega) (rfl)) ?_
    refine zr_if_le X 34 dX2_holderAt_19 (by decide) (fun h19 => ?_) (fun h19 => ?_)
    · refine zr_iinc X 3 (nI (f + 1)) [1, 2, 3, 0] [(0, .ref (ad (1))), (1, .int (nI (v))), (2, .int (z)), (3, .int (nI (f + 1)))] dX2_holderAt_34 rfl (zinc _) (by decide) rfl ?_
      refine zr_goto X 2 dX2_holderAt_37 (by decide) ?_
      exact ih2 (by show zhol (fun f => μ (32 * f + v + 7)) 8 z (f + 1) = -5; simp only [zhol]; rw [if_pos hP2, if_pos h19])
    · refine zr_aloadn X 0 dX2_holderAt_22 rfl ?_
      refine zr_iloadn X 1 dX2_holderAt_23 rfl ?_
      refine zr_iloadn X 3 dX2_holderAt_24 rfl ?_
      refine zr_dVi (C := RX2) (ci := 2) [.int (nI (v)), .int (nI (f))] [] X (zK_ok A D tc tF tL tM) (d_holdersAhead E μ (v := v) (by omega) (f := f) (by omega)) k_500 k_501 k_502 k_2 k_503 hdX2_holdersAhead ⟨rfl, rfl⟩ ⟨Nat.le_of_ble_eq_true rfl, Nat.le_of_ble_eq_true rfl⟩ (by omega) (sc_st (j := 0) (by omega) (by have := cb_0; omega)) rfl rfl rfl (Nat.le_of_ble_eq_true rfl) dX2_holderAt_25 ?_
      refine zr_iloadn X 2 dX2_holderAt_28 rfl ?_
      refine zr_icmp_ne X 34 dX2_holderAt_29 (by decide) (fun h29 => ?_) (fun h29 => ?_)
      · refine zr_iinc X 3 (nI (f + 1)) [1, 2, 3, 0] [(0, .ref (ad (1))), (1, .int (nI (v))), (2, .int (z)), (3, .int (nI (f + 1)))] dX2_holderAt_34 rfl (zinc _) (by decide) rfl ?_
        refine zr_goto X 2 dX2_holderAt_37 (by decide) ?_
        exact ih2 (by show zhol (fun f => μ (32 * f + v + 7)) 8 z (f + 1) = -5; simp only [zhol]; rw [if_pos hP2, if_neg h19, if_neg h29])
      · refine zr_iloadn X 3 dX2_holderAt_32 rfl ?_
        exact zr_iret X dX2_holderAt_33 ⟨by have := zhol_stay (g := (fun f => μ (32 * f + v + 7))) (c := 8) (x := z) (i := f) (by omega) (by simp only [zhol]; rw [if_pos hP2, if_neg h19, if_pos h29]) (8 - (f + 1)); rw [show f + 1 + (8 - (f + 1)) = 8 by omega] at this; exact this.symm, rfl⟩

set_option maxHeartbeats 4000000 in
set_option maxRecDepth 100000 in
theorem d_allDue {l : Launch} {D : va_G} {tc : Nat → ClassId} {ad : Nat → Nat} {A : Nat → Prop} {tF tL tM : Nat} (E : zN 299 A ad) (μ : Nat → Int32)  : zMi l yX2_allDue cX2_allDue 6 (some .int) (zrm 1) (zK A D tc tF tL tM) A D vwCl tc ad 299 shC [.ref (ad (1))] μ (fun r u => r = zsum (fun f => μ (32 * f + 36)) 8 ∧ u = μ) := by
  refine zM_of RX2 [(0, .ref (ad (1)))] (zK_ok A D tc tF tL tM) E.1 E.2 owC_ok (by decide +kernel) rfl (Nat.le_of_ble_eq_true rfl) rfl ?_
  intro pP eE sS mM aS bL mT cO X
  refine zr_iconst X (nI (0)) dX2_allDue_0 (by decide +kernel) ?_
  refine zr_istoren X [1, 0] [(0, .ref (ad (1))), (1, .int (nI (0)))] dX2_allDue_1 (by decide) rfl ?_
  refine zr_aloadn X 0 dX2_allDue_2 rfl ?_
  refine zr_get X (ci := 2) (q := 3) (zR _) (.ref (ad (3))) dX2_allDue_3 (by omega) (sc_st (j := 0) (by omega) (by have := cb_0; omega)) rfl inX2 (by decide) rfl (zvR (by have := cb_0; omega)) rfl k_88 ?_
  refine zr_astoren X [1, 2, 0] [(0, .ref (ad (1))), (1, .int (nI (0))), (2, .ref (ad (3)))] dX2_allDue_6 (by decide) rfl ?_
  refine zr_aloadn X 2 dX2_allDue_7 rfl ?_
  refine zr_alenQ X 2 (nI (8)) dX2_allDue_8 (by omega) (sc_firms (j := 0) (by omega) (by have := cb_0; omega)) rfl (by decide +kernel) ?_
  refine zr_istoren X [1, 2, 3, 0] [(0, .ref (ad (1))), (1, .int (nI (0))), (2, .ref (ad (3))), (3, .int (nI (8)))] dX2_allDue_9 (by decide) rfl ?_
  refine zr_iconst X (nI (0)) dX2_allDue_10 (by decide +kernel) ?_
  refine zr_istore X [1, 2, 3, 4, 0] [(0, .ref (ad (1))), (1, .int (nI (0))), (2, .ref (ad (3))), (3, .int (nI (8))), (4, .int (nI (0)))] dX2_allDue_11 (by decide) rfl ?_
  refine zr_for X (8) (fun i => μ) (fun i => [(0, .ref (ad (1))), (1, .int (zsum (fun f => μ (32 * f + 36)) (i))), (2, .ref (ad (3))), (3, .int (nI (8))), (4, .int (nI (i)))]) [] (rfl) rfl ?_ ?_
  · refine zr_iload X 4 dX2_allDue_13 rfl ?_
    refine zr_iloadn X 3 dX2_allDue_15 rfl ?_
    refine zr_icmp_ge X 39 dX2_allDue_16 (by decide) (fun _ => ?_) (fun q => absurd (zq_le (by omega) (by omega)) q)
    refine zr_iloadn X 1 dX2_allDue_39 rfl ?_
    exact zr_iret X dX2_allDue_40 ⟨rfl, rfl⟩
  · intro i hi ih13
    refine zr_iload X 4 dX2_allDue_13 rfl ?_
    refine zr_iloadn X 3 dX2_allDue_15 rfl ?_
    refine zr_icmp_ge X 39 dX2_allDue_16 (by decide) (fun q => absurd q (nI_ge (by omega) (by omega))) (fun _ => ?_)
    refine zr_aloadn X 2 dX2_allDue_19 rfl ?_
    refine zr_iload X 4 dX2_allDue_20 rfl ?_
    refine zr_aald X (j := i) 2 (4 * i + 4) dX2_allDue_22 (by omega) (sc_firms (j := 0) (by omega) (by have := cb_0; omega)) rfl rfl (by simp) (zks (by omega) (by have := cb_0; omega)) ?_
    refine zr_astore X [1, 2, 3, 4, 5, 0] [(0, .ref (ad (1))), (1, .int (zsum (fun f => μ (32 * f + 36)) (i))), (2, .ref (ad (3))), (3, .int (nI (8))), (4, .int (nI (i))), (5, .ref (ad (4 * i + 4)))] dX2_allDue_23 (by decide) rfl ?_
    refine zr_iloadn X 1 dX2_allDue_25 rfl ?_
    refine zr_aload X 5 dX2_allDue_26 rfl ?_
    refine zr_get X (ci := 0) (q := 6) zI (.int (μ (32 * i + 36))) dX2_allDue_28 (by omega) (sc_firm (j := 0) (i := i) (by omega) (by omega) (by have := cb_0; omega)) rfl inX0 (by decide) rfl (congrArg Value.int (zcg (by omega) (rfl))) rfl k_57 ?_
    refine zr_iadd X ((zsum (fun f => μ (32 * f + 36)) (i)) + (μ (32 * i + 36))) dX2_allDue_31 rfl ?_
    refine zr_istoren X [1, 0, 2, 3, 4, 5] [(0, .ref (ad (1))), (1, .int ((zsum (fun f => μ (32 * f + 36)) (i)) + (μ (32 * i + 36)))), (2, .ref (ad (3))), (3, .int (nI (8))), (4, .int (nI (i))), (5, .ref (ad (4 * i + 4)))] dX2_allDue_32 (by decide) rfl ?_
    refine zr_iinc X 4 (nI (i + 1)) [1, 2, 3, 4, 0, 5] [(0, .ref (ad (1))), (1, .int ((zsum (fun f => μ (32 * f + 36)) (i)) + (μ (32 * i + 36)))), (2, .ref (ad (3))), (3, .int (nI (8))), (4, .int (nI (i + 1))), (5, .ref (ad (4 * i + 4)))] dX2_allDue_33 rfl (zinc _) (by decide) rfl ?_
    refine zr_goto X 13 dX2_allDue_36 (by decide) ?_
    refine zr_drop X [0, 1, 2, 3, 4] [(0, .ref (ad (1))), (1, .int ((zsum (fun f => μ (32 * f + 36)) (i)) + (μ (32 * i + 36)))), (2, .ref (ad (3))), (3, .int (nI (8))), (4, .int (nI (i + 1)))] rfl ?_
    exact ih13

set_option maxHeartbeats 4000000 in
set_option maxRecDepth 100000 in
theorem d_allFines {l : Launch} {D : va_G} {tc : Nat → ClassId} {ad : Nat → Nat} {A : Nat → Prop} {tF tL tM : Nat} (E : zN 299 A ad) (μ : Nat → Int32)  : zMi l yX2_allFines cX2_allFines 6 (some .int) (zrm 1) (zK A D tc tF tL tM) A D vwCl tc ad 299 shC [.ref (ad (1))] μ (fun r u => r = zsum (fun f => μ (32 * f + 38)) 8 ∧ u = μ) := by
  refine zM_of RX2 [(0, .ref (ad (1)))] (zK_ok A D tc tF tL tM) E.1 E.2 owC_ok (by decide +kernel) rfl (Nat.le_of_ble_eq_true rfl) rfl ?_
  intro pP eE sS mM aS bL mT cO X
  refine zr_iconst X (nI (0)) dX2_allFines_0 (by decide +kernel) ?_
  refine zr_istoren X [1, 0] [(0, .ref (ad (1))), (1, .int (nI (0)))] dX2_allFines_1 (by decide) rfl ?_
  refine zr_aloadn X 0 dX2_allFines_2 rfl ?_
  refine zr_get X (ci := 2) (q := 3) (zR _) (.ref (ad (3))) dX2_allFines_3 (by omega) (sc_st (j := 0) (by omega) (by have := cb_0; omega)) rfl inX2 (by decide) rfl (zvR (by have := cb_0; omega)) rfl k_88 ?_
  refine zr_astoren X [1, 2, 0] [(0, .ref (ad (1))), (1, .int (nI (0))), (2, .ref (ad (3)))] dX2_allFines_6 (by decide) rfl ?_
  refine zr_aloadn X 2 dX2_allFines_7 rfl ?_
  refine zr_alenQ X 2 (nI (8)) dX2_allFines_8 (by omega) (sc_firms (j := 0) (by omega) (by have := cb_0; omega)) rfl (by decide +kernel) ?_
  refine zr_istoren X [1, 2, 3, 0] [(0, .ref (ad (1))), (1, .int (nI (0))), (2, .ref (ad (3))), (3, .int (nI (8)))] dX2_allFines_9 (by decide) rfl ?_
  refine zr_iconst X (nI (0)) dX2_allFines_10 (by decide +kernel) ?_
  refine zr_istore X [1, 2, 3, 4, 0] [(0, .ref (ad (1))), (1, .int (nI (0))), (2, .ref (ad (3))), (3, .int (nI (8))), (4, .int (nI (0)))] dX2_allFines_11 (by decide) rfl ?_
  refine zr_for X (8) (fun i => μ) (fun i => [(0, .ref (ad (1))), (1, .int (zsum (fun f => μ (32 * f + 38)) (i))), (2, .ref (ad (3))), (3, .int (nI (8))), (4, .int (nI (i)))]) [] (rfl) rfl ?_ ?_
  · refine zr_iload X 4 dX2_allFines_13 rfl ?_
    refine zr_iloadn X 3 dX2_allFines_15 rfl ?_
    refine zr_icmp_ge X 39 dX2_allFines_16 (by decide) (fun _ => ?_) (fun q => absurd (zq_le (by omega) (by omega)) q)
    refine zr_iloadn X 1 dX2_allFines_39 rfl ?_
    exact zr_iret X dX2_allFines_40 ⟨rfl, rfl⟩
  · intro i hi ih13
    refine zr_iload X 4 dX2_allFines_13 rfl ?_
    refine zr_iloadn X 3 dX2_allFines_15 rfl ?_
    refine zr_icmp_ge X 39 dX2_allFines_16 (by decide) (fun q => absurd q (nI_ge (by omega) (by omega))) (fun _ => ?_)
    refine zr_aloadn X 2 dX2_allFines_19 rfl ?_
    refine zr_iload X 4 dX2_allFines_20 rfl ?_
    refine zr_aald X (j := i) 2 (4 * i + 4) dX2_allFines_22 (by omega) (sc_firms (j := 0) (by omega) (by have := cb_0; omega)) rfl rfl (by simp) (zks (by omega) (by have := cb_0; omega)) ?_
    refine zr_astore X [1, 2, 3, 4, 5, 0] [(0, .ref (ad (1))), (1, .int (zsum (fun f => μ (32 * f + 38)) (i))), (2, .ref (ad (3))), (3, .int (nI (8))), (4, .int (nI (i))), (5, .ref (ad (4 * i + 4)))] dX2_allFines_23 (by decide) rfl ?_
    refine zr_iloadn X 1 dX2_allFines_25 rfl ?_
    refine zr_aload X 5 dX2_allFines_26 rfl ?_
    refine zr_get X (ci := 0) (q := 8) zI (.int (μ (32 * i + 38))) dX2_allFines_28 (by omega) (sc_firm (j := 0) (i := i) (by omega) (by omega) (by have := cb_0; omega)) rfl inX0 (by decide) rfl (congrArg Value.int (zcg (by omega) (rfl))) rfl k_60 ?_
    refine zr_iadd X ((zsum (fun f => μ (32 * f + 38)) (i)) + (μ (32 * i + 38))) dX2_allFines_31 rfl ?_
    refine zr_istoren X [1, 0, 2, 3, 4, 5] [(0, .ref (ad (1))), (1, .int ((zsum (fun f => μ (32 * f + 38)) (i)) + (μ (32 * i + 38)))), (2, .ref (ad (3))), (3, .int (nI (8))), (4, .int (nI (i))), (5, .ref (ad (4 * i + 4)))] dX2_allFines_32 (by decide) rfl ?_
    refine zr_iinc X 4 (nI (i + 1)) [1, 2, 3, 4, 0, 5] [(0, .ref (ad (1))), (1, .int ((zsum (fun f => μ (32 * f + 38)) (i)) + (μ (32 * i + 38)))), (2, .ref (ad (3))), (3, .int (nI (8))), (4, .int (nI (i + 1))), (5, .ref (ad (4 * i + 4)))] dX2_allFines_33 rfl (zinc _) (by decide) rfl ?_
    refine zr_goto X 13 dX2_allFines_36 (by decide) ?_
    refine zr_drop X [0, 1, 2, 3, 4] [(0, .ref (ad (1))), (1, .int ((zsum (fun f => μ (32 * f + 38)) (i)) + (μ (32 * i + 38)))), (2, .ref (ad (3))), (3, .int (nI (8))), (4, .int (nI (i + 1)))] rfl ?_
    exact ih13

set_option maxHeartbeats 4000000 in
set_option maxRecDepth 100000 in
theorem d_allHeld {l : Launch} {D : va_G} {tc : Nat → ClassId} {ad : Nat → Nat} {A : Nat → Prop} {tF tL tM : Nat} (E : zN 299 A ad) (μ : Nat → Int32)  : zMi l yX2_allHeld cX2_allHeld 6 (some .int) (zrm 2) (zK A D tc tF tL tM) A D vwCl tc ad 299 shC [.ref (ad (1))] μ (fun r u => r = zsum (fun f => zsum (fun v => μ (32 * f + v + 7)) 20) 8 ∧ u = μ) := by
  refine zM_of RX2 [(0, .ref (ad (1)))] (zK_ok A D tc tF tL tM) E.1 E.2 owC_ok (by decide +kernel) rfl (Nat.le_of_ble_eq_true rfl) rfl ?_
  intro pP eE sS mM aS bL mT cO X
  refine zr_iconst X (nI (0)) dX2_allHeld_0 (by decide +kernel) ?_
  refine zr_istoren X [1, 0] [(0, .ref (ad (1))), (1, .int (nI (0)))] dX2_allHeld_1 (by decide) rfl ?_
  refine zr_aloadn X 0 dX2_allHeld_2 rfl ?_
  refine zr_get X (ci := 2) (q := 3) (zR _) (.ref (ad (3))) dX2_allHeld_3 (by omega) (sc_st (j := 0) (by omega) (by have := cb_0; omega)) rfl inX2 (by decide) rfl (zvR (by have := cb_0; omega)) rfl k_88 ?_
  refine zr_astoren X [1, 2, 0] [(0, .ref (ad (1))), (1, .int (nI (0))), (2, .ref (ad (3)))] dX2_allHeld_6 (by decide) rfl ?_
  refine zr_aloadn X 2 dX2_allHeld_7 rfl ?_
  refine zr_alenQ X 2 (nI (8)) dX2_allHeld_8 (by omega) (sc_firms (j := 0) (by omega) (by have := cb_0; omega)) rfl (by decide +kernel) ?_
  refine zr_istoren X [1, 2, 3, 0] [(0, .ref (ad (1))), (1, .int (nI (0))), (2, .ref (ad (3))), (3, .int (nI (8)))] dX2_allHeld_9 (by decide) rfl ?_
  refine zr_iconst X (nI (0)) dX2_allHeld_10 (by decide +kernel) ?_
  refine zr_istore X [1, 2, 3, 4, 0] [(0, .ref (ad (1))), (1, .int (nI (0))), (2, .ref (ad (3))), (3, .int (nI (8))), (4, .int (nI (0)))] dX2_allHeld_11 (by decide) rfl ?_
  refine zr_for X (8) (fun i => μ) (fun i => [(0, .ref (ad (1))), (1, .int (zsum (fun f => zsum (fun v => μ (32 * f + v + 7)) 20) (i))), (2, .ref (ad (3))), (3, .int (nI (8))), (4, .int (nI (i)))]) [] (rfl) rfl ?_ ?_
  · refine zr_iload X 4 dX2_allHeld_13 rfl ?_
    refine zr_iloadn X 3 dX2_allHeld_15 rfl ?_
    refine zr_icmp_ge X 39 dX2_allHeld_16 (by decide) (fun _ => ?_) (fun q => absurd (zq_le (by omega) (by omega)) q)
    refine zr_iloadn X 1 dX2_allHeld_39 rfl ?_
    exact zr_iret X dX2_allHeld_40 ⟨rfl, rfl⟩
  · intro i hi ih13
    refine zr_iload X 4 dX2_allHeld_13 rfl ?_
    refine zr_iloadn X 3 dX2_allHeld_15 rfl ?_
    refine zr_icmp_ge X 39 dX2_allHeld_16 (by decide) (fun q => absurd q (nI_ge (by omega) (by omega))) (fun _ => ?_)
    refine zr_aloadn X 2 dX2_allHeld_19 rfl ?_
    refine zr_iload X 4 dX2_allHeld_20 rfl ?_
    refine zr_aald X (j := i) 2 (4 * i + 4) dX2_allHeld_22 (by omega) (sc_firms (j := 0) (by omega) (by have := cb_0; omega)) rfl rfl (by simp) (zks (by omega) (by have := cb_0; omega)) ?_
    refine zr_astore X [1, 2, 3, 4, 5, 0] [(0, .ref (ad (1))), (1, .int (zsum (fun f => zsum (fun v => μ (32 * f + v + 7)) 20) (i))), (2, .ref (ad (3))), (3, .int (nI (8))), (4, .int (nI (i))), (5, .ref (ad (4 * i + 4)))] dX2_allHeld_23 (by decide) rfl ?_
    refine zr_iloadn X 1 dX2_allHeld_25 rfl ?_
    refine zr_aload X 5 dX2_allHeld_26 rfl ?_
    refine zr_dVi (C := RX0) (ci := 0) [] [.int (zsum (fun f => zsum (fun v => μ (32 * f + v + 7)) 20) (i))] X (zK_ok A D tc tF tL tM) (d_allowances E μ (f := i) (by omega)) k_524 k_436 k_437 k_3 k_438 hdX0_allowances ⟨rfl, rfl⟩ ⟨Nat.le_of_ble_eq_true rfl, Nat.le_of_ble_eq_true rfl⟩ (by omega) (sc_firm (j := 0) (i := i) (by omega) (by omega) (by have := cb_0; omega)) rfl rfl rfl (Nat.le_of_ble_eq_true rfl) dX2_allHeld_28 ?_
    refine zr_iadd X ((zsum (fun f => zsum (fun v => μ (32 * f + v + 7)) 20) (i)) + (zsum (fun v => μ (32 * i + v + 7)) 20)) dX2_allHeld_31 rfl ?_
    refine zr_istoren X [1, 0, 2, 3, 4, 5] [(0, .ref (ad (1))), (1, .int ((zsum (fun f => zsum (fun v => μ (32 * f + v + 7)) 20) (i)) + (zsum (fun v => μ (32 * i + v + 7)) 20))), (2, .ref (ad (3))), (3, .int (nI (8))), (4, .int (nI (i))), (5, .ref (ad (4 * i + 4)))] dX2_allHeld_32 (by decide) rfl ?_
    refine zr_iinc X 4 (nI (i + 1)) [1, 2, 3, 4, 0, 5] [(0, .ref (ad (1))), (1, .int ((zsum (fun f => zsum (fun v => μ (32 * f + v + 7)) 20) (i)) + (zsum (fun v => μ (32 * i + v + 7)) 20))), (2, .ref (ad (3))), (3, .int (nI (8))), (4, .int (nI (i + 1))), (5, .ref (ad (4 * i + 4)))] dX2_allHeld_33 rfl (zinc _) (by decide) rfl ?_
    refine zr_goto X 13 dX2_allHeld_36 (by decide) ?_
    refine zr_drop X [0, 1, 2, 3, 4] [(0, .ref (ad (1))), (1, .int ((zsum (fun f => zsum (fun v => μ (32 * f + v + 7)) 20) (i)) + (zsum (fun v => μ (32 * i + v + 7)) 20))), (2, .ref (ad (3))), (3, .int (nI (8))), (4, .int (nI (i + 1)))] rfl ?_
    exact ih13

set_option maxHeartbeats 4000000 in
set_option maxRecDepth 100000 in
theorem d_allLost {l : Launch} {D : va_G} {tc : Nat → ClassId} {ad : Nat → Nat} {A : Nat → Prop} {tF tL tM : Nat} (E : zN 299 A ad) (μ : Nat → Int32)  : zMi l yX2_allLost cX2_allLost 6 (some .int) (zrm 1) (zK A D tc tF tL tM) A D vwCl tc ad 299 shC [.ref (ad (1))] μ (fun r u => r = zsum (fun v => μ (v + 323)) 20 ∧ u = μ) := by
  refine zM_of RX2 [(0, .ref (ad (1)))] (zK_ok A D tc tF tL tM) E.1 E.2 owC_ok (by decide +kernel) rfl (Nat.le_of_ble_eq_true rfl) rfl ?_
  intro pP eE sS mM aS bL mT cO X
  refine zr_iconst X (nI (0)) dX2_allLost_0 (by decide +kernel) ?_
  refine zr_istoren X [1, 0] [(0, .ref (ad (1))), (1, .int (nI (0)))] dX2_allLost_1 (by decide) rfl ?_
  refine zr_aloadn X 0 dX2_allLost_2 rfl ?_
  refine zr_get X (ci := 2) (q := 7) (zR _) (.ref (ad (39))) dX2_allLost_3 (by omega) (sc_st (j := 0) (by omega) (by have := cb_0; omega)) rfl inX2 (by decide) rfl (zvR (by have := cb_0; omega)) rfl k_96 ?_
  refine zr_astoren X [1, 2, 0] [(0, .ref (ad (1))), (1, .int (nI (0))), (2, .ref (ad (39)))] dX2_allLost_6 (by decide) rfl ?_
  refine zr_aloadn X 2 dX2_allLost_7 rfl ?_
  refine zr_alenI X 0 (nI (20)) dX2_allLost_8 (by omega) (sc_los (j := 0) (by omega) (by have := cb_0; omega)) rfl rfl ?_
  refine zr_istoren X [1, 2, 3, 0] [(0, .ref (ad (1))), (1, .int (nI (0))), (2, .ref (ad (39))), (3, .int (nI (20)))] dX2_allLost_9 (by decide) rfl ?_
  refine zr_iconst X (nI (0)) dX2_allLost_10 (by decide +kernel) ?_
  refine zr_istore X [1, 2, 3, 4, 0] [(0, .ref (ad (1))), (1, .int (nI (0))), (2, .ref (ad (39))), (3, .int (nI (20))), (4, .int (nI (0)))] dX2_allLost_11 (by decide) rfl ?_
  refine zr_for X (20) (fun i => μ) (fun i => [(0, .ref (ad (1))), (1, .int (zsum (fun v => μ (v + 323)) (i))), (2, .ref (ad (39))), (3, .int (nI (20))), (4, .int (nI (i)))]) [] (rfl) rfl ?_ ?_
  · refine zr_iload X 4 dX2_allLost_13 rfl ?_
    refine zr_iloadn X 3 dX2_allLost_15 rfl ?_
    refine zr_icmp_ge X 36 dX2_allLost_16 (by decide) (fun _ => ?_) (fun q => absurd (zq_le (by omega) (by omega)) q)
    refine zr_iloadn X 1 dX2_allLost_36 rfl ?_
    exact zr_iret X dX2_allLost_37 ⟨rfl, rfl⟩
  · intro i hi ih13
    refine zr_iload X 4 dX2_allLost_13 rfl ?_
    refine zr_iloadn X 3 dX2_allLost_15 rfl ?_
    refine zr_icmp_ge X 36 dX2_allLost_16 (by decide) (fun q => absurd q (nI_ge (by omega) (by omega))) (fun _ => ?_)
    refine zr_aloadn X 2 dX2_allLost_19 rfl ?_
    refine zr_iload X 4 dX2_allLost_20 rfl ?_
    refine zr_iald X (j := i) 0 (μ (i + 323)) dX2_allLost_22 (by omega) (sc_los (j := 0) (by omega) (by have := cb_0; omega)) rfl rfl (by omega) (by omega) (zcg (b := i + 323) (by omega) (rfl)) ?_
    refine zr_istore X [1, 2, 3, 4, 5, 0] [(0, .ref (ad (1))), (1, .int (zsum (fun v => μ (v + 323)) (i))), (2, .ref (ad (39))), (3, .int (nI (20))), (4, .int (nI (i))), (5, .int (μ (i + 323)))] dX2_allLost_23 (by decide) rfl ?_
    refine zr_iloadn X 1 dX2_allLost_25 rfl ?_
    refine zr_iload X 5 dX2_allLost_26 rfl ?_
    refine zr_iadd X ((zsum (fun v => μ (v + 323)) (i)) + (μ (i + 323))) dX2_allLost_28 rfl ?_
    refine zr_istoren X [1, 0, 2, 3, 4, 5] [(0, .ref (ad (1))), (1, .int ((zsum (fun v => μ (v + 323)) (i)) + (μ (i + 323)))), (2, .ref (ad (39))), (3, .int (nI (20))), (4, .int (nI (i))), (5, .int (μ (i + 323)))] dX2_allLost_29 (by decide) rfl ?_
    refine zr_iinc X 4 (nI (i + 1)) [1, 2, 3, 4, 0, 5] [(0, .ref (ad (1))), (1, .int ((zsum (fun v => μ (v + 323)) (i)) + (μ (i + 323)))), (2, .ref (ad (39))), (3, .int (nI (20))), (4, .int (nI (i + 1))), (5, .int (μ (i + 323)))] dX2_allLost_30 rfl (zinc _) (by decide) rfl ?_
    refine zr_goto X 13 dX2_allLost_33 (by decide) ?_
    refine zr_drop X [0, 1, 2, 3, 4] [(0, .ref (ad (1))), (1, .int ((zsum (fun v => μ (v + 323)) (i)) + (μ (i + 323)))), (2, .ref (ad (39))), (3, .int (nI (20))), (4, .int (nI (i + 1)))] rfl ?_
    exact ih13

set_option maxHeartbeats 4000000 in
set_option maxRecDepth 100000 in
theorem d_monthsUntilDeadline {l : Launch} {D : va_G} {tc : Nat → ClassId} {ad : Nat → Nat} {A : Nat → Prop} {tF tL tM : Nat} (E : zN 299 A ad) (μ : Nat → Int32) {m : Nat} (hm : μ 0 = nI m) (hm2 : m < 240) {y : Nat} (hy : m / 12 = y)  : zMi l yX2_monthsUntilDeadline cX2_monthsUntilDeadline 3 (some .int) (zrm 2) (zK A D tc tF tL tM) A D vwCl tc ad 299 shC [.ref (ad (1))] μ (fun r u => r = nI (if m % 12 < 4 ∧ 0 < y then 4 - m % 12 else 16 - m % 12) ∧ u = μ) := by
  refine zM_of RX2 [(0, .ref (ad (1)))] (zK_ok A D tc tF tL tM) E.1 E.2 owC_ok (by decide +kernel) rfl (Nat.le_of_ble_eq_true rfl) rfl ?_
  intro pP eE sS mM aS bL mT cO X
  refine zr_aloadn X 0 dX2_monthsUntilDeadline_0 rfl ?_
  refine zr_get X (ci := 2) (q := 0) zI (.int (nI (m))) dX2_monthsUntilDeadline_1 (by omega) (sc_st (j := 0) (by omega) (by have := cb_0; omega)) rfl inX2 (by decide) rfl (congrArg Value.int (hm)) rfl k_82 ?_
  refine zr_bipush X (nI (12)) dX2_monthsUntilDeadline_4 (by decide +kernel) ?_
  refine zr_irem X (nI ((m % 12))) dX2_monthsUntilDeadline_6 (by decide +kernel) (pk_rem (by omega) (by omega) (by omega)) ?_
  refine zr_istoren X [1, 0] [(0, .ref (ad (1))), (1, .int (nI ((m % 12))))] dX2_monthsUntilDeadline_7 (by decide) rfl ?_
  refine zr_iloadn X 1 dX2_monthsUntilDeadline_8 rfl ?_
  refine zr_iconst X (nI (4)) dX2_monthsUntilDeadline_9 (by decide +kernel) ?_
  refine zr_icmp_ge X 24 dX2_monthsUntilDeadline_10 (by decide) (fun h10 => ?_) (fun h10 => ?_)
  · have h10 := (nI_leI (by omega) (by omega)).mp h10
    refine zr_iconst X (nI (0)) dX2_monthsUntilDeadline_24 (by decide +kernel) ?_
    refine zr_istoren X [1, 2, 0] [(0, .ref (ad (1))), (1, .int (nI ((m % 12)))), (2, .int (nI (0)))] dX2_monthsUntilDeadline_25 (by decide) rfl ?_
    refine zr_iloadn X 2 dX2_monthsUntilDeadline_26 rfl ?_
    refine zr_if_eq X 36 dX2_monthsUntilDeadline_27 (by decide) (fun _ => ?_) (fun q => absurd (zq_eq0 (by omega)) q)
    refine zr_bipush X (nI (16)) dX2_monthsUntilDeadline_36 (by decide +kernel) ?_
    refine zr_iloadn X 1 dX2_monthsUntilDeadline_38 rfl ?_
    refine zr_isub X (nI (16 - (m % 12))) dX2_monthsUntilDeadline_39 ((pk_sub (by omega)).trans (congrArg nI (by omega))) ?_
    exact zr_iret X dX2_monthsUntilDeadline_40 ⟨by rw [if_neg (by omega)], rfl⟩
  · have h10 : ¬ 4 ≤ m % 12 := fun q => h10 (nI_le q (by omega))
    refine zr_aloadn X 0 dX2_monthsUntilDeadline_13 rfl ?_
    refine zr_dVi (C := RX2) (ci := 2) [] [] X (zK_ok A D tc tF tL tM) (d_year E μ (hm) hm2 hy) k_373 k_281 k_282 k_2 k_283 hdX2_year ⟨rfl, rfl⟩ ⟨Nat.le_of_ble_eq_true rfl, Nat.le_of_ble_eq_true rfl⟩ (by omega) (sc_st (j := 0) (by omega) (by have := cb_0; omega)) rfl rfl rfl (Nat.le_of_ble_eq_true rfl) dX2_monthsUntilDeadline_14 ?_
    refine zr_if_eq X 24 dX2_monthsUntilDeadline_17 (by decide) (fun h17 => ?_) (fun h17 => ?_)
    · have h17 : y = 0 := by rw [← nI_0] at h17; exact (nI_eq (by omega) (by omega)).mp h17
      refine zr_iconst X (nI (0)) dX2_monthsUntilDeadline_24 (by decide +kernel) ?_
      refine zr_istoren X [1, 2, 0] [(0, .ref (ad (1))), (1, .int (nI ((m % 12)))), (2, .int (nI (0)))] dX2_monthsUntilDeadline_25 (by decide) rfl ?_
      refine zr_iloadn X 2 dX2_monthsUntilDeadline_26 rfl ?_
      refine zr_if_eq X 36 dX2_monthsUntilDeadline_27 (by decide) (fun _ => ?_) (fun q => absurd (zq_eq0 (by omega)) q)
      refine zr_bipush X (nI (16)) dX2_monthsUntilDeadline_36 (by decide +kernel) ?_
      refine zr_iloadn X 1 dX2_monthsUntilDeadline_38 rfl ?_
      refine zr_isub X (nI (16 - (m % 12))) dX2_monthsUntilDeadline_39 ((pk_sub (by omega)).trans (congrArg nI (by omega))) ?_
      exact zr_iret X dX2_monthsUntilDeadline_40 ⟨by rw [if_neg (by omega)], rfl⟩
    · have h17 : ¬ y = 0 := fun q => h17 (by rw [q]; rfl)
      refine zr_iconst X (nI (1)) dX2_monthsUntilDeadline_20 (by decide +kernel) ?_
      refine zr_goto X 25 dX2_monthsUntilDeadline_21 (by decide) ?_
      refine zr_istoren X [1, 2, 0] [(0, .ref (ad (1))), (1, .int (nI ((m % 12)))), (2, .int (nI (1)))] dX2_monthsUntilDeadline_25 (by decide) rfl ?_
      refine zr_iloadn X 2 dX2_monthsUntilDeadline_26 rfl ?_
      refine zr_if_eq X 36 dX2_monthsUntilDeadline_27 (by decide) (fun q => absurd q (nI_ne0 (by omega) (by omega))) (fun _ => ?_)
      refine zr_iconst X (nI (4)) dX2_monthsUntilDeadline_30 (by decide +kernel) ?_
      refine zr_iloadn X 1 dX2_monthsUntilDeadline_31 rfl ?_
      refine zr_isub X (nI (4 - (m % 12))) dX2_monthsUntilDeadline_32 ((pk_sub (by omega)).trans (congrArg nI (by omega))) ?_
      refine zr_goto X 40 dX2_monthsUntilDeadline_33 (by decide) ?_
      exact zr_iret X dX2_monthsUntilDeadline_40 ⟨by rw [if_pos ⟨by omega, by omega⟩], rfl⟩

