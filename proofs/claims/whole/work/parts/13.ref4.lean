set_option maxHeartbeats 4000000 in
set_option maxRecDepth 100000 in
theorem c_heldBy {l : Launch} {D : va_G} {tc : Nat → ClassId} {ad : Nat → Nat} {A : Nat → Prop} {tF tL tM : Nat} (E : zN 6 A ad) (μ : Nat → Int32) {f : Nat} (hf : f < 8)  : zMi l yX6_heldBy cX6_heldBy 4 (some .int) (zrm 2) (zK A D tc tF tL tM) A D vwCl tc ad 6 shR [.ref (ad (0)), .int (nI (f))] μ (fun r u => r = zsum (fun v => μ (32 * f + v + 7)) 20 ∧ u = μ) := by
  refine zM_of RX6 [(0, .ref (ad (0))), (1, .int (nI (f)))] (zK_ok A D tc tF tL tM) E.1 E.2 owR_ok (by decide +kernel) rfl (Nat.le_of_ble_eq_true rfl) rfl ?_
  intro pP eE sS mM aS bL mT cO X
  refine zr_iconst X (nI (0)) dX6_heldBy_0 (by decide +kernel) ?_
  refine zr_istoren X [1, 2, 0] [(0, .ref (ad (0))), (1, .int (nI (f))), (2, .int (nI (0)))] dX6_heldBy_1 (by decide) rfl ?_
  refine zr_iconst X (nI (0)) dX6_heldBy_2 (by decide +kernel) ?_
  refine zr_istoren X [1, 2, 3, 0] [(0, .ref (ad (0))), (1, .int (nI (f))), (2, .int (nI (0))), (3, .int (nI (0)))] dX6_heldBy_3 (by decide) rfl ?_
  refine zr_for X (20) (fun i => μ) (fun i => [(0, .ref (ad (0))), (1, .int (nI (f))), (2, .int (zsum (fun v => μ (32 * f + v + 7)) (i))), (3, .int (nI (i)))]) [] (rfl) rfl ?_ ?_
  · refine zr_iloadn X 3 dX6_heldBy_4 rfl ?_
    refine zr_bipush X (nI (20)) dX6_heldBy_5 (by decide +kernel) ?_
    refine zr_icmp_ge X 31 dX6_heldBy_7 (by decide) (fun _ => ?_) (fun q => absurd (zq_le (by omega) (by omega)) q)
    refine zr_iloadn X 2 dX6_heldBy_31 rfl ?_
    exact zr_iret X dX6_heldBy_32 ⟨rfl, rfl⟩
  · intro i hi ih4
    refine zr_iloadn X 3 dX6_heldBy_4 rfl ?_
    refine zr_bipush X (nI (20)) dX6_heldBy_5 (by decide +kernel) ?_
    refine zr_icmp_ge X 31 dX6_heldBy_7 (by decide) (fun q => absurd q (nI_ge (by omega) (by omega))) (fun _ => ?_)
    refine zr_iloadn X 2 dX6_heldBy_10 rfl ?_
    refine zr_aloadn X 0 dX6_heldBy_11 rfl ?_
    refine zr_get X (ci := 6) (q := 0) (zR _) (.ref (ad (1))) dX6_heldBy_12 (by omega) rfl rfl inX6 (by decide) rfl (zvR rfl) rfl k_539 ?_
    refine zr_iloadn X 1 dX6_heldBy_15 rfl ?_
    refine zr_iconst X (nI (0)) dX6_heldBy_16 (by decide +kernel) ?_
    refine zr_iloadn X 3 dX6_heldBy_17 rfl ?_
    refine zr_iadd X (nI (i)) dX6_heldBy_18 ((nI_add _ _).trans (congrArg nI (by omega))) ?_
    refine zr_dSi [.int (nI (f)), .int (nI (i))] [.ref (ad (1)), .int (zsum (fun v => μ (32 * f + v + 7)) (i))] X (zK_ok A D tc tF tL tM) (zM_i (z1 := nI (32 * f + i + 7)) (c_of E μ (f) (i)) (congrArg nI (by omega))) k_597 k_598 k_7 k_599 hdX6_of ⟨rfl, rfl⟩ ⟨Nat.le_of_ble_eq_true rfl, Nat.le_of_ble_eq_true rfl⟩ rfl rfl (Nat.le_of_ble_eq_true rfl) dX6_heldBy_19 ?_
    refine zr_iald X (j := 32 * f + i + 7) 0 (μ (32 * f + i + 7)) dX6_heldBy_22 (by omega) rfl rfl rfl (by omega) (by omega) (zcg (b := 32 * f + i + 7) (by omega) (rfl)) ?_
    refine zr_iadd X ((zsum (fun v => μ (32 * f + v + 7)) (i)) + (μ (32 * f + i + 7))) dX6_heldBy_23 rfl ?_
    refine zr_istoren X [1, 2, 0, 3] [(0, .ref (ad (0))), (1, .int (nI (f))), (2, .int ((zsum (fun v => μ (32 * f + v + 7)) (i)) + (μ (32 * f + i + 7)))), (3, .int (nI (i)))] dX6_heldBy_24 (by decide) rfl ?_
    refine zr_iinc X 3 (nI (i + 1)) [1, 2, 3, 0] [(0, .ref (ad (0))), (1, .int (nI (f))), (2, .int ((zsum (fun v => μ (32 * f + v + 7)) (i)) + (μ (32 * f + i + 7)))), (3, .int (nI (i + 1)))] dX6_heldBy_25 rfl (zinc _) (by decide) rfl ?_
    refine zr_goto X 4 dX6_heldBy_28 (by decide) ?_
    exact ih4

set_option maxHeartbeats 4000000 in
set_option maxRecDepth 100000 in
theorem c_vintagesOf {l : Launch} {D : va_G} {tc : Nat → ClassId} {ad : Nat → Nat} {A : Nat → Prop} {tF tL tM : Nat} (E : zN 6 A ad) (μ : Nat → Int32) {f : Nat} (hf : f < 8)  : zMi l yX6_vintagesOf cX6_vintagesOf 4 (some .int) (zrm 2) (zK A D tc tF tL tM) A D vwCl tc ad 6 shR [.ref (ad (0)), .int (nI (f))] μ (fun r u => r = nI (zcnt (fun v => μ (32 * f + v + 7)) 20) ∧ u = μ) := by
  refine zM_of RX6 [(0, .ref (ad (0))), (1, .int (nI (f)))] (zK_ok A D tc tF tL tM) E.1 E.2 owR_ok (by decide +kernel) rfl (Nat.le_of_ble_eq_true rfl) rfl ?_
  intro pP eE sS mM aS bL mT cO X
  refine zr_iconst X (nI (0)) dX6_vintagesOf_0 (by decide +kernel) ?_
  refine zr_istoren X [1, 2, 0] [(0, .ref (ad (0))), (1, .int (nI (f))), (2, .int (nI (0)))] dX6_vintagesOf_1 (by decide) rfl ?_
  refine zr_iconst X (nI (0)) dX6_vintagesOf_2 (by decide +kernel) ?_
  refine zr_istoren X [1, 2, 3, 0] [(0, .ref (ad (0))), (1, .int (nI (f))), (2, .int (nI (0))), (3, .int (nI (0)))] dX6_vintagesOf_3 (by decide) rfl ?_
  refine zr_for X (20) (fun i => μ) (fun i => [(0, .ref (ad (0))), (1, .int (nI (f))), (2, .int (nI (zcnt (fun v => μ (32 * f + v + 7)) (i)))), (3, .int (nI (i)))]) [] (rfl) rfl ?_ ?_
  · refine zr_iloadn X 3 dX6_vintagesOf_4 rfl ?_
    refine zr_bipush X (nI (20)) dX6_vintagesOf_5 (by decide +kernel) ?_
    refine zr_icmp_ge X 39 dX6_vintagesOf_7 (by decide) (fun _ => ?_) (fun q => absurd (zq_le (by omega) (by omega)) q)
    refine zr_iloadn X 2 dX6_vintagesOf_39 rfl ?_
    exact zr_iret X dX6_vintagesOf_40 ⟨rfl, rfl⟩
  · intro i hi ih4
    refine zr_iloadn X 3 dX6_vintagesOf_4 rfl ?_
    refine zr_bipush X (nI (20)) dX6_vintagesOf_5 (by decide +kernel) ?_
    refine zr_icmp_ge X 39 dX6_vintagesOf_7 (by decide) (fun q => absurd q (nI_ge (by omega) (by omega))) (fun _ => ?_)
    refine zr_iloadn X 2 dX6_vintagesOf_10 rfl ?_
    refine zr_aloadn X 0 dX6_vintagesOf_11 rfl ?_
    refine zr_get X (ci := 6) (q := 0) (zR _) (.ref (ad (1))) dX6_vintagesOf_12 (by omega) rfl rfl inX6 (by decide) rfl (zvR rfl) rfl k_539 ?_
    refine zr_iloadn X 1 dX6_vintagesOf_15 rfl ?_
    refine zr_iconst X (nI (0)) dX6_vintagesOf_16 (by decide +kernel) ?_
    refine zr_iloadn X 3 dX6_vintagesOf_17 rfl ?_
    refine zr_iadd X (nI (i)) dX6_vintagesOf_18 ((nI_add _ _).trans (congrArg nI (by omega))) ?_
    refine zr_dSi [.int (nI (f)), .int (nI (i))] [.ref (ad (1)), .int (nI (zcnt (fun v => μ (32 * f + v + 7)) (i)))] X (zK_ok A D tc tF tL tM) (zM_i (z1 := nI (32 * f + i + 7)) (c_of E μ (f) (i)) (congrArg nI (by omega))) k_597 k_598 k_7 k_599 hdX6_of ⟨rfl, rfl⟩ ⟨Nat.le_of_ble_eq_true rfl, Nat.le_of_ble_eq_true rfl⟩ rfl rfl (Nat.le_of_ble_eq_true rfl) dX6_vintagesOf_19 ?_
    refine zr_iald X (j := 32 * f + i + 7) 0 (μ (32 * f + i + 7)) dX6_vintagesOf_22 (by omega) rfl rfl rfl (by omega) (by omega) (zcg (b := 32 * f + i + 7) (by omega) (rfl)) ?_
    refine zr_if_le X 30 dX6_vintagesOf_23 (by decide) (fun h23 => ?_) (fun h23 => ?_)
    · refine zr_iconst X (nI (0)) dX6_vintagesOf_30 (by decide +kernel) ?_
      refine zr_iadd X (nI (zcnt (fun v => μ (32 * f + v + 7)) (i))) dX6_vintagesOf_31 ((nI_add _ _).trans (congrArg nI (by omega))) ?_
      refine zr_istoren X [1, 2, 0, 3] [(0, .ref (ad (0))), (1, .int (nI (f))), (2, .int (nI (zcnt (fun v => μ (32 * f + v + 7)) (i)))), (3, .int (nI (i)))] dX6_vintagesOf_32 (by decide) rfl ?_
      refine zr_iinc X 3 (nI (i + 1)) [1, 2, 3, 0] [(0, .ref (ad (0))), (1, .int (nI (f))), (2, .int (nI (zcnt (fun v => μ (32 * f + v + 7)) (i)))), (3, .int (nI (i + 1)))] dX6_vintagesOf_33 rfl (zinc _) (by decide) rfl ?_
      refine zr_goto X 4 dX6_vintagesOf_36 (by decide) ?_
      exact zr_lv X (by simp only [zcnt, Nat.add_zero, if_pos h23]) ih4
    · refine zr_iconst X (nI (1)) dX6_vintagesOf_26 (by decide +kernel) ?_
      refine zr_goto X 31 dX6_vintagesOf_27 (by decide) ?_
      refine zr_iadd X (nI (zcnt (fun v => μ (32 * f + v + 7)) (i) + 1)) dX6_vintagesOf_31 (nI_add _ _) ?_
      refine zr_istoren X [1, 2, 0, 3] [(0, .ref (ad (0))), (1, .int (nI (f))), (2, .int (nI (zcnt (fun v => μ (32 * f + v + 7)) (i) + 1))), (3, .int (nI (i)))] dX6_vintagesOf_32 (by decide) rfl ?_
      refine zr_iinc X 3 (nI (i + 1)) [1, 2, 3, 0] [(0, .ref (ad (0))), (1, .int (nI (f))), (2, .int (nI (zcnt (fun v => μ (32 * f + v + 7)) (i) + 1))), (3, .int (nI (i + 1)))] dX6_vintagesOf_33 rfl (zinc _) (by decide) rfl ?_
      refine zr_goto X 4 dX6_vintagesOf_36 (by decide) ?_
      exact zr_lv X (by simp only [zcnt, Nat.add_zero, if_neg h23]) ih4

set_option maxHeartbeats 4000000 in
set_option maxRecDepth 100000 in
theorem c_extreme0 {l : Launch} {D : va_G} {tc : Nat → ClassId} {ad : Nat → Nat} {A : Nat → Prop} {tF tL tM : Nat} (E : zN 6 A ad) (μ : Nat → Int32) {f : Nat} (hf : f < 8)  : zMi l yX6_extreme cX6_extreme 5 (some .int) (zrm 2) (zK A D tc tF tL tM) A D vwCl tc ad 6 shR [.ref (ad (0)), .int (nI (f)), .int (nI (0))] μ (fun r u => r = zexO (fun v => μ (32 * f + v + 7)) 20 ∧ u = μ) := by
  refine zM_of RX6 [(0, .ref (ad (0))), (1, .int (nI (f))), (2, .int (nI (0)))] (zK_ok A D tc tF tL tM) E.1 E.2 owR_ok (by decide +kernel) rfl (Nat.le_of_ble_eq_true rfl) rfl ?_
  intro pP eE sS mM aS bL mT cO X
  refine zr_bipush X (-5) dX6_extreme_0 (by decide +kernel) ?_
  refine zr_istoren X [1, 2, 3, 0] [(0, .ref (ad (0))), (1, .int (nI (f))), (2, .int (nI (0))), (3, .int (-5))] dX6_extreme_2 (by decide) rfl ?_
  refine zr_iconst X (nI (0)) dX6_extreme_3 (by decide +kernel) ?_
  refine zr_istore X [1, 2, 3, 4, 0] [(0, .ref (ad (0))), (1, .int (nI (f))), (2, .int (nI (0))), (3, .int (-5)), (4, .int (nI (0)))] dX6_extreme_4 (by decide) rfl ?_
  refine zr_for X (20) (fun i => μ) (fun i => [(0, .ref (ad (0))), (1, .int (nI (f))), (2, .int (nI (0))), (3, .int (zexO (fun v => μ (32 * f + v + 7)) (i))), (4, .int (nI (i)))]) [] (rfl) rfl ?_ ?_
  · refine zr_iload X 4 dX6_extreme_6 rfl ?_
    refine zr_bipush X (nI (20)) dX6_extreme_8 (by decide +kernel) ?_
    refine zr_icmp_ge X 52 dX6_extreme_10 (by decide) (fun _ => ?_) (fun q => absurd (zq_le (by omega) (by omega)) q)
    refine zr_iloadn X 3 dX6_extreme_52 rfl ?_
    exact zr_iret X dX6_extreme_53 ⟨rfl, rfl⟩
  · intro i hi ih6
    refine zr_iload X 4 dX6_extreme_6 rfl ?_
    refine zr_bipush X (nI (20)) dX6_extreme_8 (by decide +kernel) ?_
    refine zr_icmp_ge X 52 dX6_extreme_10 (by decide) (fun q => absurd q (nI_ge (by omega) (by omega))) (fun _ => ?_)
    refine zr_aloadn X 0 dX6_extreme_13 rfl ?_
    refine zr_get X (ci := 6) (q := 0) (zR _) (.ref (ad (1))) dX6_extreme_14 (by omega) rfl rfl inX6 (by decide) rfl (zvR rfl) rfl k_539 ?_
    refine zr_iloadn X 1 dX6_extreme_17 rfl ?_
    refine zr_iconst X (nI (0)) dX6_extreme_18 (by decide +kernel) ?_
    refine zr_iload X 4 dX6_extreme_19 rfl ?_
    refine zr_iadd X (nI (i)) dX6_extreme_21 ((nI_add _ _).trans (congrArg nI (by omega))) ?_
    refine zr_dSi [.int (nI (f)), .int (nI (i))] [.ref (ad (1))] X (zK_ok A D tc tF tL tM) (zM_i (z1 := nI (32 * f + i + 7)) (c_of E μ (f) (i)) (congrArg nI (by omega))) k_597 k_598 k_7 k_599 hdX6_of ⟨rfl, rfl⟩ ⟨Nat.le_of_ble_eq_true rfl, Nat.le_of_ble_eq_true rfl⟩ rfl rfl (Nat.le_of_ble_eq_true rfl) dX6_extreme_22 ?_
    refine zr_iald X (j := 32 * f + i + 7) 0 (μ (32 * f + i + 7)) dX6_extreme_25 (by omega) rfl rfl rfl (by omega) (by omega) (zcg (b := 32 * f + i + 7) (by omega) (rfl)) ?_
    refine zr_if_le X 44 dX6_extreme_26 (by decide) (fun h26 => ?_) (fun h26 => ?_)
    · refine zr_iloadn X 3 dX6_extreme_44 rfl ?_
      refine zr_istoren X [1, 2, 3, 0, 4] [(0, .ref (ad (0))), (1, .int (nI (f))), (2, .int (nI (0))), (3, .int (zexO (fun v => μ (32 * f + v + 7)) (i))), (4, .int (nI (i)))] dX6_extreme_45 (by decide) rfl ?_
      refine zr_iinc X 4 (nI (i + 1)) [1, 2, 3, 4, 0] [(0, .ref (ad (0))), (1, .int (nI (f))), (2, .int (nI (0))), (3, .int (zexO (fun v => μ (32 * f + v + 7)) (i))), (4, .int (nI (i + 1)))] dX6_extreme_46 rfl (zinc _) (by decide) rfl ?_
      refine zr_goto X 6 dX6_extreme_49 (by decide) ?_
      exact zr_lv X (by simp only [zexO, if_pos h26]) ih6
    · refine zr_iloadn X 2 dX6_extreme_29 rfl ?_
      refine zr_if_ne X 39 dX6_extreme_30 (by decide) (fun q => absurd (zq_eq0 (by omega)) q) (fun _ => ?_)
      refine zr_iloadn X 3 dX6_extreme_33 rfl ?_
      refine zr_bipush X (-5) dX6_extreme_34 (by decide +kernel) ?_
      refine zr_icmp_ne X 44 dX6_extreme_36 (by decide) (fun h36 => ?_) (fun h36 => ?_)
      · refine zr_iloadn X 3 dX6_extreme_44 rfl ?_
        refine zr_istoren X [1, 2, 3, 0, 4] [(0, .ref (ad (0))), (1, .int (nI (f))), (2, .int (nI (0))), (3, .int (zexO (fun v => μ (32 * f + v + 7)) (i))), (4, .int (nI (i)))] dX6_extreme_45 (by decide) rfl ?_
        refine zr_iinc X 4 (nI (i + 1)) [1, 2, 3, 4, 0] [(0, .ref (ad (0))), (1, .int (nI (f))), (2, .int (nI (0))), (3, .int (zexO (fun v => μ (32 * f + v + 7)) (i))), (4, .int (nI (i + 1)))] dX6_extreme_46 rfl (zinc _) (by decide) rfl ?_
        refine zr_goto X 6 dX6_extreme_49 (by decide) ?_
        exact zr_lv X (by simp only [zexO, if_neg h26, if_neg h36]) ih6
      · refine zr_iload X 4 dX6_extreme_39 rfl ?_
        refine zr_goto X 45 dX6_extreme_41 (by decide) ?_
        refine zr_istoren X [1, 2, 3, 0, 4] [(0, .ref (ad (0))), (1, .int (nI (f))), (2, .int (nI (0))), (3, .int (nI (i))), (4, .int (nI (i)))] dX6_extreme_45 (by decide) rfl ?_
        refine zr_iinc X 4 (nI (i + 1)) [1, 2, 3, 4, 0] [(0, .ref (ad (0))), (1, .int (nI (f))), (2, .int (nI (0))), (3, .int (nI (i))), (4, .int (nI (i + 1)))] dX6_extreme_46 rfl (zinc _) (by decide) rfl ?_
        refine zr_goto X 6 dX6_extreme_49 (by decide) ?_
        exact zr_lv X (by simp only [zexO, if_neg h26, if_pos h36]) ih6

set_option maxHeartbeats 4000000 in
set_option maxRecDepth 100000 in
theorem c_extreme1 {l : Launch} {D : va_G} {tc : Nat → ClassId} {ad : Nat → Nat} {A : Nat → Prop} {tF tL tM : Nat} (E : zN 6 A ad) (μ : Nat → Int32) {f : Nat} (hf : f < 8)  : zMi l yX6_extreme cX6_extreme 5 (some .int) (zrm 2) (zK A D tc tF tL tM) A D vwCl tc ad 6 shR [.ref (ad (0)), .int (nI (f)), .int (nI (1))] μ (fun r u => r = zexW (fun v => μ (32 * f + v + 7)) 20 ∧ u = μ) := by
  refine zM_of RX6 [(0, .ref (ad (0))), (1, .int (nI (f))), (2, .int (nI (1)))] (zK_ok A D tc tF tL tM) E.1 E.2 owR_ok (by decide +kernel) rfl (Nat.le_of_ble_eq_true rfl) rfl ?_
  intro pP eE sS mM aS bL mT cO X
  refine zr_bipush X (-5) dX6_extreme_0 (by decide +kernel) ?_
  refine zr_istoren X [1, 2, 3, 0] [(0, .ref (ad (0))), (1, .int (nI (f))), (2, .int (nI (1))), (3, .int (-5))] dX6_extreme_2 (by decide) rfl ?_
  refine zr_iconst X (nI (0)) dX6_extreme_3 (by decide +kernel) ?_
  refine zr_istore X [1, 2, 3, 4, 0] [(0, .ref (ad (0))), (1, .int (nI (f))), (2, .int (nI (1))), (3, .int (-5)), (4, .int (nI (0)))] dX6_extreme_4 (by decide) rfl ?_
  refine zr_for X (20) (fun i => μ) (fun i => [(0, .ref (ad (0))), (1, .int (nI (f))), (2, .int (nI (1))), (3, .int (zexW (fun v => μ (32 * f + v + 7)) (i))), (4, .int (nI (i)))]) [] (rfl) rfl ?_ ?_
  · refine zr_iload X 4 dX6_extreme_6 rfl ?_
    refine zr_bipush X (nI (20)) dX6_extreme_8 (by decide +kernel) ?_
    refine zr_icmp_ge X 52 dX6_extreme_10 (by decide) (fun _ => ?_) (fun q => absurd (zq_le (by omega) (by omega)) q)
    refine zr_iloadn X 3 dX6_extreme_52 rfl ?_
    exact zr_iret X dX6_extreme_53 ⟨rfl, rfl⟩
  · intro i hi ih6
    refine zr_iload X 4 dX6_extreme_6 rfl ?_
    refine zr_bipush X (nI (20)) dX6_extreme_8 (by decide +kernel) ?_
    refine zr_icmp_ge X 52 dX6_extreme_10 (by decide) (fun q => absurd q (nI_ge (by omega) (by omega))) (fun _ => ?_)
    refine zr_aloadn X 0 dX6_extreme_13 rfl ?_
    refine zr_get X (ci := 6) (q := 0) (zR _) (.ref (ad (1))) dX6_extreme_14 (by omega) rfl rfl inX6 (by decide) rfl (zvR rfl) rfl k_539 ?_
    refine zr_iloadn X 1 dX6_extreme_17 rfl ?_
    refine zr_iconst X (nI (0)) dX6_extreme_18 (by decide +kernel) ?_
    refine zr_iload X 4 dX6_extreme_19 rfl ?_
    refine zr_iadd X (nI (i)) dX6_extreme_21 ((nI_add _ _).trans (congrArg nI (by omega))) ?_
    refine zr_dSi [.int (nI (f)), .int (nI (i))] [.ref (ad (1))] X (zK_ok A D tc tF tL tM) (zM_i (z1 := nI (32 * f + i + 7)) (c_of E μ (f) (i)) (congrArg nI (by omega))) k_597 k_598 k_7 k_599 hdX6_of ⟨rfl, rfl⟩ ⟨Nat.le_of_ble_eq_true rfl, Nat.le_of_ble_eq_true rfl⟩ rfl rfl (Nat.le_of_ble_eq_true rfl) dX6_extreme_22 ?_
    refine zr_iald X (j := 32 * f + i + 7) 0 (μ (32 * f + i + 7)) dX6_extreme_25 (by omega) rfl rfl rfl (by omega) (by omega) (zcg (b := 32 * f + i + 7) (by omega) (rfl)) ?_
    refine zr_if_le X 44 dX6_extreme_26 (by decide) (fun h26 => ?_) (fun h26 => ?_)
    · refine zr_iloadn X 3 dX6_extreme_44 rfl ?_
      refine zr_istoren X [1, 2, 3, 0, 4] [(0, .ref (ad (0))), (1, .int (nI (f))), (2, .int (nI (1))), (3, .int (zexW (fun v => μ (32 * f + v + 7)) (i))), (4, .int (nI (i)))] dX6_extreme_45 (by decide) rfl ?_
      refine zr_iinc X 4 (nI (i + 1)) [1, 2, 3, 4, 0] [(0, .ref (ad (0))), (1, .int (nI (f))), (2, .int (nI (1))), (3, .int (zexW (fun v => μ (32 * f + v + 7)) (i))), (4, .int (nI (i + 1)))] dX6_extreme_46 rfl (zinc _) (by decide) rfl ?_
      refine zr_goto X 6 dX6_extreme_49 (by decide) ?_
      exact zr_lv X (by simp only [zexW, if_pos h26]) ih6
    · refine zr_iloadn X 2 dX6_extreme_29 rfl ?_
      refine zr_if_ne X 39 dX6_extreme_30 (by decide) (fun _ => ?_) (fun q => absurd q (nI_ne0 (by omega) (by omega)))
      refine zr_iload X 4 dX6_extreme_39 rfl ?_
      refine zr_goto X 45 dX6_extreme_41 (by decide) ?_
      refine zr_istoren X [1, 2, 3, 0, 4] [(0, .ref (ad (0))), (1, .int (nI (f))), (2, .int (nI (1))), (3, .int (nI (i))), (4, .int (nI (i)))] dX6_extreme_45 (by decide) rfl ?_
      refine zr_iinc X 4 (nI (i + 1)) [1, 2, 3, 4, 0] [(0, .ref (ad (0))), (1, .int (nI (f))), (2, .int (nI (1))), (3, .int (nI (i))), (4, .int (nI (i + 1)))] dX6_extreme_46 rfl (zinc _) (by decide) rfl ?_
      refine zr_goto X 6 dX6_extreme_49 (by decide) ?_
      exact zr_lv X (by simp only [zexW, if_neg h26]) ih6

set_option maxHeartbeats 4000000 in
set_option maxRecDepth 100000 in
theorem c_stillDue {l : Launch} {D : va_G} {tc : Nat → ClassId} {ad : Nat → Nat} {A : Nat → Prop} {tF tL tM : Nat} (E : zN 6 A ad) (μ : Nat → Int32) {f : Nat} (hf : f < 8)  : zMi l yX6_stillDue cX6_stillDue 4 (some .int) (zrm 4) (zK A D tc tF tL tM) A D vwCl tc ad 6 shR [.ref (ad (0)), .int (nI (f))] μ (fun r u => r = zstill μ f ∧ u = μ) := by
  refine zM_of RX6 [(0, .ref (ad (0))), (1, .int (nI (f)))] (zK_ok A D tc tF tL tM) E.1 E.2 owR_ok (by decide +kernel) rfl (Nat.le_of_ble_eq_true rfl) rfl ?_
  intro pP eE sS mM aS bL mT cO X
  refine zr_aloadn X 0 dX6_stillDue_0 rfl ?_
  refine zr_iloadn X 1 dX6_stillDue_1 rfl ?_
  refine zr_dVi (C := RX6) (ci := 6) [.int (nI (f))] [] X (zK_ok A D tc tF tL tM) (c_heldBy E μ (f := f) (by omega)) k_731 k_733 kp_17 k_7 k_734 hdX6_heldBy ⟨rfl, rfl⟩ ⟨Nat.le_of_ble_eq_true rfl, Nat.le_of_ble_eq_true rfl⟩ (by omega) rfl rfl rfl rfl (Nat.le_of_ble_eq_true rfl) dX6_stillDue_2 ?_
  refine zr_istoren X [1, 2, 0] [(0, .ref (ad (0))), (1, .int (nI (f))), (2, .int (zsum (fun v => μ (32 * f + v + 7)) 20))] dX6_stillDue_5 (by decide) rfl ?_
  refine zr_iconst X (nI (0)) dX6_stillDue_6 (by decide +kernel) ?_
  refine zr_istoren X [1, 2, 3, 0] [(0, .ref (ad (0))), (1, .int (nI (f))), (2, .int (zsum (fun v => μ (32 * f + v + 7)) 20)), (3, .int (nI (0)))] dX6_stillDue_7 (by decide) rfl ?_
  refine zr_for X (3) (fun i => μ) (fun i => [(0, .ref (ad (0))), (1, .int (nI (f))), (2, .int (zsd μ f (i))), (3, .int (nI (i)))]) [] (rfl) rfl ?_ ?_
  · refine zr_iloadn X 3 dX6_stillDue_8 rfl ?_
    refine zr_iconst X (nI (3)) dX6_stillDue_9 (by decide +kernel) ?_
    refine zr_icmp_ge X 44 dX6_stillDue_10 (by decide) (fun _ => ?_) (fun q => absurd (zq_le (by omega) (by omega)) q)
    refine zr_iloadn X 2 dX6_stillDue_44 rfl ?_
    refine zr_aloadn X 0 dX6_stillDue_45 rfl ?_
    refine zr_get X (ci := 6) (q := 0) (zR _) (.ref (ad (1))) dX6_stillDue_46 (by omega) rfl rfl inX6 (by decide) rfl (zvR rfl) rfl k_539 ?_
    refine zr_iloadn X 1 dX6_stillDue_49 rfl ?_
    refine zr_bipush X (nI (29)) dX6_stillDue_50 (by decide +kernel) ?_
    refine zr_dSi [.int (nI (f)), .int (nI (29))] [.ref (ad (1)), .int (zsd μ f (3))] X (zK_ok A D tc tF tL tM) (zM_i (z1 := nI (32 * f + 36)) (c_of E μ (f) (29)) (congrArg nI (by omega))) k_597 k_598 k_7 k_599 hdX6_of ⟨rfl, rfl⟩ ⟨Nat.le_of_ble_eq_true rfl, Nat.le_of_ble_eq_true rfl⟩ rfl rfl (Nat.le_of_ble_eq_true rfl) dX6_stillDue_52 ?_
    refine zr_iald X (j := 32 * f + 36) 0 (μ (32 * f + 36)) dX6_stillDue_55 (by omega) rfl rfl rfl (by omega) (by omega) (zcg (b := 32 * f + 36) (by omega) (rfl)) ?_
    refine zr_icmp_ge X 75 dX6_stillDue_56 (by decide) (fun h56 => ?_) (fun h56 => ?_)
    · refine zr_iconst X (nI (0)) dX6_stillDue_75 (by decide +kernel) ?_
      exact zr_iret X dX6_stillDue_76 ⟨(if_pos h56).symm, rfl⟩
    · refine zr_aloadn X 0 dX6_stillDue_59 rfl ?_
      refine zr_get X (ci := 6) (q := 0) (zR _) (.ref (ad (1))) dX6_stillDue_60 (by omega) rfl rfl inX6 (by decide) rfl (zvR rfl) rfl k_539 ?_
      refine zr_iloadn X 1 dX6_stillDue_63 rfl ?_
      refine zr_bipush X (nI (29)) dX6_stillDue_64 (by decide +kernel) ?_
      refine zr_dSi [.int (nI (f)), .int (nI (29))] [.ref (ad (1))] X (zK_ok A D tc tF tL tM) (zM_i (z1 := nI (32 * f + 36)) (c_of E μ (f) (29)) (congrArg nI (by omega))) k_597 k_598 k_7 k_599 hdX6_of ⟨rfl, rfl⟩ ⟨Nat.le_of_ble_eq_true rfl, Nat.le_of_ble_eq_true rfl⟩ rfl rfl (Nat.le_of_ble_eq_true rfl) dX6_stillDue_66 ?_
      refine zr_iald X (j := 32 * f + 36) 0 (μ (32 * f + 36)) dX6_stillDue_69 (by omega) rfl rfl rfl (by omega) (by omega) (zcg (b := 32 * f + 36) (by omega) (rfl)) ?_
      refine zr_iloadn X 2 dX6_stillDue_70 rfl ?_
      refine zr_isub X ((μ (32 * f + 36)) - (zsd μ f (3))) dX6_stillDue_71 rfl ?_
      refine zr_goto X 76 dX6_stillDue_72 (by decide) ?_
      exact zr_iret X dX6_stillDue_76 ⟨(if_neg h56).symm, rfl⟩
  · intro i hi ih8
    refine zr_iloadn X 3 dX6_stillDue_8 rfl ?_
    refine zr_iconst X (nI (3)) dX6_stillDue_9 (by decide +kernel) ?_
    refine zr_icmp_ge X 44 dX6_stillDue_10 (by decide) (fun q => absurd q (nI_ge (by omega) (by omega))) (fun _ => ?_)
    refine zr_iloadn X 2 dX6_stillDue_13 rfl ?_
    refine zr_aloadn X 0 dX6_stillDue_14 rfl ?_
    refine zr_get X (ci := 6) (q := 0) (zR _) (.ref (ad (1))) dX6_stillDue_15 (by omega) rfl rfl inX6 (by decide) rfl (zvR rfl) rfl k_539 ?_
    refine zr_iloadn X 1 dX6_stillDue_18 rfl ?_
    refine zr_bipush X (nI (20)) dX6_stillDue_19 (by decide +kernel) ?_
    refine zr_iloadn X 3 dX6_stillDue_21 rfl ?_
    refine zr_iadd X (nI (i + 20)) dX6_stillDue_22 ((nI_add _ _).trans (congrArg nI (by omega))) ?_
    refine zr_dSi [.int (nI (f)), .int (nI (i + 20))] [.ref (ad (1)), .int (zsd μ f (i))] X (zK_ok A D tc tF tL tM) (zM_i (z1 := nI (32 * f + i + 27)) (c_of E μ (f) (i + 20)) (congrArg nI (by omega))) k_597 k_598 k_7 k_599 hdX6_of ⟨rfl, rfl⟩ ⟨Nat.le_of_ble_eq_true rfl, Nat.le_of_ble_eq_true rfl⟩ rfl rfl (Nat.le_of_ble_eq_true rfl) dX6_stillDue_23 ?_
    refine zr_iald X (j := 32 * f + i + 27) 0 (μ (32 * f + i + 27)) dX6_stillDue_26 (by omega) rfl rfl rfl (by omega) (by omega) (zcg (b := 32 * f + i + 27) (by omega) (rfl)) ?_
    refine zr_aloadn X 0 dX6_stillDue_27 rfl ?_
    refine zr_iloadn X 1 dX6_stillDue_28 rfl ?_
    refine zr_iloadn X 3 dX6_stillDue_29 rfl ?_
    refine zr_dVi (C := RX6) (ci := 6) [.int (nI (f)), .int (nI (i))] [.int (μ (32 * f + i + 27)), .int (zsd μ f (i))] X (zK_ok A D tc tF tL tM) (c_mayUse E μ (f := f) (g := i) (by omega) (by omega)) k_668 k_670 kp_7 k_7 k_671 hdX6_mayUse ⟨rfl, rfl⟩ ⟨Nat.le_of_ble_eq_true rfl, Nat.le_of_ble_eq_true rfl⟩ (by omega) rfl rfl rfl rfl (Nat.le_of_ble_eq_true rfl) dX6_stillDue_30 ?_
    refine zr_dSi [.int (μ (32 * f + i + 27)), .int (zmay μ (f) (i))] [.int (zsd μ f (i))] X (zK_ok A D tc tF tL tM) (c_lesser E μ (μ (32 * f + i + 27)) (zmay μ (f) (i))) k_672 k_673 k_7 k_674 hdX6_lesser ⟨rfl, rfl⟩ ⟨Nat.le_of_ble_eq_true rfl, Nat.le_of_ble_eq_true rfl⟩ rfl rfl (Nat.le_of_ble_eq_true rfl) dX6_stillDue_33 ?_
    refine zr_iadd X ((zsd μ f (i)) + (zmin (μ (32 * f + i + 27)) (zmay μ (f) (i)))) dX6_stillDue_36 rfl ?_
    refine zr_istoren X [1, 2, 0, 3] [(0, .ref (ad (0))), (1, .int (nI (f))), (2, .int ((zsd μ f (i)) + (zmin (μ (32 * f + i + 27)) (zmay μ (f) (i))))), (3, .int (nI (i)))] dX6_stillDue_37 (by decide) rfl ?_
    refine zr_iinc X 3 (nI (i + 1)) [1, 2, 3, 0] [(0, .ref (ad (0))), (1, .int (nI (f))), (2, .int ((zsd μ f (i)) + (zmin (μ (32 * f + i + 27)) (zmay μ (f) (i))))), (3, .int (nI (i + 1)))] dX6_stillDue_38 rfl (zinc _) (by decide) rfl ?_
    refine zr_goto X 8 dX6_stillDue_41 (by decide) ?_
    exact ih8

theorem zsw_out {x : Int32} {b : Nat} {lo hi : Int} (h : ¬ zin x 0 b) (hb : b < 2 ^ 31) (hl : lo = 0) (hh : hi = (b : Int)) : x.toInt < lo ∨ hi < x.toInt := by
  subst hl; subst hh
  rcases Int.lt_or_le x.toInt 0 with q | q
  · exact Or.inl q
  · refine Or.inr ?_
    rcases Int.lt_or_le (b : Int) x.toInt with q2 | q2
    · exact q2
    · exfalso
      apply h
      refine ⟨x.toInt.toNat, by omega, by omega, ?_⟩
      apply Int32.toInt_inj.mp
      rw [nI_toInt (by omega)]
      omega
set_option maxHeartbeats 4000000 in
set_option maxRecDepth 100000 in
theorem c_firm_u {l : Launch} {D : va_G} {tc : Nat → ClassId} {ad : Nat → Nat} {A : Nat → Prop} {tF tL tM : Nat} (E : zN 6 A ad) (μ : Nat → Int32) {m c k : Nat} (S : refS μ m c k) {x : Int32} (hx : ¬ zfm x c) (z : Int32)  : zMi l yX6_firm cX6_firm 3 (some .int) (zrm 5) (zK A D tc tF tL tM) A D vwCl tc ad 6 shR [.ref (ad (0)), .int (x), .int (z)] μ (fun r u => r = -1 ∧ u = μ) := by
  refine zM_of RX6 [(0, .ref (ad (0))), (1, .int (x)), (2, .int (z))] (zK_ok A D tc tF tL tM) E.1 E.2 owR_ok (by decide +kernel) rfl (Nat.le_of_ble_eq_true rfl) rfl ?_
  intro pP eE sS mM aS bL mT cO X
  obtain ⟨hm, hm2, hc, h8, hk, hk4⟩ := S
  refine zr_aloadn X 0 dX6_firm_0 rfl ?_
  refine zr_iloadn X 1 dX6_firm_1 rfl ?_
  refine zr_dVi (C := RX6) (ci := 6) [.int (x)] [] X (zK_ok A D tc tF tL tM) (c_isFirm_f E μ (hc) h8 hx) k_611 k_613 kp_2 k_7 k_614 hdX6_isFirm ⟨rfl, rfl⟩ ⟨Nat.le_of_ble_eq_true rfl, Nat.le_of_ble_eq_true rfl⟩ (by omega) rfl rfl rfl rfl (Nat.le_of_ble_eq_true rfl) dX6_firm_2 ?_
  refine zr_if_ne X 10 dX6_firm_5 (by decide) (fun q => absurd (zq_eq0 (by omega)) q) (fun _ => ?_)
  refine zr_iconst X (-1) dX6_firm_8 (by decide +kernel) ?_
  exact zr_iret X dX6_firm_9 ⟨rfl, rfl⟩

set_option maxHeartbeats 4000000 in
set_option maxRecDepth 100000 in
theorem c_firm_b {l : Launch} {D : va_G} {tc : Nat → ClassId} {ad : Nat → Nat} {A : Nat → Prop} {tF tL tM : Nat} (E : zN 6 A ad) (μ : Nat → Int32) {m c k : Nat} (S : refS μ m c k) {f : Nat} (hf : f < c) {z : Int32} (hx : ¬ zin z 0 10)  : zMi l yX6_firm cX6_firm 3 (some .int) (zrm 5) (zK A D tc tF tL tM) A D vwCl tc ad 6 shR [.ref (ad (0)), .int (nI (f)), .int (z)] μ (fun r u => r = -2 ∧ u = μ) := by
  refine zM_of RX6 [(0, .ref (ad (0))), (1, .int (nI (f))), (2, .int (z))] (zK_ok A D tc tF tL tM) E.1 E.2 owR_ok (by decide +kernel) rfl (Nat.le_of_ble_eq_true rfl) rfl ?_
  intro pP eE sS mM aS bL mT cO X
  obtain ⟨hm, hm2, hc, h8, hk, hk4⟩ := S
  refine zr_aloadn X 0 dX6_firm_0 rfl ?_
  refine zr_iloadn X 1 dX6_firm_1 rfl ?_
  refine zr_dVi (C := RX6) (ci := 6) [.int (nI (f))] [] X (zK_ok A D tc tF tL tM) (c_isFirm_t E μ (hc) h8 (by omega)) k_611 k_613 kp_2 k_7 k_614 hdX6_isFirm ⟨rfl, rfl⟩ ⟨Nat.le_of_ble_eq_true rfl, Nat.le_of_ble_eq_true rfl⟩ (by omega) rfl rfl rfl rfl (Nat.le_of_ble_eq_true rfl) dX6_firm_2 ?_
  refine zr_if_ne X 10 dX6_firm_5 (by decide) (fun _ => ?_) (fun q => absurd q (nI_ne0 (by omega) (by omega)))
  refine zr_iloadn X 2 dX6_firm_10 rfl ?_
  refine zr_tswO X 118 dX6_firm_11 (zsw_out hx (by omega) rfl rfl) (by decide) ?_
  refine zr_bipush X (-2) dX6_firm_118 (by decide +kernel) ?_
  exact zr_iret X dX6_firm_120 ⟨rfl, rfl⟩

set_option maxHeartbeats 4000000 in
set_option maxRecDepth 100000 in
theorem c_firm_0 {l : Launch} {D : va_G} {tc : Nat → ClassId} {ad : Nat → Nat} {A : Nat → Prop} {tF tL tM : Nat} (E : zN 6 A ad) (μ : Nat → Int32) {m c k : Nat} (S : refS μ m c k) {f : Nat} (hf : f < c)  : zMi l yX6_firm cX6_firm 3 (some .int) (zrm 6) (zK A D tc tF tL tM) A D vwCl tc ad 6 shR [.ref (ad (0)), .int (nI (f)), .int (nI (0))] μ (fun r u => r = zsum (fun v => μ (32 * f + v + 7)) 20 ∧ u = μ) := by
  refine zM_of RX6 [(0, .ref (ad (0))), (1, .int (nI (f))), (2, .int (nI (0)))] (zK_ok A D tc tF tL tM) E.1 E.2 owR_ok (by decide +kernel) rfl (Nat.le_of_ble_eq_true rfl) rfl ?_
  intro pP eE sS mM aS bL mT cO X
  obtain ⟨hm, hm2, hc, h8, hk, hk4⟩ := S
  refine zr_aloadn X 0 dX6_firm_0 rfl ?_
  refine zr_iloadn X 1 dX6_firm_1 rfl ?_
  refine zr_dVi (C := RX6) (ci := 6) [.int (nI (f))] [] X (zK_ok A D tc tF tL tM) (c_isFirm_t E μ (hc) h8 (by omega)) k_611 k_613 kp_2 k_7 k_614 hdX6_isFirm ⟨rfl, rfl⟩ ⟨Nat.le_of_ble_eq_true rfl, Nat.le_of_ble_eq_true rfl⟩ (by omega) rfl rfl rfl rfl (Nat.le_of_ble_eq_true rfl) dX6_firm_2 ?_
  refine zr_if_ne X 10 dX6_firm_5 (by decide) (fun _ => ?_) (fun q => absurd q (nI_ne0 (by omega) (by omega)))
  refine zr_iloadn X 2 dX6_firm_10 rfl ?_
  refine zr_tswI (off := 57) X 68 dX6_firm_11 ⟨by decide +kernel, by decide +kernel, by decide +kernel⟩ (by decide) ?_
  refine zr_aloadn X 0 dX6_firm_68 rfl ?_
  refine zr_iloadn X 1 dX6_firm_69 rfl ?_
  refine zr_dVi (C := RX6) (ci := 6) [.int (nI (f))] [] X (zK_ok A D tc tF tL tM) (c_heldBy E μ (f := f) (by omega)) k_731 k_733 kp_17 k_7 k_734 hdX6_heldBy ⟨rfl, rfl⟩ ⟨Nat.le_of_ble_eq_true rfl, Nat.le_of_ble_eq_true rfl⟩ (by omega) rfl rfl rfl rfl (Nat.le_of_ble_eq_true rfl) dX6_firm_70 ?_
  exact zr_iret X dX6_firm_73 ⟨rfl, rfl⟩

set_option maxHeartbeats 4000000 in
set_option maxRecDepth 100000 in
theorem c_firm_1 {l : Launch} {D : va_G} {tc : Nat → ClassId} {ad : Nat → Nat} {A : Nat → Prop} {tF tL tM : Nat} (E : zN 6 A ad) (μ : Nat → Int32) {m c k : Nat} (S : refS μ m c k) {f : Nat} (hf : f < c)  : zMi l yX6_firm cX6_firm 3 (some .int) (zrm 6) (zK A D tc tF tL tM) A D vwCl tc ad 6 shR [.ref (ad (0)), .int (nI (f)), .int (nI (1))] μ (fun r u => r = nI (zcnt (fun v => μ (32 * f + v + 7)) 20) ∧ u = μ) := by
  refine zM_of RX6 [(0, .ref (ad (0))), (1, .int (nI (f))), (2, .int (nI (1)))] (zK_ok A D tc tF tL tM) E.1 E.2 owR_ok (by decide +kernel) rfl (Nat.le_of_ble_eq_true rfl) rfl ?_
  intro pP eE sS mM aS bL mT cO X
  obtain ⟨hm, hm2, hc, h8, hk, hk4⟩ := S
  refine zr_aloadn X 0 dX6_firm_0 rfl ?_
  refine zr_iloadn X 1 dX6_firm_1 rfl ?_
  refine zr_dVi (C := RX6) (ci := 6) [.int (nI (f))] [] X (zK_ok A D tc tF tL tM) (c_isFirm_t E μ (hc) h8 (by omega)) k_611 k_613 kp_2 k_7 k_614 hdX6_isFirm ⟨rfl, rfl⟩ ⟨Nat.le_of_ble_eq_true rfl, Nat.le_of_ble_eq_true rfl⟩ (by omega) rfl rfl rfl rfl (Nat.le_of_ble_eq_true rfl) dX6_firm_2 ?_
  refine zr_if_ne X 10 dX6_firm_5 (by decide) (fun _ => ?_) (fun q => absurd q (nI_ne0 (by omega) (by omega)))
  refine zr_iloadn X 2 dX6_firm_10 rfl ?_
  refine zr_tswI (off := 63) X 74 dX6_firm_11 ⟨by decide +kernel, by decide +kernel, by decide +kernel⟩ (by decide) ?_
  refine zr_aloadn X 0 dX6_firm_74 rfl ?_
  refine zr_iloadn X 1 dX6_firm_75 rfl ?_
  refine zr_dVi (C := RX6) (ci := 6) [.int (nI (f))] [] X (zK_ok A D tc tF tL tM) (c_vintagesOf E μ (f := f) (by omega)) k_735 k_737 kp_18 k_7 k_738 hdX6_vintagesOf ⟨rfl, rfl⟩ ⟨Nat.le_of_ble_eq_true rfl, Nat.le_of_ble_eq_true rfl⟩ (by omega) rfl rfl rfl rfl (Nat.le_of_ble_eq_true rfl) dX6_firm_76 ?_
  exact zr_iret X dX6_firm_79 ⟨rfl, rfl⟩

set_option maxHeartbeats 4000000 in
set_option maxRecDepth 100000 in
theorem c_firm_2 {l : Launch} {D : va_G} {tc : Nat → ClassId} {ad : Nat → Nat} {A : Nat → Prop} {tF tL tM : Nat} (E : zN 6 A ad) (μ : Nat → Int32) {m c k : Nat} (S : refS μ m c k) {f : Nat} (hf : f < c)  : zMi l yX6_firm cX6_firm 3 (some .int) (zrm 6) (zK A D tc tF tL tM) A D vwCl tc ad 6 shR [.ref (ad (0)), .int (nI (f)), .int (nI (2))] μ (fun r u => r = zexO (fun v => μ (32 * f + v + 7)) 20 ∧ u = μ) := by
  refine zM_of RX6 [(0, .ref (ad (0))), (1, .int (nI (f))), (2, .int (nI (2)))] (zK_ok A D tc tF tL tM) E.1 E.2 owR_ok (by decide +kernel) rfl (Nat.le_of_ble_eq_true rfl) rfl ?_
  intro pP eE sS mM aS bL mT cO X
  obtain ⟨hm, hm2, hc, h8, hk, hk4⟩ := S
  refine zr_aloadn X 0 dX6_firm_0 rfl ?_
  refine zr_iloadn X 1 dX6_firm_1 rfl ?_
  refine zr_dVi (C := RX6) (ci := 6) [.int (nI (f))] [] X (zK_ok A D tc tF tL tM) (c_isFirm_t E μ (hc) h8 (by omega)) k_611 k_613 kp_2 k_7 k_614 hdX6_isFirm ⟨rfl, rfl⟩ ⟨Nat.le_of_ble_eq_true rfl, Nat.le_of_ble_eq_true rfl⟩ (by omega) rfl rfl rfl rfl (Nat.le_of_ble_eq_true rfl) dX6_firm_2 ?_
  refine zr_if_ne X 10 dX6_firm_5 (by decide) (fun _ => ?_) (fun q => absurd q (nI_ne0 (by omega) (by omega)))
  refine zr_iloadn X 2 dX6_firm_10 rfl ?_
  refine zr_tswI (off := 69) X 80 dX6_firm_11 ⟨by decide +kernel, by decide +kernel, by decide +kernel⟩ (by decide) ?_
  refine zr_aloadn X 0 dX6_firm_80 rfl ?_
  refine zr_iloadn X 1 dX6_firm_81 rfl ?_
  refine zr_iloadn X 2 dX6_firm_82 rfl ?_
  refine zr_iconst X (nI (3)) dX6_firm_83 (by decide +kernel) ?_
  refine zr_icmp_ne X 91 dX6_firm_84 (by decide) (fun _ => ?_) (fun q => absurd q (zq_ne (by omega) (by omega) (by omega)))
  refine zr_iconst X (nI (0)) dX6_firm_91 (by decide +kernel) ?_
  refine zr_dVi (C := RX6) (ci := 6) [.int (nI (f)), .int (nI (0))] [] X (zK_ok A D tc tF tL tM) (c_extreme0 E μ (f := f) (by omega)) k_739 k_741 kp_19 k_7 k_742 hdX6_extreme ⟨rfl, rfl⟩ ⟨Nat.le_of_ble_eq_true rfl, Nat.le_of_ble_eq_true rfl⟩ (by omega) rfl rfl rfl rfl (Nat.le_of_ble_eq_true rfl) dX6_firm_92 ?_
  exact zr_iret X dX6_firm_95 ⟨rfl, rfl⟩

set_option maxHeartbeats 4000000 in
set_option maxRecDepth 100000 in
theorem c_firm_3 {l : Launch} {D : va_G} {tc : Nat → ClassId} {ad : Nat → Nat} {A : Nat → Prop} {tF tL tM : Nat} (E : zN 6 A ad) (μ : Nat → Int32) {m c k : Nat} (S : refS μ m c k) {f : Nat} (hf : f < c)  : zMi l yX6_firm cX6_firm 3 (some .int) (zrm 6) (zK A D tc tF tL tM) A D vwCl tc ad 6 shR [.ref (ad (0)), .int (nI (f)), .int (nI (3))] μ (fun r u => r = zexW (fun v => μ (32 * f + v + 7)) 20 ∧ u = μ) := by
  refine zM_of RX6 [(0, .ref (ad (0))), (1, .int (nI (f))), (2, .int (nI (3)))] (zK_ok A D tc tF tL tM) E.1 E.2 owR_ok (by decide +kernel) rfl (Nat.le_of_ble_eq_true rfl) rfl ?_
  intro pP eE sS mM aS bL mT cO X
  obtain ⟨hm, hm2, hc, h8, hk, hk4⟩ := S
  refine zr_aloadn X 0 dX6_firm_0 rfl ?_
  refine zr_iloadn X 1 dX6_firm_1 rfl ?_
  refine zr_dVi (C := RX6) (ci := 6) [.int (nI (f))] [] X (zK_ok A D tc tF tL tM) (c_isFirm_t E μ (hc) h8 (by omega)) k_611 k_613 kp_2 k_7 k_614 hdX6_isFirm ⟨rfl, rfl⟩ ⟨Nat.le_of_ble_eq_true rfl, Nat.le_of_ble_eq_true rfl⟩ (by omega) rfl rfl rfl rfl (Nat.le_of_ble_eq_true rfl) dX6_firm_2 ?_
  refine zr_if_ne X 10 dX6_firm_5 (by decide) (fun _ => ?_) (fun q => absurd q (nI_ne0 (by omega) (by omega)))
  refine zr_iloadn X 2 dX6_firm_10 rfl ?_
  refine zr_tswI (off := 69) X 80 dX6_firm_11 ⟨by decide +kernel, by decide +kernel, by decide +kernel⟩ (by decide) ?_
  refine zr_aloadn X 0 dX6_firm_80 rfl ?_
  refine zr_iloadn X 1 dX6_firm_81 rfl ?_
  refine zr_iloadn X 2 dX6_firm_82 rfl ?_
  refine zr_iconst X (nI (3)) dX6_firm_83 (by decide +kernel) ?_
  refine zr_icmp_ne X 91 dX6_firm_84 (by decide) (fun q => absurd (zq_eq (by omega)) q) (fun _ => ?_)
  refine zr_iconst X (nI (1)) dX6_firm_87 (by decide +kernel) ?_
  refine zr_goto X 92 dX6_firm_88 (by decide) ?_
  refine zr_dVi (C := RX6) (ci := 6) [.int (nI (f)), .int (nI (1))] [] X (zK_ok A D tc tF tL tM) (c_extreme1 E μ (f := f) (by omega)) k_739 k_741 kp_19 k_7 k_742 hdX6_extreme ⟨rfl, rfl⟩ ⟨Nat.le_of_ble_eq_true rfl, Nat.le_of_ble_eq_true rfl⟩ (by omega) rfl rfl rfl rfl (Nat.le_of_ble_eq_true rfl) dX6_firm_92 ?_
  exact zr_iret X dX6_firm_95 ⟨rfl, rfl⟩

set_option maxHeartbeats 4000000 in
set_option maxRecDepth 100000 in
theorem c_firm_4 {l : Launch} {D : va_G} {tc : Nat → ClassId} {ad : Nat → Nat} {A : Nat → Prop} {tF tL tM : Nat} (E : zN 6 A ad) (μ : Nat → Int32) {m c k : Nat} (S : refS μ m c k) {f : Nat} (hf : f < c)  : zMi l yX6_firm cX6_firm 3 (some .int) (zrm 6) (zK A D tc tF tL tM) A D vwCl tc ad 6 shR [.ref (ad (0)), .int (nI (f)), .int (nI (4))] μ (fun r u => r = μ (32 * f + 33) ∧ u = μ) := by
  refine zM_of RX6 [(0, .ref (ad (0))), (1, .int (nI (f))), (2, .int (nI (4)))] (zK_ok A D tc tF tL tM) E.1 E.2 owR_ok (by decide +kernel) rfl (Nat.le_of_ble_eq_true rfl) rfl ?_
  intro pP eE sS mM aS bL mT cO X
  obtain ⟨hm, hm2, hc, h8, hk, hk4⟩ := S
  refine zr_aloadn X 0 dX6_firm_0 rfl ?_
  refine zr_iloadn X 1 dX6_firm_1 rfl ?_
  refine zr_dVi (C := RX6) (ci := 6) [.int (nI (f))] [] X (zK_ok A D tc tF tL tM) (c_isFirm_t E μ (hc) h8 (by omega)) k_611 k_613 kp_2 k_7 k_614 hdX6_isFirm ⟨rfl, rfl⟩ ⟨Nat.le_of_ble_eq_true rfl, Nat.le_of_ble_eq_true rfl⟩ (by omega) rfl rfl rfl rfl (Nat.le_of_ble_eq_true rfl) dX6_firm_2 ?_
  refine zr_if_ne X 10 dX6_firm_5 (by decide) (fun _ => ?_) (fun q => absurd q (nI_ne0 (by omega) (by omega)))
  refine zr_iloadn X 2 dX6_firm_10 rfl ?_
  refine zr_tswI (off := 85) X 96 dX6_firm_11 ⟨by decide +kernel, by decide +kernel, by decide +kernel⟩ (by decide) ?_
  refine zr_aloadn X 0 dX6_firm_96 rfl ?_
  refine zr_get X (ci := 6) (q := 0) (zR _) (.ref (ad (1))) dX6_firm_97 (by omega) rfl rfl inX6 (by decide) rfl (zvR rfl) rfl k_539 ?_
  refine zr_iloadn X 1 dX6_firm_100 rfl ?_
  refine zr_bipush X (nI (26)) dX6_firm_101 (by decide +kernel) ?_
  refine zr_iloadn X 2 dX6_firm_103 rfl ?_
  refine zr_iadd X (nI (30)) dX6_firm_104 ((nI_add _ _).trans (congrArg nI (by omega))) ?_
  refine zr_iconst X (nI (4)) dX6_firm_105 (by decide +kernel) ?_
  refine zr_isub X (nI (26)) dX6_firm_106 ((pk_sub (by omega)).trans (congrArg nI (by omega))) ?_
  refine zr_dSi [.int (nI (f)), .int (nI (26))] [.ref (ad (1))] X (zK_ok A D tc tF tL tM) (zM_i (z1 := nI (32 * f + 33)) (c_of E μ (f) (26)) (congrArg nI (by omega))) k_597 k_598 k_7 k_599 hdX6_of ⟨rfl, rfl⟩ ⟨Nat.le_of_ble_eq_true rfl, Nat.le_of_ble_eq_true rfl⟩ rfl rfl (Nat.le_of_ble_eq_true rfl) dX6_firm_107 ?_
  refine zr_iald X (j := 32 * f + 33) 0 (μ (32 * f + 33)) dX6_firm_110 (by omega) rfl rfl rfl (by omega) (by omega) (zcg (b := 32 * f + 33) (by omega) (rfl)) ?_
  exact zr_iret X dX6_firm_111 ⟨rfl, rfl⟩

set_option maxHeartbeats 4000000 in
set_option maxRecDepth 100000 in
theorem c_firm_5 {l : Launch} {D : va_G} {tc : Nat → ClassId} {ad : Nat → Nat} {A : Nat → Prop} {tF tL tM : Nat} (E : zN 6 A ad) (μ : Nat → Int32) {m c k : Nat} (S : refS μ m c k) {f : Nat} (hf : f < c)  : zMi l yX6_firm cX6_firm 3 (some .int) (zrm 6) (zK A D tc tF tL tM) A D vwCl tc ad 6 shR [.ref (ad (0)), .int (nI (f)), .int (nI (5))] μ (fun r u => r = μ (32 * f + 34) ∧ u = μ) := by
  refine zM_of RX6 [(0, .ref (ad (0))), (1, .int (nI (f))), (2, .int (nI (5)))] (zK_ok A D tc tF tL tM) E.1 E.2 owR_ok (by decide +kernel) rfl (Nat.le_of_ble_eq_true rfl) rfl ?_
  intro pP eE sS mM aS bL mT cO X
  obtain ⟨hm, hm2, hc, h8, hk, hk4⟩ := S
  refine zr_aloadn X 0 dX6_firm_0 rfl ?_
  refine zr_iloadn X 1 dX6_firm_1 rfl ?_
  refine zr_dVi (C := RX6) (ci := 6) [.int (nI (f))] [] X (zK_ok A D tc tF tL tM) (c_isFirm_t E μ (hc) h8 (by omega)) k_611 k_613 kp_2 k_7 k_614 hdX6_isFirm ⟨rfl, rfl⟩ ⟨Nat.le_of_ble_eq_true rfl, Nat.le_of_ble_eq_true rfl⟩ (by omega) rfl rfl rfl rfl (Nat.le_of_ble_eq_true rfl) dX6_firm_2 ?_
  refine zr_if_ne X 10 dX6_firm_5 (by decide) (fun _ => ?_) (fun q => absurd q (nI_ne0 (by omega) (by omega)))
  refine zr_iloadn X 2 dX6_firm_10 rfl ?_
  refine zr_tswI (off := 85) X 96 dX6_firm_11 ⟨by decide +kernel, by decide +kernel, by decide +kernel⟩ (by decide) ?_
  refine zr_aloadn X 0 dX6_firm_96 rfl ?_
  refine zr_get X (ci := 6) (q := 0) (zR _) (.ref (ad (1))) dX6_firm_97 (by omega) rfl rfl inX6 (by decide) rfl (zvR rfl) rfl k_539 ?_
  refine zr_iloadn X 1 dX6_firm_100 rfl ?_
  refine zr_bipush X (nI (26)) dX6_firm_101 (by decide +kernel) ?_
  refine zr_iloadn X 2 dX6_firm_103 rfl ?_
  refine zr_iadd X (nI (31)) dX6_firm_104 ((nI_add _ _).trans (congrArg nI (by omega))) ?_
  refine zr_iconst X (nI (4)) dX6_firm_105 (by decide +kernel) ?_
  refine zr_isub X (nI (27)) dX6_firm_106 ((pk_sub (by omega)).trans (congrArg nI (by omega))) ?_
  refine zr_dSi [.int (nI (f)), .int (nI (27))] [.ref (ad (1))] X (zK_ok A D tc tF tL tM) (zM_i (z1 := nI (32 * f + 34)) (c_of E μ (f) (27)) (congrArg nI (by omega))) k_597 k_598 k_7 k_599 hdX6_of ⟨rfl, rfl⟩ ⟨Nat.le_of_ble_eq_true rfl, Nat.le_of_ble_eq_true rfl⟩ rfl rfl (Nat.le_of_ble_eq_true rfl) dX6_firm_107 ?_
  refine zr_iald X (j := 32 * f + 34) 0 (μ (32 * f + 34)) dX6_firm_110 (by omega) rfl rfl rfl (by omega) (by omega) (zcg (b := 32 * f + 34) (by omega) (rfl)) ?_
  exact zr_iret X dX6_firm_111 ⟨rfl, rfl⟩

set_option maxHeartbeats 4000000 in
set_option maxRecDepth 100000 in
theorem c_firm_6 {l : Launch} {D : va_G} {tc : Nat → ClassId} {ad : Nat → Nat} {A : Nat → Prop} {tF tL tM : Nat} (E : zN 6 A ad) (μ : Nat → Int32) {m c k : Nat} (S : refS μ m c k) {f : Nat} (hf : f < c)  : zMi l yX6_firm cX6_firm 3 (some .int) (zrm 6) (zK A D tc tF tL tM) A D vwCl tc ad 6 shR [.ref (ad (0)), .int (nI (f)), .int (nI (6))] μ (fun r u => r = μ (32 * f + 35) ∧ u = μ) := by
  refine zM_of RX6 [(0, .ref (ad (0))), (1, .int (nI (f))), (2, .int (nI (6)))] (zK_ok A D tc tF tL tM) E.1 E.2 owR_ok (by decide +kernel) rfl (Nat.le_of_ble_eq_true rfl) rfl ?_
  intro pP eE sS mM aS bL mT cO X
  obtain ⟨hm, hm2, hc, h8, hk, hk4⟩ := S
  refine zr_aloadn X 0 dX6_firm_0 rfl ?_
  refine zr_iloadn X 1 dX6_firm_1 rfl ?_
  refine zr_dVi (C := RX6) (ci := 6) [.int (nI (f))] [] X (zK_ok A D tc tF tL tM) (c_isFirm_t E μ (hc) h8 (by omega)) k_611 k_613 kp_2 k_7 k_614 hdX6_isFirm ⟨rfl, rfl⟩ ⟨Nat.le_of_ble_eq_true rfl, Nat.le_of_ble_eq_true rfl⟩ (by omega) rfl rfl rfl rfl (Nat.le_of_ble_eq_true rfl) dX6_firm_2 ?_
  refine zr_if_ne X 10 dX6_firm_5 (by decide) (fun _ => ?_) (fun q => absurd q (nI_ne0 (by omega) (by omega)))
  refine zr_iloadn X 2 dX6_firm_10 rfl ?_
  refine zr_tswI (off := 85) X 96 dX6_firm_11 ⟨by decide +kernel, by decide +kernel, by decide +kernel⟩ (by decide) ?_
  refine zr_aloadn X 0 dX6_firm_96 rfl ?_
  refine zr_get X (ci := 6) (q := 0) (zR _) (.ref (ad (1))) dX6_firm_97 (by omega) rfl rfl inX6 (by decide) rfl (zvR rfl) rfl k_539 ?_
  refine zr_iloadn X 1 dX6_firm_100 rfl ?_
  refine zr_bipush X (nI (26)) dX6_firm_101 (by decide +kernel) ?_
  refine zr_iloadn X 2 dX6_firm_103 rfl ?_
  refine zr_iadd X (nI (32)) dX6_firm_104 ((nI_add _ _).trans (congrArg nI (by omega))) ?_
  refine zr_iconst X (nI (4)) dX6_firm_105 (by decide +kernel) ?_
  refine zr_isub X (nI (28)) dX6_firm_106 ((pk_sub (by omega)).trans (congrArg nI (by omega))) ?_
  refine zr_dSi [.int (nI (f)), .int (nI (28))] [.ref (ad (1))] X (zK_ok A D tc tF tL tM) (zM_i (z1 := nI (32 * f + 35)) (c_of E μ (f) (28)) (congrArg nI (by omega))) k_597 k_598 k_7 k_599 hdX6_of ⟨rfl, rfl⟩ ⟨Nat.le_of_ble_eq_true rfl, Nat.le_of_ble_eq_true rfl⟩ rfl rfl (Nat.le_of_ble_eq_true rfl) dX6_firm_107 ?_
  refine zr_iald X (j := 32 * f + 35) 0 (μ (32 * f + 35)) dX6_firm_110 (by omega) rfl rfl rfl (by omega) (by omega) (zcg (b := 32 * f + 35) (by omega) (rfl)) ?_
  exact zr_iret X dX6_firm_111 ⟨rfl, rfl⟩

set_option maxHeartbeats 4000000 in
set_option maxRecDepth 100000 in
theorem c_firm_7 {l : Launch} {D : va_G} {tc : Nat → ClassId} {ad : Nat → Nat} {A : Nat → Prop} {tF tL tM : Nat} (E : zN 6 A ad) (μ : Nat → Int32) {m c k : Nat} (S : refS μ m c k) {f : Nat} (hf : f < c)  : zMi l yX6_firm cX6_firm 3 (some .int) (zrm 6) (zK A D tc tF tL tM) A D vwCl tc ad 6 shR [.ref (ad (0)), .int (nI (f)), .int (nI (7))] μ (fun r u => r = μ (32 * f + 36) ∧ u = μ) := by
  refine zM_of RX6 [(0, .ref (ad (0))), (1, .int (nI (f))), (2, .int (nI (7)))] (zK_ok A D tc tF tL tM) E.1 E.2 owR_ok (by decide +kernel) rfl (Nat.le_of_ble_eq_true rfl) rfl ?_
  intro pP eE sS mM aS bL mT cO X
  obtain ⟨hm, hm2, hc, h8, hk, hk4⟩ := S
  refine zr_aloadn X 0 dX6_firm_0 rfl ?_
  refine zr_iloadn X 1 dX6_firm_1 rfl ?_
  refine zr_dVi (C := RX6) (ci := 6) [.int (nI (f))] [] X (zK_ok A D tc tF tL tM) (c_isFirm_t E μ (hc) h8 (by omega)) k_611 k_613 kp_2 k_7 k_614 hdX6_isFirm ⟨rfl, rfl⟩ ⟨Nat.le_of_ble_eq_true rfl, Nat.le_of_ble_eq_true rfl⟩ (by omega) rfl rfl rfl rfl (Nat.le_of_ble_eq_true rfl) dX6_firm_2 ?_
  refine zr_if_ne X 10 dX6_firm_5 (by decide) (fun _ => ?_) (fun q => absurd q (nI_ne0 (by omega) (by omega)))
  refine zr_iloadn X 2 dX6_firm_10 rfl ?_
  refine zr_tswI (off := 85) X 96 dX6_firm_11 ⟨by decide +kernel, by decide +kernel, by decide +kernel⟩ (by decide) ?_
  refine zr_aloadn X 0 dX6_firm_96 rfl ?_
  refine zr_get X (ci := 6) (q := 0) (zR _) (.ref (ad (1))) dX6_firm_97 (by omega) rfl rfl inX6 (by decide) rfl (zvR rfl) rfl k_539 ?_
  refine zr_iloadn X 1 dX6_firm_100 rfl ?_
  refine zr_bipush X (nI (26)) dX6_firm_101 (by decide +kernel) ?_
  refine zr_iloadn X 2 dX6_firm_103 rfl ?_
  refine zr_iadd X (nI (33)) dX6_firm_104 ((nI_add _ _).trans (congrArg nI (by omega))) ?_
  refine zr_iconst X (nI (4)) dX6_firm_105 (by decide +kernel) ?_
  refine zr_isub X (nI (29)) dX6_firm_106 ((pk_sub (by omega)).trans (congrArg nI (by omega))) ?_
  refine zr_dSi [.int (nI (f)), .int (nI (29))] [.ref (ad (1))] X (zK_ok A D tc tF tL tM) (zM_i (z1 := nI (32 * f + 36)) (c_of E μ (f) (29)) (congrArg nI (by omega))) k_597 k_598 k_7 k_599 hdX6_of ⟨rfl, rfl⟩ ⟨Nat.le_of_ble_eq_true rfl, Nat.le_of_ble_eq_true rfl⟩ rfl rfl (Nat.le_of_ble_eq_true rfl) dX6_firm_107 ?_
  refine zr_iald X (j := 32 * f + 36) 0 (μ (32 * f + 36)) dX6_firm_110 (by omega) rfl rfl rfl (by omega) (by omega) (zcg (b := 32 * f + 36) (by omega) (rfl)) ?_
  exact zr_iret X dX6_firm_111 ⟨rfl, rfl⟩

set_option maxHeartbeats 4000000 in
set_option maxRecDepth 100000 in
theorem c_firm_8 {l : Launch} {D : va_G} {tc : Nat → ClassId} {ad : Nat → Nat} {A : Nat → Prop} {tF tL tM : Nat} (E : zN 6 A ad) (μ : Nat → Int32) {m c k : Nat} (S : refS μ m c k) {f : Nat} (hf : f < c)  : zMi l yX6_firm cX6_firm 3 (some .int) (zrm 6) (zK A D tc tF tL tM) A D vwCl tc ad 6 shR [.ref (ad (0)), .int (nI (f)), .int (nI (8))] μ (fun r u => r = μ (32 * f + 37) ∧ u = μ) := by
  refine zM_of RX6 [(0, .ref (ad (0))), (1, .int (nI (f))), (2, .int (nI (8)))] (zK_ok A D tc tF tL tM) E.1 E.2 owR_ok (by decide +kernel) rfl (Nat.le_of_ble_eq_true rfl) rfl ?_
  intro pP eE sS mM aS bL mT cO X
  obtain ⟨hm, hm2, hc, h8, hk, hk4⟩ := S
  refine zr_aloadn X 0 dX6_firm_0 rfl ?_
  refine zr_iloadn X 1 dX6_firm_1 rfl ?_
  refine zr_dVi (C := RX6) (ci := 6) [.int (nI (f))] [] X (zK_ok A D tc tF tL tM) (c_isFirm_t E μ (hc) h8 (by omega)) k_611 k_613 kp_2 k_7 k_614 hdX6_isFirm ⟨rfl, rfl⟩ ⟨Nat.le_of_ble_eq_true rfl, Nat.le_of_ble_eq_true rfl⟩ (by omega) rfl rfl rfl rfl (Nat.le_of_ble_eq_true rfl) dX6_firm_2 ?_
  refine zr_if_ne X 10 dX6_firm_5 (by decide) (fun _ => ?_) (fun q => absurd q (nI_ne0 (by omega) (by omega)))
  refine zr_iloadn X 2 dX6_firm_10 rfl ?_
  refine zr_tswI (off := 85) X 96 dX6_firm_11 ⟨by decide +kernel, by decide +kernel, by decide +kernel⟩ (by decide) ?_
  refine zr_aloadn X 0 dX6_firm_96 rfl ?_
  refine zr_get X (ci := 6) (q := 0) (zR _) (.ref (ad (1))) dX6_firm_97 (by omega) rfl rfl inX6 (by decide) rfl (zvR rfl) rfl k_539 ?_
  refine zr_iloadn X 1 dX6_firm_100 rfl ?_
  refine zr_bipush X (nI (26)) dX6_firm_101 (by decide +kernel) ?_
  refine zr_iloadn X 2 dX6_firm_103 rfl ?_
  refine zr_iadd X (nI (34)) dX6_firm_104 ((nI_add _ _).trans (congrArg nI (by omega))) ?_
  refine zr_iconst X (nI (4)) dX6_firm_105 (by decide +kernel) ?_
  refine zr_isub X (nI (30)) dX6_firm_106 ((pk_sub (by omega)).trans (congrArg nI (by omega))) ?_
  refine zr_dSi [.int (nI (f)), .int (nI (30))] [.ref (ad (1))] X (zK_ok A D tc tF tL tM) (zM_i (z1 := nI (32 * f + 37)) (c_of E μ (f) (30)) (congrArg nI (by omega))) k_597 k_598 k_7 k_599 hdX6_of ⟨rfl, rfl⟩ ⟨Nat.le_of_ble_eq_true rfl, Nat.le_of_ble_eq_true rfl⟩ rfl rfl (Nat.le_of_ble_eq_true rfl) dX6_firm_107 ?_
  refine zr_iald X (j := 32 * f + 37) 0 (μ (32 * f + 37)) dX6_firm_110 (by omega) rfl rfl rfl (by omega) (by omega) (zcg (b := 32 * f + 37) (by omega) (rfl)) ?_
  exact zr_iret X dX6_firm_111 ⟨rfl, rfl⟩

set_option maxHeartbeats 4000000 in
set_option maxRecDepth 100000 in
theorem c_firm_9 {l : Launch} {D : va_G} {tc : Nat → ClassId} {ad : Nat → Nat} {A : Nat → Prop} {tF tL tM : Nat} (E : zN 6 A ad) (μ : Nat → Int32) {m c k : Nat} (S : refS μ m c k) {f : Nat} (hf : f < c)  : zMi l yX6_firm cX6_firm 3 (some .int) (zrm 6) (zK A D tc tF tL tM) A D vwCl tc ad 6 shR [.ref (ad (0)), .int (nI (f)), .int (nI (9))] μ (fun r u => r = μ (32 * f + 38) ∧ u = μ) := by
  refine zM_of RX6 [(0, .ref (ad (0))), (1, .int (nI (f))), (2, .int (nI (9)))] (zK_ok A D tc tF tL tM) E.1 E.2 owR_ok (by decide +kernel) rfl (Nat.le_of_ble_eq_true rfl) rfl ?_
  intro pP eE sS mM aS bL mT cO X
  obtain ⟨hm, hm2, hc, h8, hk, hk4⟩ := S
  refine zr_aloadn X 0 dX6_firm_0 rfl ?_
  refine zr_iloadn X 1 dX6_firm_1 rfl ?_
  refine zr_dVi (C := RX6) (ci := 6) [.int (nI (f))] [] X (zK_ok A D tc tF tL tM) (c_isFirm_t E μ (hc) h8 (by omega)) k_611 k_613 kp_2 k_7 k_614 hdX6_isFirm ⟨rfl, rfl⟩ ⟨Nat.le_of_ble_eq_true rfl, Nat.le_of_ble_eq_true rfl⟩ (by omega) rfl rfl rfl rfl (Nat.le_of_ble_eq_true rfl) dX6_firm_2 ?_
  refine zr_if_ne X 10 dX6_firm_5 (by decide) (fun _ => ?_) (fun q => absurd q (nI_ne0 (by omega) (by omega)))
  refine zr_iloadn X 2 dX6_firm_10 rfl ?_
  refine zr_tswI (off := 85) X 96 dX6_firm_11 ⟨by decide +kernel, by decide +kernel, by decide +kernel⟩ (by decide) ?_
  refine zr_aloadn X 0 dX6_firm_96 rfl ?_
  refine zr_get X (ci := 6) (q := 0) (zR _) (.ref (ad (1))) dX6_firm_97 (by omega) rfl rfl inX6 (by decide) rfl (zvR rfl) rfl k_539 ?_
  refine zr_iloadn X 1 dX6_firm_100 rfl ?_
  refine zr_bipush X (nI (26)) dX6_firm_101 (by decide +kernel) ?_
  refine zr_iloadn X 2 dX6_firm_103 rfl ?_
  refine zr_iadd X (nI (35)) dX6_firm_104 ((nI_add _ _).trans (congrArg nI (by omega))) ?_
  refine zr_iconst X (nI (4)) dX6_firm_105 (by decide +kernel) ?_
  refine zr_isub X (nI (31)) dX6_firm_106 ((pk_sub (by omega)).trans (congrArg nI (by omega))) ?_
  refine zr_dSi [.int (nI (f)), .int (nI (31))] [.ref (ad (1))] X (zK_ok A D tc tF tL tM) (zM_i (z1 := nI (32 * f + 38)) (c_of E μ (f) (31)) (congrArg nI (by omega))) k_597 k_598 k_7 k_599 hdX6_of ⟨rfl, rfl⟩ ⟨Nat.le_of_ble_eq_true rfl, Nat.le_of_ble_eq_true rfl⟩ rfl rfl (Nat.le_of_ble_eq_true rfl) dX6_firm_107 ?_
  refine zr_iald X (j := 32 * f + 38) 0 (μ (32 * f + 38)) dX6_firm_110 (by omega) rfl rfl rfl (by omega) (by omega) (zcg (b := 32 * f + 38) (by omega) (rfl)) ?_
  exact zr_iret X dX6_firm_111 ⟨rfl, rfl⟩

set_option maxHeartbeats 4000000 in
set_option maxRecDepth 100000 in
theorem c_firm_10 {l : Launch} {D : va_G} {tc : Nat → ClassId} {ad : Nat → Nat} {A : Nat → Prop} {tF tL tM : Nat} (E : zN 6 A ad) (μ : Nat → Int32) {m c k : Nat} (S : refS μ m c k) {f : Nat} (hf : f < c)  : zMi l yX6_firm cX6_firm 3 (some .int) (zrm 6) (zK A D tc tF tL tM) A D vwCl tc ad 6 shR [.ref (ad (0)), .int (nI (f)), .int (nI (10))] μ (fun r u => r = zstill μ f ∧ u = μ) := by
  refine zM_of RX6 [(0, .ref (ad (0))), (1, .int (nI (f))), (2, .int (nI (10)))] (zK_ok A D tc tF tL tM) E.1 E.2 owR_ok (by decide +kernel) rfl (Nat.le_of_ble_eq_true rfl) rfl ?_
  intro pP eE sS mM aS bL mT cO X
  obtain ⟨hm, hm2, hc, h8, hk, hk4⟩ := S
  refine zr_aloadn X 0 dX6_firm_0 rfl ?_
  refine zr_iloadn X 1 dX6_firm_1 rfl ?_
  refine zr_dVi (C := RX6) (ci := 6) [.int (nI (f))] [] X (zK_ok A D tc tF tL tM) (c_isFirm_t E μ (hc) h8 (by omega)) k_611 k_613 kp_2 k_7 k_614 hdX6_isFirm ⟨rfl, rfl⟩ ⟨Nat.le_of_ble_eq_true rfl, Nat.le_of_ble_eq_true rfl⟩ (by omega) rfl rfl rfl rfl (Nat.le_of_ble_eq_true rfl) dX6_firm_2 ?_
  refine zr_if_ne X 10 dX6_firm_5 (by decide) (fun _ => ?_) (fun q => absurd q (nI_ne0 (by omega) (by omega)))
  refine zr_iloadn X 2 dX6_firm_10 rfl ?_
  refine zr_tswI (off := 101) X 112 dX6_firm_11 ⟨by decide +kernel, by decide +kernel, by decide +kernel⟩ (by decide) ?_
  refine zr_aloadn X 0 dX6_firm_112 rfl ?_
  refine zr_iloadn X 1 dX6_firm_113 rfl ?_
  refine zr_dVi (C := RX6) (ci := 6) [.int (nI (f))] [] X (zK_ok A D tc tF tL tM) (c_stillDue E μ (f := f) (by omega)) k_743 k_745 kp_20 k_7 k_746 hdX6_stillDue ⟨rfl, rfl⟩ ⟨Nat.le_of_ble_eq_true rfl, Nat.le_of_ble_eq_true rfl⟩ (by omega) rfl rfl rfl rfl (Nat.le_of_ble_eq_true rfl) dX6_firm_114 ?_
  exact zr_iret X dX6_firm_117 ⟨rfl, rfl⟩

set_option maxHeartbeats 4000000 in
set_option maxRecDepth 100000 in
theorem c_holds_u1 {l : Launch} {D : va_G} {tc : Nat → ClassId} {ad : Nat → Nat} {A : Nat → Prop} {tF tL tM : Nat} (E : zN 6 A ad) (μ : Nat → Int32) {m c k : Nat} (S : refS μ m c k) {x : Int32} (hx : ¬ zfm x c) (z : Int32)  : zMi l yX6_holds cX6_holds 3 (some .int) (zrm 5) (zK A D tc tF tL tM) A D vwCl tc ad 6 shR [.ref (ad (0)), .int (x), .int (z)] μ (fun r u => r = -1 ∧ u = μ) := by
  refine zM_of RX6 [(0, .ref (ad (0))), (1, .int (x)), (2, .int (z))] (zK_ok A D tc tF tL tM) E.1 E.2 owR_ok (by decide +kernel) rfl (Nat.le_of_ble_eq_true rfl) rfl ?_
  intro pP eE sS mM aS bL mT cO X
  obtain ⟨hm, hm2, hc, h8, hk, hk4⟩ := S
  refine zr_aloadn X 0 dX6_holds_0 rfl ?_
  refine zr_iloadn X 1 dX6_holds_1 rfl ?_
  refine zr_dVi (C := RX6) (ci := 6) [.int (x)] [] X (zK_ok A D tc tF tL tM) (c_isFirm_f E μ (hc) h8 hx) k_611 k_613 kp_2 k_7 k_614 hdX6_isFirm ⟨rfl, rfl⟩ ⟨Nat.le_of_ble_eq_true rfl, Nat.le_of_ble_eq_true rfl⟩ (by omega) rfl rfl rfl rfl (Nat.le_of_ble_eq_true rfl) dX6_holds_2 ?_
  refine zr_if_eq X 30 dX6_holds_5 (by decide) (fun _ => ?_) (fun q => absurd (zq_eq0 (by omega)) q)
  refine zr_iconst X (-1) dX6_holds_30 (by decide +kernel) ?_
  exact zr_iret X dX6_holds_31 ⟨rfl, rfl⟩

set_option maxHeartbeats 4000000 in
set_option maxRecDepth 100000 in
theorem c_holds_u2 {l : Launch} {D : va_G} {tc : Nat → ClassId} {ad : Nat → Nat} {A : Nat → Prop} {tF tL tM : Nat} (E : zN 6 A ad) (μ : Nat → Int32) {m c k : Nat} (S : refS μ m c k) {f : Nat} (hf : f < c) {x : Int32} (hx : ¬ zin x 0 19)  : zMi l yX6_holds cX6_holds 3 (some .int) (zrm 5) (zK A D tc tF tL tM) A D vwCl tc ad 6 shR [.ref (ad (0)), .int (nI (f)), .int (x)] μ (fun r u => r = -1 ∧ u = μ) := by
  refine zM_of RX6 [(0, .ref (ad (0))), (1, .int (nI (f))), (2, .int (x))] (zK_ok A D tc tF tL tM) E.1 E.2 owR_ok (by decide +kernel) rfl (Nat.le_of_ble_eq_true rfl) rfl ?_
  intro pP eE sS mM aS bL mT cO X
  obtain ⟨hm, hm2, hc, h8, hk, hk4⟩ := S
  refine zr_aloadn X 0 dX6_holds_0 rfl ?_
  refine zr_iloadn X 1 dX6_holds_1 rfl ?_
  refine zr_dVi (C := RX6) (ci := 6) [.int (nI (f))] [] X (zK_ok A D tc tF tL tM) (c_isFirm_t E μ (hc) h8 (by omega)) k_611 k_613 kp_2 k_7 k_614 hdX6_isFirm ⟨rfl, rfl⟩ ⟨Nat.le_of_ble_eq_true rfl, Nat.le_of_ble_eq_true rfl⟩ (by omega) rfl rfl rfl rfl (Nat.le_of_ble_eq_true rfl) dX6_holds_2 ?_
  refine zr_if_eq X 30 dX6_holds_5 (by decide) (fun q => absurd q (nI_ne0 (by omega) (by omega))) (fun _ => ?_)
  refine zr_iloadn X 2 dX6_holds_8 rfl ?_
  refine zr_dSi [.int (x)] [] X (zK_ok A D tc tF tL tM) (c_isVintage_f E μ hx) k_633 k_634 k_7 k_635 hdX6_isVintage ⟨rfl, rfl⟩ ⟨Nat.le_of_ble_eq_true rfl, Nat.le_of_ble_eq_true rfl⟩ rfl rfl (Nat.le_of_ble_eq_true rfl) dX6_holds_9 ?_
  refine zr_if_eq X 30 dX6_holds_12 (by decide) (fun _ => ?_) (fun q => absurd (zq_eq0 (by omega)) q)
  refine zr_iconst X (-1) dX6_holds_30 (by decide +kernel) ?_
  exact zr_iret X dX6_holds_31 ⟨rfl, rfl⟩

set_option maxHeartbeats 4000000 in
set_option maxRecDepth 100000 in
theorem c_holds_ok {l : Launch} {D : va_G} {tc : Nat → ClassId} {ad : Nat → Nat} {A : Nat → Prop} {tF tL tM : Nat} (E : zN 6 A ad) (μ : Nat → Int32) {m c k : Nat} (S : refS μ m c k) {f : Nat} (hf : f < c) {v : Nat} (hv : v ≤ 19)  : zMi l yX6_holds cX6_holds 3 (some .int) (zrm 5) (zK A D tc tF tL tM) A D vwCl tc ad 6 shR [.ref (ad (0)), .int (nI (f)), .int (nI (v))] μ (fun r u => r = μ (32 * f + v + 7) ∧ u = μ) := by
  refine zM_of RX6 [(0, .ref (ad (0))), (1, .int (nI (f))), (2, .int (nI (v)))] (zK_ok A D tc tF tL tM) E.1 E.2 owR_ok (by decide +kernel) rfl (Nat.le_of_ble_eq_true rfl) rfl ?_
  intro pP eE sS mM aS bL mT cO X
  obtain ⟨hm, hm2, hc, h8, hk, hk4⟩ := S
  refine zr_aloadn X 0 dX6_holds_0 rfl ?_
  refine zr_iloadn X 1 dX6_holds_1 rfl ?_
  refine zr_dVi (C := RX6) (ci := 6) [.int (nI (f))] [] X (zK_ok A D tc tF tL tM) (c_isFirm_t E μ (hc) h8 (by omega)) k_611 k_613 kp_2 k_7 k_614 hdX6_isFirm ⟨rfl, rfl⟩ ⟨Nat.le_of_ble_eq_true rfl, Nat.le_of_ble_eq_true rfl⟩ (by omega) rfl rfl rfl rfl (Nat.le_of_ble_eq_true rfl) dX6_holds_2 ?_
  refine zr_if_eq X 30 dX6_holds_5 (by decide) (fun q => absurd q (nI_ne0 (by omega) (by omega))) (fun _ => ?_)
  refine zr_iloadn X 2 dX6_holds_8 rfl ?_
  refine zr_dSi [.int (nI (v))] [] X (zK_ok A D tc tF tL tM) (c_isVintage_t E μ (by omega) (by omega)) k_633 k_634 k_7 k_635 hdX6_isVintage ⟨rfl, rfl⟩ ⟨Nat.le_of_ble_eq_true rfl, Nat.le_of_ble_eq_true rfl⟩ rfl rfl (Nat.le_of_ble_eq_true rfl) dX6_holds_9 ?_
  refine zr_if_eq X 30 dX6_holds_12 (by decide) (fun q => absurd q (nI_ne0 (by omega) (by omega))) (fun _ => ?_)
  refine zr_aloadn X 0 dX6_holds_15 rfl ?_
  refine zr_get X (ci := 6) (q := 0) (zR _) (.ref (ad (1))) dX6_holds_16 (by omega) rfl rfl inX6 (by decide) rfl (zvR rfl) rfl k_539 ?_
  refine zr_iloadn X 1 dX6_holds_19 rfl ?_
  refine zr_iconst X (nI (0)) dX6_holds_20 (by decide +kernel) ?_
  refine zr_iloadn X 2 dX6_holds_21 rfl ?_
  refine zr_iadd X (nI (v)) dX6_holds_22 ((nI_add _ _).trans (congrArg nI (by omega))) ?_
  refine zr_dSi [.int (nI (f)), .int (nI (v))] [.ref (ad (1))] X (zK_ok A D tc tF tL tM) (zM_i (z1 := nI (32 * f + v + 7)) (c_of E μ (f) (v)) (congrArg nI (by omega))) k_597 k_598 k_7 k_599 hdX6_of ⟨rfl, rfl⟩ ⟨Nat.le_of_ble_eq_true rfl, Nat.le_of_ble_eq_true rfl⟩ rfl rfl (Nat.le_of_ble_eq_true rfl) dX6_holds_23 ?_
  refine zr_iald X (j := 32 * f + v + 7) 0 (μ (32 * f + v + 7)) dX6_holds_26 (by omega) rfl rfl rfl (by omega) (by omega) (zcg (b := 32 * f + v + 7) (by omega) (rfl)) ?_
  refine zr_goto X 31 dX6_holds_27 (by decide) ?_
  exact zr_iret X dX6_holds_31 ⟨rfl, rfl⟩

set_option maxHeartbeats 4000000 in
set_option maxRecDepth 100000 in
theorem c_offsets_u1 {l : Launch} {D : va_G} {tc : Nat → ClassId} {ad : Nat → Nat} {A : Nat → Prop} {tF tL tM : Nat} (E : zN 6 A ad) (μ : Nat → Int32) {m c k : Nat} (S : refS μ m c k) {x : Int32} (hx : ¬ zfm x c) (g : Int32) (z : Int32)  : zMi l yX6_offsets cX6_offsets 4 (some .int) (zrm 5) (zK A D tc tF tL tM) A D vwCl tc ad 6 shR [.ref (ad (0)), .int (x), .int (g), .int (z)] μ (fun r u => r = -1 ∧ u = μ) := by
  refine zM_of RX6 [(0, .ref (ad (0))), (1, .int (x)), (2, .int (g)), (3, .int (z))] (zK_ok A D tc tF tL tM) E.1 E.2 owR_ok (by decide +kernel) rfl (Nat.le_of_ble_eq_true rfl) rfl ?_
  intro pP eE sS mM aS bL mT cO X
  obtain ⟨hm, hm2, hc, h8, hk, hk4⟩ := S
  refine zr_aloadn X 0 dX6_offsets_0 rfl ?_
  refine zr_iloadn X 1 dX6_offsets_1 rfl ?_
  refine zr_dVi (C := RX6) (ci := 6) [.int (x)] [] X (zK_ok A D tc tF tL tM) (c_isFirm_f E μ (hc) h8 hx) k_611 k_613 kp_2 k_7 k_614 hdX6_isFirm ⟨rfl, rfl⟩ ⟨Nat.le_of_ble_eq_true rfl, Nat.le_of_ble_eq_true rfl⟩ (by omega) rfl rfl rfl rfl (Nat.le_of_ble_eq_true rfl) dX6_offsets_2 ?_
  refine zr_if_eq X 15 dX6_offsets_5 (by decide) (fun _ => ?_) (fun q => absurd (zq_eq0 (by omega)) q)
  refine zr_iconst X (-1) dX6_offsets_15 (by decide +kernel) ?_
  exact zr_iret X dX6_offsets_16 ⟨rfl, rfl⟩

set_option maxHeartbeats 4000000 in
set_option maxRecDepth 100000 in
theorem c_offsets_u2 {l : Launch} {D : va_G} {tc : Nat → ClassId} {ad : Nat → Nat} {A : Nat → Prop} {tF tL tM : Nat} (E : zN 6 A ad) (μ : Nat → Int32) {m c k : Nat} (S : refS μ m c k) {f : Nat} (hf : f < c) {x : Int32} (hx : ¬ zin x 0 2) (z : Int32)  : zMi l yX6_offsets cX6_offsets 4 (some .int) (zrm 5) (zK A D tc tF tL tM) A D vwCl tc ad 6 shR [.ref (ad (0)), .int (nI (f)), .int (x), .int (z)] μ (fun r u => r = -1 ∧ u = μ) := by
  refine zM_of RX6 [(0, .ref (ad (0))), (1, .int (nI (f))), (2, .int (x)), (3, .int (z))] (zK_ok A D tc tF tL tM) E.1 E.2 owR_ok (by decide +kernel) rfl (Nat.le_of_ble_eq_true rfl) rfl ?_
  intro pP eE sS mM aS bL mT cO X
  obtain ⟨hm, hm2, hc, h8, hk, hk4⟩ := S
  refine zr_aloadn X 0 dX6_offsets_0 rfl ?_
  refine zr_iloadn X 1 dX6_offsets_1 rfl ?_
  refine zr_dVi (C := RX6) (ci := 6) [.int (nI (f))] [] X (zK_ok A D tc tF tL tM) (c_isFirm_t E μ (hc) h8 (by omega)) k_611 k_613 kp_2 k_7 k_614 hdX6_isFirm ⟨rfl, rfl⟩ ⟨Nat.le_of_ble_eq_true rfl, Nat.le_of_ble_eq_true rfl⟩ (by omega) rfl rfl rfl rfl (Nat.le_of_ble_eq_true rfl) dX6_offsets_2 ?_
  refine zr_if_eq X 15 dX6_offsets_5 (by decide) (fun q => absurd q (nI_ne0 (by omega) (by omega))) (fun _ => ?_)
  refine zr_iloadn X 2 dX6_offsets_8 rfl ?_
  refine zr_dSi [.int (x)] [] X (zK_ok A D tc tF tL tM) (c_isGrade_f E μ hx) k_626 k_627 k_7 k_628 hdX6_isGrade ⟨rfl, rfl⟩ ⟨Nat.le_of_ble_eq_true rfl, Nat.le_of_ble_eq_true rfl⟩ rfl rfl (Nat.le_of_ble_eq_true rfl) dX6_offsets_9 ?_
  refine zr_if_ne X 17 dX6_offsets_12 (by decide) (fun q => absurd (zq_eq0 (by omega)) q) (fun _ => ?_)
  refine zr_iconst X (-1) dX6_offsets_15 (by decide +kernel) ?_
  exact zr_iret X dX6_offsets_16 ⟨rfl, rfl⟩

set_option maxHeartbeats 4000000 in
set_option maxRecDepth 100000 in
theorem c_offsets_b {l : Launch} {D : va_G} {tc : Nat → ClassId} {ad : Nat → Nat} {A : Nat → Prop} {tF tL tM : Nat} (E : zN 6 A ad) (μ : Nat → Int32) {m c k : Nat} (S : refS μ m c k) {f : Nat} (hf : f < c) {g : Nat} (hg : g ≤ 2) {z : Int32} (hx : ¬ zin z 0 2)  : zMi l yX6_offsets cX6_offsets 4 (some .int) (zrm 5) (zK A D tc tF tL tM) A D vwCl tc ad 6 shR [.ref (ad (0)), .int (nI (f)), .int (nI (g)), .int (z)] μ (fun r u => r = -2 ∧ u = μ) := by
  refine zM_of RX6 [(0, .ref (ad (0))), (1, .int (nI (f))), (2, .int (nI (g))), (3, .int (z))] (zK_ok A D tc tF tL tM) E.1 E.2 owR_ok (by decide +kernel) rfl (Nat.le_of_ble_eq_true rfl) rfl ?_
  intro pP eE sS mM aS bL mT cO X
  obtain ⟨hm, hm2, hc, h8, hk, hk4⟩ := S
  refine zr_aloadn X 0 dX6_offsets_0 rfl ?_
  refine zr_iloadn X 1 dX6_offsets_1 rfl ?_
  refine zr_dVi (C := RX6) (ci := 6) [.int (nI (f))] [] X (zK_ok A D tc tF tL tM) (c_isFirm_t E μ (hc) h8 (by omega)) k_611 k_613 kp_2 k_7 k_614 hdX6_isFirm ⟨rfl, rfl⟩ ⟨Nat.le_of_ble_eq_true rfl, Nat.le_of_ble_eq_true rfl⟩ (by omega) rfl rfl rfl rfl (Nat.le_of_ble_eq_true rfl) dX6_offsets_2 ?_
  refine zr_if_eq X 15 dX6_offsets_5 (by decide) (fun q => absurd q (nI_ne0 (by omega) (by omega))) (fun _ => ?_)
  refine zr_iloadn X 2 dX6_offsets_8 rfl ?_
  refine zr_dSi [.int (nI (g))] [] X (zK_ok A D tc tF tL tM) (c_isGrade_t E μ (by omega) (by omega)) k_626 k_627 k_7 k_628 hdX6_isGrade ⟨rfl, rfl⟩ ⟨Nat.le_of_ble_eq_true rfl, Nat.le_of_ble_eq_true rfl⟩ rfl rfl (Nat.le_of_ble_eq_true rfl) dX6_offsets_9 ?_
  refine zr_if_ne X 17 dX6_offsets_12 (by decide) (fun _ => ?_) (fun q => absurd q (nI_ne0 (by omega) (by omega)))
  refine zr_iloadn X 3 dX6_offsets_17 rfl ?_
  refine zr_if_ne X 37 dX6_offsets_18 (by decide) (fun _ => ?_) (fun q => absurd q (fun q => hx ⟨0, by omega, by omega, q⟩))
  refine zr_iloadn X 3 dX6_offsets_37 rfl ?_
  refine zr_iconst X (nI (1)) dX6_offsets_38 (by decide +kernel) ?_
  refine zr_icmp_ne X 51 dX6_offsets_39 (by decide) (fun _ => ?_) (fun q => absurd q (fun q => hx ⟨1, by omega, by omega, q⟩))
  refine zr_iloadn X 3 dX6_offsets_51 rfl ?_
  refine zr_iconst X (nI (2)) dX6_offsets_52 (by decide +kernel) ?_
  refine zr_icmp_ne X 72 dX6_offsets_53 (by decide) (fun _ => ?_) (fun q => absurd q (fun q => hx ⟨2, by omega, by omega, q⟩))
  refine zr_bipush X (-2) dX6_offsets_72 (by decide +kernel) ?_
  exact zr_iret X dX6_offsets_74 ⟨rfl, rfl⟩

set_option maxHeartbeats 4000000 in
set_option maxRecDepth 100000 in
theorem c_offsets_0 {l : Launch} {D : va_G} {tc : Nat → ClassId} {ad : Nat → Nat} {A : Nat → Prop} {tF tL tM : Nat} (E : zN 6 A ad) (μ : Nat → Int32) {m c k : Nat} (S : refS μ m c k) {f : Nat} (hf : f < c) {g : Nat} (hg : g ≤ 2)  : zMi l yX6_offsets cX6_offsets 4 (some .int) (zrm 5) (zK A D tc tF tL tM) A D vwCl tc ad 6 shR [.ref (ad (0)), .int (nI (f)), .int (nI (g)), .int (nI (0))] μ (fun r u => r = μ (32 * f + g + 27) ∧ u = μ) := by
  refine zM_of RX6 [(0, .ref (ad (0))), (1, .int (nI (f))), (2, .int (nI (g))), (3, .int (nI (0)))] (zK_ok A D tc tF tL tM) E.1 E.2 owR_ok (by decide +kernel) rfl (Nat.le_of_ble_eq_true rfl) rfl ?_
  intro pP eE sS mM aS bL mT cO X
  obtain ⟨hm, hm2, hc, h8, hk, hk4⟩ := S
  refine zr_aloadn X 0 dX6_offsets_0 rfl ?_
  refine zr_iloadn X 1 dX6_offsets_1 rfl ?_
  refine zr_dVi (C := RX6) (ci := 6) [.int (nI (f))] [] X (zK_ok A D tc tF tL tM) (c_isFirm_t E μ (hc) h8 (by omega)) k_611 k_613 kp_2 k_7 k_614 hdX6_isFirm ⟨rfl, rfl⟩ ⟨Nat.le_of_ble_eq_true rfl, Nat.le_of_ble_eq_true rfl⟩ (by omega) rfl rfl rfl rfl (Nat.le_of_ble_eq_true rfl) dX6_offsets_2 ?_
  refine zr_if_eq X 15 dX6_offsets_5 (by decide) (fun q => absurd q (nI_ne0 (by omega) (by omega))) (fun _ => ?_)
  refine zr_iloadn X 2 dX6_offsets_8 rfl ?_
  refine zr_dSi [.int (nI (g))] [] X (zK_ok A D tc tF tL tM) (c_isGrade_t E μ (by omega) (by omega)) k_626 k_627 k_7 k_628 hdX6_isGrade ⟨rfl, rfl⟩ ⟨Nat.le_of_ble_eq_true rfl, Nat.le_of_ble_eq_true rfl⟩ rfl rfl (Nat.le_of_ble_eq_true rfl) dX6_offsets_9 ?_
  refine zr_if_ne X 17 dX6_offsets_12 (by decide) (fun _ => ?_) (fun q => absurd q (nI_ne0 (by omega) (by omega)))
  refine zr_iloadn X 3 dX6_offsets_17 rfl ?_
  refine zr_if_ne X 37 dX6_offsets_18 (by decide) (fun q => absurd (zq_eq0 (by omega)) q) (fun _ => ?_)
  refine zr_aloadn X 0 dX6_offsets_21 rfl ?_
  refine zr_get X (ci := 6) (q := 0) (zR _) (.ref (ad (1))) dX6_offsets_22 (by omega) rfl rfl inX6 (by decide) rfl (zvR rfl) rfl k_539 ?_
  refine zr_iloadn X 1 dX6_offsets_25 rfl ?_
  refine zr_bipush X (nI (20)) dX6_offsets_26 (by decide +kernel) ?_
  refine zr_iloadn X 2 dX6_offsets_28 rfl ?_
  refine zr_iadd X (nI (g + 20)) dX6_offsets_29 ((nI_add _ _).trans (congrArg nI (by omega))) ?_
  refine zr_dSi [.int (nI (f)), .int (nI (g + 20))] [.ref (ad (1))] X (zK_ok A D tc tF tL tM) (zM_i (z1 := nI (32 * f + g + 27)) (c_of E μ (f) (g + 20)) (congrArg nI (by omega))) k_597 k_598 k_7 k_599 hdX6_of ⟨rfl, rfl⟩ ⟨Nat.le_of_ble_eq_true rfl, Nat.le_of_ble_eq_true rfl⟩ rfl rfl (Nat.le_of_ble_eq_true rfl) dX6_offsets_30 ?_
  refine zr_iald X (j := 32 * f + g + 27) 0 (μ (32 * f + g + 27)) dX6_offsets_33 (by omega) rfl rfl rfl (by omega) (by omega) (zcg (b := 32 * f + g + 27) (by omega) (rfl)) ?_
  refine zr_goto X 74 dX6_offsets_34 (by decide) ?_
  exact zr_iret X dX6_offsets_74 ⟨rfl, rfl⟩

set_option maxHeartbeats 4000000 in
set_option maxRecDepth 100000 in
theorem c_offsets_1 {l : Launch} {D : va_G} {tc : Nat → ClassId} {ad : Nat → Nat} {A : Nat → Prop} {tF tL tM : Nat} (E : zN 6 A ad) (μ : Nat → Int32) {m c k : Nat} (S : refS μ m c k) {f : Nat} (hf : f < c) {g : Nat} (hg : g ≤ 2)  : zMi l yX6_offsets cX6_offsets 4 (some .int) (zrm 5) (zK A D tc tF tL tM) A D vwCl tc ad 6 shR [.ref (ad (0)), .int (nI (f)), .int (nI (g)), .int (nI (1))] μ (fun r u => r = zmay μ f g ∧ u = μ) := by
  refine zM_of RX6 [(0, .ref (ad (0))), (1, .int (nI (f))), (2, .int (nI (g))), (3, .int (nI (1)))] (zK_ok A D tc tF tL tM) E.1 E.2 owR_ok (by decide +kernel) rfl (Nat.le_of_ble_eq_true rfl) rfl ?_
  intro pP eE sS mM aS bL mT cO X
  obtain ⟨hm, hm2, hc, h8, hk, hk4⟩ := S
  refine zr_aloadn X 0 dX6_offsets_0 rfl ?_
  refine zr_iloadn X 1 dX6_offsets_1 rfl ?_
  refine zr_dVi (C := RX6) (ci := 6) [.int (nI (f))] [] X (zK_ok A D tc tF tL tM) (c_isFirm_t E μ (hc) h8 (by omega)) k_611 k_613 kp_2 k_7 k_614 hdX6_isFirm ⟨rfl, rfl⟩ ⟨Nat.le_of_ble_eq_true rfl, Nat.le_of_ble_eq_true rfl⟩ (by omega) rfl rfl rfl rfl (Nat.le_of_ble_eq_true rfl) dX6_offsets_2 ?_
  refine zr_if_eq X 15 dX6_offsets_5 (by decide) (fun q => absurd q (nI_ne0 (by omega) (by omega))) (fun _ => ?_)
  refine zr_iloadn X 2 dX6_offsets_8 rfl ?_
  refine zr_dSi [.int (nI (g))] [] X (zK_ok A D tc tF tL tM) (c_isGrade_t E μ (by omega) (by omega)) k_626 k_627 k_7 k_628 hdX6_isGrade ⟨rfl, rfl⟩ ⟨Nat.le_of_ble_eq_true rfl, Nat.le_of_ble_eq_true rfl⟩ rfl rfl (Nat.le_of_ble_eq_true rfl) dX6_offsets_9 ?_
  refine zr_if_ne X 17 dX6_offsets_12 (by decide) (fun _ => ?_) (fun q => absurd q (nI_ne0 (by omega) (by omega)))
  refine zr_iloadn X 3 dX6_offsets_17 rfl ?_
  refine zr_if_ne X 37 dX6_offsets_18 (by decide) (fun _ => ?_) (fun q => absurd q (nI_ne0 (by omega) (by omega)))
  refine zr_iloadn X 3 dX6_offsets_37 rfl ?_
  refine zr_iconst X (nI (1)) dX6_offsets_38 (by decide +kernel) ?_
  refine zr_icmp_ne X 51 dX6_offsets_39 (by decide) (fun q => absurd (zq_eq (by omega)) q) (fun _ => ?_)
  refine zr_aloadn X 0 dX6_offsets_42 rfl ?_
  refine zr_iloadn X 1 dX6_offsets_43 rfl ?_
  refine zr_iloadn X 2 dX6_offsets_44 rfl ?_
  refine zr_dVi (C := RX6) (ci := 6) [.int (nI (f)), .int (nI (g))] [] X (zK_ok A D tc tF tL tM) (c_mayUse E μ (f := f) (g := g) (by omega) (by omega)) k_668 k_670 kp_7 k_7 k_671 hdX6_mayUse ⟨rfl, rfl⟩ ⟨Nat.le_of_ble_eq_true rfl, Nat.le_of_ble_eq_true rfl⟩ (by omega) rfl rfl rfl rfl (Nat.le_of_ble_eq_true rfl) dX6_offsets_45 ?_
  refine zr_goto X 74 dX6_offsets_48 (by decide) ?_
  exact zr_iret X dX6_offsets_74 ⟨rfl, rfl⟩

set_option maxHeartbeats 4000000 in
set_option maxRecDepth 100000 in
theorem c_offsets_2 {l : Launch} {D : va_G} {tc : Nat → ClassId} {ad : Nat → Nat} {A : Nat → Prop} {tF tL tM : Nat} (E : zN 6 A ad) (μ : Nat → Int32) {m c k : Nat} (S : refS μ m c k) {f : Nat} (hf : f < c) {g : Nat} (hg : g ≤ 2)  : zMi l yX6_offsets cX6_offsets 4 (some .int) (zrm 5) (zK A D tc tF tL tM) A D vwCl tc ad 6 shR [.ref (ad (0)), .int (nI (f)), .int (nI (g)), .int (nI (2))] μ (fun r u => r = μ (32 * f + g + 30) ∧ u = μ) := by
  refine zM_of RX6 [(0, .ref (ad (0))), (1, .int (nI (f))), (2, .int (nI (g))), (3, .int (nI (2)))] (zK_ok A D tc tF tL tM) E.1 E.2 owR_ok (by decide +kernel) rfl (Nat.le_of_ble_eq_true rfl) rfl ?_
  intro pP eE sS mM aS bL mT cO X
  obtain ⟨hm, hm2, hc, h8, hk, hk4⟩ := S
  refine zr_aloadn X 0 dX6_offsets_0 rfl ?_
  refine zr_iloadn X 1 dX6_offsets_1 rfl ?_
  refine zr_dVi (C := RX6) (ci := 6) [.int (nI (f))] [] X (zK_ok A D tc tF tL tM) (c_isFirm_t E μ (hc) h8 (by omega)) k_611 k_613 kp_2 k_7 k_614 hdX6_isFirm ⟨rfl, rfl⟩ ⟨Nat.le_of_ble_eq_true rfl, Nat.le_of_ble_eq_true rfl⟩ (by omega) rfl rfl rfl rfl (Nat.le_of_ble_eq_true rfl) dX6_offsets_2 ?_
  refine zr_if_eq X 15 dX6_offsets_5 (by decide) (fun q => absurd q (nI_ne0 (by omega) (by omega))) (fun _ => ?_)
  refine zr_iloadn X 2 dX6_offsets_8 rfl ?_
  refine zr_dSi [.int (nI (g))] [] X (zK_ok A D tc tF tL tM) (c_isGrade_t E μ (by omega) (by omega)) k_626 k_627 k_7 k_628 hdX6_isGrade ⟨rfl, rfl⟩ ⟨Nat.le_of_ble_eq_true rfl, Nat.le_of_ble_eq_true rfl⟩ rfl rfl (Nat.le_of_ble_eq_true rfl) dX6_offsets_9 ?_
  refine zr_if_ne X 17 dX6_offsets_12 (by decide) (fun _ => ?_) (fun q => absurd q (nI_ne0 (by omega) (by omega)))
  refine zr_iloadn X 3 dX6_offsets_17 rfl ?_
  refine zr_if_ne X 37 dX6_offsets_18 (by decide) (fun _ => ?_) (fun q => absurd q (nI_ne0 (by omega) (by omega)))
  refine zr_iloadn X 3 dX6_offsets_37 rfl ?_
  refine zr_iconst X (nI (1)) dX6_offsets_38 (by decide +kernel) ?_
  refine zr_icmp_ne X 51 dX6_offsets_39 (by decide) (fun _ => ?_) (fun q => absurd q (zq_ne (by omega) (by omega) (by omega)))
  refine zr_iloadn X 3 dX6_offsets_51 rfl ?_
  refine zr_iconst X (nI (2)) dX6_offsets_52 (by decide +kernel) ?_
  refine zr_icmp_ne X 72 dX6_offsets_53 (by decide) (fun q => absurd (zq_eq (by omega)) q) (fun _ => ?_)
  refine zr_aloadn X 0 dX6_offsets_56 rfl ?_
  refine zr_get X (ci := 6) (q := 0) (zR _) (.ref (ad (1))) dX6_offsets_57 (by omega) rfl rfl inX6 (by decide) rfl (zvR rfl) rfl k_539 ?_
  refine zr_iloadn X 1 dX6_offsets_60 rfl ?_
  refine zr_bipush X (nI (23)) dX6_offsets_61 (by decide +kernel) ?_
  refine zr_iloadn X 2 dX6_offsets_63 rfl ?_
  refine zr_iadd X (nI (g + 23)) dX6_offsets_64 ((nI_add _ _).trans (congrArg nI (by omega))) ?_
  refine zr_dSi [.int (nI (f)), .int (nI (g + 23))] [.ref (ad (1))] X (zK_ok A D tc tF tL tM) (zM_i (z1 := nI (32 * f + g + 30)) (c_of E μ (f) (g + 23)) (congrArg nI (by omega))) k_597 k_598 k_7 k_599 hdX6_of ⟨rfl, rfl⟩ ⟨Nat.le_of_ble_eq_true rfl, Nat.le_of_ble_eq_true rfl⟩ rfl rfl (Nat.le_of_ble_eq_true rfl) dX6_offsets_65 ?_
  refine zr_iald X (j := 32 * f + g + 30) 0 (μ (32 * f + g + 30)) dX6_offsets_68 (by omega) rfl rfl rfl (by omega) (by omega) (zcg (b := 32 * f + g + 30) (by omega) (rfl)) ?_
  refine zr_goto X 74 dX6_offsets_69 (by decide) ?_
  exact zr_iret X dX6_offsets_74 ⟨rfl, rfl⟩

set_option maxHeartbeats 4000000 in
set_option maxRecDepth 100000 in
theorem c_heldOf {l : Launch} {D : va_G} {tc : Nat → ClassId} {ad : Nat → Nat} {A : Nat → Prop} {tF tL tM : Nat} (E : zN 6 A ad) (μ : Nat → Int32) {c : Nat} (hc : μ 1 = nI c) (h8 : c ≤ 8) {w : Nat} (hw : w < 32)  : zMi l yX6_heldOf cX6_heldOf 4 (some .int) (zrm 3) (zK A D tc tF tL tM) A D vwCl tc ad 6 shR [.ref (ad (0)), .int (nI (w))] μ (fun r u => r = zsum (fun f => μ (32 * f + w + 7)) c ∧ u = μ) := by
  refine zM_of RX6 [(0, .ref (ad (0))), (1, .int (nI (w)))] (zK_ok A D tc tF tL tM) E.1 E.2 owR_ok (by decide +kernel) rfl (Nat.le_of_ble_eq_true rfl) rfl ?_
  intro pP eE sS mM aS bL mT cO X
  refine zr_iconst X (nI (0)) dX6_heldOf_0 (by decide +kernel) ?_
  refine zr_istoren X [1, 2, 0] [(0, .ref (ad (0))), (1, .int (nI (w))), (2, .int (nI (0)))] dX6_heldOf_1 (by decide) rfl ?_
  refine zr_iconst X (nI (0)) dX6_heldOf_2 (by decide +kernel) ?_
  refine zr_istoren X [1, 2, 3, 0] [(0, .ref (ad (0))), (1, .int (nI (w))), (2, .int (nI (0))), (3, .int (nI (0)))] dX6_heldOf_3 (by decide) rfl ?_
  refine zr_for X (c) (fun i => μ) (fun i => [(0, .ref (ad (0))), (1, .int (nI (w))), (2, .int (zsum (fun f => μ (32 * f + w + 7)) (i))), (3, .int (nI (i)))]) [] (rfl) rfl ?_ ?_
  · refine zr_iloadn X 3 dX6_heldOf_4 rfl ?_
    refine zr_aloadn X 0 dX6_heldOf_5 rfl ?_
    refine zr_get X (ci := 6) (q := 0) (zR _) (.ref (ad (1))) dX6_heldOf_6 (by omega) rfl rfl inX6 (by decide) rfl (zvR rfl) rfl k_539 ?_
    refine zr_iconst X (nI (1)) dX6_heldOf_9 (by decide +kernel) ?_
    refine zr_iald X (j := 1) 0 (nI (c)) dX6_heldOf_10 (by omega) rfl rfl rfl (by omega) (by omega) (zcg (b := 1) (by omega) (hc)) ?_
    refine zr_icmp_ge X 33 dX6_heldOf_11 (by decide) (fun _ => ?_) (fun q => absurd (zq_le (by omega) (by omega)) q)
    refine zr_iloadn X 2 dX6_heldOf_33 rfl ?_
    exact zr_iret X dX6_heldOf_34 ⟨rfl, rfl⟩
  · intro i hi ih4
    refine zr_iloadn X 3 dX6_heldOf_4 rfl ?_
    refine zr_aloadn X 0 dX6_heldOf_5 rfl ?_
    refine zr_get X (ci := 6) (q := 0) (zR _) (.ref (ad (1))) dX6_heldOf_6 (by omega) rfl rfl inX6 (by decide) rfl (zvR rfl) rfl k_539 ?_
    refine zr_iconst X (nI (1)) dX6_heldOf_9 (by decide +kernel) ?_
    refine zr_iald X (j := 1) 0 (nI (c)) dX6_heldOf_10 (by omega) rfl rfl rfl (by omega) (by omega) (zcg (b := 1) (by omega) (hc)) ?_
    refine zr_icmp_ge X 33 dX6_heldOf_11 (by decide) (fun q => absurd q (nI_ge (by omega) (by omega))) (fun _ => ?_)
    refine zr_iloadn X 2 dX6_heldOf_14 rfl ?_
    refine zr_aloadn X 0 dX6_heldOf_15 rfl ?_
    refine zr_get X (ci := 6) (q := 0) (zR _) (.ref (ad (1))) dX6_heldOf_16 (by omega) rfl rfl inX6 (by decide) rfl (zvR rfl) rfl k_539 ?_
    refine zr_iloadn X 3 dX6_heldOf_19 rfl ?_
    refine zr_iloadn X 1 dX6_heldOf_20 rfl ?_
    refine zr_dSi [.int (nI (i)), .int (nI (w))] [.ref (ad (1)), .int (zsum (fun f => μ (32 * f + w + 7)) (i))] X (zK_ok A D tc tF tL tM) (zM_i (z1 := nI (32 * i + w + 7)) (c_of E μ (i) (w)) (congrArg nI (by omega))) k_597 k_598 k_7 k_599 hdX6_of ⟨rfl, rfl⟩ ⟨Nat.le_of_ble_eq_true rfl, Nat.le_of_ble_eq_true rfl⟩ rfl rfl (Nat.le_of_ble_eq_true rfl) dX6_heldOf_21 ?_
    refine zr_iald X (j := 32 * i + w + 7) 0 (μ (32 * i + w + 7)) dX6_heldOf_24 (by omega) rfl rfl rfl (by omega) (by omega) (zcg (b := 32 * i + w + 7) (by omega) (rfl)) ?_
    refine zr_iadd X ((zsum (fun f => μ (32 * f + w + 7)) (i)) + (μ (32 * i + w + 7))) dX6_heldOf_25 rfl ?_
    refine zr_istoren X [1, 2, 0, 3] [(0, .ref (ad (0))), (1, .int (nI (w))), (2, .int ((zsum (fun f => μ (32 * f + w + 7)) (i)) + (μ (32 * i + w + 7)))), (3, .int (nI (i)))] dX6_heldOf_26 (by decide) rfl ?_
    refine zr_iinc X 3 (nI (i + 1)) [1, 2, 3, 0] [(0, .ref (ad (0))), (1, .int (nI (w))), (2, .int ((zsum (fun f => μ (32 * f + w + 7)) (i)) + (μ (32 * i + w + 7)))), (3, .int (nI (i + 1)))] dX6_heldOf_27 rfl (zinc _) (by decide) rfl ?_
    refine zr_goto X 4 dX6_heldOf_30 (by decide) ?_
    exact ih4

set_option maxHeartbeats 4000000 in
set_option maxRecDepth 100000 in
theorem c_holders {l : Launch} {D : va_G} {tc : Nat → ClassId} {ad : Nat → Nat} {A : Nat → Prop} {tF tL tM : Nat} (E : zN 6 A ad) (μ : Nat → Int32) {c : Nat} (hc : μ 1 = nI c) (h8 : c ≤ 8) {v : Nat} (hv : v ≤ 19)  : zMi l yX6_holders cX6_holders 4 (some .int) (zrm 3) (zK A D tc tF tL tM) A D vwCl tc ad 6 shR [.ref (ad (0)), .int (nI (v))] μ (fun r u => r = nI (zcnt (fun f => μ (32 * f + v + 7)) c) ∧ u = μ) := by
  refine zM_of RX6 [(0, .ref (ad (0))), (1, .int (nI (v)))] (zK_ok A D tc tF tL tM) E.1 E.2 owR_ok (by decide +kernel) rfl (Nat.le_of_ble_eq_true rfl) rfl ?_
  intro pP eE sS mM aS bL mT cO X
  refine zr_iconst X (nI (0)) dX6_holders_0 (by decide +kernel) ?_
  refine zr_istoren X [1, 2, 0] [(0, .ref (ad (0))), (1, .int (nI (v))), (2, .int (nI (0)))] dX6_holders_1 (by decide) rfl ?_
  refine zr_iconst X (nI (0)) dX6_holders_2 (by decide +kernel) ?_
  refine zr_istoren X [1, 2, 3, 0] [(0, .ref (ad (0))), (1, .int (nI (v))), (2, .int (nI (0))), (3, .int (nI (0)))] dX6_holders_3 (by decide) rfl ?_
  refine zr_for X (c) (fun i => μ) (fun i => [(0, .ref (ad (0))), (1, .int (nI (v))), (2, .int (nI (zcnt (fun f => μ (32 * f + v + 7)) (i)))), (3, .int (nI (i)))]) [] (rfl) rfl ?_ ?_
  · refine zr_iloadn X 3 dX6_holders_4 rfl ?_
    refine zr_aloadn X 0 dX6_holders_5 rfl ?_
    refine zr_get X (ci := 6) (q := 0) (zR _) (.ref (ad (1))) dX6_holders_6 (by omega) rfl rfl inX6 (by decide) rfl (zvR rfl) rfl k_539 ?_
    refine zr_iconst X (nI (1)) dX6_holders_9 (by decide +kernel) ?_
    refine zr_iald X (j := 1) 0 (nI (c)) dX6_holders_10 (by omega) rfl rfl rfl (by omega) (by omega) (zcg (b := 1) (by omega) (hc)) ?_
    refine zr_icmp_ge X 43 dX6_holders_11 (by decide) (fun _ => ?_) (fun q => absurd (zq_le (by omega) (by omega)) q)
    refine zr_iloadn X 2 dX6_holders_43 rfl ?_
    exact zr_iret X dX6_holders_44 ⟨rfl, rfl⟩
  · intro i hi ih4
    refine zr_iloadn X 3 dX6_holders_4 rfl ?_
    refine zr_aloadn X 0 dX6_holders_5 rfl ?_
    refine zr_get X (ci := 6) (q := 0) (zR _) (.ref (ad (1))) dX6_holders_6 (by omega) rfl rfl inX6 (by decide) rfl (zvR rfl) rfl k_539 ?_
    refine zr_iconst X (nI (1)) dX6_holders_9 (by decide +kernel) ?_
    refine zr_iald X (j := 1) 0 (nI (c)) dX6_holders_10 (by omega) rfl rfl rfl (by omega) (by omega) (zcg (b := 1) (by omega) (hc)) ?_
    refine zr_icmp_ge X 43 dX6_holders_11 (by decide) (fun q => absurd q (nI_ge (by omega) (by omega))) (fun _ => ?_)
    refine zr_iloadn X 2 dX6_holders_14 rfl ?_
    refine zr_aloadn X 0 dX6_holders_15 rfl ?_
    refine zr_get X (ci := 6) (q := 0) (zR _) (.ref (ad (1))) dX6_holders_16 (by omega) rfl rfl inX6 (by decide) rfl (zvR rfl) rfl k_539 ?_
    refine zr_iloadn X 3 dX6_holders_19 rfl ?_
    refine zr_iconst X (nI (0)) dX6_holders_20 (by decide +kernel) ?_
    refine zr_iloadn X 1 dX6_holders_21 rfl ?_
    refine zr_iadd X (nI (v)) dX6_holders_22 ((nI_add _ _).trans (congrArg nI (by omega))) ?_
    refine zr_dSi [.int (nI (i)), .int (nI (v))] [.ref (ad (1)), .int (nI (zcnt (fun f => μ (32 * f + v + 7)) (i)))] X (zK_ok A D tc tF tL tM) (zM_i (z1 := nI (32 * i + v + 7)) (c_of E μ (i) (v)) (congrArg nI (by omega))) k_597 k_598 k_7 k_599 hdX6_of ⟨rfl, rfl⟩ ⟨Nat.le_of_ble_eq_true rfl, Nat.le_of_ble_eq_true rfl⟩ rfl rfl (Nat.le_of_ble_eq_true rfl) dX6_holders_23 ?_
    refine zr_iald X (j := 32 * i + v + 7) 0 (μ (32 * i + v + 7)) dX6_holders_26 (by omega) rfl rfl rfl (by omega) (by omega) (zcg (b := 32 * i + v + 7) (by omega) (rfl)) ?_
    refine zr_if_le X 34 dX6_holders_27 (by decide) (fun h27 => ?_) (fun h27 => ?_)
    · refine zr_iconst X (nI (0)) dX6_holders_34 (by decide +kernel) ?_
      refine zr_iadd X (nI (zcnt (fun f => μ (32 * f + v + 7)) (i))) dX6_holders_35 ((nI_add _ _).trans (congrArg nI (by omega))) ?_
      refine zr_istoren X [1, 2, 0, 3] [(0, .ref (ad (0))), (1, .int (nI (v))), (2, .int (nI (zcnt (fun f => μ (32 * f + v + 7)) (i)))), (3, .int (nI (i)))] dX6_holders_36 (by decide) rfl ?_
      refine zr_iinc X 3 (nI (i + 1)) [1, 2, 3, 0] [(0, .ref (ad (0))), (1, .int (nI (v))), (2, .int (nI (zcnt (fun f => μ (32 * f + v + 7)) (i)))), (3, .int (nI (i + 1)))] dX6_holders_37 rfl (zinc _) (by decide) rfl ?_
      refine zr_goto X 4 dX6_holders_40 (by decide) ?_
      exact zr_lv X (by simp only [zcnt, Nat.add_zero, if_pos h27]) ih4
    · refine zr_iconst X (nI (1)) dX6_holders_30 (by decide +kernel) ?_
      refine zr_goto X 35 dX6_holders_31 (by decide) ?_
      refine zr_iadd X (nI (zcnt (fun f => μ (32 * f + v + 7)) (i) + 1)) dX6_holders_35 (nI_add _ _) ?_
      refine zr_istoren X [1, 2, 0, 3] [(0, .ref (ad (0))), (1, .int (nI (v))), (2, .int (nI (zcnt (fun f => μ (32 * f + v + 7)) (i) + 1))), (3, .int (nI (i)))] dX6_holders_36 (by decide) rfl ?_
      refine zr_iinc X 3 (nI (i + 1)) [1, 2, 3, 0] [(0, .ref (ad (0))), (1, .int (nI (v))), (2, .int (nI (zcnt (fun f => μ (32 * f + v + 7)) (i) + 1))), (3, .int (nI (i + 1)))] dX6_holders_37 rfl (zinc _) (by decide) rfl ?_
      refine zr_goto X 4 dX6_holders_40 (by decide) ?_
      exact zr_lv X (by simp only [zcnt, Nat.add_zero, if_neg h27]) ih4

