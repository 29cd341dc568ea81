set_option maxHeartbeats 4000000 in
set_option maxRecDepth 100000 in
theorem c_mayUse {l : Launch} {D : va_G} {tc : Nat → ClassId} {ad : Nat → Nat} {A : Nat → Prop} {tF tL tM : Nat} (E : zN 6 A ad) (μ : Nat → Int32) {f : Nat} (hf : f < 8) {g : Nat} (hg : g ≤ 2)  : zMi l yX6_mayUse cX6_mayUse 4 (some .int) (zrm 2) (zK A D tc tF tL tM) A D vwCl tc ad 6 shR [.ref (ad (0)), .int (nI (f)), .int (nI (g))] μ (fun r u => r = zmay μ f g ∧ u = μ) := by
  refine zM_of RX6 [(0, .ref (ad (0))), (1, .int (nI (f))), (2, .int (nI (g)))] (zK_ok A D tc tF tL tM) E.1 E.2 owR_ok (by decide +kernel) rfl (Nat.le_of_ble_eq_true rfl) rfl ?_
  intro pP eE sS mM aS bL mT cO X
  refine zr_aloadn X 0 dX6_mayUse_0 rfl ?_
  refine zr_get X (ci := 6) (q := 0) (zR _) (.ref (ad (1))) dX6_mayUse_1 (by omega) rfl rfl inX6 (by decide) rfl (zvR rfl) rfl k_539 ?_
  refine zr_iloadn X 1 dX6_mayUse_4 rfl ?_
  refine zr_bipush X (nI (28)) dX6_mayUse_5 (by decide +kernel) ?_
  refine zr_dSi [.int (nI (f)), .int (nI (28))] [.ref (ad (1))] X (zK_ok A D tc tF tL tM) (zM_i (z1 := nI (32 * f + 35)) (c_of E μ (f) (28)) (congrArg nI (by omega))) k_597 k_598 k_7 k_599 hdX6_of ⟨rfl, rfl⟩ ⟨Nat.le_of_ble_eq_true rfl, Nat.le_of_ble_eq_true rfl⟩ rfl rfl (Nat.le_of_ble_eq_true rfl) dX6_mayUse_7 ?_
  refine zr_iald X (j := 32 * f + 35) 0 (μ (32 * f + 35)) dX6_mayUse_10 (by omega) rfl rfl rfl (by omega) (by omega) (zcg (b := 32 * f + 35) (by omega) (rfl)) ?_
  refine zr_aloadn X 0 dX6_mayUse_11 rfl ?_
  refine zr_get X (ci := 6) (q := 0) (zR _) (.ref (ad (1))) dX6_mayUse_12 (by omega) rfl rfl inX6 (by decide) rfl (zvR rfl) rfl k_539 ?_
  refine zr_iconst X (nI (2)) dX6_mayUse_15 (by decide +kernel) ?_
  refine zr_iloadn X 2 dX6_mayUse_16 rfl ?_
  refine zr_iadd X (nI (g + 2)) dX6_mayUse_17 ((nI_add _ _).trans (congrArg nI (by omega))) ?_
  refine zr_iald X (j := g + 2) 0 (μ (g + 2)) dX6_mayUse_18 (by omega) rfl rfl rfl (by omega) (by omega) (zcg (b := g + 2) (by omega) (rfl)) ?_
  refine zr_imul X ((μ (32 * f + 35)) * (μ (g + 2))) dX6_mayUse_19 rfl ?_
  refine zr_bipush X (nI (100)) dX6_mayUse_20 (by decide +kernel) ?_
  refine zr_idiv X (((μ (32 * f + 35)) * (μ (g + 2))) / (nI (100))) dX6_mayUse_22 (by decide +kernel) rfl ?_
  refine zr_aloadn X 0 dX6_mayUse_23 rfl ?_
  refine zr_get X (ci := 6) (q := 0) (zR _) (.ref (ad (1))) dX6_mayUse_24 (by omega) rfl rfl inX6 (by decide) rfl (zvR rfl) rfl k_539 ?_
  refine zr_iloadn X 1 dX6_mayUse_27 rfl ?_
  refine zr_bipush X (nI (23)) dX6_mayUse_28 (by decide +kernel) ?_
  refine zr_iloadn X 2 dX6_mayUse_30 rfl ?_
  refine zr_iadd X (nI (g + 23)) dX6_mayUse_31 ((nI_add _ _).trans (congrArg nI (by omega))) ?_
  refine zr_dSi [.int (nI (f)), .int (nI (g + 23))] [.ref (ad (1)), .int (((μ (32 * f + 35)) * (μ (g + 2))) / (nI (100)))] X (zK_ok A D tc tF tL tM) (zM_i (z1 := nI (32 * f + g + 30)) (c_of E μ (f) (g + 23)) (congrArg nI (by omega))) k_597 k_598 k_7 k_599 hdX6_of ⟨rfl, rfl⟩ ⟨Nat.le_of_ble_eq_true rfl, Nat.le_of_ble_eq_true rfl⟩ rfl rfl (Nat.le_of_ble_eq_true rfl) dX6_mayUse_32 ?_
  refine zr_iald X (j := 32 * f + g + 30) 0 (μ (32 * f + g + 30)) dX6_mayUse_35 (by omega) rfl rfl rfl (by omega) (by omega) (zcg (b := 32 * f + g + 30) (by omega) (rfl)) ?_
  refine zr_isub X ((((μ (32 * f + 35)) * (μ (g + 2))) / (nI (100))) - (μ (32 * f + g + 30))) dX6_mayUse_36 rfl ?_
  refine zr_istoren X [1, 2, 3, 0] [(0, .ref (ad (0))), (1, .int (nI (f))), (2, .int (nI (g))), (3, .int ((((μ (32 * f + 35)) * (μ (g + 2))) / (nI (100))) - (μ (32 * f + g + 30))))] dX6_mayUse_37 (by decide) rfl ?_
  refine zr_iloadn X 3 dX6_mayUse_38 rfl ?_
  refine zr_if_ge X 46 dX6_mayUse_39 (by decide) (fun h39 => ?_) (fun h39 => ?_)
  · refine zr_iloadn X 3 dX6_mayUse_46 rfl ?_
    exact zr_iret X dX6_mayUse_47 ⟨(if_pos h39).symm, rfl⟩
  · refine zr_iconst X (nI (0)) dX6_mayUse_42 (by decide +kernel) ?_
    refine zr_goto X 47 dX6_mayUse_43 (by decide) ?_
    exact zr_iret X dX6_mayUse_47 ⟨(if_neg h39).symm, rfl⟩

set_option maxHeartbeats 4000000 in
set_option maxRecDepth 100000 in
theorem c_lesser {l : Launch} {D : va_G} {tc : Nat → ClassId} {ad : Nat → Nat} {A : Nat → Prop} {tF tL tM : Nat} (E : zN 6 A ad) (μ : Nat → Int32) (a b : Int32) : zMi l yX6_lesser cX6_lesser 2 (some .int) (zrm 1) (zK A D tc tF tL tM) A D vwCl tc ad 6 shR [.int (a), .int (b)] μ (fun r u => r = zmin a b ∧ u = μ) := by
  refine zM_of RX6 [(0, .int (a)), (1, .int (b))] (zK_ok A D tc tF tL tM) E.1 E.2 owR_ok (by decide +kernel) rfl (Nat.le_of_ble_eq_true rfl) rfl ?_
  intro pP eE sS mM aS bL mT cO X
  refine zr_iloadn X 0 dX6_lesser_0 rfl ?_
  refine zr_iloadn X 1 dX6_lesser_1 rfl ?_
  refine zr_icmp_ge X 9 dX6_lesser_2 (by decide) (fun h2 => ?_) (fun h2 => ?_)
  · refine zr_iloadn X 1 dX6_lesser_9 rfl ?_
    exact zr_iret X dX6_lesser_10 ⟨(if_neg (Int32.not_lt.mpr h2)).symm, rfl⟩
  · refine zr_iloadn X 0 dX6_lesser_5 rfl ?_
    refine zr_goto X 10 dX6_lesser_6 (by decide) ?_
    exact zr_iret X dX6_lesser_10 ⟨(if_pos (Int32.not_le.mp h2)).symm, rfl⟩

set_option maxHeartbeats 4000000 in
set_option maxRecDepth 100000 in
theorem c_takeVintage {l : Launch} {D : va_G} {tc : Nat → ClassId} {ad : Nat → Nat} {A : Nat → Prop} {tF tL tM : Nat} (E : zN 6 A ad) (μ : Nat → Int32) {f : Nat} (hf : f < 8) {v : Nat} (hv : v ≤ 19)  : zMv l yX6_takeVintage cX6_takeVintage 3 (zrm 3) (zK A D tc tF tL tM) A D vwCl tc ad 6 shR [.ref (ad (0)), .int (nI (f)), .int (nI (v))] μ (fun u => u = ztv μ f v) := by
  refine zM_of RX6 [(0, .ref (ad (0))), (1, .int (nI (f))), (2, .int (nI (v)))] (zK_ok A D tc tF tL tM) E.1 E.2 owR_ok (by decide +kernel) rfl (Nat.le_of_ble_eq_true rfl) rfl ?_
  intro pP eE sS mM aS bL mT cO X
  refine zr_aloadn X 0 dX6_takeVintage_0 rfl ?_
  refine zr_get X (ci := 6) (q := 5) (zR _) (.ref (ad (3))) dX6_takeVintage_1 (by omega) rfl rfl inX6 (by decide) rfl (zvR rfl) rfl k_544 ?_
  refine zr_iloadn X 2 dX6_takeVintage_4 rfl ?_
  refine zr_aloadn X 0 dX6_takeVintage_5 rfl ?_
  refine zr_get X (ci := 6) (q := 7) zI (.int (μ (2450))) dX6_takeVintage_6 (by omega) rfl rfl inX6 (by decide) rfl (congrArg Value.int (rfl)) rfl k_546 ?_
  refine zr_aloadn X 0 dX6_takeVintage_9 rfl ?_
  refine zr_get X (ci := 6) (q := 0) (zR _) (.ref (ad (1))) dX6_takeVintage_10 (by omega) rfl rfl inX6 (by decide) rfl (zvR rfl) rfl k_539 ?_
  refine zr_iloadn X 1 dX6_takeVintage_13 rfl ?_
  refine zr_iconst X (nI (0)) dX6_takeVintage_14 (by decide +kernel) ?_
  refine zr_iloadn X 2 dX6_takeVintage_15 rfl ?_
  refine zr_iadd X (nI (v)) dX6_takeVintage_16 ((nI_add _ _).trans (congrArg nI (by omega))) ?_
  refine zr_dSi [.int (nI (f)), .int (nI (v))] [.ref (ad (1)), .int (μ (2450)), .int (nI (v)), .ref (ad (3))] X (zK_ok A D tc tF tL tM) (zM_i (z1 := nI (32 * f + v + 7)) (c_of E μ (f) (v)) (congrArg nI (by omega))) k_597 k_598 k_7 k_599 hdX6_of ⟨rfl, rfl⟩ ⟨Nat.le_of_ble_eq_true rfl, Nat.le_of_ble_eq_true rfl⟩ rfl rfl (Nat.le_of_ble_eq_true rfl) dX6_takeVintage_17 ?_
  refine zr_iald X (j := 32 * f + v + 7) 0 (μ (32 * f + v + 7)) dX6_takeVintage_20 (by omega) rfl rfl rfl (by omega) (by omega) (zcg (b := 32 * f + v + 7) (by omega) (rfl)) ?_
  refine zr_dSi [.int (μ (2450)), .int (μ (32 * f + v + 7))] [.int (nI (v)), .ref (ad (3))] X (zK_ok A D tc tF tL tM) (c_lesser E μ (μ (2450)) (μ (32 * f + v + 7))) k_672 k_673 k_7 k_674 hdX6_lesser ⟨rfl, rfl⟩ ⟨Nat.le_of_ble_eq_true rfl, Nat.le_of_ble_eq_true rfl⟩ rfl rfl (Nat.le_of_ble_eq_true rfl) dX6_takeVintage_21 ?_
  refine zr_iast X (j := v) 0 (v + 2520) dX6_takeVintage_24 (by omega) rfl rfl rfl (by omega) (by omega) (by omega) ?_
  refine zr_aloadn X 0 dX6_takeVintage_25 rfl ?_
  refine zr_aloadn X 0 dX6_takeVintage_26 rfl ?_
  refine zr_get X (ci := 6) (q := 8) zI (.int (μ (2451))) dX6_takeVintage_27 (by omega) rfl rfl inX6 (by decide) rfl (congrArg Value.int ((pk_un (by omega)).trans (rfl))) rfl k_547 ?_
  refine zr_bipush X (-5) dX6_takeVintage_30 (by decide +kernel) ?_
  refine zr_icmp_ne X 48 dX6_takeVintage_32 (by decide) (fun h32 => ?_) (fun h32 => ?_)
  · refine zr_aloadn X 0 dX6_takeVintage_48 rfl ?_
    refine zr_get X (ci := 6) (q := 8) zI (.int (μ (2451))) dX6_takeVintage_49 (by omega) rfl rfl inX6 (by decide) rfl (congrArg Value.int ((pk_un (by omega)).trans (rfl))) rfl k_547 ?_
    refine zr_put X (ci := 6) (q := 8) (ty0 := tyX6) (ty := .int) (2451) dX6_takeVintage_52 (by omega) rfl rfl inX6 tyX6_ok nmX6 (by decide) rfl rfl rfl rfl rfl rfl k_547 (by omega) ?_
    refine zr_aloadn X 0 dX6_takeVintage_55 rfl ?_
    refine zr_dup X dX6_takeVintage_56 rfl ?_
    refine zr_get X (ci := 6) (q := 7) zI (.int (μ (2450))) dX6_takeVintage_57 (by omega) rfl rfl inX6 (by decide) rfl (congrArg Value.int ((pk_un (by omega)).trans ((pk_un (by omega)).trans (rfl)))) rfl k_546 ?_
    refine zr_aloadn X 0 dX6_takeVintage_60 rfl ?_
    refine zr_get X (ci := 6) (q := 5) (zR _) (.ref (ad (3))) dX6_takeVintage_61 (by omega) rfl rfl inX6 (by decide) rfl (zvR rfl) rfl k_544 ?_
    refine zr_iloadn X 2 dX6_takeVintage_64 rfl ?_
    refine zr_iald X (j := v) 0 (zmin (μ (2450)) (μ (32 * f + v + 7))) dX6_takeVintage_65 (by omega) rfl rfl rfl (by omega) (by omega) (zcg (b := v + 2520) (by omega) ((pk_un (by omega)).trans (pk_us))) ?_
    refine zr_isub X ((μ (2450)) - (zmin (μ (2450)) (μ (32 * f + v + 7)))) dX6_takeVintage_66 rfl ?_
    refine zr_put X (ci := 6) (q := 7) (ty0 := tyX6) (ty := .int) (2450) dX6_takeVintage_67 (by omega) rfl rfl inX6 tyX6_ok nmX6 (by decide) rfl rfl rfl rfl rfl rfl k_546 (by omega) ?_
    exact zr_vret X dX6_takeVintage_70 (by unfold ztv; rw [if_neg h32])
  · refine zr_aloadn X 0 dX6_takeVintage_35 rfl ?_
    refine zr_get X (ci := 6) (q := 5) (zR _) (.ref (ad (3))) dX6_takeVintage_36 (by omega) rfl rfl inX6 (by decide) rfl (zvR rfl) rfl k_544 ?_
    refine zr_iloadn X 2 dX6_takeVintage_39 rfl ?_
    refine zr_iald X (j := v) 0 (zmin (μ (2450)) (μ (32 * f + v + 7))) dX6_takeVintage_40 (by omega) rfl rfl rfl (by omega) (by omega) (zcg (b := v + 2520) (by omega) (pk_us)) ?_
    refine zr_if_le X 48 dX6_takeVintage_41 (by decide) (fun h41 => ?_) (fun h41 => ?_)
    · refine zr_aloadn X 0 dX6_takeVintage_48 rfl ?_
      refine zr_get X (ci := 6) (q := 8) zI (.int (μ (2451))) dX6_takeVintage_49 (by omega) rfl rfl inX6 (by decide) rfl (congrArg Value.int ((pk_un (by omega)).trans (rfl))) rfl k_547 ?_
      refine zr_put X (ci := 6) (q := 8) (ty0 := tyX6) (ty := .int) (2451) dX6_takeVintage_52 (by omega) rfl rfl inX6 tyX6_ok nmX6 (by decide) rfl rfl rfl rfl rfl rfl k_547 (by omega) ?_
      refine zr_aloadn X 0 dX6_takeVintage_55 rfl ?_
      refine zr_dup X dX6_takeVintage_56 rfl ?_
      refine zr_get X (ci := 6) (q := 7) zI (.int (μ (2450))) dX6_takeVintage_57 (by omega) rfl rfl inX6 (by decide) rfl (congrArg Value.int ((pk_un (by omega)).trans ((pk_un (by omega)).trans (rfl)))) rfl k_546 ?_
      refine zr_aloadn X 0 dX6_takeVintage_60 rfl ?_
      refine zr_get X (ci := 6) (q := 5) (zR _) (.ref (ad (3))) dX6_takeVintage_61 (by omega) rfl rfl inX6 (by decide) rfl (zvR rfl) rfl k_544 ?_
      refine zr_iloadn X 2 dX6_takeVintage_64 rfl ?_
      refine zr_iald X (j := v) 0 (zmin (μ (2450)) (μ (32 * f + v + 7))) dX6_takeVintage_65 (by omega) rfl rfl rfl (by omega) (by omega) (zcg (b := v + 2520) (by omega) ((pk_un (by omega)).trans (pk_us))) ?_
      refine zr_isub X ((μ (2450)) - (zmin (μ (2450)) (μ (32 * f + v + 7)))) dX6_takeVintage_66 rfl ?_
      refine zr_put X (ci := 6) (q := 7) (ty0 := tyX6) (ty := .int) (2450) dX6_takeVintage_67 (by omega) rfl rfl inX6 tyX6_ok nmX6 (by decide) rfl rfl rfl rfl rfl rfl k_546 (by omega) ?_
      exact zr_vret X dX6_takeVintage_70 (by unfold ztv; rw [if_pos h32, if_pos h41])
    · refine zr_iloadn X 2 dX6_takeVintage_44 rfl ?_
      refine zr_goto X 52 dX6_takeVintage_45 (by decide) ?_
      refine zr_put X (ci := 6) (q := 8) (ty0 := tyX6) (ty := .int) (2451) dX6_takeVintage_52 (by omega) rfl rfl inX6 tyX6_ok nmX6 (by decide) rfl rfl rfl rfl rfl rfl k_547 (by omega) ?_
      refine zr_aloadn X 0 dX6_takeVintage_55 rfl ?_
      refine zr_dup X dX6_takeVintage_56 rfl ?_
      refine zr_get X (ci := 6) (q := 7) zI (.int (μ (2450))) dX6_takeVintage_57 (by omega) rfl rfl inX6 (by decide) rfl (congrArg Value.int ((pk_un (by omega)).trans ((pk_un (by omega)).trans (rfl)))) rfl k_546 ?_
      refine zr_aloadn X 0 dX6_takeVintage_60 rfl ?_
      refine zr_get X (ci := 6) (q := 5) (zR _) (.ref (ad (3))) dX6_takeVintage_61 (by omega) rfl rfl inX6 (by decide) rfl (zvR rfl) rfl k_544 ?_
      refine zr_iloadn X 2 dX6_takeVintage_64 rfl ?_
      refine zr_iald X (j := v) 0 (zmin (μ (2450)) (μ (32 * f + v + 7))) dX6_takeVintage_65 (by omega) rfl rfl rfl (by omega) (by omega) (zcg (b := v + 2520) (by omega) ((pk_un (by omega)).trans (pk_us))) ?_
      refine zr_isub X ((μ (2450)) - (zmin (μ (2450)) (μ (32 * f + v + 7)))) dX6_takeVintage_66 rfl ?_
      refine zr_put X (ci := 6) (q := 7) (ty0 := tyX6) (ty := .int) (2450) dX6_takeVintage_67 (by omega) rfl rfl inX6 tyX6_ok nmX6 (by decide) rfl rfl rfl rfl rfl rfl k_546 (by omega) ?_
      exact zr_vret X dX6_takeVintage_70 (by unfold ztv; rw [if_pos h32, if_neg h41])

set_option maxHeartbeats 4000000 in
set_option maxRecDepth 100000 in
theorem c_lay0 {l : Launch} {D : va_G} {tc : Nat → ClassId} {ad : Nat → Nat} {A : Nat → Prop} {tF tL tM : Nat} (E : zN 6 A ad) (μ : Nat → Int32) {f : Nat} (hf : f < 8) {t : Nat} (ht1 : 1 ≤ t) (ht9 : t ≤ 9999)  : zMv l yX6_lay cX6_lay 5 (zrm 4) (zK A D tc tF tL tM) A D vwCl tc ad 6 shR [.ref (ad (0)), .int (nI (f)), .int (nI (t)), .int (nI (0))] μ (fun u => u = zlay μ f (nI t) 0) := by
  refine zM_of RX6 [(0, .ref (ad (0))), (1, .int (nI (f))), (2, .int (nI (t))), (3, .int (nI (0)))] (zK_ok A D tc tF tL tM) E.1 E.2 owR_ok (by decide +kernel) rfl (Nat.le_of_ble_eq_true rfl) rfl ?_
  intro pP eE sS mM aS bL mT cO X
  refine zr_aloadn X 0 dX6_lay_0 rfl ?_
  refine zr_iloadn X 2 dX6_lay_1 rfl ?_
  refine zr_put X (ci := 6) (q := 7) (ty0 := tyX6) (ty := .int) (2450) dX6_lay_2 (by omega) rfl rfl inX6 tyX6_ok nmX6 (by decide) rfl rfl rfl rfl rfl rfl k_546 (by omega) ?_
  refine zr_aloadn X 0 dX6_lay_5 rfl ?_
  refine zr_bipush X (-5) dX6_lay_6 (by decide +kernel) ?_
  refine zr_put X (ci := 6) (q := 8) (ty0 := tyX6) (ty := .int) (2451) dX6_lay_8 (by omega) rfl rfl inX6 tyX6_ok nmX6 (by decide) rfl rfl rfl rfl rfl rfl k_547 (by omega) ?_
  refine zr_iconst X (nI (2)) dX6_lay_11 (by decide +kernel) ?_
  refine zr_istore X [1, 2, 3, 4, 0] [(0, .ref (ad (0))), (1, .int (nI (f))), (2, .int (nI (t))), (3, .int (nI (0))), (4, .int (nI (2)))] dX6_lay_12 (by decide) rfl ?_
  refine zr_mem X (rfl : _ = (upd (upd μ 2450 (nI t)) 2451 (-5))) ?_
  refine zr_iload X 4 dX6_lay_14 rfl ?_
  refine zr_if_lt X 88 dX6_lay_16 (by decide) (fun q => absurd q (nI_pos (by omega))) (fun _ => ?_)
  refine zr_aloadn X 0 dX6_lay_19 rfl ?_
  refine zr_get X (ci := 6) (q := 6) (zR _) (.ref (ad (4))) dX6_lay_20 (by omega) rfl rfl inX6 (by decide) rfl (zvR rfl) rfl k_545 ?_
  refine zr_iload X 4 dX6_lay_23 rfl ?_
  refine zr_iloadn X 3 dX6_lay_25 rfl ?_
  refine zr_iconst X (nI (2)) dX6_lay_26 (by decide +kernel) ?_
  refine zr_icmp_ne X 64 dX6_lay_27 (by decide) (fun _ => ?_) (fun q => absurd q (zq_ne (by omega) (by omega) (by omega)))
  refine zr_iconst X (nI (0)) dX6_lay_64 (by decide +kernel) ?_
  refine zr_iast X (j := 2) 0 (2542) dX6_lay_65 (by omega) rfl rfl rfl (by omega) (by omega) (by omega) ?_
  refine zr_aloadn X 0 dX6_lay_66 rfl ?_
  refine zr_dup X dX6_lay_67 rfl ?_
  refine zr_get X (ci := 6) (q := 7) zI (.int ((upd (upd μ 2450 (nI t)) 2451 (-5)) (2450))) dX6_lay_68 (by omega) rfl rfl inX6 (by decide) rfl (congrArg Value.int ((pk_un (by omega)).trans (rfl))) rfl k_546 ?_
  refine zr_aloadn X 0 dX6_lay_71 rfl ?_
  refine zr_get X (ci := 6) (q := 6) (zR _) (.ref (ad (4))) dX6_lay_72 (by omega) rfl rfl inX6 (by decide) rfl (zvR rfl) rfl k_545 ?_
  refine zr_iload X 4 dX6_lay_75 rfl ?_
  refine zr_iald X (j := 2) 0 (nI (0)) dX6_lay_77 (by omega) rfl rfl rfl (by omega) (by omega) (zcg (b := 2542) (by omega) (pk_us)) ?_
  refine zr_isub X (((upd (upd μ 2450 (nI t)) 2451 (-5)) (2450)) - (nI (0))) dX6_lay_78 rfl ?_
  refine zr_put X (ci := 6) (q := 7) (ty0 := tyX6) (ty := .int) (2450) dX6_lay_79 (by omega) rfl rfl inX6 tyX6_ok nmX6 (by decide) rfl rfl rfl rfl rfl rfl k_546 (by omega) ?_
  refine zr_iinc X 4 (nI (1)) [1, 2, 3, 4, 0] [(0, .ref (ad (0))), (1, .int (nI (f))), (2, .int (nI (t))), (3, .int (nI (0))), (4, .int (nI (1)))] dX6_lay_82 rfl (zdec _) (by decide) rfl ?_
  refine zr_goto X 14 dX6_lay_85 (by decide) ?_
  refine zr_mem X (rfl : _ = (zgm (upd (upd μ 2450 (nI t)) 2451 (-5)) f 0 2)) ?_
  refine zr_iload X 4 dX6_lay_14 rfl ?_
  refine zr_if_lt X 88 dX6_lay_16 (by decide) (fun q => absurd q (nI_pos (by omega))) (fun _ => ?_)
  refine zr_aloadn X 0 dX6_lay_19 rfl ?_
  refine zr_get X (ci := 6) (q := 6) (zR _) (.ref (ad (4))) dX6_lay_20 (by omega) rfl rfl inX6 (by decide) rfl (zvR rfl) rfl k_545 ?_
  refine zr_iload X 4 dX6_lay_23 rfl ?_
  refine zr_iloadn X 3 dX6_lay_25 rfl ?_
  refine zr_iconst X (nI (2)) dX6_lay_26 (by decide +kernel) ?_
  refine zr_icmp_ne X 64 dX6_lay_27 (by decide) (fun _ => ?_) (fun q => absurd q (zq_ne (by omega) (by omega) (by omega)))
  refine zr_iconst X (nI (0)) dX6_lay_64 (by decide +kernel) ?_
  refine zr_iast X (j := 1) 0 (2541) dX6_lay_65 (by omega) rfl rfl rfl (by omega) (by omega) (by omega) ?_
  refine zr_aloadn X 0 dX6_lay_66 rfl ?_
  refine zr_dup X dX6_lay_67 rfl ?_
  refine zr_get X (ci := 6) (q := 7) zI (.int ((zgm (upd (upd μ 2450 (nI t)) 2451 (-5)) f 0 2) (2450))) dX6_lay_68 (by omega) rfl rfl inX6 (by decide) rfl (congrArg Value.int ((pk_un (by omega)).trans (rfl))) rfl k_546 ?_
  refine zr_aloadn X 0 dX6_lay_71 rfl ?_
  refine zr_get X (ci := 6) (q := 6) (zR _) (.ref (ad (4))) dX6_lay_72 (by omega) rfl rfl inX6 (by decide) rfl (zvR rfl) rfl k_545 ?_
  refine zr_iload X 4 dX6_lay_75 rfl ?_
  refine zr_iald X (j := 1) 0 (nI (0)) dX6_lay_77 (by omega) rfl rfl rfl (by omega) (by omega) (zcg (b := 2541) (by omega) (pk_us)) ?_
  refine zr_isub X (((zgm (upd (upd μ 2450 (nI t)) 2451 (-5)) f 0 2) (2450)) - (nI (0))) dX6_lay_78 rfl ?_
  refine zr_put X (ci := 6) (q := 7) (ty0 := tyX6) (ty := .int) (2450) dX6_lay_79 (by omega) rfl rfl inX6 tyX6_ok nmX6 (by decide) rfl rfl rfl rfl rfl rfl k_546 (by omega) ?_
  refine zr_iinc X 4 (nI (0)) [1, 2, 3, 4, 0] [(0, .ref (ad (0))), (1, .int (nI (f))), (2, .int (nI (t))), (3, .int (nI (0))), (4, .int (nI (0)))] dX6_lay_82 rfl (zdec _) (by decide) rfl ?_
  refine zr_goto X 14 dX6_lay_85 (by decide) ?_
  refine zr_mem X (rfl : _ = (zgm (zgm (upd (upd μ 2450 (nI t)) 2451 (-5)) f 0 2) f 0 1)) ?_
  refine zr_iload X 4 dX6_lay_14 rfl ?_
  refine zr_if_lt X 88 dX6_lay_16 (by decide) (fun q => absurd q (nI_pos (by omega))) (fun _ => ?_)
  refine zr_aloadn X 0 dX6_lay_19 rfl ?_
  refine zr_get X (ci := 6) (q := 6) (zR _) (.ref (ad (4))) dX6_lay_20 (by omega) rfl rfl inX6 (by decide) rfl (zvR rfl) rfl k_545 ?_
  refine zr_iload X 4 dX6_lay_23 rfl ?_
  refine zr_iloadn X 3 dX6_lay_25 rfl ?_
  refine zr_iconst X (nI (2)) dX6_lay_26 (by decide +kernel) ?_
  refine zr_icmp_ne X 64 dX6_lay_27 (by decide) (fun _ => ?_) (fun q => absurd q (zq_ne (by omega) (by omega) (by omega)))
  refine zr_iconst X (nI (0)) dX6_lay_64 (by decide +kernel) ?_
  refine zr_iast X (j := 0) 0 (2540) dX6_lay_65 (by omega) rfl rfl rfl (by omega) (by omega) (by omega) ?_
  refine zr_aloadn X 0 dX6_lay_66 rfl ?_
  refine zr_dup X dX6_lay_67 rfl ?_
  refine zr_get X (ci := 6) (q := 7) zI (.int ((zgm (zgm (upd (upd μ 2450 (nI t)) 2451 (-5)) f 0 2) f 0 1) (2450))) dX6_lay_68 (by omega) rfl rfl inX6 (by decide) rfl (congrArg Value.int ((pk_un (by omega)).trans (rfl))) rfl k_546 ?_
  refine zr_aloadn X 0 dX6_lay_71 rfl ?_
  refine zr_get X (ci := 6) (q := 6) (zR _) (.ref (ad (4))) dX6_lay_72 (by omega) rfl rfl inX6 (by decide) rfl (zvR rfl) rfl k_545 ?_
  refine zr_iload X 4 dX6_lay_75 rfl ?_
  refine zr_iald X (j := 0) 0 (nI (0)) dX6_lay_77 (by omega) rfl rfl rfl (by omega) (by omega) (zcg (b := 2540) (by omega) (pk_us)) ?_
  refine zr_isub X (((zgm (zgm (upd (upd μ 2450 (nI t)) 2451 (-5)) f 0 2) f 0 1) (2450)) - (nI (0))) dX6_lay_78 rfl ?_
  refine zr_put X (ci := 6) (q := 7) (ty0 := tyX6) (ty := .int) (2450) dX6_lay_79 (by omega) rfl rfl inX6 tyX6_ok nmX6 (by decide) rfl rfl rfl rfl rfl rfl k_546 (by omega) ?_
  refine zr_iinc X 4 (-1) [1, 2, 3, 4, 0] [(0, .ref (ad (0))), (1, .int (nI (f))), (2, .int (nI (t))), (3, .int (nI (0))), (4, .int (-1))] dX6_lay_82 rfl (by decide +kernel) (by decide) rfl ?_
  refine zr_goto X 14 dX6_lay_85 (by decide) ?_
  refine zr_mem X (rfl : _ = (zgm (zgm (zgm (upd (upd μ 2450 (nI t)) 2451 (-5)) f 0 2) f 0 1) f 0 0)) ?_
  refine zr_iload X 4 dX6_lay_14 rfl ?_
  refine zr_if_lt X 88 dX6_lay_16 (by decide) (fun _ => ?_) (fun q => absurd ((by decide +kernel : (-1 : Int32) < 0)) q)
  refine zr_iconst X (nI (0)) dX6_lay_88 (by decide +kernel) ?_
  refine zr_istore X [1, 2, 3, 4, 0] [(0, .ref (ad (0))), (1, .int (nI (f))), (2, .int (nI (t))), (3, .int (nI (0))), (4, .int (nI (0)))] dX6_lay_89 (by decide) rfl ?_
  refine zr_for X (20) (fun i => (zlv (zgm (zgm (zgm (upd (upd μ 2450 (nI t)) 2451 (-5)) f 0 2) f 0 1) f 0 0) f 0 (i))) (fun i => [(0, .ref (ad (0))), (1, .int (nI (f))), (2, .int (nI (t))), (3, .int (nI (0))), (4, .int (nI (i)))]) [] (rfl) rfl ?_ ?_
  · refine zr_iload X 4 dX6_lay_91 rfl ?_
    refine zr_bipush X (nI (20)) dX6_lay_93 (by decide +kernel) ?_
    refine zr_icmp_ge X 124 dX6_lay_95 (by decide) (fun _ => ?_) (fun q => absurd (zq_le (by omega) (by omega)) q)
    exact zr_vret X dX6_lay_124 rfl
  · intro i hi ih91
    refine zr_iload X 4 dX6_lay_91 rfl ?_
    refine zr_bipush X (nI (20)) dX6_lay_93 (by decide +kernel) ?_
    refine zr_icmp_ge X 124 dX6_lay_95 (by decide) (fun q => absurd q (nI_ge (by omega) (by omega))) (fun _ => ?_)
    refine zr_aloadn X 0 dX6_lay_98 rfl ?_
    refine zr_iloadn X 1 dX6_lay_99 rfl ?_
    refine zr_iloadn X 3 dX6_lay_100 rfl ?_
    refine zr_iconst X (nI (1)) dX6_lay_101 (by decide +kernel) ?_
    refine zr_icmp_ne X 113 dX6_lay_102 (by decide) (fun _ => ?_) (fun q => absurd q (zq_ne (by omega) (by omega) (by omega)))
    refine zr_iload X 4 dX6_lay_113 rfl ?_
    refine zr_dVv (C := RX6) (ci := 6) [.int (nI (f)), .int (nI (i))] [] X (zK_ok A D tc tF tL tM) (c_takeVintage E (zlv (zgm (zgm (zgm (upd (upd μ 2450 (nI t)) 2451 (-5)) f 0 2) f 0 1) f 0 0) f 0 (i)) (f := f) (v := i) (by omega) (by omega)) k_675 k_677 kp_8 k_7 k_678 hdX6_takeVintage ⟨rfl, rfl⟩ ⟨Nat.le_of_ble_eq_true rfl, Nat.le_of_ble_eq_true rfl⟩ (by omega) rfl rfl rfl rfl (Nat.le_of_ble_eq_true rfl) dX6_lay_115 ?_
    refine zr_iinc X 4 (nI (i + 1)) [1, 2, 3, 4, 0] [(0, .ref (ad (0))), (1, .int (nI (f))), (2, .int (nI (t))), (3, .int (nI (0))), (4, .int (nI (i + 1)))] dX6_lay_118 rfl (zinc _) (by decide) rfl ?_
    refine zr_goto X 91 dX6_lay_121 (by decide) ?_
    exact ih91

set_option maxHeartbeats 4000000 in
set_option maxRecDepth 100000 in
theorem c_lay1 {l : Launch} {D : va_G} {tc : Nat → ClassId} {ad : Nat → Nat} {A : Nat → Prop} {tF tL tM : Nat} (E : zN 6 A ad) (μ : Nat → Int32) {f : Nat} (hf : f < 8) {t : Nat} (ht1 : 1 ≤ t) (ht9 : t ≤ 9999)  : zMv l yX6_lay cX6_lay 5 (zrm 4) (zK A D tc tF tL tM) A D vwCl tc ad 6 shR [.ref (ad (0)), .int (nI (f)), .int (nI (t)), .int (nI (1))] μ (fun u => u = zlay μ f (nI t) 1) := by
  refine zM_of RX6 [(0, .ref (ad (0))), (1, .int (nI (f))), (2, .int (nI (t))), (3, .int (nI (1)))] (zK_ok A D tc tF tL tM) E.1 E.2 owR_ok (by decide +kernel) rfl (Nat.le_of_ble_eq_true rfl) rfl ?_
  intro pP eE sS mM aS bL mT cO X
  refine zr_aloadn X 0 dX6_lay_0 rfl ?_
  refine zr_iloadn X 2 dX6_lay_1 rfl ?_
  refine zr_put X (ci := 6) (q := 7) (ty0 := tyX6) (ty := .int) (2450) dX6_lay_2 (by omega) rfl rfl inX6 tyX6_ok nmX6 (by decide) rfl rfl rfl rfl rfl rfl k_546 (by omega) ?_
  refine zr_aloadn X 0 dX6_lay_5 rfl ?_
  refine zr_bipush X (-5) dX6_lay_6 (by decide +kernel) ?_
  refine zr_put X (ci := 6) (q := 8) (ty0 := tyX6) (ty := .int) (2451) dX6_lay_8 (by omega) rfl rfl inX6 tyX6_ok nmX6 (by decide) rfl rfl rfl rfl rfl rfl k_547 (by omega) ?_
  refine zr_iconst X (nI (2)) dX6_lay_11 (by decide +kernel) ?_
  refine zr_istore X [1, 2, 3, 4, 0] [(0, .ref (ad (0))), (1, .int (nI (f))), (2, .int (nI (t))), (3, .int (nI (1))), (4, .int (nI (2)))] dX6_lay_12 (by decide) rfl ?_
  refine zr_mem X (rfl : _ = (upd (upd μ 2450 (nI t)) 2451 (-5))) ?_
  refine zr_iload X 4 dX6_lay_14 rfl ?_
  refine zr_if_lt X 88 dX6_lay_16 (by decide) (fun q => absurd q (nI_pos (by omega))) (fun _ => ?_)
  refine zr_aloadn X 0 dX6_lay_19 rfl ?_
  refine zr_get X (ci := 6) (q := 6) (zR _) (.ref (ad (4))) dX6_lay_20 (by omega) rfl rfl inX6 (by decide) rfl (zvR rfl) rfl k_545 ?_
  refine zr_iload X 4 dX6_lay_23 rfl ?_
  refine zr_iloadn X 3 dX6_lay_25 rfl ?_
  refine zr_iconst X (nI (2)) dX6_lay_26 (by decide +kernel) ?_
  refine zr_icmp_ne X 64 dX6_lay_27 (by decide) (fun _ => ?_) (fun q => absurd q (zq_ne (by omega) (by omega) (by omega)))
  refine zr_iconst X (nI (0)) dX6_lay_64 (by decide +kernel) ?_
  refine zr_iast X (j := 2) 0 (2542) dX6_lay_65 (by omega) rfl rfl rfl (by omega) (by omega) (by omega) ?_
  refine zr_aloadn X 0 dX6_lay_66 rfl ?_
  refine zr_dup X dX6_lay_67 rfl ?_
  refine zr_get X (ci := 6) (q := 7) zI (.int ((upd (upd μ 2450 (nI t)) 2451 (-5)) (2450))) dX6_lay_68 (by omega) rfl rfl inX6 (by decide) rfl (congrArg Value.int ((pk_un (by omega)).trans (rfl))) rfl k_546 ?_
  refine zr_aloadn X 0 dX6_lay_71 rfl ?_
  refine zr_get X (ci := 6) (q := 6) (zR _) (.ref (ad (4))) dX6_lay_72 (by omega) rfl rfl inX6 (by decide) rfl (zvR rfl) rfl k_545 ?_
  refine zr_iload X 4 dX6_lay_75 rfl ?_
  refine zr_iald X (j := 2) 0 (nI (0)) dX6_lay_77 (by omega) rfl rfl rfl (by omega) (by omega) (zcg (b := 2542) (by omega) (pk_us)) ?_
  refine zr_isub X (((upd (upd μ 2450 (nI t)) 2451 (-5)) (2450)) - (nI (0))) dX6_lay_78 rfl ?_
  refine zr_put X (ci := 6) (q := 7) (ty0 := tyX6) (ty := .int) (2450) dX6_lay_79 (by omega) rfl rfl inX6 tyX6_ok nmX6 (by decide) rfl rfl rfl rfl rfl rfl k_546 (by omega) ?_
  refine zr_iinc X 4 (nI (1)) [1, 2, 3, 4, 0] [(0, .ref (ad (0))), (1, .int (nI (f))), (2, .int (nI (t))), (3, .int (nI (1))), (4, .int (nI (1)))] dX6_lay_82 rfl (zdec _) (by decide) rfl ?_
  refine zr_goto X 14 dX6_lay_85 (by decide) ?_
  refine zr_mem X (rfl : _ = (zgm (upd (upd μ 2450 (nI t)) 2451 (-5)) f 1 2)) ?_
  refine zr_iload X 4 dX6_lay_14 rfl ?_
  refine zr_if_lt X 88 dX6_lay_16 (by decide) (fun q => absurd q (nI_pos (by omega))) (fun _ => ?_)
  refine zr_aloadn X 0 dX6_lay_19 rfl ?_
  refine zr_get X (ci := 6) (q := 6) (zR _) (.ref (ad (4))) dX6_lay_20 (by omega) rfl rfl inX6 (by decide) rfl (zvR rfl) rfl k_545 ?_
  refine zr_iload X 4 dX6_lay_23 rfl ?_
  refine zr_iloadn X 3 dX6_lay_25 rfl ?_
  refine zr_iconst X (nI (2)) dX6_lay_26 (by decide +kernel) ?_
  refine zr_icmp_ne X 64 dX6_lay_27 (by decide) (fun _ => ?_) (fun q => absurd q (zq_ne (by omega) (by omega) (by omega)))
  refine zr_iconst X (nI (0)) dX6_lay_64 (by decide +kernel) ?_
  refine zr_iast X (j := 1) 0 (2541) dX6_lay_65 (by omega) rfl rfl rfl (by omega) (by omega) (by omega) ?_
  refine zr_aloadn X 0 dX6_lay_66 rfl ?_
  refine zr_dup X dX6_lay_67 rfl ?_
  refine zr_get X (ci := 6) (q := 7) zI (.int ((zgm (upd (upd μ 2450 (nI t)) 2451 (-5)) f 1 2) (2450))) dX6_lay_68 (by omega) rfl rfl inX6 (by decide) rfl (congrArg Value.int ((pk_un (by omega)).trans (rfl))) rfl k_546 ?_
  refine zr_aloadn X 0 dX6_lay_71 rfl ?_
  refine zr_get X (ci := 6) (q := 6) (zR _) (.ref (ad (4))) dX6_lay_72 (by omega) rfl rfl inX6 (by decide) rfl (zvR rfl) rfl k_545 ?_
  refine zr_iload X 4 dX6_lay_75 rfl ?_
  refine zr_iald X (j := 1) 0 (nI (0)) dX6_lay_77 (by omega) rfl rfl rfl (by omega) (by omega) (zcg (b := 2541) (by omega) (pk_us)) ?_
  refine zr_isub X (((zgm (upd (upd μ 2450 (nI t)) 2451 (-5)) f 1 2) (2450)) - (nI (0))) dX6_lay_78 rfl ?_
  refine zr_put X (ci := 6) (q := 7) (ty0 := tyX6) (ty := .int) (2450) dX6_lay_79 (by omega) rfl rfl inX6 tyX6_ok nmX6 (by decide) rfl rfl rfl rfl rfl rfl k_546 (by omega) ?_
  refine zr_iinc X 4 (nI (0)) [1, 2, 3, 4, 0] [(0, .ref (ad (0))), (1, .int (nI (f))), (2, .int (nI (t))), (3, .int (nI (1))), (4, .int (nI (0)))] dX6_lay_82 rfl (zdec _) (by decide) rfl ?_
  refine zr_goto X 14 dX6_lay_85 (by decide) ?_
  refine zr_mem X (rfl : _ = (zgm (zgm (upd (upd μ 2450 (nI t)) 2451 (-5)) f 1 2) f 1 1)) ?_
  refine zr_iload X 4 dX6_lay_14 rfl ?_
  refine zr_if_lt X 88 dX6_lay_16 (by decide) (fun q => absurd q (nI_pos (by omega))) (fun _ => ?_)
  refine zr_aloadn X 0 dX6_lay_19 rfl ?_
  refine zr_get X (ci := 6) (q := 6) (zR _) (.ref (ad (4))) dX6_lay_20 (by omega) rfl rfl inX6 (by decide) rfl (zvR rfl) rfl k_545 ?_
  refine zr_iload X 4 dX6_lay_23 rfl ?_
  refine zr_iloadn X 3 dX6_lay_25 rfl ?_
  refine zr_iconst X (nI (2)) dX6_lay_26 (by decide +kernel) ?_
  refine zr_icmp_ne X 64 dX6_lay_27 (by decide) (fun _ => ?_) (fun q => absurd q (zq_ne (by omega) (by omega) (by omega)))
  refine zr_iconst X (nI (0)) dX6_lay_64 (by decide +kernel) ?_
  refine zr_iast X (j := 0) 0 (2540) dX6_lay_65 (by omega) rfl rfl rfl (by omega) (by omega) (by omega) ?_
  refine zr_aloadn X 0 dX6_lay_66 rfl ?_
  refine zr_dup X dX6_lay_67 rfl ?_
  refine zr_get X (ci := 6) (q := 7) zI (.int ((zgm (zgm (upd (upd μ 2450 (nI t)) 2451 (-5)) f 1 2) f 1 1) (2450))) dX6_lay_68 (by omega) rfl rfl inX6 (by decide) rfl (congrArg Value.int ((pk_un (by omega)).trans (rfl))) rfl k_546 ?_
  refine zr_aloadn X 0 dX6_lay_71 rfl ?_
  refine zr_get X (ci := 6) (q := 6) (zR _) (.ref (ad (4))) dX6_lay_72 (by omega) rfl rfl inX6 (by decide) rfl (zvR rfl) rfl k_545 ?_
  refine zr_iload X 4 dX6_lay_75 rfl ?_
  refine zr_iald X (j := 0) 0 (nI (0)) dX6_lay_77 (by omega) rfl rfl rfl (by omega) (by omega) (zcg (b := 2540) (by omega) (pk_us)) ?_
  refine zr_isub X (((zgm (zgm (upd (upd μ 2450 (nI t)) 2451 (-5)) f 1 2) f 1 1) (2450)) - (nI (0))) dX6_lay_78 rfl ?_
  refine zr_put X (ci := 6) (q := 7) (ty0 := tyX6) (ty := .int) (2450) dX6_lay_79 (by omega) rfl rfl inX6 tyX6_ok nmX6 (by decide) rfl rfl rfl rfl rfl rfl k_546 (by omega) ?_
  refine zr_iinc X 4 (-1) [1, 2, 3, 4, 0] [(0, .ref (ad (0))), (1, .int (nI (f))), (2, .int (nI (t))), (3, .int (nI (1))), (4, .int (-1))] dX6_lay_82 rfl (by decide +kernel) (by decide) rfl ?_
  refine zr_goto X 14 dX6_lay_85 (by decide) ?_
  refine zr_mem X (rfl : _ = (zgm (zgm (zgm (upd (upd μ 2450 (nI t)) 2451 (-5)) f 1 2) f 1 1) f 1 0)) ?_
  refine zr_iload X 4 dX6_lay_14 rfl ?_
  refine zr_if_lt X 88 dX6_lay_16 (by decide) (fun _ => ?_) (fun q => absurd ((by decide +kernel : (-1 : Int32) < 0)) q)
  refine zr_iconst X (nI (0)) dX6_lay_88 (by decide +kernel) ?_
  refine zr_istore X [1, 2, 3, 4, 0] [(0, .ref (ad (0))), (1, .int (nI (f))), (2, .int (nI (t))), (3, .int (nI (1))), (4, .int (nI (0)))] dX6_lay_89 (by decide) rfl ?_
  refine zr_for X (20) (fun i => (zlv (zgm (zgm (zgm (upd (upd μ 2450 (nI t)) 2451 (-5)) f 1 2) f 1 1) f 1 0) f 1 (i))) (fun i => [(0, .ref (ad (0))), (1, .int (nI (f))), (2, .int (nI (t))), (3, .int (nI (1))), (4, .int (nI (i)))]) [] (rfl) rfl ?_ ?_
  · refine zr_iload X 4 dX6_lay_91 rfl ?_
    refine zr_bipush X (nI (20)) dX6_lay_93 (by decide +kernel) ?_
    refine zr_icmp_ge X 124 dX6_lay_95 (by decide) (fun _ => ?_) (fun q => absurd (zq_le (by omega) (by omega)) q)
    exact zr_vret X dX6_lay_124 rfl
  · intro i hi ih91
    refine zr_iload X 4 dX6_lay_91 rfl ?_
    refine zr_bipush X (nI (20)) dX6_lay_93 (by decide +kernel) ?_
    refine zr_icmp_ge X 124 dX6_lay_95 (by decide) (fun q => absurd q (nI_ge (by omega) (by omega))) (fun _ => ?_)
    refine zr_aloadn X 0 dX6_lay_98 rfl ?_
    refine zr_iloadn X 1 dX6_lay_99 rfl ?_
    refine zr_iloadn X 3 dX6_lay_100 rfl ?_
    refine zr_iconst X (nI (1)) dX6_lay_101 (by decide +kernel) ?_
    refine zr_icmp_ne X 113 dX6_lay_102 (by decide) (fun q => absurd (zq_eq (by omega)) q) (fun _ => ?_)
    refine zr_bipush X (nI (19)) dX6_lay_105 (by decide +kernel) ?_
    refine zr_iload X 4 dX6_lay_107 rfl ?_
    refine zr_isub X (nI (19 - i)) dX6_lay_109 ((pk_sub (by omega)).trans (congrArg nI (by omega))) ?_
    refine zr_goto X 115 dX6_lay_110 (by decide) ?_
    refine zr_dVv (C := RX6) (ci := 6) [.int (nI (f)), .int (nI (19 - i))] [] X (zK_ok A D tc tF tL tM) (c_takeVintage E (zlv (zgm (zgm (zgm (upd (upd μ 2450 (nI t)) 2451 (-5)) f 1 2) f 1 1) f 1 0) f 1 (i)) (f := f) (v := 19 - i) (by omega) (by omega)) k_675 k_677 kp_8 k_7 k_678 hdX6_takeVintage ⟨rfl, rfl⟩ ⟨Nat.le_of_ble_eq_true rfl, Nat.le_of_ble_eq_true rfl⟩ (by omega) rfl rfl rfl rfl (Nat.le_of_ble_eq_true rfl) dX6_lay_115 ?_
    refine zr_iinc X 4 (nI (i + 1)) [1, 2, 3, 4, 0] [(0, .ref (ad (0))), (1, .int (nI (f))), (2, .int (nI (t))), (3, .int (nI (1))), (4, .int (nI (i + 1)))] dX6_lay_118 rfl (zinc _) (by decide) rfl ?_
    refine zr_goto X 91 dX6_lay_121 (by decide) ?_
    exact ih91

set_option maxHeartbeats 4000000 in
set_option maxRecDepth 100000 in
theorem c_lay2 {l : Launch} {D : va_G} {tc : Nat → ClassId} {ad : Nat → Nat} {A : Nat → Prop} {tF tL tM : Nat} (E : zN 6 A ad) (μ : Nat → Int32) {f : Nat} (hf : f < 8) {t : Nat} (ht1 : 1 ≤ t) (ht9 : t ≤ 9999)  : zMv l yX6_lay cX6_lay 5 (zrm 4) (zK A D tc tF tL tM) A D vwCl tc ad 6 shR [.ref (ad (0)), .int (nI (f)), .int (nI (t)), .int (nI (2))] μ (fun u => u = zlay μ f (nI t) 2) := by
  refine zM_of RX6 [(0, .ref (ad (0))), (1, .int (nI (f))), (2, .int (nI (t))), (3, .int (nI (2)))] (zK_ok A D tc tF tL tM) E.1 E.2 owR_ok (by decide +kernel) rfl (Nat.le_of_ble_eq_true rfl) rfl ?_
  intro pP eE sS mM aS bL mT cO X
  refine zr_aloadn X 0 dX6_lay_0 rfl ?_
  refine zr_iloadn X 2 dX6_lay_1 rfl ?_
  refine zr_put X (ci := 6) (q := 7) (ty0 := tyX6) (ty := .int) (2450) dX6_lay_2 (by omega) rfl rfl inX6 tyX6_ok nmX6 (by decide) rfl rfl rfl rfl rfl rfl k_546 (by omega) ?_
  refine zr_aloadn X 0 dX6_lay_5 rfl ?_
  refine zr_bipush X (-5) dX6_lay_6 (by decide +kernel) ?_
  refine zr_put X (ci := 6) (q := 8) (ty0 := tyX6) (ty := .int) (2451) dX6_lay_8 (by omega) rfl rfl inX6 tyX6_ok nmX6 (by decide) rfl rfl rfl rfl rfl rfl k_547 (by omega) ?_
  refine zr_iconst X (nI (2)) dX6_lay_11 (by decide +kernel) ?_
  refine zr_istore X [1, 2, 3, 4, 0] [(0, .ref (ad (0))), (1, .int (nI (f))), (2, .int (nI (t))), (3, .int (nI (2))), (4, .int (nI (2)))] dX6_lay_12 (by decide) rfl ?_
  refine zr_mem X (rfl : _ = (upd (upd μ 2450 (nI t)) 2451 (-5))) ?_
  refine zr_iload X 4 dX6_lay_14 rfl ?_
  refine zr_if_lt X 88 dX6_lay_16 (by decide) (fun q => absurd q (nI_pos (by omega))) (fun _ => ?_)
  refine zr_aloadn X 0 dX6_lay_19 rfl ?_
  refine zr_get X (ci := 6) (q := 6) (zR _) (.ref (ad (4))) dX6_lay_20 (by omega) rfl rfl inX6 (by decide) rfl (zvR rfl) rfl k_545 ?_
  refine zr_iload X 4 dX6_lay_23 rfl ?_
  refine zr_iloadn X 3 dX6_lay_25 rfl ?_
  refine zr_iconst X (nI (2)) dX6_lay_26 (by decide +kernel) ?_
  refine zr_icmp_ne X 64 dX6_lay_27 (by decide) (fun q => absurd (zq_eq (by omega)) q) (fun _ => ?_)
  refine zr_aloadn X 0 dX6_lay_30 rfl ?_
  refine zr_get X (ci := 6) (q := 7) zI (.int ((upd (upd μ 2450 (nI t)) 2451 (-5)) (2450))) dX6_lay_31 (by omega) rfl rfl inX6 (by decide) rfl (congrArg Value.int (rfl)) rfl k_546 ?_
  refine zr_aloadn X 0 dX6_lay_34 rfl ?_
  refine zr_get X (ci := 6) (q := 0) (zR _) (.ref (ad (1))) dX6_lay_35 (by omega) rfl rfl inX6 (by decide) rfl (zvR rfl) rfl k_539 ?_
  refine zr_iloadn X 1 dX6_lay_38 rfl ?_
  refine zr_bipush X (nI (20)) dX6_lay_39 (by decide +kernel) ?_
  refine zr_iload X 4 dX6_lay_41 rfl ?_
  refine zr_iadd X (nI (22)) dX6_lay_43 ((nI_add _ _).trans (congrArg nI (by omega))) ?_
  refine zr_dSi [.int (nI (f)), .int (nI (22))] [.ref (ad (1)), .int ((upd (upd μ 2450 (nI t)) 2451 (-5)) (2450)), .int (nI (2)), .ref (ad (4))] X (zK_ok A D tc tF tL tM) (zM_i (z1 := nI (32 * f + 29)) (c_of E (upd (upd μ 2450 (nI t)) 2451 (-5)) (f) (22)) (congrArg nI (by omega))) k_597 k_598 k_7 k_599 hdX6_of ⟨rfl, rfl⟩ ⟨Nat.le_of_ble_eq_true rfl, Nat.le_of_ble_eq_true rfl⟩ rfl rfl (Nat.le_of_ble_eq_true rfl) dX6_lay_44 ?_
  refine zr_iald X (j := 32 * f + 29) 0 ((upd (upd μ 2450 (nI t)) 2451 (-5)) (32 * f + 29)) dX6_lay_47 (by omega) rfl rfl rfl (by omega) (by omega) (zcg (b := 32 * f + 29) (by omega) (rfl)) ?_
  refine zr_aloadn X 0 dX6_lay_48 rfl ?_
  refine zr_iloadn X 1 dX6_lay_49 rfl ?_
  refine zr_iload X 4 dX6_lay_50 rfl ?_
  refine zr_dVi (C := RX6) (ci := 6) [.int (nI (f)), .int (nI (2))] [.int ((upd (upd μ 2450 (nI t)) 2451 (-5)) (32 * f + 29)), .int ((upd (upd μ 2450 (nI t)) 2451 (-5)) (2450)), .int (nI (2)), .ref (ad (4))] X (zK_ok A D tc tF tL tM) (c_mayUse E (upd (upd μ 2450 (nI t)) 2451 (-5)) (f := f) (g := 2) (by omega) (by omega)) k_668 k_670 kp_7 k_7 k_671 hdX6_mayUse ⟨rfl, rfl⟩ ⟨Nat.le_of_ble_eq_true rfl, Nat.le_of_ble_eq_true rfl⟩ (by omega) rfl rfl rfl rfl (Nat.le_of_ble_eq_true rfl) dX6_lay_52 ?_
  refine zr_dSi [.int ((upd (upd μ 2450 (nI t)) 2451 (-5)) (32 * f + 29)), .int (zmay (upd (upd μ 2450 (nI t)) 2451 (-5)) (f) (2))] [.int ((upd (upd μ 2450 (nI t)) 2451 (-5)) (2450)), .int (nI (2)), .ref (ad (4))] X (zK_ok A D tc tF tL tM) (c_lesser E (upd (upd μ 2450 (nI t)) 2451 (-5)) ((upd (upd μ 2450 (nI t)) 2451 (-5)) (32 * f + 29)) (zmay (upd (upd μ 2450 (nI t)) 2451 (-5)) (f) (2))) k_672 k_673 k_7 k_674 hdX6_lesser ⟨rfl, rfl⟩ ⟨Nat.le_of_ble_eq_true rfl, Nat.le_of_ble_eq_true rfl⟩ rfl rfl (Nat.le_of_ble_eq_true rfl) dX6_lay_55 ?_
  refine zr_dSi [.int ((upd (upd μ 2450 (nI t)) 2451 (-5)) (2450)), .int (zmin ((upd (upd μ 2450 (nI t)) 2451 (-5)) (32 * f + 29)) (zmay (upd (upd μ 2450 (nI t)) 2451 (-5)) (f) (2)))] [.int (nI (2)), .ref (ad (4))] X (zK_ok A D tc tF tL tM) (c_lesser E (upd (upd μ 2450 (nI t)) 2451 (-5)) ((upd (upd μ 2450 (nI t)) 2451 (-5)) (2450)) (zmin ((upd (upd μ 2450 (nI t)) 2451 (-5)) (32 * f + 29)) (zmay (upd (upd μ 2450 (nI t)) 2451 (-5)) (f) (2)))) k_672 k_673 k_7 k_674 hdX6_lesser ⟨rfl, rfl⟩ ⟨Nat.le_of_ble_eq_true rfl, Nat.le_of_ble_eq_true rfl⟩ rfl rfl (Nat.le_of_ble_eq_true rfl) dX6_lay_58 ?_
  refine zr_goto X 65 dX6_lay_61 (by decide) ?_
  refine zr_iast X (j := 2) 0 (2542) dX6_lay_65 (by omega) rfl rfl rfl (by omega) (by omega) (by omega) ?_
  refine zr_aloadn X 0 dX6_lay_66 rfl ?_
  refine zr_dup X dX6_lay_67 rfl ?_
  refine zr_get X (ci := 6) (q := 7) zI (.int ((upd (upd μ 2450 (nI t)) 2451 (-5)) (2450))) dX6_lay_68 (by omega) rfl rfl inX6 (by decide) rfl (congrArg Value.int ((pk_un (by omega)).trans (rfl))) rfl k_546 ?_
  refine zr_aloadn X 0 dX6_lay_71 rfl ?_
  refine zr_get X (ci := 6) (q := 6) (zR _) (.ref (ad (4))) dX6_lay_72 (by omega) rfl rfl inX6 (by decide) rfl (zvR rfl) rfl k_545 ?_
  refine zr_iload X 4 dX6_lay_75 rfl ?_
  refine zr_iald X (j := 2) 0 (zmin ((upd (upd μ 2450 (nI t)) 2451 (-5)) (2450)) (zmin ((upd (upd μ 2450 (nI t)) 2451 (-5)) (32 * f + 29)) (zmay (upd (upd μ 2450 (nI t)) 2451 (-5)) (f) (2)))) dX6_lay_77 (by omega) rfl rfl rfl (by omega) (by omega) (zcg (b := 2542) (by omega) (pk_us)) ?_
  refine zr_isub X (((upd (upd μ 2450 (nI t)) 2451 (-5)) (2450)) - (zmin ((upd (upd μ 2450 (nI t)) 2451 (-5)) (2450)) (zmin ((upd (upd μ 2450 (nI t)) 2451 (-5)) (32 * f + 29)) (zmay (upd (upd μ 2450 (nI t)) 2451 (-5)) (f) (2))))) dX6_lay_78 rfl ?_
  refine zr_put X (ci := 6) (q := 7) (ty0 := tyX6) (ty := .int) (2450) dX6_lay_79 (by omega) rfl rfl inX6 tyX6_ok nmX6 (by decide) rfl rfl rfl rfl rfl rfl k_546 (by omega) ?_
  refine zr_iinc X 4 (nI (1)) [1, 2, 3, 4, 0] [(0, .ref (ad (0))), (1, .int (nI (f))), (2, .int (nI (t))), (3, .int (nI (2))), (4, .int (nI (1)))] dX6_lay_82 rfl (zdec _) (by decide) rfl ?_
  refine zr_goto X 14 dX6_lay_85 (by decide) ?_
  refine zr_mem X (rfl : _ = (zgm (upd (upd μ 2450 (nI t)) 2451 (-5)) f 2 2)) ?_
  refine zr_iload X 4 dX6_lay_14 rfl ?_
  refine zr_if_lt X 88 dX6_lay_16 (by decide) (fun q => absurd q (nI_pos (by omega))) (fun _ => ?_)
  refine zr_aloadn X 0 dX6_lay_19 rfl ?_
  refine zr_get X (ci := 6) (q := 6) (zR _) (.ref (ad (4))) dX6_lay_20 (by omega) rfl rfl inX6 (by decide) rfl (zvR rfl) rfl k_545 ?_
  refine zr_iload X 4 dX6_lay_23 rfl ?_
  refine zr_iloadn X 3 dX6_lay_25 rfl ?_
  refine zr_iconst X (nI (2)) dX6_lay_26 (by decide +kernel) ?_
  refine zr_icmp_ne X 64 dX6_lay_27 (by decide) (fun q => absurd (zq_eq (by omega)) q) (fun _ => ?_)
  refine zr_aloadn X 0 dX6_lay_30 rfl ?_
  refine zr_get X (ci := 6) (q := 7) zI (.int ((zgm (upd (upd μ 2450 (nI t)) 2451 (-5)) f 2 2) (2450))) dX6_lay_31 (by omega) rfl rfl inX6 (by decide) rfl (congrArg Value.int (rfl)) rfl k_546 ?_
  refine zr_aloadn X 0 dX6_lay_34 rfl ?_
  refine zr_get X (ci := 6) (q := 0) (zR _) (.ref (ad (1))) dX6_lay_35 (by omega) rfl rfl inX6 (by decide) rfl (zvR rfl) rfl k_539 ?_
  refine zr_iloadn X 1 dX6_lay_38 rfl ?_
  refine zr_bipush X (nI (20)) dX6_lay_39 (by decide +kernel) ?_
  refine zr_iload X 4 dX6_lay_41 rfl ?_
  refine zr_iadd X (nI (21)) dX6_lay_43 ((nI_add _ _).trans (congrArg nI (by omega))) ?_
  refine zr_dSi [.int (nI (f)), .int (nI (21))] [.ref (ad (1)), .int ((zgm (upd (upd μ 2450 (nI t)) 2451 (-5)) f 2 2) (2450)), .int (nI (1)), .ref (ad (4))] X (zK_ok A D tc tF tL tM) (zM_i (z1 := nI (32 * f + 28)) (c_of E (zgm (upd (upd μ 2450 (nI t)) 2451 (-5)) f 2 2) (f) (21)) (congrArg nI (by omega))) k_597 k_598 k_7 k_599 hdX6_of ⟨rfl, rfl⟩ ⟨Nat.le_of_ble_eq_true rfl, Nat.le_of_ble_eq_true rfl⟩ rfl rfl (Nat.le_of_ble_eq_true rfl) dX6_lay_44 ?_
  refine zr_iald X (j := 32 * f + 28) 0 ((zgm (upd (upd μ 2450 (nI t)) 2451 (-5)) f 2 2) (32 * f + 28)) dX6_lay_47 (by omega) rfl rfl rfl (by omega) (by omega) (zcg (b := 32 * f + 28) (by omega) (rfl)) ?_
  refine zr_aloadn X 0 dX6_lay_48 rfl ?_
  refine zr_iloadn X 1 dX6_lay_49 rfl ?_
  refine zr_iload X 4 dX6_lay_50 rfl ?_
  refine zr_dVi (C := RX6) (ci := 6) [.int (nI (f)), .int (nI (1))] [.int ((zgm (upd (upd μ 2450 (nI t)) 2451 (-5)) f 2 2) (32 * f + 28)), .int ((zgm (upd (upd μ 2450 (nI t)) 2451 (-5)) f 2 2) (2450)), .int (nI (1)), .ref (ad (4))] X (zK_ok A D tc tF tL tM) (c_mayUse E (zgm (upd (upd μ 2450 (nI t)) 2451 (-5)) f 2 2) (f := f) (g := 1) (by omega) (by omega)) k_668 k_670 kp_7 k_7 k_671 hdX6_mayUse ⟨rfl, rfl⟩ ⟨Nat.le_of_ble_eq_true rfl, Nat.le_of_ble_eq_true rfl⟩ (by omega) rfl rfl rfl rfl (Nat.le_of_ble_eq_true rfl) dX6_lay_52 ?_
  refine zr_dSi [.int ((zgm (upd (upd μ 2450 (nI t)) 2451 (-5)) f 2 2) (32 * f + 28)), .int (zmay (zgm (upd (upd μ 2450 (nI t)) 2451 (-5)) f 2 2) (f) (1))] [.int ((zgm (upd (upd μ 2450 (nI t)) 2451 (-5)) f 2 2) (2450)), .int (nI (1)), .ref (ad (4))] X (zK_ok A D tc tF tL tM) (c_lesser E (zgm (upd (upd μ 2450 (nI t)) 2451 (-5)) f 2 2) ((zgm (upd (upd μ 2450 (nI t)) 2451 (-5)) f 2 2) (32 * f + 28)) (zmay (zgm (upd (upd μ 2450 (nI t)) 2451 (-5)) f 2 2) (f) (1))) k_672 k_673 k_7 k_674 hdX6_lesser ⟨rfl, rfl⟩ ⟨Nat.le_of_ble_eq_true rfl, Nat.le_of_ble_eq_true rfl⟩ rfl rfl (Nat.le_of_ble_eq_true rfl) dX6_lay_55 ?_
  refine zr_dSi [.int ((zgm (upd (upd μ 2450 (nI t)) 2451 (-5)) f 2 2) (2450)), .int (zmin ((zgm (upd (upd μ 2450 (nI t)) 2451 (-5)) f 2 2) (32 * f + 28)) (zmay (zgm (upd (upd μ 2450 (nI t)) 2451 (-5)) f 2 2) (f) (1)))] [.int (nI (1)), .ref (ad (4))] X (zK_ok A D tc tF tL tM) (c_lesser E (zgm (upd (upd μ 2450 (nI t)) 2451 (-5)) f 2 2) ((zgm (upd (upd μ 2450 (nI t)) 2451 (-5)) f 2 2) (2450)) (zmin ((zgm (upd (upd μ 2450 (nI t)) 2451 (-5)) f 2 2) (32 * f + 28)) (zmay (zgm (upd (upd μ 2450 (nI t)) 2451 (-5)) f 2 2) (f) (1)))) k_672 k_673 k_7 k_674 hdX6_lesser ⟨rfl, rfl⟩ ⟨Nat.le_of_ble_eq_true rfl, Nat.le_of_ble_eq_true rfl⟩ rfl rfl (Nat.le_of_ble_eq_true rfl) dX6_lay_58 ?_
  refine zr_goto X 65 dX6_lay_61 (by decide) ?_
  refine zr_iast X (j := 1) 0 (2541) dX6_lay_65 (by omega) rfl rfl rfl (by omega) (by omega) (by omega) ?_
  refine zr_aloadn X 0 dX6_lay_66 rfl ?_
  refine zr_dup X dX6_lay_67 rfl ?_
  refine zr_get X (ci := 6) (q := 7) zI (.int ((zgm (upd (upd μ 2450 (nI t)) 2451 (-5)) f 2 2) (2450))) dX6_lay_68 (by omega) rfl rfl inX6 (by decide) rfl (congrArg Value.int ((pk_un (by omega)).trans (rfl))) rfl k_546 ?_
  refine zr_aloadn X 0 dX6_lay_71 rfl ?_
  refine zr_get X (ci := 6) (q := 6) (zR _) (.ref (ad (4))) dX6_lay_72 (by omega) rfl rfl inX6 (by decide) rfl (zvR rfl) rfl k_545 ?_
  refine zr_iload X 4 dX6_lay_75 rfl ?_
  refine zr_iald X (j := 1) 0 (zmin ((zgm (upd (upd μ 2450 (nI t)) 2451 (-5)) f 2 2) (2450)) (zmin ((zgm (upd (upd μ 2450 (nI t)) 2451 (-5)) f 2 2) (32 * f + 28)) (zmay (zgm (upd (upd μ 2450 (nI t)) 2451 (-5)) f 2 2) (f) (1)))) dX6_lay_77 (by omega) rfl rfl rfl (by omega) (by omega) (zcg (b := 2541) (by omega) (pk_us)) ?_
  refine zr_isub X (((zgm (upd (upd μ 2450 (nI t)) 2451 (-5)) f 2 2) (2450)) - (zmin ((zgm (upd (upd μ 2450 (nI t)) 2451 (-5)) f 2 2) (2450)) (zmin ((zgm (upd (upd μ 2450 (nI t)) 2451 (-5)) f 2 2) (32 * f + 28)) (zmay (zgm (upd (upd μ 2450 (nI t)) 2451 (-5)) f 2 2) (f) (1))))) dX6_lay_78 rfl ?_
  refine zr_put X (ci := 6) (q := 7) (ty0 := tyX6) (ty := .int) (2450) dX6_lay_79 (by omega) rfl rfl inX6 tyX6_ok nmX6 (by decide) rfl rfl rfl rfl rfl rfl k_546 (by omega) ?_
  refine zr_iinc X 4 (nI (0)) [1, 2, 3, 4, 0] [(0, .ref (ad (0))), (1, .int (nI (f))), (2, .int (nI (t))), (3, .int (nI (2))), (4, .int (nI (0)))] dX6_lay_82 rfl (zdec _) (by decide) rfl ?_
  refine zr_goto X 14 dX6_lay_85 (by decide) ?_
  refine zr_mem X (rfl : _ = (zgm (zgm (upd (upd μ 2450 (nI t)) 2451 (-5)) f 2 2) f 2 1)) ?_
  refine zr_iload X 4 dX6_lay_14 rfl ?_
  refine zr_if_lt X 88 dX6_lay_16 (by decide) (fun q => absurd q (nI_pos (by omega))) (fun _ => ?_)
  refine zr_aloadn X 0 dX6_lay_19 rfl ?_
  refine zr_get X (ci := 6) (q := 6) (zR _) (.ref (ad (4))) dX6_lay_20 (by omega) rfl rfl inX6 (by decide) rfl (zvR rfl) rfl k_545 ?_
  refine zr_iload X 4 dX6_lay_23 rfl ?_
  refine zr_iloadn X 3 dX6_lay_25 rfl ?_
  refine zr_iconst X (nI (2)) dX6_lay_26 (by decide +kernel) ?_
  refine zr_icmp_ne X 64 dX6_lay_27 (by decide) (fun q => absurd (zq_eq (by omega)) q) (fun _ => ?_)
  refine zr_aloadn X 0 dX6_lay_30 rfl ?_
  refine zr_get X (ci := 6) (q := 7) zI (.int ((zgm (zgm (upd (upd μ 2450 (nI t)) 2451 (-5)) f 2 2) f 2 1) (2450))) dX6_lay_31 (by omega) rfl rfl inX6 (by decide) rfl (congrArg Value.int (rfl)) rfl k_546 ?_
  refine zr_aloadn X 0 dX6_lay_34 rfl ?_
  refine zr_get X (ci := 6) (q := 0) (zR _) (.ref (ad (1))) dX6_lay_35 (by omega) rfl rfl inX6 (by decide) rfl (zvR rfl) rfl k_539 ?_
  refine zr_iloadn X 1 dX6_lay_38 rfl ?_
  refine zr_bipush X (nI (20)) dX6_lay_39 (by decide +kernel) ?_
  refine zr_iload X 4 dX6_lay_41 rfl ?_
  refine zr_iadd X (nI (20)) dX6_lay_43 ((nI_add _ _).trans (congrArg nI (by omega))) ?_
  refine zr_dSi [.int (nI (f)), .int (nI (20))] [.ref (ad (1)), .int ((zgm (zgm (upd (upd μ 2450 (nI t)) 2451 (-5)) f 2 2) f 2 1) (2450)), .int (nI (0)), .ref (ad (4))] X (zK_ok A D tc tF tL tM) (zM_i (z1 := nI (32 * f + 27)) (c_of E (zgm (zgm (upd (upd μ 2450 (nI t)) 2451 (-5)) f 2 2) f 2 1) (f) (20)) (congrArg nI (by omega))) k_597 k_598 k_7 k_599 hdX6_of ⟨rfl, rfl⟩ ⟨Nat.le_of_ble_eq_true rfl, Nat.le_of_ble_eq_true rfl⟩ rfl rfl (Nat.le_of_ble_eq_true rfl) dX6_lay_44 ?_
  refine zr_iald X (j := 32 * f + 27) 0 ((zgm (zgm (upd (upd μ 2450 (nI t)) 2451 (-5)) f 2 2) f 2 1) (32 * f + 27)) dX6_lay_47 (by omega) rfl rfl rfl (by omega) (by omega) (zcg (b := 32 * f + 27) (by omega) (rfl)) ?_
  refine zr_aloadn X 0 dX6_lay_48 rfl ?_
  refine zr_iloadn X 1 dX6_lay_49 rfl ?_
  refine zr_iload X 4 dX6_lay_50 rfl ?_
  refine zr_dVi (C := RX6) (ci := 6) [.int (nI (f)), .int (nI (0))] [.int ((zgm (zgm (upd (upd μ 2450 (nI t)) 2451 (-5)) f 2 2) f 2 1) (32 * f + 27)), .int ((zgm (zgm (upd (upd μ 2450 (nI t)) 2451 (-5)) f 2 2) f 2 1) (2450)), .int (nI (0)), .ref (ad (4))] X (zK_ok A D tc tF tL tM) (c_mayUse E (zgm (zgm (upd (upd μ 2450 (nI t)) 2451 (-5)) f 2 2) f 2 1) (f := f) (g := 0) (by omega) (by omega)) k_668 k_670 kp_7 k_7 k_671 hdX6_mayUse ⟨rfl, rfl⟩ ⟨Nat.le_of_ble_eq_true rfl, Nat.le_of_ble_eq_true rfl⟩ (by omega) rfl rfl rfl rfl (Nat.le_of_ble_eq_true rfl) dX6_lay_52 ?_
  refine zr_dSi [.int ((zgm (zgm (upd (upd μ 2450 (nI t)) 2451 (-5)) f 2 2) f 2 1) (32 * f + 27)), .int (zmay (zgm (zgm (upd (upd μ 2450 (nI t)) 2451 (-5)) f 2 2) f 2 1) (f) (0))] [.int ((zgm (zgm (upd (upd μ 2450 (nI t)) 2451 (-5)) f 2 2) f 2 1) (2450)), .int (nI (0)), .ref (ad (4))] X (zK_ok A D tc tF tL tM) (c_lesser E (zgm (zgm (upd (upd μ 2450 (nI t)) 2451 (-5)) f 2 2) f 2 1) ((zgm (zgm (upd (upd μ 2450 (nI t)) 2451 (-5)) f 2 2) f 2 1) (32 * f + 27)) (zmay (zgm (zgm (upd (upd μ 2450 (nI t)) 2451 (-5)) f 2 2) f 2 1) (f) (0))) k_672 k_673 k_7 k_674 hdX6_lesser ⟨rfl, rfl⟩ ⟨Nat.le_of_ble_eq_true rfl, Nat.le_of_ble_eq_true rfl⟩ rfl rfl (Nat.le_of_ble_eq_true rfl) dX6_lay_55 ?_
  refine zr_dSi [.int ((zgm (zgm (upd (upd μ 2450 (nI t)) 2451 (-5)) f 2 2) f 2 1) (2450)), .int (zmin ((zgm (zgm (upd (upd μ 2450 (nI t)) 2451 (-5)) f 2 2) f 2 1) (32 * f + 27)) (zmay (zgm (zgm (upd (upd μ 2450 (nI t)) 2451 (-5)) f 2 2) f 2 1) (f) (0)))] [.int (nI (0)), .ref (ad (4))] X (zK_ok A D tc tF tL tM) (c_lesser E (zgm (zgm (upd (upd μ 2450 (nI t)) 2451 (-5)) f 2 2) f 2 1) ((zgm (zgm (upd (upd μ 2450 (nI t)) 2451 (-5)) f 2 2) f 2 1) (2450)) (zmin ((zgm (zgm (upd (upd μ 2450 (nI t)) 2451 (-5)) f 2 2) f 2 1) (32 * f + 27)) (zmay (zgm (zgm (upd (upd μ 2450 (nI t)) 2451 (-5)) f 2 2) f 2 1) (f) (0)))) k_672 k_673 k_7 k_674 hdX6_lesser ⟨rfl, rfl⟩ ⟨Nat.le_of_ble_eq_true rfl, Nat.le_of_ble_eq_true rfl⟩ rfl rfl (Nat.le_of_ble_eq_true rfl) dX6_lay_58 ?_
  refine zr_goto X 65 dX6_lay_61 (by decide) ?_
  refine zr_iast X (j := 0) 0 (2540) dX6_lay_65 (by omega) rfl rfl rfl (by omega) (by omega) (by omega) ?_
  refine zr_aloadn X 0 dX6_lay_66 rfl ?_
  refine zr_dup X dX6_lay_67 rfl ?_
  refine zr_get X (ci := 6) (q := 7) zI (.int ((zgm (zgm (upd (upd μ 2450 (nI t)) 2451 (-5)) f 2 2) f 2 1) (2450))) dX6_lay_68 (by omega) rfl rfl inX6 (by decide) rfl (congrArg Value.int ((pk_un (by omega)).trans (rfl))) rfl k_546 ?_
  refine zr_aloadn X 0 dX6_lay_71 rfl ?_
  refine zr_get X (ci := 6) (q := 6) (zR _) (.ref (ad (4))) dX6_lay_72 (by omega) rfl rfl inX6 (by decide) rfl (zvR rfl) rfl k_545 ?_
  refine zr_iload X 4 dX6_lay_75 rfl ?_
  refine zr_iald X (j := 0) 0 (zmin ((zgm (zgm (upd (upd μ 2450 (nI t)) 2451 (-5)) f 2 2) f 2 1) (2450)) (zmin ((zgm (zgm (upd (upd μ 2450 (nI t)) 2451 (-5)) f 2 2) f 2 1) (32 * f + 27)) (zmay (zgm (zgm (upd (upd μ 2450 (nI t)) 2451 (-5)) f 2 2) f 2 1) (f) (0)))) dX6_lay_77 (by omega) rfl rfl rfl (by omega) (by omega) (zcg (b := 2540) (by omega) (pk_us)) ?_
  refine zr_isub X (((zgm (zgm (upd (upd μ 2450 (nI t)) 2451 (-5)) f 2 2) f 2 1) (2450)) - (zmin ((zgm (zgm (upd (upd μ 2450 (nI t)) 2451 (-5)) f 2 2) f 2 1) (2450)) (zmin ((zgm (zgm (upd (upd μ 2450 (nI t)) 2451 (-5)) f 2 2) f 2 1) (32 * f + 27)) (zmay (zgm (zgm (upd (upd μ 2450 (nI t)) 2451 (-5)) f 2 2) f 2 1) (f) (0))))) dX6_lay_78 rfl ?_
  refine zr_put X (ci := 6) (q := 7) (ty0 := tyX6) (ty := .int) (2450) dX6_lay_79 (by omega) rfl rfl inX6 tyX6_ok nmX6 (by decide) rfl rfl rfl rfl rfl rfl k_546 (by omega) ?_
  refine zr_iinc X 4 (-1) [1, 2, 3, 4, 0] [(0, .ref (ad (0))), (1, .int (nI (f))), (2, .int (nI (t))), (3, .int (nI (2))), (4, .int (-1))] dX6_lay_82 rfl (by decide +kernel) (by decide) rfl ?_
  refine zr_goto X 14 dX6_lay_85 (by decide) ?_
  refine zr_mem X (rfl : _ = (zgm (zgm (zgm (upd (upd μ 2450 (nI t)) 2451 (-5)) f 2 2) f 2 1) f 2 0)) ?_
  refine zr_iload X 4 dX6_lay_14 rfl ?_
  refine zr_if_lt X 88 dX6_lay_16 (by decide) (fun _ => ?_) (fun q => absurd ((by decide +kernel : (-1 : Int32) < 0)) q)
  refine zr_iconst X (nI (0)) dX6_lay_88 (by decide +kernel) ?_
  refine zr_istore X [1, 2, 3, 4, 0] [(0, .ref (ad (0))), (1, .int (nI (f))), (2, .int (nI (t))), (3, .int (nI (2))), (4, .int (nI (0)))] dX6_lay_89 (by decide) rfl ?_
  refine zr_for X (20) (fun i => (zlv (zgm (zgm (zgm (upd (upd μ 2450 (nI t)) 2451 (-5)) f 2 2) f 2 1) f 2 0) f 2 (i))) (fun i => [(0, .ref (ad (0))), (1, .int (nI (f))), (2, .int (nI (t))), (3, .int (nI (2))), (4, .int (nI (i)))]) [] (rfl) rfl ?_ ?_
  · refine zr_iload X 4 dX6_lay_91 rfl ?_
    refine zr_bipush X (nI (20)) dX6_lay_93 (by decide +kernel) ?_
    refine zr_icmp_ge X 124 dX6_lay_95 (by decide) (fun _ => ?_) (fun q => absurd (zq_le (by omega) (by omega)) q)
    exact zr_vret X dX6_lay_124 rfl
  · intro i hi ih91
    refine zr_iload X 4 dX6_lay_91 rfl ?_
    refine zr_bipush X (nI (20)) dX6_lay_93 (by decide +kernel) ?_
    refine zr_icmp_ge X 124 dX6_lay_95 (by decide) (fun q => absurd q (nI_ge (by omega) (by omega))) (fun _ => ?_)
    refine zr_aloadn X 0 dX6_lay_98 rfl ?_
    refine zr_iloadn X 1 dX6_lay_99 rfl ?_
    refine zr_iloadn X 3 dX6_lay_100 rfl ?_
    refine zr_iconst X (nI (1)) dX6_lay_101 (by decide +kernel) ?_
    refine zr_icmp_ne X 113 dX6_lay_102 (by decide) (fun _ => ?_) (fun q => absurd q (zq_ne (by omega) (by omega) (by omega)))
    refine zr_iload X 4 dX6_lay_113 rfl ?_
    refine zr_dVv (C := RX6) (ci := 6) [.int (nI (f)), .int (nI (i))] [] X (zK_ok A D tc tF tL tM) (c_takeVintage E (zlv (zgm (zgm (zgm (upd (upd μ 2450 (nI t)) 2451 (-5)) f 2 2) f 2 1) f 2 0) f 2 (i)) (f := f) (v := i) (by omega) (by omega)) k_675 k_677 kp_8 k_7 k_678 hdX6_takeVintage ⟨rfl, rfl⟩ ⟨Nat.le_of_ble_eq_true rfl, Nat.le_of_ble_eq_true rfl⟩ (by omega) rfl rfl rfl rfl (Nat.le_of_ble_eq_true rfl) dX6_lay_115 ?_
    refine zr_iinc X 4 (nI (i + 1)) [1, 2, 3, 4, 0] [(0, .ref (ad (0))), (1, .int (nI (f))), (2, .int (nI (t))), (3, .int (nI (2))), (4, .int (nI (i + 1)))] dX6_lay_118 rfl (zinc _) (by decide) rfl ?_
    refine zr_goto X 91 dX6_lay_121 (by decide) ?_
    exact ih91

