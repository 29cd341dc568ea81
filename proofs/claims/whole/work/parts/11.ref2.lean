set_option maxHeartbeats 4000000 in
set_option maxRecDepth 100000 in
theorem c_addFirm_full {l : Launch} {D : va_G} {tc : Nat → ClassId} {ad : Nat → Nat} {A : Nat → Prop} {tF tL tM : Nat} (E : zN 6 A ad) (μ : Nat → Int32) {m c k : Nat} (S : refS μ m c k) (h : c = 8) : zMi l yX6_addFirm cX6_addFirm 3 (some .int) (zrm 5) (zK A D tc tF tL tM) A D vwCl tc ad 6 shR [.ref (ad (0))] μ (fun r u => r = -3 ∧ u = μ) := by
  refine zM_of RX6 [(0, .ref (ad (0)))] (zK_ok A D tc tF tL tM) E.1 E.2 owR_ok (by decide +kernel) rfl (Nat.le_of_ble_eq_true rfl) rfl ?_
  intro pP eE sS mM aS bL mT cO X
  obtain ⟨hm, hm2, hc, h8, hk, hk4⟩ := S
  refine zr_aloadn X 0 dX6_addFirm_0 rfl ?_
  refine zr_get X (ci := 6) (q := 0) (zR _) (.ref (ad (1))) dX6_addFirm_1 (by omega) rfl rfl inX6 (by decide) rfl (zvR rfl) rfl k_539 ?_
  refine zr_iconst X (nI (1)) dX6_addFirm_4 (by decide +kernel) ?_
  refine zr_iald X (j := 1) 0 (nI (c)) dX6_addFirm_5 (by omega) rfl rfl rfl (by omega) (by omega) (zcg (b := 1) (by omega) (hc)) ?_
  refine zr_bipush X (nI (8)) dX6_addFirm_6 (by decide +kernel) ?_
  refine zr_icmp_ne X 14 dX6_addFirm_8 (by decide) (fun q => absurd (zq_eq (by omega)) q) (fun _ => ?_)
  refine zr_bipush X (-3) dX6_addFirm_11 (by decide +kernel) ?_
  exact zr_iret X dX6_addFirm_13 ⟨rfl, rfl⟩

set_option maxHeartbeats 4000000 in
set_option maxRecDepth 100000 in
theorem c_addFirm_ok {l : Launch} {D : va_G} {tc : Nat → ClassId} {ad : Nat → Nat} {A : Nat → Prop} {tF tL tM : Nat} (E : zN 6 A ad) (μ : Nat → Int32) {m c k : Nat} (S : refS μ m c k) (h : c < 8) : zMi l yX6_addFirm cX6_addFirm 3 (some .int) (zrm 5) (zK A D tc tF tL tM) A D vwCl tc ad 6 shR [.ref (ad (0))] μ (fun r u => r = nI c ∧ u = upd (zclr (zrec μ (0) (k)) c 32) 1 (nI (c + 1))) := by
  refine zM_of RX6 [(0, .ref (ad (0)))] (zK_ok A D tc tF tL tM) E.1 E.2 owR_ok (by decide +kernel) rfl (Nat.le_of_ble_eq_true rfl) rfl ?_
  intro pP eE sS mM aS bL mT cO X
  obtain ⟨hm, hm2, hc, h8, hk, hk4⟩ := S
  refine zr_aloadn X 0 dX6_addFirm_0 rfl ?_
  refine zr_get X (ci := 6) (q := 0) (zR _) (.ref (ad (1))) dX6_addFirm_1 (by omega) rfl rfl inX6 (by decide) rfl (zvR rfl) rfl k_539 ?_
  refine zr_iconst X (nI (1)) dX6_addFirm_4 (by decide +kernel) ?_
  refine zr_iald X (j := 1) 0 (nI (c)) dX6_addFirm_5 (by omega) rfl rfl rfl (by omega) (by omega) (zcg (b := 1) (by omega) (hc)) ?_
  refine zr_bipush X (nI (8)) dX6_addFirm_6 (by decide +kernel) ?_
  refine zr_icmp_ne X 14 dX6_addFirm_8 (by decide) (fun _ => ?_) (fun q => absurd q (zq_ne (by omega) (by omega) (by omega)))
  refine zr_aloadn X 0 dX6_addFirm_14 rfl ?_
  refine zr_iconst X (nI (0)) dX6_addFirm_15 (by decide +kernel) ?_
  refine zr_dVv (C := RX6) (ci := 6) [.int (nI (0))] [] X (zK_ok A D tc tF tL tM) (c_record E μ (hk) hk4 (by omega)) k_589 k_591 kp_1 k_7 k_592 hdX6_record ⟨rfl, rfl⟩ ⟨Nat.le_of_ble_eq_true rfl, Nat.le_of_ble_eq_true rfl⟩ (by omega) rfl rfl rfl rfl (Nat.le_of_ble_eq_true rfl) dX6_addFirm_16 ?_
  refine zr_aloadn X 0 dX6_addFirm_19 rfl ?_
  refine zr_get X (ci := 6) (q := 0) (zR _) (.ref (ad (1))) dX6_addFirm_20 (by omega) rfl rfl inX6 (by decide) rfl (zvR rfl) rfl k_539 ?_
  refine zr_iconst X (nI (1)) dX6_addFirm_23 (by decide +kernel) ?_
  refine zr_iald X (j := 1) 0 (nI (c)) dX6_addFirm_24 (by omega) rfl rfl rfl (by omega) (by omega) (zcg (b := 1) (by omega) ((zrec_out (by omega) (by omega) hk4).trans (hc))) ?_
  refine zr_istoren X [1, 0] [(0, .ref (ad (0))), (1, .int (nI (c)))] dX6_addFirm_25 (by decide) rfl ?_
  refine zr_iconst X (nI (0)) dX6_addFirm_26 (by decide +kernel) ?_
  refine zr_istoren X [1, 2, 0] [(0, .ref (ad (0))), (1, .int (nI (c))), (2, .int (nI (0)))] dX6_addFirm_27 (by decide) rfl ?_
  refine zr_for X (32) (fun i => (zclr (zrec μ (0) (k)) (c) (i))) (fun i => [(0, .ref (ad (0))), (1, .int (nI (c))), (2, .int (nI (i)))]) [] (rfl) rfl ?_ ?_
  · refine zr_iloadn X 2 dX6_addFirm_28 rfl ?_
    refine zr_bipush X (nI (32)) dX6_addFirm_29 (by decide +kernel) ?_
    refine zr_icmp_ge X 51 dX6_addFirm_31 (by decide) (fun _ => ?_) (fun q => absurd (zq_le (by omega) (by omega)) q)
    refine zr_aloadn X 0 dX6_addFirm_51 rfl ?_
    refine zr_get X (ci := 6) (q := 0) (zR _) (.ref (ad (1))) dX6_addFirm_52 (by omega) rfl rfl inX6 (by decide) rfl (zvR rfl) rfl k_539 ?_
    refine zr_iconst X (nI (1)) dX6_addFirm_55 (by decide +kernel) ?_
    refine zr_dup2 X dX6_addFirm_56 rfl rfl ?_
    refine zr_iald X (j := 1) 0 (nI (c)) dX6_addFirm_57 (by omega) rfl rfl rfl (by omega) (by omega) (zcg (b := 1) (by omega) ((zclr_out (by omega)).trans ((zrec_out (by omega) (by omega) hk4).trans (hc)))) ?_
    refine zr_iconst X (nI (1)) dX6_addFirm_58 (by decide +kernel) ?_
    refine zr_iadd X (nI (c + 1)) dX6_addFirm_59 (nI_add _ _) ?_
    refine zr_iast X (j := 1) 0 (1) dX6_addFirm_60 (by omega) rfl rfl rfl (by omega) (by omega) (by omega) ?_
    refine zr_iloadn X 1 dX6_addFirm_61 rfl ?_
    exact zr_iret X dX6_addFirm_62 ⟨rfl, rfl⟩
  · intro i hi ih28
    refine zr_iloadn X 2 dX6_addFirm_28 rfl ?_
    refine zr_bipush X (nI (32)) dX6_addFirm_29 (by decide +kernel) ?_
    refine zr_icmp_ge X 51 dX6_addFirm_31 (by decide) (fun q => absurd q (nI_ge (by omega) (by omega))) (fun _ => ?_)
    refine zr_aloadn X 0 dX6_addFirm_34 rfl ?_
    refine zr_get X (ci := 6) (q := 0) (zR _) (.ref (ad (1))) dX6_addFirm_35 (by omega) rfl rfl inX6 (by decide) rfl (zvR rfl) rfl k_539 ?_
    refine zr_iloadn X 1 dX6_addFirm_38 rfl ?_
    refine zr_iloadn X 2 dX6_addFirm_39 rfl ?_
    refine zr_dSi [.int (nI (c)), .int (nI (i))] [.ref (ad (1))] X (zK_ok A D tc tF tL tM) (zM_i (z1 := nI (32 * c + i + 7)) (c_of E (zclr (zrec μ (0) (k)) (c) (i)) (c) (i)) (congrArg nI (by omega))) k_597 k_598 k_7 k_599 hdX6_of ⟨rfl, rfl⟩ ⟨Nat.le_of_ble_eq_true rfl, Nat.le_of_ble_eq_true rfl⟩ rfl rfl (Nat.le_of_ble_eq_true rfl) dX6_addFirm_40 ?_
    refine zr_iconst X (nI (0)) dX6_addFirm_43 (by decide +kernel) ?_
    refine zr_iast X (j := 32 * c + i + 7) 0 (32 * c + i + 7) dX6_addFirm_44 (by omega) rfl rfl rfl (by omega) (by omega) (by omega) ?_
    refine zr_iinc X 2 (nI (i + 1)) [1, 2, 0] [(0, .ref (ad (0))), (1, .int (nI (c))), (2, .int (nI (i + 1)))] dX6_addFirm_45 rfl (zinc _) (by decide) rfl ?_
    refine zr_goto X 28 dX6_addFirm_48 (by decide) ?_
    exact ih28

set_option maxHeartbeats 4000000 in
set_option maxRecDepth 100000 in
theorem c_set_bad012 {l : Launch} {D : va_G} {tc : Nat → ClassId} {ad : Nat → Nat} {A : Nat → Prop} {tF tL tM : Nat} (E : zN 6 A ad) (μ : Nat → Int32) {m c k : Nat} (S : refS μ m c k) {w : Nat} (hw : w ≤ 2) {x : Int32} (hx : ¬ zin x 0 100)  : zMi l yX6_set cX6_set 6 (some .int) (zrm 5) (zK A D tc tF tL tM) A D vwCl tc ad 6 shR [.ref (ad (0)), .int (nI (w)), .int (x)] μ (fun r u => r = -2 ∧ u = μ) := by
  refine zM_of RX6 [(0, .ref (ad (0))), (1, .int (nI (w))), (2, .int (x))] (zK_ok A D tc tF tL tM) E.1 E.2 owR_ok (by decide +kernel) rfl (Nat.le_of_ble_eq_true rfl) rfl ?_
  intro pP eE sS mM aS bL mT cO X
  obtain ⟨hm, hm2, hc, h8, hk, hk4⟩ := S
  refine zr_iloadn X 1 dX6_set_0 rfl ?_
  refine zr_iconst X (nI (3)) dX6_set_1 (by decide +kernel) ?_
  refine zr_icmp_ne X 9 dX6_set_2 (by decide) (fun _ => ?_) (fun q => absurd q (zq_ne (by omega) (by omega) (by omega)))
  refine zr_iconst X (nI (0)) dX6_set_9 (by decide +kernel) ?_
  refine zr_istoren X [1, 2, 3, 0] [(0, .ref (ad (0))), (1, .int (nI (w))), (2, .int (x)), (3, .int (nI (0)))] dX6_set_10 (by decide) rfl ?_
  refine zr_iloadn X 1 dX6_set_11 rfl ?_
  refine zr_iconst X (nI (3)) dX6_set_12 (by decide +kernel) ?_
  refine zr_icmp_ne X 20 dX6_set_13 (by decide) (fun _ => ?_) (fun q => absurd q (zq_ne (by omega) (by omega) (by omega)))
  refine zr_iloadn X 1 dX6_set_20 rfl ?_
  refine zr_iconst X (nI (4)) dX6_set_21 (by decide +kernel) ?_
  refine zr_icmp_ne X 30 dX6_set_22 (by decide) (fun _ => ?_) (fun q => absurd q (zq_ne (by omega) (by omega) (by omega)))
  refine zr_bipush X (nI (100)) dX6_set_30 (by decide +kernel) ?_
  refine zr_istore X [1, 2, 3, 4, 0] [(0, .ref (ad (0))), (1, .int (nI (w))), (2, .int (x)), (3, .int (nI (0))), (4, .int (nI (100)))] dX6_set_32 (by decide) rfl ?_
  refine zr_iloadn X 1 dX6_set_34 rfl ?_
  refine zr_iconst X (nI (0)) dX6_set_35 (by decide +kernel) ?_
  refine zr_iconst X (nI (4)) dX6_set_36 (by decide +kernel) ?_
  refine zr_dSi [.int (nI (w)), .int (nI (0)), .int (nI (4))] [] X (zK_ok A D tc tF tL tM) (c_in_t E μ (zq_le (by omega) (by omega)) (zq_le (by omega) (by omega))) k_604 k_605 k_7 k_606 hdX6_in ⟨rfl, rfl⟩ ⟨Nat.le_of_ble_eq_true rfl, Nat.le_of_ble_eq_true rfl⟩ rfl rfl (Nat.le_of_ble_eq_true rfl) dX6_set_37 ?_
  refine zr_if_eq X 53 dX6_set_40 (by decide) (fun q => absurd q (nI_ne0 (by omega) (by omega))) (fun _ => ?_)
  refine zr_iloadn X 2 dX6_set_43 rfl ?_
  refine zr_iloadn X 3 dX6_set_44 rfl ?_
  refine zr_iload X 4 dX6_set_45 rfl ?_
  refine zr_dSi [.int (x), .int (nI (0)), .int (nI (100))] [] X (zK_ok A D tc tF tL tM) (c_in_f E μ (fun q => hx (zin_of (by omega) q.1 q.2 (by omega)))) k_604 k_605 k_7 k_606 hdX6_in ⟨rfl, rfl⟩ ⟨Nat.le_of_ble_eq_true rfl, Nat.le_of_ble_eq_true rfl⟩ rfl rfl (Nat.le_of_ble_eq_true rfl) dX6_set_47 ?_
  refine zr_if_ne X 56 dX6_set_50 (by decide) (fun q => absurd (zq_eq0 (by omega)) q) (fun _ => ?_)
  refine zr_bipush X (-2) dX6_set_53 (by decide +kernel) ?_
  exact zr_iret X dX6_set_55 ⟨rfl, rfl⟩

set_option maxHeartbeats 4000000 in
set_option maxRecDepth 100000 in
theorem c_set_none012 {l : Launch} {D : va_G} {tc : Nat → ClassId} {ad : Nat → Nat} {A : Nat → Prop} {tF tL tM : Nat} (E : zN 6 A ad) (μ : Nat → Int32) {m c k : Nat} (S : refS μ m c k) {w : Nat} (hw : w ≤ 2) {v : Nat} (h1 : 0 ≤ v) (h2 : v ≤ 100) (h : μ (w + 2) = nI v) : zMi l yX6_set cX6_set 6 (some .int) (zrm 5) (zK A D tc tF tL tM) A D vwCl tc ad 6 shR [.ref (ad (0)), .int (nI (w)), .int (nI (v))] μ (fun r u => r = -5 ∧ u = μ) := by
  refine zM_of RX6 [(0, .ref (ad (0))), (1, .int (nI (w))), (2, .int (nI (v)))] (zK_ok A D tc tF tL tM) E.1 E.2 owR_ok (by decide +kernel) rfl (Nat.le_of_ble_eq_true rfl) rfl ?_
  intro pP eE sS mM aS bL mT cO X
  obtain ⟨hm, hm2, hc, h8, hk, hk4⟩ := S
  refine zr_iloadn X 1 dX6_set_0 rfl ?_
  refine zr_iconst X (nI (3)) dX6_set_1 (by decide +kernel) ?_
  refine zr_icmp_ne X 9 dX6_set_2 (by decide) (fun _ => ?_) (fun q => absurd q (zq_ne (by omega) (by omega) (by omega)))
  refine zr_iconst X (nI (0)) dX6_set_9 (by decide +kernel) ?_
  refine zr_istoren X [1, 2, 3, 0] [(0, .ref (ad (0))), (1, .int (nI (w))), (2, .int (nI (v))), (3, .int (nI (0)))] dX6_set_10 (by decide) rfl ?_
  refine zr_iloadn X 1 dX6_set_11 rfl ?_
  refine zr_iconst X (nI (3)) dX6_set_12 (by decide +kernel) ?_
  refine zr_icmp_ne X 20 dX6_set_13 (by decide) (fun _ => ?_) (fun q => absurd q (zq_ne (by omega) (by omega) (by omega)))
  refine zr_iloadn X 1 dX6_set_20 rfl ?_
  refine zr_iconst X (nI (4)) dX6_set_21 (by decide +kernel) ?_
  refine zr_icmp_ne X 30 dX6_set_22 (by decide) (fun _ => ?_) (fun q => absurd q (zq_ne (by omega) (by omega) (by omega)))
  refine zr_bipush X (nI (100)) dX6_set_30 (by decide +kernel) ?_
  refine zr_istore X [1, 2, 3, 4, 0] [(0, .ref (ad (0))), (1, .int (nI (w))), (2, .int (nI (v))), (3, .int (nI (0))), (4, .int (nI (100)))] dX6_set_32 (by decide) rfl ?_
  refine zr_iloadn X 1 dX6_set_34 rfl ?_
  refine zr_iconst X (nI (0)) dX6_set_35 (by decide +kernel) ?_
  refine zr_iconst X (nI (4)) dX6_set_36 (by decide +kernel) ?_
  refine zr_dSi [.int (nI (w)), .int (nI (0)), .int (nI (4))] [] X (zK_ok A D tc tF tL tM) (c_in_t E μ (zq_le (by omega) (by omega)) (zq_le (by omega) (by omega))) k_604 k_605 k_7 k_606 hdX6_in ⟨rfl, rfl⟩ ⟨Nat.le_of_ble_eq_true rfl, Nat.le_of_ble_eq_true rfl⟩ rfl rfl (Nat.le_of_ble_eq_true rfl) dX6_set_37 ?_
  refine zr_if_eq X 53 dX6_set_40 (by decide) (fun q => absurd q (nI_ne0 (by omega) (by omega))) (fun _ => ?_)
  refine zr_iloadn X 2 dX6_set_43 rfl ?_
  refine zr_iloadn X 3 dX6_set_44 rfl ?_
  refine zr_iload X 4 dX6_set_45 rfl ?_
  refine zr_dSi [.int (nI (v)), .int (nI (0)), .int (nI (100))] [] X (zK_ok A D tc tF tL tM) (c_in_t E μ (zq_le (by omega) (by omega)) (zq_le (by omega) (by omega))) k_604 k_605 k_7 k_606 hdX6_in ⟨rfl, rfl⟩ ⟨Nat.le_of_ble_eq_true rfl, Nat.le_of_ble_eq_true rfl⟩ rfl rfl (Nat.le_of_ble_eq_true rfl) dX6_set_47 ?_
  refine zr_if_ne X 56 dX6_set_50 (by decide) (fun _ => ?_) (fun q => absurd q (nI_ne0 (by omega) (by omega)))
  refine zr_aloadn X 0 dX6_set_56 rfl ?_
  refine zr_get X (ci := 6) (q := 0) (zR _) (.ref (ad (1))) dX6_set_57 (by omega) rfl rfl inX6 (by decide) rfl (zvR rfl) rfl k_539 ?_
  refine zr_iconst X (nI (2)) dX6_set_60 (by decide +kernel) ?_
  refine zr_iloadn X 1 dX6_set_61 rfl ?_
  refine zr_iadd X (nI (w + 2)) dX6_set_62 ((nI_add _ _).trans (congrArg nI (by omega))) ?_
  refine zr_iald X (j := w + 2) 0 (μ (w + 2)) dX6_set_63 (by omega) rfl rfl rfl (by omega) (by omega) (zcg (b := w + 2) (by omega) (rfl)) ?_
  refine zr_istore X [1, 2, 3, 4, 5, 0] [(0, .ref (ad (0))), (1, .int (nI (w))), (2, .int (nI (v))), (3, .int (nI (0))), (4, .int (nI (100))), (5, .int (μ (w + 2)))] dX6_set_64 (by decide) rfl ?_
  refine zr_iload X 5 dX6_set_66 rfl ?_
  refine zr_iloadn X 2 dX6_set_68 rfl ?_
  refine zr_icmp_ne X 75 dX6_set_69 (by decide) (fun q => absurd (h) q) (fun _ => ?_)
  refine zr_bipush X (-5) dX6_set_72 (by decide +kernel) ?_
  exact zr_iret X dX6_set_74 ⟨rfl, rfl⟩

set_option maxHeartbeats 4000000 in
set_option maxRecDepth 100000 in
theorem c_set_ok012 {l : Launch} {D : va_G} {tc : Nat → ClassId} {ad : Nat → Nat} {A : Nat → Prop} {tF tL tM : Nat} (E : zN 6 A ad) (μ : Nat → Int32) {m c k : Nat} (S : refS μ m c k) {w : Nat} (hw : w ≤ 2) {v : Nat} (h1 : 0 ≤ v) (h2 : v ≤ 100) (h : ¬ μ (w + 2) = nI v) : zMi l yX6_set cX6_set 6 (some .int) (zrm 5) (zK A D tc tF tL tM) A D vwCl tc ad 6 shR [.ref (ad (0)), .int (nI (w)), .int (nI (v))] μ (fun r u => r = μ (w + 2) ∧ u = (upd (zrec μ (0) (k)) (w + 2) (nI (v)))) := by
  refine zM_of RX6 [(0, .ref (ad (0))), (1, .int (nI (w))), (2, .int (nI (v)))] (zK_ok A D tc tF tL tM) E.1 E.2 owR_ok (by decide +kernel) rfl (Nat.le_of_ble_eq_true rfl) rfl ?_
  intro pP eE sS mM aS bL mT cO X
  obtain ⟨hm, hm2, hc, h8, hk, hk4⟩ := S
  refine zr_iloadn X 1 dX6_set_0 rfl ?_
  refine zr_iconst X (nI (3)) dX6_set_1 (by decide +kernel) ?_
  refine zr_icmp_ne X 9 dX6_set_2 (by decide) (fun _ => ?_) (fun q => absurd q (zq_ne (by omega) (by omega) (by omega)))
  refine zr_iconst X (nI (0)) dX6_set_9 (by decide +kernel) ?_
  refine zr_istoren X [1, 2, 3, 0] [(0, .ref (ad (0))), (1, .int (nI (w))), (2, .int (nI (v))), (3, .int (nI (0)))] dX6_set_10 (by decide) rfl ?_
  refine zr_iloadn X 1 dX6_set_11 rfl ?_
  refine zr_iconst X (nI (3)) dX6_set_12 (by decide +kernel) ?_
  refine zr_icmp_ne X 20 dX6_set_13 (by decide) (fun _ => ?_) (fun q => absurd q (zq_ne (by omega) (by omega) (by omega)))
  refine zr_iloadn X 1 dX6_set_20 rfl ?_
  refine zr_iconst X (nI (4)) dX6_set_21 (by decide +kernel) ?_
  refine zr_icmp_ne X 30 dX6_set_22 (by decide) (fun _ => ?_) (fun q => absurd q (zq_ne (by omega) (by omega) (by omega)))
  refine zr_bipush X (nI (100)) dX6_set_30 (by decide +kernel) ?_
  refine zr_istore X [1, 2, 3, 4, 0] [(0, .ref (ad (0))), (1, .int (nI (w))), (2, .int (nI (v))), (3, .int (nI (0))), (4, .int (nI (100)))] dX6_set_32 (by decide) rfl ?_
  refine zr_iloadn X 1 dX6_set_34 rfl ?_
  refine zr_iconst X (nI (0)) dX6_set_35 (by decide +kernel) ?_
  refine zr_iconst X (nI (4)) dX6_set_36 (by decide +kernel) ?_
  refine zr_dSi [.int (nI (w)), .int (nI (0)), .int (nI (4))] [] X (zK_ok A D tc tF tL tM) (c_in_t E μ (zq_le (by omega) (by omega)) (zq_le (by omega) (by omega))) k_604 k_605 k_7 k_606 hdX6_in ⟨rfl, rfl⟩ ⟨Nat.le_of_ble_eq_true rfl, Nat.le_of_ble_eq_true rfl⟩ rfl rfl (Nat.le_of_ble_eq_true rfl) dX6_set_37 ?_
  refine zr_if_eq X 53 dX6_set_40 (by decide) (fun q => absurd q (nI_ne0 (by omega) (by omega))) (fun _ => ?_)
  refine zr_iloadn X 2 dX6_set_43 rfl ?_
  refine zr_iloadn X 3 dX6_set_44 rfl ?_
  refine zr_iload X 4 dX6_set_45 rfl ?_
  refine zr_dSi [.int (nI (v)), .int (nI (0)), .int (nI (100))] [] X (zK_ok A D tc tF tL tM) (c_in_t E μ (zq_le (by omega) (by omega)) (zq_le (by omega) (by omega))) k_604 k_605 k_7 k_606 hdX6_in ⟨rfl, rfl⟩ ⟨Nat.le_of_ble_eq_true rfl, Nat.le_of_ble_eq_true rfl⟩ rfl rfl (Nat.le_of_ble_eq_true rfl) dX6_set_47 ?_
  refine zr_if_ne X 56 dX6_set_50 (by decide) (fun _ => ?_) (fun q => absurd q (nI_ne0 (by omega) (by omega)))
  refine zr_aloadn X 0 dX6_set_56 rfl ?_
  refine zr_get X (ci := 6) (q := 0) (zR _) (.ref (ad (1))) dX6_set_57 (by omega) rfl rfl inX6 (by decide) rfl (zvR rfl) rfl k_539 ?_
  refine zr_iconst X (nI (2)) dX6_set_60 (by decide +kernel) ?_
  refine zr_iloadn X 1 dX6_set_61 rfl ?_
  refine zr_iadd X (nI (w + 2)) dX6_set_62 ((nI_add _ _).trans (congrArg nI (by omega))) ?_
  refine zr_iald X (j := w + 2) 0 (μ (w + 2)) dX6_set_63 (by omega) rfl rfl rfl (by omega) (by omega) (zcg (b := w + 2) (by omega) (rfl)) ?_
  refine zr_istore X [1, 2, 3, 4, 5, 0] [(0, .ref (ad (0))), (1, .int (nI (w))), (2, .int (nI (v))), (3, .int (nI (0))), (4, .int (nI (100))), (5, .int (μ (w + 2)))] dX6_set_64 (by decide) rfl ?_
  refine zr_iload X 5 dX6_set_66 rfl ?_
  refine zr_iloadn X 2 dX6_set_68 rfl ?_
  refine zr_icmp_ne X 75 dX6_set_69 (by decide) (fun _ => ?_) (fun q => absurd q (h))
  refine zr_aloadn X 0 dX6_set_75 rfl ?_
  refine zr_iconst X (nI (0)) dX6_set_76 (by decide +kernel) ?_
  refine zr_dVv (C := RX6) (ci := 6) [.int (nI (0))] [] X (zK_ok A D tc tF tL tM) (c_record E μ (hk) hk4 (by omega)) k_589 k_591 kp_1 k_7 k_592 hdX6_record ⟨rfl, rfl⟩ ⟨Nat.le_of_ble_eq_true rfl, Nat.le_of_ble_eq_true rfl⟩ (by omega) rfl rfl rfl rfl (Nat.le_of_ble_eq_true rfl) dX6_set_77 ?_
  refine zr_aloadn X 0 dX6_set_80 rfl ?_
  refine zr_get X (ci := 6) (q := 0) (zR _) (.ref (ad (1))) dX6_set_81 (by omega) rfl rfl inX6 (by decide) rfl (zvR rfl) rfl k_539 ?_
  refine zr_iconst X (nI (2)) dX6_set_84 (by decide +kernel) ?_
  refine zr_iloadn X 1 dX6_set_85 rfl ?_
  refine zr_iadd X (nI (w + 2)) dX6_set_86 ((nI_add _ _).trans (congrArg nI (by omega))) ?_
  refine zr_iloadn X 2 dX6_set_87 rfl ?_
  refine zr_iast X (j := w + 2) 0 (w + 2) dX6_set_88 (by omega) rfl rfl rfl (by omega) (by omega) (by omega) ?_
  refine zr_iload X 5 dX6_set_89 rfl ?_
  exact zr_iret X dX6_set_91 ⟨rfl, rfl⟩

set_option maxHeartbeats 4000000 in
set_option maxRecDepth 100000 in
theorem c_set_bad3 {l : Launch} {D : va_G} {tc : Nat → ClassId} {ad : Nat → Nat} {A : Nat → Prop} {tF tL tM : Nat} (E : zN 6 A ad) (μ : Nat → Int32) {m c k : Nat} (S : refS μ m c k) {x : Int32} (hx : ¬ zin x 1 5)  : zMi l yX6_set cX6_set 6 (some .int) (zrm 5) (zK A D tc tF tL tM) A D vwCl tc ad 6 shR [.ref (ad (0)), .int (nI (3)), .int (x)] μ (fun r u => r = -2 ∧ u = μ) := by
  refine zM_of RX6 [(0, .ref (ad (0))), (1, .int (nI (3))), (2, .int (x))] (zK_ok A D tc tF tL tM) E.1 E.2 owR_ok (by decide +kernel) rfl (Nat.le_of_ble_eq_true rfl) rfl ?_
  intro pP eE sS mM aS bL mT cO X
  obtain ⟨hm, hm2, hc, h8, hk, hk4⟩ := S
  refine zr_iloadn X 1 dX6_set_0 rfl ?_
  refine zr_iconst X (nI (3)) dX6_set_1 (by decide +kernel) ?_
  refine zr_icmp_ne X 9 dX6_set_2 (by decide) (fun q => absurd (zq_eq (by omega)) q) (fun _ => ?_)
  refine zr_iconst X (nI (1)) dX6_set_5 (by decide +kernel) ?_
  refine zr_goto X 10 dX6_set_6 (by decide) ?_
  refine zr_istoren X [1, 2, 3, 0] [(0, .ref (ad (0))), (1, .int (nI (3))), (2, .int (x)), (3, .int (nI (1)))] dX6_set_10 (by decide) rfl ?_
  refine zr_iloadn X 1 dX6_set_11 rfl ?_
  refine zr_iconst X (nI (3)) dX6_set_12 (by decide +kernel) ?_
  refine zr_icmp_ne X 20 dX6_set_13 (by decide) (fun q => absurd (zq_eq (by omega)) q) (fun _ => ?_)
  refine zr_iconst X (nI (5)) dX6_set_16 (by decide +kernel) ?_
  refine zr_goto X 32 dX6_set_17 (by decide) ?_
  refine zr_istore X [1, 2, 3, 4, 0] [(0, .ref (ad (0))), (1, .int (nI (3))), (2, .int (x)), (3, .int (nI (1))), (4, .int (nI (5)))] dX6_set_32 (by decide) rfl ?_
  refine zr_iloadn X 1 dX6_set_34 rfl ?_
  refine zr_iconst X (nI (0)) dX6_set_35 (by decide +kernel) ?_
  refine zr_iconst X (nI (4)) dX6_set_36 (by decide +kernel) ?_
  refine zr_dSi [.int (nI (3)), .int (nI (0)), .int (nI (4))] [] X (zK_ok A D tc tF tL tM) (c_in_t E μ (zq_le (by omega) (by omega)) (zq_le (by omega) (by omega))) k_604 k_605 k_7 k_606 hdX6_in ⟨rfl, rfl⟩ ⟨Nat.le_of_ble_eq_true rfl, Nat.le_of_ble_eq_true rfl⟩ rfl rfl (Nat.le_of_ble_eq_true rfl) dX6_set_37 ?_
  refine zr_if_eq X 53 dX6_set_40 (by decide) (fun q => absurd q (nI_ne0 (by omega) (by omega))) (fun _ => ?_)
  refine zr_iloadn X 2 dX6_set_43 rfl ?_
  refine zr_iloadn X 3 dX6_set_44 rfl ?_
  refine zr_iload X 4 dX6_set_45 rfl ?_
  refine zr_dSi [.int (x), .int (nI (1)), .int (nI (5))] [] X (zK_ok A D tc tF tL tM) (c_in_f E μ (fun q => hx (zin_of (by omega) q.1 q.2 (by omega)))) k_604 k_605 k_7 k_606 hdX6_in ⟨rfl, rfl⟩ ⟨Nat.le_of_ble_eq_true rfl, Nat.le_of_ble_eq_true rfl⟩ rfl rfl (Nat.le_of_ble_eq_true rfl) dX6_set_47 ?_
  refine zr_if_ne X 56 dX6_set_50 (by decide) (fun q => absurd (zq_eq0 (by omega)) q) (fun _ => ?_)
  refine zr_bipush X (-2) dX6_set_53 (by decide +kernel) ?_
  exact zr_iret X dX6_set_55 ⟨rfl, rfl⟩

set_option maxHeartbeats 4000000 in
set_option maxRecDepth 100000 in
theorem c_set_none3 {l : Launch} {D : va_G} {tc : Nat → ClassId} {ad : Nat → Nat} {A : Nat → Prop} {tF tL tM : Nat} (E : zN 6 A ad) (μ : Nat → Int32) {m c k : Nat} (S : refS μ m c k) {v : Nat} (h1 : 1 ≤ v) (h2 : v ≤ 5) (h : μ (5) = nI v) : zMi l yX6_set cX6_set 6 (some .int) (zrm 5) (zK A D tc tF tL tM) A D vwCl tc ad 6 shR [.ref (ad (0)), .int (nI (3)), .int (nI (v))] μ (fun r u => r = -5 ∧ u = μ) := by
  refine zM_of RX6 [(0, .ref (ad (0))), (1, .int (nI (3))), (2, .int (nI (v)))] (zK_ok A D tc tF tL tM) E.1 E.2 owR_ok (by decide +kernel) rfl (Nat.le_of_ble_eq_true rfl) rfl ?_
  intro pP eE sS mM aS bL mT cO X
  obtain ⟨hm, hm2, hc, h8, hk, hk4⟩ := S
  refine zr_iloadn X 1 dX6_set_0 rfl ?_
  refine zr_iconst X (nI (3)) dX6_set_1 (by decide +kernel) ?_
  refine zr_icmp_ne X 9 dX6_set_2 (by decide) (fun q => absurd (zq_eq (by omega)) q) (fun _ => ?_)
  refine zr_iconst X (nI (1)) dX6_set_5 (by decide +kernel) ?_
  refine zr_goto X 10 dX6_set_6 (by decide) ?_
  refine zr_istoren X [1, 2, 3, 0] [(0, .ref (ad (0))), (1, .int (nI (3))), (2, .int (nI (v))), (3, .int (nI (1)))] dX6_set_10 (by decide) rfl ?_
  refine zr_iloadn X 1 dX6_set_11 rfl ?_
  refine zr_iconst X (nI (3)) dX6_set_12 (by decide +kernel) ?_
  refine zr_icmp_ne X 20 dX6_set_13 (by decide) (fun q => absurd (zq_eq (by omega)) q) (fun _ => ?_)
  refine zr_iconst X (nI (5)) dX6_set_16 (by decide +kernel) ?_
  refine zr_goto X 32 dX6_set_17 (by decide) ?_
  refine zr_istore X [1, 2, 3, 4, 0] [(0, .ref (ad (0))), (1, .int (nI (3))), (2, .int (nI (v))), (3, .int (nI (1))), (4, .int (nI (5)))] dX6_set_32 (by decide) rfl ?_
  refine zr_iloadn X 1 dX6_set_34 rfl ?_
  refine zr_iconst X (nI (0)) dX6_set_35 (by decide +kernel) ?_
  refine zr_iconst X (nI (4)) dX6_set_36 (by decide +kernel) ?_
  refine zr_dSi [.int (nI (3)), .int (nI (0)), .int (nI (4))] [] X (zK_ok A D tc tF tL tM) (c_in_t E μ (zq_le (by omega) (by omega)) (zq_le (by omega) (by omega))) k_604 k_605 k_7 k_606 hdX6_in ⟨rfl, rfl⟩ ⟨Nat.le_of_ble_eq_true rfl, Nat.le_of_ble_eq_true rfl⟩ rfl rfl (Nat.le_of_ble_eq_true rfl) dX6_set_37 ?_
  refine zr_if_eq X 53 dX6_set_40 (by decide) (fun q => absurd q (nI_ne0 (by omega) (by omega))) (fun _ => ?_)
  refine zr_iloadn X 2 dX6_set_43 rfl ?_
  refine zr_iloadn X 3 dX6_set_44 rfl ?_
  refine zr_iload X 4 dX6_set_45 rfl ?_
  refine zr_dSi [.int (nI (v)), .int (nI (1)), .int (nI (5))] [] X (zK_ok A D tc tF tL tM) (c_in_t E μ (zq_le (by omega) (by omega)) (zq_le (by omega) (by omega))) k_604 k_605 k_7 k_606 hdX6_in ⟨rfl, rfl⟩ ⟨Nat.le_of_ble_eq_true rfl, Nat.le_of_ble_eq_true rfl⟩ rfl rfl (Nat.le_of_ble_eq_true rfl) dX6_set_47 ?_
  refine zr_if_ne X 56 dX6_set_50 (by decide) (fun _ => ?_) (fun q => absurd q (nI_ne0 (by omega) (by omega)))
  refine zr_aloadn X 0 dX6_set_56 rfl ?_
  refine zr_get X (ci := 6) (q := 0) (zR _) (.ref (ad (1))) dX6_set_57 (by omega) rfl rfl inX6 (by decide) rfl (zvR rfl) rfl k_539 ?_
  refine zr_iconst X (nI (2)) dX6_set_60 (by decide +kernel) ?_
  refine zr_iloadn X 1 dX6_set_61 rfl ?_
  refine zr_iadd X (nI (5)) dX6_set_62 ((nI_add _ _).trans (congrArg nI (by omega))) ?_
  refine zr_iald X (j := 5) 0 (μ (5)) dX6_set_63 (by omega) rfl rfl rfl (by omega) (by omega) (zcg (b := 5) (by omega) (rfl)) ?_
  refine zr_istore X [1, 2, 3, 4, 5, 0] [(0, .ref (ad (0))), (1, .int (nI (3))), (2, .int (nI (v))), (3, .int (nI (1))), (4, .int (nI (5))), (5, .int (μ (5)))] dX6_set_64 (by decide) rfl ?_
  refine zr_iload X 5 dX6_set_66 rfl ?_
  refine zr_iloadn X 2 dX6_set_68 rfl ?_
  refine zr_icmp_ne X 75 dX6_set_69 (by decide) (fun q => absurd (h) q) (fun _ => ?_)
  refine zr_bipush X (-5) dX6_set_72 (by decide +kernel) ?_
  exact zr_iret X dX6_set_74 ⟨rfl, rfl⟩

set_option maxHeartbeats 4000000 in
set_option maxRecDepth 100000 in
theorem c_set_ok3 {l : Launch} {D : va_G} {tc : Nat → ClassId} {ad : Nat → Nat} {A : Nat → Prop} {tF tL tM : Nat} (E : zN 6 A ad) (μ : Nat → Int32) {m c k : Nat} (S : refS μ m c k) {v : Nat} (h1 : 1 ≤ v) (h2 : v ≤ 5) (h : ¬ μ (5) = nI v) : zMi l yX6_set cX6_set 6 (some .int) (zrm 5) (zK A D tc tF tL tM) A D vwCl tc ad 6 shR [.ref (ad (0)), .int (nI (3)), .int (nI (v))] μ (fun r u => r = μ (5) ∧ u = (upd (zrec μ (0) (k)) (5) (nI (v)))) := by
  refine zM_of RX6 [(0, .ref (ad (0))), (1, .int (nI (3))), (2, .int (nI (v)))] (zK_ok A D tc tF tL tM) E.1 E.2 owR_ok (by decide +kernel) rfl (Nat.le_of_ble_eq_true rfl) rfl ?_
  intro pP eE sS mM aS bL mT cO X
  obtain ⟨hm, hm2, hc, h8, hk, hk4⟩ := S
  refine zr_iloadn X 1 dX6_set_0 rfl ?_
  refine zr_iconst X (nI (3)) dX6_set_1 (by decide +kernel) ?_
  refine zr_icmp_ne X 9 dX6_set_2 (by decide) (fun q => absurd (zq_eq (by omega)) q) (fun _ => ?_)
  refine zr_iconst X (nI (1)) dX6_set_5 (by decide +kernel) ?_
  refine zr_goto X 10 dX6_set_6 (by decide) ?_
  refine zr_istoren X [1, 2, 3, 0] [(0, .ref (ad (0))), (1, .int (nI (3))), (2, .int (nI (v))), (3, .int (nI (1)))] dX6_set_10 (by decide) rfl ?_
  refine zr_iloadn X 1 dX6_set_11 rfl ?_
  refine zr_iconst X (nI (3)) dX6_set_12 (by decide +kernel) ?_
  refine zr_icmp_ne X 20 dX6_set_13 (by decide) (fun q => absurd (zq_eq (by omega)) q) (fun _ => ?_)
  refine zr_iconst X (nI (5)) dX6_set_16 (by decide +kernel) ?_
  refine zr_goto X 32 dX6_set_17 (by decide) ?_
  refine zr_istore X [1, 2, 3, 4, 0] [(0, .ref (ad (0))), (1, .int (nI (3))), (2, .int (nI (v))), (3, .int (nI (1))), (4, .int (nI (5)))] dX6_set_32 (by decide) rfl ?_
  refine zr_iloadn X 1 dX6_set_34 rfl ?_
  refine zr_iconst X (nI (0)) dX6_set_35 (by decide +kernel) ?_
  refine zr_iconst X (nI (4)) dX6_set_36 (by decide +kernel) ?_
  refine zr_dSi [.int (nI (3)), .int (nI (0)), .int (nI (4))] [] X (zK_ok A D tc tF tL tM) (c_in_t E μ (zq_le (by omega) (by omega)) (zq_le (by omega) (by omega))) k_604 k_605 k_7 k_606 hdX6_in ⟨rfl, rfl⟩ ⟨Nat.le_of_ble_eq_true rfl, Nat.le_of_ble_eq_true rfl⟩ rfl rfl (Nat.le_of_ble_eq_true rfl) dX6_set_37 ?_
  refine zr_if_eq X 53 dX6_set_40 (by decide) (fun q => absurd q (nI_ne0 (by omega) (by omega))) (fun _ => ?_)
  refine zr_iloadn X 2 dX6_set_43 rfl ?_
  refine zr_iloadn X 3 dX6_set_44 rfl ?_
  refine zr_iload X 4 dX6_set_45 rfl ?_
  refine zr_dSi [.int (nI (v)), .int (nI (1)), .int (nI (5))] [] X (zK_ok A D tc tF tL tM) (c_in_t E μ (zq_le (by omega) (by omega)) (zq_le (by omega) (by omega))) k_604 k_605 k_7 k_606 hdX6_in ⟨rfl, rfl⟩ ⟨Nat.le_of_ble_eq_true rfl, Nat.le_of_ble_eq_true rfl⟩ rfl rfl (Nat.le_of_ble_eq_true rfl) dX6_set_47 ?_
  refine zr_if_ne X 56 dX6_set_50 (by decide) (fun _ => ?_) (fun q => absurd q (nI_ne0 (by omega) (by omega)))
  refine zr_aloadn X 0 dX6_set_56 rfl ?_
  refine zr_get X (ci := 6) (q := 0) (zR _) (.ref (ad (1))) dX6_set_57 (by omega) rfl rfl inX6 (by decide) rfl (zvR rfl) rfl k_539 ?_
  refine zr_iconst X (nI (2)) dX6_set_60 (by decide +kernel) ?_
  refine zr_iloadn X 1 dX6_set_61 rfl ?_
  refine zr_iadd X (nI (5)) dX6_set_62 ((nI_add _ _).trans (congrArg nI (by omega))) ?_
  refine zr_iald X (j := 5) 0 (μ (5)) dX6_set_63 (by omega) rfl rfl rfl (by omega) (by omega) (zcg (b := 5) (by omega) (rfl)) ?_
  refine zr_istore X [1, 2, 3, 4, 5, 0] [(0, .ref (ad (0))), (1, .int (nI (3))), (2, .int (nI (v))), (3, .int (nI (1))), (4, .int (nI (5))), (5, .int (μ (5)))] dX6_set_64 (by decide) rfl ?_
  refine zr_iload X 5 dX6_set_66 rfl ?_
  refine zr_iloadn X 2 dX6_set_68 rfl ?_
  refine zr_icmp_ne X 75 dX6_set_69 (by decide) (fun _ => ?_) (fun q => absurd q (h))
  refine zr_aloadn X 0 dX6_set_75 rfl ?_
  refine zr_iconst X (nI (0)) dX6_set_76 (by decide +kernel) ?_
  refine zr_dVv (C := RX6) (ci := 6) [.int (nI (0))] [] X (zK_ok A D tc tF tL tM) (c_record E μ (hk) hk4 (by omega)) k_589 k_591 kp_1 k_7 k_592 hdX6_record ⟨rfl, rfl⟩ ⟨Nat.le_of_ble_eq_true rfl, Nat.le_of_ble_eq_true rfl⟩ (by omega) rfl rfl rfl rfl (Nat.le_of_ble_eq_true rfl) dX6_set_77 ?_
  refine zr_aloadn X 0 dX6_set_80 rfl ?_
  refine zr_get X (ci := 6) (q := 0) (zR _) (.ref (ad (1))) dX6_set_81 (by omega) rfl rfl inX6 (by decide) rfl (zvR rfl) rfl k_539 ?_
  refine zr_iconst X (nI (2)) dX6_set_84 (by decide +kernel) ?_
  refine zr_iloadn X 1 dX6_set_85 rfl ?_
  refine zr_iadd X (nI (5)) dX6_set_86 ((nI_add _ _).trans (congrArg nI (by omega))) ?_
  refine zr_iloadn X 2 dX6_set_87 rfl ?_
  refine zr_iast X (j := 5) 0 (5) dX6_set_88 (by omega) rfl rfl rfl (by omega) (by omega) (by omega) ?_
  refine zr_iload X 5 dX6_set_89 rfl ?_
  exact zr_iret X dX6_set_91 ⟨rfl, rfl⟩

set_option maxHeartbeats 4000000 in
set_option maxRecDepth 100000 in
theorem c_set_bad4 {l : Launch} {D : va_G} {tc : Nat → ClassId} {ad : Nat → Nat} {A : Nat → Prop} {tF tL tM : Nat} (E : zN 6 A ad) (μ : Nat → Int32) {m c k : Nat} (S : refS μ m c k) {x : Int32} (hx : ¬ zin x 0 99)  : zMi l yX6_set cX6_set 6 (some .int) (zrm 5) (zK A D tc tF tL tM) A D vwCl tc ad 6 shR [.ref (ad (0)), .int (nI (4)), .int (x)] μ (fun r u => r = -2 ∧ u = μ) := by
  refine zM_of RX6 [(0, .ref (ad (0))), (1, .int (nI (4))), (2, .int (x))] (zK_ok A D tc tF tL tM) E.1 E.2 owR_ok (by decide +kernel) rfl (Nat.le_of_ble_eq_true rfl) rfl ?_
  intro pP eE sS mM aS bL mT cO X
  obtain ⟨hm, hm2, hc, h8, hk, hk4⟩ := S
  refine zr_iloadn X 1 dX6_set_0 rfl ?_
  refine zr_iconst X (nI (3)) dX6_set_1 (by decide +kernel) ?_
  refine zr_icmp_ne X 9 dX6_set_2 (by decide) (fun _ => ?_) (fun q => absurd q (zq_ne (by omega) (by omega) (by omega)))
  refine zr_iconst X (nI (0)) dX6_set_9 (by decide +kernel) ?_
  refine zr_istoren X [1, 2, 3, 0] [(0, .ref (ad (0))), (1, .int (nI (4))), (2, .int (x)), (3, .int (nI (0)))] dX6_set_10 (by decide) rfl ?_
  refine zr_iloadn X 1 dX6_set_11 rfl ?_
  refine zr_iconst X (nI (3)) dX6_set_12 (by decide +kernel) ?_
  refine zr_icmp_ne X 20 dX6_set_13 (by decide) (fun _ => ?_) (fun q => absurd q (zq_ne (by omega) (by omega) (by omega)))
  refine zr_iloadn X 1 dX6_set_20 rfl ?_
  refine zr_iconst X (nI (4)) dX6_set_21 (by decide +kernel) ?_
  refine zr_icmp_ne X 30 dX6_set_22 (by decide) (fun q => absurd (zq_eq (by omega)) q) (fun _ => ?_)
  refine zr_bipush X (nI (99)) dX6_set_25 (by decide +kernel) ?_
  refine zr_goto X 32 dX6_set_27 (by decide) ?_
  refine zr_istore X [1, 2, 3, 4, 0] [(0, .ref (ad (0))), (1, .int (nI (4))), (2, .int (x)), (3, .int (nI (0))), (4, .int (nI (99)))] dX6_set_32 (by decide) rfl ?_
  refine zr_iloadn X 1 dX6_set_34 rfl ?_
  refine zr_iconst X (nI (0)) dX6_set_35 (by decide +kernel) ?_
  refine zr_iconst X (nI (4)) dX6_set_36 (by decide +kernel) ?_
  refine zr_dSi [.int (nI (4)), .int (nI (0)), .int (nI (4))] [] X (zK_ok A D tc tF tL tM) (c_in_t E μ (zq_le (by omega) (by omega)) (zq_le (by omega) (by omega))) k_604 k_605 k_7 k_606 hdX6_in ⟨rfl, rfl⟩ ⟨Nat.le_of_ble_eq_true rfl, Nat.le_of_ble_eq_true rfl⟩ rfl rfl (Nat.le_of_ble_eq_true rfl) dX6_set_37 ?_
  refine zr_if_eq X 53 dX6_set_40 (by decide) (fun q => absurd q (nI_ne0 (by omega) (by omega))) (fun _ => ?_)
  refine zr_iloadn X 2 dX6_set_43 rfl ?_
  refine zr_iloadn X 3 dX6_set_44 rfl ?_
  refine zr_iload X 4 dX6_set_45 rfl ?_
  refine zr_dSi [.int (x), .int (nI (0)), .int (nI (99))] [] X (zK_ok A D tc tF tL tM) (c_in_f E μ (fun q => hx (zin_of (by omega) q.1 q.2 (by omega)))) k_604 k_605 k_7 k_606 hdX6_in ⟨rfl, rfl⟩ ⟨Nat.le_of_ble_eq_true rfl, Nat.le_of_ble_eq_true rfl⟩ rfl rfl (Nat.le_of_ble_eq_true rfl) dX6_set_47 ?_
  refine zr_if_ne X 56 dX6_set_50 (by decide) (fun q => absurd (zq_eq0 (by omega)) q) (fun _ => ?_)
  refine zr_bipush X (-2) dX6_set_53 (by decide +kernel) ?_
  exact zr_iret X dX6_set_55 ⟨rfl, rfl⟩

set_option maxHeartbeats 4000000 in
set_option maxRecDepth 100000 in
theorem c_set_none4 {l : Launch} {D : va_G} {tc : Nat → ClassId} {ad : Nat → Nat} {A : Nat → Prop} {tF tL tM : Nat} (E : zN 6 A ad) (μ : Nat → Int32) {m c k : Nat} (S : refS μ m c k) {v : Nat} (h1 : 0 ≤ v) (h2 : v ≤ 99) (h : μ (6) = nI v) : zMi l yX6_set cX6_set 6 (some .int) (zrm 5) (zK A D tc tF tL tM) A D vwCl tc ad 6 shR [.ref (ad (0)), .int (nI (4)), .int (nI (v))] μ (fun r u => r = -5 ∧ u = μ) := by
  refine zM_of RX6 [(0, .ref (ad (0))), (1, .int (nI (4))), (2, .int (nI (v)))] (zK_ok A D tc tF tL tM) E.1 E.2 owR_ok (by decide +kernel) rfl (Nat.le_of_ble_eq_true rfl) rfl ?_
  intro pP eE sS mM aS bL mT cO X
  obtain ⟨hm, hm2, hc, h8, hk, hk4⟩ := S
  refine zr_iloadn X 1 dX6_set_0 rfl ?_
  refine zr_iconst X (nI (3)) dX6_set_1 (by decide +kernel) ?_
  refine zr_icmp_ne X 9 dX6_set_2 (by decide) (fun _ => ?_) (fun q => absurd q (zq_ne (by omega) (by omega) (by omega)))
  refine zr_iconst X (nI (0)) dX6_set_9 (by decide +kernel) ?_
  refine zr_istoren X [1, 2, 3, 0] [(0, .ref (ad (0))), (1, .int (nI (4))), (2, .int (nI (v))), (3, .int (nI (0)))] dX6_set_10 (by decide) rfl ?_
  refine zr_iloadn X 1 dX6_set_11 rfl ?_
  refine zr_iconst X (nI (3)) dX6_set_12 (by decide +kernel) ?_
  refine zr_icmp_ne X 20 dX6_set_13 (by decide) (fun _ => ?_) (fun q => absurd q (zq_ne (by omega) (by omega) (by omega)))
  refine zr_iloadn X 1 dX6_set_20 rfl ?_
  refine zr_iconst X (nI (4)) dX6_set_21 (by decide +kernel) ?_
  refine zr_icmp_ne X 30 dX6_set_22 (by decide) (fun q => absurd (zq_eq (by omega)) q) (fun _ => ?_)
  refine zr_bipush X (nI (99)) dX6_set_25 (by decide +kernel) ?_
  refine zr_goto X 32 dX6_set_27 (by decide) ?_
  refine zr_istore X [1, 2, 3, 4, 0] [(0, .ref (ad (0))), (1, .int (nI (4))), (2, .int (nI (v))), (3, .int (nI (0))), (4, .int (nI (99)))] dX6_set_32 (by decide) rfl ?_
  refine zr_iloadn X 1 dX6_set_34 rfl ?_
  refine zr_iconst X (nI (0)) dX6_set_35 (by decide +kernel) ?_
  refine zr_iconst X (nI (4)) dX6_set_36 (by decide +kernel) ?_
  refine zr_dSi [.int (nI (4)), .int (nI (0)), .int (nI (4))] [] X (zK_ok A D tc tF tL tM) (c_in_t E μ (zq_le (by omega) (by omega)) (zq_le (by omega) (by omega))) k_604 k_605 k_7 k_606 hdX6_in ⟨rfl, rfl⟩ ⟨Nat.le_of_ble_eq_true rfl, Nat.le_of_ble_eq_true rfl⟩ rfl rfl (Nat.le_of_ble_eq_true rfl) dX6_set_37 ?_
  refine zr_if_eq X 53 dX6_set_40 (by decide) (fun q => absurd q (nI_ne0 (by omega) (by omega))) (fun _ => ?_)
  refine zr_iloadn X 2 dX6_set_43 rfl ?_
  refine zr_iloadn X 3 dX6_set_44 rfl ?_
  refine zr_iload X 4 dX6_set_45 rfl ?_
  refine zr_dSi [.int (nI (v)), .int (nI (0)), .int (nI (99))] [] X (zK_ok A D tc tF tL tM) (c_in_t E μ (zq_le (by omega) (by omega)) (zq_le (by omega) (by omega))) k_604 k_605 k_7 k_606 hdX6_in ⟨rfl, rfl⟩ ⟨Nat.le_of_ble_eq_true rfl, Nat.le_of_ble_eq_true rfl⟩ rfl rfl (Nat.le_of_ble_eq_true rfl) dX6_set_47 ?_
  refine zr_if_ne X 56 dX6_set_50 (by decide) (fun _ => ?_) (fun q => absurd q (nI_ne0 (by omega) (by omega)))
  refine zr_aloadn X 0 dX6_set_56 rfl ?_
  refine zr_get X (ci := 6) (q := 0) (zR _) (.ref (ad (1))) dX6_set_57 (by omega) rfl rfl inX6 (by decide) rfl (zvR rfl) rfl k_539 ?_
  refine zr_iconst X (nI (2)) dX6_set_60 (by decide +kernel) ?_
  refine zr_iloadn X 1 dX6_set_61 rfl ?_
  refine zr_iadd X (nI (6)) dX6_set_62 ((nI_add _ _).trans (congrArg nI (by omega))) ?_
  refine zr_iald X (j := 6) 0 (μ (6)) dX6_set_63 (by omega) rfl rfl rfl (by omega) (by omega) (zcg (b := 6) (by omega) (rfl)) ?_
  refine zr_istore X [1, 2, 3, 4, 5, 0] [(0, .ref (ad (0))), (1, .int (nI (4))), (2, .int (nI (v))), (3, .int (nI (0))), (4, .int (nI (99))), (5, .int (μ (6)))] dX6_set_64 (by decide) rfl ?_
  refine zr_iload X 5 dX6_set_66 rfl ?_
  refine zr_iloadn X 2 dX6_set_68 rfl ?_
  refine zr_icmp_ne X 75 dX6_set_69 (by decide) (fun q => absurd (h) q) (fun _ => ?_)
  refine zr_bipush X (-5) dX6_set_72 (by decide +kernel) ?_
  exact zr_iret X dX6_set_74 ⟨rfl, rfl⟩

set_option maxHeartbeats 4000000 in
set_option maxRecDepth 100000 in
theorem c_set_ok4 {l : Launch} {D : va_G} {tc : Nat → ClassId} {ad : Nat → Nat} {A : Nat → Prop} {tF tL tM : Nat} (E : zN 6 A ad) (μ : Nat → Int32) {m c k : Nat} (S : refS μ m c k) {v : Nat} (h1 : 0 ≤ v) (h2 : v ≤ 99) (h : ¬ μ (6) = nI v) : zMi l yX6_set cX6_set 6 (some .int) (zrm 5) (zK A D tc tF tL tM) A D vwCl tc ad 6 shR [.ref (ad (0)), .int (nI (4)), .int (nI (v))] μ (fun r u => r = μ (6) ∧ u = (upd (zrec μ (0) (k)) (6) (nI (v)))) := by
  refine zM_of RX6 [(0, .ref (ad (0))), (1, .int (nI (4))), (2, .int (nI (v)))] (zK_ok A D tc tF tL tM) E.1 E.2 owR_ok (by decide +kernel) rfl (Nat.le_of_ble_eq_true rfl) rfl ?_
  intro pP eE sS mM aS bL mT cO X
  obtain ⟨hm, hm2, hc, h8, hk, hk4⟩ := S
  refine zr_iloadn X 1 dX6_set_0 rfl ?_
  refine zr_iconst X (nI (3)) dX6_set_1 (by decide +kernel) ?_
  refine zr_icmp_ne X 9 dX6_set_2 (by decide) (fun _ => ?_) (fun q => absurd q (zq_ne (by omega) (by omega) (by omega)))
  refine zr_iconst X (nI (0)) dX6_set_9 (by decide +kernel) ?_
  refine zr_istoren X [1, 2, 3, 0] [(0, .ref (ad (0))), (1, .int (nI (4))), (2, .int (nI (v))), (3, .int (nI (0)))] dX6_set_10 (by decide) rfl ?_
  refine zr_iloadn X 1 dX6_set_11 rfl ?_
  refine zr_iconst X (nI (3)) dX6_set_12 (by decide +kernel) ?_
  refine zr_icmp_ne X 20 dX6_set_13 (by decide) (fun _ => ?_) (fun q => absurd q (zq_ne (by omega) (by omega) (by omega)))
  refine zr_iloadn X 1 dX6_set_20 rfl ?_
  refine zr_iconst X (nI (4)) dX6_set_21 (by decide +kernel) ?_
  refine zr_icmp_ne X 30 dX6_set_22 (by decide) (fun q => absurd (zq_eq (by omega)) q) (fun _ => ?_)
  refine zr_bipush X (nI (99)) dX6_set_25 (by decide +kernel) ?_
  refine zr_goto X 32 dX6_set_27 (by decide) ?_
  refine zr_istore X [1, 2, 3, 4, 0] [(0, .ref (ad (0))), (1, .int (nI (4))), (2, .int (nI (v))), (3, .int (nI (0))), (4, .int (nI (99)))] dX6_set_32 (by decide) rfl ?_
  refine zr_iloadn X 1 dX6_set_34 rfl ?_
  refine zr_iconst X (nI (0)) dX6_set_35 (by decide +kernel) ?_
  refine zr_iconst X (nI (4)) dX6_set_36 (by decide +kernel) ?_
  refine zr_dSi [.int (nI (4)), .int (nI (0)), .int (nI (4))] [] X (zK_ok A D tc tF tL tM) (c_in_t E μ (zq_le (by omega) (by omega)) (zq_le (by omega) (by omega))) k_604 k_605 k_7 k_606 hdX6_in ⟨rfl, rfl⟩ ⟨Nat.le_of_ble_eq_true rfl, Nat.le_of_ble_eq_true rfl⟩ rfl rfl (Nat.le_of_ble_eq_true rfl) dX6_set_37 ?_
  refine zr_if_eq X 53 dX6_set_40 (by decide) (fun q => absurd q (nI_ne0 (by omega) (by omega))) (fun _ => ?_)
  refine zr_iloadn X 2 dX6_set_43 rfl ?_
  refine zr_iloadn X 3 dX6_set_44 rfl ?_
  refine zr_iload X 4 dX6_set_45 rfl ?_
  refine zr_dSi [.int (nI (v)), .int (nI (0)), .int (nI (99))] [] X (zK_ok A D tc tF tL tM) (c_in_t E μ (zq_le (by omega) (by omega)) (zq_le (by omega) (by omega))) k_604 k_605 k_7 k_606 hdX6_in ⟨rfl, rfl⟩ ⟨Nat.le_of_ble_eq_true rfl, Nat.le_of_ble_eq_true rfl⟩ rfl rfl (Nat.le_of_ble_eq_true rfl) dX6_set_47 ?_
  refine zr_if_ne X 56 dX6_set_50 (by decide) (fun _ => ?_) (fun q => absurd q (nI_ne0 (by omega) (by omega)))
  refine zr_aloadn X 0 dX6_set_56 rfl ?_
  refine zr_get X (ci := 6) (q := 0) (zR _) (.ref (ad (1))) dX6_set_57 (by omega) rfl rfl inX6 (by decide) rfl (zvR rfl) rfl k_539 ?_
  refine zr_iconst X (nI (2)) dX6_set_60 (by decide +kernel) ?_
  refine zr_iloadn X 1 dX6_set_61 rfl ?_
  refine zr_iadd X (nI (6)) dX6_set_62 ((nI_add _ _).trans (congrArg nI (by omega))) ?_
  refine zr_iald X (j := 6) 0 (μ (6)) dX6_set_63 (by omega) rfl rfl rfl (by omega) (by omega) (zcg (b := 6) (by omega) (rfl)) ?_
  refine zr_istore X [1, 2, 3, 4, 5, 0] [(0, .ref (ad (0))), (1, .int (nI (4))), (2, .int (nI (v))), (3, .int (nI (0))), (4, .int (nI (99))), (5, .int (μ (6)))] dX6_set_64 (by decide) rfl ?_
  refine zr_iload X 5 dX6_set_66 rfl ?_
  refine zr_iloadn X 2 dX6_set_68 rfl ?_
  refine zr_icmp_ne X 75 dX6_set_69 (by decide) (fun _ => ?_) (fun q => absurd q (h))
  refine zr_aloadn X 0 dX6_set_75 rfl ?_
  refine zr_iconst X (nI (0)) dX6_set_76 (by decide +kernel) ?_
  refine zr_dVv (C := RX6) (ci := 6) [.int (nI (0))] [] X (zK_ok A D tc tF tL tM) (c_record E μ (hk) hk4 (by omega)) k_589 k_591 kp_1 k_7 k_592 hdX6_record ⟨rfl, rfl⟩ ⟨Nat.le_of_ble_eq_true rfl, Nat.le_of_ble_eq_true rfl⟩ (by omega) rfl rfl rfl rfl (Nat.le_of_ble_eq_true rfl) dX6_set_77 ?_
  refine zr_aloadn X 0 dX6_set_80 rfl ?_
  refine zr_get X (ci := 6) (q := 0) (zR _) (.ref (ad (1))) dX6_set_81 (by omega) rfl rfl inX6 (by decide) rfl (zvR rfl) rfl k_539 ?_
  refine zr_iconst X (nI (2)) dX6_set_84 (by decide +kernel) ?_
  refine zr_iloadn X 1 dX6_set_85 rfl ?_
  refine zr_iadd X (nI (6)) dX6_set_86 ((nI_add _ _).trans (congrArg nI (by omega))) ?_
  refine zr_iloadn X 2 dX6_set_87 rfl ?_
  refine zr_iast X (j := 6) 0 (6) dX6_set_88 (by omega) rfl rfl rfl (by omega) (by omega) (by omega) ?_
  refine zr_iload X 5 dX6_set_89 rfl ?_
  exact zr_iret X dX6_set_91 ⟨rfl, rfl⟩

set_option maxHeartbeats 4000000 in
set_option maxRecDepth 100000 in
theorem c_set_badw {l : Launch} {D : va_G} {tc : Nat → ClassId} {ad : Nat → Nat} {A : Nat → Prop} {tF tL tM : Nat} (E : zN 6 A ad) (μ : Nat → Int32) {m c k : Nat} (S : refS μ m c k) {x : Int32} (hx : ¬ zin x 0 4) (z : Int32)  : zMi l yX6_set cX6_set 6 (some .int) (zrm 5) (zK A D tc tF tL tM) A D vwCl tc ad 6 shR [.ref (ad (0)), .int (x), .int (z)] μ (fun r u => r = -2 ∧ u = μ) := by
  refine zM_of RX6 [(0, .ref (ad (0))), (1, .int (x)), (2, .int (z))] (zK_ok A D tc tF tL tM) E.1 E.2 owR_ok (by decide +kernel) rfl (Nat.le_of_ble_eq_true rfl) rfl ?_
  intro pP eE sS mM aS bL mT cO X
  obtain ⟨hm, hm2, hc, h8, hk, hk4⟩ := S
  refine zr_iloadn X 1 dX6_set_0 rfl ?_
  refine zr_iconst X (nI (3)) dX6_set_1 (by decide +kernel) ?_
  refine zr_icmp_ne X 9 dX6_set_2 (by decide) (fun _ => ?_) (fun q => absurd q (fun q => hx ⟨3, by omega, by omega, q⟩))
  refine zr_iconst X (nI (0)) dX6_set_9 (by decide +kernel) ?_
  refine zr_istoren X [1, 2, 3, 0] [(0, .ref (ad (0))), (1, .int (x)), (2, .int (z)), (3, .int (nI (0)))] dX6_set_10 (by decide) rfl ?_
  refine zr_iloadn X 1 dX6_set_11 rfl ?_
  refine zr_iconst X (nI (3)) dX6_set_12 (by decide +kernel) ?_
  refine zr_icmp_ne X 20 dX6_set_13 (by decide) (fun _ => ?_) (fun q => absurd q (fun q => hx ⟨3, by omega, by omega, q⟩))
  refine zr_iloadn X 1 dX6_set_20 rfl ?_
  refine zr_iconst X (nI (4)) dX6_set_21 (by decide +kernel) ?_
  refine zr_icmp_ne X 30 dX6_set_22 (by decide) (fun _ => ?_) (fun q => absurd q (fun q => hx ⟨4, by omega, by omega, q⟩))
  refine zr_bipush X (nI (100)) dX6_set_30 (by decide +kernel) ?_
  refine zr_istore X [1, 2, 3, 4, 0] [(0, .ref (ad (0))), (1, .int (x)), (2, .int (z)), (3, .int (nI (0))), (4, .int (nI (100)))] dX6_set_32 (by decide) rfl ?_
  refine zr_iloadn X 1 dX6_set_34 rfl ?_
  refine zr_iconst X (nI (0)) dX6_set_35 (by decide +kernel) ?_
  refine zr_iconst X (nI (4)) dX6_set_36 (by decide +kernel) ?_
  refine zr_dSi [.int (x), .int (nI (0)), .int (nI (4))] [] X (zK_ok A D tc tF tL tM) (c_in_f E μ (fun q => hx (zin_of (by omega) q.1 q.2 (by omega)))) k_604 k_605 k_7 k_606 hdX6_in ⟨rfl, rfl⟩ ⟨Nat.le_of_ble_eq_true rfl, Nat.le_of_ble_eq_true rfl⟩ rfl rfl (Nat.le_of_ble_eq_true rfl) dX6_set_37 ?_
  refine zr_if_eq X 53 dX6_set_40 (by decide) (fun _ => ?_) (fun q => absurd (zq_eq0 (by omega)) q)
  refine zr_bipush X (-2) dX6_set_53 (by decide +kernel) ?_
  exact zr_iret X dX6_set_55 ⟨rfl, rfl⟩

set_option maxHeartbeats 4000000 in
set_option maxRecDepth 100000 in
theorem c_issue_u {l : Launch} {D : va_G} {tc : Nat → ClassId} {ad : Nat → Nat} {A : Nat → Prop} {tF tL tM : Nat} (E : zN 6 A ad) (μ : Nat → Int32) {m c k : Nat} (S : refS μ m c k) {x : Int32} (hx : ¬ zfm x c) (z : Int32)  : zMi l yX6_issue cX6_issue 3 (some .int) (zrm 5) (zK A D tc tF tL tM) A D vwCl tc ad 6 shR [.ref (ad (0)), .int (x), .int (z)] μ (fun r u => r = -1 ∧ u = μ) := by
  refine zM_of RX6 [(0, .ref (ad (0))), (1, .int (x)), (2, .int (z))] (zK_ok A D tc tF tL tM) E.1 E.2 owR_ok (by decide +kernel) rfl (Nat.le_of_ble_eq_true rfl) rfl ?_
  intro pP eE sS mM aS bL mT cO X
  obtain ⟨hm, hm2, hc, h8, hk, hk4⟩ := S
  refine zr_aloadn X 0 dX6_issue_0 rfl ?_
  refine zr_iloadn X 1 dX6_issue_1 rfl ?_
  refine zr_dVi (C := RX6) (ci := 6) [.int (x)] [] X (zK_ok A D tc tF tL tM) (c_isFirm_f E μ (hc) h8 hx) k_611 k_613 kp_2 k_7 k_614 hdX6_isFirm ⟨rfl, rfl⟩ ⟨Nat.le_of_ble_eq_true rfl, Nat.le_of_ble_eq_true rfl⟩ (by omega) rfl rfl rfl rfl (Nat.le_of_ble_eq_true rfl) dX6_issue_2 ?_
  refine zr_if_ne X 10 dX6_issue_5 (by decide) (fun q => absurd (zq_eq0 (by omega)) q) (fun _ => ?_)
  refine zr_iconst X (-1) dX6_issue_8 (by decide +kernel) ?_
  exact zr_iret X dX6_issue_9 ⟨rfl, rfl⟩

set_option maxHeartbeats 4000000 in
set_option maxRecDepth 100000 in
theorem c_issue_b {l : Launch} {D : va_G} {tc : Nat → ClassId} {ad : Nat → Nat} {A : Nat → Prop} {tF tL tM : Nat} (E : zN 6 A ad) (μ : Nat → Int32) {m c k : Nat} (S : refS μ m c k) {f : Nat} (hf : f < c) {z : Int32} (hx : ¬ zin z 1 9999)  : zMi l yX6_issue cX6_issue 3 (some .int) (zrm 5) (zK A D tc tF tL tM) A D vwCl tc ad 6 shR [.ref (ad (0)), .int (nI (f)), .int (z)] μ (fun r u => r = -2 ∧ u = μ) := by
  refine zM_of RX6 [(0, .ref (ad (0))), (1, .int (nI (f))), (2, .int (z))] (zK_ok A D tc tF tL tM) E.1 E.2 owR_ok (by decide +kernel) rfl (Nat.le_of_ble_eq_true rfl) rfl ?_
  intro pP eE sS mM aS bL mT cO X
  obtain ⟨hm, hm2, hc, h8, hk, hk4⟩ := S
  refine zr_aloadn X 0 dX6_issue_0 rfl ?_
  refine zr_iloadn X 1 dX6_issue_1 rfl ?_
  refine zr_dVi (C := RX6) (ci := 6) [.int (nI (f))] [] X (zK_ok A D tc tF tL tM) (c_isFirm_t E μ (hc) h8 (by omega)) k_611 k_613 kp_2 k_7 k_614 hdX6_isFirm ⟨rfl, rfl⟩ ⟨Nat.le_of_ble_eq_true rfl, Nat.le_of_ble_eq_true rfl⟩ (by omega) rfl rfl rfl rfl (Nat.le_of_ble_eq_true rfl) dX6_issue_2 ?_
  refine zr_if_ne X 10 dX6_issue_5 (by decide) (fun _ => ?_) (fun q => absurd q (nI_ne0 (by omega) (by omega)))
  refine zr_iloadn X 2 dX6_issue_10 rfl ?_
  refine zr_dSi [.int (z)] [] X (zK_ok A D tc tF tL tM) (c_isTonnes_f E μ hx) k_615 k_616 k_7 k_617 hdX6_isTonnes ⟨rfl, rfl⟩ ⟨Nat.le_of_ble_eq_true rfl, Nat.le_of_ble_eq_true rfl⟩ rfl rfl (Nat.le_of_ble_eq_true rfl) dX6_issue_11 ?_
  refine zr_if_ne X 20 dX6_issue_14 (by decide) (fun q => absurd (zq_eq0 (by omega)) q) (fun _ => ?_)
  refine zr_bipush X (-2) dX6_issue_17 (by decide +kernel) ?_
  exact zr_iret X dX6_issue_19 ⟨rfl, rfl⟩

set_option maxHeartbeats 4000000 in
set_option maxRecDepth 100000 in
theorem c_issue_ok {l : Launch} {D : va_G} {tc : Nat → ClassId} {ad : Nat → Nat} {A : Nat → Prop} {tF tL tM : Nat} (E : zN 6 A ad) (μ : Nat → Int32) {m c k : Nat} (S : refS μ m c k) {f : Nat} (hf : f < c) {t : Nat} (ht1 : 1 ≤ t) (ht9 : t ≤ 9999) {y : Nat} (hy : m / 12 = y)  : zMi l yX6_issue cX6_issue 3 (some .int) (zrm 5) (zK A D tc tF tL tM) A D vwCl tc ad 6 shR [.ref (ad (0)), .int (nI (f)), .int (nI (t))] μ (fun r u => r = μ (32 * f + y + 7) + nI t ∧ u = (upd (upd (zrec μ (0) (k)) (32 * f + y + 7) (μ (32 * f + y + 7) + nI (t))) (y + 263) (μ (y + 263) + nI (t)))) := by
  refine zM_of RX6 [(0, .ref (ad (0))), (1, .int (nI (f))), (2, .int (nI (t)))] (zK_ok A D tc tF tL tM) E.1 E.2 owR_ok (by decide +kernel) rfl (Nat.le_of_ble_eq_true rfl) rfl ?_
  intro pP eE sS mM aS bL mT cO X
  obtain ⟨hm, hm2, hc, h8, hk, hk4⟩ := S
  refine zr_aloadn X 0 dX6_issue_0 rfl ?_
  refine zr_iloadn X 1 dX6_issue_1 rfl ?_
  refine zr_dVi (C := RX6) (ci := 6) [.int (nI (f))] [] X (zK_ok A D tc tF tL tM) (c_isFirm_t E μ (hc) h8 (by omega)) k_611 k_613 kp_2 k_7 k_614 hdX6_isFirm ⟨rfl, rfl⟩ ⟨Nat.le_of_ble_eq_true rfl, Nat.le_of_ble_eq_true rfl⟩ (by omega) rfl rfl rfl rfl (Nat.le_of_ble_eq_true rfl) dX6_issue_2 ?_
  refine zr_if_ne X 10 dX6_issue_5 (by decide) (fun _ => ?_) (fun q => absurd q (nI_ne0 (by omega) (by omega)))
  refine zr_iloadn X 2 dX6_issue_10 rfl ?_
  refine zr_dSi [.int (nI (t))] [] X (zK_ok A D tc tF tL tM) (c_isTonnes_t E μ (by omega) (by omega)) k_615 k_616 k_7 k_617 hdX6_isTonnes ⟨rfl, rfl⟩ ⟨Nat.le_of_ble_eq_true rfl, Nat.le_of_ble_eq_true rfl⟩ rfl rfl (Nat.le_of_ble_eq_true rfl) dX6_issue_11 ?_
  refine zr_if_ne X 20 dX6_issue_14 (by decide) (fun _ => ?_) (fun q => absurd q (nI_ne0 (by omega) (by omega)))
  refine zr_aloadn X 0 dX6_issue_20 rfl ?_
  refine zr_iconst X (nI (0)) dX6_issue_21 (by decide +kernel) ?_
  refine zr_dVv (C := RX6) (ci := 6) [.int (nI (0))] [] X (zK_ok A D tc tF tL tM) (c_record E μ (hk) hk4 (by omega)) k_589 k_591 kp_1 k_7 k_592 hdX6_record ⟨rfl, rfl⟩ ⟨Nat.le_of_ble_eq_true rfl, Nat.le_of_ble_eq_true rfl⟩ (by omega) rfl rfl rfl rfl (Nat.le_of_ble_eq_true rfl) dX6_issue_22 ?_
  refine zr_aloadn X 0 dX6_issue_25 rfl ?_
  refine zr_get X (ci := 6) (q := 0) (zR _) (.ref (ad (1))) dX6_issue_26 (by omega) rfl rfl inX6 (by decide) rfl (zvR rfl) rfl k_539 ?_
  refine zr_iloadn X 1 dX6_issue_29 rfl ?_
  refine zr_iconst X (nI (0)) dX6_issue_30 (by decide +kernel) ?_
  refine zr_aloadn X 0 dX6_issue_31 rfl ?_
  refine zr_dVi (C := RX6) (ci := 6) [] [.int (nI (0)), .int (nI (f)), .ref (ad (1))] X (zK_ok A D tc tF tL tM) (c_year E (zrec μ (0) (k)) ((zrec_out (by omega) (by omega) hk4).trans (hm)) hm2 hy) k_618 k_620 kp_3 k_7 k_621 hdX6_year ⟨rfl, rfl⟩ ⟨Nat.le_of_ble_eq_true rfl, Nat.le_of_ble_eq_true rfl⟩ (by omega) rfl rfl rfl rfl (Nat.le_of_ble_eq_true rfl) dX6_issue_32 ?_
  refine zr_iadd X (nI (y)) dX6_issue_35 ((nI_add _ _).trans (congrArg nI (by omega))) ?_
  refine zr_dSi [.int (nI (f)), .int (nI (y))] [.ref (ad (1))] X (zK_ok A D tc tF tL tM) (zM_i (z1 := nI (32 * f + y + 7)) (c_of E (zrec μ (0) (k)) (f) (y)) (congrArg nI (by omega))) k_597 k_598 k_7 k_599 hdX6_of ⟨rfl, rfl⟩ ⟨Nat.le_of_ble_eq_true rfl, Nat.le_of_ble_eq_true rfl⟩ rfl rfl (Nat.le_of_ble_eq_true rfl) dX6_issue_36 ?_
  refine zr_dup2 X dX6_issue_39 rfl rfl ?_
  refine zr_iald X (j := 32 * f + y + 7) 0 (μ (32 * f + y + 7)) dX6_issue_40 (by omega) rfl rfl rfl (by omega) (by omega) (zcg (b := 32 * f + y + 7) (by omega) (zrec_out (by omega) (by omega) hk4)) ?_
  refine zr_iloadn X 2 dX6_issue_41 rfl ?_
  refine zr_iadd X ((μ (32 * f + y + 7)) + (nI (t))) dX6_issue_42 rfl ?_
  refine zr_iast X (j := 32 * f + y + 7) 0 (32 * f + y + 7) dX6_issue_43 (by omega) rfl rfl rfl (by omega) (by omega) (by omega) ?_
  refine zr_aloadn X 0 dX6_issue_44 rfl ?_
  refine zr_get X (ci := 6) (q := 0) (zR _) (.ref (ad (1))) dX6_issue_45 (by omega) rfl rfl inX6 (by decide) rfl (zvR rfl) rfl k_539 ?_
  refine zr_sipush X (nI (263)) dX6_issue_48 (by decide +kernel) ?_
  refine zr_aloadn X 0 dX6_issue_51 rfl ?_
  refine zr_dVi (C := RX6) (ci := 6) [] [.int (nI (263)), .ref (ad (1))] X (zK_ok A D tc tF tL tM) (c_year E (upd (zrec μ (0) (k)) (32 * f + y + 7) ((μ (32 * f + y + 7)) + (nI (t)))) ((pk_un (by omega)).trans ((zrec_out (by omega) (by omega) hk4).trans (hm))) hm2 hy) k_618 k_620 kp_3 k_7 k_621 hdX6_year ⟨rfl, rfl⟩ ⟨Nat.le_of_ble_eq_true rfl, Nat.le_of_ble_eq_true rfl⟩ (by omega) rfl rfl rfl rfl (Nat.le_of_ble_eq_true rfl) dX6_issue_52 ?_
  refine zr_iadd X (nI (y + 263)) dX6_issue_55 ((nI_add _ _).trans (congrArg nI (by omega))) ?_
  refine zr_dup2 X dX6_issue_56 rfl rfl ?_
  refine zr_iald X (j := y + 263) 0 (μ (y + 263)) dX6_issue_57 (by omega) rfl rfl rfl (by omega) (by omega) (zcg (b := y + 263) (by omega) ((pk_un (by omega)).trans (zrec_out (by omega) (by omega) hk4))) ?_
  refine zr_iloadn X 2 dX6_issue_58 rfl ?_
  refine zr_iadd X ((μ (y + 263)) + (nI (t))) dX6_issue_59 rfl ?_
  refine zr_iast X (j := y + 263) 0 (y + 263) dX6_issue_60 (by omega) rfl rfl rfl (by omega) (by omega) (by omega) ?_
  refine zr_aloadn X 0 dX6_issue_61 rfl ?_
  refine zr_get X (ci := 6) (q := 0) (zR _) (.ref (ad (1))) dX6_issue_62 (by omega) rfl rfl inX6 (by decide) rfl (zvR rfl) rfl k_539 ?_
  refine zr_iloadn X 1 dX6_issue_65 rfl ?_
  refine zr_iconst X (nI (0)) dX6_issue_66 (by decide +kernel) ?_
  refine zr_aloadn X 0 dX6_issue_67 rfl ?_
  refine zr_dVi (C := RX6) (ci := 6) [] [.int (nI (0)), .int (nI (f)), .ref (ad (1))] X (zK_ok A D tc tF tL tM) (c_year E (upd (upd (zrec μ (0) (k)) (32 * f + y + 7) ((μ (32 * f + y + 7)) + (nI (t)))) (y + 263) ((μ (y + 263)) + (nI (t)))) ((pk_un (by omega)).trans ((pk_un (by omega)).trans ((zrec_out (by omega) (by omega) hk4).trans (hm)))) hm2 hy) k_618 k_620 kp_3 k_7 k_621 hdX6_year ⟨rfl, rfl⟩ ⟨Nat.le_of_ble_eq_true rfl, Nat.le_of_ble_eq_true rfl⟩ (by omega) rfl rfl rfl rfl (Nat.le_of_ble_eq_true rfl) dX6_issue_68 ?_
  refine zr_iadd X (nI (y)) dX6_issue_71 ((nI_add _ _).trans (congrArg nI (by omega))) ?_
  refine zr_dSi [.int (nI (f)), .int (nI (y))] [.ref (ad (1))] X (zK_ok A D tc tF tL tM) (zM_i (z1 := nI (32 * f + y + 7)) (c_of E (upd (upd (zrec μ (0) (k)) (32 * f + y + 7) ((μ (32 * f + y + 7)) + (nI (t)))) (y + 263) ((μ (y + 263)) + (nI (t)))) (f) (y)) (congrArg nI (by omega))) k_597 k_598 k_7 k_599 hdX6_of ⟨rfl, rfl⟩ ⟨Nat.le_of_ble_eq_true rfl, Nat.le_of_ble_eq_true rfl⟩ rfl rfl (Nat.le_of_ble_eq_true rfl) dX6_issue_72 ?_
  refine zr_iald X (j := 32 * f + y + 7) 0 ((μ (32 * f + y + 7)) + (nI (t))) dX6_issue_75 (by omega) rfl rfl rfl (by omega) (by omega) (zcg (b := 32 * f + y + 7) (by omega) ((pk_un (by omega)).trans (pk_us))) ?_
  exact zr_iret X dX6_issue_76 ⟨rfl, rfl⟩

set_option maxHeartbeats 4000000 in
set_option maxRecDepth 100000 in
theorem c_issueOffsets_u1 {l : Launch} {D : va_G} {tc : Nat → ClassId} {ad : Nat → Nat} {A : Nat → Prop} {tF tL tM : Nat} (E : zN 6 A ad) (μ : Nat → Int32) {m c k : Nat} (S : refS μ m c k) {x : Int32} (hx : ¬ zfm x c) (g z : Int32)  : zMi l yX6_issueOffsets cX6_issueOffsets 4 (some .int) (zrm 5) (zK A D tc tF tL tM) A D vwCl tc ad 6 shR [.ref (ad (0)), .int (x), .int (g), .int (z)] μ (fun r u => r = -1 ∧ u = μ) := by
  refine zM_of RX6 [(0, .ref (ad (0))), (1, .int (x)), (2, .int (g)), (3, .int (z))] (zK_ok A D tc tF tL tM) E.1 E.2 owR_ok (by decide +kernel) rfl (Nat.le_of_ble_eq_true rfl) rfl ?_
  intro pP eE sS mM aS bL mT cO X
  obtain ⟨hm, hm2, hc, h8, hk, hk4⟩ := S
  refine zr_aloadn X 0 dX6_issueOffsets_0 rfl ?_
  refine zr_iloadn X 1 dX6_issueOffsets_1 rfl ?_
  refine zr_dVi (C := RX6) (ci := 6) [.int (x)] [] X (zK_ok A D tc tF tL tM) (c_isFirm_f E μ (hc) h8 hx) k_611 k_613 kp_2 k_7 k_614 hdX6_isFirm ⟨rfl, rfl⟩ ⟨Nat.le_of_ble_eq_true rfl, Nat.le_of_ble_eq_true rfl⟩ (by omega) rfl rfl rfl rfl (Nat.le_of_ble_eq_true rfl) dX6_issueOffsets_2 ?_
  refine zr_if_eq X 15 dX6_issueOffsets_5 (by decide) (fun _ => ?_) (fun q => absurd (zq_eq0 (by omega)) q)
  refine zr_iconst X (-1) dX6_issueOffsets_15 (by decide +kernel) ?_
  exact zr_iret X dX6_issueOffsets_16 ⟨rfl, rfl⟩

set_option maxHeartbeats 4000000 in
set_option maxRecDepth 100000 in
theorem c_issueOffsets_u2 {l : Launch} {D : va_G} {tc : Nat → ClassId} {ad : Nat → Nat} {A : Nat → Prop} {tF tL tM : Nat} (E : zN 6 A ad) (μ : Nat → Int32) {m c k : Nat} (S : refS μ m c k) {f : Nat} (hf : f < c) {x : Int32} (hx : ¬ zin x 0 2) (z : Int32)  : zMi l yX6_issueOffsets cX6_issueOffsets 4 (some .int) (zrm 5) (zK A D tc tF tL tM) A D vwCl tc ad 6 shR [.ref (ad (0)), .int (nI (f)), .int (x), .int (z)] μ (fun r u => r = -1 ∧ u = μ) := by
  refine zM_of RX6 [(0, .ref (ad (0))), (1, .int (nI (f))), (2, .int (x)), (3, .int (z))] (zK_ok A D tc tF tL tM) E.1 E.2 owR_ok (by decide +kernel) rfl (Nat.le_of_ble_eq_true rfl) rfl ?_
  intro pP eE sS mM aS bL mT cO X
  obtain ⟨hm, hm2, hc, h8, hk, hk4⟩ := S
  refine zr_aloadn X 0 dX6_issueOffsets_0 rfl ?_
  refine zr_iloadn X 1 dX6_issueOffsets_1 rfl ?_
  refine zr_dVi (C := RX6) (ci := 6) [.int (nI (f))] [] X (zK_ok A D tc tF tL tM) (c_isFirm_t E μ (hc) h8 (by omega)) k_611 k_613 kp_2 k_7 k_614 hdX6_isFirm ⟨rfl, rfl⟩ ⟨Nat.le_of_ble_eq_true rfl, Nat.le_of_ble_eq_true rfl⟩ (by omega) rfl rfl rfl rfl (Nat.le_of_ble_eq_true rfl) dX6_issueOffsets_2 ?_
  refine zr_if_eq X 15 dX6_issueOffsets_5 (by decide) (fun q => absurd q (nI_ne0 (by omega) (by omega))) (fun _ => ?_)
  refine zr_iloadn X 2 dX6_issueOffsets_8 rfl ?_
  refine zr_dSi [.int (x)] [] X (zK_ok A D tc tF tL tM) (c_isGrade_f E μ hx) k_626 k_627 k_7 k_628 hdX6_isGrade ⟨rfl, rfl⟩ ⟨Nat.le_of_ble_eq_true rfl, Nat.le_of_ble_eq_true rfl⟩ rfl rfl (Nat.le_of_ble_eq_true rfl) dX6_issueOffsets_9 ?_
  refine zr_if_ne X 17 dX6_issueOffsets_12 (by decide) (fun q => absurd (zq_eq0 (by omega)) q) (fun _ => ?_)
  refine zr_iconst X (-1) dX6_issueOffsets_15 (by decide +kernel) ?_
  exact zr_iret X dX6_issueOffsets_16 ⟨rfl, rfl⟩

set_option maxHeartbeats 4000000 in
set_option maxRecDepth 100000 in
theorem c_issueOffsets_b {l : Launch} {D : va_G} {tc : Nat → ClassId} {ad : Nat → Nat} {A : Nat → Prop} {tF tL tM : Nat} (E : zN 6 A ad) (μ : Nat → Int32) {m c k : Nat} (S : refS μ m c k) {f : Nat} (hf : f < c) {g : Nat} (hg : g ≤ 2) {z : Int32} (hx : ¬ zin z 1 9999)  : zMi l yX6_issueOffsets cX6_issueOffsets 4 (some .int) (zrm 5) (zK A D tc tF tL tM) A D vwCl tc ad 6 shR [.ref (ad (0)), .int (nI (f)), .int (nI (g)), .int (z)] μ (fun r u => r = -2 ∧ u = μ) := by
  refine zM_of RX6 [(0, .ref (ad (0))), (1, .int (nI (f))), (2, .int (nI (g))), (3, .int (z))] (zK_ok A D tc tF tL tM) E.1 E.2 owR_ok (by decide +kernel) rfl (Nat.le_of_ble_eq_true rfl) rfl ?_
  intro pP eE sS mM aS bL mT cO X
  obtain ⟨hm, hm2, hc, h8, hk, hk4⟩ := S
  refine zr_aloadn X 0 dX6_issueOffsets_0 rfl ?_
  refine zr_iloadn X 1 dX6_issueOffsets_1 rfl ?_
  refine zr_dVi (C := RX6) (ci := 6) [.int (nI (f))] [] X (zK_ok A D tc tF tL tM) (c_isFirm_t E μ (hc) h8 (by omega)) k_611 k_613 kp_2 k_7 k_614 hdX6_isFirm ⟨rfl, rfl⟩ ⟨Nat.le_of_ble_eq_true rfl, Nat.le_of_ble_eq_true rfl⟩ (by omega) rfl rfl rfl rfl (Nat.le_of_ble_eq_true rfl) dX6_issueOffsets_2 ?_
  refine zr_if_eq X 15 dX6_issueOffsets_5 (by decide) (fun q => absurd q (nI_ne0 (by omega) (by omega))) (fun _ => ?_)
  refine zr_iloadn X 2 dX6_issueOffsets_8 rfl ?_
  refine zr_dSi [.int (nI (g))] [] X (zK_ok A D tc tF tL tM) (c_isGrade_t E μ (by omega) (by omega)) k_626 k_627 k_7 k_628 hdX6_isGrade ⟨rfl, rfl⟩ ⟨Nat.le_of_ble_eq_true rfl, Nat.le_of_ble_eq_true rfl⟩ rfl rfl (Nat.le_of_ble_eq_true rfl) dX6_issueOffsets_9 ?_
  refine zr_if_ne X 17 dX6_issueOffsets_12 (by decide) (fun _ => ?_) (fun q => absurd q (nI_ne0 (by omega) (by omega)))
  refine zr_iloadn X 3 dX6_issueOffsets_17 rfl ?_
  refine zr_dSi [.int (z)] [] X (zK_ok A D tc tF tL tM) (c_isTonnes_f E μ hx) k_615 k_616 k_7 k_617 hdX6_isTonnes ⟨rfl, rfl⟩ ⟨Nat.le_of_ble_eq_true rfl, Nat.le_of_ble_eq_true rfl⟩ rfl rfl (Nat.le_of_ble_eq_true rfl) dX6_issueOffsets_18 ?_
  refine zr_if_ne X 27 dX6_issueOffsets_21 (by decide) (fun q => absurd (zq_eq0 (by omega)) q) (fun _ => ?_)
  refine zr_bipush X (-2) dX6_issueOffsets_24 (by decide +kernel) ?_
  exact zr_iret X dX6_issueOffsets_26 ⟨rfl, rfl⟩

set_option maxHeartbeats 4000000 in
set_option maxRecDepth 100000 in
theorem c_issueOffsets_ok {l : Launch} {D : va_G} {tc : Nat → ClassId} {ad : Nat → Nat} {A : Nat → Prop} {tF tL tM : Nat} (E : zN 6 A ad) (μ : Nat → Int32) {m c k : Nat} (S : refS μ m c k) {f : Nat} (hf : f < c) {g : Nat} (hg : g ≤ 2) {t : Nat} (ht1 : 1 ≤ t) (ht9 : t ≤ 9999)  : zMi l yX6_issueOffsets cX6_issueOffsets 4 (some .int) (zrm 5) (zK A D tc tF tL tM) A D vwCl tc ad 6 shR [.ref (ad (0)), .int (nI (f)), .int (nI (g)), .int (nI (t))] μ (fun r u => r = μ (32 * f + g + 27) + nI t ∧ u = (upd (upd (zrec μ (0) (k)) (32 * f + g + 27) (μ (32 * f + g + 27) + nI (t))) (g + 343) (μ (g + 343) + nI (t)))) := by
  refine zM_of RX6 [(0, .ref (ad (0))), (1, .int (nI (f))), (2, .int (nI (g))), (3, .int (nI (t)))] (zK_ok A D tc tF tL tM) E.1 E.2 owR_ok (by decide +kernel) rfl (Nat.le_of_ble_eq_true rfl) rfl ?_
  intro pP eE sS mM aS bL mT cO X
  obtain ⟨hm, hm2, hc, h8, hk, hk4⟩ := S
  refine zr_aloadn X 0 dX6_issueOffsets_0 rfl ?_
  refine zr_iloadn X 1 dX6_issueOffsets_1 rfl ?_
  refine zr_dVi (C := RX6) (ci := 6) [.int (nI (f))] [] X (zK_ok A D tc tF tL tM) (c_isFirm_t E μ (hc) h8 (by omega)) k_611 k_613 kp_2 k_7 k_614 hdX6_isFirm ⟨rfl, rfl⟩ ⟨Nat.le_of_ble_eq_true rfl, Nat.le_of_ble_eq_true rfl⟩ (by omega) rfl rfl rfl rfl (Nat.le_of_ble_eq_true rfl) dX6_issueOffsets_2 ?_
  refine zr_if_eq X 15 dX6_issueOffsets_5 (by decide) (fun q => absurd q (nI_ne0 (by omega) (by omega))) (fun _ => ?_)
  refine zr_iloadn X 2 dX6_issueOffsets_8 rfl ?_
  refine zr_dSi [.int (nI (g))] [] X (zK_ok A D tc tF tL tM) (c_isGrade_t E μ (by omega) (by omega)) k_626 k_627 k_7 k_628 hdX6_isGrade ⟨rfl, rfl⟩ ⟨Nat.le_of_ble_eq_true rfl, Nat.le_of_ble_eq_true rfl⟩ rfl rfl (Nat.le_of_ble_eq_true rfl) dX6_issueOffsets_9 ?_
  refine zr_if_ne X 17 dX6_issueOffsets_12 (by decide) (fun _ => ?_) (fun q => absurd q (nI_ne0 (by omega) (by omega)))
  refine zr_iloadn X 3 dX6_issueOffsets_17 rfl ?_
  refine zr_dSi [.int (nI (t))] [] X (zK_ok A D tc tF tL tM) (c_isTonnes_t E μ (by omega) (by omega)) k_615 k_616 k_7 k_617 hdX6_isTonnes ⟨rfl, rfl⟩ ⟨Nat.le_of_ble_eq_true rfl, Nat.le_of_ble_eq_true rfl⟩ rfl rfl (Nat.le_of_ble_eq_true rfl) dX6_issueOffsets_18 ?_
  refine zr_if_ne X 27 dX6_issueOffsets_21 (by decide) (fun _ => ?_) (fun q => absurd q (nI_ne0 (by omega) (by omega)))
  refine zr_aloadn X 0 dX6_issueOffsets_27 rfl ?_
  refine zr_iconst X (nI (0)) dX6_issueOffsets_28 (by decide +kernel) ?_
  refine zr_dVv (C := RX6) (ci := 6) [.int (nI (0))] [] X (zK_ok A D tc tF tL tM) (c_record E μ (hk) hk4 (by omega)) k_589 k_591 kp_1 k_7 k_592 hdX6_record ⟨rfl, rfl⟩ ⟨Nat.le_of_ble_eq_true rfl, Nat.le_of_ble_eq_true rfl⟩ (by omega) rfl rfl rfl rfl (Nat.le_of_ble_eq_true rfl) dX6_issueOffsets_29 ?_
  refine zr_aloadn X 0 dX6_issueOffsets_32 rfl ?_
  refine zr_get X (ci := 6) (q := 0) (zR _) (.ref (ad (1))) dX6_issueOffsets_33 (by omega) rfl rfl inX6 (by decide) rfl (zvR rfl) rfl k_539 ?_
  refine zr_iloadn X 1 dX6_issueOffsets_36 rfl ?_
  refine zr_bipush X (nI (20)) dX6_issueOffsets_37 (by decide +kernel) ?_
  refine zr_iloadn X 2 dX6_issueOffsets_39 rfl ?_
  refine zr_iadd X (nI (g + 20)) dX6_issueOffsets_40 ((nI_add _ _).trans (congrArg nI (by omega))) ?_
  refine zr_dSi [.int (nI (f)), .int (nI (g + 20))] [.ref (ad (1))] X (zK_ok A D tc tF tL tM) (zM_i (z1 := nI (32 * f + g + 27)) (c_of E (zrec μ (0) (k)) (f) (g + 20)) (congrArg nI (by omega))) k_597 k_598 k_7 k_599 hdX6_of ⟨rfl, rfl⟩ ⟨Nat.le_of_ble_eq_true rfl, Nat.le_of_ble_eq_true rfl⟩ rfl rfl (Nat.le_of_ble_eq_true rfl) dX6_issueOffsets_41 ?_
  refine zr_dup2 X dX6_issueOffsets_44 rfl rfl ?_
  refine zr_iald X (j := 32 * f + g + 27) 0 (μ (32 * f + g + 27)) dX6_issueOffsets_45 (by omega) rfl rfl rfl (by omega) (by omega) (zcg (b := 32 * f + g + 27) (by omega) (zrec_out (by omega) (by omega) hk4)) ?_
  refine zr_iloadn X 3 dX6_issueOffsets_46 rfl ?_
  refine zr_iadd X ((μ (32 * f + g + 27)) + (nI (t))) dX6_issueOffsets_47 rfl ?_
  refine zr_iast X (j := 32 * f + g + 27) 0 (32 * f + g + 27) dX6_issueOffsets_48 (by omega) rfl rfl rfl (by omega) (by omega) (by omega) ?_
  refine zr_aloadn X 0 dX6_issueOffsets_49 rfl ?_
  refine zr_get X (ci := 6) (q := 0) (zR _) (.ref (ad (1))) dX6_issueOffsets_50 (by omega) rfl rfl inX6 (by decide) rfl (zvR rfl) rfl k_539 ?_
  refine zr_sipush X (nI (343)) dX6_issueOffsets_53 (by decide +kernel) ?_
  refine zr_iloadn X 2 dX6_issueOffsets_56 rfl ?_
  refine zr_iadd X (nI (g + 343)) dX6_issueOffsets_57 ((nI_add _ _).trans (congrArg nI (by omega))) ?_
  refine zr_dup2 X dX6_issueOffsets_58 rfl rfl ?_
  refine zr_iald X (j := g + 343) 0 (μ (g + 343)) dX6_issueOffsets_59 (by omega) rfl rfl rfl (by omega) (by omega) (zcg (b := g + 343) (by omega) ((pk_un (by omega)).trans (zrec_out (by omega) (by omega) hk4))) ?_
  refine zr_iloadn X 3 dX6_issueOffsets_60 rfl ?_
  refine zr_iadd X ((μ (g + 343)) + (nI (t))) dX6_issueOffsets_61 rfl ?_
  refine zr_iast X (j := g + 343) 0 (g + 343) dX6_issueOffsets_62 (by omega) rfl rfl rfl (by omega) (by omega) (by omega) ?_
  refine zr_aloadn X 0 dX6_issueOffsets_63 rfl ?_
  refine zr_get X (ci := 6) (q := 0) (zR _) (.ref (ad (1))) dX6_issueOffsets_64 (by omega) rfl rfl inX6 (by decide) rfl (zvR rfl) rfl k_539 ?_
  refine zr_iloadn X 1 dX6_issueOffsets_67 rfl ?_
  refine zr_bipush X (nI (20)) dX6_issueOffsets_68 (by decide +kernel) ?_
  refine zr_iloadn X 2 dX6_issueOffsets_70 rfl ?_
  refine zr_iadd X (nI (g + 20)) dX6_issueOffsets_71 ((nI_add _ _).trans (congrArg nI (by omega))) ?_
  refine zr_dSi [.int (nI (f)), .int (nI (g + 20))] [.ref (ad (1))] X (zK_ok A D tc tF tL tM) (zM_i (z1 := nI (32 * f + g + 27)) (c_of E (upd (upd (zrec μ (0) (k)) (32 * f + g + 27) ((μ (32 * f + g + 27)) + (nI (t)))) (g + 343) ((μ (g + 343)) + (nI (t)))) (f) (g + 20)) (congrArg nI (by omega))) k_597 k_598 k_7 k_599 hdX6_of ⟨rfl, rfl⟩ ⟨Nat.le_of_ble_eq_true rfl, Nat.le_of_ble_eq_true rfl⟩ rfl rfl (Nat.le_of_ble_eq_true rfl) dX6_issueOffsets_72 ?_
  refine zr_iald X (j := 32 * f + g + 27) 0 ((μ (32 * f + g + 27)) + (nI (t))) dX6_issueOffsets_75 (by omega) rfl rfl rfl (by omega) (by omega) (zcg (b := 32 * f + g + 27) (by omega) ((pk_un (by omega)).trans (pk_us))) ?_
  exact zr_iret X dX6_issueOffsets_76 ⟨rfl, rfl⟩

set_option maxHeartbeats 4000000 in
set_option maxRecDepth 100000 in
theorem c_noTransfer_u1 {l : Launch} {D : va_G} {tc : Nat → ClassId} {ad : Nat → Nat} {A : Nat → Prop} {tF tL tM : Nat} (E : zN 6 A ad) (μ : Nat → Int32) {c : Nat} (hc : μ 1 = nI c) (h8 : c ≤ 8) {x : Int32} (hx : ¬ zfm x c) (to : Int32) (b : Int32) (w : Int32) (t : Int32)  : zMi l yX6_noTransfer cX6_noTransfer 6 (some .int) (zrm 3) (zK A D tc tF tL tM) A D vwCl tc ad 6 shR [.ref (ad (0)), .int (x), .int (to), .int (b), .int (w), .int (t)] μ (fun r u => r = -1 ∧ u = μ) := by
  refine zM_of RX6 [(0, .ref (ad (0))), (1, .int (x)), (2, .int (to)), (3, .int (b)), (4, .int (w)), (5, .int (t))] (zK_ok A D tc tF tL tM) E.1 E.2 owR_ok (by decide +kernel) rfl (Nat.le_of_ble_eq_true rfl) rfl ?_
  intro pP eE sS mM aS bL mT cO X
  refine zr_aloadn X 0 dX6_noTransfer_0 rfl ?_
  refine zr_iloadn X 1 dX6_noTransfer_1 rfl ?_
  refine zr_dVi (C := RX6) (ci := 6) [.int (x)] [] X (zK_ok A D tc tF tL tM) (c_isFirm_f E μ (hc) h8 hx) k_611 k_613 kp_2 k_7 k_614 hdX6_isFirm ⟨rfl, rfl⟩ ⟨Nat.le_of_ble_eq_true rfl, Nat.le_of_ble_eq_true rfl⟩ (by omega) rfl rfl rfl rfl (Nat.le_of_ble_eq_true rfl) dX6_noTransfer_2 ?_
  refine zr_if_eq X 20 dX6_noTransfer_5 (by decide) (fun _ => ?_) (fun q => absurd (zq_eq0 (by omega)) q)
  refine zr_iconst X (-1) dX6_noTransfer_20 (by decide +kernel) ?_
  exact zr_iret X dX6_noTransfer_21 ⟨rfl, rfl⟩

set_option maxHeartbeats 4000000 in
set_option maxRecDepth 100000 in
theorem c_noTransfer_u2 {l : Launch} {D : va_G} {tc : Nat → ClassId} {ad : Nat → Nat} {A : Nat → Prop} {tF tL tM : Nat} (E : zN 6 A ad) (μ : Nat → Int32) {c : Nat} (hc : μ 1 = nI c) (h8 : c ≤ 8) {f : Nat} (hf : f < c) {x : Int32} (hx : ¬ zfm x c) (b : Int32) (w : Int32) (t : Int32)  : zMi l yX6_noTransfer cX6_noTransfer 6 (some .int) (zrm 3) (zK A D tc tF tL tM) A D vwCl tc ad 6 shR [.ref (ad (0)), .int (nI (f)), .int (x), .int (b), .int (w), .int (t)] μ (fun r u => r = -1 ∧ u = μ) := by
  refine zM_of RX6 [(0, .ref (ad (0))), (1, .int (nI (f))), (2, .int (x)), (3, .int (b)), (4, .int (w)), (5, .int (t))] (zK_ok A D tc tF tL tM) E.1 E.2 owR_ok (by decide +kernel) rfl (Nat.le_of_ble_eq_true rfl) rfl ?_
  intro pP eE sS mM aS bL mT cO X
  refine zr_aloadn X 0 dX6_noTransfer_0 rfl ?_
  refine zr_iloadn X 1 dX6_noTransfer_1 rfl ?_
  refine zr_dVi (C := RX6) (ci := 6) [.int (nI (f))] [] X (zK_ok A D tc tF tL tM) (c_isFirm_t E μ (hc) h8 (by omega)) k_611 k_613 kp_2 k_7 k_614 hdX6_isFirm ⟨rfl, rfl⟩ ⟨Nat.le_of_ble_eq_true rfl, Nat.le_of_ble_eq_true rfl⟩ (by omega) rfl rfl rfl rfl (Nat.le_of_ble_eq_true rfl) dX6_noTransfer_2 ?_
  refine zr_if_eq X 20 dX6_noTransfer_5 (by decide) (fun q => absurd q (nI_ne0 (by omega) (by omega))) (fun _ => ?_)
  refine zr_aloadn X 0 dX6_noTransfer_8 rfl ?_
  refine zr_iloadn X 2 dX6_noTransfer_9 rfl ?_
  refine zr_dVi (C := RX6) (ci := 6) [.int (x)] [] X (zK_ok A D tc tF tL tM) (c_isFirm_f E μ (hc) h8 hx) k_611 k_613 kp_2 k_7 k_614 hdX6_isFirm ⟨rfl, rfl⟩ ⟨Nat.le_of_ble_eq_true rfl, Nat.le_of_ble_eq_true rfl⟩ (by omega) rfl rfl rfl rfl (Nat.le_of_ble_eq_true rfl) dX6_noTransfer_10 ?_
  refine zr_if_eq X 20 dX6_noTransfer_13 (by decide) (fun _ => ?_) (fun q => absurd (zq_eq0 (by omega)) q)
  refine zr_iconst X (-1) dX6_noTransfer_20 (by decide +kernel) ?_
  exact zr_iret X dX6_noTransfer_21 ⟨rfl, rfl⟩

set_option maxHeartbeats 4000000 in
set_option maxRecDepth 100000 in
theorem c_noTransfer_u3 {l : Launch} {D : va_G} {tc : Nat → ClassId} {ad : Nat → Nat} {A : Nat → Prop} {tF tL tM : Nat} (E : zN 6 A ad) (μ : Nat → Int32) {c : Nat} (hc : μ 1 = nI c) (h8 : c ≤ 8) {f f2 : Nat} (hf : f < c) (hf2 : f2 < c) (w : Int32) (t : Int32)  : zMi l yX6_noTransfer cX6_noTransfer 6 (some .int) (zrm 3) (zK A D tc tF tL tM) A D vwCl tc ad 6 shR [.ref (ad (0)), .int (nI (f)), .int (nI (f2)), .int (nI (0)), .int (w), .int (t)] μ (fun r u => r = -1 ∧ u = μ) := by
  refine zM_of RX6 [(0, .ref (ad (0))), (1, .int (nI (f))), (2, .int (nI (f2))), (3, .int (nI (0))), (4, .int (w)), (5, .int (t))] (zK_ok A D tc tF tL tM) E.1 E.2 owR_ok (by decide +kernel) rfl (Nat.le_of_ble_eq_true rfl) rfl ?_
  intro pP eE sS mM aS bL mT cO X
  refine zr_aloadn X 0 dX6_noTransfer_0 rfl ?_
  refine zr_iloadn X 1 dX6_noTransfer_1 rfl ?_
  refine zr_dVi (C := RX6) (ci := 6) [.int (nI (f))] [] X (zK_ok A D tc tF tL tM) (c_isFirm_t E μ (hc) h8 (by omega)) k_611 k_613 kp_2 k_7 k_614 hdX6_isFirm ⟨rfl, rfl⟩ ⟨Nat.le_of_ble_eq_true rfl, Nat.le_of_ble_eq_true rfl⟩ (by omega) rfl rfl rfl rfl (Nat.le_of_ble_eq_true rfl) dX6_noTransfer_2 ?_
  refine zr_if_eq X 20 dX6_noTransfer_5 (by decide) (fun q => absurd q (nI_ne0 (by omega) (by omega))) (fun _ => ?_)
  refine zr_aloadn X 0 dX6_noTransfer_8 rfl ?_
  refine zr_iloadn X 2 dX6_noTransfer_9 rfl ?_
  refine zr_dVi (C := RX6) (ci := 6) [.int (nI (f2))] [] X (zK_ok A D tc tF tL tM) (c_isFirm_t E μ (hc) h8 (by omega)) k_611 k_613 kp_2 k_7 k_614 hdX6_isFirm ⟨rfl, rfl⟩ ⟨Nat.le_of_ble_eq_true rfl, Nat.le_of_ble_eq_true rfl⟩ (by omega) rfl rfl rfl rfl (Nat.le_of_ble_eq_true rfl) dX6_noTransfer_10 ?_
  refine zr_if_eq X 20 dX6_noTransfer_13 (by decide) (fun q => absurd q (nI_ne0 (by omega) (by omega))) (fun _ => ?_)
  refine zr_iloadn X 3 dX6_noTransfer_16 rfl ?_
  refine zr_if_ne X 22 dX6_noTransfer_17 (by decide) (fun q => absurd (zq_eq0 (by omega)) q) (fun _ => ?_)
  refine zr_iconst X (-1) dX6_noTransfer_20 (by decide +kernel) ?_
  exact zr_iret X dX6_noTransfer_21 ⟨rfl, rfl⟩

set_option maxHeartbeats 4000000 in
set_option maxRecDepth 100000 in
theorem c_noTransfer_b1 {l : Launch} {D : va_G} {tc : Nat → ClassId} {ad : Nat → Nat} {A : Nat → Prop} {tF tL tM : Nat} (E : zN 6 A ad) (μ : Nat → Int32) {c : Nat} (hc : μ 1 = nI c) (h8 : c ≤ 8) {f f2 : Nat} (hf : f < c) (hf2 : f2 < c) (w : Int32) {t : Int32} (hx : ¬ zin t 1 9999)  : zMi l yX6_noTransfer cX6_noTransfer 6 (some .int) (zrm 3) (zK A D tc tF tL tM) A D vwCl tc ad 6 shR [.ref (ad (0)), .int (nI (f)), .int (nI (f2)), .int (nI (1)), .int (w), .int (t)] μ (fun r u => r = -2 ∧ u = μ) := by
  refine zM_of RX6 [(0, .ref (ad (0))), (1, .int (nI (f))), (2, .int (nI (f2))), (3, .int (nI (1))), (4, .int (w)), (5, .int (t))] (zK_ok A D tc tF tL tM) E.1 E.2 owR_ok (by decide +kernel) rfl (Nat.le_of_ble_eq_true rfl) rfl ?_
  intro pP eE sS mM aS bL mT cO X
  refine zr_aloadn X 0 dX6_noTransfer_0 rfl ?_
  refine zr_iloadn X 1 dX6_noTransfer_1 rfl ?_
  refine zr_dVi (C := RX6) (ci := 6) [.int (nI (f))] [] X (zK_ok A D tc tF tL tM) (c_isFirm_t E μ (hc) h8 (by omega)) k_611 k_613 kp_2 k_7 k_614 hdX6_isFirm ⟨rfl, rfl⟩ ⟨Nat.le_of_ble_eq_true rfl, Nat.le_of_ble_eq_true rfl⟩ (by omega) rfl rfl rfl rfl (Nat.le_of_ble_eq_true rfl) dX6_noTransfer_2 ?_
  refine zr_if_eq X 20 dX6_noTransfer_5 (by decide) (fun q => absurd q (nI_ne0 (by omega) (by omega))) (fun _ => ?_)
  refine zr_aloadn X 0 dX6_noTransfer_8 rfl ?_
  refine zr_iloadn X 2 dX6_noTransfer_9 rfl ?_
  refine zr_dVi (C := RX6) (ci := 6) [.int (nI (f2))] [] X (zK_ok A D tc tF tL tM) (c_isFirm_t E μ (hc) h8 (by omega)) k_611 k_613 kp_2 k_7 k_614 hdX6_isFirm ⟨rfl, rfl⟩ ⟨Nat.le_of_ble_eq_true rfl, Nat.le_of_ble_eq_true rfl⟩ (by omega) rfl rfl rfl rfl (Nat.le_of_ble_eq_true rfl) dX6_noTransfer_10 ?_
  refine zr_if_eq X 20 dX6_noTransfer_13 (by decide) (fun q => absurd q (nI_ne0 (by omega) (by omega))) (fun _ => ?_)
  refine zr_iloadn X 3 dX6_noTransfer_16 rfl ?_
  refine zr_if_ne X 22 dX6_noTransfer_17 (by decide) (fun _ => ?_) (fun q => absurd q (nI_ne0 (by omega) (by omega)))
  refine zr_iload X 5 dX6_noTransfer_22 rfl ?_
  refine zr_dSi [.int (t)] [] X (zK_ok A D tc tF tL tM) (c_isTonnes_f E μ hx) k_615 k_616 k_7 k_617 hdX6_isTonnes ⟨rfl, rfl⟩ ⟨Nat.le_of_ble_eq_true rfl, Nat.le_of_ble_eq_true rfl⟩ rfl rfl (Nat.le_of_ble_eq_true rfl) dX6_noTransfer_24 ?_
  refine zr_if_eq X 35 dX6_noTransfer_27 (by decide) (fun _ => ?_) (fun q => absurd (zq_eq0 (by omega)) q)
  refine zr_bipush X (-2) dX6_noTransfer_35 (by decide +kernel) ?_
  exact zr_iret X dX6_noTransfer_37 ⟨rfl, rfl⟩

set_option maxHeartbeats 4000000 in
set_option maxRecDepth 100000 in
theorem c_noTransfer_b2 {l : Launch} {D : va_G} {tc : Nat → ClassId} {ad : Nat → Nat} {A : Nat → Prop} {tF tL tM : Nat} (E : zN 6 A ad) (μ : Nat → Int32) {c : Nat} (hc : μ 1 = nI c) (h8 : c ≤ 8) {f : Nat} (hf : f < c) {t : Nat} (ht1 : 1 ≤ t) (ht9 : t ≤ 9999) (w : Int32)  : zMi l yX6_noTransfer cX6_noTransfer 6 (some .int) (zrm 3) (zK A D tc tF tL tM) A D vwCl tc ad 6 shR [.ref (ad (0)), .int (nI (f)), .int (nI (f)), .int (nI (1)), .int (w), .int (nI (t))] μ (fun r u => r = -2 ∧ u = μ) := by
  refine zM_of RX6 [(0, .ref (ad (0))), (1, .int (nI (f))), (2, .int (nI (f))), (3, .int (nI (1))), (4, .int (w)), (5, .int (nI (t)))] (zK_ok A D tc tF tL tM) E.1 E.2 owR_ok (by decide +kernel) rfl (Nat.le_of_ble_eq_true rfl) rfl ?_
  intro pP eE sS mM aS bL mT cO X
  refine zr_aloadn X 0 dX6_noTransfer_0 rfl ?_
  refine zr_iloadn X 1 dX6_noTransfer_1 rfl ?_
  refine zr_dVi (C := RX6) (ci := 6) [.int (nI (f))] [] X (zK_ok A D tc tF tL tM) (c_isFirm_t E μ (hc) h8 (by omega)) k_611 k_613 kp_2 k_7 k_614 hdX6_isFirm ⟨rfl, rfl⟩ ⟨Nat.le_of_ble_eq_true rfl, Nat.le_of_ble_eq_true rfl⟩ (by omega) rfl rfl rfl rfl (Nat.le_of_ble_eq_true rfl) dX6_noTransfer_2 ?_
  refine zr_if_eq X 20 dX6_noTransfer_5 (by decide) (fun q => absurd q (nI_ne0 (by omega) (by omega))) (fun _ => ?_)
  refine zr_aloadn X 0 dX6_noTransfer_8 rfl ?_
  refine zr_iloadn X 2 dX6_noTransfer_9 rfl ?_
  refine zr_dVi (C := RX6) (ci := 6) [.int (nI (f))] [] X (zK_ok A D tc tF tL tM) (c_isFirm_t E μ (hc) h8 (by omega)) k_611 k_613 kp_2 k_7 k_614 hdX6_isFirm ⟨rfl, rfl⟩ ⟨Nat.le_of_ble_eq_true rfl, Nat.le_of_ble_eq_true rfl⟩ (by omega) rfl rfl rfl rfl (Nat.le_of_ble_eq_true rfl) dX6_noTransfer_10 ?_
  refine zr_if_eq X 20 dX6_noTransfer_13 (by decide) (fun q => absurd q (nI_ne0 (by omega) (by omega))) (fun _ => ?_)
  refine zr_iloadn X 3 dX6_noTransfer_16 rfl ?_
  refine zr_if_ne X 22 dX6_noTransfer_17 (by decide) (fun _ => ?_) (fun q => absurd q (nI_ne0 (by omega) (by omega)))
  refine zr_iload X 5 dX6_noTransfer_22 rfl ?_
  refine zr_dSi [.int (nI (t))] [] X (zK_ok A D tc tF tL tM) (c_isTonnes_t E μ (by omega) (by omega)) k_615 k_616 k_7 k_617 hdX6_isTonnes ⟨rfl, rfl⟩ ⟨Nat.le_of_ble_eq_true rfl, Nat.le_of_ble_eq_true rfl⟩ rfl rfl (Nat.le_of_ble_eq_true rfl) dX6_noTransfer_24 ?_
  refine zr_if_eq X 35 dX6_noTransfer_27 (by decide) (fun q => absurd q (nI_ne0 (by omega) (by omega))) (fun _ => ?_)
  refine zr_iloadn X 1 dX6_noTransfer_30 rfl ?_
  refine zr_iloadn X 2 dX6_noTransfer_31 rfl ?_
  refine zr_icmp_ne X 38 dX6_noTransfer_32 (by decide) (fun q => absurd (zq_eq (by omega)) q) (fun _ => ?_)
  refine zr_bipush X (-2) dX6_noTransfer_35 (by decide +kernel) ?_
  exact zr_iret X dX6_noTransfer_37 ⟨rfl, rfl⟩

set_option maxHeartbeats 4000000 in
set_option maxRecDepth 100000 in
theorem c_noTransfer_n {l : Launch} {D : va_G} {tc : Nat → ClassId} {ad : Nat → Nat} {A : Nat → Prop} {tF tL tM : Nat} (E : zN 6 A ad) (μ : Nat → Int32) {c : Nat} (hc : μ 1 = nI c) (h8 : c ≤ 8) {f f2 : Nat} (hf : f < c) (hf2 : f2 < c) {t : Nat} (ht1 : 1 ≤ t) (ht9 : t ≤ 9999) {w : Nat} (hw : w < 32) (hne : f ≠ f2) (h : ¬ nI t ≤ μ (32 * f + w + 7)) : zMi l yX6_noTransfer cX6_noTransfer 6 (some .int) (zrm 3) (zK A D tc tF tL tM) A D vwCl tc ad 6 shR [.ref (ad (0)), .int (nI (f)), .int (nI (f2)), .int (nI (1)), .int (nI (w)), .int (nI (t))] μ (fun r u => r = -4 ∧ u = μ) := by
  refine zM_of RX6 [(0, .ref (ad (0))), (1, .int (nI (f))), (2, .int (nI (f2))), (3, .int (nI (1))), (4, .int (nI (w))), (5, .int (nI (t)))] (zK_ok A D tc tF tL tM) E.1 E.2 owR_ok (by decide +kernel) rfl (Nat.le_of_ble_eq_true rfl) rfl ?_
  intro pP eE sS mM aS bL mT cO X
  refine zr_aloadn X 0 dX6_noTransfer_0 rfl ?_
  refine zr_iloadn X 1 dX6_noTransfer_1 rfl ?_
  refine zr_dVi (C := RX6) (ci := 6) [.int (nI (f))] [] X (zK_ok A D tc tF tL tM) (c_isFirm_t E μ (hc) h8 (by omega)) k_611 k_613 kp_2 k_7 k_614 hdX6_isFirm ⟨rfl, rfl⟩ ⟨Nat.le_of_ble_eq_true rfl, Nat.le_of_ble_eq_true rfl⟩ (by omega) rfl rfl rfl rfl (Nat.le_of_ble_eq_true rfl) dX6_noTransfer_2 ?_
  refine zr_if_eq X 20 dX6_noTransfer_5 (by decide) (fun q => absurd q (nI_ne0 (by omega) (by omega))) (fun _ => ?_)
  refine zr_aloadn X 0 dX6_noTransfer_8 rfl ?_
  refine zr_iloadn X 2 dX6_noTransfer_9 rfl ?_
  refine zr_dVi (C := RX6) (ci := 6) [.int (nI (f2))] [] X (zK_ok A D tc tF tL tM) (c_isFirm_t E μ (hc) h8 (by omega)) k_611 k_613 kp_2 k_7 k_614 hdX6_isFirm ⟨rfl, rfl⟩ ⟨Nat.le_of_ble_eq_true rfl, Nat.le_of_ble_eq_true rfl⟩ (by omega) rfl rfl rfl rfl (Nat.le_of_ble_eq_true rfl) dX6_noTransfer_10 ?_
  refine zr_if_eq X 20 dX6_noTransfer_13 (by decide) (fun q => absurd q (nI_ne0 (by omega) (by omega))) (fun _ => ?_)
  refine zr_iloadn X 3 dX6_noTransfer_16 rfl ?_
  refine zr_if_ne X 22 dX6_noTransfer_17 (by decide) (fun _ => ?_) (fun q => absurd q (nI_ne0 (by omega) (by omega)))
  refine zr_iload X 5 dX6_noTransfer_22 rfl ?_
  refine zr_dSi [.int (nI (t))] [] X (zK_ok A D tc tF tL tM) (c_isTonnes_t E μ (by omega) (by omega)) k_615 k_616 k_7 k_617 hdX6_isTonnes ⟨rfl, rfl⟩ ⟨Nat.le_of_ble_eq_true rfl, Nat.le_of_ble_eq_true rfl⟩ rfl rfl (Nat.le_of_ble_eq_true rfl) dX6_noTransfer_24 ?_
  refine zr_if_eq X 35 dX6_noTransfer_27 (by decide) (fun q => absurd q (nI_ne0 (by omega) (by omega))) (fun _ => ?_)
  refine zr_iloadn X 1 dX6_noTransfer_30 rfl ?_
  refine zr_iloadn X 2 dX6_noTransfer_31 rfl ?_
  refine zr_icmp_ne X 38 dX6_noTransfer_32 (by decide) (fun _ => ?_) (fun q => absurd q (zq_ne (by omega) (by omega) (by omega)))
  refine zr_aloadn X 0 dX6_noTransfer_38 rfl ?_
  refine zr_get X (ci := 6) (q := 0) (zR _) (.ref (ad (1))) dX6_noTransfer_39 (by omega) rfl rfl inX6 (by decide) rfl (zvR rfl) rfl k_539 ?_
  refine zr_iloadn X 1 dX6_noTransfer_42 rfl ?_
  refine zr_iload X 4 dX6_noTransfer_43 rfl ?_
  refine zr_dSi [.int (nI (f)), .int (nI (w))] [.ref (ad (1))] X (zK_ok A D tc tF tL tM) (zM_i (z1 := nI (32 * f + w + 7)) (c_of E μ (f) (w)) (congrArg nI (by omega))) k_597 k_598 k_7 k_599 hdX6_of ⟨rfl, rfl⟩ ⟨Nat.le_of_ble_eq_true rfl, Nat.le_of_ble_eq_true rfl⟩ rfl rfl (Nat.le_of_ble_eq_true rfl) dX6_noTransfer_45 ?_
  refine zr_iald X (j := 32 * f + w + 7) 0 (μ (32 * f + w + 7)) dX6_noTransfer_48 (by omega) rfl rfl rfl (by omega) (by omega) (zcg (b := 32 * f + w + 7) (by omega) (rfl)) ?_
  refine zr_iload X 5 dX6_noTransfer_49 rfl ?_
  refine zr_icmp_ge X 59 dX6_noTransfer_51 (by decide) (fun q => absurd q (h)) (fun _ => ?_)
  refine zr_bipush X (-4) dX6_noTransfer_54 (by decide +kernel) ?_
  refine zr_goto X 60 dX6_noTransfer_56 (by decide) ?_
  exact zr_iret X dX6_noTransfer_60 ⟨rfl, rfl⟩

set_option maxHeartbeats 4000000 in
set_option maxRecDepth 100000 in
theorem c_noTransfer_0 {l : Launch} {D : va_G} {tc : Nat → ClassId} {ad : Nat → Nat} {A : Nat → Prop} {tF tL tM : Nat} (E : zN 6 A ad) (μ : Nat → Int32) {c : Nat} (hc : μ 1 = nI c) (h8 : c ≤ 8) {f f2 : Nat} (hf : f < c) (hf2 : f2 < c) {t : Nat} (ht1 : 1 ≤ t) (ht9 : t ≤ 9999) {w : Nat} (hw : w < 32) (hne : f ≠ f2) (h : nI t ≤ μ (32 * f + w + 7)) : zMi l yX6_noTransfer cX6_noTransfer 6 (some .int) (zrm 3) (zK A D tc tF tL tM) A D vwCl tc ad 6 shR [.ref (ad (0)), .int (nI (f)), .int (nI (f2)), .int (nI (1)), .int (nI (w)), .int (nI (t))] μ (fun r u => r = nI 0 ∧ u = μ) := by
  refine zM_of RX6 [(0, .ref (ad (0))), (1, .int (nI (f))), (2, .int (nI (f2))), (3, .int (nI (1))), (4, .int (nI (w))), (5, .int (nI (t)))] (zK_ok A D tc tF tL tM) E.1 E.2 owR_ok (by decide +kernel) rfl (Nat.le_of_ble_eq_true rfl) rfl ?_
  intro pP eE sS mM aS bL mT cO X
  refine zr_aloadn X 0 dX6_noTransfer_0 rfl ?_
  refine zr_iloadn X 1 dX6_noTransfer_1 rfl ?_
  refine zr_dVi (C := RX6) (ci := 6) [.int (nI (f))] [] X (zK_ok A D tc tF tL tM) (c_isFirm_t E μ (hc) h8 (by omega)) k_611 k_613 kp_2 k_7 k_614 hdX6_isFirm ⟨rfl, rfl⟩ ⟨Nat.le_of_ble_eq_true rfl, Nat.le_of_ble_eq_true rfl⟩ (by omega) rfl rfl rfl rfl (Nat.le_of_ble_eq_true rfl) dX6_noTransfer_2 ?_
  refine zr_if_eq X 20 dX6_noTransfer_5 (by decide) (fun q => absurd q (nI_ne0 (by omega) (by omega))) (fun _ => ?_)
  refine zr_aloadn X 0 dX6_noTransfer_8 rfl ?_
  refine zr_iloadn X 2 dX6_noTransfer_9 rfl ?_
  refine zr_dVi (C := RX6) (ci := 6) [.int (nI (f2))] [] X (zK_ok A D tc tF tL tM) (c_isFirm_t E μ (hc) h8 (by omega)) k_611 k_613 kp_2 k_7 k_614 hdX6_isFirm ⟨rfl, rfl⟩ ⟨Nat.le_of_ble_eq_true rfl, Nat.le_of_ble_eq_true rfl⟩ (by omega) rfl rfl rfl rfl (Nat.le_of_ble_eq_true rfl) dX6_noTransfer_10 ?_
  refine zr_if_eq X 20 dX6_noTransfer_13 (by decide) (fun q => absurd q (nI_ne0 (by omega) (by omega))) (fun _ => ?_)
  refine zr_iloadn X 3 dX6_noTransfer_16 rfl ?_
  refine zr_if_ne X 22 dX6_noTransfer_17 (by decide) (fun _ => ?_) (fun q => absurd q (nI_ne0 (by omega) (by omega)))
  refine zr_iload X 5 dX6_noTransfer_22 rfl ?_
  refine zr_dSi [.int (nI (t))] [] X (zK_ok A D tc tF tL tM) (c_isTonnes_t E μ (by omega) (by omega)) k_615 k_616 k_7 k_617 hdX6_isTonnes ⟨rfl, rfl⟩ ⟨Nat.le_of_ble_eq_true rfl, Nat.le_of_ble_eq_true rfl⟩ rfl rfl (Nat.le_of_ble_eq_true rfl) dX6_noTransfer_24 ?_
  refine zr_if_eq X 35 dX6_noTransfer_27 (by decide) (fun q => absurd q (nI_ne0 (by omega) (by omega))) (fun _ => ?_)
  refine zr_iloadn X 1 dX6_noTransfer_30 rfl ?_
  refine zr_iloadn X 2 dX6_noTransfer_31 rfl ?_
  refine zr_icmp_ne X 38 dX6_noTransfer_32 (by decide) (fun _ => ?_) (fun q => absurd q (zq_ne (by omega) (by omega) (by omega)))
  refine zr_aloadn X 0 dX6_noTransfer_38 rfl ?_
  refine zr_get X (ci := 6) (q := 0) (zR _) (.ref (ad (1))) dX6_noTransfer_39 (by omega) rfl rfl inX6 (by decide) rfl (zvR rfl) rfl k_539 ?_
  refine zr_iloadn X 1 dX6_noTransfer_42 rfl ?_
  refine zr_iload X 4 dX6_noTransfer_43 rfl ?_
  refine zr_dSi [.int (nI (f)), .int (nI (w))] [.ref (ad (1))] X (zK_ok A D tc tF tL tM) (zM_i (z1 := nI (32 * f + w + 7)) (c_of E μ (f) (w)) (congrArg nI (by omega))) k_597 k_598 k_7 k_599 hdX6_of ⟨rfl, rfl⟩ ⟨Nat.le_of_ble_eq_true rfl, Nat.le_of_ble_eq_true rfl⟩ rfl rfl (Nat.le_of_ble_eq_true rfl) dX6_noTransfer_45 ?_
  refine zr_iald X (j := 32 * f + w + 7) 0 (μ (32 * f + w + 7)) dX6_noTransfer_48 (by omega) rfl rfl rfl (by omega) (by omega) (zcg (b := 32 * f + w + 7) (by omega) (rfl)) ?_
  refine zr_iload X 5 dX6_noTransfer_49 rfl ?_
  refine zr_icmp_ge X 59 dX6_noTransfer_51 (by decide) (fun _ => ?_) (fun q => absurd (h) q)
  refine zr_iconst X (nI (0)) dX6_noTransfer_59 (by decide +kernel) ?_
  exact zr_iret X dX6_noTransfer_60 ⟨rfl, rfl⟩

set_option maxHeartbeats 4000000 in
set_option maxRecDepth 100000 in
theorem c_doTransfer {l : Launch} {D : va_G} {tc : Nat → ClassId} {ad : Nat → Nat} {A : Nat → Prop} {tF tL tM : Nat} (E : zN 6 A ad) (μ : Nat → Int32) {c : Nat} (hc : μ 1 = nI c) (h8 : c ≤ 8) {f f2 : Nat} (hf : f < c) (hf2 : f2 < c) {w : Nat} (hw : w < 32) {t : Int32} (hne : f ≠ f2) : zMi l yX6_doTransfer cX6_doTransfer 5 (some .int) (zrm 2) (zK A D tc tF tL tM) A D vwCl tc ad 6 shR [.ref (ad (0)), .int (nI (f)), .int (nI (f2)), .int (nI (w)), .int (t)] μ (fun r u => r = μ (32 * f + w + 7) - t ∧ u = (upd (upd μ (32 * f + w + 7) (μ (32 * f + w + 7) - t)) (32 * f2 + w + 7) (μ (32 * f2 + w + 7) + t))) := by
  refine zM_of RX6 [(0, .ref (ad (0))), (1, .int (nI (f))), (2, .int (nI (f2))), (3, .int (nI (w))), (4, .int (t))] (zK_ok A D tc tF tL tM) E.1 E.2 owR_ok (by decide +kernel) rfl (Nat.le_of_ble_eq_true rfl) rfl ?_
  intro pP eE sS mM aS bL mT cO X
  refine zr_aloadn X 0 dX6_doTransfer_0 rfl ?_
  refine zr_get X (ci := 6) (q := 0) (zR _) (.ref (ad (1))) dX6_doTransfer_1 (by omega) rfl rfl inX6 (by decide) rfl (zvR rfl) rfl k_539 ?_
  refine zr_iloadn X 1 dX6_doTransfer_4 rfl ?_
  refine zr_iloadn X 3 dX6_doTransfer_5 rfl ?_
  refine zr_dSi [.int (nI (f)), .int (nI (w))] [.ref (ad (1))] X (zK_ok A D tc tF tL tM) (zM_i (z1 := nI (32 * f + w + 7)) (c_of E μ (f) (w)) (congrArg nI (by omega))) k_597 k_598 k_7 k_599 hdX6_of ⟨rfl, rfl⟩ ⟨Nat.le_of_ble_eq_true rfl, Nat.le_of_ble_eq_true rfl⟩ rfl rfl (Nat.le_of_ble_eq_true rfl) dX6_doTransfer_6 ?_
  refine zr_dup2 X dX6_doTransfer_9 rfl rfl ?_
  refine zr_iald X (j := 32 * f + w + 7) 0 (μ (32 * f + w + 7)) dX6_doTransfer_10 (by omega) rfl rfl rfl (by omega) (by omega) (zcg (b := 32 * f + w + 7) (by omega) (rfl)) ?_
  refine zr_iload X 4 dX6_doTransfer_11 rfl ?_
  refine zr_isub X ((μ (32 * f + w + 7)) - t) dX6_doTransfer_13 rfl ?_
  refine zr_iast X (j := 32 * f + w + 7) 0 (32 * f + w + 7) dX6_doTransfer_14 (by omega) rfl rfl rfl (by omega) (by omega) (by omega) ?_
  refine zr_aloadn X 0 dX6_doTransfer_15 rfl ?_
  refine zr_get X (ci := 6) (q := 0) (zR _) (.ref (ad (1))) dX6_doTransfer_16 (by omega) rfl rfl inX6 (by decide) rfl (zvR rfl) rfl k_539 ?_
  refine zr_iloadn X 2 dX6_doTransfer_19 rfl ?_
  refine zr_iloadn X 3 dX6_doTransfer_20 rfl ?_
  refine zr_dSi [.int (nI (f2)), .int (nI (w))] [.ref (ad (1))] X (zK_ok A D tc tF tL tM) (zM_i (z1 := nI (32 * f2 + w + 7)) (c_of E (upd μ (32 * f + w + 7) ((μ (32 * f + w + 7)) - t)) (f2) (w)) (congrArg nI (by omega))) k_597 k_598 k_7 k_599 hdX6_of ⟨rfl, rfl⟩ ⟨Nat.le_of_ble_eq_true rfl, Nat.le_of_ble_eq_true rfl⟩ rfl rfl (Nat.le_of_ble_eq_true rfl) dX6_doTransfer_21 ?_
  refine zr_dup2 X dX6_doTransfer_24 rfl rfl ?_
  refine zr_iald X (j := 32 * f2 + w + 7) 0 (μ (32 * f2 + w + 7)) dX6_doTransfer_25 (by omega) rfl rfl rfl (by omega) (by omega) (zcg (b := 32 * f2 + w + 7) (by omega) ((pk_un (by omega)).trans (rfl))) ?_
  refine zr_iload X 4 dX6_doTransfer_26 rfl ?_
  refine zr_iadd X ((μ (32 * f2 + w + 7)) + t) dX6_doTransfer_28 rfl ?_
  refine zr_iast X (j := 32 * f2 + w + 7) 0 (32 * f2 + w + 7) dX6_doTransfer_29 (by omega) rfl rfl rfl (by omega) (by omega) (by omega) ?_
  refine zr_aloadn X 0 dX6_doTransfer_30 rfl ?_
  refine zr_get X (ci := 6) (q := 0) (zR _) (.ref (ad (1))) dX6_doTransfer_31 (by omega) rfl rfl inX6 (by decide) rfl (zvR rfl) rfl k_539 ?_
  refine zr_iloadn X 1 dX6_doTransfer_34 rfl ?_
  refine zr_iloadn X 3 dX6_doTransfer_35 rfl ?_
  refine zr_dSi [.int (nI (f)), .int (nI (w))] [.ref (ad (1))] X (zK_ok A D tc tF tL tM) (zM_i (z1 := nI (32 * f + w + 7)) (c_of E (upd (upd μ (32 * f + w + 7) ((μ (32 * f + w + 7)) - t)) (32 * f2 + w + 7) ((μ (32 * f2 + w + 7)) + t)) (f) (w)) (congrArg nI (by omega))) k_597 k_598 k_7 k_599 hdX6_of ⟨rfl, rfl⟩ ⟨Nat.le_of_ble_eq_true rfl, Nat.le_of_ble_eq_true rfl⟩ rfl rfl (Nat.le_of_ble_eq_true rfl) dX6_doTransfer_36 ?_
  refine zr_iald X (j := 32 * f + w + 7) 0 ((μ (32 * f + w + 7)) - t) dX6_doTransfer_39 (by omega) rfl rfl rfl (by omega) (by omega) (zcg (b := 32 * f + w + 7) (by omega) ((pk_un (by omega)).trans (pk_us))) ?_
  exact zr_iret X dX6_doTransfer_40 ⟨rfl, rfl⟩

theorem c_doT {l : Launch} {D : va_G} {tc : Nat → ClassId} {ad : Nat → Nat} {A : Nat → Prop} {tF tL tM : Nat} (E : zN 6 A ad) (μ : Nat → Int32) {c : Nat} (hc : μ 1 = nI c) (h8 : c ≤ 8) {f f2 : Nat} (hf : f < c) (hf2 : f2 < c) {w : Nat} (hw : w < 32) {t : Int32} (hne : f ≠ f2) {pa pb : Nat} (ea : 32 * f + w + 7 = pa) (eb : 32 * f2 + w + 7 = pb) {xa xb : Int32} (ha : μ pa = xa) (hb : μ pb = xb) : zMi l yX6_doTransfer cX6_doTransfer 5 (some .int) (zrm 2) (zK A D tc tF tL tM) A D vwCl tc ad 6 shR [.ref (ad (0)), .int (nI (f)), .int (nI (f2)), .int (nI (w)), .int t] μ (fun r u => r = xa - t ∧ u = upd (upd μ pa (xa - t)) pb (xb + t)) := by
  subst ea; subst eb; subst ha; subst hb
  exact c_doTransfer E μ hc h8 hf hf2 hw hne
set_option maxHeartbeats 4000000 in
set_option maxRecDepth 100000 in
theorem c_transfer_u1 {l : Launch} {D : va_G} {tc : Nat → ClassId} {ad : Nat → Nat} {A : Nat → Prop} {tF tL tM : Nat} (E : zN 6 A ad) (μ : Nat → Int32) {m c k : Nat} (S : refS μ m c k) {x : Int32} (hx : ¬ zfm x c) (to : Int32) (t : Int32) {v : Nat} (hv : v ≤ 19)  : zMi l yX6_transfer cX6_transfer 7 (some .int) (zrm 5) (zK A D tc tF tL tM) A D vwCl tc ad 6 shR [.ref (ad (0)), .int (x), .int (to), .int (nI (v)), .int (t)] μ (fun r u => r = -1 ∧ u = μ) := by
  refine zM_of RX6 [(0, .ref (ad (0))), (1, .int (x)), (2, .int (to)), (3, .int (nI (v))), (4, .int (t))] (zK_ok A D tc tF tL tM) E.1 E.2 owR_ok (by decide +kernel) rfl (Nat.le_of_ble_eq_true rfl) rfl ?_
  intro pP eE sS mM aS bL mT cO X
  obtain ⟨hm, hm2, hc, h8, hk, hk4⟩ := S
  refine zr_iloadn X 3 dX6_transfer_0 rfl ?_
  refine zr_dSi [.int (nI (v))] [] X (zK_ok A D tc tF tL tM) (c_isVintage_t E μ (by omega) (by omega)) k_633 k_634 k_7 k_635 hdX6_isVintage ⟨rfl, rfl⟩ ⟨Nat.le_of_ble_eq_true rfl, Nat.le_of_ble_eq_true rfl⟩ rfl rfl (Nat.le_of_ble_eq_true rfl) dX6_transfer_1 ?_
  refine zr_if_eq X 13 dX6_transfer_4 (by decide) (fun q => absurd q (nI_ne0 (by omega) (by omega))) (fun _ => ?_)
  refine zr_iconst X (nI (0)) dX6_transfer_7 (by decide +kernel) ?_
  refine zr_iloadn X 3 dX6_transfer_8 rfl ?_
  refine zr_iadd X (nI (v)) dX6_transfer_9 ((nI_add _ _).trans (congrArg nI (by omega))) ?_
  refine zr_goto X 14 dX6_transfer_10 (by decide) ?_
  refine zr_istore X [1, 2, 3, 4, 5, 0] [(0, .ref (ad (0))), (1, .int (x)), (2, .int (to)), (3, .int (nI (v))), (4, .int (t)), (5, .int (nI (v)))] dX6_transfer_14 (by decide) rfl ?_
  refine zr_aloadn X 0 dX6_transfer_16 rfl ?_
  refine zr_iloadn X 1 dX6_transfer_17 rfl ?_
  refine zr_iloadn X 2 dX6_transfer_18 rfl ?_
  refine zr_iloadn X 3 dX6_transfer_19 rfl ?_
  refine zr_dSi [.int (nI (v))] [.int (to), .int (x), .ref (ad (0))] X (zK_ok A D tc tF tL tM) (c_isVintage_t E μ (by omega) (by omega)) k_633 k_634 k_7 k_635 hdX6_isVintage ⟨rfl, rfl⟩ ⟨Nat.le_of_ble_eq_true rfl, Nat.le_of_ble_eq_true rfl⟩ rfl rfl (Nat.le_of_ble_eq_true rfl) dX6_transfer_20 ?_
  refine zr_iload X 5 dX6_transfer_23 rfl ?_
  refine zr_iload X 4 dX6_transfer_25 rfl ?_
  refine zr_dVi (C := RX6) (ci := 6) [.int (x), .int (to), .int (nI (1)), .int (nI (v)), .int (t)] [] X (zK_ok A D tc tF tL tM) (c_noTransfer_u1 E μ (hc) h8 hx _ _ _ _) k_636 k_638 kp_4 k_7 k_639 hdX6_noTransfer ⟨rfl, rfl⟩ ⟨Nat.le_of_ble_eq_true rfl, Nat.le_of_ble_eq_true rfl⟩ (by omega) rfl rfl rfl rfl (Nat.le_of_ble_eq_true rfl) dX6_transfer_27 ?_
  refine zr_istore X [1, 2, 3, 4, 5, 6, 0] [(0, .ref (ad (0))), (1, .int (x)), (2, .int (to)), (3, .int (nI (v))), (4, .int (t)), (5, .int (nI (v))), (6, .int (-1))] dX6_transfer_30 (by decide) rfl ?_
  refine zr_iload X 6 dX6_transfer_32 rfl ?_
  refine zr_if_eq X 40 dX6_transfer_34 (by decide) (fun q => absurd q (by decide)) (fun _ => ?_)
  refine zr_iload X 6 dX6_transfer_37 rfl ?_
  exact zr_iret X dX6_transfer_39 ⟨rfl, rfl⟩

set_option maxHeartbeats 4000000 in
set_option maxRecDepth 100000 in
theorem c_transfer_u2 {l : Launch} {D : va_G} {tc : Nat → ClassId} {ad : Nat → Nat} {A : Nat → Prop} {tF tL tM : Nat} (E : zN 6 A ad) (μ : Nat → Int32) {m c k : Nat} (S : refS μ m c k) {f : Nat} (hf : f < c) {x : Int32} (hx : ¬ zfm x c) (t : Int32) {v : Nat} (hv : v ≤ 19)  : zMi l yX6_transfer cX6_transfer 7 (some .int) (zrm 5) (zK A D tc tF tL tM) A D vwCl tc ad 6 shR [.ref (ad (0)), .int (nI (f)), .int (x), .int (nI (v)), .int (t)] μ (fun r u => r = -1 ∧ u = μ) := by
  refine zM_of RX6 [(0, .ref (ad (0))), (1, .int (nI (f))), (2, .int (x)), (3, .int (nI (v))), (4, .int (t))] (zK_ok A D tc tF tL tM) E.1 E.2 owR_ok (by decide +kernel) rfl (Nat.le_of_ble_eq_true rfl) rfl ?_
  intro pP eE sS mM aS bL mT cO X
  obtain ⟨hm, hm2, hc, h8, hk, hk4⟩ := S
  refine zr_iloadn X 3 dX6_transfer_0 rfl ?_
  refine zr_dSi [.int (nI (v))] [] X (zK_ok A D tc tF tL tM) (c_isVintage_t E μ (by omega) (by omega)) k_633 k_634 k_7 k_635 hdX6_isVintage ⟨rfl, rfl⟩ ⟨Nat.le_of_ble_eq_true rfl, Nat.le_of_ble_eq_true rfl⟩ rfl rfl (Nat.le_of_ble_eq_true rfl) dX6_transfer_1 ?_
  refine zr_if_eq X 13 dX6_transfer_4 (by decide) (fun q => absurd q (nI_ne0 (by omega) (by omega))) (fun _ => ?_)
  refine zr_iconst X (nI (0)) dX6_transfer_7 (by decide +kernel) ?_
  refine zr_iloadn X 3 dX6_transfer_8 rfl ?_
  refine zr_iadd X (nI (v)) dX6_transfer_9 ((nI_add _ _).trans (congrArg nI (by omega))) ?_
  refine zr_goto X 14 dX6_transfer_10 (by decide) ?_
  refine zr_istore X [1, 2, 3, 4, 5, 0] [(0, .ref (ad (0))), (1, .int (nI (f))), (2, .int (x)), (3, .int (nI (v))), (4, .int (t)), (5, .int (nI (v)))] dX6_transfer_14 (by decide) rfl ?_
  refine zr_aloadn X 0 dX6_transfer_16 rfl ?_
  refine zr_iloadn X 1 dX6_transfer_17 rfl ?_
  refine zr_iloadn X 2 dX6_transfer_18 rfl ?_
  refine zr_iloadn X 3 dX6_transfer_19 rfl ?_
  refine zr_dSi [.int (nI (v))] [.int (x), .int (nI (f)), .ref (ad (0))] X (zK_ok A D tc tF tL tM) (c_isVintage_t E μ (by omega) (by omega)) k_633 k_634 k_7 k_635 hdX6_isVintage ⟨rfl, rfl⟩ ⟨Nat.le_of_ble_eq_true rfl, Nat.le_of_ble_eq_true rfl⟩ rfl rfl (Nat.le_of_ble_eq_true rfl) dX6_transfer_20 ?_
  refine zr_iload X 5 dX6_transfer_23 rfl ?_
  refine zr_iload X 4 dX6_transfer_25 rfl ?_
  refine zr_dVi (C := RX6) (ci := 6) [.int (nI (f)), .int (x), .int (nI (1)), .int (nI (v)), .int (t)] [] X (zK_ok A D tc tF tL tM) (c_noTransfer_u2 E μ (hc) h8 hf hx _ _ _) k_636 k_638 kp_4 k_7 k_639 hdX6_noTransfer ⟨rfl, rfl⟩ ⟨Nat.le_of_ble_eq_true rfl, Nat.le_of_ble_eq_true rfl⟩ (by omega) rfl rfl rfl rfl (Nat.le_of_ble_eq_true rfl) dX6_transfer_27 ?_
  refine zr_istore X [1, 2, 3, 4, 5, 6, 0] [(0, .ref (ad (0))), (1, .int (nI (f))), (2, .int (x)), (3, .int (nI (v))), (4, .int (t)), (5, .int (nI (v))), (6, .int (-1))] dX6_transfer_30 (by decide) rfl ?_
  refine zr_iload X 6 dX6_transfer_32 rfl ?_
  refine zr_if_eq X 40 dX6_transfer_34 (by decide) (fun q => absurd q (by decide)) (fun _ => ?_)
  refine zr_iload X 6 dX6_transfer_37 rfl ?_
  exact zr_iret X dX6_transfer_39 ⟨rfl, rfl⟩

set_option maxHeartbeats 4000000 in
set_option maxRecDepth 100000 in
theorem c_transfer_u1z {l : Launch} {D : va_G} {tc : Nat → ClassId} {ad : Nat → Nat} {A : Nat → Prop} {tF tL tM : Nat} (E : zN 6 A ad) (μ : Nat → Int32) {m c k : Nat} (S : refS μ m c k) {x : Int32} (hx : ¬ zfm x c) (to : Int32) (t : Int32) {z : Int32} (hz : ¬ zin z 0 19)  : zMi l yX6_transfer cX6_transfer 7 (some .int) (zrm 5) (zK A D tc tF tL tM) A D vwCl tc ad 6 shR [.ref (ad (0)), .int (x), .int (to), .int (z), .int (t)] μ (fun r u => r = -1 ∧ u = μ) := by
  refine zM_of RX6 [(0, .ref (ad (0))), (1, .int (x)), (2, .int (to)), (3, .int (z)), (4, .int (t))] (zK_ok A D tc tF tL tM) E.1 E.2 owR_ok (by decide +kernel) rfl (Nat.le_of_ble_eq_true rfl) rfl ?_
  intro pP eE sS mM aS bL mT cO X
  obtain ⟨hm, hm2, hc, h8, hk, hk4⟩ := S
  refine zr_iloadn X 3 dX6_transfer_0 rfl ?_
  refine zr_dSi [.int (z)] [] X (zK_ok A D tc tF tL tM) (c_isVintage_f E μ hz) k_633 k_634 k_7 k_635 hdX6_isVintage ⟨rfl, rfl⟩ ⟨Nat.le_of_ble_eq_true rfl, Nat.le_of_ble_eq_true rfl⟩ rfl rfl (Nat.le_of_ble_eq_true rfl) dX6_transfer_1 ?_
  refine zr_if_eq X 13 dX6_transfer_4 (by decide) (fun _ => ?_) (fun q => absurd (zq_eq0 (by omega)) q)
  refine zr_iconst X (nI (0)) dX6_transfer_13 (by decide +kernel) ?_
  refine zr_istore X [1, 2, 3, 4, 5, 0] [(0, .ref (ad (0))), (1, .int (x)), (2, .int (to)), (3, .int (z)), (4, .int (t)), (5, .int (nI (0)))] dX6_transfer_14 (by decide) rfl ?_
  refine zr_aloadn X 0 dX6_transfer_16 rfl ?_
  refine zr_iloadn X 1 dX6_transfer_17 rfl ?_
  refine zr_iloadn X 2 dX6_transfer_18 rfl ?_
  refine zr_iloadn X 3 dX6_transfer_19 rfl ?_
  refine zr_dSi [.int (z)] [.int (to), .int (x), .ref (ad (0))] X (zK_ok A D tc tF tL tM) (c_isVintage_f E μ hz) k_633 k_634 k_7 k_635 hdX6_isVintage ⟨rfl, rfl⟩ ⟨Nat.le_of_ble_eq_true rfl, Nat.le_of_ble_eq_true rfl⟩ rfl rfl (Nat.le_of_ble_eq_true rfl) dX6_transfer_20 ?_
  refine zr_iload X 5 dX6_transfer_23 rfl ?_
  refine zr_iload X 4 dX6_transfer_25 rfl ?_
  refine zr_dVi (C := RX6) (ci := 6) [.int (x), .int (to), .int (nI (0)), .int (nI (0)), .int (t)] [] X (zK_ok A D tc tF tL tM) (c_noTransfer_u1 E μ (hc) h8 hx _ _ _ _) k_636 k_638 kp_4 k_7 k_639 hdX6_noTransfer ⟨rfl, rfl⟩ ⟨Nat.le_of_ble_eq_true rfl, Nat.le_of_ble_eq_true rfl⟩ (by omega) rfl rfl rfl rfl (Nat.le_of_ble_eq_true rfl) dX6_transfer_27 ?_
  refine zr_istore X [1, 2, 3, 4, 5, 6, 0] [(0, .ref (ad (0))), (1, .int (x)), (2, .int (to)), (3, .int (z)), (4, .int (t)), (5, .int (nI (0))), (6, .int (-1))] dX6_transfer_30 (by decide) rfl ?_
  refine zr_iload X 6 dX6_transfer_32 rfl ?_
  refine zr_if_eq X 40 dX6_transfer_34 (by decide) (fun q => absurd q (by decide)) (fun _ => ?_)
  refine zr_iload X 6 dX6_transfer_37 rfl ?_
  exact zr_iret X dX6_transfer_39 ⟨rfl, rfl⟩

set_option maxHeartbeats 4000000 in
set_option maxRecDepth 100000 in
theorem c_transfer_u2z {l : Launch} {D : va_G} {tc : Nat → ClassId} {ad : Nat → Nat} {A : Nat → Prop} {tF tL tM : Nat} (E : zN 6 A ad) (μ : Nat → Int32) {m c k : Nat} (S : refS μ m c k) {f : Nat} (hf : f < c) {x : Int32} (hx : ¬ zfm x c) (t : Int32) {z : Int32} (hz : ¬ zin z 0 19)  : zMi l yX6_transfer cX6_transfer 7 (some .int) (zrm 5) (zK A D tc tF tL tM) A D vwCl tc ad 6 shR [.ref (ad (0)), .int (nI (f)), .int (x), .int (z), .int (t)] μ (fun r u => r = -1 ∧ u = μ) := by
  refine zM_of RX6 [(0, .ref (ad (0))), (1, .int (nI (f))), (2, .int (x)), (3, .int (z)), (4, .int (t))] (zK_ok A D tc tF tL tM) E.1 E.2 owR_ok (by decide +kernel) rfl (Nat.le_of_ble_eq_true rfl) rfl ?_
  intro pP eE sS mM aS bL mT cO X
  obtain ⟨hm, hm2, hc, h8, hk, hk4⟩ := S
  refine zr_iloadn X 3 dX6_transfer_0 rfl ?_
  refine zr_dSi [.int (z)] [] X (zK_ok A D tc tF tL tM) (c_isVintage_f E μ hz) k_633 k_634 k_7 k_635 hdX6_isVintage ⟨rfl, rfl⟩ ⟨Nat.le_of_ble_eq_true rfl, Nat.le_of_ble_eq_true rfl⟩ rfl rfl (Nat.le_of_ble_eq_true rfl) dX6_transfer_1 ?_
  refine zr_if_eq X 13 dX6_transfer_4 (by decide) (fun _ => ?_) (fun q => absurd (zq_eq0 (by omega)) q)
  refine zr_iconst X (nI (0)) dX6_transfer_13 (by decide +kernel) ?_
  refine zr_istore X [1, 2, 3, 4, 5, 0] [(0, .ref (ad (0))), (1, .int (nI (f))), (2, .int (x)), (3, .int (z)), (4, .int (t)), (5, .int (nI (0)))] dX6_transfer_14 (by decide) rfl ?_
  refine zr_aloadn X 0 dX6_transfer_16 rfl ?_
  refine zr_iloadn X 1 dX6_transfer_17 rfl ?_
  refine zr_iloadn X 2 dX6_transfer_18 rfl ?_
  refine zr_iloadn X 3 dX6_transfer_19 rfl ?_
  refine zr_dSi [.int (z)] [.int (x), .int (nI (f)), .ref (ad (0))] X (zK_ok A D tc tF tL tM) (c_isVintage_f E μ hz) k_633 k_634 k_7 k_635 hdX6_isVintage ⟨rfl, rfl⟩ ⟨Nat.le_of_ble_eq_true rfl, Nat.le_of_ble_eq_true rfl⟩ rfl rfl (Nat.le_of_ble_eq_true rfl) dX6_transfer_20 ?_
  refine zr_iload X 5 dX6_transfer_23 rfl ?_
  refine zr_iload X 4 dX6_transfer_25 rfl ?_
  refine zr_dVi (C := RX6) (ci := 6) [.int (nI (f)), .int (x), .int (nI (0)), .int (nI (0)), .int (t)] [] X (zK_ok A D tc tF tL tM) (c_noTransfer_u2 E μ (hc) h8 hf hx _ _ _) k_636 k_638 kp_4 k_7 k_639 hdX6_noTransfer ⟨rfl, rfl⟩ ⟨Nat.le_of_ble_eq_true rfl, Nat.le_of_ble_eq_true rfl⟩ (by omega) rfl rfl rfl rfl (Nat.le_of_ble_eq_true rfl) dX6_transfer_27 ?_
  refine zr_istore X [1, 2, 3, 4, 5, 6, 0] [(0, .ref (ad (0))), (1, .int (nI (f))), (2, .int (x)), (3, .int (z)), (4, .int (t)), (5, .int (nI (0))), (6, .int (-1))] dX6_transfer_30 (by decide) rfl ?_
  refine zr_iload X 6 dX6_transfer_32 rfl ?_
  refine zr_if_eq X 40 dX6_transfer_34 (by decide) (fun q => absurd q (by decide)) (fun _ => ?_)
  refine zr_iload X 6 dX6_transfer_37 rfl ?_
  exact zr_iret X dX6_transfer_39 ⟨rfl, rfl⟩

set_option maxHeartbeats 4000000 in
set_option maxRecDepth 100000 in
theorem c_transfer_u3 {l : Launch} {D : va_G} {tc : Nat → ClassId} {ad : Nat → Nat} {A : Nat → Prop} {tF tL tM : Nat} (E : zN 6 A ad) (μ : Nat → Int32) {m c k : Nat} (S : refS μ m c k) {f f2 : Nat} (hf : f < c) (hf2 : f2 < c) (t : Int32) {z : Int32} (hz : ¬ zin z 0 19)  : zMi l yX6_transfer cX6_transfer 7 (some .int) (zrm 5) (zK A D tc tF tL tM) A D vwCl tc ad 6 shR [.ref (ad (0)), .int (nI (f)), .int (nI (f2)), .int (z), .int (t)] μ (fun r u => r = -1 ∧ u = μ) := by
  refine zM_of RX6 [(0, .ref (ad (0))), (1, .int (nI (f))), (2, .int (nI (f2))), (3, .int (z)), (4, .int (t))] (zK_ok A D tc tF tL tM) E.1 E.2 owR_ok (by decide +kernel) rfl (Nat.le_of_ble_eq_true rfl) rfl ?_
  intro pP eE sS mM aS bL mT cO X
  obtain ⟨hm, hm2, hc, h8, hk, hk4⟩ := S
  refine zr_iloadn X 3 dX6_transfer_0 rfl ?_
  refine zr_dSi [.int (z)] [] X (zK_ok A D tc tF tL tM) (c_isVintage_f E μ hz) k_633 k_634 k_7 k_635 hdX6_isVintage ⟨rfl, rfl⟩ ⟨Nat.le_of_ble_eq_true rfl, Nat.le_of_ble_eq_true rfl⟩ rfl rfl (Nat.le_of_ble_eq_true rfl) dX6_transfer_1 ?_
  refine zr_if_eq X 13 dX6_transfer_4 (by decide) (fun _ => ?_) (fun q => absurd (zq_eq0 (by omega)) q)
  refine zr_iconst X (nI (0)) dX6_transfer_13 (by decide +kernel) ?_
  refine zr_istore X [1, 2, 3, 4, 5, 0] [(0, .ref (ad (0))), (1, .int (nI (f))), (2, .int (nI (f2))), (3, .int (z)), (4, .int (t)), (5, .int (nI (0)))] dX6_transfer_14 (by decide) rfl ?_
  refine zr_aloadn X 0 dX6_transfer_16 rfl ?_
  refine zr_iloadn X 1 dX6_transfer_17 rfl ?_
  refine zr_iloadn X 2 dX6_transfer_18 rfl ?_
  refine zr_iloadn X 3 dX6_transfer_19 rfl ?_
  refine zr_dSi [.int (z)] [.int (nI (f2)), .int (nI (f)), .ref (ad (0))] X (zK_ok A D tc tF tL tM) (c_isVintage_f E μ hz) k_633 k_634 k_7 k_635 hdX6_isVintage ⟨rfl, rfl⟩ ⟨Nat.le_of_ble_eq_true rfl, Nat.le_of_ble_eq_true rfl⟩ rfl rfl (Nat.le_of_ble_eq_true rfl) dX6_transfer_20 ?_
  refine zr_iload X 5 dX6_transfer_23 rfl ?_
  refine zr_iload X 4 dX6_transfer_25 rfl ?_
  refine zr_dVi (C := RX6) (ci := 6) [.int (nI (f)), .int (nI (f2)), .int (nI (0)), .int (nI (0)), .int (t)] [] X (zK_ok A D tc tF tL tM) (c_noTransfer_u3 E μ (hc) h8 hf hf2 _ _) k_636 k_638 kp_4 k_7 k_639 hdX6_noTransfer ⟨rfl, rfl⟩ ⟨Nat.le_of_ble_eq_true rfl, Nat.le_of_ble_eq_true rfl⟩ (by omega) rfl rfl rfl rfl (Nat.le_of_ble_eq_true rfl) dX6_transfer_27 ?_
  refine zr_istore X [1, 2, 3, 4, 5, 6, 0] [(0, .ref (ad (0))), (1, .int (nI (f))), (2, .int (nI (f2))), (3, .int (z)), (4, .int (t)), (5, .int (nI (0))), (6, .int (-1))] dX6_transfer_30 (by decide) rfl ?_
  refine zr_iload X 6 dX6_transfer_32 rfl ?_
  refine zr_if_eq X 40 dX6_transfer_34 (by decide) (fun q => absurd q (by decide)) (fun _ => ?_)
  refine zr_iload X 6 dX6_transfer_37 rfl ?_
  exact zr_iret X dX6_transfer_39 ⟨rfl, rfl⟩

set_option maxHeartbeats 4000000 in
set_option maxRecDepth 100000 in
theorem c_transfer_b1 {l : Launch} {D : va_G} {tc : Nat → ClassId} {ad : Nat → Nat} {A : Nat → Prop} {tF tL tM : Nat} (E : zN 6 A ad) (μ : Nat → Int32) {m c k : Nat} (S : refS μ m c k) {f f2 : Nat} (hf : f < c) (hf2 : f2 < c) {v : Nat} (hv : v ≤ 19) {t : Int32} (hx : ¬ zin t 1 9999)  : zMi l yX6_transfer cX6_transfer 7 (some .int) (zrm 5) (zK A D tc tF tL tM) A D vwCl tc ad 6 shR [.ref (ad (0)), .int (nI (f)), .int (nI (f2)), .int (nI (v)), .int (t)] μ (fun r u => r = -2 ∧ u = μ) := by
  refine zM_of RX6 [(0, .ref (ad (0))), (1, .int (nI (f))), (2, .int (nI (f2))), (3, .int (nI (v))), (4, .int (t))] (zK_ok A D tc tF tL tM) E.1 E.2 owR_ok (by decide +kernel) rfl (Nat.le_of_ble_eq_true rfl) rfl ?_
  intro pP eE sS mM aS bL mT cO X
  obtain ⟨hm, hm2, hc, h8, hk, hk4⟩ := S
  refine zr_iloadn X 3 dX6_transfer_0 rfl ?_
  refine zr_dSi [.int (nI (v))] [] X (zK_ok A D tc tF tL tM) (c_isVintage_t E μ (by omega) (by omega)) k_633 k_634 k_7 k_635 hdX6_isVintage ⟨rfl, rfl⟩ ⟨Nat.le_of_ble_eq_true rfl, Nat.le_of_ble_eq_true rfl⟩ rfl rfl (Nat.le_of_ble_eq_true rfl) dX6_transfer_1 ?_
  refine zr_if_eq X 13 dX6_transfer_4 (by decide) (fun q => absurd q (nI_ne0 (by omega) (by omega))) (fun _ => ?_)
  refine zr_iconst X (nI (0)) dX6_transfer_7 (by decide +kernel) ?_
  refine zr_iloadn X 3 dX6_transfer_8 rfl ?_
  refine zr_iadd X (nI (v)) dX6_transfer_9 ((nI_add _ _).trans (congrArg nI (by omega))) ?_
  refine zr_goto X 14 dX6_transfer_10 (by decide) ?_
  refine zr_istore X [1, 2, 3, 4, 5, 0] [(0, .ref (ad (0))), (1, .int (nI (f))), (2, .int (nI (f2))), (3, .int (nI (v))), (4, .int (t)), (5, .int (nI (v)))] dX6_transfer_14 (by decide) rfl ?_
  refine zr_aloadn X 0 dX6_transfer_16 rfl ?_
  refine zr_iloadn X 1 dX6_transfer_17 rfl ?_
  refine zr_iloadn X 2 dX6_transfer_18 rfl ?_
  refine zr_iloadn X 3 dX6_transfer_19 rfl ?_
  refine zr_dSi [.int (nI (v))] [.int (nI (f2)), .int (nI (f)), .ref (ad (0))] X (zK_ok A D tc tF tL tM) (c_isVintage_t E μ (by omega) (by omega)) k_633 k_634 k_7 k_635 hdX6_isVintage ⟨rfl, rfl⟩ ⟨Nat.le_of_ble_eq_true rfl, Nat.le_of_ble_eq_true rfl⟩ rfl rfl (Nat.le_of_ble_eq_true rfl) dX6_transfer_20 ?_
  refine zr_iload X 5 dX6_transfer_23 rfl ?_
  refine zr_iload X 4 dX6_transfer_25 rfl ?_
  refine zr_dVi (C := RX6) (ci := 6) [.int (nI (f)), .int (nI (f2)), .int (nI (1)), .int (nI (v)), .int (t)] [] X (zK_ok A D tc tF tL tM) (c_noTransfer_b1 E μ (hc) h8 hf hf2 _ hx) k_636 k_638 kp_4 k_7 k_639 hdX6_noTransfer ⟨rfl, rfl⟩ ⟨Nat.le_of_ble_eq_true rfl, Nat.le_of_ble_eq_true rfl⟩ (by omega) rfl rfl rfl rfl (Nat.le_of_ble_eq_true rfl) dX6_transfer_27 ?_
  refine zr_istore X [1, 2, 3, 4, 5, 6, 0] [(0, .ref (ad (0))), (1, .int (nI (f))), (2, .int (nI (f2))), (3, .int (nI (v))), (4, .int (t)), (5, .int (nI (v))), (6, .int (-2))] dX6_transfer_30 (by decide) rfl ?_
  refine zr_iload X 6 dX6_transfer_32 rfl ?_
  refine zr_if_eq X 40 dX6_transfer_34 (by decide) (fun q => absurd q (by decide)) (fun _ => ?_)
  refine zr_iload X 6 dX6_transfer_37 rfl ?_
  exact zr_iret X dX6_transfer_39 ⟨rfl, rfl⟩

set_option maxHeartbeats 4000000 in
set_option maxRecDepth 100000 in
theorem c_transfer_b2 {l : Launch} {D : va_G} {tc : Nat → ClassId} {ad : Nat → Nat} {A : Nat → Prop} {tF tL tM : Nat} (E : zN 6 A ad) (μ : Nat → Int32) {m c k : Nat} (S : refS μ m c k) {f : Nat} (hf : f < c) {v : Nat} (hv : v ≤ 19) {t : Nat} (ht1 : 1 ≤ t) (ht9 : t ≤ 9999)  : zMi l yX6_transfer cX6_transfer 7 (some .int) (zrm 5) (zK A D tc tF tL tM) A D vwCl tc ad 6 shR [.ref (ad (0)), .int (nI (f)), .int (nI (f)), .int (nI (v)), .int (nI (t))] μ (fun r u => r = -2 ∧ u = μ) := by
  refine zM_of RX6 [(0, .ref (ad (0))), (1, .int (nI (f))), (2, .int (nI (f))), (3, .int (nI (v))), (4, .int (nI (t)))] (zK_ok A D tc tF tL tM) E.1 E.2 owR_ok (by decide +kernel) rfl (Nat.le_of_ble_eq_true rfl) rfl ?_
  intro pP eE sS mM aS bL mT cO X
  obtain ⟨hm, hm2, hc, h8, hk, hk4⟩ := S
  refine zr_iloadn X 3 dX6_transfer_0 rfl ?_
  refine zr_dSi [.int (nI (v))] [] X (zK_ok A D tc tF tL tM) (c_isVintage_t E μ (by omega) (by omega)) k_633 k_634 k_7 k_635 hdX6_isVintage ⟨rfl, rfl⟩ ⟨Nat.le_of_ble_eq_true rfl, Nat.le_of_ble_eq_true rfl⟩ rfl rfl (Nat.le_of_ble_eq_true rfl) dX6_transfer_1 ?_
  refine zr_if_eq X 13 dX6_transfer_4 (by decide) (fun q => absurd q (nI_ne0 (by omega) (by omega))) (fun _ => ?_)
  refine zr_iconst X (nI (0)) dX6_transfer_7 (by decide +kernel) ?_
  refine zr_iloadn X 3 dX6_transfer_8 rfl ?_
  refine zr_iadd X (nI (v)) dX6_transfer_9 ((nI_add _ _).trans (congrArg nI (by omega))) ?_
  refine zr_goto X 14 dX6_transfer_10 (by decide) ?_
  refine zr_istore X [1, 2, 3, 4, 5, 0] [(0, .ref (ad (0))), (1, .int (nI (f))), (2, .int (nI (f))), (3, .int (nI (v))), (4, .int (nI (t))), (5, .int (nI (v)))] dX6_transfer_14 (by decide) rfl ?_
  refine zr_aloadn X 0 dX6_transfer_16 rfl ?_
  refine zr_iloadn X 1 dX6_transfer_17 rfl ?_
  refine zr_iloadn X 2 dX6_transfer_18 rfl ?_
  refine zr_iloadn X 3 dX6_transfer_19 rfl ?_
  refine zr_dSi [.int (nI (v))] [.int (nI (f)), .int (nI (f)), .ref (ad (0))] X (zK_ok A D tc tF tL tM) (c_isVintage_t E μ (by omega) (by omega)) k_633 k_634 k_7 k_635 hdX6_isVintage ⟨rfl, rfl⟩ ⟨Nat.le_of_ble_eq_true rfl, Nat.le_of_ble_eq_true rfl⟩ rfl rfl (Nat.le_of_ble_eq_true rfl) dX6_transfer_20 ?_
  refine zr_iload X 5 dX6_transfer_23 rfl ?_
  refine zr_iload X 4 dX6_transfer_25 rfl ?_
  refine zr_dVi (C := RX6) (ci := 6) [.int (nI (f)), .int (nI (f)), .int (nI (1)), .int (nI (v)), .int (nI (t))] [] X (zK_ok A D tc tF tL tM) (c_noTransfer_b2 E μ (hc) h8 hf ht1 ht9 _) k_636 k_638 kp_4 k_7 k_639 hdX6_noTransfer ⟨rfl, rfl⟩ ⟨Nat.le_of_ble_eq_true rfl, Nat.le_of_ble_eq_true rfl⟩ (by omega) rfl rfl rfl rfl (Nat.le_of_ble_eq_true rfl) dX6_transfer_27 ?_
  refine zr_istore X [1, 2, 3, 4, 5, 6, 0] [(0, .ref (ad (0))), (1, .int (nI (f))), (2, .int (nI (f))), (3, .int (nI (v))), (4, .int (nI (t))), (5, .int (nI (v))), (6, .int (-2))] dX6_transfer_30 (by decide) rfl ?_
  refine zr_iload X 6 dX6_transfer_32 rfl ?_
  refine zr_if_eq X 40 dX6_transfer_34 (by decide) (fun q => absurd q (by decide)) (fun _ => ?_)
  refine zr_iload X 6 dX6_transfer_37 rfl ?_
  exact zr_iret X dX6_transfer_39 ⟨rfl, rfl⟩

set_option maxHeartbeats 4000000 in
set_option maxRecDepth 100000 in
theorem c_transfer_n {l : Launch} {D : va_G} {tc : Nat → ClassId} {ad : Nat → Nat} {A : Nat → Prop} {tF tL tM : Nat} (E : zN 6 A ad) (μ : Nat → Int32) {m c k : Nat} (S : refS μ m c k) {f f2 : Nat} (hf : f < c) (hf2 : f2 < c) {v : Nat} (hv : v ≤ 19) {t : Nat} (ht1 : 1 ≤ t) (ht9 : t ≤ 9999) (hne : f ≠ f2) (h : ¬ nI t ≤ μ (32 * f + v + 7)) : zMi l yX6_transfer cX6_transfer 7 (some .int) (zrm 5) (zK A D tc tF tL tM) A D vwCl tc ad 6 shR [.ref (ad (0)), .int (nI (f)), .int (nI (f2)), .int (nI (v)), .int (nI (t))] μ (fun r u => r = -4 ∧ u = μ) := by
  refine zM_of RX6 [(0, .ref (ad (0))), (1, .int (nI (f))), (2, .int (nI (f2))), (3, .int (nI (v))), (4, .int (nI (t)))] (zK_ok A D tc tF tL tM) E.1 E.2 owR_ok (by decide +kernel) rfl (Nat.le_of_ble_eq_true rfl) rfl ?_
  intro pP eE sS mM aS bL mT cO X
  obtain ⟨hm, hm2, hc, h8, hk, hk4⟩ := S
  refine zr_iloadn X 3 dX6_transfer_0 rfl ?_
  refine zr_dSi [.int (nI (v))] [] X (zK_ok A D tc tF tL tM) (c_isVintage_t E μ (by omega) (by omega)) k_633 k_634 k_7 k_635 hdX6_isVintage ⟨rfl, rfl⟩ ⟨Nat.le_of_ble_eq_true rfl, Nat.le_of_ble_eq_true rfl⟩ rfl rfl (Nat.le_of_ble_eq_true rfl) dX6_transfer_1 ?_
  refine zr_if_eq X 13 dX6_transfer_4 (by decide) (fun q => absurd q (nI_ne0 (by omega) (by omega))) (fun _ => ?_)
  refine zr_iconst X (nI (0)) dX6_transfer_7 (by decide +kernel) ?_
  refine zr_iloadn X 3 dX6_transfer_8 rfl ?_
  refine zr_iadd X (nI (v)) dX6_transfer_9 ((nI_add _ _).trans (congrArg nI (by omega))) ?_
  refine zr_goto X 14 dX6_transfer_10 (by decide) ?_
  refine zr_istore X [1, 2, 3, 4, 5, 0] [(0, .ref (ad (0))), (1, .int (nI (f))), (2, .int (nI (f2))), (3, .int (nI (v))), (4, .int (nI (t))), (5, .int (nI (v)))] dX6_transfer_14 (by decide) rfl ?_
  refine zr_aloadn X 0 dX6_transfer_16 rfl ?_
  refine zr_iloadn X 1 dX6_transfer_17 rfl ?_
  refine zr_iloadn X 2 dX6_transfer_18 rfl ?_
  refine zr_iloadn X 3 dX6_transfer_19 rfl ?_
  refine zr_dSi [.int (nI (v))] [.int (nI (f2)), .int (nI (f)), .ref (ad (0))] X (zK_ok A D tc tF tL tM) (c_isVintage_t E μ (by omega) (by omega)) k_633 k_634 k_7 k_635 hdX6_isVintage ⟨rfl, rfl⟩ ⟨Nat.le_of_ble_eq_true rfl, Nat.le_of_ble_eq_true rfl⟩ rfl rfl (Nat.le_of_ble_eq_true rfl) dX6_transfer_20 ?_
  refine zr_iload X 5 dX6_transfer_23 rfl ?_
  refine zr_iload X 4 dX6_transfer_25 rfl ?_
  refine zr_dVi (C := RX6) (ci := 6) [.int (nI (f)), .int (nI (f2)), .int (nI (1)), .int (nI (v)), .int (nI (t))] [] X (zK_ok A D tc tF tL tM) (c_noTransfer_n E μ (w := v) (hc) h8 hf hf2 ht1 ht9 (by omega) hne h) k_636 k_638 kp_4 k_7 k_639 hdX6_noTransfer ⟨rfl, rfl⟩ ⟨Nat.le_of_ble_eq_true rfl, Nat.le_of_ble_eq_true rfl⟩ (by omega) rfl rfl rfl rfl (Nat.le_of_ble_eq_true rfl) dX6_transfer_27 ?_
  refine zr_istore X [1, 2, 3, 4, 5, 6, 0] [(0, .ref (ad (0))), (1, .int (nI (f))), (2, .int (nI (f2))), (3, .int (nI (v))), (4, .int (nI (t))), (5, .int (nI (v))), (6, .int (-4))] dX6_transfer_30 (by decide) rfl ?_
  refine zr_iload X 6 dX6_transfer_32 rfl ?_
  refine zr_if_eq X 40 dX6_transfer_34 (by decide) (fun q => absurd q (by decide)) (fun _ => ?_)
  refine zr_iload X 6 dX6_transfer_37 rfl ?_
  exact zr_iret X dX6_transfer_39 ⟨rfl, rfl⟩

set_option maxHeartbeats 4000000 in
set_option maxRecDepth 100000 in
theorem c_transfer_ok {l : Launch} {D : va_G} {tc : Nat → ClassId} {ad : Nat → Nat} {A : Nat → Prop} {tF tL tM : Nat} (E : zN 6 A ad) (μ : Nat → Int32) {m c k : Nat} (S : refS μ m c k) {f f2 : Nat} (hf : f < c) (hf2 : f2 < c) {v : Nat} (hv : v ≤ 19) {t : Nat} (ht1 : 1 ≤ t) (ht9 : t ≤ 9999) (hne : f ≠ f2) (h : nI t ≤ μ (32 * f + v + 7)) : zMi l yX6_transfer cX6_transfer 7 (some .int) (zrm 5) (zK A D tc tF tL tM) A D vwCl tc ad 6 shR [.ref (ad (0)), .int (nI (f)), .int (nI (f2)), .int (nI (v)), .int (nI (t))] μ (fun r u => r = μ (32 * f + v + 7) - nI (t) ∧ u = (upd (upd (zrec μ (0) (k)) (32 * f + v + 7) (μ (32 * f + v + 7) - nI (t))) (32 * f2 + v + 7) (μ (32 * f2 + v + 7) + nI (t)))) := by
  refine zM_of RX6 [(0, .ref (ad (0))), (1, .int (nI (f))), (2, .int (nI (f2))), (3, .int (nI (v))), (4, .int (nI (t)))] (zK_ok A D tc tF tL tM) E.1 E.2 owR_ok (by decide +kernel) rfl (Nat.le_of_ble_eq_true rfl) rfl ?_
  intro pP eE sS mM aS bL mT cO X
  obtain ⟨hm, hm2, hc, h8, hk, hk4⟩ := S
  refine zr_iloadn X 3 dX6_transfer_0 rfl ?_
  refine zr_dSi [.int (nI (v))] [] X (zK_ok A D tc tF tL tM) (c_isVintage_t E μ (by omega) (by omega)) k_633 k_634 k_7 k_635 hdX6_isVintage ⟨rfl, rfl⟩ ⟨Nat.le_of_ble_eq_true rfl, Nat.le_of_ble_eq_true rfl⟩ rfl rfl (Nat.le_of_ble_eq_true rfl) dX6_transfer_1 ?_
  refine zr_if_eq X 13 dX6_transfer_4 (by decide) (fun q => absurd q (nI_ne0 (by omega) (by omega))) (fun _ => ?_)
  refine zr_iconst X (nI (0)) dX6_transfer_7 (by decide +kernel) ?_
  refine zr_iloadn X 3 dX6_transfer_8 rfl ?_
  refine zr_iadd X (nI (v)) dX6_transfer_9 ((nI_add _ _).trans (congrArg nI (by omega))) ?_
  refine zr_goto X 14 dX6_transfer_10 (by decide) ?_
  refine zr_istore X [1, 2, 3, 4, 5, 0] [(0, .ref (ad (0))), (1, .int (nI (f))), (2, .int (nI (f2))), (3, .int (nI (v))), (4, .int (nI (t))), (5, .int (nI (v)))] dX6_transfer_14 (by decide) rfl ?_
  refine zr_aloadn X 0 dX6_transfer_16 rfl ?_
  refine zr_iloadn X 1 dX6_transfer_17 rfl ?_
  refine zr_iloadn X 2 dX6_transfer_18 rfl ?_
  refine zr_iloadn X 3 dX6_transfer_19 rfl ?_
  refine zr_dSi [.int (nI (v))] [.int (nI (f2)), .int (nI (f)), .ref (ad (0))] X (zK_ok A D tc tF tL tM) (c_isVintage_t E μ (by omega) (by omega)) k_633 k_634 k_7 k_635 hdX6_isVintage ⟨rfl, rfl⟩ ⟨Nat.le_of_ble_eq_true rfl, Nat.le_of_ble_eq_true rfl⟩ rfl rfl (Nat.le_of_ble_eq_true rfl) dX6_transfer_20 ?_
  refine zr_iload X 5 dX6_transfer_23 rfl ?_
  refine zr_iload X 4 dX6_transfer_25 rfl ?_
  refine zr_dVi (C := RX6) (ci := 6) [.int (nI (f)), .int (nI (f2)), .int (nI (1)), .int (nI (v)), .int (nI (t))] [] X (zK_ok A D tc tF tL tM) (c_noTransfer_0 E μ (w := v) (hc) h8 hf hf2 ht1 ht9 (by omega) hne h) k_636 k_638 kp_4 k_7 k_639 hdX6_noTransfer ⟨rfl, rfl⟩ ⟨Nat.le_of_ble_eq_true rfl, Nat.le_of_ble_eq_true rfl⟩ (by omega) rfl rfl rfl rfl (Nat.le_of_ble_eq_true rfl) dX6_transfer_27 ?_
  refine zr_istore X [1, 2, 3, 4, 5, 6, 0] [(0, .ref (ad (0))), (1, .int (nI (f))), (2, .int (nI (f2))), (3, .int (nI (v))), (4, .int (nI (t))), (5, .int (nI (v))), (6, .int (nI (0)))] dX6_transfer_30 (by decide) rfl ?_
  refine zr_iload X 6 dX6_transfer_32 rfl ?_
  refine zr_if_eq X 40 dX6_transfer_34 (by decide) (fun _ => ?_) (fun q => absurd (zq_eq0 (by omega)) q)
  refine zr_aloadn X 0 dX6_transfer_40 rfl ?_
  refine zr_iconst X (nI (0)) dX6_transfer_41 (by decide +kernel) ?_
  refine zr_dVv (C := RX6) (ci := 6) [.int (nI (0))] [] X (zK_ok A D tc tF tL tM) (c_record E μ (hk) hk4 (by omega)) k_589 k_591 kp_1 k_7 k_592 hdX6_record ⟨rfl, rfl⟩ ⟨Nat.le_of_ble_eq_true rfl, Nat.le_of_ble_eq_true rfl⟩ (by omega) rfl rfl rfl rfl (Nat.le_of_ble_eq_true rfl) dX6_transfer_42 ?_
  refine zr_aloadn X 0 dX6_transfer_45 rfl ?_
  refine zr_iloadn X 1 dX6_transfer_46 rfl ?_
  refine zr_iloadn X 2 dX6_transfer_47 rfl ?_
  refine zr_iload X 5 dX6_transfer_48 rfl ?_
  refine zr_iload X 4 dX6_transfer_50 rfl ?_
  refine zr_dVi (C := RX6) (ci := 6) [.int (nI (f)), .int (nI (f2)), .int (nI (v)), .int (nI (t))] [] X (zK_ok A D tc tF tL tM) (c_doT E (zrec μ (0) (k)) (w := v) (t := nI (t)) ((zrec_out (by omega) (by omega) hk4).trans (hc)) h8 hf hf2 (by omega) hne (pa := 32 * f + v + 7) (pb := 32 * f2 + v + 7) (by omega) (by omega) (zrec_out (by omega) (by omega) hk4) (zrec_out (by omega) (by omega) hk4)) k_640 k_642 kp_5 k_7 k_643 hdX6_doTransfer ⟨rfl, rfl⟩ ⟨Nat.le_of_ble_eq_true rfl, Nat.le_of_ble_eq_true rfl⟩ (by omega) rfl rfl rfl rfl (Nat.le_of_ble_eq_true rfl) dX6_transfer_52 ?_
  exact zr_iret X dX6_transfer_55 ⟨rfl, rfl⟩

set_option maxHeartbeats 4000000 in
set_option maxRecDepth 100000 in
theorem c_transferOffsets_u1 {l : Launch} {D : va_G} {tc : Nat → ClassId} {ad : Nat → Nat} {A : Nat → Prop} {tF tL tM : Nat} (E : zN 6 A ad) (μ : Nat → Int32) {m c k : Nat} (S : refS μ m c k) {x : Int32} (hx : ¬ zfm x c) (to : Int32) (t : Int32) {g : Nat} (hg : g ≤ 2)  : zMi l yX6_transferOffsets cX6_transferOffsets 7 (some .int) (zrm 5) (zK A D tc tF tL tM) A D vwCl tc ad 6 shR [.ref (ad (0)), .int (x), .int (to), .int (nI (g)), .int (t)] μ (fun r u => r = -1 ∧ u = μ) := by
  refine zM_of RX6 [(0, .ref (ad (0))), (1, .int (x)), (2, .int (to)), (3, .int (nI (g))), (4, .int (t))] (zK_ok A D tc tF tL tM) E.1 E.2 owR_ok (by decide +kernel) rfl (Nat.le_of_ble_eq_true rfl) rfl ?_
  intro pP eE sS mM aS bL mT cO X
  obtain ⟨hm, hm2, hc, h8, hk, hk4⟩ := S
  refine zr_iloadn X 3 dX6_transferOffsets_0 rfl ?_
  refine zr_dSi [.int (nI (g))] [] X (zK_ok A D tc tF tL tM) (c_isGrade_t E μ (by omega) (by omega)) k_626 k_627 k_7 k_628 hdX6_isGrade ⟨rfl, rfl⟩ ⟨Nat.le_of_ble_eq_true rfl, Nat.le_of_ble_eq_true rfl⟩ rfl rfl (Nat.le_of_ble_eq_true rfl) dX6_transferOffsets_1 ?_
  refine zr_if_eq X 14 dX6_transferOffsets_4 (by decide) (fun q => absurd q (nI_ne0 (by omega) (by omega))) (fun _ => ?_)
  refine zr_bipush X (nI (20)) dX6_transferOffsets_7 (by decide +kernel) ?_
  refine zr_iloadn X 3 dX6_transferOffsets_9 rfl ?_
  refine zr_iadd X (nI (g + 20)) dX6_transferOffsets_10 ((nI_add _ _).trans (congrArg nI (by omega))) ?_
  refine zr_goto X 15 dX6_transferOffsets_11 (by decide) ?_
  refine zr_istore X [1, 2, 3, 4, 5, 0] [(0, .ref (ad (0))), (1, .int (x)), (2, .int (to)), (3, .int (nI (g))), (4, .int (t)), (5, .int (nI (g + 20)))] dX6_transferOffsets_15 (by decide) rfl ?_
  refine zr_aloadn X 0 dX6_transferOffsets_17 rfl ?_
  refine zr_iloadn X 1 dX6_transferOffsets_18 rfl ?_
  refine zr_iloadn X 2 dX6_transferOffsets_19 rfl ?_
  refine zr_iloadn X 3 dX6_transferOffsets_20 rfl ?_
  refine zr_dSi [.int (nI (g))] [.int (to), .int (x), .ref (ad (0))] X (zK_ok A D tc tF tL tM) (c_isGrade_t E μ (by omega) (by omega)) k_626 k_627 k_7 k_628 hdX6_isGrade ⟨rfl, rfl⟩ ⟨Nat.le_of_ble_eq_true rfl, Nat.le_of_ble_eq_true rfl⟩ rfl rfl (Nat.le_of_ble_eq_true rfl) dX6_transferOffsets_21 ?_
  refine zr_iload X 5 dX6_transferOffsets_24 rfl ?_
  refine zr_iload X 4 dX6_transferOffsets_26 rfl ?_
  refine zr_dVi (C := RX6) (ci := 6) [.int (x), .int (to), .int (nI (1)), .int (nI (g + 20)), .int (t)] [] X (zK_ok A D tc tF tL tM) (c_noTransfer_u1 E μ (hc) h8 hx _ _ _ _) k_636 k_638 kp_4 k_7 k_639 hdX6_noTransfer ⟨rfl, rfl⟩ ⟨Nat.le_of_ble_eq_true rfl, Nat.le_of_ble_eq_true rfl⟩ (by omega) rfl rfl rfl rfl (Nat.le_of_ble_eq_true rfl) dX6_transferOffsets_28 ?_
  refine zr_istore X [1, 2, 3, 4, 5, 6, 0] [(0, .ref (ad (0))), (1, .int (x)), (2, .int (to)), (3, .int (nI (g))), (4, .int (t)), (5, .int (nI (g + 20))), (6, .int (-1))] dX6_transferOffsets_31 (by decide) rfl ?_
  refine zr_iload X 6 dX6_transferOffsets_33 rfl ?_
  refine zr_if_eq X 41 dX6_transferOffsets_35 (by decide) (fun q => absurd q (by decide)) (fun _ => ?_)
  refine zr_iload X 6 dX6_transferOffsets_38 rfl ?_
  exact zr_iret X dX6_transferOffsets_40 ⟨rfl, rfl⟩

set_option maxHeartbeats 4000000 in
set_option maxRecDepth 100000 in
theorem c_transferOffsets_u2 {l : Launch} {D : va_G} {tc : Nat → ClassId} {ad : Nat → Nat} {A : Nat → Prop} {tF tL tM : Nat} (E : zN 6 A ad) (μ : Nat → Int32) {m c k : Nat} (S : refS μ m c k) {f : Nat} (hf : f < c) {x : Int32} (hx : ¬ zfm x c) (t : Int32) {g : Nat} (hg : g ≤ 2)  : zMi l yX6_transferOffsets cX6_transferOffsets 7 (some .int) (zrm 5) (zK A D tc tF tL tM) A D vwCl tc ad 6 shR [.ref (ad (0)), .int (nI (f)), .int (x), .int (nI (g)), .int (t)] μ (fun r u => r = -1 ∧ u = μ) := by
  refine zM_of RX6 [(0, .ref (ad (0))), (1, .int (nI (f))), (2, .int (x)), (3, .int (nI (g))), (4, .int (t))] (zK_ok A D tc tF tL tM) E.1 E.2 owR_ok (by decide +kernel) rfl (Nat.le_of_ble_eq_true rfl) rfl ?_
  intro pP eE sS mM aS bL mT cO X
  obtain ⟨hm, hm2, hc, h8, hk, hk4⟩ := S
  refine zr_iloadn X 3 dX6_transferOffsets_0 rfl ?_
  refine zr_dSi [.int (nI (g))] [] X (zK_ok A D tc tF tL tM) (c_isGrade_t E μ (by omega) (by omega)) k_626 k_627 k_7 k_628 hdX6_isGrade ⟨rfl, rfl⟩ ⟨Nat.le_of_ble_eq_true rfl, Nat.le_of_ble_eq_true rfl⟩ rfl rfl (Nat.le_of_ble_eq_true rfl) dX6_transferOffsets_1 ?_
  refine zr_if_eq X 14 dX6_transferOffsets_4 (by decide) (fun q => absurd q (nI_ne0 (by omega) (by omega))) (fun _ => ?_)
  refine zr_bipush X (nI (20)) dX6_transferOffsets_7 (by decide +kernel) ?_
  refine zr_iloadn X 3 dX6_transferOffsets_9 rfl ?_
  refine zr_iadd X (nI (g + 20)) dX6_transferOffsets_10 ((nI_add _ _).trans (congrArg nI (by omega))) ?_
  refine zr_goto X 15 dX6_transferOffsets_11 (by decide) ?_
  refine zr_istore X [1, 2, 3, 4, 5, 0] [(0, .ref (ad (0))), (1, .int (nI (f))), (2, .int (x)), (3, .int (nI (g))), (4, .int (t)), (5, .int (nI (g + 20)))] dX6_transferOffsets_15 (by decide) rfl ?_
  refine zr_aloadn X 0 dX6_transferOffsets_17 rfl ?_
  refine zr_iloadn X 1 dX6_transferOffsets_18 rfl ?_
  refine zr_iloadn X 2 dX6_transferOffsets_19 rfl ?_
  refine zr_iloadn X 3 dX6_transferOffsets_20 rfl ?_
  refine zr_dSi [.int (nI (g))] [.int (x), .int (nI (f)), .ref (ad (0))] X (zK_ok A D tc tF tL tM) (c_isGrade_t E μ (by omega) (by omega)) k_626 k_627 k_7 k_628 hdX6_isGrade ⟨rfl, rfl⟩ ⟨Nat.le_of_ble_eq_true rfl, Nat.le_of_ble_eq_true rfl⟩ rfl rfl (Nat.le_of_ble_eq_true rfl) dX6_transferOffsets_21 ?_
  refine zr_iload X 5 dX6_transferOffsets_24 rfl ?_
  refine zr_iload X 4 dX6_transferOffsets_26 rfl ?_
  refine zr_dVi (C := RX6) (ci := 6) [.int (nI (f)), .int (x), .int (nI (1)), .int (nI (g + 20)), .int (t)] [] X (zK_ok A D tc tF tL tM) (c_noTransfer_u2 E μ (hc) h8 hf hx _ _ _) k_636 k_638 kp_4 k_7 k_639 hdX6_noTransfer ⟨rfl, rfl⟩ ⟨Nat.le_of_ble_eq_true rfl, Nat.le_of_ble_eq_true rfl⟩ (by omega) rfl rfl rfl rfl (Nat.le_of_ble_eq_true rfl) dX6_transferOffsets_28 ?_
  refine zr_istore X [1, 2, 3, 4, 5, 6, 0] [(0, .ref (ad (0))), (1, .int (nI (f))), (2, .int (x)), (3, .int (nI (g))), (4, .int (t)), (5, .int (nI (g + 20))), (6, .int (-1))] dX6_transferOffsets_31 (by decide) rfl ?_
  refine zr_iload X 6 dX6_transferOffsets_33 rfl ?_
  refine zr_if_eq X 41 dX6_transferOffsets_35 (by decide) (fun q => absurd q (by decide)) (fun _ => ?_)
  refine zr_iload X 6 dX6_transferOffsets_38 rfl ?_
  exact zr_iret X dX6_transferOffsets_40 ⟨rfl, rfl⟩

set_option maxHeartbeats 4000000 in
set_option maxRecDepth 100000 in
theorem c_transferOffsets_u1z {l : Launch} {D : va_G} {tc : Nat → ClassId} {ad : Nat → Nat} {A : Nat → Prop} {tF tL tM : Nat} (E : zN 6 A ad) (μ : Nat → Int32) {m c k : Nat} (S : refS μ m c k) {x : Int32} (hx : ¬ zfm x c) (to : Int32) (t : Int32) {z : Int32} (hz : ¬ zin z 0 2)  : zMi l yX6_transferOffsets cX6_transferOffsets 7 (some .int) (zrm 5) (zK A D tc tF tL tM) A D vwCl tc ad 6 shR [.ref (ad (0)), .int (x), .int (to), .int (z), .int (t)] μ (fun r u => r = -1 ∧ u = μ) := by
  refine zM_of RX6 [(0, .ref (ad (0))), (1, .int (x)), (2, .int (to)), (3, .int (z)), (4, .int (t))] (zK_ok A D tc tF tL tM) E.1 E.2 owR_ok (by decide +kernel) rfl (Nat.le_of_ble_eq_true rfl) rfl ?_
  intro pP eE sS mM aS bL mT cO X
  obtain ⟨hm, hm2, hc, h8, hk, hk4⟩ := S
  refine zr_iloadn X 3 dX6_transferOffsets_0 rfl ?_
  refine zr_dSi [.int (z)] [] X (zK_ok A D tc tF tL tM) (c_isGrade_f E μ hz) k_626 k_627 k_7 k_628 hdX6_isGrade ⟨rfl, rfl⟩ ⟨Nat.le_of_ble_eq_true rfl, Nat.le_of_ble_eq_true rfl⟩ rfl rfl (Nat.le_of_ble_eq_true rfl) dX6_transferOffsets_1 ?_
  refine zr_if_eq X 14 dX6_transferOffsets_4 (by decide) (fun _ => ?_) (fun q => absurd (zq_eq0 (by omega)) q)
  refine zr_iconst X (nI (0)) dX6_transferOffsets_14 (by decide +kernel) ?_
  refine zr_istore X [1, 2, 3, 4, 5, 0] [(0, .ref (ad (0))), (1, .int (x)), (2, .int (to)), (3, .int (z)), (4, .int (t)), (5, .int (nI (0)))] dX6_transferOffsets_15 (by decide) rfl ?_
  refine zr_aloadn X 0 dX6_transferOffsets_17 rfl ?_
  refine zr_iloadn X 1 dX6_transferOffsets_18 rfl ?_
  refine zr_iloadn X 2 dX6_transferOffsets_19 rfl ?_
  refine zr_iloadn X 3 dX6_transferOffsets_20 rfl ?_
  refine zr_dSi [.int (z)] [.int (to), .int (x), .ref (ad (0))] X (zK_ok A D tc tF tL tM) (c_isGrade_f E μ hz) k_626 k_627 k_7 k_628 hdX6_isGrade ⟨rfl, rfl⟩ ⟨Nat.le_of_ble_eq_true rfl, Nat.le_of_ble_eq_true rfl⟩ rfl rfl (Nat.le_of_ble_eq_true rfl) dX6_transferOffsets_21 ?_
  refine zr_iload X 5 dX6_transferOffsets_24 rfl ?_
  refine zr_iload X 4 dX6_transferOffsets_26 rfl ?_
  refine zr_dVi (C := RX6) (ci := 6) [.int (x), .int (to), .int (nI (0)), .int (nI (0)), .int (t)] [] X (zK_ok A D tc tF tL tM) (c_noTransfer_u1 E μ (hc) h8 hx _ _ _ _) k_636 k_638 kp_4 k_7 k_639 hdX6_noTransfer ⟨rfl, rfl⟩ ⟨Nat.le_of_ble_eq_true rfl, Nat.le_of_ble_eq_true rfl⟩ (by omega) rfl rfl rfl rfl (Nat.le_of_ble_eq_true rfl) dX6_transferOffsets_28 ?_
  refine zr_istore X [1, 2, 3, 4, 5, 6, 0] [(0, .ref (ad (0))), (1, .int (x)), (2, .int (to)), (3, .int (z)), (4, .int (t)), (5, .int (nI (0))), (6, .int (-1))] dX6_transferOffsets_31 (by decide) rfl ?_
  refine zr_iload X 6 dX6_transferOffsets_33 rfl ?_
  refine zr_if_eq X 41 dX6_transferOffsets_35 (by decide) (fun q => absurd q (by decide)) (fun _ => ?_)
  refine zr_iload X 6 dX6_transferOffsets_38 rfl ?_
  exact zr_iret X dX6_transferOffsets_40 ⟨rfl, rfl⟩

set_option maxHeartbeats 4000000 in
set_option maxRecDepth 100000 in
theorem c_transferOffsets_u2z {l : Launch} {D : va_G} {tc : Nat → ClassId} {ad : Nat → Nat} {A : Nat → Prop} {tF tL tM : Nat} (E : zN 6 A ad) (μ : Nat → Int32) {m c k : Nat} (S : refS μ m c k) {f : Nat} (hf : f < c) {x : Int32} (hx : ¬ zfm x c) (t : Int32) {z : Int32} (hz : ¬ zin z 0 2)  : zMi l yX6_transferOffsets cX6_transferOffsets 7 (some .int) (zrm 5) (zK A D tc tF tL tM) A D vwCl tc ad 6 shR [.ref (ad (0)), .int (nI (f)), .int (x), .int (z), .int (t)] μ (fun r u => r = -1 ∧ u = μ) := by
  refine zM_of RX6 [(0, .ref (ad (0))), (1, .int (nI (f))), (2, .int (x)), (3, .int (z)), (4, .int (t))] (zK_ok A D tc tF tL tM) E.1 E.2 owR_ok (by decide +kernel) rfl (Nat.le_of_ble_eq_true rfl) rfl ?_
  intro pP eE sS mM aS bL mT cO X
  obtain ⟨hm, hm2, hc, h8, hk, hk4⟩ := S
  refine zr_iloadn X 3 dX6_transferOffsets_0 rfl ?_
  refine zr_dSi [.int (z)] [] X (zK_ok A D tc tF tL tM) (c_isGrade_f E μ hz) k_626 k_627 k_7 k_628 hdX6_isGrade ⟨rfl, rfl⟩ ⟨Nat.le_of_ble_eq_true rfl, Nat.le_of_ble_eq_true rfl⟩ rfl rfl (Nat.le_of_ble_eq_true rfl) dX6_transferOffsets_1 ?_
  refine zr_if_eq X 14 dX6_transferOffsets_4 (by decide) (fun _ => ?_) (fun q => absurd (zq_eq0 (by omega)) q)
  refine zr_iconst X (nI (0)) dX6_transferOffsets_14 (by decide +kernel) ?_
  refine zr_istore X [1, 2, 3, 4, 5, 0] [(0, .ref (ad (0))), (1, .int (nI (f))), (2, .int (x)), (3, .int (z)), (4, .int (t)), (5, .int (nI (0)))] dX6_transferOffsets_15 (by decide) rfl ?_
  refine zr_aloadn X 0 dX6_transferOffsets_17 rfl ?_
  refine zr_iloadn X 1 dX6_transferOffsets_18 rfl ?_
  refine zr_iloadn X 2 dX6_transferOffsets_19 rfl ?_
  refine zr_iloadn X 3 dX6_transferOffsets_20 rfl ?_
  refine zr_dSi [.int (z)] [.int (x), .int (nI (f)), .ref (ad (0))] X (zK_ok A D tc tF tL tM) (c_isGrade_f E μ hz) k_626 k_627 k_7 k_628 hdX6_isGrade ⟨rfl, rfl⟩ ⟨Nat.le_of_ble_eq_true rfl, Nat.le_of_ble_eq_true rfl⟩ rfl rfl (Nat.le_of_ble_eq_true rfl) dX6_transferOffsets_21 ?_
  refine zr_iload X 5 dX6_transferOffsets_24 rfl ?_
  refine zr_iload X 4 dX6_transferOffsets_26 rfl ?_
  refine zr_dVi (C := RX6) (ci := 6) [.int (nI (f)), .int (x), .int (nI (0)), .int (nI (0)), .int (t)] [] X (zK_ok A D tc tF tL tM) (c_noTransfer_u2 E μ (hc) h8 hf hx _ _ _) k_636 k_638 kp_4 k_7 k_639 hdX6_noTransfer ⟨rfl, rfl⟩ ⟨Nat.le_of_ble_eq_true rfl, Nat.le_of_ble_eq_true rfl⟩ (by omega) rfl rfl rfl rfl (Nat.le_of_ble_eq_true rfl) dX6_transferOffsets_28 ?_
  refine zr_istore X [1, 2, 3, 4, 5, 6, 0] [(0, .ref (ad (0))), (1, .int (nI (f))), (2, .int (x)), (3, .int (z)), (4, .int (t)), (5, .int (nI (0))), (6, .int (-1))] dX6_transferOffsets_31 (by decide) rfl ?_
  refine zr_iload X 6 dX6_transferOffsets_33 rfl ?_
  refine zr_if_eq X 41 dX6_transferOffsets_35 (by decide) (fun q => absurd q (by decide)) (fun _ => ?_)
  refine zr_iload X 6 dX6_transferOffsets_38 rfl ?_
  exact zr_iret X dX6_transferOffsets_40 ⟨rfl, rfl⟩

set_option maxHeartbeats 4000000 in
set_option maxRecDepth 100000 in
theorem c_transferOffsets_u3 {l : Launch} {D : va_G} {tc : Nat → ClassId} {ad : Nat → Nat} {A : Nat → Prop} {tF tL tM : Nat} (E : zN 6 A ad) (μ : Nat → Int32) {m c k : Nat} (S : refS μ m c k) {f f2 : Nat} (hf : f < c) (hf2 : f2 < c) (t : Int32) {z : Int32} (hz : ¬ zin z 0 2)  : zMi l yX6_transferOffsets cX6_transferOffsets 7 (some .int) (zrm 5) (zK A D tc tF tL tM) A D vwCl tc ad 6 shR [.ref (ad (0)), .int (nI (f)), .int (nI (f2)), .int (z), .int (t)] μ (fun r u => r = -1 ∧ u = μ) := by
  refine zM_of RX6 [(0, .ref (ad (0))), (1, .int (nI (f))), (2, .int (nI (f2))), (3, .int (z)), (4, .int (t))] (zK_ok A D tc tF tL tM) E.1 E.2 owR_ok (by decide +kernel) rfl (Nat.le_of_ble_eq_true rfl) rfl ?_
  intro pP eE sS mM aS bL mT cO X
  obtain ⟨hm, hm2, hc, h8, hk, hk4⟩ := S
  refine zr_iloadn X 3 dX6_transferOffsets_0 rfl ?_
  refine zr_dSi [.int (z)] [] X (zK_ok A D tc tF tL tM) (c_isGrade_f E μ hz) k_626 k_627 k_7 k_628 hdX6_isGrade ⟨rfl, rfl⟩ ⟨Nat.le_of_ble_eq_true rfl, Nat.le_of_ble_eq_true rfl⟩ rfl rfl (Nat.le_of_ble_eq_true rfl) dX6_transferOffsets_1 ?_
  refine zr_if_eq X 14 dX6_transferOffsets_4 (by decide) (fun _ => ?_) (fun q => absurd (zq_eq0 (by omega)) q)
  refine zr_iconst X (nI (0)) dX6_transferOffsets_14 (by decide +kernel) ?_
  refine zr_istore X [1, 2, 3, 4, 5, 0] [(0, .ref (ad (0))), (1, .int (nI (f))), (2, .int (nI (f2))), (3, .int (z)), (4, .int (t)), (5, .int (nI (0)))] dX6_transferOffsets_15 (by decide) rfl ?_
  refine zr_aloadn X 0 dX6_transferOffsets_17 rfl ?_
  refine zr_iloadn X 1 dX6_transferOffsets_18 rfl ?_
  refine zr_iloadn X 2 dX6_transferOffsets_19 rfl ?_
  refine zr_iloadn X 3 dX6_transferOffsets_20 rfl ?_
  refine zr_dSi [.int (z)] [.int (nI (f2)), .int (nI (f)), .ref (ad (0))] X (zK_ok A D tc tF tL tM) (c_isGrade_f E μ hz) k_626 k_627 k_7 k_628 hdX6_isGrade ⟨rfl, rfl⟩ ⟨Nat.le_of_ble_eq_true rfl, Nat.le_of_ble_eq_true rfl⟩ rfl rfl (Nat.le_of_ble_eq_true rfl) dX6_transferOffsets_21 ?_
  refine zr_iload X 5 dX6_transferOffsets_24 rfl ?_
  refine zr_iload X 4 dX6_transferOffsets_26 rfl ?_
  refine zr_dVi (C := RX6) (ci := 6) [.int (nI (f)), .int (nI (f2)), .int (nI (0)), .int (nI (0)), .int (t)] [] X (zK_ok A D tc tF tL tM) (c_noTransfer_u3 E μ (hc) h8 hf hf2 _ _) k_636 k_638 kp_4 k_7 k_639 hdX6_noTransfer ⟨rfl, rfl⟩ ⟨Nat.le_of_ble_eq_true rfl, Nat.le_of_ble_eq_true rfl⟩ (by omega) rfl rfl rfl rfl (Nat.le_of_ble_eq_true rfl) dX6_transferOffsets_28 ?_
  refine zr_istore X [1, 2, 3, 4, 5, 6, 0] [(0, .ref (ad (0))), (1, .int (nI (f))), (2, .int (nI (f2))), (3, .int (z)), (4, .int (t)), (5, .int (nI (0))), (6, .int (-1))] dX6_transferOffsets_31 (by decide) rfl ?_
  refine zr_iload X 6 dX6_transferOffsets_33 rfl ?_
  refine zr_if_eq X 41 dX6_transferOffsets_35 (by decide) (fun q => absurd q (by decide)) (fun _ => ?_)
  refine zr_iload X 6 dX6_transferOffsets_38 rfl ?_
  exact zr_iret X dX6_transferOffsets_40 ⟨rfl, rfl⟩

set_option maxHeartbeats 4000000 in
set_option maxRecDepth 100000 in
theorem c_transferOffsets_b1 {l : Launch} {D : va_G} {tc : Nat → ClassId} {ad : Nat → Nat} {A : Nat → Prop} {tF tL tM : Nat} (E : zN 6 A ad) (μ : Nat → Int32) {m c k : Nat} (S : refS μ m c k) {f f2 : Nat} (hf : f < c) (hf2 : f2 < c) {g : Nat} (hg : g ≤ 2) {t : Int32} (hx : ¬ zin t 1 9999)  : zMi l yX6_transferOffsets cX6_transferOffsets 7 (some .int) (zrm 5) (zK A D tc tF tL tM) A D vwCl tc ad 6 shR [.ref (ad (0)), .int (nI (f)), .int (nI (f2)), .int (nI (g)), .int (t)] μ (fun r u => r = -2 ∧ u = μ) := by
  refine zM_of RX6 [(0, .ref (ad (0))), (1, .int (nI (f))), (2, .int (nI (f2))), (3, .int (nI (g))), (4, .int (t))] (zK_ok A D tc tF tL tM) E.1 E.2 owR_ok (by decide +kernel) rfl (Nat.le_of_ble_eq_true rfl) rfl ?_
  intro pP eE sS mM aS bL mT cO X
  obtain ⟨hm, hm2, hc, h8, hk, hk4⟩ := S
  refine zr_iloadn X 3 dX6_transferOffsets_0 rfl ?_
  refine zr_dSi [.int (nI (g))] [] X (zK_ok A D tc tF tL tM) (c_isGrade_t E μ (by omega) (by omega)) k_626 k_627 k_7 k_628 hdX6_isGrade ⟨rfl, rfl⟩ ⟨Nat.le_of_ble_eq_true rfl, Nat.le_of_ble_eq_true rfl⟩ rfl rfl (Nat.le_of_ble_eq_true rfl) dX6_transferOffsets_1 ?_
  refine zr_if_eq X 14 dX6_transferOffsets_4 (by decide) (fun q => absurd q (nI_ne0 (by omega) (by omega))) (fun _ => ?_)
  refine zr_bipush X (nI (20)) dX6_transferOffsets_7 (by decide +kernel) ?_
  refine zr_iloadn X 3 dX6_transferOffsets_9 rfl ?_
  refine zr_iadd X (nI (g + 20)) dX6_transferOffsets_10 ((nI_add _ _).trans (congrArg nI (by omega))) ?_
  refine zr_goto X 15 dX6_transferOffsets_11 (by decide) ?_
  refine zr_istore X [1, 2, 3, 4, 5, 0] [(0, .ref (ad (0))), (1, .int (nI (f))), (2, .int (nI (f2))), (3, .int (nI (g))), (4, .int (t)), (5, .int (nI (g + 20)))] dX6_transferOffsets_15 (by decide) rfl ?_
  refine zr_aloadn X 0 dX6_transferOffsets_17 rfl ?_
  refine zr_iloadn X 1 dX6_transferOffsets_18 rfl ?_
  refine zr_iloadn X 2 dX6_transferOffsets_19 rfl ?_
  refine zr_iloadn X 3 dX6_transferOffsets_20 rfl ?_
  refine zr_dSi [.int (nI (g))] [.int (nI (f2)), .int (nI (f)), .ref (ad (0))] X (zK_ok A D tc tF tL tM) (c_isGrade_t E μ (by omega) (by omega)) k_626 k_627 k_7 k_628 hdX6_isGrade ⟨rfl, rfl⟩ ⟨Nat.le_of_ble_eq_true rfl, Nat.le_of_ble_eq_true rfl⟩ rfl rfl (Nat.le_of_ble_eq_true rfl) dX6_transferOffsets_21 ?_
  refine zr_iload X 5 dX6_transferOffsets_24 rfl ?_
  refine zr_iload X 4 dX6_transferOffsets_26 rfl ?_
  refine zr_dVi (C := RX6) (ci := 6) [.int (nI (f)), .int (nI (f2)), .int (nI (1)), .int (nI (g + 20)), .int (t)] [] X (zK_ok A D tc tF tL tM) (c_noTransfer_b1 E μ (hc) h8 hf hf2 _ hx) k_636 k_638 kp_4 k_7 k_639 hdX6_noTransfer ⟨rfl, rfl⟩ ⟨Nat.le_of_ble_eq_true rfl, Nat.le_of_ble_eq_true rfl⟩ (by omega) rfl rfl rfl rfl (Nat.le_of_ble_eq_true rfl) dX6_transferOffsets_28 ?_
  refine zr_istore X [1, 2, 3, 4, 5, 6, 0] [(0, .ref (ad (0))), (1, .int (nI (f))), (2, .int (nI (f2))), (3, .int (nI (g))), (4, .int (t)), (5, .int (nI (g + 20))), (6, .int (-2))] dX6_transferOffsets_31 (by decide) rfl ?_
  refine zr_iload X 6 dX6_transferOffsets_33 rfl ?_
  refine zr_if_eq X 41 dX6_transferOffsets_35 (by decide) (fun q => absurd q (by decide)) (fun _ => ?_)
  refine zr_iload X 6 dX6_transferOffsets_38 rfl ?_
  exact zr_iret X dX6_transferOffsets_40 ⟨rfl, rfl⟩

set_option maxHeartbeats 4000000 in
set_option maxRecDepth 100000 in
theorem c_transferOffsets_b2 {l : Launch} {D : va_G} {tc : Nat → ClassId} {ad : Nat → Nat} {A : Nat → Prop} {tF tL tM : Nat} (E : zN 6 A ad) (μ : Nat → Int32) {m c k : Nat} (S : refS μ m c k) {f : Nat} (hf : f < c) {g : Nat} (hg : g ≤ 2) {t : Nat} (ht1 : 1 ≤ t) (ht9 : t ≤ 9999)  : zMi l yX6_transferOffsets cX6_transferOffsets 7 (some .int) (zrm 5) (zK A D tc tF tL tM) A D vwCl tc ad 6 shR [.ref (ad (0)), .int (nI (f)), .int (nI (f)), .int (nI (g)), .int (nI (t))] μ (fun r u => r = -2 ∧ u = μ) := by
  refine zM_of RX6 [(0, .ref (ad (0))), (1, .int (nI (f))), (2, .int (nI (f))), (3, .int (nI (g))), (4, .int (nI (t)))] (zK_ok A D tc tF tL tM) E.1 E.2 owR_ok (by decide +kernel) rfl (Nat.le_of_ble_eq_true rfl) rfl ?_
  intro pP eE sS mM aS bL mT cO X
  obtain ⟨hm, hm2, hc, h8, hk, hk4⟩ := S
  refine zr_iloadn X 3 dX6_transferOffsets_0 rfl ?_
  refine zr_dSi [.int (nI (g))] [] X (zK_ok A D tc tF tL tM) (c_isGrade_t E μ (by omega) (by omega)) k_626 k_627 k_7 k_628 hdX6_isGrade ⟨rfl, rfl⟩ ⟨Nat.le_of_ble_eq_true rfl, Nat.le_of_ble_eq_true rfl⟩ rfl rfl (Nat.le_of_ble_eq_true rfl) dX6_transferOffsets_1 ?_
  refine zr_if_eq X 14 dX6_transferOffsets_4 (by decide) (fun q => absurd q (nI_ne0 (by omega) (by omega))) (fun _ => ?_)
  refine zr_bipush X (nI (20)) dX6_transferOffsets_7 (by decide +kernel) ?_
  refine zr_iloadn X 3 dX6_transferOffsets_9 rfl ?_
  refine zr_iadd X (nI (g + 20)) dX6_transferOffsets_10 ((nI_add _ _).trans (congrArg nI (by omega))) ?_
  refine zr_goto X 15 dX6_transferOffsets_11 (by decide) ?_
  refine zr_istore X [1, 2, 3, 4, 5, 0] [(0, .ref (ad (0))), (1, .int (nI (f))), (2, .int (nI (f))), (3, .int (nI (g))), (4, .int (nI (t))), (5, .int (nI (g + 20)))] dX6_transferOffsets_15 (by decide) rfl ?_
  refine zr_aloadn X 0 dX6_transferOffsets_17 rfl ?_
  refine zr_iloadn X 1 dX6_transferOffsets_18 rfl ?_
  refine zr_iloadn X 2 dX6_transferOffsets_19 rfl ?_
  refine zr_iloadn X 3 dX6_transferOffsets_20 rfl ?_
  refine zr_dSi [.int (nI (g))] [.int (nI (f)), .int (nI (f)), .ref (ad (0))] X (zK_ok A D tc tF tL tM) (c_isGrade_t E μ (by omega) (by omega)) k_626 k_627 k_7 k_628 hdX6_isGrade ⟨rfl, rfl⟩ ⟨Nat.le_of_ble_eq_true rfl, Nat.le_of_ble_eq_true rfl⟩ rfl rfl (Nat.le_of_ble_eq_true rfl) dX6_transferOffsets_21 ?_
  refine zr_iload X 5 dX6_transferOffsets_24 rfl ?_
  refine zr_iload X 4 dX6_transferOffsets_26 rfl ?_
  refine zr_dVi (C := RX6) (ci := 6) [.int (nI (f)), .int (nI (f)), .int (nI (1)), .int (nI (g + 20)), .int (nI (t))] [] X (zK_ok A D tc tF tL tM) (c_noTransfer_b2 E μ (hc) h8 hf ht1 ht9 _) k_636 k_638 kp_4 k_7 k_639 hdX6_noTransfer ⟨rfl, rfl⟩ ⟨Nat.le_of_ble_eq_true rfl, Nat.le_of_ble_eq_true rfl⟩ (by omega) rfl rfl rfl rfl (Nat.le_of_ble_eq_true rfl) dX6_transferOffsets_28 ?_
  refine zr_istore X [1, 2, 3, 4, 5, 6, 0] [(0, .ref (ad (0))), (1, .int (nI (f))), (2, .int (nI (f))), (3, .int (nI (g))), (4, .int (nI (t))), (5, .int (nI (g + 20))), (6, .int (-2))] dX6_transferOffsets_31 (by decide) rfl ?_
  refine zr_iload X 6 dX6_transferOffsets_33 rfl ?_
  refine zr_if_eq X 41 dX6_transferOffsets_35 (by decide) (fun q => absurd q (by decide)) (fun _ => ?_)
  refine zr_iload X 6 dX6_transferOffsets_38 rfl ?_
  exact zr_iret X dX6_transferOffsets_40 ⟨rfl, rfl⟩

set_option maxHeartbeats 4000000 in
set_option maxRecDepth 100000 in
theorem c_transferOffsets_n {l : Launch} {D : va_G} {tc : Nat → ClassId} {ad : Nat → Nat} {A : Nat → Prop} {tF tL tM : Nat} (E : zN 6 A ad) (μ : Nat → Int32) {m c k : Nat} (S : refS μ m c k) {f f2 : Nat} (hf : f < c) (hf2 : f2 < c) {g : Nat} (hg : g ≤ 2) {t : Nat} (ht1 : 1 ≤ t) (ht9 : t ≤ 9999) (hne : f ≠ f2) (h : ¬ nI t ≤ μ (32 * f + g + 27)) : zMi l yX6_transferOffsets cX6_transferOffsets 7 (some .int) (zrm 5) (zK A D tc tF tL tM) A D vwCl tc ad 6 shR [.ref (ad (0)), .int (nI (f)), .int (nI (f2)), .int (nI (g)), .int (nI (t))] μ (fun r u => r = -4 ∧ u = μ) := by
  refine zM_of RX6 [(0, .ref (ad (0))), (1, .int (nI (f))), (2, .int (nI (f2))), (3, .int (nI (g))), (4, .int (nI (t)))] (zK_ok A D tc tF tL tM) E.1 E.2 owR_ok (by decide +kernel) rfl (Nat.le_of_ble_eq_true rfl) rfl ?_
  intro pP eE sS mM aS bL mT cO X
  obtain ⟨hm, hm2, hc, h8, hk, hk4⟩ := S
  refine zr_iloadn X 3 dX6_transferOffsets_0 rfl ?_
  refine zr_dSi [.int (nI (g))] [] X (zK_ok A D tc tF tL tM) (c_isGrade_t E μ (by omega) (by omega)) k_626 k_627 k_7 k_628 hdX6_isGrade ⟨rfl, rfl⟩ ⟨Nat.le_of_ble_eq_true rfl, Nat.le_of_ble_eq_true rfl⟩ rfl rfl (Nat.le_of_ble_eq_true rfl) dX6_transferOffsets_1 ?_
  refine zr_if_eq X 14 dX6_transferOffsets_4 (by decide) (fun q => absurd q (nI_ne0 (by omega) (by omega))) (fun _ => ?_)
  refine zr_bipush X (nI (20)) dX6_transferOffsets_7 (by decide +kernel) ?_
  refine zr_iloadn X 3 dX6_transferOffsets_9 rfl ?_
  refine zr_iadd X (nI (g + 20)) dX6_transferOffsets_10 ((nI_add _ _).trans (congrArg nI (by omega))) ?_
  refine zr_goto X 15 dX6_transferOffsets_11 (by decide) ?_
  refine zr_istore X [1, 2, 3, 4, 5, 0] [(0, .ref (ad (0))), (1, .int (nI (f))), (2, .int (nI (f2))), (3, .int (nI (g))), (4, .int (nI (t))), (5, .int (nI (g + 20)))] dX6_transferOffsets_15 (by decide) rfl ?_
  refine zr_aloadn X 0 dX6_transferOffsets_17 rfl ?_
  refine zr_iloadn X 1 dX6_transferOffsets_18 rfl ?_
  refine zr_iloadn X 2 dX6_transferOffsets_19 rfl ?_
  refine zr_iloadn X 3 dX6_transferOffsets_20 rfl ?_
  refine zr_dSi [.int (nI (g))] [.int (nI (f2)), .int (nI (f)), .ref (ad (0))] X (zK_ok A D tc tF tL tM) (c_isGrade_t E μ (by omega) (by omega)) k_626 k_627 k_7 k_628 hdX6_isGrade ⟨rfl, rfl⟩ ⟨Nat.le_of_ble_eq_true rfl, Nat.le_of_ble_eq_true rfl⟩ rfl rfl (Nat.le_of_ble_eq_true rfl) dX6_transferOffsets_21 ?_
  refine zr_iload X 5 dX6_transferOffsets_24 rfl ?_
  refine zr_iload X 4 dX6_transferOffsets_26 rfl ?_
  refine zr_dVi (C := RX6) (ci := 6) [.int (nI (f)), .int (nI (f2)), .int (nI (1)), .int (nI (g + 20)), .int (nI (t))] [] X (zK_ok A D tc tF tL tM) (c_noTransfer_n E μ (w := g + 20) (hc) h8 hf hf2 ht1 ht9 (by omega) hne h) k_636 k_638 kp_4 k_7 k_639 hdX6_noTransfer ⟨rfl, rfl⟩ ⟨Nat.le_of_ble_eq_true rfl, Nat.le_of_ble_eq_true rfl⟩ (by omega) rfl rfl rfl rfl (Nat.le_of_ble_eq_true rfl) dX6_transferOffsets_28 ?_
  refine zr_istore X [1, 2, 3, 4, 5, 6, 0] [(0, .ref (ad (0))), (1, .int (nI (f))), (2, .int (nI (f2))), (3, .int (nI (g))), (4, .int (nI (t))), (5, .int (nI (g + 20))), (6, .int (-4))] dX6_transferOffsets_31 (by decide) rfl ?_
  refine zr_iload X 6 dX6_transferOffsets_33 rfl ?_
  refine zr_if_eq X 41 dX6_transferOffsets_35 (by decide) (fun q => absurd q (by decide)) (fun _ => ?_)
  refine zr_iload X 6 dX6_transferOffsets_38 rfl ?_
  exact zr_iret X dX6_transferOffsets_40 ⟨rfl, rfl⟩

set_option maxHeartbeats 4000000 in
set_option maxRecDepth 100000 in
theorem c_transferOffsets_ok {l : Launch} {D : va_G} {tc : Nat → ClassId} {ad : Nat → Nat} {A : Nat → Prop} {tF tL tM : Nat} (E : zN 6 A ad) (μ : Nat → Int32) {m c k : Nat} (S : refS μ m c k) {f f2 : Nat} (hf : f < c) (hf2 : f2 < c) {g : Nat} (hg : g ≤ 2) {t : Nat} (ht1 : 1 ≤ t) (ht9 : t ≤ 9999) (hne : f ≠ f2) (h : nI t ≤ μ (32 * f + g + 27)) : zMi l yX6_transferOffsets cX6_transferOffsets 7 (some .int) (zrm 5) (zK A D tc tF tL tM) A D vwCl tc ad 6 shR [.ref (ad (0)), .int (nI (f)), .int (nI (f2)), .int (nI (g)), .int (nI (t))] μ (fun r u => r = μ (32 * f + g + 27) - nI (t) ∧ u = (upd (upd (zrec μ (0) (k)) (32 * f + g + 27) (μ (32 * f + g + 27) - nI (t))) (32 * f2 + g + 27) (μ (32 * f2 + g + 27) + nI (t)))) := by
  refine zM_of RX6 [(0, .ref (ad (0))), (1, .int (nI (f))), (2, .int (nI (f2))), (3, .int (nI (g))), (4, .int (nI (t)))] (zK_ok A D tc tF tL tM) E.1 E.2 owR_ok (by decide +kernel) rfl (Nat.le_of_ble_eq_true rfl) rfl ?_
  intro pP eE sS mM aS bL mT cO X
  obtain ⟨hm, hm2, hc, h8, hk, hk4⟩ := S
  refine zr_iloadn X 3 dX6_transferOffsets_0 rfl ?_
  refine zr_dSi [.int (nI (g))] [] X (zK_ok A D tc tF tL tM) (c_isGrade_t E μ (by omega) (by omega)) k_626 k_627 k_7 k_628 hdX6_isGrade ⟨rfl, rfl⟩ ⟨Nat.le_of_ble_eq_true rfl, Nat.le_of_ble_eq_true rfl⟩ rfl rfl (Nat.le_of_ble_eq_true rfl) dX6_transferOffsets_1 ?_
  refine zr_if_eq X 14 dX6_transferOffsets_4 (by decide) (fun q => absurd q (nI_ne0 (by omega) (by omega))) (fun _ => ?_)
  refine zr_bipush X (nI (20)) dX6_transferOffsets_7 (by decide +kernel) ?_
  refine zr_iloadn X 3 dX6_transferOffsets_9 rfl ?_
  refine zr_iadd X (nI (g + 20)) dX6_transferOffsets_10 ((nI_add _ _).trans (congrArg nI (by omega))) ?_
  refine zr_goto X 15 dX6_transferOffsets_11 (by decide) ?_
  refine zr_istore X [1, 2, 3, 4, 5, 0] [(0, .ref (ad (0))), (1, .int (nI (f))), (2, .int (nI (f2))), (3, .int (nI (g))), (4, .int (nI (t))), (5, .int (nI (g + 20)))] dX6_transferOffsets_15 (by decide) rfl ?_
  refine zr_aloadn X 0 dX6_transferOffsets_17 rfl ?_
  refine zr_iloadn X 1 dX6_transferOffsets_18 rfl ?_
  refine zr_iloadn X 2 dX6_transferOffsets_19 rfl ?_
  refine zr_iloadn X 3 dX6_transferOffsets_20 rfl ?_
  refine zr_dSi [.int (nI (g))] [.int (nI (f2)), .int (nI (f)), .ref (ad (0))] X (zK_ok A D tc tF tL tM) (c_isGrade_t E μ (by omega) (by omega)) k_626 k_627 k_7 k_628 hdX6_isGrade ⟨rfl, rfl⟩ ⟨Nat.le_of_ble_eq_true rfl, Nat.le_of_ble_eq_true rfl⟩ rfl rfl (Nat.le_of_ble_eq_true rfl) dX6_transferOffsets_21 ?_
  refine zr_iload X 5 dX6_transferOffsets_24 rfl ?_
  refine zr_iload X 4 dX6_transferOffsets_26 rfl ?_
  refine zr_dVi (C := RX6) (ci := 6) [.int (nI (f)), .int (nI (f2)), .int (nI (1)), .int (nI (g + 20)), .int (nI (t))] [] X (zK_ok A D tc tF tL tM) (c_noTransfer_0 E μ (w := g + 20) (hc) h8 hf hf2 ht1 ht9 (by omega) hne h) k_636 k_638 kp_4 k_7 k_639 hdX6_noTransfer ⟨rfl, rfl⟩ ⟨Nat.le_of_ble_eq_true rfl, Nat.le_of_ble_eq_true rfl⟩ (by omega) rfl rfl rfl rfl (Nat.le_of_ble_eq_true rfl) dX6_transferOffsets_28 ?_
  refine zr_istore X [1, 2, 3, 4, 5, 6, 0] [(0, .ref (ad (0))), (1, .int (nI (f))), (2, .int (nI (f2))), (3, .int (nI (g))), (4, .int (nI (t))), (5, .int (nI (g + 20))), (6, .int (nI (0)))] dX6_transferOffsets_31 (by decide) rfl ?_
  refine zr_iload X 6 dX6_transferOffsets_33 rfl ?_
  refine zr_if_eq X 41 dX6_transferOffsets_35 (by decide) (fun _ => ?_) (fun q => absurd (zq_eq0 (by omega)) q)
  refine zr_aloadn X 0 dX6_transferOffsets_41 rfl ?_
  refine zr_iconst X (nI (0)) dX6_transferOffsets_42 (by decide +kernel) ?_
  refine zr_dVv (C := RX6) (ci := 6) [.int (nI (0))] [] X (zK_ok A D tc tF tL tM) (c_record E μ (hk) hk4 (by omega)) k_589 k_591 kp_1 k_7 k_592 hdX6_record ⟨rfl, rfl⟩ ⟨Nat.le_of_ble_eq_true rfl, Nat.le_of_ble_eq_true rfl⟩ (by omega) rfl rfl rfl rfl (Nat.le_of_ble_eq_true rfl) dX6_transferOffsets_43 ?_
  refine zr_aloadn X 0 dX6_transferOffsets_46 rfl ?_
  refine zr_iloadn X 1 dX6_transferOffsets_47 rfl ?_
  refine zr_iloadn X 2 dX6_transferOffsets_48 rfl ?_
  refine zr_iload X 5 dX6_transferOffsets_49 rfl ?_
  refine zr_iload X 4 dX6_transferOffsets_51 rfl ?_
  refine zr_dVi (C := RX6) (ci := 6) [.int (nI (f)), .int (nI (f2)), .int (nI (g + 20)), .int (nI (t))] [] X (zK_ok A D tc tF tL tM) (c_doT E (zrec μ (0) (k)) (w := g + 20) (t := nI (t)) ((zrec_out (by omega) (by omega) hk4).trans (hc)) h8 hf hf2 (by omega) hne (pa := 32 * f + g + 27) (pb := 32 * f2 + g + 27) (by omega) (by omega) (zrec_out (by omega) (by omega) hk4) (zrec_out (by omega) (by omega) hk4)) k_640 k_642 kp_5 k_7 k_643 hdX6_doTransfer ⟨rfl, rfl⟩ ⟨Nat.le_of_ble_eq_true rfl, Nat.le_of_ble_eq_true rfl⟩ (by omega) rfl rfl rfl rfl (Nat.le_of_ble_eq_true rfl) dX6_transferOffsets_53 ?_
  exact zr_iret X dX6_transferOffsets_56 ⟨rfl, rfl⟩

set_option maxHeartbeats 4000000 in
set_option maxRecDepth 100000 in
theorem c_cancel_u1 {l : Launch} {D : va_G} {tc : Nat → ClassId} {ad : Nat → Nat} {A : Nat → Prop} {tF tL tM : Nat} (E : zN 6 A ad) (μ : Nat → Int32) {m c k : Nat} (S : refS μ m c k) {x : Int32} (hx : ¬ zfm x c) (g : Int32) (z : Int32)  : zMi l yX6_cancel cX6_cancel 4 (some .int) (zrm 5) (zK A D tc tF tL tM) A D vwCl tc ad 6 shR [.ref (ad (0)), .int (x), .int (g), .int (z)] μ (fun r u => r = -1 ∧ u = μ) := by
  refine zM_of RX6 [(0, .ref (ad (0))), (1, .int (x)), (2, .int (g)), (3, .int (z))] (zK_ok A D tc tF tL tM) E.1 E.2 owR_ok (by decide +kernel) rfl (Nat.le_of_ble_eq_true rfl) rfl ?_
  intro pP eE sS mM aS bL mT cO X
  obtain ⟨hm, hm2, hc, h8, hk, hk4⟩ := S
  refine zr_aloadn X 0 dX6_cancel_0 rfl ?_
  refine zr_iloadn X 1 dX6_cancel_1 rfl ?_
  refine zr_dVi (C := RX6) (ci := 6) [.int (x)] [] X (zK_ok A D tc tF tL tM) (c_isFirm_f E μ (hc) h8 hx) k_611 k_613 kp_2 k_7 k_614 hdX6_isFirm ⟨rfl, rfl⟩ ⟨Nat.le_of_ble_eq_true rfl, Nat.le_of_ble_eq_true rfl⟩ (by omega) rfl rfl rfl rfl (Nat.le_of_ble_eq_true rfl) dX6_cancel_2 ?_
  refine zr_if_eq X 15 dX6_cancel_5 (by decide) (fun _ => ?_) (fun q => absurd (zq_eq0 (by omega)) q)
  refine zr_iconst X (-1) dX6_cancel_15 (by decide +kernel) ?_
  exact zr_iret X dX6_cancel_16 ⟨rfl, rfl⟩

set_option maxHeartbeats 4000000 in
set_option maxRecDepth 100000 in
theorem c_cancel_u2 {l : Launch} {D : va_G} {tc : Nat → ClassId} {ad : Nat → Nat} {A : Nat → Prop} {tF tL tM : Nat} (E : zN 6 A ad) (μ : Nat → Int32) {m c k : Nat} (S : refS μ m c k) {f : Nat} (hf : f < c) {x : Int32} (hx : ¬ zin x 0 19) (z : Int32)  : zMi l yX6_cancel cX6_cancel 4 (some .int) (zrm 5) (zK A D tc tF tL tM) A D vwCl tc ad 6 shR [.ref (ad (0)), .int (nI (f)), .int (x), .int (z)] μ (fun r u => r = -1 ∧ u = μ) := by
  refine zM_of RX6 [(0, .ref (ad (0))), (1, .int (nI (f))), (2, .int (x)), (3, .int (z))] (zK_ok A D tc tF tL tM) E.1 E.2 owR_ok (by decide +kernel) rfl (Nat.le_of_ble_eq_true rfl) rfl ?_
  intro pP eE sS mM aS bL mT cO X
  obtain ⟨hm, hm2, hc, h8, hk, hk4⟩ := S
  refine zr_aloadn X 0 dX6_cancel_0 rfl ?_
  refine zr_iloadn X 1 dX6_cancel_1 rfl ?_
  refine zr_dVi (C := RX6) (ci := 6) [.int (nI (f))] [] X (zK_ok A D tc tF tL tM) (c_isFirm_t E μ (hc) h8 (by omega)) k_611 k_613 kp_2 k_7 k_614 hdX6_isFirm ⟨rfl, rfl⟩ ⟨Nat.le_of_ble_eq_true rfl, Nat.le_of_ble_eq_true rfl⟩ (by omega) rfl rfl rfl rfl (Nat.le_of_ble_eq_true rfl) dX6_cancel_2 ?_
  refine zr_if_eq X 15 dX6_cancel_5 (by decide) (fun q => absurd q (nI_ne0 (by omega) (by omega))) (fun _ => ?_)
  refine zr_iloadn X 2 dX6_cancel_8 rfl ?_
  refine zr_dSi [.int (x)] [] X (zK_ok A D tc tF tL tM) (c_isVintage_f E μ hx) k_633 k_634 k_7 k_635 hdX6_isVintage ⟨rfl, rfl⟩ ⟨Nat.le_of_ble_eq_true rfl, Nat.le_of_ble_eq_true rfl⟩ rfl rfl (Nat.le_of_ble_eq_true rfl) dX6_cancel_9 ?_
  refine zr_if_ne X 17 dX6_cancel_12 (by decide) (fun q => absurd (zq_eq0 (by omega)) q) (fun _ => ?_)
  refine zr_iconst X (-1) dX6_cancel_15 (by decide +kernel) ?_
  exact zr_iret X dX6_cancel_16 ⟨rfl, rfl⟩

set_option maxHeartbeats 4000000 in
set_option maxRecDepth 100000 in
theorem c_cancel_b {l : Launch} {D : va_G} {tc : Nat → ClassId} {ad : Nat → Nat} {A : Nat → Prop} {tF tL tM : Nat} (E : zN 6 A ad) (μ : Nat → Int32) {m c k : Nat} (S : refS μ m c k) {f : Nat} (hf : f < c) {v : Nat} (hv : v ≤ 19) {z : Int32} (hx : ¬ zin z 1 9999)  : zMi l yX6_cancel cX6_cancel 4 (some .int) (zrm 5) (zK A D tc tF tL tM) A D vwCl tc ad 6 shR [.ref (ad (0)), .int (nI (f)), .int (nI (v)), .int (z)] μ (fun r u => r = -2 ∧ u = μ) := by
  refine zM_of RX6 [(0, .ref (ad (0))), (1, .int (nI (f))), (2, .int (nI (v))), (3, .int (z))] (zK_ok A D tc tF tL tM) E.1 E.2 owR_ok (by decide +kernel) rfl (Nat.le_of_ble_eq_true rfl) rfl ?_
  intro pP eE sS mM aS bL mT cO X
  obtain ⟨hm, hm2, hc, h8, hk, hk4⟩ := S
  refine zr_aloadn X 0 dX6_cancel_0 rfl ?_
  refine zr_iloadn X 1 dX6_cancel_1 rfl ?_
  refine zr_dVi (C := RX6) (ci := 6) [.int (nI (f))] [] X (zK_ok A D tc tF tL tM) (c_isFirm_t E μ (hc) h8 (by omega)) k_611 k_613 kp_2 k_7 k_614 hdX6_isFirm ⟨rfl, rfl⟩ ⟨Nat.le_of_ble_eq_true rfl, Nat.le_of_ble_eq_true rfl⟩ (by omega) rfl rfl rfl rfl (Nat.le_of_ble_eq_true rfl) dX6_cancel_2 ?_
  refine zr_if_eq X 15 dX6_cancel_5 (by decide) (fun q => absurd q (nI_ne0 (by omega) (by omega))) (fun _ => ?_)
  refine zr_iloadn X 2 dX6_cancel_8 rfl ?_
  refine zr_dSi [.int (nI (v))] [] X (zK_ok A D tc tF tL tM) (c_isVintage_t E μ (by omega) (by omega)) k_633 k_634 k_7 k_635 hdX6_isVintage ⟨rfl, rfl⟩ ⟨Nat.le_of_ble_eq_true rfl, Nat.le_of_ble_eq_true rfl⟩ rfl rfl (Nat.le_of_ble_eq_true rfl) dX6_cancel_9 ?_
  refine zr_if_ne X 17 dX6_cancel_12 (by decide) (fun _ => ?_) (fun q => absurd q (nI_ne0 (by omega) (by omega)))
  refine zr_iloadn X 3 dX6_cancel_17 rfl ?_
  refine zr_dSi [.int (z)] [] X (zK_ok A D tc tF tL tM) (c_isTonnes_f E μ hx) k_615 k_616 k_7 k_617 hdX6_isTonnes ⟨rfl, rfl⟩ ⟨Nat.le_of_ble_eq_true rfl, Nat.le_of_ble_eq_true rfl⟩ rfl rfl (Nat.le_of_ble_eq_true rfl) dX6_cancel_18 ?_
  refine zr_if_ne X 27 dX6_cancel_21 (by decide) (fun q => absurd (zq_eq0 (by omega)) q) (fun _ => ?_)
  refine zr_bipush X (-2) dX6_cancel_24 (by decide +kernel) ?_
  exact zr_iret X dX6_cancel_26 ⟨rfl, rfl⟩

set_option maxHeartbeats 4000000 in
set_option maxRecDepth 100000 in
theorem c_cancel_n {l : Launch} {D : va_G} {tc : Nat → ClassId} {ad : Nat → Nat} {A : Nat → Prop} {tF tL tM : Nat} (E : zN 6 A ad) (μ : Nat → Int32) {m c k : Nat} (S : refS μ m c k) {f : Nat} (hf : f < c) {v : Nat} (hv : v ≤ 19) {t : Nat} (ht1 : 1 ≤ t) (ht9 : t ≤ 9999) (h : ¬ nI t ≤ μ (32 * f + v + 7)) : zMi l yX6_cancel cX6_cancel 4 (some .int) (zrm 5) (zK A D tc tF tL tM) A D vwCl tc ad 6 shR [.ref (ad (0)), .int (nI (f)), .int (nI (v)), .int (nI (t))] μ (fun r u => r = -4 ∧ u = μ) := by
  refine zM_of RX6 [(0, .ref (ad (0))), (1, .int (nI (f))), (2, .int (nI (v))), (3, .int (nI (t)))] (zK_ok A D tc tF tL tM) E.1 E.2 owR_ok (by decide +kernel) rfl (Nat.le_of_ble_eq_true rfl) rfl ?_
  intro pP eE sS mM aS bL mT cO X
  obtain ⟨hm, hm2, hc, h8, hk, hk4⟩ := S
  refine zr_aloadn X 0 dX6_cancel_0 rfl ?_
  refine zr_iloadn X 1 dX6_cancel_1 rfl ?_
  refine zr_dVi (C := RX6) (ci := 6) [.int (nI (f))] [] X (zK_ok A D tc tF tL tM) (c_isFirm_t E μ (hc) h8 (by omega)) k_611 k_613 kp_2 k_7 k_614 hdX6_isFirm ⟨rfl, rfl⟩ ⟨Nat.le_of_ble_eq_true rfl, Nat.le_of_ble_eq_true rfl⟩ (by omega) rfl rfl rfl rfl (Nat.le_of_ble_eq_true rfl) dX6_cancel_2 ?_
  refine zr_if_eq X 15 dX6_cancel_5 (by decide) (fun q => absurd q (nI_ne0 (by omega) (by omega))) (fun _ => ?_)
  refine zr_iloadn X 2 dX6_cancel_8 rfl ?_
  refine zr_dSi [.int (nI (v))] [] X (zK_ok A D tc tF tL tM) (c_isVintage_t E μ (by omega) (by omega)) k_633 k_634 k_7 k_635 hdX6_isVintage ⟨rfl, rfl⟩ ⟨Nat.le_of_ble_eq_true rfl, Nat.le_of_ble_eq_true rfl⟩ rfl rfl (Nat.le_of_ble_eq_true rfl) dX6_cancel_9 ?_
  refine zr_if_ne X 17 dX6_cancel_12 (by decide) (fun _ => ?_) (fun q => absurd q (nI_ne0 (by omega) (by omega)))
  refine zr_iloadn X 3 dX6_cancel_17 rfl ?_
  refine zr_dSi [.int (nI (t))] [] X (zK_ok A D tc tF tL tM) (c_isTonnes_t E μ (by omega) (by omega)) k_615 k_616 k_7 k_617 hdX6_isTonnes ⟨rfl, rfl⟩ ⟨Nat.le_of_ble_eq_true rfl, Nat.le_of_ble_eq_true rfl⟩ rfl rfl (Nat.le_of_ble_eq_true rfl) dX6_cancel_18 ?_
  refine zr_if_ne X 27 dX6_cancel_21 (by decide) (fun _ => ?_) (fun q => absurd q (nI_ne0 (by omega) (by omega)))
  refine zr_aloadn X 0 dX6_cancel_27 rfl ?_
  refine zr_get X (ci := 6) (q := 0) (zR _) (.ref (ad (1))) dX6_cancel_28 (by omega) rfl rfl inX6 (by decide) rfl (zvR rfl) rfl k_539 ?_
  refine zr_iloadn X 1 dX6_cancel_31 rfl ?_
  refine zr_iconst X (nI (0)) dX6_cancel_32 (by decide +kernel) ?_
  refine zr_iloadn X 2 dX6_cancel_33 rfl ?_
  refine zr_iadd X (nI (v)) dX6_cancel_34 ((nI_add _ _).trans (congrArg nI (by omega))) ?_
  refine zr_dSi [.int (nI (f)), .int (nI (v))] [.ref (ad (1))] X (zK_ok A D tc tF tL tM) (zM_i (z1 := nI (32 * f + v + 7)) (c_of E μ (f) (v)) (congrArg nI (by omega))) k_597 k_598 k_7 k_599 hdX6_of ⟨rfl, rfl⟩ ⟨Nat.le_of_ble_eq_true rfl, Nat.le_of_ble_eq_true rfl⟩ rfl rfl (Nat.le_of_ble_eq_true rfl) dX6_cancel_35 ?_
  refine zr_iald X (j := 32 * f + v + 7) 0 (μ (32 * f + v + 7)) dX6_cancel_38 (by omega) rfl rfl rfl (by omega) (by omega) (zcg (b := 32 * f + v + 7) (by omega) (rfl)) ?_
  refine zr_iloadn X 3 dX6_cancel_39 rfl ?_
  refine zr_icmp_ge X 46 dX6_cancel_40 (by decide) (fun q => absurd q (h)) (fun _ => ?_)
  refine zr_bipush X (-4) dX6_cancel_43 (by decide +kernel) ?_
  exact zr_iret X dX6_cancel_45 ⟨rfl, rfl⟩

set_option maxHeartbeats 4000000 in
set_option maxRecDepth 100000 in
theorem c_cancel_ok {l : Launch} {D : va_G} {tc : Nat → ClassId} {ad : Nat → Nat} {A : Nat → Prop} {tF tL tM : Nat} (E : zN 6 A ad) (μ : Nat → Int32) {m c k : Nat} (S : refS μ m c k) {f : Nat} (hf : f < c) {v : Nat} (hv : v ≤ 19) {t : Nat} (ht1 : 1 ≤ t) (ht9 : t ≤ 9999) (h : nI t ≤ μ (32 * f + v + 7)) : zMi l yX6_cancel cX6_cancel 4 (some .int) (zrm 5) (zK A D tc tF tL tM) A D vwCl tc ad 6 shR [.ref (ad (0)), .int (nI (f)), .int (nI (v)), .int (nI (t))] μ (fun r u => r = μ (32 * f + v + 7) - nI (t) ∧ u = (upd (upd (zrec μ (0) (k)) (32 * f + v + 7) (μ (32 * f + v + 7) - nI (t))) (v + 303) (μ (v + 303) + nI (t)))) := by
  refine zM_of RX6 [(0, .ref (ad (0))), (1, .int (nI (f))), (2, .int (nI (v))), (3, .int (nI (t)))] (zK_ok A D tc tF tL tM) E.1 E.2 owR_ok (by decide +kernel) rfl (Nat.le_of_ble_eq_true rfl) rfl ?_
  intro pP eE sS mM aS bL mT cO X
  obtain ⟨hm, hm2, hc, h8, hk, hk4⟩ := S
  refine zr_aloadn X 0 dX6_cancel_0 rfl ?_
  refine zr_iloadn X 1 dX6_cancel_1 rfl ?_
  refine zr_dVi (C := RX6) (ci := 6) [.int (nI (f))] [] X (zK_ok A D tc tF tL tM) (c_isFirm_t E μ (hc) h8 (by omega)) k_611 k_613 kp_2 k_7 k_614 hdX6_isFirm ⟨rfl, rfl⟩ ⟨Nat.le_of_ble_eq_true rfl, Nat.le_of_ble_eq_true rfl⟩ (by omega) rfl rfl rfl rfl (Nat.le_of_ble_eq_true rfl) dX6_cancel_2 ?_
  refine zr_if_eq X 15 dX6_cancel_5 (by decide) (fun q => absurd q (nI_ne0 (by omega) (by omega))) (fun _ => ?_)
  refine zr_iloadn X 2 dX6_cancel_8 rfl ?_
  refine zr_dSi [.int (nI (v))] [] X (zK_ok A D tc tF tL tM) (c_isVintage_t E μ (by omega) (by omega)) k_633 k_634 k_7 k_635 hdX6_isVintage ⟨rfl, rfl⟩ ⟨Nat.le_of_ble_eq_true rfl, Nat.le_of_ble_eq_true rfl⟩ rfl rfl (Nat.le_of_ble_eq_true rfl) dX6_cancel_9 ?_
  refine zr_if_ne X 17 dX6_cancel_12 (by decide) (fun _ => ?_) (fun q => absurd q (nI_ne0 (by omega) (by omega)))
  refine zr_iloadn X 3 dX6_cancel_17 rfl ?_
  refine zr_dSi [.int (nI (t))] [] X (zK_ok A D tc tF tL tM) (c_isTonnes_t E μ (by omega) (by omega)) k_615 k_616 k_7 k_617 hdX6_isTonnes ⟨rfl, rfl⟩ ⟨Nat.le_of_ble_eq_true rfl, Nat.le_of_ble_eq_true rfl⟩ rfl rfl (Nat.le_of_ble_eq_true rfl) dX6_cancel_18 ?_
  refine zr_if_ne X 27 dX6_cancel_21 (by decide) (fun _ => ?_) (fun q => absurd q (nI_ne0 (by omega) (by omega)))
  refine zr_aloadn X 0 dX6_cancel_27 rfl ?_
  refine zr_get X (ci := 6) (q := 0) (zR _) (.ref (ad (1))) dX6_cancel_28 (by omega) rfl rfl inX6 (by decide) rfl (zvR rfl) rfl k_539 ?_
  refine zr_iloadn X 1 dX6_cancel_31 rfl ?_
  refine zr_iconst X (nI (0)) dX6_cancel_32 (by decide +kernel) ?_
  refine zr_iloadn X 2 dX6_cancel_33 rfl ?_
  refine zr_iadd X (nI (v)) dX6_cancel_34 ((nI_add _ _).trans (congrArg nI (by omega))) ?_
  refine zr_dSi [.int (nI (f)), .int (nI (v))] [.ref (ad (1))] X (zK_ok A D tc tF tL tM) (zM_i (z1 := nI (32 * f + v + 7)) (c_of E μ (f) (v)) (congrArg nI (by omega))) k_597 k_598 k_7 k_599 hdX6_of ⟨rfl, rfl⟩ ⟨Nat.le_of_ble_eq_true rfl, Nat.le_of_ble_eq_true rfl⟩ rfl rfl (Nat.le_of_ble_eq_true rfl) dX6_cancel_35 ?_
  refine zr_iald X (j := 32 * f + v + 7) 0 (μ (32 * f + v + 7)) dX6_cancel_38 (by omega) rfl rfl rfl (by omega) (by omega) (zcg (b := 32 * f + v + 7) (by omega) (rfl)) ?_
  refine zr_iloadn X 3 dX6_cancel_39 rfl ?_
  refine zr_icmp_ge X 46 dX6_cancel_40 (by decide) (fun _ => ?_) (fun q => absurd (h) q)
  refine zr_aloadn X 0 dX6_cancel_46 rfl ?_
  refine zr_iconst X (nI (0)) dX6_cancel_47 (by decide +kernel) ?_
  refine zr_dVv (C := RX6) (ci := 6) [.int (nI (0))] [] X (zK_ok A D tc tF tL tM) (c_record E μ (hk) hk4 (by omega)) k_589 k_591 kp_1 k_7 k_592 hdX6_record ⟨rfl, rfl⟩ ⟨Nat.le_of_ble_eq_true rfl, Nat.le_of_ble_eq_true rfl⟩ (by omega) rfl rfl rfl rfl (Nat.le_of_ble_eq_true rfl) dX6_cancel_48 ?_
  refine zr_aloadn X 0 dX6_cancel_51 rfl ?_
  refine zr_get X (ci := 6) (q := 0) (zR _) (.ref (ad (1))) dX6_cancel_52 (by omega) rfl rfl inX6 (by decide) rfl (zvR rfl) rfl k_539 ?_
  refine zr_iloadn X 1 dX6_cancel_55 rfl ?_
  refine zr_iconst X (nI (0)) dX6_cancel_56 (by decide +kernel) ?_
  refine zr_iloadn X 2 dX6_cancel_57 rfl ?_
  refine zr_iadd X (nI (v)) dX6_cancel_58 ((nI_add _ _).trans (congrArg nI (by omega))) ?_
  refine zr_dSi [.int (nI (f)), .int (nI (v))] [.ref (ad (1))] X (zK_ok A D tc tF tL tM) (zM_i (z1 := nI (32 * f + v + 7)) (c_of E (zrec μ (0) (k)) (f) (v)) (congrArg nI (by omega))) k_597 k_598 k_7 k_599 hdX6_of ⟨rfl, rfl⟩ ⟨Nat.le_of_ble_eq_true rfl, Nat.le_of_ble_eq_true rfl⟩ rfl rfl (Nat.le_of_ble_eq_true rfl) dX6_cancel_59 ?_
  refine zr_dup2 X dX6_cancel_62 rfl rfl ?_
  refine zr_iald X (j := 32 * f + v + 7) 0 (μ (32 * f + v + 7)) dX6_cancel_63 (by omega) rfl rfl rfl (by omega) (by omega) (zcg (b := 32 * f + v + 7) (by omega) (zrec_out (by omega) (by omega) hk4)) ?_
  refine zr_iloadn X 3 dX6_cancel_64 rfl ?_
  refine zr_isub X ((μ (32 * f + v + 7)) - (nI (t))) dX6_cancel_65 rfl ?_
  refine zr_iast X (j := 32 * f + v + 7) 0 (32 * f + v + 7) dX6_cancel_66 (by omega) rfl rfl rfl (by omega) (by omega) (by omega) ?_
  refine zr_aloadn X 0 dX6_cancel_67 rfl ?_
  refine zr_get X (ci := 6) (q := 0) (zR _) (.ref (ad (1))) dX6_cancel_68 (by omega) rfl rfl inX6 (by decide) rfl (zvR rfl) rfl k_539 ?_
  refine zr_sipush X (nI (303)) dX6_cancel_71 (by decide +kernel) ?_
  refine zr_iloadn X 2 dX6_cancel_74 rfl ?_
  refine zr_iadd X (nI (v + 303)) dX6_cancel_75 ((nI_add _ _).trans (congrArg nI (by omega))) ?_
  refine zr_dup2 X dX6_cancel_76 rfl rfl ?_
  refine zr_iald X (j := v + 303) 0 (μ (v + 303)) dX6_cancel_77 (by omega) rfl rfl rfl (by omega) (by omega) (zcg (b := v + 303) (by omega) ((pk_un (by omega)).trans (zrec_out (by omega) (by omega) hk4))) ?_
  refine zr_iloadn X 3 dX6_cancel_78 rfl ?_
  refine zr_iadd X ((μ (v + 303)) + (nI (t))) dX6_cancel_79 rfl ?_
  refine zr_iast X (j := v + 303) 0 (v + 303) dX6_cancel_80 (by omega) rfl rfl rfl (by omega) (by omega) (by omega) ?_
  refine zr_aloadn X 0 dX6_cancel_81 rfl ?_
  refine zr_get X (ci := 6) (q := 0) (zR _) (.ref (ad (1))) dX6_cancel_82 (by omega) rfl rfl inX6 (by decide) rfl (zvR rfl) rfl k_539 ?_
  refine zr_iloadn X 1 dX6_cancel_85 rfl ?_
  refine zr_iconst X (nI (0)) dX6_cancel_86 (by decide +kernel) ?_
  refine zr_iloadn X 2 dX6_cancel_87 rfl ?_
  refine zr_iadd X (nI (v)) dX6_cancel_88 ((nI_add _ _).trans (congrArg nI (by omega))) ?_
  refine zr_dSi [.int (nI (f)), .int (nI (v))] [.ref (ad (1))] X (zK_ok A D tc tF tL tM) (zM_i (z1 := nI (32 * f + v + 7)) (c_of E (upd (upd (zrec μ (0) (k)) (32 * f + v + 7) ((μ (32 * f + v + 7)) - (nI (t)))) (v + 303) ((μ (v + 303)) + (nI (t)))) (f) (v)) (congrArg nI (by omega))) k_597 k_598 k_7 k_599 hdX6_of ⟨rfl, rfl⟩ ⟨Nat.le_of_ble_eq_true rfl, Nat.le_of_ble_eq_true rfl⟩ rfl rfl (Nat.le_of_ble_eq_true rfl) dX6_cancel_89 ?_
  refine zr_iald X (j := 32 * f + v + 7) 0 ((μ (32 * f + v + 7)) - (nI (t))) dX6_cancel_92 (by omega) rfl rfl rfl (by omega) (by omega) (zcg (b := 32 * f + v + 7) (by omega) ((pk_un (by omega)).trans (pk_us))) ?_
  exact zr_iret X dX6_cancel_93 ⟨rfl, rfl⟩

set_option maxHeartbeats 4000000 in
set_option maxRecDepth 100000 in
theorem c_report_u {l : Launch} {D : va_G} {tc : Nat → ClassId} {ad : Nat → Nat} {A : Nat → Prop} {tF tL tM : Nat} (E : zN 6 A ad) (μ : Nat → Int32) {m c k : Nat} (S : refS μ m c k) {x : Int32} (hx : ¬ zfm x c) (z : Int32)  : zMi l yX6_report cX6_report 3 (some .int) (zrm 5) (zK A D tc tF tL tM) A D vwCl tc ad 6 shR [.ref (ad (0)), .int (x), .int (z)] μ (fun r u => r = -1 ∧ u = μ) := by
  refine zM_of RX6 [(0, .ref (ad (0))), (1, .int (x)), (2, .int (z))] (zK_ok A D tc tF tL tM) E.1 E.2 owR_ok (by decide +kernel) rfl (Nat.le_of_ble_eq_true rfl) rfl ?_
  intro pP eE sS mM aS bL mT cO X
  obtain ⟨hm, hm2, hc, h8, hk, hk4⟩ := S
  refine zr_aloadn X 0 dX6_report_0 rfl ?_
  refine zr_iloadn X 1 dX6_report_1 rfl ?_
  refine zr_dVi (C := RX6) (ci := 6) [.int (x)] [] X (zK_ok A D tc tF tL tM) (c_isFirm_f E μ (hc) h8 hx) k_611 k_613 kp_2 k_7 k_614 hdX6_isFirm ⟨rfl, rfl⟩ ⟨Nat.le_of_ble_eq_true rfl, Nat.le_of_ble_eq_true rfl⟩ (by omega) rfl rfl rfl rfl (Nat.le_of_ble_eq_true rfl) dX6_report_2 ?_
  refine zr_if_ne X 10 dX6_report_5 (by decide) (fun q => absurd (zq_eq0 (by omega)) q) (fun _ => ?_)
  refine zr_iconst X (-1) dX6_report_8 (by decide +kernel) ?_
  exact zr_iret X dX6_report_9 ⟨rfl, rfl⟩

set_option maxHeartbeats 4000000 in
set_option maxRecDepth 100000 in
theorem c_report_b {l : Launch} {D : va_G} {tc : Nat → ClassId} {ad : Nat → Nat} {A : Nat → Prop} {tF tL tM : Nat} (E : zN 6 A ad) (μ : Nat → Int32) {m c k : Nat} (S : refS μ m c k) {f : Nat} (hf : f < c) {z : Int32} (hx : ¬ zin z 1 9999)  : zMi l yX6_report cX6_report 3 (some .int) (zrm 5) (zK A D tc tF tL tM) A D vwCl tc ad 6 shR [.ref (ad (0)), .int (nI (f)), .int (z)] μ (fun r u => r = -2 ∧ u = μ) := by
  refine zM_of RX6 [(0, .ref (ad (0))), (1, .int (nI (f))), (2, .int (z))] (zK_ok A D tc tF tL tM) E.1 E.2 owR_ok (by decide +kernel) rfl (Nat.le_of_ble_eq_true rfl) rfl ?_
  intro pP eE sS mM aS bL mT cO X
  obtain ⟨hm, hm2, hc, h8, hk, hk4⟩ := S
  refine zr_aloadn X 0 dX6_report_0 rfl ?_
  refine zr_iloadn X 1 dX6_report_1 rfl ?_
  refine zr_dVi (C := RX6) (ci := 6) [.int (nI (f))] [] X (zK_ok A D tc tF tL tM) (c_isFirm_t E μ (hc) h8 (by omega)) k_611 k_613 kp_2 k_7 k_614 hdX6_isFirm ⟨rfl, rfl⟩ ⟨Nat.le_of_ble_eq_true rfl, Nat.le_of_ble_eq_true rfl⟩ (by omega) rfl rfl rfl rfl (Nat.le_of_ble_eq_true rfl) dX6_report_2 ?_
  refine zr_if_ne X 10 dX6_report_5 (by decide) (fun _ => ?_) (fun q => absurd q (nI_ne0 (by omega) (by omega)))
  refine zr_iloadn X 2 dX6_report_10 rfl ?_
  refine zr_dSi [.int (z)] [] X (zK_ok A D tc tF tL tM) (c_isTonnes_f E μ hx) k_615 k_616 k_7 k_617 hdX6_isTonnes ⟨rfl, rfl⟩ ⟨Nat.le_of_ble_eq_true rfl, Nat.le_of_ble_eq_true rfl⟩ rfl rfl (Nat.le_of_ble_eq_true rfl) dX6_report_11 ?_
  refine zr_if_ne X 20 dX6_report_14 (by decide) (fun q => absurd (zq_eq0 (by omega)) q) (fun _ => ?_)
  refine zr_bipush X (-2) dX6_report_17 (by decide +kernel) ?_
  exact zr_iret X dX6_report_19 ⟨rfl, rfl⟩

set_option maxHeartbeats 4000000 in
set_option maxRecDepth 100000 in
theorem c_report_f {l : Launch} {D : va_G} {tc : Nat → ClassId} {ad : Nat → Nat} {A : Nat → Prop} {tF tL tM : Nat} (E : zN 6 A ad) (μ : Nat → Int32) {m c k : Nat} (S : refS μ m c k) {f : Nat} (hf : f < c) {t : Nat} (ht1 : 1 ≤ t) (ht9 : t ≤ 9999) (h : ¬ μ (32 * f + 33) + μ (32 * f + 34) + nI t ≤ nI 9999) : zMi l yX6_report cX6_report 3 (some .int) (zrm 5) (zK A D tc tF tL tM) A D vwCl tc ad 6 shR [.ref (ad (0)), .int (nI (f)), .int (nI (t))] μ (fun r u => r = -3 ∧ u = μ) := by
  refine zM_of RX6 [(0, .ref (ad (0))), (1, .int (nI (f))), (2, .int (nI (t)))] (zK_ok A D tc tF tL tM) E.1 E.2 owR_ok (by decide +kernel) rfl (Nat.le_of_ble_eq_true rfl) rfl ?_
  intro pP eE sS mM aS bL mT cO X
  obtain ⟨hm, hm2, hc, h8, hk, hk4⟩ := S
  refine zr_aloadn X 0 dX6_report_0 rfl ?_
  refine zr_iloadn X 1 dX6_report_1 rfl ?_
  refine zr_dVi (C := RX6) (ci := 6) [.int (nI (f))] [] X (zK_ok A D tc tF tL tM) (c_isFirm_t E μ (hc) h8 (by omega)) k_611 k_613 kp_2 k_7 k_614 hdX6_isFirm ⟨rfl, rfl⟩ ⟨Nat.le_of_ble_eq_true rfl, Nat.le_of_ble_eq_true rfl⟩ (by omega) rfl rfl rfl rfl (Nat.le_of_ble_eq_true rfl) dX6_report_2 ?_
  refine zr_if_ne X 10 dX6_report_5 (by decide) (fun _ => ?_) (fun q => absurd q (nI_ne0 (by omega) (by omega)))
  refine zr_iloadn X 2 dX6_report_10 rfl ?_
  refine zr_dSi [.int (nI (t))] [] X (zK_ok A D tc tF tL tM) (c_isTonnes_t E μ (by omega) (by omega)) k_615 k_616 k_7 k_617 hdX6_isTonnes ⟨rfl, rfl⟩ ⟨Nat.le_of_ble_eq_true rfl, Nat.le_of_ble_eq_true rfl⟩ rfl rfl (Nat.le_of_ble_eq_true rfl) dX6_report_11 ?_
  refine zr_if_ne X 20 dX6_report_14 (by decide) (fun _ => ?_) (fun q => absurd q (nI_ne0 (by omega) (by omega)))
  refine zr_aloadn X 0 dX6_report_20 rfl ?_
  refine zr_get X (ci := 6) (q := 0) (zR _) (.ref (ad (1))) dX6_report_21 (by omega) rfl rfl inX6 (by decide) rfl (zvR rfl) rfl k_539 ?_
  refine zr_iloadn X 1 dX6_report_24 rfl ?_
  refine zr_bipush X (nI (26)) dX6_report_25 (by decide +kernel) ?_
  refine zr_dSi [.int (nI (f)), .int (nI (26))] [.ref (ad (1))] X (zK_ok A D tc tF tL tM) (zM_i (z1 := nI (32 * f + 33)) (c_of E μ (f) (26)) (congrArg nI (by omega))) k_597 k_598 k_7 k_599 hdX6_of ⟨rfl, rfl⟩ ⟨Nat.le_of_ble_eq_true rfl, Nat.le_of_ble_eq_true rfl⟩ rfl rfl (Nat.le_of_ble_eq_true rfl) dX6_report_27 ?_
  refine zr_iald X (j := 32 * f + 33) 0 (μ (32 * f + 33)) dX6_report_30 (by omega) rfl rfl rfl (by omega) (by omega) (zcg (b := 32 * f + 33) (by omega) (rfl)) ?_
  refine zr_aloadn X 0 dX6_report_31 rfl ?_
  refine zr_get X (ci := 6) (q := 0) (zR _) (.ref (ad (1))) dX6_report_32 (by omega) rfl rfl inX6 (by decide) rfl (zvR rfl) rfl k_539 ?_
  refine zr_iloadn X 1 dX6_report_35 rfl ?_
  refine zr_bipush X (nI (27)) dX6_report_36 (by decide +kernel) ?_
  refine zr_dSi [.int (nI (f)), .int (nI (27))] [.ref (ad (1)), .int (μ (32 * f + 33))] X (zK_ok A D tc tF tL tM) (zM_i (z1 := nI (32 * f + 34)) (c_of E μ (f) (27)) (congrArg nI (by omega))) k_597 k_598 k_7 k_599 hdX6_of ⟨rfl, rfl⟩ ⟨Nat.le_of_ble_eq_true rfl, Nat.le_of_ble_eq_true rfl⟩ rfl rfl (Nat.le_of_ble_eq_true rfl) dX6_report_38 ?_
  refine zr_iald X (j := 32 * f + 34) 0 (μ (32 * f + 34)) dX6_report_41 (by omega) rfl rfl rfl (by omega) (by omega) (zcg (b := 32 * f + 34) (by omega) (rfl)) ?_
  refine zr_iadd X ((μ (32 * f + 33)) + (μ (32 * f + 34))) dX6_report_42 rfl ?_
  refine zr_iloadn X 2 dX6_report_43 rfl ?_
  refine zr_iadd X (((μ (32 * f + 33)) + (μ (32 * f + 34))) + (nI (t))) dX6_report_44 rfl ?_
  refine zr_sipush X (nI (9999)) dX6_report_45 (by decide +kernel) ?_
  refine zr_icmp_le X 54 dX6_report_48 (by decide) (fun q => absurd q (h)) (fun _ => ?_)
  refine zr_bipush X (-3) dX6_report_51 (by decide +kernel) ?_
  exact zr_iret X dX6_report_53 ⟨rfl, rfl⟩

set_option maxHeartbeats 4000000 in
set_option maxRecDepth 100000 in
theorem c_report_ok {l : Launch} {D : va_G} {tc : Nat → ClassId} {ad : Nat → Nat} {A : Nat → Prop} {tF tL tM : Nat} (E : zN 6 A ad) (μ : Nat → Int32) {m c k : Nat} (S : refS μ m c k) {f : Nat} (hf : f < c) {t : Nat} (ht1 : 1 ≤ t) (ht9 : t ≤ 9999) (h : μ (32 * f + 33) + μ (32 * f + 34) + nI t ≤ nI 9999) : zMi l yX6_report cX6_report 3 (some .int) (zrm 5) (zK A D tc tF tL tM) A D vwCl tc ad 6 shR [.ref (ad (0)), .int (nI (f)), .int (nI (t))] μ (fun r u => r = μ (32 * f + 33) + nI (t) ∧ u = (upd (zrec μ (0) (k)) (32 * f + 33) (μ (32 * f + 33) + nI (t)))) := by
  refine zM_of RX6 [(0, .ref (ad (0))), (1, .int (nI (f))), (2, .int (nI (t)))] (zK_ok A D tc tF tL tM) E.1 E.2 owR_ok (by decide +kernel) rfl (Nat.le_of_ble_eq_true rfl) rfl ?_
  intro pP eE sS mM aS bL mT cO X
  obtain ⟨hm, hm2, hc, h8, hk, hk4⟩ := S
  refine zr_aloadn X 0 dX6_report_0 rfl ?_
  refine zr_iloadn X 1 dX6_report_1 rfl ?_
  refine zr_dVi (C := RX6) (ci := 6) [.int (nI (f))] [] X (zK_ok A D tc tF tL tM) (c_isFirm_t E μ (hc) h8 (by omega)) k_611 k_613 kp_2 k_7 k_614 hdX6_isFirm ⟨rfl, rfl⟩ ⟨Nat.le_of_ble_eq_true rfl, Nat.le_of_ble_eq_true rfl⟩ (by omega) rfl rfl rfl rfl (Nat.le_of_ble_eq_true rfl) dX6_report_2 ?_
  refine zr_if_ne X 10 dX6_report_5 (by decide) (fun _ => ?_) (fun q => absurd q (nI_ne0 (by omega) (by omega)))
  refine zr_iloadn X 2 dX6_report_10 rfl ?_
  refine zr_dSi [.int (nI (t))] [] X (zK_ok A D tc tF tL tM) (c_isTonnes_t E μ (by omega) (by omega)) k_615 k_616 k_7 k_617 hdX6_isTonnes ⟨rfl, rfl⟩ ⟨Nat.le_of_ble_eq_true rfl, Nat.le_of_ble_eq_true rfl⟩ rfl rfl (Nat.le_of_ble_eq_true rfl) dX6_report_11 ?_
  refine zr_if_ne X 20 dX6_report_14 (by decide) (fun _ => ?_) (fun q => absurd q (nI_ne0 (by omega) (by omega)))
  refine zr_aloadn X 0 dX6_report_20 rfl ?_
  refine zr_get X (ci := 6) (q := 0) (zR _) (.ref (ad (1))) dX6_report_21 (by omega) rfl rfl inX6 (by decide) rfl (zvR rfl) rfl k_539 ?_
  refine zr_iloadn X 1 dX6_report_24 rfl ?_
  refine zr_bipush X (nI (26)) dX6_report_25 (by decide +kernel) ?_
  refine zr_dSi [.int (nI (f)), .int (nI (26))] [.ref (ad (1))] X (zK_ok A D tc tF tL tM) (zM_i (z1 := nI (32 * f + 33)) (c_of E μ (f) (26)) (congrArg nI (by omega))) k_597 k_598 k_7 k_599 hdX6_of ⟨rfl, rfl⟩ ⟨Nat.le_of_ble_eq_true rfl, Nat.le_of_ble_eq_true rfl⟩ rfl rfl (Nat.le_of_ble_eq_true rfl) dX6_report_27 ?_
  refine zr_iald X (j := 32 * f + 33) 0 (μ (32 * f + 33)) dX6_report_30 (by omega) rfl rfl rfl (by omega) (by omega) (zcg (b := 32 * f + 33) (by omega) (rfl)) ?_
  refine zr_aloadn X 0 dX6_report_31 rfl ?_
  refine zr_get X (ci := 6) (q := 0) (zR _) (.ref (ad (1))) dX6_report_32 (by omega) rfl rfl inX6 (by decide) rfl (zvR rfl) rfl k_539 ?_
  refine zr_iloadn X 1 dX6_report_35 rfl ?_
  refine zr_bipush X (nI (27)) dX6_report_36 (by decide +kernel) ?_
  refine zr_dSi [.int (nI (f)), .int (nI (27))] [.ref (ad (1)), .int (μ (32 * f + 33))] X (zK_ok A D tc tF tL tM) (zM_i (z1 := nI (32 * f + 34)) (c_of E μ (f) (27)) (congrArg nI (by omega))) k_597 k_598 k_7 k_599 hdX6_of ⟨rfl, rfl⟩ ⟨Nat.le_of_ble_eq_true rfl, Nat.le_of_ble_eq_true rfl⟩ rfl rfl (Nat.le_of_ble_eq_true rfl) dX6_report_38 ?_
  refine zr_iald X (j := 32 * f + 34) 0 (μ (32 * f + 34)) dX6_report_41 (by omega) rfl rfl rfl (by omega) (by omega) (zcg (b := 32 * f + 34) (by omega) (rfl)) ?_
  refine zr_iadd X ((μ (32 * f + 33)) + (μ (32 * f + 34))) dX6_report_42 rfl ?_
  refine zr_iloadn X 2 dX6_report_43 rfl ?_
  refine zr_iadd X (((μ (32 * f + 33)) + (μ (32 * f + 34))) + (nI (t))) dX6_report_44 rfl ?_
  refine zr_sipush X (nI (9999)) dX6_report_45 (by decide +kernel) ?_
  refine zr_icmp_le X 54 dX6_report_48 (by decide) (fun _ => ?_) (fun q => absurd (h) q)
  refine zr_aloadn X 0 dX6_report_54 rfl ?_
  refine zr_iconst X (nI (0)) dX6_report_55 (by decide +kernel) ?_
  refine zr_dVv (C := RX6) (ci := 6) [.int (nI (0))] [] X (zK_ok A D tc tF tL tM) (c_record E μ (hk) hk4 (by omega)) k_589 k_591 kp_1 k_7 k_592 hdX6_record ⟨rfl, rfl⟩ ⟨Nat.le_of_ble_eq_true rfl, Nat.le_of_ble_eq_true rfl⟩ (by omega) rfl rfl rfl rfl (Nat.le_of_ble_eq_true rfl) dX6_report_56 ?_
  refine zr_aloadn X 0 dX6_report_59 rfl ?_
  refine zr_get X (ci := 6) (q := 0) (zR _) (.ref (ad (1))) dX6_report_60 (by omega) rfl rfl inX6 (by decide) rfl (zvR rfl) rfl k_539 ?_
  refine zr_iloadn X 1 dX6_report_63 rfl ?_
  refine zr_bipush X (nI (26)) dX6_report_64 (by decide +kernel) ?_
  refine zr_dSi [.int (nI (f)), .int (nI (26))] [.ref (ad (1))] X (zK_ok A D tc tF tL tM) (zM_i (z1 := nI (32 * f + 33)) (c_of E (zrec μ (0) (k)) (f) (26)) (congrArg nI (by omega))) k_597 k_598 k_7 k_599 hdX6_of ⟨rfl, rfl⟩ ⟨Nat.le_of_ble_eq_true rfl, Nat.le_of_ble_eq_true rfl⟩ rfl rfl (Nat.le_of_ble_eq_true rfl) dX6_report_66 ?_
  refine zr_dup2 X dX6_report_69 rfl rfl ?_
  refine zr_iald X (j := 32 * f + 33) 0 (μ (32 * f + 33)) dX6_report_70 (by omega) rfl rfl rfl (by omega) (by omega) (zcg (b := 32 * f + 33) (by omega) (zrec_out (by omega) (by omega) hk4)) ?_
  refine zr_iloadn X 2 dX6_report_71 rfl ?_
  refine zr_iadd X ((μ (32 * f + 33)) + (nI (t))) dX6_report_72 rfl ?_
  refine zr_iast X (j := 32 * f + 33) 0 (32 * f + 33) dX6_report_73 (by omega) rfl rfl rfl (by omega) (by omega) (by omega) ?_
  refine zr_aloadn X 0 dX6_report_74 rfl ?_
  refine zr_get X (ci := 6) (q := 0) (zR _) (.ref (ad (1))) dX6_report_75 (by omega) rfl rfl inX6 (by decide) rfl (zvR rfl) rfl k_539 ?_
  refine zr_iloadn X 1 dX6_report_78 rfl ?_
  refine zr_bipush X (nI (26)) dX6_report_79 (by decide +kernel) ?_
  refine zr_dSi [.int (nI (f)), .int (nI (26))] [.ref (ad (1))] X (zK_ok A D tc tF tL tM) (zM_i (z1 := nI (32 * f + 33)) (c_of E (upd (zrec μ (0) (k)) (32 * f + 33) ((μ (32 * f + 33)) + (nI (t)))) (f) (26)) (congrArg nI (by omega))) k_597 k_598 k_7 k_599 hdX6_of ⟨rfl, rfl⟩ ⟨Nat.le_of_ble_eq_true rfl, Nat.le_of_ble_eq_true rfl⟩ rfl rfl (Nat.le_of_ble_eq_true rfl) dX6_report_81 ?_
  refine zr_iald X (j := 32 * f + 33) 0 ((μ (32 * f + 33)) + (nI (t))) dX6_report_84 (by omega) rfl rfl rfl (by omega) (by omega) (zcg (b := 32 * f + 33) (by omega) (pk_us)) ?_
  exact zr_iret X dX6_report_85 ⟨rfl, rfl⟩

set_option maxHeartbeats 4000000 in
set_option maxRecDepth 100000 in
theorem c_verify_u {l : Launch} {D : va_G} {tc : Nat → ClassId} {ad : Nat → Nat} {A : Nat → Prop} {tF tL tM : Nat} (E : zN 6 A ad) (μ : Nat → Int32) {m c k : Nat} (S : refS μ m c k) {x : Int32} (hx : ¬ zfm x c)  : zMi l yX6_verify cX6_verify 2 (some .int) (zrm 5) (zK A D tc tF tL tM) A D vwCl tc ad 6 shR [.ref (ad (0)), .int (x)] μ (fun r u => r = -1 ∧ u = μ) := by
  refine zM_of RX6 [(0, .ref (ad (0))), (1, .int (x))] (zK_ok A D tc tF tL tM) E.1 E.2 owR_ok (by decide +kernel) rfl (Nat.le_of_ble_eq_true rfl) rfl ?_
  intro pP eE sS mM aS bL mT cO X
  obtain ⟨hm, hm2, hc, h8, hk, hk4⟩ := S
  refine zr_aloadn X 0 dX6_verify_0 rfl ?_
  refine zr_iloadn X 1 dX6_verify_1 rfl ?_
  refine zr_dVi (C := RX6) (ci := 6) [.int (x)] [] X (zK_ok A D tc tF tL tM) (c_isFirm_f E μ (hc) h8 hx) k_611 k_613 kp_2 k_7 k_614 hdX6_isFirm ⟨rfl, rfl⟩ ⟨Nat.le_of_ble_eq_true rfl, Nat.le_of_ble_eq_true rfl⟩ (by omega) rfl rfl rfl rfl (Nat.le_of_ble_eq_true rfl) dX6_verify_2 ?_
  refine zr_if_ne X 10 dX6_verify_5 (by decide) (fun q => absurd (zq_eq0 (by omega)) q) (fun _ => ?_)
  refine zr_iconst X (-1) dX6_verify_8 (by decide +kernel) ?_
  exact zr_iret X dX6_verify_9 ⟨rfl, rfl⟩

set_option maxHeartbeats 4000000 in
set_option maxRecDepth 100000 in
theorem c_verify_n {l : Launch} {D : va_G} {tc : Nat → ClassId} {ad : Nat → Nat} {A : Nat → Prop} {tF tL tM : Nat} (E : zN 6 A ad) (μ : Nat → Int32) {m c k : Nat} (S : refS μ m c k) {f : Nat} (hf : f < c) (h : μ (32 * f + 33) = 0) : zMi l yX6_verify cX6_verify 2 (some .int) (zrm 5) (zK A D tc tF tL tM) A D vwCl tc ad 6 shR [.ref (ad (0)), .int (nI (f))] μ (fun r u => r = -5 ∧ u = μ) := by
  refine zM_of RX6 [(0, .ref (ad (0))), (1, .int (nI (f)))] (zK_ok A D tc tF tL tM) E.1 E.2 owR_ok (by decide +kernel) rfl (Nat.le_of_ble_eq_true rfl) rfl ?_
  intro pP eE sS mM aS bL mT cO X
  obtain ⟨hm, hm2, hc, h8, hk, hk4⟩ := S
  refine zr_aloadn X 0 dX6_verify_0 rfl ?_
  refine zr_iloadn X 1 dX6_verify_1 rfl ?_
  refine zr_dVi (C := RX6) (ci := 6) [.int (nI (f))] [] X (zK_ok A D tc tF tL tM) (c_isFirm_t E μ (hc) h8 (by omega)) k_611 k_613 kp_2 k_7 k_614 hdX6_isFirm ⟨rfl, rfl⟩ ⟨Nat.le_of_ble_eq_true rfl, Nat.le_of_ble_eq_true rfl⟩ (by omega) rfl rfl rfl rfl (Nat.le_of_ble_eq_true rfl) dX6_verify_2 ?_
  refine zr_if_ne X 10 dX6_verify_5 (by decide) (fun _ => ?_) (fun q => absurd q (nI_ne0 (by omega) (by omega)))
  refine zr_aloadn X 0 dX6_verify_10 rfl ?_
  refine zr_get X (ci := 6) (q := 0) (zR _) (.ref (ad (1))) dX6_verify_11 (by omega) rfl rfl inX6 (by decide) rfl (zvR rfl) rfl k_539 ?_
  refine zr_iloadn X 1 dX6_verify_14 rfl ?_
  refine zr_bipush X (nI (26)) dX6_verify_15 (by decide +kernel) ?_
  refine zr_dSi [.int (nI (f)), .int (nI (26))] [.ref (ad (1))] X (zK_ok A D tc tF tL tM) (zM_i (z1 := nI (32 * f + 33)) (c_of E μ (f) (26)) (congrArg nI (by omega))) k_597 k_598 k_7 k_599 hdX6_of ⟨rfl, rfl⟩ ⟨Nat.le_of_ble_eq_true rfl, Nat.le_of_ble_eq_true rfl⟩ rfl rfl (Nat.le_of_ble_eq_true rfl) dX6_verify_17 ?_
  refine zr_iald X (j := 32 * f + 33) 0 (μ (32 * f + 33)) dX6_verify_20 (by omega) rfl rfl rfl (by omega) (by omega) (zcg (b := 32 * f + 33) (by omega) (rfl)) ?_
  refine zr_if_ne X 27 dX6_verify_21 (by decide) (fun q => absurd (h) q) (fun _ => ?_)
  refine zr_bipush X (-5) dX6_verify_24 (by decide +kernel) ?_
  exact zr_iret X dX6_verify_26 ⟨rfl, rfl⟩

set_option maxHeartbeats 4000000 in
set_option maxRecDepth 100000 in
theorem c_verify_ok {l : Launch} {D : va_G} {tc : Nat → ClassId} {ad : Nat → Nat} {A : Nat → Prop} {tF tL tM : Nat} (E : zN 6 A ad) (μ : Nat → Int32) {m c k : Nat} (S : refS μ m c k) {f : Nat} (hf : f < c) (h : ¬ μ (32 * f + 33) = 0) : zMi l yX6_verify cX6_verify 2 (some .int) (zrm 5) (zK A D tc tF tL tM) A D vwCl tc ad 6 shR [.ref (ad (0)), .int (nI (f))] μ (fun r u => r = μ (32 * f + 34) + μ (32 * f + 33) ∧ u = (upd (upd (zrec μ (0) (k)) (32 * f + 34) (μ (32 * f + 34) + μ (32 * f + 33))) (32 * f + 33) (nI (0)))) := by
  refine zM_of RX6 [(0, .ref (ad (0))), (1, .int (nI (f)))] (zK_ok A D tc tF tL tM) E.1 E.2 owR_ok (by decide +kernel) rfl (Nat.le_of_ble_eq_true rfl) rfl ?_
  intro pP eE sS mM aS bL mT cO X
  obtain ⟨hm, hm2, hc, h8, hk, hk4⟩ := S
  refine zr_aloadn X 0 dX6_verify_0 rfl ?_
  refine zr_iloadn X 1 dX6_verify_1 rfl ?_
  refine zr_dVi (C := RX6) (ci := 6) [.int (nI (f))] [] X (zK_ok A D tc tF tL tM) (c_isFirm_t E μ (hc) h8 (by omega)) k_611 k_613 kp_2 k_7 k_614 hdX6_isFirm ⟨rfl, rfl⟩ ⟨Nat.le_of_ble_eq_true rfl, Nat.le_of_ble_eq_true rfl⟩ (by omega) rfl rfl rfl rfl (Nat.le_of_ble_eq_true rfl) dX6_verify_2 ?_
  refine zr_if_ne X 10 dX6_verify_5 (by decide) (fun _ => ?_) (fun q => absurd q (nI_ne0 (by omega) (by omega)))
  refine zr_aloadn X 0 dX6_verify_10 rfl ?_
  refine zr_get X (ci := 6) (q := 0) (zR _) (.ref (ad (1))) dX6_verify_11 (by omega) rfl rfl inX6 (by decide) rfl (zvR rfl) rfl k_539 ?_
  refine zr_iloadn X 1 dX6_verify_14 rfl ?_
  refine zr_bipush X (nI (26)) dX6_verify_15 (by decide +kernel) ?_
  refine zr_dSi [.int (nI (f)), .int (nI (26))] [.ref (ad (1))] X (zK_ok A D tc tF tL tM) (zM_i (z1 := nI (32 * f + 33)) (c_of E μ (f) (26)) (congrArg nI (by omega))) k_597 k_598 k_7 k_599 hdX6_of ⟨rfl, rfl⟩ ⟨Nat.le_of_ble_eq_true rfl, Nat.le_of_ble_eq_true rfl⟩ rfl rfl (Nat.le_of_ble_eq_true rfl) dX6_verify_17 ?_
  refine zr_iald X (j := 32 * f + 33) 0 (μ (32 * f + 33)) dX6_verify_20 (by omega) rfl rfl rfl (by omega) (by omega) (zcg (b := 32 * f + 33) (by omega) (rfl)) ?_
  refine zr_if_ne X 27 dX6_verify_21 (by decide) (fun _ => ?_) (fun q => absurd q (h))
  refine zr_aloadn X 0 dX6_verify_27 rfl ?_
  refine zr_iconst X (nI (0)) dX6_verify_28 (by decide +kernel) ?_
  refine zr_dVv (C := RX6) (ci := 6) [.int (nI (0))] [] X (zK_ok A D tc tF tL tM) (c_record E μ (hk) hk4 (by omega)) k_589 k_591 kp_1 k_7 k_592 hdX6_record ⟨rfl, rfl⟩ ⟨Nat.le_of_ble_eq_true rfl, Nat.le_of_ble_eq_true rfl⟩ (by omega) rfl rfl rfl rfl (Nat.le_of_ble_eq_true rfl) dX6_verify_29 ?_
  refine zr_aloadn X 0 dX6_verify_32 rfl ?_
  refine zr_get X (ci := 6) (q := 0) (zR _) (.ref (ad (1))) dX6_verify_33 (by omega) rfl rfl inX6 (by decide) rfl (zvR rfl) rfl k_539 ?_
  refine zr_iloadn X 1 dX6_verify_36 rfl ?_
  refine zr_bipush X (nI (27)) dX6_verify_37 (by decide +kernel) ?_
  refine zr_dSi [.int (nI (f)), .int (nI (27))] [.ref (ad (1))] X (zK_ok A D tc tF tL tM) (zM_i (z1 := nI (32 * f + 34)) (c_of E (zrec μ (0) (k)) (f) (27)) (congrArg nI (by omega))) k_597 k_598 k_7 k_599 hdX6_of ⟨rfl, rfl⟩ ⟨Nat.le_of_ble_eq_true rfl, Nat.le_of_ble_eq_true rfl⟩ rfl rfl (Nat.le_of_ble_eq_true rfl) dX6_verify_39 ?_
  refine zr_dup2 X dX6_verify_42 rfl rfl ?_
  refine zr_iald X (j := 32 * f + 34) 0 (μ (32 * f + 34)) dX6_verify_43 (by omega) rfl rfl rfl (by omega) (by omega) (zcg (b := 32 * f + 34) (by omega) (zrec_out (by omega) (by omega) hk4)) ?_
  refine zr_aloadn X 0 dX6_verify_44 rfl ?_
  refine zr_get X (ci := 6) (q := 0) (zR _) (.ref (ad (1))) dX6_verify_45 (by omega) rfl rfl inX6 (by decide) rfl (zvR rfl) rfl k_539 ?_
  refine zr_iloadn X 1 dX6_verify_48 rfl ?_
  refine zr_bipush X (nI (26)) dX6_verify_49 (by decide +kernel) ?_
  refine zr_dSi [.int (nI (f)), .int (nI (26))] [.ref (ad (1)), .int (μ (32 * f + 34)), .int (nI (32 * f + 34)), .ref (ad (1))] X (zK_ok A D tc tF tL tM) (zM_i (z1 := nI (32 * f + 33)) (c_of E (zrec μ (0) (k)) (f) (26)) (congrArg nI (by omega))) k_597 k_598 k_7 k_599 hdX6_of ⟨rfl, rfl⟩ ⟨Nat.le_of_ble_eq_true rfl, Nat.le_of_ble_eq_true rfl⟩ rfl rfl (Nat.le_of_ble_eq_true rfl) dX6_verify_51 ?_
  refine zr_iald X (j := 32 * f + 33) 0 (μ (32 * f + 33)) dX6_verify_54 (by omega) rfl rfl rfl (by omega) (by omega) (zcg (b := 32 * f + 33) (by omega) (zrec_out (by omega) (by omega) hk4)) ?_
  refine zr_iadd X ((μ (32 * f + 34)) + (μ (32 * f + 33))) dX6_verify_55 rfl ?_
  refine zr_iast X (j := 32 * f + 34) 0 (32 * f + 34) dX6_verify_56 (by omega) rfl rfl rfl (by omega) (by omega) (by omega) ?_
  refine zr_aloadn X 0 dX6_verify_57 rfl ?_
  refine zr_get X (ci := 6) (q := 0) (zR _) (.ref (ad (1))) dX6_verify_58 (by omega) rfl rfl inX6 (by decide) rfl (zvR rfl) rfl k_539 ?_
  refine zr_iloadn X 1 dX6_verify_61 rfl ?_
  refine zr_bipush X (nI (26)) dX6_verify_62 (by decide +kernel) ?_
  refine zr_dSi [.int (nI (f)), .int (nI (26))] [.ref (ad (1))] X (zK_ok A D tc tF tL tM) (zM_i (z1 := nI (32 * f + 33)) (c_of E (upd (zrec μ (0) (k)) (32 * f + 34) ((μ (32 * f + 34)) + (μ (32 * f + 33)))) (f) (26)) (congrArg nI (by omega))) k_597 k_598 k_7 k_599 hdX6_of ⟨rfl, rfl⟩ ⟨Nat.le_of_ble_eq_true rfl, Nat.le_of_ble_eq_true rfl⟩ rfl rfl (Nat.le_of_ble_eq_true rfl) dX6_verify_64 ?_
  refine zr_iconst X (nI (0)) dX6_verify_67 (by decide +kernel) ?_
  refine zr_iast X (j := 32 * f + 33) 0 (32 * f + 33) dX6_verify_68 (by omega) rfl rfl rfl (by omega) (by omega) (by omega) ?_
  refine zr_aloadn X 0 dX6_verify_69 rfl ?_
  refine zr_get X (ci := 6) (q := 0) (zR _) (.ref (ad (1))) dX6_verify_70 (by omega) rfl rfl inX6 (by decide) rfl (zvR rfl) rfl k_539 ?_
  refine zr_iloadn X 1 dX6_verify_73 rfl ?_
  refine zr_bipush X (nI (27)) dX6_verify_74 (by decide +kernel) ?_
  refine zr_dSi [.int (nI (f)), .int (nI (27))] [.ref (ad (1))] X (zK_ok A D tc tF tL tM) (zM_i (z1 := nI (32 * f + 34)) (c_of E (upd (upd (zrec μ (0) (k)) (32 * f + 34) ((μ (32 * f + 34)) + (μ (32 * f + 33)))) (32 * f + 33) (nI (0))) (f) (27)) (congrArg nI (by omega))) k_597 k_598 k_7 k_599 hdX6_of ⟨rfl, rfl⟩ ⟨Nat.le_of_ble_eq_true rfl, Nat.le_of_ble_eq_true rfl⟩ rfl rfl (Nat.le_of_ble_eq_true rfl) dX6_verify_76 ?_
  refine zr_iald X (j := 32 * f + 34) 0 ((μ (32 * f + 34)) + (μ (32 * f + 33))) dX6_verify_79 (by omega) rfl rfl rfl (by omega) (by omega) (zcg (b := 32 * f + 34) (by omega) ((pk_un (by omega)).trans (pk_us))) ?_
  exact zr_iret X dX6_verify_80 ⟨rfl, rfl⟩

