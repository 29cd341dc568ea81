set_option maxHeartbeats 4000000 in
set_option maxRecDepth 100000 in
theorem c_allHeld {l : Launch} {D : va_G} {tc : Nat → ClassId} {ad : Nat → Nat} {A : Nat → Prop} {tF tL tM : Nat} (E : zN 6 A ad) (μ : Nat → Int32) {c : Nat} (hc : μ 1 = nI c) (h8 : c ≤ 8)  : zMi l yX6_allHeld cX6_allHeld 3 (some .int) (zrm 3) (zK A D tc tF tL tM) A D vwCl tc ad 6 shR [.ref (ad (0))] μ (fun r u => r = zsum (fun f => zsum (fun v => μ (32 * f + v + 7)) 20) c ∧ u = μ) := by
  refine zM_of RX6 [(0, .ref (ad (0)))] (zK_ok A D tc tF tL tM) E.1 E.2 owR_ok (by decide +kernel) rfl (Nat.le_of_ble_eq_true rfl) rfl ?_
  intro pP eE sS mM aS bL mT cO X
  refine zr_iconst X (nI (0)) dX6_allHeld_0 (by decide +kernel) ?_
  refine zr_istoren X [1, 0] [(0, .ref (ad (0))), (1, .int (nI (0)))] dX6_allHeld_1 (by decide) rfl ?_
  refine zr_iconst X (nI (0)) dX6_allHeld_2 (by decide +kernel) ?_
  refine zr_istoren X [1, 2, 0] [(0, .ref (ad (0))), (1, .int (nI (0))), (2, .int (nI (0)))] dX6_allHeld_3 (by decide) rfl ?_
  refine zr_for X (c) (fun i => μ) (fun i => [(0, .ref (ad (0))), (1, .int (zsum (fun f => zsum (fun v => μ (32 * f + v + 7)) 20) (i))), (2, .int (nI (i)))]) [] (rfl) rfl ?_ ?_
  · refine zr_iloadn X 2 dX6_allHeld_4 rfl ?_
    refine zr_aloadn X 0 dX6_allHeld_5 rfl ?_
    refine zr_get X (ci := 6) (q := 0) (zR (1)) (.ref (ad (1))) dX6_allHeld_6 (by omega) rfl rfl inX6 (by decide) rfl (rfl) rfl k_539 ?_
    refine zr_iconst X (nI (1)) dX6_allHeld_9 (by decide +kernel) ?_
    refine zr_iald X (j := 1) 0 (nI (c)) dX6_allHeld_10 (by omega) rfl rfl rfl (by omega) (by omega) (zcg (b := 1) (by omega) (hc)) ?_
    refine zr_icmp_ge X 28 dX6_allHeld_11 (by decide) (fun _ => ?_) (fun q => absurd (zq_le (by omega) (by omega)) q)
    refine zr_iloadn X 1 dX6_allHeld_28 rfl ?_
    exact zr_iret X dX6_allHeld_29 ⟨rfl, rfl⟩
  · intro i hi ih4
    refine zr_iloadn X 2 dX6_allHeld_4 rfl ?_
    refine zr_aloadn X 0 dX6_allHeld_5 rfl ?_
    refine zr_get X (ci := 6) (q := 0) (zR (1)) (.ref (ad (1))) dX6_allHeld_6 (by omega) rfl rfl inX6 (by decide) rfl (rfl) rfl k_539 ?_
    refine zr_iconst X (nI (1)) dX6_allHeld_9 (by decide +kernel) ?_
    refine zr_iald X (j := 1) 0 (nI (c)) dX6_allHeld_10 (by omega) rfl rfl rfl (by omega) (by omega) (zcg (b := 1) (by omega) (hc)) ?_
    refine zr_icmp_ge X 28 dX6_allHeld_11 (by decide) (fun q => absurd q (nI_ge (by omega) (by omega))) (fun _ => ?_)
    refine zr_iloadn X 1 dX6_allHeld_14 rfl ?_
    refine zr_aloadn X 0 dX6_allHeld_15 rfl ?_
    refine zr_iloadn X 2 dX6_allHeld_16 rfl ?_
    refine zr_dVi (C := RX6) (ci := 6) [.int (nI (i))] [.int (zsum (fun f => zsum (fun v => μ (32 * f + v + 7)) 20) (i))] X (zK_ok A D tc tF tL tM) (c_heldBy E μ (f := i) (by omega)) k_731 k_733 kp_17 k_7 k_734 hdX6_heldBy ⟨rfl, rfl⟩ ⟨Nat.le_of_ble_eq_true rfl, Nat.le_of_ble_eq_true rfl⟩ (by omega) rfl rfl rfl rfl (Nat.le_of_ble_eq_true rfl) dX6_allHeld_17 ?_
    refine zr_iadd X ((zsum (fun f => zsum (fun v => μ (32 * f + v + 7)) 20) (i)) + (zsum (fun v => μ (32 * i + v + 7)) 20)) dX6_allHeld_20 rfl ?_
    refine zr_istoren X [1, 0, 2] [(0, .ref (ad (0))), (1, .int ((zsum (fun f => zsum (fun v => μ (32 * f + v + 7)) 20) (i)) + (zsum (fun v => μ (32 * i + v + 7)) 20))), (2, .int (nI (i)))] dX6_allHeld_21 (by decide) rfl ?_
    refine zr_iinc X 2 (nI (i + 1)) [1, 2, 0] [(0, .ref (ad (0))), (1, .int ((zsum (fun f => zsum (fun v => μ (32 * f + v + 7)) 20) (i)) + (zsum (fun v => μ (32 * i + v + 7)) 20))), (2, .int (nI (i + 1)))] dX6_allHeld_22 rfl (zinc _) (by decide) rfl ?_
    refine zr_goto X 4 dX6_allHeld_25 (by decide) ?_
    exact ih4

set_option maxHeartbeats 4000000 in
set_option maxRecDepth 100000 in
theorem c_allLost {l : Launch} {D : va_G} {tc : Nat → ClassId} {ad : Nat → Nat} {A : Nat → Prop} {tF tL tM : Nat} (E : zN 6 A ad) (μ : Nat → Int32)  : zMi l yX6_allLost cX6_allLost 3 (some .int) (zrm 2) (zK A D tc tF tL tM) A D vwCl tc ad 6 shR [.ref (ad (0))] μ (fun r u => r = zsum (fun v => μ (v + 323)) 20 ∧ u = μ) := by
  refine zM_of RX6 [(0, .ref (ad (0)))] (zK_ok A D tc tF tL tM) E.1 E.2 owR_ok (by decide +kernel) rfl (Nat.le_of_ble_eq_true rfl) rfl ?_
  intro pP eE sS mM aS bL mT cO X
  refine zr_iconst X (nI (0)) dX6_allLost_0 (by decide +kernel) ?_
  refine zr_istoren X [1, 0] [(0, .ref (ad (0))), (1, .int (nI (0)))] dX6_allLost_1 (by decide) rfl ?_
  refine zr_iconst X (nI (0)) dX6_allLost_2 (by decide +kernel) ?_
  refine zr_istoren X [1, 2, 0] [(0, .ref (ad (0))), (1, .int (nI (0))), (2, .int (nI (0)))] dX6_allLost_3 (by decide) rfl ?_
  refine zr_for X (20) (fun i => μ) (fun i => [(0, .ref (ad (0))), (1, .int (zsum (fun v => μ (v + 323)) (i))), (2, .int (nI (i)))]) [] (rfl) rfl ?_ ?_
  · refine zr_iloadn X 2 dX6_allLost_4 rfl ?_
    refine zr_bipush X (nI (20)) dX6_allLost_5 (by decide +kernel) ?_
    refine zr_icmp_ge X 29 dX6_allLost_7 (by decide) (fun _ => ?_) (fun q => absurd (zq_le (by omega) (by omega)) q)
    refine zr_iloadn X 1 dX6_allLost_29 rfl ?_
    exact zr_iret X dX6_allLost_30 ⟨rfl, rfl⟩
  · intro i hi ih4
    refine zr_iloadn X 2 dX6_allLost_4 rfl ?_
    refine zr_bipush X (nI (20)) dX6_allLost_5 (by decide +kernel) ?_
    refine zr_icmp_ge X 29 dX6_allLost_7 (by decide) (fun q => absurd q (nI_ge (by omega) (by omega))) (fun _ => ?_)
    refine zr_iloadn X 1 dX6_allLost_10 rfl ?_
    refine zr_aloadn X 0 dX6_allLost_11 rfl ?_
    refine zr_get X (ci := 6) (q := 0) (zR (1)) (.ref (ad (1))) dX6_allLost_12 (by omega) rfl rfl inX6 (by decide) rfl (rfl) rfl k_539 ?_
    refine zr_sipush X (nI (323)) dX6_allLost_15 (by decide +kernel) ?_
    refine zr_iloadn X 2 dX6_allLost_18 rfl ?_
    refine zr_iadd X (nI (i + 323)) dX6_allLost_19 ((nI_add _ _).trans (congrArg nI (by omega))) ?_
    refine zr_iald X (j := i + 323) 0 (μ (i + 323)) dX6_allLost_20 (by omega) rfl rfl rfl (by omega) (by omega) (zcg (b := i + 323) (by omega) (rfl)) ?_
    refine zr_iadd X ((zsum (fun v => μ (v + 323)) (i)) + (μ (i + 323))) dX6_allLost_21 rfl ?_
    refine zr_istoren X [1, 0, 2] [(0, .ref (ad (0))), (1, .int ((zsum (fun v => μ (v + 323)) (i)) + (μ (i + 323)))), (2, .int (nI (i)))] dX6_allLost_22 (by decide) rfl ?_
    refine zr_iinc X 2 (nI (i + 1)) [1, 2, 0] [(0, .ref (ad (0))), (1, .int ((zsum (fun v => μ (v + 323)) (i)) + (μ (i + 323)))), (2, .int (nI (i + 1)))] dX6_allLost_23 rfl (zinc _) (by decide) rfl ?_
    refine zr_goto X 4 dX6_allLost_26 (by decide) ?_
    exact ih4

set_option maxHeartbeats 4000000 in
set_option maxRecDepth 100000 in
theorem c_monthsToDeadline {l : Launch} {D : va_G} {tc : Nat → ClassId} {ad : Nat → Nat} {A : Nat → Prop} {tF tL tM : Nat} (E : zN 6 A ad) (μ : Nat → Int32) {m q : Nat} (hm : μ 0 = nI m) (hm2 : m < 240) (hq1 : m < q) (hq2 : q ≤ m + 16) (hq3 : q % 12 = 4) (hq4 : 12 ≤ q) (hmin : ∀ i, m < i → i < q → ¬ (i % 12 = 4 ∧ 12 ≤ i)) : zMi l yX6_monthsToDeadline cX6_monthsToDeadline 2 (some .int) (zrm 2) (zK A D tc tF tL tM) A D vwCl tc ad 6 shR [.ref (ad (0))] μ (fun r u => r = nI (q - m) ∧ u = μ) := by
  refine zM_of RX6 [(0, .ref (ad (0)))] (zK_ok A D tc tF tL tM) E.1 E.2 owR_ok (by decide +kernel) rfl (Nat.le_of_ble_eq_true rfl) rfl ?_
  intro pP eE sS mM aS bL mT cO X
  refine zr_aloadn X 0 dX6_monthsToDeadline_0 rfl ?_
  refine zr_get X (ci := 6) (q := 0) (zR (1)) (.ref (ad (1))) dX6_monthsToDeadline_1 (by omega) rfl rfl inX6 (by decide) rfl (rfl) rfl k_539 ?_
  refine zr_iconst X (nI (0)) dX6_monthsToDeadline_4 (by decide +kernel) ?_
  refine zr_iald X (j := 0) 0 (nI (m)) dX6_monthsToDeadline_5 (by omega) rfl rfl rfl (by omega) (by omega) (zcg (b := 0) (by omega) (hm)) ?_
  refine zr_iconst X (nI (1)) dX6_monthsToDeadline_6 (by decide +kernel) ?_
  refine zr_iadd X (nI (m + 1)) dX6_monthsToDeadline_7 (nI_add _ _) ?_
  refine zr_istoren X [1, 0] [(0, .ref (ad (0))), (1, .int (nI (m + 1)))] dX6_monthsToDeadline_8 (by decide) rfl ?_
  refine zr_forFrom X (m + 1) (q) (fun i => μ) (fun i => [(0, .ref (ad (0))), (1, .int (nI (i)))]) [] (by omega) (rfl) rfl ?_ ?_
  · refine zr_iloadn X 1 dX6_monthsToDeadline_9 rfl ?_
    refine zr_bipush X (nI (12)) dX6_monthsToDeadline_10 (by decide +kernel) ?_
    refine zr_irem X (nI ((q % 12))) dX6_monthsToDeadline_12 (by decide +kernel) (pk_rem (by omega) (by omega) (by omega)) ?_
    refine zr_iconst X (nI (4)) dX6_monthsToDeadline_13 (by decide +kernel) ?_
    refine zr_icmp_ne X 23 dX6_monthsToDeadline_14 (by decide) (fun q => absurd (zq_eq (by omega)) q) (fun _ => ?_)
    refine zr_iloadn X 1 dX6_monthsToDeadline_17 rfl ?_
    refine zr_bipush X (nI (12)) dX6_monthsToDeadline_18 (by decide +kernel) ?_
    refine zr_icmp_ge X 29 dX6_monthsToDeadline_20 (by decide) (fun _ => ?_) (fun q => absurd (zq_le (by omega) (by omega)) q)
    refine zr_iloadn X 1 dX6_monthsToDeadline_29 rfl ?_
    refine zr_aloadn X 0 dX6_monthsToDeadline_30 rfl ?_
    refine zr_get X (ci := 6) (q := 0) (zR (1)) (.ref (ad (1))) dX6_monthsToDeadline_31 (by omega) rfl rfl inX6 (by decide) rfl (rfl) rfl k_539 ?_
    refine zr_iconst X (nI (0)) dX6_monthsToDeadline_34 (by decide +kernel) ?_
    refine zr_iald X (j := 0) 0 (nI (m)) dX6_monthsToDeadline_35 (by omega) rfl rfl rfl (by omega) (by omega) (zcg (b := 0) (by omega) (hm)) ?_
    refine zr_isub X (nI (q - m)) dX6_monthsToDeadline_36 ((pk_sub (by omega)).trans (congrArg nI (by omega))) ?_
    exact zr_iret X dX6_monthsToDeadline_37 ⟨rfl, rfl⟩
  · intro i hi0 hi ih9
    have hmi := hmin i (by omega) hi
    refine zr_iloadn X 1 dX6_monthsToDeadline_9 rfl ?_
    refine zr_bipush X (nI (12)) dX6_monthsToDeadline_10 (by decide +kernel) ?_
    refine zr_irem X (nI ((i % 12))) dX6_monthsToDeadline_12 (by decide +kernel) (pk_rem (by omega) (by omega) (by omega)) ?_
    refine zr_iconst X (nI (4)) dX6_monthsToDeadline_13 (by decide +kernel) ?_
    refine zr_icmp_ne X 23 dX6_monthsToDeadline_14 (by decide) (fun h14 => ?_) (fun h14 => ?_)
    · refine zr_iinc X 1 (nI (i + 1)) [1, 0] [(0, .ref (ad (0))), (1, .int (nI (i + 1)))] dX6_monthsToDeadline_23 rfl (zinc _) (by decide) rfl ?_
      refine zr_goto X 9 dX6_monthsToDeadline_26 (by decide) ?_
      exact ih9
    · have h14 : i % 12 = 4 := (nI_eq (by omega) (by omega)).mp h14
      refine zr_iloadn X 1 dX6_monthsToDeadline_17 rfl ?_
      refine zr_bipush X (nI (12)) dX6_monthsToDeadline_18 (by decide +kernel) ?_
      refine zr_icmp_ge X 29 dX6_monthsToDeadline_20 (by decide) (fun q => absurd q (nI_ge (by omega) (by omega))) (fun _ => ?_)
      refine zr_iinc X 1 (nI (i + 1)) [1, 0] [(0, .ref (ad (0))), (1, .int (nI (i + 1)))] dX6_monthsToDeadline_23 rfl (zinc _) (by decide) rfl ?_
      refine zr_goto X 9 dX6_monthsToDeadline_26 (by decide) ?_
      exact ih9

set_option maxHeartbeats 4000000 in
set_option maxRecDepth 100000 in
theorem c_count_b {l : Launch} {D : va_G} {tc : Nat → ClassId} {ad : Nat → Nat} {A : Nat → Prop} {tF tL tM : Nat} (E : zN 6 A ad) (μ : Nat → Int32) {m c k : Nat} (S : refS μ m c k) {z : Int32} (hx : ¬ zin z 0 14)  : zMi l yX6_count cX6_count 2 (some .int) (zrm 5) (zK A D tc tF tL tM) A D vwCl tc ad 6 shR [.ref (ad (0)), .int (z)] μ (fun r u => r = -2 ∧ u = μ) := by
  refine zM_of RX6 [(0, .ref (ad (0))), (1, .int (z))] (zK_ok A D tc tF tL tM) E.1 E.2 owR_ok (by decide +kernel) rfl (Nat.le_of_ble_eq_true rfl) rfl ?_
  intro pP eE sS mM aS bL mT cO X
  obtain ⟨hm, hm2, hc, h8, hk, hk4⟩ := S
  refine zr_iloadn X 1 dX6_count_0 rfl ?_
  refine zr_tswO X 145 dX6_count_1 (zsw_out hx (by omega) rfl rfl) (by decide) ?_
  refine zr_bipush X (-2) dX6_count_145 (by decide +kernel) ?_
  exact zr_iret X dX6_count_147 ⟨rfl, rfl⟩

set_option maxHeartbeats 4000000 in
set_option maxRecDepth 100000 in
theorem c_count_0 {l : Launch} {D : va_G} {tc : Nat → ClassId} {ad : Nat → Nat} {A : Nat → Prop} {tF tL tM : Nat} (E : zN 6 A ad) (μ : Nat → Int32) {m c k : Nat} (S : refS μ m c k)  : zMi l yX6_count cX6_count 2 (some .int) (zrm 6) (zK A D tc tF tL tM) A D vwCl tc ad 6 shR [.ref (ad (0)), .int (nI (0))] μ (fun r u => r = nI m ∧ u = μ) := by
  refine zM_of RX6 [(0, .ref (ad (0))), (1, .int (nI (0)))] (zK_ok A D tc tF tL tM) E.1 E.2 owR_ok (by decide +kernel) rfl (Nat.le_of_ble_eq_true rfl) rfl ?_
  intro pP eE sS mM aS bL mT cO X
  obtain ⟨hm, hm2, hc, h8, hk, hk4⟩ := S
  refine zr_iloadn X 1 dX6_count_0 rfl ?_
  refine zr_tswI (off := 75) X 76 dX6_count_1 ⟨by decide +kernel, by decide +kernel, by decide +kernel⟩ (by decide) ?_
  refine zr_aloadn X 0 dX6_count_76 rfl ?_
  refine zr_get X (ci := 6) (q := 0) (zR (1)) (.ref (ad (1))) dX6_count_77 (by omega) rfl rfl inX6 (by decide) rfl (rfl) rfl k_539 ?_
  refine zr_iconst X (nI (0)) dX6_count_80 (by decide +kernel) ?_
  refine zr_iald X (j := 0) 0 (nI (m)) dX6_count_81 (by omega) rfl rfl rfl (by omega) (by omega) (zcg (b := 0) (by omega) (hm)) ?_
  exact zr_iret X dX6_count_82 ⟨rfl, rfl⟩

set_option maxHeartbeats 4000000 in
set_option maxRecDepth 100000 in
theorem c_count_1 {l : Launch} {D : va_G} {tc : Nat → ClassId} {ad : Nat → Nat} {A : Nat → Prop} {tF tL tM : Nat} (E : zN 6 A ad) (μ : Nat → Int32) {m c k : Nat} (S : refS μ m c k) {y : Nat} (hy : m / 12 = y)  : zMi l yX6_count cX6_count 2 (some .int) (zrm 6) (zK A D tc tF tL tM) A D vwCl tc ad 6 shR [.ref (ad (0)), .int (nI (1))] μ (fun r u => r = nI y ∧ u = μ) := by
  refine zM_of RX6 [(0, .ref (ad (0))), (1, .int (nI (1)))] (zK_ok A D tc tF tL tM) E.1 E.2 owR_ok (by decide +kernel) rfl (Nat.le_of_ble_eq_true rfl) rfl ?_
  intro pP eE sS mM aS bL mT cO X
  obtain ⟨hm, hm2, hc, h8, hk, hk4⟩ := S
  refine zr_iloadn X 1 dX6_count_0 rfl ?_
  refine zr_tswI (off := 82) X 83 dX6_count_1 ⟨by decide +kernel, by decide +kernel, by decide +kernel⟩ (by decide) ?_
  refine zr_aloadn X 0 dX6_count_83 rfl ?_
  refine zr_dVi (C := RX6) (ci := 6) [] [] X (zK_ok A D tc tF tL tM) (c_year E μ (hm) hm2 hy) k_618 k_620 kp_3 k_7 k_621 hdX6_year ⟨rfl, rfl⟩ ⟨Nat.le_of_ble_eq_true rfl, Nat.le_of_ble_eq_true rfl⟩ (by omega) rfl rfl rfl rfl (Nat.le_of_ble_eq_true rfl) dX6_count_84 ?_
  exact zr_iret X dX6_count_87 ⟨rfl, rfl⟩

set_option maxHeartbeats 4000000 in
set_option maxRecDepth 100000 in
theorem c_count_2 {l : Launch} {D : va_G} {tc : Nat → ClassId} {ad : Nat → Nat} {A : Nat → Prop} {tF tL tM : Nat} (E : zN 6 A ad) (μ : Nat → Int32) {m c k : Nat} (S : refS μ m c k)  : zMi l yX6_count cX6_count 2 (some .int) (zrm 6) (zK A D tc tF tL tM) A D vwCl tc ad 6 shR [.ref (ad (0)), .int (nI (2))] μ (fun r u => r = nI c ∧ u = μ) := by
  refine zM_of RX6 [(0, .ref (ad (0))), (1, .int (nI (2)))] (zK_ok A D tc tF tL tM) E.1 E.2 owR_ok (by decide +kernel) rfl (Nat.le_of_ble_eq_true rfl) rfl ?_
  intro pP eE sS mM aS bL mT cO X
  obtain ⟨hm, hm2, hc, h8, hk, hk4⟩ := S
  refine zr_iloadn X 1 dX6_count_0 rfl ?_
  refine zr_tswI (off := 87) X 88 dX6_count_1 ⟨by decide +kernel, by decide +kernel, by decide +kernel⟩ (by decide) ?_
  refine zr_aloadn X 0 dX6_count_88 rfl ?_
  refine zr_get X (ci := 6) (q := 0) (zR (1)) (.ref (ad (1))) dX6_count_89 (by omega) rfl rfl inX6 (by decide) rfl (rfl) rfl k_539 ?_
  refine zr_iconst X (nI (1)) dX6_count_92 (by decide +kernel) ?_
  refine zr_iald X (j := 1) 0 (nI (c)) dX6_count_93 (by omega) rfl rfl rfl (by omega) (by omega) (zcg (b := 1) (by omega) (hc)) ?_
  exact zr_iret X dX6_count_94 ⟨rfl, rfl⟩

set_option maxHeartbeats 4000000 in
set_option maxRecDepth 100000 in
theorem c_count_3 {l : Launch} {D : va_G} {tc : Nat → ClassId} {ad : Nat → Nat} {A : Nat → Prop} {tF tL tM : Nat} (E : zN 6 A ad) (μ : Nat → Int32) {m c k : Nat} (S : refS μ m c k)  : zMi l yX6_count cX6_count 2 (some .int) (zrm 6) (zK A D tc tF tL tM) A D vwCl tc ad 6 shR [.ref (ad (0)), .int (nI (3))] μ (fun r u => r = μ 2 ∧ u = μ) := by
  refine zM_of RX6 [(0, .ref (ad (0))), (1, .int (nI (3)))] (zK_ok A D tc tF tL tM) E.1 E.2 owR_ok (by decide +kernel) rfl (Nat.le_of_ble_eq_true rfl) rfl ?_
  intro pP eE sS mM aS bL mT cO X
  obtain ⟨hm, hm2, hc, h8, hk, hk4⟩ := S
  refine zr_iloadn X 1 dX6_count_0 rfl ?_
  refine zr_tswI (off := 94) X 95 dX6_count_1 ⟨by decide +kernel, by decide +kernel, by decide +kernel⟩ (by decide) ?_
  refine zr_aloadn X 0 dX6_count_95 rfl ?_
  refine zr_get X (ci := 6) (q := 0) (zR (1)) (.ref (ad (1))) dX6_count_96 (by omega) rfl rfl inX6 (by decide) rfl (rfl) rfl k_539 ?_
  refine zr_iconst X (nI (2)) dX6_count_99 (by decide +kernel) ?_
  refine zr_iloadn X 1 dX6_count_100 rfl ?_
  refine zr_iadd X (nI (5)) dX6_count_101 ((nI_add _ _).trans (congrArg nI (by omega))) ?_
  refine zr_iconst X (nI (3)) dX6_count_102 (by decide +kernel) ?_
  refine zr_isub X (nI (2)) dX6_count_103 ((pk_sub (by omega)).trans (congrArg nI (by omega))) ?_
  refine zr_iald X (j := 2) 0 (μ (2)) dX6_count_104 (by omega) rfl rfl rfl (by omega) (by omega) (zcg (b := 2) (by omega) (rfl)) ?_
  exact zr_iret X dX6_count_105 ⟨rfl, rfl⟩

set_option maxHeartbeats 4000000 in
set_option maxRecDepth 100000 in
theorem c_count_4 {l : Launch} {D : va_G} {tc : Nat → ClassId} {ad : Nat → Nat} {A : Nat → Prop} {tF tL tM : Nat} (E : zN 6 A ad) (μ : Nat → Int32) {m c k : Nat} (S : refS μ m c k)  : zMi l yX6_count cX6_count 2 (some .int) (zrm 6) (zK A D tc tF tL tM) A D vwCl tc ad 6 shR [.ref (ad (0)), .int (nI (4))] μ (fun r u => r = μ 3 ∧ u = μ) := by
  refine zM_of RX6 [(0, .ref (ad (0))), (1, .int (nI (4)))] (zK_ok A D tc tF tL tM) E.1 E.2 owR_ok (by decide +kernel) rfl (Nat.le_of_ble_eq_true rfl) rfl ?_
  intro pP eE sS mM aS bL mT cO X
  obtain ⟨hm, hm2, hc, h8, hk, hk4⟩ := S
  refine zr_iloadn X 1 dX6_count_0 rfl ?_
  refine zr_tswI (off := 94) X 95 dX6_count_1 ⟨by decide +kernel, by decide +kernel, by decide +kernel⟩ (by decide) ?_
  refine zr_aloadn X 0 dX6_count_95 rfl ?_
  refine zr_get X (ci := 6) (q := 0) (zR (1)) (.ref (ad (1))) dX6_count_96 (by omega) rfl rfl inX6 (by decide) rfl (rfl) rfl k_539 ?_
  refine zr_iconst X (nI (2)) dX6_count_99 (by decide +kernel) ?_
  refine zr_iloadn X 1 dX6_count_100 rfl ?_
  refine zr_iadd X (nI (6)) dX6_count_101 ((nI_add _ _).trans (congrArg nI (by omega))) ?_
  refine zr_iconst X (nI (3)) dX6_count_102 (by decide +kernel) ?_
  refine zr_isub X (nI (3)) dX6_count_103 ((pk_sub (by omega)).trans (congrArg nI (by omega))) ?_
  refine zr_iald X (j := 3) 0 (μ (3)) dX6_count_104 (by omega) rfl rfl rfl (by omega) (by omega) (zcg (b := 3) (by omega) (rfl)) ?_
  exact zr_iret X dX6_count_105 ⟨rfl, rfl⟩

set_option maxHeartbeats 4000000 in
set_option maxRecDepth 100000 in
theorem c_count_5 {l : Launch} {D : va_G} {tc : Nat → ClassId} {ad : Nat → Nat} {A : Nat → Prop} {tF tL tM : Nat} (E : zN 6 A ad) (μ : Nat → Int32) {m c k : Nat} (S : refS μ m c k)  : zMi l yX6_count cX6_count 2 (some .int) (zrm 6) (zK A D tc tF tL tM) A D vwCl tc ad 6 shR [.ref (ad (0)), .int (nI (5))] μ (fun r u => r = μ 4 ∧ u = μ) := by
  refine zM_of RX6 [(0, .ref (ad (0))), (1, .int (nI (5)))] (zK_ok A D tc tF tL tM) E.1 E.2 owR_ok (by decide +kernel) rfl (Nat.le_of_ble_eq_true rfl) rfl ?_
  intro pP eE sS mM aS bL mT cO X
  obtain ⟨hm, hm2, hc, h8, hk, hk4⟩ := S
  refine zr_iloadn X 1 dX6_count_0 rfl ?_
  refine zr_tswI (off := 94) X 95 dX6_count_1 ⟨by decide +kernel, by decide +kernel, by decide +kernel⟩ (by decide) ?_
  refine zr_aloadn X 0 dX6_count_95 rfl ?_
  refine zr_get X (ci := 6) (q := 0) (zR (1)) (.ref (ad (1))) dX6_count_96 (by omega) rfl rfl inX6 (by decide) rfl (rfl) rfl k_539 ?_
  refine zr_iconst X (nI (2)) dX6_count_99 (by decide +kernel) ?_
  refine zr_iloadn X 1 dX6_count_100 rfl ?_
  refine zr_iadd X (nI (7)) dX6_count_101 ((nI_add _ _).trans (congrArg nI (by omega))) ?_
  refine zr_iconst X (nI (3)) dX6_count_102 (by decide +kernel) ?_
  refine zr_isub X (nI (4)) dX6_count_103 ((pk_sub (by omega)).trans (congrArg nI (by omega))) ?_
  refine zr_iald X (j := 4) 0 (μ (4)) dX6_count_104 (by omega) rfl rfl rfl (by omega) (by omega) (zcg (b := 4) (by omega) (rfl)) ?_
  exact zr_iret X dX6_count_105 ⟨rfl, rfl⟩

set_option maxHeartbeats 4000000 in
set_option maxRecDepth 100000 in
theorem c_count_6 {l : Launch} {D : va_G} {tc : Nat → ClassId} {ad : Nat → Nat} {A : Nat → Prop} {tF tL tM : Nat} (E : zN 6 A ad) (μ : Nat → Int32) {m c k : Nat} (S : refS μ m c k)  : zMi l yX6_count cX6_count 2 (some .int) (zrm 6) (zK A D tc tF tL tM) A D vwCl tc ad 6 shR [.ref (ad (0)), .int (nI (6))] μ (fun r u => r = μ 5 ∧ u = μ) := by
  refine zM_of RX6 [(0, .ref (ad (0))), (1, .int (nI (6)))] (zK_ok A D tc tF tL tM) E.1 E.2 owR_ok (by decide +kernel) rfl (Nat.le_of_ble_eq_true rfl) rfl ?_
  intro pP eE sS mM aS bL mT cO X
  obtain ⟨hm, hm2, hc, h8, hk, hk4⟩ := S
  refine zr_iloadn X 1 dX6_count_0 rfl ?_
  refine zr_tswI (off := 94) X 95 dX6_count_1 ⟨by decide +kernel, by decide +kernel, by decide +kernel⟩ (by decide) ?_
  refine zr_aloadn X 0 dX6_count_95 rfl ?_
  refine zr_get X (ci := 6) (q := 0) (zR (1)) (.ref (ad (1))) dX6_count_96 (by omega) rfl rfl inX6 (by decide) rfl (rfl) rfl k_539 ?_
  refine zr_iconst X (nI (2)) dX6_count_99 (by decide +kernel) ?_
  refine zr_iloadn X 1 dX6_count_100 rfl ?_
  refine zr_iadd X (nI (8)) dX6_count_101 ((nI_add _ _).trans (congrArg nI (by omega))) ?_
  refine zr_iconst X (nI (3)) dX6_count_102 (by decide +kernel) ?_
  refine zr_isub X (nI (5)) dX6_count_103 ((pk_sub (by omega)).trans (congrArg nI (by omega))) ?_
  refine zr_iald X (j := 5) 0 (μ (5)) dX6_count_104 (by omega) rfl rfl rfl (by omega) (by omega) (zcg (b := 5) (by omega) (rfl)) ?_
  exact zr_iret X dX6_count_105 ⟨rfl, rfl⟩

set_option maxHeartbeats 4000000 in
set_option maxRecDepth 100000 in
theorem c_count_7 {l : Launch} {D : va_G} {tc : Nat → ClassId} {ad : Nat → Nat} {A : Nat → Prop} {tF tL tM : Nat} (E : zN 6 A ad) (μ : Nat → Int32) {m c k : Nat} (S : refS μ m c k)  : zMi l yX6_count cX6_count 2 (some .int) (zrm 6) (zK A D tc tF tL tM) A D vwCl tc ad 6 shR [.ref (ad (0)), .int (nI (7))] μ (fun r u => r = μ 6 ∧ u = μ) := by
  refine zM_of RX6 [(0, .ref (ad (0))), (1, .int (nI (7)))] (zK_ok A D tc tF tL tM) E.1 E.2 owR_ok (by decide +kernel) rfl (Nat.le_of_ble_eq_true rfl) rfl ?_
  intro pP eE sS mM aS bL mT cO X
  obtain ⟨hm, hm2, hc, h8, hk, hk4⟩ := S
  refine zr_iloadn X 1 dX6_count_0 rfl ?_
  refine zr_tswI (off := 94) X 95 dX6_count_1 ⟨by decide +kernel, by decide +kernel, by decide +kernel⟩ (by decide) ?_
  refine zr_aloadn X 0 dX6_count_95 rfl ?_
  refine zr_get X (ci := 6) (q := 0) (zR (1)) (.ref (ad (1))) dX6_count_96 (by omega) rfl rfl inX6 (by decide) rfl (rfl) rfl k_539 ?_
  refine zr_iconst X (nI (2)) dX6_count_99 (by decide +kernel) ?_
  refine zr_iloadn X 1 dX6_count_100 rfl ?_
  refine zr_iadd X (nI (9)) dX6_count_101 ((nI_add _ _).trans (congrArg nI (by omega))) ?_
  refine zr_iconst X (nI (3)) dX6_count_102 (by decide +kernel) ?_
  refine zr_isub X (nI (6)) dX6_count_103 ((pk_sub (by omega)).trans (congrArg nI (by omega))) ?_
  refine zr_iald X (j := 6) 0 (μ (6)) dX6_count_104 (by omega) rfl rfl rfl (by omega) (by omega) (zcg (b := 6) (by omega) (rfl)) ?_
  exact zr_iret X dX6_count_105 ⟨rfl, rfl⟩

set_option maxHeartbeats 4000000 in
set_option maxRecDepth 100000 in
theorem c_count_8 {l : Launch} {D : va_G} {tc : Nat → ClassId} {ad : Nat → Nat} {A : Nat → Prop} {tF tL tM : Nat} (E : zN 6 A ad) (μ : Nat → Int32) {m c k : Nat} (S : refS μ m c k)  : zMi l yX6_count cX6_count 2 (some .int) (zrm 6) (zK A D tc tF tL tM) A D vwCl tc ad 6 shR [.ref (ad (0)), .int (nI (8))] μ (fun r u => r = zsum (fun f => μ (32 * f + 36)) c ∧ u = μ) := by
  refine zM_of RX6 [(0, .ref (ad (0))), (1, .int (nI (8)))] (zK_ok A D tc tF tL tM) E.1 E.2 owR_ok (by decide +kernel) rfl (Nat.le_of_ble_eq_true rfl) rfl ?_
  intro pP eE sS mM aS bL mT cO X
  obtain ⟨hm, hm2, hc, h8, hk, hk4⟩ := S
  refine zr_iloadn X 1 dX6_count_0 rfl ?_
  refine zr_tswI (off := 105) X 106 dX6_count_1 ⟨by decide +kernel, by decide +kernel, by decide +kernel⟩ (by decide) ?_
  refine zr_aloadn X 0 dX6_count_106 rfl ?_
  refine zr_bipush X (nI (29)) dX6_count_107 (by decide +kernel) ?_
  refine zr_dVi (C := RX6) (ci := 6) [.int (nI (29))] [] X (zK_ok A D tc tF tL tM) (zM_i (z1 := zsum (fun f => μ (32 * f + 36)) c) (c_heldOf E μ (w := 29) (hc) h8 (by omega)) (by simp only [Nat.add_assoc, Nat.reduceAdd])) k_759 k_761 kp_21 k_7 k_762 hdX6_heldOf ⟨rfl, rfl⟩ ⟨Nat.le_of_ble_eq_true rfl, Nat.le_of_ble_eq_true rfl⟩ (by omega) rfl rfl rfl rfl (Nat.le_of_ble_eq_true rfl) dX6_count_109 ?_
  exact zr_iret X dX6_count_112 ⟨rfl, rfl⟩

set_option maxHeartbeats 4000000 in
set_option maxRecDepth 100000 in
theorem c_count_9 {l : Launch} {D : va_G} {tc : Nat → ClassId} {ad : Nat → Nat} {A : Nat → Prop} {tF tL tM : Nat} (E : zN 6 A ad) (μ : Nat → Int32) {m c k : Nat} (S : refS μ m c k)  : zMi l yX6_count cX6_count 2 (some .int) (zrm 6) (zK A D tc tF tL tM) A D vwCl tc ad 6 shR [.ref (ad (0)), .int (nI (9))] μ (fun r u => r = zsum (fun f => μ (32 * f + 38)) c ∧ u = μ) := by
  refine zM_of RX6 [(0, .ref (ad (0))), (1, .int (nI (9)))] (zK_ok A D tc tF tL tM) E.1 E.2 owR_ok (by decide +kernel) rfl (Nat.le_of_ble_eq_true rfl) rfl ?_
  intro pP eE sS mM aS bL mT cO X
  obtain ⟨hm, hm2, hc, h8, hk, hk4⟩ := S
  refine zr_iloadn X 1 dX6_count_0 rfl ?_
  refine zr_tswI (off := 112) X 113 dX6_count_1 ⟨by decide +kernel, by decide +kernel, by decide +kernel⟩ (by decide) ?_
  refine zr_aloadn X 0 dX6_count_113 rfl ?_
  refine zr_bipush X (nI (31)) dX6_count_114 (by decide +kernel) ?_
  refine zr_dVi (C := RX6) (ci := 6) [.int (nI (31))] [] X (zK_ok A D tc tF tL tM) (zM_i (z1 := zsum (fun f => μ (32 * f + 38)) c) (c_heldOf E μ (w := 31) (hc) h8 (by omega)) (by simp only [Nat.add_assoc, Nat.reduceAdd])) k_759 k_761 kp_21 k_7 k_762 hdX6_heldOf ⟨rfl, rfl⟩ ⟨Nat.le_of_ble_eq_true rfl, Nat.le_of_ble_eq_true rfl⟩ (by omega) rfl rfl rfl rfl (Nat.le_of_ble_eq_true rfl) dX6_count_116 ?_
  exact zr_iret X dX6_count_119 ⟨rfl, rfl⟩

set_option maxHeartbeats 4000000 in
set_option maxRecDepth 100000 in
theorem c_count_10 {l : Launch} {D : va_G} {tc : Nat → ClassId} {ad : Nat → Nat} {A : Nat → Prop} {tF tL tM : Nat} (E : zN 6 A ad) (μ : Nat → Int32) {m c k : Nat} (S : refS μ m c k)  : zMi l yX6_count cX6_count 2 (some .int) (zrm 6) (zK A D tc tF tL tM) A D vwCl tc ad 6 shR [.ref (ad (0)), .int (nI (10))] μ (fun r u => r = zsum (fun f => zsum (fun v => μ (32 * f + v + 7)) 20) c ∧ u = μ) := by
  refine zM_of RX6 [(0, .ref (ad (0))), (1, .int (nI (10)))] (zK_ok A D tc tF tL tM) E.1 E.2 owR_ok (by decide +kernel) rfl (Nat.le_of_ble_eq_true rfl) rfl ?_
  intro pP eE sS mM aS bL mT cO X
  obtain ⟨hm, hm2, hc, h8, hk, hk4⟩ := S
  refine zr_iloadn X 1 dX6_count_0 rfl ?_
  refine zr_tswI (off := 119) X 120 dX6_count_1 ⟨by decide +kernel, by decide +kernel, by decide +kernel⟩ (by decide) ?_
  refine zr_aloadn X 0 dX6_count_120 rfl ?_
  refine zr_dVi (C := RX6) (ci := 6) [] [] X (zK_ok A D tc tF tL tM) (c_allHeld E μ (hc) h8) k_787 k_789 kp_24 k_7 k_790 hdX6_allHeld ⟨rfl, rfl⟩ ⟨Nat.le_of_ble_eq_true rfl, Nat.le_of_ble_eq_true rfl⟩ (by omega) rfl rfl rfl rfl (Nat.le_of_ble_eq_true rfl) dX6_count_121 ?_
  exact zr_iret X dX6_count_124 ⟨rfl, rfl⟩

set_option maxHeartbeats 4000000 in
set_option maxRecDepth 100000 in
theorem c_count_11 {l : Launch} {D : va_G} {tc : Nat → ClassId} {ad : Nat → Nat} {A : Nat → Prop} {tF tL tM : Nat} (E : zN 6 A ad) (μ : Nat → Int32) {m c k : Nat} (S : refS μ m c k)  : zMi l yX6_count cX6_count 2 (some .int) (zrm 6) (zK A D tc tF tL tM) A D vwCl tc ad 6 shR [.ref (ad (0)), .int (nI (11))] μ (fun r u => r = zsum (fun v => μ (v + 323)) 20 ∧ u = μ) := by
  refine zM_of RX6 [(0, .ref (ad (0))), (1, .int (nI (11)))] (zK_ok A D tc tF tL tM) E.1 E.2 owR_ok (by decide +kernel) rfl (Nat.le_of_ble_eq_true rfl) rfl ?_
  intro pP eE sS mM aS bL mT cO X
  obtain ⟨hm, hm2, hc, h8, hk, hk4⟩ := S
  refine zr_iloadn X 1 dX6_count_0 rfl ?_
  refine zr_tswI (off := 124) X 125 dX6_count_1 ⟨by decide +kernel, by decide +kernel, by decide +kernel⟩ (by decide) ?_
  refine zr_aloadn X 0 dX6_count_125 rfl ?_
  refine zr_dVi (C := RX6) (ci := 6) [] [] X (zK_ok A D tc tF tL tM) (c_allLost E μ) k_791 k_793 kp_25 k_7 k_794 hdX6_allLost ⟨rfl, rfl⟩ ⟨Nat.le_of_ble_eq_true rfl, Nat.le_of_ble_eq_true rfl⟩ (by omega) rfl rfl rfl rfl (Nat.le_of_ble_eq_true rfl) dX6_count_126 ?_
  exact zr_iret X dX6_count_129 ⟨rfl, rfl⟩

set_option maxHeartbeats 4000000 in
set_option maxRecDepth 100000 in
theorem c_count_12 {l : Launch} {D : va_G} {tc : Nat → ClassId} {ad : Nat → Nat} {A : Nat → Prop} {tF tL tM : Nat} (E : zN 6 A ad) (μ : Nat → Int32) {m c k : Nat} (S : refS μ m c k) {q : Nat} (hq1 : m < q) (hq2 : q ≤ m + 16) (hq3 : q % 12 = 4) (hq4 : 12 ≤ q) (hmin : ∀ i, m < i → i < q → ¬ (i % 12 = 4 ∧ 12 ≤ i))  : zMi l yX6_count cX6_count 2 (some .int) (zrm 6) (zK A D tc tF tL tM) A D vwCl tc ad 6 shR [.ref (ad (0)), .int (nI (12))] μ (fun r u => r = nI (q - m) ∧ u = μ) := by
  refine zM_of RX6 [(0, .ref (ad (0))), (1, .int (nI (12)))] (zK_ok A D tc tF tL tM) E.1 E.2 owR_ok (by decide +kernel) rfl (Nat.le_of_ble_eq_true rfl) rfl ?_
  intro pP eE sS mM aS bL mT cO X
  obtain ⟨hm, hm2, hc, h8, hk, hk4⟩ := S
  refine zr_iloadn X 1 dX6_count_0 rfl ?_
  refine zr_tswI (off := 129) X 130 dX6_count_1 ⟨by decide +kernel, by decide +kernel, by decide +kernel⟩ (by decide) ?_
  refine zr_aloadn X 0 dX6_count_130 rfl ?_
  refine zr_dVi (C := RX6) (ci := 6) [] [] X (zK_ok A D tc tF tL tM) (c_monthsToDeadline E μ hm hm2 hq1 hq2 hq3 hq4 hmin) k_795 k_797 kp_26 k_7 k_798 hdX6_monthsToDeadline ⟨rfl, rfl⟩ ⟨Nat.le_of_ble_eq_true rfl, Nat.le_of_ble_eq_true rfl⟩ (by omega) rfl rfl rfl rfl (Nat.le_of_ble_eq_true rfl) dX6_count_131 ?_
  exact zr_iret X dX6_count_134 ⟨rfl, rfl⟩

set_option maxHeartbeats 4000000 in
set_option maxRecDepth 100000 in
theorem c_count_13 {l : Launch} {D : va_G} {tc : Nat → ClassId} {ad : Nat → Nat} {A : Nat → Prop} {tF tL tM : Nat} (E : zN 6 A ad) (μ : Nat → Int32) {m c k : Nat} (S : refS μ m c k)  : zMi l yX6_count cX6_count 2 (some .int) (zrm 6) (zK A D tc tF tL tM) A D vwCl tc ad 6 shR [.ref (ad (0)), .int (nI (13))] μ (fun r u => r = nI k ∧ u = μ) := by
  refine zM_of RX6 [(0, .ref (ad (0))), (1, .int (nI (13)))] (zK_ok A D tc tF tL tM) E.1 E.2 owR_ok (by decide +kernel) rfl (Nat.le_of_ble_eq_true rfl) rfl ?_
  intro pP eE sS mM aS bL mT cO X
  obtain ⟨hm, hm2, hc, h8, hk, hk4⟩ := S
  refine zr_iloadn X 1 dX6_count_0 rfl ?_
  refine zr_tswI (off := 134) X 135 dX6_count_1 ⟨by decide +kernel, by decide +kernel, by decide +kernel⟩ (by decide) ?_
  refine zr_aloadn X 0 dX6_count_135 rfl ?_
  refine zr_get X (ci := 6) (q := 1) zI (.int (nI (k))) dX6_count_136 (by omega) rfl rfl inX6 (by decide) rfl (congrArg Value.int (hk)) rfl k_540 ?_
  exact zr_iret X dX6_count_139 ⟨rfl, rfl⟩

set_option maxHeartbeats 4000000 in
set_option maxRecDepth 100000 in
theorem c_count_14 {l : Launch} {D : va_G} {tc : Nat → ClassId} {ad : Nat → Nat} {A : Nat → Prop} {tF tL tM : Nat} (E : zN 6 A ad) (μ : Nat → Int32) {m c k : Nat} (S : refS μ m c k)  : zMi l yX6_count cX6_count 2 (some .int) (zrm 6) (zK A D tc tF tL tM) A D vwCl tc ad 6 shR [.ref (ad (0)), .int (nI (14))] μ (fun r u => r = μ 2447 ∧ u = μ) := by
  refine zM_of RX6 [(0, .ref (ad (0))), (1, .int (nI (14)))] (zK_ok A D tc tF tL tM) E.1 E.2 owR_ok (by decide +kernel) rfl (Nat.le_of_ble_eq_true rfl) rfl ?_
  intro pP eE sS mM aS bL mT cO X
  obtain ⟨hm, hm2, hc, h8, hk, hk4⟩ := S
  refine zr_iloadn X 1 dX6_count_0 rfl ?_
  refine zr_tswI (off := 139) X 140 dX6_count_1 ⟨by decide +kernel, by decide +kernel, by decide +kernel⟩ (by decide) ?_
  refine zr_aloadn X 0 dX6_count_140 rfl ?_
  refine zr_get X (ci := 6) (q := 4) zI (.int (μ (2447))) dX6_count_141 (by omega) rfl rfl inX6 (by decide) rfl (congrArg Value.int (rfl)) rfl k_543 ?_
  exact zr_iret X dX6_count_144 ⟨rfl, rfl⟩

