set_option maxHeartbeats 4000000 in
set_option maxRecDepth 100000 in
theorem c_surrender_u {l : Launch} {D : va_G} {tc : Nat → ClassId} {ad : Nat → Nat} {A : Nat → Prop} {tF tL tM : Nat} (E : zN 6 A ad) (μ : Nat → Int32) {m c k : Nat} (S : refS μ m c k) {x : Int32} (hx : ¬ zfm x c) (t : Int32) (w : Int32)  : zMi l yX6_surrender cX6_surrender 5 (some .int) (zrm 5) (zK A D tc tF tL tM) A D vwCl tc ad 6 shR [.ref (ad (0)), .int (x), .int (t), .int (w)] μ (fun r u => r = -1 ∧ u = μ) := by
  refine zM_of RX6 [(0, .ref (ad (0))), (1, .int (x)), (2, .int (t)), (3, .int (w))] (zK_ok A D tc tF tL tM) E.1 E.2 owR_ok (by decide +kernel) rfl (Nat.le_of_ble_eq_true rfl) rfl ?_
  intro pP eE sS mM aS bL mT cO X
  obtain ⟨hm, hm2, hc, h8, hk, hk4⟩ := S
  refine zr_aloadn X 0 dX6_surrender_0 rfl ?_
  refine zr_iloadn X 1 dX6_surrender_1 rfl ?_
  refine zr_dVi (C := RX6) (ci := 6) [.int (x)] [] X (zK_ok A D tc tF tL tM) (c_isFirm_f E μ (hc) h8 hx) k_611 k_613 kp_2 k_7 k_614 hdX6_isFirm ⟨rfl, rfl⟩ ⟨Nat.le_of_ble_eq_true rfl, Nat.le_of_ble_eq_true rfl⟩ (by omega) rfl rfl rfl rfl (Nat.le_of_ble_eq_true rfl) dX6_surrender_2 ?_
  refine zr_if_ne X 10 dX6_surrender_5 (by decide) (fun q => absurd (zq_eq0 (by omega)) q) (fun _ => ?_)
  refine zr_iconst X (-1) dX6_surrender_8 (by decide +kernel) ?_
  exact zr_iret X dX6_surrender_9 ⟨rfl, rfl⟩

set_option maxHeartbeats 4000000 in
set_option maxRecDepth 100000 in
theorem c_surrender_b1 {l : Launch} {D : va_G} {tc : Nat → ClassId} {ad : Nat → Nat} {A : Nat → Prop} {tF tL tM : Nat} (E : zN 6 A ad) (μ : Nat → Int32) {m c k : Nat} (S : refS μ m c k) {f : Nat} (hf : f < c) {x : Int32} (hx : ¬ zin x 1 9999) (w : Int32)  : zMi l yX6_surrender cX6_surrender 5 (some .int) (zrm 5) (zK A D tc tF tL tM) A D vwCl tc ad 6 shR [.ref (ad (0)), .int (nI (f)), .int (x), .int (w)] μ (fun r u => r = -2 ∧ u = μ) := by
  refine zM_of RX6 [(0, .ref (ad (0))), (1, .int (nI (f))), (2, .int (x)), (3, .int (w))] (zK_ok A D tc tF tL tM) E.1 E.2 owR_ok (by decide +kernel) rfl (Nat.le_of_ble_eq_true rfl) rfl ?_
  intro pP eE sS mM aS bL mT cO X
  obtain ⟨hm, hm2, hc, h8, hk, hk4⟩ := S
  refine zr_aloadn X 0 dX6_surrender_0 rfl ?_
  refine zr_iloadn X 1 dX6_surrender_1 rfl ?_
  refine zr_dVi (C := RX6) (ci := 6) [.int (nI (f))] [] X (zK_ok A D tc tF tL tM) (c_isFirm_t E μ (hc) h8 (by omega)) k_611 k_613 kp_2 k_7 k_614 hdX6_isFirm ⟨rfl, rfl⟩ ⟨Nat.le_of_ble_eq_true rfl, Nat.le_of_ble_eq_true rfl⟩ (by omega) rfl rfl rfl rfl (Nat.le_of_ble_eq_true rfl) dX6_surrender_2 ?_
  refine zr_if_ne X 10 dX6_surrender_5 (by decide) (fun _ => ?_) (fun q => absurd q (nI_ne0 (by omega) (by omega)))
  refine zr_iloadn X 2 dX6_surrender_10 rfl ?_
  refine zr_dSi [.int (x)] [] X (zK_ok A D tc tF tL tM) (c_isTonnes_f E μ hx) k_615 k_616 k_7 k_617 hdX6_isTonnes ⟨rfl, rfl⟩ ⟨Nat.le_of_ble_eq_true rfl, Nat.le_of_ble_eq_true rfl⟩ rfl rfl (Nat.le_of_ble_eq_true rfl) dX6_surrender_11 ?_
  refine zr_if_eq X 26 dX6_surrender_14 (by decide) (fun _ => ?_) (fun q => absurd (zq_eq0 (by omega)) q)
  refine zr_bipush X (-2) dX6_surrender_26 (by decide +kernel) ?_
  exact zr_iret X dX6_surrender_28 ⟨rfl, rfl⟩

set_option maxHeartbeats 4000000 in
set_option maxRecDepth 100000 in
theorem c_surrender_b2 {l : Launch} {D : va_G} {tc : Nat → ClassId} {ad : Nat → Nat} {A : Nat → Prop} {tF tL tM : Nat} (E : zN 6 A ad) (μ : Nat → Int32) {m c k : Nat} (S : refS μ m c k) {f : Nat} (hf : f < c) {t : Nat} (ht1 : 1 ≤ t) (ht9 : t ≤ 9999) {x : Int32} (hx : ¬ zin x 0 2)  : zMi l yX6_surrender cX6_surrender 5 (some .int) (zrm 5) (zK A D tc tF tL tM) A D vwCl tc ad 6 shR [.ref (ad (0)), .int (nI (f)), .int (nI (t)), .int (x)] μ (fun r u => r = -2 ∧ u = μ) := by
  refine zM_of RX6 [(0, .ref (ad (0))), (1, .int (nI (f))), (2, .int (nI (t))), (3, .int (x))] (zK_ok A D tc tF tL tM) E.1 E.2 owR_ok (by decide +kernel) rfl (Nat.le_of_ble_eq_true rfl) rfl ?_
  intro pP eE sS mM aS bL mT cO X
  obtain ⟨hm, hm2, hc, h8, hk, hk4⟩ := S
  refine zr_aloadn X 0 dX6_surrender_0 rfl ?_
  refine zr_iloadn X 1 dX6_surrender_1 rfl ?_
  refine zr_dVi (C := RX6) (ci := 6) [.int (nI (f))] [] X (zK_ok A D tc tF tL tM) (c_isFirm_t E μ (hc) h8 (by omega)) k_611 k_613 kp_2 k_7 k_614 hdX6_isFirm ⟨rfl, rfl⟩ ⟨Nat.le_of_ble_eq_true rfl, Nat.le_of_ble_eq_true rfl⟩ (by omega) rfl rfl rfl rfl (Nat.le_of_ble_eq_true rfl) dX6_surrender_2 ?_
  refine zr_if_ne X 10 dX6_surrender_5 (by decide) (fun _ => ?_) (fun q => absurd q (nI_ne0 (by omega) (by omega)))
  refine zr_iloadn X 2 dX6_surrender_10 rfl ?_
  refine zr_dSi [.int (nI (t))] [] X (zK_ok A D tc tF tL tM) (c_isTonnes_t E μ (by omega) (by omega)) k_615 k_616 k_7 k_617 hdX6_isTonnes ⟨rfl, rfl⟩ ⟨Nat.le_of_ble_eq_true rfl, Nat.le_of_ble_eq_true rfl⟩ rfl rfl (Nat.le_of_ble_eq_true rfl) dX6_surrender_11 ?_
  refine zr_if_eq X 26 dX6_surrender_14 (by decide) (fun q => absurd q (nI_ne0 (by omega) (by omega))) (fun _ => ?_)
  refine zr_iloadn X 3 dX6_surrender_17 rfl ?_
  refine zr_iconst X (nI (0)) dX6_surrender_18 (by decide +kernel) ?_
  refine zr_iconst X (nI (2)) dX6_surrender_19 (by decide +kernel) ?_
  refine zr_dSi [.int (x), .int (nI (0)), .int (nI (2))] [] X (zK_ok A D tc tF tL tM) (c_in_f E μ (fun q => hx (zin_of (by omega) q.1 q.2 (by omega)))) k_604 k_605 k_7 k_606 hdX6_in ⟨rfl, rfl⟩ ⟨Nat.le_of_ble_eq_true rfl, Nat.le_of_ble_eq_true rfl⟩ rfl rfl (Nat.le_of_ble_eq_true rfl) dX6_surrender_20 ?_
  refine zr_if_ne X 29 dX6_surrender_23 (by decide) (fun q => absurd (zq_eq0 (by omega)) q) (fun _ => ?_)
  refine zr_bipush X (-2) dX6_surrender_26 (by decide +kernel) ?_
  exact zr_iret X dX6_surrender_28 ⟨rfl, rfl⟩

set_option maxHeartbeats 4000000 in
set_option maxRecDepth 100000 in
theorem c_surrender_n0 {l : Launch} {D : va_G} {tc : Nat → ClassId} {ad : Nat → Nat} {A : Nat → Prop} {tF tL tM : Nat} (E : zN 6 A ad) (μ : Nat → Int32) {m c k : Nat} (S : refS μ m c k) {f : Nat} (hf : f < c) {t : Nat} (ht1 : 1 ≤ t) (ht9 : t ≤ 9999) (h : μ (32 * f + 36) < nI t) : zMi l yX6_surrender cX6_surrender 5 (some .int) (zrm 6) (zK A D tc tF tL tM) A D vwCl tc ad 6 shR [.ref (ad (0)), .int (nI (f)), .int (nI (t)), .int (nI (0))] μ (fun r u => r = -4 ∧ u = zlay μ f (nI t) 0) := by
  refine zM_of RX6 [(0, .ref (ad (0))), (1, .int (nI (f))), (2, .int (nI (t))), (3, .int (nI (0)))] (zK_ok A D tc tF tL tM) E.1 E.2 owR_ok (by decide +kernel) rfl (Nat.le_of_ble_eq_true rfl) rfl ?_
  intro pP eE sS mM aS bL mT cO X
  obtain ⟨hm, hm2, hc, h8, hk, hk4⟩ := S
  refine zr_aloadn X 0 dX6_surrender_0 rfl ?_
  refine zr_iloadn X 1 dX6_surrender_1 rfl ?_
  refine zr_dVi (C := RX6) (ci := 6) [.int (nI (f))] [] X (zK_ok A D tc tF tL tM) (c_isFirm_t E μ (hc) h8 (by omega)) k_611 k_613 kp_2 k_7 k_614 hdX6_isFirm ⟨rfl, rfl⟩ ⟨Nat.le_of_ble_eq_true rfl, Nat.le_of_ble_eq_true rfl⟩ (by omega) rfl rfl rfl rfl (Nat.le_of_ble_eq_true rfl) dX6_surrender_2 ?_
  refine zr_if_ne X 10 dX6_surrender_5 (by decide) (fun _ => ?_) (fun q => absurd q (nI_ne0 (by omega) (by omega)))
  refine zr_iloadn X 2 dX6_surrender_10 rfl ?_
  refine zr_dSi [.int (nI (t))] [] X (zK_ok A D tc tF tL tM) (c_isTonnes_t E μ (by omega) (by omega)) k_615 k_616 k_7 k_617 hdX6_isTonnes ⟨rfl, rfl⟩ ⟨Nat.le_of_ble_eq_true rfl, Nat.le_of_ble_eq_true rfl⟩ rfl rfl (Nat.le_of_ble_eq_true rfl) dX6_surrender_11 ?_
  refine zr_if_eq X 26 dX6_surrender_14 (by decide) (fun q => absurd q (nI_ne0 (by omega) (by omega))) (fun _ => ?_)
  refine zr_iloadn X 3 dX6_surrender_17 rfl ?_
  refine zr_iconst X (nI (0)) dX6_surrender_18 (by decide +kernel) ?_
  refine zr_iconst X (nI (2)) dX6_surrender_19 (by decide +kernel) ?_
  refine zr_dSi [.int (nI (0)), .int (nI (0)), .int (nI (2))] [] X (zK_ok A D tc tF tL tM) (c_in_t E μ (zq_le (by omega) (by omega)) (zq_le (by omega) (by omega))) k_604 k_605 k_7 k_606 hdX6_in ⟨rfl, rfl⟩ ⟨Nat.le_of_ble_eq_true rfl, Nat.le_of_ble_eq_true rfl⟩ rfl rfl (Nat.le_of_ble_eq_true rfl) dX6_surrender_20 ?_
  refine zr_if_ne X 29 dX6_surrender_23 (by decide) (fun _ => ?_) (fun q => absurd q (nI_ne0 (by omega) (by omega)))
  refine zr_aloadn X 0 dX6_surrender_29 rfl ?_
  refine zr_iloadn X 1 dX6_surrender_30 rfl ?_
  refine zr_iloadn X 2 dX6_surrender_31 rfl ?_
  refine zr_iloadn X 3 dX6_surrender_32 rfl ?_
  refine zr_dVv (C := RX6) (ci := 6) [.int (nI (f)), .int (nI (t)), .int (nI (0))] [] X (zK_ok A D tc tF tL tM) (c_lay0 E μ (f := f) (t := t) (by omega) ht1 ht9) k_664 k_666 kp_6 k_7 k_667 hdX6_lay ⟨rfl, rfl⟩ ⟨Nat.le_of_ble_eq_true rfl, Nat.le_of_ble_eq_true rfl⟩ (by omega) rfl rfl rfl rfl (Nat.le_of_ble_eq_true rfl) dX6_surrender_33 ?_
  refine zr_aloadn X 0 dX6_surrender_36 rfl ?_
  refine zr_get X (ci := 6) (q := 0) (zR (1)) (.ref (ad (1))) dX6_surrender_37 (by omega) rfl rfl inX6 (by decide) rfl (rfl) rfl k_539 ?_
  refine zr_iloadn X 1 dX6_surrender_40 rfl ?_
  refine zr_bipush X (nI (29)) dX6_surrender_41 (by decide +kernel) ?_
  refine zr_dSi [.int (nI (f)), .int (nI (29))] [.ref (ad (1))] X (zK_ok A D tc tF tL tM) (zM_i (z1 := nI (32 * f + 36)) (c_of E (zlay μ f (nI t) 0) (f) (29)) (congrArg nI (by omega))) k_597 k_598 k_7 k_599 hdX6_of ⟨rfl, rfl⟩ ⟨Nat.le_of_ble_eq_true rfl, Nat.le_of_ble_eq_true rfl⟩ rfl rfl (Nat.le_of_ble_eq_true rfl) dX6_surrender_43 ?_
  refine zr_iald X (j := 32 * f + 36) 0 (μ (32 * f + 36)) dX6_surrender_46 (by omega) rfl rfl rfl (by omega) (by omega) (zcg (b := 32 * f + 36) (by omega) ((zlay_lo (by omega)).trans (rfl))) ?_
  refine zr_iloadn X 2 dX6_surrender_47 rfl ?_
  refine zr_icmp_lt X 58 dX6_surrender_48 (by decide) (fun _ => ?_) (fun q => absurd (h) q)
  refine zr_bipush X (-4) dX6_surrender_58 (by decide +kernel) ?_
  exact zr_iret X dX6_surrender_60 ⟨rfl, rfl⟩

set_option maxHeartbeats 4000000 in
set_option maxRecDepth 100000 in
theorem c_surrender_m0 {l : Launch} {D : va_G} {tc : Nat → ClassId} {ad : Nat → Nat} {A : Nat → Prop} {tF tL tM : Nat} (E : zN 6 A ad) (μ : Nat → Int32) {m c k : Nat} (S : refS μ m c k) {f : Nat} (hf : f < c) {t : Nat} (ht1 : 1 ≤ t) (ht9 : t ≤ 9999) (h : ¬ μ (32 * f + 36) < nI t) (h2 : ¬ zlay μ f (nI t) 0 2450 ≤ 0) : zMi l yX6_surrender cX6_surrender 5 (some .int) (zrm 6) (zK A D tc tF tL tM) A D vwCl tc ad 6 shR [.ref (ad (0)), .int (nI (f)), .int (nI (t)), .int (nI (0))] μ (fun r u => r = -4 ∧ u = zlay μ f (nI t) 0) := by
  refine zM_of RX6 [(0, .ref (ad (0))), (1, .int (nI (f))), (2, .int (nI (t))), (3, .int (nI (0)))] (zK_ok A D tc tF tL tM) E.1 E.2 owR_ok (by decide +kernel) rfl (Nat.le_of_ble_eq_true rfl) rfl ?_
  intro pP eE sS mM aS bL mT cO X
  obtain ⟨hm, hm2, hc, h8, hk, hk4⟩ := S
  refine zr_aloadn X 0 dX6_surrender_0 rfl ?_
  refine zr_iloadn X 1 dX6_surrender_1 rfl ?_
  refine zr_dVi (C := RX6) (ci := 6) [.int (nI (f))] [] X (zK_ok A D tc tF tL tM) (c_isFirm_t E μ (hc) h8 (by omega)) k_611 k_613 kp_2 k_7 k_614 hdX6_isFirm ⟨rfl, rfl⟩ ⟨Nat.le_of_ble_eq_true rfl, Nat.le_of_ble_eq_true rfl⟩ (by omega) rfl rfl rfl rfl (Nat.le_of_ble_eq_true rfl) dX6_surrender_2 ?_
  refine zr_if_ne X 10 dX6_surrender_5 (by decide) (fun _ => ?_) (fun q => absurd q (nI_ne0 (by omega) (by omega)))
  refine zr_iloadn X 2 dX6_surrender_10 rfl ?_
  refine zr_dSi [.int (nI (t))] [] X (zK_ok A D tc tF tL tM) (c_isTonnes_t E μ (by omega) (by omega)) k_615 k_616 k_7 k_617 hdX6_isTonnes ⟨rfl, rfl⟩ ⟨Nat.le_of_ble_eq_true rfl, Nat.le_of_ble_eq_true rfl⟩ rfl rfl (Nat.le_of_ble_eq_true rfl) dX6_surrender_11 ?_
  refine zr_if_eq X 26 dX6_surrender_14 (by decide) (fun q => absurd q (nI_ne0 (by omega) (by omega))) (fun _ => ?_)
  refine zr_iloadn X 3 dX6_surrender_17 rfl ?_
  refine zr_iconst X (nI (0)) dX6_surrender_18 (by decide +kernel) ?_
  refine zr_iconst X (nI (2)) dX6_surrender_19 (by decide +kernel) ?_
  refine zr_dSi [.int (nI (0)), .int (nI (0)), .int (nI (2))] [] X (zK_ok A D tc tF tL tM) (c_in_t E μ (zq_le (by omega) (by omega)) (zq_le (by omega) (by omega))) k_604 k_605 k_7 k_606 hdX6_in ⟨rfl, rfl⟩ ⟨Nat.le_of_ble_eq_true rfl, Nat.le_of_ble_eq_true rfl⟩ rfl rfl (Nat.le_of_ble_eq_true rfl) dX6_surrender_20 ?_
  refine zr_if_ne X 29 dX6_surrender_23 (by decide) (fun _ => ?_) (fun q => absurd q (nI_ne0 (by omega) (by omega)))
  refine zr_aloadn X 0 dX6_surrender_29 rfl ?_
  refine zr_iloadn X 1 dX6_surrender_30 rfl ?_
  refine zr_iloadn X 2 dX6_surrender_31 rfl ?_
  refine zr_iloadn X 3 dX6_surrender_32 rfl ?_
  refine zr_dVv (C := RX6) (ci := 6) [.int (nI (f)), .int (nI (t)), .int (nI (0))] [] X (zK_ok A D tc tF tL tM) (c_lay0 E μ (f := f) (t := t) (by omega) ht1 ht9) k_664 k_666 kp_6 k_7 k_667 hdX6_lay ⟨rfl, rfl⟩ ⟨Nat.le_of_ble_eq_true rfl, Nat.le_of_ble_eq_true rfl⟩ (by omega) rfl rfl rfl rfl (Nat.le_of_ble_eq_true rfl) dX6_surrender_33 ?_
  refine zr_aloadn X 0 dX6_surrender_36 rfl ?_
  refine zr_get X (ci := 6) (q := 0) (zR (1)) (.ref (ad (1))) dX6_surrender_37 (by omega) rfl rfl inX6 (by decide) rfl (rfl) rfl k_539 ?_
  refine zr_iloadn X 1 dX6_surrender_40 rfl ?_
  refine zr_bipush X (nI (29)) dX6_surrender_41 (by decide +kernel) ?_
  refine zr_dSi [.int (nI (f)), .int (nI (29))] [.ref (ad (1))] X (zK_ok A D tc tF tL tM) (zM_i (z1 := nI (32 * f + 36)) (c_of E (zlay μ f (nI t) 0) (f) (29)) (congrArg nI (by omega))) k_597 k_598 k_7 k_599 hdX6_of ⟨rfl, rfl⟩ ⟨Nat.le_of_ble_eq_true rfl, Nat.le_of_ble_eq_true rfl⟩ rfl rfl (Nat.le_of_ble_eq_true rfl) dX6_surrender_43 ?_
  refine zr_iald X (j := 32 * f + 36) 0 (μ (32 * f + 36)) dX6_surrender_46 (by omega) rfl rfl rfl (by omega) (by omega) (zcg (b := 32 * f + 36) (by omega) ((zlay_lo (by omega)).trans (rfl))) ?_
  refine zr_iloadn X 2 dX6_surrender_47 rfl ?_
  refine zr_icmp_lt X 58 dX6_surrender_48 (by decide) (fun q => absurd q (h)) (fun _ => ?_)
  refine zr_aloadn X 0 dX6_surrender_51 rfl ?_
  refine zr_get X (ci := 6) (q := 7) zI (.int ((zlay μ f (nI t) 0) (2450))) dX6_surrender_52 (by omega) rfl rfl inX6 (by decide) rfl (congrArg Value.int (rfl)) rfl k_546 ?_
  refine zr_if_le X 61 dX6_surrender_55 (by decide) (fun q => absurd q (h2)) (fun _ => ?_)
  refine zr_bipush X (-4) dX6_surrender_58 (by decide +kernel) ?_
  exact zr_iret X dX6_surrender_60 ⟨rfl, rfl⟩

set_option maxHeartbeats 4000000 in
set_option maxRecDepth 100000 in
theorem c_surrender_ok0 {l : Launch} {D : va_G} {tc : Nat → ClassId} {ad : Nat → Nat} {A : Nat → Prop} {tF tL tM : Nat} (E : zN 6 A ad) (μ : Nat → Int32) {m c k : Nat} (S : refS μ m c k) {f : Nat} (hf : f < c) {t : Nat} (ht1 : 1 ≤ t) (ht9 : t ≤ 9999) (h : ¬ μ (32 * f + 36) < nI t) (h2 : zlay μ f (nI t) 0 2450 ≤ 0) : zMi l yX6_surrender cX6_surrender 5 (some .int) (zrm 6) (zK A D tc tF tL tM) A D vwCl tc ad 6 shR [.ref (ad (0)), .int (nI (f)), .int (nI (t)), .int (nI (0))] μ (fun r u => r = (zsg (zsv (zrec (zlay μ f (nI (t)) 0) (0) (k)) f 20) f 3) (32 * f + 36) - nI (t) ∧ u = (upd (upd (zsg (zsv (zrec (zlay μ f (nI (t)) 0) (0) (k)) f 20) f 3) (32 * f + 36) ((zsg (zsv (zrec (zlay μ f (nI (t)) 0) (0) (k)) f 20) f 3) (32 * f + 36) - nI (t))) (32 * f + 37) ((zsg (zsv (zrec (zlay μ f (nI (t)) 0) (0) (k)) f 20) f 3) (32 * f + 37) + nI (t)))) := by
  refine zM_of RX6 [(0, .ref (ad (0))), (1, .int (nI (f))), (2, .int (nI (t))), (3, .int (nI (0)))] (zK_ok A D tc tF tL tM) E.1 E.2 owR_ok (by decide +kernel) rfl (Nat.le_of_ble_eq_true rfl) rfl ?_
  intro pP eE sS mM aS bL mT cO X
  obtain ⟨hm, hm2, hc, h8, hk, hk4⟩ := S
  refine zr_aloadn X 0 dX6_surrender_0 rfl ?_
  refine zr_iloadn X 1 dX6_surrender_1 rfl ?_
  refine zr_dVi (C := RX6) (ci := 6) [.int (nI (f))] [] X (zK_ok A D tc tF tL tM) (c_isFirm_t E μ (hc) h8 (by omega)) k_611 k_613 kp_2 k_7 k_614 hdX6_isFirm ⟨rfl, rfl⟩ ⟨Nat.le_of_ble_eq_true rfl, Nat.le_of_ble_eq_true rfl⟩ (by omega) rfl rfl rfl rfl (Nat.le_of_ble_eq_true rfl) dX6_surrender_2 ?_
  refine zr_if_ne X 10 dX6_surrender_5 (by decide) (fun _ => ?_) (fun q => absurd q (nI_ne0 (by omega) (by omega)))
  refine zr_iloadn X 2 dX6_surrender_10 rfl ?_
  refine zr_dSi [.int (nI (t))] [] X (zK_ok A D tc tF tL tM) (c_isTonnes_t E μ (by omega) (by omega)) k_615 k_616 k_7 k_617 hdX6_isTonnes ⟨rfl, rfl⟩ ⟨Nat.le_of_ble_eq_true rfl, Nat.le_of_ble_eq_true rfl⟩ rfl rfl (Nat.le_of_ble_eq_true rfl) dX6_surrender_11 ?_
  refine zr_if_eq X 26 dX6_surrender_14 (by decide) (fun q => absurd q (nI_ne0 (by omega) (by omega))) (fun _ => ?_)
  refine zr_iloadn X 3 dX6_surrender_17 rfl ?_
  refine zr_iconst X (nI (0)) dX6_surrender_18 (by decide +kernel) ?_
  refine zr_iconst X (nI (2)) dX6_surrender_19 (by decide +kernel) ?_
  refine zr_dSi [.int (nI (0)), .int (nI (0)), .int (nI (2))] [] X (zK_ok A D tc tF tL tM) (c_in_t E μ (zq_le (by omega) (by omega)) (zq_le (by omega) (by omega))) k_604 k_605 k_7 k_606 hdX6_in ⟨rfl, rfl⟩ ⟨Nat.le_of_ble_eq_true rfl, Nat.le_of_ble_eq_true rfl⟩ rfl rfl (Nat.le_of_ble_eq_true rfl) dX6_surrender_20 ?_
  refine zr_if_ne X 29 dX6_surrender_23 (by decide) (fun _ => ?_) (fun q => absurd q (nI_ne0 (by omega) (by omega)))
  refine zr_aloadn X 0 dX6_surrender_29 rfl ?_
  refine zr_iloadn X 1 dX6_surrender_30 rfl ?_
  refine zr_iloadn X 2 dX6_surrender_31 rfl ?_
  refine zr_iloadn X 3 dX6_surrender_32 rfl ?_
  refine zr_dVv (C := RX6) (ci := 6) [.int (nI (f)), .int (nI (t)), .int (nI (0))] [] X (zK_ok A D tc tF tL tM) (c_lay0 E μ (f := f) (t := t) (by omega) ht1 ht9) k_664 k_666 kp_6 k_7 k_667 hdX6_lay ⟨rfl, rfl⟩ ⟨Nat.le_of_ble_eq_true rfl, Nat.le_of_ble_eq_true rfl⟩ (by omega) rfl rfl rfl rfl (Nat.le_of_ble_eq_true rfl) dX6_surrender_33 ?_
  refine zr_aloadn X 0 dX6_surrender_36 rfl ?_
  refine zr_get X (ci := 6) (q := 0) (zR (1)) (.ref (ad (1))) dX6_surrender_37 (by omega) rfl rfl inX6 (by decide) rfl (rfl) rfl k_539 ?_
  refine zr_iloadn X 1 dX6_surrender_40 rfl ?_
  refine zr_bipush X (nI (29)) dX6_surrender_41 (by decide +kernel) ?_
  refine zr_dSi [.int (nI (f)), .int (nI (29))] [.ref (ad (1))] X (zK_ok A D tc tF tL tM) (zM_i (z1 := nI (32 * f + 36)) (c_of E (zlay μ f (nI t) 0) (f) (29)) (congrArg nI (by omega))) k_597 k_598 k_7 k_599 hdX6_of ⟨rfl, rfl⟩ ⟨Nat.le_of_ble_eq_true rfl, Nat.le_of_ble_eq_true rfl⟩ rfl rfl (Nat.le_of_ble_eq_true rfl) dX6_surrender_43 ?_
  refine zr_iald X (j := 32 * f + 36) 0 (μ (32 * f + 36)) dX6_surrender_46 (by omega) rfl rfl rfl (by omega) (by omega) (zcg (b := 32 * f + 36) (by omega) ((zlay_lo (by omega)).trans (rfl))) ?_
  refine zr_iloadn X 2 dX6_surrender_47 rfl ?_
  refine zr_icmp_lt X 58 dX6_surrender_48 (by decide) (fun q => absurd q (h)) (fun _ => ?_)
  refine zr_aloadn X 0 dX6_surrender_51 rfl ?_
  refine zr_get X (ci := 6) (q := 7) zI (.int ((zlay μ f (nI t) 0) (2450))) dX6_surrender_52 (by omega) rfl rfl inX6 (by decide) rfl (congrArg Value.int (rfl)) rfl k_546 ?_
  refine zr_if_le X 61 dX6_surrender_55 (by decide) (fun _ => ?_) (fun q => absurd (h2) q)
  refine zr_aloadn X 0 dX6_surrender_61 rfl ?_
  refine zr_iconst X (nI (0)) dX6_surrender_62 (by decide +kernel) ?_
  refine zr_dVv (C := RX6) (ci := 6) [.int (nI (0))] [] X (zK_ok A D tc tF tL tM) (c_record E (zlay μ f (nI t) 0) ((zlay_lo (by omega)).trans (hk)) hk4 (by omega)) k_589 k_591 kp_1 k_7 k_592 hdX6_record ⟨rfl, rfl⟩ ⟨Nat.le_of_ble_eq_true rfl, Nat.le_of_ble_eq_true rfl⟩ (by omega) rfl rfl rfl rfl (Nat.le_of_ble_eq_true rfl) dX6_surrender_63 ?_
  refine zr_iconst X (nI (0)) dX6_surrender_66 (by decide +kernel) ?_
  refine zr_istore X [1, 2, 3, 4, 0] [(0, .ref (ad (0))), (1, .int (nI (f))), (2, .int (nI (t))), (3, .int (nI (0))), (4, .int (nI (0)))] dX6_surrender_67 (by decide) rfl ?_
  refine zr_for X (20) (fun i => (zsv (zrec (zlay μ f (nI (t)) 0) (0) (k)) f (i))) (fun i => [(0, .ref (ad (0))), (1, .int (nI (f))), (2, .int (nI (t))), (3, .int (nI (0))), (4, .int (nI (i)))]) [] (rfl) rfl ?_ ?_
  · refine zr_iload X 4 dX6_surrender_69 rfl ?_
    refine zr_bipush X (nI (20)) dX6_surrender_71 (by decide +kernel) ?_
    refine zr_icmp_ge X 126 dX6_surrender_73 (by decide) (fun _ => ?_) (fun q => absurd (zq_le (by omega) (by omega)) q)
    refine zr_iconst X (nI (0)) dX6_surrender_126 (by decide +kernel) ?_
    refine zr_istore X [1, 2, 3, 4, 0] [(0, .ref (ad (0))), (1, .int (nI (f))), (2, .int (nI (t))), (3, .int (nI (0))), (4, .int (nI (0)))] dX6_surrender_127 (by decide) rfl ?_
    refine zr_for X (3) (fun i => (zsg (zsv (zrec (zlay μ f (nI (t)) 0) (0) (k)) f 20) f (i))) (fun i => [(0, .ref (ad (0))), (1, .int (nI (f))), (2, .int (nI (t))), (3, .int (nI (0))), (4, .int (nI (i)))]) [] (rfl) rfl ?_ ?_
    · refine zr_iload X 4 dX6_surrender_129 rfl ?_
      refine zr_iconst X (nI (3)) dX6_surrender_131 (by decide +kernel) ?_
      refine zr_icmp_ge X 210 dX6_surrender_132 (by decide) (fun _ => ?_) (fun q => absurd (zq_le (by omega) (by omega)) q)
      refine zr_aloadn X 0 dX6_surrender_210 rfl ?_
      refine zr_get X (ci := 6) (q := 0) (zR (1)) (.ref (ad (1))) dX6_surrender_211 (by omega) rfl rfl inX6 (by decide) rfl (rfl) rfl k_539 ?_
      refine zr_iloadn X 1 dX6_surrender_214 rfl ?_
      refine zr_bipush X (nI (29)) dX6_surrender_215 (by decide +kernel) ?_
      refine zr_dSi [.int (nI (f)), .int (nI (29))] [.ref (ad (1))] X (zK_ok A D tc tF tL tM) (zM_i (z1 := nI (32 * f + 36)) (c_of E (zsg (zsv (zrec (zlay μ f (nI (t)) 0) (0) (k)) f 20) f (3)) (f) (29)) (congrArg nI (by omega))) k_597 k_598 k_7 k_599 hdX6_of ⟨rfl, rfl⟩ ⟨Nat.le_of_ble_eq_true rfl, Nat.le_of_ble_eq_true rfl⟩ rfl rfl (Nat.le_of_ble_eq_true rfl) dX6_surrender_217 ?_
      refine zr_dup2 X dX6_surrender_220 rfl rfl ?_
      refine zr_iald X (j := 32 * f + 36) 0 ((zsg (zsv (zrec (zlay μ f (nI (t)) 0) (0) (k)) f 20) f (3)) (32 * f + 36)) dX6_surrender_221 (by omega) rfl rfl rfl (by omega) (by omega) (zcg (b := 32 * f + 36) (by omega) (rfl)) ?_
      refine zr_iloadn X 2 dX6_surrender_222 rfl ?_
      refine zr_isub X (((zsg (zsv (zrec (zlay μ f (nI (t)) 0) (0) (k)) f 20) f (3)) (32 * f + 36)) - (nI (t))) dX6_surrender_223 rfl ?_
      refine zr_iast X (j := 32 * f + 36) 0 (32 * f + 36) dX6_surrender_224 (by omega) rfl rfl rfl (by omega) (by omega) (by omega) ?_
      refine zr_aloadn X 0 dX6_surrender_225 rfl ?_
      refine zr_get X (ci := 6) (q := 0) (zR (1)) (.ref (ad (1))) dX6_surrender_226 (by omega) rfl rfl inX6 (by decide) rfl (rfl) rfl k_539 ?_
      refine zr_iloadn X 1 dX6_surrender_229 rfl ?_
      refine zr_bipush X (nI (30)) dX6_surrender_230 (by decide +kernel) ?_
      refine zr_dSi [.int (nI (f)), .int (nI (30))] [.ref (ad (1))] X (zK_ok A D tc tF tL tM) (zM_i (z1 := nI (32 * f + 37)) (c_of E (upd (zsg (zsv (zrec (zlay μ f (nI (t)) 0) (0) (k)) f 20) f (3)) (32 * f + 36) (((zsg (zsv (zrec (zlay μ f (nI (t)) 0) (0) (k)) f 20) f (3)) (32 * f + 36)) - (nI (t)))) (f) (30)) (congrArg nI (by omega))) k_597 k_598 k_7 k_599 hdX6_of ⟨rfl, rfl⟩ ⟨Nat.le_of_ble_eq_true rfl, Nat.le_of_ble_eq_true rfl⟩ rfl rfl (Nat.le_of_ble_eq_true rfl) dX6_surrender_232 ?_
      refine zr_dup2 X dX6_surrender_235 rfl rfl ?_
      refine zr_iald X (j := 32 * f + 37) 0 ((zsg (zsv (zrec (zlay μ f (nI (t)) 0) (0) (k)) f 20) f (3)) (32 * f + 37)) dX6_surrender_236 (by omega) rfl rfl rfl (by omega) (by omega) (zcg (b := 32 * f + 37) (by omega) ((pk_un (by omega)).trans (rfl))) ?_
      refine zr_iloadn X 2 dX6_surrender_237 rfl ?_
      refine zr_iadd X (((zsg (zsv (zrec (zlay μ f (nI (t)) 0) (0) (k)) f 20) f (3)) (32 * f + 37)) + (nI (t))) dX6_surrender_238 rfl ?_
      refine zr_iast X (j := 32 * f + 37) 0 (32 * f + 37) dX6_surrender_239 (by omega) rfl rfl rfl (by omega) (by omega) (by omega) ?_
      refine zr_aloadn X 0 dX6_surrender_240 rfl ?_
      refine zr_get X (ci := 6) (q := 0) (zR (1)) (.ref (ad (1))) dX6_surrender_241 (by omega) rfl rfl inX6 (by decide) rfl (rfl) rfl k_539 ?_
      refine zr_iloadn X 1 dX6_surrender_244 rfl ?_
      refine zr_bipush X (nI (29)) dX6_surrender_245 (by decide +kernel) ?_
      refine zr_dSi [.int (nI (f)), .int (nI (29))] [.ref (ad (1))] X (zK_ok A D tc tF tL tM) (zM_i (z1 := nI (32 * f + 36)) (c_of E (upd (upd (zsg (zsv (zrec (zlay μ f (nI (t)) 0) (0) (k)) f 20) f (3)) (32 * f + 36) (((zsg (zsv (zrec (zlay μ f (nI (t)) 0) (0) (k)) f 20) f (3)) (32 * f + 36)) - (nI (t)))) (32 * f + 37) (((zsg (zsv (zrec (zlay μ f (nI (t)) 0) (0) (k)) f 20) f (3)) (32 * f + 37)) + (nI (t)))) (f) (29)) (congrArg nI (by omega))) k_597 k_598 k_7 k_599 hdX6_of ⟨rfl, rfl⟩ ⟨Nat.le_of_ble_eq_true rfl, Nat.le_of_ble_eq_true rfl⟩ rfl rfl (Nat.le_of_ble_eq_true rfl) dX6_surrender_247 ?_
      refine zr_iald X (j := 32 * f + 36) 0 (((zsg (zsv (zrec (zlay μ f (nI (t)) 0) (0) (k)) f 20) f (3)) (32 * f + 36)) - (nI (t))) dX6_surrender_250 (by omega) rfl rfl rfl (by omega) (by omega) (zcg (b := 32 * f + 36) (by omega) ((pk_un (by omega)).trans (pk_us))) ?_
      exact zr_iret X dX6_surrender_251 ⟨rfl, rfl⟩
    · intro i hi ih129
      refine zr_iload X 4 dX6_surrender_129 rfl ?_
      refine zr_iconst X (nI (3)) dX6_surrender_131 (by decide +kernel) ?_
      refine zr_icmp_ge X 210 dX6_surrender_132 (by decide) (fun q => absurd q (nI_ge (by omega) (by omega))) (fun _ => ?_)
      refine zr_aloadn X 0 dX6_surrender_135 rfl ?_
      refine zr_get X (ci := 6) (q := 0) (zR (1)) (.ref (ad (1))) dX6_surrender_136 (by omega) rfl rfl inX6 (by decide) rfl (rfl) rfl k_539 ?_
      refine zr_iloadn X 1 dX6_surrender_139 rfl ?_
      refine zr_bipush X (nI (20)) dX6_surrender_140 (by decide +kernel) ?_
      refine zr_iload X 4 dX6_surrender_142 rfl ?_
      refine zr_iadd X (nI (i + 20)) dX6_surrender_144 ((nI_add _ _).trans (congrArg nI (by omega))) ?_
      refine zr_dSi [.int (nI (f)), .int (nI (i + 20))] [.ref (ad (1))] X (zK_ok A D tc tF tL tM) (zM_i (z1 := nI (32 * f + i + 27)) (c_of E (zsg (zsv (zrec (zlay μ f (nI (t)) 0) (0) (k)) f 20) f (i)) (f) (i + 20)) (congrArg nI (by omega))) k_597 k_598 k_7 k_599 hdX6_of ⟨rfl, rfl⟩ ⟨Nat.le_of_ble_eq_true rfl, Nat.le_of_ble_eq_true rfl⟩ rfl rfl (Nat.le_of_ble_eq_true rfl) dX6_surrender_145 ?_
      refine zr_dup2 X dX6_surrender_148 rfl rfl ?_
      refine zr_iald X (j := 32 * f + i + 27) 0 ((zsg (zsv (zrec (zlay μ f (nI (t)) 0) (0) (k)) f 20) f (i)) (32 * f + i + 27)) dX6_surrender_149 (by omega) rfl rfl rfl (by omega) (by omega) (zcg (b := 32 * f + i + 27) (by omega) (rfl)) ?_
      refine zr_aloadn X 0 dX6_surrender_150 rfl ?_
      refine zr_get X (ci := 6) (q := 6) (zR (4)) (.ref (ad (4))) dX6_surrender_151 (by omega) rfl rfl inX6 (by decide) rfl (rfl) rfl k_545 ?_
      refine zr_iload X 4 dX6_surrender_154 rfl ?_
      refine zr_iald X (j := i) 0 ((zsg (zsv (zrec (zlay μ f (nI (t)) 0) (0) (k)) f 20) f (i)) (i + 2540)) dX6_surrender_156 (by omega) rfl rfl rfl (by omega) (by omega) (zcg (b := i + 2540) (by omega) (rfl)) ?_
      refine zr_isub X (((zsg (zsv (zrec (zlay μ f (nI (t)) 0) (0) (k)) f 20) f (i)) (32 * f + i + 27)) - ((zsg (zsv (zrec (zlay μ f (nI (t)) 0) (0) (k)) f 20) f (i)) (i + 2540))) dX6_surrender_157 rfl ?_
      refine zr_iast X (j := 32 * f + i + 27) 0 (32 * f + i + 27) dX6_surrender_158 (by omega) rfl rfl rfl (by omega) (by omega) (by omega) ?_
      refine zr_aloadn X 0 dX6_surrender_159 rfl ?_
      refine zr_get X (ci := 6) (q := 0) (zR (1)) (.ref (ad (1))) dX6_surrender_160 (by omega) rfl rfl inX6 (by decide) rfl (rfl) rfl k_539 ?_
      refine zr_iloadn X 1 dX6_surrender_163 rfl ?_
      refine zr_bipush X (nI (23)) dX6_surrender_164 (by decide +kernel) ?_
      refine zr_iload X 4 dX6_surrender_166 rfl ?_
      refine zr_iadd X (nI (i + 23)) dX6_surrender_168 ((nI_add _ _).trans (congrArg nI (by omega))) ?_
      refine zr_dSi [.int (nI (f)), .int (nI (i + 23))] [.ref (ad (1))] X (zK_ok A D tc tF tL tM) (zM_i (z1 := nI (32 * f + i + 30)) (c_of E (upd (zsg (zsv (zrec (zlay μ f (nI (t)) 0) (0) (k)) f 20) f (i)) (32 * f + i + 27) (((zsg (zsv (zrec (zlay μ f (nI (t)) 0) (0) (k)) f 20) f (i)) (32 * f + i + 27)) - ((zsg (zsv (zrec (zlay μ f (nI (t)) 0) (0) (k)) f 20) f (i)) (i + 2540)))) (f) (i + 23)) (congrArg nI (by omega))) k_597 k_598 k_7 k_599 hdX6_of ⟨rfl, rfl⟩ ⟨Nat.le_of_ble_eq_true rfl, Nat.le_of_ble_eq_true rfl⟩ rfl rfl (Nat.le_of_ble_eq_true rfl) dX6_surrender_169 ?_
      refine zr_dup2 X dX6_surrender_172 rfl rfl ?_
      refine zr_iald X (j := 32 * f + i + 30) 0 ((zsg (zsv (zrec (zlay μ f (nI (t)) 0) (0) (k)) f 20) f (i)) (32 * f + i + 30)) dX6_surrender_173 (by omega) rfl rfl rfl (by omega) (by omega) (zcg (b := 32 * f + i + 30) (by omega) ((pk_un (by omega)).trans (rfl))) ?_
      refine zr_aloadn X 0 dX6_surrender_174 rfl ?_
      refine zr_get X (ci := 6) (q := 6) (zR (4)) (.ref (ad (4))) dX6_surrender_175 (by omega) rfl rfl inX6 (by decide) rfl (rfl) rfl k_545 ?_
      refine zr_iload X 4 dX6_surrender_178 rfl ?_
      refine zr_iald X (j := i) 0 ((zsg (zsv (zrec (zlay μ f (nI (t)) 0) (0) (k)) f 20) f (i)) (i + 2540)) dX6_surrender_180 (by omega) rfl rfl rfl (by omega) (by omega) (zcg (b := i + 2540) (by omega) ((pk_un (by omega)).trans (rfl))) ?_
      refine zr_iadd X (((zsg (zsv (zrec (zlay μ f (nI (t)) 0) (0) (k)) f 20) f (i)) (32 * f + i + 30)) + ((zsg (zsv (zrec (zlay μ f (nI (t)) 0) (0) (k)) f 20) f (i)) (i + 2540))) dX6_surrender_181 rfl ?_
      refine zr_iast X (j := 32 * f + i + 30) 0 (32 * f + i + 30) dX6_surrender_182 (by omega) rfl rfl rfl (by omega) (by omega) (by omega) ?_
      refine zr_aloadn X 0 dX6_surrender_183 rfl ?_
      refine zr_get X (ci := 6) (q := 0) (zR (1)) (.ref (ad (1))) dX6_surrender_184 (by omega) rfl rfl inX6 (by decide) rfl (rfl) rfl k_539 ?_
      refine zr_sipush X (nI (346)) dX6_surrender_187 (by decide +kernel) ?_
      refine zr_iload X 4 dX6_surrender_190 rfl ?_
      refine zr_iadd X (nI (i + 346)) dX6_surrender_192 ((nI_add _ _).trans (congrArg nI (by omega))) ?_
      refine zr_dup2 X dX6_surrender_193 rfl rfl ?_
      refine zr_iald X (j := i + 346) 0 ((zsg (zsv (zrec (zlay μ f (nI (t)) 0) (0) (k)) f 20) f (i)) (i + 346)) dX6_surrender_194 (by omega) rfl rfl rfl (by omega) (by omega) (zcg (b := i + 346) (by omega) ((pk_un (by omega)).trans ((pk_un (by omega)).trans (rfl)))) ?_
      refine zr_aloadn X 0 dX6_surrender_195 rfl ?_
      refine zr_get X (ci := 6) (q := 6) (zR (4)) (.ref (ad (4))) dX6_surrender_196 (by omega) rfl rfl inX6 (by decide) rfl (rfl) rfl k_545 ?_
      refine zr_iload X 4 dX6_surrender_199 rfl ?_
      refine zr_iald X (j := i) 0 ((zsg (zsv (zrec (zlay μ f (nI (t)) 0) (0) (k)) f 20) f (i)) (i + 2540)) dX6_surrender_201 (by omega) rfl rfl rfl (by omega) (by omega) (zcg (b := i + 2540) (by omega) ((pk_un (by omega)).trans ((pk_un (by omega)).trans (rfl)))) ?_
      refine zr_iadd X (((zsg (zsv (zrec (zlay μ f (nI (t)) 0) (0) (k)) f 20) f (i)) (i + 346)) + ((zsg (zsv (zrec (zlay μ f (nI (t)) 0) (0) (k)) f 20) f (i)) (i + 2540))) dX6_surrender_202 rfl ?_
      refine zr_iast X (j := i + 346) 0 (i + 346) dX6_surrender_203 (by omega) rfl rfl rfl (by omega) (by omega) (by omega) ?_
      refine zr_iinc X 4 (nI (i + 1)) [1, 2, 3, 4, 0] [(0, .ref (ad (0))), (1, .int (nI (f))), (2, .int (nI (t))), (3, .int (nI (0))), (4, .int (nI (i + 1)))] dX6_surrender_204 rfl (zinc _) (by decide) rfl ?_
      refine zr_goto X 129 dX6_surrender_207 (by decide) ?_
      exact ih129
  · intro i hi ih69
    refine zr_iload X 4 dX6_surrender_69 rfl ?_
    refine zr_bipush X (nI (20)) dX6_surrender_71 (by decide +kernel) ?_
    refine zr_icmp_ge X 126 dX6_surrender_73 (by decide) (fun q => absurd q (nI_ge (by omega) (by omega))) (fun _ => ?_)
    refine zr_aloadn X 0 dX6_surrender_76 rfl ?_
    refine zr_get X (ci := 6) (q := 0) (zR (1)) (.ref (ad (1))) dX6_surrender_77 (by omega) rfl rfl inX6 (by decide) rfl (rfl) rfl k_539 ?_
    refine zr_iloadn X 1 dX6_surrender_80 rfl ?_
    refine zr_iconst X (nI (0)) dX6_surrender_81 (by decide +kernel) ?_
    refine zr_iload X 4 dX6_surrender_82 rfl ?_
    refine zr_iadd X (nI (i)) dX6_surrender_84 ((nI_add _ _).trans (congrArg nI (by omega))) ?_
    refine zr_dSi [.int (nI (f)), .int (nI (i))] [.ref (ad (1))] X (zK_ok A D tc tF tL tM) (zM_i (z1 := nI (32 * f + i + 7)) (c_of E (zsv (zrec (zlay μ f (nI (t)) 0) (0) (k)) f (i)) (f) (i)) (congrArg nI (by omega))) k_597 k_598 k_7 k_599 hdX6_of ⟨rfl, rfl⟩ ⟨Nat.le_of_ble_eq_true rfl, Nat.le_of_ble_eq_true rfl⟩ rfl rfl (Nat.le_of_ble_eq_true rfl) dX6_surrender_85 ?_
    refine zr_dup2 X dX6_surrender_88 rfl rfl ?_
    refine zr_iald X (j := 32 * f + i + 7) 0 ((zsv (zrec (zlay μ f (nI (t)) 0) (0) (k)) f (i)) (32 * f + i + 7)) dX6_surrender_89 (by omega) rfl rfl rfl (by omega) (by omega) (zcg (b := 32 * f + i + 7) (by omega) (rfl)) ?_
    refine zr_aloadn X 0 dX6_surrender_90 rfl ?_
    refine zr_get X (ci := 6) (q := 5) (zR (3)) (.ref (ad (3))) dX6_surrender_91 (by omega) rfl rfl inX6 (by decide) rfl (rfl) rfl k_544 ?_
    refine zr_iload X 4 dX6_surrender_94 rfl ?_
    refine zr_iald X (j := i) 0 ((zsv (zrec (zlay μ f (nI (t)) 0) (0) (k)) f (i)) (i + 2520)) dX6_surrender_96 (by omega) rfl rfl rfl (by omega) (by omega) (zcg (b := i + 2520) (by omega) (rfl)) ?_
    refine zr_isub X (((zsv (zrec (zlay μ f (nI (t)) 0) (0) (k)) f (i)) (32 * f + i + 7)) - ((zsv (zrec (zlay μ f (nI (t)) 0) (0) (k)) f (i)) (i + 2520))) dX6_surrender_97 rfl ?_
    refine zr_iast X (j := 32 * f + i + 7) 0 (32 * f + i + 7) dX6_surrender_98 (by omega) rfl rfl rfl (by omega) (by omega) (by omega) ?_
    refine zr_aloadn X 0 dX6_surrender_99 rfl ?_
    refine zr_get X (ci := 6) (q := 0) (zR (1)) (.ref (ad (1))) dX6_surrender_100 (by omega) rfl rfl inX6 (by decide) rfl (rfl) rfl k_539 ?_
    refine zr_sipush X (nI (283)) dX6_surrender_103 (by decide +kernel) ?_
    refine zr_iload X 4 dX6_surrender_106 rfl ?_
    refine zr_iadd X (nI (i + 283)) dX6_surrender_108 ((nI_add _ _).trans (congrArg nI (by omega))) ?_
    refine zr_dup2 X dX6_surrender_109 rfl rfl ?_
    refine zr_iald X (j := i + 283) 0 ((zsv (zrec (zlay μ f (nI (t)) 0) (0) (k)) f (i)) (i + 283)) dX6_surrender_110 (by omega) rfl rfl rfl (by omega) (by omega) (zcg (b := i + 283) (by omega) ((pk_un (by omega)).trans (rfl))) ?_
    refine zr_aloadn X 0 dX6_surrender_111 rfl ?_
    refine zr_get X (ci := 6) (q := 5) (zR (3)) (.ref (ad (3))) dX6_surrender_112 (by omega) rfl rfl inX6 (by decide) rfl (rfl) rfl k_544 ?_
    refine zr_iload X 4 dX6_surrender_115 rfl ?_
    refine zr_iald X (j := i) 0 ((zsv (zrec (zlay μ f (nI (t)) 0) (0) (k)) f (i)) (i + 2520)) dX6_surrender_117 (by omega) rfl rfl rfl (by omega) (by omega) (zcg (b := i + 2520) (by omega) ((pk_un (by omega)).trans (rfl))) ?_
    refine zr_iadd X (((zsv (zrec (zlay μ f (nI (t)) 0) (0) (k)) f (i)) (i + 283)) + ((zsv (zrec (zlay μ f (nI (t)) 0) (0) (k)) f (i)) (i + 2520))) dX6_surrender_118 rfl ?_
    refine zr_iast X (j := i + 283) 0 (i + 283) dX6_surrender_119 (by omega) rfl rfl rfl (by omega) (by omega) (by omega) ?_
    refine zr_iinc X 4 (nI (i + 1)) [1, 2, 3, 4, 0] [(0, .ref (ad (0))), (1, .int (nI (f))), (2, .int (nI (t))), (3, .int (nI (0))), (4, .int (nI (i + 1)))] dX6_surrender_120 rfl (zinc _) (by decide) rfl ?_
    refine zr_goto X 69 dX6_surrender_123 (by decide) ?_
    exact ih69

set_option maxHeartbeats 4000000 in
set_option maxRecDepth 100000 in
theorem c_surrender_n1 {l : Launch} {D : va_G} {tc : Nat → ClassId} {ad : Nat → Nat} {A : Nat → Prop} {tF tL tM : Nat} (E : zN 6 A ad) (μ : Nat → Int32) {m c k : Nat} (S : refS μ m c k) {f : Nat} (hf : f < c) {t : Nat} (ht1 : 1 ≤ t) (ht9 : t ≤ 9999) (h : μ (32 * f + 36) < nI t) : zMi l yX6_surrender cX6_surrender 5 (some .int) (zrm 6) (zK A D tc tF tL tM) A D vwCl tc ad 6 shR [.ref (ad (0)), .int (nI (f)), .int (nI (t)), .int (nI (1))] μ (fun r u => r = -4 ∧ u = zlay μ f (nI t) 1) := by
  refine zM_of RX6 [(0, .ref (ad (0))), (1, .int (nI (f))), (2, .int (nI (t))), (3, .int (nI (1)))] (zK_ok A D tc tF tL tM) E.1 E.2 owR_ok (by decide +kernel) rfl (Nat.le_of_ble_eq_true rfl) rfl ?_
  intro pP eE sS mM aS bL mT cO X
  obtain ⟨hm, hm2, hc, h8, hk, hk4⟩ := S
  refine zr_aloadn X 0 dX6_surrender_0 rfl ?_
  refine zr_iloadn X 1 dX6_surrender_1 rfl ?_
  refine zr_dVi (C := RX6) (ci := 6) [.int (nI (f))] [] X (zK_ok A D tc tF tL tM) (c_isFirm_t E μ (hc) h8 (by omega)) k_611 k_613 kp_2 k_7 k_614 hdX6_isFirm ⟨rfl, rfl⟩ ⟨Nat.le_of_ble_eq_true rfl, Nat.le_of_ble_eq_true rfl⟩ (by omega) rfl rfl rfl rfl (Nat.le_of_ble_eq_true rfl) dX6_surrender_2 ?_
  refine zr_if_ne X 10 dX6_surrender_5 (by decide) (fun _ => ?_) (fun q => absurd q (nI_ne0 (by omega) (by omega)))
  refine zr_iloadn X 2 dX6_surrender_10 rfl ?_
  refine zr_dSi [.int (nI (t))] [] X (zK_ok A D tc tF tL tM) (c_isTonnes_t E μ (by omega) (by omega)) k_615 k_616 k_7 k_617 hdX6_isTonnes ⟨rfl, rfl⟩ ⟨Nat.le_of_ble_eq_true rfl, Nat.le_of_ble_eq_true rfl⟩ rfl rfl (Nat.le_of_ble_eq_true rfl) dX6_surrender_11 ?_
  refine zr_if_eq X 26 dX6_surrender_14 (by decide) (fun q => absurd q (nI_ne0 (by omega) (by omega))) (fun _ => ?_)
  refine zr_iloadn X 3 dX6_surrender_17 rfl ?_
  refine zr_iconst X (nI (0)) dX6_surrender_18 (by decide +kernel) ?_
  refine zr_iconst X (nI (2)) dX6_surrender_19 (by decide +kernel) ?_
  refine zr_dSi [.int (nI (1)), .int (nI (0)), .int (nI (2))] [] X (zK_ok A D tc tF tL tM) (c_in_t E μ (zq_le (by omega) (by omega)) (zq_le (by omega) (by omega))) k_604 k_605 k_7 k_606 hdX6_in ⟨rfl, rfl⟩ ⟨Nat.le_of_ble_eq_true rfl, Nat.le_of_ble_eq_true rfl⟩ rfl rfl (Nat.le_of_ble_eq_true rfl) dX6_surrender_20 ?_
  refine zr_if_ne X 29 dX6_surrender_23 (by decide) (fun _ => ?_) (fun q => absurd q (nI_ne0 (by omega) (by omega)))
  refine zr_aloadn X 0 dX6_surrender_29 rfl ?_
  refine zr_iloadn X 1 dX6_surrender_30 rfl ?_
  refine zr_iloadn X 2 dX6_surrender_31 rfl ?_
  refine zr_iloadn X 3 dX6_surrender_32 rfl ?_
  refine zr_dVv (C := RX6) (ci := 6) [.int (nI (f)), .int (nI (t)), .int (nI (1))] [] X (zK_ok A D tc tF tL tM) (c_lay1 E μ (f := f) (t := t) (by omega) ht1 ht9) k_664 k_666 kp_6 k_7 k_667 hdX6_lay ⟨rfl, rfl⟩ ⟨Nat.le_of_ble_eq_true rfl, Nat.le_of_ble_eq_true rfl⟩ (by omega) rfl rfl rfl rfl (Nat.le_of_ble_eq_true rfl) dX6_surrender_33 ?_
  refine zr_aloadn X 0 dX6_surrender_36 rfl ?_
  refine zr_get X (ci := 6) (q := 0) (zR (1)) (.ref (ad (1))) dX6_surrender_37 (by omega) rfl rfl inX6 (by decide) rfl (rfl) rfl k_539 ?_
  refine zr_iloadn X 1 dX6_surrender_40 rfl ?_
  refine zr_bipush X (nI (29)) dX6_surrender_41 (by decide +kernel) ?_
  refine zr_dSi [.int (nI (f)), .int (nI (29))] [.ref (ad (1))] X (zK_ok A D tc tF tL tM) (zM_i (z1 := nI (32 * f + 36)) (c_of E (zlay μ f (nI t) 1) (f) (29)) (congrArg nI (by omega))) k_597 k_598 k_7 k_599 hdX6_of ⟨rfl, rfl⟩ ⟨Nat.le_of_ble_eq_true rfl, Nat.le_of_ble_eq_true rfl⟩ rfl rfl (Nat.le_of_ble_eq_true rfl) dX6_surrender_43 ?_
  refine zr_iald X (j := 32 * f + 36) 0 (μ (32 * f + 36)) dX6_surrender_46 (by omega) rfl rfl rfl (by omega) (by omega) (zcg (b := 32 * f + 36) (by omega) ((zlay_lo (by omega)).trans (rfl))) ?_
  refine zr_iloadn X 2 dX6_surrender_47 rfl ?_
  refine zr_icmp_lt X 58 dX6_surrender_48 (by decide) (fun _ => ?_) (fun q => absurd (h) q)
  refine zr_bipush X (-4) dX6_surrender_58 (by decide +kernel) ?_
  exact zr_iret X dX6_surrender_60 ⟨rfl, rfl⟩

set_option maxHeartbeats 4000000 in
set_option maxRecDepth 100000 in
theorem c_surrender_m1 {l : Launch} {D : va_G} {tc : Nat → ClassId} {ad : Nat → Nat} {A : Nat → Prop} {tF tL tM : Nat} (E : zN 6 A ad) (μ : Nat → Int32) {m c k : Nat} (S : refS μ m c k) {f : Nat} (hf : f < c) {t : Nat} (ht1 : 1 ≤ t) (ht9 : t ≤ 9999) (h : ¬ μ (32 * f + 36) < nI t) (h2 : ¬ zlay μ f (nI t) 1 2450 ≤ 0) : zMi l yX6_surrender cX6_surrender 5 (some .int) (zrm 6) (zK A D tc tF tL tM) A D vwCl tc ad 6 shR [.ref (ad (0)), .int (nI (f)), .int (nI (t)), .int (nI (1))] μ (fun r u => r = -4 ∧ u = zlay μ f (nI t) 1) := by
  refine zM_of RX6 [(0, .ref (ad (0))), (1, .int (nI (f))), (2, .int (nI (t))), (3, .int (nI (1)))] (zK_ok A D tc tF tL tM) E.1 E.2 owR_ok (by decide +kernel) rfl (Nat.le_of_ble_eq_true rfl) rfl ?_
  intro pP eE sS mM aS bL mT cO X
  obtain ⟨hm, hm2, hc, h8, hk, hk4⟩ := S
  refine zr_aloadn X 0 dX6_surrender_0 rfl ?_
  refine zr_iloadn X 1 dX6_surrender_1 rfl ?_
  refine zr_dVi (C := RX6) (ci := 6) [.int (nI (f))] [] X (zK_ok A D tc tF tL tM) (c_isFirm_t E μ (hc) h8 (by omega)) k_611 k_613 kp_2 k_7 k_614 hdX6_isFirm ⟨rfl, rfl⟩ ⟨Nat.le_of_ble_eq_true rfl, Nat.le_of_ble_eq_true rfl⟩ (by omega) rfl rfl rfl rfl (Nat.le_of_ble_eq_true rfl) dX6_surrender_2 ?_
  refine zr_if_ne X 10 dX6_surrender_5 (by decide) (fun _ => ?_) (fun q => absurd q (nI_ne0 (by omega) (by omega)))
  refine zr_iloadn X 2 dX6_surrender_10 rfl ?_
  refine zr_dSi [.int (nI (t))] [] X (zK_ok A D tc tF tL tM) (c_isTonnes_t E μ (by omega) (by omega)) k_615 k_616 k_7 k_617 hdX6_isTonnes ⟨rfl, rfl⟩ ⟨Nat.le_of_ble_eq_true rfl, Nat.le_of_ble_eq_true rfl⟩ rfl rfl (Nat.le_of_ble_eq_true rfl) dX6_surrender_11 ?_
  refine zr_if_eq X 26 dX6_surrender_14 (by decide) (fun q => absurd q (nI_ne0 (by omega) (by omega))) (fun _ => ?_)
  refine zr_iloadn X 3 dX6_surrender_17 rfl ?_
  refine zr_iconst X (nI (0)) dX6_surrender_18 (by decide +kernel) ?_
  refine zr_iconst X (nI (2)) dX6_surrender_19 (by decide +kernel) ?_
  refine zr_dSi [.int (nI (1)), .int (nI (0)), .int (nI (2))] [] X (zK_ok A D tc tF tL tM) (c_in_t E μ (zq_le (by omega) (by omega)) (zq_le (by omega) (by omega))) k_604 k_605 k_7 k_606 hdX6_in ⟨rfl, rfl⟩ ⟨Nat.le_of_ble_eq_true rfl, Nat.le_of_ble_eq_true rfl⟩ rfl rfl (Nat.le_of_ble_eq_true rfl) dX6_surrender_20 ?_
  refine zr_if_ne X 29 dX6_surrender_23 (by decide) (fun _ => ?_) (fun q => absurd q (nI_ne0 (by omega) (by omega)))
  refine zr_aloadn X 0 dX6_surrender_29 rfl ?_
  refine zr_iloadn X 1 dX6_surrender_30 rfl ?_
  refine zr_iloadn X 2 dX6_surrender_31 rfl ?_
  refine zr_iloadn X 3 dX6_surrender_32 rfl ?_
  refine zr_dVv (C := RX6) (ci := 6) [.int (nI (f)), .int (nI (t)), .int (nI (1))] [] X (zK_ok A D tc tF tL tM) (c_lay1 E μ (f := f) (t := t) (by omega) ht1 ht9) k_664 k_666 kp_6 k_7 k_667 hdX6_lay ⟨rfl, rfl⟩ ⟨Nat.le_of_ble_eq_true rfl, Nat.le_of_ble_eq_true rfl⟩ (by omega) rfl rfl rfl rfl (Nat.le_of_ble_eq_true rfl) dX6_surrender_33 ?_
  refine zr_aloadn X 0 dX6_surrender_36 rfl ?_
  refine zr_get X (ci := 6) (q := 0) (zR (1)) (.ref (ad (1))) dX6_surrender_37 (by omega) rfl rfl inX6 (by decide) rfl (rfl) rfl k_539 ?_
  refine zr_iloadn X 1 dX6_surrender_40 rfl ?_
  refine zr_bipush X (nI (29)) dX6_surrender_41 (by decide +kernel) ?_
  refine zr_dSi [.int (nI (f)), .int (nI (29))] [.ref (ad (1))] X (zK_ok A D tc tF tL tM) (zM_i (z1 := nI (32 * f + 36)) (c_of E (zlay μ f (nI t) 1) (f) (29)) (congrArg nI (by omega))) k_597 k_598 k_7 k_599 hdX6_of ⟨rfl, rfl⟩ ⟨Nat.le_of_ble_eq_true rfl, Nat.le_of_ble_eq_true rfl⟩ rfl rfl (Nat.le_of_ble_eq_true rfl) dX6_surrender_43 ?_
  refine zr_iald X (j := 32 * f + 36) 0 (μ (32 * f + 36)) dX6_surrender_46 (by omega) rfl rfl rfl (by omega) (by omega) (zcg (b := 32 * f + 36) (by omega) ((zlay_lo (by omega)).trans (rfl))) ?_
  refine zr_iloadn X 2 dX6_surrender_47 rfl ?_
  refine zr_icmp_lt X 58 dX6_surrender_48 (by decide) (fun q => absurd q (h)) (fun _ => ?_)
  refine zr_aloadn X 0 dX6_surrender_51 rfl ?_
  refine zr_get X (ci := 6) (q := 7) zI (.int ((zlay μ f (nI t) 1) (2450))) dX6_surrender_52 (by omega) rfl rfl inX6 (by decide) rfl (congrArg Value.int (rfl)) rfl k_546 ?_
  refine zr_if_le X 61 dX6_surrender_55 (by decide) (fun q => absurd q (h2)) (fun _ => ?_)
  refine zr_bipush X (-4) dX6_surrender_58 (by decide +kernel) ?_
  exact zr_iret X dX6_surrender_60 ⟨rfl, rfl⟩

set_option maxHeartbeats 4000000 in
set_option maxRecDepth 100000 in
theorem c_surrender_ok1 {l : Launch} {D : va_G} {tc : Nat → ClassId} {ad : Nat → Nat} {A : Nat → Prop} {tF tL tM : Nat} (E : zN 6 A ad) (μ : Nat → Int32) {m c k : Nat} (S : refS μ m c k) {f : Nat} (hf : f < c) {t : Nat} (ht1 : 1 ≤ t) (ht9 : t ≤ 9999) (h : ¬ μ (32 * f + 36) < nI t) (h2 : zlay μ f (nI t) 1 2450 ≤ 0) : zMi l yX6_surrender cX6_surrender 5 (some .int) (zrm 6) (zK A D tc tF tL tM) A D vwCl tc ad 6 shR [.ref (ad (0)), .int (nI (f)), .int (nI (t)), .int (nI (1))] μ (fun r u => r = (zsg (zsv (zrec (zlay μ f (nI (t)) 1) (0) (k)) f 20) f 3) (32 * f + 36) - nI (t) ∧ u = (upd (upd (zsg (zsv (zrec (zlay μ f (nI (t)) 1) (0) (k)) f 20) f 3) (32 * f + 36) ((zsg (zsv (zrec (zlay μ f (nI (t)) 1) (0) (k)) f 20) f 3) (32 * f + 36) - nI (t))) (32 * f + 37) ((zsg (zsv (zrec (zlay μ f (nI (t)) 1) (0) (k)) f 20) f 3) (32 * f + 37) + nI (t)))) := by
  refine zM_of RX6 [(0, .ref (ad (0))), (1, .int (nI (f))), (2, .int (nI (t))), (3, .int (nI (1)))] (zK_ok A D tc tF tL tM) E.1 E.2 owR_ok (by decide +kernel) rfl (Nat.le_of_ble_eq_true rfl) rfl ?_
  intro pP eE sS mM aS bL mT cO X
  obtain ⟨hm, hm2, hc, h8, hk, hk4⟩ := S
  refine zr_aloadn X 0 dX6_surrender_0 rfl ?_
  refine zr_iloadn X 1 dX6_surrender_1 rfl ?_
  refine zr_dVi (C := RX6) (ci := 6) [.int (nI (f))] [] X (zK_ok A D tc tF tL tM) (c_isFirm_t E μ (hc) h8 (by omega)) k_611 k_613 kp_2 k_7 k_614 hdX6_isFirm ⟨rfl, rfl⟩ ⟨Nat.le_of_ble_eq_true rfl, Nat.le_of_ble_eq_true rfl⟩ (by omega) rfl rfl rfl rfl (Nat.le_of_ble_eq_true rfl) dX6_surrender_2 ?_
  refine zr_if_ne X 10 dX6_surrender_5 (by decide) (fun _ => ?_) (fun q => absurd q (nI_ne0 (by omega) (by omega)))
  refine zr_iloadn X 2 dX6_surrender_10 rfl ?_
  refine zr_dSi [.int (nI (t))] [] X (zK_ok A D tc tF tL tM) (c_isTonnes_t E μ (by omega) (by omega)) k_615 k_616 k_7 k_617 hdX6_isTonnes ⟨rfl, rfl⟩ ⟨Nat.le_of_ble_eq_true rfl, Nat.le_of_ble_eq_true rfl⟩ rfl rfl (Nat.le_of_ble_eq_true rfl) dX6_surrender_11 ?_
  refine zr_if_eq X 26 dX6_surrender_14 (by decide) (fun q => absurd q (nI_ne0 (by omega) (by omega))) (fun _ => ?_)
  refine zr_iloadn X 3 dX6_surrender_17 rfl ?_
  refine zr_iconst X (nI (0)) dX6_surrender_18 (by decide +kernel) ?_
  refine zr_iconst X (nI (2)) dX6_surrender_19 (by decide +kernel) ?_
  refine zr_dSi [.int (nI (1)), .int (nI (0)), .int (nI (2))] [] X (zK_ok A D tc tF tL tM) (c_in_t E μ (zq_le (by omega) (by omega)) (zq_le (by omega) (by omega))) k_604 k_605 k_7 k_606 hdX6_in ⟨rfl, rfl⟩ ⟨Nat.le_of_ble_eq_true rfl, Nat.le_of_ble_eq_true rfl⟩ rfl rfl (Nat.le_of_ble_eq_true rfl) dX6_surrender_20 ?_
  refine zr_if_ne X 29 dX6_surrender_23 (by decide) (fun _ => ?_) (fun q => absurd q (nI_ne0 (by omega) (by omega)))
  refine zr_aloadn X 0 dX6_surrender_29 rfl ?_
  refine zr_iloadn X 1 dX6_surrender_30 rfl ?_
  refine zr_iloadn X 2 dX6_surrender_31 rfl ?_
  refine zr_iloadn X 3 dX6_surrender_32 rfl ?_
  refine zr_dVv (C := RX6) (ci := 6) [.int (nI (f)), .int (nI (t)), .int (nI (1))] [] X (zK_ok A D tc tF tL tM) (c_lay1 E μ (f := f) (t := t) (by omega) ht1 ht9) k_664 k_666 kp_6 k_7 k_667 hdX6_lay ⟨rfl, rfl⟩ ⟨Nat.le_of_ble_eq_true rfl, Nat.le_of_ble_eq_true rfl⟩ (by omega) rfl rfl rfl rfl (Nat.le_of_ble_eq_true rfl) dX6_surrender_33 ?_
  refine zr_aloadn X 0 dX6_surrender_36 rfl ?_
  refine zr_get X (ci := 6) (q := 0) (zR (1)) (.ref (ad (1))) dX6_surrender_37 (by omega) rfl rfl inX6 (by decide) rfl (rfl) rfl k_539 ?_
  refine zr_iloadn X 1 dX6_surrender_40 rfl ?_
  refine zr_bipush X (nI (29)) dX6_surrender_41 (by decide +kernel) ?_
  refine zr_dSi [.int (nI (f)), .int (nI (29))] [.ref (ad (1))] X (zK_ok A D tc tF tL tM) (zM_i (z1 := nI (32 * f + 36)) (c_of E (zlay μ f (nI t) 1) (f) (29)) (congrArg nI (by omega))) k_597 k_598 k_7 k_599 hdX6_of ⟨rfl, rfl⟩ ⟨Nat.le_of_ble_eq_true rfl, Nat.le_of_ble_eq_true rfl⟩ rfl rfl (Nat.le_of_ble_eq_true rfl) dX6_surrender_43 ?_
  refine zr_iald X (j := 32 * f + 36) 0 (μ (32 * f + 36)) dX6_surrender_46 (by omega) rfl rfl rfl (by omega) (by omega) (zcg (b := 32 * f + 36) (by omega) ((zlay_lo (by omega)).trans (rfl))) ?_
  refine zr_iloadn X 2 dX6_surrender_47 rfl ?_
  refine zr_icmp_lt X 58 dX6_surrender_48 (by decide) (fun q => absurd q (h)) (fun _ => ?_)
  refine zr_aloadn X 0 dX6_surrender_51 rfl ?_
  refine zr_get X (ci := 6) (q := 7) zI (.int ((zlay μ f (nI t) 1) (2450))) dX6_surrender_52 (by omega) rfl rfl inX6 (by decide) rfl (congrArg Value.int (rfl)) rfl k_546 ?_
  refine zr_if_le X 61 dX6_surrender_55 (by decide) (fun _ => ?_) (fun q => absurd (h2) q)
  refine zr_aloadn X 0 dX6_surrender_61 rfl ?_
  refine zr_iconst X (nI (0)) dX6_surrender_62 (by decide +kernel) ?_
  refine zr_dVv (C := RX6) (ci := 6) [.int (nI (0))] [] X (zK_ok A D tc tF tL tM) (c_record E (zlay μ f (nI t) 1) ((zlay_lo (by omega)).trans (hk)) hk4 (by omega)) k_589 k_591 kp_1 k_7 k_592 hdX6_record ⟨rfl, rfl⟩ ⟨Nat.le_of_ble_eq_true rfl, Nat.le_of_ble_eq_true rfl⟩ (by omega) rfl rfl rfl rfl (Nat.le_of_ble_eq_true rfl) dX6_surrender_63 ?_
  refine zr_iconst X (nI (0)) dX6_surrender_66 (by decide +kernel) ?_
  refine zr_istore X [1, 2, 3, 4, 0] [(0, .ref (ad (0))), (1, .int (nI (f))), (2, .int (nI (t))), (3, .int (nI (1))), (4, .int (nI (0)))] dX6_surrender_67 (by decide) rfl ?_
  refine zr_for X (20) (fun i => (zsv (zrec (zlay μ f (nI (t)) 1) (0) (k)) f (i))) (fun i => [(0, .ref (ad (0))), (1, .int (nI (f))), (2, .int (nI (t))), (3, .int (nI (1))), (4, .int (nI (i)))]) [] (rfl) rfl ?_ ?_
  · refine zr_iload X 4 dX6_surrender_69 rfl ?_
    refine zr_bipush X (nI (20)) dX6_surrender_71 (by decide +kernel) ?_
    refine zr_icmp_ge X 126 dX6_surrender_73 (by decide) (fun _ => ?_) (fun q => absurd (zq_le (by omega) (by omega)) q)
    refine zr_iconst X (nI (0)) dX6_surrender_126 (by decide +kernel) ?_
    refine zr_istore X [1, 2, 3, 4, 0] [(0, .ref (ad (0))), (1, .int (nI (f))), (2, .int (nI (t))), (3, .int (nI (1))), (4, .int (nI (0)))] dX6_surrender_127 (by decide) rfl ?_
    refine zr_for X (3) (fun i => (zsg (zsv (zrec (zlay μ f (nI (t)) 1) (0) (k)) f 20) f (i))) (fun i => [(0, .ref (ad (0))), (1, .int (nI (f))), (2, .int (nI (t))), (3, .int (nI (1))), (4, .int (nI (i)))]) [] (rfl) rfl ?_ ?_
    · refine zr_iload X 4 dX6_surrender_129 rfl ?_
      refine zr_iconst X (nI (3)) dX6_surrender_131 (by decide +kernel) ?_
      refine zr_icmp_ge X 210 dX6_surrender_132 (by decide) (fun _ => ?_) (fun q => absurd (zq_le (by omega) (by omega)) q)
      refine zr_aloadn X 0 dX6_surrender_210 rfl ?_
      refine zr_get X (ci := 6) (q := 0) (zR (1)) (.ref (ad (1))) dX6_surrender_211 (by omega) rfl rfl inX6 (by decide) rfl (rfl) rfl k_539 ?_
      refine zr_iloadn X 1 dX6_surrender_214 rfl ?_
      refine zr_bipush X (nI (29)) dX6_surrender_215 (by decide +kernel) ?_
      refine zr_dSi [.int (nI (f)), .int (nI (29))] [.ref (ad (1))] X (zK_ok A D tc tF tL tM) (zM_i (z1 := nI (32 * f + 36)) (c_of E (zsg (zsv (zrec (zlay μ f (nI (t)) 1) (0) (k)) f 20) f (3)) (f) (29)) (congrArg nI (by omega))) k_597 k_598 k_7 k_599 hdX6_of ⟨rfl, rfl⟩ ⟨Nat.le_of_ble_eq_true rfl, Nat.le_of_ble_eq_true rfl⟩ rfl rfl (Nat.le_of_ble_eq_true rfl) dX6_surrender_217 ?_
      refine zr_dup2 X dX6_surrender_220 rfl rfl ?_
      refine zr_iald X (j := 32 * f + 36) 0 ((zsg (zsv (zrec (zlay μ f (nI (t)) 1) (0) (k)) f 20) f (3)) (32 * f + 36)) dX6_surrender_221 (by omega) rfl rfl rfl (by omega) (by omega) (zcg (b := 32 * f + 36) (by omega) (rfl)) ?_
      refine zr_iloadn X 2 dX6_surrender_222 rfl ?_
      refine zr_isub X (((zsg (zsv (zrec (zlay μ f (nI (t)) 1) (0) (k)) f 20) f (3)) (32 * f + 36)) - (nI (t))) dX6_surrender_223 rfl ?_
      refine zr_iast X (j := 32 * f + 36) 0 (32 * f + 36) dX6_surrender_224 (by omega) rfl rfl rfl (by omega) (by omega) (by omega) ?_
      refine zr_aloadn X 0 dX6_surrender_225 rfl ?_
      refine zr_get X (ci := 6) (q := 0) (zR (1)) (.ref (ad (1))) dX6_surrender_226 (by omega) rfl rfl inX6 (by decide) rfl (rfl) rfl k_539 ?_
      refine zr_iloadn X 1 dX6_surrender_229 rfl ?_
      refine zr_bipush X (nI (30)) dX6_surrender_230 (by decide +kernel) ?_
      refine zr_dSi [.int (nI (f)), .int (nI (30))] [.ref (ad (1))] X (zK_ok A D tc tF tL tM) (zM_i (z1 := nI (32 * f + 37)) (c_of E (upd (zsg (zsv (zrec (zlay μ f (nI (t)) 1) (0) (k)) f 20) f (3)) (32 * f + 36) (((zsg (zsv (zrec (zlay μ f (nI (t)) 1) (0) (k)) f 20) f (3)) (32 * f + 36)) - (nI (t)))) (f) (30)) (congrArg nI (by omega))) k_597 k_598 k_7 k_599 hdX6_of ⟨rfl, rfl⟩ ⟨Nat.le_of_ble_eq_true rfl, Nat.le_of_ble_eq_true rfl⟩ rfl rfl (Nat.le_of_ble_eq_true rfl) dX6_surrender_232 ?_
      refine zr_dup2 X dX6_surrender_235 rfl rfl ?_
      refine zr_iald X (j := 32 * f + 37) 0 ((zsg (zsv (zrec (zlay μ f (nI (t)) 1) (0) (k)) f 20) f (3)) (32 * f + 37)) dX6_surrender_236 (by omega) rfl rfl rfl (by omega) (by omega) (zcg (b := 32 * f + 37) (by omega) ((pk_un (by omega)).trans (rfl))) ?_
      refine zr_iloadn X 2 dX6_surrender_237 rfl ?_
      refine zr_iadd X (((zsg (zsv (zrec (zlay μ f (nI (t)) 1) (0) (k)) f 20) f (3)) (32 * f + 37)) + (nI (t))) dX6_surrender_238 rfl ?_
      refine zr_iast X (j := 32 * f + 37) 0 (32 * f + 37) dX6_surrender_239 (by omega) rfl rfl rfl (by omega) (by omega) (by omega) ?_
      refine zr_aloadn X 0 dX6_surrender_240 rfl ?_
      refine zr_get X (ci := 6) (q := 0) (zR (1)) (.ref (ad (1))) dX6_surrender_241 (by omega) rfl rfl inX6 (by decide) rfl (rfl) rfl k_539 ?_
      refine zr_iloadn X 1 dX6_surrender_244 rfl ?_
      refine zr_bipush X (nI (29)) dX6_surrender_245 (by decide +kernel) ?_
      refine zr_dSi [.int (nI (f)), .int (nI (29))] [.ref (ad (1))] X (zK_ok A D tc tF tL tM) (zM_i (z1 := nI (32 * f + 36)) (c_of E (upd (upd (zsg (zsv (zrec (zlay μ f (nI (t)) 1) (0) (k)) f 20) f (3)) (32 * f + 36) (((zsg (zsv (zrec (zlay μ f (nI (t)) 1) (0) (k)) f 20) f (3)) (32 * f + 36)) - (nI (t)))) (32 * f + 37) (((zsg (zsv (zrec (zlay μ f (nI (t)) 1) (0) (k)) f 20) f (3)) (32 * f + 37)) + (nI (t)))) (f) (29)) (congrArg nI (by omega))) k_597 k_598 k_7 k_599 hdX6_of ⟨rfl, rfl⟩ ⟨Nat.le_of_ble_eq_true rfl, Nat.le_of_ble_eq_true rfl⟩ rfl rfl (Nat.le_of_ble_eq_true rfl) dX6_surrender_247 ?_
      refine zr_iald X (j := 32 * f + 36) 0 (((zsg (zsv (zrec (zlay μ f (nI (t)) 1) (0) (k)) f 20) f (3)) (32 * f + 36)) - (nI (t))) dX6_surrender_250 (by omega) rfl rfl rfl (by omega) (by omega) (zcg (b := 32 * f + 36) (by omega) ((pk_un (by omega)).trans (pk_us))) ?_
      exact zr_iret X dX6_surrender_251 ⟨rfl, rfl⟩
    · intro i hi ih129
      refine zr_iload X 4 dX6_surrender_129 rfl ?_
      refine zr_iconst X (nI (3)) dX6_surrender_131 (by decide +kernel) ?_
      refine zr_icmp_ge X 210 dX6_surrender_132 (by decide) (fun q => absurd q (nI_ge (by omega) (by omega))) (fun _ => ?_)
      refine zr_aloadn X 0 dX6_surrender_135 rfl ?_
      refine zr_get X (ci := 6) (q := 0) (zR (1)) (.ref (ad (1))) dX6_surrender_136 (by omega) rfl rfl inX6 (by decide) rfl (rfl) rfl k_539 ?_
      refine zr_iloadn X 1 dX6_surrender_139 rfl ?_
      refine zr_bipush X (nI (20)) dX6_surrender_140 (by decide +kernel) ?_
      refine zr_iload X 4 dX6_surrender_142 rfl ?_
      refine zr_iadd X (nI (i + 20)) dX6_surrender_144 ((nI_add _ _).trans (congrArg nI (by omega))) ?_
      refine zr_dSi [.int (nI (f)), .int (nI (i + 20))] [.ref (ad (1))] X (zK_ok A D tc tF tL tM) (zM_i (z1 := nI (32 * f + i + 27)) (c_of E (zsg (zsv (zrec (zlay μ f (nI (t)) 1) (0) (k)) f 20) f (i)) (f) (i + 20)) (congrArg nI (by omega))) k_597 k_598 k_7 k_599 hdX6_of ⟨rfl, rfl⟩ ⟨Nat.le_of_ble_eq_true rfl, Nat.le_of_ble_eq_true rfl⟩ rfl rfl (Nat.le_of_ble_eq_true rfl) dX6_surrender_145 ?_
      refine zr_dup2 X dX6_surrender_148 rfl rfl ?_
      refine zr_iald X (j := 32 * f + i + 27) 0 ((zsg (zsv (zrec (zlay μ f (nI (t)) 1) (0) (k)) f 20) f (i)) (32 * f + i + 27)) dX6_surrender_149 (by omega) rfl rfl rfl (by omega) (by omega) (zcg (b := 32 * f + i + 27) (by omega) (rfl)) ?_
      refine zr_aloadn X 0 dX6_surrender_150 rfl ?_
      refine zr_get X (ci := 6) (q := 6) (zR (4)) (.ref (ad (4))) dX6_surrender_151 (by omega) rfl rfl inX6 (by decide) rfl (rfl) rfl k_545 ?_
      refine zr_iload X 4 dX6_surrender_154 rfl ?_
      refine zr_iald X (j := i) 0 ((zsg (zsv (zrec (zlay μ f (nI (t)) 1) (0) (k)) f 20) f (i)) (i + 2540)) dX6_surrender_156 (by omega) rfl rfl rfl (by omega) (by omega) (zcg (b := i + 2540) (by omega) (rfl)) ?_
      refine zr_isub X (((zsg (zsv (zrec (zlay μ f (nI (t)) 1) (0) (k)) f 20) f (i)) (32 * f + i + 27)) - ((zsg (zsv (zrec (zlay μ f (nI (t)) 1) (0) (k)) f 20) f (i)) (i + 2540))) dX6_surrender_157 rfl ?_
      refine zr_iast X (j := 32 * f + i + 27) 0 (32 * f + i + 27) dX6_surrender_158 (by omega) rfl rfl rfl (by omega) (by omega) (by omega) ?_
      refine zr_aloadn X 0 dX6_surrender_159 rfl ?_
      refine zr_get X (ci := 6) (q := 0) (zR (1)) (.ref (ad (1))) dX6_surrender_160 (by omega) rfl rfl inX6 (by decide) rfl (rfl) rfl k_539 ?_
      refine zr_iloadn X 1 dX6_surrender_163 rfl ?_
      refine zr_bipush X (nI (23)) dX6_surrender_164 (by decide +kernel) ?_
      refine zr_iload X 4 dX6_surrender_166 rfl ?_
      refine zr_iadd X (nI (i + 23)) dX6_surrender_168 ((nI_add _ _).trans (congrArg nI (by omega))) ?_
      refine zr_dSi [.int (nI (f)), .int (nI (i + 23))] [.ref (ad (1))] X (zK_ok A D tc tF tL tM) (zM_i (z1 := nI (32 * f + i + 30)) (c_of E (upd (zsg (zsv (zrec (zlay μ f (nI (t)) 1) (0) (k)) f 20) f (i)) (32 * f + i + 27) (((zsg (zsv (zrec (zlay μ f (nI (t)) 1) (0) (k)) f 20) f (i)) (32 * f + i + 27)) - ((zsg (zsv (zrec (zlay μ f (nI (t)) 1) (0) (k)) f 20) f (i)) (i + 2540)))) (f) (i + 23)) (congrArg nI (by omega))) k_597 k_598 k_7 k_599 hdX6_of ⟨rfl, rfl⟩ ⟨Nat.le_of_ble_eq_true rfl, Nat.le_of_ble_eq_true rfl⟩ rfl rfl (Nat.le_of_ble_eq_true rfl) dX6_surrender_169 ?_
      refine zr_dup2 X dX6_surrender_172 rfl rfl ?_
      refine zr_iald X (j := 32 * f + i + 30) 0 ((zsg (zsv (zrec (zlay μ f (nI (t)) 1) (0) (k)) f 20) f (i)) (32 * f + i + 30)) dX6_surrender_173 (by omega) rfl rfl rfl (by omega) (by omega) (zcg (b := 32 * f + i + 30) (by omega) ((pk_un (by omega)).trans (rfl))) ?_
      refine zr_aloadn X 0 dX6_surrender_174 rfl ?_
      refine zr_get X (ci := 6) (q := 6) (zR (4)) (.ref (ad (4))) dX6_surrender_175 (by omega) rfl rfl inX6 (by decide) rfl (rfl) rfl k_545 ?_
      refine zr_iload X 4 dX6_surrender_178 rfl ?_
      refine zr_iald X (j := i) 0 ((zsg (zsv (zrec (zlay μ f (nI (t)) 1) (0) (k)) f 20) f (i)) (i + 2540)) dX6_surrender_180 (by omega) rfl rfl rfl (by omega) (by omega) (zcg (b := i + 2540) (by omega) ((pk_un (by omega)).trans (rfl))) ?_
      refine zr_iadd X (((zsg (zsv (zrec (zlay μ f (nI (t)) 1) (0) (k)) f 20) f (i)) (32 * f + i + 30)) + ((zsg (zsv (zrec (zlay μ f (nI (t)) 1) (0) (k)) f 20) f (i)) (i + 2540))) dX6_surrender_181 rfl ?_
      refine zr_iast X (j := 32 * f + i + 30) 0 (32 * f + i + 30) dX6_surrender_182 (by omega) rfl rfl rfl (by omega) (by omega) (by omega) ?_
      refine zr_aloadn X 0 dX6_surrender_183 rfl ?_
      refine zr_get X (ci := 6) (q := 0) (zR (1)) (.ref (ad (1))) dX6_surrender_184 (by omega) rfl rfl inX6 (by decide) rfl (rfl) rfl k_539 ?_
      refine zr_sipush X (nI (346)) dX6_surrender_187 (by decide +kernel) ?_
      refine zr_iload X 4 dX6_surrender_190 rfl ?_
      refine zr_iadd X (nI (i + 346)) dX6_surrender_192 ((nI_add _ _).trans (congrArg nI (by omega))) ?_
      refine zr_dup2 X dX6_surrender_193 rfl rfl ?_
      refine zr_iald X (j := i + 346) 0 ((zsg (zsv (zrec (zlay μ f (nI (t)) 1) (0) (k)) f 20) f (i)) (i + 346)) dX6_surrender_194 (by omega) rfl rfl rfl (by omega) (by omega) (zcg (b := i + 346) (by omega) ((pk_un (by omega)).trans ((pk_un (by omega)).trans (rfl)))) ?_
      refine zr_aloadn X 0 dX6_surrender_195 rfl ?_
      refine zr_get X (ci := 6) (q := 6) (zR (4)) (.ref (ad (4))) dX6_surrender_196 (by omega) rfl rfl inX6 (by decide) rfl (rfl) rfl k_545 ?_
      refine zr_iload X 4 dX6_surrender_199 rfl ?_
      refine zr_iald X (j := i) 0 ((zsg (zsv (zrec (zlay μ f (nI (t)) 1) (0) (k)) f 20) f (i)) (i + 2540)) dX6_surrender_201 (by omega) rfl rfl rfl (by omega) (by omega) (zcg (b := i + 2540) (by omega) ((pk_un (by omega)).trans ((pk_un (by omega)).trans (rfl)))) ?_
      refine zr_iadd X (((zsg (zsv (zrec (zlay μ f (nI (t)) 1) (0) (k)) f 20) f (i)) (i + 346)) + ((zsg (zsv (zrec (zlay μ f (nI (t)) 1) (0) (k)) f 20) f (i)) (i + 2540))) dX6_surrender_202 rfl ?_
      refine zr_iast X (j := i + 346) 0 (i + 346) dX6_surrender_203 (by omega) rfl rfl rfl (by omega) (by omega) (by omega) ?_
      refine zr_iinc X 4 (nI (i + 1)) [1, 2, 3, 4, 0] [(0, .ref (ad (0))), (1, .int (nI (f))), (2, .int (nI (t))), (3, .int (nI (1))), (4, .int (nI (i + 1)))] dX6_surrender_204 rfl (zinc _) (by decide) rfl ?_
      refine zr_goto X 129 dX6_surrender_207 (by decide) ?_
      exact ih129
  · intro i hi ih69
    refine zr_iload X 4 dX6_surrender_69 rfl ?_
    refine zr_bipush X (nI (20)) dX6_surrender_71 (by decide +kernel) ?_
    refine zr_icmp_ge X 126 dX6_surrender_73 (by decide) (fun q => absurd q (nI_ge (by omega) (by omega))) (fun _ => ?_)
    refine zr_aloadn X 0 dX6_surrender_76 rfl ?_
    refine zr_get X (ci := 6) (q := 0) (zR (1)) (.ref (ad (1))) dX6_surrender_77 (by omega) rfl rfl inX6 (by decide) rfl (rfl) rfl k_539 ?_
    refine zr_iloadn X 1 dX6_surrender_80 rfl ?_
    refine zr_iconst X (nI (0)) dX6_surrender_81 (by decide +kernel) ?_
    refine zr_iload X 4 dX6_surrender_82 rfl ?_
    refine zr_iadd X (nI (i)) dX6_surrender_84 ((nI_add _ _).trans (congrArg nI (by omega))) ?_
    refine zr_dSi [.int (nI (f)), .int (nI (i))] [.ref (ad (1))] X (zK_ok A D tc tF tL tM) (zM_i (z1 := nI (32 * f + i + 7)) (c_of E (zsv (zrec (zlay μ f (nI (t)) 1) (0) (k)) f (i)) (f) (i)) (congrArg nI (by omega))) k_597 k_598 k_7 k_599 hdX6_of ⟨rfl, rfl⟩ ⟨Nat.le_of_ble_eq_true rfl, Nat.le_of_ble_eq_true rfl⟩ rfl rfl (Nat.le_of_ble_eq_true rfl) dX6_surrender_85 ?_
    refine zr_dup2 X dX6_surrender_88 rfl rfl ?_
    refine zr_iald X (j := 32 * f + i + 7) 0 ((zsv (zrec (zlay μ f (nI (t)) 1) (0) (k)) f (i)) (32 * f + i + 7)) dX6_surrender_89 (by omega) rfl rfl rfl (by omega) (by omega) (zcg (b := 32 * f + i + 7) (by omega) (rfl)) ?_
    refine zr_aloadn X 0 dX6_surrender_90 rfl ?_
    refine zr_get X (ci := 6) (q := 5) (zR (3)) (.ref (ad (3))) dX6_surrender_91 (by omega) rfl rfl inX6 (by decide) rfl (rfl) rfl k_544 ?_
    refine zr_iload X 4 dX6_surrender_94 rfl ?_
    refine zr_iald X (j := i) 0 ((zsv (zrec (zlay μ f (nI (t)) 1) (0) (k)) f (i)) (i + 2520)) dX6_surrender_96 (by omega) rfl rfl rfl (by omega) (by omega) (zcg (b := i + 2520) (by omega) (rfl)) ?_
    refine zr_isub X (((zsv (zrec (zlay μ f (nI (t)) 1) (0) (k)) f (i)) (32 * f + i + 7)) - ((zsv (zrec (zlay μ f (nI (t)) 1) (0) (k)) f (i)) (i + 2520))) dX6_surrender_97 rfl ?_
    refine zr_iast X (j := 32 * f + i + 7) 0 (32 * f + i + 7) dX6_surrender_98 (by omega) rfl rfl rfl (by omega) (by omega) (by omega) ?_
    refine zr_aloadn X 0 dX6_surrender_99 rfl ?_
    refine zr_get X (ci := 6) (q := 0) (zR (1)) (.ref (ad (1))) dX6_surrender_100 (by omega) rfl rfl inX6 (by decide) rfl (rfl) rfl k_539 ?_
    refine zr_sipush X (nI (283)) dX6_surrender_103 (by decide +kernel) ?_
    refine zr_iload X 4 dX6_surrender_106 rfl ?_
    refine zr_iadd X (nI (i + 283)) dX6_surrender_108 ((nI_add _ _).trans (congrArg nI (by omega))) ?_
    refine zr_dup2 X dX6_surrender_109 rfl rfl ?_
    refine zr_iald X (j := i + 283) 0 ((zsv (zrec (zlay μ f (nI (t)) 1) (0) (k)) f (i)) (i + 283)) dX6_surrender_110 (by omega) rfl rfl rfl (by omega) (by omega) (zcg (b := i + 283) (by omega) ((pk_un (by omega)).trans (rfl))) ?_
    refine zr_aloadn X 0 dX6_surrender_111 rfl ?_
    refine zr_get X (ci := 6) (q := 5) (zR (3)) (.ref (ad (3))) dX6_surrender_112 (by omega) rfl rfl inX6 (by decide) rfl (rfl) rfl k_544 ?_
    refine zr_iload X 4 dX6_surrender_115 rfl ?_
    refine zr_iald X (j := i) 0 ((zsv (zrec (zlay μ f (nI (t)) 1) (0) (k)) f (i)) (i + 2520)) dX6_surrender_117 (by omega) rfl rfl rfl (by omega) (by omega) (zcg (b := i + 2520) (by omega) ((pk_un (by omega)).trans (rfl))) ?_
    refine zr_iadd X (((zsv (zrec (zlay μ f (nI (t)) 1) (0) (k)) f (i)) (i + 283)) + ((zsv (zrec (zlay μ f (nI (t)) 1) (0) (k)) f (i)) (i + 2520))) dX6_surrender_118 rfl ?_
    refine zr_iast X (j := i + 283) 0 (i + 283) dX6_surrender_119 (by omega) rfl rfl rfl (by omega) (by omega) (by omega) ?_
    refine zr_iinc X 4 (nI (i + 1)) [1, 2, 3, 4, 0] [(0, .ref (ad (0))), (1, .int (nI (f))), (2, .int (nI (t))), (3, .int (nI (1))), (4, .int (nI (i + 1)))] dX6_surrender_120 rfl (zinc _) (by decide) rfl ?_
    refine zr_goto X 69 dX6_surrender_123 (by decide) ?_
    exact ih69

set_option maxHeartbeats 4000000 in
set_option maxRecDepth 100000 in
theorem c_surrender_n2 {l : Launch} {D : va_G} {tc : Nat → ClassId} {ad : Nat → Nat} {A : Nat → Prop} {tF tL tM : Nat} (E : zN 6 A ad) (μ : Nat → Int32) {m c k : Nat} (S : refS μ m c k) {f : Nat} (hf : f < c) {t : Nat} (ht1 : 1 ≤ t) (ht9 : t ≤ 9999) (h : μ (32 * f + 36) < nI t) : zMi l yX6_surrender cX6_surrender 5 (some .int) (zrm 6) (zK A D tc tF tL tM) A D vwCl tc ad 6 shR [.ref (ad (0)), .int (nI (f)), .int (nI (t)), .int (nI (2))] μ (fun r u => r = -4 ∧ u = zlay μ f (nI t) 2) := by
  refine zM_of RX6 [(0, .ref (ad (0))), (1, .int (nI (f))), (2, .int (nI (t))), (3, .int (nI (2)))] (zK_ok A D tc tF tL tM) E.1 E.2 owR_ok (by decide +kernel) rfl (Nat.le_of_ble_eq_true rfl) rfl ?_
  intro pP eE sS mM aS bL mT cO X
  obtain ⟨hm, hm2, hc, h8, hk, hk4⟩ := S
  refine zr_aloadn X 0 dX6_surrender_0 rfl ?_
  refine zr_iloadn X 1 dX6_surrender_1 rfl ?_
  refine zr_dVi (C := RX6) (ci := 6) [.int (nI (f))] [] X (zK_ok A D tc tF tL tM) (c_isFirm_t E μ (hc) h8 (by omega)) k_611 k_613 kp_2 k_7 k_614 hdX6_isFirm ⟨rfl, rfl⟩ ⟨Nat.le_of_ble_eq_true rfl, Nat.le_of_ble_eq_true rfl⟩ (by omega) rfl rfl rfl rfl (Nat.le_of_ble_eq_true rfl) dX6_surrender_2 ?_
  refine zr_if_ne X 10 dX6_surrender_5 (by decide) (fun _ => ?_) (fun q => absurd q (nI_ne0 (by omega) (by omega)))
  refine zr_iloadn X 2 dX6_surrender_10 rfl ?_
  refine zr_dSi [.int (nI (t))] [] X (zK_ok A D tc tF tL tM) (c_isTonnes_t E μ (by omega) (by omega)) k_615 k_616 k_7 k_617 hdX6_isTonnes ⟨rfl, rfl⟩ ⟨Nat.le_of_ble_eq_true rfl, Nat.le_of_ble_eq_true rfl⟩ rfl rfl (Nat.le_of_ble_eq_true rfl) dX6_surrender_11 ?_
  refine zr_if_eq X 26 dX6_surrender_14 (by decide) (fun q => absurd q (nI_ne0 (by omega) (by omega))) (fun _ => ?_)
  refine zr_iloadn X 3 dX6_surrender_17 rfl ?_
  refine zr_iconst X (nI (0)) dX6_surrender_18 (by decide +kernel) ?_
  refine zr_iconst X (nI (2)) dX6_surrender_19 (by decide +kernel) ?_
  refine zr_dSi [.int (nI (2)), .int (nI (0)), .int (nI (2))] [] X (zK_ok A D tc tF tL tM) (c_in_t E μ (zq_le (by omega) (by omega)) (zq_le (by omega) (by omega))) k_604 k_605 k_7 k_606 hdX6_in ⟨rfl, rfl⟩ ⟨Nat.le_of_ble_eq_true rfl, Nat.le_of_ble_eq_true rfl⟩ rfl rfl (Nat.le_of_ble_eq_true rfl) dX6_surrender_20 ?_
  refine zr_if_ne X 29 dX6_surrender_23 (by decide) (fun _ => ?_) (fun q => absurd q (nI_ne0 (by omega) (by omega)))
  refine zr_aloadn X 0 dX6_surrender_29 rfl ?_
  refine zr_iloadn X 1 dX6_surrender_30 rfl ?_
  refine zr_iloadn X 2 dX6_surrender_31 rfl ?_
  refine zr_iloadn X 3 dX6_surrender_32 rfl ?_
  refine zr_dVv (C := RX6) (ci := 6) [.int (nI (f)), .int (nI (t)), .int (nI (2))] [] X (zK_ok A D tc tF tL tM) (c_lay2 E μ (f := f) (t := t) (by omega) ht1 ht9) k_664 k_666 kp_6 k_7 k_667 hdX6_lay ⟨rfl, rfl⟩ ⟨Nat.le_of_ble_eq_true rfl, Nat.le_of_ble_eq_true rfl⟩ (by omega) rfl rfl rfl rfl (Nat.le_of_ble_eq_true rfl) dX6_surrender_33 ?_
  refine zr_aloadn X 0 dX6_surrender_36 rfl ?_
  refine zr_get X (ci := 6) (q := 0) (zR (1)) (.ref (ad (1))) dX6_surrender_37 (by omega) rfl rfl inX6 (by decide) rfl (rfl) rfl k_539 ?_
  refine zr_iloadn X 1 dX6_surrender_40 rfl ?_
  refine zr_bipush X (nI (29)) dX6_surrender_41 (by decide +kernel) ?_
  refine zr_dSi [.int (nI (f)), .int (nI (29))] [.ref (ad (1))] X (zK_ok A D tc tF tL tM) (zM_i (z1 := nI (32 * f + 36)) (c_of E (zlay μ f (nI t) 2) (f) (29)) (congrArg nI (by omega))) k_597 k_598 k_7 k_599 hdX6_of ⟨rfl, rfl⟩ ⟨Nat.le_of_ble_eq_true rfl, Nat.le_of_ble_eq_true rfl⟩ rfl rfl (Nat.le_of_ble_eq_true rfl) dX6_surrender_43 ?_
  refine zr_iald X (j := 32 * f + 36) 0 (μ (32 * f + 36)) dX6_surrender_46 (by omega) rfl rfl rfl (by omega) (by omega) (zcg (b := 32 * f + 36) (by omega) ((zlay_lo (by omega)).trans (rfl))) ?_
  refine zr_iloadn X 2 dX6_surrender_47 rfl ?_
  refine zr_icmp_lt X 58 dX6_surrender_48 (by decide) (fun _ => ?_) (fun q => absurd (h) q)
  refine zr_bipush X (-4) dX6_surrender_58 (by decide +kernel) ?_
  exact zr_iret X dX6_surrender_60 ⟨rfl, rfl⟩

set_option maxHeartbeats 4000000 in
set_option maxRecDepth 100000 in
theorem c_surrender_m2 {l : Launch} {D : va_G} {tc : Nat → ClassId} {ad : Nat → Nat} {A : Nat → Prop} {tF tL tM : Nat} (E : zN 6 A ad) (μ : Nat → Int32) {m c k : Nat} (S : refS μ m c k) {f : Nat} (hf : f < c) {t : Nat} (ht1 : 1 ≤ t) (ht9 : t ≤ 9999) (h : ¬ μ (32 * f + 36) < nI t) (h2 : ¬ zlay μ f (nI t) 2 2450 ≤ 0) : zMi l yX6_surrender cX6_surrender 5 (some .int) (zrm 6) (zK A D tc tF tL tM) A D vwCl tc ad 6 shR [.ref (ad (0)), .int (nI (f)), .int (nI (t)), .int (nI (2))] μ (fun r u => r = -4 ∧ u = zlay μ f (nI t) 2) := by
  refine zM_of RX6 [(0, .ref (ad (0))), (1, .int (nI (f))), (2, .int (nI (t))), (3, .int (nI (2)))] (zK_ok A D tc tF tL tM) E.1 E.2 owR_ok (by decide +kernel) rfl (Nat.le_of_ble_eq_true rfl) rfl ?_
  intro pP eE sS mM aS bL mT cO X
  obtain ⟨hm, hm2, hc, h8, hk, hk4⟩ := S
  refine zr_aloadn X 0 dX6_surrender_0 rfl ?_
  refine zr_iloadn X 1 dX6_surrender_1 rfl ?_
  refine zr_dVi (C := RX6) (ci := 6) [.int (nI (f))] [] X (zK_ok A D tc tF tL tM) (c_isFirm_t E μ (hc) h8 (by omega)) k_611 k_613 kp_2 k_7 k_614 hdX6_isFirm ⟨rfl, rfl⟩ ⟨Nat.le_of_ble_eq_true rfl, Nat.le_of_ble_eq_true rfl⟩ (by omega) rfl rfl rfl rfl (Nat.le_of_ble_eq_true rfl) dX6_surrender_2 ?_
  refine zr_if_ne X 10 dX6_surrender_5 (by decide) (fun _ => ?_) (fun q => absurd q (nI_ne0 (by omega) (by omega)))
  refine zr_iloadn X 2 dX6_surrender_10 rfl ?_
  refine zr_dSi [.int (nI (t))] [] X (zK_ok A D tc tF tL tM) (c_isTonnes_t E μ (by omega) (by omega)) k_615 k_616 k_7 k_617 hdX6_isTonnes ⟨rfl, rfl⟩ ⟨Nat.le_of_ble_eq_true rfl, Nat.le_of_ble_eq_true rfl⟩ rfl rfl (Nat.le_of_ble_eq_true rfl) dX6_surrender_11 ?_
  refine zr_if_eq X 26 dX6_surrender_14 (by decide) (fun q => absurd q (nI_ne0 (by omega) (by omega))) (fun _ => ?_)
  refine zr_iloadn X 3 dX6_surrender_17 rfl ?_
  refine zr_iconst X (nI (0)) dX6_surrender_18 (by decide +kernel) ?_
  refine zr_iconst X (nI (2)) dX6_surrender_19 (by decide +kernel) ?_
  refine zr_dSi [.int (nI (2)), .int (nI (0)), .int (nI (2))] [] X (zK_ok A D tc tF tL tM) (c_in_t E μ (zq_le (by omega) (by omega)) (zq_le (by omega) (by omega))) k_604 k_605 k_7 k_606 hdX6_in ⟨rfl, rfl⟩ ⟨Nat.le_of_ble_eq_true rfl, Nat.le_of_ble_eq_true rfl⟩ rfl rfl (Nat.le_of_ble_eq_true rfl) dX6_surrender_20 ?_
  refine zr_if_ne X 29 dX6_surrender_23 (by decide) (fun _ => ?_) (fun q => absurd q (nI_ne0 (by omega) (by omega)))
  refine zr_aloadn X 0 dX6_surrender_29 rfl ?_
  refine zr_iloadn X 1 dX6_surrender_30 rfl ?_
  refine zr_iloadn X 2 dX6_surrender_31 rfl ?_
  refine zr_iloadn X 3 dX6_surrender_32 rfl ?_
  refine zr_dVv (C := RX6) (ci := 6) [.int (nI (f)), .int (nI (t)), .int (nI (2))] [] X (zK_ok A D tc tF tL tM) (c_lay2 E μ (f := f) (t := t) (by omega) ht1 ht9) k_664 k_666 kp_6 k_7 k_667 hdX6_lay ⟨rfl, rfl⟩ ⟨Nat.le_of_ble_eq_true rfl, Nat.le_of_ble_eq_true rfl⟩ (by omega) rfl rfl rfl rfl (Nat.le_of_ble_eq_true rfl) dX6_surrender_33 ?_
  refine zr_aloadn X 0 dX6_surrender_36 rfl ?_
  refine zr_get X (ci := 6) (q := 0) (zR (1)) (.ref (ad (1))) dX6_surrender_37 (by omega) rfl rfl inX6 (by decide) rfl (rfl) rfl k_539 ?_
  refine zr_iloadn X 1 dX6_surrender_40 rfl ?_
  refine zr_bipush X (nI (29)) dX6_surrender_41 (by decide +kernel) ?_
  refine zr_dSi [.int (nI (f)), .int (nI (29))] [.ref (ad (1))] X (zK_ok A D tc tF tL tM) (zM_i (z1 := nI (32 * f + 36)) (c_of E (zlay μ f (nI t) 2) (f) (29)) (congrArg nI (by omega))) k_597 k_598 k_7 k_599 hdX6_of ⟨rfl, rfl⟩ ⟨Nat.le_of_ble_eq_true rfl, Nat.le_of_ble_eq_true rfl⟩ rfl rfl (Nat.le_of_ble_eq_true rfl) dX6_surrender_43 ?_
  refine zr_iald X (j := 32 * f + 36) 0 (μ (32 * f + 36)) dX6_surrender_46 (by omega) rfl rfl rfl (by omega) (by omega) (zcg (b := 32 * f + 36) (by omega) ((zlay_lo (by omega)).trans (rfl))) ?_
  refine zr_iloadn X 2 dX6_surrender_47 rfl ?_
  refine zr_icmp_lt X 58 dX6_surrender_48 (by decide) (fun q => absurd q (h)) (fun _ => ?_)
  refine zr_aloadn X 0 dX6_surrender_51 rfl ?_
  refine zr_get X (ci := 6) (q := 7) zI (.int ((zlay μ f (nI t) 2) (2450))) dX6_surrender_52 (by omega) rfl rfl inX6 (by decide) rfl (congrArg Value.int (rfl)) rfl k_546 ?_
  refine zr_if_le X 61 dX6_surrender_55 (by decide) (fun q => absurd q (h2)) (fun _ => ?_)
  refine zr_bipush X (-4) dX6_surrender_58 (by decide +kernel) ?_
  exact zr_iret X dX6_surrender_60 ⟨rfl, rfl⟩

set_option maxHeartbeats 4000000 in
set_option maxRecDepth 100000 in
theorem c_surrender_ok2 {l : Launch} {D : va_G} {tc : Nat → ClassId} {ad : Nat → Nat} {A : Nat → Prop} {tF tL tM : Nat} (E : zN 6 A ad) (μ : Nat → Int32) {m c k : Nat} (S : refS μ m c k) {f : Nat} (hf : f < c) {t : Nat} (ht1 : 1 ≤ t) (ht9 : t ≤ 9999) (h : ¬ μ (32 * f + 36) < nI t) (h2 : zlay μ f (nI t) 2 2450 ≤ 0) : zMi l yX6_surrender cX6_surrender 5 (some .int) (zrm 6) (zK A D tc tF tL tM) A D vwCl tc ad 6 shR [.ref (ad (0)), .int (nI (f)), .int (nI (t)), .int (nI (2))] μ (fun r u => r = (zsg (zsv (zrec (zlay μ f (nI (t)) 2) (0) (k)) f 20) f 3) (32 * f + 36) - nI (t) ∧ u = (upd (upd (zsg (zsv (zrec (zlay μ f (nI (t)) 2) (0) (k)) f 20) f 3) (32 * f + 36) ((zsg (zsv (zrec (zlay μ f (nI (t)) 2) (0) (k)) f 20) f 3) (32 * f + 36) - nI (t))) (32 * f + 37) ((zsg (zsv (zrec (zlay μ f (nI (t)) 2) (0) (k)) f 20) f 3) (32 * f + 37) + nI (t)))) := by
  refine zM_of RX6 [(0, .ref (ad (0))), (1, .int (nI (f))), (2, .int (nI (t))), (3, .int (nI (2)))] (zK_ok A D tc tF tL tM) E.1 E.2 owR_ok (by decide +kernel) rfl (Nat.le_of_ble_eq_true rfl) rfl ?_
  intro pP eE sS mM aS bL mT cO X
  obtain ⟨hm, hm2, hc, h8, hk, hk4⟩ := S
  refine zr_aloadn X 0 dX6_surrender_0 rfl ?_
  refine zr_iloadn X 1 dX6_surrender_1 rfl ?_
  refine zr_dVi (C := RX6) (ci := 6) [.int (nI (f))] [] X (zK_ok A D tc tF tL tM) (c_isFirm_t E μ (hc) h8 (by omega)) k_611 k_613 kp_2 k_7 k_614 hdX6_isFirm ⟨rfl, rfl⟩ ⟨Nat.le_of_ble_eq_true rfl, Nat.le_of_ble_eq_true rfl⟩ (by omega) rfl rfl rfl rfl (Nat.le_of_ble_eq_true rfl) dX6_surrender_2 ?_
  refine zr_if_ne X 10 dX6_surrender_5 (by decide) (fun _ => ?_) (fun q => absurd q (nI_ne0 (by omega) (by omega)))
  refine zr_iloadn X 2 dX6_surrender_10 rfl ?_
  refine zr_dSi [.int (nI (t))] [] X (zK_ok A D tc tF tL tM) (c_isTonnes_t E μ (by omega) (by omega)) k_615 k_616 k_7 k_617 hdX6_isTonnes ⟨rfl, rfl⟩ ⟨Nat.le_of_ble_eq_true rfl, Nat.le_of_ble_eq_true rfl⟩ rfl rfl (Nat.le_of_ble_eq_true rfl) dX6_surrender_11 ?_
  refine zr_if_eq X 26 dX6_surrender_14 (by decide) (fun q => absurd q (nI_ne0 (by omega) (by omega))) (fun _ => ?_)
  refine zr_iloadn X 3 dX6_surrender_17 rfl ?_
  refine zr_iconst X (nI (0)) dX6_surrender_18 (by decide +kernel) ?_
  refine zr_iconst X (nI (2)) dX6_surrender_19 (by decide +kernel) ?_
  refine zr_dSi [.int (nI (2)), .int (nI (0)), .int (nI (2))] [] X (zK_ok A D tc tF tL tM) (c_in_t E μ (zq_le (by omega) (by omega)) (zq_le (by omega) (by omega))) k_604 k_605 k_7 k_606 hdX6_in ⟨rfl, rfl⟩ ⟨Nat.le_of_ble_eq_true rfl, Nat.le_of_ble_eq_true rfl⟩ rfl rfl (Nat.le_of_ble_eq_true rfl) dX6_surrender_20 ?_
  refine zr_if_ne X 29 dX6_surrender_23 (by decide) (fun _ => ?_) (fun q => absurd q (nI_ne0 (by omega) (by omega)))
  refine zr_aloadn X 0 dX6_surrender_29 rfl ?_
  refine zr_iloadn X 1 dX6_surrender_30 rfl ?_
  refine zr_iloadn X 2 dX6_surrender_31 rfl ?_
  refine zr_iloadn X 3 dX6_surrender_32 rfl ?_
  refine zr_dVv (C := RX6) (ci := 6) [.int (nI (f)), .int (nI (t)), .int (nI (2))] [] X (zK_ok A D tc tF tL tM) (c_lay2 E μ (f := f) (t := t) (by omega) ht1 ht9) k_664 k_666 kp_6 k_7 k_667 hdX6_lay ⟨rfl, rfl⟩ ⟨Nat.le_of_ble_eq_true rfl, Nat.le_of_ble_eq_true rfl⟩ (by omega) rfl rfl rfl rfl (Nat.le_of_ble_eq_true rfl) dX6_surrender_33 ?_
  refine zr_aloadn X 0 dX6_surrender_36 rfl ?_
  refine zr_get X (ci := 6) (q := 0) (zR (1)) (.ref (ad (1))) dX6_surrender_37 (by omega) rfl rfl inX6 (by decide) rfl (rfl) rfl k_539 ?_
  refine zr_iloadn X 1 dX6_surrender_40 rfl ?_
  refine zr_bipush X (nI (29)) dX6_surrender_41 (by decide +kernel) ?_
  refine zr_dSi [.int (nI (f)), .int (nI (29))] [.ref (ad (1))] X (zK_ok A D tc tF tL tM) (zM_i (z1 := nI (32 * f + 36)) (c_of E (zlay μ f (nI t) 2) (f) (29)) (congrArg nI (by omega))) k_597 k_598 k_7 k_599 hdX6_of ⟨rfl, rfl⟩ ⟨Nat.le_of_ble_eq_true rfl, Nat.le_of_ble_eq_true rfl⟩ rfl rfl (Nat.le_of_ble_eq_true rfl) dX6_surrender_43 ?_
  refine zr_iald X (j := 32 * f + 36) 0 (μ (32 * f + 36)) dX6_surrender_46 (by omega) rfl rfl rfl (by omega) (by omega) (zcg (b := 32 * f + 36) (by omega) ((zlay_lo (by omega)).trans (rfl))) ?_
  refine zr_iloadn X 2 dX6_surrender_47 rfl ?_
  refine zr_icmp_lt X 58 dX6_surrender_48 (by decide) (fun q => absurd q (h)) (fun _ => ?_)
  refine zr_aloadn X 0 dX6_surrender_51 rfl ?_
  refine zr_get X (ci := 6) (q := 7) zI (.int ((zlay μ f (nI t) 2) (2450))) dX6_surrender_52 (by omega) rfl rfl inX6 (by decide) rfl (congrArg Value.int (rfl)) rfl k_546 ?_
  refine zr_if_le X 61 dX6_surrender_55 (by decide) (fun _ => ?_) (fun q => absurd (h2) q)
  refine zr_aloadn X 0 dX6_surrender_61 rfl ?_
  refine zr_iconst X (nI (0)) dX6_surrender_62 (by decide +kernel) ?_
  refine zr_dVv (C := RX6) (ci := 6) [.int (nI (0))] [] X (zK_ok A D tc tF tL tM) (c_record E (zlay μ f (nI t) 2) ((zlay_lo (by omega)).trans (hk)) hk4 (by omega)) k_589 k_591 kp_1 k_7 k_592 hdX6_record ⟨rfl, rfl⟩ ⟨Nat.le_of_ble_eq_true rfl, Nat.le_of_ble_eq_true rfl⟩ (by omega) rfl rfl rfl rfl (Nat.le_of_ble_eq_true rfl) dX6_surrender_63 ?_
  refine zr_iconst X (nI (0)) dX6_surrender_66 (by decide +kernel) ?_
  refine zr_istore X [1, 2, 3, 4, 0] [(0, .ref (ad (0))), (1, .int (nI (f))), (2, .int (nI (t))), (3, .int (nI (2))), (4, .int (nI (0)))] dX6_surrender_67 (by decide) rfl ?_
  refine zr_for X (20) (fun i => (zsv (zrec (zlay μ f (nI (t)) 2) (0) (k)) f (i))) (fun i => [(0, .ref (ad (0))), (1, .int (nI (f))), (2, .int (nI (t))), (3, .int (nI (2))), (4, .int (nI (i)))]) [] (rfl) rfl ?_ ?_
  · refine zr_iload X 4 dX6_surrender_69 rfl ?_
    refine zr_bipush X (nI (20)) dX6_surrender_71 (by decide +kernel) ?_
    refine zr_icmp_ge X 126 dX6_surrender_73 (by decide) (fun _ => ?_) (fun q => absurd (zq_le (by omega) (by omega)) q)
    refine zr_iconst X (nI (0)) dX6_surrender_126 (by decide +kernel) ?_
    refine zr_istore X [1, 2, 3, 4, 0] [(0, .ref (ad (0))), (1, .int (nI (f))), (2, .int (nI (t))), (3, .int (nI (2))), (4, .int (nI (0)))] dX6_surrender_127 (by decide) rfl ?_
    refine zr_for X (3) (fun i => (zsg (zsv (zrec (zlay μ f (nI (t)) 2) (0) (k)) f 20) f (i))) (fun i => [(0, .ref (ad (0))), (1, .int (nI (f))), (2, .int (nI (t))), (3, .int (nI (2))), (4, .int (nI (i)))]) [] (rfl) rfl ?_ ?_
    · refine zr_iload X 4 dX6_surrender_129 rfl ?_
      refine zr_iconst X (nI (3)) dX6_surrender_131 (by decide +kernel) ?_
      refine zr_icmp_ge X 210 dX6_surrender_132 (by decide) (fun _ => ?_) (fun q => absurd (zq_le (by omega) (by omega)) q)
      refine zr_aloadn X 0 dX6_surrender_210 rfl ?_
      refine zr_get X (ci := 6) (q := 0) (zR (1)) (.ref (ad (1))) dX6_surrender_211 (by omega) rfl rfl inX6 (by decide) rfl (rfl) rfl k_539 ?_
      refine zr_iloadn X 1 dX6_surrender_214 rfl ?_
      refine zr_bipush X (nI (29)) dX6_surrender_215 (by decide +kernel) ?_
      refine zr_dSi [.int (nI (f)), .int (nI (29))] [.ref (ad (1))] X (zK_ok A D tc tF tL tM) (zM_i (z1 := nI (32 * f + 36)) (c_of E (zsg (zsv (zrec (zlay μ f (nI (t)) 2) (0) (k)) f 20) f (3)) (f) (29)) (congrArg nI (by omega))) k_597 k_598 k_7 k_599 hdX6_of ⟨rfl, rfl⟩ ⟨Nat.le_of_ble_eq_true rfl, Nat.le_of_ble_eq_true rfl⟩ rfl rfl (Nat.le_of_ble_eq_true rfl) dX6_surrender_217 ?_
      refine zr_dup2 X dX6_surrender_220 rfl rfl ?_
      refine zr_iald X (j := 32 * f + 36) 0 ((zsg (zsv (zrec (zlay μ f (nI (t)) 2) (0) (k)) f 20) f (3)) (32 * f + 36)) dX6_surrender_221 (by omega) rfl rfl rfl (by omega) (by omega) (zcg (b := 32 * f + 36) (by omega) (rfl)) ?_
      refine zr_iloadn X 2 dX6_surrender_222 rfl ?_
      refine zr_isub X (((zsg (zsv (zrec (zlay μ f (nI (t)) 2) (0) (k)) f 20) f (3)) (32 * f + 36)) - (nI (t))) dX6_surrender_223 rfl ?_
      refine zr_iast X (j := 32 * f + 36) 0 (32 * f + 36) dX6_surrender_224 (by omega) rfl rfl rfl (by omega) (by omega) (by omega) ?_
      refine zr_aloadn X 0 dX6_surrender_225 rfl ?_
      refine zr_get X (ci := 6) (q := 0) (zR (1)) (.ref (ad (1))) dX6_surrender_226 (by omega) rfl rfl inX6 (by decide) rfl (rfl) rfl k_539 ?_
      refine zr_iloadn X 1 dX6_surrender_229 rfl ?_
      refine zr_bipush X (nI (30)) dX6_surrender_230 (by decide +kernel) ?_
      refine zr_dSi [.int (nI (f)), .int (nI (30))] [.ref (ad (1))] X (zK_ok A D tc tF tL tM) (zM_i (z1 := nI (32 * f + 37)) (c_of E (upd (zsg (zsv (zrec (zlay μ f (nI (t)) 2) (0) (k)) f 20) f (3)) (32 * f + 36) (((zsg (zsv (zrec (zlay μ f (nI (t)) 2) (0) (k)) f 20) f (3)) (32 * f + 36)) - (nI (t)))) (f) (30)) (congrArg nI (by omega))) k_597 k_598 k_7 k_599 hdX6_of ⟨rfl, rfl⟩ ⟨Nat.le_of_ble_eq_true rfl, Nat.le_of_ble_eq_true rfl⟩ rfl rfl (Nat.le_of_ble_eq_true rfl) dX6_surrender_232 ?_
      refine zr_dup2 X dX6_surrender_235 rfl rfl ?_
      refine zr_iald X (j := 32 * f + 37) 0 ((zsg (zsv (zrec (zlay μ f (nI (t)) 2) (0) (k)) f 20) f (3)) (32 * f + 37)) dX6_surrender_236 (by omega) rfl rfl rfl (by omega) (by omega) (zcg (b := 32 * f + 37) (by omega) ((pk_un (by omega)).trans (rfl))) ?_
      refine zr_iloadn X 2 dX6_surrender_237 rfl ?_
      refine zr_iadd X (((zsg (zsv (zrec (zlay μ f (nI (t)) 2) (0) (k)) f 20) f (3)) (32 * f + 37)) + (nI (t))) dX6_surrender_238 rfl ?_
      refine zr_iast X (j := 32 * f + 37) 0 (32 * f + 37) dX6_surrender_239 (by omega) rfl rfl rfl (by omega) (by omega) (by omega) ?_
      refine zr_aloadn X 0 dX6_surrender_240 rfl ?_
      refine zr_get X (ci := 6) (q := 0) (zR (1)) (.ref (ad (1))) dX6_surrender_241 (by omega) rfl rfl inX6 (by decide) rfl (rfl) rfl k_539 ?_
      refine zr_iloadn X 1 dX6_surrender_244 rfl ?_
      refine zr_bipush X (nI (29)) dX6_surrender_245 (by decide +kernel) ?_
      refine zr_dSi [.int (nI (f)), .int (nI (29))] [.ref (ad (1))] X (zK_ok A D tc tF tL tM) (zM_i (z1 := nI (32 * f + 36)) (c_of E (upd (upd (zsg (zsv (zrec (zlay μ f (nI (t)) 2) (0) (k)) f 20) f (3)) (32 * f + 36) (((zsg (zsv (zrec (zlay μ f (nI (t)) 2) (0) (k)) f 20) f (3)) (32 * f + 36)) - (nI (t)))) (32 * f + 37) (((zsg (zsv (zrec (zlay μ f (nI (t)) 2) (0) (k)) f 20) f (3)) (32 * f + 37)) + (nI (t)))) (f) (29)) (congrArg nI (by omega))) k_597 k_598 k_7 k_599 hdX6_of ⟨rfl, rfl⟩ ⟨Nat.le_of_ble_eq_true rfl, Nat.le_of_ble_eq_true rfl⟩ rfl rfl (Nat.le_of_ble_eq_true rfl) dX6_surrender_247 ?_
      refine zr_iald X (j := 32 * f + 36) 0 (((zsg (zsv (zrec (zlay μ f (nI (t)) 2) (0) (k)) f 20) f (3)) (32 * f + 36)) - (nI (t))) dX6_surrender_250 (by omega) rfl rfl rfl (by omega) (by omega) (zcg (b := 32 * f + 36) (by omega) ((pk_un (by omega)).trans (pk_us))) ?_
      exact zr_iret X dX6_surrender_251 ⟨rfl, rfl⟩
    · intro i hi ih129
      refine zr_iload X 4 dX6_surrender_129 rfl ?_
      refine zr_iconst X (nI (3)) dX6_surrender_131 (by decide +kernel) ?_
      refine zr_icmp_ge X 210 dX6_surrender_132 (by decide) (fun q => absurd q (nI_ge (by omega) (by omega))) (fun _ => ?_)
      refine zr_aloadn X 0 dX6_surrender_135 rfl ?_
      refine zr_get X (ci := 6) (q := 0) (zR (1)) (.ref (ad (1))) dX6_surrender_136 (by omega) rfl rfl inX6 (by decide) rfl (rfl) rfl k_539 ?_
      refine zr_iloadn X 1 dX6_surrender_139 rfl ?_
      refine zr_bipush X (nI (20)) dX6_surrender_140 (by decide +kernel) ?_
      refine zr_iload X 4 dX6_surrender_142 rfl ?_
      refine zr_iadd X (nI (i + 20)) dX6_surrender_144 ((nI_add _ _).trans (congrArg nI (by omega))) ?_
      refine zr_dSi [.int (nI (f)), .int (nI (i + 20))] [.ref (ad (1))] X (zK_ok A D tc tF tL tM) (zM_i (z1 := nI (32 * f + i + 27)) (c_of E (zsg (zsv (zrec (zlay μ f (nI (t)) 2) (0) (k)) f 20) f (i)) (f) (i + 20)) (congrArg nI (by omega))) k_597 k_598 k_7 k_599 hdX6_of ⟨rfl, rfl⟩ ⟨Nat.le_of_ble_eq_true rfl, Nat.le_of_ble_eq_true rfl⟩ rfl rfl (Nat.le_of_ble_eq_true rfl) dX6_surrender_145 ?_
      refine zr_dup2 X dX6_surrender_148 rfl rfl ?_
      refine zr_iald X (j := 32 * f + i + 27) 0 ((zsg (zsv (zrec (zlay μ f (nI (t)) 2) (0) (k)) f 20) f (i)) (32 * f + i + 27)) dX6_surrender_149 (by omega) rfl rfl rfl (by omega) (by omega) (zcg (b := 32 * f + i + 27) (by omega) (rfl)) ?_
      refine zr_aloadn X 0 dX6_surrender_150 rfl ?_
      refine zr_get X (ci := 6) (q := 6) (zR (4)) (.ref (ad (4))) dX6_surrender_151 (by omega) rfl rfl inX6 (by decide) rfl (rfl) rfl k_545 ?_
      refine zr_iload X 4 dX6_surrender_154 rfl ?_
      refine zr_iald X (j := i) 0 ((zsg (zsv (zrec (zlay μ f (nI (t)) 2) (0) (k)) f 20) f (i)) (i + 2540)) dX6_surrender_156 (by omega) rfl rfl rfl (by omega) (by omega) (zcg (b := i + 2540) (by omega) (rfl)) ?_
      refine zr_isub X (((zsg (zsv (zrec (zlay μ f (nI (t)) 2) (0) (k)) f 20) f (i)) (32 * f + i + 27)) - ((zsg (zsv (zrec (zlay μ f (nI (t)) 2) (0) (k)) f 20) f (i)) (i + 2540))) dX6_surrender_157 rfl ?_
      refine zr_iast X (j := 32 * f + i + 27) 0 (32 * f + i + 27) dX6_surrender_158 (by omega) rfl rfl rfl (by omega) (by omega) (by omega) ?_
      refine zr_aloadn X 0 dX6_surrender_159 rfl ?_
      refine zr_get X (ci := 6) (q := 0) (zR (1)) (.ref (ad (1))) dX6_surrender_160 (by omega) rfl rfl inX6 (by decide) rfl (rfl) rfl k_539 ?_
      refine zr_iloadn X 1 dX6_surrender_163 rfl ?_
      refine zr_bipush X (nI (23)) dX6_surrender_164 (by decide +kernel) ?_
      refine zr_iload X 4 dX6_surrender_166 rfl ?_
      refine zr_iadd X (nI (i + 23)) dX6_surrender_168 ((nI_add _ _).trans (congrArg nI (by omega))) ?_
      refine zr_dSi [.int (nI (f)), .int (nI (i + 23))] [.ref (ad (1))] X (zK_ok A D tc tF tL tM) (zM_i (z1 := nI (32 * f + i + 30)) (c_of E (upd (zsg (zsv (zrec (zlay μ f (nI (t)) 2) (0) (k)) f 20) f (i)) (32 * f + i + 27) (((zsg (zsv (zrec (zlay μ f (nI (t)) 2) (0) (k)) f 20) f (i)) (32 * f + i + 27)) - ((zsg (zsv (zrec (zlay μ f (nI (t)) 2) (0) (k)) f 20) f (i)) (i + 2540)))) (f) (i + 23)) (congrArg nI (by omega))) k_597 k_598 k_7 k_599 hdX6_of ⟨rfl, rfl⟩ ⟨Nat.le_of_ble_eq_true rfl, Nat.le_of_ble_eq_true rfl⟩ rfl rfl (Nat.le_of_ble_eq_true rfl) dX6_surrender_169 ?_
      refine zr_dup2 X dX6_surrender_172 rfl rfl ?_
      refine zr_iald X (j := 32 * f + i + 30) 0 ((zsg (zsv (zrec (zlay μ f (nI (t)) 2) (0) (k)) f 20) f (i)) (32 * f + i + 30)) dX6_surrender_173 (by omega) rfl rfl rfl (by omega) (by omega) (zcg (b := 32 * f + i + 30) (by omega) ((pk_un (by omega)).trans (rfl))) ?_
      refine zr_aloadn X 0 dX6_surrender_174 rfl ?_
      refine zr_get X (ci := 6) (q := 6) (zR (4)) (.ref (ad (4))) dX6_surrender_175 (by omega) rfl rfl inX6 (by decide) rfl (rfl) rfl k_545 ?_
      refine zr_iload X 4 dX6_surrender_178 rfl ?_
      refine zr_iald X (j := i) 0 ((zsg (zsv (zrec (zlay μ f (nI (t)) 2) (0) (k)) f 20) f (i)) (i + 2540)) dX6_surrender_180 (by omega) rfl rfl rfl (by omega) (by omega) (zcg (b := i + 2540) (by omega) ((pk_un (by omega)).trans (rfl))) ?_
      refine zr_iadd X (((zsg (zsv (zrec (zlay μ f (nI (t)) 2) (0) (k)) f 20) f (i)) (32 * f + i + 30)) + ((zsg (zsv (zrec (zlay μ f (nI (t)) 2) (0) (k)) f 20) f (i)) (i + 2540))) dX6_surrender_181 rfl ?_
      refine zr_iast X (j := 32 * f + i + 30) 0 (32 * f + i + 30) dX6_surrender_182 (by omega) rfl rfl rfl (by omega) (by omega) (by omega) ?_
      refine zr_aloadn X 0 dX6_surrender_183 rfl ?_
      refine zr_get X (ci := 6) (q := 0) (zR (1)) (.ref (ad (1))) dX6_surrender_184 (by omega) rfl rfl inX6 (by decide) rfl (rfl) rfl k_539 ?_
      refine zr_sipush X (nI (346)) dX6_surrender_187 (by decide +kernel) ?_
      refine zr_iload X 4 dX6_surrender_190 rfl ?_
      refine zr_iadd X (nI (i + 346)) dX6_surrender_192 ((nI_add _ _).trans (congrArg nI (by omega))) ?_
      refine zr_dup2 X dX6_surrender_193 rfl rfl ?_
      refine zr_iald X (j := i + 346) 0 ((zsg (zsv (zrec (zlay μ f (nI (t)) 2) (0) (k)) f 20) f (i)) (i + 346)) dX6_surrender_194 (by omega) rfl rfl rfl (by omega) (by omega) (zcg (b := i + 346) (by omega) ((pk_un (by omega)).trans ((pk_un (by omega)).trans (rfl)))) ?_
      refine zr_aloadn X 0 dX6_surrender_195 rfl ?_
      refine zr_get X (ci := 6) (q := 6) (zR (4)) (.ref (ad (4))) dX6_surrender_196 (by omega) rfl rfl inX6 (by decide) rfl (rfl) rfl k_545 ?_
      refine zr_iload X 4 dX6_surrender_199 rfl ?_
      refine zr_iald X (j := i) 0 ((zsg (zsv (zrec (zlay μ f (nI (t)) 2) (0) (k)) f 20) f (i)) (i + 2540)) dX6_surrender_201 (by omega) rfl rfl rfl (by omega) (by omega) (zcg (b := i + 2540) (by omega) ((pk_un (by omega)).trans ((pk_un (by omega)).trans (rfl)))) ?_
      refine zr_iadd X (((zsg (zsv (zrec (zlay μ f (nI (t)) 2) (0) (k)) f 20) f (i)) (i + 346)) + ((zsg (zsv (zrec (zlay μ f (nI (t)) 2) (0) (k)) f 20) f (i)) (i + 2540))) dX6_surrender_202 rfl ?_
      refine zr_iast X (j := i + 346) 0 (i + 346) dX6_surrender_203 (by omega) rfl rfl rfl (by omega) (by omega) (by omega) ?_
      refine zr_iinc X 4 (nI (i + 1)) [1, 2, 3, 4, 0] [(0, .ref (ad (0))), (1, .int (nI (f))), (2, .int (nI (t))), (3, .int (nI (2))), (4, .int (nI (i + 1)))] dX6_surrender_204 rfl (zinc _) (by decide) rfl ?_
      refine zr_goto X 129 dX6_surrender_207 (by decide) ?_
      exact ih129
  · intro i hi ih69
    refine zr_iload X 4 dX6_surrender_69 rfl ?_
    refine zr_bipush X (nI (20)) dX6_surrender_71 (by decide +kernel) ?_
    refine zr_icmp_ge X 126 dX6_surrender_73 (by decide) (fun q => absurd q (nI_ge (by omega) (by omega))) (fun _ => ?_)
    refine zr_aloadn X 0 dX6_surrender_76 rfl ?_
    refine zr_get X (ci := 6) (q := 0) (zR (1)) (.ref (ad (1))) dX6_surrender_77 (by omega) rfl rfl inX6 (by decide) rfl (rfl) rfl k_539 ?_
    refine zr_iloadn X 1 dX6_surrender_80 rfl ?_
    refine zr_iconst X (nI (0)) dX6_surrender_81 (by decide +kernel) ?_
    refine zr_iload X 4 dX6_surrender_82 rfl ?_
    refine zr_iadd X (nI (i)) dX6_surrender_84 ((nI_add _ _).trans (congrArg nI (by omega))) ?_
    refine zr_dSi [.int (nI (f)), .int (nI (i))] [.ref (ad (1))] X (zK_ok A D tc tF tL tM) (zM_i (z1 := nI (32 * f + i + 7)) (c_of E (zsv (zrec (zlay μ f (nI (t)) 2) (0) (k)) f (i)) (f) (i)) (congrArg nI (by omega))) k_597 k_598 k_7 k_599 hdX6_of ⟨rfl, rfl⟩ ⟨Nat.le_of_ble_eq_true rfl, Nat.le_of_ble_eq_true rfl⟩ rfl rfl (Nat.le_of_ble_eq_true rfl) dX6_surrender_85 ?_
    refine zr_dup2 X dX6_surrender_88 rfl rfl ?_
    refine zr_iald X (j := 32 * f + i + 7) 0 ((zsv (zrec (zlay μ f (nI (t)) 2) (0) (k)) f (i)) (32 * f + i + 7)) dX6_surrender_89 (by omega) rfl rfl rfl (by omega) (by omega) (zcg (b := 32 * f + i + 7) (by omega) (rfl)) ?_
    refine zr_aloadn X 0 dX6_surrender_90 rfl ?_
    refine zr_get X (ci := 6) (q := 5) (zR (3)) (.ref (ad (3))) dX6_surrender_91 (by omega) rfl rfl inX6 (by decide) rfl (rfl) rfl k_544 ?_
    refine zr_iload X 4 dX6_surrender_94 rfl ?_
    refine zr_iald X (j := i) 0 ((zsv (zrec (zlay μ f (nI (t)) 2) (0) (k)) f (i)) (i + 2520)) dX6_surrender_96 (by omega) rfl rfl rfl (by omega) (by omega) (zcg (b := i + 2520) (by omega) (rfl)) ?_
    refine zr_isub X (((zsv (zrec (zlay μ f (nI (t)) 2) (0) (k)) f (i)) (32 * f + i + 7)) - ((zsv (zrec (zlay μ f (nI (t)) 2) (0) (k)) f (i)) (i + 2520))) dX6_surrender_97 rfl ?_
    refine zr_iast X (j := 32 * f + i + 7) 0 (32 * f + i + 7) dX6_surrender_98 (by omega) rfl rfl rfl (by omega) (by omega) (by omega) ?_
    refine zr_aloadn X 0 dX6_surrender_99 rfl ?_
    refine zr_get X (ci := 6) (q := 0) (zR (1)) (.ref (ad (1))) dX6_surrender_100 (by omega) rfl rfl inX6 (by decide) rfl (rfl) rfl k_539 ?_
    refine zr_sipush X (nI (283)) dX6_surrender_103 (by decide +kernel) ?_
    refine zr_iload X 4 dX6_surrender_106 rfl ?_
    refine zr_iadd X (nI (i + 283)) dX6_surrender_108 ((nI_add _ _).trans (congrArg nI (by omega))) ?_
    refine zr_dup2 X dX6_surrender_109 rfl rfl ?_
    refine zr_iald X (j := i + 283) 0 ((zsv (zrec (zlay μ f (nI (t)) 2) (0) (k)) f (i)) (i + 283)) dX6_surrender_110 (by omega) rfl rfl rfl (by omega) (by omega) (zcg (b := i + 283) (by omega) ((pk_un (by omega)).trans (rfl))) ?_
    refine zr_aloadn X 0 dX6_surrender_111 rfl ?_
    refine zr_get X (ci := 6) (q := 5) (zR (3)) (.ref (ad (3))) dX6_surrender_112 (by omega) rfl rfl inX6 (by decide) rfl (rfl) rfl k_544 ?_
    refine zr_iload X 4 dX6_surrender_115 rfl ?_
    refine zr_iald X (j := i) 0 ((zsv (zrec (zlay μ f (nI (t)) 2) (0) (k)) f (i)) (i + 2520)) dX6_surrender_117 (by omega) rfl rfl rfl (by omega) (by omega) (zcg (b := i + 2520) (by omega) ((pk_un (by omega)).trans (rfl))) ?_
    refine zr_iadd X (((zsv (zrec (zlay μ f (nI (t)) 2) (0) (k)) f (i)) (i + 283)) + ((zsv (zrec (zlay μ f (nI (t)) 2) (0) (k)) f (i)) (i + 2520))) dX6_surrender_118 rfl ?_
    refine zr_iast X (j := i + 283) 0 (i + 283) dX6_surrender_119 (by omega) rfl rfl rfl (by omega) (by omega) (by omega) ?_
    refine zr_iinc X 4 (nI (i + 1)) [1, 2, 3, 4, 0] [(0, .ref (ad (0))), (1, .int (nI (f))), (2, .int (nI (t))), (3, .int (nI (2))), (4, .int (nI (i + 1)))] dX6_surrender_120 rfl (zinc _) (by decide) rfl ?_
    refine zr_goto X 69 dX6_surrender_123 (by decide) ?_
    exact ih69

set_option maxHeartbeats 4000000 in
set_option maxRecDepth 100000 in
theorem c_beginYear {l : Launch} {D : va_G} {tc : Nat → ClassId} {ad : Nat → Nat} {A : Nat → Prop} {tF tL tM : Nat} (E : zN 6 A ad) (μ : Nat → Int32) {m c b y n : Nat} (hm : μ 0 = nI m) (hm2 : m < 240) (hy : m / 12 = y) (hc : μ 1 = nI c) (h8 : c ≤ 8) (hb : μ 5 = nI b) (hb1 : 1 ≤ b) (hb5 : b ≤ 5) (hn : y - b = n) : zMv l yX6_beginYear cX6_beginYear 4 (zrm 3) (zK A D tc tF tL tM) A D vwCl tc ad 6 shR [.ref (ad (0))] μ (fun u => u = zla (zca μ c) c n) := by
  refine zM_of RX6 [(0, .ref (ad (0)))] (zK_ok A D tc tF tL tM) E.1 E.2 owR_ok (by decide +kernel) rfl (Nat.le_of_ble_eq_true rfl) rfl ?_
  intro pP eE sS mM aS bL mT cO X
  refine zr_iconst X (nI (0)) dX6_beginYear_0 (by decide +kernel) ?_
  refine zr_istoren X [1, 0] [(0, .ref (ad (0))), (1, .int (nI (0)))] dX6_beginYear_1 (by decide) rfl ?_
  refine zr_for X (c) (fun i => (zca μ (i))) (fun i => [(0, .ref (ad (0))), (1, .int (nI (i)))]) [] (rfl) rfl ?_ ?_
  · refine zr_iloadn X 1 dX6_beginYear_2 rfl ?_
    refine zr_aloadn X 0 dX6_beginYear_3 rfl ?_
    refine zr_get X (ci := 6) (q := 0) (zR (1)) (.ref (ad (1))) dX6_beginYear_4 (by omega) rfl rfl inX6 (by decide) rfl (rfl) rfl k_539 ?_
    refine zr_iconst X (nI (1)) dX6_beginYear_7 (by decide +kernel) ?_
    refine zr_iald X (j := 1) 0 (nI (c)) dX6_beginYear_8 (by omega) rfl rfl rfl (by omega) (by omega) (zcg (b := 1) (by omega) ((zca_lo (by omega) _).trans (hc))) ?_
    refine zr_icmp_ge X 138 dX6_beginYear_9 (by decide) (fun _ => ?_) (fun q => absurd (zq_le (by omega) (by omega)) q)
    refine zr_iconst X (nI (0)) dX6_beginYear_138 (by decide +kernel) ?_
    refine zr_istoren X [1, 0] [(0, .ref (ad (0))), (1, .int (nI (0)))] dX6_beginYear_139 (by decide) rfl ?_
    refine zr_for X (n) (fun v => (zla (zca μ c) c (v))) (fun v => [(0, .ref (ad (0))), (1, .int (nI (v)))]) [] (rfl) rfl ?_ ?_
    · refine zr_iloadn X 1 dX6_beginYear_140 rfl ?_
      refine zr_aloadn X 0 dX6_beginYear_141 rfl ?_
      refine zr_get X (ci := 6) (q := 0) (zR (1)) (.ref (ad (1))) dX6_beginYear_142 (by omega) rfl rfl inX6 (by decide) rfl (rfl) rfl k_539 ?_
      refine zr_iconst X (nI (5)) dX6_beginYear_145 (by decide +kernel) ?_
      refine zr_iald X (j := 5) 0 (nI (b)) dX6_beginYear_146 (by omega) rfl rfl rfl (by omega) (by omega) (zcg (b := 5) (by omega) ((zla_lo (by omega) _).trans ((zca_lo (by omega) _).trans (hb)))) ?_
      refine zr_iadd X (nI (b + n)) dX6_beginYear_147 ((nI_add _ _).trans (congrArg nI (by omega))) ?_
      refine zr_aloadn X 0 dX6_beginYear_148 rfl ?_
      refine zr_dVi (C := RX6) (ci := 6) [] [.int (nI (b + n))] X (zK_ok A D tc tF tL tM) (c_year E (zla (zca μ c) c (n)) ((zla_lo (by omega) _).trans ((zca_lo (by omega) _).trans (hm))) hm2 hy) k_618 k_620 kp_3 k_7 k_621 hdX6_year ⟨rfl, rfl⟩ ⟨Nat.le_of_ble_eq_true rfl, Nat.le_of_ble_eq_true rfl⟩ (by omega) rfl rfl rfl rfl (Nat.le_of_ble_eq_true rfl) dX6_beginYear_149 ?_
      refine zr_icmp_ge X 223 dX6_beginYear_152 (by decide) (fun _ => ?_) (fun q => absurd (zq_le (by omega) (by omega)) q)
      exact zr_vret X dX6_beginYear_223 rfl
    · intro v hv ih140
      refine zr_iloadn X 1 dX6_beginYear_140 rfl ?_
      refine zr_aloadn X 0 dX6_beginYear_141 rfl ?_
      refine zr_get X (ci := 6) (q := 0) (zR (1)) (.ref (ad (1))) dX6_beginYear_142 (by omega) rfl rfl inX6 (by decide) rfl (rfl) rfl k_539 ?_
      refine zr_iconst X (nI (5)) dX6_beginYear_145 (by decide +kernel) ?_
      refine zr_iald X (j := 5) 0 (nI (b)) dX6_beginYear_146 (by omega) rfl rfl rfl (by omega) (by omega) (zcg (b := 5) (by omega) ((zla_lo (by omega) _).trans ((zca_lo (by omega) _).trans (hb)))) ?_
      refine zr_iadd X (nI (b + v)) dX6_beginYear_147 ((nI_add _ _).trans (congrArg nI (by omega))) ?_
      refine zr_aloadn X 0 dX6_beginYear_148 rfl ?_
      refine zr_dVi (C := RX6) (ci := 6) [] [.int (nI (b + v))] X (zK_ok A D tc tF tL tM) (c_year E (zla (zca μ c) c (v)) ((zla_lo (by omega) _).trans ((zca_lo (by omega) _).trans (hm))) hm2 hy) k_618 k_620 kp_3 k_7 k_621 hdX6_year ⟨rfl, rfl⟩ ⟨Nat.le_of_ble_eq_true rfl, Nat.le_of_ble_eq_true rfl⟩ (by omega) rfl rfl rfl rfl (Nat.le_of_ble_eq_true rfl) dX6_beginYear_149 ?_
      refine zr_icmp_ge X 223 dX6_beginYear_152 (by decide) (fun q => absurd q (nI_ge (by omega) (by omega))) (fun _ => ?_)
      refine zr_iloadn X 1 dX6_beginYear_155 rfl ?_
      refine zr_bipush X (nI (20)) dX6_beginYear_156 (by decide +kernel) ?_
      refine zr_icmp_ge X 223 dX6_beginYear_158 (by decide) (fun q => absurd q (nI_ge (by omega) (by omega))) (fun _ => ?_)
      refine zr_iconst X (nI (0)) dX6_beginYear_161 (by decide +kernel) ?_
      refine zr_istoren X [1, 2, 0] [(0, .ref (ad (0))), (1, .int (nI (v))), (2, .int (nI (0)))] dX6_beginYear_162 (by decide) rfl ?_
      refine zr_for X (c) (fun j => (zls (zla (zca μ c) c (v)) (v) (j))) (fun j => [(0, .ref (ad (0))), (1, .int (nI (v))), (2, .int (nI (j)))]) [] (rfl) rfl ?_ ?_
      · refine zr_iloadn X 2 dX6_beginYear_163 rfl ?_
        refine zr_aloadn X 0 dX6_beginYear_164 rfl ?_
        refine zr_get X (ci := 6) (q := 0) (zR (1)) (.ref (ad (1))) dX6_beginYear_165 (by omega) rfl rfl inX6 (by decide) rfl (rfl) rfl k_539 ?_
        refine zr_iconst X (nI (1)) dX6_beginYear_168 (by decide +kernel) ?_
        refine zr_iald X (j := 1) 0 (nI (c)) dX6_beginYear_169 (by omega) rfl rfl rfl (by omega) (by omega) (zcg (b := 1) (by omega) ((zls_lo (by omega) _).trans ((zla_lo (by omega) _).trans ((zca_lo (by omega) _).trans (hc))))) ?_
        refine zr_icmp_ge X 217 dX6_beginYear_170 (by decide) (fun _ => ?_) (fun q => absurd (zq_le (by omega) (by omega)) q)
        refine zr_iinc X 1 (nI (v + 1)) [1, 0, 2] [(0, .ref (ad (0))), (1, .int (nI (v + 1))), (2, .int (nI (c)))] dX6_beginYear_217 rfl (zinc _) (by decide) rfl ?_
        refine zr_goto X 140 dX6_beginYear_220 (by decide) ?_
        refine zr_drop X [0, 1] [(0, .ref (ad (0))), (1, .int (nI (v + 1)))] rfl ?_
        exact ih140
      · intro j hj ih163
        refine zr_iloadn X 2 dX6_beginYear_163 rfl ?_
        refine zr_aloadn X 0 dX6_beginYear_164 rfl ?_
        refine zr_get X (ci := 6) (q := 0) (zR (1)) (.ref (ad (1))) dX6_beginYear_165 (by omega) rfl rfl inX6 (by decide) rfl (rfl) rfl k_539 ?_
        refine zr_iconst X (nI (1)) dX6_beginYear_168 (by decide +kernel) ?_
        refine zr_iald X (j := 1) 0 (nI (c)) dX6_beginYear_169 (by omega) rfl rfl rfl (by omega) (by omega) (zcg (b := 1) (by omega) ((zls_lo (by omega) _).trans ((zla_lo (by omega) _).trans ((zca_lo (by omega) _).trans (hc))))) ?_
        refine zr_icmp_ge X 217 dX6_beginYear_170 (by decide) (fun q => absurd q (nI_ge (by omega) (by omega))) (fun _ => ?_)
        refine zr_aloadn X 0 dX6_beginYear_173 rfl ?_
        refine zr_get X (ci := 6) (q := 0) (zR (1)) (.ref (ad (1))) dX6_beginYear_174 (by omega) rfl rfl inX6 (by decide) rfl (rfl) rfl k_539 ?_
        refine zr_sipush X (nI (323)) dX6_beginYear_177 (by decide +kernel) ?_
        refine zr_iloadn X 1 dX6_beginYear_180 rfl ?_
        refine zr_iadd X (nI (v + 323)) dX6_beginYear_181 ((nI_add _ _).trans (congrArg nI (by omega))) ?_
        refine zr_dup2 X dX6_beginYear_182 rfl rfl ?_
        refine zr_iald X (j := v + 323) 0 ((zls (zla (zca μ c) c (v)) (v) (j)) (v + 323)) dX6_beginYear_183 (by omega) rfl rfl rfl (by omega) (by omega) (zcg (b := v + 323) (by omega) (rfl)) ?_
        refine zr_aloadn X 0 dX6_beginYear_184 rfl ?_
        refine zr_get X (ci := 6) (q := 0) (zR (1)) (.ref (ad (1))) dX6_beginYear_185 (by omega) rfl rfl inX6 (by decide) rfl (rfl) rfl k_539 ?_
        refine zr_iloadn X 2 dX6_beginYear_188 rfl ?_
        refine zr_iconst X (nI (0)) dX6_beginYear_189 (by decide +kernel) ?_
        refine zr_iloadn X 1 dX6_beginYear_190 rfl ?_
        refine zr_iadd X (nI (v)) dX6_beginYear_191 ((nI_add _ _).trans (congrArg nI (by omega))) ?_
        refine zr_dSi [.int (nI (j)), .int (nI (v))] [.ref (ad (1)), .int ((zls (zla (zca μ c) c (v)) (v) (j)) (v + 323)), .int (nI (v + 323)), .ref (ad (1))] X (zK_ok A D tc tF tL tM) (zM_i (z1 := nI (32 * j + v + 7)) (c_of E (zls (zla (zca μ c) c (v)) (v) (j)) (j) (v)) (congrArg nI (by omega))) k_597 k_598 k_7 k_599 hdX6_of ⟨rfl, rfl⟩ ⟨Nat.le_of_ble_eq_true rfl, Nat.le_of_ble_eq_true rfl⟩ rfl rfl (Nat.le_of_ble_eq_true rfl) dX6_beginYear_192 ?_
        refine zr_iald X (j := 32 * j + v + 7) 0 ((zls (zla (zca μ c) c (v)) (v) (j)) (32 * j + v + 7)) dX6_beginYear_195 (by omega) rfl rfl rfl (by omega) (by omega) (zcg (b := 32 * j + v + 7) (by omega) (rfl)) ?_
        refine zr_iadd X (((zls (zla (zca μ c) c (v)) (v) (j)) (v + 323)) + ((zls (zla (zca μ c) c (v)) (v) (j)) (32 * j + v + 7))) dX6_beginYear_196 rfl ?_
        refine zr_iast X (j := v + 323) 0 (v + 323) dX6_beginYear_197 (by omega) rfl rfl rfl (by omega) (by omega) (by omega) ?_
        refine zr_aloadn X 0 dX6_beginYear_198 rfl ?_
        refine zr_get X (ci := 6) (q := 0) (zR (1)) (.ref (ad (1))) dX6_beginYear_199 (by omega) rfl rfl inX6 (by decide) rfl (rfl) rfl k_539 ?_
        refine zr_iloadn X 2 dX6_beginYear_202 rfl ?_
        refine zr_iconst X (nI (0)) dX6_beginYear_203 (by decide +kernel) ?_
        refine zr_iloadn X 1 dX6_beginYear_204 rfl ?_
        refine zr_iadd X (nI (v)) dX6_beginYear_205 ((nI_add _ _).trans (congrArg nI (by omega))) ?_
        refine zr_dSi [.int (nI (j)), .int (nI (v))] [.ref (ad (1))] X (zK_ok A D tc tF tL tM) (zM_i (z1 := nI (32 * j + v + 7)) (c_of E (upd (zls (zla (zca μ c) c (v)) (v) (j)) (v + 323) (((zls (zla (zca μ c) c (v)) (v) (j)) (v + 323)) + ((zls (zla (zca μ c) c (v)) (v) (j)) (32 * j + v + 7)))) (j) (v)) (congrArg nI (by omega))) k_597 k_598 k_7 k_599 hdX6_of ⟨rfl, rfl⟩ ⟨Nat.le_of_ble_eq_true rfl, Nat.le_of_ble_eq_true rfl⟩ rfl rfl (Nat.le_of_ble_eq_true rfl) dX6_beginYear_206 ?_
        refine zr_iconst X (nI (0)) dX6_beginYear_209 (by decide +kernel) ?_
        refine zr_iast X (j := 32 * j + v + 7) 0 (32 * j + v + 7) dX6_beginYear_210 (by omega) rfl rfl rfl (by omega) (by omega) (by omega) ?_
        refine zr_iinc X 2 (nI (j + 1)) [1, 2, 0] [(0, .ref (ad (0))), (1, .int (nI (v))), (2, .int (nI (j + 1)))] dX6_beginYear_211 rfl (zinc _) (by decide) rfl ?_
        refine zr_goto X 163 dX6_beginYear_214 (by decide) ?_
        exact ih163
  · intro i hi ih2
    refine zr_iloadn X 1 dX6_beginYear_2 rfl ?_
    refine zr_aloadn X 0 dX6_beginYear_3 rfl ?_
    refine zr_get X (ci := 6) (q := 0) (zR (1)) (.ref (ad (1))) dX6_beginYear_4 (by omega) rfl rfl inX6 (by decide) rfl (rfl) rfl k_539 ?_
    refine zr_iconst X (nI (1)) dX6_beginYear_7 (by decide +kernel) ?_
    refine zr_iald X (j := 1) 0 (nI (c)) dX6_beginYear_8 (by omega) rfl rfl rfl (by omega) (by omega) (zcg (b := 1) (by omega) ((zca_lo (by omega) _).trans (hc))) ?_
    refine zr_icmp_ge X 138 dX6_beginYear_9 (by decide) (fun q => absurd q (nI_ge (by omega) (by omega))) (fun _ => ?_)
    refine zr_aloadn X 0 dX6_beginYear_12 rfl ?_
    refine zr_get X (ci := 6) (q := 0) (zR (1)) (.ref (ad (1))) dX6_beginYear_13 (by omega) rfl rfl inX6 (by decide) rfl (rfl) rfl k_539 ?_
    refine zr_iloadn X 1 dX6_beginYear_16 rfl ?_
    refine zr_bipush X (nI (26)) dX6_beginYear_17 (by decide +kernel) ?_
    refine zr_dSi [.int (nI (i)), .int (nI (26))] [.ref (ad (1))] X (zK_ok A D tc tF tL tM) (zM_i (z1 := nI (32 * i + 33)) (c_of E (zca μ (i)) (i) (26)) (congrArg nI (by omega))) k_597 k_598 k_7 k_599 hdX6_of ⟨rfl, rfl⟩ ⟨Nat.le_of_ble_eq_true rfl, Nat.le_of_ble_eq_true rfl⟩ rfl rfl (Nat.le_of_ble_eq_true rfl) dX6_beginYear_19 ?_
    refine zr_iald X (j := 32 * i + 33) 0 ((zca μ (i)) (32 * i + 33)) dX6_beginYear_22 (by omega) rfl rfl rfl (by omega) (by omega) (zcg (b := 32 * i + 33) (by omega) (rfl)) ?_
    refine zr_istoren X [1, 2, 0] [(0, .ref (ad (0))), (1, .int (nI (i))), (2, .int ((zca μ (i)) (32 * i + 33)))] dX6_beginYear_23 (by decide) rfl ?_
    refine zr_aloadn X 0 dX6_beginYear_24 rfl ?_
    refine zr_get X (ci := 6) (q := 0) (zR (1)) (.ref (ad (1))) dX6_beginYear_25 (by omega) rfl rfl inX6 (by decide) rfl (rfl) rfl k_539 ?_
    refine zr_iloadn X 1 dX6_beginYear_28 rfl ?_
    refine zr_bipush X (nI (28)) dX6_beginYear_29 (by decide +kernel) ?_
    refine zr_dSi [.int (nI (i)), .int (nI (28))] [.ref (ad (1))] X (zK_ok A D tc tF tL tM) (zM_i (z1 := nI (32 * i + 35)) (c_of E (zca μ (i)) (i) (28)) (congrArg nI (by omega))) k_597 k_598 k_7 k_599 hdX6_of ⟨rfl, rfl⟩ ⟨Nat.le_of_ble_eq_true rfl, Nat.le_of_ble_eq_true rfl⟩ rfl rfl (Nat.le_of_ble_eq_true rfl) dX6_beginYear_31 ?_
    refine zr_aloadn X 0 dX6_beginYear_34 rfl ?_
    refine zr_get X (ci := 6) (q := 0) (zR (1)) (.ref (ad (1))) dX6_beginYear_35 (by omega) rfl rfl inX6 (by decide) rfl (rfl) rfl k_539 ?_
    refine zr_iloadn X 1 dX6_beginYear_38 rfl ?_
    refine zr_bipush X (nI (27)) dX6_beginYear_39 (by decide +kernel) ?_
    refine zr_dSi [.int (nI (i)), .int (nI (27))] [.ref (ad (1)), .int (nI (32 * i + 35)), .ref (ad (1))] X (zK_ok A D tc tF tL tM) (zM_i (z1 := nI (32 * i + 34)) (c_of E (zca μ (i)) (i) (27)) (congrArg nI (by omega))) k_597 k_598 k_7 k_599 hdX6_of ⟨rfl, rfl⟩ ⟨Nat.le_of_ble_eq_true rfl, Nat.le_of_ble_eq_true rfl⟩ rfl rfl (Nat.le_of_ble_eq_true rfl) dX6_beginYear_41 ?_
    refine zr_iald X (j := 32 * i + 34) 0 ((zca μ (i)) (32 * i + 34)) dX6_beginYear_44 (by omega) rfl rfl rfl (by omega) (by omega) (zcg (b := 32 * i + 34) (by omega) (rfl)) ?_
    refine zr_iloadn X 2 dX6_beginYear_45 rfl ?_
    refine zr_iadd X (((zca μ (i)) (32 * i + 34)) + ((zca μ (i)) (32 * i + 33))) dX6_beginYear_46 rfl ?_
    refine zr_iloadn X 2 dX6_beginYear_47 rfl ?_
    refine zr_bipush X (nI (9)) dX6_beginYear_48 (by decide +kernel) ?_
    refine zr_iadd X (((zca μ (i)) (32 * i + 33)) + (nI (9))) dX6_beginYear_50 rfl ?_
    refine zr_bipush X (nI (10)) dX6_beginYear_51 (by decide +kernel) ?_
    refine zr_idiv X ((((zca μ (i)) (32 * i + 33)) + (nI (9))) / (nI (10))) dX6_beginYear_53 (by decide +kernel) rfl ?_
    refine zr_iadd X ((((zca μ (i)) (32 * i + 34)) + ((zca μ (i)) (32 * i + 33))) + ((((zca μ (i)) (32 * i + 33)) + (nI (9))) / (nI (10)))) dX6_beginYear_54 rfl ?_
    refine zr_iast X (j := 32 * i + 35) 0 (32 * i + 35) dX6_beginYear_55 (by omega) rfl rfl rfl (by omega) (by omega) (by omega) ?_
    refine zr_aloadn X 0 dX6_beginYear_56 rfl ?_
    refine zr_get X (ci := 6) (q := 0) (zR (1)) (.ref (ad (1))) dX6_beginYear_57 (by omega) rfl rfl inX6 (by decide) rfl (rfl) rfl k_539 ?_
    refine zr_iloadn X 1 dX6_beginYear_60 rfl ?_
    refine zr_bipush X (nI (29)) dX6_beginYear_61 (by decide +kernel) ?_
    refine zr_dSi [.int (nI (i)), .int (nI (29))] [.ref (ad (1))] X (zK_ok A D tc tF tL tM) (zM_i (z1 := nI (32 * i + 36)) (c_of E (upd (zca μ (i)) (32 * i + 35) ((((zca μ (i)) (32 * i + 34)) + ((zca μ (i)) (32 * i + 33))) + ((((zca μ (i)) (32 * i + 33)) + (nI (9))) / (nI (10))))) (i) (29)) (congrArg nI (by omega))) k_597 k_598 k_7 k_599 hdX6_of ⟨rfl, rfl⟩ ⟨Nat.le_of_ble_eq_true rfl, Nat.le_of_ble_eq_true rfl⟩ rfl rfl (Nat.le_of_ble_eq_true rfl) dX6_beginYear_63 ?_
    refine zr_dup2 X dX6_beginYear_66 rfl rfl ?_
    refine zr_iald X (j := 32 * i + 36) 0 ((zca μ (i)) (32 * i + 36)) dX6_beginYear_67 (by omega) rfl rfl rfl (by omega) (by omega) (zcg (b := 32 * i + 36) (by omega) ((pk_un (by omega)).trans (rfl))) ?_
    refine zr_aloadn X 0 dX6_beginYear_68 rfl ?_
    refine zr_get X (ci := 6) (q := 0) (zR (1)) (.ref (ad (1))) dX6_beginYear_69 (by omega) rfl rfl inX6 (by decide) rfl (rfl) rfl k_539 ?_
    refine zr_iloadn X 1 dX6_beginYear_72 rfl ?_
    refine zr_bipush X (nI (28)) dX6_beginYear_73 (by decide +kernel) ?_
    refine zr_dSi [.int (nI (i)), .int (nI (28))] [.ref (ad (1)), .int ((zca μ (i)) (32 * i + 36)), .int (nI (32 * i + 36)), .ref (ad (1))] X (zK_ok A D tc tF tL tM) (zM_i (z1 := nI (32 * i + 35)) (c_of E (upd (zca μ (i)) (32 * i + 35) ((((zca μ (i)) (32 * i + 34)) + ((zca μ (i)) (32 * i + 33))) + ((((zca μ (i)) (32 * i + 33)) + (nI (9))) / (nI (10))))) (i) (28)) (congrArg nI (by omega))) k_597 k_598 k_7 k_599 hdX6_of ⟨rfl, rfl⟩ ⟨Nat.le_of_ble_eq_true rfl, Nat.le_of_ble_eq_true rfl⟩ rfl rfl (Nat.le_of_ble_eq_true rfl) dX6_beginYear_75 ?_
    refine zr_iald X (j := 32 * i + 35) 0 ((((zca μ (i)) (32 * i + 34)) + ((zca μ (i)) (32 * i + 33))) + ((((zca μ (i)) (32 * i + 33)) + (nI (9))) / (nI (10)))) dX6_beginYear_78 (by omega) rfl rfl rfl (by omega) (by omega) (zcg (b := 32 * i + 35) (by omega) (pk_us)) ?_
    refine zr_iadd X (((zca μ (i)) (32 * i + 36)) + ((((zca μ (i)) (32 * i + 34)) + ((zca μ (i)) (32 * i + 33))) + ((((zca μ (i)) (32 * i + 33)) + (nI (9))) / (nI (10))))) dX6_beginYear_79 rfl ?_
    refine zr_iast X (j := 32 * i + 36) 0 (32 * i + 36) dX6_beginYear_80 (by omega) rfl rfl rfl (by omega) (by omega) (by omega) ?_
    refine zr_aloadn X 0 dX6_beginYear_81 rfl ?_
    refine zr_get X (ci := 6) (q := 0) (zR (1)) (.ref (ad (1))) dX6_beginYear_82 (by omega) rfl rfl inX6 (by decide) rfl (rfl) rfl k_539 ?_
    refine zr_iloadn X 1 dX6_beginYear_85 rfl ?_
    refine zr_bipush X (nI (26)) dX6_beginYear_86 (by decide +kernel) ?_
    refine zr_dSi [.int (nI (i)), .int (nI (26))] [.ref (ad (1))] X (zK_ok A D tc tF tL tM) (zM_i (z1 := nI (32 * i + 33)) (c_of E (upd (upd (zca μ (i)) (32 * i + 35) ((((zca μ (i)) (32 * i + 34)) + ((zca μ (i)) (32 * i + 33))) + ((((zca μ (i)) (32 * i + 33)) + (nI (9))) / (nI (10))))) (32 * i + 36) (((zca μ (i)) (32 * i + 36)) + ((((zca μ (i)) (32 * i + 34)) + ((zca μ (i)) (32 * i + 33))) + ((((zca μ (i)) (32 * i + 33)) + (nI (9))) / (nI (10)))))) (i) (26)) (congrArg nI (by omega))) k_597 k_598 k_7 k_599 hdX6_of ⟨rfl, rfl⟩ ⟨Nat.le_of_ble_eq_true rfl, Nat.le_of_ble_eq_true rfl⟩ rfl rfl (Nat.le_of_ble_eq_true rfl) dX6_beginYear_88 ?_
    refine zr_iconst X (nI (0)) dX6_beginYear_91 (by decide +kernel) ?_
    refine zr_iast X (j := 32 * i + 33) 0 (32 * i + 33) dX6_beginYear_92 (by omega) rfl rfl rfl (by omega) (by omega) (by omega) ?_
    refine zr_aloadn X 0 dX6_beginYear_93 rfl ?_
    refine zr_get X (ci := 6) (q := 0) (zR (1)) (.ref (ad (1))) dX6_beginYear_94 (by omega) rfl rfl inX6 (by decide) rfl (rfl) rfl k_539 ?_
    refine zr_iloadn X 1 dX6_beginYear_97 rfl ?_
    refine zr_bipush X (nI (27)) dX6_beginYear_98 (by decide +kernel) ?_
    refine zr_dSi [.int (nI (i)), .int (nI (27))] [.ref (ad (1))] X (zK_ok A D tc tF tL tM) (zM_i (z1 := nI (32 * i + 34)) (c_of E (upd (upd (upd (zca μ (i)) (32 * i + 35) ((((zca μ (i)) (32 * i + 34)) + ((zca μ (i)) (32 * i + 33))) + ((((zca μ (i)) (32 * i + 33)) + (nI (9))) / (nI (10))))) (32 * i + 36) (((zca μ (i)) (32 * i + 36)) + ((((zca μ (i)) (32 * i + 34)) + ((zca μ (i)) (32 * i + 33))) + ((((zca μ (i)) (32 * i + 33)) + (nI (9))) / (nI (10)))))) (32 * i + 33) (nI (0))) (i) (27)) (congrArg nI (by omega))) k_597 k_598 k_7 k_599 hdX6_of ⟨rfl, rfl⟩ ⟨Nat.le_of_ble_eq_true rfl, Nat.le_of_ble_eq_true rfl⟩ rfl rfl (Nat.le_of_ble_eq_true rfl) dX6_beginYear_100 ?_
    refine zr_iconst X (nI (0)) dX6_beginYear_103 (by decide +kernel) ?_
    refine zr_iast X (j := 32 * i + 34) 0 (32 * i + 34) dX6_beginYear_104 (by omega) rfl rfl rfl (by omega) (by omega) (by omega) ?_
    refine zr_iconst X (nI (0)) dX6_beginYear_105 (by decide +kernel) ?_
    refine zr_istoren X [1, 2, 3, 0] [(0, .ref (ad (0))), (1, .int (nI (i))), (2, .int ((zca μ (i)) (32 * i + 33))), (3, .int (nI (0)))] dX6_beginYear_106 (by decide) rfl ?_
    refine zr_iloadn X 3 dX6_beginYear_107 rfl ?_
    refine zr_iconst X (nI (3)) dX6_beginYear_108 (by decide +kernel) ?_
    refine zr_icmp_ge X 132 dX6_beginYear_109 (by decide) (fun q => absurd q (nI_ge (by omega) (by omega))) (fun _ => ?_)
    refine zr_aloadn X 0 dX6_beginYear_112 rfl ?_
    refine zr_get X (ci := 6) (q := 0) (zR (1)) (.ref (ad (1))) dX6_beginYear_113 (by omega) rfl rfl inX6 (by decide) rfl (rfl) rfl k_539 ?_
    refine zr_iloadn X 1 dX6_beginYear_116 rfl ?_
    refine zr_bipush X (nI (23)) dX6_beginYear_117 (by decide +kernel) ?_
    refine zr_iloadn X 3 dX6_beginYear_119 rfl ?_
    refine zr_iadd X (nI (23)) dX6_beginYear_120 ((nI_add _ _).trans (congrArg nI (by omega))) ?_
    refine zr_dSi [.int (nI (i)), .int (nI (23))] [.ref (ad (1))] X (zK_ok A D tc tF tL tM) (zM_i (z1 := nI (32 * i + 30)) (c_of E (upd (upd (upd (upd (zca μ (i)) (32 * i + 35) ((((zca μ (i)) (32 * i + 34)) + ((zca μ (i)) (32 * i + 33))) + ((((zca μ (i)) (32 * i + 33)) + (nI (9))) / (nI (10))))) (32 * i + 36) (((zca μ (i)) (32 * i + 36)) + ((((zca μ (i)) (32 * i + 34)) + ((zca μ (i)) (32 * i + 33))) + ((((zca μ (i)) (32 * i + 33)) + (nI (9))) / (nI (10)))))) (32 * i + 33) (nI (0))) (32 * i + 34) (nI (0))) (i) (23)) (congrArg nI (by omega))) k_597 k_598 k_7 k_599 hdX6_of ⟨rfl, rfl⟩ ⟨Nat.le_of_ble_eq_true rfl, Nat.le_of_ble_eq_true rfl⟩ rfl rfl (Nat.le_of_ble_eq_true rfl) dX6_beginYear_121 ?_
    refine zr_iconst X (nI (0)) dX6_beginYear_124 (by decide +kernel) ?_
    refine zr_iast X (j := 32 * i + 30) 0 (32 * i + 30) dX6_beginYear_125 (by omega) rfl rfl rfl (by omega) (by omega) (by omega) ?_
    refine zr_iinc X 3 (nI (1)) [1, 2, 3, 0] [(0, .ref (ad (0))), (1, .int (nI (i))), (2, .int ((zca μ (i)) (32 * i + 33))), (3, .int (nI (1)))] dX6_beginYear_126 rfl (zinc _) (by decide) rfl ?_
    refine zr_goto X 107 dX6_beginYear_129 (by decide) ?_
    refine zr_iloadn X 3 dX6_beginYear_107 rfl ?_
    refine zr_iconst X (nI (3)) dX6_beginYear_108 (by decide +kernel) ?_
    refine zr_icmp_ge X 132 dX6_beginYear_109 (by decide) (fun q => absurd q (nI_ge (by omega) (by omega))) (fun _ => ?_)
    refine zr_aloadn X 0 dX6_beginYear_112 rfl ?_
    refine zr_get X (ci := 6) (q := 0) (zR (1)) (.ref (ad (1))) dX6_beginYear_113 (by omega) rfl rfl inX6 (by decide) rfl (rfl) rfl k_539 ?_
    refine zr_iloadn X 1 dX6_beginYear_116 rfl ?_
    refine zr_bipush X (nI (23)) dX6_beginYear_117 (by decide +kernel) ?_
    refine zr_iloadn X 3 dX6_beginYear_119 rfl ?_
    refine zr_iadd X (nI (24)) dX6_beginYear_120 ((nI_add _ _).trans (congrArg nI (by omega))) ?_
    refine zr_dSi [.int (nI (i)), .int (nI (24))] [.ref (ad (1))] X (zK_ok A D tc tF tL tM) (zM_i (z1 := nI (32 * i + 31)) (c_of E (upd (upd (upd (upd (upd (zca μ (i)) (32 * i + 35) ((((zca μ (i)) (32 * i + 34)) + ((zca μ (i)) (32 * i + 33))) + ((((zca μ (i)) (32 * i + 33)) + (nI (9))) / (nI (10))))) (32 * i + 36) (((zca μ (i)) (32 * i + 36)) + ((((zca μ (i)) (32 * i + 34)) + ((zca μ (i)) (32 * i + 33))) + ((((zca μ (i)) (32 * i + 33)) + (nI (9))) / (nI (10)))))) (32 * i + 33) (nI (0))) (32 * i + 34) (nI (0))) (32 * i + 30) (nI (0))) (i) (24)) (congrArg nI (by omega))) k_597 k_598 k_7 k_599 hdX6_of ⟨rfl, rfl⟩ ⟨Nat.le_of_ble_eq_true rfl, Nat.le_of_ble_eq_true rfl⟩ rfl rfl (Nat.le_of_ble_eq_true rfl) dX6_beginYear_121 ?_
    refine zr_iconst X (nI (0)) dX6_beginYear_124 (by decide +kernel) ?_
    refine zr_iast X (j := 32 * i + 31) 0 (32 * i + 31) dX6_beginYear_125 (by omega) rfl rfl rfl (by omega) (by omega) (by omega) ?_
    refine zr_iinc X 3 (nI (2)) [1, 2, 3, 0] [(0, .ref (ad (0))), (1, .int (nI (i))), (2, .int ((zca μ (i)) (32 * i + 33))), (3, .int (nI (2)))] dX6_beginYear_126 rfl (zinc _) (by decide) rfl ?_
    refine zr_goto X 107 dX6_beginYear_129 (by decide) ?_
    refine zr_iloadn X 3 dX6_beginYear_107 rfl ?_
    refine zr_iconst X (nI (3)) dX6_beginYear_108 (by decide +kernel) ?_
    refine zr_icmp_ge X 132 dX6_beginYear_109 (by decide) (fun q => absurd q (nI_ge (by omega) (by omega))) (fun _ => ?_)
    refine zr_aloadn X 0 dX6_beginYear_112 rfl ?_
    refine zr_get X (ci := 6) (q := 0) (zR (1)) (.ref (ad (1))) dX6_beginYear_113 (by omega) rfl rfl inX6 (by decide) rfl (rfl) rfl k_539 ?_
    refine zr_iloadn X 1 dX6_beginYear_116 rfl ?_
    refine zr_bipush X (nI (23)) dX6_beginYear_117 (by decide +kernel) ?_
    refine zr_iloadn X 3 dX6_beginYear_119 rfl ?_
    refine zr_iadd X (nI (25)) dX6_beginYear_120 ((nI_add _ _).trans (congrArg nI (by omega))) ?_
    refine zr_dSi [.int (nI (i)), .int (nI (25))] [.ref (ad (1))] X (zK_ok A D tc tF tL tM) (zM_i (z1 := nI (32 * i + 32)) (c_of E (upd (upd (upd (upd (upd (upd (zca μ (i)) (32 * i + 35) ((((zca μ (i)) (32 * i + 34)) + ((zca μ (i)) (32 * i + 33))) + ((((zca μ (i)) (32 * i + 33)) + (nI (9))) / (nI (10))))) (32 * i + 36) (((zca μ (i)) (32 * i + 36)) + ((((zca μ (i)) (32 * i + 34)) + ((zca μ (i)) (32 * i + 33))) + ((((zca μ (i)) (32 * i + 33)) + (nI (9))) / (nI (10)))))) (32 * i + 33) (nI (0))) (32 * i + 34) (nI (0))) (32 * i + 30) (nI (0))) (32 * i + 31) (nI (0))) (i) (25)) (congrArg nI (by omega))) k_597 k_598 k_7 k_599 hdX6_of ⟨rfl, rfl⟩ ⟨Nat.le_of_ble_eq_true rfl, Nat.le_of_ble_eq_true rfl⟩ rfl rfl (Nat.le_of_ble_eq_true rfl) dX6_beginYear_121 ?_
    refine zr_iconst X (nI (0)) dX6_beginYear_124 (by decide +kernel) ?_
    refine zr_iast X (j := 32 * i + 32) 0 (32 * i + 32) dX6_beginYear_125 (by omega) rfl rfl rfl (by omega) (by omega) (by omega) ?_
    refine zr_iinc X 3 (nI (3)) [1, 2, 3, 0] [(0, .ref (ad (0))), (1, .int (nI (i))), (2, .int ((zca μ (i)) (32 * i + 33))), (3, .int (nI (3)))] dX6_beginYear_126 rfl (zinc _) (by decide) rfl ?_
    refine zr_goto X 107 dX6_beginYear_129 (by decide) ?_
    refine zr_iloadn X 3 dX6_beginYear_107 rfl ?_
    refine zr_iconst X (nI (3)) dX6_beginYear_108 (by decide +kernel) ?_
    refine zr_icmp_ge X 132 dX6_beginYear_109 (by decide) (fun _ => ?_) (fun q => absurd (zq_le (by omega) (by omega)) q)
    refine zr_iinc X 1 (nI (i + 1)) [1, 0, 2, 3] [(0, .ref (ad (0))), (1, .int (nI (i + 1))), (2, .int ((zca μ (i)) (32 * i + 33))), (3, .int (nI (3)))] dX6_beginYear_132 rfl (zinc _) (by decide) rfl ?_
    refine zr_goto X 2 dX6_beginYear_135 (by decide) ?_
    refine zr_drop X [0, 1] [(0, .ref (ad (0))), (1, .int (nI (i + 1)))] rfl ?_
    exact ih2

set_option maxHeartbeats 4000000 in
set_option maxRecDepth 100000 in
theorem c_fineAll {l : Launch} {D : va_G} {tc : Nat → ClassId} {ad : Nat → Nat} {A : Nat → Prop} {tF tL tM : Nat} (E : zN 6 A ad) (μ : Nat → Int32) {c : Nat} (hc : μ 1 = nI c) (h8 : c ≤ 8)  : zMi l yX6_fineAll cX6_fineAll 4 (some .int) (zrm 3) (zK A D tc tF tL tM) A D vwCl tc ad 6 shR [.ref (ad (0))] μ (fun r u => r = zfs μ c ∧ u = zfn μ c) := by
  refine zM_of RX6 [(0, .ref (ad (0)))] (zK_ok A D tc tF tL tM) E.1 E.2 owR_ok (by decide +kernel) rfl (Nat.le_of_ble_eq_true rfl) rfl ?_
  intro pP eE sS mM aS bL mT cO X
  refine zr_iconst X (nI (0)) dX6_fineAll_0 (by decide +kernel) ?_
  refine zr_istoren X [1, 0] [(0, .ref (ad (0))), (1, .int (nI (0)))] dX6_fineAll_1 (by decide) rfl ?_
  refine zr_iconst X (nI (0)) dX6_fineAll_2 (by decide +kernel) ?_
  refine zr_istoren X [1, 2, 0] [(0, .ref (ad (0))), (1, .int (nI (0))), (2, .int (nI (0)))] dX6_fineAll_3 (by decide) rfl ?_
  refine zr_for X (c) (fun i => (zfn μ (i))) (fun i => [(0, .ref (ad (0))), (1, .int (zfs μ (i))), (2, .int (nI (i)))]) [] (rfl) rfl ?_ ?_
  · refine zr_iloadn X 2 dX6_fineAll_4 rfl ?_
    refine zr_aloadn X 0 dX6_fineAll_5 rfl ?_
    refine zr_get X (ci := 6) (q := 0) (zR (1)) (.ref (ad (1))) dX6_fineAll_6 (by omega) rfl rfl inX6 (by decide) rfl (rfl) rfl k_539 ?_
    refine zr_iconst X (nI (1)) dX6_fineAll_9 (by decide +kernel) ?_
    refine zr_iald X (j := 1) 0 (nI (c)) dX6_fineAll_10 (by omega) rfl rfl rfl (by omega) (by omega) (zcg (b := 1) (by omega) ((zfn_lo (by omega) _).trans (hc))) ?_
    refine zr_icmp_ge X 59 dX6_fineAll_11 (by decide) (fun _ => ?_) (fun q => absurd (zq_le (by omega) (by omega)) q)
    refine zr_iloadn X 1 dX6_fineAll_59 rfl ?_
    exact zr_iret X dX6_fineAll_60 ⟨rfl, rfl⟩
  · intro i hi ih4
    refine zr_iloadn X 2 dX6_fineAll_4 rfl ?_
    refine zr_aloadn X 0 dX6_fineAll_5 rfl ?_
    refine zr_get X (ci := 6) (q := 0) (zR (1)) (.ref (ad (1))) dX6_fineAll_6 (by omega) rfl rfl inX6 (by decide) rfl (rfl) rfl k_539 ?_
    refine zr_iconst X (nI (1)) dX6_fineAll_9 (by decide +kernel) ?_
    refine zr_iald X (j := 1) 0 (nI (c)) dX6_fineAll_10 (by omega) rfl rfl rfl (by omega) (by omega) (zcg (b := 1) (by omega) ((zfn_lo (by omega) _).trans (hc))) ?_
    refine zr_icmp_ge X 59 dX6_fineAll_11 (by decide) (fun q => absurd q (nI_ge (by omega) (by omega))) (fun _ => ?_)
    refine zr_aloadn X 0 dX6_fineAll_14 rfl ?_
    refine zr_get X (ci := 6) (q := 0) (zR (1)) (.ref (ad (1))) dX6_fineAll_15 (by omega) rfl rfl inX6 (by decide) rfl (rfl) rfl k_539 ?_
    refine zr_iloadn X 2 dX6_fineAll_18 rfl ?_
    refine zr_bipush X (nI (29)) dX6_fineAll_19 (by decide +kernel) ?_
    refine zr_dSi [.int (nI (i)), .int (nI (29))] [.ref (ad (1))] X (zK_ok A D tc tF tL tM) (zM_i (z1 := nI (32 * i + 36)) (c_of E (zfn μ (i)) (i) (29)) (congrArg nI (by omega))) k_597 k_598 k_7 k_599 hdX6_of ⟨rfl, rfl⟩ ⟨Nat.le_of_ble_eq_true rfl, Nat.le_of_ble_eq_true rfl⟩ rfl rfl (Nat.le_of_ble_eq_true rfl) dX6_fineAll_21 ?_
    refine zr_iald X (j := 32 * i + 36) 0 ((zfn μ (i)) (32 * i + 36)) dX6_fineAll_24 (by omega) rfl rfl rfl (by omega) (by omega) (zcg (b := 32 * i + 36) (by omega) (rfl)) ?_
    refine zr_aloadn X 0 dX6_fineAll_25 rfl ?_
    refine zr_get X (ci := 6) (q := 0) (zR (1)) (.ref (ad (1))) dX6_fineAll_26 (by omega) rfl rfl inX6 (by decide) rfl (rfl) rfl k_539 ?_
    refine zr_bipush X (nI (6)) dX6_fineAll_29 (by decide +kernel) ?_
    refine zr_iald X (j := 6) 0 ((zfn μ (i)) (6)) dX6_fineAll_31 (by omega) rfl rfl rfl (by omega) (by omega) (zcg (b := 6) (by omega) (rfl)) ?_
    refine zr_imul X (((zfn μ (i)) (32 * i + 36)) * ((zfn μ (i)) (6))) dX6_fineAll_32 rfl ?_
    refine zr_istoren X [1, 2, 3, 0] [(0, .ref (ad (0))), (1, .int (zfs μ (i))), (2, .int (nI (i))), (3, .int (((zfn μ (i)) (32 * i + 36)) * ((zfn μ (i)) (6))))] dX6_fineAll_33 (by decide) rfl ?_
    refine zr_aloadn X 0 dX6_fineAll_34 rfl ?_
    refine zr_get X (ci := 6) (q := 0) (zR (1)) (.ref (ad (1))) dX6_fineAll_35 (by omega) rfl rfl inX6 (by decide) rfl (rfl) rfl k_539 ?_
    refine zr_iloadn X 2 dX6_fineAll_38 rfl ?_
    refine zr_bipush X (nI (31)) dX6_fineAll_39 (by decide +kernel) ?_
    refine zr_dSi [.int (nI (i)), .int (nI (31))] [.ref (ad (1))] X (zK_ok A D tc tF tL tM) (zM_i (z1 := nI (32 * i + 38)) (c_of E (zfn μ (i)) (i) (31)) (congrArg nI (by omega))) k_597 k_598 k_7 k_599 hdX6_of ⟨rfl, rfl⟩ ⟨Nat.le_of_ble_eq_true rfl, Nat.le_of_ble_eq_true rfl⟩ rfl rfl (Nat.le_of_ble_eq_true rfl) dX6_fineAll_41 ?_
    refine zr_dup2 X dX6_fineAll_44 rfl rfl ?_
    refine zr_iald X (j := 32 * i + 38) 0 ((zfn μ (i)) (32 * i + 38)) dX6_fineAll_45 (by omega) rfl rfl rfl (by omega) (by omega) (zcg (b := 32 * i + 38) (by omega) (rfl)) ?_
    refine zr_iloadn X 3 dX6_fineAll_46 rfl ?_
    refine zr_iadd X (((zfn μ (i)) (32 * i + 38)) + (((zfn μ (i)) (32 * i + 36)) * ((zfn μ (i)) (6)))) dX6_fineAll_47 rfl ?_
    refine zr_iast X (j := 32 * i + 38) 0 (32 * i + 38) dX6_fineAll_48 (by omega) rfl rfl rfl (by omega) (by omega) (by omega) ?_
    refine zr_iloadn X 1 dX6_fineAll_49 rfl ?_
    refine zr_iloadn X 3 dX6_fineAll_50 rfl ?_
    refine zr_iadd X ((zfs μ (i)) + (((zfn μ (i)) (32 * i + 36)) * ((zfn μ (i)) (6)))) dX6_fineAll_51 rfl ?_
    refine zr_istoren X [1, 0, 2, 3] [(0, .ref (ad (0))), (1, .int ((zfs μ (i)) + (((zfn μ (i)) (32 * i + 36)) * ((zfn μ (i)) (6))))), (2, .int (nI (i))), (3, .int (((zfn μ (i)) (32 * i + 36)) * ((zfn μ (i)) (6))))] dX6_fineAll_52 (by decide) rfl ?_
    refine zr_iinc X 2 (nI (i + 1)) [1, 2, 0, 3] [(0, .ref (ad (0))), (1, .int ((zfs μ (i)) + (((zfn μ (i)) (32 * i + 36)) * ((zfn μ (i)) (6))))), (2, .int (nI (i + 1))), (3, .int (((zfn μ (i)) (32 * i + 36)) * ((zfn μ (i)) (6))))] dX6_fineAll_53 rfl (zinc _) (by decide) rfl ?_
    refine zr_goto X 4 dX6_fineAll_56 (by decide) ?_
    refine zr_drop X [0, 1, 2] [(0, .ref (ad (0))), (1, .int ((zfs μ (i)) + (((zfn μ (i)) (32 * i + 36)) * ((zfn μ (i)) (6))))), (2, .int (nI (i + 1)))] rfl ?_
    exact ih4

set_option maxHeartbeats 4000000 in
set_option maxRecDepth 100000 in
theorem c_pass_b {l : Launch} {D : va_G} {tc : Nat → ClassId} {ad : Nat → Nat} {A : Nat → Prop} {tF tL tM : Nat} (E : zN 6 A ad) (μ : Nat → Int32) {m c k : Nat} (S : refS μ m c k) {x : Int32} (hx : ¬ zin x 1 24)  : zMi l yX6_pass cX6_pass 4 (some .int) (zrm 5) (zK A D tc tF tL tM) A D vwCl tc ad 6 shR [.ref (ad (0)), .int (x)] μ (fun r u => r = -2 ∧ u = μ) := by
  refine zM_of RX6 [(0, .ref (ad (0))), (1, .int (x))] (zK_ok A D tc tF tL tM) E.1 E.2 owR_ok (by decide +kernel) rfl (Nat.le_of_ble_eq_true rfl) rfl ?_
  intro pP eE sS mM aS bL mT cO X
  obtain ⟨hm, hm2, hc, h8, hk, hk4⟩ := S
  refine zr_iloadn X 1 dX6_pass_0 rfl ?_
  refine zr_iconst X (nI (1)) dX6_pass_1 (by decide +kernel) ?_
  refine zr_bipush X (nI (24)) dX6_pass_2 (by decide +kernel) ?_
  refine zr_dSi [.int (x), .int (nI (1)), .int (nI (24))] [] X (zK_ok A D tc tF tL tM) (c_in_f E μ (fun q => hx (zin_of (by omega) q.1 q.2 (by omega)))) k_604 k_605 k_7 k_606 hdX6_in ⟨rfl, rfl⟩ ⟨Nat.le_of_ble_eq_true rfl, Nat.le_of_ble_eq_true rfl⟩ rfl rfl (Nat.le_of_ble_eq_true rfl) dX6_pass_4 ?_
  refine zr_if_ne X 13 dX6_pass_7 (by decide) (fun q => absurd (zq_eq0 (by omega)) q) (fun _ => ?_)
  refine zr_bipush X (-2) dX6_pass_10 (by decide +kernel) ?_
  exact zr_iret X dX6_pass_12 ⟨rfl, rfl⟩

set_option maxHeartbeats 4000000 in
set_option maxRecDepth 100000 in
theorem c_pass_n {l : Launch} {D : va_G} {tc : Nat → ClassId} {ad : Nat → Nat} {A : Nat → Prop} {tF tL tM : Nat} (E : zN 6 A ad) (μ : Nat → Int32) {m c k : Nat} (S : refS μ m c k) {q : Nat} (hq1 : 1 ≤ q) (hq2 : q ≤ 24) (h : 239 < m + q) : zMi l yX6_pass cX6_pass 4 (some .int) (zrm 5) (zK A D tc tF tL tM) A D vwCl tc ad 6 shR [.ref (ad (0)), .int (nI (q))] μ (fun r u => r = -4 ∧ u = μ) := by
  refine zM_of RX6 [(0, .ref (ad (0))), (1, .int (nI (q)))] (zK_ok A D tc tF tL tM) E.1 E.2 owR_ok (by decide +kernel) rfl (Nat.le_of_ble_eq_true rfl) rfl ?_
  intro pP eE sS mM aS bL mT cO X
  obtain ⟨hm, hm2, hc, h8, hk, hk4⟩ := S
  refine zr_iloadn X 1 dX6_pass_0 rfl ?_
  refine zr_iconst X (nI (1)) dX6_pass_1 (by decide +kernel) ?_
  refine zr_bipush X (nI (24)) dX6_pass_2 (by decide +kernel) ?_
  refine zr_dSi [.int (nI (q)), .int (nI (1)), .int (nI (24))] [] X (zK_ok A D tc tF tL tM) (c_in_t E μ (zq_le (by omega) (by omega)) (zq_le (by omega) (by omega))) k_604 k_605 k_7 k_606 hdX6_in ⟨rfl, rfl⟩ ⟨Nat.le_of_ble_eq_true rfl, Nat.le_of_ble_eq_true rfl⟩ rfl rfl (Nat.le_of_ble_eq_true rfl) dX6_pass_4 ?_
  refine zr_if_ne X 13 dX6_pass_7 (by decide) (fun _ => ?_) (fun q => absurd q (nI_ne0 (by omega) (by omega)))
  refine zr_aloadn X 0 dX6_pass_13 rfl ?_
  refine zr_get X (ci := 6) (q := 0) (zR (1)) (.ref (ad (1))) dX6_pass_14 (by omega) rfl rfl inX6 (by decide) rfl (rfl) rfl k_539 ?_
  refine zr_iconst X (nI (0)) dX6_pass_17 (by decide +kernel) ?_
  refine zr_iald X (j := 0) 0 (nI (m)) dX6_pass_18 (by omega) rfl rfl rfl (by omega) (by omega) (zcg (b := 0) (by omega) (hm)) ?_
  refine zr_iloadn X 1 dX6_pass_19 rfl ?_
  refine zr_iadd X (nI (m + q)) dX6_pass_20 (nI_add _ _) ?_
  refine zr_sipush X (nI (239)) dX6_pass_21 (by decide +kernel) ?_
  refine zr_icmp_le X 30 dX6_pass_24 (by decide) (fun q => absurd q (nI_ge (by omega) (by omega))) (fun _ => ?_)
  refine zr_bipush X (-4) dX6_pass_27 (by decide +kernel) ?_
  exact zr_iret X dX6_pass_29 ⟨rfl, rfl⟩

set_option maxHeartbeats 4000000 in
set_option maxRecDepth 100000 in
theorem c_pass_ok {l : Launch} {D : va_G} {tc : Nat → ClassId} {ad : Nat → Nat} {A : Nat → Prop} {tF tL tM : Nat} (E : zN 6 A ad) (μ : Nat → Int32) {m c k : Nat} (S : refS μ m c k) {q : Nat} (hq1 : 1 ≤ q) (hq2 : q ≤ 24) {b : Nat} (hb : μ 5 = nI b) (hb1 : 1 ≤ b) (hb5 : b ≤ 5) (h : m + q ≤ 239) : zMi l yX6_pass cX6_pass 4 (some .int) (zrm 6) (zK A D tc tF tL tM) A D vwCl tc ad 6 shR [.ref (ad (0)), .int (nI (q))] μ (fun r u => r = zpc (zrec μ (0) (k)) c b m q ∧ u = zps (zrec μ (0) (k)) c b m q) := by
  refine zM_of RX6 [(0, .ref (ad (0))), (1, .int (nI (q)))] (zK_ok A D tc tF tL tM) E.1 E.2 owR_ok (by decide +kernel) rfl (Nat.le_of_ble_eq_true rfl) rfl ?_
  intro pP eE sS mM aS bL mT cO X
  obtain ⟨hm, hm2, hc, h8, hk, hk4⟩ := S
  refine zr_iloadn X 1 dX6_pass_0 rfl ?_
  refine zr_iconst X (nI (1)) dX6_pass_1 (by decide +kernel) ?_
  refine zr_bipush X (nI (24)) dX6_pass_2 (by decide +kernel) ?_
  refine zr_dSi [.int (nI (q)), .int (nI (1)), .int (nI (24))] [] X (zK_ok A D tc tF tL tM) (c_in_t E μ (zq_le (by omega) (by omega)) (zq_le (by omega) (by omega))) k_604 k_605 k_7 k_606 hdX6_in ⟨rfl, rfl⟩ ⟨Nat.le_of_ble_eq_true rfl, Nat.le_of_ble_eq_true rfl⟩ rfl rfl (Nat.le_of_ble_eq_true rfl) dX6_pass_4 ?_
  refine zr_if_ne X 13 dX6_pass_7 (by decide) (fun _ => ?_) (fun q => absurd q (nI_ne0 (by omega) (by omega)))
  refine zr_aloadn X 0 dX6_pass_13 rfl ?_
  refine zr_get X (ci := 6) (q := 0) (zR (1)) (.ref (ad (1))) dX6_pass_14 (by omega) rfl rfl inX6 (by decide) rfl (rfl) rfl k_539 ?_
  refine zr_iconst X (nI (0)) dX6_pass_17 (by decide +kernel) ?_
  refine zr_iald X (j := 0) 0 (nI (m)) dX6_pass_18 (by omega) rfl rfl rfl (by omega) (by omega) (zcg (b := 0) (by omega) (hm)) ?_
  refine zr_iloadn X 1 dX6_pass_19 rfl ?_
  refine zr_iadd X (nI (m + q)) dX6_pass_20 (nI_add _ _) ?_
  refine zr_sipush X (nI (239)) dX6_pass_21 (by decide +kernel) ?_
  refine zr_icmp_le X 30 dX6_pass_24 (by decide) (fun _ => ?_) (fun q => absurd (zq_le (by omega) (by omega)) q)
  refine zr_aloadn X 0 dX6_pass_30 rfl ?_
  refine zr_iconst X (nI (0)) dX6_pass_31 (by decide +kernel) ?_
  refine zr_dVv (C := RX6) (ci := 6) [.int (nI (0))] [] X (zK_ok A D tc tF tL tM) (c_record E μ (hk) hk4 (by omega)) k_589 k_591 kp_1 k_7 k_592 hdX6_record ⟨rfl, rfl⟩ ⟨Nat.le_of_ble_eq_true rfl, Nat.le_of_ble_eq_true rfl⟩ (by omega) rfl rfl rfl rfl (Nat.le_of_ble_eq_true rfl) dX6_pass_32 ?_
  refine zr_iconst X (nI (0)) dX6_pass_35 (by decide +kernel) ?_
  refine zr_istoren X [1, 2, 0] [(0, .ref (ad (0))), (1, .int (nI (q))), (2, .int (nI (0)))] dX6_pass_36 (by decide) rfl ?_
  refine zr_iconst X (nI (0)) dX6_pass_37 (by decide +kernel) ?_
  refine zr_istoren X [1, 2, 3, 0] [(0, .ref (ad (0))), (1, .int (nI (q))), (2, .int (nI (0))), (3, .int (nI (0)))] dX6_pass_38 (by decide) rfl ?_
  refine zr_for X (q) (fun i => (zps (zrec μ (0) (k)) c b m (i))) (fun i => [(0, .ref (ad (0))), (1, .int (nI (q))), (2, .int (zpc (zrec μ (0) (k)) c b m (i))), (3, .int (nI (i)))]) [] (rfl) rfl ?_ ?_
  · refine zr_iloadn X 3 dX6_pass_39 rfl ?_
    refine zr_iloadn X 1 dX6_pass_40 rfl ?_
    refine zr_icmp_ge X 107 dX6_pass_41 (by decide) (fun _ => ?_) (fun q => absurd (zq_le (by omega) (by omega)) q)
    refine zr_iloadn X 2 dX6_pass_107 rfl ?_
    exact zr_iret X dX6_pass_108 ⟨rfl, rfl⟩
  · intro i hi ih39
    refine zr_iloadn X 3 dX6_pass_39 rfl ?_
    refine zr_iloadn X 1 dX6_pass_40 rfl ?_
    refine zr_icmp_ge X 107 dX6_pass_41 (by decide) (fun q => absurd q (nI_ge (by omega) (by omega))) (fun _ => ?_)
    refine zr_aloadn X 0 dX6_pass_44 rfl ?_
    refine zr_get X (ci := 6) (q := 0) (zR (1)) (.ref (ad (1))) dX6_pass_45 (by omega) rfl rfl inX6 (by decide) rfl (rfl) rfl k_539 ?_
    refine zr_iconst X (nI (0)) dX6_pass_48 (by decide +kernel) ?_
    refine zr_dup2 X dX6_pass_49 rfl rfl ?_
    refine zr_iald X (j := 0) 0 (nI (i + m)) dX6_pass_50 (by omega) rfl rfl rfl (by omega) (by omega) (zcg (b := 0) (by omega) (zps_0 ((zrec_out (by omega) (by omega) hk4).trans hm) _)) ?_
    refine zr_iconst X (nI (1)) dX6_pass_51 (by decide +kernel) ?_
    refine zr_iadd X (nI (i + m + 1)) dX6_pass_52 (nI_add _ _) ?_
    refine zr_iast X (j := 0) 0 (0) dX6_pass_53 (by omega) rfl rfl rfl (by omega) (by omega) (by omega) ?_
    refine zr_aloadn X 0 dX6_pass_54 rfl ?_
    refine zr_get X (ci := 6) (q := 0) (zR (1)) (.ref (ad (1))) dX6_pass_55 (by omega) rfl rfl inX6 (by decide) rfl (rfl) rfl k_539 ?_
    refine zr_iconst X (nI (0)) dX6_pass_58 (by decide +kernel) ?_
    refine zr_iald X (j := 0) 0 (nI (i + m + 1)) dX6_pass_59 (by omega) rfl rfl rfl (by omega) (by omega) (zcg (b := 0) (by omega) (pk_us)) ?_
    refine zr_bipush X (nI (12)) dX6_pass_60 (by decide +kernel) ?_
    refine zr_irem X (nI (((i + m + 1) % 12))) dX6_pass_62 (by decide +kernel) (pk_rem (by omega) (by omega) (by omega)) ?_
    refine zr_if_ne X 70 dX6_pass_63 (by decide) (fun h63 => ?_) (fun h63 => ?_)
    · have h63 : ¬ (i + m + 1) % 12 = 0 := fun q => h63 (by rw [q]; rfl)
      refine zr_iloadn X 2 dX6_pass_70 rfl ?_
      refine zr_aloadn X 0 dX6_pass_71 rfl ?_
      refine zr_get X (ci := 6) (q := 0) (zR (1)) (.ref (ad (1))) dX6_pass_72 (by omega) rfl rfl inX6 (by decide) rfl (rfl) rfl k_539 ?_
      refine zr_iconst X (nI (0)) dX6_pass_75 (by decide +kernel) ?_
      refine zr_iald X (j := 0) 0 (nI (i + m + 1)) dX6_pass_76 (by omega) rfl rfl rfl (by omega) (by omega) (zcg (b := 0) (by omega) (pk_us)) ?_
      refine zr_bipush X (nI (12)) dX6_pass_77 (by decide +kernel) ?_
      refine zr_irem X (nI (((i + m + 1) % 12))) dX6_pass_79 (by decide +kernel) (pk_rem (by omega) (by omega) (by omega)) ?_
      refine zr_iconst X (nI (4)) dX6_pass_80 (by decide +kernel) ?_
      refine zr_icmp_ne X 98 dX6_pass_81 (by decide) (fun h81 => ?_) (fun h81 => ?_)
      · have h81 : ¬ (i + m + 1) % 12 = 4 := fun q => h81 (by rw [q])
        refine zr_iconst X (nI (0)) dX6_pass_98 (by decide +kernel) ?_
        refine zr_iadd X ((zpc (zrec μ (0) (k)) c b m (i)) + (nI (0))) dX6_pass_99 rfl ?_
        refine zr_istoren X [1, 2, 0, 3] [(0, .ref (ad (0))), (1, .int (nI (q))), (2, .int ((zpc (zrec μ (0) (k)) c b m (i)) + (nI (0)))), (3, .int (nI (i)))] dX6_pass_100 (by decide) rfl ?_
        refine zr_iinc X 3 (nI (i + 1)) [1, 2, 3, 0] [(0, .ref (ad (0))), (1, .int (nI (q))), (2, .int ((zpc (zrec μ (0) (k)) c b m (i)) + (nI (0)))), (3, .int (nI (i + 1)))] dX6_pass_101 rfl (zinc _) (by decide) rfl ?_
        refine zr_goto X 39 dX6_pass_104 (by decide) ?_
        exact zr_mem X (by simp only [zps, zm1, zyr]; rw [if_neg h63, if_neg (by omega)]) (zr_lv X (by simp only [zpc, zc1]; rw [if_neg (by omega)]) ih39)
      · have h81 : (i + m + 1) % 12 = 4 := (nI_eq (by omega) (by omega)).mp h81
        refine zr_aloadn X 0 dX6_pass_84 rfl ?_
        refine zr_dVi (C := RX6) (ci := 6) [] [.int (zpc (zrec μ (0) (k)) c b m (i))] X (zK_ok A D tc tF tL tM) (c_year E (upd (zps (zrec μ (0) (k)) c b m (i)) (0) (nI (i + m + 1))) (pk_us) (by omega) rfl) k_618 k_620 kp_3 k_7 k_621 hdX6_year ⟨rfl, rfl⟩ ⟨Nat.le_of_ble_eq_true rfl, Nat.le_of_ble_eq_true rfl⟩ (by omega) rfl rfl rfl rfl (Nat.le_of_ble_eq_true rfl) dX6_pass_85 ?_
        refine zr_if_le X 98 dX6_pass_88 (by decide) (fun h88 => ?_) (fun h88 => ?_)
        · have h88 : (i + m + 1) / 12 = 0 := by rw [← nI_0] at h88; have := (nI_leI (by omega) (by omega)).mp h88; omega
          refine zr_iconst X (nI (0)) dX6_pass_98 (by decide +kernel) ?_
          refine zr_iadd X ((zpc (zrec μ (0) (k)) c b m (i)) + (nI (0))) dX6_pass_99 rfl ?_
          refine zr_istoren X [1, 2, 0, 3] [(0, .ref (ad (0))), (1, .int (nI (q))), (2, .int ((zpc (zrec μ (0) (k)) c b m (i)) + (nI (0)))), (3, .int (nI (i)))] dX6_pass_100 (by decide) rfl ?_
          refine zr_iinc X 3 (nI (i + 1)) [1, 2, 3, 0] [(0, .ref (ad (0))), (1, .int (nI (q))), (2, .int ((zpc (zrec μ (0) (k)) c b m (i)) + (nI (0)))), (3, .int (nI (i + 1)))] dX6_pass_101 rfl (zinc _) (by decide) rfl ?_
          refine zr_goto X 39 dX6_pass_104 (by decide) ?_
          exact zr_mem X (by simp only [zps, zm1, zyr]; rw [if_neg h63, if_neg (by omega)]) (zr_lv X (by simp only [zpc, zc1]; rw [if_neg (by omega)]) ih39)
        · have h88 : 0 < (i + m + 1) / 12 := Nat.pos_of_ne_zero (fun q => h88 (by rw [q]; decide +kernel))
          refine zr_aloadn X 0 dX6_pass_91 rfl ?_
          refine zr_dVi (C := RX6) (ci := 6) [] [.int (zpc (zrec μ (0) (k)) c b m (i))] X (zK_ok A D tc tF tL tM) (c_fineAll E (upd (zps (zrec μ (0) (k)) c b m (i)) (0) (nI (i + m + 1))) ((pk_un (by omega)).trans (((zps_lo (by omega) (by omega) _).trans ((zrec_out (by omega) (by omega) hk4).trans hc)))) h8) k_687 k_689 kp_10 k_7 k_690 hdX6_fineAll ⟨rfl, rfl⟩ ⟨Nat.le_of_ble_eq_true rfl, Nat.le_of_ble_eq_true rfl⟩ (by omega) rfl rfl rfl rfl (Nat.le_of_ble_eq_true rfl) dX6_pass_92 ?_
          refine zr_goto X 99 dX6_pass_95 (by decide) ?_
          refine zr_iadd X ((zpc (zrec μ (0) (k)) c b m (i)) + (zfs (upd (zps (zrec μ (0) (k)) c b m (i)) (0) (nI (i + m + 1))) c)) dX6_pass_99 rfl ?_
          refine zr_istoren X [1, 2, 0, 3] [(0, .ref (ad (0))), (1, .int (nI (q))), (2, .int ((zpc (zrec μ (0) (k)) c b m (i)) + (zfs (upd (zps (zrec μ (0) (k)) c b m (i)) (0) (nI (i + m + 1))) c))), (3, .int (nI (i)))] dX6_pass_100 (by decide) rfl ?_
          refine zr_iinc X 3 (nI (i + 1)) [1, 2, 3, 0] [(0, .ref (ad (0))), (1, .int (nI (q))), (2, .int ((zpc (zrec μ (0) (k)) c b m (i)) + (zfs (upd (zps (zrec μ (0) (k)) c b m (i)) (0) (nI (i + m + 1))) c))), (3, .int (nI (i + 1)))] dX6_pass_101 rfl (zinc _) (by decide) rfl ?_
          refine zr_goto X 39 dX6_pass_104 (by decide) ?_
          exact zr_mem X (by simp only [zps, zm1, zyr]; rw [if_neg h63, if_pos ⟨h81, h88⟩]) (zr_lv X (by simp only [zpc, zc1]; rw [if_pos ⟨h81, h88⟩]) ih39)
    · have h63 : (i + m + 1) % 12 = 0 := by rw [← nI_0] at h63; exact (nI_eq (by omega) (by omega)).mp h63
      refine zr_aloadn X 0 dX6_pass_66 rfl ?_
      refine zr_dVv (C := RX6) (ci := 6) [] [] X (zK_ok A D tc tF tL tM) (c_beginYear E (upd (zps (zrec μ (0) (k)) c b m (i)) (0) (nI (i + m + 1))) (pk_us) (by omega) rfl ((pk_un (by omega)).trans (((zps_lo (by omega) (by omega) _).trans ((zrec_out (by omega) (by omega) hk4).trans hc)))) h8 ((pk_un (by omega)).trans (((zps_lo (by omega) (by omega) _).trans ((zrec_out (by omega) (by omega) hk4).trans hb)))) hb1 hb5 rfl) k_683 k_685 kp_9 k_7 k_686 hdX6_beginYear ⟨rfl, rfl⟩ ⟨Nat.le_of_ble_eq_true rfl, Nat.le_of_ble_eq_true rfl⟩ (by omega) rfl rfl rfl rfl (Nat.le_of_ble_eq_true rfl) dX6_pass_67 ?_
      refine zr_iloadn X 2 dX6_pass_70 rfl ?_
      refine zr_aloadn X 0 dX6_pass_71 rfl ?_
      refine zr_get X (ci := 6) (q := 0) (zR (1)) (.ref (ad (1))) dX6_pass_72 (by omega) rfl rfl inX6 (by decide) rfl (rfl) rfl k_539 ?_
      refine zr_iconst X (nI (0)) dX6_pass_75 (by decide +kernel) ?_
      refine zr_iald X (j := 0) 0 (nI (i + m + 1)) dX6_pass_76 (by omega) rfl rfl rfl (by omega) (by omega) (zcg (b := 0) (by omega) ((zla_lo (by omega) _).trans ((zca_lo (by omega) _).trans (pk_us)))) ?_
      refine zr_bipush X (nI (12)) dX6_pass_77 (by decide +kernel) ?_
      refine zr_irem X (nI (((i + m + 1) % 12))) dX6_pass_79 (by decide +kernel) (pk_rem (by omega) (by omega) (by omega)) ?_
      refine zr_iconst X (nI (4)) dX6_pass_80 (by decide +kernel) ?_
      refine zr_icmp_ne X 98 dX6_pass_81 (by decide) (fun _ => ?_) (fun q => absurd q (zq_ne (by omega) (by omega) (by omega)))
      refine zr_iconst X (nI (0)) dX6_pass_98 (by decide +kernel) ?_
      refine zr_iadd X ((zpc (zrec μ (0) (k)) c b m (i)) + (nI (0))) dX6_pass_99 rfl ?_
      refine zr_istoren X [1, 2, 0, 3] [(0, .ref (ad (0))), (1, .int (nI (q))), (2, .int ((zpc (zrec μ (0) (k)) c b m (i)) + (nI (0)))), (3, .int (nI (i)))] dX6_pass_100 (by decide) rfl ?_
      refine zr_iinc X 3 (nI (i + 1)) [1, 2, 3, 0] [(0, .ref (ad (0))), (1, .int (nI (q))), (2, .int ((zpc (zrec μ (0) (k)) c b m (i)) + (nI (0)))), (3, .int (nI (i + 1)))] dX6_pass_101 rfl (zinc _) (by decide) rfl ?_
      refine zr_goto X 39 dX6_pass_104 (by decide) ?_
      exact zr_mem X (by simp only [zps, zm1, zyr]; rw [if_pos h63]) (zr_lv X (by simp only [zpc, zc1]; rw [if_neg (by omega)]) ih39)

set_option maxHeartbeats 4000000 in
set_option maxRecDepth 100000 in
theorem c_type_full {l : Launch} {D : va_G} {tc : Nat → ClassId} {ad : Nat → Nat} {A : Nat → Prop} {tF tL tM : Nat} (E : zN 6 A ad) (μ : Nat → Int32) {n : Nat} (hn : μ 2447 = nI n) (hn2 : n ≤ 60) (h : n = 60)(x : Int32)  : zMi l yX6_type cX6_type 2 (some .int) (zrm 2) (zK A D tc tF tL tM) A D vwCl tc ad 6 shR [.ref (ad (0)), .int (x)] μ (fun r u => r = -3 ∧ u = μ) := by
  refine zM_of RX6 [(0, .ref (ad (0))), (1, .int (x))] (zK_ok A D tc tF tL tM) E.1 E.2 owR_ok (by decide +kernel) rfl (Nat.le_of_ble_eq_true rfl) rfl ?_
  intro pP eE sS mM aS bL mT cO X
  refine zr_aloadn X 0 dX6_type_0 rfl ?_
  refine zr_get X (ci := 6) (q := 4) zI (.int (nI (n))) dX6_type_1 (by omega) rfl rfl inX6 (by decide) rfl (congrArg Value.int (hn)) rfl k_543 ?_
  refine zr_bipush X (nI (60)) dX6_type_4 (by decide +kernel) ?_
  refine zr_icmp_ne X 12 dX6_type_6 (by decide) (fun q => absurd (zq_eq (by omega)) q) (fun _ => ?_)
  refine zr_bipush X (-3) dX6_type_9 (by decide +kernel) ?_
  exact zr_iret X dX6_type_11 ⟨rfl, rfl⟩

set_option maxHeartbeats 4000000 in
set_option maxRecDepth 100000 in
theorem c_type_ok {l : Launch} {D : va_G} {tc : Nat → ClassId} {ad : Nat → Nat} {A : Nat → Prop} {tF tL tM : Nat} (E : zN 6 A ad) (μ : Nat → Int32) {n : Nat} (hn : μ 2447 = nI n) (hn2 : n ≤ 60) (h : n < 60)(x : Int32)  : zMi l yX6_type cX6_type 2 (some .int) (zrm 2) (zK A D tc tF tL tM) A D vwCl tc ad 6 shR [.ref (ad (0)), .int (x)] μ (fun r u => r = nI (n + 1) ∧ u = (upd (upd μ (n + 2460) (x)) (2447) (nI (n + 1)))) := by
  refine zM_of RX6 [(0, .ref (ad (0))), (1, .int (x))] (zK_ok A D tc tF tL tM) E.1 E.2 owR_ok (by decide +kernel) rfl (Nat.le_of_ble_eq_true rfl) rfl ?_
  intro pP eE sS mM aS bL mT cO X
  refine zr_aloadn X 0 dX6_type_0 rfl ?_
  refine zr_get X (ci := 6) (q := 4) zI (.int (nI (n))) dX6_type_1 (by omega) rfl rfl inX6 (by decide) rfl (congrArg Value.int (hn)) rfl k_543 ?_
  refine zr_bipush X (nI (60)) dX6_type_4 (by decide +kernel) ?_
  refine zr_icmp_ne X 12 dX6_type_6 (by decide) (fun _ => ?_) (fun q => absurd q (zq_ne (by omega) (by omega) (by omega)))
  refine zr_aloadn X 0 dX6_type_12 rfl ?_
  refine zr_get X (ci := 6) (q := 3) (zR (2)) (.ref (ad (2))) dX6_type_13 (by omega) rfl rfl inX6 (by decide) rfl (rfl) rfl k_542 ?_
  refine zr_aloadn X 0 dX6_type_16 rfl ?_
  refine zr_get X (ci := 6) (q := 4) zI (.int (nI (n))) dX6_type_17 (by omega) rfl rfl inX6 (by decide) rfl (congrArg Value.int (hn)) rfl k_543 ?_
  refine zr_iloadn X 1 dX6_type_20 rfl ?_
  refine zr_iast X (j := n) 0 (n + 2460) dX6_type_21 (by omega) rfl rfl rfl (by omega) (by omega) (by omega) ?_
  refine zr_aloadn X 0 dX6_type_22 rfl ?_
  refine zr_dup X dX6_type_23 rfl ?_
  refine zr_get X (ci := 6) (q := 4) zI (.int (nI (n))) dX6_type_24 (by omega) rfl rfl inX6 (by decide) rfl (congrArg Value.int ((pk_un (by omega)).trans (hn))) rfl k_543 ?_
  refine zr_iconst X (nI (1)) dX6_type_27 (by decide +kernel) ?_
  refine zr_iadd X (nI (n + 1)) dX6_type_28 (nI_add _ _) ?_
  refine zr_put X (ci := 6) (q := 4) (ty0 := tyX6) (ty := .int) (2447) dX6_type_29 (by omega) rfl rfl inX6 tyX6_ok nmX6 (by decide) rfl rfl rfl rfl rfl rfl k_543 (by omega) ?_
  refine zr_aloadn X 0 dX6_type_32 rfl ?_
  refine zr_get X (ci := 6) (q := 4) zI (.int (nI (n + 1))) dX6_type_33 (by omega) rfl rfl inX6 (by decide) rfl (congrArg Value.int (pk_us)) rfl k_543 ?_
  exact zr_iret X dX6_type_36 ⟨rfl, rfl⟩

set_option maxHeartbeats 4000000 in
set_option maxRecDepth 100000 in
theorem c_clearText {l : Launch} {D : va_G} {tc : Nat → ClassId} {ad : Nat → Nat} {A : Nat → Prop} {tF tL tM : Nat} (E : zN 6 A ad) (μ : Nat → Int32) {n : Nat} (hn : μ 2447 = nI n) (hn2 : n ≤ 60)  : zMi l yX6_clearText cX6_clearText 2 (some .int) (zrm 2) (zK A D tc tF tL tM) A D vwCl tc ad 6 shR [.ref (ad (0))] μ (fun r u => r = nI n ∧ u = (upd μ (2447) (nI (0)))) := by
  refine zM_of RX6 [(0, .ref (ad (0)))] (zK_ok A D tc tF tL tM) E.1 E.2 owR_ok (by decide +kernel) rfl (Nat.le_of_ble_eq_true rfl) rfl ?_
  intro pP eE sS mM aS bL mT cO X
  refine zr_aloadn X 0 dX6_clearText_0 rfl ?_
  refine zr_get X (ci := 6) (q := 4) zI (.int (nI (n))) dX6_clearText_1 (by omega) rfl rfl inX6 (by decide) rfl (congrArg Value.int (hn)) rfl k_543 ?_
  refine zr_istoren X [1, 0] [(0, .ref (ad (0))), (1, .int (nI (n)))] dX6_clearText_4 (by decide) rfl ?_
  refine zr_aloadn X 0 dX6_clearText_5 rfl ?_
  refine zr_iconst X (nI (0)) dX6_clearText_6 (by decide +kernel) ?_
  refine zr_put X (ci := 6) (q := 4) (ty0 := tyX6) (ty := .int) (2447) dX6_clearText_7 (by omega) rfl rfl inX6 tyX6_ok nmX6 (by decide) rfl rfl rfl rfl rfl rfl k_543 (by omega) ?_
  refine zr_iloadn X 1 dX6_clearText_10 rfl ?_
  exact zr_iret X dX6_clearText_11 ⟨rfl, rfl⟩

