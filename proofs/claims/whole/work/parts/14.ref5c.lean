set_option maxHeartbeats 4000000 in
set_option maxRecDepth 100000 in
theorem c_plan_u {l : Launch} {D : va_G} {tc : Nat → ClassId} {ad : Nat → Nat} {A : Nat → Prop} {tF tL tM : Nat} (E : zN 6 A ad) (μ : Nat → Int32) {m c k : Nat} (S : refS μ m c k) {x : Int32} (hx : ¬ zfm x c) (t : Int32) (w : Int32) (z : Int32)  : zMi l yX6_plan cX6_plan 8 (some .int) (zrm 5) (zK A D tc tF tL tM) A D vwCl tc ad 6 shR [.ref (ad (0)), .int (x), .int (t), .int (w), .int (z)] μ (fun r u => r = -1 ∧ u = μ) := by
  refine zM_of RX6 [(0, .ref (ad (0))), (1, .int (x)), (2, .int (t)), (3, .int (w)), (4, .int (z))] (zK_ok A D tc tF tL tM) E.1 E.2 owR_ok (by decide +kernel) rfl (Nat.le_of_ble_eq_true rfl) rfl ?_
  intro pP eE sS mM aS bL mT cO X
  obtain ⟨hm, hm2, hc, h8, hk, hk4⟩ := S
  refine zr_aloadn X 0 dX6_plan_0 rfl ?_
  refine zr_iloadn X 1 dX6_plan_1 rfl ?_
  refine zr_dVi (C := RX6) (ci := 6) [.int (x)] [] X (zK_ok A D tc tF tL tM) (c_isFirm_f E μ (hc) h8 hx) k_611 k_613 kp_2 k_7 k_614 hdX6_isFirm ⟨rfl, rfl⟩ ⟨Nat.le_of_ble_eq_true rfl, Nat.le_of_ble_eq_true rfl⟩ (by omega) rfl rfl rfl rfl (Nat.le_of_ble_eq_true rfl) dX6_plan_2 ?_
  refine zr_if_ne X 10 dX6_plan_5 (by decide) (fun q => absurd (zq_eq0 (by omega)) q) (fun _ => ?_)
  refine zr_iconst X (-1) dX6_plan_8 (by decide +kernel) ?_
  exact zr_iret X dX6_plan_9 ⟨rfl, rfl⟩

set_option maxHeartbeats 4000000 in
set_option maxRecDepth 100000 in
theorem c_plan_b1 {l : Launch} {D : va_G} {tc : Nat → ClassId} {ad : Nat → Nat} {A : Nat → Prop} {tF tL tM : Nat} (E : zN 6 A ad) (μ : Nat → Int32) {m c k : Nat} (S : refS μ m c k) {f : Nat} (hf : f < c) {x : Int32} (hx : ¬ zin x 1 9999) (w : Int32) (z : Int32)  : zMi l yX6_plan cX6_plan 8 (some .int) (zrm 5) (zK A D tc tF tL tM) A D vwCl tc ad 6 shR [.ref (ad (0)), .int (nI (f)), .int (x), .int (w), .int (z)] μ (fun r u => r = -2 ∧ u = μ) := by
  refine zM_of RX6 [(0, .ref (ad (0))), (1, .int (nI (f))), (2, .int (x)), (3, .int (w)), (4, .int (z))] (zK_ok A D tc tF tL tM) E.1 E.2 owR_ok (by decide +kernel) rfl (Nat.le_of_ble_eq_true rfl) rfl ?_
  intro pP eE sS mM aS bL mT cO X
  obtain ⟨hm, hm2, hc, h8, hk, hk4⟩ := S
  refine zr_aloadn X 0 dX6_plan_0 rfl ?_
  refine zr_iloadn X 1 dX6_plan_1 rfl ?_
  refine zr_dVi (C := RX6) (ci := 6) [.int (nI (f))] [] X (zK_ok A D tc tF tL tM) (c_isFirm_t E μ (hc) h8 (by omega)) k_611 k_613 kp_2 k_7 k_614 hdX6_isFirm ⟨rfl, rfl⟩ ⟨Nat.le_of_ble_eq_true rfl, Nat.le_of_ble_eq_true rfl⟩ (by omega) rfl rfl rfl rfl (Nat.le_of_ble_eq_true rfl) dX6_plan_2 ?_
  refine zr_if_ne X 10 dX6_plan_5 (by decide) (fun _ => ?_) (fun q => absurd q (nI_ne0 (by omega) (by omega)))
  refine zr_iloadn X 2 dX6_plan_10 rfl ?_
  refine zr_dSi [.int (x)] [] X (zK_ok A D tc tF tL tM) (c_isTonnes_f E μ hx) k_615 k_616 k_7 k_617 hdX6_isTonnes ⟨rfl, rfl⟩ ⟨Nat.le_of_ble_eq_true rfl, Nat.le_of_ble_eq_true rfl⟩ rfl rfl (Nat.le_of_ble_eq_true rfl) dX6_plan_11 ?_
  refine zr_if_eq X 36 dX6_plan_14 (by decide) (fun _ => ?_) (fun q => absurd (zq_eq0 (by omega)) q)
  refine zr_bipush X (-2) dX6_plan_36 (by decide +kernel) ?_
  exact zr_iret X dX6_plan_38 ⟨rfl, rfl⟩

set_option maxHeartbeats 4000000 in
set_option maxRecDepth 100000 in
theorem c_plan_b2 {l : Launch} {D : va_G} {tc : Nat → ClassId} {ad : Nat → Nat} {A : Nat → Prop} {tF tL tM : Nat} (E : zN 6 A ad) (μ : Nat → Int32) {m c k : Nat} (S : refS μ m c k) {f : Nat} (hf : f < c) {t : Nat} (ht1 : 1 ≤ t) (ht9 : t ≤ 9999) {x : Int32} (hx : ¬ zin x 0 2) (z : Int32)  : zMi l yX6_plan cX6_plan 8 (some .int) (zrm 5) (zK A D tc tF tL tM) A D vwCl tc ad 6 shR [.ref (ad (0)), .int (nI (f)), .int (nI (t)), .int (x), .int (z)] μ (fun r u => r = -2 ∧ u = μ) := by
  refine zM_of RX6 [(0, .ref (ad (0))), (1, .int (nI (f))), (2, .int (nI (t))), (3, .int (x)), (4, .int (z))] (zK_ok A D tc tF tL tM) E.1 E.2 owR_ok (by decide +kernel) rfl (Nat.le_of_ble_eq_true rfl) rfl ?_
  intro pP eE sS mM aS bL mT cO X
  obtain ⟨hm, hm2, hc, h8, hk, hk4⟩ := S
  refine zr_aloadn X 0 dX6_plan_0 rfl ?_
  refine zr_iloadn X 1 dX6_plan_1 rfl ?_
  refine zr_dVi (C := RX6) (ci := 6) [.int (nI (f))] [] X (zK_ok A D tc tF tL tM) (c_isFirm_t E μ (hc) h8 (by omega)) k_611 k_613 kp_2 k_7 k_614 hdX6_isFirm ⟨rfl, rfl⟩ ⟨Nat.le_of_ble_eq_true rfl, Nat.le_of_ble_eq_true rfl⟩ (by omega) rfl rfl rfl rfl (Nat.le_of_ble_eq_true rfl) dX6_plan_2 ?_
  refine zr_if_ne X 10 dX6_plan_5 (by decide) (fun _ => ?_) (fun q => absurd q (nI_ne0 (by omega) (by omega)))
  refine zr_iloadn X 2 dX6_plan_10 rfl ?_
  refine zr_dSi [.int (nI (t))] [] X (zK_ok A D tc tF tL tM) (c_isTonnes_t E μ (by omega) (by omega)) k_615 k_616 k_7 k_617 hdX6_isTonnes ⟨rfl, rfl⟩ ⟨Nat.le_of_ble_eq_true rfl, Nat.le_of_ble_eq_true rfl⟩ rfl rfl (Nat.le_of_ble_eq_true rfl) dX6_plan_11 ?_
  refine zr_if_eq X 36 dX6_plan_14 (by decide) (fun q => absurd q (nI_ne0 (by omega) (by omega))) (fun _ => ?_)
  refine zr_iloadn X 3 dX6_plan_17 rfl ?_
  refine zr_iconst X (nI (0)) dX6_plan_18 (by decide +kernel) ?_
  refine zr_iconst X (nI (2)) dX6_plan_19 (by decide +kernel) ?_
  refine zr_dSi [.int (x), .int (nI (0)), .int (nI (2))] [] X (zK_ok A D tc tF tL tM) (c_in_f E μ (fun q => hx (zin_of (by omega) q.1 q.2 (by omega)))) k_604 k_605 k_7 k_606 hdX6_in ⟨rfl, rfl⟩ ⟨Nat.le_of_ble_eq_true rfl, Nat.le_of_ble_eq_true rfl⟩ rfl rfl (Nat.le_of_ble_eq_true rfl) dX6_plan_20 ?_
  refine zr_if_eq X 36 dX6_plan_23 (by decide) (fun _ => ?_) (fun q => absurd (zq_eq0 (by omega)) q)
  refine zr_bipush X (-2) dX6_plan_36 (by decide +kernel) ?_
  exact zr_iret X dX6_plan_38 ⟨rfl, rfl⟩

set_option maxHeartbeats 4000000 in
set_option maxRecDepth 100000 in
theorem c_plan_b3 {l : Launch} {D : va_G} {tc : Nat → ClassId} {ad : Nat → Nat} {A : Nat → Prop} {tF tL tM : Nat} (E : zN 6 A ad) (μ : Nat → Int32) {m c k : Nat} (S : refS μ m c k) {f : Nat} (hf : f < c) {t : Nat} (ht1 : 1 ≤ t) (ht9 : t ≤ 9999) {w : Nat} (hw : w ≤ 2) {x : Int32} (hx : ¬ zin x 0 5)  : zMi l yX6_plan cX6_plan 8 (some .int) (zrm 5) (zK A D tc tF tL tM) A D vwCl tc ad 6 shR [.ref (ad (0)), .int (nI (f)), .int (nI (t)), .int (nI (w)), .int (x)] μ (fun r u => r = -2 ∧ u = μ) := by
  refine zM_of RX6 [(0, .ref (ad (0))), (1, .int (nI (f))), (2, .int (nI (t))), (3, .int (nI (w))), (4, .int (x))] (zK_ok A D tc tF tL tM) E.1 E.2 owR_ok (by decide +kernel) rfl (Nat.le_of_ble_eq_true rfl) rfl ?_
  intro pP eE sS mM aS bL mT cO X
  obtain ⟨hm, hm2, hc, h8, hk, hk4⟩ := S
  refine zr_aloadn X 0 dX6_plan_0 rfl ?_
  refine zr_iloadn X 1 dX6_plan_1 rfl ?_
  refine zr_dVi (C := RX6) (ci := 6) [.int (nI (f))] [] X (zK_ok A D tc tF tL tM) (c_isFirm_t E μ (hc) h8 (by omega)) k_611 k_613 kp_2 k_7 k_614 hdX6_isFirm ⟨rfl, rfl⟩ ⟨Nat.le_of_ble_eq_true rfl, Nat.le_of_ble_eq_true rfl⟩ (by omega) rfl rfl rfl rfl (Nat.le_of_ble_eq_true rfl) dX6_plan_2 ?_
  refine zr_if_ne X 10 dX6_plan_5 (by decide) (fun _ => ?_) (fun q => absurd q (nI_ne0 (by omega) (by omega)))
  refine zr_iloadn X 2 dX6_plan_10 rfl ?_
  refine zr_dSi [.int (nI (t))] [] X (zK_ok A D tc tF tL tM) (c_isTonnes_t E μ (by omega) (by omega)) k_615 k_616 k_7 k_617 hdX6_isTonnes ⟨rfl, rfl⟩ ⟨Nat.le_of_ble_eq_true rfl, Nat.le_of_ble_eq_true rfl⟩ rfl rfl (Nat.le_of_ble_eq_true rfl) dX6_plan_11 ?_
  refine zr_if_eq X 36 dX6_plan_14 (by decide) (fun q => absurd q (nI_ne0 (by omega) (by omega))) (fun _ => ?_)
  refine zr_iloadn X 3 dX6_plan_17 rfl ?_
  refine zr_iconst X (nI (0)) dX6_plan_18 (by decide +kernel) ?_
  refine zr_iconst X (nI (2)) dX6_plan_19 (by decide +kernel) ?_
  refine zr_dSi [.int (nI (w)), .int (nI (0)), .int (nI (2))] [] X (zK_ok A D tc tF tL tM) (c_in_t E μ (zq_le (by omega) (by omega)) (zq_le (by omega) (by omega))) k_604 k_605 k_7 k_606 hdX6_in ⟨rfl, rfl⟩ ⟨Nat.le_of_ble_eq_true rfl, Nat.le_of_ble_eq_true rfl⟩ rfl rfl (Nat.le_of_ble_eq_true rfl) dX6_plan_20 ?_
  refine zr_if_eq X 36 dX6_plan_23 (by decide) (fun q => absurd q (nI_ne0 (by omega) (by omega))) (fun _ => ?_)
  refine zr_iload X 4 dX6_plan_26 rfl ?_
  refine zr_iconst X (nI (0)) dX6_plan_28 (by decide +kernel) ?_
  refine zr_iconst X (nI (5)) dX6_plan_29 (by decide +kernel) ?_
  refine zr_dSi [.int (x), .int (nI (0)), .int (nI (5))] [] X (zK_ok A D tc tF tL tM) (c_in_f E μ (fun q => hx (zin_of (by omega) q.1 q.2 (by omega)))) k_604 k_605 k_7 k_606 hdX6_in ⟨rfl, rfl⟩ ⟨Nat.le_of_ble_eq_true rfl, Nat.le_of_ble_eq_true rfl⟩ rfl rfl (Nat.le_of_ble_eq_true rfl) dX6_plan_30 ?_
  refine zr_if_ne X 39 dX6_plan_33 (by decide) (fun q => absurd (zq_eq0 (by omega)) q) (fun _ => ?_)
  refine zr_bipush X (-2) dX6_plan_36 (by decide +kernel) ?_
  exact zr_iret X dX6_plan_38 ⟨rfl, rfl⟩

set_option maxHeartbeats 4000000 in
set_option maxRecDepth 100000 in
theorem c_plan_n0 {l : Launch} {D : va_G} {tc : Nat → ClassId} {ad : Nat → Nat} {A : Nat → Prop} {tF tL tM : Nat} (E : zN 6 A ad) (μ : Nat → Int32) {m c k : Nat} (S : refS μ m c k) {f : Nat} (hf : f < c) {t : Nat} (ht1 : 1 ≤ t) (ht9 : t ≤ 9999) {w : Nat} (hw : w ≤ 5) (h : ¬ zlay μ f (nI t) 0 2450 ≤ 0) : zMi l yX6_plan cX6_plan 8 (some .int) (zrm 6) (zK A D tc tF tL tM) A D vwCl tc ad 6 shR [.ref (ad (0)), .int (nI (f)), .int (nI (t)), .int (nI (0)), .int (nI (w))] μ (fun r u => r = -4 ∧ u = zlay μ f (nI t) 0) := by
  refine zM_of RX6 [(0, .ref (ad (0))), (1, .int (nI (f))), (2, .int (nI (t))), (3, .int (nI (0))), (4, .int (nI (w)))] (zK_ok A D tc tF tL tM) E.1 E.2 owR_ok (by decide +kernel) rfl (Nat.le_of_ble_eq_true rfl) rfl ?_
  intro pP eE sS mM aS bL mT cO X
  obtain ⟨hm, hm2, hc, h8, hk, hk4⟩ := S
  refine zr_aloadn X 0 dX6_plan_0 rfl ?_
  refine zr_iloadn X 1 dX6_plan_1 rfl ?_
  refine zr_dVi (C := RX6) (ci := 6) [.int (nI (f))] [] X (zK_ok A D tc tF tL tM) (c_isFirm_t E μ (hc) h8 (by omega)) k_611 k_613 kp_2 k_7 k_614 hdX6_isFirm ⟨rfl, rfl⟩ ⟨Nat.le_of_ble_eq_true rfl, Nat.le_of_ble_eq_true rfl⟩ (by omega) rfl rfl rfl rfl (Nat.le_of_ble_eq_true rfl) dX6_plan_2 ?_
  refine zr_if_ne X 10 dX6_plan_5 (by decide) (fun _ => ?_) (fun q => absurd q (nI_ne0 (by omega) (by omega)))
  refine zr_iloadn X 2 dX6_plan_10 rfl ?_
  refine zr_dSi [.int (nI (t))] [] X (zK_ok A D tc tF tL tM) (c_isTonnes_t E μ (by omega) (by omega)) k_615 k_616 k_7 k_617 hdX6_isTonnes ⟨rfl, rfl⟩ ⟨Nat.le_of_ble_eq_true rfl, Nat.le_of_ble_eq_true rfl⟩ rfl rfl (Nat.le_of_ble_eq_true rfl) dX6_plan_11 ?_
  refine zr_if_eq X 36 dX6_plan_14 (by decide) (fun q => absurd q (nI_ne0 (by omega) (by omega))) (fun _ => ?_)
  refine zr_iloadn X 3 dX6_plan_17 rfl ?_
  refine zr_iconst X (nI (0)) dX6_plan_18 (by decide +kernel) ?_
  refine zr_iconst X (nI (2)) dX6_plan_19 (by decide +kernel) ?_
  refine zr_dSi [.int (nI (0)), .int (nI (0)), .int (nI (2))] [] X (zK_ok A D tc tF tL tM) (c_in_t E μ (zq_le (by omega) (by omega)) (zq_le (by omega) (by omega))) k_604 k_605 k_7 k_606 hdX6_in ⟨rfl, rfl⟩ ⟨Nat.le_of_ble_eq_true rfl, Nat.le_of_ble_eq_true rfl⟩ rfl rfl (Nat.le_of_ble_eq_true rfl) dX6_plan_20 ?_
  refine zr_if_eq X 36 dX6_plan_23 (by decide) (fun q => absurd q (nI_ne0 (by omega) (by omega))) (fun _ => ?_)
  refine zr_iload X 4 dX6_plan_26 rfl ?_
  refine zr_iconst X (nI (0)) dX6_plan_28 (by decide +kernel) ?_
  refine zr_iconst X (nI (5)) dX6_plan_29 (by decide +kernel) ?_
  refine zr_dSi [.int (nI (w)), .int (nI (0)), .int (nI (5))] [] X (zK_ok A D tc tF tL tM) (c_in_t E μ (zq_le (by omega) (by omega)) (zq_le (by omega) (by omega))) k_604 k_605 k_7 k_606 hdX6_in ⟨rfl, rfl⟩ ⟨Nat.le_of_ble_eq_true rfl, Nat.le_of_ble_eq_true rfl⟩ rfl rfl (Nat.le_of_ble_eq_true rfl) dX6_plan_30 ?_
  refine zr_if_ne X 39 dX6_plan_33 (by decide) (fun _ => ?_) (fun q => absurd q (nI_ne0 (by omega) (by omega)))
  refine zr_aloadn X 0 dX6_plan_39 rfl ?_
  refine zr_iloadn X 1 dX6_plan_40 rfl ?_
  refine zr_iloadn X 2 dX6_plan_41 rfl ?_
  refine zr_iloadn X 3 dX6_plan_42 rfl ?_
  refine zr_dVv (C := RX6) (ci := 6) [.int (nI (f)), .int (nI (t)), .int (nI (0))] [] X (zK_ok A D tc tF tL tM) (c_lay0 E μ (f := f) (t := t) (by omega) ht1 ht9) k_664 k_666 kp_6 k_7 k_667 hdX6_lay ⟨rfl, rfl⟩ ⟨Nat.le_of_ble_eq_true rfl, Nat.le_of_ble_eq_true rfl⟩ (by omega) rfl rfl rfl rfl (Nat.le_of_ble_eq_true rfl) dX6_plan_43 ?_
  refine zr_aloadn X 0 dX6_plan_46 rfl ?_
  refine zr_get X (ci := 6) (q := 7) zI (.int ((zlay μ f (nI t) 0) (2450))) dX6_plan_47 (by omega) rfl rfl inX6 (by decide) rfl (congrArg Value.int (rfl)) rfl k_546 ?_
  refine zr_if_le X 56 dX6_plan_50 (by decide) (fun q => absurd q (h)) (fun _ => ?_)
  refine zr_bipush X (-4) dX6_plan_53 (by decide +kernel) ?_
  exact zr_iret X dX6_plan_55 ⟨rfl, rfl⟩

set_option maxHeartbeats 4000000 in
set_option maxRecDepth 100000 in
theorem c_plan_0_0 {l : Launch} {D : va_G} {tc : Nat → ClassId} {ad : Nat → Nat} {A : Nat → Prop} {tF tL tM : Nat} (E : zN 6 A ad) (μ : Nat → Int32) {m c k : Nat} (S : refS μ m c k) {f : Nat} (hf : f < c) {t : Nat} (ht1 : 1 ≤ t) (ht9 : t ≤ 9999) (h : zlay μ f (nI t) 0 2450 ≤ 0) : zMi l yX6_plan cX6_plan 8 (some .int) (zrm 6) (zK A D tc tF tL tM) A D vwCl tc ad 6 shR [.ref (ad (0)), .int (nI (f)), .int (nI (t)), .int (nI (0)), .int (nI (0))] μ (fun r u => r = zsum (fun v => zlay μ f (nI (t)) 0 (v + 2520)) 20 ∧ u = zlay μ f (nI t) 0) := by
  refine zM_of RX6 [(0, .ref (ad (0))), (1, .int (nI (f))), (2, .int (nI (t))), (3, .int (nI (0))), (4, .int (nI (0)))] (zK_ok A D tc tF tL tM) E.1 E.2 owR_ok (by decide +kernel) rfl (Nat.le_of_ble_eq_true rfl) rfl ?_
  intro pP eE sS mM aS bL mT cO X
  obtain ⟨hm, hm2, hc, h8, hk, hk4⟩ := S
  refine zr_aloadn X 0 dX6_plan_0 rfl ?_
  refine zr_iloadn X 1 dX6_plan_1 rfl ?_
  refine zr_dVi (C := RX6) (ci := 6) [.int (nI (f))] [] X (zK_ok A D tc tF tL tM) (c_isFirm_t E μ (hc) h8 (by omega)) k_611 k_613 kp_2 k_7 k_614 hdX6_isFirm ⟨rfl, rfl⟩ ⟨Nat.le_of_ble_eq_true rfl, Nat.le_of_ble_eq_true rfl⟩ (by omega) rfl rfl rfl rfl (Nat.le_of_ble_eq_true rfl) dX6_plan_2 ?_
  refine zr_if_ne X 10 dX6_plan_5 (by decide) (fun _ => ?_) (fun q => absurd q (nI_ne0 (by omega) (by omega)))
  refine zr_iloadn X 2 dX6_plan_10 rfl ?_
  refine zr_dSi [.int (nI (t))] [] X (zK_ok A D tc tF tL tM) (c_isTonnes_t E μ (by omega) (by omega)) k_615 k_616 k_7 k_617 hdX6_isTonnes ⟨rfl, rfl⟩ ⟨Nat.le_of_ble_eq_true rfl, Nat.le_of_ble_eq_true rfl⟩ rfl rfl (Nat.le_of_ble_eq_true rfl) dX6_plan_11 ?_
  refine zr_if_eq X 36 dX6_plan_14 (by decide) (fun q => absurd q (nI_ne0 (by omega) (by omega))) (fun _ => ?_)
  refine zr_iloadn X 3 dX6_plan_17 rfl ?_
  refine zr_iconst X (nI (0)) dX6_plan_18 (by decide +kernel) ?_
  refine zr_iconst X (nI (2)) dX6_plan_19 (by decide +kernel) ?_
  refine zr_dSi [.int (nI (0)), .int (nI (0)), .int (nI (2))] [] X (zK_ok A D tc tF tL tM) (c_in_t E μ (zq_le (by omega) (by omega)) (zq_le (by omega) (by omega))) k_604 k_605 k_7 k_606 hdX6_in ⟨rfl, rfl⟩ ⟨Nat.le_of_ble_eq_true rfl, Nat.le_of_ble_eq_true rfl⟩ rfl rfl (Nat.le_of_ble_eq_true rfl) dX6_plan_20 ?_
  refine zr_if_eq X 36 dX6_plan_23 (by decide) (fun q => absurd q (nI_ne0 (by omega) (by omega))) (fun _ => ?_)
  refine zr_iload X 4 dX6_plan_26 rfl ?_
  refine zr_iconst X (nI (0)) dX6_plan_28 (by decide +kernel) ?_
  refine zr_iconst X (nI (5)) dX6_plan_29 (by decide +kernel) ?_
  refine zr_dSi [.int (nI (0)), .int (nI (0)), .int (nI (5))] [] X (zK_ok A D tc tF tL tM) (c_in_t E μ (zq_le (by omega) (by omega)) (zq_le (by omega) (by omega))) k_604 k_605 k_7 k_606 hdX6_in ⟨rfl, rfl⟩ ⟨Nat.le_of_ble_eq_true rfl, Nat.le_of_ble_eq_true rfl⟩ rfl rfl (Nat.le_of_ble_eq_true rfl) dX6_plan_30 ?_
  refine zr_if_ne X 39 dX6_plan_33 (by decide) (fun _ => ?_) (fun q => absurd q (nI_ne0 (by omega) (by omega)))
  refine zr_aloadn X 0 dX6_plan_39 rfl ?_
  refine zr_iloadn X 1 dX6_plan_40 rfl ?_
  refine zr_iloadn X 2 dX6_plan_41 rfl ?_
  refine zr_iloadn X 3 dX6_plan_42 rfl ?_
  refine zr_dVv (C := RX6) (ci := 6) [.int (nI (f)), .int (nI (t)), .int (nI (0))] [] X (zK_ok A D tc tF tL tM) (c_lay0 E μ (f := f) (t := t) (by omega) ht1 ht9) k_664 k_666 kp_6 k_7 k_667 hdX6_lay ⟨rfl, rfl⟩ ⟨Nat.le_of_ble_eq_true rfl, Nat.le_of_ble_eq_true rfl⟩ (by omega) rfl rfl rfl rfl (Nat.le_of_ble_eq_true rfl) dX6_plan_43 ?_
  refine zr_aloadn X 0 dX6_plan_46 rfl ?_
  refine zr_get X (ci := 6) (q := 7) zI (.int ((zlay μ f (nI t) 0) (2450))) dX6_plan_47 (by omega) rfl rfl inX6 (by decide) rfl (congrArg Value.int (rfl)) rfl k_546 ?_
  refine zr_if_le X 56 dX6_plan_50 (by decide) (fun _ => ?_) (fun q => absurd (h) q)
  refine zr_iconst X (nI (0)) dX6_plan_56 (by decide +kernel) ?_
  refine zr_istore X [1, 2, 3, 4, 5, 0] [(0, .ref (ad (0))), (1, .int (nI (f))), (2, .int (nI (t))), (3, .int (nI (0))), (4, .int (nI (0))), (5, .int (nI (0)))] dX6_plan_57 (by decide) rfl ?_
  refine zr_iconst X (nI (0)) dX6_plan_59 (by decide +kernel) ?_
  refine zr_istore X [1, 2, 3, 4, 5, 6, 0] [(0, .ref (ad (0))), (1, .int (nI (f))), (2, .int (nI (t))), (3, .int (nI (0))), (4, .int (nI (0))), (5, .int (nI (0))), (6, .int (nI (0)))] dX6_plan_60 (by decide) rfl ?_
  refine zr_iconst X (nI (0)) dX6_plan_62 (by decide +kernel) ?_
  refine zr_istore X [1, 2, 3, 4, 5, 6, 7, 0] [(0, .ref (ad (0))), (1, .int (nI (f))), (2, .int (nI (t))), (3, .int (nI (0))), (4, .int (nI (0))), (5, .int (nI (0))), (6, .int (nI (0))), (7, .int (nI (0)))] dX6_plan_63 (by decide) rfl ?_
  refine zr_for X (20) (fun i => (zlay μ f (nI t) 0)) (fun i => [(0, .ref (ad (0))), (1, .int (nI (f))), (2, .int (nI (t))), (3, .int (nI (0))), (4, .int (nI (0))), (5, .int (nI (zcnt (fun v => zlay μ f (nI (t)) 0 (v + 2520)) (i)))), (6, .int (zsum (fun v => zlay μ f (nI (t)) 0 (v + 2520)) (i))), (7, .int (nI (i)))]) [] (rfl) rfl ?_ ?_
  · refine zr_iload X 7 dX6_plan_65 rfl ?_
    refine zr_bipush X (nI (20)) dX6_plan_67 (by decide +kernel) ?_
    refine zr_icmp_ge X 110 dX6_plan_69 (by decide) (fun _ => ?_) (fun q => absurd (zq_le (by omega) (by omega)) q)
    refine zr_iload X 4 dX6_plan_110 rfl ?_
    refine zr_if_ne X 120 dX6_plan_112 (by decide) (fun q => absurd (zq_eq0 (by omega)) q) (fun _ => ?_)
    refine zr_iload X 6 dX6_plan_115 rfl ?_
    refine zr_goto X 153 dX6_plan_117 (by decide) ?_
    exact zr_iret X dX6_plan_153 ⟨rfl, rfl⟩
  · intro i hi ih65
    refine zr_iload X 7 dX6_plan_65 rfl ?_
    refine zr_bipush X (nI (20)) dX6_plan_67 (by decide +kernel) ?_
    refine zr_icmp_ge X 110 dX6_plan_69 (by decide) (fun q => absurd q (nI_ge (by omega) (by omega))) (fun _ => ?_)
    refine zr_iload X 5 dX6_plan_72 rfl ?_
    refine zr_aloadn X 0 dX6_plan_74 rfl ?_
    refine zr_get X (ci := 6) (q := 5) (zR (3)) (.ref (ad (3))) dX6_plan_75 (by omega) rfl rfl inX6 (by decide) rfl (rfl) rfl k_544 ?_
    refine zr_iload X 7 dX6_plan_78 rfl ?_
    refine zr_iald X (j := i) 0 ((zlay μ f (nI t) 0) (i + 2520)) dX6_plan_80 (by omega) rfl rfl rfl (by omega) (by omega) (zcg (b := i + 2520) (by omega) (rfl)) ?_
    refine zr_if_le X 88 dX6_plan_81 (by decide) (fun h81 => ?_) (fun h81 => ?_)
    · refine zr_iconst X (nI (0)) dX6_plan_88 (by decide +kernel) ?_
      refine zr_iadd X (nI (zcnt (fun v => zlay μ f (nI (t)) 0 (v + 2520)) (i))) dX6_plan_89 ((nI_add _ _).trans (congrArg nI (by omega))) ?_
      refine zr_istore X [1, 2, 3, 4, 5, 0, 6, 7] [(0, .ref (ad (0))), (1, .int (nI (f))), (2, .int (nI (t))), (3, .int (nI (0))), (4, .int (nI (0))), (5, .int (nI (zcnt (fun v => zlay μ f (nI (t)) 0 (v + 2520)) (i)))), (6, .int (zsum (fun v => zlay μ f (nI (t)) 0 (v + 2520)) (i))), (7, .int (nI (i)))] dX6_plan_90 (by decide) rfl ?_
      refine zr_iload X 6 dX6_plan_92 rfl ?_
      refine zr_aloadn X 0 dX6_plan_94 rfl ?_
      refine zr_get X (ci := 6) (q := 5) (zR (3)) (.ref (ad (3))) dX6_plan_95 (by omega) rfl rfl inX6 (by decide) rfl (rfl) rfl k_544 ?_
      refine zr_iload X 7 dX6_plan_98 rfl ?_
      refine zr_iald X (j := i) 0 ((zlay μ f (nI t) 0) (i + 2520)) dX6_plan_100 (by omega) rfl rfl rfl (by omega) (by omega) (zcg (b := i + 2520) (by omega) (rfl)) ?_
      refine zr_iadd X ((zsum (fun v => zlay μ f (nI (t)) 0 (v + 2520)) (i)) + ((zlay μ f (nI t) 0) (i + 2520))) dX6_plan_101 rfl ?_
      refine zr_istore X [1, 2, 3, 4, 5, 6, 0, 7] [(0, .ref (ad (0))), (1, .int (nI (f))), (2, .int (nI (t))), (3, .int (nI (0))), (4, .int (nI (0))), (5, .int (nI (zcnt (fun v => zlay μ f (nI (t)) 0 (v + 2520)) (i)))), (6, .int ((zsum (fun v => zlay μ f (nI (t)) 0 (v + 2520)) (i)) + ((zlay μ f (nI t) 0) (i + 2520)))), (7, .int (nI (i)))] dX6_plan_102 (by decide) rfl ?_
      refine zr_iinc X 7 (nI (i + 1)) [1, 2, 3, 4, 5, 6, 7, 0] [(0, .ref (ad (0))), (1, .int (nI (f))), (2, .int (nI (t))), (3, .int (nI (0))), (4, .int (nI (0))), (5, .int (nI (zcnt (fun v => zlay μ f (nI (t)) 0 (v + 2520)) (i)))), (6, .int ((zsum (fun v => zlay μ f (nI (t)) 0 (v + 2520)) (i)) + ((zlay μ f (nI t) 0) (i + 2520)))), (7, .int (nI (i + 1)))] dX6_plan_104 rfl (zinc _) (by decide) rfl ?_
      refine zr_goto X 65 dX6_plan_107 (by decide) ?_
      exact zr_lv X (by simp only [zcnt, Nat.add_zero, if_pos h81]; rfl) ih65
    · refine zr_iconst X (nI (1)) dX6_plan_84 (by decide +kernel) ?_
      refine zr_goto X 89 dX6_plan_85 (by decide) ?_
      refine zr_iadd X (nI (zcnt (fun v => zlay μ f (nI (t)) 0 (v + 2520)) (i) + 1)) dX6_plan_89 (nI_add _ _) ?_
      refine zr_istore X [1, 2, 3, 4, 5, 0, 6, 7] [(0, .ref (ad (0))), (1, .int (nI (f))), (2, .int (nI (t))), (3, .int (nI (0))), (4, .int (nI (0))), (5, .int (nI (zcnt (fun v => zlay μ f (nI (t)) 0 (v + 2520)) (i) + 1))), (6, .int (zsum (fun v => zlay μ f (nI (t)) 0 (v + 2520)) (i))), (7, .int (nI (i)))] dX6_plan_90 (by decide) rfl ?_
      refine zr_iload X 6 dX6_plan_92 rfl ?_
      refine zr_aloadn X 0 dX6_plan_94 rfl ?_
      refine zr_get X (ci := 6) (q := 5) (zR (3)) (.ref (ad (3))) dX6_plan_95 (by omega) rfl rfl inX6 (by decide) rfl (rfl) rfl k_544 ?_
      refine zr_iload X 7 dX6_plan_98 rfl ?_
      refine zr_iald X (j := i) 0 ((zlay μ f (nI t) 0) (i + 2520)) dX6_plan_100 (by omega) rfl rfl rfl (by omega) (by omega) (zcg (b := i + 2520) (by omega) (rfl)) ?_
      refine zr_iadd X ((zsum (fun v => zlay μ f (nI (t)) 0 (v + 2520)) (i)) + ((zlay μ f (nI t) 0) (i + 2520))) dX6_plan_101 rfl ?_
      refine zr_istore X [1, 2, 3, 4, 5, 6, 0, 7] [(0, .ref (ad (0))), (1, .int (nI (f))), (2, .int (nI (t))), (3, .int (nI (0))), (4, .int (nI (0))), (5, .int (nI (zcnt (fun v => zlay μ f (nI (t)) 0 (v + 2520)) (i) + 1))), (6, .int ((zsum (fun v => zlay μ f (nI (t)) 0 (v + 2520)) (i)) + ((zlay μ f (nI t) 0) (i + 2520)))), (7, .int (nI (i)))] dX6_plan_102 (by decide) rfl ?_
      refine zr_iinc X 7 (nI (i + 1)) [1, 2, 3, 4, 5, 6, 7, 0] [(0, .ref (ad (0))), (1, .int (nI (f))), (2, .int (nI (t))), (3, .int (nI (0))), (4, .int (nI (0))), (5, .int (nI (zcnt (fun v => zlay μ f (nI (t)) 0 (v + 2520)) (i) + 1))), (6, .int ((zsum (fun v => zlay μ f (nI (t)) 0 (v + 2520)) (i)) + ((zlay μ f (nI t) 0) (i + 2520)))), (7, .int (nI (i + 1)))] dX6_plan_104 rfl (zinc _) (by decide) rfl ?_
      refine zr_goto X 65 dX6_plan_107 (by decide) ?_
      exact zr_lv X (by simp only [zcnt, Nat.add_zero, if_neg h81]; rfl) ih65

set_option maxHeartbeats 4000000 in
set_option maxRecDepth 100000 in
theorem c_plan_0_1 {l : Launch} {D : va_G} {tc : Nat → ClassId} {ad : Nat → Nat} {A : Nat → Prop} {tF tL tM : Nat} (E : zN 6 A ad) (μ : Nat → Int32) {m c k : Nat} (S : refS μ m c k) {f : Nat} (hf : f < c) {t : Nat} (ht1 : 1 ≤ t) (ht9 : t ≤ 9999) (h : zlay μ f (nI t) 0 2450 ≤ 0) : zMi l yX6_plan cX6_plan 8 (some .int) (zrm 6) (zK A D tc tF tL tM) A D vwCl tc ad 6 shR [.ref (ad (0)), .int (nI (f)), .int (nI (t)), .int (nI (0)), .int (nI (1))] μ (fun r u => r = zlay μ f (nI t) 0 2540 ∧ u = zlay μ f (nI t) 0) := by
  refine zM_of RX6 [(0, .ref (ad (0))), (1, .int (nI (f))), (2, .int (nI (t))), (3, .int (nI (0))), (4, .int (nI (1)))] (zK_ok A D tc tF tL tM) E.1 E.2 owR_ok (by decide +kernel) rfl (Nat.le_of_ble_eq_true rfl) rfl ?_
  intro pP eE sS mM aS bL mT cO X
  obtain ⟨hm, hm2, hc, h8, hk, hk4⟩ := S
  refine zr_aloadn X 0 dX6_plan_0 rfl ?_
  refine zr_iloadn X 1 dX6_plan_1 rfl ?_
  refine zr_dVi (C := RX6) (ci := 6) [.int (nI (f))] [] X (zK_ok A D tc tF tL tM) (c_isFirm_t E μ (hc) h8 (by omega)) k_611 k_613 kp_2 k_7 k_614 hdX6_isFirm ⟨rfl, rfl⟩ ⟨Nat.le_of_ble_eq_true rfl, Nat.le_of_ble_eq_true rfl⟩ (by omega) rfl rfl rfl rfl (Nat.le_of_ble_eq_true rfl) dX6_plan_2 ?_
  refine zr_if_ne X 10 dX6_plan_5 (by decide) (fun _ => ?_) (fun q => absurd q (nI_ne0 (by omega) (by omega)))
  refine zr_iloadn X 2 dX6_plan_10 rfl ?_
  refine zr_dSi [.int (nI (t))] [] X (zK_ok A D tc tF tL tM) (c_isTonnes_t E μ (by omega) (by omega)) k_615 k_616 k_7 k_617 hdX6_isTonnes ⟨rfl, rfl⟩ ⟨Nat.le_of_ble_eq_true rfl, Nat.le_of_ble_eq_true rfl⟩ rfl rfl (Nat.le_of_ble_eq_true rfl) dX6_plan_11 ?_
  refine zr_if_eq X 36 dX6_plan_14 (by decide) (fun q => absurd q (nI_ne0 (by omega) (by omega))) (fun _ => ?_)
  refine zr_iloadn X 3 dX6_plan_17 rfl ?_
  refine zr_iconst X (nI (0)) dX6_plan_18 (by decide +kernel) ?_
  refine zr_iconst X (nI (2)) dX6_plan_19 (by decide +kernel) ?_
  refine zr_dSi [.int (nI (0)), .int (nI (0)), .int (nI (2))] [] X (zK_ok A D tc tF tL tM) (c_in_t E μ (zq_le (by omega) (by omega)) (zq_le (by omega) (by omega))) k_604 k_605 k_7 k_606 hdX6_in ⟨rfl, rfl⟩ ⟨Nat.le_of_ble_eq_true rfl, Nat.le_of_ble_eq_true rfl⟩ rfl rfl (Nat.le_of_ble_eq_true rfl) dX6_plan_20 ?_
  refine zr_if_eq X 36 dX6_plan_23 (by decide) (fun q => absurd q (nI_ne0 (by omega) (by omega))) (fun _ => ?_)
  refine zr_iload X 4 dX6_plan_26 rfl ?_
  refine zr_iconst X (nI (0)) dX6_plan_28 (by decide +kernel) ?_
  refine zr_iconst X (nI (5)) dX6_plan_29 (by decide +kernel) ?_
  refine zr_dSi [.int (nI (1)), .int (nI (0)), .int (nI (5))] [] X (zK_ok A D tc tF tL tM) (c_in_t E μ (zq_le (by omega) (by omega)) (zq_le (by omega) (by omega))) k_604 k_605 k_7 k_606 hdX6_in ⟨rfl, rfl⟩ ⟨Nat.le_of_ble_eq_true rfl, Nat.le_of_ble_eq_true rfl⟩ rfl rfl (Nat.le_of_ble_eq_true rfl) dX6_plan_30 ?_
  refine zr_if_ne X 39 dX6_plan_33 (by decide) (fun _ => ?_) (fun q => absurd q (nI_ne0 (by omega) (by omega)))
  refine zr_aloadn X 0 dX6_plan_39 rfl ?_
  refine zr_iloadn X 1 dX6_plan_40 rfl ?_
  refine zr_iloadn X 2 dX6_plan_41 rfl ?_
  refine zr_iloadn X 3 dX6_plan_42 rfl ?_
  refine zr_dVv (C := RX6) (ci := 6) [.int (nI (f)), .int (nI (t)), .int (nI (0))] [] X (zK_ok A D tc tF tL tM) (c_lay0 E μ (f := f) (t := t) (by omega) ht1 ht9) k_664 k_666 kp_6 k_7 k_667 hdX6_lay ⟨rfl, rfl⟩ ⟨Nat.le_of_ble_eq_true rfl, Nat.le_of_ble_eq_true rfl⟩ (by omega) rfl rfl rfl rfl (Nat.le_of_ble_eq_true rfl) dX6_plan_43 ?_
  refine zr_aloadn X 0 dX6_plan_46 rfl ?_
  refine zr_get X (ci := 6) (q := 7) zI (.int ((zlay μ f (nI t) 0) (2450))) dX6_plan_47 (by omega) rfl rfl inX6 (by decide) rfl (congrArg Value.int (rfl)) rfl k_546 ?_
  refine zr_if_le X 56 dX6_plan_50 (by decide) (fun _ => ?_) (fun q => absurd (h) q)
  refine zr_iconst X (nI (0)) dX6_plan_56 (by decide +kernel) ?_
  refine zr_istore X [1, 2, 3, 4, 5, 0] [(0, .ref (ad (0))), (1, .int (nI (f))), (2, .int (nI (t))), (3, .int (nI (0))), (4, .int (nI (1))), (5, .int (nI (0)))] dX6_plan_57 (by decide) rfl ?_
  refine zr_iconst X (nI (0)) dX6_plan_59 (by decide +kernel) ?_
  refine zr_istore X [1, 2, 3, 4, 5, 6, 0] [(0, .ref (ad (0))), (1, .int (nI (f))), (2, .int (nI (t))), (3, .int (nI (0))), (4, .int (nI (1))), (5, .int (nI (0))), (6, .int (nI (0)))] dX6_plan_60 (by decide) rfl ?_
  refine zr_iconst X (nI (0)) dX6_plan_62 (by decide +kernel) ?_
  refine zr_istore X [1, 2, 3, 4, 5, 6, 7, 0] [(0, .ref (ad (0))), (1, .int (nI (f))), (2, .int (nI (t))), (3, .int (nI (0))), (4, .int (nI (1))), (5, .int (nI (0))), (6, .int (nI (0))), (7, .int (nI (0)))] dX6_plan_63 (by decide) rfl ?_
  refine zr_for X (20) (fun i => (zlay μ f (nI t) 0)) (fun i => [(0, .ref (ad (0))), (1, .int (nI (f))), (2, .int (nI (t))), (3, .int (nI (0))), (4, .int (nI (1))), (5, .int (nI (zcnt (fun v => zlay μ f (nI (t)) 0 (v + 2520)) (i)))), (6, .int (zsum (fun v => zlay μ f (nI (t)) 0 (v + 2520)) (i))), (7, .int (nI (i)))]) [] (rfl) rfl ?_ ?_
  · refine zr_iload X 7 dX6_plan_65 rfl ?_
    refine zr_bipush X (nI (20)) dX6_plan_67 (by decide +kernel) ?_
    refine zr_icmp_ge X 110 dX6_plan_69 (by decide) (fun _ => ?_) (fun q => absurd (zq_le (by omega) (by omega)) q)
    refine zr_iload X 4 dX6_plan_110 rfl ?_
    refine zr_if_ne X 120 dX6_plan_112 (by decide) (fun _ => ?_) (fun q => absurd q (nI_ne0 (by omega) (by omega)))
    refine zr_iload X 4 dX6_plan_120 rfl ?_
    refine zr_iconst X (nI (4)) dX6_plan_122 (by decide +kernel) ?_
    refine zr_icmp_ge X 138 dX6_plan_123 (by decide) (fun q => absurd q (nI_ge (by omega) (by omega))) (fun _ => ?_)
    refine zr_aloadn X 0 dX6_plan_126 rfl ?_
    refine zr_get X (ci := 6) (q := 6) (zR (4)) (.ref (ad (4))) dX6_plan_127 (by omega) rfl rfl inX6 (by decide) rfl (rfl) rfl k_545 ?_
    refine zr_iload X 4 dX6_plan_130 rfl ?_
    refine zr_iconst X (nI (1)) dX6_plan_132 (by decide +kernel) ?_
    refine zr_isub X (nI (0)) dX6_plan_133 ((pk_sub (by omega)).trans (congrArg nI (by omega))) ?_
    refine zr_iald X (j := 0) 0 ((zlay μ f (nI t) 0) (2540)) dX6_plan_134 (by omega) rfl rfl rfl (by omega) (by omega) (zcg (b := 2540) (by omega) (rfl)) ?_
    refine zr_goto X 153 dX6_plan_135 (by decide) ?_
    exact zr_iret X dX6_plan_153 ⟨rfl, rfl⟩
  · intro i hi ih65
    refine zr_iload X 7 dX6_plan_65 rfl ?_
    refine zr_bipush X (nI (20)) dX6_plan_67 (by decide +kernel) ?_
    refine zr_icmp_ge X 110 dX6_plan_69 (by decide) (fun q => absurd q (nI_ge (by omega) (by omega))) (fun _ => ?_)
    refine zr_iload X 5 dX6_plan_72 rfl ?_
    refine zr_aloadn X 0 dX6_plan_74 rfl ?_
    refine zr_get X (ci := 6) (q := 5) (zR (3)) (.ref (ad (3))) dX6_plan_75 (by omega) rfl rfl inX6 (by decide) rfl (rfl) rfl k_544 ?_
    refine zr_iload X 7 dX6_plan_78 rfl ?_
    refine zr_iald X (j := i) 0 ((zlay μ f (nI t) 0) (i + 2520)) dX6_plan_80 (by omega) rfl rfl rfl (by omega) (by omega) (zcg (b := i + 2520) (by omega) (rfl)) ?_
    refine zr_if_le X 88 dX6_plan_81 (by decide) (fun h81 => ?_) (fun h81 => ?_)
    · refine zr_iconst X (nI (0)) dX6_plan_88 (by decide +kernel) ?_
      refine zr_iadd X (nI (zcnt (fun v => zlay μ f (nI (t)) 0 (v + 2520)) (i))) dX6_plan_89 ((nI_add _ _).trans (congrArg nI (by omega))) ?_
      refine zr_istore X [1, 2, 3, 4, 5, 0, 6, 7] [(0, .ref (ad (0))), (1, .int (nI (f))), (2, .int (nI (t))), (3, .int (nI (0))), (4, .int (nI (1))), (5, .int (nI (zcnt (fun v => zlay μ f (nI (t)) 0 (v + 2520)) (i)))), (6, .int (zsum (fun v => zlay μ f (nI (t)) 0 (v + 2520)) (i))), (7, .int (nI (i)))] dX6_plan_90 (by decide) rfl ?_
      refine zr_iload X 6 dX6_plan_92 rfl ?_
      refine zr_aloadn X 0 dX6_plan_94 rfl ?_
      refine zr_get X (ci := 6) (q := 5) (zR (3)) (.ref (ad (3))) dX6_plan_95 (by omega) rfl rfl inX6 (by decide) rfl (rfl) rfl k_544 ?_
      refine zr_iload X 7 dX6_plan_98 rfl ?_
      refine zr_iald X (j := i) 0 ((zlay μ f (nI t) 0) (i + 2520)) dX6_plan_100 (by omega) rfl rfl rfl (by omega) (by omega) (zcg (b := i + 2520) (by omega) (rfl)) ?_
      refine zr_iadd X ((zsum (fun v => zlay μ f (nI (t)) 0 (v + 2520)) (i)) + ((zlay μ f (nI t) 0) (i + 2520))) dX6_plan_101 rfl ?_
      refine zr_istore X [1, 2, 3, 4, 5, 6, 0, 7] [(0, .ref (ad (0))), (1, .int (nI (f))), (2, .int (nI (t))), (3, .int (nI (0))), (4, .int (nI (1))), (5, .int (nI (zcnt (fun v => zlay μ f (nI (t)) 0 (v + 2520)) (i)))), (6, .int ((zsum (fun v => zlay μ f (nI (t)) 0 (v + 2520)) (i)) + ((zlay μ f (nI t) 0) (i + 2520)))), (7, .int (nI (i)))] dX6_plan_102 (by decide) rfl ?_
      refine zr_iinc X 7 (nI (i + 1)) [1, 2, 3, 4, 5, 6, 7, 0] [(0, .ref (ad (0))), (1, .int (nI (f))), (2, .int (nI (t))), (3, .int (nI (0))), (4, .int (nI (1))), (5, .int (nI (zcnt (fun v => zlay μ f (nI (t)) 0 (v + 2520)) (i)))), (6, .int ((zsum (fun v => zlay μ f (nI (t)) 0 (v + 2520)) (i)) + ((zlay μ f (nI t) 0) (i + 2520)))), (7, .int (nI (i + 1)))] dX6_plan_104 rfl (zinc _) (by decide) rfl ?_
      refine zr_goto X 65 dX6_plan_107 (by decide) ?_
      exact zr_lv X (by simp only [zcnt, Nat.add_zero, if_pos h81]; rfl) ih65
    · refine zr_iconst X (nI (1)) dX6_plan_84 (by decide +kernel) ?_
      refine zr_goto X 89 dX6_plan_85 (by decide) ?_
      refine zr_iadd X (nI (zcnt (fun v => zlay μ f (nI (t)) 0 (v + 2520)) (i) + 1)) dX6_plan_89 (nI_add _ _) ?_
      refine zr_istore X [1, 2, 3, 4, 5, 0, 6, 7] [(0, .ref (ad (0))), (1, .int (nI (f))), (2, .int (nI (t))), (3, .int (nI (0))), (4, .int (nI (1))), (5, .int (nI (zcnt (fun v => zlay μ f (nI (t)) 0 (v + 2520)) (i) + 1))), (6, .int (zsum (fun v => zlay μ f (nI (t)) 0 (v + 2520)) (i))), (7, .int (nI (i)))] dX6_plan_90 (by decide) rfl ?_
      refine zr_iload X 6 dX6_plan_92 rfl ?_
      refine zr_aloadn X 0 dX6_plan_94 rfl ?_
      refine zr_get X (ci := 6) (q := 5) (zR (3)) (.ref (ad (3))) dX6_plan_95 (by omega) rfl rfl inX6 (by decide) rfl (rfl) rfl k_544 ?_
      refine zr_iload X 7 dX6_plan_98 rfl ?_
      refine zr_iald X (j := i) 0 ((zlay μ f (nI t) 0) (i + 2520)) dX6_plan_100 (by omega) rfl rfl rfl (by omega) (by omega) (zcg (b := i + 2520) (by omega) (rfl)) ?_
      refine zr_iadd X ((zsum (fun v => zlay μ f (nI (t)) 0 (v + 2520)) (i)) + ((zlay μ f (nI t) 0) (i + 2520))) dX6_plan_101 rfl ?_
      refine zr_istore X [1, 2, 3, 4, 5, 6, 0, 7] [(0, .ref (ad (0))), (1, .int (nI (f))), (2, .int (nI (t))), (3, .int (nI (0))), (4, .int (nI (1))), (5, .int (nI (zcnt (fun v => zlay μ f (nI (t)) 0 (v + 2520)) (i) + 1))), (6, .int ((zsum (fun v => zlay μ f (nI (t)) 0 (v + 2520)) (i)) + ((zlay μ f (nI t) 0) (i + 2520)))), (7, .int (nI (i)))] dX6_plan_102 (by decide) rfl ?_
      refine zr_iinc X 7 (nI (i + 1)) [1, 2, 3, 4, 5, 6, 7, 0] [(0, .ref (ad (0))), (1, .int (nI (f))), (2, .int (nI (t))), (3, .int (nI (0))), (4, .int (nI (1))), (5, .int (nI (zcnt (fun v => zlay μ f (nI (t)) 0 (v + 2520)) (i) + 1))), (6, .int ((zsum (fun v => zlay μ f (nI (t)) 0 (v + 2520)) (i)) + ((zlay μ f (nI t) 0) (i + 2520)))), (7, .int (nI (i + 1)))] dX6_plan_104 rfl (zinc _) (by decide) rfl ?_
      refine zr_goto X 65 dX6_plan_107 (by decide) ?_
      exact zr_lv X (by simp only [zcnt, Nat.add_zero, if_neg h81]; rfl) ih65

set_option maxHeartbeats 4000000 in
set_option maxRecDepth 100000 in
theorem c_plan_0_2 {l : Launch} {D : va_G} {tc : Nat → ClassId} {ad : Nat → Nat} {A : Nat → Prop} {tF tL tM : Nat} (E : zN 6 A ad) (μ : Nat → Int32) {m c k : Nat} (S : refS μ m c k) {f : Nat} (hf : f < c) {t : Nat} (ht1 : 1 ≤ t) (ht9 : t ≤ 9999) (h : zlay μ f (nI t) 0 2450 ≤ 0) : zMi l yX6_plan cX6_plan 8 (some .int) (zrm 6) (zK A D tc tF tL tM) A D vwCl tc ad 6 shR [.ref (ad (0)), .int (nI (f)), .int (nI (t)), .int (nI (0)), .int (nI (2))] μ (fun r u => r = zlay μ f (nI t) 0 2541 ∧ u = zlay μ f (nI t) 0) := by
  refine zM_of RX6 [(0, .ref (ad (0))), (1, .int (nI (f))), (2, .int (nI (t))), (3, .int (nI (0))), (4, .int (nI (2)))] (zK_ok A D tc tF tL tM) E.1 E.2 owR_ok (by decide +kernel) rfl (Nat.le_of_ble_eq_true rfl) rfl ?_
  intro pP eE sS mM aS bL mT cO X
  obtain ⟨hm, hm2, hc, h8, hk, hk4⟩ := S
  refine zr_aloadn X 0 dX6_plan_0 rfl ?_
  refine zr_iloadn X 1 dX6_plan_1 rfl ?_
  refine zr_dVi (C := RX6) (ci := 6) [.int (nI (f))] [] X (zK_ok A D tc tF tL tM) (c_isFirm_t E μ (hc) h8 (by omega)) k_611 k_613 kp_2 k_7 k_614 hdX6_isFirm ⟨rfl, rfl⟩ ⟨Nat.le_of_ble_eq_true rfl, Nat.le_of_ble_eq_true rfl⟩ (by omega) rfl rfl rfl rfl (Nat.le_of_ble_eq_true rfl) dX6_plan_2 ?_
  refine zr_if_ne X 10 dX6_plan_5 (by decide) (fun _ => ?_) (fun q => absurd q (nI_ne0 (by omega) (by omega)))
  refine zr_iloadn X 2 dX6_plan_10 rfl ?_
  refine zr_dSi [.int (nI (t))] [] X (zK_ok A D tc tF tL tM) (c_isTonnes_t E μ (by omega) (by omega)) k_615 k_616 k_7 k_617 hdX6_isTonnes ⟨rfl, rfl⟩ ⟨Nat.le_of_ble_eq_true rfl, Nat.le_of_ble_eq_true rfl⟩ rfl rfl (Nat.le_of_ble_eq_true rfl) dX6_plan_11 ?_
  refine zr_if_eq X 36 dX6_plan_14 (by decide) (fun q => absurd q (nI_ne0 (by omega) (by omega))) (fun _ => ?_)
  refine zr_iloadn X 3 dX6_plan_17 rfl ?_
  refine zr_iconst X (nI (0)) dX6_plan_18 (by decide +kernel) ?_
  refine zr_iconst X (nI (2)) dX6_plan_19 (by decide +kernel) ?_
  refine zr_dSi [.int (nI (0)), .int (nI (0)), .int (nI (2))] [] X (zK_ok A D tc tF tL tM) (c_in_t E μ (zq_le (by omega) (by omega)) (zq_le (by omega) (by omega))) k_604 k_605 k_7 k_606 hdX6_in ⟨rfl, rfl⟩ ⟨Nat.le_of_ble_eq_true rfl, Nat.le_of_ble_eq_true rfl⟩ rfl rfl (Nat.le_of_ble_eq_true rfl) dX6_plan_20 ?_
  refine zr_if_eq X 36 dX6_plan_23 (by decide) (fun q => absurd q (nI_ne0 (by omega) (by omega))) (fun _ => ?_)
  refine zr_iload X 4 dX6_plan_26 rfl ?_
  refine zr_iconst X (nI (0)) dX6_plan_28 (by decide +kernel) ?_
  refine zr_iconst X (nI (5)) dX6_plan_29 (by decide +kernel) ?_
  refine zr_dSi [.int (nI (2)), .int (nI (0)), .int (nI (5))] [] X (zK_ok A D tc tF tL tM) (c_in_t E μ (zq_le (by omega) (by omega)) (zq_le (by omega) (by omega))) k_604 k_605 k_7 k_606 hdX6_in ⟨rfl, rfl⟩ ⟨Nat.le_of_ble_eq_true rfl, Nat.le_of_ble_eq_true rfl⟩ rfl rfl (Nat.le_of_ble_eq_true rfl) dX6_plan_30 ?_
  refine zr_if_ne X 39 dX6_plan_33 (by decide) (fun _ => ?_) (fun q => absurd q (nI_ne0 (by omega) (by omega)))
  refine zr_aloadn X 0 dX6_plan_39 rfl ?_
  refine zr_iloadn X 1 dX6_plan_40 rfl ?_
  refine zr_iloadn X 2 dX6_plan_41 rfl ?_
  refine zr_iloadn X 3 dX6_plan_42 rfl ?_
  refine zr_dVv (C := RX6) (ci := 6) [.int (nI (f)), .int (nI (t)), .int (nI (0))] [] X (zK_ok A D tc tF tL tM) (c_lay0 E μ (f := f) (t := t) (by omega) ht1 ht9) k_664 k_666 kp_6 k_7 k_667 hdX6_lay ⟨rfl, rfl⟩ ⟨Nat.le_of_ble_eq_true rfl, Nat.le_of_ble_eq_true rfl⟩ (by omega) rfl rfl rfl rfl (Nat.le_of_ble_eq_true rfl) dX6_plan_43 ?_
  refine zr_aloadn X 0 dX6_plan_46 rfl ?_
  refine zr_get X (ci := 6) (q := 7) zI (.int ((zlay μ f (nI t) 0) (2450))) dX6_plan_47 (by omega) rfl rfl inX6 (by decide) rfl (congrArg Value.int (rfl)) rfl k_546 ?_
  refine zr_if_le X 56 dX6_plan_50 (by decide) (fun _ => ?_) (fun q => absurd (h) q)
  refine zr_iconst X (nI (0)) dX6_plan_56 (by decide +kernel) ?_
  refine zr_istore X [1, 2, 3, 4, 5, 0] [(0, .ref (ad (0))), (1, .int (nI (f))), (2, .int (nI (t))), (3, .int (nI (0))), (4, .int (nI (2))), (5, .int (nI (0)))] dX6_plan_57 (by decide) rfl ?_
  refine zr_iconst X (nI (0)) dX6_plan_59 (by decide +kernel) ?_
  refine zr_istore X [1, 2, 3, 4, 5, 6, 0] [(0, .ref (ad (0))), (1, .int (nI (f))), (2, .int (nI (t))), (3, .int (nI (0))), (4, .int (nI (2))), (5, .int (nI (0))), (6, .int (nI (0)))] dX6_plan_60 (by decide) rfl ?_
  refine zr_iconst X (nI (0)) dX6_plan_62 (by decide +kernel) ?_
  refine zr_istore X [1, 2, 3, 4, 5, 6, 7, 0] [(0, .ref (ad (0))), (1, .int (nI (f))), (2, .int (nI (t))), (3, .int (nI (0))), (4, .int (nI (2))), (5, .int (nI (0))), (6, .int (nI (0))), (7, .int (nI (0)))] dX6_plan_63 (by decide) rfl ?_
  refine zr_for X (20) (fun i => (zlay μ f (nI t) 0)) (fun i => [(0, .ref (ad (0))), (1, .int (nI (f))), (2, .int (nI (t))), (3, .int (nI (0))), (4, .int (nI (2))), (5, .int (nI (zcnt (fun v => zlay μ f (nI (t)) 0 (v + 2520)) (i)))), (6, .int (zsum (fun v => zlay μ f (nI (t)) 0 (v + 2520)) (i))), (7, .int (nI (i)))]) [] (rfl) rfl ?_ ?_
  · refine zr_iload X 7 dX6_plan_65 rfl ?_
    refine zr_bipush X (nI (20)) dX6_plan_67 (by decide +kernel) ?_
    refine zr_icmp_ge X 110 dX6_plan_69 (by decide) (fun _ => ?_) (fun q => absurd (zq_le (by omega) (by omega)) q)
    refine zr_iload X 4 dX6_plan_110 rfl ?_
    refine zr_if_ne X 120 dX6_plan_112 (by decide) (fun _ => ?_) (fun q => absurd q (nI_ne0 (by omega) (by omega)))
    refine zr_iload X 4 dX6_plan_120 rfl ?_
    refine zr_iconst X (nI (4)) dX6_plan_122 (by decide +kernel) ?_
    refine zr_icmp_ge X 138 dX6_plan_123 (by decide) (fun q => absurd q (nI_ge (by omega) (by omega))) (fun _ => ?_)
    refine zr_aloadn X 0 dX6_plan_126 rfl ?_
    refine zr_get X (ci := 6) (q := 6) (zR (4)) (.ref (ad (4))) dX6_plan_127 (by omega) rfl rfl inX6 (by decide) rfl (rfl) rfl k_545 ?_
    refine zr_iload X 4 dX6_plan_130 rfl ?_
    refine zr_iconst X (nI (1)) dX6_plan_132 (by decide +kernel) ?_
    refine zr_isub X (nI (1)) dX6_plan_133 ((pk_sub (by omega)).trans (congrArg nI (by omega))) ?_
    refine zr_iald X (j := 1) 0 ((zlay μ f (nI t) 0) (2541)) dX6_plan_134 (by omega) rfl rfl rfl (by omega) (by omega) (zcg (b := 2541) (by omega) (rfl)) ?_
    refine zr_goto X 153 dX6_plan_135 (by decide) ?_
    exact zr_iret X dX6_plan_153 ⟨rfl, rfl⟩
  · intro i hi ih65
    refine zr_iload X 7 dX6_plan_65 rfl ?_
    refine zr_bipush X (nI (20)) dX6_plan_67 (by decide +kernel) ?_
    refine zr_icmp_ge X 110 dX6_plan_69 (by decide) (fun q => absurd q (nI_ge (by omega) (by omega))) (fun _ => ?_)
    refine zr_iload X 5 dX6_plan_72 rfl ?_
    refine zr_aloadn X 0 dX6_plan_74 rfl ?_
    refine zr_get X (ci := 6) (q := 5) (zR (3)) (.ref (ad (3))) dX6_plan_75 (by omega) rfl rfl inX6 (by decide) rfl (rfl) rfl k_544 ?_
    refine zr_iload X 7 dX6_plan_78 rfl ?_
    refine zr_iald X (j := i) 0 ((zlay μ f (nI t) 0) (i + 2520)) dX6_plan_80 (by omega) rfl rfl rfl (by omega) (by omega) (zcg (b := i + 2520) (by omega) (rfl)) ?_
    refine zr_if_le X 88 dX6_plan_81 (by decide) (fun h81 => ?_) (fun h81 => ?_)
    · refine zr_iconst X (nI (0)) dX6_plan_88 (by decide +kernel) ?_
      refine zr_iadd X (nI (zcnt (fun v => zlay μ f (nI (t)) 0 (v + 2520)) (i))) dX6_plan_89 ((nI_add _ _).trans (congrArg nI (by omega))) ?_
      refine zr_istore X [1, 2, 3, 4, 5, 0, 6, 7] [(0, .ref (ad (0))), (1, .int (nI (f))), (2, .int (nI (t))), (3, .int (nI (0))), (4, .int (nI (2))), (5, .int (nI (zcnt (fun v => zlay μ f (nI (t)) 0 (v + 2520)) (i)))), (6, .int (zsum (fun v => zlay μ f (nI (t)) 0 (v + 2520)) (i))), (7, .int (nI (i)))] dX6_plan_90 (by decide) rfl ?_
      refine zr_iload X 6 dX6_plan_92 rfl ?_
      refine zr_aloadn X 0 dX6_plan_94 rfl ?_
      refine zr_get X (ci := 6) (q := 5) (zR (3)) (.ref (ad (3))) dX6_plan_95 (by omega) rfl rfl inX6 (by decide) rfl (rfl) rfl k_544 ?_
      refine zr_iload X 7 dX6_plan_98 rfl ?_
      refine zr_iald X (j := i) 0 ((zlay μ f (nI t) 0) (i + 2520)) dX6_plan_100 (by omega) rfl rfl rfl (by omega) (by omega) (zcg (b := i + 2520) (by omega) (rfl)) ?_
      refine zr_iadd X ((zsum (fun v => zlay μ f (nI (t)) 0 (v + 2520)) (i)) + ((zlay μ f (nI t) 0) (i + 2520))) dX6_plan_101 rfl ?_
      refine zr_istore X [1, 2, 3, 4, 5, 6, 0, 7] [(0, .ref (ad (0))), (1, .int (nI (f))), (2, .int (nI (t))), (3, .int (nI (0))), (4, .int (nI (2))), (5, .int (nI (zcnt (fun v => zlay μ f (nI (t)) 0 (v + 2520)) (i)))), (6, .int ((zsum (fun v => zlay μ f (nI (t)) 0 (v + 2520)) (i)) + ((zlay μ f (nI t) 0) (i + 2520)))), (7, .int (nI (i)))] dX6_plan_102 (by decide) rfl ?_
      refine zr_iinc X 7 (nI (i + 1)) [1, 2, 3, 4, 5, 6, 7, 0] [(0, .ref (ad (0))), (1, .int (nI (f))), (2, .int (nI (t))), (3, .int (nI (0))), (4, .int (nI (2))), (5, .int (nI (zcnt (fun v => zlay μ f (nI (t)) 0 (v + 2520)) (i)))), (6, .int ((zsum (fun v => zlay μ f (nI (t)) 0 (v + 2520)) (i)) + ((zlay μ f (nI t) 0) (i + 2520)))), (7, .int (nI (i + 1)))] dX6_plan_104 rfl (zinc _) (by decide) rfl ?_
      refine zr_goto X 65 dX6_plan_107 (by decide) ?_
      exact zr_lv X (by simp only [zcnt, Nat.add_zero, if_pos h81]; rfl) ih65
    · refine zr_iconst X (nI (1)) dX6_plan_84 (by decide +kernel) ?_
      refine zr_goto X 89 dX6_plan_85 (by decide) ?_
      refine zr_iadd X (nI (zcnt (fun v => zlay μ f (nI (t)) 0 (v + 2520)) (i) + 1)) dX6_plan_89 (nI_add _ _) ?_
      refine zr_istore X [1, 2, 3, 4, 5, 0, 6, 7] [(0, .ref (ad (0))), (1, .int (nI (f))), (2, .int (nI (t))), (3, .int (nI (0))), (4, .int (nI (2))), (5, .int (nI (zcnt (fun v => zlay μ f (nI (t)) 0 (v + 2520)) (i) + 1))), (6, .int (zsum (fun v => zlay μ f (nI (t)) 0 (v + 2520)) (i))), (7, .int (nI (i)))] dX6_plan_90 (by decide) rfl ?_
      refine zr_iload X 6 dX6_plan_92 rfl ?_
      refine zr_aloadn X 0 dX6_plan_94 rfl ?_
      refine zr_get X (ci := 6) (q := 5) (zR (3)) (.ref (ad (3))) dX6_plan_95 (by omega) rfl rfl inX6 (by decide) rfl (rfl) rfl k_544 ?_
      refine zr_iload X 7 dX6_plan_98 rfl ?_
      refine zr_iald X (j := i) 0 ((zlay μ f (nI t) 0) (i + 2520)) dX6_plan_100 (by omega) rfl rfl rfl (by omega) (by omega) (zcg (b := i + 2520) (by omega) (rfl)) ?_
      refine zr_iadd X ((zsum (fun v => zlay μ f (nI (t)) 0 (v + 2520)) (i)) + ((zlay μ f (nI t) 0) (i + 2520))) dX6_plan_101 rfl ?_
      refine zr_istore X [1, 2, 3, 4, 5, 6, 0, 7] [(0, .ref (ad (0))), (1, .int (nI (f))), (2, .int (nI (t))), (3, .int (nI (0))), (4, .int (nI (2))), (5, .int (nI (zcnt (fun v => zlay μ f (nI (t)) 0 (v + 2520)) (i) + 1))), (6, .int ((zsum (fun v => zlay μ f (nI (t)) 0 (v + 2520)) (i)) + ((zlay μ f (nI t) 0) (i + 2520)))), (7, .int (nI (i)))] dX6_plan_102 (by decide) rfl ?_
      refine zr_iinc X 7 (nI (i + 1)) [1, 2, 3, 4, 5, 6, 7, 0] [(0, .ref (ad (0))), (1, .int (nI (f))), (2, .int (nI (t))), (3, .int (nI (0))), (4, .int (nI (2))), (5, .int (nI (zcnt (fun v => zlay μ f (nI (t)) 0 (v + 2520)) (i) + 1))), (6, .int ((zsum (fun v => zlay μ f (nI (t)) 0 (v + 2520)) (i)) + ((zlay μ f (nI t) 0) (i + 2520)))), (7, .int (nI (i + 1)))] dX6_plan_104 rfl (zinc _) (by decide) rfl ?_
      refine zr_goto X 65 dX6_plan_107 (by decide) ?_
      exact zr_lv X (by simp only [zcnt, Nat.add_zero, if_neg h81]; rfl) ih65

set_option maxHeartbeats 4000000 in
set_option maxRecDepth 100000 in
theorem c_plan_0_3 {l : Launch} {D : va_G} {tc : Nat → ClassId} {ad : Nat → Nat} {A : Nat → Prop} {tF tL tM : Nat} (E : zN 6 A ad) (μ : Nat → Int32) {m c k : Nat} (S : refS μ m c k) {f : Nat} (hf : f < c) {t : Nat} (ht1 : 1 ≤ t) (ht9 : t ≤ 9999) (h : zlay μ f (nI t) 0 2450 ≤ 0) : zMi l yX6_plan cX6_plan 8 (some .int) (zrm 6) (zK A D tc tF tL tM) A D vwCl tc ad 6 shR [.ref (ad (0)), .int (nI (f)), .int (nI (t)), .int (nI (0)), .int (nI (3))] μ (fun r u => r = zlay μ f (nI t) 0 2542 ∧ u = zlay μ f (nI t) 0) := by
  refine zM_of RX6 [(0, .ref (ad (0))), (1, .int (nI (f))), (2, .int (nI (t))), (3, .int (nI (0))), (4, .int (nI (3)))] (zK_ok A D tc tF tL tM) E.1 E.2 owR_ok (by decide +kernel) rfl (Nat.le_of_ble_eq_true rfl) rfl ?_
  intro pP eE sS mM aS bL mT cO X
  obtain ⟨hm, hm2, hc, h8, hk, hk4⟩ := S
  refine zr_aloadn X 0 dX6_plan_0 rfl ?_
  refine zr_iloadn X 1 dX6_plan_1 rfl ?_
  refine zr_dVi (C := RX6) (ci := 6) [.int (nI (f))] [] X (zK_ok A D tc tF tL tM) (c_isFirm_t E μ (hc) h8 (by omega)) k_611 k_613 kp_2 k_7 k_614 hdX6_isFirm ⟨rfl, rfl⟩ ⟨Nat.le_of_ble_eq_true rfl, Nat.le_of_ble_eq_true rfl⟩ (by omega) rfl rfl rfl rfl (Nat.le_of_ble_eq_true rfl) dX6_plan_2 ?_
  refine zr_if_ne X 10 dX6_plan_5 (by decide) (fun _ => ?_) (fun q => absurd q (nI_ne0 (by omega) (by omega)))
  refine zr_iloadn X 2 dX6_plan_10 rfl ?_
  refine zr_dSi [.int (nI (t))] [] X (zK_ok A D tc tF tL tM) (c_isTonnes_t E μ (by omega) (by omega)) k_615 k_616 k_7 k_617 hdX6_isTonnes ⟨rfl, rfl⟩ ⟨Nat.le_of_ble_eq_true rfl, Nat.le_of_ble_eq_true rfl⟩ rfl rfl (Nat.le_of_ble_eq_true rfl) dX6_plan_11 ?_
  refine zr_if_eq X 36 dX6_plan_14 (by decide) (fun q => absurd q (nI_ne0 (by omega) (by omega))) (fun _ => ?_)
  refine zr_iloadn X 3 dX6_plan_17 rfl ?_
  refine zr_iconst X (nI (0)) dX6_plan_18 (by decide +kernel) ?_
  refine zr_iconst X (nI (2)) dX6_plan_19 (by decide +kernel) ?_
  refine zr_dSi [.int (nI (0)), .int (nI (0)), .int (nI (2))] [] X (zK_ok A D tc tF tL tM) (c_in_t E μ (zq_le (by omega) (by omega)) (zq_le (by omega) (by omega))) k_604 k_605 k_7 k_606 hdX6_in ⟨rfl, rfl⟩ ⟨Nat.le_of_ble_eq_true rfl, Nat.le_of_ble_eq_true rfl⟩ rfl rfl (Nat.le_of_ble_eq_true rfl) dX6_plan_20 ?_
  refine zr_if_eq X 36 dX6_plan_23 (by decide) (fun q => absurd q (nI_ne0 (by omega) (by omega))) (fun _ => ?_)
  refine zr_iload X 4 dX6_plan_26 rfl ?_
  refine zr_iconst X (nI (0)) dX6_plan_28 (by decide +kernel) ?_
  refine zr_iconst X (nI (5)) dX6_plan_29 (by decide +kernel) ?_
  refine zr_dSi [.int (nI (3)), .int (nI (0)), .int (nI (5))] [] X (zK_ok A D tc tF tL tM) (c_in_t E μ (zq_le (by omega) (by omega)) (zq_le (by omega) (by omega))) k_604 k_605 k_7 k_606 hdX6_in ⟨rfl, rfl⟩ ⟨Nat.le_of_ble_eq_true rfl, Nat.le_of_ble_eq_true rfl⟩ rfl rfl (Nat.le_of_ble_eq_true rfl) dX6_plan_30 ?_
  refine zr_if_ne X 39 dX6_plan_33 (by decide) (fun _ => ?_) (fun q => absurd q (nI_ne0 (by omega) (by omega)))
  refine zr_aloadn X 0 dX6_plan_39 rfl ?_
  refine zr_iloadn X 1 dX6_plan_40 rfl ?_
  refine zr_iloadn X 2 dX6_plan_41 rfl ?_
  refine zr_iloadn X 3 dX6_plan_42 rfl ?_
  refine zr_dVv (C := RX6) (ci := 6) [.int (nI (f)), .int (nI (t)), .int (nI (0))] [] X (zK_ok A D tc tF tL tM) (c_lay0 E μ (f := f) (t := t) (by omega) ht1 ht9) k_664 k_666 kp_6 k_7 k_667 hdX6_lay ⟨rfl, rfl⟩ ⟨Nat.le_of_ble_eq_true rfl, Nat.le_of_ble_eq_true rfl⟩ (by omega) rfl rfl rfl rfl (Nat.le_of_ble_eq_true rfl) dX6_plan_43 ?_
  refine zr_aloadn X 0 dX6_plan_46 rfl ?_
  refine zr_get X (ci := 6) (q := 7) zI (.int ((zlay μ f (nI t) 0) (2450))) dX6_plan_47 (by omega) rfl rfl inX6 (by decide) rfl (congrArg Value.int (rfl)) rfl k_546 ?_
  refine zr_if_le X 56 dX6_plan_50 (by decide) (fun _ => ?_) (fun q => absurd (h) q)
  refine zr_iconst X (nI (0)) dX6_plan_56 (by decide +kernel) ?_
  refine zr_istore X [1, 2, 3, 4, 5, 0] [(0, .ref (ad (0))), (1, .int (nI (f))), (2, .int (nI (t))), (3, .int (nI (0))), (4, .int (nI (3))), (5, .int (nI (0)))] dX6_plan_57 (by decide) rfl ?_
  refine zr_iconst X (nI (0)) dX6_plan_59 (by decide +kernel) ?_
  refine zr_istore X [1, 2, 3, 4, 5, 6, 0] [(0, .ref (ad (0))), (1, .int (nI (f))), (2, .int (nI (t))), (3, .int (nI (0))), (4, .int (nI (3))), (5, .int (nI (0))), (6, .int (nI (0)))] dX6_plan_60 (by decide) rfl ?_
  refine zr_iconst X (nI (0)) dX6_plan_62 (by decide +kernel) ?_
  refine zr_istore X [1, 2, 3, 4, 5, 6, 7, 0] [(0, .ref (ad (0))), (1, .int (nI (f))), (2, .int (nI (t))), (3, .int (nI (0))), (4, .int (nI (3))), (5, .int (nI (0))), (6, .int (nI (0))), (7, .int (nI (0)))] dX6_plan_63 (by decide) rfl ?_
  refine zr_for X (20) (fun i => (zlay μ f (nI t) 0)) (fun i => [(0, .ref (ad (0))), (1, .int (nI (f))), (2, .int (nI (t))), (3, .int (nI (0))), (4, .int (nI (3))), (5, .int (nI (zcnt (fun v => zlay μ f (nI (t)) 0 (v + 2520)) (i)))), (6, .int (zsum (fun v => zlay μ f (nI (t)) 0 (v + 2520)) (i))), (7, .int (nI (i)))]) [] (rfl) rfl ?_ ?_
  · refine zr_iload X 7 dX6_plan_65 rfl ?_
    refine zr_bipush X (nI (20)) dX6_plan_67 (by decide +kernel) ?_
    refine zr_icmp_ge X 110 dX6_plan_69 (by decide) (fun _ => ?_) (fun q => absurd (zq_le (by omega) (by omega)) q)
    refine zr_iload X 4 dX6_plan_110 rfl ?_
    refine zr_if_ne X 120 dX6_plan_112 (by decide) (fun _ => ?_) (fun q => absurd q (nI_ne0 (by omega) (by omega)))
    refine zr_iload X 4 dX6_plan_120 rfl ?_
    refine zr_iconst X (nI (4)) dX6_plan_122 (by decide +kernel) ?_
    refine zr_icmp_ge X 138 dX6_plan_123 (by decide) (fun q => absurd q (nI_ge (by omega) (by omega))) (fun _ => ?_)
    refine zr_aloadn X 0 dX6_plan_126 rfl ?_
    refine zr_get X (ci := 6) (q := 6) (zR (4)) (.ref (ad (4))) dX6_plan_127 (by omega) rfl rfl inX6 (by decide) rfl (rfl) rfl k_545 ?_
    refine zr_iload X 4 dX6_plan_130 rfl ?_
    refine zr_iconst X (nI (1)) dX6_plan_132 (by decide +kernel) ?_
    refine zr_isub X (nI (2)) dX6_plan_133 ((pk_sub (by omega)).trans (congrArg nI (by omega))) ?_
    refine zr_iald X (j := 2) 0 ((zlay μ f (nI t) 0) (2542)) dX6_plan_134 (by omega) rfl rfl rfl (by omega) (by omega) (zcg (b := 2542) (by omega) (rfl)) ?_
    refine zr_goto X 153 dX6_plan_135 (by decide) ?_
    exact zr_iret X dX6_plan_153 ⟨rfl, rfl⟩
  · intro i hi ih65
    refine zr_iload X 7 dX6_plan_65 rfl ?_
    refine zr_bipush X (nI (20)) dX6_plan_67 (by decide +kernel) ?_
    refine zr_icmp_ge X 110 dX6_plan_69 (by decide) (fun q => absurd q (nI_ge (by omega) (by omega))) (fun _ => ?_)
    refine zr_iload X 5 dX6_plan_72 rfl ?_
    refine zr_aloadn X 0 dX6_plan_74 rfl ?_
    refine zr_get X (ci := 6) (q := 5) (zR (3)) (.ref (ad (3))) dX6_plan_75 (by omega) rfl rfl inX6 (by decide) rfl (rfl) rfl k_544 ?_
    refine zr_iload X 7 dX6_plan_78 rfl ?_
    refine zr_iald X (j := i) 0 ((zlay μ f (nI t) 0) (i + 2520)) dX6_plan_80 (by omega) rfl rfl rfl (by omega) (by omega) (zcg (b := i + 2520) (by omega) (rfl)) ?_
    refine zr_if_le X 88 dX6_plan_81 (by decide) (fun h81 => ?_) (fun h81 => ?_)
    · refine zr_iconst X (nI (0)) dX6_plan_88 (by decide +kernel) ?_
      refine zr_iadd X (nI (zcnt (fun v => zlay μ f (nI (t)) 0 (v + 2520)) (i))) dX6_plan_89 ((nI_add _ _).trans (congrArg nI (by omega))) ?_
      refine zr_istore X [1, 2, 3, 4, 5, 0, 6, 7] [(0, .ref (ad (0))), (1, .int (nI (f))), (2, .int (nI (t))), (3, .int (nI (0))), (4, .int (nI (3))), (5, .int (nI (zcnt (fun v => zlay μ f (nI (t)) 0 (v + 2520)) (i)))), (6, .int (zsum (fun v => zlay μ f (nI (t)) 0 (v + 2520)) (i))), (7, .int (nI (i)))] dX6_plan_90 (by decide) rfl ?_
      refine zr_iload X 6 dX6_plan_92 rfl ?_
      refine zr_aloadn X 0 dX6_plan_94 rfl ?_
      refine zr_get X (ci := 6) (q := 5) (zR (3)) (.ref (ad (3))) dX6_plan_95 (by omega) rfl rfl inX6 (by decide) rfl (rfl) rfl k_544 ?_
      refine zr_iload X 7 dX6_plan_98 rfl ?_
      refine zr_iald X (j := i) 0 ((zlay μ f (nI t) 0) (i + 2520)) dX6_plan_100 (by omega) rfl rfl rfl (by omega) (by omega) (zcg (b := i + 2520) (by omega) (rfl)) ?_
      refine zr_iadd X ((zsum (fun v => zlay μ f (nI (t)) 0 (v + 2520)) (i)) + ((zlay μ f (nI t) 0) (i + 2520))) dX6_plan_101 rfl ?_
      refine zr_istore X [1, 2, 3, 4, 5, 6, 0, 7] [(0, .ref (ad (0))), (1, .int (nI (f))), (2, .int (nI (t))), (3, .int (nI (0))), (4, .int (nI (3))), (5, .int (nI (zcnt (fun v => zlay μ f (nI (t)) 0 (v + 2520)) (i)))), (6, .int ((zsum (fun v => zlay μ f (nI (t)) 0 (v + 2520)) (i)) + ((zlay μ f (nI t) 0) (i + 2520)))), (7, .int (nI (i)))] dX6_plan_102 (by decide) rfl ?_
      refine zr_iinc X 7 (nI (i + 1)) [1, 2, 3, 4, 5, 6, 7, 0] [(0, .ref (ad (0))), (1, .int (nI (f))), (2, .int (nI (t))), (3, .int (nI (0))), (4, .int (nI (3))), (5, .int (nI (zcnt (fun v => zlay μ f (nI (t)) 0 (v + 2520)) (i)))), (6, .int ((zsum (fun v => zlay μ f (nI (t)) 0 (v + 2520)) (i)) + ((zlay μ f (nI t) 0) (i + 2520)))), (7, .int (nI (i + 1)))] dX6_plan_104 rfl (zinc _) (by decide) rfl ?_
      refine zr_goto X 65 dX6_plan_107 (by decide) ?_
      exact zr_lv X (by simp only [zcnt, Nat.add_zero, if_pos h81]; rfl) ih65
    · refine zr_iconst X (nI (1)) dX6_plan_84 (by decide +kernel) ?_
      refine zr_goto X 89 dX6_plan_85 (by decide) ?_
      refine zr_iadd X (nI (zcnt (fun v => zlay μ f (nI (t)) 0 (v + 2520)) (i) + 1)) dX6_plan_89 (nI_add _ _) ?_
      refine zr_istore X [1, 2, 3, 4, 5, 0, 6, 7] [(0, .ref (ad (0))), (1, .int (nI (f))), (2, .int (nI (t))), (3, .int (nI (0))), (4, .int (nI (3))), (5, .int (nI (zcnt (fun v => zlay μ f (nI (t)) 0 (v + 2520)) (i) + 1))), (6, .int (zsum (fun v => zlay μ f (nI (t)) 0 (v + 2520)) (i))), (7, .int (nI (i)))] dX6_plan_90 (by decide) rfl ?_
      refine zr_iload X 6 dX6_plan_92 rfl ?_
      refine zr_aloadn X 0 dX6_plan_94 rfl ?_
      refine zr_get X (ci := 6) (q := 5) (zR (3)) (.ref (ad (3))) dX6_plan_95 (by omega) rfl rfl inX6 (by decide) rfl (rfl) rfl k_544 ?_
      refine zr_iload X 7 dX6_plan_98 rfl ?_
      refine zr_iald X (j := i) 0 ((zlay μ f (nI t) 0) (i + 2520)) dX6_plan_100 (by omega) rfl rfl rfl (by omega) (by omega) (zcg (b := i + 2520) (by omega) (rfl)) ?_
      refine zr_iadd X ((zsum (fun v => zlay μ f (nI (t)) 0 (v + 2520)) (i)) + ((zlay μ f (nI t) 0) (i + 2520))) dX6_plan_101 rfl ?_
      refine zr_istore X [1, 2, 3, 4, 5, 6, 0, 7] [(0, .ref (ad (0))), (1, .int (nI (f))), (2, .int (nI (t))), (3, .int (nI (0))), (4, .int (nI (3))), (5, .int (nI (zcnt (fun v => zlay μ f (nI (t)) 0 (v + 2520)) (i) + 1))), (6, .int ((zsum (fun v => zlay μ f (nI (t)) 0 (v + 2520)) (i)) + ((zlay μ f (nI t) 0) (i + 2520)))), (7, .int (nI (i)))] dX6_plan_102 (by decide) rfl ?_
      refine zr_iinc X 7 (nI (i + 1)) [1, 2, 3, 4, 5, 6, 7, 0] [(0, .ref (ad (0))), (1, .int (nI (f))), (2, .int (nI (t))), (3, .int (nI (0))), (4, .int (nI (3))), (5, .int (nI (zcnt (fun v => zlay μ f (nI (t)) 0 (v + 2520)) (i) + 1))), (6, .int ((zsum (fun v => zlay μ f (nI (t)) 0 (v + 2520)) (i)) + ((zlay μ f (nI t) 0) (i + 2520)))), (7, .int (nI (i + 1)))] dX6_plan_104 rfl (zinc _) (by decide) rfl ?_
      refine zr_goto X 65 dX6_plan_107 (by decide) ?_
      exact zr_lv X (by simp only [zcnt, Nat.add_zero, if_neg h81]; rfl) ih65

set_option maxHeartbeats 4000000 in
set_option maxRecDepth 100000 in
theorem c_plan_0_4 {l : Launch} {D : va_G} {tc : Nat → ClassId} {ad : Nat → Nat} {A : Nat → Prop} {tF tL tM : Nat} (E : zN 6 A ad) (μ : Nat → Int32) {m c k : Nat} (S : refS μ m c k) {f : Nat} (hf : f < c) {t : Nat} (ht1 : 1 ≤ t) (ht9 : t ≤ 9999) (h : zlay μ f (nI t) 0 2450 ≤ 0) : zMi l yX6_plan cX6_plan 8 (some .int) (zrm 6) (zK A D tc tF tL tM) A D vwCl tc ad 6 shR [.ref (ad (0)), .int (nI (f)), .int (nI (t)), .int (nI (0)), .int (nI (4))] μ (fun r u => r = nI (zcnt (fun v => zlay μ f (nI (t)) 0 (v + 2520)) 20) ∧ u = zlay μ f (nI t) 0) := by
  refine zM_of RX6 [(0, .ref (ad (0))), (1, .int (nI (f))), (2, .int (nI (t))), (3, .int (nI (0))), (4, .int (nI (4)))] (zK_ok A D tc tF tL tM) E.1 E.2 owR_ok (by decide +kernel) rfl (Nat.le_of_ble_eq_true rfl) rfl ?_
  intro pP eE sS mM aS bL mT cO X
  obtain ⟨hm, hm2, hc, h8, hk, hk4⟩ := S
  refine zr_aloadn X 0 dX6_plan_0 rfl ?_
  refine zr_iloadn X 1 dX6_plan_1 rfl ?_
  refine zr_dVi (C := RX6) (ci := 6) [.int (nI (f))] [] X (zK_ok A D tc tF tL tM) (c_isFirm_t E μ (hc) h8 (by omega)) k_611 k_613 kp_2 k_7 k_614 hdX6_isFirm ⟨rfl, rfl⟩ ⟨Nat.le_of_ble_eq_true rfl, Nat.le_of_ble_eq_true rfl⟩ (by omega) rfl rfl rfl rfl (Nat.le_of_ble_eq_true rfl) dX6_plan_2 ?_
  refine zr_if_ne X 10 dX6_plan_5 (by decide) (fun _ => ?_) (fun q => absurd q (nI_ne0 (by omega) (by omega)))
  refine zr_iloadn X 2 dX6_plan_10 rfl ?_
  refine zr_dSi [.int (nI (t))] [] X (zK_ok A D tc tF tL tM) (c_isTonnes_t E μ (by omega) (by omega)) k_615 k_616 k_7 k_617 hdX6_isTonnes ⟨rfl, rfl⟩ ⟨Nat.le_of_ble_eq_true rfl, Nat.le_of_ble_eq_true rfl⟩ rfl rfl (Nat.le_of_ble_eq_true rfl) dX6_plan_11 ?_
  refine zr_if_eq X 36 dX6_plan_14 (by decide) (fun q => absurd q (nI_ne0 (by omega) (by omega))) (fun _ => ?_)
  refine zr_iloadn X 3 dX6_plan_17 rfl ?_
  refine zr_iconst X (nI (0)) dX6_plan_18 (by decide +kernel) ?_
  refine zr_iconst X (nI (2)) dX6_plan_19 (by decide +kernel) ?_
  refine zr_dSi [.int (nI (0)), .int (nI (0)), .int (nI (2))] [] X (zK_ok A D tc tF tL tM) (c_in_t E μ (zq_le (by omega) (by omega)) (zq_le (by omega) (by omega))) k_604 k_605 k_7 k_606 hdX6_in ⟨rfl, rfl⟩ ⟨Nat.le_of_ble_eq_true rfl, Nat.le_of_ble_eq_true rfl⟩ rfl rfl (Nat.le_of_ble_eq_true rfl) dX6_plan_20 ?_
  refine zr_if_eq X 36 dX6_plan_23 (by decide) (fun q => absurd q (nI_ne0 (by omega) (by omega))) (fun _ => ?_)
  refine zr_iload X 4 dX6_plan_26 rfl ?_
  refine zr_iconst X (nI (0)) dX6_plan_28 (by decide +kernel) ?_
  refine zr_iconst X (nI (5)) dX6_plan_29 (by decide +kernel) ?_
  refine zr_dSi [.int (nI (4)), .int (nI (0)), .int (nI (5))] [] X (zK_ok A D tc tF tL tM) (c_in_t E μ (zq_le (by omega) (by omega)) (zq_le (by omega) (by omega))) k_604 k_605 k_7 k_606 hdX6_in ⟨rfl, rfl⟩ ⟨Nat.le_of_ble_eq_true rfl, Nat.le_of_ble_eq_true rfl⟩ rfl rfl (Nat.le_of_ble_eq_true rfl) dX6_plan_30 ?_
  refine zr_if_ne X 39 dX6_plan_33 (by decide) (fun _ => ?_) (fun q => absurd q (nI_ne0 (by omega) (by omega)))
  refine zr_aloadn X 0 dX6_plan_39 rfl ?_
  refine zr_iloadn X 1 dX6_plan_40 rfl ?_
  refine zr_iloadn X 2 dX6_plan_41 rfl ?_
  refine zr_iloadn X 3 dX6_plan_42 rfl ?_
  refine zr_dVv (C := RX6) (ci := 6) [.int (nI (f)), .int (nI (t)), .int (nI (0))] [] X (zK_ok A D tc tF tL tM) (c_lay0 E μ (f := f) (t := t) (by omega) ht1 ht9) k_664 k_666 kp_6 k_7 k_667 hdX6_lay ⟨rfl, rfl⟩ ⟨Nat.le_of_ble_eq_true rfl, Nat.le_of_ble_eq_true rfl⟩ (by omega) rfl rfl rfl rfl (Nat.le_of_ble_eq_true rfl) dX6_plan_43 ?_
  refine zr_aloadn X 0 dX6_plan_46 rfl ?_
  refine zr_get X (ci := 6) (q := 7) zI (.int ((zlay μ f (nI t) 0) (2450))) dX6_plan_47 (by omega) rfl rfl inX6 (by decide) rfl (congrArg Value.int (rfl)) rfl k_546 ?_
  refine zr_if_le X 56 dX6_plan_50 (by decide) (fun _ => ?_) (fun q => absurd (h) q)
  refine zr_iconst X (nI (0)) dX6_plan_56 (by decide +kernel) ?_
  refine zr_istore X [1, 2, 3, 4, 5, 0] [(0, .ref (ad (0))), (1, .int (nI (f))), (2, .int (nI (t))), (3, .int (nI (0))), (4, .int (nI (4))), (5, .int (nI (0)))] dX6_plan_57 (by decide) rfl ?_
  refine zr_iconst X (nI (0)) dX6_plan_59 (by decide +kernel) ?_
  refine zr_istore X [1, 2, 3, 4, 5, 6, 0] [(0, .ref (ad (0))), (1, .int (nI (f))), (2, .int (nI (t))), (3, .int (nI (0))), (4, .int (nI (4))), (5, .int (nI (0))), (6, .int (nI (0)))] dX6_plan_60 (by decide) rfl ?_
  refine zr_iconst X (nI (0)) dX6_plan_62 (by decide +kernel) ?_
  refine zr_istore X [1, 2, 3, 4, 5, 6, 7, 0] [(0, .ref (ad (0))), (1, .int (nI (f))), (2, .int (nI (t))), (3, .int (nI (0))), (4, .int (nI (4))), (5, .int (nI (0))), (6, .int (nI (0))), (7, .int (nI (0)))] dX6_plan_63 (by decide) rfl ?_
  refine zr_for X (20) (fun i => (zlay μ f (nI t) 0)) (fun i => [(0, .ref (ad (0))), (1, .int (nI (f))), (2, .int (nI (t))), (3, .int (nI (0))), (4, .int (nI (4))), (5, .int (nI (zcnt (fun v => zlay μ f (nI (t)) 0 (v + 2520)) (i)))), (6, .int (zsum (fun v => zlay μ f (nI (t)) 0 (v + 2520)) (i))), (7, .int (nI (i)))]) [] (rfl) rfl ?_ ?_
  · refine zr_iload X 7 dX6_plan_65 rfl ?_
    refine zr_bipush X (nI (20)) dX6_plan_67 (by decide +kernel) ?_
    refine zr_icmp_ge X 110 dX6_plan_69 (by decide) (fun _ => ?_) (fun q => absurd (zq_le (by omega) (by omega)) q)
    refine zr_iload X 4 dX6_plan_110 rfl ?_
    refine zr_if_ne X 120 dX6_plan_112 (by decide) (fun _ => ?_) (fun q => absurd q (nI_ne0 (by omega) (by omega)))
    refine zr_iload X 4 dX6_plan_120 rfl ?_
    refine zr_iconst X (nI (4)) dX6_plan_122 (by decide +kernel) ?_
    refine zr_icmp_ge X 138 dX6_plan_123 (by decide) (fun _ => ?_) (fun q => absurd (zq_le (by omega) (by omega)) q)
    refine zr_iload X 4 dX6_plan_138 rfl ?_
    refine zr_iconst X (nI (4)) dX6_plan_140 (by decide +kernel) ?_
    refine zr_icmp_ne X 149 dX6_plan_141 (by decide) (fun q => absurd (zq_eq (by omega)) q) (fun _ => ?_)
    refine zr_iload X 5 dX6_plan_144 rfl ?_
    refine zr_goto X 153 dX6_plan_146 (by decide) ?_
    exact zr_iret X dX6_plan_153 ⟨rfl, rfl⟩
  · intro i hi ih65
    refine zr_iload X 7 dX6_plan_65 rfl ?_
    refine zr_bipush X (nI (20)) dX6_plan_67 (by decide +kernel) ?_
    refine zr_icmp_ge X 110 dX6_plan_69 (by decide) (fun q => absurd q (nI_ge (by omega) (by omega))) (fun _ => ?_)
    refine zr_iload X 5 dX6_plan_72 rfl ?_
    refine zr_aloadn X 0 dX6_plan_74 rfl ?_
    refine zr_get X (ci := 6) (q := 5) (zR (3)) (.ref (ad (3))) dX6_plan_75 (by omega) rfl rfl inX6 (by decide) rfl (rfl) rfl k_544 ?_
    refine zr_iload X 7 dX6_plan_78 rfl ?_
    refine zr_iald X (j := i) 0 ((zlay μ f (nI t) 0) (i + 2520)) dX6_plan_80 (by omega) rfl rfl rfl (by omega) (by omega) (zcg (b := i + 2520) (by omega) (rfl)) ?_
    refine zr_if_le X 88 dX6_plan_81 (by decide) (fun h81 => ?_) (fun h81 => ?_)
    · refine zr_iconst X (nI (0)) dX6_plan_88 (by decide +kernel) ?_
      refine zr_iadd X (nI (zcnt (fun v => zlay μ f (nI (t)) 0 (v + 2520)) (i))) dX6_plan_89 ((nI_add _ _).trans (congrArg nI (by omega))) ?_
      refine zr_istore X [1, 2, 3, 4, 5, 0, 6, 7] [(0, .ref (ad (0))), (1, .int (nI (f))), (2, .int (nI (t))), (3, .int (nI (0))), (4, .int (nI (4))), (5, .int (nI (zcnt (fun v => zlay μ f (nI (t)) 0 (v + 2520)) (i)))), (6, .int (zsum (fun v => zlay μ f (nI (t)) 0 (v + 2520)) (i))), (7, .int (nI (i)))] dX6_plan_90 (by decide) rfl ?_
      refine zr_iload X 6 dX6_plan_92 rfl ?_
      refine zr_aloadn X 0 dX6_plan_94 rfl ?_
      refine zr_get X (ci := 6) (q := 5) (zR (3)) (.ref (ad (3))) dX6_plan_95 (by omega) rfl rfl inX6 (by decide) rfl (rfl) rfl k_544 ?_
      refine zr_iload X 7 dX6_plan_98 rfl ?_
      refine zr_iald X (j := i) 0 ((zlay μ f (nI t) 0) (i + 2520)) dX6_plan_100 (by omega) rfl rfl rfl (by omega) (by omega) (zcg (b := i + 2520) (by omega) (rfl)) ?_
      refine zr_iadd X ((zsum (fun v => zlay μ f (nI (t)) 0 (v + 2520)) (i)) + ((zlay μ f (nI t) 0) (i + 2520))) dX6_plan_101 rfl ?_
      refine zr_istore X [1, 2, 3, 4, 5, 6, 0, 7] [(0, .ref (ad (0))), (1, .int (nI (f))), (2, .int (nI (t))), (3, .int (nI (0))), (4, .int (nI (4))), (5, .int (nI (zcnt (fun v => zlay μ f (nI (t)) 0 (v + 2520)) (i)))), (6, .int ((zsum (fun v => zlay μ f (nI (t)) 0 (v + 2520)) (i)) + ((zlay μ f (nI t) 0) (i + 2520)))), (7, .int (nI (i)))] dX6_plan_102 (by decide) rfl ?_
      refine zr_iinc X 7 (nI (i + 1)) [1, 2, 3, 4, 5, 6, 7, 0] [(0, .ref (ad (0))), (1, .int (nI (f))), (2, .int (nI (t))), (3, .int (nI (0))), (4, .int (nI (4))), (5, .int (nI (zcnt (fun v => zlay μ f (nI (t)) 0 (v + 2520)) (i)))), (6, .int ((zsum (fun v => zlay μ f (nI (t)) 0 (v + 2520)) (i)) + ((zlay μ f (nI t) 0) (i + 2520)))), (7, .int (nI (i + 1)))] dX6_plan_104 rfl (zinc _) (by decide) rfl ?_
      refine zr_goto X 65 dX6_plan_107 (by decide) ?_
      exact zr_lv X (by simp only [zcnt, Nat.add_zero, if_pos h81]; rfl) ih65
    · refine zr_iconst X (nI (1)) dX6_plan_84 (by decide +kernel) ?_
      refine zr_goto X 89 dX6_plan_85 (by decide) ?_
      refine zr_iadd X (nI (zcnt (fun v => zlay μ f (nI (t)) 0 (v + 2520)) (i) + 1)) dX6_plan_89 (nI_add _ _) ?_
      refine zr_istore X [1, 2, 3, 4, 5, 0, 6, 7] [(0, .ref (ad (0))), (1, .int (nI (f))), (2, .int (nI (t))), (3, .int (nI (0))), (4, .int (nI (4))), (5, .int (nI (zcnt (fun v => zlay μ f (nI (t)) 0 (v + 2520)) (i) + 1))), (6, .int (zsum (fun v => zlay μ f (nI (t)) 0 (v + 2520)) (i))), (7, .int (nI (i)))] dX6_plan_90 (by decide) rfl ?_
      refine zr_iload X 6 dX6_plan_92 rfl ?_
      refine zr_aloadn X 0 dX6_plan_94 rfl ?_
      refine zr_get X (ci := 6) (q := 5) (zR (3)) (.ref (ad (3))) dX6_plan_95 (by omega) rfl rfl inX6 (by decide) rfl (rfl) rfl k_544 ?_
      refine zr_iload X 7 dX6_plan_98 rfl ?_
      refine zr_iald X (j := i) 0 ((zlay μ f (nI t) 0) (i + 2520)) dX6_plan_100 (by omega) rfl rfl rfl (by omega) (by omega) (zcg (b := i + 2520) (by omega) (rfl)) ?_
      refine zr_iadd X ((zsum (fun v => zlay μ f (nI (t)) 0 (v + 2520)) (i)) + ((zlay μ f (nI t) 0) (i + 2520))) dX6_plan_101 rfl ?_
      refine zr_istore X [1, 2, 3, 4, 5, 6, 0, 7] [(0, .ref (ad (0))), (1, .int (nI (f))), (2, .int (nI (t))), (3, .int (nI (0))), (4, .int (nI (4))), (5, .int (nI (zcnt (fun v => zlay μ f (nI (t)) 0 (v + 2520)) (i) + 1))), (6, .int ((zsum (fun v => zlay μ f (nI (t)) 0 (v + 2520)) (i)) + ((zlay μ f (nI t) 0) (i + 2520)))), (7, .int (nI (i)))] dX6_plan_102 (by decide) rfl ?_
      refine zr_iinc X 7 (nI (i + 1)) [1, 2, 3, 4, 5, 6, 7, 0] [(0, .ref (ad (0))), (1, .int (nI (f))), (2, .int (nI (t))), (3, .int (nI (0))), (4, .int (nI (4))), (5, .int (nI (zcnt (fun v => zlay μ f (nI (t)) 0 (v + 2520)) (i) + 1))), (6, .int ((zsum (fun v => zlay μ f (nI (t)) 0 (v + 2520)) (i)) + ((zlay μ f (nI t) 0) (i + 2520)))), (7, .int (nI (i + 1)))] dX6_plan_104 rfl (zinc _) (by decide) rfl ?_
      refine zr_goto X 65 dX6_plan_107 (by decide) ?_
      exact zr_lv X (by simp only [zcnt, Nat.add_zero, if_neg h81]; rfl) ih65

set_option maxHeartbeats 4000000 in
set_option maxRecDepth 100000 in
theorem c_plan_0_5 {l : Launch} {D : va_G} {tc : Nat → ClassId} {ad : Nat → Nat} {A : Nat → Prop} {tF tL tM : Nat} (E : zN 6 A ad) (μ : Nat → Int32) {m c k : Nat} (S : refS μ m c k) {f : Nat} (hf : f < c) {t : Nat} (ht1 : 1 ≤ t) (ht9 : t ≤ 9999) (h : zlay μ f (nI t) 0 2450 ≤ 0) : zMi l yX6_plan cX6_plan 8 (some .int) (zrm 6) (zK A D tc tF tL tM) A D vwCl tc ad 6 shR [.ref (ad (0)), .int (nI (f)), .int (nI (t)), .int (nI (0)), .int (nI (5))] μ (fun r u => r = zlay μ f (nI t) 0 2451 ∧ u = zlay μ f (nI t) 0) := by
  refine zM_of RX6 [(0, .ref (ad (0))), (1, .int (nI (f))), (2, .int (nI (t))), (3, .int (nI (0))), (4, .int (nI (5)))] (zK_ok A D tc tF tL tM) E.1 E.2 owR_ok (by decide +kernel) rfl (Nat.le_of_ble_eq_true rfl) rfl ?_
  intro pP eE sS mM aS bL mT cO X
  obtain ⟨hm, hm2, hc, h8, hk, hk4⟩ := S
  refine zr_aloadn X 0 dX6_plan_0 rfl ?_
  refine zr_iloadn X 1 dX6_plan_1 rfl ?_
  refine zr_dVi (C := RX6) (ci := 6) [.int (nI (f))] [] X (zK_ok A D tc tF tL tM) (c_isFirm_t E μ (hc) h8 (by omega)) k_611 k_613 kp_2 k_7 k_614 hdX6_isFirm ⟨rfl, rfl⟩ ⟨Nat.le_of_ble_eq_true rfl, Nat.le_of_ble_eq_true rfl⟩ (by omega) rfl rfl rfl rfl (Nat.le_of_ble_eq_true rfl) dX6_plan_2 ?_
  refine zr_if_ne X 10 dX6_plan_5 (by decide) (fun _ => ?_) (fun q => absurd q (nI_ne0 (by omega) (by omega)))
  refine zr_iloadn X 2 dX6_plan_10 rfl ?_
  refine zr_dSi [.int (nI (t))] [] X (zK_ok A D tc tF tL tM) (c_isTonnes_t E μ (by omega) (by omega)) k_615 k_616 k_7 k_617 hdX6_isTonnes ⟨rfl, rfl⟩ ⟨Nat.le_of_ble_eq_true rfl, Nat.le_of_ble_eq_true rfl⟩ rfl rfl (Nat.le_of_ble_eq_true rfl) dX6_plan_11 ?_
  refine zr_if_eq X 36 dX6_plan_14 (by decide) (fun q => absurd q (nI_ne0 (by omega) (by omega))) (fun _ => ?_)
  refine zr_iloadn X 3 dX6_plan_17 rfl ?_
  refine zr_iconst X (nI (0)) dX6_plan_18 (by decide +kernel) ?_
  refine zr_iconst X (nI (2)) dX6_plan_19 (by decide +kernel) ?_
  refine zr_dSi [.int (nI (0)), .int (nI (0)), .int (nI (2))] [] X (zK_ok A D tc tF tL tM) (c_in_t E μ (zq_le (by omega) (by omega)) (zq_le (by omega) (by omega))) k_604 k_605 k_7 k_606 hdX6_in ⟨rfl, rfl⟩ ⟨Nat.le_of_ble_eq_true rfl, Nat.le_of_ble_eq_true rfl⟩ rfl rfl (Nat.le_of_ble_eq_true rfl) dX6_plan_20 ?_
  refine zr_if_eq X 36 dX6_plan_23 (by decide) (fun q => absurd q (nI_ne0 (by omega) (by omega))) (fun _ => ?_)
  refine zr_iload X 4 dX6_plan_26 rfl ?_
  refine zr_iconst X (nI (0)) dX6_plan_28 (by decide +kernel) ?_
  refine zr_iconst X (nI (5)) dX6_plan_29 (by decide +kernel) ?_
  refine zr_dSi [.int (nI (5)), .int (nI (0)), .int (nI (5))] [] X (zK_ok A D tc tF tL tM) (c_in_t E μ (zq_le (by omega) (by omega)) (zq_le (by omega) (by omega))) k_604 k_605 k_7 k_606 hdX6_in ⟨rfl, rfl⟩ ⟨Nat.le_of_ble_eq_true rfl, Nat.le_of_ble_eq_true rfl⟩ rfl rfl (Nat.le_of_ble_eq_true rfl) dX6_plan_30 ?_
  refine zr_if_ne X 39 dX6_plan_33 (by decide) (fun _ => ?_) (fun q => absurd q (nI_ne0 (by omega) (by omega)))
  refine zr_aloadn X 0 dX6_plan_39 rfl ?_
  refine zr_iloadn X 1 dX6_plan_40 rfl ?_
  refine zr_iloadn X 2 dX6_plan_41 rfl ?_
  refine zr_iloadn X 3 dX6_plan_42 rfl ?_
  refine zr_dVv (C := RX6) (ci := 6) [.int (nI (f)), .int (nI (t)), .int (nI (0))] [] X (zK_ok A D tc tF tL tM) (c_lay0 E μ (f := f) (t := t) (by omega) ht1 ht9) k_664 k_666 kp_6 k_7 k_667 hdX6_lay ⟨rfl, rfl⟩ ⟨Nat.le_of_ble_eq_true rfl, Nat.le_of_ble_eq_true rfl⟩ (by omega) rfl rfl rfl rfl (Nat.le_of_ble_eq_true rfl) dX6_plan_43 ?_
  refine zr_aloadn X 0 dX6_plan_46 rfl ?_
  refine zr_get X (ci := 6) (q := 7) zI (.int ((zlay μ f (nI t) 0) (2450))) dX6_plan_47 (by omega) rfl rfl inX6 (by decide) rfl (congrArg Value.int (rfl)) rfl k_546 ?_
  refine zr_if_le X 56 dX6_plan_50 (by decide) (fun _ => ?_) (fun q => absurd (h) q)
  refine zr_iconst X (nI (0)) dX6_plan_56 (by decide +kernel) ?_
  refine zr_istore X [1, 2, 3, 4, 5, 0] [(0, .ref (ad (0))), (1, .int (nI (f))), (2, .int (nI (t))), (3, .int (nI (0))), (4, .int (nI (5))), (5, .int (nI (0)))] dX6_plan_57 (by decide) rfl ?_
  refine zr_iconst X (nI (0)) dX6_plan_59 (by decide +kernel) ?_
  refine zr_istore X [1, 2, 3, 4, 5, 6, 0] [(0, .ref (ad (0))), (1, .int (nI (f))), (2, .int (nI (t))), (3, .int (nI (0))), (4, .int (nI (5))), (5, .int (nI (0))), (6, .int (nI (0)))] dX6_plan_60 (by decide) rfl ?_
  refine zr_iconst X (nI (0)) dX6_plan_62 (by decide +kernel) ?_
  refine zr_istore X [1, 2, 3, 4, 5, 6, 7, 0] [(0, .ref (ad (0))), (1, .int (nI (f))), (2, .int (nI (t))), (3, .int (nI (0))), (4, .int (nI (5))), (5, .int (nI (0))), (6, .int (nI (0))), (7, .int (nI (0)))] dX6_plan_63 (by decide) rfl ?_
  refine zr_for X (20) (fun i => (zlay μ f (nI t) 0)) (fun i => [(0, .ref (ad (0))), (1, .int (nI (f))), (2, .int (nI (t))), (3, .int (nI (0))), (4, .int (nI (5))), (5, .int (nI (zcnt (fun v => zlay μ f (nI (t)) 0 (v + 2520)) (i)))), (6, .int (zsum (fun v => zlay μ f (nI (t)) 0 (v + 2520)) (i))), (7, .int (nI (i)))]) [] (rfl) rfl ?_ ?_
  · refine zr_iload X 7 dX6_plan_65 rfl ?_
    refine zr_bipush X (nI (20)) dX6_plan_67 (by decide +kernel) ?_
    refine zr_icmp_ge X 110 dX6_plan_69 (by decide) (fun _ => ?_) (fun q => absurd (zq_le (by omega) (by omega)) q)
    refine zr_iload X 4 dX6_plan_110 rfl ?_
    refine zr_if_ne X 120 dX6_plan_112 (by decide) (fun _ => ?_) (fun q => absurd q (nI_ne0 (by omega) (by omega)))
    refine zr_iload X 4 dX6_plan_120 rfl ?_
    refine zr_iconst X (nI (4)) dX6_plan_122 (by decide +kernel) ?_
    refine zr_icmp_ge X 138 dX6_plan_123 (by decide) (fun _ => ?_) (fun q => absurd (zq_le (by omega) (by omega)) q)
    refine zr_iload X 4 dX6_plan_138 rfl ?_
    refine zr_iconst X (nI (4)) dX6_plan_140 (by decide +kernel) ?_
    refine zr_icmp_ne X 149 dX6_plan_141 (by decide) (fun _ => ?_) (fun q => absurd q (zq_ne (by omega) (by omega) (by omega)))
    refine zr_aloadn X 0 dX6_plan_149 rfl ?_
    refine zr_get X (ci := 6) (q := 8) zI (.int ((zlay μ f (nI t) 0) (2451))) dX6_plan_150 (by omega) rfl rfl inX6 (by decide) rfl (congrArg Value.int (rfl)) rfl k_547 ?_
    exact zr_iret X dX6_plan_153 ⟨rfl, rfl⟩
  · intro i hi ih65
    refine zr_iload X 7 dX6_plan_65 rfl ?_
    refine zr_bipush X (nI (20)) dX6_plan_67 (by decide +kernel) ?_
    refine zr_icmp_ge X 110 dX6_plan_69 (by decide) (fun q => absurd q (nI_ge (by omega) (by omega))) (fun _ => ?_)
    refine zr_iload X 5 dX6_plan_72 rfl ?_
    refine zr_aloadn X 0 dX6_plan_74 rfl ?_
    refine zr_get X (ci := 6) (q := 5) (zR (3)) (.ref (ad (3))) dX6_plan_75 (by omega) rfl rfl inX6 (by decide) rfl (rfl) rfl k_544 ?_
    refine zr_iload X 7 dX6_plan_78 rfl ?_
    refine zr_iald X (j := i) 0 ((zlay μ f (nI t) 0) (i + 2520)) dX6_plan_80 (by omega) rfl rfl rfl (by omega) (by omega) (zcg (b := i + 2520) (by omega) (rfl)) ?_
    refine zr_if_le X 88 dX6_plan_81 (by decide) (fun h81 => ?_) (fun h81 => ?_)
    · refine zr_iconst X (nI (0)) dX6_plan_88 (by decide +kernel) ?_
      refine zr_iadd X (nI (zcnt (fun v => zlay μ f (nI (t)) 0 (v + 2520)) (i))) dX6_plan_89 ((nI_add _ _).trans (congrArg nI (by omega))) ?_
      refine zr_istore X [1, 2, 3, 4, 5, 0, 6, 7] [(0, .ref (ad (0))), (1, .int (nI (f))), (2, .int (nI (t))), (3, .int (nI (0))), (4, .int (nI (5))), (5, .int (nI (zcnt (fun v => zlay μ f (nI (t)) 0 (v + 2520)) (i)))), (6, .int (zsum (fun v => zlay μ f (nI (t)) 0 (v + 2520)) (i))), (7, .int (nI (i)))] dX6_plan_90 (by decide) rfl ?_
      refine zr_iload X 6 dX6_plan_92 rfl ?_
      refine zr_aloadn X 0 dX6_plan_94 rfl ?_
      refine zr_get X (ci := 6) (q := 5) (zR (3)) (.ref (ad (3))) dX6_plan_95 (by omega) rfl rfl inX6 (by decide) rfl (rfl) rfl k_544 ?_
      refine zr_iload X 7 dX6_plan_98 rfl ?_
      refine zr_iald X (j := i) 0 ((zlay μ f (nI t) 0) (i + 2520)) dX6_plan_100 (by omega) rfl rfl rfl (by omega) (by omega) (zcg (b := i + 2520) (by omega) (rfl)) ?_
      refine zr_iadd X ((zsum (fun v => zlay μ f (nI (t)) 0 (v + 2520)) (i)) + ((zlay μ f (nI t) 0) (i + 2520))) dX6_plan_101 rfl ?_
      refine zr_istore X [1, 2, 3, 4, 5, 6, 0, 7] [(0, .ref (ad (0))), (1, .int (nI (f))), (2, .int (nI (t))), (3, .int (nI (0))), (4, .int (nI (5))), (5, .int (nI (zcnt (fun v => zlay μ f (nI (t)) 0 (v + 2520)) (i)))), (6, .int ((zsum (fun v => zlay μ f (nI (t)) 0 (v + 2520)) (i)) + ((zlay μ f (nI t) 0) (i + 2520)))), (7, .int (nI (i)))] dX6_plan_102 (by decide) rfl ?_
      refine zr_iinc X 7 (nI (i + 1)) [1, 2, 3, 4, 5, 6, 7, 0] [(0, .ref (ad (0))), (1, .int (nI (f))), (2, .int (nI (t))), (3, .int (nI (0))), (4, .int (nI (5))), (5, .int (nI (zcnt (fun v => zlay μ f (nI (t)) 0 (v + 2520)) (i)))), (6, .int ((zsum (fun v => zlay μ f (nI (t)) 0 (v + 2520)) (i)) + ((zlay μ f (nI t) 0) (i + 2520)))), (7, .int (nI (i + 1)))] dX6_plan_104 rfl (zinc _) (by decide) rfl ?_
      refine zr_goto X 65 dX6_plan_107 (by decide) ?_
      exact zr_lv X (by simp only [zcnt, Nat.add_zero, if_pos h81]; rfl) ih65
    · refine zr_iconst X (nI (1)) dX6_plan_84 (by decide +kernel) ?_
      refine zr_goto X 89 dX6_plan_85 (by decide) ?_
      refine zr_iadd X (nI (zcnt (fun v => zlay μ f (nI (t)) 0 (v + 2520)) (i) + 1)) dX6_plan_89 (nI_add _ _) ?_
      refine zr_istore X [1, 2, 3, 4, 5, 0, 6, 7] [(0, .ref (ad (0))), (1, .int (nI (f))), (2, .int (nI (t))), (3, .int (nI (0))), (4, .int (nI (5))), (5, .int (nI (zcnt (fun v => zlay μ f (nI (t)) 0 (v + 2520)) (i) + 1))), (6, .int (zsum (fun v => zlay μ f (nI (t)) 0 (v + 2520)) (i))), (7, .int (nI (i)))] dX6_plan_90 (by decide) rfl ?_
      refine zr_iload X 6 dX6_plan_92 rfl ?_
      refine zr_aloadn X 0 dX6_plan_94 rfl ?_
      refine zr_get X (ci := 6) (q := 5) (zR (3)) (.ref (ad (3))) dX6_plan_95 (by omega) rfl rfl inX6 (by decide) rfl (rfl) rfl k_544 ?_
      refine zr_iload X 7 dX6_plan_98 rfl ?_
      refine zr_iald X (j := i) 0 ((zlay μ f (nI t) 0) (i + 2520)) dX6_plan_100 (by omega) rfl rfl rfl (by omega) (by omega) (zcg (b := i + 2520) (by omega) (rfl)) ?_
      refine zr_iadd X ((zsum (fun v => zlay μ f (nI (t)) 0 (v + 2520)) (i)) + ((zlay μ f (nI t) 0) (i + 2520))) dX6_plan_101 rfl ?_
      refine zr_istore X [1, 2, 3, 4, 5, 6, 0, 7] [(0, .ref (ad (0))), (1, .int (nI (f))), (2, .int (nI (t))), (3, .int (nI (0))), (4, .int (nI (5))), (5, .int (nI (zcnt (fun v => zlay μ f (nI (t)) 0 (v + 2520)) (i) + 1))), (6, .int ((zsum (fun v => zlay μ f (nI (t)) 0 (v + 2520)) (i)) + ((zlay μ f (nI t) 0) (i + 2520)))), (7, .int (nI (i)))] dX6_plan_102 (by decide) rfl ?_
      refine zr_iinc X 7 (nI (i + 1)) [1, 2, 3, 4, 5, 6, 7, 0] [(0, .ref (ad (0))), (1, .int (nI (f))), (2, .int (nI (t))), (3, .int (nI (0))), (4, .int (nI (5))), (5, .int (nI (zcnt (fun v => zlay μ f (nI (t)) 0 (v + 2520)) (i) + 1))), (6, .int ((zsum (fun v => zlay μ f (nI (t)) 0 (v + 2520)) (i)) + ((zlay μ f (nI t) 0) (i + 2520)))), (7, .int (nI (i + 1)))] dX6_plan_104 rfl (zinc _) (by decide) rfl ?_
      refine zr_goto X 65 dX6_plan_107 (by decide) ?_
      exact zr_lv X (by simp only [zcnt, Nat.add_zero, if_neg h81]; rfl) ih65

set_option maxHeartbeats 4000000 in
set_option maxRecDepth 100000 in
theorem c_plan_n1 {l : Launch} {D : va_G} {tc : Nat → ClassId} {ad : Nat → Nat} {A : Nat → Prop} {tF tL tM : Nat} (E : zN 6 A ad) (μ : Nat → Int32) {m c k : Nat} (S : refS μ m c k) {f : Nat} (hf : f < c) {t : Nat} (ht1 : 1 ≤ t) (ht9 : t ≤ 9999) {w : Nat} (hw : w ≤ 5) (h : ¬ zlay μ f (nI t) 1 2450 ≤ 0) : zMi l yX6_plan cX6_plan 8 (some .int) (zrm 6) (zK A D tc tF tL tM) A D vwCl tc ad 6 shR [.ref (ad (0)), .int (nI (f)), .int (nI (t)), .int (nI (1)), .int (nI (w))] μ (fun r u => r = -4 ∧ u = zlay μ f (nI t) 1) := by
  refine zM_of RX6 [(0, .ref (ad (0))), (1, .int (nI (f))), (2, .int (nI (t))), (3, .int (nI (1))), (4, .int (nI (w)))] (zK_ok A D tc tF tL tM) E.1 E.2 owR_ok (by decide +kernel) rfl (Nat.le_of_ble_eq_true rfl) rfl ?_
  intro pP eE sS mM aS bL mT cO X
  obtain ⟨hm, hm2, hc, h8, hk, hk4⟩ := S
  refine zr_aloadn X 0 dX6_plan_0 rfl ?_
  refine zr_iloadn X 1 dX6_plan_1 rfl ?_
  refine zr_dVi (C := RX6) (ci := 6) [.int (nI (f))] [] X (zK_ok A D tc tF tL tM) (c_isFirm_t E μ (hc) h8 (by omega)) k_611 k_613 kp_2 k_7 k_614 hdX6_isFirm ⟨rfl, rfl⟩ ⟨Nat.le_of_ble_eq_true rfl, Nat.le_of_ble_eq_true rfl⟩ (by omega) rfl rfl rfl rfl (Nat.le_of_ble_eq_true rfl) dX6_plan_2 ?_
  refine zr_if_ne X 10 dX6_plan_5 (by decide) (fun _ => ?_) (fun q => absurd q (nI_ne0 (by omega) (by omega)))
  refine zr_iloadn X 2 dX6_plan_10 rfl ?_
  refine zr_dSi [.int (nI (t))] [] X (zK_ok A D tc tF tL tM) (c_isTonnes_t E μ (by omega) (by omega)) k_615 k_616 k_7 k_617 hdX6_isTonnes ⟨rfl, rfl⟩ ⟨Nat.le_of_ble_eq_true rfl, Nat.le_of_ble_eq_true rfl⟩ rfl rfl (Nat.le_of_ble_eq_true rfl) dX6_plan_11 ?_
  refine zr_if_eq X 36 dX6_plan_14 (by decide) (fun q => absurd q (nI_ne0 (by omega) (by omega))) (fun _ => ?_)
  refine zr_iloadn X 3 dX6_plan_17 rfl ?_
  refine zr_iconst X (nI (0)) dX6_plan_18 (by decide +kernel) ?_
  refine zr_iconst X (nI (2)) dX6_plan_19 (by decide +kernel) ?_
  refine zr_dSi [.int (nI (1)), .int (nI (0)), .int (nI (2))] [] X (zK_ok A D tc tF tL tM) (c_in_t E μ (zq_le (by omega) (by omega)) (zq_le (by omega) (by omega))) k_604 k_605 k_7 k_606 hdX6_in ⟨rfl, rfl⟩ ⟨Nat.le_of_ble_eq_true rfl, Nat.le_of_ble_eq_true rfl⟩ rfl rfl (Nat.le_of_ble_eq_true rfl) dX6_plan_20 ?_
  refine zr_if_eq X 36 dX6_plan_23 (by decide) (fun q => absurd q (nI_ne0 (by omega) (by omega))) (fun _ => ?_)
  refine zr_iload X 4 dX6_plan_26 rfl ?_
  refine zr_iconst X (nI (0)) dX6_plan_28 (by decide +kernel) ?_
  refine zr_iconst X (nI (5)) dX6_plan_29 (by decide +kernel) ?_
  refine zr_dSi [.int (nI (w)), .int (nI (0)), .int (nI (5))] [] X (zK_ok A D tc tF tL tM) (c_in_t E μ (zq_le (by omega) (by omega)) (zq_le (by omega) (by omega))) k_604 k_605 k_7 k_606 hdX6_in ⟨rfl, rfl⟩ ⟨Nat.le_of_ble_eq_true rfl, Nat.le_of_ble_eq_true rfl⟩ rfl rfl (Nat.le_of_ble_eq_true rfl) dX6_plan_30 ?_
  refine zr_if_ne X 39 dX6_plan_33 (by decide) (fun _ => ?_) (fun q => absurd q (nI_ne0 (by omega) (by omega)))
  refine zr_aloadn X 0 dX6_plan_39 rfl ?_
  refine zr_iloadn X 1 dX6_plan_40 rfl ?_
  refine zr_iloadn X 2 dX6_plan_41 rfl ?_
  refine zr_iloadn X 3 dX6_plan_42 rfl ?_
  refine zr_dVv (C := RX6) (ci := 6) [.int (nI (f)), .int (nI (t)), .int (nI (1))] [] X (zK_ok A D tc tF tL tM) (c_lay1 E μ (f := f) (t := t) (by omega) ht1 ht9) k_664 k_666 kp_6 k_7 k_667 hdX6_lay ⟨rfl, rfl⟩ ⟨Nat.le_of_ble_eq_true rfl, Nat.le_of_ble_eq_true rfl⟩ (by omega) rfl rfl rfl rfl (Nat.le_of_ble_eq_true rfl) dX6_plan_43 ?_
  refine zr_aloadn X 0 dX6_plan_46 rfl ?_
  refine zr_get X (ci := 6) (q := 7) zI (.int ((zlay μ f (nI t) 1) (2450))) dX6_plan_47 (by omega) rfl rfl inX6 (by decide) rfl (congrArg Value.int (rfl)) rfl k_546 ?_
  refine zr_if_le X 56 dX6_plan_50 (by decide) (fun q => absurd q (h)) (fun _ => ?_)
  refine zr_bipush X (-4) dX6_plan_53 (by decide +kernel) ?_
  exact zr_iret X dX6_plan_55 ⟨rfl, rfl⟩

set_option maxHeartbeats 4000000 in
set_option maxRecDepth 100000 in
theorem c_plan_1_0 {l : Launch} {D : va_G} {tc : Nat → ClassId} {ad : Nat → Nat} {A : Nat → Prop} {tF tL tM : Nat} (E : zN 6 A ad) (μ : Nat → Int32) {m c k : Nat} (S : refS μ m c k) {f : Nat} (hf : f < c) {t : Nat} (ht1 : 1 ≤ t) (ht9 : t ≤ 9999) (h : zlay μ f (nI t) 1 2450 ≤ 0) : zMi l yX6_plan cX6_plan 8 (some .int) (zrm 6) (zK A D tc tF tL tM) A D vwCl tc ad 6 shR [.ref (ad (0)), .int (nI (f)), .int (nI (t)), .int (nI (1)), .int (nI (0))] μ (fun r u => r = zsum (fun v => zlay μ f (nI (t)) 1 (v + 2520)) 20 ∧ u = zlay μ f (nI t) 1) := by
  refine zM_of RX6 [(0, .ref (ad (0))), (1, .int (nI (f))), (2, .int (nI (t))), (3, .int (nI (1))), (4, .int (nI (0)))] (zK_ok A D tc tF tL tM) E.1 E.2 owR_ok (by decide +kernel) rfl (Nat.le_of_ble_eq_true rfl) rfl ?_
  intro pP eE sS mM aS bL mT cO X
  obtain ⟨hm, hm2, hc, h8, hk, hk4⟩ := S
  refine zr_aloadn X 0 dX6_plan_0 rfl ?_
  refine zr_iloadn X 1 dX6_plan_1 rfl ?_
  refine zr_dVi (C := RX6) (ci := 6) [.int (nI (f))] [] X (zK_ok A D tc tF tL tM) (c_isFirm_t E μ (hc) h8 (by omega)) k_611 k_613 kp_2 k_7 k_614 hdX6_isFirm ⟨rfl, rfl⟩ ⟨Nat.le_of_ble_eq_true rfl, Nat.le_of_ble_eq_true rfl⟩ (by omega) rfl rfl rfl rfl (Nat.le_of_ble_eq_true rfl) dX6_plan_2 ?_
  refine zr_if_ne X 10 dX6_plan_5 (by decide) (fun _ => ?_) (fun q => absurd q (nI_ne0 (by omega) (by omega)))
  refine zr_iloadn X 2 dX6_plan_10 rfl ?_
  refine zr_dSi [.int (nI (t))] [] X (zK_ok A D tc tF tL tM) (c_isTonnes_t E μ (by omega) (by omega)) k_615 k_616 k_7 k_617 hdX6_isTonnes ⟨rfl, rfl⟩ ⟨Nat.le_of_ble_eq_true rfl, Nat.le_of_ble_eq_true rfl⟩ rfl rfl (Nat.le_of_ble_eq_true rfl) dX6_plan_11 ?_
  refine zr_if_eq X 36 dX6_plan_14 (by decide) (fun q => absurd q (nI_ne0 (by omega) (by omega))) (fun _ => ?_)
  refine zr_iloadn X 3 dX6_plan_17 rfl ?_
  refine zr_iconst X (nI (0)) dX6_plan_18 (by decide +kernel) ?_
  refine zr_iconst X (nI (2)) dX6_plan_19 (by decide +kernel) ?_
  refine zr_dSi [.int (nI (1)), .int (nI (0)), .int (nI (2))] [] X (zK_ok A D tc tF tL tM) (c_in_t E μ (zq_le (by omega) (by omega)) (zq_le (by omega) (by omega))) k_604 k_605 k_7 k_606 hdX6_in ⟨rfl, rfl⟩ ⟨Nat.le_of_ble_eq_true rfl, Nat.le_of_ble_eq_true rfl⟩ rfl rfl (Nat.le_of_ble_eq_true rfl) dX6_plan_20 ?_
  refine zr_if_eq X 36 dX6_plan_23 (by decide) (fun q => absurd q (nI_ne0 (by omega) (by omega))) (fun _ => ?_)
  refine zr_iload X 4 dX6_plan_26 rfl ?_
  refine zr_iconst X (nI (0)) dX6_plan_28 (by decide +kernel) ?_
  refine zr_iconst X (nI (5)) dX6_plan_29 (by decide +kernel) ?_
  refine zr_dSi [.int (nI (0)), .int (nI (0)), .int (nI (5))] [] X (zK_ok A D tc tF tL tM) (c_in_t E μ (zq_le (by omega) (by omega)) (zq_le (by omega) (by omega))) k_604 k_605 k_7 k_606 hdX6_in ⟨rfl, rfl⟩ ⟨Nat.le_of_ble_eq_true rfl, Nat.le_of_ble_eq_true rfl⟩ rfl rfl (Nat.le_of_ble_eq_true rfl) dX6_plan_30 ?_
  refine zr_if_ne X 39 dX6_plan_33 (by decide) (fun _ => ?_) (fun q => absurd q (nI_ne0 (by omega) (by omega)))
  refine zr_aloadn X 0 dX6_plan_39 rfl ?_
  refine zr_iloadn X 1 dX6_plan_40 rfl ?_
  refine zr_iloadn X 2 dX6_plan_41 rfl ?_
  refine zr_iloadn X 3 dX6_plan_42 rfl ?_
  refine zr_dVv (C := RX6) (ci := 6) [.int (nI (f)), .int (nI (t)), .int (nI (1))] [] X (zK_ok A D tc tF tL tM) (c_lay1 E μ (f := f) (t := t) (by omega) ht1 ht9) k_664 k_666 kp_6 k_7 k_667 hdX6_lay ⟨rfl, rfl⟩ ⟨Nat.le_of_ble_eq_true rfl, Nat.le_of_ble_eq_true rfl⟩ (by omega) rfl rfl rfl rfl (Nat.le_of_ble_eq_true rfl) dX6_plan_43 ?_
  refine zr_aloadn X 0 dX6_plan_46 rfl ?_
  refine zr_get X (ci := 6) (q := 7) zI (.int ((zlay μ f (nI t) 1) (2450))) dX6_plan_47 (by omega) rfl rfl inX6 (by decide) rfl (congrArg Value.int (rfl)) rfl k_546 ?_
  refine zr_if_le X 56 dX6_plan_50 (by decide) (fun _ => ?_) (fun q => absurd (h) q)
  refine zr_iconst X (nI (0)) dX6_plan_56 (by decide +kernel) ?_
  refine zr_istore X [1, 2, 3, 4, 5, 0] [(0, .ref (ad (0))), (1, .int (nI (f))), (2, .int (nI (t))), (3, .int (nI (1))), (4, .int (nI (0))), (5, .int (nI (0)))] dX6_plan_57 (by decide) rfl ?_
  refine zr_iconst X (nI (0)) dX6_plan_59 (by decide +kernel) ?_
  refine zr_istore X [1, 2, 3, 4, 5, 6, 0] [(0, .ref (ad (0))), (1, .int (nI (f))), (2, .int (nI (t))), (3, .int (nI (1))), (4, .int (nI (0))), (5, .int (nI (0))), (6, .int (nI (0)))] dX6_plan_60 (by decide) rfl ?_
  refine zr_iconst X (nI (0)) dX6_plan_62 (by decide +kernel) ?_
  refine zr_istore X [1, 2, 3, 4, 5, 6, 7, 0] [(0, .ref (ad (0))), (1, .int (nI (f))), (2, .int (nI (t))), (3, .int (nI (1))), (4, .int (nI (0))), (5, .int (nI (0))), (6, .int (nI (0))), (7, .int (nI (0)))] dX6_plan_63 (by decide) rfl ?_
  refine zr_for X (20) (fun i => (zlay μ f (nI t) 1)) (fun i => [(0, .ref (ad (0))), (1, .int (nI (f))), (2, .int (nI (t))), (3, .int (nI (1))), (4, .int (nI (0))), (5, .int (nI (zcnt (fun v => zlay μ f (nI (t)) 1 (v + 2520)) (i)))), (6, .int (zsum (fun v => zlay μ f (nI (t)) 1 (v + 2520)) (i))), (7, .int (nI (i)))]) [] (rfl) rfl ?_ ?_
  · refine zr_iload X 7 dX6_plan_65 rfl ?_
    refine zr_bipush X (nI (20)) dX6_plan_67 (by decide +kernel) ?_
    refine zr_icmp_ge X 110 dX6_plan_69 (by decide) (fun _ => ?_) (fun q => absurd (zq_le (by omega) (by omega)) q)
    refine zr_iload X 4 dX6_plan_110 rfl ?_
    refine zr_if_ne X 120 dX6_plan_112 (by decide) (fun q => absurd (zq_eq0 (by omega)) q) (fun _ => ?_)
    refine zr_iload X 6 dX6_plan_115 rfl ?_
    refine zr_goto X 153 dX6_plan_117 (by decide) ?_
    exact zr_iret X dX6_plan_153 ⟨rfl, rfl⟩
  · intro i hi ih65
    refine zr_iload X 7 dX6_plan_65 rfl ?_
    refine zr_bipush X (nI (20)) dX6_plan_67 (by decide +kernel) ?_
    refine zr_icmp_ge X 110 dX6_plan_69 (by decide) (fun q => absurd q (nI_ge (by omega) (by omega))) (fun _ => ?_)
    refine zr_iload X 5 dX6_plan_72 rfl ?_
    refine zr_aloadn X 0 dX6_plan_74 rfl ?_
    refine zr_get X (ci := 6) (q := 5) (zR (3)) (.ref (ad (3))) dX6_plan_75 (by omega) rfl rfl inX6 (by decide) rfl (rfl) rfl k_544 ?_
    refine zr_iload X 7 dX6_plan_78 rfl ?_
    refine zr_iald X (j := i) 0 ((zlay μ f (nI t) 1) (i + 2520)) dX6_plan_80 (by omega) rfl rfl rfl (by omega) (by omega) (zcg (b := i + 2520) (by omega) (rfl)) ?_
    refine zr_if_le X 88 dX6_plan_81 (by decide) (fun h81 => ?_) (fun h81 => ?_)
    · refine zr_iconst X (nI (0)) dX6_plan_88 (by decide +kernel) ?_
      refine zr_iadd X (nI (zcnt (fun v => zlay μ f (nI (t)) 1 (v + 2520)) (i))) dX6_plan_89 ((nI_add _ _).trans (congrArg nI (by omega))) ?_
      refine zr_istore X [1, 2, 3, 4, 5, 0, 6, 7] [(0, .ref (ad (0))), (1, .int (nI (f))), (2, .int (nI (t))), (3, .int (nI (1))), (4, .int (nI (0))), (5, .int (nI (zcnt (fun v => zlay μ f (nI (t)) 1 (v + 2520)) (i)))), (6, .int (zsum (fun v => zlay μ f (nI (t)) 1 (v + 2520)) (i))), (7, .int (nI (i)))] dX6_plan_90 (by decide) rfl ?_
      refine zr_iload X 6 dX6_plan_92 rfl ?_
      refine zr_aloadn X 0 dX6_plan_94 rfl ?_
      refine zr_get X (ci := 6) (q := 5) (zR (3)) (.ref (ad (3))) dX6_plan_95 (by omega) rfl rfl inX6 (by decide) rfl (rfl) rfl k_544 ?_
      refine zr_iload X 7 dX6_plan_98 rfl ?_
      refine zr_iald X (j := i) 0 ((zlay μ f (nI t) 1) (i + 2520)) dX6_plan_100 (by omega) rfl rfl rfl (by omega) (by omega) (zcg (b := i + 2520) (by omega) (rfl)) ?_
      refine zr_iadd X ((zsum (fun v => zlay μ f (nI (t)) 1 (v + 2520)) (i)) + ((zlay μ f (nI t) 1) (i + 2520))) dX6_plan_101 rfl ?_
      refine zr_istore X [1, 2, 3, 4, 5, 6, 0, 7] [(0, .ref (ad (0))), (1, .int (nI (f))), (2, .int (nI (t))), (3, .int (nI (1))), (4, .int (nI (0))), (5, .int (nI (zcnt (fun v => zlay μ f (nI (t)) 1 (v + 2520)) (i)))), (6, .int ((zsum (fun v => zlay μ f (nI (t)) 1 (v + 2520)) (i)) + ((zlay μ f (nI t) 1) (i + 2520)))), (7, .int (nI (i)))] dX6_plan_102 (by decide) rfl ?_
      refine zr_iinc X 7 (nI (i + 1)) [1, 2, 3, 4, 5, 6, 7, 0] [(0, .ref (ad (0))), (1, .int (nI (f))), (2, .int (nI (t))), (3, .int (nI (1))), (4, .int (nI (0))), (5, .int (nI (zcnt (fun v => zlay μ f (nI (t)) 1 (v + 2520)) (i)))), (6, .int ((zsum (fun v => zlay μ f (nI (t)) 1 (v + 2520)) (i)) + ((zlay μ f (nI t) 1) (i + 2520)))), (7, .int (nI (i + 1)))] dX6_plan_104 rfl (zinc _) (by decide) rfl ?_
      refine zr_goto X 65 dX6_plan_107 (by decide) ?_
      exact zr_lv X (by simp only [zcnt, Nat.add_zero, if_pos h81]; rfl) ih65
    · refine zr_iconst X (nI (1)) dX6_plan_84 (by decide +kernel) ?_
      refine zr_goto X 89 dX6_plan_85 (by decide) ?_
      refine zr_iadd X (nI (zcnt (fun v => zlay μ f (nI (t)) 1 (v + 2520)) (i) + 1)) dX6_plan_89 (nI_add _ _) ?_
      refine zr_istore X [1, 2, 3, 4, 5, 0, 6, 7] [(0, .ref (ad (0))), (1, .int (nI (f))), (2, .int (nI (t))), (3, .int (nI (1))), (4, .int (nI (0))), (5, .int (nI (zcnt (fun v => zlay μ f (nI (t)) 1 (v + 2520)) (i) + 1))), (6, .int (zsum (fun v => zlay μ f (nI (t)) 1 (v + 2520)) (i))), (7, .int (nI (i)))] dX6_plan_90 (by decide) rfl ?_
      refine zr_iload X 6 dX6_plan_92 rfl ?_
      refine zr_aloadn X 0 dX6_plan_94 rfl ?_
      refine zr_get X (ci := 6) (q := 5) (zR (3)) (.ref (ad (3))) dX6_plan_95 (by omega) rfl rfl inX6 (by decide) rfl (rfl) rfl k_544 ?_
      refine zr_iload X 7 dX6_plan_98 rfl ?_
      refine zr_iald X (j := i) 0 ((zlay μ f (nI t) 1) (i + 2520)) dX6_plan_100 (by omega) rfl rfl rfl (by omega) (by omega) (zcg (b := i + 2520) (by omega) (rfl)) ?_
      refine zr_iadd X ((zsum (fun v => zlay μ f (nI (t)) 1 (v + 2520)) (i)) + ((zlay μ f (nI t) 1) (i + 2520))) dX6_plan_101 rfl ?_
      refine zr_istore X [1, 2, 3, 4, 5, 6, 0, 7] [(0, .ref (ad (0))), (1, .int (nI (f))), (2, .int (nI (t))), (3, .int (nI (1))), (4, .int (nI (0))), (5, .int (nI (zcnt (fun v => zlay μ f (nI (t)) 1 (v + 2520)) (i) + 1))), (6, .int ((zsum (fun v => zlay μ f (nI (t)) 1 (v + 2520)) (i)) + ((zlay μ f (nI t) 1) (i + 2520)))), (7, .int (nI (i)))] dX6_plan_102 (by decide) rfl ?_
      refine zr_iinc X 7 (nI (i + 1)) [1, 2, 3, 4, 5, 6, 7, 0] [(0, .ref (ad (0))), (1, .int (nI (f))), (2, .int (nI (t))), (3, .int (nI (1))), (4, .int (nI (0))), (5, .int (nI (zcnt (fun v => zlay μ f (nI (t)) 1 (v + 2520)) (i) + 1))), (6, .int ((zsum (fun v => zlay μ f (nI (t)) 1 (v + 2520)) (i)) + ((zlay μ f (nI t) 1) (i + 2520)))), (7, .int (nI (i + 1)))] dX6_plan_104 rfl (zinc _) (by decide) rfl ?_
      refine zr_goto X 65 dX6_plan_107 (by decide) ?_
      exact zr_lv X (by simp only [zcnt, Nat.add_zero, if_neg h81]; rfl) ih65

set_option maxHeartbeats 4000000 in
set_option maxRecDepth 100000 in
theorem c_plan_1_1 {l : Launch} {D : va_G} {tc : Nat → ClassId} {ad : Nat → Nat} {A : Nat → Prop} {tF tL tM : Nat} (E : zN 6 A ad) (μ : Nat → Int32) {m c k : Nat} (S : refS μ m c k) {f : Nat} (hf : f < c) {t : Nat} (ht1 : 1 ≤ t) (ht9 : t ≤ 9999) (h : zlay μ f (nI t) 1 2450 ≤ 0) : zMi l yX6_plan cX6_plan 8 (some .int) (zrm 6) (zK A D tc tF tL tM) A D vwCl tc ad 6 shR [.ref (ad (0)), .int (nI (f)), .int (nI (t)), .int (nI (1)), .int (nI (1))] μ (fun r u => r = zlay μ f (nI t) 1 2540 ∧ u = zlay μ f (nI t) 1) := by
  refine zM_of RX6 [(0, .ref (ad (0))), (1, .int (nI (f))), (2, .int (nI (t))), (3, .int (nI (1))), (4, .int (nI (1)))] (zK_ok A D tc tF tL tM) E.1 E.2 owR_ok (by decide +kernel) rfl (Nat.le_of_ble_eq_true rfl) rfl ?_
  intro pP eE sS mM aS bL mT cO X
  obtain ⟨hm, hm2, hc, h8, hk, hk4⟩ := S
  refine zr_aloadn X 0 dX6_plan_0 rfl ?_
  refine zr_iloadn X 1 dX6_plan_1 rfl ?_
  refine zr_dVi (C := RX6) (ci := 6) [.int (nI (f))] [] X (zK_ok A D tc tF tL tM) (c_isFirm_t E μ (hc) h8 (by omega)) k_611 k_613 kp_2 k_7 k_614 hdX6_isFirm ⟨rfl, rfl⟩ ⟨Nat.le_of_ble_eq_true rfl, Nat.le_of_ble_eq_true rfl⟩ (by omega) rfl rfl rfl rfl (Nat.le_of_ble_eq_true rfl) dX6_plan_2 ?_
  refine zr_if_ne X 10 dX6_plan_5 (by decide) (fun _ => ?_) (fun q => absurd q (nI_ne0 (by omega) (by omega)))
  refine zr_iloadn X 2 dX6_plan_10 rfl ?_
  refine zr_dSi [.int (nI (t))] [] X (zK_ok A D tc tF tL tM) (c_isTonnes_t E μ (by omega) (by omega)) k_615 k_616 k_7 k_617 hdX6_isTonnes ⟨rfl, rfl⟩ ⟨Nat.le_of_ble_eq_true rfl, Nat.le_of_ble_eq_true rfl⟩ rfl rfl (Nat.le_of_ble_eq_true rfl) dX6_plan_11 ?_
  refine zr_if_eq X 36 dX6_plan_14 (by decide) (fun q => absurd q (nI_ne0 (by omega) (by omega))) (fun _ => ?_)
  refine zr_iloadn X 3 dX6_plan_17 rfl ?_
  refine zr_iconst X (nI (0)) dX6_plan_18 (by decide +kernel) ?_
  refine zr_iconst X (nI (2)) dX6_plan_19 (by decide +kernel) ?_
  refine zr_dSi [.int (nI (1)), .int (nI (0)), .int (nI (2))] [] X (zK_ok A D tc tF tL tM) (c_in_t E μ (zq_le (by omega) (by omega)) (zq_le (by omega) (by omega))) k_604 k_605 k_7 k_606 hdX6_in ⟨rfl, rfl⟩ ⟨Nat.le_of_ble_eq_true rfl, Nat.le_of_ble_eq_true rfl⟩ rfl rfl (Nat.le_of_ble_eq_true rfl) dX6_plan_20 ?_
  refine zr_if_eq X 36 dX6_plan_23 (by decide) (fun q => absurd q (nI_ne0 (by omega) (by omega))) (fun _ => ?_)
  refine zr_iload X 4 dX6_plan_26 rfl ?_
  refine zr_iconst X (nI (0)) dX6_plan_28 (by decide +kernel) ?_
  refine zr_iconst X (nI (5)) dX6_plan_29 (by decide +kernel) ?_
  refine zr_dSi [.int (nI (1)), .int (nI (0)), .int (nI (5))] [] X (zK_ok A D tc tF tL tM) (c_in_t E μ (zq_le (by omega) (by omega)) (zq_le (by omega) (by omega))) k_604 k_605 k_7 k_606 hdX6_in ⟨rfl, rfl⟩ ⟨Nat.le_of_ble_eq_true rfl, Nat.le_of_ble_eq_true rfl⟩ rfl rfl (Nat.le_of_ble_eq_true rfl) dX6_plan_30 ?_
  refine zr_if_ne X 39 dX6_plan_33 (by decide) (fun _ => ?_) (fun q => absurd q (nI_ne0 (by omega) (by omega)))
  refine zr_aloadn X 0 dX6_plan_39 rfl ?_
  refine zr_iloadn X 1 dX6_plan_40 rfl ?_
  refine zr_iloadn X 2 dX6_plan_41 rfl ?_
  refine zr_iloadn X 3 dX6_plan_42 rfl ?_
  refine zr_dVv (C := RX6) (ci := 6) [.int (nI (f)), .int (nI (t)), .int (nI (1))] [] X (zK_ok A D tc tF tL tM) (c_lay1 E μ (f := f) (t := t) (by omega) ht1 ht9) k_664 k_666 kp_6 k_7 k_667 hdX6_lay ⟨rfl, rfl⟩ ⟨Nat.le_of_ble_eq_true rfl, Nat.le_of_ble_eq_true rfl⟩ (by omega) rfl rfl rfl rfl (Nat.le_of_ble_eq_true rfl) dX6_plan_43 ?_
  refine zr_aloadn X 0 dX6_plan_46 rfl ?_
  refine zr_get X (ci := 6) (q := 7) zI (.int ((zlay μ f (nI t) 1) (2450))) dX6_plan_47 (by omega) rfl rfl inX6 (by decide) rfl (congrArg Value.int (rfl)) rfl k_546 ?_
  refine zr_if_le X 56 dX6_plan_50 (by decide) (fun _ => ?_) (fun q => absurd (h) q)
  refine zr_iconst X (nI (0)) dX6_plan_56 (by decide +kernel) ?_
  refine zr_istore X [1, 2, 3, 4, 5, 0] [(0, .ref (ad (0))), (1, .int (nI (f))), (2, .int (nI (t))), (3, .int (nI (1))), (4, .int (nI (1))), (5, .int (nI (0)))] dX6_plan_57 (by decide) rfl ?_
  refine zr_iconst X (nI (0)) dX6_plan_59 (by decide +kernel) ?_
  refine zr_istore X [1, 2, 3, 4, 5, 6, 0] [(0, .ref (ad (0))), (1, .int (nI (f))), (2, .int (nI (t))), (3, .int (nI (1))), (4, .int (nI (1))), (5, .int (nI (0))), (6, .int (nI (0)))] dX6_plan_60 (by decide) rfl ?_
  refine zr_iconst X (nI (0)) dX6_plan_62 (by decide +kernel) ?_
  refine zr_istore X [1, 2, 3, 4, 5, 6, 7, 0] [(0, .ref (ad (0))), (1, .int (nI (f))), (2, .int (nI (t))), (3, .int (nI (1))), (4, .int (nI (1))), (5, .int (nI (0))), (6, .int (nI (0))), (7, .int (nI (0)))] dX6_plan_63 (by decide) rfl ?_
  refine zr_for X (20) (fun i => (zlay μ f (nI t) 1)) (fun i => [(0, .ref (ad (0))), (1, .int (nI (f))), (2, .int (nI (t))), (3, .int (nI (1))), (4, .int (nI (1))), (5, .int (nI (zcnt (fun v => zlay μ f (nI (t)) 1 (v + 2520)) (i)))), (6, .int (zsum (fun v => zlay μ f (nI (t)) 1 (v + 2520)) (i))), (7, .int (nI (i)))]) [] (rfl) rfl ?_ ?_
  · refine zr_iload X 7 dX6_plan_65 rfl ?_
    refine zr_bipush X (nI (20)) dX6_plan_67 (by decide +kernel) ?_
    refine zr_icmp_ge X 110 dX6_plan_69 (by decide) (fun _ => ?_) (fun q => absurd (zq_le (by omega) (by omega)) q)
    refine zr_iload X 4 dX6_plan_110 rfl ?_
    refine zr_if_ne X 120 dX6_plan_112 (by decide) (fun _ => ?_) (fun q => absurd q (nI_ne0 (by omega) (by omega)))
    refine zr_iload X 4 dX6_plan_120 rfl ?_
    refine zr_iconst X (nI (4)) dX6_plan_122 (by decide +kernel) ?_
    refine zr_icmp_ge X 138 dX6_plan_123 (by decide) (fun q => absurd q (nI_ge (by omega) (by omega))) (fun _ => ?_)
    refine zr_aloadn X 0 dX6_plan_126 rfl ?_
    refine zr_get X (ci := 6) (q := 6) (zR (4)) (.ref (ad (4))) dX6_plan_127 (by omega) rfl rfl inX6 (by decide) rfl (rfl) rfl k_545 ?_
    refine zr_iload X 4 dX6_plan_130 rfl ?_
    refine zr_iconst X (nI (1)) dX6_plan_132 (by decide +kernel) ?_
    refine zr_isub X (nI (0)) dX6_plan_133 ((pk_sub (by omega)).trans (congrArg nI (by omega))) ?_
    refine zr_iald X (j := 0) 0 ((zlay μ f (nI t) 1) (2540)) dX6_plan_134 (by omega) rfl rfl rfl (by omega) (by omega) (zcg (b := 2540) (by omega) (rfl)) ?_
    refine zr_goto X 153 dX6_plan_135 (by decide) ?_
    exact zr_iret X dX6_plan_153 ⟨rfl, rfl⟩
  · intro i hi ih65
    refine zr_iload X 7 dX6_plan_65 rfl ?_
    refine zr_bipush X (nI (20)) dX6_plan_67 (by decide +kernel) ?_
    refine zr_icmp_ge X 110 dX6_plan_69 (by decide) (fun q => absurd q (nI_ge (by omega) (by omega))) (fun _ => ?_)
    refine zr_iload X 5 dX6_plan_72 rfl ?_
    refine zr_aloadn X 0 dX6_plan_74 rfl ?_
    refine zr_get X (ci := 6) (q := 5) (zR (3)) (.ref (ad (3))) dX6_plan_75 (by omega) rfl rfl inX6 (by decide) rfl (rfl) rfl k_544 ?_
    refine zr_iload X 7 dX6_plan_78 rfl ?_
    refine zr_iald X (j := i) 0 ((zlay μ f (nI t) 1) (i + 2520)) dX6_plan_80 (by omega) rfl rfl rfl (by omega) (by omega) (zcg (b := i + 2520) (by omega) (rfl)) ?_
    refine zr_if_le X 88 dX6_plan_81 (by decide) (fun h81 => ?_) (fun h81 => ?_)
    · refine zr_iconst X (nI (0)) dX6_plan_88 (by decide +kernel) ?_
      refine zr_iadd X (nI (zcnt (fun v => zlay μ f (nI (t)) 1 (v + 2520)) (i))) dX6_plan_89 ((nI_add _ _).trans (congrArg nI (by omega))) ?_
      refine zr_istore X [1, 2, 3, 4, 5, 0, 6, 7] [(0, .ref (ad (0))), (1, .int (nI (f))), (2, .int (nI (t))), (3, .int (nI (1))), (4, .int (nI (1))), (5, .int (nI (zcnt (fun v => zlay μ f (nI (t)) 1 (v + 2520)) (i)))), (6, .int (zsum (fun v => zlay μ f (nI (t)) 1 (v + 2520)) (i))), (7, .int (nI (i)))] dX6_plan_90 (by decide) rfl ?_
      refine zr_iload X 6 dX6_plan_92 rfl ?_
      refine zr_aloadn X 0 dX6_plan_94 rfl ?_
      refine zr_get X (ci := 6) (q := 5) (zR (3)) (.ref (ad (3))) dX6_plan_95 (by omega) rfl rfl inX6 (by decide) rfl (rfl) rfl k_544 ?_
      refine zr_iload X 7 dX6_plan_98 rfl ?_
      refine zr_iald X (j := i) 0 ((zlay μ f (nI t) 1) (i + 2520)) dX6_plan_100 (by omega) rfl rfl rfl (by omega) (by omega) (zcg (b := i + 2520) (by omega) (rfl)) ?_
      refine zr_iadd X ((zsum (fun v => zlay μ f (nI (t)) 1 (v + 2520)) (i)) + ((zlay μ f (nI t) 1) (i + 2520))) dX6_plan_101 rfl ?_
      refine zr_istore X [1, 2, 3, 4, 5, 6, 0, 7] [(0, .ref (ad (0))), (1, .int (nI (f))), (2, .int (nI (t))), (3, .int (nI (1))), (4, .int (nI (1))), (5, .int (nI (zcnt (fun v => zlay μ f (nI (t)) 1 (v + 2520)) (i)))), (6, .int ((zsum (fun v => zlay μ f (nI (t)) 1 (v + 2520)) (i)) + ((zlay μ f (nI t) 1) (i + 2520)))), (7, .int (nI (i)))] dX6_plan_102 (by decide) rfl ?_
      refine zr_iinc X 7 (nI (i + 1)) [1, 2, 3, 4, 5, 6, 7, 0] [(0, .ref (ad (0))), (1, .int (nI (f))), (2, .int (nI (t))), (3, .int (nI (1))), (4, .int (nI (1))), (5, .int (nI (zcnt (fun v => zlay μ f (nI (t)) 1 (v + 2520)) (i)))), (6, .int ((zsum (fun v => zlay μ f (nI (t)) 1 (v + 2520)) (i)) + ((zlay μ f (nI t) 1) (i + 2520)))), (7, .int (nI (i + 1)))] dX6_plan_104 rfl (zinc _) (by decide) rfl ?_
      refine zr_goto X 65 dX6_plan_107 (by decide) ?_
      exact zr_lv X (by simp only [zcnt, Nat.add_zero, if_pos h81]; rfl) ih65
    · refine zr_iconst X (nI (1)) dX6_plan_84 (by decide +kernel) ?_
      refine zr_goto X 89 dX6_plan_85 (by decide) ?_
      refine zr_iadd X (nI (zcnt (fun v => zlay μ f (nI (t)) 1 (v + 2520)) (i) + 1)) dX6_plan_89 (nI_add _ _) ?_
      refine zr_istore X [1, 2, 3, 4, 5, 0, 6, 7] [(0, .ref (ad (0))), (1, .int (nI (f))), (2, .int (nI (t))), (3, .int (nI (1))), (4, .int (nI (1))), (5, .int (nI (zcnt (fun v => zlay μ f (nI (t)) 1 (v + 2520)) (i) + 1))), (6, .int (zsum (fun v => zlay μ f (nI (t)) 1 (v + 2520)) (i))), (7, .int (nI (i)))] dX6_plan_90 (by decide) rfl ?_
      refine zr_iload X 6 dX6_plan_92 rfl ?_
      refine zr_aloadn X 0 dX6_plan_94 rfl ?_
      refine zr_get X (ci := 6) (q := 5) (zR (3)) (.ref (ad (3))) dX6_plan_95 (by omega) rfl rfl inX6 (by decide) rfl (rfl) rfl k_544 ?_
      refine zr_iload X 7 dX6_plan_98 rfl ?_
      refine zr_iald X (j := i) 0 ((zlay μ f (nI t) 1) (i + 2520)) dX6_plan_100 (by omega) rfl rfl rfl (by omega) (by omega) (zcg (b := i + 2520) (by omega) (rfl)) ?_
      refine zr_iadd X ((zsum (fun v => zlay μ f (nI (t)) 1 (v + 2520)) (i)) + ((zlay μ f (nI t) 1) (i + 2520))) dX6_plan_101 rfl ?_
      refine zr_istore X [1, 2, 3, 4, 5, 6, 0, 7] [(0, .ref (ad (0))), (1, .int (nI (f))), (2, .int (nI (t))), (3, .int (nI (1))), (4, .int (nI (1))), (5, .int (nI (zcnt (fun v => zlay μ f (nI (t)) 1 (v + 2520)) (i) + 1))), (6, .int ((zsum (fun v => zlay μ f (nI (t)) 1 (v + 2520)) (i)) + ((zlay μ f (nI t) 1) (i + 2520)))), (7, .int (nI (i)))] dX6_plan_102 (by decide) rfl ?_
      refine zr_iinc X 7 (nI (i + 1)) [1, 2, 3, 4, 5, 6, 7, 0] [(0, .ref (ad (0))), (1, .int (nI (f))), (2, .int (nI (t))), (3, .int (nI (1))), (4, .int (nI (1))), (5, .int (nI (zcnt (fun v => zlay μ f (nI (t)) 1 (v + 2520)) (i) + 1))), (6, .int ((zsum (fun v => zlay μ f (nI (t)) 1 (v + 2520)) (i)) + ((zlay μ f (nI t) 1) (i + 2520)))), (7, .int (nI (i + 1)))] dX6_plan_104 rfl (zinc _) (by decide) rfl ?_
      refine zr_goto X 65 dX6_plan_107 (by decide) ?_
      exact zr_lv X (by simp only [zcnt, Nat.add_zero, if_neg h81]; rfl) ih65

set_option maxHeartbeats 4000000 in
set_option maxRecDepth 100000 in
theorem c_plan_1_2 {l : Launch} {D : va_G} {tc : Nat → ClassId} {ad : Nat → Nat} {A : Nat → Prop} {tF tL tM : Nat} (E : zN 6 A ad) (μ : Nat → Int32) {m c k : Nat} (S : refS μ m c k) {f : Nat} (hf : f < c) {t : Nat} (ht1 : 1 ≤ t) (ht9 : t ≤ 9999) (h : zlay μ f (nI t) 1 2450 ≤ 0) : zMi l yX6_plan cX6_plan 8 (some .int) (zrm 6) (zK A D tc tF tL tM) A D vwCl tc ad 6 shR [.ref (ad (0)), .int (nI (f)), .int (nI (t)), .int (nI (1)), .int (nI (2))] μ (fun r u => r = zlay μ f (nI t) 1 2541 ∧ u = zlay μ f (nI t) 1) := by
  refine zM_of RX6 [(0, .ref (ad (0))), (1, .int (nI (f))), (2, .int (nI (t))), (3, .int (nI (1))), (4, .int (nI (2)))] (zK_ok A D tc tF tL tM) E.1 E.2 owR_ok (by decide +kernel) rfl (Nat.le_of_ble_eq_true rfl) rfl ?_
  intro pP eE sS mM aS bL mT cO X
  obtain ⟨hm, hm2, hc, h8, hk, hk4⟩ := S
  refine zr_aloadn X 0 dX6_plan_0 rfl ?_
  refine zr_iloadn X 1 dX6_plan_1 rfl ?_
  refine zr_dVi (C := RX6) (ci := 6) [.int (nI (f))] [] X (zK_ok A D tc tF tL tM) (c_isFirm_t E μ (hc) h8 (by omega)) k_611 k_613 kp_2 k_7 k_614 hdX6_isFirm ⟨rfl, rfl⟩ ⟨Nat.le_of_ble_eq_true rfl, Nat.le_of_ble_eq_true rfl⟩ (by omega) rfl rfl rfl rfl (Nat.le_of_ble_eq_true rfl) dX6_plan_2 ?_
  refine zr_if_ne X 10 dX6_plan_5 (by decide) (fun _ => ?_) (fun q => absurd q (nI_ne0 (by omega) (by omega)))
  refine zr_iloadn X 2 dX6_plan_10 rfl ?_
  refine zr_dSi [.int (nI (t))] [] X (zK_ok A D tc tF tL tM) (c_isTonnes_t E μ (by omega) (by omega)) k_615 k_616 k_7 k_617 hdX6_isTonnes ⟨rfl, rfl⟩ ⟨Nat.le_of_ble_eq_true rfl, Nat.le_of_ble_eq_true rfl⟩ rfl rfl (Nat.le_of_ble_eq_true rfl) dX6_plan_11 ?_
  refine zr_if_eq X 36 dX6_plan_14 (by decide) (fun q => absurd q (nI_ne0 (by omega) (by omega))) (fun _ => ?_)
  refine zr_iloadn X 3 dX6_plan_17 rfl ?_
  refine zr_iconst X (nI (0)) dX6_plan_18 (by decide +kernel) ?_
  refine zr_iconst X (nI (2)) dX6_plan_19 (by decide +kernel) ?_
  refine zr_dSi [.int (nI (1)), .int (nI (0)), .int (nI (2))] [] X (zK_ok A D tc tF tL tM) (c_in_t E μ (zq_le (by omega) (by omega)) (zq_le (by omega) (by omega))) k_604 k_605 k_7 k_606 hdX6_in ⟨rfl, rfl⟩ ⟨Nat.le_of_ble_eq_true rfl, Nat.le_of_ble_eq_true rfl⟩ rfl rfl (Nat.le_of_ble_eq_true rfl) dX6_plan_20 ?_
  refine zr_if_eq X 36 dX6_plan_23 (by decide) (fun q => absurd q (nI_ne0 (by omega) (by omega))) (fun _ => ?_)
  refine zr_iload X 4 dX6_plan_26 rfl ?_
  refine zr_iconst X (nI (0)) dX6_plan_28 (by decide +kernel) ?_
  refine zr_iconst X (nI (5)) dX6_plan_29 (by decide +kernel) ?_
  refine zr_dSi [.int (nI (2)), .int (nI (0)), .int (nI (5))] [] X (zK_ok A D tc tF tL tM) (c_in_t E μ (zq_le (by omega) (by omega)) (zq_le (by omega) (by omega))) k_604 k_605 k_7 k_606 hdX6_in ⟨rfl, rfl⟩ ⟨Nat.le_of_ble_eq_true rfl, Nat.le_of_ble_eq_true rfl⟩ rfl rfl (Nat.le_of_ble_eq_true rfl) dX6_plan_30 ?_
  refine zr_if_ne X 39 dX6_plan_33 (by decide) (fun _ => ?_) (fun q => absurd q (nI_ne0 (by omega) (by omega)))
  refine zr_aloadn X 0 dX6_plan_39 rfl ?_
  refine zr_iloadn X 1 dX6_plan_40 rfl ?_
  refine zr_iloadn X 2 dX6_plan_41 rfl ?_
  refine zr_iloadn X 3 dX6_plan_42 rfl ?_
  refine zr_dVv (C := RX6) (ci := 6) [.int (nI (f)), .int (nI (t)), .int (nI (1))] [] X (zK_ok A D tc tF tL tM) (c_lay1 E μ (f := f) (t := t) (by omega) ht1 ht9) k_664 k_666 kp_6 k_7 k_667 hdX6_lay ⟨rfl, rfl⟩ ⟨Nat.le_of_ble_eq_true rfl, Nat.le_of_ble_eq_true rfl⟩ (by omega) rfl rfl rfl rfl (Nat.le_of_ble_eq_true rfl) dX6_plan_43 ?_
  refine zr_aloadn X 0 dX6_plan_46 rfl ?_
  refine zr_get X (ci := 6) (q := 7) zI (.int ((zlay μ f (nI t) 1) (2450))) dX6_plan_47 (by omega) rfl rfl inX6 (by decide) rfl (congrArg Value.int (rfl)) rfl k_546 ?_
  refine zr_if_le X 56 dX6_plan_50 (by decide) (fun _ => ?_) (fun q => absurd (h) q)
  refine zr_iconst X (nI (0)) dX6_plan_56 (by decide +kernel) ?_
  refine zr_istore X [1, 2, 3, 4, 5, 0] [(0, .ref (ad (0))), (1, .int (nI (f))), (2, .int (nI (t))), (3, .int (nI (1))), (4, .int (nI (2))), (5, .int (nI (0)))] dX6_plan_57 (by decide) rfl ?_
  refine zr_iconst X (nI (0)) dX6_plan_59 (by decide +kernel) ?_
  refine zr_istore X [1, 2, 3, 4, 5, 6, 0] [(0, .ref (ad (0))), (1, .int (nI (f))), (2, .int (nI (t))), (3, .int (nI (1))), (4, .int (nI (2))), (5, .int (nI (0))), (6, .int (nI (0)))] dX6_plan_60 (by decide) rfl ?_
  refine zr_iconst X (nI (0)) dX6_plan_62 (by decide +kernel) ?_
  refine zr_istore X [1, 2, 3, 4, 5, 6, 7, 0] [(0, .ref (ad (0))), (1, .int (nI (f))), (2, .int (nI (t))), (3, .int (nI (1))), (4, .int (nI (2))), (5, .int (nI (0))), (6, .int (nI (0))), (7, .int (nI (0)))] dX6_plan_63 (by decide) rfl ?_
  refine zr_for X (20) (fun i => (zlay μ f (nI t) 1)) (fun i => [(0, .ref (ad (0))), (1, .int (nI (f))), (2, .int (nI (t))), (3, .int (nI (1))), (4, .int (nI (2))), (5, .int (nI (zcnt (fun v => zlay μ f (nI (t)) 1 (v + 2520)) (i)))), (6, .int (zsum (fun v => zlay μ f (nI (t)) 1 (v + 2520)) (i))), (7, .int (nI (i)))]) [] (rfl) rfl ?_ ?_
  · refine zr_iload X 7 dX6_plan_65 rfl ?_
    refine zr_bipush X (nI (20)) dX6_plan_67 (by decide +kernel) ?_
    refine zr_icmp_ge X 110 dX6_plan_69 (by decide) (fun _ => ?_) (fun q => absurd (zq_le (by omega) (by omega)) q)
    refine zr_iload X 4 dX6_plan_110 rfl ?_
    refine zr_if_ne X 120 dX6_plan_112 (by decide) (fun _ => ?_) (fun q => absurd q (nI_ne0 (by omega) (by omega)))
    refine zr_iload X 4 dX6_plan_120 rfl ?_
    refine zr_iconst X (nI (4)) dX6_plan_122 (by decide +kernel) ?_
    refine zr_icmp_ge X 138 dX6_plan_123 (by decide) (fun q => absurd q (nI_ge (by omega) (by omega))) (fun _ => ?_)
    refine zr_aloadn X 0 dX6_plan_126 rfl ?_
    refine zr_get X (ci := 6) (q := 6) (zR (4)) (.ref (ad (4))) dX6_plan_127 (by omega) rfl rfl inX6 (by decide) rfl (rfl) rfl k_545 ?_
    refine zr_iload X 4 dX6_plan_130 rfl ?_
    refine zr_iconst X (nI (1)) dX6_plan_132 (by decide +kernel) ?_
    refine zr_isub X (nI (1)) dX6_plan_133 ((pk_sub (by omega)).trans (congrArg nI (by omega))) ?_
    refine zr_iald X (j := 1) 0 ((zlay μ f (nI t) 1) (2541)) dX6_plan_134 (by omega) rfl rfl rfl (by omega) (by omega) (zcg (b := 2541) (by omega) (rfl)) ?_
    refine zr_goto X 153 dX6_plan_135 (by decide) ?_
    exact zr_iret X dX6_plan_153 ⟨rfl, rfl⟩
  · intro i hi ih65
    refine zr_iload X 7 dX6_plan_65 rfl ?_
    refine zr_bipush X (nI (20)) dX6_plan_67 (by decide +kernel) ?_
    refine zr_icmp_ge X 110 dX6_plan_69 (by decide) (fun q => absurd q (nI_ge (by omega) (by omega))) (fun _ => ?_)
    refine zr_iload X 5 dX6_plan_72 rfl ?_
    refine zr_aloadn X 0 dX6_plan_74 rfl ?_
    refine zr_get X (ci := 6) (q := 5) (zR (3)) (.ref (ad (3))) dX6_plan_75 (by omega) rfl rfl inX6 (by decide) rfl (rfl) rfl k_544 ?_
    refine zr_iload X 7 dX6_plan_78 rfl ?_
    refine zr_iald X (j := i) 0 ((zlay μ f (nI t) 1) (i + 2520)) dX6_plan_80 (by omega) rfl rfl rfl (by omega) (by omega) (zcg (b := i + 2520) (by omega) (rfl)) ?_
    refine zr_if_le X 88 dX6_plan_81 (by decide) (fun h81 => ?_) (fun h81 => ?_)
    · refine zr_iconst X (nI (0)) dX6_plan_88 (by decide +kernel) ?_
      refine zr_iadd X (nI (zcnt (fun v => zlay μ f (nI (t)) 1 (v + 2520)) (i))) dX6_plan_89 ((nI_add _ _).trans (congrArg nI (by omega))) ?_
      refine zr_istore X [1, 2, 3, 4, 5, 0, 6, 7] [(0, .ref (ad (0))), (1, .int (nI (f))), (2, .int (nI (t))), (3, .int (nI (1))), (4, .int (nI (2))), (5, .int (nI (zcnt (fun v => zlay μ f (nI (t)) 1 (v + 2520)) (i)))), (6, .int (zsum (fun v => zlay μ f (nI (t)) 1 (v + 2520)) (i))), (7, .int (nI (i)))] dX6_plan_90 (by decide) rfl ?_
      refine zr_iload X 6 dX6_plan_92 rfl ?_
      refine zr_aloadn X 0 dX6_plan_94 rfl ?_
      refine zr_get X (ci := 6) (q := 5) (zR (3)) (.ref (ad (3))) dX6_plan_95 (by omega) rfl rfl inX6 (by decide) rfl (rfl) rfl k_544 ?_
      refine zr_iload X 7 dX6_plan_98 rfl ?_
      refine zr_iald X (j := i) 0 ((zlay μ f (nI t) 1) (i + 2520)) dX6_plan_100 (by omega) rfl rfl rfl (by omega) (by omega) (zcg (b := i + 2520) (by omega) (rfl)) ?_
      refine zr_iadd X ((zsum (fun v => zlay μ f (nI (t)) 1 (v + 2520)) (i)) + ((zlay μ f (nI t) 1) (i + 2520))) dX6_plan_101 rfl ?_
      refine zr_istore X [1, 2, 3, 4, 5, 6, 0, 7] [(0, .ref (ad (0))), (1, .int (nI (f))), (2, .int (nI (t))), (3, .int (nI (1))), (4, .int (nI (2))), (5, .int (nI (zcnt (fun v => zlay μ f (nI (t)) 1 (v + 2520)) (i)))), (6, .int ((zsum (fun v => zlay μ f (nI (t)) 1 (v + 2520)) (i)) + ((zlay μ f (nI t) 1) (i + 2520)))), (7, .int (nI (i)))] dX6_plan_102 (by decide) rfl ?_
      refine zr_iinc X 7 (nI (i + 1)) [1, 2, 3, 4, 5, 6, 7, 0] [(0, .ref (ad (0))), (1, .int (nI (f))), (2, .int (nI (t))), (3, .int (nI (1))), (4, .int (nI (2))), (5, .int (nI (zcnt (fun v => zlay μ f (nI (t)) 1 (v + 2520)) (i)))), (6, .int ((zsum (fun v => zlay μ f (nI (t)) 1 (v + 2520)) (i)) + ((zlay μ f (nI t) 1) (i + 2520)))), (7, .int (nI (i + 1)))] dX6_plan_104 rfl (zinc _) (by decide) rfl ?_
      refine zr_goto X 65 dX6_plan_107 (by decide) ?_
      exact zr_lv X (by simp only [zcnt, Nat.add_zero, if_pos h81]; rfl) ih65
    · refine zr_iconst X (nI (1)) dX6_plan_84 (by decide +kernel) ?_
      refine zr_goto X 89 dX6_plan_85 (by decide) ?_
      refine zr_iadd X (nI (zcnt (fun v => zlay μ f (nI (t)) 1 (v + 2520)) (i) + 1)) dX6_plan_89 (nI_add _ _) ?_
      refine zr_istore X [1, 2, 3, 4, 5, 0, 6, 7] [(0, .ref (ad (0))), (1, .int (nI (f))), (2, .int (nI (t))), (3, .int (nI (1))), (4, .int (nI (2))), (5, .int (nI (zcnt (fun v => zlay μ f (nI (t)) 1 (v + 2520)) (i) + 1))), (6, .int (zsum (fun v => zlay μ f (nI (t)) 1 (v + 2520)) (i))), (7, .int (nI (i)))] dX6_plan_90 (by decide) rfl ?_
      refine zr_iload X 6 dX6_plan_92 rfl ?_
      refine zr_aloadn X 0 dX6_plan_94 rfl ?_
      refine zr_get X (ci := 6) (q := 5) (zR (3)) (.ref (ad (3))) dX6_plan_95 (by omega) rfl rfl inX6 (by decide) rfl (rfl) rfl k_544 ?_
      refine zr_iload X 7 dX6_plan_98 rfl ?_
      refine zr_iald X (j := i) 0 ((zlay μ f (nI t) 1) (i + 2520)) dX6_plan_100 (by omega) rfl rfl rfl (by omega) (by omega) (zcg (b := i + 2520) (by omega) (rfl)) ?_
      refine zr_iadd X ((zsum (fun v => zlay μ f (nI (t)) 1 (v + 2520)) (i)) + ((zlay μ f (nI t) 1) (i + 2520))) dX6_plan_101 rfl ?_
      refine zr_istore X [1, 2, 3, 4, 5, 6, 0, 7] [(0, .ref (ad (0))), (1, .int (nI (f))), (2, .int (nI (t))), (3, .int (nI (1))), (4, .int (nI (2))), (5, .int (nI (zcnt (fun v => zlay μ f (nI (t)) 1 (v + 2520)) (i) + 1))), (6, .int ((zsum (fun v => zlay μ f (nI (t)) 1 (v + 2520)) (i)) + ((zlay μ f (nI t) 1) (i + 2520)))), (7, .int (nI (i)))] dX6_plan_102 (by decide) rfl ?_
      refine zr_iinc X 7 (nI (i + 1)) [1, 2, 3, 4, 5, 6, 7, 0] [(0, .ref (ad (0))), (1, .int (nI (f))), (2, .int (nI (t))), (3, .int (nI (1))), (4, .int (nI (2))), (5, .int (nI (zcnt (fun v => zlay μ f (nI (t)) 1 (v + 2520)) (i) + 1))), (6, .int ((zsum (fun v => zlay μ f (nI (t)) 1 (v + 2520)) (i)) + ((zlay μ f (nI t) 1) (i + 2520)))), (7, .int (nI (i + 1)))] dX6_plan_104 rfl (zinc _) (by decide) rfl ?_
      refine zr_goto X 65 dX6_plan_107 (by decide) ?_
      exact zr_lv X (by simp only [zcnt, Nat.add_zero, if_neg h81]; rfl) ih65

set_option maxHeartbeats 4000000 in
set_option maxRecDepth 100000 in
theorem c_plan_1_3 {l : Launch} {D : va_G} {tc : Nat → ClassId} {ad : Nat → Nat} {A : Nat → Prop} {tF tL tM : Nat} (E : zN 6 A ad) (μ : Nat → Int32) {m c k : Nat} (S : refS μ m c k) {f : Nat} (hf : f < c) {t : Nat} (ht1 : 1 ≤ t) (ht9 : t ≤ 9999) (h : zlay μ f (nI t) 1 2450 ≤ 0) : zMi l yX6_plan cX6_plan 8 (some .int) (zrm 6) (zK A D tc tF tL tM) A D vwCl tc ad 6 shR [.ref (ad (0)), .int (nI (f)), .int (nI (t)), .int (nI (1)), .int (nI (3))] μ (fun r u => r = zlay μ f (nI t) 1 2542 ∧ u = zlay μ f (nI t) 1) := by
  refine zM_of RX6 [(0, .ref (ad (0))), (1, .int (nI (f))), (2, .int (nI (t))), (3, .int (nI (1))), (4, .int (nI (3)))] (zK_ok A D tc tF tL tM) E.1 E.2 owR_ok (by decide +kernel) rfl (Nat.le_of_ble_eq_true rfl) rfl ?_
  intro pP eE sS mM aS bL mT cO X
  obtain ⟨hm, hm2, hc, h8, hk, hk4⟩ := S
  refine zr_aloadn X 0 dX6_plan_0 rfl ?_
  refine zr_iloadn X 1 dX6_plan_1 rfl ?_
  refine zr_dVi (C := RX6) (ci := 6) [.int (nI (f))] [] X (zK_ok A D tc tF tL tM) (c_isFirm_t E μ (hc) h8 (by omega)) k_611 k_613 kp_2 k_7 k_614 hdX6_isFirm ⟨rfl, rfl⟩ ⟨Nat.le_of_ble_eq_true rfl, Nat.le_of_ble_eq_true rfl⟩ (by omega) rfl rfl rfl rfl (Nat.le_of_ble_eq_true rfl) dX6_plan_2 ?_
  refine zr_if_ne X 10 dX6_plan_5 (by decide) (fun _ => ?_) (fun q => absurd q (nI_ne0 (by omega) (by omega)))
  refine zr_iloadn X 2 dX6_plan_10 rfl ?_
  refine zr_dSi [.int (nI (t))] [] X (zK_ok A D tc tF tL tM) (c_isTonnes_t E μ (by omega) (by omega)) k_615 k_616 k_7 k_617 hdX6_isTonnes ⟨rfl, rfl⟩ ⟨Nat.le_of_ble_eq_true rfl, Nat.le_of_ble_eq_true rfl⟩ rfl rfl (Nat.le_of_ble_eq_true rfl) dX6_plan_11 ?_
  refine zr_if_eq X 36 dX6_plan_14 (by decide) (fun q => absurd q (nI_ne0 (by omega) (by omega))) (fun _ => ?_)
  refine zr_iloadn X 3 dX6_plan_17 rfl ?_
  refine zr_iconst X (nI (0)) dX6_plan_18 (by decide +kernel) ?_
  refine zr_iconst X (nI (2)) dX6_plan_19 (by decide +kernel) ?_
  refine zr_dSi [.int (nI (1)), .int (nI (0)), .int (nI (2))] [] X (zK_ok A D tc tF tL tM) (c_in_t E μ (zq_le (by omega) (by omega)) (zq_le (by omega) (by omega))) k_604 k_605 k_7 k_606 hdX6_in ⟨rfl, rfl⟩ ⟨Nat.le_of_ble_eq_true rfl, Nat.le_of_ble_eq_true rfl⟩ rfl rfl (Nat.le_of_ble_eq_true rfl) dX6_plan_20 ?_
  refine zr_if_eq X 36 dX6_plan_23 (by decide) (fun q => absurd q (nI_ne0 (by omega) (by omega))) (fun _ => ?_)
  refine zr_iload X 4 dX6_plan_26 rfl ?_
  refine zr_iconst X (nI (0)) dX6_plan_28 (by decide +kernel) ?_
  refine zr_iconst X (nI (5)) dX6_plan_29 (by decide +kernel) ?_
  refine zr_dSi [.int (nI (3)), .int (nI (0)), .int (nI (5))] [] X (zK_ok A D tc tF tL tM) (c_in_t E μ (zq_le (by omega) (by omega)) (zq_le (by omega) (by omega))) k_604 k_605 k_7 k_606 hdX6_in ⟨rfl, rfl⟩ ⟨Nat.le_of_ble_eq_true rfl, Nat.le_of_ble_eq_true rfl⟩ rfl rfl (Nat.le_of_ble_eq_true rfl) dX6_plan_30 ?_
  refine zr_if_ne X 39 dX6_plan_33 (by decide) (fun _ => ?_) (fun q => absurd q (nI_ne0 (by omega) (by omega)))
  refine zr_aloadn X 0 dX6_plan_39 rfl ?_
  refine zr_iloadn X 1 dX6_plan_40 rfl ?_
  refine zr_iloadn X 2 dX6_plan_41 rfl ?_
  refine zr_iloadn X 3 dX6_plan_42 rfl ?_
  refine zr_dVv (C := RX6) (ci := 6) [.int (nI (f)), .int (nI (t)), .int (nI (1))] [] X (zK_ok A D tc tF tL tM) (c_lay1 E μ (f := f) (t := t) (by omega) ht1 ht9) k_664 k_666 kp_6 k_7 k_667 hdX6_lay ⟨rfl, rfl⟩ ⟨Nat.le_of_ble_eq_true rfl, Nat.le_of_ble_eq_true rfl⟩ (by omega) rfl rfl rfl rfl (Nat.le_of_ble_eq_true rfl) dX6_plan_43 ?_
  refine zr_aloadn X 0 dX6_plan_46 rfl ?_
  refine zr_get X (ci := 6) (q := 7) zI (.int ((zlay μ f (nI t) 1) (2450))) dX6_plan_47 (by omega) rfl rfl inX6 (by decide) rfl (congrArg Value.int (rfl)) rfl k_546 ?_
  refine zr_if_le X 56 dX6_plan_50 (by decide) (fun _ => ?_) (fun q => absurd (h) q)
  refine zr_iconst X (nI (0)) dX6_plan_56 (by decide +kernel) ?_
  refine zr_istore X [1, 2, 3, 4, 5, 0] [(0, .ref (ad (0))), (1, .int (nI (f))), (2, .int (nI (t))), (3, .int (nI (1))), (4, .int (nI (3))), (5, .int (nI (0)))] dX6_plan_57 (by decide) rfl ?_
  refine zr_iconst X (nI (0)) dX6_plan_59 (by decide +kernel) ?_
  refine zr_istore X [1, 2, 3, 4, 5, 6, 0] [(0, .ref (ad (0))), (1, .int (nI (f))), (2, .int (nI (t))), (3, .int (nI (1))), (4, .int (nI (3))), (5, .int (nI (0))), (6, .int (nI (0)))] dX6_plan_60 (by decide) rfl ?_
  refine zr_iconst X (nI (0)) dX6_plan_62 (by decide +kernel) ?_
  refine zr_istore X [1, 2, 3, 4, 5, 6, 7, 0] [(0, .ref (ad (0))), (1, .int (nI (f))), (2, .int (nI (t))), (3, .int (nI (1))), (4, .int (nI (3))), (5, .int (nI (0))), (6, .int (nI (0))), (7, .int (nI (0)))] dX6_plan_63 (by decide) rfl ?_
  refine zr_for X (20) (fun i => (zlay μ f (nI t) 1)) (fun i => [(0, .ref (ad (0))), (1, .int (nI (f))), (2, .int (nI (t))), (3, .int (nI (1))), (4, .int (nI (3))), (5, .int (nI (zcnt (fun v => zlay μ f (nI (t)) 1 (v + 2520)) (i)))), (6, .int (zsum (fun v => zlay μ f (nI (t)) 1 (v + 2520)) (i))), (7, .int (nI (i)))]) [] (rfl) rfl ?_ ?_
  · refine zr_iload X 7 dX6_plan_65 rfl ?_
    refine zr_bipush X (nI (20)) dX6_plan_67 (by decide +kernel) ?_
    refine zr_icmp_ge X 110 dX6_plan_69 (by decide) (fun _ => ?_) (fun q => absurd (zq_le (by omega) (by omega)) q)
    refine zr_iload X 4 dX6_plan_110 rfl ?_
    refine zr_if_ne X 120 dX6_plan_112 (by decide) (fun _ => ?_) (fun q => absurd q (nI_ne0 (by omega) (by omega)))
    refine zr_iload X 4 dX6_plan_120 rfl ?_
    refine zr_iconst X (nI (4)) dX6_plan_122 (by decide +kernel) ?_
    refine zr_icmp_ge X 138 dX6_plan_123 (by decide) (fun q => absurd q (nI_ge (by omega) (by omega))) (fun _ => ?_)
    refine zr_aloadn X 0 dX6_plan_126 rfl ?_
    refine zr_get X (ci := 6) (q := 6) (zR (4)) (.ref (ad (4))) dX6_plan_127 (by omega) rfl rfl inX6 (by decide) rfl (rfl) rfl k_545 ?_
    refine zr_iload X 4 dX6_plan_130 rfl ?_
    refine zr_iconst X (nI (1)) dX6_plan_132 (by decide +kernel) ?_
    refine zr_isub X (nI (2)) dX6_plan_133 ((pk_sub (by omega)).trans (congrArg nI (by omega))) ?_
    refine zr_iald X (j := 2) 0 ((zlay μ f (nI t) 1) (2542)) dX6_plan_134 (by omega) rfl rfl rfl (by omega) (by omega) (zcg (b := 2542) (by omega) (rfl)) ?_
    refine zr_goto X 153 dX6_plan_135 (by decide) ?_
    exact zr_iret X dX6_plan_153 ⟨rfl, rfl⟩
  · intro i hi ih65
    refine zr_iload X 7 dX6_plan_65 rfl ?_
    refine zr_bipush X (nI (20)) dX6_plan_67 (by decide +kernel) ?_
    refine zr_icmp_ge X 110 dX6_plan_69 (by decide) (fun q => absurd q (nI_ge (by omega) (by omega))) (fun _ => ?_)
    refine zr_iload X 5 dX6_plan_72 rfl ?_
    refine zr_aloadn X 0 dX6_plan_74 rfl ?_
    refine zr_get X (ci := 6) (q := 5) (zR (3)) (.ref (ad (3))) dX6_plan_75 (by omega) rfl rfl inX6 (by decide) rfl (rfl) rfl k_544 ?_
    refine zr_iload X 7 dX6_plan_78 rfl ?_
    refine zr_iald X (j := i) 0 ((zlay μ f (nI t) 1) (i + 2520)) dX6_plan_80 (by omega) rfl rfl rfl (by omega) (by omega) (zcg (b := i + 2520) (by omega) (rfl)) ?_
    refine zr_if_le X 88 dX6_plan_81 (by decide) (fun h81 => ?_) (fun h81 => ?_)
    · refine zr_iconst X (nI (0)) dX6_plan_88 (by decide +kernel) ?_
      refine zr_iadd X (nI (zcnt (fun v => zlay μ f (nI (t)) 1 (v + 2520)) (i))) dX6_plan_89 ((nI_add _ _).trans (congrArg nI (by omega))) ?_
      refine zr_istore X [1, 2, 3, 4, 5, 0, 6, 7] [(0, .ref (ad (0))), (1, .int (nI (f))), (2, .int (nI (t))), (3, .int (nI (1))), (4, .int (nI (3))), (5, .int (nI (zcnt (fun v => zlay μ f (nI (t)) 1 (v + 2520)) (i)))), (6, .int (zsum (fun v => zlay μ f (nI (t)) 1 (v + 2520)) (i))), (7, .int (nI (i)))] dX6_plan_90 (by decide) rfl ?_
      refine zr_iload X 6 dX6_plan_92 rfl ?_
      refine zr_aloadn X 0 dX6_plan_94 rfl ?_
      refine zr_get X (ci := 6) (q := 5) (zR (3)) (.ref (ad (3))) dX6_plan_95 (by omega) rfl rfl inX6 (by decide) rfl (rfl) rfl k_544 ?_
      refine zr_iload X 7 dX6_plan_98 rfl ?_
      refine zr_iald X (j := i) 0 ((zlay μ f (nI t) 1) (i + 2520)) dX6_plan_100 (by omega) rfl rfl rfl (by omega) (by omega) (zcg (b := i + 2520) (by omega) (rfl)) ?_
      refine zr_iadd X ((zsum (fun v => zlay μ f (nI (t)) 1 (v + 2520)) (i)) + ((zlay μ f (nI t) 1) (i + 2520))) dX6_plan_101 rfl ?_
      refine zr_istore X [1, 2, 3, 4, 5, 6, 0, 7] [(0, .ref (ad (0))), (1, .int (nI (f))), (2, .int (nI (t))), (3, .int (nI (1))), (4, .int (nI (3))), (5, .int (nI (zcnt (fun v => zlay μ f (nI (t)) 1 (v + 2520)) (i)))), (6, .int ((zsum (fun v => zlay μ f (nI (t)) 1 (v + 2520)) (i)) + ((zlay μ f (nI t) 1) (i + 2520)))), (7, .int (nI (i)))] dX6_plan_102 (by decide) rfl ?_
      refine zr_iinc X 7 (nI (i + 1)) [1, 2, 3, 4, 5, 6, 7, 0] [(0, .ref (ad (0))), (1, .int (nI (f))), (2, .int (nI (t))), (3, .int (nI (1))), (4, .int (nI (3))), (5, .int (nI (zcnt (fun v => zlay μ f (nI (t)) 1 (v + 2520)) (i)))), (6, .int ((zsum (fun v => zlay μ f (nI (t)) 1 (v + 2520)) (i)) + ((zlay μ f (nI t) 1) (i + 2520)))), (7, .int (nI (i + 1)))] dX6_plan_104 rfl (zinc _) (by decide) rfl ?_
      refine zr_goto X 65 dX6_plan_107 (by decide) ?_
      exact zr_lv X (by simp only [zcnt, Nat.add_zero, if_pos h81]; rfl) ih65
    · refine zr_iconst X (nI (1)) dX6_plan_84 (by decide +kernel) ?_
      refine zr_goto X 89 dX6_plan_85 (by decide) ?_
      refine zr_iadd X (nI (zcnt (fun v => zlay μ f (nI (t)) 1 (v + 2520)) (i) + 1)) dX6_plan_89 (nI_add _ _) ?_
      refine zr_istore X [1, 2, 3, 4, 5, 0, 6, 7] [(0, .ref (ad (0))), (1, .int (nI (f))), (2, .int (nI (t))), (3, .int (nI (1))), (4, .int (nI (3))), (5, .int (nI (zcnt (fun v => zlay μ f (nI (t)) 1 (v + 2520)) (i) + 1))), (6, .int (zsum (fun v => zlay μ f (nI (t)) 1 (v + 2520)) (i))), (7, .int (nI (i)))] dX6_plan_90 (by decide) rfl ?_
      refine zr_iload X 6 dX6_plan_92 rfl ?_
      refine zr_aloadn X 0 dX6_plan_94 rfl ?_
      refine zr_get X (ci := 6) (q := 5) (zR (3)) (.ref (ad (3))) dX6_plan_95 (by omega) rfl rfl inX6 (by decide) rfl (rfl) rfl k_544 ?_
      refine zr_iload X 7 dX6_plan_98 rfl ?_
      refine zr_iald X (j := i) 0 ((zlay μ f (nI t) 1) (i + 2520)) dX6_plan_100 (by omega) rfl rfl rfl (by omega) (by omega) (zcg (b := i + 2520) (by omega) (rfl)) ?_
      refine zr_iadd X ((zsum (fun v => zlay μ f (nI (t)) 1 (v + 2520)) (i)) + ((zlay μ f (nI t) 1) (i + 2520))) dX6_plan_101 rfl ?_
      refine zr_istore X [1, 2, 3, 4, 5, 6, 0, 7] [(0, .ref (ad (0))), (1, .int (nI (f))), (2, .int (nI (t))), (3, .int (nI (1))), (4, .int (nI (3))), (5, .int (nI (zcnt (fun v => zlay μ f (nI (t)) 1 (v + 2520)) (i) + 1))), (6, .int ((zsum (fun v => zlay μ f (nI (t)) 1 (v + 2520)) (i)) + ((zlay μ f (nI t) 1) (i + 2520)))), (7, .int (nI (i)))] dX6_plan_102 (by decide) rfl ?_
      refine zr_iinc X 7 (nI (i + 1)) [1, 2, 3, 4, 5, 6, 7, 0] [(0, .ref (ad (0))), (1, .int (nI (f))), (2, .int (nI (t))), (3, .int (nI (1))), (4, .int (nI (3))), (5, .int (nI (zcnt (fun v => zlay μ f (nI (t)) 1 (v + 2520)) (i) + 1))), (6, .int ((zsum (fun v => zlay μ f (nI (t)) 1 (v + 2520)) (i)) + ((zlay μ f (nI t) 1) (i + 2520)))), (7, .int (nI (i + 1)))] dX6_plan_104 rfl (zinc _) (by decide) rfl ?_
      refine zr_goto X 65 dX6_plan_107 (by decide) ?_
      exact zr_lv X (by simp only [zcnt, Nat.add_zero, if_neg h81]; rfl) ih65

set_option maxHeartbeats 4000000 in
set_option maxRecDepth 100000 in
theorem c_plan_1_4 {l : Launch} {D : va_G} {tc : Nat → ClassId} {ad : Nat → Nat} {A : Nat → Prop} {tF tL tM : Nat} (E : zN 6 A ad) (μ : Nat → Int32) {m c k : Nat} (S : refS μ m c k) {f : Nat} (hf : f < c) {t : Nat} (ht1 : 1 ≤ t) (ht9 : t ≤ 9999) (h : zlay μ f (nI t) 1 2450 ≤ 0) : zMi l yX6_plan cX6_plan 8 (some .int) (zrm 6) (zK A D tc tF tL tM) A D vwCl tc ad 6 shR [.ref (ad (0)), .int (nI (f)), .int (nI (t)), .int (nI (1)), .int (nI (4))] μ (fun r u => r = nI (zcnt (fun v => zlay μ f (nI (t)) 1 (v + 2520)) 20) ∧ u = zlay μ f (nI t) 1) := by
  refine zM_of RX6 [(0, .ref (ad (0))), (1, .int (nI (f))), (2, .int (nI (t))), (3, .int (nI (1))), (4, .int (nI (4)))] (zK_ok A D tc tF tL tM) E.1 E.2 owR_ok (by decide +kernel) rfl (Nat.le_of_ble_eq_true rfl) rfl ?_
  intro pP eE sS mM aS bL mT cO X
  obtain ⟨hm, hm2, hc, h8, hk, hk4⟩ := S
  refine zr_aloadn X 0 dX6_plan_0 rfl ?_
  refine zr_iloadn X 1 dX6_plan_1 rfl ?_
  refine zr_dVi (C := RX6) (ci := 6) [.int (nI (f))] [] X (zK_ok A D tc tF tL tM) (c_isFirm_t E μ (hc) h8 (by omega)) k_611 k_613 kp_2 k_7 k_614 hdX6_isFirm ⟨rfl, rfl⟩ ⟨Nat.le_of_ble_eq_true rfl, Nat.le_of_ble_eq_true rfl⟩ (by omega) rfl rfl rfl rfl (Nat.le_of_ble_eq_true rfl) dX6_plan_2 ?_
  refine zr_if_ne X 10 dX6_plan_5 (by decide) (fun _ => ?_) (fun q => absurd q (nI_ne0 (by omega) (by omega)))
  refine zr_iloadn X 2 dX6_plan_10 rfl ?_
  refine zr_dSi [.int (nI (t))] [] X (zK_ok A D tc tF tL tM) (c_isTonnes_t E μ (by omega) (by omega)) k_615 k_616 k_7 k_617 hdX6_isTonnes ⟨rfl, rfl⟩ ⟨Nat.le_of_ble_eq_true rfl, Nat.le_of_ble_eq_true rfl⟩ rfl rfl (Nat.le_of_ble_eq_true rfl) dX6_plan_11 ?_
  refine zr_if_eq X 36 dX6_plan_14 (by decide) (fun q => absurd q (nI_ne0 (by omega) (by omega))) (fun _ => ?_)
  refine zr_iloadn X 3 dX6_plan_17 rfl ?_
  refine zr_iconst X (nI (0)) dX6_plan_18 (by decide +kernel) ?_
  refine zr_iconst X (nI (2)) dX6_plan_19 (by decide +kernel) ?_
  refine zr_dSi [.int (nI (1)), .int (nI (0)), .int (nI (2))] [] X (zK_ok A D tc tF tL tM) (c_in_t E μ (zq_le (by omega) (by omega)) (zq_le (by omega) (by omega))) k_604 k_605 k_7 k_606 hdX6_in ⟨rfl, rfl⟩ ⟨Nat.le_of_ble_eq_true rfl, Nat.le_of_ble_eq_true rfl⟩ rfl rfl (Nat.le_of_ble_eq_true rfl) dX6_plan_20 ?_
  refine zr_if_eq X 36 dX6_plan_23 (by decide) (fun q => absurd q (nI_ne0 (by omega) (by omega))) (fun _ => ?_)
  refine zr_iload X 4 dX6_plan_26 rfl ?_
  refine zr_iconst X (nI (0)) dX6_plan_28 (by decide +kernel) ?_
  refine zr_iconst X (nI (5)) dX6_plan_29 (by decide +kernel) ?_
  refine zr_dSi [.int (nI (4)), .int (nI (0)), .int (nI (5))] [] X (zK_ok A D tc tF tL tM) (c_in_t E μ (zq_le (by omega) (by omega)) (zq_le (by omega) (by omega))) k_604 k_605 k_7 k_606 hdX6_in ⟨rfl, rfl⟩ ⟨Nat.le_of_ble_eq_true rfl, Nat.le_of_ble_eq_true rfl⟩ rfl rfl (Nat.le_of_ble_eq_true rfl) dX6_plan_30 ?_
  refine zr_if_ne X 39 dX6_plan_33 (by decide) (fun _ => ?_) (fun q => absurd q (nI_ne0 (by omega) (by omega)))
  refine zr_aloadn X 0 dX6_plan_39 rfl ?_
  refine zr_iloadn X 1 dX6_plan_40 rfl ?_
  refine zr_iloadn X 2 dX6_plan_41 rfl ?_
  refine zr_iloadn X 3 dX6_plan_42 rfl ?_
  refine zr_dVv (C := RX6) (ci := 6) [.int (nI (f)), .int (nI (t)), .int (nI (1))] [] X (zK_ok A D tc tF tL tM) (c_lay1 E μ (f := f) (t := t) (by omega) ht1 ht9) k_664 k_666 kp_6 k_7 k_667 hdX6_lay ⟨rfl, rfl⟩ ⟨Nat.le_of_ble_eq_true rfl, Nat.le_of_ble_eq_true rfl⟩ (by omega) rfl rfl rfl rfl (Nat.le_of_ble_eq_true rfl) dX6_plan_43 ?_
  refine zr_aloadn X 0 dX6_plan_46 rfl ?_
  refine zr_get X (ci := 6) (q := 7) zI (.int ((zlay μ f (nI t) 1) (2450))) dX6_plan_47 (by omega) rfl rfl inX6 (by decide) rfl (congrArg Value.int (rfl)) rfl k_546 ?_
  refine zr_if_le X 56 dX6_plan_50 (by decide) (fun _ => ?_) (fun q => absurd (h) q)
  refine zr_iconst X (nI (0)) dX6_plan_56 (by decide +kernel) ?_
  refine zr_istore X [1, 2, 3, 4, 5, 0] [(0, .ref (ad (0))), (1, .int (nI (f))), (2, .int (nI (t))), (3, .int (nI (1))), (4, .int (nI (4))), (5, .int (nI (0)))] dX6_plan_57 (by decide) rfl ?_
  refine zr_iconst X (nI (0)) dX6_plan_59 (by decide +kernel) ?_
  refine zr_istore X [1, 2, 3, 4, 5, 6, 0] [(0, .ref (ad (0))), (1, .int (nI (f))), (2, .int (nI (t))), (3, .int (nI (1))), (4, .int (nI (4))), (5, .int (nI (0))), (6, .int (nI (0)))] dX6_plan_60 (by decide) rfl ?_
  refine zr_iconst X (nI (0)) dX6_plan_62 (by decide +kernel) ?_
  refine zr_istore X [1, 2, 3, 4, 5, 6, 7, 0] [(0, .ref (ad (0))), (1, .int (nI (f))), (2, .int (nI (t))), (3, .int (nI (1))), (4, .int (nI (4))), (5, .int (nI (0))), (6, .int (nI (0))), (7, .int (nI (0)))] dX6_plan_63 (by decide) rfl ?_
  refine zr_for X (20) (fun i => (zlay μ f (nI t) 1)) (fun i => [(0, .ref (ad (0))), (1, .int (nI (f))), (2, .int (nI (t))), (3, .int (nI (1))), (4, .int (nI (4))), (5, .int (nI (zcnt (fun v => zlay μ f (nI (t)) 1 (v + 2520)) (i)))), (6, .int (zsum (fun v => zlay μ f (nI (t)) 1 (v + 2520)) (i))), (7, .int (nI (i)))]) [] (rfl) rfl ?_ ?_
  · refine zr_iload X 7 dX6_plan_65 rfl ?_
    refine zr_bipush X (nI (20)) dX6_plan_67 (by decide +kernel) ?_
    refine zr_icmp_ge X 110 dX6_plan_69 (by decide) (fun _ => ?_) (fun q => absurd (zq_le (by omega) (by omega)) q)
    refine zr_iload X 4 dX6_plan_110 rfl ?_
    refine zr_if_ne X 120 dX6_plan_112 (by decide) (fun _ => ?_) (fun q => absurd q (nI_ne0 (by omega) (by omega)))
    refine zr_iload X 4 dX6_plan_120 rfl ?_
    refine zr_iconst X (nI (4)) dX6_plan_122 (by decide +kernel) ?_
    refine zr_icmp_ge X 138 dX6_plan_123 (by decide) (fun _ => ?_) (fun q => absurd (zq_le (by omega) (by omega)) q)
    refine zr_iload X 4 dX6_plan_138 rfl ?_
    refine zr_iconst X (nI (4)) dX6_plan_140 (by decide +kernel) ?_
    refine zr_icmp_ne X 149 dX6_plan_141 (by decide) (fun q => absurd (zq_eq (by omega)) q) (fun _ => ?_)
    refine zr_iload X 5 dX6_plan_144 rfl ?_
    refine zr_goto X 153 dX6_plan_146 (by decide) ?_
    exact zr_iret X dX6_plan_153 ⟨rfl, rfl⟩
  · intro i hi ih65
    refine zr_iload X 7 dX6_plan_65 rfl ?_
    refine zr_bipush X (nI (20)) dX6_plan_67 (by decide +kernel) ?_
    refine zr_icmp_ge X 110 dX6_plan_69 (by decide) (fun q => absurd q (nI_ge (by omega) (by omega))) (fun _ => ?_)
    refine zr_iload X 5 dX6_plan_72 rfl ?_
    refine zr_aloadn X 0 dX6_plan_74 rfl ?_
    refine zr_get X (ci := 6) (q := 5) (zR (3)) (.ref (ad (3))) dX6_plan_75 (by omega) rfl rfl inX6 (by decide) rfl (rfl) rfl k_544 ?_
    refine zr_iload X 7 dX6_plan_78 rfl ?_
    refine zr_iald X (j := i) 0 ((zlay μ f (nI t) 1) (i + 2520)) dX6_plan_80 (by omega) rfl rfl rfl (by omega) (by omega) (zcg (b := i + 2520) (by omega) (rfl)) ?_
    refine zr_if_le X 88 dX6_plan_81 (by decide) (fun h81 => ?_) (fun h81 => ?_)
    · refine zr_iconst X (nI (0)) dX6_plan_88 (by decide +kernel) ?_
      refine zr_iadd X (nI (zcnt (fun v => zlay μ f (nI (t)) 1 (v + 2520)) (i))) dX6_plan_89 ((nI_add _ _).trans (congrArg nI (by omega))) ?_
      refine zr_istore X [1, 2, 3, 4, 5, 0, 6, 7] [(0, .ref (ad (0))), (1, .int (nI (f))), (2, .int (nI (t))), (3, .int (nI (1))), (4, .int (nI (4))), (5, .int (nI (zcnt (fun v => zlay μ f (nI (t)) 1 (v + 2520)) (i)))), (6, .int (zsum (fun v => zlay μ f (nI (t)) 1 (v + 2520)) (i))), (7, .int (nI (i)))] dX6_plan_90 (by decide) rfl ?_
      refine zr_iload X 6 dX6_plan_92 rfl ?_
      refine zr_aloadn X 0 dX6_plan_94 rfl ?_
      refine zr_get X (ci := 6) (q := 5) (zR (3)) (.ref (ad (3))) dX6_plan_95 (by omega) rfl rfl inX6 (by decide) rfl (rfl) rfl k_544 ?_
      refine zr_iload X 7 dX6_plan_98 rfl ?_
      refine zr_iald X (j := i) 0 ((zlay μ f (nI t) 1) (i + 2520)) dX6_plan_100 (by omega) rfl rfl rfl (by omega) (by omega) (zcg (b := i + 2520) (by omega) (rfl)) ?_
      refine zr_iadd X ((zsum (fun v => zlay μ f (nI (t)) 1 (v + 2520)) (i)) + ((zlay μ f (nI t) 1) (i + 2520))) dX6_plan_101 rfl ?_
      refine zr_istore X [1, 2, 3, 4, 5, 6, 0, 7] [(0, .ref (ad (0))), (1, .int (nI (f))), (2, .int (nI (t))), (3, .int (nI (1))), (4, .int (nI (4))), (5, .int (nI (zcnt (fun v => zlay μ f (nI (t)) 1 (v + 2520)) (i)))), (6, .int ((zsum (fun v => zlay μ f (nI (t)) 1 (v + 2520)) (i)) + ((zlay μ f (nI t) 1) (i + 2520)))), (7, .int (nI (i)))] dX6_plan_102 (by decide) rfl ?_
      refine zr_iinc X 7 (nI (i + 1)) [1, 2, 3, 4, 5, 6, 7, 0] [(0, .ref (ad (0))), (1, .int (nI (f))), (2, .int (nI (t))), (3, .int (nI (1))), (4, .int (nI (4))), (5, .int (nI (zcnt (fun v => zlay μ f (nI (t)) 1 (v + 2520)) (i)))), (6, .int ((zsum (fun v => zlay μ f (nI (t)) 1 (v + 2520)) (i)) + ((zlay μ f (nI t) 1) (i + 2520)))), (7, .int (nI (i + 1)))] dX6_plan_104 rfl (zinc _) (by decide) rfl ?_
      refine zr_goto X 65 dX6_plan_107 (by decide) ?_
      exact zr_lv X (by simp only [zcnt, Nat.add_zero, if_pos h81]; rfl) ih65
    · refine zr_iconst X (nI (1)) dX6_plan_84 (by decide +kernel) ?_
      refine zr_goto X 89 dX6_plan_85 (by decide) ?_
      refine zr_iadd X (nI (zcnt (fun v => zlay μ f (nI (t)) 1 (v + 2520)) (i) + 1)) dX6_plan_89 (nI_add _ _) ?_
      refine zr_istore X [1, 2, 3, 4, 5, 0, 6, 7] [(0, .ref (ad (0))), (1, .int (nI (f))), (2, .int (nI (t))), (3, .int (nI (1))), (4, .int (nI (4))), (5, .int (nI (zcnt (fun v => zlay μ f (nI (t)) 1 (v + 2520)) (i) + 1))), (6, .int (zsum (fun v => zlay μ f (nI (t)) 1 (v + 2520)) (i))), (7, .int (nI (i)))] dX6_plan_90 (by decide) rfl ?_
      refine zr_iload X 6 dX6_plan_92 rfl ?_
      refine zr_aloadn X 0 dX6_plan_94 rfl ?_
      refine zr_get X (ci := 6) (q := 5) (zR (3)) (.ref (ad (3))) dX6_plan_95 (by omega) rfl rfl inX6 (by decide) rfl (rfl) rfl k_544 ?_
      refine zr_iload X 7 dX6_plan_98 rfl ?_
      refine zr_iald X (j := i) 0 ((zlay μ f (nI t) 1) (i + 2520)) dX6_plan_100 (by omega) rfl rfl rfl (by omega) (by omega) (zcg (b := i + 2520) (by omega) (rfl)) ?_
      refine zr_iadd X ((zsum (fun v => zlay μ f (nI (t)) 1 (v + 2520)) (i)) + ((zlay μ f (nI t) 1) (i + 2520))) dX6_plan_101 rfl ?_
      refine zr_istore X [1, 2, 3, 4, 5, 6, 0, 7] [(0, .ref (ad (0))), (1, .int (nI (f))), (2, .int (nI (t))), (3, .int (nI (1))), (4, .int (nI (4))), (5, .int (nI (zcnt (fun v => zlay μ f (nI (t)) 1 (v + 2520)) (i) + 1))), (6, .int ((zsum (fun v => zlay μ f (nI (t)) 1 (v + 2520)) (i)) + ((zlay μ f (nI t) 1) (i + 2520)))), (7, .int (nI (i)))] dX6_plan_102 (by decide) rfl ?_
      refine zr_iinc X 7 (nI (i + 1)) [1, 2, 3, 4, 5, 6, 7, 0] [(0, .ref (ad (0))), (1, .int (nI (f))), (2, .int (nI (t))), (3, .int (nI (1))), (4, .int (nI (4))), (5, .int (nI (zcnt (fun v => zlay μ f (nI (t)) 1 (v + 2520)) (i) + 1))), (6, .int ((zsum (fun v => zlay μ f (nI (t)) 1 (v + 2520)) (i)) + ((zlay μ f (nI t) 1) (i + 2520)))), (7, .int (nI (i + 1)))] dX6_plan_104 rfl (zinc _) (by decide) rfl ?_
      refine zr_goto X 65 dX6_plan_107 (by decide) ?_
      exact zr_lv X (by simp only [zcnt, Nat.add_zero, if_neg h81]; rfl) ih65

set_option maxHeartbeats 4000000 in
set_option maxRecDepth 100000 in
theorem c_plan_1_5 {l : Launch} {D : va_G} {tc : Nat → ClassId} {ad : Nat → Nat} {A : Nat → Prop} {tF tL tM : Nat} (E : zN 6 A ad) (μ : Nat → Int32) {m c k : Nat} (S : refS μ m c k) {f : Nat} (hf : f < c) {t : Nat} (ht1 : 1 ≤ t) (ht9 : t ≤ 9999) (h : zlay μ f (nI t) 1 2450 ≤ 0) : zMi l yX6_plan cX6_plan 8 (some .int) (zrm 6) (zK A D tc tF tL tM) A D vwCl tc ad 6 shR [.ref (ad (0)), .int (nI (f)), .int (nI (t)), .int (nI (1)), .int (nI (5))] μ (fun r u => r = zlay μ f (nI t) 1 2451 ∧ u = zlay μ f (nI t) 1) := by
  refine zM_of RX6 [(0, .ref (ad (0))), (1, .int (nI (f))), (2, .int (nI (t))), (3, .int (nI (1))), (4, .int (nI (5)))] (zK_ok A D tc tF tL tM) E.1 E.2 owR_ok (by decide +kernel) rfl (Nat.le_of_ble_eq_true rfl) rfl ?_
  intro pP eE sS mM aS bL mT cO X
  obtain ⟨hm, hm2, hc, h8, hk, hk4⟩ := S
  refine zr_aloadn X 0 dX6_plan_0 rfl ?_
  refine zr_iloadn X 1 dX6_plan_1 rfl ?_
  refine zr_dVi (C := RX6) (ci := 6) [.int (nI (f))] [] X (zK_ok A D tc tF tL tM) (c_isFirm_t E μ (hc) h8 (by omega)) k_611 k_613 kp_2 k_7 k_614 hdX6_isFirm ⟨rfl, rfl⟩ ⟨Nat.le_of_ble_eq_true rfl, Nat.le_of_ble_eq_true rfl⟩ (by omega) rfl rfl rfl rfl (Nat.le_of_ble_eq_true rfl) dX6_plan_2 ?_
  refine zr_if_ne X 10 dX6_plan_5 (by decide) (fun _ => ?_) (fun q => absurd q (nI_ne0 (by omega) (by omega)))
  refine zr_iloadn X 2 dX6_plan_10 rfl ?_
  refine zr_dSi [.int (nI (t))] [] X (zK_ok A D tc tF tL tM) (c_isTonnes_t E μ (by omega) (by omega)) k_615 k_616 k_7 k_617 hdX6_isTonnes ⟨rfl, rfl⟩ ⟨Nat.le_of_ble_eq_true rfl, Nat.le_of_ble_eq_true rfl⟩ rfl rfl (Nat.le_of_ble_eq_true rfl) dX6_plan_11 ?_
  refine zr_if_eq X 36 dX6_plan_14 (by decide) (fun q => absurd q (nI_ne0 (by omega) (by omega))) (fun _ => ?_)
  refine zr_iloadn X 3 dX6_plan_17 rfl ?_
  refine zr_iconst X (nI (0)) dX6_plan_18 (by decide +kernel) ?_
  refine zr_iconst X (nI (2)) dX6_plan_19 (by decide +kernel) ?_
  refine zr_dSi [.int (nI (1)), .int (nI (0)), .int (nI (2))] [] X (zK_ok A D tc tF tL tM) (c_in_t E μ (zq_le (by omega) (by omega)) (zq_le (by omega) (by omega))) k_604 k_605 k_7 k_606 hdX6_in ⟨rfl, rfl⟩ ⟨Nat.le_of_ble_eq_true rfl, Nat.le_of_ble_eq_true rfl⟩ rfl rfl (Nat.le_of_ble_eq_true rfl) dX6_plan_20 ?_
  refine zr_if_eq X 36 dX6_plan_23 (by decide) (fun q => absurd q (nI_ne0 (by omega) (by omega))) (fun _ => ?_)
  refine zr_iload X 4 dX6_plan_26 rfl ?_
  refine zr_iconst X (nI (0)) dX6_plan_28 (by decide +kernel) ?_
  refine zr_iconst X (nI (5)) dX6_plan_29 (by decide +kernel) ?_
  refine zr_dSi [.int (nI (5)), .int (nI (0)), .int (nI (5))] [] X (zK_ok A D tc tF tL tM) (c_in_t E μ (zq_le (by omega) (by omega)) (zq_le (by omega) (by omega))) k_604 k_605 k_7 k_606 hdX6_in ⟨rfl, rfl⟩ ⟨Nat.le_of_ble_eq_true rfl, Nat.le_of_ble_eq_true rfl⟩ rfl rfl (Nat.le_of_ble_eq_true rfl) dX6_plan_30 ?_
  refine zr_if_ne X 39 dX6_plan_33 (by decide) (fun _ => ?_) (fun q => absurd q (nI_ne0 (by omega) (by omega)))
  refine zr_aloadn X 0 dX6_plan_39 rfl ?_
  refine zr_iloadn X 1 dX6_plan_40 rfl ?_
  refine zr_iloadn X 2 dX6_plan_41 rfl ?_
  refine zr_iloadn X 3 dX6_plan_42 rfl ?_
  refine zr_dVv (C := RX6) (ci := 6) [.int (nI (f)), .int (nI (t)), .int (nI (1))] [] X (zK_ok A D tc tF tL tM) (c_lay1 E μ (f := f) (t := t) (by omega) ht1 ht9) k_664 k_666 kp_6 k_7 k_667 hdX6_lay ⟨rfl, rfl⟩ ⟨Nat.le_of_ble_eq_true rfl, Nat.le_of_ble_eq_true rfl⟩ (by omega) rfl rfl rfl rfl (Nat.le_of_ble_eq_true rfl) dX6_plan_43 ?_
  refine zr_aloadn X 0 dX6_plan_46 rfl ?_
  refine zr_get X (ci := 6) (q := 7) zI (.int ((zlay μ f (nI t) 1) (2450))) dX6_plan_47 (by omega) rfl rfl inX6 (by decide) rfl (congrArg Value.int (rfl)) rfl k_546 ?_
  refine zr_if_le X 56 dX6_plan_50 (by decide) (fun _ => ?_) (fun q => absurd (h) q)
  refine zr_iconst X (nI (0)) dX6_plan_56 (by decide +kernel) ?_
  refine zr_istore X [1, 2, 3, 4, 5, 0] [(0, .ref (ad (0))), (1, .int (nI (f))), (2, .int (nI (t))), (3, .int (nI (1))), (4, .int (nI (5))), (5, .int (nI (0)))] dX6_plan_57 (by decide) rfl ?_
  refine zr_iconst X (nI (0)) dX6_plan_59 (by decide +kernel) ?_
  refine zr_istore X [1, 2, 3, 4, 5, 6, 0] [(0, .ref (ad (0))), (1, .int (nI (f))), (2, .int (nI (t))), (3, .int (nI (1))), (4, .int (nI (5))), (5, .int (nI (0))), (6, .int (nI (0)))] dX6_plan_60 (by decide) rfl ?_
  refine zr_iconst X (nI (0)) dX6_plan_62 (by decide +kernel) ?_
  refine zr_istore X [1, 2, 3, 4, 5, 6, 7, 0] [(0, .ref (ad (0))), (1, .int (nI (f))), (2, .int (nI (t))), (3, .int (nI (1))), (4, .int (nI (5))), (5, .int (nI (0))), (6, .int (nI (0))), (7, .int (nI (0)))] dX6_plan_63 (by decide) rfl ?_
  refine zr_for X (20) (fun i => (zlay μ f (nI t) 1)) (fun i => [(0, .ref (ad (0))), (1, .int (nI (f))), (2, .int (nI (t))), (3, .int (nI (1))), (4, .int (nI (5))), (5, .int (nI (zcnt (fun v => zlay μ f (nI (t)) 1 (v + 2520)) (i)))), (6, .int (zsum (fun v => zlay μ f (nI (t)) 1 (v + 2520)) (i))), (7, .int (nI (i)))]) [] (rfl) rfl ?_ ?_
  · refine zr_iload X 7 dX6_plan_65 rfl ?_
    refine zr_bipush X (nI (20)) dX6_plan_67 (by decide +kernel) ?_
    refine zr_icmp_ge X 110 dX6_plan_69 (by decide) (fun _ => ?_) (fun q => absurd (zq_le (by omega) (by omega)) q)
    refine zr_iload X 4 dX6_plan_110 rfl ?_
    refine zr_if_ne X 120 dX6_plan_112 (by decide) (fun _ => ?_) (fun q => absurd q (nI_ne0 (by omega) (by omega)))
    refine zr_iload X 4 dX6_plan_120 rfl ?_
    refine zr_iconst X (nI (4)) dX6_plan_122 (by decide +kernel) ?_
    refine zr_icmp_ge X 138 dX6_plan_123 (by decide) (fun _ => ?_) (fun q => absurd (zq_le (by omega) (by omega)) q)
    refine zr_iload X 4 dX6_plan_138 rfl ?_
    refine zr_iconst X (nI (4)) dX6_plan_140 (by decide +kernel) ?_
    refine zr_icmp_ne X 149 dX6_plan_141 (by decide) (fun _ => ?_) (fun q => absurd q (zq_ne (by omega) (by omega) (by omega)))
    refine zr_aloadn X 0 dX6_plan_149 rfl ?_
    refine zr_get X (ci := 6) (q := 8) zI (.int ((zlay μ f (nI t) 1) (2451))) dX6_plan_150 (by omega) rfl rfl inX6 (by decide) rfl (congrArg Value.int (rfl)) rfl k_547 ?_
    exact zr_iret X dX6_plan_153 ⟨rfl, rfl⟩
  · intro i hi ih65
    refine zr_iload X 7 dX6_plan_65 rfl ?_
    refine zr_bipush X (nI (20)) dX6_plan_67 (by decide +kernel) ?_
    refine zr_icmp_ge X 110 dX6_plan_69 (by decide) (fun q => absurd q (nI_ge (by omega) (by omega))) (fun _ => ?_)
    refine zr_iload X 5 dX6_plan_72 rfl ?_
    refine zr_aloadn X 0 dX6_plan_74 rfl ?_
    refine zr_get X (ci := 6) (q := 5) (zR (3)) (.ref (ad (3))) dX6_plan_75 (by omega) rfl rfl inX6 (by decide) rfl (rfl) rfl k_544 ?_
    refine zr_iload X 7 dX6_plan_78 rfl ?_
    refine zr_iald X (j := i) 0 ((zlay μ f (nI t) 1) (i + 2520)) dX6_plan_80 (by omega) rfl rfl rfl (by omega) (by omega) (zcg (b := i + 2520) (by omega) (rfl)) ?_
    refine zr_if_le X 88 dX6_plan_81 (by decide) (fun h81 => ?_) (fun h81 => ?_)
    · refine zr_iconst X (nI (0)) dX6_plan_88 (by decide +kernel) ?_
      refine zr_iadd X (nI (zcnt (fun v => zlay μ f (nI (t)) 1 (v + 2520)) (i))) dX6_plan_89 ((nI_add _ _).trans (congrArg nI (by omega))) ?_
      refine zr_istore X [1, 2, 3, 4, 5, 0, 6, 7] [(0, .ref (ad (0))), (1, .int (nI (f))), (2, .int (nI (t))), (3, .int (nI (1))), (4, .int (nI (5))), (5, .int (nI (zcnt (fun v => zlay μ f (nI (t)) 1 (v + 2520)) (i)))), (6, .int (zsum (fun v => zlay μ f (nI (t)) 1 (v + 2520)) (i))), (7, .int (nI (i)))] dX6_plan_90 (by decide) rfl ?_
      refine zr_iload X 6 dX6_plan_92 rfl ?_
      refine zr_aloadn X 0 dX6_plan_94 rfl ?_
      refine zr_get X (ci := 6) (q := 5) (zR (3)) (.ref (ad (3))) dX6_plan_95 (by omega) rfl rfl inX6 (by decide) rfl (rfl) rfl k_544 ?_
      refine zr_iload X 7 dX6_plan_98 rfl ?_
      refine zr_iald X (j := i) 0 ((zlay μ f (nI t) 1) (i + 2520)) dX6_plan_100 (by omega) rfl rfl rfl (by omega) (by omega) (zcg (b := i + 2520) (by omega) (rfl)) ?_
      refine zr_iadd X ((zsum (fun v => zlay μ f (nI (t)) 1 (v + 2520)) (i)) + ((zlay μ f (nI t) 1) (i + 2520))) dX6_plan_101 rfl ?_
      refine zr_istore X [1, 2, 3, 4, 5, 6, 0, 7] [(0, .ref (ad (0))), (1, .int (nI (f))), (2, .int (nI (t))), (3, .int (nI (1))), (4, .int (nI (5))), (5, .int (nI (zcnt (fun v => zlay μ f (nI (t)) 1 (v + 2520)) (i)))), (6, .int ((zsum (fun v => zlay μ f (nI (t)) 1 (v + 2520)) (i)) + ((zlay μ f (nI t) 1) (i + 2520)))), (7, .int (nI (i)))] dX6_plan_102 (by decide) rfl ?_
      refine zr_iinc X 7 (nI (i + 1)) [1, 2, 3, 4, 5, 6, 7, 0] [(0, .ref (ad (0))), (1, .int (nI (f))), (2, .int (nI (t))), (3, .int (nI (1))), (4, .int (nI (5))), (5, .int (nI (zcnt (fun v => zlay μ f (nI (t)) 1 (v + 2520)) (i)))), (6, .int ((zsum (fun v => zlay μ f (nI (t)) 1 (v + 2520)) (i)) + ((zlay μ f (nI t) 1) (i + 2520)))), (7, .int (nI (i + 1)))] dX6_plan_104 rfl (zinc _) (by decide) rfl ?_
      refine zr_goto X 65 dX6_plan_107 (by decide) ?_
      exact zr_lv X (by simp only [zcnt, Nat.add_zero, if_pos h81]; rfl) ih65
    · refine zr_iconst X (nI (1)) dX6_plan_84 (by decide +kernel) ?_
      refine zr_goto X 89 dX6_plan_85 (by decide) ?_
      refine zr_iadd X (nI (zcnt (fun v => zlay μ f (nI (t)) 1 (v + 2520)) (i) + 1)) dX6_plan_89 (nI_add _ _) ?_
      refine zr_istore X [1, 2, 3, 4, 5, 0, 6, 7] [(0, .ref (ad (0))), (1, .int (nI (f))), (2, .int (nI (t))), (3, .int (nI (1))), (4, .int (nI (5))), (5, .int (nI (zcnt (fun v => zlay μ f (nI (t)) 1 (v + 2520)) (i) + 1))), (6, .int (zsum (fun v => zlay μ f (nI (t)) 1 (v + 2520)) (i))), (7, .int (nI (i)))] dX6_plan_90 (by decide) rfl ?_
      refine zr_iload X 6 dX6_plan_92 rfl ?_
      refine zr_aloadn X 0 dX6_plan_94 rfl ?_
      refine zr_get X (ci := 6) (q := 5) (zR (3)) (.ref (ad (3))) dX6_plan_95 (by omega) rfl rfl inX6 (by decide) rfl (rfl) rfl k_544 ?_
      refine zr_iload X 7 dX6_plan_98 rfl ?_
      refine zr_iald X (j := i) 0 ((zlay μ f (nI t) 1) (i + 2520)) dX6_plan_100 (by omega) rfl rfl rfl (by omega) (by omega) (zcg (b := i + 2520) (by omega) (rfl)) ?_
      refine zr_iadd X ((zsum (fun v => zlay μ f (nI (t)) 1 (v + 2520)) (i)) + ((zlay μ f (nI t) 1) (i + 2520))) dX6_plan_101 rfl ?_
      refine zr_istore X [1, 2, 3, 4, 5, 6, 0, 7] [(0, .ref (ad (0))), (1, .int (nI (f))), (2, .int (nI (t))), (3, .int (nI (1))), (4, .int (nI (5))), (5, .int (nI (zcnt (fun v => zlay μ f (nI (t)) 1 (v + 2520)) (i) + 1))), (6, .int ((zsum (fun v => zlay μ f (nI (t)) 1 (v + 2520)) (i)) + ((zlay μ f (nI t) 1) (i + 2520)))), (7, .int (nI (i)))] dX6_plan_102 (by decide) rfl ?_
      refine zr_iinc X 7 (nI (i + 1)) [1, 2, 3, 4, 5, 6, 7, 0] [(0, .ref (ad (0))), (1, .int (nI (f))), (2, .int (nI (t))), (3, .int (nI (1))), (4, .int (nI (5))), (5, .int (nI (zcnt (fun v => zlay μ f (nI (t)) 1 (v + 2520)) (i) + 1))), (6, .int ((zsum (fun v => zlay μ f (nI (t)) 1 (v + 2520)) (i)) + ((zlay μ f (nI t) 1) (i + 2520)))), (7, .int (nI (i + 1)))] dX6_plan_104 rfl (zinc _) (by decide) rfl ?_
      refine zr_goto X 65 dX6_plan_107 (by decide) ?_
      exact zr_lv X (by simp only [zcnt, Nat.add_zero, if_neg h81]; rfl) ih65

set_option maxHeartbeats 4000000 in
set_option maxRecDepth 100000 in
theorem c_plan_n2 {l : Launch} {D : va_G} {tc : Nat → ClassId} {ad : Nat → Nat} {A : Nat → Prop} {tF tL tM : Nat} (E : zN 6 A ad) (μ : Nat → Int32) {m c k : Nat} (S : refS μ m c k) {f : Nat} (hf : f < c) {t : Nat} (ht1 : 1 ≤ t) (ht9 : t ≤ 9999) {w : Nat} (hw : w ≤ 5) (h : ¬ zlay μ f (nI t) 2 2450 ≤ 0) : zMi l yX6_plan cX6_plan 8 (some .int) (zrm 6) (zK A D tc tF tL tM) A D vwCl tc ad 6 shR [.ref (ad (0)), .int (nI (f)), .int (nI (t)), .int (nI (2)), .int (nI (w))] μ (fun r u => r = -4 ∧ u = zlay μ f (nI t) 2) := by
  refine zM_of RX6 [(0, .ref (ad (0))), (1, .int (nI (f))), (2, .int (nI (t))), (3, .int (nI (2))), (4, .int (nI (w)))] (zK_ok A D tc tF tL tM) E.1 E.2 owR_ok (by decide +kernel) rfl (Nat.le_of_ble_eq_true rfl) rfl ?_
  intro pP eE sS mM aS bL mT cO X
  obtain ⟨hm, hm2, hc, h8, hk, hk4⟩ := S
  refine zr_aloadn X 0 dX6_plan_0 rfl ?_
  refine zr_iloadn X 1 dX6_plan_1 rfl ?_
  refine zr_dVi (C := RX6) (ci := 6) [.int (nI (f))] [] X (zK_ok A D tc tF tL tM) (c_isFirm_t E μ (hc) h8 (by omega)) k_611 k_613 kp_2 k_7 k_614 hdX6_isFirm ⟨rfl, rfl⟩ ⟨Nat.le_of_ble_eq_true rfl, Nat.le_of_ble_eq_true rfl⟩ (by omega) rfl rfl rfl rfl (Nat.le_of_ble_eq_true rfl) dX6_plan_2 ?_
  refine zr_if_ne X 10 dX6_plan_5 (by decide) (fun _ => ?_) (fun q => absurd q (nI_ne0 (by omega) (by omega)))
  refine zr_iloadn X 2 dX6_plan_10 rfl ?_
  refine zr_dSi [.int (nI (t))] [] X (zK_ok A D tc tF tL tM) (c_isTonnes_t E μ (by omega) (by omega)) k_615 k_616 k_7 k_617 hdX6_isTonnes ⟨rfl, rfl⟩ ⟨Nat.le_of_ble_eq_true rfl, Nat.le_of_ble_eq_true rfl⟩ rfl rfl (Nat.le_of_ble_eq_true rfl) dX6_plan_11 ?_
  refine zr_if_eq X 36 dX6_plan_14 (by decide) (fun q => absurd q (nI_ne0 (by omega) (by omega))) (fun _ => ?_)
  refine zr_iloadn X 3 dX6_plan_17 rfl ?_
  refine zr_iconst X (nI (0)) dX6_plan_18 (by decide +kernel) ?_
  refine zr_iconst X (nI (2)) dX6_plan_19 (by decide +kernel) ?_
  refine zr_dSi [.int (nI (2)), .int (nI (0)), .int (nI (2))] [] X (zK_ok A D tc tF tL tM) (c_in_t E μ (zq_le (by omega) (by omega)) (zq_le (by omega) (by omega))) k_604 k_605 k_7 k_606 hdX6_in ⟨rfl, rfl⟩ ⟨Nat.le_of_ble_eq_true rfl, Nat.le_of_ble_eq_true rfl⟩ rfl rfl (Nat.le_of_ble_eq_true rfl) dX6_plan_20 ?_
  refine zr_if_eq X 36 dX6_plan_23 (by decide) (fun q => absurd q (nI_ne0 (by omega) (by omega))) (fun _ => ?_)
  refine zr_iload X 4 dX6_plan_26 rfl ?_
  refine zr_iconst X (nI (0)) dX6_plan_28 (by decide +kernel) ?_
  refine zr_iconst X (nI (5)) dX6_plan_29 (by decide +kernel) ?_
  refine zr_dSi [.int (nI (w)), .int (nI (0)), .int (nI (5))] [] X (zK_ok A D tc tF tL tM) (c_in_t E μ (zq_le (by omega) (by omega)) (zq_le (by omega) (by omega))) k_604 k_605 k_7 k_606 hdX6_in ⟨rfl, rfl⟩ ⟨Nat.le_of_ble_eq_true rfl, Nat.le_of_ble_eq_true rfl⟩ rfl rfl (Nat.le_of_ble_eq_true rfl) dX6_plan_30 ?_
  refine zr_if_ne X 39 dX6_plan_33 (by decide) (fun _ => ?_) (fun q => absurd q (nI_ne0 (by omega) (by omega)))
  refine zr_aloadn X 0 dX6_plan_39 rfl ?_
  refine zr_iloadn X 1 dX6_plan_40 rfl ?_
  refine zr_iloadn X 2 dX6_plan_41 rfl ?_
  refine zr_iloadn X 3 dX6_plan_42 rfl ?_
  refine zr_dVv (C := RX6) (ci := 6) [.int (nI (f)), .int (nI (t)), .int (nI (2))] [] X (zK_ok A D tc tF tL tM) (c_lay2 E μ (f := f) (t := t) (by omega) ht1 ht9) k_664 k_666 kp_6 k_7 k_667 hdX6_lay ⟨rfl, rfl⟩ ⟨Nat.le_of_ble_eq_true rfl, Nat.le_of_ble_eq_true rfl⟩ (by omega) rfl rfl rfl rfl (Nat.le_of_ble_eq_true rfl) dX6_plan_43 ?_
  refine zr_aloadn X 0 dX6_plan_46 rfl ?_
  refine zr_get X (ci := 6) (q := 7) zI (.int ((zlay μ f (nI t) 2) (2450))) dX6_plan_47 (by omega) rfl rfl inX6 (by decide) rfl (congrArg Value.int (rfl)) rfl k_546 ?_
  refine zr_if_le X 56 dX6_plan_50 (by decide) (fun q => absurd q (h)) (fun _ => ?_)
  refine zr_bipush X (-4) dX6_plan_53 (by decide +kernel) ?_
  exact zr_iret X dX6_plan_55 ⟨rfl, rfl⟩

set_option maxHeartbeats 4000000 in
set_option maxRecDepth 100000 in
theorem c_plan_2_0 {l : Launch} {D : va_G} {tc : Nat → ClassId} {ad : Nat → Nat} {A : Nat → Prop} {tF tL tM : Nat} (E : zN 6 A ad) (μ : Nat → Int32) {m c k : Nat} (S : refS μ m c k) {f : Nat} (hf : f < c) {t : Nat} (ht1 : 1 ≤ t) (ht9 : t ≤ 9999) (h : zlay μ f (nI t) 2 2450 ≤ 0) : zMi l yX6_plan cX6_plan 8 (some .int) (zrm 6) (zK A D tc tF tL tM) A D vwCl tc ad 6 shR [.ref (ad (0)), .int (nI (f)), .int (nI (t)), .int (nI (2)), .int (nI (0))] μ (fun r u => r = zsum (fun v => zlay μ f (nI (t)) 2 (v + 2520)) 20 ∧ u = zlay μ f (nI t) 2) := by
  refine zM_of RX6 [(0, .ref (ad (0))), (1, .int (nI (f))), (2, .int (nI (t))), (3, .int (nI (2))), (4, .int (nI (0)))] (zK_ok A D tc tF tL tM) E.1 E.2 owR_ok (by decide +kernel) rfl (Nat.le_of_ble_eq_true rfl) rfl ?_
  intro pP eE sS mM aS bL mT cO X
  obtain ⟨hm, hm2, hc, h8, hk, hk4⟩ := S
  refine zr_aloadn X 0 dX6_plan_0 rfl ?_
  refine zr_iloadn X 1 dX6_plan_1 rfl ?_
  refine zr_dVi (C := RX6) (ci := 6) [.int (nI (f))] [] X (zK_ok A D tc tF tL tM) (c_isFirm_t E μ (hc) h8 (by omega)) k_611 k_613 kp_2 k_7 k_614 hdX6_isFirm ⟨rfl, rfl⟩ ⟨Nat.le_of_ble_eq_true rfl, Nat.le_of_ble_eq_true rfl⟩ (by omega) rfl rfl rfl rfl (Nat.le_of_ble_eq_true rfl) dX6_plan_2 ?_
  refine zr_if_ne X 10 dX6_plan_5 (by decide) (fun _ => ?_) (fun q => absurd q (nI_ne0 (by omega) (by omega)))
  refine zr_iloadn X 2 dX6_plan_10 rfl ?_
  refine zr_dSi [.int (nI (t))] [] X (zK_ok A D tc tF tL tM) (c_isTonnes_t E μ (by omega) (by omega)) k_615 k_616 k_7 k_617 hdX6_isTonnes ⟨rfl, rfl⟩ ⟨Nat.le_of_ble_eq_true rfl, Nat.le_of_ble_eq_true rfl⟩ rfl rfl (Nat.le_of_ble_eq_true rfl) dX6_plan_11 ?_
  refine zr_if_eq X 36 dX6_plan_14 (by decide) (fun q => absurd q (nI_ne0 (by omega) (by omega))) (fun _ => ?_)
  refine zr_iloadn X 3 dX6_plan_17 rfl ?_
  refine zr_iconst X (nI (0)) dX6_plan_18 (by decide +kernel) ?_
  refine zr_iconst X (nI (2)) dX6_plan_19 (by decide +kernel) ?_
  refine zr_dSi [.int (nI (2)), .int (nI (0)), .int (nI (2))] [] X (zK_ok A D tc tF tL tM) (c_in_t E μ (zq_le (by omega) (by omega)) (zq_le (by omega) (by omega))) k_604 k_605 k_7 k_606 hdX6_in ⟨rfl, rfl⟩ ⟨Nat.le_of_ble_eq_true rfl, Nat.le_of_ble_eq_true rfl⟩ rfl rfl (Nat.le_of_ble_eq_true rfl) dX6_plan_20 ?_
  refine zr_if_eq X 36 dX6_plan_23 (by decide) (fun q => absurd q (nI_ne0 (by omega) (by omega))) (fun _ => ?_)
  refine zr_iload X 4 dX6_plan_26 rfl ?_
  refine zr_iconst X (nI (0)) dX6_plan_28 (by decide +kernel) ?_
  refine zr_iconst X (nI (5)) dX6_plan_29 (by decide +kernel) ?_
  refine zr_dSi [.int (nI (0)), .int (nI (0)), .int (nI (5))] [] X (zK_ok A D tc tF tL tM) (c_in_t E μ (zq_le (by omega) (by omega)) (zq_le (by omega) (by omega))) k_604 k_605 k_7 k_606 hdX6_in ⟨rfl, rfl⟩ ⟨Nat.le_of_ble_eq_true rfl, Nat.le_of_ble_eq_true rfl⟩ rfl rfl (Nat.le_of_ble_eq_true rfl) dX6_plan_30 ?_
  refine zr_if_ne X 39 dX6_plan_33 (by decide) (fun _ => ?_) (fun q => absurd q (nI_ne0 (by omega) (by omega)))
  refine zr_aloadn X 0 dX6_plan_39 rfl ?_
  refine zr_iloadn X 1 dX6_plan_40 rfl ?_
  refine zr_iloadn X 2 dX6_plan_41 rfl ?_
  refine zr_iloadn X 3 dX6_plan_42 rfl ?_
  refine zr_dVv (C := RX6) (ci := 6) [.int (nI (f)), .int (nI (t)), .int (nI (2))] [] X (zK_ok A D tc tF tL tM) (c_lay2 E μ (f := f) (t := t) (by omega) ht1 ht9) k_664 k_666 kp_6 k_7 k_667 hdX6_lay ⟨rfl, rfl⟩ ⟨Nat.le_of_ble_eq_true rfl, Nat.le_of_ble_eq_true rfl⟩ (by omega) rfl rfl rfl rfl (Nat.le_of_ble_eq_true rfl) dX6_plan_43 ?_
  refine zr_aloadn X 0 dX6_plan_46 rfl ?_
  refine zr_get X (ci := 6) (q := 7) zI (.int ((zlay μ f (nI t) 2) (2450))) dX6_plan_47 (by omega) rfl rfl inX6 (by decide) rfl (congrArg Value.int (rfl)) rfl k_546 ?_
  refine zr_if_le X 56 dX6_plan_50 (by decide) (fun _ => ?_) (fun q => absurd (h) q)
  refine zr_iconst X (nI (0)) dX6_plan_56 (by decide +kernel) ?_
  refine zr_istore X [1, 2, 3, 4, 5, 0] [(0, .ref (ad (0))), (1, .int (nI (f))), (2, .int (nI (t))), (3, .int (nI (2))), (4, .int (nI (0))), (5, .int (nI (0)))] dX6_plan_57 (by decide) rfl ?_
  refine zr_iconst X (nI (0)) dX6_plan_59 (by decide +kernel) ?_
  refine zr_istore X [1, 2, 3, 4, 5, 6, 0] [(0, .ref (ad (0))), (1, .int (nI (f))), (2, .int (nI (t))), (3, .int (nI (2))), (4, .int (nI (0))), (5, .int (nI (0))), (6, .int (nI (0)))] dX6_plan_60 (by decide) rfl ?_
  refine zr_iconst X (nI (0)) dX6_plan_62 (by decide +kernel) ?_
  refine zr_istore X [1, 2, 3, 4, 5, 6, 7, 0] [(0, .ref (ad (0))), (1, .int (nI (f))), (2, .int (nI (t))), (3, .int (nI (2))), (4, .int (nI (0))), (5, .int (nI (0))), (6, .int (nI (0))), (7, .int (nI (0)))] dX6_plan_63 (by decide) rfl ?_
  refine zr_for X (20) (fun i => (zlay μ f (nI t) 2)) (fun i => [(0, .ref (ad (0))), (1, .int (nI (f))), (2, .int (nI (t))), (3, .int (nI (2))), (4, .int (nI (0))), (5, .int (nI (zcnt (fun v => zlay μ f (nI (t)) 2 (v + 2520)) (i)))), (6, .int (zsum (fun v => zlay μ f (nI (t)) 2 (v + 2520)) (i))), (7, .int (nI (i)))]) [] (rfl) rfl ?_ ?_
  · refine zr_iload X 7 dX6_plan_65 rfl ?_
    refine zr_bipush X (nI (20)) dX6_plan_67 (by decide +kernel) ?_
    refine zr_icmp_ge X 110 dX6_plan_69 (by decide) (fun _ => ?_) (fun q => absurd (zq_le (by omega) (by omega)) q)
    refine zr_iload X 4 dX6_plan_110 rfl ?_
    refine zr_if_ne X 120 dX6_plan_112 (by decide) (fun q => absurd (zq_eq0 (by omega)) q) (fun _ => ?_)
    refine zr_iload X 6 dX6_plan_115 rfl ?_
    refine zr_goto X 153 dX6_plan_117 (by decide) ?_
    exact zr_iret X dX6_plan_153 ⟨rfl, rfl⟩
  · intro i hi ih65
    refine zr_iload X 7 dX6_plan_65 rfl ?_
    refine zr_bipush X (nI (20)) dX6_plan_67 (by decide +kernel) ?_
    refine zr_icmp_ge X 110 dX6_plan_69 (by decide) (fun q => absurd q (nI_ge (by omega) (by omega))) (fun _ => ?_)
    refine zr_iload X 5 dX6_plan_72 rfl ?_
    refine zr_aloadn X 0 dX6_plan_74 rfl ?_
    refine zr_get X (ci := 6) (q := 5) (zR (3)) (.ref (ad (3))) dX6_plan_75 (by omega) rfl rfl inX6 (by decide) rfl (rfl) rfl k_544 ?_
    refine zr_iload X 7 dX6_plan_78 rfl ?_
    refine zr_iald X (j := i) 0 ((zlay μ f (nI t) 2) (i + 2520)) dX6_plan_80 (by omega) rfl rfl rfl (by omega) (by omega) (zcg (b := i + 2520) (by omega) (rfl)) ?_
    refine zr_if_le X 88 dX6_plan_81 (by decide) (fun h81 => ?_) (fun h81 => ?_)
    · refine zr_iconst X (nI (0)) dX6_plan_88 (by decide +kernel) ?_
      refine zr_iadd X (nI (zcnt (fun v => zlay μ f (nI (t)) 2 (v + 2520)) (i))) dX6_plan_89 ((nI_add _ _).trans (congrArg nI (by omega))) ?_
      refine zr_istore X [1, 2, 3, 4, 5, 0, 6, 7] [(0, .ref (ad (0))), (1, .int (nI (f))), (2, .int (nI (t))), (3, .int (nI (2))), (4, .int (nI (0))), (5, .int (nI (zcnt (fun v => zlay μ f (nI (t)) 2 (v + 2520)) (i)))), (6, .int (zsum (fun v => zlay μ f (nI (t)) 2 (v + 2520)) (i))), (7, .int (nI (i)))] dX6_plan_90 (by decide) rfl ?_
      refine zr_iload X 6 dX6_plan_92 rfl ?_
      refine zr_aloadn X 0 dX6_plan_94 rfl ?_
      refine zr_get X (ci := 6) (q := 5) (zR (3)) (.ref (ad (3))) dX6_plan_95 (by omega) rfl rfl inX6 (by decide) rfl (rfl) rfl k_544 ?_
      refine zr_iload X 7 dX6_plan_98 rfl ?_
      refine zr_iald X (j := i) 0 ((zlay μ f (nI t) 2) (i + 2520)) dX6_plan_100 (by omega) rfl rfl rfl (by omega) (by omega) (zcg (b := i + 2520) (by omega) (rfl)) ?_
      refine zr_iadd X ((zsum (fun v => zlay μ f (nI (t)) 2 (v + 2520)) (i)) + ((zlay μ f (nI t) 2) (i + 2520))) dX6_plan_101 rfl ?_
      refine zr_istore X [1, 2, 3, 4, 5, 6, 0, 7] [(0, .ref (ad (0))), (1, .int (nI (f))), (2, .int (nI (t))), (3, .int (nI (2))), (4, .int (nI (0))), (5, .int (nI (zcnt (fun v => zlay μ f (nI (t)) 2 (v + 2520)) (i)))), (6, .int ((zsum (fun v => zlay μ f (nI (t)) 2 (v + 2520)) (i)) + ((zlay μ f (nI t) 2) (i + 2520)))), (7, .int (nI (i)))] dX6_plan_102 (by decide) rfl ?_
      refine zr_iinc X 7 (nI (i + 1)) [1, 2, 3, 4, 5, 6, 7, 0] [(0, .ref (ad (0))), (1, .int (nI (f))), (2, .int (nI (t))), (3, .int (nI (2))), (4, .int (nI (0))), (5, .int (nI (zcnt (fun v => zlay μ f (nI (t)) 2 (v + 2520)) (i)))), (6, .int ((zsum (fun v => zlay μ f (nI (t)) 2 (v + 2520)) (i)) + ((zlay μ f (nI t) 2) (i + 2520)))), (7, .int (nI (i + 1)))] dX6_plan_104 rfl (zinc _) (by decide) rfl ?_
      refine zr_goto X 65 dX6_plan_107 (by decide) ?_
      exact zr_lv X (by simp only [zcnt, Nat.add_zero, if_pos h81]; rfl) ih65
    · refine zr_iconst X (nI (1)) dX6_plan_84 (by decide +kernel) ?_
      refine zr_goto X 89 dX6_plan_85 (by decide) ?_
      refine zr_iadd X (nI (zcnt (fun v => zlay μ f (nI (t)) 2 (v + 2520)) (i) + 1)) dX6_plan_89 (nI_add _ _) ?_
      refine zr_istore X [1, 2, 3, 4, 5, 0, 6, 7] [(0, .ref (ad (0))), (1, .int (nI (f))), (2, .int (nI (t))), (3, .int (nI (2))), (4, .int (nI (0))), (5, .int (nI (zcnt (fun v => zlay μ f (nI (t)) 2 (v + 2520)) (i) + 1))), (6, .int (zsum (fun v => zlay μ f (nI (t)) 2 (v + 2520)) (i))), (7, .int (nI (i)))] dX6_plan_90 (by decide) rfl ?_
      refine zr_iload X 6 dX6_plan_92 rfl ?_
      refine zr_aloadn X 0 dX6_plan_94 rfl ?_
      refine zr_get X (ci := 6) (q := 5) (zR (3)) (.ref (ad (3))) dX6_plan_95 (by omega) rfl rfl inX6 (by decide) rfl (rfl) rfl k_544 ?_
      refine zr_iload X 7 dX6_plan_98 rfl ?_
      refine zr_iald X (j := i) 0 ((zlay μ f (nI t) 2) (i + 2520)) dX6_plan_100 (by omega) rfl rfl rfl (by omega) (by omega) (zcg (b := i + 2520) (by omega) (rfl)) ?_
      refine zr_iadd X ((zsum (fun v => zlay μ f (nI (t)) 2 (v + 2520)) (i)) + ((zlay μ f (nI t) 2) (i + 2520))) dX6_plan_101 rfl ?_
      refine zr_istore X [1, 2, 3, 4, 5, 6, 0, 7] [(0, .ref (ad (0))), (1, .int (nI (f))), (2, .int (nI (t))), (3, .int (nI (2))), (4, .int (nI (0))), (5, .int (nI (zcnt (fun v => zlay μ f (nI (t)) 2 (v + 2520)) (i) + 1))), (6, .int ((zsum (fun v => zlay μ f (nI (t)) 2 (v + 2520)) (i)) + ((zlay μ f (nI t) 2) (i + 2520)))), (7, .int (nI (i)))] dX6_plan_102 (by decide) rfl ?_
      refine zr_iinc X 7 (nI (i + 1)) [1, 2, 3, 4, 5, 6, 7, 0] [(0, .ref (ad (0))), (1, .int (nI (f))), (2, .int (nI (t))), (3, .int (nI (2))), (4, .int (nI (0))), (5, .int (nI (zcnt (fun v => zlay μ f (nI (t)) 2 (v + 2520)) (i) + 1))), (6, .int ((zsum (fun v => zlay μ f (nI (t)) 2 (v + 2520)) (i)) + ((zlay μ f (nI t) 2) (i + 2520)))), (7, .int (nI (i + 1)))] dX6_plan_104 rfl (zinc _) (by decide) rfl ?_
      refine zr_goto X 65 dX6_plan_107 (by decide) ?_
      exact zr_lv X (by simp only [zcnt, Nat.add_zero, if_neg h81]; rfl) ih65

set_option maxHeartbeats 4000000 in
set_option maxRecDepth 100000 in
theorem c_plan_2_1 {l : Launch} {D : va_G} {tc : Nat → ClassId} {ad : Nat → Nat} {A : Nat → Prop} {tF tL tM : Nat} (E : zN 6 A ad) (μ : Nat → Int32) {m c k : Nat} (S : refS μ m c k) {f : Nat} (hf : f < c) {t : Nat} (ht1 : 1 ≤ t) (ht9 : t ≤ 9999) (h : zlay μ f (nI t) 2 2450 ≤ 0) : zMi l yX6_plan cX6_plan 8 (some .int) (zrm 6) (zK A D tc tF tL tM) A D vwCl tc ad 6 shR [.ref (ad (0)), .int (nI (f)), .int (nI (t)), .int (nI (2)), .int (nI (1))] μ (fun r u => r = zlay μ f (nI t) 2 2540 ∧ u = zlay μ f (nI t) 2) := by
  refine zM_of RX6 [(0, .ref (ad (0))), (1, .int (nI (f))), (2, .int (nI (t))), (3, .int (nI (2))), (4, .int (nI (1)))] (zK_ok A D tc tF tL tM) E.1 E.2 owR_ok (by decide +kernel) rfl (Nat.le_of_ble_eq_true rfl) rfl ?_
  intro pP eE sS mM aS bL mT cO X
  obtain ⟨hm, hm2, hc, h8, hk, hk4⟩ := S
  refine zr_aloadn X 0 dX6_plan_0 rfl ?_
  refine zr_iloadn X 1 dX6_plan_1 rfl ?_
  refine zr_dVi (C := RX6) (ci := 6) [.int (nI (f))] [] X (zK_ok A D tc tF tL tM) (c_isFirm_t E μ (hc) h8 (by omega)) k_611 k_613 kp_2 k_7 k_614 hdX6_isFirm ⟨rfl, rfl⟩ ⟨Nat.le_of_ble_eq_true rfl, Nat.le_of_ble_eq_true rfl⟩ (by omega) rfl rfl rfl rfl (Nat.le_of_ble_eq_true rfl) dX6_plan_2 ?_
  refine zr_if_ne X 10 dX6_plan_5 (by decide) (fun _ => ?_) (fun q => absurd q (nI_ne0 (by omega) (by omega)))
  refine zr_iloadn X 2 dX6_plan_10 rfl ?_
  refine zr_dSi [.int (nI (t))] [] X (zK_ok A D tc tF tL tM) (c_isTonnes_t E μ (by omega) (by omega)) k_615 k_616 k_7 k_617 hdX6_isTonnes ⟨rfl, rfl⟩ ⟨Nat.le_of_ble_eq_true rfl, Nat.le_of_ble_eq_true rfl⟩ rfl rfl (Nat.le_of_ble_eq_true rfl) dX6_plan_11 ?_
  refine zr_if_eq X 36 dX6_plan_14 (by decide) (fun q => absurd q (nI_ne0 (by omega) (by omega))) (fun _ => ?_)
  refine zr_iloadn X 3 dX6_plan_17 rfl ?_
  refine zr_iconst X (nI (0)) dX6_plan_18 (by decide +kernel) ?_
  refine zr_iconst X (nI (2)) dX6_plan_19 (by decide +kernel) ?_
  refine zr_dSi [.int (nI (2)), .int (nI (0)), .int (nI (2))] [] X (zK_ok A D tc tF tL tM) (c_in_t E μ (zq_le (by omega) (by omega)) (zq_le (by omega) (by omega))) k_604 k_605 k_7 k_606 hdX6_in ⟨rfl, rfl⟩ ⟨Nat.le_of_ble_eq_true rfl, Nat.le_of_ble_eq_true rfl⟩ rfl rfl (Nat.le_of_ble_eq_true rfl) dX6_plan_20 ?_
  refine zr_if_eq X 36 dX6_plan_23 (by decide) (fun q => absurd q (nI_ne0 (by omega) (by omega))) (fun _ => ?_)
  refine zr_iload X 4 dX6_plan_26 rfl ?_
  refine zr_iconst X (nI (0)) dX6_plan_28 (by decide +kernel) ?_
  refine zr_iconst X (nI (5)) dX6_plan_29 (by decide +kernel) ?_
  refine zr_dSi [.int (nI (1)), .int (nI (0)), .int (nI (5))] [] X (zK_ok A D tc tF tL tM) (c_in_t E μ (zq_le (by omega) (by omega)) (zq_le (by omega) (by omega))) k_604 k_605 k_7 k_606 hdX6_in ⟨rfl, rfl⟩ ⟨Nat.le_of_ble_eq_true rfl, Nat.le_of_ble_eq_true rfl⟩ rfl rfl (Nat.le_of_ble_eq_true rfl) dX6_plan_30 ?_
  refine zr_if_ne X 39 dX6_plan_33 (by decide) (fun _ => ?_) (fun q => absurd q (nI_ne0 (by omega) (by omega)))
  refine zr_aloadn X 0 dX6_plan_39 rfl ?_
  refine zr_iloadn X 1 dX6_plan_40 rfl ?_
  refine zr_iloadn X 2 dX6_plan_41 rfl ?_
  refine zr_iloadn X 3 dX6_plan_42 rfl ?_
  refine zr_dVv (C := RX6) (ci := 6) [.int (nI (f)), .int (nI (t)), .int (nI (2))] [] X (zK_ok A D tc tF tL tM) (c_lay2 E μ (f := f) (t := t) (by omega) ht1 ht9) k_664 k_666 kp_6 k_7 k_667 hdX6_lay ⟨rfl, rfl⟩ ⟨Nat.le_of_ble_eq_true rfl, Nat.le_of_ble_eq_true rfl⟩ (by omega) rfl rfl rfl rfl (Nat.le_of_ble_eq_true rfl) dX6_plan_43 ?_
  refine zr_aloadn X 0 dX6_plan_46 rfl ?_
  refine zr_get X (ci := 6) (q := 7) zI (.int ((zlay μ f (nI t) 2) (2450))) dX6_plan_47 (by omega) rfl rfl inX6 (by decide) rfl (congrArg Value.int (rfl)) rfl k_546 ?_
  refine zr_if_le X 56 dX6_plan_50 (by decide) (fun _ => ?_) (fun q => absurd (h) q)
  refine zr_iconst X (nI (0)) dX6_plan_56 (by decide +kernel) ?_
  refine zr_istore X [1, 2, 3, 4, 5, 0] [(0, .ref (ad (0))), (1, .int (nI (f))), (2, .int (nI (t))), (3, .int (nI (2))), (4, .int (nI (1))), (5, .int (nI (0)))] dX6_plan_57 (by decide) rfl ?_
  refine zr_iconst X (nI (0)) dX6_plan_59 (by decide +kernel) ?_
  refine zr_istore X [1, 2, 3, 4, 5, 6, 0] [(0, .ref (ad (0))), (1, .int (nI (f))), (2, .int (nI (t))), (3, .int (nI (2))), (4, .int (nI (1))), (5, .int (nI (0))), (6, .int (nI (0)))] dX6_plan_60 (by decide) rfl ?_
  refine zr_iconst X (nI (0)) dX6_plan_62 (by decide +kernel) ?_
  refine zr_istore X [1, 2, 3, 4, 5, 6, 7, 0] [(0, .ref (ad (0))), (1, .int (nI (f))), (2, .int (nI (t))), (3, .int (nI (2))), (4, .int (nI (1))), (5, .int (nI (0))), (6, .int (nI (0))), (7, .int (nI (0)))] dX6_plan_63 (by decide) rfl ?_
  refine zr_for X (20) (fun i => (zlay μ f (nI t) 2)) (fun i => [(0, .ref (ad (0))), (1, .int (nI (f))), (2, .int (nI (t))), (3, .int (nI (2))), (4, .int (nI (1))), (5, .int (nI (zcnt (fun v => zlay μ f (nI (t)) 2 (v + 2520)) (i)))), (6, .int (zsum (fun v => zlay μ f (nI (t)) 2 (v + 2520)) (i))), (7, .int (nI (i)))]) [] (rfl) rfl ?_ ?_
  · refine zr_iload X 7 dX6_plan_65 rfl ?_
    refine zr_bipush X (nI (20)) dX6_plan_67 (by decide +kernel) ?_
    refine zr_icmp_ge X 110 dX6_plan_69 (by decide) (fun _ => ?_) (fun q => absurd (zq_le (by omega) (by omega)) q)
    refine zr_iload X 4 dX6_plan_110 rfl ?_
    refine zr_if_ne X 120 dX6_plan_112 (by decide) (fun _ => ?_) (fun q => absurd q (nI_ne0 (by omega) (by omega)))
    refine zr_iload X 4 dX6_plan_120 rfl ?_
    refine zr_iconst X (nI (4)) dX6_plan_122 (by decide +kernel) ?_
    refine zr_icmp_ge X 138 dX6_plan_123 (by decide) (fun q => absurd q (nI_ge (by omega) (by omega))) (fun _ => ?_)
    refine zr_aloadn X 0 dX6_plan_126 rfl ?_
    refine zr_get X (ci := 6) (q := 6) (zR (4)) (.ref (ad (4))) dX6_plan_127 (by omega) rfl rfl inX6 (by decide) rfl (rfl) rfl k_545 ?_
    refine zr_iload X 4 dX6_plan_130 rfl ?_
    refine zr_iconst X (nI (1)) dX6_plan_132 (by decide +kernel) ?_
    refine zr_isub X (nI (0)) dX6_plan_133 ((pk_sub (by omega)).trans (congrArg nI (by omega))) ?_
    refine zr_iald X (j := 0) 0 ((zlay μ f (nI t) 2) (2540)) dX6_plan_134 (by omega) rfl rfl rfl (by omega) (by omega) (zcg (b := 2540) (by omega) (rfl)) ?_
    refine zr_goto X 153 dX6_plan_135 (by decide) ?_
    exact zr_iret X dX6_plan_153 ⟨rfl, rfl⟩
  · intro i hi ih65
    refine zr_iload X 7 dX6_plan_65 rfl ?_
    refine zr_bipush X (nI (20)) dX6_plan_67 (by decide +kernel) ?_
    refine zr_icmp_ge X 110 dX6_plan_69 (by decide) (fun q => absurd q (nI_ge (by omega) (by omega))) (fun _ => ?_)
    refine zr_iload X 5 dX6_plan_72 rfl ?_
    refine zr_aloadn X 0 dX6_plan_74 rfl ?_
    refine zr_get X (ci := 6) (q := 5) (zR (3)) (.ref (ad (3))) dX6_plan_75 (by omega) rfl rfl inX6 (by decide) rfl (rfl) rfl k_544 ?_
    refine zr_iload X 7 dX6_plan_78 rfl ?_
    refine zr_iald X (j := i) 0 ((zlay μ f (nI t) 2) (i + 2520)) dX6_plan_80 (by omega) rfl rfl rfl (by omega) (by omega) (zcg (b := i + 2520) (by omega) (rfl)) ?_
    refine zr_if_le X 88 dX6_plan_81 (by decide) (fun h81 => ?_) (fun h81 => ?_)
    · refine zr_iconst X (nI (0)) dX6_plan_88 (by decide +kernel) ?_
      refine zr_iadd X (nI (zcnt (fun v => zlay μ f (nI (t)) 2 (v + 2520)) (i))) dX6_plan_89 ((nI_add _ _).trans (congrArg nI (by omega))) ?_
      refine zr_istore X [1, 2, 3, 4, 5, 0, 6, 7] [(0, .ref (ad (0))), (1, .int (nI (f))), (2, .int (nI (t))), (3, .int (nI (2))), (4, .int (nI (1))), (5, .int (nI (zcnt (fun v => zlay μ f (nI (t)) 2 (v + 2520)) (i)))), (6, .int (zsum (fun v => zlay μ f (nI (t)) 2 (v + 2520)) (i))), (7, .int (nI (i)))] dX6_plan_90 (by decide) rfl ?_
      refine zr_iload X 6 dX6_plan_92 rfl ?_
      refine zr_aloadn X 0 dX6_plan_94 rfl ?_
      refine zr_get X (ci := 6) (q := 5) (zR (3)) (.ref (ad (3))) dX6_plan_95 (by omega) rfl rfl inX6 (by decide) rfl (rfl) rfl k_544 ?_
      refine zr_iload X 7 dX6_plan_98 rfl ?_
      refine zr_iald X (j := i) 0 ((zlay μ f (nI t) 2) (i + 2520)) dX6_plan_100 (by omega) rfl rfl rfl (by omega) (by omega) (zcg (b := i + 2520) (by omega) (rfl)) ?_
      refine zr_iadd X ((zsum (fun v => zlay μ f (nI (t)) 2 (v + 2520)) (i)) + ((zlay μ f (nI t) 2) (i + 2520))) dX6_plan_101 rfl ?_
      refine zr_istore X [1, 2, 3, 4, 5, 6, 0, 7] [(0, .ref (ad (0))), (1, .int (nI (f))), (2, .int (nI (t))), (3, .int (nI (2))), (4, .int (nI (1))), (5, .int (nI (zcnt (fun v => zlay μ f (nI (t)) 2 (v + 2520)) (i)))), (6, .int ((zsum (fun v => zlay μ f (nI (t)) 2 (v + 2520)) (i)) + ((zlay μ f (nI t) 2) (i + 2520)))), (7, .int (nI (i)))] dX6_plan_102 (by decide) rfl ?_
      refine zr_iinc X 7 (nI (i + 1)) [1, 2, 3, 4, 5, 6, 7, 0] [(0, .ref (ad (0))), (1, .int (nI (f))), (2, .int (nI (t))), (3, .int (nI (2))), (4, .int (nI (1))), (5, .int (nI (zcnt (fun v => zlay μ f (nI (t)) 2 (v + 2520)) (i)))), (6, .int ((zsum (fun v => zlay μ f (nI (t)) 2 (v + 2520)) (i)) + ((zlay μ f (nI t) 2) (i + 2520)))), (7, .int (nI (i + 1)))] dX6_plan_104 rfl (zinc _) (by decide) rfl ?_
      refine zr_goto X 65 dX6_plan_107 (by decide) ?_
      exact zr_lv X (by simp only [zcnt, Nat.add_zero, if_pos h81]; rfl) ih65
    · refine zr_iconst X (nI (1)) dX6_plan_84 (by decide +kernel) ?_
      refine zr_goto X 89 dX6_plan_85 (by decide) ?_
      refine zr_iadd X (nI (zcnt (fun v => zlay μ f (nI (t)) 2 (v + 2520)) (i) + 1)) dX6_plan_89 (nI_add _ _) ?_
      refine zr_istore X [1, 2, 3, 4, 5, 0, 6, 7] [(0, .ref (ad (0))), (1, .int (nI (f))), (2, .int (nI (t))), (3, .int (nI (2))), (4, .int (nI (1))), (5, .int (nI (zcnt (fun v => zlay μ f (nI (t)) 2 (v + 2520)) (i) + 1))), (6, .int (zsum (fun v => zlay μ f (nI (t)) 2 (v + 2520)) (i))), (7, .int (nI (i)))] dX6_plan_90 (by decide) rfl ?_
      refine zr_iload X 6 dX6_plan_92 rfl ?_
      refine zr_aloadn X 0 dX6_plan_94 rfl ?_
      refine zr_get X (ci := 6) (q := 5) (zR (3)) (.ref (ad (3))) dX6_plan_95 (by omega) rfl rfl inX6 (by decide) rfl (rfl) rfl k_544 ?_
      refine zr_iload X 7 dX6_plan_98 rfl ?_
      refine zr_iald X (j := i) 0 ((zlay μ f (nI t) 2) (i + 2520)) dX6_plan_100 (by omega) rfl rfl rfl (by omega) (by omega) (zcg (b := i + 2520) (by omega) (rfl)) ?_
      refine zr_iadd X ((zsum (fun v => zlay μ f (nI (t)) 2 (v + 2520)) (i)) + ((zlay μ f (nI t) 2) (i + 2520))) dX6_plan_101 rfl ?_
      refine zr_istore X [1, 2, 3, 4, 5, 6, 0, 7] [(0, .ref (ad (0))), (1, .int (nI (f))), (2, .int (nI (t))), (3, .int (nI (2))), (4, .int (nI (1))), (5, .int (nI (zcnt (fun v => zlay μ f (nI (t)) 2 (v + 2520)) (i) + 1))), (6, .int ((zsum (fun v => zlay μ f (nI (t)) 2 (v + 2520)) (i)) + ((zlay μ f (nI t) 2) (i + 2520)))), (7, .int (nI (i)))] dX6_plan_102 (by decide) rfl ?_
      refine zr_iinc X 7 (nI (i + 1)) [1, 2, 3, 4, 5, 6, 7, 0] [(0, .ref (ad (0))), (1, .int (nI (f))), (2, .int (nI (t))), (3, .int (nI (2))), (4, .int (nI (1))), (5, .int (nI (zcnt (fun v => zlay μ f (nI (t)) 2 (v + 2520)) (i) + 1))), (6, .int ((zsum (fun v => zlay μ f (nI (t)) 2 (v + 2520)) (i)) + ((zlay μ f (nI t) 2) (i + 2520)))), (7, .int (nI (i + 1)))] dX6_plan_104 rfl (zinc _) (by decide) rfl ?_
      refine zr_goto X 65 dX6_plan_107 (by decide) ?_
      exact zr_lv X (by simp only [zcnt, Nat.add_zero, if_neg h81]; rfl) ih65

set_option maxHeartbeats 4000000 in
set_option maxRecDepth 100000 in
theorem c_plan_2_2 {l : Launch} {D : va_G} {tc : Nat → ClassId} {ad : Nat → Nat} {A : Nat → Prop} {tF tL tM : Nat} (E : zN 6 A ad) (μ : Nat → Int32) {m c k : Nat} (S : refS μ m c k) {f : Nat} (hf : f < c) {t : Nat} (ht1 : 1 ≤ t) (ht9 : t ≤ 9999) (h : zlay μ f (nI t) 2 2450 ≤ 0) : zMi l yX6_plan cX6_plan 8 (some .int) (zrm 6) (zK A D tc tF tL tM) A D vwCl tc ad 6 shR [.ref (ad (0)), .int (nI (f)), .int (nI (t)), .int (nI (2)), .int (nI (2))] μ (fun r u => r = zlay μ f (nI t) 2 2541 ∧ u = zlay μ f (nI t) 2) := by
  refine zM_of RX6 [(0, .ref (ad (0))), (1, .int (nI (f))), (2, .int (nI (t))), (3, .int (nI (2))), (4, .int (nI (2)))] (zK_ok A D tc tF tL tM) E.1 E.2 owR_ok (by decide +kernel) rfl (Nat.le_of_ble_eq_true rfl) rfl ?_
  intro pP eE sS mM aS bL mT cO X
  obtain ⟨hm, hm2, hc, h8, hk, hk4⟩ := S
  refine zr_aloadn X 0 dX6_plan_0 rfl ?_
  refine zr_iloadn X 1 dX6_plan_1 rfl ?_
  refine zr_dVi (C := RX6) (ci := 6) [.int (nI (f))] [] X (zK_ok A D tc tF tL tM) (c_isFirm_t E μ (hc) h8 (by omega)) k_611 k_613 kp_2 k_7 k_614 hdX6_isFirm ⟨rfl, rfl⟩ ⟨Nat.le_of_ble_eq_true rfl, Nat.le_of_ble_eq_true rfl⟩ (by omega) rfl rfl rfl rfl (Nat.le_of_ble_eq_true rfl) dX6_plan_2 ?_
  refine zr_if_ne X 10 dX6_plan_5 (by decide) (fun _ => ?_) (fun q => absurd q (nI_ne0 (by omega) (by omega)))
  refine zr_iloadn X 2 dX6_plan_10 rfl ?_
  refine zr_dSi [.int (nI (t))] [] X (zK_ok A D tc tF tL tM) (c_isTonnes_t E μ (by omega) (by omega)) k_615 k_616 k_7 k_617 hdX6_isTonnes ⟨rfl, rfl⟩ ⟨Nat.le_of_ble_eq_true rfl, Nat.le_of_ble_eq_true rfl⟩ rfl rfl (Nat.le_of_ble_eq_true rfl) dX6_plan_11 ?_
  refine zr_if_eq X 36 dX6_plan_14 (by decide) (fun q => absurd q (nI_ne0 (by omega) (by omega))) (fun _ => ?_)
  refine zr_iloadn X 3 dX6_plan_17 rfl ?_
  refine zr_iconst X (nI (0)) dX6_plan_18 (by decide +kernel) ?_
  refine zr_iconst X (nI (2)) dX6_plan_19 (by decide +kernel) ?_
  refine zr_dSi [.int (nI (2)), .int (nI (0)), .int (nI (2))] [] X (zK_ok A D tc tF tL tM) (c_in_t E μ (zq_le (by omega) (by omega)) (zq_le (by omega) (by omega))) k_604 k_605 k_7 k_606 hdX6_in ⟨rfl, rfl⟩ ⟨Nat.le_of_ble_eq_true rfl, Nat.le_of_ble_eq_true rfl⟩ rfl rfl (Nat.le_of_ble_eq_true rfl) dX6_plan_20 ?_
  refine zr_if_eq X 36 dX6_plan_23 (by decide) (fun q => absurd q (nI_ne0 (by omega) (by omega))) (fun _ => ?_)
  refine zr_iload X 4 dX6_plan_26 rfl ?_
  refine zr_iconst X (nI (0)) dX6_plan_28 (by decide +kernel) ?_
  refine zr_iconst X (nI (5)) dX6_plan_29 (by decide +kernel) ?_
  refine zr_dSi [.int (nI (2)), .int (nI (0)), .int (nI (5))] [] X (zK_ok A D tc tF tL tM) (c_in_t E μ (zq_le (by omega) (by omega)) (zq_le (by omega) (by omega))) k_604 k_605 k_7 k_606 hdX6_in ⟨rfl, rfl⟩ ⟨Nat.le_of_ble_eq_true rfl, Nat.le_of_ble_eq_true rfl⟩ rfl rfl (Nat.le_of_ble_eq_true rfl) dX6_plan_30 ?_
  refine zr_if_ne X 39 dX6_plan_33 (by decide) (fun _ => ?_) (fun q => absurd q (nI_ne0 (by omega) (by omega)))
  refine zr_aloadn X 0 dX6_plan_39 rfl ?_
  refine zr_iloadn X 1 dX6_plan_40 rfl ?_
  refine zr_iloadn X 2 dX6_plan_41 rfl ?_
  refine zr_iloadn X 3 dX6_plan_42 rfl ?_
  refine zr_dVv (C := RX6) (ci := 6) [.int (nI (f)), .int (nI (t)), .int (nI (2))] [] X (zK_ok A D tc tF tL tM) (c_lay2 E μ (f := f) (t := t) (by omega) ht1 ht9) k_664 k_666 kp_6 k_7 k_667 hdX6_lay ⟨rfl, rfl⟩ ⟨Nat.le_of_ble_eq_true rfl, Nat.le_of_ble_eq_true rfl⟩ (by omega) rfl rfl rfl rfl (Nat.le_of_ble_eq_true rfl) dX6_plan_43 ?_
  refine zr_aloadn X 0 dX6_plan_46 rfl ?_
  refine zr_get X (ci := 6) (q := 7) zI (.int ((zlay μ f (nI t) 2) (2450))) dX6_plan_47 (by omega) rfl rfl inX6 (by decide) rfl (congrArg Value.int (rfl)) rfl k_546 ?_
  refine zr_if_le X 56 dX6_plan_50 (by decide) (fun _ => ?_) (fun q => absurd (h) q)
  refine zr_iconst X (nI (0)) dX6_plan_56 (by decide +kernel) ?_
  refine zr_istore X [1, 2, 3, 4, 5, 0] [(0, .ref (ad (0))), (1, .int (nI (f))), (2, .int (nI (t))), (3, .int (nI (2))), (4, .int (nI (2))), (5, .int (nI (0)))] dX6_plan_57 (by decide) rfl ?_
  refine zr_iconst X (nI (0)) dX6_plan_59 (by decide +kernel) ?_
  refine zr_istore X [1, 2, 3, 4, 5, 6, 0] [(0, .ref (ad (0))), (1, .int (nI (f))), (2, .int (nI (t))), (3, .int (nI (2))), (4, .int (nI (2))), (5, .int (nI (0))), (6, .int (nI (0)))] dX6_plan_60 (by decide) rfl ?_
  refine zr_iconst X (nI (0)) dX6_plan_62 (by decide +kernel) ?_
  refine zr_istore X [1, 2, 3, 4, 5, 6, 7, 0] [(0, .ref (ad (0))), (1, .int (nI (f))), (2, .int (nI (t))), (3, .int (nI (2))), (4, .int (nI (2))), (5, .int (nI (0))), (6, .int (nI (0))), (7, .int (nI (0)))] dX6_plan_63 (by decide) rfl ?_
  refine zr_for X (20) (fun i => (zlay μ f (nI t) 2)) (fun i => [(0, .ref (ad (0))), (1, .int (nI (f))), (2, .int (nI (t))), (3, .int (nI (2))), (4, .int (nI (2))), (5, .int (nI (zcnt (fun v => zlay μ f (nI (t)) 2 (v + 2520)) (i)))), (6, .int (zsum (fun v => zlay μ f (nI (t)) 2 (v + 2520)) (i))), (7, .int (nI (i)))]) [] (rfl) rfl ?_ ?_
  · refine zr_iload X 7 dX6_plan_65 rfl ?_
    refine zr_bipush X (nI (20)) dX6_plan_67 (by decide +kernel) ?_
    refine zr_icmp_ge X 110 dX6_plan_69 (by decide) (fun _ => ?_) (fun q => absurd (zq_le (by omega) (by omega)) q)
    refine zr_iload X 4 dX6_plan_110 rfl ?_
    refine zr_if_ne X 120 dX6_plan_112 (by decide) (fun _ => ?_) (fun q => absurd q (nI_ne0 (by omega) (by omega)))
    refine zr_iload X 4 dX6_plan_120 rfl ?_
    refine zr_iconst X (nI (4)) dX6_plan_122 (by decide +kernel) ?_
    refine zr_icmp_ge X 138 dX6_plan_123 (by decide) (fun q => absurd q (nI_ge (by omega) (by omega))) (fun _ => ?_)
    refine zr_aloadn X 0 dX6_plan_126 rfl ?_
    refine zr_get X (ci := 6) (q := 6) (zR (4)) (.ref (ad (4))) dX6_plan_127 (by omega) rfl rfl inX6 (by decide) rfl (rfl) rfl k_545 ?_
    refine zr_iload X 4 dX6_plan_130 rfl ?_
    refine zr_iconst X (nI (1)) dX6_plan_132 (by decide +kernel) ?_
    refine zr_isub X (nI (1)) dX6_plan_133 ((pk_sub (by omega)).trans (congrArg nI (by omega))) ?_
    refine zr_iald X (j := 1) 0 ((zlay μ f (nI t) 2) (2541)) dX6_plan_134 (by omega) rfl rfl rfl (by omega) (by omega) (zcg (b := 2541) (by omega) (rfl)) ?_
    refine zr_goto X 153 dX6_plan_135 (by decide) ?_
    exact zr_iret X dX6_plan_153 ⟨rfl, rfl⟩
  · intro i hi ih65
    refine zr_iload X 7 dX6_plan_65 rfl ?_
    refine zr_bipush X (nI (20)) dX6_plan_67 (by decide +kernel) ?_
    refine zr_icmp_ge X 110 dX6_plan_69 (by decide) (fun q => absurd q (nI_ge (by omega) (by omega))) (fun _ => ?_)
    refine zr_iload X 5 dX6_plan_72 rfl ?_
    refine zr_aloadn X 0 dX6_plan_74 rfl ?_
    refine zr_get X (ci := 6) (q := 5) (zR (3)) (.ref (ad (3))) dX6_plan_75 (by omega) rfl rfl inX6 (by decide) rfl (rfl) rfl k_544 ?_
    refine zr_iload X 7 dX6_plan_78 rfl ?_
    refine zr_iald X (j := i) 0 ((zlay μ f (nI t) 2) (i + 2520)) dX6_plan_80 (by omega) rfl rfl rfl (by omega) (by omega) (zcg (b := i + 2520) (by omega) (rfl)) ?_
    refine zr_if_le X 88 dX6_plan_81 (by decide) (fun h81 => ?_) (fun h81 => ?_)
    · refine zr_iconst X (nI (0)) dX6_plan_88 (by decide +kernel) ?_
      refine zr_iadd X (nI (zcnt (fun v => zlay μ f (nI (t)) 2 (v + 2520)) (i))) dX6_plan_89 ((nI_add _ _).trans (congrArg nI (by omega))) ?_
      refine zr_istore X [1, 2, 3, 4, 5, 0, 6, 7] [(0, .ref (ad (0))), (1, .int (nI (f))), (2, .int (nI (t))), (3, .int (nI (2))), (4, .int (nI (2))), (5, .int (nI (zcnt (fun v => zlay μ f (nI (t)) 2 (v + 2520)) (i)))), (6, .int (zsum (fun v => zlay μ f (nI (t)) 2 (v + 2520)) (i))), (7, .int (nI (i)))] dX6_plan_90 (by decide) rfl ?_
      refine zr_iload X 6 dX6_plan_92 rfl ?_
      refine zr_aloadn X 0 dX6_plan_94 rfl ?_
      refine zr_get X (ci := 6) (q := 5) (zR (3)) (.ref (ad (3))) dX6_plan_95 (by omega) rfl rfl inX6 (by decide) rfl (rfl) rfl k_544 ?_
      refine zr_iload X 7 dX6_plan_98 rfl ?_
      refine zr_iald X (j := i) 0 ((zlay μ f (nI t) 2) (i + 2520)) dX6_plan_100 (by omega) rfl rfl rfl (by omega) (by omega) (zcg (b := i + 2520) (by omega) (rfl)) ?_
      refine zr_iadd X ((zsum (fun v => zlay μ f (nI (t)) 2 (v + 2520)) (i)) + ((zlay μ f (nI t) 2) (i + 2520))) dX6_plan_101 rfl ?_
      refine zr_istore X [1, 2, 3, 4, 5, 6, 0, 7] [(0, .ref (ad (0))), (1, .int (nI (f))), (2, .int (nI (t))), (3, .int (nI (2))), (4, .int (nI (2))), (5, .int (nI (zcnt (fun v => zlay μ f (nI (t)) 2 (v + 2520)) (i)))), (6, .int ((zsum (fun v => zlay μ f (nI (t)) 2 (v + 2520)) (i)) + ((zlay μ f (nI t) 2) (i + 2520)))), (7, .int (nI (i)))] dX6_plan_102 (by decide) rfl ?_
      refine zr_iinc X 7 (nI (i + 1)) [1, 2, 3, 4, 5, 6, 7, 0] [(0, .ref (ad (0))), (1, .int (nI (f))), (2, .int (nI (t))), (3, .int (nI (2))), (4, .int (nI (2))), (5, .int (nI (zcnt (fun v => zlay μ f (nI (t)) 2 (v + 2520)) (i)))), (6, .int ((zsum (fun v => zlay μ f (nI (t)) 2 (v + 2520)) (i)) + ((zlay μ f (nI t) 2) (i + 2520)))), (7, .int (nI (i + 1)))] dX6_plan_104 rfl (zinc _) (by decide) rfl ?_
      refine zr_goto X 65 dX6_plan_107 (by decide) ?_
      exact zr_lv X (by simp only [zcnt, Nat.add_zero, if_pos h81]; rfl) ih65
    · refine zr_iconst X (nI (1)) dX6_plan_84 (by decide +kernel) ?_
      refine zr_goto X 89 dX6_plan_85 (by decide) ?_
      refine zr_iadd X (nI (zcnt (fun v => zlay μ f (nI (t)) 2 (v + 2520)) (i) + 1)) dX6_plan_89 (nI_add _ _) ?_
      refine zr_istore X [1, 2, 3, 4, 5, 0, 6, 7] [(0, .ref (ad (0))), (1, .int (nI (f))), (2, .int (nI (t))), (3, .int (nI (2))), (4, .int (nI (2))), (5, .int (nI (zcnt (fun v => zlay μ f (nI (t)) 2 (v + 2520)) (i) + 1))), (6, .int (zsum (fun v => zlay μ f (nI (t)) 2 (v + 2520)) (i))), (7, .int (nI (i)))] dX6_plan_90 (by decide) rfl ?_
      refine zr_iload X 6 dX6_plan_92 rfl ?_
      refine zr_aloadn X 0 dX6_plan_94 rfl ?_
      refine zr_get X (ci := 6) (q := 5) (zR (3)) (.ref (ad (3))) dX6_plan_95 (by omega) rfl rfl inX6 (by decide) rfl (rfl) rfl k_544 ?_
      refine zr_iload X 7 dX6_plan_98 rfl ?_
      refine zr_iald X (j := i) 0 ((zlay μ f (nI t) 2) (i + 2520)) dX6_plan_100 (by omega) rfl rfl rfl (by omega) (by omega) (zcg (b := i + 2520) (by omega) (rfl)) ?_
      refine zr_iadd X ((zsum (fun v => zlay μ f (nI (t)) 2 (v + 2520)) (i)) + ((zlay μ f (nI t) 2) (i + 2520))) dX6_plan_101 rfl ?_
      refine zr_istore X [1, 2, 3, 4, 5, 6, 0, 7] [(0, .ref (ad (0))), (1, .int (nI (f))), (2, .int (nI (t))), (3, .int (nI (2))), (4, .int (nI (2))), (5, .int (nI (zcnt (fun v => zlay μ f (nI (t)) 2 (v + 2520)) (i) + 1))), (6, .int ((zsum (fun v => zlay μ f (nI (t)) 2 (v + 2520)) (i)) + ((zlay μ f (nI t) 2) (i + 2520)))), (7, .int (nI (i)))] dX6_plan_102 (by decide) rfl ?_
      refine zr_iinc X 7 (nI (i + 1)) [1, 2, 3, 4, 5, 6, 7, 0] [(0, .ref (ad (0))), (1, .int (nI (f))), (2, .int (nI (t))), (3, .int (nI (2))), (4, .int (nI (2))), (5, .int (nI (zcnt (fun v => zlay μ f (nI (t)) 2 (v + 2520)) (i) + 1))), (6, .int ((zsum (fun v => zlay μ f (nI (t)) 2 (v + 2520)) (i)) + ((zlay μ f (nI t) 2) (i + 2520)))), (7, .int (nI (i + 1)))] dX6_plan_104 rfl (zinc _) (by decide) rfl ?_
      refine zr_goto X 65 dX6_plan_107 (by decide) ?_
      exact zr_lv X (by simp only [zcnt, Nat.add_zero, if_neg h81]; rfl) ih65

set_option maxHeartbeats 4000000 in
set_option maxRecDepth 100000 in
theorem c_plan_2_3 {l : Launch} {D : va_G} {tc : Nat → ClassId} {ad : Nat → Nat} {A : Nat → Prop} {tF tL tM : Nat} (E : zN 6 A ad) (μ : Nat → Int32) {m c k : Nat} (S : refS μ m c k) {f : Nat} (hf : f < c) {t : Nat} (ht1 : 1 ≤ t) (ht9 : t ≤ 9999) (h : zlay μ f (nI t) 2 2450 ≤ 0) : zMi l yX6_plan cX6_plan 8 (some .int) (zrm 6) (zK A D tc tF tL tM) A D vwCl tc ad 6 shR [.ref (ad (0)), .int (nI (f)), .int (nI (t)), .int (nI (2)), .int (nI (3))] μ (fun r u => r = zlay μ f (nI t) 2 2542 ∧ u = zlay μ f (nI t) 2) := by
  refine zM_of RX6 [(0, .ref (ad (0))), (1, .int (nI (f))), (2, .int (nI (t))), (3, .int (nI (2))), (4, .int (nI (3)))] (zK_ok A D tc tF tL tM) E.1 E.2 owR_ok (by decide +kernel) rfl (Nat.le_of_ble_eq_true rfl) rfl ?_
  intro pP eE sS mM aS bL mT cO X
  obtain ⟨hm, hm2, hc, h8, hk, hk4⟩ := S
  refine zr_aloadn X 0 dX6_plan_0 rfl ?_
  refine zr_iloadn X 1 dX6_plan_1 rfl ?_
  refine zr_dVi (C := RX6) (ci := 6) [.int (nI (f))] [] X (zK_ok A D tc tF tL tM) (c_isFirm_t E μ (hc) h8 (by omega)) k_611 k_613 kp_2 k_7 k_614 hdX6_isFirm ⟨rfl, rfl⟩ ⟨Nat.le_of_ble_eq_true rfl, Nat.le_of_ble_eq_true rfl⟩ (by omega) rfl rfl rfl rfl (Nat.le_of_ble_eq_true rfl) dX6_plan_2 ?_
  refine zr_if_ne X 10 dX6_plan_5 (by decide) (fun _ => ?_) (fun q => absurd q (nI_ne0 (by omega) (by omega)))
  refine zr_iloadn X 2 dX6_plan_10 rfl ?_
  refine zr_dSi [.int (nI (t))] [] X (zK_ok A D tc tF tL tM) (c_isTonnes_t E μ (by omega) (by omega)) k_615 k_616 k_7 k_617 hdX6_isTonnes ⟨rfl, rfl⟩ ⟨Nat.le_of_ble_eq_true rfl, Nat.le_of_ble_eq_true rfl⟩ rfl rfl (Nat.le_of_ble_eq_true rfl) dX6_plan_11 ?_
  refine zr_if_eq X 36 dX6_plan_14 (by decide) (fun q => absurd q (nI_ne0 (by omega) (by omega))) (fun _ => ?_)
  refine zr_iloadn X 3 dX6_plan_17 rfl ?_
  refine zr_iconst X (nI (0)) dX6_plan_18 (by decide +kernel) ?_
  refine zr_iconst X (nI (2)) dX6_plan_19 (by decide +kernel) ?_
  refine zr_dSi [.int (nI (2)), .int (nI (0)), .int (nI (2))] [] X (zK_ok A D tc tF tL tM) (c_in_t E μ (zq_le (by omega) (by omega)) (zq_le (by omega) (by omega))) k_604 k_605 k_7 k_606 hdX6_in ⟨rfl, rfl⟩ ⟨Nat.le_of_ble_eq_true rfl, Nat.le_of_ble_eq_true rfl⟩ rfl rfl (Nat.le_of_ble_eq_true rfl) dX6_plan_20 ?_
  refine zr_if_eq X 36 dX6_plan_23 (by decide) (fun q => absurd q (nI_ne0 (by omega) (by omega))) (fun _ => ?_)
  refine zr_iload X 4 dX6_plan_26 rfl ?_
  refine zr_iconst X (nI (0)) dX6_plan_28 (by decide +kernel) ?_
  refine zr_iconst X (nI (5)) dX6_plan_29 (by decide +kernel) ?_
  refine zr_dSi [.int (nI (3)), .int (nI (0)), .int (nI (5))] [] X (zK_ok A D tc tF tL tM) (c_in_t E μ (zq_le (by omega) (by omega)) (zq_le (by omega) (by omega))) k_604 k_605 k_7 k_606 hdX6_in ⟨rfl, rfl⟩ ⟨Nat.le_of_ble_eq_true rfl, Nat.le_of_ble_eq_true rfl⟩ rfl rfl (Nat.le_of_ble_eq_true rfl) dX6_plan_30 ?_
  refine zr_if_ne X 39 dX6_plan_33 (by decide) (fun _ => ?_) (fun q => absurd q (nI_ne0 (by omega) (by omega)))
  refine zr_aloadn X 0 dX6_plan_39 rfl ?_
  refine zr_iloadn X 1 dX6_plan_40 rfl ?_
  refine zr_iloadn X 2 dX6_plan_41 rfl ?_
  refine zr_iloadn X 3 dX6_plan_42 rfl ?_
  refine zr_dVv (C := RX6) (ci := 6) [.int (nI (f)), .int (nI (t)), .int (nI (2))] [] X (zK_ok A D tc tF tL tM) (c_lay2 E μ (f := f) (t := t) (by omega) ht1 ht9) k_664 k_666 kp_6 k_7 k_667 hdX6_lay ⟨rfl, rfl⟩ ⟨Nat.le_of_ble_eq_true rfl, Nat.le_of_ble_eq_true rfl⟩ (by omega) rfl rfl rfl rfl (Nat.le_of_ble_eq_true rfl) dX6_plan_43 ?_
  refine zr_aloadn X 0 dX6_plan_46 rfl ?_
  refine zr_get X (ci := 6) (q := 7) zI (.int ((zlay μ f (nI t) 2) (2450))) dX6_plan_47 (by omega) rfl rfl inX6 (by decide) rfl (congrArg Value.int (rfl)) rfl k_546 ?_
  refine zr_if_le X 56 dX6_plan_50 (by decide) (fun _ => ?_) (fun q => absurd (h) q)
  refine zr_iconst X (nI (0)) dX6_plan_56 (by decide +kernel) ?_
  refine zr_istore X [1, 2, 3, 4, 5, 0] [(0, .ref (ad (0))), (1, .int (nI (f))), (2, .int (nI (t))), (3, .int (nI (2))), (4, .int (nI (3))), (5, .int (nI (0)))] dX6_plan_57 (by decide) rfl ?_
  refine zr_iconst X (nI (0)) dX6_plan_59 (by decide +kernel) ?_
  refine zr_istore X [1, 2, 3, 4, 5, 6, 0] [(0, .ref (ad (0))), (1, .int (nI (f))), (2, .int (nI (t))), (3, .int (nI (2))), (4, .int (nI (3))), (5, .int (nI (0))), (6, .int (nI (0)))] dX6_plan_60 (by decide) rfl ?_
  refine zr_iconst X (nI (0)) dX6_plan_62 (by decide +kernel) ?_
  refine zr_istore X [1, 2, 3, 4, 5, 6, 7, 0] [(0, .ref (ad (0))), (1, .int (nI (f))), (2, .int (nI (t))), (3, .int (nI (2))), (4, .int (nI (3))), (5, .int (nI (0))), (6, .int (nI (0))), (7, .int (nI (0)))] dX6_plan_63 (by decide) rfl ?_
  refine zr_for X (20) (fun i => (zlay μ f (nI t) 2)) (fun i => [(0, .ref (ad (0))), (1, .int (nI (f))), (2, .int (nI (t))), (3, .int (nI (2))), (4, .int (nI (3))), (5, .int (nI (zcnt (fun v => zlay μ f (nI (t)) 2 (v + 2520)) (i)))), (6, .int (zsum (fun v => zlay μ f (nI (t)) 2 (v + 2520)) (i))), (7, .int (nI (i)))]) [] (rfl) rfl ?_ ?_
  · refine zr_iload X 7 dX6_plan_65 rfl ?_
    refine zr_bipush X (nI (20)) dX6_plan_67 (by decide +kernel) ?_
    refine zr_icmp_ge X 110 dX6_plan_69 (by decide) (fun _ => ?_) (fun q => absurd (zq_le (by omega) (by omega)) q)
    refine zr_iload X 4 dX6_plan_110 rfl ?_
    refine zr_if_ne X 120 dX6_plan_112 (by decide) (fun _ => ?_) (fun q => absurd q (nI_ne0 (by omega) (by omega)))
    refine zr_iload X 4 dX6_plan_120 rfl ?_
    refine zr_iconst X (nI (4)) dX6_plan_122 (by decide +kernel) ?_
    refine zr_icmp_ge X 138 dX6_plan_123 (by decide) (fun q => absurd q (nI_ge (by omega) (by omega))) (fun _ => ?_)
    refine zr_aloadn X 0 dX6_plan_126 rfl ?_
    refine zr_get X (ci := 6) (q := 6) (zR (4)) (.ref (ad (4))) dX6_plan_127 (by omega) rfl rfl inX6 (by decide) rfl (rfl) rfl k_545 ?_
    refine zr_iload X 4 dX6_plan_130 rfl ?_
    refine zr_iconst X (nI (1)) dX6_plan_132 (by decide +kernel) ?_
    refine zr_isub X (nI (2)) dX6_plan_133 ((pk_sub (by omega)).trans (congrArg nI (by omega))) ?_
    refine zr_iald X (j := 2) 0 ((zlay μ f (nI t) 2) (2542)) dX6_plan_134 (by omega) rfl rfl rfl (by omega) (by omega) (zcg (b := 2542) (by omega) (rfl)) ?_
    refine zr_goto X 153 dX6_plan_135 (by decide) ?_
    exact zr_iret X dX6_plan_153 ⟨rfl, rfl⟩
  · intro i hi ih65
    refine zr_iload X 7 dX6_plan_65 rfl ?_
    refine zr_bipush X (nI (20)) dX6_plan_67 (by decide +kernel) ?_
    refine zr_icmp_ge X 110 dX6_plan_69 (by decide) (fun q => absurd q (nI_ge (by omega) (by omega))) (fun _ => ?_)
    refine zr_iload X 5 dX6_plan_72 rfl ?_
    refine zr_aloadn X 0 dX6_plan_74 rfl ?_
    refine zr_get X (ci := 6) (q := 5) (zR (3)) (.ref (ad (3))) dX6_plan_75 (by omega) rfl rfl inX6 (by decide) rfl (rfl) rfl k_544 ?_
    refine zr_iload X 7 dX6_plan_78 rfl ?_
    refine zr_iald X (j := i) 0 ((zlay μ f (nI t) 2) (i + 2520)) dX6_plan_80 (by omega) rfl rfl rfl (by omega) (by omega) (zcg (b := i + 2520) (by omega) (rfl)) ?_
    refine zr_if_le X 88 dX6_plan_81 (by decide) (fun h81 => ?_) (fun h81 => ?_)
    · refine zr_iconst X (nI (0)) dX6_plan_88 (by decide +kernel) ?_
      refine zr_iadd X (nI (zcnt (fun v => zlay μ f (nI (t)) 2 (v + 2520)) (i))) dX6_plan_89 ((nI_add _ _).trans (congrArg nI (by omega))) ?_
      refine zr_istore X [1, 2, 3, 4, 5, 0, 6, 7] [(0, .ref (ad (0))), (1, .int (nI (f))), (2, .int (nI (t))), (3, .int (nI (2))), (4, .int (nI (3))), (5, .int (nI (zcnt (fun v => zlay μ f (nI (t)) 2 (v + 2520)) (i)))), (6, .int (zsum (fun v => zlay μ f (nI (t)) 2 (v + 2520)) (i))), (7, .int (nI (i)))] dX6_plan_90 (by decide) rfl ?_
      refine zr_iload X 6 dX6_plan_92 rfl ?_
      refine zr_aloadn X 0 dX6_plan_94 rfl ?_
      refine zr_get X (ci := 6) (q := 5) (zR (3)) (.ref (ad (3))) dX6_plan_95 (by omega) rfl rfl inX6 (by decide) rfl (rfl) rfl k_544 ?_
      refine zr_iload X 7 dX6_plan_98 rfl ?_
      refine zr_iald X (j := i) 0 ((zlay μ f (nI t) 2) (i + 2520)) dX6_plan_100 (by omega) rfl rfl rfl (by omega) (by omega) (zcg (b := i + 2520) (by omega) (rfl)) ?_
      refine zr_iadd X ((zsum (fun v => zlay μ f (nI (t)) 2 (v + 2520)) (i)) + ((zlay μ f (nI t) 2) (i + 2520))) dX6_plan_101 rfl ?_
      refine zr_istore X [1, 2, 3, 4, 5, 6, 0, 7] [(0, .ref (ad (0))), (1, .int (nI (f))), (2, .int (nI (t))), (3, .int (nI (2))), (4, .int (nI (3))), (5, .int (nI (zcnt (fun v => zlay μ f (nI (t)) 2 (v + 2520)) (i)))), (6, .int ((zsum (fun v => zlay μ f (nI (t)) 2 (v + 2520)) (i)) + ((zlay μ f (nI t) 2) (i + 2520)))), (7, .int (nI (i)))] dX6_plan_102 (by decide) rfl ?_
      refine zr_iinc X 7 (nI (i + 1)) [1, 2, 3, 4, 5, 6, 7, 0] [(0, .ref (ad (0))), (1, .int (nI (f))), (2, .int (nI (t))), (3, .int (nI (2))), (4, .int (nI (3))), (5, .int (nI (zcnt (fun v => zlay μ f (nI (t)) 2 (v + 2520)) (i)))), (6, .int ((zsum (fun v => zlay μ f (nI (t)) 2 (v + 2520)) (i)) + ((zlay μ f (nI t) 2) (i + 2520)))), (7, .int (nI (i + 1)))] dX6_plan_104 rfl (zinc _) (by decide) rfl ?_
      refine zr_goto X 65 dX6_plan_107 (by decide) ?_
      exact zr_lv X (by simp only [zcnt, Nat.add_zero, if_pos h81]; rfl) ih65
    · refine zr_iconst X (nI (1)) dX6_plan_84 (by decide +kernel) ?_
      refine zr_goto X 89 dX6_plan_85 (by decide) ?_
      refine zr_iadd X (nI (zcnt (fun v => zlay μ f (nI (t)) 2 (v + 2520)) (i) + 1)) dX6_plan_89 (nI_add _ _) ?_
      refine zr_istore X [1, 2, 3, 4, 5, 0, 6, 7] [(0, .ref (ad (0))), (1, .int (nI (f))), (2, .int (nI (t))), (3, .int (nI (2))), (4, .int (nI (3))), (5, .int (nI (zcnt (fun v => zlay μ f (nI (t)) 2 (v + 2520)) (i) + 1))), (6, .int (zsum (fun v => zlay μ f (nI (t)) 2 (v + 2520)) (i))), (7, .int (nI (i)))] dX6_plan_90 (by decide) rfl ?_
      refine zr_iload X 6 dX6_plan_92 rfl ?_
      refine zr_aloadn X 0 dX6_plan_94 rfl ?_
      refine zr_get X (ci := 6) (q := 5) (zR (3)) (.ref (ad (3))) dX6_plan_95 (by omega) rfl rfl inX6 (by decide) rfl (rfl) rfl k_544 ?_
      refine zr_iload X 7 dX6_plan_98 rfl ?_
      refine zr_iald X (j := i) 0 ((zlay μ f (nI t) 2) (i + 2520)) dX6_plan_100 (by omega) rfl rfl rfl (by omega) (by omega) (zcg (b := i + 2520) (by omega) (rfl)) ?_
      refine zr_iadd X ((zsum (fun v => zlay μ f (nI (t)) 2 (v + 2520)) (i)) + ((zlay μ f (nI t) 2) (i + 2520))) dX6_plan_101 rfl ?_
      refine zr_istore X [1, 2, 3, 4, 5, 6, 0, 7] [(0, .ref (ad (0))), (1, .int (nI (f))), (2, .int (nI (t))), (3, .int (nI (2))), (4, .int (nI (3))), (5, .int (nI (zcnt (fun v => zlay μ f (nI (t)) 2 (v + 2520)) (i) + 1))), (6, .int ((zsum (fun v => zlay μ f (nI (t)) 2 (v + 2520)) (i)) + ((zlay μ f (nI t) 2) (i + 2520)))), (7, .int (nI (i)))] dX6_plan_102 (by decide) rfl ?_
      refine zr_iinc X 7 (nI (i + 1)) [1, 2, 3, 4, 5, 6, 7, 0] [(0, .ref (ad (0))), (1, .int (nI (f))), (2, .int (nI (t))), (3, .int (nI (2))), (4, .int (nI (3))), (5, .int (nI (zcnt (fun v => zlay μ f (nI (t)) 2 (v + 2520)) (i) + 1))), (6, .int ((zsum (fun v => zlay μ f (nI (t)) 2 (v + 2520)) (i)) + ((zlay μ f (nI t) 2) (i + 2520)))), (7, .int (nI (i + 1)))] dX6_plan_104 rfl (zinc _) (by decide) rfl ?_
      refine zr_goto X 65 dX6_plan_107 (by decide) ?_
      exact zr_lv X (by simp only [zcnt, Nat.add_zero, if_neg h81]; rfl) ih65

set_option maxHeartbeats 4000000 in
set_option maxRecDepth 100000 in
theorem c_plan_2_4 {l : Launch} {D : va_G} {tc : Nat → ClassId} {ad : Nat → Nat} {A : Nat → Prop} {tF tL tM : Nat} (E : zN 6 A ad) (μ : Nat → Int32) {m c k : Nat} (S : refS μ m c k) {f : Nat} (hf : f < c) {t : Nat} (ht1 : 1 ≤ t) (ht9 : t ≤ 9999) (h : zlay μ f (nI t) 2 2450 ≤ 0) : zMi l yX6_plan cX6_plan 8 (some .int) (zrm 6) (zK A D tc tF tL tM) A D vwCl tc ad 6 shR [.ref (ad (0)), .int (nI (f)), .int (nI (t)), .int (nI (2)), .int (nI (4))] μ (fun r u => r = nI (zcnt (fun v => zlay μ f (nI (t)) 2 (v + 2520)) 20) ∧ u = zlay μ f (nI t) 2) := by
  refine zM_of RX6 [(0, .ref (ad (0))), (1, .int (nI (f))), (2, .int (nI (t))), (3, .int (nI (2))), (4, .int (nI (4)))] (zK_ok A D tc tF tL tM) E.1 E.2 owR_ok (by decide +kernel) rfl (Nat.le_of_ble_eq_true rfl) rfl ?_
  intro pP eE sS mM aS bL mT cO X
  obtain ⟨hm, hm2, hc, h8, hk, hk4⟩ := S
  refine zr_aloadn X 0 dX6_plan_0 rfl ?_
  refine zr_iloadn X 1 dX6_plan_1 rfl ?_
  refine zr_dVi (C := RX6) (ci := 6) [.int (nI (f))] [] X (zK_ok A D tc tF tL tM) (c_isFirm_t E μ (hc) h8 (by omega)) k_611 k_613 kp_2 k_7 k_614 hdX6_isFirm ⟨rfl, rfl⟩ ⟨Nat.le_of_ble_eq_true rfl, Nat.le_of_ble_eq_true rfl⟩ (by omega) rfl rfl rfl rfl (Nat.le_of_ble_eq_true rfl) dX6_plan_2 ?_
  refine zr_if_ne X 10 dX6_plan_5 (by decide) (fun _ => ?_) (fun q => absurd q (nI_ne0 (by omega) (by omega)))
  refine zr_iloadn X 2 dX6_plan_10 rfl ?_
  refine zr_dSi [.int (nI (t))] [] X (zK_ok A D tc tF tL tM) (c_isTonnes_t E μ (by omega) (by omega)) k_615 k_616 k_7 k_617 hdX6_isTonnes ⟨rfl, rfl⟩ ⟨Nat.le_of_ble_eq_true rfl, Nat.le_of_ble_eq_true rfl⟩ rfl rfl (Nat.le_of_ble_eq_true rfl) dX6_plan_11 ?_
  refine zr_if_eq X 36 dX6_plan_14 (by decide) (fun q => absurd q (nI_ne0 (by omega) (by omega))) (fun _ => ?_)
  refine zr_iloadn X 3 dX6_plan_17 rfl ?_
  refine zr_iconst X (nI (0)) dX6_plan_18 (by decide +kernel) ?_
  refine zr_iconst X (nI (2)) dX6_plan_19 (by decide +kernel) ?_
  refine zr_dSi [.int (nI (2)), .int (nI (0)), .int (nI (2))] [] X (zK_ok A D tc tF tL tM) (c_in_t E μ (zq_le (by omega) (by omega)) (zq_le (by omega) (by omega))) k_604 k_605 k_7 k_606 hdX6_in ⟨rfl, rfl⟩ ⟨Nat.le_of_ble_eq_true rfl, Nat.le_of_ble_eq_true rfl⟩ rfl rfl (Nat.le_of_ble_eq_true rfl) dX6_plan_20 ?_
  refine zr_if_eq X 36 dX6_plan_23 (by decide) (fun q => absurd q (nI_ne0 (by omega) (by omega))) (fun _ => ?_)
  refine zr_iload X 4 dX6_plan_26 rfl ?_
  refine zr_iconst X (nI (0)) dX6_plan_28 (by decide +kernel) ?_
  refine zr_iconst X (nI (5)) dX6_plan_29 (by decide +kernel) ?_
  refine zr_dSi [.int (nI (4)), .int (nI (0)), .int (nI (5))] [] X (zK_ok A D tc tF tL tM) (c_in_t E μ (zq_le (by omega) (by omega)) (zq_le (by omega) (by omega))) k_604 k_605 k_7 k_606 hdX6_in ⟨rfl, rfl⟩ ⟨Nat.le_of_ble_eq_true rfl, Nat.le_of_ble_eq_true rfl⟩ rfl rfl (Nat.le_of_ble_eq_true rfl) dX6_plan_30 ?_
  refine zr_if_ne X 39 dX6_plan_33 (by decide) (fun _ => ?_) (fun q => absurd q (nI_ne0 (by omega) (by omega)))
  refine zr_aloadn X 0 dX6_plan_39 rfl ?_
  refine zr_iloadn X 1 dX6_plan_40 rfl ?_
  refine zr_iloadn X 2 dX6_plan_41 rfl ?_
  refine zr_iloadn X 3 dX6_plan_42 rfl ?_
  refine zr_dVv (C := RX6) (ci := 6) [.int (nI (f)), .int (nI (t)), .int (nI (2))] [] X (zK_ok A D tc tF tL tM) (c_lay2 E μ (f := f) (t := t) (by omega) ht1 ht9) k_664 k_666 kp_6 k_7 k_667 hdX6_lay ⟨rfl, rfl⟩ ⟨Nat.le_of_ble_eq_true rfl, Nat.le_of_ble_eq_true rfl⟩ (by omega) rfl rfl rfl rfl (Nat.le_of_ble_eq_true rfl) dX6_plan_43 ?_
  refine zr_aloadn X 0 dX6_plan_46 rfl ?_
  refine zr_get X (ci := 6) (q := 7) zI (.int ((zlay μ f (nI t) 2) (2450))) dX6_plan_47 (by omega) rfl rfl inX6 (by decide) rfl (congrArg Value.int (rfl)) rfl k_546 ?_
  refine zr_if_le X 56 dX6_plan_50 (by decide) (fun _ => ?_) (fun q => absurd (h) q)
  refine zr_iconst X (nI (0)) dX6_plan_56 (by decide +kernel) ?_
  refine zr_istore X [1, 2, 3, 4, 5, 0] [(0, .ref (ad (0))), (1, .int (nI (f))), (2, .int (nI (t))), (3, .int (nI (2))), (4, .int (nI (4))), (5, .int (nI (0)))] dX6_plan_57 (by decide) rfl ?_
  refine zr_iconst X (nI (0)) dX6_plan_59 (by decide +kernel) ?_
  refine zr_istore X [1, 2, 3, 4, 5, 6, 0] [(0, .ref (ad (0))), (1, .int (nI (f))), (2, .int (nI (t))), (3, .int (nI (2))), (4, .int (nI (4))), (5, .int (nI (0))), (6, .int (nI (0)))] dX6_plan_60 (by decide) rfl ?_
  refine zr_iconst X (nI (0)) dX6_plan_62 (by decide +kernel) ?_
  refine zr_istore X [1, 2, 3, 4, 5, 6, 7, 0] [(0, .ref (ad (0))), (1, .int (nI (f))), (2, .int (nI (t))), (3, .int (nI (2))), (4, .int (nI (4))), (5, .int (nI (0))), (6, .int (nI (0))), (7, .int (nI (0)))] dX6_plan_63 (by decide) rfl ?_
  refine zr_for X (20) (fun i => (zlay μ f (nI t) 2)) (fun i => [(0, .ref (ad (0))), (1, .int (nI (f))), (2, .int (nI (t))), (3, .int (nI (2))), (4, .int (nI (4))), (5, .int (nI (zcnt (fun v => zlay μ f (nI (t)) 2 (v + 2520)) (i)))), (6, .int (zsum (fun v => zlay μ f (nI (t)) 2 (v + 2520)) (i))), (7, .int (nI (i)))]) [] (rfl) rfl ?_ ?_
  · refine zr_iload X 7 dX6_plan_65 rfl ?_
    refine zr_bipush X (nI (20)) dX6_plan_67 (by decide +kernel) ?_
    refine zr_icmp_ge X 110 dX6_plan_69 (by decide) (fun _ => ?_) (fun q => absurd (zq_le (by omega) (by omega)) q)
    refine zr_iload X 4 dX6_plan_110 rfl ?_
    refine zr_if_ne X 120 dX6_plan_112 (by decide) (fun _ => ?_) (fun q => absurd q (nI_ne0 (by omega) (by omega)))
    refine zr_iload X 4 dX6_plan_120 rfl ?_
    refine zr_iconst X (nI (4)) dX6_plan_122 (by decide +kernel) ?_
    refine zr_icmp_ge X 138 dX6_plan_123 (by decide) (fun _ => ?_) (fun q => absurd (zq_le (by omega) (by omega)) q)
    refine zr_iload X 4 dX6_plan_138 rfl ?_
    refine zr_iconst X (nI (4)) dX6_plan_140 (by decide +kernel) ?_
    refine zr_icmp_ne X 149 dX6_plan_141 (by decide) (fun q => absurd (zq_eq (by omega)) q) (fun _ => ?_)
    refine zr_iload X 5 dX6_plan_144 rfl ?_
    refine zr_goto X 153 dX6_plan_146 (by decide) ?_
    exact zr_iret X dX6_plan_153 ⟨rfl, rfl⟩
  · intro i hi ih65
    refine zr_iload X 7 dX6_plan_65 rfl ?_
    refine zr_bipush X (nI (20)) dX6_plan_67 (by decide +kernel) ?_
    refine zr_icmp_ge X 110 dX6_plan_69 (by decide) (fun q => absurd q (nI_ge (by omega) (by omega))) (fun _ => ?_)
    refine zr_iload X 5 dX6_plan_72 rfl ?_
    refine zr_aloadn X 0 dX6_plan_74 rfl ?_
    refine zr_get X (ci := 6) (q := 5) (zR (3)) (.ref (ad (3))) dX6_plan_75 (by omega) rfl rfl inX6 (by decide) rfl (rfl) rfl k_544 ?_
    refine zr_iload X 7 dX6_plan_78 rfl ?_
    refine zr_iald X (j := i) 0 ((zlay μ f (nI t) 2) (i + 2520)) dX6_plan_80 (by omega) rfl rfl rfl (by omega) (by omega) (zcg (b := i + 2520) (by omega) (rfl)) ?_
    refine zr_if_le X 88 dX6_plan_81 (by decide) (fun h81 => ?_) (fun h81 => ?_)
    · refine zr_iconst X (nI (0)) dX6_plan_88 (by decide +kernel) ?_
      refine zr_iadd X (nI (zcnt (fun v => zlay μ f (nI (t)) 2 (v + 2520)) (i))) dX6_plan_89 ((nI_add _ _).trans (congrArg nI (by omega))) ?_
      refine zr_istore X [1, 2, 3, 4, 5, 0, 6, 7] [(0, .ref (ad (0))), (1, .int (nI (f))), (2, .int (nI (t))), (3, .int (nI (2))), (4, .int (nI (4))), (5, .int (nI (zcnt (fun v => zlay μ f (nI (t)) 2 (v + 2520)) (i)))), (6, .int (zsum (fun v => zlay μ f (nI (t)) 2 (v + 2520)) (i))), (7, .int (nI (i)))] dX6_plan_90 (by decide) rfl ?_
      refine zr_iload X 6 dX6_plan_92 rfl ?_
      refine zr_aloadn X 0 dX6_plan_94 rfl ?_
      refine zr_get X (ci := 6) (q := 5) (zR (3)) (.ref (ad (3))) dX6_plan_95 (by omega) rfl rfl inX6 (by decide) rfl (rfl) rfl k_544 ?_
      refine zr_iload X 7 dX6_plan_98 rfl ?_
      refine zr_iald X (j := i) 0 ((zlay μ f (nI t) 2) (i + 2520)) dX6_plan_100 (by omega) rfl rfl rfl (by omega) (by omega) (zcg (b := i + 2520) (by omega) (rfl)) ?_
      refine zr_iadd X ((zsum (fun v => zlay μ f (nI (t)) 2 (v + 2520)) (i)) + ((zlay μ f (nI t) 2) (i + 2520))) dX6_plan_101 rfl ?_
      refine zr_istore X [1, 2, 3, 4, 5, 6, 0, 7] [(0, .ref (ad (0))), (1, .int (nI (f))), (2, .int (nI (t))), (3, .int (nI (2))), (4, .int (nI (4))), (5, .int (nI (zcnt (fun v => zlay μ f (nI (t)) 2 (v + 2520)) (i)))), (6, .int ((zsum (fun v => zlay μ f (nI (t)) 2 (v + 2520)) (i)) + ((zlay μ f (nI t) 2) (i + 2520)))), (7, .int (nI (i)))] dX6_plan_102 (by decide) rfl ?_
      refine zr_iinc X 7 (nI (i + 1)) [1, 2, 3, 4, 5, 6, 7, 0] [(0, .ref (ad (0))), (1, .int (nI (f))), (2, .int (nI (t))), (3, .int (nI (2))), (4, .int (nI (4))), (5, .int (nI (zcnt (fun v => zlay μ f (nI (t)) 2 (v + 2520)) (i)))), (6, .int ((zsum (fun v => zlay μ f (nI (t)) 2 (v + 2520)) (i)) + ((zlay μ f (nI t) 2) (i + 2520)))), (7, .int (nI (i + 1)))] dX6_plan_104 rfl (zinc _) (by decide) rfl ?_
      refine zr_goto X 65 dX6_plan_107 (by decide) ?_
      exact zr_lv X (by simp only [zcnt, Nat.add_zero, if_pos h81]; rfl) ih65
    · refine zr_iconst X (nI (1)) dX6_plan_84 (by decide +kernel) ?_
      refine zr_goto X 89 dX6_plan_85 (by decide) ?_
      refine zr_iadd X (nI (zcnt (fun v => zlay μ f (nI (t)) 2 (v + 2520)) (i) + 1)) dX6_plan_89 (nI_add _ _) ?_
      refine zr_istore X [1, 2, 3, 4, 5, 0, 6, 7] [(0, .ref (ad (0))), (1, .int (nI (f))), (2, .int (nI (t))), (3, .int (nI (2))), (4, .int (nI (4))), (5, .int (nI (zcnt (fun v => zlay μ f (nI (t)) 2 (v + 2520)) (i) + 1))), (6, .int (zsum (fun v => zlay μ f (nI (t)) 2 (v + 2520)) (i))), (7, .int (nI (i)))] dX6_plan_90 (by decide) rfl ?_
      refine zr_iload X 6 dX6_plan_92 rfl ?_
      refine zr_aloadn X 0 dX6_plan_94 rfl ?_
      refine zr_get X (ci := 6) (q := 5) (zR (3)) (.ref (ad (3))) dX6_plan_95 (by omega) rfl rfl inX6 (by decide) rfl (rfl) rfl k_544 ?_
      refine zr_iload X 7 dX6_plan_98 rfl ?_
      refine zr_iald X (j := i) 0 ((zlay μ f (nI t) 2) (i + 2520)) dX6_plan_100 (by omega) rfl rfl rfl (by omega) (by omega) (zcg (b := i + 2520) (by omega) (rfl)) ?_
      refine zr_iadd X ((zsum (fun v => zlay μ f (nI (t)) 2 (v + 2520)) (i)) + ((zlay μ f (nI t) 2) (i + 2520))) dX6_plan_101 rfl ?_
      refine zr_istore X [1, 2, 3, 4, 5, 6, 0, 7] [(0, .ref (ad (0))), (1, .int (nI (f))), (2, .int (nI (t))), (3, .int (nI (2))), (4, .int (nI (4))), (5, .int (nI (zcnt (fun v => zlay μ f (nI (t)) 2 (v + 2520)) (i) + 1))), (6, .int ((zsum (fun v => zlay μ f (nI (t)) 2 (v + 2520)) (i)) + ((zlay μ f (nI t) 2) (i + 2520)))), (7, .int (nI (i)))] dX6_plan_102 (by decide) rfl ?_
      refine zr_iinc X 7 (nI (i + 1)) [1, 2, 3, 4, 5, 6, 7, 0] [(0, .ref (ad (0))), (1, .int (nI (f))), (2, .int (nI (t))), (3, .int (nI (2))), (4, .int (nI (4))), (5, .int (nI (zcnt (fun v => zlay μ f (nI (t)) 2 (v + 2520)) (i) + 1))), (6, .int ((zsum (fun v => zlay μ f (nI (t)) 2 (v + 2520)) (i)) + ((zlay μ f (nI t) 2) (i + 2520)))), (7, .int (nI (i + 1)))] dX6_plan_104 rfl (zinc _) (by decide) rfl ?_
      refine zr_goto X 65 dX6_plan_107 (by decide) ?_
      exact zr_lv X (by simp only [zcnt, Nat.add_zero, if_neg h81]; rfl) ih65

set_option maxHeartbeats 4000000 in
set_option maxRecDepth 100000 in
theorem c_plan_2_5 {l : Launch} {D : va_G} {tc : Nat → ClassId} {ad : Nat → Nat} {A : Nat → Prop} {tF tL tM : Nat} (E : zN 6 A ad) (μ : Nat → Int32) {m c k : Nat} (S : refS μ m c k) {f : Nat} (hf : f < c) {t : Nat} (ht1 : 1 ≤ t) (ht9 : t ≤ 9999) (h : zlay μ f (nI t) 2 2450 ≤ 0) : zMi l yX6_plan cX6_plan 8 (some .int) (zrm 6) (zK A D tc tF tL tM) A D vwCl tc ad 6 shR [.ref (ad (0)), .int (nI (f)), .int (nI (t)), .int (nI (2)), .int (nI (5))] μ (fun r u => r = zlay μ f (nI t) 2 2451 ∧ u = zlay μ f (nI t) 2) := by
  refine zM_of RX6 [(0, .ref (ad (0))), (1, .int (nI (f))), (2, .int (nI (t))), (3, .int (nI (2))), (4, .int (nI (5)))] (zK_ok A D tc tF tL tM) E.1 E.2 owR_ok (by decide +kernel) rfl (Nat.le_of_ble_eq_true rfl) rfl ?_
  intro pP eE sS mM aS bL mT cO X
  obtain ⟨hm, hm2, hc, h8, hk, hk4⟩ := S
  refine zr_aloadn X 0 dX6_plan_0 rfl ?_
  refine zr_iloadn X 1 dX6_plan_1 rfl ?_
  refine zr_dVi (C := RX6) (ci := 6) [.int (nI (f))] [] X (zK_ok A D tc tF tL tM) (c_isFirm_t E μ (hc) h8 (by omega)) k_611 k_613 kp_2 k_7 k_614 hdX6_isFirm ⟨rfl, rfl⟩ ⟨Nat.le_of_ble_eq_true rfl, Nat.le_of_ble_eq_true rfl⟩ (by omega) rfl rfl rfl rfl (Nat.le_of_ble_eq_true rfl) dX6_plan_2 ?_
  refine zr_if_ne X 10 dX6_plan_5 (by decide) (fun _ => ?_) (fun q => absurd q (nI_ne0 (by omega) (by omega)))
  refine zr_iloadn X 2 dX6_plan_10 rfl ?_
  refine zr_dSi [.int (nI (t))] [] X (zK_ok A D tc tF tL tM) (c_isTonnes_t E μ (by omega) (by omega)) k_615 k_616 k_7 k_617 hdX6_isTonnes ⟨rfl, rfl⟩ ⟨Nat.le_of_ble_eq_true rfl, Nat.le_of_ble_eq_true rfl⟩ rfl rfl (Nat.le_of_ble_eq_true rfl) dX6_plan_11 ?_
  refine zr_if_eq X 36 dX6_plan_14 (by decide) (fun q => absurd q (nI_ne0 (by omega) (by omega))) (fun _ => ?_)
  refine zr_iloadn X 3 dX6_plan_17 rfl ?_
  refine zr_iconst X (nI (0)) dX6_plan_18 (by decide +kernel) ?_
  refine zr_iconst X (nI (2)) dX6_plan_19 (by decide +kernel) ?_
  refine zr_dSi [.int (nI (2)), .int (nI (0)), .int (nI (2))] [] X (zK_ok A D tc tF tL tM) (c_in_t E μ (zq_le (by omega) (by omega)) (zq_le (by omega) (by omega))) k_604 k_605 k_7 k_606 hdX6_in ⟨rfl, rfl⟩ ⟨Nat.le_of_ble_eq_true rfl, Nat.le_of_ble_eq_true rfl⟩ rfl rfl (Nat.le_of_ble_eq_true rfl) dX6_plan_20 ?_
  refine zr_if_eq X 36 dX6_plan_23 (by decide) (fun q => absurd q (nI_ne0 (by omega) (by omega))) (fun _ => ?_)
  refine zr_iload X 4 dX6_plan_26 rfl ?_
  refine zr_iconst X (nI (0)) dX6_plan_28 (by decide +kernel) ?_
  refine zr_iconst X (nI (5)) dX6_plan_29 (by decide +kernel) ?_
  refine zr_dSi [.int (nI (5)), .int (nI (0)), .int (nI (5))] [] X (zK_ok A D tc tF tL tM) (c_in_t E μ (zq_le (by omega) (by omega)) (zq_le (by omega) (by omega))) k_604 k_605 k_7 k_606 hdX6_in ⟨rfl, rfl⟩ ⟨Nat.le_of_ble_eq_true rfl, Nat.le_of_ble_eq_true rfl⟩ rfl rfl (Nat.le_of_ble_eq_true rfl) dX6_plan_30 ?_
  refine zr_if_ne X 39 dX6_plan_33 (by decide) (fun _ => ?_) (fun q => absurd q (nI_ne0 (by omega) (by omega)))
  refine zr_aloadn X 0 dX6_plan_39 rfl ?_
  refine zr_iloadn X 1 dX6_plan_40 rfl ?_
  refine zr_iloadn X 2 dX6_plan_41 rfl ?_
  refine zr_iloadn X 3 dX6_plan_42 rfl ?_
  refine zr_dVv (C := RX6) (ci := 6) [.int (nI (f)), .int (nI (t)), .int (nI (2))] [] X (zK_ok A D tc tF tL tM) (c_lay2 E μ (f := f) (t := t) (by omega) ht1 ht9) k_664 k_666 kp_6 k_7 k_667 hdX6_lay ⟨rfl, rfl⟩ ⟨Nat.le_of_ble_eq_true rfl, Nat.le_of_ble_eq_true rfl⟩ (by omega) rfl rfl rfl rfl (Nat.le_of_ble_eq_true rfl) dX6_plan_43 ?_
  refine zr_aloadn X 0 dX6_plan_46 rfl ?_
  refine zr_get X (ci := 6) (q := 7) zI (.int ((zlay μ f (nI t) 2) (2450))) dX6_plan_47 (by omega) rfl rfl inX6 (by decide) rfl (congrArg Value.int (rfl)) rfl k_546 ?_
  refine zr_if_le X 56 dX6_plan_50 (by decide) (fun _ => ?_) (fun q => absurd (h) q)
  refine zr_iconst X (nI (0)) dX6_plan_56 (by decide +kernel) ?_
  refine zr_istore X [1, 2, 3, 4, 5, 0] [(0, .ref (ad (0))), (1, .int (nI (f))), (2, .int (nI (t))), (3, .int (nI (2))), (4, .int (nI (5))), (5, .int (nI (0)))] dX6_plan_57 (by decide) rfl ?_
  refine zr_iconst X (nI (0)) dX6_plan_59 (by decide +kernel) ?_
  refine zr_istore X [1, 2, 3, 4, 5, 6, 0] [(0, .ref (ad (0))), (1, .int (nI (f))), (2, .int (nI (t))), (3, .int (nI (2))), (4, .int (nI (5))), (5, .int (nI (0))), (6, .int (nI (0)))] dX6_plan_60 (by decide) rfl ?_
  refine zr_iconst X (nI (0)) dX6_plan_62 (by decide +kernel) ?_
  refine zr_istore X [1, 2, 3, 4, 5, 6, 7, 0] [(0, .ref (ad (0))), (1, .int (nI (f))), (2, .int (nI (t))), (3, .int (nI (2))), (4, .int (nI (5))), (5, .int (nI (0))), (6, .int (nI (0))), (7, .int (nI (0)))] dX6_plan_63 (by decide) rfl ?_
  refine zr_for X (20) (fun i => (zlay μ f (nI t) 2)) (fun i => [(0, .ref (ad (0))), (1, .int (nI (f))), (2, .int (nI (t))), (3, .int (nI (2))), (4, .int (nI (5))), (5, .int (nI (zcnt (fun v => zlay μ f (nI (t)) 2 (v + 2520)) (i)))), (6, .int (zsum (fun v => zlay μ f (nI (t)) 2 (v + 2520)) (i))), (7, .int (nI (i)))]) [] (rfl) rfl ?_ ?_
  · refine zr_iload X 7 dX6_plan_65 rfl ?_
    refine zr_bipush X (nI (20)) dX6_plan_67 (by decide +kernel) ?_
    refine zr_icmp_ge X 110 dX6_plan_69 (by decide) (fun _ => ?_) (fun q => absurd (zq_le (by omega) (by omega)) q)
    refine zr_iload X 4 dX6_plan_110 rfl ?_
    refine zr_if_ne X 120 dX6_plan_112 (by decide) (fun _ => ?_) (fun q => absurd q (nI_ne0 (by omega) (by omega)))
    refine zr_iload X 4 dX6_plan_120 rfl ?_
    refine zr_iconst X (nI (4)) dX6_plan_122 (by decide +kernel) ?_
    refine zr_icmp_ge X 138 dX6_plan_123 (by decide) (fun _ => ?_) (fun q => absurd (zq_le (by omega) (by omega)) q)
    refine zr_iload X 4 dX6_plan_138 rfl ?_
    refine zr_iconst X (nI (4)) dX6_plan_140 (by decide +kernel) ?_
    refine zr_icmp_ne X 149 dX6_plan_141 (by decide) (fun _ => ?_) (fun q => absurd q (zq_ne (by omega) (by omega) (by omega)))
    refine zr_aloadn X 0 dX6_plan_149 rfl ?_
    refine zr_get X (ci := 6) (q := 8) zI (.int ((zlay μ f (nI t) 2) (2451))) dX6_plan_150 (by omega) rfl rfl inX6 (by decide) rfl (congrArg Value.int (rfl)) rfl k_547 ?_
    exact zr_iret X dX6_plan_153 ⟨rfl, rfl⟩
  · intro i hi ih65
    refine zr_iload X 7 dX6_plan_65 rfl ?_
    refine zr_bipush X (nI (20)) dX6_plan_67 (by decide +kernel) ?_
    refine zr_icmp_ge X 110 dX6_plan_69 (by decide) (fun q => absurd q (nI_ge (by omega) (by omega))) (fun _ => ?_)
    refine zr_iload X 5 dX6_plan_72 rfl ?_
    refine zr_aloadn X 0 dX6_plan_74 rfl ?_
    refine zr_get X (ci := 6) (q := 5) (zR (3)) (.ref (ad (3))) dX6_plan_75 (by omega) rfl rfl inX6 (by decide) rfl (rfl) rfl k_544 ?_
    refine zr_iload X 7 dX6_plan_78 rfl ?_
    refine zr_iald X (j := i) 0 ((zlay μ f (nI t) 2) (i + 2520)) dX6_plan_80 (by omega) rfl rfl rfl (by omega) (by omega) (zcg (b := i + 2520) (by omega) (rfl)) ?_
    refine zr_if_le X 88 dX6_plan_81 (by decide) (fun h81 => ?_) (fun h81 => ?_)
    · refine zr_iconst X (nI (0)) dX6_plan_88 (by decide +kernel) ?_
      refine zr_iadd X (nI (zcnt (fun v => zlay μ f (nI (t)) 2 (v + 2520)) (i))) dX6_plan_89 ((nI_add _ _).trans (congrArg nI (by omega))) ?_
      refine zr_istore X [1, 2, 3, 4, 5, 0, 6, 7] [(0, .ref (ad (0))), (1, .int (nI (f))), (2, .int (nI (t))), (3, .int (nI (2))), (4, .int (nI (5))), (5, .int (nI (zcnt (fun v => zlay μ f (nI (t)) 2 (v + 2520)) (i)))), (6, .int (zsum (fun v => zlay μ f (nI (t)) 2 (v + 2520)) (i))), (7, .int (nI (i)))] dX6_plan_90 (by decide) rfl ?_
      refine zr_iload X 6 dX6_plan_92 rfl ?_
      refine zr_aloadn X 0 dX6_plan_94 rfl ?_
      refine zr_get X (ci := 6) (q := 5) (zR (3)) (.ref (ad (3))) dX6_plan_95 (by omega) rfl rfl inX6 (by decide) rfl (rfl) rfl k_544 ?_
      refine zr_iload X 7 dX6_plan_98 rfl ?_
      refine zr_iald X (j := i) 0 ((zlay μ f (nI t) 2) (i + 2520)) dX6_plan_100 (by omega) rfl rfl rfl (by omega) (by omega) (zcg (b := i + 2520) (by omega) (rfl)) ?_
      refine zr_iadd X ((zsum (fun v => zlay μ f (nI (t)) 2 (v + 2520)) (i)) + ((zlay μ f (nI t) 2) (i + 2520))) dX6_plan_101 rfl ?_
      refine zr_istore X [1, 2, 3, 4, 5, 6, 0, 7] [(0, .ref (ad (0))), (1, .int (nI (f))), (2, .int (nI (t))), (3, .int (nI (2))), (4, .int (nI (5))), (5, .int (nI (zcnt (fun v => zlay μ f (nI (t)) 2 (v + 2520)) (i)))), (6, .int ((zsum (fun v => zlay μ f (nI (t)) 2 (v + 2520)) (i)) + ((zlay μ f (nI t) 2) (i + 2520)))), (7, .int (nI (i)))] dX6_plan_102 (by decide) rfl ?_
      refine zr_iinc X 7 (nI (i + 1)) [1, 2, 3, 4, 5, 6, 7, 0] [(0, .ref (ad (0))), (1, .int (nI (f))), (2, .int (nI (t))), (3, .int (nI (2))), (4, .int (nI (5))), (5, .int (nI (zcnt (fun v => zlay μ f (nI (t)) 2 (v + 2520)) (i)))), (6, .int ((zsum (fun v => zlay μ f (nI (t)) 2 (v + 2520)) (i)) + ((zlay μ f (nI t) 2) (i + 2520)))), (7, .int (nI (i + 1)))] dX6_plan_104 rfl (zinc _) (by decide) rfl ?_
      refine zr_goto X 65 dX6_plan_107 (by decide) ?_
      exact zr_lv X (by simp only [zcnt, Nat.add_zero, if_pos h81]; rfl) ih65
    · refine zr_iconst X (nI (1)) dX6_plan_84 (by decide +kernel) ?_
      refine zr_goto X 89 dX6_plan_85 (by decide) ?_
      refine zr_iadd X (nI (zcnt (fun v => zlay μ f (nI (t)) 2 (v + 2520)) (i) + 1)) dX6_plan_89 (nI_add _ _) ?_
      refine zr_istore X [1, 2, 3, 4, 5, 0, 6, 7] [(0, .ref (ad (0))), (1, .int (nI (f))), (2, .int (nI (t))), (3, .int (nI (2))), (4, .int (nI (5))), (5, .int (nI (zcnt (fun v => zlay μ f (nI (t)) 2 (v + 2520)) (i) + 1))), (6, .int (zsum (fun v => zlay μ f (nI (t)) 2 (v + 2520)) (i))), (7, .int (nI (i)))] dX6_plan_90 (by decide) rfl ?_
      refine zr_iload X 6 dX6_plan_92 rfl ?_
      refine zr_aloadn X 0 dX6_plan_94 rfl ?_
      refine zr_get X (ci := 6) (q := 5) (zR (3)) (.ref (ad (3))) dX6_plan_95 (by omega) rfl rfl inX6 (by decide) rfl (rfl) rfl k_544 ?_
      refine zr_iload X 7 dX6_plan_98 rfl ?_
      refine zr_iald X (j := i) 0 ((zlay μ f (nI t) 2) (i + 2520)) dX6_plan_100 (by omega) rfl rfl rfl (by omega) (by omega) (zcg (b := i + 2520) (by omega) (rfl)) ?_
      refine zr_iadd X ((zsum (fun v => zlay μ f (nI (t)) 2 (v + 2520)) (i)) + ((zlay μ f (nI t) 2) (i + 2520))) dX6_plan_101 rfl ?_
      refine zr_istore X [1, 2, 3, 4, 5, 6, 0, 7] [(0, .ref (ad (0))), (1, .int (nI (f))), (2, .int (nI (t))), (3, .int (nI (2))), (4, .int (nI (5))), (5, .int (nI (zcnt (fun v => zlay μ f (nI (t)) 2 (v + 2520)) (i) + 1))), (6, .int ((zsum (fun v => zlay μ f (nI (t)) 2 (v + 2520)) (i)) + ((zlay μ f (nI t) 2) (i + 2520)))), (7, .int (nI (i)))] dX6_plan_102 (by decide) rfl ?_
      refine zr_iinc X 7 (nI (i + 1)) [1, 2, 3, 4, 5, 6, 7, 0] [(0, .ref (ad (0))), (1, .int (nI (f))), (2, .int (nI (t))), (3, .int (nI (2))), (4, .int (nI (5))), (5, .int (nI (zcnt (fun v => zlay μ f (nI (t)) 2 (v + 2520)) (i) + 1))), (6, .int ((zsum (fun v => zlay μ f (nI (t)) 2 (v + 2520)) (i)) + ((zlay μ f (nI t) 2) (i + 2520)))), (7, .int (nI (i + 1)))] dX6_plan_104 rfl (zinc _) (by decide) rfl ?_
      refine zr_goto X 65 dX6_plan_107 (by decide) ?_
      exact zr_lv X (by simp only [zcnt, Nat.add_zero, if_neg h81]; rfl) ih65

