set_option maxHeartbeats 4000000 in
set_option maxRecDepth 100000 in
theorem c_code_in {l : Launch} {D : va_G} {tc : Nat → ClassId} {ad : Nat → Nat} {A : Nat → Prop} {tF tL tM : Nat} (E : zN 6 A ad) (μ : Nat → Int32) {p : Nat} (hp : μ 2452 = nI p) (hp3 : p ≤ 64) {n : Nat} (hn : μ 2447 = nI n) (hn2 : n ≤ 60) (h : p < n) : zMi l yX6_code cX6_code 1 (some .int) (zrm 1) (zK A D tc tF tL tM) A D vwCl tc ad 6 shR [.ref (ad (0))] μ (fun r u => r = μ (p + 2460) ∧ u = μ) := by
  refine zM_of RX6 [(0, .ref (ad (0)))] (zK_ok A D tc tF tL tM) E.1 E.2 owR_ok (by decide +kernel) rfl (Nat.le_of_ble_eq_true rfl) rfl ?_
  intro pP eE sS mM aS bL mT cO X
  refine zr_aloadn X 0 dX6_code_0 rfl ?_
  refine zr_get X (ci := 6) (q := 9) zI (.int (nI (p))) dX6_code_1 (by omega) rfl rfl inX6 (by decide) rfl (congrArg Value.int (hp)) rfl k_548 ?_
  refine zr_aloadn X 0 dX6_code_4 rfl ?_
  refine zr_get X (ci := 6) (q := 4) zI (.int (nI (n))) dX6_code_5 (by omega) rfl rfl inX6 (by decide) rfl (congrArg Value.int (hn)) rfl k_543 ?_
  refine zr_icmp_ge X 23 dX6_code_8 (by decide) (fun q => absurd q (nI_ge (by omega) (by omega))) (fun _ => ?_)
  refine zr_aloadn X 0 dX6_code_11 rfl ?_
  refine zr_get X (ci := 6) (q := 3) (zR _) (.ref (ad (2))) dX6_code_12 (by omega) rfl rfl inX6 (by decide) rfl (zvR rfl) rfl k_542 ?_
  refine zr_aloadn X 0 dX6_code_15 rfl ?_
  refine zr_get X (ci := 6) (q := 9) zI (.int (nI (p))) dX6_code_16 (by omega) rfl rfl inX6 (by decide) rfl (congrArg Value.int (hp)) rfl k_548 ?_
  refine zr_iald X (j := p) 0 (μ (p + 2460)) dX6_code_19 (by omega) rfl rfl rfl (by omega) (by omega) (zcg (b := p + 2460) (by omega) (rfl)) ?_
  refine zr_goto X 24 dX6_code_20 (by decide) ?_
  exact zr_iret X dX6_code_24 ⟨rfl, rfl⟩

set_option maxHeartbeats 4000000 in
set_option maxRecDepth 100000 in
theorem c_code_out {l : Launch} {D : va_G} {tc : Nat → ClassId} {ad : Nat → Nat} {A : Nat → Prop} {tF tL tM : Nat} (E : zN 6 A ad) (μ : Nat → Int32) {p : Nat} (hp : μ 2452 = nI p) (hp3 : p ≤ 64) {n : Nat} (hn : μ 2447 = nI n) (hn2 : n ≤ 60) (h : ¬ p < n) : zMi l yX6_code cX6_code 1 (some .int) (zrm 1) (zK A D tc tF tL tM) A D vwCl tc ad 6 shR [.ref (ad (0))] μ (fun r u => r = nI 0 ∧ u = μ) := by
  refine zM_of RX6 [(0, .ref (ad (0)))] (zK_ok A D tc tF tL tM) E.1 E.2 owR_ok (by decide +kernel) rfl (Nat.le_of_ble_eq_true rfl) rfl ?_
  intro pP eE sS mM aS bL mT cO X
  refine zr_aloadn X 0 dX6_code_0 rfl ?_
  refine zr_get X (ci := 6) (q := 9) zI (.int (nI (p))) dX6_code_1 (by omega) rfl rfl inX6 (by decide) rfl (congrArg Value.int (hp)) rfl k_548 ?_
  refine zr_aloadn X 0 dX6_code_4 rfl ?_
  refine zr_get X (ci := 6) (q := 4) zI (.int (nI (n))) dX6_code_5 (by omega) rfl rfl inX6 (by decide) rfl (congrArg Value.int (hn)) rfl k_543 ?_
  refine zr_icmp_ge X 23 dX6_code_8 (by decide) (fun _ => ?_) (fun q => absurd (zq_le (by omega) (by omega)) q)
  refine zr_iconst X (nI (0)) dX6_code_23 (by decide +kernel) ?_
  exact zr_iret X dX6_code_24 ⟨rfl, rfl⟩

set_option maxHeartbeats 4000000 in
set_option maxRecDepth 100000 in
theorem c_sign_t {l : Launch} {D : va_G} {tc : Nat → ClassId} {ad : Nat → Nat} {A : Nat → Prop} {tF tL tM : Nat} (E : zN 6 A ad) (μ : Nat → Int32) {w : Nat → Int32} (hw : ∀ q, q < 60 → μ (q + 2460) = w q) {p : Nat} (hp : μ 2452 = nI p) (hp3 : p ≤ 64) {n : Nat} (hn : μ 2447 = nI n) (hn2 : n ≤ 60) {c : Nat} (hc1 : 0 < c) (hc2 : c < 100) (h : zis w n c p) : zMi l yX6_sign cX6_sign 3 (some .boolean) (zrm 2) (zK A D tc tF tL tM) A D vwCl tc ad 6 shR [.ref (ad (0)), .int (nI (c))] μ (fun r u => r = nI 1 ∧ u = upd μ 2452 (nI (p + 1))) := by
  refine zM_of RX6 [(0, .ref (ad (0))), (1, .int (nI (c)))] (zK_ok A D tc tF tL tM) E.1 E.2 owR_ok (by decide +kernel) rfl (Nat.le_of_ble_eq_true rfl) rfl ?_
  intro pP eE sS mM aS bL mT cO X
  refine zr_aloadn X 0 dX6_sign_0 rfl ?_
  have hlt := h.1
  refine zr_dVi (C := RX6) (ci := 6) [] [] X (zK_ok A D tc tF tL tM) (zM_i (z1 := nI c) (c_code_in E μ (p := p) (hp) (by omega) (hn) hn2 (by omega)) (((rfl).trans (hw (p) (by omega))).trans h.2)) k_715 k_717 kp_14 k_7 k_718 hdX6_code ⟨rfl, rfl⟩ ⟨Nat.le_of_ble_eq_true rfl, Nat.le_of_ble_eq_true rfl⟩ (by omega) rfl rfl rfl rfl (Nat.le_of_ble_eq_true rfl) dX6_sign_1 ?_
  refine zr_iloadn X 1 dX6_sign_4 rfl ?_
  refine zr_icmp_ne X 12 dX6_sign_5 (by decide) (fun q => absurd (zq_eq (by omega)) q) (fun _ => ?_)
  refine zr_iconst X (nI (1)) dX6_sign_8 (by decide +kernel) ?_
  refine zr_goto X 13 dX6_sign_9 (by decide) ?_
  refine zr_istoren X [1, 2, 0] [(0, .ref (ad (0))), (1, .int (nI (c))), (2, .int (nI (1)))] dX6_sign_13 (by decide) rfl ?_
  refine zr_aloadn X 0 dX6_sign_14 rfl ?_
  refine zr_dup X dX6_sign_15 rfl ?_
  refine zr_get X (ci := 6) (q := 9) zI (.int (nI (p))) dX6_sign_16 (by omega) rfl rfl inX6 (by decide) rfl (congrArg Value.int (hp)) rfl k_548 ?_
  refine zr_iloadn X 2 dX6_sign_19 rfl ?_
  refine zr_if_eq X 27 dX6_sign_20 (by decide) (fun q => absurd q (nI_ne0 (by omega) (by omega))) (fun _ => ?_)
  refine zr_iconst X (nI (1)) dX6_sign_23 (by decide +kernel) ?_
  refine zr_goto X 28 dX6_sign_24 (by decide) ?_
  refine zr_iadd X (nI (p + 1)) dX6_sign_28 (nI_add _ _) ?_
  refine zr_put X (ci := 6) (q := 9) (ty0 := tyX6) (ty := .int) (2452) dX6_sign_29 (by omega) rfl rfl inX6 tyX6_ok nmX6 (by decide) rfl rfl rfl rfl rfl rfl k_548 (by omega) ?_
  refine zr_iloadn X 2 dX6_sign_32 rfl ?_
  exact zr_zret X dX6_sign_33 rfl ⟨rfl, rfl⟩

set_option maxHeartbeats 4000000 in
set_option maxRecDepth 100000 in
theorem c_sign_f {l : Launch} {D : va_G} {tc : Nat → ClassId} {ad : Nat → Nat} {A : Nat → Prop} {tF tL tM : Nat} (E : zN 6 A ad) (μ : Nat → Int32) {w : Nat → Int32} (hw : ∀ q, q < 60 → μ (q + 2460) = w q) {p : Nat} (hp : μ 2452 = nI p) (hp3 : p ≤ 64) {n : Nat} (hn : μ 2447 = nI n) (hn2 : n ≤ 60) {c : Nat} (hc1 : 0 < c) (hc2 : c < 100) (h : ¬ zis w n c p) : zMi l yX6_sign cX6_sign 3 (some .boolean) (zrm 2) (zK A D tc tF tL tM) A D vwCl tc ad 6 shR [.ref (ad (0)), .int (nI (c))] μ (fun r u => r = nI 0 ∧ u = μ) := by
  refine zM_of RX6 [(0, .ref (ad (0))), (1, .int (nI (c)))] (zK_ok A D tc tF tL tM) E.1 E.2 owR_ok (by decide +kernel) rfl (Nat.le_of_ble_eq_true rfl) rfl ?_
  intro pP eE sS mM aS bL mT cO X
  refine zr_aloadn X 0 dX6_sign_0 rfl ?_
  by_cases hlt : p < n
  · refine zr_dVi (C := RX6) (ci := 6) [] [] X (zK_ok A D tc tF tL tM) (zM_i (z1 := w (p)) (c_code_in E μ (p := p) (hp) (by omega) (hn) hn2 (by omega)) ((rfl).trans (hw (p) (by omega)))) k_715 k_717 kp_14 k_7 k_718 hdX6_code ⟨rfl, rfl⟩ ⟨Nat.le_of_ble_eq_true rfl, Nat.le_of_ble_eq_true rfl⟩ (by omega) rfl rfl rfl rfl (Nat.le_of_ble_eq_true rfl) dX6_sign_1 ?_
    refine zr_iloadn X 1 dX6_sign_4 rfl ?_
    refine zr_icmp_ne X 12 dX6_sign_5 (by decide) (fun _ => ?_) (fun q => absurd q (fun q => h ⟨hlt, q⟩))
    refine zr_iconst X (nI (0)) dX6_sign_12 (by decide +kernel) ?_
    refine zr_istoren X [1, 2, 0] [(0, .ref (ad (0))), (1, .int (nI (c))), (2, .int (nI (0)))] dX6_sign_13 (by decide) rfl ?_
    refine zr_aloadn X 0 dX6_sign_14 rfl ?_
    refine zr_dup X dX6_sign_15 rfl ?_
    refine zr_get X (ci := 6) (q := 9) zI (.int (nI (p))) dX6_sign_16 (by omega) rfl rfl inX6 (by decide) rfl (congrArg Value.int (hp)) rfl k_548 ?_
    refine zr_iloadn X 2 dX6_sign_19 rfl ?_
    refine zr_if_eq X 27 dX6_sign_20 (by decide) (fun _ => ?_) (fun q => absurd (zq_eq0 (by omega)) q)
    refine zr_iconst X (nI (0)) dX6_sign_27 (by decide +kernel) ?_
    refine zr_iadd X (nI (p)) dX6_sign_28 ((nI_add _ _).trans (congrArg nI (by omega))) ?_
    refine zr_put X (ci := 6) (q := 9) (ty0 := tyX6) (ty := .int) (2452) dX6_sign_29 (by omega) rfl rfl inX6 tyX6_ok nmX6 (by decide) rfl rfl rfl rfl rfl rfl k_548 (by omega) ?_
    refine zr_iloadn X 2 dX6_sign_32 rfl ?_
    exact zr_zret X dX6_sign_33 rfl ⟨rfl, zupd_same hp⟩
  · refine zr_dVi (C := RX6) (ci := 6) [] [] X (zK_ok A D tc tF tL tM) (c_code_out E μ (p := p) (hp) (by omega) (hn) hn2 (by omega)) k_715 k_717 kp_14 k_7 k_718 hdX6_code ⟨rfl, rfl⟩ ⟨Nat.le_of_ble_eq_true rfl, Nat.le_of_ble_eq_true rfl⟩ (by omega) rfl rfl rfl rfl (Nat.le_of_ble_eq_true rfl) dX6_sign_1 ?_
    refine zr_iloadn X 1 dX6_sign_4 rfl ?_
    refine zr_icmp_ne X 12 dX6_sign_5 (by decide) (fun _ => ?_) (fun q => absurd q (zq_ne (by omega) (by omega) (by omega)))
    refine zr_iconst X (nI (0)) dX6_sign_12 (by decide +kernel) ?_
    refine zr_istoren X [1, 2, 0] [(0, .ref (ad (0))), (1, .int (nI (c))), (2, .int (nI (0)))] dX6_sign_13 (by decide) rfl ?_
    refine zr_aloadn X 0 dX6_sign_14 rfl ?_
    refine zr_dup X dX6_sign_15 rfl ?_
    refine zr_get X (ci := 6) (q := 9) zI (.int (nI (p))) dX6_sign_16 (by omega) rfl rfl inX6 (by decide) rfl (congrArg Value.int (hp)) rfl k_548 ?_
    refine zr_iloadn X 2 dX6_sign_19 rfl ?_
    refine zr_if_eq X 27 dX6_sign_20 (by decide) (fun _ => ?_) (fun q => absurd (zq_eq0 (by omega)) q)
    refine zr_iconst X (nI (0)) dX6_sign_27 (by decide +kernel) ?_
    refine zr_iadd X (nI (p)) dX6_sign_28 ((nI_add _ _).trans (congrArg nI (by omega))) ?_
    refine zr_put X (ci := 6) (q := 9) (ty0 := tyX6) (ty := .int) (2452) dX6_sign_29 (by omega) rfl rfl inX6 tyX6_ok nmX6 (by decide) rfl rfl rfl rfl rfl rfl k_548 (by omega) ?_
    refine zr_iloadn X 2 dX6_sign_32 rfl ?_
    exact zr_zret X dX6_sign_33 rfl ⟨rfl, zupd_same hp⟩

set_option maxHeartbeats 4000000 in
set_option maxRecDepth 100000 in
theorem c_number0_f {l : Launch} {D : va_G} {tc : Nat → ClassId} {ad : Nat → Nat} {A : Nat → Prop} {tF tL tM : Nat} (E : zN 6 A ad) (μ : Nat → Int32) {w : Nat → Int32} (hw : ∀ q, q < 60 → μ (q + 2460) = w q) {p : Nat} (hp : μ 2452 = nI p) (hp3 : p ≤ 64) {n : Nat} (hn : μ 2447 = nI n) (hn2 : n ≤ 60) (h : ¬ znum w n 1 p) : zMi l yX6_number cX6_number 5 (some .boolean) (zrm 2) (zK A D tc tF tL tM) A D vwCl tc ad 6 shR [.ref (ad (0)), .int (nI (0)), .int (nI (1)), .int (nI (1))] μ (fun r u => r = nI 0 ∧ u = μ) := by
  refine zM_of RX6 [(0, .ref (ad (0))), (1, .int (nI (0))), (2, .int (nI (1))), (3, .int (nI (1)))] (zK_ok A D tc tF tL tM) E.1 E.2 owR_ok (by decide +kernel) rfl (Nat.le_of_ble_eq_true rfl) rfl ?_
  intro pP eE sS mM aS bL mT cO X
  refine zr_aloadn X 0 dX6_number_0 rfl ?_
  by_cases hlt : p < n
  · refine zr_dVi (C := RX6) (ci := 6) [] [] X (zK_ok A D tc tF tL tM) (zM_i (z1 := w (p)) (c_code_in E μ (p := p) (hp) (by omega) (hn) hn2 (by omega)) ((rfl).trans (hw (p) (by omega)))) k_715 k_717 kp_14 k_7 k_718 hdX6_code ⟨rfl, rfl⟩ ⟨Nat.le_of_ble_eq_true rfl, Nat.le_of_ble_eq_true rfl⟩ (by omega) rfl rfl rfl rfl (Nat.le_of_ble_eq_true rfl) dX6_number_1 ?_
    refine zr_iloadn X 3 dX6_number_4 rfl ?_
    refine zr_if_eq X 13 dX6_number_5 (by decide) (fun q => absurd q (nI_ne0 (by omega) (by omega))) (fun _ => ?_)
    refine zr_bipush X (nI (48)) dX6_number_8 (by decide +kernel) ?_
    refine zr_goto X 15 dX6_number_10 (by decide) ?_
    refine zr_bipush X (nI (57)) dX6_number_15 (by decide +kernel) ?_
    refine zr_dSi [.int (w (p)), .int (nI (48)), .int (nI (57))] [] X (zK_ok A D tc tF tL tM) (c_in_f E μ (fun q => h (znum1_of hlt q.1 q.2))) k_604 k_605 k_7 k_606 hdX6_in ⟨rfl, rfl⟩ ⟨Nat.le_of_ble_eq_true rfl, Nat.le_of_ble_eq_true rfl⟩ rfl rfl (Nat.le_of_ble_eq_true rfl) dX6_number_17 ?_
    refine zr_if_ne X 25 dX6_number_20 (by decide) (fun q => absurd (zq_eq0 (by omega)) q) (fun _ => ?_)
    refine zr_iconst X (nI (0)) dX6_number_23 (by decide +kernel) ?_
    exact zr_zret X dX6_number_24 rfl ⟨rfl, rfl⟩
  · refine zr_dVi (C := RX6) (ci := 6) [] [] X (zK_ok A D tc tF tL tM) (c_code_out E μ (p := p) (hp) (by omega) (hn) hn2 (by omega)) k_715 k_717 kp_14 k_7 k_718 hdX6_code ⟨rfl, rfl⟩ ⟨Nat.le_of_ble_eq_true rfl, Nat.le_of_ble_eq_true rfl⟩ (by omega) rfl rfl rfl rfl (Nat.le_of_ble_eq_true rfl) dX6_number_1 ?_
    refine zr_iloadn X 3 dX6_number_4 rfl ?_
    refine zr_if_eq X 13 dX6_number_5 (by decide) (fun q => absurd q (nI_ne0 (by omega) (by omega))) (fun _ => ?_)
    refine zr_bipush X (nI (48)) dX6_number_8 (by decide +kernel) ?_
    refine zr_goto X 15 dX6_number_10 (by decide) ?_
    refine zr_bipush X (nI (57)) dX6_number_15 (by decide +kernel) ?_
    refine zr_dSi [.int (nI (0)), .int (nI (48)), .int (nI (57))] [] X (zK_ok A D tc tF tL tM) (c_in_f E μ (fun q => absurd q.1 (by decide +kernel))) k_604 k_605 k_7 k_606 hdX6_in ⟨rfl, rfl⟩ ⟨Nat.le_of_ble_eq_true rfl, Nat.le_of_ble_eq_true rfl⟩ rfl rfl (Nat.le_of_ble_eq_true rfl) dX6_number_17 ?_
    refine zr_if_ne X 25 dX6_number_20 (by decide) (fun q => absurd (zq_eq0 (by omega)) q) (fun _ => ?_)
    refine zr_iconst X (nI (0)) dX6_number_23 (by decide +kernel) ?_
    exact zr_zret X dX6_number_24 rfl ⟨rfl, rfl⟩

set_option maxHeartbeats 4000000 in
set_option maxRecDepth 100000 in
theorem c_number0_t {l : Launch} {D : va_G} {tc : Nat → ClassId} {ad : Nat → Nat} {A : Nat → Prop} {tF tL tM : Nat} (E : zN 6 A ad) (μ : Nat → Int32) {w : Nat → Int32} (hw : ∀ q, q < 60 → μ (q + 2460) = w q) {p : Nat} (hp : μ 2452 = nI p) (hp3 : p ≤ 64) {n : Nat} (hn : μ 2447 = nI n) (hn2 : n ≤ 60) (h : znum w n 1 p) {a b : Nat} (ha : znv w n 1 p = a) (hb : znq w n 1 p = b) : zMi l yX6_number cX6_number 5 (some .boolean) (zrm 2) (zK A D tc tF tL tM) A D vwCl tc ad 6 shR [.ref (ad (0)), .int (nI (0)), .int (nI (1)), .int (nI (1))] μ (fun r u => r = nI 1 ∧ u = upd (upd μ 2543 (nI (a))) 2452 (nI (b))) := by
  refine zM_of RX6 [(0, .ref (ad (0))), (1, .int (nI (0))), (2, .int (nI (1))), (3, .int (nI (1)))] (zK_ok A D tc tF tL tM) E.1 E.2 owR_ok (by decide +kernel) rfl (Nat.le_of_ble_eq_true rfl) rfl ?_
  intro pP eE sS mM aS bL mT cO X
  refine zr_aloadn X 0 dX6_number_0 rfl ?_
  obtain ⟨⟨hlt, hd1, hd2⟩, hz⟩ := h
  have he := zdg_eq hd1 hd2
  have hz9 := zdg_9 w p
  refine zr_dVi (C := RX6) (ci := 6) [] [] X (zK_ok A D tc tF tL tM) (zM_i (z1 := nI (zdg w (p) + 48)) (c_code_in E μ (p := p) (hp) (by omega) (hn) hn2 (by omega)) (((rfl).trans (hw (p) (by omega))).trans he)) k_715 k_717 kp_14 k_7 k_718 hdX6_code ⟨rfl, rfl⟩ ⟨Nat.le_of_ble_eq_true rfl, Nat.le_of_ble_eq_true rfl⟩ (by omega) rfl rfl rfl rfl (Nat.le_of_ble_eq_true rfl) dX6_number_1 ?_
  refine zr_iloadn X 3 dX6_number_4 rfl ?_
  refine zr_if_eq X 13 dX6_number_5 (by decide) (fun q => absurd q (nI_ne0 (by omega) (by omega))) (fun _ => ?_)
  refine zr_bipush X (nI (48)) dX6_number_8 (by decide +kernel) ?_
  refine zr_goto X 15 dX6_number_10 (by decide) ?_
  refine zr_bipush X (nI (57)) dX6_number_15 (by decide +kernel) ?_
  refine zr_dSi [.int (nI ((zdg w (p)) + 48)), .int (nI (48)), .int (nI (57))] [] X (zK_ok A D tc tF tL tM) (c_in_t E μ (zq_le (by omega) (by omega)) (zq_le (by omega) (by omega))) k_604 k_605 k_7 k_606 hdX6_in ⟨rfl, rfl⟩ ⟨Nat.le_of_ble_eq_true rfl, Nat.le_of_ble_eq_true rfl⟩ rfl rfl (Nat.le_of_ble_eq_true rfl) dX6_number_17 ?_
  refine zr_if_ne X 25 dX6_number_20 (by decide) (fun _ => ?_) (fun q => absurd q (nI_ne0 (by omega) (by omega)))
  refine zr_iconst X (nI (0)) dX6_number_25 (by decide +kernel) ?_
  refine zr_istore X [1, 2, 3, 4, 0] [(0, .ref (ad (0))), (1, .int (nI (0))), (2, .int (nI (1))), (3, .int (nI (1))), (4, .int (nI (0)))] dX6_number_26 (by decide) rfl ?_
  refine zr_aloadn X 0 dX6_number_28 rfl ?_
  refine zr_get X (ci := 6) (q := 10) (zR _) (.ref (ad (5))) dX6_number_29 (by omega) rfl rfl inX6 (by decide) rfl (zvR rfl) rfl k_549 ?_
  refine zr_iloadn X 1 dX6_number_32 rfl ?_
  refine zr_iconst X (nI (0)) dX6_number_33 (by decide +kernel) ?_
  refine zr_iast X (j := 0) 0 (2543) dX6_number_34 (by omega) rfl rfl rfl (by omega) (by omega) (by omega) ?_
  refine zr_forH X (1) (fun q => zmo1 w n 1 true 0 p = zmo1 w n (1 - q) (decide (q = 0)) (zval w p q) (p + q)) (fun q => (upd (upd μ (2543) (nI ((zval w p (q))))) (2452) (nI (p + q)))) (fun q => [(0, .ref (ad (0))), (1, .int (nI (0))), (2, .int (nI (1))), (3, .int (nI (1))), (4, .int (nI (q)))]) [] (rfl) (zupd_same ((pk_un (by omega)).trans hp)) (rfl) (fun hP35 => ?_) ?_
  · refine zr_aloadn X 0 dX6_number_35 rfl ?_
    by_cases hn36 : p + 1 < n
    · by_cases hd36 : nI 48 ≤ w (p + 1) ∧ w (p + 1) ≤ nI 57
      · have he := zdg_eq hd36.1 hd36.2
        have hz9 := zdg_9 w (p + 1)
        refine zr_dVi (C := RX6) (ci := 6) [] [] X (zK_ok A D tc tF tL tM) (zM_i (z1 := nI (zdg w (p + 1) + 48)) (c_code_in E (upd (upd μ (2543) (nI ((zval w p (1))))) (2452) (nI (p + 1))) (p := p + 1) (pk_us) (by omega) ((pk_un (by omega)).trans ((pk_un (by omega)).trans (hn))) hn2 (by omega)) ((((pk_un (by omega)).trans ((pk_un (by omega)).trans (rfl))).trans (hw (p + 1) (by omega))).trans he)) k_715 k_717 kp_14 k_7 k_718 hdX6_code ⟨rfl, rfl⟩ ⟨Nat.le_of_ble_eq_true rfl, Nat.le_of_ble_eq_true rfl⟩ (by omega) rfl rfl rfl rfl (Nat.le_of_ble_eq_true rfl) dX6_number_36 ?_
        refine zr_bipush X (nI (48)) dX6_number_39 (by decide +kernel) ?_
        refine zr_bipush X (nI (57)) dX6_number_41 (by decide +kernel) ?_
        refine zr_dSi [.int (nI ((zdg w (p + 1)) + 48)), .int (nI (48)), .int (nI (57))] [] X (zK_ok A D tc tF tL tM) (c_in_t E (upd (upd μ (2543) (nI ((zval w p (1))))) (2452) (nI (p + 1))) (zq_le (by omega) (by omega)) (zq_le (by omega) (by omega))) k_604 k_605 k_7 k_606 hdX6_in ⟨rfl, rfl⟩ ⟨Nat.le_of_ble_eq_true rfl, Nat.le_of_ble_eq_true rfl⟩ rfl rfl (Nat.le_of_ble_eq_true rfl) dX6_number_43 ?_
        refine zr_if_eq X 108 dX6_number_46 (by decide) (fun q => absurd q (nI_ne0 (by omega) (by omega))) (fun _ => ?_)
        refine zr_iload X 4 dX6_number_49 rfl ?_
        refine zr_iloadn X 2 dX6_number_51 rfl ?_
        refine zr_icmp_ge X 108 dX6_number_52 (by decide) (fun _ => ?_) (fun q => absurd (zq_le (by omega) (by omega)) q)
        refine zr_iconst X (nI (1)) dX6_number_108 (by decide +kernel) ?_
        exact zr_zret X dX6_number_109 rfl ⟨rfl, by rw [← ha, ← hb]; unfold znv znq; rw [hP35, zmo1_end (Or.inl rfl)]⟩
      · refine zr_dVi (C := RX6) (ci := 6) [] [] X (zK_ok A D tc tF tL tM) (zM_i (z1 := w (p + 1)) (c_code_in E (upd (upd μ (2543) (nI ((zval w p (1))))) (2452) (nI (p + 1))) (p := p + 1) (pk_us) (by omega) ((pk_un (by omega)).trans ((pk_un (by omega)).trans (hn))) hn2 (by omega)) (((pk_un (by omega)).trans ((pk_un (by omega)).trans (rfl))).trans (hw (p + 1) (by omega)))) k_715 k_717 kp_14 k_7 k_718 hdX6_code ⟨rfl, rfl⟩ ⟨Nat.le_of_ble_eq_true rfl, Nat.le_of_ble_eq_true rfl⟩ (by omega) rfl rfl rfl rfl (Nat.le_of_ble_eq_true rfl) dX6_number_36 ?_
        refine zr_bipush X (nI (48)) dX6_number_39 (by decide +kernel) ?_
        refine zr_bipush X (nI (57)) dX6_number_41 (by decide +kernel) ?_
        refine zr_dSi [.int (w (p + 1)), .int (nI (48)), .int (nI (57))] [] X (zK_ok A D tc tF tL tM) (c_in_f E (upd (upd μ (2543) (nI ((zval w p (1))))) (2452) (nI (p + 1))) (hd36)) k_604 k_605 k_7 k_606 hdX6_in ⟨rfl, rfl⟩ ⟨Nat.le_of_ble_eq_true rfl, Nat.le_of_ble_eq_true rfl⟩ rfl rfl (Nat.le_of_ble_eq_true rfl) dX6_number_43 ?_
        refine zr_if_eq X 108 dX6_number_46 (by decide) (fun _ => ?_) (fun q => absurd (zq_eq0 (by omega)) q)
        refine zr_iconst X (nI (1)) dX6_number_108 (by decide +kernel) ?_
        exact zr_zret X dX6_number_109 rfl ⟨rfl, by rw [← ha, ← hb]; unfold znv znq; rw [hP35, zmo1_end (Or.inr (Or.inl (fun z => hd36 z.2)))]⟩
    · refine zr_dVi (C := RX6) (ci := 6) [] [] X (zK_ok A D tc tF tL tM) (c_code_out E (upd (upd μ (2543) (nI ((zval w p (1))))) (2452) (nI (p + 1))) (p := p + 1) (pk_us) (by omega) ((pk_un (by omega)).trans ((pk_un (by omega)).trans (hn))) hn2 (by omega)) k_715 k_717 kp_14 k_7 k_718 hdX6_code ⟨rfl, rfl⟩ ⟨Nat.le_of_ble_eq_true rfl, Nat.le_of_ble_eq_true rfl⟩ (by omega) rfl rfl rfl rfl (Nat.le_of_ble_eq_true rfl) dX6_number_36 ?_
      refine zr_bipush X (nI (48)) dX6_number_39 (by decide +kernel) ?_
      refine zr_bipush X (nI (57)) dX6_number_41 (by decide +kernel) ?_
      refine zr_dSi [.int (nI (0)), .int (nI (48)), .int (nI (57))] [] X (zK_ok A D tc tF tL tM) (c_in_f E (upd (upd μ (2543) (nI ((zval w p (1))))) (2452) (nI (p + 1))) (fun q => absurd q.1 (by decide +kernel))) k_604 k_605 k_7 k_606 hdX6_in ⟨rfl, rfl⟩ ⟨Nat.le_of_ble_eq_true rfl, Nat.le_of_ble_eq_true rfl⟩ rfl rfl (Nat.le_of_ble_eq_true rfl) dX6_number_43 ?_
      refine zr_if_eq X 108 dX6_number_46 (by decide) (fun _ => ?_) (fun q => absurd (zq_eq0 (by omega)) q)
      refine zr_iconst X (nI (1)) dX6_number_108 (by decide +kernel) ?_
      exact zr_zret X dX6_number_109 rfl ⟨rfl, by rw [← ha, ← hb]; unfold znv znq; rw [hP35, zmo1_end (Or.inr (Or.inl (fun z => hn36 z.1)))]⟩
  · intro q hq hP35 ih35
    refine zr_aloadn X 0 dX6_number_35 rfl ?_
    by_cases hn36 : p + q < n
    · by_cases hd36 : nI 48 ≤ w (p + q) ∧ w (p + q) ≤ nI 57
      · have he := zdg_eq hd36.1 hd36.2
        have hz9 := zdg_9 w (p + q)
        refine zr_dVi (C := RX6) (ci := 6) [] [] X (zK_ok A D tc tF tL tM) (zM_i (z1 := nI (zdg w (p + q) + 48)) (c_code_in E (upd (upd μ (2543) (nI ((zval w p (q))))) (2452) (nI (p + q))) (p := p + q) (pk_us) (by omega) ((pk_un (by omega)).trans ((pk_un (by omega)).trans (hn))) hn2 (by omega)) ((((pk_un (by omega)).trans ((pk_un (by omega)).trans (rfl))).trans (hw (p + q) (by omega))).trans he)) k_715 k_717 kp_14 k_7 k_718 hdX6_code ⟨rfl, rfl⟩ ⟨Nat.le_of_ble_eq_true rfl, Nat.le_of_ble_eq_true rfl⟩ (by omega) rfl rfl rfl rfl (Nat.le_of_ble_eq_true rfl) dX6_number_36 ?_
        refine zr_bipush X (nI (48)) dX6_number_39 (by decide +kernel) ?_
        refine zr_bipush X (nI (57)) dX6_number_41 (by decide +kernel) ?_
        refine zr_dSi [.int (nI ((zdg w (p + q)) + 48)), .int (nI (48)), .int (nI (57))] [] X (zK_ok A D tc tF tL tM) (c_in_t E (upd (upd μ (2543) (nI ((zval w p (q))))) (2452) (nI (p + q))) (zq_le (by omega) (by omega)) (zq_le (by omega) (by omega))) k_604 k_605 k_7 k_606 hdX6_in ⟨rfl, rfl⟩ ⟨Nat.le_of_ble_eq_true rfl, Nat.le_of_ble_eq_true rfl⟩ rfl rfl (Nat.le_of_ble_eq_true rfl) dX6_number_43 ?_
        refine zr_if_eq X 108 dX6_number_46 (by decide) (fun q => absurd q (nI_ne0 (by omega) (by omega))) (fun _ => ?_)
        refine zr_iload X 4 dX6_number_49 rfl ?_
        refine zr_iloadn X 2 dX6_number_51 rfl ?_
        refine zr_icmp_ge X 108 dX6_number_52 (by decide) (fun q => absurd q (nI_ge (by omega) (by omega))) (fun _ => ?_)
        refine zr_iload X 4 dX6_number_55 rfl ?_
        refine zr_if_eq X 69 dX6_number_57 (by decide) (fun h57 => ?_) (fun h57 => ?_)
        · have h57 : q = 0 := by rw [← nI_0] at h57; exact (nI_eq (by omega) (by omega)).mp h57
          refine zr_aloadn X 0 dX6_number_69 rfl ?_
          refine zr_get X (ci := 6) (q := 10) (zR _) (.ref (ad (5))) dX6_number_70 (by omega) rfl rfl inX6 (by decide) rfl (zvR rfl) rfl k_549 ?_
          refine zr_iloadn X 1 dX6_number_73 rfl ?_
          refine zr_bipush X (nI (10)) dX6_number_74 (by decide +kernel) ?_
          refine zr_aloadn X 0 dX6_number_76 rfl ?_
          refine zr_get X (ci := 6) (q := 10) (zR _) (.ref (ad (5))) dX6_number_77 (by omega) rfl rfl inX6 (by decide) rfl (zvR rfl) rfl k_549 ?_
          refine zr_iloadn X 1 dX6_number_80 rfl ?_
          refine zr_iald X (j := 0) 0 (nI ((zval w p (q)))) dX6_number_81 (by omega) rfl rfl rfl (by omega) (by omega) (zcg (b := 2543) (by omega) ((pk_un (by omega)).trans (pk_us))) ?_
          refine zr_imul X (nI (10 * (zval w p (q)))) dX6_number_82 ((pk_mul _ _).trans (congrArg nI (by omega))) ?_
          refine zr_aloadn X 0 dX6_number_83 rfl ?_
          refine zr_dVi (C := RX6) (ci := 6) [] [.int (nI (10 * (zval w p (q)))), .int (nI (0)), .ref (ad (5))] X (zK_ok A D tc tF tL tM) (zM_i (z1 := nI (zdg w (p + q) + 48)) (c_code_in E (upd (upd μ (2543) (nI ((zval w p (q))))) (2452) (nI (p + q))) (p := p + q) (pk_us) (by omega) ((pk_un (by omega)).trans ((pk_un (by omega)).trans (hn))) hn2 (by omega)) ((((pk_un (by omega)).trans ((pk_un (by omega)).trans (rfl))).trans (hw (p + q) (by omega))).trans he)) k_715 k_717 kp_14 k_7 k_718 hdX6_code ⟨rfl, rfl⟩ ⟨Nat.le_of_ble_eq_true rfl, Nat.le_of_ble_eq_true rfl⟩ (by omega) rfl rfl rfl rfl (Nat.le_of_ble_eq_true rfl) dX6_number_84 ?_
          refine zr_iadd X (nI ((zdg w (p + q)) + 10 * (zval w p (q)) + 48)) dX6_number_87 ((nI_add _ _).trans (congrArg nI (by omega))) ?_
          refine zr_bipush X (nI (48)) dX6_number_88 (by decide +kernel) ?_
          refine zr_isub X (nI ((zdg w (p + q)) + 10 * (zval w p (q)))) dX6_number_90 ((pk_sub (by omega)).trans (congrArg nI (by omega))) ?_
          refine zr_iast X (j := 0) 0 (2543) dX6_number_91 (by omega) rfl rfl rfl (by omega) (by omega) (by omega) ?_
          refine zr_aloadn X 0 dX6_number_92 rfl ?_
          refine zr_dup X dX6_number_93 rfl ?_
          refine zr_get X (ci := 6) (q := 9) zI (.int (nI (p + q))) dX6_number_94 (by omega) rfl rfl inX6 (by decide) rfl (congrArg Value.int ((pk_un (by omega)).trans (pk_us))) rfl k_548 ?_
          refine zr_iconst X (nI (1)) dX6_number_97 (by decide +kernel) ?_
          refine zr_iadd X (nI (p + q + 1)) dX6_number_98 (nI_add _ _) ?_
          refine zr_put X (ci := 6) (q := 9) (ty0 := tyX6) (ty := .int) (2452) dX6_number_99 (by omega) rfl rfl inX6 tyX6_ok nmX6 (by decide) rfl rfl rfl rfl rfl rfl k_548 (by omega) ?_
          refine zr_iinc X 4 (nI (q + 1)) [1, 2, 3, 4, 0] [(0, .ref (ad (0))), (1, .int (nI (0))), (2, .int (nI (1))), (3, .int (nI (1))), (4, .int (nI (q + 1)))] dX6_number_102 rfl (zinc _) (by decide) rfl ?_
          refine zr_goto X 35 dX6_number_105 (by decide) ?_
          exact zr_mem X ((zupd4 (by omega)).trans (congrArg (fun z => upd (upd μ 2543 (nI z)) 2452 (nI (p + q + 1))) (Nat.add_comm _ _))) (ih35 (hP35.trans (by rw [show 1 - q = 1 - (q + 1) + 1 by omega, zmo1_go ⟨hn36, hd36⟩ (Or.inl (decide_eq_true h57)), show decide (q + 1 = 0) = false from decide_eq_false (by omega)]; rfl)))
        · have h57 : ¬ q = 0 := fun q => h57 (by rw [q]; rfl)
          refine zr_aloadn X 0 dX6_number_60 rfl ?_
          refine zr_get X (ci := 6) (q := 10) (zR _) (.ref (ad (5))) dX6_number_61 (by omega) rfl rfl inX6 (by decide) rfl (zvR rfl) rfl k_549 ?_
          refine zr_iloadn X 1 dX6_number_64 rfl ?_
          refine zr_iald X (j := 0) 0 (nI ((zval w p (q)))) dX6_number_65 (by omega) rfl rfl rfl (by omega) (by omega) (zcg (b := 2543) (by omega) ((pk_un (by omega)).trans (pk_us))) ?_
          refine zr_if_le X 108 dX6_number_66 (by decide) (fun h66 => ?_) (fun h66 => ?_)
          · have h66 : zval w p q = 0 := by rw [← nI_0] at h66; have hz := zval_ub (w := w) (p := p) (i := q) (by omega); have := (nI_leI (by omega) (by omega)).mp h66; omega
            refine zr_iconst X (nI (1)) dX6_number_108 (by decide +kernel) ?_
            exact zr_zret X dX6_number_109 rfl ⟨rfl, by rw [← ha, ← hb]; unfold znv znq; rw [hP35, zmo1_end (Or.inr (Or.inr ⟨decide_eq_false h57, h66⟩))]⟩
          · have h66 : 0 < zval w p q := Nat.pos_of_ne_zero (fun q => h66 (by rw [q]; decide +kernel))
            refine zr_aloadn X 0 dX6_number_69 rfl ?_
            refine zr_get X (ci := 6) (q := 10) (zR _) (.ref (ad (5))) dX6_number_70 (by omega) rfl rfl inX6 (by decide) rfl (zvR rfl) rfl k_549 ?_
            refine zr_iloadn X 1 dX6_number_73 rfl ?_
            refine zr_bipush X (nI (10)) dX6_number_74 (by decide +kernel) ?_
            refine zr_aloadn X 0 dX6_number_76 rfl ?_
            refine zr_get X (ci := 6) (q := 10) (zR _) (.ref (ad (5))) dX6_number_77 (by omega) rfl rfl inX6 (by decide) rfl (zvR rfl) rfl k_549 ?_
            refine zr_iloadn X 1 dX6_number_80 rfl ?_
            refine zr_iald X (j := 0) 0 (nI ((zval w p (q)))) dX6_number_81 (by omega) rfl rfl rfl (by omega) (by omega) (zcg (b := 2543) (by omega) ((pk_un (by omega)).trans (pk_us))) ?_
            refine zr_imul X (nI (10 * (zval w p (q)))) dX6_number_82 ((pk_mul _ _).trans (congrArg nI (by omega))) ?_
            refine zr_aloadn X 0 dX6_number_83 rfl ?_
            refine zr_dVi (C := RX6) (ci := 6) [] [.int (nI (10 * (zval w p (q)))), .int (nI (0)), .ref (ad (5))] X (zK_ok A D tc tF tL tM) (zM_i (z1 := nI (zdg w (p + q) + 48)) (c_code_in E (upd (upd μ (2543) (nI ((zval w p (q))))) (2452) (nI (p + q))) (p := p + q) (pk_us) (by omega) ((pk_un (by omega)).trans ((pk_un (by omega)).trans (hn))) hn2 (by omega)) ((((pk_un (by omega)).trans ((pk_un (by omega)).trans (rfl))).trans (hw (p + q) (by omega))).trans he)) k_715 k_717 kp_14 k_7 k_718 hdX6_code ⟨rfl, rfl⟩ ⟨Nat.le_of_ble_eq_true rfl, Nat.le_of_ble_eq_true rfl⟩ (by omega) rfl rfl rfl rfl (Nat.le_of_ble_eq_true rfl) dX6_number_84 ?_
            refine zr_iadd X (nI ((zdg w (p + q)) + 10 * (zval w p (q)) + 48)) dX6_number_87 ((nI_add _ _).trans (congrArg nI (by omega))) ?_
            refine zr_bipush X (nI (48)) dX6_number_88 (by decide +kernel) ?_
            refine zr_isub X (nI ((zdg w (p + q)) + 10 * (zval w p (q)))) dX6_number_90 ((pk_sub (by omega)).trans (congrArg nI (by omega))) ?_
            refine zr_iast X (j := 0) 0 (2543) dX6_number_91 (by omega) rfl rfl rfl (by omega) (by omega) (by omega) ?_
            refine zr_aloadn X 0 dX6_number_92 rfl ?_
            refine zr_dup X dX6_number_93 rfl ?_
            refine zr_get X (ci := 6) (q := 9) zI (.int (nI (p + q))) dX6_number_94 (by omega) rfl rfl inX6 (by decide) rfl (congrArg Value.int ((pk_un (by omega)).trans (pk_us))) rfl k_548 ?_
            refine zr_iconst X (nI (1)) dX6_number_97 (by decide +kernel) ?_
            refine zr_iadd X (nI (p + q + 1)) dX6_number_98 (nI_add _ _) ?_
            refine zr_put X (ci := 6) (q := 9) (ty0 := tyX6) (ty := .int) (2452) dX6_number_99 (by omega) rfl rfl inX6 tyX6_ok nmX6 (by decide) rfl rfl rfl rfl rfl rfl k_548 (by omega) ?_
            refine zr_iinc X 4 (nI (q + 1)) [1, 2, 3, 4, 0] [(0, .ref (ad (0))), (1, .int (nI (0))), (2, .int (nI (1))), (3, .int (nI (1))), (4, .int (nI (q + 1)))] dX6_number_102 rfl (zinc _) (by decide) rfl ?_
            refine zr_goto X 35 dX6_number_105 (by decide) ?_
            exact zr_mem X ((zupd4 (by omega)).trans (congrArg (fun z => upd (upd μ 2543 (nI z)) 2452 (nI (p + q + 1))) (Nat.add_comm _ _))) (ih35 (hP35.trans (by rw [show 1 - q = 1 - (q + 1) + 1 by omega, zmo1_go ⟨hn36, hd36⟩ (Or.inr (by omega)), show decide (q + 1 = 0) = false from decide_eq_false (by omega)]; rfl)))
      · refine zr_dVi (C := RX6) (ci := 6) [] [] X (zK_ok A D tc tF tL tM) (zM_i (z1 := w (p + q)) (c_code_in E (upd (upd μ (2543) (nI ((zval w p (q))))) (2452) (nI (p + q))) (p := p + q) (pk_us) (by omega) ((pk_un (by omega)).trans ((pk_un (by omega)).trans (hn))) hn2 (by omega)) (((pk_un (by omega)).trans ((pk_un (by omega)).trans (rfl))).trans (hw (p + q) (by omega)))) k_715 k_717 kp_14 k_7 k_718 hdX6_code ⟨rfl, rfl⟩ ⟨Nat.le_of_ble_eq_true rfl, Nat.le_of_ble_eq_true rfl⟩ (by omega) rfl rfl rfl rfl (Nat.le_of_ble_eq_true rfl) dX6_number_36 ?_
        refine zr_bipush X (nI (48)) dX6_number_39 (by decide +kernel) ?_
        refine zr_bipush X (nI (57)) dX6_number_41 (by decide +kernel) ?_
        refine zr_dSi [.int (w (p + q)), .int (nI (48)), .int (nI (57))] [] X (zK_ok A D tc tF tL tM) (c_in_f E (upd (upd μ (2543) (nI ((zval w p (q))))) (2452) (nI (p + q))) (hd36)) k_604 k_605 k_7 k_606 hdX6_in ⟨rfl, rfl⟩ ⟨Nat.le_of_ble_eq_true rfl, Nat.le_of_ble_eq_true rfl⟩ rfl rfl (Nat.le_of_ble_eq_true rfl) dX6_number_43 ?_
        refine zr_if_eq X 108 dX6_number_46 (by decide) (fun _ => ?_) (fun q => absurd (zq_eq0 (by omega)) q)
        refine zr_iconst X (nI (1)) dX6_number_108 (by decide +kernel) ?_
        exact zr_zret X dX6_number_109 rfl ⟨rfl, by rw [← ha, ← hb]; unfold znv znq; rw [hP35, zmo1_end (Or.inr (Or.inl (fun z => hd36 z.2)))]⟩
    · refine zr_dVi (C := RX6) (ci := 6) [] [] X (zK_ok A D tc tF tL tM) (c_code_out E (upd (upd μ (2543) (nI ((zval w p (q))))) (2452) (nI (p + q))) (p := p + q) (pk_us) (by omega) ((pk_un (by omega)).trans ((pk_un (by omega)).trans (hn))) hn2 (by omega)) k_715 k_717 kp_14 k_7 k_718 hdX6_code ⟨rfl, rfl⟩ ⟨Nat.le_of_ble_eq_true rfl, Nat.le_of_ble_eq_true rfl⟩ (by omega) rfl rfl rfl rfl (Nat.le_of_ble_eq_true rfl) dX6_number_36 ?_
      refine zr_bipush X (nI (48)) dX6_number_39 (by decide +kernel) ?_
      refine zr_bipush X (nI (57)) dX6_number_41 (by decide +kernel) ?_
      refine zr_dSi [.int (nI (0)), .int (nI (48)), .int (nI (57))] [] X (zK_ok A D tc tF tL tM) (c_in_f E (upd (upd μ (2543) (nI ((zval w p (q))))) (2452) (nI (p + q))) (fun q => absurd q.1 (by decide +kernel))) k_604 k_605 k_7 k_606 hdX6_in ⟨rfl, rfl⟩ ⟨Nat.le_of_ble_eq_true rfl, Nat.le_of_ble_eq_true rfl⟩ rfl rfl (Nat.le_of_ble_eq_true rfl) dX6_number_43 ?_
      refine zr_if_eq X 108 dX6_number_46 (by decide) (fun _ => ?_) (fun q => absurd (zq_eq0 (by omega)) q)
      refine zr_iconst X (nI (1)) dX6_number_108 (by decide +kernel) ?_
      exact zr_zret X dX6_number_109 rfl ⟨rfl, by rw [← ha, ← hb]; unfold znv znq; rw [hP35, zmo1_end (Or.inr (Or.inl (fun z => hn36 z.1)))]⟩

set_option maxHeartbeats 4000000 in
set_option maxRecDepth 100000 in
theorem c_number1_f {l : Launch} {D : va_G} {tc : Nat → ClassId} {ad : Nat → Nat} {A : Nat → Prop} {tF tL tM : Nat} (E : zN 6 A ad) (μ : Nat → Int32) {w : Nat → Int32} (hw : ∀ q, q < 60 → μ (q + 2460) = w q) {p : Nat} (hp : μ 2452 = nI p) (hp3 : p ≤ 64) {n : Nat} (hn : μ 2447 = nI n) (hn2 : n ≤ 60) (h : ¬ znum w n 1 p) : zMi l yX6_number cX6_number 5 (some .boolean) (zrm 2) (zK A D tc tF tL tM) A D vwCl tc ad 6 shR [.ref (ad (0)), .int (nI (1)), .int (nI (1)), .int (nI (1))] μ (fun r u => r = nI 0 ∧ u = μ) := by
  refine zM_of RX6 [(0, .ref (ad (0))), (1, .int (nI (1))), (2, .int (nI (1))), (3, .int (nI (1)))] (zK_ok A D tc tF tL tM) E.1 E.2 owR_ok (by decide +kernel) rfl (Nat.le_of_ble_eq_true rfl) rfl ?_
  intro pP eE sS mM aS bL mT cO X
  refine zr_aloadn X 0 dX6_number_0 rfl ?_
  by_cases hlt : p < n
  · refine zr_dVi (C := RX6) (ci := 6) [] [] X (zK_ok A D tc tF tL tM) (zM_i (z1 := w (p)) (c_code_in E μ (p := p) (hp) (by omega) (hn) hn2 (by omega)) ((rfl).trans (hw (p) (by omega)))) k_715 k_717 kp_14 k_7 k_718 hdX6_code ⟨rfl, rfl⟩ ⟨Nat.le_of_ble_eq_true rfl, Nat.le_of_ble_eq_true rfl⟩ (by omega) rfl rfl rfl rfl (Nat.le_of_ble_eq_true rfl) dX6_number_1 ?_
    refine zr_iloadn X 3 dX6_number_4 rfl ?_
    refine zr_if_eq X 13 dX6_number_5 (by decide) (fun q => absurd q (nI_ne0 (by omega) (by omega))) (fun _ => ?_)
    refine zr_bipush X (nI (48)) dX6_number_8 (by decide +kernel) ?_
    refine zr_goto X 15 dX6_number_10 (by decide) ?_
    refine zr_bipush X (nI (57)) dX6_number_15 (by decide +kernel) ?_
    refine zr_dSi [.int (w (p)), .int (nI (48)), .int (nI (57))] [] X (zK_ok A D tc tF tL tM) (c_in_f E μ (fun q => h (znum1_of hlt q.1 q.2))) k_604 k_605 k_7 k_606 hdX6_in ⟨rfl, rfl⟩ ⟨Nat.le_of_ble_eq_true rfl, Nat.le_of_ble_eq_true rfl⟩ rfl rfl (Nat.le_of_ble_eq_true rfl) dX6_number_17 ?_
    refine zr_if_ne X 25 dX6_number_20 (by decide) (fun q => absurd (zq_eq0 (by omega)) q) (fun _ => ?_)
    refine zr_iconst X (nI (0)) dX6_number_23 (by decide +kernel) ?_
    exact zr_zret X dX6_number_24 rfl ⟨rfl, rfl⟩
  · refine zr_dVi (C := RX6) (ci := 6) [] [] X (zK_ok A D tc tF tL tM) (c_code_out E μ (p := p) (hp) (by omega) (hn) hn2 (by omega)) k_715 k_717 kp_14 k_7 k_718 hdX6_code ⟨rfl, rfl⟩ ⟨Nat.le_of_ble_eq_true rfl, Nat.le_of_ble_eq_true rfl⟩ (by omega) rfl rfl rfl rfl (Nat.le_of_ble_eq_true rfl) dX6_number_1 ?_
    refine zr_iloadn X 3 dX6_number_4 rfl ?_
    refine zr_if_eq X 13 dX6_number_5 (by decide) (fun q => absurd q (nI_ne0 (by omega) (by omega))) (fun _ => ?_)
    refine zr_bipush X (nI (48)) dX6_number_8 (by decide +kernel) ?_
    refine zr_goto X 15 dX6_number_10 (by decide) ?_
    refine zr_bipush X (nI (57)) dX6_number_15 (by decide +kernel) ?_
    refine zr_dSi [.int (nI (0)), .int (nI (48)), .int (nI (57))] [] X (zK_ok A D tc tF tL tM) (c_in_f E μ (fun q => absurd q.1 (by decide +kernel))) k_604 k_605 k_7 k_606 hdX6_in ⟨rfl, rfl⟩ ⟨Nat.le_of_ble_eq_true rfl, Nat.le_of_ble_eq_true rfl⟩ rfl rfl (Nat.le_of_ble_eq_true rfl) dX6_number_17 ?_
    refine zr_if_ne X 25 dX6_number_20 (by decide) (fun q => absurd (zq_eq0 (by omega)) q) (fun _ => ?_)
    refine zr_iconst X (nI (0)) dX6_number_23 (by decide +kernel) ?_
    exact zr_zret X dX6_number_24 rfl ⟨rfl, rfl⟩

set_option maxHeartbeats 4000000 in
set_option maxRecDepth 100000 in
theorem c_number1_t {l : Launch} {D : va_G} {tc : Nat → ClassId} {ad : Nat → Nat} {A : Nat → Prop} {tF tL tM : Nat} (E : zN 6 A ad) (μ : Nat → Int32) {w : Nat → Int32} (hw : ∀ q, q < 60 → μ (q + 2460) = w q) {p : Nat} (hp : μ 2452 = nI p) (hp3 : p ≤ 64) {n : Nat} (hn : μ 2447 = nI n) (hn2 : n ≤ 60) (h : znum w n 1 p) {a b : Nat} (ha : znv w n 1 p = a) (hb : znq w n 1 p = b) : zMi l yX6_number cX6_number 5 (some .boolean) (zrm 2) (zK A D tc tF tL tM) A D vwCl tc ad 6 shR [.ref (ad (0)), .int (nI (1)), .int (nI (1)), .int (nI (1))] μ (fun r u => r = nI 1 ∧ u = upd (upd μ 2544 (nI (a))) 2452 (nI (b))) := by
  refine zM_of RX6 [(0, .ref (ad (0))), (1, .int (nI (1))), (2, .int (nI (1))), (3, .int (nI (1)))] (zK_ok A D tc tF tL tM) E.1 E.2 owR_ok (by decide +kernel) rfl (Nat.le_of_ble_eq_true rfl) rfl ?_
  intro pP eE sS mM aS bL mT cO X
  refine zr_aloadn X 0 dX6_number_0 rfl ?_
  obtain ⟨⟨hlt, hd1, hd2⟩, hz⟩ := h
  have he := zdg_eq hd1 hd2
  have hz9 := zdg_9 w p
  refine zr_dVi (C := RX6) (ci := 6) [] [] X (zK_ok A D tc tF tL tM) (zM_i (z1 := nI (zdg w (p) + 48)) (c_code_in E μ (p := p) (hp) (by omega) (hn) hn2 (by omega)) (((rfl).trans (hw (p) (by omega))).trans he)) k_715 k_717 kp_14 k_7 k_718 hdX6_code ⟨rfl, rfl⟩ ⟨Nat.le_of_ble_eq_true rfl, Nat.le_of_ble_eq_true rfl⟩ (by omega) rfl rfl rfl rfl (Nat.le_of_ble_eq_true rfl) dX6_number_1 ?_
  refine zr_iloadn X 3 dX6_number_4 rfl ?_
  refine zr_if_eq X 13 dX6_number_5 (by decide) (fun q => absurd q (nI_ne0 (by omega) (by omega))) (fun _ => ?_)
  refine zr_bipush X (nI (48)) dX6_number_8 (by decide +kernel) ?_
  refine zr_goto X 15 dX6_number_10 (by decide) ?_
  refine zr_bipush X (nI (57)) dX6_number_15 (by decide +kernel) ?_
  refine zr_dSi [.int (nI ((zdg w (p)) + 48)), .int (nI (48)), .int (nI (57))] [] X (zK_ok A D tc tF tL tM) (c_in_t E μ (zq_le (by omega) (by omega)) (zq_le (by omega) (by omega))) k_604 k_605 k_7 k_606 hdX6_in ⟨rfl, rfl⟩ ⟨Nat.le_of_ble_eq_true rfl, Nat.le_of_ble_eq_true rfl⟩ rfl rfl (Nat.le_of_ble_eq_true rfl) dX6_number_17 ?_
  refine zr_if_ne X 25 dX6_number_20 (by decide) (fun _ => ?_) (fun q => absurd q (nI_ne0 (by omega) (by omega)))
  refine zr_iconst X (nI (0)) dX6_number_25 (by decide +kernel) ?_
  refine zr_istore X [1, 2, 3, 4, 0] [(0, .ref (ad (0))), (1, .int (nI (1))), (2, .int (nI (1))), (3, .int (nI (1))), (4, .int (nI (0)))] dX6_number_26 (by decide) rfl ?_
  refine zr_aloadn X 0 dX6_number_28 rfl ?_
  refine zr_get X (ci := 6) (q := 10) (zR _) (.ref (ad (5))) dX6_number_29 (by omega) rfl rfl inX6 (by decide) rfl (zvR rfl) rfl k_549 ?_
  refine zr_iloadn X 1 dX6_number_32 rfl ?_
  refine zr_iconst X (nI (0)) dX6_number_33 (by decide +kernel) ?_
  refine zr_iast X (j := 1) 0 (2544) dX6_number_34 (by omega) rfl rfl rfl (by omega) (by omega) (by omega) ?_
  refine zr_forH X (1) (fun q => zmo1 w n 1 true 0 p = zmo1 w n (1 - q) (decide (q = 0)) (zval w p q) (p + q)) (fun q => (upd (upd μ (2544) (nI ((zval w p (q))))) (2452) (nI (p + q)))) (fun q => [(0, .ref (ad (0))), (1, .int (nI (1))), (2, .int (nI (1))), (3, .int (nI (1))), (4, .int (nI (q)))]) [] (rfl) (zupd_same ((pk_un (by omega)).trans hp)) (rfl) (fun hP35 => ?_) ?_
  · refine zr_aloadn X 0 dX6_number_35 rfl ?_
    by_cases hn36 : p + 1 < n
    · by_cases hd36 : nI 48 ≤ w (p + 1) ∧ w (p + 1) ≤ nI 57
      · have he := zdg_eq hd36.1 hd36.2
        have hz9 := zdg_9 w (p + 1)
        refine zr_dVi (C := RX6) (ci := 6) [] [] X (zK_ok A D tc tF tL tM) (zM_i (z1 := nI (zdg w (p + 1) + 48)) (c_code_in E (upd (upd μ (2544) (nI ((zval w p (1))))) (2452) (nI (p + 1))) (p := p + 1) (pk_us) (by omega) ((pk_un (by omega)).trans ((pk_un (by omega)).trans (hn))) hn2 (by omega)) ((((pk_un (by omega)).trans ((pk_un (by omega)).trans (rfl))).trans (hw (p + 1) (by omega))).trans he)) k_715 k_717 kp_14 k_7 k_718 hdX6_code ⟨rfl, rfl⟩ ⟨Nat.le_of_ble_eq_true rfl, Nat.le_of_ble_eq_true rfl⟩ (by omega) rfl rfl rfl rfl (Nat.le_of_ble_eq_true rfl) dX6_number_36 ?_
        refine zr_bipush X (nI (48)) dX6_number_39 (by decide +kernel) ?_
        refine zr_bipush X (nI (57)) dX6_number_41 (by decide +kernel) ?_
        refine zr_dSi [.int (nI ((zdg w (p + 1)) + 48)), .int (nI (48)), .int (nI (57))] [] X (zK_ok A D tc tF tL tM) (c_in_t E (upd (upd μ (2544) (nI ((zval w p (1))))) (2452) (nI (p + 1))) (zq_le (by omega) (by omega)) (zq_le (by omega) (by omega))) k_604 k_605 k_7 k_606 hdX6_in ⟨rfl, rfl⟩ ⟨Nat.le_of_ble_eq_true rfl, Nat.le_of_ble_eq_true rfl⟩ rfl rfl (Nat.le_of_ble_eq_true rfl) dX6_number_43 ?_
        refine zr_if_eq X 108 dX6_number_46 (by decide) (fun q => absurd q (nI_ne0 (by omega) (by omega))) (fun _ => ?_)
        refine zr_iload X 4 dX6_number_49 rfl ?_
        refine zr_iloadn X 2 dX6_number_51 rfl ?_
        refine zr_icmp_ge X 108 dX6_number_52 (by decide) (fun _ => ?_) (fun q => absurd (zq_le (by omega) (by omega)) q)
        refine zr_iconst X (nI (1)) dX6_number_108 (by decide +kernel) ?_
        exact zr_zret X dX6_number_109 rfl ⟨rfl, by rw [← ha, ← hb]; unfold znv znq; rw [hP35, zmo1_end (Or.inl rfl)]⟩
      · refine zr_dVi (C := RX6) (ci := 6) [] [] X (zK_ok A D tc tF tL tM) (zM_i (z1 := w (p + 1)) (c_code_in E (upd (upd μ (2544) (nI ((zval w p (1))))) (2452) (nI (p + 1))) (p := p + 1) (pk_us) (by omega) ((pk_un (by omega)).trans ((pk_un (by omega)).trans (hn))) hn2 (by omega)) (((pk_un (by omega)).trans ((pk_un (by omega)).trans (rfl))).trans (hw (p + 1) (by omega)))) k_715 k_717 kp_14 k_7 k_718 hdX6_code ⟨rfl, rfl⟩ ⟨Nat.le_of_ble_eq_true rfl, Nat.le_of_ble_eq_true rfl⟩ (by omega) rfl rfl rfl rfl (Nat.le_of_ble_eq_true rfl) dX6_number_36 ?_
        refine zr_bipush X (nI (48)) dX6_number_39 (by decide +kernel) ?_
        refine zr_bipush X (nI (57)) dX6_number_41 (by decide +kernel) ?_
        refine zr_dSi [.int (w (p + 1)), .int (nI (48)), .int (nI (57))] [] X (zK_ok A D tc tF tL tM) (c_in_f E (upd (upd μ (2544) (nI ((zval w p (1))))) (2452) (nI (p + 1))) (hd36)) k_604 k_605 k_7 k_606 hdX6_in ⟨rfl, rfl⟩ ⟨Nat.le_of_ble_eq_true rfl, Nat.le_of_ble_eq_true rfl⟩ rfl rfl (Nat.le_of_ble_eq_true rfl) dX6_number_43 ?_
        refine zr_if_eq X 108 dX6_number_46 (by decide) (fun _ => ?_) (fun q => absurd (zq_eq0 (by omega)) q)
        refine zr_iconst X (nI (1)) dX6_number_108 (by decide +kernel) ?_
        exact zr_zret X dX6_number_109 rfl ⟨rfl, by rw [← ha, ← hb]; unfold znv znq; rw [hP35, zmo1_end (Or.inr (Or.inl (fun z => hd36 z.2)))]⟩
    · refine zr_dVi (C := RX6) (ci := 6) [] [] X (zK_ok A D tc tF tL tM) (c_code_out E (upd (upd μ (2544) (nI ((zval w p (1))))) (2452) (nI (p + 1))) (p := p + 1) (pk_us) (by omega) ((pk_un (by omega)).trans ((pk_un (by omega)).trans (hn))) hn2 (by omega)) k_715 k_717 kp_14 k_7 k_718 hdX6_code ⟨rfl, rfl⟩ ⟨Nat.le_of_ble_eq_true rfl, Nat.le_of_ble_eq_true rfl⟩ (by omega) rfl rfl rfl rfl (Nat.le_of_ble_eq_true rfl) dX6_number_36 ?_
      refine zr_bipush X (nI (48)) dX6_number_39 (by decide +kernel) ?_
      refine zr_bipush X (nI (57)) dX6_number_41 (by decide +kernel) ?_
      refine zr_dSi [.int (nI (0)), .int (nI (48)), .int (nI (57))] [] X (zK_ok A D tc tF tL tM) (c_in_f E (upd (upd μ (2544) (nI ((zval w p (1))))) (2452) (nI (p + 1))) (fun q => absurd q.1 (by decide +kernel))) k_604 k_605 k_7 k_606 hdX6_in ⟨rfl, rfl⟩ ⟨Nat.le_of_ble_eq_true rfl, Nat.le_of_ble_eq_true rfl⟩ rfl rfl (Nat.le_of_ble_eq_true rfl) dX6_number_43 ?_
      refine zr_if_eq X 108 dX6_number_46 (by decide) (fun _ => ?_) (fun q => absurd (zq_eq0 (by omega)) q)
      refine zr_iconst X (nI (1)) dX6_number_108 (by decide +kernel) ?_
      exact zr_zret X dX6_number_109 rfl ⟨rfl, by rw [← ha, ← hb]; unfold znv znq; rw [hP35, zmo1_end (Or.inr (Or.inl (fun z => hn36 z.1)))]⟩
  · intro q hq hP35 ih35
    refine zr_aloadn X 0 dX6_number_35 rfl ?_
    by_cases hn36 : p + q < n
    · by_cases hd36 : nI 48 ≤ w (p + q) ∧ w (p + q) ≤ nI 57
      · have he := zdg_eq hd36.1 hd36.2
        have hz9 := zdg_9 w (p + q)
        refine zr_dVi (C := RX6) (ci := 6) [] [] X (zK_ok A D tc tF tL tM) (zM_i (z1 := nI (zdg w (p + q) + 48)) (c_code_in E (upd (upd μ (2544) (nI ((zval w p (q))))) (2452) (nI (p + q))) (p := p + q) (pk_us) (by omega) ((pk_un (by omega)).trans ((pk_un (by omega)).trans (hn))) hn2 (by omega)) ((((pk_un (by omega)).trans ((pk_un (by omega)).trans (rfl))).trans (hw (p + q) (by omega))).trans he)) k_715 k_717 kp_14 k_7 k_718 hdX6_code ⟨rfl, rfl⟩ ⟨Nat.le_of_ble_eq_true rfl, Nat.le_of_ble_eq_true rfl⟩ (by omega) rfl rfl rfl rfl (Nat.le_of_ble_eq_true rfl) dX6_number_36 ?_
        refine zr_bipush X (nI (48)) dX6_number_39 (by decide +kernel) ?_
        refine zr_bipush X (nI (57)) dX6_number_41 (by decide +kernel) ?_
        refine zr_dSi [.int (nI ((zdg w (p + q)) + 48)), .int (nI (48)), .int (nI (57))] [] X (zK_ok A D tc tF tL tM) (c_in_t E (upd (upd μ (2544) (nI ((zval w p (q))))) (2452) (nI (p + q))) (zq_le (by omega) (by omega)) (zq_le (by omega) (by omega))) k_604 k_605 k_7 k_606 hdX6_in ⟨rfl, rfl⟩ ⟨Nat.le_of_ble_eq_true rfl, Nat.le_of_ble_eq_true rfl⟩ rfl rfl (Nat.le_of_ble_eq_true rfl) dX6_number_43 ?_
        refine zr_if_eq X 108 dX6_number_46 (by decide) (fun q => absurd q (nI_ne0 (by omega) (by omega))) (fun _ => ?_)
        refine zr_iload X 4 dX6_number_49 rfl ?_
        refine zr_iloadn X 2 dX6_number_51 rfl ?_
        refine zr_icmp_ge X 108 dX6_number_52 (by decide) (fun q => absurd q (nI_ge (by omega) (by omega))) (fun _ => ?_)
        refine zr_iload X 4 dX6_number_55 rfl ?_
        refine zr_if_eq X 69 dX6_number_57 (by decide) (fun h57 => ?_) (fun h57 => ?_)
        · have h57 : q = 0 := by rw [← nI_0] at h57; exact (nI_eq (by omega) (by omega)).mp h57
          refine zr_aloadn X 0 dX6_number_69 rfl ?_
          refine zr_get X (ci := 6) (q := 10) (zR _) (.ref (ad (5))) dX6_number_70 (by omega) rfl rfl inX6 (by decide) rfl (zvR rfl) rfl k_549 ?_
          refine zr_iloadn X 1 dX6_number_73 rfl ?_
          refine zr_bipush X (nI (10)) dX6_number_74 (by decide +kernel) ?_
          refine zr_aloadn X 0 dX6_number_76 rfl ?_
          refine zr_get X (ci := 6) (q := 10) (zR _) (.ref (ad (5))) dX6_number_77 (by omega) rfl rfl inX6 (by decide) rfl (zvR rfl) rfl k_549 ?_
          refine zr_iloadn X 1 dX6_number_80 rfl ?_
          refine zr_iald X (j := 1) 0 (nI ((zval w p (q)))) dX6_number_81 (by omega) rfl rfl rfl (by omega) (by omega) (zcg (b := 2544) (by omega) ((pk_un (by omega)).trans (pk_us))) ?_
          refine zr_imul X (nI (10 * (zval w p (q)))) dX6_number_82 ((pk_mul _ _).trans (congrArg nI (by omega))) ?_
          refine zr_aloadn X 0 dX6_number_83 rfl ?_
          refine zr_dVi (C := RX6) (ci := 6) [] [.int (nI (10 * (zval w p (q)))), .int (nI (1)), .ref (ad (5))] X (zK_ok A D tc tF tL tM) (zM_i (z1 := nI (zdg w (p + q) + 48)) (c_code_in E (upd (upd μ (2544) (nI ((zval w p (q))))) (2452) (nI (p + q))) (p := p + q) (pk_us) (by omega) ((pk_un (by omega)).trans ((pk_un (by omega)).trans (hn))) hn2 (by omega)) ((((pk_un (by omega)).trans ((pk_un (by omega)).trans (rfl))).trans (hw (p + q) (by omega))).trans he)) k_715 k_717 kp_14 k_7 k_718 hdX6_code ⟨rfl, rfl⟩ ⟨Nat.le_of_ble_eq_true rfl, Nat.le_of_ble_eq_true rfl⟩ (by omega) rfl rfl rfl rfl (Nat.le_of_ble_eq_true rfl) dX6_number_84 ?_
          refine zr_iadd X (nI ((zdg w (p + q)) + 10 * (zval w p (q)) + 48)) dX6_number_87 ((nI_add _ _).trans (congrArg nI (by omega))) ?_
          refine zr_bipush X (nI (48)) dX6_number_88 (by decide +kernel) ?_
          refine zr_isub X (nI ((zdg w (p + q)) + 10 * (zval w p (q)))) dX6_number_90 ((pk_sub (by omega)).trans (congrArg nI (by omega))) ?_
          refine zr_iast X (j := 1) 0 (2544) dX6_number_91 (by omega) rfl rfl rfl (by omega) (by omega) (by omega) ?_
          refine zr_aloadn X 0 dX6_number_92 rfl ?_
          refine zr_dup X dX6_number_93 rfl ?_
          refine zr_get X (ci := 6) (q := 9) zI (.int (nI (p + q))) dX6_number_94 (by omega) rfl rfl inX6 (by decide) rfl (congrArg Value.int ((pk_un (by omega)).trans (pk_us))) rfl k_548 ?_
          refine zr_iconst X (nI (1)) dX6_number_97 (by decide +kernel) ?_
          refine zr_iadd X (nI (p + q + 1)) dX6_number_98 (nI_add _ _) ?_
          refine zr_put X (ci := 6) (q := 9) (ty0 := tyX6) (ty := .int) (2452) dX6_number_99 (by omega) rfl rfl inX6 tyX6_ok nmX6 (by decide) rfl rfl rfl rfl rfl rfl k_548 (by omega) ?_
          refine zr_iinc X 4 (nI (q + 1)) [1, 2, 3, 4, 0] [(0, .ref (ad (0))), (1, .int (nI (1))), (2, .int (nI (1))), (3, .int (nI (1))), (4, .int (nI (q + 1)))] dX6_number_102 rfl (zinc _) (by decide) rfl ?_
          refine zr_goto X 35 dX6_number_105 (by decide) ?_
          exact zr_mem X ((zupd4 (by omega)).trans (congrArg (fun z => upd (upd μ 2544 (nI z)) 2452 (nI (p + q + 1))) (Nat.add_comm _ _))) (ih35 (hP35.trans (by rw [show 1 - q = 1 - (q + 1) + 1 by omega, zmo1_go ⟨hn36, hd36⟩ (Or.inl (decide_eq_true h57)), show decide (q + 1 = 0) = false from decide_eq_false (by omega)]; rfl)))
        · have h57 : ¬ q = 0 := fun q => h57 (by rw [q]; rfl)
          refine zr_aloadn X 0 dX6_number_60 rfl ?_
          refine zr_get X (ci := 6) (q := 10) (zR _) (.ref (ad (5))) dX6_number_61 (by omega) rfl rfl inX6 (by decide) rfl (zvR rfl) rfl k_549 ?_
          refine zr_iloadn X 1 dX6_number_64 rfl ?_
          refine zr_iald X (j := 1) 0 (nI ((zval w p (q)))) dX6_number_65 (by omega) rfl rfl rfl (by omega) (by omega) (zcg (b := 2544) (by omega) ((pk_un (by omega)).trans (pk_us))) ?_
          refine zr_if_le X 108 dX6_number_66 (by decide) (fun h66 => ?_) (fun h66 => ?_)
          · have h66 : zval w p q = 0 := by rw [← nI_0] at h66; have hz := zval_ub (w := w) (p := p) (i := q) (by omega); have := (nI_leI (by omega) (by omega)).mp h66; omega
            refine zr_iconst X (nI (1)) dX6_number_108 (by decide +kernel) ?_
            exact zr_zret X dX6_number_109 rfl ⟨rfl, by rw [← ha, ← hb]; unfold znv znq; rw [hP35, zmo1_end (Or.inr (Or.inr ⟨decide_eq_false h57, h66⟩))]⟩
          · have h66 : 0 < zval w p q := Nat.pos_of_ne_zero (fun q => h66 (by rw [q]; decide +kernel))
            refine zr_aloadn X 0 dX6_number_69 rfl ?_
            refine zr_get X (ci := 6) (q := 10) (zR _) (.ref (ad (5))) dX6_number_70 (by omega) rfl rfl inX6 (by decide) rfl (zvR rfl) rfl k_549 ?_
            refine zr_iloadn X 1 dX6_number_73 rfl ?_
            refine zr_bipush X (nI (10)) dX6_number_74 (by decide +kernel) ?_
            refine zr_aloadn X 0 dX6_number_76 rfl ?_
            refine zr_get X (ci := 6) (q := 10) (zR _) (.ref (ad (5))) dX6_number_77 (by omega) rfl rfl inX6 (by decide) rfl (zvR rfl) rfl k_549 ?_
            refine zr_iloadn X 1 dX6_number_80 rfl ?_
            refine zr_iald X (j := 1) 0 (nI ((zval w p (q)))) dX6_number_81 (by omega) rfl rfl rfl (by omega) (by omega) (zcg (b := 2544) (by omega) ((pk_un (by omega)).trans (pk_us))) ?_
            refine zr_imul X (nI (10 * (zval w p (q)))) dX6_number_82 ((pk_mul _ _).trans (congrArg nI (by omega))) ?_
            refine zr_aloadn X 0 dX6_number_83 rfl ?_
            refine zr_dVi (C := RX6) (ci := 6) [] [.int (nI (10 * (zval w p (q)))), .int (nI (1)), .ref (ad (5))] X (zK_ok A D tc tF tL tM) (zM_i (z1 := nI (zdg w (p + q) + 48)) (c_code_in E (upd (upd μ (2544) (nI ((zval w p (q))))) (2452) (nI (p + q))) (p := p + q) (pk_us) (by omega) ((pk_un (by omega)).trans ((pk_un (by omega)).trans (hn))) hn2 (by omega)) ((((pk_un (by omega)).trans ((pk_un (by omega)).trans (rfl))).trans (hw (p + q) (by omega))).trans he)) k_715 k_717 kp_14 k_7 k_718 hdX6_code ⟨rfl, rfl⟩ ⟨Nat.le_of_ble_eq_true rfl, Nat.le_of_ble_eq_true rfl⟩ (by omega) rfl rfl rfl rfl (Nat.le_of_ble_eq_true rfl) dX6_number_84 ?_
            refine zr_iadd X (nI ((zdg w (p + q)) + 10 * (zval w p (q)) + 48)) dX6_number_87 ((nI_add _ _).trans (congrArg nI (by omega))) ?_
            refine zr_bipush X (nI (48)) dX6_number_88 (by decide +kernel) ?_
            refine zr_isub X (nI ((zdg w (p + q)) + 10 * (zval w p (q)))) dX6_number_90 ((pk_sub (by omega)).trans (congrArg nI (by omega))) ?_
            refine zr_iast X (j := 1) 0 (2544) dX6_number_91 (by omega) rfl rfl rfl (by omega) (by omega) (by omega) ?_
            refine zr_aloadn X 0 dX6_number_92 rfl ?_
            refine zr_dup X dX6_number_93 rfl ?_
            refine zr_get X (ci := 6) (q := 9) zI (.int (nI (p + q))) dX6_number_94 (by omega) rfl rfl inX6 (by decide) rfl (congrArg Value.int ((pk_un (by omega)).trans (pk_us))) rfl k_548 ?_
            refine zr_iconst X (nI (1)) dX6_number_97 (by decide +kernel) ?_
            refine zr_iadd X (nI (p + q + 1)) dX6_number_98 (nI_add _ _) ?_
            refine zr_put X (ci := 6) (q := 9) (ty0 := tyX6) (ty := .int) (2452) dX6_number_99 (by omega) rfl rfl inX6 tyX6_ok nmX6 (by decide) rfl rfl rfl rfl rfl rfl k_548 (by omega) ?_
            refine zr_iinc X 4 (nI (q + 1)) [1, 2, 3, 4, 0] [(0, .ref (ad (0))), (1, .int (nI (1))), (2, .int (nI (1))), (3, .int (nI (1))), (4, .int (nI (q + 1)))] dX6_number_102 rfl (zinc _) (by decide) rfl ?_
            refine zr_goto X 35 dX6_number_105 (by decide) ?_
            exact zr_mem X ((zupd4 (by omega)).trans (congrArg (fun z => upd (upd μ 2544 (nI z)) 2452 (nI (p + q + 1))) (Nat.add_comm _ _))) (ih35 (hP35.trans (by rw [show 1 - q = 1 - (q + 1) + 1 by omega, zmo1_go ⟨hn36, hd36⟩ (Or.inr (by omega)), show decide (q + 1 = 0) = false from decide_eq_false (by omega)]; rfl)))
      · refine zr_dVi (C := RX6) (ci := 6) [] [] X (zK_ok A D tc tF tL tM) (zM_i (z1 := w (p + q)) (c_code_in E (upd (upd μ (2544) (nI ((zval w p (q))))) (2452) (nI (p + q))) (p := p + q) (pk_us) (by omega) ((pk_un (by omega)).trans ((pk_un (by omega)).trans (hn))) hn2 (by omega)) (((pk_un (by omega)).trans ((pk_un (by omega)).trans (rfl))).trans (hw (p + q) (by omega)))) k_715 k_717 kp_14 k_7 k_718 hdX6_code ⟨rfl, rfl⟩ ⟨Nat.le_of_ble_eq_true rfl, Nat.le_of_ble_eq_true rfl⟩ (by omega) rfl rfl rfl rfl (Nat.le_of_ble_eq_true rfl) dX6_number_36 ?_
        refine zr_bipush X (nI (48)) dX6_number_39 (by decide +kernel) ?_
        refine zr_bipush X (nI (57)) dX6_number_41 (by decide +kernel) ?_
        refine zr_dSi [.int (w (p + q)), .int (nI (48)), .int (nI (57))] [] X (zK_ok A D tc tF tL tM) (c_in_f E (upd (upd μ (2544) (nI ((zval w p (q))))) (2452) (nI (p + q))) (hd36)) k_604 k_605 k_7 k_606 hdX6_in ⟨rfl, rfl⟩ ⟨Nat.le_of_ble_eq_true rfl, Nat.le_of_ble_eq_true rfl⟩ rfl rfl (Nat.le_of_ble_eq_true rfl) dX6_number_43 ?_
        refine zr_if_eq X 108 dX6_number_46 (by decide) (fun _ => ?_) (fun q => absurd (zq_eq0 (by omega)) q)
        refine zr_iconst X (nI (1)) dX6_number_108 (by decide +kernel) ?_
        exact zr_zret X dX6_number_109 rfl ⟨rfl, by rw [← ha, ← hb]; unfold znv znq; rw [hP35, zmo1_end (Or.inr (Or.inl (fun z => hd36 z.2)))]⟩
    · refine zr_dVi (C := RX6) (ci := 6) [] [] X (zK_ok A D tc tF tL tM) (c_code_out E (upd (upd μ (2544) (nI ((zval w p (q))))) (2452) (nI (p + q))) (p := p + q) (pk_us) (by omega) ((pk_un (by omega)).trans ((pk_un (by omega)).trans (hn))) hn2 (by omega)) k_715 k_717 kp_14 k_7 k_718 hdX6_code ⟨rfl, rfl⟩ ⟨Nat.le_of_ble_eq_true rfl, Nat.le_of_ble_eq_true rfl⟩ (by omega) rfl rfl rfl rfl (Nat.le_of_ble_eq_true rfl) dX6_number_36 ?_
      refine zr_bipush X (nI (48)) dX6_number_39 (by decide +kernel) ?_
      refine zr_bipush X (nI (57)) dX6_number_41 (by decide +kernel) ?_
      refine zr_dSi [.int (nI (0)), .int (nI (48)), .int (nI (57))] [] X (zK_ok A D tc tF tL tM) (c_in_f E (upd (upd μ (2544) (nI ((zval w p (q))))) (2452) (nI (p + q))) (fun q => absurd q.1 (by decide +kernel))) k_604 k_605 k_7 k_606 hdX6_in ⟨rfl, rfl⟩ ⟨Nat.le_of_ble_eq_true rfl, Nat.le_of_ble_eq_true rfl⟩ rfl rfl (Nat.le_of_ble_eq_true rfl) dX6_number_43 ?_
      refine zr_if_eq X 108 dX6_number_46 (by decide) (fun _ => ?_) (fun q => absurd (zq_eq0 (by omega)) q)
      refine zr_iconst X (nI (1)) dX6_number_108 (by decide +kernel) ?_
      exact zr_zret X dX6_number_109 rfl ⟨rfl, by rw [← ha, ← hb]; unfold znv znq; rw [hP35, zmo1_end (Or.inr (Or.inl (fun z => hn36 z.1)))]⟩

set_option maxHeartbeats 4000000 in
set_option maxRecDepth 100000 in
theorem c_number2_f {l : Launch} {D : va_G} {tc : Nat → ClassId} {ad : Nat → Nat} {A : Nat → Prop} {tF tL tM : Nat} (E : zN 6 A ad) (μ : Nat → Int32) {w : Nat → Int32} (hw : ∀ q, q < 60 → μ (q + 2460) = w q) {p : Nat} (hp : μ 2452 = nI p) (hp3 : p ≤ 64) {n : Nat} (hn : μ 2447 = nI n) (hn2 : n ≤ 60) (h : ¬ znum w n 1 p) : zMi l yX6_number cX6_number 5 (some .boolean) (zrm 2) (zK A D tc tF tL tM) A D vwCl tc ad 6 shR [.ref (ad (0)), .int (nI (2)), .int (nI (2)), .int (nI (1))] μ (fun r u => r = nI 0 ∧ u = μ) := by
  refine zM_of RX6 [(0, .ref (ad (0))), (1, .int (nI (2))), (2, .int (nI (2))), (3, .int (nI (1)))] (zK_ok A D tc tF tL tM) E.1 E.2 owR_ok (by decide +kernel) rfl (Nat.le_of_ble_eq_true rfl) rfl ?_
  intro pP eE sS mM aS bL mT cO X
  refine zr_aloadn X 0 dX6_number_0 rfl ?_
  by_cases hlt : p < n
  · refine zr_dVi (C := RX6) (ci := 6) [] [] X (zK_ok A D tc tF tL tM) (zM_i (z1 := w (p)) (c_code_in E μ (p := p) (hp) (by omega) (hn) hn2 (by omega)) ((rfl).trans (hw (p) (by omega)))) k_715 k_717 kp_14 k_7 k_718 hdX6_code ⟨rfl, rfl⟩ ⟨Nat.le_of_ble_eq_true rfl, Nat.le_of_ble_eq_true rfl⟩ (by omega) rfl rfl rfl rfl (Nat.le_of_ble_eq_true rfl) dX6_number_1 ?_
    refine zr_iloadn X 3 dX6_number_4 rfl ?_
    refine zr_if_eq X 13 dX6_number_5 (by decide) (fun q => absurd q (nI_ne0 (by omega) (by omega))) (fun _ => ?_)
    refine zr_bipush X (nI (48)) dX6_number_8 (by decide +kernel) ?_
    refine zr_goto X 15 dX6_number_10 (by decide) ?_
    refine zr_bipush X (nI (57)) dX6_number_15 (by decide +kernel) ?_
    refine zr_dSi [.int (w (p)), .int (nI (48)), .int (nI (57))] [] X (zK_ok A D tc tF tL tM) (c_in_f E μ (fun q => h (znum1_of hlt q.1 q.2))) k_604 k_605 k_7 k_606 hdX6_in ⟨rfl, rfl⟩ ⟨Nat.le_of_ble_eq_true rfl, Nat.le_of_ble_eq_true rfl⟩ rfl rfl (Nat.le_of_ble_eq_true rfl) dX6_number_17 ?_
    refine zr_if_ne X 25 dX6_number_20 (by decide) (fun q => absurd (zq_eq0 (by omega)) q) (fun _ => ?_)
    refine zr_iconst X (nI (0)) dX6_number_23 (by decide +kernel) ?_
    exact zr_zret X dX6_number_24 rfl ⟨rfl, rfl⟩
  · refine zr_dVi (C := RX6) (ci := 6) [] [] X (zK_ok A D tc tF tL tM) (c_code_out E μ (p := p) (hp) (by omega) (hn) hn2 (by omega)) k_715 k_717 kp_14 k_7 k_718 hdX6_code ⟨rfl, rfl⟩ ⟨Nat.le_of_ble_eq_true rfl, Nat.le_of_ble_eq_true rfl⟩ (by omega) rfl rfl rfl rfl (Nat.le_of_ble_eq_true rfl) dX6_number_1 ?_
    refine zr_iloadn X 3 dX6_number_4 rfl ?_
    refine zr_if_eq X 13 dX6_number_5 (by decide) (fun q => absurd q (nI_ne0 (by omega) (by omega))) (fun _ => ?_)
    refine zr_bipush X (nI (48)) dX6_number_8 (by decide +kernel) ?_
    refine zr_goto X 15 dX6_number_10 (by decide) ?_
    refine zr_bipush X (nI (57)) dX6_number_15 (by decide +kernel) ?_
    refine zr_dSi [.int (nI (0)), .int (nI (48)), .int (nI (57))] [] X (zK_ok A D tc tF tL tM) (c_in_f E μ (fun q => absurd q.1 (by decide +kernel))) k_604 k_605 k_7 k_606 hdX6_in ⟨rfl, rfl⟩ ⟨Nat.le_of_ble_eq_true rfl, Nat.le_of_ble_eq_true rfl⟩ rfl rfl (Nat.le_of_ble_eq_true rfl) dX6_number_17 ?_
    refine zr_if_ne X 25 dX6_number_20 (by decide) (fun q => absurd (zq_eq0 (by omega)) q) (fun _ => ?_)
    refine zr_iconst X (nI (0)) dX6_number_23 (by decide +kernel) ?_
    exact zr_zret X dX6_number_24 rfl ⟨rfl, rfl⟩

set_option maxHeartbeats 4000000 in
set_option maxRecDepth 100000 in
theorem c_number2_t {l : Launch} {D : va_G} {tc : Nat → ClassId} {ad : Nat → Nat} {A : Nat → Prop} {tF tL tM : Nat} (E : zN 6 A ad) (μ : Nat → Int32) {w : Nat → Int32} (hw : ∀ q, q < 60 → μ (q + 2460) = w q) {p : Nat} (hp : μ 2452 = nI p) (hp3 : p ≤ 64) {n : Nat} (hn : μ 2447 = nI n) (hn2 : n ≤ 60) (h : znum w n 1 p) {a b : Nat} (ha : znv w n 2 p = a) (hb : znq w n 2 p = b) : zMi l yX6_number cX6_number 5 (some .boolean) (zrm 2) (zK A D tc tF tL tM) A D vwCl tc ad 6 shR [.ref (ad (0)), .int (nI (2)), .int (nI (2)), .int (nI (1))] μ (fun r u => r = nI 1 ∧ u = upd (upd μ 2545 (nI (a))) 2452 (nI (b))) := by
  refine zM_of RX6 [(0, .ref (ad (0))), (1, .int (nI (2))), (2, .int (nI (2))), (3, .int (nI (1)))] (zK_ok A D tc tF tL tM) E.1 E.2 owR_ok (by decide +kernel) rfl (Nat.le_of_ble_eq_true rfl) rfl ?_
  intro pP eE sS mM aS bL mT cO X
  refine zr_aloadn X 0 dX6_number_0 rfl ?_
  obtain ⟨⟨hlt, hd1, hd2⟩, hz⟩ := h
  have he := zdg_eq hd1 hd2
  have hz9 := zdg_9 w p
  refine zr_dVi (C := RX6) (ci := 6) [] [] X (zK_ok A D tc tF tL tM) (zM_i (z1 := nI (zdg w (p) + 48)) (c_code_in E μ (p := p) (hp) (by omega) (hn) hn2 (by omega)) (((rfl).trans (hw (p) (by omega))).trans he)) k_715 k_717 kp_14 k_7 k_718 hdX6_code ⟨rfl, rfl⟩ ⟨Nat.le_of_ble_eq_true rfl, Nat.le_of_ble_eq_true rfl⟩ (by omega) rfl rfl rfl rfl (Nat.le_of_ble_eq_true rfl) dX6_number_1 ?_
  refine zr_iloadn X 3 dX6_number_4 rfl ?_
  refine zr_if_eq X 13 dX6_number_5 (by decide) (fun q => absurd q (nI_ne0 (by omega) (by omega))) (fun _ => ?_)
  refine zr_bipush X (nI (48)) dX6_number_8 (by decide +kernel) ?_
  refine zr_goto X 15 dX6_number_10 (by decide) ?_
  refine zr_bipush X (nI (57)) dX6_number_15 (by decide +kernel) ?_
  refine zr_dSi [.int (nI ((zdg w (p)) + 48)), .int (nI (48)), .int (nI (57))] [] X (zK_ok A D tc tF tL tM) (c_in_t E μ (zq_le (by omega) (by omega)) (zq_le (by omega) (by omega))) k_604 k_605 k_7 k_606 hdX6_in ⟨rfl, rfl⟩ ⟨Nat.le_of_ble_eq_true rfl, Nat.le_of_ble_eq_true rfl⟩ rfl rfl (Nat.le_of_ble_eq_true rfl) dX6_number_17 ?_
  refine zr_if_ne X 25 dX6_number_20 (by decide) (fun _ => ?_) (fun q => absurd q (nI_ne0 (by omega) (by omega)))
  refine zr_iconst X (nI (0)) dX6_number_25 (by decide +kernel) ?_
  refine zr_istore X [1, 2, 3, 4, 0] [(0, .ref (ad (0))), (1, .int (nI (2))), (2, .int (nI (2))), (3, .int (nI (1))), (4, .int (nI (0)))] dX6_number_26 (by decide) rfl ?_
  refine zr_aloadn X 0 dX6_number_28 rfl ?_
  refine zr_get X (ci := 6) (q := 10) (zR _) (.ref (ad (5))) dX6_number_29 (by omega) rfl rfl inX6 (by decide) rfl (zvR rfl) rfl k_549 ?_
  refine zr_iloadn X 1 dX6_number_32 rfl ?_
  refine zr_iconst X (nI (0)) dX6_number_33 (by decide +kernel) ?_
  refine zr_iast X (j := 2) 0 (2545) dX6_number_34 (by omega) rfl rfl rfl (by omega) (by omega) (by omega) ?_
  refine zr_forH X (2) (fun q => zmo1 w n 2 true 0 p = zmo1 w n (2 - q) (decide (q = 0)) (zval w p q) (p + q)) (fun q => (upd (upd μ (2545) (nI ((zval w p (q))))) (2452) (nI (p + q)))) (fun q => [(0, .ref (ad (0))), (1, .int (nI (2))), (2, .int (nI (2))), (3, .int (nI (1))), (4, .int (nI (q)))]) [] (rfl) (zupd_same ((pk_un (by omega)).trans hp)) (rfl) (fun hP35 => ?_) ?_
  · refine zr_aloadn X 0 dX6_number_35 rfl ?_
    by_cases hn36 : p + 2 < n
    · by_cases hd36 : nI 48 ≤ w (p + 2) ∧ w (p + 2) ≤ nI 57
      · have he := zdg_eq hd36.1 hd36.2
        have hz9 := zdg_9 w (p + 2)
        refine zr_dVi (C := RX6) (ci := 6) [] [] X (zK_ok A D tc tF tL tM) (zM_i (z1 := nI (zdg w (p + 2) + 48)) (c_code_in E (upd (upd μ (2545) (nI ((zval w p (2))))) (2452) (nI (p + 2))) (p := p + 2) (pk_us) (by omega) ((pk_un (by omega)).trans ((pk_un (by omega)).trans (hn))) hn2 (by omega)) ((((pk_un (by omega)).trans ((pk_un (by omega)).trans (rfl))).trans (hw (p + 2) (by omega))).trans he)) k_715 k_717 kp_14 k_7 k_718 hdX6_code ⟨rfl, rfl⟩ ⟨Nat.le_of_ble_eq_true rfl, Nat.le_of_ble_eq_true rfl⟩ (by omega) rfl rfl rfl rfl (Nat.le_of_ble_eq_true rfl) dX6_number_36 ?_
        refine zr_bipush X (nI (48)) dX6_number_39 (by decide +kernel) ?_
        refine zr_bipush X (nI (57)) dX6_number_41 (by decide +kernel) ?_
        refine zr_dSi [.int (nI ((zdg w (p + 2)) + 48)), .int (nI (48)), .int (nI (57))] [] X (zK_ok A D tc tF tL tM) (c_in_t E (upd (upd μ (2545) (nI ((zval w p (2))))) (2452) (nI (p + 2))) (zq_le (by omega) (by omega)) (zq_le (by omega) (by omega))) k_604 k_605 k_7 k_606 hdX6_in ⟨rfl, rfl⟩ ⟨Nat.le_of_ble_eq_true rfl, Nat.le_of_ble_eq_true rfl⟩ rfl rfl (Nat.le_of_ble_eq_true rfl) dX6_number_43 ?_
        refine zr_if_eq X 108 dX6_number_46 (by decide) (fun q => absurd q (nI_ne0 (by omega) (by omega))) (fun _ => ?_)
        refine zr_iload X 4 dX6_number_49 rfl ?_
        refine zr_iloadn X 2 dX6_number_51 rfl ?_
        refine zr_icmp_ge X 108 dX6_number_52 (by decide) (fun _ => ?_) (fun q => absurd (zq_le (by omega) (by omega)) q)
        refine zr_iconst X (nI (1)) dX6_number_108 (by decide +kernel) ?_
        exact zr_zret X dX6_number_109 rfl ⟨rfl, by rw [← ha, ← hb]; unfold znv znq; rw [hP35, zmo1_end (Or.inl rfl)]⟩
      · refine zr_dVi (C := RX6) (ci := 6) [] [] X (zK_ok A D tc tF tL tM) (zM_i (z1 := w (p + 2)) (c_code_in E (upd (upd μ (2545) (nI ((zval w p (2))))) (2452) (nI (p + 2))) (p := p + 2) (pk_us) (by omega) ((pk_un (by omega)).trans ((pk_un (by omega)).trans (hn))) hn2 (by omega)) (((pk_un (by omega)).trans ((pk_un (by omega)).trans (rfl))).trans (hw (p + 2) (by omega)))) k_715 k_717 kp_14 k_7 k_718 hdX6_code ⟨rfl, rfl⟩ ⟨Nat.le_of_ble_eq_true rfl, Nat.le_of_ble_eq_true rfl⟩ (by omega) rfl rfl rfl rfl (Nat.le_of_ble_eq_true rfl) dX6_number_36 ?_
        refine zr_bipush X (nI (48)) dX6_number_39 (by decide +kernel) ?_
        refine zr_bipush X (nI (57)) dX6_number_41 (by decide +kernel) ?_
        refine zr_dSi [.int (w (p + 2)), .int (nI (48)), .int (nI (57))] [] X (zK_ok A D tc tF tL tM) (c_in_f E (upd (upd μ (2545) (nI ((zval w p (2))))) (2452) (nI (p + 2))) (hd36)) k_604 k_605 k_7 k_606 hdX6_in ⟨rfl, rfl⟩ ⟨Nat.le_of_ble_eq_true rfl, Nat.le_of_ble_eq_true rfl⟩ rfl rfl (Nat.le_of_ble_eq_true rfl) dX6_number_43 ?_
        refine zr_if_eq X 108 dX6_number_46 (by decide) (fun _ => ?_) (fun q => absurd (zq_eq0 (by omega)) q)
        refine zr_iconst X (nI (1)) dX6_number_108 (by decide +kernel) ?_
        exact zr_zret X dX6_number_109 rfl ⟨rfl, by rw [← ha, ← hb]; unfold znv znq; rw [hP35, zmo1_end (Or.inr (Or.inl (fun z => hd36 z.2)))]⟩
    · refine zr_dVi (C := RX6) (ci := 6) [] [] X (zK_ok A D tc tF tL tM) (c_code_out E (upd (upd μ (2545) (nI ((zval w p (2))))) (2452) (nI (p + 2))) (p := p + 2) (pk_us) (by omega) ((pk_un (by omega)).trans ((pk_un (by omega)).trans (hn))) hn2 (by omega)) k_715 k_717 kp_14 k_7 k_718 hdX6_code ⟨rfl, rfl⟩ ⟨Nat.le_of_ble_eq_true rfl, Nat.le_of_ble_eq_true rfl⟩ (by omega) rfl rfl rfl rfl (Nat.le_of_ble_eq_true rfl) dX6_number_36 ?_
      refine zr_bipush X (nI (48)) dX6_number_39 (by decide +kernel) ?_
      refine zr_bipush X (nI (57)) dX6_number_41 (by decide +kernel) ?_
      refine zr_dSi [.int (nI (0)), .int (nI (48)), .int (nI (57))] [] X (zK_ok A D tc tF tL tM) (c_in_f E (upd (upd μ (2545) (nI ((zval w p (2))))) (2452) (nI (p + 2))) (fun q => absurd q.1 (by decide +kernel))) k_604 k_605 k_7 k_606 hdX6_in ⟨rfl, rfl⟩ ⟨Nat.le_of_ble_eq_true rfl, Nat.le_of_ble_eq_true rfl⟩ rfl rfl (Nat.le_of_ble_eq_true rfl) dX6_number_43 ?_
      refine zr_if_eq X 108 dX6_number_46 (by decide) (fun _ => ?_) (fun q => absurd (zq_eq0 (by omega)) q)
      refine zr_iconst X (nI (1)) dX6_number_108 (by decide +kernel) ?_
      exact zr_zret X dX6_number_109 rfl ⟨rfl, by rw [← ha, ← hb]; unfold znv znq; rw [hP35, zmo1_end (Or.inr (Or.inl (fun z => hn36 z.1)))]⟩
  · intro q hq hP35 ih35
    refine zr_aloadn X 0 dX6_number_35 rfl ?_
    by_cases hn36 : p + q < n
    · by_cases hd36 : nI 48 ≤ w (p + q) ∧ w (p + q) ≤ nI 57
      · have he := zdg_eq hd36.1 hd36.2
        have hz9 := zdg_9 w (p + q)
        refine zr_dVi (C := RX6) (ci := 6) [] [] X (zK_ok A D tc tF tL tM) (zM_i (z1 := nI (zdg w (p + q) + 48)) (c_code_in E (upd (upd μ (2545) (nI ((zval w p (q))))) (2452) (nI (p + q))) (p := p + q) (pk_us) (by omega) ((pk_un (by omega)).trans ((pk_un (by omega)).trans (hn))) hn2 (by omega)) ((((pk_un (by omega)).trans ((pk_un (by omega)).trans (rfl))).trans (hw (p + q) (by omega))).trans he)) k_715 k_717 kp_14 k_7 k_718 hdX6_code ⟨rfl, rfl⟩ ⟨Nat.le_of_ble_eq_true rfl, Nat.le_of_ble_eq_true rfl⟩ (by omega) rfl rfl rfl rfl (Nat.le_of_ble_eq_true rfl) dX6_number_36 ?_
        refine zr_bipush X (nI (48)) dX6_number_39 (by decide +kernel) ?_
        refine zr_bipush X (nI (57)) dX6_number_41 (by decide +kernel) ?_
        refine zr_dSi [.int (nI ((zdg w (p + q)) + 48)), .int (nI (48)), .int (nI (57))] [] X (zK_ok A D tc tF tL tM) (c_in_t E (upd (upd μ (2545) (nI ((zval w p (q))))) (2452) (nI (p + q))) (zq_le (by omega) (by omega)) (zq_le (by omega) (by omega))) k_604 k_605 k_7 k_606 hdX6_in ⟨rfl, rfl⟩ ⟨Nat.le_of_ble_eq_true rfl, Nat.le_of_ble_eq_true rfl⟩ rfl rfl (Nat.le_of_ble_eq_true rfl) dX6_number_43 ?_
        refine zr_if_eq X 108 dX6_number_46 (by decide) (fun q => absurd q (nI_ne0 (by omega) (by omega))) (fun _ => ?_)
        refine zr_iload X 4 dX6_number_49 rfl ?_
        refine zr_iloadn X 2 dX6_number_51 rfl ?_
        refine zr_icmp_ge X 108 dX6_number_52 (by decide) (fun q => absurd q (nI_ge (by omega) (by omega))) (fun _ => ?_)
        refine zr_iload X 4 dX6_number_55 rfl ?_
        refine zr_if_eq X 69 dX6_number_57 (by decide) (fun h57 => ?_) (fun h57 => ?_)
        · have h57 : q = 0 := by rw [← nI_0] at h57; exact (nI_eq (by omega) (by omega)).mp h57
          refine zr_aloadn X 0 dX6_number_69 rfl ?_
          refine zr_get X (ci := 6) (q := 10) (zR _) (.ref (ad (5))) dX6_number_70 (by omega) rfl rfl inX6 (by decide) rfl (zvR rfl) rfl k_549 ?_
          refine zr_iloadn X 1 dX6_number_73 rfl ?_
          refine zr_bipush X (nI (10)) dX6_number_74 (by decide +kernel) ?_
          refine zr_aloadn X 0 dX6_number_76 rfl ?_
          refine zr_get X (ci := 6) (q := 10) (zR _) (.ref (ad (5))) dX6_number_77 (by omega) rfl rfl inX6 (by decide) rfl (zvR rfl) rfl k_549 ?_
          refine zr_iloadn X 1 dX6_number_80 rfl ?_
          refine zr_iald X (j := 2) 0 (nI ((zval w p (q)))) dX6_number_81 (by omega) rfl rfl rfl (by omega) (by omega) (zcg (b := 2545) (by omega) ((pk_un (by omega)).trans (pk_us))) ?_
          refine zr_imul X (nI (10 * (zval w p (q)))) dX6_number_82 ((pk_mul _ _).trans (congrArg nI (by omega))) ?_
          refine zr_aloadn X 0 dX6_number_83 rfl ?_
          refine zr_dVi (C := RX6) (ci := 6) [] [.int (nI (10 * (zval w p (q)))), .int (nI (2)), .ref (ad (5))] X (zK_ok A D tc tF tL tM) (zM_i (z1 := nI (zdg w (p + q) + 48)) (c_code_in E (upd (upd μ (2545) (nI ((zval w p (q))))) (2452) (nI (p + q))) (p := p + q) (pk_us) (by omega) ((pk_un (by omega)).trans ((pk_un (by omega)).trans (hn))) hn2 (by omega)) ((((pk_un (by omega)).trans ((pk_un (by omega)).trans (rfl))).trans (hw (p + q) (by omega))).trans he)) k_715 k_717 kp_14 k_7 k_718 hdX6_code ⟨rfl, rfl⟩ ⟨Nat.le_of_ble_eq_true rfl, Nat.le_of_ble_eq_true rfl⟩ (by omega) rfl rfl rfl rfl (Nat.le_of_ble_eq_true rfl) dX6_number_84 ?_
          refine zr_iadd X (nI ((zdg w (p + q)) + 10 * (zval w p (q)) + 48)) dX6_number_87 ((nI_add _ _).trans (congrArg nI (by omega))) ?_
          refine zr_bipush X (nI (48)) dX6_number_88 (by decide +kernel) ?_
          refine zr_isub X (nI ((zdg w (p + q)) + 10 * (zval w p (q)))) dX6_number_90 ((pk_sub (by omega)).trans (congrArg nI (by omega))) ?_
          refine zr_iast X (j := 2) 0 (2545) dX6_number_91 (by omega) rfl rfl rfl (by omega) (by omega) (by omega) ?_
          refine zr_aloadn X 0 dX6_number_92 rfl ?_
          refine zr_dup X dX6_number_93 rfl ?_
          refine zr_get X (ci := 6) (q := 9) zI (.int (nI (p + q))) dX6_number_94 (by omega) rfl rfl inX6 (by decide) rfl (congrArg Value.int ((pk_un (by omega)).trans (pk_us))) rfl k_548 ?_
          refine zr_iconst X (nI (1)) dX6_number_97 (by decide +kernel) ?_
          refine zr_iadd X (nI (p + q + 1)) dX6_number_98 (nI_add _ _) ?_
          refine zr_put X (ci := 6) (q := 9) (ty0 := tyX6) (ty := .int) (2452) dX6_number_99 (by omega) rfl rfl inX6 tyX6_ok nmX6 (by decide) rfl rfl rfl rfl rfl rfl k_548 (by omega) ?_
          refine zr_iinc X 4 (nI (q + 1)) [1, 2, 3, 4, 0] [(0, .ref (ad (0))), (1, .int (nI (2))), (2, .int (nI (2))), (3, .int (nI (1))), (4, .int (nI (q + 1)))] dX6_number_102 rfl (zinc _) (by decide) rfl ?_
          refine zr_goto X 35 dX6_number_105 (by decide) ?_
          exact zr_mem X ((zupd4 (by omega)).trans (congrArg (fun z => upd (upd μ 2545 (nI z)) 2452 (nI (p + q + 1))) (Nat.add_comm _ _))) (ih35 (hP35.trans (by rw [show 2 - q = 2 - (q + 1) + 1 by omega, zmo1_go ⟨hn36, hd36⟩ (Or.inl (decide_eq_true h57)), show decide (q + 1 = 0) = false from decide_eq_false (by omega)]; rfl)))
        · have h57 : ¬ q = 0 := fun q => h57 (by rw [q]; rfl)
          refine zr_aloadn X 0 dX6_number_60 rfl ?_
          refine zr_get X (ci := 6) (q := 10) (zR _) (.ref (ad (5))) dX6_number_61 (by omega) rfl rfl inX6 (by decide) rfl (zvR rfl) rfl k_549 ?_
          refine zr_iloadn X 1 dX6_number_64 rfl ?_
          refine zr_iald X (j := 2) 0 (nI ((zval w p (q)))) dX6_number_65 (by omega) rfl rfl rfl (by omega) (by omega) (zcg (b := 2545) (by omega) ((pk_un (by omega)).trans (pk_us))) ?_
          refine zr_if_le X 108 dX6_number_66 (by decide) (fun h66 => ?_) (fun h66 => ?_)
          · have h66 : zval w p q = 0 := by rw [← nI_0] at h66; have hz := zval_ub (w := w) (p := p) (i := q) (by omega); have := (nI_leI (by omega) (by omega)).mp h66; omega
            refine zr_iconst X (nI (1)) dX6_number_108 (by decide +kernel) ?_
            exact zr_zret X dX6_number_109 rfl ⟨rfl, by rw [← ha, ← hb]; unfold znv znq; rw [hP35, zmo1_end (Or.inr (Or.inr ⟨decide_eq_false h57, h66⟩))]⟩
          · have h66 : 0 < zval w p q := Nat.pos_of_ne_zero (fun q => h66 (by rw [q]; decide +kernel))
            refine zr_aloadn X 0 dX6_number_69 rfl ?_
            refine zr_get X (ci := 6) (q := 10) (zR _) (.ref (ad (5))) dX6_number_70 (by omega) rfl rfl inX6 (by decide) rfl (zvR rfl) rfl k_549 ?_
            refine zr_iloadn X 1 dX6_number_73 rfl ?_
            refine zr_bipush X (nI (10)) dX6_number_74 (by decide +kernel) ?_
            refine zr_aloadn X 0 dX6_number_76 rfl ?_
            refine zr_get X (ci := 6) (q := 10) (zR _) (.ref (ad (5))) dX6_number_77 (by omega) rfl rfl inX6 (by decide) rfl (zvR rfl) rfl k_549 ?_
            refine zr_iloadn X 1 dX6_number_80 rfl ?_
            refine zr_iald X (j := 2) 0 (nI ((zval w p (q)))) dX6_number_81 (by omega) rfl rfl rfl (by omega) (by omega) (zcg (b := 2545) (by omega) ((pk_un (by omega)).trans (pk_us))) ?_
            refine zr_imul X (nI (10 * (zval w p (q)))) dX6_number_82 ((pk_mul _ _).trans (congrArg nI (by omega))) ?_
            refine zr_aloadn X 0 dX6_number_83 rfl ?_
            refine zr_dVi (C := RX6) (ci := 6) [] [.int (nI (10 * (zval w p (q)))), .int (nI (2)), .ref (ad (5))] X (zK_ok A D tc tF tL tM) (zM_i (z1 := nI (zdg w (p + q) + 48)) (c_code_in E (upd (upd μ (2545) (nI ((zval w p (q))))) (2452) (nI (p + q))) (p := p + q) (pk_us) (by omega) ((pk_un (by omega)).trans ((pk_un (by omega)).trans (hn))) hn2 (by omega)) ((((pk_un (by omega)).trans ((pk_un (by omega)).trans (rfl))).trans (hw (p + q) (by omega))).trans he)) k_715 k_717 kp_14 k_7 k_718 hdX6_code ⟨rfl, rfl⟩ ⟨Nat.le_of_ble_eq_true rfl, Nat.le_of_ble_eq_true rfl⟩ (by omega) rfl rfl rfl rfl (Nat.le_of_ble_eq_true rfl) dX6_number_84 ?_
            refine zr_iadd X (nI ((zdg w (p + q)) + 10 * (zval w p (q)) + 48)) dX6_number_87 ((nI_add _ _).trans (congrArg nI (by omega))) ?_
            refine zr_bipush X (nI (48)) dX6_number_88 (by decide +kernel) ?_
            refine zr_isub X (nI ((zdg w (p + q)) + 10 * (zval w p (q)))) dX6_number_90 ((pk_sub (by omega)).trans (congrArg nI (by omega))) ?_
            refine zr_iast X (j := 2) 0 (2545) dX6_number_91 (by omega) rfl rfl rfl (by omega) (by omega) (by omega) ?_
            refine zr_aloadn X 0 dX6_number_92 rfl ?_
            refine zr_dup X dX6_number_93 rfl ?_
            refine zr_get X (ci := 6) (q := 9) zI (.int (nI (p + q))) dX6_number_94 (by omega) rfl rfl inX6 (by decide) rfl (congrArg Value.int ((pk_un (by omega)).trans (pk_us))) rfl k_548 ?_
            refine zr_iconst X (nI (1)) dX6_number_97 (by decide +kernel) ?_
            refine zr_iadd X (nI (p + q + 1)) dX6_number_98 (nI_add _ _) ?_
            refine zr_put X (ci := 6) (q := 9) (ty0 := tyX6) (ty := .int) (2452) dX6_number_99 (by omega) rfl rfl inX6 tyX6_ok nmX6 (by decide) rfl rfl rfl rfl rfl rfl k_548 (by omega) ?_
            refine zr_iinc X 4 (nI (q + 1)) [1, 2, 3, 4, 0] [(0, .ref (ad (0))), (1, .int (nI (2))), (2, .int (nI (2))), (3, .int (nI (1))), (4, .int (nI (q + 1)))] dX6_number_102 rfl (zinc _) (by decide) rfl ?_
            refine zr_goto X 35 dX6_number_105 (by decide) ?_
            exact zr_mem X ((zupd4 (by omega)).trans (congrArg (fun z => upd (upd μ 2545 (nI z)) 2452 (nI (p + q + 1))) (Nat.add_comm _ _))) (ih35 (hP35.trans (by rw [show 2 - q = 2 - (q + 1) + 1 by omega, zmo1_go ⟨hn36, hd36⟩ (Or.inr (by omega)), show decide (q + 1 = 0) = false from decide_eq_false (by omega)]; rfl)))
      · refine zr_dVi (C := RX6) (ci := 6) [] [] X (zK_ok A D tc tF tL tM) (zM_i (z1 := w (p + q)) (c_code_in E (upd (upd μ (2545) (nI ((zval w p (q))))) (2452) (nI (p + q))) (p := p + q) (pk_us) (by omega) ((pk_un (by omega)).trans ((pk_un (by omega)).trans (hn))) hn2 (by omega)) (((pk_un (by omega)).trans ((pk_un (by omega)).trans (rfl))).trans (hw (p + q) (by omega)))) k_715 k_717 kp_14 k_7 k_718 hdX6_code ⟨rfl, rfl⟩ ⟨Nat.le_of_ble_eq_true rfl, Nat.le_of_ble_eq_true rfl⟩ (by omega) rfl rfl rfl rfl (Nat.le_of_ble_eq_true rfl) dX6_number_36 ?_
        refine zr_bipush X (nI (48)) dX6_number_39 (by decide +kernel) ?_
        refine zr_bipush X (nI (57)) dX6_number_41 (by decide +kernel) ?_
        refine zr_dSi [.int (w (p + q)), .int (nI (48)), .int (nI (57))] [] X (zK_ok A D tc tF tL tM) (c_in_f E (upd (upd μ (2545) (nI ((zval w p (q))))) (2452) (nI (p + q))) (hd36)) k_604 k_605 k_7 k_606 hdX6_in ⟨rfl, rfl⟩ ⟨Nat.le_of_ble_eq_true rfl, Nat.le_of_ble_eq_true rfl⟩ rfl rfl (Nat.le_of_ble_eq_true rfl) dX6_number_43 ?_
        refine zr_if_eq X 108 dX6_number_46 (by decide) (fun _ => ?_) (fun q => absurd (zq_eq0 (by omega)) q)
        refine zr_iconst X (nI (1)) dX6_number_108 (by decide +kernel) ?_
        exact zr_zret X dX6_number_109 rfl ⟨rfl, by rw [← ha, ← hb]; unfold znv znq; rw [hP35, zmo1_end (Or.inr (Or.inl (fun z => hd36 z.2)))]⟩
    · refine zr_dVi (C := RX6) (ci := 6) [] [] X (zK_ok A D tc tF tL tM) (c_code_out E (upd (upd μ (2545) (nI ((zval w p (q))))) (2452) (nI (p + q))) (p := p + q) (pk_us) (by omega) ((pk_un (by omega)).trans ((pk_un (by omega)).trans (hn))) hn2 (by omega)) k_715 k_717 kp_14 k_7 k_718 hdX6_code ⟨rfl, rfl⟩ ⟨Nat.le_of_ble_eq_true rfl, Nat.le_of_ble_eq_true rfl⟩ (by omega) rfl rfl rfl rfl (Nat.le_of_ble_eq_true rfl) dX6_number_36 ?_
      refine zr_bipush X (nI (48)) dX6_number_39 (by decide +kernel) ?_
      refine zr_bipush X (nI (57)) dX6_number_41 (by decide +kernel) ?_
      refine zr_dSi [.int (nI (0)), .int (nI (48)), .int (nI (57))] [] X (zK_ok A D tc tF tL tM) (c_in_f E (upd (upd μ (2545) (nI ((zval w p (q))))) (2452) (nI (p + q))) (fun q => absurd q.1 (by decide +kernel))) k_604 k_605 k_7 k_606 hdX6_in ⟨rfl, rfl⟩ ⟨Nat.le_of_ble_eq_true rfl, Nat.le_of_ble_eq_true rfl⟩ rfl rfl (Nat.le_of_ble_eq_true rfl) dX6_number_43 ?_
      refine zr_if_eq X 108 dX6_number_46 (by decide) (fun _ => ?_) (fun q => absurd (zq_eq0 (by omega)) q)
      refine zr_iconst X (nI (1)) dX6_number_108 (by decide +kernel) ?_
      exact zr_zret X dX6_number_109 rfl ⟨rfl, by rw [← ha, ← hb]; unfold znv znq; rw [hP35, zmo1_end (Or.inr (Or.inl (fun z => hn36 z.1)))]⟩

set_option maxHeartbeats 4000000 in
set_option maxRecDepth 100000 in
theorem c_number3_f {l : Launch} {D : va_G} {tc : Nat → ClassId} {ad : Nat → Nat} {A : Nat → Prop} {tF tL tM : Nat} (E : zN 6 A ad) (μ : Nat → Int32) {w : Nat → Int32} (hw : ∀ q, q < 60 → μ (q + 2460) = w q) {p : Nat} (hp : μ 2452 = nI p) (hp3 : p ≤ 64) {n : Nat} (hn : μ 2447 = nI n) (hn2 : n ≤ 60) (h : ¬ znum w n 0 p) : zMi l yX6_number cX6_number 5 (some .boolean) (zrm 2) (zK A D tc tF tL tM) A D vwCl tc ad 6 shR [.ref (ad (0)), .int (nI (3)), .int (nI (4)), .int (nI (0))] μ (fun r u => r = nI 0 ∧ u = μ) := by
  refine zM_of RX6 [(0, .ref (ad (0))), (1, .int (nI (3))), (2, .int (nI (4))), (3, .int (nI (0)))] (zK_ok A D tc tF tL tM) E.1 E.2 owR_ok (by decide +kernel) rfl (Nat.le_of_ble_eq_true rfl) rfl ?_
  intro pP eE sS mM aS bL mT cO X
  refine zr_aloadn X 0 dX6_number_0 rfl ?_
  by_cases hlt : p < n
  · refine zr_dVi (C := RX6) (ci := 6) [] [] X (zK_ok A D tc tF tL tM) (zM_i (z1 := w (p)) (c_code_in E μ (p := p) (hp) (by omega) (hn) hn2 (by omega)) ((rfl).trans (hw (p) (by omega)))) k_715 k_717 kp_14 k_7 k_718 hdX6_code ⟨rfl, rfl⟩ ⟨Nat.le_of_ble_eq_true rfl, Nat.le_of_ble_eq_true rfl⟩ (by omega) rfl rfl rfl rfl (Nat.le_of_ble_eq_true rfl) dX6_number_1 ?_
    refine zr_iloadn X 3 dX6_number_4 rfl ?_
    refine zr_if_eq X 13 dX6_number_5 (by decide) (fun _ => ?_) (fun q => absurd (zq_eq0 (by omega)) q)
    refine zr_bipush X (nI (49)) dX6_number_13 (by decide +kernel) ?_
    refine zr_bipush X (nI (57)) dX6_number_15 (by decide +kernel) ?_
    refine zr_dSi [.int (w (p)), .int (nI (49)), .int (nI (57))] [] X (zK_ok A D tc tF tL tM) (c_in_f E μ (fun q => h (znum0_of hlt q.1 q.2))) k_604 k_605 k_7 k_606 hdX6_in ⟨rfl, rfl⟩ ⟨Nat.le_of_ble_eq_true rfl, Nat.le_of_ble_eq_true rfl⟩ rfl rfl (Nat.le_of_ble_eq_true rfl) dX6_number_17 ?_
    refine zr_if_ne X 25 dX6_number_20 (by decide) (fun q => absurd (zq_eq0 (by omega)) q) (fun _ => ?_)
    refine zr_iconst X (nI (0)) dX6_number_23 (by decide +kernel) ?_
    exact zr_zret X dX6_number_24 rfl ⟨rfl, rfl⟩
  · refine zr_dVi (C := RX6) (ci := 6) [] [] X (zK_ok A D tc tF tL tM) (c_code_out E μ (p := p) (hp) (by omega) (hn) hn2 (by omega)) k_715 k_717 kp_14 k_7 k_718 hdX6_code ⟨rfl, rfl⟩ ⟨Nat.le_of_ble_eq_true rfl, Nat.le_of_ble_eq_true rfl⟩ (by omega) rfl rfl rfl rfl (Nat.le_of_ble_eq_true rfl) dX6_number_1 ?_
    refine zr_iloadn X 3 dX6_number_4 rfl ?_
    refine zr_if_eq X 13 dX6_number_5 (by decide) (fun _ => ?_) (fun q => absurd (zq_eq0 (by omega)) q)
    refine zr_bipush X (nI (49)) dX6_number_13 (by decide +kernel) ?_
    refine zr_bipush X (nI (57)) dX6_number_15 (by decide +kernel) ?_
    refine zr_dSi [.int (nI (0)), .int (nI (49)), .int (nI (57))] [] X (zK_ok A D tc tF tL tM) (c_in_f E μ (fun q => absurd q.1 (by decide +kernel))) k_604 k_605 k_7 k_606 hdX6_in ⟨rfl, rfl⟩ ⟨Nat.le_of_ble_eq_true rfl, Nat.le_of_ble_eq_true rfl⟩ rfl rfl (Nat.le_of_ble_eq_true rfl) dX6_number_17 ?_
    refine zr_if_ne X 25 dX6_number_20 (by decide) (fun q => absurd (zq_eq0 (by omega)) q) (fun _ => ?_)
    refine zr_iconst X (nI (0)) dX6_number_23 (by decide +kernel) ?_
    exact zr_zret X dX6_number_24 rfl ⟨rfl, rfl⟩

set_option maxHeartbeats 4000000 in
set_option maxRecDepth 100000 in
theorem c_number3_t {l : Launch} {D : va_G} {tc : Nat → ClassId} {ad : Nat → Nat} {A : Nat → Prop} {tF tL tM : Nat} (E : zN 6 A ad) (μ : Nat → Int32) {w : Nat → Int32} (hw : ∀ q, q < 60 → μ (q + 2460) = w q) {p : Nat} (hp : μ 2452 = nI p) (hp3 : p ≤ 64) {n : Nat} (hn : μ 2447 = nI n) (hn2 : n ≤ 60) (h : znum w n 0 p) {a b : Nat} (ha : znv w n 4 p = a) (hb : znq w n 4 p = b) : zMi l yX6_number cX6_number 5 (some .boolean) (zrm 2) (zK A D tc tF tL tM) A D vwCl tc ad 6 shR [.ref (ad (0)), .int (nI (3)), .int (nI (4)), .int (nI (0))] μ (fun r u => r = nI 1 ∧ u = upd (upd μ 2546 (nI (a))) 2452 (nI (b))) := by
  refine zM_of RX6 [(0, .ref (ad (0))), (1, .int (nI (3))), (2, .int (nI (4))), (3, .int (nI (0)))] (zK_ok A D tc tF tL tM) E.1 E.2 owR_ok (by decide +kernel) rfl (Nat.le_of_ble_eq_true rfl) rfl ?_
  intro pP eE sS mM aS bL mT cO X
  refine zr_aloadn X 0 dX6_number_0 rfl ?_
  obtain ⟨⟨hlt, hd1, hd2⟩, hz⟩ := h
  have he := zdg_eq hd1 hd2
  have hz9 := zdg_9 w p
  have hz0 : 0 < zdg w p := hz.resolve_left (by decide)
  refine zr_dVi (C := RX6) (ci := 6) [] [] X (zK_ok A D tc tF tL tM) (zM_i (z1 := nI (zdg w (p) + 48)) (c_code_in E μ (p := p) (hp) (by omega) (hn) hn2 (by omega)) (((rfl).trans (hw (p) (by omega))).trans he)) k_715 k_717 kp_14 k_7 k_718 hdX6_code ⟨rfl, rfl⟩ ⟨Nat.le_of_ble_eq_true rfl, Nat.le_of_ble_eq_true rfl⟩ (by omega) rfl rfl rfl rfl (Nat.le_of_ble_eq_true rfl) dX6_number_1 ?_
  refine zr_iloadn X 3 dX6_number_4 rfl ?_
  refine zr_if_eq X 13 dX6_number_5 (by decide) (fun _ => ?_) (fun q => absurd (zq_eq0 (by omega)) q)
  refine zr_bipush X (nI (49)) dX6_number_13 (by decide +kernel) ?_
  refine zr_bipush X (nI (57)) dX6_number_15 (by decide +kernel) ?_
  refine zr_dSi [.int (nI ((zdg w (p)) + 48)), .int (nI (49)), .int (nI (57))] [] X (zK_ok A D tc tF tL tM) (c_in_t E μ (zq_le (by omega) (by omega)) (zq_le (by omega) (by omega))) k_604 k_605 k_7 k_606 hdX6_in ⟨rfl, rfl⟩ ⟨Nat.le_of_ble_eq_true rfl, Nat.le_of_ble_eq_true rfl⟩ rfl rfl (Nat.le_of_ble_eq_true rfl) dX6_number_17 ?_
  refine zr_if_ne X 25 dX6_number_20 (by decide) (fun _ => ?_) (fun q => absurd q (nI_ne0 (by omega) (by omega)))
  refine zr_iconst X (nI (0)) dX6_number_25 (by decide +kernel) ?_
  refine zr_istore X [1, 2, 3, 4, 0] [(0, .ref (ad (0))), (1, .int (nI (3))), (2, .int (nI (4))), (3, .int (nI (0))), (4, .int (nI (0)))] dX6_number_26 (by decide) rfl ?_
  refine zr_aloadn X 0 dX6_number_28 rfl ?_
  refine zr_get X (ci := 6) (q := 10) (zR _) (.ref (ad (5))) dX6_number_29 (by omega) rfl rfl inX6 (by decide) rfl (zvR rfl) rfl k_549 ?_
  refine zr_iloadn X 1 dX6_number_32 rfl ?_
  refine zr_iconst X (nI (0)) dX6_number_33 (by decide +kernel) ?_
  refine zr_iast X (j := 3) 0 (2546) dX6_number_34 (by omega) rfl rfl rfl (by omega) (by omega) (by omega) ?_
  refine zr_forH X (4) (fun q => zmo1 w n 4 true 0 p = zmo1 w n (4 - q) (decide (q = 0)) (zval w p q) (p + q)) (fun q => (upd (upd μ (2546) (nI ((zval w p (q))))) (2452) (nI (p + q)))) (fun q => [(0, .ref (ad (0))), (1, .int (nI (3))), (2, .int (nI (4))), (3, .int (nI (0))), (4, .int (nI (q)))]) [] (rfl) (zupd_same ((pk_un (by omega)).trans hp)) (rfl) (fun hP35 => ?_) ?_
  · refine zr_aloadn X 0 dX6_number_35 rfl ?_
    by_cases hn36 : p + 4 < n
    · by_cases hd36 : nI 48 ≤ w (p + 4) ∧ w (p + 4) ≤ nI 57
      · have he := zdg_eq hd36.1 hd36.2
        have hz9 := zdg_9 w (p + 4)
        refine zr_dVi (C := RX6) (ci := 6) [] [] X (zK_ok A D tc tF tL tM) (zM_i (z1 := nI (zdg w (p + 4) + 48)) (c_code_in E (upd (upd μ (2546) (nI ((zval w p (4))))) (2452) (nI (p + 4))) (p := p + 4) (pk_us) (by omega) ((pk_un (by omega)).trans ((pk_un (by omega)).trans (hn))) hn2 (by omega)) ((((pk_un (by omega)).trans ((pk_un (by omega)).trans (rfl))).trans (hw (p + 4) (by omega))).trans he)) k_715 k_717 kp_14 k_7 k_718 hdX6_code ⟨rfl, rfl⟩ ⟨Nat.le_of_ble_eq_true rfl, Nat.le_of_ble_eq_true rfl⟩ (by omega) rfl rfl rfl rfl (Nat.le_of_ble_eq_true rfl) dX6_number_36 ?_
        refine zr_bipush X (nI (48)) dX6_number_39 (by decide +kernel) ?_
        refine zr_bipush X (nI (57)) dX6_number_41 (by decide +kernel) ?_
        refine zr_dSi [.int (nI ((zdg w (p + 4)) + 48)), .int (nI (48)), .int (nI (57))] [] X (zK_ok A D tc tF tL tM) (c_in_t E (upd (upd μ (2546) (nI ((zval w p (4))))) (2452) (nI (p + 4))) (zq_le (by omega) (by omega)) (zq_le (by omega) (by omega))) k_604 k_605 k_7 k_606 hdX6_in ⟨rfl, rfl⟩ ⟨Nat.le_of_ble_eq_true rfl, Nat.le_of_ble_eq_true rfl⟩ rfl rfl (Nat.le_of_ble_eq_true rfl) dX6_number_43 ?_
        refine zr_if_eq X 108 dX6_number_46 (by decide) (fun q => absurd q (nI_ne0 (by omega) (by omega))) (fun _ => ?_)
        refine zr_iload X 4 dX6_number_49 rfl ?_
        refine zr_iloadn X 2 dX6_number_51 rfl ?_
        refine zr_icmp_ge X 108 dX6_number_52 (by decide) (fun _ => ?_) (fun q => absurd (zq_le (by omega) (by omega)) q)
        refine zr_iconst X (nI (1)) dX6_number_108 (by decide +kernel) ?_
        exact zr_zret X dX6_number_109 rfl ⟨rfl, by rw [← ha, ← hb]; unfold znv znq; rw [hP35, zmo1_end (Or.inl rfl)]⟩
      · refine zr_dVi (C := RX6) (ci := 6) [] [] X (zK_ok A D tc tF tL tM) (zM_i (z1 := w (p + 4)) (c_code_in E (upd (upd μ (2546) (nI ((zval w p (4))))) (2452) (nI (p + 4))) (p := p + 4) (pk_us) (by omega) ((pk_un (by omega)).trans ((pk_un (by omega)).trans (hn))) hn2 (by omega)) (((pk_un (by omega)).trans ((pk_un (by omega)).trans (rfl))).trans (hw (p + 4) (by omega)))) k_715 k_717 kp_14 k_7 k_718 hdX6_code ⟨rfl, rfl⟩ ⟨Nat.le_of_ble_eq_true rfl, Nat.le_of_ble_eq_true rfl⟩ (by omega) rfl rfl rfl rfl (Nat.le_of_ble_eq_true rfl) dX6_number_36 ?_
        refine zr_bipush X (nI (48)) dX6_number_39 (by decide +kernel) ?_
        refine zr_bipush X (nI (57)) dX6_number_41 (by decide +kernel) ?_
        refine zr_dSi [.int (w (p + 4)), .int (nI (48)), .int (nI (57))] [] X (zK_ok A D tc tF tL tM) (c_in_f E (upd (upd μ (2546) (nI ((zval w p (4))))) (2452) (nI (p + 4))) (hd36)) k_604 k_605 k_7 k_606 hdX6_in ⟨rfl, rfl⟩ ⟨Nat.le_of_ble_eq_true rfl, Nat.le_of_ble_eq_true rfl⟩ rfl rfl (Nat.le_of_ble_eq_true rfl) dX6_number_43 ?_
        refine zr_if_eq X 108 dX6_number_46 (by decide) (fun _ => ?_) (fun q => absurd (zq_eq0 (by omega)) q)
        refine zr_iconst X (nI (1)) dX6_number_108 (by decide +kernel) ?_
        exact zr_zret X dX6_number_109 rfl ⟨rfl, by rw [← ha, ← hb]; unfold znv znq; rw [hP35, zmo1_end (Or.inr (Or.inl (fun z => hd36 z.2)))]⟩
    · refine zr_dVi (C := RX6) (ci := 6) [] [] X (zK_ok A D tc tF tL tM) (c_code_out E (upd (upd μ (2546) (nI ((zval w p (4))))) (2452) (nI (p + 4))) (p := p + 4) (pk_us) (by omega) ((pk_un (by omega)).trans ((pk_un (by omega)).trans (hn))) hn2 (by omega)) k_715 k_717 kp_14 k_7 k_718 hdX6_code ⟨rfl, rfl⟩ ⟨Nat.le_of_ble_eq_true rfl, Nat.le_of_ble_eq_true rfl⟩ (by omega) rfl rfl rfl rfl (Nat.le_of_ble_eq_true rfl) dX6_number_36 ?_
      refine zr_bipush X (nI (48)) dX6_number_39 (by decide +kernel) ?_
      refine zr_bipush X (nI (57)) dX6_number_41 (by decide +kernel) ?_
      refine zr_dSi [.int (nI (0)), .int (nI (48)), .int (nI (57))] [] X (zK_ok A D tc tF tL tM) (c_in_f E (upd (upd μ (2546) (nI ((zval w p (4))))) (2452) (nI (p + 4))) (fun q => absurd q.1 (by decide +kernel))) k_604 k_605 k_7 k_606 hdX6_in ⟨rfl, rfl⟩ ⟨Nat.le_of_ble_eq_true rfl, Nat.le_of_ble_eq_true rfl⟩ rfl rfl (Nat.le_of_ble_eq_true rfl) dX6_number_43 ?_
      refine zr_if_eq X 108 dX6_number_46 (by decide) (fun _ => ?_) (fun q => absurd (zq_eq0 (by omega)) q)
      refine zr_iconst X (nI (1)) dX6_number_108 (by decide +kernel) ?_
      exact zr_zret X dX6_number_109 rfl ⟨rfl, by rw [← ha, ← hb]; unfold znv znq; rw [hP35, zmo1_end (Or.inr (Or.inl (fun z => hn36 z.1)))]⟩
  · intro q hq hP35 ih35
    refine zr_aloadn X 0 dX6_number_35 rfl ?_
    by_cases hn36 : p + q < n
    · by_cases hd36 : nI 48 ≤ w (p + q) ∧ w (p + q) ≤ nI 57
      · have he := zdg_eq hd36.1 hd36.2
        have hz9 := zdg_9 w (p + q)
        refine zr_dVi (C := RX6) (ci := 6) [] [] X (zK_ok A D tc tF tL tM) (zM_i (z1 := nI (zdg w (p + q) + 48)) (c_code_in E (upd (upd μ (2546) (nI ((zval w p (q))))) (2452) (nI (p + q))) (p := p + q) (pk_us) (by omega) ((pk_un (by omega)).trans ((pk_un (by omega)).trans (hn))) hn2 (by omega)) ((((pk_un (by omega)).trans ((pk_un (by omega)).trans (rfl))).trans (hw (p + q) (by omega))).trans he)) k_715 k_717 kp_14 k_7 k_718 hdX6_code ⟨rfl, rfl⟩ ⟨Nat.le_of_ble_eq_true rfl, Nat.le_of_ble_eq_true rfl⟩ (by omega) rfl rfl rfl rfl (Nat.le_of_ble_eq_true rfl) dX6_number_36 ?_
        refine zr_bipush X (nI (48)) dX6_number_39 (by decide +kernel) ?_
        refine zr_bipush X (nI (57)) dX6_number_41 (by decide +kernel) ?_
        refine zr_dSi [.int (nI ((zdg w (p + q)) + 48)), .int (nI (48)), .int (nI (57))] [] X (zK_ok A D tc tF tL tM) (c_in_t E (upd (upd μ (2546) (nI ((zval w p (q))))) (2452) (nI (p + q))) (zq_le (by omega) (by omega)) (zq_le (by omega) (by omega))) k_604 k_605 k_7 k_606 hdX6_in ⟨rfl, rfl⟩ ⟨Nat.le_of_ble_eq_true rfl, Nat.le_of_ble_eq_true rfl⟩ rfl rfl (Nat.le_of_ble_eq_true rfl) dX6_number_43 ?_
        refine zr_if_eq X 108 dX6_number_46 (by decide) (fun q => absurd q (nI_ne0 (by omega) (by omega))) (fun _ => ?_)
        refine zr_iload X 4 dX6_number_49 rfl ?_
        refine zr_iloadn X 2 dX6_number_51 rfl ?_
        refine zr_icmp_ge X 108 dX6_number_52 (by decide) (fun q => absurd q (nI_ge (by omega) (by omega))) (fun _ => ?_)
        refine zr_iload X 4 dX6_number_55 rfl ?_
        refine zr_if_eq X 69 dX6_number_57 (by decide) (fun h57 => ?_) (fun h57 => ?_)
        · have h57 : q = 0 := by rw [← nI_0] at h57; exact (nI_eq (by omega) (by omega)).mp h57
          refine zr_aloadn X 0 dX6_number_69 rfl ?_
          refine zr_get X (ci := 6) (q := 10) (zR _) (.ref (ad (5))) dX6_number_70 (by omega) rfl rfl inX6 (by decide) rfl (zvR rfl) rfl k_549 ?_
          refine zr_iloadn X 1 dX6_number_73 rfl ?_
          refine zr_bipush X (nI (10)) dX6_number_74 (by decide +kernel) ?_
          refine zr_aloadn X 0 dX6_number_76 rfl ?_
          refine zr_get X (ci := 6) (q := 10) (zR _) (.ref (ad (5))) dX6_number_77 (by omega) rfl rfl inX6 (by decide) rfl (zvR rfl) rfl k_549 ?_
          refine zr_iloadn X 1 dX6_number_80 rfl ?_
          refine zr_iald X (j := 3) 0 (nI ((zval w p (q)))) dX6_number_81 (by omega) rfl rfl rfl (by omega) (by omega) (zcg (b := 2546) (by omega) ((pk_un (by omega)).trans (pk_us))) ?_
          refine zr_imul X (nI (10 * (zval w p (q)))) dX6_number_82 ((pk_mul _ _).trans (congrArg nI (by omega))) ?_
          refine zr_aloadn X 0 dX6_number_83 rfl ?_
          refine zr_dVi (C := RX6) (ci := 6) [] [.int (nI (10 * (zval w p (q)))), .int (nI (3)), .ref (ad (5))] X (zK_ok A D tc tF tL tM) (zM_i (z1 := nI (zdg w (p + q) + 48)) (c_code_in E (upd (upd μ (2546) (nI ((zval w p (q))))) (2452) (nI (p + q))) (p := p + q) (pk_us) (by omega) ((pk_un (by omega)).trans ((pk_un (by omega)).trans (hn))) hn2 (by omega)) ((((pk_un (by omega)).trans ((pk_un (by omega)).trans (rfl))).trans (hw (p + q) (by omega))).trans he)) k_715 k_717 kp_14 k_7 k_718 hdX6_code ⟨rfl, rfl⟩ ⟨Nat.le_of_ble_eq_true rfl, Nat.le_of_ble_eq_true rfl⟩ (by omega) rfl rfl rfl rfl (Nat.le_of_ble_eq_true rfl) dX6_number_84 ?_
          refine zr_iadd X (nI ((zdg w (p + q)) + 10 * (zval w p (q)) + 48)) dX6_number_87 ((nI_add _ _).trans (congrArg nI (by omega))) ?_
          refine zr_bipush X (nI (48)) dX6_number_88 (by decide +kernel) ?_
          refine zr_isub X (nI ((zdg w (p + q)) + 10 * (zval w p (q)))) dX6_number_90 ((pk_sub (by omega)).trans (congrArg nI (by omega))) ?_
          refine zr_iast X (j := 3) 0 (2546) dX6_number_91 (by omega) rfl rfl rfl (by omega) (by omega) (by omega) ?_
          refine zr_aloadn X 0 dX6_number_92 rfl ?_
          refine zr_dup X dX6_number_93 rfl ?_
          refine zr_get X (ci := 6) (q := 9) zI (.int (nI (p + q))) dX6_number_94 (by omega) rfl rfl inX6 (by decide) rfl (congrArg Value.int ((pk_un (by omega)).trans (pk_us))) rfl k_548 ?_
          refine zr_iconst X (nI (1)) dX6_number_97 (by decide +kernel) ?_
          refine zr_iadd X (nI (p + q + 1)) dX6_number_98 (nI_add _ _) ?_
          refine zr_put X (ci := 6) (q := 9) (ty0 := tyX6) (ty := .int) (2452) dX6_number_99 (by omega) rfl rfl inX6 tyX6_ok nmX6 (by decide) rfl rfl rfl rfl rfl rfl k_548 (by omega) ?_
          refine zr_iinc X 4 (nI (q + 1)) [1, 2, 3, 4, 0] [(0, .ref (ad (0))), (1, .int (nI (3))), (2, .int (nI (4))), (3, .int (nI (0))), (4, .int (nI (q + 1)))] dX6_number_102 rfl (zinc _) (by decide) rfl ?_
          refine zr_goto X 35 dX6_number_105 (by decide) ?_
          exact zr_mem X ((zupd4 (by omega)).trans (congrArg (fun z => upd (upd μ 2546 (nI z)) 2452 (nI (p + q + 1))) (Nat.add_comm _ _))) (ih35 (hP35.trans (by rw [show 4 - q = 4 - (q + 1) + 1 by omega, zmo1_go ⟨hn36, hd36⟩ (Or.inl (decide_eq_true h57)), show decide (q + 1 = 0) = false from decide_eq_false (by omega)]; rfl)))
        · have h57 : ¬ q = 0 := fun q => h57 (by rw [q]; rfl)
          refine zr_aloadn X 0 dX6_number_60 rfl ?_
          refine zr_get X (ci := 6) (q := 10) (zR _) (.ref (ad (5))) dX6_number_61 (by omega) rfl rfl inX6 (by decide) rfl (zvR rfl) rfl k_549 ?_
          refine zr_iloadn X 1 dX6_number_64 rfl ?_
          refine zr_iald X (j := 3) 0 (nI ((zval w p (q)))) dX6_number_65 (by omega) rfl rfl rfl (by omega) (by omega) (zcg (b := 2546) (by omega) ((pk_un (by omega)).trans (pk_us))) ?_
          refine zr_if_le X 108 dX6_number_66 (by decide) (fun h66 => ?_) (fun h66 => ?_)
          · have h66 : zval w p q = 0 := by rw [← nI_0] at h66; have hz := zval_ub (w := w) (p := p) (i := q) (by omega); have := (nI_leI (by omega) (by omega)).mp h66; omega
            refine zr_iconst X (nI (1)) dX6_number_108 (by decide +kernel) ?_
            exact zr_zret X dX6_number_109 rfl ⟨rfl, by rw [← ha, ← hb]; unfold znv znq; rw [hP35, zmo1_end (Or.inr (Or.inr ⟨decide_eq_false h57, h66⟩))]⟩
          · have h66 : 0 < zval w p q := Nat.pos_of_ne_zero (fun q => h66 (by rw [q]; decide +kernel))
            refine zr_aloadn X 0 dX6_number_69 rfl ?_
            refine zr_get X (ci := 6) (q := 10) (zR _) (.ref (ad (5))) dX6_number_70 (by omega) rfl rfl inX6 (by decide) rfl (zvR rfl) rfl k_549 ?_
            refine zr_iloadn X 1 dX6_number_73 rfl ?_
            refine zr_bipush X (nI (10)) dX6_number_74 (by decide +kernel) ?_
            refine zr_aloadn X 0 dX6_number_76 rfl ?_
            refine zr_get X (ci := 6) (q := 10) (zR _) (.ref (ad (5))) dX6_number_77 (by omega) rfl rfl inX6 (by decide) rfl (zvR rfl) rfl k_549 ?_
            refine zr_iloadn X 1 dX6_number_80 rfl ?_
            refine zr_iald X (j := 3) 0 (nI ((zval w p (q)))) dX6_number_81 (by omega) rfl rfl rfl (by omega) (by omega) (zcg (b := 2546) (by omega) ((pk_un (by omega)).trans (pk_us))) ?_
            refine zr_imul X (nI (10 * (zval w p (q)))) dX6_number_82 ((pk_mul _ _).trans (congrArg nI (by omega))) ?_
            refine zr_aloadn X 0 dX6_number_83 rfl ?_
            refine zr_dVi (C := RX6) (ci := 6) [] [.int (nI (10 * (zval w p (q)))), .int (nI (3)), .ref (ad (5))] X (zK_ok A D tc tF tL tM) (zM_i (z1 := nI (zdg w (p + q) + 48)) (c_code_in E (upd (upd μ (2546) (nI ((zval w p (q))))) (2452) (nI (p + q))) (p := p + q) (pk_us) (by omega) ((pk_un (by omega)).trans ((pk_un (by omega)).trans (hn))) hn2 (by omega)) ((((pk_un (by omega)).trans ((pk_un (by omega)).trans (rfl))).trans (hw (p + q) (by omega))).trans he)) k_715 k_717 kp_14 k_7 k_718 hdX6_code ⟨rfl, rfl⟩ ⟨Nat.le_of_ble_eq_true rfl, Nat.le_of_ble_eq_true rfl⟩ (by omega) rfl rfl rfl rfl (Nat.le_of_ble_eq_true rfl) dX6_number_84 ?_
            refine zr_iadd X (nI ((zdg w (p + q)) + 10 * (zval w p (q)) + 48)) dX6_number_87 ((nI_add _ _).trans (congrArg nI (by omega))) ?_
            refine zr_bipush X (nI (48)) dX6_number_88 (by decide +kernel) ?_
            refine zr_isub X (nI ((zdg w (p + q)) + 10 * (zval w p (q)))) dX6_number_90 ((pk_sub (by omega)).trans (congrArg nI (by omega))) ?_
            refine zr_iast X (j := 3) 0 (2546) dX6_number_91 (by omega) rfl rfl rfl (by omega) (by omega) (by omega) ?_
            refine zr_aloadn X 0 dX6_number_92 rfl ?_
            refine zr_dup X dX6_number_93 rfl ?_
            refine zr_get X (ci := 6) (q := 9) zI (.int (nI (p + q))) dX6_number_94 (by omega) rfl rfl inX6 (by decide) rfl (congrArg Value.int ((pk_un (by omega)).trans (pk_us))) rfl k_548 ?_
            refine zr_iconst X (nI (1)) dX6_number_97 (by decide +kernel) ?_
            refine zr_iadd X (nI (p + q + 1)) dX6_number_98 (nI_add _ _) ?_
            refine zr_put X (ci := 6) (q := 9) (ty0 := tyX6) (ty := .int) (2452) dX6_number_99 (by omega) rfl rfl inX6 tyX6_ok nmX6 (by decide) rfl rfl rfl rfl rfl rfl k_548 (by omega) ?_
            refine zr_iinc X 4 (nI (q + 1)) [1, 2, 3, 4, 0] [(0, .ref (ad (0))), (1, .int (nI (3))), (2, .int (nI (4))), (3, .int (nI (0))), (4, .int (nI (q + 1)))] dX6_number_102 rfl (zinc _) (by decide) rfl ?_
            refine zr_goto X 35 dX6_number_105 (by decide) ?_
            exact zr_mem X ((zupd4 (by omega)).trans (congrArg (fun z => upd (upd μ 2546 (nI z)) 2452 (nI (p + q + 1))) (Nat.add_comm _ _))) (ih35 (hP35.trans (by rw [show 4 - q = 4 - (q + 1) + 1 by omega, zmo1_go ⟨hn36, hd36⟩ (Or.inr (by omega)), show decide (q + 1 = 0) = false from decide_eq_false (by omega)]; rfl)))
      · refine zr_dVi (C := RX6) (ci := 6) [] [] X (zK_ok A D tc tF tL tM) (zM_i (z1 := w (p + q)) (c_code_in E (upd (upd μ (2546) (nI ((zval w p (q))))) (2452) (nI (p + q))) (p := p + q) (pk_us) (by omega) ((pk_un (by omega)).trans ((pk_un (by omega)).trans (hn))) hn2 (by omega)) (((pk_un (by omega)).trans ((pk_un (by omega)).trans (rfl))).trans (hw (p + q) (by omega)))) k_715 k_717 kp_14 k_7 k_718 hdX6_code ⟨rfl, rfl⟩ ⟨Nat.le_of_ble_eq_true rfl, Nat.le_of_ble_eq_true rfl⟩ (by omega) rfl rfl rfl rfl (Nat.le_of_ble_eq_true rfl) dX6_number_36 ?_
        refine zr_bipush X (nI (48)) dX6_number_39 (by decide +kernel) ?_
        refine zr_bipush X (nI (57)) dX6_number_41 (by decide +kernel) ?_
        refine zr_dSi [.int (w (p + q)), .int (nI (48)), .int (nI (57))] [] X (zK_ok A D tc tF tL tM) (c_in_f E (upd (upd μ (2546) (nI ((zval w p (q))))) (2452) (nI (p + q))) (hd36)) k_604 k_605 k_7 k_606 hdX6_in ⟨rfl, rfl⟩ ⟨Nat.le_of_ble_eq_true rfl, Nat.le_of_ble_eq_true rfl⟩ rfl rfl (Nat.le_of_ble_eq_true rfl) dX6_number_43 ?_
        refine zr_if_eq X 108 dX6_number_46 (by decide) (fun _ => ?_) (fun q => absurd (zq_eq0 (by omega)) q)
        refine zr_iconst X (nI (1)) dX6_number_108 (by decide +kernel) ?_
        exact zr_zret X dX6_number_109 rfl ⟨rfl, by rw [← ha, ← hb]; unfold znv znq; rw [hP35, zmo1_end (Or.inr (Or.inl (fun z => hd36 z.2)))]⟩
    · refine zr_dVi (C := RX6) (ci := 6) [] [] X (zK_ok A D tc tF tL tM) (c_code_out E (upd (upd μ (2546) (nI ((zval w p (q))))) (2452) (nI (p + q))) (p := p + q) (pk_us) (by omega) ((pk_un (by omega)).trans ((pk_un (by omega)).trans (hn))) hn2 (by omega)) k_715 k_717 kp_14 k_7 k_718 hdX6_code ⟨rfl, rfl⟩ ⟨Nat.le_of_ble_eq_true rfl, Nat.le_of_ble_eq_true rfl⟩ (by omega) rfl rfl rfl rfl (Nat.le_of_ble_eq_true rfl) dX6_number_36 ?_
      refine zr_bipush X (nI (48)) dX6_number_39 (by decide +kernel) ?_
      refine zr_bipush X (nI (57)) dX6_number_41 (by decide +kernel) ?_
      refine zr_dSi [.int (nI (0)), .int (nI (48)), .int (nI (57))] [] X (zK_ok A D tc tF tL tM) (c_in_f E (upd (upd μ (2546) (nI ((zval w p (q))))) (2452) (nI (p + q))) (fun q => absurd q.1 (by decide +kernel))) k_604 k_605 k_7 k_606 hdX6_in ⟨rfl, rfl⟩ ⟨Nat.le_of_ble_eq_true rfl, Nat.le_of_ble_eq_true rfl⟩ rfl rfl (Nat.le_of_ble_eq_true rfl) dX6_number_43 ?_
      refine zr_if_eq X 108 dX6_number_46 (by decide) (fun _ => ?_) (fun q => absurd (zq_eq0 (by omega)) q)
      refine zr_iconst X (nI (1)) dX6_number_108 (by decide +kernel) ?_
      exact zr_zret X dX6_number_109 rfl ⟨rfl, by rw [← ha, ← hb]; unfold znv znq; rw [hP35, zmo1_end (Or.inr (Or.inl (fun z => hn36 z.1)))]⟩

