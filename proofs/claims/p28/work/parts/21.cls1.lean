theorem zle_pred {x : Int32} {n : Nat} (hn : n + 1 < 2 ^ 31) (h : x < nI (n + 1)) : x ≤ nI n := by
  rw [Int32.lt_iff_toInt_lt, nI_toInt hn] at h
  rw [Int32.le_iff_toInt_le, nI_toInt (by omega)]
  omega
set_option maxHeartbeats 4000000 in
set_option maxRecDepth 100000 in
theorem d_isVintage_t {l : Launch} {D : va_G} {tc : Nat → ClassId} {ad : Nat → Nat} {A : Nat → Prop} {tF tL tM : Nat} (E : zN 299 A ad) (μ : Nat → Int32) {v : Nat} (h1 : 0 ≤ v) (h2 : v ≤ 19) : zMi l yX5_isVintage cX5_isVintage 1 (some .boolean) (zrm 1) (zK A D tc tF tL tM) A D vwCl tc ad 299 shC [.int (nI (v))] μ (fun r u => r = nI 1 ∧ u = μ) := by
  refine zM_of RX5 [(0, .int (nI (v)))] (zK_ok A D tc tF tL tM) E.1 E.2 owC_ok (by decide +kernel) rfl (Nat.le_of_ble_eq_true rfl) rfl ?_
  intro pP eE sS mM aS bL mT cO X
  refine zr_iloadn X 0 dX5_isVintage_0 rfl ?_
  refine zr_if_lt X 14 dX5_isVintage_1 (by decide) (fun q => absurd q (nI_pos (by omega))) (fun _ => ?_)
  refine zr_iloadn X 0 dX5_isVintage_4 rfl ?_
  refine zr_bipush X (nI (20)) dX5_isVintage_5 (by decide +kernel) ?_
  refine zr_icmp_ge X 14 dX5_isVintage_7 (by decide) (fun q => absurd q (nI_ge (by omega) (by omega))) (fun _ => ?_)
  refine zr_iconst X (nI (1)) dX5_isVintage_10 (by decide +kernel) ?_
  refine zr_goto X 15 dX5_isVintage_11 (by decide) ?_
  exact zr_zret X dX5_isVintage_15 rfl ⟨rfl, rfl⟩

set_option maxHeartbeats 4000000 in
set_option maxRecDepth 100000 in
theorem d_isVintage_f {l : Launch} {D : va_G} {tc : Nat → ClassId} {ad : Nat → Nat} {A : Nat → Prop} {tF tL tM : Nat} (E : zN 299 A ad) (μ : Nat → Int32) {v : Int32} (h : ¬ zin v 0 19) : zMi l yX5_isVintage cX5_isVintage 1 (some .boolean) (zrm 1) (zK A D tc tF tL tM) A D vwCl tc ad 299 shC [.int (v)] μ (fun r u => r = nI 0 ∧ u = μ) := by
  refine zM_of RX5 [(0, .int (v))] (zK_ok A D tc tF tL tM) E.1 E.2 owC_ok (by decide +kernel) rfl (Nat.le_of_ble_eq_true rfl) rfl ?_
  intro pP eE sS mM aS bL mT cO X
  refine zr_iloadn X 0 dX5_isVintage_0 rfl ?_
  refine zr_if_lt X 14 dX5_isVintage_1 (by decide) (fun h1 => ?_) (fun h1 => ?_)
  · refine zr_iconst X (nI (0)) dX5_isVintage_14 (by decide +kernel) ?_
    exact zr_zret X dX5_isVintage_15 rfl ⟨rfl, rfl⟩
  · refine zr_iloadn X 0 dX5_isVintage_4 rfl ?_
    refine zr_bipush X (nI (20)) dX5_isVintage_5 (by decide +kernel) ?_
    refine zr_icmp_ge X 14 dX5_isVintage_7 (by decide) (fun _ => ?_) (fun q => absurd (Int32.not_lt.mp (fun q => h (zin_of (b := 19) (by omega) (by rw [nI_0]; exact Int32.not_lt.mp h1) (zle_pred (n := 19) (by omega) q) (by omega)))) q)
    refine zr_iconst X (nI (0)) dX5_isVintage_14 (by decide +kernel) ?_
    exact zr_zret X dX5_isVintage_15 rfl ⟨rfl, rfl⟩

set_option maxHeartbeats 4000000 in
set_option maxRecDepth 100000 in
theorem d_isGrade_t {l : Launch} {D : va_G} {tc : Nat → ClassId} {ad : Nat → Nat} {A : Nat → Prop} {tF tL tM : Nat} (E : zN 299 A ad) (μ : Nat → Int32) {v : Nat} (h1 : 0 ≤ v) (h2 : v ≤ 2) : zMi l yX5_isGrade cX5_isGrade 1 (some .boolean) (zrm 1) (zK A D tc tF tL tM) A D vwCl tc ad 299 shC [.int (nI (v))] μ (fun r u => r = nI 1 ∧ u = μ) := by
  refine zM_of RX5 [(0, .int (nI (v)))] (zK_ok A D tc tF tL tM) E.1 E.2 owC_ok (by decide +kernel) rfl (Nat.le_of_ble_eq_true rfl) rfl ?_
  intro pP eE sS mM aS bL mT cO X
  refine zr_iloadn X 0 dX5_isGrade_0 rfl ?_
  refine zr_if_lt X 13 dX5_isGrade_1 (by decide) (fun q => absurd q (nI_pos (by omega))) (fun _ => ?_)
  refine zr_iloadn X 0 dX5_isGrade_4 rfl ?_
  refine zr_iconst X (nI (3)) dX5_isGrade_5 (by decide +kernel) ?_
  refine zr_icmp_ge X 13 dX5_isGrade_6 (by decide) (fun q => absurd q (nI_ge (by omega) (by omega))) (fun _ => ?_)
  refine zr_iconst X (nI (1)) dX5_isGrade_9 (by decide +kernel) ?_
  refine zr_goto X 14 dX5_isGrade_10 (by decide) ?_
  exact zr_zret X dX5_isGrade_14 rfl ⟨rfl, rfl⟩

set_option maxHeartbeats 4000000 in
set_option maxRecDepth 100000 in
theorem d_isGrade_f {l : Launch} {D : va_G} {tc : Nat → ClassId} {ad : Nat → Nat} {A : Nat → Prop} {tF tL tM : Nat} (E : zN 299 A ad) (μ : Nat → Int32) {v : Int32} (h : ¬ zin v 0 2) : zMi l yX5_isGrade cX5_isGrade 1 (some .boolean) (zrm 1) (zK A D tc tF tL tM) A D vwCl tc ad 299 shC [.int (v)] μ (fun r u => r = nI 0 ∧ u = μ) := by
  refine zM_of RX5 [(0, .int (v))] (zK_ok A D tc tF tL tM) E.1 E.2 owC_ok (by decide +kernel) rfl (Nat.le_of_ble_eq_true rfl) rfl ?_
  intro pP eE sS mM aS bL mT cO X
  refine zr_iloadn X 0 dX5_isGrade_0 rfl ?_
  refine zr_if_lt X 13 dX5_isGrade_1 (by decide) (fun h1 => ?_) (fun h1 => ?_)
  · refine zr_iconst X (nI (0)) dX5_isGrade_13 (by decide +kernel) ?_
    exact zr_zret X dX5_isGrade_14 rfl ⟨rfl, rfl⟩
  · refine zr_iloadn X 0 dX5_isGrade_4 rfl ?_
    refine zr_iconst X (nI (3)) dX5_isGrade_5 (by decide +kernel) ?_
    refine zr_icmp_ge X 13 dX5_isGrade_6 (by decide) (fun _ => ?_) (fun q => absurd (Int32.not_lt.mp (fun q => h (zin_of (b := 2) (by omega) (by rw [nI_0]; exact Int32.not_lt.mp h1) (zle_pred (n := 2) (by omega) q) (by omega)))) q)
    refine zr_iconst X (nI (0)) dX5_isGrade_13 (by decide +kernel) ?_
    exact zr_zret X dX5_isGrade_14 rfl ⟨rfl, rfl⟩

set_option maxHeartbeats 4000000 in
set_option maxRecDepth 100000 in
theorem d_isTonnes_t {l : Launch} {D : va_G} {tc : Nat → ClassId} {ad : Nat → Nat} {A : Nat → Prop} {tF tL tM : Nat} (E : zN 299 A ad) (μ : Nat → Int32) {v : Nat} (h1 : 1 ≤ v) (h2 : v ≤ 9999) : zMi l yX5_isTonnes cX5_isTonnes 1 (some .boolean) (zrm 1) (zK A D tc tF tL tM) A D vwCl tc ad 299 shC [.int (nI (v))] μ (fun r u => r = nI 1 ∧ u = μ) := by
  refine zM_of RX5 [(0, .int (nI (v)))] (zK_ok A D tc tF tL tM) E.1 E.2 owC_ok (by decide +kernel) rfl (Nat.le_of_ble_eq_true rfl) rfl ?_
  intro pP eE sS mM aS bL mT cO X
  refine zr_iloadn X 0 dX5_isTonnes_0 rfl ?_
  refine zr_iconst X (nI (1)) dX5_isTonnes_1 (by decide +kernel) ?_
  refine zr_icmp_lt X 16 dX5_isTonnes_2 (by decide) (fun q => absurd q (nI_nlt (by omega) (by omega))) (fun _ => ?_)
  refine zr_iloadn X 0 dX5_isTonnes_5 rfl ?_
  refine zr_sipush X (nI (9999)) dX5_isTonnes_6 (by decide +kernel) ?_
  refine zr_icmp_gt X 16 dX5_isTonnes_9 (by decide) (fun q => absurd q (nI_nlt (by omega) (by omega))) (fun _ => ?_)
  refine zr_iconst X (nI (1)) dX5_isTonnes_12 (by decide +kernel) ?_
  refine zr_goto X 17 dX5_isTonnes_13 (by decide) ?_
  exact zr_zret X dX5_isTonnes_17 rfl ⟨rfl, rfl⟩

set_option maxHeartbeats 4000000 in
set_option maxRecDepth 100000 in
theorem d_isTonnes_f {l : Launch} {D : va_G} {tc : Nat → ClassId} {ad : Nat → Nat} {A : Nat → Prop} {tF tL tM : Nat} (E : zN 299 A ad) (μ : Nat → Int32) {v : Int32} (h : ¬ zin v 1 9999) : zMi l yX5_isTonnes cX5_isTonnes 1 (some .boolean) (zrm 1) (zK A D tc tF tL tM) A D vwCl tc ad 299 shC [.int (v)] μ (fun r u => r = nI 0 ∧ u = μ) := by
  refine zM_of RX5 [(0, .int (v))] (zK_ok A D tc tF tL tM) E.1 E.2 owC_ok (by decide +kernel) rfl (Nat.le_of_ble_eq_true rfl) rfl ?_
  intro pP eE sS mM aS bL mT cO X
  refine zr_iloadn X 0 dX5_isTonnes_0 rfl ?_
  refine zr_iconst X (nI (1)) dX5_isTonnes_1 (by decide +kernel) ?_
  refine zr_icmp_lt X 16 dX5_isTonnes_2 (by decide) (fun h2 => ?_) (fun h2 => ?_)
  · refine zr_iconst X (nI (0)) dX5_isTonnes_16 (by decide +kernel) ?_
    exact zr_zret X dX5_isTonnes_17 rfl ⟨rfl, rfl⟩
  · refine zr_iloadn X 0 dX5_isTonnes_5 rfl ?_
    refine zr_sipush X (nI (9999)) dX5_isTonnes_6 (by decide +kernel) ?_
    refine zr_icmp_gt X 16 dX5_isTonnes_9 (by decide) (fun _ => ?_) (fun q => absurd (Int32.not_le.mp (fun q => h (zin_of (by omega) (Int32.not_lt.mp h2) q (by omega)))) q)
    refine zr_iconst X (nI (0)) dX5_isTonnes_16 (by decide +kernel) ?_
    exact zr_zret X dX5_isTonnes_17 rfl ⟨rfl, rfl⟩

set_option maxHeartbeats 4000000 in
set_option maxRecDepth 100000 in
theorem d_isWay_t {l : Launch} {D : va_G} {tc : Nat → ClassId} {ad : Nat → Nat} {A : Nat → Prop} {tF tL tM : Nat} (E : zN 299 A ad) (μ : Nat → Int32) {v : Nat} (h1 : 0 ≤ v) (h2 : v ≤ 2) : zMi l yX5_isWay cX5_isWay 1 (some .boolean) (zrm 1) (zK A D tc tF tL tM) A D vwCl tc ad 299 shC [.int (nI (v))] μ (fun r u => r = nI 1 ∧ u = μ) := by
  refine zM_of RX5 [(0, .int (nI (v)))] (zK_ok A D tc tF tL tM) E.1 E.2 owC_ok (by decide +kernel) rfl (Nat.le_of_ble_eq_true rfl) rfl ?_
  intro pP eE sS mM aS bL mT cO X
  refine zr_iloadn X 0 dX5_isWay_0 rfl ?_
  refine zr_if_lt X 13 dX5_isWay_1 (by decide) (fun q => absurd q (nI_pos (by omega))) (fun _ => ?_)
  refine zr_iloadn X 0 dX5_isWay_4 rfl ?_
  refine zr_iconst X (nI (2)) dX5_isWay_5 (by decide +kernel) ?_
  refine zr_icmp_gt X 13 dX5_isWay_6 (by decide) (fun q => absurd q (nI_nlt (by omega) (by omega))) (fun _ => ?_)
  refine zr_iconst X (nI (1)) dX5_isWay_9 (by decide +kernel) ?_
  refine zr_goto X 14 dX5_isWay_10 (by decide) ?_
  exact zr_zret X dX5_isWay_14 rfl ⟨rfl, rfl⟩

set_option maxHeartbeats 4000000 in
set_option maxRecDepth 100000 in
theorem d_isWay_f {l : Launch} {D : va_G} {tc : Nat → ClassId} {ad : Nat → Nat} {A : Nat → Prop} {tF tL tM : Nat} (E : zN 299 A ad) (μ : Nat → Int32) {v : Int32} (h : ¬ zin v 0 2) : zMi l yX5_isWay cX5_isWay 1 (some .boolean) (zrm 1) (zK A D tc tF tL tM) A D vwCl tc ad 299 shC [.int (v)] μ (fun r u => r = nI 0 ∧ u = μ) := by
  refine zM_of RX5 [(0, .int (v))] (zK_ok A D tc tF tL tM) E.1 E.2 owC_ok (by decide +kernel) rfl (Nat.le_of_ble_eq_true rfl) rfl ?_
  intro pP eE sS mM aS bL mT cO X
  refine zr_iloadn X 0 dX5_isWay_0 rfl ?_
  refine zr_if_lt X 13 dX5_isWay_1 (by decide) (fun h1 => ?_) (fun h1 => ?_)
  · refine zr_iconst X (nI (0)) dX5_isWay_13 (by decide +kernel) ?_
    exact zr_zret X dX5_isWay_14 rfl ⟨rfl, rfl⟩
  · refine zr_iloadn X 0 dX5_isWay_4 rfl ?_
    refine zr_iconst X (nI (2)) dX5_isWay_5 (by decide +kernel) ?_
    refine zr_icmp_gt X 13 dX5_isWay_6 (by decide) (fun _ => ?_) (fun q => absurd (Int32.not_le.mp (fun q => h (zin_of (by omega) (by rw [nI_0]; exact Int32.not_lt.mp h1) q (by omega)))) q)
    refine zr_iconst X (nI (0)) dX5_isWay_13 (by decide +kernel) ?_
    exact zr_zret X dX5_isWay_14 rfl ⟨rfl, rfl⟩

set_option maxHeartbeats 4000000 in
set_option maxRecDepth 100000 in
theorem d_allowances {l : Launch} {D : va_G} {tc : Nat → ClassId} {ad : Nat → Nat} {A : Nat → Prop} {tF tL tM : Nat} (E : zN 299 A ad) (μ : Nat → Int32) {f : Nat} (hf : f < 8)  : zMi l yX0_allowances cX0_allowances 6 (some .int) (zrm 1) (zK A D tc tF tL tM) A D vwCl tc ad 299 shC [.ref (ad (4 * f + 4))] μ (fun r u => r = zsum (fun v => μ (32 * f + v + 7)) 20 ∧ u = μ) := by
  refine zM_of RX0 [(0, .ref (ad (4 * f + 4)))] (zK_ok A D tc tF tL tM) E.1 E.2 owC_ok (by decide +kernel) rfl (Nat.le_of_ble_eq_true rfl) rfl ?_
  intro pP eE sS mM aS bL mT cO X
  refine zr_iconst X (nI (0)) dX0_allowances_0 (by decide +kernel) ?_
  refine zr_istoren X [1, 0] [(0, .ref (ad (4 * f + 4))), (1, .int (nI (0)))] dX0_allowances_1 (by decide) rfl ?_
  refine zr_aloadn X 0 dX0_allowances_2 rfl ?_
  refine zr_get X (ci := 0) (q := 0) (zR _) (.ref (ad (4 * f + 5))) dX0_allowances_3 (by omega) (sc_firm (j := 0) (i := f) (by omega) (by omega) (by have := cb_0; omega)) rfl inX0 (by decide) rfl (zvR (by have := cb_0; omega)) rfl k_40 ?_
  refine zr_astoren X [1, 2, 0] [(0, .ref (ad (4 * f + 4))), (1, .int (nI (0))), (2, .ref (ad (4 * f + 5)))] dX0_allowances_6 (by decide) rfl ?_
  refine zr_aloadn X 2 dX0_allowances_7 rfl ?_
  refine zr_alenI X 0 (nI (20)) dX0_allowances_8 (by omega) (sc_held (j := 0) (i := f) (by omega) (by omega) (by have := cb_0; omega)) rfl rfl ?_
  refine zr_istoren X [1, 2, 3, 0] [(0, .ref (ad (4 * f + 4))), (1, .int (nI (0))), (2, .ref (ad (4 * f + 5))), (3, .int (nI (20)))] dX0_allowances_9 (by decide) rfl ?_
  refine zr_iconst X (nI (0)) dX0_allowances_10 (by decide +kernel) ?_
  refine zr_istore X [1, 2, 3, 4, 0] [(0, .ref (ad (4 * f + 4))), (1, .int (nI (0))), (2, .ref (ad (4 * f + 5))), (3, .int (nI (20))), (4, .int (nI (0)))] dX0_allowances_11 (by decide) rfl ?_
  refine zr_for X (20) (fun q => μ) (fun q => [(0, .ref (ad (4 * f + 4))), (1, .int (zsum (fun v => μ (32 * f + v + 7)) (q))), (2, .ref (ad (4 * f + 5))), (3, .int (nI (20))), (4, .int (nI (q)))]) [] (rfl) rfl ?_ ?_
  · refine zr_iload X 4 dX0_allowances_13 rfl ?_
    refine zr_iloadn X 3 dX0_allowances_15 rfl ?_
    refine zr_icmp_ge X 36 dX0_allowances_16 (by decide) (fun _ => ?_) (fun q => absurd (zq_le (by omega) (by omega)) q)
    refine zr_iloadn X 1 dX0_allowances_36 rfl ?_
    exact zr_iret X dX0_allowances_37 ⟨rfl, rfl⟩
  · intro q hq ih13
    refine zr_iload X 4 dX0_allowances_13 rfl ?_
    refine zr_iloadn X 3 dX0_allowances_15 rfl ?_
    refine zr_icmp_ge X 36 dX0_allowances_16 (by decide) (fun q => absurd q (nI_ge (by omega) (by omega))) (fun _ => ?_)
    refine zr_aloadn X 2 dX0_allowances_19 rfl ?_
    refine zr_iload X 4 dX0_allowances_20 rfl ?_
    refine zr_iald X (j := q) 0 (μ (32 * f + q + 7)) dX0_allowances_22 (by omega) (sc_held (j := 0) (i := f) (by omega) (by omega) (by have := cb_0; omega)) rfl rfl (by omega) (by omega) (zcg (b := 32 * f + q + 7) (by omega) (rfl)) ?_
    refine zr_istore X [1, 2, 3, 4, 5, 0] [(0, .ref (ad (4 * f + 4))), (1, .int (zsum (fun v => μ (32 * f + v + 7)) (q))), (2, .ref (ad (4 * f + 5))), (3, .int (nI (20))), (4, .int (nI (q))), (5, .int (μ (32 * f + q + 7)))] dX0_allowances_23 (by decide) rfl ?_
    refine zr_iloadn X 1 dX0_allowances_25 rfl ?_
    refine zr_iload X 5 dX0_allowances_26 rfl ?_
    refine zr_iadd X ((zsum (fun v => μ (32 * f + v + 7)) (q)) + (μ (32 * f + q + 7))) dX0_allowances_28 rfl ?_
    refine zr_istoren X [1, 0, 2, 3, 4, 5] [(0, .ref (ad (4 * f + 4))), (1, .int ((zsum (fun v => μ (32 * f + v + 7)) (q)) + (μ (32 * f + q + 7)))), (2, .ref (ad (4 * f + 5))), (3, .int (nI (20))), (4, .int (nI (q))), (5, .int (μ (32 * f + q + 7)))] dX0_allowances_29 (by decide) rfl ?_
    refine zr_iinc X 4 (nI (q + 1)) [1, 2, 3, 4, 0, 5] [(0, .ref (ad (4 * f + 4))), (1, .int ((zsum (fun v => μ (32 * f + v + 7)) (q)) + (μ (32 * f + q + 7)))), (2, .ref (ad (4 * f + 5))), (3, .int (nI (20))), (4, .int (nI (q + 1))), (5, .int (μ (32 * f + q + 7)))] dX0_allowances_30 rfl (zinc _) (by decide) rfl ?_
    refine zr_goto X 13 dX0_allowances_33 (by decide) ?_
    refine zr_drop X [0, 1, 2, 3, 4] [(0, .ref (ad (4 * f + 4))), (1, .int ((zsum (fun v => μ (32 * f + v + 7)) (q)) + (μ (32 * f + q + 7)))), (2, .ref (ad (4 * f + 5))), (3, .int (nI (20))), (4, .int (nI (q + 1)))] rfl ?_
    exact ih13

set_option maxHeartbeats 4000000 in
set_option maxRecDepth 100000 in
theorem d_vintagesHeld {l : Launch} {D : va_G} {tc : Nat → ClassId} {ad : Nat → Nat} {A : Nat → Prop} {tF tL tM : Nat} (E : zN 299 A ad) (μ : Nat → Int32) {f : Nat} (hf : f < 8)  : zMi l yX0_vintagesHeld cX0_vintagesHeld 6 (some .int) (zrm 1) (zK A D tc tF tL tM) A D vwCl tc ad 299 shC [.ref (ad (4 * f + 4))] μ (fun r u => r = nI (zcnt (fun v => μ (32 * f + v + 7)) 20) ∧ u = μ) := by
  refine zM_of RX0 [(0, .ref (ad (4 * f + 4)))] (zK_ok A D tc tF tL tM) E.1 E.2 owC_ok (by decide +kernel) rfl (Nat.le_of_ble_eq_true rfl) rfl ?_
  intro pP eE sS mM aS bL mT cO X
  refine zr_iconst X (nI (0)) dX0_vintagesHeld_0 (by decide +kernel) ?_
  refine zr_istoren X [1, 0] [(0, .ref (ad (4 * f + 4))), (1, .int (nI (0)))] dX0_vintagesHeld_1 (by decide) rfl ?_
  refine zr_aloadn X 0 dX0_vintagesHeld_2 rfl ?_
  refine zr_get X (ci := 0) (q := 0) (zR _) (.ref (ad (4 * f + 5))) dX0_vintagesHeld_3 (by omega) (sc_firm (j := 0) (i := f) (by omega) (by omega) (by have := cb_0; omega)) rfl inX0 (by decide) rfl (zvR (by have := cb_0; omega)) rfl k_40 ?_
  refine zr_astoren X [1, 2, 0] [(0, .ref (ad (4 * f + 4))), (1, .int (nI (0))), (2, .ref (ad (4 * f + 5)))] dX0_vintagesHeld_6 (by decide) rfl ?_
  refine zr_aloadn X 2 dX0_vintagesHeld_7 rfl ?_
  refine zr_alenI X 0 (nI (20)) dX0_vintagesHeld_8 (by omega) (sc_held (j := 0) (i := f) (by omega) (by omega) (by have := cb_0; omega)) rfl rfl ?_
  refine zr_istoren X [1, 2, 3, 0] [(0, .ref (ad (4 * f + 4))), (1, .int (nI (0))), (2, .ref (ad (4 * f + 5))), (3, .int (nI (20)))] dX0_vintagesHeld_9 (by decide) rfl ?_
  refine zr_iconst X (nI (0)) dX0_vintagesHeld_10 (by decide +kernel) ?_
  refine zr_istore X [1, 2, 3, 4, 0] [(0, .ref (ad (4 * f + 4))), (1, .int (nI (0))), (2, .ref (ad (4 * f + 5))), (3, .int (nI (20))), (4, .int (nI (0)))] dX0_vintagesHeld_11 (by decide) rfl ?_
  refine zr_for X (20) (fun q => μ) (fun q => [(0, .ref (ad (4 * f + 4))), (1, .int (nI (zcnt (fun v => μ (32 * f + v + 7)) (q)))), (2, .ref (ad (4 * f + 5))), (3, .int (nI (20))), (4, .int (nI (q)))]) [] (rfl) rfl ?_ ?_
  · refine zr_iload X 4 dX0_vintagesHeld_13 rfl ?_
    refine zr_iloadn X 3 dX0_vintagesHeld_15 rfl ?_
    refine zr_icmp_ge X 39 dX0_vintagesHeld_16 (by decide) (fun _ => ?_) (fun q => absurd (zq_le (by omega) (by omega)) q)
    refine zr_iloadn X 1 dX0_vintagesHeld_39 rfl ?_
    exact zr_iret X dX0_vintagesHeld_40 ⟨rfl, rfl⟩
  · intro q hq ih13
    refine zr_iload X 4 dX0_vintagesHeld_13 rfl ?_
    refine zr_iloadn X 3 dX0_vintagesHeld_15 rfl ?_
    refine zr_icmp_ge X 39 dX0_vintagesHeld_16 (by decide) (fun q => absurd q (nI_ge (by omega) (by omega))) (fun _ => ?_)
    refine zr_aloadn X 2 dX0_vintagesHeld_19 rfl ?_
    refine zr_iload X 4 dX0_vintagesHeld_20 rfl ?_
    refine zr_iald X (j := q) 0 (μ (32 * f + q + 7)) dX0_vintagesHeld_22 (by omega) (sc_held (j := 0) (i := f) (by omega) (by omega) (by have := cb_0; omega)) rfl rfl (by omega) (by omega) (zcg (b := 32 * f + q + 7) (by omega) (rfl)) ?_
    refine zr_istore X [1, 2, 3, 4, 5, 0] [(0, .ref (ad (4 * f + 4))), (1, .int (nI (zcnt (fun v => μ (32 * f + v + 7)) (q)))), (2, .ref (ad (4 * f + 5))), (3, .int (nI (20))), (4, .int (nI (q))), (5, .int (μ (32 * f + q + 7)))] dX0_vintagesHeld_23 (by decide) rfl ?_
    refine zr_iload X 5 dX0_vintagesHeld_25 rfl ?_
    refine zr_if_le X 33 dX0_vintagesHeld_27 (by decide) (fun h27 => ?_) (fun h27 => ?_)
    · refine zr_iinc X 4 (nI (q + 1)) [1, 2, 3, 4, 0, 5] [(0, .ref (ad (4 * f + 4))), (1, .int (nI (zcnt (fun v => μ (32 * f + v + 7)) (q)))), (2, .ref (ad (4 * f + 5))), (3, .int (nI (20))), (4, .int (nI (q + 1))), (5, .int (μ (32 * f + q + 7)))] dX0_vintagesHeld_33 rfl (zinc _) (by decide) rfl ?_
      refine zr_goto X 13 dX0_vintagesHeld_36 (by decide) ?_
      refine zr_drop X [0, 1, 2, 3, 4] [(0, .ref (ad (4 * f + 4))), (1, .int (nI (zcnt (fun v => μ (32 * f + v + 7)) (q)))), (2, .ref (ad (4 * f + 5))), (3, .int (nI (20))), (4, .int (nI (q + 1)))] rfl ?_
      exact zr_lv X (by simp only [zcnt, Nat.add_zero, if_pos h27]) ih13
    · refine zr_iinc X 1 (nI (zcnt (fun v => μ (32 * f + v + 7)) (q) + 1)) [1, 0, 2, 3, 4, 5] [(0, .ref (ad (4 * f + 4))), (1, .int (nI (zcnt (fun v => μ (32 * f + v + 7)) (q) + 1))), (2, .ref (ad (4 * f + 5))), (3, .int (nI (20))), (4, .int (nI (q))), (5, .int (μ (32 * f + q + 7)))] dX0_vintagesHeld_30 rfl (zinc _) (by decide) rfl ?_
      refine zr_iinc X 4 (nI (q + 1)) [1, 2, 3, 4, 0, 5] [(0, .ref (ad (4 * f + 4))), (1, .int (nI (zcnt (fun v => μ (32 * f + v + 7)) (q) + 1))), (2, .ref (ad (4 * f + 5))), (3, .int (nI (20))), (4, .int (nI (q + 1))), (5, .int (μ (32 * f + q + 7)))] dX0_vintagesHeld_33 rfl (zinc _) (by decide) rfl ?_
      refine zr_goto X 13 dX0_vintagesHeld_36 (by decide) ?_
      refine zr_drop X [0, 1, 2, 3, 4] [(0, .ref (ad (4 * f + 4))), (1, .int (nI (zcnt (fun v => μ (32 * f + v + 7)) (q) + 1))), (2, .ref (ad (4 * f + 5))), (3, .int (nI (20))), (4, .int (nI (q + 1)))] rfl ?_
      exact zr_lv X (by simp only [zcnt, Nat.add_zero, if_neg h27]) ih13

/-- the first place that holds any: nothing before it does -/
theorem zexO_none {g : Nat → Int32} : ∀ {n : Nat}, (∀ v, v < n → g v ≤ 0) → zexO g n = -5
  | 0, _ => rfl
  | n + 1, h => by
    simp only [zexO]
    rw [if_pos (h n (by omega))]
    exact zexO_none (fun v hv => h v (by omega))
theorem zexO_stay {g : Nat → Int32} {n : Nat} (hn : n < 2 ^ 31) (h : ∀ v, v < n → g v ≤ 0) (h1 : ¬ g n ≤ 0) : ∀ d, zexO g (n + 1 + d) = nI n
  | 0 => by simp only [zexO, Nat.add_zero]; rw [if_neg h1, zexO_none h, if_pos rfl]
  | d + 1 => by
    show zexO g (n + 1 + d + 1) = nI n
    simp only [zexO]
    rw [zexO_stay hn h h1 d]
    split
    · rfl
    · rw [if_neg]
      intro q
      have := nI_pos' hn
      rw [q] at this
      exact absurd this (by decide +kernel)
/-- the last place that holds any -/
theorem zexW_none {g : Nat → Int32} : ∀ {n : Nat}, (∀ v, v < n → g v ≤ 0) → zexW g n = -5
  | 0, _ => rfl
  | n + 1, h => by
    simp only [zexW]
    rw [if_pos (h n (by omega))]
    exact zexW_none (fun v hv => h v (by omega))
theorem zexW_is {g : Nat → Int32} {n : Nat} (h1 : ¬ g n ≤ 0) : ∀ d, (∀ v, n < v → v < n + 1 + d → g v ≤ 0) → zexW g (n + 1 + d) = nI n
  | 0, _ => by simp only [zexW, Nat.add_zero]; rw [if_neg h1]
  | d + 1, h => by
    show zexW g (n + 1 + d + 1) = nI n
    simp only [zexW]
    rw [if_pos (h _ (by omega) (by omega))]
    exact zexW_is h1 d (fun v a b => h v a (by omega))
theorem z_down {G : Nat → Prop} : ∀ n, G 0 → (∀ i, i < n → G i → G (i + 1)) → G n
  | 0, h, _ => h
  | n + 1, h, hs => hs n (by omega) (z_down n h (fun i hi => hs i (by omega)))
set_option maxHeartbeats 4000000 in
set_option maxRecDepth 100000 in
theorem d_oldestHeld {l : Launch} {D : va_G} {tc : Nat → ClassId} {ad : Nat → Nat} {A : Nat → Prop} {tF tL tM : Nat} (E : zN 299 A ad) (μ : Nat → Int32) {f : Nat} (hf : f < 8)  : zMi l yX0_oldestHeld cX0_oldestHeld 2 (some .int) (zrm 1) (zK A D tc tF tL tM) A D vwCl tc ad 299 shC [.ref (ad (4 * f + 4))] μ (fun r u => r = zexO (fun v => μ (32 * f + v + 7)) 20 ∧ u = μ) := by
  refine zM_of RX0 [(0, .ref (ad (4 * f + 4)))] (zK_ok A D tc tF tL tM) E.1 E.2 owC_ok (by decide +kernel) rfl (Nat.le_of_ble_eq_true rfl) rfl ?_
  intro pP eE sS mM aS bL mT cO X
  refine zr_iconst X (nI (0)) dX0_oldestHeld_0 (by decide +kernel) ?_
  refine zr_istoren X [1, 0] [(0, .ref (ad (4 * f + 4))), (1, .int (nI (0)))] dX0_oldestHeld_1 (by decide) rfl ?_
  refine zr_forH X (20) (fun q => ∀ v, v < q → (fun v => μ (32 * f + v + 7)) v ≤ 0) (fun q => μ) (fun q => [(0, .ref (ad (4 * f + 4))), (1, .int (nI (q)))]) [] (fun v hv => by omega) (rfl) (rfl) (fun hP2 => ?_) ?_
  · refine zr_iloadn X 1 dX0_oldestHeld_2 rfl ?_
    refine zr_bipush X (nI (20)) dX0_oldestHeld_3 (by decide +kernel) ?_
    refine zr_icmp_ge X 25 dX0_oldestHeld_5 (by decide) (fun _ => ?_) (fun q => absurd (zq_le (by omega) (by omega)) q)
    refine zr_bipush X (-5) dX0_oldestHeld_25 (by decide +kernel) ?_
    exact zr_iret X dX0_oldestHeld_27 ⟨(zexO_none hP2).symm, rfl⟩
  · intro q hq hP2 ih2
    refine zr_iloadn X 1 dX0_oldestHeld_2 rfl ?_
    refine zr_bipush X (nI (20)) dX0_oldestHeld_3 (by decide +kernel) ?_
    refine zr_icmp_ge X 25 dX0_oldestHeld_5 (by decide) (fun q => absurd q (nI_ge (by omega) (by omega))) (fun _ => ?_)
    refine zr_aloadn X 0 dX0_oldestHeld_8 rfl ?_
    refine zr_get X (ci := 0) (q := 0) (zR _) (.ref (ad (4 * f + 5))) dX0_oldestHeld_9 (by omega) (sc_firm (j := 0) (i := f) (by omega) (by omega) (by have := cb_0; omega)) rfl inX0 (by decide) rfl (zvR (by have := cb_0; omega)) rfl k_40 ?_
    refine zr_iloadn X 1 dX0_oldestHeld_12 rfl ?_
    refine zr_iald X (j := q) 0 (μ (32 * f + q + 7)) dX0_oldestHeld_13 (by omega) (sc_held (j := 0) (i := f) (by omega) (by omega) (by have := cb_0; omega)) rfl rfl (by omega) (by omega) (zcg (b := 32 * f + q + 7) (by omega) (rfl)) ?_
    refine zr_if_le X 19 dX0_oldestHeld_14 (by decide) (fun h14 => ?_) (fun h14 => ?_)
    · refine zr_iinc X 1 (nI (q + 1)) [1, 0] [(0, .ref (ad (4 * f + 4))), (1, .int (nI (q + 1)))] dX0_oldestHeld_19 rfl (zinc _) (by decide) rfl ?_
      refine zr_goto X 2 dX0_oldestHeld_22 (by decide) ?_
      exact ih2 (fun v hv => by rcases Nat.lt_succ_iff_lt_or_eq.mp hv with z | z; exact hP2 v z; subst z; exact h14)
    · refine zr_iloadn X 1 dX0_oldestHeld_17 rfl ?_
      exact zr_iret X dX0_oldestHeld_18 ⟨by have := zexO_stay (g := (fun v => μ (32 * f + v + 7))) (n := q) (by omega) hP2 h14 (20 - (q + 1)); rw [show q + 1 + (20 - (q + 1)) = 20 by omega] at this; exact this.symm, rfl⟩

set_option maxHeartbeats 4000000 in
set_option maxRecDepth 100000 in
theorem d_newestHeld {l : Launch} {D : va_G} {tc : Nat → ClassId} {ad : Nat → Nat} {A : Nat → Prop} {tF tL tM : Nat} (E : zN 299 A ad) (μ : Nat → Int32) {f : Nat} (hf : f < 8)  : zMi l yX0_newestHeld cX0_newestHeld 2 (some .int) (zrm 1) (zK A D tc tF tL tM) A D vwCl tc ad 299 shC [.ref (ad (4 * f + 4))] μ (fun r u => r = zexW (fun v => μ (32 * f + v + 7)) 20 ∧ u = μ) := by
  refine zM_of RX0 [(0, .ref (ad (4 * f + 4)))] (zK_ok A D tc tF tL tM) E.1 E.2 owC_ok (by decide +kernel) rfl (Nat.le_of_ble_eq_true rfl) rfl ?_
  intro pP eE sS mM aS bL mT cO X
  refine zr_bipush X (nI (19)) dX0_newestHeld_0 (by decide +kernel) ?_
  refine zr_istoren X [1, 0] [(0, .ref (ad (4 * f + 4))), (1, .int (nI (19)))] dX0_newestHeld_2 (by decide) rfl ?_
  refine zr_forH X (20) (fun q => ∀ v, 20 ≤ v + q → v < 20 → (fun v => μ (32 * f + v + 7)) v ≤ 0) (fun q => μ) (fun q => [(0, .ref (ad (4 * f + 4))), (1, .int (nI 19 - nI (q)))]) [] (fun v h1 h2 => by omega) (rfl) (by rw [pk_sub (by omega)]) (fun hP3 => ?_) ?_
  · refine zr_iloadn X 1 dX0_newestHeld_3 rfl ?_
    refine zr_if_lt X 24 dX0_newestHeld_4 (by decide) (fun _ => ?_) (fun q => absurd (zdn_neg (n := 19) (by omega)) q)
    refine zr_bipush X (-5) dX0_newestHeld_24 (by decide +kernel) ?_
    exact zr_iret X dX0_newestHeld_26 ⟨(zexW_none (fun v hv => hP3 v (by omega) hv)).symm, rfl⟩
  · intro q hq hP3 ih3
    obtain ⟨w, hw⟩ : ∃ w, w = 19 - q := ⟨_, rfl⟩
    refine zr_lv X (lv1 := [(0, .ref (ad (4 * f + 4))), (1, .int (nI (w)))]) (by rw [pk_sub (by omega), hw]) ?_
    refine zr_iloadn X 1 dX0_newestHeld_3 rfl ?_
    refine zr_if_lt X 24 dX0_newestHeld_4 (by decide) (fun q => absurd q (nI_pos (by omega))) (fun _ => ?_)
    refine zr_aloadn X 0 dX0_newestHeld_7 rfl ?_
    refine zr_get X (ci := 0) (q := 0) (zR _) (.ref (ad (4 * f + 5))) dX0_newestHeld_8 (by omega) (sc_firm (j := 0) (i := f) (by omega) (by omega) (by have := cb_0; omega)) rfl inX0 (by decide) rfl (zvR (by have := cb_0; omega)) rfl k_40 ?_
    refine zr_iloadn X 1 dX0_newestHeld_11 rfl ?_
    refine zr_iald X (j := w) 0 (μ (32 * f + w + 7)) dX0_newestHeld_12 (by omega) (sc_held (j := 0) (i := f) (by omega) (by omega) (by have := cb_0; omega)) rfl rfl (by omega) (by omega) (zcg (b := 32 * f + w + 7) (by omega) (rfl)) ?_
    refine zr_if_le X 18 dX0_newestHeld_13 (by decide) (fun h13 => ?_) (fun h13 => ?_)
    · refine zr_iinc X 1 (nI 19 - nI (q + 1)) [1, 0] [(0, .ref (ad (4 * f + 4))), (1, .int (nI 19 - nI (q + 1)))] dX0_newestHeld_18 rfl (by rw [hw]; exact zdn (by omega)) (by decide) rfl ?_
      refine zr_goto X 3 dX0_newestHeld_21 (by decide) ?_
      exact ih3 (fun v h1 h2 => (Nat.lt_or_ge v (w + 1)).elim (fun z => by have e : v = w := (by omega); subst e; exact h13) (fun z => hP3 v (by omega) h2))
    · refine zr_iloadn X 1 dX0_newestHeld_16 rfl ?_
      exact zr_iret X dX0_newestHeld_17 ⟨by have := zexW_is (g := (fun v => μ (32 * f + v + 7))) (n := w) h13 q (fun v a b => hP3 v (by omega) (by omega)); rw [show w + 1 + q = 20 by omega] at this; exact this.symm, rfl⟩

