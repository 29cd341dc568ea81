set_option maxHeartbeats 4000000 in
set_option maxRecDepth 100000 in
theorem c_monthsOf_a {l : Launch} {D : va_G} {tc : Nat → ClassId} {ad : Nat → Nat} {A : Nat → Prop} {tF tL tM : Nat} (E : zN 6 A ad) (μ : Nat → Int32) {m c k : Nat} (S : refS μ m c k) {v : Nat} (hv : v ≤ 19) {y : Nat} (hy : m / 12 = y) {b : Nat} (hb : μ 5 = nI b) (hb1 : 1 ≤ b) (hb5 : b ≤ 5) (h1 : v + b + 1 ≤ y) : zMi l yX6_monthsOf cX6_monthsOf 3 (some .int) (zrm 5) (zK A D tc tF tL tM) A D vwCl tc ad 6 shR [.ref (ad (0)), .int (nI (v))] μ (fun r u => r = zmo c (fun f => μ (32 * f + v + 7)) v b y m ∧ u = μ) := by
  refine zM_of RX6 [(0, .ref (ad (0))), (1, .int (nI (v)))] (zK_ok A D tc tF tL tM) E.1 E.2 owR_ok (by decide +kernel) rfl (Nat.le_of_ble_eq_true rfl) rfl ?_
  intro pP eE sS mM aS bL mT cO X
  obtain ⟨hm, hm2, hc, h8, hk, hk4⟩ := S
  refine zr_iloadn X 1 dX6_monthsOf_0 rfl ?_
  refine zr_aloadn X 0 dX6_monthsOf_1 rfl ?_
  refine zr_get X (ci := 6) (q := 0) (zR (1)) (.ref (ad (1))) dX6_monthsOf_2 (by omega) rfl rfl inX6 (by decide) rfl (rfl) rfl k_539 ?_
  refine zr_iconst X (nI (5)) dX6_monthsOf_5 (by decide +kernel) ?_
  refine zr_iald X (j := 5) 0 (nI (b)) dX6_monthsOf_6 (by omega) rfl rfl rfl (by omega) (by omega) (zcg (b := 5) (by omega) (hb)) ?_
  refine zr_iadd X (nI (b + v)) dX6_monthsOf_7 ((nI_add _ _).trans (congrArg nI (by omega))) ?_
  refine zr_iconst X (nI (1)) dX6_monthsOf_8 (by decide +kernel) ?_
  refine zr_iadd X (nI (b + v + 1)) dX6_monthsOf_9 (nI_add _ _) ?_
  refine zr_istoren X [1, 2, 0] [(0, .ref (ad (0))), (1, .int (nI (v))), (2, .int (nI (b + v + 1)))] dX6_monthsOf_10 (by decide) rfl ?_
  refine zr_iloadn X 2 dX6_monthsOf_11 rfl ?_
  refine zr_aloadn X 0 dX6_monthsOf_12 rfl ?_
  refine zr_dVi (C := RX6) (ci := 6) [] [.int (nI (b + v + 1))] X (zK_ok A D tc tF tL tM) (c_year E μ (hm) hm2 hy) k_618 k_620 kp_3 k_7 k_621 hdX6_year ⟨rfl, rfl⟩ ⟨Nat.le_of_ble_eq_true rfl, Nat.le_of_ble_eq_true rfl⟩ (by omega) rfl rfl rfl rfl (Nat.le_of_ble_eq_true rfl) dX6_monthsOf_13 ?_
  refine zr_icmp_le X 23 dX6_monthsOf_16 (by decide) (fun _ => ?_) (fun q => absurd (zq_le (by omega) (by omega)) q)
  refine zr_aloadn X 0 dX6_monthsOf_23 rfl ?_
  refine zr_dVi (C := RX6) (ci := 6) [] [] X (zK_ok A D tc tF tL tM) (c_year E μ (hm) hm2 hy) k_618 k_620 kp_3 k_7 k_621 hdX6_year ⟨rfl, rfl⟩ ⟨Nat.le_of_ble_eq_true rfl, Nat.le_of_ble_eq_true rfl⟩ (by omega) rfl rfl rfl rfl (Nat.le_of_ble_eq_true rfl) dX6_monthsOf_24 ?_
  refine zr_iconst X (nI (1)) dX6_monthsOf_27 (by decide +kernel) ?_
  refine zr_iadd X (nI (y + 1)) dX6_monthsOf_28 (nI_add _ _) ?_
  refine zr_istoren X [1, 2, 0] [(0, .ref (ad (0))), (1, .int (nI (v))), (2, .int (nI (y + 1)))] dX6_monthsOf_29 (by decide) rfl ?_
  refine zr_aloadn X 0 dX6_monthsOf_30 rfl ?_
  refine zr_iloadn X 1 dX6_monthsOf_31 rfl ?_
  refine zr_dVi (C := RX6) (ci := 6) [.int (nI (v))] [] X (zK_ok A D tc tF tL tM) (c_holders E μ (v := v) (hc) h8 (by omega)) k_763 k_765 kp_22 k_7 k_766 hdX6_holders ⟨rfl, rfl⟩ ⟨Nat.le_of_ble_eq_true rfl, Nat.le_of_ble_eq_true rfl⟩ (by omega) rfl rfl rfl rfl (Nat.le_of_ble_eq_true rfl) dX6_monthsOf_32 ?_
  refine zr_if_ne X 43 dX6_monthsOf_35 (by decide) (fun h35 => ?_) (fun h35 => ?_)
  · have h35 : ¬ zcnt (fun f => μ (32 * f + v + 7)) c = 0 := fun q => h35 (by rw [q]; rfl)
    refine zr_bipush X (nI (12)) dX6_monthsOf_43 (by decide +kernel) ?_
    refine zr_iloadn X 2 dX6_monthsOf_45 rfl ?_
    refine zr_imul X (nI (12 * y + 12)) dX6_monthsOf_46 ((pk_mul _ _).trans (congrArg nI (by omega))) ?_
    refine zr_aloadn X 0 dX6_monthsOf_47 rfl ?_
    refine zr_get X (ci := 6) (q := 0) (zR (1)) (.ref (ad (1))) dX6_monthsOf_48 (by omega) rfl rfl inX6 (by decide) rfl (rfl) rfl k_539 ?_
    refine zr_iconst X (nI (0)) dX6_monthsOf_51 (by decide +kernel) ?_
    refine zr_iald X (j := 0) 0 (nI (m)) dX6_monthsOf_52 (by omega) rfl rfl rfl (by omega) (by omega) (zcg (b := 0) (by omega) (hm)) ?_
    refine zr_isub X (nI (12 * y + 12) - nI (m)) dX6_monthsOf_53 rfl ?_
    exact zr_iret X dX6_monthsOf_54 ⟨by unfold zmo; rw [if_neg h35, if_pos h1]; exact congrArg (· - nI m) (congrArg nI (by omega)), rfl⟩
  · have h35 : zcnt (fun f => μ (32 * f + v + 7)) c = 0 := (nI_eq (by have := zcnt_le (fun f => μ (32 * f + v + 7)) c; omega) (by omega)).mp h35
    refine zr_bipush X (-5) dX6_monthsOf_38 (by decide +kernel) ?_
    refine zr_goto X 54 dX6_monthsOf_40 (by decide) ?_
    exact zr_iret X dX6_monthsOf_54 ⟨by unfold zmo; rw [if_pos h35], rfl⟩

set_option maxHeartbeats 4000000 in
set_option maxRecDepth 100000 in
theorem c_monthsOf_b {l : Launch} {D : va_G} {tc : Nat → ClassId} {ad : Nat → Nat} {A : Nat → Prop} {tF tL tM : Nat} (E : zN 6 A ad) (μ : Nat → Int32) {m c k : Nat} (S : refS μ m c k) {v : Nat} (hv : v ≤ 19) {y : Nat} (hy : m / 12 = y) {b : Nat} (hb : μ 5 = nI b) (hb1 : 1 ≤ b) (hb5 : b ≤ 5) (h1 : ¬ v + b + 1 ≤ y) : zMi l yX6_monthsOf cX6_monthsOf 3 (some .int) (zrm 5) (zK A D tc tF tL tM) A D vwCl tc ad 6 shR [.ref (ad (0)), .int (nI (v))] μ (fun r u => r = zmo c (fun f => μ (32 * f + v + 7)) v b y m ∧ u = μ) := by
  refine zM_of RX6 [(0, .ref (ad (0))), (1, .int (nI (v)))] (zK_ok A D tc tF tL tM) E.1 E.2 owR_ok (by decide +kernel) rfl (Nat.le_of_ble_eq_true rfl) rfl ?_
  intro pP eE sS mM aS bL mT cO X
  obtain ⟨hm, hm2, hc, h8, hk, hk4⟩ := S
  refine zr_iloadn X 1 dX6_monthsOf_0 rfl ?_
  refine zr_aloadn X 0 dX6_monthsOf_1 rfl ?_
  refine zr_get X (ci := 6) (q := 0) (zR (1)) (.ref (ad (1))) dX6_monthsOf_2 (by omega) rfl rfl inX6 (by decide) rfl (rfl) rfl k_539 ?_
  refine zr_iconst X (nI (5)) dX6_monthsOf_5 (by decide +kernel) ?_
  refine zr_iald X (j := 5) 0 (nI (b)) dX6_monthsOf_6 (by omega) rfl rfl rfl (by omega) (by omega) (zcg (b := 5) (by omega) (hb)) ?_
  refine zr_iadd X (nI (b + v)) dX6_monthsOf_7 ((nI_add _ _).trans (congrArg nI (by omega))) ?_
  refine zr_iconst X (nI (1)) dX6_monthsOf_8 (by decide +kernel) ?_
  refine zr_iadd X (nI (b + v + 1)) dX6_monthsOf_9 (nI_add _ _) ?_
  refine zr_istoren X [1, 2, 0] [(0, .ref (ad (0))), (1, .int (nI (v))), (2, .int (nI (b + v + 1)))] dX6_monthsOf_10 (by decide) rfl ?_
  refine zr_iloadn X 2 dX6_monthsOf_11 rfl ?_
  refine zr_aloadn X 0 dX6_monthsOf_12 rfl ?_
  refine zr_dVi (C := RX6) (ci := 6) [] [.int (nI (b + v + 1))] X (zK_ok A D tc tF tL tM) (c_year E μ (hm) hm2 hy) k_618 k_620 kp_3 k_7 k_621 hdX6_year ⟨rfl, rfl⟩ ⟨Nat.le_of_ble_eq_true rfl, Nat.le_of_ble_eq_true rfl⟩ (by omega) rfl rfl rfl rfl (Nat.le_of_ble_eq_true rfl) dX6_monthsOf_13 ?_
  refine zr_icmp_le X 23 dX6_monthsOf_16 (by decide) (fun q => absurd q (nI_ge (by omega) (by omega))) (fun _ => ?_)
  refine zr_iloadn X 2 dX6_monthsOf_19 rfl ?_
  refine zr_goto X 29 dX6_monthsOf_20 (by decide) ?_
  refine zr_istoren X [1, 2, 0] [(0, .ref (ad (0))), (1, .int (nI (v))), (2, .int (nI (b + v + 1)))] dX6_monthsOf_29 (by decide) rfl ?_
  refine zr_aloadn X 0 dX6_monthsOf_30 rfl ?_
  refine zr_iloadn X 1 dX6_monthsOf_31 rfl ?_
  refine zr_dVi (C := RX6) (ci := 6) [.int (nI (v))] [] X (zK_ok A D tc tF tL tM) (c_holders E μ (v := v) (hc) h8 (by omega)) k_763 k_765 kp_22 k_7 k_766 hdX6_holders ⟨rfl, rfl⟩ ⟨Nat.le_of_ble_eq_true rfl, Nat.le_of_ble_eq_true rfl⟩ (by omega) rfl rfl rfl rfl (Nat.le_of_ble_eq_true rfl) dX6_monthsOf_32 ?_
  refine zr_if_ne X 43 dX6_monthsOf_35 (by decide) (fun h35 => ?_) (fun h35 => ?_)
  · have h35 : ¬ zcnt (fun f => μ (32 * f + v + 7)) c = 0 := fun q => h35 (by rw [q]; rfl)
    refine zr_bipush X (nI (12)) dX6_monthsOf_43 (by decide +kernel) ?_
    refine zr_iloadn X 2 dX6_monthsOf_45 rfl ?_
    refine zr_imul X (nI (12 * b + 12 * v + 12)) dX6_monthsOf_46 ((pk_mul _ _).trans (congrArg nI (by omega))) ?_
    refine zr_aloadn X 0 dX6_monthsOf_47 rfl ?_
    refine zr_get X (ci := 6) (q := 0) (zR (1)) (.ref (ad (1))) dX6_monthsOf_48 (by omega) rfl rfl inX6 (by decide) rfl (rfl) rfl k_539 ?_
    refine zr_iconst X (nI (0)) dX6_monthsOf_51 (by decide +kernel) ?_
    refine zr_iald X (j := 0) 0 (nI (m)) dX6_monthsOf_52 (by omega) rfl rfl rfl (by omega) (by omega) (zcg (b := 0) (by omega) (hm)) ?_
    refine zr_isub X (nI (12 * b + 12 * v + 12) - nI (m)) dX6_monthsOf_53 rfl ?_
    exact zr_iret X dX6_monthsOf_54 ⟨by unfold zmo; rw [if_neg h35, if_neg h1]; exact congrArg (· - nI m) (congrArg nI (by omega)), rfl⟩
  · have h35 : zcnt (fun f => μ (32 * f + v + 7)) c = 0 := (nI_eq (by have := zcnt_le (fun f => μ (32 * f + v + 7)) c; omega) (by omega)).mp h35
    refine zr_bipush X (-5) dX6_monthsOf_38 (by decide +kernel) ?_
    refine zr_goto X 54 dX6_monthsOf_40 (by decide) ?_
    exact zr_iret X dX6_monthsOf_54 ⟨by unfold zmo; rw [if_pos h35], rfl⟩

theorem c_monthsOf {l : Launch} {D : va_G} {tc : Nat → ClassId} {ad : Nat → Nat} {A : Nat → Prop} {tF tL tM : Nat} (E : zN 6 A ad) (μ : Nat → Int32) {m c k : Nat} (S : refS μ m c k) {v : Nat} (hv : v ≤ 19) {y : Nat} (hy : m / 12 = y) {b : Nat} (hb : μ 5 = nI b) (hb1 : 1 ≤ b) (hb5 : b ≤ 5) : zMi l yX6_monthsOf cX6_monthsOf 3 (some .int) (zrm 5) (zK A D tc tF tL tM) A D vwCl tc ad 6 shR [.ref (ad (0)), .int (nI (v))] μ (fun r u => r = zmo c (fun f => μ (32 * f + v + 7)) v b y m ∧ u = μ) := by
  by_cases h : v + b + 1 ≤ y
  · exact c_monthsOf_a E μ S hv hy hb hb1 hb5 h
  · exact c_monthsOf_b E μ S hv hy hb hb1 hb5 h
set_option maxHeartbeats 4000000 in
set_option maxRecDepth 100000 in
theorem c_vintage_u {l : Launch} {D : va_G} {tc : Nat → ClassId} {ad : Nat → Nat} {A : Nat → Prop} {tF tL tM : Nat} (E : zN 6 A ad) (μ : Nat → Int32) {m c k : Nat} (S : refS μ m c k) {x : Int32} (hx : ¬ zin x 0 19) (z : Int32)  : zMi l yX6_vintage cX6_vintage 3 (some .int) (zrm 5) (zK A D tc tF tL tM) A D vwCl tc ad 6 shR [.ref (ad (0)), .int (x), .int (z)] μ (fun r u => r = -1 ∧ u = μ) := by
  refine zM_of RX6 [(0, .ref (ad (0))), (1, .int (x)), (2, .int (z))] (zK_ok A D tc tF tL tM) E.1 E.2 owR_ok (by decide +kernel) rfl (Nat.le_of_ble_eq_true rfl) rfl ?_
  intro pP eE sS mM aS bL mT cO X
  obtain ⟨hm, hm2, hc, h8, hk, hk4⟩ := S
  refine zr_iloadn X 1 dX6_vintage_0 rfl ?_
  refine zr_dSi [.int (x)] [] X (zK_ok A D tc tF tL tM) (c_isVintage_f E μ hx) k_633 k_634 k_7 k_635 hdX6_isVintage ⟨rfl, rfl⟩ ⟨Nat.le_of_ble_eq_true rfl, Nat.le_of_ble_eq_true rfl⟩ rfl rfl (Nat.le_of_ble_eq_true rfl) dX6_vintage_1 ?_
  refine zr_if_ne X 9 dX6_vintage_4 (by decide) (fun q => absurd (zq_eq0 (by omega)) q) (fun _ => ?_)
  refine zr_iconst X (-1) dX6_vintage_7 (by decide +kernel) ?_
  exact zr_iret X dX6_vintage_8 ⟨rfl, rfl⟩

set_option maxHeartbeats 4000000 in
set_option maxRecDepth 100000 in
theorem c_vintage_b {l : Launch} {D : va_G} {tc : Nat → ClassId} {ad : Nat → Nat} {A : Nat → Prop} {tF tL tM : Nat} (E : zN 6 A ad) (μ : Nat → Int32) {m c k : Nat} (S : refS μ m c k) {v : Nat} (hv : v ≤ 19) {z : Int32} (hx : ¬ zin z 0 6)  : zMi l yX6_vintage cX6_vintage 3 (some .int) (zrm 5) (zK A D tc tF tL tM) A D vwCl tc ad 6 shR [.ref (ad (0)), .int (nI (v)), .int (z)] μ (fun r u => r = -2 ∧ u = μ) := by
  refine zM_of RX6 [(0, .ref (ad (0))), (1, .int (nI (v))), (2, .int (z))] (zK_ok A D tc tF tL tM) E.1 E.2 owR_ok (by decide +kernel) rfl (Nat.le_of_ble_eq_true rfl) rfl ?_
  intro pP eE sS mM aS bL mT cO X
  obtain ⟨hm, hm2, hc, h8, hk, hk4⟩ := S
  refine zr_iloadn X 1 dX6_vintage_0 rfl ?_
  refine zr_dSi [.int (nI (v))] [] X (zK_ok A D tc tF tL tM) (c_isVintage_t E μ (by omega) (by omega)) k_633 k_634 k_7 k_635 hdX6_isVintage ⟨rfl, rfl⟩ ⟨Nat.le_of_ble_eq_true rfl, Nat.le_of_ble_eq_true rfl⟩ rfl rfl (Nat.le_of_ble_eq_true rfl) dX6_vintage_1 ?_
  refine zr_if_ne X 9 dX6_vintage_4 (by decide) (fun _ => ?_) (fun q => absurd q (nI_ne0 (by omega) (by omega)))
  refine zr_iloadn X 2 dX6_vintage_9 rfl ?_
  refine zr_tswO X 116 dX6_vintage_10 (zsw_out hx (by omega) rfl rfl) (by decide) ?_
  refine zr_bipush X (-2) dX6_vintage_116 (by decide +kernel) ?_
  exact zr_iret X dX6_vintage_118 ⟨rfl, rfl⟩

set_option maxHeartbeats 4000000 in
set_option maxRecDepth 100000 in
theorem c_vintage_0 {l : Launch} {D : va_G} {tc : Nat → ClassId} {ad : Nat → Nat} {A : Nat → Prop} {tF tL tM : Nat} (E : zN 6 A ad) (μ : Nat → Int32) {m c k : Nat} (S : refS μ m c k) {v : Nat} (hv : v ≤ 19)  : zMi l yX6_vintage cX6_vintage 3 (some .int) (zrm 6) (zK A D tc tF tL tM) A D vwCl tc ad 6 shR [.ref (ad (0)), .int (nI (v)), .int (nI (0))] μ (fun r u => r = μ (v + 263) ∧ u = μ) := by
  refine zM_of RX6 [(0, .ref (ad (0))), (1, .int (nI (v))), (2, .int (nI (0)))] (zK_ok A D tc tF tL tM) E.1 E.2 owR_ok (by decide +kernel) rfl (Nat.le_of_ble_eq_true rfl) rfl ?_
  intro pP eE sS mM aS bL mT cO X
  obtain ⟨hm, hm2, hc, h8, hk, hk4⟩ := S
  refine zr_iloadn X 1 dX6_vintage_0 rfl ?_
  refine zr_dSi [.int (nI (v))] [] X (zK_ok A D tc tF tL tM) (c_isVintage_t E μ (by omega) (by omega)) k_633 k_634 k_7 k_635 hdX6_isVintage ⟨rfl, rfl⟩ ⟨Nat.le_of_ble_eq_true rfl, Nat.le_of_ble_eq_true rfl⟩ rfl rfl (Nat.le_of_ble_eq_true rfl) dX6_vintage_1 ?_
  refine zr_if_ne X 9 dX6_vintage_4 (by decide) (fun _ => ?_) (fun q => absurd q (nI_ne0 (by omega) (by omega)))
  refine zr_iloadn X 2 dX6_vintage_9 rfl ?_
  refine zr_tswI (off := 42) X 52 dX6_vintage_10 ⟨by decide +kernel, by decide +kernel, by decide +kernel⟩ (by decide) ?_
  refine zr_aloadn X 0 dX6_vintage_52 rfl ?_
  refine zr_get X (ci := 6) (q := 0) (zR (1)) (.ref (ad (1))) dX6_vintage_53 (by omega) rfl rfl inX6 (by decide) rfl (rfl) rfl k_539 ?_
  refine zr_sipush X (nI (263)) dX6_vintage_56 (by decide +kernel) ?_
  refine zr_iloadn X 1 dX6_vintage_59 rfl ?_
  refine zr_iadd X (nI (v + 263)) dX6_vintage_60 ((nI_add _ _).trans (congrArg nI (by omega))) ?_
  refine zr_iald X (j := v + 263) 0 (μ (v + 263)) dX6_vintage_61 (by omega) rfl rfl rfl (by omega) (by omega) (zcg (b := v + 263) (by omega) (rfl)) ?_
  exact zr_iret X dX6_vintage_62 ⟨rfl, rfl⟩

set_option maxHeartbeats 4000000 in
set_option maxRecDepth 100000 in
theorem c_vintage_1 {l : Launch} {D : va_G} {tc : Nat → ClassId} {ad : Nat → Nat} {A : Nat → Prop} {tF tL tM : Nat} (E : zN 6 A ad) (μ : Nat → Int32) {m c k : Nat} (S : refS μ m c k) {v : Nat} (hv : v ≤ 19)  : zMi l yX6_vintage cX6_vintage 3 (some .int) (zrm 6) (zK A D tc tF tL tM) A D vwCl tc ad 6 shR [.ref (ad (0)), .int (nI (v)), .int (nI (1))] μ (fun r u => r = zsum (fun f => μ (32 * f + v + 7)) c ∧ u = μ) := by
  refine zM_of RX6 [(0, .ref (ad (0))), (1, .int (nI (v))), (2, .int (nI (1)))] (zK_ok A D tc tF tL tM) E.1 E.2 owR_ok (by decide +kernel) rfl (Nat.le_of_ble_eq_true rfl) rfl ?_
  intro pP eE sS mM aS bL mT cO X
  obtain ⟨hm, hm2, hc, h8, hk, hk4⟩ := S
  refine zr_iloadn X 1 dX6_vintage_0 rfl ?_
  refine zr_dSi [.int (nI (v))] [] X (zK_ok A D tc tF tL tM) (c_isVintage_t E μ (by omega) (by omega)) k_633 k_634 k_7 k_635 hdX6_isVintage ⟨rfl, rfl⟩ ⟨Nat.le_of_ble_eq_true rfl, Nat.le_of_ble_eq_true rfl⟩ rfl rfl (Nat.le_of_ble_eq_true rfl) dX6_vintage_1 ?_
  refine zr_if_ne X 9 dX6_vintage_4 (by decide) (fun _ => ?_) (fun q => absurd q (nI_ne0 (by omega) (by omega)))
  refine zr_iloadn X 2 dX6_vintage_9 rfl ?_
  refine zr_tswI (off := 53) X 63 dX6_vintage_10 ⟨by decide +kernel, by decide +kernel, by decide +kernel⟩ (by decide) ?_
  refine zr_aloadn X 0 dX6_vintage_63 rfl ?_
  refine zr_iconst X (nI (0)) dX6_vintage_64 (by decide +kernel) ?_
  refine zr_iloadn X 1 dX6_vintage_65 rfl ?_
  refine zr_iadd X (nI (v)) dX6_vintage_66 ((nI_add _ _).trans (congrArg nI (by omega))) ?_
  refine zr_dVi (C := RX6) (ci := 6) [.int (nI (v))] [] X (zK_ok A D tc tF tL tM) (zM_i (z1 := zsum (fun f => μ (32 * f + v + 7)) c) (c_heldOf E μ (w := v) (hc) h8 (by omega)) (by simp only [Nat.add_assoc, Nat.reduceAdd])) k_759 k_761 kp_21 k_7 k_762 hdX6_heldOf ⟨rfl, rfl⟩ ⟨Nat.le_of_ble_eq_true rfl, Nat.le_of_ble_eq_true rfl⟩ (by omega) rfl rfl rfl rfl (Nat.le_of_ble_eq_true rfl) dX6_vintage_67 ?_
  exact zr_iret X dX6_vintage_70 ⟨rfl, rfl⟩

set_option maxHeartbeats 4000000 in
set_option maxRecDepth 100000 in
theorem c_vintage_2 {l : Launch} {D : va_G} {tc : Nat → ClassId} {ad : Nat → Nat} {A : Nat → Prop} {tF tL tM : Nat} (E : zN 6 A ad) (μ : Nat → Int32) {m c k : Nat} (S : refS μ m c k) {v : Nat} (hv : v ≤ 19)  : zMi l yX6_vintage cX6_vintage 3 (some .int) (zrm 6) (zK A D tc tF tL tM) A D vwCl tc ad 6 shR [.ref (ad (0)), .int (nI (v)), .int (nI (2))] μ (fun r u => r = μ (v + 283) ∧ u = μ) := by
  refine zM_of RX6 [(0, .ref (ad (0))), (1, .int (nI (v))), (2, .int (nI (2)))] (zK_ok A D tc tF tL tM) E.1 E.2 owR_ok (by decide +kernel) rfl (Nat.le_of_ble_eq_true rfl) rfl ?_
  intro pP eE sS mM aS bL mT cO X
  obtain ⟨hm, hm2, hc, h8, hk, hk4⟩ := S
  refine zr_iloadn X 1 dX6_vintage_0 rfl ?_
  refine zr_dSi [.int (nI (v))] [] X (zK_ok A D tc tF tL tM) (c_isVintage_t E μ (by omega) (by omega)) k_633 k_634 k_7 k_635 hdX6_isVintage ⟨rfl, rfl⟩ ⟨Nat.le_of_ble_eq_true rfl, Nat.le_of_ble_eq_true rfl⟩ rfl rfl (Nat.le_of_ble_eq_true rfl) dX6_vintage_1 ?_
  refine zr_if_ne X 9 dX6_vintage_4 (by decide) (fun _ => ?_) (fun q => absurd q (nI_ne0 (by omega) (by omega)))
  refine zr_iloadn X 2 dX6_vintage_9 rfl ?_
  refine zr_tswI (off := 61) X 71 dX6_vintage_10 ⟨by decide +kernel, by decide +kernel, by decide +kernel⟩ (by decide) ?_
  refine zr_aloadn X 0 dX6_vintage_71 rfl ?_
  refine zr_get X (ci := 6) (q := 0) (zR (1)) (.ref (ad (1))) dX6_vintage_72 (by omega) rfl rfl inX6 (by decide) rfl (rfl) rfl k_539 ?_
  refine zr_sipush X (nI (283)) dX6_vintage_75 (by decide +kernel) ?_
  refine zr_iloadn X 1 dX6_vintage_78 rfl ?_
  refine zr_iadd X (nI (v + 283)) dX6_vintage_79 ((nI_add _ _).trans (congrArg nI (by omega))) ?_
  refine zr_iald X (j := v + 283) 0 (μ (v + 283)) dX6_vintage_80 (by omega) rfl rfl rfl (by omega) (by omega) (zcg (b := v + 283) (by omega) (rfl)) ?_
  exact zr_iret X dX6_vintage_81 ⟨rfl, rfl⟩

set_option maxHeartbeats 4000000 in
set_option maxRecDepth 100000 in
theorem c_vintage_3 {l : Launch} {D : va_G} {tc : Nat → ClassId} {ad : Nat → Nat} {A : Nat → Prop} {tF tL tM : Nat} (E : zN 6 A ad) (μ : Nat → Int32) {m c k : Nat} (S : refS μ m c k) {v : Nat} (hv : v ≤ 19)  : zMi l yX6_vintage cX6_vintage 3 (some .int) (zrm 6) (zK A D tc tF tL tM) A D vwCl tc ad 6 shR [.ref (ad (0)), .int (nI (v)), .int (nI (3))] μ (fun r u => r = μ (v + 303) ∧ u = μ) := by
  refine zM_of RX6 [(0, .ref (ad (0))), (1, .int (nI (v))), (2, .int (nI (3)))] (zK_ok A D tc tF tL tM) E.1 E.2 owR_ok (by decide +kernel) rfl (Nat.le_of_ble_eq_true rfl) rfl ?_
  intro pP eE sS mM aS bL mT cO X
  obtain ⟨hm, hm2, hc, h8, hk, hk4⟩ := S
  refine zr_iloadn X 1 dX6_vintage_0 rfl ?_
  refine zr_dSi [.int (nI (v))] [] X (zK_ok A D tc tF tL tM) (c_isVintage_t E μ (by omega) (by omega)) k_633 k_634 k_7 k_635 hdX6_isVintage ⟨rfl, rfl⟩ ⟨Nat.le_of_ble_eq_true rfl, Nat.le_of_ble_eq_true rfl⟩ rfl rfl (Nat.le_of_ble_eq_true rfl) dX6_vintage_1 ?_
  refine zr_if_ne X 9 dX6_vintage_4 (by decide) (fun _ => ?_) (fun q => absurd q (nI_ne0 (by omega) (by omega)))
  refine zr_iloadn X 2 dX6_vintage_9 rfl ?_
  refine zr_tswI (off := 72) X 82 dX6_vintage_10 ⟨by decide +kernel, by decide +kernel, by decide +kernel⟩ (by decide) ?_
  refine zr_aloadn X 0 dX6_vintage_82 rfl ?_
  refine zr_get X (ci := 6) (q := 0) (zR (1)) (.ref (ad (1))) dX6_vintage_83 (by omega) rfl rfl inX6 (by decide) rfl (rfl) rfl k_539 ?_
  refine zr_sipush X (nI (303)) dX6_vintage_86 (by decide +kernel) ?_
  refine zr_iloadn X 1 dX6_vintage_89 rfl ?_
  refine zr_iadd X (nI (v + 303)) dX6_vintage_90 ((nI_add _ _).trans (congrArg nI (by omega))) ?_
  refine zr_iald X (j := v + 303) 0 (μ (v + 303)) dX6_vintage_91 (by omega) rfl rfl rfl (by omega) (by omega) (zcg (b := v + 303) (by omega) (rfl)) ?_
  exact zr_iret X dX6_vintage_92 ⟨rfl, rfl⟩

set_option maxHeartbeats 4000000 in
set_option maxRecDepth 100000 in
theorem c_vintage_4 {l : Launch} {D : va_G} {tc : Nat → ClassId} {ad : Nat → Nat} {A : Nat → Prop} {tF tL tM : Nat} (E : zN 6 A ad) (μ : Nat → Int32) {m c k : Nat} (S : refS μ m c k) {v : Nat} (hv : v ≤ 19)  : zMi l yX6_vintage cX6_vintage 3 (some .int) (zrm 6) (zK A D tc tF tL tM) A D vwCl tc ad 6 shR [.ref (ad (0)), .int (nI (v)), .int (nI (4))] μ (fun r u => r = μ (v + 323) ∧ u = μ) := by
  refine zM_of RX6 [(0, .ref (ad (0))), (1, .int (nI (v))), (2, .int (nI (4)))] (zK_ok A D tc tF tL tM) E.1 E.2 owR_ok (by decide +kernel) rfl (Nat.le_of_ble_eq_true rfl) rfl ?_
  intro pP eE sS mM aS bL mT cO X
  obtain ⟨hm, hm2, hc, h8, hk, hk4⟩ := S
  refine zr_iloadn X 1 dX6_vintage_0 rfl ?_
  refine zr_dSi [.int (nI (v))] [] X (zK_ok A D tc tF tL tM) (c_isVintage_t E μ (by omega) (by omega)) k_633 k_634 k_7 k_635 hdX6_isVintage ⟨rfl, rfl⟩ ⟨Nat.le_of_ble_eq_true rfl, Nat.le_of_ble_eq_true rfl⟩ rfl rfl (Nat.le_of_ble_eq_true rfl) dX6_vintage_1 ?_
  refine zr_if_ne X 9 dX6_vintage_4 (by decide) (fun _ => ?_) (fun q => absurd q (nI_ne0 (by omega) (by omega)))
  refine zr_iloadn X 2 dX6_vintage_9 rfl ?_
  refine zr_tswI (off := 83) X 93 dX6_vintage_10 ⟨by decide +kernel, by decide +kernel, by decide +kernel⟩ (by decide) ?_
  refine zr_aloadn X 0 dX6_vintage_93 rfl ?_
  refine zr_get X (ci := 6) (q := 0) (zR (1)) (.ref (ad (1))) dX6_vintage_94 (by omega) rfl rfl inX6 (by decide) rfl (rfl) rfl k_539 ?_
  refine zr_sipush X (nI (323)) dX6_vintage_97 (by decide +kernel) ?_
  refine zr_iloadn X 1 dX6_vintage_100 rfl ?_
  refine zr_iadd X (nI (v + 323)) dX6_vintage_101 ((nI_add _ _).trans (congrArg nI (by omega))) ?_
  refine zr_iald X (j := v + 323) 0 (μ (v + 323)) dX6_vintage_102 (by omega) rfl rfl rfl (by omega) (by omega) (zcg (b := v + 323) (by omega) (rfl)) ?_
  exact zr_iret X dX6_vintage_103 ⟨rfl, rfl⟩

set_option maxHeartbeats 4000000 in
set_option maxRecDepth 100000 in
theorem c_vintage_5 {l : Launch} {D : va_G} {tc : Nat → ClassId} {ad : Nat → Nat} {A : Nat → Prop} {tF tL tM : Nat} (E : zN 6 A ad) (μ : Nat → Int32) {m c k : Nat} (S : refS μ m c k) {v : Nat} (hv : v ≤ 19)  : zMi l yX6_vintage cX6_vintage 3 (some .int) (zrm 6) (zK A D tc tF tL tM) A D vwCl tc ad 6 shR [.ref (ad (0)), .int (nI (v)), .int (nI (5))] μ (fun r u => r = nI (zcnt (fun f => μ (32 * f + v + 7)) c) ∧ u = μ) := by
  refine zM_of RX6 [(0, .ref (ad (0))), (1, .int (nI (v))), (2, .int (nI (5)))] (zK_ok A D tc tF tL tM) E.1 E.2 owR_ok (by decide +kernel) rfl (Nat.le_of_ble_eq_true rfl) rfl ?_
  intro pP eE sS mM aS bL mT cO X
  obtain ⟨hm, hm2, hc, h8, hk, hk4⟩ := S
  refine zr_iloadn X 1 dX6_vintage_0 rfl ?_
  refine zr_dSi [.int (nI (v))] [] X (zK_ok A D tc tF tL tM) (c_isVintage_t E μ (by omega) (by omega)) k_633 k_634 k_7 k_635 hdX6_isVintage ⟨rfl, rfl⟩ ⟨Nat.le_of_ble_eq_true rfl, Nat.le_of_ble_eq_true rfl⟩ rfl rfl (Nat.le_of_ble_eq_true rfl) dX6_vintage_1 ?_
  refine zr_if_ne X 9 dX6_vintage_4 (by decide) (fun _ => ?_) (fun q => absurd q (nI_ne0 (by omega) (by omega)))
  refine zr_iloadn X 2 dX6_vintage_9 rfl ?_
  refine zr_tswI (off := 94) X 104 dX6_vintage_10 ⟨by decide +kernel, by decide +kernel, by decide +kernel⟩ (by decide) ?_
  refine zr_aloadn X 0 dX6_vintage_104 rfl ?_
  refine zr_iloadn X 1 dX6_vintage_105 rfl ?_
  refine zr_dVi (C := RX6) (ci := 6) [.int (nI (v))] [] X (zK_ok A D tc tF tL tM) (c_holders E μ (v := v) (hc) h8 (by omega)) k_763 k_765 kp_22 k_7 k_766 hdX6_holders ⟨rfl, rfl⟩ ⟨Nat.le_of_ble_eq_true rfl, Nat.le_of_ble_eq_true rfl⟩ (by omega) rfl rfl rfl rfl (Nat.le_of_ble_eq_true rfl) dX6_vintage_106 ?_
  exact zr_iret X dX6_vintage_109 ⟨rfl, rfl⟩

set_option maxHeartbeats 4000000 in
set_option maxRecDepth 100000 in
theorem c_vintage_6 {l : Launch} {D : va_G} {tc : Nat → ClassId} {ad : Nat → Nat} {A : Nat → Prop} {tF tL tM : Nat} (E : zN 6 A ad) (μ : Nat → Int32) {m c k : Nat} (S : refS μ m c k) {v : Nat} (hv : v ≤ 19) {y : Nat} (hy : m / 12 = y) {b : Nat} (hb : μ 5 = nI b) (hb1 : 1 ≤ b) (hb5 : b ≤ 5)  : zMi l yX6_vintage cX6_vintage 3 (some .int) (zrm 6) (zK A D tc tF tL tM) A D vwCl tc ad 6 shR [.ref (ad (0)), .int (nI (v)), .int (nI (6))] μ (fun r u => r = zmo c (fun f => μ (32 * f + v + 7)) v b y m ∧ u = μ) := by
  refine zM_of RX6 [(0, .ref (ad (0))), (1, .int (nI (v))), (2, .int (nI (6)))] (zK_ok A D tc tF tL tM) E.1 E.2 owR_ok (by decide +kernel) rfl (Nat.le_of_ble_eq_true rfl) rfl ?_
  intro pP eE sS mM aS bL mT cO X
  obtain ⟨hm, hm2, hc, h8, hk, hk4⟩ := S
  refine zr_iloadn X 1 dX6_vintage_0 rfl ?_
  refine zr_dSi [.int (nI (v))] [] X (zK_ok A D tc tF tL tM) (c_isVintage_t E μ (by omega) (by omega)) k_633 k_634 k_7 k_635 hdX6_isVintage ⟨rfl, rfl⟩ ⟨Nat.le_of_ble_eq_true rfl, Nat.le_of_ble_eq_true rfl⟩ rfl rfl (Nat.le_of_ble_eq_true rfl) dX6_vintage_1 ?_
  refine zr_if_ne X 9 dX6_vintage_4 (by decide) (fun _ => ?_) (fun q => absurd q (nI_ne0 (by omega) (by omega)))
  refine zr_iloadn X 2 dX6_vintage_9 rfl ?_
  refine zr_tswI (off := 100) X 110 dX6_vintage_10 ⟨by decide +kernel, by decide +kernel, by decide +kernel⟩ (by decide) ?_
  refine zr_aloadn X 0 dX6_vintage_110 rfl ?_
  refine zr_iloadn X 1 dX6_vintage_111 rfl ?_
  refine zr_dVi (C := RX6) (ci := 6) [.int (nI (v))] [] X (zK_ok A D tc tF tL tM) (c_monthsOf E μ ⟨hm, hm2, hc, h8, hk, hk4⟩ (v := v) (by omega) hy hb hb1 hb5) k_767 k_769 kp_23 k_7 k_770 hdX6_monthsOf ⟨rfl, rfl⟩ ⟨Nat.le_of_ble_eq_true rfl, Nat.le_of_ble_eq_true rfl⟩ (by omega) rfl rfl rfl rfl (Nat.le_of_ble_eq_true rfl) dX6_vintage_112 ?_
  exact zr_iret X dX6_vintage_115 ⟨rfl, rfl⟩

set_option maxHeartbeats 4000000 in
set_option maxRecDepth 100000 in
theorem c_grade_u {l : Launch} {D : va_G} {tc : Nat → ClassId} {ad : Nat → Nat} {A : Nat → Prop} {tF tL tM : Nat} (E : zN 6 A ad) (μ : Nat → Int32) {m c k : Nat} (S : refS μ m c k) {x : Int32} (hx : ¬ zin x 0 2) (z : Int32)  : zMi l yX6_grade cX6_grade 3 (some .int) (zrm 5) (zK A D tc tF tL tM) A D vwCl tc ad 6 shR [.ref (ad (0)), .int (x), .int (z)] μ (fun r u => r = -1 ∧ u = μ) := by
  refine zM_of RX6 [(0, .ref (ad (0))), (1, .int (x)), (2, .int (z))] (zK_ok A D tc tF tL tM) E.1 E.2 owR_ok (by decide +kernel) rfl (Nat.le_of_ble_eq_true rfl) rfl ?_
  intro pP eE sS mM aS bL mT cO X
  obtain ⟨hm, hm2, hc, h8, hk, hk4⟩ := S
  refine zr_iloadn X 1 dX6_grade_0 rfl ?_
  refine zr_dSi [.int (x)] [] X (zK_ok A D tc tF tL tM) (c_isGrade_f E μ hx) k_626 k_627 k_7 k_628 hdX6_isGrade ⟨rfl, rfl⟩ ⟨Nat.le_of_ble_eq_true rfl, Nat.le_of_ble_eq_true rfl⟩ rfl rfl (Nat.le_of_ble_eq_true rfl) dX6_grade_1 ?_
  refine zr_if_ne X 9 dX6_grade_4 (by decide) (fun q => absurd (zq_eq0 (by omega)) q) (fun _ => ?_)
  refine zr_iconst X (-1) dX6_grade_7 (by decide +kernel) ?_
  exact zr_iret X dX6_grade_8 ⟨rfl, rfl⟩

set_option maxHeartbeats 4000000 in
set_option maxRecDepth 100000 in
theorem c_grade_b {l : Launch} {D : va_G} {tc : Nat → ClassId} {ad : Nat → Nat} {A : Nat → Prop} {tF tL tM : Nat} (E : zN 6 A ad) (μ : Nat → Int32) {m c k : Nat} (S : refS μ m c k) {g : Nat} (hg : g ≤ 2) {z : Int32} (hx : ¬ zin z 0 2)  : zMi l yX6_grade cX6_grade 3 (some .int) (zrm 5) (zK A D tc tF tL tM) A D vwCl tc ad 6 shR [.ref (ad (0)), .int (nI (g)), .int (z)] μ (fun r u => r = -2 ∧ u = μ) := by
  refine zM_of RX6 [(0, .ref (ad (0))), (1, .int (nI (g))), (2, .int (z))] (zK_ok A D tc tF tL tM) E.1 E.2 owR_ok (by decide +kernel) rfl (Nat.le_of_ble_eq_true rfl) rfl ?_
  intro pP eE sS mM aS bL mT cO X
  obtain ⟨hm, hm2, hc, h8, hk, hk4⟩ := S
  refine zr_iloadn X 1 dX6_grade_0 rfl ?_
  refine zr_dSi [.int (nI (g))] [] X (zK_ok A D tc tF tL tM) (c_isGrade_t E μ (by omega) (by omega)) k_626 k_627 k_7 k_628 hdX6_isGrade ⟨rfl, rfl⟩ ⟨Nat.le_of_ble_eq_true rfl, Nat.le_of_ble_eq_true rfl⟩ rfl rfl (Nat.le_of_ble_eq_true rfl) dX6_grade_1 ?_
  refine zr_if_ne X 9 dX6_grade_4 (by decide) (fun _ => ?_) (fun q => absurd q (nI_ne0 (by omega) (by omega)))
  refine zr_iloadn X 2 dX6_grade_9 rfl ?_
  refine zr_if_ne X 26 dX6_grade_10 (by decide) (fun _ => ?_) (fun q => absurd q (fun q => hx ⟨0, by omega, by omega, q⟩))
  refine zr_iloadn X 2 dX6_grade_26 rfl ?_
  refine zr_iconst X (nI (1)) dX6_grade_27 (by decide +kernel) ?_
  refine zr_icmp_ne X 42 dX6_grade_28 (by decide) (fun _ => ?_) (fun q => absurd q (fun q => hx ⟨1, by omega, by omega, q⟩))
  refine zr_iloadn X 2 dX6_grade_42 rfl ?_
  refine zr_iconst X (nI (2)) dX6_grade_43 (by decide +kernel) ?_
  refine zr_icmp_ne X 60 dX6_grade_44 (by decide) (fun _ => ?_) (fun q => absurd q (fun q => hx ⟨2, by omega, by omega, q⟩))
  refine zr_bipush X (-2) dX6_grade_60 (by decide +kernel) ?_
  exact zr_iret X dX6_grade_62 ⟨rfl, rfl⟩

set_option maxHeartbeats 4000000 in
set_option maxRecDepth 100000 in
theorem c_grade_0 {l : Launch} {D : va_G} {tc : Nat → ClassId} {ad : Nat → Nat} {A : Nat → Prop} {tF tL tM : Nat} (E : zN 6 A ad) (μ : Nat → Int32) {m c k : Nat} (S : refS μ m c k) {g : Nat} (hg : g ≤ 2)  : zMi l yX6_grade cX6_grade 3 (some .int) (zrm 5) (zK A D tc tF tL tM) A D vwCl tc ad 6 shR [.ref (ad (0)), .int (nI (g)), .int (nI (0))] μ (fun r u => r = μ (g + 343) ∧ u = μ) := by
  refine zM_of RX6 [(0, .ref (ad (0))), (1, .int (nI (g))), (2, .int (nI (0)))] (zK_ok A D tc tF tL tM) E.1 E.2 owR_ok (by decide +kernel) rfl (Nat.le_of_ble_eq_true rfl) rfl ?_
  intro pP eE sS mM aS bL mT cO X
  obtain ⟨hm, hm2, hc, h8, hk, hk4⟩ := S
  refine zr_iloadn X 1 dX6_grade_0 rfl ?_
  refine zr_dSi [.int (nI (g))] [] X (zK_ok A D tc tF tL tM) (c_isGrade_t E μ (by omega) (by omega)) k_626 k_627 k_7 k_628 hdX6_isGrade ⟨rfl, rfl⟩ ⟨Nat.le_of_ble_eq_true rfl, Nat.le_of_ble_eq_true rfl⟩ rfl rfl (Nat.le_of_ble_eq_true rfl) dX6_grade_1 ?_
  refine zr_if_ne X 9 dX6_grade_4 (by decide) (fun _ => ?_) (fun q => absurd q (nI_ne0 (by omega) (by omega)))
  refine zr_iloadn X 2 dX6_grade_9 rfl ?_
  refine zr_if_ne X 26 dX6_grade_10 (by decide) (fun q => absurd (zq_eq0 (by omega)) q) (fun _ => ?_)
  refine zr_aloadn X 0 dX6_grade_13 rfl ?_
  refine zr_get X (ci := 6) (q := 0) (zR (1)) (.ref (ad (1))) dX6_grade_14 (by omega) rfl rfl inX6 (by decide) rfl (rfl) rfl k_539 ?_
  refine zr_sipush X (nI (343)) dX6_grade_17 (by decide +kernel) ?_
  refine zr_iloadn X 1 dX6_grade_20 rfl ?_
  refine zr_iadd X (nI (g + 343)) dX6_grade_21 ((nI_add _ _).trans (congrArg nI (by omega))) ?_
  refine zr_iald X (j := g + 343) 0 (μ (g + 343)) dX6_grade_22 (by omega) rfl rfl rfl (by omega) (by omega) (zcg (b := g + 343) (by omega) (rfl)) ?_
  refine zr_goto X 62 dX6_grade_23 (by decide) ?_
  exact zr_iret X dX6_grade_62 ⟨rfl, rfl⟩

set_option maxHeartbeats 4000000 in
set_option maxRecDepth 100000 in
theorem c_grade_1 {l : Launch} {D : va_G} {tc : Nat → ClassId} {ad : Nat → Nat} {A : Nat → Prop} {tF tL tM : Nat} (E : zN 6 A ad) (μ : Nat → Int32) {m c k : Nat} (S : refS μ m c k) {g : Nat} (hg : g ≤ 2)  : zMi l yX6_grade cX6_grade 3 (some .int) (zrm 5) (zK A D tc tF tL tM) A D vwCl tc ad 6 shR [.ref (ad (0)), .int (nI (g)), .int (nI (1))] μ (fun r u => r = zsum (fun f => μ (32 * f + (g + 27))) c ∧ u = μ) := by
  refine zM_of RX6 [(0, .ref (ad (0))), (1, .int (nI (g))), (2, .int (nI (1)))] (zK_ok A D tc tF tL tM) E.1 E.2 owR_ok (by decide +kernel) rfl (Nat.le_of_ble_eq_true rfl) rfl ?_
  intro pP eE sS mM aS bL mT cO X
  obtain ⟨hm, hm2, hc, h8, hk, hk4⟩ := S
  refine zr_iloadn X 1 dX6_grade_0 rfl ?_
  refine zr_dSi [.int (nI (g))] [] X (zK_ok A D tc tF tL tM) (c_isGrade_t E μ (by omega) (by omega)) k_626 k_627 k_7 k_628 hdX6_isGrade ⟨rfl, rfl⟩ ⟨Nat.le_of_ble_eq_true rfl, Nat.le_of_ble_eq_true rfl⟩ rfl rfl (Nat.le_of_ble_eq_true rfl) dX6_grade_1 ?_
  refine zr_if_ne X 9 dX6_grade_4 (by decide) (fun _ => ?_) (fun q => absurd q (nI_ne0 (by omega) (by omega)))
  refine zr_iloadn X 2 dX6_grade_9 rfl ?_
  refine zr_if_ne X 26 dX6_grade_10 (by decide) (fun _ => ?_) (fun q => absurd q (nI_ne0 (by omega) (by omega)))
  refine zr_iloadn X 2 dX6_grade_26 rfl ?_
  refine zr_iconst X (nI (1)) dX6_grade_27 (by decide +kernel) ?_
  refine zr_icmp_ne X 42 dX6_grade_28 (by decide) (fun q => absurd (zq_eq (by omega)) q) (fun _ => ?_)
  refine zr_aloadn X 0 dX6_grade_31 rfl ?_
  refine zr_bipush X (nI (20)) dX6_grade_32 (by decide +kernel) ?_
  refine zr_iloadn X 1 dX6_grade_34 rfl ?_
  refine zr_iadd X (nI (g + 20)) dX6_grade_35 ((nI_add _ _).trans (congrArg nI (by omega))) ?_
  refine zr_dVi (C := RX6) (ci := 6) [.int (nI (g + 20))] [] X (zK_ok A D tc tF tL tM) (zM_i (z1 := zsum (fun f => μ (32 * f + g + 27)) c) (c_heldOf E μ (w := g + 20) (hc) h8 (by omega)) (by simp only [Nat.add_assoc, Nat.reduceAdd])) k_759 k_761 kp_21 k_7 k_762 hdX6_heldOf ⟨rfl, rfl⟩ ⟨Nat.le_of_ble_eq_true rfl, Nat.le_of_ble_eq_true rfl⟩ (by omega) rfl rfl rfl rfl (Nat.le_of_ble_eq_true rfl) dX6_grade_36 ?_
  refine zr_goto X 62 dX6_grade_39 (by decide) ?_
  exact zr_iret X dX6_grade_62 ⟨rfl, rfl⟩

set_option maxHeartbeats 4000000 in
set_option maxRecDepth 100000 in
theorem c_grade_2 {l : Launch} {D : va_G} {tc : Nat → ClassId} {ad : Nat → Nat} {A : Nat → Prop} {tF tL tM : Nat} (E : zN 6 A ad) (μ : Nat → Int32) {m c k : Nat} (S : refS μ m c k) {g : Nat} (hg : g ≤ 2)  : zMi l yX6_grade cX6_grade 3 (some .int) (zrm 5) (zK A D tc tF tL tM) A D vwCl tc ad 6 shR [.ref (ad (0)), .int (nI (g)), .int (nI (2))] μ (fun r u => r = μ (g + 346) ∧ u = μ) := by
  refine zM_of RX6 [(0, .ref (ad (0))), (1, .int (nI (g))), (2, .int (nI (2)))] (zK_ok A D tc tF tL tM) E.1 E.2 owR_ok (by decide +kernel) rfl (Nat.le_of_ble_eq_true rfl) rfl ?_
  intro pP eE sS mM aS bL mT cO X
  obtain ⟨hm, hm2, hc, h8, hk, hk4⟩ := S
  refine zr_iloadn X 1 dX6_grade_0 rfl ?_
  refine zr_dSi [.int (nI (g))] [] X (zK_ok A D tc tF tL tM) (c_isGrade_t E μ (by omega) (by omega)) k_626 k_627 k_7 k_628 hdX6_isGrade ⟨rfl, rfl⟩ ⟨Nat.le_of_ble_eq_true rfl, Nat.le_of_ble_eq_true rfl⟩ rfl rfl (Nat.le_of_ble_eq_true rfl) dX6_grade_1 ?_
  refine zr_if_ne X 9 dX6_grade_4 (by decide) (fun _ => ?_) (fun q => absurd q (nI_ne0 (by omega) (by omega)))
  refine zr_iloadn X 2 dX6_grade_9 rfl ?_
  refine zr_if_ne X 26 dX6_grade_10 (by decide) (fun _ => ?_) (fun q => absurd q (nI_ne0 (by omega) (by omega)))
  refine zr_iloadn X 2 dX6_grade_26 rfl ?_
  refine zr_iconst X (nI (1)) dX6_grade_27 (by decide +kernel) ?_
  refine zr_icmp_ne X 42 dX6_grade_28 (by decide) (fun _ => ?_) (fun q => absurd q (zq_ne (by omega) (by omega) (by omega)))
  refine zr_iloadn X 2 dX6_grade_42 rfl ?_
  refine zr_iconst X (nI (2)) dX6_grade_43 (by decide +kernel) ?_
  refine zr_icmp_ne X 60 dX6_grade_44 (by decide) (fun q => absurd (zq_eq (by omega)) q) (fun _ => ?_)
  refine zr_aloadn X 0 dX6_grade_47 rfl ?_
  refine zr_get X (ci := 6) (q := 0) (zR (1)) (.ref (ad (1))) dX6_grade_48 (by omega) rfl rfl inX6 (by decide) rfl (rfl) rfl k_539 ?_
  refine zr_sipush X (nI (346)) dX6_grade_51 (by decide +kernel) ?_
  refine zr_iloadn X 1 dX6_grade_54 rfl ?_
  refine zr_iadd X (nI (g + 346)) dX6_grade_55 ((nI_add _ _).trans (congrArg nI (by omega))) ?_
  refine zr_iald X (j := g + 346) 0 (μ (g + 346)) dX6_grade_56 (by omega) rfl rfl rfl (by omega) (by omega) (zcg (b := g + 346) (by omega) (rfl)) ?_
  refine zr_goto X 62 dX6_grade_57 (by decide) ?_
  exact zr_iret X dX6_grade_62 ⟨rfl, rfl⟩

