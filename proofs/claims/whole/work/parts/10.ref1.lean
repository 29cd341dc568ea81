/-! the reference's small methods -/
def zin (x : Int32) (a b : Nat) : Prop := ∃ j, a ≤ j ∧ j ≤ b ∧ x = nI j
theorem zin_of {x : Int32} {a b : Nat} (hb : b < 2 ^ 31) (h1 : nI a ≤ x) (h2 : x ≤ nI b) (ha : a < 2 ^ 31) : zin x a b := by
  rw [Int32.le_iff_toInt_le, nI_toInt ha] at h1
  rw [Int32.le_iff_toInt_le, nI_toInt hb] at h2
  refine ⟨x.toInt.toNat, by omega, by omega, ?_⟩
  apply Int32.toInt_inj.mp
  rw [nI_toInt (by omega)]
  omega
def zfm (x : Int32) (c : Nat) : Prop := ∃ f, f < c ∧ x = nI f
theorem zfm_f {x : Int32} {c : Nat} (hc : c ≤ 8) (h : ¬ zfm x c) : ¬ (nI 0 ≤ x ∧ x ≤ nI c - nI 1) := by
  rintro ⟨h1, h2⟩
  apply h
  rw [Int32.le_iff_toInt_le, nI_toInt (by omega)] at h1
  rw [Int32.le_iff_toInt_le, pk_sub_toInt (by omega) (by omega)] at h2
  refine ⟨x.toInt.toNat, by omega, ?_⟩
  apply Int32.toInt_inj.mp
  rw [nI_toInt (by omega)]
  omega
set_option maxHeartbeats 4000000 in
set_option maxRecDepth 100000 in
theorem c_of {l : Launch} {D : va_G} {tc : Nat → ClassId} {ad : Nat → Nat} {A : Nat → Prop} {tF tL tM : Nat} (E : zN 6 A ad) (μ : Nat → Int32) (f k : Nat) : zMi l yX6_of cX6_of 2 (some .int) (zrm 1) (zK A D tc tF tL tM) A D vwCl tc ad 6 shR [.int (nI (f)), .int (nI (k))] μ (fun r u => r = nI (32 * f + k + 7) ∧ u = μ) := by
  refine zM_of RX6 [(0, .int (nI (f))), (1, .int (nI (k)))] (zK_ok A D tc tF tL tM) E.1 E.2 owR_ok (by decide +kernel) rfl (Nat.le_of_ble_eq_true rfl) rfl ?_
  intro pP eE sS mM aS bL mT cO X
  refine zr_bipush X (nI (7)) dX6_of_0 (by decide +kernel) ?_
  refine zr_bipush X (nI (32)) dX6_of_2 (by decide +kernel) ?_
  refine zr_iloadn X 0 dX6_of_4 rfl ?_
  refine zr_imul X (nI (32 * f)) dX6_of_5 ((pk_mul _ _).trans (congrArg nI (by omega))) ?_
  refine zr_iadd X (nI (32 * f + 7)) dX6_of_6 ((nI_add _ _).trans (congrArg nI (by omega))) ?_
  refine zr_iloadn X 1 dX6_of_7 rfl ?_
  refine zr_iadd X (nI (32 * f + k + 7)) dX6_of_8 ((nI_add _ _).trans (congrArg nI (by omega))) ?_
  exact zr_iret X dX6_of_9 ⟨rfl, rfl⟩

set_option maxHeartbeats 4000000 in
set_option maxRecDepth 100000 in
theorem c_in_t {l : Launch} {D : va_G} {tc : Nat → ClassId} {ad : Nat → Nat} {A : Nat → Prop} {tF tL tM : Nat} (E : zN 6 A ad) (μ : Nat → Int32) {v a b : Int32} (h1 : a ≤ v) (h2 : v ≤ b) : zMi l yX6_in cX6_in 3 (some .boolean) (zrm 1) (zK A D tc tF tL tM) A D vwCl tc ad 6 shR [.int (v), .int (a), .int (b)] μ (fun r u => r = nI 1 ∧ u = μ) := by
  refine zM_of RX6 [(0, .int (v)), (1, .int (a)), (2, .int (b))] (zK_ok A D tc tF tL tM) E.1 E.2 owR_ok (by decide +kernel) rfl (Nat.le_of_ble_eq_true rfl) rfl ?_
  intro pP eE sS mM aS bL mT cO X
  refine zr_iloadn X 0 dX6_in_0 rfl ?_
  refine zr_iloadn X 1 dX6_in_1 rfl ?_
  refine zr_icmp_lt X 14 dX6_in_2 (by decide) (fun q => absurd q (Int32.not_lt.mpr h1)) (fun _ => ?_)
  refine zr_iloadn X 0 dX6_in_5 rfl ?_
  refine zr_iloadn X 2 dX6_in_6 rfl ?_
  refine zr_icmp_gt X 14 dX6_in_7 (by decide) (fun q => absurd q (Int32.not_lt.mpr h2)) (fun _ => ?_)
  refine zr_iconst X (nI (1)) dX6_in_10 (by decide +kernel) ?_
  refine zr_goto X 15 dX6_in_11 (by decide) ?_
  exact zr_zret X dX6_in_15 rfl ⟨rfl, rfl⟩

set_option maxHeartbeats 4000000 in
set_option maxRecDepth 100000 in
theorem c_in_f {l : Launch} {D : va_G} {tc : Nat → ClassId} {ad : Nat → Nat} {A : Nat → Prop} {tF tL tM : Nat} (E : zN 6 A ad) (μ : Nat → Int32) {v a b : Int32} (h : ¬ (a ≤ v ∧ v ≤ b)) : zMi l yX6_in cX6_in 3 (some .boolean) (zrm 1) (zK A D tc tF tL tM) A D vwCl tc ad 6 shR [.int (v), .int (a), .int (b)] μ (fun r u => r = nI 0 ∧ u = μ) := by
  refine zM_of RX6 [(0, .int (v)), (1, .int (a)), (2, .int (b))] (zK_ok A D tc tF tL tM) E.1 E.2 owR_ok (by decide +kernel) rfl (Nat.le_of_ble_eq_true rfl) rfl ?_
  intro pP eE sS mM aS bL mT cO X
  refine zr_iloadn X 0 dX6_in_0 rfl ?_
  refine zr_iloadn X 1 dX6_in_1 rfl ?_
  refine zr_icmp_lt X 14 dX6_in_2 (by decide) (fun h2 => ?_) (fun h2 => ?_)
  · refine zr_iconst X (nI (0)) dX6_in_14 (by decide +kernel) ?_
    exact zr_zret X dX6_in_15 rfl ⟨rfl, rfl⟩
  · refine zr_iloadn X 0 dX6_in_5 rfl ?_
    refine zr_iloadn X 2 dX6_in_6 rfl ?_
    refine zr_icmp_gt X 14 dX6_in_7 (by decide) (fun _ => ?_) (fun q => absurd (Int32.not_le.mp (fun q => h ⟨Int32.not_lt.mp h2, q⟩)) q)
    refine zr_iconst X (nI (0)) dX6_in_14 (by decide +kernel) ?_
    exact zr_zret X dX6_in_15 rfl ⟨rfl, rfl⟩

set_option maxHeartbeats 4000000 in
set_option maxRecDepth 100000 in
theorem c_isVintage_t {l : Launch} {D : va_G} {tc : Nat → ClassId} {ad : Nat → Nat} {A : Nat → Prop} {tF tL tM : Nat} (E : zN 6 A ad) (μ : Nat → Int32) {v : Nat} (h1 : 0 ≤ v) (h2 : v ≤ 19) : zMi l yX6_isVintage cX6_isVintage 1 (some .boolean) (zrm 2) (zK A D tc tF tL tM) A D vwCl tc ad 6 shR [.int (nI (v))] μ (fun r u => r = nI 1 ∧ u = μ) := by
  refine zM_of RX6 [(0, .int (nI (v)))] (zK_ok A D tc tF tL tM) E.1 E.2 owR_ok (by decide +kernel) rfl (Nat.le_of_ble_eq_true rfl) rfl ?_
  intro pP eE sS mM aS bL mT cO X
  refine zr_iloadn X 0 dX6_isVintage_0 rfl ?_
  refine zr_iconst X (nI (0)) dX6_isVintage_1 (by decide +kernel) ?_
  refine zr_bipush X (nI (19)) dX6_isVintage_2 (by decide +kernel) ?_
  refine zr_dSi [.int (nI (v)), .int (nI (0)), .int (nI (19))] [] X (zK_ok A D tc tF tL tM) (c_in_t E μ (zq_le (by omega) (by omega)) (zq_le (by omega) (by omega))) k_604 k_605 k_7 k_606 hdX6_in ⟨rfl, rfl⟩ ⟨Nat.le_of_ble_eq_true rfl, Nat.le_of_ble_eq_true rfl⟩ rfl rfl (Nat.le_of_ble_eq_true rfl) dX6_isVintage_4 ?_
  exact zr_zret X dX6_isVintage_7 rfl ⟨rfl, rfl⟩

set_option maxHeartbeats 4000000 in
set_option maxRecDepth 100000 in
theorem c_isVintage_f {l : Launch} {D : va_G} {tc : Nat → ClassId} {ad : Nat → Nat} {A : Nat → Prop} {tF tL tM : Nat} (E : zN 6 A ad) (μ : Nat → Int32) {v : Int32} (h : ¬ zin v 0 19) : zMi l yX6_isVintage cX6_isVintage 1 (some .boolean) (zrm 2) (zK A D tc tF tL tM) A D vwCl tc ad 6 shR [.int (v)] μ (fun r u => r = nI 0 ∧ u = μ) := by
  refine zM_of RX6 [(0, .int (v))] (zK_ok A D tc tF tL tM) E.1 E.2 owR_ok (by decide +kernel) rfl (Nat.le_of_ble_eq_true rfl) rfl ?_
  intro pP eE sS mM aS bL mT cO X
  refine zr_iloadn X 0 dX6_isVintage_0 rfl ?_
  refine zr_iconst X (nI (0)) dX6_isVintage_1 (by decide +kernel) ?_
  refine zr_bipush X (nI (19)) dX6_isVintage_2 (by decide +kernel) ?_
  refine zr_dSi [.int (v), .int (nI (0)), .int (nI (19))] [] X (zK_ok A D tc tF tL tM) (c_in_f E μ (fun q => h (zin_of (by omega) q.1 q.2 (by omega)))) k_604 k_605 k_7 k_606 hdX6_in ⟨rfl, rfl⟩ ⟨Nat.le_of_ble_eq_true rfl, Nat.le_of_ble_eq_true rfl⟩ rfl rfl (Nat.le_of_ble_eq_true rfl) dX6_isVintage_4 ?_
  exact zr_zret X dX6_isVintage_7 rfl ⟨rfl, rfl⟩

set_option maxHeartbeats 4000000 in
set_option maxRecDepth 100000 in
theorem c_isGrade_t {l : Launch} {D : va_G} {tc : Nat → ClassId} {ad : Nat → Nat} {A : Nat → Prop} {tF tL tM : Nat} (E : zN 6 A ad) (μ : Nat → Int32) {v : Nat} (h1 : 0 ≤ v) (h2 : v ≤ 2) : zMi l yX6_isGrade cX6_isGrade 1 (some .boolean) (zrm 2) (zK A D tc tF tL tM) A D vwCl tc ad 6 shR [.int (nI (v))] μ (fun r u => r = nI 1 ∧ u = μ) := by
  refine zM_of RX6 [(0, .int (nI (v)))] (zK_ok A D tc tF tL tM) E.1 E.2 owR_ok (by decide +kernel) rfl (Nat.le_of_ble_eq_true rfl) rfl ?_
  intro pP eE sS mM aS bL mT cO X
  refine zr_iloadn X 0 dX6_isGrade_0 rfl ?_
  refine zr_iconst X (nI (0)) dX6_isGrade_1 (by decide +kernel) ?_
  refine zr_iconst X (nI (2)) dX6_isGrade_2 (by decide +kernel) ?_
  refine zr_dSi [.int (nI (v)), .int (nI (0)), .int (nI (2))] [] X (zK_ok A D tc tF tL tM) (c_in_t E μ (zq_le (by omega) (by omega)) (zq_le (by omega) (by omega))) k_604 k_605 k_7 k_606 hdX6_in ⟨rfl, rfl⟩ ⟨Nat.le_of_ble_eq_true rfl, Nat.le_of_ble_eq_true rfl⟩ rfl rfl (Nat.le_of_ble_eq_true rfl) dX6_isGrade_3 ?_
  exact zr_zret X dX6_isGrade_6 rfl ⟨rfl, rfl⟩

set_option maxHeartbeats 4000000 in
set_option maxRecDepth 100000 in
theorem c_isGrade_f {l : Launch} {D : va_G} {tc : Nat → ClassId} {ad : Nat → Nat} {A : Nat → Prop} {tF tL tM : Nat} (E : zN 6 A ad) (μ : Nat → Int32) {v : Int32} (h : ¬ zin v 0 2) : zMi l yX6_isGrade cX6_isGrade 1 (some .boolean) (zrm 2) (zK A D tc tF tL tM) A D vwCl tc ad 6 shR [.int (v)] μ (fun r u => r = nI 0 ∧ u = μ) := by
  refine zM_of RX6 [(0, .int (v))] (zK_ok A D tc tF tL tM) E.1 E.2 owR_ok (by decide +kernel) rfl (Nat.le_of_ble_eq_true rfl) rfl ?_
  intro pP eE sS mM aS bL mT cO X
  refine zr_iloadn X 0 dX6_isGrade_0 rfl ?_
  refine zr_iconst X (nI (0)) dX6_isGrade_1 (by decide +kernel) ?_
  refine zr_iconst X (nI (2)) dX6_isGrade_2 (by decide +kernel) ?_
  refine zr_dSi [.int (v), .int (nI (0)), .int (nI (2))] [] X (zK_ok A D tc tF tL tM) (c_in_f E μ (fun q => h (zin_of (by omega) q.1 q.2 (by omega)))) k_604 k_605 k_7 k_606 hdX6_in ⟨rfl, rfl⟩ ⟨Nat.le_of_ble_eq_true rfl, Nat.le_of_ble_eq_true rfl⟩ rfl rfl (Nat.le_of_ble_eq_true rfl) dX6_isGrade_3 ?_
  exact zr_zret X dX6_isGrade_6 rfl ⟨rfl, rfl⟩

set_option maxHeartbeats 4000000 in
set_option maxRecDepth 100000 in
theorem c_isTonnes_t {l : Launch} {D : va_G} {tc : Nat → ClassId} {ad : Nat → Nat} {A : Nat → Prop} {tF tL tM : Nat} (E : zN 6 A ad) (μ : Nat → Int32) {v : Nat} (h1 : 1 ≤ v) (h2 : v ≤ 9999) : zMi l yX6_isTonnes cX6_isTonnes 1 (some .boolean) (zrm 2) (zK A D tc tF tL tM) A D vwCl tc ad 6 shR [.int (nI (v))] μ (fun r u => r = nI 1 ∧ u = μ) := by
  refine zM_of RX6 [(0, .int (nI (v)))] (zK_ok A D tc tF tL tM) E.1 E.2 owR_ok (by decide +kernel) rfl (Nat.le_of_ble_eq_true rfl) rfl ?_
  intro pP eE sS mM aS bL mT cO X
  refine zr_iloadn X 0 dX6_isTonnes_0 rfl ?_
  refine zr_iconst X (nI (1)) dX6_isTonnes_1 (by decide +kernel) ?_
  refine zr_sipush X (nI (9999)) dX6_isTonnes_2 (by decide +kernel) ?_
  refine zr_dSi [.int (nI (v)), .int (nI (1)), .int (nI (9999))] [] X (zK_ok A D tc tF tL tM) (c_in_t E μ (zq_le (by omega) (by omega)) (zq_le (by omega) (by omega))) k_604 k_605 k_7 k_606 hdX6_in ⟨rfl, rfl⟩ ⟨Nat.le_of_ble_eq_true rfl, Nat.le_of_ble_eq_true rfl⟩ rfl rfl (Nat.le_of_ble_eq_true rfl) dX6_isTonnes_5 ?_
  exact zr_zret X dX6_isTonnes_8 rfl ⟨rfl, rfl⟩

set_option maxHeartbeats 4000000 in
set_option maxRecDepth 100000 in
theorem c_isTonnes_f {l : Launch} {D : va_G} {tc : Nat → ClassId} {ad : Nat → Nat} {A : Nat → Prop} {tF tL tM : Nat} (E : zN 6 A ad) (μ : Nat → Int32) {v : Int32} (h : ¬ zin v 1 9999) : zMi l yX6_isTonnes cX6_isTonnes 1 (some .boolean) (zrm 2) (zK A D tc tF tL tM) A D vwCl tc ad 6 shR [.int (v)] μ (fun r u => r = nI 0 ∧ u = μ) := by
  refine zM_of RX6 [(0, .int (v))] (zK_ok A D tc tF tL tM) E.1 E.2 owR_ok (by decide +kernel) rfl (Nat.le_of_ble_eq_true rfl) rfl ?_
  intro pP eE sS mM aS bL mT cO X
  refine zr_iloadn X 0 dX6_isTonnes_0 rfl ?_
  refine zr_iconst X (nI (1)) dX6_isTonnes_1 (by decide +kernel) ?_
  refine zr_sipush X (nI (9999)) dX6_isTonnes_2 (by decide +kernel) ?_
  refine zr_dSi [.int (v), .int (nI (1)), .int (nI (9999))] [] X (zK_ok A D tc tF tL tM) (c_in_f E μ (fun q => h (zin_of (by omega) q.1 q.2 (by omega)))) k_604 k_605 k_7 k_606 hdX6_in ⟨rfl, rfl⟩ ⟨Nat.le_of_ble_eq_true rfl, Nat.le_of_ble_eq_true rfl⟩ rfl rfl (Nat.le_of_ble_eq_true rfl) dX6_isTonnes_5 ?_
  exact zr_zret X dX6_isTonnes_8 rfl ⟨rfl, rfl⟩

set_option maxHeartbeats 4000000 in
set_option maxRecDepth 100000 in
theorem c_isFirm_t {l : Launch} {D : va_G} {tc : Nat → ClassId} {ad : Nat → Nat} {A : Nat → Prop} {tF tL tM : Nat} (E : zN 6 A ad) (μ : Nat → Int32) {f c : Nat} (hc : μ 1 = nI c) (h8 : c ≤ 8) (h : f < c) : zMi l yX6_isFirm cX6_isFirm 2 (some .boolean) (zrm 2) (zK A D tc tF tL tM) A D vwCl tc ad 6 shR [.ref (ad (0)), .int (nI (f))] μ (fun r u => r = nI 1 ∧ u = μ) := by
  refine zM_of RX6 [(0, .ref (ad (0))), (1, .int (nI (f)))] (zK_ok A D tc tF tL tM) E.1 E.2 owR_ok (by decide +kernel) rfl (Nat.le_of_ble_eq_true rfl) rfl ?_
  intro pP eE sS mM aS bL mT cO X
  refine zr_iloadn X 1 dX6_isFirm_0 rfl ?_
  refine zr_iconst X (nI (0)) dX6_isFirm_1 (by decide +kernel) ?_
  refine zr_aloadn X 0 dX6_isFirm_2 rfl ?_
  refine zr_get X (ci := 6) (q := 0) (zR _) (.ref (ad (1))) dX6_isFirm_3 (by omega) rfl rfl inX6 (by decide) rfl (zvR rfl) rfl k_539 ?_
  refine zr_iconst X (nI (1)) dX6_isFirm_6 (by decide +kernel) ?_
  refine zr_iald X (j := 1) 0 (nI (c)) dX6_isFirm_7 (by omega) rfl rfl rfl (by omega) (by omega) (zcg (b := 1) (by omega) (hc)) ?_
  refine zr_iconst X (nI (1)) dX6_isFirm_8 (by decide +kernel) ?_
  refine zr_isub X (nI (c - 1)) dX6_isFirm_9 ((pk_sub (by omega)).trans (congrArg nI (by omega))) ?_
  refine zr_dSi [.int (nI (f)), .int (nI (0)), .int (nI (c - 1))] [] X (zK_ok A D tc tF tL tM) (c_in_t E μ (zq_le (by omega) (by omega)) (zq_le (by omega) (by omega))) k_604 k_605 k_7 k_606 hdX6_in ⟨rfl, rfl⟩ ⟨Nat.le_of_ble_eq_true rfl, Nat.le_of_ble_eq_true rfl⟩ rfl rfl (Nat.le_of_ble_eq_true rfl) dX6_isFirm_10 ?_
  exact zr_zret X dX6_isFirm_13 rfl ⟨rfl, rfl⟩

set_option maxHeartbeats 4000000 in
set_option maxRecDepth 100000 in
theorem c_isFirm_f {l : Launch} {D : va_G} {tc : Nat → ClassId} {ad : Nat → Nat} {A : Nat → Prop} {tF tL tM : Nat} (E : zN 6 A ad) (μ : Nat → Int32) {x : Int32} {c : Nat} (hc : μ 1 = nI c) (h8 : c ≤ 8) (h : ¬ zfm x c) : zMi l yX6_isFirm cX6_isFirm 2 (some .boolean) (zrm 2) (zK A D tc tF tL tM) A D vwCl tc ad 6 shR [.ref (ad (0)), .int (x)] μ (fun r u => r = nI 0 ∧ u = μ) := by
  refine zM_of RX6 [(0, .ref (ad (0))), (1, .int (x))] (zK_ok A D tc tF tL tM) E.1 E.2 owR_ok (by decide +kernel) rfl (Nat.le_of_ble_eq_true rfl) rfl ?_
  intro pP eE sS mM aS bL mT cO X
  refine zr_iloadn X 1 dX6_isFirm_0 rfl ?_
  refine zr_iconst X (nI (0)) dX6_isFirm_1 (by decide +kernel) ?_
  refine zr_aloadn X 0 dX6_isFirm_2 rfl ?_
  refine zr_get X (ci := 6) (q := 0) (zR _) (.ref (ad (1))) dX6_isFirm_3 (by omega) rfl rfl inX6 (by decide) rfl (zvR rfl) rfl k_539 ?_
  refine zr_iconst X (nI (1)) dX6_isFirm_6 (by decide +kernel) ?_
  refine zr_iald X (j := 1) 0 (nI (c)) dX6_isFirm_7 (by omega) rfl rfl rfl (by omega) (by omega) (zcg (b := 1) (by omega) (hc)) ?_
  refine zr_iconst X (nI (1)) dX6_isFirm_8 (by decide +kernel) ?_
  refine zr_isub X (nI (c) - nI (1)) dX6_isFirm_9 rfl ?_
  refine zr_dSi [.int (x), .int (nI (0)), .int (nI (c) - nI (1))] [] X (zK_ok A D tc tF tL tM) (c_in_f E μ (zfm_f h8 h)) k_604 k_605 k_7 k_606 hdX6_in ⟨rfl, rfl⟩ ⟨Nat.le_of_ble_eq_true rfl, Nat.le_of_ble_eq_true rfl⟩ rfl rfl (Nat.le_of_ble_eq_true rfl) dX6_isFirm_10 ?_
  exact zr_zret X dX6_isFirm_13 rfl ⟨rfl, rfl⟩

set_option maxHeartbeats 4000000 in
set_option maxRecDepth 100000 in
theorem c_copy {l : Launch} {D : va_G} {tc : Nat → ClassId} {ad : Nat → Nat} {A : Nat → Prop} {tF tL tM : Nat} (E : zN 6 A ad) (μ : Nat → Int32) {a b : Nat} (hab : a + 349 ≤ b ∨ b + 349 ≤ a) (ha : a + 349 ≤ 2443) (hb : b + 349 ≤ 2443) : zMv l yX6_copy cX6_copy 4 (zrm 1) (zK A D tc tF tL tM) A D vwCl tc ad 6 shR [.ref (ad (0)), .int (nI (a)), .int (nI (b))] μ (fun u => u = cp μ a b) := by
  refine zM_of RX6 [(0, .ref (ad (0))), (1, .int (nI (a))), (2, .int (nI (b)))] (zK_ok A D tc tF tL tM) E.1 E.2 owR_ok (by decide +kernel) rfl (Nat.le_of_ble_eq_true rfl) rfl ?_
  intro pP eE sS mM aS bL mT cO X
  refine zr_iconst X (nI (0)) dX6_copy_0 (by decide +kernel) ?_
  refine zr_istoren X [1, 2, 3, 0] [(0, .ref (ad (0))), (1, .int (nI (a))), (2, .int (nI (b))), (3, .int (nI (0)))] dX6_copy_1 (by decide) rfl ?_
  refine zr_for X (349) (fun i => (cpn μ (a) (b) (i))) (fun i => [(0, .ref (ad (0))), (1, .int (nI (a))), (2, .int (nI (b))), (3, .int (nI (i)))]) [] (cpn_0 _ _ _) rfl ?_ ?_
  · refine zr_iloadn X 3 dX6_copy_2 rfl ?_
    refine zr_sipush X (nI (349)) dX6_copy_3 (by decide +kernel) ?_
    refine zr_icmp_ge X 31 dX6_copy_6 (by decide) (fun _ => ?_) (fun q => absurd (zq_le (by omega) (by omega)) q)
    exact zr_vret X dX6_copy_31 rfl
  · intro i hi ih2
    refine zr_iloadn X 3 dX6_copy_2 rfl ?_
    refine zr_sipush X (nI (349)) dX6_copy_3 (by decide +kernel) ?_
    refine zr_icmp_ge X 31 dX6_copy_6 (by decide) (fun q => absurd q (nI_ge (by omega) (by omega))) (fun _ => ?_)
    refine zr_aloadn X 0 dX6_copy_9 rfl ?_
    refine zr_get X (ci := 6) (q := 0) (zR _) (.ref (ad (1))) dX6_copy_10 (by omega) rfl rfl inX6 (by decide) rfl (zvR rfl) rfl k_539 ?_
    refine zr_iloadn X 2 dX6_copy_13 rfl ?_
    refine zr_iloadn X 3 dX6_copy_14 rfl ?_
    refine zr_iadd X (nI (b + i)) dX6_copy_15 (nI_add _ _) ?_
    refine zr_aloadn X 0 dX6_copy_16 rfl ?_
    refine zr_get X (ci := 6) (q := 0) (zR _) (.ref (ad (1))) dX6_copy_17 (by omega) rfl rfl inX6 (by decide) rfl (zvR rfl) rfl k_539 ?_
    refine zr_iloadn X 1 dX6_copy_20 rfl ?_
    refine zr_iloadn X 3 dX6_copy_21 rfl ?_
    refine zr_iadd X (nI (a + i)) dX6_copy_22 (nI_add _ _) ?_
    refine zr_iald X (j := a + i) 0 (μ (a + i)) dX6_copy_23 (by omega) rfl rfl rfl (by omega) (by omega) (zcg (b := a + i) (by omega) (cpn_out (by omega))) ?_
    refine zr_iast X (j := b + i) 0 (b + i) dX6_copy_24 (by omega) rfl rfl rfl (by omega) (by omega) (by omega) ?_
    refine zr_iinc X 3 (nI (i + 1)) [1, 2, 3, 0] [(0, .ref (ad (0))), (1, .int (nI (a))), (2, .int (nI (b))), (3, .int (nI (i + 1)))] dX6_copy_25 rfl (zinc _) (by decide) rfl ?_
    refine zr_goto X 2 dX6_copy_28 (by decide) ?_
    exact zr_mem X cpn_step ih2

set_option maxHeartbeats 4000000 in
set_option maxRecDepth 100000 in
theorem c_record_a {l : Launch} {D : va_G} {tc : Nat → ClassId} {ad : Nat → Nat} {A : Nat → Prop} {tF tL tM : Nat} (E : zN 6 A ad) (μ : Nat → Int32) {b k : Nat} (hk : μ 2444 = nI k) (h4 : k < 4) (hb : b = 0 ∨ b = 2094) : zMv l yX6_record cX6_record 3 (zrm 2) (zK A D tc tF tL tM) A D vwCl tc ad 6 shR [.ref (ad (0)), .int (nI (b))] μ (fun u => u = zrecA μ b k) := by
  refine zM_of RX6 [(0, .ref (ad (0))), (1, .int (nI (b)))] (zK_ok A D tc tF tL tM) E.1 E.2 owR_ok (by decide +kernel) rfl (Nat.le_of_ble_eq_true rfl) rfl ?_
  intro pP eE sS mM aS bL mT cO X
  refine zr_aloadn X 0 dX6_record_0 rfl ?_
  refine zr_get X (ci := 6) (q := 1) zI (.int (nI (k))) dX6_record_1 (by omega) rfl rfl inX6 (by decide) rfl (congrArg Value.int (hk)) rfl k_540 ?_
  refine zr_iconst X (nI (4)) dX6_record_4 (by decide +kernel) ?_
  refine zr_icmp_ne X 49 dX6_record_5 (by decide) (fun _ => ?_) (fun q => absurd q (zq_ne (by omega) (by omega) (by omega)))
  refine zr_aloadn X 0 dX6_record_49 rfl ?_
  refine zr_iloadn X 1 dX6_record_50 rfl ?_
  refine zr_sipush X (nI (349)) dX6_record_51 (by decide +kernel) ?_
  refine zr_sipush X (nI (349)) dX6_record_54 (by decide +kernel) ?_
  refine zr_aloadn X 0 dX6_record_57 rfl ?_
  refine zr_get X (ci := 6) (q := 1) zI (.int (nI (k))) dX6_record_58 (by omega) rfl rfl inX6 (by decide) rfl (congrArg Value.int (hk)) rfl k_540 ?_
  refine zr_imul X (nI (349 * k)) dX6_record_61 ((pk_mul _ _).trans (congrArg nI (by omega))) ?_
  refine zr_iadd X (nI (349 * k + 349)) dX6_record_62 ((nI_add _ _).trans (congrArg nI (by omega))) ?_
  refine zr_dVv (C := RX6) (ci := 6) [.int (nI (b)), .int (nI (349 * k + 349))] [] X (zK_ok A D tc tF tL tM) (c_copy E μ (by omega) (by omega) (by omega)) k_577 k_579 kp_0 k_7 k_580 hdX6_copy ⟨rfl, rfl⟩ ⟨Nat.le_of_ble_eq_true rfl, Nat.le_of_ble_eq_true rfl⟩ (by omega) rfl rfl rfl rfl (Nat.le_of_ble_eq_true rfl) dX6_record_63 ?_
  refine zr_aloadn X 0 dX6_record_66 rfl ?_
  refine zr_dup X dX6_record_67 rfl ?_
  refine zr_get X (ci := 6) (q := 1) zI (.int (nI (k))) dX6_record_68 (by omega) rfl rfl inX6 (by decide) rfl (congrArg Value.int ((cp_out (by omega)).trans (hk))) rfl k_540 ?_
  refine zr_iconst X (nI (1)) dX6_record_71 (by decide +kernel) ?_
  refine zr_iadd X (nI (k + 1)) dX6_record_72 (nI_add _ _) ?_
  refine zr_put X (ci := 6) (q := 1) (ty0 := tyX6) (ty := .int) (2444) dX6_record_73 (by omega) rfl rfl inX6 tyX6_ok nmX6 (by decide) rfl rfl rfl rfl rfl rfl k_540 (by omega) ?_
  exact zr_vret X dX6_record_76 rfl

set_option maxHeartbeats 4000000 in
set_option maxRecDepth 100000 in
theorem c_record_b {l : Launch} {D : va_G} {tc : Nat → ClassId} {ad : Nat → Nat} {A : Nat → Prop} {tF tL tM : Nat} (E : zN 6 A ad) (μ : Nat → Int32) {b : Nat} (hk : μ 2444 = nI 4) (hb : b = 0 ∨ b = 2094) : zMv l yX6_record cX6_record 3 (zrm 2) (zK A D tc tF tL tM) A D vwCl tc ad 6 shR [.ref (ad (0)), .int (nI (b))] μ (fun u => u = zrecB μ b) := by
  refine zM_of RX6 [(0, .ref (ad (0))), (1, .int (nI (b)))] (zK_ok A D tc tF tL tM) E.1 E.2 owR_ok (by decide +kernel) rfl (Nat.le_of_ble_eq_true rfl) rfl ?_
  intro pP eE sS mM aS bL mT cO X
  refine zr_aloadn X 0 dX6_record_0 rfl ?_
  refine zr_get X (ci := 6) (q := 1) zI (.int (nI (4))) dX6_record_1 (by omega) rfl rfl inX6 (by decide) rfl (congrArg Value.int (hk)) rfl k_540 ?_
  refine zr_iconst X (nI (4)) dX6_record_4 (by decide +kernel) ?_
  refine zr_icmp_ne X 49 dX6_record_5 (by decide) (fun q => absurd (zq_eq (by omega)) q) (fun _ => ?_)
  refine zr_iconst X (nI (1)) dX6_record_8 (by decide +kernel) ?_
  refine zr_istoren X [1, 2, 0] [(0, .ref (ad (0))), (1, .int (nI (b))), (2, .int (nI (1)))] dX6_record_9 (by decide) rfl ?_
  refine zr_iloadn X 2 dX6_record_10 rfl ?_
  refine zr_iconst X (nI (4)) dX6_record_11 (by decide +kernel) ?_
  refine zr_icmp_ge X 39 dX6_record_12 (by decide) (fun q => absurd q (nI_ge (by omega) (by omega))) (fun _ => ?_)
  refine zr_aloadn X 0 dX6_record_15 rfl ?_
  refine zr_sipush X (nI (349)) dX6_record_16 (by decide +kernel) ?_
  refine zr_sipush X (nI (349)) dX6_record_19 (by decide +kernel) ?_
  refine zr_iloadn X 2 dX6_record_22 rfl ?_
  refine zr_imul X (nI (349)) dX6_record_23 ((pk_mul _ _).trans (congrArg nI (by omega))) ?_
  refine zr_iadd X (nI (698)) dX6_record_24 ((nI_add _ _).trans (congrArg nI (by omega))) ?_
  refine zr_sipush X (nI (349)) dX6_record_25 (by decide +kernel) ?_
  refine zr_iloadn X 2 dX6_record_28 rfl ?_
  refine zr_imul X (nI (349)) dX6_record_29 ((pk_mul _ _).trans (congrArg nI (by omega))) ?_
  refine zr_dVv (C := RX6) (ci := 6) [.int (nI (698)), .int (nI (349))] [] X (zK_ok A D tc tF tL tM) (c_copy E μ (by omega) (by omega) (by omega)) k_577 k_579 kp_0 k_7 k_580 hdX6_copy ⟨rfl, rfl⟩ ⟨Nat.le_of_ble_eq_true rfl, Nat.le_of_ble_eq_true rfl⟩ (by omega) rfl rfl rfl rfl (Nat.le_of_ble_eq_true rfl) dX6_record_30 ?_
  refine zr_iinc X 2 (nI (2)) [1, 2, 0] [(0, .ref (ad (0))), (1, .int (nI (b))), (2, .int (nI (2)))] dX6_record_33 rfl (zinc _) (by decide) rfl ?_
  refine zr_goto X 10 dX6_record_36 (by decide) ?_
  refine zr_iloadn X 2 dX6_record_10 rfl ?_
  refine zr_iconst X (nI (4)) dX6_record_11 (by decide +kernel) ?_
  refine zr_icmp_ge X 39 dX6_record_12 (by decide) (fun q => absurd q (nI_ge (by omega) (by omega))) (fun _ => ?_)
  refine zr_aloadn X 0 dX6_record_15 rfl ?_
  refine zr_sipush X (nI (349)) dX6_record_16 (by decide +kernel) ?_
  refine zr_sipush X (nI (349)) dX6_record_19 (by decide +kernel) ?_
  refine zr_iloadn X 2 dX6_record_22 rfl ?_
  refine zr_imul X (nI (698)) dX6_record_23 ((pk_mul _ _).trans (congrArg nI (by omega))) ?_
  refine zr_iadd X (nI (1047)) dX6_record_24 ((nI_add _ _).trans (congrArg nI (by omega))) ?_
  refine zr_sipush X (nI (349)) dX6_record_25 (by decide +kernel) ?_
  refine zr_iloadn X 2 dX6_record_28 rfl ?_
  refine zr_imul X (nI (698)) dX6_record_29 ((pk_mul _ _).trans (congrArg nI (by omega))) ?_
  refine zr_dVv (C := RX6) (ci := 6) [.int (nI (1047)), .int (nI (698))] [] X (zK_ok A D tc tF tL tM) (c_copy E (cp μ (698) (349)) (by omega) (by omega) (by omega)) k_577 k_579 kp_0 k_7 k_580 hdX6_copy ⟨rfl, rfl⟩ ⟨Nat.le_of_ble_eq_true rfl, Nat.le_of_ble_eq_true rfl⟩ (by omega) rfl rfl rfl rfl (Nat.le_of_ble_eq_true rfl) dX6_record_30 ?_
  refine zr_iinc X 2 (nI (3)) [1, 2, 0] [(0, .ref (ad (0))), (1, .int (nI (b))), (2, .int (nI (3)))] dX6_record_33 rfl (zinc _) (by decide) rfl ?_
  refine zr_goto X 10 dX6_record_36 (by decide) ?_
  refine zr_iloadn X 2 dX6_record_10 rfl ?_
  refine zr_iconst X (nI (4)) dX6_record_11 (by decide +kernel) ?_
  refine zr_icmp_ge X 39 dX6_record_12 (by decide) (fun q => absurd q (nI_ge (by omega) (by omega))) (fun _ => ?_)
  refine zr_aloadn X 0 dX6_record_15 rfl ?_
  refine zr_sipush X (nI (349)) dX6_record_16 (by decide +kernel) ?_
  refine zr_sipush X (nI (349)) dX6_record_19 (by decide +kernel) ?_
  refine zr_iloadn X 2 dX6_record_22 rfl ?_
  refine zr_imul X (nI (1047)) dX6_record_23 ((pk_mul _ _).trans (congrArg nI (by omega))) ?_
  refine zr_iadd X (nI (1396)) dX6_record_24 ((nI_add _ _).trans (congrArg nI (by omega))) ?_
  refine zr_sipush X (nI (349)) dX6_record_25 (by decide +kernel) ?_
  refine zr_iloadn X 2 dX6_record_28 rfl ?_
  refine zr_imul X (nI (1047)) dX6_record_29 ((pk_mul _ _).trans (congrArg nI (by omega))) ?_
  refine zr_dVv (C := RX6) (ci := 6) [.int (nI (1396)), .int (nI (1047))] [] X (zK_ok A D tc tF tL tM) (c_copy E (cp (cp μ (698) (349)) (1047) (698)) (by omega) (by omega) (by omega)) k_577 k_579 kp_0 k_7 k_580 hdX6_copy ⟨rfl, rfl⟩ ⟨Nat.le_of_ble_eq_true rfl, Nat.le_of_ble_eq_true rfl⟩ (by omega) rfl rfl rfl rfl (Nat.le_of_ble_eq_true rfl) dX6_record_30 ?_
  refine zr_iinc X 2 (nI (4)) [1, 2, 0] [(0, .ref (ad (0))), (1, .int (nI (b))), (2, .int (nI (4)))] dX6_record_33 rfl (zinc _) (by decide) rfl ?_
  refine zr_goto X 10 dX6_record_36 (by decide) ?_
  refine zr_iloadn X 2 dX6_record_10 rfl ?_
  refine zr_iconst X (nI (4)) dX6_record_11 (by decide +kernel) ?_
  refine zr_icmp_ge X 39 dX6_record_12 (by decide) (fun _ => ?_) (fun q => absurd (zq_le (by omega) (by omega)) q)
  refine zr_aloadn X 0 dX6_record_39 rfl ?_
  refine zr_dup X dX6_record_40 rfl ?_
  refine zr_get X (ci := 6) (q := 1) zI (.int (nI (4))) dX6_record_41 (by omega) rfl rfl inX6 (by decide) rfl (congrArg Value.int ((cp_out (by omega)).trans ((cp_out (by omega)).trans ((cp_out (by omega)).trans (hk))))) rfl k_540 ?_
  refine zr_iconst X (nI (1)) dX6_record_44 (by decide +kernel) ?_
  refine zr_isub X (nI (3)) dX6_record_45 ((pk_sub (by omega)).trans (congrArg nI (by omega))) ?_
  refine zr_put X (ci := 6) (q := 1) (ty0 := tyX6) (ty := .int) (2444) dX6_record_46 (by omega) rfl rfl inX6 tyX6_ok nmX6 (by decide) rfl rfl rfl rfl rfl rfl k_540 (by omega) ?_
  refine zr_aloadn X 0 dX6_record_49 rfl ?_
  refine zr_iloadn X 1 dX6_record_50 rfl ?_
  refine zr_sipush X (nI (349)) dX6_record_51 (by decide +kernel) ?_
  refine zr_sipush X (nI (349)) dX6_record_54 (by decide +kernel) ?_
  refine zr_aloadn X 0 dX6_record_57 rfl ?_
  refine zr_get X (ci := 6) (q := 1) zI (.int (nI (3))) dX6_record_58 (by omega) rfl rfl inX6 (by decide) rfl (congrArg Value.int (pk_us)) rfl k_540 ?_
  refine zr_imul X (nI (1047)) dX6_record_61 ((pk_mul _ _).trans (congrArg nI (by omega))) ?_
  refine zr_iadd X (nI (1396)) dX6_record_62 ((nI_add _ _).trans (congrArg nI (by omega))) ?_
  refine zr_dVv (C := RX6) (ci := 6) [.int (nI (b)), .int (nI (1396))] [] X (zK_ok A D tc tF tL tM) (c_copy E (upd (cp (cp (cp μ (698) (349)) (1047) (698)) (1396) (1047)) (2444) (nI (3))) (by omega) (by omega) (by omega)) k_577 k_579 kp_0 k_7 k_580 hdX6_copy ⟨rfl, rfl⟩ ⟨Nat.le_of_ble_eq_true rfl, Nat.le_of_ble_eq_true rfl⟩ (by omega) rfl rfl rfl rfl (Nat.le_of_ble_eq_true rfl) dX6_record_63 ?_
  refine zr_aloadn X 0 dX6_record_66 rfl ?_
  refine zr_dup X dX6_record_67 rfl ?_
  refine zr_get X (ci := 6) (q := 1) zI (.int (nI (3))) dX6_record_68 (by omega) rfl rfl inX6 (by decide) rfl (congrArg Value.int ((cp_out (by omega)).trans (pk_us))) rfl k_540 ?_
  refine zr_iconst X (nI (1)) dX6_record_71 (by decide +kernel) ?_
  refine zr_iadd X (nI (4)) dX6_record_72 ((nI_add _ _).trans (congrArg nI (by omega))) ?_
  refine zr_put X (ci := 6) (q := 1) (ty0 := tyX6) (ty := .int) (2444) dX6_record_73 (by omega) rfl rfl inX6 tyX6_ok nmX6 (by decide) rfl rfl rfl rfl rfl rfl k_540 (by omega) ?_
  exact zr_vret X dX6_record_76 rfl

theorem c_record {l : Launch} {D : va_G} {tc : Nat → ClassId} {ad : Nat → Nat} {A : Nat → Prop} {tF tL tM : Nat} (E : zN 6 A ad) (μ : Nat → Int32) {b k : Nat} (hk : μ 2444 = nI k) (h4 : k ≤ 4) (hb : b = 0 ∨ b = 2094) : zMv l yX6_record cX6_record 3 (zrm 2) (zK A D tc tF tL tM) A D vwCl tc ad 6 shR [.ref (ad (0)), .int (nI (b))] μ (fun u => u = zrec μ b k) := by
  unfold zrec
  by_cases h : k < 4
  · rw [if_pos h]; exact c_record_a E μ hk h hb
  · rw [if_neg h]
    have : k = 4 := by omega
    subst this
    exact c_record_b E μ hk hb
/-- the present state's month, its firms, the states of the history -/
def refS (μ : Nat → Int32) (m c k : Nat) : Prop := μ 0 = nI m ∧ m < 240 ∧ μ 1 = nI c ∧ c ≤ 8 ∧ μ 2444 = nI k ∧ k ≤ 4
set_option maxHeartbeats 4000000 in
set_option maxRecDepth 100000 in
theorem c_year {l : Launch} {D : va_G} {tc : Nat → ClassId} {ad : Nat → Nat} {A : Nat → Prop} {tF tL tM : Nat} (E : zN 6 A ad) (μ : Nat → Int32) {m y : Nat} (hm : μ 0 = nI m) (hm2 : m < 240) (hy : m / 12 = y) : zMi l yX6_year cX6_year 1 (some .int) (zrm 1) (zK A D tc tF tL tM) A D vwCl tc ad 6 shR [.ref (ad (0))] μ (fun r u => r = nI y ∧ u = μ) := by
  refine zM_of RX6 [(0, .ref (ad (0)))] (zK_ok A D tc tF tL tM) E.1 E.2 owR_ok (by decide +kernel) rfl (Nat.le_of_ble_eq_true rfl) rfl ?_
  intro pP eE sS mM aS bL mT cO X
  refine zr_aloadn X 0 dX6_year_0 rfl ?_
  refine zr_get X (ci := 6) (q := 0) (zR _) (.ref (ad (1))) dX6_year_1 (by omega) rfl rfl inX6 (by decide) rfl (zvR rfl) rfl k_539 ?_
  refine zr_iconst X (nI (0)) dX6_year_4 (by decide +kernel) ?_
  refine zr_iald X (j := 0) 0 (nI (m)) dX6_year_5 (by omega) rfl rfl rfl (by omega) (by omega) (zcg (b := 0) (by omega) (hm)) ?_
  refine zr_bipush X (nI (12)) dX6_year_6 (by decide +kernel) ?_
  refine zr_idiv X (nI (y)) dX6_year_8 (by decide +kernel) ((pk_div (by omega) (by omega) (by omega)).trans (congrArg nI hy)) ?_
  exact zr_iret X dX6_year_9 ⟨rfl, rfl⟩

set_option maxHeartbeats 4000000 in
set_option maxRecDepth 100000 in
theorem c_undo_none {l : Launch} {D : va_G} {tc : Nat → ClassId} {ad : Nat → Nat} {A : Nat → Prop} {tF tL tM : Nat} (E : zN 6 A ad) (μ : Nat → Int32) (hk : μ 2444 = nI 0) : zMi l yX6_undo cX6_undo 1 (some .int) (zrm 5) (zK A D tc tF tL tM) A D vwCl tc ad 6 shR [.ref (ad (0))] μ (fun r u => r = -5 ∧ u = μ) := by
  refine zM_of RX6 [(0, .ref (ad (0)))] (zK_ok A D tc tF tL tM) E.1 E.2 owR_ok (by decide +kernel) rfl (Nat.le_of_ble_eq_true rfl) rfl ?_
  intro pP eE sS mM aS bL mT cO X
  refine zr_aloadn X 0 dX6_undo_0 rfl ?_
  refine zr_get X (ci := 6) (q := 1) zI (.int (nI (0))) dX6_undo_1 (by omega) rfl rfl inX6 (by decide) rfl (congrArg Value.int (hk)) rfl k_540 ?_
  refine zr_if_ne X 10 dX6_undo_4 (by decide) (fun q => absurd (zq_eq0 (by omega)) q) (fun _ => ?_)
  refine zr_bipush X (-5) dX6_undo_7 (by decide +kernel) ?_
  exact zr_iret X dX6_undo_9 ⟨rfl, rfl⟩

set_option maxHeartbeats 4000000 in
set_option maxRecDepth 100000 in
theorem c_undo_ok {l : Launch} {D : va_G} {tc : Nat → ClassId} {ad : Nat → Nat} {A : Nat → Prop} {tF tL tM : Nat} (E : zN 6 A ad) (μ : Nat → Int32) {k : Nat} (hk : μ 2444 = nI (k + 1)) (hk4 : k < 4) : zMi l yX6_undo cX6_undo 1 (some .int) (zrm 5) (zK A D tc tF tL tM) A D vwCl tc ad 6 shR [.ref (ad (0))] μ (fun r u => r = nI k ∧ u = cp (upd μ 2444 (nI k)) (349 * k + 349) 0) := by
  refine zM_of RX6 [(0, .ref (ad (0)))] (zK_ok A D tc tF tL tM) E.1 E.2 owR_ok (by decide +kernel) rfl (Nat.le_of_ble_eq_true rfl) rfl ?_
  intro pP eE sS mM aS bL mT cO X
  refine zr_aloadn X 0 dX6_undo_0 rfl ?_
  refine zr_get X (ci := 6) (q := 1) zI (.int (nI (k + 1))) dX6_undo_1 (by omega) rfl rfl inX6 (by decide) rfl (congrArg Value.int (hk)) rfl k_540 ?_
  refine zr_if_ne X 10 dX6_undo_4 (by decide) (fun _ => ?_) (fun q => absurd q (nI_ne0 (by omega) (by omega)))
  refine zr_aloadn X 0 dX6_undo_10 rfl ?_
  refine zr_dup X dX6_undo_11 rfl ?_
  refine zr_get X (ci := 6) (q := 1) zI (.int (nI (k + 1))) dX6_undo_12 (by omega) rfl rfl inX6 (by decide) rfl (congrArg Value.int (hk)) rfl k_540 ?_
  refine zr_iconst X (nI (1)) dX6_undo_15 (by decide +kernel) ?_
  refine zr_isub X (nI (k)) dX6_undo_16 ((pk_sub (by omega)).trans (congrArg nI (by omega))) ?_
  refine zr_put X (ci := 6) (q := 1) (ty0 := tyX6) (ty := .int) (2444) dX6_undo_17 (by omega) rfl rfl inX6 tyX6_ok nmX6 (by decide) rfl rfl rfl rfl rfl rfl k_540 (by omega) ?_
  refine zr_aloadn X 0 dX6_undo_20 rfl ?_
  refine zr_sipush X (nI (349)) dX6_undo_21 (by decide +kernel) ?_
  refine zr_sipush X (nI (349)) dX6_undo_24 (by decide +kernel) ?_
  refine zr_aloadn X 0 dX6_undo_27 rfl ?_
  refine zr_get X (ci := 6) (q := 1) zI (.int (nI (k))) dX6_undo_28 (by omega) rfl rfl inX6 (by decide) rfl (congrArg Value.int (pk_us)) rfl k_540 ?_
  refine zr_imul X (nI (349 * k)) dX6_undo_31 ((pk_mul _ _).trans (congrArg nI (by omega))) ?_
  refine zr_iadd X (nI (349 * k + 349)) dX6_undo_32 ((nI_add _ _).trans (congrArg nI (by omega))) ?_
  refine zr_iconst X (nI (0)) dX6_undo_33 (by decide +kernel) ?_
  refine zr_dVv (C := RX6) (ci := 6) [.int (nI (349 * k + 349)), .int (nI (0))] [] X (zK_ok A D tc tF tL tM) (c_copy E (upd μ (2444) (nI (k))) (by omega) (by omega) (by omega)) k_577 k_579 kp_0 k_7 k_580 hdX6_copy ⟨rfl, rfl⟩ ⟨Nat.le_of_ble_eq_true rfl, Nat.le_of_ble_eq_true rfl⟩ (by omega) rfl rfl rfl rfl (Nat.le_of_ble_eq_true rfl) dX6_undo_34 ?_
  refine zr_aloadn X 0 dX6_undo_37 rfl ?_
  refine zr_get X (ci := 6) (q := 1) zI (.int (nI (k))) dX6_undo_38 (by omega) rfl rfl inX6 (by decide) rfl (congrArg Value.int ((cp_out (by omega)).trans (pk_us))) rfl k_540 ?_
  exact zr_iret X dX6_undo_41 ⟨rfl, rfl⟩

set_option maxHeartbeats 4000000 in
set_option maxRecDepth 100000 in
theorem c_keep {l : Launch} {D : va_G} {tc : Nat → ClassId} {ad : Nat → Nat} {A : Nat → Prop} {tF tL tM : Nat} (E : zN 6 A ad) (μ : Nat → Int32) {m c k : Nat} (S : refS μ m c k)  : zMi l yX6_keep cX6_keep 1 (some .int) (zrm 5) (zK A D tc tF tL tM) A D vwCl tc ad 6 shR [.ref (ad (0))] μ (fun r u => r = nI m ∧ u = upd (cp μ 0 1745) 2445 (nI 1)) := by
  refine zM_of RX6 [(0, .ref (ad (0)))] (zK_ok A D tc tF tL tM) E.1 E.2 owR_ok (by decide +kernel) rfl (Nat.le_of_ble_eq_true rfl) rfl ?_
  intro pP eE sS mM aS bL mT cO X
  obtain ⟨hm, hm2, hc, h8, hk, hk4⟩ := S
  refine zr_aloadn X 0 dX6_keep_0 rfl ?_
  refine zr_iconst X (nI (0)) dX6_keep_1 (by decide +kernel) ?_
  refine zr_sipush X (nI (1745)) dX6_keep_2 (by decide +kernel) ?_
  refine zr_dVv (C := RX6) (ci := 6) [.int (nI (0)), .int (nI (1745))] [] X (zK_ok A D tc tF tL tM) (c_copy E μ (by omega) (by omega) (by omega)) k_577 k_579 kp_0 k_7 k_580 hdX6_copy ⟨rfl, rfl⟩ ⟨Nat.le_of_ble_eq_true rfl, Nat.le_of_ble_eq_true rfl⟩ (by omega) rfl rfl rfl rfl (Nat.le_of_ble_eq_true rfl) dX6_keep_5 ?_
  refine zr_aloadn X 0 dX6_keep_8 rfl ?_
  refine zr_iconst X (nI (1)) dX6_keep_9 (by decide +kernel) ?_
  refine zr_put X (ci := 6) (q := 2) (ty0 := tyX6) (ty := .boolean) (2445) dX6_keep_10 (by omega) rfl rfl inX6 tyX6_ok nmX6 (by decide) rfl rfl rfl rfl rfl rfl k_541 (by omega) ?_
  refine zr_aloadn X 0 dX6_keep_13 rfl ?_
  refine zr_get X (ci := 6) (q := 0) (zR _) (.ref (ad (1))) dX6_keep_14 (by omega) rfl rfl inX6 (by decide) rfl (zvR rfl) rfl k_539 ?_
  refine zr_iconst X (nI (0)) dX6_keep_17 (by decide +kernel) ?_
  refine zr_iald X (j := 0) 0 (nI (m)) dX6_keep_18 (by omega) rfl rfl rfl (by omega) (by omega) (zcg (b := 0) (by omega) ((pk_un (by omega)).trans ((cp_out (by omega)).trans (hm)))) ?_
  exact zr_iret X dX6_keep_19 ⟨rfl, rfl⟩

set_option maxHeartbeats 4000000 in
set_option maxRecDepth 100000 in
theorem c_restore_none {l : Launch} {D : va_G} {tc : Nat → ClassId} {ad : Nat → Nat} {A : Nat → Prop} {tF tL tM : Nat} (E : zN 6 A ad) (μ : Nat → Int32) {m c k : Nat} (S : refS μ m c k) (hq : μ 2445 = nI 0) : zMi l yX6_restore cX6_restore 1 (some .int) (zrm 5) (zK A D tc tF tL tM) A D vwCl tc ad 6 shR [.ref (ad (0))] μ (fun r u => r = -5 ∧ u = μ) := by
  refine zM_of RX6 [(0, .ref (ad (0)))] (zK_ok A D tc tF tL tM) E.1 E.2 owR_ok (by decide +kernel) rfl (Nat.le_of_ble_eq_true rfl) rfl ?_
  intro pP eE sS mM aS bL mT cO X
  obtain ⟨hm, hm2, hc, h8, hk, hk4⟩ := S
  refine zr_aloadn X 0 dX6_restore_0 rfl ?_
  refine zr_get X (ci := 6) (q := 2) zI (.int (nI (0))) dX6_restore_1 (by omega) rfl rfl inX6 (by decide) rfl (congrArg Value.int (hq)) rfl k_541 ?_
  refine zr_if_ne X 10 dX6_restore_4 (by decide) (fun q => absurd (zq_eq0 (by omega)) q) (fun _ => ?_)
  refine zr_bipush X (-5) dX6_restore_7 (by decide +kernel) ?_
  exact zr_iret X dX6_restore_9 ⟨rfl, rfl⟩

set_option maxHeartbeats 4000000 in
set_option maxRecDepth 100000 in
theorem c_restore_ok {l : Launch} {D : va_G} {tc : Nat → ClassId} {ad : Nat → Nat} {A : Nat → Prop} {tF tL tM : Nat} (E : zN 6 A ad) (μ : Nat → Int32) {m c k : Nat} (S : refS μ m c k) (hq : μ 2445 = nI 1) : zMi l yX6_restore cX6_restore 1 (some .int) (zrm 5) (zK A D tc tF tL tM) A D vwCl tc ad 6 shR [.ref (ad (0))] μ (fun r u => r = μ 1745 ∧ u = cp (zrec μ 0 k) 1745 0) := by
  refine zM_of RX6 [(0, .ref (ad (0)))] (zK_ok A D tc tF tL tM) E.1 E.2 owR_ok (by decide +kernel) rfl (Nat.le_of_ble_eq_true rfl) rfl ?_
  intro pP eE sS mM aS bL mT cO X
  obtain ⟨hm, hm2, hc, h8, hk, hk4⟩ := S
  refine zr_aloadn X 0 dX6_restore_0 rfl ?_
  refine zr_get X (ci := 6) (q := 2) zI (.int (nI (1))) dX6_restore_1 (by omega) rfl rfl inX6 (by decide) rfl (congrArg Value.int (hq)) rfl k_541 ?_
  refine zr_if_ne X 10 dX6_restore_4 (by decide) (fun _ => ?_) (fun q => absurd q (nI_ne0 (by omega) (by omega)))
  refine zr_aloadn X 0 dX6_restore_10 rfl ?_
  refine zr_iconst X (nI (0)) dX6_restore_11 (by decide +kernel) ?_
  refine zr_dVv (C := RX6) (ci := 6) [.int (nI (0))] [] X (zK_ok A D tc tF tL tM) (c_record E μ (hk) hk4 (by omega)) k_589 k_591 kp_1 k_7 k_592 hdX6_record ⟨rfl, rfl⟩ ⟨Nat.le_of_ble_eq_true rfl, Nat.le_of_ble_eq_true rfl⟩ (by omega) rfl rfl rfl rfl (Nat.le_of_ble_eq_true rfl) dX6_restore_12 ?_
  refine zr_aloadn X 0 dX6_restore_15 rfl ?_
  refine zr_sipush X (nI (1745)) dX6_restore_16 (by decide +kernel) ?_
  refine zr_iconst X (nI (0)) dX6_restore_19 (by decide +kernel) ?_
  refine zr_dVv (C := RX6) (ci := 6) [.int (nI (1745)), .int (nI (0))] [] X (zK_ok A D tc tF tL tM) (c_copy E (zrec μ (0) (k)) (by omega) (by omega) (by omega)) k_577 k_579 kp_0 k_7 k_580 hdX6_copy ⟨rfl, rfl⟩ ⟨Nat.le_of_ble_eq_true rfl, Nat.le_of_ble_eq_true rfl⟩ (by omega) rfl rfl rfl rfl (Nat.le_of_ble_eq_true rfl) dX6_restore_20 ?_
  refine zr_aloadn X 0 dX6_restore_23 rfl ?_
  refine zr_get X (ci := 6) (q := 0) (zR _) (.ref (ad (1))) dX6_restore_24 (by omega) rfl rfl inX6 (by decide) rfl (zvR rfl) rfl k_539 ?_
  refine zr_iconst X (nI (0)) dX6_restore_27 (by decide +kernel) ?_
  refine zr_iald X (j := 0) 0 (μ (1745)) dX6_restore_28 (by omega) rfl rfl rfl (by omega) (by omega) (zcg (b := 0) (by omega) ((cp_in (by omega) (by omega) (by omega)).trans (zrec_out (by omega) (by omega) hk4))) ?_
  exact zr_iret X dX6_restore_29 ⟨rfl, rfl⟩

