/-! the reference's small methods -/
def zin (x : Int32) (a b : Nat) : Prop := ∃ j, a ≤ j ∧ j ≤ b ∧ x = nI j
theorem zin_of {x : Int32} {a b : Nat} (hb : b < 2 ^ 31) (h1 : nI a ≤ x) (h2 : x ≤ nI b) (ha : a < 2 ^ 31) : zin x a b := by
  rw [Int32.le_iff_toInt_le, nI_toInt ha] at h1
  rw [Int32.le_iff_toInt_le, nI_toInt hb] at h2
  refine ⟨x.toInt.toNat, by omega, by omega, ?_⟩
  apply Int32.toInt_inj.mp
  rw [nI_toInt (by omega)]
  omega
def zfm (x : Int32) (c : Nat) : Prop := ∃ f, f < c ∧ x = nI f
theorem zfm_f {x : Int32} {c : Nat} (hc : c ≤ 8) (h : ¬ zfm x c) : ¬ (nI 0 ≤ x ∧ x ≤ nI c - nI 1) := by
  rintro ⟨h1, h2⟩
  apply h
  rw [Int32.le_iff_toInt_le, nI_toInt (by omega)] at h1
  rw [Int32.le_iff_toInt_le, pk_sub_toInt (by omega) (by omega)] at h2
  refine ⟨x.toInt.toNat, by omega, ?_⟩
  apply Int32.toInt_inj.mp
  rw [nI_toInt (by omega)]
  omega
set_option maxHeartbeats 4000000 in
set_option maxRecDepth 100000 in
theorem c_of {l : Launch} {D : va_G} {tc : Nat → ClassId} {ad : Nat → Nat} {A : Nat → Prop} {tF tL tM : Nat} (E : zN 6 A ad) (μ : Nat → Int32) (f k : Nat) : zMi l yX6_of cX6_of 2 (some .int) (zrm 1) (zK A D tc tF tL tM) A D vwCl tc ad 6 shR [.int (nI (f)), .int (nI (k))] μ (fun r u => r = nI (32 * f + k + 7) ∧ u = μ) := by
  refine zM_of RX6 [(0, .int (nI (f))), (1, .int (nI (k)))] (zK_ok A D tc tF tL tM) E.1 E.2 owR_ok (by decide +kernel) rfl (Nat.le_of_ble_eq_true rfl) rfl ?_
  intro pP eE sS mM aS bL mT cO X
  refine zr_bipush X (nI (7)) dX6_of_0 (by decide +kernel) ?_
  refine zr_bipush X (nI (32)) dX6_of_2 (by decide +kernel) ?_
  refine zr_iloadn X 0 dX6_of_4 rfl ?_
  refine zr_imul X (nI (32 * f)) dX6_of_5 ((pk_mul _ _).trans (congrArg nI (by omega))) ?_
  refine zr_iadd X (nI (32 * f + 7)) dX6_of_6 ((nI_add _ _).trans (congrArg nI (by omega))) ?_
  refine zr_iloadn X 1 dX6_of_7 rfl ?_
  refine zr_iadd X (nI (32 * f + k + 7)) dX6_of_8 ((nI_add _ _).trans (congrArg nI (by omega))) ?_
  exact zr_iret X dX6_of_9 ⟨rfl, rfl⟩

set_option maxHeartbeats 4000000 in
set_option maxRecDepth 100000 in
theorem c_in_t {l : Launch} {D : va_G} {tc : Nat → ClassId} {ad : Nat → Nat} {A : Nat → Prop} {tF tL tM : Nat} (E : zN 6 A ad) (μ : Nat → Int32) {v a b : Int32} (h1 : a ≤ v) (h2 : v ≤ b) : zMi l yX6_in cX6_in 3 (some .boolean) (zrm 1) (zK A D tc tF tL tM) A D vwCl tc ad 6 shR [.int (v), .int (a), .int (b)] μ (fun r u => r = nI 1 ∧ u = μ) := by
  refine zM_of RX6 [(0, .int (v)), (1, .int (a)), (2, .int (b))] (zK_ok A D tc tF tL tM) E.1 E.2 owR_ok (by decide +kernel) rfl (Nat.le_of_ble_eq_true rfl) rfl ?_
  intro pP eE sS mM aS bL mT cO X
  refine zr_iloadn X 0 dX6_in_0 rfl ?_
  refine zr_iloadn X 1 dX6_in_1 rfl ?_
  refine zr_icmp_lt X 14 dX6_in_2 (by decide) (fun q => absurd q (Int32.not_lt.mpr h1)) (fun _ => ?_)
  refine zr_iloadn X 0 dX6_in_5 rfl ?_
  refine zr_iloadn X 2 dX6_in_6 rfl ?_
  refine zr_icmp_gt X 14 dX6_in_7 (by decide) (fun q => absurd q (Int32.not_lt.mpr h2)) (fun _ => ?_)
  refine zr_iconst X (nI (1)) dX6_in_10 (by decide +kernel) ?_
  refine zr_goto X 15 dX6_in_11 (by decide) ?_
  exact zr_zret X dX6_in_15 rfl ⟨rfl, rfl⟩

set_option maxHeartbeats 4000000 in
set_option maxRecDepth 100000 in
theorem c_in_f {l : Launch} {D : va_G} {tc : Nat → ClassId} {ad : Nat → Nat} {A : Nat → Prop} {tF tL tM : Nat} (E : zN 6 A ad) (μ : Nat → Int32) {v a b : Int32} (h : ¬ (a ≤ v ∧ v ≤ b)) : zMi l yX6_in cX6_in 3 (some .boolean) (zrm 1) (zK A D tc tF tL tM) A D vwCl tc ad 6 shR [.int (v), .int (a), .int (b)] μ (fun r u => r = nI 0 ∧ u = μ) := by
  refine zM_of RX6 [(0, .int (v)), (1, .int (a)), (2, .int (b))] (zK_ok A D tc tF tL tM) E.1 E.2 owR_ok (by decide +kernel) rfl (Nat.le_of_ble_eq_true rfl) rfl ?_
  intro pP eE sS mM aS bL mT cO X
  refine zr_iloadn X 0 dX6_in_0 rfl ?_
  refine zr_iloadn X 1 dX6_in_1 rfl ?_
  refine zr_icmp_lt X 14 dX6_in_2 (by decide) (fun h2 => ?_) (fun h2 => ?_)
  · refine zr_iconst X (nI (0)) dX6_in_14 (by decide +kernel) ?_
    exact zr_zret X dX6_in_15 rfl ⟨rfl, rfl⟩
  · refine zr_iloadn X 0 dX6_in_5 rfl ?_
    refine zr_iloadn X 2 dX6_in_6 rfl ?_
    refine zr_icmp_gt X 14 dX6_in_7 (by decide) (fun _ => ?_) (fun q => absurd (Int32.not_le.mp (fun q => h ⟨Int32.not_lt.mp h2, q⟩)) q)
    refine zr_iconst X (nI (0)) dX6_in_14 (by decide +kernel) ?_
    exact zr_zret X dX6_in_15 rfl ⟨rfl, rfl⟩

set_option maxHeartbeats 4000000 in
set_option maxRecDepth 100000 in
theorem c_isVintage_t {l : Launch} {D : va_G} {tc : Nat → ClassId} {ad : Nat → Nat} {A : Nat → Prop} {tF tL tM : Nat} (E : zN 6 A ad) (μ : Nat → Int32) {v : Nat} (h1 : 0 ≤ v) (h2 : v ≤ 19) : zMi l yX6_isVintage cX6_isVintage 1 (some .boolean) (zrm 2) (zK A D tc tF tL tM) A D vwCl tc ad 6 shR [.int (nI (v))] μ (fun r u => r = nI 1 ∧ u = μ) := by
  refine zM_of RX6 [(0, .int (nI (v)))] (zK_ok A D tc tF tL tM) E.1 E.2 owR_ok (by decide +kernel) rfl (Nat.le_of_ble_eq_true rfl) rfl ?_
  intro pP eE sS mM aS bL mT cO X
  refine zr_iloadn X 0 dX6_isVintage_0 rfl ?_
  refine zr_iconst X (nI (0)) dX6_isVintage_1 (by decide +kernel) ?_
  refine zr_bipush X (nI (19)) dX6_isVintage_2 (by decide +kernel) ?_
  refine zr_dSi [.int (nI (v)), .int (nI (0)), .int (nI (19))] [] X (zK_ok A D tc tF tL tM) (c_in_t E μ (zq_le (by omega) (by omega)) (zq_le (by omega) (by omega))) k_604 k_605 k_7 k_606 hdX6_in ⟨rfl, rfl⟩ ⟨Nat.le_of_ble_eq_true rfl, Nat.le_of_ble_eq_true rfl⟩ rfl rfl (Nat.le_of_ble_eq_true rfl) dX6_isVintage_4 ?_
  exact zr_zret X dX6_isVintage_7 rfl ⟨rfl, rfl⟩

set_option maxHeartbeats 4000000 in
set_option maxRecDepth 100000 in
theorem c_isVintage_f {l : Launch} {D : va_G} {tc : Nat → ClassId} {ad : Nat → Nat} {A : Nat → Prop} {tF tL tM : Nat} (E : zN 6 A ad) (μ : Nat → Int32) {v : Int32} (h : ¬ zin v 0 19) : zMi l yX6_isVintage cX6_isVintage 1 (some .boolean) (zrm 2) (zK A D tc tF tL tM) A D vwCl tc ad 6 shR [.int (v)] μ (fun r u => r = nI 0 ∧ u = μ) := by
  refine zM_of RX6 [(0, .int (v))] (zK_ok A D tc tF tL tM) E.1 E.2 owR_ok (by decide +kernel) rfl (Nat.le_of_ble_eq_true rfl) rfl ?_
  intro pP eE sS mM aS bL mT cO X
  refine zr_iloadn X 0 dX6_isVintage_0 rfl ?_
  refine zr_iconst X (nI (0)) dX6_isVintage_1 (by decide +kernel) ?_
  refine zr_bipush X (nI (19)) dX6_isVintage_2 (by decide +kernel) ?_
  refine zr_dSi [.int (v), .int (nI (0)), .int (nI (19))] [] X (zK_ok A D tc tF tL tM) (c_in_f E μ (fun q => h (zin_of (by omega) q.1 q.2 (by omega)))) k_604 k_605 k_7 k_606 hdX6_in ⟨rfl, rfl⟩ ⟨Nat.le_of_ble_eq_true rfl, Nat.le_of_ble_eq_true rfl⟩ rfl rfl (Nat.le_of_ble_eq_true rfl) dX6_isVintage_4 ?_
  exact zr_zret X dX6_isVintage_7 rfl ⟨rfl, rfl⟩

set_option maxHeartbeats 4000000 in
set_option maxRecDepth 100000 in
theorem c_isGrade_t {l : Launch} {D : va_G} {tc : Nat → ClassId} {ad : Nat → Nat} {A : Nat → Prop} {tF tL tM : Nat} (E : zN 6 A ad) (μ : Nat → Int32) {v : Nat} (h1 : 0 ≤ v) (h2 : v ≤ 2) : zMi l yX6_isGrade cX6_isGrade 1 (some .boolean) (zrm 2) (zK A D tc tF tL tM) A D vwCl tc ad 6 shR [.int (nI (v))] μ (fun r u => r = nI 1 ∧ u = μ) := by
  refine zM_of RX6 [(0, .int (nI (v)))] (zK_ok A D tc tF tL tM) E.1 E.2 owR_ok (by decide +kernel) rfl (Nat.le_of_ble_eq_true rfl) rfl ?_
  intro pP eE sS mM aS bL mT cO X
  refine zr_iloadn X 0 dX6_isGrade_0 rfl ?_
  refine zr_iconst X (nI (0)) dX6_isGrade_1 (by decide +kernel) ?_
  refine zr_iconst X (nI (2)) dX6_isGrade_2 (by decide +kernel) ?_
  refine zr_dSi [.int (nI (v)), .int (nI (0)), .int (nI (2))] [] X (zK_ok A D tc tF tL tM) (c_in_t E μ (zq_le (by omega) (by omega)) (zq_le (by omega) (by omega))) k_604 k_605 k_7 k_606 hdX6_in ⟨rfl, rfl⟩ ⟨Nat.le_of_ble_eq_true rfl, Nat.le_of_ble_eq_true rfl⟩ rfl rfl (Nat.le_of_ble_eq_true rfl) dX6_isGrade_3 ?_
  exact zr_zret X dX6_isGrade_6 rfl ⟨rfl, rfl⟩

set_option maxHeartbeats 4000000 in
set_option maxRecDepth 100000 in
theorem c_isGrade_f {l : Launch} {D : va_G} {tc : Nat → ClassId} {ad : Nat → Nat} {A : Nat → Prop} {tF tL tM : Nat} (E : zN 6 A ad) (μ : Nat → Int32) {v : Int32} (h : ¬ zin v 0 2) : zMi l yX6_isGrade cX6_isGrade 1 (some .boolean) (zrm 2) (zK A D tc tF tL tM) A D vwCl tc ad 6 shR [.int (v)] μ (fun r u => r = nI 0 ∧ u = μ) := by
  refine zM_of RX6 [(0, .int (v))] (zK_ok A D tc tF tL tM) E.1 E.2 owR_ok (by decide +kernel) rfl (Nat.le_of_ble_eq_true rfl) rfl ?_
  intro pP eE sS mM aS bL mT cO X
  refine zr_iloadn X 0 dX6_isGrade_0 rfl ?_
  refine zr_iconst X (nI (0)) dX6_isGrade_1 (by decide +kernel) ?_
  refine zr_iconst X (nI (2)) dX6_isGrade_2 (by decide +kernel) ?_
  refine zr_dSi [.int (v), .int (nI (0)), .int (nI (2))] [] X (zK_ok A D tc tF tL tM) (c_in_f E μ (fun q => h (zin_of (by omega) q.1 q.2 (by omega)))) k_604 k_605 k_7 k_606 hdX6_in ⟨rfl, rfl⟩ ⟨Nat.le_of_ble_eq_true rfl, Nat.le_of_ble_eq_true rfl⟩ rfl rfl (Nat.le_of_ble_eq_true rfl) dX6_isGrade_3 ?_
  exact zr_zret X dX6_isGrade_6 rfl ⟨rfl, rfl⟩

set_option maxHeartbeats 4000000 in
set_option maxRecDepth 100000 in
theorem c_isTonnes_t {l : Launch} {D : va_G} {tc : Nat → ClassId} {ad : Nat → Nat} {A : Nat → Prop} {tF tL tM : Nat} (E : zN 6 A ad) (μ : Nat → Int32) {v : Nat} (h1 : 1 ≤ v) (h2 : v ≤ 9999) : zMi l yX6_isTonnes cX6_isTonnes 1 (some .boolean) (zrm 2) (zK A D tc tF tL tM) A D vwCl tc ad 6 shR [.int (nI (v))] μ (fun r u => r = nI 1 ∧ u = μ) := by
  refine zM_of RX6 [(0, .int (nI (v)))] (zK_ok A D tc tF tL tM) E.1 E.2 owR_ok (by decide +kernel) rfl (Nat.le_of_ble_eq_true rfl) rfl ?_
  intro pP eE sS mM aS bL mT cO X
  refine zr_iloadn X 0 dX6_isTonnes_0 rfl ?_
  refine zr_iconst X (nI (1)) dX6_isTonnes_1 (by decide +kernel) ?_
  refine zr_sipush X (nI (9999)) dX6_isTonnes_2 (by decide +kernel) ?_
  refine zr_dSi [.int (nI (v)), .int (nI (1)), .int (nI (9999))] [] X (zK_ok A D tc tF tL tM) (c_in_t E μ (zq_le (by omega) (by omega)) (zq_le (by omega) (by omega))) k_604 k_605 k_7 k_606 hdX6_in ⟨rfl, rfl⟩ ⟨Nat.le_of_ble_eq_true rfl, Nat.le_of_ble_eq_true rfl⟩ rfl rfl (Nat.le_of_ble_eq_true rfl) dX6_isTonnes_5 ?_
  exact zr_zret X dX6_isTonnes_8 rfl ⟨rfl, rfl⟩

set_option maxHeartbeats 4000000 in
set_option maxRecDepth 100000 in
theorem c_isTonnes_f {l : Launch} {D : va_G} {tc : Nat → ClassId} {ad : Nat → Nat} {A : Nat → Prop} {tF tL tM : Nat} (E : zN 6 A ad) (μ : Nat → Int32) {v : Int32} (h : ¬ zin v 1 9999) : zMi l yX6_isTonnes cX6_isTonnes 1 (some .boolean) (zrm 2) (zK A D tc tF tL tM) A D vwCl tc ad 6 shR [.int (v)] μ (fun r u => r = nI 0 ∧ u = μ) := by
  refine zM_of RX6 [(0, .int (v))] (zK_ok A D tc tF tL tM) E.1 E.2 owR_ok (by decide +kernel) rfl (Nat.le_of_ble_eq_true rfl) rfl ?_
  intro pP eE sS mM aS bL mT cO X
  refine zr_iloadn X 0 dX6_isTonnes_0 rfl ?_
  refine zr_iconst X (nI (1)) dX6_isTonnes_1 (by decide +kernel) ?_
  refine zr_sipush X (nI (9999)) dX6_isTonnes_2 (by decide +kernel) ?_
  refine zr_dSi [.int (v), .int (nI (1)), .int (nI (9999))] [] X (zK_ok A D tc tF tL tM) (c_in_f E μ (fun q => h (zin_of (by omega) q.1 q.2 (by omega)))) k_604 k_605 k_7 k_606 hdX6_in ⟨rfl, rfl⟩ ⟨Nat.le_of_ble_eq_true rfl, Nat.le_of_ble_eq_true rfl⟩ rfl rfl (Nat.le_of_ble_eq_true rfl) dX6_isTonnes_5 ?_
  exact zr_zret X dX6_isTonnes_8 rfl ⟨rfl, rfl⟩

set_option maxHeartbeats 4000000 in
set_option maxRecDepth 100000 in
theorem c_isFirm_t {l : Launch} {D : va_G} {tc : Nat → ClassId} {ad : Nat → Nat} {A : Nat → Prop} {tF tL tM : Nat} (E : zN 6 A ad) (μ : Nat → Int32) {f c : Nat} (hc : μ 1 = nI c) (h8 : c ≤ 8) (h : f < c) : zMi l yX6_isFirm cX6_isFirm 2 (some .boolean) (zrm 2) (zK A D tc tF tL tM) A D vwCl tc ad 6 shR [.ref (ad (0)), .int (nI (f))] μ (fun r u => r = nI 1 ∧ u = μ) := by
  refine zM_of RX6 [(0, .ref (ad (0))), (1, .int (nI (f)))] (zK_ok A D tc tF tL tM) E.1 E.2 owR_ok (by decide +kernel) rfl (Nat.le_of_ble_eq_true rfl) rfl ?_
  intro pP eE sS mM aS bL mT cO X
  refine zr_iloadn X 1 dX6_isFirm_0 rfl ?_
  refine zr_iconst X (nI (0)) dX6_isFirm_1 (by decide +kernel) ?_
  refine zr_aloadn X 0 dX6_isFirm_2 rfl ?_
  refine zr_get X (ci := 6) (q := 0) (zR (1)) (.ref (ad (1))) dX6_isFirm_3 (by omega) rfl rfl inX6 (by decide) rfl (rfl) rfl k_539 ?_
  refine zr_iconst X (nI (1)) dX6_isFirm_6 (by decide +kernel) ?_
  refine zr_iald X (j := 1) 0 (nI (c)) dX6_isFirm_7 (by omega) rfl rfl rfl (by omega) (by omega) (zcg (b := 1) (by omega) (hc)) ?_
  refine zr_iconst X (nI (1)) dX6_isFirm_8 (by decide +kernel) ?_
  refine zr_isub X (nI (c - 1)) dX6_isFirm_9 ((pk_sub (by omega)).trans (congrArg nI (by omega))) ?_
  refine zr_dSi [.int (nI (f)), .int (nI (0)), .int (nI (c - 1))] [] X (zK_ok A D tc tF tL tM) (c_in_t E μ (zq_le (by omega) (by omega)) (zq_le (by omega) (by omega))) k_604 k_605 k_7 k_606 hdX6_in ⟨rfl, rfl⟩ ⟨Nat.le_of_ble_eq_true rfl, Nat.le_of_ble_eq_true rfl⟩ rfl rfl (Nat.le_of_ble_eq_true rfl) dX6_isFirm_10 ?_
  exact zr_zret X dX6_isFirm_13 rfl ⟨rfl, rfl⟩

set_option maxHeartbeats 4000000 in
set_option maxRecDepth 100000 in
theorem c_isFirm_f {l : Launch} {D : va_G} {tc : Nat → ClassId} {ad : Nat → Nat} {A : Nat → Prop} {tF tL tM : Nat} (E : zN 6 A ad) (μ : Nat → Int32) {x : Int32} {c : Nat} (hc : μ 1 = nI c) (h8 : c ≤ 8) (h : ¬ zfm x c) : zMi l yX6_isFirm cX6_isFirm 2 (some .boolean) (zrm 2) (zK A D tc tF tL tM) A D vwCl tc ad 6 shR [.ref (ad (0)), .int (x)] μ (fun r u => r = nI 0 ∧ u = μ) := by
  refine zM_of RX6 [(0, .ref (ad (0))), (1, .int (x))] (zK_ok A D tc tF tL tM) E.1 E.2 owR_ok (by decide +kernel) rfl (Nat.le_of_ble_eq_true rfl) rfl ?_
  intro pP eE sS mM aS bL mT cO X
  refine zr_iloadn X 1 dX6_isFirm_0 rfl ?_
  refine zr_iconst X (nI (0)) dX6_isFirm_1 (by decide +kernel) ?_
  refine zr_aloadn X 0 dX6_isFirm_2 rfl ?_
  refine zr_get X (ci := 6) (q := 0) (zR (1)) (.ref (ad (1))) dX6_isFirm_3 (by omega) rfl rfl inX6 (by decide) rfl (rfl) rfl k_539 ?_
  refine zr_iconst X (nI (1)) dX6_isFirm_6 (by decide +kernel) ?_
  refine zr_iald X (j := 1) 0 (nI (c)) dX6_isFirm_7 (by omega) rfl rfl rfl (by omega) (by omega) (zcg (b := 1) (by omega) (hc)) ?_
  refine zr_iconst X (nI (1)) dX6_isFirm_8 (by decide +kernel) ?_
  refine zr_isub X (nI (c) - nI (1)) dX6_isFirm_9 rfl ?_
  refine zr_dSi [.int (x), .int (nI (0)), .int (nI (c) - nI (1))] [] X (zK_ok A D tc tF tL tM) (c_in_f E μ (zfm_f h8 h)) k_604 k_605 k_7 k_606 hdX6_in ⟨rfl, rfl⟩ ⟨Nat.le_of_ble_eq_true rfl, Nat.le_of_ble_eq_true rfl⟩ rfl rfl (Nat.le_of_ble_eq_true rfl) dX6_isFirm_10 ?_
  exact zr_zret X dX6_isFirm_13 rfl ⟨rfl, rfl⟩

