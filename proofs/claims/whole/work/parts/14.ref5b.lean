set_option maxHeartbeats 4000000 in
set_option maxRecDepth 100000 in
theorem c_holder_u {l : Launch} {D : va_G} {tc : Nat → ClassId} {ad : Nat → Nat} {A : Nat → Prop} {tF tL tM : Nat} (E : zN 6 A ad) (μ : Nat → Int32) {m c k : Nat} (S : refS μ m c k) {x : Int32} (hx : ¬ zin x 0 19) (z : Int32)  : zMi l yX6_holder cX6_holder 8 (some .int) (zrm 5) (zK A D tc tF tL tM) A D vwCl tc ad 6 shR [.ref (ad (0)), .int (x), .int (z)] μ (fun r u => r = -1 ∧ u = μ) := by
  refine zM_of RX6 [(0, .ref (ad (0))), (1, .int (x)), (2, .int (z))] (zK_ok A D tc tF tL tM) E.1 E.2 owR_ok (by decide +kernel) rfl (Nat.le_of_ble_eq_true rfl) rfl ?_
  intro pP eE sS mM aS bL mT cO X
  obtain ⟨hm, hm2, hc, h8, hk, hk4⟩ := S
  refine zr_iloadn X 1 dX6_holder_0 rfl ?_
  refine zr_dSi [.int (x)] [] X (zK_ok A D tc tF tL tM) (c_isVintage_f E μ hx) k_633 k_634 k_7 k_635 hdX6_isVintage ⟨rfl, rfl⟩ ⟨Nat.le_of_ble_eq_true rfl, Nat.le_of_ble_eq_true rfl⟩ rfl rfl (Nat.le_of_ble_eq_true rfl) dX6_holder_1 ?_
  refine zr_if_ne X 9 dX6_holder_4 (by decide) (fun q => absurd (zq_eq0 (by omega)) q) (fun _ => ?_)
  refine zr_iconst X (-1) dX6_holder_7 (by decide +kernel) ?_
  exact zr_iret X dX6_holder_8 ⟨rfl, rfl⟩

set_option maxHeartbeats 4000000 in
set_option maxRecDepth 100000 in
theorem c_holder_b {l : Launch} {D : va_G} {tc : Nat → ClassId} {ad : Nat → Nat} {A : Nat → Prop} {tF tL tM : Nat} (E : zN 6 A ad) (μ : Nat → Int32) {m c k : Nat} (S : refS μ m c k) {v : Nat} (hv : v ≤ 19) {z : Int32} (hz : ¬ 0 ≤ z) : zMi l yX6_holder cX6_holder 8 (some .int) (zrm 5) (zK A D tc tF tL tM) A D vwCl tc ad 6 shR [.ref (ad (0)), .int (nI (v)), .int (z)] μ (fun r u => r = -2 ∧ u = μ) := by
  refine zM_of RX6 [(0, .ref (ad (0))), (1, .int (nI (v))), (2, .int (z))] (zK_ok A D tc tF tL tM) E.1 E.2 owR_ok (by decide +kernel) rfl (Nat.le_of_ble_eq_true rfl) rfl ?_
  intro pP eE sS mM aS bL mT cO X
  obtain ⟨hm, hm2, hc, h8, hk, hk4⟩ := S
  refine zr_iloadn X 1 dX6_holder_0 rfl ?_
  refine zr_dSi [.int (nI (v))] [] X (zK_ok A D tc tF tL tM) (c_isVintage_t E μ (by omega) (by omega)) k_633 k_634 k_7 k_635 hdX6_isVintage ⟨rfl, rfl⟩ ⟨Nat.le_of_ble_eq_true rfl, Nat.le_of_ble_eq_true rfl⟩ rfl rfl (Nat.le_of_ble_eq_true rfl) dX6_holder_1 ?_
  refine zr_if_ne X 9 dX6_holder_4 (by decide) (fun _ => ?_) (fun q => absurd q (nI_ne0 (by omega) (by omega)))
  refine zr_iloadn X 2 dX6_holder_9 rfl ?_
  refine zr_if_ge X 16 dX6_holder_10 (by decide) (fun q => absurd q (hz)) (fun _ => ?_)
  refine zr_bipush X (-2) dX6_holder_13 (by decide +kernel) ?_
  exact zr_iret X dX6_holder_15 ⟨rfl, rfl⟩

set_option maxHeartbeats 4000000 in
set_option maxRecDepth 100000 in
theorem c_holder_ok {l : Launch} {D : va_G} {tc : Nat → ClassId} {ad : Nat → Nat} {A : Nat → Prop} {tF tL tM : Nat} (E : zN 6 A ad) (μ : Nat → Int32) {m c k : Nat} (S : refS μ m c k) {v : Nat} (hv : v ≤ 19) {z : Int32} (hz : 0 ≤ z) : zMi l yX6_holder cX6_holder 8 (some .int) (zrm 5) (zK A D tc tF tL tM) A D vwCl tc ad 6 shR [.ref (ad (0)), .int (nI (v)), .int (z)] μ (fun r u => r = zhol (fun f => μ (32 * f + v + 7)) c z c ∧ u = μ) := by
  refine zM_of RX6 [(0, .ref (ad (0))), (1, .int (nI (v))), (2, .int (z))] (zK_ok A D tc tF tL tM) E.1 E.2 owR_ok (by decide +kernel) rfl (Nat.le_of_ble_eq_true rfl) rfl ?_
  intro pP eE sS mM aS bL mT cO X
  obtain ⟨hm, hm2, hc, h8, hk, hk4⟩ := S
  refine zr_iloadn X 1 dX6_holder_0 rfl ?_
  refine zr_dSi [.int (nI (v))] [] X (zK_ok A D tc tF tL tM) (c_isVintage_t E μ (by omega) (by omega)) k_633 k_634 k_7 k_635 hdX6_isVintage ⟨rfl, rfl⟩ ⟨Nat.le_of_ble_eq_true rfl, Nat.le_of_ble_eq_true rfl⟩ rfl rfl (Nat.le_of_ble_eq_true rfl) dX6_holder_1 ?_
  refine zr_if_ne X 9 dX6_holder_4 (by decide) (fun _ => ?_) (fun q => absurd q (nI_ne0 (by omega) (by omega)))
  refine zr_iloadn X 2 dX6_holder_9 rfl ?_
  refine zr_if_ge X 16 dX6_holder_10 (by decide) (fun _ => ?_) (fun q => absurd (hz) q)
  refine zr_iconst X (nI (0)) dX6_holder_16 (by decide +kernel) ?_
  refine zr_istoren X [1, 2, 3, 0] [(0, .ref (ad (0))), (1, .int (nI (v))), (2, .int (z)), (3, .int (nI (0)))] dX6_holder_17 (by decide) rfl ?_
  refine zr_forH X (c) (fun f => zhol (fun f => μ (32 * f + v + 7)) c z f = -5) (fun f => μ) (fun f => [(0, .ref (ad (0))), (1, .int (nI (v))), (2, .int (z)), (3, .int (nI (f)))]) [] (rfl) (rfl) rfl (fun hP18 => ?_) ?_
  · refine zr_iloadn X 3 dX6_holder_18 rfl ?_
    refine zr_aloadn X 0 dX6_holder_19 rfl ?_
    refine zr_get X (ci := 6) (q := 0) (zR (1)) (.ref (ad (1))) dX6_holder_20 (by omega) rfl rfl inX6 (by decide) rfl (rfl) rfl k_539 ?_
    refine zr_iconst X (nI (1)) dX6_holder_23 (by decide +kernel) ?_
    refine zr_iald X (j := 1) 0 (nI (c)) dX6_holder_24 (by omega) rfl rfl rfl (by omega) (by omega) (zcg (b := 1) (by omega) (hc)) ?_
    refine zr_icmp_ge X 129 dX6_holder_25 (by decide) (fun _ => ?_) (fun q => absurd (zq_le (by omega) (by omega)) q)
    refine zr_bipush X (-5) dX6_holder_129 (by decide +kernel) ?_
    exact zr_iret X dX6_holder_131 ⟨hP18.symm, rfl⟩
  · intro f hf hP18 ih18
    refine zr_iloadn X 3 dX6_holder_18 rfl ?_
    refine zr_aloadn X 0 dX6_holder_19 rfl ?_
    refine zr_get X (ci := 6) (q := 0) (zR (1)) (.ref (ad (1))) dX6_holder_20 (by omega) rfl rfl inX6 (by decide) rfl (rfl) rfl k_539 ?_
    refine zr_iconst X (nI (1)) dX6_holder_23 (by decide +kernel) ?_
    refine zr_iald X (j := 1) 0 (nI (c)) dX6_holder_24 (by omega) rfl rfl rfl (by omega) (by omega) (zcg (b := 1) (by omega) (hc)) ?_
    refine zr_icmp_ge X 129 dX6_holder_25 (by decide) (fun q => absurd q (nI_ge (by omega) (by omega))) (fun _ => ?_)
    refine zr_aloadn X 0 dX6_holder_28 rfl ?_
    refine zr_get X (ci := 6) (q := 0) (zR (1)) (.ref (ad (1))) dX6_holder_29 (by omega) rfl rfl inX6 (by decide) rfl (rfl) rfl k_539 ?_
    refine zr_iloadn X 3 dX6_holder_32 rfl ?_
    refine zr_iconst X (nI (0)) dX6_holder_33 (by decide +kernel) ?_
    refine zr_iloadn X 1 dX6_holder_34 rfl ?_
    refine zr_iadd X (nI (v)) dX6_holder_35 ((nI_add _ _).trans (congrArg nI (by omega))) ?_
    refine zr_dSi [.int (nI (f)), .int (nI (v))] [.ref (ad (1))] X (zK_ok A D tc tF tL tM) (zM_i (z1 := nI (32 * f + v + 7)) (c_of E μ (f) (v)) (congrArg nI (by omega))) k_597 k_598 k_7 k_599 hdX6_of ⟨rfl, rfl⟩ ⟨Nat.le_of_ble_eq_true rfl, Nat.le_of_ble_eq_true rfl⟩ rfl rfl (Nat.le_of_ble_eq_true rfl) dX6_holder_36 ?_
    refine zr_iald X (j := 32 * f + v + 7) 0 (μ (32 * f + v + 7)) dX6_holder_39 (by omega) rfl rfl rfl (by omega) (by omega) (zcg (b := 32 * f + v + 7) (by omega) (rfl)) ?_
    refine zr_istore X [1, 2, 3, 4, 0] [(0, .ref (ad (0))), (1, .int (nI (v))), (2, .int (z)), (3, .int (nI (f))), (4, .int (μ (32 * f + v + 7)))] dX6_holder_40 (by decide) rfl ?_
    refine zr_iconst X (nI (0)) dX6_holder_42 (by decide +kernel) ?_
    refine zr_istore X [1, 2, 3, 4, 5, 0] [(0, .ref (ad (0))), (1, .int (nI (v))), (2, .int (z)), (3, .int (nI (f))), (4, .int (μ (32 * f + v + 7))), (5, .int (nI (0)))] dX6_holder_43 (by decide) rfl ?_
    refine zr_iconst X (nI (0)) dX6_holder_45 (by decide +kernel) ?_
    refine zr_istore X [1, 2, 3, 4, 5, 6, 0] [(0, .ref (ad (0))), (1, .int (nI (v))), (2, .int (z)), (3, .int (nI (f))), (4, .int (μ (32 * f + v + 7))), (5, .int (nI (0))), (6, .int (nI (0)))] dX6_holder_46 (by decide) rfl ?_
    refine zr_for X (c) (fun j => μ) (fun j => [(0, .ref (ad (0))), (1, .int (nI (v))), (2, .int (z)), (3, .int (nI (f))), (4, .int (μ (32 * f + v + 7))), (5, .int (nI (zah (fun f => μ (32 * f + v + 7)) (μ (32 * f + v + 7)) f (j)))), (6, .int (nI (j)))]) [] (rfl) rfl ?_ ?_
    · refine zr_iload X 6 dX6_holder_48 rfl ?_
      refine zr_aloadn X 0 dX6_holder_50 rfl ?_
      refine zr_get X (ci := 6) (q := 0) (zR (1)) (.ref (ad (1))) dX6_holder_51 (by omega) rfl rfl inX6 (by decide) rfl (rfl) rfl k_539 ?_
      refine zr_iconst X (nI (1)) dX6_holder_54 (by decide +kernel) ?_
      refine zr_iald X (j := 1) 0 (nI (c)) dX6_holder_55 (by omega) rfl rfl rfl (by omega) (by omega) (zcg (b := 1) (by omega) (hc)) ?_
      refine zr_icmp_ge X 110 dX6_holder_56 (by decide) (fun _ => ?_) (fun q => absurd (zq_le (by omega) (by omega)) q)
      refine zr_iload X 4 dX6_holder_110 rfl ?_
      refine zr_if_le X 123 dX6_holder_112 (by decide) (fun h112 => ?_) (fun h112 => ?_)
      · refine zr_iinc X 3 (nI (f + 1)) [1, 2, 3, 0, 4, 5, 6] [(0, .ref (ad (0))), (1, .int (nI (v))), (2, .int (z)), (3, .int (nI (f + 1))), (4, .int (μ (32 * f + v + 7))), (5, .int (nI (zah (fun f => μ (32 * f + v + 7)) (μ (32 * f + v + 7)) f (c)))), (6, .int (nI (c)))] dX6_holder_123 rfl (zinc _) (by decide) rfl ?_
        refine zr_goto X 18 dX6_holder_126 (by decide) ?_
        refine zr_drop X [0, 1, 2, 3] [(0, .ref (ad (0))), (1, .int (nI (v))), (2, .int (z)), (3, .int (nI (f + 1)))] rfl ?_
        exact ih18 (by show zhol (fun f => μ (32 * f + v + 7)) c z (f + 1) = -5; simp only [zhol]; rw [if_pos hP18, if_pos h112])
      · refine zr_iload X 5 dX6_holder_115 rfl ?_
        refine zr_iloadn X 2 dX6_holder_117 rfl ?_
        refine zr_icmp_ne X 123 dX6_holder_118 (by decide) (fun h118 => ?_) (fun h118 => ?_)
        · refine zr_iinc X 3 (nI (f + 1)) [1, 2, 3, 0, 4, 5, 6] [(0, .ref (ad (0))), (1, .int (nI (v))), (2, .int (z)), (3, .int (nI (f + 1))), (4, .int (μ (32 * f + v + 7))), (5, .int (nI (zah (fun f => μ (32 * f + v + 7)) (μ (32 * f + v + 7)) f (c)))), (6, .int (nI (c)))] dX6_holder_123 rfl (zinc _) (by decide) rfl ?_
          refine zr_goto X 18 dX6_holder_126 (by decide) ?_
          refine zr_drop X [0, 1, 2, 3] [(0, .ref (ad (0))), (1, .int (nI (v))), (2, .int (z)), (3, .int (nI (f + 1)))] rfl ?_
          exact ih18 (by show zhol (fun f => μ (32 * f + v + 7)) c z (f + 1) = -5; simp only [zhol]; rw [if_pos hP18, if_neg h112, if_neg h118])
        · refine zr_iloadn X 3 dX6_holder_121 rfl ?_
          exact zr_iret X dX6_holder_122 ⟨by have := zhol_stay (g := (fun f => μ (32 * f + v + 7))) (c := c) (x := z) (i := f) (by omega) (by simp only [zhol]; rw [if_pos hP18, if_neg h112, if_pos h118]) (c - (f + 1)); rw [show f + 1 + (c - (f + 1)) = c by omega] at this; exact this.symm, rfl⟩
    · intro j hj ih48
      refine zr_iload X 6 dX6_holder_48 rfl ?_
      refine zr_aloadn X 0 dX6_holder_50 rfl ?_
      refine zr_get X (ci := 6) (q := 0) (zR (1)) (.ref (ad (1))) dX6_holder_51 (by omega) rfl rfl inX6 (by decide) rfl (rfl) rfl k_539 ?_
      refine zr_iconst X (nI (1)) dX6_holder_54 (by decide +kernel) ?_
      refine zr_iald X (j := 1) 0 (nI (c)) dX6_holder_55 (by omega) rfl rfl rfl (by omega) (by omega) (zcg (b := 1) (by omega) (hc)) ?_
      refine zr_icmp_ge X 110 dX6_holder_56 (by decide) (fun q => absurd q (nI_ge (by omega) (by omega))) (fun _ => ?_)
      refine zr_aloadn X 0 dX6_holder_59 rfl ?_
      refine zr_get X (ci := 6) (q := 0) (zR (1)) (.ref (ad (1))) dX6_holder_60 (by omega) rfl rfl inX6 (by decide) rfl (rfl) rfl k_539 ?_
      refine zr_iload X 6 dX6_holder_63 rfl ?_
      refine zr_iconst X (nI (0)) dX6_holder_65 (by decide +kernel) ?_
      refine zr_iloadn X 1 dX6_holder_66 rfl ?_
      refine zr_iadd X (nI (v)) dX6_holder_67 ((nI_add _ _).trans (congrArg nI (by omega))) ?_
      refine zr_dSi [.int (nI (j)), .int (nI (v))] [.ref (ad (1))] X (zK_ok A D tc tF tL tM) (zM_i (z1 := nI (32 * j + v + 7)) (c_of E μ (j) (v)) (congrArg nI (by omega))) k_597 k_598 k_7 k_599 hdX6_of ⟨rfl, rfl⟩ ⟨Nat.le_of_ble_eq_true rfl, Nat.le_of_ble_eq_true rfl⟩ rfl rfl (Nat.le_of_ble_eq_true rfl) dX6_holder_68 ?_
      refine zr_iald X (j := 32 * j + v + 7) 0 (μ (32 * j + v + 7)) dX6_holder_71 (by omega) rfl rfl rfl (by omega) (by omega) (zcg (b := 32 * j + v + 7) (by omega) (rfl)) ?_
      refine zr_istore X [1, 2, 3, 4, 5, 6, 7, 0] [(0, .ref (ad (0))), (1, .int (nI (v))), (2, .int (z)), (3, .int (nI (f))), (4, .int (μ (32 * f + v + 7))), (5, .int (nI (zah (fun f => μ (32 * f + v + 7)) (μ (32 * f + v + 7)) f (j)))), (6, .int (nI (j))), (7, .int (μ (32 * j + v + 7)))] dX6_holder_72 (by decide) rfl ?_
      refine zr_iload X 5 dX6_holder_74 rfl ?_
      refine zr_iload X 7 dX6_holder_76 rfl ?_
      refine zr_iload X 4 dX6_holder_78 rfl ?_
      refine zr_icmp_gt X 96 dX6_holder_80 (by decide) (fun h80 => ?_) (fun h80 => ?_)
      · refine zr_iconst X (nI (1)) dX6_holder_96 (by decide +kernel) ?_
        refine zr_goto X 101 dX6_holder_97 (by decide) ?_
        refine zr_iadd X (nI (zah (fun f => μ (32 * f + v + 7)) (μ (32 * f + v + 7)) f (j) + 1)) dX6_holder_101 (nI_add _ _) ?_
        refine zr_istore X [1, 2, 3, 4, 5, 0, 6, 7] [(0, .ref (ad (0))), (1, .int (nI (v))), (2, .int (z)), (3, .int (nI (f))), (4, .int (μ (32 * f + v + 7))), (5, .int (nI (zah (fun f => μ (32 * f + v + 7)) (μ (32 * f + v + 7)) f (j) + 1))), (6, .int (nI (j))), (7, .int (μ (32 * j + v + 7)))] dX6_holder_102 (by decide) rfl ?_
        refine zr_iinc X 6 (nI (j + 1)) [1, 2, 3, 4, 5, 6, 0, 7] [(0, .ref (ad (0))), (1, .int (nI (v))), (2, .int (z)), (3, .int (nI (f))), (4, .int (μ (32 * f + v + 7))), (5, .int (nI (zah (fun f => μ (32 * f + v + 7)) (μ (32 * f + v + 7)) f (j) + 1))), (6, .int (nI (j + 1))), (7, .int (μ (32 * j + v + 7)))] dX6_holder_104 rfl (zinc _) (by decide) rfl ?_
        refine zr_goto X 48 dX6_holder_107 (by decide) ?_
        refine zr_drop X [0, 1, 2, 3, 4, 5, 6] [(0, .ref (ad (0))), (1, .int (nI (v))), (2, .int (z)), (3, .int (nI (f))), (4, .int (μ (32 * f + v + 7))), (5, .int (nI (zah (fun f => μ (32 * f + v + 7)) (μ (32 * f + v + 7)) f (j) + 1))), (6, .int (nI (j + 1)))] rfl ?_
        exact zr_lv X (by simp only [zah, Nat.add_zero, if_pos h80]) ih48
      · refine zr_iload X 7 dX6_holder_83 rfl ?_
        refine zr_iload X 4 dX6_holder_85 rfl ?_
        refine zr_icmp_ne X 100 dX6_holder_87 (by decide) (fun h87 => ?_) (fun h87 => ?_)
        · refine zr_iconst X (nI (0)) dX6_holder_100 (by decide +kernel) ?_
          refine zr_iadd X (nI (zah (fun f => μ (32 * f + v + 7)) (μ (32 * f + v + 7)) f (j))) dX6_holder_101 ((nI_add _ _).trans (congrArg nI (by omega))) ?_
          refine zr_istore X [1, 2, 3, 4, 5, 0, 6, 7] [(0, .ref (ad (0))), (1, .int (nI (v))), (2, .int (z)), (3, .int (nI (f))), (4, .int (μ (32 * f + v + 7))), (5, .int (nI (zah (fun f => μ (32 * f + v + 7)) (μ (32 * f + v + 7)) f (j)))), (6, .int (nI (j))), (7, .int (μ (32 * j + v + 7)))] dX6_holder_102 (by decide) rfl ?_
          refine zr_iinc X 6 (nI (j + 1)) [1, 2, 3, 4, 5, 6, 0, 7] [(0, .ref (ad (0))), (1, .int (nI (v))), (2, .int (z)), (3, .int (nI (f))), (4, .int (μ (32 * f + v + 7))), (5, .int (nI (zah (fun f => μ (32 * f + v + 7)) (μ (32 * f + v + 7)) f (j)))), (6, .int (nI (j + 1))), (7, .int (μ (32 * j + v + 7)))] dX6_holder_104 rfl (zinc _) (by decide) rfl ?_
          refine zr_goto X 48 dX6_holder_107 (by decide) ?_
          refine zr_drop X [0, 1, 2, 3, 4, 5, 6] [(0, .ref (ad (0))), (1, .int (nI (v))), (2, .int (z)), (3, .int (nI (f))), (4, .int (μ (32 * f + v + 7))), (5, .int (nI (zah (fun f => μ (32 * f + v + 7)) (μ (32 * f + v + 7)) f (j)))), (6, .int (nI (j + 1)))] rfl ?_
          exact zr_lv X (by simp only [zah, Nat.add_zero, if_neg h80, if_neg h87]) ih48
        · refine zr_iload X 6 dX6_holder_90 rfl ?_
          refine zr_iloadn X 3 dX6_holder_92 rfl ?_
          refine zr_icmp_ge X 100 dX6_holder_93 (by decide) (fun h93 => ?_) (fun h93 => ?_)
          · have h93 : f ≤ j := (nI_leI (by omega) (by omega)).mp h93
            refine zr_iconst X (nI (0)) dX6_holder_100 (by decide +kernel) ?_
            refine zr_iadd X (nI (zah (fun f => μ (32 * f + v + 7)) (μ (32 * f + v + 7)) f (j))) dX6_holder_101 ((nI_add _ _).trans (congrArg nI (by omega))) ?_
            refine zr_istore X [1, 2, 3, 4, 5, 0, 6, 7] [(0, .ref (ad (0))), (1, .int (nI (v))), (2, .int (z)), (3, .int (nI (f))), (4, .int (μ (32 * f + v + 7))), (5, .int (nI (zah (fun f => μ (32 * f + v + 7)) (μ (32 * f + v + 7)) f (j)))), (6, .int (nI (j))), (7, .int (μ (32 * j + v + 7)))] dX6_holder_102 (by decide) rfl ?_
            refine zr_iinc X 6 (nI (j + 1)) [1, 2, 3, 4, 5, 6, 0, 7] [(0, .ref (ad (0))), (1, .int (nI (v))), (2, .int (z)), (3, .int (nI (f))), (4, .int (μ (32 * f + v + 7))), (5, .int (nI (zah (fun f => μ (32 * f + v + 7)) (μ (32 * f + v + 7)) f (j)))), (6, .int (nI (j + 1))), (7, .int (μ (32 * j + v + 7)))] dX6_holder_104 rfl (zinc _) (by decide) rfl ?_
            refine zr_goto X 48 dX6_holder_107 (by decide) ?_
            refine zr_drop X [0, 1, 2, 3, 4, 5, 6] [(0, .ref (ad (0))), (1, .int (nI (v))), (2, .int (z)), (3, .int (nI (f))), (4, .int (μ (32 * f + v + 7))), (5, .int (nI (zah (fun f => μ (32 * f + v + 7)) (μ (32 * f + v + 7)) f (j)))), (6, .int (nI (j + 1)))] rfl ?_
            exact zr_lv X (by simp only [zah, Nat.add_zero, if_neg h80, if_pos h87, if_pos h93]) ih48
          · have h93 : ¬ f ≤ j := fun q => h93 (nI_le q (by omega))
            refine zr_iconst X (nI (1)) dX6_holder_96 (by decide +kernel) ?_
            refine zr_goto X 101 dX6_holder_97 (by decide) ?_
            refine zr_iadd X (nI (zah (fun f => μ (32 * f + v + 7)) (μ (32 * f + v + 7)) f (j) + 1)) dX6_holder_101 (nI_add _ _) ?_
            refine zr_istore X [1, 2, 3, 4, 5, 0, 6, 7] [(0, .ref (ad (0))), (1, .int (nI (v))), (2, .int (z)), (3, .int (nI (f))), (4, .int (μ (32 * f + v + 7))), (5, .int (nI (zah (fun f => μ (32 * f + v + 7)) (μ (32 * f + v + 7)) f (j) + 1))), (6, .int (nI (j))), (7, .int (μ (32 * j + v + 7)))] dX6_holder_102 (by decide) rfl ?_
            refine zr_iinc X 6 (nI (j + 1)) [1, 2, 3, 4, 5, 6, 0, 7] [(0, .ref (ad (0))), (1, .int (nI (v))), (2, .int (z)), (3, .int (nI (f))), (4, .int (μ (32 * f + v + 7))), (5, .int (nI (zah (fun f => μ (32 * f + v + 7)) (μ (32 * f + v + 7)) f (j) + 1))), (6, .int (nI (j + 1))), (7, .int (μ (32 * j + v + 7)))] dX6_holder_104 rfl (zinc _) (by decide) rfl ?_
            refine zr_goto X 48 dX6_holder_107 (by decide) ?_
            refine zr_drop X [0, 1, 2, 3, 4, 5, 6] [(0, .ref (ad (0))), (1, .int (nI (v))), (2, .int (z)), (3, .int (nI (f))), (4, .int (μ (32 * f + v + 7))), (5, .int (nI (zah (fun f => μ (32 * f + v + 7)) (μ (32 * f + v + 7)) f (j) + 1))), (6, .int (nI (j + 1)))] rfl ?_
            exact zr_lv X (by simp only [zah, Nat.add_zero, if_neg h80, if_pos h87, if_neg h93]) ih48

