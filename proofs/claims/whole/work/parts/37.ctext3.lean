set_option maxHeartbeats 4000000 in
set_option maxRecDepth 100000 in
theorem d_all_a {l : Launch} {D : va_G} {tc : Nat → ClassId} {ad : Nat → Nat} {A : Nat → Prop} {tF tL tM : Nat} (E : zN 299 A ad) (μ : Nat → Int32) {w : Nat → Int32} (hw : ∀ q, q < 60 → μ (q + 2500) = w q) {n : Nat} (hn : μ 2491 = nI n) (hn2 : n ≤ 60) {q : Nat} (hF : zsF w n 0 q)  : zMi l yX4_readAll cX4_readAll 2 (some .boolean) (zrm 4) (zK A D tc tF tL tM) A D vwCl tc ad 299 shC [.ref (ad (293))] μ (fun r u => r = nI 0 ∧ u 2497 = nI (q) ∧ ∀ x, x ≠ 2496 → x ≠ 2497 → (x < 2560 ∨ 2592 ≤ x) → u x = μ x) := by
  refine zM_of RX4 [(0, .ref (ad (293)))] (zK_ok A D tc tF tL tM) E.1 E.2 owC_ok (by decide +kernel) rfl (Nat.le_of_ble_eq_true rfl) rfl ?_
  intro pP eE sS mM aS bL mT cO X
  refine zr_aloadn X 0 dX4_readAll_0 rfl ?_
  refine zr_iconst X (nI (0)) dX4_readAll_1 (by decide +kernel) ?_
  refine zr_put X (ci := 4) (q := 7) (ty0 := tyX4) (ty := .int) (2497) dX4_readAll_2 (by omega) sc_293 rfl inX4 tyX4_ok nmX4 (by decide) rfl rfl rfl rfl rfl rfl k_195 (by omega) ?_
  refine zr_aloadn X 0 dX4_readAll_5 rfl ?_
  refine zr_iconst X (nI (0)) dX4_readAll_6 (by decide +kernel) ?_
  refine zr_put X (ci := 4) (q := 6) (ty0 := tyX4) (ty := .int) (2496) dX4_readAll_7 (by omega) sc_293 rfl inX4 tyX4_ok nmX4 (by decide) rfl rfl rfl rfl rfl rfl k_193 (by omega) ?_
  refine zr_iconst X (nI (0)) dX4_readAll_10 (by decide +kernel) ?_
  refine zr_istoren X [1, 0] [(0, .ref (ad (293))), (1, .int (nI (0)))] dX4_readAll_11 (by decide) rfl ?_
  refine zr_iloadn X 1 dX4_readAll_12 rfl ?_
  refine zr_bipush X (nI (8)) dX4_readAll_13 (by decide +kernel) ?_
  refine zr_icmp_ge X 65 dX4_readAll_15 (by decide) (fun q => absurd q (nI_ge (by omega) (by omega))) (fun _ => ?_)
  refine zr_aloadn X 0 dX4_readAll_18 rfl ?_
  refine zr_iloadn X 1 dX4_readAll_19 rfl ?_
  refine zr_cVi (C := RX4) (ci := 4) [.int (nI (0))] [] X (zK_ok A D tc tF tL tM) (d_one_F E (upd (upd μ (2497) (nI (0))) (2496) (nI (0))) (fun z hz => ((pk_un (by omega)).trans ((pk_un (by omega)).trans (rfl))).trans (hw z hz)) (p := 0) ((pk_un (by omega)).trans (pk_us)) (by omega) ((pk_un (by omega)).trans ((pk_un (by omega)).trans (hn))) hn2 (i := 0) (by omega) hF) k_398 k_399 k_400 k_6 k_401 hdX4_readOne ⟨rfl, rfl⟩ ⟨Nat.le_of_ble_eq_true rfl, Nat.le_of_ble_eq_true rfl⟩ (by omega) sc_293 rfl rfl rfl (Nat.le_of_ble_eq_true rfl) dX4_readAll_20 (fun z14 u13 hq14 => ?_)
  obtain ⟨rfl, g13a, g13f⟩ := hq14
  refine zr_if_ne X 28 dX4_readAll_23 (by decide) (fun q => absurd (zq_eq0 (by omega)) q) (fun _ => ?_)
  refine zr_iconst X (nI (0)) dX4_readAll_26 (by decide +kernel) ?_
  exact zr_zret X dX4_readAll_27 rfl ⟨rfl, g13a, fun x hx1 hx2 hx3 => (g13f _ (by omega) (by omega) (by omega) (by omega) (by omega)).trans ((pk_un (by omega)).trans ((pk_un (by omega)).trans (rfl)))⟩

set_option maxHeartbeats 4000000 in
set_option maxRecDepth 100000 in
theorem d_all_b {l : Launch} {D : va_G} {tc : Nat → ClassId} {ad : Nat → Nat} {A : Nat → Prop} {tF tL tM : Nat} (E : zN 299 A ad) (μ : Nat → Int32) {w : Nat → Int32} (hw : ∀ q, q < 60 → μ (q + 2500) = w q) {n : Nat} (hn : μ 2491 = nI n) (hn2 : n ≤ 60) {S E0 A0 B0 V0 T0 : Nat → Nat} {K : Nat} (ch : zch w n S E0 A0 B0 V0 T0 K) (F7 : zis w n 59 (E0 K)) (hS1 : S (K + 1) = E0 K + 1) {q : Nat} (hF : zsF w n (S (K + 1)) q)  : zMi l yX4_readAll cX4_readAll 2 (some .boolean) (zrm 4) (zK A D tc tF tL tM) A D vwCl tc ad 299 shC [.ref (ad (293))] μ (fun r u => r = nI 0 ∧ u 2497 = nI (q) ∧ ∀ x, x ≠ 2496 → x ≠ 2497 → (x < 2560 ∨ 2592 ≤ x) → u x = μ x) := by
  refine zM_of RX4 [(0, .ref (ad (293)))] (zK_ok A D tc tF tL tM) E.1 E.2 owC_ok (by decide +kernel) rfl (Nat.le_of_ble_eq_true rfl) rfl ?_
  intro pP eE sS mM aS bL mT cO X
  refine zr_aloadn X 0 dX4_readAll_0 rfl ?_
  refine zr_iconst X (nI (0)) dX4_readAll_1 (by decide +kernel) ?_
  refine zr_put X (ci := 4) (q := 7) (ty0 := tyX4) (ty := .int) (2497) dX4_readAll_2 (by omega) sc_293 rfl inX4 tyX4_ok nmX4 (by decide) rfl rfl rfl rfl rfl rfl k_195 (by omega) ?_
  refine zr_aloadn X 0 dX4_readAll_5 rfl ?_
  refine zr_iconst X (nI (0)) dX4_readAll_6 (by decide +kernel) ?_
  refine zr_put X (ci := 4) (q := 6) (ty0 := tyX4) (ty := .int) (2496) dX4_readAll_7 (by omega) sc_293 rfl inX4 tyX4_ok nmX4 (by decide) rfl rfl rfl rfl rfl rfl k_193 (by omega) ?_
  refine zr_iconst X (nI (0)) dX4_readAll_10 (by decide +kernel) ?_
  refine zr_istoren X [1, 0] [(0, .ref (ad (293))), (1, .int (nI (0)))] dX4_readAll_11 (by decide) rfl ?_
  refine zr_forM X (K + 1) (fun i u => u 2497 = nI (S i) ∧ (∀ j, j < i → u (j + 2560) = nI (A0 j) ∧ u (j + 2568) = nI (B0 j) ∧ u (j + 2576) = nI (V0 j) ∧ u (j + 2584) = nI (T0 j)) ∧ ∀ x, x ≠ 2496 → x ≠ 2497 → (x < 2560 ∨ 2592 ≤ x) → u x = μ x) (fun i => [(0, .ref (ad (293))), (1, .int (nI (i)))]) [] (⟨((pk_un (by omega)).trans (pk_us)).trans (congrArg nI ch.1.symm), fun j hj => absurd hj (Nat.not_lt_zero j), fun x hx1 hx2 hx3 => (pk_un (by omega)).trans ((pk_un (by omega)).trans (rfl))⟩) rfl ?_ ?_
  · intro u10 hg10
    have hK := zch_K ch hn2
    have hT := ch.2.1 K (Nat.le_refl _)
    have hl := zsT_len hT
    have hlt := F7.1
    refine zr_iloadn X 1 dX4_readAll_12 rfl ?_
    refine zr_bipush X (nI (8)) dX4_readAll_13 (by decide +kernel) ?_
    refine zr_icmp_ge X 65 dX4_readAll_15 (by decide) (fun q => absurd q (nI_ge (by omega) (by omega))) (fun _ => ?_)
    refine zr_aloadn X 0 dX4_readAll_18 rfl ?_
    refine zr_iloadn X 1 dX4_readAll_19 rfl ?_
    refine zr_cVi (C := RX4) (ci := 4) [.int (nI (K + 1))] [] X (zK_ok A D tc tF tL tM) (d_one_F E u10 (fun z hz => ((hg10.2.2 _ (by omega) (by omega) (by omega)).trans (rfl)).trans (hw z hz)) (p := (S (K + 1))) (hg10.1) (by omega) ((hg10.2.2 _ (by omega) (by omega) (by omega)).trans (hn)) hn2 (i := K + 1) (by omega) hF) k_398 k_399 k_400 k_6 k_401 hdX4_readOne ⟨rfl, rfl⟩ ⟨Nat.le_of_ble_eq_true rfl, Nat.le_of_ble_eq_true rfl⟩ (by omega) sc_293 rfl rfl rfl (Nat.le_of_ble_eq_true rfl) dX4_readAll_20 (fun z21 u20 hq21 => ?_)
    obtain ⟨rfl, g20a, g20f⟩ := hq21
    refine zr_if_ne X 28 dX4_readAll_23 (by decide) (fun q => absurd (zq_eq0 (by omega)) q) (fun _ => ?_)
    refine zr_iconst X (nI (0)) dX4_readAll_26 (by decide +kernel) ?_
    exact zr_zret X dX4_readAll_27 rfl ⟨rfl, g20a, fun x hx1 hx2 hx3 => (g20f _ (by omega) (by omega) (by omega) (by omega) (by omega)).trans ((hg10.2.2 _ (by omega) (by omega) (by omega)).trans (rfl))⟩
  · intro i u25 hi hg25 ih12
    have hK := zch_K ch hn2
    have hT := ch.2.1 i (by omega)
    have hl := zsT_len hT
    have F7 : zis w n 59 (E0 i) := by by_cases q : i < K; exact (ch.2.2 i q).1; have : i = K := (by omega); rw [this]; exact F7
    have hSi : S (i + 1) = E0 i + 1 := by by_cases q : i < K; exact (ch.2.2 i q).2; have : i = K := (by omega); rw [this]; exact hS1
    have hlt := F7.1
    refine zr_iloadn X 1 dX4_readAll_12 rfl ?_
    refine zr_bipush X (nI (8)) dX4_readAll_13 (by decide +kernel) ?_
    refine zr_icmp_ge X 65 dX4_readAll_15 (by decide) (fun q => absurd q (nI_ge (by omega) (by omega))) (fun _ => ?_)
    refine zr_aloadn X 0 dX4_readAll_18 rfl ?_
    refine zr_iloadn X 1 dX4_readAll_19 rfl ?_
    refine zr_cVi (C := RX4) (ci := 4) [.int (nI (i))] [] X (zK_ok A D tc tF tL tM) (d_one_T E u25 (fun z hz => ((hg25.2.2 _ (by omega) (by omega) (by omega)).trans (rfl)).trans (hw z hz)) (p := (S (i))) (hg25.1) (by omega) ((hg25.2.2 _ (by omega) (by omega) (by omega)).trans (hn)) hn2 (i := i) (by omega) hT) k_398 k_399 k_400 k_6 k_401 hdX4_readOne ⟨rfl, rfl⟩ ⟨Nat.le_of_ble_eq_true rfl, Nat.le_of_ble_eq_true rfl⟩ (by omega) sc_293 rfl rfl rfl (Nat.le_of_ble_eq_true rfl) dX4_readAll_20 (fun z38 u37 hq38 => ?_)
    obtain ⟨rfl, g37a, g37b, g37c, g37d, g37e, g37f⟩ := hq38
    refine zr_if_ne X 28 dX4_readAll_23 (by decide) (fun _ => ?_) (fun q => absurd q (nI_ne0 (by omega) (by omega)))
    refine zr_aloadn X 0 dX4_readAll_28 rfl ?_
    refine zr_iloadn X 1 dX4_readAll_29 rfl ?_
    refine zr_iconst X (nI (1)) dX4_readAll_30 (by decide +kernel) ?_
    refine zr_iadd X (nI (i + 1)) dX4_readAll_31 (nI_add _ _) ?_
    refine zr_put X (ci := 4) (q := 6) (ty0 := tyX4) (ty := .int) (2496) dX4_readAll_32 (by omega) sc_293 rfl inX4 tyX4_ok nmX4 (by decide) rfl rfl rfl rfl rfl rfl k_193 (by omega) ?_
    refine zr_aloadn X 0 dX4_readAll_35 rfl ?_
    refine zr_get X (ci := 4) (q := 7) zI (.int (nI ((E0 i)))) dX4_readAll_36 (by omega) sc_293 rfl inX4 (by decide) rfl (congrArg Value.int ((pk_un (by omega)).trans ((g37a)))) rfl k_195 ?_
    refine zr_aloadn X 0 dX4_readAll_39 rfl ?_
    refine zr_get X (ci := 4) (q := 1) zI (.int (nI (n))) dX4_readAll_40 (by omega) sc_293 rfl inX4 (by decide) rfl (congrArg Value.int ((pk_un (by omega)).trans (((g37f _ (by omega) (by omega) (by omega) (by omega) (by omega)).trans ((hg25.2.2 _ (by omega) (by omega) (by omega)).trans (hn)))))) rfl k_183 ?_
    refine zr_icmp_ne X 48 dX4_readAll_43 (by decide) (fun _ => ?_) (fun q => absurd q (zq_ne (by omega) (by omega) (by omega)))
    refine zr_aloadn X 0 dX4_readAll_48 rfl ?_
    refine zr_bipush X (nI (59)) dX4_readAll_49 (by decide +kernel) ?_
    refine zr_dVi (C := RX4) (ci := 4) [.int (nI (59))] [] X (zK_ok A D tc tF tL tM) (d_rs_t E (upd u37 (2496) (nI (i + 1))) (fun z hz => ((pk_un (by omega)).trans (((g37f _ (by omega) (by omega) (by omega) (by omega) (by omega)).trans ((hg25.2.2 _ (by omega) (by omega) (by omega)).trans (rfl))))).trans (hw z hz)) (p := (E0 i)) ((pk_un (by omega)).trans ((g37a))) (by omega) ((pk_un (by omega)).trans (((g37f _ (by omega) (by omega) (by omega) (by omega) (by omega)).trans ((hg25.2.2 _ (by omega) (by omega) (by omega)).trans (hn))))) hn2 (c := 59) F7) k_410 k_411 k_412 k_6 k_413 hdX4_readSign ⟨rfl, rfl⟩ ⟨Nat.le_of_ble_eq_true rfl, Nat.le_of_ble_eq_true rfl⟩ (by omega) sc_293 rfl rfl rfl (Nat.le_of_ble_eq_true rfl) dX4_readAll_51 ?_
    refine zr_if_ne X 59 dX4_readAll_54 (by decide) (fun _ => ?_) (fun q => absurd q (nI_ne0 (by omega) (by omega)))
    refine zr_iinc X 1 (nI (i + 1)) [1, 0] [(0, .ref (ad (293))), (1, .int (nI (i + 1)))] dX4_readAll_59 rfl (zinc _) (by decide) rfl ?_
    refine zr_goto X 12 dX4_readAll_62 (by decide) ?_
    exact ih12 _ ⟨(pk_us).trans (congrArg nI hSi.symm), fun j hj => (Nat.lt_or_ge j i).elim (fun hji => ⟨(pk_un (by omega)).trans ((pk_un (by omega)).trans (((g37f _ (by omega) (by omega) (by omega) (by omega) (by omega)).trans ((hg25.2.1 j hji).1)))), (pk_un (by omega)).trans ((pk_un (by omega)).trans (((g37f _ (by omega) (by omega) (by omega) (by omega) (by omega)).trans ((hg25.2.1 j hji).2.1)))), (pk_un (by omega)).trans ((pk_un (by omega)).trans (((g37f _ (by omega) (by omega) (by omega) (by omega) (by omega)).trans ((hg25.2.1 j hji).2.2.1)))), (pk_un (by omega)).trans ((pk_un (by omega)).trans (((g37f _ (by omega) (by omega) (by omega) (by omega) (by omega)).trans ((hg25.2.1 j hji).2.2.2))))⟩) (fun hji => by have hq : j = i := (by omega); rw [hq]; exact ⟨(pk_un (by omega)).trans ((pk_un (by omega)).trans ((g37b))), (pk_un (by omega)).trans ((pk_un (by omega)).trans ((g37c))), (pk_un (by omega)).trans ((pk_un (by omega)).trans ((g37d))), (pk_un (by omega)).trans ((pk_un (by omega)).trans ((g37e)))⟩), fun x hx1 hx2 hx3 => (pk_un (by omega)).trans ((pk_un (by omega)).trans (((g37f _ (by omega) (by omega) (by omega) (by omega) (by omega)).trans ((hg25.2.2 _ (by omega) (by omega) (by omega)).trans (rfl)))))⟩

set_option maxHeartbeats 4000000 in
set_option maxRecDepth 100000 in
theorem d_all_c {l : Launch} {D : va_G} {tc : Nat → ClassId} {ad : Nat → Nat} {A : Nat → Prop} {tF tL tM : Nat} (E : zN 299 A ad) (μ : Nat → Int32) {w : Nat → Int32} (hw : ∀ q, q < 60 → μ (q + 2500) = w q) {n : Nat} (hn : μ 2491 = nI n) (hn2 : n ≤ 60) {S E0 A0 B0 V0 T0 : Nat → Nat} {K : Nat} (ch : zch w n S E0 A0 B0 V0 T0 K) (hE : E0 K ≠ n) (F7 : ¬ zis w n 59 (E0 K))  : zMi l yX4_readAll cX4_readAll 2 (some .boolean) (zrm 4) (zK A D tc tF tL tM) A D vwCl tc ad 299 shC [.ref (ad (293))] μ (fun r u => r = nI 0 ∧ u 2497 = nI (E0 K) ∧ ∀ x, x ≠ 2496 → x ≠ 2497 → (x < 2560 ∨ 2592 ≤ x) → u x = μ x) := by
  refine zM_of RX4 [(0, .ref (ad (293)))] (zK_ok A D tc tF tL tM) E.1 E.2 owC_ok (by decide +kernel) rfl (Nat.le_of_ble_eq_true rfl) rfl ?_
  intro pP eE sS mM aS bL mT cO X
  refine zr_aloadn X 0 dX4_readAll_0 rfl ?_
  refine zr_iconst X (nI (0)) dX4_readAll_1 (by decide +kernel) ?_
  refine zr_put X (ci := 4) (q := 7) (ty0 := tyX4) (ty := .int) (2497) dX4_readAll_2 (by omega) sc_293 rfl inX4 tyX4_ok nmX4 (by decide) rfl rfl rfl rfl rfl rfl k_195 (by omega) ?_
  refine zr_aloadn X 0 dX4_readAll_5 rfl ?_
  refine zr_iconst X (nI (0)) dX4_readAll_6 (by decide +kernel) ?_
  refine zr_put X (ci := 4) (q := 6) (ty0 := tyX4) (ty := .int) (2496) dX4_readAll_7 (by omega) sc_293 rfl inX4 tyX4_ok nmX4 (by decide) rfl rfl rfl rfl rfl rfl k_193 (by omega) ?_
  refine zr_iconst X (nI (0)) dX4_readAll_10 (by decide +kernel) ?_
  refine zr_istoren X [1, 0] [(0, .ref (ad (293))), (1, .int (nI (0)))] dX4_readAll_11 (by decide) rfl ?_
  refine zr_forM X (K) (fun i u => u 2497 = nI (S i) ∧ (∀ j, j < i → u (j + 2560) = nI (A0 j) ∧ u (j + 2568) = nI (B0 j) ∧ u (j + 2576) = nI (V0 j) ∧ u (j + 2584) = nI (T0 j)) ∧ ∀ x, x ≠ 2496 → x ≠ 2497 → (x < 2560 ∨ 2592 ≤ x) → u x = μ x) (fun i => [(0, .ref (ad (293))), (1, .int (nI (i)))]) [] (⟨((pk_un (by omega)).trans (pk_us)).trans (congrArg nI ch.1.symm), fun j hj => absurd hj (Nat.not_lt_zero j), fun x hx1 hx2 hx3 => (pk_un (by omega)).trans ((pk_un (by omega)).trans (rfl))⟩) rfl ?_ ?_
  · intro u10 hg10
    have hK := zch_K ch hn2
    have hT := ch.2.1 K (Nat.le_refl _)
    have hl := zsT_len hT
    refine zr_iloadn X 1 dX4_readAll_12 rfl ?_
    refine zr_bipush X (nI (8)) dX4_readAll_13 (by decide +kernel) ?_
    refine zr_icmp_ge X 65 dX4_readAll_15 (by decide) (fun q => absurd q (nI_ge (by omega) (by omega))) (fun _ => ?_)
    refine zr_aloadn X 0 dX4_readAll_18 rfl ?_
    refine zr_iloadn X 1 dX4_readAll_19 rfl ?_
    refine zr_cVi (C := RX4) (ci := 4) [.int (nI (K))] [] X (zK_ok A D tc tF tL tM) (d_one_T E u10 (fun z hz => ((hg10.2.2 _ (by omega) (by omega) (by omega)).trans (rfl)).trans (hw z hz)) (p := (S (K))) (hg10.1) (by omega) ((hg10.2.2 _ (by omega) (by omega) (by omega)).trans (hn)) hn2 (i := K) (by omega) hT) k_398 k_399 k_400 k_6 k_401 hdX4_readOne ⟨rfl, rfl⟩ ⟨Nat.le_of_ble_eq_true rfl, Nat.le_of_ble_eq_true rfl⟩ (by omega) sc_293 rfl rfl rfl (Nat.le_of_ble_eq_true rfl) dX4_readAll_20 (fun z20 u19 hq20 => ?_)
    obtain ⟨rfl, g19a, g19b, g19c, g19d, g19e, g19f⟩ := hq20
    refine zr_if_ne X 28 dX4_readAll_23 (by decide) (fun _ => ?_) (fun q => absurd q (nI_ne0 (by omega) (by omega)))
    refine zr_aloadn X 0 dX4_readAll_28 rfl ?_
    refine zr_iloadn X 1 dX4_readAll_29 rfl ?_
    refine zr_iconst X (nI (1)) dX4_readAll_30 (by decide +kernel) ?_
    refine zr_iadd X (nI (K + 1)) dX4_readAll_31 (nI_add _ _) ?_
    refine zr_put X (ci := 4) (q := 6) (ty0 := tyX4) (ty := .int) (2496) dX4_readAll_32 (by omega) sc_293 rfl inX4 tyX4_ok nmX4 (by decide) rfl rfl rfl rfl rfl rfl k_193 (by omega) ?_
    refine zr_aloadn X 0 dX4_readAll_35 rfl ?_
    refine zr_get X (ci := 4) (q := 7) zI (.int (nI ((E0 K)))) dX4_readAll_36 (by omega) sc_293 rfl inX4 (by decide) rfl (congrArg Value.int ((pk_un (by omega)).trans ((g19a)))) rfl k_195 ?_
    refine zr_aloadn X 0 dX4_readAll_39 rfl ?_
    refine zr_get X (ci := 4) (q := 1) zI (.int (nI (n))) dX4_readAll_40 (by omega) sc_293 rfl inX4 (by decide) rfl (congrArg Value.int ((pk_un (by omega)).trans (((g19f _ (by omega) (by omega) (by omega) (by omega) (by omega)).trans ((hg10.2.2 _ (by omega) (by omega) (by omega)).trans (hn)))))) rfl k_183 ?_
    refine zr_icmp_ne X 48 dX4_readAll_43 (by decide) (fun _ => ?_) (fun q => absurd q (zq_ne (by omega) (by omega) (by omega)))
    refine zr_aloadn X 0 dX4_readAll_48 rfl ?_
    refine zr_bipush X (nI (59)) dX4_readAll_49 (by decide +kernel) ?_
    refine zr_dVi (C := RX4) (ci := 4) [.int (nI (59))] [] X (zK_ok A D tc tF tL tM) (d_rs_f E (upd u19 (2496) (nI (K + 1))) (fun z hz => ((pk_un (by omega)).trans (((g19f _ (by omega) (by omega) (by omega) (by omega) (by omega)).trans ((hg10.2.2 _ (by omega) (by omega) (by omega)).trans (rfl))))).trans (hw z hz)) (p := (E0 K)) ((pk_un (by omega)).trans ((g19a))) (by omega) ((pk_un (by omega)).trans (((g19f _ (by omega) (by omega) (by omega) (by omega) (by omega)).trans ((hg10.2.2 _ (by omega) (by omega) (by omega)).trans (hn))))) hn2 (c := 59) F7) k_410 k_411 k_412 k_6 k_413 hdX4_readSign ⟨rfl, rfl⟩ ⟨Nat.le_of_ble_eq_true rfl, Nat.le_of_ble_eq_true rfl⟩ (by omega) sc_293 rfl rfl rfl (Nat.le_of_ble_eq_true rfl) dX4_readAll_51 ?_
    refine zr_if_ne X 59 dX4_readAll_54 (by decide) (fun q => absurd (zq_eq0 (by omega)) q) (fun _ => ?_)
    refine zr_iconst X (nI (0)) dX4_readAll_57 (by decide +kernel) ?_
    exact zr_zret X dX4_readAll_58 rfl ⟨rfl, (pk_un (by omega)).trans ((g19a)), fun x hx1 hx2 hx3 => (pk_un (by omega)).trans (((g19f _ (by omega) (by omega) (by omega) (by omega) (by omega)).trans ((hg10.2.2 _ (by omega) (by omega) (by omega)).trans (rfl))))⟩
  · intro i u38 hi hg38 ih12
    have hK := zch_K ch hn2
    have hT := ch.2.1 i (by omega)
    have hl := zsT_len hT
    have F7 := (ch.2.2 i hi).1
    have hSi := (ch.2.2 i hi).2
    have hlt := F7.1
    refine zr_iloadn X 1 dX4_readAll_12 rfl ?_
    refine zr_bipush X (nI (8)) dX4_readAll_13 (by decide +kernel) ?_
    refine zr_icmp_ge X 65 dX4_readAll_15 (by decide) (fun q => absurd q (nI_ge (by omega) (by omega))) (fun _ => ?_)
    refine zr_aloadn X 0 dX4_readAll_18 rfl ?_
    refine zr_iloadn X 1 dX4_readAll_19 rfl ?_
    refine zr_cVi (C := RX4) (ci := 4) [.int (nI (i))] [] X (zK_ok A D tc tF tL tM) (d_one_T E u38 (fun z hz => ((hg38.2.2 _ (by omega) (by omega) (by omega)).trans (rfl)).trans (hw z hz)) (p := (S (i))) (hg38.1) (by omega) ((hg38.2.2 _ (by omega) (by omega) (by omega)).trans (hn)) hn2 (i := i) (by omega) hT) k_398 k_399 k_400 k_6 k_401 hdX4_readOne ⟨rfl, rfl⟩ ⟨Nat.le_of_ble_eq_true rfl, Nat.le_of_ble_eq_true rfl⟩ (by omega) sc_293 rfl rfl rfl (Nat.le_of_ble_eq_true rfl) dX4_readAll_20 (fun z51 u50 hq51 => ?_)
    obtain ⟨rfl, g50a, g50b, g50c, g50d, g50e, g50f⟩ := hq51
    refine zr_if_ne X 28 dX4_readAll_23 (by decide) (fun _ => ?_) (fun q => absurd q (nI_ne0 (by omega) (by omega)))
    refine zr_aloadn X 0 dX4_readAll_28 rfl ?_
    refine zr_iloadn X 1 dX4_readAll_29 rfl ?_
    refine zr_iconst X (nI (1)) dX4_readAll_30 (by decide +kernel) ?_
    refine zr_iadd X (nI (i + 1)) dX4_readAll_31 (nI_add _ _) ?_
    refine zr_put X (ci := 4) (q := 6) (ty0 := tyX4) (ty := .int) (2496) dX4_readAll_32 (by omega) sc_293 rfl inX4 tyX4_ok nmX4 (by decide) rfl rfl rfl rfl rfl rfl k_193 (by omega) ?_
    refine zr_aloadn X 0 dX4_readAll_35 rfl ?_
    refine zr_get X (ci := 4) (q := 7) zI (.int (nI ((E0 i)))) dX4_readAll_36 (by omega) sc_293 rfl inX4 (by decide) rfl (congrArg Value.int ((pk_un (by omega)).trans ((g50a)))) rfl k_195 ?_
    refine zr_aloadn X 0 dX4_readAll_39 rfl ?_
    refine zr_get X (ci := 4) (q := 1) zI (.int (nI (n))) dX4_readAll_40 (by omega) sc_293 rfl inX4 (by decide) rfl (congrArg Value.int ((pk_un (by omega)).trans (((g50f _ (by omega) (by omega) (by omega) (by omega) (by omega)).trans ((hg38.2.2 _ (by omega) (by omega) (by omega)).trans (hn)))))) rfl k_183 ?_
    refine zr_icmp_ne X 48 dX4_readAll_43 (by decide) (fun _ => ?_) (fun q => absurd q (zq_ne (by omega) (by omega) (by omega)))
    refine zr_aloadn X 0 dX4_readAll_48 rfl ?_
    refine zr_bipush X (nI (59)) dX4_readAll_49 (by decide +kernel) ?_
    refine zr_dVi (C := RX4) (ci := 4) [.int (nI (59))] [] X (zK_ok A D tc tF tL tM) (d_rs_t E (upd u50 (2496) (nI (i + 1))) (fun z hz => ((pk_un (by omega)).trans (((g50f _ (by omega) (by omega) (by omega) (by omega) (by omega)).trans ((hg38.2.2 _ (by omega) (by omega) (by omega)).trans (rfl))))).trans (hw z hz)) (p := (E0 i)) ((pk_un (by omega)).trans ((g50a))) (by omega) ((pk_un (by omega)).trans (((g50f _ (by omega) (by omega) (by omega) (by omega) (by omega)).trans ((hg38.2.2 _ (by omega) (by omega) (by omega)).trans (hn))))) hn2 (c := 59) F7) k_410 k_411 k_412 k_6 k_413 hdX4_readSign ⟨rfl, rfl⟩ ⟨Nat.le_of_ble_eq_true rfl, Nat.le_of_ble_eq_true rfl⟩ (by omega) sc_293 rfl rfl rfl (Nat.le_of_ble_eq_true rfl) dX4_readAll_51 ?_
    refine zr_if_ne X 59 dX4_readAll_54 (by decide) (fun _ => ?_) (fun q => absurd q (nI_ne0 (by omega) (by omega)))
    refine zr_iinc X 1 (nI (i + 1)) [1, 0] [(0, .ref (ad (293))), (1, .int (nI (i + 1)))] dX4_readAll_59 rfl (zinc _) (by decide) rfl ?_
    refine zr_goto X 12 dX4_readAll_62 (by decide) ?_
    exact ih12 _ ⟨(pk_us).trans (congrArg nI hSi.symm), fun j hj => (Nat.lt_or_ge j i).elim (fun hji => ⟨(pk_un (by omega)).trans ((pk_un (by omega)).trans (((g50f _ (by omega) (by omega) (by omega) (by omega) (by omega)).trans ((hg38.2.1 j hji).1)))), (pk_un (by omega)).trans ((pk_un (by omega)).trans (((g50f _ (by omega) (by omega) (by omega) (by omega) (by omega)).trans ((hg38.2.1 j hji).2.1)))), (pk_un (by omega)).trans ((pk_un (by omega)).trans (((g50f _ (by omega) (by omega) (by omega) (by omega) (by omega)).trans ((hg38.2.1 j hji).2.2.1)))), (pk_un (by omega)).trans ((pk_un (by omega)).trans (((g50f _ (by omega) (by omega) (by omega) (by omega) (by omega)).trans ((hg38.2.1 j hji).2.2.2))))⟩) (fun hji => by have hq : j = i := (by omega); rw [hq]; exact ⟨(pk_un (by omega)).trans ((pk_un (by omega)).trans ((g50b))), (pk_un (by omega)).trans ((pk_un (by omega)).trans ((g50c))), (pk_un (by omega)).trans ((pk_un (by omega)).trans ((g50d))), (pk_un (by omega)).trans ((pk_un (by omega)).trans ((g50e)))⟩), fun x hx1 hx2 hx3 => (pk_un (by omega)).trans ((pk_un (by omega)).trans (((g50f _ (by omega) (by omega) (by omega) (by omega) (by omega)).trans ((hg38.2.2 _ (by omega) (by omega) (by omega)).trans (rfl)))))⟩

set_option maxHeartbeats 4000000 in
set_option maxRecDepth 100000 in
theorem d_all_d {l : Launch} {D : va_G} {tc : Nat → ClassId} {ad : Nat → Nat} {A : Nat → Prop} {tF tL tM : Nat} (E : zN 299 A ad) (μ : Nat → Int32) {w : Nat → Int32} (hw : ∀ q, q < 60 → μ (q + 2500) = w q) {n : Nat} (hn : μ 2491 = nI n) (hn2 : n ≤ 60) {S E0 A0 B0 V0 T0 : Nat → Nat} {K : Nat} (ch : zch w n S E0 A0 B0 V0 T0 K) (hE : E0 K = n)  : zMi l yX4_readAll cX4_readAll 2 (some .boolean) (zrm 4) (zK A D tc tF tL tM) A D vwCl tc ad 299 shC [.ref (ad (293))] μ (fun r u => r = nI 1 ∧ u 2496 = nI (K + 1) ∧ (∀ j, j < K + 1 → u (j + 2560) = nI (A0 j) ∧ u (j + 2568) = nI (B0 j) ∧ u (j + 2576) = nI (V0 j) ∧ u (j + 2584) = nI (T0 j)) ∧ ∀ x, x ≠ 2496 → x ≠ 2497 → (x < 2560 ∨ 2592 ≤ x) → u x = μ x) := by
  refine zM_of RX4 [(0, .ref (ad (293)))] (zK_ok A D tc tF tL tM) E.1 E.2 owC_ok (by decide +kernel) rfl (Nat.le_of_ble_eq_true rfl) rfl ?_
  intro pP eE sS mM aS bL mT cO X
  refine zr_aloadn X 0 dX4_readAll_0 rfl ?_
  refine zr_iconst X (nI (0)) dX4_readAll_1 (by decide +kernel) ?_
  refine zr_put X (ci := 4) (q := 7) (ty0 := tyX4) (ty := .int) (2497) dX4_readAll_2 (by omega) sc_293 rfl inX4 tyX4_ok nmX4 (by decide) rfl rfl rfl rfl rfl rfl k_195 (by omega) ?_
  refine zr_aloadn X 0 dX4_readAll_5 rfl ?_
  refine zr_iconst X (nI (0)) dX4_readAll_6 (by decide +kernel) ?_
  refine zr_put X (ci := 4) (q := 6) (ty0 := tyX4) (ty := .int) (2496) dX4_readAll_7 (by omega) sc_293 rfl inX4 tyX4_ok nmX4 (by decide) rfl rfl rfl rfl rfl rfl k_193 (by omega) ?_
  refine zr_iconst X (nI (0)) dX4_readAll_10 (by decide +kernel) ?_
  refine zr_istoren X [1, 0] [(0, .ref (ad (293))), (1, .int (nI (0)))] dX4_readAll_11 (by decide) rfl ?_
  refine zr_forM X (K) (fun i u => u 2497 = nI (S i) ∧ (∀ j, j < i → u (j + 2560) = nI (A0 j) ∧ u (j + 2568) = nI (B0 j) ∧ u (j + 2576) = nI (V0 j) ∧ u (j + 2584) = nI (T0 j)) ∧ ∀ x, x ≠ 2496 → x ≠ 2497 → (x < 2560 ∨ 2592 ≤ x) → u x = μ x) (fun i => [(0, .ref (ad (293))), (1, .int (nI (i)))]) [] (⟨((pk_un (by omega)).trans (pk_us)).trans (congrArg nI ch.1.symm), fun j hj => absurd hj (Nat.not_lt_zero j), fun x hx1 hx2 hx3 => (pk_un (by omega)).trans ((pk_un (by omega)).trans (rfl))⟩) rfl ?_ ?_
  · intro u10 hg10
    have hK := zch_K ch hn2
    have hT := ch.2.1 K (Nat.le_refl _)
    have hl := zsT_len hT
    refine zr_iloadn X 1 dX4_readAll_12 rfl ?_
    refine zr_bipush X (nI (8)) dX4_readAll_13 (by decide +kernel) ?_
    refine zr_icmp_ge X 65 dX4_readAll_15 (by decide) (fun q => absurd q (nI_ge (by omega) (by omega))) (fun _ => ?_)
    refine zr_aloadn X 0 dX4_readAll_18 rfl ?_
    refine zr_iloadn X 1 dX4_readAll_19 rfl ?_
    refine zr_cVi (C := RX4) (ci := 4) [.int (nI (K))] [] X (zK_ok A D tc tF tL tM) (d_one_T E u10 (fun z hz => ((hg10.2.2 _ (by omega) (by omega) (by omega)).trans (rfl)).trans (hw z hz)) (p := (S (K))) (hg10.1) (by omega) ((hg10.2.2 _ (by omega) (by omega) (by omega)).trans (hn)) hn2 (i := K) (by omega) hT) k_398 k_399 k_400 k_6 k_401 hdX4_readOne ⟨rfl, rfl⟩ ⟨Nat.le_of_ble_eq_true rfl, Nat.le_of_ble_eq_true rfl⟩ (by omega) sc_293 rfl rfl rfl (Nat.le_of_ble_eq_true rfl) dX4_readAll_20 (fun z20 u19 hq20 => ?_)
    obtain ⟨rfl, g19a, g19b, g19c, g19d, g19e, g19f⟩ := hq20
    refine zr_if_ne X 28 dX4_readAll_23 (by decide) (fun _ => ?_) (fun q => absurd q (nI_ne0 (by omega) (by omega)))
    refine zr_aloadn X 0 dX4_readAll_28 rfl ?_
    refine zr_iloadn X 1 dX4_readAll_29 rfl ?_
    refine zr_iconst X (nI (1)) dX4_readAll_30 (by decide +kernel) ?_
    refine zr_iadd X (nI (K + 1)) dX4_readAll_31 (nI_add _ _) ?_
    refine zr_put X (ci := 4) (q := 6) (ty0 := tyX4) (ty := .int) (2496) dX4_readAll_32 (by omega) sc_293 rfl inX4 tyX4_ok nmX4 (by decide) rfl rfl rfl rfl rfl rfl k_193 (by omega) ?_
    refine zr_aloadn X 0 dX4_readAll_35 rfl ?_
    refine zr_get X (ci := 4) (q := 7) zI (.int (nI ((E0 K)))) dX4_readAll_36 (by omega) sc_293 rfl inX4 (by decide) rfl (congrArg Value.int ((pk_un (by omega)).trans ((g19a)))) rfl k_195 ?_
    refine zr_aloadn X 0 dX4_readAll_39 rfl ?_
    refine zr_get X (ci := 4) (q := 1) zI (.int (nI (n))) dX4_readAll_40 (by omega) sc_293 rfl inX4 (by decide) rfl (congrArg Value.int ((pk_un (by omega)).trans (((g19f _ (by omega) (by omega) (by omega) (by omega) (by omega)).trans ((hg10.2.2 _ (by omega) (by omega) (by omega)).trans (hn)))))) rfl k_183 ?_
    refine zr_icmp_ne X 48 dX4_readAll_43 (by decide) (fun q => absurd (zq_eq (by omega)) q) (fun _ => ?_)
    refine zr_iconst X (nI (1)) dX4_readAll_46 (by decide +kernel) ?_
    exact zr_zret X dX4_readAll_47 rfl ⟨rfl, pk_us, fun j hj => (Nat.lt_or_ge j K).elim (fun hji => ⟨(pk_un (by omega)).trans (((g19f _ (by omega) (by omega) (by omega) (by omega) (by omega)).trans ((hg10.2.1 j hji).1))), (pk_un (by omega)).trans (((g19f _ (by omega) (by omega) (by omega) (by omega) (by omega)).trans ((hg10.2.1 j hji).2.1))), (pk_un (by omega)).trans (((g19f _ (by omega) (by omega) (by omega) (by omega) (by omega)).trans ((hg10.2.1 j hji).2.2.1))), (pk_un (by omega)).trans (((g19f _ (by omega) (by omega) (by omega) (by omega) (by omega)).trans ((hg10.2.1 j hji).2.2.2)))⟩) (fun hji => by have hq : j = K := (by omega); rw [hq]; exact ⟨(pk_un (by omega)).trans ((g19b)), (pk_un (by omega)).trans ((g19c)), (pk_un (by omega)).trans ((g19d)), (pk_un (by omega)).trans ((g19e))⟩), fun x hx1 hx2 hx3 => (pk_un (by omega)).trans (((g19f _ (by omega) (by omega) (by omega) (by omega) (by omega)).trans ((hg10.2.2 _ (by omega) (by omega) (by omega)).trans (rfl))))⟩
  · intro i u34 hi hg34 ih12
    have hK := zch_K ch hn2
    have hT := ch.2.1 i (by omega)
    have hl := zsT_len hT
    have F7 := (ch.2.2 i hi).1
    have hSi := (ch.2.2 i hi).2
    have hlt := F7.1
    refine zr_iloadn X 1 dX4_readAll_12 rfl ?_
    refine zr_bipush X (nI (8)) dX4_readAll_13 (by decide +kernel) ?_
    refine zr_icmp_ge X 65 dX4_readAll_15 (by decide) (fun q => absurd q (nI_ge (by omega) (by omega))) (fun _ => ?_)
    refine zr_aloadn X 0 dX4_readAll_18 rfl ?_
    refine zr_iloadn X 1 dX4_readAll_19 rfl ?_
    refine zr_cVi (C := RX4) (ci := 4) [.int (nI (i))] [] X (zK_ok A D tc tF tL tM) (d_one_T E u34 (fun z hz => ((hg34.2.2 _ (by omega) (by omega) (by omega)).trans (rfl)).trans (hw z hz)) (p := (S (i))) (hg34.1) (by omega) ((hg34.2.2 _ (by omega) (by omega) (by omega)).trans (hn)) hn2 (i := i) (by omega) hT) k_398 k_399 k_400 k_6 k_401 hdX4_readOne ⟨rfl, rfl⟩ ⟨Nat.le_of_ble_eq_true rfl, Nat.le_of_ble_eq_true rfl⟩ (by omega) sc_293 rfl rfl rfl (Nat.le_of_ble_eq_true rfl) dX4_readAll_20 (fun z47 u46 hq47 => ?_)
    obtain ⟨rfl, g46a, g46b, g46c, g46d, g46e, g46f⟩ := hq47
    refine zr_if_ne X 28 dX4_readAll_23 (by decide) (fun _ => ?_) (fun q => absurd q (nI_ne0 (by omega) (by omega)))
    refine zr_aloadn X 0 dX4_readAll_28 rfl ?_
    refine zr_iloadn X 1 dX4_readAll_29 rfl ?_
    refine zr_iconst X (nI (1)) dX4_readAll_30 (by decide +kernel) ?_
    refine zr_iadd X (nI (i + 1)) dX4_readAll_31 (nI_add _ _) ?_
    refine zr_put X (ci := 4) (q := 6) (ty0 := tyX4) (ty := .int) (2496) dX4_readAll_32 (by omega) sc_293 rfl inX4 tyX4_ok nmX4 (by decide) rfl rfl rfl rfl rfl rfl k_193 (by omega) ?_
    refine zr_aloadn X 0 dX4_readAll_35 rfl ?_
    refine zr_get X (ci := 4) (q := 7) zI (.int (nI ((E0 i)))) dX4_readAll_36 (by omega) sc_293 rfl inX4 (by decide) rfl (congrArg Value.int ((pk_un (by omega)).trans ((g46a)))) rfl k_195 ?_
    refine zr_aloadn X 0 dX4_readAll_39 rfl ?_
    refine zr_get X (ci := 4) (q := 1) zI (.int (nI (n))) dX4_readAll_40 (by omega) sc_293 rfl inX4 (by decide) rfl (congrArg Value.int ((pk_un (by omega)).trans (((g46f _ (by omega) (by omega) (by omega) (by omega) (by omega)).trans ((hg34.2.2 _ (by omega) (by omega) (by omega)).trans (hn)))))) rfl k_183 ?_
    refine zr_icmp_ne X 48 dX4_readAll_43 (by decide) (fun _ => ?_) (fun q => absurd q (zq_ne (by omega) (by omega) (by omega)))
    refine zr_aloadn X 0 dX4_readAll_48 rfl ?_
    refine zr_bipush X (nI (59)) dX4_readAll_49 (by decide +kernel) ?_
    refine zr_dVi (C := RX4) (ci := 4) [.int (nI (59))] [] X (zK_ok A D tc tF tL tM) (d_rs_t E (upd u46 (2496) (nI (i + 1))) (fun z hz => ((pk_un (by omega)).trans (((g46f _ (by omega) (by omega) (by omega) (by omega) (by omega)).trans ((hg34.2.2 _ (by omega) (by omega) (by omega)).trans (rfl))))).trans (hw z hz)) (p := (E0 i)) ((pk_un (by omega)).trans ((g46a))) (by omega) ((pk_un (by omega)).trans (((g46f _ (by omega) (by omega) (by omega) (by omega) (by omega)).trans ((hg34.2.2 _ (by omega) (by omega) (by omega)).trans (hn))))) hn2 (c := 59) F7) k_410 k_411 k_412 k_6 k_413 hdX4_readSign ⟨rfl, rfl⟩ ⟨Nat.le_of_ble_eq_true rfl, Nat.le_of_ble_eq_true rfl⟩ (by omega) sc_293 rfl rfl rfl (Nat.le_of_ble_eq_true rfl) dX4_readAll_51 ?_
    refine zr_if_ne X 59 dX4_readAll_54 (by decide) (fun _ => ?_) (fun q => absurd q (nI_ne0 (by omega) (by omega)))
    refine zr_iinc X 1 (nI (i + 1)) [1, 0] [(0, .ref (ad (293))), (1, .int (nI (i + 1)))] dX4_readAll_59 rfl (zinc _) (by decide) rfl ?_
    refine zr_goto X 12 dX4_readAll_62 (by decide) ?_
    exact ih12 _ ⟨(pk_us).trans (congrArg nI hSi.symm), fun j hj => (Nat.lt_or_ge j i).elim (fun hji => ⟨(pk_un (by omega)).trans ((pk_un (by omega)).trans (((g46f _ (by omega) (by omega) (by omega) (by omega) (by omega)).trans ((hg34.2.1 j hji).1)))), (pk_un (by omega)).trans ((pk_un (by omega)).trans (((g46f _ (by omega) (by omega) (by omega) (by omega) (by omega)).trans ((hg34.2.1 j hji).2.1)))), (pk_un (by omega)).trans ((pk_un (by omega)).trans (((g46f _ (by omega) (by omega) (by omega) (by omega) (by omega)).trans ((hg34.2.1 j hji).2.2.1)))), (pk_un (by omega)).trans ((pk_un (by omega)).trans (((g46f _ (by omega) (by omega) (by omega) (by omega) (by omega)).trans ((hg34.2.1 j hji).2.2.2))))⟩) (fun hji => by have hq : j = i := (by omega); rw [hq]; exact ⟨(pk_un (by omega)).trans ((pk_un (by omega)).trans ((g46b))), (pk_un (by omega)).trans ((pk_un (by omega)).trans ((g46c))), (pk_un (by omega)).trans ((pk_un (by omega)).trans ((g46d))), (pk_un (by omega)).trans ((pk_un (by omega)).trans ((g46e)))⟩), fun x hx1 hx2 hx3 => (pk_un (by omega)).trans ((pk_un (by omega)).trans (((g46f _ (by omega) (by omega) (by omega) (by omega) (by omega)).trans ((hg34.2.2 _ (by omega) (by omega) (by omega)).trans (rfl)))))⟩

