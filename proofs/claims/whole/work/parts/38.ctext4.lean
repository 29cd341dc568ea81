theorem d_mv2 {l : Launch} {D : va_G} {tc : Nat → ClassId} {ad : Nat → Nat} {A : Nat → Prop} {tF tL tM : Nat} (E : zN 299 A ad) (μ : Nat → Int32) {c : Nat} (hc : μ 699 = nI c) (h8 : c ≤ 8) {f f2 : Nat} (hf : f < c) (hf2 : f2 < c) {v : Nat} (hv : v ≤ 19) {t : Int32} (hne : f ≠ f2) {pa pb : Nat} (ea : 32 * f + v + 705 = pa) (eb : 32 * f2 + v + 705 = pb) {xa xb : Int32} (ha : μ pa = xa) (hb : μ pb = xb) : zMi l yX2_move cX2_move 7 (some .int) (zrm 2) (zK A D tc tF tL tM) A D vwCl tc ad 299 shC [.ref (ad 83), .int (nI (f)), .int (nI (f2)), .int (nI (v)), .int t] μ (fun r u => r = xa - t ∧ u = upd (upd μ pa (xa - t)) pb (xb + t)) := by
  subst ea; subst eb; subst ha; subst hb
  exact d_move2 E μ hc h8 hf hf2 hv hne
theorem d_me2_b2 {l : Launch} {D : va_G} {tc : Nat → ClassId} {ad : Nat → Nat} {A : Nat → Prop} {tF tL tM : Nat} (E : zN 299 A ad) (μ : Nat → Int32) {c : Nat} (hc : μ 699 = nI c) (h8 : c ≤ 8) {f f2 : Nat} (hf : f < c) (hab : f = f2) {v : Nat} (hv : v ≤ 19) {t : Nat} (ht1 : 1 ≤ t) (ht9 : t ≤ 9999) : zMi l yX2_moveError cX2_moveError 6 (some .int) (zrm 2) (zK A D tc tF tL tM) A D vwCl tc ad 299 shC [.ref (ad 83), .int (nI (f)), .int (nI (f2)), .int (nI (v)), .int (nI t)] μ (fun r u => r = -2 ∧ u = μ) := by
  subst hab
  exact d_moveError2_b2 E μ hc h8 hf hv ht1 ht9
theorem zupd_sh {u F : Nat → Int32} {x pa pb : Nat} {y z : Int32} (h : u (x + 698) = F x) : upd (upd u (pa + 698) y) (pb + 698) z (x + 698) = upd (upd F pa y) pb z x := by
  by_cases h1 : x = pb
  · subst h1; rw [pk_us, pk_us]
  · rw [pk_un (show x + 698 ≠ pb + 698 by omega), pk_un h1]
    by_cases h2 : x = pa
    · subst h2; rw [pk_us, pk_us]
    · rw [pk_un (show x + 698 ≠ pa + 698 by omega), pk_un h2, h]
theorem zpush_cong {M F : Nat → Int32} {ro z x : Nat} (hr : ro < 4) (h : ∀ x, (x < 698 ∨ 1047 ≤ x) → x ≠ 2496 → x ≠ 2497 → (x < 2560 ∨ 2592 ≤ x) → M x = F x) (h1 : x < 698 ∨ 1047 ≤ x) (h2 : x ≠ 2496) (h3 : x ≠ 2497) (h4 : x < 2560 ∨ 2592 ≤ x) : zpush M ro z x = zpush F ro z x := by
  unfold zpush
  by_cases q : x = 2451
  · subst q; rw [pk_us, pk_us]
  · rw [pk_un q, pk_un q]
    by_cases q2 : x = 2452
    · subst q2; rw [pk_us, pk_us]
    · rw [pk_un q2, pk_un q2]
      by_cases q3 : 349 * ro + 1047 ≤ x ∧ x < 349 * ro + 1047 + 349
      · rw [cp_in q3.1 q3.2 rfl, cp_in q3.1 q3.2 rfl]
        exact h _ (by omega) (by omega) (by omega) (by omega)
      · rw [cp_out (by omega), cp_out (by omega)]
        exact h x h1 h2 h3 h4
set_option maxHeartbeats 4000000 in
set_option maxRecDepth 100000 in
theorem d_readTransfers_a {l : Launch} {D : va_G} {tc : Nat → ClassId} {ad : Nat → Nat} {A : Nat → Prop} {tF tL tM : Nat} (E : zN 299 A ad) (μ : Nat → Int32) {w : Nat → Int32} (hw : ∀ q, q < 60 → μ (q + 2500) = w q) {n : Nat} (hn : μ 2491 = nI n) (hn2 : n ≤ 60) {q : Nat} (hF : zsF w n 0 q)  : zMi l yX5_readTransfers cX5_readTransfers 3 (some .int) (zrm 5) (zK A D tc tF tL tM) A D vwCl tc ad 299 shC [.ref (ad (0))] μ (fun r u => r = -100 - nI q ∧ ∀ x, x ≠ 2496 → x ≠ 2497 → (x < 2560 ∨ 2592 ≤ x) → u x = μ x) := by
  refine zM_of RX5 [(0, .ref (ad (0)))] (zK_ok A D tc tF tL tM) E.1 E.2 owC_ok (by decide +kernel) rfl (Nat.le_of_ble_eq_true rfl) rfl ?_
  intro pP eE sS mM aS bL mT cO X
  refine zr_aloadn X 0 dX5_readTransfers_0 rfl ?_
  refine zr_get X (ci := 5) (q := 5) (zR _) (.ref (ad (293))) dX5_readTransfers_1 (by omega) sc_0 rfl inX5 (by decide) rfl (zvR rfl) rfl k_220 ?_
  refine zr_cVi (C := RX4) (ci := 4) [] [] X (zK_ok A D tc tF tL tM) (d_all_a E μ hw (hn) hn2 hF) k_394 k_395 k_396 k_6 k_397 hdX4_readAll ⟨rfl, rfl⟩ ⟨Nat.le_of_ble_eq_true rfl, Nat.le_of_ble_eq_true rfl⟩ (by omega) sc_293 rfl rfl rfl (Nat.le_of_ble_eq_true rfl) dX5_readTransfers_4 (fun z3 u2 hq3 => ?_)
  obtain ⟨rfl, g2a, g2b⟩ := hq3
  refine zr_if_ne X 21 dX5_readTransfers_7 (by decide) (fun q => absurd (zq_eq0 (by omega)) q) (fun _ => ?_)
  refine zr_bipush X (-100) dX5_readTransfers_10 (by decide +kernel) ?_
  refine zr_aloadn X 0 dX5_readTransfers_12 rfl ?_
  refine zr_get X (ci := 5) (q := 5) (zR _) (.ref (ad (293))) dX5_readTransfers_13 (by omega) sc_0 rfl inX5 (by decide) rfl (zvR rfl) rfl k_220 ?_
  refine zr_get X (ci := 4) (q := 7) zI (.int (nI (q))) dX5_readTransfers_16 (by omega) sc_293 rfl inX4 (by decide) rfl (congrArg Value.int (g2a)) rfl k_196 ?_
  refine zr_isub X ((-100) - (nI (q))) dX5_readTransfers_19 rfl ?_
  exact zr_iret X dX5_readTransfers_20 ⟨rfl, fun x hx1 hx2 hx3 => (g2b _ (by omega) (by omega) (by omega)).trans (rfl)⟩

set_option maxHeartbeats 4000000 in
set_option maxRecDepth 100000 in
theorem d_readTransfers_b {l : Launch} {D : va_G} {tc : Nat → ClassId} {ad : Nat → Nat} {A : Nat → Prop} {tF tL tM : Nat} (E : zN 299 A ad) (μ : Nat → Int32) {w : Nat → Int32} (hw : ∀ q, q < 60 → μ (q + 2500) = w q) {n : Nat} (hn : μ 2491 = nI n) (hn2 : n ≤ 60) {S E0 A0 B0 V0 T0 : Nat → Nat} {K : Nat} (ch : zch w n S E0 A0 B0 V0 T0 K) (F7 : zis w n 59 (E0 K)) (hS1 : S (K + 1) = E0 K + 1) {q : Nat} (hF : zsF w n (S (K + 1)) q)  : zMi l yX5_readTransfers cX5_readTransfers 3 (some .int) (zrm 5) (zK A D tc tF tL tM) A D vwCl tc ad 299 shC [.ref (ad (0))] μ (fun r u => r = -100 - nI q ∧ ∀ x, x ≠ 2496 → x ≠ 2497 → (x < 2560 ∨ 2592 ≤ x) → u x = μ x) := by
  refine zM_of RX5 [(0, .ref (ad (0)))] (zK_ok A D tc tF tL tM) E.1 E.2 owC_ok (by decide +kernel) rfl (Nat.le_of_ble_eq_true rfl) rfl ?_
  intro pP eE sS mM aS bL mT cO X
  refine zr_aloadn X 0 dX5_readTransfers_0 rfl ?_
  refine zr_get X (ci := 5) (q := 5) (zR _) (.ref (ad (293))) dX5_readTransfers_1 (by omega) sc_0 rfl inX5 (by decide) rfl (zvR rfl) rfl k_220 ?_
  refine zr_cVi (C := RX4) (ci := 4) [] [] X (zK_ok A D tc tF tL tM) (d_all_b E μ hw (hn) hn2 ch F7 hS1 hF) k_394 k_395 k_396 k_6 k_397 hdX4_readAll ⟨rfl, rfl⟩ ⟨Nat.le_of_ble_eq_true rfl, Nat.le_of_ble_eq_true rfl⟩ (by omega) sc_293 rfl rfl rfl (Nat.le_of_ble_eq_true rfl) dX5_readTransfers_4 (fun z3 u2 hq3 => ?_)
  obtain ⟨rfl, g2a, g2b⟩ := hq3
  refine zr_if_ne X 21 dX5_readTransfers_7 (by decide) (fun q => absurd (zq_eq0 (by omega)) q) (fun _ => ?_)
  refine zr_bipush X (-100) dX5_readTransfers_10 (by decide +kernel) ?_
  refine zr_aloadn X 0 dX5_readTransfers_12 rfl ?_
  refine zr_get X (ci := 5) (q := 5) (zR _) (.ref (ad (293))) dX5_readTransfers_13 (by omega) sc_0 rfl inX5 (by decide) rfl (zvR rfl) rfl k_220 ?_
  refine zr_get X (ci := 4) (q := 7) zI (.int (nI (q))) dX5_readTransfers_16 (by omega) sc_293 rfl inX4 (by decide) rfl (congrArg Value.int (g2a)) rfl k_196 ?_
  refine zr_isub X ((-100) - (nI (q))) dX5_readTransfers_19 rfl ?_
  exact zr_iret X dX5_readTransfers_20 ⟨rfl, fun x hx1 hx2 hx3 => (g2b _ (by omega) (by omega) (by omega)).trans (rfl)⟩

set_option maxHeartbeats 4000000 in
set_option maxRecDepth 100000 in
theorem d_readTransfers_c {l : Launch} {D : va_G} {tc : Nat → ClassId} {ad : Nat → Nat} {A : Nat → Prop} {tF tL tM : Nat} (E : zN 299 A ad) (μ : Nat → Int32) {w : Nat → Int32} (hw : ∀ q, q < 60 → μ (q + 2500) = w q) {n : Nat} (hn : μ 2491 = nI n) (hn2 : n ≤ 60) {S E0 A0 B0 V0 T0 : Nat → Nat} {K : Nat} (ch : zch w n S E0 A0 B0 V0 T0 K) (hE : E0 K ≠ n) (F7 : ¬ zis w n 59 (E0 K))  : zMi l yX5_readTransfers cX5_readTransfers 3 (some .int) (zrm 5) (zK A D tc tF tL tM) A D vwCl tc ad 299 shC [.ref (ad (0))] μ (fun r u => r = -100 - nI (E0 K) ∧ ∀ x, x ≠ 2496 → x ≠ 2497 → (x < 2560 ∨ 2592 ≤ x) → u x = μ x) := by
  refine zM_of RX5 [(0, .ref (ad (0)))] (zK_ok A D tc tF tL tM) E.1 E.2 owC_ok (by decide +kernel) rfl (Nat.le_of_ble_eq_true rfl) rfl ?_
  intro pP eE sS mM aS bL mT cO X
  refine zr_aloadn X 0 dX5_readTransfers_0 rfl ?_
  refine zr_get X (ci := 5) (q := 5) (zR _) (.ref (ad (293))) dX5_readTransfers_1 (by omega) sc_0 rfl inX5 (by decide) rfl (zvR rfl) rfl k_220 ?_
  refine zr_cVi (C := RX4) (ci := 4) [] [] X (zK_ok A D tc tF tL tM) (d_all_c E μ hw (hn) hn2 ch hE F7) k_394 k_395 k_396 k_6 k_397 hdX4_readAll ⟨rfl, rfl⟩ ⟨Nat.le_of_ble_eq_true rfl, Nat.le_of_ble_eq_true rfl⟩ (by omega) sc_293 rfl rfl rfl (Nat.le_of_ble_eq_true rfl) dX5_readTransfers_4 (fun z3 u2 hq3 => ?_)
  obtain ⟨rfl, g2a, g2b⟩ := hq3
  refine zr_if_ne X 21 dX5_readTransfers_7 (by decide) (fun q => absurd (zq_eq0 (by omega)) q) (fun _ => ?_)
  refine zr_bipush X (-100) dX5_readTransfers_10 (by decide +kernel) ?_
  refine zr_aloadn X 0 dX5_readTransfers_12 rfl ?_
  refine zr_get X (ci := 5) (q := 5) (zR _) (.ref (ad (293))) dX5_readTransfers_13 (by omega) sc_0 rfl inX5 (by decide) rfl (zvR rfl) rfl k_220 ?_
  refine zr_get X (ci := 4) (q := 7) zI (.int (nI ((E0 K)))) dX5_readTransfers_16 (by omega) sc_293 rfl inX4 (by decide) rfl (congrArg Value.int (g2a)) rfl k_196 ?_
  refine zr_isub X ((-100) - (nI ((E0 K)))) dX5_readTransfers_19 rfl ?_
  exact zr_iret X dX5_readTransfers_20 ⟨rfl, fun x hx1 hx2 hx3 => (g2b _ (by omega) (by omega) (by omega)).trans (rfl)⟩

set_option maxHeartbeats 4000000 in
set_option maxRecDepth 100000 in
theorem d_readTransfers_ok {l : Launch} {D : va_G} {tc : Nat → ClassId} {ad : Nat → Nat} {A : Nat → Prop} {tF tL tM : Nat} (E : zN 299 A ad) (μ : Nat → Int32) {w : Nat → Int32} (hw : ∀ q, q < 60 → μ (q + 2500) = w q) {n : Nat} (hn : μ 2491 = nI n) (hn2 : n ≤ 60) {c ro z : Nat} (hc : μ 1 = nI c) (h8 : c ≤ 8) (hr : μ 2452 = nI ro) (hr4 : ro < 4) (hz : μ 2451 = nI z) (hz4 : z ≤ 4) {K : Nat} {S E0 A0 B0 V0 T0 : Nat → Nat} (ch : zch w n S E0 A0 B0 V0 T0 K) (hEK : E0 K = n) {G : Nat → Int32} (hG : ∀ x, x < 349 → μ x = G x) (ok : ∀ i, i < K + 1 → zok1 (zgr G A0 B0 V0 T0 i) c (A0 i) (B0 i) (V0 i) (T0 i))  : zMi l yX5_readTransfers cX5_readTransfers 3 (some .int) (zrm 5) (zK A D tc tF tL tM) A D vwCl tc ad 299 shC [.ref (ad (0))] μ (fun r u => r = nI (K + 1) ∧ (∀ x, x < 349 → u x = zgr G A0 B0 V0 T0 (K + 1) x) ∧ ∀ x, 349 ≤ x → (x < 698 ∨ 1047 ≤ x) → x ≠ 2496 → x ≠ 2497 → (x < 2560 ∨ 2592 ≤ x) → u x = zpush μ ro z x) := by
  refine zM_of RX5 [(0, .ref (ad (0)))] (zK_ok A D tc tF tL tM) E.1 E.2 owC_ok (by decide +kernel) rfl (Nat.le_of_ble_eq_true rfl) rfl ?_
  intro pP eE sS mM aS bL mT cO X
  have hGc := (hG 1 (by omega)).symm.trans hc
  refine zr_aloadn X 0 dX5_readTransfers_0 rfl ?_
  refine zr_get X (ci := 5) (q := 5) (zR _) (.ref (ad (293))) dX5_readTransfers_1 (by omega) sc_0 rfl inX5 (by decide) rfl (zvR rfl) rfl k_220 ?_
  refine zr_cVi (C := RX4) (ci := 4) [] [] X (zK_ok A D tc tF tL tM) (d_all_d E μ hw (hn) hn2 ch hEK) k_394 k_395 k_396 k_6 k_397 hdX4_readAll ⟨rfl, rfl⟩ ⟨Nat.le_of_ble_eq_true rfl, Nat.le_of_ble_eq_true rfl⟩ (by omega) sc_293 rfl rfl rfl (Nat.le_of_ble_eq_true rfl) dX5_readTransfers_4 (fun z3 u2 hq3 => ?_)
  obtain ⟨rfl, g2a, g2b, g2c⟩ := hq3
  refine zr_if_ne X 21 dX5_readTransfers_7 (by decide) (fun _ => ?_) (fun q => absurd q (nI_ne0 (by omega) (by omega)))
  refine zr_aloadn X 0 dX5_readTransfers_21 rfl ?_
  refine zr_get X (ci := 5) (q := 0) (zR _) (.ref (ad (1))) dX5_readTransfers_22 (by omega) sc_0 rfl inX5 (by decide) rfl (zvR rfl) rfl k_215 ?_
  refine zr_aloadn X 0 dX5_readTransfers_25 rfl ?_
  refine zr_get X (ci := 5) (q := 2) (zR _) (.ref (ad (83))) dX5_readTransfers_26 (by omega) sc_0 rfl inX5 (by decide) rfl (zvR rfl) rfl k_217 ?_
  refine zr_dSv [.ref (ad (1)), .ref (ad (83))] [] X (zK_ok A D tc tF tL tM) (d_copyState E u2 (j1 := 0) (j2 := 2) (by omega) (by omega) (by omega) cb_0 cb_2 (a := 0) (b := 698) (by omega) (by omega)) k_414 k_246 k_1 k_247 hdX5_copyState ⟨rfl, rfl⟩ ⟨Nat.le_of_ble_eq_true rfl, Nat.le_of_ble_eq_true rfl⟩ rfl rfl (Nat.le_of_ble_eq_true rfl) dX5_readTransfers_29 ?_
  refine zr_iconst X (nI (0)) dX5_readTransfers_32 (by decide +kernel) ?_
  refine zr_istoren X [1, 0] [(0, .ref (ad (0))), (1, .int (nI (0)))] dX5_readTransfers_33 (by decide) rfl ?_
  refine zr_forM X (K + 1) (fun i u => u 2496 = nI (K + 1) ∧ (∀ j, j < K + 1 → u (j + 2560) = nI (A0 j) ∧ u (j + 2568) = nI (B0 j) ∧ u (j + 2576) = nI (V0 j) ∧ u (j + 2584) = nI (T0 j)) ∧ (∀ x, x < 349 → u (x + 698) = zgr G A0 B0 V0 T0 i x) ∧ ∀ x, (x < 698 ∨ 1047 ≤ x) → x ≠ 2496 → x ≠ 2497 → (x < 2560 ∨ 2592 ≤ x) → u x = μ x) (fun i => [(0, .ref (ad (0))), (1, .int (nI (i)))]) [] (⟨(cp_out (by omega)).trans (g2a), fun j hj => ⟨(cp_out (by omega)).trans ((g2b j hj).1), (cp_out (by omega)).trans ((g2b j hj).2.1), (cp_out (by omega)).trans ((g2b j hj).2.2.1), (cp_out (by omega)).trans ((g2b j hj).2.2.2)⟩, fun x hx => (cp_in (q := x) (by omega) (by omega) (by omega)).trans (((g2c _ (by omega) (by omega) (by omega)).trans (rfl)).trans (hG x hx)), fun x hx0 hx1 hx2 hx3 => (cp_out (by omega)).trans ((g2c _ (by omega) (by omega) (by omega)).trans (rfl))⟩) rfl ?_ ?_
  · intro u14 hg14
    have hK := zch_K ch hn2
    refine zr_iloadn X 1 dX5_readTransfers_34 rfl ?_
    refine zr_aloadn X 0 dX5_readTransfers_35 rfl ?_
    refine zr_get X (ci := 5) (q := 5) (zR _) (.ref (ad (293))) dX5_readTransfers_36 (by omega) sc_0 rfl inX5 (by decide) rfl (zvR rfl) rfl k_220 ?_
    refine zr_get X (ci := 4) (q := 6) zI (.int (nI (K + 1))) dX5_readTransfers_39 (by omega) sc_293 rfl inX4 (by decide) rfl (congrArg Value.int (hg14.1)) rfl k_194 ?_
    refine zr_icmp_ge X 145 dX5_readTransfers_42 (by decide) (fun _ => ?_) (fun q => absurd (zq_le (by omega) (by omega)) q)
    refine zr_aloadn X 0 dX5_readTransfers_145 rfl ?_
    refine zr_get X (ci := 5) (q := 3) (zR _) (.ref (ad (124))) dX5_readTransfers_146 (by omega) sc_0 rfl inX5 (by decide) rfl (zvR rfl) rfl k_218 ?_
    refine zr_aloadn X 0 dX5_readTransfers_149 rfl ?_
    refine zr_get X (ci := 5) (q := 0) (zR _) (.ref (ad (1))) dX5_readTransfers_150 (by omega) sc_0 rfl inX5 (by decide) rfl (zvR rfl) rfl k_215 ?_
    refine zr_dVv (C := RX1) (ci := 1) [.ref (ad (1))] [] X (zK_ok A D tc tF tL tM) (d_push E u14 ((hg14.2.2.2 _ (by omega) (by omega) (by omega) (by omega)).trans (hr)) hr4 ((hg14.2.2.2 _ (by omega) (by omega) (by omega) (by omega)).trans (hz)) hz4) k_241 k_242 k_243 k_4 k_244 hdX1_push ⟨rfl, rfl⟩ ⟨Nat.le_of_ble_eq_true rfl, Nat.le_of_ble_eq_true rfl⟩ (by omega) sc_124 rfl rfl rfl (Nat.le_of_ble_eq_true rfl) dX5_readTransfers_153 ?_
    refine zr_aloadn X 0 dX5_readTransfers_156 rfl ?_
    refine zr_get X (ci := 5) (q := 2) (zR _) (.ref (ad (83))) dX5_readTransfers_157 (by omega) sc_0 rfl inX5 (by decide) rfl (zvR rfl) rfl k_217 ?_
    refine zr_aloadn X 0 dX5_readTransfers_160 rfl ?_
    refine zr_get X (ci := 5) (q := 0) (zR _) (.ref (ad (1))) dX5_readTransfers_161 (by omega) sc_0 rfl inX5 (by decide) rfl (zvR rfl) rfl k_215 ?_
    refine zr_dSv [.ref (ad (83)), .ref (ad (1))] [] X (zK_ok A D tc tF tL tM) (d_copyState E (zpush u14 (ro) (z)) (j1 := 2) (j2 := 0) (by omega) (by omega) (by omega) cb_2 cb_0 (a := 698) (b := 0) (by omega) (by omega)) k_414 k_246 k_1 k_247 hdX5_copyState ⟨rfl, rfl⟩ ⟨Nat.le_of_ble_eq_true rfl, Nat.le_of_ble_eq_true rfl⟩ rfl rfl (Nat.le_of_ble_eq_true rfl) dX5_readTransfers_164 ?_
    refine zr_aloadn X 0 dX5_readTransfers_167 rfl ?_
    refine zr_get X (ci := 5) (q := 5) (zR _) (.ref (ad (293))) dX5_readTransfers_168 (by omega) sc_0 rfl inX5 (by decide) rfl (zvR rfl) rfl k_220 ?_
    refine zr_get X (ci := 4) (q := 6) zI (.int (nI (K + 1))) dX5_readTransfers_171 (by omega) sc_293 rfl inX4 (by decide) rfl (congrArg Value.int ((cp_out (by omega)).trans ((zpush_lo (by omega) hr4).trans (hg14.1)))) rfl k_194 ?_
    exact zr_iret X dX5_readTransfers_174 ⟨rfl, fun x hx => (cp_in (q := x + 698) (by omega) (by omega) (by omega)).trans ((zpush_lo (by omega) hr4).trans (hg14.2.2.1 x hx)), fun x hx hx0 hx1 hx2 hx3 => (cp_out (by omega)).trans (zpush_cong hr4 hg14.2.2.2 hx0 hx1 hx2 hx3)⟩
  · intro i u35 hi hg35 ih34
    have hT := ch.2.1 i (by omega)
    obtain ⟨hav, hbv, hvv, ht1, ht9⟩ := zsT_val hT
    obtain ⟨hf, hf2, hv, hne, hle⟩ := ok i (by omega)
    have hK := zch_K ch hn2
    refine zr_iloadn X 1 dX5_readTransfers_34 rfl ?_
    refine zr_aloadn X 0 dX5_readTransfers_35 rfl ?_
    refine zr_get X (ci := 5) (q := 5) (zR _) (.ref (ad (293))) dX5_readTransfers_36 (by omega) sc_0 rfl inX5 (by decide) rfl (zvR rfl) rfl k_220 ?_
    refine zr_get X (ci := 4) (q := 6) zI (.int (nI (K + 1))) dX5_readTransfers_39 (by omega) sc_293 rfl inX4 (by decide) rfl (congrArg Value.int (hg35.1)) rfl k_194 ?_
    refine zr_icmp_ge X 145 dX5_readTransfers_42 (by decide) (fun q => absurd q (nI_ge (by omega) (by omega))) (fun _ => ?_)
    refine zr_aloadn X 0 dX5_readTransfers_45 rfl ?_
    refine zr_get X (ci := 5) (q := 2) (zR _) (.ref (ad (83))) dX5_readTransfers_46 (by omega) sc_0 rfl inX5 (by decide) rfl (zvR rfl) rfl k_217 ?_
    refine zr_aloadn X 0 dX5_readTransfers_49 rfl ?_
    refine zr_get X (ci := 5) (q := 5) (zR _) (.ref (ad (293))) dX5_readTransfers_50 (by omega) sc_0 rfl inX5 (by decide) rfl (zvR rfl) rfl k_220 ?_
    refine zr_get X (ci := 4) (q := 2) (zR _) (.ref (ad (295))) dX5_readTransfers_53 (by omega) sc_293 rfl inX4 (by decide) rfl (zvR rfl) rfl k_186 ?_
    refine zr_iloadn X 1 dX5_readTransfers_56 rfl ?_
    refine zr_iald X (j := i) 0 (nI ((A0 i))) dX5_readTransfers_57 (by omega) sc_295 rfl rfl (by omega) (by omega) (zcg (b := i + 2560) (by omega) ((hg35.2.1 i (by omega)).1)) ?_
    refine zr_aloadn X 0 dX5_readTransfers_58 rfl ?_
    refine zr_get X (ci := 5) (q := 5) (zR _) (.ref (ad (293))) dX5_readTransfers_59 (by omega) sc_0 rfl inX5 (by decide) rfl (zvR rfl) rfl k_220 ?_
    refine zr_get X (ci := 4) (q := 3) (zR _) (.ref (ad (296))) dX5_readTransfers_62 (by omega) sc_293 rfl inX4 (by decide) rfl (zvR rfl) rfl k_188 ?_
    refine zr_iloadn X 1 dX5_readTransfers_65 rfl ?_
    refine zr_iald X (j := i) 0 (nI ((B0 i))) dX5_readTransfers_66 (by omega) sc_296 rfl rfl (by omega) (by omega) (zcg (b := i + 2568) (by omega) ((hg35.2.1 i (by omega)).2.1)) ?_
    refine zr_aloadn X 0 dX5_readTransfers_67 rfl ?_
    refine zr_get X (ci := 5) (q := 5) (zR _) (.ref (ad (293))) dX5_readTransfers_68 (by omega) sc_0 rfl inX5 (by decide) rfl (zvR rfl) rfl k_220 ?_
    refine zr_get X (ci := 4) (q := 4) (zR _) (.ref (ad (297))) dX5_readTransfers_71 (by omega) sc_293 rfl inX4 (by decide) rfl (zvR rfl) rfl k_190 ?_
    refine zr_iloadn X 1 dX5_readTransfers_74 rfl ?_
    refine zr_iald X (j := i) 0 (nI ((V0 i))) dX5_readTransfers_75 (by omega) sc_297 rfl rfl (by omega) (by omega) (zcg (b := i + 2576) (by omega) ((hg35.2.1 i (by omega)).2.2.1)) ?_
    refine zr_aloadn X 0 dX5_readTransfers_76 rfl ?_
    refine zr_get X (ci := 5) (q := 5) (zR _) (.ref (ad (293))) dX5_readTransfers_77 (by omega) sc_0 rfl inX5 (by decide) rfl (zvR rfl) rfl k_220 ?_
    refine zr_get X (ci := 4) (q := 5) (zR _) (.ref (ad (298))) dX5_readTransfers_80 (by omega) sc_293 rfl inX4 (by decide) rfl (zvR rfl) rfl k_192 ?_
    refine zr_iloadn X 1 dX5_readTransfers_83 rfl ?_
    refine zr_iald X (j := i) 0 (nI ((T0 i))) dX5_readTransfers_84 (by omega) sc_298 rfl rfl (by omega) (by omega) (zcg (b := i + 2584) (by omega) ((hg35.2.1 i (by omega)).2.2.2)) ?_
    refine zr_dVi (C := RX2) (ci := 2) [.int (nI ((A0 i))), .int (nI ((B0 i))), .int (nI ((V0 i))), .int (nI ((T0 i)))] [] X (zK_ok A D tc tF tL tM) (d_moveError2_0 E u35 (f := (A0 i)) (f2 := (B0 i)) (v := (V0 i)) (t := (T0 i)) ((hg35.2.2.1 1 (by omega)).trans ((zgr_lo (by omega) _).trans hGc)) h8 hf hf2 hv ht1 ht9 hne (by rw [(hg35.2.2.1 (32 * (A0 i) + (V0 i) + 7) (by omega))]; exact hle)) k_295 k_296 k_297 k_2 k_298 hdX2_moveError ⟨rfl, rfl⟩ ⟨Nat.le_of_ble_eq_true rfl, Nat.le_of_ble_eq_true rfl⟩ (by omega) (sc_st (j := 2) (by omega) (by have := cb_2; omega)) rfl rfl rfl (Nat.le_of_ble_eq_true rfl) dX5_readTransfers_85 ?_
    refine zr_istoren X [1, 2, 0] [(0, .ref (ad (0))), (1, .int (nI (i))), (2, .int (nI (0)))] dX5_readTransfers_88 (by decide) rfl ?_
    refine zr_iloadn X 2 dX5_readTransfers_89 rfl ?_
    refine zr_if_eq X 95 dX5_readTransfers_90 (by decide) (fun _ => ?_) (fun q => absurd (zq_eq0 (by omega)) q)
    refine zr_aloadn X 0 dX5_readTransfers_95 rfl ?_
    refine zr_get X (ci := 5) (q := 2) (zR _) (.ref (ad (83))) dX5_readTransfers_96 (by omega) sc_0 rfl inX5 (by decide) rfl (zvR rfl) rfl k_217 ?_
    refine zr_aloadn X 0 dX5_readTransfers_99 rfl ?_
    refine zr_get X (ci := 5) (q := 5) (zR _) (.ref (ad (293))) dX5_readTransfers_100 (by omega) sc_0 rfl inX5 (by decide) rfl (zvR rfl) rfl k_220 ?_
    refine zr_get X (ci := 4) (q := 2) (zR _) (.ref (ad (295))) dX5_readTransfers_103 (by omega) sc_293 rfl inX4 (by decide) rfl (zvR rfl) rfl k_186 ?_
    refine zr_iloadn X 1 dX5_readTransfers_106 rfl ?_
    refine zr_iald X (j := i) 0 (nI ((A0 i))) dX5_readTransfers_107 (by omega) sc_295 rfl rfl (by omega) (by omega) (zcg (b := i + 2560) (by omega) ((hg35.2.1 i (by omega)).1)) ?_
    refine zr_aloadn X 0 dX5_readTransfers_108 rfl ?_
    refine zr_get X (ci := 5) (q := 5) (zR _) (.ref (ad (293))) dX5_readTransfers_109 (by omega) sc_0 rfl inX5 (by decide) rfl (zvR rfl) rfl k_220 ?_
    refine zr_get X (ci := 4) (q := 3) (zR _) (.ref (ad (296))) dX5_readTransfers_112 (by omega) sc_293 rfl inX4 (by decide) rfl (zvR rfl) rfl k_188 ?_
    refine zr_iloadn X 1 dX5_readTransfers_115 rfl ?_
    refine zr_iald X (j := i) 0 (nI ((B0 i))) dX5_readTransfers_116 (by omega) sc_296 rfl rfl (by omega) (by omega) (zcg (b := i + 2568) (by omega) ((hg35.2.1 i (by omega)).2.1)) ?_
    refine zr_aloadn X 0 dX5_readTransfers_117 rfl ?_
    refine zr_get X (ci := 5) (q := 5) (zR _) (.ref (ad (293))) dX5_readTransfers_118 (by omega) sc_0 rfl inX5 (by decide) rfl (zvR rfl) rfl k_220 ?_
    refine zr_get X (ci := 4) (q := 4) (zR _) (.ref (ad (297))) dX5_readTransfers_121 (by omega) sc_293 rfl inX4 (by decide) rfl (zvR rfl) rfl k_190 ?_
    refine zr_iloadn X 1 dX5_readTransfers_124 rfl ?_
    refine zr_iald X (j := i) 0 (nI ((V0 i))) dX5_readTransfers_125 (by omega) sc_297 rfl rfl (by omega) (by omega) (zcg (b := i + 2576) (by omega) ((hg35.2.1 i (by omega)).2.2.1)) ?_
    refine zr_aloadn X 0 dX5_readTransfers_126 rfl ?_
    refine zr_get X (ci := 5) (q := 5) (zR _) (.ref (ad (293))) dX5_readTransfers_127 (by omega) sc_0 rfl inX5 (by decide) rfl (zvR rfl) rfl k_220 ?_
    refine zr_get X (ci := 4) (q := 5) (zR _) (.ref (ad (298))) dX5_readTransfers_130 (by omega) sc_293 rfl inX4 (by decide) rfl (zvR rfl) rfl k_192 ?_
    refine zr_iloadn X 1 dX5_readTransfers_133 rfl ?_
    refine zr_iald X (j := i) 0 (nI ((T0 i))) dX5_readTransfers_134 (by omega) sc_298 rfl rfl (by omega) (by omega) (zcg (b := i + 2584) (by omega) ((hg35.2.1 i (by omega)).2.2.2)) ?_
    refine zr_dVi (C := RX2) (ci := 2) [.int (nI ((A0 i))), .int (nI ((B0 i))), .int (nI ((V0 i))), .int (nI ((T0 i)))] [] X (zK_ok A D tc tF tL tM) (d_mv2 E u35 (f := (A0 i)) (f2 := (B0 i)) (v := (V0 i)) (t := nI ((T0 i))) ((hg35.2.2.1 1 (by omega)).trans ((zgr_lo (by omega) _).trans hGc)) h8 hf hf2 hv hne (pa := 32 * (A0 i) + (V0 i) + 705) (pb := 32 * (B0 i) + (V0 i) + 705) (by omega) (by omega) ((hg35.2.2.1 (32 * (A0 i) + (V0 i) + 7) (by omega))) ((hg35.2.2.1 (32 * (B0 i) + (V0 i) + 7) (by omega)))) k_304 k_305 k_306 k_2 k_307 hdX2_move ⟨rfl, rfl⟩ ⟨Nat.le_of_ble_eq_true rfl, Nat.le_of_ble_eq_true rfl⟩ (by omega) (sc_st (j := 2) (by omega) (by have := cb_2; omega)) rfl rfl rfl (Nat.le_of_ble_eq_true rfl) dX5_readTransfers_135 ?_
    refine zr_pop X dX5_readTransfers_138 rfl ?_
    refine zr_iinc X 1 (nI (i + 1)) [1, 0, 2] [(0, .ref (ad (0))), (1, .int (nI (i + 1))), (2, .int (nI (0)))] dX5_readTransfers_139 rfl (zinc _) (by decide) rfl ?_
    refine zr_goto X 34 dX5_readTransfers_142 (by decide) ?_
    refine zr_drop X [0, 1] [(0, .ref (ad (0))), (1, .int (nI (i + 1)))] rfl ?_
    exact ih34 _ ⟨(pk_un (by omega)).trans ((pk_un (by omega)).trans ((hg35.1))), fun j hj => ⟨(pk_un (by omega)).trans ((pk_un (by omega)).trans (((hg35.2.1 j hj).1))), (pk_un (by omega)).trans ((pk_un (by omega)).trans (((hg35.2.1 j hj).2.1))), (pk_un (by omega)).trans ((pk_un (by omega)).trans (((hg35.2.1 j hj).2.2.1))), (pk_un (by omega)).trans ((pk_un (by omega)).trans (((hg35.2.1 j hj).2.2.2)))⟩, fun x hx => zupd_sh (hg35.2.2.1 x hx), fun x hx0 hx1 hx2 hx3 => (pk_un (by omega)).trans ((pk_un (by omega)).trans (hg35.2.2.2 x hx0 hx1 hx2 hx3))⟩

set_option maxHeartbeats 4000000 in
set_option maxRecDepth 100000 in
theorem d_readTransfers_u1 {l : Launch} {D : va_G} {tc : Nat → ClassId} {ad : Nat → Nat} {A : Nat → Prop} {tF tL tM : Nat} (E : zN 299 A ad) (μ : Nat → Int32) {w : Nat → Int32} (hw : ∀ q, q < 60 → μ (q + 2500) = w q) {n : Nat} (hn : μ 2491 = nI n) (hn2 : n ≤ 60) {c ro z : Nat} (hc : μ 1 = nI c) (h8 : c ≤ 8) (hr : μ 2452 = nI ro) (hr4 : ro < 4) (hz : μ 2451 = nI z) (hz4 : z ≤ 4) {K : Nat} {S E0 A0 B0 V0 T0 : Nat → Nat} (ch : zch w n S E0 A0 B0 V0 T0 K) (hEK : E0 K = n) {G : Nat → Int32} (hG : ∀ x, x < 349 → μ x = G x) {e : Nat} (he : e ≤ K) (ok : ∀ i, i < e → zok1 (zgr G A0 B0 V0 T0 i) c (A0 i) (B0 i) (V0 i) (T0 i)) (hf : ¬ A0 e < c)  : zMi l yX5_readTransfers cX5_readTransfers 3 (some .int) (zrm 5) (zK A D tc tF tL tM) A D vwCl tc ad 299 shC [.ref (ad (0))] μ (fun r u => r = -1 ∧ ∀ x, (x < 698 ∨ 1047 ≤ x) → x ≠ 2496 → x ≠ 2497 → (x < 2560 ∨ 2592 ≤ x) → u x = μ x) := by
  refine zM_of RX5 [(0, .ref (ad (0)))] (zK_ok A D tc tF tL tM) E.1 E.2 owC_ok (by decide +kernel) rfl (Nat.le_of_ble_eq_true rfl) rfl ?_
  intro pP eE sS mM aS bL mT cO X
  have hGc := (hG 1 (by omega)).symm.trans hc
  refine zr_aloadn X 0 dX5_readTransfers_0 rfl ?_
  refine zr_get X (ci := 5) (q := 5) (zR _) (.ref (ad (293))) dX5_readTransfers_1 (by omega) sc_0 rfl inX5 (by decide) rfl (zvR rfl) rfl k_220 ?_
  refine zr_cVi (C := RX4) (ci := 4) [] [] X (zK_ok A D tc tF tL tM) (d_all_d E μ hw (hn) hn2 ch hEK) k_394 k_395 k_396 k_6 k_397 hdX4_readAll ⟨rfl, rfl⟩ ⟨Nat.le_of_ble_eq_true rfl, Nat.le_of_ble_eq_true rfl⟩ (by omega) sc_293 rfl rfl rfl (Nat.le_of_ble_eq_true rfl) dX5_readTransfers_4 (fun z3 u2 hq3 => ?_)
  obtain ⟨rfl, g2a, g2b, g2c⟩ := hq3
  refine zr_if_ne X 21 dX5_readTransfers_7 (by decide) (fun _ => ?_) (fun q => absurd q (nI_ne0 (by omega) (by omega)))
  refine zr_aloadn X 0 dX5_readTransfers_21 rfl ?_
  refine zr_get X (ci := 5) (q := 0) (zR _) (.ref (ad (1))) dX5_readTransfers_22 (by omega) sc_0 rfl inX5 (by decide) rfl (zvR rfl) rfl k_215 ?_
  refine zr_aloadn X 0 dX5_readTransfers_25 rfl ?_
  refine zr_get X (ci := 5) (q := 2) (zR _) (.ref (ad (83))) dX5_readTransfers_26 (by omega) sc_0 rfl inX5 (by decide) rfl (zvR rfl) rfl k_217 ?_
  refine zr_dSv [.ref (ad (1)), .ref (ad (83))] [] X (zK_ok A D tc tF tL tM) (d_copyState E u2 (j1 := 0) (j2 := 2) (by omega) (by omega) (by omega) cb_0 cb_2 (a := 0) (b := 698) (by omega) (by omega)) k_414 k_246 k_1 k_247 hdX5_copyState ⟨rfl, rfl⟩ ⟨Nat.le_of_ble_eq_true rfl, Nat.le_of_ble_eq_true rfl⟩ rfl rfl (Nat.le_of_ble_eq_true rfl) dX5_readTransfers_29 ?_
  refine zr_iconst X (nI (0)) dX5_readTransfers_32 (by decide +kernel) ?_
  refine zr_istoren X [1, 0] [(0, .ref (ad (0))), (1, .int (nI (0)))] dX5_readTransfers_33 (by decide) rfl ?_
  refine zr_forM X (e) (fun i u => u 2496 = nI (K + 1) ∧ (∀ j, j < K + 1 → u (j + 2560) = nI (A0 j) ∧ u (j + 2568) = nI (B0 j) ∧ u (j + 2576) = nI (V0 j) ∧ u (j + 2584) = nI (T0 j)) ∧ (∀ x, x < 349 → u (x + 698) = zgr G A0 B0 V0 T0 i x) ∧ ∀ x, (x < 698 ∨ 1047 ≤ x) → x ≠ 2496 → x ≠ 2497 → (x < 2560 ∨ 2592 ≤ x) → u x = μ x) (fun i => [(0, .ref (ad (0))), (1, .int (nI (i)))]) [] (⟨(cp_out (by omega)).trans (g2a), fun j hj => ⟨(cp_out (by omega)).trans ((g2b j hj).1), (cp_out (by omega)).trans ((g2b j hj).2.1), (cp_out (by omega)).trans ((g2b j hj).2.2.1), (cp_out (by omega)).trans ((g2b j hj).2.2.2)⟩, fun x hx => (cp_in (q := x) (by omega) (by omega) (by omega)).trans (((g2c _ (by omega) (by omega) (by omega)).trans (rfl)).trans (hG x hx)), fun x hx0 hx1 hx2 hx3 => (cp_out (by omega)).trans ((g2c _ (by omega) (by omega) (by omega)).trans (rfl))⟩) rfl ?_ ?_
  · intro u14 hg14
    have hT := ch.2.1 e (by omega)
    have hK := zch_K ch hn2
    obtain ⟨hav, hbv, hvv, ht1, ht9⟩ := zsT_val hT
    refine zr_iloadn X 1 dX5_readTransfers_34 rfl ?_
    refine zr_aloadn X 0 dX5_readTransfers_35 rfl ?_
    refine zr_get X (ci := 5) (q := 5) (zR _) (.ref (ad (293))) dX5_readTransfers_36 (by omega) sc_0 rfl inX5 (by decide) rfl (zvR rfl) rfl k_220 ?_
    refine zr_get X (ci := 4) (q := 6) zI (.int (nI (K + 1))) dX5_readTransfers_39 (by omega) sc_293 rfl inX4 (by decide) rfl (congrArg Value.int (hg14.1)) rfl k_194 ?_
    refine zr_icmp_ge X 145 dX5_readTransfers_42 (by decide) (fun q => absurd q (nI_ge (by omega) (by omega))) (fun _ => ?_)
    refine zr_aloadn X 0 dX5_readTransfers_45 rfl ?_
    refine zr_get X (ci := 5) (q := 2) (zR _) (.ref (ad (83))) dX5_readTransfers_46 (by omega) sc_0 rfl inX5 (by decide) rfl (zvR rfl) rfl k_217 ?_
    refine zr_aloadn X 0 dX5_readTransfers_49 rfl ?_
    refine zr_get X (ci := 5) (q := 5) (zR _) (.ref (ad (293))) dX5_readTransfers_50 (by omega) sc_0 rfl inX5 (by decide) rfl (zvR rfl) rfl k_220 ?_
    refine zr_get X (ci := 4) (q := 2) (zR _) (.ref (ad (295))) dX5_readTransfers_53 (by omega) sc_293 rfl inX4 (by decide) rfl (zvR rfl) rfl k_186 ?_
    refine zr_iloadn X 1 dX5_readTransfers_56 rfl ?_
    refine zr_iald X (j := e) 0 (nI ((A0 e))) dX5_readTransfers_57 (by omega) sc_295 rfl rfl (by omega) (by omega) (zcg (b := e + 2560) (by omega) ((hg14.2.1 e (by omega)).1)) ?_
    refine zr_aloadn X 0 dX5_readTransfers_58 rfl ?_
    refine zr_get X (ci := 5) (q := 5) (zR _) (.ref (ad (293))) dX5_readTransfers_59 (by omega) sc_0 rfl inX5 (by decide) rfl (zvR rfl) rfl k_220 ?_
    refine zr_get X (ci := 4) (q := 3) (zR _) (.ref (ad (296))) dX5_readTransfers_62 (by omega) sc_293 rfl inX4 (by decide) rfl (zvR rfl) rfl k_188 ?_
    refine zr_iloadn X 1 dX5_readTransfers_65 rfl ?_
    refine zr_iald X (j := e) 0 (nI ((B0 e))) dX5_readTransfers_66 (by omega) sc_296 rfl rfl (by omega) (by omega) (zcg (b := e + 2568) (by omega) ((hg14.2.1 e (by omega)).2.1)) ?_
    refine zr_aloadn X 0 dX5_readTransfers_67 rfl ?_
    refine zr_get X (ci := 5) (q := 5) (zR _) (.ref (ad (293))) dX5_readTransfers_68 (by omega) sc_0 rfl inX5 (by decide) rfl (zvR rfl) rfl k_220 ?_
    refine zr_get X (ci := 4) (q := 4) (zR _) (.ref (ad (297))) dX5_readTransfers_71 (by omega) sc_293 rfl inX4 (by decide) rfl (zvR rfl) rfl k_190 ?_
    refine zr_iloadn X 1 dX5_readTransfers_74 rfl ?_
    refine zr_iald X (j := e) 0 (nI ((V0 e))) dX5_readTransfers_75 (by omega) sc_297 rfl rfl (by omega) (by omega) (zcg (b := e + 2576) (by omega) ((hg14.2.1 e (by omega)).2.2.1)) ?_
    refine zr_aloadn X 0 dX5_readTransfers_76 rfl ?_
    refine zr_get X (ci := 5) (q := 5) (zR _) (.ref (ad (293))) dX5_readTransfers_77 (by omega) sc_0 rfl inX5 (by decide) rfl (zvR rfl) rfl k_220 ?_
    refine zr_get X (ci := 4) (q := 5) (zR _) (.ref (ad (298))) dX5_readTransfers_80 (by omega) sc_293 rfl inX4 (by decide) rfl (zvR rfl) rfl k_192 ?_
    refine zr_iloadn X 1 dX5_readTransfers_83 rfl ?_
    refine zr_iald X (j := e) 0 (nI ((T0 e))) dX5_readTransfers_84 (by omega) sc_298 rfl rfl (by omega) (by omega) (zcg (b := e + 2584) (by omega) ((hg14.2.1 e (by omega)).2.2.2)) ?_
    refine zr_dVi (C := RX2) (ci := 2) [.int (nI ((A0 e))), .int (nI ((B0 e))), .int (nI ((V0 e))), .int (nI ((T0 e)))] [] X (zK_ok A D tc tF tL tM) (d_moveError2_u1 E u14 ((hg14.2.2.1 1 (by omega)).trans ((zgr_lo (by omega) _).trans hGc)) h8 (zfm_nI hf (by omega) (by omega)) _ _ _) k_295 k_296 k_297 k_2 k_298 hdX2_moveError ⟨rfl, rfl⟩ ⟨Nat.le_of_ble_eq_true rfl, Nat.le_of_ble_eq_true rfl⟩ (by omega) (sc_st (j := 2) (by omega) (by have := cb_2; omega)) rfl rfl rfl (Nat.le_of_ble_eq_true rfl) dX5_readTransfers_85 ?_
    refine zr_istoren X [1, 2, 0] [(0, .ref (ad (0))), (1, .int (nI (e))), (2, .int (-1))] dX5_readTransfers_88 (by decide) rfl ?_
    refine zr_iloadn X 2 dX5_readTransfers_89 rfl ?_
    refine zr_if_eq X 95 dX5_readTransfers_90 (by decide) (fun q => absurd q (by decide)) (fun _ => ?_)
    refine zr_iloadn X 2 dX5_readTransfers_93 rfl ?_
    exact zr_iret X dX5_readTransfers_94 ⟨rfl, fun x hx0 hx1 hx2 hx3 => hg14.2.2.2 x hx0 hx1 hx2 hx3⟩
  · intro i u51 hi hg51 ih34
    have hT := ch.2.1 i (by omega)
    obtain ⟨hav, hbv, hvv, ht1, ht9⟩ := zsT_val hT
    obtain ⟨hf, hf2, hv, hne, hle⟩ := ok i (by omega)
    have hK := zch_K ch hn2
    refine zr_iloadn X 1 dX5_readTransfers_34 rfl ?_
    refine zr_aloadn X 0 dX5_readTransfers_35 rfl ?_
    refine zr_get X (ci := 5) (q := 5) (zR _) (.ref (ad (293))) dX5_readTransfers_36 (by omega) sc_0 rfl inX5 (by decide) rfl (zvR rfl) rfl k_220 ?_
    refine zr_get X (ci := 4) (q := 6) zI (.int (nI (K + 1))) dX5_readTransfers_39 (by omega) sc_293 rfl inX4 (by decide) rfl (congrArg Value.int (hg51.1)) rfl k_194 ?_
    refine zr_icmp_ge X 145 dX5_readTransfers_42 (by decide) (fun q => absurd q (nI_ge (by omega) (by omega))) (fun _ => ?_)
    refine zr_aloadn X 0 dX5_readTransfers_45 rfl ?_
    refine zr_get X (ci := 5) (q := 2) (zR _) (.ref (ad (83))) dX5_readTransfers_46 (by omega) sc_0 rfl inX5 (by decide) rfl (zvR rfl) rfl k_217 ?_
    refine zr_aloadn X 0 dX5_readTransfers_49 rfl ?_
    refine zr_get X (ci := 5) (q := 5) (zR _) (.ref (ad (293))) dX5_readTransfers_50 (by omega) sc_0 rfl inX5 (by decide) rfl (zvR rfl) rfl k_220 ?_
    refine zr_get X (ci := 4) (q := 2) (zR _) (.ref (ad (295))) dX5_readTransfers_53 (by omega) sc_293 rfl inX4 (by decide) rfl (zvR rfl) rfl k_186 ?_
    refine zr_iloadn X 1 dX5_readTransfers_56 rfl ?_
    refine zr_iald X (j := i) 0 (nI ((A0 i))) dX5_readTransfers_57 (by omega) sc_295 rfl rfl (by omega) (by omega) (zcg (b := i + 2560) (by omega) ((hg51.2.1 i (by omega)).1)) ?_
    refine zr_aloadn X 0 dX5_readTransfers_58 rfl ?_
    refine zr_get X (ci := 5) (q := 5) (zR _) (.ref (ad (293))) dX5_readTransfers_59 (by omega) sc_0 rfl inX5 (by decide) rfl (zvR rfl) rfl k_220 ?_
    refine zr_get X (ci := 4) (q := 3) (zR _) (.ref (ad (296))) dX5_readTransfers_62 (by omega) sc_293 rfl inX4 (by decide) rfl (zvR rfl) rfl k_188 ?_
    refine zr_iloadn X 1 dX5_readTransfers_65 rfl ?_
    refine zr_iald X (j := i) 0 (nI ((B0 i))) dX5_readTransfers_66 (by omega) sc_296 rfl rfl (by omega) (by omega) (zcg (b := i + 2568) (by omega) ((hg51.2.1 i (by omega)).2.1)) ?_
    refine zr_aloadn X 0 dX5_readTransfers_67 rfl ?_
    refine zr_get X (ci := 5) (q := 5) (zR _) (.ref (ad (293))) dX5_readTransfers_68 (by omega) sc_0 rfl inX5 (by decide) rfl (zvR rfl) rfl k_220 ?_
    refine zr_get X (ci := 4) (q := 4) (zR _) (.ref (ad (297))) dX5_readTransfers_71 (by omega) sc_293 rfl inX4 (by decide) rfl (zvR rfl) rfl k_190 ?_
    refine zr_iloadn X 1 dX5_readTransfers_74 rfl ?_
    refine zr_iald X (j := i) 0 (nI ((V0 i))) dX5_readTransfers_75 (by omega) sc_297 rfl rfl (by omega) (by omega) (zcg (b := i + 2576) (by omega) ((hg51.2.1 i (by omega)).2.2.1)) ?_
    refine zr_aloadn X 0 dX5_readTransfers_76 rfl ?_
    refine zr_get X (ci := 5) (q := 5) (zR _) (.ref (ad (293))) dX5_readTransfers_77 (by omega) sc_0 rfl inX5 (by decide) rfl (zvR rfl) rfl k_220 ?_
    refine zr_get X (ci := 4) (q := 5) (zR _) (.ref (ad (298))) dX5_readTransfers_80 (by omega) sc_293 rfl inX4 (by decide) rfl (zvR rfl) rfl k_192 ?_
    refine zr_iloadn X 1 dX5_readTransfers_83 rfl ?_
    refine zr_iald X (j := i) 0 (nI ((T0 i))) dX5_readTransfers_84 (by omega) sc_298 rfl rfl (by omega) (by omega) (zcg (b := i + 2584) (by omega) ((hg51.2.1 i (by omega)).2.2.2)) ?_
    refine zr_dVi (C := RX2) (ci := 2) [.int (nI ((A0 i))), .int (nI ((B0 i))), .int (nI ((V0 i))), .int (nI ((T0 i)))] [] X (zK_ok A D tc tF tL tM) (d_moveError2_0 E u51 (f := (A0 i)) (f2 := (B0 i)) (v := (V0 i)) (t := (T0 i)) ((hg51.2.2.1 1 (by omega)).trans ((zgr_lo (by omega) _).trans hGc)) h8 hf hf2 hv ht1 ht9 hne (by rw [(hg51.2.2.1 (32 * (A0 i) + (V0 i) + 7) (by omega))]; exact hle)) k_295 k_296 k_297 k_2 k_298 hdX2_moveError ⟨rfl, rfl⟩ ⟨Nat.le_of_ble_eq_true rfl, Nat.le_of_ble_eq_true rfl⟩ (by omega) (sc_st (j := 2) (by omega) (by have := cb_2; omega)) rfl rfl rfl (Nat.le_of_ble_eq_true rfl) dX5_readTransfers_85 ?_
    refine zr_istoren X [1, 2, 0] [(0, .ref (ad (0))), (1, .int (nI (i))), (2, .int (nI (0)))] dX5_readTransfers_88 (by decide) rfl ?_
    refine zr_iloadn X 2 dX5_readTransfers_89 rfl ?_
    refine zr_if_eq X 95 dX5_readTransfers_90 (by decide) (fun _ => ?_) (fun q => absurd (zq_eq0 (by omega)) q)
    refine zr_aloadn X 0 dX5_readTransfers_95 rfl ?_
    refine zr_get X (ci := 5) (q := 2) (zR _) (.ref (ad (83))) dX5_readTransfers_96 (by omega) sc_0 rfl inX5 (by decide) rfl (zvR rfl) rfl k_217 ?_
    refine zr_aloadn X 0 dX5_readTransfers_99 rfl ?_
    refine zr_get X (ci := 5) (q := 5) (zR _) (.ref (ad (293))) dX5_readTransfers_100 (by omega) sc_0 rfl inX5 (by decide) rfl (zvR rfl) rfl k_220 ?_
    refine zr_get X (ci := 4) (q := 2) (zR _) (.ref (ad (295))) dX5_readTransfers_103 (by omega) sc_293 rfl inX4 (by decide) rfl (zvR rfl) rfl k_186 ?_
    refine zr_iloadn X 1 dX5_readTransfers_106 rfl ?_
    refine zr_iald X (j := i) 0 (nI ((A0 i))) dX5_readTransfers_107 (by omega) sc_295 rfl rfl (by omega) (by omega) (zcg (b := i + 2560) (by omega) ((hg51.2.1 i (by omega)).1)) ?_
    refine zr_aloadn X 0 dX5_readTransfers_108 rfl ?_
    refine zr_get X (ci := 5) (q := 5) (zR _) (.ref (ad (293))) dX5_readTransfers_109 (by omega) sc_0 rfl inX5 (by decide) rfl (zvR rfl) rfl k_220 ?_
    refine zr_get X (ci := 4) (q := 3) (zR _) (.ref (ad (296))) dX5_readTransfers_112 (by omega) sc_293 rfl inX4 (by decide) rfl (zvR rfl) rfl k_188 ?_
    refine zr_iloadn X 1 dX5_readTransfers_115 rfl ?_
    refine zr_iald X (j := i) 0 (nI ((B0 i))) dX5_readTransfers_116 (by omega) sc_296 rfl rfl (by omega) (by omega) (zcg (b := i + 2568) (by omega) ((hg51.2.1 i (by omega)).2.1)) ?_
    refine zr_aloadn X 0 dX5_readTransfers_117 rfl ?_
    refine zr_get X (ci := 5) (q := 5) (zR _) (.ref (ad (293))) dX5_readTransfers_118 (by omega) sc_0 rfl inX5 (by decide) rfl (zvR rfl) rfl k_220 ?_
    refine zr_get X (ci := 4) (q := 4) (zR _) (.ref (ad (297))) dX5_readTransfers_121 (by omega) sc_293 rfl inX4 (by decide) rfl (zvR rfl) rfl k_190 ?_
    refine zr_iloadn X 1 dX5_readTransfers_124 rfl ?_
    refine zr_iald X (j := i) 0 (nI ((V0 i))) dX5_readTransfers_125 (by omega) sc_297 rfl rfl (by omega) (by omega) (zcg (b := i + 2576) (by omega) ((hg51.2.1 i (by omega)).2.2.1)) ?_
    refine zr_aloadn X 0 dX5_readTransfers_126 rfl ?_
    refine zr_get X (ci := 5) (q := 5) (zR _) (.ref (ad (293))) dX5_readTransfers_127 (by omega) sc_0 rfl inX5 (by decide) rfl (zvR rfl) rfl k_220 ?_
    refine zr_get X (ci := 4) (q := 5) (zR _) (.ref (ad (298))) dX5_readTransfers_130 (by omega) sc_293 rfl inX4 (by decide) rfl (zvR rfl) rfl k_192 ?_
    refine zr_iloadn X 1 dX5_readTransfers_133 rfl ?_
    refine zr_iald X (j := i) 0 (nI ((T0 i))) dX5_readTransfers_134 (by omega) sc_298 rfl rfl (by omega) (by omega) (zcg (b := i + 2584) (by omega) ((hg51.2.1 i (by omega)).2.2.2)) ?_
    refine zr_dVi (C := RX2) (ci := 2) [.int (nI ((A0 i))), .int (nI ((B0 i))), .int (nI ((V0 i))), .int (nI ((T0 i)))] [] X (zK_ok A D tc tF tL tM) (d_mv2 E u51 (f := (A0 i)) (f2 := (B0 i)) (v := (V0 i)) (t := nI ((T0 i))) ((hg51.2.2.1 1 (by omega)).trans ((zgr_lo (by omega) _).trans hGc)) h8 hf hf2 hv hne (pa := 32 * (A0 i) + (V0 i) + 705) (pb := 32 * (B0 i) + (V0 i) + 705) (by omega) (by omega) ((hg51.2.2.1 (32 * (A0 i) + (V0 i) + 7) (by omega))) ((hg51.2.2.1 (32 * (B0 i) + (V0 i) + 7) (by omega)))) k_304 k_305 k_306 k_2 k_307 hdX2_move ⟨rfl, rfl⟩ ⟨Nat.le_of_ble_eq_true rfl, Nat.le_of_ble_eq_true rfl⟩ (by omega) (sc_st (j := 2) (by omega) (by have := cb_2; omega)) rfl rfl rfl (Nat.le_of_ble_eq_true rfl) dX5_readTransfers_135 ?_
    refine zr_pop X dX5_readTransfers_138 rfl ?_
    refine zr_iinc X 1 (nI (i + 1)) [1, 0, 2] [(0, .ref (ad (0))), (1, .int (nI (i + 1))), (2, .int (nI (0)))] dX5_readTransfers_139 rfl (zinc _) (by decide) rfl ?_
    refine zr_goto X 34 dX5_readTransfers_142 (by decide) ?_
    refine zr_drop X [0, 1] [(0, .ref (ad (0))), (1, .int (nI (i + 1)))] rfl ?_
    exact ih34 _ ⟨(pk_un (by omega)).trans ((pk_un (by omega)).trans ((hg51.1))), fun j hj => ⟨(pk_un (by omega)).trans ((pk_un (by omega)).trans (((hg51.2.1 j hj).1))), (pk_un (by omega)).trans ((pk_un (by omega)).trans (((hg51.2.1 j hj).2.1))), (pk_un (by omega)).trans ((pk_un (by omega)).trans (((hg51.2.1 j hj).2.2.1))), (pk_un (by omega)).trans ((pk_un (by omega)).trans (((hg51.2.1 j hj).2.2.2)))⟩, fun x hx => zupd_sh (hg51.2.2.1 x hx), fun x hx0 hx1 hx2 hx3 => (pk_un (by omega)).trans ((pk_un (by omega)).trans (hg51.2.2.2 x hx0 hx1 hx2 hx3))⟩

set_option maxHeartbeats 4000000 in
set_option maxRecDepth 100000 in
theorem d_readTransfers_u2 {l : Launch} {D : va_G} {tc : Nat → ClassId} {ad : Nat → Nat} {A : Nat → Prop} {tF tL tM : Nat} (E : zN 299 A ad) (μ : Nat → Int32) {w : Nat → Int32} (hw : ∀ q, q < 60 → μ (q + 2500) = w q) {n : Nat} (hn : μ 2491 = nI n) (hn2 : n ≤ 60) {c ro z : Nat} (hc : μ 1 = nI c) (h8 : c ≤ 8) (hr : μ 2452 = nI ro) (hr4 : ro < 4) (hz : μ 2451 = nI z) (hz4 : z ≤ 4) {K : Nat} {S E0 A0 B0 V0 T0 : Nat → Nat} (ch : zch w n S E0 A0 B0 V0 T0 K) (hEK : E0 K = n) {G : Nat → Int32} (hG : ∀ x, x < 349 → μ x = G x) {e : Nat} (he : e ≤ K) (ok : ∀ i, i < e → zok1 (zgr G A0 B0 V0 T0 i) c (A0 i) (B0 i) (V0 i) (T0 i)) (hf : A0 e < c) (hf2 : ¬ B0 e < c)  : zMi l yX5_readTransfers cX5_readTransfers 3 (some .int) (zrm 5) (zK A D tc tF tL tM) A D vwCl tc ad 299 shC [.ref (ad (0))] μ (fun r u => r = -1 ∧ ∀ x, (x < 698 ∨ 1047 ≤ x) → x ≠ 2496 → x ≠ 2497 → (x < 2560 ∨ 2592 ≤ x) → u x = μ x) := by
  refine zM_of RX5 [(0, .ref (ad (0)))] (zK_ok A D tc tF tL tM) E.1 E.2 owC_ok (by decide +kernel) rfl (Nat.le_of_ble_eq_true rfl) rfl ?_
  intro pP eE sS mM aS bL mT cO X
  have hGc := (hG 1 (by omega)).symm.trans hc
  refine zr_aloadn X 0 dX5_readTransfers_0 rfl ?_
  refine zr_get X (ci := 5) (q := 5) (zR _) (.ref (ad (293))) dX5_readTransfers_1 (by omega) sc_0 rfl inX5 (by decide) rfl (zvR rfl) rfl k_220 ?_
  refine zr_cVi (C := RX4) (ci := 4) [] [] X (zK_ok A D tc tF tL tM) (d_all_d E μ hw (hn) hn2 ch hEK) k_394 k_395 k_396 k_6 k_397 hdX4_readAll ⟨rfl, rfl⟩ ⟨Nat.le_of_ble_eq_true rfl, Nat.le_of_ble_eq_true rfl⟩ (by omega) sc_293 rfl rfl rfl (Nat.le_of_ble_eq_true rfl) dX5_readTransfers_4 (fun z3 u2 hq3 => ?_)
  obtain ⟨rfl, g2a, g2b, g2c⟩ := hq3
  refine zr_if_ne X 21 dX5_readTransfers_7 (by decide) (fun _ => ?_) (fun q => absurd q (nI_ne0 (by omega) (by omega)))
  refine zr_aloadn X 0 dX5_readTransfers_21 rfl ?_
  refine zr_get X (ci := 5) (q := 0) (zR _) (.ref (ad (1))) dX5_readTransfers_22 (by omega) sc_0 rfl inX5 (by decide) rfl (zvR rfl) rfl k_215 ?_
  refine zr_aloadn X 0 dX5_readTransfers_25 rfl ?_
  refine zr_get X (ci := 5) (q := 2) (zR _) (.ref (ad (83))) dX5_readTransfers_26 (by omega) sc_0 rfl inX5 (by decide) rfl (zvR rfl) rfl k_217 ?_
  refine zr_dSv [.ref (ad (1)), .ref (ad (83))] [] X (zK_ok A D tc tF tL tM) (d_copyState E u2 (j1 := 0) (j2 := 2) (by omega) (by omega) (by omega) cb_0 cb_2 (a := 0) (b := 698) (by omega) (by omega)) k_414 k_246 k_1 k_247 hdX5_copyState ⟨rfl, rfl⟩ ⟨Nat.le_of_ble_eq_true rfl, Nat.le_of_ble_eq_true rfl⟩ rfl rfl (Nat.le_of_ble_eq_true rfl) dX5_readTransfers_29 ?_
  refine zr_iconst X (nI (0)) dX5_readTransfers_32 (by decide +kernel) ?_
  refine zr_istoren X [1, 0] [(0, .ref (ad (0))), (1, .int (nI (0)))] dX5_readTransfers_33 (by decide) rfl ?_
  refine zr_forM X (e) (fun i u => u 2496 = nI (K + 1) ∧ (∀ j, j < K + 1 → u (j + 2560) = nI (A0 j) ∧ u (j + 2568) = nI (B0 j) ∧ u (j + 2576) = nI (V0 j) ∧ u (j + 2584) = nI (T0 j)) ∧ (∀ x, x < 349 → u (x + 698) = zgr G A0 B0 V0 T0 i x) ∧ ∀ x, (x < 698 ∨ 1047 ≤ x) → x ≠ 2496 → x ≠ 2497 → (x < 2560 ∨ 2592 ≤ x) → u x = μ x) (fun i => [(0, .ref (ad (0))), (1, .int (nI (i)))]) [] (⟨(cp_out (by omega)).trans (g2a), fun j hj => ⟨(cp_out (by omega)).trans ((g2b j hj).1), (cp_out (by omega)).trans ((g2b j hj).2.1), (cp_out (by omega)).trans ((g2b j hj).2.2.1), (cp_out (by omega)).trans ((g2b j hj).2.2.2)⟩, fun x hx => (cp_in (q := x) (by omega) (by omega) (by omega)).trans (((g2c _ (by omega) (by omega) (by omega)).trans (rfl)).trans (hG x hx)), fun x hx0 hx1 hx2 hx3 => (cp_out (by omega)).trans ((g2c _ (by omega) (by omega) (by omega)).trans (rfl))⟩) rfl ?_ ?_
  · intro u14 hg14
    have hT := ch.2.1 e (by omega)
    have hK := zch_K ch hn2
    obtain ⟨hav, hbv, hvv, ht1, ht9⟩ := zsT_val hT
    refine zr_iloadn X 1 dX5_readTransfers_34 rfl ?_
    refine zr_aloadn X 0 dX5_readTransfers_35 rfl ?_
    refine zr_get X (ci := 5) (q := 5) (zR _) (.ref (ad (293))) dX5_readTransfers_36 (by omega) sc_0 rfl inX5 (by decide) rfl (zvR rfl) rfl k_220 ?_
    refine zr_get X (ci := 4) (q := 6) zI (.int (nI (K + 1))) dX5_readTransfers_39 (by omega) sc_293 rfl inX4 (by decide) rfl (congrArg Value.int (hg14.1)) rfl k_194 ?_
    refine zr_icmp_ge X 145 dX5_readTransfers_42 (by decide) (fun q => absurd q (nI_ge (by omega) (by omega))) (fun _ => ?_)
    refine zr_aloadn X 0 dX5_readTransfers_45 rfl ?_
    refine zr_get X (ci := 5) (q := 2) (zR _) (.ref (ad (83))) dX5_readTransfers_46 (by omega) sc_0 rfl inX5 (by decide) rfl (zvR rfl) rfl k_217 ?_
    refine zr_aloadn X 0 dX5_readTransfers_49 rfl ?_
    refine zr_get X (ci := 5) (q := 5) (zR _) (.ref (ad (293))) dX5_readTransfers_50 (by omega) sc_0 rfl inX5 (by decide) rfl (zvR rfl) rfl k_220 ?_
    refine zr_get X (ci := 4) (q := 2) (zR _) (.ref (ad (295))) dX5_readTransfers_53 (by omega) sc_293 rfl inX4 (by decide) rfl (zvR rfl) rfl k_186 ?_
    refine zr_iloadn X 1 dX5_readTransfers_56 rfl ?_
    refine zr_iald X (j := e) 0 (nI ((A0 e))) dX5_readTransfers_57 (by omega) sc_295 rfl rfl (by omega) (by omega) (zcg (b := e + 2560) (by omega) ((hg14.2.1 e (by omega)).1)) ?_
    refine zr_aloadn X 0 dX5_readTransfers_58 rfl ?_
    refine zr_get X (ci := 5) (q := 5) (zR _) (.ref (ad (293))) dX5_readTransfers_59 (by omega) sc_0 rfl inX5 (by decide) rfl (zvR rfl) rfl k_220 ?_
    refine zr_get X (ci := 4) (q := 3) (zR _) (.ref (ad (296))) dX5_readTransfers_62 (by omega) sc_293 rfl inX4 (by decide) rfl (zvR rfl) rfl k_188 ?_
    refine zr_iloadn X 1 dX5_readTransfers_65 rfl ?_
    refine zr_iald X (j := e) 0 (nI ((B0 e))) dX5_readTransfers_66 (by omega) sc_296 rfl rfl (by omega) (by omega) (zcg (b := e + 2568) (by omega) ((hg14.2.1 e (by omega)).2.1)) ?_
    refine zr_aloadn X 0 dX5_readTransfers_67 rfl ?_
    refine zr_get X (ci := 5) (q := 5) (zR _) (.ref (ad (293))) dX5_readTransfers_68 (by omega) sc_0 rfl inX5 (by decide) rfl (zvR rfl) rfl k_220 ?_
    refine zr_get X (ci := 4) (q := 4) (zR _) (.ref (ad (297))) dX5_readTransfers_71 (by omega) sc_293 rfl inX4 (by decide) rfl (zvR rfl) rfl k_190 ?_
    refine zr_iloadn X 1 dX5_readTransfers_74 rfl ?_
    refine zr_iald X (j := e) 0 (nI ((V0 e))) dX5_readTransfers_75 (by omega) sc_297 rfl rfl (by omega) (by omega) (zcg (b := e + 2576) (by omega) ((hg14.2.1 e (by omega)).2.2.1)) ?_
    refine zr_aloadn X 0 dX5_readTransfers_76 rfl ?_
    refine zr_get X (ci := 5) (q := 5) (zR _) (.ref (ad (293))) dX5_readTransfers_77 (by omega) sc_0 rfl inX5 (by decide) rfl (zvR rfl) rfl k_220 ?_
    refine zr_get X (ci := 4) (q := 5) (zR _) (.ref (ad (298))) dX5_readTransfers_80 (by omega) sc_293 rfl inX4 (by decide) rfl (zvR rfl) rfl k_192 ?_
    refine zr_iloadn X 1 dX5_readTransfers_83 rfl ?_
    refine zr_iald X (j := e) 0 (nI ((T0 e))) dX5_readTransfers_84 (by omega) sc_298 rfl rfl (by omega) (by omega) (zcg (b := e + 2584) (by omega) ((hg14.2.1 e (by omega)).2.2.2)) ?_
    refine zr_dVi (C := RX2) (ci := 2) [.int (nI ((A0 e))), .int (nI ((B0 e))), .int (nI ((V0 e))), .int (nI ((T0 e)))] [] X (zK_ok A D tc tF tL tM) (d_moveError2_u2 E u14 (f := (A0 e)) ((hg14.2.2.1 1 (by omega)).trans ((zgr_lo (by omega) _).trans hGc)) h8 hf (zfm_nI hf2 (by omega) (by omega)) _ _) k_295 k_296 k_297 k_2 k_298 hdX2_moveError ⟨rfl, rfl⟩ ⟨Nat.le_of_ble_eq_true rfl, Nat.le_of_ble_eq_true rfl⟩ (by omega) (sc_st (j := 2) (by omega) (by have := cb_2; omega)) rfl rfl rfl (Nat.le_of_ble_eq_true rfl) dX5_readTransfers_85 ?_
    refine zr_istoren X [1, 2, 0] [(0, .ref (ad (0))), (1, .int (nI (e))), (2, .int (-1))] dX5_readTransfers_88 (by decide) rfl ?_
    refine zr_iloadn X 2 dX5_readTransfers_89 rfl ?_
    refine zr_if_eq X 95 dX5_readTransfers_90 (by decide) (fun q => absurd q (by decide)) (fun _ => ?_)
    refine zr_iloadn X 2 dX5_readTransfers_93 rfl ?_
    exact zr_iret X dX5_readTransfers_94 ⟨rfl, fun x hx0 hx1 hx2 hx3 => hg14.2.2.2 x hx0 hx1 hx2 hx3⟩
  · intro i u51 hi hg51 ih34
    have hT := ch.2.1 i (by omega)
    obtain ⟨hav, hbv, hvv, ht1, ht9⟩ := zsT_val hT
    obtain ⟨hf, hf2, hv, hne, hle⟩ := ok i (by omega)
    have hK := zch_K ch hn2
    refine zr_iloadn X 1 dX5_readTransfers_34 rfl ?_
    refine zr_aloadn X 0 dX5_readTransfers_35 rfl ?_
    refine zr_get X (ci := 5) (q := 5) (zR _) (.ref (ad (293))) dX5_readTransfers_36 (by omega) sc_0 rfl inX5 (by decide) rfl (zvR rfl) rfl k_220 ?_
    refine zr_get X (ci := 4) (q := 6) zI (.int (nI (K + 1))) dX5_readTransfers_39 (by omega) sc_293 rfl inX4 (by decide) rfl (congrArg Value.int (hg51.1)) rfl k_194 ?_
    refine zr_icmp_ge X 145 dX5_readTransfers_42 (by decide) (fun q => absurd q (nI_ge (by omega) (by omega))) (fun _ => ?_)
    refine zr_aloadn X 0 dX5_readTransfers_45 rfl ?_
    refine zr_get X (ci := 5) (q := 2) (zR _) (.ref (ad (83))) dX5_readTransfers_46 (by omega) sc_0 rfl inX5 (by decide) rfl (zvR rfl) rfl k_217 ?_
    refine zr_aloadn X 0 dX5_readTransfers_49 rfl ?_
    refine zr_get X (ci := 5) (q := 5) (zR _) (.ref (ad (293))) dX5_readTransfers_50 (by omega) sc_0 rfl inX5 (by decide) rfl (zvR rfl) rfl k_220 ?_
    refine zr_get X (ci := 4) (q := 2) (zR _) (.ref (ad (295))) dX5_readTransfers_53 (by omega) sc_293 rfl inX4 (by decide) rfl (zvR rfl) rfl k_186 ?_
    refine zr_iloadn X 1 dX5_readTransfers_56 rfl ?_
    refine zr_iald X (j := i) 0 (nI ((A0 i))) dX5_readTransfers_57 (by omega) sc_295 rfl rfl (by omega) (by omega) (zcg (b := i + 2560) (by omega) ((hg51.2.1 i (by omega)).1)) ?_
    refine zr_aloadn X 0 dX5_readTransfers_58 rfl ?_
    refine zr_get X (ci := 5) (q := 5) (zR _) (.ref (ad (293))) dX5_readTransfers_59 (by omega) sc_0 rfl inX5 (by decide) rfl (zvR rfl) rfl k_220 ?_
    refine zr_get X (ci := 4) (q := 3) (zR _) (.ref (ad (296))) dX5_readTransfers_62 (by omega) sc_293 rfl inX4 (by decide) rfl (zvR rfl) rfl k_188 ?_
    refine zr_iloadn X 1 dX5_readTransfers_65 rfl ?_
    refine zr_iald X (j := i) 0 (nI ((B0 i))) dX5_readTransfers_66 (by omega) sc_296 rfl rfl (by omega) (by omega) (zcg (b := i + 2568) (by omega) ((hg51.2.1 i (by omega)).2.1)) ?_
    refine zr_aloadn X 0 dX5_readTransfers_67 rfl ?_
    refine zr_get X (ci := 5) (q := 5) (zR _) (.ref (ad (293))) dX5_readTransfers_68 (by omega) sc_0 rfl inX5 (by decide) rfl (zvR rfl) rfl k_220 ?_
    refine zr_get X (ci := 4) (q := 4) (zR _) (.ref (ad (297))) dX5_readTransfers_71 (by omega) sc_293 rfl inX4 (by decide) rfl (zvR rfl) rfl k_190 ?_
    refine zr_iloadn X 1 dX5_readTransfers_74 rfl ?_
    refine zr_iald X (j := i) 0 (nI ((V0 i))) dX5_readTransfers_75 (by omega) sc_297 rfl rfl (by omega) (by omega) (zcg (b := i + 2576) (by omega) ((hg51.2.1 i (by omega)).2.2.1)) ?_
    refine zr_aloadn X 0 dX5_readTransfers_76 rfl ?_
    refine zr_get X (ci := 5) (q := 5) (zR _) (.ref (ad (293))) dX5_readTransfers_77 (by omega) sc_0 rfl inX5 (by decide) rfl (zvR rfl) rfl k_220 ?_
    refine zr_get X (ci := 4) (q := 5) (zR _) (.ref (ad (298))) dX5_readTransfers_80 (by omega) sc_293 rfl inX4 (by decide) rfl (zvR rfl) rfl k_192 ?_
    refine zr_iloadn X 1 dX5_readTransfers_83 rfl ?_
    refine zr_iald X (j := i) 0 (nI ((T0 i))) dX5_readTransfers_84 (by omega) sc_298 rfl rfl (by omega) (by omega) (zcg (b := i + 2584) (by omega) ((hg51.2.1 i (by omega)).2.2.2)) ?_
    refine zr_dVi (C := RX2) (ci := 2) [.int (nI ((A0 i))), .int (nI ((B0 i))), .int (nI ((V0 i))), .int (nI ((T0 i)))] [] X (zK_ok A D tc tF tL tM) (d_moveError2_0 E u51 (f := (A0 i)) (f2 := (B0 i)) (v := (V0 i)) (t := (T0 i)) ((hg51.2.2.1 1 (by omega)).trans ((zgr_lo (by omega) _).trans hGc)) h8 hf hf2 hv ht1 ht9 hne (by rw [(hg51.2.2.1 (32 * (A0 i) + (V0 i) + 7) (by omega))]; exact hle)) k_295 k_296 k_297 k_2 k_298 hdX2_moveError ⟨rfl, rfl⟩ ⟨Nat.le_of_ble_eq_true rfl, Nat.le_of_ble_eq_true rfl⟩ (by omega) (sc_st (j := 2) (by omega) (by have := cb_2; omega)) rfl rfl rfl (Nat.le_of_ble_eq_true rfl) dX5_readTransfers_85 ?_
    refine zr_istoren X [1, 2, 0] [(0, .ref (ad (0))), (1, .int (nI (i))), (2, .int (nI (0)))] dX5_readTransfers_88 (by decide) rfl ?_
    refine zr_iloadn X 2 dX5_readTransfers_89 rfl ?_
    refine zr_if_eq X 95 dX5_readTransfers_90 (by decide) (fun _ => ?_) (fun q => absurd (zq_eq0 (by omega)) q)
    refine zr_aloadn X 0 dX5_readTransfers_95 rfl ?_
    refine zr_get X (ci := 5) (q := 2) (zR _) (.ref (ad (83))) dX5_readTransfers_96 (by omega) sc_0 rfl inX5 (by decide) rfl (zvR rfl) rfl k_217 ?_
    refine zr_aloadn X 0 dX5_readTransfers_99 rfl ?_
    refine zr_get X (ci := 5) (q := 5) (zR _) (.ref (ad (293))) dX5_readTransfers_100 (by omega) sc_0 rfl inX5 (by decide) rfl (zvR rfl) rfl k_220 ?_
    refine zr_get X (ci := 4) (q := 2) (zR _) (.ref (ad (295))) dX5_readTransfers_103 (by omega) sc_293 rfl inX4 (by decide) rfl (zvR rfl) rfl k_186 ?_
    refine zr_iloadn X 1 dX5_readTransfers_106 rfl ?_
    refine zr_iald X (j := i) 0 (nI ((A0 i))) dX5_readTransfers_107 (by omega) sc_295 rfl rfl (by omega) (by omega) (zcg (b := i + 2560) (by omega) ((hg51.2.1 i (by omega)).1)) ?_
    refine zr_aloadn X 0 dX5_readTransfers_108 rfl ?_
    refine zr_get X (ci := 5) (q := 5) (zR _) (.ref (ad (293))) dX5_readTransfers_109 (by omega) sc_0 rfl inX5 (by decide) rfl (zvR rfl) rfl k_220 ?_
    refine zr_get X (ci := 4) (q := 3) (zR _) (.ref (ad (296))) dX5_readTransfers_112 (by omega) sc_293 rfl inX4 (by decide) rfl (zvR rfl) rfl k_188 ?_
    refine zr_iloadn X 1 dX5_readTransfers_115 rfl ?_
    refine zr_iald X (j := i) 0 (nI ((B0 i))) dX5_readTransfers_116 (by omega) sc_296 rfl rfl (by omega) (by omega) (zcg (b := i + 2568) (by omega) ((hg51.2.1 i (by omega)).2.1)) ?_
    refine zr_aloadn X 0 dX5_readTransfers_117 rfl ?_
    refine zr_get X (ci := 5) (q := 5) (zR _) (.ref (ad (293))) dX5_readTransfers_118 (by omega) sc_0 rfl inX5 (by decide) rfl (zvR rfl) rfl k_220 ?_
    refine zr_get X (ci := 4) (q := 4) (zR _) (.ref (ad (297))) dX5_readTransfers_121 (by omega) sc_293 rfl inX4 (by decide) rfl (zvR rfl) rfl k_190 ?_
    refine zr_iloadn X 1 dX5_readTransfers_124 rfl ?_
    refine zr_iald X (j := i) 0 (nI ((V0 i))) dX5_readTransfers_125 (by omega) sc_297 rfl rfl (by omega) (by omega) (zcg (b := i + 2576) (by omega) ((hg51.2.1 i (by omega)).2.2.1)) ?_
    refine zr_aloadn X 0 dX5_readTransfers_126 rfl ?_
    refine zr_get X (ci := 5) (q := 5) (zR _) (.ref (ad (293))) dX5_readTransfers_127 (by omega) sc_0 rfl inX5 (by decide) rfl (zvR rfl) rfl k_220 ?_
    refine zr_get X (ci := 4) (q := 5) (zR _) (.ref (ad (298))) dX5_readTransfers_130 (by omega) sc_293 rfl inX4 (by decide) rfl (zvR rfl) rfl k_192 ?_
    refine zr_iloadn X 1 dX5_readTransfers_133 rfl ?_
    refine zr_iald X (j := i) 0 (nI ((T0 i))) dX5_readTransfers_134 (by omega) sc_298 rfl rfl (by omega) (by omega) (zcg (b := i + 2584) (by omega) ((hg51.2.1 i (by omega)).2.2.2)) ?_
    refine zr_dVi (C := RX2) (ci := 2) [.int (nI ((A0 i))), .int (nI ((B0 i))), .int (nI ((V0 i))), .int (nI ((T0 i)))] [] X (zK_ok A D tc tF tL tM) (d_mv2 E u51 (f := (A0 i)) (f2 := (B0 i)) (v := (V0 i)) (t := nI ((T0 i))) ((hg51.2.2.1 1 (by omega)).trans ((zgr_lo (by omega) _).trans hGc)) h8 hf hf2 hv hne (pa := 32 * (A0 i) + (V0 i) + 705) (pb := 32 * (B0 i) + (V0 i) + 705) (by omega) (by omega) ((hg51.2.2.1 (32 * (A0 i) + (V0 i) + 7) (by omega))) ((hg51.2.2.1 (32 * (B0 i) + (V0 i) + 7) (by omega)))) k_304 k_305 k_306 k_2 k_307 hdX2_move ⟨rfl, rfl⟩ ⟨Nat.le_of_ble_eq_true rfl, Nat.le_of_ble_eq_true rfl⟩ (by omega) (sc_st (j := 2) (by omega) (by have := cb_2; omega)) rfl rfl rfl (Nat.le_of_ble_eq_true rfl) dX5_readTransfers_135 ?_
    refine zr_pop X dX5_readTransfers_138 rfl ?_
    refine zr_iinc X 1 (nI (i + 1)) [1, 0, 2] [(0, .ref (ad (0))), (1, .int (nI (i + 1))), (2, .int (nI (0)))] dX5_readTransfers_139 rfl (zinc _) (by decide) rfl ?_
    refine zr_goto X 34 dX5_readTransfers_142 (by decide) ?_
    refine zr_drop X [0, 1] [(0, .ref (ad (0))), (1, .int (nI (i + 1)))] rfl ?_
    exact ih34 _ ⟨(pk_un (by omega)).trans ((pk_un (by omega)).trans ((hg51.1))), fun j hj => ⟨(pk_un (by omega)).trans ((pk_un (by omega)).trans (((hg51.2.1 j hj).1))), (pk_un (by omega)).trans ((pk_un (by omega)).trans (((hg51.2.1 j hj).2.1))), (pk_un (by omega)).trans ((pk_un (by omega)).trans (((hg51.2.1 j hj).2.2.1))), (pk_un (by omega)).trans ((pk_un (by omega)).trans (((hg51.2.1 j hj).2.2.2)))⟩, fun x hx => zupd_sh (hg51.2.2.1 x hx), fun x hx0 hx1 hx2 hx3 => (pk_un (by omega)).trans ((pk_un (by omega)).trans (hg51.2.2.2 x hx0 hx1 hx2 hx3))⟩

set_option maxHeartbeats 4000000 in
set_option maxRecDepth 100000 in
theorem d_readTransfers_u3 {l : Launch} {D : va_G} {tc : Nat → ClassId} {ad : Nat → Nat} {A : Nat → Prop} {tF tL tM : Nat} (E : zN 299 A ad) (μ : Nat → Int32) {w : Nat → Int32} (hw : ∀ q, q < 60 → μ (q + 2500) = w q) {n : Nat} (hn : μ 2491 = nI n) (hn2 : n ≤ 60) {c ro z : Nat} (hc : μ 1 = nI c) (h8 : c ≤ 8) (hr : μ 2452 = nI ro) (hr4 : ro < 4) (hz : μ 2451 = nI z) (hz4 : z ≤ 4) {K : Nat} {S E0 A0 B0 V0 T0 : Nat → Nat} (ch : zch w n S E0 A0 B0 V0 T0 K) (hEK : E0 K = n) {G : Nat → Int32} (hG : ∀ x, x < 349 → μ x = G x) {e : Nat} (he : e ≤ K) (ok : ∀ i, i < e → zok1 (zgr G A0 B0 V0 T0 i) c (A0 i) (B0 i) (V0 i) (T0 i)) (hf : A0 e < c) (hf2 : B0 e < c) (hv : ¬ V0 e ≤ 19)  : zMi l yX5_readTransfers cX5_readTransfers 3 (some .int) (zrm 5) (zK A D tc tF tL tM) A D vwCl tc ad 299 shC [.ref (ad (0))] μ (fun r u => r = -1 ∧ ∀ x, (x < 698 ∨ 1047 ≤ x) → x ≠ 2496 → x ≠ 2497 → (x < 2560 ∨ 2592 ≤ x) → u x = μ x) := by
  refine zM_of RX5 [(0, .ref (ad (0)))] (zK_ok A D tc tF tL tM) E.1 E.2 owC_ok (by decide +kernel) rfl (Nat.le_of_ble_eq_true rfl) rfl ?_
  intro pP eE sS mM aS bL mT cO X
  have hGc := (hG 1 (by omega)).symm.trans hc
  refine zr_aloadn X 0 dX5_readTransfers_0 rfl ?_
  refine zr_get X (ci := 5) (q := 5) (zR _) (.ref (ad (293))) dX5_readTransfers_1 (by omega) sc_0 rfl inX5 (by decide) rfl (zvR rfl) rfl k_220 ?_
  refine zr_cVi (C := RX4) (ci := 4) [] [] X (zK_ok A D tc tF tL tM) (d_all_d E μ hw (hn) hn2 ch hEK) k_394 k_395 k_396 k_6 k_397 hdX4_readAll ⟨rfl, rfl⟩ ⟨Nat.le_of_ble_eq_true rfl, Nat.le_of_ble_eq_true rfl⟩ (by omega) sc_293 rfl rfl rfl (Nat.le_of_ble_eq_true rfl) dX5_readTransfers_4 (fun z3 u2 hq3 => ?_)
  obtain ⟨rfl, g2a, g2b, g2c⟩ := hq3
  refine zr_if_ne X 21 dX5_readTransfers_7 (by decide) (fun _ => ?_) (fun q => absurd q (nI_ne0 (by omega) (by omega)))
  refine zr_aloadn X 0 dX5_readTransfers_21 rfl ?_
  refine zr_get X (ci := 5) (q := 0) (zR _) (.ref (ad (1))) dX5_readTransfers_22 (by omega) sc_0 rfl inX5 (by decide) rfl (zvR rfl) rfl k_215 ?_
  refine zr_aloadn X 0 dX5_readTransfers_25 rfl ?_
  refine zr_get X (ci := 5) (q := 2) (zR _) (.ref (ad (83))) dX5_readTransfers_26 (by omega) sc_0 rfl inX5 (by decide) rfl (zvR rfl) rfl k_217 ?_
  refine zr_dSv [.ref (ad (1)), .ref (ad (83))] [] X (zK_ok A D tc tF tL tM) (d_copyState E u2 (j1 := 0) (j2 := 2) (by omega) (by omega) (by omega) cb_0 cb_2 (a := 0) (b := 698) (by omega) (by omega)) k_414 k_246 k_1 k_247 hdX5_copyState ⟨rfl, rfl⟩ ⟨Nat.le_of_ble_eq_true rfl, Nat.le_of_ble_eq_true rfl⟩ rfl rfl (Nat.le_of_ble_eq_true rfl) dX5_readTransfers_29 ?_
  refine zr_iconst X (nI (0)) dX5_readTransfers_32 (by decide +kernel) ?_
  refine zr_istoren X [1, 0] [(0, .ref (ad (0))), (1, .int (nI (0)))] dX5_readTransfers_33 (by decide) rfl ?_
  refine zr_forM X (e) (fun i u => u 2496 = nI (K + 1) ∧ (∀ j, j < K + 1 → u (j + 2560) = nI (A0 j) ∧ u (j + 2568) = nI (B0 j) ∧ u (j + 2576) = nI (V0 j) ∧ u (j + 2584) = nI (T0 j)) ∧ (∀ x, x < 349 → u (x + 698) = zgr G A0 B0 V0 T0 i x) ∧ ∀ x, (x < 698 ∨ 1047 ≤ x) → x ≠ 2496 → x ≠ 2497 → (x < 2560 ∨ 2592 ≤ x) → u x = μ x) (fun i => [(0, .ref (ad (0))), (1, .int (nI (i)))]) [] (⟨(cp_out (by omega)).trans (g2a), fun j hj => ⟨(cp_out (by omega)).trans ((g2b j hj).1), (cp_out (by omega)).trans ((g2b j hj).2.1), (cp_out (by omega)).trans ((g2b j hj).2.2.1), (cp_out (by omega)).trans ((g2b j hj).2.2.2)⟩, fun x hx => (cp_in (q := x) (by omega) (by omega) (by omega)).trans (((g2c _ (by omega) (by omega) (by omega)).trans (rfl)).trans (hG x hx)), fun x hx0 hx1 hx2 hx3 => (cp_out (by omega)).trans ((g2c _ (by omega) (by omega) (by omega)).trans (rfl))⟩) rfl ?_ ?_
  · intro u14 hg14
    have hT := ch.2.1 e (by omega)
    have hK := zch_K ch hn2
    obtain ⟨hav, hbv, hvv, ht1, ht9⟩ := zsT_val hT
    refine zr_iloadn X 1 dX5_readTransfers_34 rfl ?_
    refine zr_aloadn X 0 dX5_readTransfers_35 rfl ?_
    refine zr_get X (ci := 5) (q := 5) (zR _) (.ref (ad (293))) dX5_readTransfers_36 (by omega) sc_0 rfl inX5 (by decide) rfl (zvR rfl) rfl k_220 ?_
    refine zr_get X (ci := 4) (q := 6) zI (.int (nI (K + 1))) dX5_readTransfers_39 (by omega) sc_293 rfl inX4 (by decide) rfl (congrArg Value.int (hg14.1)) rfl k_194 ?_
    refine zr_icmp_ge X 145 dX5_readTransfers_42 (by decide) (fun q => absurd q (nI_ge (by omega) (by omega))) (fun _ => ?_)
    refine zr_aloadn X 0 dX5_readTransfers_45 rfl ?_
    refine zr_get X (ci := 5) (q := 2) (zR _) (.ref (ad (83))) dX5_readTransfers_46 (by omega) sc_0 rfl inX5 (by decide) rfl (zvR rfl) rfl k_217 ?_
    refine zr_aloadn X 0 dX5_readTransfers_49 rfl ?_
    refine zr_get X (ci := 5) (q := 5) (zR _) (.ref (ad (293))) dX5_readTransfers_50 (by omega) sc_0 rfl inX5 (by decide) rfl (zvR rfl) rfl k_220 ?_
    refine zr_get X (ci := 4) (q := 2) (zR _) (.ref (ad (295))) dX5_readTransfers_53 (by omega) sc_293 rfl inX4 (by decide) rfl (zvR rfl) rfl k_186 ?_
    refine zr_iloadn X 1 dX5_readTransfers_56 rfl ?_
    refine zr_iald X (j := e) 0 (nI ((A0 e))) dX5_readTransfers_57 (by omega) sc_295 rfl rfl (by omega) (by omega) (zcg (b := e + 2560) (by omega) ((hg14.2.1 e (by omega)).1)) ?_
    refine zr_aloadn X 0 dX5_readTransfers_58 rfl ?_
    refine zr_get X (ci := 5) (q := 5) (zR _) (.ref (ad (293))) dX5_readTransfers_59 (by omega) sc_0 rfl inX5 (by decide) rfl (zvR rfl) rfl k_220 ?_
    refine zr_get X (ci := 4) (q := 3) (zR _) (.ref (ad (296))) dX5_readTransfers_62 (by omega) sc_293 rfl inX4 (by decide) rfl (zvR rfl) rfl k_188 ?_
    refine zr_iloadn X 1 dX5_readTransfers_65 rfl ?_
    refine zr_iald X (j := e) 0 (nI ((B0 e))) dX5_readTransfers_66 (by omega) sc_296 rfl rfl (by omega) (by omega) (zcg (b := e + 2568) (by omega) ((hg14.2.1 e (by omega)).2.1)) ?_
    refine zr_aloadn X 0 dX5_readTransfers_67 rfl ?_
    refine zr_get X (ci := 5) (q := 5) (zR _) (.ref (ad (293))) dX5_readTransfers_68 (by omega) sc_0 rfl inX5 (by decide) rfl (zvR rfl) rfl k_220 ?_
    refine zr_get X (ci := 4) (q := 4) (zR _) (.ref (ad (297))) dX5_readTransfers_71 (by omega) sc_293 rfl inX4 (by decide) rfl (zvR rfl) rfl k_190 ?_
    refine zr_iloadn X 1 dX5_readTransfers_74 rfl ?_
    refine zr_iald X (j := e) 0 (nI ((V0 e))) dX5_readTransfers_75 (by omega) sc_297 rfl rfl (by omega) (by omega) (zcg (b := e + 2576) (by omega) ((hg14.2.1 e (by omega)).2.2.1)) ?_
    refine zr_aloadn X 0 dX5_readTransfers_76 rfl ?_
    refine zr_get X (ci := 5) (q := 5) (zR _) (.ref (ad (293))) dX5_readTransfers_77 (by omega) sc_0 rfl inX5 (by decide) rfl (zvR rfl) rfl k_220 ?_
    refine zr_get X (ci := 4) (q := 5) (zR _) (.ref (ad (298))) dX5_readTransfers_80 (by omega) sc_293 rfl inX4 (by decide) rfl (zvR rfl) rfl k_192 ?_
    refine zr_iloadn X 1 dX5_readTransfers_83 rfl ?_
    refine zr_iald X (j := e) 0 (nI ((T0 e))) dX5_readTransfers_84 (by omega) sc_298 rfl rfl (by omega) (by omega) (zcg (b := e + 2584) (by omega) ((hg14.2.1 e (by omega)).2.2.2)) ?_
    refine zr_dVi (C := RX2) (ci := 2) [.int (nI ((A0 e))), .int (nI ((B0 e))), .int (nI ((V0 e))), .int (nI ((T0 e)))] [] X (zK_ok A D tc tF tL tM) (d_moveError2_u3 E u14 (f := (A0 e)) (f2 := (B0 e)) ((hg14.2.2.1 1 (by omega)).trans ((zgr_lo (by omega) _).trans hGc)) h8 hf hf2 (zin_nI hv (by omega) (by omega)) _) k_295 k_296 k_297 k_2 k_298 hdX2_moveError ⟨rfl, rfl⟩ ⟨Nat.le_of_ble_eq_true rfl, Nat.le_of_ble_eq_true rfl⟩ (by omega) (sc_st (j := 2) (by omega) (by have := cb_2; omega)) rfl rfl rfl (Nat.le_of_ble_eq_true rfl) dX5_readTransfers_85 ?_
    refine zr_istoren X [1, 2, 0] [(0, .ref (ad (0))), (1, .int (nI (e))), (2, .int (-1))] dX5_readTransfers_88 (by decide) rfl ?_
    refine zr_iloadn X 2 dX5_readTransfers_89 rfl ?_
    refine zr_if_eq X 95 dX5_readTransfers_90 (by decide) (fun q => absurd q (by decide)) (fun _ => ?_)
    refine zr_iloadn X 2 dX5_readTransfers_93 rfl ?_
    exact zr_iret X dX5_readTransfers_94 ⟨rfl, fun x hx0 hx1 hx2 hx3 => hg14.2.2.2 x hx0 hx1 hx2 hx3⟩
  · intro i u51 hi hg51 ih34
    have hT := ch.2.1 i (by omega)
    obtain ⟨hav, hbv, hvv, ht1, ht9⟩ := zsT_val hT
    obtain ⟨hf, hf2, hv, hne, hle⟩ := ok i (by omega)
    have hK := zch_K ch hn2
    refine zr_iloadn X 1 dX5_readTransfers_34 rfl ?_
    refine zr_aloadn X 0 dX5_readTransfers_35 rfl ?_
    refine zr_get X (ci := 5) (q := 5) (zR _) (.ref (ad (293))) dX5_readTransfers_36 (by omega) sc_0 rfl inX5 (by decide) rfl (zvR rfl) rfl k_220 ?_
    refine zr_get X (ci := 4) (q := 6) zI (.int (nI (K + 1))) dX5_readTransfers_39 (by omega) sc_293 rfl inX4 (by decide) rfl (congrArg Value.int (hg51.1)) rfl k_194 ?_
    refine zr_icmp_ge X 145 dX5_readTransfers_42 (by decide) (fun q => absurd q (nI_ge (by omega) (by omega))) (fun _ => ?_)
    refine zr_aloadn X 0 dX5_readTransfers_45 rfl ?_
    refine zr_get X (ci := 5) (q := 2) (zR _) (.ref (ad (83))) dX5_readTransfers_46 (by omega) sc_0 rfl inX5 (by decide) rfl (zvR rfl) rfl k_217 ?_
    refine zr_aloadn X 0 dX5_readTransfers_49 rfl ?_
    refine zr_get X (ci := 5) (q := 5) (zR _) (.ref (ad (293))) dX5_readTransfers_50 (by omega) sc_0 rfl inX5 (by decide) rfl (zvR rfl) rfl k_220 ?_
    refine zr_get X (ci := 4) (q := 2) (zR _) (.ref (ad (295))) dX5_readTransfers_53 (by omega) sc_293 rfl inX4 (by decide) rfl (zvR rfl) rfl k_186 ?_
    refine zr_iloadn X 1 dX5_readTransfers_56 rfl ?_
    refine zr_iald X (j := i) 0 (nI ((A0 i))) dX5_readTransfers_57 (by omega) sc_295 rfl rfl (by omega) (by omega) (zcg (b := i + 2560) (by omega) ((hg51.2.1 i (by omega)).1)) ?_
    refine zr_aloadn X 0 dX5_readTransfers_58 rfl ?_
    refine zr_get X (ci := 5) (q := 5) (zR _) (.ref (ad (293))) dX5_readTransfers_59 (by omega) sc_0 rfl inX5 (by decide) rfl (zvR rfl) rfl k_220 ?_
    refine zr_get X (ci := 4) (q := 3) (zR _) (.ref (ad (296))) dX5_readTransfers_62 (by omega) sc_293 rfl inX4 (by decide) rfl (zvR rfl) rfl k_188 ?_
    refine zr_iloadn X 1 dX5_readTransfers_65 rfl ?_
    refine zr_iald X (j := i) 0 (nI ((B0 i))) dX5_readTransfers_66 (by omega) sc_296 rfl rfl (by omega) (by omega) (zcg (b := i + 2568) (by omega) ((hg51.2.1 i (by omega)).2.1)) ?_
    refine zr_aloadn X 0 dX5_readTransfers_67 rfl ?_
    refine zr_get X (ci := 5) (q := 5) (zR _) (.ref (ad (293))) dX5_readTransfers_68 (by omega) sc_0 rfl inX5 (by decide) rfl (zvR rfl) rfl k_220 ?_
    refine zr_get X (ci := 4) (q := 4) (zR _) (.ref (ad (297))) dX5_readTransfers_71 (by omega) sc_293 rfl inX4 (by decide) rfl (zvR rfl) rfl k_190 ?_
    refine zr_iloadn X 1 dX5_readTransfers_74 rfl ?_
    refine zr_iald X (j := i) 0 (nI ((V0 i))) dX5_readTransfers_75 (by omega) sc_297 rfl rfl (by omega) (by omega) (zcg (b := i + 2576) (by omega) ((hg51.2.1 i (by omega)).2.2.1)) ?_
    refine zr_aloadn X 0 dX5_readTransfers_76 rfl ?_
    refine zr_get X (ci := 5) (q := 5) (zR _) (.ref (ad (293))) dX5_readTransfers_77 (by omega) sc_0 rfl inX5 (by decide) rfl (zvR rfl) rfl k_220 ?_
    refine zr_get X (ci := 4) (q := 5) (zR _) (.ref (ad (298))) dX5_readTransfers_80 (by omega) sc_293 rfl inX4 (by decide) rfl (zvR rfl) rfl k_192 ?_
    refine zr_iloadn X 1 dX5_readTransfers_83 rfl ?_
    refine zr_iald X (j := i) 0 (nI ((T0 i))) dX5_readTransfers_84 (by omega) sc_298 rfl rfl (by omega) (by omega) (zcg (b := i + 2584) (by omega) ((hg51.2.1 i (by omega)).2.2.2)) ?_
    refine zr_dVi (C := RX2) (ci := 2) [.int (nI ((A0 i))), .int (nI ((B0 i))), .int (nI ((V0 i))), .int (nI ((T0 i)))] [] X (zK_ok A D tc tF tL tM) (d_moveError2_0 E u51 (f := (A0 i)) (f2 := (B0 i)) (v := (V0 i)) (t := (T0 i)) ((hg51.2.2.1 1 (by omega)).trans ((zgr_lo (by omega) _).trans hGc)) h8 hf hf2 hv ht1 ht9 hne (by rw [(hg51.2.2.1 (32 * (A0 i) + (V0 i) + 7) (by omega))]; exact hle)) k_295 k_296 k_297 k_2 k_298 hdX2_moveError ⟨rfl, rfl⟩ ⟨Nat.le_of_ble_eq_true rfl, Nat.le_of_ble_eq_true rfl⟩ (by omega) (sc_st (j := 2) (by omega) (by have := cb_2; omega)) rfl rfl rfl (Nat.le_of_ble_eq_true rfl) dX5_readTransfers_85 ?_
    refine zr_istoren X [1, 2, 0] [(0, .ref (ad (0))), (1, .int (nI (i))), (2, .int (nI (0)))] dX5_readTransfers_88 (by decide) rfl ?_
    refine zr_iloadn X 2 dX5_readTransfers_89 rfl ?_
    refine zr_if_eq X 95 dX5_readTransfers_90 (by decide) (fun _ => ?_) (fun q => absurd (zq_eq0 (by omega)) q)
    refine zr_aloadn X 0 dX5_readTransfers_95 rfl ?_
    refine zr_get X (ci := 5) (q := 2) (zR _) (.ref (ad (83))) dX5_readTransfers_96 (by omega) sc_0 rfl inX5 (by decide) rfl (zvR rfl) rfl k_217 ?_
    refine zr_aloadn X 0 dX5_readTransfers_99 rfl ?_
    refine zr_get X (ci := 5) (q := 5) (zR _) (.ref (ad (293))) dX5_readTransfers_100 (by omega) sc_0 rfl inX5 (by decide) rfl (zvR rfl) rfl k_220 ?_
    refine zr_get X (ci := 4) (q := 2) (zR _) (.ref (ad (295))) dX5_readTransfers_103 (by omega) sc_293 rfl inX4 (by decide) rfl (zvR rfl) rfl k_186 ?_
    refine zr_iloadn X 1 dX5_readTransfers_106 rfl ?_
    refine zr_iald X (j := i) 0 (nI ((A0 i))) dX5_readTransfers_107 (by omega) sc_295 rfl rfl (by omega) (by omega) (zcg (b := i + 2560) (by omega) ((hg51.2.1 i (by omega)).1)) ?_
    refine zr_aloadn X 0 dX5_readTransfers_108 rfl ?_
    refine zr_get X (ci := 5) (q := 5) (zR _) (.ref (ad (293))) dX5_readTransfers_109 (by omega) sc_0 rfl inX5 (by decide) rfl (zvR rfl) rfl k_220 ?_
    refine zr_get X (ci := 4) (q := 3) (zR _) (.ref (ad (296))) dX5_readTransfers_112 (by omega) sc_293 rfl inX4 (by decide) rfl (zvR rfl) rfl k_188 ?_
    refine zr_iloadn X 1 dX5_readTransfers_115 rfl ?_
    refine zr_iald X (j := i) 0 (nI ((B0 i))) dX5_readTransfers_116 (by omega) sc_296 rfl rfl (by omega) (by omega) (zcg (b := i + 2568) (by omega) ((hg51.2.1 i (by omega)).2.1)) ?_
    refine zr_aloadn X 0 dX5_readTransfers_117 rfl ?_
    refine zr_get X (ci := 5) (q := 5) (zR _) (.ref (ad (293))) dX5_readTransfers_118 (by omega) sc_0 rfl inX5 (by decide) rfl (zvR rfl) rfl k_220 ?_
    refine zr_get X (ci := 4) (q := 4) (zR _) (.ref (ad (297))) dX5_readTransfers_121 (by omega) sc_293 rfl inX4 (by decide) rfl (zvR rfl) rfl k_190 ?_
    refine zr_iloadn X 1 dX5_readTransfers_124 rfl ?_
    refine zr_iald X (j := i) 0 (nI ((V0 i))) dX5_readTransfers_125 (by omega) sc_297 rfl rfl (by omega) (by omega) (zcg (b := i + 2576) (by omega) ((hg51.2.1 i (by omega)).2.2.1)) ?_
    refine zr_aloadn X 0 dX5_readTransfers_126 rfl ?_
    refine zr_get X (ci := 5) (q := 5) (zR _) (.ref (ad (293))) dX5_readTransfers_127 (by omega) sc_0 rfl inX5 (by decide) rfl (zvR rfl) rfl k_220 ?_
    refine zr_get X (ci := 4) (q := 5) (zR _) (.ref (ad (298))) dX5_readTransfers_130 (by omega) sc_293 rfl inX4 (by decide) rfl (zvR rfl) rfl k_192 ?_
    refine zr_iloadn X 1 dX5_readTransfers_133 rfl ?_
    refine zr_iald X (j := i) 0 (nI ((T0 i))) dX5_readTransfers_134 (by omega) sc_298 rfl rfl (by omega) (by omega) (zcg (b := i + 2584) (by omega) ((hg51.2.1 i (by omega)).2.2.2)) ?_
    refine zr_dVi (C := RX2) (ci := 2) [.int (nI ((A0 i))), .int (nI ((B0 i))), .int (nI ((V0 i))), .int (nI ((T0 i)))] [] X (zK_ok A D tc tF tL tM) (d_mv2 E u51 (f := (A0 i)) (f2 := (B0 i)) (v := (V0 i)) (t := nI ((T0 i))) ((hg51.2.2.1 1 (by omega)).trans ((zgr_lo (by omega) _).trans hGc)) h8 hf hf2 hv hne (pa := 32 * (A0 i) + (V0 i) + 705) (pb := 32 * (B0 i) + (V0 i) + 705) (by omega) (by omega) ((hg51.2.2.1 (32 * (A0 i) + (V0 i) + 7) (by omega))) ((hg51.2.2.1 (32 * (B0 i) + (V0 i) + 7) (by omega)))) k_304 k_305 k_306 k_2 k_307 hdX2_move ⟨rfl, rfl⟩ ⟨Nat.le_of_ble_eq_true rfl, Nat.le_of_ble_eq_true rfl⟩ (by omega) (sc_st (j := 2) (by omega) (by have := cb_2; omega)) rfl rfl rfl (Nat.le_of_ble_eq_true rfl) dX5_readTransfers_135 ?_
    refine zr_pop X dX5_readTransfers_138 rfl ?_
    refine zr_iinc X 1 (nI (i + 1)) [1, 0, 2] [(0, .ref (ad (0))), (1, .int (nI (i + 1))), (2, .int (nI (0)))] dX5_readTransfers_139 rfl (zinc _) (by decide) rfl ?_
    refine zr_goto X 34 dX5_readTransfers_142 (by decide) ?_
    refine zr_drop X [0, 1] [(0, .ref (ad (0))), (1, .int (nI (i + 1)))] rfl ?_
    exact ih34 _ ⟨(pk_un (by omega)).trans ((pk_un (by omega)).trans ((hg51.1))), fun j hj => ⟨(pk_un (by omega)).trans ((pk_un (by omega)).trans (((hg51.2.1 j hj).1))), (pk_un (by omega)).trans ((pk_un (by omega)).trans (((hg51.2.1 j hj).2.1))), (pk_un (by omega)).trans ((pk_un (by omega)).trans (((hg51.2.1 j hj).2.2.1))), (pk_un (by omega)).trans ((pk_un (by omega)).trans (((hg51.2.1 j hj).2.2.2)))⟩, fun x hx => zupd_sh (hg51.2.2.1 x hx), fun x hx0 hx1 hx2 hx3 => (pk_un (by omega)).trans ((pk_un (by omega)).trans (hg51.2.2.2 x hx0 hx1 hx2 hx3))⟩

set_option maxHeartbeats 4000000 in
set_option maxRecDepth 100000 in
theorem d_readTransfers_b2 {l : Launch} {D : va_G} {tc : Nat → ClassId} {ad : Nat → Nat} {A : Nat → Prop} {tF tL tM : Nat} (E : zN 299 A ad) (μ : Nat → Int32) {w : Nat → Int32} (hw : ∀ q, q < 60 → μ (q + 2500) = w q) {n : Nat} (hn : μ 2491 = nI n) (hn2 : n ≤ 60) {c ro z : Nat} (hc : μ 1 = nI c) (h8 : c ≤ 8) (hr : μ 2452 = nI ro) (hr4 : ro < 4) (hz : μ 2451 = nI z) (hz4 : z ≤ 4) {K : Nat} {S E0 A0 B0 V0 T0 : Nat → Nat} (ch : zch w n S E0 A0 B0 V0 T0 K) (hEK : E0 K = n) {G : Nat → Int32} (hG : ∀ x, x < 349 → μ x = G x) {e : Nat} (he : e ≤ K) (ok : ∀ i, i < e → zok1 (zgr G A0 B0 V0 T0 i) c (A0 i) (B0 i) (V0 i) (T0 i)) (hf : A0 e < c) (hf2 : B0 e < c) (hv : V0 e ≤ 19) (hab : A0 e = B0 e)  : zMi l yX5_readTransfers cX5_readTransfers 3 (some .int) (zrm 5) (zK A D tc tF tL tM) A D vwCl tc ad 299 shC [.ref (ad (0))] μ (fun r u => r = -2 ∧ ∀ x, (x < 698 ∨ 1047 ≤ x) → x ≠ 2496 → x ≠ 2497 → (x < 2560 ∨ 2592 ≤ x) → u x = μ x) := by
  refine zM_of RX5 [(0, .ref (ad (0)))] (zK_ok A D tc tF tL tM) E.1 E.2 owC_ok (by decide +kernel) rfl (Nat.le_of_ble_eq_true rfl) rfl ?_
  intro pP eE sS mM aS bL mT cO X
  have hGc := (hG 1 (by omega)).symm.trans hc
  refine zr_aloadn X 0 dX5_readTransfers_0 rfl ?_
  refine zr_get X (ci := 5) (q := 5) (zR _) (.ref (ad (293))) dX5_readTransfers_1 (by omega) sc_0 rfl inX5 (by decide) rfl (zvR rfl) rfl k_220 ?_
  refine zr_cVi (C := RX4) (ci := 4) [] [] X (zK_ok A D tc tF tL tM) (d_all_d E μ hw (hn) hn2 ch hEK) k_394 k_395 k_396 k_6 k_397 hdX4_readAll ⟨rfl, rfl⟩ ⟨Nat.le_of_ble_eq_true rfl, Nat.le_of_ble_eq_true rfl⟩ (by omega) sc_293 rfl rfl rfl (Nat.le_of_ble_eq_true rfl) dX5_readTransfers_4 (fun z3 u2 hq3 => ?_)
  obtain ⟨rfl, g2a, g2b, g2c⟩ := hq3
  refine zr_if_ne X 21 dX5_readTransfers_7 (by decide) (fun _ => ?_) (fun q => absurd q (nI_ne0 (by omega) (by omega)))
  refine zr_aloadn X 0 dX5_readTransfers_21 rfl ?_
  refine zr_get X (ci := 5) (q := 0) (zR _) (.ref (ad (1))) dX5_readTransfers_22 (by omega) sc_0 rfl inX5 (by decide) rfl (zvR rfl) rfl k_215 ?_
  refine zr_aloadn X 0 dX5_readTransfers_25 rfl ?_
  refine zr_get X (ci := 5) (q := 2) (zR _) (.ref (ad (83))) dX5_readTransfers_26 (by omega) sc_0 rfl inX5 (by decide) rfl (zvR rfl) rfl k_217 ?_
  refine zr_dSv [.ref (ad (1)), .ref (ad (83))] [] X (zK_ok A D tc tF tL tM) (d_copyState E u2 (j1 := 0) (j2 := 2) (by omega) (by omega) (by omega) cb_0 cb_2 (a := 0) (b := 698) (by omega) (by omega)) k_414 k_246 k_1 k_247 hdX5_copyState ⟨rfl, rfl⟩ ⟨Nat.le_of_ble_eq_true rfl, Nat.le_of_ble_eq_true rfl⟩ rfl rfl (Nat.le_of_ble_eq_true rfl) dX5_readTransfers_29 ?_
  refine zr_iconst X (nI (0)) dX5_readTransfers_32 (by decide +kernel) ?_
  refine zr_istoren X [1, 0] [(0, .ref (ad (0))), (1, .int (nI (0)))] dX5_readTransfers_33 (by decide) rfl ?_
  refine zr_forM X (e) (fun i u => u 2496 = nI (K + 1) ∧ (∀ j, j < K + 1 → u (j + 2560) = nI (A0 j) ∧ u (j + 2568) = nI (B0 j) ∧ u (j + 2576) = nI (V0 j) ∧ u (j + 2584) = nI (T0 j)) ∧ (∀ x, x < 349 → u (x + 698) = zgr G A0 B0 V0 T0 i x) ∧ ∀ x, (x < 698 ∨ 1047 ≤ x) → x ≠ 2496 → x ≠ 2497 → (x < 2560 ∨ 2592 ≤ x) → u x = μ x) (fun i => [(0, .ref (ad (0))), (1, .int (nI (i)))]) [] (⟨(cp_out (by omega)).trans (g2a), fun j hj => ⟨(cp_out (by omega)).trans ((g2b j hj).1), (cp_out (by omega)).trans ((g2b j hj).2.1), (cp_out (by omega)).trans ((g2b j hj).2.2.1), (cp_out (by omega)).trans ((g2b j hj).2.2.2)⟩, fun x hx => (cp_in (q := x) (by omega) (by omega) (by omega)).trans (((g2c _ (by omega) (by omega) (by omega)).trans (rfl)).trans (hG x hx)), fun x hx0 hx1 hx2 hx3 => (cp_out (by omega)).trans ((g2c _ (by omega) (by omega) (by omega)).trans (rfl))⟩) rfl ?_ ?_
  · intro u14 hg14
    have hT := ch.2.1 e (by omega)
    have hK := zch_K ch hn2
    obtain ⟨hav, hbv, hvv, ht1, ht9⟩ := zsT_val hT
    refine zr_iloadn X 1 dX5_readTransfers_34 rfl ?_
    refine zr_aloadn X 0 dX5_readTransfers_35 rfl ?_
    refine zr_get X (ci := 5) (q := 5) (zR _) (.ref (ad (293))) dX5_readTransfers_36 (by omega) sc_0 rfl inX5 (by decide) rfl (zvR rfl) rfl k_220 ?_
    refine zr_get X (ci := 4) (q := 6) zI (.int (nI (K + 1))) dX5_readTransfers_39 (by omega) sc_293 rfl inX4 (by decide) rfl (congrArg Value.int (hg14.1)) rfl k_194 ?_
    refine zr_icmp_ge X 145 dX5_readTransfers_42 (by decide) (fun q => absurd q (nI_ge (by omega) (by omega))) (fun _ => ?_)
    refine zr_aloadn X 0 dX5_readTransfers_45 rfl ?_
    refine zr_get X (ci := 5) (q := 2) (zR _) (.ref (ad (83))) dX5_readTransfers_46 (by omega) sc_0 rfl inX5 (by decide) rfl (zvR rfl) rfl k_217 ?_
    refine zr_aloadn X 0 dX5_readTransfers_49 rfl ?_
    refine zr_get X (ci := 5) (q := 5) (zR _) (.ref (ad (293))) dX5_readTransfers_50 (by omega) sc_0 rfl inX5 (by decide) rfl (zvR rfl) rfl k_220 ?_
    refine zr_get X (ci := 4) (q := 2) (zR _) (.ref (ad (295))) dX5_readTransfers_53 (by omega) sc_293 rfl inX4 (by decide) rfl (zvR rfl) rfl k_186 ?_
    refine zr_iloadn X 1 dX5_readTransfers_56 rfl ?_
    refine zr_iald X (j := e) 0 (nI ((A0 e))) dX5_readTransfers_57 (by omega) sc_295 rfl rfl (by omega) (by omega) (zcg (b := e + 2560) (by omega) ((hg14.2.1 e (by omega)).1)) ?_
    refine zr_aloadn X 0 dX5_readTransfers_58 rfl ?_
    refine zr_get X (ci := 5) (q := 5) (zR _) (.ref (ad (293))) dX5_readTransfers_59 (by omega) sc_0 rfl inX5 (by decide) rfl (zvR rfl) rfl k_220 ?_
    refine zr_get X (ci := 4) (q := 3) (zR _) (.ref (ad (296))) dX5_readTransfers_62 (by omega) sc_293 rfl inX4 (by decide) rfl (zvR rfl) rfl k_188 ?_
    refine zr_iloadn X 1 dX5_readTransfers_65 rfl ?_
    refine zr_iald X (j := e) 0 (nI ((B0 e))) dX5_readTransfers_66 (by omega) sc_296 rfl rfl (by omega) (by omega) (zcg (b := e + 2568) (by omega) ((hg14.2.1 e (by omega)).2.1)) ?_
    refine zr_aloadn X 0 dX5_readTransfers_67 rfl ?_
    refine zr_get X (ci := 5) (q := 5) (zR _) (.ref (ad (293))) dX5_readTransfers_68 (by omega) sc_0 rfl inX5 (by decide) rfl (zvR rfl) rfl k_220 ?_
    refine zr_get X (ci := 4) (q := 4) (zR _) (.ref (ad (297))) dX5_readTransfers_71 (by omega) sc_293 rfl inX4 (by decide) rfl (zvR rfl) rfl k_190 ?_
    refine zr_iloadn X 1 dX5_readTransfers_74 rfl ?_
    refine zr_iald X (j := e) 0 (nI ((V0 e))) dX5_readTransfers_75 (by omega) sc_297 rfl rfl (by omega) (by omega) (zcg (b := e + 2576) (by omega) ((hg14.2.1 e (by omega)).2.2.1)) ?_
    refine zr_aloadn X 0 dX5_readTransfers_76 rfl ?_
    refine zr_get X (ci := 5) (q := 5) (zR _) (.ref (ad (293))) dX5_readTransfers_77 (by omega) sc_0 rfl inX5 (by decide) rfl (zvR rfl) rfl k_220 ?_
    refine zr_get X (ci := 4) (q := 5) (zR _) (.ref (ad (298))) dX5_readTransfers_80 (by omega) sc_293 rfl inX4 (by decide) rfl (zvR rfl) rfl k_192 ?_
    refine zr_iloadn X 1 dX5_readTransfers_83 rfl ?_
    refine zr_iald X (j := e) 0 (nI ((T0 e))) dX5_readTransfers_84 (by omega) sc_298 rfl rfl (by omega) (by omega) (zcg (b := e + 2584) (by omega) ((hg14.2.1 e (by omega)).2.2.2)) ?_
    refine zr_dVi (C := RX2) (ci := 2) [.int (nI ((A0 e))), .int (nI ((B0 e))), .int (nI ((V0 e))), .int (nI ((T0 e)))] [] X (zK_ok A D tc tF tL tM) (d_me2_b2 E u14 (f := (A0 e)) (f2 := (B0 e)) (v := (V0 e)) (t := (T0 e)) ((hg14.2.2.1 1 (by omega)).trans ((zgr_lo (by omega) _).trans hGc)) h8 hf hab hv ht1 ht9) k_295 k_296 k_297 k_2 k_298 hdX2_moveError ⟨rfl, rfl⟩ ⟨Nat.le_of_ble_eq_true rfl, Nat.le_of_ble_eq_true rfl⟩ (by omega) (sc_st (j := 2) (by omega) (by have := cb_2; omega)) rfl rfl rfl (Nat.le_of_ble_eq_true rfl) dX5_readTransfers_85 ?_
    refine zr_istoren X [1, 2, 0] [(0, .ref (ad (0))), (1, .int (nI (e))), (2, .int (-2))] dX5_readTransfers_88 (by decide) rfl ?_
    refine zr_iloadn X 2 dX5_readTransfers_89 rfl ?_
    refine zr_if_eq X 95 dX5_readTransfers_90 (by decide) (fun q => absurd q (by decide)) (fun _ => ?_)
    refine zr_iloadn X 2 dX5_readTransfers_93 rfl ?_
    exact zr_iret X dX5_readTransfers_94 ⟨rfl, fun x hx0 hx1 hx2 hx3 => hg14.2.2.2 x hx0 hx1 hx2 hx3⟩
  · intro i u51 hi hg51 ih34
    have hT := ch.2.1 i (by omega)
    obtain ⟨hav, hbv, hvv, ht1, ht9⟩ := zsT_val hT
    obtain ⟨hf, hf2, hv, hne, hle⟩ := ok i (by omega)
    have hK := zch_K ch hn2
    refine zr_iloadn X 1 dX5_readTransfers_34 rfl ?_
    refine zr_aloadn X 0 dX5_readTransfers_35 rfl ?_
    refine zr_get X (ci := 5) (q := 5) (zR _) (.ref (ad (293))) dX5_readTransfers_36 (by omega) sc_0 rfl inX5 (by decide) rfl (zvR rfl) rfl k_220 ?_
    refine zr_get X (ci := 4) (q := 6) zI (.int (nI (K + 1))) dX5_readTransfers_39 (by omega) sc_293 rfl inX4 (by decide) rfl (congrArg Value.int (hg51.1)) rfl k_194 ?_
    refine zr_icmp_ge X 145 dX5_readTransfers_42 (by decide) (fun q => absurd q (nI_ge (by omega) (by omega))) (fun _ => ?_)
    refine zr_aloadn X 0 dX5_readTransfers_45 rfl ?_
    refine zr_get X (ci := 5) (q := 2) (zR _) (.ref (ad (83))) dX5_readTransfers_46 (by omega) sc_0 rfl inX5 (by decide) rfl (zvR rfl) rfl k_217 ?_
    refine zr_aloadn X 0 dX5_readTransfers_49 rfl ?_
    refine zr_get X (ci := 5) (q := 5) (zR _) (.ref (ad (293))) dX5_readTransfers_50 (by omega) sc_0 rfl inX5 (by decide) rfl (zvR rfl) rfl k_220 ?_
    refine zr_get X (ci := 4) (q := 2) (zR _) (.ref (ad (295))) dX5_readTransfers_53 (by omega) sc_293 rfl inX4 (by decide) rfl (zvR rfl) rfl k_186 ?_
    refine zr_iloadn X 1 dX5_readTransfers_56 rfl ?_
    refine zr_iald X (j := i) 0 (nI ((A0 i))) dX5_readTransfers_57 (by omega) sc_295 rfl rfl (by omega) (by omega) (zcg (b := i + 2560) (by omega) ((hg51.2.1 i (by omega)).1)) ?_
    refine zr_aloadn X 0 dX5_readTransfers_58 rfl ?_
    refine zr_get X (ci := 5) (q := 5) (zR _) (.ref (ad (293))) dX5_readTransfers_59 (by omega) sc_0 rfl inX5 (by decide) rfl (zvR rfl) rfl k_220 ?_
    refine zr_get X (ci := 4) (q := 3) (zR _) (.ref (ad (296))) dX5_readTransfers_62 (by omega) sc_293 rfl inX4 (by decide) rfl (zvR rfl) rfl k_188 ?_
    refine zr_iloadn X 1 dX5_readTransfers_65 rfl ?_
    refine zr_iald X (j := i) 0 (nI ((B0 i))) dX5_readTransfers_66 (by omega) sc_296 rfl rfl (by omega) (by omega) (zcg (b := i + 2568) (by omega) ((hg51.2.1 i (by omega)).2.1)) ?_
    refine zr_aloadn X 0 dX5_readTransfers_67 rfl ?_
    refine zr_get X (ci := 5) (q := 5) (zR _) (.ref (ad (293))) dX5_readTransfers_68 (by omega) sc_0 rfl inX5 (by decide) rfl (zvR rfl) rfl k_220 ?_
    refine zr_get X (ci := 4) (q := 4) (zR _) (.ref (ad (297))) dX5_readTransfers_71 (by omega) sc_293 rfl inX4 (by decide) rfl (zvR rfl) rfl k_190 ?_
    refine zr_iloadn X 1 dX5_readTransfers_74 rfl ?_
    refine zr_iald X (j := i) 0 (nI ((V0 i))) dX5_readTransfers_75 (by omega) sc_297 rfl rfl (by omega) (by omega) (zcg (b := i + 2576) (by omega) ((hg51.2.1 i (by omega)).2.2.1)) ?_
    refine zr_aloadn X 0 dX5_readTransfers_76 rfl ?_
    refine zr_get X (ci := 5) (q := 5) (zR _) (.ref (ad (293))) dX5_readTransfers_77 (by omega) sc_0 rfl inX5 (by decide) rfl (zvR rfl) rfl k_220 ?_
    refine zr_get X (ci := 4) (q := 5) (zR _) (.ref (ad (298))) dX5_readTransfers_80 (by omega) sc_293 rfl inX4 (by decide) rfl (zvR rfl) rfl k_192 ?_
    refine zr_iloadn X 1 dX5_readTransfers_83 rfl ?_
    refine zr_iald X (j := i) 0 (nI ((T0 i))) dX5_readTransfers_84 (by omega) sc_298 rfl rfl (by omega) (by omega) (zcg (b := i + 2584) (by omega) ((hg51.2.1 i (by omega)).2.2.2)) ?_
    refine zr_dVi (C := RX2) (ci := 2) [.int (nI ((A0 i))), .int (nI ((B0 i))), .int (nI ((V0 i))), .int (nI ((T0 i)))] [] X (zK_ok A D tc tF tL tM) (d_moveError2_0 E u51 (f := (A0 i)) (f2 := (B0 i)) (v := (V0 i)) (t := (T0 i)) ((hg51.2.2.1 1 (by omega)).trans ((zgr_lo (by omega) _).trans hGc)) h8 hf hf2 hv ht1 ht9 hne (by rw [(hg51.2.2.1 (32 * (A0 i) + (V0 i) + 7) (by omega))]; exact hle)) k_295 k_296 k_297 k_2 k_298 hdX2_moveError ⟨rfl, rfl⟩ ⟨Nat.le_of_ble_eq_true rfl, Nat.le_of_ble_eq_true rfl⟩ (by omega) (sc_st (j := 2) (by omega) (by have := cb_2; omega)) rfl rfl rfl (Nat.le_of_ble_eq_true rfl) dX5_readTransfers_85 ?_
    refine zr_istoren X [1, 2, 0] [(0, .ref (ad (0))), (1, .int (nI (i))), (2, .int (nI (0)))] dX5_readTransfers_88 (by decide) rfl ?_
    refine zr_iloadn X 2 dX5_readTransfers_89 rfl ?_
    refine zr_if_eq X 95 dX5_readTransfers_90 (by decide) (fun _ => ?_) (fun q => absurd (zq_eq0 (by omega)) q)
    refine zr_aloadn X 0 dX5_readTransfers_95 rfl ?_
    refine zr_get X (ci := 5) (q := 2) (zR _) (.ref (ad (83))) dX5_readTransfers_96 (by omega) sc_0 rfl inX5 (by decide) rfl (zvR rfl) rfl k_217 ?_
    refine zr_aloadn X 0 dX5_readTransfers_99 rfl ?_
    refine zr_get X (ci := 5) (q := 5) (zR _) (.ref (ad (293))) dX5_readTransfers_100 (by omega) sc_0 rfl inX5 (by decide) rfl (zvR rfl) rfl k_220 ?_
    refine zr_get X (ci := 4) (q := 2) (zR _) (.ref (ad (295))) dX5_readTransfers_103 (by omega) sc_293 rfl inX4 (by decide) rfl (zvR rfl) rfl k_186 ?_
    refine zr_iloadn X 1 dX5_readTransfers_106 rfl ?_
    refine zr_iald X (j := i) 0 (nI ((A0 i))) dX5_readTransfers_107 (by omega) sc_295 rfl rfl (by omega) (by omega) (zcg (b := i + 2560) (by omega) ((hg51.2.1 i (by omega)).1)) ?_
    refine zr_aloadn X 0 dX5_readTransfers_108 rfl ?_
    refine zr_get X (ci := 5) (q := 5) (zR _) (.ref (ad (293))) dX5_readTransfers_109 (by omega) sc_0 rfl inX5 (by decide) rfl (zvR rfl) rfl k_220 ?_
    refine zr_get X (ci := 4) (q := 3) (zR _) (.ref (ad (296))) dX5_readTransfers_112 (by omega) sc_293 rfl inX4 (by decide) rfl (zvR rfl) rfl k_188 ?_
    refine zr_iloadn X 1 dX5_readTransfers_115 rfl ?_
    refine zr_iald X (j := i) 0 (nI ((B0 i))) dX5_readTransfers_116 (by omega) sc_296 rfl rfl (by omega) (by omega) (zcg (b := i + 2568) (by omega) ((hg51.2.1 i (by omega)).2.1)) ?_
    refine zr_aloadn X 0 dX5_readTransfers_117 rfl ?_
    refine zr_get X (ci := 5) (q := 5) (zR _) (.ref (ad (293))) dX5_readTransfers_118 (by omega) sc_0 rfl inX5 (by decide) rfl (zvR rfl) rfl k_220 ?_
    refine zr_get X (ci := 4) (q := 4) (zR _) (.ref (ad (297))) dX5_readTransfers_121 (by omega) sc_293 rfl inX4 (by decide) rfl (zvR rfl) rfl k_190 ?_
    refine zr_iloadn X 1 dX5_readTransfers_124 rfl ?_
    refine zr_iald X (j := i) 0 (nI ((V0 i))) dX5_readTransfers_125 (by omega) sc_297 rfl rfl (by omega) (by omega) (zcg (b := i + 2576) (by omega) ((hg51.2.1 i (by omega)).2.2.1)) ?_
    refine zr_aloadn X 0 dX5_readTransfers_126 rfl ?_
    refine zr_get X (ci := 5) (q := 5) (zR _) (.ref (ad (293))) dX5_readTransfers_127 (by omega) sc_0 rfl inX5 (by decide) rfl (zvR rfl) rfl k_220 ?_
    refine zr_get X (ci := 4) (q := 5) (zR _) (.ref (ad (298))) dX5_readTransfers_130 (by omega) sc_293 rfl inX4 (by decide) rfl (zvR rfl) rfl k_192 ?_
    refine zr_iloadn X 1 dX5_readTransfers_133 rfl ?_
    refine zr_iald X (j := i) 0 (nI ((T0 i))) dX5_readTransfers_134 (by omega) sc_298 rfl rfl (by omega) (by omega) (zcg (b := i + 2584) (by omega) ((hg51.2.1 i (by omega)).2.2.2)) ?_
    refine zr_dVi (C := RX2) (ci := 2) [.int (nI ((A0 i))), .int (nI ((B0 i))), .int (nI ((V0 i))), .int (nI ((T0 i)))] [] X (zK_ok A D tc tF tL tM) (d_mv2 E u51 (f := (A0 i)) (f2 := (B0 i)) (v := (V0 i)) (t := nI ((T0 i))) ((hg51.2.2.1 1 (by omega)).trans ((zgr_lo (by omega) _).trans hGc)) h8 hf hf2 hv hne (pa := 32 * (A0 i) + (V0 i) + 705) (pb := 32 * (B0 i) + (V0 i) + 705) (by omega) (by omega) ((hg51.2.2.1 (32 * (A0 i) + (V0 i) + 7) (by omega))) ((hg51.2.2.1 (32 * (B0 i) + (V0 i) + 7) (by omega)))) k_304 k_305 k_306 k_2 k_307 hdX2_move ⟨rfl, rfl⟩ ⟨Nat.le_of_ble_eq_true rfl, Nat.le_of_ble_eq_true rfl⟩ (by omega) (sc_st (j := 2) (by omega) (by have := cb_2; omega)) rfl rfl rfl (Nat.le_of_ble_eq_true rfl) dX5_readTransfers_135 ?_
    refine zr_pop X dX5_readTransfers_138 rfl ?_
    refine zr_iinc X 1 (nI (i + 1)) [1, 0, 2] [(0, .ref (ad (0))), (1, .int (nI (i + 1))), (2, .int (nI (0)))] dX5_readTransfers_139 rfl (zinc _) (by decide) rfl ?_
    refine zr_goto X 34 dX5_readTransfers_142 (by decide) ?_
    refine zr_drop X [0, 1] [(0, .ref (ad (0))), (1, .int (nI (i + 1)))] rfl ?_
    exact ih34 _ ⟨(pk_un (by omega)).trans ((pk_un (by omega)).trans ((hg51.1))), fun j hj => ⟨(pk_un (by omega)).trans ((pk_un (by omega)).trans (((hg51.2.1 j hj).1))), (pk_un (by omega)).trans ((pk_un (by omega)).trans (((hg51.2.1 j hj).2.1))), (pk_un (by omega)).trans ((pk_un (by omega)).trans (((hg51.2.1 j hj).2.2.1))), (pk_un (by omega)).trans ((pk_un (by omega)).trans (((hg51.2.1 j hj).2.2.2)))⟩, fun x hx => zupd_sh (hg51.2.2.1 x hx), fun x hx0 hx1 hx2 hx3 => (pk_un (by omega)).trans ((pk_un (by omega)).trans (hg51.2.2.2 x hx0 hx1 hx2 hx3))⟩

set_option maxHeartbeats 4000000 in
set_option maxRecDepth 100000 in
theorem d_readTransfers_n {l : Launch} {D : va_G} {tc : Nat → ClassId} {ad : Nat → Nat} {A : Nat → Prop} {tF tL tM : Nat} (E : zN 299 A ad) (μ : Nat → Int32) {w : Nat → Int32} (hw : ∀ q, q < 60 → μ (q + 2500) = w q) {n : Nat} (hn : μ 2491 = nI n) (hn2 : n ≤ 60) {c ro z : Nat} (hc : μ 1 = nI c) (h8 : c ≤ 8) (hr : μ 2452 = nI ro) (hr4 : ro < 4) (hz : μ 2451 = nI z) (hz4 : z ≤ 4) {K : Nat} {S E0 A0 B0 V0 T0 : Nat → Nat} (ch : zch w n S E0 A0 B0 V0 T0 K) (hEK : E0 K = n) {G : Nat → Int32} (hG : ∀ x, x < 349 → μ x = G x) {e : Nat} (he : e ≤ K) (ok : ∀ i, i < e → zok1 (zgr G A0 B0 V0 T0 i) c (A0 i) (B0 i) (V0 i) (T0 i)) (hf : A0 e < c) (hf2 : B0 e < c) (hv : V0 e ≤ 19) (hne : A0 e ≠ B0 e) (hle : ¬ nI (T0 e) ≤ zgr G A0 B0 V0 T0 e (32 * A0 e + V0 e + 7))  : zMi l yX5_readTransfers cX5_readTransfers 3 (some .int) (zrm 5) (zK A D tc tF tL tM) A D vwCl tc ad 299 shC [.ref (ad (0))] μ (fun r u => r = -4 ∧ ∀ x, (x < 698 ∨ 1047 ≤ x) → x ≠ 2496 → x ≠ 2497 → (x < 2560 ∨ 2592 ≤ x) → u x = μ x) := by
  refine zM_of RX5 [(0, .ref (ad (0)))] (zK_ok A D tc tF tL tM) E.1 E.2 owC_ok (by decide +kernel) rfl (Nat.le_of_ble_eq_true rfl) rfl ?_
  intro pP eE sS mM aS bL mT cO X
  have hGc := (hG 1 (by omega)).symm.trans hc
  refine zr_aloadn X 0 dX5_readTransfers_0 rfl ?_
  refine zr_get X (ci := 5) (q := 5) (zR _) (.ref (ad (293))) dX5_readTransfers_1 (by omega) sc_0 rfl inX5 (by decide) rfl (zvR rfl) rfl k_220 ?_
  refine zr_cVi (C := RX4) (ci := 4) [] [] X (zK_ok A D tc tF tL tM) (d_all_d E μ hw (hn) hn2 ch hEK) k_394 k_395 k_396 k_6 k_397 hdX4_readAll ⟨rfl, rfl⟩ ⟨Nat.le_of_ble_eq_true rfl, Nat.le_of_ble_eq_true rfl⟩ (by omega) sc_293 rfl rfl rfl (Nat.le_of_ble_eq_true rfl) dX5_readTransfers_4 (fun z3 u2 hq3 => ?_)
  obtain ⟨rfl, g2a, g2b, g2c⟩ := hq3
  refine zr_if_ne X 21 dX5_readTransfers_7 (by decide) (fun _ => ?_) (fun q => absurd q (nI_ne0 (by omega) (by omega)))
  refine zr_aloadn X 0 dX5_readTransfers_21 rfl ?_
  refine zr_get X (ci := 5) (q := 0) (zR _) (.ref (ad (1))) dX5_readTransfers_22 (by omega) sc_0 rfl inX5 (by decide) rfl (zvR rfl) rfl k_215 ?_
  refine zr_aloadn X 0 dX5_readTransfers_25 rfl ?_
  refine zr_get X (ci := 5) (q := 2) (zR _) (.ref (ad (83))) dX5_readTransfers_26 (by omega) sc_0 rfl inX5 (by decide) rfl (zvR rfl) rfl k_217 ?_
  refine zr_dSv [.ref (ad (1)), .ref (ad (83))] [] X (zK_ok A D tc tF tL tM) (d_copyState E u2 (j1 := 0) (j2 := 2) (by omega) (by omega) (by omega) cb_0 cb_2 (a := 0) (b := 698) (by omega) (by omega)) k_414 k_246 k_1 k_247 hdX5_copyState ⟨rfl, rfl⟩ ⟨Nat.le_of_ble_eq_true rfl, Nat.le_of_ble_eq_true rfl⟩ rfl rfl (Nat.le_of_ble_eq_true rfl) dX5_readTransfers_29 ?_
  refine zr_iconst X (nI (0)) dX5_readTransfers_32 (by decide +kernel) ?_
  refine zr_istoren X [1, 0] [(0, .ref (ad (0))), (1, .int (nI (0)))] dX5_readTransfers_33 (by decide) rfl ?_
  refine zr_forM X (e) (fun i u => u 2496 = nI (K + 1) ∧ (∀ j, j < K + 1 → u (j + 2560) = nI (A0 j) ∧ u (j + 2568) = nI (B0 j) ∧ u (j + 2576) = nI (V0 j) ∧ u (j + 2584) = nI (T0 j)) ∧ (∀ x, x < 349 → u (x + 698) = zgr G A0 B0 V0 T0 i x) ∧ ∀ x, (x < 698 ∨ 1047 ≤ x) → x ≠ 2496 → x ≠ 2497 → (x < 2560 ∨ 2592 ≤ x) → u x = μ x) (fun i => [(0, .ref (ad (0))), (1, .int (nI (i)))]) [] (⟨(cp_out (by omega)).trans (g2a), fun j hj => ⟨(cp_out (by omega)).trans ((g2b j hj).1), (cp_out (by omega)).trans ((g2b j hj).2.1), (cp_out (by omega)).trans ((g2b j hj).2.2.1), (cp_out (by omega)).trans ((g2b j hj).2.2.2)⟩, fun x hx => (cp_in (q := x) (by omega) (by omega) (by omega)).trans (((g2c _ (by omega) (by omega) (by omega)).trans (rfl)).trans (hG x hx)), fun x hx0 hx1 hx2 hx3 => (cp_out (by omega)).trans ((g2c _ (by omega) (by omega) (by omega)).trans (rfl))⟩) rfl ?_ ?_
  · intro u14 hg14
    have hT := ch.2.1 e (by omega)
    have hK := zch_K ch hn2
    obtain ⟨hav, hbv, hvv, ht1, ht9⟩ := zsT_val hT
    refine zr_iloadn X 1 dX5_readTransfers_34 rfl ?_
    refine zr_aloadn X 0 dX5_readTransfers_35 rfl ?_
    refine zr_get X (ci := 5) (q := 5) (zR _) (.ref (ad (293))) dX5_readTransfers_36 (by omega) sc_0 rfl inX5 (by decide) rfl (zvR rfl) rfl k_220 ?_
    refine zr_get X (ci := 4) (q := 6) zI (.int (nI (K + 1))) dX5_readTransfers_39 (by omega) sc_293 rfl inX4 (by decide) rfl (congrArg Value.int (hg14.1)) rfl k_194 ?_
    refine zr_icmp_ge X 145 dX5_readTransfers_42 (by decide) (fun q => absurd q (nI_ge (by omega) (by omega))) (fun _ => ?_)
    refine zr_aloadn X 0 dX5_readTransfers_45 rfl ?_
    refine zr_get X (ci := 5) (q := 2) (zR _) (.ref (ad (83))) dX5_readTransfers_46 (by omega) sc_0 rfl inX5 (by decide) rfl (zvR rfl) rfl k_217 ?_
    refine zr_aloadn X 0 dX5_readTransfers_49 rfl ?_
    refine zr_get X (ci := 5) (q := 5) (zR _) (.ref (ad (293))) dX5_readTransfers_50 (by omega) sc_0 rfl inX5 (by decide) rfl (zvR rfl) rfl k_220 ?_
    refine zr_get X (ci := 4) (q := 2) (zR _) (.ref (ad (295))) dX5_readTransfers_53 (by omega) sc_293 rfl inX4 (by decide) rfl (zvR rfl) rfl k_186 ?_
    refine zr_iloadn X 1 dX5_readTransfers_56 rfl ?_
    refine zr_iald X (j := e) 0 (nI ((A0 e))) dX5_readTransfers_57 (by omega) sc_295 rfl rfl (by omega) (by omega) (zcg (b := e + 2560) (by omega) ((hg14.2.1 e (by omega)).1)) ?_
    refine zr_aloadn X 0 dX5_readTransfers_58 rfl ?_
    refine zr_get X (ci := 5) (q := 5) (zR _) (.ref (ad (293))) dX5_readTransfers_59 (by omega) sc_0 rfl inX5 (by decide) rfl (zvR rfl) rfl k_220 ?_
    refine zr_get X (ci := 4) (q := 3) (zR _) (.ref (ad (296))) dX5_readTransfers_62 (by omega) sc_293 rfl inX4 (by decide) rfl (zvR rfl) rfl k_188 ?_
    refine zr_iloadn X 1 dX5_readTransfers_65 rfl ?_
    refine zr_iald X (j := e) 0 (nI ((B0 e))) dX5_readTransfers_66 (by omega) sc_296 rfl rfl (by omega) (by omega) (zcg (b := e + 2568) (by omega) ((hg14.2.1 e (by omega)).2.1)) ?_
    refine zr_aloadn X 0 dX5_readTransfers_67 rfl ?_
    refine zr_get X (ci := 5) (q := 5) (zR _) (.ref (ad (293))) dX5_readTransfers_68 (by omega) sc_0 rfl inX5 (by decide) rfl (zvR rfl) rfl k_220 ?_
    refine zr_get X (ci := 4) (q := 4) (zR _) (.ref (ad (297))) dX5_readTransfers_71 (by omega) sc_293 rfl inX4 (by decide) rfl (zvR rfl) rfl k_190 ?_
    refine zr_iloadn X 1 dX5_readTransfers_74 rfl ?_
    refine zr_iald X (j := e) 0 (nI ((V0 e))) dX5_readTransfers_75 (by omega) sc_297 rfl rfl (by omega) (by omega) (zcg (b := e + 2576) (by omega) ((hg14.2.1 e (by omega)).2.2.1)) ?_
    refine zr_aloadn X 0 dX5_readTransfers_76 rfl ?_
    refine zr_get X (ci := 5) (q := 5) (zR _) (.ref (ad (293))) dX5_readTransfers_77 (by omega) sc_0 rfl inX5 (by decide) rfl (zvR rfl) rfl k_220 ?_
    refine zr_get X (ci := 4) (q := 5) (zR _) (.ref (ad (298))) dX5_readTransfers_80 (by omega) sc_293 rfl inX4 (by decide) rfl (zvR rfl) rfl k_192 ?_
    refine zr_iloadn X 1 dX5_readTransfers_83 rfl ?_
    refine zr_iald X (j := e) 0 (nI ((T0 e))) dX5_readTransfers_84 (by omega) sc_298 rfl rfl (by omega) (by omega) (zcg (b := e + 2584) (by omega) ((hg14.2.1 e (by omega)).2.2.2)) ?_
    refine zr_dVi (C := RX2) (ci := 2) [.int (nI ((A0 e))), .int (nI ((B0 e))), .int (nI ((V0 e))), .int (nI ((T0 e)))] [] X (zK_ok A D tc tF tL tM) (d_moveError2_n E u14 (f := (A0 e)) (f2 := (B0 e)) (v := (V0 e)) (t := (T0 e)) ((hg14.2.2.1 1 (by omega)).trans ((zgr_lo (by omega) _).trans hGc)) h8 hf hf2 hv ht1 ht9 hne (by rw [(hg14.2.2.1 (32 * (A0 e) + (V0 e) + 7) (by omega))]; exact hle)) k_295 k_296 k_297 k_2 k_298 hdX2_moveError ⟨rfl, rfl⟩ ⟨Nat.le_of_ble_eq_true rfl, Nat.le_of_ble_eq_true rfl⟩ (by omega) (sc_st (j := 2) (by omega) (by have := cb_2; omega)) rfl rfl rfl (Nat.le_of_ble_eq_true rfl) dX5_readTransfers_85 ?_
    refine zr_istoren X [1, 2, 0] [(0, .ref (ad (0))), (1, .int (nI (e))), (2, .int (-4))] dX5_readTransfers_88 (by decide) rfl ?_
    refine zr_iloadn X 2 dX5_readTransfers_89 rfl ?_
    refine zr_if_eq X 95 dX5_readTransfers_90 (by decide) (fun q => absurd q (by decide)) (fun _ => ?_)
    refine zr_iloadn X 2 dX5_readTransfers_93 rfl ?_
    exact zr_iret X dX5_readTransfers_94 ⟨rfl, fun x hx0 hx1 hx2 hx3 => hg14.2.2.2 x hx0 hx1 hx2 hx3⟩
  · intro i u51 hi hg51 ih34
    have hT := ch.2.1 i (by omega)
    obtain ⟨hav, hbv, hvv, ht1, ht9⟩ := zsT_val hT
    obtain ⟨hf, hf2, hv, hne, hle⟩ := ok i (by omega)
    have hK := zch_K ch hn2
    refine zr_iloadn X 1 dX5_readTransfers_34 rfl ?_
    refine zr_aloadn X 0 dX5_readTransfers_35 rfl ?_
    refine zr_get X (ci := 5) (q := 5) (zR _) (.ref (ad (293))) dX5_readTransfers_36 (by omega) sc_0 rfl inX5 (by decide) rfl (zvR rfl) rfl k_220 ?_
    refine zr_get X (ci := 4) (q := 6) zI (.int (nI (K + 1))) dX5_readTransfers_39 (by omega) sc_293 rfl inX4 (by decide) rfl (congrArg Value.int (hg51.1)) rfl k_194 ?_
    refine zr_icmp_ge X 145 dX5_readTransfers_42 (by decide) (fun q => absurd q (nI_ge (by omega) (by omega))) (fun _ => ?_)
    refine zr_aloadn X 0 dX5_readTransfers_45 rfl ?_
    refine zr_get X (ci := 5) (q := 2) (zR _) (.ref (ad (83))) dX5_readTransfers_46 (by omega) sc_0 rfl inX5 (by decide) rfl (zvR rfl) rfl k_217 ?_
    refine zr_aloadn X 0 dX5_readTransfers_49 rfl ?_
    refine zr_get X (ci := 5) (q := 5) (zR _) (.ref (ad (293))) dX5_readTransfers_50 (by omega) sc_0 rfl inX5 (by decide) rfl (zvR rfl) rfl k_220 ?_
    refine zr_get X (ci := 4) (q := 2) (zR _) (.ref (ad (295))) dX5_readTransfers_53 (by omega) sc_293 rfl inX4 (by decide) rfl (zvR rfl) rfl k_186 ?_
    refine zr_iloadn X 1 dX5_readTransfers_56 rfl ?_
    refine zr_iald X (j := i) 0 (nI ((A0 i))) dX5_readTransfers_57 (by omega) sc_295 rfl rfl (by omega) (by omega) (zcg (b := i + 2560) (by omega) ((hg51.2.1 i (by omega)).1)) ?_
    refine zr_aloadn X 0 dX5_readTransfers_58 rfl ?_
    refine zr_get X (ci := 5) (q := 5) (zR _) (.ref (ad (293))) dX5_readTransfers_59 (by omega) sc_0 rfl inX5 (by decide) rfl (zvR rfl) rfl k_220 ?_
    refine zr_get X (ci := 4) (q := 3) (zR _) (.ref (ad (296))) dX5_readTransfers_62 (by omega) sc_293 rfl inX4 (by decide) rfl (zvR rfl) rfl k_188 ?_
    refine zr_iloadn X 1 dX5_readTransfers_65 rfl ?_
    refine zr_iald X (j := i) 0 (nI ((B0 i))) dX5_readTransfers_66 (by omega) sc_296 rfl rfl (by omega) (by omega) (zcg (b := i + 2568) (by omega) ((hg51.2.1 i (by omega)).2.1)) ?_
    refine zr_aloadn X 0 dX5_readTransfers_67 rfl ?_
    refine zr_get X (ci := 5) (q := 5) (zR _) (.ref (ad (293))) dX5_readTransfers_68 (by omega) sc_0 rfl inX5 (by decide) rfl (zvR rfl) rfl k_220 ?_
    refine zr_get X (ci := 4) (q := 4) (zR _) (.ref (ad (297))) dX5_readTransfers_71 (by omega) sc_293 rfl inX4 (by decide) rfl (zvR rfl) rfl k_190 ?_
    refine zr_iloadn X 1 dX5_readTransfers_74 rfl ?_
    refine zr_iald X (j := i) 0 (nI ((V0 i))) dX5_readTransfers_75 (by omega) sc_297 rfl rfl (by omega) (by omega) (zcg (b := i + 2576) (by omega) ((hg51.2.1 i (by omega)).2.2.1)) ?_
    refine zr_aloadn X 0 dX5_readTransfers_76 rfl ?_
    refine zr_get X (ci := 5) (q := 5) (zR _) (.ref (ad (293))) dX5_readTransfers_77 (by omega) sc_0 rfl inX5 (by decide) rfl (zvR rfl) rfl k_220 ?_
    refine zr_get X (ci := 4) (q := 5) (zR _) (.ref (ad (298))) dX5_readTransfers_80 (by omega) sc_293 rfl inX4 (by decide) rfl (zvR rfl) rfl k_192 ?_
    refine zr_iloadn X 1 dX5_readTransfers_83 rfl ?_
    refine zr_iald X (j := i) 0 (nI ((T0 i))) dX5_readTransfers_84 (by omega) sc_298 rfl rfl (by omega) (by omega) (zcg (b := i + 2584) (by omega) ((hg51.2.1 i (by omega)).2.2.2)) ?_
    refine zr_dVi (C := RX2) (ci := 2) [.int (nI ((A0 i))), .int (nI ((B0 i))), .int (nI ((V0 i))), .int (nI ((T0 i)))] [] X (zK_ok A D tc tF tL tM) (d_moveError2_0 E u51 (f := (A0 i)) (f2 := (B0 i)) (v := (V0 i)) (t := (T0 i)) ((hg51.2.2.1 1 (by omega)).trans ((zgr_lo (by omega) _).trans hGc)) h8 hf hf2 hv ht1 ht9 hne (by rw [(hg51.2.2.1 (32 * (A0 i) + (V0 i) + 7) (by omega))]; exact hle)) k_295 k_296 k_297 k_2 k_298 hdX2_moveError ⟨rfl, rfl⟩ ⟨Nat.le_of_ble_eq_true rfl, Nat.le_of_ble_eq_true rfl⟩ (by omega) (sc_st (j := 2) (by omega) (by have := cb_2; omega)) rfl rfl rfl (Nat.le_of_ble_eq_true rfl) dX5_readTransfers_85 ?_
    refine zr_istoren X [1, 2, 0] [(0, .ref (ad (0))), (1, .int (nI (i))), (2, .int (nI (0)))] dX5_readTransfers_88 (by decide) rfl ?_
    refine zr_iloadn X 2 dX5_readTransfers_89 rfl ?_
    refine zr_if_eq X 95 dX5_readTransfers_90 (by decide) (fun _ => ?_) (fun q => absurd (zq_eq0 (by omega)) q)
    refine zr_aloadn X 0 dX5_readTransfers_95 rfl ?_
    refine zr_get X (ci := 5) (q := 2) (zR _) (.ref (ad (83))) dX5_readTransfers_96 (by omega) sc_0 rfl inX5 (by decide) rfl (zvR rfl) rfl k_217 ?_
    refine zr_aloadn X 0 dX5_readTransfers_99 rfl ?_
    refine zr_get X (ci := 5) (q := 5) (zR _) (.ref (ad (293))) dX5_readTransfers_100 (by omega) sc_0 rfl inX5 (by decide) rfl (zvR rfl) rfl k_220 ?_
    refine zr_get X (ci := 4) (q := 2) (zR _) (.ref (ad (295))) dX5_readTransfers_103 (by omega) sc_293 rfl inX4 (by decide) rfl (zvR rfl) rfl k_186 ?_
    refine zr_iloadn X 1 dX5_readTransfers_106 rfl ?_
    refine zr_iald X (j := i) 0 (nI ((A0 i))) dX5_readTransfers_107 (by omega) sc_295 rfl rfl (by omega) (by omega) (zcg (b := i + 2560) (by omega) ((hg51.2.1 i (by omega)).1)) ?_
    refine zr_aloadn X 0 dX5_readTransfers_108 rfl ?_
    refine zr_get X (ci := 5) (q := 5) (zR _) (.ref (ad (293))) dX5_readTransfers_109 (by omega) sc_0 rfl inX5 (by decide) rfl (zvR rfl) rfl k_220 ?_
    refine zr_get X (ci := 4) (q := 3) (zR _) (.ref (ad (296))) dX5_readTransfers_112 (by omega) sc_293 rfl inX4 (by decide) rfl (zvR rfl) rfl k_188 ?_
    refine zr_iloadn X 1 dX5_readTransfers_115 rfl ?_
    refine zr_iald X (j := i) 0 (nI ((B0 i))) dX5_readTransfers_116 (by omega) sc_296 rfl rfl (by omega) (by omega) (zcg (b := i + 2568) (by omega) ((hg51.2.1 i (by omega)).2.1)) ?_
    refine zr_aloadn X 0 dX5_readTransfers_117 rfl ?_
    refine zr_get X (ci := 5) (q := 5) (zR _) (.ref (ad (293))) dX5_readTransfers_118 (by omega) sc_0 rfl inX5 (by decide) rfl (zvR rfl) rfl k_220 ?_
    refine zr_get X (ci := 4) (q := 4) (zR _) (.ref (ad (297))) dX5_readTransfers_121 (by omega) sc_293 rfl inX4 (by decide) rfl (zvR rfl) rfl k_190 ?_
    refine zr_iloadn X 1 dX5_readTransfers_124 rfl ?_
    refine zr_iald X (j := i) 0 (nI ((V0 i))) dX5_readTransfers_125 (by omega) sc_297 rfl rfl (by omega) (by omega) (zcg (b := i + 2576) (by omega) ((hg51.2.1 i (by omega)).2.2.1)) ?_
    refine zr_aloadn X 0 dX5_readTransfers_126 rfl ?_
    refine zr_get X (ci := 5) (q := 5) (zR _) (.ref (ad (293))) dX5_readTransfers_127 (by omega) sc_0 rfl inX5 (by decide) rfl (zvR rfl) rfl k_220 ?_
    refine zr_get X (ci := 4) (q := 5) (zR _) (.ref (ad (298))) dX5_readTransfers_130 (by omega) sc_293 rfl inX4 (by decide) rfl (zvR rfl) rfl k_192 ?_
    refine zr_iloadn X 1 dX5_readTransfers_133 rfl ?_
    refine zr_iald X (j := i) 0 (nI ((T0 i))) dX5_readTransfers_134 (by omega) sc_298 rfl rfl (by omega) (by omega) (zcg (b := i + 2584) (by omega) ((hg51.2.1 i (by omega)).2.2.2)) ?_
    refine zr_dVi (C := RX2) (ci := 2) [.int (nI ((A0 i))), .int (nI ((B0 i))), .int (nI ((V0 i))), .int (nI ((T0 i)))] [] X (zK_ok A D tc tF tL tM) (d_mv2 E u51 (f := (A0 i)) (f2 := (B0 i)) (v := (V0 i)) (t := nI ((T0 i))) ((hg51.2.2.1 1 (by omega)).trans ((zgr_lo (by omega) _).trans hGc)) h8 hf hf2 hv hne (pa := 32 * (A0 i) + (V0 i) + 705) (pb := 32 * (B0 i) + (V0 i) + 705) (by omega) (by omega) ((hg51.2.2.1 (32 * (A0 i) + (V0 i) + 7) (by omega))) ((hg51.2.2.1 (32 * (B0 i) + (V0 i) + 7) (by omega)))) k_304 k_305 k_306 k_2 k_307 hdX2_move ⟨rfl, rfl⟩ ⟨Nat.le_of_ble_eq_true rfl, Nat.le_of_ble_eq_true rfl⟩ (by omega) (sc_st (j := 2) (by omega) (by have := cb_2; omega)) rfl rfl rfl (Nat.le_of_ble_eq_true rfl) dX5_readTransfers_135 ?_
    refine zr_pop X dX5_readTransfers_138 rfl ?_
    refine zr_iinc X 1 (nI (i + 1)) [1, 0, 2] [(0, .ref (ad (0))), (1, .int (nI (i + 1))), (2, .int (nI (0)))] dX5_readTransfers_139 rfl (zinc _) (by decide) rfl ?_
    refine zr_goto X 34 dX5_readTransfers_142 (by decide) ?_
    refine zr_drop X [0, 1] [(0, .ref (ad (0))), (1, .int (nI (i + 1)))] rfl ?_
    exact ih34 _ ⟨(pk_un (by omega)).trans ((pk_un (by omega)).trans ((hg51.1))), fun j hj => ⟨(pk_un (by omega)).trans ((pk_un (by omega)).trans (((hg51.2.1 j hj).1))), (pk_un (by omega)).trans ((pk_un (by omega)).trans (((hg51.2.1 j hj).2.1))), (pk_un (by omega)).trans ((pk_un (by omega)).trans (((hg51.2.1 j hj).2.2.1))), (pk_un (by omega)).trans ((pk_un (by omega)).trans (((hg51.2.1 j hj).2.2.2)))⟩, fun x hx => zupd_sh (hg51.2.2.1 x hx), fun x hx0 hx1 hx2 hx3 => (pk_un (by omega)).trans ((pk_un (by omega)).trans (hg51.2.2.2 x hx0 hx1 hx2 hx3))⟩

theorem d_readTransfers_er {l : Launch} {D : va_G} {tc : Nat → ClassId} {ad : Nat → Nat} {A : Nat → Prop} {tF tL tM : Nat} (E : zN 299 A ad) (μ : Nat → Int32) {w : Nat → Int32} (hw : ∀ q, q < 60 → μ (q + 2500) = w q) {n : Nat} (hn : μ 2491 = nI n) (hn2 : n ≤ 60) {c ro z : Nat} (hc : μ 1 = nI c) (h8 : c ≤ 8) (hr : μ 2452 = nI ro) (hr4 : ro < 4) (hz : μ 2451 = nI z) (hz4 : z ≤ 4) {K : Nat} {S E0 A0 B0 V0 T0 : Nat → Nat} (ch : zch w n S E0 A0 B0 V0 T0 K) (hEK : E0 K = n) {G : Nat → Int32} (hG : ∀ x, x < 349 → μ x = G x) {e : Nat} (he : e ≤ K) (ok : ∀ i, i < e → zok1 (zgr G A0 B0 V0 T0 i) c (A0 i) (B0 i) (V0 i) (T0 i)) (hno : ¬ zok1 (zgr G A0 B0 V0 T0 e) c (A0 e) (B0 e) (V0 e) (T0 e)) : zMi l yX5_readTransfers cX5_readTransfers 3 (some .int) (zrm 5) (zK A D tc tF tL tM) A D vwCl tc ad 299 shC [.ref (ad (0))] μ (fun r u => r = zerr (zgr G A0 B0 V0 T0 e) c (A0 e) (B0 e) (V0 e) (T0 e) ∧ ∀ x, (x < 698 ∨ 1047 ≤ x) → x ≠ 2496 → x ≠ 2497 → (x < 2560 ∨ 2592 ≤ x) → u x = μ x) := by
  have hE : ∀ z : Int32, z = zerr (zgr G A0 B0 V0 T0 e) c (A0 e) (B0 e) (V0 e) (T0 e) → ∀ (r : Int32) (u : Nat → Int32), (r = z ∧ ∀ x, (x < 698 ∨ 1047 ≤ x) → x ≠ 2496 → x ≠ 2497 → (x < 2560 ∨ 2592 ≤ x) → u x = μ x) → r = zerr (zgr G A0 B0 V0 T0 e) c (A0 e) (B0 e) (V0 e) (T0 e) ∧ ∀ x, (x < 698 ∨ 1047 ≤ x) → x ≠ 2496 → x ≠ 2497 → (x < 2560 ∨ 2592 ≤ x) → u x = μ x := by
    intro z hz r u hq
    exact ⟨hq.1.trans hz, hq.2⟩
  by_cases hf : A0 e < c
  · by_cases hf2 : B0 e < c
    · by_cases hv : V0 e ≤ 19
      · by_cases hab : A0 e = B0 e
        · exact zMi_post (d_readTransfers_b2 E μ hw hn hn2 hc h8 hr hr4 hz hz4 ch hEK hG he ok hf hf2 hv hab) (hE _ (by unfold zerr; rw [if_pos hf, if_pos hf2, if_pos hv, if_pos hab]))
        · have hle : ¬ nI (T0 e) ≤ zgr G A0 B0 V0 T0 e (32 * A0 e + V0 e + 7) := fun q => hno ⟨hf, hf2, hv, hab, q⟩
          exact zMi_post (d_readTransfers_n E μ hw hn hn2 hc h8 hr hr4 hz hz4 ch hEK hG he ok hf hf2 hv hab hle) (hE _ (by unfold zerr; rw [if_pos hf, if_pos hf2, if_pos hv, if_neg hab, if_neg hle]))
      · exact zMi_post (d_readTransfers_u3 E μ hw hn hn2 hc h8 hr hr4 hz hz4 ch hEK hG he ok hf hf2 hv) (hE _ (by unfold zerr; rw [if_pos hf, if_pos hf2, if_neg hv]))
    · exact zMi_post (d_readTransfers_u2 E μ hw hn hn2 hc h8 hr hr4 hz hz4 ch hEK hG he ok hf hf2) (hE _ (by unfold zerr; rw [if_pos hf, if_neg hf2]))
  · exact zMi_post (d_readTransfers_u1 E μ hw hn hn2 hc h8 hr hr4 hz hz4 ch hEK hG he ok hf) (hE _ (by unfold zerr; rw [if_neg hf]))
