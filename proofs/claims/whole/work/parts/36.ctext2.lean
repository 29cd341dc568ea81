set_option maxHeartbeats 4000000 in
set_option maxRecDepth 100000 in
theorem d_one_0 {l : Launch} {D : va_G} {tc : Nat → ClassId} {ad : Nat → Nat} {A : Nat → Prop} {tF tL tM : Nat} (E : zN 299 A ad) (μ : Nat → Int32) {w : Nat → Int32} (hw : ∀ q, q < 60 → μ (q + 2500) = w q) {p : Nat} (hp : μ 2497 = nI p) (hp3 : p ≤ 64) {n : Nat} (hn : μ 2491 = nI n) (hn2 : n ≤ 60) {i : Nat} (hi : i < 8) (F0 : ¬ znum w n 1 (p))  : zMi l yX4_readOne cX4_readOne 2 (some .boolean) (zrm 3) (zK A D tc tF tL tM) A D vwCl tc ad 299 shC [.ref (ad (293)), .int (nI (i))] μ (fun r u => r = nI 0 ∧ u 2497 = nI (p) ∧ (∀ x, x ≠ 2497 → x ≠ i + 2560 → x ≠ i + 2568 → x ≠ i + 2576 → x ≠ i + 2584 → u x = μ x)) := by
  refine zM_of RX4 [(0, .ref (ad (293))), (1, .int (nI (i)))] (zK_ok A D tc tF tL tM) E.1 E.2 owC_ok (by decide +kernel) rfl (Nat.le_of_ble_eq_true rfl) rfl ?_
  intro pP eE sS mM aS bL mT cO X
  refine zr_aloadn X 0 dX4_readOne_0 rfl ?_
  refine zr_get X (ci := 4) (q := 2) (zR _) (.ref (ad (295))) dX4_readOne_1 (by omega) sc_293 rfl inX4 (by decide) rfl (zvR rfl) rfl k_185 ?_
  refine zr_iloadn X 1 dX4_readOne_4 rfl ?_
  refine zr_aloadn X 0 dX4_readOne_5 rfl ?_
  refine zr_iconst X (nI (1)) dX4_readOne_6 (by decide +kernel) ?_
  refine zr_iconst X (nI (1)) dX4_readOne_7 (by decide +kernel) ?_
  refine zr_dVi (C := RX4) (ci := 4) [.int (nI (1)), .int (nI (1))] [.int (nI (i)), .ref (ad (295))] X (zK_ok A D tc tF tL tM) (d_rn1_f E μ hw (p := p) (hp) (by omega) (hn) hn2 F0) k_402 k_403 k_404 k_6 k_405 hdX4_readNumber ⟨rfl, rfl⟩ ⟨Nat.le_of_ble_eq_true rfl, Nat.le_of_ble_eq_true rfl⟩ (by omega) sc_293 rfl rfl rfl (Nat.le_of_ble_eq_true rfl) dX4_readOne_8 ?_
  refine zr_iast X (j := i) 0 (i + 2560) dX4_readOne_11 (by omega) sc_295 rfl rfl (by omega) (by omega) (by omega) ?_
  refine zr_aloadn X 0 dX4_readOne_12 rfl ?_
  refine zr_get X (ci := 4) (q := 2) (zR _) (.ref (ad (295))) dX4_readOne_13 (by omega) sc_293 rfl inX4 (by decide) rfl (zvR rfl) rfl k_185 ?_
  refine zr_iloadn X 1 dX4_readOne_16 rfl ?_
  refine zr_iald X (j := i) 0 (-5) dX4_readOne_17 (by omega) sc_295 rfl rfl (by omega) (by omega) (zcg (b := i + 2560) (by omega) (pk_us)) ?_
  refine zr_if_lt X 30 dX4_readOne_18 (by decide) (fun _ => ?_) (fun q => absurd (by decide) q)
  refine zr_iconst X (nI (0)) dX4_readOne_30 (by decide +kernel) ?_
  exact zr_zret X dX4_readOne_31 rfl ⟨rfl, ((pk_un (by omega)).trans (hp)), fun x hx1 hx2 hx3 hx4 hx5 => ((pk_un (by omega)).trans (rfl))⟩

set_option maxHeartbeats 4000000 in
set_option maxRecDepth 100000 in
theorem d_one_1 {l : Launch} {D : va_G} {tc : Nat → ClassId} {ad : Nat → Nat} {A : Nat → Prop} {tF tL tM : Nat} (E : zN 299 A ad) (μ : Nat → Int32) {w : Nat → Int32} (hw : ∀ q, q < 60 → μ (q + 2500) = w q) {p : Nat} (hp : μ 2497 = nI p) (hp3 : p ≤ 64) {n : Nat} (hn : μ 2491 = nI n) (hn2 : n ≤ 60) {i : Nat} (hi : i < 8) {a p1 : Nat} (F0 : znum w n 1 (p)) (a0 : znv w n 1 (p) = a) (e0 : znq w n 1 (p) = p1) (F1 : ¬ zis w n 62 p1)  : zMi l yX4_readOne cX4_readOne 2 (some .boolean) (zrm 3) (zK A D tc tF tL tM) A D vwCl tc ad 299 shC [.ref (ad (293)), .int (nI (i))] μ (fun r u => r = nI 0 ∧ u 2497 = nI (p1) ∧ (∀ x, x ≠ 2497 → x ≠ i + 2560 → x ≠ i + 2568 → x ≠ i + 2576 → x ≠ i + 2584 → u x = μ x)) := by
  refine zM_of RX4 [(0, .ref (ad (293))), (1, .int (nI (i)))] (zK_ok A D tc tF tL tM) E.1 E.2 owC_ok (by decide +kernel) rfl (Nat.le_of_ble_eq_true rfl) rfl ?_
  intro pP eE sS mM aS bL mT cO X
  have l0 : p1 ≤ n := e0 ▸ znq_le F0
  have b0 : a < 10 ^ 1 := a0 ▸ znv_lt
  refine zr_aloadn X 0 dX4_readOne_0 rfl ?_
  refine zr_get X (ci := 4) (q := 2) (zR _) (.ref (ad (295))) dX4_readOne_1 (by omega) sc_293 rfl inX4 (by decide) rfl (zvR rfl) rfl k_185 ?_
  refine zr_iloadn X 1 dX4_readOne_4 rfl ?_
  refine zr_aloadn X 0 dX4_readOne_5 rfl ?_
  refine zr_iconst X (nI (1)) dX4_readOne_6 (by decide +kernel) ?_
  refine zr_iconst X (nI (1)) dX4_readOne_7 (by decide +kernel) ?_
  refine zr_dVi (C := RX4) (ci := 4) [.int (nI (1)), .int (nI (1))] [.int (nI (i)), .ref (ad (295))] X (zK_ok A D tc tF tL tM) (d_rn1_t E μ hw (p := p) (hp) (by omega) (hn) hn2 F0 a0 e0) k_402 k_403 k_404 k_6 k_405 hdX4_readNumber ⟨rfl, rfl⟩ ⟨Nat.le_of_ble_eq_true rfl, Nat.le_of_ble_eq_true rfl⟩ (by omega) sc_293 rfl rfl rfl (Nat.le_of_ble_eq_true rfl) dX4_readOne_8 ?_
  refine zr_iast X (j := i) 0 (i + 2560) dX4_readOne_11 (by omega) sc_295 rfl rfl (by omega) (by omega) (by omega) ?_
  refine zr_aloadn X 0 dX4_readOne_12 rfl ?_
  refine zr_get X (ci := 4) (q := 2) (zR _) (.ref (ad (295))) dX4_readOne_13 (by omega) sc_293 rfl inX4 (by decide) rfl (zvR rfl) rfl k_185 ?_
  refine zr_iloadn X 1 dX4_readOne_16 rfl ?_
  refine zr_iald X (j := i) 0 (nI (a)) dX4_readOne_17 (by omega) sc_295 rfl rfl (by omega) (by omega) (zcg (b := i + 2560) (by omega) (pk_us)) ?_
  refine zr_if_lt X 30 dX4_readOne_18 (by decide) (fun q => absurd q (nI_pos (by omega))) (fun _ => ?_)
  refine zr_aloadn X 0 dX4_readOne_21 rfl ?_
  refine zr_bipush X (nI (62)) dX4_readOne_22 (by decide +kernel) ?_
  refine zr_dVi (C := RX4) (ci := 4) [.int (nI (62))] [] X (zK_ok A D tc tF tL tM) (d_rs_f E (upd (upd μ (2497) (nI (p1))) (i + 2560) (nI (a))) (fun z hz => ((pk_un (by omega)).trans ((pk_un (by omega)).trans (rfl))).trans (hw z hz)) (p := p1) ((pk_un (by omega)).trans (pk_us)) (by omega) ((pk_un (by omega)).trans ((pk_un (by omega)).trans (hn))) hn2 (c := 62) F1) k_410 k_411 k_412 k_6 k_413 hdX4_readSign ⟨rfl, rfl⟩ ⟨Nat.le_of_ble_eq_true rfl, Nat.le_of_ble_eq_true rfl⟩ (by omega) sc_293 rfl rfl rfl (Nat.le_of_ble_eq_true rfl) dX4_readOne_24 ?_
  refine zr_if_ne X 32 dX4_readOne_27 (by decide) (fun q => absurd (zq_eq0 (by omega)) q) (fun _ => ?_)
  refine zr_iconst X (nI (0)) dX4_readOne_30 (by decide +kernel) ?_
  exact zr_zret X dX4_readOne_31 rfl ⟨rfl, ((pk_un (by omega)).trans (pk_us)), fun x hx1 hx2 hx3 hx4 hx5 => ((pk_un (by omega)).trans ((pk_un (by omega)).trans (rfl)))⟩

set_option maxHeartbeats 4000000 in
set_option maxRecDepth 100000 in
theorem d_one_2 {l : Launch} {D : va_G} {tc : Nat → ClassId} {ad : Nat → Nat} {A : Nat → Prop} {tF tL tM : Nat} (E : zN 299 A ad) (μ : Nat → Int32) {w : Nat → Int32} (hw : ∀ q, q < 60 → μ (q + 2500) = w q) {p : Nat} (hp : μ 2497 = nI p) (hp3 : p ≤ 64) {n : Nat} (hn : μ 2491 = nI n) (hn2 : n ≤ 60) {i : Nat} (hi : i < 8) {a p1 : Nat} (F0 : znum w n 1 (p)) (a0 : znv w n 1 (p) = a) (e0 : znq w n 1 (p) = p1) (F1 : zis w n 62 p1) (F2 : ¬ znum w n 1 (p1 + 1))  : zMi l yX4_readOne cX4_readOne 2 (some .boolean) (zrm 3) (zK A D tc tF tL tM) A D vwCl tc ad 299 shC [.ref (ad (293)), .int (nI (i))] μ (fun r u => r = nI 0 ∧ u 2497 = nI (p1 + 1) ∧ (∀ x, x ≠ 2497 → x ≠ i + 2560 → x ≠ i + 2568 → x ≠ i + 2576 → x ≠ i + 2584 → u x = μ x)) := by
  refine zM_of RX4 [(0, .ref (ad (293))), (1, .int (nI (i)))] (zK_ok A D tc tF tL tM) E.1 E.2 owC_ok (by decide +kernel) rfl (Nat.le_of_ble_eq_true rfl) rfl ?_
  intro pP eE sS mM aS bL mT cO X
  have l0 : p1 ≤ n := e0 ▸ znq_le F0
  have b0 : a < 10 ^ 1 := a0 ▸ znv_lt
  have l1 := F1.1
  refine zr_aloadn X 0 dX4_readOne_0 rfl ?_
  refine zr_get X (ci := 4) (q := 2) (zR _) (.ref (ad (295))) dX4_readOne_1 (by omega) sc_293 rfl inX4 (by decide) rfl (zvR rfl) rfl k_185 ?_
  refine zr_iloadn X 1 dX4_readOne_4 rfl ?_
  refine zr_aloadn X 0 dX4_readOne_5 rfl ?_
  refine zr_iconst X (nI (1)) dX4_readOne_6 (by decide +kernel) ?_
  refine zr_iconst X (nI (1)) dX4_readOne_7 (by decide +kernel) ?_
  refine zr_dVi (C := RX4) (ci := 4) [.int (nI (1)), .int (nI (1))] [.int (nI (i)), .ref (ad (295))] X (zK_ok A D tc tF tL tM) (d_rn1_t E μ hw (p := p) (hp) (by omega) (hn) hn2 F0 a0 e0) k_402 k_403 k_404 k_6 k_405 hdX4_readNumber ⟨rfl, rfl⟩ ⟨Nat.le_of_ble_eq_true rfl, Nat.le_of_ble_eq_true rfl⟩ (by omega) sc_293 rfl rfl rfl (Nat.le_of_ble_eq_true rfl) dX4_readOne_8 ?_
  refine zr_iast X (j := i) 0 (i + 2560) dX4_readOne_11 (by omega) sc_295 rfl rfl (by omega) (by omega) (by omega) ?_
  refine zr_aloadn X 0 dX4_readOne_12 rfl ?_
  refine zr_get X (ci := 4) (q := 2) (zR _) (.ref (ad (295))) dX4_readOne_13 (by omega) sc_293 rfl inX4 (by decide) rfl (zvR rfl) rfl k_185 ?_
  refine zr_iloadn X 1 dX4_readOne_16 rfl ?_
  refine zr_iald X (j := i) 0 (nI (a)) dX4_readOne_17 (by omega) sc_295 rfl rfl (by omega) (by omega) (zcg (b := i + 2560) (by omega) (pk_us)) ?_
  refine zr_if_lt X 30 dX4_readOne_18 (by decide) (fun q => absurd q (nI_pos (by omega))) (fun _ => ?_)
  refine zr_aloadn X 0 dX4_readOne_21 rfl ?_
  refine zr_bipush X (nI (62)) dX4_readOne_22 (by decide +kernel) ?_
  refine zr_dVi (C := RX4) (ci := 4) [.int (nI (62))] [] X (zK_ok A D tc tF tL tM) (d_rs_t E (upd (upd μ (2497) (nI (p1))) (i + 2560) (nI (a))) (fun z hz => ((pk_un (by omega)).trans ((pk_un (by omega)).trans (rfl))).trans (hw z hz)) (p := p1) ((pk_un (by omega)).trans (pk_us)) (by omega) ((pk_un (by omega)).trans ((pk_un (by omega)).trans (hn))) hn2 (c := 62) F1) k_410 k_411 k_412 k_6 k_413 hdX4_readSign ⟨rfl, rfl⟩ ⟨Nat.le_of_ble_eq_true rfl, Nat.le_of_ble_eq_true rfl⟩ (by omega) sc_293 rfl rfl rfl (Nat.le_of_ble_eq_true rfl) dX4_readOne_24 ?_
  refine zr_if_ne X 32 dX4_readOne_27 (by decide) (fun _ => ?_) (fun q => absurd q (nI_ne0 (by omega) (by omega)))
  refine zr_aloadn X 0 dX4_readOne_32 rfl ?_
  refine zr_get X (ci := 4) (q := 3) (zR _) (.ref (ad (296))) dX4_readOne_33 (by omega) sc_293 rfl inX4 (by decide) rfl (zvR rfl) rfl k_187 ?_
  refine zr_iloadn X 1 dX4_readOne_36 rfl ?_
  refine zr_aloadn X 0 dX4_readOne_37 rfl ?_
  refine zr_iconst X (nI (1)) dX4_readOne_38 (by decide +kernel) ?_
  refine zr_iconst X (nI (1)) dX4_readOne_39 (by decide +kernel) ?_
  refine zr_dVi (C := RX4) (ci := 4) [.int (nI (1)), .int (nI (1))] [.int (nI (i)), .ref (ad (296))] X (zK_ok A D tc tF tL tM) (d_rn1_f E (upd (upd (upd μ (2497) (nI (p1))) (i + 2560) (nI (a))) (2497) (nI (p1 + 1))) (fun z hz => ((pk_un (by omega)).trans ((pk_un (by omega)).trans ((pk_un (by omega)).trans (rfl)))).trans (hw z hz)) (p := p1 + 1) (pk_us) (by omega) ((pk_un (by omega)).trans ((pk_un (by omega)).trans ((pk_un (by omega)).trans (hn)))) hn2 F2) k_402 k_403 k_404 k_6 k_405 hdX4_readNumber ⟨rfl, rfl⟩ ⟨Nat.le_of_ble_eq_true rfl, Nat.le_of_ble_eq_true rfl⟩ (by omega) sc_293 rfl rfl rfl (Nat.le_of_ble_eq_true rfl) dX4_readOne_40 ?_
  refine zr_iast X (j := i) 0 (i + 2568) dX4_readOne_43 (by omega) sc_296 rfl rfl (by omega) (by omega) (by omega) ?_
  refine zr_aloadn X 0 dX4_readOne_44 rfl ?_
  refine zr_get X (ci := 4) (q := 3) (zR _) (.ref (ad (296))) dX4_readOne_45 (by omega) sc_293 rfl inX4 (by decide) rfl (zvR rfl) rfl k_187 ?_
  refine zr_iloadn X 1 dX4_readOne_48 rfl ?_
  refine zr_iald X (j := i) 0 (-5) dX4_readOne_49 (by omega) sc_296 rfl rfl (by omega) (by omega) (zcg (b := i + 2568) (by omega) (pk_us)) ?_
  refine zr_if_lt X 62 dX4_readOne_50 (by decide) (fun _ => ?_) (fun q => absurd (by decide) q)
  refine zr_iconst X (nI (0)) dX4_readOne_62 (by decide +kernel) ?_
  exact zr_zret X dX4_readOne_63 rfl ⟨rfl, ((pk_un (by omega)).trans (pk_us)), fun x hx1 hx2 hx3 hx4 hx5 => ((pk_un (by omega)).trans ((pk_un (by omega)).trans ((pk_un (by omega)).trans ((pk_un (by omega)).trans (rfl)))))⟩

set_option maxHeartbeats 4000000 in
set_option maxRecDepth 100000 in
theorem d_one_3 {l : Launch} {D : va_G} {tc : Nat → ClassId} {ad : Nat → Nat} {A : Nat → Prop} {tF tL tM : Nat} (E : zN 299 A ad) (μ : Nat → Int32) {w : Nat → Int32} (hw : ∀ q, q < 60 → μ (q + 2500) = w q) {p : Nat} (hp : μ 2497 = nI p) (hp3 : p ≤ 64) {n : Nat} (hn : μ 2491 = nI n) (hn2 : n ≤ 60) {i : Nat} (hi : i < 8) {a p1 : Nat} (F0 : znum w n 1 (p)) (a0 : znv w n 1 (p) = a) (e0 : znq w n 1 (p) = p1) (F1 : zis w n 62 p1) {b p3 : Nat} (F2 : znum w n 1 (p1 + 1)) (a2 : znv w n 1 (p1 + 1) = b) (e2 : znq w n 1 (p1 + 1) = p3) (F3 : ¬ zis w n 58 p3)  : zMi l yX4_readOne cX4_readOne 2 (some .boolean) (zrm 3) (zK A D tc tF tL tM) A D vwCl tc ad 299 shC [.ref (ad (293)), .int (nI (i))] μ (fun r u => r = nI 0 ∧ u 2497 = nI (p3) ∧ (∀ x, x ≠ 2497 → x ≠ i + 2560 → x ≠ i + 2568 → x ≠ i + 2576 → x ≠ i + 2584 → u x = μ x)) := by
  refine zM_of RX4 [(0, .ref (ad (293))), (1, .int (nI (i)))] (zK_ok A D tc tF tL tM) E.1 E.2 owC_ok (by decide +kernel) rfl (Nat.le_of_ble_eq_true rfl) rfl ?_
  intro pP eE sS mM aS bL mT cO X
  have l0 : p1 ≤ n := e0 ▸ znq_le F0
  have b0 : a < 10 ^ 1 := a0 ▸ znv_lt
  have l1 := F1.1
  have l2 : p3 ≤ n := e2 ▸ znq_le F2
  have b2 : b < 10 ^ 1 := a2 ▸ znv_lt
  refine zr_aloadn X 0 dX4_readOne_0 rfl ?_
  refine zr_get X (ci := 4) (q := 2) (zR _) (.ref (ad (295))) dX4_readOne_1 (by omega) sc_293 rfl inX4 (by decide) rfl (zvR rfl) rfl k_185 ?_
  refine zr_iloadn X 1 dX4_readOne_4 rfl ?_
  refine zr_aloadn X 0 dX4_readOne_5 rfl ?_
  refine zr_iconst X (nI (1)) dX4_readOne_6 (by decide +kernel) ?_
  refine zr_iconst X (nI (1)) dX4_readOne_7 (by decide +kernel) ?_
  refine zr_dVi (C := RX4) (ci := 4) [.int (nI (1)), .int (nI (1))] [.int (nI (i)), .ref (ad (295))] X (zK_ok A D tc tF tL tM) (d_rn1_t E μ hw (p := p) (hp) (by omega) (hn) hn2 F0 a0 e0) k_402 k_403 k_404 k_6 k_405 hdX4_readNumber ⟨rfl, rfl⟩ ⟨Nat.le_of_ble_eq_true rfl, Nat.le_of_ble_eq_true rfl⟩ (by omega) sc_293 rfl rfl rfl (Nat.le_of_ble_eq_true rfl) dX4_readOne_8 ?_
  refine zr_iast X (j := i) 0 (i + 2560) dX4_readOne_11 (by omega) sc_295 rfl rfl (by omega) (by omega) (by omega) ?_
  refine zr_aloadn X 0 dX4_readOne_12 rfl ?_
  refine zr_get X (ci := 4) (q := 2) (zR _) (.ref (ad (295))) dX4_readOne_13 (by omega) sc_293 rfl inX4 (by decide) rfl (zvR rfl) rfl k_185 ?_
  refine zr_iloadn X 1 dX4_readOne_16 rfl ?_
  refine zr_iald X (j := i) 0 (nI (a)) dX4_readOne_17 (by omega) sc_295 rfl rfl (by omega) (by omega) (zcg (b := i + 2560) (by omega) (pk_us)) ?_
  refine zr_if_lt X 30 dX4_readOne_18 (by decide) (fun q => absurd q (nI_pos (by omega))) (fun _ => ?_)
  refine zr_aloadn X 0 dX4_readOne_21 rfl ?_
  refine zr_bipush X (nI (62)) dX4_readOne_22 (by decide +kernel) ?_
  refine zr_dVi (C := RX4) (ci := 4) [.int (nI (62))] [] X (zK_ok A D tc tF tL tM) (d_rs_t E (upd (upd μ (2497) (nI (p1))) (i + 2560) (nI (a))) (fun z hz => ((pk_un (by omega)).trans ((pk_un (by omega)).trans (rfl))).trans (hw z hz)) (p := p1) ((pk_un (by omega)).trans (pk_us)) (by omega) ((pk_un (by omega)).trans ((pk_un (by omega)).trans (hn))) hn2 (c := 62) F1) k_410 k_411 k_412 k_6 k_413 hdX4_readSign ⟨rfl, rfl⟩ ⟨Nat.le_of_ble_eq_true rfl, Nat.le_of_ble_eq_true rfl⟩ (by omega) sc_293 rfl rfl rfl (Nat.le_of_ble_eq_true rfl) dX4_readOne_24 ?_
  refine zr_if_ne X 32 dX4_readOne_27 (by decide) (fun _ => ?_) (fun q => absurd q (nI_ne0 (by omega) (by omega)))
  refine zr_aloadn X 0 dX4_readOne_32 rfl ?_
  refine zr_get X (ci := 4) (q := 3) (zR _) (.ref (ad (296))) dX4_readOne_33 (by omega) sc_293 rfl inX4 (by decide) rfl (zvR rfl) rfl k_187 ?_
  refine zr_iloadn X 1 dX4_readOne_36 rfl ?_
  refine zr_aloadn X 0 dX4_readOne_37 rfl ?_
  refine zr_iconst X (nI (1)) dX4_readOne_38 (by decide +kernel) ?_
  refine zr_iconst X (nI (1)) dX4_readOne_39 (by decide +kernel) ?_
  refine zr_dVi (C := RX4) (ci := 4) [.int (nI (1)), .int (nI (1))] [.int (nI (i)), .ref (ad (296))] X (zK_ok A D tc tF tL tM) (d_rn1_t E (upd (upd (upd μ (2497) (nI (p1))) (i + 2560) (nI (a))) (2497) (nI (p1 + 1))) (fun z hz => ((pk_un (by omega)).trans ((pk_un (by omega)).trans ((pk_un (by omega)).trans (rfl)))).trans (hw z hz)) (p := p1 + 1) (pk_us) (by omega) ((pk_un (by omega)).trans ((pk_un (by omega)).trans ((pk_un (by omega)).trans (hn)))) hn2 F2 a2 e2) k_402 k_403 k_404 k_6 k_405 hdX4_readNumber ⟨rfl, rfl⟩ ⟨Nat.le_of_ble_eq_true rfl, Nat.le_of_ble_eq_true rfl⟩ (by omega) sc_293 rfl rfl rfl (Nat.le_of_ble_eq_true rfl) dX4_readOne_40 ?_
  refine zr_iast X (j := i) 0 (i + 2568) dX4_readOne_43 (by omega) sc_296 rfl rfl (by omega) (by omega) (by omega) ?_
  refine zr_aloadn X 0 dX4_readOne_44 rfl ?_
  refine zr_get X (ci := 4) (q := 3) (zR _) (.ref (ad (296))) dX4_readOne_45 (by omega) sc_293 rfl inX4 (by decide) rfl (zvR rfl) rfl k_187 ?_
  refine zr_iloadn X 1 dX4_readOne_48 rfl ?_
  refine zr_iald X (j := i) 0 (nI (b)) dX4_readOne_49 (by omega) sc_296 rfl rfl (by omega) (by omega) (zcg (b := i + 2568) (by omega) (pk_us)) ?_
  refine zr_if_lt X 62 dX4_readOne_50 (by decide) (fun q => absurd q (nI_pos (by omega))) (fun _ => ?_)
  refine zr_aloadn X 0 dX4_readOne_53 rfl ?_
  refine zr_bipush X (nI (58)) dX4_readOne_54 (by decide +kernel) ?_
  refine zr_dVi (C := RX4) (ci := 4) [.int (nI (58))] [] X (zK_ok A D tc tF tL tM) (d_rs_f E (upd (upd (upd (upd (upd μ (2497) (nI (p1))) (i + 2560) (nI (a))) (2497) (nI (p1 + 1))) (2497) (nI (p3))) (i + 2568) (nI (b))) (fun z hz => ((pk_un (by omega)).trans ((pk_un (by omega)).trans ((pk_un (by omega)).trans ((pk_un (by omega)).trans ((pk_un (by omega)).trans (rfl)))))).trans (hw z hz)) (p := p3) ((pk_un (by omega)).trans (pk_us)) (by omega) ((pk_un (by omega)).trans ((pk_un (by omega)).trans ((pk_un (by omega)).trans ((pk_un (by omega)).trans ((pk_un (by omega)).trans (hn)))))) hn2 (c := 58) F3) k_410 k_411 k_412 k_6 k_413 hdX4_readSign ⟨rfl, rfl⟩ ⟨Nat.le_of_ble_eq_true rfl, Nat.le_of_ble_eq_true rfl⟩ (by omega) sc_293 rfl rfl rfl (Nat.le_of_ble_eq_true rfl) dX4_readOne_56 ?_
  refine zr_if_ne X 64 dX4_readOne_59 (by decide) (fun q => absurd (zq_eq0 (by omega)) q) (fun _ => ?_)
  refine zr_iconst X (nI (0)) dX4_readOne_62 (by decide +kernel) ?_
  exact zr_zret X dX4_readOne_63 rfl ⟨rfl, ((pk_un (by omega)).trans (pk_us)), fun x hx1 hx2 hx3 hx4 hx5 => ((pk_un (by omega)).trans ((pk_un (by omega)).trans ((pk_un (by omega)).trans ((pk_un (by omega)).trans ((pk_un (by omega)).trans (rfl))))))⟩

set_option maxHeartbeats 4000000 in
set_option maxRecDepth 100000 in
theorem d_one_4 {l : Launch} {D : va_G} {tc : Nat → ClassId} {ad : Nat → Nat} {A : Nat → Prop} {tF tL tM : Nat} (E : zN 299 A ad) (μ : Nat → Int32) {w : Nat → Int32} (hw : ∀ q, q < 60 → μ (q + 2500) = w q) {p : Nat} (hp : μ 2497 = nI p) (hp3 : p ≤ 64) {n : Nat} (hn : μ 2491 = nI n) (hn2 : n ≤ 60) {i : Nat} (hi : i < 8) {a p1 : Nat} (F0 : znum w n 1 (p)) (a0 : znv w n 1 (p) = a) (e0 : znq w n 1 (p) = p1) (F1 : zis w n 62 p1) {b p3 : Nat} (F2 : znum w n 1 (p1 + 1)) (a2 : znv w n 1 (p1 + 1) = b) (e2 : znq w n 1 (p1 + 1) = p3) (F3 : zis w n 58 p3) (F4 : ¬ znum w n 1 (p3 + 1))  : zMi l yX4_readOne cX4_readOne 2 (some .boolean) (zrm 3) (zK A D tc tF tL tM) A D vwCl tc ad 299 shC [.ref (ad (293)), .int (nI (i))] μ (fun r u => r = nI 0 ∧ u 2497 = nI (p3 + 1) ∧ (∀ x, x ≠ 2497 → x ≠ i + 2560 → x ≠ i + 2568 → x ≠ i + 2576 → x ≠ i + 2584 → u x = μ x)) := by
  refine zM_of RX4 [(0, .ref (ad (293))), (1, .int (nI (i)))] (zK_ok A D tc tF tL tM) E.1 E.2 owC_ok (by decide +kernel) rfl (Nat.le_of_ble_eq_true rfl) rfl ?_
  intro pP eE sS mM aS bL mT cO X
  have l0 : p1 ≤ n := e0 ▸ znq_le F0
  have b0 : a < 10 ^ 1 := a0 ▸ znv_lt
  have l1 := F1.1
  have l2 : p3 ≤ n := e2 ▸ znq_le F2
  have b2 : b < 10 ^ 1 := a2 ▸ znv_lt
  have l3 := F3.1
  refine zr_aloadn X 0 dX4_readOne_0 rfl ?_
  refine zr_get X (ci := 4) (q := 2) (zR _) (.ref (ad (295))) dX4_readOne_1 (by omega) sc_293 rfl inX4 (by decide) rfl (zvR rfl) rfl k_185 ?_
  refine zr_iloadn X 1 dX4_readOne_4 rfl ?_
  refine zr_aloadn X 0 dX4_readOne_5 rfl ?_
  refine zr_iconst X (nI (1)) dX4_readOne_6 (by decide +kernel) ?_
  refine zr_iconst X (nI (1)) dX4_readOne_7 (by decide +kernel) ?_
  refine zr_dVi (C := RX4) (ci := 4) [.int (nI (1)), .int (nI (1))] [.int (nI (i)), .ref (ad (295))] X (zK_ok A D tc tF tL tM) (d_rn1_t E μ hw (p := p) (hp) (by omega) (hn) hn2 F0 a0 e0) k_402 k_403 k_404 k_6 k_405 hdX4_readNumber ⟨rfl, rfl⟩ ⟨Nat.le_of_ble_eq_true rfl, Nat.le_of_ble_eq_true rfl⟩ (by omega) sc_293 rfl rfl rfl (Nat.le_of_ble_eq_true rfl) dX4_readOne_8 ?_
  refine zr_iast X (j := i) 0 (i + 2560) dX4_readOne_11 (by omega) sc_295 rfl rfl (by omega) (by omega) (by omega) ?_
  refine zr_aloadn X 0 dX4_readOne_12 rfl ?_
  refine zr_get X (ci := 4) (q := 2) (zR _) (.ref (ad (295))) dX4_readOne_13 (by omega) sc_293 rfl inX4 (by decide) rfl (zvR rfl) rfl k_185 ?_
  refine zr_iloadn X 1 dX4_readOne_16 rfl ?_
  refine zr_iald X (j := i) 0 (nI (a)) dX4_readOne_17 (by omega) sc_295 rfl rfl (by omega) (by omega) (zcg (b := i + 2560) (by omega) (pk_us)) ?_
  refine zr_if_lt X 30 dX4_readOne_18 (by decide) (fun q => absurd q (nI_pos (by omega))) (fun _ => ?_)
  refine zr_aloadn X 0 dX4_readOne_21 rfl ?_
  refine zr_bipush X (nI (62)) dX4_readOne_22 (by decide +kernel) ?_
  refine zr_dVi (C := RX4) (ci := 4) [.int (nI (62))] [] X (zK_ok A D tc tF tL tM) (d_rs_t E (upd (upd μ (2497) (nI (p1))) (i + 2560) (nI (a))) (fun z hz => ((pk_un (by omega)).trans ((pk_un (by omega)).trans (rfl))).trans (hw z hz)) (p := p1) ((pk_un (by omega)).trans (pk_us)) (by omega) ((pk_un (by omega)).trans ((pk_un (by omega)).trans (hn))) hn2 (c := 62) F1) k_410 k_411 k_412 k_6 k_413 hdX4_readSign ⟨rfl, rfl⟩ ⟨Nat.le_of_ble_eq_true rfl, Nat.le_of_ble_eq_true rfl⟩ (by omega) sc_293 rfl rfl rfl (Nat.le_of_ble_eq_true rfl) dX4_readOne_24 ?_
  refine zr_if_ne X 32 dX4_readOne_27 (by decide) (fun _ => ?_) (fun q => absurd q (nI_ne0 (by omega) (by omega)))
  refine zr_aloadn X 0 dX4_readOne_32 rfl ?_
  refine zr_get X (ci := 4) (q := 3) (zR _) (.ref (ad (296))) dX4_readOne_33 (by omega) sc_293 rfl inX4 (by decide) rfl (zvR rfl) rfl k_187 ?_
  refine zr_iloadn X 1 dX4_readOne_36 rfl ?_
  refine zr_aloadn X 0 dX4_readOne_37 rfl ?_
  refine zr_iconst X (nI (1)) dX4_readOne_38 (by decide +kernel) ?_
  refine zr_iconst X (nI (1)) dX4_readOne_39 (by decide +kernel) ?_
  refine zr_dVi (C := RX4) (ci := 4) [.int (nI (1)), .int (nI (1))] [.int (nI (i)), .ref (ad (296))] X (zK_ok A D tc tF tL tM) (d_rn1_t E (upd (upd (upd μ (2497) (nI (p1))) (i + 2560) (nI (a))) (2497) (nI (p1 + 1))) (fun z hz => ((pk_un (by omega)).trans ((pk_un (by omega)).trans ((pk_un (by omega)).trans (rfl)))).trans (hw z hz)) (p := p1 + 1) (pk_us) (by omega) ((pk_un (by omega)).trans ((pk_un (by omega)).trans ((pk_un (by omega)).trans (hn)))) hn2 F2 a2 e2) k_402 k_403 k_404 k_6 k_405 hdX4_readNumber ⟨rfl, rfl⟩ ⟨Nat.le_of_ble_eq_true rfl, Nat.le_of_ble_eq_true rfl⟩ (by omega) sc_293 rfl rfl rfl (Nat.le_of_ble_eq_true rfl) dX4_readOne_40 ?_
  refine zr_iast X (j := i) 0 (i + 2568) dX4_readOne_43 (by omega) sc_296 rfl rfl (by omega) (by omega) (by omega) ?_
  refine zr_aloadn X 0 dX4_readOne_44 rfl ?_
  refine zr_get X (ci := 4) (q := 3) (zR _) (.ref (ad (296))) dX4_readOne_45 (by omega) sc_293 rfl inX4 (by decide) rfl (zvR rfl) rfl k_187 ?_
  refine zr_iloadn X 1 dX4_readOne_48 rfl ?_
  refine zr_iald X (j := i) 0 (nI (b)) dX4_readOne_49 (by omega) sc_296 rfl rfl (by omega) (by omega) (zcg (b := i + 2568) (by omega) (pk_us)) ?_
  refine zr_if_lt X 62 dX4_readOne_50 (by decide) (fun q => absurd q (nI_pos (by omega))) (fun _ => ?_)
  refine zr_aloadn X 0 dX4_readOne_53 rfl ?_
  refine zr_bipush X (nI (58)) dX4_readOne_54 (by decide +kernel) ?_
  refine zr_dVi (C := RX4) (ci := 4) [.int (nI (58))] [] X (zK_ok A D tc tF tL tM) (d_rs_t E (upd (upd (upd (upd (upd μ (2497) (nI (p1))) (i + 2560) (nI (a))) (2497) (nI (p1 + 1))) (2497) (nI (p3))) (i + 2568) (nI (b))) (fun z hz => ((pk_un (by omega)).trans ((pk_un (by omega)).trans ((pk_un (by omega)).trans ((pk_un (by omega)).trans ((pk_un (by omega)).trans (rfl)))))).trans (hw z hz)) (p := p3) ((pk_un (by omega)).trans (pk_us)) (by omega) ((pk_un (by omega)).trans ((pk_un (by omega)).trans ((pk_un (by omega)).trans ((pk_un (by omega)).trans ((pk_un (by omega)).trans (hn)))))) hn2 (c := 58) F3) k_410 k_411 k_412 k_6 k_413 hdX4_readSign ⟨rfl, rfl⟩ ⟨Nat.le_of_ble_eq_true rfl, Nat.le_of_ble_eq_true rfl⟩ (by omega) sc_293 rfl rfl rfl (Nat.le_of_ble_eq_true rfl) dX4_readOne_56 ?_
  refine zr_if_ne X 64 dX4_readOne_59 (by decide) (fun _ => ?_) (fun q => absurd q (nI_ne0 (by omega) (by omega)))
  refine zr_aloadn X 0 dX4_readOne_64 rfl ?_
  refine zr_get X (ci := 4) (q := 4) (zR _) (.ref (ad (297))) dX4_readOne_65 (by omega) sc_293 rfl inX4 (by decide) rfl (zvR rfl) rfl k_189 ?_
  refine zr_iloadn X 1 dX4_readOne_68 rfl ?_
  refine zr_aloadn X 0 dX4_readOne_69 rfl ?_
  refine zr_iconst X (nI (2)) dX4_readOne_70 (by decide +kernel) ?_
  refine zr_iconst X (nI (1)) dX4_readOne_71 (by decide +kernel) ?_
  refine zr_dVi (C := RX4) (ci := 4) [.int (nI (2)), .int (nI (1))] [.int (nI (i)), .ref (ad (297))] X (zK_ok A D tc tF tL tM) (d_rn2_f E (upd (upd (upd (upd (upd (upd μ (2497) (nI (p1))) (i + 2560) (nI (a))) (2497) (nI (p1 + 1))) (2497) (nI (p3))) (i + 2568) (nI (b))) (2497) (nI (p3 + 1))) (fun z hz => ((pk_un (by omega)).trans ((pk_un (by omega)).trans ((pk_un (by omega)).trans ((pk_un (by omega)).trans ((pk_un (by omega)).trans ((pk_un (by omega)).trans (rfl))))))).trans (hw z hz)) (p := p3 + 1) (pk_us) (by omega) ((pk_un (by omega)).trans ((pk_un (by omega)).trans ((pk_un (by omega)).trans ((pk_un (by omega)).trans ((pk_un (by omega)).trans ((pk_un (by omega)).trans (hn))))))) hn2 F4) k_402 k_403 k_404 k_6 k_405 hdX4_readNumber ⟨rfl, rfl⟩ ⟨Nat.le_of_ble_eq_true rfl, Nat.le_of_ble_eq_true rfl⟩ (by omega) sc_293 rfl rfl rfl (Nat.le_of_ble_eq_true rfl) dX4_readOne_72 ?_
  refine zr_iast X (j := i) 0 (i + 2576) dX4_readOne_75 (by omega) sc_297 rfl rfl (by omega) (by omega) (by omega) ?_
  refine zr_aloadn X 0 dX4_readOne_76 rfl ?_
  refine zr_get X (ci := 4) (q := 4) (zR _) (.ref (ad (297))) dX4_readOne_77 (by omega) sc_293 rfl inX4 (by decide) rfl (zvR rfl) rfl k_189 ?_
  refine zr_iloadn X 1 dX4_readOne_80 rfl ?_
  refine zr_iald X (j := i) 0 (-5) dX4_readOne_81 (by omega) sc_297 rfl rfl (by omega) (by omega) (zcg (b := i + 2576) (by omega) (pk_us)) ?_
  refine zr_if_lt X 94 dX4_readOne_82 (by decide) (fun _ => ?_) (fun q => absurd (by decide) q)
  refine zr_iconst X (nI (0)) dX4_readOne_94 (by decide +kernel) ?_
  exact zr_zret X dX4_readOne_95 rfl ⟨rfl, ((pk_un (by omega)).trans (pk_us)), fun x hx1 hx2 hx3 hx4 hx5 => ((pk_un (by omega)).trans ((pk_un (by omega)).trans ((pk_un (by omega)).trans ((pk_un (by omega)).trans ((pk_un (by omega)).trans ((pk_un (by omega)).trans ((pk_un (by omega)).trans (rfl))))))))⟩

set_option maxHeartbeats 4000000 in
set_option maxRecDepth 100000 in
theorem d_one_5 {l : Launch} {D : va_G} {tc : Nat → ClassId} {ad : Nat → Nat} {A : Nat → Prop} {tF tL tM : Nat} (E : zN 299 A ad) (μ : Nat → Int32) {w : Nat → Int32} (hw : ∀ q, q < 60 → μ (q + 2500) = w q) {p : Nat} (hp : μ 2497 = nI p) (hp3 : p ≤ 64) {n : Nat} (hn : μ 2491 = nI n) (hn2 : n ≤ 60) {i : Nat} (hi : i < 8) {a p1 : Nat} (F0 : znum w n 1 (p)) (a0 : znv w n 1 (p) = a) (e0 : znq w n 1 (p) = p1) (F1 : zis w n 62 p1) {b p3 : Nat} (F2 : znum w n 1 (p1 + 1)) (a2 : znv w n 1 (p1 + 1) = b) (e2 : znq w n 1 (p1 + 1) = p3) (F3 : zis w n 58 p3) {v p5 : Nat} (F4 : znum w n 1 (p3 + 1)) (a4 : znv w n 2 (p3 + 1) = v) (e4 : znq w n 2 (p3 + 1) = p5) (F5 : ¬ zis w n 42 p5)  : zMi l yX4_readOne cX4_readOne 2 (some .boolean) (zrm 3) (zK A D tc tF tL tM) A D vwCl tc ad 299 shC [.ref (ad (293)), .int (nI (i))] μ (fun r u => r = nI 0 ∧ u 2497 = nI (p5) ∧ (∀ x, x ≠ 2497 → x ≠ i + 2560 → x ≠ i + 2568 → x ≠ i + 2576 → x ≠ i + 2584 → u x = μ x)) := by
  refine zM_of RX4 [(0, .ref (ad (293))), (1, .int (nI (i)))] (zK_ok A D tc tF tL tM) E.1 E.2 owC_ok (by decide +kernel) rfl (Nat.le_of_ble_eq_true rfl) rfl ?_
  intro pP eE sS mM aS bL mT cO X
  have l0 : p1 ≤ n := e0 ▸ znq_le F0
  have b0 : a < 10 ^ 1 := a0 ▸ znv_lt
  have l1 := F1.1
  have l2 : p3 ≤ n := e2 ▸ znq_le F2
  have b2 : b < 10 ^ 1 := a2 ▸ znv_lt
  have l3 := F3.1
  have l4 : p5 ≤ n := e4 ▸ znq_le F4
  have b4 : v < 10 ^ 2 := a4 ▸ znv_lt
  refine zr_aloadn X 0 dX4_readOne_0 rfl ?_
  refine zr_get X (ci := 4) (q := 2) (zR _) (.ref (ad (295))) dX4_readOne_1 (by omega) sc_293 rfl inX4 (by decide) rfl (zvR rfl) rfl k_185 ?_
  refine zr_iloadn X 1 dX4_readOne_4 rfl ?_
  refine zr_aloadn X 0 dX4_readOne_5 rfl ?_
  refine zr_iconst X (nI (1)) dX4_readOne_6 (by decide +kernel) ?_
  refine zr_iconst X (nI (1)) dX4_readOne_7 (by decide +kernel) ?_
  refine zr_dVi (C := RX4) (ci := 4) [.int (nI (1)), .int (nI (1))] [.int (nI (i)), .ref (ad (295))] X (zK_ok A D tc tF tL tM) (d_rn1_t E μ hw (p := p) (hp) (by omega) (hn) hn2 F0 a0 e0) k_402 k_403 k_404 k_6 k_405 hdX4_readNumber ⟨rfl, rfl⟩ ⟨Nat.le_of_ble_eq_true rfl, Nat.le_of_ble_eq_true rfl⟩ (by omega) sc_293 rfl rfl rfl (Nat.le_of_ble_eq_true rfl) dX4_readOne_8 ?_
  refine zr_iast X (j := i) 0 (i + 2560) dX4_readOne_11 (by omega) sc_295 rfl rfl (by omega) (by omega) (by omega) ?_
  refine zr_aloadn X 0 dX4_readOne_12 rfl ?_
  refine zr_get X (ci := 4) (q := 2) (zR _) (.ref (ad (295))) dX4_readOne_13 (by omega) sc_293 rfl inX4 (by decide) rfl (zvR rfl) rfl k_185 ?_
  refine zr_iloadn X 1 dX4_readOne_16 rfl ?_
  refine zr_iald X (j := i) 0 (nI (a)) dX4_readOne_17 (by omega) sc_295 rfl rfl (by omega) (by omega) (zcg (b := i + 2560) (by omega) (pk_us)) ?_
  refine zr_if_lt X 30 dX4_readOne_18 (by decide) (fun q => absurd q (nI_pos (by omega))) (fun _ => ?_)
  refine zr_aloadn X 0 dX4_readOne_21 rfl ?_
  refine zr_bipush X (nI (62)) dX4_readOne_22 (by decide +kernel) ?_
  refine zr_dVi (C := RX4) (ci := 4) [.int (nI (62))] [] X (zK_ok A D tc tF tL tM) (d_rs_t E (upd (upd μ (2497) (nI (p1))) (i + 2560) (nI (a))) (fun z hz => ((pk_un (by omega)).trans ((pk_un (by omega)).trans (rfl))).trans (hw z hz)) (p := p1) ((pk_un (by omega)).trans (pk_us)) (by omega) ((pk_un (by omega)).trans ((pk_un (by omega)).trans (hn))) hn2 (c := 62) F1) k_410 k_411 k_412 k_6 k_413 hdX4_readSign ⟨rfl, rfl⟩ ⟨Nat.le_of_ble_eq_true rfl, Nat.le_of_ble_eq_true rfl⟩ (by omega) sc_293 rfl rfl rfl (Nat.le_of_ble_eq_true rfl) dX4_readOne_24 ?_
  refine zr_if_ne X 32 dX4_readOne_27 (by decide) (fun _ => ?_) (fun q => absurd q (nI_ne0 (by omega) (by omega)))
  refine zr_aloadn X 0 dX4_readOne_32 rfl ?_
  refine zr_get X (ci := 4) (q := 3) (zR _) (.ref (ad (296))) dX4_readOne_33 (by omega) sc_293 rfl inX4 (by decide) rfl (zvR rfl) rfl k_187 ?_
  refine zr_iloadn X 1 dX4_readOne_36 rfl ?_
  refine zr_aloadn X 0 dX4_readOne_37 rfl ?_
  refine zr_iconst X (nI (1)) dX4_readOne_38 (by decide +kernel) ?_
  refine zr_iconst X (nI (1)) dX4_readOne_39 (by decide +kernel) ?_
  refine zr_dVi (C := RX4) (ci := 4) [.int (nI (1)), .int (nI (1))] [.int (nI (i)), .ref (ad (296))] X (zK_ok A D tc tF tL tM) (d_rn1_t E (upd (upd (upd μ (2497) (nI (p1))) (i + 2560) (nI (a))) (2497) (nI (p1 + 1))) (fun z hz => ((pk_un (by omega)).trans ((pk_un (by omega)).trans ((pk_un (by omega)).trans (rfl)))).trans (hw z hz)) (p := p1 + 1) (pk_us) (by omega) ((pk_un (by omega)).trans ((pk_un (by omega)).trans ((pk_un (by omega)).trans (hn)))) hn2 F2 a2 e2) k_402 k_403 k_404 k_6 k_405 hdX4_readNumber ⟨rfl, rfl⟩ ⟨Nat.le_of_ble_eq_true rfl, Nat.le_of_ble_eq_true rfl⟩ (by omega) sc_293 rfl rfl rfl (Nat.le_of_ble_eq_true rfl) dX4_readOne_40 ?_
  refine zr_iast X (j := i) 0 (i + 2568) dX4_readOne_43 (by omega) sc_296 rfl rfl (by omega) (by omega) (by omega) ?_
  refine zr_aloadn X 0 dX4_readOne_44 rfl ?_
  refine zr_get X (ci := 4) (q := 3) (zR _) (.ref (ad (296))) dX4_readOne_45 (by omega) sc_293 rfl inX4 (by decide) rfl (zvR rfl) rfl k_187 ?_
  refine zr_iloadn X 1 dX4_readOne_48 rfl ?_
  refine zr_iald X (j := i) 0 (nI (b)) dX4_readOne_49 (by omega) sc_296 rfl rfl (by omega) (by omega) (zcg (b := i + 2568) (by omega) (pk_us)) ?_
  refine zr_if_lt X 62 dX4_readOne_50 (by decide) (fun q => absurd q (nI_pos (by omega))) (fun _ => ?_)
  refine zr_aloadn X 0 dX4_readOne_53 rfl ?_
  refine zr_bipush X (nI (58)) dX4_readOne_54 (by decide +kernel) ?_
  refine zr_dVi (C := RX4) (ci := 4) [.int (nI (58))] [] X (zK_ok A D tc tF tL tM) (d_rs_t E (upd (upd (upd (upd (upd μ (2497) (nI (p1))) (i + 2560) (nI (a))) (2497) (nI (p1 + 1))) (2497) (nI (p3))) (i + 2568) (nI (b))) (fun z hz => ((pk_un (by omega)).trans ((pk_un (by omega)).trans ((pk_un (by omega)).trans ((pk_un (by omega)).trans ((pk_un (by omega)).trans (rfl)))))).trans (hw z hz)) (p := p3) ((pk_un (by omega)).trans (pk_us)) (by omega) ((pk_un (by omega)).trans ((pk_un (by omega)).trans ((pk_un (by omega)).trans ((pk_un (by omega)).trans ((pk_un (by omega)).trans (hn)))))) hn2 (c := 58) F3) k_410 k_411 k_412 k_6 k_413 hdX4_readSign ⟨rfl, rfl⟩ ⟨Nat.le_of_ble_eq_true rfl, Nat.le_of_ble_eq_true rfl⟩ (by omega) sc_293 rfl rfl rfl (Nat.le_of_ble_eq_true rfl) dX4_readOne_56 ?_
  refine zr_if_ne X 64 dX4_readOne_59 (by decide) (fun _ => ?_) (fun q => absurd q (nI_ne0 (by omega) (by omega)))
  refine zr_aloadn X 0 dX4_readOne_64 rfl ?_
  refine zr_get X (ci := 4) (q := 4) (zR _) (.ref (ad (297))) dX4_readOne_65 (by omega) sc_293 rfl inX4 (by decide) rfl (zvR rfl) rfl k_189 ?_
  refine zr_iloadn X 1 dX4_readOne_68 rfl ?_
  refine zr_aloadn X 0 dX4_readOne_69 rfl ?_
  refine zr_iconst X (nI (2)) dX4_readOne_70 (by decide +kernel) ?_
  refine zr_iconst X (nI (1)) dX4_readOne_71 (by decide +kernel) ?_
  refine zr_dVi (C := RX4) (ci := 4) [.int (nI (2)), .int (nI (1))] [.int (nI (i)), .ref (ad (297))] X (zK_ok A D tc tF tL tM) (d_rn2_t E (upd (upd (upd (upd (upd (upd μ (2497) (nI (p1))) (i + 2560) (nI (a))) (2497) (nI (p1 + 1))) (2497) (nI (p3))) (i + 2568) (nI (b))) (2497) (nI (p3 + 1))) (fun z hz => ((pk_un (by omega)).trans ((pk_un (by omega)).trans ((pk_un (by omega)).trans ((pk_un (by omega)).trans ((pk_un (by omega)).trans ((pk_un (by omega)).trans (rfl))))))).trans (hw z hz)) (p := p3 + 1) (pk_us) (by omega) ((pk_un (by omega)).trans ((pk_un (by omega)).trans ((pk_un (by omega)).trans ((pk_un (by omega)).trans ((pk_un (by omega)).trans ((pk_un (by omega)).trans (hn))))))) hn2 F4 a4 e4) k_402 k_403 k_404 k_6 k_405 hdX4_readNumber ⟨rfl, rfl⟩ ⟨Nat.le_of_ble_eq_true rfl, Nat.le_of_ble_eq_true rfl⟩ (by omega) sc_293 rfl rfl rfl (Nat.le_of_ble_eq_true rfl) dX4_readOne_72 ?_
  refine zr_iast X (j := i) 0 (i + 2576) dX4_readOne_75 (by omega) sc_297 rfl rfl (by omega) (by omega) (by omega) ?_
  refine zr_aloadn X 0 dX4_readOne_76 rfl ?_
  refine zr_get X (ci := 4) (q := 4) (zR _) (.ref (ad (297))) dX4_readOne_77 (by omega) sc_293 rfl inX4 (by decide) rfl (zvR rfl) rfl k_189 ?_
  refine zr_iloadn X 1 dX4_readOne_80 rfl ?_
  refine zr_iald X (j := i) 0 (nI (v)) dX4_readOne_81 (by omega) sc_297 rfl rfl (by omega) (by omega) (zcg (b := i + 2576) (by omega) (pk_us)) ?_
  refine zr_if_lt X 94 dX4_readOne_82 (by decide) (fun q => absurd q (nI_pos (by omega))) (fun _ => ?_)
  refine zr_aloadn X 0 dX4_readOne_85 rfl ?_
  refine zr_bipush X (nI (42)) dX4_readOne_86 (by decide +kernel) ?_
  refine zr_dVi (C := RX4) (ci := 4) [.int (nI (42))] [] X (zK_ok A D tc tF tL tM) (d_rs_f E (upd (upd (upd (upd (upd (upd (upd (upd μ (2497) (nI (p1))) (i + 2560) (nI (a))) (2497) (nI (p1 + 1))) (2497) (nI (p3))) (i + 2568) (nI (b))) (2497) (nI (p3 + 1))) (2497) (nI (p5))) (i + 2576) (nI (v))) (fun z hz => ((pk_un (by omega)).trans ((pk_un (by omega)).trans ((pk_un (by omega)).trans ((pk_un (by omega)).trans ((pk_un (by omega)).trans ((pk_un (by omega)).trans ((pk_un (by omega)).trans ((pk_un (by omega)).trans (rfl))))))))).trans (hw z hz)) (p := p5) ((pk_un (by omega)).trans (pk_us)) (by omega) ((pk_un (by omega)).trans ((pk_un (by omega)).trans ((pk_un (by omega)).trans ((pk_un (by omega)).trans ((pk_un (by omega)).trans ((pk_un (by omega)).trans ((pk_un (by omega)).trans ((pk_un (by omega)).trans (hn))))))))) hn2 (c := 42) F5) k_410 k_411 k_412 k_6 k_413 hdX4_readSign ⟨rfl, rfl⟩ ⟨Nat.le_of_ble_eq_true rfl, Nat.le_of_ble_eq_true rfl⟩ (by omega) sc_293 rfl rfl rfl (Nat.le_of_ble_eq_true rfl) dX4_readOne_88 ?_
  refine zr_if_ne X 96 dX4_readOne_91 (by decide) (fun q => absurd (zq_eq0 (by omega)) q) (fun _ => ?_)
  refine zr_iconst X (nI (0)) dX4_readOne_94 (by decide +kernel) ?_
  exact zr_zret X dX4_readOne_95 rfl ⟨rfl, ((pk_un (by omega)).trans (pk_us)), fun x hx1 hx2 hx3 hx4 hx5 => ((pk_un (by omega)).trans ((pk_un (by omega)).trans ((pk_un (by omega)).trans ((pk_un (by omega)).trans ((pk_un (by omega)).trans ((pk_un (by omega)).trans ((pk_un (by omega)).trans ((pk_un (by omega)).trans (rfl)))))))))⟩

set_option maxHeartbeats 4000000 in
set_option maxRecDepth 100000 in
theorem d_one_6 {l : Launch} {D : va_G} {tc : Nat → ClassId} {ad : Nat → Nat} {A : Nat → Prop} {tF tL tM : Nat} (E : zN 299 A ad) (μ : Nat → Int32) {w : Nat → Int32} (hw : ∀ q, q < 60 → μ (q + 2500) = w q) {p : Nat} (hp : μ 2497 = nI p) (hp3 : p ≤ 64) {n : Nat} (hn : μ 2491 = nI n) (hn2 : n ≤ 60) {i : Nat} (hi : i < 8) {a p1 : Nat} (F0 : znum w n 1 (p)) (a0 : znv w n 1 (p) = a) (e0 : znq w n 1 (p) = p1) (F1 : zis w n 62 p1) {b p3 : Nat} (F2 : znum w n 1 (p1 + 1)) (a2 : znv w n 1 (p1 + 1) = b) (e2 : znq w n 1 (p1 + 1) = p3) (F3 : zis w n 58 p3) {v p5 : Nat} (F4 : znum w n 1 (p3 + 1)) (a4 : znv w n 2 (p3 + 1) = v) (e4 : znq w n 2 (p3 + 1) = p5) (F5 : zis w n 42 p5) (F6 : ¬ znum w n 0 (p5 + 1))  : zMi l yX4_readOne cX4_readOne 2 (some .boolean) (zrm 3) (zK A D tc tF tL tM) A D vwCl tc ad 299 shC [.ref (ad (293)), .int (nI (i))] μ (fun r u => r = nI 0 ∧ u 2497 = nI (p5 + 1) ∧ (∀ x, x ≠ 2497 → x ≠ i + 2560 → x ≠ i + 2568 → x ≠ i + 2576 → x ≠ i + 2584 → u x = μ x)) := by
  refine zM_of RX4 [(0, .ref (ad (293))), (1, .int (nI (i)))] (zK_ok A D tc tF tL tM) E.1 E.2 owC_ok (by decide +kernel) rfl (Nat.le_of_ble_eq_true rfl) rfl ?_
  intro pP eE sS mM aS bL mT cO X
  have l0 : p1 ≤ n := e0 ▸ znq_le F0
  have b0 : a < 10 ^ 1 := a0 ▸ znv_lt
  have l1 := F1.1
  have l2 : p3 ≤ n := e2 ▸ znq_le F2
  have b2 : b < 10 ^ 1 := a2 ▸ znv_lt
  have l3 := F3.1
  have l4 : p5 ≤ n := e4 ▸ znq_le F4
  have b4 : v < 10 ^ 2 := a4 ▸ znv_lt
  have l5 := F5.1
  refine zr_aloadn X 0 dX4_readOne_0 rfl ?_
  refine zr_get X (ci := 4) (q := 2) (zR _) (.ref (ad (295))) dX4_readOne_1 (by omega) sc_293 rfl inX4 (by decide) rfl (zvR rfl) rfl k_185 ?_
  refine zr_iloadn X 1 dX4_readOne_4 rfl ?_
  refine zr_aloadn X 0 dX4_readOne_5 rfl ?_
  refine zr_iconst X (nI (1)) dX4_readOne_6 (by decide +kernel) ?_
  refine zr_iconst X (nI (1)) dX4_readOne_7 (by decide +kernel) ?_
  refine zr_dVi (C := RX4) (ci := 4) [.int (nI (1)), .int (nI (1))] [.int (nI (i)), .ref (ad (295))] X (zK_ok A D tc tF tL tM) (d_rn1_t E μ hw (p := p) (hp) (by omega) (hn) hn2 F0 a0 e0) k_402 k_403 k_404 k_6 k_405 hdX4_readNumber ⟨rfl, rfl⟩ ⟨Nat.le_of_ble_eq_true rfl, Nat.le_of_ble_eq_true rfl⟩ (by omega) sc_293 rfl rfl rfl (Nat.le_of_ble_eq_true rfl) dX4_readOne_8 ?_
  refine zr_iast X (j := i) 0 (i + 2560) dX4_readOne_11 (by omega) sc_295 rfl rfl (by omega) (by omega) (by omega) ?_
  refine zr_aloadn X 0 dX4_readOne_12 rfl ?_
  refine zr_get X (ci := 4) (q := 2) (zR _) (.ref (ad (295))) dX4_readOne_13 (by omega) sc_293 rfl inX4 (by decide) rfl (zvR rfl) rfl k_185 ?_
  refine zr_iloadn X 1 dX4_readOne_16 rfl ?_
  refine zr_iald X (j := i) 0 (nI (a)) dX4_readOne_17 (by omega) sc_295 rfl rfl (by omega) (by omega) (zcg (b := i + 2560) (by omega) (pk_us)) ?_
  refine zr_if_lt X 30 dX4_readOne_18 (by decide) (fun q => absurd q (nI_pos (by omega))) (fun _ => ?_)
  refine zr_aloadn X 0 dX4_readOne_21 rfl ?_
  refine zr_bipush X (nI (62)) dX4_readOne_22 (by decide +kernel) ?_
  refine zr_dVi (C := RX4) (ci := 4) [.int (nI (62))] [] X (zK_ok A D tc tF tL tM) (d_rs_t E (upd (upd μ (2497) (nI (p1))) (i + 2560) (nI (a))) (fun z hz => ((pk_un (by omega)).trans ((pk_un (by omega)).trans (rfl))).trans (hw z hz)) (p := p1) ((pk_un (by omega)).trans (pk_us)) (by omega) ((pk_un (by omega)).trans ((pk_un (by omega)).trans (hn))) hn2 (c := 62) F1) k_410 k_411 k_412 k_6 k_413 hdX4_readSign ⟨rfl, rfl⟩ ⟨Nat.le_of_ble_eq_true rfl, Nat.le_of_ble_eq_true rfl⟩ (by omega) sc_293 rfl rfl rfl (Nat.le_of_ble_eq_true rfl) dX4_readOne_24 ?_
  refine zr_if_ne X 32 dX4_readOne_27 (by decide) (fun _ => ?_) (fun q => absurd q (nI_ne0 (by omega) (by omega)))
  refine zr_aloadn X 0 dX4_readOne_32 rfl ?_
  refine zr_get X (ci := 4) (q := 3) (zR _) (.ref (ad (296))) dX4_readOne_33 (by omega) sc_293 rfl inX4 (by decide) rfl (zvR rfl) rfl k_187 ?_
  refine zr_iloadn X 1 dX4_readOne_36 rfl ?_
  refine zr_aloadn X 0 dX4_readOne_37 rfl ?_
  refine zr_iconst X (nI (1)) dX4_readOne_38 (by decide +kernel) ?_
  refine zr_iconst X (nI (1)) dX4_readOne_39 (by decide +kernel) ?_
  refine zr_dVi (C := RX4) (ci := 4) [.int (nI (1)), .int (nI (1))] [.int (nI (i)), .ref (ad (296))] X (zK_ok A D tc tF tL tM) (d_rn1_t E (upd (upd (upd μ (2497) (nI (p1))) (i + 2560) (nI (a))) (2497) (nI (p1 + 1))) (fun z hz => ((pk_un (by omega)).trans ((pk_un (by omega)).trans ((pk_un (by omega)).trans (rfl)))).trans (hw z hz)) (p := p1 + 1) (pk_us) (by omega) ((pk_un (by omega)).trans ((pk_un (by omega)).trans ((pk_un (by omega)).trans (hn)))) hn2 F2 a2 e2) k_402 k_403 k_404 k_6 k_405 hdX4_readNumber ⟨rfl, rfl⟩ ⟨Nat.le_of_ble_eq_true rfl, Nat.le_of_ble_eq_true rfl⟩ (by omega) sc_293 rfl rfl rfl (Nat.le_of_ble_eq_true rfl) dX4_readOne_40 ?_
  refine zr_iast X (j := i) 0 (i + 2568) dX4_readOne_43 (by omega) sc_296 rfl rfl (by omega) (by omega) (by omega) ?_
  refine zr_aloadn X 0 dX4_readOne_44 rfl ?_
  refine zr_get X (ci := 4) (q := 3) (zR _) (.ref (ad (296))) dX4_readOne_45 (by omega) sc_293 rfl inX4 (by decide) rfl (zvR rfl) rfl k_187 ?_
  refine zr_iloadn X 1 dX4_readOne_48 rfl ?_
  refine zr_iald X (j := i) 0 (nI (b)) dX4_readOne_49 (by omega) sc_296 rfl rfl (by omega) (by omega) (zcg (b := i + 2568) (by omega) (pk_us)) ?_
  refine zr_if_lt X 62 dX4_readOne_50 (by decide) (fun q => absurd q (nI_pos (by omega))) (fun _ => ?_)
  refine zr_aloadn X 0 dX4_readOne_53 rfl ?_
  refine zr_bipush X (nI (58)) dX4_readOne_54 (by decide +kernel) ?_
  refine zr_dVi (C := RX4) (ci := 4) [.int (nI (58))] [] X (zK_ok A D tc tF tL tM) (d_rs_t E (upd (upd (upd (upd (upd μ (2497) (nI (p1))) (i + 2560) (nI (a))) (2497) (nI (p1 + 1))) (2497) (nI (p3))) (i + 2568) (nI (b))) (fun z hz => ((pk_un (by omega)).trans ((pk_un (by omega)).trans ((pk_un (by omega)).trans ((pk_un (by omega)).trans ((pk_un (by omega)).trans (rfl)))))).trans (hw z hz)) (p := p3) ((pk_un (by omega)).trans (pk_us)) (by omega) ((pk_un (by omega)).trans ((pk_un (by omega)).trans ((pk_un (by omega)).trans ((pk_un (by omega)).trans ((pk_un (by omega)).trans (hn)))))) hn2 (c := 58) F3) k_410 k_411 k_412 k_6 k_413 hdX4_readSign ⟨rfl, rfl⟩ ⟨Nat.le_of_ble_eq_true rfl, Nat.le_of_ble_eq_true rfl⟩ (by omega) sc_293 rfl rfl rfl (Nat.le_of_ble_eq_true rfl) dX4_readOne_56 ?_
  refine zr_if_ne X 64 dX4_readOne_59 (by decide) (fun _ => ?_) (fun q => absurd q (nI_ne0 (by omega) (by omega)))
  refine zr_aloadn X 0 dX4_readOne_64 rfl ?_
  refine zr_get X (ci := 4) (q := 4) (zR _) (.ref (ad (297))) dX4_readOne_65 (by omega) sc_293 rfl inX4 (by decide) rfl (zvR rfl) rfl k_189 ?_
  refine zr_iloadn X 1 dX4_readOne_68 rfl ?_
  refine zr_aloadn X 0 dX4_readOne_69 rfl ?_
  refine zr_iconst X (nI (2)) dX4_readOne_70 (by decide +kernel) ?_
  refine zr_iconst X (nI (1)) dX4_readOne_71 (by decide +kernel) ?_
  refine zr_dVi (C := RX4) (ci := 4) [.int (nI (2)), .int (nI (1))] [.int (nI (i)), .ref (ad (297))] X (zK_ok A D tc tF tL tM) (d_rn2_t E (upd (upd (upd (upd (upd (upd μ (2497) (nI (p1))) (i + 2560) (nI (a))) (2497) (nI (p1 + 1))) (2497) (nI (p3))) (i + 2568) (nI (b))) (2497) (nI (p3 + 1))) (fun z hz => ((pk_un (by omega)).trans ((pk_un (by omega)).trans ((pk_un (by omega)).trans ((pk_un (by omega)).trans ((pk_un (by omega)).trans ((pk_un (by omega)).trans (rfl))))))).trans (hw z hz)) (p := p3 + 1) (pk_us) (by omega) ((pk_un (by omega)).trans ((pk_un (by omega)).trans ((pk_un (by omega)).trans ((pk_un (by omega)).trans ((pk_un (by omega)).trans ((pk_un (by omega)).trans (hn))))))) hn2 F4 a4 e4) k_402 k_403 k_404 k_6 k_405 hdX4_readNumber ⟨rfl, rfl⟩ ⟨Nat.le_of_ble_eq_true rfl, Nat.le_of_ble_eq_true rfl⟩ (by omega) sc_293 rfl rfl rfl (Nat.le_of_ble_eq_true rfl) dX4_readOne_72 ?_
  refine zr_iast X (j := i) 0 (i + 2576) dX4_readOne_75 (by omega) sc_297 rfl rfl (by omega) (by omega) (by omega) ?_
  refine zr_aloadn X 0 dX4_readOne_76 rfl ?_
  refine zr_get X (ci := 4) (q := 4) (zR _) (.ref (ad (297))) dX4_readOne_77 (by omega) sc_293 rfl inX4 (by decide) rfl (zvR rfl) rfl k_189 ?_
  refine zr_iloadn X 1 dX4_readOne_80 rfl ?_
  refine zr_iald X (j := i) 0 (nI (v)) dX4_readOne_81 (by omega) sc_297 rfl rfl (by omega) (by omega) (zcg (b := i + 2576) (by omega) (pk_us)) ?_
  refine zr_if_lt X 94 dX4_readOne_82 (by decide) (fun q => absurd q (nI_pos (by omega))) (fun _ => ?_)
  refine zr_aloadn X 0 dX4_readOne_85 rfl ?_
  refine zr_bipush X (nI (42)) dX4_readOne_86 (by decide +kernel) ?_
  refine zr_dVi (C := RX4) (ci := 4) [.int (nI (42))] [] X (zK_ok A D tc tF tL tM) (d_rs_t E (upd (upd (upd (upd (upd (upd (upd (upd μ (2497) (nI (p1))) (i + 2560) (nI (a))) (2497) (nI (p1 + 1))) (2497) (nI (p3))) (i + 2568) (nI (b))) (2497) (nI (p3 + 1))) (2497) (nI (p5))) (i + 2576) (nI (v))) (fun z hz => ((pk_un (by omega)).trans ((pk_un (by omega)).trans ((pk_un (by omega)).trans ((pk_un (by omega)).trans ((pk_un (by omega)).trans ((pk_un (by omega)).trans ((pk_un (by omega)).trans ((pk_un (by omega)).trans (rfl))))))))).trans (hw z hz)) (p := p5) ((pk_un (by omega)).trans (pk_us)) (by omega) ((pk_un (by omega)).trans ((pk_un (by omega)).trans ((pk_un (by omega)).trans ((pk_un (by omega)).trans ((pk_un (by omega)).trans ((pk_un (by omega)).trans ((pk_un (by omega)).trans ((pk_un (by omega)).trans (hn))))))))) hn2 (c := 42) F5) k_410 k_411 k_412 k_6 k_413 hdX4_readSign ⟨rfl, rfl⟩ ⟨Nat.le_of_ble_eq_true rfl, Nat.le_of_ble_eq_true rfl⟩ (by omega) sc_293 rfl rfl rfl (Nat.le_of_ble_eq_true rfl) dX4_readOne_88 ?_
  refine zr_if_ne X 96 dX4_readOne_91 (by decide) (fun _ => ?_) (fun q => absurd q (nI_ne0 (by omega) (by omega)))
  refine zr_aloadn X 0 dX4_readOne_96 rfl ?_
  refine zr_get X (ci := 4) (q := 5) (zR _) (.ref (ad (298))) dX4_readOne_97 (by omega) sc_293 rfl inX4 (by decide) rfl (zvR rfl) rfl k_191 ?_
  refine zr_iloadn X 1 dX4_readOne_100 rfl ?_
  refine zr_aloadn X 0 dX4_readOne_101 rfl ?_
  refine zr_iconst X (nI (4)) dX4_readOne_102 (by decide +kernel) ?_
  refine zr_iconst X (nI (0)) dX4_readOne_103 (by decide +kernel) ?_
  refine zr_dVi (C := RX4) (ci := 4) [.int (nI (4)), .int (nI (0))] [.int (nI (i)), .ref (ad (298))] X (zK_ok A D tc tF tL tM) (d_rn4_f E (upd (upd (upd (upd (upd (upd (upd (upd (upd μ (2497) (nI (p1))) (i + 2560) (nI (a))) (2497) (nI (p1 + 1))) (2497) (nI (p3))) (i + 2568) (nI (b))) (2497) (nI (p3 + 1))) (2497) (nI (p5))) (i + 2576) (nI (v))) (2497) (nI (p5 + 1))) (fun z hz => ((pk_un (by omega)).trans ((pk_un (by omega)).trans ((pk_un (by omega)).trans ((pk_un (by omega)).trans ((pk_un (by omega)).trans ((pk_un (by omega)).trans ((pk_un (by omega)).trans ((pk_un (by omega)).trans ((pk_un (by omega)).trans (rfl)))))))))).trans (hw z hz)) (p := p5 + 1) (pk_us) (by omega) ((pk_un (by omega)).trans ((pk_un (by omega)).trans ((pk_un (by omega)).trans ((pk_un (by omega)).trans ((pk_un (by omega)).trans ((pk_un (by omega)).trans ((pk_un (by omega)).trans ((pk_un (by omega)).trans ((pk_un (by omega)).trans (hn)))))))))) hn2 F6) k_402 k_403 k_404 k_6 k_405 hdX4_readNumber ⟨rfl, rfl⟩ ⟨Nat.le_of_ble_eq_true rfl, Nat.le_of_ble_eq_true rfl⟩ (by omega) sc_293 rfl rfl rfl (Nat.le_of_ble_eq_true rfl) dX4_readOne_104 ?_
  refine zr_iast X (j := i) 0 (i + 2584) dX4_readOne_107 (by omega) sc_298 rfl rfl (by omega) (by omega) (by omega) ?_
  refine zr_aloadn X 0 dX4_readOne_108 rfl ?_
  refine zr_get X (ci := 4) (q := 5) (zR _) (.ref (ad (298))) dX4_readOne_109 (by omega) sc_293 rfl inX4 (by decide) rfl (zvR rfl) rfl k_191 ?_
  refine zr_iloadn X 1 dX4_readOne_112 rfl ?_
  refine zr_iald X (j := i) 0 (-5) dX4_readOne_113 (by omega) sc_298 rfl rfl (by omega) (by omega) (zcg (b := i + 2584) (by omega) (pk_us)) ?_
  refine zr_if_lt X 121 dX4_readOne_114 (by decide) (fun _ => ?_) (fun q => absurd (by decide) q)
  refine zr_iconst X (nI (0)) dX4_readOne_121 (by decide +kernel) ?_
  exact zr_zret X dX4_readOne_122 rfl ⟨rfl, ((pk_un (by omega)).trans (pk_us)), fun x hx1 hx2 hx3 hx4 hx5 => ((pk_un (by omega)).trans ((pk_un (by omega)).trans ((pk_un (by omega)).trans ((pk_un (by omega)).trans ((pk_un (by omega)).trans ((pk_un (by omega)).trans ((pk_un (by omega)).trans ((pk_un (by omega)).trans ((pk_un (by omega)).trans ((pk_un (by omega)).trans (rfl)))))))))))⟩

set_option maxHeartbeats 4000000 in
set_option maxRecDepth 100000 in
theorem d_one_7 {l : Launch} {D : va_G} {tc : Nat → ClassId} {ad : Nat → Nat} {A : Nat → Prop} {tF tL tM : Nat} (E : zN 299 A ad) (μ : Nat → Int32) {w : Nat → Int32} (hw : ∀ q, q < 60 → μ (q + 2500) = w q) {p : Nat} (hp : μ 2497 = nI p) (hp3 : p ≤ 64) {n : Nat} (hn : μ 2491 = nI n) (hn2 : n ≤ 60) {i : Nat} (hi : i < 8) {a p1 : Nat} (F0 : znum w n 1 (p)) (a0 : znv w n 1 (p) = a) (e0 : znq w n 1 (p) = p1) (F1 : zis w n 62 p1) {b p3 : Nat} (F2 : znum w n 1 (p1 + 1)) (a2 : znv w n 1 (p1 + 1) = b) (e2 : znq w n 1 (p1 + 1) = p3) (F3 : zis w n 58 p3) {v p5 : Nat} (F4 : znum w n 1 (p3 + 1)) (a4 : znv w n 2 (p3 + 1) = v) (e4 : znq w n 2 (p3 + 1) = p5) (F5 : zis w n 42 p5) {t p7 : Nat} (F6 : znum w n 0 (p5 + 1)) (a6 : znv w n 4 (p5 + 1) = t) (e6 : znq w n 4 (p5 + 1) = p7)  : zMi l yX4_readOne cX4_readOne 2 (some .boolean) (zrm 3) (zK A D tc tF tL tM) A D vwCl tc ad 299 shC [.ref (ad (293)), .int (nI (i))] μ (fun r u => r = nI 1 ∧ u 2497 = nI (p7) ∧ u (i + 2560) = nI a ∧ u (i + 2568) = nI b ∧ u (i + 2576) = nI v ∧ u (i + 2584) = nI t ∧ (∀ x, x ≠ 2497 → x ≠ i + 2560 → x ≠ i + 2568 → x ≠ i + 2576 → x ≠ i + 2584 → u x = μ x)) := by
  refine zM_of RX4 [(0, .ref (ad (293))), (1, .int (nI (i)))] (zK_ok A D tc tF tL tM) E.1 E.2 owC_ok (by decide +kernel) rfl (Nat.le_of_ble_eq_true rfl) rfl ?_
  intro pP eE sS mM aS bL mT cO X
  have l0 : p1 ≤ n := e0 ▸ znq_le F0
  have b0 : a < 10 ^ 1 := a0 ▸ znv_lt
  have l1 := F1.1
  have l2 : p3 ≤ n := e2 ▸ znq_le F2
  have b2 : b < 10 ^ 1 := a2 ▸ znv_lt
  have l3 := F3.1
  have l4 : p5 ≤ n := e4 ▸ znq_le F4
  have b4 : v < 10 ^ 2 := a4 ▸ znv_lt
  have l5 := F5.1
  have l6 : p7 ≤ n := e6 ▸ znq_le F6
  have b6 : t < 10 ^ 4 := a6 ▸ znv_lt
  refine zr_aloadn X 0 dX4_readOne_0 rfl ?_
  refine zr_get X (ci := 4) (q := 2) (zR _) (.ref (ad (295))) dX4_readOne_1 (by omega) sc_293 rfl inX4 (by decide) rfl (zvR rfl) rfl k_185 ?_
  refine zr_iloadn X 1 dX4_readOne_4 rfl ?_
  refine zr_aloadn X 0 dX4_readOne_5 rfl ?_
  refine zr_iconst X (nI (1)) dX4_readOne_6 (by decide +kernel) ?_
  refine zr_iconst X (nI (1)) dX4_readOne_7 (by decide +kernel) ?_
  refine zr_dVi (C := RX4) (ci := 4) [.int (nI (1)), .int (nI (1))] [.int (nI (i)), .ref (ad (295))] X (zK_ok A D tc tF tL tM) (d_rn1_t E μ hw (p := p) (hp) (by omega) (hn) hn2 F0 a0 e0) k_402 k_403 k_404 k_6 k_405 hdX4_readNumber ⟨rfl, rfl⟩ ⟨Nat.le_of_ble_eq_true rfl, Nat.le_of_ble_eq_true rfl⟩ (by omega) sc_293 rfl rfl rfl (Nat.le_of_ble_eq_true rfl) dX4_readOne_8 ?_
  refine zr_iast X (j := i) 0 (i + 2560) dX4_readOne_11 (by omega) sc_295 rfl rfl (by omega) (by omega) (by omega) ?_
  refine zr_aloadn X 0 dX4_readOne_12 rfl ?_
  refine zr_get X (ci := 4) (q := 2) (zR _) (.ref (ad (295))) dX4_readOne_13 (by omega) sc_293 rfl inX4 (by decide) rfl (zvR rfl) rfl k_185 ?_
  refine zr_iloadn X 1 dX4_readOne_16 rfl ?_
  refine zr_iald X (j := i) 0 (nI (a)) dX4_readOne_17 (by omega) sc_295 rfl rfl (by omega) (by omega) (zcg (b := i + 2560) (by omega) (pk_us)) ?_
  refine zr_if_lt X 30 dX4_readOne_18 (by decide) (fun q => absurd q (nI_pos (by omega))) (fun _ => ?_)
  refine zr_aloadn X 0 dX4_readOne_21 rfl ?_
  refine zr_bipush X (nI (62)) dX4_readOne_22 (by decide +kernel) ?_
  refine zr_dVi (C := RX4) (ci := 4) [.int (nI (62))] [] X (zK_ok A D tc tF tL tM) (d_rs_t E (upd (upd μ (2497) (nI (p1))) (i + 2560) (nI (a))) (fun z hz => ((pk_un (by omega)).trans ((pk_un (by omega)).trans (rfl))).trans (hw z hz)) (p := p1) ((pk_un (by omega)).trans (pk_us)) (by omega) ((pk_un (by omega)).trans ((pk_un (by omega)).trans (hn))) hn2 (c := 62) F1) k_410 k_411 k_412 k_6 k_413 hdX4_readSign ⟨rfl, rfl⟩ ⟨Nat.le_of_ble_eq_true rfl, Nat.le_of_ble_eq_true rfl⟩ (by omega) sc_293 rfl rfl rfl (Nat.le_of_ble_eq_true rfl) dX4_readOne_24 ?_
  refine zr_if_ne X 32 dX4_readOne_27 (by decide) (fun _ => ?_) (fun q => absurd q (nI_ne0 (by omega) (by omega)))
  refine zr_aloadn X 0 dX4_readOne_32 rfl ?_
  refine zr_get X (ci := 4) (q := 3) (zR _) (.ref (ad (296))) dX4_readOne_33 (by omega) sc_293 rfl inX4 (by decide) rfl (zvR rfl) rfl k_187 ?_
  refine zr_iloadn X 1 dX4_readOne_36 rfl ?_
  refine zr_aloadn X 0 dX4_readOne_37 rfl ?_
  refine zr_iconst X (nI (1)) dX4_readOne_38 (by decide +kernel) ?_
  refine zr_iconst X (nI (1)) dX4_readOne_39 (by decide +kernel) ?_
  refine zr_dVi (C := RX4) (ci := 4) [.int (nI (1)), .int (nI (1))] [.int (nI (i)), .ref (ad (296))] X (zK_ok A D tc tF tL tM) (d_rn1_t E (upd (upd (upd μ (2497) (nI (p1))) (i + 2560) (nI (a))) (2497) (nI (p1 + 1))) (fun z hz => ((pk_un (by omega)).trans ((pk_un (by omega)).trans ((pk_un (by omega)).trans (rfl)))).trans (hw z hz)) (p := p1 + 1) (pk_us) (by omega) ((pk_un (by omega)).trans ((pk_un (by omega)).trans ((pk_un (by omega)).trans (hn)))) hn2 F2 a2 e2) k_402 k_403 k_404 k_6 k_405 hdX4_readNumber ⟨rfl, rfl⟩ ⟨Nat.le_of_ble_eq_true rfl, Nat.le_of_ble_eq_true rfl⟩ (by omega) sc_293 rfl rfl rfl (Nat.le_of_ble_eq_true rfl) dX4_readOne_40 ?_
  refine zr_iast X (j := i) 0 (i + 2568) dX4_readOne_43 (by omega) sc_296 rfl rfl (by omega) (by omega) (by omega) ?_
  refine zr_aloadn X 0 dX4_readOne_44 rfl ?_
  refine zr_get X (ci := 4) (q := 3) (zR _) (.ref (ad (296))) dX4_readOne_45 (by omega) sc_293 rfl inX4 (by decide) rfl (zvR rfl) rfl k_187 ?_
  refine zr_iloadn X 1 dX4_readOne_48 rfl ?_
  refine zr_iald X (j := i) 0 (nI (b)) dX4_readOne_49 (by omega) sc_296 rfl rfl (by omega) (by omega) (zcg (b := i + 2568) (by omega) (pk_us)) ?_
  refine zr_if_lt X 62 dX4_readOne_50 (by decide) (fun q => absurd q (nI_pos (by omega))) (fun _ => ?_)
  refine zr_aloadn X 0 dX4_readOne_53 rfl ?_
  refine zr_bipush X (nI (58)) dX4_readOne_54 (by decide +kernel) ?_
  refine zr_dVi (C := RX4) (ci := 4) [.int (nI (58))] [] X (zK_ok A D tc tF tL tM) (d_rs_t E (upd (upd (upd (upd (upd μ (2497) (nI (p1))) (i + 2560) (nI (a))) (2497) (nI (p1 + 1))) (2497) (nI (p3))) (i + 2568) (nI (b))) (fun z hz => ((pk_un (by omega)).trans ((pk_un (by omega)).trans ((pk_un (by omega)).trans ((pk_un (by omega)).trans ((pk_un (by omega)).trans (rfl)))))).trans (hw z hz)) (p := p3) ((pk_un (by omega)).trans (pk_us)) (by omega) ((pk_un (by omega)).trans ((pk_un (by omega)).trans ((pk_un (by omega)).trans ((pk_un (by omega)).trans ((pk_un (by omega)).trans (hn)))))) hn2 (c := 58) F3) k_410 k_411 k_412 k_6 k_413 hdX4_readSign ⟨rfl, rfl⟩ ⟨Nat.le_of_ble_eq_true rfl, Nat.le_of_ble_eq_true rfl⟩ (by omega) sc_293 rfl rfl rfl (Nat.le_of_ble_eq_true rfl) dX4_readOne_56 ?_
  refine zr_if_ne X 64 dX4_readOne_59 (by decide) (fun _ => ?_) (fun q => absurd q (nI_ne0 (by omega) (by omega)))
  refine zr_aloadn X 0 dX4_readOne_64 rfl ?_
  refine zr_get X (ci := 4) (q := 4) (zR _) (.ref (ad (297))) dX4_readOne_65 (by omega) sc_293 rfl inX4 (by decide) rfl (zvR rfl) rfl k_189 ?_
  refine zr_iloadn X 1 dX4_readOne_68 rfl ?_
  refine zr_aloadn X 0 dX4_readOne_69 rfl ?_
  refine zr_iconst X (nI (2)) dX4_readOne_70 (by decide +kernel) ?_
  refine zr_iconst X (nI (1)) dX4_readOne_71 (by decide +kernel) ?_
  refine zr_dVi (C := RX4) (ci := 4) [.int (nI (2)), .int (nI (1))] [.int (nI (i)), .ref (ad (297))] X (zK_ok A D tc tF tL tM) (d_rn2_t E (upd (upd (upd (upd (upd (upd μ (2497) (nI (p1))) (i + 2560) (nI (a))) (2497) (nI (p1 + 1))) (2497) (nI (p3))) (i + 2568) (nI (b))) (2497) (nI (p3 + 1))) (fun z hz => ((pk_un (by omega)).trans ((pk_un (by omega)).trans ((pk_un (by omega)).trans ((pk_un (by omega)).trans ((pk_un (by omega)).trans ((pk_un (by omega)).trans (rfl))))))).trans (hw z hz)) (p := p3 + 1) (pk_us) (by omega) ((pk_un (by omega)).trans ((pk_un (by omega)).trans ((pk_un (by omega)).trans ((pk_un (by omega)).trans ((pk_un (by omega)).trans ((pk_un (by omega)).trans (hn))))))) hn2 F4 a4 e4) k_402 k_403 k_404 k_6 k_405 hdX4_readNumber ⟨rfl, rfl⟩ ⟨Nat.le_of_ble_eq_true rfl, Nat.le_of_ble_eq_true rfl⟩ (by omega) sc_293 rfl rfl rfl (Nat.le_of_ble_eq_true rfl) dX4_readOne_72 ?_
  refine zr_iast X (j := i) 0 (i + 2576) dX4_readOne_75 (by omega) sc_297 rfl rfl (by omega) (by omega) (by omega) ?_
  refine zr_aloadn X 0 dX4_readOne_76 rfl ?_
  refine zr_get X (ci := 4) (q := 4) (zR _) (.ref (ad (297))) dX4_readOne_77 (by omega) sc_293 rfl inX4 (by decide) rfl (zvR rfl) rfl k_189 ?_
  refine zr_iloadn X 1 dX4_readOne_80 rfl ?_
  refine zr_iald X (j := i) 0 (nI (v)) dX4_readOne_81 (by omega) sc_297 rfl rfl (by omega) (by omega) (zcg (b := i + 2576) (by omega) (pk_us)) ?_
  refine zr_if_lt X 94 dX4_readOne_82 (by decide) (fun q => absurd q (nI_pos (by omega))) (fun _ => ?_)
  refine zr_aloadn X 0 dX4_readOne_85 rfl ?_
  refine zr_bipush X (nI (42)) dX4_readOne_86 (by decide +kernel) ?_
  refine zr_dVi (C := RX4) (ci := 4) [.int (nI (42))] [] X (zK_ok A D tc tF tL tM) (d_rs_t E (upd (upd (upd (upd (upd (upd (upd (upd μ (2497) (nI (p1))) (i + 2560) (nI (a))) (2497) (nI (p1 + 1))) (2497) (nI (p3))) (i + 2568) (nI (b))) (2497) (nI (p3 + 1))) (2497) (nI (p5))) (i + 2576) (nI (v))) (fun z hz => ((pk_un (by omega)).trans ((pk_un (by omega)).trans ((pk_un (by omega)).trans ((pk_un (by omega)).trans ((pk_un (by omega)).trans ((pk_un (by omega)).trans ((pk_un (by omega)).trans ((pk_un (by omega)).trans (rfl))))))))).trans (hw z hz)) (p := p5) ((pk_un (by omega)).trans (pk_us)) (by omega) ((pk_un (by omega)).trans ((pk_un (by omega)).trans ((pk_un (by omega)).trans ((pk_un (by omega)).trans ((pk_un (by omega)).trans ((pk_un (by omega)).trans ((pk_un (by omega)).trans ((pk_un (by omega)).trans (hn))))))))) hn2 (c := 42) F5) k_410 k_411 k_412 k_6 k_413 hdX4_readSign ⟨rfl, rfl⟩ ⟨Nat.le_of_ble_eq_true rfl, Nat.le_of_ble_eq_true rfl⟩ (by omega) sc_293 rfl rfl rfl (Nat.le_of_ble_eq_true rfl) dX4_readOne_88 ?_
  refine zr_if_ne X 96 dX4_readOne_91 (by decide) (fun _ => ?_) (fun q => absurd q (nI_ne0 (by omega) (by omega)))
  refine zr_aloadn X 0 dX4_readOne_96 rfl ?_
  refine zr_get X (ci := 4) (q := 5) (zR _) (.ref (ad (298))) dX4_readOne_97 (by omega) sc_293 rfl inX4 (by decide) rfl (zvR rfl) rfl k_191 ?_
  refine zr_iloadn X 1 dX4_readOne_100 rfl ?_
  refine zr_aloadn X 0 dX4_readOne_101 rfl ?_
  refine zr_iconst X (nI (4)) dX4_readOne_102 (by decide +kernel) ?_
  refine zr_iconst X (nI (0)) dX4_readOne_103 (by decide +kernel) ?_
  refine zr_dVi (C := RX4) (ci := 4) [.int (nI (4)), .int (nI (0))] [.int (nI (i)), .ref (ad (298))] X (zK_ok A D tc tF tL tM) (d_rn4_t E (upd (upd (upd (upd (upd (upd (upd (upd (upd μ (2497) (nI (p1))) (i + 2560) (nI (a))) (2497) (nI (p1 + 1))) (2497) (nI (p3))) (i + 2568) (nI (b))) (2497) (nI (p3 + 1))) (2497) (nI (p5))) (i + 2576) (nI (v))) (2497) (nI (p5 + 1))) (fun z hz => ((pk_un (by omega)).trans ((pk_un (by omega)).trans ((pk_un (by omega)).trans ((pk_un (by omega)).trans ((pk_un (by omega)).trans ((pk_un (by omega)).trans ((pk_un (by omega)).trans ((pk_un (by omega)).trans ((pk_un (by omega)).trans (rfl)))))))))).trans (hw z hz)) (p := p5 + 1) (pk_us) (by omega) ((pk_un (by omega)).trans ((pk_un (by omega)).trans ((pk_un (by omega)).trans ((pk_un (by omega)).trans ((pk_un (by omega)).trans ((pk_un (by omega)).trans ((pk_un (by omega)).trans ((pk_un (by omega)).trans ((pk_un (by omega)).trans (hn)))))))))) hn2 F6 a6 e6) k_402 k_403 k_404 k_6 k_405 hdX4_readNumber ⟨rfl, rfl⟩ ⟨Nat.le_of_ble_eq_true rfl, Nat.le_of_ble_eq_true rfl⟩ (by omega) sc_293 rfl rfl rfl (Nat.le_of_ble_eq_true rfl) dX4_readOne_104 ?_
  refine zr_iast X (j := i) 0 (i + 2584) dX4_readOne_107 (by omega) sc_298 rfl rfl (by omega) (by omega) (by omega) ?_
  refine zr_aloadn X 0 dX4_readOne_108 rfl ?_
  refine zr_get X (ci := 4) (q := 5) (zR _) (.ref (ad (298))) dX4_readOne_109 (by omega) sc_293 rfl inX4 (by decide) rfl (zvR rfl) rfl k_191 ?_
  refine zr_iloadn X 1 dX4_readOne_112 rfl ?_
  refine zr_iald X (j := i) 0 (nI (t)) dX4_readOne_113 (by omega) sc_298 rfl rfl (by omega) (by omega) (zcg (b := i + 2584) (by omega) (pk_us)) ?_
  refine zr_if_lt X 121 dX4_readOne_114 (by decide) (fun q => absurd q (nI_pos (by omega))) (fun _ => ?_)
  refine zr_iconst X (nI (1)) dX4_readOne_117 (by decide +kernel) ?_
  refine zr_goto X 122 dX4_readOne_118 (by decide) ?_
  exact zr_zret X dX4_readOne_122 rfl ⟨rfl, ((pk_un (by omega)).trans (pk_us)), ((pk_un (by omega)).trans ((pk_un (by omega)).trans ((pk_un (by omega)).trans ((pk_un (by omega)).trans ((pk_un (by omega)).trans ((pk_un (by omega)).trans ((pk_un (by omega)).trans ((pk_un (by omega)).trans ((pk_un (by omega)).trans (pk_us)))))))))), ((pk_un (by omega)).trans ((pk_un (by omega)).trans ((pk_un (by omega)).trans ((pk_un (by omega)).trans ((pk_un (by omega)).trans ((pk_un (by omega)).trans (pk_us))))))), ((pk_un (by omega)).trans ((pk_un (by omega)).trans ((pk_un (by omega)).trans (pk_us)))), (pk_us), fun x hx1 hx2 hx3 hx4 hx5 => ((pk_un (by omega)).trans ((pk_un (by omega)).trans ((pk_un (by omega)).trans ((pk_un (by omega)).trans ((pk_un (by omega)).trans ((pk_un (by omega)).trans ((pk_un (by omega)).trans ((pk_un (by omega)).trans ((pk_un (by omega)).trans ((pk_un (by omega)).trans ((pk_un (by omega)).trans (rfl))))))))))))⟩

theorem d_one_T {l : Launch} {D : va_G} {tc : Nat → ClassId} {ad : Nat → Nat} {A : Nat → Prop} {tF tL tM : Nat} (E : zN 299 A ad) (μ : Nat → Int32) {w : Nat → Int32} (hw : ∀ q, q < 60 → μ (q + 2500) = w q) {p : Nat} (hp : μ 2497 = nI p) (hp3 : p ≤ 64) {n : Nat} (hn : μ 2491 = nI n) (hn2 : n ≤ 60) {i : Nat} (hi : i < 8) {q a b v t : Nat} (h : zsT w n p q a b v t) : zMi l yX4_readOne cX4_readOne 2 (some .boolean) (zrm 3) (zK A D tc tF tL tM) A D vwCl tc ad 299 shC [.ref (ad (293)), .int (nI (i))] μ (fun r u => r = nI 1 ∧ u 2497 = nI (q) ∧ u (i + 2560) = nI a ∧ u (i + 2568) = nI b ∧ u (i + 2576) = nI v ∧ u (i + 2584) = nI t ∧ (∀ x, x ≠ 2497 → x ≠ i + 2560 → x ≠ i + 2568 → x ≠ i + 2576 → x ≠ i + 2584 → u x = μ x)) := by
  obtain ⟨p1, p3, p5, F0, a0, e0, F1, F2, a2, e2, F3, F4, a4, e4, F5, F6, a6, e6⟩ := h
  exact d_one_7 E μ hw hp hp3 hn hn2 hi F0 a0 e0 F1 F2 a2 e2 F3 F4 a4 e4 F5 F6 a6 e6
theorem d_one_F {l : Launch} {D : va_G} {tc : Nat → ClassId} {ad : Nat → Nat} {A : Nat → Prop} {tF tL tM : Nat} (E : zN 299 A ad) (μ : Nat → Int32) {w : Nat → Int32} (hw : ∀ q, q < 60 → μ (q + 2500) = w q) {p : Nat} (hp : μ 2497 = nI p) (hp3 : p ≤ 64) {n : Nat} (hn : μ 2491 = nI n) (hn2 : n ≤ 60) {i : Nat} (hi : i < 8) {q : Nat} (h : zsF w n p q) : zMi l yX4_readOne cX4_readOne 2 (some .boolean) (zrm 3) (zK A D tc tF tL tM) A D vwCl tc ad 299 shC [.ref (ad (293)), .int (nI (i))] μ (fun r u => r = nI 0 ∧ u 2497 = nI (q) ∧ (∀ x, x ≠ 2497 → x ≠ i + 2560 → x ≠ i + 2568 → x ≠ i + 2576 → x ≠ i + 2584 → u x = μ x)) := by
  rcases h with ⟨F0, rfl⟩ | ⟨F0, F1, e0⟩ | ⟨p1, F0, e0, F1, F2, rfl⟩ | ⟨p1, F0, e0, F1, F2, e2, F3⟩ | ⟨p1, p3, F0, e0, F1, F2, e2, F3, F4, rfl⟩ | ⟨p1, p3, F0, e0, F1, F2, e2, F3, F4, e4, F5⟩ | ⟨p1, p3, p5, F0, e0, F1, F2, e2, F3, F4, e4, F5, F6, rfl⟩
  · exact d_one_0 E μ hw hp hp3 hn hn2 hi F0
  · exact d_one_1 E μ hw hp hp3 hn hn2 hi F0 rfl e0 F1
  · exact d_one_2 E μ hw hp hp3 hn hn2 hi F0 rfl e0 F1 F2
  · exact d_one_3 E μ hw hp hp3 hn hn2 hi F0 rfl e0 F1 F2 rfl e2 F3
  · exact d_one_4 E μ hw hp hp3 hn hn2 hi F0 rfl e0 F1 F2 rfl e2 F3 F4
  · exact d_one_5 E μ hw hp hp3 hn hn2 hi F0 rfl e0 F1 F2 rfl e2 F3 F4 rfl e4 F5
  · exact d_one_6 E μ hw hp hp3 hn hn2 hi F0 rfl e0 F1 F2 rfl e2 F3 F4 rfl e4 F5 F6
