/-- one transfer of the text: read from p to q; faulty at q -/
def zsT (w : Nat → Int32) (n p q a b v t : Nat) : Prop := ∃ p1 p3 p5, znum w n 1 p ∧ znv w n 1 p = a ∧ znq w n 1 p = p1 ∧ zis w n 62 p1 ∧ znum w n 1 (p1 + 1) ∧ znv w n 1 (p1 + 1) = b ∧ znq w n 1 (p1 + 1) = p3 ∧ zis w n 58 p3 ∧ znum w n 1 (p3 + 1) ∧ znv w n 2 (p3 + 1) = v ∧ znq w n 2 (p3 + 1) = p5 ∧ zis w n 42 p5 ∧ znum w n 0 (p5 + 1) ∧ znv w n 4 (p5 + 1) = t ∧ znq w n 4 (p5 + 1) = q
def zsF (w : Nat → Int32) (n p q : Nat) : Prop :=
  (¬ znum w n 1 p ∧ q = p) ∨
  (znum w n 1 p ∧ ¬ zis w n 62 q ∧ znq w n 1 p = q) ∨
  (∃ p1, znum w n 1 p ∧ znq w n 1 p = p1 ∧ zis w n 62 p1 ∧ ¬ znum w n 1 (p1 + 1) ∧ q = p1 + 1) ∨
  (∃ p1, znum w n 1 p ∧ znq w n 1 p = p1 ∧ zis w n 62 p1 ∧ znum w n 1 (p1 + 1) ∧ znq w n 1 (p1 + 1) = q ∧ ¬ zis w n 58 q) ∨
  (∃ p1 p3, znum w n 1 p ∧ znq w n 1 p = p1 ∧ zis w n 62 p1 ∧ znum w n 1 (p1 + 1) ∧ znq w n 1 (p1 + 1) = p3 ∧ zis w n 58 p3 ∧ ¬ znum w n 1 (p3 + 1) ∧ q = p3 + 1) ∨
  (∃ p1 p3, znum w n 1 p ∧ znq w n 1 p = p1 ∧ zis w n 62 p1 ∧ znum w n 1 (p1 + 1) ∧ znq w n 1 (p1 + 1) = p3 ∧ zis w n 58 p3 ∧ znum w n 1 (p3 + 1) ∧ znq w n 2 (p3 + 1) = q ∧ ¬ zis w n 42 q) ∨
  (∃ p1 p3 p5, znum w n 1 p ∧ znq w n 1 p = p1 ∧ zis w n 62 p1 ∧ znum w n 1 (p1 + 1) ∧ znq w n 1 (p1 + 1) = p3 ∧ zis w n 58 p3 ∧ znum w n 1 (p3 + 1) ∧ znq w n 2 (p3 + 1) = p5 ∧ zis w n 42 p5 ∧ ¬ znum w n 0 (p5 + 1) ∧ q = p5 + 1)
theorem zs_or (w : Nat → Int32) (n p : Nat) : (∃ q, zsF w n p q) ∨ ∃ q a b v t, zsT w n p q a b v t := by
  by_cases F0 : znum w n 1 p
  · by_cases F1 : zis w n 62 (znq w n 1 p)
    · by_cases F2 : znum w n 1 (znq w n 1 p + 1)
      · by_cases F3 : zis w n 58 (znq w n 1 (znq w n 1 p + 1))
        · by_cases F4 : znum w n 1 (znq w n 1 (znq w n 1 p + 1) + 1)
          · by_cases F5 : zis w n 42 (znq w n 2 (znq w n 1 (znq w n 1 p + 1) + 1))
            · by_cases F6 : znum w n 0 (znq w n 2 (znq w n 1 (znq w n 1 p + 1) + 1) + 1)
              · exact Or.inr ⟨_, _, _, _, _, _, _, _, F0, rfl, rfl, F1, F2, rfl, rfl, F3, F4, rfl, rfl, F5, F6, rfl, rfl⟩
              · exact Or.inl ⟨_, Or.inr (Or.inr (Or.inr (Or.inr (Or.inr (Or.inr ⟨_, _, _, F0, rfl, F1, F2, rfl, F3, F4, rfl, F5, F6, rfl⟩)))))⟩
            · exact Or.inl ⟨_, Or.inr (Or.inr (Or.inr (Or.inr (Or.inr (Or.inl ⟨_, _, F0, rfl, F1, F2, rfl, F3, F4, rfl, F5⟩)))))⟩
          · exact Or.inl ⟨_, Or.inr (Or.inr (Or.inr (Or.inr (Or.inl ⟨_, _, F0, rfl, F1, F2, rfl, F3, F4, rfl⟩))))⟩
        · exact Or.inl ⟨_, Or.inr (Or.inr (Or.inr (Or.inl ⟨_, F0, rfl, F1, F2, rfl, F3⟩)))⟩
      · exact Or.inl ⟨_, Or.inr (Or.inr (Or.inl ⟨_, F0, rfl, F1, F2, rfl⟩))⟩
    · exact Or.inl ⟨_, Or.inr (Or.inl ⟨F0, F1, rfl⟩)⟩
  · exact Or.inl ⟨_, Or.inl ⟨F0, rfl⟩⟩
theorem zsT_len {w : Nat → Int32} {n p q a b v t : Nat} (h : zsT w n p q a b v t) : p + 7 ≤ q ∧ q ≤ n := by
  obtain ⟨p1, p3, p5, F0, _, e1, F1, F2, _, e3, F3, F4, _, e5, F5, F6, _, e7⟩ := h
  have l1 := znq_gt (d := 0) F0
  have l3 := znq_gt (d := 0) F2
  have l5 := znq_gt (d := 1) F4
  have l7 := znq_gt (d := 3) F6
  have g7 := znq_le (d := 4) F6
  simp only [Nat.zero_add, Nat.reduceAdd] at l1 l3 l5 l7
  omega
theorem zsT_val {w : Nat → Int32} {n p q a b v t : Nat} (h : zsT w n p q a b v t) : a < 10 ∧ b < 10 ∧ v < 100 ∧ 1 ≤ t ∧ t ≤ 9999 := by
  obtain ⟨p1, p3, p5, F0, a0, e1, F1, F2, b0, e3, F3, F4, v0, e5, F5, F6, t0, e7⟩ := h
  have h1 : znv w n 1 p < 10 := znv_lt
  have h2 : znv w n 1 (p1 + 1) < 10 := znv_lt
  have h3 : znv w n 2 (p3 + 1) < 100 := znv_lt
  have h4 : znv w n 4 (p5 + 1) < 10000 := znv_lt
  have h5 := znv_pos (d := 3) F6
  simp only [Nat.reduceAdd] at h5
  omega
theorem zsF_le {w : Nat → Int32} {n p q : Nat} (h : zsF w n p q) (hp : p ≤ n) : q ≤ n := by
  rcases h with ⟨_, rfl⟩ | ⟨F, _, e⟩ | ⟨p1, _, _, F, _, e⟩ | ⟨p1, _, _, _, F, e, _⟩ | ⟨p1, p3, _, _, _, _, _, F, _, e⟩ | ⟨p1, p3, _, _, _, _, _, _, F, e, _⟩ | ⟨p1, p3, p5, _, _, _, _, _, _, _, _, F, _, e⟩
  · exact hp
  · exact e ▸ znq_le F
  · have := F.1; omega
  · exact e ▸ znq_le F
  · have := F.1; omega
  · exact e ▸ znq_le F
  · have := F.1; omega
set_option maxHeartbeats 4000000 in
set_option maxRecDepth 100000 in
theorem c_reads_0 {l : Launch} {D : va_G} {tc : Nat → ClassId} {ad : Nat → Nat} {A : Nat → Prop} {tF tL tM : Nat} (E : zN 6 A ad) (μ : Nat → Int32) {w : Nat → Int32} (hw : ∀ q, q < 60 → μ (q + 2460) = w q) {p : Nat} (hp : μ 2452 = nI p) (hp3 : p ≤ 64) {n : Nat} (hn : μ 2447 = nI n) (hn2 : n ≤ 60) (F0 : ¬ znum w n 1 (p))  : zMi l yX6_readsTransfer cX6_readsTransfer 1 (some .boolean) (zrm 3) (zK A D tc tF tL tM) A D vwCl tc ad 6 shR [.ref (ad (0))] μ (fun r u => r = nI 0 ∧ u 2452 = nI (p) ∧ (∀ x, x ≠ 2452 → (x < 2543 ∨ 2547 ≤ x) → u x = μ x)) := by
  refine zM_of RX6 [(0, .ref (ad (0)))] (zK_ok A D tc tF tL tM) E.1 E.2 owR_ok (by decide +kernel) rfl (Nat.le_of_ble_eq_true rfl) rfl ?_
  intro pP eE sS mM aS bL mT cO X
  refine zr_aloadn X 0 dX6_readsTransfer_0 rfl ?_
  refine zr_iconst X (nI (0)) dX6_readsTransfer_1 (by decide +kernel) ?_
  refine zr_iconst X (nI (1)) dX6_readsTransfer_2 (by decide +kernel) ?_
  refine zr_iconst X (nI (1)) dX6_readsTransfer_3 (by decide +kernel) ?_
  refine zr_dVi (C := RX6) (ci := 6) [.int (nI (0)), .int (nI (1)), .int (nI (1))] [] X (zK_ok A D tc tF tL tM) (c_number0_f E μ hw (p := p) (hp) (by omega) (hn) hn2 F0) k_711 k_713 kp_13 k_7 k_714 hdX6_number ⟨rfl, rfl⟩ ⟨Nat.le_of_ble_eq_true rfl, Nat.le_of_ble_eq_true rfl⟩ (by omega) rfl rfl rfl rfl (Nat.le_of_ble_eq_true rfl) dX6_readsTransfer_4 ?_
  refine zr_if_eq X 71 dX6_readsTransfer_7 (by decide) (fun _ => ?_) (fun q => absurd (zq_eq0 (by omega)) q)
  refine zr_iconst X (nI (0)) dX6_readsTransfer_71 (by decide +kernel) ?_
  exact zr_zret X dX6_readsTransfer_72 rfl ⟨rfl, (hp), fun x hx1 hx2 => (rfl)⟩

set_option maxHeartbeats 4000000 in
set_option maxRecDepth 100000 in
theorem c_reads_1 {l : Launch} {D : va_G} {tc : Nat → ClassId} {ad : Nat → Nat} {A : Nat → Prop} {tF tL tM : Nat} (E : zN 6 A ad) (μ : Nat → Int32) {w : Nat → Int32} (hw : ∀ q, q < 60 → μ (q + 2460) = w q) {p : Nat} (hp : μ 2452 = nI p) (hp3 : p ≤ 64) {n : Nat} (hn : μ 2447 = nI n) (hn2 : n ≤ 60) {a p1 : Nat} (F0 : znum w n 1 (p)) (a0 : znv w n 1 (p) = a) (e0 : znq w n 1 (p) = p1) (F1 : ¬ zis w n 62 p1)  : zMi l yX6_readsTransfer cX6_readsTransfer 1 (some .boolean) (zrm 3) (zK A D tc tF tL tM) A D vwCl tc ad 6 shR [.ref (ad (0))] μ (fun r u => r = nI 0 ∧ u 2452 = nI (p1) ∧ (∀ x, x ≠ 2452 → (x < 2543 ∨ 2547 ≤ x) → u x = μ x)) := by
  refine zM_of RX6 [(0, .ref (ad (0)))] (zK_ok A D tc tF tL tM) E.1 E.2 owR_ok (by decide +kernel) rfl (Nat.le_of_ble_eq_true rfl) rfl ?_
  intro pP eE sS mM aS bL mT cO X
  have l0 : p1 ≤ n := e0 ▸ znq_le F0
  refine zr_aloadn X 0 dX6_readsTransfer_0 rfl ?_
  refine zr_iconst X (nI (0)) dX6_readsTransfer_1 (by decide +kernel) ?_
  refine zr_iconst X (nI (1)) dX6_readsTransfer_2 (by decide +kernel) ?_
  refine zr_iconst X (nI (1)) dX6_readsTransfer_3 (by decide +kernel) ?_
  refine zr_dVi (C := RX6) (ci := 6) [.int (nI (0)), .int (nI (1)), .int (nI (1))] [] X (zK_ok A D tc tF tL tM) (c_number0_t E μ hw (p := p) (hp) (by omega) (hn) hn2 F0 a0 e0) k_711 k_713 kp_13 k_7 k_714 hdX6_number ⟨rfl, rfl⟩ ⟨Nat.le_of_ble_eq_true rfl, Nat.le_of_ble_eq_true rfl⟩ (by omega) rfl rfl rfl rfl (Nat.le_of_ble_eq_true rfl) dX6_readsTransfer_4 ?_
  refine zr_if_eq X 71 dX6_readsTransfer_7 (by decide) (fun q => absurd q (nI_ne0 (by omega) (by omega))) (fun _ => ?_)
  refine zr_aloadn X 0 dX6_readsTransfer_10 rfl ?_
  refine zr_bipush X (nI (62)) dX6_readsTransfer_11 (by decide +kernel) ?_
  refine zr_dVi (C := RX6) (ci := 6) [.int (nI (62))] [] X (zK_ok A D tc tF tL tM) (c_sign_f E (upd (upd μ (2543) (nI (a))) (2452) (nI (p1))) (fun z hz => ((pk_un (by omega)).trans ((pk_un (by omega)).trans (rfl))).trans (hw z hz)) (p := p1) (pk_us) (by omega) ((pk_un (by omega)).trans ((pk_un (by omega)).trans (hn))) hn2 (c := 62) (by omega) (by omega) F1) k_719 k_721 kp_15 k_7 k_722 hdX6_sign ⟨rfl, rfl⟩ ⟨Nat.le_of_ble_eq_true rfl, Nat.le_of_ble_eq_true rfl⟩ (by omega) rfl rfl rfl rfl (Nat.le_of_ble_eq_true rfl) dX6_readsTransfer_13 ?_
  refine zr_if_eq X 71 dX6_readsTransfer_16 (by decide) (fun _ => ?_) (fun q => absurd (zq_eq0 (by omega)) q)
  refine zr_iconst X (nI (0)) dX6_readsTransfer_71 (by decide +kernel) ?_
  exact zr_zret X dX6_readsTransfer_72 rfl ⟨rfl, (pk_us), fun x hx1 hx2 => ((pk_un (by omega)).trans ((pk_un (by omega)).trans (rfl)))⟩

set_option maxHeartbeats 4000000 in
set_option maxRecDepth 100000 in
theorem c_reads_2 {l : Launch} {D : va_G} {tc : Nat → ClassId} {ad : Nat → Nat} {A : Nat → Prop} {tF tL tM : Nat} (E : zN 6 A ad) (μ : Nat → Int32) {w : Nat → Int32} (hw : ∀ q, q < 60 → μ (q + 2460) = w q) {p : Nat} (hp : μ 2452 = nI p) (hp3 : p ≤ 64) {n : Nat} (hn : μ 2447 = nI n) (hn2 : n ≤ 60) {a p1 : Nat} (F0 : znum w n 1 (p)) (a0 : znv w n 1 (p) = a) (e0 : znq w n 1 (p) = p1) (F1 : zis w n 62 p1) (F2 : ¬ znum w n 1 (p1 + 1))  : zMi l yX6_readsTransfer cX6_readsTransfer 1 (some .boolean) (zrm 3) (zK A D tc tF tL tM) A D vwCl tc ad 6 shR [.ref (ad (0))] μ (fun r u => r = nI 0 ∧ u 2452 = nI (p1 + 1) ∧ (∀ x, x ≠ 2452 → (x < 2543 ∨ 2547 ≤ x) → u x = μ x)) := by
  refine zM_of RX6 [(0, .ref (ad (0)))] (zK_ok A D tc tF tL tM) E.1 E.2 owR_ok (by decide +kernel) rfl (Nat.le_of_ble_eq_true rfl) rfl ?_
  intro pP eE sS mM aS bL mT cO X
  have l0 : p1 ≤ n := e0 ▸ znq_le F0
  have l1 := F1.1
  refine zr_aloadn X 0 dX6_readsTransfer_0 rfl ?_
  refine zr_iconst X (nI (0)) dX6_readsTransfer_1 (by decide +kernel) ?_
  refine zr_iconst X (nI (1)) dX6_readsTransfer_2 (by decide +kernel) ?_
  refine zr_iconst X (nI (1)) dX6_readsTransfer_3 (by decide +kernel) ?_
  refine zr_dVi (C := RX6) (ci := 6) [.int (nI (0)), .int (nI (1)), .int (nI (1))] [] X (zK_ok A D tc tF tL tM) (c_number0_t E μ hw (p := p) (hp) (by omega) (hn) hn2 F0 a0 e0) k_711 k_713 kp_13 k_7 k_714 hdX6_number ⟨rfl, rfl⟩ ⟨Nat.le_of_ble_eq_true rfl, Nat.le_of_ble_eq_true rfl⟩ (by omega) rfl rfl rfl rfl (Nat.le_of_ble_eq_true rfl) dX6_readsTransfer_4 ?_
  refine zr_if_eq X 71 dX6_readsTransfer_7 (by decide) (fun q => absurd q (nI_ne0 (by omega) (by omega))) (fun _ => ?_)
  refine zr_aloadn X 0 dX6_readsTransfer_10 rfl ?_
  refine zr_bipush X (nI (62)) dX6_readsTransfer_11 (by decide +kernel) ?_
  refine zr_dVi (C := RX6) (ci := 6) [.int (nI (62))] [] X (zK_ok A D tc tF tL tM) (c_sign_t E (upd (upd μ (2543) (nI (a))) (2452) (nI (p1))) (fun z hz => ((pk_un (by omega)).trans ((pk_un (by omega)).trans (rfl))).trans (hw z hz)) (p := p1) (pk_us) (by omega) ((pk_un (by omega)).trans ((pk_un (by omega)).trans (hn))) hn2 (c := 62) (by omega) (by omega) F1) k_719 k_721 kp_15 k_7 k_722 hdX6_sign ⟨rfl, rfl⟩ ⟨Nat.le_of_ble_eq_true rfl, Nat.le_of_ble_eq_true rfl⟩ (by omega) rfl rfl rfl rfl (Nat.le_of_ble_eq_true rfl) dX6_readsTransfer_13 ?_
  refine zr_if_eq X 71 dX6_readsTransfer_16 (by decide) (fun q => absurd q (nI_ne0 (by omega) (by omega))) (fun _ => ?_)
  refine zr_aloadn X 0 dX6_readsTransfer_19 rfl ?_
  refine zr_iconst X (nI (1)) dX6_readsTransfer_20 (by decide +kernel) ?_
  refine zr_iconst X (nI (1)) dX6_readsTransfer_21 (by decide +kernel) ?_
  refine zr_iconst X (nI (1)) dX6_readsTransfer_22 (by decide +kernel) ?_
  refine zr_dVi (C := RX6) (ci := 6) [.int (nI (1)), .int (nI (1)), .int (nI (1))] [] X (zK_ok A D tc tF tL tM) (c_number1_f E (upd (upd (upd μ (2543) (nI (a))) (2452) (nI (p1))) (2452) (nI (p1 + 1))) (fun z hz => ((pk_un (by omega)).trans ((pk_un (by omega)).trans ((pk_un (by omega)).trans (rfl)))).trans (hw z hz)) (p := p1 + 1) (pk_us) (by omega) ((pk_un (by omega)).trans ((pk_un (by omega)).trans ((pk_un (by omega)).trans (hn)))) hn2 F2) k_711 k_713 kp_13 k_7 k_714 hdX6_number ⟨rfl, rfl⟩ ⟨Nat.le_of_ble_eq_true rfl, Nat.le_of_ble_eq_true rfl⟩ (by omega) rfl rfl rfl rfl (Nat.le_of_ble_eq_true rfl) dX6_readsTransfer_23 ?_
  refine zr_if_eq X 71 dX6_readsTransfer_26 (by decide) (fun _ => ?_) (fun q => absurd (zq_eq0 (by omega)) q)
  refine zr_iconst X (nI (0)) dX6_readsTransfer_71 (by decide +kernel) ?_
  exact zr_zret X dX6_readsTransfer_72 rfl ⟨rfl, (pk_us), fun x hx1 hx2 => ((pk_un (by omega)).trans ((pk_un (by omega)).trans ((pk_un (by omega)).trans (rfl))))⟩

set_option maxHeartbeats 4000000 in
set_option maxRecDepth 100000 in
theorem c_reads_3 {l : Launch} {D : va_G} {tc : Nat → ClassId} {ad : Nat → Nat} {A : Nat → Prop} {tF tL tM : Nat} (E : zN 6 A ad) (μ : Nat → Int32) {w : Nat → Int32} (hw : ∀ q, q < 60 → μ (q + 2460) = w q) {p : Nat} (hp : μ 2452 = nI p) (hp3 : p ≤ 64) {n : Nat} (hn : μ 2447 = nI n) (hn2 : n ≤ 60) {a p1 : Nat} (F0 : znum w n 1 (p)) (a0 : znv w n 1 (p) = a) (e0 : znq w n 1 (p) = p1) (F1 : zis w n 62 p1) {b p3 : Nat} (F2 : znum w n 1 (p1 + 1)) (a2 : znv w n 1 (p1 + 1) = b) (e2 : znq w n 1 (p1 + 1) = p3) (F3 : ¬ zis w n 58 p3)  : zMi l yX6_readsTransfer cX6_readsTransfer 1 (some .boolean) (zrm 3) (zK A D tc tF tL tM) A D vwCl tc ad 6 shR [.ref (ad (0))] μ (fun r u => r = nI 0 ∧ u 2452 = nI (p3) ∧ (∀ x, x ≠ 2452 → (x < 2543 ∨ 2547 ≤ x) → u x = μ x)) := by
  refine zM_of RX6 [(0, .ref (ad (0)))] (zK_ok A D tc tF tL tM) E.1 E.2 owR_ok (by decide +kernel) rfl (Nat.le_of_ble_eq_true rfl) rfl ?_
  intro pP eE sS mM aS bL mT cO X
  have l0 : p1 ≤ n := e0 ▸ znq_le F0
  have l1 := F1.1
  have l2 : p3 ≤ n := e2 ▸ znq_le F2
  refine zr_aloadn X 0 dX6_readsTransfer_0 rfl ?_
  refine zr_iconst X (nI (0)) dX6_readsTransfer_1 (by decide +kernel) ?_
  refine zr_iconst X (nI (1)) dX6_readsTransfer_2 (by decide +kernel) ?_
  refine zr_iconst X (nI (1)) dX6_readsTransfer_3 (by decide +kernel) ?_
  refine zr_dVi (C := RX6) (ci := 6) [.int (nI (0)), .int (nI (1)), .int (nI (1))] [] X (zK_ok A D tc tF tL tM) (c_number0_t E μ hw (p := p) (hp) (by omega) (hn) hn2 F0 a0 e0) k_711 k_713 kp_13 k_7 k_714 hdX6_number ⟨rfl, rfl⟩ ⟨Nat.le_of_ble_eq_true rfl, Nat.le_of_ble_eq_true rfl⟩ (by omega) rfl rfl rfl rfl (Nat.le_of_ble_eq_true rfl) dX6_readsTransfer_4 ?_
  refine zr_if_eq X 71 dX6_readsTransfer_7 (by decide) (fun q => absurd q (nI_ne0 (by omega) (by omega))) (fun _ => ?_)
  refine zr_aloadn X 0 dX6_readsTransfer_10 rfl ?_
  refine zr_bipush X (nI (62)) dX6_readsTransfer_11 (by decide +kernel) ?_
  refine zr_dVi (C := RX6) (ci := 6) [.int (nI (62))] [] X (zK_ok A D tc tF tL tM) (c_sign_t E (upd (upd μ (2543) (nI (a))) (2452) (nI (p1))) (fun z hz => ((pk_un (by omega)).trans ((pk_un (by omega)).trans (rfl))).trans (hw z hz)) (p := p1) (pk_us) (by omega) ((pk_un (by omega)).trans ((pk_un (by omega)).trans (hn))) hn2 (c := 62) (by omega) (by omega) F1) k_719 k_721 kp_15 k_7 k_722 hdX6_sign ⟨rfl, rfl⟩ ⟨Nat.le_of_ble_eq_true rfl, Nat.le_of_ble_eq_true rfl⟩ (by omega) rfl rfl rfl rfl (Nat.le_of_ble_eq_true rfl) dX6_readsTransfer_13 ?_
  refine zr_if_eq X 71 dX6_readsTransfer_16 (by decide) (fun q => absurd q (nI_ne0 (by omega) (by omega))) (fun _ => ?_)
  refine zr_aloadn X 0 dX6_readsTransfer_19 rfl ?_
  refine zr_iconst X (nI (1)) dX6_readsTransfer_20 (by decide +kernel) ?_
  refine zr_iconst X (nI (1)) dX6_readsTransfer_21 (by decide +kernel) ?_
  refine zr_iconst X (nI (1)) dX6_readsTransfer_22 (by decide +kernel) ?_
  refine zr_dVi (C := RX6) (ci := 6) [.int (nI (1)), .int (nI (1)), .int (nI (1))] [] X (zK_ok A D tc tF tL tM) (c_number1_t E (upd (upd (upd μ (2543) (nI (a))) (2452) (nI (p1))) (2452) (nI (p1 + 1))) (fun z hz => ((pk_un (by omega)).trans ((pk_un (by omega)).trans ((pk_un (by omega)).trans (rfl)))).trans (hw z hz)) (p := p1 + 1) (pk_us) (by omega) ((pk_un (by omega)).trans ((pk_un (by omega)).trans ((pk_un (by omega)).trans (hn)))) hn2 F2 a2 e2) k_711 k_713 kp_13 k_7 k_714 hdX6_number ⟨rfl, rfl⟩ ⟨Nat.le_of_ble_eq_true rfl, Nat.le_of_ble_eq_true rfl⟩ (by omega) rfl rfl rfl rfl (Nat.le_of_ble_eq_true rfl) dX6_readsTransfer_23 ?_
  refine zr_if_eq X 71 dX6_readsTransfer_26 (by decide) (fun q => absurd q (nI_ne0 (by omega) (by omega))) (fun _ => ?_)
  refine zr_aloadn X 0 dX6_readsTransfer_29 rfl ?_
  refine zr_bipush X (nI (58)) dX6_readsTransfer_30 (by decide +kernel) ?_
  refine zr_dVi (C := RX6) (ci := 6) [.int (nI (58))] [] X (zK_ok A D tc tF tL tM) (c_sign_f E (upd (upd (upd (upd (upd μ (2543) (nI (a))) (2452) (nI (p1))) (2452) (nI (p1 + 1))) (2544) (nI (b))) (2452) (nI (p3))) (fun z hz => ((pk_un (by omega)).trans ((pk_un (by omega)).trans ((pk_un (by omega)).trans ((pk_un (by omega)).trans ((pk_un (by omega)).trans (rfl)))))).trans (hw z hz)) (p := p3) (pk_us) (by omega) ((pk_un (by omega)).trans ((pk_un (by omega)).trans ((pk_un (by omega)).trans ((pk_un (by omega)).trans ((pk_un (by omega)).trans (hn)))))) hn2 (c := 58) (by omega) (by omega) F3) k_719 k_721 kp_15 k_7 k_722 hdX6_sign ⟨rfl, rfl⟩ ⟨Nat.le_of_ble_eq_true rfl, Nat.le_of_ble_eq_true rfl⟩ (by omega) rfl rfl rfl rfl (Nat.le_of_ble_eq_true rfl) dX6_readsTransfer_32 ?_
  refine zr_if_eq X 71 dX6_readsTransfer_35 (by decide) (fun _ => ?_) (fun q => absurd (zq_eq0 (by omega)) q)
  refine zr_iconst X (nI (0)) dX6_readsTransfer_71 (by decide +kernel) ?_
  exact zr_zret X dX6_readsTransfer_72 rfl ⟨rfl, (pk_us), fun x hx1 hx2 => ((pk_un (by omega)).trans ((pk_un (by omega)).trans ((pk_un (by omega)).trans ((pk_un (by omega)).trans ((pk_un (by omega)).trans (rfl))))))⟩

set_option maxHeartbeats 4000000 in
set_option maxRecDepth 100000 in
theorem c_reads_4 {l : Launch} {D : va_G} {tc : Nat → ClassId} {ad : Nat → Nat} {A : Nat → Prop} {tF tL tM : Nat} (E : zN 6 A ad) (μ : Nat → Int32) {w : Nat → Int32} (hw : ∀ q, q < 60 → μ (q + 2460) = w q) {p : Nat} (hp : μ 2452 = nI p) (hp3 : p ≤ 64) {n : Nat} (hn : μ 2447 = nI n) (hn2 : n ≤ 60) {a p1 : Nat} (F0 : znum w n 1 (p)) (a0 : znv w n 1 (p) = a) (e0 : znq w n 1 (p) = p1) (F1 : zis w n 62 p1) {b p3 : Nat} (F2 : znum w n 1 (p1 + 1)) (a2 : znv w n 1 (p1 + 1) = b) (e2 : znq w n 1 (p1 + 1) = p3) (F3 : zis w n 58 p3) (F4 : ¬ znum w n 1 (p3 + 1))  : zMi l yX6_readsTransfer cX6_readsTransfer 1 (some .boolean) (zrm 3) (zK A D tc tF tL tM) A D vwCl tc ad 6 shR [.ref (ad (0))] μ (fun r u => r = nI 0 ∧ u 2452 = nI (p3 + 1) ∧ (∀ x, x ≠ 2452 → (x < 2543 ∨ 2547 ≤ x) → u x = μ x)) := by
  refine zM_of RX6 [(0, .ref (ad (0)))] (zK_ok A D tc tF tL tM) E.1 E.2 owR_ok (by decide +kernel) rfl (Nat.le_of_ble_eq_true rfl) rfl ?_
  intro pP eE sS mM aS bL mT cO X
  have l0 : p1 ≤ n := e0 ▸ znq_le F0
  have l1 := F1.1
  have l2 : p3 ≤ n := e2 ▸ znq_le F2
  have l3 := F3.1
  refine zr_aloadn X 0 dX6_readsTransfer_0 rfl ?_
  refine zr_iconst X (nI (0)) dX6_readsTransfer_1 (by decide +kernel) ?_
  refine zr_iconst X (nI (1)) dX6_readsTransfer_2 (by decide +kernel) ?_
  refine zr_iconst X (nI (1)) dX6_readsTransfer_3 (by decide +kernel) ?_
  refine zr_dVi (C := RX6) (ci := 6) [.int (nI (0)), .int (nI (1)), .int (nI (1))] [] X (zK_ok A D tc tF tL tM) (c_number0_t E μ hw (p := p) (hp) (by omega) (hn) hn2 F0 a0 e0) k_711 k_713 kp_13 k_7 k_714 hdX6_number ⟨rfl, rfl⟩ ⟨Nat.le_of_ble_eq_true rfl, Nat.le_of_ble_eq_true rfl⟩ (by omega) rfl rfl rfl rfl (Nat.le_of_ble_eq_true rfl) dX6_readsTransfer_4 ?_
  refine zr_if_eq X 71 dX6_readsTransfer_7 (by decide) (fun q => absurd q (nI_ne0 (by omega) (by omega))) (fun _ => ?_)
  refine zr_aloadn X 0 dX6_readsTransfer_10 rfl ?_
  refine zr_bipush X (nI (62)) dX6_readsTransfer_11 (by decide +kernel) ?_
  refine zr_dVi (C := RX6) (ci := 6) [.int (nI (62))] [] X (zK_ok A D tc tF tL tM) (c_sign_t E (upd (upd μ (2543) (nI (a))) (2452) (nI (p1))) (fun z hz => ((pk_un (by omega)).trans ((pk_un (by omega)).trans (rfl))).trans (hw z hz)) (p := p1) (pk_us) (by omega) ((pk_un (by omega)).trans ((pk_un (by omega)).trans (hn))) hn2 (c := 62) (by omega) (by omega) F1) k_719 k_721 kp_15 k_7 k_722 hdX6_sign ⟨rfl, rfl⟩ ⟨Nat.le_of_ble_eq_true rfl, Nat.le_of_ble_eq_true rfl⟩ (by omega) rfl rfl rfl rfl (Nat.le_of_ble_eq_true rfl) dX6_readsTransfer_13 ?_
  refine zr_if_eq X 71 dX6_readsTransfer_16 (by decide) (fun q => absurd q (nI_ne0 (by omega) (by omega))) (fun _ => ?_)
  refine zr_aloadn X 0 dX6_readsTransfer_19 rfl ?_
  refine zr_iconst X (nI (1)) dX6_readsTransfer_20 (by decide +kernel) ?_
  refine zr_iconst X (nI (1)) dX6_readsTransfer_21 (by decide +kernel) ?_
  refine zr_iconst X (nI (1)) dX6_readsTransfer_22 (by decide +kernel) ?_
  refine zr_dVi (C := RX6) (ci := 6) [.int (nI (1)), .int (nI (1)), .int (nI (1))] [] X (zK_ok A D tc tF tL tM) (c_number1_t E (upd (upd (upd μ (2543) (nI (a))) (2452) (nI (p1))) (2452) (nI (p1 + 1))) (fun z hz => ((pk_un (by omega)).trans ((pk_un (by omega)).trans ((pk_un (by omega)).trans (rfl)))).trans (hw z hz)) (p := p1 + 1) (pk_us) (by omega) ((pk_un (by omega)).trans ((pk_un (by omega)).trans ((pk_un (by omega)).trans (hn)))) hn2 F2 a2 e2) k_711 k_713 kp_13 k_7 k_714 hdX6_number ⟨rfl, rfl⟩ ⟨Nat.le_of_ble_eq_true rfl, Nat.le_of_ble_eq_true rfl⟩ (by omega) rfl rfl rfl rfl (Nat.le_of_ble_eq_true rfl) dX6_readsTransfer_23 ?_
  refine zr_if_eq X 71 dX6_readsTransfer_26 (by decide) (fun q => absurd q (nI_ne0 (by omega) (by omega))) (fun _ => ?_)
  refine zr_aloadn X 0 dX6_readsTransfer_29 rfl ?_
  refine zr_bipush X (nI (58)) dX6_readsTransfer_30 (by decide +kernel) ?_
  refine zr_dVi (C := RX6) (ci := 6) [.int (nI (58))] [] X (zK_ok A D tc tF tL tM) (c_sign_t E (upd (upd (upd (upd (upd μ (2543) (nI (a))) (2452) (nI (p1))) (2452) (nI (p1 + 1))) (2544) (nI (b))) (2452) (nI (p3))) (fun z hz => ((pk_un (by omega)).trans ((pk_un (by omega)).trans ((pk_un (by omega)).trans ((pk_un (by omega)).trans ((pk_un (by omega)).trans (rfl)))))).trans (hw z hz)) (p := p3) (pk_us) (by omega) ((pk_un (by omega)).trans ((pk_un (by omega)).trans ((pk_un (by omega)).trans ((pk_un (by omega)).trans ((pk_un (by omega)).trans (hn)))))) hn2 (c := 58) (by omega) (by omega) F3) k_719 k_721 kp_15 k_7 k_722 hdX6_sign ⟨rfl, rfl⟩ ⟨Nat.le_of_ble_eq_true rfl, Nat.le_of_ble_eq_true rfl⟩ (by omega) rfl rfl rfl rfl (Nat.le_of_ble_eq_true rfl) dX6_readsTransfer_32 ?_
  refine zr_if_eq X 71 dX6_readsTransfer_35 (by decide) (fun q => absurd q (nI_ne0 (by omega) (by omega))) (fun _ => ?_)
  refine zr_aloadn X 0 dX6_readsTransfer_38 rfl ?_
  refine zr_iconst X (nI (2)) dX6_readsTransfer_39 (by decide +kernel) ?_
  refine zr_iconst X (nI (2)) dX6_readsTransfer_40 (by decide +kernel) ?_
  refine zr_iconst X (nI (1)) dX6_readsTransfer_41 (by decide +kernel) ?_
  refine zr_dVi (C := RX6) (ci := 6) [.int (nI (2)), .int (nI (2)), .int (nI (1))] [] X (zK_ok A D tc tF tL tM) (c_number2_f E (upd (upd (upd (upd (upd (upd μ (2543) (nI (a))) (2452) (nI (p1))) (2452) (nI (p1 + 1))) (2544) (nI (b))) (2452) (nI (p3))) (2452) (nI (p3 + 1))) (fun z hz => ((pk_un (by omega)).trans ((pk_un (by omega)).trans ((pk_un (by omega)).trans ((pk_un (by omega)).trans ((pk_un (by omega)).trans ((pk_un (by omega)).trans (rfl))))))).trans (hw z hz)) (p := p3 + 1) (pk_us) (by omega) ((pk_un (by omega)).trans ((pk_un (by omega)).trans ((pk_un (by omega)).trans ((pk_un (by omega)).trans ((pk_un (by omega)).trans ((pk_un (by omega)).trans (hn))))))) hn2 F4) k_711 k_713 kp_13 k_7 k_714 hdX6_number ⟨rfl, rfl⟩ ⟨Nat.le_of_ble_eq_true rfl, Nat.le_of_ble_eq_true rfl⟩ (by omega) rfl rfl rfl rfl (Nat.le_of_ble_eq_true rfl) dX6_readsTransfer_42 ?_
  refine zr_if_eq X 71 dX6_readsTransfer_45 (by decide) (fun _ => ?_) (fun q => absurd (zq_eq0 (by omega)) q)
  refine zr_iconst X (nI (0)) dX6_readsTransfer_71 (by decide +kernel) ?_
  exact zr_zret X dX6_readsTransfer_72 rfl ⟨rfl, (pk_us), fun x hx1 hx2 => ((pk_un (by omega)).trans ((pk_un (by omega)).trans ((pk_un (by omega)).trans ((pk_un (by omega)).trans ((pk_un (by omega)).trans ((pk_un (by omega)).trans (rfl)))))))⟩

set_option maxHeartbeats 4000000 in
set_option maxRecDepth 100000 in
theorem c_reads_5 {l : Launch} {D : va_G} {tc : Nat → ClassId} {ad : Nat → Nat} {A : Nat → Prop} {tF tL tM : Nat} (E : zN 6 A ad) (μ : Nat → Int32) {w : Nat → Int32} (hw : ∀ q, q < 60 → μ (q + 2460) = w q) {p : Nat} (hp : μ 2452 = nI p) (hp3 : p ≤ 64) {n : Nat} (hn : μ 2447 = nI n) (hn2 : n ≤ 60) {a p1 : Nat} (F0 : znum w n 1 (p)) (a0 : znv w n 1 (p) = a) (e0 : znq w n 1 (p) = p1) (F1 : zis w n 62 p1) {b p3 : Nat} (F2 : znum w n 1 (p1 + 1)) (a2 : znv w n 1 (p1 + 1) = b) (e2 : znq w n 1 (p1 + 1) = p3) (F3 : zis w n 58 p3) {v p5 : Nat} (F4 : znum w n 1 (p3 + 1)) (a4 : znv w n 2 (p3 + 1) = v) (e4 : znq w n 2 (p3 + 1) = p5) (F5 : ¬ zis w n 42 p5)  : zMi l yX6_readsTransfer cX6_readsTransfer 1 (some .boolean) (zrm 3) (zK A D tc tF tL tM) A D vwCl tc ad 6 shR [.ref (ad (0))] μ (fun r u => r = nI 0 ∧ u 2452 = nI (p5) ∧ (∀ x, x ≠ 2452 → (x < 2543 ∨ 2547 ≤ x) → u x = μ x)) := by
  refine zM_of RX6 [(0, .ref (ad (0)))] (zK_ok A D tc tF tL tM) E.1 E.2 owR_ok (by decide +kernel) rfl (Nat.le_of_ble_eq_true rfl) rfl ?_
  intro pP eE sS mM aS bL mT cO X
  have l0 : p1 ≤ n := e0 ▸ znq_le F0
  have l1 := F1.1
  have l2 : p3 ≤ n := e2 ▸ znq_le F2
  have l3 := F3.1
  have l4 : p5 ≤ n := e4 ▸ znq_le F4
  refine zr_aloadn X 0 dX6_readsTransfer_0 rfl ?_
  refine zr_iconst X (nI (0)) dX6_readsTransfer_1 (by decide +kernel) ?_
  refine zr_iconst X (nI (1)) dX6_readsTransfer_2 (by decide +kernel) ?_
  refine zr_iconst X (nI (1)) dX6_readsTransfer_3 (by decide +kernel) ?_
  refine zr_dVi (C := RX6) (ci := 6) [.int (nI (0)), .int (nI (1)), .int (nI (1))] [] X (zK_ok A D tc tF tL tM) (c_number0_t E μ hw (p := p) (hp) (by omega) (hn) hn2 F0 a0 e0) k_711 k_713 kp_13 k_7 k_714 hdX6_number ⟨rfl, rfl⟩ ⟨Nat.le_of_ble_eq_true rfl, Nat.le_of_ble_eq_true rfl⟩ (by omega) rfl rfl rfl rfl (Nat.le_of_ble_eq_true rfl) dX6_readsTransfer_4 ?_
  refine zr_if_eq X 71 dX6_readsTransfer_7 (by decide) (fun q => absurd q (nI_ne0 (by omega) (by omega))) (fun _ => ?_)
  refine zr_aloadn X 0 dX6_readsTransfer_10 rfl ?_
  refine zr_bipush X (nI (62)) dX6_readsTransfer_11 (by decide +kernel) ?_
  refine zr_dVi (C := RX6) (ci := 6) [.int (nI (62))] [] X (zK_ok A D tc tF tL tM) (c_sign_t E (upd (upd μ (2543) (nI (a))) (2452) (nI (p1))) (fun z hz => ((pk_un (by omega)).trans ((pk_un (by omega)).trans (rfl))).trans (hw z hz)) (p := p1) (pk_us) (by omega) ((pk_un (by omega)).trans ((pk_un (by omega)).trans (hn))) hn2 (c := 62) (by omega) (by omega) F1) k_719 k_721 kp_15 k_7 k_722 hdX6_sign ⟨rfl, rfl⟩ ⟨Nat.le_of_ble_eq_true rfl, Nat.le_of_ble_eq_true rfl⟩ (by omega) rfl rfl rfl rfl (Nat.le_of_ble_eq_true rfl) dX6_readsTransfer_13 ?_
  refine zr_if_eq X 71 dX6_readsTransfer_16 (by decide) (fun q => absurd q (nI_ne0 (by omega) (by omega))) (fun _ => ?_)
  refine zr_aloadn X 0 dX6_readsTransfer_19 rfl ?_
  refine zr_iconst X (nI (1)) dX6_readsTransfer_20 (by decide +kernel) ?_
  refine zr_iconst X (nI (1)) dX6_readsTransfer_21 (by decide +kernel) ?_
  refine zr_iconst X (nI (1)) dX6_readsTransfer_22 (by decide +kernel) ?_
  refine zr_dVi (C := RX6) (ci := 6) [.int (nI (1)), .int (nI (1)), .int (nI (1))] [] X (zK_ok A D tc tF tL tM) (c_number1_t E (upd (upd (upd μ (2543) (nI (a))) (2452) (nI (p1))) (2452) (nI (p1 + 1))) (fun z hz => ((pk_un (by omega)).trans ((pk_un (by omega)).trans ((pk_un (by omega)).trans (rfl)))).trans (hw z hz)) (p := p1 + 1) (pk_us) (by omega) ((pk_un (by omega)).trans ((pk_un (by omega)).trans ((pk_un (by omega)).trans (hn)))) hn2 F2 a2 e2) k_711 k_713 kp_13 k_7 k_714 hdX6_number ⟨rfl, rfl⟩ ⟨Nat.le_of_ble_eq_true rfl, Nat.le_of_ble_eq_true rfl⟩ (by omega) rfl rfl rfl rfl (Nat.le_of_ble_eq_true rfl) dX6_readsTransfer_23 ?_
  refine zr_if_eq X 71 dX6_readsTransfer_26 (by decide) (fun q => absurd q (nI_ne0 (by omega) (by omega))) (fun _ => ?_)
  refine zr_aloadn X 0 dX6_readsTransfer_29 rfl ?_
  refine zr_bipush X (nI (58)) dX6_readsTransfer_30 (by decide +kernel) ?_
  refine zr_dVi (C := RX6) (ci := 6) [.int (nI (58))] [] X (zK_ok A D tc tF tL tM) (c_sign_t E (upd (upd (upd (upd (upd μ (2543) (nI (a))) (2452) (nI (p1))) (2452) (nI (p1 + 1))) (2544) (nI (b))) (2452) (nI (p3))) (fun z hz => ((pk_un (by omega)).trans ((pk_un (by omega)).trans ((pk_un (by omega)).trans ((pk_un (by omega)).trans ((pk_un (by omega)).trans (rfl)))))).trans (hw z hz)) (p := p3) (pk_us) (by omega) ((pk_un (by omega)).trans ((pk_un (by omega)).trans ((pk_un (by omega)).trans ((pk_un (by omega)).trans ((pk_un (by omega)).trans (hn)))))) hn2 (c := 58) (by omega) (by omega) F3) k_719 k_721 kp_15 k_7 k_722 hdX6_sign ⟨rfl, rfl⟩ ⟨Nat.le_of_ble_eq_true rfl, Nat.le_of_ble_eq_true rfl⟩ (by omega) rfl rfl rfl rfl (Nat.le_of_ble_eq_true rfl) dX6_readsTransfer_32 ?_
  refine zr_if_eq X 71 dX6_readsTransfer_35 (by decide) (fun q => absurd q (nI_ne0 (by omega) (by omega))) (fun _ => ?_)
  refine zr_aloadn X 0 dX6_readsTransfer_38 rfl ?_
  refine zr_iconst X (nI (2)) dX6_readsTransfer_39 (by decide +kernel) ?_
  refine zr_iconst X (nI (2)) dX6_readsTransfer_40 (by decide +kernel) ?_
  refine zr_iconst X (nI (1)) dX6_readsTransfer_41 (by decide +kernel) ?_
  refine zr_dVi (C := RX6) (ci := 6) [.int (nI (2)), .int (nI (2)), .int (nI (1))] [] X (zK_ok A D tc tF tL tM) (c_number2_t E (upd (upd (upd (upd (upd (upd μ (2543) (nI (a))) (2452) (nI (p1))) (2452) (nI (p1 + 1))) (2544) (nI (b))) (2452) (nI (p3))) (2452) (nI (p3 + 1))) (fun z hz => ((pk_un (by omega)).trans ((pk_un (by omega)).trans ((pk_un (by omega)).trans ((pk_un (by omega)).trans ((pk_un (by omega)).trans ((pk_un (by omega)).trans (rfl))))))).trans (hw z hz)) (p := p3 + 1) (pk_us) (by omega) ((pk_un (by omega)).trans ((pk_un (by omega)).trans ((pk_un (by omega)).trans ((pk_un (by omega)).trans ((pk_un (by omega)).trans ((pk_un (by omega)).trans (hn))))))) hn2 F4 a4 e4) k_711 k_713 kp_13 k_7 k_714 hdX6_number ⟨rfl, rfl⟩ ⟨Nat.le_of_ble_eq_true rfl, Nat.le_of_ble_eq_true rfl⟩ (by omega) rfl rfl rfl rfl (Nat.le_of_ble_eq_true rfl) dX6_readsTransfer_42 ?_
  refine zr_if_eq X 71 dX6_readsTransfer_45 (by decide) (fun q => absurd q (nI_ne0 (by omega) (by omega))) (fun _ => ?_)
  refine zr_aloadn X 0 dX6_readsTransfer_48 rfl ?_
  refine zr_bipush X (nI (42)) dX6_readsTransfer_49 (by decide +kernel) ?_
  refine zr_dVi (C := RX6) (ci := 6) [.int (nI (42))] [] X (zK_ok A D tc tF tL tM) (c_sign_f E (upd (upd (upd (upd (upd (upd (upd (upd μ (2543) (nI (a))) (2452) (nI (p1))) (2452) (nI (p1 + 1))) (2544) (nI (b))) (2452) (nI (p3))) (2452) (nI (p3 + 1))) (2545) (nI (v))) (2452) (nI (p5))) (fun z hz => ((pk_un (by omega)).trans ((pk_un (by omega)).trans ((pk_un (by omega)).trans ((pk_un (by omega)).trans ((pk_un (by omega)).trans ((pk_un (by omega)).trans ((pk_un (by omega)).trans ((pk_un (by omega)).trans (rfl))))))))).trans (hw z hz)) (p := p5) (pk_us) (by omega) ((pk_un (by omega)).trans ((pk_un (by omega)).trans ((pk_un (by omega)).trans ((pk_un (by omega)).trans ((pk_un (by omega)).trans ((pk_un (by omega)).trans ((pk_un (by omega)).trans ((pk_un (by omega)).trans (hn))))))))) hn2 (c := 42) (by omega) (by omega) F5) k_719 k_721 kp_15 k_7 k_722 hdX6_sign ⟨rfl, rfl⟩ ⟨Nat.le_of_ble_eq_true rfl, Nat.le_of_ble_eq_true rfl⟩ (by omega) rfl rfl rfl rfl (Nat.le_of_ble_eq_true rfl) dX6_readsTransfer_51 ?_
  refine zr_if_eq X 71 dX6_readsTransfer_54 (by decide) (fun _ => ?_) (fun q => absurd (zq_eq0 (by omega)) q)
  refine zr_iconst X (nI (0)) dX6_readsTransfer_71 (by decide +kernel) ?_
  exact zr_zret X dX6_readsTransfer_72 rfl ⟨rfl, (pk_us), fun x hx1 hx2 => ((pk_un (by omega)).trans ((pk_un (by omega)).trans ((pk_un (by omega)).trans ((pk_un (by omega)).trans ((pk_un (by omega)).trans ((pk_un (by omega)).trans ((pk_un (by omega)).trans ((pk_un (by omega)).trans (rfl)))))))))⟩

set_option maxHeartbeats 4000000 in
set_option maxRecDepth 100000 in
theorem c_reads_6 {l : Launch} {D : va_G} {tc : Nat → ClassId} {ad : Nat → Nat} {A : Nat → Prop} {tF tL tM : Nat} (E : zN 6 A ad) (μ : Nat → Int32) {w : Nat → Int32} (hw : ∀ q, q < 60 → μ (q + 2460) = w q) {p : Nat} (hp : μ 2452 = nI p) (hp3 : p ≤ 64) {n : Nat} (hn : μ 2447 = nI n) (hn2 : n ≤ 60) {a p1 : Nat} (F0 : znum w n 1 (p)) (a0 : znv w n 1 (p) = a) (e0 : znq w n 1 (p) = p1) (F1 : zis w n 62 p1) {b p3 : Nat} (F2 : znum w n 1 (p1 + 1)) (a2 : znv w n 1 (p1 + 1) = b) (e2 : znq w n 1 (p1 + 1) = p3) (F3 : zis w n 58 p3) {v p5 : Nat} (F4 : znum w n 1 (p3 + 1)) (a4 : znv w n 2 (p3 + 1) = v) (e4 : znq w n 2 (p3 + 1) = p5) (F5 : zis w n 42 p5) (F6 : ¬ znum w n 0 (p5 + 1))  : zMi l yX6_readsTransfer cX6_readsTransfer 1 (some .boolean) (zrm 3) (zK A D tc tF tL tM) A D vwCl tc ad 6 shR [.ref (ad (0))] μ (fun r u => r = nI 0 ∧ u 2452 = nI (p5 + 1) ∧ (∀ x, x ≠ 2452 → (x < 2543 ∨ 2547 ≤ x) → u x = μ x)) := by
  refine zM_of RX6 [(0, .ref (ad (0)))] (zK_ok A D tc tF tL tM) E.1 E.2 owR_ok (by decide +kernel) rfl (Nat.le_of_ble_eq_true rfl) rfl ?_
  intro pP eE sS mM aS bL mT cO X
  have l0 : p1 ≤ n := e0 ▸ znq_le F0
  have l1 := F1.1
  have l2 : p3 ≤ n := e2 ▸ znq_le F2
  have l3 := F3.1
  have l4 : p5 ≤ n := e4 ▸ znq_le F4
  have l5 := F5.1
  refine zr_aloadn X 0 dX6_readsTransfer_0 rfl ?_
  refine zr_iconst X (nI (0)) dX6_readsTransfer_1 (by decide +kernel) ?_
  refine zr_iconst X (nI (1)) dX6_readsTransfer_2 (by decide +kernel) ?_
  refine zr_iconst X (nI (1)) dX6_readsTransfer_3 (by decide +kernel) ?_
  refine zr_dVi (C := RX6) (ci := 6) [.int (nI (0)), .int (nI (1)), .int (nI (1))] [] X (zK_ok A D tc tF tL tM) (c_number0_t E μ hw (p := p) (hp) (by omega) (hn) hn2 F0 a0 e0) k_711 k_713 kp_13 k_7 k_714 hdX6_number ⟨rfl, rfl⟩ ⟨Nat.le_of_ble_eq_true rfl, Nat.le_of_ble_eq_true rfl⟩ (by omega) rfl rfl rfl rfl (Nat.le_of_ble_eq_true rfl) dX6_readsTransfer_4 ?_
  refine zr_if_eq X 71 dX6_readsTransfer_7 (by decide) (fun q => absurd q (nI_ne0 (by omega) (by omega))) (fun _ => ?_)
  refine zr_aloadn X 0 dX6_readsTransfer_10 rfl ?_
  refine zr_bipush X (nI (62)) dX6_readsTransfer_11 (by decide +kernel) ?_
  refine zr_dVi (C := RX6) (ci := 6) [.int (nI (62))] [] X (zK_ok A D tc tF tL tM) (c_sign_t E (upd (upd μ (2543) (nI (a))) (2452) (nI (p1))) (fun z hz => ((pk_un (by omega)).trans ((pk_un (by omega)).trans (rfl))).trans (hw z hz)) (p := p1) (pk_us) (by omega) ((pk_un (by omega)).trans ((pk_un (by omega)).trans (hn))) hn2 (c := 62) (by omega) (by omega) F1) k_719 k_721 kp_15 k_7 k_722 hdX6_sign ⟨rfl, rfl⟩ ⟨Nat.le_of_ble_eq_true rfl, Nat.le_of_ble_eq_true rfl⟩ (by omega) rfl rfl rfl rfl (Nat.le_of_ble_eq_true rfl) dX6_readsTransfer_13 ?_
  refine zr_if_eq X 71 dX6_readsTransfer_16 (by decide) (fun q => absurd q (nI_ne0 (by omega) (by omega))) (fun _ => ?_)
  refine zr_aloadn X 0 dX6_readsTransfer_19 rfl ?_
  refine zr_iconst X (nI (1)) dX6_readsTransfer_20 (by decide +kernel) ?_
  refine zr_iconst X (nI (1)) dX6_readsTransfer_21 (by decide +kernel) ?_
  refine zr_iconst X (nI (1)) dX6_readsTransfer_22 (by decide +kernel) ?_
  refine zr_dVi (C := RX6) (ci := 6) [.int (nI (1)), .int (nI (1)), .int (nI (1))] [] X (zK_ok A D tc tF tL tM) (c_number1_t E (upd (upd (upd μ (2543) (nI (a))) (2452) (nI (p1))) (2452) (nI (p1 + 1))) (fun z hz => ((pk_un (by omega)).trans ((pk_un (by omega)).trans ((pk_un (by omega)).trans (rfl)))).trans (hw z hz)) (p := p1 + 1) (pk_us) (by omega) ((pk_un (by omega)).trans ((pk_un (by omega)).trans ((pk_un (by omega)).trans (hn)))) hn2 F2 a2 e2) k_711 k_713 kp_13 k_7 k_714 hdX6_number ⟨rfl, rfl⟩ ⟨Nat.le_of_ble_eq_true rfl, Nat.le_of_ble_eq_true rfl⟩ (by omega) rfl rfl rfl rfl (Nat.le_of_ble_eq_true rfl) dX6_readsTransfer_23 ?_
  refine zr_if_eq X 71 dX6_readsTransfer_26 (by decide) (fun q => absurd q (nI_ne0 (by omega) (by omega))) (fun _ => ?_)
  refine zr_aloadn X 0 dX6_readsTransfer_29 rfl ?_
  refine zr_bipush X (nI (58)) dX6_readsTransfer_30 (by decide +kernel) ?_
  refine zr_dVi (C := RX6) (ci := 6) [.int (nI (58))] [] X (zK_ok A D tc tF tL tM) (c_sign_t E (upd (upd (upd (upd (upd μ (2543) (nI (a))) (2452) (nI (p1))) (2452) (nI (p1 + 1))) (2544) (nI (b))) (2452) (nI (p3))) (fun z hz => ((pk_un (by omega)).trans ((pk_un (by omega)).trans ((pk_un (by omega)).trans ((pk_un (by omega)).trans ((pk_un (by omega)).trans (rfl)))))).trans (hw z hz)) (p := p3) (pk_us) (by omega) ((pk_un (by omega)).trans ((pk_un (by omega)).trans ((pk_un (by omega)).trans ((pk_un (by omega)).trans ((pk_un (by omega)).trans (hn)))))) hn2 (c := 58) (by omega) (by omega) F3) k_719 k_721 kp_15 k_7 k_722 hdX6_sign ⟨rfl, rfl⟩ ⟨Nat.le_of_ble_eq_true rfl, Nat.le_of_ble_eq_true rfl⟩ (by omega) rfl rfl rfl rfl (Nat.le_of_ble_eq_true rfl) dX6_readsTransfer_32 ?_
  refine zr_if_eq X 71 dX6_readsTransfer_35 (by decide) (fun q => absurd q (nI_ne0 (by omega) (by omega))) (fun _ => ?_)
  refine zr_aloadn X 0 dX6_readsTransfer_38 rfl ?_
  refine zr_iconst X (nI (2)) dX6_readsTransfer_39 (by decide +kernel) ?_
  refine zr_iconst X (nI (2)) dX6_readsTransfer_40 (by decide +kernel) ?_
  refine zr_iconst X (nI (1)) dX6_readsTransfer_41 (by decide +kernel) ?_
  refine zr_dVi (C := RX6) (ci := 6) [.int (nI (2)), .int (nI (2)), .int (nI (1))] [] X (zK_ok A D tc tF tL tM) (c_number2_t E (upd (upd (upd (upd (upd (upd μ (2543) (nI (a))) (2452) (nI (p1))) (2452) (nI (p1 + 1))) (2544) (nI (b))) (2452) (nI (p3))) (2452) (nI (p3 + 1))) (fun z hz => ((pk_un (by omega)).trans ((pk_un (by omega)).trans ((pk_un (by omega)).trans ((pk_un (by omega)).trans ((pk_un (by omega)).trans ((pk_un (by omega)).trans (rfl))))))).trans (hw z hz)) (p := p3 + 1) (pk_us) (by omega) ((pk_un (by omega)).trans ((pk_un (by omega)).trans ((pk_un (by omega)).trans ((pk_un (by omega)).trans ((pk_un (by omega)).trans ((pk_un (by omega)).trans (hn))))))) hn2 F4 a4 e4) k_711 k_713 kp_13 k_7 k_714 hdX6_number ⟨rfl, rfl⟩ ⟨Nat.le_of_ble_eq_true rfl, Nat.le_of_ble_eq_true rfl⟩ (by omega) rfl rfl rfl rfl (Nat.le_of_ble_eq_true rfl) dX6_readsTransfer_42 ?_
  refine zr_if_eq X 71 dX6_readsTransfer_45 (by decide) (fun q => absurd q (nI_ne0 (by omega) (by omega))) (fun _ => ?_)
  refine zr_aloadn X 0 dX6_readsTransfer_48 rfl ?_
  refine zr_bipush X (nI (42)) dX6_readsTransfer_49 (by decide +kernel) ?_
  refine zr_dVi (C := RX6) (ci := 6) [.int (nI (42))] [] X (zK_ok A D tc tF tL tM) (c_sign_t E (upd (upd (upd (upd (upd (upd (upd (upd μ (2543) (nI (a))) (2452) (nI (p1))) (2452) (nI (p1 + 1))) (2544) (nI (b))) (2452) (nI (p3))) (2452) (nI (p3 + 1))) (2545) (nI (v))) (2452) (nI (p5))) (fun z hz => ((pk_un (by omega)).trans ((pk_un (by omega)).trans ((pk_un (by omega)).trans ((pk_un (by omega)).trans ((pk_un (by omega)).trans ((pk_un (by omega)).trans ((pk_un (by omega)).trans ((pk_un (by omega)).trans (rfl))))))))).trans (hw z hz)) (p := p5) (pk_us) (by omega) ((pk_un (by omega)).trans ((pk_un (by omega)).trans ((pk_un (by omega)).trans ((pk_un (by omega)).trans ((pk_un (by omega)).trans ((pk_un (by omega)).trans ((pk_un (by omega)).trans ((pk_un (by omega)).trans (hn))))))))) hn2 (c := 42) (by omega) (by omega) F5) k_719 k_721 kp_15 k_7 k_722 hdX6_sign ⟨rfl, rfl⟩ ⟨Nat.le_of_ble_eq_true rfl, Nat.le_of_ble_eq_true rfl⟩ (by omega) rfl rfl rfl rfl (Nat.le_of_ble_eq_true rfl) dX6_readsTransfer_51 ?_
  refine zr_if_eq X 71 dX6_readsTransfer_54 (by decide) (fun q => absurd q (nI_ne0 (by omega) (by omega))) (fun _ => ?_)
  refine zr_aloadn X 0 dX6_readsTransfer_57 rfl ?_
  refine zr_iconst X (nI (3)) dX6_readsTransfer_58 (by decide +kernel) ?_
  refine zr_iconst X (nI (4)) dX6_readsTransfer_59 (by decide +kernel) ?_
  refine zr_iconst X (nI (0)) dX6_readsTransfer_60 (by decide +kernel) ?_
  refine zr_dVi (C := RX6) (ci := 6) [.int (nI (3)), .int (nI (4)), .int (nI (0))] [] X (zK_ok A D tc tF tL tM) (c_number3_f E (upd (upd (upd (upd (upd (upd (upd (upd (upd μ (2543) (nI (a))) (2452) (nI (p1))) (2452) (nI (p1 + 1))) (2544) (nI (b))) (2452) (nI (p3))) (2452) (nI (p3 + 1))) (2545) (nI (v))) (2452) (nI (p5))) (2452) (nI (p5 + 1))) (fun z hz => ((pk_un (by omega)).trans ((pk_un (by omega)).trans ((pk_un (by omega)).trans ((pk_un (by omega)).trans ((pk_un (by omega)).trans ((pk_un (by omega)).trans ((pk_un (by omega)).trans ((pk_un (by omega)).trans ((pk_un (by omega)).trans (rfl)))))))))).trans (hw z hz)) (p := p5 + 1) (pk_us) (by omega) ((pk_un (by omega)).trans ((pk_un (by omega)).trans ((pk_un (by omega)).trans ((pk_un (by omega)).trans ((pk_un (by omega)).trans ((pk_un (by omega)).trans ((pk_un (by omega)).trans ((pk_un (by omega)).trans ((pk_un (by omega)).trans (hn)))))))))) hn2 F6) k_711 k_713 kp_13 k_7 k_714 hdX6_number ⟨rfl, rfl⟩ ⟨Nat.le_of_ble_eq_true rfl, Nat.le_of_ble_eq_true rfl⟩ (by omega) rfl rfl rfl rfl (Nat.le_of_ble_eq_true rfl) dX6_readsTransfer_61 ?_
  refine zr_if_eq X 71 dX6_readsTransfer_64 (by decide) (fun _ => ?_) (fun q => absurd (zq_eq0 (by omega)) q)
  refine zr_iconst X (nI (0)) dX6_readsTransfer_71 (by decide +kernel) ?_
  exact zr_zret X dX6_readsTransfer_72 rfl ⟨rfl, (pk_us), fun x hx1 hx2 => ((pk_un (by omega)).trans ((pk_un (by omega)).trans ((pk_un (by omega)).trans ((pk_un (by omega)).trans ((pk_un (by omega)).trans ((pk_un (by omega)).trans ((pk_un (by omega)).trans ((pk_un (by omega)).trans ((pk_un (by omega)).trans (rfl))))))))))⟩

set_option maxHeartbeats 4000000 in
set_option maxRecDepth 100000 in
theorem c_reads_7 {l : Launch} {D : va_G} {tc : Nat → ClassId} {ad : Nat → Nat} {A : Nat → Prop} {tF tL tM : Nat} (E : zN 6 A ad) (μ : Nat → Int32) {w : Nat → Int32} (hw : ∀ q, q < 60 → μ (q + 2460) = w q) {p : Nat} (hp : μ 2452 = nI p) (hp3 : p ≤ 64) {n : Nat} (hn : μ 2447 = nI n) (hn2 : n ≤ 60) {a p1 : Nat} (F0 : znum w n 1 (p)) (a0 : znv w n 1 (p) = a) (e0 : znq w n 1 (p) = p1) (F1 : zis w n 62 p1) {b p3 : Nat} (F2 : znum w n 1 (p1 + 1)) (a2 : znv w n 1 (p1 + 1) = b) (e2 : znq w n 1 (p1 + 1) = p3) (F3 : zis w n 58 p3) {v p5 : Nat} (F4 : znum w n 1 (p3 + 1)) (a4 : znv w n 2 (p3 + 1) = v) (e4 : znq w n 2 (p3 + 1) = p5) (F5 : zis w n 42 p5) {t p7 : Nat} (F6 : znum w n 0 (p5 + 1)) (a6 : znv w n 4 (p5 + 1) = t) (e6 : znq w n 4 (p5 + 1) = p7)  : zMi l yX6_readsTransfer cX6_readsTransfer 1 (some .boolean) (zrm 3) (zK A D tc tF tL tM) A D vwCl tc ad 6 shR [.ref (ad (0))] μ (fun r u => r = nI 1 ∧ u 2452 = nI (p7) ∧ u 2543 = nI a ∧ u 2544 = nI b ∧ u 2545 = nI v ∧ u 2546 = nI t ∧ (∀ x, x ≠ 2452 → (x < 2543 ∨ 2547 ≤ x) → u x = μ x)) := by
  refine zM_of RX6 [(0, .ref (ad (0)))] (zK_ok A D tc tF tL tM) E.1 E.2 owR_ok (by decide +kernel) rfl (Nat.le_of_ble_eq_true rfl) rfl ?_
  intro pP eE sS mM aS bL mT cO X
  have l0 : p1 ≤ n := e0 ▸ znq_le F0
  have l1 := F1.1
  have l2 : p3 ≤ n := e2 ▸ znq_le F2
  have l3 := F3.1
  have l4 : p5 ≤ n := e4 ▸ znq_le F4
  have l5 := F5.1
  have l6 : p7 ≤ n := e6 ▸ znq_le F6
  refine zr_aloadn X 0 dX6_readsTransfer_0 rfl ?_
  refine zr_iconst X (nI (0)) dX6_readsTransfer_1 (by decide +kernel) ?_
  refine zr_iconst X (nI (1)) dX6_readsTransfer_2 (by decide +kernel) ?_
  refine zr_iconst X (nI (1)) dX6_readsTransfer_3 (by decide +kernel) ?_
  refine zr_dVi (C := RX6) (ci := 6) [.int (nI (0)), .int (nI (1)), .int (nI (1))] [] X (zK_ok A D tc tF tL tM) (c_number0_t E μ hw (p := p) (hp) (by omega) (hn) hn2 F0 a0 e0) k_711 k_713 kp_13 k_7 k_714 hdX6_number ⟨rfl, rfl⟩ ⟨Nat.le_of_ble_eq_true rfl, Nat.le_of_ble_eq_true rfl⟩ (by omega) rfl rfl rfl rfl (Nat.le_of_ble_eq_true rfl) dX6_readsTransfer_4 ?_
  refine zr_if_eq X 71 dX6_readsTransfer_7 (by decide) (fun q => absurd q (nI_ne0 (by omega) (by omega))) (fun _ => ?_)
  refine zr_aloadn X 0 dX6_readsTransfer_10 rfl ?_
  refine zr_bipush X (nI (62)) dX6_readsTransfer_11 (by decide +kernel) ?_
  refine zr_dVi (C := RX6) (ci := 6) [.int (nI (62))] [] X (zK_ok A D tc tF tL tM) (c_sign_t E (upd (upd μ (2543) (nI (a))) (2452) (nI (p1))) (fun z hz => ((pk_un (by omega)).trans ((pk_un (by omega)).trans (rfl))).trans (hw z hz)) (p := p1) (pk_us) (by omega) ((pk_un (by omega)).trans ((pk_un (by omega)).trans (hn))) hn2 (c := 62) (by omega) (by omega) F1) k_719 k_721 kp_15 k_7 k_722 hdX6_sign ⟨rfl, rfl⟩ ⟨Nat.le_of_ble_eq_true rfl, Nat.le_of_ble_eq_true rfl⟩ (by omega) rfl rfl rfl rfl (Nat.le_of_ble_eq_true rfl) dX6_readsTransfer_13 ?_
  refine zr_if_eq X 71 dX6_readsTransfer_16 (by decide) (fun q => absurd q (nI_ne0 (by omega) (by omega))) (fun _ => ?_)
  refine zr_aloadn X 0 dX6_readsTransfer_19 rfl ?_
  refine zr_iconst X (nI (1)) dX6_readsTransfer_20 (by decide +kernel) ?_
  refine zr_iconst X (nI (1)) dX6_readsTransfer_21 (by decide +kernel) ?_
  refine zr_iconst X (nI (1)) dX6_readsTransfer_22 (by decide +kernel) ?_
  refine zr_dVi (C := RX6) (ci := 6) [.int (nI (1)), .int (nI (1)), .int (nI (1))] [] X (zK_ok A D tc tF tL tM) (c_number1_t E (upd (upd (upd μ (2543) (nI (a))) (2452) (nI (p1))) (2452) (nI (p1 + 1))) (fun z hz => ((pk_un (by omega)).trans ((pk_un (by omega)).trans ((pk_un (by omega)).trans (rfl)))).trans (hw z hz)) (p := p1 + 1) (pk_us) (by omega) ((pk_un (by omega)).trans ((pk_un (by omega)).trans ((pk_un (by omega)).trans (hn)))) hn2 F2 a2 e2) k_711 k_713 kp_13 k_7 k_714 hdX6_number ⟨rfl, rfl⟩ ⟨Nat.le_of_ble_eq_true rfl, Nat.le_of_ble_eq_true rfl⟩ (by omega) rfl rfl rfl rfl (Nat.le_of_ble_eq_true rfl) dX6_readsTransfer_23 ?_
  refine zr_if_eq X 71 dX6_readsTransfer_26 (by decide) (fun q => absurd q (nI_ne0 (by omega) (by omega))) (fun _ => ?_)
  refine zr_aloadn X 0 dX6_readsTransfer_29 rfl ?_
  refine zr_bipush X (nI (58)) dX6_readsTransfer_30 (by decide +kernel) ?_
  refine zr_dVi (C := RX6) (ci := 6) [.int (nI (58))] [] X (zK_ok A D tc tF tL tM) (c_sign_t E (upd (upd (upd (upd (upd μ (2543) (nI (a))) (2452) (nI (p1))) (2452) (nI (p1 + 1))) (2544) (nI (b))) (2452) (nI (p3))) (fun z hz => ((pk_un (by omega)).trans ((pk_un (by omega)).trans ((pk_un (by omega)).trans ((pk_un (by omega)).trans ((pk_un (by omega)).trans (rfl)))))).trans (hw z hz)) (p := p3) (pk_us) (by omega) ((pk_un (by omega)).trans ((pk_un (by omega)).trans ((pk_un (by omega)).trans ((pk_un (by omega)).trans ((pk_un (by omega)).trans (hn)))))) hn2 (c := 58) (by omega) (by omega) F3) k_719 k_721 kp_15 k_7 k_722 hdX6_sign ⟨rfl, rfl⟩ ⟨Nat.le_of_ble_eq_true rfl, Nat.le_of_ble_eq_true rfl⟩ (by omega) rfl rfl rfl rfl (Nat.le_of_ble_eq_true rfl) dX6_readsTransfer_32 ?_
  refine zr_if_eq X 71 dX6_readsTransfer_35 (by decide) (fun q => absurd q (nI_ne0 (by omega) (by omega))) (fun _ => ?_)
  refine zr_aloadn X 0 dX6_readsTransfer_38 rfl ?_
  refine zr_iconst X (nI (2)) dX6_readsTransfer_39 (by decide +kernel) ?_
  refine zr_iconst X (nI (2)) dX6_readsTransfer_40 (by decide +kernel) ?_
  refine zr_iconst X (nI (1)) dX6_readsTransfer_41 (by decide +kernel) ?_
  refine zr_dVi (C := RX6) (ci := 6) [.int (nI (2)), .int (nI (2)), .int (nI (1))] [] X (zK_ok A D tc tF tL tM) (c_number2_t E (upd (upd (upd (upd (upd (upd μ (2543) (nI (a))) (2452) (nI (p1))) (2452) (nI (p1 + 1))) (2544) (nI (b))) (2452) (nI (p3))) (2452) (nI (p3 + 1))) (fun z hz => ((pk_un (by omega)).trans ((pk_un (by omega)).trans ((pk_un (by omega)).trans ((pk_un (by omega)).trans ((pk_un (by omega)).trans ((pk_un (by omega)).trans (rfl))))))).trans (hw z hz)) (p := p3 + 1) (pk_us) (by omega) ((pk_un (by omega)).trans ((pk_un (by omega)).trans ((pk_un (by omega)).trans ((pk_un (by omega)).trans ((pk_un (by omega)).trans ((pk_un (by omega)).trans (hn))))))) hn2 F4 a4 e4) k_711 k_713 kp_13 k_7 k_714 hdX6_number ⟨rfl, rfl⟩ ⟨Nat.le_of_ble_eq_true rfl, Nat.le_of_ble_eq_true rfl⟩ (by omega) rfl rfl rfl rfl (Nat.le_of_ble_eq_true rfl) dX6_readsTransfer_42 ?_
  refine zr_if_eq X 71 dX6_readsTransfer_45 (by decide) (fun q => absurd q (nI_ne0 (by omega) (by omega))) (fun _ => ?_)
  refine zr_aloadn X 0 dX6_readsTransfer_48 rfl ?_
  refine zr_bipush X (nI (42)) dX6_readsTransfer_49 (by decide +kernel) ?_
  refine zr_dVi (C := RX6) (ci := 6) [.int (nI (42))] [] X (zK_ok A D tc tF tL tM) (c_sign_t E (upd (upd (upd (upd (upd (upd (upd (upd μ (2543) (nI (a))) (2452) (nI (p1))) (2452) (nI (p1 + 1))) (2544) (nI (b))) (2452) (nI (p3))) (2452) (nI (p3 + 1))) (2545) (nI (v))) (2452) (nI (p5))) (fun z hz => ((pk_un (by omega)).trans ((pk_un (by omega)).trans ((pk_un (by omega)).trans ((pk_un (by omega)).trans ((pk_un (by omega)).trans ((pk_un (by omega)).trans ((pk_un (by omega)).trans ((pk_un (by omega)).trans (rfl))))))))).trans (hw z hz)) (p := p5) (pk_us) (by omega) ((pk_un (by omega)).trans ((pk_un (by omega)).trans ((pk_un (by omega)).trans ((pk_un (by omega)).trans ((pk_un (by omega)).trans ((pk_un (by omega)).trans ((pk_un (by omega)).trans ((pk_un (by omega)).trans (hn))))))))) hn2 (c := 42) (by omega) (by omega) F5) k_719 k_721 kp_15 k_7 k_722 hdX6_sign ⟨rfl, rfl⟩ ⟨Nat.le_of_ble_eq_true rfl, Nat.le_of_ble_eq_true rfl⟩ (by omega) rfl rfl rfl rfl (Nat.le_of_ble_eq_true rfl) dX6_readsTransfer_51 ?_
  refine zr_if_eq X 71 dX6_readsTransfer_54 (by decide) (fun q => absurd q (nI_ne0 (by omega) (by omega))) (fun _ => ?_)
  refine zr_aloadn X 0 dX6_readsTransfer_57 rfl ?_
  refine zr_iconst X (nI (3)) dX6_readsTransfer_58 (by decide +kernel) ?_
  refine zr_iconst X (nI (4)) dX6_readsTransfer_59 (by decide +kernel) ?_
  refine zr_iconst X (nI (0)) dX6_readsTransfer_60 (by decide +kernel) ?_
  refine zr_dVi (C := RX6) (ci := 6) [.int (nI (3)), .int (nI (4)), .int (nI (0))] [] X (zK_ok A D tc tF tL tM) (c_number3_t E (upd (upd (upd (upd (upd (upd (upd (upd (upd μ (2543) (nI (a))) (2452) (nI (p1))) (2452) (nI (p1 + 1))) (2544) (nI (b))) (2452) (nI (p3))) (2452) (nI (p3 + 1))) (2545) (nI (v))) (2452) (nI (p5))) (2452) (nI (p5 + 1))) (fun z hz => ((pk_un (by omega)).trans ((pk_un (by omega)).trans ((pk_un (by omega)).trans ((pk_un (by omega)).trans ((pk_un (by omega)).trans ((pk_un (by omega)).trans ((pk_un (by omega)).trans ((pk_un (by omega)).trans ((pk_un (by omega)).trans (rfl)))))))))).trans (hw z hz)) (p := p5 + 1) (pk_us) (by omega) ((pk_un (by omega)).trans ((pk_un (by omega)).trans ((pk_un (by omega)).trans ((pk_un (by omega)).trans ((pk_un (by omega)).trans ((pk_un (by omega)).trans ((pk_un (by omega)).trans ((pk_un (by omega)).trans ((pk_un (by omega)).trans (hn)))))))))) hn2 F6 a6 e6) k_711 k_713 kp_13 k_7 k_714 hdX6_number ⟨rfl, rfl⟩ ⟨Nat.le_of_ble_eq_true rfl, Nat.le_of_ble_eq_true rfl⟩ (by omega) rfl rfl rfl rfl (Nat.le_of_ble_eq_true rfl) dX6_readsTransfer_61 ?_
  refine zr_if_eq X 71 dX6_readsTransfer_64 (by decide) (fun q => absurd q (nI_ne0 (by omega) (by omega))) (fun _ => ?_)
  refine zr_iconst X (nI (1)) dX6_readsTransfer_67 (by decide +kernel) ?_
  refine zr_goto X 72 dX6_readsTransfer_68 (by decide) ?_
  exact zr_zret X dX6_readsTransfer_72 rfl ⟨rfl, (pk_us), ((pk_un (by omega)).trans ((pk_un (by omega)).trans ((pk_un (by omega)).trans ((pk_un (by omega)).trans ((pk_un (by omega)).trans ((pk_un (by omega)).trans ((pk_un (by omega)).trans ((pk_un (by omega)).trans ((pk_un (by omega)).trans ((pk_un (by omega)).trans (pk_us))))))))))), ((pk_un (by omega)).trans ((pk_un (by omega)).trans ((pk_un (by omega)).trans ((pk_un (by omega)).trans ((pk_un (by omega)).trans ((pk_un (by omega)).trans ((pk_un (by omega)).trans (pk_us)))))))), ((pk_un (by omega)).trans ((pk_un (by omega)).trans ((pk_un (by omega)).trans ((pk_un (by omega)).trans (pk_us))))), ((pk_un (by omega)).trans (pk_us)), fun x hx1 hx2 => ((pk_un (by omega)).trans ((pk_un (by omega)).trans ((pk_un (by omega)).trans ((pk_un (by omega)).trans ((pk_un (by omega)).trans ((pk_un (by omega)).trans ((pk_un (by omega)).trans ((pk_un (by omega)).trans ((pk_un (by omega)).trans ((pk_un (by omega)).trans ((pk_un (by omega)).trans (rfl))))))))))))⟩

theorem c_reads_T {l : Launch} {D : va_G} {tc : Nat → ClassId} {ad : Nat → Nat} {A : Nat → Prop} {tF tL tM : Nat} (E : zN 6 A ad) (μ : Nat → Int32) {w : Nat → Int32} (hw : ∀ q, q < 60 → μ (q + 2460) = w q) {p : Nat} (hp : μ 2452 = nI p) (hp3 : p ≤ 64) {n : Nat} (hn : μ 2447 = nI n) (hn2 : n ≤ 60) {q a b v t : Nat} (h : zsT w n p q a b v t) : zMi l yX6_readsTransfer cX6_readsTransfer 1 (some .boolean) (zrm 3) (zK A D tc tF tL tM) A D vwCl tc ad 6 shR [.ref (ad (0))] μ (fun r u => r = nI 1 ∧ u 2452 = nI (q) ∧ u 2543 = nI a ∧ u 2544 = nI b ∧ u 2545 = nI v ∧ u 2546 = nI t ∧ (∀ x, x ≠ 2452 → (x < 2543 ∨ 2547 ≤ x) → u x = μ x)) := by
  obtain ⟨p1, p3, p5, F0, a0, e0, F1, F2, a2, e2, F3, F4, a4, e4, F5, F6, a6, e6⟩ := h
  exact c_reads_7 E μ hw hp hp3 hn hn2 F0 a0 e0 F1 F2 a2 e2 F3 F4 a4 e4 F5 F6 a6 e6
theorem c_reads_F {l : Launch} {D : va_G} {tc : Nat → ClassId} {ad : Nat → Nat} {A : Nat → Prop} {tF tL tM : Nat} (E : zN 6 A ad) (μ : Nat → Int32) {w : Nat → Int32} (hw : ∀ q, q < 60 → μ (q + 2460) = w q) {p : Nat} (hp : μ 2452 = nI p) (hp3 : p ≤ 64) {n : Nat} (hn : μ 2447 = nI n) (hn2 : n ≤ 60) {q : Nat} (h : zsF w n p q) : zMi l yX6_readsTransfer cX6_readsTransfer 1 (some .boolean) (zrm 3) (zK A D tc tF tL tM) A D vwCl tc ad 6 shR [.ref (ad (0))] μ (fun r u => r = nI 0 ∧ u 2452 = nI (q) ∧ (∀ x, x ≠ 2452 → (x < 2543 ∨ 2547 ≤ x) → u x = μ x)) := by
  rcases h with ⟨F0, rfl⟩ | ⟨F0, F1, e0⟩ | ⟨p1, F0, e0, F1, F2, rfl⟩ | ⟨p1, F0, e0, F1, F2, e2, F3⟩ | ⟨p1, p3, F0, e0, F1, F2, e2, F3, F4, rfl⟩ | ⟨p1, p3, F0, e0, F1, F2, e2, F3, F4, e4, F5⟩ | ⟨p1, p3, p5, F0, e0, F1, F2, e2, F3, F4, e4, F5, F6, rfl⟩
  · exact c_reads_0 E μ hw hp hp3 hn hn2 F0
  · exact c_reads_1 E μ hw hp hp3 hn hn2 F0 rfl e0 F1
  · exact c_reads_2 E μ hw hp hp3 hn hn2 F0 rfl e0 F1 F2
  · exact c_reads_3 E μ hw hp hp3 hn hn2 F0 rfl e0 F1 F2 rfl e2 F3
  · exact c_reads_4 E μ hw hp hp3 hn hn2 F0 rfl e0 F1 F2 rfl e2 F3 F4
  · exact c_reads_5 E μ hw hp hp3 hn hn2 F0 rfl e0 F1 F2 rfl e2 F3 F4 rfl e4 F5
  · exact c_reads_6 E μ hw hp hp3 hn hn2 F0 rfl e0 F1 F2 rfl e2 F3 F4 rfl e4 F5 F6
