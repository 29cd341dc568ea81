set_option maxHeartbeats 4000000 in
set_option maxRecDepth 100000 in
theorem d_digit_t {l : Launch} {D : va_G} {tc : Nat → ClassId} {ad : Nat → Nat} {A : Nat → Prop} {tF tL tM : Nat} (E : zN 299 A ad) (μ : Nat → Int32) {w : Nat → Int32} (hw : ∀ q, q < 60 → μ (q + 2500) = w q) {p : Nat} (hp : μ 2497 = nI p) (hp3 : p ≤ 64) {n : Nat} (hn : μ 2491 = nI n) (hn2 : n ≤ 60) (h : p < n ∧ nI 48 ≤ w p ∧ w p ≤ nI 57) : zMi l yX4_digitHere cX4_digitHere 1 (some .int) (zrm 1) (zK A D tc tF tL tM) A D vwCl tc ad 299 shC [.ref (ad (293))] μ (fun r u => r = nI (zdg w p) ∧ u = μ) := by
  refine zM_of RX4 [(0, .ref (ad (293)))] (zK_ok A D tc tF tL tM) E.1 E.2 owC_ok (by decide +kernel) rfl (Nat.le_of_ble_eq_true rfl) rfl ?_
  intro pP eE sS mM aS bL mT cO X
  obtain ⟨hlt, hd1, hd2⟩ := h
  have he := zdg_eq hd1 hd2
  have hz9 := zdg_9 w p
  refine zr_aloadn X 0 dX4_digitHere_0 rfl ?_
  refine zr_get X (ci := 4) (q := 7) zI (.int (nI (p))) dX4_digitHere_1 (by omega) sc_293 rfl inX4 (by decide) rfl (congrArg Value.int (hp)) rfl k_195 ?_
  refine zr_aloadn X 0 dX4_digitHere_4 rfl ?_
  refine zr_get X (ci := 4) (q := 1) zI (.int (nI (n))) dX4_digitHere_5 (by omega) sc_293 rfl inX4 (by decide) rfl (congrArg Value.int (hn)) rfl k_183 ?_
  refine zr_icmp_ge X 48 dX4_digitHere_8 (by decide) (fun q => absurd q (nI_ge (by omega) (by omega))) (fun _ => ?_)
  refine zr_aloadn X 0 dX4_digitHere_11 rfl ?_
  refine zr_get X (ci := 4) (q := 7) zI (.int (nI (p))) dX4_digitHere_12 (by omega) sc_293 rfl inX4 (by decide) rfl (congrArg Value.int (hp)) rfl k_195 ?_
  refine zr_bipush X (nI (60)) dX4_digitHere_15 (by decide +kernel) ?_
  refine zr_icmp_ge X 48 dX4_digitHere_17 (by decide) (fun q => absurd q (nI_ge (by omega) (by omega))) (fun _ => ?_)
  refine zr_aloadn X 0 dX4_digitHere_20 rfl ?_
  refine zr_get X (ci := 4) (q := 0) (zR _) (.ref (ad (294))) dX4_digitHere_21 (by omega) sc_293 rfl inX4 (by decide) rfl (zvR rfl) rfl k_181 ?_
  refine zr_aloadn X 0 dX4_digitHere_24 rfl ?_
  refine zr_get X (ci := 4) (q := 7) zI (.int (nI (p))) dX4_digitHere_25 (by omega) sc_293 rfl inX4 (by decide) rfl (congrArg Value.int (hp)) rfl k_195 ?_
  refine zr_cald X (j := p) 1 (nI ((zdg w p) + 48)) dX4_digitHere_28 (by omega) sc_294 rfl rfl (by omega) (by omega) (zcg (b := p + 2500) (by omega) (((hw p (by omega)).trans he))) ?_
  refine zr_bipush X (nI (48)) dX4_digitHere_29 (by decide +kernel) ?_
  refine zr_icmp_lt X 48 dX4_digitHere_31 (by decide) (fun q => absurd q (nI_nlt (by omega) (by omega))) (fun _ => ?_)
  refine zr_aloadn X 0 dX4_digitHere_34 rfl ?_
  refine zr_get X (ci := 4) (q := 0) (zR _) (.ref (ad (294))) dX4_digitHere_35 (by omega) sc_293 rfl inX4 (by decide) rfl (zvR rfl) rfl k_181 ?_
  refine zr_aloadn X 0 dX4_digitHere_38 rfl ?_
  refine zr_get X (ci := 4) (q := 7) zI (.int (nI (p))) dX4_digitHere_39 (by omega) sc_293 rfl inX4 (by decide) rfl (congrArg Value.int (hp)) rfl k_195 ?_
  refine zr_cald X (j := p) 1 (nI ((zdg w p) + 48)) dX4_digitHere_42 (by omega) sc_294 rfl rfl (by omega) (by omega) (zcg (b := p + 2500) (by omega) (((hw p (by omega)).trans he))) ?_
  refine zr_bipush X (nI (57)) dX4_digitHere_43 (by decide +kernel) ?_
  refine zr_icmp_le X 51 dX4_digitHere_45 (by decide) (fun _ => ?_) (fun q => absurd (zq_le (by omega) (by omega)) q)
  refine zr_aloadn X 0 dX4_digitHere_51 rfl ?_
  refine zr_get X (ci := 4) (q := 0) (zR _) (.ref (ad (294))) dX4_digitHere_52 (by omega) sc_293 rfl inX4 (by decide) rfl (zvR rfl) rfl k_181 ?_
  refine zr_aloadn X 0 dX4_digitHere_55 rfl ?_
  refine zr_get X (ci := 4) (q := 7) zI (.int (nI (p))) dX4_digitHere_56 (by omega) sc_293 rfl inX4 (by decide) rfl (congrArg Value.int (hp)) rfl k_195 ?_
  refine zr_cald X (j := p) 1 (nI ((zdg w p) + 48)) dX4_digitHere_59 (by omega) sc_294 rfl rfl (by omega) (by omega) (zcg (b := p + 2500) (by omega) (((hw p (by omega)).trans he))) ?_
  refine zr_bipush X (nI (48)) dX4_digitHere_60 (by decide +kernel) ?_
  refine zr_isub X (nI ((zdg w p))) dX4_digitHere_62 ((pk_sub (by omega)).trans (congrArg nI (by omega))) ?_
  exact zr_iret X dX4_digitHere_63 ⟨rfl, rfl⟩

set_option maxHeartbeats 4000000 in
set_option maxRecDepth 100000 in
theorem d_digit_f {l : Launch} {D : va_G} {tc : Nat → ClassId} {ad : Nat → Nat} {A : Nat → Prop} {tF tL tM : Nat} (E : zN 299 A ad) (μ : Nat → Int32) {w : Nat → Int32} (hw : ∀ q, q < 60 → μ (q + 2500) = w q) {p : Nat} (hp : μ 2497 = nI p) (hp3 : p ≤ 64) {n : Nat} (hn : μ 2491 = nI n) (hn2 : n ≤ 60) (h : ¬ (p < n ∧ nI 48 ≤ w p ∧ w p ≤ nI 57)) : zMi l yX4_digitHere cX4_digitHere 1 (some .int) (zrm 1) (zK A D tc tF tL tM) A D vwCl tc ad 299 shC [.ref (ad (293))] μ (fun r u => r = -5 ∧ u = μ) := by
  refine zM_of RX4 [(0, .ref (ad (293)))] (zK_ok A D tc tF tL tM) E.1 E.2 owC_ok (by decide +kernel) rfl (Nat.le_of_ble_eq_true rfl) rfl ?_
  intro pP eE sS mM aS bL mT cO X
  refine zr_aloadn X 0 dX4_digitHere_0 rfl ?_
  by_cases hlt : p < n
  · refine zr_get X (ci := 4) (q := 7) zI (.int (nI (p))) dX4_digitHere_1 (by omega) sc_293 rfl inX4 (by decide) rfl (congrArg Value.int (hp)) rfl k_195 ?_
    refine zr_aloadn X 0 dX4_digitHere_4 rfl ?_
    refine zr_get X (ci := 4) (q := 1) zI (.int (nI (n))) dX4_digitHere_5 (by omega) sc_293 rfl inX4 (by decide) rfl (congrArg Value.int (hn)) rfl k_183 ?_
    refine zr_icmp_ge X 48 dX4_digitHere_8 (by decide) (fun q => absurd q (nI_ge (by omega) (by omega))) (fun _ => ?_)
    refine zr_aloadn X 0 dX4_digitHere_11 rfl ?_
    refine zr_get X (ci := 4) (q := 7) zI (.int (nI (p))) dX4_digitHere_12 (by omega) sc_293 rfl inX4 (by decide) rfl (congrArg Value.int (hp)) rfl k_195 ?_
    refine zr_bipush X (nI (60)) dX4_digitHere_15 (by decide +kernel) ?_
    refine zr_icmp_ge X 48 dX4_digitHere_17 (by decide) (fun q => absurd q (nI_ge (by omega) (by omega))) (fun _ => ?_)
    refine zr_aloadn X 0 dX4_digitHere_20 rfl ?_
    refine zr_get X (ci := 4) (q := 0) (zR _) (.ref (ad (294))) dX4_digitHere_21 (by omega) sc_293 rfl inX4 (by decide) rfl (zvR rfl) rfl k_181 ?_
    refine zr_aloadn X 0 dX4_digitHere_24 rfl ?_
    refine zr_get X (ci := 4) (q := 7) zI (.int (nI (p))) dX4_digitHere_25 (by omega) sc_293 rfl inX4 (by decide) rfl (congrArg Value.int (hp)) rfl k_195 ?_
    refine zr_cald X (j := p) 1 (w p) dX4_digitHere_28 (by omega) sc_294 rfl rfl (by omega) (by omega) (zcg (b := p + 2500) (by omega) ((hw p (by omega)))) ?_
    refine zr_bipush X (nI (48)) dX4_digitHere_29 (by decide +kernel) ?_
    refine zr_icmp_lt X 48 dX4_digitHere_31 (by decide) (fun h31 => ?_) (fun h31 => ?_)
    · refine zr_bipush X (-5) dX4_digitHere_48 (by decide +kernel) ?_
      exact zr_iret X dX4_digitHere_50 ⟨rfl, rfl⟩
    · refine zr_aloadn X 0 dX4_digitHere_34 rfl ?_
      refine zr_get X (ci := 4) (q := 0) (zR _) (.ref (ad (294))) dX4_digitHere_35 (by omega) sc_293 rfl inX4 (by decide) rfl (zvR rfl) rfl k_181 ?_
      refine zr_aloadn X 0 dX4_digitHere_38 rfl ?_
      refine zr_get X (ci := 4) (q := 7) zI (.int (nI (p))) dX4_digitHere_39 (by omega) sc_293 rfl inX4 (by decide) rfl (congrArg Value.int (hp)) rfl k_195 ?_
      refine zr_cald X (j := p) 1 (w p) dX4_digitHere_42 (by omega) sc_294 rfl rfl (by omega) (by omega) (zcg (b := p + 2500) (by omega) ((hw p (by omega)))) ?_
      refine zr_bipush X (nI (57)) dX4_digitHere_43 (by decide +kernel) ?_
      refine zr_icmp_le X 51 dX4_digitHere_45 (by decide) (fun q => absurd q (fun q => h ⟨hlt, Int32.not_lt.mp h31, q⟩)) (fun _ => ?_)
      refine zr_bipush X (-5) dX4_digitHere_48 (by decide +kernel) ?_
      exact zr_iret X dX4_digitHere_50 ⟨rfl, rfl⟩
  · refine zr_get X (ci := 4) (q := 7) zI (.int (nI (p))) dX4_digitHere_1 (by omega) sc_293 rfl inX4 (by decide) rfl (congrArg Value.int (hp)) rfl k_195 ?_
    refine zr_aloadn X 0 dX4_digitHere_4 rfl ?_
    refine zr_get X (ci := 4) (q := 1) zI (.int (nI (n))) dX4_digitHere_5 (by omega) sc_293 rfl inX4 (by decide) rfl (congrArg Value.int (hn)) rfl k_183 ?_
    refine zr_icmp_ge X 48 dX4_digitHere_8 (by decide) (fun _ => ?_) (fun q => absurd (zq_le (by omega) (by omega)) q)
    refine zr_bipush X (-5) dX4_digitHere_48 (by decide +kernel) ?_
    exact zr_iret X dX4_digitHere_50 ⟨rfl, rfl⟩

set_option maxHeartbeats 4000000 in
set_option maxRecDepth 100000 in
theorem d_rs_t {l : Launch} {D : va_G} {tc : Nat → ClassId} {ad : Nat → Nat} {A : Nat → Prop} {tF tL tM : Nat} (E : zN 299 A ad) (μ : Nat → Int32) {w : Nat → Int32} (hw : ∀ q, q < 60 → μ (q + 2500) = w q) {p : Nat} (hp : μ 2497 = nI p) (hp3 : p ≤ 64) {n : Nat} (hn : μ 2491 = nI n) (hn2 : n ≤ 60) {c : Nat} (h : zis w n c p) : zMi l yX4_readSign cX4_readSign 2 (some .boolean) (zrm 1) (zK A D tc tF tL tM) A D vwCl tc ad 299 shC [.ref (ad (293)), .int (nI (c))] μ (fun r u => r = nI 1 ∧ u = upd μ 2497 (nI (p + 1))) := by
  refine zM_of RX4 [(0, .ref (ad (293))), (1, .int (nI (c)))] (zK_ok A D tc tF tL tM) E.1 E.2 owC_ok (by decide +kernel) rfl (Nat.le_of_ble_eq_true rfl) rfl ?_
  intro pP eE sS mM aS bL mT cO X
  have hlt := h.1
  refine zr_aloadn X 0 dX4_readSign_0 rfl ?_
  refine zr_get X (ci := 4) (q := 7) zI (.int (nI (p))) dX4_readSign_1 (by omega) sc_293 rfl inX4 (by decide) rfl (congrArg Value.int (hp)) rfl k_195 ?_
  refine zr_aloadn X 0 dX4_readSign_4 rfl ?_
  refine zr_get X (ci := 4) (q := 1) zI (.int (nI (n))) dX4_readSign_5 (by omega) sc_293 rfl inX4 (by decide) rfl (congrArg Value.int (hn)) rfl k_183 ?_
  refine zr_icmp_ge X 33 dX4_readSign_8 (by decide) (fun q => absurd q (nI_ge (by omega) (by omega))) (fun _ => ?_)
  refine zr_aloadn X 0 dX4_readSign_11 rfl ?_
  refine zr_get X (ci := 4) (q := 7) zI (.int (nI (p))) dX4_readSign_12 (by omega) sc_293 rfl inX4 (by decide) rfl (congrArg Value.int (hp)) rfl k_195 ?_
  refine zr_bipush X (nI (60)) dX4_readSign_15 (by decide +kernel) ?_
  refine zr_icmp_ge X 33 dX4_readSign_17 (by decide) (fun q => absurd q (nI_ge (by omega) (by omega))) (fun _ => ?_)
  refine zr_aloadn X 0 dX4_readSign_20 rfl ?_
  refine zr_get X (ci := 4) (q := 0) (zR _) (.ref (ad (294))) dX4_readSign_21 (by omega) sc_293 rfl inX4 (by decide) rfl (zvR rfl) rfl k_181 ?_
  refine zr_aloadn X 0 dX4_readSign_24 rfl ?_
  refine zr_get X (ci := 4) (q := 7) zI (.int (nI (p))) dX4_readSign_25 (by omega) sc_293 rfl inX4 (by decide) rfl (congrArg Value.int (hp)) rfl k_195 ?_
  refine zr_cald X (j := p) 1 (nI (c)) dX4_readSign_28 (by omega) sc_294 rfl rfl (by omega) (by omega) (zcg (b := p + 2500) (by omega) (((hw p (by omega)).trans h.2))) ?_
  refine zr_iloadn X 1 dX4_readSign_29 rfl ?_
  refine zr_icmp_eq X 35 dX4_readSign_30 (by decide) (fun _ => ?_) (fun q => absurd (zq_eq (by omega)) q)
  refine zr_aloadn X 0 dX4_readSign_35 rfl ?_
  refine zr_dup X dX4_readSign_36 rfl ?_
  refine zr_get X (ci := 4) (q := 7) zI (.int (nI (p))) dX4_readSign_37 (by omega) sc_293 rfl inX4 (by decide) rfl (congrArg Value.int (hp)) rfl k_195 ?_
  refine zr_iconst X (nI (1)) dX4_readSign_40 (by decide +kernel) ?_
  refine zr_iadd X (nI (p + 1)) dX4_readSign_41 (nI_add _ _) ?_
  refine zr_put X (ci := 4) (q := 7) (ty0 := tyX4) (ty := .int) (2497) dX4_readSign_42 (by omega) sc_293 rfl inX4 tyX4_ok nmX4 (by decide) rfl rfl rfl rfl rfl rfl k_195 (by omega) ?_
  refine zr_iconst X (nI (1)) dX4_readSign_45 (by decide +kernel) ?_
  exact zr_zret X dX4_readSign_46 rfl ⟨rfl, rfl⟩

set_option maxHeartbeats 4000000 in
set_option maxRecDepth 100000 in
theorem d_rs_f {l : Launch} {D : va_G} {tc : Nat → ClassId} {ad : Nat → Nat} {A : Nat → Prop} {tF tL tM : Nat} (E : zN 299 A ad) (μ : Nat → Int32) {w : Nat → Int32} (hw : ∀ q, q < 60 → μ (q + 2500) = w q) {p : Nat} (hp : μ 2497 = nI p) (hp3 : p ≤ 64) {n : Nat} (hn : μ 2491 = nI n) (hn2 : n ≤ 60) {c : Nat} (h : ¬ zis w n c p) : zMi l yX4_readSign cX4_readSign 2 (some .boolean) (zrm 1) (zK A D tc tF tL tM) A D vwCl tc ad 299 shC [.ref (ad (293)), .int (nI (c))] μ (fun r u => r = nI 0 ∧ u = μ) := by
  refine zM_of RX4 [(0, .ref (ad (293))), (1, .int (nI (c)))] (zK_ok A D tc tF tL tM) E.1 E.2 owC_ok (by decide +kernel) rfl (Nat.le_of_ble_eq_true rfl) rfl ?_
  intro pP eE sS mM aS bL mT cO X
  refine zr_aloadn X 0 dX4_readSign_0 rfl ?_
  by_cases hlt : p < n
  · refine zr_get X (ci := 4) (q := 7) zI (.int (nI (p))) dX4_readSign_1 (by omega) sc_293 rfl inX4 (by decide) rfl (congrArg Value.int (hp)) rfl k_195 ?_
    refine zr_aloadn X 0 dX4_readSign_4 rfl ?_
    refine zr_get X (ci := 4) (q := 1) zI (.int (nI (n))) dX4_readSign_5 (by omega) sc_293 rfl inX4 (by decide) rfl (congrArg Value.int (hn)) rfl k_183 ?_
    refine zr_icmp_ge X 33 dX4_readSign_8 (by decide) (fun q => absurd q (nI_ge (by omega) (by omega))) (fun _ => ?_)
    refine zr_aloadn X 0 dX4_readSign_11 rfl ?_
    refine zr_get X (ci := 4) (q := 7) zI (.int (nI (p))) dX4_readSign_12 (by omega) sc_293 rfl inX4 (by decide) rfl (congrArg Value.int (hp)) rfl k_195 ?_
    refine zr_bipush X (nI (60)) dX4_readSign_15 (by decide +kernel) ?_
    refine zr_icmp_ge X 33 dX4_readSign_17 (by decide) (fun q => absurd q (nI_ge (by omega) (by omega))) (fun _ => ?_)
    refine zr_aloadn X 0 dX4_readSign_20 rfl ?_
    refine zr_get X (ci := 4) (q := 0) (zR _) (.ref (ad (294))) dX4_readSign_21 (by omega) sc_293 rfl inX4 (by decide) rfl (zvR rfl) rfl k_181 ?_
    refine zr_aloadn X 0 dX4_readSign_24 rfl ?_
    refine zr_get X (ci := 4) (q := 7) zI (.int (nI (p))) dX4_readSign_25 (by omega) sc_293 rfl inX4 (by decide) rfl (congrArg Value.int (hp)) rfl k_195 ?_
    refine zr_cald X (j := p) 1 (w p) dX4_readSign_28 (by omega) sc_294 rfl rfl (by omega) (by omega) (zcg (b := p + 2500) (by omega) ((hw p (by omega)))) ?_
    refine zr_iloadn X 1 dX4_readSign_29 rfl ?_
    refine zr_icmp_eq X 35 dX4_readSign_30 (by decide) (fun q => absurd q (fun q => h ⟨hlt, q⟩)) (fun _ => ?_)
    refine zr_iconst X (nI (0)) dX4_readSign_33 (by decide +kernel) ?_
    exact zr_zret X dX4_readSign_34 rfl ⟨rfl, rfl⟩
  · refine zr_get X (ci := 4) (q := 7) zI (.int (nI (p))) dX4_readSign_1 (by omega) sc_293 rfl inX4 (by decide) rfl (congrArg Value.int (hp)) rfl k_195 ?_
    refine zr_aloadn X 0 dX4_readSign_4 rfl ?_
    refine zr_get X (ci := 4) (q := 1) zI (.int (nI (n))) dX4_readSign_5 (by omega) sc_293 rfl inX4 (by decide) rfl (congrArg Value.int (hn)) rfl k_183 ?_
    refine zr_icmp_ge X 33 dX4_readSign_8 (by decide) (fun _ => ?_) (fun q => absurd (zq_le (by omega) (by omega)) q)
    refine zr_iconst X (nI (0)) dX4_readSign_33 (by decide +kernel) ?_
    exact zr_zret X dX4_readSign_34 rfl ⟨rfl, rfl⟩

set_option maxHeartbeats 4000000 in
set_option maxRecDepth 100000 in
theorem d_rn1_f {l : Launch} {D : va_G} {tc : Nat → ClassId} {ad : Nat → Nat} {A : Nat → Prop} {tF tL tM : Nat} (E : zN 299 A ad) (μ : Nat → Int32) {w : Nat → Int32} (hw : ∀ q, q < 60 → μ (q + 2500) = w q) {p : Nat} (hp : μ 2497 = nI p) (hp3 : p ≤ 64) {n : Nat} (hn : μ 2491 = nI n) (hn2 : n ≤ 60) (h : ¬ znum w n 1 p) : zMi l yX4_readNumber cX4_readNumber 6 (some .int) (zrm 2) (zK A D tc tF tL tM) A D vwCl tc ad 299 shC [.ref (ad (293)), .int (nI (1)), .int (nI (1))] μ (fun r u => r = -5 ∧ u = μ) := by
  refine zM_of RX4 [(0, .ref (ad (293))), (1, .int (nI (1))), (2, .int (nI (1)))] (zK_ok A D tc tF tL tM) E.1 E.2 owC_ok (by decide +kernel) rfl (Nat.le_of_ble_eq_true rfl) rfl ?_
  intro pP eE sS mM aS bL mT cO X
  refine zr_aloadn X 0 dX4_readNumber_0 rfl ?_
  by_cases hd : p < n ∧ nI 48 ≤ w p ∧ w p ≤ nI 57
  · exact absurd ⟨hd, Or.inl rfl⟩ h
  · refine zr_dVi (C := RX4) (ci := 4) [] [] X (zK_ok A D tc tF tL tM) (d_digit_f E μ hw (p := p) (hp) (by omega) (hn) hn2 hd) k_406 k_407 k_408 k_6 k_409 hdX4_digitHere ⟨rfl, rfl⟩ ⟨Nat.le_of_ble_eq_true rfl, Nat.le_of_ble_eq_true rfl⟩ (by omega) sc_293 rfl rfl rfl (Nat.le_of_ble_eq_true rfl) dX4_readNumber_1 ?_
    refine zr_istoren X [1, 2, 3, 0] [(0, .ref (ad (293))), (1, .int (nI (1))), (2, .int (nI (1))), (3, .int (-5))] dX4_readNumber_4 (by decide) rfl ?_
    refine zr_iloadn X 3 dX4_readNumber_5 rfl ?_
    refine zr_if_lt X 17 dX4_readNumber_6 (by decide) (fun _ => ?_) (fun q => absurd (by decide) q)
    refine zr_bipush X (-5) dX4_readNumber_17 (by decide +kernel) ?_
    exact zr_iret X dX4_readNumber_19 ⟨rfl, rfl⟩

set_option maxHeartbeats 4000000 in
set_option maxRecDepth 100000 in
theorem d_rn1_t {l : Launch} {D : va_G} {tc : Nat → ClassId} {ad : Nat → Nat} {A : Nat → Prop} {tF tL tM : Nat} (E : zN 299 A ad) (μ : Nat → Int32) {w : Nat → Int32} (hw : ∀ q, q < 60 → μ (q + 2500) = w q) {p : Nat} (hp : μ 2497 = nI p) (hp3 : p ≤ 64) {n : Nat} (hn : μ 2491 = nI n) (hn2 : n ≤ 60) (h : znum w n 1 p) {a b : Nat} (ha : znv w n 1 p = a) (hb : znq w n 1 p = b) : zMi l yX4_readNumber cX4_readNumber 6 (some .int) (zrm 2) (zK A D tc tF tL tM) A D vwCl tc ad 299 shC [.ref (ad (293)), .int (nI (1)), .int (nI (1))] μ (fun r u => r = nI a ∧ u = upd μ 2497 (nI (b))) := by
  refine zM_of RX4 [(0, .ref (ad (293))), (1, .int (nI (1))), (2, .int (nI (1)))] (zK_ok A D tc tF tL tM) E.1 E.2 owC_ok (by decide +kernel) rfl (Nat.le_of_ble_eq_true rfl) rfl ?_
  intro pP eE sS mM aS bL mT cO X
  obtain ⟨hd, hz⟩ := h
  have hlt := hd.1
  have hz9 := zdg_9 w p
  refine zr_aloadn X 0 dX4_readNumber_0 rfl ?_
  refine zr_dVi (C := RX4) (ci := 4) [] [] X (zK_ok A D tc tF tL tM) (d_digit_t E μ hw (p := p) (hp) (by omega) (hn) hn2 hd) k_406 k_407 k_408 k_6 k_409 hdX4_digitHere ⟨rfl, rfl⟩ ⟨Nat.le_of_ble_eq_true rfl, Nat.le_of_ble_eq_true rfl⟩ (by omega) sc_293 rfl rfl rfl (Nat.le_of_ble_eq_true rfl) dX4_readNumber_1 ?_
  refine zr_istoren X [1, 2, 3, 0] [(0, .ref (ad (293))), (1, .int (nI (1))), (2, .int (nI (1))), (3, .int (nI ((zdg w p))))] dX4_readNumber_4 (by decide) rfl ?_
  refine zr_iloadn X 3 dX4_readNumber_5 rfl ?_
  refine zr_if_lt X 17 dX4_readNumber_6 (by decide) (fun q => absurd q (nI_pos (by omega))) (fun _ => ?_)
  refine zr_iloadn X 3 dX4_readNumber_9 rfl ?_
  refine zr_if_ne X 20 dX4_readNumber_10 (by decide) (fun h10 => ?_) (fun h10 => ?_)
  · refine zr_aloadn X 0 dX4_readNumber_20 rfl ?_
    refine zr_dup X dX4_readNumber_21 rfl ?_
    refine zr_get X (ci := 4) (q := 7) zI (.int (nI (p))) dX4_readNumber_22 (by omega) sc_293 rfl inX4 (by decide) rfl (congrArg Value.int (hp)) rfl k_195 ?_
    refine zr_iconst X (nI (1)) dX4_readNumber_25 (by decide +kernel) ?_
    refine zr_iadd X (nI (p + 1)) dX4_readNumber_26 (nI_add _ _) ?_
    refine zr_put X (ci := 4) (q := 7) (ty0 := tyX4) (ty := .int) (2497) dX4_readNumber_27 (by omega) sc_293 rfl inX4 tyX4_ok nmX4 (by decide) rfl rfl rfl rfl rfl rfl k_195 (by omega) ?_
    refine zr_iloadn X 3 dX4_readNumber_30 rfl ?_
    refine zr_istore X [1, 2, 3, 4, 0] [(0, .ref (ad (293))), (1, .int (nI (1))), (2, .int (nI (1))), (3, .int (nI ((zdg w p)))), (4, .int (nI ((zdg w p))))] dX4_readNumber_31 (by decide) rfl ?_
    refine zr_iconst X (nI (1)) dX4_readNumber_33 (by decide +kernel) ?_
    refine zr_istore X [1, 2, 3, 4, 5, 0] [(0, .ref (ad (293))), (1, .int (nI (1))), (2, .int (nI (1))), (3, .int (nI ((zdg w p)))), (4, .int (nI ((zdg w p)))), (5, .int (nI (1)))] dX4_readNumber_34 (by decide) rfl ?_
    refine zr_forH X (0) (fun q => zmo1 w n 1 true 0 p = zmo1 w n (0 - q) false (zval w p (q + 1)) (p + q + 1)) (fun q => (upd μ (2497) (nI (p + q + 1)))) (fun q => [(0, .ref (ad (293))), (1, .int (nI (1))), (2, .int (nI (1))), (3, .int (nI ((zdg w p)))), (4, .int (nI ((zval w p (q + 1))))), (5, .int (nI (q + 1)))]) [] (zmo1_go (d := 0) hd (Or.inl rfl)) (rfl) (by simp [zval]) (fun hP36 => ?_) ?_
    · refine zr_iload X 5 dX4_readNumber_36 rfl ?_
      refine zr_iloadn X 1 dX4_readNumber_38 rfl ?_
      refine zr_icmp_ge X 82 dX4_readNumber_39 (by decide) (fun _ => ?_) (fun q => absurd (zq_le (by omega) (by omega)) q)
      refine zr_iload X 4 dX4_readNumber_82 rfl ?_
      exact zr_iret X dX4_readNumber_84 ⟨by rw [← ha]; unfold znv; rw [hP36, zmo1_end (Or.inl rfl)]; try rfl, by rw [← hb]; unfold znq; rw [hP36, zmo1_end (Or.inl rfl)]; try rfl⟩
    · intro q hq hP36 ih36
      refine zr_iload X 5 dX4_readNumber_36 rfl ?_
      refine zr_iloadn X 1 dX4_readNumber_38 rfl ?_
      refine zr_icmp_ge X 82 dX4_readNumber_39 (by decide) (fun q => absurd q (nI_ge (by omega) (by omega))) (fun _ => ?_)
      refine zr_iload X 4 dX4_readNumber_42 rfl ?_
      refine zr_if_le X 82 dX4_readNumber_44 (by decide) (fun h44 => ?_) (fun h44 => ?_)
      · have h44 : zval w p (q + 1) = 0 := by rw [← nI_0] at h44; have hz := zval_ub (w := w) (p := p) (i := q + 1) (by omega); have := (nI_leI (by omega) (by omega)).mp h44; omega
        refine zr_iload X 4 dX4_readNumber_82 rfl ?_
        exact zr_iret X dX4_readNumber_84 ⟨by rw [← ha]; unfold znv; rw [hP36, zmo1_end (Or.inr (Or.inr ⟨rfl, h44⟩))]; try rfl, by rw [← hb]; unfold znq; rw [hP36, zmo1_end (Or.inr (Or.inr ⟨rfl, h44⟩))]; try rfl⟩
      · have h44 : 0 < zval w p (q + 1) := Nat.pos_of_ne_zero (fun q => h44 (by rw [q]; decide +kernel))
        refine zr_aloadn X 0 dX4_readNumber_47 rfl ?_
        by_cases hd36 : p + q + 1 < n ∧ nI 48 ≤ w (p + q + 1) ∧ w (p + q + 1) ≤ nI 57
        · have hz9 := zdg_9 w (p + q + 1)
          refine zr_dVi (C := RX4) (ci := 4) [] [] X (zK_ok A D tc tF tL tM) (d_digit_t E (upd μ (2497) (nI (p + q + 1))) (fun z hz => ((pk_un (by omega)).trans (rfl)).trans (hw z hz)) (p := p + q + 1) (pk_us) (by omega) ((pk_un (by omega)).trans (hn)) hn2 hd36) k_406 k_407 k_408 k_6 k_409 hdX4_digitHere ⟨rfl, rfl⟩ ⟨Nat.le_of_ble_eq_true rfl, Nat.le_of_ble_eq_true rfl⟩ (by omega) sc_293 rfl rfl rfl (Nat.le_of_ble_eq_true rfl) dX4_readNumber_48 ?_
          refine zr_if_lt X 82 dX4_readNumber_51 (by decide) (fun q => absurd q (nI_pos (by omega))) (fun _ => ?_)
          refine zr_iload X 4 dX4_readNumber_54 rfl ?_
          refine zr_bipush X (nI (10)) dX4_readNumber_56 (by decide +kernel) ?_
          refine zr_imul X (nI (10 * (zval w p (q + 1)))) dX4_readNumber_58 ((pk_mul _ _).trans (congrArg nI (by omega))) ?_
          refine zr_aloadn X 0 dX4_readNumber_59 rfl ?_
          refine zr_dVi (C := RX4) (ci := 4) [] [.int (nI (10 * (zval w p (q + 1))))] X (zK_ok A D tc tF tL tM) (d_digit_t E (upd μ (2497) (nI (p + q + 1))) (fun z hz => ((pk_un (by omega)).trans (rfl)).trans (hw z hz)) (p := p + q + 1) (pk_us) (by omega) ((pk_un (by omega)).trans (hn)) hn2 hd36) k_406 k_407 k_408 k_6 k_409 hdX4_digitHere ⟨rfl, rfl⟩ ⟨Nat.le_of_ble_eq_true rfl, Nat.le_of_ble_eq_true rfl⟩ (by omega) sc_293 rfl rfl rfl (Nat.le_of_ble_eq_true rfl) dX4_readNumber_60 ?_
          refine zr_iadd X (nI ((zdg w (p + q + 1)) + 10 * (zval w p (q + 1)))) dX4_readNumber_63 ((nI_add _ _).trans (congrArg nI (by omega))) ?_
          refine zr_istore X [1, 2, 3, 4, 0, 5] [(0, .ref (ad (293))), (1, .int (nI (1))), (2, .int (nI (1))), (3, .int (nI ((zdg w p)))), (4, .int (nI ((zdg w (p + q + 1)) + 10 * (zval w p (q + 1))))), (5, .int (nI (q + 1)))] dX4_readNumber_64 (by decide) rfl ?_
          refine zr_aloadn X 0 dX4_readNumber_66 rfl ?_
          refine zr_dup X dX4_readNumber_67 rfl ?_
          refine zr_get X (ci := 4) (q := 7) zI (.int (nI (p + q + 1))) dX4_readNumber_68 (by omega) sc_293 rfl inX4 (by decide) rfl (congrArg Value.int (pk_us)) rfl k_195 ?_
          refine zr_iconst X (nI (1)) dX4_readNumber_71 (by decide +kernel) ?_
          refine zr_iadd X (nI (p + q + 2)) dX4_readNumber_72 ((nI_add _ _).trans (congrArg nI (by omega))) ?_
          refine zr_put X (ci := 4) (q := 7) (ty0 := tyX4) (ty := .int) (2497) dX4_readNumber_73 (by omega) sc_293 rfl inX4 tyX4_ok nmX4 (by decide) rfl rfl rfl rfl rfl rfl k_195 (by omega) ?_
          refine zr_iinc X 5 (nI (q + 2)) [1, 2, 3, 4, 5, 0] [(0, .ref (ad (293))), (1, .int (nI (1))), (2, .int (nI (1))), (3, .int (nI ((zdg w p)))), (4, .int (nI ((zdg w (p + q + 1)) + 10 * (zval w p (q + 1))))), (5, .int (nI (q + 2)))] dX4_readNumber_76 rfl (zinc _) (by decide) rfl ?_
          refine zr_goto X 36 dX4_readNumber_79 (by decide) ?_
          exact zr_mem X zupd_twice (zr_lv X (by rw [show zval w p (q + 1 + 1) = zdg w (p + q + 1) + 10 * zval w p (q + 1) from Nat.add_comm _ _]) (ih36 (hP36.trans (by rw [show 0 - q = 0 - (q + 1) + 1 by omega, zmo1_go hd36 (Or.inr h44)]; rfl))))
        · refine zr_dVi (C := RX4) (ci := 4) [] [] X (zK_ok A D tc tF tL tM) (d_digit_f E (upd μ (2497) (nI (p + q + 1))) (fun z hz => ((pk_un (by omega)).trans (rfl)).trans (hw z hz)) (p := p + q + 1) (pk_us) (by omega) ((pk_un (by omega)).trans (hn)) hn2 hd36) k_406 k_407 k_408 k_6 k_409 hdX4_digitHere ⟨rfl, rfl⟩ ⟨Nat.le_of_ble_eq_true rfl, Nat.le_of_ble_eq_true rfl⟩ (by omega) sc_293 rfl rfl rfl (Nat.le_of_ble_eq_true rfl) dX4_readNumber_48 ?_
          refine zr_if_lt X 82 dX4_readNumber_51 (by decide) (fun _ => ?_) (fun q => absurd (by decide) q)
          refine zr_iload X 4 dX4_readNumber_82 rfl ?_
          exact zr_iret X dX4_readNumber_84 ⟨by rw [← ha]; unfold znv; rw [hP36, zmo1_end (Or.inr (Or.inl hd36))]; try rfl, by rw [← hb]; unfold znq; rw [hP36, zmo1_end (Or.inr (Or.inl hd36))]; try rfl⟩
  · refine zr_iloadn X 2 dX4_readNumber_13 rfl ?_
    refine zr_if_ne X 20 dX4_readNumber_14 (by decide) (fun _ => ?_) (fun q => absurd q (nI_ne0 (by omega) (by omega)))
    refine zr_aloadn X 0 dX4_readNumber_20 rfl ?_
    refine zr_dup X dX4_readNumber_21 rfl ?_
    refine zr_get X (ci := 4) (q := 7) zI (.int (nI (p))) dX4_readNumber_22 (by omega) sc_293 rfl inX4 (by decide) rfl (congrArg Value.int (hp)) rfl k_195 ?_
    refine zr_iconst X (nI (1)) dX4_readNumber_25 (by decide +kernel) ?_
    refine zr_iadd X (nI (p + 1)) dX4_readNumber_26 (nI_add _ _) ?_
    refine zr_put X (ci := 4) (q := 7) (ty0 := tyX4) (ty := .int) (2497) dX4_readNumber_27 (by omega) sc_293 rfl inX4 tyX4_ok nmX4 (by decide) rfl rfl rfl rfl rfl rfl k_195 (by omega) ?_
    refine zr_iloadn X 3 dX4_readNumber_30 rfl ?_
    refine zr_istore X [1, 2, 3, 4, 0] [(0, .ref (ad (293))), (1, .int (nI (1))), (2, .int (nI (1))), (3, .int (nI ((zdg w p)))), (4, .int (nI ((zdg w p))))] dX4_readNumber_31 (by decide) rfl ?_
    refine zr_iconst X (nI (1)) dX4_readNumber_33 (by decide +kernel) ?_
    refine zr_istore X [1, 2, 3, 4, 5, 0] [(0, .ref (ad (293))), (1, .int (nI (1))), (2, .int (nI (1))), (3, .int (nI ((zdg w p)))), (4, .int (nI ((zdg w p)))), (5, .int (nI (1)))] dX4_readNumber_34 (by decide) rfl ?_
    refine zr_forH X (0) (fun q => zmo1 w n 1 true 0 p = zmo1 w n (0 - q) false (zval w p (q + 1)) (p + q + 1)) (fun q => (upd μ (2497) (nI (p + q + 1)))) (fun q => [(0, .ref (ad (293))), (1, .int (nI (1))), (2, .int (nI (1))), (3, .int (nI ((zdg w p)))), (4, .int (nI ((zval w p (q + 1))))), (5, .int (nI (q + 1)))]) [] (zmo1_go (d := 0) hd (Or.inl rfl)) (rfl) (by simp [zval]) (fun hP36 => ?_) ?_
    · refine zr_iload X 5 dX4_readNumber_36 rfl ?_
      refine zr_iloadn X 1 dX4_readNumber_38 rfl ?_
      refine zr_icmp_ge X 82 dX4_readNumber_39 (by decide) (fun _ => ?_) (fun q => absurd (zq_le (by omega) (by omega)) q)
      refine zr_iload X 4 dX4_readNumber_82 rfl ?_
      exact zr_iret X dX4_readNumber_84 ⟨by rw [← ha]; unfold znv; rw [hP36, zmo1_end (Or.inl rfl)]; try rfl, by rw [← hb]; unfold znq; rw [hP36, zmo1_end (Or.inl rfl)]; try rfl⟩
    · intro q hq hP36 ih36
      refine zr_iload X 5 dX4_readNumber_36 rfl ?_
      refine zr_iloadn X 1 dX4_readNumber_38 rfl ?_
      refine zr_icmp_ge X 82 dX4_readNumber_39 (by decide) (fun q => absurd q (nI_ge (by omega) (by omega))) (fun _ => ?_)
      refine zr_iload X 4 dX4_readNumber_42 rfl ?_
      refine zr_if_le X 82 dX4_readNumber_44 (by decide) (fun h44 => ?_) (fun h44 => ?_)
      · have h44 : zval w p (q + 1) = 0 := by rw [← nI_0] at h44; have hz := zval_ub (w := w) (p := p) (i := q + 1) (by omega); have := (nI_leI (by omega) (by omega)).mp h44; omega
        refine zr_iload X 4 dX4_readNumber_82 rfl ?_
        exact zr_iret X dX4_readNumber_84 ⟨by rw [← ha]; unfold znv; rw [hP36, zmo1_end (Or.inr (Or.inr ⟨rfl, h44⟩))]; try rfl, by rw [← hb]; unfold znq; rw [hP36, zmo1_end (Or.inr (Or.inr ⟨rfl, h44⟩))]; try rfl⟩
      · have h44 : 0 < zval w p (q + 1) := Nat.pos_of_ne_zero (fun q => h44 (by rw [q]; decide +kernel))
        refine zr_aloadn X 0 dX4_readNumber_47 rfl ?_
        by_cases hd36 : p + q + 1 < n ∧ nI 48 ≤ w (p + q + 1) ∧ w (p + q + 1) ≤ nI 57
        · have hz9 := zdg_9 w (p + q + 1)
          refine zr_dVi (C := RX4) (ci := 4) [] [] X (zK_ok A D tc tF tL tM) (d_digit_t E (upd μ (2497) (nI (p + q + 1))) (fun z hz => ((pk_un (by omega)).trans (rfl)).trans (hw z hz)) (p := p + q + 1) (pk_us) (by omega) ((pk_un (by omega)).trans (hn)) hn2 hd36) k_406 k_407 k_408 k_6 k_409 hdX4_digitHere ⟨rfl, rfl⟩ ⟨Nat.le_of_ble_eq_true rfl, Nat.le_of_ble_eq_true rfl⟩ (by omega) sc_293 rfl rfl rfl (Nat.le_of_ble_eq_true rfl) dX4_readNumber_48 ?_
          refine zr_if_lt X 82 dX4_readNumber_51 (by decide) (fun q => absurd q (nI_pos (by omega))) (fun _ => ?_)
          refine zr_iload X 4 dX4_readNumber_54 rfl ?_
          refine zr_bipush X (nI (10)) dX4_readNumber_56 (by decide +kernel) ?_
          refine zr_imul X (nI (10 * (zval w p (q + 1)))) dX4_readNumber_58 ((pk_mul _ _).trans (congrArg nI (by omega))) ?_
          refine zr_aloadn X 0 dX4_readNumber_59 rfl ?_
          refine zr_dVi (C := RX4) (ci := 4) [] [.int (nI (10 * (zval w p (q + 1))))] X (zK_ok A D tc tF tL tM) (d_digit_t E (upd μ (2497) (nI (p + q + 1))) (fun z hz => ((pk_un (by omega)).trans (rfl)).trans (hw z hz)) (p := p + q + 1) (pk_us) (by omega) ((pk_un (by omega)).trans (hn)) hn2 hd36) k_406 k_407 k_408 k_6 k_409 hdX4_digitHere ⟨rfl, rfl⟩ ⟨Nat.le_of_ble_eq_true rfl, Nat.le_of_ble_eq_true rfl⟩ (by omega) sc_293 rfl rfl rfl (Nat.le_of_ble_eq_true rfl) dX4_readNumber_60 ?_
          refine zr_iadd X (nI ((zdg w (p + q + 1)) + 10 * (zval w p (q + 1)))) dX4_readNumber_63 ((nI_add _ _).trans (congrArg nI (by omega))) ?_
          refine zr_istore X [1, 2, 3, 4, 0, 5] [(0, .ref (ad (293))), (1, .int (nI (1))), (2, .int (nI (1))), (3, .int (nI ((zdg w p)))), (4, .int (nI ((zdg w (p + q + 1)) + 10 * (zval w p (q + 1))))), (5, .int (nI (q + 1)))] dX4_readNumber_64 (by decide) rfl ?_
          refine zr_aloadn X 0 dX4_readNumber_66 rfl ?_
          refine zr_dup X dX4_readNumber_67 rfl ?_
          refine zr_get X (ci := 4) (q := 7) zI (.int (nI (p + q + 1))) dX4_readNumber_68 (by omega) sc_293 rfl inX4 (by decide) rfl (congrArg Value.int (pk_us)) rfl k_195 ?_
          refine zr_iconst X (nI (1)) dX4_readNumber_71 (by decide +kernel) ?_
          refine zr_iadd X (nI (p + q + 2)) dX4_readNumber_72 ((nI_add _ _).trans (congrArg nI (by omega))) ?_
          refine zr_put X (ci := 4) (q := 7) (ty0 := tyX4) (ty := .int) (2497) dX4_readNumber_73 (by omega) sc_293 rfl inX4 tyX4_ok nmX4 (by decide) rfl rfl rfl rfl rfl rfl k_195 (by omega) ?_
          refine zr_iinc X 5 (nI (q + 2)) [1, 2, 3, 4, 5, 0] [(0, .ref (ad (293))), (1, .int (nI (1))), (2, .int (nI (1))), (3, .int (nI ((zdg w p)))), (4, .int (nI ((zdg w (p + q + 1)) + 10 * (zval w p (q + 1))))), (5, .int (nI (q + 2)))] dX4_readNumber_76 rfl (zinc _) (by decide) rfl ?_
          refine zr_goto X 36 dX4_readNumber_79 (by decide) ?_
          exact zr_mem X zupd_twice (zr_lv X (by rw [show zval w p (q + 1 + 1) = zdg w (p + q + 1) + 10 * zval w p (q + 1) from Nat.add_comm _ _]) (ih36 (hP36.trans (by rw [show 0 - q = 0 - (q + 1) + 1 by omega, zmo1_go hd36 (Or.inr h44)]; rfl))))
        · refine zr_dVi (C := RX4) (ci := 4) [] [] X (zK_ok A D tc tF tL tM) (d_digit_f E (upd μ (2497) (nI (p + q + 1))) (fun z hz => ((pk_un (by omega)).trans (rfl)).trans (hw z hz)) (p := p + q + 1) (pk_us) (by omega) ((pk_un (by omega)).trans (hn)) hn2 hd36) k_406 k_407 k_408 k_6 k_409 hdX4_digitHere ⟨rfl, rfl⟩ ⟨Nat.le_of_ble_eq_true rfl, Nat.le_of_ble_eq_true rfl⟩ (by omega) sc_293 rfl rfl rfl (Nat.le_of_ble_eq_true rfl) dX4_readNumber_48 ?_
          refine zr_if_lt X 82 dX4_readNumber_51 (by decide) (fun _ => ?_) (fun q => absurd (by decide) q)
          refine zr_iload X 4 dX4_readNumber_82 rfl ?_
          exact zr_iret X dX4_readNumber_84 ⟨by rw [← ha]; unfold znv; rw [hP36, zmo1_end (Or.inr (Or.inl hd36))]; try rfl, by rw [← hb]; unfold znq; rw [hP36, zmo1_end (Or.inr (Or.inl hd36))]; try rfl⟩

set_option maxHeartbeats 4000000 in
set_option maxRecDepth 100000 in
theorem d_rn2_f {l : Launch} {D : va_G} {tc : Nat → ClassId} {ad : Nat → Nat} {A : Nat → Prop} {tF tL tM : Nat} (E : zN 299 A ad) (μ : Nat → Int32) {w : Nat → Int32} (hw : ∀ q, q < 60 → μ (q + 2500) = w q) {p : Nat} (hp : μ 2497 = nI p) (hp3 : p ≤ 64) {n : Nat} (hn : μ 2491 = nI n) (hn2 : n ≤ 60) (h : ¬ znum w n 1 p) : zMi l yX4_readNumber cX4_readNumber 6 (some .int) (zrm 2) (zK A D tc tF tL tM) A D vwCl tc ad 299 shC [.ref (ad (293)), .int (nI (2)), .int (nI (1))] μ (fun r u => r = -5 ∧ u = μ) := by
  refine zM_of RX4 [(0, .ref (ad (293))), (1, .int (nI (2))), (2, .int (nI (1)))] (zK_ok A D tc tF tL tM) E.1 E.2 owC_ok (by decide +kernel) rfl (Nat.le_of_ble_eq_true rfl) rfl ?_
  intro pP eE sS mM aS bL mT cO X
  refine zr_aloadn X 0 dX4_readNumber_0 rfl ?_
  by_cases hd : p < n ∧ nI 48 ≤ w p ∧ w p ≤ nI 57
  · exact absurd ⟨hd, Or.inl rfl⟩ h
  · refine zr_dVi (C := RX4) (ci := 4) [] [] X (zK_ok A D tc tF tL tM) (d_digit_f E μ hw (p := p) (hp) (by omega) (hn) hn2 hd) k_406 k_407 k_408 k_6 k_409 hdX4_digitHere ⟨rfl, rfl⟩ ⟨Nat.le_of_ble_eq_true rfl, Nat.le_of_ble_eq_true rfl⟩ (by omega) sc_293 rfl rfl rfl (Nat.le_of_ble_eq_true rfl) dX4_readNumber_1 ?_
    refine zr_istoren X [1, 2, 3, 0] [(0, .ref (ad (293))), (1, .int (nI (2))), (2, .int (nI (1))), (3, .int (-5))] dX4_readNumber_4 (by decide) rfl ?_
    refine zr_iloadn X 3 dX4_readNumber_5 rfl ?_
    refine zr_if_lt X 17 dX4_readNumber_6 (by decide) (fun _ => ?_) (fun q => absurd (by decide) q)
    refine zr_bipush X (-5) dX4_readNumber_17 (by decide +kernel) ?_
    exact zr_iret X dX4_readNumber_19 ⟨rfl, rfl⟩

set_option maxHeartbeats 4000000 in
set_option maxRecDepth 100000 in
theorem d_rn2_t {l : Launch} {D : va_G} {tc : Nat → ClassId} {ad : Nat → Nat} {A : Nat → Prop} {tF tL tM : Nat} (E : zN 299 A ad) (μ : Nat → Int32) {w : Nat → Int32} (hw : ∀ q, q < 60 → μ (q + 2500) = w q) {p : Nat} (hp : μ 2497 = nI p) (hp3 : p ≤ 64) {n : Nat} (hn : μ 2491 = nI n) (hn2 : n ≤ 60) (h : znum w n 1 p) {a b : Nat} (ha : znv w n 2 p = a) (hb : znq w n 2 p = b) : zMi l yX4_readNumber cX4_readNumber 6 (some .int) (zrm 2) (zK A D tc tF tL tM) A D vwCl tc ad 299 shC [.ref (ad (293)), .int (nI (2)), .int (nI (1))] μ (fun r u => r = nI a ∧ u = upd μ 2497 (nI (b))) := by
  refine zM_of RX4 [(0, .ref (ad (293))), (1, .int (nI (2))), (2, .int (nI (1)))] (zK_ok A D tc tF tL tM) E.1 E.2 owC_ok (by decide +kernel) rfl (Nat.le_of_ble_eq_true rfl) rfl ?_
  intro pP eE sS mM aS bL mT cO X
  obtain ⟨hd, hz⟩ := h
  have hlt := hd.1
  have hz9 := zdg_9 w p
  refine zr_aloadn X 0 dX4_readNumber_0 rfl ?_
  refine zr_dVi (C := RX4) (ci := 4) [] [] X (zK_ok A D tc tF tL tM) (d_digit_t E μ hw (p := p) (hp) (by omega) (hn) hn2 hd) k_406 k_407 k_408 k_6 k_409 hdX4_digitHere ⟨rfl, rfl⟩ ⟨Nat.le_of_ble_eq_true rfl, Nat.le_of_ble_eq_true rfl⟩ (by omega) sc_293 rfl rfl rfl (Nat.le_of_ble_eq_true rfl) dX4_readNumber_1 ?_
  refine zr_istoren X [1, 2, 3, 0] [(0, .ref (ad (293))), (1, .int (nI (2))), (2, .int (nI (1))), (3, .int (nI ((zdg w p))))] dX4_readNumber_4 (by decide) rfl ?_
  refine zr_iloadn X 3 dX4_readNumber_5 rfl ?_
  refine zr_if_lt X 17 dX4_readNumber_6 (by decide) (fun q => absurd q (nI_pos (by omega))) (fun _ => ?_)
  refine zr_iloadn X 3 dX4_readNumber_9 rfl ?_
  refine zr_if_ne X 20 dX4_readNumber_10 (by decide) (fun h10 => ?_) (fun h10 => ?_)
  · refine zr_aloadn X 0 dX4_readNumber_20 rfl ?_
    refine zr_dup X dX4_readNumber_21 rfl ?_
    refine zr_get X (ci := 4) (q := 7) zI (.int (nI (p))) dX4_readNumber_22 (by omega) sc_293 rfl inX4 (by decide) rfl (congrArg Value.int (hp)) rfl k_195 ?_
    refine zr_iconst X (nI (1)) dX4_readNumber_25 (by decide +kernel) ?_
    refine zr_iadd X (nI (p + 1)) dX4_readNumber_26 (nI_add _ _) ?_
    refine zr_put X (ci := 4) (q := 7) (ty0 := tyX4) (ty := .int) (2497) dX4_readNumber_27 (by omega) sc_293 rfl inX4 tyX4_ok nmX4 (by decide) rfl rfl rfl rfl rfl rfl k_195 (by omega) ?_
    refine zr_iloadn X 3 dX4_readNumber_30 rfl ?_
    refine zr_istore X [1, 2, 3, 4, 0] [(0, .ref (ad (293))), (1, .int (nI (2))), (2, .int (nI (1))), (3, .int (nI ((zdg w p)))), (4, .int (nI ((zdg w p))))] dX4_readNumber_31 (by decide) rfl ?_
    refine zr_iconst X (nI (1)) dX4_readNumber_33 (by decide +kernel) ?_
    refine zr_istore X [1, 2, 3, 4, 5, 0] [(0, .ref (ad (293))), (1, .int (nI (2))), (2, .int (nI (1))), (3, .int (nI ((zdg w p)))), (4, .int (nI ((zdg w p)))), (5, .int (nI (1)))] dX4_readNumber_34 (by decide) rfl ?_
    refine zr_forH X (1) (fun q => zmo1 w n 2 true 0 p = zmo1 w n (1 - q) false (zval w p (q + 1)) (p + q + 1)) (fun q => (upd μ (2497) (nI (p + q + 1)))) (fun q => [(0, .ref (ad (293))), (1, .int (nI (2))), (2, .int (nI (1))), (3, .int (nI ((zdg w p)))), (4, .int (nI ((zval w p (q + 1))))), (5, .int (nI (q + 1)))]) [] (zmo1_go (d := 1) hd (Or.inl rfl)) (rfl) (by simp [zval]) (fun hP36 => ?_) ?_
    · refine zr_iload X 5 dX4_readNumber_36 rfl ?_
      refine zr_iloadn X 1 dX4_readNumber_38 rfl ?_
      refine zr_icmp_ge X 82 dX4_readNumber_39 (by decide) (fun _ => ?_) (fun q => absurd (zq_le (by omega) (by omega)) q)
      refine zr_iload X 4 dX4_readNumber_82 rfl ?_
      exact zr_iret X dX4_readNumber_84 ⟨by rw [← ha]; unfold znv; rw [hP36, zmo1_end (Or.inl rfl)]; try rfl, by rw [← hb]; unfold znq; rw [hP36, zmo1_end (Or.inl rfl)]; try rfl⟩
    · intro q hq hP36 ih36
      refine zr_iload X 5 dX4_readNumber_36 rfl ?_
      refine zr_iloadn X 1 dX4_readNumber_38 rfl ?_
      refine zr_icmp_ge X 82 dX4_readNumber_39 (by decide) (fun q => absurd q (nI_ge (by omega) (by omega))) (fun _ => ?_)
      refine zr_iload X 4 dX4_readNumber_42 rfl ?_
      refine zr_if_le X 82 dX4_readNumber_44 (by decide) (fun h44 => ?_) (fun h44 => ?_)
      · have h44 : zval w p (q + 1) = 0 := by rw [← nI_0] at h44; have hz := zval_ub (w := w) (p := p) (i := q + 1) (by omega); have := (nI_leI (by omega) (by omega)).mp h44; omega
        refine zr_iload X 4 dX4_readNumber_82 rfl ?_
        exact zr_iret X dX4_readNumber_84 ⟨by rw [← ha]; unfold znv; rw [hP36, zmo1_end (Or.inr (Or.inr ⟨rfl, h44⟩))]; try rfl, by rw [← hb]; unfold znq; rw [hP36, zmo1_end (Or.inr (Or.inr ⟨rfl, h44⟩))]; try rfl⟩
      · have h44 : 0 < zval w p (q + 1) := Nat.pos_of_ne_zero (fun q => h44 (by rw [q]; decide +kernel))
        refine zr_aloadn X 0 dX4_readNumber_47 rfl ?_
        by_cases hd36 : p + q + 1 < n ∧ nI 48 ≤ w (p + q + 1) ∧ w (p + q + 1) ≤ nI 57
        · have hz9 := zdg_9 w (p + q + 1)
          refine zr_dVi (C := RX4) (ci := 4) [] [] X (zK_ok A D tc tF tL tM) (d_digit_t E (upd μ (2497) (nI (p + q + 1))) (fun z hz => ((pk_un (by omega)).trans (rfl)).trans (hw z hz)) (p := p + q + 1) (pk_us) (by omega) ((pk_un (by omega)).trans (hn)) hn2 hd36) k_406 k_407 k_408 k_6 k_409 hdX4_digitHere ⟨rfl, rfl⟩ ⟨Nat.le_of_ble_eq_true rfl, Nat.le_of_ble_eq_true rfl⟩ (by omega) sc_293 rfl rfl rfl (Nat.le_of_ble_eq_true rfl) dX4_readNumber_48 ?_
          refine zr_if_lt X 82 dX4_readNumber_51 (by decide) (fun q => absurd q (nI_pos (by omega))) (fun _ => ?_)
          refine zr_iload X 4 dX4_readNumber_54 rfl ?_
          refine zr_bipush X (nI (10)) dX4_readNumber_56 (by decide +kernel) ?_
          refine zr_imul X (nI (10 * (zval w p (q + 1)))) dX4_readNumber_58 ((pk_mul _ _).trans (congrArg nI (by omega))) ?_
          refine zr_aloadn X 0 dX4_readNumber_59 rfl ?_
          refine zr_dVi (C := RX4) (ci := 4) [] [.int (nI (10 * (zval w p (q + 1))))] X (zK_ok A D tc tF tL tM) (d_digit_t E (upd μ (2497) (nI (p + q + 1))) (fun z hz => ((pk_un (by omega)).trans (rfl)).trans (hw z hz)) (p := p + q + 1) (pk_us) (by omega) ((pk_un (by omega)).trans (hn)) hn2 hd36) k_406 k_407 k_408 k_6 k_409 hdX4_digitHere ⟨rfl, rfl⟩ ⟨Nat.le_of_ble_eq_true rfl, Nat.le_of_ble_eq_true rfl⟩ (by omega) sc_293 rfl rfl rfl (Nat.le_of_ble_eq_true rfl) dX4_readNumber_60 ?_
          refine zr_iadd X (nI ((zdg w (p + q + 1)) + 10 * (zval w p (q + 1)))) dX4_readNumber_63 ((nI_add _ _).trans (congrArg nI (by omega))) ?_
          refine zr_istore X [1, 2, 3, 4, 0, 5] [(0, .ref (ad (293))), (1, .int (nI (2))), (2, .int (nI (1))), (3, .int (nI ((zdg w p)))), (4, .int (nI ((zdg w (p + q + 1)) + 10 * (zval w p (q + 1))))), (5, .int (nI (q + 1)))] dX4_readNumber_64 (by decide) rfl ?_
          refine zr_aloadn X 0 dX4_readNumber_66 rfl ?_
          refine zr_dup X dX4_readNumber_67 rfl ?_
          refine zr_get X (ci := 4) (q := 7) zI (.int (nI (p + q + 1))) dX4_readNumber_68 (by omega) sc_293 rfl inX4 (by decide) rfl (congrArg Value.int (pk_us)) rfl k_195 ?_
          refine zr_iconst X (nI (1)) dX4_readNumber_71 (by decide +kernel) ?_
          refine zr_iadd X (nI (p + q + 2)) dX4_readNumber_72 ((nI_add _ _).trans (congrArg nI (by omega))) ?_
          refine zr_put X (ci := 4) (q := 7) (ty0 := tyX4) (ty := .int) (2497) dX4_readNumber_73 (by omega) sc_293 rfl inX4 tyX4_ok nmX4 (by decide) rfl rfl rfl rfl rfl rfl k_195 (by omega) ?_
          refine zr_iinc X 5 (nI (q + 2)) [1, 2, 3, 4, 5, 0] [(0, .ref (ad (293))), (1, .int (nI (2))), (2, .int (nI (1))), (3, .int (nI ((zdg w p)))), (4, .int (nI ((zdg w (p + q + 1)) + 10 * (zval w p (q + 1))))), (5, .int (nI (q + 2)))] dX4_readNumber_76 rfl (zinc _) (by decide) rfl ?_
          refine zr_goto X 36 dX4_readNumber_79 (by decide) ?_
          exact zr_mem X zupd_twice (zr_lv X (by rw [show zval w p (q + 1 + 1) = zdg w (p + q + 1) + 10 * zval w p (q + 1) from Nat.add_comm _ _]) (ih36 (hP36.trans (by rw [show 1 - q = 1 - (q + 1) + 1 by omega, zmo1_go hd36 (Or.inr h44)]; rfl))))
        · refine zr_dVi (C := RX4) (ci := 4) [] [] X (zK_ok A D tc tF tL tM) (d_digit_f E (upd μ (2497) (nI (p + q + 1))) (fun z hz => ((pk_un (by omega)).trans (rfl)).trans (hw z hz)) (p := p + q + 1) (pk_us) (by omega) ((pk_un (by omega)).trans (hn)) hn2 hd36) k_406 k_407 k_408 k_6 k_409 hdX4_digitHere ⟨rfl, rfl⟩ ⟨Nat.le_of_ble_eq_true rfl, Nat.le_of_ble_eq_true rfl⟩ (by omega) sc_293 rfl rfl rfl (Nat.le_of_ble_eq_true rfl) dX4_readNumber_48 ?_
          refine zr_if_lt X 82 dX4_readNumber_51 (by decide) (fun _ => ?_) (fun q => absurd (by decide) q)
          refine zr_iload X 4 dX4_readNumber_82 rfl ?_
          exact zr_iret X dX4_readNumber_84 ⟨by rw [← ha]; unfold znv; rw [hP36, zmo1_end (Or.inr (Or.inl hd36))]; try rfl, by rw [← hb]; unfold znq; rw [hP36, zmo1_end (Or.inr (Or.inl hd36))]; try rfl⟩
  · refine zr_iloadn X 2 dX4_readNumber_13 rfl ?_
    refine zr_if_ne X 20 dX4_readNumber_14 (by decide) (fun _ => ?_) (fun q => absurd q (nI_ne0 (by omega) (by omega)))
    refine zr_aloadn X 0 dX4_readNumber_20 rfl ?_
    refine zr_dup X dX4_readNumber_21 rfl ?_
    refine zr_get X (ci := 4) (q := 7) zI (.int (nI (p))) dX4_readNumber_22 (by omega) sc_293 rfl inX4 (by decide) rfl (congrArg Value.int (hp)) rfl k_195 ?_
    refine zr_iconst X (nI (1)) dX4_readNumber_25 (by decide +kernel) ?_
    refine zr_iadd X (nI (p + 1)) dX4_readNumber_26 (nI_add _ _) ?_
    refine zr_put X (ci := 4) (q := 7) (ty0 := tyX4) (ty := .int) (2497) dX4_readNumber_27 (by omega) sc_293 rfl inX4 tyX4_ok nmX4 (by decide) rfl rfl rfl rfl rfl rfl k_195 (by omega) ?_
    refine zr_iloadn X 3 dX4_readNumber_30 rfl ?_
    refine zr_istore X [1, 2, 3, 4, 0] [(0, .ref (ad (293))), (1, .int (nI (2))), (2, .int (nI (1))), (3, .int (nI ((zdg w p)))), (4, .int (nI ((zdg w p))))] dX4_readNumber_31 (by decide) rfl ?_
    refine zr_iconst X (nI (1)) dX4_readNumber_33 (by decide +kernel) ?_
    refine zr_istore X [1, 2, 3, 4, 5, 0] [(0, .ref (ad (293))), (1, .int (nI (2))), (2, .int (nI (1))), (3, .int (nI ((zdg w p)))), (4, .int (nI ((zdg w p)))), (5, .int (nI (1)))] dX4_readNumber_34 (by decide) rfl ?_
    refine zr_forH X (1) (fun q => zmo1 w n 2 true 0 p = zmo1 w n (1 - q) false (zval w p (q + 1)) (p + q + 1)) (fun q => (upd μ (2497) (nI (p + q + 1)))) (fun q => [(0, .ref (ad (293))), (1, .int (nI (2))), (2, .int (nI (1))), (3, .int (nI ((zdg w p)))), (4, .int (nI ((zval w p (q + 1))))), (5, .int (nI (q + 1)))]) [] (zmo1_go (d := 1) hd (Or.inl rfl)) (rfl) (by simp [zval]) (fun hP36 => ?_) ?_
    · refine zr_iload X 5 dX4_readNumber_36 rfl ?_
      refine zr_iloadn X 1 dX4_readNumber_38 rfl ?_
      refine zr_icmp_ge X 82 dX4_readNumber_39 (by decide) (fun _ => ?_) (fun q => absurd (zq_le (by omega) (by omega)) q)
      refine zr_iload X 4 dX4_readNumber_82 rfl ?_
      exact zr_iret X dX4_readNumber_84 ⟨by rw [← ha]; unfold znv; rw [hP36, zmo1_end (Or.inl rfl)]; try rfl, by rw [← hb]; unfold znq; rw [hP36, zmo1_end (Or.inl rfl)]; try rfl⟩
    · intro q hq hP36 ih36
      refine zr_iload X 5 dX4_readNumber_36 rfl ?_
      refine zr_iloadn X 1 dX4_readNumber_38 rfl ?_
      refine zr_icmp_ge X 82 dX4_readNumber_39 (by decide) (fun q => absurd q (nI_ge (by omega) (by omega))) (fun _ => ?_)
      refine zr_iload X 4 dX4_readNumber_42 rfl ?_
      refine zr_if_le X 82 dX4_readNumber_44 (by decide) (fun h44 => ?_) (fun h44 => ?_)
      · have h44 : zval w p (q + 1) = 0 := by rw [← nI_0] at h44; have hz := zval_ub (w := w) (p := p) (i := q + 1) (by omega); have := (nI_leI (by omega) (by omega)).mp h44; omega
        refine zr_iload X 4 dX4_readNumber_82 rfl ?_
        exact zr_iret X dX4_readNumber_84 ⟨by rw [← ha]; unfold znv; rw [hP36, zmo1_end (Or.inr (Or.inr ⟨rfl, h44⟩))]; try rfl, by rw [← hb]; unfold znq; rw [hP36, zmo1_end (Or.inr (Or.inr ⟨rfl, h44⟩))]; try rfl⟩
      · have h44 : 0 < zval w p (q + 1) := Nat.pos_of_ne_zero (fun q => h44 (by rw [q]; decide +kernel))
        refine zr_aloadn X 0 dX4_readNumber_47 rfl ?_
        by_cases hd36 : p + q + 1 < n ∧ nI 48 ≤ w (p + q + 1) ∧ w (p + q + 1) ≤ nI 57
        · have hz9 := zdg_9 w (p + q + 1)
          refine zr_dVi (C := RX4) (ci := 4) [] [] X (zK_ok A D tc tF tL tM) (d_digit_t E (upd μ (2497) (nI (p + q + 1))) (fun z hz => ((pk_un (by omega)).trans (rfl)).trans (hw z hz)) (p := p + q + 1) (pk_us) (by omega) ((pk_un (by omega)).trans (hn)) hn2 hd36) k_406 k_407 k_408 k_6 k_409 hdX4_digitHere ⟨rfl, rfl⟩ ⟨Nat.le_of_ble_eq_true rfl, Nat.le_of_ble_eq_true rfl⟩ (by omega) sc_293 rfl rfl rfl (Nat.le_of_ble_eq_true rfl) dX4_readNumber_48 ?_
          refine zr_if_lt X 82 dX4_readNumber_51 (by decide) (fun q => absurd q (nI_pos (by omega))) (fun _ => ?_)
          refine zr_iload X 4 dX4_readNumber_54 rfl ?_
          refine zr_bipush X (nI (10)) dX4_readNumber_56 (by decide +kernel) ?_
          refine zr_imul X (nI (10 * (zval w p (q + 1)))) dX4_readNumber_58 ((pk_mul _ _).trans (congrArg nI (by omega))) ?_
          refine zr_aloadn X 0 dX4_readNumber_59 rfl ?_
          refine zr_dVi (C := RX4) (ci := 4) [] [.int (nI (10 * (zval w p (q + 1))))] X (zK_ok A D tc tF tL tM) (d_digit_t E (upd μ (2497) (nI (p + q + 1))) (fun z hz => ((pk_un (by omega)).trans (rfl)).trans (hw z hz)) (p := p + q + 1) (pk_us) (by omega) ((pk_un (by omega)).trans (hn)) hn2 hd36) k_406 k_407 k_408 k_6 k_409 hdX4_digitHere ⟨rfl, rfl⟩ ⟨Nat.le_of_ble_eq_true rfl, Nat.le_of_ble_eq_true rfl⟩ (by omega) sc_293 rfl rfl rfl (Nat.le_of_ble_eq_true rfl) dX4_readNumber_60 ?_
          refine zr_iadd X (nI ((zdg w (p + q + 1)) + 10 * (zval w p (q + 1)))) dX4_readNumber_63 ((nI_add _ _).trans (congrArg nI (by omega))) ?_
          refine zr_istore X [1, 2, 3, 4, 0, 5] [(0, .ref (ad (293))), (1, .int (nI (2))), (2, .int (nI (1))), (3, .int (nI ((zdg w p)))), (4, .int (nI ((zdg w (p + q + 1)) + 10 * (zval w p (q + 1))))), (5, .int (nI (q + 1)))] dX4_readNumber_64 (by decide) rfl ?_
          refine zr_aloadn X 0 dX4_readNumber_66 rfl ?_
          refine zr_dup X dX4_readNumber_67 rfl ?_
          refine zr_get X (ci := 4) (q := 7) zI (.int (nI (p + q + 1))) dX4_readNumber_68 (by omega) sc_293 rfl inX4 (by decide) rfl (congrArg Value.int (pk_us)) rfl k_195 ?_
          refine zr_iconst X (nI (1)) dX4_readNumber_71 (by decide +kernel) ?_
          refine zr_iadd X (nI (p + q + 2)) dX4_readNumber_72 ((nI_add _ _).trans (congrArg nI (by omega))) ?_
          refine zr_put X (ci := 4) (q := 7) (ty0 := tyX4) (ty := .int) (2497) dX4_readNumber_73 (by omega) sc_293 rfl inX4 tyX4_ok nmX4 (by decide) rfl rfl rfl rfl rfl rfl k_195 (by omega) ?_
          refine zr_iinc X 5 (nI (q + 2)) [1, 2, 3, 4, 5, 0] [(0, .ref (ad (293))), (1, .int (nI (2))), (2, .int (nI (1))), (3, .int (nI ((zdg w p)))), (4, .int (nI ((zdg w (p + q + 1)) + 10 * (zval w p (q + 1))))), (5, .int (nI (q + 2)))] dX4_readNumber_76 rfl (zinc _) (by decide) rfl ?_
          refine zr_goto X 36 dX4_readNumber_79 (by decide) ?_
          exact zr_mem X zupd_twice (zr_lv X (by rw [show zval w p (q + 1 + 1) = zdg w (p + q + 1) + 10 * zval w p (q + 1) from Nat.add_comm _ _]) (ih36 (hP36.trans (by rw [show 1 - q = 1 - (q + 1) + 1 by omega, zmo1_go hd36 (Or.inr h44)]; rfl))))
        · refine zr_dVi (C := RX4) (ci := 4) [] [] X (zK_ok A D tc tF tL tM) (d_digit_f E (upd μ (2497) (nI (p + q + 1))) (fun z hz => ((pk_un (by omega)).trans (rfl)).trans (hw z hz)) (p := p + q + 1) (pk_us) (by omega) ((pk_un (by omega)).trans (hn)) hn2 hd36) k_406 k_407 k_408 k_6 k_409 hdX4_digitHere ⟨rfl, rfl⟩ ⟨Nat.le_of_ble_eq_true rfl, Nat.le_of_ble_eq_true rfl⟩ (by omega) sc_293 rfl rfl rfl (Nat.le_of_ble_eq_true rfl) dX4_readNumber_48 ?_
          refine zr_if_lt X 82 dX4_readNumber_51 (by decide) (fun _ => ?_) (fun q => absurd (by decide) q)
          refine zr_iload X 4 dX4_readNumber_82 rfl ?_
          exact zr_iret X dX4_readNumber_84 ⟨by rw [← ha]; unfold znv; rw [hP36, zmo1_end (Or.inr (Or.inl hd36))]; try rfl, by rw [← hb]; unfold znq; rw [hP36, zmo1_end (Or.inr (Or.inl hd36))]; try rfl⟩

set_option maxHeartbeats 4000000 in
set_option maxRecDepth 100000 in
theorem d_rn4_f {l : Launch} {D : va_G} {tc : Nat → ClassId} {ad : Nat → Nat} {A : Nat → Prop} {tF tL tM : Nat} (E : zN 299 A ad) (μ : Nat → Int32) {w : Nat → Int32} (hw : ∀ q, q < 60 → μ (q + 2500) = w q) {p : Nat} (hp : μ 2497 = nI p) (hp3 : p ≤ 64) {n : Nat} (hn : μ 2491 = nI n) (hn2 : n ≤ 60) (h : ¬ znum w n 0 p) : zMi l yX4_readNumber cX4_readNumber 6 (some .int) (zrm 2) (zK A D tc tF tL tM) A D vwCl tc ad 299 shC [.ref (ad (293)), .int (nI (4)), .int (nI (0))] μ (fun r u => r = -5 ∧ u = μ) := by
  refine zM_of RX4 [(0, .ref (ad (293))), (1, .int (nI (4))), (2, .int (nI (0)))] (zK_ok A D tc tF tL tM) E.1 E.2 owC_ok (by decide +kernel) rfl (Nat.le_of_ble_eq_true rfl) rfl ?_
  intro pP eE sS mM aS bL mT cO X
  refine zr_aloadn X 0 dX4_readNumber_0 rfl ?_
  by_cases hd : p < n ∧ nI 48 ≤ w p ∧ w p ≤ nI 57
  · have hz0 : zdg w p = 0 := by by_cases q : zdg w p = 0; exact q; exact absurd ⟨hd, Or.inr (Nat.pos_of_ne_zero q)⟩ h
    refine zr_dVi (C := RX4) (ci := 4) [] [] X (zK_ok A D tc tF tL tM) (d_digit_t E μ hw (p := p) (hp) (by omega) (hn) hn2 hd) k_406 k_407 k_408 k_6 k_409 hdX4_digitHere ⟨rfl, rfl⟩ ⟨Nat.le_of_ble_eq_true rfl, Nat.le_of_ble_eq_true rfl⟩ (by omega) sc_293 rfl rfl rfl (Nat.le_of_ble_eq_true rfl) dX4_readNumber_1 ?_
    refine zr_istoren X [1, 2, 3, 0] [(0, .ref (ad (293))), (1, .int (nI (4))), (2, .int (nI (0))), (3, .int (nI ((zdg w p))))] dX4_readNumber_4 (by decide) rfl ?_
    refine zr_iloadn X 3 dX4_readNumber_5 rfl ?_
    refine zr_if_lt X 17 dX4_readNumber_6 (by decide) (fun q => absurd q (nI_pos (by omega))) (fun _ => ?_)
    refine zr_iloadn X 3 dX4_readNumber_9 rfl ?_
    refine zr_if_ne X 20 dX4_readNumber_10 (by decide) (fun q => absurd (zq_eq0 (by omega)) q) (fun _ => ?_)
    refine zr_iloadn X 2 dX4_readNumber_13 rfl ?_
    refine zr_if_ne X 20 dX4_readNumber_14 (by decide) (fun q => absurd (zq_eq0 (by omega)) q) (fun _ => ?_)
    refine zr_bipush X (-5) dX4_readNumber_17 (by decide +kernel) ?_
    exact zr_iret X dX4_readNumber_19 ⟨rfl, rfl⟩
  · refine zr_dVi (C := RX4) (ci := 4) [] [] X (zK_ok A D tc tF tL tM) (d_digit_f E μ hw (p := p) (hp) (by omega) (hn) hn2 hd) k_406 k_407 k_408 k_6 k_409 hdX4_digitHere ⟨rfl, rfl⟩ ⟨Nat.le_of_ble_eq_true rfl, Nat.le_of_ble_eq_true rfl⟩ (by omega) sc_293 rfl rfl rfl (Nat.le_of_ble_eq_true rfl) dX4_readNumber_1 ?_
    refine zr_istoren X [1, 2, 3, 0] [(0, .ref (ad (293))), (1, .int (nI (4))), (2, .int (nI (0))), (3, .int (-5))] dX4_readNumber_4 (by decide) rfl ?_
    refine zr_iloadn X 3 dX4_readNumber_5 rfl ?_
    refine zr_if_lt X 17 dX4_readNumber_6 (by decide) (fun _ => ?_) (fun q => absurd (by decide) q)
    refine zr_bipush X (-5) dX4_readNumber_17 (by decide +kernel) ?_
    exact zr_iret X dX4_readNumber_19 ⟨rfl, rfl⟩

set_option maxHeartbeats 4000000 in
set_option maxRecDepth 100000 in
theorem d_rn4_t {l : Launch} {D : va_G} {tc : Nat → ClassId} {ad : Nat → Nat} {A : Nat → Prop} {tF tL tM : Nat} (E : zN 299 A ad) (μ : Nat → Int32) {w : Nat → Int32} (hw : ∀ q, q < 60 → μ (q + 2500) = w q) {p : Nat} (hp : μ 2497 = nI p) (hp3 : p ≤ 64) {n : Nat} (hn : μ 2491 = nI n) (hn2 : n ≤ 60) (h : znum w n 0 p) {a b : Nat} (ha : znv w n 4 p = a) (hb : znq w n 4 p = b) : zMi l yX4_readNumber cX4_readNumber 6 (some .int) (zrm 2) (zK A D tc tF tL tM) A D vwCl tc ad 299 shC [.ref (ad (293)), .int (nI (4)), .int (nI (0))] μ (fun r u => r = nI a ∧ u = upd μ 2497 (nI (b))) := by
  refine zM_of RX4 [(0, .ref (ad (293))), (1, .int (nI (4))), (2, .int (nI (0)))] (zK_ok A D tc tF tL tM) E.1 E.2 owC_ok (by decide +kernel) rfl (Nat.le_of_ble_eq_true rfl) rfl ?_
  intro pP eE sS mM aS bL mT cO X
  obtain ⟨hd, hz⟩ := h
  have hlt := hd.1
  have hz9 := zdg_9 w p
  have hz0 : 0 < zdg w p := hz.resolve_left (by decide)
  refine zr_aloadn X 0 dX4_readNumber_0 rfl ?_
  refine zr_dVi (C := RX4) (ci := 4) [] [] X (zK_ok A D tc tF tL tM) (d_digit_t E μ hw (p := p) (hp) (by omega) (hn) hn2 hd) k_406 k_407 k_408 k_6 k_409 hdX4_digitHere ⟨rfl, rfl⟩ ⟨Nat.le_of_ble_eq_true rfl, Nat.le_of_ble_eq_true rfl⟩ (by omega) sc_293 rfl rfl rfl (Nat.le_of_ble_eq_true rfl) dX4_readNumber_1 ?_
  refine zr_istoren X [1, 2, 3, 0] [(0, .ref (ad (293))), (1, .int (nI (4))), (2, .int (nI (0))), (3, .int (nI ((zdg w p))))] dX4_readNumber_4 (by decide) rfl ?_
  refine zr_iloadn X 3 dX4_readNumber_5 rfl ?_
  refine zr_if_lt X 17 dX4_readNumber_6 (by decide) (fun q => absurd q (nI_pos (by omega))) (fun _ => ?_)
  refine zr_iloadn X 3 dX4_readNumber_9 rfl ?_
  refine zr_if_ne X 20 dX4_readNumber_10 (by decide) (fun _ => ?_) (fun q => absurd q (nI_ne0 (by omega) (by omega)))
  refine zr_aloadn X 0 dX4_readNumber_20 rfl ?_
  refine zr_dup X dX4_readNumber_21 rfl ?_
  refine zr_get X (ci := 4) (q := 7) zI (.int (nI (p))) dX4_readNumber_22 (by omega) sc_293 rfl inX4 (by decide) rfl (congrArg Value.int (hp)) rfl k_195 ?_
  refine zr_iconst X (nI (1)) dX4_readNumber_25 (by decide +kernel) ?_
  refine zr_iadd X (nI (p + 1)) dX4_readNumber_26 (nI_add _ _) ?_
  refine zr_put X (ci := 4) (q := 7) (ty0 := tyX4) (ty := .int) (2497) dX4_readNumber_27 (by omega) sc_293 rfl inX4 tyX4_ok nmX4 (by decide) rfl rfl rfl rfl rfl rfl k_195 (by omega) ?_
  refine zr_iloadn X 3 dX4_readNumber_30 rfl ?_
  refine zr_istore X [1, 2, 3, 4, 0] [(0, .ref (ad (293))), (1, .int (nI (4))), (2, .int (nI (0))), (3, .int (nI ((zdg w p)))), (4, .int (nI ((zdg w p))))] dX4_readNumber_31 (by decide) rfl ?_
  refine zr_iconst X (nI (1)) dX4_readNumber_33 (by decide +kernel) ?_
  refine zr_istore X [1, 2, 3, 4, 5, 0] [(0, .ref (ad (293))), (1, .int (nI (4))), (2, .int (nI (0))), (3, .int (nI ((zdg w p)))), (4, .int (nI ((zdg w p)))), (5, .int (nI (1)))] dX4_readNumber_34 (by decide) rfl ?_
  refine zr_forH X (3) (fun q => zmo1 w n 4 true 0 p = zmo1 w n (3 - q) false (zval w p (q + 1)) (p + q + 1)) (fun q => (upd μ (2497) (nI (p + q + 1)))) (fun q => [(0, .ref (ad (293))), (1, .int (nI (4))), (2, .int (nI (0))), (3, .int (nI ((zdg w p)))), (4, .int (nI ((zval w p (q + 1))))), (5, .int (nI (q + 1)))]) [] (zmo1_go (d := 3) hd (Or.inl rfl)) (rfl) (by simp [zval]) (fun hP36 => ?_) ?_
  · refine zr_iload X 5 dX4_readNumber_36 rfl ?_
    refine zr_iloadn X 1 dX4_readNumber_38 rfl ?_
    refine zr_icmp_ge X 82 dX4_readNumber_39 (by decide) (fun _ => ?_) (fun q => absurd (zq_le (by omega) (by omega)) q)
    refine zr_iload X 4 dX4_readNumber_82 rfl ?_
    exact zr_iret X dX4_readNumber_84 ⟨by rw [← ha]; unfold znv; rw [hP36, zmo1_end (Or.inl rfl)]; try rfl, by rw [← hb]; unfold znq; rw [hP36, zmo1_end (Or.inl rfl)]; try rfl⟩
  · intro q hq hP36 ih36
    refine zr_iload X 5 dX4_readNumber_36 rfl ?_
    refine zr_iloadn X 1 dX4_readNumber_38 rfl ?_
    refine zr_icmp_ge X 82 dX4_readNumber_39 (by decide) (fun q => absurd q (nI_ge (by omega) (by omega))) (fun _ => ?_)
    refine zr_iload X 4 dX4_readNumber_42 rfl ?_
    refine zr_if_le X 82 dX4_readNumber_44 (by decide) (fun h44 => ?_) (fun h44 => ?_)
    · have h44 : zval w p (q + 1) = 0 := by rw [← nI_0] at h44; have hz := zval_ub (w := w) (p := p) (i := q + 1) (by omega); have := (nI_leI (by omega) (by omega)).mp h44; omega
      refine zr_iload X 4 dX4_readNumber_82 rfl ?_
      exact zr_iret X dX4_readNumber_84 ⟨by rw [← ha]; unfold znv; rw [hP36, zmo1_end (Or.inr (Or.inr ⟨rfl, h44⟩))]; try rfl, by rw [← hb]; unfold znq; rw [hP36, zmo1_end (Or.inr (Or.inr ⟨rfl, h44⟩))]; try rfl⟩
    · have h44 : 0 < zval w p (q + 1) := Nat.pos_of_ne_zero (fun q => h44 (by rw [q]; decide +kernel))
      refine zr_aloadn X 0 dX4_readNumber_47 rfl ?_
      by_cases hd36 : p + q + 1 < n ∧ nI 48 ≤ w (p + q + 1) ∧ w (p + q + 1) ≤ nI 57
      · have hz9 := zdg_9 w (p + q + 1)
        refine zr_dVi (C := RX4) (ci := 4) [] [] X (zK_ok A D tc tF tL tM) (d_digit_t E (upd μ (2497) (nI (p + q + 1))) (fun z hz => ((pk_un (by omega)).trans (rfl)).trans (hw z hz)) (p := p + q + 1) (pk_us) (by omega) ((pk_un (by omega)).trans (hn)) hn2 hd36) k_406 k_407 k_408 k_6 k_409 hdX4_digitHere ⟨rfl, rfl⟩ ⟨Nat.le_of_ble_eq_true rfl, Nat.le_of_ble_eq_true rfl⟩ (by omega) sc_293 rfl rfl rfl (Nat.le_of_ble_eq_true rfl) dX4_readNumber_48 ?_
        refine zr_if_lt X 82 dX4_readNumber_51 (by decide) (fun q => absurd q (nI_pos (by omega))) (fun _ => ?_)
        refine zr_iload X 4 dX4_readNumber_54 rfl ?_
        refine zr_bipush X (nI (10)) dX4_readNumber_56 (by decide +kernel) ?_
        refine zr_imul X (nI (10 * (zval w p (q + 1)))) dX4_readNumber_58 ((pk_mul _ _).trans (congrArg nI (by omega))) ?_
        refine zr_aloadn X 0 dX4_readNumber_59 rfl ?_
        refine zr_dVi (C := RX4) (ci := 4) [] [.int (nI (10 * (zval w p (q + 1))))] X (zK_ok A D tc tF tL tM) (d_digit_t E (upd μ (2497) (nI (p + q + 1))) (fun z hz => ((pk_un (by omega)).trans (rfl)).trans (hw z hz)) (p := p + q + 1) (pk_us) (by omega) ((pk_un (by omega)).trans (hn)) hn2 hd36) k_406 k_407 k_408 k_6 k_409 hdX4_digitHere ⟨rfl, rfl⟩ ⟨Nat.le_of_ble_eq_true rfl, Nat.le_of_ble_eq_true rfl⟩ (by omega) sc_293 rfl rfl rfl (Nat.le_of_ble_eq_true rfl) dX4_readNumber_60 ?_
        refine zr_iadd X (nI ((zdg w (p + q + 1)) + 10 * (zval w p (q + 1)))) dX4_readNumber_63 ((nI_add _ _).trans (congrArg nI (by omega))) ?_
        refine zr_istore X [1, 2, 3, 4, 0, 5] [(0, .ref (ad (293))), (1, .int (nI (4))), (2, .int (nI (0))), (3, .int (nI ((zdg w p)))), (4, .int (nI ((zdg w (p + q + 1)) + 10 * (zval w p (q + 1))))), (5, .int (nI (q + 1)))] dX4_readNumber_64 (by decide) rfl ?_
        refine zr_aloadn X 0 dX4_readNumber_66 rfl ?_
        refine zr_dup X dX4_readNumber_67 rfl ?_
        refine zr_get X (ci := 4) (q := 7) zI (.int (nI (p + q + 1))) dX4_readNumber_68 (by omega) sc_293 rfl inX4 (by decide) rfl (congrArg Value.int (pk_us)) rfl k_195 ?_
        refine zr_iconst X (nI (1)) dX4_readNumber_71 (by decide +kernel) ?_
        refine zr_iadd X (nI (p + q + 2)) dX4_readNumber_72 ((nI_add _ _).trans (congrArg nI (by omega))) ?_
        refine zr_put X (ci := 4) (q := 7) (ty0 := tyX4) (ty := .int) (2497) dX4_readNumber_73 (by omega) sc_293 rfl inX4 tyX4_ok nmX4 (by decide) rfl rfl rfl rfl rfl rfl k_195 (by omega) ?_
        refine zr_iinc X 5 (nI (q + 2)) [1, 2, 3, 4, 5, 0] [(0, .ref (ad (293))), (1, .int (nI (4))), (2, .int (nI (0))), (3, .int (nI ((zdg w p)))), (4, .int (nI ((zdg w (p + q + 1)) + 10 * (zval w p (q + 1))))), (5, .int (nI (q + 2)))] dX4_readNumber_76 rfl (zinc _) (by decide) rfl ?_
        refine zr_goto X 36 dX4_readNumber_79 (by decide) ?_
        exact zr_mem X zupd_twice (zr_lv X (by rw [show zval w p (q + 1 + 1) = zdg w (p + q + 1) + 10 * zval w p (q + 1) from Nat.add_comm _ _]) (ih36 (hP36.trans (by rw [show 3 - q = 3 - (q + 1) + 1 by omega, zmo1_go hd36 (Or.inr h44)]; rfl))))
      · refine zr_dVi (C := RX4) (ci := 4) [] [] X (zK_ok A D tc tF tL tM) (d_digit_f E (upd μ (2497) (nI (p + q + 1))) (fun z hz => ((pk_un (by omega)).trans (rfl)).trans (hw z hz)) (p := p + q + 1) (pk_us) (by omega) ((pk_un (by omega)).trans (hn)) hn2 hd36) k_406 k_407 k_408 k_6 k_409 hdX4_digitHere ⟨rfl, rfl⟩ ⟨Nat.le_of_ble_eq_true rfl, Nat.le_of_ble_eq_true rfl⟩ (by omega) sc_293 rfl rfl rfl (Nat.le_of_ble_eq_true rfl) dX4_readNumber_48 ?_
        refine zr_if_lt X 82 dX4_readNumber_51 (by decide) (fun _ => ?_) (fun q => absurd (by decide) q)
        refine zr_iload X 4 dX4_readNumber_82 rfl ?_
        exact zr_iret X dX4_readNumber_84 ⟨by rw [← ha]; unfold znv; rw [hP36, zmo1_end (Or.inr (Or.inl hd36))]; try rfl, by rw [← hb]; unfold znq; rw [hP36, zmo1_end (Or.inr (Or.inl hd36))]; try rfl⟩

