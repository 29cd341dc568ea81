/-- the transfers of a text made one behind another on the row G -/
def zrw (G : Nat → Int32) (a b v t : Nat) : Nat → Int32 := upd (upd G (32 * a + v + 7) (G (32 * a + v + 7) - nI t)) (32 * b + v + 7) (G (32 * b + v + 7) + nI t)
def zgr (G : Nat → Int32) (A B V T : Nat → Nat) : Nat → (Nat → Int32)
  | 0 => G
  | i + 1 => zrw (zgr G A B V T i) (A i) (B i) (V i) (T i)
theorem zgr_lo {G : Nat → Int32} {A B V T : Nat → Nat} {x : Nat} (h : x < 7) : ∀ i, zgr G A B V T i x = G x
  | 0 => rfl
  | i + 1 => by
    show zrw (zgr G A B V T i) (A i) (B i) (V i) (T i) x = G x
    unfold zrw
    rw [pk_un (by omega), pk_un (by omega)]
    exact zgr_lo h i
theorem zgr_hi {G : Nat → Int32} {A B V T : Nat → Nat} {x L : Nat} (hx : L ≤ x) : ∀ i, (∀ j, j < i → 32 * A j + V j + 7 < L ∧ 32 * B j + V j + 7 < L) → zgr G A B V T i x = G x
  | 0, _ => rfl
  | i + 1, h => by
    show zrw (zgr G A B V T i) (A i) (B i) (V i) (T i) x = G x
    have := h i (by omega)
    unfold zrw
    rw [pk_un (by omega), pk_un (by omega)]
    exact zgr_hi hx i (fun j hj => h j (by omega))
/-- a transfer can be made; it can't, and this is why -/
def zok1 (G : Nat → Int32) (c a b v t : Nat) : Prop := a < c ∧ b < c ∧ v ≤ 19 ∧ a ≠ b ∧ nI t ≤ G (32 * a + v + 7)
theorem zok_or (G : Nat → Int32) (c : Nat) (A B V T : Nat → Nat) (K : Nat) : (∀ i, i < K → zok1 (zgr G A B V T i) c (A i) (B i) (V i) (T i)) ∨ ∃ e, e < K ∧ (∀ i, i < e → zok1 (zgr G A B V T i) c (A i) (B i) (V i) (T i)) ∧ ¬ zok1 (zgr G A B V T e) c (A e) (B e) (V e) (T e) := by
  induction K with
  | zero => exact Or.inl (fun i hi => by omega)
  | succ K ih =>
    rcases ih with h | ⟨e, h1, h2, h3⟩
    · by_cases q : zok1 (zgr G A B V T K) c (A K) (B K) (V K) (T K)
      · refine Or.inl (fun i hi => ?_)
        by_cases e : i = K
        · subst e; exact q
        · exact h i (by omega)
      · exact Or.inr ⟨K, by omega, h, q⟩
    · exact Or.inr ⟨e, by omega, h2, h3⟩
theorem zupd_2 {u F : Nat → Int32} {x pa pb : Nat} {y z : Int32} (h : u x = F x) : upd (upd u pa y) pb z x = upd (upd F pa y) pb z x := by
  by_cases h1 : x = pb
  · subst h1; rw [pk_us, pk_us]
  · rw [pk_un h1, pk_un h1]
    by_cases h2 : x = pa
    · subst h2; rw [pk_us, pk_us]
    · rw [pk_un h2, pk_un h2, h]
theorem c_noT_b2 {l : Launch} {D : va_G} {tc : Nat → ClassId} {ad : Nat → Nat} {A : Nat → Prop} {tF tL tM : Nat} (E : zN 6 A ad) (μ : Nat → Int32) {c : Nat} (hc : μ 1 = nI c) (h8 : c ≤ 8) {f f2 : Nat} (hf : f < c) (hab : f = f2) {t : Nat} (ht1 : 1 ≤ t) (ht9 : t ≤ 9999) (w : Int32) : zMi l yX6_noTransfer cX6_noTransfer 6 (some .int) (zrm 3) (zK A D tc tF tL tM) A D vwCl tc ad 6 shR [.ref (ad 0), .int (nI (f)), .int (nI (f2)), .int (nI (1)), .int w, .int (nI (t))] μ (fun r u => r = -2 ∧ u = μ) := by
  subst hab
  exact c_noTransfer_b2 E μ hc h8 hf ht1 ht9 w
theorem zfm_nI {a c : Nat} (h : ¬ a < c) (ha : a < 2 ^ 31) (hc : c < 2 ^ 31) : ¬ zfm (nI a) c := by
  rintro ⟨f, hf, e⟩
  have := (nI_eq ha (by omega)).mp e
  omega
theorem zin_nI {v a b : Nat} (h : ¬ v ≤ b) (hv : v < 2 ^ 31) (hb : b < 2 ^ 31) : ¬ zin (nI v) a b := by
  rintro ⟨f, h1, h2, e⟩
  have := (nI_eq hv (by omega)).mp e
  omega
set_option maxHeartbeats 4000000 in
set_option maxRecDepth 100000 in
theorem c_transferOn_ok {l : Launch} {D : va_G} {tc : Nat → ClassId} {ad : Nat → Nat} {A : Nat → Prop} {tF tL tM : Nat} (E : zN 6 A ad) (μ : Nat → Int32) {w : Nat → Int32} (hw : ∀ q, q < 60 → μ (q + 2460) = w q) {n : Nat} (hn : μ 2447 = nI n) (hn2 : n ≤ 60) {c : Nat} (hc : μ 1 = nI c) (h8 : c ≤ 8) {K : Nat} {S E0 A0 B0 V0 T0 : Nat → Nat} (ch : zch w n S E0 A0 B0 V0 T0 K) (hEK : E0 K = n) (hS1 : S (K + 1) = n + 1) (ok : ∀ i, i < K + 1 → zok1 (zgr μ A0 B0 V0 T0 i) c (A0 i) (B0 i) (V0 i) (T0 i))  : zMi l yX6_transferOn cX6_transferOn 4 (some .int) (zrm 4) (zK A D tc tF tL tM) A D vwCl tc ad 6 shR [.ref (ad (0))] μ (fun r u => r = nI (K + 1) ∧ (∀ x, x ≠ 2452 → (x < 2543 ∨ 2547 ≤ x) → u x = zgr μ A0 B0 V0 T0 (K + 1) x)) := by
  refine zM_of RX6 [(0, .ref (ad (0)))] (zK_ok A D tc tF tL tM) E.1 E.2 owR_ok (by decide +kernel) rfl (Nat.le_of_ble_eq_true rfl) rfl ?_
  intro pP eE sS mM aS bL mT cO X
  refine zr_iconst X (nI (0)) dX6_transferOn_0 (by decide +kernel) ?_
  refine zr_istoren X [1, 0] [(0, .ref (ad (0))), (1, .int (nI (0)))] dX6_transferOn_1 (by decide) rfl ?_
  refine zr_aloadn X 0 dX6_transferOn_2 rfl ?_
  refine zr_iconst X (nI (0)) dX6_transferOn_3 (by decide +kernel) ?_
  refine zr_put X (ci := 6) (q := 9) (ty0 := tyX6) (ty := .int) (2452) dX6_transferOn_4 (by omega) rfl rfl inX6 tyX6_ok nmX6 (by decide) rfl rfl rfl rfl rfl rfl k_548 (by omega) ?_
  refine zr_forM X (K + 1) (fun i u => u 2452 = nI (S i) ∧ ∀ x, x ≠ 2452 → (x < 2543 ∨ 2547 ≤ x) → u x = zgr μ A0 B0 V0 T0 i x) (fun i => [(0, .ref (ad (0))), (1, .int (nI (i)))]) [] (⟨(pk_us).trans (congrArg nI ch.1.symm), fun x hx1 hx2 => ((pk_un (by omega)).trans (rfl))⟩) rfl ?_ ?_
  · intro u7 hg7
    refine zr_aloadn X 0 dX6_transferOn_7 rfl ?_
    refine zr_get X (ci := 6) (q := 9) zI (.int (nI ((S (K + 1))))) dX6_transferOn_8 (by omega) rfl rfl inX6 (by decide) rfl (congrArg Value.int (hg7.1)) rfl k_548 ?_
    refine zr_aloadn X 0 dX6_transferOn_11 rfl ?_
    refine zr_get X (ci := 6) (q := 4) zI (.int (nI (n))) dX6_transferOn_12 (by omega) rfl rfl inX6 (by decide) rfl (congrArg Value.int ((hg7.2 _ (by omega) (by omega)).trans ((zgr_hi (L := 400) (by omega) _ (fun j hj => ⟨by have := zsT_val (ch.2.1 j (by omega)); omega, by have := zsT_val (ch.2.1 j (by omega)); omega⟩)).trans (hn)))) rfl k_543 ?_
    refine zr_icmp_ge X 119 dX6_transferOn_15 (by decide) (fun _ => ?_) (fun q => absurd (zq_le (by omega) (by omega)) q)
    refine zr_iloadn X 1 dX6_transferOn_119 rfl ?_
    exact zr_iret X dX6_transferOn_120 ⟨rfl, fun x hx1 hx2 => (hg7.2 _ (by omega) (by omega)).trans (rfl)⟩
  · intro i u15 hi hg15 ih7
    have hT := ch.2.1 i (by omega)
    have hl := zsT_len hT
    obtain ⟨hav, hbv, hvv, ht1, ht9⟩ := zsT_val hT
    have hSi : S (i + 1) = E0 i + 1 := by by_cases q : i < K; exact (ch.2.2 i q).2; have : i = K := (by omega); subst this; omega
    obtain ⟨hf, hf2, hv, hne, hle⟩ := ok i hi
    refine zr_aloadn X 0 dX6_transferOn_7 rfl ?_
    refine zr_get X (ci := 6) (q := 9) zI (.int (nI ((S (i))))) dX6_transferOn_8 (by omega) rfl rfl inX6 (by decide) rfl (congrArg Value.int (hg15.1)) rfl k_548 ?_
    refine zr_aloadn X 0 dX6_transferOn_11 rfl ?_
    refine zr_get X (ci := 6) (q := 4) zI (.int (nI (n))) dX6_transferOn_12 (by omega) rfl rfl inX6 (by decide) rfl (congrArg Value.int ((hg15.2 _ (by omega) (by omega)).trans ((zgr_hi (L := 400) (by omega) _ (fun j hj => ⟨by have := zsT_val (ch.2.1 j (by omega)); omega, by have := zsT_val (ch.2.1 j (by omega)); omega⟩)).trans (hn)))) rfl k_543 ?_
    refine zr_icmp_ge X 119 dX6_transferOn_15 (by decide) (fun q => absurd q (nI_ge (by omega) (by omega))) (fun _ => ?_)
    refine zr_aloadn X 0 dX6_transferOn_18 rfl ?_
    refine zr_cVi (C := RX6) (ci := 6) [] [] X (zK_ok A D tc tF tL tM) (c_reads_T E u15 (fun z hz => ((hg15.2 _ (by omega) (by omega)).trans ((zgr_hi (L := 400) (by omega) _ (fun j hj => ⟨by have := zsT_val (ch.2.1 j (by omega)); omega, by have := zsT_val (ch.2.1 j (by omega)); omega⟩)).trans (rfl))).trans (hw z hz)) (p := (S (i))) (hg15.1) (by omega) ((hg15.2 _ (by omega) (by omega)).trans ((zgr_hi (L := 400) (by omega) _ (fun j hj => ⟨by have := zsT_val (ch.2.1 j (by omega)); omega, by have := zsT_val (ch.2.1 j (by omega)); omega⟩)).trans (hn))) hn2 hT) k_707 k_709 kp_12 k_7 k_710 hdX6_readsTransfer ⟨rfl, rfl⟩ ⟨Nat.le_of_ble_eq_true rfl, Nat.le_of_ble_eq_true rfl⟩ (by omega) rfl rfl rfl rfl (Nat.le_of_ble_eq_true rfl) dX6_transferOn_19 (fun z28 u27 hq28 => ?_)
    obtain ⟨rfl, g27a, g27b, g27c, g27d, g27e, g27f⟩ := hq28
    refine zr_pop X dX6_transferOn_22 rfl ?_
    refine zr_aloadn X 0 dX6_transferOn_23 rfl ?_
    refine zr_get X (ci := 6) (q := 10) (zR _) (.ref (ad (5))) dX6_transferOn_24 (by omega) rfl rfl inX6 (by decide) rfl (zvR rfl) rfl k_549 ?_
    refine zr_iconst X (nI (2)) dX6_transferOn_27 (by decide +kernel) ?_
    refine zr_iald X (j := 2) 0 (nI ((V0 i))) dX6_transferOn_28 (by omega) rfl rfl rfl (by omega) (by omega) (zcg (b := 2545) (by omega) (g27d)) ?_
    refine zr_istoren X [1, 2, 0] [(0, .ref (ad (0))), (1, .int (nI (i))), (2, .int (nI ((V0 i))))] dX6_transferOn_29 (by decide) rfl ?_
    refine zr_aloadn X 0 dX6_transferOn_30 rfl ?_
    refine zr_aloadn X 0 dX6_transferOn_31 rfl ?_
    refine zr_get X (ci := 6) (q := 10) (zR _) (.ref (ad (5))) dX6_transferOn_32 (by omega) rfl rfl inX6 (by decide) rfl (zvR rfl) rfl k_549 ?_
    refine zr_iconst X (nI (0)) dX6_transferOn_35 (by decide +kernel) ?_
    refine zr_iald X (j := 0) 0 (nI ((A0 i))) dX6_transferOn_36 (by omega) rfl rfl rfl (by omega) (by omega) (zcg (b := 2543) (by omega) (g27b)) ?_
    refine zr_aloadn X 0 dX6_transferOn_37 rfl ?_
    refine zr_get X (ci := 6) (q := 10) (zR _) (.ref (ad (5))) dX6_transferOn_38 (by omega) rfl rfl inX6 (by decide) rfl (zvR rfl) rfl k_549 ?_
    refine zr_iconst X (nI (1)) dX6_transferOn_41 (by decide +kernel) ?_
    refine zr_iald X (j := 1) 0 (nI ((B0 i))) dX6_transferOn_42 (by omega) rfl rfl rfl (by omega) (by omega) (zcg (b := 2544) (by omega) (g27c)) ?_
    refine zr_iloadn X 2 dX6_transferOn_43 rfl ?_
    refine zr_cSi [.int (nI ((V0 i)))] [.int (nI ((B0 i))), .int (nI ((A0 i))), .ref (ad (0))] X (zK_ok A D tc tF tL tM) (c_isVintage_t E u27 (by omega) (by omega)) k_633 k_634 k_7 k_635 hdX6_isVintage ⟨rfl, rfl⟩ ⟨Nat.le_of_ble_eq_true rfl, Nat.le_of_ble_eq_true rfl⟩ rfl rfl (Nat.le_of_ble_eq_true rfl) dX6_transferOn_44 (fun z46 u27 hq46 => ?_)
    obtain ⟨rfl, g27a, g27b, g27c, g27d, g27e, g27f⟩ := hq46
    refine zr_iloadn X 2 dX6_transferOn_47 rfl ?_
    refine zr_cSi [.int (nI ((V0 i)))] [.int (nI (1)), .int (nI ((B0 i))), .int (nI ((A0 i))), .ref (ad (0))] X (zK_ok A D tc tF tL tM) (c_isVintage_t E u27 (by omega) (by omega)) k_633 k_634 k_7 k_635 hdX6_isVintage ⟨rfl, rfl⟩ ⟨Nat.le_of_ble_eq_true rfl, Nat.le_of_ble_eq_true rfl⟩ rfl rfl (Nat.le_of_ble_eq_true rfl) dX6_transferOn_48 (fun z49 u27 hq49 => ?_)
    obtain ⟨rfl, g27a, g27b, g27c, g27d, g27e, g27f⟩ := hq49
    refine zr_if_eq X 60 dX6_transferOn_51 (by decide) (fun q => absurd q (nI_ne0 (by omega) (by omega))) (fun _ => ?_)
    refine zr_iconst X (nI (0)) dX6_transferOn_54 (by decide +kernel) ?_
    refine zr_iloadn X 2 dX6_transferOn_55 rfl ?_
    refine zr_iadd X (nI ((V0 i))) dX6_transferOn_56 ((nI_add _ _).trans (congrArg nI (by omega))) ?_
    refine zr_goto X 61 dX6_transferOn_57 (by decide) ?_
    refine zr_aloadn X 0 dX6_transferOn_61 rfl ?_
    refine zr_get X (ci := 6) (q := 10) (zR _) (.ref (ad (5))) dX6_transferOn_62 (by omega) rfl rfl inX6 (by decide) rfl (zvR rfl) rfl k_549 ?_
    refine zr_iconst X (nI (3)) dX6_transferOn_65 (by decide +kernel) ?_
    refine zr_iald X (j := 3) 0 (nI ((T0 i))) dX6_transferOn_66 (by omega) rfl rfl rfl (by omega) (by omega) (zcg (b := 2546) (by omega) (g27e)) ?_
    refine zr_cVi (C := RX6) (ci := 6) [.int (nI ((A0 i))), .int (nI ((B0 i))), .int (nI (1)), .int (nI ((V0 i))), .int (nI ((T0 i)))] [] X (zK_ok A D tc tF tL tM) (c_noTransfer_0 E u27 (f := (A0 i)) (f2 := (B0 i)) (t := (T0 i)) (w := (V0 i)) ((g27f _ (by omega) (by omega)).trans ((hg15.2 _ (by omega) (by omega)).trans ((zgr_lo (by omega) _).trans (hc)))) h8 hf hf2 ht1 ht9 (by omega) hne (by rw [(g27f _ (by omega) (by omega)).trans ((hg15.2 _ (by omega) (by omega)).trans (rfl))]; exact hle)) k_636 k_638 kp_4 k_7 k_639 hdX6_noTransfer ⟨rfl, rfl⟩ ⟨Nat.le_of_ble_eq_true rfl, Nat.le_of_ble_eq_true rfl⟩ (by omega) rfl rfl rfl rfl (Nat.le_of_ble_eq_true rfl) dX6_transferOn_67 (fun z60 u27 hq60 => ?_)
    obtain ⟨rfl, g27a, g27b, g27c, g27d, g27e, g27f⟩ := hq60
    refine zr_istoren X [1, 2, 3, 0] [(0, .ref (ad (0))), (1, .int (nI (i))), (2, .int (nI ((V0 i)))), (3, .int (nI (0)))] dX6_transferOn_70 (by decide) rfl ?_
    refine zr_iloadn X 3 dX6_transferOn_71 rfl ?_
    refine zr_if_eq X 77 dX6_transferOn_72 (by decide) (fun _ => ?_) (fun q => absurd (zq_eq0 (by omega)) q)
    refine zr_aloadn X 0 dX6_transferOn_77 rfl ?_
    refine zr_aloadn X 0 dX6_transferOn_78 rfl ?_
    refine zr_get X (ci := 6) (q := 10) (zR _) (.ref (ad (5))) dX6_transferOn_79 (by omega) rfl rfl inX6 (by decide) rfl (zvR rfl) rfl k_549 ?_
    refine zr_iconst X (nI (0)) dX6_transferOn_82 (by decide +kernel) ?_
    refine zr_iald X (j := 0) 0 (nI ((A0 i))) dX6_transferOn_83 (by omega) rfl rfl rfl (by omega) (by omega) (zcg (b := 2543) (by omega) (g27b)) ?_
    refine zr_aloadn X 0 dX6_transferOn_84 rfl ?_
    refine zr_get X (ci := 6) (q := 10) (zR _) (.ref (ad (5))) dX6_transferOn_85 (by omega) rfl rfl inX6 (by decide) rfl (zvR rfl) rfl k_549 ?_
    refine zr_iconst X (nI (1)) dX6_transferOn_88 (by decide +kernel) ?_
    refine zr_iald X (j := 1) 0 (nI ((B0 i))) dX6_transferOn_89 (by omega) rfl rfl rfl (by omega) (by omega) (zcg (b := 2544) (by omega) (g27c)) ?_
    refine zr_iconst X (nI (0)) dX6_transferOn_90 (by decide +kernel) ?_
    refine zr_iloadn X 2 dX6_transferOn_91 rfl ?_
    refine zr_iadd X (nI ((V0 i))) dX6_transferOn_92 ((nI_add _ _).trans (congrArg nI (by omega))) ?_
    refine zr_aloadn X 0 dX6_transferOn_93 rfl ?_
    refine zr_get X (ci := 6) (q := 10) (zR _) (.ref (ad (5))) dX6_transferOn_94 (by omega) rfl rfl inX6 (by decide) rfl (zvR rfl) rfl k_549 ?_
    refine zr_iconst X (nI (3)) dX6_transferOn_97 (by decide +kernel) ?_
    refine zr_iald X (j := 3) 0 (nI ((T0 i))) dX6_transferOn_98 (by omega) rfl rfl rfl (by omega) (by omega) (zcg (b := 2546) (by omega) (g27e)) ?_
    refine zr_dVi (C := RX6) (ci := 6) [.int (nI ((A0 i))), .int (nI ((B0 i))), .int (nI ((V0 i))), .int (nI ((T0 i)))] [] X (zK_ok A D tc tF tL tM) (c_doT E u27 (f := (A0 i)) (f2 := (B0 i)) (w := (V0 i)) (t := nI ((T0 i))) ((g27f _ (by omega) (by omega)).trans ((hg15.2 _ (by omega) (by omega)).trans ((zgr_lo (by omega) _).trans (hc)))) h8 hf hf2 (by omega) hne (pa := 32 * (A0 i) + (V0 i) + 7) (pb := 32 * (B0 i) + (V0 i) + 7) (by omega) (by omega) ((g27f _ (by omega) (by omega)).trans ((hg15.2 _ (by omega) (by omega)).trans (rfl))) ((g27f _ (by omega) (by omega)).trans ((hg15.2 _ (by omega) (by omega)).trans (rfl)))) k_640 k_642 kp_5 k_7 k_643 hdX6_doTransfer ⟨rfl, rfl⟩ ⟨Nat.le_of_ble_eq_true rfl, Nat.le_of_ble_eq_true rfl⟩ (by omega) rfl rfl rfl rfl (Nat.le_of_ble_eq_true rfl) dX6_transferOn_99 ?_
    refine zr_pop X dX6_transferOn_102 rfl ?_
    refine zr_iinc X 1 (nI (i + 1)) [1, 0, 2, 3] [(0, .ref (ad (0))), (1, .int (nI (i + 1))), (2, .int (nI ((V0 i)))), (3, .int (nI (0)))] dX6_transferOn_103 rfl (zinc _) (by decide) rfl ?_
    refine zr_aloadn X 0 dX6_transferOn_106 rfl ?_
    refine zr_dup X dX6_transferOn_107 rfl ?_
    refine zr_get X (ci := 6) (q := 9) zI (.int (nI ((E0 i)))) dX6_transferOn_108 (by omega) rfl rfl inX6 (by decide) rfl (congrArg Value.int ((pk_un (by omega)).trans ((pk_un (by omega)).trans ((g27a))))) rfl k_548 ?_
    refine zr_iconst X (nI (1)) dX6_transferOn_111 (by decide +kernel) ?_
    refine zr_iadd X (nI ((E0 i) + 1)) dX6_transferOn_112 (nI_add _ _) ?_
    refine zr_put X (ci := 6) (q := 9) (ty0 := tyX6) (ty := .int) (2452) dX6_transferOn_113 (by omega) rfl rfl inX6 tyX6_ok nmX6 (by decide) rfl rfl rfl rfl rfl rfl k_548 (by omega) ?_
    refine zr_goto X 7 dX6_transferOn_116 (by decide) ?_
    refine zr_drop X [0, 1] [(0, .ref (ad (0))), (1, .int (nI (i + 1)))] rfl ?_
    exact ih7 _ ⟨(pk_us).trans (congrArg nI hSi.symm), fun x hx1 hx2 => (pk_un hx1).trans (zupd_2 ((g27f _ (by omega) (by omega)).trans ((hg15.2 _ (by omega) (by omega)).trans (rfl))))⟩

set_option maxHeartbeats 4000000 in
set_option maxRecDepth 100000 in
theorem c_transferOn_u1t {l : Launch} {D : va_G} {tc : Nat → ClassId} {ad : Nat → Nat} {A : Nat → Prop} {tF tL tM : Nat} (E : zN 6 A ad) (μ : Nat → Int32) {w : Nat → Int32} (hw : ∀ q, q < 60 → μ (q + 2460) = w q) {n : Nat} (hn : μ 2447 = nI n) (hn2 : n ≤ 60) {c : Nat} (hc : μ 1 = nI c) (h8 : c ≤ 8) {K : Nat} {S E0 A0 B0 V0 T0 : Nat → Nat} (ch : zch w n S E0 A0 B0 V0 T0 K) (hEK : E0 K = n) (hS1 : S (K + 1) = n + 1) {e : Nat} (he : e ≤ K) (ok : ∀ i, i < e → zok1 (zgr μ A0 B0 V0 T0 i) c (A0 i) (B0 i) (V0 i) (T0 i)) (hf : ¬ A0 e < c) (hv : V0 e ≤ 19)  : zMi l yX6_transferOn cX6_transferOn 4 (some .int) (zrm 4) (zK A D tc tF tL tM) A D vwCl tc ad 6 shR [.ref (ad (0))] μ (fun r u => r = -1 ∧ (∀ x, x ≠ 2452 → (x < 2543 ∨ 2547 ≤ x) → u x = zgr μ A0 B0 V0 T0 (e) x)) := by
  refine zM_of RX6 [(0, .ref (ad (0)))] (zK_ok A D tc tF tL tM) E.1 E.2 owR_ok (by decide +kernel) rfl (Nat.le_of_ble_eq_true rfl) rfl ?_
  intro pP eE sS mM aS bL mT cO X
  refine zr_iconst X (nI (0)) dX6_transferOn_0 (by decide +kernel) ?_
  refine zr_istoren X [1, 0] [(0, .ref (ad (0))), (1, .int (nI (0)))] dX6_transferOn_1 (by decide) rfl ?_
  refine zr_aloadn X 0 dX6_transferOn_2 rfl ?_
  refine zr_iconst X (nI (0)) dX6_transferOn_3 (by decide +kernel) ?_
  refine zr_put X (ci := 6) (q := 9) (ty0 := tyX6) (ty := .int) (2452) dX6_transferOn_4 (by omega) rfl rfl inX6 tyX6_ok nmX6 (by decide) rfl rfl rfl rfl rfl rfl k_548 (by omega) ?_
  refine zr_forM X (e) (fun i u => u 2452 = nI (S i) ∧ ∀ x, x ≠ 2452 → (x < 2543 ∨ 2547 ≤ x) → u x = zgr μ A0 B0 V0 T0 i x) (fun i => [(0, .ref (ad (0))), (1, .int (nI (i)))]) [] (⟨(pk_us).trans (congrArg nI ch.1.symm), fun x hx1 hx2 => ((pk_un (by omega)).trans (rfl))⟩) rfl ?_ ?_
  · intro u7 hg7
    have hT := ch.2.1 e (by omega)
    have hl := zsT_len hT
    obtain ⟨hav, hbv, hvv, ht1, ht9⟩ := zsT_val hT
    refine zr_aloadn X 0 dX6_transferOn_7 rfl ?_
    refine zr_get X (ci := 6) (q := 9) zI (.int (nI ((S (e))))) dX6_transferOn_8 (by omega) rfl rfl inX6 (by decide) rfl (congrArg Value.int (hg7.1)) rfl k_548 ?_
    refine zr_aloadn X 0 dX6_transferOn_11 rfl ?_
    refine zr_get X (ci := 6) (q := 4) zI (.int (nI (n))) dX6_transferOn_12 (by omega) rfl rfl inX6 (by decide) rfl (congrArg Value.int ((hg7.2 _ (by omega) (by omega)).trans ((zgr_hi (L := 400) (by omega) _ (fun j hj => ⟨by have := zsT_val (ch.2.1 j (by omega)); omega, by have := zsT_val (ch.2.1 j (by omega)); omega⟩)).trans (hn)))) rfl k_543 ?_
    refine zr_icmp_ge X 119 dX6_transferOn_15 (by decide) (fun q => absurd q (nI_ge (by omega) (by omega))) (fun _ => ?_)
    refine zr_aloadn X 0 dX6_transferOn_18 rfl ?_
    refine zr_cVi (C := RX6) (ci := 6) [] [] X (zK_ok A D tc tF tL tM) (c_reads_T E u7 (fun z hz => ((hg7.2 _ (by omega) (by omega)).trans ((zgr_hi (L := 400) (by omega) _ (fun j hj => ⟨by have := zsT_val (ch.2.1 j (by omega)); omega, by have := zsT_val (ch.2.1 j (by omega)); omega⟩)).trans (rfl))).trans (hw z hz)) (p := (S (e))) (hg7.1) (by omega) ((hg7.2 _ (by omega) (by omega)).trans ((zgr_hi (L := 400) (by omega) _ (fun j hj => ⟨by have := zsT_val (ch.2.1 j (by omega)); omega, by have := zsT_val (ch.2.1 j (by omega)); omega⟩)).trans (hn))) hn2 hT) k_707 k_709 kp_12 k_7 k_710 hdX6_readsTransfer ⟨rfl, rfl⟩ ⟨Nat.le_of_ble_eq_true rfl, Nat.le_of_ble_eq_true rfl⟩ (by omega) rfl rfl rfl rfl (Nat.le_of_ble_eq_true rfl) dX6_transferOn_19 (fun z18 u17 hq18 => ?_)
    obtain ⟨rfl, g17a, g17b, g17c, g17d, g17e, g17f⟩ := hq18
    refine zr_pop X dX6_transferOn_22 rfl ?_
    refine zr_aloadn X 0 dX6_transferOn_23 rfl ?_
    refine zr_get X (ci := 6) (q := 10) (zR _) (.ref (ad (5))) dX6_transferOn_24 (by omega) rfl rfl inX6 (by decide) rfl (zvR rfl) rfl k_549 ?_
    refine zr_iconst X (nI (2)) dX6_transferOn_27 (by decide +kernel) ?_
    refine zr_iald X (j := 2) 0 (nI ((V0 e))) dX6_transferOn_28 (by omega) rfl rfl rfl (by omega) (by omega) (zcg (b := 2545) (by omega) (g17d)) ?_
    refine zr_istoren X [1, 2, 0] [(0, .ref (ad (0))), (1, .int (nI (e))), (2, .int (nI ((V0 e))))] dX6_transferOn_29 (by decide) rfl ?_
    refine zr_aloadn X 0 dX6_transferOn_30 rfl ?_
    refine zr_aloadn X 0 dX6_transferOn_31 rfl ?_
    refine zr_get X (ci := 6) (q := 10) (zR _) (.ref (ad (5))) dX6_transferOn_32 (by omega) rfl rfl inX6 (by decide) rfl (zvR rfl) rfl k_549 ?_
    refine zr_iconst X (nI (0)) dX6_transferOn_35 (by decide +kernel) ?_
    refine zr_iald X (j := 0) 0 (nI ((A0 e))) dX6_transferOn_36 (by omega) rfl rfl rfl (by omega) (by omega) (zcg (b := 2543) (by omega) (g17b)) ?_
    refine zr_aloadn X 0 dX6_transferOn_37 rfl ?_
    refine zr_get X (ci := 6) (q := 10) (zR _) (.ref (ad (5))) dX6_transferOn_38 (by omega) rfl rfl inX6 (by decide) rfl (zvR rfl) rfl k_549 ?_
    refine zr_iconst X (nI (1)) dX6_transferOn_41 (by decide +kernel) ?_
    refine zr_iald X (j := 1) 0 (nI ((B0 e))) dX6_transferOn_42 (by omega) rfl rfl rfl (by omega) (by omega) (zcg (b := 2544) (by omega) (g17c)) ?_
    refine zr_iloadn X 2 dX6_transferOn_43 rfl ?_
    refine zr_cSi [.int (nI ((V0 e)))] [.int (nI ((B0 e))), .int (nI ((A0 e))), .ref (ad (0))] X (zK_ok A D tc tF tL tM) (c_isVintage_t E u17 (by omega) (by omega)) k_633 k_634 k_7 k_635 hdX6_isVintage ⟨rfl, rfl⟩ ⟨Nat.le_of_ble_eq_true rfl, Nat.le_of_ble_eq_true rfl⟩ rfl rfl (Nat.le_of_ble_eq_true rfl) dX6_transferOn_44 (fun z36 u17 hq36 => ?_)
    obtain ⟨rfl, g17a, g17b, g17c, g17d, g17e, g17f⟩ := hq36
    refine zr_iloadn X 2 dX6_transferOn_47 rfl ?_
    refine zr_cSi [.int (nI ((V0 e)))] [.int (nI (1)), .int (nI ((B0 e))), .int (nI ((A0 e))), .ref (ad (0))] X (zK_ok A D tc tF tL tM) (c_isVintage_t E u17 (by omega) (by omega)) k_633 k_634 k_7 k_635 hdX6_isVintage ⟨rfl, rfl⟩ ⟨Nat.le_of_ble_eq_true rfl, Nat.le_of_ble_eq_true rfl⟩ rfl rfl (Nat.le_of_ble_eq_true rfl) dX6_transferOn_48 (fun z39 u17 hq39 => ?_)
    obtain ⟨rfl, g17a, g17b, g17c, g17d, g17e, g17f⟩ := hq39
    refine zr_if_eq X 60 dX6_transferOn_51 (by decide) (fun q => absurd q (nI_ne0 (by omega) (by omega))) (fun _ => ?_)
    refine zr_iconst X (nI (0)) dX6_transferOn_54 (by decide +kernel) ?_
    refine zr_iloadn X 2 dX6_transferOn_55 rfl ?_
    refine zr_iadd X (nI ((V0 e))) dX6_transferOn_56 ((nI_add _ _).trans (congrArg nI (by omega))) ?_
    refine zr_goto X 61 dX6_transferOn_57 (by decide) ?_
    refine zr_aloadn X 0 dX6_transferOn_61 rfl ?_
    refine zr_get X (ci := 6) (q := 10) (zR _) (.ref (ad (5))) dX6_transferOn_62 (by omega) rfl rfl inX6 (by decide) rfl (zvR rfl) rfl k_549 ?_
    refine zr_iconst X (nI (3)) dX6_transferOn_65 (by decide +kernel) ?_
    refine zr_iald X (j := 3) 0 (nI ((T0 e))) dX6_transferOn_66 (by omega) rfl rfl rfl (by omega) (by omega) (zcg (b := 2546) (by omega) (g17e)) ?_
    refine zr_cVi (C := RX6) (ci := 6) [.int (nI ((A0 e))), .int (nI ((B0 e))), .int (nI (1)), .int (nI ((V0 e))), .int (nI ((T0 e)))] [] X (zK_ok A D tc tF tL tM) (c_noTransfer_u1 E u17 ((g17f _ (by omega) (by omega)).trans ((hg7.2 _ (by omega) (by omega)).trans ((zgr_lo (by omega) _).trans (hc)))) h8 (zfm_nI hf (by omega) (by omega)) _ _ _ _) k_636 k_638 kp_4 k_7 k_639 hdX6_noTransfer ⟨rfl, rfl⟩ ⟨Nat.le_of_ble_eq_true rfl, Nat.le_of_ble_eq_true rfl⟩ (by omega) rfl rfl rfl rfl (Nat.le_of_ble_eq_true rfl) dX6_transferOn_67 (fun z50 u17 hq50 => ?_)
    obtain ⟨rfl, g17a, g17b, g17c, g17d, g17e, g17f⟩ := hq50
    refine zr_istoren X [1, 2, 3, 0] [(0, .ref (ad (0))), (1, .int (nI (e))), (2, .int (nI ((V0 e)))), (3, .int (-1))] dX6_transferOn_70 (by decide) rfl ?_
    refine zr_iloadn X 3 dX6_transferOn_71 rfl ?_
    refine zr_if_eq X 77 dX6_transferOn_72 (by decide) (fun q => absurd q (by decide)) (fun _ => ?_)
    refine zr_iloadn X 3 dX6_transferOn_75 rfl ?_
    exact zr_iret X dX6_transferOn_76 ⟨rfl, fun x hx1 hx2 => (g17f _ (by omega) (by omega)).trans ((hg7.2 _ (by omega) (by omega)).trans (rfl))⟩
  · intro i u56 hi hg56 ih7
    have hT := ch.2.1 i (by omega)
    have hl := zsT_len hT
    obtain ⟨hav, hbv, hvv, ht1, ht9⟩ := zsT_val hT
    have hSi : S (i + 1) = E0 i + 1 := by by_cases q : i < K; exact (ch.2.2 i q).2; have : i = K := (by omega); subst this; omega
    obtain ⟨hf, hf2, hv, hne, hle⟩ := ok i hi
    refine zr_aloadn X 0 dX6_transferOn_7 rfl ?_
    refine zr_get X (ci := 6) (q := 9) zI (.int (nI ((S (i))))) dX6_transferOn_8 (by omega) rfl rfl inX6 (by decide) rfl (congrArg Value.int (hg56.1)) rfl k_548 ?_
    refine zr_aloadn X 0 dX6_transferOn_11 rfl ?_
    refine zr_get X (ci := 6) (q := 4) zI (.int (nI (n))) dX6_transferOn_12 (by omega) rfl rfl inX6 (by decide) rfl (congrArg Value.int ((hg56.2 _ (by omega) (by omega)).trans ((zgr_hi (L := 400) (by omega) _ (fun j hj => ⟨by have := zsT_val (ch.2.1 j (by omega)); omega, by have := zsT_val (ch.2.1 j (by omega)); omega⟩)).trans (hn)))) rfl k_543 ?_
    refine zr_icmp_ge X 119 dX6_transferOn_15 (by decide) (fun q => absurd q (nI_ge (by omega) (by omega))) (fun _ => ?_)
    refine zr_aloadn X 0 dX6_transferOn_18 rfl ?_
    refine zr_cVi (C := RX6) (ci := 6) [] [] X (zK_ok A D tc tF tL tM) (c_reads_T E u56 (fun z hz => ((hg56.2 _ (by omega) (by omega)).trans ((zgr_hi (L := 400) (by omega) _ (fun j hj => ⟨by have := zsT_val (ch.2.1 j (by omega)); omega, by have := zsT_val (ch.2.1 j (by omega)); omega⟩)).trans (rfl))).trans (hw z hz)) (p := (S (i))) (hg56.1) (by omega) ((hg56.2 _ (by omega) (by omega)).trans ((zgr_hi (L := 400) (by omega) _ (fun j hj => ⟨by have := zsT_val (ch.2.1 j (by omega)); omega, by have := zsT_val (ch.2.1 j (by omega)); omega⟩)).trans (hn))) hn2 hT) k_707 k_709 kp_12 k_7 k_710 hdX6_readsTransfer ⟨rfl, rfl⟩ ⟨Nat.le_of_ble_eq_true rfl, Nat.le_of_ble_eq_true rfl⟩ (by omega) rfl rfl rfl rfl (Nat.le_of_ble_eq_true rfl) dX6_transferOn_19 (fun z69 u68 hq69 => ?_)
    obtain ⟨rfl, g68a, g68b, g68c, g68d, g68e, g68f⟩ := hq69
    refine zr_pop X dX6_transferOn_22 rfl ?_
    refine zr_aloadn X 0 dX6_transferOn_23 rfl ?_
    refine zr_get X (ci := 6) (q := 10) (zR _) (.ref (ad (5))) dX6_transferOn_24 (by omega) rfl rfl inX6 (by decide) rfl (zvR rfl) rfl k_549 ?_
    refine zr_iconst X (nI (2)) dX6_transferOn_27 (by decide +kernel) ?_
    refine zr_iald X (j := 2) 0 (nI ((V0 i))) dX6_transferOn_28 (by omega) rfl rfl rfl (by omega) (by omega) (zcg (b := 2545) (by omega) (g68d)) ?_
    refine zr_istoren X [1, 2, 0] [(0, .ref (ad (0))), (1, .int (nI (i))), (2, .int (nI ((V0 i))))] dX6_transferOn_29 (by decide) rfl ?_
    refine zr_aloadn X 0 dX6_transferOn_30 rfl ?_
    refine zr_aloadn X 0 dX6_transferOn_31 rfl ?_
    refine zr_get X (ci := 6) (q := 10) (zR _) (.ref (ad (5))) dX6_transferOn_32 (by omega) rfl rfl inX6 (by decide) rfl (zvR rfl) rfl k_549 ?_
    refine zr_iconst X (nI (0)) dX6_transferOn_35 (by decide +kernel) ?_
    refine zr_iald X (j := 0) 0 (nI ((A0 i))) dX6_transferOn_36 (by omega) rfl rfl rfl (by omega) (by omega) (zcg (b := 2543) (by omega) (g68b)) ?_
    refine zr_aloadn X 0 dX6_transferOn_37 rfl ?_
    refine zr_get X (ci := 6) (q := 10) (zR _) (.ref (ad (5))) dX6_transferOn_38 (by omega) rfl rfl inX6 (by decide) rfl (zvR rfl) rfl k_549 ?_
    refine zr_iconst X (nI (1)) dX6_transferOn_41 (by decide +kernel) ?_
    refine zr_iald X (j := 1) 0 (nI ((B0 i))) dX6_transferOn_42 (by omega) rfl rfl rfl (by omega) (by omega) (zcg (b := 2544) (by omega) (g68c)) ?_
    refine zr_iloadn X 2 dX6_transferOn_43 rfl ?_
    refine zr_cSi [.int (nI ((V0 i)))] [.int (nI ((B0 i))), .int (nI ((A0 i))), .ref (ad (0))] X (zK_ok A D tc tF tL tM) (c_isVintage_t E u68 (by omega) (by omega)) k_633 k_634 k_7 k_635 hdX6_isVintage ⟨rfl, rfl⟩ ⟨Nat.le_of_ble_eq_true rfl, Nat.le_of_ble_eq_true rfl⟩ rfl rfl (Nat.le_of_ble_eq_true rfl) dX6_transferOn_44 (fun z87 u68 hq87 => ?_)
    obtain ⟨rfl, g68a, g68b, g68c, g68d, g68e, g68f⟩ := hq87
    refine zr_iloadn X 2 dX6_transferOn_47 rfl ?_
    refine zr_cSi [.int (nI ((V0 i)))] [.int (nI (1)), .int (nI ((B0 i))), .int (nI ((A0 i))), .ref (ad (0))] X (zK_ok A D tc tF tL tM) (c_isVintage_t E u68 (by omega) (by omega)) k_633 k_634 k_7 k_635 hdX6_isVintage ⟨rfl, rfl⟩ ⟨Nat.le_of_ble_eq_true rfl, Nat.le_of_ble_eq_true rfl⟩ rfl rfl (Nat.le_of_ble_eq_true rfl) dX6_transferOn_48 (fun z90 u68 hq90 => ?_)
    obtain ⟨rfl, g68a, g68b, g68c, g68d, g68e, g68f⟩ := hq90
    refine zr_if_eq X 60 dX6_transferOn_51 (by decide) (fun q => absurd q (nI_ne0 (by omega) (by omega))) (fun _ => ?_)
    refine zr_iconst X (nI (0)) dX6_transferOn_54 (by decide +kernel) ?_
    refine zr_iloadn X 2 dX6_transferOn_55 rfl ?_
    refine zr_iadd X (nI ((V0 i))) dX6_transferOn_56 ((nI_add _ _).trans (congrArg nI (by omega))) ?_
    refine zr_goto X 61 dX6_transferOn_57 (by decide) ?_
    refine zr_aloadn X 0 dX6_transferOn_61 rfl ?_
    refine zr_get X (ci := 6) (q := 10) (zR _) (.ref (ad (5))) dX6_transferOn_62 (by omega) rfl rfl inX6 (by decide) rfl (zvR rfl) rfl k_549 ?_
    refine zr_iconst X (nI (3)) dX6_transferOn_65 (by decide +kernel) ?_
    refine zr_iald X (j := 3) 0 (nI ((T0 i))) dX6_transferOn_66 (by omega) rfl rfl rfl (by omega) (by omega) (zcg (b := 2546) (by omega) (g68e)) ?_
    refine zr_cVi (C := RX6) (ci := 6) [.int (nI ((A0 i))), .int (nI ((B0 i))), .int (nI (1)), .int (nI ((V0 i))), .int (nI ((T0 i)))] [] X (zK_ok A D tc tF tL tM) (c_noTransfer_0 E u68 (f := (A0 i)) (f2 := (B0 i)) (t := (T0 i)) (w := (V0 i)) ((g68f _ (by omega) (by omega)).trans ((hg56.2 _ (by omega) (by omega)).trans ((zgr_lo (by omega) _).trans (hc)))) h8 hf hf2 ht1 ht9 (by omega) hne (by rw [(g68f _ (by omega) (by omega)).trans ((hg56.2 _ (by omega) (by omega)).trans (rfl))]; exact hle)) k_636 k_638 kp_4 k_7 k_639 hdX6_noTransfer ⟨rfl, rfl⟩ ⟨Nat.le_of_ble_eq_true rfl, Nat.le_of_ble_eq_true rfl⟩ (by omega) rfl rfl rfl rfl (Nat.le_of_ble_eq_true rfl) dX6_transferOn_67 (fun z101 u68 hq101 => ?_)
    obtain ⟨rfl, g68a, g68b, g68c, g68d, g68e, g68f⟩ := hq101
    refine zr_istoren X [1, 2, 3, 0] [(0, .ref (ad (0))), (1, .int (nI (i))), (2, .int (nI ((V0 i)))), (3, .int (nI (0)))] dX6_transferOn_70 (by decide) rfl ?_
    refine zr_iloadn X 3 dX6_transferOn_71 rfl ?_
    refine zr_if_eq X 77 dX6_transferOn_72 (by decide) (fun _ => ?_) (fun q => absurd (zq_eq0 (by omega)) q)
    refine zr_aloadn X 0 dX6_transferOn_77 rfl ?_
    refine zr_aloadn X 0 dX6_transferOn_78 rfl ?_
    refine zr_get X (ci := 6) (q := 10) (zR _) (.ref (ad (5))) dX6_transferOn_79 (by omega) rfl rfl inX6 (by decide) rfl (zvR rfl) rfl k_549 ?_
    refine zr_iconst X (nI (0)) dX6_transferOn_82 (by decide +kernel) ?_
    refine zr_iald X (j := 0) 0 (nI ((A0 i))) dX6_transferOn_83 (by omega) rfl rfl rfl (by omega) (by omega) (zcg (b := 2543) (by omega) (g68b)) ?_
    refine zr_aloadn X 0 dX6_transferOn_84 rfl ?_
    refine zr_get X (ci := 6) (q := 10) (zR _) (.ref (ad (5))) dX6_transferOn_85 (by omega) rfl rfl inX6 (by decide) rfl (zvR rfl) rfl k_549 ?_
    refine zr_iconst X (nI (1)) dX6_transferOn_88 (by decide +kernel) ?_
    refine zr_iald X (j := 1) 0 (nI ((B0 i))) dX6_transferOn_89 (by omega) rfl rfl rfl (by omega) (by omega) (zcg (b := 2544) (by omega) (g68c)) ?_
    refine zr_iconst X (nI (0)) dX6_transferOn_90 (by decide +kernel) ?_
    refine zr_iloadn X 2 dX6_transferOn_91 rfl ?_
    refine zr_iadd X (nI ((V0 i))) dX6_transferOn_92 ((nI_add _ _).trans (congrArg nI (by omega))) ?_
    refine zr_aloadn X 0 dX6_transferOn_93 rfl ?_
    refine zr_get X (ci := 6) (q := 10) (zR _) (.ref (ad (5))) dX6_transferOn_94 (by omega) rfl rfl inX6 (by decide) rfl (zvR rfl) rfl k_549 ?_
    refine zr_iconst X (nI (3)) dX6_transferOn_97 (by decide +kernel) ?_
    refine zr_iald X (j := 3) 0 (nI ((T0 i))) dX6_transferOn_98 (by omega) rfl rfl rfl (by omega) (by omega) (zcg (b := 2546) (by omega) (g68e)) ?_
    refine zr_dVi (C := RX6) (ci := 6) [.int (nI ((A0 i))), .int (nI ((B0 i))), .int (nI ((V0 i))), .int (nI ((T0 i)))] [] X (zK_ok A D tc tF tL tM) (c_doT E u68 (f := (A0 i)) (f2 := (B0 i)) (w := (V0 i)) (t := nI ((T0 i))) ((g68f _ (by omega) (by omega)).trans ((hg56.2 _ (by omega) (by omega)).trans ((zgr_lo (by omega) _).trans (hc)))) h8 hf hf2 (by omega) hne (pa := 32 * (A0 i) + (V0 i) + 7) (pb := 32 * (B0 i) + (V0 i) + 7) (by omega) (by omega) ((g68f _ (by omega) (by omega)).trans ((hg56.2 _ (by omega) (by omega)).trans (rfl))) ((g68f _ (by omega) (by omega)).trans ((hg56.2 _ (by omega) (by omega)).trans (rfl)))) k_640 k_642 kp_5 k_7 k_643 hdX6_doTransfer ⟨rfl, rfl⟩ ⟨Nat.le_of_ble_eq_true rfl, Nat.le_of_ble_eq_true rfl⟩ (by omega) rfl rfl rfl rfl (Nat.le_of_ble_eq_true rfl) dX6_transferOn_99 ?_
    refine zr_pop X dX6_transferOn_102 rfl ?_
    refine zr_iinc X 1 (nI (i + 1)) [1, 0, 2, 3] [(0, .ref (ad (0))), (1, .int (nI (i + 1))), (2, .int (nI ((V0 i)))), (3, .int (nI (0)))] dX6_transferOn_103 rfl (zinc _) (by decide) rfl ?_
    refine zr_aloadn X 0 dX6_transferOn_106 rfl ?_
    refine zr_dup X dX6_transferOn_107 rfl ?_
    refine zr_get X (ci := 6) (q := 9) zI (.int (nI ((E0 i)))) dX6_transferOn_108 (by omega) rfl rfl inX6 (by decide) rfl (congrArg Value.int ((pk_un (by omega)).trans ((pk_un (by omega)).trans ((g68a))))) rfl k_548 ?_
    refine zr_iconst X (nI (1)) dX6_transferOn_111 (by decide +kernel) ?_
    refine zr_iadd X (nI ((E0 i) + 1)) dX6_transferOn_112 (nI_add _ _) ?_
    refine zr_put X (ci := 6) (q := 9) (ty0 := tyX6) (ty := .int) (2452) dX6_transferOn_113 (by omega) rfl rfl inX6 tyX6_ok nmX6 (by decide) rfl rfl rfl rfl rfl rfl k_548 (by omega) ?_
    refine zr_goto X 7 dX6_transferOn_116 (by decide) ?_
    refine zr_drop X [0, 1] [(0, .ref (ad (0))), (1, .int (nI (i + 1)))] rfl ?_
    exact ih7 _ ⟨(pk_us).trans (congrArg nI hSi.symm), fun x hx1 hx2 => (pk_un hx1).trans (zupd_2 ((g68f _ (by omega) (by omega)).trans ((hg56.2 _ (by omega) (by omega)).trans (rfl))))⟩

set_option maxHeartbeats 4000000 in
set_option maxRecDepth 100000 in
theorem c_transferOn_u1f {l : Launch} {D : va_G} {tc : Nat → ClassId} {ad : Nat → Nat} {A : Nat → Prop} {tF tL tM : Nat} (E : zN 6 A ad) (μ : Nat → Int32) {w : Nat → Int32} (hw : ∀ q, q < 60 → μ (q + 2460) = w q) {n : Nat} (hn : μ 2447 = nI n) (hn2 : n ≤ 60) {c : Nat} (hc : μ 1 = nI c) (h8 : c ≤ 8) {K : Nat} {S E0 A0 B0 V0 T0 : Nat → Nat} (ch : zch w n S E0 A0 B0 V0 T0 K) (hEK : E0 K = n) (hS1 : S (K + 1) = n + 1) {e : Nat} (he : e ≤ K) (ok : ∀ i, i < e → zok1 (zgr μ A0 B0 V0 T0 i) c (A0 i) (B0 i) (V0 i) (T0 i)) (hf : ¬ A0 e < c) (hv : ¬ V0 e ≤ 19)  : zMi l yX6_transferOn cX6_transferOn 4 (some .int) (zrm 4) (zK A D tc tF tL tM) A D vwCl tc ad 6 shR [.ref (ad (0))] μ (fun r u => r = -1 ∧ (∀ x, x ≠ 2452 → (x < 2543 ∨ 2547 ≤ x) → u x = zgr μ A0 B0 V0 T0 (e) x)) := by
  refine zM_of RX6 [(0, .ref (ad (0)))] (zK_ok A D tc tF tL tM) E.1 E.2 owR_ok (by decide +kernel) rfl (Nat.le_of_ble_eq_true rfl) rfl ?_
  intro pP eE sS mM aS bL mT cO X
  refine zr_iconst X (nI (0)) dX6_transferOn_0 (by decide +kernel) ?_
  refine zr_istoren X [1, 0] [(0, .ref (ad (0))), (1, .int (nI (0)))] dX6_transferOn_1 (by decide) rfl ?_
  refine zr_aloadn X 0 dX6_transferOn_2 rfl ?_
  refine zr_iconst X (nI (0)) dX6_transferOn_3 (by decide +kernel) ?_
  refine zr_put X (ci := 6) (q := 9) (ty0 := tyX6) (ty := .int) (2452) dX6_transferOn_4 (by omega) rfl rfl inX6 tyX6_ok nmX6 (by decide) rfl rfl rfl rfl rfl rfl k_548 (by omega) ?_
  refine zr_forM X (e) (fun i u => u 2452 = nI (S i) ∧ ∀ x, x ≠ 2452 → (x < 2543 ∨ 2547 ≤ x) → u x = zgr μ A0 B0 V0 T0 i x) (fun i => [(0, .ref (ad (0))), (1, .int (nI (i)))]) [] (⟨(pk_us).trans (congrArg nI ch.1.symm), fun x hx1 hx2 => ((pk_un (by omega)).trans (rfl))⟩) rfl ?_ ?_
  · intro u7 hg7
    have hT := ch.2.1 e (by omega)
    have hl := zsT_len hT
    obtain ⟨hav, hbv, hvv, ht1, ht9⟩ := zsT_val hT
    refine zr_aloadn X 0 dX6_transferOn_7 rfl ?_
    refine zr_get X (ci := 6) (q := 9) zI (.int (nI ((S (e))))) dX6_transferOn_8 (by omega) rfl rfl inX6 (by decide) rfl (congrArg Value.int (hg7.1)) rfl k_548 ?_
    refine zr_aloadn X 0 dX6_transferOn_11 rfl ?_
    refine zr_get X (ci := 6) (q := 4) zI (.int (nI (n))) dX6_transferOn_12 (by omega) rfl rfl inX6 (by decide) rfl (congrArg Value.int ((hg7.2 _ (by omega) (by omega)).trans ((zgr_hi (L := 400) (by omega) _ (fun j hj => ⟨by have := zsT_val (ch.2.1 j (by omega)); omega, by have := zsT_val (ch.2.1 j (by omega)); omega⟩)).trans (hn)))) rfl k_543 ?_
    refine zr_icmp_ge X 119 dX6_transferOn_15 (by decide) (fun q => absurd q (nI_ge (by omega) (by omega))) (fun _ => ?_)
    refine zr_aloadn X 0 dX6_transferOn_18 rfl ?_
    refine zr_cVi (C := RX6) (ci := 6) [] [] X (zK_ok A D tc tF tL tM) (c_reads_T E u7 (fun z hz => ((hg7.2 _ (by omega) (by omega)).trans ((zgr_hi (L := 400) (by omega) _ (fun j hj => ⟨by have := zsT_val (ch.2.1 j (by omega)); omega, by have := zsT_val (ch.2.1 j (by omega)); omega⟩)).trans (rfl))).trans (hw z hz)) (p := (S (e))) (hg7.1) (by omega) ((hg7.2 _ (by omega) (by omega)).trans ((zgr_hi (L := 400) (by omega) _ (fun j hj => ⟨by have := zsT_val (ch.2.1 j (by omega)); omega, by have := zsT_val (ch.2.1 j (by omega)); omega⟩)).trans (hn))) hn2 hT) k_707 k_709 kp_12 k_7 k_710 hdX6_readsTransfer ⟨rfl, rfl⟩ ⟨Nat.le_of_ble_eq_true rfl, Nat.le_of_ble_eq_true rfl⟩ (by omega) rfl rfl rfl rfl (Nat.le_of_ble_eq_true rfl) dX6_transferOn_19 (fun z18 u17 hq18 => ?_)
    obtain ⟨rfl, g17a, g17b, g17c, g17d, g17e, g17f⟩ := hq18
    refine zr_pop X dX6_transferOn_22 rfl ?_
    refine zr_aloadn X 0 dX6_transferOn_23 rfl ?_
    refine zr_get X (ci := 6) (q := 10) (zR _) (.ref (ad (5))) dX6_transferOn_24 (by omega) rfl rfl inX6 (by decide) rfl (zvR rfl) rfl k_549 ?_
    refine zr_iconst X (nI (2)) dX6_transferOn_27 (by decide +kernel) ?_
    refine zr_iald X (j := 2) 0 (nI ((V0 e))) dX6_transferOn_28 (by omega) rfl rfl rfl (by omega) (by omega) (zcg (b := 2545) (by omega) (g17d)) ?_
    refine zr_istoren X [1, 2, 0] [(0, .ref (ad (0))), (1, .int (nI (e))), (2, .int (nI ((V0 e))))] dX6_transferOn_29 (by decide) rfl ?_
    refine zr_aloadn X 0 dX6_transferOn_30 rfl ?_
    refine zr_aloadn X 0 dX6_transferOn_31 rfl ?_
    refine zr_get X (ci := 6) (q := 10) (zR _) (.ref (ad (5))) dX6_transferOn_32 (by omega) rfl rfl inX6 (by decide) rfl (zvR rfl) rfl k_549 ?_
    refine zr_iconst X (nI (0)) dX6_transferOn_35 (by decide +kernel) ?_
    refine zr_iald X (j := 0) 0 (nI ((A0 e))) dX6_transferOn_36 (by omega) rfl rfl rfl (by omega) (by omega) (zcg (b := 2543) (by omega) (g17b)) ?_
    refine zr_aloadn X 0 dX6_transferOn_37 rfl ?_
    refine zr_get X (ci := 6) (q := 10) (zR _) (.ref (ad (5))) dX6_transferOn_38 (by omega) rfl rfl inX6 (by decide) rfl (zvR rfl) rfl k_549 ?_
    refine zr_iconst X (nI (1)) dX6_transferOn_41 (by decide +kernel) ?_
    refine zr_iald X (j := 1) 0 (nI ((B0 e))) dX6_transferOn_42 (by omega) rfl rfl rfl (by omega) (by omega) (zcg (b := 2544) (by omega) (g17c)) ?_
    refine zr_iloadn X 2 dX6_transferOn_43 rfl ?_
    refine zr_cSi [.int (nI ((V0 e)))] [.int (nI ((B0 e))), .int (nI ((A0 e))), .ref (ad (0))] X (zK_ok A D tc tF tL tM) (c_isVintage_f E u17 (zin_nI hv (by omega) (by omega))) k_633 k_634 k_7 k_635 hdX6_isVintage ⟨rfl, rfl⟩ ⟨Nat.le_of_ble_eq_true rfl, Nat.le_of_ble_eq_true rfl⟩ rfl rfl (Nat.le_of_ble_eq_true rfl) dX6_transferOn_44 (fun z36 u17 hq36 => ?_)
    obtain ⟨rfl, g17a, g17b, g17c, g17d, g17e, g17f⟩ := hq36
    refine zr_iloadn X 2 dX6_transferOn_47 rfl ?_
    refine zr_cSi [.int (nI ((V0 e)))] [.int (nI (0)), .int (nI ((B0 e))), .int (nI ((A0 e))), .ref (ad (0))] X (zK_ok A D tc tF tL tM) (c_isVintage_f E u17 (zin_nI hv (by omega) (by omega))) k_633 k_634 k_7 k_635 hdX6_isVintage ⟨rfl, rfl⟩ ⟨Nat.le_of_ble_eq_true rfl, Nat.le_of_ble_eq_true rfl⟩ rfl rfl (Nat.le_of_ble_eq_true rfl) dX6_transferOn_48 (fun z39 u17 hq39 => ?_)
    obtain ⟨rfl, g17a, g17b, g17c, g17d, g17e, g17f⟩ := hq39
    refine zr_if_eq X 60 dX6_transferOn_51 (by decide) (fun _ => ?_) (fun q => absurd (zq_eq0 (by omega)) q)
    refine zr_iconst X (nI (0)) dX6_transferOn_60 (by decide +kernel) ?_
    refine zr_aloadn X 0 dX6_transferOn_61 rfl ?_
    refine zr_get X (ci := 6) (q := 10) (zR _) (.ref (ad (5))) dX6_transferOn_62 (by omega) rfl rfl inX6 (by decide) rfl (zvR rfl) rfl k_549 ?_
    refine zr_iconst X (nI (3)) dX6_transferOn_65 (by decide +kernel) ?_
    refine zr_iald X (j := 3) 0 (nI ((T0 e))) dX6_transferOn_66 (by omega) rfl rfl rfl (by omega) (by omega) (zcg (b := 2546) (by omega) (g17e)) ?_
    refine zr_cVi (C := RX6) (ci := 6) [.int (nI ((A0 e))), .int (nI ((B0 e))), .int (nI (0)), .int (nI (0)), .int (nI ((T0 e)))] [] X (zK_ok A D tc tF tL tM) (c_noTransfer_u1 E u17 ((g17f _ (by omega) (by omega)).trans ((hg7.2 _ (by omega) (by omega)).trans ((zgr_lo (by omega) _).trans (hc)))) h8 (zfm_nI hf (by omega) (by omega)) _ _ _ _) k_636 k_638 kp_4 k_7 k_639 hdX6_noTransfer ⟨rfl, rfl⟩ ⟨Nat.le_of_ble_eq_true rfl, Nat.le_of_ble_eq_true rfl⟩ (by omega) rfl rfl rfl rfl (Nat.le_of_ble_eq_true rfl) dX6_transferOn_67 (fun z47 u17 hq47 => ?_)
    obtain ⟨rfl, g17a, g17b, g17c, g17d, g17e, g17f⟩ := hq47
    refine zr_istoren X [1, 2, 3, 0] [(0, .ref (ad (0))), (1, .int (nI (e))), (2, .int (nI ((V0 e)))), (3, .int (-1))] dX6_transferOn_70 (by decide) rfl ?_
    refine zr_iloadn X 3 dX6_transferOn_71 rfl ?_
    refine zr_if_eq X 77 dX6_transferOn_72 (by decide) (fun q => absurd q (by decide)) (fun _ => ?_)
    refine zr_iloadn X 3 dX6_transferOn_75 rfl ?_
    exact zr_iret X dX6_transferOn_76 ⟨rfl, fun x hx1 hx2 => (g17f _ (by omega) (by omega)).trans ((hg7.2 _ (by omega) (by omega)).trans (rfl))⟩
  · intro i u53 hi hg53 ih7
    have hT := ch.2.1 i (by omega)
    have hl := zsT_len hT
    obtain ⟨hav, hbv, hvv, ht1, ht9⟩ := zsT_val hT
    have hSi : S (i + 1) = E0 i + 1 := by by_cases q : i < K; exact (ch.2.2 i q).2; have : i = K := (by omega); subst this; omega
    obtain ⟨hf, hf2, hv, hne, hle⟩ := ok i hi
    refine zr_aloadn X 0 dX6_transferOn_7 rfl ?_
    refine zr_get X (ci := 6) (q := 9) zI (.int (nI ((S (i))))) dX6_transferOn_8 (by omega) rfl rfl inX6 (by decide) rfl (congrArg Value.int (hg53.1)) rfl k_548 ?_
    refine zr_aloadn X 0 dX6_transferOn_11 rfl ?_
    refine zr_get X (ci := 6) (q := 4) zI (.int (nI (n))) dX6_transferOn_12 (by omega) rfl rfl inX6 (by decide) rfl (congrArg Value.int ((hg53.2 _ (by omega) (by omega)).trans ((zgr_hi (L := 400) (by omega) _ (fun j hj => ⟨by have := zsT_val (ch.2.1 j (by omega)); omega, by have := zsT_val (ch.2.1 j (by omega)); omega⟩)).trans (hn)))) rfl k_543 ?_
    refine zr_icmp_ge X 119 dX6_transferOn_15 (by decide) (fun q => absurd q (nI_ge (by omega) (by omega))) (fun _ => ?_)
    refine zr_aloadn X 0 dX6_transferOn_18 rfl ?_
    refine zr_cVi (C := RX6) (ci := 6) [] [] X (zK_ok A D tc tF tL tM) (c_reads_T E u53 (fun z hz => ((hg53.2 _ (by omega) (by omega)).trans ((zgr_hi (L := 400) (by omega) _ (fun j hj => ⟨by have := zsT_val (ch.2.1 j (by omega)); omega, by have := zsT_val (ch.2.1 j (by omega)); omega⟩)).trans (rfl))).trans (hw z hz)) (p := (S (i))) (hg53.1) (by omega) ((hg53.2 _ (by omega) (by omega)).trans ((zgr_hi (L := 400) (by omega) _ (fun j hj => ⟨by have := zsT_val (ch.2.1 j (by omega)); omega, by have := zsT_val (ch.2.1 j (by omega)); omega⟩)).trans (hn))) hn2 hT) k_707 k_709 kp_12 k_7 k_710 hdX6_readsTransfer ⟨rfl, rfl⟩ ⟨Nat.le_of_ble_eq_true rfl, Nat.le_of_ble_eq_true rfl⟩ (by omega) rfl rfl rfl rfl (Nat.le_of_ble_eq_true rfl) dX6_transferOn_19 (fun z66 u65 hq66 => ?_)
    obtain ⟨rfl, g65a, g65b, g65c, g65d, g65e, g65f⟩ := hq66
    refine zr_pop X dX6_transferOn_22 rfl ?_
    refine zr_aloadn X 0 dX6_transferOn_23 rfl ?_
    refine zr_get X (ci := 6) (q := 10) (zR _) (.ref (ad (5))) dX6_transferOn_24 (by omega) rfl rfl inX6 (by decide) rfl (zvR rfl) rfl k_549 ?_
    refine zr_iconst X (nI (2)) dX6_transferOn_27 (by decide +kernel) ?_
    refine zr_iald X (j := 2) 0 (nI ((V0 i))) dX6_transferOn_28 (by omega) rfl rfl rfl (by omega) (by omega) (zcg (b := 2545) (by omega) (g65d)) ?_
    refine zr_istoren X [1, 2, 0] [(0, .ref (ad (0))), (1, .int (nI (i))), (2, .int (nI ((V0 i))))] dX6_transferOn_29 (by decide) rfl ?_
    refine zr_aloadn X 0 dX6_transferOn_30 rfl ?_
    refine zr_aloadn X 0 dX6_transferOn_31 rfl ?_
    refine zr_get X (ci := 6) (q := 10) (zR _) (.ref (ad (5))) dX6_transferOn_32 (by omega) rfl rfl inX6 (by decide) rfl (zvR rfl) rfl k_549 ?_
    refine zr_iconst X (nI (0)) dX6_transferOn_35 (by decide +kernel) ?_
    refine zr_iald X (j := 0) 0 (nI ((A0 i))) dX6_transferOn_36 (by omega) rfl rfl rfl (by omega) (by omega) (zcg (b := 2543) (by omega) (g65b)) ?_
    refine zr_aloadn X 0 dX6_transferOn_37 rfl ?_
    refine zr_get X (ci := 6) (q := 10) (zR _) (.ref (ad (5))) dX6_transferOn_38 (by omega) rfl rfl inX6 (by decide) rfl (zvR rfl) rfl k_549 ?_
    refine zr_iconst X (nI (1)) dX6_transferOn_41 (by decide +kernel) ?_
    refine zr_iald X (j := 1) 0 (nI ((B0 i))) dX6_transferOn_42 (by omega) rfl rfl rfl (by omega) (by omega) (zcg (b := 2544) (by omega) (g65c)) ?_
    refine zr_iloadn X 2 dX6_transferOn_43 rfl ?_
    refine zr_cSi [.int (nI ((V0 i)))] [.int (nI ((B0 i))), .int (nI ((A0 i))), .ref (ad (0))] X (zK_ok A D tc tF tL tM) (c_isVintage_t E u65 (by omega) (by omega)) k_633 k_634 k_7 k_635 hdX6_isVintage ⟨rfl, rfl⟩ ⟨Nat.le_of_ble_eq_true rfl, Nat.le_of_ble_eq_true rfl⟩ rfl rfl (Nat.le_of_ble_eq_true rfl) dX6_transferOn_44 (fun z84 u65 hq84 => ?_)
    obtain ⟨rfl, g65a, g65b, g65c, g65d, g65e, g65f⟩ := hq84
    refine zr_iloadn X 2 dX6_transferOn_47 rfl ?_
    refine zr_cSi [.int (nI ((V0 i)))] [.int (nI (1)), .int (nI ((B0 i))), .int (nI ((A0 i))), .ref (ad (0))] X (zK_ok A D tc tF tL tM) (c_isVintage_t E u65 (by omega) (by omega)) k_633 k_634 k_7 k_635 hdX6_isVintage ⟨rfl, rfl⟩ ⟨Nat.le_of_ble_eq_true rfl, Nat.le_of_ble_eq_true rfl⟩ rfl rfl (Nat.le_of_ble_eq_true rfl) dX6_transferOn_48 (fun z87 u65 hq87 => ?_)
    obtain ⟨rfl, g65a, g65b, g65c, g65d, g65e, g65f⟩ := hq87
    refine zr_if_eq X 60 dX6_transferOn_51 (by decide) (fun q => absurd q (nI_ne0 (by omega) (by omega))) (fun _ => ?_)
    refine zr_iconst X (nI (0)) dX6_transferOn_54 (by decide +kernel) ?_
    refine zr_iloadn X 2 dX6_transferOn_55 rfl ?_
    refine zr_iadd X (nI ((V0 i))) dX6_transferOn_56 ((nI_add _ _).trans (congrArg nI (by omega))) ?_
    refine zr_goto X 61 dX6_transferOn_57 (by decide) ?_
    refine zr_aloadn X 0 dX6_transferOn_61 rfl ?_
    refine zr_get X (ci := 6) (q := 10) (zR _) (.ref (ad (5))) dX6_transferOn_62 (by omega) rfl rfl inX6 (by decide) rfl (zvR rfl) rfl k_549 ?_
    refine zr_iconst X (nI (3)) dX6_transferOn_65 (by decide +kernel) ?_
    refine zr_iald X (j := 3) 0 (nI ((T0 i))) dX6_transferOn_66 (by omega) rfl rfl rfl (by omega) (by omega) (zcg (b := 2546) (by omega) (g65e)) ?_
    refine zr_cVi (C := RX6) (ci := 6) [.int (nI ((A0 i))), .int (nI ((B0 i))), .int (nI (1)), .int (nI ((V0 i))), .int (nI ((T0 i)))] [] X (zK_ok A D tc tF tL tM) (c_noTransfer_0 E u65 (f := (A0 i)) (f2 := (B0 i)) (t := (T0 i)) (w := (V0 i)) ((g65f _ (by omega) (by omega)).trans ((hg53.2 _ (by omega) (by omega)).trans ((zgr_lo (by omega) _).trans (hc)))) h8 hf hf2 ht1 ht9 (by omega) hne (by rw [(g65f _ (by omega) (by omega)).trans ((hg53.2 _ (by omega) (by omega)).trans (rfl))]; exact hle)) k_636 k_638 kp_4 k_7 k_639 hdX6_noTransfer ⟨rfl, rfl⟩ ⟨Nat.le_of_ble_eq_true rfl, Nat.le_of_ble_eq_true rfl⟩ (by omega) rfl rfl rfl rfl (Nat.le_of_ble_eq_true rfl) dX6_transferOn_67 (fun z98 u65 hq98 => ?_)
    obtain ⟨rfl, g65a, g65b, g65c, g65d, g65e, g65f⟩ := hq98
    refine zr_istoren X [1, 2, 3, 0] [(0, .ref (ad (0))), (1, .int (nI (i))), (2, .int (nI ((V0 i)))), (3, .int (nI (0)))] dX6_transferOn_70 (by decide) rfl ?_
    refine zr_iloadn X 3 dX6_transferOn_71 rfl ?_
    refine zr_if_eq X 77 dX6_transferOn_72 (by decide) (fun _ => ?_) (fun q => absurd (zq_eq0 (by omega)) q)
    refine zr_aloadn X 0 dX6_transferOn_77 rfl ?_
    refine zr_aloadn X 0 dX6_transferOn_78 rfl ?_
    refine zr_get X (ci := 6) (q := 10) (zR _) (.ref (ad (5))) dX6_transferOn_79 (by omega) rfl rfl inX6 (by decide) rfl (zvR rfl) rfl k_549 ?_
    refine zr_iconst X (nI (0)) dX6_transferOn_82 (by decide +kernel) ?_
    refine zr_iald X (j := 0) 0 (nI ((A0 i))) dX6_transferOn_83 (by omega) rfl rfl rfl (by omega) (by omega) (zcg (b := 2543) (by omega) (g65b)) ?_
    refine zr_aloadn X 0 dX6_transferOn_84 rfl ?_
    refine zr_get X (ci := 6) (q := 10) (zR _) (.ref (ad (5))) dX6_transferOn_85 (by omega) rfl rfl inX6 (by decide) rfl (zvR rfl) rfl k_549 ?_
    refine zr_iconst X (nI (1)) dX6_transferOn_88 (by decide +kernel) ?_
    refine zr_iald X (j := 1) 0 (nI ((B0 i))) dX6_transferOn_89 (by omega) rfl rfl rfl (by omega) (by omega) (zcg (b := 2544) (by omega) (g65c)) ?_
    refine zr_iconst X (nI (0)) dX6_transferOn_90 (by decide +kernel) ?_
    refine zr_iloadn X 2 dX6_transferOn_91 rfl ?_
    refine zr_iadd X (nI ((V0 i))) dX6_transferOn_92 ((nI_add _ _).trans (congrArg nI (by omega))) ?_
    refine zr_aloadn X 0 dX6_transferOn_93 rfl ?_
    refine zr_get X (ci := 6) (q := 10) (zR _) (.ref (ad (5))) dX6_transferOn_94 (by omega) rfl rfl inX6 (by decide) rfl (zvR rfl) rfl k_549 ?_
    refine zr_iconst X (nI (3)) dX6_transferOn_97 (by decide +kernel) ?_
    refine zr_iald X (j := 3) 0 (nI ((T0 i))) dX6_transferOn_98 (by omega) rfl rfl rfl (by omega) (by omega) (zcg (b := 2546) (by omega) (g65e)) ?_
    refine zr_dVi (C := RX6) (ci := 6) [.int (nI ((A0 i))), .int (nI ((B0 i))), .int (nI ((V0 i))), .int (nI ((T0 i)))] [] X (zK_ok A D tc tF tL tM) (c_doT E u65 (f := (A0 i)) (f2 := (B0 i)) (w := (V0 i)) (t := nI ((T0 i))) ((g65f _ (by omega) (by omega)).trans ((hg53.2 _ (by omega) (by omega)).trans ((zgr_lo (by omega) _).trans (hc)))) h8 hf hf2 (by omega) hne (pa := 32 * (A0 i) + (V0 i) + 7) (pb := 32 * (B0 i) + (V0 i) + 7) (by omega) (by omega) ((g65f _ (by omega) (by omega)).trans ((hg53.2 _ (by omega) (by omega)).trans (rfl))) ((g65f _ (by omega) (by omega)).trans ((hg53.2 _ (by omega) (by omega)).trans (rfl)))) k_640 k_642 kp_5 k_7 k_643 hdX6_doTransfer ⟨rfl, rfl⟩ ⟨Nat.le_of_ble_eq_true rfl, Nat.le_of_ble_eq_true rfl⟩ (by omega) rfl rfl rfl rfl (Nat.le_of_ble_eq_true rfl) dX6_transferOn_99 ?_
    refine zr_pop X dX6_transferOn_102 rfl ?_
    refine zr_iinc X 1 (nI (i + 1)) [1, 0, 2, 3] [(0, .ref (ad (0))), (1, .int (nI (i + 1))), (2, .int (nI ((V0 i)))), (3, .int (nI (0)))] dX6_transferOn_103 rfl (zinc _) (by decide) rfl ?_
    refine zr_aloadn X 0 dX6_transferOn_106 rfl ?_
    refine zr_dup X dX6_transferOn_107 rfl ?_
    refine zr_get X (ci := 6) (q := 9) zI (.int (nI ((E0 i)))) dX6_transferOn_108 (by omega) rfl rfl inX6 (by decide) rfl (congrArg Value.int ((pk_un (by omega)).trans ((pk_un (by omega)).trans ((g65a))))) rfl k_548 ?_
    refine zr_iconst X (nI (1)) dX6_transferOn_111 (by decide +kernel) ?_
    refine zr_iadd X (nI ((E0 i) + 1)) dX6_transferOn_112 (nI_add _ _) ?_
    refine zr_put X (ci := 6) (q := 9) (ty0 := tyX6) (ty := .int) (2452) dX6_transferOn_113 (by omega) rfl rfl inX6 tyX6_ok nmX6 (by decide) rfl rfl rfl rfl rfl rfl k_548 (by omega) ?_
    refine zr_goto X 7 dX6_transferOn_116 (by decide) ?_
    refine zr_drop X [0, 1] [(0, .ref (ad (0))), (1, .int (nI (i + 1)))] rfl ?_
    exact ih7 _ ⟨(pk_us).trans (congrArg nI hSi.symm), fun x hx1 hx2 => (pk_un hx1).trans (zupd_2 ((g65f _ (by omega) (by omega)).trans ((hg53.2 _ (by omega) (by omega)).trans (rfl))))⟩

set_option maxHeartbeats 4000000 in
set_option maxRecDepth 100000 in
theorem c_transferOn_u2t {l : Launch} {D : va_G} {tc : Nat → ClassId} {ad : Nat → Nat} {A : Nat → Prop} {tF tL tM : Nat} (E : zN 6 A ad) (μ : Nat → Int32) {w : Nat → Int32} (hw : ∀ q, q < 60 → μ (q + 2460) = w q) {n : Nat} (hn : μ 2447 = nI n) (hn2 : n ≤ 60) {c : Nat} (hc : μ 1 = nI c) (h8 : c ≤ 8) {K : Nat} {S E0 A0 B0 V0 T0 : Nat → Nat} (ch : zch w n S E0 A0 B0 V0 T0 K) (hEK : E0 K = n) (hS1 : S (K + 1) = n + 1) {e : Nat} (he : e ≤ K) (ok : ∀ i, i < e → zok1 (zgr μ A0 B0 V0 T0 i) c (A0 i) (B0 i) (V0 i) (T0 i)) (hf : A0 e < c) (hf2 : ¬ B0 e < c) (hv : V0 e ≤ 19)  : zMi l yX6_transferOn cX6_transferOn 4 (some .int) (zrm 4) (zK A D tc tF tL tM) A D vwCl tc ad 6 shR [.ref (ad (0))] μ (fun r u => r = -1 ∧ (∀ x, x ≠ 2452 → (x < 2543 ∨ 2547 ≤ x) → u x = zgr μ A0 B0 V0 T0 (e) x)) := by
  refine zM_of RX6 [(0, .ref (ad (0)))] (zK_ok A D tc tF tL tM) E.1 E.2 owR_ok (by decide +kernel) rfl (Nat.le_of_ble_eq_true rfl) rfl ?_
  intro pP eE sS mM aS bL mT cO X
  refine zr_iconst X (nI (0)) dX6_transferOn_0 (by decide +kernel) ?_
  refine zr_istoren X [1, 0] [(0, .ref (ad (0))), (1, .int (nI (0)))] dX6_transferOn_1 (by decide) rfl ?_
  refine zr_aloadn X 0 dX6_transferOn_2 rfl ?_
  refine zr_iconst X (nI (0)) dX6_transferOn_3 (by decide +kernel) ?_
  refine zr_put X (ci := 6) (q := 9) (ty0 := tyX6) (ty := .int) (2452) dX6_transferOn_4 (by omega) rfl rfl inX6 tyX6_ok nmX6 (by decide) rfl rfl rfl rfl rfl rfl k_548 (by omega) ?_
  refine zr_forM X (e) (fun i u => u 2452 = nI (S i) ∧ ∀ x, x ≠ 2452 → (x < 2543 ∨ 2547 ≤ x) → u x = zgr μ A0 B0 V0 T0 i x) (fun i => [(0, .ref (ad (0))), (1, .int (nI (i)))]) [] (⟨(pk_us).trans (congrArg nI ch.1.symm), fun x hx1 hx2 => ((pk_un (by omega)).trans (rfl))⟩) rfl ?_ ?_
  · intro u7 hg7
    have hT := ch.2.1 e (by omega)
    have hl := zsT_len hT
    obtain ⟨hav, hbv, hvv, ht1, ht9⟩ := zsT_val hT
    refine zr_aloadn X 0 dX6_transferOn_7 rfl ?_
    refine zr_get X (ci := 6) (q := 9) zI (.int (nI ((S (e))))) dX6_transferOn_8 (by omega) rfl rfl inX6 (by decide) rfl (congrArg Value.int (hg7.1)) rfl k_548 ?_
    refine zr_aloadn X 0 dX6_transferOn_11 rfl ?_
    refine zr_get X (ci := 6) (q := 4) zI (.int (nI (n))) dX6_transferOn_12 (by omega) rfl rfl inX6 (by decide) rfl (congrArg Value.int ((hg7.2 _ (by omega) (by omega)).trans ((zgr_hi (L := 400) (by omega) _ (fun j hj => ⟨by have := zsT_val (ch.2.1 j (by omega)); omega, by have := zsT_val (ch.2.1 j (by omega)); omega⟩)).trans (hn)))) rfl k_543 ?_
    refine zr_icmp_ge X 119 dX6_transferOn_15 (by decide) (fun q => absurd q (nI_ge (by omega) (by omega))) (fun _ => ?_)
    refine zr_aloadn X 0 dX6_transferOn_18 rfl ?_
    refine zr_cVi (C := RX6) (ci := 6) [] [] X (zK_ok A D tc tF tL tM) (c_reads_T E u7 (fun z hz => ((hg7.2 _ (by omega) (by omega)).trans ((zgr_hi (L := 400) (by omega) _ (fun j hj => ⟨by have := zsT_val (ch.2.1 j (by omega)); omega, by have := zsT_val (ch.2.1 j (by omega)); omega⟩)).trans (rfl))).trans (hw z hz)) (p := (S (e))) (hg7.1) (by omega) ((hg7.2 _ (by omega) (by omega)).trans ((zgr_hi (L := 400) (by omega) _ (fun j hj => ⟨by have := zsT_val (ch.2.1 j (by omega)); omega, by have := zsT_val (ch.2.1 j (by omega)); omega⟩)).trans (hn))) hn2 hT) k_707 k_709 kp_12 k_7 k_710 hdX6_readsTransfer ⟨rfl, rfl⟩ ⟨Nat.le_of_ble_eq_true rfl, Nat.le_of_ble_eq_true rfl⟩ (by omega) rfl rfl rfl rfl (Nat.le_of_ble_eq_true rfl) dX6_transferOn_19 (fun z18 u17 hq18 => ?_)
    obtain ⟨rfl, g17a, g17b, g17c, g17d, g17e, g17f⟩ := hq18
    refine zr_pop X dX6_transferOn_22 rfl ?_
    refine zr_aloadn X 0 dX6_transferOn_23 rfl ?_
    refine zr_get X (ci := 6) (q := 10) (zR _) (.ref (ad (5))) dX6_transferOn_24 (by omega) rfl rfl inX6 (by decide) rfl (zvR rfl) rfl k_549 ?_
    refine zr_iconst X (nI (2)) dX6_transferOn_27 (by decide +kernel) ?_
    refine zr_iald X (j := 2) 0 (nI ((V0 e))) dX6_transferOn_28 (by omega) rfl rfl rfl (by omega) (by omega) (zcg (b := 2545) (by omega) (g17d)) ?_
    refine zr_istoren X [1, 2, 0] [(0, .ref (ad (0))), (1, .int (nI (e))), (2, .int (nI ((V0 e))))] dX6_transferOn_29 (by decide) rfl ?_
    refine zr_aloadn X 0 dX6_transferOn_30 rfl ?_
    refine zr_aloadn X 0 dX6_transferOn_31 rfl ?_
    refine zr_get X (ci := 6) (q := 10) (zR _) (.ref (ad (5))) dX6_transferOn_32 (by omega) rfl rfl inX6 (by decide) rfl (zvR rfl) rfl k_549 ?_
    refine zr_iconst X (nI (0)) dX6_transferOn_35 (by decide +kernel) ?_
    refine zr_iald X (j := 0) 0 (nI ((A0 e))) dX6_transferOn_36 (by omega) rfl rfl rfl (by omega) (by omega) (zcg (b := 2543) (by omega) (g17b)) ?_
    refine zr_aloadn X 0 dX6_transferOn_37 rfl ?_
    refine zr_get X (ci := 6) (q := 10) (zR _) (.ref (ad (5))) dX6_transferOn_38 (by omega) rfl rfl inX6 (by decide) rfl (zvR rfl) rfl k_549 ?_
    refine zr_iconst X (nI (1)) dX6_transferOn_41 (by decide +kernel) ?_
    refine zr_iald X (j := 1) 0 (nI ((B0 e))) dX6_transferOn_42 (by omega) rfl rfl rfl (by omega) (by omega) (zcg (b := 2544) (by omega) (g17c)) ?_
    refine zr_iloadn X 2 dX6_transferOn_43 rfl ?_
    refine zr_cSi [.int (nI ((V0 e)))] [.int (nI ((B0 e))), .int (nI ((A0 e))), .ref (ad (0))] X (zK_ok A D tc tF tL tM) (c_isVintage_t E u17 (by omega) (by omega)) k_633 k_634 k_7 k_635 hdX6_isVintage ⟨rfl, rfl⟩ ⟨Nat.le_of_ble_eq_true rfl, Nat.le_of_ble_eq_true rfl⟩ rfl rfl (Nat.le_of_ble_eq_true rfl) dX6_transferOn_44 (fun z36 u17 hq36 => ?_)
    obtain ⟨rfl, g17a, g17b, g17c, g17d, g17e, g17f⟩ := hq36
    refine zr_iloadn X 2 dX6_transferOn_47 rfl ?_
    refine zr_cSi [.int (nI ((V0 e)))] [.int (nI (1)), .int (nI ((B0 e))), .int (nI ((A0 e))), .ref (ad (0))] X (zK_ok A D tc tF tL tM) (c_isVintage_t E u17 (by omega) (by omega)) k_633 k_634 k_7 k_635 hdX6_isVintage ⟨rfl, rfl⟩ ⟨Nat.le_of_ble_eq_true rfl, Nat.le_of_ble_eq_true rfl⟩ rfl rfl (Nat.le_of_ble_eq_true rfl) dX6_transferOn_48 (fun z39 u17 hq39 => ?_)
    obtain ⟨rfl, g17a, g17b, g17c, g17d, g17e, g17f⟩ := hq39
    refine zr_if_eq X 60 dX6_transferOn_51 (by decide) (fun q => absurd q (nI_ne0 (by omega) (by omega))) (fun _ => ?_)
    refine zr_iconst X (nI (0)) dX6_transferOn_54 (by decide +kernel) ?_
    refine zr_iloadn X 2 dX6_transferOn_55 rfl ?_
    refine zr_iadd X (nI ((V0 e))) dX6_transferOn_56 ((nI_add _ _).trans (congrArg nI (by omega))) ?_
    refine zr_goto X 61 dX6_transferOn_57 (by decide) ?_
    refine zr_aloadn X 0 dX6_transferOn_61 rfl ?_
    refine zr_get X (ci := 6) (q := 10) (zR _) (.ref (ad (5))) dX6_transferOn_62 (by omega) rfl rfl inX6 (by decide) rfl (zvR rfl) rfl k_549 ?_
    refine zr_iconst X (nI (3)) dX6_transferOn_65 (by decide +kernel) ?_
    refine zr_iald X (j := 3) 0 (nI ((T0 e))) dX6_transferOn_66 (by omega) rfl rfl rfl (by omega) (by omega) (zcg (b := 2546) (by omega) (g17e)) ?_
    refine zr_cVi (C := RX6) (ci := 6) [.int (nI ((A0 e))), .int (nI ((B0 e))), .int (nI (1)), .int (nI ((V0 e))), .int (nI ((T0 e)))] [] X (zK_ok A D tc tF tL tM) (c_noTransfer_u2 E u17 (f := (A0 e)) ((g17f _ (by omega) (by omega)).trans ((hg7.2 _ (by omega) (by omega)).trans ((zgr_lo (by omega) _).trans (hc)))) h8 hf (zfm_nI hf2 (by omega) (by omega)) _ _ _) k_636 k_638 kp_4 k_7 k_639 hdX6_noTransfer ⟨rfl, rfl⟩ ⟨Nat.le_of_ble_eq_true rfl, Nat.le_of_ble_eq_true rfl⟩ (by omega) rfl rfl rfl rfl (Nat.le_of_ble_eq_true rfl) dX6_transferOn_67 (fun z50 u17 hq50 => ?_)
    obtain ⟨rfl, g17a, g17b, g17c, g17d, g17e, g17f⟩ := hq50
    refine zr_istoren X [1, 2, 3, 0] [(0, .ref (ad (0))), (1, .int (nI (e))), (2, .int (nI ((V0 e)))), (3, .int (-1))] dX6_transferOn_70 (by decide) rfl ?_
    refine zr_iloadn X 3 dX6_transferOn_71 rfl ?_
    refine zr_if_eq X 77 dX6_transferOn_72 (by decide) (fun q => absurd q (by decide)) (fun _ => ?_)
    refine zr_iloadn X 3 dX6_transferOn_75 rfl ?_
    exact zr_iret X dX6_transferOn_76 ⟨rfl, fun x hx1 hx2 => (g17f _ (by omega) (by omega)).trans ((hg7.2 _ (by omega) (by omega)).trans (rfl))⟩
  · intro i u56 hi hg56 ih7
    have hT := ch.2.1 i (by omega)
    have hl := zsT_len hT
    obtain ⟨hav, hbv, hvv, ht1, ht9⟩ := zsT_val hT
    have hSi : S (i + 1) = E0 i + 1 := by by_cases q : i < K; exact (ch.2.2 i q).2; have : i = K := (by omega); subst this; omega
    obtain ⟨hf, hf2, hv, hne, hle⟩ := ok i hi
    refine zr_aloadn X 0 dX6_transferOn_7 rfl ?_
    refine zr_get X (ci := 6) (q := 9) zI (.int (nI ((S (i))))) dX6_transferOn_8 (by omega) rfl rfl inX6 (by decide) rfl (congrArg Value.int (hg56.1)) rfl k_548 ?_
    refine zr_aloadn X 0 dX6_transferOn_11 rfl ?_
    refine zr_get X (ci := 6) (q := 4) zI (.int (nI (n))) dX6_transferOn_12 (by omega) rfl rfl inX6 (by decide) rfl (congrArg Value.int ((hg56.2 _ (by omega) (by omega)).trans ((zgr_hi (L := 400) (by omega) _ (fun j hj => ⟨by have := zsT_val (ch.2.1 j (by omega)); omega, by have := zsT_val (ch.2.1 j (by omega)); omega⟩)).trans (hn)))) rfl k_543 ?_
    refine zr_icmp_ge X 119 dX6_transferOn_15 (by decide) (fun q => absurd q (nI_ge (by omega) (by omega))) (fun _ => ?_)
    refine zr_aloadn X 0 dX6_transferOn_18 rfl ?_
    refine zr_cVi (C := RX6) (ci := 6) [] [] X (zK_ok A D tc tF tL tM) (c_reads_T E u56 (fun z hz => ((hg56.2 _ (by omega) (by omega)).trans ((zgr_hi (L := 400) (by omega) _ (fun j hj => ⟨by have := zsT_val (ch.2.1 j (by omega)); omega, by have := zsT_val (ch.2.1 j (by omega)); omega⟩)).trans (rfl))).trans (hw z hz)) (p := (S (i))) (hg56.1) (by omega) ((hg56.2 _ (by omega) (by omega)).trans ((zgr_hi (L := 400) (by omega) _ (fun j hj => ⟨by have := zsT_val (ch.2.1 j (by omega)); omega, by have := zsT_val (ch.2.1 j (by omega)); omega⟩)).trans (hn))) hn2 hT) k_707 k_709 kp_12 k_7 k_710 hdX6_readsTransfer ⟨rfl, rfl⟩ ⟨Nat.le_of_ble_eq_true rfl, Nat.le_of_ble_eq_true rfl⟩ (by omega) rfl rfl rfl rfl (Nat.le_of_ble_eq_true rfl) dX6_transferOn_19 (fun z69 u68 hq69 => ?_)
    obtain ⟨rfl, g68a, g68b, g68c, g68d, g68e, g68f⟩ := hq69
    refine zr_pop X dX6_transferOn_22 rfl ?_
    refine zr_aloadn X 0 dX6_transferOn_23 rfl ?_
    refine zr_get X (ci := 6) (q := 10) (zR _) (.ref (ad (5))) dX6_transferOn_24 (by omega) rfl rfl inX6 (by decide) rfl (zvR rfl) rfl k_549 ?_
    refine zr_iconst X (nI (2)) dX6_transferOn_27 (by decide +kernel) ?_
    refine zr_iald X (j := 2) 0 (nI ((V0 i))) dX6_transferOn_28 (by omega) rfl rfl rfl (by omega) (by omega) (zcg (b := 2545) (by omega) (g68d)) ?_
    refine zr_istoren X [1, 2, 0] [(0, .ref (ad (0))), (1, .int (nI (i))), (2, .int (nI ((V0 i))))] dX6_transferOn_29 (by decide) rfl ?_
    refine zr_aloadn X 0 dX6_transferOn_30 rfl ?_
    refine zr_aloadn X 0 dX6_transferOn_31 rfl ?_
    refine zr_get X (ci := 6) (q := 10) (zR _) (.ref (ad (5))) dX6_transferOn_32 (by omega) rfl rfl inX6 (by decide) rfl (zvR rfl) rfl k_549 ?_
    refine zr_iconst X (nI (0)) dX6_transferOn_35 (by decide +kernel) ?_
    refine zr_iald X (j := 0) 0 (nI ((A0 i))) dX6_transferOn_36 (by omega) rfl rfl rfl (by omega) (by omega) (zcg (b := 2543) (by omega) (g68b)) ?_
    refine zr_aloadn X 0 dX6_transferOn_37 rfl ?_
    refine zr_get X (ci := 6) (q := 10) (zR _) (.ref (ad (5))) dX6_transferOn_38 (by omega) rfl rfl inX6 (by decide) rfl (zvR rfl) rfl k_549 ?_
    refine zr_iconst X (nI (1)) dX6_transferOn_41 (by decide +kernel) ?_
    refine zr_iald X (j := 1) 0 (nI ((B0 i))) dX6_transferOn_42 (by omega) rfl rfl rfl (by omega) (by omega) (zcg (b := 2544) (by omega) (g68c)) ?_
    refine zr_iloadn X 2 dX6_transferOn_43 rfl ?_
    refine zr_cSi [.int (nI ((V0 i)))] [.int (nI ((B0 i))), .int (nI ((A0 i))), .ref (ad (0))] X (zK_ok A D tc tF tL tM) (c_isVintage_t E u68 (by omega) (by omega)) k_633 k_634 k_7 k_635 hdX6_isVintage ⟨rfl, rfl⟩ ⟨Nat.le_of_ble_eq_true rfl, Nat.le_of_ble_eq_true rfl⟩ rfl rfl (Nat.le_of_ble_eq_true rfl) dX6_transferOn_44 (fun z87 u68 hq87 => ?_)
    obtain ⟨rfl, g68a, g68b, g68c, g68d, g68e, g68f⟩ := hq87
    refine zr_iloadn X 2 dX6_transferOn_47 rfl ?_
    refine zr_cSi [.int (nI ((V0 i)))] [.int (nI (1)), .int (nI ((B0 i))), .int (nI ((A0 i))), .ref (ad (0))] X (zK_ok A D tc tF tL tM) (c_isVintage_t E u68 (by omega) (by omega)) k_633 k_634 k_7 k_635 hdX6_isVintage ⟨rfl, rfl⟩ ⟨Nat.le_of_ble_eq_true rfl, Nat.le_of_ble_eq_true rfl⟩ rfl rfl (Nat.le_of_ble_eq_true rfl) dX6_transferOn_48 (fun z90 u68 hq90 => ?_)
    obtain ⟨rfl, g68a, g68b, g68c, g68d, g68e, g68f⟩ := hq90
    refine zr_if_eq X 60 dX6_transferOn_51 (by decide) (fun q => absurd q (nI_ne0 (by omega) (by omega))) (fun _ => ?_)
    refine zr_iconst X (nI (0)) dX6_transferOn_54 (by decide +kernel) ?_
    refine zr_iloadn X 2 dX6_transferOn_55 rfl ?_
    refine zr_iadd X (nI ((V0 i))) dX6_transferOn_56 ((nI_add _ _).trans (congrArg nI (by omega))) ?_
    refine zr_goto X 61 dX6_transferOn_57 (by decide) ?_
    refine zr_aloadn X 0 dX6_transferOn_61 rfl ?_
    refine zr_get X (ci := 6) (q := 10) (zR _) (.ref (ad (5))) dX6_transferOn_62 (by omega) rfl rfl inX6 (by decide) rfl (zvR rfl) rfl k_549 ?_
    refine zr_iconst X (nI (3)) dX6_transferOn_65 (by decide +kernel) ?_
    refine zr_iald X (j := 3) 0 (nI ((T0 i))) dX6_transferOn_66 (by omega) rfl rfl rfl (by omega) (by omega) (zcg (b := 2546) (by omega) (g68e)) ?_
    refine zr_cVi (C := RX6) (ci := 6) [.int (nI ((A0 i))), .int (nI ((B0 i))), .int (nI (1)), .int (nI ((V0 i))), .int (nI ((T0 i)))] [] X (zK_ok A D tc tF tL tM) (c_noTransfer_0 E u68 (f := (A0 i)) (f2 := (B0 i)) (t := (T0 i)) (w := (V0 i)) ((g68f _ (by omega) (by omega)).trans ((hg56.2 _ (by omega) (by omega)).trans ((zgr_lo (by omega) _).trans (hc)))) h8 hf hf2 ht1 ht9 (by omega) hne (by rw [(g68f _ (by omega) (by omega)).trans ((hg56.2 _ (by omega) (by omega)).trans (rfl))]; exact hle)) k_636 k_638 kp_4 k_7 k_639 hdX6_noTransfer ⟨rfl, rfl⟩ ⟨Nat.le_of_ble_eq_true rfl, Nat.le_of_ble_eq_true rfl⟩ (by omega) rfl rfl rfl rfl (Nat.le_of_ble_eq_true rfl) dX6_transferOn_67 (fun z101 u68 hq101 => ?_)
    obtain ⟨rfl, g68a, g68b, g68c, g68d, g68e, g68f⟩ := hq101
    refine zr_istoren X [1, 2, 3, 0] [(0, .ref (ad (0))), (1, .int (nI (i))), (2, .int (nI ((V0 i)))), (3, .int (nI (0)))] dX6_transferOn_70 (by decide) rfl ?_
    refine zr_iloadn X 3 dX6_transferOn_71 rfl ?_
    refine zr_if_eq X 77 dX6_transferOn_72 (by decide) (fun _ => ?_) (fun q => absurd (zq_eq0 (by omega)) q)
    refine zr_aloadn X 0 dX6_transferOn_77 rfl ?_
    refine zr_aloadn X 0 dX6_transferOn_78 rfl ?_
    refine zr_get X (ci := 6) (q := 10) (zR _) (.ref (ad (5))) dX6_transferOn_79 (by omega) rfl rfl inX6 (by decide) rfl (zvR rfl) rfl k_549 ?_
    refine zr_iconst X (nI (0)) dX6_transferOn_82 (by decide +kernel) ?_
    refine zr_iald X (j := 0) 0 (nI ((A0 i))) dX6_transferOn_83 (by omega) rfl rfl rfl (by omega) (by omega) (zcg (b := 2543) (by omega) (g68b)) ?_
    refine zr_aloadn X 0 dX6_transferOn_84 rfl ?_
    refine zr_get X (ci := 6) (q := 10) (zR _) (.ref (ad (5))) dX6_transferOn_85 (by omega) rfl rfl inX6 (by decide) rfl (zvR rfl) rfl k_549 ?_
    refine zr_iconst X (nI (1)) dX6_transferOn_88 (by decide +kernel) ?_
    refine zr_iald X (j := 1) 0 (nI ((B0 i))) dX6_transferOn_89 (by omega) rfl rfl rfl (by omega) (by omega) (zcg (b := 2544) (by omega) (g68c)) ?_
    refine zr_iconst X (nI (0)) dX6_transferOn_90 (by decide +kernel) ?_
    refine zr_iloadn X 2 dX6_transferOn_91 rfl ?_
    refine zr_iadd X (nI ((V0 i))) dX6_transferOn_92 ((nI_add _ _).trans (congrArg nI (by omega))) ?_
    refine zr_aloadn X 0 dX6_transferOn_93 rfl ?_
    refine zr_get X (ci := 6) (q := 10) (zR _) (.ref (ad (5))) dX6_transferOn_94 (by omega) rfl rfl inX6 (by decide) rfl (zvR rfl) rfl k_549 ?_
    refine zr_iconst X (nI (3)) dX6_transferOn_97 (by decide +kernel) ?_
    refine zr_iald X (j := 3) 0 (nI ((T0 i))) dX6_transferOn_98 (by omega) rfl rfl rfl (by omega) (by omega) (zcg (b := 2546) (by omega) (g68e)) ?_
    refine zr_dVi (C := RX6) (ci := 6) [.int (nI ((A0 i))), .int (nI ((B0 i))), .int (nI ((V0 i))), .int (nI ((T0 i)))] [] X (zK_ok A D tc tF tL tM) (c_doT E u68 (f := (A0 i)) (f2 := (B0 i)) (w := (V0 i)) (t := nI ((T0 i))) ((g68f _ (by omega) (by omega)).trans ((hg56.2 _ (by omega) (by omega)).trans ((zgr_lo (by omega) _).trans (hc)))) h8 hf hf2 (by omega) hne (pa := 32 * (A0 i) + (V0 i) + 7) (pb := 32 * (B0 i) + (V0 i) + 7) (by omega) (by omega) ((g68f _ (by omega) (by omega)).trans ((hg56.2 _ (by omega) (by omega)).trans (rfl))) ((g68f _ (by omega) (by omega)).trans ((hg56.2 _ (by omega) (by omega)).trans (rfl)))) k_640 k_642 kp_5 k_7 k_643 hdX6_doTransfer ⟨rfl, rfl⟩ ⟨Nat.le_of_ble_eq_true rfl, Nat.le_of_ble_eq_true rfl⟩ (by omega) rfl rfl rfl rfl (Nat.le_of_ble_eq_true rfl) dX6_transferOn_99 ?_
    refine zr_pop X dX6_transferOn_102 rfl ?_
    refine zr_iinc X 1 (nI (i + 1)) [1, 0, 2, 3] [(0, .ref (ad (0))), (1, .int (nI (i + 1))), (2, .int (nI ((V0 i)))), (3, .int (nI (0)))] dX6_transferOn_103 rfl (zinc _) (by decide) rfl ?_
    refine zr_aloadn X 0 dX6_transferOn_106 rfl ?_
    refine zr_dup X dX6_transferOn_107 rfl ?_
    refine zr_get X (ci := 6) (q := 9) zI (.int (nI ((E0 i)))) dX6_transferOn_108 (by omega) rfl rfl inX6 (by decide) rfl (congrArg Value.int ((pk_un (by omega)).trans ((pk_un (by omega)).trans ((g68a))))) rfl k_548 ?_
    refine zr_iconst X (nI (1)) dX6_transferOn_111 (by decide +kernel) ?_
    refine zr_iadd X (nI ((E0 i) + 1)) dX6_transferOn_112 (nI_add _ _) ?_
    refine zr_put X (ci := 6) (q := 9) (ty0 := tyX6) (ty := .int) (2452) dX6_transferOn_113 (by omega) rfl rfl inX6 tyX6_ok nmX6 (by decide) rfl rfl rfl rfl rfl rfl k_548 (by omega) ?_
    refine zr_goto X 7 dX6_transferOn_116 (by decide) ?_
    refine zr_drop X [0, 1] [(0, .ref (ad (0))), (1, .int (nI (i + 1)))] rfl ?_
    exact ih7 _ ⟨(pk_us).trans (congrArg nI hSi.symm), fun x hx1 hx2 => (pk_un hx1).trans (zupd_2 ((g68f _ (by omega) (by omega)).trans ((hg56.2 _ (by omega) (by omega)).trans (rfl))))⟩

set_option maxHeartbeats 4000000 in
set_option maxRecDepth 100000 in
theorem c_transferOn_u2f {l : Launch} {D : va_G} {tc : Nat → ClassId} {ad : Nat → Nat} {A : Nat → Prop} {tF tL tM : Nat} (E : zN 6 A ad) (μ : Nat → Int32) {w : Nat → Int32} (hw : ∀ q, q < 60 → μ (q + 2460) = w q) {n : Nat} (hn : μ 2447 = nI n) (hn2 : n ≤ 60) {c : Nat} (hc : μ 1 = nI c) (h8 : c ≤ 8) {K : Nat} {S E0 A0 B0 V0 T0 : Nat → Nat} (ch : zch w n S E0 A0 B0 V0 T0 K) (hEK : E0 K = n) (hS1 : S (K + 1) = n + 1) {e : Nat} (he : e ≤ K) (ok : ∀ i, i < e → zok1 (zgr μ A0 B0 V0 T0 i) c (A0 i) (B0 i) (V0 i) (T0 i)) (hf : A0 e < c) (hf2 : ¬ B0 e < c) (hv : ¬ V0 e ≤ 19)  : zMi l yX6_transferOn cX6_transferOn 4 (some .int) (zrm 4) (zK A D tc tF tL tM) A D vwCl tc ad 6 shR [.ref (ad (0))] μ (fun r u => r = -1 ∧ (∀ x, x ≠ 2452 → (x < 2543 ∨ 2547 ≤ x) → u x = zgr μ A0 B0 V0 T0 (e) x)) := by
  refine zM_of RX6 [(0, .ref (ad (0)))] (zK_ok A D tc tF tL tM) E.1 E.2 owR_ok (by decide +kernel) rfl (Nat.le_of_ble_eq_true rfl) rfl ?_
  intro pP eE sS mM aS bL mT cO X
  refine zr_iconst X (nI (0)) dX6_transferOn_0 (by decide +kernel) ?_
  refine zr_istoren X [1, 0] [(0, .ref (ad (0))), (1, .int (nI (0)))] dX6_transferOn_1 (by decide) rfl ?_
  refine zr_aloadn X 0 dX6_transferOn_2 rfl ?_
  refine zr_iconst X (nI (0)) dX6_transferOn_3 (by decide +kernel) ?_
  refine zr_put X (ci := 6) (q := 9) (ty0 := tyX6) (ty := .int) (2452) dX6_transferOn_4 (by omega) rfl rfl inX6 tyX6_ok nmX6 (by decide) rfl rfl rfl rfl rfl rfl k_548 (by omega) ?_
  refine zr_forM X (e) (fun i u => u 2452 = nI (S i) ∧ ∀ x, x ≠ 2452 → (x < 2543 ∨ 2547 ≤ x) → u x = zgr μ A0 B0 V0 T0 i x) (fun i => [(0, .ref (ad (0))), (1, .int (nI (i)))]) [] (⟨(pk_us).trans (congrArg nI ch.1.symm), fun x hx1 hx2 => ((pk_un (by omega)).trans (rfl))⟩) rfl ?_ ?_
  · intro u7 hg7
    have hT := ch.2.1 e (by omega)
    have hl := zsT_len hT
    obtain ⟨hav, hbv, hvv, ht1, ht9⟩ := zsT_val hT
    refine zr_aloadn X 0 dX6_transferOn_7 rfl ?_
    refine zr_get X (ci := 6) (q := 9) zI (.int (nI ((S (e))))) dX6_transferOn_8 (by omega) rfl rfl inX6 (by decide) rfl (congrArg Value.int (hg7.1)) rfl k_548 ?_
    refine zr_aloadn X 0 dX6_transferOn_11 rfl ?_
    refine zr_get X (ci := 6) (q := 4) zI (.int (nI (n))) dX6_transferOn_12 (by omega) rfl rfl inX6 (by decide) rfl (congrArg Value.int ((hg7.2 _ (by omega) (by omega)).trans ((zgr_hi (L := 400) (by omega) _ (fun j hj => ⟨by have := zsT_val (ch.2.1 j (by omega)); omega, by have := zsT_val (ch.2.1 j (by omega)); omega⟩)).trans (hn)))) rfl k_543 ?_
    refine zr_icmp_ge X 119 dX6_transferOn_15 (by decide) (fun q => absurd q (nI_ge (by omega) (by omega))) (fun _ => ?_)
    refine zr_aloadn X 0 dX6_transferOn_18 rfl ?_
    refine zr_cVi (C := RX6) (ci := 6) [] [] X (zK_ok A D tc tF tL tM) (c_reads_T E u7 (fun z hz => ((hg7.2 _ (by omega) (by omega)).trans ((zgr_hi (L := 400) (by omega) _ (fun j hj => ⟨by have := zsT_val (ch.2.1 j (by omega)); omega, by have := zsT_val (ch.2.1 j (by omega)); omega⟩)).trans (rfl))).trans (hw z hz)) (p := (S (e))) (hg7.1) (by omega) ((hg7.2 _ (by omega) (by omega)).trans ((zgr_hi (L := 400) (by omega) _ (fun j hj => ⟨by have := zsT_val (ch.2.1 j (by omega)); omega, by have := zsT_val (ch.2.1 j (by omega)); omega⟩)).trans (hn))) hn2 hT) k_707 k_709 kp_12 k_7 k_710 hdX6_readsTransfer ⟨rfl, rfl⟩ ⟨Nat.le_of_ble_eq_true rfl, Nat.le_of_ble_eq_true rfl⟩ (by omega) rfl rfl rfl rfl (Nat.le_of_ble_eq_true rfl) dX6_transferOn_19 (fun z18 u17 hq18 => ?_)
    obtain ⟨rfl, g17a, g17b, g17c, g17d, g17e, g17f⟩ := hq18
    refine zr_pop X dX6_transferOn_22 rfl ?_
    refine zr_aloadn X 0 dX6_transferOn_23 rfl ?_
    refine zr_get X (ci := 6) (q := 10) (zR _) (.ref (ad (5))) dX6_transferOn_24 (by omega) rfl rfl inX6 (by decide) rfl (zvR rfl) rfl k_549 ?_
    refine zr_iconst X (nI (2)) dX6_transferOn_27 (by decide +kernel) ?_
    refine zr_iald X (j := 2) 0 (nI ((V0 e))) dX6_transferOn_28 (by omega) rfl rfl rfl (by omega) (by omega) (zcg (b := 2545) (by omega) (g17d)) ?_
    refine zr_istoren X [1, 2, 0] [(0, .ref (ad (0))), (1, .int (nI (e))), (2, .int (nI ((V0 e))))] dX6_transferOn_29 (by decide) rfl ?_
    refine zr_aloadn X 0 dX6_transferOn_30 rfl ?_
    refine zr_aloadn X 0 dX6_transferOn_31 rfl ?_
    refine zr_get X (ci := 6) (q := 10) (zR _) (.ref (ad (5))) dX6_transferOn_32 (by omega) rfl rfl inX6 (by decide) rfl (zvR rfl) rfl k_549 ?_
    refine zr_iconst X (nI (0)) dX6_transferOn_35 (by decide +kernel) ?_
    refine zr_iald X (j := 0) 0 (nI ((A0 e))) dX6_transferOn_36 (by omega) rfl rfl rfl (by omega) (by omega) (zcg (b := 2543) (by omega) (g17b)) ?_
    refine zr_aloadn X 0 dX6_transferOn_37 rfl ?_
    refine zr_get X (ci := 6) (q := 10) (zR _) (.ref (ad (5))) dX6_transferOn_38 (by omega) rfl rfl inX6 (by decide) rfl (zvR rfl) rfl k_549 ?_
    refine zr_iconst X (nI (1)) dX6_transferOn_41 (by decide +kernel) ?_
    refine zr_iald X (j := 1) 0 (nI ((B0 e))) dX6_transferOn_42 (by omega) rfl rfl rfl (by omega) (by omega) (zcg (b := 2544) (by omega) (g17c)) ?_
    refine zr_iloadn X 2 dX6_transferOn_43 rfl ?_
    refine zr_cSi [.int (nI ((V0 e)))] [.int (nI ((B0 e))), .int (nI ((A0 e))), .ref (ad (0))] X (zK_ok A D tc tF tL tM) (c_isVintage_f E u17 (zin_nI hv (by omega) (by omega))) k_633 k_634 k_7 k_635 hdX6_isVintage ⟨rfl, rfl⟩ ⟨Nat.le_of_ble_eq_true rfl, Nat.le_of_ble_eq_true rfl⟩ rfl rfl (Nat.le_of_ble_eq_true rfl) dX6_transferOn_44 (fun z36 u17 hq36 => ?_)
    obtain ⟨rfl, g17a, g17b, g17c, g17d, g17e, g17f⟩ := hq36
    refine zr_iloadn X 2 dX6_transferOn_47 rfl ?_
    refine zr_cSi [.int (nI ((V0 e)))] [.int (nI (0)), .int (nI ((B0 e))), .int (nI ((A0 e))), .ref (ad (0))] X (zK_ok A D tc tF tL tM) (c_isVintage_f E u17 (zin_nI hv (by omega) (by omega))) k_633 k_634 k_7 k_635 hdX6_isVintage ⟨rfl, rfl⟩ ⟨Nat.le_of_ble_eq_true rfl, Nat.le_of_ble_eq_true rfl⟩ rfl rfl (Nat.le_of_ble_eq_true rfl) dX6_transferOn_48 (fun z39 u17 hq39 => ?_)
    obtain ⟨rfl, g17a, g17b, g17c, g17d, g17e, g17f⟩ := hq39
    refine zr_if_eq X 60 dX6_transferOn_51 (by decide) (fun _ => ?_) (fun q => absurd (zq_eq0 (by omega)) q)
    refine zr_iconst X (nI (0)) dX6_transferOn_60 (by decide +kernel) ?_
    refine zr_aloadn X 0 dX6_transferOn_61 rfl ?_
    refine zr_get X (ci := 6) (q := 10) (zR _) (.ref (ad (5))) dX6_transferOn_62 (by omega) rfl rfl inX6 (by decide) rfl (zvR rfl) rfl k_549 ?_
    refine zr_iconst X (nI (3)) dX6_transferOn_65 (by decide +kernel) ?_
    refine zr_iald X (j := 3) 0 (nI ((T0 e))) dX6_transferOn_66 (by omega) rfl rfl rfl (by omega) (by omega) (zcg (b := 2546) (by omega) (g17e)) ?_
    refine zr_cVi (C := RX6) (ci := 6) [.int (nI ((A0 e))), .int (nI ((B0 e))), .int (nI (0)), .int (nI (0)), .int (nI ((T0 e)))] [] X (zK_ok A D tc tF tL tM) (c_noTransfer_u2 E u17 (f := (A0 e)) ((g17f _ (by omega) (by omega)).trans ((hg7.2 _ (by omega) (by omega)).trans ((zgr_lo (by omega) _).trans (hc)))) h8 hf (zfm_nI hf2 (by omega) (by omega)) _ _ _) k_636 k_638 kp_4 k_7 k_639 hdX6_noTransfer ⟨rfl, rfl⟩ ⟨Nat.le_of_ble_eq_true rfl, Nat.le_of_ble_eq_true rfl⟩ (by omega) rfl rfl rfl rfl (Nat.le_of_ble_eq_true rfl) dX6_transferOn_67 (fun z47 u17 hq47 => ?_)
    obtain ⟨rfl, g17a, g17b, g17c, g17d, g17e, g17f⟩ := hq47
    refine zr_istoren X [1, 2, 3, 0] [(0, .ref (ad (0))), (1, .int (nI (e))), (2, .int (nI ((V0 e)))), (3, .int (-1))] dX6_transferOn_70 (by decide) rfl ?_
    refine zr_iloadn X 3 dX6_transferOn_71 rfl ?_
    refine zr_if_eq X 77 dX6_transferOn_72 (by decide) (fun q => absurd q (by decide)) (fun _ => ?_)
    refine zr_iloadn X 3 dX6_transferOn_75 rfl ?_
    exact zr_iret X dX6_transferOn_76 ⟨rfl, fun x hx1 hx2 => (g17f _ (by omega) (by omega)).trans ((hg7.2 _ (by omega) (by omega)).trans (rfl))⟩
  · intro i u53 hi hg53 ih7
    have hT := ch.2.1 i (by omega)
    have hl := zsT_len hT
    obtain ⟨hav, hbv, hvv, ht1, ht9⟩ := zsT_val hT
    have hSi : S (i + 1) = E0 i + 1 := by by_cases q : i < K; exact (ch.2.2 i q).2; have : i = K := (by omega); subst this; omega
    obtain ⟨hf, hf2, hv, hne, hle⟩ := ok i hi
    refine zr_aloadn X 0 dX6_transferOn_7 rfl ?_
    refine zr_get X (ci := 6) (q := 9) zI (.int (nI ((S (i))))) dX6_transferOn_8 (by omega) rfl rfl inX6 (by decide) rfl (congrArg Value.int (hg53.1)) rfl k_548 ?_
    refine zr_aloadn X 0 dX6_transferOn_11 rfl ?_
    refine zr_get X (ci := 6) (q := 4) zI (.int (nI (n))) dX6_transferOn_12 (by omega) rfl rfl inX6 (by decide) rfl (congrArg Value.int ((hg53.2 _ (by omega) (by omega)).trans ((zgr_hi (L := 400) (by omega) _ (fun j hj => ⟨by have := zsT_val (ch.2.1 j (by omega)); omega, by have := zsT_val (ch.2.1 j (by omega)); omega⟩)).trans (hn)))) rfl k_543 ?_
    refine zr_icmp_ge X 119 dX6_transferOn_15 (by decide) (fun q => absurd q (nI_ge (by omega) (by omega))) (fun _ => ?_)
    refine zr_aloadn X 0 dX6_transferOn_18 rfl ?_
    refine zr_cVi (C := RX6) (ci := 6) [] [] X (zK_ok A D tc tF tL tM) (c_reads_T E u53 (fun z hz => ((hg53.2 _ (by omega) (by omega)).trans ((zgr_hi (L := 400) (by omega) _ (fun j hj => ⟨by have := zsT_val (ch.2.1 j (by omega)); omega, by have := zsT_val (ch.2.1 j (by omega)); omega⟩)).trans (rfl))).trans (hw z hz)) (p := (S (i))) (hg53.1) (by omega) ((hg53.2 _ (by omega) (by omega)).trans ((zgr_hi (L := 400) (by omega) _ (fun j hj => ⟨by have := zsT_val (ch.2.1 j (by omega)); omega, by have := zsT_val (ch.2.1 j (by omega)); omega⟩)).trans (hn))) hn2 hT) k_707 k_709 kp_12 k_7 k_710 hdX6_readsTransfer ⟨rfl, rfl⟩ ⟨Nat.le_of_ble_eq_true rfl, Nat.le_of_ble_eq_true rfl⟩ (by omega) rfl rfl rfl rfl (Nat.le_of_ble_eq_true rfl) dX6_transferOn_19 (fun z66 u65 hq66 => ?_)
    obtain ⟨rfl, g65a, g65b, g65c, g65d, g65e, g65f⟩ := hq66
    refine zr_pop X dX6_transferOn_22 rfl ?_
    refine zr_aloadn X 0 dX6_transferOn_23 rfl ?_
    refine zr_get X (ci := 6) (q := 10) (zR _) (.ref (ad (5))) dX6_transferOn_24 (by omega) rfl rfl inX6 (by decide) rfl (zvR rfl) rfl k_549 ?_
    refine zr_iconst X (nI (2)) dX6_transferOn_27 (by decide +kernel) ?_
    refine zr_iald X (j := 2) 0 (nI ((V0 i))) dX6_transferOn_28 (by omega) rfl rfl rfl (by omega) (by omega) (zcg (b := 2545) (by omega) (g65d)) ?_
    refine zr_istoren X [1, 2, 0] [(0, .ref (ad (0))), (1, .int (nI (i))), (2, .int (nI ((V0 i))))] dX6_transferOn_29 (by decide) rfl ?_
    refine zr_aloadn X 0 dX6_transferOn_30 rfl ?_
    refine zr_aloadn X 0 dX6_transferOn_31 rfl ?_
    refine zr_get X (ci := 6) (q := 10) (zR _) (.ref (ad (5))) dX6_transferOn_32 (by omega) rfl rfl inX6 (by decide) rfl (zvR rfl) rfl k_549 ?_
    refine zr_iconst X (nI (0)) dX6_transferOn_35 (by decide +kernel) ?_
    refine zr_iald X (j := 0) 0 (nI ((A0 i))) dX6_transferOn_36 (by omega) rfl rfl rfl (by omega) (by omega) (zcg (b := 2543) (by omega) (g65b)) ?_
    refine zr_aloadn X 0 dX6_transferOn_37 rfl ?_
    refine zr_get X (ci := 6) (q := 10) (zR _) (.ref (ad (5))) dX6_transferOn_38 (by omega) rfl rfl inX6 (by decide) rfl (zvR rfl) rfl k_549 ?_
    refine zr_iconst X (nI (1)) dX6_transferOn_41 (by decide +kernel) ?_
    refine zr_iald X (j := 1) 0 (nI ((B0 i))) dX6_transferOn_42 (by omega) rfl rfl rfl (by omega) (by omega) (zcg (b := 2544) (by omega) (g65c)) ?_
    refine zr_iloadn X 2 dX6_transferOn_43 rfl ?_
    refine zr_cSi [.int (nI ((V0 i)))] [.int (nI ((B0 i))), .int (nI ((A0 i))), .ref (ad (0))] X (zK_ok A D tc tF tL tM) (c_isVintage_t E u65 (by omega) (by omega)) k_633 k_634 k_7 k_635 hdX6_isVintage ⟨rfl, rfl⟩ ⟨Nat.le_of_ble_eq_true rfl, Nat.le_of_ble_eq_true rfl⟩ rfl rfl (Nat.le_of_ble_eq_true rfl) dX6_transferOn_44 (fun z84 u65 hq84 => ?_)
    obtain ⟨rfl, g65a, g65b, g65c, g65d, g65e, g65f⟩ := hq84
    refine zr_iloadn X 2 dX6_transferOn_47 rfl ?_
    refine zr_cSi [.int (nI ((V0 i)))] [.int (nI (1)), .int (nI ((B0 i))), .int (nI ((A0 i))), .ref (ad (0))] X (zK_ok A D tc tF tL tM) (c_isVintage_t E u65 (by omega) (by omega)) k_633 k_634 k_7 k_635 hdX6_isVintage ⟨rfl, rfl⟩ ⟨Nat.le_of_ble_eq_true rfl, Nat.le_of_ble_eq_true rfl⟩ rfl rfl (Nat.le_of_ble_eq_true rfl) dX6_transferOn_48 (fun z87 u65 hq87 => ?_)
    obtain ⟨rfl, g65a, g65b, g65c, g65d, g65e, g65f⟩ := hq87
    refine zr_if_eq X 60 dX6_transferOn_51 (by decide) (fun q => absurd q (nI_ne0 (by omega) (by omega))) (fun _ => ?_)
    refine zr_iconst X (nI (0)) dX6_transferOn_54 (by decide +kernel) ?_
    refine zr_iloadn X 2 dX6_transferOn_55 rfl ?_
    refine zr_iadd X (nI ((V0 i))) dX6_transferOn_56 ((nI_add _ _).trans (congrArg nI (by omega))) ?_
    refine zr_goto X 61 dX6_transferOn_57 (by decide) ?_
    refine zr_aloadn X 0 dX6_transferOn_61 rfl ?_
    refine zr_get X (ci := 6) (q := 10) (zR _) (.ref (ad (5))) dX6_transferOn_62 (by omega) rfl rfl inX6 (by decide) rfl (zvR rfl) rfl k_549 ?_
    refine zr_iconst X (nI (3)) dX6_transferOn_65 (by decide +kernel) ?_
    refine zr_iald X (j := 3) 0 (nI ((T0 i))) dX6_transferOn_66 (by omega) rfl rfl rfl (by omega) (by omega) (zcg (b := 2546) (by omega) (g65e)) ?_
    refine zr_cVi (C := RX6) (ci := 6) [.int (nI ((A0 i))), .int (nI ((B0 i))), .int (nI (1)), .int (nI ((V0 i))), .int (nI ((T0 i)))] [] X (zK_ok A D tc tF tL tM) (c_noTransfer_0 E u65 (f := (A0 i)) (f2 := (B0 i)) (t := (T0 i)) (w := (V0 i)) ((g65f _ (by omega) (by omega)).trans ((hg53.2 _ (by omega) (by omega)).trans ((zgr_lo (by omega) _).trans (hc)))) h8 hf hf2 ht1 ht9 (by omega) hne (by rw [(g65f _ (by omega) (by omega)).trans ((hg53.2 _ (by omega) (by omega)).trans (rfl))]; exact hle)) k_636 k_638 kp_4 k_7 k_639 hdX6_noTransfer ⟨rfl, rfl⟩ ⟨Nat.le_of_ble_eq_true rfl, Nat.le_of_ble_eq_true rfl⟩ (by omega) rfl rfl rfl rfl (Nat.le_of_ble_eq_true rfl) dX6_transferOn_67 (fun z98 u65 hq98 => ?_)
    obtain ⟨rfl, g65a, g65b, g65c, g65d, g65e, g65f⟩ := hq98
    refine zr_istoren X [1, 2, 3, 0] [(0, .ref (ad (0))), (1, .int (nI (i))), (2, .int (nI ((V0 i)))), (3, .int (nI (0)))] dX6_transferOn_70 (by decide) rfl ?_
    refine zr_iloadn X 3 dX6_transferOn_71 rfl ?_
    refine zr_if_eq X 77 dX6_transferOn_72 (by decide) (fun _ => ?_) (fun q => absurd (zq_eq0 (by omega)) q)
    refine zr_aloadn X 0 dX6_transferOn_77 rfl ?_
    refine zr_aloadn X 0 dX6_transferOn_78 rfl ?_
    refine zr_get X (ci := 6) (q := 10) (zR _) (.ref (ad (5))) dX6_transferOn_79 (by omega) rfl rfl inX6 (by decide) rfl (zvR rfl) rfl k_549 ?_
    refine zr_iconst X (nI (0)) dX6_transferOn_82 (by decide +kernel) ?_
    refine zr_iald X (j := 0) 0 (nI ((A0 i))) dX6_transferOn_83 (by omega) rfl rfl rfl (by omega) (by omega) (zcg (b := 2543) (by omega) (g65b)) ?_
    refine zr_aloadn X 0 dX6_transferOn_84 rfl ?_
    refine zr_get X (ci := 6) (q := 10) (zR _) (.ref (ad (5))) dX6_transferOn_85 (by omega) rfl rfl inX6 (by decide) rfl (zvR rfl) rfl k_549 ?_
    refine zr_iconst X (nI (1)) dX6_transferOn_88 (by decide +kernel) ?_
    refine zr_iald X (j := 1) 0 (nI ((B0 i))) dX6_transferOn_89 (by omega) rfl rfl rfl (by omega) (by omega) (zcg (b := 2544) (by omega) (g65c)) ?_
    refine zr_iconst X (nI (0)) dX6_transferOn_90 (by decide +kernel) ?_
    refine zr_iloadn X 2 dX6_transferOn_91 rfl ?_
    refine zr_iadd X (nI ((V0 i))) dX6_transferOn_92 ((nI_add _ _).trans (congrArg nI (by omega))) ?_
    refine zr_aloadn X 0 dX6_transferOn_93 rfl ?_
    refine zr_get X (ci := 6) (q := 10) (zR _) (.ref (ad (5))) dX6_transferOn_94 (by omega) rfl rfl inX6 (by decide) rfl (zvR rfl) rfl k_549 ?_
    refine zr_iconst X (nI (3)) dX6_transferOn_97 (by decide +kernel) ?_
    refine zr_iald X (j := 3) 0 (nI ((T0 i))) dX6_transferOn_98 (by omega) rfl rfl rfl (by omega) (by omega) (zcg (b := 2546) (by omega) (g65e)) ?_
    refine zr_dVi (C := RX6) (ci := 6) [.int (nI ((A0 i))), .int (nI ((B0 i))), .int (nI ((V0 i))), .int (nI ((T0 i)))] [] X (zK_ok A D tc tF tL tM) (c_doT E u65 (f := (A0 i)) (f2 := (B0 i)) (w := (V0 i)) (t := nI ((T0 i))) ((g65f _ (by omega) (by omega)).trans ((hg53.2 _ (by omega) (by omega)).trans ((zgr_lo (by omega) _).trans (hc)))) h8 hf hf2 (by omega) hne (pa := 32 * (A0 i) + (V0 i) + 7) (pb := 32 * (B0 i) + (V0 i) + 7) (by omega) (by omega) ((g65f _ (by omega) (by omega)).trans ((hg53.2 _ (by omega) (by omega)).trans (rfl))) ((g65f _ (by omega) (by omega)).trans ((hg53.2 _ (by omega) (by omega)).trans (rfl)))) k_640 k_642 kp_5 k_7 k_643 hdX6_doTransfer ⟨rfl, rfl⟩ ⟨Nat.le_of_ble_eq_true rfl, Nat.le_of_ble_eq_true rfl⟩ (by omega) rfl rfl rfl rfl (Nat.le_of_ble_eq_true rfl) dX6_transferOn_99 ?_
    refine zr_pop X dX6_transferOn_102 rfl ?_
    refine zr_iinc X 1 (nI (i + 1)) [1, 0, 2, 3] [(0, .ref (ad (0))), (1, .int (nI (i + 1))), (2, .int (nI ((V0 i)))), (3, .int (nI (0)))] dX6_transferOn_103 rfl (zinc _) (by decide) rfl ?_
    refine zr_aloadn X 0 dX6_transferOn_106 rfl ?_
    refine zr_dup X dX6_transferOn_107 rfl ?_
    refine zr_get X (ci := 6) (q := 9) zI (.int (nI ((E0 i)))) dX6_transferOn_108 (by omega) rfl rfl inX6 (by decide) rfl (congrArg Value.int ((pk_un (by omega)).trans ((pk_un (by omega)).trans ((g65a))))) rfl k_548 ?_
    refine zr_iconst X (nI (1)) dX6_transferOn_111 (by decide +kernel) ?_
    refine zr_iadd X (nI ((E0 i) + 1)) dX6_transferOn_112 (nI_add _ _) ?_
    refine zr_put X (ci := 6) (q := 9) (ty0 := tyX6) (ty := .int) (2452) dX6_transferOn_113 (by omega) rfl rfl inX6 tyX6_ok nmX6 (by decide) rfl rfl rfl rfl rfl rfl k_548 (by omega) ?_
    refine zr_goto X 7 dX6_transferOn_116 (by decide) ?_
    refine zr_drop X [0, 1] [(0, .ref (ad (0))), (1, .int (nI (i + 1)))] rfl ?_
    exact ih7 _ ⟨(pk_us).trans (congrArg nI hSi.symm), fun x hx1 hx2 => (pk_un hx1).trans (zupd_2 ((g65f _ (by omega) (by omega)).trans ((hg53.2 _ (by omega) (by omega)).trans (rfl))))⟩

set_option maxHeartbeats 4000000 in
set_option maxRecDepth 100000 in
theorem c_transferOn_u3 {l : Launch} {D : va_G} {tc : Nat → ClassId} {ad : Nat → Nat} {A : Nat → Prop} {tF tL tM : Nat} (E : zN 6 A ad) (μ : Nat → Int32) {w : Nat → Int32} (hw : ∀ q, q < 60 → μ (q + 2460) = w q) {n : Nat} (hn : μ 2447 = nI n) (hn2 : n ≤ 60) {c : Nat} (hc : μ 1 = nI c) (h8 : c ≤ 8) {K : Nat} {S E0 A0 B0 V0 T0 : Nat → Nat} (ch : zch w n S E0 A0 B0 V0 T0 K) (hEK : E0 K = n) (hS1 : S (K + 1) = n + 1) {e : Nat} (he : e ≤ K) (ok : ∀ i, i < e → zok1 (zgr μ A0 B0 V0 T0 i) c (A0 i) (B0 i) (V0 i) (T0 i)) (hf : A0 e < c) (hf2 : B0 e < c) (hv : ¬ V0 e ≤ 19)  : zMi l yX6_transferOn cX6_transferOn 4 (some .int) (zrm 4) (zK A D tc tF tL tM) A D vwCl tc ad 6 shR [.ref (ad (0))] μ (fun r u => r = -1 ∧ (∀ x, x ≠ 2452 → (x < 2543 ∨ 2547 ≤ x) → u x = zgr μ A0 B0 V0 T0 (e) x)) := by
  refine zM_of RX6 [(0, .ref (ad (0)))] (zK_ok A D tc tF tL tM) E.1 E.2 owR_ok (by decide +kernel) rfl (Nat.le_of_ble_eq_true rfl) rfl ?_
  intro pP eE sS mM aS bL mT cO X
  refine zr_iconst X (nI (0)) dX6_transferOn_0 (by decide +kernel) ?_
  refine zr_istoren X [1, 0] [(0, .ref (ad (0))), (1, .int (nI (0)))] dX6_transferOn_1 (by decide) rfl ?_
  refine zr_aloadn X 0 dX6_transferOn_2 rfl ?_
  refine zr_iconst X (nI (0)) dX6_transferOn_3 (by decide +kernel) ?_
  refine zr_put X (ci := 6) (q := 9) (ty0 := tyX6) (ty := .int) (2452) dX6_transferOn_4 (by omega) rfl rfl inX6 tyX6_ok nmX6 (by decide) rfl rfl rfl rfl rfl rfl k_548 (by omega) ?_
  refine zr_forM X (e) (fun i u => u 2452 = nI (S i) ∧ ∀ x, x ≠ 2452 → (x < 2543 ∨ 2547 ≤ x) → u x = zgr μ A0 B0 V0 T0 i x) (fun i => [(0, .ref (ad (0))), (1, .int (nI (i)))]) [] (⟨(pk_us).trans (congrArg nI ch.1.symm), fun x hx1 hx2 => ((pk_un (by omega)).trans (rfl))⟩) rfl ?_ ?_
  · intro u7 hg7
    have hT := ch.2.1 e (by omega)
    have hl := zsT_len hT
    obtain ⟨hav, hbv, hvv, ht1, ht9⟩ := zsT_val hT
    refine zr_aloadn X 0 dX6_transferOn_7 rfl ?_
    refine zr_get X (ci := 6) (q := 9) zI (.int (nI ((S (e))))) dX6_transferOn_8 (by omega) rfl rfl inX6 (by decide) rfl (congrArg Value.int (hg7.1)) rfl k_548 ?_
    refine zr_aloadn X 0 dX6_transferOn_11 rfl ?_
    refine zr_get X (ci := 6) (q := 4) zI (.int (nI (n))) dX6_transferOn_12 (by omega) rfl rfl inX6 (by decide) rfl (congrArg Value.int ((hg7.2 _ (by omega) (by omega)).trans ((zgr_hi (L := 400) (by omega) _ (fun j hj => ⟨by have := zsT_val (ch.2.1 j (by omega)); omega, by have := zsT_val (ch.2.1 j (by omega)); omega⟩)).trans (hn)))) rfl k_543 ?_
    refine zr_icmp_ge X 119 dX6_transferOn_15 (by decide) (fun q => absurd q (nI_ge (by omega) (by omega))) (fun _ => ?_)
    refine zr_aloadn X 0 dX6_transferOn_18 rfl ?_
    refine zr_cVi (C := RX6) (ci := 6) [] [] X (zK_ok A D tc tF tL tM) (c_reads_T E u7 (fun z hz => ((hg7.2 _ (by omega) (by omega)).trans ((zgr_hi (L := 400) (by omega) _ (fun j hj => ⟨by have := zsT_val (ch.2.1 j (by omega)); omega, by have := zsT_val (ch.2.1 j (by omega)); omega⟩)).trans (rfl))).trans (hw z hz)) (p := (S (e))) (hg7.1) (by omega) ((hg7.2 _ (by omega) (by omega)).trans ((zgr_hi (L := 400) (by omega) _ (fun j hj => ⟨by have := zsT_val (ch.2.1 j (by omega)); omega, by have := zsT_val (ch.2.1 j (by omega)); omega⟩)).trans (hn))) hn2 hT) k_707 k_709 kp_12 k_7 k_710 hdX6_readsTransfer ⟨rfl, rfl⟩ ⟨Nat.le_of_ble_eq_true rfl, Nat.le_of_ble_eq_true rfl⟩ (by omega) rfl rfl rfl rfl (Nat.le_of_ble_eq_true rfl) dX6_transferOn_19 (fun z18 u17 hq18 => ?_)
    obtain ⟨rfl, g17a, g17b, g17c, g17d, g17e, g17f⟩ := hq18
    refine zr_pop X dX6_transferOn_22 rfl ?_
    refine zr_aloadn X 0 dX6_transferOn_23 rfl ?_
    refine zr_get X (ci := 6) (q := 10) (zR _) (.ref (ad (5))) dX6_transferOn_24 (by omega) rfl rfl inX6 (by decide) rfl (zvR rfl) rfl k_549 ?_
    refine zr_iconst X (nI (2)) dX6_transferOn_27 (by decide +kernel) ?_
    refine zr_iald X (j := 2) 0 (nI ((V0 e))) dX6_transferOn_28 (by omega) rfl rfl rfl (by omega) (by omega) (zcg (b := 2545) (by omega) (g17d)) ?_
    refine zr_istoren X [1, 2, 0] [(0, .ref (ad (0))), (1, .int (nI (e))), (2, .int (nI ((V0 e))))] dX6_transferOn_29 (by decide) rfl ?_
    refine zr_aloadn X 0 dX6_transferOn_30 rfl ?_
    refine zr_aloadn X 0 dX6_transferOn_31 rfl ?_
    refine zr_get X (ci := 6) (q := 10) (zR _) (.ref (ad (5))) dX6_transferOn_32 (by omega) rfl rfl inX6 (by decide) rfl (zvR rfl) rfl k_549 ?_
    refine zr_iconst X (nI (0)) dX6_transferOn_35 (by decide +kernel) ?_
    refine zr_iald X (j := 0) 0 (nI ((A0 e))) dX6_transferOn_36 (by omega) rfl rfl rfl (by omega) (by omega) (zcg (b := 2543) (by omega) (g17b)) ?_
    refine zr_aloadn X 0 dX6_transferOn_37 rfl ?_
    refine zr_get X (ci := 6) (q := 10) (zR _) (.ref (ad (5))) dX6_transferOn_38 (by omega) rfl rfl inX6 (by decide) rfl (zvR rfl) rfl k_549 ?_
    refine zr_iconst X (nI (1)) dX6_transferOn_41 (by decide +kernel) ?_
    refine zr_iald X (j := 1) 0 (nI ((B0 e))) dX6_transferOn_42 (by omega) rfl rfl rfl (by omega) (by omega) (zcg (b := 2544) (by omega) (g17c)) ?_
    refine zr_iloadn X 2 dX6_transferOn_43 rfl ?_
    refine zr_cSi [.int (nI ((V0 e)))] [.int (nI ((B0 e))), .int (nI ((A0 e))), .ref (ad (0))] X (zK_ok A D tc tF tL tM) (c_isVintage_f E u17 (zin_nI hv (by omega) (by omega))) k_633 k_634 k_7 k_635 hdX6_isVintage ⟨rfl, rfl⟩ ⟨Nat.le_of_ble_eq_true rfl, Nat.le_of_ble_eq_true rfl⟩ rfl rfl (Nat.le_of_ble_eq_true rfl) dX6_transferOn_44 (fun z36 u17 hq36 => ?_)
    obtain ⟨rfl, g17a, g17b, g17c, g17d, g17e, g17f⟩ := hq36
    refine zr_iloadn X 2 dX6_transferOn_47 rfl ?_
    refine zr_cSi [.int (nI ((V0 e)))] [.int (nI (0)), .int (nI ((B0 e))), .int (nI ((A0 e))), .ref (ad (0))] X (zK_ok A D tc tF tL tM) (c_isVintage_f E u17 (zin_nI hv (by omega) (by omega))) k_633 k_634 k_7 k_635 hdX6_isVintage ⟨rfl, rfl⟩ ⟨Nat.le_of_ble_eq_true rfl, Nat.le_of_ble_eq_true rfl⟩ rfl rfl (Nat.le_of_ble_eq_true rfl) dX6_transferOn_48 (fun z39 u17 hq39 => ?_)
    obtain ⟨rfl, g17a, g17b, g17c, g17d, g17e, g17f⟩ := hq39
    refine zr_if_eq X 60 dX6_transferOn_51 (by decide) (fun _ => ?_) (fun q => absurd (zq_eq0 (by omega)) q)
    refine zr_iconst X (nI (0)) dX6_transferOn_60 (by decide +kernel) ?_
    refine zr_aloadn X 0 dX6_transferOn_61 rfl ?_
    refine zr_get X (ci := 6) (q := 10) (zR _) (.ref (ad (5))) dX6_transferOn_62 (by omega) rfl rfl inX6 (by decide) rfl (zvR rfl) rfl k_549 ?_
    refine zr_iconst X (nI (3)) dX6_transferOn_65 (by decide +kernel) ?_
    refine zr_iald X (j := 3) 0 (nI ((T0 e))) dX6_transferOn_66 (by omega) rfl rfl rfl (by omega) (by omega) (zcg (b := 2546) (by omega) (g17e)) ?_
    refine zr_cVi (C := RX6) (ci := 6) [.int (nI ((A0 e))), .int (nI ((B0 e))), .int (nI (0)), .int (nI (0)), .int (nI ((T0 e)))] [] X (zK_ok A D tc tF tL tM) (c_noTransfer_u3 E u17 (f := (A0 e)) (f2 := (B0 e)) ((g17f _ (by omega) (by omega)).trans ((hg7.2 _ (by omega) (by omega)).trans ((zgr_lo (by omega) _).trans (hc)))) h8 hf hf2 _ _) k_636 k_638 kp_4 k_7 k_639 hdX6_noTransfer ⟨rfl, rfl⟩ ⟨Nat.le_of_ble_eq_true rfl, Nat.le_of_ble_eq_true rfl⟩ (by omega) rfl rfl rfl rfl (Nat.le_of_ble_eq_true rfl) dX6_transferOn_67 (fun z47 u17 hq47 => ?_)
    obtain ⟨rfl, g17a, g17b, g17c, g17d, g17e, g17f⟩ := hq47
    refine zr_istoren X [1, 2, 3, 0] [(0, .ref (ad (0))), (1, .int (nI (e))), (2, .int (nI ((V0 e)))), (3, .int (-1))] dX6_transferOn_70 (by decide) rfl ?_
    refine zr_iloadn X 3 dX6_transferOn_71 rfl ?_
    refine zr_if_eq X 77 dX6_transferOn_72 (by decide) (fun q => absurd q (by decide)) (fun _ => ?_)
    refine zr_iloadn X 3 dX6_transferOn_75 rfl ?_
    exact zr_iret X dX6_transferOn_76 ⟨rfl, fun x hx1 hx2 => (g17f _ (by omega) (by omega)).trans ((hg7.2 _ (by omega) (by omega)).trans (rfl))⟩
  · intro i u53 hi hg53 ih7
    have hT := ch.2.1 i (by omega)
    have hl := zsT_len hT
    obtain ⟨hav, hbv, hvv, ht1, ht9⟩ := zsT_val hT
    have hSi : S (i + 1) = E0 i + 1 := by by_cases q : i < K; exact (ch.2.2 i q).2; have : i = K := (by omega); subst this; omega
    obtain ⟨hf, hf2, hv, hne, hle⟩ := ok i hi
    refine zr_aloadn X 0 dX6_transferOn_7 rfl ?_
    refine zr_get X (ci := 6) (q := 9) zI (.int (nI ((S (i))))) dX6_transferOn_8 (by omega) rfl rfl inX6 (by decide) rfl (congrArg Value.int (hg53.1)) rfl k_548 ?_
    refine zr_aloadn X 0 dX6_transferOn_11 rfl ?_
    refine zr_get X (ci := 6) (q := 4) zI (.int (nI (n))) dX6_transferOn_12 (by omega) rfl rfl inX6 (by decide) rfl (congrArg Value.int ((hg53.2 _ (by omega) (by omega)).trans ((zgr_hi (L := 400) (by omega) _ (fun j hj => ⟨by have := zsT_val (ch.2.1 j (by omega)); omega, by have := zsT_val (ch.2.1 j (by omega)); omega⟩)).trans (hn)))) rfl k_543 ?_
    refine zr_icmp_ge X 119 dX6_transferOn_15 (by decide) (fun q => absurd q (nI_ge (by omega) (by omega))) (fun _ => ?_)
    refine zr_aloadn X 0 dX6_transferOn_18 rfl ?_
    refine zr_cVi (C := RX6) (ci := 6) [] [] X (zK_ok A D tc tF tL tM) (c_reads_T E u53 (fun z hz => ((hg53.2 _ (by omega) (by omega)).trans ((zgr_hi (L := 400) (by omega) _ (fun j hj => ⟨by have := zsT_val (ch.2.1 j (by omega)); omega, by have := zsT_val (ch.2.1 j (by omega)); omega⟩)).trans (rfl))).trans (hw z hz)) (p := (S (i))) (hg53.1) (by omega) ((hg53.2 _ (by omega) (by omega)).trans ((zgr_hi (L := 400) (by omega) _ (fun j hj => ⟨by have := zsT_val (ch.2.1 j (by omega)); omega, by have := zsT_val (ch.2.1 j (by omega)); omega⟩)).trans (hn))) hn2 hT) k_707 k_709 kp_12 k_7 k_710 hdX6_readsTransfer ⟨rfl, rfl⟩ ⟨Nat.le_of_ble_eq_true rfl, Nat.le_of_ble_eq_true rfl⟩ (by omega) rfl rfl rfl rfl (Nat.le_of_ble_eq_true rfl) dX6_transferOn_19 (fun z66 u65 hq66 => ?_)
    obtain ⟨rfl, g65a, g65b, g65c, g65d, g65e, g65f⟩ := hq66
    refine zr_pop X dX6_transferOn_22 rfl ?_
    refine zr_aloadn X 0 dX6_transferOn_23 rfl ?_
    refine zr_get X (ci := 6) (q := 10) (zR _) (.ref (ad (5))) dX6_transferOn_24 (by omega) rfl rfl inX6 (by decide) rfl (zvR rfl) rfl k_549 ?_
    refine zr_iconst X (nI (2)) dX6_transferOn_27 (by decide +kernel) ?_
    refine zr_iald X (j := 2) 0 (nI ((V0 i))) dX6_transferOn_28 (by omega) rfl rfl rfl (by omega) (by omega) (zcg (b := 2545) (by omega) (g65d)) ?_
    refine zr_istoren X [1, 2, 0] [(0, .ref (ad (0))), (1, .int (nI (i))), (2, .int (nI ((V0 i))))] dX6_transferOn_29 (by decide) rfl ?_
    refine zr_aloadn X 0 dX6_transferOn_30 rfl ?_
    refine zr_aloadn X 0 dX6_transferOn_31 rfl ?_
    refine zr_get X (ci := 6) (q := 10) (zR _) (.ref (ad (5))) dX6_transferOn_32 (by omega) rfl rfl inX6 (by decide) rfl (zvR rfl) rfl k_549 ?_
    refine zr_iconst X (nI (0)) dX6_transferOn_35 (by decide +kernel) ?_
    refine zr_iald X (j := 0) 0 (nI ((A0 i))) dX6_transferOn_36 (by omega) rfl rfl rfl (by omega) (by omega) (zcg (b := 2543) (by omega) (g65b)) ?_
    refine zr_aloadn X 0 dX6_transferOn_37 rfl ?_
    refine zr_get X (ci := 6) (q := 10) (zR _) (.ref (ad (5))) dX6_transferOn_38 (by omega) rfl rfl inX6 (by decide) rfl (zvR rfl) rfl k_549 ?_
    refine zr_iconst X (nI (1)) dX6_transferOn_41 (by decide +kernel) ?_
    refine zr_iald X (j := 1) 0 (nI ((B0 i))) dX6_transferOn_42 (by omega) rfl rfl rfl (by omega) (by omega) (zcg (b := 2544) (by omega) (g65c)) ?_
    refine zr_iloadn X 2 dX6_transferOn_43 rfl ?_
    refine zr_cSi [.int (nI ((V0 i)))] [.int (nI ((B0 i))), .int (nI ((A0 i))), .ref (ad (0))] X (zK_ok A D tc tF tL tM) (c_isVintage_t E u65 (by omega) (by omega)) k_633 k_634 k_7 k_635 hdX6_isVintage ⟨rfl, rfl⟩ ⟨Nat.le_of_ble_eq_true rfl, Nat.le_of_ble_eq_true rfl⟩ rfl rfl (Nat.le_of_ble_eq_true rfl) dX6_transferOn_44 (fun z84 u65 hq84 => ?_)
    obtain ⟨rfl, g65a, g65b, g65c, g65d, g65e, g65f⟩ := hq84
    refine zr_iloadn X 2 dX6_transferOn_47 rfl ?_
    refine zr_cSi [.int (nI ((V0 i)))] [.int (nI (1)), .int (nI ((B0 i))), .int (nI ((A0 i))), .ref (ad (0))] X (zK_ok A D tc tF tL tM) (c_isVintage_t E u65 (by omega) (by omega)) k_633 k_634 k_7 k_635 hdX6_isVintage ⟨rfl, rfl⟩ ⟨Nat.le_of_ble_eq_true rfl, Nat.le_of_ble_eq_true rfl⟩ rfl rfl (Nat.le_of_ble_eq_true rfl) dX6_transferOn_48 (fun z87 u65 hq87 => ?_)
    obtain ⟨rfl, g65a, g65b, g65c, g65d, g65e, g65f⟩ := hq87
    refine zr_if_eq X 60 dX6_transferOn_51 (by decide) (fun q => absurd q (nI_ne0 (by omega) (by omega))) (fun _ => ?_)
    refine zr_iconst X (nI (0)) dX6_transferOn_54 (by decide +kernel) ?_
    refine zr_iloadn X 2 dX6_transferOn_55 rfl ?_
    refine zr_iadd X (nI ((V0 i))) dX6_transferOn_56 ((nI_add _ _).trans (congrArg nI (by omega))) ?_
    refine zr_goto X 61 dX6_transferOn_57 (by decide) ?_
    refine zr_aloadn X 0 dX6_transferOn_61 rfl ?_
    refine zr_get X (ci := 6) (q := 10) (zR _) (.ref (ad (5))) dX6_transferOn_62 (by omega) rfl rfl inX6 (by decide) rfl (zvR rfl) rfl k_549 ?_
    refine zr_iconst X (nI (3)) dX6_transferOn_65 (by decide +kernel) ?_
    refine zr_iald X (j := 3) 0 (nI ((T0 i))) dX6_transferOn_66 (by omega) rfl rfl rfl (by omega) (by omega) (zcg (b := 2546) (by omega) (g65e)) ?_
    refine zr_cVi (C := RX6) (ci := 6) [.int (nI ((A0 i))), .int (nI ((B0 i))), .int (nI (1)), .int (nI ((V0 i))), .int (nI ((T0 i)))] [] X (zK_ok A D tc tF tL tM) (c_noTransfer_0 E u65 (f := (A0 i)) (f2 := (B0 i)) (t := (T0 i)) (w := (V0 i)) ((g65f _ (by omega) (by omega)).trans ((hg53.2 _ (by omega) (by omega)).trans ((zgr_lo (by omega) _).trans (hc)))) h8 hf hf2 ht1 ht9 (by omega) hne (by rw [(g65f _ (by omega) (by omega)).trans ((hg53.2 _ (by omega) (by omega)).trans (rfl))]; exact hle)) k_636 k_638 kp_4 k_7 k_639 hdX6_noTransfer ⟨rfl, rfl⟩ ⟨Nat.le_of_ble_eq_true rfl, Nat.le_of_ble_eq_true rfl⟩ (by omega) rfl rfl rfl rfl (Nat.le_of_ble_eq_true rfl) dX6_transferOn_67 (fun z98 u65 hq98 => ?_)
    obtain ⟨rfl, g65a, g65b, g65c, g65d, g65e, g65f⟩ := hq98
    refine zr_istoren X [1, 2, 3, 0] [(0, .ref (ad (0))), (1, .int (nI (i))), (2, .int (nI ((V0 i)))), (3, .int (nI (0)))] dX6_transferOn_70 (by decide) rfl ?_
    refine zr_iloadn X 3 dX6_transferOn_71 rfl ?_
    refine zr_if_eq X 77 dX6_transferOn_72 (by decide) (fun _ => ?_) (fun q => absurd (zq_eq0 (by omega)) q)
    refine zr_aloadn X 0 dX6_transferOn_77 rfl ?_
    refine zr_aloadn X 0 dX6_transferOn_78 rfl ?_
    refine zr_get X (ci := 6) (q := 10) (zR _) (.ref (ad (5))) dX6_transferOn_79 (by omega) rfl rfl inX6 (by decide) rfl (zvR rfl) rfl k_549 ?_
    refine zr_iconst X (nI (0)) dX6_transferOn_82 (by decide +kernel) ?_
    refine zr_iald X (j := 0) 0 (nI ((A0 i))) dX6_transferOn_83 (by omega) rfl rfl rfl (by omega) (by omega) (zcg (b := 2543) (by omega) (g65b)) ?_
    refine zr_aloadn X 0 dX6_transferOn_84 rfl ?_
    refine zr_get X (ci := 6) (q := 10) (zR _) (.ref (ad (5))) dX6_transferOn_85 (by omega) rfl rfl inX6 (by decide) rfl (zvR rfl) rfl k_549 ?_
    refine zr_iconst X (nI (1)) dX6_transferOn_88 (by decide +kernel) ?_
    refine zr_iald X (j := 1) 0 (nI ((B0 i))) dX6_transferOn_89 (by omega) rfl rfl rfl (by omega) (by omega) (zcg (b := 2544) (by omega) (g65c)) ?_
    refine zr_iconst X (nI (0)) dX6_transferOn_90 (by decide +kernel) ?_
    refine zr_iloadn X 2 dX6_transferOn_91 rfl ?_
    refine zr_iadd X (nI ((V0 i))) dX6_transferOn_92 ((nI_add _ _).trans (congrArg nI (by omega))) ?_
    refine zr_aloadn X 0 dX6_transferOn_93 rfl ?_
    refine zr_get X (ci := 6) (q := 10) (zR _) (.ref (ad (5))) dX6_transferOn_94 (by omega) rfl rfl inX6 (by decide) rfl (zvR rfl) rfl k_549 ?_
    refine zr_iconst X (nI (3)) dX6_transferOn_97 (by decide +kernel) ?_
    refine zr_iald X (j := 3) 0 (nI ((T0 i))) dX6_transferOn_98 (by omega) rfl rfl rfl (by omega) (by omega) (zcg (b := 2546) (by omega) (g65e)) ?_
    refine zr_dVi (C := RX6) (ci := 6) [.int (nI ((A0 i))), .int (nI ((B0 i))), .int (nI ((V0 i))), .int (nI ((T0 i)))] [] X (zK_ok A D tc tF tL tM) (c_doT E u65 (f := (A0 i)) (f2 := (B0 i)) (w := (V0 i)) (t := nI ((T0 i))) ((g65f _ (by omega) (by omega)).trans ((hg53.2 _ (by omega) (by omega)).trans ((zgr_lo (by omega) _).trans (hc)))) h8 hf hf2 (by omega) hne (pa := 32 * (A0 i) + (V0 i) + 7) (pb := 32 * (B0 i) + (V0 i) + 7) (by omega) (by omega) ((g65f _ (by omega) (by omega)).trans ((hg53.2 _ (by omega) (by omega)).trans (rfl))) ((g65f _ (by omega) (by omega)).trans ((hg53.2 _ (by omega) (by omega)).trans (rfl)))) k_640 k_642 kp_5 k_7 k_643 hdX6_doTransfer ⟨rfl, rfl⟩ ⟨Nat.le_of_ble_eq_true rfl, Nat.le_of_ble_eq_true rfl⟩ (by omega) rfl rfl rfl rfl (Nat.le_of_ble_eq_true rfl) dX6_transferOn_99 ?_
    refine zr_pop X dX6_transferOn_102 rfl ?_
    refine zr_iinc X 1 (nI (i + 1)) [1, 0, 2, 3] [(0, .ref (ad (0))), (1, .int (nI (i + 1))), (2, .int (nI ((V0 i)))), (3, .int (nI (0)))] dX6_transferOn_103 rfl (zinc _) (by decide) rfl ?_
    refine zr_aloadn X 0 dX6_transferOn_106 rfl ?_
    refine zr_dup X dX6_transferOn_107 rfl ?_
    refine zr_get X (ci := 6) (q := 9) zI (.int (nI ((E0 i)))) dX6_transferOn_108 (by omega) rfl rfl inX6 (by decide) rfl (congrArg Value.int ((pk_un (by omega)).trans ((pk_un (by omega)).trans ((g65a))))) rfl k_548 ?_
    refine zr_iconst X (nI (1)) dX6_transferOn_111 (by decide +kernel) ?_
    refine zr_iadd X (nI ((E0 i) + 1)) dX6_transferOn_112 (nI_add _ _) ?_
    refine zr_put X (ci := 6) (q := 9) (ty0 := tyX6) (ty := .int) (2452) dX6_transferOn_113 (by omega) rfl rfl inX6 tyX6_ok nmX6 (by decide) rfl rfl rfl rfl rfl rfl k_548 (by omega) ?_
    refine zr_goto X 7 dX6_transferOn_116 (by decide) ?_
    refine zr_drop X [0, 1] [(0, .ref (ad (0))), (1, .int (nI (i + 1)))] rfl ?_
    exact ih7 _ ⟨(pk_us).trans (congrArg nI hSi.symm), fun x hx1 hx2 => (pk_un hx1).trans (zupd_2 ((g65f _ (by omega) (by omega)).trans ((hg53.2 _ (by omega) (by omega)).trans (rfl))))⟩

set_option maxHeartbeats 4000000 in
set_option maxRecDepth 100000 in
theorem c_transferOn_b2 {l : Launch} {D : va_G} {tc : Nat → ClassId} {ad : Nat → Nat} {A : Nat → Prop} {tF tL tM : Nat} (E : zN 6 A ad) (μ : Nat → Int32) {w : Nat → Int32} (hw : ∀ q, q < 60 → μ (q + 2460) = w q) {n : Nat} (hn : μ 2447 = nI n) (hn2 : n ≤ 60) {c : Nat} (hc : μ 1 = nI c) (h8 : c ≤ 8) {K : Nat} {S E0 A0 B0 V0 T0 : Nat → Nat} (ch : zch w n S E0 A0 B0 V0 T0 K) (hEK : E0 K = n) (hS1 : S (K + 1) = n + 1) {e : Nat} (he : e ≤ K) (ok : ∀ i, i < e → zok1 (zgr μ A0 B0 V0 T0 i) c (A0 i) (B0 i) (V0 i) (T0 i)) (hf : A0 e < c) (hf2 : B0 e < c) (hv : V0 e ≤ 19) (hab : A0 e = B0 e)  : zMi l yX6_transferOn cX6_transferOn 4 (some .int) (zrm 4) (zK A D tc tF tL tM) A D vwCl tc ad 6 shR [.ref (ad (0))] μ (fun r u => r = -2 ∧ (∀ x, x ≠ 2452 → (x < 2543 ∨ 2547 ≤ x) → u x = zgr μ A0 B0 V0 T0 (e) x)) := by
  refine zM_of RX6 [(0, .ref (ad (0)))] (zK_ok A D tc tF tL tM) E.1 E.2 owR_ok (by decide +kernel) rfl (Nat.le_of_ble_eq_true rfl) rfl ?_
  intro pP eE sS mM aS bL mT cO X
  refine zr_iconst X (nI (0)) dX6_transferOn_0 (by decide +kernel) ?_
  refine zr_istoren X [1, 0] [(0, .ref (ad (0))), (1, .int (nI (0)))] dX6_transferOn_1 (by decide) rfl ?_
  refine zr_aloadn X 0 dX6_transferOn_2 rfl ?_
  refine zr_iconst X (nI (0)) dX6_transferOn_3 (by decide +kernel) ?_
  refine zr_put X (ci := 6) (q := 9) (ty0 := tyX6) (ty := .int) (2452) dX6_transferOn_4 (by omega) rfl rfl inX6 tyX6_ok nmX6 (by decide) rfl rfl rfl rfl rfl rfl k_548 (by omega) ?_
  refine zr_forM X (e) (fun i u => u 2452 = nI (S i) ∧ ∀ x, x ≠ 2452 → (x < 2543 ∨ 2547 ≤ x) → u x = zgr μ A0 B0 V0 T0 i x) (fun i => [(0, .ref (ad (0))), (1, .int (nI (i)))]) [] (⟨(pk_us).trans (congrArg nI ch.1.symm), fun x hx1 hx2 => ((pk_un (by omega)).trans (rfl))⟩) rfl ?_ ?_
  · intro u7 hg7
    have hT := ch.2.1 e (by omega)
    have hl := zsT_len hT
    obtain ⟨hav, hbv, hvv, ht1, ht9⟩ := zsT_val hT
    refine zr_aloadn X 0 dX6_transferOn_7 rfl ?_
    refine zr_get X (ci := 6) (q := 9) zI (.int (nI ((S (e))))) dX6_transferOn_8 (by omega) rfl rfl inX6 (by decide) rfl (congrArg Value.int (hg7.1)) rfl k_548 ?_
    refine zr_aloadn X 0 dX6_transferOn_11 rfl ?_
    refine zr_get X (ci := 6) (q := 4) zI (.int (nI (n))) dX6_transferOn_12 (by omega) rfl rfl inX6 (by decide) rfl (congrArg Value.int ((hg7.2 _ (by omega) (by omega)).trans ((zgr_hi (L := 400) (by omega) _ (fun j hj => ⟨by have := zsT_val (ch.2.1 j (by omega)); omega, by have := zsT_val (ch.2.1 j (by omega)); omega⟩)).trans (hn)))) rfl k_543 ?_
    refine zr_icmp_ge X 119 dX6_transferOn_15 (by decide) (fun q => absurd q (nI_ge (by omega) (by omega))) (fun _ => ?_)
    refine zr_aloadn X 0 dX6_transferOn_18 rfl ?_
    refine zr_cVi (C := RX6) (ci := 6) [] [] X (zK_ok A D tc tF tL tM) (c_reads_T E u7 (fun z hz => ((hg7.2 _ (by omega) (by omega)).trans ((zgr_hi (L := 400) (by omega) _ (fun j hj => ⟨by have := zsT_val (ch.2.1 j (by omega)); omega, by have := zsT_val (ch.2.1 j (by omega)); omega⟩)).trans (rfl))).trans (hw z hz)) (p := (S (e))) (hg7.1) (by omega) ((hg7.2 _ (by omega) (by omega)).trans ((zgr_hi (L := 400) (by omega) _ (fun j hj => ⟨by have := zsT_val (ch.2.1 j (by omega)); omega, by have := zsT_val (ch.2.1 j (by omega)); omega⟩)).trans (hn))) hn2 hT) k_707 k_709 kp_12 k_7 k_710 hdX6_readsTransfer ⟨rfl, rfl⟩ ⟨Nat.le_of_ble_eq_true rfl, Nat.le_of_ble_eq_true rfl⟩ (by omega) rfl rfl rfl rfl (Nat.le_of_ble_eq_true rfl) dX6_transferOn_19 (fun z18 u17 hq18 => ?_)
    obtain ⟨rfl, g17a, g17b, g17c, g17d, g17e, g17f⟩ := hq18
    refine zr_pop X dX6_transferOn_22 rfl ?_
    refine zr_aloadn X 0 dX6_transferOn_23 rfl ?_
    refine zr_get X (ci := 6) (q := 10) (zR _) (.ref (ad (5))) dX6_transferOn_24 (by omega) rfl rfl inX6 (by decide) rfl (zvR rfl) rfl k_549 ?_
    refine zr_iconst X (nI (2)) dX6_transferOn_27 (by decide +kernel) ?_
    refine zr_iald X (j := 2) 0 (nI ((V0 e))) dX6_transferOn_28 (by omega) rfl rfl rfl (by omega) (by omega) (zcg (b := 2545) (by omega) (g17d)) ?_
    refine zr_istoren X [1, 2, 0] [(0, .ref (ad (0))), (1, .int (nI (e))), (2, .int (nI ((V0 e))))] dX6_transferOn_29 (by decide) rfl ?_
    refine zr_aloadn X 0 dX6_transferOn_30 rfl ?_
    refine zr_aloadn X 0 dX6_transferOn_31 rfl ?_
    refine zr_get X (ci := 6) (q := 10) (zR _) (.ref (ad (5))) dX6_transferOn_32 (by omega) rfl rfl inX6 (by decide) rfl (zvR rfl) rfl k_549 ?_
    refine zr_iconst X (nI (0)) dX6_transferOn_35 (by decide +kernel) ?_
    refine zr_iald X (j := 0) 0 (nI ((A0 e))) dX6_transferOn_36 (by omega) rfl rfl rfl (by omega) (by omega) (zcg (b := 2543) (by omega) (g17b)) ?_
    refine zr_aloadn X 0 dX6_transferOn_37 rfl ?_
    refine zr_get X (ci := 6) (q := 10) (zR _) (.ref (ad (5))) dX6_transferOn_38 (by omega) rfl rfl inX6 (by decide) rfl (zvR rfl) rfl k_549 ?_
    refine zr_iconst X (nI (1)) dX6_transferOn_41 (by decide +kernel) ?_
    refine zr_iald X (j := 1) 0 (nI ((B0 e))) dX6_transferOn_42 (by omega) rfl rfl rfl (by omega) (by omega) (zcg (b := 2544) (by omega) (g17c)) ?_
    refine zr_iloadn X 2 dX6_transferOn_43 rfl ?_
    refine zr_cSi [.int (nI ((V0 e)))] [.int (nI ((B0 e))), .int (nI ((A0 e))), .ref (ad (0))] X (zK_ok A D tc tF tL tM) (c_isVintage_t E u17 (by omega) (by omega)) k_633 k_634 k_7 k_635 hdX6_isVintage ⟨rfl, rfl⟩ ⟨Nat.le_of_ble_eq_true rfl, Nat.le_of_ble_eq_true rfl⟩ rfl rfl (Nat.le_of_ble_eq_true rfl) dX6_transferOn_44 (fun z36 u17 hq36 => ?_)
    obtain ⟨rfl, g17a, g17b, g17c, g17d, g17e, g17f⟩ := hq36
    refine zr_iloadn X 2 dX6_transferOn_47 rfl ?_
    refine zr_cSi [.int (nI ((V0 e)))] [.int (nI (1)), .int (nI ((B0 e))), .int (nI ((A0 e))), .ref (ad (0))] X (zK_ok A D tc tF tL tM) (c_isVintage_t E u17 (by omega) (by omega)) k_633 k_634 k_7 k_635 hdX6_isVintage ⟨rfl, rfl⟩ ⟨Nat.le_of_ble_eq_true rfl, Nat.le_of_ble_eq_true rfl⟩ rfl rfl (Nat.le_of_ble_eq_true rfl) dX6_transferOn_48 (fun z39 u17 hq39 => ?_)
    obtain ⟨rfl, g17a, g17b, g17c, g17d, g17e, g17f⟩ := hq39
    refine zr_if_eq X 60 dX6_transferOn_51 (by decide) (fun q => absurd q (nI_ne0 (by omega) (by omega))) (fun _ => ?_)
    refine zr_iconst X (nI (0)) dX6_transferOn_54 (by decide +kernel) ?_
    refine zr_iloadn X 2 dX6_transferOn_55 rfl ?_
    refine zr_iadd X (nI ((V0 e))) dX6_transferOn_56 ((nI_add _ _).trans (congrArg nI (by omega))) ?_
    refine zr_goto X 61 dX6_transferOn_57 (by decide) ?_
    refine zr_aloadn X 0 dX6_transferOn_61 rfl ?_
    refine zr_get X (ci := 6) (q := 10) (zR _) (.ref (ad (5))) dX6_transferOn_62 (by omega) rfl rfl inX6 (by decide) rfl (zvR rfl) rfl k_549 ?_
    refine zr_iconst X (nI (3)) dX6_transferOn_65 (by decide +kernel) ?_
    refine zr_iald X (j := 3) 0 (nI ((T0 e))) dX6_transferOn_66 (by omega) rfl rfl rfl (by omega) (by omega) (zcg (b := 2546) (by omega) (g17e)) ?_
    refine zr_cVi (C := RX6) (ci := 6) [.int (nI ((A0 e))), .int (nI ((B0 e))), .int (nI (1)), .int (nI ((V0 e))), .int (nI ((T0 e)))] [] X (zK_ok A D tc tF tL tM) (c_noT_b2 E u17 (f := (A0 e)) (f2 := (B0 e)) (t := (T0 e)) ((g17f _ (by omega) (by omega)).trans ((hg7.2 _ (by omega) (by omega)).trans ((zgr_lo (by omega) _).trans (hc)))) h8 hf hab ht1 ht9 _) k_636 k_638 kp_4 k_7 k_639 hdX6_noTransfer ⟨rfl, rfl⟩ ⟨Nat.le_of_ble_eq_true rfl, Nat.le_of_ble_eq_true rfl⟩ (by omega) rfl rfl rfl rfl (Nat.le_of_ble_eq_true rfl) dX6_transferOn_67 (fun z50 u17 hq50 => ?_)
    obtain ⟨rfl, g17a, g17b, g17c, g17d, g17e, g17f⟩ := hq50
    refine zr_istoren X [1, 2, 3, 0] [(0, .ref (ad (0))), (1, .int (nI (e))), (2, .int (nI ((V0 e)))), (3, .int (-2))] dX6_transferOn_70 (by decide) rfl ?_
    refine zr_iloadn X 3 dX6_transferOn_71 rfl ?_
    refine zr_if_eq X 77 dX6_transferOn_72 (by decide) (fun q => absurd q (by decide)) (fun _ => ?_)
    refine zr_iloadn X 3 dX6_transferOn_75 rfl ?_
    exact zr_iret X dX6_transferOn_76 ⟨rfl, fun x hx1 hx2 => (g17f _ (by omega) (by omega)).trans ((hg7.2 _ (by omega) (by omega)).trans (rfl))⟩
  · intro i u56 hi hg56 ih7
    have hT := ch.2.1 i (by omega)
    have hl := zsT_len hT
    obtain ⟨hav, hbv, hvv, ht1, ht9⟩ := zsT_val hT
    have hSi : S (i + 1) = E0 i + 1 := by by_cases q : i < K; exact (ch.2.2 i q).2; have : i = K := (by omega); subst this; omega
    obtain ⟨hf, hf2, hv, hne, hle⟩ := ok i hi
    refine zr_aloadn X 0 dX6_transferOn_7 rfl ?_
    refine zr_get X (ci := 6) (q := 9) zI (.int (nI ((S (i))))) dX6_transferOn_8 (by omega) rfl rfl inX6 (by decide) rfl (congrArg Value.int (hg56.1)) rfl k_548 ?_
    refine zr_aloadn X 0 dX6_transferOn_11 rfl ?_
    refine zr_get X (ci := 6) (q := 4) zI (.int (nI (n))) dX6_transferOn_12 (by omega) rfl rfl inX6 (by decide) rfl (congrArg Value.int ((hg56.2 _ (by omega) (by omega)).trans ((zgr_hi (L := 400) (by omega) _ (fun j hj => ⟨by have := zsT_val (ch.2.1 j (by omega)); omega, by have := zsT_val (ch.2.1 j (by omega)); omega⟩)).trans (hn)))) rfl k_543 ?_
    refine zr_icmp_ge X 119 dX6_transferOn_15 (by decide) (fun q => absurd q (nI_ge (by omega) (by omega))) (fun _ => ?_)
    refine zr_aloadn X 0 dX6_transferOn_18 rfl ?_
    refine zr_cVi (C := RX6) (ci := 6) [] [] X (zK_ok A D tc tF tL tM) (c_reads_T E u56 (fun z hz => ((hg56.2 _ (by omega) (by omega)).trans ((zgr_hi (L := 400) (by omega) _ (fun j hj => ⟨by have := zsT_val (ch.2.1 j (by omega)); omega, by have := zsT_val (ch.2.1 j (by omega)); omega⟩)).trans (rfl))).trans (hw z hz)) (p := (S (i))) (hg56.1) (by omega) ((hg56.2 _ (by omega) (by omega)).trans ((zgr_hi (L := 400) (by omega) _ (fun j hj => ⟨by have := zsT_val (ch.2.1 j (by omega)); omega, by have := zsT_val (ch.2.1 j (by omega)); omega⟩)).trans (hn))) hn2 hT) k_707 k_709 kp_12 k_7 k_710 hdX6_readsTransfer ⟨rfl, rfl⟩ ⟨Nat.le_of_ble_eq_true rfl, Nat.le_of_ble_eq_true rfl⟩ (by omega) rfl rfl rfl rfl (Nat.le_of_ble_eq_true rfl) dX6_transferOn_19 (fun z69 u68 hq69 => ?_)
    obtain ⟨rfl, g68a, g68b, g68c, g68d, g68e, g68f⟩ := hq69
    refine zr_pop X dX6_transferOn_22 rfl ?_
    refine zr_aloadn X 0 dX6_transferOn_23 rfl ?_
    refine zr_get X (ci := 6) (q := 10) (zR _) (.ref (ad (5))) dX6_transferOn_24 (by omega) rfl rfl inX6 (by decide) rfl (zvR rfl) rfl k_549 ?_
    refine zr_iconst X (nI (2)) dX6_transferOn_27 (by decide +kernel) ?_
    refine zr_iald X (j := 2) 0 (nI ((V0 i))) dX6_transferOn_28 (by omega) rfl rfl rfl (by omega) (by omega) (zcg (b := 2545) (by omega) (g68d)) ?_
    refine zr_istoren X [1, 2, 0] [(0, .ref (ad (0))), (1, .int (nI (i))), (2, .int (nI ((V0 i))))] dX6_transferOn_29 (by decide) rfl ?_
    refine zr_aloadn X 0 dX6_transferOn_30 rfl ?_
    refine zr_aloadn X 0 dX6_transferOn_31 rfl ?_
    refine zr_get X (ci := 6) (q := 10) (zR _) (.ref (ad (5))) dX6_transferOn_32 (by omega) rfl rfl inX6 (by decide) rfl (zvR rfl) rfl k_549 ?_
    refine zr_iconst X (nI (0)) dX6_transferOn_35 (by decide +kernel) ?_
    refine zr_iald X (j := 0) 0 (nI ((A0 i))) dX6_transferOn_36 (by omega) rfl rfl rfl (by omega) (by omega) (zcg (b := 2543) (by omega) (g68b)) ?_
    refine zr_aloadn X 0 dX6_transferOn_37 rfl ?_
    refine zr_get X (ci := 6) (q := 10) (zR _) (.ref (ad (5))) dX6_transferOn_38 (by omega) rfl rfl inX6 (by decide) rfl (zvR rfl) rfl k_549 ?_
    refine zr_iconst X (nI (1)) dX6_transferOn_41 (by decide +kernel) ?_
    refine zr_iald X (j := 1) 0 (nI ((B0 i))) dX6_transferOn_42 (by omega) rfl rfl rfl (by omega) (by omega) (zcg (b := 2544) (by omega) (g68c)) ?_
    refine zr_iloadn X 2 dX6_transferOn_43 rfl ?_
    refine zr_cSi [.int (nI ((V0 i)))] [.int (nI ((B0 i))), .int (nI ((A0 i))), .ref (ad (0))] X (zK_ok A D tc tF tL tM) (c_isVintage_t E u68 (by omega) (by omega)) k_633 k_634 k_7 k_635 hdX6_isVintage ⟨rfl, rfl⟩ ⟨Nat.le_of_ble_eq_true rfl, Nat.le_of_ble_eq_true rfl⟩ rfl rfl (Nat.le_of_ble_eq_true rfl) dX6_transferOn_44 (fun z87 u68 hq87 => ?_)
    obtain ⟨rfl, g68a, g68b, g68c, g68d, g68e, g68f⟩ := hq87
    refine zr_iloadn X 2 dX6_transferOn_47 rfl ?_
    refine zr_cSi [.int (nI ((V0 i)))] [.int (nI (1)), .int (nI ((B0 i))), .int (nI ((A0 i))), .ref (ad (0))] X (zK_ok A D tc tF tL tM) (c_isVintage_t E u68 (by omega) (by omega)) k_633 k_634 k_7 k_635 hdX6_isVintage ⟨rfl, rfl⟩ ⟨Nat.le_of_ble_eq_true rfl, Nat.le_of_ble_eq_true rfl⟩ rfl rfl (Nat.le_of_ble_eq_true rfl) dX6_transferOn_48 (fun z90 u68 hq90 => ?_)
    obtain ⟨rfl, g68a, g68b, g68c, g68d, g68e, g68f⟩ := hq90
    refine zr_if_eq X 60 dX6_transferOn_51 (by decide) (fun q => absurd q (nI_ne0 (by omega) (by omega))) (fun _ => ?_)
    refine zr_iconst X (nI (0)) dX6_transferOn_54 (by decide +kernel) ?_
    refine zr_iloadn X 2 dX6_transferOn_55 rfl ?_
    refine zr_iadd X (nI ((V0 i))) dX6_transferOn_56 ((nI_add _ _).trans (congrArg nI (by omega))) ?_
    refine zr_goto X 61 dX6_transferOn_57 (by decide) ?_
    refine zr_aloadn X 0 dX6_transferOn_61 rfl ?_
    refine zr_get X (ci := 6) (q := 10) (zR _) (.ref (ad (5))) dX6_transferOn_62 (by omega) rfl rfl inX6 (by decide) rfl (zvR rfl) rfl k_549 ?_
    refine zr_iconst X (nI (3)) dX6_transferOn_65 (by decide +kernel) ?_
    refine zr_iald X (j := 3) 0 (nI ((T0 i))) dX6_transferOn_66 (by omega) rfl rfl rfl (by omega) (by omega) (zcg (b := 2546) (by omega) (g68e)) ?_
    refine zr_cVi (C := RX6) (ci := 6) [.int (nI ((A0 i))), .int (nI ((B0 i))), .int (nI (1)), .int (nI ((V0 i))), .int (nI ((T0 i)))] [] X (zK_ok A D tc tF tL tM) (c_noTransfer_0 E u68 (f := (A0 i)) (f2 := (B0 i)) (t := (T0 i)) (w := (V0 i)) ((g68f _ (by omega) (by omega)).trans ((hg56.2 _ (by omega) (by omega)).trans ((zgr_lo (by omega) _).trans (hc)))) h8 hf hf2 ht1 ht9 (by omega) hne (by rw [(g68f _ (by omega) (by omega)).trans ((hg56.2 _ (by omega) (by omega)).trans (rfl))]; exact hle)) k_636 k_638 kp_4 k_7 k_639 hdX6_noTransfer ⟨rfl, rfl⟩ ⟨Nat.le_of_ble_eq_true rfl, Nat.le_of_ble_eq_true rfl⟩ (by omega) rfl rfl rfl rfl (Nat.le_of_ble_eq_true rfl) dX6_transferOn_67 (fun z101 u68 hq101 => ?_)
    obtain ⟨rfl, g68a, g68b, g68c, g68d, g68e, g68f⟩ := hq101
    refine zr_istoren X [1, 2, 3, 0] [(0, .ref (ad (0))), (1, .int (nI (i))), (2, .int (nI ((V0 i)))), (3, .int (nI (0)))] dX6_transferOn_70 (by decide) rfl ?_
    refine zr_iloadn X 3 dX6_transferOn_71 rfl ?_
    refine zr_if_eq X 77 dX6_transferOn_72 (by decide) (fun _ => ?_) (fun q => absurd (zq_eq0 (by omega)) q)
    refine zr_aloadn X 0 dX6_transferOn_77 rfl ?_
    refine zr_aloadn X 0 dX6_transferOn_78 rfl ?_
    refine zr_get X (ci := 6) (q := 10) (zR _) (.ref (ad (5))) dX6_transferOn_79 (by omega) rfl rfl inX6 (by decide) rfl (zvR rfl) rfl k_549 ?_
    refine zr_iconst X (nI (0)) dX6_transferOn_82 (by decide +kernel) ?_
    refine zr_iald X (j := 0) 0 (nI ((A0 i))) dX6_transferOn_83 (by omega) rfl rfl rfl (by omega) (by omega) (zcg (b := 2543) (by omega) (g68b)) ?_
    refine zr_aloadn X 0 dX6_transferOn_84 rfl ?_
    refine zr_get X (ci := 6) (q := 10) (zR _) (.ref (ad (5))) dX6_transferOn_85 (by omega) rfl rfl inX6 (by decide) rfl (zvR rfl) rfl k_549 ?_
    refine zr_iconst X (nI (1)) dX6_transferOn_88 (by decide +kernel) ?_
    refine zr_iald X (j := 1) 0 (nI ((B0 i))) dX6_transferOn_89 (by omega) rfl rfl rfl (by omega) (by omega) (zcg (b := 2544) (by omega) (g68c)) ?_
    refine zr_iconst X (nI (0)) dX6_transferOn_90 (by decide +kernel) ?_
    refine zr_iloadn X 2 dX6_transferOn_91 rfl ?_
    refine zr_iadd X (nI ((V0 i))) dX6_transferOn_92 ((nI_add _ _).trans (congrArg nI (by omega))) ?_
    refine zr_aloadn X 0 dX6_transferOn_93 rfl ?_
    refine zr_get X (ci := 6) (q := 10) (zR _) (.ref (ad (5))) dX6_transferOn_94 (by omega) rfl rfl inX6 (by decide) rfl (zvR rfl) rfl k_549 ?_
    refine zr_iconst X (nI (3)) dX6_transferOn_97 (by decide +kernel) ?_
    refine zr_iald X (j := 3) 0 (nI ((T0 i))) dX6_transferOn_98 (by omega) rfl rfl rfl (by omega) (by omega) (zcg (b := 2546) (by omega) (g68e)) ?_
    refine zr_dVi (C := RX6) (ci := 6) [.int (nI ((A0 i))), .int (nI ((B0 i))), .int (nI ((V0 i))), .int (nI ((T0 i)))] [] X (zK_ok A D tc tF tL tM) (c_doT E u68 (f := (A0 i)) (f2 := (B0 i)) (w := (V0 i)) (t := nI ((T0 i))) ((g68f _ (by omega) (by omega)).trans ((hg56.2 _ (by omega) (by omega)).trans ((zgr_lo (by omega) _).trans (hc)))) h8 hf hf2 (by omega) hne (pa := 32 * (A0 i) + (V0 i) + 7) (pb := 32 * (B0 i) + (V0 i) + 7) (by omega) (by omega) ((g68f _ (by omega) (by omega)).trans ((hg56.2 _ (by omega) (by omega)).trans (rfl))) ((g68f _ (by omega) (by omega)).trans ((hg56.2 _ (by omega) (by omega)).trans (rfl)))) k_640 k_642 kp_5 k_7 k_643 hdX6_doTransfer ⟨rfl, rfl⟩ ⟨Nat.le_of_ble_eq_true rfl, Nat.le_of_ble_eq_true rfl⟩ (by omega) rfl rfl rfl rfl (Nat.le_of_ble_eq_true rfl) dX6_transferOn_99 ?_
    refine zr_pop X dX6_transferOn_102 rfl ?_
    refine zr_iinc X 1 (nI (i + 1)) [1, 0, 2, 3] [(0, .ref (ad (0))), (1, .int (nI (i + 1))), (2, .int (nI ((V0 i)))), (3, .int (nI (0)))] dX6_transferOn_103 rfl (zinc _) (by decide) rfl ?_
    refine zr_aloadn X 0 dX6_transferOn_106 rfl ?_
    refine zr_dup X dX6_transferOn_107 rfl ?_
    refine zr_get X (ci := 6) (q := 9) zI (.int (nI ((E0 i)))) dX6_transferOn_108 (by omega) rfl rfl inX6 (by decide) rfl (congrArg Value.int ((pk_un (by omega)).trans ((pk_un (by omega)).trans ((g68a))))) rfl k_548 ?_
    refine zr_iconst X (nI (1)) dX6_transferOn_111 (by decide +kernel) ?_
    refine zr_iadd X (nI ((E0 i) + 1)) dX6_transferOn_112 (nI_add _ _) ?_
    refine zr_put X (ci := 6) (q := 9) (ty0 := tyX6) (ty := .int) (2452) dX6_transferOn_113 (by omega) rfl rfl inX6 tyX6_ok nmX6 (by decide) rfl rfl rfl rfl rfl rfl k_548 (by omega) ?_
    refine zr_goto X 7 dX6_transferOn_116 (by decide) ?_
    refine zr_drop X [0, 1] [(0, .ref (ad (0))), (1, .int (nI (i + 1)))] rfl ?_
    exact ih7 _ ⟨(pk_us).trans (congrArg nI hSi.symm), fun x hx1 hx2 => (pk_un hx1).trans (zupd_2 ((g68f _ (by omega) (by omega)).trans ((hg56.2 _ (by omega) (by omega)).trans (rfl))))⟩

set_option maxHeartbeats 4000000 in
set_option maxRecDepth 100000 in
theorem c_transferOn_n {l : Launch} {D : va_G} {tc : Nat → ClassId} {ad : Nat → Nat} {A : Nat → Prop} {tF tL tM : Nat} (E : zN 6 A ad) (μ : Nat → Int32) {w : Nat → Int32} (hw : ∀ q, q < 60 → μ (q + 2460) = w q) {n : Nat} (hn : μ 2447 = nI n) (hn2 : n ≤ 60) {c : Nat} (hc : μ 1 = nI c) (h8 : c ≤ 8) {K : Nat} {S E0 A0 B0 V0 T0 : Nat → Nat} (ch : zch w n S E0 A0 B0 V0 T0 K) (hEK : E0 K = n) (hS1 : S (K + 1) = n + 1) {e : Nat} (he : e ≤ K) (ok : ∀ i, i < e → zok1 (zgr μ A0 B0 V0 T0 i) c (A0 i) (B0 i) (V0 i) (T0 i)) (hf : A0 e < c) (hf2 : B0 e < c) (hv : V0 e ≤ 19) (hne : A0 e ≠ B0 e) (hle : ¬ nI (T0 e) ≤ zgr μ A0 B0 V0 T0 e (32 * A0 e + V0 e + 7))  : zMi l yX6_transferOn cX6_transferOn 4 (some .int) (zrm 4) (zK A D tc tF tL tM) A D vwCl tc ad 6 shR [.ref (ad (0))] μ (fun r u => r = -4 ∧ (∀ x, x ≠ 2452 → (x < 2543 ∨ 2547 ≤ x) → u x = zgr μ A0 B0 V0 T0 (e) x)) := by
  refine zM_of RX6 [(0, .ref (ad (0)))] (zK_ok A D tc tF tL tM) E.1 E.2 owR_ok (by decide +kernel) rfl (Nat.le_of_ble_eq_true rfl) rfl ?_
  intro pP eE sS mM aS bL mT cO X
  refine zr_iconst X (nI (0)) dX6_transferOn_0 (by decide +kernel) ?_
  refine zr_istoren X [1, 0] [(0, .ref (ad (0))), (1, .int (nI (0)))] dX6_transferOn_1 (by decide) rfl ?_
  refine zr_aloadn X 0 dX6_transferOn_2 rfl ?_
  refine zr_iconst X (nI (0)) dX6_transferOn_3 (by decide +kernel) ?_
  refine zr_put X (ci := 6) (q := 9) (ty0 := tyX6) (ty := .int) (2452) dX6_transferOn_4 (by omega) rfl rfl inX6 tyX6_ok nmX6 (by decide) rfl rfl rfl rfl rfl rfl k_548 (by omega) ?_
  refine zr_forM X (e) (fun i u => u 2452 = nI (S i) ∧ ∀ x, x ≠ 2452 → (x < 2543 ∨ 2547 ≤ x) → u x = zgr μ A0 B0 V0 T0 i x) (fun i => [(0, .ref (ad (0))), (1, .int (nI (i)))]) [] (⟨(pk_us).trans (congrArg nI ch.1.symm), fun x hx1 hx2 => ((pk_un (by omega)).trans (rfl))⟩) rfl ?_ ?_
  · intro u7 hg7
    have hT := ch.2.1 e (by omega)
    have hl := zsT_len hT
    obtain ⟨hav, hbv, hvv, ht1, ht9⟩ := zsT_val hT
    refine zr_aloadn X 0 dX6_transferOn_7 rfl ?_
    refine zr_get X (ci := 6) (q := 9) zI (.int (nI ((S (e))))) dX6_transferOn_8 (by omega) rfl rfl inX6 (by decide) rfl (congrArg Value.int (hg7.1)) rfl k_548 ?_
    refine zr_aloadn X 0 dX6_transferOn_11 rfl ?_
    refine zr_get X (ci := 6) (q := 4) zI (.int (nI (n))) dX6_transferOn_12 (by omega) rfl rfl inX6 (by decide) rfl (congrArg Value.int ((hg7.2 _ (by omega) (by omega)).trans ((zgr_hi (L := 400) (by omega) _ (fun j hj => ⟨by have := zsT_val (ch.2.1 j (by omega)); omega, by have := zsT_val (ch.2.1 j (by omega)); omega⟩)).trans (hn)))) rfl k_543 ?_
    refine zr_icmp_ge X 119 dX6_transferOn_15 (by decide) (fun q => absurd q (nI_ge (by omega) (by omega))) (fun _ => ?_)
    refine zr_aloadn X 0 dX6_transferOn_18 rfl ?_
    refine zr_cVi (C := RX6) (ci := 6) [] [] X (zK_ok A D tc tF tL tM) (c_reads_T E u7 (fun z hz => ((hg7.2 _ (by omega) (by omega)).trans ((zgr_hi (L := 400) (by omega) _ (fun j hj => ⟨by have := zsT_val (ch.2.1 j (by omega)); omega, by have := zsT_val (ch.2.1 j (by omega)); omega⟩)).trans (rfl))).trans (hw z hz)) (p := (S (e))) (hg7.1) (by omega) ((hg7.2 _ (by omega) (by omega)).trans ((zgr_hi (L := 400) (by omega) _ (fun j hj => ⟨by have := zsT_val (ch.2.1 j (by omega)); omega, by have := zsT_val (ch.2.1 j (by omega)); omega⟩)).trans (hn))) hn2 hT) k_707 k_709 kp_12 k_7 k_710 hdX6_readsTransfer ⟨rfl, rfl⟩ ⟨Nat.le_of_ble_eq_true rfl, Nat.le_of_ble_eq_true rfl⟩ (by omega) rfl rfl rfl rfl (Nat.le_of_ble_eq_true rfl) dX6_transferOn_19 (fun z18 u17 hq18 => ?_)
    obtain ⟨rfl, g17a, g17b, g17c, g17d, g17e, g17f⟩ := hq18
    refine zr_pop X dX6_transferOn_22 rfl ?_
    refine zr_aloadn X 0 dX6_transferOn_23 rfl ?_
    refine zr_get X (ci := 6) (q := 10) (zR _) (.ref (ad (5))) dX6_transferOn_24 (by omega) rfl rfl inX6 (by decide) rfl (zvR rfl) rfl k_549 ?_
    refine zr_iconst X (nI (2)) dX6_transferOn_27 (by decide +kernel) ?_
    refine zr_iald X (j := 2) 0 (nI ((V0 e))) dX6_transferOn_28 (by omega) rfl rfl rfl (by omega) (by omega) (zcg (b := 2545) (by omega) (g17d)) ?_
    refine zr_istoren X [1, 2, 0] [(0, .ref (ad (0))), (1, .int (nI (e))), (2, .int (nI ((V0 e))))] dX6_transferOn_29 (by decide) rfl ?_
    refine zr_aloadn X 0 dX6_transferOn_30 rfl ?_
    refine zr_aloadn X 0 dX6_transferOn_31 rfl ?_
    refine zr_get X (ci := 6) (q := 10) (zR _) (.ref (ad (5))) dX6_transferOn_32 (by omega) rfl rfl inX6 (by decide) rfl (zvR rfl) rfl k_549 ?_
    refine zr_iconst X (nI (0)) dX6_transferOn_35 (by decide +kernel) ?_
    refine zr_iald X (j := 0) 0 (nI ((A0 e))) dX6_transferOn_36 (by omega) rfl rfl rfl (by omega) (by omega) (zcg (b := 2543) (by omega) (g17b)) ?_
    refine zr_aloadn X 0 dX6_transferOn_37 rfl ?_
    refine zr_get X (ci := 6) (q := 10) (zR _) (.ref (ad (5))) dX6_transferOn_38 (by omega) rfl rfl inX6 (by decide) rfl (zvR rfl) rfl k_549 ?_
    refine zr_iconst X (nI (1)) dX6_transferOn_41 (by decide +kernel) ?_
    refine zr_iald X (j := 1) 0 (nI ((B0 e))) dX6_transferOn_42 (by omega) rfl rfl rfl (by omega) (by omega) (zcg (b := 2544) (by omega) (g17c)) ?_
    refine zr_iloadn X 2 dX6_transferOn_43 rfl ?_
    refine zr_cSi [.int (nI ((V0 e)))] [.int (nI ((B0 e))), .int (nI ((A0 e))), .ref (ad (0))] X (zK_ok A D tc tF tL tM) (c_isVintage_t E u17 (by omega) (by omega)) k_633 k_634 k_7 k_635 hdX6_isVintage ⟨rfl, rfl⟩ ⟨Nat.le_of_ble_eq_true rfl, Nat.le_of_ble_eq_true rfl⟩ rfl rfl (Nat.le_of_ble_eq_true rfl) dX6_transferOn_44 (fun z36 u17 hq36 => ?_)
    obtain ⟨rfl, g17a, g17b, g17c, g17d, g17e, g17f⟩ := hq36
    refine zr_iloadn X 2 dX6_transferOn_47 rfl ?_
    refine zr_cSi [.int (nI ((V0 e)))] [.int (nI (1)), .int (nI ((B0 e))), .int (nI ((A0 e))), .ref (ad (0))] X (zK_ok A D tc tF tL tM) (c_isVintage_t E u17 (by omega) (by omega)) k_633 k_634 k_7 k_635 hdX6_isVintage ⟨rfl, rfl⟩ ⟨Nat.le_of_ble_eq_true rfl, Nat.le_of_ble_eq_true rfl⟩ rfl rfl (Nat.le_of_ble_eq_true rfl) dX6_transferOn_48 (fun z39 u17 hq39 => ?_)
    obtain ⟨rfl, g17a, g17b, g17c, g17d, g17e, g17f⟩ := hq39
    refine zr_if_eq X 60 dX6_transferOn_51 (by decide) (fun q => absurd q (nI_ne0 (by omega) (by omega))) (fun _ => ?_)
    refine zr_iconst X (nI (0)) dX6_transferOn_54 (by decide +kernel) ?_
    refine zr_iloadn X 2 dX6_transferOn_55 rfl ?_
    refine zr_iadd X (nI ((V0 e))) dX6_transferOn_56 ((nI_add _ _).trans (congrArg nI (by omega))) ?_
    refine zr_goto X 61 dX6_transferOn_57 (by decide) ?_
    refine zr_aloadn X 0 dX6_transferOn_61 rfl ?_
    refine zr_get X (ci := 6) (q := 10) (zR _) (.ref (ad (5))) dX6_transferOn_62 (by omega) rfl rfl inX6 (by decide) rfl (zvR rfl) rfl k_549 ?_
    refine zr_iconst X (nI (3)) dX6_transferOn_65 (by decide +kernel) ?_
    refine zr_iald X (j := 3) 0 (nI ((T0 e))) dX6_transferOn_66 (by omega) rfl rfl rfl (by omega) (by omega) (zcg (b := 2546) (by omega) (g17e)) ?_
    refine zr_cVi (C := RX6) (ci := 6) [.int (nI ((A0 e))), .int (nI ((B0 e))), .int (nI (1)), .int (nI ((V0 e))), .int (nI ((T0 e)))] [] X (zK_ok A D tc tF tL tM) (c_noTransfer_n E u17 (f := (A0 e)) (f2 := (B0 e)) (t := (T0 e)) (w := (V0 e)) ((g17f _ (by omega) (by omega)).trans ((hg7.2 _ (by omega) (by omega)).trans ((zgr_lo (by omega) _).trans (hc)))) h8 hf hf2 ht1 ht9 (by omega) hne (by rw [(g17f _ (by omega) (by omega)).trans ((hg7.2 _ (by omega) (by omega)).trans (rfl))]; exact hle)) k_636 k_638 kp_4 k_7 k_639 hdX6_noTransfer ⟨rfl, rfl⟩ ⟨Nat.le_of_ble_eq_true rfl, Nat.le_of_ble_eq_true rfl⟩ (by omega) rfl rfl rfl rfl (Nat.le_of_ble_eq_true rfl) dX6_transferOn_67 (fun z50 u17 hq50 => ?_)
    obtain ⟨rfl, g17a, g17b, g17c, g17d, g17e, g17f⟩ := hq50
    refine zr_istoren X [1, 2, 3, 0] [(0, .ref (ad (0))), (1, .int (nI (e))), (2, .int (nI ((V0 e)))), (3, .int (-4))] dX6_transferOn_70 (by decide) rfl ?_
    refine zr_iloadn X 3 dX6_transferOn_71 rfl ?_
    refine zr_if_eq X 77 dX6_transferOn_72 (by decide) (fun q => absurd q (by decide)) (fun _ => ?_)
    refine zr_iloadn X 3 dX6_transferOn_75 rfl ?_
    exact zr_iret X dX6_transferOn_76 ⟨rfl, fun x hx1 hx2 => (g17f _ (by omega) (by omega)).trans ((hg7.2 _ (by omega) (by omega)).trans (rfl))⟩
  · intro i u56 hi hg56 ih7
    have hT := ch.2.1 i (by omega)
    have hl := zsT_len hT
    obtain ⟨hav, hbv, hvv, ht1, ht9⟩ := zsT_val hT
    have hSi : S (i + 1) = E0 i + 1 := by by_cases q : i < K; exact (ch.2.2 i q).2; have : i = K := (by omega); subst this; omega
    obtain ⟨hf, hf2, hv, hne, hle⟩ := ok i hi
    refine zr_aloadn X 0 dX6_transferOn_7 rfl ?_
    refine zr_get X (ci := 6) (q := 9) zI (.int (nI ((S (i))))) dX6_transferOn_8 (by omega) rfl rfl inX6 (by decide) rfl (congrArg Value.int (hg56.1)) rfl k_548 ?_
    refine zr_aloadn X 0 dX6_transferOn_11 rfl ?_
    refine zr_get X (ci := 6) (q := 4) zI (.int (nI (n))) dX6_transferOn_12 (by omega) rfl rfl inX6 (by decide) rfl (congrArg Value.int ((hg56.2 _ (by omega) (by omega)).trans ((zgr_hi (L := 400) (by omega) _ (fun j hj => ⟨by have := zsT_val (ch.2.1 j (by omega)); omega, by have := zsT_val (ch.2.1 j (by omega)); omega⟩)).trans (hn)))) rfl k_543 ?_
    refine zr_icmp_ge X 119 dX6_transferOn_15 (by decide) (fun q => absurd q (nI_ge (by omega) (by omega))) (fun _ => ?_)
    refine zr_aloadn X 0 dX6_transferOn_18 rfl ?_
    refine zr_cVi (C := RX6) (ci := 6) [] [] X (zK_ok A D tc tF tL tM) (c_reads_T E u56 (fun z hz => ((hg56.2 _ (by omega) (by omega)).trans ((zgr_hi (L := 400) (by omega) _ (fun j hj => ⟨by have := zsT_val (ch.2.1 j (by omega)); omega, by have := zsT_val (ch.2.1 j (by omega)); omega⟩)).trans (rfl))).trans (hw z hz)) (p := (S (i))) (hg56.1) (by omega) ((hg56.2 _ (by omega) (by omega)).trans ((zgr_hi (L := 400) (by omega) _ (fun j hj => ⟨by have := zsT_val (ch.2.1 j (by omega)); omega, by have := zsT_val (ch.2.1 j (by omega)); omega⟩)).trans (hn))) hn2 hT) k_707 k_709 kp_12 k_7 k_710 hdX6_readsTransfer ⟨rfl, rfl⟩ ⟨Nat.le_of_ble_eq_true rfl, Nat.le_of_ble_eq_true rfl⟩ (by omega) rfl rfl rfl rfl (Nat.le_of_ble_eq_true rfl) dX6_transferOn_19 (fun z69 u68 hq69 => ?_)
    obtain ⟨rfl, g68a, g68b, g68c, g68d, g68e, g68f⟩ := hq69
    refine zr_pop X dX6_transferOn_22 rfl ?_
    refine zr_aloadn X 0 dX6_transferOn_23 rfl ?_
    refine zr_get X (ci := 6) (q := 10) (zR _) (.ref (ad (5))) dX6_transferOn_24 (by omega) rfl rfl inX6 (by decide) rfl (zvR rfl) rfl k_549 ?_
    refine zr_iconst X (nI (2)) dX6_transferOn_27 (by decide +kernel) ?_
    refine zr_iald X (j := 2) 0 (nI ((V0 i))) dX6_transferOn_28 (by omega) rfl rfl rfl (by omega) (by omega) (zcg (b := 2545) (by omega) (g68d)) ?_
    refine zr_istoren X [1, 2, 0] [(0, .ref (ad (0))), (1, .int (nI (i))), (2, .int (nI ((V0 i))))] dX6_transferOn_29 (by decide) rfl ?_
    refine zr_aloadn X 0 dX6_transferOn_30 rfl ?_
    refine zr_aloadn X 0 dX6_transferOn_31 rfl ?_
    refine zr_get X (ci := 6) (q := 10) (zR _) (.ref (ad (5))) dX6_transferOn_32 (by omega) rfl rfl inX6 (by decide) rfl (zvR rfl) rfl k_549 ?_
    refine zr_iconst X (nI (0)) dX6_transferOn_35 (by decide +kernel) ?_
    refine zr_iald X (j := 0) 0 (nI ((A0 i))) dX6_transferOn_36 (by omega) rfl rfl rfl (by omega) (by omega) (zcg (b := 2543) (by omega) (g68b)) ?_
    refine zr_aloadn X 0 dX6_transferOn_37 rfl ?_
    refine zr_get X (ci := 6) (q := 10) (zR _) (.ref (ad (5))) dX6_transferOn_38 (by omega) rfl rfl inX6 (by decide) rfl (zvR rfl) rfl k_549 ?_
    refine zr_iconst X (nI (1)) dX6_transferOn_41 (by decide +kernel) ?_
    refine zr_iald X (j := 1) 0 (nI ((B0 i))) dX6_transferOn_42 (by omega) rfl rfl rfl (by omega) (by omega) (zcg (b := 2544) (by omega) (g68c)) ?_
    refine zr_iloadn X 2 dX6_transferOn_43 rfl ?_
    refine zr_cSi [.int (nI ((V0 i)))] [.int (nI ((B0 i))), .int (nI ((A0 i))), .ref (ad (0))] X (zK_ok A D tc tF tL tM) (c_isVintage_t E u68 (by omega) (by omega)) k_633 k_634 k_7 k_635 hdX6_isVintage ⟨rfl, rfl⟩ ⟨Nat.le_of_ble_eq_true rfl, Nat.le_of_ble_eq_true rfl⟩ rfl rfl (Nat.le_of_ble_eq_true rfl) dX6_transferOn_44 (fun z87 u68 hq87 => ?_)
    obtain ⟨rfl, g68a, g68b, g68c, g68d, g68e, g68f⟩ := hq87
    refine zr_iloadn X 2 dX6_transferOn_47 rfl ?_
    refine zr_cSi [.int (nI ((V0 i)))] [.int (nI (1)), .int (nI ((B0 i))), .int (nI ((A0 i))), .ref (ad (0))] X (zK_ok A D tc tF tL tM) (c_isVintage_t E u68 (by omega) (by omega)) k_633 k_634 k_7 k_635 hdX6_isVintage ⟨rfl, rfl⟩ ⟨Nat.le_of_ble_eq_true rfl, Nat.le_of_ble_eq_true rfl⟩ rfl rfl (Nat.le_of_ble_eq_true rfl) dX6_transferOn_48 (fun z90 u68 hq90 => ?_)
    obtain ⟨rfl, g68a, g68b, g68c, g68d, g68e, g68f⟩ := hq90
    refine zr_if_eq X 60 dX6_transferOn_51 (by decide) (fun q => absurd q (nI_ne0 (by omega) (by omega))) (fun _ => ?_)
    refine zr_iconst X (nI (0)) dX6_transferOn_54 (by decide +kernel) ?_
    refine zr_iloadn X 2 dX6_transferOn_55 rfl ?_
    refine zr_iadd X (nI ((V0 i))) dX6_transferOn_56 ((nI_add _ _).trans (congrArg nI (by omega))) ?_
    refine zr_goto X 61 dX6_transferOn_57 (by decide) ?_
    refine zr_aloadn X 0 dX6_transferOn_61 rfl ?_
    refine zr_get X (ci := 6) (q := 10) (zR _) (.ref (ad (5))) dX6_transferOn_62 (by omega) rfl rfl inX6 (by decide) rfl (zvR rfl) rfl k_549 ?_
    refine zr_iconst X (nI (3)) dX6_transferOn_65 (by decide +kernel) ?_
    refine zr_iald X (j := 3) 0 (nI ((T0 i))) dX6_transferOn_66 (by omega) rfl rfl rfl (by omega) (by omega) (zcg (b := 2546) (by omega) (g68e)) ?_
    refine zr_cVi (C := RX6) (ci := 6) [.int (nI ((A0 i))), .int (nI ((B0 i))), .int (nI (1)), .int (nI ((V0 i))), .int (nI ((T0 i)))] [] X (zK_ok A D tc tF tL tM) (c_noTransfer_0 E u68 (f := (A0 i)) (f2 := (B0 i)) (t := (T0 i)) (w := (V0 i)) ((g68f _ (by omega) (by omega)).trans ((hg56.2 _ (by omega) (by omega)).trans ((zgr_lo (by omega) _).trans (hc)))) h8 hf hf2 ht1 ht9 (by omega) hne (by rw [(g68f _ (by omega) (by omega)).trans ((hg56.2 _ (by omega) (by omega)).trans (rfl))]; exact hle)) k_636 k_638 kp_4 k_7 k_639 hdX6_noTransfer ⟨rfl, rfl⟩ ⟨Nat.le_of_ble_eq_true rfl, Nat.le_of_ble_eq_true rfl⟩ (by omega) rfl rfl rfl rfl (Nat.le_of_ble_eq_true rfl) dX6_transferOn_67 (fun z101 u68 hq101 => ?_)
    obtain ⟨rfl, g68a, g68b, g68c, g68d, g68e, g68f⟩ := hq101
    refine zr_istoren X [1, 2, 3, 0] [(0, .ref (ad (0))), (1, .int (nI (i))), (2, .int (nI ((V0 i)))), (3, .int (nI (0)))] dX6_transferOn_70 (by decide) rfl ?_
    refine zr_iloadn X 3 dX6_transferOn_71 rfl ?_
    refine zr_if_eq X 77 dX6_transferOn_72 (by decide) (fun _ => ?_) (fun q => absurd (zq_eq0 (by omega)) q)
    refine zr_aloadn X 0 dX6_transferOn_77 rfl ?_
    refine zr_aloadn X 0 dX6_transferOn_78 rfl ?_
    refine zr_get X (ci := 6) (q := 10) (zR _) (.ref (ad (5))) dX6_transferOn_79 (by omega) rfl rfl inX6 (by decide) rfl (zvR rfl) rfl k_549 ?_
    refine zr_iconst X (nI (0)) dX6_transferOn_82 (by decide +kernel) ?_
    refine zr_iald X (j := 0) 0 (nI ((A0 i))) dX6_transferOn_83 (by omega) rfl rfl rfl (by omega) (by omega) (zcg (b := 2543) (by omega) (g68b)) ?_
    refine zr_aloadn X 0 dX6_transferOn_84 rfl ?_
    refine zr_get X (ci := 6) (q := 10) (zR _) (.ref (ad (5))) dX6_transferOn_85 (by omega) rfl rfl inX6 (by decide) rfl (zvR rfl) rfl k_549 ?_
    refine zr_iconst X (nI (1)) dX6_transferOn_88 (by decide +kernel) ?_
    refine zr_iald X (j := 1) 0 (nI ((B0 i))) dX6_transferOn_89 (by omega) rfl rfl rfl (by omega) (by omega) (zcg (b := 2544) (by omega) (g68c)) ?_
    refine zr_iconst X (nI (0)) dX6_transferOn_90 (by decide +kernel) ?_
    refine zr_iloadn X 2 dX6_transferOn_91 rfl ?_
    refine zr_iadd X (nI ((V0 i))) dX6_transferOn_92 ((nI_add _ _).trans (congrArg nI (by omega))) ?_
    refine zr_aloadn X 0 dX6_transferOn_93 rfl ?_
    refine zr_get X (ci := 6) (q := 10) (zR _) (.ref (ad (5))) dX6_transferOn_94 (by omega) rfl rfl inX6 (by decide) rfl (zvR rfl) rfl k_549 ?_
    refine zr_iconst X (nI (3)) dX6_transferOn_97 (by decide +kernel) ?_
    refine zr_iald X (j := 3) 0 (nI ((T0 i))) dX6_transferOn_98 (by omega) rfl rfl rfl (by omega) (by omega) (zcg (b := 2546) (by omega) (g68e)) ?_
    refine zr_dVi (C := RX6) (ci := 6) [.int (nI ((A0 i))), .int (nI ((B0 i))), .int (nI ((V0 i))), .int (nI ((T0 i)))] [] X (zK_ok A D tc tF tL tM) (c_doT E u68 (f := (A0 i)) (f2 := (B0 i)) (w := (V0 i)) (t := nI ((T0 i))) ((g68f _ (by omega) (by omega)).trans ((hg56.2 _ (by omega) (by omega)).trans ((zgr_lo (by omega) _).trans (hc)))) h8 hf hf2 (by omega) hne (pa := 32 * (A0 i) + (V0 i) + 7) (pb := 32 * (B0 i) + (V0 i) + 7) (by omega) (by omega) ((g68f _ (by omega) (by omega)).trans ((hg56.2 _ (by omega) (by omega)).trans (rfl))) ((g68f _ (by omega) (by omega)).trans ((hg56.2 _ (by omega) (by omega)).trans (rfl)))) k_640 k_642 kp_5 k_7 k_643 hdX6_doTransfer ⟨rfl, rfl⟩ ⟨Nat.le_of_ble_eq_true rfl, Nat.le_of_ble_eq_true rfl⟩ (by omega) rfl rfl rfl rfl (Nat.le_of_ble_eq_true rfl) dX6_transferOn_99 ?_
    refine zr_pop X dX6_transferOn_102 rfl ?_
    refine zr_iinc X 1 (nI (i + 1)) [1, 0, 2, 3] [(0, .ref (ad (0))), (1, .int (nI (i + 1))), (2, .int (nI ((V0 i)))), (3, .int (nI (0)))] dX6_transferOn_103 rfl (zinc _) (by decide) rfl ?_
    refine zr_aloadn X 0 dX6_transferOn_106 rfl ?_
    refine zr_dup X dX6_transferOn_107 rfl ?_
    refine zr_get X (ci := 6) (q := 9) zI (.int (nI ((E0 i)))) dX6_transferOn_108 (by omega) rfl rfl inX6 (by decide) rfl (congrArg Value.int ((pk_un (by omega)).trans ((pk_un (by omega)).trans ((g68a))))) rfl k_548 ?_
    refine zr_iconst X (nI (1)) dX6_transferOn_111 (by decide +kernel) ?_
    refine zr_iadd X (nI ((E0 i) + 1)) dX6_transferOn_112 (nI_add _ _) ?_
    refine zr_put X (ci := 6) (q := 9) (ty0 := tyX6) (ty := .int) (2452) dX6_transferOn_113 (by omega) rfl rfl inX6 tyX6_ok nmX6 (by decide) rfl rfl rfl rfl rfl rfl k_548 (by omega) ?_
    refine zr_goto X 7 dX6_transferOn_116 (by decide) ?_
    refine zr_drop X [0, 1] [(0, .ref (ad (0))), (1, .int (nI (i + 1)))] rfl ?_
    exact ih7 _ ⟨(pk_us).trans (congrArg nI hSi.symm), fun x hx1 hx2 => (pk_un hx1).trans (zupd_2 ((g68f _ (by omega) (by omega)).trans ((hg56.2 _ (by omega) (by omega)).trans (rfl))))⟩

