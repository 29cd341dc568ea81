section ZM
variable {p : Program} {l : Launch} {e : Env} {R : Room} {s : State} {m : MethodId} {args : Array Value} {below : List Frame} {meth : Method} {c : Code} {A : Nat → Prop} {D : va_G} {cl : List vw_C} {tc : Nat → ClassId} {ad : Nat → Nat} {N : Nat} {sh : Nat → ZS} {nL : Nat} {Q : State → Prop} {μ : Nat → Int32} {pc : Nat} {lv : List (Nat × Value)}
variable {K : State → Heap → Prop} {tys : List (ClassId × FieldType)} {ow : Nat → Nat} {cc : ByteArray} {own : String} {ret : Option FieldType}
/-- a loop that counts up, over any memory that is as it should be -/
theorem zr_forM (X : zX p s m args meth c A D cl ad N nL K tys ow sh cc own ret) (n : Nat) (G : Nat → (Nat → Int32) → Prop) (V : Nat → List (Nat × Value)) (st : List Value) (h0 : G 0 μ) (h2 : V 0 = lv) (hx : ∀ u, G n u → zG p l e R s m args below meth c A D cl tc ad N sh nL Q u pc (V n) st) (hs : ∀ i u, i < n → G i u → (∀ u', G (i + 1) u' → zG p l e R s m args below meth c A D cl tc ad N sh nL Q u' pc (V (i + 1)) st) → zG p l e R s m args below meth c A D cl tc ad N sh nL Q u pc (V i) st) : zG p l e R s m args below meth c A D cl tc ad N sh nL Q μ pc lv st := by
  rw [← h2]
  exact z_for n (fun i => ∀ u, G i u → zG p l e R s m args below meth c A D cl tc ad N sh nL Q u pc (V i) st) hx (fun i hi k u q => hs i u hi q k) μ h0
end ZM
/-- K + 1 transfers stand one behind another from the text's start, with signs between them -/
def zch (w : Nat → Int32) (n : Nat) (S E A B V T : Nat → Nat) (K : Nat) : Prop := S 0 = 0 ∧ (∀ i, i ≤ K → zsT w n (S i) (E i) (A i) (B i) (V i) (T i)) ∧ ∀ i, i < K → zis w n 59 (E i) ∧ S (i + 1) = E i + 1
theorem zch_S {w : Nat → Int32} {n : Nat} {S E A B V T : Nat → Nat} {K : Nat} (h : zch w n S E A B V T K) : ∀ i, i ≤ K → 8 * i ≤ S i
  | 0, _ => by omega
  | i + 1, hi => by
    have h1 := zch_S h i (by omega)
    have h2 := zsT_len (h.2.1 i (by omega))
    have h3 := (h.2.2 i (by omega)).2
    omega
theorem zch_K {w : Nat → Int32} {n : Nat} {S E A B V T : Nat → Nat} {K : Nat} (h : zch w n S E A B V T K) (hn : n ≤ 60) : K ≤ 6 := by
  have h1 := zch_S h K (Nat.le_refl _)
  have h2 := zsT_len (h.2.1 K (Nat.le_refl _))
  omega
/-- every text is of one of four kinds -/
theorem zch_step {w : Nat → Int32} {n : Nat} {S E A B V T : Nat → Nat} {K : Nat} (h : zch w n S E A B V T K) (hs : zis w n 59 (E K)) {q a b v t : Nat} (hT : zsT w n (E K + 1) q a b v t) : ∃ S E A B V T, zch w n S E A B V T (K + 1) ∧ E (K + 1) = q := by
  refine ⟨fun i => if i = K + 1 then E K + 1 else S i, fun i => if i = K + 1 then q else E i, fun i => if i = K + 1 then a else A i, fun i => if i = K + 1 then b else B i, fun i => if i = K + 1 then v else V i, fun i => if i = K + 1 then t else T i, ⟨?_, ?_, ?_⟩, by simp⟩
  · show (if 0 = K + 1 then E K + 1 else S 0) = 0
    rw [if_neg (by omega)]; exact h.1
  · intro i hi
    by_cases q : i = K + 1
    · subst q; simpa using hT
    · simp only [if_neg q]; exact h.2.1 i (by omega)
  · intro i hi
    simp only [if_neg (show ¬ i = K + 1 by omega)]
    by_cases q : i = K
    · subst q; simpa using hs
    · rw [if_neg (by omega)]; exact h.2.2 i (by omega)
theorem zch_or (w : Nat → Int32) (n : Nat) : (∃ q, zsF w n 0 q) ∨ ∃ S E A B V T K, zch w n S E A B V T K ∧ (E K = n ∨ (E K ≠ n ∧ ¬ zis w n 59 (E K)) ∨ (zis w n 59 (E K) ∧ ∃ q, zsF w n (E K + 1) q)) := by
  rcases zs_or w n 0 with h | ⟨q, a, b, v, t, h⟩
  · exact Or.inl h
  · right
    have go : ∀ d K S E A B V T, zch w n S E A B V T K → n - E K ≤ d → ∃ S E A B V T K, zch w n S E A B V T K ∧ (E K = n ∨ (E K ≠ n ∧ ¬ zis w n 59 (E K)) ∨ (zis w n 59 (E K) ∧ ∃ q, zsF w n (E K + 1) q)) := by
      intro d
      induction d with
      | zero =>
        intro K S E A B V T h hd
        have := zsT_len (h.2.1 K (Nat.le_refl _))
        exact ⟨S, E, A, B, V, T, K, h, Or.inl (by omega)⟩
      | succ d ih =>
        intro K S E A B V T h hd
        by_cases h1 : E K = n
        · exact ⟨S, E, A, B, V, T, K, h, Or.inl h1⟩
        · by_cases h2 : zis w n 59 (E K)
          · rcases zs_or w n (E K + 1) with h3 | ⟨q, a, b, v, t, h3⟩
            · exact ⟨S, E, A, B, V, T, K, h, Or.inr (Or.inr ⟨h2, h3⟩)⟩
            · obtain ⟨S', E', A', B', V', T', h4, h5⟩ := zch_step h h2 h3
              have := zsT_len h3
              exact ih (K + 1) S' E' A' B' V' T' h4 (by omega)
          · exact ⟨S, E, A, B, V, T, K, h, Or.inr (Or.inl ⟨h1, h2⟩)⟩
    have h0 : zch w n (fun _ => 0) (fun _ => q) (fun _ => a) (fun _ => b) (fun _ => v) (fun _ => t) 0 := by
      refine ⟨rfl, fun i _ => h, fun i hi => ?_⟩
      omega
    exact go n 0 _ _ _ _ _ _ h0 (by omega)
set_option maxHeartbeats 4000000 in
set_option maxRecDepth 100000 in
theorem c_faultOf_a {l : Launch} {D : va_G} {tc : Nat → ClassId} {ad : Nat → Nat} {A : Nat → Prop} {tF tL tM : Nat} (E : zN 6 A ad) (μ : Nat → Int32) {w : Nat → Int32} (hw : ∀ q, q < 60 → μ (q + 2460) = w q) {n : Nat} (hn : μ 2447 = nI n) (hn2 : n ≤ 60) {q : Nat} (hF : zsF w n 0 q)  : zMi l yX6_faultOf cX6_faultOf 2 (some .int) (zrm 4) (zK A D tc tF tL tM) A D vwCl tc ad 6 shR [.ref (ad (0))] μ (fun r u => r = nI (q) ∧ (∀ x, x ≠ 2452 → (x < 2543 ∨ 2547 ≤ x) → u x = μ x)) := by
  refine zM_of RX6 [(0, .ref (ad (0)))] (zK_ok A D tc tF tL tM) E.1 E.2 owR_ok (by decide +kernel) rfl (Nat.le_of_ble_eq_true rfl) rfl ?_
  intro pP eE sS mM aS bL mT cO X
  refine zr_aloadn X 0 dX6_faultOf_0 rfl ?_
  refine zr_iconst X (nI (0)) dX6_faultOf_1 (by decide +kernel) ?_
  refine zr_put X (ci := 6) (q := 9) (ty0 := tyX6) (ty := .int) (2452) dX6_faultOf_2 (by omega) rfl rfl inX6 tyX6_ok nmX6 (by decide) rfl rfl rfl rfl rfl rfl k_548 (by omega) ?_
  refine zr_aloadn X 0 dX6_faultOf_5 rfl ?_
  refine zr_cVi (C := RX6) (ci := 6) [] [] X (zK_ok A D tc tF tL tM) (c_reads_F E (upd μ (2452) (nI (0))) (fun z hz => ((pk_un (by omega)).trans (rfl)).trans (hw z hz)) (p := 0) (pk_us) (by omega) ((pk_un (by omega)).trans (hn)) hn2 hF) k_707 k_709 kp_12 k_7 k_710 hdX6_readsTransfer ⟨rfl, rfl⟩ ⟨Nat.le_of_ble_eq_true rfl, Nat.le_of_ble_eq_true rfl⟩ (by omega) rfl rfl rfl rfl (Nat.le_of_ble_eq_true rfl) dX6_faultOf_6 (fun z5 u4 hq5 => ?_)
  obtain ⟨rfl, g4a, g4f⟩ := hq5
  refine zr_istoren X [1, 0] [(0, .ref (ad (0))), (1, .int (nI (0)))] dX6_faultOf_9 (by decide) rfl ?_
  refine zr_iloadn X 1 dX6_faultOf_10 rfl ?_
  refine zr_if_eq X 50 dX6_faultOf_11 (by decide) (fun _ => ?_) (fun q => absurd (zq_eq0 (by omega)) q)
  refine zr_iloadn X 1 dX6_faultOf_50 rfl ?_
  refine zr_if_eq X 58 dX6_faultOf_51 (by decide) (fun _ => ?_) (fun q => absurd (zq_eq0 (by omega)) q)
  refine zr_aloadn X 0 dX6_faultOf_58 rfl ?_
  refine zr_get X (ci := 6) (q := 9) zI (.int (nI (q))) dX6_faultOf_59 (by omega) rfl rfl inX6 (by decide) rfl (congrArg Value.int (g4a)) rfl k_548 ?_
  exact zr_iret X dX6_faultOf_62 ⟨rfl, fun x hx1 hx2 => (g4f _ (by omega) (by omega)).trans ((pk_un (by omega)).trans (rfl))⟩

set_option maxHeartbeats 4000000 in
set_option maxRecDepth 100000 in
theorem c_faultOf_b {l : Launch} {D : va_G} {tc : Nat → ClassId} {ad : Nat → Nat} {A : Nat → Prop} {tF tL tM : Nat} (E : zN 6 A ad) (μ : Nat → Int32) {w : Nat → Int32} (hw : ∀ q, q < 60 → μ (q + 2460) = w q) {n : Nat} (hn : μ 2447 = nI n) (hn2 : n ≤ 60) {S E0 A0 B0 V0 T0 : Nat → Nat} {K : Nat} (ch : zch w n S E0 A0 B0 V0 T0 K) (F7 : zis w n 59 (E0 K)) {q : Nat} (hF : zsF w n (E0 K + 1) q)  : zMi l yX6_faultOf cX6_faultOf 2 (some .int) (zrm 4) (zK A D tc tF tL tM) A D vwCl tc ad 6 shR [.ref (ad (0))] μ (fun r u => r = nI (q) ∧ (∀ x, x ≠ 2452 → (x < 2543 ∨ 2547 ≤ x) → u x = μ x)) := by
  refine zM_of RX6 [(0, .ref (ad (0)))] (zK_ok A D tc tF tL tM) E.1 E.2 owR_ok (by decide +kernel) rfl (Nat.le_of_ble_eq_true rfl) rfl ?_
  intro pP eE sS mM aS bL mT cO X
  have hT0 := ch.2.1 0 (by omega)
  rw [ch.1] at hT0
  refine zr_aloadn X 0 dX6_faultOf_0 rfl ?_
  refine zr_iconst X (nI (0)) dX6_faultOf_1 (by decide +kernel) ?_
  refine zr_put X (ci := 6) (q := 9) (ty0 := tyX6) (ty := .int) (2452) dX6_faultOf_2 (by omega) rfl rfl inX6 tyX6_ok nmX6 (by decide) rfl rfl rfl rfl rfl rfl k_548 (by omega) ?_
  refine zr_aloadn X 0 dX6_faultOf_5 rfl ?_
  refine zr_cVi (C := RX6) (ci := 6) [] [] X (zK_ok A D tc tF tL tM) (c_reads_T E (upd μ (2452) (nI (0))) (fun z hz => ((pk_un (by omega)).trans (rfl)).trans (hw z hz)) (p := 0) (pk_us) (by omega) ((pk_un (by omega)).trans (hn)) hn2 hT0) k_707 k_709 kp_12 k_7 k_710 hdX6_readsTransfer ⟨rfl, rfl⟩ ⟨Nat.le_of_ble_eq_true rfl, Nat.le_of_ble_eq_true rfl⟩ (by omega) rfl rfl rfl rfl (Nat.le_of_ble_eq_true rfl) dX6_faultOf_6 (fun z5 u4 hq5 => ?_)
  obtain ⟨rfl, g4a, g4b, g4c, g4d, g4e, g4f⟩ := hq5
  refine zr_istoren X [1, 0] [(0, .ref (ad (0))), (1, .int (nI (1)))] dX6_faultOf_9 (by decide) rfl ?_
  refine zr_forM X (K) (fun i u => u 2452 = nI (E0 i) ∧ ∀ x, x ≠ 2452 → (x < 2543 ∨ 2547 ≤ x) → u x = μ x) (fun i => [(0, .ref (ad (0))), (1, .int (nI (1)))]) [] (⟨g4a, fun x hx1 hx2 => (g4f _ (by omega) (by omega)).trans ((pk_un (by omega)).trans (rfl))⟩) rfl ?_ ?_
  · intro u9 hg9
    have hl := (zsT_len (ch.2.1 K (Nat.le_refl _))).2
    have hlt := F7.1
    refine zr_iloadn X 1 dX6_faultOf_10 rfl ?_
    refine zr_if_eq X 50 dX6_faultOf_11 (by decide) (fun q => absurd q (nI_ne0 (by omega) (by omega))) (fun _ => ?_)
    refine zr_aloadn X 0 dX6_faultOf_14 rfl ?_
    refine zr_get X (ci := 6) (q := 9) zI (.int (nI ((E0 (K))))) dX6_faultOf_15 (by omega) rfl rfl inX6 (by decide) rfl (congrArg Value.int (hg9.1)) rfl k_548 ?_
    refine zr_aloadn X 0 dX6_faultOf_18 rfl ?_
    refine zr_get X (ci := 6) (q := 4) zI (.int (nI (n))) dX6_faultOf_19 (by omega) rfl rfl inX6 (by decide) rfl (congrArg Value.int ((hg9.2 _ (by omega) (by omega)).trans (hn))) rfl k_543 ?_
    refine zr_icmp_ge X 50 dX6_faultOf_22 (by decide) (fun q => absurd q (nI_ge (by omega) (by omega))) (fun _ => ?_)
    refine zr_aloadn X 0 dX6_faultOf_25 rfl ?_
    refine zr_bipush X (nI (59)) dX6_faultOf_26 (by decide +kernel) ?_
    refine zr_dVi (C := RX6) (ci := 6) [.int (nI (59))] [] X (zK_ok A D tc tF tL tM) (c_sign_t E u9 (fun z hz => ((hg9.2 _ (by omega) (by omega)).trans (rfl)).trans (hw z hz)) (p := (E0 (K))) (hg9.1) (by omega) ((hg9.2 _ (by omega) (by omega)).trans (hn)) hn2 (c := 59) (by omega) (by omega) F7) k_719 k_721 kp_15 k_7 k_722 hdX6_sign ⟨rfl, rfl⟩ ⟨Nat.le_of_ble_eq_true rfl, Nat.le_of_ble_eq_true rfl⟩ (by omega) rfl rfl rfl rfl (Nat.le_of_ble_eq_true rfl) dX6_faultOf_28 ?_
    refine zr_if_eq X 45 dX6_faultOf_31 (by decide) (fun q => absurd q (nI_ne0 (by omega) (by omega))) (fun _ => ?_)
    refine zr_aloadn X 0 dX6_faultOf_34 rfl ?_
    refine zr_cVi (C := RX6) (ci := 6) [] [] X (zK_ok A D tc tF tL tM) (c_reads_F E (upd u9 (2452) (nI ((E0 (K)) + 1))) (fun z hz => ((pk_un (by omega)).trans (((hg9.2 _ (by omega) (by omega)).trans (rfl)))).trans (hw z hz)) (p := (E0 (K)) + 1) (pk_us) (by omega) ((pk_un (by omega)).trans (((hg9.2 _ (by omega) (by omega)).trans (hn)))) hn2 hF) k_707 k_709 kp_12 k_7 k_710 hdX6_readsTransfer ⟨rfl, rfl⟩ ⟨Nat.le_of_ble_eq_true rfl, Nat.le_of_ble_eq_true rfl⟩ (by omega) rfl rfl rfl rfl (Nat.le_of_ble_eq_true rfl) dX6_faultOf_35 (fun z25 u24 hq25 => ?_)
    obtain ⟨rfl, g24a, g24f⟩ := hq25
    refine zr_if_eq X 45 dX6_faultOf_38 (by decide) (fun _ => ?_) (fun q => absurd (zq_eq0 (by omega)) q)
    refine zr_iconst X (nI (0)) dX6_faultOf_45 (by decide +kernel) ?_
    refine zr_istoren X [1, 0] [(0, .ref (ad (0))), (1, .int (nI (0)))] dX6_faultOf_46 (by decide) rfl ?_
    refine zr_goto X 10 dX6_faultOf_47 (by decide) ?_
    refine zr_iloadn X 1 dX6_faultOf_10 rfl ?_
    refine zr_if_eq X 50 dX6_faultOf_11 (by decide) (fun _ => ?_) (fun q => absurd (zq_eq0 (by omega)) q)
    refine zr_iloadn X 1 dX6_faultOf_50 rfl ?_
    refine zr_if_eq X 58 dX6_faultOf_51 (by decide) (fun _ => ?_) (fun q => absurd (zq_eq0 (by omega)) q)
    refine zr_aloadn X 0 dX6_faultOf_58 rfl ?_
    refine zr_get X (ci := 6) (q := 9) zI (.int (nI (q))) dX6_faultOf_59 (by omega) rfl rfl inX6 (by decide) rfl (congrArg Value.int (g24a)) rfl k_548 ?_
    exact zr_iret X dX6_faultOf_62 ⟨rfl, fun x hx1 hx2 => (g24f _ (by omega) (by omega)).trans ((pk_un (by omega)).trans (((hg9.2 _ (by omega) (by omega)).trans (rfl))))⟩
  · intro i u37 hi hg37 ih10
    have F7 := (ch.2.2 i hi).1
    have hlt := F7.1
    have hS := (ch.2.2 i hi).2
    have hT := ch.2.1 (i + 1) (by omega)
    rw [hS] at hT
    refine zr_iloadn X 1 dX6_faultOf_10 rfl ?_
    refine zr_if_eq X 50 dX6_faultOf_11 (by decide) (fun q => absurd q (nI_ne0 (by omega) (by omega))) (fun _ => ?_)
    refine zr_aloadn X 0 dX6_faultOf_14 rfl ?_
    refine zr_get X (ci := 6) (q := 9) zI (.int (nI ((E0 (i))))) dX6_faultOf_15 (by omega) rfl rfl inX6 (by decide) rfl (congrArg Value.int (hg37.1)) rfl k_548 ?_
    refine zr_aloadn X 0 dX6_faultOf_18 rfl ?_
    refine zr_get X (ci := 6) (q := 4) zI (.int (nI (n))) dX6_faultOf_19 (by omega) rfl rfl inX6 (by decide) rfl (congrArg Value.int ((hg37.2 _ (by omega) (by omega)).trans (hn))) rfl k_543 ?_
    refine zr_icmp_ge X 50 dX6_faultOf_22 (by decide) (fun q => absurd q (nI_ge (by omega) (by omega))) (fun _ => ?_)
    refine zr_aloadn X 0 dX6_faultOf_25 rfl ?_
    refine zr_bipush X (nI (59)) dX6_faultOf_26 (by decide +kernel) ?_
    refine zr_dVi (C := RX6) (ci := 6) [.int (nI (59))] [] X (zK_ok A D tc tF tL tM) (c_sign_t E u37 (fun z hz => ((hg37.2 _ (by omega) (by omega)).trans (rfl)).trans (hw z hz)) (p := (E0 (i))) (hg37.1) (by omega) ((hg37.2 _ (by omega) (by omega)).trans (hn)) hn2 (c := 59) (by omega) (by omega) F7) k_719 k_721 kp_15 k_7 k_722 hdX6_sign ⟨rfl, rfl⟩ ⟨Nat.le_of_ble_eq_true rfl, Nat.le_of_ble_eq_true rfl⟩ (by omega) rfl rfl rfl rfl (Nat.le_of_ble_eq_true rfl) dX6_faultOf_28 ?_
    refine zr_if_eq X 45 dX6_faultOf_31 (by decide) (fun q => absurd q (nI_ne0 (by omega) (by omega))) (fun _ => ?_)
    refine zr_aloadn X 0 dX6_faultOf_34 rfl ?_
    refine zr_cVi (C := RX6) (ci := 6) [] [] X (zK_ok A D tc tF tL tM) (c_reads_T E (upd u37 (2452) (nI ((E0 (i)) + 1))) (fun z hz => ((pk_un (by omega)).trans (((hg37.2 _ (by omega) (by omega)).trans (rfl)))).trans (hw z hz)) (p := (E0 (i)) + 1) (pk_us) (by omega) ((pk_un (by omega)).trans (((hg37.2 _ (by omega) (by omega)).trans (hn)))) hn2 hT) k_707 k_709 kp_12 k_7 k_710 hdX6_readsTransfer ⟨rfl, rfl⟩ ⟨Nat.le_of_ble_eq_true rfl, Nat.le_of_ble_eq_true rfl⟩ (by omega) rfl rfl rfl rfl (Nat.le_of_ble_eq_true rfl) dX6_faultOf_35 (fun z56 u55 hq56 => ?_)
    obtain ⟨rfl, g55a, g55b, g55c, g55d, g55e, g55f⟩ := hq56
    refine zr_if_eq X 45 dX6_faultOf_38 (by decide) (fun q => absurd q (nI_ne0 (by omega) (by omega))) (fun _ => ?_)
    refine zr_iconst X (nI (1)) dX6_faultOf_41 (by decide +kernel) ?_
    refine zr_goto X 46 dX6_faultOf_42 (by decide) ?_
    refine zr_istoren X [1, 0] [(0, .ref (ad (0))), (1, .int (nI (1)))] dX6_faultOf_46 (by decide) rfl ?_
    refine zr_goto X 10 dX6_faultOf_47 (by decide) ?_
    exact ih10 _ ⟨g55a, fun x hx1 hx2 => (g55f _ (by omega) (by omega)).trans ((pk_un (by omega)).trans (((hg37.2 _ (by omega) (by omega)).trans (rfl))))⟩

set_option maxHeartbeats 4000000 in
set_option maxRecDepth 100000 in
theorem c_faultOf_c {l : Launch} {D : va_G} {tc : Nat → ClassId} {ad : Nat → Nat} {A : Nat → Prop} {tF tL tM : Nat} (E : zN 6 A ad) (μ : Nat → Int32) {w : Nat → Int32} (hw : ∀ q, q < 60 → μ (q + 2460) = w q) {n : Nat} (hn : μ 2447 = nI n) (hn2 : n ≤ 60) {S E0 A0 B0 V0 T0 : Nat → Nat} {K : Nat} (ch : zch w n S E0 A0 B0 V0 T0 K) (hE : E0 K ≠ n) (F7 : ¬ zis w n 59 (E0 K))  : zMi l yX6_faultOf cX6_faultOf 2 (some .int) (zrm 4) (zK A D tc tF tL tM) A D vwCl tc ad 6 shR [.ref (ad (0))] μ (fun r u => r = nI (E0 K) ∧ (∀ x, x ≠ 2452 → (x < 2543 ∨ 2547 ≤ x) → u x = μ x)) := by
  refine zM_of RX6 [(0, .ref (ad (0)))] (zK_ok A D tc tF tL tM) E.1 E.2 owR_ok (by decide +kernel) rfl (Nat.le_of_ble_eq_true rfl) rfl ?_
  intro pP eE sS mM aS bL mT cO X
  have hT0 := ch.2.1 0 (by omega)
  rw [ch.1] at hT0
  refine zr_aloadn X 0 dX6_faultOf_0 rfl ?_
  refine zr_iconst X (nI (0)) dX6_faultOf_1 (by decide +kernel) ?_
  refine zr_put X (ci := 6) (q := 9) (ty0 := tyX6) (ty := .int) (2452) dX6_faultOf_2 (by omega) rfl rfl inX6 tyX6_ok nmX6 (by decide) rfl rfl rfl rfl rfl rfl k_548 (by omega) ?_
  refine zr_aloadn X 0 dX6_faultOf_5 rfl ?_
  refine zr_cVi (C := RX6) (ci := 6) [] [] X (zK_ok A D tc tF tL tM) (c_reads_T E (upd μ (2452) (nI (0))) (fun z hz => ((pk_un (by omega)).trans (rfl)).trans (hw z hz)) (p := 0) (pk_us) (by omega) ((pk_un (by omega)).trans (hn)) hn2 hT0) k_707 k_709 kp_12 k_7 k_710 hdX6_readsTransfer ⟨rfl, rfl⟩ ⟨Nat.le_of_ble_eq_true rfl, Nat.le_of_ble_eq_true rfl⟩ (by omega) rfl rfl rfl rfl (Nat.le_of_ble_eq_true rfl) dX6_faultOf_6 (fun z5 u4 hq5 => ?_)
  obtain ⟨rfl, g4a, g4b, g4c, g4d, g4e, g4f⟩ := hq5
  refine zr_istoren X [1, 0] [(0, .ref (ad (0))), (1, .int (nI (1)))] dX6_faultOf_9 (by decide) rfl ?_
  refine zr_forM X (K) (fun i u => u 2452 = nI (E0 i) ∧ ∀ x, x ≠ 2452 → (x < 2543 ∨ 2547 ≤ x) → u x = μ x) (fun i => [(0, .ref (ad (0))), (1, .int (nI (1)))]) [] (⟨g4a, fun x hx1 hx2 => (g4f _ (by omega) (by omega)).trans ((pk_un (by omega)).trans (rfl))⟩) rfl ?_ ?_
  · intro u9 hg9
    have hl := (zsT_len (ch.2.1 K (Nat.le_refl _))).2
    refine zr_iloadn X 1 dX6_faultOf_10 rfl ?_
    refine zr_if_eq X 50 dX6_faultOf_11 (by decide) (fun q => absurd q (nI_ne0 (by omega) (by omega))) (fun _ => ?_)
    refine zr_aloadn X 0 dX6_faultOf_14 rfl ?_
    refine zr_get X (ci := 6) (q := 9) zI (.int (nI ((E0 (K))))) dX6_faultOf_15 (by omega) rfl rfl inX6 (by decide) rfl (congrArg Value.int (hg9.1)) rfl k_548 ?_
    refine zr_aloadn X 0 dX6_faultOf_18 rfl ?_
    refine zr_get X (ci := 6) (q := 4) zI (.int (nI (n))) dX6_faultOf_19 (by omega) rfl rfl inX6 (by decide) rfl (congrArg Value.int ((hg9.2 _ (by omega) (by omega)).trans (hn))) rfl k_543 ?_
    refine zr_icmp_ge X 50 dX6_faultOf_22 (by decide) (fun q => absurd q (nI_ge (by omega) (by omega))) (fun _ => ?_)
    refine zr_aloadn X 0 dX6_faultOf_25 rfl ?_
    refine zr_bipush X (nI (59)) dX6_faultOf_26 (by decide +kernel) ?_
    refine zr_dVi (C := RX6) (ci := 6) [.int (nI (59))] [] X (zK_ok A D tc tF tL tM) (c_sign_f E u9 (fun z hz => ((hg9.2 _ (by omega) (by omega)).trans (rfl)).trans (hw z hz)) (p := (E0 (K))) (hg9.1) (by omega) ((hg9.2 _ (by omega) (by omega)).trans (hn)) hn2 (c := 59) (by omega) (by omega) F7) k_719 k_721 kp_15 k_7 k_722 hdX6_sign ⟨rfl, rfl⟩ ⟨Nat.le_of_ble_eq_true rfl, Nat.le_of_ble_eq_true rfl⟩ (by omega) rfl rfl rfl rfl (Nat.le_of_ble_eq_true rfl) dX6_faultOf_28 ?_
    refine zr_if_eq X 45 dX6_faultOf_31 (by decide) (fun _ => ?_) (fun q => absurd (zq_eq0 (by omega)) q)
    refine zr_iconst X (nI (0)) dX6_faultOf_45 (by decide +kernel) ?_
    refine zr_istoren X [1, 0] [(0, .ref (ad (0))), (1, .int (nI (0)))] dX6_faultOf_46 (by decide) rfl ?_
    refine zr_goto X 10 dX6_faultOf_47 (by decide) ?_
    refine zr_iloadn X 1 dX6_faultOf_10 rfl ?_
    refine zr_if_eq X 50 dX6_faultOf_11 (by decide) (fun _ => ?_) (fun q => absurd (zq_eq0 (by omega)) q)
    refine zr_iloadn X 1 dX6_faultOf_50 rfl ?_
    refine zr_if_eq X 58 dX6_faultOf_51 (by decide) (fun _ => ?_) (fun q => absurd (zq_eq0 (by omega)) q)
    refine zr_aloadn X 0 dX6_faultOf_58 rfl ?_
    refine zr_get X (ci := 6) (q := 9) zI (.int (nI ((E0 (K))))) dX6_faultOf_59 (by omega) rfl rfl inX6 (by decide) rfl (congrArg Value.int (hg9.1)) rfl k_548 ?_
    exact zr_iret X dX6_faultOf_62 ⟨rfl, fun x hx1 hx2 => (hg9.2 _ (by omega) (by omega)).trans (rfl)⟩
  · intro i u32 hi hg32 ih10
    have F7 := (ch.2.2 i hi).1
    have hlt := F7.1
    have hS := (ch.2.2 i hi).2
    have hT := ch.2.1 (i + 1) (by omega)
    rw [hS] at hT
    refine zr_iloadn X 1 dX6_faultOf_10 rfl ?_
    refine zr_if_eq X 50 dX6_faultOf_11 (by decide) (fun q => absurd q (nI_ne0 (by omega) (by omega))) (fun _ => ?_)
    refine zr_aloadn X 0 dX6_faultOf_14 rfl ?_
    refine zr_get X (ci := 6) (q := 9) zI (.int (nI ((E0 (i))))) dX6_faultOf_15 (by omega) rfl rfl inX6 (by decide) rfl (congrArg Value.int (hg32.1)) rfl k_548 ?_
    refine zr_aloadn X 0 dX6_faultOf_18 rfl ?_
    refine zr_get X (ci := 6) (q := 4) zI (.int (nI (n))) dX6_faultOf_19 (by omega) rfl rfl inX6 (by decide) rfl (congrArg Value.int ((hg32.2 _ (by omega) (by omega)).trans (hn))) rfl k_543 ?_
    refine zr_icmp_ge X 50 dX6_faultOf_22 (by decide) (fun q => absurd q (nI_ge (by omega) (by omega))) (fun _ => ?_)
    refine zr_aloadn X 0 dX6_faultOf_25 rfl ?_
    refine zr_bipush X (nI (59)) dX6_faultOf_26 (by decide +kernel) ?_
    refine zr_dVi (C := RX6) (ci := 6) [.int (nI (59))] [] X (zK_ok A D tc tF tL tM) (c_sign_t E u32 (fun z hz => ((hg32.2 _ (by omega) (by omega)).trans (rfl)).trans (hw z hz)) (p := (E0 (i))) (hg32.1) (by omega) ((hg32.2 _ (by omega) (by omega)).trans (hn)) hn2 (c := 59) (by omega) (by omega) F7) k_719 k_721 kp_15 k_7 k_722 hdX6_sign ⟨rfl, rfl⟩ ⟨Nat.le_of_ble_eq_true rfl, Nat.le_of_ble_eq_true rfl⟩ (by omega) rfl rfl rfl rfl (Nat.le_of_ble_eq_true rfl) dX6_faultOf_28 ?_
    refine zr_if_eq X 45 dX6_faultOf_31 (by decide) (fun q => absurd q (nI_ne0 (by omega) (by omega))) (fun _ => ?_)
    refine zr_aloadn X 0 dX6_faultOf_34 rfl ?_
    refine zr_cVi (C := RX6) (ci := 6) [] [] X (zK_ok A D tc tF tL tM) (c_reads_T E (upd u32 (2452) (nI ((E0 (i)) + 1))) (fun z hz => ((pk_un (by omega)).trans (((hg32.2 _ (by omega) (by omega)).trans (rfl)))).trans (hw z hz)) (p := (E0 (i)) + 1) (pk_us) (by omega) ((pk_un (by omega)).trans (((hg32.2 _ (by omega) (by omega)).trans (hn)))) hn2 hT) k_707 k_709 kp_12 k_7 k_710 hdX6_readsTransfer ⟨rfl, rfl⟩ ⟨Nat.le_of_ble_eq_true rfl, Nat.le_of_ble_eq_true rfl⟩ (by omega) rfl rfl rfl rfl (Nat.le_of_ble_eq_true rfl) dX6_faultOf_35 (fun z51 u50 hq51 => ?_)
    obtain ⟨rfl, g50a, g50b, g50c, g50d, g50e, g50f⟩ := hq51
    refine zr_if_eq X 45 dX6_faultOf_38 (by decide) (fun q => absurd q (nI_ne0 (by omega) (by omega))) (fun _ => ?_)
    refine zr_iconst X (nI (1)) dX6_faultOf_41 (by decide +kernel) ?_
    refine zr_goto X 46 dX6_faultOf_42 (by decide) ?_
    refine zr_istoren X [1, 0] [(0, .ref (ad (0))), (1, .int (nI (1)))] dX6_faultOf_46 (by decide) rfl ?_
    refine zr_goto X 10 dX6_faultOf_47 (by decide) ?_
    exact ih10 _ ⟨g50a, fun x hx1 hx2 => (g50f _ (by omega) (by omega)).trans ((pk_un (by omega)).trans (((hg32.2 _ (by omega) (by omega)).trans (rfl))))⟩

set_option maxHeartbeats 4000000 in
set_option maxRecDepth 100000 in
theorem c_faultOf_d {l : Launch} {D : va_G} {tc : Nat → ClassId} {ad : Nat → Nat} {A : Nat → Prop} {tF tL tM : Nat} (E : zN 6 A ad) (μ : Nat → Int32) {w : Nat → Int32} (hw : ∀ q, q < 60 → μ (q + 2460) = w q) {n : Nat} (hn : μ 2447 = nI n) (hn2 : n ≤ 60) {S E0 A0 B0 V0 T0 : Nat → Nat} {K : Nat} (ch : zch w n S E0 A0 B0 V0 T0 K) (hE : E0 K = n)  : zMi l yX6_faultOf cX6_faultOf 2 (some .int) (zrm 4) (zK A D tc tF tL tM) A D vwCl tc ad 6 shR [.ref (ad (0))] μ (fun r u => r = -1 ∧ (∀ x, x ≠ 2452 → (x < 2543 ∨ 2547 ≤ x) → u x = μ x)) := by
  refine zM_of RX6 [(0, .ref (ad (0)))] (zK_ok A D tc tF tL tM) E.1 E.2 owR_ok (by decide +kernel) rfl (Nat.le_of_ble_eq_true rfl) rfl ?_
  intro pP eE sS mM aS bL mT cO X
  have hT0 := ch.2.1 0 (by omega)
  rw [ch.1] at hT0
  refine zr_aloadn X 0 dX6_faultOf_0 rfl ?_
  refine zr_iconst X (nI (0)) dX6_faultOf_1 (by decide +kernel) ?_
  refine zr_put X (ci := 6) (q := 9) (ty0 := tyX6) (ty := .int) (2452) dX6_faultOf_2 (by omega) rfl rfl inX6 tyX6_ok nmX6 (by decide) rfl rfl rfl rfl rfl rfl k_548 (by omega) ?_
  refine zr_aloadn X 0 dX6_faultOf_5 rfl ?_
  refine zr_cVi (C := RX6) (ci := 6) [] [] X (zK_ok A D tc tF tL tM) (c_reads_T E (upd μ (2452) (nI (0))) (fun z hz => ((pk_un (by omega)).trans (rfl)).trans (hw z hz)) (p := 0) (pk_us) (by omega) ((pk_un (by omega)).trans (hn)) hn2 hT0) k_707 k_709 kp_12 k_7 k_710 hdX6_readsTransfer ⟨rfl, rfl⟩ ⟨Nat.le_of_ble_eq_true rfl, Nat.le_of_ble_eq_true rfl⟩ (by omega) rfl rfl rfl rfl (Nat.le_of_ble_eq_true rfl) dX6_faultOf_6 (fun z5 u4 hq5 => ?_)
  obtain ⟨rfl, g4a, g4b, g4c, g4d, g4e, g4f⟩ := hq5
  refine zr_istoren X [1, 0] [(0, .ref (ad (0))), (1, .int (nI (1)))] dX6_faultOf_9 (by decide) rfl ?_
  refine zr_forM X (K) (fun i u => u 2452 = nI (E0 i) ∧ ∀ x, x ≠ 2452 → (x < 2543 ∨ 2547 ≤ x) → u x = μ x) (fun i => [(0, .ref (ad (0))), (1, .int (nI (1)))]) [] (⟨g4a, fun x hx1 hx2 => (g4f _ (by omega) (by omega)).trans ((pk_un (by omega)).trans (rfl))⟩) rfl ?_ ?_
  · intro u9 hg9
    have hl := (zsT_len (ch.2.1 K (Nat.le_refl _))).2
    refine zr_iloadn X 1 dX6_faultOf_10 rfl ?_
    refine zr_if_eq X 50 dX6_faultOf_11 (by decide) (fun q => absurd q (nI_ne0 (by omega) (by omega))) (fun _ => ?_)
    refine zr_aloadn X 0 dX6_faultOf_14 rfl ?_
    refine zr_get X (ci := 6) (q := 9) zI (.int (nI ((E0 (K))))) dX6_faultOf_15 (by omega) rfl rfl inX6 (by decide) rfl (congrArg Value.int (hg9.1)) rfl k_548 ?_
    refine zr_aloadn X 0 dX6_faultOf_18 rfl ?_
    refine zr_get X (ci := 6) (q := 4) zI (.int (nI (n))) dX6_faultOf_19 (by omega) rfl rfl inX6 (by decide) rfl (congrArg Value.int ((hg9.2 _ (by omega) (by omega)).trans (hn))) rfl k_543 ?_
    refine zr_icmp_ge X 50 dX6_faultOf_22 (by decide) (fun _ => ?_) (fun q => absurd (zq_le (by omega) (by omega)) q)
    refine zr_iloadn X 1 dX6_faultOf_50 rfl ?_
    refine zr_if_eq X 58 dX6_faultOf_51 (by decide) (fun q => absurd q (nI_ne0 (by omega) (by omega))) (fun _ => ?_)
    refine zr_iconst X (-1) dX6_faultOf_54 (by decide +kernel) ?_
    refine zr_goto X 62 dX6_faultOf_55 (by decide) ?_
    exact zr_iret X dX6_faultOf_62 ⟨rfl, fun x hx1 hx2 => (hg9.2 _ (by omega) (by omega)).trans (rfl)⟩
  · intro i u23 hi hg23 ih10
    have F7 := (ch.2.2 i hi).1
    have hlt := F7.1
    have hS := (ch.2.2 i hi).2
    have hT := ch.2.1 (i + 1) (by omega)
    rw [hS] at hT
    refine zr_iloadn X 1 dX6_faultOf_10 rfl ?_
    refine zr_if_eq X 50 dX6_faultOf_11 (by decide) (fun q => absurd q (nI_ne0 (by omega) (by omega))) (fun _ => ?_)
    refine zr_aloadn X 0 dX6_faultOf_14 rfl ?_
    refine zr_get X (ci := 6) (q := 9) zI (.int (nI ((E0 (i))))) dX6_faultOf_15 (by omega) rfl rfl inX6 (by decide) rfl (congrArg Value.int (hg23.1)) rfl k_548 ?_
    refine zr_aloadn X 0 dX6_faultOf_18 rfl ?_
    refine zr_get X (ci := 6) (q := 4) zI (.int (nI (n))) dX6_faultOf_19 (by omega) rfl rfl inX6 (by decide) rfl (congrArg Value.int ((hg23.2 _ (by omega) (by omega)).trans (hn))) rfl k_543 ?_
    refine zr_icmp_ge X 50 dX6_faultOf_22 (by decide) (fun q => absurd q (nI_ge (by omega) (by omega))) (fun _ => ?_)
    refine zr_aloadn X 0 dX6_faultOf_25 rfl ?_
    refine zr_bipush X (nI (59)) dX6_faultOf_26 (by decide +kernel) ?_
    refine zr_dVi (C := RX6) (ci := 6) [.int (nI (59))] [] X (zK_ok A D tc tF tL tM) (c_sign_t E u23 (fun z hz => ((hg23.2 _ (by omega) (by omega)).trans (rfl)).trans (hw z hz)) (p := (E0 (i))) (hg23.1) (by omega) ((hg23.2 _ (by omega) (by omega)).trans (hn)) hn2 (c := 59) (by omega) (by omega) F7) k_719 k_721 kp_15 k_7 k_722 hdX6_sign ⟨rfl, rfl⟩ ⟨Nat.le_of_ble_eq_true rfl, Nat.le_of_ble_eq_true rfl⟩ (by omega) rfl rfl rfl rfl (Nat.le_of_ble_eq_true rfl) dX6_faultOf_28 ?_
    refine zr_if_eq X 45 dX6_faultOf_31 (by decide) (fun q => absurd q (nI_ne0 (by omega) (by omega))) (fun _ => ?_)
    refine zr_aloadn X 0 dX6_faultOf_34 rfl ?_
    refine zr_cVi (C := RX6) (ci := 6) [] [] X (zK_ok A D tc tF tL tM) (c_reads_T E (upd u23 (2452) (nI ((E0 (i)) + 1))) (fun z hz => ((pk_un (by omega)).trans (((hg23.2 _ (by omega) (by omega)).trans (rfl)))).trans (hw z hz)) (p := (E0 (i)) + 1) (pk_us) (by omega) ((pk_un (by omega)).trans (((hg23.2 _ (by omega) (by omega)).trans (hn)))) hn2 hT) k_707 k_709 kp_12 k_7 k_710 hdX6_readsTransfer ⟨rfl, rfl⟩ ⟨Nat.le_of_ble_eq_true rfl, Nat.le_of_ble_eq_true rfl⟩ (by omega) rfl rfl rfl rfl (Nat.le_of_ble_eq_true rfl) dX6_faultOf_35 (fun z42 u41 hq42 => ?_)
    obtain ⟨rfl, g41a, g41b, g41c, g41d, g41e, g41f⟩ := hq42
    refine zr_if_eq X 45 dX6_faultOf_38 (by decide) (fun q => absurd q (nI_ne0 (by omega) (by omega))) (fun _ => ?_)
    refine zr_iconst X (nI (1)) dX6_faultOf_41 (by decide +kernel) ?_
    refine zr_goto X 46 dX6_faultOf_42 (by decide) ?_
    refine zr_istoren X [1, 0] [(0, .ref (ad (0))), (1, .int (nI (1)))] dX6_faultOf_46 (by decide) rfl ?_
    refine zr_goto X 10 dX6_faultOf_47 (by decide) ?_
    exact ih10 _ ⟨g41a, fun x hx1 hx2 => (g41f _ (by omega) (by omega)).trans ((pk_un (by omega)).trans (((hg23.2 _ (by omega) (by omega)).trans (rfl))))⟩

