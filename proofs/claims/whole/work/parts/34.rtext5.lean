theorem zMi_post {l : Launch} {y : MethodName} {cc : ByteArray} {nL : Nat} {ret : Option FieldType} {rm : Room} {K : State → Heap → Prop} {A : Nat → Prop} {D : va_G} {cl : List vw_C} {tc : Nat → ClassId} {ad : Nat → Nat} {N : Nat} {sh : Nat → ZS} {av : List Value} {μ : Nat → Int32} {post post1 : Int32 → (Nat → Int32) → Prop} (h : zMi l y cc nL ret rm K A D cl tc ad N sh av μ post) (hp : ∀ r u, post r u → post1 r u) : zMi l y cc nL ret rm K A D cl tc ad N sh av μ post1 := by
  unfold zMi Met at h ⊢
  exact MetFree.mono h (fun _ _ h => h) (fun _ _ _ _ _ h => h) (fun a s o t _ q => by
    obtain ⟨⟨⟨r, u, h1, h2, h3⟩, h4⟩, h5⟩ := q
    exact ⟨⟨⟨r, u, h1, hp r u h2, h3⟩, h4⟩, h5⟩)
theorem zgr_cong {M G : Nat → Int32} {A B V T : Nat → Nat} (h : ∀ x, x < 349 → M x = G x) : ∀ i, (∀ j, j < i → A j < 8 ∧ B j < 8 ∧ V j ≤ 19) → ∀ x, x < 349 → zgr M A B V T i x = zgr G A B V T i x
  | 0, _, x, hx => h x hx
  | i + 1, hb, x, hx => by
    have ih := zgr_cong (A := A) (B := B) (V := V) (T := T) h i (fun j hj => hb j (by omega))
    have hi := hb i (by omega)
    show zrw _ _ _ _ _ x = zrw _ _ _ _ _ x
    unfold zrw
    rw [ih (32 * A i + V i + 7) (by omega), ih (32 * B i + V i + 7) (by omega)]
    exact zupd_2 (ih x hx)
theorem zok_cong {M G : Nat → Int32} {A B V T : Nat → Nat} {c : Nat} (h8 : c ≤ 8) (h : ∀ x, x < 349 → M x = G x) {n : Nat} (ok : ∀ i, i < n → zok1 (zgr G A B V T i) c (A i) (B i) (V i) (T i)) : ∀ i, i < n → zok1 (zgr M A B V T i) c (A i) (B i) (V i) (T i) := by
  intro i hi
  obtain ⟨h1, h2, h3, h4, h5⟩ := ok i hi
  refine ⟨h1, h2, h3, h4, ?_⟩
  rw [zgr_cong h i (fun j hj => ⟨by have := (ok j (by omega)).1; omega, by have := (ok j (by omega)).2.1; omega, (ok j (by omega)).2.2.1⟩) _ (by omega)]
  exact h5
/-- the error of a transfer that can't be made -/
def zerr (G : Nat → Int32) (c a b v t : Nat) : Int32 := if a < c then (if b < c then (if v ≤ 19 then (if a = b then -2 else if nI t ≤ G (32 * a + v + 7) then nI 0 else -4) else -1) else -1) else -1
theorem zerr_neg {G : Nat → Int32} {c a b v t : Nat} (h : ¬ zok1 G c a b v t) : ¬ 0 ≤ zerr G c a b v t := by
  unfold zerr
  split
  · split
    · split
      · split
        · decide
        · split
          · next h1 h2 h3 h4 h5 => exact absurd ⟨h1, h2, h3, h4, h5⟩ h
          · decide
      · decide
    · decide
  · decide
theorem zerr_ne {G : Nat → Int32} {c a b v t : Nat} (h : ¬ zok1 G c a b v t) : ¬ zerr G c a b v t = 0 := fun q => zerr_neg h (by rw [q]; decide)
theorem zerr_cong {M G : Nat → Int32} {c a b v t : Nat} (h8 : c ≤ 8) (h : ∀ x, x < 349 → M x = G x) : zerr M c a b v t = zerr G c a b v t := by
  unfold zerr
  by_cases h1 : a < c
  · by_cases h3 : v ≤ 19
    · rw [h (32 * a + v + 7) (by omega)]
    · simp only [if_neg h3]
  · simp only [if_neg h1]
theorem c_tOn_ok {l : Launch} {D : va_G} {tc : Nat → ClassId} {ad : Nat → Nat} {A : Nat → Prop} {tF tL tM : Nat} (E : zN 6 A ad) (μ : Nat → Int32) {w : Nat → Int32} (hw : ∀ q, q < 60 → μ (q + 2460) = w q) {n : Nat} (hn : μ 2447 = nI n) (hn2 : n ≤ 60) {c : Nat} (hc : μ 1 = nI c) (h8 : c ≤ 8) {K : Nat} {S E0 A0 B0 V0 T0 : Nat → Nat} (ch : zch w n S E0 A0 B0 V0 T0 K) (hEK : E0 K = n) (hS1 : S (K + 1) = n + 1) {G : Nat → Int32} (hG : ∀ x, x < 349 → μ x = G x) (ok : ∀ i, i < K + 1 → zok1 (zgr G A0 B0 V0 T0 i) c (A0 i) (B0 i) (V0 i) (T0 i)) : zMi l yX6_transferOn cX6_transferOn 4 (some .int) (zrm 4) (zK A D tc tF tL tM) A D vwCl tc ad 6 shR [.ref (ad (0))] μ (fun r u => r = nI (K + 1) ∧ (∀ x, x < 349 → u x = zgr G A0 B0 V0 T0 (K + 1) x) ∧ ∀ x, 349 ≤ x → x ≠ 2452 → (x < 2543 ∨ 2547 ≤ x) → u x = μ x) := by
  have h : _ := c_transferOn_ok (D := D) (tc := tc) (l := l) (tF := tF) (tL := tL) (tM := tM) E μ hw hn hn2 hc h8 ch hEK hS1 (zok_cong h8 hG ok)
  refine zMi_post h ?_
  intro r u hq
  obtain ⟨rfl, g⟩ := hq
  refine ⟨rfl, fun x hx => ?_, fun x hx h1 h2 => ?_⟩
  · rw [g x (by omega) (by omega)]
    exact zgr_cong hG _ (fun j hj => ⟨by have := (ok j (by omega)).1; omega, by have := (ok j (by omega)).2.1; omega, (ok j (by omega)).2.2.1⟩) x hx
  · rw [g x h1 h2]
    exact zgr_hi (L := 349) hx _ (fun j hj => by obtain ⟨k1, k2, k3, _, _⟩ := ok j (by omega); exact ⟨by omega, by omega⟩)
theorem c_tOn_er {l : Launch} {D : va_G} {tc : Nat → ClassId} {ad : Nat → Nat} {A : Nat → Prop} {tF tL tM : Nat} (E : zN 6 A ad) (μ : Nat → Int32) {w : Nat → Int32} (hw : ∀ q, q < 60 → μ (q + 2460) = w q) {n : Nat} (hn : μ 2447 = nI n) (hn2 : n ≤ 60) {c : Nat} (hc : μ 1 = nI c) (h8 : c ≤ 8) {K : Nat} {S E0 A0 B0 V0 T0 : Nat → Nat} (ch : zch w n S E0 A0 B0 V0 T0 K) (hEK : E0 K = n) (hS1 : S (K + 1) = n + 1) {G : Nat → Int32} (hG : ∀ x, x < 349 → μ x = G x) {e : Nat} (he : e ≤ K) (ok : ∀ i, i < e → zok1 (zgr G A0 B0 V0 T0 i) c (A0 i) (B0 i) (V0 i) (T0 i)) (hno : ¬ zok1 (zgr G A0 B0 V0 T0 e) c (A0 e) (B0 e) (V0 e) (T0 e)) : zMi l yX6_transferOn cX6_transferOn 4 (some .int) (zrm 4) (zK A D tc tF tL tM) A D vwCl tc ad 6 shR [.ref (ad (0))] μ (fun r u => r = zerr (zgr G A0 B0 V0 T0 e) c (A0 e) (B0 e) (V0 e) (T0 e) ∧ (∀ x, x < 349 → u x = zgr G A0 B0 V0 T0 e x) ∧ ∀ x, 349 ≤ x → x ≠ 2452 → (x < 2543 ∨ 2547 ≤ x) → u x = μ x) := by
  have hb : ∀ j, j < e → A0 j < 8 ∧ B0 j < 8 ∧ V0 j ≤ 19 := fun j hj => ⟨by have := (ok j hj).1; omega, by have := (ok j hj).2.1; omega, (ok j hj).2.2.1⟩
  have ok1 := zok_cong h8 hG ok
  have hE : ∀ z : Int32, z = zerr (zgr μ A0 B0 V0 T0 e) c (A0 e) (B0 e) (V0 e) (T0 e) → ∀ (r : Int32) (u : Nat → Int32), (r = z ∧ ∀ x, x ≠ 2452 → (x < 2543 ∨ 2547 ≤ x) → u x = zgr μ A0 B0 V0 T0 e x) → r = zerr (zgr G A0 B0 V0 T0 e) c (A0 e) (B0 e) (V0 e) (T0 e) ∧ (∀ x, x < 349 → u x = zgr G A0 B0 V0 T0 e x) ∧ ∀ x, 349 ≤ x → x ≠ 2452 → (x < 2543 ∨ 2547 ≤ x) → u x = μ x := by
    intro z hz r u hq
    obtain ⟨rfl, g⟩ := hq
    rw [zerr_cong h8 (zgr_cong hG e hb)] at hz
    refine ⟨hz, fun x hx => ?_, fun x hx h1 h2 => ?_⟩
    · rw [g x (by omega) (by omega)]
      exact zgr_cong hG _ hb x hx
    · rw [g x h1 h2]
      exact zgr_hi (L := 349) hx _ (fun j hj => by obtain ⟨k1, k2, k3⟩ := hb j hj; exact ⟨by omega, by omega⟩)
  by_cases hf : A0 e < c
  · by_cases hf2 : B0 e < c
    · by_cases hv : V0 e ≤ 19
      · by_cases hab : A0 e = B0 e
        · exact zMi_post (c_transferOn_b2 (D := D) (tc := tc) (l := l) (tF := tF) (tL := tL) (tM := tM) E μ hw hn hn2 hc h8 ch hEK hS1 he ok1 hf hf2 hv hab) (hE _ (by unfold zerr; rw [if_pos hf, if_pos hf2, if_pos hv, if_pos hab]))
        · have hle : ¬ nI (T0 e) ≤ zgr μ A0 B0 V0 T0 e (32 * A0 e + V0 e + 7) := by
            rw [zgr_cong hG e hb _ (by omega)]
            exact fun q => hno ⟨hf, hf2, hv, hab, q⟩
          exact zMi_post (c_transferOn_n (D := D) (tc := tc) (l := l) (tF := tF) (tL := tL) (tM := tM) E μ hw hn hn2 hc h8 ch hEK hS1 he ok1 hf hf2 hv hab hle) (hE _ (by unfold zerr; rw [if_pos hf, if_pos hf2, if_pos hv, if_neg hab, if_neg hle]))
      · exact zMi_post (c_transferOn_u3 (D := D) (tc := tc) (l := l) (tF := tF) (tL := tL) (tM := tM) E μ hw hn hn2 hc h8 ch hEK hS1 he ok1 hf hf2 hv) (hE _ (by unfold zerr; rw [if_pos hf, if_pos hf2, if_neg hv]))
    · by_cases hv : V0 e ≤ 19
      · exact zMi_post (c_transferOn_u2t (D := D) (tc := tc) (l := l) (tF := tF) (tL := tL) (tM := tM) E μ hw hn hn2 hc h8 ch hEK hS1 he ok1 hf hf2 hv) (hE _ (by unfold zerr; rw [if_pos hf, if_neg hf2]))
      · exact zMi_post (c_transferOn_u2f (D := D) (tc := tc) (l := l) (tF := tF) (tL := tL) (tM := tM) E μ hw hn hn2 hc h8 ch hEK hS1 he ok1 hf hf2 hv) (hE _ (by unfold zerr; rw [if_pos hf, if_neg hf2]))
  · by_cases hv : V0 e ≤ 19
    · exact zMi_post (c_transferOn_u1t (D := D) (tc := tc) (l := l) (tF := tF) (tL := tL) (tM := tM) E μ hw hn hn2 hc h8 ch hEK hS1 he ok1 hf hv) (hE _ (by unfold zerr; rw [if_neg hf]))
    · exact zMi_post (c_transferOn_u1f (D := D) (tc := tc) (l := l) (tF := tF) (tL := tL) (tM := tM) E μ hw hn hn2 hc h8 ch hEK hS1 he ok1 hf hv) (hE _ (by unfold zerr; rw [if_neg hf]))
theorem zrec_cong {M F : Nat → Int32} {b k x : Nat} (hb : b = 0 ∨ b = 2094) (hk : k ≤ 4) (h : ∀ x, x ≠ 2452 → (x < 2543 ∨ 2547 ≤ x) → M x = F x) (h1 : x ≠ 2452) (h2 : x < 2543 ∨ 2547 ≤ x) : zrec M b k x = zrec F b k x := by
  have hc : ∀ {M F : Nat → Int32} (a b : Nat), a + 349 ≤ 2443 → (∀ x, x ≠ 2452 → (x < 2543 ∨ 2547 ≤ x) → M x = F x) → ∀ x, x ≠ 2452 → (x < 2543 ∨ 2547 ≤ x) → cp M a b x = cp F a b x := by
    intro M F a b ha h x h1 h2
    by_cases q : b ≤ x ∧ x < b + 349
    · rw [cp_in q.1 q.2 rfl, cp_in q.1 q.2 rfl]
      exact h _ (by omega) (by omega)
    · rw [cp_out (by omega), cp_out (by omega)]
      exact h x h1 h2
  have hu : ∀ {M F : Nat → Int32} (p : Nat) (y : Int32), (∀ x, x ≠ 2452 → (x < 2543 ∨ 2547 ≤ x) → M x = F x) → ∀ x, x ≠ 2452 → (x < 2543 ∨ 2547 ≤ x) → upd M p y x = upd F p y x := by
    intro M F p y h x h1 h2
    by_cases q : x = p
    · subst q; rw [pk_us, pk_us]
    · rw [pk_un q, pk_un q]; exact h x h1 h2
  unfold zrec
  split
  · unfold zrecA
    exact hu _ _ (hc b _ (by omega) h) x h1 h2
  · unfold zrecB
    exact hu _ _ (hc b _ (by omega) (hu _ _ (hc _ _ (by omega) (hc _ _ (by omega) (hc _ _ (by omega) h))))) x h1 h2
set_option maxHeartbeats 4000000 in
set_option maxRecDepth 100000 in
theorem c_readTransfers_a {l : Launch} {D : va_G} {tc : Nat → ClassId} {ad : Nat → Nat} {A : Nat → Prop} {tF tL tM : Nat} (E : zN 6 A ad) (μ : Nat → Int32) {w : Nat → Int32} (hw : ∀ q, q < 60 → μ (q + 2460) = w q) {n : Nat} (hn : μ 2447 = nI n) (hn2 : n ≤ 60) {q : Nat} (hF : zsF w n 0 q)  : zMi l yX6_readTransfers cX6_readTransfers 3 (some .int) (zrm 5) (zK A D tc tF tL tM) A D vwCl tc ad 6 shR [.ref (ad (0))] μ (fun r u => r = -100 - nI q ∧ (∀ x, x ≠ 2452 → (x < 2543 ∨ 2547 ≤ x) → u x = μ x)) := by
  refine zM_of RX6 [(0, .ref (ad (0)))] (zK_ok A D tc tF tL tM) E.1 E.2 owR_ok (by decide +kernel) rfl (Nat.le_of_ble_eq_true rfl) rfl ?_
  intro pP eE sS mM aS bL mT cO X
  have hq := zsF_le hF (by omega)
  refine zr_aloadn X 0 dX6_readTransfers_0 rfl ?_
  refine zr_cVi (C := RX6) (ci := 6) [] [] X (zK_ok A D tc tF tL tM) (c_faultOf_a E μ hw (hn) hn2 hF) k_703 k_705 kp_11 k_7 k_706 hdX6_faultOf ⟨rfl, rfl⟩ ⟨Nat.le_of_ble_eq_true rfl, Nat.le_of_ble_eq_true rfl⟩ (by omega) rfl rfl rfl rfl (Nat.le_of_ble_eq_true rfl) dX6_readTransfers_1 (fun z2 u1 hq2 => ?_)
  obtain ⟨rfl, g1⟩ := hq2
  refine zr_istoren X [1, 0] [(0, .ref (ad (0))), (1, .int (nI (q)))] dX6_readTransfers_4 (by decide) rfl ?_
  refine zr_iloadn X 1 dX6_readTransfers_5 rfl ?_
  refine zr_if_lt X 14 dX6_readTransfers_6 (by decide) (fun q => absurd q (nI_pos (by omega))) (fun _ => ?_)
  refine zr_bipush X (-100) dX6_readTransfers_9 (by decide +kernel) ?_
  refine zr_iloadn X 1 dX6_readTransfers_11 rfl ?_
  refine zr_isub X ((-100) - (nI (q))) dX6_readTransfers_12 rfl ?_
  exact zr_iret X dX6_readTransfers_13 ⟨rfl, fun x hx1 hx2 => (g1 _ (by omega) (by omega)).trans (rfl)⟩

set_option maxHeartbeats 4000000 in
set_option maxRecDepth 100000 in
theorem c_readTransfers_b {l : Launch} {D : va_G} {tc : Nat → ClassId} {ad : Nat → Nat} {A : Nat → Prop} {tF tL tM : Nat} (E : zN 6 A ad) (μ : Nat → Int32) {w : Nat → Int32} (hw : ∀ q, q < 60 → μ (q + 2460) = w q) {n : Nat} (hn : μ 2447 = nI n) (hn2 : n ≤ 60) {S E0 A0 B0 V0 T0 : Nat → Nat} {K : Nat} (ch : zch w n S E0 A0 B0 V0 T0 K) (F7 : zis w n 59 (E0 K)) {q : Nat} (hF : zsF w n (E0 K + 1) q)  : zMi l yX6_readTransfers cX6_readTransfers 3 (some .int) (zrm 5) (zK A D tc tF tL tM) A D vwCl tc ad 6 shR [.ref (ad (0))] μ (fun r u => r = -100 - nI q ∧ (∀ x, x ≠ 2452 → (x < 2543 ∨ 2547 ≤ x) → u x = μ x)) := by
  refine zM_of RX6 [(0, .ref (ad (0)))] (zK_ok A D tc tF tL tM) E.1 E.2 owR_ok (by decide +kernel) rfl (Nat.le_of_ble_eq_true rfl) rfl ?_
  intro pP eE sS mM aS bL mT cO X
  have hq := zsF_le hF F7.1
  refine zr_aloadn X 0 dX6_readTransfers_0 rfl ?_
  refine zr_cVi (C := RX6) (ci := 6) [] [] X (zK_ok A D tc tF tL tM) (c_faultOf_b E μ hw (hn) hn2 ch F7 hF) k_703 k_705 kp_11 k_7 k_706 hdX6_faultOf ⟨rfl, rfl⟩ ⟨Nat.le_of_ble_eq_true rfl, Nat.le_of_ble_eq_true rfl⟩ (by omega) rfl rfl rfl rfl (Nat.le_of_ble_eq_true rfl) dX6_readTransfers_1 (fun z2 u1 hq2 => ?_)
  obtain ⟨rfl, g1⟩ := hq2
  refine zr_istoren X [1, 0] [(0, .ref (ad (0))), (1, .int (nI (q)))] dX6_readTransfers_4 (by decide) rfl ?_
  refine zr_iloadn X 1 dX6_readTransfers_5 rfl ?_
  refine zr_if_lt X 14 dX6_readTransfers_6 (by decide) (fun q => absurd q (nI_pos (by omega))) (fun _ => ?_)
  refine zr_bipush X (-100) dX6_readTransfers_9 (by decide +kernel) ?_
  refine zr_iloadn X 1 dX6_readTransfers_11 rfl ?_
  refine zr_isub X ((-100) - (nI (q))) dX6_readTransfers_12 rfl ?_
  exact zr_iret X dX6_readTransfers_13 ⟨rfl, fun x hx1 hx2 => (g1 _ (by omega) (by omega)).trans (rfl)⟩

set_option maxHeartbeats 4000000 in
set_option maxRecDepth 100000 in
theorem c_readTransfers_c {l : Launch} {D : va_G} {tc : Nat → ClassId} {ad : Nat → Nat} {A : Nat → Prop} {tF tL tM : Nat} (E : zN 6 A ad) (μ : Nat → Int32) {w : Nat → Int32} (hw : ∀ q, q < 60 → μ (q + 2460) = w q) {n : Nat} (hn : μ 2447 = nI n) (hn2 : n ≤ 60) {S E0 A0 B0 V0 T0 : Nat → Nat} {K : Nat} (ch : zch w n S E0 A0 B0 V0 T0 K) (hE : E0 K ≠ n) (F7 : ¬ zis w n 59 (E0 K))  : zMi l yX6_readTransfers cX6_readTransfers 3 (some .int) (zrm 5) (zK A D tc tF tL tM) A D vwCl tc ad 6 shR [.ref (ad (0))] μ (fun r u => r = -100 - nI (E0 K) ∧ (∀ x, x ≠ 2452 → (x < 2543 ∨ 2547 ≤ x) → u x = μ x)) := by
  refine zM_of RX6 [(0, .ref (ad (0)))] (zK_ok A D tc tF tL tM) E.1 E.2 owR_ok (by decide +kernel) rfl (Nat.le_of_ble_eq_true rfl) rfl ?_
  intro pP eE sS mM aS bL mT cO X
  have hq := (zsT_len (ch.2.1 K (Nat.le_refl _))).2
  refine zr_aloadn X 0 dX6_readTransfers_0 rfl ?_
  refine zr_cVi (C := RX6) (ci := 6) [] [] X (zK_ok A D tc tF tL tM) (c_faultOf_c E μ hw (hn) hn2 ch hE F7) k_703 k_705 kp_11 k_7 k_706 hdX6_faultOf ⟨rfl, rfl⟩ ⟨Nat.le_of_ble_eq_true rfl, Nat.le_of_ble_eq_true rfl⟩ (by omega) rfl rfl rfl rfl (Nat.le_of_ble_eq_true rfl) dX6_readTransfers_1 (fun z2 u1 hq2 => ?_)
  obtain ⟨rfl, g1⟩ := hq2
  refine zr_istoren X [1, 0] [(0, .ref (ad (0))), (1, .int (nI ((E0 K))))] dX6_readTransfers_4 (by decide) rfl ?_
  refine zr_iloadn X 1 dX6_readTransfers_5 rfl ?_
  refine zr_if_lt X 14 dX6_readTransfers_6 (by decide) (fun q => absurd q (nI_pos (by omega))) (fun _ => ?_)
  refine zr_bipush X (-100) dX6_readTransfers_9 (by decide +kernel) ?_
  refine zr_iloadn X 1 dX6_readTransfers_11 rfl ?_
  refine zr_isub X ((-100) - (nI ((E0 K)))) dX6_readTransfers_12 rfl ?_
  exact zr_iret X dX6_readTransfers_13 ⟨rfl, fun x hx1 hx2 => (g1 _ (by omega) (by omega)).trans (rfl)⟩

theorem z_cpc {M F : Nat → Int32} (h : ∀ x, x ≠ 2452 → (x < 2543 ∨ 2547 ≤ x) → M x = F x) : ∀ x, x ≠ 2452 → (x < 2543 ∨ 2547 ≤ x) → cp M 0 2094 x = cp F 0 2094 x := by
  intro x h1 h2
  by_cases q : 2094 ≤ x ∧ x < 2094 + 349
  · rw [cp_in q.1 q.2 rfl, cp_in q.1 q.2 rfl]
    exact h _ (by omega) (by omega)
  · rw [cp_out (by omega), cp_out (by omega)]
    exact h x h1 h2
set_option maxHeartbeats 4000000 in
set_option maxRecDepth 100000 in
theorem c_readTransfers_ok {l : Launch} {D : va_G} {tc : Nat → ClassId} {ad : Nat → Nat} {A : Nat → Prop} {tF tL tM : Nat} (E : zN 6 A ad) (μ : Nat → Int32) {w : Nat → Int32} (hw : ∀ q, q < 60 → μ (q + 2460) = w q) {n : Nat} (hn : μ 2447 = nI n) (hn2 : n ≤ 60) {c k : Nat} (hc : μ 1 = nI c) (h8 : c ≤ 8) (hk : μ 2444 = nI k) (hk4 : k ≤ 4) {K : Nat} {S E0 A0 B0 V0 T0 : Nat → Nat} (ch : zch w n S E0 A0 B0 V0 T0 K) (hEK : E0 K = n) (hS1 : S (K + 1) = n + 1) {G : Nat → Int32} (hG : ∀ x, x < 349 → μ x = G x) (ok : ∀ i, i < K + 1 → zok1 (zgr G A0 B0 V0 T0 i) c (A0 i) (B0 i) (V0 i) (T0 i))  : zMi l yX6_readTransfers cX6_readTransfers 3 (some .int) (zrm 5) (zK A D tc tF tL tM) A D vwCl tc ad 6 shR [.ref (ad (0))] μ (fun r u => r = nI (K + 1) ∧ ∀ x, x ≠ 2452 → (x < 2543 ∨ 2547 ≤ x) → u x = zrec (fun y => if y < 349 then zgr G A0 B0 V0 T0 (K + 1) y else cp μ 0 2094 y) 2094 k x) := by
  refine zM_of RX6 [(0, .ref (ad (0)))] (zK_ok A D tc tF tL tM) E.1 E.2 owR_ok (by decide +kernel) rfl (Nat.le_of_ble_eq_true rfl) rfl ?_
  intro pP eE sS mM aS bL mT cO X
  refine zr_aloadn X 0 dX6_readTransfers_0 rfl ?_
  refine zr_cVi (C := RX6) (ci := 6) [] [] X (zK_ok A D tc tF tL tM) (c_faultOf_d E μ hw (hn) hn2 ch hEK) k_703 k_705 kp_11 k_7 k_706 hdX6_faultOf ⟨rfl, rfl⟩ ⟨Nat.le_of_ble_eq_true rfl, Nat.le_of_ble_eq_true rfl⟩ (by omega) rfl rfl rfl rfl (Nat.le_of_ble_eq_true rfl) dX6_readTransfers_1 (fun z2 u1 hq2 => ?_)
  obtain ⟨rfl, g1⟩ := hq2
  refine zr_istoren X [1, 0] [(0, .ref (ad (0))), (1, .int (-1))] dX6_readTransfers_4 (by decide) rfl ?_
  refine zr_iloadn X 1 dX6_readTransfers_5 rfl ?_
  refine zr_if_lt X 14 dX6_readTransfers_6 (by decide) (fun _ => ?_) (fun q => absurd (by decide) q)
  refine zr_aloadn X 0 dX6_readTransfers_14 rfl ?_
  refine zr_iconst X (nI (0)) dX6_readTransfers_15 (by decide +kernel) ?_
  refine zr_sipush X (nI (2094)) dX6_readTransfers_16 (by decide +kernel) ?_
  refine zr_dVv (C := RX6) (ci := 6) [.int (nI (0)), .int (nI (2094))] [] X (zK_ok A D tc tF tL tM) (c_copy E u1 (by omega) (by omega) (by omega)) k_577 k_579 kp_0 k_7 k_580 hdX6_copy ⟨rfl, rfl⟩ ⟨Nat.le_of_ble_eq_true rfl, Nat.le_of_ble_eq_true rfl⟩ (by omega) rfl rfl rfl rfl (Nat.le_of_ble_eq_true rfl) dX6_readTransfers_19 ?_
  refine zr_aloadn X 0 dX6_readTransfers_22 rfl ?_
  refine zr_cVi (C := RX6) (ci := 6) [] [] X (zK_ok A D tc tF tL tM) (c_tOn_ok E (cp u1 (0) (2094)) (fun z hz => ((cp_out (by omega)).trans ((g1 _ (by omega) (by omega)).trans (rfl))).trans (hw z hz)) ((cp_out (by omega)).trans ((g1 _ (by omega) (by omega)).trans (hn))) hn2 ((cp_out (by omega)).trans ((g1 _ (by omega) (by omega)).trans (hc))) h8 ch hEK hS1 (G := G) (fun x hx => ((cp_out (by omega)).trans ((g1 _ (by omega) (by omega)).trans (rfl))).trans (hG x hx)) ok) k_723 k_725 kp_16 k_7 k_726 hdX6_transferOn ⟨rfl, rfl⟩ ⟨Nat.le_of_ble_eq_true rfl, Nat.le_of_ble_eq_true rfl⟩ (by omega) rfl rfl rfl rfl (Nat.le_of_ble_eq_true rfl) dX6_readTransfers_23 (fun z12 u11 hq12 => ?_)
  obtain ⟨rfl, g11a, g11b⟩ := hq12
  refine zr_istoren X [1, 2, 0] [(0, .ref (ad (0))), (1, .int (-1)), (2, .int (nI (K + 1)))] dX6_readTransfers_26 (by decide) rfl ?_
  refine zr_iloadn X 2 dX6_readTransfers_27 rfl ?_
  refine zr_if_ge X 42 dX6_readTransfers_28 (by decide) (fun _ => ?_) (fun q => absurd (nI_pos' (by have := zch_K ch hn2; omega)) q)
  refine zr_aloadn X 0 dX6_readTransfers_42 rfl ?_
  refine zr_sipush X (nI (2094)) dX6_readTransfers_43 (by decide +kernel) ?_
  refine zr_dVv (C := RX6) (ci := 6) [.int (nI (2094))] [] X (zK_ok A D tc tF tL tM) (c_record E u11 ((g11b _ (by omega) (by omega) (by omega)).trans ((cp_out (by omega)).trans ((g1 _ (by omega) (by omega)).trans (hk)))) hk4 (by omega)) k_589 k_591 kp_1 k_7 k_592 hdX6_record ⟨rfl, rfl⟩ ⟨Nat.le_of_ble_eq_true rfl, Nat.le_of_ble_eq_true rfl⟩ (by omega) rfl rfl rfl rfl (Nat.le_of_ble_eq_true rfl) dX6_readTransfers_46 ?_
  refine zr_iloadn X 2 dX6_readTransfers_49 rfl ?_
  exact zr_iret X dX6_readTransfers_50 ⟨rfl, fun x hx1 hx2 => (zrec_cong (by omega) hk4 (F := fun y => if y < 349 then zgr G A0 B0 V0 T0 (K + 1) y else cp μ 0 2094 y) (fun x hx1 hx2 => by by_cases q : x < 349; rw [if_pos q]; exact g11a x q; rw [if_neg q, g11b x (by omega) hx1 hx2]; exact z_cpc g1 x hx1 hx2) hx1 hx2)⟩

set_option maxHeartbeats 4000000 in
set_option maxRecDepth 100000 in
theorem c_readTransfers_er {l : Launch} {D : va_G} {tc : Nat → ClassId} {ad : Nat → Nat} {A : Nat → Prop} {tF tL tM : Nat} (E : zN 6 A ad) (μ : Nat → Int32) {w : Nat → Int32} (hw : ∀ q, q < 60 → μ (q + 2460) = w q) {n : Nat} (hn : μ 2447 = nI n) (hn2 : n ≤ 60) {c k : Nat} (hc : μ 1 = nI c) (h8 : c ≤ 8) (hk : μ 2444 = nI k) (hk4 : k ≤ 4) {K : Nat} {S E0 A0 B0 V0 T0 : Nat → Nat} (ch : zch w n S E0 A0 B0 V0 T0 K) (hEK : E0 K = n) (hS1 : S (K + 1) = n + 1) {G : Nat → Int32} (hG : ∀ x, x < 349 → μ x = G x) {e : Nat} (he : e ≤ K) (ok : ∀ i, i < e → zok1 (zgr G A0 B0 V0 T0 i) c (A0 i) (B0 i) (V0 i) (T0 i)) (hno : ¬ zok1 (zgr G A0 B0 V0 T0 e) c (A0 e) (B0 e) (V0 e) (T0 e))  : zMi l yX6_readTransfers cX6_readTransfers 3 (some .int) (zrm 5) (zK A D tc tF tL tM) A D vwCl tc ad 6 shR [.ref (ad (0))] μ (fun r u => r = zerr (zgr G A0 B0 V0 T0 e) c (A0 e) (B0 e) (V0 e) (T0 e) ∧ ∀ x, (x < 2094 ∨ 2443 ≤ x) → x ≠ 2452 → (x < 2543 ∨ 2547 ≤ x) → u x = μ x) := by
  refine zM_of RX6 [(0, .ref (ad (0)))] (zK_ok A D tc tF tL tM) E.1 E.2 owR_ok (by decide +kernel) rfl (Nat.le_of_ble_eq_true rfl) rfl ?_
  intro pP eE sS mM aS bL mT cO X
  refine zr_aloadn X 0 dX6_readTransfers_0 rfl ?_
  refine zr_cVi (C := RX6) (ci := 6) [] [] X (zK_ok A D tc tF tL tM) (c_faultOf_d E μ hw (hn) hn2 ch hEK) k_703 k_705 kp_11 k_7 k_706 hdX6_faultOf ⟨rfl, rfl⟩ ⟨Nat.le_of_ble_eq_true rfl, Nat.le_of_ble_eq_true rfl⟩ (by omega) rfl rfl rfl rfl (Nat.le_of_ble_eq_true rfl) dX6_readTransfers_1 (fun z2 u1 hq2 => ?_)
  obtain ⟨rfl, g1⟩ := hq2
  refine zr_istoren X [1, 0] [(0, .ref (ad (0))), (1, .int (-1))] dX6_readTransfers_4 (by decide) rfl ?_
  refine zr_iloadn X 1 dX6_readTransfers_5 rfl ?_
  refine zr_if_lt X 14 dX6_readTransfers_6 (by decide) (fun _ => ?_) (fun q => absurd (by decide) q)
  refine zr_aloadn X 0 dX6_readTransfers_14 rfl ?_
  refine zr_iconst X (nI (0)) dX6_readTransfers_15 (by decide +kernel) ?_
  refine zr_sipush X (nI (2094)) dX6_readTransfers_16 (by decide +kernel) ?_
  refine zr_dVv (C := RX6) (ci := 6) [.int (nI (0)), .int (nI (2094))] [] X (zK_ok A D tc tF tL tM) (c_copy E u1 (by omega) (by omega) (by omega)) k_577 k_579 kp_0 k_7 k_580 hdX6_copy ⟨rfl, rfl⟩ ⟨Nat.le_of_ble_eq_true rfl, Nat.le_of_ble_eq_true rfl⟩ (by omega) rfl rfl rfl rfl (Nat.le_of_ble_eq_true rfl) dX6_readTransfers_19 ?_
  refine zr_aloadn X 0 dX6_readTransfers_22 rfl ?_
  refine zr_cVi (C := RX6) (ci := 6) [] [] X (zK_ok A D tc tF tL tM) (c_tOn_er E (cp u1 (0) (2094)) (fun z hz => ((cp_out (by omega)).trans ((g1 _ (by omega) (by omega)).trans (rfl))).trans (hw z hz)) ((cp_out (by omega)).trans ((g1 _ (by omega) (by omega)).trans (hn))) hn2 ((cp_out (by omega)).trans ((g1 _ (by omega) (by omega)).trans (hc))) h8 ch hEK hS1 (G := G) (fun x hx => ((cp_out (by omega)).trans ((g1 _ (by omega) (by omega)).trans (rfl))).trans (hG x hx)) he ok hno) k_723 k_725 kp_16 k_7 k_726 hdX6_transferOn ⟨rfl, rfl⟩ ⟨Nat.le_of_ble_eq_true rfl, Nat.le_of_ble_eq_true rfl⟩ (by omega) rfl rfl rfl rfl (Nat.le_of_ble_eq_true rfl) dX6_readTransfers_23 (fun z12 u11 hq12 => ?_)
  obtain ⟨rfl, g11a, g11b⟩ := hq12
  refine zr_istoren X [1, 2, 0] [(0, .ref (ad (0))), (1, .int (-1)), (2, .int (zerr (zgr G A0 B0 V0 T0 e) c (A0 e) (B0 e) (V0 e) (T0 e)))] dX6_readTransfers_26 (by decide) rfl ?_
  refine zr_iloadn X 2 dX6_readTransfers_27 rfl ?_
  refine zr_if_ge X 42 dX6_readTransfers_28 (by decide) (fun q => absurd q (zerr_neg hno)) (fun _ => ?_)
  refine zr_aloadn X 0 dX6_readTransfers_31 rfl ?_
  refine zr_sipush X (nI (2094)) dX6_readTransfers_32 (by decide +kernel) ?_
  refine zr_iconst X (nI (0)) dX6_readTransfers_35 (by decide +kernel) ?_
  refine zr_dVv (C := RX6) (ci := 6) [.int (nI (2094)), .int (nI (0))] [] X (zK_ok A D tc tF tL tM) (c_copy E u11 (by omega) (by omega) (by omega)) k_577 k_579 kp_0 k_7 k_580 hdX6_copy ⟨rfl, rfl⟩ ⟨Nat.le_of_ble_eq_true rfl, Nat.le_of_ble_eq_true rfl⟩ (by omega) rfl rfl rfl rfl (Nat.le_of_ble_eq_true rfl) dX6_readTransfers_36 ?_
  refine zr_goto X 49 dX6_readTransfers_39 (by decide) ?_
  refine zr_iloadn X 2 dX6_readTransfers_49 rfl ?_
  exact zr_iret X dX6_readTransfers_50 ⟨rfl, fun x hx0 hx1 hx2 => by by_cases q : x < 349; rw [cp_in (b := 0) (by omega) (by omega) rfl, g11b _ (by omega) (by omega) (by omega), cp_in (by omega) (by omega) (q := x) (by omega)]; exact g1 x hx1 hx2; rw [cp_out (by omega), g11b x (by omega) hx1 hx2, cp_out (by omega)]; exact g1 x hx1 hx2⟩

