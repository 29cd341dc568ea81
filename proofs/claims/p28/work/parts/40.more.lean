/-! surrender, plan, undo, keep, restore, as the law uses them -/
/-- two layings over the same row are alike -/
def ag0 (g0 : Nat) (M N : Nat → Int32) : Prop := ∀ x, (x < 2459 ∨ g0 + 2480 ≤ x) → M x = N x
theorem ag0_step {g0 f w : Nat} {M N : Nat → Int32} (h : ag0 (g0 + 1) M N) (hg : g0 < 3) (hf : f < 8) : ag0 g0 (cgm M f w g0) (cgm N f w g0) := by
  have ex : cgx M f w g0 = cgx N f w g0 := by
    unfold cgx zcu
    rw [h 2458 (by omega), h (32 * f + g0 + 27) (by omega), h (32 * f + 35) (by omega), h (g0 + 2) (by omega), h (32 * f + g0 + 30) (by omega)]
  intro x hx
  unfold cgm
  rw [ex, h 2458 (by omega)]
  by_cases a : x = 2458
  · subst a; rw [pk_us, pk_us]
  · rw [pk_un a, pk_un a]
    by_cases b : x = g0 + 2480
    · subst b; rw [pk_us, pk_us]
    · rw [pk_un b, pk_un b]; exact h x (by omega)
theorem ag_ctv {f v : Nat} {M N : Nat → Int32} (h : ag0 0 M N) (hv : v < 20) (hf : f < 8) : ag0 0 (ctv M f v) (ctv N f v) := by
  have ex : ztu M f v = ztu N f v := by unfold ztu; rw [h 2458 (by omega), h (32 * f + v + 7) (by omega)]
  obtain ⟨a1, a2, a3, a4, a5, a6⟩ := ctv_at (M := M) (f := f) hv
  obtain ⟨b1, b2, b3, b4, b5, b6⟩ := ctv_at (M := N) (f := f) hv
  rw [ex, h 2458 (by omega)] at a2
  rw [ex, h 2455 (by omega)] at a3
  rw [ex, h 2456 (by omega)] at a4
  rw [ex, h 2457 (by omega), h 2456 (by omega)] at a5
  intro x hx
  by_cases e1 : x = 2458
  · subst e1; rw [a2, b2]
  by_cases e2 : x = 2455
  · subst e2; rw [a3, b3]
  by_cases e3 : x = 2456
  · subst e3; rw [a4, b4]
  by_cases e4 : x = 2457
  · subst e4; rw [a5, b5]
  rw [a6 x (by omega) e2 e3 e4 e1, b6 x (by omega) e2 e3 e4 e1]
  exact h x hx
theorem clay_eq {μ M : Nat → Int32} {f w : Nat} {t : Int32} (h : hM μ M) (hf : f < 8) : ag0 0 (clay M f t w) (clay μ f t w) := by
  have h3 : ag0 3 (upd (upd (upd (upd M 2458 t) 2455 (nI 0)) 2456 (nI 0)) 2457 (-5)) (upd (upd (upd (upd μ 2458 t) 2455 (nI 0)) 2456 (nI 0)) 2457 (-5)) := by
    intro x hx
    by_cases e4 : x = 2457
    · subst e4; rw [pk_us, pk_us]
    rw [pk_un e4, pk_un e4]
    by_cases e3 : x = 2456
    · subst e3; rw [pk_us, pk_us]
    rw [pk_un e3, pk_un e3]
    by_cases e2 : x = 2455
    · subst e2; rw [pk_us, pk_us]
    rw [pk_un e2, pk_un e2]
    by_cases e1 : x = 2458
    · subst e1; rw [pk_us, pk_us]
    rw [pk_un e1, pk_un e1]
    exact h x (by omega)
  have h0 := ag0_step (w := w) (ag0_step (w := w) (ag0_step (w := w) h3 (by omega) hf) (by omega) hf) (by omega) hf
  unfold clay
  have go : ∀ i, i ≤ 20 → ag0 0 (clv (cgm (cgm (cgm (upd (upd (upd (upd M 2458 t) 2455 (nI 0)) 2456 (nI 0)) 2457 (-5)) f w 2) f w 1) f w 0) f w i) (clv (cgm (cgm (cgm (upd (upd (upd (upd μ 2458 t) 2455 (nI 0)) 2456 (nI 0)) 2457 (-5)) f w 2) f w 1) f w 0) f w i) := by
    intro i
    induction i with
    | zero => exact fun _ => h0
    | succ i ih => exact fun hi => ag_ctv (ih (by omega)) (by split <;> omega) hf
  exact go 20 (Nat.le_refl 20)
theorem hM.trans {a b c : Nat → Int32} (h : hM a b) (k : hM b c) : hM a c := fun x hx => (k x hx).trans (h x hx)
theorem clsS_hM {μ M : Nat → Int32} {m c r z : Nat} (S : clsS μ m c r z) (h : hM μ M) : clsS M m c r z := by
  obtain ⟨h1, h2, h3, h4, h5, h6, h7, h8⟩ := S
  exact ⟨(h 0 (by omega)).trans h1, h2, (h 1 (by omega)).trans h3, h4, (h 2452 (by omega)).trans h5, h6, (h 2451 (by omega)).trans h7, h8⟩
theorem hM.eqr {μ M : Nat → Int32} (h : hM μ M) : eqr M μ := fun x hx => h x (by omega)
theorem INV.lay {B : Nat} {μ M : Nat → Int32} (h : INV B μ) (k : hM μ M) : INV B M := h.far (fun x hx => k x (by unfold farC at hx; omega))
theorem w_sur_n {l : Launch} {D : va_G} {tc : Nat → ClassId} {ad : Nat → Nat} {A : Nat → Prop} {tF tL tM : Nat} (E : zN 299 A ad) (μ : Nat → Int32) {m c ro z : Nat} (S : clsS μ m c ro z) {f : Nat} (hf : f < c) {t : Nat} (ht1 : 1 ≤ t) (ht9 : t ≤ 9999) {w : Nat} (hw : w < 3) (h : μ (32 * f + 36) < nI t) : zMi l yX5_surrender cX5_surrender 5 (some .int) (zrm 5) (zK A D tc tF tL tM) A D vwCl tc ad 299 shC [.ref (ad 0), .int (nI f), .int (nI t), .int (nI w)] μ (fun r u => r = -4 ∧ u = μ) := by
  rcases (show w = 0 ∨ w = 1 ∨ w = 2 by omega) with rfl | rfl | rfl
  · exact d_surrender_n0 E μ S hf ht1 ht9 h
  · exact d_surrender_n1 E μ S hf ht1 ht9 h
  · exact d_surrender_n2 E μ S hf ht1 ht9 h
theorem w_sur_m {l : Launch} {D : va_G} {tc : Nat → ClassId} {ad : Nat → Nat} {A : Nat → Prop} {tF tL tM : Nat} (E : zN 299 A ad) (μ : Nat → Int32) {m c ro z : Nat} (S : clsS μ m c ro z) {f : Nat} (hf : f < c) {t : Nat} (ht1 : 1 ≤ t) (ht9 : t ≤ 9999) {w : Nat} (hw : w < 3) (h : ¬ μ (32 * f + 36) < nI t) (h2 : ¬ clay μ f (nI t) w 2458 ≤ 0) : zMi l yX5_surrender cX5_surrender 5 (some .int) (zrm 5) (zK A D tc tF tL tM) A D vwCl tc ad 299 shC [.ref (ad 0), .int (nI f), .int (nI t), .int (nI w)] μ (fun r u => r = -4 ∧ u = clay μ f (nI t) w) := by
  rcases (show w = 0 ∨ w = 1 ∨ w = 2 by omega) with rfl | rfl | rfl
  · exact d_surrender_m0 E μ S hf ht1 ht9 h h2
  · exact d_surrender_m1 E μ S hf ht1 ht9 h h2
  · exact d_surrender_m2 E μ S hf ht1 ht9 h h2
theorem w_sur_ok {l : Launch} {D : va_G} {tc : Nat → ClassId} {ad : Nat → Nat} {A : Nat → Prop} {tF tL tM : Nat} (E : zN 299 A ad) (μ : Nat → Int32) {m c ro z : Nat} (S : clsS μ m c ro z) {f : Nat} (hf : f < c) {t : Nat} (ht1 : 1 ≤ t) (ht9 : t ≤ 9999) {w : Nat} (hw : w < 3) (h : ¬ μ (32 * f + 36) < nI t) (h2 : clay μ f (nI t) w 2458 ≤ 0) : zMi l yX5_surrender cX5_surrender 5 (some .int) (zrm 5) (zK A D tc tF tL tM) A D vwCl tc ad 299 shC [.ref (ad 0), .int (nI f), .int (nI t), .int (nI w)] μ (fun r u => r = (csg (csv (zpush (clay μ f (nI t) w) ro z) f 20) f 3) (32 * f + 36) - nI t ∧ u = srM (zpush (clay μ f (nI t) w) ro z) f t) := by
  rcases (show w = 0 ∨ w = 1 ∨ w = 2 by omega) with rfl | rfl | rfl
  · exact d_surrender_ok0 E μ S hf ht1 ht9 h h2
  · exact d_surrender_ok1 E μ S hf ht1 ht9 h h2
  · exact d_surrender_ok2 E μ S hf ht1 ht9 h h2
def plF (C : Nat → Int32) (i : Nat) : Int32 := match i with
  | 0 => C 2455
  | 1 => C 2480
  | 2 => C 2481
  | 3 => C 2482
  | 4 => C 2456
  | _ => C 2457
theorem plF_0 (C : Nat → Int32) : plF C 0 = C 2455 := rfl
theorem plF_1 (C : Nat → Int32) : plF C 1 = C 2480 := rfl
theorem plF_2 (C : Nat → Int32) : plF C 2 = C 2481 := rfl
theorem plF_3 (C : Nat → Int32) : plF C 3 = C 2482 := rfl
theorem plF_4 (C : Nat → Int32) : plF C 4 = C 2456 := rfl
theorem plF_5 (C : Nat → Int32) : plF C 5 = C 2457 := rfl
theorem w_plan_n {l : Launch} {D : va_G} {tc : Nat → ClassId} {ad : Nat → Nat} {A : Nat → Prop} {tF tL tM : Nat} (E : zN 299 A ad) (μ : Nat → Int32) {m c ro z : Nat} (S : clsS μ m c ro z) {f : Nat} (hf : f < c) {t : Nat} (ht1 : 1 ≤ t) (ht9 : t ≤ 9999) {w : Nat} (hw : w < 3) {i : Nat} (hi : i ≤ 5) (h : ¬ clay μ f (nI t) w 2458 ≤ 0) : zMi l yX5_plan cX5_plan 6 (some .int) (zrm 5) (zK A D tc tF tL tM) A D vwCl tc ad 299 shC [.ref (ad 0), .int (nI f), .int (nI t), .int (nI w), .int (nI i)] μ (fun r u => r = -4 ∧ u = clay μ f (nI t) w) := by
  rcases (show w = 0 ∨ w = 1 ∨ w = 2 by omega) with rfl | rfl | rfl
  · exact d_plan_n0 E μ S hf ht1 ht9 hi h
  · exact d_plan_n1 E μ S hf ht1 ht9 hi h
  · exact d_plan_n2 E μ S hf ht1 ht9 hi h
theorem w_plan_ok {l : Launch} {D : va_G} {tc : Nat → ClassId} {ad : Nat → Nat} {A : Nat → Prop} {tF tL tM : Nat} (E : zN 299 A ad) (μ : Nat → Int32) {m c ro z : Nat} (S : clsS μ m c ro z) {f : Nat} (hf : f < c) {t : Nat} (ht1 : 1 ≤ t) (ht9 : t ≤ 9999) {w : Nat} (hw : w < 3) {i : Nat} (hi : i ≤ 5) (h : clay μ f (nI t) w 2458 ≤ 0) : zMi l yX5_plan cX5_plan 6 (some .int) (zrm 5) (zK A D tc tF tL tM) A D vwCl tc ad 299 shC [.ref (ad 0), .int (nI f), .int (nI t), .int (nI w), .int (nI i)] μ (fun r u => r = plF (clay μ f (nI t) w) i ∧ u = clay μ f (nI t) w) := by
  rcases (show w = 0 ∨ w = 1 ∨ w = 2 by omega) with rfl | rfl | rfl
  · rcases (show i = 0 ∨ i = 1 ∨ i = 2 ∨ i = 3 ∨ i = 4 ∨ i = 5 by omega) with rfl | rfl | rfl | rfl | rfl | rfl
    · exact zM_i (d_plan_0_0 E μ S hf ht1 ht9 h) (plF_0 _).symm
    · exact zM_i (d_plan_0_1 E μ S hf ht1 ht9 h) (plF_1 _).symm
    · exact zM_i (d_plan_0_2 E μ S hf ht1 ht9 h) (plF_2 _).symm
    · exact zM_i (d_plan_0_3 E μ S hf ht1 ht9 h) (plF_3 _).symm
    · exact zM_i (d_plan_0_4 E μ S hf ht1 ht9 h) (plF_4 _).symm
    · exact zM_i (d_plan_0_5 E μ S hf ht1 ht9 h) (plF_5 _).symm
  · rcases (show i = 0 ∨ i = 1 ∨ i = 2 ∨ i = 3 ∨ i = 4 ∨ i = 5 by omega) with rfl | rfl | rfl | rfl | rfl | rfl
    · exact zM_i (d_plan_1_0 E μ S hf ht1 ht9 h) (plF_0 _).symm
    · exact zM_i (d_plan_1_1 E μ S hf ht1 ht9 h) (plF_1 _).symm
    · exact zM_i (d_plan_1_2 E μ S hf ht1 ht9 h) (plF_2 _).symm
    · exact zM_i (d_plan_1_3 E μ S hf ht1 ht9 h) (plF_3 _).symm
    · exact zM_i (d_plan_1_4 E μ S hf ht1 ht9 h) (plF_4 _).symm
    · exact zM_i (d_plan_1_5 E μ S hf ht1 ht9 h) (plF_5 _).symm
  · rcases (show i = 0 ∨ i = 1 ∨ i = 2 ∨ i = 3 ∨ i = 4 ∨ i = 5 by omega) with rfl | rfl | rfl | rfl | rfl | rfl
    · exact zM_i (d_plan_2_0 E μ S hf ht1 ht9 h) (plF_0 _).symm
    · exact zM_i (d_plan_2_1 E μ S hf ht1 ht9 h) (plF_1 _).symm
    · exact zM_i (d_plan_2_2 E μ S hf ht1 ht9 h) (plF_2 _).symm
    · exact zM_i (d_plan_2_3 E μ S hf ht1 ht9 h) (plF_3 _).symm
    · exact zM_i (d_plan_2_4 E μ S hf ht1 ht9 h) (plF_4 _).symm
    · exact zM_i (d_plan_2_5 E μ S hf ht1 ht9 h) (plF_5 _).symm
theorem zM_to {l : Launch} {y : MethodName} {cc : ByteArray} {nL : Nat} {ret : Option FieldType} {rm : Room} {K : State → Heap → Prop} {A : Nat → Prop} {D : va_G} {cl : List vw_C} {tc : Nat → ClassId} {ad : Nat → Nat} {N : Nat} {sh : Nat → ZS} {av : List Value} {μ M : Nat → Int32} {a : Int32} {post : Int32 → (Nat → Int32) → Prop} (h : zMi l y cc nL ret rm K A D cl tc ad N sh av μ (fun r u => r = a ∧ u = M)) (hp : post a M) : zMi l y cc nL ret rm K A D cl tc ad N sh av μ post := zMi_post h (fun r u q => by rw [q.1, q.2]; exact hp)
theorem p_plan_n {l : Launch} {D : va_G} {tc : Nat → ClassId} {ad : Nat → Nat} {A : Nat → Prop} {tF tL tM : Nat} (E : zN 299 A ad) (μ : Nat → Int32) {m c ro z : Nat} (S : clsS μ m c ro z) {f : Nat} (hf : f < c) {t : Nat} (ht1 : 1 ≤ t) (ht9 : t ≤ 9999) {w : Nat} (hw : w < 3) {B b kf : Nat} (hB : B ≤ 600) (I : rowI B μ m c b) (N : SND μ m) (H : hst B μ ro z kf) {M : Nat → Int32} (hMM : hM μ M) {i : Nat} (hi : i ≤ 5) (h : ¬ clay μ f (nI t) w 2458 ≤ 0) : zMi l yX5_plan cX5_plan 6 (some .int) (zrm 5) (zK A D tc tF tL tM) A D vwCl tc ad 299 shC [.ref (ad 0), .int (nI f), .int (nI t), .int (nI w), .int (nI i)] M (fun r u => r = -4 ∧ hM μ u) := by
  have h8 := S.2.2.2.1
  have hf8 : f < 8 := by omega
  have SM := clsS_hM S hMM
  have IM : rowI B M m c b := rowI_cong I (fun x hx => (hMM x (by omega)).symm)
  have NM : SND M m := N.cong (fun x hx => hMM x (by omega))
  have HM : hst B M ro z kf := hst_keep H (Nat.le_refl B) (fun x hx => hMM x (by unfold farC at hx; omega))
  have LM := lay_LAY (w := w) hf8 ht9 (held_0 IM hf8)
  have eC := clay_eq (w := w) (t := nI t) hMM hf8
  exact zM_to (w_plan_n E M SM hf ht1 ht9 hw hi (by rw [eC 2458 (by omega)]; exact h)) ⟨rfl, hMM.trans LM.1⟩
theorem plF_eq {C C' : Nat → Int32} (h : ag0 0 C C') {i : Nat} (hi : i ≤ 5) : plF C i = plF C' i := by
  match i, hi with
  | 0, _ => exact h 2455 (by omega)
  | 1, _ => exact h 2480 (by omega)
  | 2, _ => exact h 2481 (by omega)
  | 3, _ => exact h 2482 (by omega)
  | 4, _ => exact h 2456 (by omega)
  | 5, _ => exact h 2457 (by omega)
  | i + 6, hi => omega
theorem p_plan_ok {l : Launch} {D : va_G} {tc : Nat → ClassId} {ad : Nat → Nat} {A : Nat → Prop} {tF tL tM : Nat} (E : zN 299 A ad) (μ : Nat → Int32) {m c ro z : Nat} (S : clsS μ m c ro z) {f : Nat} (hf : f < c) {t : Nat} (ht1 : 1 ≤ t) (ht9 : t ≤ 9999) {w : Nat} (hw : w < 3) {B b kf : Nat} (hB : B ≤ 600) (I : rowI B μ m c b) (N : SND μ m) (H : hst B μ ro z kf) {M : Nat → Int32} (hMM : hM μ M) {i : Nat} (hi : i ≤ 5) (h : clay μ f (nI t) w 2458 ≤ 0) : zMi l yX5_plan cX5_plan 6 (some .int) (zrm 5) (zK A D tc tF tL tM) A D vwCl tc ad 299 shC [.ref (ad 0), .int (nI f), .int (nI t), .int (nI w), .int (nI i)] M (fun r u => r = plF (clay μ f (nI t) w) i ∧ hM μ u) := by
  have h8 := S.2.2.2.1
  have hf8 : f < 8 := by omega
  have SM := clsS_hM S hMM
  have IM : rowI B M m c b := rowI_cong I (fun x hx => (hMM x (by omega)).symm)
  have NM : SND M m := N.cong (fun x hx => hMM x (by omega))
  have HM : hst B M ro z kf := hst_keep H (Nat.le_refl B) (fun x hx => hMM x (by unfold farC at hx; omega))
  have LM := lay_LAY (w := w) hf8 ht9 (held_0 IM hf8)
  have eC := clay_eq (w := w) (t := nI t) hMM hf8
  exact zM_to (w_plan_ok E M SM hf ht1 ht9 hw hi (by rw [eC 2458 (by omega)]; exact h)) ⟨plF_eq eC hi, hMM.trans LM.1⟩
theorem p_sur_n {l : Launch} {D : va_G} {tc : Nat → ClassId} {ad : Nat → Nat} {A : Nat → Prop} {tF tL tM : Nat} (E : zN 299 A ad) (μ : Nat → Int32) {m c ro z : Nat} (S : clsS μ m c ro z) {f : Nat} (hf : f < c) {t : Nat} (ht1 : 1 ≤ t) (ht9 : t ≤ 9999) {w : Nat} (hw : w < 3) {B b kf : Nat} (hB : B ≤ 600) (I : rowI B μ m c b) (N : SND μ m) (H : hst B μ ro z kf) {M : Nat → Int32} (hMM : hM μ M) (h : μ (32 * f + 36) < nI t) : zMi l yX5_surrender cX5_surrender 5 (some .int) (zrm 5) (zK A D tc tF tL tM) A D vwCl tc ad 299 shC [.ref (ad 0), .int (nI f), .int (nI t), .int (nI w)] M (fun r u => r = -4 ∧ hM μ u) := by
  have h8 := S.2.2.2.1
  have hf8 : f < 8 := by omega
  have SM := clsS_hM S hMM
  have IM : rowI B M m c b := rowI_cong I (fun x hx => (hMM x (by omega)).symm)
  have NM : SND M m := N.cong (fun x hx => hMM x (by omega))
  have HM : hst B M ro z kf := hst_keep H (Nat.le_refl B) (fun x hx => hMM x (by unfold farC at hx; omega))
  have LM := lay_LAY (w := w) hf8 ht9 (held_0 IM hf8)
  have eC := clay_eq (w := w) (t := nI t) hMM hf8
  exact zM_to (w_sur_n E M SM hf ht1 ht9 hw (by rw [hMM _ (by omega)]; exact h)) ⟨rfl, hMM⟩
theorem p_sur_m {l : Launch} {D : va_G} {tc : Nat → ClassId} {ad : Nat → Nat} {A : Nat → Prop} {tF tL tM : Nat} (E : zN 299 A ad) (μ : Nat → Int32) {m c ro z : Nat} (S : clsS μ m c ro z) {f : Nat} (hf : f < c) {t : Nat} (ht1 : 1 ≤ t) (ht9 : t ≤ 9999) {w : Nat} (hw : w < 3) {B b kf : Nat} (hB : B ≤ 600) (I : rowI B μ m c b) (N : SND μ m) (H : hst B μ ro z kf) {M : Nat → Int32} (hMM : hM μ M) (h : ¬ μ (32 * f + 36) < nI t) (h2 : ¬ clay μ f (nI t) w 2458 ≤ 0) : zMi l yX5_surrender cX5_surrender 5 (some .int) (zrm 5) (zK A D tc tF tL tM) A D vwCl tc ad 299 shC [.ref (ad 0), .int (nI f), .int (nI t), .int (nI w)] M (fun r u => r = -4 ∧ hM μ u) := by
  have h8 := S.2.2.2.1
  have hf8 : f < 8 := by omega
  have SM := clsS_hM S hMM
  have IM : rowI B M m c b := rowI_cong I (fun x hx => (hMM x (by omega)).symm)
  have NM : SND M m := N.cong (fun x hx => hMM x (by omega))
  have HM : hst B M ro z kf := hst_keep H (Nat.le_refl B) (fun x hx => hMM x (by unfold farC at hx; omega))
  have LM := lay_LAY (w := w) hf8 ht9 (held_0 IM hf8)
  have eC := clay_eq (w := w) (t := nI t) hMM hf8
  exact zM_to (w_sur_m E M SM hf ht1 ht9 hw (by rw [hMM _ (by omega)]; exact h) (by rw [eC 2458 (by omega)]; exact h2)) ⟨rfl, hMM.trans LM.1⟩
theorem p_sur_ok {l : Launch} {D : va_G} {tc : Nat → ClassId} {ad : Nat → Nat} {A : Nat → Prop} {tF tL tM : Nat} (E : zN 299 A ad) (μ : Nat → Int32) {m c ro z : Nat} (S : clsS μ m c ro z) {f : Nat} (hf : f < c) {t : Nat} (ht1 : 1 ≤ t) (ht9 : t ≤ 9999) {w : Nat} (hw : w < 3) {B b kf : Nat} (hB : B ≤ 600) (I : rowI B μ m c b) (N : SND μ m) (H : hst B μ ro z kf) {M : Nat → Int32} (hMM : hM μ M) (h : ¬ μ (32 * f + 36) < nI t) (h2 : clay μ f (nI t) w 2458 ≤ 0) : zMi l yX5_surrender cX5_surrender 5 (some .int) (zrm 5) (zK A D tc tF tL tM) A D vwCl tc ad 299 shC [.ref (ad 0), .int (nI f), .int (nI t), .int (nI w)] M (fun r u => r = μ (32 * f + 36) - nI t ∧ INV (B + 1) u ∧ KEP μ u ∧ TOP μ u ∧ cnt μ ≤ cnt u ∧ firF u f 0 = firF μ f 0 - clay μ f (nI t) w 2455 ∧ firF u f 7 = firF μ f 7 - nI t ∧ firF u f 10 = firF μ f 10) := by
  have h8 := S.2.2.2.1
  have hf8 : f < 8 := by omega
  have SM := clsS_hM S hMM
  have IM : rowI B M m c b := rowI_cong I (fun x hx => (hMM x (by omega)).symm)
  have NM : SND M m := N.cong (fun x hx => hMM x (by omega))
  have HM : hst B M ro z kf := hst_keep H (Nat.le_refl B) (fun x hx => hMM x (by unfold farC at hx; omega))
  have LM := lay_LAY (w := w) hf8 ht9 (held_0 IM hf8)
  have eC := clay_eq (w := w) (t := nI t) hMM hf8
  obtain ⟨a1, a2, a3⟩ := sur_ok hB SM IM NM HM hf ht1 ht9 LM (by rw [hMM _ (by omega)]; exact h) (by rw [eC 2458 (by omega)]; exact h2)
  rw [hMM (32 * f + 36) (by omega)] at a1 a3
  have eq := hMM.eqr
  obtain ⟨b1, b2, b3⟩ := a2
  rw [eC 2455 (by omega), firF_eq eq hf8 (by omega)] at b1
  rw [firF_eq eq hf8 (by omega)] at b2
  rw [firF_eq eq hf8 (by omega)] at b3
  obtain ⟨d1, d2, d3⟩ := a1
  have hge : 0 ≤ μ (32 * f + 36) - nI t := ge0 (inr_sub (I.2.2.2.2.2.2.2.1 f hf8).2.1 (nI_ge0 (by omega)) (Int32.not_lt.mp h) (by omega)).1
  refine zM_to (w_sur_ok E M SM hf ht1 ht9 hw (by rw [hMM _ (by omega)]; exact h) (by rw [eC 2458 (by omega)]; exact h2)) ⟨a3, d1, fun x hx => (d2 x hx).trans (hMM x (by omega)), ?_, ?_, b1, b2, b3⟩
  · rcases d3 with ⟨q, _⟩ | ⟨_, q, _⟩
    · exact absurd q (by rw [Int32.lt_iff_toInt_lt]; rw [Int32.le_iff_toInt_le] at hge; have : (0 : Int32).toInt = 0 := rfl; omega)
    · exact q.cong eq
  · rcases d3 with ⟨q, _⟩ | ⟨_, _, q⟩
    · exact absurd q (by rw [Int32.lt_iff_toInt_lt]; rw [Int32.le_iff_toInt_le] at hge; have : (0 : Int32).toInt = 0 := rfl; omega)
    · have e : cnt M = cnt μ := by unfold cnt; rw [hMM 1 (by omega)]
      rw [← e]; exact q
set_option maxHeartbeats 1000000 in
theorem a_surrender {l : Launch} {B : Nat} {μ : Nat → Int32} (h : INV B μ) (hB : B ≤ 600) (x : Int32) (y : Int32) (k : Int32) : cOp l B yX5_surrender cX5_surrender 5 [.int x, .int y, .int k] μ := by
  obtain ⟨m, c, b, r, z, kf, S, I, N, H⟩ := h.bundle
  have h8 := I.2.2.2.1
  have hr4 := H.2.1
  have P2 : ∀ x, x < 349 → zpush μ r z x = μ x := fun x hx => zpush_lo (p := x) (by omega) hr4
  have I2 : rowI (B + 1) (zpush μ r z) m c b := rowI_mono (rowI_cong I (fun x hx => (P2 x hx).symm)) (Nat.le_succ B)
  by_cases hx : zfm x c
  · obtain ⟨f, hf, rfl⟩ := hx
    by_cases ht : zin y 1 9999
    · obtain ⟨t, ht1, ht9, rfl⟩ := ht
      by_cases hw : zin k 0 2
      · obtain ⟨w, hw0, hw, rfl⟩ := hw
        have L := lay_LAY (w := w) (show f < 8 by omega) ht9 (held_0 I (by omega))
        by_cases hd : μ (32 * f + 36) < nI t
        · exact cOp_of (fun E => w_sur_n E μ S hf ht1 ht9 (w := w) (by omega) hd) (ACT_same h (by decide))
        · by_cases hl : clay μ f (nI t) w 2458 ≤ 0
          · obtain ⟨a1, a2, a3⟩ := sur_ok hB S I N H hf ht1 ht9 L hd hl
            rw [← a3] at a1
            exact cOp_of (fun E => w_sur_ok E μ S hf ht1 ht9 (w := w) (by omega) hd hl) a1
          · exact cOp_of (fun E => w_sur_m E μ S hf ht1 ht9 (w := w) (by omega) hd hl) (ACT_lay h (by decide) L.1)
      · exact cOp_of (fun E => d_surrender_b2 E μ S hf ht1 ht9 hw) (ACT_same h (by decide))
    · exact cOp_of (fun E => d_surrender_b1 E μ S hf ht k) (ACT_same h (by decide))
  · exact cOp_of (fun E => d_surrender_u E μ S hx y k) (ACT_same h (by decide))
theorem p_undo {l : Launch} {D : va_G} {tc : Nat → ClassId} {ad : Nat → Nat} {A : Nat → Prop} {tF tL tM : Nat} (E : zN 299 A ad) (μ : Nat → Int32) {B : Nat} {g : Nat → Int32} (h : INV B μ) (T : TOP g μ) : zMi l yX5_undo cX5_undo 1 (some .int) (zrm 5) (zK A D tc tF tL tM) A D vwCl tc ad 299 shC [.ref (ad 0)] μ (fun r u => 0 ≤ r ∧ INV B u ∧ eqr u g ∧ KEP μ u) := by
  obtain ⟨m, c, b, r, z, kf, S, I, N, H⟩ := h.bundle
  obtain ⟨r1, z1, t1, t2, t3, t4, t5⟩ := T
  have er : r1 = r := (nI_eq (by omega) (by have := H.2.1; omega)).mp (t1.symm.trans H.1)
  have ez : z1 + 1 = z := (nI_eq (by omega) (by have := H.2.2.2.1; omega)).mp (t3.symm.trans H.2.2.1)
  subst er; subst ez
  obtain ⟨q1, q2, q3⟩ := hst_pop H rfl
  exact zM_to (d_undo_ok E μ t1 t2 rfl t3 t4) ⟨ge0 (nI_ge0 (by omega)), q1, fun x hx => (q3 x hx).trans (t5 x hx), q2⟩
theorem p_keep {l : Launch} {D : va_G} {tc : Nat → ClassId} {ad : Nat → Nat} {A : Nat → Prop} {tF tL tM : Nat} (E : zN 299 A ad) (μ : Nat → Int32) {B : Nat} (h : INV B μ) : zMi l yX5_keep cX5_keep 1 (some .int) (zrm 5) (zK A D tc tF tL tM) A D vwCl tc ad 299 shC [.ref (ad 0)] μ (fun r u => r = μ 0 ∧ INV B u ∧ eqr u μ ∧ KPT μ u) := by
  obtain ⟨m, c, b, r, z, kf, S, I, N, H⟩ := h.bundle
  obtain ⟨q1, q2, q3⟩ := hst_kept H ⟨m, c, b, I, N⟩
  exact zM_to (d_keep E μ S) ⟨I.1.symm, q1, q2, q3⟩
theorem p_restore {l : Launch} {D : va_G} {tc : Nat → ClassId} {ad : Nat → Nat} {A : Nat → Prop} {tF tL tM : Nat} (E : zN 299 A ad) (μ : Nat → Int32) {B : Nat} {g : Nat → Int32} (h : INV B μ) (K : KPT g μ) : zMi l yX5_restore cX5_restore 1 (some .int) (zrm 5) (zK A D tc tF tL tM) A D vwCl tc ad 299 shC [.ref (ad 0)] μ (fun r u => r = g 0 ∧ INV B u ∧ eqr u g ∧ KPT g u ∧ TOP μ u) := by
  obtain ⟨m, c, b, r, z, kf, S, I, N, H⟩ := h.bundle
  have hk : kf = 1 := (nI_eq (by have := H.2.2.2.2.2.1; omega) (by omega)).mp (H.2.2.2.2.2.2.1.symm.trans K.1)
  subst hk
  obtain ⟨q1, q2, q3, q4⟩ := hst_restore H ⟨m, c, b, I, N⟩
  exact zM_to (d_restore_ok E μ S K.1) ⟨K.2 0 (by omega), q1, fun x hx => (q2 x hx).trans (K.2 x hx), K.kep q3, q4⟩
theorem p_addFirm {l : Launch} {D : va_G} {tc : Nat → ClassId} {ad : Nat → Nat} {A : Nat → Prop} {tF tL tM : Nat} (E : zN 299 A ad) (μ : Nat → Int32) {B : Nat} (h : INV B μ) (hB : B ≤ 600) : zMi l yX5_addFirm cX5_addFirm 1 (some .int) (zrm 5) (zK A D tc tF tL tM) A D vwCl tc ad 299 shC [.ref (ad 0)] μ (fun r u => INV (B + 1) u ∧ min (cnt μ + 1) 8 ≤ cnt u) := by
  obtain ⟨m, c, b, r, z, kf, S, I, N, H⟩ := h.bundle
  have h8 := I.2.2.2.1
  have hr4 := H.2.1
  have e1 : cnt μ = c := zto I.2.2.1 (by omega)
  have P2 : ∀ x, x < 349 → zpush μ r z x = μ x := fun x hx => zpush_lo (p := x) (by omega) hr4
  have I2 : rowI (B + 1) (zpush μ r z) m c b := rowI_mono (rowI_cong I (fun x hx => (P2 x hx).symm)) (Nat.le_succ B)
  by_cases hc : c = 8
  · exact zM_to (d_addFirm_full E μ S hc) ⟨h.mono (Nat.le_succ B), by omega⟩
  · have hc7 : c < 8 := by omega
    obtain ⟨⟨r1, z1, H2⟩, T, K⟩ := hst_push H ⟨m, c, b, I, N⟩
    have hs : SND (upd (zpush μ r z) 1 (nI (c + 1))) m := N.far (Nat.le_refl m) (fun f y _ _ _ _ => by rw [pk_un (by omega)]; exact P2 _ (by omega)) (fun x _ _ => by rw [pk_un (by omega)]; exact P2 _ (by omega)) (fun k _ => by rw [pk_un (by omega)]; exact P2 _ (by omega)) (by rw [pk_un (by omega)]; exact P2 _ (by omega))
    have e2 : cnt (upd (zpush μ r z) 1 (nI (c + 1))) = c + 1 := zto pk_us (by omega)
    exact zM_to (d_addFirm_ok E μ S hc7) ⟨⟨⟨m, c + 1, b, rowI_add I2 hc7, hs⟩, r1, z1, kf, hst_keep H2 (Nat.le_succ B) (far_upd (fun _ _ => rfl) (farC_no (by omega)))⟩, by rw [e1, e2]; omega⟩
theorem ACT.inv {B : Nat} {μ u : Nat → Int32} {a : Int32} (h : ACT B μ a u) : INV (B + 1) u ∧ cnt μ ≤ cnt u := by
  refine ⟨h.1, ?_⟩
  rcases h.2.2 with ⟨_, q⟩ | ⟨_, _, q⟩
  · unfold cnt; rw [q 1 (by omega)]; exact Nat.le_refl _
  · exact q
