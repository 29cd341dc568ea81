/-! a surrender's taking on both sides -/
theorem zsv_eq {M N : Nat → Int32} {f : Nat} (h : eqr M N) (hf : f < 8) (hT : ∀ v, v < 20 → M (v + 2460) = N (v + 2520)) : ∀ i, i ≤ 20 → eqr (csv M f i) (zsv N f i) ∧ (∀ x, 349 ≤ x → csv M f i x = M x) ∧ (∀ x, 349 ≤ x → zsv N f i x = N x)
  | 0, _ => ⟨h, fun _ _ => rfl, fun _ _ => rfl⟩
  | i + 1, hi => by
    obtain ⟨h1, h2, h3⟩ := zsv_eq h hf hT i (by omega)
    have e : csv M f i (i + 2460) = zsv N f i (i + 2520) := by rw [h2 _ (by omega), h3 _ (by omega)]; exact hT i (by omega)
    refine ⟨?_, fun x hx => ?_, fun x hx => ?_⟩
    · exact eqr_upd (eqr_upd h1 (by rw [h1 (32 * f + i + 7) (by omega), e])) (by rw [h1 (i + 283) (by omega), e])
    · show upd (upd (csv M f i) (32 * f + i + 7) _) (i + 283) _ x = M x
      rw [pk_un (by omega), pk_un (by omega)]
      exact h2 x hx
    · show upd (upd (zsv N f i) (32 * f + i + 7) _) (i + 283) _ x = N x
      rw [pk_un (by omega), pk_un (by omega)]
      exact h3 x hx
theorem zsg_eq {M N : Nat → Int32} {f : Nat} (h : eqr M N) (hf : f < 8) (hT : ∀ g, g < 3 → M (g + 2480) = N (g + 2540)) : ∀ i, i ≤ 3 → eqr (csg M f i) (zsg N f i) ∧ (∀ x, 349 ≤ x → csg M f i x = M x) ∧ (∀ x, 349 ≤ x → zsg N f i x = N x)
  | 0, _ => ⟨h, fun _ _ => rfl, fun _ _ => rfl⟩
  | i + 1, hi => by
    obtain ⟨h1, h2, h3⟩ := zsg_eq h hf hT i (by omega)
    have e : csg M f i (i + 2480) = zsg N f i (i + 2540) := by rw [h2 _ (by omega), h3 _ (by omega)]; exact hT i (by omega)
    refine ⟨?_, fun x hx => ?_, fun x hx => ?_⟩
    · exact eqr_upd (eqr_upd (eqr_upd h1 (by rw [h1 (32 * f + i + 27) (by omega), e])) (by rw [h1 (32 * f + i + 30) (by omega), e])) (by rw [h1 (i + 346) (by omega), e])
    · show upd (upd (upd (csg M f i) (32 * f + i + 27) _) (32 * f + i + 30) _) (i + 346) _ x = M x
      rw [pk_un (by omega), pk_un (by omega), pk_un (by omega)]
      exact h2 x hx
    · show upd (upd (upd (zsg N f i) (32 * f + i + 27) _) (32 * f + i + 30) _) (i + 346) _ x = N x
      rw [pk_un (by omega), pk_un (by omega), pk_un (by omega)]
      exact h3 x hx
theorem rowI_zsv {B : Nat} {N : Nat → Int32} {m c b f : Nat} (h : rowI B N m c b) (hf : f < c) (hB : B ≤ 601) (hT : ∀ v, v < 20 → tak (N (v + 2520)) (N (32 * f + v + 7))) : ∀ i, i ≤ 20 → rowI B (zsv N f i) m c b ∧ ∀ x, (x < 263 ∨ 349 ≤ x) → (x < 32 * f + 7 ∨ 32 * f + i + 7 ≤ x) → zsv N f i x = N x
  | 0, _ => ⟨h, fun _ _ _ => rfl⟩
  | i + 1, hi => by
    obtain ⟨h1, h2⟩ := rowI_zsv h hf hB hT i (by omega)
    have hc := h.2.2.2.1
    obtain ⟨t1, t2⟩ := hT i (by omega)
    have e : zsv N f i (i + 2520) = N (i + 2520) := h2 _ (by omega) (by omega)
    have e2 : zsv N f i (32 * f + i + 7) = N (32 * f + i + 7) := h2 _ (by omega) (by omega)
    refine ⟨?_, fun x hx hx2 => ?_⟩
    · show rowI B (upd (upd (zsv N f i) (32 * f + i + 7) (zsv N f i (32 * f + i + 7) - zsv N f i (i + 2520))) (i + 283) _) m c b
      refine rowI_far (rowI_held h1 hf (y := i) (by omega) rfl ?_) (by omega)
      rw [e, e2]
      exact inr_sub ((h.2.2.2.2.2.2.2.1 f (by omega)).1 i (by omega)) t1 t2 (by omega)
    · show upd (upd (zsv N f i) (32 * f + i + 7) _) (i + 283) _ x = N x
      rw [pk_un (by omega), pk_un (by omega)]
      exact h2 x hx (by omega)
theorem rowI_zsg {B : Nat} {N : Nat → Int32} {m c b f : Nat} (h : rowI B N m c b) (hf : f < c) (hB : B ≤ 601) (hT : ∀ g, g < 3 → tak (N (g + 2540)) (N (32 * f + g + 27))) : ∀ i, i ≤ 3 → rowI B (zsg N f i) m c b ∧ ∀ x, (x < 263 ∨ 349 ≤ x) → (x < 32 * f + 27 ∨ (32 * f + i + 27 ≤ x ∧ x < 32 * f + 30) ∨ 32 * f + 33 ≤ x) → zsg N f i x = N x
  | 0, _ => ⟨h, fun _ _ _ => rfl⟩
  | i + 1, hi => by
    obtain ⟨h1, h2⟩ := rowI_zsg h hf hB hT i (by omega)
    have hc := h.2.2.2.1
    obtain ⟨t1, t2⟩ := hT i (by omega)
    have e : zsg N f i (i + 2540) = N (i + 2540) := h2 _ (by omega) (by omega)
    have e2 : zsg N f i (32 * f + i + 27) = N (32 * f + i + 27) := h2 _ (by omega) (by omega)
    have q := (h.2.2.2.2.2.2.2.1 f (by omega)).1 (i + 20) (by omega)
    rw [show 32 * f + (i + 20) + 7 = 32 * f + i + 27 by omega] at q
    refine ⟨?_, fun x hx hx2 => ?_⟩
    · show rowI B (upd (upd (upd (zsg N f i) (32 * f + i + 27) (zsg N f i (32 * f + i + 27) - zsg N f i (i + 2540))) (32 * f + i + 30) _) (i + 346) _) m c b
      refine rowI_far (rowI_any (rowI_held h1 hf (y := i + 20) (by omega) (by omega) ?_) hf (y := i + 23) (by omega) (by omega) (by omega) (by omega)) (by omega)
      rw [e, e2]
      exact inr_sub q t1 t2 (by omega)
    · show upd (upd (upd (zsg N f i) (32 * f + i + 27) _) (32 * f + i + 30) _) (i + 346) _ x = N x
      rw [pk_un (by omega), pk_un (by omega), pk_un (by omega)]
      exact h2 x hx (by omega)
/-- both memories after a laying -/
theorem lay_REL {B : Nat} {μ ν M N : Nat → Int32} {r z kf n m c b : Nat} (H : rst B μ ν r z kf n) (P : eqr μ ν) (I : rowI B ν m c b) (h1 : hM μ M) (h2 : hN ν N) : eqr M N ∧ rowI B N m c b ∧ rst B M N r z kf n :=
  ⟨fun x hx => by rw [h1 x (by omega), h2 x (by omega) (by omega) (by omega)]; exact P x hx, rowI_cong I (fun x hx => (h2 x (by omega) (by omega) (by omega)).symm), rst_keep H (Nat.le_refl B) (fun x hx => h1 x (by unfold farC at hx; omega)) (fun x hx => h2 x (by unfold farR at hx; omega) (by unfold farR at hx; omega) (by unfold farR at hx; omega))⟩
theorem hM_same (μ : Nat → Int32) : hM μ μ := fun _ _ => rfl
