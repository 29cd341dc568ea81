/-! the laying, by vintages; a surrender -/
def LAY (μ C : Nat → Int32) (f t w : Nat) : Prop :=
  hM μ C ∧ (∃ k, k ≤ 9999 ∧ C 2458 = nI k ∧ (0 < k → ∀ v, v < 20 → C (v + 2460) = μ (32 * f + v + 7))) ∧ C 2458 = nI t - zsum (fun g => C (g + 2480)) 3 - zsum (fun v => C (v + 2460)) 20 ∧ C 2455 = zsum (fun v => C (v + 2460)) 20 ∧ C 2456 = nI (zcnt (fun v => C (v + 2460)) 20) ∧
  ((zcnt (fun v => C (v + 2460)) 20 = 0 ∧ C 2457 = -5) ∨ (0 < zcnt (fun v => C (v + 2460)) 20 ∧ ∃ j, j < 20 ∧ C 2457 = nI j ∧ (if w = 1 then zexW (fun v => μ (32 * f + v + 7)) 20 else zexO (fun v => μ (32 * f + v + 7)) 20) = nI j)) ∧
  (∀ v, v < 20 → tak (C (v + 2460)) (μ (32 * f + v + 7))) ∧ ∀ g, g < 3 → tak (C (g + 2480)) (if w = 2 then zcu μ f g (μ (g + 2)) else nI 0)
theorem lix_lix {w v : Nat} (h : v < 20) : lix w (lix w v) = v := by unfold lix; split <;> omega
theorem lay_LAY {μ : Nat → Int32} {f t w : Nat} (hf : f < 8) (ht : t ≤ 9999) (hh : ∀ y, y < 23 → 0 ≤ (μ (32 * f + y + 7)).toInt) : LAY μ (clay μ f (nI t) w) f t w := by
  obtain ⟨O, hO, h1, ⟨k, hk, k1, k2⟩, h3, h4, h5, h6, h7, h8⟩ := clay_cI (w := w) hf ht hh
  generalize clay μ f (nI t) w = C at h1 k1 k2 h3 h4 h5 h6 h7 h8 ⊢
  have es : zsum (tkn C w) 20 = zsum (fun v => C (v + 2460)) 20 := zsum_lix (fun v => C (v + 2460)) w
  have ec : zcnt (tkn C w) 20 = zcnt (fun v => C (v + 2460)) 20 := zcnt_lix (fun v => C (v + 2460)) w
  have eO : zsum O 3 = zsum (fun g => C (g + 2480)) 3 := zsum_cong (fun g hg => (h8 g hg).symm)
  rw [es, eO] at h3
  rw [es] at h4
  rw [ec] at h5 h6
  refine ⟨h1, ⟨k, hk, k1, fun hp v hv => ?_⟩, h3, h4, h5, ?_, fun v hv => ?_, fun g hg => by rw [h8 g hg]; exact hO g hg⟩
  · have := k2 hp (lix w v) (lix_lt hv)
    unfold tkn hld at this
    rw [lix_lix hv] at this
    exact this
  · rcases h6 with h | ⟨h, j0, g1, g2, g3, g4⟩
    · exact Or.inl h
    · refine Or.inr ⟨h, lix w j0, lix_lt g1, g2, ?_⟩
      unfold hld at g3 g4
      by_cases q : w = 1
      · rw [if_pos q]
        have e19 : lix w j0 = 19 - j0 := by unfold lix; rw [if_pos q]
        have e20 : 20 = lix w j0 + 1 + j0 := by omega
        rw [e20]
        refine zexW_is (g := fun v => μ (32 * f + v + 7)) g3 j0 (fun v hv1 hv2 => ?_)
        have := g4 (19 - v) (by omega)
        rw [show lix w (19 - v) = v by unfold lix; rw [if_pos q]; omega] at this
        exact this
      · rw [if_neg q]
        have e19 : lix w j0 = j0 := by unfold lix; rw [if_neg q]
        have e20 : 20 = lix w j0 + 1 + (19 - j0) := by omega
        rw [e20]
        refine zexO_stay (g := fun v => μ (32 * f + v + 7)) (by omega) (fun v hv => ?_) g3 (19 - j0)
        have := g4 v (by omega)
        rw [show lix w v = v by unfold lix; rw [if_neg q]] at this
        exact this
  · have := h7 (lix w v) (lix_lt hv)
    unfold tkn hld at this
    rw [lix_lix hv] at this
    exact this
theorem held_0 {B : Nat} {g : Nat → Int32} {m c b f : Nat} (h : rowI B g m c b) (hf : f < 8) : ∀ y, y < 23 → 0 ≤ (g (32 * f + y + 7)).toInt := fun y hy => ((h.2.2.2.2.2.2.2.1 f hf).1 y hy).1
theorem sur_row {B : Nat} {g u T O : Nat → Int32} {m c b f : Nat} {t : Int32} (h : rowI B g m c b) (hB : B ≤ 600) (hf : f < c) (q : SUR g u T O f t) (hT : ∀ v, v < 20 → tak (T v) (g (32 * f + v + 7))) (hO : ∀ k, k < 3 → tak (O k) (g (32 * f + k + 27))) (ht0 : 0 ≤ t.toInt) (ht : t ≤ g (32 * f + 36)) : rowI B u m c b := by
  have h8 := h.2.2.2.1
  obtain ⟨q1, q2, q3, q4, q5, q6, q7, e⟩ := q
  obtain ⟨k1, k2, k3, k4, k5⟩ := h.2.2.2.2.2.2.2.1 f (by omega)
  refine rowJ_to (rowJ_firm (rowJ_of h) (Nat.le_refl _) (Nat.le_refl _) hf (fun x hx1 hx2 => e x (by omega) (by omega) (by omega)) ⟨fun y hy => ?_, by rw [q6]; exact inr_sub k2 ht0 ht (by omega), by rw [e _ (by omega) (by omega) (by omega)]; exact k3, by rw [e _ (by omega) (by omega) (by omega)]; exact k4, by rw [e _ (by omega) (by omega) (by omega), e _ (by omega) (by omega) (by omega)]; exact k5⟩) (Nat.le_refl _) (Nat.le_refl _)
  by_cases w : y < 20
  · rw [q1 y w]
    exact inr_sub (k1 y hy) (hT y w).1 (hT y w).2 (by omega)
  · have e1 : 32 * f + y + 7 = 32 * f + (y - 20) + 27 := by omega
    have := k1 y hy
    rw [e1] at this ⊢
    rw [q3 (y - 20) (by omega)]
    exact inr_sub this (hO (y - 20) (by omega)).1 (hO (y - 20) (by omega)).2 (by omega)
/-- what else is told of a surrender -/
def TOLD (μ u : Nat → Int32) (f t : Nat) (a : Int32) : Prop := firF u f 0 = firF μ f 0 - a ∧ firF u f 7 = firF μ f 7 - nI t ∧ firF u f 10 = firF μ f 10
theorem sur_ok {B : Nat} {μ C : Nat → Int32} {m c b r z kf f t w : Nat} (hB : B ≤ 600) (S : clsS μ m c r z) (I : rowI B μ m c b) (N : SND μ m) (H : hst B μ r z kf) (hf : f < c) (ht1 : 1 ≤ t) (ht9 : t ≤ 9999) (L : LAY μ C f t w) (h : ¬ μ (32 * f + 36) < nI t) (h2 : C 2458 ≤ 0) : ACT B μ (μ (32 * f + 36) - nI t) (srM (zpush C r z) f t) ∧ TOLD μ (srM (zpush C r z) f t) f t (C 2455) ∧ (csg (csv (zpush C r z) f 20) f 3) (32 * f + 36) - nI t = μ (32 * f + 36) - nI t := by
  obtain ⟨l1, ⟨k, hk, k1, k2⟩, l3, l4, l5, l6, l7, l8⟩ := L
  have h8 := I.2.2.2.1
  have hr4 := H.2.1
  have hf8 : f < 8 := by omega
  have z1 : ∀ x, (x < 1047 ∨ 2453 ≤ x) → zpush C r z x = C x := fun x hx => zpush_lo (p := x) hx hr4
  have zμ : ∀ x, x < 349 → zpush C r z x = μ x := fun x hx => (z1 x (by omega)).trans (l1 x (by omega))
  obtain ⟨s1, s2, s3, s4, s5, s6, s7, s8⟩ := srM_at (Z := zpush C r z) (t := t) hf8
  have er : (csg (csv (zpush C r z) f 20) f 3) (32 * f + 36) - nI t = μ (32 * f + 36) - nI t := by
    have e : srM (zpush C r z) f t (32 * f + 36) = (csg (csv (zpush C r z) f 20) f 3) (32 * f + 36) - nI t := by
      unfold srM; rw [pk_un (by omega), pk_us]
    rw [← e, s6, zμ _ (by omega)]
  generalize hu : srM (zpush C r z) f t = u at s1 s2 s3 s4 s5 s6 s7 s8 ⊢
  have q : SUR μ u (fun v => C (v + 2460)) (fun g => C (g + 2480)) f (nI t) := by
    refine ⟨fun v hv => ?_, fun v hv => ?_, fun v hv => ?_, fun v hv => ?_, fun v hv => ?_, ?_, ?_, fun x hx a b => ?_⟩
    · rw [s1 v hv, zμ _ (by omega), z1 _ (by omega)]
    · rw [s2 v hv, zμ _ (by omega), z1 _ (by omega)]
    · rw [s3 v hv, zμ _ (by omega), z1 _ (by omega)]
    · rw [s4 v hv, zμ _ (by omega), z1 _ (by omega)]
    · rw [s5 v hv, zμ _ (by omega), z1 _ (by omega)]
    · rw [s6, zμ _ (by omega)]
    · rw [s7, zμ _ (by omega)]
    · rw [s8 x a b (by omega), zμ _ (by omega)]
  have hk0 : k = 0 := by
    rcases Nat.eq_zero_or_pos k with z | z
    · exact z
    · rw [k1] at h2; exact absurd h2 (nI_nle z (by omega))
  have et : nI t = zsum (fun v => C (v + 2460)) 20 + zsum (fun g => C (g + 2480)) 3 := by
    rw [k1, hk0, nI_0] at l3
    grind
  have hle : nI t ≤ μ (32 * f + 36) := Int32.not_lt.mp h
  have ht0 : 0 ≤ (nI t).toInt := nI_ge0 (by omega)
  have hoff : ∀ g, g < 3 → 0 ≤ (μ (32 * f + g + 27)).toInt := fun g hg => by
    have := held_0 I hf8 (g + 20) (by omega)
    rw [show 32 * f + (g + 20) + 7 = 32 * f + g + 27 by omega] at this
    exact this
  have l9 : ∀ g, g < 3 → tak (C (g + 2480)) (zcu μ f g (μ (g + 2))) := fun g hg => by
    have := l8 g hg
    by_cases e : w = 2
    · rw [if_pos e] at this; exact this
    · rw [if_neg e] at this
      exact tak_le this (by rw [Int32.le_iff_toInt_le, nI_toInt (by omega)]; exact (zcu_in (hoff g hg)).1)
  have l10 : ∀ g, g < 3 → tak (C (g + 2480)) (μ (32 * f + g + 27)) := fun g hg => tak_le (l9 g hg) (zcu_in (hoff g hg)).2.1
  obtain ⟨n1, n2, n3⟩ := N.2.2.2.2.1 f hf8
  have tk : ∀ g, g < 3 → _ := fun g hg => zcu_take (hoff g hg) n1 (N.2.2.2.2.2.1 g hg) (n3 g hg) (l9 g hg)
  have hrow := sur_row I hB hf q l7 l10 ht0 hle
  have hdue : inr (u (32 * f + 36)) (10999 * (m / 12)) := by
    rw [q.2.2.2.2.2.1]
    exact inr_sub n2 ht0 hle (by have := I.2.1; omega)
  have hsnd : SND u m := SND_sur N hf8 q et hdue (fun g hg => by rw [q.2.2.2.1 g hg]; exact (tk g hg).2)
  have hfar : ∀ x, farC x → u x = zpush μ r z x := by
    intro x hx
    have hx1 : x < 2453 ∨ (2491 ≤ x ∧ x < 2560) := by unfold farC at hx; omega
    have hx2 : 349 ≤ x := by unfold farC at hx; omega
    rw [s8 x (by omega) (by omega) (by omega)]
    have hC : ∀ p, p < 2455 → C p = μ p := fun p hp => l1 p (by omega)
    by_cases a : 2491 ≤ x
    · rw [z1 x (by omega), zpush_lo (p := x) (by omega) hr4]
      exact l1 x (by omega)
    · unfold zpush
      by_cases e1 : x = 2451
      · subst e1; rw [pk_us, pk_us]
      · rw [pk_un e1, pk_un e1]
        by_cases e2 : x = 2452
        · subst e2; rw [pk_us, pk_us]
        · rw [pk_un e2, pk_un e2]
          by_cases e3 : 349 * r + 1047 ≤ x ∧ x < 349 * r + 1047 + 349
          · rw [cp_in e3.1 e3.2 rfl, cp_in e3.1 e3.2 rfl]
            exact hC _ (by omega)
          · rw [cp_out (by omega), cp_out (by omega)]
            exact hC _ (by omega)
  have hfir : firF u f 0 = firF μ f 0 - C 2455 := by
    show zsum (fun v => u (32 * f + v + 7)) 20 = zsum (fun v => μ (32 * f + v + 7)) 20 - C 2455
    rw [zsum_cong (g' := fun v => μ (32 * f + v + 7) - C (v + 2460)) q.1, zsum_sub, l4]
  have hz : ∀ g, g < 3 → zcu u f g (u (g + 2)) = zcu μ f g (μ (g + 2)) - C (g + 2480) := fun g hg => by
    have := (tk g hg).1
    unfold zcu
    rw [q.2.2.1 g hg, q.2.2.2.1 g hg, q.2.2.2.2.2.2.2 (32 * f + 35) (by omega) (by omega) (by omega), q.2.2.2.2.2.2.2 (g + 2) (by omega) (by omega) (by omega)]
    exact this
  refine ⟨ACT_ok (c' := c) H I N ⟨m, c, b, rowI_mono hrow (Nat.le_succ B), hsnd⟩ hfar ((q.2.2.2.2.2.2.2 1 (by omega) (by omega) (by omega)).trans I.2.2.1) (Nat.le_refl c) h8 (ge0 (inr_sub (I.2.2.2.2.2.2.2.1 f hf8).2.1 ht0 hle (by omega)).1), ⟨hfir, q.2.2.2.2.2.1, ?_⟩, er⟩
  show zmax (nI 0) (u (32 * f + 36) - zsdC u f 3) = zmax (nI 0) (μ (32 * f + 36) - zsdC μ f 3)
  have e1 : zsdC u f 3 = zsdC μ f 3 - nI t := by
    show firF u f 0 + zcu u f 0 (u 2) + zcu u f 1 (u 3) + zcu u f 2 (u 4) = firF μ f 0 + zcu μ f 0 (μ 2) + zcu μ f 1 (μ 3) + zcu μ f 2 (μ 4) - nI t
    rw [hfir, hz 0 (by omega), hz 1 (by omega), hz 2 (by omega), et, ← l4]
    show _ = firF μ f 0 + zcu μ f 0 (μ 2) + zcu μ f 1 (μ 3) + zcu μ f 2 (μ 4) - (C 2455 + (nI 0 + C 2480 + C 2481 + C 2482))
    rw [nI_0]
    grind
  rw [q.2.2.2.2.2.1, e1]
  congr 1
  grind
