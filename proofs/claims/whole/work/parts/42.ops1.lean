theorem zclr_same {g : Nat → Int32} {f : Nat} : ∀ {n : Nat}, (∀ y, y < n → g (32 * f + y + 7) = nI 0) → zclr g f n = g
  | 0, _ => rfl
  | n + 1, h => by
    show upd (zclr g f n) (32 * f + n + 7) (nI 0) = g
    rw [zclr_same (fun y hy => h y (by omega))]
    exact zupd_same (h n (by omega))
theorem rowI_add {B : Nat} {g : Nat → Int32} {m c b : Nat} (h : rowI B g m c b) (hc : c < 8) : rowI B (upd g 1 (nI (c + 1))) m (c + 1) b := by
  obtain ⟨h1, h2, h3, h4, h5, h6, h7, h8, h9⟩ := h
  refine ⟨(pk_un (by omega)).trans h1, h2, pk_us, by omega, (pk_un (by omega)).trans h5, h6, h7, fun f hf => ?_, fun f k1 k2 y hy => (pk_un (by omega)).trans (h9 f (by omega) k2 y hy)⟩
  obtain ⟨k1, k2, k3, k4, k5⟩ := h8 f hf
  exact ⟨fun y hy => by rw [pk_un (by omega)]; exact k1 y hy, by rw [pk_un (by omega)]; exact k2, by rw [pk_un (by omega)]; exact k3, by rw [pk_un (by omega)]; exact k4, by rw [pk_un (by omega), pk_un (by omega)]; exact k5⟩
set_option maxHeartbeats 1000000 in
theorem op_addFirm {l : Launch} {B : Nat} {μ ν : Nat → Int32} (h : REL B μ ν) (hB : B ≤ 600) : zOp l B yX5_addFirm cX5_addFirm 1 yX6_addFirm cX6_addFirm 3 [] μ ν := by
  obtain ⟨m, c, b, r, z, kf, n, SC, SR, P, I, H⟩ := h.bundle
  have h8 := I.2.2.2.1
  by_cases hc : c = 8
  · exact zOp_det (fun E => d_addFirm_full E μ SC hc) (fun E => c_addFirm_full E ν SR hc) (rfl) (h.up) (by decide) (by decide)
  · have hc7 : c < 8 := by omega
    obtain ⟨P2, I2, r1, z1, H2⟩ := REL.pushed H P I
    have hcl := zclr_same (g := zrec ν 0 z) (f := c) (n := 32) (fun y hy => I2.2.2.2.2.2.2.2.2 c (Nat.le_refl c) hc7 y hy)
    have hR : ∀ {D : va_G} {tc : Nat → ClassId} {ad : Nat → Nat} {A : Nat → Prop} {tF tL tM : Nat}, zN 6 A ad → zMi l yX6_addFirm cX6_addFirm 3 (some .int) (zrm 5) (zK A D tc tF tL tM) A D vwCl tc ad 6 shR [.ref (ad 0)] ν (fun r u => r = nI c ∧ u = upd (zrec ν 0 z) 1 (nI (c + 1))) := fun E => hcl ▸ c_addFirm_ok E ν SR hc7
    exact zOp_det (fun E => d_addFirm_ok E μ SC hc7) hR rfl (REL.step H2 (by omega) (upd_eq P2 rfl) (rowI_add (rowI_mono I2 (Nat.le_succ B)) hc7) (far_upd (fun _ _ => rfl) (farC_no (by omega))) (far_upd (fun _ _ => rfl) (farR_no (by omega)))) (by decide) (by decide)
set_option maxHeartbeats 1000000 in
theorem op_issue {l : Launch} {B : Nat} {μ ν : Nat → Int32} (h : REL B μ ν) (hB : B ≤ 600) (x : Int32) (y : Int32) : zOp l B yX5_issue cX5_issue 5 yX6_issue cX6_issue 3 [.int x, .int y] μ ν := by
  obtain ⟨m, c, b, r, z, kf, n, SC, SR, P, I, H⟩ := h.bundle
  have h8 := I.2.2.2.1
  by_cases hx : zfm x c
  · obtain ⟨f, hf, rfl⟩ := hx
    by_cases ht : zin y 1 9999
    · obtain ⟨t, ht1, ht9, rfl⟩ := ht
      obtain ⟨P2, I2, r1, z1, H2⟩ := REL.pushed H P I
      have hm := I.2.1
      exact zOp_det (fun E => d_issue_ok E μ SC hf ht1 ht9 rfl) (fun E => c_issue_ok E ν SR hf ht1 ht9 rfl) (by rw [P _ (by omega)]) (REL.step H2 (by omega) (upd_eq (upd_eq P2 (by rw [P _ (by omega)])) (by rw [P _ (by omega)])) (rowI_far (rowI_held (rowI_mono I2 (Nat.le_succ B)) hf (y := m / 12) (by omega) (by omega) (inr_add ((I.2.2.2.2.2.2.2.1 f (by omega)).1 (m / 12) (by omega)) (by omega) (by omega))) (by omega)) (far_upd (far_upd (fun _ _ => rfl) (farC_no (by omega))) (farC_no (by omega))) (far_upd (far_upd (fun _ _ => rfl) (farR_no (by omega))) (farR_no (by omega)))) (by decide) (by decide)
    · exact zOp_det (fun E => d_issue_b E μ SC hf ht) (fun E => c_issue_b E ν SR hf ht) (rfl) (h.up) (by decide) (by decide)
  · exact zOp_det (fun E => d_issue_u E μ SC hx y) (fun E => c_issue_u E ν SR hx y) (rfl) (h.up) (by decide) (by decide)
set_option maxHeartbeats 1000000 in
theorem op_issueOffsets {l : Launch} {B : Nat} {μ ν : Nat → Int32} (h : REL B μ ν) (hB : B ≤ 600) (x : Int32) (y : Int32) (w : Int32) : zOp l B yX5_issueOffsets cX5_issueOffsets 5 yX6_issueOffsets cX6_issueOffsets 4 [.int x, .int y, .int w] μ ν := by
  obtain ⟨m, c, b, r, z, kf, n, SC, SR, P, I, H⟩ := h.bundle
  have h8 := I.2.2.2.1
  by_cases hx : zfm x c
  · obtain ⟨f, hf, rfl⟩ := hx
    by_cases hgz : zin y 0 2
    · obtain ⟨g, hg0, hg, rfl⟩ := hgz
      by_cases ht : zin w 1 9999
      · obtain ⟨t, ht1, ht9, rfl⟩ := ht
        obtain ⟨P2, I2, r1, z1, H2⟩ := REL.pushed H P I
        exact zOp_det (fun E => d_issueOffsets_ok E μ SC hf hg ht1 ht9) (fun E => c_issueOffsets_ok E ν SR hf hg ht1 ht9) (by rw [P _ (by omega)]) (REL.step H2 (by omega) (upd_eq (upd_eq P2 (by rw [P _ (by omega)])) (by rw [P _ (by omega)])) (rowI_far (rowI_held (rowI_mono I2 (Nat.le_succ B)) hf (y := g + 20) (by omega) (by omega) (inr_add (by have q := ((I.2.2.2.2.2.2.2.1 f (by omega)).1 (g + 20) (by omega)); rw [show 32 * f + (g + 20) + 7 = 32 * f + g + 27 by omega] at q; exact q) (by omega) (by omega))) (by omega)) (far_upd (far_upd (fun _ _ => rfl) (farC_no (by omega))) (farC_no (by omega))) (far_upd (far_upd (fun _ _ => rfl) (farR_no (by omega))) (farR_no (by omega)))) (by decide) (by decide)
      · exact zOp_det (fun E => d_issueOffsets_b E μ SC hf hg ht) (fun E => c_issueOffsets_b E ν SR hf hg ht) (rfl) (h.up) (by decide) (by decide)
    · exact zOp_det (fun E => d_issueOffsets_u2 E μ SC hf hgz w) (fun E => c_issueOffsets_u2 E ν SR hf hgz w) (rfl) (h.up) (by decide) (by decide)
  · exact zOp_det (fun E => d_issueOffsets_u1 E μ SC hx y w) (fun E => c_issueOffsets_u1 E ν SR hx y w) (rfl) (h.up) (by decide) (by decide)
set_option maxHeartbeats 1000000 in
theorem op_transfer {l : Launch} {B : Nat} {μ ν : Nat → Int32} (h : REL B μ ν) (hB : B ≤ 600) (x : Int32) (y : Int32) (k : Int32) (w : Int32) : zOp l B yX5_transfer cX5_transfer 6 yX6_transfer cX6_transfer 7 [.int x, .int y, .int k, .int w] μ ν := by
  obtain ⟨m, c, b, r, z, kf, n, SC, SR, P, I, H⟩ := h.bundle
  have h8 := I.2.2.2.1
  by_cases hx : zfm x c
  · obtain ⟨f, hf, rfl⟩ := hx
    by_cases hx2 : zfm y c
    · obtain ⟨f2, hf2, rfl⟩ := hx2
      by_cases hvz : zin k 0 19
      · obtain ⟨v, hv0, hv, rfl⟩ := hvz
        by_cases ht : zin w 1 9999
        · obtain ⟨t, ht1, ht9, rfl⟩ := ht
          by_cases hff : f = f2
          · subst hff
            exact zOp_det (fun E => d_transfer_b2 E μ SC hf hv ht1 ht9) (fun E => c_transfer_b2 E ν SR hf hv ht1 ht9) (rfl) (h.up) (by decide) (by decide)
          · have hne : f ≠ f2 := hff
            by_cases hle : nI t ≤ μ (32 * f + v + 7)
            · obtain ⟨P2, I2, r1, z1, H2⟩ := REL.pushed H P I
              have hA := ((I.2.2.2.2.2.2.2.1 f (by omega)).1 (v + 0) (by omega))
              have hA2 := ((I.2.2.2.2.2.2.2.1 f2 (by omega)).1 (v + 0) (by omega))
              rw [show 32 * f + (v + 0) + 7 = 32 * f + v + 7 by omega] at hA
              rw [show 32 * f2 + (v + 0) + 7 = 32 * f2 + v + 7 by omega] at hA2
              have ht0 : 0 ≤ (nI t).toInt := by rw [nI_toInt (by omega)]; omega
              have hle2 : nI t ≤ ν (32 * f + v + 7) := by rw [← P _ (by omega)]; exact hle
              exact zOp_det (fun E => d_transfer_ok E μ SC hf hf2 hv ht1 ht9 hne hle) (fun E => c_transfer_ok E ν SR hf hf2 hv ht1 ht9 hne (by rw [← P _ (by omega)]; exact hle)) (by rw [P _ (by omega)]) (REL.step H2 (by omega) (upd_eq (upd_eq P2 (by rw [P _ (by omega)])) (by rw [P _ (by omega)])) (rowI_held (rowI_held (rowI_mono I2 (Nat.le_succ B)) hf (y := v + 0) (by omega) (by omega) (inr_mono (inr_sub hA ht0 hle2 (by omega)) (by omega))) hf2 (y := v + 0) (by omega) (by omega) (inr_add hA2 (by omega) (by omega))) (far_upd (far_upd (fun _ _ => rfl) (farC_no (by omega))) (farC_no (by omega))) (far_upd (far_upd (fun _ _ => rfl) (farR_no (by omega))) (farR_no (by omega)))) (by decide) (by decide)
            · exact zOp_det (fun E => d_transfer_n E μ SC hf hf2 hv ht1 ht9 hne hle) (fun E => c_transfer_n E ν SR hf hf2 hv ht1 ht9 hne (by rw [← P _ (by omega)]; exact hle)) (rfl) (h.up) (by decide) (by decide)
        · exact zOp_det (fun E => d_transfer_b1 E μ SC hf hf2 hv ht) (fun E => c_transfer_b1 E ν SR hf hf2 hv ht) (rfl) (h.up) (by decide) (by decide)
      · exact zOp_det (fun E => d_transfer_u3 E μ SC hf hf2 hvz w) (fun E => c_transfer_u3 E ν SR hf hf2 w hvz) (rfl) (h.up) (by decide) (by decide)
    · by_cases hvz : zin k 0 19
      · obtain ⟨v, hv0, hv, rfl⟩ := hvz
        exact zOp_det (fun E => d_transfer_u2 E μ SC hf hx2 _ w) (fun E => c_transfer_u2 E ν SR hf hx2 w hv) (rfl) (h.up) (by decide) (by decide)
      · exact zOp_det (fun E => d_transfer_u2 E μ SC hf hx2 k w) (fun E => c_transfer_u2z E ν SR hf hx2 w hvz) (rfl) (h.up) (by decide) (by decide)
  · by_cases hvz : zin k 0 19
    · obtain ⟨v, hv0, hv, rfl⟩ := hvz
      exact zOp_det (fun E => d_transfer_u1 E μ SC hx y _ w) (fun E => c_transfer_u1 E ν SR hx y w hv) (rfl) (h.up) (by decide) (by decide)
    · exact zOp_det (fun E => d_transfer_u1 E μ SC hx y k w) (fun E => c_transfer_u1z E ν SR hx y w hvz) (rfl) (h.up) (by decide) (by decide)
set_option maxHeartbeats 1000000 in
theorem op_transferOffsets {l : Launch} {B : Nat} {μ ν : Nat → Int32} (h : REL B μ ν) (hB : B ≤ 600) (x : Int32) (y : Int32) (k : Int32) (w : Int32) : zOp l B yX5_transferOffsets cX5_transferOffsets 7 yX6_transferOffsets cX6_transferOffsets 7 [.int x, .int y, .int k, .int w] μ ν := by
  obtain ⟨m, c, b, r, z, kf, n, SC, SR, P, I, H⟩ := h.bundle
  have h8 := I.2.2.2.1
  by_cases hx : zfm x c
  · obtain ⟨f, hf, rfl⟩ := hx
    by_cases hx2 : zfm y c
    · obtain ⟨f2, hf2, rfl⟩ := hx2
      by_cases hgz : zin k 0 2
      · obtain ⟨g, hg0, hg, rfl⟩ := hgz
        by_cases ht : zin w 1 9999
        · obtain ⟨t, ht1, ht9, rfl⟩ := ht
          by_cases hff : f = f2
          · subst hff
            exact zOp_det (fun E => d_transferOffsets_b2 E μ SC hf hg ht1 ht9) (fun E => c_transferOffsets_b2 E ν SR hf hg ht1 ht9) (rfl) (h.up) (by decide) (by decide)
          · have hne : f ≠ f2 := hff
            by_cases hle : nI t ≤ μ (32 * f + g + 27)
            · obtain ⟨P2, I2, r1, z1, H2⟩ := REL.pushed H P I
              have hA := ((I.2.2.2.2.2.2.2.1 f (by omega)).1 (g + 20) (by omega))
              have hA2 := ((I.2.2.2.2.2.2.2.1 f2 (by omega)).1 (g + 20) (by omega))
              rw [show 32 * f + (g + 20) + 7 = 32 * f + g + 27 by omega] at hA
              rw [show 32 * f2 + (g + 20) + 7 = 32 * f2 + g + 27 by omega] at hA2
              have ht0 : 0 ≤ (nI t).toInt := by rw [nI_toInt (by omega)]; omega
              have hle2 : nI t ≤ ν (32 * f + g + 27) := by rw [← P _ (by omega)]; exact hle
              exact zOp_det (fun E => d_transferOffsets_ok E μ SC hf hf2 hg ht1 ht9 hne hle) (fun E => c_transferOffsets_ok E ν SR hf hf2 hg ht1 ht9 hne (by rw [← P _ (by omega)]; exact hle)) (by rw [P _ (by omega)]) (REL.step H2 (by omega) (upd_eq (upd_eq P2 (by rw [P _ (by omega)])) (by rw [P _ (by omega)])) (rowI_held (rowI_held (rowI_mono I2 (Nat.le_succ B)) hf (y := g + 20) (by omega) (by omega) (inr_mono (inr_sub hA ht0 hle2 (by omega)) (by omega))) hf2 (y := g + 20) (by omega) (by omega) (inr_add hA2 (by omega) (by omega))) (far_upd (far_upd (fun _ _ => rfl) (farC_no (by omega))) (farC_no (by omega))) (far_upd (far_upd (fun _ _ => rfl) (farR_no (by omega))) (farR_no (by omega)))) (by decide) (by decide)
            · exact zOp_det (fun E => d_transferOffsets_n E μ SC hf hf2 hg ht1 ht9 hne hle) (fun E => c_transferOffsets_n E ν SR hf hf2 hg ht1 ht9 hne (by rw [← P _ (by omega)]; exact hle)) (rfl) (h.up) (by decide) (by decide)
        · exact zOp_det (fun E => d_transferOffsets_b1 E μ SC hf hf2 hg ht) (fun E => c_transferOffsets_b1 E ν SR hf hf2 hg ht) (rfl) (h.up) (by decide) (by decide)
      · exact zOp_det (fun E => d_transferOffsets_u3 E μ SC hf hf2 hgz w) (fun E => c_transferOffsets_u3 E ν SR hf hf2 w hgz) (rfl) (h.up) (by decide) (by decide)
    · by_cases hgz : zin k 0 2
      · obtain ⟨g, hg0, hg, rfl⟩ := hgz
        exact zOp_det (fun E => d_transferOffsets_u2 E μ SC hf hx2 _ w) (fun E => c_transferOffsets_u2 E ν SR hf hx2 w hg) (rfl) (h.up) (by decide) (by decide)
      · exact zOp_det (fun E => d_transferOffsets_u2 E μ SC hf hx2 k w) (fun E => c_transferOffsets_u2z E ν SR hf hx2 w hgz) (rfl) (h.up) (by decide) (by decide)
  · by_cases hx2 : zfm y c
    · obtain ⟨f2, hf2, rfl⟩ := hx2
      by_cases hgz : zin k 0 2
      · obtain ⟨g, hg0, hg, rfl⟩ := hgz
        exact zOp_det (fun E => d_transferOffsets_u1a E μ SC hx hf2 _ w) (fun E => c_transferOffsets_u1 E ν SR hx _ w hg) (rfl) (h.up) (by decide) (by decide)
      · exact zOp_det (fun E => d_transferOffsets_u1a E μ SC hx hf2 k w) (fun E => c_transferOffsets_u1z E ν SR hx _ w hgz) (rfl) (h.up) (by decide) (by decide)
    · by_cases hgz : zin k 0 2
      · obtain ⟨g, hg0, hg, rfl⟩ := hgz
        exact zOp_det (fun E => d_transferOffsets_u1b E μ SC hx hx2 _ w) (fun E => c_transferOffsets_u1 E ν SR hx y w hg) (rfl) (h.up) (by decide) (by decide)
      · exact zOp_det (fun E => d_transferOffsets_u1b E μ SC hx hx2 k w) (fun E => c_transferOffsets_u1z E ν SR hx y w hgz) (rfl) (h.up) (by decide) (by decide)
set_option maxHeartbeats 1000000 in
theorem op_cancel {l : Launch} {B : Nat} {μ ν : Nat → Int32} (h : REL B μ ν) (hB : B ≤ 600) (x : Int32) (y : Int32) (w : Int32) : zOp l B yX5_cancel cX5_cancel 5 yX6_cancel cX6_cancel 4 [.int x, .int y, .int w] μ ν := by
  obtain ⟨m, c, b, r, z, kf, n, SC, SR, P, I, H⟩ := h.bundle
  have h8 := I.2.2.2.1
  by_cases hx : zfm x c
  · obtain ⟨f, hf, rfl⟩ := hx
    by_cases hvz : zin y 0 19
    · obtain ⟨v, hv0, hv, rfl⟩ := hvz
      by_cases ht : zin w 1 9999
      · obtain ⟨t, ht1, ht9, rfl⟩ := ht
        by_cases hle : nI t ≤ μ (32 * f + v + 7)
        · obtain ⟨P2, I2, r1, z1, H2⟩ := REL.pushed H P I
          exact zOp_det (fun E => d_cancel_ok E μ SC hf hv ht1 ht9 hle) (fun E => c_cancel_ok E ν SR hf hv ht1 ht9 (by rw [← P _ (by omega)]; exact hle)) (by rw [P _ (by omega)]) (REL.step H2 (by omega) (upd_eq (upd_eq P2 (by rw [P _ (by omega)])) (by rw [P _ (by omega)])) (rowI_far (rowI_held (rowI_mono I2 (Nat.le_succ B)) hf (y := v) (by omega) (by omega) (inr_mono (inr_sub ((I.2.2.2.2.2.2.2.1 f (by omega)).1 (v) (by omega)) (by rw [nI_toInt (by omega)]; omega) (by rw [← P _ (by omega)]; exact hle) (by omega)) (by omega))) (by omega)) (far_upd (far_upd (fun _ _ => rfl) (farC_no (by omega))) (farC_no (by omega))) (far_upd (far_upd (fun _ _ => rfl) (farR_no (by omega))) (farR_no (by omega)))) (by decide) (by decide)
        · exact zOp_det (fun E => d_cancel_n E μ SC hf hv ht1 ht9 hle) (fun E => c_cancel_n E ν SR hf hv ht1 ht9 (by rw [← P _ (by omega)]; exact hle)) (rfl) (h.up) (by decide) (by decide)
      · exact zOp_det (fun E => d_cancel_b E μ SC hf hv ht) (fun E => c_cancel_b E ν SR hf hv ht) (rfl) (h.up) (by decide) (by decide)
    · exact zOp_det (fun E => d_cancel_u2 E μ SC hf hvz w) (fun E => c_cancel_u2 E ν SR hf hvz w) (rfl) (h.up) (by decide) (by decide)
  · exact zOp_det (fun E => d_cancel_u1 E μ SC hx y w) (fun E => c_cancel_u1 E ν SR hx y w) (rfl) (h.up) (by decide) (by decide)
set_option maxHeartbeats 1000000 in
theorem op_holds {l : Launch} {B : Nat} {μ ν : Nat → Int32} (h : REL B μ ν) (hB : B ≤ 600) (x : Int32) (y : Int32) : zOp l B yX5_holds cX5_holds 4 yX6_holds cX6_holds 3 [.int x, .int y] μ ν := by
  obtain ⟨m, c, b, r, z, kf, n, SC, SR, P, I, H⟩ := h.bundle
  have h8 := I.2.2.2.1
  by_cases hx : zfm x c
  · obtain ⟨f, hf, rfl⟩ := hx
    by_cases hvz : zin y 0 19
    · obtain ⟨v, hv0, hv, rfl⟩ := hvz
      exact zOp_det (fun E => d_holds_ok E μ SC hf hv) (fun E => c_holds_ok E ν SR hf hv) (by rw [P _ (by omega)]) (h.up) (by decide) (by decide)
    · exact zOp_det (fun E => d_holds_u2 E μ SC hf hvz) (fun E => c_holds_u2 E ν SR hf hvz) (rfl) (h.up) (by decide) (by decide)
  · exact zOp_det (fun E => d_holds_u1 E μ SC hx y) (fun E => c_holds_u1 E ν SR hx y) (rfl) (h.up) (by decide) (by decide)
