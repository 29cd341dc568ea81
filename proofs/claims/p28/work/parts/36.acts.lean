/-! THE ACTS: each is an error that changes nothing, or a sound new state -/
theorem ge0 {x : Int32} (h : 0 ≤ x.toInt) : 0 ≤ x := by rw [Int32.le_iff_toInt_le]; exact h
theorem nI_ge0 {n : Nat} (h : n < 2 ^ 31) : 0 ≤ (nI n).toInt := by rw [nI_toInt h]; omega
set_option maxHeartbeats 1000000 in
theorem a_addFirm {l : Launch} {B : Nat} {μ : Nat → Int32} (h : INV B μ) (hB : B ≤ 600)  : cOp l B yX5_addFirm cX5_addFirm 1 [] μ := by
  obtain ⟨m, c, b, r, z, kf, S, I, N, H⟩ := h.bundle
  have h8 := I.2.2.2.1
  have hr4 := H.2.1
  have P2 : ∀ x, x < 349 → zpush μ r z x = μ x := fun x hx => zpush_lo (p := x) (by omega) hr4
  have I2 : rowI (B + 1) (zpush μ r z) m c b := rowI_mono (rowI_cong I (fun x hx => (P2 x hx).symm)) (Nat.le_succ B)
  by_cases hc : c = 8
  · exact cOp_of (fun E => d_addFirm_full E μ S hc) (ACT_same h (by decide))
  · have hc7 : c < 8 := by omega
    exact cOp_of (fun E => d_addFirm_ok E μ S hc7) (ACT_ok (c' := c + 1) H I N ⟨m, c + 1, b, rowI_add I2 hc7, (N.far (Nat.le_refl m) (fun f y _ _ _ _ => by rw [pk_un (by omega)]; exact P2 _ (by omega)) (fun x _ _ => by rw [pk_un (by omega)]; exact P2 _ (by omega)) (fun k _ => by rw [pk_un (by omega)]; exact P2 _ (by omega)) (by rw [pk_un (by omega)]; exact P2 _ (by omega)))⟩ (far_upd (fun _ _ => rfl) (farC_no (by omega))) pk_us (Nat.le_succ c) (by omega) (ge0 (nI_ge0 (by omega))))
set_option maxHeartbeats 1000000 in
theorem a_set {l : Launch} {B : Nat} {μ : Nat → Int32} (h : INV B μ) (hB : B ≤ 600) (x : Int32) (y : Int32) : cOp l B yX5_set cX5_set 4 [.int x, .int y] μ := by
  obtain ⟨m, c, b, r, z, kf, S, I, N, H⟩ := h.bundle
  have h8 := I.2.2.2.1
  have hr4 := H.2.1
  have P2 : ∀ x, x < 349 → zpush μ r z x = μ x := fun x hx => zpush_lo (p := x) (by omega) hr4
  have I2 : rowI (B + 1) (zpush μ r z) m c b := rowI_mono (rowI_cong I (fun x hx => (P2 x hx).symm)) (Nat.le_succ B)
  by_cases hx : zin x 0 4
  · obtain ⟨w, hw0, hw4, rfl⟩ := hx
    have hw : w = 0 ∨ w = 1 ∨ w = 2 ∨ w = 3 ∨ w = 4 := by omega
    rcases hw with rfl | rfl | rfl | rfl | rfl
    · by_cases hy : zin y 0 100
      · obtain ⟨v, h1, h2, rfl⟩ := hy
        by_cases hv : μ 2 = nI v
        · exact cOp_of (fun E => d_set_none0 E μ S h1 h2 hv) (ACT_same h (by decide))
        · have hs : SND (upd (zpush μ r z) 2 (nI v)) m := by
            obtain ⟨k1, k2, k3, k4, k5, k6⟩ := N
            refine ⟨k1.cong (fun f y _ _ => by rw [pk_un (by omega)]; exact P2 _ (by omega)) (fun x _ _ => by rw [pk_un (by omega)]; exact P2 _ (by omega)), k2.cong (Nat.le_refl m) (fun x _ _ => by rw [pk_un (by omega)]; exact P2 _ (by omega)), k3.cong (fun f k _ _ => by rw [pk_un (by omega)]; exact P2 _ (by omega)) (fun x _ _ => by rw [pk_un (by omega)]; exact P2 _ (by omega)), k4.cong (fun f _ => by rw [pk_un (by omega)]; exact P2 _ (by omega)) (fun x _ _ => by rw [pk_un (by omega)]; exact P2 _ (by omega)) (fun x _ _ => by rw [pk_un (by omega)]; exact P2 _ (by omega)), k5.cong (Nat.le_refl m) (fun f _ => ⟨by rw [pk_un (by omega)]; exact P2 _ (by omega), by rw [pk_un (by omega)]; exact P2 _ (by omega)⟩) (fun f k _ _ => by rw [pk_un (by omega)]; exact P2 _ (by omega)), ⟨fun k hk => ?_, ?_⟩⟩
            · by_cases q : k = 0
              · subst q; rw [pk_us, inr, nI_toInt (by omega)]; omega
              · rw [pk_un (by omega), P2 _ (by omega)]; exact k6.1 k hk
            · rw [pk_un (by omega), P2 _ (by omega)]; exact k6.2
          exact cOp_of (fun E => d_set_ok0 E μ S h1 h2 hv) (ACT_ok (c' := c) H I N ⟨m, c, b, rowI_far I2 (by omega), hs⟩ (far_upd (fun _ _ => rfl) (farC_no (by omega))) ((pk_un (by omega)).trans ((P2 1 (by omega)).trans I.2.2.1)) (Nat.le_refl c) h8 (ge0 (N.2.2.2.2.2.1 0 (by omega)).1))
      · exact cOp_of (fun E => d_set_bad0 E μ S hy) (ACT_same h (by decide))
    · by_cases hy : zin y 0 100
      · obtain ⟨v, h1, h2, rfl⟩ := hy
        by_cases hv : μ 3 = nI v
        · exact cOp_of (fun E => d_set_none1 E μ S h1 h2 hv) (ACT_same h (by decide))
        · have hs : SND (upd (zpush μ r z) 3 (nI v)) m := by
            obtain ⟨k1, k2, k3, k4, k5, k6⟩ := N
            refine ⟨k1.cong (fun f y _ _ => by rw [pk_un (by omega)]; exact P2 _ (by omega)) (fun x _ _ => by rw [pk_un (by omega)]; exact P2 _ (by omega)), k2.cong (Nat.le_refl m) (fun x _ _ => by rw [pk_un (by omega)]; exact P2 _ (by omega)), k3.cong (fun f k _ _ => by rw [pk_un (by omega)]; exact P2 _ (by omega)) (fun x _ _ => by rw [pk_un (by omega)]; exact P2 _ (by omega)), k4.cong (fun f _ => by rw [pk_un (by omega)]; exact P2 _ (by omega)) (fun x _ _ => by rw [pk_un (by omega)]; exact P2 _ (by omega)) (fun x _ _ => by rw [pk_un (by omega)]; exact P2 _ (by omega)), k5.cong (Nat.le_refl m) (fun f _ => ⟨by rw [pk_un (by omega)]; exact P2 _ (by omega), by rw [pk_un (by omega)]; exact P2 _ (by omega)⟩) (fun f k _ _ => by rw [pk_un (by omega)]; exact P2 _ (by omega)), ⟨fun k hk => ?_, ?_⟩⟩
            · by_cases q : k = 1
              · subst q; rw [pk_us, inr, nI_toInt (by omega)]; omega
              · rw [pk_un (by omega), P2 _ (by omega)]; exact k6.1 k hk
            · rw [pk_un (by omega), P2 _ (by omega)]; exact k6.2
          exact cOp_of (fun E => d_set_ok1 E μ S h1 h2 hv) (ACT_ok (c' := c) H I N ⟨m, c, b, rowI_far I2 (by omega), hs⟩ (far_upd (fun _ _ => rfl) (farC_no (by omega))) ((pk_un (by omega)).trans ((P2 1 (by omega)).trans I.2.2.1)) (Nat.le_refl c) h8 (ge0 (N.2.2.2.2.2.1 1 (by omega)).1))
      · exact cOp_of (fun E => d_set_bad1 E μ S hy) (ACT_same h (by decide))
    · by_cases hy : zin y 0 100
      · obtain ⟨v, h1, h2, rfl⟩ := hy
        by_cases hv : μ 4 = nI v
        · exact cOp_of (fun E => d_set_none2 E μ S h1 h2 hv) (ACT_same h (by decide))
        · have hs : SND (upd (zpush μ r z) 4 (nI v)) m := by
            obtain ⟨k1, k2, k3, k4, k5, k6⟩ := N
            refine ⟨k1.cong (fun f y _ _ => by rw [pk_un (by omega)]; exact P2 _ (by omega)) (fun x _ _ => by rw [pk_un (by omega)]; exact P2 _ (by omega)), k2.cong (Nat.le_refl m) (fun x _ _ => by rw [pk_un (by omega)]; exact P2 _ (by omega)), k3.cong (fun f k _ _ => by rw [pk_un (by omega)]; exact P2 _ (by omega)) (fun x _ _ => by rw [pk_un (by omega)]; exact P2 _ (by omega)), k4.cong (fun f _ => by rw [pk_un (by omega)]; exact P2 _ (by omega)) (fun x _ _ => by rw [pk_un (by omega)]; exact P2 _ (by omega)) (fun x _ _ => by rw [pk_un (by omega)]; exact P2 _ (by omega)), k5.cong (Nat.le_refl m) (fun f _ => ⟨by rw [pk_un (by omega)]; exact P2 _ (by omega), by rw [pk_un (by omega)]; exact P2 _ (by omega)⟩) (fun f k _ _ => by rw [pk_un (by omega)]; exact P2 _ (by omega)), ⟨fun k hk => ?_, ?_⟩⟩
            · by_cases q : k = 2
              · subst q; rw [pk_us, inr, nI_toInt (by omega)]; omega
              · rw [pk_un (by omega), P2 _ (by omega)]; exact k6.1 k hk
            · rw [pk_un (by omega), P2 _ (by omega)]; exact k6.2
          exact cOp_of (fun E => d_set_ok2 E μ S h1 h2 hv) (ACT_ok (c' := c) H I N ⟨m, c, b, rowI_far I2 (by omega), hs⟩ (far_upd (fun _ _ => rfl) (farC_no (by omega))) ((pk_un (by omega)).trans ((P2 1 (by omega)).trans I.2.2.1)) (Nat.le_refl c) h8 (ge0 (N.2.2.2.2.2.1 2 (by omega)).1))
      · exact cOp_of (fun E => d_set_bad2 E μ S hy) (ACT_same h (by decide))
    · by_cases hy : zin y 1 5
      · obtain ⟨v, h1, h2, rfl⟩ := hy
        by_cases hv : μ 5 = nI v
        · exact cOp_of (fun E => d_set_none3 E μ S h1 h2 hv) (ACT_same h (by decide))
        · exact cOp_of (fun E => d_set_ok3 E μ S h1 h2 hv) (ACT_ok (c' := c) H I N ⟨m, c, v, rowI_bank I2 h1 h2, (N.far (Nat.le_refl m) (fun f y _ _ _ _ => by rw [pk_un (by omega)]; exact P2 _ (by omega)) (fun x _ _ => by rw [pk_un (by omega)]; exact P2 _ (by omega)) (fun k _ => by rw [pk_un (by omega)]; exact P2 _ (by omega)) (by rw [pk_un (by omega)]; exact P2 _ (by omega)))⟩ (far_upd (fun _ _ => rfl) (farC_no (by omega))) ((pk_un (by omega)).trans ((P2 1 (by omega)).trans I.2.2.1)) (Nat.le_refl c) h8 (ge0 (by rw [I.2.2.2.2.1]; exact nI_ge0 (by have := I.2.2.2.2.2.2.1; omega))))
      · exact cOp_of (fun E => d_set_bad3 E μ S hy) (ACT_same h (by decide))
    · by_cases hy : zin y 0 99
      · obtain ⟨v, h1, h2, rfl⟩ := hy
        by_cases hv : μ 6 = nI v
        · exact cOp_of (fun E => d_set_none4 E μ S h1 h2 hv) (ACT_same h (by decide))
        · have hs : SND (upd (zpush μ r z) 6 (nI v)) m := by
            obtain ⟨k1, k2, k3, k4, k5, k6⟩ := N
            refine ⟨k1.cong (fun f y _ _ => by rw [pk_un (by omega)]; exact P2 _ (by omega)) (fun x _ _ => by rw [pk_un (by omega)]; exact P2 _ (by omega)), k2.cong (Nat.le_refl m) (fun x _ _ => by rw [pk_un (by omega)]; exact P2 _ (by omega)), k3.cong (fun f k _ _ => by rw [pk_un (by omega)]; exact P2 _ (by omega)) (fun x _ _ => by rw [pk_un (by omega)]; exact P2 _ (by omega)), k4.cong (fun f _ => by rw [pk_un (by omega)]; exact P2 _ (by omega)) (fun x _ _ => by rw [pk_un (by omega)]; exact P2 _ (by omega)) (fun x _ _ => by rw [pk_un (by omega)]; exact P2 _ (by omega)), k5.cong (Nat.le_refl m) (fun f _ => ⟨by rw [pk_un (by omega)]; exact P2 _ (by omega), by rw [pk_un (by omega)]; exact P2 _ (by omega)⟩) (fun f k _ _ => by rw [pk_un (by omega)]; exact P2 _ (by omega)), ⟨fun k hk => ?_, ?_⟩⟩
            · rw [pk_un (by omega), P2 _ (by omega)]; exact k6.1 k hk
            · rw [pk_us, inr, nI_toInt (by omega)]; omega
          exact cOp_of (fun E => d_set_ok4 E μ S h1 h2 hv) (ACT_ok (c' := c) H I N ⟨m, c, b, rowI_far I2 (by omega), hs⟩ (far_upd (fun _ _ => rfl) (farC_no (by omega))) ((pk_un (by omega)).trans ((P2 1 (by omega)).trans I.2.2.1)) (Nat.le_refl c) h8 (ge0 N.2.2.2.2.2.2.1))
      · exact cOp_of (fun E => d_set_bad4 E μ S hy) (ACT_same h (by decide))
  · exact cOp_of (fun E => d_set_badw E μ S hx y) (ACT_same h (by decide))
set_option maxHeartbeats 1000000 in
theorem a_issue {l : Launch} {B : Nat} {μ : Nat → Int32} (h : INV B μ) (hB : B ≤ 600) (x : Int32) (y : Int32) : cOp l B yX5_issue cX5_issue 5 [.int x, .int y] μ := by
  obtain ⟨m, c, b, r, z, kf, S, I, N, H⟩ := h.bundle
  have h8 := I.2.2.2.1
  have hr4 := H.2.1
  have P2 : ∀ x, x < 349 → zpush μ r z x = μ x := fun x hx => zpush_lo (p := x) (by omega) hr4
  have I2 : rowI (B + 1) (zpush μ r z) m c b := rowI_mono (rowI_cong I (fun x hx => (P2 x hx).symm)) (Nat.le_succ B)
  by_cases hx : zfm x c
  · obtain ⟨f, hf, rfl⟩ := hx
    by_cases ht : zin y 1 9999
    · obtain ⟨t, ht1, ht9, rfl⟩ := ht
      have hm := I.2.1
      have hA := (I.2.2.2.2.2.2.2.1 f (by omega)).1 (m / 12) (by omega)
      exact cOp_of (fun E => d_issue_ok E μ S hf ht1 ht9 rfl) (ACT_ok (c' := c) H I N ⟨m, c, b, rowI_far (rowI_held I2 hf (y := m / 12) (by omega) (by omega) (inr_add hA (by omega) (by omega))) (by omega), SND_issue (t := nI t) N (f := f) (y := m / 12) (by omega) rfl (by omega) (by rw [pk_un (by omega), pk_us]) (by rw [pk_us]) (fun x hx h1 h2 => by rw [pk_un (by omega), pk_un (by omega)]; exact P2 x hx)⟩ (far_upd (far_upd (fun _ _ => rfl) (farC_no (by omega))) (farC_no (by omega))) ((pk_un (by omega)).trans ((pk_un (by omega)).trans ((P2 1 (by omega)).trans I.2.2.1))) (Nat.le_refl c) h8 (ge0 (inr_add (M' := 100000 * (B + 1)) hA (by omega) (by omega)).1))
    · exact cOp_of (fun E => d_issue_b E μ S hf ht) (ACT_same h (by decide))
  · exact cOp_of (fun E => d_issue_u E μ S hx y) (ACT_same h (by decide))
set_option maxHeartbeats 1000000 in
theorem a_issueOffsets {l : Launch} {B : Nat} {μ : Nat → Int32} (h : INV B μ) (hB : B ≤ 600) (x : Int32) (y : Int32) (w : Int32) : cOp l B yX5_issueOffsets cX5_issueOffsets 5 [.int x, .int y, .int w] μ := by
  obtain ⟨m, c, b, r, z, kf, S, I, N, H⟩ := h.bundle
  have h8 := I.2.2.2.1
  have hr4 := H.2.1
  have P2 : ∀ x, x < 349 → zpush μ r z x = μ x := fun x hx => zpush_lo (p := x) (by omega) hr4
  have I2 : rowI (B + 1) (zpush μ r z) m c b := rowI_mono (rowI_cong I (fun x hx => (P2 x hx).symm)) (Nat.le_succ B)
  by_cases hx : zfm x c
  · obtain ⟨f, hf, rfl⟩ := hx
    by_cases hgz : zin y 0 2
    · obtain ⟨g, hg0, hg, rfl⟩ := hgz
      by_cases ht : zin w 1 9999
      · obtain ⟨t, ht1, ht9, rfl⟩ := ht
        have hA := (I.2.2.2.2.2.2.2.1 f (by omega)).1 (g + 20) (by omega)
        rw [show 32 * f + (g + 20) + 7 = 32 * f + g + 27 by omega] at hA
        exact cOp_of (fun E => d_issueOffsets_ok E μ S hf hg ht1 ht9) (ACT_ok (c' := c) H I N ⟨m, c, b, rowI_far (rowI_held I2 hf (y := g + 20) (by omega) (by omega) (inr_add hA (by omega) (by omega))) (by omega), SND_issueOff (t := nI t) N (f := f) (k := g) (by omega) (by omega) (by rw [pk_un (by omega), pk_us]) (by rw [pk_us]) (fun x hx h1 h2 => by rw [pk_un (by omega), pk_un (by omega)]; exact P2 x hx)⟩ (far_upd (far_upd (fun _ _ => rfl) (farC_no (by omega))) (farC_no (by omega))) ((pk_un (by omega)).trans ((pk_un (by omega)).trans ((P2 1 (by omega)).trans I.2.2.1))) (Nat.le_refl c) h8 (ge0 (inr_add (M' := 100000 * (B + 1)) hA (by omega) (by omega)).1))
      · exact cOp_of (fun E => d_issueOffsets_b E μ S hf hg ht) (ACT_same h (by decide))
    · exact cOp_of (fun E => d_issueOffsets_u2 E μ S hf hgz w) (ACT_same h (by decide))
  · exact cOp_of (fun E => d_issueOffsets_u1 E μ S hx y w) (ACT_same h (by decide))
set_option maxHeartbeats 1000000 in
theorem a_transfer {l : Launch} {B : Nat} {μ : Nat → Int32} (h : INV B μ) (hB : B ≤ 600) (x : Int32) (y : Int32) (k : Int32) (w : Int32) : cOp l B yX5_transfer cX5_transfer 6 [.int x, .int y, .int k, .int w] μ := by
  obtain ⟨m, c, b, r, z, kf, S, I, N, H⟩ := h.bundle
  have h8 := I.2.2.2.1
  have hr4 := H.2.1
  have P2 : ∀ x, x < 349 → zpush μ r z x = μ x := fun x hx => zpush_lo (p := x) (by omega) hr4
  have I2 : rowI (B + 1) (zpush μ r z) m c b := rowI_mono (rowI_cong I (fun x hx => (P2 x hx).symm)) (Nat.le_succ B)
  by_cases hx : zfm x c
  · obtain ⟨f, hf, rfl⟩ := hx
    by_cases hx2 : zfm y c
    · obtain ⟨f2, hf2, rfl⟩ := hx2
      by_cases hvz : zin k 0 19
      · obtain ⟨v, hv0, hv, rfl⟩ := hvz
        by_cases ht : zin w 1 9999
        · obtain ⟨t, ht1, ht9, rfl⟩ := ht
          by_cases hff : f = f2
          · subst hff
            exact cOp_of (fun E => d_transfer_b2 E μ S hf hv ht1 ht9) (ACT_same h (by decide))
          · have hne : f ≠ f2 := hff
            by_cases hle : nI t ≤ μ (32 * f + v + 7)
            · have hA := (I.2.2.2.2.2.2.2.1 f (by omega)).1 (v + 0) (by omega)
              have hA2 := (I.2.2.2.2.2.2.2.1 f2 (by omega)).1 (v + 0) (by omega)
              rw [show 32 * f + (v + 0) + 7 = 32 * f + v + 7 by omega] at hA
              rw [show 32 * f2 + (v + 0) + 7 = 32 * f2 + v + 7 by omega] at hA2
              have ht0 : 0 ≤ (nI t).toInt := nI_ge0 (by omega)
              have hM : 100000 * B < 2 ^ 30 := by omega
              exact cOp_of (fun E => d_transfer_ok E μ S hf hf2 hv ht1 ht9 hne hle) (ACT_ok (c' := c) H I N ⟨m, c, b, rowI_held (rowI_held I2 hf (y := v + 0) (by omega) (by omega) (inr_mono (inr_sub hA ht0 hle hM) (by omega))) hf2 (y := v + 0) (by omega) (by omega) (inr_add hA2 (by omega) (by omega)), SND_transfer (t := nI t) N (f := f) (q := f2) (v := v) (by omega) (by omega) hne (by omega) (by rw [pk_un (by omega), pk_us]) (by rw [pk_us]) (fun x hx h1 h2 => by rw [pk_un (by omega), pk_un (by omega)]; exact P2 x hx)⟩ (far_upd (far_upd (fun _ _ => rfl) (farC_no (by omega))) (farC_no (by omega))) ((pk_un (by omega)).trans ((pk_un (by omega)).trans ((P2 1 (by omega)).trans I.2.2.1))) (Nat.le_refl c) h8 (ge0 (inr_sub hA ht0 hle hM).1))
            · exact cOp_of (fun E => d_transfer_n E μ S hf hf2 hv ht1 ht9 hne hle) (ACT_same h (by decide))
        · exact cOp_of (fun E => d_transfer_b1 E μ S hf hf2 hv ht) (ACT_same h (by decide))
      · exact cOp_of (fun E => d_transfer_u3 E μ S hf hf2 hvz w) (ACT_same h (by decide))
    · exact cOp_of (fun E => d_transfer_u2 E μ S hf hx2 k w) (ACT_same h (by decide))
  · exact cOp_of (fun E => d_transfer_u1 E μ S hx y k w) (ACT_same h (by decide))
set_option maxHeartbeats 1000000 in
theorem a_transferOffsets {l : Launch} {B : Nat} {μ : Nat → Int32} (h : INV B μ) (hB : B ≤ 600) (x : Int32) (y : Int32) (k : Int32) (w : Int32) : cOp l B yX5_transferOffsets cX5_transferOffsets 7 [.int x, .int y, .int k, .int w] μ := by
  obtain ⟨m, c, b, r, z, kf, S, I, N, H⟩ := h.bundle
  have h8 := I.2.2.2.1
  have hr4 := H.2.1
  have P2 : ∀ x, x < 349 → zpush μ r z x = μ x := fun x hx => zpush_lo (p := x) (by omega) hr4
  have I2 : rowI (B + 1) (zpush μ r z) m c b := rowI_mono (rowI_cong I (fun x hx => (P2 x hx).symm)) (Nat.le_succ B)
  by_cases hx : zfm x c
  · obtain ⟨f, hf, rfl⟩ := hx
    by_cases hx2 : zfm y c
    · obtain ⟨f2, hf2, rfl⟩ := hx2
      by_cases hgz : zin k 0 2
      · obtain ⟨g, hg0, hg, rfl⟩ := hgz
        by_cases ht : zin w 1 9999
        · obtain ⟨t, ht1, ht9, rfl⟩ := ht
          by_cases hff : f = f2
          · subst hff
            exact cOp_of (fun E => d_transferOffsets_b2 E μ S hf hg ht1 ht9) (ACT_same h (by decide))
          · have hne : f ≠ f2 := hff
            by_cases hle : nI t ≤ μ (32 * f + g + 27)
            · have hA := (I.2.2.2.2.2.2.2.1 f (by omega)).1 (g + 20) (by omega)
              have hA2 := (I.2.2.2.2.2.2.2.1 f2 (by omega)).1 (g + 20) (by omega)
              rw [show 32 * f + (g + 20) + 7 = 32 * f + g + 27 by omega] at hA
              rw [show 32 * f2 + (g + 20) + 7 = 32 * f2 + g + 27 by omega] at hA2
              have ht0 : 0 ≤ (nI t).toInt := nI_ge0 (by omega)
              have hM : 100000 * B < 2 ^ 30 := by omega
              exact cOp_of (fun E => d_transferOffsets_ok E μ S hf hf2 hg ht1 ht9 hne hle) (ACT_ok (c' := c) H I N ⟨m, c, b, rowI_held (rowI_held I2 hf (y := g + 20) (by omega) (by omega) (inr_mono (inr_sub hA ht0 hle hM) (by omega))) hf2 (y := g + 20) (by omega) (by omega) (inr_add hA2 (by omega) (by omega)), SND_transferOff (t := nI t) N (f := f) (q := f2) (k := g) (by omega) (by omega) hne (by omega) (by rw [pk_un (by omega), pk_us]) (by rw [pk_us]) (fun x hx h1 h2 => by rw [pk_un (by omega), pk_un (by omega)]; exact P2 x hx)⟩ (far_upd (far_upd (fun _ _ => rfl) (farC_no (by omega))) (farC_no (by omega))) ((pk_un (by omega)).trans ((pk_un (by omega)).trans ((P2 1 (by omega)).trans I.2.2.1))) (Nat.le_refl c) h8 (ge0 (inr_sub hA ht0 hle hM).1))
            · exact cOp_of (fun E => d_transferOffsets_n E μ S hf hf2 hg ht1 ht9 hne hle) (ACT_same h (by decide))
        · exact cOp_of (fun E => d_transferOffsets_b1 E μ S hf hf2 hg ht) (ACT_same h (by decide))
      · exact cOp_of (fun E => d_transferOffsets_u3 E μ S hf hf2 hgz w) (ACT_same h (by decide))
    · exact cOp_of (fun E => d_transferOffsets_u2 E μ S hf hx2 k w) (ACT_same h (by decide))
  · by_cases hx2 : zfm y c
    · obtain ⟨f2, hf2, rfl⟩ := hx2
      exact cOp_of (fun E => d_transferOffsets_u1a E μ S hx hf2 k w) (ACT_same h (by decide))
    · exact cOp_of (fun E => d_transferOffsets_u1b E μ S hx hx2 k w) (ACT_same h (by decide))
set_option maxHeartbeats 1000000 in
theorem a_cancel {l : Launch} {B : Nat} {μ : Nat → Int32} (h : INV B μ) (hB : B ≤ 600) (x : Int32) (y : Int32) (w : Int32) : cOp l B yX5_cancel cX5_cancel 5 [.int x, .int y, .int w] μ := by
  obtain ⟨m, c, b, r, z, kf, S, I, N, H⟩ := h.bundle
  have h8 := I.2.2.2.1
  have hr4 := H.2.1
  have P2 : ∀ x, x < 349 → zpush μ r z x = μ x := fun x hx => zpush_lo (p := x) (by omega) hr4
  have I2 : rowI (B + 1) (zpush μ r z) m c b := rowI_mono (rowI_cong I (fun x hx => (P2 x hx).symm)) (Nat.le_succ B)
  by_cases hx : zfm x c
  · obtain ⟨f, hf, rfl⟩ := hx
    by_cases hvz : zin y 0 19
    · obtain ⟨v, hv0, hv, rfl⟩ := hvz
      by_cases ht : zin w 1 9999
      · obtain ⟨t, ht1, ht9, rfl⟩ := ht
        by_cases hle : nI t ≤ μ (32 * f + v + 7)
        · have hA := (I.2.2.2.2.2.2.2.1 f (by omega)).1 v (by omega)
          have ht0 : 0 ≤ (nI t).toInt := nI_ge0 (by omega)
          have hM : 100000 * B < 2 ^ 30 := by omega
          exact cOp_of (fun E => d_cancel_ok E μ S hf hv ht1 ht9 hle) (ACT_ok (c' := c) H I N ⟨m, c, b, rowI_far (rowI_held I2 hf (y := v) (by omega) (by omega) (inr_mono (inr_sub hA ht0 hle hM) (by omega))) (by omega), SND_cancel (t := nI t) N (f := f) (v := v) (by omega) (by omega) (by rw [pk_un (by omega), pk_us]) (by rw [pk_us]) (fun x hx h1 h2 => by rw [pk_un (by omega), pk_un (by omega)]; exact P2 x hx)⟩ (far_upd (far_upd (fun _ _ => rfl) (farC_no (by omega))) (farC_no (by omega))) ((pk_un (by omega)).trans ((pk_un (by omega)).trans ((P2 1 (by omega)).trans I.2.2.1))) (Nat.le_refl c) h8 (ge0 (inr_sub hA ht0 hle hM).1))
        · exact cOp_of (fun E => d_cancel_n E μ S hf hv ht1 ht9 hle) (ACT_same h (by decide))
      · exact cOp_of (fun E => d_cancel_b E μ S hf hv ht) (ACT_same h (by decide))
    · exact cOp_of (fun E => d_cancel_u2 E μ S hf hvz w) (ACT_same h (by decide))
  · exact cOp_of (fun E => d_cancel_u1 E μ S hx y w) (ACT_same h (by decide))
set_option maxHeartbeats 1000000 in
theorem a_report {l : Launch} {B : Nat} {μ : Nat → Int32} (h : INV B μ) (hB : B ≤ 600) (x : Int32) (y : Int32) : cOp l B yX5_report cX5_report 4 [.int x, .int y] μ := by
  obtain ⟨m, c, b, r, z, kf, S, I, N, H⟩ := h.bundle
  have h8 := I.2.2.2.1
  have hr4 := H.2.1
  have P2 : ∀ x, x < 349 → zpush μ r z x = μ x := fun x hx => zpush_lo (p := x) (by omega) hr4
  have I2 : rowI (B + 1) (zpush μ r z) m c b := rowI_mono (rowI_cong I (fun x hx => (P2 x hx).symm)) (Nat.le_succ B)
  by_cases hx : zfm x c
  · obtain ⟨f, hf, rfl⟩ := hx
    by_cases ht : zin y 1 9999
    · obtain ⟨t, ht1, ht9, rfl⟩ := ht
      obtain ⟨k1, k2, k3, k4, k5⟩ := I.2.2.2.2.2.2.2.1 f (by omega)
      by_cases hs : μ (32 * f + 33) + μ (32 * f + 34) + nI t ≤ nI 9999
      · have hs2 := hs
        have e1 := i32_add2 k3 k4 (by omega)
        have e2 : (μ (32 * f + 33) + μ (32 * f + 34) + nI t).toInt = (μ (32 * f + 33)).toInt + (μ (32 * f + 34)).toInt + t := by rw [i32_add2 (by omega) (by rw [nI_toInt (by omega)]; omega) (by rw [e1, nI_toInt (by omega)]; omega), e1, nI_toInt (by omega)]
        rw [Int32.le_iff_toInt_le, e2, nI_toInt (by omega)] at hs2
        have e3 : (μ (32 * f + 33) + nI t).toInt = (μ (32 * f + 33)).toInt + t := by rw [i32_add2 k3 (by rw [nI_toInt (by omega)]; omega) (by rw [nI_toInt (by omega)]; omega), nI_toInt (by omega)]
        exact cOp_of (fun E => d_report_ok E μ S hf ht1 ht9 hs) (ACT_ok (c' := c) H I N ⟨m, c, b, rowI_rep1 I2 hf rfl (by rw [e3]; omega) (by rw [e3, P2 _ (by omega)]; omega), (N.far (Nat.le_refl m) (fun f y _ _ _ _ => by rw [pk_un (by omega)]; exact P2 _ (by omega)) (fun x _ _ => by rw [pk_un (by omega)]; exact P2 _ (by omega)) (fun k _ => by rw [pk_un (by omega)]; exact P2 _ (by omega)) (by rw [pk_un (by omega)]; exact P2 _ (by omega)))⟩ (far_upd (fun _ _ => rfl) (farC_no (by omega))) ((pk_un (by omega)).trans ((P2 1 (by omega)).trans I.2.2.1)) (Nat.le_refl c) h8 (ge0 (by rw [e3]; omega)))
      · exact cOp_of (fun E => d_report_f E μ S hf ht1 ht9 hs) (ACT_same h (by decide))
    · exact cOp_of (fun E => d_report_b E μ S hf ht) (ACT_same h (by decide))
  · exact cOp_of (fun E => d_report_u E μ S hx y) (ACT_same h (by decide))
set_option maxHeartbeats 1000000 in
theorem a_verify {l : Launch} {B : Nat} {μ : Nat → Int32} (h : INV B μ) (hB : B ≤ 600) (x : Int32) : cOp l B yX5_verify cX5_verify 3 [.int x] μ := by
  obtain ⟨m, c, b, r, z, kf, S, I, N, H⟩ := h.bundle
  have h8 := I.2.2.2.1
  have hr4 := H.2.1
  have P2 : ∀ x, x < 349 → zpush μ r z x = μ x := fun x hx => zpush_lo (p := x) (by omega) hr4
  have I2 : rowI (B + 1) (zpush μ r z) m c b := rowI_mono (rowI_cong I (fun x hx => (P2 x hx).symm)) (Nat.le_succ B)
  by_cases hx : zfm x c
  · obtain ⟨f, hf, rfl⟩ := hx
    obtain ⟨k1, k2, k3, k4, k5⟩ := I.2.2.2.2.2.2.2.1 f (by omega)
    by_cases hs : μ (32 * f + 33) = 0
    · exact cOp_of (fun E => d_verify_n E μ S hf hs) (ACT_same h (by decide))
    · have e1 := i32_add2 k4 k3 (by omega)
      exact cOp_of (fun E => d_verify_ok E μ S hf hs) (ACT_ok (c' := c) H I N ⟨m, c, b, rowI_rep I2 hf rfl rfl (by rw [nI_toInt (by omega)]; omega) (by rw [e1]; omega) (by rw [e1, nI_toInt (by omega)]; omega), (N.far (Nat.le_refl m) (fun f y _ _ _ _ => by rw [pk_un (by omega), pk_un (by omega)]; exact P2 _ (by omega)) (fun x _ _ => by rw [pk_un (by omega), pk_un (by omega)]; exact P2 _ (by omega)) (fun k _ => by rw [pk_un (by omega), pk_un (by omega)]; exact P2 _ (by omega)) (by rw [pk_un (by omega), pk_un (by omega)]; exact P2 _ (by omega)))⟩ (far_upd (far_upd (fun _ _ => rfl) (farC_no (by omega))) (farC_no (by omega))) ((pk_un (by omega)).trans ((pk_un (by omega)).trans ((P2 1 (by omega)).trans I.2.2.1))) (Nat.le_refl c) h8 (ge0 (by rw [e1]; omega)))
  · exact cOp_of (fun E => d_verify_u E μ S hx) (ACT_same h (by decide))
set_option maxHeartbeats 1000000 in
theorem a_pass {l : Launch} {B : Nat} {μ : Nat → Int32} (h : INV B μ) (hB : B ≤ 600) (x : Int32) : cOp l B yX5_pass cX5_pass 4 [.int x] μ := by
  obtain ⟨m, c, b, r, z, kf, S, I, N, H⟩ := h.bundle
  have h8 := I.2.2.2.1
  have hr4 := H.2.1
  have P2 : ∀ x, x < 349 → zpush μ r z x = μ x := fun x hx => zpush_lo (p := x) (by omega) hr4
  have I2 : rowI (B + 1) (zpush μ r z) m c b := rowI_mono (rowI_cong I (fun x hx => (P2 x hx).symm)) (Nat.le_succ B)
  have hb := I.2.2.2.2.1
  have hb1 := I.2.2.2.2.2.1
  have hb5 := I.2.2.2.2.2.2.1
  by_cases hx : zin x 1 24
  · obtain ⟨q, hq1, hq9, rfl⟩ := hx
    by_cases hq : 239 < m + q
    · exact cOp_of (fun E => d_pass_n E μ S hq1 hq9 hq) (ACT_same h (by decide))
    · have hle : m + q ≤ 239 := by omega
      have I3 : rowI B (zpush μ r z) m c b := rowI_cong I (fun x hx => (P2 x hx).symm)
      have N2 : SND (zpush μ r z) m := N.cong P2
      obtain ⟨j1, j2, j3⟩ := zps_8 (M := zpush μ r z) (fun _ _ => rfl) (rowJ_of I3) (by omega) q hq9 (by omega)
      obtain ⟨s1, s2⟩ := SND_zps N2 (rowJ_of I3) (by omega) q hq9 (by omega)
      have hrow := rowJ_to (B := B + 1) (rowJ_cong j3 (fun x hx => (j1 x hx).symm)) (by omega) (by omega)
      exact cOp_of (fun E => d_pass_ok E μ S hq1 hq9 hb hb1 hb5 hle) (ACT_ok (c' := c) H I N ⟨q + m, c, b, hrow, s1⟩ (fun x hx => zps_far (by omega) (fun i hi => by omega) (by unfold farC at hx; omega) q hq9 (by omega)) ((zps_lo (by omega) (by omega) q).trans ((P2 1 (by omega)).trans I.2.2.1)) (Nat.le_refl c) h8 (ge0 s2.1))
  · exact cOp_of (fun E => d_pass_b E μ S hx) (ACT_same h (by decide))
