set_option maxHeartbeats 1000000 in
theorem op_plan {l : Launch} {B : Nat} {μ ν : Nat → Int32} (h : REL B μ ν) (hB : B ≤ 600) (x : Int32) (y : Int32) (k : Int32) (j : Int32) : zOp l B yX5_plan cX5_plan 6 yX6_plan cX6_plan 8 [.int x, .int y, .int k, .int j] μ ν := by
  obtain ⟨m, c, b, r, z, kf, n, SC, SR, P, I, H⟩ := h.bundle
  have h8 := I.2.2.2.1
  by_cases hx : zfm x c
  · obtain ⟨f, hf, rfl⟩ := hx
    by_cases ht : zin y 1 9999
    · obtain ⟨t, ht1, ht9, rfl⟩ := ht
      by_cases hw : zin k 0 2
      · obtain ⟨w, hw0, hw4, rfl⟩ := hw
        have hw : w = 0 ∨ w = 1 ∨ w = 2 := by omega
        rcases hw with rfl | rfl | rfl
        · obtain ⟨f1, f2, f3, f4, f5, f6, f7, f8⟩ := lay_facts (w := 0) P (I.2.2.2.2.2.2.2.1 f (by omega)) (show f < 8 by omega) ht9
          obtain ⟨L1, L2, L3⟩ := lay_REL H P I f1 f2
          have LR : REL (B + 1) _ _ := REL.up ⟨L1, ⟨m, c, b, L2⟩, r, z, kf, n, L3⟩
          by_cases hl : clay μ f (nI t) 0 2458 ≤ 0
          · by_cases hj : zin j 0 5
            · obtain ⟨w, hw0, hw4, rfl⟩ := hj
              have hw : w = 0 ∨ w = 1 ∨ w = 2 ∨ w = 3 ∨ w = 4 ∨ w = 5 := by omega
              rcases hw with rfl | rfl | rfl | rfl | rfl | rfl
              · exact zOp_det (fun E => d_plan_0_0 E μ SC hf ht1 ht9 hl) (fun E => c_plan_0_0 E ν SR hf ht1 ht9 (f3 ▸ hl)) (f4) (LR) (by decide) (by decide)
              · exact zOp_det (fun E => d_plan_0_1 E μ SC hf ht1 ht9 hl) (fun E => c_plan_0_1 E ν SR hf ht1 ht9 (f3 ▸ hl)) ((f8 0 (by omega)).1) (LR) (by decide) (by decide)
              · exact zOp_det (fun E => d_plan_0_2 E μ SC hf ht1 ht9 hl) (fun E => c_plan_0_2 E ν SR hf ht1 ht9 (f3 ▸ hl)) ((f8 1 (by omega)).1) (LR) (by decide) (by decide)
              · exact zOp_det (fun E => d_plan_0_3 E μ SC hf ht1 ht9 hl) (fun E => c_plan_0_3 E ν SR hf ht1 ht9 (f3 ▸ hl)) ((f8 2 (by omega)).1) (LR) (by decide) (by decide)
              · exact zOp_det (fun E => d_plan_0_4 E μ SC hf ht1 ht9 hl) (fun E => c_plan_0_4 E ν SR hf ht1 ht9 (f3 ▸ hl)) (f5) (LR) (by decide) (by decide)
              · exact zOp_det (fun E => d_plan_0_5 E μ SC hf ht1 ht9 hl) (fun E => c_plan_0_5 E ν SR hf ht1 ht9 (f3 ▸ hl)) (f6) (LR) (by decide) (by decide)
            · exact zOp_det (fun E => d_plan_b3 E μ SC hf ht1 ht9 (w := 0) (by omega) hj) (fun E => c_plan_b3 E ν SR hf ht1 ht9 (w := 0) (by omega) hj) (rfl) (h.up) (by decide) (by decide)
          · by_cases hj : zin j 0 5
            · obtain ⟨k5, hk0, hk5, rfl⟩ := hj
              exact zOp_det (fun E => d_plan_n0 E μ SC hf ht1 ht9 hk5 hl) (fun E => c_plan_n0 E ν SR hf ht1 ht9 hk5 (f3 ▸ hl)) (rfl) (LR) (by decide) (by decide)
            · exact zOp_det (fun E => d_plan_b3 E μ SC hf ht1 ht9 (w := 0) (by omega) hj) (fun E => c_plan_b3 E ν SR hf ht1 ht9 (w := 0) (by omega) hj) (rfl) (h.up) (by decide) (by decide)
        · obtain ⟨f1, f2, f3, f4, f5, f6, f7, f8⟩ := lay_facts (w := 1) P (I.2.2.2.2.2.2.2.1 f (by omega)) (show f < 8 by omega) ht9
          obtain ⟨L1, L2, L3⟩ := lay_REL H P I f1 f2
          have LR : REL (B + 1) _ _ := REL.up ⟨L1, ⟨m, c, b, L2⟩, r, z, kf, n, L3⟩
          by_cases hl : clay μ f (nI t) 1 2458 ≤ 0
          · by_cases hj : zin j 0 5
            · obtain ⟨w, hw0, hw4, rfl⟩ := hj
              have hw : w = 0 ∨ w = 1 ∨ w = 2 ∨ w = 3 ∨ w = 4 ∨ w = 5 := by omega
              rcases hw with rfl | rfl | rfl | rfl | rfl | rfl
              · exact zOp_det (fun E => d_plan_1_0 E μ SC hf ht1 ht9 hl) (fun E => c_plan_1_0 E ν SR hf ht1 ht9 (f3 ▸ hl)) (f4) (LR) (by decide) (by decide)
              · exact zOp_det (fun E => d_plan_1_1 E μ SC hf ht1 ht9 hl) (fun E => c_plan_1_1 E ν SR hf ht1 ht9 (f3 ▸ hl)) ((f8 0 (by omega)).1) (LR) (by decide) (by decide)
              · exact zOp_det (fun E => d_plan_1_2 E μ SC hf ht1 ht9 hl) (fun E => c_plan_1_2 E ν SR hf ht1 ht9 (f3 ▸ hl)) ((f8 1 (by omega)).1) (LR) (by decide) (by decide)
              · exact zOp_det (fun E => d_plan_1_3 E μ SC hf ht1 ht9 hl) (fun E => c_plan_1_3 E ν SR hf ht1 ht9 (f3 ▸ hl)) ((f8 2 (by omega)).1) (LR) (by decide) (by decide)
              · exact zOp_det (fun E => d_plan_1_4 E μ SC hf ht1 ht9 hl) (fun E => c_plan_1_4 E ν SR hf ht1 ht9 (f3 ▸ hl)) (f5) (LR) (by decide) (by decide)
              · exact zOp_det (fun E => d_plan_1_5 E μ SC hf ht1 ht9 hl) (fun E => c_plan_1_5 E ν SR hf ht1 ht9 (f3 ▸ hl)) (f6) (LR) (by decide) (by decide)
            · exact zOp_det (fun E => d_plan_b3 E μ SC hf ht1 ht9 (w := 1) (by omega) hj) (fun E => c_plan_b3 E ν SR hf ht1 ht9 (w := 1) (by omega) hj) (rfl) (h.up) (by decide) (by decide)
          · by_cases hj : zin j 0 5
            · obtain ⟨k5, hk0, hk5, rfl⟩ := hj
              exact zOp_det (fun E => d_plan_n1 E μ SC hf ht1 ht9 hk5 hl) (fun E => c_plan_n1 E ν SR hf ht1 ht9 hk5 (f3 ▸ hl)) (rfl) (LR) (by decide) (by decide)
            · exact zOp_det (fun E => d_plan_b3 E μ SC hf ht1 ht9 (w := 1) (by omega) hj) (fun E => c_plan_b3 E ν SR hf ht1 ht9 (w := 1) (by omega) hj) (rfl) (h.up) (by decide) (by decide)
        · obtain ⟨f1, f2, f3, f4, f5, f6, f7, f8⟩ := lay_facts (w := 2) P (I.2.2.2.2.2.2.2.1 f (by omega)) (show f < 8 by omega) ht9
          obtain ⟨L1, L2, L3⟩ := lay_REL H P I f1 f2
          have LR : REL (B + 1) _ _ := REL.up ⟨L1, ⟨m, c, b, L2⟩, r, z, kf, n, L3⟩
          by_cases hl : clay μ f (nI t) 2 2458 ≤ 0
          · by_cases hj : zin j 0 5
            · obtain ⟨w, hw0, hw4, rfl⟩ := hj
              have hw : w = 0 ∨ w = 1 ∨ w = 2 ∨ w = 3 ∨ w = 4 ∨ w = 5 := by omega
              rcases hw with rfl | rfl | rfl | rfl | rfl | rfl
              · exact zOp_det (fun E => d_plan_2_0 E μ SC hf ht1 ht9 hl) (fun E => c_plan_2_0 E ν SR hf ht1 ht9 (f3 ▸ hl)) (f4) (LR) (by decide) (by decide)
              · exact zOp_det (fun E => d_plan_2_1 E μ SC hf ht1 ht9 hl) (fun E => c_plan_2_1 E ν SR hf ht1 ht9 (f3 ▸ hl)) ((f8 0 (by omega)).1) (LR) (by decide) (by decide)
              · exact zOp_det (fun E => d_plan_2_2 E μ SC hf ht1 ht9 hl) (fun E => c_plan_2_2 E ν SR hf ht1 ht9 (f3 ▸ hl)) ((f8 1 (by omega)).1) (LR) (by decide) (by decide)
              · exact zOp_det (fun E => d_plan_2_3 E μ SC hf ht1 ht9 hl) (fun E => c_plan_2_3 E ν SR hf ht1 ht9 (f3 ▸ hl)) ((f8 2 (by omega)).1) (LR) (by decide) (by decide)
              · exact zOp_det (fun E => d_plan_2_4 E μ SC hf ht1 ht9 hl) (fun E => c_plan_2_4 E ν SR hf ht1 ht9 (f3 ▸ hl)) (f5) (LR) (by decide) (by decide)
              · exact zOp_det (fun E => d_plan_2_5 E μ SC hf ht1 ht9 hl) (fun E => c_plan_2_5 E ν SR hf ht1 ht9 (f3 ▸ hl)) (f6) (LR) (by decide) (by decide)
            · exact zOp_det (fun E => d_plan_b3 E μ SC hf ht1 ht9 (w := 2) (by omega) hj) (fun E => c_plan_b3 E ν SR hf ht1 ht9 (w := 2) (by omega) hj) (rfl) (h.up) (by decide) (by decide)
          · by_cases hj : zin j 0 5
            · obtain ⟨k5, hk0, hk5, rfl⟩ := hj
              exact zOp_det (fun E => d_plan_n2 E μ SC hf ht1 ht9 hk5 hl) (fun E => c_plan_n2 E ν SR hf ht1 ht9 hk5 (f3 ▸ hl)) (rfl) (LR) (by decide) (by decide)
            · exact zOp_det (fun E => d_plan_b3 E μ SC hf ht1 ht9 (w := 2) (by omega) hj) (fun E => c_plan_b3 E ν SR hf ht1 ht9 (w := 2) (by omega) hj) (rfl) (h.up) (by decide) (by decide)
      · exact zOp_det (fun E => d_plan_b2 E μ SC hf ht1 ht9 hw j) (fun E => c_plan_b2 E ν SR hf ht1 ht9 hw j) (rfl) (h.up) (by decide) (by decide)
    · exact zOp_det (fun E => d_plan_b1 E μ SC hf ht k j) (fun E => c_plan_b1 E ν SR hf ht k j) (rfl) (h.up) (by decide) (by decide)
  · exact zOp_det (fun E => d_plan_u E μ SC hx y k j) (fun E => c_plan_u E ν SR hx y k j) (rfl) (h.up) (by decide) (by decide)
set_option maxHeartbeats 1000000 in
theorem op_surrender {l : Launch} {B : Nat} {μ ν : Nat → Int32} (h : REL B μ ν) (hB : B ≤ 600) (x : Int32) (y : Int32) (k : Int32) : zOp l B yX5_surrender cX5_surrender 5 yX6_surrender cX6_surrender 5 [.int x, .int y, .int k] μ ν := by
  obtain ⟨m, c, b, r, z, kf, n, SC, SR, P, I, H⟩ := h.bundle
  have h8 := I.2.2.2.1
  by_cases hx : zfm x c
  · obtain ⟨f, hf, rfl⟩ := hx
    by_cases ht : zin y 1 9999
    · obtain ⟨t, ht1, ht9, rfl⟩ := ht
      by_cases hw : zin k 0 2
      · obtain ⟨w, hw0, hw4, rfl⟩ := hw
        have hw : w = 0 ∨ w = 1 ∨ w = 2 := by omega
        rcases hw with rfl | rfl | rfl
        · obtain ⟨f1, f2, f3, f4, f5, f6, f7, f8⟩ := lay_facts (w := 0) P (I.2.2.2.2.2.2.2.1 f (by omega)) (show f < 8 by omega) ht9
          obtain ⟨L1, L2, L3⟩ := lay_REL H P I f1 f2
          have LR : REL (B + 1) _ _ := REL.up ⟨L1, ⟨m, c, b, L2⟩, r, z, kf, n, L3⟩
          by_cases hd : μ (32 * f + 36) < nI t
          · obtain ⟨K1, K2, K3⟩ := lay_REL H P I (hM_same μ) f2
            exact zOp_det (fun E => d_surrender_n0 E μ SC hf ht1 ht9 hd) (fun E => c_surrender_n0 E ν SR hf ht1 ht9 (by rw [← P _ (by omega)]; exact hd)) rfl (REL.up ⟨K1, ⟨m, c, b, K2⟩, r, z, kf, n, K3⟩) (by decide) (by decide)
          · by_cases hl : clay μ f (nI t) 0 2458 ≤ 0
            · obtain ⟨P2, I2, r1, z1, H2⟩ := REL.pushed L3 L1 L2
              have hr4 := H.2.1
              have hz4 := H.2.2.2.1
              have tC : ∀ v, v < 20 → zpush (clay μ f (nI t) 0) r z (v + 2460) = zrec (zlay ν f (nI t) 0) 0 z (v + 2520) := fun v hv => by rw [zpush_lo (p := v + 2460) (by omega) hr4, zrec_out (p := v + 2520) (by omega) (by omega) hz4]; exact (f7 v hv).1
              have tG : ∀ g, g < 3 → zpush (clay μ f (nI t) 0) r z (g + 2480) = zrec (zlay ν f (nI t) 0) 0 z (g + 2540) := fun g hg => by rw [zpush_lo (p := g + 2480) (by omega) hr4, zrec_out (p := g + 2540) (by omega) (by omega) hz4]; exact (f8 g hg).1
              have aR : ∀ x, (x < 349 ∨ 2520 ≤ x) → zrec (zlay ν f (nI t) 0) 0 z x = zlay ν f (nI t) 0 x := fun x hx => zrec_out (p := x) (by omega) (by omega) hz4
              have aν : ∀ x, x < 349 → zlay ν f (nI t) 0 x = ν x := fun x hx => f2 x (by omega) (by omega) (by omega)
              obtain ⟨v1, v2, v3⟩ := zsv_eq P2 (show f < 8 by omega) tC 20 (Nat.le_refl 20)
              obtain ⟨s1, s2, s3⟩ := zsg_eq v1 (show f < 8 by omega) (fun g hg => by rw [v2 _ (by omega), v3 _ (by omega)]; exact tG g hg) 3 (Nat.le_refl 3)
              obtain ⟨i1, i2⟩ := rowI_zsv I2 hf (by omega) (fun v hv => by rw [aR (v + 2520) (by omega), aR (32 * f + v + 7) (by omega), aν (32 * f + v + 7) (by omega)]; exact (f7 v hv).2) 20 (Nat.le_refl 20)
              obtain ⟨j1, j2⟩ := rowI_zsg i1 hf (by omega) (fun g hg => by rw [i2 (g + 2540) (by omega) (by omega), i2 (32 * f + g + 27) (by omega) (by omega), aR (g + 2540) (by omega), aR (32 * f + g + 27) (by omega), aν (32 * f + g + 27) (by omega)]; exact (f8 g hg).2) 3 (Nat.le_refl 3)
              have d36 : zsg (zsv (zrec (zlay ν f (nI t) 0) 0 z) f 20) f 3 (32 * f + 36) = ν (32 * f + 36) := by rw [j2 _ (by omega) (by omega), i2 _ (by omega) (by omega), aR _ (by omega), aν _ (by omega)]
              have hdue := (I.2.2.2.2.2.2.2.1 f (by omega)).2.1
              have hle : nI t ≤ ν (32 * f + 36) := by rw [← P _ (by omega)]; exact Int32.not_lt.mp hd
              exact zOp_det (fun E => d_surrender_ok0 E μ SC hf ht1 ht9 hd hl) (fun E => c_surrender_ok0 E ν SR hf ht1 ht9 (fun q => hd (by rw [P _ (by omega)]; exact q)) (f3 ▸ hl)) (by rw [s1 _ (by omega)]) (REL.step H2 (by omega) (upd_eq (upd_eq s1 (by rw [s1 _ (by omega)])) (by rw [s1 _ (by omega)])) (rowI_any (rowI_due (rowI_mono j1 (Nat.le_succ B)) hf rfl (by rw [d36]; exact inr_mono (inr_sub hdue (by rw [nI_toInt (by omega)]; omega) hle (by omega)) (by omega))) hf (y := 30) (by omega) (by omega) (by omega) rfl) (far_upd (far_upd (fun x hx => (s2 x (by unfold farC at hx; omega)).trans (v2 x (by unfold farC at hx; omega))) (farC_no (by omega))) (farC_no (by omega))) (far_upd (far_upd (fun x hx => (s3 x (by unfold farR at hx; omega)).trans (v3 x (by unfold farR at hx; omega))) (farR_no (by omega))) (farR_no (by omega)))) (by decide) (by decide)
            · exact zOp_det (fun E => d_surrender_m0 E μ SC hf ht1 ht9 hd hl) (fun E => c_surrender_m0 E ν SR hf ht1 ht9 (fun q => hd (by rw [P _ (by omega)]; exact q)) (f3 ▸ hl)) (rfl) (LR) (by decide) (by decide)
        · obtain ⟨f1, f2, f3, f4, f5, f6, f7, f8⟩ := lay_facts (w := 1) P (I.2.2.2.2.2.2.2.1 f (by omega)) (show f < 8 by omega) ht9
          obtain ⟨L1, L2, L3⟩ := lay_REL H P I f1 f2
          have LR : REL (B + 1) _ _ := REL.up ⟨L1, ⟨m, c, b, L2⟩, r, z, kf, n, L3⟩
          by_cases hd : μ (32 * f + 36) < nI t
          · obtain ⟨K1, K2, K3⟩ := lay_REL H P I (hM_same μ) f2
            exact zOp_det (fun E => d_surrender_n1 E μ SC hf ht1 ht9 hd) (fun E => c_surrender_n1 E ν SR hf ht1 ht9 (by rw [← P _ (by omega)]; exact hd)) rfl (REL.up ⟨K1, ⟨m, c, b, K2⟩, r, z, kf, n, K3⟩) (by decide) (by decide)
          · by_cases hl : clay μ f (nI t) 1 2458 ≤ 0
            · obtain ⟨P2, I2, r1, z1, H2⟩ := REL.pushed L3 L1 L2
              have hr4 := H.2.1
              have hz4 := H.2.2.2.1
              have tC : ∀ v, v < 20 → zpush (clay μ f (nI t) 1) r z (v + 2460) = zrec (zlay ν f (nI t) 1) 0 z (v + 2520) := fun v hv => by rw [zpush_lo (p := v + 2460) (by omega) hr4, zrec_out (p := v + 2520) (by omega) (by omega) hz4]; exact (f7 v hv).1
              have tG : ∀ g, g < 3 → zpush (clay μ f (nI t) 1) r z (g + 2480) = zrec (zlay ν f (nI t) 1) 0 z (g + 2540) := fun g hg => by rw [zpush_lo (p := g + 2480) (by omega) hr4, zrec_out (p := g + 2540) (by omega) (by omega) hz4]; exact (f8 g hg).1
              have aR : ∀ x, (x < 349 ∨ 2520 ≤ x) → zrec (zlay ν f (nI t) 1) 0 z x = zlay ν f (nI t) 1 x := fun x hx => zrec_out (p := x) (by omega) (by omega) hz4
              have aν : ∀ x, x < 349 → zlay ν f (nI t) 1 x = ν x := fun x hx => f2 x (by omega) (by omega) (by omega)
              obtain ⟨v1, v2, v3⟩ := zsv_eq P2 (show f < 8 by omega) tC 20 (Nat.le_refl 20)
              obtain ⟨s1, s2, s3⟩ := zsg_eq v1 (show f < 8 by omega) (fun g hg => by rw [v2 _ (by omega), v3 _ (by omega)]; exact tG g hg) 3 (Nat.le_refl 3)
              obtain ⟨i1, i2⟩ := rowI_zsv I2 hf (by omega) (fun v hv => by rw [aR (v + 2520) (by omega), aR (32 * f + v + 7) (by omega), aν (32 * f + v + 7) (by omega)]; exact (f7 v hv).2) 20 (Nat.le_refl 20)
              obtain ⟨j1, j2⟩ := rowI_zsg i1 hf (by omega) (fun g hg => by rw [i2 (g + 2540) (by omega) (by omega), i2 (32 * f + g + 27) (by omega) (by omega), aR (g + 2540) (by omega), aR (32 * f + g + 27) (by omega), aν (32 * f + g + 27) (by omega)]; exact (f8 g hg).2) 3 (Nat.le_refl 3)
              have d36 : zsg (zsv (zrec (zlay ν f (nI t) 1) 0 z) f 20) f 3 (32 * f + 36) = ν (32 * f + 36) := by rw [j2 _ (by omega) (by omega), i2 _ (by omega) (by omega), aR _ (by omega), aν _ (by omega)]
              have hdue := (I.2.2.2.2.2.2.2.1 f (by omega)).2.1
              have hle : nI t ≤ ν (32 * f + 36) := by rw [← P _ (by omega)]; exact Int32.not_lt.mp hd
              exact zOp_det (fun E => d_surrender_ok1 E μ SC hf ht1 ht9 hd hl) (fun E => c_surrender_ok1 E ν SR hf ht1 ht9 (fun q => hd (by rw [P _ (by omega)]; exact q)) (f3 ▸ hl)) (by rw [s1 _ (by omega)]) (REL.step H2 (by omega) (upd_eq (upd_eq s1 (by rw [s1 _ (by omega)])) (by rw [s1 _ (by omega)])) (rowI_any (rowI_due (rowI_mono j1 (Nat.le_succ B)) hf rfl (by rw [d36]; exact inr_mono (inr_sub hdue (by rw [nI_toInt (by omega)]; omega) hle (by omega)) (by omega))) hf (y := 30) (by omega) (by omega) (by omega) rfl) (far_upd (far_upd (fun x hx => (s2 x (by unfold farC at hx; omega)).trans (v2 x (by unfold farC at hx; omega))) (farC_no (by omega))) (farC_no (by omega))) (far_upd (far_upd (fun x hx => (s3 x (by unfold farR at hx; omega)).trans (v3 x (by unfold farR at hx; omega))) (farR_no (by omega))) (farR_no (by omega)))) (by decide) (by decide)
            · exact zOp_det (fun E => d_surrender_m1 E μ SC hf ht1 ht9 hd hl) (fun E => c_surrender_m1 E ν SR hf ht1 ht9 (fun q => hd (by rw [P _ (by omega)]; exact q)) (f3 ▸ hl)) (rfl) (LR) (by decide) (by decide)
        · obtain ⟨f1, f2, f3, f4, f5, f6, f7, f8⟩ := lay_facts (w := 2) P (I.2.2.2.2.2.2.2.1 f (by omega)) (show f < 8 by omega) ht9
          obtain ⟨L1, L2, L3⟩ := lay_REL H P I f1 f2
          have LR : REL (B + 1) _ _ := REL.up ⟨L1, ⟨m, c, b, L2⟩, r, z, kf, n, L3⟩
          by_cases hd : μ (32 * f + 36) < nI t
          · obtain ⟨K1, K2, K3⟩ := lay_REL H P I (hM_same μ) f2
            exact zOp_det (fun E => d_surrender_n2 E μ SC hf ht1 ht9 hd) (fun E => c_surrender_n2 E ν SR hf ht1 ht9 (by rw [← P _ (by omega)]; exact hd)) rfl (REL.up ⟨K1, ⟨m, c, b, K2⟩, r, z, kf, n, K3⟩) (by decide) (by decide)
          · by_cases hl : clay μ f (nI t) 2 2458 ≤ 0
            · obtain ⟨P2, I2, r1, z1, H2⟩ := REL.pushed L3 L1 L2
              have hr4 := H.2.1
              have hz4 := H.2.2.2.1
              have tC : ∀ v, v < 20 → zpush (clay μ f (nI t) 2) r z (v + 2460) = zrec (zlay ν f (nI t) 2) 0 z (v + 2520) := fun v hv => by rw [zpush_lo (p := v + 2460) (by omega) hr4, zrec_out (p := v + 2520) (by omega) (by omega) hz4]; exact (f7 v hv).1
              have tG : ∀ g, g < 3 → zpush (clay μ f (nI t) 2) r z (g + 2480) = zrec (zlay ν f (nI t) 2) 0 z (g + 2540) := fun g hg => by rw [zpush_lo (p := g + 2480) (by omega) hr4, zrec_out (p := g + 2540) (by omega) (by omega) hz4]; exact (f8 g hg).1
              have aR : ∀ x, (x < 349 ∨ 2520 ≤ x) → zrec (zlay ν f (nI t) 2) 0 z x = zlay ν f (nI t) 2 x := fun x hx => zrec_out (p := x) (by omega) (by omega) hz4
              have aν : ∀ x, x < 349 → zlay ν f (nI t) 2 x = ν x := fun x hx => f2 x (by omega) (by omega) (by omega)
              obtain ⟨v1, v2, v3⟩ := zsv_eq P2 (show f < 8 by omega) tC 20 (Nat.le_refl 20)
              obtain ⟨s1, s2, s3⟩ := zsg_eq v1 (show f < 8 by omega) (fun g hg => by rw [v2 _ (by omega), v3 _ (by omega)]; exact tG g hg) 3 (Nat.le_refl 3)
              obtain ⟨i1, i2⟩ := rowI_zsv I2 hf (by omega) (fun v hv => by rw [aR (v + 2520) (by omega), aR (32 * f + v + 7) (by omega), aν (32 * f + v + 7) (by omega)]; exact (f7 v hv).2) 20 (Nat.le_refl 20)
              obtain ⟨j1, j2⟩ := rowI_zsg i1 hf (by omega) (fun g hg => by rw [i2 (g + 2540) (by omega) (by omega), i2 (32 * f + g + 27) (by omega) (by omega), aR (g + 2540) (by omega), aR (32 * f + g + 27) (by omega), aν (32 * f + g + 27) (by omega)]; exact (f8 g hg).2) 3 (Nat.le_refl 3)
              have d36 : zsg (zsv (zrec (zlay ν f (nI t) 2) 0 z) f 20) f 3 (32 * f + 36) = ν (32 * f + 36) := by rw [j2 _ (by omega) (by omega), i2 _ (by omega) (by omega), aR _ (by omega), aν _ (by omega)]
              have hdue := (I.2.2.2.2.2.2.2.1 f (by omega)).2.1
              have hle : nI t ≤ ν (32 * f + 36) := by rw [← P _ (by omega)]; exact Int32.not_lt.mp hd
              exact zOp_det (fun E => d_surrender_ok2 E μ SC hf ht1 ht9 hd hl) (fun E => c_surrender_ok2 E ν SR hf ht1 ht9 (fun q => hd (by rw [P _ (by omega)]; exact q)) (f3 ▸ hl)) (by rw [s1 _ (by omega)]) (REL.step H2 (by omega) (upd_eq (upd_eq s1 (by rw [s1 _ (by omega)])) (by rw [s1 _ (by omega)])) (rowI_any (rowI_due (rowI_mono j1 (Nat.le_succ B)) hf rfl (by rw [d36]; exact inr_mono (inr_sub hdue (by rw [nI_toInt (by omega)]; omega) hle (by omega)) (by omega))) hf (y := 30) (by omega) (by omega) (by omega) rfl) (far_upd (far_upd (fun x hx => (s2 x (by unfold farC at hx; omega)).trans (v2 x (by unfold farC at hx; omega))) (farC_no (by omega))) (farC_no (by omega))) (far_upd (far_upd (fun x hx => (s3 x (by unfold farR at hx; omega)).trans (v3 x (by unfold farR at hx; omega))) (farR_no (by omega))) (farR_no (by omega)))) (by decide) (by decide)
            · exact zOp_det (fun E => d_surrender_m2 E μ SC hf ht1 ht9 hd hl) (fun E => c_surrender_m2 E ν SR hf ht1 ht9 (fun q => hd (by rw [P _ (by omega)]; exact q)) (f3 ▸ hl)) (rfl) (LR) (by decide) (by decide)
      · exact zOp_det (fun E => d_surrender_b2 E μ SC hf ht1 ht9 hw) (fun E => c_surrender_b2 E ν SR hf ht1 ht9 hw) (rfl) (h.up) (by decide) (by decide)
    · exact zOp_det (fun E => d_surrender_b1 E μ SC hf ht k) (fun E => c_surrender_b1 E ν SR hf ht k) (rfl) (h.up) (by decide) (by decide)
  · exact zOp_det (fun E => d_surrender_u E μ SC hx y k) (fun E => c_surrender_u E ν SR hx y k) (rfl) (h.up) (by decide) (by decide)
