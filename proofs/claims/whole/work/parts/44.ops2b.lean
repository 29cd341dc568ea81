set_option maxHeartbeats 1000000 in
theorem op_set {l : Launch} {B : Nat} {μ ν : Nat → Int32} (h : REL B μ ν) (hB : B ≤ 600) (x : Int32) (y : Int32) : zOp l B yX5_set cX5_set 4 yX6_set cX6_set 6 [.int x, .int y] μ ν := by
  obtain ⟨m, c, b, r, z, kf, n, SC, SR, P, I, H⟩ := h.bundle
  have h8 := I.2.2.2.1
  by_cases hx : zin x 0 4
  · obtain ⟨w, hw0, hw4, rfl⟩ := hx
    have hw : w = 0 ∨ w = 1 ∨ w = 2 ∨ w = 3 ∨ w = 4 := by omega
    rcases hw with rfl | rfl | rfl | rfl | rfl
    · by_cases hy : zin y 0 100
      · obtain ⟨v, h1, h2, rfl⟩ := hy
        by_cases hv : μ 2 = nI v
        · exact zOp_det (N := ν) (b := -5) (fun E => d_set_none0 E μ SC h1 h2 hv) (fun E => c_set_none012 E ν SR (w := 0) (by omega) h1 h2 ((P 2 (by omega)).symm.trans hv)) rfl h.up (by decide) (by decide)
        · obtain ⟨P2, I2, r1, z1, H2⟩ := REL.pushed H P I
          have hC : _ := fun {D tc ad A tF tL tM} (E : zN 299 A ad) => d_set_ok0 (l := l) (D := D) (tc := tc) (tF := tF) (tL := tL) (tM := tM) E μ SC h1 h2 hv
          exact zOp_det (N := upd (zrec ν 0 z) 2 (nI v)) (b := ν 2) (fun E => hC E) (fun E => c_set_ok012 E ν SR (w := 0) (by omega) h1 h2 (fun q => hv ((P 2 (by omega)).trans q))) (P 2 (by omega)) (REL.step H2 (by omega) (upd_eq P2 rfl) (rowI_far (rowI_mono I2 (Nat.le_succ B)) (by omega)) (far_upd (fun _ _ => rfl) (farC_no (by omega))) (far_upd (fun _ _ => rfl) (farR_no (by omega)))) (by decide) (by decide)
      · exact zOp_det (N := ν) (b := -2) (fun E => d_set_bad0 E μ SC hy) (fun E => c_set_bad012 E ν SR (w := 0) (by omega) hy) rfl h.up (by decide) (by decide)
    · by_cases hy : zin y 0 100
      · obtain ⟨v, h1, h2, rfl⟩ := hy
        by_cases hv : μ 3 = nI v
        · exact zOp_det (N := ν) (b := -5) (fun E => d_set_none1 E μ SC h1 h2 hv) (fun E => c_set_none012 E ν SR (w := 1) (by omega) h1 h2 ((P 3 (by omega)).symm.trans hv)) rfl h.up (by decide) (by decide)
        · obtain ⟨P2, I2, r1, z1, H2⟩ := REL.pushed H P I
          have hC : _ := fun {D tc ad A tF tL tM} (E : zN 299 A ad) => d_set_ok1 (l := l) (D := D) (tc := tc) (tF := tF) (tL := tL) (tM := tM) E μ SC h1 h2 hv
          exact zOp_det (N := upd (zrec ν 0 z) 3 (nI v)) (b := ν 3) (fun E => hC E) (fun E => c_set_ok012 E ν SR (w := 1) (by omega) h1 h2 (fun q => hv ((P 3 (by omega)).trans q))) (P 3 (by omega)) (REL.step H2 (by omega) (upd_eq P2 rfl) (rowI_far (rowI_mono I2 (Nat.le_succ B)) (by omega)) (far_upd (fun _ _ => rfl) (farC_no (by omega))) (far_upd (fun _ _ => rfl) (farR_no (by omega)))) (by decide) (by decide)
      · exact zOp_det (N := ν) (b := -2) (fun E => d_set_bad1 E μ SC hy) (fun E => c_set_bad012 E ν SR (w := 1) (by omega) hy) rfl h.up (by decide) (by decide)
    · by_cases hy : zin y 0 100
      · obtain ⟨v, h1, h2, rfl⟩ := hy
        by_cases hv : μ 4 = nI v
        · exact zOp_det (N := ν) (b := -5) (fun E => d_set_none2 E μ SC h1 h2 hv) (fun E => c_set_none012 E ν SR (w := 2) (by omega) h1 h2 ((P 4 (by omega)).symm.trans hv)) rfl h.up (by decide) (by decide)
        · obtain ⟨P2, I2, r1, z1, H2⟩ := REL.pushed H P I
          have hC : _ := fun {D tc ad A tF tL tM} (E : zN 299 A ad) => d_set_ok2 (l := l) (D := D) (tc := tc) (tF := tF) (tL := tL) (tM := tM) E μ SC h1 h2 hv
          exact zOp_det (N := upd (zrec ν 0 z) 4 (nI v)) (b := ν 4) (fun E => hC E) (fun E => c_set_ok012 E ν SR (w := 2) (by omega) h1 h2 (fun q => hv ((P 4 (by omega)).trans q))) (P 4 (by omega)) (REL.step H2 (by omega) (upd_eq P2 rfl) (rowI_far (rowI_mono I2 (Nat.le_succ B)) (by omega)) (far_upd (fun _ _ => rfl) (farC_no (by omega))) (far_upd (fun _ _ => rfl) (farR_no (by omega)))) (by decide) (by decide)
      · exact zOp_det (N := ν) (b := -2) (fun E => d_set_bad2 E μ SC hy) (fun E => c_set_bad012 E ν SR (w := 2) (by omega) hy) rfl h.up (by decide) (by decide)
    · by_cases hy : zin y 1 5
      · obtain ⟨v, h1, h2, rfl⟩ := hy
        by_cases hv : μ 5 = nI v
        · exact zOp_det (N := ν) (b := -5) (fun E => d_set_none3 E μ SC h1 h2 hv) (fun E => c_set_none3 E ν SR h1 h2 ((P 5 (by omega)).symm.trans hv)) rfl h.up (by decide) (by decide)
        · obtain ⟨P2, I2, r1, z1, H2⟩ := REL.pushed H P I
          have hC : _ := fun {D tc ad A tF tL tM} (E : zN 299 A ad) => d_set_ok3 (l := l) (D := D) (tc := tc) (tF := tF) (tL := tL) (tM := tM) E μ SC h1 h2 hv
          exact zOp_det (N := upd (zrec ν 0 z) 5 (nI v)) (b := ν 5) (fun E => hC E) (fun E => c_set_ok3 E ν SR h1 h2 (fun q => hv ((P 5 (by omega)).trans q))) (P 5 (by omega)) (REL.step H2 (by omega) (upd_eq P2 rfl) (rowI_bank (rowI_mono I2 (Nat.le_succ B)) h1 h2) (far_upd (fun _ _ => rfl) (farC_no (by omega))) (far_upd (fun _ _ => rfl) (farR_no (by omega)))) (by decide) (by decide)
      · exact zOp_det (N := ν) (b := -2) (fun E => d_set_bad3 E μ SC hy) (fun E => c_set_bad3 E ν SR hy) rfl h.up (by decide) (by decide)
    · by_cases hy : zin y 0 99
      · obtain ⟨v, h1, h2, rfl⟩ := hy
        by_cases hv : μ 6 = nI v
        · exact zOp_det (N := ν) (b := -5) (fun E => d_set_none4 E μ SC h1 h2 hv) (fun E => c_set_none4 E ν SR h1 h2 ((P 6 (by omega)).symm.trans hv)) rfl h.up (by decide) (by decide)
        · obtain ⟨P2, I2, r1, z1, H2⟩ := REL.pushed H P I
          have hC : _ := fun {D tc ad A tF tL tM} (E : zN 299 A ad) => d_set_ok4 (l := l) (D := D) (tc := tc) (tF := tF) (tL := tL) (tM := tM) E μ SC h1 h2 hv
          exact zOp_det (N := upd (zrec ν 0 z) 6 (nI v)) (b := ν 6) (fun E => hC E) (fun E => c_set_ok4 E ν SR h1 h2 (fun q => hv ((P 6 (by omega)).trans q))) (P 6 (by omega)) (REL.step H2 (by omega) (upd_eq P2 rfl) (rowI_far (rowI_mono I2 (Nat.le_succ B)) (by omega)) (far_upd (fun _ _ => rfl) (farC_no (by omega))) (far_upd (fun _ _ => rfl) (farR_no (by omega)))) (by decide) (by decide)
      · exact zOp_det (N := ν) (b := -2) (fun E => d_set_bad4 E μ SC hy) (fun E => c_set_bad4 E ν SR hy) rfl h.up (by decide) (by decide)
  · exact zOp_det (fun E => d_set_badw E μ SC hx y) (fun E => c_set_badw E ν SR hx y) (rfl) (h.up) (by decide) (by decide)
set_option maxHeartbeats 1000000 in
theorem op_report {l : Launch} {B : Nat} {μ ν : Nat → Int32} (h : REL B μ ν) (hB : B ≤ 600) (x : Int32) (y : Int32) : zOp l B yX5_report cX5_report 4 yX6_report cX6_report 3 [.int x, .int y] μ ν := by
  obtain ⟨m, c, b, r, z, kf, n, SC, SR, P, I, H⟩ := h.bundle
  have h8 := I.2.2.2.1
  by_cases hx : zfm x c
  · obtain ⟨f, hf, rfl⟩ := hx
    by_cases ht : zin y 1 9999
    · obtain ⟨t, ht1, ht9, rfl⟩ := ht
      obtain ⟨k1, k2, k3, k4, k5⟩ := (I.2.2.2.2.2.2.2.1 f (by omega))
      have hS : (μ (32 * f + 33) + μ (32 * f + 34) + nI t ≤ nI 9999) ↔ (ν (32 * f + 33) + ν (32 * f + 34) + nI t ≤ nI 9999) := by rw [P (32 * f + 33) (by omega), P (32 * f + 34) (by omega)]
      by_cases hs : μ (32 * f + 33) + μ (32 * f + 34) + nI t ≤ nI 9999
      · have hs2 := hS.mp hs
        have e1 := i32_add2 k3 k4 (by omega)
        have e2 : (ν (32 * f + 33) + ν (32 * f + 34) + nI t).toInt = (ν (32 * f + 33)).toInt + (ν (32 * f + 34)).toInt + t := by rw [i32_add2 (by omega) (by rw [nI_toInt (by omega)]; omega) (by rw [e1, nI_toInt (by omega)]; omega), e1, nI_toInt (by omega)]
        rw [Int32.le_iff_toInt_le, e2, nI_toInt (by omega)] at hs2
        have e3 : (ν (32 * f + 33) + nI t).toInt = (ν (32 * f + 33)).toInt + t := by rw [i32_add2 k3 (by rw [nI_toInt (by omega)]; omega) (by rw [nI_toInt (by omega)]; omega), nI_toInt (by omega)]
        obtain ⟨P2, I2, r1, z1, H2⟩ := REL.pushed H P I
        exact zOp_det (fun E => d_report_ok E μ SC hf ht1 ht9 hs) (fun E => c_report_ok E ν SR hf ht1 ht9 (hS.mp hs)) (by rw [P _ (by omega)]) (REL.step H2 (by omega) (upd_eq P2 (by rw [P _ (by omega)])) (rowI_rep1 (rowI_mono I2 (Nat.le_succ B)) hf rfl (by rw [e3]; omega) (by rw [e3, zrec_out (p := 32 * f + 34) (by omega) (by omega) H.2.2.2.1]; omega)) (far_upd (fun _ _ => rfl) (farC_no (by omega))) (far_upd (fun _ _ => rfl) (farR_no (by omega)))) (by decide) (by decide)
      · exact zOp_det (fun E => d_report_f E μ SC hf ht1 ht9 hs) (fun E => c_report_f E ν SR hf ht1 ht9 (fun q => hs (hS.mpr q))) (rfl) (h.up) (by decide) (by decide)
    · exact zOp_det (fun E => d_report_b E μ SC hf ht) (fun E => c_report_b E ν SR hf ht) (rfl) (h.up) (by decide) (by decide)
  · exact zOp_det (fun E => d_report_u E μ SC hx y) (fun E => c_report_u E ν SR hx y) (rfl) (h.up) (by decide) (by decide)
set_option maxHeartbeats 1000000 in
theorem op_verify {l : Launch} {B : Nat} {μ ν : Nat → Int32} (h : REL B μ ν) (hB : B ≤ 600) (x : Int32) : zOp l B yX5_verify cX5_verify 3 yX6_verify cX6_verify 2 [.int x] μ ν := by
  obtain ⟨m, c, b, r, z, kf, n, SC, SR, P, I, H⟩ := h.bundle
  have h8 := I.2.2.2.1
  by_cases hx : zfm x c
  · obtain ⟨f, hf, rfl⟩ := hx
    obtain ⟨k1, k2, k3, k4, k5⟩ := (I.2.2.2.2.2.2.2.1 f (by omega))
    by_cases hs : μ (32 * f + 33) = 0
    · exact zOp_det (fun E => d_verify_n E μ SC hf hs) (fun E => c_verify_n E ν SR hf ((P _ (by omega)).symm.trans hs)) (rfl) (h.up) (by decide) (by decide)
    · have e1 := i32_add2 k4 k3 (by omega)
      obtain ⟨P2, I2, r1, z1, H2⟩ := REL.pushed H P I
      exact zOp_det (fun E => d_verify_ok E μ SC hf hs) (fun E => c_verify_ok E ν SR hf (fun q => hs ((P _ (by omega)).trans q))) (by rw [P (32 * f + 34) (by omega), P (32 * f + 33) (by omega)]) (REL.step H2 (by omega) (upd_eq (upd_eq P2 (by rw [P (32 * f + 34) (by omega), P (32 * f + 33) (by omega)])) (rfl)) (rowI_rep (rowI_mono I2 (Nat.le_succ B)) hf rfl rfl (by rw [nI_toInt (by omega)]; omega) (by rw [e1]; omega) (by rw [e1, nI_toInt (by omega)]; omega)) (far_upd (far_upd (fun _ _ => rfl) (farC_no (by omega))) (farC_no (by omega))) (far_upd (far_upd (fun _ _ => rfl) (farR_no (by omega))) (farR_no (by omega)))) (by decide) (by decide)
  · exact zOp_det (fun E => d_verify_u E μ SC hx) (fun E => c_verify_u E ν SR hx) (rfl) (h.up) (by decide) (by decide)
set_option maxHeartbeats 1000000 in
theorem op_undo {l : Launch} {B : Nat} {μ ν : Nat → Int32} (h : REL B μ ν) (hB : B ≤ 600) : zOp l B yX5_undo cX5_undo 1 yX6_undo cX6_undo 1 [] μ ν := by
  obtain ⟨m, c, b, r, z, kf, n, SC, SR, P, I, H⟩ := h.bundle
  have h8 := I.2.2.2.1
  have H0 := H
  obtain ⟨hr, hr4, hz, hz4, hk, _⟩ := H
  cases z with
  | zero => exact zOp_det (fun E => d_undo_none E μ hz) (fun E => c_undo_none E ν hk) rfl h.up (by decide) (by decide)
  | succ z => exact zOp_det (fun E => d_undo_ok E μ hr hr4 rfl hz (by omega)) (fun E => c_undo_ok E ν hk (by omega)) rfl (rst_pop H0 rfl).up (by decide) (by decide)
set_option maxHeartbeats 1000000 in
theorem op_keep {l : Launch} {B : Nat} {μ ν : Nat → Int32} (h : REL B μ ν) (hB : B ≤ 600) : zOp l B yX5_keep cX5_keep 1 yX6_keep cX6_keep 1 [] μ ν := by
  obtain ⟨m, c, b, r, z, kf, n, SC, SR, P, I, H⟩ := h.bundle
  have h8 := I.2.2.2.1
  have hI2 : rowI B (upd (cp ν 0 1745) 2445 (nI 1)) m c b := rowI_cong I (fun x hx => by rw [pk_un (by omega), cp_out (by omega)])
  exact zOp_det (fun E => d_keep E μ SC) (fun E => c_keep E ν SR) rfl (REL.up ⟨fun x hx => by rw [pk_un (by omega), pk_un (by omega), cp_out (by omega), cp_out (by omega)]; exact P x hx, ⟨m, c, b, hI2⟩, r, z, 1, n, rst_kept H P I⟩) (by decide) (by decide)
set_option maxHeartbeats 1000000 in
theorem op_restore {l : Launch} {B : Nat} {μ ν : Nat → Int32} (h : REL B μ ν) (hB : B ≤ 600) : zOp l B yX5_restore cX5_restore 1 yX6_restore cX6_restore 1 [] μ ν := by
  obtain ⟨m, c, b, r, z, kf, n, SC, SR, P, I, H⟩ := h.bundle
  have h8 := I.2.2.2.1
  have hkf := H.2.2.2.2.2.2.1
  have q1 := H.2.2.2.2.2.2.2.1
  have q2 := H.2.2.2.2.2.2.2.2.1
  have hk01 : kf = 0 ∨ kf = 1 := by omega
  rcases hk01 with rfl | rfl
  · exact zOp_det (fun E => d_restore_none E μ SC q1) (fun E => c_restore_none E ν SR q2) (rfl) (h.up) (by decide) (by decide)
  · exact zOp_det (fun E => d_restore_ok E μ SC q1) (fun E => c_restore_ok E ν SR q2) ((H.2.2.2.2.2.2.2.2.2.1 rfl).1 0 (by omega)) (rst_restore H P I).up (by decide) (by decide)
