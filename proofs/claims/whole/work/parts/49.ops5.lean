set_option maxHeartbeats 1000000 in
theorem op_pass {l : Launch} {B : Nat} {μ ν : Nat → Int32} (h : REL B μ ν) (hB : B ≤ 600) (x : Int32) : zOp l B yX5_pass cX5_pass 4 yX6_pass cX6_pass 4 [.int x] μ ν := by
  obtain ⟨m, c, b, r, z, kf, n, SC, SR, P, I, H⟩ := h.bundle
  have h8 := I.2.2.2.1
  have hb := I.2.2.2.2.1
  have hb1 := I.2.2.2.2.2.1
  have hb5 := I.2.2.2.2.2.2.1
  have hbC := (P 5 (by omega)).trans hb
  by_cases hx : zin x 1 24
  · obtain ⟨q, hq1, hq2, rfl⟩ := hx
    by_cases hq : 239 < m + q
    · exact zOp_det (fun E => d_pass_n E μ SC hq1 hq2 hq) (fun E => c_pass_n E ν SR hq1 hq2 hq) (rfl) (h.up) (by decide) (by decide)
    · obtain ⟨P2, I2, r1, z1, H2⟩ := REL.pushed H P I
      have hle : m + q ≤ 239 := by omega
      obtain ⟨j1, j2, j3⟩ := zps_8 P2 (rowJ_of I2) (by omega) q hq2 (by omega)
      exact zOp_det (fun E => d_pass_ok E μ SC hq1 hq2 hbC hb1 hb5 hle) (fun E => c_pass_ok E ν SR hq1 hq2 hb hb1 hb5 hle) j2 (REL.step H2 (by omega) j1 (rowJ_to j3 (by omega) (by omega)) (fun x hx => zps_far (by omega) (fun i hi => by omega) (by unfold farC at hx; omega) q hq2 (by omega)) (fun x hx => zps_far h8 (fun i hi => by omega) (by unfold farR at hx; omega) q hq2 (by omega))) (by decide) (by decide)
  · exact zOp_det (fun E => d_pass_b E μ SC hx) (fun E => c_pass_b E ν SR hx) (rfl) (h.up) (by decide) (by decide)
