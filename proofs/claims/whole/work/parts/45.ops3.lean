theorem zdl {m : Nat} (hm : m < 240) : ∃ q, m < q ∧ q ≤ m + 16 ∧ q % 12 = 4 ∧ 12 ≤ q ∧ (∀ i, m < i → i < q → ¬ (i % 12 = 4 ∧ 12 ≤ i)) ∧ (if m % 12 < 4 ∧ 0 < m / 12 then 4 - m % 12 else 16 - m % 12) = q - m := by
  by_cases h : m % 12 < 4 ∧ 0 < m / 12
  · refine ⟨m + (4 - m % 12), by omega, by omega, by omega, by omega, fun i h1 h2 => by omega, ?_⟩
    rw [if_pos h]; omega
  · refine ⟨m + (16 - m % 12), by omega, by omega, by omega, by omega, fun i h1 h2 => by omega, ?_⟩
    rw [if_neg h]; omega
/-- a character is typed -/
theorem rst_type {B : Nat} {μ ν : Nat → Int32} {r z kf n : Nat} {x : Int32} (h : rst B μ ν r z kf n) (hn : n < 60) : rst B (upd (upd μ (n + 2500) x) 2491 (nI (n + 1))) (upd (upd ν (n + 2460) x) 2447 (nI (n + 1))) r z kf (n + 1) := by
  obtain ⟨h1, h2, h3, h4, h5, h6, h7, h8, h9, h10, h11, h12, h13, h14⟩ := h
  have fC : ∀ q, q ≠ n + 2500 → q ≠ 2491 → upd (upd μ (n + 2500) x) 2491 (nI (n + 1)) q = μ q := fun q a b => by rw [pk_un b, pk_un a]
  have fR : ∀ q, q ≠ n + 2460 → q ≠ 2447 → upd (upd ν (n + 2460) x) 2447 (nI (n + 1)) q = ν q := fun q a b => by rw [pk_un b, pk_un a]
  refine ⟨(fC _ (by omega) (by omega)).trans h1, h2, (fC _ (by omega) (by omega)).trans h3, h4, (fR _ (by omega) (by omega)).trans h5, fun q hq => ?_, h7, (fC _ (by omega) (by omega)).trans h8, (fR _ (by omega) (by omega)).trans h9, fun hk => ?_, by omega, pk_us, pk_us, fun q hq => ?_⟩
  · have hl := hrow_lt r z q
    obtain ⟨k1, k2⟩ := h6 q hq
    refine ⟨fun y hy => ?_, okR_cong k2 (fun y hy => fR _ (by omega) (by omega))⟩
    rw [fC _ (by omega) (by omega), fR _ (by omega) (by omega)]
    exact k1 y hy
  · obtain ⟨k1, k2⟩ := h10 hk
    refine ⟨fun y hy => ?_, okR_cong k2 (fun y hy => fR _ (by omega) (by omega))⟩
    rw [fC _ (by omega) (by omega), fR _ (by omega) (by omega)]
    exact k1 y hy
  · by_cases e : q = n
    · subst e
      rw [pk_un (by omega), pk_us, pk_un (by omega), pk_us]
    · rw [fC _ (by omega) (by omega), fR _ (by omega) (by omega)]
      exact h14 q hq
theorem rst_clear {B : Nat} {μ ν : Nat → Int32} {r z kf n : Nat} (h : rst B μ ν r z kf n) : rst B (upd μ 2491 (nI 0)) (upd ν 2447 (nI 0)) r z kf 0 := by
  obtain ⟨h1, h2, h3, h4, h5, h6, h7, h8, h9, h10, h11, h12, h13, h14⟩ := h
  refine ⟨(pk_un (by omega)).trans h1, h2, (pk_un (by omega)).trans h3, h4, (pk_un (by omega)).trans h5, fun q hq => ?_, h7, (pk_un (by omega)).trans h8, (pk_un (by omega)).trans h9, fun hk => ?_, by omega, pk_us, pk_us, fun q hq => ?_⟩
  · have hl := hrow_lt r z q
    obtain ⟨k1, k2⟩ := h6 q hq
    refine ⟨fun y hy => ?_, okR_cong k2 (fun y hy => pk_un (by omega))⟩
    rw [pk_un (by omega), pk_un (by omega)]
    exact k1 y hy
  · obtain ⟨k1, k2⟩ := h10 hk
    refine ⟨fun y hy => ?_, okR_cong k2 (fun y hy => pk_un (by omega))⟩
    rw [pk_un (by omega), pk_un (by omega)]
    exact k1 y hy
  · rw [pk_un (by omega), pk_un (by omega)]
    exact h14 q hq
theorem zsum_0 {g : Nat → Int32} : ∀ n, (∀ i, i < n → g i = nI 0) → zsum g n = nI 0
  | 0, _ => rfl
  | n + 1, h => by
    simp only [zsum]
    rw [zsum_0 n (fun i hi => h i (by omega)), h n (by omega)]
    rfl
theorem op_type {l : Launch} {B : Nat} {μ ν : Nat → Int32} (h : REL B μ ν) (hB : B ≤ 600) (x : Int32) (hx : narrow .char (.int x) = .int x) : zOp l B yX5_type cX5_type 2 yX6_type cX6_type 2 [.int x] μ ν := by
  obtain ⟨m, c, b, r, z, kf, n, SC, SR, P, I, H⟩ := h.bundle
  have hn2 := H.2.2.2.2.2.2.2.2.2.2.1
  have q1 := H.2.2.2.2.2.2.2.2.2.2.2.1
  have q2 := H.2.2.2.2.2.2.2.2.2.2.2.2.1
  by_cases hn : n = 60
  · exact zOp_det (fun E => d_type_full E μ q1 hn2 hn x) (fun E => c_type_full E ν q2 hn2 hn x) (rfl) (h.up) (by decide) (by decide)
  · have hlt : n < 60 := by omega
    exact zOp_det (fun E => d_type_ok E μ q1 hn2 hlt hx) (fun E => c_type_ok E ν q2 hn2 hlt x) rfl (REL.up ⟨fun y hy => by rw [pk_un (by omega), pk_un (by omega), pk_un (by omega), pk_un (by omega)]; exact P y hy, ⟨m, c, b, rowI_cong I (fun y hy => by rw [pk_un (by omega), pk_un (by omega)])⟩, r, z, kf, n + 1, rst_type H hlt⟩) (by decide) (by decide)
set_option maxHeartbeats 1000000 in
theorem op_clearText {l : Launch} {B : Nat} {μ ν : Nat → Int32} (h : REL B μ ν) (hB : B ≤ 600) : zOp l B yX5_clearText cX5_clearText 2 yX6_clearText cX6_clearText 2 [] μ ν := by
  obtain ⟨m, c, b, r, z, kf, n, SC, SR, P, I, H⟩ := h.bundle
  have h8 := I.2.2.2.1
  have hn2 := H.2.2.2.2.2.2.2.2.2.2.1
  have q1 := H.2.2.2.2.2.2.2.2.2.2.2.1
  have q2 := H.2.2.2.2.2.2.2.2.2.2.2.2.1
  exact zOp_det (fun E => d_clearText E μ q1 hn2) (fun E => c_clearText E ν q2 hn2) rfl (REL.up ⟨fun y hy => by rw [pk_un (by omega), pk_un (by omega)]; exact P y hy, ⟨m, c, b, rowI_cong I (fun y hy => by rw [pk_un (by omega)])⟩, r, z, kf, 0, rst_clear H⟩) (by decide) (by decide)
set_option maxHeartbeats 1000000 in
theorem op_offsets {l : Launch} {B : Nat} {μ ν : Nat → Int32} (h : REL B μ ν) (hB : B ≤ 600) (x : Int32) (y : Int32) (k : Int32) : zOp l B yX5_offsets cX5_offsets 5 yX6_offsets cX6_offsets 4 [.int x, .int y, .int k] μ ν := by
  obtain ⟨m, c, b, r, z, kf, n, SC, SR, P, I, H⟩ := h.bundle
  have h8 := I.2.2.2.1
  by_cases hx : zfm x c
  · obtain ⟨f, hf, rfl⟩ := hx
    by_cases hgz : zin y 0 2
    · obtain ⟨g, hg0, hg, rfl⟩ := hgz
      by_cases hk : zin k 0 2
      · obtain ⟨w, hw0, hw4, rfl⟩ := hk
        have hw : w = 0 ∨ w = 1 ∨ w = 2 := by omega
        rcases hw with rfl | rfl | rfl
        · exact zOp_det (fun E => d_offsets_0 E μ SC hf hg) (fun E => c_offsets_0 E ν SR hf hg) (by rw [P _ (by omega)]) (h.up) (by decide) (by decide)
        · exact zOp_det (fun E => d_offsets_1 E μ SC hf hg) (fun E => c_offsets_1 E ν SR hf hg) (zmay_eq P (by omega) hg) (h.up) (by decide) (by decide)
        · exact zOp_det (fun E => d_offsets_2 E μ SC hf hg) (fun E => c_offsets_2 E ν SR hf hg) (by rw [P _ (by omega)]) (h.up) (by decide) (by decide)
      · exact zOp_det (fun E => d_offsets_b E μ SC hf hg hk) (fun E => c_offsets_b E ν SR hf hg hk) (rfl) (h.up) (by decide) (by decide)
    · exact zOp_det (fun E => d_offsets_u2 E μ SC hf hgz k) (fun E => c_offsets_u2 E ν SR hf hgz k) (rfl) (h.up) (by decide) (by decide)
  · exact zOp_det (fun E => d_offsets_u1 E μ SC hx y k) (fun E => c_offsets_u1 E ν SR hx y k) (rfl) (h.up) (by decide) (by decide)
set_option maxHeartbeats 1000000 in
theorem op_grade {l : Launch} {B : Nat} {μ ν : Nat → Int32} (h : REL B μ ν) (hB : B ≤ 600) (x : Int32) (y : Int32) : zOp l B yX5_grade cX5_grade 3 yX6_grade cX6_grade 3 [.int x, .int y] μ ν := by
  obtain ⟨m, c, b, r, z, kf, n, SC, SR, P, I, H⟩ := h.bundle
  have h8 := I.2.2.2.1
  by_cases hgz : zin x 0 2
  · obtain ⟨g, hg0, hg, rfl⟩ := hgz
    by_cases hk : zin y 0 2
    · obtain ⟨w, hw0, hw4, rfl⟩ := hk
      have hw : w = 0 ∨ w = 1 ∨ w = 2 := by omega
      rcases hw with rfl | rfl | rfl
      · exact zOp_det (fun E => d_grade_0 E μ SC hg) (fun E => c_grade_0 E ν SR hg) (by rw [P _ (by omega)]) (h.up) (by decide) (by decide)
      · exact zOp_det (fun E => d_grade_1 E μ SC hg) (fun E => c_grade_1 E ν SR hg) (zsum_8 h8 (fun i hi => (P _ (by omega)).trans (congrArg ν (by omega))) (fun i h1 h2 => by have q := I.2.2.2.2.2.2.2.2 i h1 h2 (g + 20) (by omega); rw [show 32 * i + (g + 20) + 7 = 32 * i + (g + 27) by omega] at q; exact q)) (h.up) (by decide) (by decide)
      · exact zOp_det (fun E => d_grade_2 E μ SC hg) (fun E => c_grade_2 E ν SR hg) (by rw [P _ (by omega)]) (h.up) (by decide) (by decide)
    · exact zOp_det (fun E => d_grade_b E μ SC hg hk) (fun E => c_grade_b E ν SR hg hk) (rfl) (h.up) (by decide) (by decide)
  · exact zOp_det (fun E => d_grade_u E μ SC hgz y) (fun E => c_grade_u E ν SR hgz y) (rfl) (h.up) (by decide) (by decide)
set_option maxHeartbeats 1000000 in
theorem op_vintage {l : Launch} {B : Nat} {μ ν : Nat → Int32} (h : REL B μ ν) (hB : B ≤ 600) (x : Int32) (y : Int32) : zOp l B yX5_vintage cX5_vintage 3 yX6_vintage cX6_vintage 3 [.int x, .int y] μ ν := by
  obtain ⟨m, c, b, r, z, kf, n, SC, SR, P, I, H⟩ := h.bundle
  have h8 := I.2.2.2.1
  have hb := I.2.2.2.2.1
  have hb1 := I.2.2.2.2.2.1
  have hb5 := I.2.2.2.2.2.2.1
  by_cases hvz : zin x 0 19
  · obtain ⟨v, hv0, hv, rfl⟩ := hvz
    by_cases hk : zin y 0 6
    · obtain ⟨w, hw0, hw4, rfl⟩ := hk
      have hw : w = 0 ∨ w = 1 ∨ w = 2 ∨ w = 3 ∨ w = 4 ∨ w = 5 ∨ w = 6 := by omega
      rcases hw with rfl | rfl | rfl | rfl | rfl | rfl | rfl
      · exact zOp_det (fun E => d_vintage_0 E μ SC hv) (fun E => c_vintage_0 E ν SR hv) (by rw [P _ (by omega)]) (h.up) (by decide) (by decide)
      · exact zOp_det (fun E => d_vintage_1 E μ SC hv) (fun E => c_vintage_1 E ν SR hv) (zsum_8 h8 (fun i hi => P _ (by omega)) (fun i h1 h2 => I.2.2.2.2.2.2.2.2 i h1 h2 v (by omega))) (h.up) (by decide) (by decide)
      · exact zOp_det (fun E => d_vintage_2 E μ SC hv) (fun E => c_vintage_2 E ν SR hv) (by rw [P _ (by omega)]) (h.up) (by decide) (by decide)
      · exact zOp_det (fun E => d_vintage_3 E μ SC hv) (fun E => c_vintage_3 E ν SR hv) (by rw [P _ (by omega)]) (h.up) (by decide) (by decide)
      · exact zOp_det (fun E => d_vintage_4 E μ SC hv) (fun E => c_vintage_4 E ν SR hv) (by rw [P _ (by omega)]) (h.up) (by decide) (by decide)
      · exact zOp_det (fun E => d_vintage_5 E μ SC hv) (fun E => c_vintage_5 E ν SR hv) (congrArg nI (zcnt_8 h8 (fun i hi => P _ (by omega)) (fun i h1 h2 => I.2.2.2.2.2.2.2.2 i h1 h2 v (by omega)))) (h.up) (by decide) (by decide)
      · exact zOp_det (fun E => d_vintage_6 E μ SC hv rfl ((P 5 (by omega)).trans hb) hb1 hb5) (fun E => c_vintage_6 E ν SR hv rfl hb hb1 hb5) (zmo_eq P h8 hv (fun i h1 h2 => I.2.2.2.2.2.2.2.2 i h1 h2 v (by omega))) (h.up) (by decide) (by decide)
    · exact zOp_det (fun E => d_vintage_b E μ SC hv hk) (fun E => c_vintage_b E ν SR hv hk) (rfl) (h.up) (by decide) (by decide)
  · exact zOp_det (fun E => d_vintage_u E μ SC hvz y) (fun E => c_vintage_u E ν SR hvz y) (rfl) (h.up) (by decide) (by decide)
set_option maxHeartbeats 1000000 in
theorem op_holder {l : Launch} {B : Nat} {μ ν : Nat → Int32} (h : REL B μ ν) (hB : B ≤ 600) (x : Int32) (y : Int32) : zOp l B yX5_holder cX5_holder 3 yX6_holder cX6_holder 8 [.int x, .int y] μ ν := by
  obtain ⟨m, c, b, r, z, kf, n, SC, SR, P, I, H⟩ := h.bundle
  have h8 := I.2.2.2.1
  by_cases hvz : zin x 0 19
  · obtain ⟨v, hv0, hv, rfl⟩ := hvz
    by_cases hy : 0 ≤ y
    · exact zOp_det (fun E => d_holder_ok E μ SC hv hy) (fun E => c_holder_ok E ν SR hv hy) (zhol_8 h8 (fun i hi => P _ (by omega)) (fun i h1 h2 => I.2.2.2.2.2.2.2.2 i h1 h2 v (by omega))) (h.up) (by decide) (by decide)
    · exact zOp_det (fun E => d_holder_b E μ SC hv hy) (fun E => c_holder_b E ν SR hv hy) (rfl) (h.up) (by decide) (by decide)
  · exact zOp_det (fun E => d_holder_u E μ SC hvz y) (fun E => c_holder_u E ν SR hvz y) (rfl) (h.up) (by decide) (by decide)
set_option maxHeartbeats 1000000 in
theorem op_firm {l : Launch} {B : Nat} {μ ν : Nat → Int32} (h : REL B μ ν) (hB : B ≤ 600) (x : Int32) (y : Int32) : zOp l B yX5_firm cX5_firm 4 yX6_firm cX6_firm 3 [.int x, .int y] μ ν := by
  obtain ⟨m, c, b, r, z, kf, n, SC, SR, P, I, H⟩ := h.bundle
  have h8 := I.2.2.2.1
  by_cases hx : zfm x c
  · obtain ⟨f, hf, rfl⟩ := hx
    by_cases hk : zin y 0 10
    · obtain ⟨w, hw0, hw4, rfl⟩ := hk
      have hw : w = 0 ∨ w = 1 ∨ w = 2 ∨ w = 3 ∨ w = 4 ∨ w = 5 ∨ w = 6 ∨ w = 7 ∨ w = 8 ∨ w = 9 ∨ w = 10 := by omega
      rcases hw with rfl | rfl | rfl | rfl | rfl | rfl | rfl | rfl | rfl | rfl | rfl
      · exact zOp_det (fun E => d_firm_0 E μ SC hf) (fun E => c_firm_0 E ν SR hf) (zsum_cong (fun i hi => P _ (by omega))) (h.up) (by decide) (by decide)
      · exact zOp_det (fun E => d_firm_1 E μ SC hf) (fun E => c_firm_1 E ν SR hf) (congrArg nI (zcnt_cong (fun i hi => P _ (by omega)))) (h.up) (by decide) (by decide)
      · exact zOp_det (fun E => d_firm_2 E μ SC hf) (fun E => c_firm_2 E ν SR hf) (zexO_cong (fun i hi => P _ (by omega))) (h.up) (by decide) (by decide)
      · exact zOp_det (fun E => d_firm_3 E μ SC hf) (fun E => c_firm_3 E ν SR hf) (zexW_cong (fun i hi => P _ (by omega))) (h.up) (by decide) (by decide)
      · exact zOp_det (fun E => d_firm_4 E μ SC hf) (fun E => c_firm_4 E ν SR hf) (by rw [P _ (by omega)]) (h.up) (by decide) (by decide)
      · exact zOp_det (fun E => d_firm_5 E μ SC hf) (fun E => c_firm_5 E ν SR hf) (by rw [P _ (by omega)]) (h.up) (by decide) (by decide)
      · exact zOp_det (fun E => d_firm_6 E μ SC hf) (fun E => c_firm_6 E ν SR hf) (by rw [P _ (by omega)]) (h.up) (by decide) (by decide)
      · exact zOp_det (fun E => d_firm_7 E μ SC hf) (fun E => c_firm_7 E ν SR hf) (by rw [P _ (by omega)]) (h.up) (by decide) (by decide)
      · exact zOp_det (fun E => d_firm_8 E μ SC hf) (fun E => c_firm_8 E ν SR hf) (by rw [P _ (by omega)]) (h.up) (by decide) (by decide)
      · exact zOp_det (fun E => d_firm_9 E μ SC hf) (fun E => c_firm_9 E ν SR hf) (by rw [P _ (by omega)]) (h.up) (by decide) (by decide)
      · exact zOp_det (fun E => d_firm_10 E μ SC hf) (fun E => c_firm_10 E ν SR hf) (zstill_eq P (by omega) (I.2.2.2.2.2.2.2.1 f (by omega)) hB) (h.up) (by decide) (by decide)
    · exact zOp_det (fun E => d_firm_b E μ SC hf hk) (fun E => c_firm_b E ν SR hf hk) (rfl) (h.up) (by decide) (by decide)
  · exact zOp_det (fun E => d_firm_u E μ SC hx y) (fun E => c_firm_u E ν SR hx y) (rfl) (h.up) (by decide) (by decide)
set_option maxHeartbeats 1000000 in
theorem op_count {l : Launch} {B : Nat} {μ ν : Nat → Int32} (h : REL B μ ν) (hB : B ≤ 600) (x : Int32) : zOp l B yX5_count cX5_count 2 yX6_count cX6_count 2 [.int x] μ ν := by
  obtain ⟨m, c, b, r, z, kf, n, SC, SR, P, I, H⟩ := h.bundle
  have h8 := I.2.2.2.1
  have q1 := H.2.2.2.2.2.2.2.2.2.2.2.1
  have q2 := H.2.2.2.2.2.2.2.2.2.2.2.2.1
  by_cases hk : zin x 0 14
  · obtain ⟨w, hw0, hw4, rfl⟩ := hk
    have hw : w = 0 ∨ w = 1 ∨ w = 2 ∨ w = 3 ∨ w = 4 ∨ w = 5 ∨ w = 6 ∨ w = 7 ∨ w = 8 ∨ w = 9 ∨ w = 10 ∨ w = 11 ∨ w = 12 ∨ w = 13 ∨ w = 14 := by omega
    rcases hw with rfl | rfl | rfl | rfl | rfl | rfl | rfl | rfl | rfl | rfl | rfl | rfl | rfl | rfl | rfl
    · exact zOp_det (fun E => d_count_0 E μ SC) (fun E => c_count_0 E ν SR) (rfl) (h.up) (by decide) (by decide)
    · exact zOp_det (fun E => d_count_1 E μ SC rfl) (fun E => c_count_1 E ν SR rfl) (rfl) (h.up) (by decide) (by decide)
    · exact zOp_det (fun E => d_count_2 E μ SC) (fun E => c_count_2 E ν SR) (rfl) (h.up) (by decide) (by decide)
    · exact zOp_det (fun E => d_count_3 E μ SC) (fun E => c_count_3 E ν SR) (P 2 (by omega)) (h.up) (by decide) (by decide)
    · exact zOp_det (fun E => d_count_4 E μ SC) (fun E => c_count_4 E ν SR) (P 3 (by omega)) (h.up) (by decide) (by decide)
    · exact zOp_det (fun E => d_count_5 E μ SC) (fun E => c_count_5 E ν SR) (P 4 (by omega)) (h.up) (by decide) (by decide)
    · exact zOp_det (fun E => d_count_6 E μ SC) (fun E => c_count_6 E ν SR) (P 5 (by omega)) (h.up) (by decide) (by decide)
    · exact zOp_det (fun E => d_count_7 E μ SC) (fun E => c_count_7 E ν SR) (P 6 (by omega)) (h.up) (by decide) (by decide)
    · exact zOp_det (fun E => d_count_8 E μ SC) (fun E => c_count_8 E ν SR) (zsum_8 h8 (fun i hi => P _ (by omega)) (fun i h1 h2 => I.2.2.2.2.2.2.2.2 i h1 h2 29 (by omega))) (h.up) (by decide) (by decide)
    · exact zOp_det (fun E => d_count_9 E μ SC) (fun E => c_count_9 E ν SR) (zsum_8 h8 (fun i hi => P _ (by omega)) (fun i h1 h2 => I.2.2.2.2.2.2.2.2 i h1 h2 31 (by omega))) (h.up) (by decide) (by decide)
    · exact zOp_det (fun E => d_count_10 E μ SC) (fun E => c_count_10 E ν SR) (zsum_8 h8 (fun i hi => zsum_cong (fun v hv => P _ (by omega))) (fun i h1 h2 => zsum_0 20 (fun v hv => I.2.2.2.2.2.2.2.2 i h1 h2 v (by omega)))) (h.up) (by decide) (by decide)
    · exact zOp_det (fun E => d_count_11 E μ SC) (fun E => c_count_11 E ν SR) (zsum_cong (fun i hi => P _ (by omega))) (h.up) (by decide) (by decide)
    · obtain ⟨q, k1, k2, k3, k4, k5, k6⟩ := zdl I.2.1
      exact zOp_det (fun E => d_count_12 E μ SC rfl) (fun E => c_count_12 E ν SR k1 k2 k3 k4 k5) (congrArg nI k6) (h.up) (by decide) (by decide)
    · exact zOp_det (fun E => d_count_13 E μ SC) (fun E => c_count_13 E ν SR) (rfl) (h.up) (by decide) (by decide)
    · exact zOp_det (fun E => d_count_14 E μ SC) (fun E => c_count_14 E ν SR) (q1.trans q2.symm) (h.up) (by decide) (by decide)
  · exact zOp_det (fun E => d_count_b E μ SC hk) (fun E => c_count_b E ν SR hk) (rfl) (h.up) (by decide) (by decide)
