set_option maxHeartbeats 1000000 in
theorem op_readTransfers {l : Launch} {B : Nat} {μ ν : Nat → Int32} (h : REL B μ ν) (hB : B ≤ 600) : zOp l B yX5_readTransfers cX5_readTransfers 3 yX6_readTransfers cX6_readTransfers 3 [] μ ν := by
  obtain ⟨m, c, b, r, z, kf, n, SC, SR, P, I, H⟩ := h.bundle
  have h8 := I.2.2.2.1
  obtain ⟨hr, hr4, hz, hz4, hk, hH, hkf, hkC, hkR, hkk, hn2, q1, q2, hT⟩ := id H
  have hc := I.2.2.1
  have hcC := (P 1 (by omega)).trans hc
  have hwR : ∀ q, q < 60 → ν (q + 2460) = (fun q => ν (q + 2460)) q := fun q _ => rfl
  have hwC : ∀ q, q < 60 → μ (q + 2500) = (fun q => ν (q + 2460)) q := hT
  rcases zch_or (fun q => ν (q + 2460)) n with ⟨q, hF⟩ | ⟨S, E0, A0, B0, V0, T0, K, ch0, hcs⟩
  · exact ⟨-100 - nI q, fun u => ∀ x, x ≠ 2496 → x ≠ 2497 → (x < 2560 ∨ 2592 ≤ x) → u x = μ x, fun v => ∀ x, x ≠ 2452 → (x < 2543 ∨ 2547 ≤ x) → v x = ν x, 5, 5, by decide, by decide, fun E => d_readTransfers_a E μ hwC q1 hn2 hF, fun E => c_readTransfers_a E ν hwR q2 hn2 hF, fun u v hu hv => REL.step H (by omega) (fun x hx => ((hu x (by omega) (by omega) (by omega)).trans (P x hx)).trans (hv x (by omega) (by omega)).symm) (rowI_cong (rowI_mono I (by omega)) (fun x hx => (hv x (by omega) (by omega)).symm)) (fun x hx => hu x (by unfold farC at hx; omega) (by unfold farC at hx; omega) (by unfold farC at hx; omega)) (fun x hx => hv x (by unfold farR at hx; omega) (by unfold farR at hx; omega))⟩
  · obtain ⟨S, ch, hS1⟩ := zch_ext ch0
    rcases hcs with hE | ⟨hE, F7⟩ | ⟨F7, q, hF⟩
    · have hK := zch_K ch hn2
      have hS1n : S (K + 1) = n + 1 := by rw [hS1, hE]
      rcases zok_or ν c A0 B0 V0 T0 (K + 1) with ok | ⟨e, he, ok, hno⟩
      · have hJ : rowI (B + 1) (zgr ν A0 B0 V0 T0 (K + 1)) m c b := rowJ_to (rowJ_zgr (rowJ_of I) (by omega) (K + 1) (by omega) (fun j hj => ⟨ok j hj, (zsT_val (ch.2.1 j (by omega))).2.2.2⟩)) (by omega) (by omega)
        obtain ⟨r1, z1, H2⟩ := rst_push H P I
        refine ⟨nI (K + 1), fun u => (∀ x, x < 349 → u x = zgr ν A0 B0 V0 T0 (K + 1) x) ∧ ∀ x, 349 ≤ x → (x < 698 ∨ 1047 ≤ x) → x ≠ 2496 → x ≠ 2497 → (x < 2560 ∨ 2592 ≤ x) → u x = zpush μ r z x, fun v => ∀ x, x ≠ 2452 → (x < 2543 ∨ 2547 ≤ x) → v x = zrec (fun y => if y < 349 then zgr ν A0 B0 V0 T0 (K + 1) y else cp ν 0 2094 y) 2094 z x, 5, 5, by decide, by decide, fun E => d_readTransfers_ok E μ hwC q1 hn2 hcC h8 hr hr4 hz hz4 ch hE P ok, fun E => c_readTransfers_ok E ν hwR q2 hn2 hc h8 hk hz4 ch hE hS1n (G := ν) (fun _ _ => rfl) ok, fun u v hu hv => ?_⟩
        have hv2 : ∀ x, x < 349 → v x = zgr ν A0 B0 V0 T0 (K + 1) x := fun x hx => by rw [hv x (by omega) (by omega), zrec_out (p := x) (by omega) (by omega) hz4]; exact if_pos hx
        refine REL.step H2 (by omega) (fun x hx => (hu.1 x hx).trans (hv2 x hx).symm) (rowI_cong hJ (fun x hx => (hv2 x hx).symm)) (fun x hx => hu.2 x (by unfold farC at hx; omega) (by unfold farC at hx; omega) (by unfold farC at hx; omega) (by unfold farC at hx; omega) (by unfold farC at hx; omega)) (fun x hx => ?_)
        rw [hv x (by unfold farR at hx; omega) (by unfold farR at hx; omega)]
        refine zrec_2094 hz4 (fun x hx => ?_) (fun x hx => ?_) x hx
        · rw [if_neg (by omega)]
          exact cp_in (by omega) (by omega) (by omega)
        · rw [if_neg (by unfold farR at hx; omega)]
          exact cp_out (by unfold farR at hx; omega)
      · exact ⟨zerr (zgr ν A0 B0 V0 T0 e) c (A0 e) (B0 e) (V0 e) (T0 e), fun u => ∀ x, (x < 698 ∨ 1047 ≤ x) → x ≠ 2496 → x ≠ 2497 → (x < 2560 ∨ 2592 ≤ x) → u x = μ x, fun v => ∀ x, (x < 2094 ∨ 2443 ≤ x) → x ≠ 2452 → (x < 2543 ∨ 2547 ≤ x) → v x = ν x, 5, 5, by decide, by decide, fun E => d_readTransfers_er E μ hwC q1 hn2 hcC h8 hr hr4 hz hz4 ch hE P (by omega) ok hno, fun E => c_readTransfers_er E ν hwR q2 hn2 hc h8 hk hz4 ch hE hS1n (G := ν) (fun _ _ => rfl) (by omega) ok hno, fun u v hu hv => REL.step H (by omega) (fun x hx => ((hu x (by omega) (by omega) (by omega) (by omega)).trans (P x hx)).trans (hv x (by omega) (by omega) (by omega)).symm) (rowI_cong (rowI_mono I (by omega)) (fun x hx => (hv x (by omega) (by omega) (by omega)).symm)) (fun x hx => hu x (by unfold farC at hx; omega) (by unfold farC at hx; omega) (by unfold farC at hx; omega) (by unfold farC at hx; omega)) (fun x hx => hv x (by unfold farR at hx; omega) (by unfold farR at hx; omega) (by unfold farR at hx; omega))⟩
    · exact ⟨-100 - nI (E0 K), fun u => ∀ x, x ≠ 2496 → x ≠ 2497 → (x < 2560 ∨ 2592 ≤ x) → u x = μ x, fun v => ∀ x, x ≠ 2452 → (x < 2543 ∨ 2547 ≤ x) → v x = ν x, 5, 5, by decide, by decide, fun E => d_readTransfers_c E μ hwC q1 hn2 ch hE F7, fun E => c_readTransfers_c E ν hwR q2 hn2 ch hE F7, fun u v hu hv => REL.step H (by omega) (fun x hx => ((hu x (by omega) (by omega) (by omega)).trans (P x hx)).trans (hv x (by omega) (by omega)).symm) (rowI_cong (rowI_mono I (by omega)) (fun x hx => (hv x (by omega) (by omega)).symm)) (fun x hx => hu x (by unfold farC at hx; omega) (by unfold farC at hx; omega) (by unfold farC at hx; omega)) (fun x hx => hv x (by unfold farR at hx; omega) (by unfold farR at hx; omega))⟩
    · exact ⟨-100 - nI q, fun u => ∀ x, x ≠ 2496 → x ≠ 2497 → (x < 2560 ∨ 2592 ≤ x) → u x = μ x, fun v => ∀ x, x ≠ 2452 → (x < 2543 ∨ 2547 ≤ x) → v x = ν x, 5, 5, by decide, by decide, fun E => d_readTransfers_b E μ hwC q1 hn2 ch F7 hS1 (by rw [hS1]; exact hF), fun E => c_readTransfers_b E ν hwR q2 hn2 ch F7 hF, fun u v hu hv => REL.step H (by omega) (fun x hx => ((hu x (by omega) (by omega) (by omega)).trans (P x hx)).trans (hv x (by omega) (by omega)).symm) (rowI_cong (rowI_mono I (by omega)) (fun x hx => (hv x (by omega) (by omega)).symm)) (fun x hx => hu x (by unfold farC at hx; omega) (by unfold farC at hx; omega) (by unfold farC at hx; omega)) (fun x hx => hv x (by unfold farR at hx; omega) (by unfold farR at hx; omega))⟩
