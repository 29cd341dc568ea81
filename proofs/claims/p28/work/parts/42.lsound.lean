/-! what is sound is told to be sound -/
set_option maxHeartbeats 4000000 in
set_option maxRecDepth 100000 in
theorem l_isSound {l : Launch} {D : va_G} {tc : Nat → ClassId} {ad : Nat → Nat} {A : Nat → Prop} {tF tL tM : Nat} (E : zN 299 A ad) (μ : Nat → Int32) {B m c b ro z : Nat} (hB : B ≤ 600) (S : clsS μ m c ro z) (I : rowI B μ m c b) (N : SND μ m) : zMi l yL_isSound cL_isSound 11 (some .boolean) (zrm 6) (zK A D tc tF tL tM) A D vwCl tc ad 299 shC [.ref (ad (0))] μ (fun r u => r = nI 1 ∧ u = μ) := by
  refine zM_of RL [(0, .ref (ad (0)))] (zK_ok A D tc tF tL tM) E.1 E.2 owC_ok (by decide +kernel) rfl (Nat.le_of_ble_eq_true rfl) rfl ?_
  intro pP eE sS mM aS bL mT cO X
  have h8 := S.2.2.2.1
  have hm2 := S.2.1
  have hb := I.2.2.2.2.1
  have hb1 := I.2.2.2.2.2.1
  have hb5 := I.2.2.2.2.2.2.1
  have hD := D12_4 m
  refine zr_aloadn X 0 dL_isSound_0 rfl ?_
  refine zr_iconst X (nI (2)) dL_isSound_1 (by decide +kernel) ?_
  refine zr_dVi (C := RX5) (ci := 5) [.int (nI (2))] [] X (zK_ok A D tc tF tL tM) (d_count_2 E μ S) k_535 k_509 k_510 k_1 k_511 hdX5_count ⟨rfl, rfl⟩ ⟨Nat.le_of_ble_eq_true rfl, Nat.le_of_ble_eq_true rfl⟩ (by omega) sc_0 rfl rfl rfl (Nat.le_of_ble_eq_true rfl) dL_isSound_2 ?_
  refine zr_istoren X [1, 0] [(0, .ref (ad (0))), (1, .int (nI (c)))] dL_isSound_5 (by decide) rfl ?_
  refine zr_iconst X (nI (0)) dL_isSound_6 (by decide +kernel) ?_
  refine zr_istoren X [1, 2, 0] [(0, .ref (ad (0))), (1, .int (nI (c))), (2, .int (nI (0)))] dL_isSound_7 (by decide) rfl ?_
  refine zr_iconst X (nI (0)) dL_isSound_8 (by decide +kernel) ?_
  refine zr_istoren X [1, 2, 3, 0] [(0, .ref (ad (0))), (1, .int (nI (c))), (2, .int (nI (0))), (3, .int (nI (0)))] dL_isSound_9 (by decide) rfl ?_
  refine zr_iconst X (nI (0)) dL_isSound_10 (by decide +kernel) ?_
  refine zr_istore X [1, 2, 3, 4, 0] [(0, .ref (ad (0))), (1, .int (nI (c))), (2, .int (nI (0))), (3, .int (nI (0))), (4, .int (nI (0)))] dL_isSound_11 (by decide) rfl ?_
  refine zr_iconst X (nI (0)) dL_isSound_13 (by decide +kernel) ?_
  refine zr_istore X [1, 2, 3, 4, 5, 0] [(0, .ref (ad (0))), (1, .int (nI (c))), (2, .int (nI (0))), (3, .int (nI (0))), (4, .int (nI (0))), (5, .int (nI (0)))] dL_isSound_14 (by decide) rfl ?_
  refine zr_for X (20) (fun v => μ) (fun v => [(0, .ref (ad (0))), (1, .int (nI (c))), (2, .int (zsum (fun v => vinF μ v 2) (v))), (3, .int (zsum (fun v => SM μ v c) (v))), (4, .int (zsum (fun v => vinF μ v 4) (v))), (5, .int (nI (v)))]) [] (rfl) rfl ?_ ?_
  · refine zr_iload X 5 dL_isSound_16 rfl ?_
    refine zr_bipush X (nI (20)) dL_isSound_18 (by decide +kernel) ?_
    refine zr_icmp_ge X 339 dL_isSound_20 (by decide) (fun _ => ?_) (fun q => absurd (zq_le (by omega) (by omega)) q)
    refine zr_iconst X (nI (0)) dL_isSound_339 (by decide +kernel) ?_
    refine zr_istore X [1, 2, 3, 4, 5, 0] [(0, .ref (ad (0))), (1, .int (nI (c))), (2, .int (zsum (fun v => vinF μ v 2) (20))), (3, .int (zsum (fun v => SM μ v c) (20))), (4, .int (zsum (fun v => vinF μ v 4) (20))), (5, .int (nI (0)))] dL_isSound_340 (by decide) rfl ?_
    refine zr_for X (3) (fun k => μ) (fun k => [(0, .ref (ad (0))), (1, .int (nI (c))), (2, .int (GO μ (k))), (3, .int (zsum (fun v => SM μ v c) (20))), (4, .int (zsum (fun v => vinF μ v 4) (20))), (5, .int (nI (k)))]) [] (rfl) rfl ?_ ?_
    · refine zr_iload X 5 dL_isSound_342 rfl ?_
      refine zr_iconst X (nI (3)) dL_isSound_344 (by decide +kernel) ?_
      refine zr_icmp_ge X 473 dL_isSound_345 (by decide) (fun _ => ?_) (fun q => absurd (zq_le (by omega) (by omega)) q)
      refine zr_iconst X (nI (0)) dL_isSound_473 (by decide +kernel) ?_
      refine zr_istore X [1, 2, 3, 4, 5, 0] [(0, .ref (ad (0))), (1, .int (nI (c))), (2, .int (GO μ (3))), (3, .int (zsum (fun v => SM μ v c) (20))), (4, .int (zsum (fun v => vinF μ v 4) (20))), (5, .int (nI (0)))] dL_isSound_474 (by decide) rfl ?_
      refine zr_iconst X (nI (0)) dL_isSound_476 (by decide +kernel) ?_
      refine zr_istore X [1, 2, 3, 4, 5, 6, 0] [(0, .ref (ad (0))), (1, .int (nI (c))), (2, .int (GO μ (3))), (3, .int (zsum (fun v => SM μ v c) (20))), (4, .int (zsum (fun v => vinF μ v 4) (20))), (5, .int (nI (0))), (6, .int (nI (0)))] dL_isSound_477 (by decide) rfl ?_
      refine zr_iconst X (nI (0)) dL_isSound_479 (by decide +kernel) ?_
      refine zr_istore X [1, 2, 3, 4, 5, 6, 7, 0] [(0, .ref (ad (0))), (1, .int (nI (c))), (2, .int (GO μ (3))), (3, .int (zsum (fun v => SM μ v c) (20))), (4, .int (zsum (fun v => vinF μ v 4) (20))), (5, .int (nI (0))), (6, .int (nI (0))), (7, .int (nI (0)))] dL_isSound_480 (by decide) rfl ?_
      refine zr_iconst X (nI (0)) dL_isSound_482 (by decide +kernel) ?_
      refine zr_istore X [1, 2, 3, 4, 5, 6, 7, 8, 0] [(0, .ref (ad (0))), (1, .int (nI (c))), (2, .int (GO μ (3))), (3, .int (zsum (fun v => SM μ v c) (20))), (4, .int (zsum (fun v => vinF μ v 4) (20))), (5, .int (nI (0))), (6, .int (nI (0))), (7, .int (nI (0))), (8, .int (nI (0)))] dL_isSound_483 (by decide) rfl ?_
      refine zr_for X (c) (fun f => μ) (fun f => [(0, .ref (ad (0))), (1, .int (nI (c))), (2, .int (GO μ (3))), (3, .int (zsum (fun v => SM μ v c) (20))), (4, .int (zsum (fun v => vinF μ v 4) (20))), (5, .int (zsum (fun f => firF μ f 8) (f))), (6, .int (zsum (fun f => firF μ f 7) (f))), (7, .int (zsum (fun f => firF μ f 9) (f))), (8, .int (nI (f)))]) [] (rfl) rfl ?_ ?_
      · refine zr_iload X 8 dL_isSound_485 rfl ?_
        refine zr_iloadn X 1 dL_isSound_487 rfl ?_
        refine zr_icmp_ge X 625 dL_isSound_488 (by decide) (fun _ => ?_) (fun q => absurd (zq_le (by omega) (by omega)) q)
        refine zr_iload X 5 dL_isSound_625 rfl ?_
        refine zr_iloadn X 2 dL_isSound_627 rfl ?_
        refine zr_icmp_ne X 697 dL_isSound_628 (by decide) (fun q => absurd (xs19 I N) q) (fun _ => ?_)
        refine zr_iload X 6 dL_isSound_631 rfl ?_
        refine zr_aloadn X 0 dL_isSound_633 rfl ?_
        refine zr_bipush X (nI (8)) dL_isSound_634 (by decide +kernel) ?_
        refine zr_dVi (C := RX5) (ci := 5) [.int (nI (8))] [.int (zsum (fun f => firF μ f 7) (c))] X (zK_ok A D tc tF tL tM) (t_count E μ S (i := 8) (by omega)) k_535 k_509 k_510 k_1 k_511 hdX5_count ⟨rfl, rfl⟩ ⟨Nat.le_of_ble_eq_true rfl, Nat.le_of_ble_eq_true rfl⟩ (by omega) sc_0 rfl rfl rfl (Nat.le_of_ble_eq_true rfl) dL_isSound_636 ?_
        refine zr_icmp_ne X 697 dL_isSound_639 (by decide) (fun q => absurd (xs20 I) q) (fun _ => ?_)
        refine zr_iload X 7 dL_isSound_642 rfl ?_
        refine zr_aloadn X 0 dL_isSound_644 rfl ?_
        refine zr_bipush X (nI (9)) dL_isSound_645 (by decide +kernel) ?_
        refine zr_dVi (C := RX5) (ci := 5) [.int (nI (9))] [.int (zsum (fun f => firF μ f 9) (c))] X (zK_ok A D tc tF tL tM) (t_count E μ S (i := 9) (by omega)) k_535 k_509 k_510 k_1 k_511 hdX5_count ⟨rfl, rfl⟩ ⟨Nat.le_of_ble_eq_true rfl, Nat.le_of_ble_eq_true rfl⟩ (by omega) sc_0 rfl rfl rfl (Nat.le_of_ble_eq_true rfl) dL_isSound_647 ?_
        refine zr_icmp_ne X 697 dL_isSound_650 (by decide) (fun q => absurd (xs21 I) q) (fun _ => ?_)
        refine zr_iloadn X 3 dL_isSound_653 rfl ?_
        refine zr_aloadn X 0 dL_isSound_654 rfl ?_
        refine zr_bipush X (nI (10)) dL_isSound_655 (by decide +kernel) ?_
        refine zr_dVi (C := RX5) (ci := 5) [.int (nI (10))] [.int (zsum (fun v => SM μ v c) (20))] X (zK_ok A D tc tF tL tM) (t_count E μ S (i := 10) (by omega)) k_535 k_509 k_510 k_1 k_511 hdX5_count ⟨rfl, rfl⟩ ⟨Nat.le_of_ble_eq_true rfl, Nat.le_of_ble_eq_true rfl⟩ (by omega) sc_0 rfl rfl rfl (Nat.le_of_ble_eq_true rfl) dL_isSound_657 ?_
        refine zr_icmp_ne X 697 dL_isSound_660 (by decide) (fun q => absurd (xs22 I) q) (fun _ => ?_)
        refine zr_iload X 4 dL_isSound_663 rfl ?_
        refine zr_aloadn X 0 dL_isSound_665 rfl ?_
        refine zr_bipush X (nI (11)) dL_isSound_666 (by decide +kernel) ?_
        refine zr_dVi (C := RX5) (ci := 5) [.int (nI (11))] [.int (zsum (fun v => vinF μ v 4) (20))] X (zK_ok A D tc tF tL tM) (t_count E μ S (i := 11) (by omega)) k_535 k_509 k_510 k_1 k_511 hdX5_count ⟨rfl, rfl⟩ ⟨Nat.le_of_ble_eq_true rfl, Nat.le_of_ble_eq_true rfl⟩ (by omega) sc_0 rfl rfl rfl (Nat.le_of_ble_eq_true rfl) dL_isSound_668 ?_
        refine zr_icmp_ne X 697 dL_isSound_671 (by decide) (fun q => absurd (rfl) q) (fun _ => ?_)
        refine zr_aloadn X 0 dL_isSound_674 rfl ?_
        refine zr_iconst X (nI (0)) dL_isSound_675 (by decide +kernel) ?_
        refine zr_dVi (C := RX5) (ci := 5) [.int (nI (0))] [] X (zK_ok A D tc tF tL tM) (d_count_0 E μ S) k_535 k_509 k_510 k_1 k_511 hdX5_count ⟨rfl, rfl⟩ ⟨Nat.le_of_ble_eq_true rfl, Nat.le_of_ble_eq_true rfl⟩ (by omega) sc_0 rfl rfl rfl (Nat.le_of_ble_eq_true rfl) dL_isSound_676 ?_
        refine zr_aloadn X 0 dL_isSound_679 rfl ?_
        refine zr_bipush X (nI (12)) dL_isSound_680 (by decide +kernel) ?_
        refine zr_dVi (C := RX5) (ci := 5) [.int (nI (12))] [.int (nI (m))] X (zK_ok A D tc tF tL tM) (zM_i (z1 := nI (D12 m)) (d_count_12 E μ S rfl) rfl) k_535 k_509 k_510 k_1 k_511 hdX5_count ⟨rfl, rfl⟩ ⟨Nat.le_of_ble_eq_true rfl, Nat.le_of_ble_eq_true rfl⟩ (by omega) sc_0 rfl rfl rfl (Nat.le_of_ble_eq_true rfl) dL_isSound_682 ?_
        refine zr_iadd X (nI ((D12 m) + m)) dL_isSound_685 ((nI_add _ _).trans (congrArg nI (by omega))) ?_
        refine zr_bipush X (nI (12)) dL_isSound_686 (by decide +kernel) ?_
        refine zr_irem X (nI ((((D12 m) + m) % 12))) dL_isSound_688 (by decide +kernel) (pk_rem (by omega) (by omega) (by omega)) ?_
        refine zr_iconst X (nI (4)) dL_isSound_689 (by decide +kernel) ?_
        refine zr_icmp_ne X 697 dL_isSound_690 (by decide) (fun q => absurd (zq_eq (by omega)) q) (fun _ => ?_)
        refine zr_iconst X (nI (1)) dL_isSound_693 (by decide +kernel) ?_
        refine zr_goto X 698 dL_isSound_694 (by decide) ?_
        exact zr_zret X dL_isSound_698 rfl ⟨rfl, rfl⟩
      · intro f hf ih485
        refine zr_iload X 8 dL_isSound_485 rfl ?_
        refine zr_iloadn X 1 dL_isSound_487 rfl ?_
        refine zr_icmp_ge X 625 dL_isSound_488 (by decide) (fun q => absurd q (nI_ge (by omega) (by omega))) (fun _ => ?_)
        refine zr_iload X 5 dL_isSound_491 rfl ?_
        refine zr_aloadn X 0 dL_isSound_493 rfl ?_
        refine zr_iload X 8 dL_isSound_494 rfl ?_
        refine zr_bipush X (nI (8)) dL_isSound_496 (by decide +kernel) ?_
        refine zr_dVi (C := RX5) (ci := 5) [.int (nI (f)), .int (nI (8))] [.int (zsum (fun f => firF μ f 8) (f))] X (zK_ok A D tc tF tL tM) (t_firm E μ S (f := f) (by omega) (i := 8) (by omega)) k_261 k_432 k_433 k_1 k_434 hdX5_firm ⟨rfl, rfl⟩ ⟨Nat.le_of_ble_eq_true rfl, Nat.le_of_ble_eq_true rfl⟩ (by omega) sc_0 rfl rfl rfl (Nat.le_of_ble_eq_true rfl) dL_isSound_498 ?_
        refine zr_iadd X ((zsum (fun f => firF μ f 8) (f)) + (firF μ (f) (8))) dL_isSound_501 rfl ?_
        refine zr_istore X [1, 2, 3, 4, 5, 0, 6, 7, 8] [(0, .ref (ad (0))), (1, .int (nI (c))), (2, .int (GO μ (3))), (3, .int (zsum (fun v => SM μ v c) (20))), (4, .int (zsum (fun v => vinF μ v 4) (20))), (5, .int ((zsum (fun f => firF μ f 8) (f)) + (firF μ (f) (8)))), (6, .int (zsum (fun f => firF μ f 7) (f))), (7, .int (zsum (fun f => firF μ f 9) (f))), (8, .int (nI (f)))] dL_isSound_502 (by decide) rfl ?_
        refine zr_iload X 6 dL_isSound_504 rfl ?_
        refine zr_aloadn X 0 dL_isSound_506 rfl ?_
        refine zr_iload X 8 dL_isSound_507 rfl ?_
        refine zr_bipush X (nI (7)) dL_isSound_509 (by decide +kernel) ?_
        refine zr_dVi (C := RX5) (ci := 5) [.int (nI (f)), .int (nI (7))] [.int (zsum (fun f => firF μ f 7) (f))] X (zK_ok A D tc tF tL tM) (t_firm E μ S (f := f) (by omega) (i := 7) (by omega)) k_261 k_432 k_433 k_1 k_434 hdX5_firm ⟨rfl, rfl⟩ ⟨Nat.le_of_ble_eq_true rfl, Nat.le_of_ble_eq_true rfl⟩ (by omega) sc_0 rfl rfl rfl (Nat.le_of_ble_eq_true rfl) dL_isSound_511 ?_
        refine zr_iadd X ((zsum (fun f => firF μ f 7) (f)) + (firF μ (f) (7))) dL_isSound_514 rfl ?_
        refine zr_istore X [1, 2, 3, 4, 5, 6, 0, 7, 8] [(0, .ref (ad (0))), (1, .int (nI (c))), (2, .int (GO μ (3))), (3, .int (zsum (fun v => SM μ v c) (20))), (4, .int (zsum (fun v => vinF μ v 4) (20))), (5, .int ((zsum (fun f => firF μ f 8) (f)) + (firF μ (f) (8)))), (6, .int ((zsum (fun f => firF μ f 7) (f)) + (firF μ (f) (7)))), (7, .int (zsum (fun f => firF μ f 9) (f))), (8, .int (nI (f)))] dL_isSound_515 (by decide) rfl ?_
        refine zr_iload X 7 dL_isSound_517 rfl ?_
        refine zr_aloadn X 0 dL_isSound_519 rfl ?_
        refine zr_iload X 8 dL_isSound_520 rfl ?_
        refine zr_bipush X (nI (9)) dL_isSound_522 (by decide +kernel) ?_
        refine zr_dVi (C := RX5) (ci := 5) [.int (nI (f)), .int (nI (9))] [.int (zsum (fun f => firF μ f 9) (f))] X (zK_ok A D tc tF tL tM) (t_firm E μ S (f := f) (by omega) (i := 9) (by omega)) k_261 k_432 k_433 k_1 k_434 hdX5_firm ⟨rfl, rfl⟩ ⟨Nat.le_of_ble_eq_true rfl, Nat.le_of_ble_eq_true rfl⟩ (by omega) sc_0 rfl rfl rfl (Nat.le_of_ble_eq_true rfl) dL_isSound_524 ?_
        refine zr_iadd X ((zsum (fun f => firF μ f 9) (f)) + (firF μ (f) (9))) dL_isSound_527 rfl ?_
        refine zr_istore X [1, 2, 3, 4, 5, 6, 7, 0, 8] [(0, .ref (ad (0))), (1, .int (nI (c))), (2, .int (GO μ (3))), (3, .int (zsum (fun v => SM μ v c) (20))), (4, .int (zsum (fun v => vinF μ v 4) (20))), (5, .int ((zsum (fun f => firF μ f 8) (f)) + (firF μ (f) (8)))), (6, .int ((zsum (fun f => firF μ f 7) (f)) + (firF μ (f) (7)))), (7, .int ((zsum (fun f => firF μ f 9) (f)) + (firF μ (f) (9)))), (8, .int (nI (f)))] dL_isSound_528 (by decide) rfl ?_
        refine zr_aloadn X 0 dL_isSound_530 rfl ?_
        refine zr_iload X 8 dL_isSound_531 rfl ?_
        refine zr_iconst X (nI (4)) dL_isSound_533 (by decide +kernel) ?_
        refine zr_dVi (C := RX5) (ci := 5) [.int (nI (f)), .int (nI (4))] [] X (zK_ok A D tc tF tL tM) (t_firm E μ S (f := f) (by omega) (i := 4) (by omega)) k_261 k_432 k_433 k_1 k_434 hdX5_firm ⟨rfl, rfl⟩ ⟨Nat.le_of_ble_eq_true rfl, Nat.le_of_ble_eq_true rfl⟩ (by omega) sc_0 rfl rfl rfl (Nat.le_of_ble_eq_true rfl) dL_isSound_534 ?_
        refine zr_aloadn X 0 dL_isSound_537 rfl ?_
        refine zr_iload X 8 dL_isSound_538 rfl ?_
        refine zr_iconst X (nI (5)) dL_isSound_540 (by decide +kernel) ?_
        refine zr_dVi (C := RX5) (ci := 5) [.int (nI (f)), .int (nI (5))] [.int (firF μ (f) (4))] X (zK_ok A D tc tF tL tM) (t_firm E μ S (f := f) (by omega) (i := 5) (by omega)) k_261 k_432 k_433 k_1 k_434 hdX5_firm ⟨rfl, rfl⟩ ⟨Nat.le_of_ble_eq_true rfl, Nat.le_of_ble_eq_true rfl⟩ (by omega) sc_0 rfl rfl rfl (Nat.le_of_ble_eq_true rfl) dL_isSound_541 ?_
        refine zr_iadd X ((firF μ (f) (4)) + (firF μ (f) (5))) dL_isSound_544 rfl ?_
        refine zr_sipush X (nI (9999)) dL_isSound_545 (by decide +kernel) ?_
        refine zr_icmp_gt X 617 dL_isSound_548 (by decide) (fun q => absurd q (xs14 I hf)) (fun _ => ?_)
        refine zr_aloadn X 0 dL_isSound_551 rfl ?_
        refine zr_iload X 8 dL_isSound_552 rfl ?_
        refine zr_bipush X (nI (6)) dL_isSound_554 (by decide +kernel) ?_
        refine zr_dVi (C := RX5) (ci := 5) [.int (nI (f)), .int (nI (6))] [] X (zK_ok A D tc tF tL tM) (t_firm E μ S (f := f) (by omega) (i := 6) (by omega)) k_261 k_432 k_433 k_1 k_434 hdX5_firm ⟨rfl, rfl⟩ ⟨Nat.le_of_ble_eq_true rfl, Nat.le_of_ble_eq_true rfl⟩ (by omega) sc_0 rfl rfl rfl (Nat.le_of_ble_eq_true rfl) dL_isSound_556 ?_
        refine zr_sipush X (nI (10999)) dL_isSound_559 (by decide +kernel) ?_
        refine zr_icmp_gt X 617 dL_isSound_562 (by decide) (fun q => absurd q (xs15 I N hf)) (fun _ => ?_)
        refine zr_aloadn X 0 dL_isSound_565 rfl ?_
        refine zr_iload X 8 dL_isSound_566 rfl ?_
        refine zr_bipush X (nI (10)) dL_isSound_568 (by decide +kernel) ?_
        refine zr_dVi (C := RX5) (ci := 5) [.int (nI (f)), .int (nI (10))] [] X (zK_ok A D tc tF tL tM) (t_firm E μ S (f := f) (by omega) (i := 10) (by omega)) k_261 k_432 k_433 k_1 k_434 hdX5_firm ⟨rfl, rfl⟩ ⟨Nat.le_of_ble_eq_true rfl, Nat.le_of_ble_eq_true rfl⟩ (by omega) sc_0 rfl rfl rfl (Nat.le_of_ble_eq_true rfl) dL_isSound_570 ?_
        refine zr_aloadn X 0 dL_isSound_573 rfl ?_
        refine zr_iload X 8 dL_isSound_574 rfl ?_
        refine zr_bipush X (nI (7)) dL_isSound_576 (by decide +kernel) ?_
        refine zr_dVi (C := RX5) (ci := 5) [.int (nI (f)), .int (nI (7))] [.int (firF μ (f) (10))] X (zK_ok A D tc tF tL tM) (t_firm E μ S (f := f) (by omega) (i := 7) (by omega)) k_261 k_432 k_433 k_1 k_434 hdX5_firm ⟨rfl, rfl⟩ ⟨Nat.le_of_ble_eq_true rfl, Nat.le_of_ble_eq_true rfl⟩ (by omega) sc_0 rfl rfl rfl (Nat.le_of_ble_eq_true rfl) dL_isSound_578 ?_
        refine zr_icmp_gt X 617 dL_isSound_581 (by decide) (fun q => absurd q (xs16 hB I hf)) (fun _ => ?_)
        refine zr_aloadn X 0 dL_isSound_584 rfl ?_
        refine zr_iload X 8 dL_isSound_585 rfl ?_
        refine zr_iconst X (nI (1)) dL_isSound_587 (by decide +kernel) ?_
        refine zr_dVi (C := RX5) (ci := 5) [.int (nI (f)), .int (nI (1))] [] X (zK_ok A D tc tF tL tM) (t_firm E μ S (f := f) (by omega) (i := 1) (by omega)) k_261 k_432 k_433 k_1 k_434 hdX5_firm ⟨rfl, rfl⟩ ⟨Nat.le_of_ble_eq_true rfl, Nat.le_of_ble_eq_true rfl⟩ (by omega) sc_0 rfl rfl rfl (Nat.le_of_ble_eq_true rfl) dL_isSound_588 ?_
        refine zr_if_ne X 598 dL_isSound_591 (by decide) (fun h591 => ?_) (fun h591 => ?_)
        · refine zr_iconst X (nI (0)) dL_isSound_598 (by decide +kernel) ?_
          refine zr_aloadn X 0 dL_isSound_599 rfl ?_
          refine zr_iload X 8 dL_isSound_600 rfl ?_
          refine zr_iconst X (nI (0)) dL_isSound_602 (by decide +kernel) ?_
          refine zr_dVi (C := RX5) (ci := 5) [.int (nI (f)), .int (nI (0))] [.int (nI (0))] X (zK_ok A D tc tF tL tM) (t_firm E μ S (f := f) (by omega) (i := 0) (by omega)) k_261 k_432 k_433 k_1 k_434 hdX5_firm ⟨rfl, rfl⟩ ⟨Nat.le_of_ble_eq_true rfl, Nat.le_of_ble_eq_true rfl⟩ (by omega) sc_0 rfl rfl rfl (Nat.le_of_ble_eq_true rfl) dL_isSound_603 ?_
          refine zr_if_ne X 613 dL_isSound_606 (by decide) (fun _ => ?_) (fun q => absurd q (fun q => h591 ((fir01 hB I hf).mp q)))
          refine zr_iconst X (nI (0)) dL_isSound_613 (by decide +kernel) ?_
          refine zr_icmp_eq X 619 dL_isSound_614 (by decide) (fun _ => ?_) (fun q => absurd (zq_eq (by omega)) q)
          refine zr_iinc X 8 (nI (f + 1)) [1, 2, 3, 4, 5, 6, 7, 8, 0] [(0, .ref (ad (0))), (1, .int (nI (c))), (2, .int (GO μ (3))), (3, .int (zsum (fun v => SM μ v c) (20))), (4, .int (zsum (fun v => vinF μ v 4) (20))), (5, .int ((zsum (fun f => firF μ f 8) (f)) + (firF μ (f) (8)))), (6, .int ((zsum (fun f => firF μ f 7) (f)) + (firF μ (f) (7)))), (7, .int ((zsum (fun f => firF μ f 9) (f)) + (firF μ (f) (9)))), (8, .int (nI (f + 1)))] dL_isSound_619 rfl (zinc _) (by decide) rfl ?_
          refine zr_goto X 485 dL_isSound_622 (by decide) ?_
          exact ih485
        · refine zr_iconst X (nI (1)) dL_isSound_594 (by decide +kernel) ?_
          refine zr_goto X 599 dL_isSound_595 (by decide) ?_
          refine zr_aloadn X 0 dL_isSound_599 rfl ?_
          refine zr_iload X 8 dL_isSound_600 rfl ?_
          refine zr_iconst X (nI (0)) dL_isSound_602 (by decide +kernel) ?_
          refine zr_dVi (C := RX5) (ci := 5) [.int (nI (f)), .int (nI (0))] [.int (nI (1))] X (zK_ok A D tc tF tL tM) (t_firm E μ S (f := f) (by omega) (i := 0) (by omega)) k_261 k_432 k_433 k_1 k_434 hdX5_firm ⟨rfl, rfl⟩ ⟨Nat.le_of_ble_eq_true rfl, Nat.le_of_ble_eq_true rfl⟩ (by omega) sc_0 rfl rfl rfl (Nat.le_of_ble_eq_true rfl) dL_isSound_603 ?_
          refine zr_if_ne X 613 dL_isSound_606 (by decide) (fun q => absurd ((fir01 hB I hf).mpr h591) q) (fun _ => ?_)
          refine zr_iconst X (nI (1)) dL_isSound_609 (by decide +kernel) ?_
          refine zr_goto X 614 dL_isSound_610 (by decide) ?_
          refine zr_icmp_eq X 619 dL_isSound_614 (by decide) (fun _ => ?_) (fun q => absurd (zq_eq (by omega)) q)
          refine zr_iinc X 8 (nI (f + 1)) [1, 2, 3, 4, 5, 6, 7, 8, 0] [(0, .ref (ad (0))), (1, .int (nI (c))), (2, .int (GO μ (3))), (3, .int (zsum (fun v => SM μ v c) (20))), (4, .int (zsum (fun v => vinF μ v 4) (20))), (5, .int ((zsum (fun f => firF μ f 8) (f)) + (firF μ (f) (8)))), (6, .int ((zsum (fun f => firF μ f 7) (f)) + (firF μ (f) (7)))), (7, .int ((zsum (fun f => firF μ f 9) (f)) + (firF μ (f) (9)))), (8, .int (nI (f + 1)))] dL_isSound_619 rfl (zinc _) (by decide) rfl ?_
          refine zr_goto X 485 dL_isSound_622 (by decide) ?_
          exact ih485
    · intro k hk ih342
      refine zr_iload X 5 dL_isSound_342 rfl ?_
      refine zr_iconst X (nI (3)) dL_isSound_344 (by decide +kernel) ?_
      refine zr_icmp_ge X 473 dL_isSound_345 (by decide) (fun q => absurd q (nI_ge (by omega) (by omega))) (fun _ => ?_)
      refine zr_iconst X (nI (0)) dL_isSound_348 (by decide +kernel) ?_
      refine zr_istore X [1, 2, 3, 4, 5, 6, 0] [(0, .ref (ad (0))), (1, .int (nI (c))), (2, .int (GO μ (k))), (3, .int (zsum (fun v => SM μ v c) (20))), (4, .int (zsum (fun v => vinF μ v 4) (20))), (5, .int (nI (k))), (6, .int (nI (0)))] dL_isSound_349 (by decide) rfl ?_
      refine zr_iconst X (nI (0)) dL_isSound_351 (by decide +kernel) ?_
      refine zr_istore X [1, 2, 3, 4, 5, 6, 7, 0] [(0, .ref (ad (0))), (1, .int (nI (c))), (2, .int (GO μ (k))), (3, .int (zsum (fun v => SM μ v c) (20))), (4, .int (zsum (fun v => vinF μ v 4) (20))), (5, .int (nI (k))), (6, .int (nI (0))), (7, .int (nI (0)))] dL_isSound_352 (by decide) rfl ?_
      refine zr_for X (c) (fun f => μ) (fun f => [(0, .ref (ad (0))), (1, .int (nI (c))), (2, .int (GO μ (k))), (3, .int (zsum (fun v => SM μ v c) (20))), (4, .int (zsum (fun v => vinF μ v 4) (20))), (5, .int (nI (k))), (6, .int (zsum (fun f => offF μ f k 0) (f))), (7, .int (nI (f)))]) [] (rfl) rfl ?_ ?_
      · refine zr_iload X 7 dL_isSound_354 rfl ?_
        refine zr_iloadn X 1 dL_isSound_356 rfl ?_
        refine zr_icmp_ge X 418 dL_isSound_357 (by decide) (fun _ => ?_) (fun q => absurd (zq_le (by omega) (by omega)) q)
        refine zr_aloadn X 0 dL_isSound_418 rfl ?_
        refine zr_iload X 5 dL_isSound_419 rfl ?_
        refine zr_iconst X (nI (0)) dL_isSound_421 (by decide +kernel) ?_
        refine zr_dVi (C := RX5) (ci := 5) [.int (nI (k)), .int (nI (0))] [] X (zK_ok A D tc tF tL tM) (t_grade E μ S (k := k) (by omega) (i := 0) (by omega)) k_291 k_485 k_486 k_1 k_487 hdX5_grade ⟨rfl, rfl⟩ ⟨Nat.le_of_ble_eq_true rfl, Nat.le_of_ble_eq_true rfl⟩ (by omega) sc_0 rfl rfl rfl (Nat.le_of_ble_eq_true rfl) dL_isSound_422 ?_
        refine zr_aloadn X 0 dL_isSound_425 rfl ?_
        refine zr_iload X 5 dL_isSound_426 rfl ?_
        refine zr_iconst X (nI (1)) dL_isSound_428 (by decide +kernel) ?_
        refine zr_dVi (C := RX5) (ci := 5) [.int (nI (k)), .int (nI (1))] [.int (graF μ (k) (0))] X (zK_ok A D tc tF tL tM) (t_grade E μ S (k := k) (by omega) (i := 1) (by omega)) k_291 k_485 k_486 k_1 k_487 hdX5_grade ⟨rfl, rfl⟩ ⟨Nat.le_of_ble_eq_true rfl, Nat.le_of_ble_eq_true rfl⟩ (by omega) sc_0 rfl rfl rfl (Nat.le_of_ble_eq_true rfl) dL_isSound_429 ?_
        refine zr_aloadn X 0 dL_isSound_432 rfl ?_
        refine zr_iload X 5 dL_isSound_433 rfl ?_
        refine zr_iconst X (nI (2)) dL_isSound_435 (by decide +kernel) ?_
        refine zr_dVi (C := RX5) (ci := 5) [.int (nI (k)), .int (nI (2))] [.int (graF μ (k) (1)), .int (graF μ (k) (0))] X (zK_ok A D tc tF tL tM) (t_grade E μ S (k := k) (by omega) (i := 2) (by omega)) k_291 k_485 k_486 k_1 k_487 hdX5_grade ⟨rfl, rfl⟩ ⟨Nat.le_of_ble_eq_true rfl, Nat.le_of_ble_eq_true rfl⟩ (by omega) sc_0 rfl rfl rfl (Nat.le_of_ble_eq_true rfl) dL_isSound_436 ?_
        refine zr_iadd X ((graF μ (k) (1)) + (graF μ (k) (2))) dL_isSound_439 rfl ?_
        refine zr_icmp_ne X 455 dL_isSound_440 (by decide) (fun q => absurd (N.2.2.1 k (by omega)) q) (fun _ => ?_)
        refine zr_aloadn X 0 dL_isSound_443 rfl ?_
        refine zr_iload X 5 dL_isSound_444 rfl ?_
        refine zr_iconst X (nI (1)) dL_isSound_446 (by decide +kernel) ?_
        refine zr_dVi (C := RX5) (ci := 5) [.int (nI (k)), .int (nI (1))] [] X (zK_ok A D tc tF tL tM) (t_grade E μ S (k := k) (by omega) (i := 1) (by omega)) k_291 k_485 k_486 k_1 k_487 hdX5_grade ⟨rfl, rfl⟩ ⟨Nat.le_of_ble_eq_true rfl, Nat.le_of_ble_eq_true rfl⟩ (by omega) sc_0 rfl rfl rfl (Nat.le_of_ble_eq_true rfl) dL_isSound_447 ?_
        refine zr_iload X 6 dL_isSound_450 rfl ?_
        refine zr_icmp_eq X 457 dL_isSound_452 (by decide) (fun _ => ?_) (fun q => absurd (xs13 I (by omega)) q)
        refine zr_iloadn X 2 dL_isSound_457 rfl ?_
        refine zr_aloadn X 0 dL_isSound_458 rfl ?_
        refine zr_iload X 5 dL_isSound_459 rfl ?_
        refine zr_iconst X (nI (2)) dL_isSound_461 (by decide +kernel) ?_
        refine zr_dVi (C := RX5) (ci := 5) [.int (nI (k)), .int (nI (2))] [.int (GO μ (k))] X (zK_ok A D tc tF tL tM) (t_grade E μ S (k := k) (by omega) (i := 2) (by omega)) k_291 k_485 k_486 k_1 k_487 hdX5_grade ⟨rfl, rfl⟩ ⟨Nat.le_of_ble_eq_true rfl, Nat.le_of_ble_eq_true rfl⟩ (by omega) sc_0 rfl rfl rfl (Nat.le_of_ble_eq_true rfl) dL_isSound_462 ?_
        refine zr_iadd X ((GO μ (k)) + (graF μ (k) (2))) dL_isSound_465 rfl ?_
        refine zr_istoren X [1, 2, 0, 3, 4, 5, 6, 7] [(0, .ref (ad (0))), (1, .int (nI (c))), (2, .int ((GO μ (k)) + (graF μ (k) (2)))), (3, .int (zsum (fun v => SM μ v c) (20))), (4, .int (zsum (fun v => vinF μ v 4) (20))), (5, .int (nI (k))), (6, .int (zsum (fun f => offF μ f k 0) (c))), (7, .int (nI (c)))] dL_isSound_466 (by decide) rfl ?_
        refine zr_iinc X 5 (nI (k + 1)) [1, 2, 3, 4, 5, 0, 6, 7] [(0, .ref (ad (0))), (1, .int (nI (c))), (2, .int ((GO μ (k)) + (graF μ (k) (2)))), (3, .int (zsum (fun v => SM μ v c) (20))), (4, .int (zsum (fun v => vinF μ v 4) (20))), (5, .int (nI (k + 1))), (6, .int (zsum (fun f => offF μ f k 0) (c))), (7, .int (nI (c)))] dL_isSound_467 rfl (zinc _) (by decide) rfl ?_
        refine zr_goto X 342 dL_isSound_470 (by decide) ?_
        refine zr_drop X [0, 1, 2, 3, 4, 5] [(0, .ref (ad (0))), (1, .int (nI (c))), (2, .int ((GO μ (k)) + (graF μ (k) (2)))), (3, .int (zsum (fun v => SM μ v c) (20))), (4, .int (zsum (fun v => vinF μ v 4) (20))), (5, .int (nI (k + 1)))] rfl ?_
        exact ih342
      · intro f hf ih354
        refine zr_iload X 7 dL_isSound_354 rfl ?_
        refine zr_iloadn X 1 dL_isSound_356 rfl ?_
        refine zr_icmp_ge X 418 dL_isSound_357 (by decide) (fun q => absurd q (nI_ge (by omega) (by omega))) (fun _ => ?_)
        refine zr_iload X 6 dL_isSound_360 rfl ?_
        refine zr_aloadn X 0 dL_isSound_362 rfl ?_
        refine zr_iload X 7 dL_isSound_363 rfl ?_
        refine zr_iload X 5 dL_isSound_365 rfl ?_
        refine zr_iconst X (nI (0)) dL_isSound_367 (by decide +kernel) ?_
        refine zr_dVi (C := RX5) (ci := 5) [.int (nI (f)), .int (nI (k)), .int (nI (0))] [.int (zsum (fun f => offF μ f k 0) (f))] X (zK_ok A D tc tF tL tM) (t_offsets E μ S (f := f) (by omega) (k := k) (by omega) (i := 0) (by omega)) k_p356 k_462 k_463 k_1 k_464 hdX5_offsets ⟨rfl, rfl⟩ ⟨Nat.le_of_ble_eq_true rfl, Nat.le_of_ble_eq_true rfl⟩ (by omega) sc_0 rfl rfl rfl (Nat.le_of_ble_eq_true rfl) dL_isSound_368 ?_
        refine zr_iadd X ((zsum (fun f => offF μ f k 0) (f)) + (offF μ (f) (k) (0))) dL_isSound_371 rfl ?_
        refine zr_istore X [1, 2, 3, 4, 5, 6, 0, 7] [(0, .ref (ad (0))), (1, .int (nI (c))), (2, .int (GO μ (k))), (3, .int (zsum (fun v => SM μ v c) (20))), (4, .int (zsum (fun v => vinF μ v 4) (20))), (5, .int (nI (k))), (6, .int ((zsum (fun f => offF μ f k 0) (f)) + (offF μ (f) (k) (0)))), (7, .int (nI (f)))] dL_isSound_372 (by decide) rfl ?_
        refine zr_aloadn X 0 dL_isSound_374 rfl ?_
        refine zr_iload X 7 dL_isSound_375 rfl ?_
        refine zr_iload X 5 dL_isSound_377 rfl ?_
        refine zr_iconst X (nI (1)) dL_isSound_379 (by decide +kernel) ?_
        refine zr_dVi (C := RX5) (ci := 5) [.int (nI (f)), .int (nI (k)), .int (nI (1))] [] X (zK_ok A D tc tF tL tM) (t_offsets E μ S (f := f) (by omega) (k := k) (by omega) (i := 1) (by omega)) k_p356 k_462 k_463 k_1 k_464 hdX5_offsets ⟨rfl, rfl⟩ ⟨Nat.le_of_ble_eq_true rfl, Nat.le_of_ble_eq_true rfl⟩ (by omega) sc_0 rfl rfl rfl (Nat.le_of_ble_eq_true rfl) dL_isSound_380 ?_
        refine zr_if_lt X 410 dL_isSound_383 (by decide) (fun q => absurd q (xs9)) (fun _ => ?_)
        refine zr_aloadn X 0 dL_isSound_386 rfl ?_
        refine zr_iload X 7 dL_isSound_387 rfl ?_
        refine zr_iload X 5 dL_isSound_389 rfl ?_
        refine zr_iconst X (nI (0)) dL_isSound_391 (by decide +kernel) ?_
        refine zr_dVi (C := RX5) (ci := 5) [.int (nI (f)), .int (nI (k)), .int (nI (0))] [] X (zK_ok A D tc tF tL tM) (t_offsets E μ S (f := f) (by omega) (k := k) (by omega) (i := 0) (by omega)) k_p356 k_462 k_463 k_1 k_464 hdX5_offsets ⟨rfl, rfl⟩ ⟨Nat.le_of_ble_eq_true rfl, Nat.le_of_ble_eq_true rfl⟩ (by omega) sc_0 rfl rfl rfl (Nat.le_of_ble_eq_true rfl) dL_isSound_392 ?_
        refine zr_if_lt X 410 dL_isSound_395 (by decide) (fun q => absurd q (xs10 I hf (by omega))) (fun _ => ?_)
        refine zr_aloadn X 0 dL_isSound_398 rfl ?_
        refine zr_iload X 7 dL_isSound_399 rfl ?_
        refine zr_iload X 5 dL_isSound_401 rfl ?_
        refine zr_iconst X (nI (2)) dL_isSound_403 (by decide +kernel) ?_
        refine zr_dVi (C := RX5) (ci := 5) [.int (nI (f)), .int (nI (k)), .int (nI (2))] [] X (zK_ok A D tc tF tL tM) (t_offsets E μ S (f := f) (by omega) (k := k) (by omega) (i := 2) (by omega)) k_p356 k_462 k_463 k_1 k_464 hdX5_offsets ⟨rfl, rfl⟩ ⟨Nat.le_of_ble_eq_true rfl, Nat.le_of_ble_eq_true rfl⟩ (by omega) sc_0 rfl rfl rfl (Nat.le_of_ble_eq_true rfl) dL_isSound_404 ?_
        refine zr_if_ge X 412 dL_isSound_407 (by decide) (fun _ => ?_) (fun q => absurd (xs11 I N hf (by omega)) q)
        refine zr_iinc X 7 (nI (f + 1)) [1, 2, 3, 4, 5, 6, 7, 0] [(0, .ref (ad (0))), (1, .int (nI (c))), (2, .int (GO μ (k))), (3, .int (zsum (fun v => SM μ v c) (20))), (4, .int (zsum (fun v => vinF μ v 4) (20))), (5, .int (nI (k))), (6, .int ((zsum (fun f => offF μ f k 0) (f)) + (offF μ (f) (k) (0)))), (7, .int (nI (f + 1)))] dL_isSound_412 rfl (zinc _) (by decide) rfl ?_
        refine zr_goto X 354 dL_isSound_415 (by decide) ?_
        exact ih354
  · intro v hv ih16
    refine zr_iload X 5 dL_isSound_16 rfl ?_
    refine zr_bipush X (nI (20)) dL_isSound_18 (by decide +kernel) ?_
    refine zr_icmp_ge X 339 dL_isSound_20 (by decide) (fun q => absurd q (nI_ge (by omega) (by omega))) (fun _ => ?_)
    refine zr_iconst X (nI (0)) dL_isSound_23 (by decide +kernel) ?_
    refine zr_istore X [1, 2, 3, 4, 5, 6, 0] [(0, .ref (ad (0))), (1, .int (nI (c))), (2, .int (zsum (fun v => vinF μ v 2) (v))), (3, .int (zsum (fun v => SM μ v c) (v))), (4, .int (zsum (fun v => vinF μ v 4) (v))), (5, .int (nI (v))), (6, .int (nI (0)))] dL_isSound_24 (by decide) rfl ?_
    refine zr_iconst X (nI (0)) dL_isSound_26 (by decide +kernel) ?_
    refine zr_istore X [1, 2, 3, 4, 5, 6, 7, 0] [(0, .ref (ad (0))), (1, .int (nI (c))), (2, .int (zsum (fun v => vinF μ v 2) (v))), (3, .int (zsum (fun v => SM μ v c) (v))), (4, .int (zsum (fun v => vinF μ v 4) (v))), (5, .int (nI (v))), (6, .int (nI (0))), (7, .int (nI (0)))] dL_isSound_27 (by decide) rfl ?_
    refine zr_ldc X (1000000000) dL_isSound_29 k_p449 ?_
    refine zr_istore X [1, 2, 3, 4, 5, 6, 7, 8, 0] [(0, .ref (ad (0))), (1, .int (nI (c))), (2, .int (zsum (fun v => vinF μ v 2) (v))), (3, .int (zsum (fun v => SM μ v c) (v))), (4, .int (zsum (fun v => vinF μ v 4) (v))), (5, .int (nI (v))), (6, .int (nI (0))), (7, .int (nI (0))), (8, .int (nI (1000000000)))] dL_isSound_31 (by decide) rfl ?_
    refine zr_iconst X (nI (0)) dL_isSound_33 (by decide +kernel) ?_
    refine zr_istore X [1, 2, 3, 4, 5, 6, 7, 8, 9, 0] [(0, .ref (ad (0))), (1, .int (nI (c))), (2, .int (zsum (fun v => vinF μ v 2) (v))), (3, .int (zsum (fun v => SM μ v c) (v))), (4, .int (zsum (fun v => vinF μ v 4) (v))), (5, .int (nI (v))), (6, .int (nI (0))), (7, .int (nI (0))), (8, .int (nI (1000000000))), (9, .int (nI (0)))] dL_isSound_34 (by decide) rfl ?_
    refine zr_for X (c) (fun f => μ) (fun f => [(0, .ref (ad (0))), (1, .int (nI (c))), (2, .int (zsum (fun v => vinF μ v 2) (v))), (3, .int (zsum (fun v => SM μ v c) (v))), (4, .int (zsum (fun v => vinF μ v 4) (v))), (5, .int (nI (v))), (6, .int (SM μ (v) (f))), (7, .int (nI ((HC μ v (f))))), (8, .int (LA μ v (f))), (9, .int (nI (f)))]) [] (rfl) rfl ?_ ?_
    · refine zr_iload X 9 dL_isSound_36 rfl ?_
      refine zr_iloadn X 1 dL_isSound_38 rfl ?_
      refine zr_icmp_ge X 143 dL_isSound_39 (by decide) (fun _ => ?_) (fun q => absurd (zq_le (by omega) (by omega)) q)
      have hHC := HC_le (μ := μ) (v := v) (f := c)
      refine zr_aloadn X 0 dL_isSound_143 rfl ?_
      refine zr_iload X 5 dL_isSound_144 rfl ?_
      refine zr_iconst X (nI (0)) dL_isSound_146 (by decide +kernel) ?_
      refine zr_dVi (C := RX5) (ci := 5) [.int (nI (v)), .int (nI (0))] [] X (zK_ok A D tc tF tL tM) (t_vintage E μ S hb hb1 hb5 (v := v) (by omega) (i := 0) (by omega)) k_p364 k_467 k_468 k_1 k_469 hdX5_vintage ⟨rfl, rfl⟩ ⟨Nat.le_of_ble_eq_true rfl, Nat.le_of_ble_eq_true rfl⟩ (by omega) sc_0 rfl rfl rfl (Nat.le_of_ble_eq_true rfl) dL_isSound_147 ?_
      refine zr_aloadn X 0 dL_isSound_150 rfl ?_
      refine zr_iload X 5 dL_isSound_151 rfl ?_
      refine zr_iconst X (nI (1)) dL_isSound_153 (by decide +kernel) ?_
      refine zr_dVi (C := RX5) (ci := 5) [.int (nI (v)), .int (nI (1))] [.int (vinF μ (v) (0))] X (zK_ok A D tc tF tL tM) (t_vintage E μ S hb hb1 hb5 (v := v) (by omega) (i := 1) (by omega)) k_p364 k_467 k_468 k_1 k_469 hdX5_vintage ⟨rfl, rfl⟩ ⟨Nat.le_of_ble_eq_true rfl, Nat.le_of_ble_eq_true rfl⟩ (by omega) sc_0 rfl rfl rfl (Nat.le_of_ble_eq_true rfl) dL_isSound_154 ?_
      refine zr_aloadn X 0 dL_isSound_157 rfl ?_
      refine zr_iload X 5 dL_isSound_158 rfl ?_
      refine zr_iconst X (nI (2)) dL_isSound_160 (by decide +kernel) ?_
      refine zr_dVi (C := RX5) (ci := 5) [.int (nI (v)), .int (nI (2))] [.int (vinF μ (v) (1)), .int (vinF μ (v) (0))] X (zK_ok A D tc tF tL tM) (t_vintage E μ S hb hb1 hb5 (v := v) (by omega) (i := 2) (by omega)) k_p364 k_467 k_468 k_1 k_469 hdX5_vintage ⟨rfl, rfl⟩ ⟨Nat.le_of_ble_eq_true rfl, Nat.le_of_ble_eq_true rfl⟩ (by omega) sc_0 rfl rfl rfl (Nat.le_of_ble_eq_true rfl) dL_isSound_161 ?_
      refine zr_iadd X ((vinF μ (v) (1)) + (vinF μ (v) (2))) dL_isSound_164 rfl ?_
      refine zr_aloadn X 0 dL_isSound_165 rfl ?_
      refine zr_iload X 5 dL_isSound_166 rfl ?_
      refine zr_iconst X (nI (3)) dL_isSound_168 (by decide +kernel) ?_
      refine zr_dVi (C := RX5) (ci := 5) [.int (nI (v)), .int (nI (3))] [.int ((vinF μ (v) (1)) + (vinF μ (v) (2))), .int (vinF μ (v) (0))] X (zK_ok A D tc tF tL tM) (t_vintage E μ S hb hb1 hb5 (v := v) (by omega) (i := 3) (by omega)) k_p364 k_467 k_468 k_1 k_469 hdX5_vintage ⟨rfl, rfl⟩ ⟨Nat.le_of_ble_eq_true rfl, Nat.le_of_ble_eq_true rfl⟩ (by omega) sc_0 rfl rfl rfl (Nat.le_of_ble_eq_true rfl) dL_isSound_169 ?_
      refine zr_iadd X (((vinF μ (v) (1)) + (vinF μ (v) (2))) + (vinF μ (v) (3))) dL_isSound_172 rfl ?_
      refine zr_aloadn X 0 dL_isSound_173 rfl ?_
      refine zr_iload X 5 dL_isSound_174 rfl ?_
      refine zr_iconst X (nI (4)) dL_isSound_176 (by decide +kernel) ?_
      refine zr_dVi (C := RX5) (ci := 5) [.int (nI (v)), .int (nI (4))] [.int (((vinF μ (v) (1)) + (vinF μ (v) (2))) + (vinF μ (v) (3))), .int (vinF μ (v) (0))] X (zK_ok A D tc tF tL tM) (t_vintage E μ S hb hb1 hb5 (v := v) (by omega) (i := 4) (by omega)) k_p364 k_467 k_468 k_1 k_469 hdX5_vintage ⟨rfl, rfl⟩ ⟨Nat.le_of_ble_eq_true rfl, Nat.le_of_ble_eq_true rfl⟩ (by omega) sc_0 rfl rfl rfl (Nat.le_of_ble_eq_true rfl) dL_isSound_177 ?_
      refine zr_iadd X ((((vinF μ (v) (1)) + (vinF μ (v) (2))) + (vinF μ (v) (3))) + (vinF μ (v) (4))) dL_isSound_180 rfl ?_
      refine zr_icmp_ne X 241 dL_isSound_181 (by decide) (fun q => absurd (N.1 v (by omega)) q) (fun _ => ?_)
      refine zr_aloadn X 0 dL_isSound_184 rfl ?_
      refine zr_iload X 5 dL_isSound_185 rfl ?_
      refine zr_iconst X (nI (1)) dL_isSound_187 (by decide +kernel) ?_
      refine zr_dVi (C := RX5) (ci := 5) [.int (nI (v)), .int (nI (1))] [] X (zK_ok A D tc tF tL tM) (t_vintage E μ S hb hb1 hb5 (v := v) (by omega) (i := 1) (by omega)) k_p364 k_467 k_468 k_1 k_469 hdX5_vintage ⟨rfl, rfl⟩ ⟨Nat.le_of_ble_eq_true rfl, Nat.le_of_ble_eq_true rfl⟩ (by omega) sc_0 rfl rfl rfl (Nat.le_of_ble_eq_true rfl) dL_isSound_188 ?_
      refine zr_iload X 6 dL_isSound_191 rfl ?_
      refine zr_icmp_ne X 241 dL_isSound_193 (by decide) (fun q => absurd (xs2 I (by omega)) q) (fun _ => ?_)
      refine zr_aloadn X 0 dL_isSound_196 rfl ?_
      refine zr_iload X 5 dL_isSound_197 rfl ?_
      refine zr_iconst X (nI (5)) dL_isSound_199 (by decide +kernel) ?_
      refine zr_dVi (C := RX5) (ci := 5) [.int (nI (v)), .int (nI (5))] [] X (zK_ok A D tc tF tL tM) (t_vintage E μ S hb hb1 hb5 (v := v) (by omega) (i := 5) (by omega)) k_p364 k_467 k_468 k_1 k_469 hdX5_vintage ⟨rfl, rfl⟩ ⟨Nat.le_of_ble_eq_true rfl, Nat.le_of_ble_eq_true rfl⟩ (by omega) sc_0 rfl rfl rfl (Nat.le_of_ble_eq_true rfl) dL_isSound_200 ?_
      refine zr_iload X 7 dL_isSound_203 rfl ?_
      refine zr_icmp_ne X 241 dL_isSound_205 (by decide) (fun q => absurd (xs3 I (by omega)) q) (fun _ => ?_)
      refine zr_aloadn X 0 dL_isSound_208 rfl ?_
      refine zr_iload X 5 dL_isSound_209 rfl ?_
      refine zr_iload X 7 dL_isSound_211 rfl ?_
      refine zr_dVi (C := RX5) (ci := 5) [.int (nI (v)), .int (nI ((HC μ v (c))))] [] X (zK_ok A D tc tF tL tM) (d_holder_ok E μ S (v := v) (by omega) (y := nI ((HC μ v (c)))) (nI_pos' (by omega))) k_629 k_493 k_494 k_1 k_495 hdX5_holder ⟨rfl, rfl⟩ ⟨Nat.le_of_ble_eq_true rfl, Nat.le_of_ble_eq_true rfl⟩ (by omega) sc_0 rfl rfl rfl (Nat.le_of_ble_eq_true rfl) dL_isSound_213 ?_
      refine zr_bipush X (-5) dL_isSound_216 (by decide +kernel) ?_
      refine zr_icmp_ne X 241 dL_isSound_218 (by decide) (fun q => absurd (xs4 I (by omega)) q) (fun _ => ?_)
      refine zr_iload X 5 dL_isSound_221 rfl ?_
      refine zr_aloadn X 0 dL_isSound_223 rfl ?_
      refine zr_iconst X (nI (1)) dL_isSound_224 (by decide +kernel) ?_
      refine zr_dVi (C := RX5) (ci := 5) [.int (nI (1))] [.int (nI (v))] X (zK_ok A D tc tF tL tM) (t_count E μ S (i := 1) (by omega)) k_535 k_509 k_510 k_1 k_511 hdX5_count ⟨rfl, rfl⟩ ⟨Nat.le_of_ble_eq_true rfl, Nat.le_of_ble_eq_true rfl⟩ (by omega) sc_0 rfl rfl rfl (Nat.le_of_ble_eq_true rfl) dL_isSound_225 ?_
      refine zr_icmp_le X 243 dL_isSound_228 (by decide) (fun h228 => ?_) (fun h228 => ?_)
      · refine zr_aloadn X 0 dL_isSound_243 rfl ?_
        refine zr_iload X 5 dL_isSound_244 rfl ?_
        refine zr_bipush X (nI (6)) dL_isSound_246 (by decide +kernel) ?_
        refine zr_dVi (C := RX5) (ci := 5) [.int (nI (v)), .int (nI (6))] [] X (zK_ok A D tc tF tL tM) (t_vintage E μ S hb hb1 hb5 (v := v) (by omega) (i := 6) (by omega)) k_p364 k_467 k_468 k_1 k_469 hdX5_vintage ⟨rfl, rfl⟩ ⟨Nat.le_of_ble_eq_true rfl, Nat.le_of_ble_eq_true rfl⟩ (by omega) sc_0 rfl rfl rfl (Nat.le_of_ble_eq_true rfl) dL_isSound_248 ?_
        refine zr_istore X [1, 2, 3, 4, 5, 6, 7, 8, 9, 0] [(0, .ref (ad (0))), (1, .int (nI (c))), (2, .int (zsum (fun v => vinF μ v 2) (v))), (3, .int (zsum (fun v => SM μ v c) (v))), (4, .int (zsum (fun v => vinF μ v 4) (v))), (5, .int (nI (v))), (6, .int (SM μ (v) (c))), (7, .int (nI ((HC μ v (c))))), (8, .int (LA μ v (c))), (9, .int (vinF μ (v) (6)))] dL_isSound_251 (by decide) rfl ?_
        refine zr_iload X 6 dL_isSound_253 rfl ?_
        refine zr_if_ne X 268 dL_isSound_255 (by decide) (fun h255 => ?_) (fun h255 => ?_)
        · obtain ⟨q, eq, q1, q2, q3, q4⟩ := xs8 hB I (v := v) (by omega) h255
          refine zr_lv X (lv1 := [(0, .ref (ad (0))), (1, .int (nI (c))), (2, .int (zsum (fun v => vinF μ v 2) (v))), (3, .int (zsum (fun v => SM μ v c) (v))), (4, .int (zsum (fun v => vinF μ v 4) (v))), (5, .int (nI (v))), (6, .int (SM μ (v) (c))), (7, .int (nI ((HC μ v (c))))), (8, .int (LA μ v (c))), (9, .int (nI (q)))]) (by rw [eq]) ?_
          refine zr_iload X 9 dL_isSound_268 rfl ?_
          refine zr_iconst X (nI (1)) dL_isSound_270 (by decide +kernel) ?_
          refine zr_icmp_lt X 304 dL_isSound_271 (by decide) (fun q => absurd q (nI_nlt (by omega) (by omega))) (fun _ => ?_)
          refine zr_iload X 9 dL_isSound_274 rfl ?_
          refine zr_aloadn X 0 dL_isSound_276 rfl ?_
          refine zr_iconst X (nI (0)) dL_isSound_277 (by decide +kernel) ?_
          refine zr_dVi (C := RX5) (ci := 5) [.int (nI (0))] [.int (nI (q))] X (zK_ok A D tc tF tL tM) (d_count_0 E μ S) k_535 k_509 k_510 k_1 k_511 hdX5_count ⟨rfl, rfl⟩ ⟨Nat.le_of_ble_eq_true rfl, Nat.le_of_ble_eq_true rfl⟩ (by omega) sc_0 rfl rfl rfl (Nat.le_of_ble_eq_true rfl) dL_isSound_278 ?_
          refine zr_iadd X (nI (m + q)) dL_isSound_281 ((nI_add _ _).trans (congrArg nI (by omega))) ?_
          refine zr_bipush X (nI (12)) dL_isSound_282 (by decide +kernel) ?_
          refine zr_irem X (nI (((m + q) % 12))) dL_isSound_284 (by decide +kernel) (pk_rem (by omega) (by omega) (by omega)) ?_
          refine zr_if_ne X 304 dL_isSound_285 (by decide) (fun q => absurd (zq_eq0 (by omega)) q) (fun _ => ?_)
          refine zr_iload X 9 dL_isSound_288 rfl ?_
          refine zr_aloadn X 0 dL_isSound_290 rfl ?_
          refine zr_iconst X (nI (0)) dL_isSound_291 (by decide +kernel) ?_
          refine zr_dVi (C := RX5) (ci := 5) [.int (nI (0))] [.int (nI (q))] X (zK_ok A D tc tF tL tM) (d_count_0 E μ S) k_535 k_509 k_510 k_1 k_511 hdX5_count ⟨rfl, rfl⟩ ⟨Nat.le_of_ble_eq_true rfl, Nat.le_of_ble_eq_true rfl⟩ (by omega) sc_0 rfl rfl rfl (Nat.le_of_ble_eq_true rfl) dL_isSound_292 ?_
          refine zr_iadd X (nI (m + q)) dL_isSound_295 ((nI_add _ _).trans (congrArg nI (by omega))) ?_
          refine zr_bipush X (nI (12)) dL_isSound_296 (by decide +kernel) ?_
          refine zr_idiv X (nI (((m + q) / 12))) dL_isSound_298 (by decide +kernel) (pk_div (by omega) (by omega) (by omega)) ?_
          refine zr_iload X 5 dL_isSound_299 rfl ?_
          refine zr_icmp_gt X 306 dL_isSound_301 (by decide) (fun _ => ?_) (fun q => absurd (nI_lt (by omega) (by omega)) q)
          refine zr_iloadn X 2 dL_isSound_306 rfl ?_
          refine zr_aloadn X 0 dL_isSound_307 rfl ?_
          refine zr_iload X 5 dL_isSound_308 rfl ?_
          refine zr_iconst X (nI (2)) dL_isSound_310 (by decide +kernel) ?_
          refine zr_dVi (C := RX5) (ci := 5) [.int (nI (v)), .int (nI (2))] [.int (zsum (fun v => vinF μ v 2) (v))] X (zK_ok A D tc tF tL tM) (t_vintage E μ S hb hb1 hb5 (v := v) (by omega) (i := 2) (by omega)) k_p364 k_467 k_468 k_1 k_469 hdX5_vintage ⟨rfl, rfl⟩ ⟨Nat.le_of_ble_eq_true rfl, Nat.le_of_ble_eq_true rfl⟩ (by omega) sc_0 rfl rfl rfl (Nat.le_of_ble_eq_true rfl) dL_isSound_311 ?_
          refine zr_iadd X ((zsum (fun v => vinF μ v 2) (v)) + (vinF μ (v) (2))) dL_isSound_314 rfl ?_
          refine zr_istoren X [1, 2, 0, 3, 4, 5, 6, 7, 8, 9] [(0, .ref (ad (0))), (1, .int (nI (c))), (2, .int ((zsum (fun v => vinF μ v 2) (v)) + (vinF μ (v) (2)))), (3, .int (zsum (fun v => SM μ v c) (v))), (4, .int (zsum (fun v => vinF μ v 4) (v))), (5, .int (nI (v))), (6, .int (SM μ (v) (c))), (7, .int (nI ((HC μ v (c))))), (8, .int (LA μ v (c))), (9, .int (nI (q)))] dL_isSound_315 (by decide) rfl ?_
          refine zr_iloadn X 3 dL_isSound_316 rfl ?_
          refine zr_iload X 6 dL_isSound_317 rfl ?_
          refine zr_iadd X ((zsum (fun v => SM μ v c) (v)) + (SM μ (v) (c))) dL_isSound_319 rfl ?_
          refine zr_istoren X [1, 2, 3, 0, 4, 5, 6, 7, 8, 9] [(0, .ref (ad (0))), (1, .int (nI (c))), (2, .int ((zsum (fun v => vinF μ v 2) (v)) + (vinF μ (v) (2)))), (3, .int ((zsum (fun v => SM μ v c) (v)) + (SM μ (v) (c)))), (4, .int (zsum (fun v => vinF μ v 4) (v))), (5, .int (nI (v))), (6, .int (SM μ (v) (c))), (7, .int (nI ((HC μ v (c))))), (8, .int (LA μ v (c))), (9, .int (nI (q)))] dL_isSound_320 (by decide) rfl ?_
          refine zr_iload X 4 dL_isSound_321 rfl ?_
          refine zr_aloadn X 0 dL_isSound_323 rfl ?_
          refine zr_iload X 5 dL_isSound_324 rfl ?_
          refine zr_iconst X (nI (4)) dL_isSound_326 (by decide +kernel) ?_
          refine zr_dVi (C := RX5) (ci := 5) [.int (nI (v)), .int (nI (4))] [.int (zsum (fun v => vinF μ v 4) (v))] X (zK_ok A D tc tF tL tM) (t_vintage E μ S hb hb1 hb5 (v := v) (by omega) (i := 4) (by omega)) k_p364 k_467 k_468 k_1 k_469 hdX5_vintage ⟨rfl, rfl⟩ ⟨Nat.le_of_ble_eq_true rfl, Nat.le_of_ble_eq_true rfl⟩ (by omega) sc_0 rfl rfl rfl (Nat.le_of_ble_eq_true rfl) dL_isSound_327 ?_
          refine zr_iadd X ((zsum (fun v => vinF μ v 4) (v)) + (vinF μ (v) (4))) dL_isSound_330 rfl ?_
          refine zr_istore X [1, 2, 3, 4, 0, 5, 6, 7, 8, 9] [(0, .ref (ad (0))), (1, .int (nI (c))), (2, .int ((zsum (fun v => vinF μ v 2) (v)) + (vinF μ (v) (2)))), (3, .int ((zsum (fun v => SM μ v c) (v)) + (SM μ (v) (c)))), (4, .int ((zsum (fun v => vinF μ v 4) (v)) + (vinF μ (v) (4)))), (5, .int (nI (v))), (6, .int (SM μ (v) (c))), (7, .int (nI ((HC μ v (c))))), (8, .int (LA μ v (c))), (9, .int (nI (q)))] dL_isSound_331 (by decide) rfl ?_
          refine zr_iinc X 5 (nI (v + 1)) [1, 2, 3, 4, 5, 0, 6, 7, 8, 9] [(0, .ref (ad (0))), (1, .int (nI (c))), (2, .int ((zsum (fun v => vinF μ v 2) (v)) + (vinF μ (v) (2)))), (3, .int ((zsum (fun v => SM μ v c) (v)) + (SM μ (v) (c)))), (4, .int ((zsum (fun v => vinF μ v 4) (v)) + (vinF μ (v) (4)))), (5, .int (nI (v + 1))), (6, .int (SM μ (v) (c))), (7, .int (nI ((HC μ v (c))))), (8, .int (LA μ v (c))), (9, .int (nI (q)))] dL_isSound_333 rfl (zinc _) (by decide) rfl ?_
          refine zr_goto X 16 dL_isSound_336 (by decide) ?_
          refine zr_drop X [0, 1, 2, 3, 4, 5] [(0, .ref (ad (0))), (1, .int (nI (c))), (2, .int ((zsum (fun v => vinF μ v 2) (v)) + (vinF μ (v) (2)))), (3, .int ((zsum (fun v => SM μ v c) (v)) + (SM μ (v) (c)))), (4, .int ((zsum (fun v => vinF μ v 4) (v)) + (vinF μ (v) (4)))), (5, .int (nI (v + 1)))] rfl ?_
          exact ih16
        · refine zr_iload X 9 dL_isSound_258 rfl ?_
          refine zr_bipush X (-5) dL_isSound_260 (by decide +kernel) ?_
          refine zr_icmp_eq X 306 dL_isSound_262 (by decide) (fun _ => ?_) (fun q => absurd (xs7 hB I (by omega) h255) q)
          refine zr_iloadn X 2 dL_isSound_306 rfl ?_
          refine zr_aloadn X 0 dL_isSound_307 rfl ?_
          refine zr_iload X 5 dL_isSound_308 rfl ?_
          refine zr_iconst X (nI (2)) dL_isSound_310 (by decide +kernel) ?_
          refine zr_dVi (C := RX5) (ci := 5) [.int (nI (v)), .int (nI (2))] [.int (zsum (fun v => vinF μ v 2) (v))] X (zK_ok A D tc tF tL tM) (t_vintage E μ S hb hb1 hb5 (v := v) (by omega) (i := 2) (by omega)) k_p364 k_467 k_468 k_1 k_469 hdX5_vintage ⟨rfl, rfl⟩ ⟨Nat.le_of_ble_eq_true rfl, Nat.le_of_ble_eq_true rfl⟩ (by omega) sc_0 rfl rfl rfl (Nat.le_of_ble_eq_true rfl) dL_isSound_311 ?_
          refine zr_iadd X ((zsum (fun v => vinF μ v 2) (v)) + (vinF μ (v) (2))) dL_isSound_314 rfl ?_
          refine zr_istoren X [1, 2, 0, 3, 4, 5, 6, 7, 8, 9] [(0, .ref (ad (0))), (1, .int (nI (c))), (2, .int ((zsum (fun v => vinF μ v 2) (v)) + (vinF μ (v) (2)))), (3, .int (zsum (fun v => SM μ v c) (v))), (4, .int (zsum (fun v => vinF μ v 4) (v))), (5, .int (nI (v))), (6, .int (SM μ (v) (c))), (7, .int (nI ((HC μ v (c))))), (8, .int (LA μ v (c))), (9, .int (vinF μ (v) (6)))] dL_isSound_315 (by decide) rfl ?_
          refine zr_iloadn X 3 dL_isSound_316 rfl ?_
          refine zr_iload X 6 dL_isSound_317 rfl ?_
          refine zr_iadd X ((zsum (fun v => SM μ v c) (v)) + (SM μ (v) (c))) dL_isSound_319 rfl ?_
          refine zr_istoren X [1, 2, 3, 0, 4, 5, 6, 7, 8, 9] [(0, .ref (ad (0))), (1, .int (nI (c))), (2, .int ((zsum (fun v => vinF μ v 2) (v)) + (vinF μ (v) (2)))), (3, .int ((zsum (fun v => SM μ v c) (v)) + (SM μ (v) (c)))), (4, .int (zsum (fun v => vinF μ v 4) (v))), (5, .int (nI (v))), (6, .int (SM μ (v) (c))), (7, .int (nI ((HC μ v (c))))), (8, .int (LA μ v (c))), (9, .int (vinF μ (v) (6)))] dL_isSound_320 (by decide) rfl ?_
          refine zr_iload X 4 dL_isSound_321 rfl ?_
          refine zr_aloadn X 0 dL_isSound_323 rfl ?_
          refine zr_iload X 5 dL_isSound_324 rfl ?_
          refine zr_iconst X (nI (4)) dL_isSound_326 (by decide +kernel) ?_
          refine zr_dVi (C := RX5) (ci := 5) [.int (nI (v)), .int (nI (4))] [.int (zsum (fun v => vinF μ v 4) (v))] X (zK_ok A D tc tF tL tM) (t_vintage E μ S hb hb1 hb5 (v := v) (by omega) (i := 4) (by omega)) k_p364 k_467 k_468 k_1 k_469 hdX5_vintage ⟨rfl, rfl⟩ ⟨Nat.le_of_ble_eq_true rfl, Nat.le_of_ble_eq_true rfl⟩ (by omega) sc_0 rfl rfl rfl (Nat.le_of_ble_eq_true rfl) dL_isSound_327 ?_
          refine zr_iadd X ((zsum (fun v => vinF μ v 4) (v)) + (vinF μ (v) (4))) dL_isSound_330 rfl ?_
          refine zr_istore X [1, 2, 3, 4, 0, 5, 6, 7, 8, 9] [(0, .ref (ad (0))), (1, .int (nI (c))), (2, .int ((zsum (fun v => vinF μ v 2) (v)) + (vinF μ (v) (2)))), (3, .int ((zsum (fun v => SM μ v c) (v)) + (SM μ (v) (c)))), (4, .int ((zsum (fun v => vinF μ v 4) (v)) + (vinF μ (v) (4)))), (5, .int (nI (v))), (6, .int (SM μ (v) (c))), (7, .int (nI ((HC μ v (c))))), (8, .int (LA μ v (c))), (9, .int (vinF μ (v) (6)))] dL_isSound_331 (by decide) rfl ?_
          refine zr_iinc X 5 (nI (v + 1)) [1, 2, 3, 4, 5, 0, 6, 7, 8, 9] [(0, .ref (ad (0))), (1, .int (nI (c))), (2, .int ((zsum (fun v => vinF μ v 2) (v)) + (vinF μ (v) (2)))), (3, .int ((zsum (fun v => SM μ v c) (v)) + (SM μ (v) (c)))), (4, .int ((zsum (fun v => vinF μ v 4) (v)) + (vinF μ (v) (4)))), (5, .int (nI (v + 1))), (6, .int (SM μ (v) (c))), (7, .int (nI ((HC μ v (c))))), (8, .int (LA μ v (c))), (9, .int (vinF μ (v) (6)))] dL_isSound_333 rfl (zinc _) (by decide) rfl ?_
          refine zr_goto X 16 dL_isSound_336 (by decide) ?_
          refine zr_drop X [0, 1, 2, 3, 4, 5] [(0, .ref (ad (0))), (1, .int (nI (c))), (2, .int ((zsum (fun v => vinF μ v 2) (v)) + (vinF μ (v) (2)))), (3, .int ((zsum (fun v => SM μ v c) (v)) + (SM μ (v) (c)))), (4, .int ((zsum (fun v => vinF μ v 4) (v)) + (vinF μ (v) (4)))), (5, .int (nI (v + 1)))] rfl ?_
          exact ih16
      · refine zr_aloadn X 0 dL_isSound_231 rfl ?_
        refine zr_iload X 5 dL_isSound_232 rfl ?_
        refine zr_iconst X (nI (0)) dL_isSound_234 (by decide +kernel) ?_
        refine zr_dVi (C := RX5) (ci := 5) [.int (nI (v)), .int (nI (0))] [] X (zK_ok A D tc tF tL tM) (t_vintage E μ S hb hb1 hb5 (v := v) (by omega) (i := 0) (by omega)) k_p364 k_467 k_468 k_1 k_469 hdX5_vintage ⟨rfl, rfl⟩ ⟨Nat.le_of_ble_eq_true rfl, Nat.le_of_ble_eq_true rfl⟩ (by omega) sc_0 rfl rfl rfl (Nat.le_of_ble_eq_true rfl) dL_isSound_235 ?_
        refine zr_if_eq X 243 dL_isSound_238 (by decide) (fun _ => ?_) (fun q => absurd (xs6 I N (by omega) h228) q)
        refine zr_aloadn X 0 dL_isSound_243 rfl ?_
        refine zr_iload X 5 dL_isSound_244 rfl ?_
        refine zr_bipush X (nI (6)) dL_isSound_246 (by decide +kernel) ?_
        refine zr_dVi (C := RX5) (ci := 5) [.int (nI (v)), .int (nI (6))] [] X (zK_ok A D tc tF tL tM) (t_vintage E μ S hb hb1 hb5 (v := v) (by omega) (i := 6) (by omega)) k_p364 k_467 k_468 k_1 k_469 hdX5_vintage ⟨rfl, rfl⟩ ⟨Nat.le_of_ble_eq_true rfl, Nat.le_of_ble_eq_true rfl⟩ (by omega) sc_0 rfl rfl rfl (Nat.le_of_ble_eq_true rfl) dL_isSound_248 ?_
        refine zr_istore X [1, 2, 3, 4, 5, 6, 7, 8, 9, 0] [(0, .ref (ad (0))), (1, .int (nI (c))), (2, .int (zsum (fun v => vinF μ v 2) (v))), (3, .int (zsum (fun v => SM μ v c) (v))), (4, .int (zsum (fun v => vinF μ v 4) (v))), (5, .int (nI (v))), (6, .int (SM μ (v) (c))), (7, .int (nI ((HC μ v (c))))), (8, .int (LA μ v (c))), (9, .int (vinF μ (v) (6)))] dL_isSound_251 (by decide) rfl ?_
        refine zr_iload X 6 dL_isSound_253 rfl ?_
        refine zr_if_ne X 268 dL_isSound_255 (by decide) (fun h255 => ?_) (fun h255 => ?_)
        · obtain ⟨q, eq, q1, q2, q3, q4⟩ := xs8 hB I (v := v) (by omega) h255
          refine zr_lv X (lv1 := [(0, .ref (ad (0))), (1, .int (nI (c))), (2, .int (zsum (fun v => vinF μ v 2) (v))), (3, .int (zsum (fun v => SM μ v c) (v))), (4, .int (zsum (fun v => vinF μ v 4) (v))), (5, .int (nI (v))), (6, .int (SM μ (v) (c))), (7, .int (nI ((HC μ v (c))))), (8, .int (LA μ v (c))), (9, .int (nI (q)))]) (by rw [eq]) ?_
          refine zr_iload X 9 dL_isSound_268 rfl ?_
          refine zr_iconst X (nI (1)) dL_isSound_270 (by decide +kernel) ?_
          refine zr_icmp_lt X 304 dL_isSound_271 (by decide) (fun q => absurd q (nI_nlt (by omega) (by omega))) (fun _ => ?_)
          refine zr_iload X 9 dL_isSound_274 rfl ?_
          refine zr_aloadn X 0 dL_isSound_276 rfl ?_
          refine zr_iconst X (nI (0)) dL_isSound_277 (by decide +kernel) ?_
          refine zr_dVi (C := RX5) (ci := 5) [.int (nI (0))] [.int (nI (q))] X (zK_ok A D tc tF tL tM) (d_count_0 E μ S) k_535 k_509 k_510 k_1 k_511 hdX5_count ⟨rfl, rfl⟩ ⟨Nat.le_of_ble_eq_true rfl, Nat.le_of_ble_eq_true rfl⟩ (by omega) sc_0 rfl rfl rfl (Nat.le_of_ble_eq_true rfl) dL_isSound_278 ?_
          refine zr_iadd X (nI (m + q)) dL_isSound_281 ((nI_add _ _).trans (congrArg nI (by omega))) ?_
          refine zr_bipush X (nI (12)) dL_isSound_282 (by decide +kernel) ?_
          refine zr_irem X (nI (((m + q) % 12))) dL_isSound_284 (by decide +kernel) (pk_rem (by omega) (by omega) (by omega)) ?_
          refine zr_if_ne X 304 dL_isSound_285 (by decide) (fun q => absurd (zq_eq0 (by omega)) q) (fun _ => ?_)
          refine zr_iload X 9 dL_isSound_288 rfl ?_
          refine zr_aloadn X 0 dL_isSound_290 rfl ?_
          refine zr_iconst X (nI (0)) dL_isSound_291 (by decide +kernel) ?_
          refine zr_dVi (C := RX5) (ci := 5) [.int (nI (0))] [.int (nI (q))] X (zK_ok A D tc tF tL tM) (d_count_0 E μ S) k_535 k_509 k_510 k_1 k_511 hdX5_count ⟨rfl, rfl⟩ ⟨Nat.le_of_ble_eq_true rfl, Nat.le_of_ble_eq_true rfl⟩ (by omega) sc_0 rfl rfl rfl (Nat.le_of_ble_eq_true rfl) dL_isSound_292 ?_
          refine zr_iadd X (nI (m + q)) dL_isSound_295 ((nI_add _ _).trans (congrArg nI (by omega))) ?_
          refine zr_bipush X (nI (12)) dL_isSound_296 (by decide +kernel) ?_
          refine zr_idiv X (nI (((m + q) / 12))) dL_isSound_298 (by decide +kernel) (pk_div (by omega) (by omega) (by omega)) ?_
          refine zr_iload X 5 dL_isSound_299 rfl ?_
          refine zr_icmp_gt X 306 dL_isSound_301 (by decide) (fun _ => ?_) (fun q => absurd (nI_lt (by omega) (by omega)) q)
          refine zr_iloadn X 2 dL_isSound_306 rfl ?_
          refine zr_aloadn X 0 dL_isSound_307 rfl ?_
          refine zr_iload X 5 dL_isSound_308 rfl ?_
          refine zr_iconst X (nI (2)) dL_isSound_310 (by decide +kernel) ?_
          refine zr_dVi (C := RX5) (ci := 5) [.int (nI (v)), .int (nI (2))] [.int (zsum (fun v => vinF μ v 2) (v))] X (zK_ok A D tc tF tL tM) (t_vintage E μ S hb hb1 hb5 (v := v) (by omega) (i := 2) (by omega)) k_p364 k_467 k_468 k_1 k_469 hdX5_vintage ⟨rfl, rfl⟩ ⟨Nat.le_of_ble_eq_true rfl, Nat.le_of_ble_eq_true rfl⟩ (by omega) sc_0 rfl rfl rfl (Nat.le_of_ble_eq_true rfl) dL_isSound_311 ?_
          refine zr_iadd X ((zsum (fun v => vinF μ v 2) (v)) + (vinF μ (v) (2))) dL_isSound_314 rfl ?_
          refine zr_istoren X [1, 2, 0, 3, 4, 5, 6, 7, 8, 9] [(0, .ref (ad (0))), (1, .int (nI (c))), (2, .int ((zsum (fun v => vinF μ v 2) (v)) + (vinF μ (v) (2)))), (3, .int (zsum (fun v => SM μ v c) (v))), (4, .int (zsum (fun v => vinF μ v 4) (v))), (5, .int (nI (v))), (6, .int (SM μ (v) (c))), (7, .int (nI ((HC μ v (c))))), (8, .int (LA μ v (c))), (9, .int (nI (q)))] dL_isSound_315 (by decide) rfl ?_
          refine zr_iloadn X 3 dL_isSound_316 rfl ?_
          refine zr_iload X 6 dL_isSound_317 rfl ?_
          refine zr_iadd X ((zsum (fun v => SM μ v c) (v)) + (SM μ (v) (c))) dL_isSound_319 rfl ?_
          refine zr_istoren X [1, 2, 3, 0, 4, 5, 6, 7, 8, 9] [(0, .ref (ad (0))), (1, .int (nI (c))), (2, .int ((zsum (fun v => vinF μ v 2) (v)) + (vinF μ (v) (2)))), (3, .int ((zsum (fun v => SM μ v c) (v)) + (SM μ (v) (c)))), (4, .int (zsum (fun v => vinF μ v 4) (v))), (5, .int (nI (v))), (6, .int (SM μ (v) (c))), (7, .int (nI ((HC μ v (c))))), (8, .int (LA μ v (c))), (9, .int (nI (q)))] dL_isSound_320 (by decide) rfl ?_
          refine zr_iload X 4 dL_isSound_321 rfl ?_
          refine zr_aloadn X 0 dL_isSound_323 rfl ?_
          refine zr_iload X 5 dL_isSound_324 rfl ?_
          refine zr_iconst X (nI (4)) dL_isSound_326 (by decide +kernel) ?_
          refine zr_dVi (C := RX5) (ci := 5) [.int (nI (v)), .int (nI (4))] [.int (zsum (fun v => vinF μ v 4) (v))] X (zK_ok A D tc tF tL tM) (t_vintage E μ S hb hb1 hb5 (v := v) (by omega) (i := 4) (by omega)) k_p364 k_467 k_468 k_1 k_469 hdX5_vintage ⟨rfl, rfl⟩ ⟨Nat.le_of_ble_eq_true rfl, Nat.le_of_ble_eq_true rfl⟩ (by omega) sc_0 rfl rfl rfl (Nat.le_of_ble_eq_true rfl) dL_isSound_327 ?_
          refine zr_iadd X ((zsum (fun v => vinF μ v 4) (v)) + (vinF μ (v) (4))) dL_isSound_330 rfl ?_
          refine zr_istore X [1, 2, 3, 4, 0, 5, 6, 7, 8, 9] [(0, .ref (ad (0))), (1, .int (nI (c))), (2, .int ((zsum (fun v => vinF μ v 2) (v)) + (vinF μ (v) (2)))), (3, .int ((zsum (fun v => SM μ v c) (v)) + (SM μ (v) (c)))), (4, .int ((zsum (fun v => vinF μ v 4) (v)) + (vinF μ (v) (4)))), (5, .int (nI (v))), (6, .int (SM μ (v) (c))), (7, .int (nI ((HC μ v (c))))), (8, .int (LA μ v (c))), (9, .int (nI (q)))] dL_isSound_331 (by decide) rfl ?_
          refine zr_iinc X 5 (nI (v + 1)) [1, 2, 3, 4, 5, 0, 6, 7, 8, 9] [(0, .ref (ad (0))), (1, .int (nI (c))), (2, .int ((zsum (fun v => vinF μ v 2) (v)) + (vinF μ (v) (2)))), (3, .int ((zsum (fun v => SM μ v c) (v)) + (SM μ (v) (c)))), (4, .int ((zsum (fun v => vinF μ v 4) (v)) + (vinF μ (v) (4)))), (5, .int (nI (v + 1))), (6, .int (SM μ (v) (c))), (7, .int (nI ((HC μ v (c))))), (8, .int (LA μ v (c))), (9, .int (nI (q)))] dL_isSound_333 rfl (zinc _) (by decide) rfl ?_
          refine zr_goto X 16 dL_isSound_336 (by decide) ?_
          refine zr_drop X [0, 1, 2, 3, 4, 5] [(0, .ref (ad (0))), (1, .int (nI (c))), (2, .int ((zsum (fun v => vinF μ v 2) (v)) + (vinF μ (v) (2)))), (3, .int ((zsum (fun v => SM μ v c) (v)) + (SM μ (v) (c)))), (4, .int ((zsum (fun v => vinF μ v 4) (v)) + (vinF μ (v) (4)))), (5, .int (nI (v + 1)))] rfl ?_
          exact ih16
        · refine zr_iload X 9 dL_isSound_258 rfl ?_
          refine zr_bipush X (-5) dL_isSound_260 (by decide +kernel) ?_
          refine zr_icmp_eq X 306 dL_isSound_262 (by decide) (fun _ => ?_) (fun q => absurd (xs7 hB I (by omega) h255) q)
          refine zr_iloadn X 2 dL_isSound_306 rfl ?_
          refine zr_aloadn X 0 dL_isSound_307 rfl ?_
          refine zr_iload X 5 dL_isSound_308 rfl ?_
          refine zr_iconst X (nI (2)) dL_isSound_310 (by decide +kernel) ?_
          refine zr_dVi (C := RX5) (ci := 5) [.int (nI (v)), .int (nI (2))] [.int (zsum (fun v => vinF μ v 2) (v))] X (zK_ok A D tc tF tL tM) (t_vintage E μ S hb hb1 hb5 (v := v) (by omega) (i := 2) (by omega)) k_p364 k_467 k_468 k_1 k_469 hdX5_vintage ⟨rfl, rfl⟩ ⟨Nat.le_of_ble_eq_true rfl, Nat.le_of_ble_eq_true rfl⟩ (by omega) sc_0 rfl rfl rfl (Nat.le_of_ble_eq_true rfl) dL_isSound_311 ?_
          refine zr_iadd X ((zsum (fun v => vinF μ v 2) (v)) + (vinF μ (v) (2))) dL_isSound_314 rfl ?_
          refine zr_istoren X [1, 2, 0, 3, 4, 5, 6, 7, 8, 9] [(0, .ref (ad (0))), (1, .int (nI (c))), (2, .int ((zsum (fun v => vinF μ v 2) (v)) + (vinF μ (v) (2)))), (3, .int (zsum (fun v => SM μ v c) (v))), (4, .int (zsum (fun v => vinF μ v 4) (v))), (5, .int (nI (v))), (6, .int (SM μ (v) (c))), (7, .int (nI ((HC μ v (c))))), (8, .int (LA μ v (c))), (9, .int (vinF μ (v) (6)))] dL_isSound_315 (by decide) rfl ?_
          refine zr_iloadn X 3 dL_isSound_316 rfl ?_
          refine zr_iload X 6 dL_isSound_317 rfl ?_
          refine zr_iadd X ((zsum (fun v => SM μ v c) (v)) + (SM μ (v) (c))) dL_isSound_319 rfl ?_
          refine zr_istoren X [1, 2, 3, 0, 4, 5, 6, 7, 8, 9] [(0, .ref (ad (0))), (1, .int (nI (c))), (2, .int ((zsum (fun v => vinF μ v 2) (v)) + (vinF μ (v) (2)))), (3, .int ((zsum (fun v => SM μ v c) (v)) + (SM μ (v) (c)))), (4, .int (zsum (fun v => vinF μ v 4) (v))), (5, .int (nI (v))), (6, .int (SM μ (v) (c))), (7, .int (nI ((HC μ v (c))))), (8, .int (LA μ v (c))), (9, .int (vinF μ (v) (6)))] dL_isSound_320 (by decide) rfl ?_
          refine zr_iload X 4 dL_isSound_321 rfl ?_
          refine zr_aloadn X 0 dL_isSound_323 rfl ?_
          refine zr_iload X 5 dL_isSound_324 rfl ?_
          refine zr_iconst X (nI (4)) dL_isSound_326 (by decide +kernel) ?_
          refine zr_dVi (C := RX5) (ci := 5) [.int (nI (v)), .int (nI (4))] [.int (zsum (fun v => vinF μ v 4) (v))] X (zK_ok A D tc tF tL tM) (t_vintage E μ S hb hb1 hb5 (v := v) (by omega) (i := 4) (by omega)) k_p364 k_467 k_468 k_1 k_469 hdX5_vintage ⟨rfl, rfl⟩ ⟨Nat.le_of_ble_eq_true rfl, Nat.le_of_ble_eq_true rfl⟩ (by omega) sc_0 rfl rfl rfl (Nat.le_of_ble_eq_true rfl) dL_isSound_327 ?_
          refine zr_iadd X ((zsum (fun v => vinF μ v 4) (v)) + (vinF μ (v) (4))) dL_isSound_330 rfl ?_
          refine zr_istore X [1, 2, 3, 4, 0, 5, 6, 7, 8, 9] [(0, .ref (ad (0))), (1, .int (nI (c))), (2, .int ((zsum (fun v => vinF μ v 2) (v)) + (vinF μ (v) (2)))), (3, .int ((zsum (fun v => SM μ v c) (v)) + (SM μ (v) (c)))), (4, .int ((zsum (fun v => vinF μ v 4) (v)) + (vinF μ (v) (4)))), (5, .int (nI (v))), (6, .int (SM μ (v) (c))), (7, .int (nI ((HC μ v (c))))), (8, .int (LA μ v (c))), (9, .int (vinF μ (v) (6)))] dL_isSound_331 (by decide) rfl ?_
          refine zr_iinc X 5 (nI (v + 1)) [1, 2, 3, 4, 5, 0, 6, 7, 8, 9] [(0, .ref (ad (0))), (1, .int (nI (c))), (2, .int ((zsum (fun v => vinF μ v 2) (v)) + (vinF μ (v) (2)))), (3, .int ((zsum (fun v => SM μ v c) (v)) + (SM μ (v) (c)))), (4, .int ((zsum (fun v => vinF μ v 4) (v)) + (vinF μ (v) (4)))), (5, .int (nI (v + 1))), (6, .int (SM μ (v) (c))), (7, .int (nI ((HC μ v (c))))), (8, .int (LA μ v (c))), (9, .int (vinF μ (v) (6)))] dL_isSound_333 rfl (zinc _) (by decide) rfl ?_
          refine zr_goto X 16 dL_isSound_336 (by decide) ?_
          refine zr_drop X [0, 1, 2, 3, 4, 5] [(0, .ref (ad (0))), (1, .int (nI (c))), (2, .int ((zsum (fun v => vinF μ v 2) (v)) + (vinF μ (v) (2)))), (3, .int ((zsum (fun v => SM μ v c) (v)) + (SM μ (v) (c)))), (4, .int ((zsum (fun v => vinF μ v 4) (v)) + (vinF μ (v) (4)))), (5, .int (nI (v + 1)))] rfl ?_
          exact ih16
    · intro f hf ih36
      refine zr_iload X 9 dL_isSound_36 rfl ?_
      refine zr_iloadn X 1 dL_isSound_38 rfl ?_
      refine zr_icmp_ge X 143 dL_isSound_39 (by decide) (fun q => absurd q (nI_ge (by omega) (by omega))) (fun _ => ?_)
      refine zr_iload X 6 dL_isSound_42 rfl ?_
      refine zr_aloadn X 0 dL_isSound_44 rfl ?_
      refine zr_iload X 9 dL_isSound_45 rfl ?_
      refine zr_iload X 5 dL_isSound_47 rfl ?_
      refine zr_dVi (C := RX5) (ci := 5) [.int (nI (f)), .int (nI (v))] [.int (SM μ (v) (f))] X (zK_ok A D tc tF tL tM) (d_holds_ok E μ S (f := f) (by omega) (v := v) (by omega)) k_600 k_458 k_459 k_1 k_460 hdX5_holds ⟨rfl, rfl⟩ ⟨Nat.le_of_ble_eq_true rfl, Nat.le_of_ble_eq_true rfl⟩ (by omega) sc_0 rfl rfl rfl (Nat.le_of_ble_eq_true rfl) dL_isSound_49 ?_
      refine zr_iadd X ((SM μ (v) (f)) + (μ (32 * f + v + 7))) dL_isSound_52 rfl ?_
      refine zr_istore X [1, 2, 3, 4, 5, 6, 0, 7, 8, 9] [(0, .ref (ad (0))), (1, .int (nI (c))), (2, .int (zsum (fun v => vinF μ v 2) (v))), (3, .int (zsum (fun v => SM μ v c) (v))), (4, .int (zsum (fun v => vinF μ v 4) (v))), (5, .int (nI (v))), (6, .int ((SM μ (v) (f)) + (μ (32 * f + v + 7)))), (7, .int (nI ((HC μ v (f))))), (8, .int (LA μ v (f))), (9, .int (nI (f)))] dL_isSound_53 (by decide) rfl ?_
      refine zr_iload X 7 dL_isSound_55 rfl ?_
      refine zr_aloadn X 0 dL_isSound_57 rfl ?_
      refine zr_iload X 9 dL_isSound_58 rfl ?_
      refine zr_iload X 5 dL_isSound_60 rfl ?_
      refine zr_dVi (C := RX5) (ci := 5) [.int (nI (f)), .int (nI (v))] [.int (nI ((HC μ v (f))))] X (zK_ok A D tc tF tL tM) (d_holds_ok E μ S (f := f) (by omega) (v := v) (by omega)) k_600 k_458 k_459 k_1 k_460 hdX5_holds ⟨rfl, rfl⟩ ⟨Nat.le_of_ble_eq_true rfl, Nat.le_of_ble_eq_true rfl⟩ (by omega) sc_0 rfl rfl rfl (Nat.le_of_ble_eq_true rfl) dL_isSound_62 ?_
      refine zr_if_le X 72 dL_isSound_65 (by decide) (fun h65 => ?_) (fun h65 => ?_)
      · refine zr_iconst X (nI (0)) dL_isSound_72 (by decide +kernel) ?_
        refine zr_iadd X (nI ((HC μ v (f)))) dL_isSound_73 ((nI_add _ _).trans (congrArg nI (by omega))) ?_
        refine zr_istore X [1, 2, 3, 4, 5, 6, 7, 0, 8, 9] [(0, .ref (ad (0))), (1, .int (nI (c))), (2, .int (zsum (fun v => vinF μ v 2) (v))), (3, .int (zsum (fun v => SM μ v c) (v))), (4, .int (zsum (fun v => vinF μ v 4) (v))), (5, .int (nI (v))), (6, .int ((SM μ (v) (f)) + (μ (32 * f + v + 7)))), (7, .int (nI ((HC μ v (f))))), (8, .int (LA μ v (f))), (9, .int (nI (f)))] dL_isSound_74 (by decide) rfl ?_
        refine zr_aloadn X 0 dL_isSound_76 rfl ?_
        refine zr_iload X 5 dL_isSound_77 rfl ?_
        refine zr_iload X 9 dL_isSound_79 rfl ?_
        refine zr_dVi (C := RX5) (ci := 5) [.int (nI (v)), .int (nI (f))] [] X (zK_ok A D tc tF tL tM) (d_holder_ok E μ S (v := v) (by omega) (y := nI (f)) (nI_pos' (by omega))) k_629 k_493 k_494 k_1 k_495 hdX5_holder ⟨rfl, rfl⟩ ⟨Nat.le_of_ble_eq_true rfl, Nat.le_of_ble_eq_true rfl⟩ (by omega) sc_0 rfl rfl rfl (Nat.le_of_ble_eq_true rfl) dL_isSound_81 ?_
        refine zr_istore X [1, 2, 3, 4, 5, 6, 7, 8, 9, 10, 0] [(0, .ref (ad (0))), (1, .int (nI (c))), (2, .int (zsum (fun v => vinF μ v 2) (v))), (3, .int (zsum (fun v => SM μ v c) (v))), (4, .int (zsum (fun v => vinF μ v 4) (v))), (5, .int (nI (v))), (6, .int ((SM μ (v) (f)) + (μ (32 * f + v + 7)))), (7, .int (nI ((HC μ v (f))))), (8, .int (LA μ v (f))), (9, .int (nI (f))), (10, .int (hoF μ (v) (f)))] dL_isSound_84 (by decide) rfl ?_
        refine zr_iload X 10 dL_isSound_86 rfl ?_
        refine zr_if_lt X 118 dL_isSound_88 (by decide) (fun h88 => ?_) (fun h88 => ?_)
        · refine zr_iload X 10 dL_isSound_118 rfl ?_
          refine zr_if_lt X 134 dL_isSound_120 (by decide) (fun _ => ?_) (fun q => absurd (h88) q)
          refine zr_iconst X (nI (0)) dL_isSound_134 (by decide +kernel) ?_
          refine zr_istore X [1, 2, 3, 4, 5, 6, 7, 8, 0, 9, 10] [(0, .ref (ad (0))), (1, .int (nI (c))), (2, .int (zsum (fun v => vinF μ v 2) (v))), (3, .int (zsum (fun v => SM μ v c) (v))), (4, .int (zsum (fun v => vinF μ v 4) (v))), (5, .int (nI (v))), (6, .int ((SM μ (v) (f)) + (μ (32 * f + v + 7)))), (7, .int (nI ((HC μ v (f))))), (8, .int (nI (0))), (9, .int (nI (f))), (10, .int (hoF μ (v) (f)))] dL_isSound_135 (by decide) rfl ?_
          refine zr_iinc X 9 (nI (f + 1)) [1, 2, 3, 4, 5, 6, 7, 8, 9, 0, 10] [(0, .ref (ad (0))), (1, .int (nI (c))), (2, .int (zsum (fun v => vinF μ v 2) (v))), (3, .int (zsum (fun v => SM μ v c) (v))), (4, .int (zsum (fun v => vinF μ v 4) (v))), (5, .int (nI (v))), (6, .int ((SM μ (v) (f)) + (μ (32 * f + v + 7)))), (7, .int (nI ((HC μ v (f))))), (8, .int (nI (0))), (9, .int (nI (f + 1))), (10, .int (hoF μ (v) (f)))] dL_isSound_137 rfl (zinc _) (by decide) rfl ?_
          refine zr_goto X 36 dL_isSound_140 (by decide) ?_
          refine zr_drop X [0, 1, 2, 3, 4, 5, 6, 7, 8, 9] [(0, .ref (ad (0))), (1, .int (nI (c))), (2, .int (zsum (fun v => vinF μ v 2) (v))), (3, .int (zsum (fun v => SM μ v c) (v))), (4, .int (zsum (fun v => vinF μ v 4) (v))), (5, .int (nI (v))), (6, .int ((SM μ (v) (f)) + (μ (32 * f + v + 7)))), (7, .int (nI ((HC μ v (f))))), (8, .int (nI (0))), (9, .int (nI (f + 1)))] rfl ?_
          exact zr_lv X (lv1 := [(0, .ref (ad (0))), (1, .int (nI (c))), (2, .int (zsum (fun v => vinF μ v 2) (v))), (3, .int (zsum (fun v => SM μ v c) (v))), (4, .int (zsum (fun v => vinF μ v 4) (v))), (5, .int (nI (v))), (6, .int (SM μ (v) (f + 1))), (7, .int (nI ((HC μ v (f + 1))))), (8, .int (LA μ v (f + 1))), (9, .int (nI (f + 1)))]) (by rw [SM_s, HC_T h65, LA_T h88]) ih36
        · obtain ⟨k, hk, ek, e1, e2⟩ := xs5 hB I (v := v) (f := f) (by omega) hf h88
          have hk8 : k < 8 := by omega
          refine zr_lv X (lv1 := [(0, .ref (ad (0))), (1, .int (nI (c))), (2, .int (zsum (fun v => vinF μ v 2) (v))), (3, .int (zsum (fun v => SM μ v c) (v))), (4, .int (zsum (fun v => vinF μ v 4) (v))), (5, .int (nI (v))), (6, .int ((SM μ (v) (f)) + (μ (32 * f + v + 7)))), (7, .int (nI ((HC μ v (f))))), (8, .int (LA μ v (f))), (9, .int (nI (f))), (10, .int (nI (k)))]) (by rw [ek]) ?_
          refine zr_aloadn X 0 dL_isSound_91 rfl ?_
          refine zr_iload X 10 dL_isSound_92 rfl ?_
          refine zr_iload X 5 dL_isSound_94 rfl ?_
          refine zr_dVi (C := RX5) (ci := 5) [.int (nI (k)), .int (nI (v))] [] X (zK_ok A D tc tF tL tM) (d_holds_ok E μ S (f := k) (by omega) (v := v) (by omega)) k_600 k_458 k_459 k_1 k_460 hdX5_holds ⟨rfl, rfl⟩ ⟨Nat.le_of_ble_eq_true rfl, Nat.le_of_ble_eq_true rfl⟩ (by omega) sc_0 rfl rfl rfl (Nat.le_of_ble_eq_true rfl) dL_isSound_96 ?_
          refine zr_iconst X (nI (1)) dL_isSound_99 (by decide +kernel) ?_
          refine zr_icmp_lt X 116 dL_isSound_100 (by decide) (fun q => absurd q (e1)) (fun _ => ?_)
          refine zr_aloadn X 0 dL_isSound_103 rfl ?_
          refine zr_iload X 10 dL_isSound_104 rfl ?_
          refine zr_iload X 5 dL_isSound_106 rfl ?_
          refine zr_dVi (C := RX5) (ci := 5) [.int (nI (k)), .int (nI (v))] [] X (zK_ok A D tc tF tL tM) (d_holds_ok E μ S (f := k) (by omega) (v := v) (by omega)) k_600 k_458 k_459 k_1 k_460 hdX5_holds ⟨rfl, rfl⟩ ⟨Nat.le_of_ble_eq_true rfl, Nat.le_of_ble_eq_true rfl⟩ (by omega) sc_0 rfl rfl rfl (Nat.le_of_ble_eq_true rfl) dL_isSound_108 ?_
          refine zr_iload X 8 dL_isSound_111 rfl ?_
          refine zr_icmp_le X 118 dL_isSound_113 (by decide) (fun _ => ?_) (fun q => absurd (e2) q)
          refine zr_iload X 10 dL_isSound_118 rfl ?_
          refine zr_if_lt X 134 dL_isSound_120 (by decide) (fun q => absurd q (nI_pos (by omega))) (fun _ => ?_)
          refine zr_aloadn X 0 dL_isSound_123 rfl ?_
          refine zr_iload X 10 dL_isSound_124 rfl ?_
          refine zr_iload X 5 dL_isSound_126 rfl ?_
          refine zr_dVi (C := RX5) (ci := 5) [.int (nI (k)), .int (nI (v))] [] X (zK_ok A D tc tF tL tM) (d_holds_ok E μ S (f := k) (by omega) (v := v) (by omega)) k_600 k_458 k_459 k_1 k_460 hdX5_holds ⟨rfl, rfl⟩ ⟨Nat.le_of_ble_eq_true rfl, Nat.le_of_ble_eq_true rfl⟩ (by omega) sc_0 rfl rfl rfl (Nat.le_of_ble_eq_true rfl) dL_isSound_128 ?_
          refine zr_goto X 135 dL_isSound_131 (by decide) ?_
          refine zr_istore X [1, 2, 3, 4, 5, 6, 7, 8, 0, 9, 10] [(0, .ref (ad (0))), (1, .int (nI (c))), (2, .int (zsum (fun v => vinF μ v 2) (v))), (3, .int (zsum (fun v => SM μ v c) (v))), (4, .int (zsum (fun v => vinF μ v 4) (v))), (5, .int (nI (v))), (6, .int ((SM μ (v) (f)) + (μ (32 * f + v + 7)))), (7, .int (nI ((HC μ v (f))))), (8, .int (μ (32 * k + v + 7))), (9, .int (nI (f))), (10, .int (nI (k)))] dL_isSound_135 (by decide) rfl ?_
          refine zr_iinc X 9 (nI (f + 1)) [1, 2, 3, 4, 5, 6, 7, 8, 9, 0, 10] [(0, .ref (ad (0))), (1, .int (nI (c))), (2, .int (zsum (fun v => vinF μ v 2) (v))), (3, .int (zsum (fun v => SM μ v c) (v))), (4, .int (zsum (fun v => vinF μ v 4) (v))), (5, .int (nI (v))), (6, .int ((SM μ (v) (f)) + (μ (32 * f + v + 7)))), (7, .int (nI ((HC μ v (f))))), (8, .int (μ (32 * k + v + 7))), (9, .int (nI (f + 1))), (10, .int (nI (k)))] dL_isSound_137 rfl (zinc _) (by decide) rfl ?_
          refine zr_goto X 36 dL_isSound_140 (by decide) ?_
          refine zr_drop X [0, 1, 2, 3, 4, 5, 6, 7, 8, 9] [(0, .ref (ad (0))), (1, .int (nI (c))), (2, .int (zsum (fun v => vinF μ v 2) (v))), (3, .int (zsum (fun v => SM μ v c) (v))), (4, .int (zsum (fun v => vinF μ v 4) (v))), (5, .int (nI (v))), (6, .int ((SM μ (v) (f)) + (μ (32 * f + v + 7)))), (7, .int (nI ((HC μ v (f))))), (8, .int (μ (32 * k + v + 7))), (9, .int (nI (f + 1)))] rfl ?_
          exact zr_lv X (lv1 := [(0, .ref (ad (0))), (1, .int (nI (c))), (2, .int (zsum (fun v => vinF μ v 2) (v))), (3, .int (zsum (fun v => SM μ v c) (v))), (4, .int (zsum (fun v => vinF μ v 4) (v))), (5, .int (nI (v))), (6, .int (SM μ (v) (f + 1))), (7, .int (nI ((HC μ v (f + 1))))), (8, .int (LA μ v (f + 1))), (9, .int (nI (f + 1)))]) (by rw [SM_s, HC_T h65, LA_F ek hk8]) ih36
      · refine zr_iconst X (nI (1)) dL_isSound_68 (by decide +kernel) ?_
        refine zr_goto X 73 dL_isSound_69 (by decide) ?_
        refine zr_iadd X (nI ((HC μ v (f)) + 1)) dL_isSound_73 (nI_add _ _) ?_
        refine zr_istore X [1, 2, 3, 4, 5, 6, 7, 0, 8, 9] [(0, .ref (ad (0))), (1, .int (nI (c))), (2, .int (zsum (fun v => vinF μ v 2) (v))), (3, .int (zsum (fun v => SM μ v c) (v))), (4, .int (zsum (fun v => vinF μ v 4) (v))), (5, .int (nI (v))), (6, .int ((SM μ (v) (f)) + (μ (32 * f + v + 7)))), (7, .int (nI ((HC μ v (f)) + 1))), (8, .int (LA μ v (f))), (9, .int (nI (f)))] dL_isSound_74 (by decide) rfl ?_
        refine zr_aloadn X 0 dL_isSound_76 rfl ?_
        refine zr_iload X 5 dL_isSound_77 rfl ?_
        refine zr_iload X 9 dL_isSound_79 rfl ?_
        refine zr_dVi (C := RX5) (ci := 5) [.int (nI (v)), .int (nI (f))] [] X (zK_ok A D tc tF tL tM) (d_holder_ok E μ S (v := v) (by omega) (y := nI (f)) (nI_pos' (by omega))) k_629 k_493 k_494 k_1 k_495 hdX5_holder ⟨rfl, rfl⟩ ⟨Nat.le_of_ble_eq_true rfl, Nat.le_of_ble_eq_true rfl⟩ (by omega) sc_0 rfl rfl rfl (Nat.le_of_ble_eq_true rfl) dL_isSound_81 ?_
        refine zr_istore X [1, 2, 3, 4, 5, 6, 7, 8, 9, 10, 0] [(0, .ref (ad (0))), (1, .int (nI (c))), (2, .int (zsum (fun v => vinF μ v 2) (v))), (3, .int (zsum (fun v => SM μ v c) (v))), (4, .int (zsum (fun v => vinF μ v 4) (v))), (5, .int (nI (v))), (6, .int ((SM μ (v) (f)) + (μ (32 * f + v + 7)))), (7, .int (nI ((HC μ v (f)) + 1))), (8, .int (LA μ v (f))), (9, .int (nI (f))), (10, .int (hoF μ (v) (f)))] dL_isSound_84 (by decide) rfl ?_
        refine zr_iload X 10 dL_isSound_86 rfl ?_
        refine zr_if_lt X 118 dL_isSound_88 (by decide) (fun h88 => ?_) (fun h88 => ?_)
        · refine zr_iload X 10 dL_isSound_118 rfl ?_
          refine zr_if_lt X 134 dL_isSound_120 (by decide) (fun _ => ?_) (fun q => absurd (h88) q)
          refine zr_iconst X (nI (0)) dL_isSound_134 (by decide +kernel) ?_
          refine zr_istore X [1, 2, 3, 4, 5, 6, 7, 8, 0, 9, 10] [(0, .ref (ad (0))), (1, .int (nI (c))), (2, .int (zsum (fun v => vinF μ v 2) (v))), (3, .int (zsum (fun v => SM μ v c) (v))), (4, .int (zsum (fun v => vinF μ v 4) (v))), (5, .int (nI (v))), (6, .int ((SM μ (v) (f)) + (μ (32 * f + v + 7)))), (7, .int (nI ((HC μ v (f)) + 1))), (8, .int (nI (0))), (9, .int (nI (f))), (10, .int (hoF μ (v) (f)))] dL_isSound_135 (by decide) rfl ?_
          refine zr_iinc X 9 (nI (f + 1)) [1, 2, 3, 4, 5, 6, 7, 8, 9, 0, 10] [(0, .ref (ad (0))), (1, .int (nI (c))), (2, .int (zsum (fun v => vinF μ v 2) (v))), (3, .int (zsum (fun v => SM μ v c) (v))), (4, .int (zsum (fun v => vinF μ v 4) (v))), (5, .int (nI (v))), (6, .int ((SM μ (v) (f)) + (μ (32 * f + v + 7)))), (7, .int (nI ((HC μ v (f)) + 1))), (8, .int (nI (0))), (9, .int (nI (f + 1))), (10, .int (hoF μ (v) (f)))] dL_isSound_137 rfl (zinc _) (by decide) rfl ?_
          refine zr_goto X 36 dL_isSound_140 (by decide) ?_
          refine zr_drop X [0, 1, 2, 3, 4, 5, 6, 7, 8, 9] [(0, .ref (ad (0))), (1, .int (nI (c))), (2, .int (zsum (fun v => vinF μ v 2) (v))), (3, .int (zsum (fun v => SM μ v c) (v))), (4, .int (zsum (fun v => vinF μ v 4) (v))), (5, .int (nI (v))), (6, .int ((SM μ (v) (f)) + (μ (32 * f + v + 7)))), (7, .int (nI ((HC μ v (f)) + 1))), (8, .int (nI (0))), (9, .int (nI (f + 1)))] rfl ?_
          exact zr_lv X (lv1 := [(0, .ref (ad (0))), (1, .int (nI (c))), (2, .int (zsum (fun v => vinF μ v 2) (v))), (3, .int (zsum (fun v => SM μ v c) (v))), (4, .int (zsum (fun v => vinF μ v 4) (v))), (5, .int (nI (v))), (6, .int (SM μ (v) (f + 1))), (7, .int (nI ((HC μ v (f + 1))))), (8, .int (LA μ v (f + 1))), (9, .int (nI (f + 1)))]) (by rw [SM_s, HC_F h65, LA_T h88]) ih36
        · obtain ⟨k, hk, ek, e1, e2⟩ := xs5 hB I (v := v) (f := f) (by omega) hf h88
          have hk8 : k < 8 := by omega
          refine zr_lv X (lv1 := [(0, .ref (ad (0))), (1, .int (nI (c))), (2, .int (zsum (fun v => vinF μ v 2) (v))), (3, .int (zsum (fun v => SM μ v c) (v))), (4, .int (zsum (fun v => vinF μ v 4) (v))), (5, .int (nI (v))), (6, .int ((SM μ (v) (f)) + (μ (32 * f + v + 7)))), (7, .int (nI ((HC μ v (f)) + 1))), (8, .int (LA μ v (f))), (9, .int (nI (f))), (10, .int (nI (k)))]) (by rw [ek]) ?_
          refine zr_aloadn X 0 dL_isSound_91 rfl ?_
          refine zr_iload X 10 dL_isSound_92 rfl ?_
          refine zr_iload X 5 dL_isSound_94 rfl ?_
          refine zr_dVi (C := RX5) (ci := 5) [.int (nI (k)), .int (nI (v))] [] X (zK_ok A D tc tF tL tM) (d_holds_ok E μ S (f := k) (by omega) (v := v) (by omega)) k_600 k_458 k_459 k_1 k_460 hdX5_holds ⟨rfl, rfl⟩ ⟨Nat.le_of_ble_eq_true rfl, Nat.le_of_ble_eq_true rfl⟩ (by omega) sc_0 rfl rfl rfl (Nat.le_of_ble_eq_true rfl) dL_isSound_96 ?_
          refine zr_iconst X (nI (1)) dL_isSound_99 (by decide +kernel) ?_
          refine zr_icmp_lt X 116 dL_isSound_100 (by decide) (fun q => absurd q (e1)) (fun _ => ?_)
          refine zr_aloadn X 0 dL_isSound_103 rfl ?_
          refine zr_iload X 10 dL_isSound_104 rfl ?_
          refine zr_iload X 5 dL_isSound_106 rfl ?_
          refine zr_dVi (C := RX5) (ci := 5) [.int (nI (k)), .int (nI (v))] [] X (zK_ok A D tc tF tL tM) (d_holds_ok E μ S (f := k) (by omega) (v := v) (by omega)) k_600 k_458 k_459 k_1 k_460 hdX5_holds ⟨rfl, rfl⟩ ⟨Nat.le_of_ble_eq_true rfl, Nat.le_of_ble_eq_true rfl⟩ (by omega) sc_0 rfl rfl rfl (Nat.le_of_ble_eq_true rfl) dL_isSound_108 ?_
          refine zr_iload X 8 dL_isSound_111 rfl ?_
          refine zr_icmp_le X 118 dL_isSound_113 (by decide) (fun _ => ?_) (fun q => absurd (e2) q)
          refine zr_iload X 10 dL_isSound_118 rfl ?_
          refine zr_if_lt X 134 dL_isSound_120 (by decide) (fun q => absurd q (nI_pos (by omega))) (fun _ => ?_)
          refine zr_aloadn X 0 dL_isSound_123 rfl ?_
          refine zr_iload X 10 dL_isSound_124 rfl ?_
          refine zr_iload X 5 dL_isSound_126 rfl ?_
          refine zr_dVi (C := RX5) (ci := 5) [.int (nI (k)), .int (nI (v))] [] X (zK_ok A D tc tF tL tM) (d_holds_ok E μ S (f := k) (by omega) (v := v) (by omega)) k_600 k_458 k_459 k_1 k_460 hdX5_holds ⟨rfl, rfl⟩ ⟨Nat.le_of_ble_eq_true rfl, Nat.le_of_ble_eq_true rfl⟩ (by omega) sc_0 rfl rfl rfl (Nat.le_of_ble_eq_true rfl) dL_isSound_128 ?_
          refine zr_goto X 135 dL_isSound_131 (by decide) ?_
          refine zr_istore X [1, 2, 3, 4, 5, 6, 7, 8, 0, 9, 10] [(0, .ref (ad (0))), (1, .int (nI (c))), (2, .int (zsum (fun v => vinF μ v 2) (v))), (3, .int (zsum (fun v => SM μ v c) (v))), (4, .int (zsum (fun v => vinF μ v 4) (v))), (5, .int (nI (v))), (6, .int ((SM μ (v) (f)) + (μ (32 * f + v + 7)))), (7, .int (nI ((HC μ v (f)) + 1))), (8, .int (μ (32 * k + v + 7))), (9, .int (nI (f))), (10, .int (nI (k)))] dL_isSound_135 (by decide) rfl ?_
          refine zr_iinc X 9 (nI (f + 1)) [1, 2, 3, 4, 5, 6, 7, 8, 9, 0, 10] [(0, .ref (ad (0))), (1, .int (nI (c))), (2, .int (zsum (fun v => vinF μ v 2) (v))), (3, .int (zsum (fun v => SM μ v c) (v))), (4, .int (zsum (fun v => vinF μ v 4) (v))), (5, .int (nI (v))), (6, .int ((SM μ (v) (f)) + (μ (32 * f + v + 7)))), (7, .int (nI ((HC μ v (f)) + 1))), (8, .int (μ (32 * k + v + 7))), (9, .int (nI (f + 1))), (10, .int (nI (k)))] dL_isSound_137 rfl (zinc _) (by decide) rfl ?_
          refine zr_goto X 36 dL_isSound_140 (by decide) ?_
          refine zr_drop X [0, 1, 2, 3, 4, 5, 6, 7, 8, 9] [(0, .ref (ad (0))), (1, .int (nI (c))), (2, .int (zsum (fun v => vinF μ v 2) (v))), (3, .int (zsum (fun v => SM μ v c) (v))), (4, .int (zsum (fun v => vinF μ v 4) (v))), (5, .int (nI (v))), (6, .int ((SM μ (v) (f)) + (μ (32 * f + v + 7)))), (7, .int (nI ((HC μ v (f)) + 1))), (8, .int (μ (32 * k + v + 7))), (9, .int (nI (f + 1)))] rfl ?_
          exact zr_lv X (lv1 := [(0, .ref (ad (0))), (1, .int (nI (c))), (2, .int (zsum (fun v => vinF μ v 2) (v))), (3, .int (zsum (fun v => SM μ v c) (v))), (4, .int (zsum (fun v => vinF μ v 4) (v))), (5, .int (nI (v))), (6, .int (SM μ (v) (f + 1))), (7, .int (nI ((HC μ v (f + 1))))), (8, .int (LA μ v (f + 1))), (9, .int (nI (f + 1)))]) (by rw [SM_s, HC_F h65, LA_F ek hk8]) ih36
