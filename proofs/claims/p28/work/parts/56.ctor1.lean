set_option maxRecDepth 100000 in
theorem k_Firm {l : Launch} {D : va_G} {tc : Nat → ClassId} {tF tL tM : Nat} (a0 : Nat) : zMk l yX0_init cX0_init 1 { frames := 1, cells := 3, slots := 26, locals := 30 } (zK (fun q => a0 ≤ q) D tc tF tL tM) D vwCl a0 [.inr (0, [.null, .null, .null, .int 0, .int 0, .int 0, .int 0, .int 0, .int 0])] [.inr (0, [.ref (a0 + 1), .ref (a0 + 2), .ref (a0 + 3), .int 0, .int 0, .int 0, .int 0, .int 0, .int 0]), .inl (tc 0, 20, .inl (fun _ => 0)), .inl (tc 0, 3, .inl (fun _ => 0)), .inl (tc 0, 3, .inl (fun _ => 0))] 3 26 := by
  refine zMk_of RX0 [(0, .ref a0)] (zK_ok (fun q => a0 ≤ q) D tc tF tL tM) (by decide +kernel) rfl rfl (Nat.le_of_ble_eq_true rfl) rfl ?_
  intro pP eE sS mM aS bL mT cO X
  refine zj_aload X 0 dX0_init_0 rfl ?_
  refine zj_oinit X dX0_init_1 k_39 k_16 k_17 (Nat.le_of_ble_eq_true rfl) (Nat.le_of_ble_eq_true rfl) ?_
  refine zj_aload X 0 dX0_init_4 rfl ?_
  refine zj_bipush X (nI 20) dX0_init_5 (by decide +kernel) ?_
  refine zj_newI X 0 20 dX0_init_7 k_81 rfl rfl (by omega) (Nat.le_of_ble_eq_true rfl) (Nat.le_of_ble_eq_true rfl) ?_
  refine zj_putR X (ci := 0) (k := 0) (ty0 := tyX0) dX0_init_9 rfl rfl inX0 tyX0_ok nmX0 (by decide) (Nat.le_of_ble_eq_true rfl) rfl k_40 rfl rfl rfl rfl rfl ?_
  refine zj_aload X 0 dX0_init_12 rfl ?_
  refine zj_iconst X (nI 3) dX0_init_13 (by decide +kernel) ?_
  refine zj_newI X 0 3 dX0_init_14 k_81 rfl rfl (by omega) (Nat.le_of_ble_eq_true rfl) (Nat.le_of_ble_eq_true rfl) ?_
  refine zj_putR X (ci := 0) (k := 1) (ty0 := tyX0) dX0_init_16 rfl rfl inX0 tyX0_ok nmX0 (by decide) (Nat.le_of_ble_eq_true rfl) rfl k_44 rfl rfl rfl rfl rfl ?_
  refine zj_aload X 0 dX0_init_19 rfl ?_
  refine zj_iconst X (nI 3) dX0_init_20 (by decide +kernel) ?_
  refine zj_newI X 0 3 dX0_init_21 k_81 rfl rfl (by omega) (Nat.le_of_ble_eq_true rfl) (Nat.le_of_ble_eq_true rfl) ?_
  refine zj_putR X (ci := 0) (k := 2) (ty0 := tyX0) dX0_init_23 rfl rfl inX0 tyX0_ok nmX0 (by decide) (Nat.le_of_ble_eq_true rfl) rfl k_47 rfl rfl rfl rfl rfl ?_
  exact zj_ret X dX0_init_26 rfl
set_option maxRecDepth 100000 in
theorem k_Taking {l : Launch} {D : va_G} {tc : Nat → ClassId} {tF tL tM : Nat} (a0 : Nat) : zMk l yX3_init cX3_init 1 { frames := 1, cells := 2, slots := 23, locals := 30 } (zK (fun q => a0 ≤ q) D tc tF tL tM) D vwCl a0 [.inr (3, [.null, .null, .int 0, .int 0, .int 0, .int 0])] [.inr (3, [.ref (a0 + 1), .ref (a0 + 2), .int 0, .int 0, .int 0, .int 0]), .inl (tc 0, 20, .inl (fun _ => 0)), .inl (tc 0, 3, .inl (fun _ => 0))] 2 23 := by
  refine zMk_of RX3 [(0, .ref a0)] (zK_ok (fun q => a0 ≤ q) D tc tF tL tM) (by decide +kernel) rfl rfl (Nat.le_of_ble_eq_true rfl) rfl ?_
  intro pP eE sS mM aS bL mT cO X
  refine zj_aload X 0 dX3_init_0 rfl ?_
  refine zj_oinit X dX3_init_1 k_148 k_16 k_17 (Nat.le_of_ble_eq_true rfl) (Nat.le_of_ble_eq_true rfl) ?_
  refine zj_aload X 0 dX3_init_4 rfl ?_
  refine zj_bipush X (nI 20) dX3_init_5 (by decide +kernel) ?_
  refine zj_newI X 0 20 dX3_init_7 k_81 rfl rfl (by omega) (Nat.le_of_ble_eq_true rfl) (Nat.le_of_ble_eq_true rfl) ?_
  refine zj_putR X (ci := 3) (k := 0) (ty0 := tyX3) dX3_init_9 rfl rfl inX3 tyX3_ok nmX3 (by decide) (Nat.le_of_ble_eq_true rfl) rfl k_149 rfl rfl rfl rfl rfl ?_
  refine zj_aload X 0 dX3_init_12 rfl ?_
  refine zj_iconst X (nI 3) dX3_init_13 (by decide +kernel) ?_
  refine zj_newI X 0 3 dX3_init_14 k_81 rfl rfl (by omega) (Nat.le_of_ble_eq_true rfl) (Nat.le_of_ble_eq_true rfl) ?_
  refine zj_putR X (ci := 3) (k := 1) (ty0 := tyX3) dX3_init_16 rfl rfl inX3 tyX3_ok nmX3 (by decide) (Nat.le_of_ble_eq_true rfl) rfl k_151 rfl rfl rfl rfl rfl ?_
  exact zj_ret X dX3_init_19 rfl
set_option maxRecDepth 100000 in
theorem k_Text {l : Launch} {D : va_G} {tc : Nat → ClassId} {tF tL tM : Nat} (a0 : Nat) : zMk l yX4_init cX4_init 1 { frames := 1, cells := 5, slots := 92, locals := 30 } (zK (fun q => a0 ≤ q) D tc tF tL tM) D vwCl a0 [.inr (4, [.null, .int 0, .null, .null, .null, .null, .int 0, .int 0])] [.inr (4, [.ref (a0 + 1), .int 0, .ref (a0 + 2), .ref (a0 + 3), .ref (a0 + 4), .ref (a0 + 5), .int 0, .int 0]), .inl (tc 1, 60, .inl (fun _ => 0)), .inl (tc 0, 8, .inl (fun _ => 0)), .inl (tc 0, 8, .inl (fun _ => 0)), .inl (tc 0, 8, .inl (fun _ => 0)), .inl (tc 0, 8, .inl (fun _ => 0))] 5 92 := by
  refine zMk_of RX4 [(0, .ref a0)] (zK_ok (fun q => a0 ≤ q) D tc tF tL tM) (by decide +kernel) rfl rfl (Nat.le_of_ble_eq_true rfl) rfl ?_
  intro pP eE sS mM aS bL mT cO X
  refine zj_aload X 0 dX4_init_0 rfl ?_
  refine zj_oinit X dX4_init_1 k_180 k_16 k_17 (Nat.le_of_ble_eq_true rfl) (Nat.le_of_ble_eq_true rfl) ?_
  refine zj_aload X 0 dX4_init_4 rfl ?_
  refine zj_bipush X (nI 60) dX4_init_5 (by decide +kernel) ?_
  refine zj_newC X 1 60 dX4_init_7 k_214 rfl rfl (by omega) (Nat.le_of_ble_eq_true rfl) (Nat.le_of_ble_eq_true rfl) ?_
  refine zj_putR X (ci := 4) (k := 0) (ty0 := tyX4) dX4_init_9 rfl rfl inX4 tyX4_ok nmX4 (by decide) (Nat.le_of_ble_eq_true rfl) rfl k_181 rfl rfl rfl rfl rfl ?_
  refine zj_aload X 0 dX4_init_12 rfl ?_
  refine zj_bipush X (nI 8) dX4_init_13 (by decide +kernel) ?_
  refine zj_newI X 0 8 dX4_init_15 k_81 rfl rfl (by omega) (Nat.le_of_ble_eq_true rfl) (Nat.le_of_ble_eq_true rfl) ?_
  refine zj_putR X (ci := 4) (k := 2) (ty0 := tyX4) dX4_init_17 rfl rfl inX4 tyX4_ok nmX4 (by decide) (Nat.le_of_ble_eq_true rfl) rfl k_185 rfl rfl rfl rfl rfl ?_
  refine zj_aload X 0 dX4_init_20 rfl ?_
  refine zj_bipush X (nI 8) dX4_init_21 (by decide +kernel) ?_
  refine zj_newI X 0 8 dX4_init_23 k_81 rfl rfl (by omega) (Nat.le_of_ble_eq_true rfl) (Nat.le_of_ble_eq_true rfl) ?_
  refine zj_putR X (ci := 4) (k := 3) (ty0 := tyX4) dX4_init_25 rfl rfl inX4 tyX4_ok nmX4 (by decide) (Nat.le_of_ble_eq_true rfl) rfl k_187 rfl rfl rfl rfl rfl ?_
  refine zj_aload X 0 dX4_init_28 rfl ?_
  refine zj_bipush X (nI 8) dX4_init_29 (by decide +kernel) ?_
  refine zj_newI X 0 8 dX4_init_31 k_81 rfl rfl (by omega) (Nat.le_of_ble_eq_true rfl) (Nat.le_of_ble_eq_true rfl) ?_
  refine zj_putR X (ci := 4) (k := 4) (ty0 := tyX4) dX4_init_33 rfl rfl inX4 tyX4_ok nmX4 (by decide) (Nat.le_of_ble_eq_true rfl) rfl k_189 rfl rfl rfl rfl rfl ?_
  refine zj_aload X 0 dX4_init_36 rfl ?_
  refine zj_bipush X (nI 8) dX4_init_37 (by decide +kernel) ?_
  refine zj_newI X 0 8 dX4_init_39 k_81 rfl rfl (by omega) (Nat.le_of_ble_eq_true rfl) (Nat.le_of_ble_eq_true rfl) ?_
  refine zj_putR X (ci := 4) (k := 5) (ty0 := tyX4) dX4_init_41 rfl rfl inX4 tyX4_ok nmX4 (by decide) (Nat.le_of_ble_eq_true rfl) rfl k_191 rfl rfl rfl rfl rfl ?_
  exact zj_ret X dX4_init_44 rfl
