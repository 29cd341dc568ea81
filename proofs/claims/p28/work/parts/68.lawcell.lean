/-! the script's ints, as the law reads them -/
def KX (A : Nat → Prop) (D : va_G) (tc : Nat → ClassId) (tF tL tM b L : Nat) (xs : Nat → Int32) (U : State) (H : Heap) : Prop := zK A D tc tF tL tM U H ∧ va_X b L xs U H ∧ b < H.size
theorem KX_ok {A : Nat → Prop} (D : va_G) (tc : Nat → ClassId) (tF tL tM : Nat) {b : Nat} (L : Nat) (xs : Nat → Int32) (hbA : ¬ A b) : zKK (KX A D tc tF tL tM b L xs) A D vwCl (zTY tc) := by
  have k := zK_ok A D tc tF tL tM
  refine ⟨fun U g mk a H h => ?_, fun U U' H H' hW hs hq h => ?_, fun U H h => k.2.2 U H h.1⟩
  · obtain ⟨h1, h2, h3⟩ := h
    exact ⟨k.1 U g mk a H h1, h2.moved (Vm.Alike.refl U.vm), h3⟩
  · obtain ⟨h1, h2, h3⟩ := h
    exact ⟨k.2.1 U U' H H' hW hs hq h1, (h2.moved hW.alike).kept (hq b h3 hbA), Nat.lt_of_lt_of_le h3 hs⟩
set_option maxHeartbeats 4000000 in
theorem l_cell {l : Launch} {D : va_G} {tc : Nat → ClassId} {ad : Nat → Nat} {A : Nat → Prop} {tF tL tM : Nat} (E : zN 299 A ad) (μ : Nat → Int32) {b L : Nat} {xs : Nat → Int32} (hbA : ¬ A b) (hL : L ≤ 260) {k : Nat} (hk : k < 100) : zMi l yL_cell cL_cell 2 (some .int) (zrm 1) (KX A D tc tF tL tM b L xs) A D vwCl tc ad 299 shC [.ref b, .int (nI k)] μ (fun r u => u = μ) := by
  refine zM_of RL [(0, .ref b), (1, .int (nI k))] (KX_ok D tc tF tL tM L xs hbA) E.1 E.2 owC_ok (by decide +kernel) rfl (Nat.le_of_ble_eq_true rfl) rfl ?_
  intro pP eE sS mM aS bL mT cO X
  obtain ⟨_, hX, hbl⟩ := X.2.2.2.2.2.2.2.2
  refine zr_iloadn X 1 dL_cell_0 rfl ?_
  refine zr_aloadn X 0 dL_cell_1 rfl ?_
  intro H L1 ls a bS h
  refine va_slen X.1.1 X.1.2.1 hX hbl hbA bS dL_cell_2 ?_
  refine lv_icmp_ge (tgt := 12) X.1.1 X.1.2.1 dL_cell_3 (by decide) (fun q => ?_) (fun q => ?_)
  · refine (?_ : zG pP l eE (zrm 1) sS mM aS bL mT cO A D vwCl tc ad 299 shC 2 _ μ 12 [(0, .ref b), (1, .int (nI k))] []) H L1 ls a bS h
    refine zr_sipush X 7919 dL_cell_12 (by decide +kernel) ?_
    refine zr_iloadn X 1 dL_cell_15 rfl ?_
    refine zr_bipush X 23 dL_cell_16 (by decide +kernel) ?_
    refine zr_iadd X (nI k + 23) dL_cell_18 rfl ?_
    refine zr_imul X (7919 * (nI k + 23)) dL_cell_19 rfl ?_
    refine zr_iloadn X 1 dL_cell_20 rfl ?_
    refine zr_bipush X 53 dL_cell_21 (by decide +kernel) ?_
    refine zr_iadd X (nI k + 53) dL_cell_23 rfl ?_
    refine zr_imul X (7919 * (nI k + 23) * (nI k + 53)) dL_cell_24 rfl ?_
    exact zr_iret X dL_cell_25 rfl
  · have hkL : k < L := by
      rcases Nat.lt_or_ge k L with w | w
      · exact w
      · exfalso
        exact q (nI_le w (by omega))
    refine lv_aload_n X.1.1 X.1.2.1 dL_cell_6 rfl (lv_at h 0 rfl) ?_
    refine lv_iload_n X.1.1 X.1.2.1 dL_cell_7 rfl (lv_at h 1 rfl) ?_
    refine va_sld X.1.1 X.1.2.1 hX hbl hbA bS (pk_in k L hkL rfl (by omega)) dL_cell_8 ?_
    refine (?_ : zG pP l eE (zrm 1) sS mM aS bL mT cO A D vwCl tc ad 299 shC 2 _ μ 9 [(0, .ref b), (1, .int (nI k))] [.int (xs (nI k).toNatClampNeg)]) H L1 ls a bS h
    refine zr_goto X 25 dL_cell_9 (by decide) ?_
    exact zr_iret X dL_cell_25 rfl
theorem nzin {k a b : Nat} (hk : k < 2 ^ 31) (h : b < k) : ¬ zin (nI k) a b := by
  rintro ⟨n, _, h2, e⟩
  have := (nI_eq hk (by omega)).mp e
  omega
theorem nzin_neg {x : Int32} {a b : Nat} (hb : b < 2 ^ 31) (h : x < 0) : ¬ zin x a b := by
  rintro ⟨n, _, h2, e⟩
  rw [e] at h
  exact nI_pos (by omega) h
theorem nzfm {k c : Nat} (hk : k < 2 ^ 31) (hc : c ≤ k) : ¬ zfm (nI k) c := by
  rintro ⟨n, h2, e⟩
  have := (nI_eq hk (by omega)).mp e
  omega
