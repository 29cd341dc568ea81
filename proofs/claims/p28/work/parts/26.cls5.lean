section ZT
variable {p : Program} {l : Launch} {e : Env} {R : Room} {s : State} {m : MethodId} {args : Array Value} {below : List Frame} {meth : Method} {c : Code} {A : Nat → Prop} {D : va_G} {cl : List vw_C} {tc : Nat → ClassId} {ad : Nat → Nat} {N : Nat} {sh : Nat → ZS} {nL : Nat} {Q : State → Prop} {μ : Nat → Int32} {pc : Nat} {lv : List (Nat × Value)} {st : List Value}
variable {K : State → Heap → Prop} {tys : List (ClassId × FieldType)} {ow : Nat → Nat} {cc : ByteArray} {own : String} {ret : Option FieldType}
/-- a static array of the class: its address; one of its numbers -/
theorem zr_gets (X : zX p s m args meth c A D cl ad N nL K tys ow sh cc own ret) {C n dd : String} {v : Value} {index : Nat} (hZ : va_Z C n dd v A s s.heap) (hl : Cond.fieldLink own index C n dd ∈ zT) (d : decode cc pc = .ok (.getstatic index, 3)) (kk : zG p l e R s m args below meth c A D cl tc ad N sh nL Q μ (pc + 3) lv (v :: st)) : zG p l e R s m args below meth c A D cl tc ad N sh nL Q μ pc lv st :=
  fun H L ls a b h => va_gets X.1.1 X.1.2.1 hZ b X.1.2.2.2.1 (X.1.2.2.2.2 _ hl) (fun x q => q) d (kk H L ls a b h)
theorem zr_tiald (X : zX p s m args meth c A D cl ad N nL K tys ow sh cc own ret) {t n : Nat} {f : Nat → Value} {i : Int32} (j : Nat) (v : Int32) (hT : va_T .int t n f A s s.heap) (hi : i = nI j) (hj : j < n) (hn : n < 2 ^ 31) (hv : f j = .int v) (d : decode cc pc = .ok (.iaload, 1)) (kk : zG p l e R s m args below meth c A D cl tc ad N sh nL Q μ (pc + 1) lv (.int v :: st)) : zG p l e R s m args below meth c A D cl tc ad N sh nL Q μ pc lv (.int i :: .ref t :: st) := by
  intro H L ls a b h
  subst hi
  refine va_ti X.1.1 X.1.2.1 hT b (vp_in_nI hj hn) (v := .int v) ?_ d (kk H L ls a b h)
  rw [nI_clamp (by omega)]
  exact hv
end ZT
theorem zin_mid {x : Int32} (h1 : ¬ x < nI 3) (h2 : x < nI 8) : zin x 0 14 := by
  rw [Int32.lt_iff_toInt_lt, nI_toInt (by omega)] at h1 h2
  refine ⟨x.toInt.toNat, by omega, by omega, ?_⟩
  apply Int32.toInt_inj.mp
  rw [nI_toInt (by omega)]
  omega
set_option maxHeartbeats 4000000 in
set_option maxRecDepth 100000 in
theorem d_takeFrom {l : Launch} {D : va_G} {tc : Nat → ClassId} {ad : Nat → Nat} {A : Nat → Prop} {tF tL tM : Nat} (E : zN 299 A ad) (μ : Nat → Int32) {f : Nat} (hf : f < 8)  : zMv l yX2_takeFrom cX2_takeFrom 5 (zrm 1) (zK A D tc tF tL tM) A D vwCl tc ad 299 shC [.ref (ad (1)), .ref (ad (4 * f + 4)), .ref (ad (290))] μ (fun u => u = csg (csv μ f 20) f 3) := by
  refine zM_of RX2 [(0, .ref (ad (1))), (1, .ref (ad (4 * f + 4))), (2, .ref (ad (290)))] (zK_ok A D tc tF tL tM) E.1 E.2 owC_ok (by decide +kernel) rfl (Nat.le_of_ble_eq_true rfl) rfl ?_
  intro pP eE sS mM aS bL mT cO X
  refine zr_iconst X (nI (0)) dX2_takeFrom_0 (by decide +kernel) ?_
  refine zr_istoren X [1, 2, 3, 0] [(0, .ref (ad (1))), (1, .ref (ad (4 * f + 4))), (2, .ref (ad (290))), (3, .int (nI (0)))] dX2_takeFrom_1 (by decide) rfl ?_
  refine zr_for X (20) (fun i => (csv μ f (i))) (fun i => [(0, .ref (ad (1))), (1, .ref (ad (4 * f + 4))), (2, .ref (ad (290))), (3, .int (nI (i)))]) [] (rfl) rfl ?_ ?_
  · refine zr_iloadn X 3 dX2_takeFrom_2 rfl ?_
    refine zr_bipush X (nI (20)) dX2_takeFrom_3 (by decide +kernel) ?_
    refine zr_icmp_ge X 44 dX2_takeFrom_5 (by decide) (fun _ => ?_) (fun q => absurd (zq_le (by omega) (by omega)) q)
    refine zr_iconst X (nI (0)) dX2_takeFrom_44 (by decide +kernel) ?_
    refine zr_istoren X [1, 2, 3, 0] [(0, .ref (ad (1))), (1, .ref (ad (4 * f + 4))), (2, .ref (ad (290))), (3, .int (nI (0)))] dX2_takeFrom_45 (by decide) rfl ?_
    refine zr_for X (3) (fun i => (csg (csv μ f 20) f (i))) (fun i => [(0, .ref (ad (1))), (1, .ref (ad (4 * f + 4))), (2, .ref (ad (290))), (3, .int (nI (i)))]) [] (rfl) rfl ?_ ?_
    · refine zr_iloadn X 3 dX2_takeFrom_46 rfl ?_
      refine zr_iconst X (nI (3)) dX2_takeFrom_47 (by decide +kernel) ?_
      refine zr_icmp_ge X 98 dX2_takeFrom_48 (by decide) (fun _ => ?_) (fun q => absurd (zq_le (by omega) (by omega)) q)
      exact zr_vret X dX2_takeFrom_98 rfl
    · intro i hi ih46
      refine zr_iloadn X 3 dX2_takeFrom_46 rfl ?_
      refine zr_iconst X (nI (3)) dX2_takeFrom_47 (by decide +kernel) ?_
      refine zr_icmp_ge X 98 dX2_takeFrom_48 (by decide) (fun q => absurd q (nI_ge (by omega) (by omega))) (fun _ => ?_)
      refine zr_aloadn X 2 dX2_takeFrom_51 rfl ?_
      refine zr_get X (ci := 3) (q := 1) (zR _) (.ref (ad (292))) dX2_takeFrom_52 (by omega) sc_290 rfl inX3 (by decide) rfl (zvR rfl) rfl k_152 ?_
      refine zr_iloadn X 3 dX2_takeFrom_55 rfl ?_
      refine zr_iald X (j := i) 0 ((csg (csv μ f 20) f (i)) (i + 2480)) dX2_takeFrom_56 (by omega) sc_292 rfl rfl (by omega) (by omega) (zcg (b := i + 2480) (by omega) (rfl)) ?_
      refine zr_istore X [1, 2, 3, 4, 0] [(0, .ref (ad (1))), (1, .ref (ad (4 * f + 4))), (2, .ref (ad (290))), (3, .int (nI (i))), (4, .int ((csg (csv μ f 20) f (i)) (i + 2480)))] dX2_takeFrom_57 (by decide) rfl ?_
      refine zr_aloadn X 1 dX2_takeFrom_59 rfl ?_
      refine zr_get X (ci := 0) (q := 1) (zR _) (.ref (ad (4 * f + 6))) dX2_takeFrom_60 (by omega) (sc_firm (j := 0) (i := f) (by omega) (by omega) (by have := cb_0; omega)) rfl inX0 (by decide) rfl (zvR (by have := cb_0; omega)) rfl k_46 ?_
      refine zr_iloadn X 3 dX2_takeFrom_63 rfl ?_
      refine zr_dup2 X dX2_takeFrom_64 rfl rfl ?_
      refine zr_iald X (j := i) 0 ((csg (csv μ f 20) f (i)) (32 * f + i + 27)) dX2_takeFrom_65 (by omega) (sc_off (j := 0) (i := f) (by omega) (by omega) (by have := cb_0; omega)) rfl rfl (by omega) (by omega) (zcg (b := 32 * f + i + 27) (by omega) (rfl)) ?_
      refine zr_iload X 4 dX2_takeFrom_66 rfl ?_
      refine zr_isub X (((csg (csv μ f 20) f (i)) (32 * f + i + 27)) - ((csg (csv μ f 20) f (i)) (i + 2480))) dX2_takeFrom_68 rfl ?_
      refine zr_iast X (j := i) 0 (32 * f + i + 27) dX2_takeFrom_69 (by omega) (sc_off (j := 0) (i := f) (by omega) (by omega) (by have := cb_0; omega)) rfl rfl (by omega) (by omega) (by omega) ?_
      refine zr_aloadn X 1 dX2_takeFrom_70 rfl ?_
      refine zr_get X (ci := 0) (q := 2) (zR _) (.ref (ad (4 * f + 7))) dX2_takeFrom_71 (by omega) (sc_firm (j := 0) (i := f) (by omega) (by omega) (by have := cb_0; omega)) rfl inX0 (by decide) rfl (zvR (by have := cb_0; omega)) rfl k_48 ?_
      refine zr_iloadn X 3 dX2_takeFrom_74 rfl ?_
      refine zr_dup2 X dX2_takeFrom_75 rfl rfl ?_
      refine zr_iald X (j := i) 0 ((csg (csv μ f 20) f (i)) (32 * f + i + 30)) dX2_takeFrom_76 (by omega) (sc_used (j := 0) (i := f) (by omega) (by omega) (by have := cb_0; omega)) rfl rfl (by omega) (by omega) (zcg (b := 32 * f + i + 30) (by omega) ((pk_un (by omega)).trans (rfl))) ?_
      refine zr_iload X 4 dX2_takeFrom_77 rfl ?_
      refine zr_iadd X (((csg (csv μ f 20) f (i)) (32 * f + i + 30)) + ((csg (csv μ f 20) f (i)) (i + 2480))) dX2_takeFrom_79 rfl ?_
      refine zr_iast X (j := i) 0 (32 * f + i + 30) dX2_takeFrom_80 (by omega) (sc_used (j := 0) (i := f) (by omega) (by omega) (by have := cb_0; omega)) rfl rfl (by omega) (by omega) (by omega) ?_
      refine zr_aloadn X 0 dX2_takeFrom_81 rfl ?_
      refine zr_get X (ci := 2) (q := 9) (zR _) (.ref (ad (41))) dX2_takeFrom_82 (by omega) (sc_st (j := 0) (by omega) (by have := cb_0; omega)) rfl inX2 (by decide) rfl (zvR (by have := cb_0; omega)) rfl k_100 ?_
      refine zr_iloadn X 3 dX2_takeFrom_85 rfl ?_
      refine zr_dup2 X dX2_takeFrom_86 rfl rfl ?_
      refine zr_iald X (j := i) 0 ((csg (csv μ f 20) f (i)) (i + 346)) dX2_takeFrom_87 (by omega) (sc_os (j := 0) (by omega) (by have := cb_0; omega)) rfl rfl (by omega) (by omega) (zcg (b := i + 346) (by omega) ((pk_un (by omega)).trans ((pk_un (by omega)).trans (rfl)))) ?_
      refine zr_iload X 4 dX2_takeFrom_88 rfl ?_
      refine zr_iadd X (((csg (csv μ f 20) f (i)) (i + 346)) + ((csg (csv μ f 20) f (i)) (i + 2480))) dX2_takeFrom_90 rfl ?_
      refine zr_iast X (j := i) 0 (i + 346) dX2_takeFrom_91 (by omega) (sc_os (j := 0) (by omega) (by have := cb_0; omega)) rfl rfl (by omega) (by omega) (by omega) ?_
      refine zr_iinc X 3 (nI (i + 1)) [1, 2, 3, 0, 4] [(0, .ref (ad (1))), (1, .ref (ad (4 * f + 4))), (2, .ref (ad (290))), (3, .int (nI (i + 1))), (4, .int ((csg (csv μ f 20) f (i)) (i + 2480)))] dX2_takeFrom_92 rfl (zinc _) (by decide) rfl ?_
      refine zr_goto X 46 dX2_takeFrom_95 (by decide) ?_
      refine zr_drop X [0, 1, 2, 3] [(0, .ref (ad (1))), (1, .ref (ad (4 * f + 4))), (2, .ref (ad (290))), (3, .int (nI (i + 1)))] rfl ?_
      exact ih46
  · intro i hi ih2
    refine zr_iloadn X 3 dX2_takeFrom_2 rfl ?_
    refine zr_bipush X (nI (20)) dX2_takeFrom_3 (by decide +kernel) ?_
    refine zr_icmp_ge X 44 dX2_takeFrom_5 (by decide) (fun q => absurd q (nI_ge (by omega) (by omega))) (fun _ => ?_)
    refine zr_aloadn X 2 dX2_takeFrom_8 rfl ?_
    refine zr_get X (ci := 3) (q := 0) (zR _) (.ref (ad (291))) dX2_takeFrom_9 (by omega) sc_290 rfl inX3 (by decide) rfl (zvR rfl) rfl k_150 ?_
    refine zr_iloadn X 3 dX2_takeFrom_12 rfl ?_
    refine zr_iald X (j := i) 0 ((csv μ f (i)) (i + 2460)) dX2_takeFrom_13 (by omega) sc_291 rfl rfl (by omega) (by omega) (zcg (b := i + 2460) (by omega) (rfl)) ?_
    refine zr_istore X [1, 2, 3, 4, 0] [(0, .ref (ad (1))), (1, .ref (ad (4 * f + 4))), (2, .ref (ad (290))), (3, .int (nI (i))), (4, .int ((csv μ f (i)) (i + 2460)))] dX2_takeFrom_14 (by decide) rfl ?_
    refine zr_aloadn X 1 dX2_takeFrom_16 rfl ?_
    refine zr_get X (ci := 0) (q := 0) (zR _) (.ref (ad (4 * f + 5))) dX2_takeFrom_17 (by omega) (sc_firm (j := 0) (i := f) (by omega) (by omega) (by have := cb_0; omega)) rfl inX0 (by decide) rfl (zvR (by have := cb_0; omega)) rfl k_43 ?_
    refine zr_iloadn X 3 dX2_takeFrom_20 rfl ?_
    refine zr_dup2 X dX2_takeFrom_21 rfl rfl ?_
    refine zr_iald X (j := i) 0 ((csv μ f (i)) (32 * f + i + 7)) dX2_takeFrom_22 (by omega) (sc_held (j := 0) (i := f) (by omega) (by omega) (by have := cb_0; omega)) rfl rfl (by omega) (by omega) (zcg (b := 32 * f + i + 7) (by omega) (rfl)) ?_
    refine zr_iload X 4 dX2_takeFrom_23 rfl ?_
    refine zr_isub X (((csv μ f (i)) (32 * f + i + 7)) - ((csv μ f (i)) (i + 2460))) dX2_takeFrom_25 rfl ?_
    refine zr_iast X (j := i) 0 (32 * f + i + 7) dX2_takeFrom_26 (by omega) (sc_held (j := 0) (i := f) (by omega) (by omega) (by have := cb_0; omega)) rfl rfl (by omega) (by omega) (by omega) ?_
    refine zr_aloadn X 0 dX2_takeFrom_27 rfl ?_
    refine zr_get X (ci := 2) (q := 5) (zR _) (.ref (ad (37))) dX2_takeFrom_28 (by omega) (sc_st (j := 0) (by omega) (by have := cb_0; omega)) rfl inX2 (by decide) rfl (zvR (by have := cb_0; omega)) rfl k_92 ?_
    refine zr_iloadn X 3 dX2_takeFrom_31 rfl ?_
    refine zr_dup2 X dX2_takeFrom_32 rfl rfl ?_
    refine zr_iald X (j := i) 0 ((csv μ f (i)) (i + 283)) dX2_takeFrom_33 (by omega) (sc_sur (j := 0) (by omega) (by have := cb_0; omega)) rfl rfl (by omega) (by omega) (zcg (b := i + 283) (by omega) ((pk_un (by omega)).trans (rfl))) ?_
    refine zr_iload X 4 dX2_takeFrom_34 rfl ?_
    refine zr_iadd X (((csv μ f (i)) (i + 283)) + ((csv μ f (i)) (i + 2460))) dX2_takeFrom_36 rfl ?_
    refine zr_iast X (j := i) 0 (i + 283) dX2_takeFrom_37 (by omega) (sc_sur (j := 0) (by omega) (by have := cb_0; omega)) rfl rfl (by omega) (by omega) (by omega) ?_
    refine zr_iinc X 3 (nI (i + 1)) [1, 2, 3, 0, 4] [(0, .ref (ad (1))), (1, .ref (ad (4 * f + 4))), (2, .ref (ad (290))), (3, .int (nI (i + 1))), (4, .int ((csv μ f (i)) (i + 2460)))] dX2_takeFrom_38 rfl (zinc _) (by decide) rfl ?_
    refine zr_goto X 2 dX2_takeFrom_41 (by decide) ?_
    refine zr_drop X [0, 1, 2, 3] [(0, .ref (ad (1))), (1, .ref (ad (4 * f + 4))), (2, .ref (ad (290))), (3, .int (nI (i + 1)))] rfl ?_
    exact ih2

set_option maxHeartbeats 4000000 in
set_option maxRecDepth 100000 in
theorem d_takeVintage {l : Launch} {D : va_G} {tc : Nat → ClassId} {ad : Nat → Nat} {A : Nat → Prop} {tF tL tM : Nat} (E : zN 299 A ad) (μ : Nat → Int32) {f : Nat} (hf : f < 8) {v : Nat} (hv : v ≤ 19)  : zMv l yX3_takeVintage cX3_takeVintage 4 (zrm 1) (zK A D tc tF tL tM) A D vwCl tc ad 299 shC [.ref (ad (290)), .ref (ad (4 * f + 4)), .int (nI (v))] μ (fun u => u = ctv μ f v) := by
  refine zM_of RX3 [(0, .ref (ad (290))), (1, .ref (ad (4 * f + 4))), (2, .int (nI (v)))] (zK_ok A D tc tF tL tM) E.1 E.2 owC_ok (by decide +kernel) rfl (Nat.le_of_ble_eq_true rfl) rfl ?_
  intro pP eE sS mM aS bL mT cO X
  refine zr_aloadn X 0 dX3_takeVintage_0 rfl ?_
  refine zr_get X (ci := 3) (q := 5) zI (.int (μ (2458))) dX3_takeVintage_1 (by omega) sc_290 rfl inX3 (by decide) rfl (congrArg Value.int (rfl)) rfl k_160 ?_
  refine zr_aloadn X 1 dX3_takeVintage_4 rfl ?_
  refine zr_get X (ci := 0) (q := 0) (zR _) (.ref (ad (4 * f + 5))) dX3_takeVintage_5 (by omega) (sc_firm (j := 0) (i := f) (by omega) (by omega) (by have := cb_0; omega)) rfl inX0 (by decide) rfl (zvR (by have := cb_0; omega)) rfl k_41 ?_
  refine zr_iloadn X 2 dX3_takeVintage_8 rfl ?_
  refine zr_iald X (j := v) 0 (μ (32 * f + v + 7)) dX3_takeVintage_9 (by omega) (sc_held (j := 0) (i := f) (by omega) (by omega) (by have := cb_0; omega)) rfl rfl (by omega) (by omega) (zcg (b := 32 * f + v + 7) (by omega) (rfl)) ?_
  refine zr_mmin X (zmin (μ (2458)) (μ (32 * f + v + 7))) dX3_takeVintage_10 k_348 k_252 k_8 k_253 (Nat.le_of_ble_eq_true rfl) (Nat.le_of_ble_eq_true rfl) (zmin_eq _ _) ?_
  refine zr_istoren X [1, 2, 3, 0] [(0, .ref (ad (290))), (1, .ref (ad (4 * f + 4))), (2, .int (nI (v))), (3, .int (zmin (μ (2458)) (μ (32 * f + v + 7))))] dX3_takeVintage_13 (by decide) rfl ?_
  refine zr_aloadn X 0 dX3_takeVintage_14 rfl ?_
  refine zr_get X (ci := 3) (q := 0) (zR _) (.ref (ad (291))) dX3_takeVintage_15 (by omega) sc_290 rfl inX3 (by decide) rfl (zvR rfl) rfl k_149 ?_
  refine zr_iloadn X 2 dX3_takeVintage_18 rfl ?_
  refine zr_iloadn X 3 dX3_takeVintage_19 rfl ?_
  refine zr_iast X (j := v) 0 (v + 2460) dX3_takeVintage_20 (by omega) sc_291 rfl rfl (by omega) (by omega) (by omega) ?_
  refine zr_iloadn X 3 dX3_takeVintage_21 rfl ?_
  refine zr_if_ne X 26 dX3_takeVintage_22 (by decide) (fun h22 => ?_) (fun h22 => ?_)
  · refine zr_aloadn X 0 dX3_takeVintage_26 rfl ?_
    refine zr_get X (ci := 3) (q := 3) zI (.int (μ (2456))) dX3_takeVintage_27 (by omega) sc_290 rfl inX3 (by decide) rfl (congrArg Value.int ((pk_un (by omega)).trans (rfl))) rfl k_156 ?_
    refine zr_if_ne X 38 dX3_takeVintage_30 (by decide) (fun h30 => ?_) (fun h30 => ?_)
    · refine zr_aloadn X 0 dX3_takeVintage_38 rfl ?_
      refine zr_dup X dX3_takeVintage_39 rfl ?_
      refine zr_get X (ci := 3) (q := 3) zI (.int (μ (2456))) dX3_takeVintage_40 (by omega) sc_290 rfl inX3 (by decide) rfl (congrArg Value.int ((pk_un (by omega)).trans (rfl))) rfl k_156 ?_
      refine zr_iconst X (nI (1)) dX3_takeVintage_43 (by decide +kernel) ?_
      refine zr_iadd X ((μ (2456)) + (nI (1))) dX3_takeVintage_44 rfl ?_
      refine zr_put X (ci := 3) (q := 3) (ty0 := tyX3) (ty := .int) (2456) dX3_takeVintage_45 (by omega) sc_290 rfl inX3 tyX3_ok nmX3 (by decide) rfl rfl rfl rfl rfl rfl k_156 (by omega) ?_
      refine zr_aloadn X 0 dX3_takeVintage_48 rfl ?_
      refine zr_dup X dX3_takeVintage_49 rfl ?_
      refine zr_get X (ci := 3) (q := 2) zI (.int (μ (2455))) dX3_takeVintage_50 (by omega) sc_290 rfl inX3 (by decide) rfl (congrArg Value.int ((pk_un (by omega)).trans ((pk_un (by omega)).trans (rfl)))) rfl k_154 ?_
      refine zr_iloadn X 3 dX3_takeVintage_53 rfl ?_
      refine zr_iadd X ((μ (2455)) + (zmin (μ (2458)) (μ (32 * f + v + 7)))) dX3_takeVintage_54 rfl ?_
      refine zr_put X (ci := 3) (q := 2) (ty0 := tyX3) (ty := .int) (2455) dX3_takeVintage_55 (by omega) sc_290 rfl inX3 tyX3_ok nmX3 (by decide) rfl rfl rfl rfl rfl rfl k_154 (by omega) ?_
      refine zr_aloadn X 0 dX3_takeVintage_58 rfl ?_
      refine zr_dup X dX3_takeVintage_59 rfl ?_
      refine zr_get X (ci := 3) (q := 5) zI (.int (μ (2458))) dX3_takeVintage_60 (by omega) sc_290 rfl inX3 (by decide) rfl (congrArg Value.int ((pk_un (by omega)).trans ((pk_un (by omega)).trans ((pk_un (by omega)).trans (rfl))))) rfl k_160 ?_
      refine zr_iloadn X 3 dX3_takeVintage_63 rfl ?_
      refine zr_isub X ((μ (2458)) - (zmin (μ (2458)) (μ (32 * f + v + 7)))) dX3_takeVintage_64 rfl ?_
      refine zr_put X (ci := 3) (q := 5) (ty0 := tyX3) (ty := .int) (2458) dX3_takeVintage_65 (by omega) sc_290 rfl inX3 tyX3_ok nmX3 (by decide) rfl rfl rfl rfl rfl rfl k_160 (by omega) ?_
      exact zr_vret X dX3_takeVintage_68 (by unfold ctv ztu; rw [if_neg h22, if_neg h30])
    · refine zr_aloadn X 0 dX3_takeVintage_33 rfl ?_
      refine zr_iloadn X 2 dX3_takeVintage_34 rfl ?_
      refine zr_put X (ci := 3) (q := 4) (ty0 := tyX3) (ty := .int) (2457) dX3_takeVintage_35 (by omega) sc_290 rfl inX3 tyX3_ok nmX3 (by decide) rfl rfl rfl rfl rfl rfl k_158 (by omega) ?_
      refine zr_aloadn X 0 dX3_takeVintage_38 rfl ?_
      refine zr_dup X dX3_takeVintage_39 rfl ?_
      refine zr_get X (ci := 3) (q := 3) zI (.int (μ (2456))) dX3_takeVintage_40 (by omega) sc_290 rfl inX3 (by decide) rfl (congrArg Value.int ((pk_un (by omega)).trans ((pk_un (by omega)).trans (rfl)))) rfl k_156 ?_
      refine zr_iconst X (nI (1)) dX3_takeVintage_43 (by decide +kernel) ?_
      refine zr_iadd X ((μ (2456)) + (nI (1))) dX3_takeVintage_44 rfl ?_
      refine zr_put X (ci := 3) (q := 3) (ty0 := tyX3) (ty := .int) (2456) dX3_takeVintage_45 (by omega) sc_290 rfl inX3 tyX3_ok nmX3 (by decide) rfl rfl rfl rfl rfl rfl k_156 (by omega) ?_
      refine zr_aloadn X 0 dX3_takeVintage_48 rfl ?_
      refine zr_dup X dX3_takeVintage_49 rfl ?_
      refine zr_get X (ci := 3) (q := 2) zI (.int (μ (2455))) dX3_takeVintage_50 (by omega) sc_290 rfl inX3 (by decide) rfl (congrArg Value.int ((pk_un (by omega)).trans ((pk_un (by omega)).trans ((pk_un (by omega)).trans (rfl))))) rfl k_154 ?_
      refine zr_iloadn X 3 dX3_takeVintage_53 rfl ?_
      refine zr_iadd X ((μ (2455)) + (zmin (μ (2458)) (μ (32 * f + v + 7)))) dX3_takeVintage_54 rfl ?_
      refine zr_put X (ci := 3) (q := 2) (ty0 := tyX3) (ty := .int) (2455) dX3_takeVintage_55 (by omega) sc_290 rfl inX3 tyX3_ok nmX3 (by decide) rfl rfl rfl rfl rfl rfl k_154 (by omega) ?_
      refine zr_aloadn X 0 dX3_takeVintage_58 rfl ?_
      refine zr_dup X dX3_takeVintage_59 rfl ?_
      refine zr_get X (ci := 3) (q := 5) zI (.int (μ (2458))) dX3_takeVintage_60 (by omega) sc_290 rfl inX3 (by decide) rfl (congrArg Value.int ((pk_un (by omega)).trans ((pk_un (by omega)).trans ((pk_un (by omega)).trans ((pk_un (by omega)).trans (rfl)))))) rfl k_160 ?_
      refine zr_iloadn X 3 dX3_takeVintage_63 rfl ?_
      refine zr_isub X ((μ (2458)) - (zmin (μ (2458)) (μ (32 * f + v + 7)))) dX3_takeVintage_64 rfl ?_
      refine zr_put X (ci := 3) (q := 5) (ty0 := tyX3) (ty := .int) (2458) dX3_takeVintage_65 (by omega) sc_290 rfl inX3 tyX3_ok nmX3 (by decide) rfl rfl rfl rfl rfl rfl k_160 (by omega) ?_
      exact zr_vret X dX3_takeVintage_68 (by unfold ctv ztu; rw [if_neg h22, if_pos h30])
  · exact zr_vret X dX3_takeVintage_25 (by unfold ctv ztu; rw [if_pos h22])

set_option maxHeartbeats 4000000 in
set_option maxRecDepth 100000 in
theorem d_workOut0 {l : Launch} {D : va_G} {tc : Nat → ClassId} {ad : Nat → Nat} {A : Nat → Prop} {tF tL tM : Nat} (E : zN 299 A ad) (μ : Nat → Int32) {f : Nat} (hf : f < 8) {t : Nat} (ht1 : 1 ≤ t) (ht9 : t ≤ 9999)  : zMv l yX3_workOut cX3_workOut 7 (zrm 3) (zK A D tc tF tL tM) A D vwCl tc ad 299 shC [.ref (ad (290)), .ref (ad (4 * f + 4)), .ref (ad (2)), .int (nI (t)), .int (nI (0))] μ (fun u => u = clay μ f (nI t) 0) := by
  refine zM_of RX3 [(0, .ref (ad (290))), (1, .ref (ad (4 * f + 4))), (2, .ref (ad (2))), (3, .int (nI (t))), (4, .int (nI (0)))] (zK_ok A D tc tF tL tM) E.1 E.2 owC_ok (by decide +kernel) rfl (Nat.le_of_ble_eq_true rfl) rfl ?_
  intro pP eE sS mM aS bL mT cO X
  refine zr_aloadn X 0 dX3_workOut_0 rfl ?_
  refine zr_iloadn X 3 dX3_workOut_1 rfl ?_
  refine zr_put X (ci := 3) (q := 5) (ty0 := tyX3) (ty := .int) (2458) dX3_workOut_2 (by omega) sc_290 rfl inX3 tyX3_ok nmX3 (by decide) rfl rfl rfl rfl rfl rfl k_160 (by omega) ?_
  refine zr_aloadn X 0 dX3_workOut_5 rfl ?_
  refine zr_iconst X (nI (0)) dX3_workOut_6 (by decide +kernel) ?_
  refine zr_put X (ci := 3) (q := 2) (ty0 := tyX3) (ty := .int) (2455) dX3_workOut_7 (by omega) sc_290 rfl inX3 tyX3_ok nmX3 (by decide) rfl rfl rfl rfl rfl rfl k_154 (by omega) ?_
  refine zr_aloadn X 0 dX3_workOut_10 rfl ?_
  refine zr_iconst X (nI (0)) dX3_workOut_11 (by decide +kernel) ?_
  refine zr_put X (ci := 3) (q := 3) (ty0 := tyX3) (ty := .int) (2456) dX3_workOut_12 (by omega) sc_290 rfl inX3 tyX3_ok nmX3 (by decide) rfl rfl rfl rfl rfl rfl k_156 (by omega) ?_
  refine zr_aloadn X 0 dX3_workOut_15 rfl ?_
  refine zr_bipush X (-5) dX3_workOut_16 (by decide +kernel) ?_
  refine zr_put X (ci := 3) (q := 4) (ty0 := tyX3) (ty := .int) (2457) dX3_workOut_18 (by omega) sc_290 rfl inX3 tyX3_ok nmX3 (by decide) rfl rfl rfl rfl rfl rfl k_158 (by omega) ?_
  refine zr_iconst X (nI (2)) dX3_workOut_21 (by decide +kernel) ?_
  refine zr_istore X [1, 2, 3, 4, 5, 0] [(0, .ref (ad (290))), (1, .ref (ad (4 * f + 4))), (2, .ref (ad (2))), (3, .int (nI (t))), (4, .int (nI (0))), (5, .int (nI (2)))] dX3_workOut_22 (by decide) rfl ?_
  refine zr_mem X (rfl : _ = (upd (upd (upd (upd μ 2458 (nI t)) 2455 (nI 0)) 2456 (nI 0)) 2457 (-5))) ?_
  refine zr_iload X 5 dX3_workOut_24 rfl ?_
  refine zr_if_lt X 89 dX3_workOut_26 (by decide) (fun q => absurd q (nI_pos (by omega))) (fun _ => ?_)
  refine zr_iload X 4 dX3_workOut_29 rfl ?_
  refine zr_iconst X (nI (2)) dX3_workOut_31 (by decide +kernel) ?_
  refine zr_icmp_ne X 48 dX3_workOut_32 (by decide) (fun _ => ?_) (fun q => absurd q (zq_ne (by omega) (by omega) (by omega)))
  refine zr_iconst X (nI (0)) dX3_workOut_48 (by decide +kernel) ?_
  refine zr_istore X [1, 2, 3, 4, 5, 6, 0] [(0, .ref (ad (290))), (1, .ref (ad (4 * f + 4))), (2, .ref (ad (2))), (3, .int (nI (t))), (4, .int (nI (0))), (5, .int (nI (2))), (6, .int (nI (0)))] dX3_workOut_49 (by decide) rfl ?_
  refine zr_aloadn X 0 dX3_workOut_51 rfl ?_
  refine zr_get X (ci := 3) (q := 1) (zR _) (.ref (ad (292))) dX3_workOut_52 (by omega) sc_290 rfl inX3 (by decide) rfl (zvR rfl) rfl k_151 ?_
  refine zr_iload X 5 dX3_workOut_55 rfl ?_
  refine zr_aloadn X 0 dX3_workOut_57 rfl ?_
  refine zr_get X (ci := 3) (q := 5) zI (.int ((upd (upd (upd (upd μ 2458 (nI t)) 2455 (nI 0)) 2456 (nI 0)) 2457 (-5)) (2458))) dX3_workOut_58 (by omega) sc_290 rfl inX3 (by decide) rfl (congrArg Value.int (rfl)) rfl k_160 ?_
  refine zr_iload X 6 dX3_workOut_61 rfl ?_
  refine zr_mmin X (zmin ((upd (upd (upd (upd μ 2458 (nI t)) 2455 (nI 0)) 2456 (nI 0)) 2457 (-5)) (2458)) (nI (0))) dX3_workOut_63 k_348 k_252 k_8 k_253 (Nat.le_of_ble_eq_true rfl) (Nat.le_of_ble_eq_true rfl) (zmin_eq _ _) ?_
  refine zr_iast X (j := 2) 0 (2482) dX3_workOut_66 (by omega) sc_292 rfl rfl (by omega) (by omega) (by omega) ?_
  refine zr_aloadn X 0 dX3_workOut_67 rfl ?_
  refine zr_dup X dX3_workOut_68 rfl ?_
  refine zr_get X (ci := 3) (q := 5) zI (.int ((upd (upd (upd (upd μ 2458 (nI t)) 2455 (nI 0)) 2456 (nI 0)) 2457 (-5)) (2458))) dX3_workOut_69 (by omega) sc_290 rfl inX3 (by decide) rfl (congrArg Value.int ((pk_un (by omega)).trans (rfl))) rfl k_160 ?_
  refine zr_aloadn X 0 dX3_workOut_72 rfl ?_
  refine zr_get X (ci := 3) (q := 1) (zR _) (.ref (ad (292))) dX3_workOut_73 (by omega) sc_290 rfl inX3 (by decide) rfl (zvR rfl) rfl k_151 ?_
  refine zr_iload X 5 dX3_workOut_76 rfl ?_
  refine zr_iald X (j := 2) 0 (zmin ((upd (upd (upd (upd μ 2458 (nI t)) 2455 (nI 0)) 2456 (nI 0)) 2457 (-5)) (2458)) (nI (0))) dX3_workOut_78 (by omega) sc_292 rfl rfl (by omega) (by omega) (zcg (b := 2482) (by omega) (pk_us)) ?_
  refine zr_isub X (((upd (upd (upd (upd μ 2458 (nI t)) 2455 (nI 0)) 2456 (nI 0)) 2457 (-5)) (2458)) - (zmin ((upd (upd (upd (upd μ 2458 (nI t)) 2455 (nI 0)) 2456 (nI 0)) 2457 (-5)) (2458)) (nI (0)))) dX3_workOut_79 rfl ?_
  refine zr_put X (ci := 3) (q := 5) (ty0 := tyX3) (ty := .int) (2458) dX3_workOut_80 (by omega) sc_290 rfl inX3 tyX3_ok nmX3 (by decide) rfl rfl rfl rfl rfl rfl k_160 (by omega) ?_
  refine zr_iinc X 5 (nI (1)) [1, 2, 3, 4, 5, 0, 6] [(0, .ref (ad (290))), (1, .ref (ad (4 * f + 4))), (2, .ref (ad (2))), (3, .int (nI (t))), (4, .int (nI (0))), (5, .int (nI (1))), (6, .int (nI (0)))] dX3_workOut_83 rfl (zdec _) (by decide) rfl ?_
  refine zr_goto X 24 dX3_workOut_86 (by decide) ?_
  refine zr_mem X (rfl : _ = (cgm (upd (upd (upd (upd μ 2458 (nI t)) 2455 (nI 0)) 2456 (nI 0)) 2457 (-5)) f 0 2)) ?_
  refine zr_iload X 5 dX3_workOut_24 rfl ?_
  refine zr_if_lt X 89 dX3_workOut_26 (by decide) (fun q => absurd q (nI_pos (by omega))) (fun _ => ?_)
  refine zr_iload X 4 dX3_workOut_29 rfl ?_
  refine zr_iconst X (nI (2)) dX3_workOut_31 (by decide +kernel) ?_
  refine zr_icmp_ne X 48 dX3_workOut_32 (by decide) (fun _ => ?_) (fun q => absurd q (zq_ne (by omega) (by omega) (by omega)))
  refine zr_iconst X (nI (0)) dX3_workOut_48 (by decide +kernel) ?_
  refine zr_istore X [1, 2, 3, 4, 5, 6, 0] [(0, .ref (ad (290))), (1, .ref (ad (4 * f + 4))), (2, .ref (ad (2))), (3, .int (nI (t))), (4, .int (nI (0))), (5, .int (nI (1))), (6, .int (nI (0)))] dX3_workOut_49 (by decide) rfl ?_
  refine zr_aloadn X 0 dX3_workOut_51 rfl ?_
  refine zr_get X (ci := 3) (q := 1) (zR _) (.ref (ad (292))) dX3_workOut_52 (by omega) sc_290 rfl inX3 (by decide) rfl (zvR rfl) rfl k_151 ?_
  refine zr_iload X 5 dX3_workOut_55 rfl ?_
  refine zr_aloadn X 0 dX3_workOut_57 rfl ?_
  refine zr_get X (ci := 3) (q := 5) zI (.int ((cgm (upd (upd (upd (upd μ 2458 (nI t)) 2455 (nI 0)) 2456 (nI 0)) 2457 (-5)) f 0 2) (2458))) dX3_workOut_58 (by omega) sc_290 rfl inX3 (by decide) rfl (congrArg Value.int (rfl)) rfl k_160 ?_
  refine zr_iload X 6 dX3_workOut_61 rfl ?_
  refine zr_mmin X (zmin ((cgm (upd (upd (upd (upd μ 2458 (nI t)) 2455 (nI 0)) 2456 (nI 0)) 2457 (-5)) f 0 2) (2458)) (nI (0))) dX3_workOut_63 k_348 k_252 k_8 k_253 (Nat.le_of_ble_eq_true rfl) (Nat.le_of_ble_eq_true rfl) (zmin_eq _ _) ?_
  refine zr_iast X (j := 1) 0 (2481) dX3_workOut_66 (by omega) sc_292 rfl rfl (by omega) (by omega) (by omega) ?_
  refine zr_aloadn X 0 dX3_workOut_67 rfl ?_
  refine zr_dup X dX3_workOut_68 rfl ?_
  refine zr_get X (ci := 3) (q := 5) zI (.int ((cgm (upd (upd (upd (upd μ 2458 (nI t)) 2455 (nI 0)) 2456 (nI 0)) 2457 (-5)) f 0 2) (2458))) dX3_workOut_69 (by omega) sc_290 rfl inX3 (by decide) rfl (congrArg Value.int ((pk_un (by omega)).trans (rfl))) rfl k_160 ?_
  refine zr_aloadn X 0 dX3_workOut_72 rfl ?_
  refine zr_get X (ci := 3) (q := 1) (zR _) (.ref (ad (292))) dX3_workOut_73 (by omega) sc_290 rfl inX3 (by decide) rfl (zvR rfl) rfl k_151 ?_
  refine zr_iload X 5 dX3_workOut_76 rfl ?_
  refine zr_iald X (j := 1) 0 (zmin ((cgm (upd (upd (upd (upd μ 2458 (nI t)) 2455 (nI 0)) 2456 (nI 0)) 2457 (-5)) f 0 2) (2458)) (nI (0))) dX3_workOut_78 (by omega) sc_292 rfl rfl (by omega) (by omega) (zcg (b := 2481) (by omega) (pk_us)) ?_
  refine zr_isub X (((cgm (upd (upd (upd (upd μ 2458 (nI t)) 2455 (nI 0)) 2456 (nI 0)) 2457 (-5)) f 0 2) (2458)) - (zmin ((cgm (upd (upd (upd (upd μ 2458 (nI t)) 2455 (nI 0)) 2456 (nI 0)) 2457 (-5)) f 0 2) (2458)) (nI (0)))) dX3_workOut_79 rfl ?_
  refine zr_put X (ci := 3) (q := 5) (ty0 := tyX3) (ty := .int) (2458) dX3_workOut_80 (by omega) sc_290 rfl inX3 tyX3_ok nmX3 (by decide) rfl rfl rfl rfl rfl rfl k_160 (by omega) ?_
  refine zr_iinc X 5 (nI (0)) [1, 2, 3, 4, 5, 0, 6] [(0, .ref (ad (290))), (1, .ref (ad (4 * f + 4))), (2, .ref (ad (2))), (3, .int (nI (t))), (4, .int (nI (0))), (5, .int (nI (0))), (6, .int (nI (0)))] dX3_workOut_83 rfl (zdec _) (by decide) rfl ?_
  refine zr_goto X 24 dX3_workOut_86 (by decide) ?_
  refine zr_mem X (rfl : _ = (cgm (cgm (upd (upd (upd (upd μ 2458 (nI t)) 2455 (nI 0)) 2456 (nI 0)) 2457 (-5)) f 0 2) f 0 1)) ?_
  refine zr_iload X 5 dX3_workOut_24 rfl ?_
  refine zr_if_lt X 89 dX3_workOut_26 (by decide) (fun q => absurd q (nI_pos (by omega))) (fun _ => ?_)
  refine zr_iload X 4 dX3_workOut_29 rfl ?_
  refine zr_iconst X (nI (2)) dX3_workOut_31 (by decide +kernel) ?_
  refine zr_icmp_ne X 48 dX3_workOut_32 (by decide) (fun _ => ?_) (fun q => absurd q (zq_ne (by omega) (by omega) (by omega)))
  refine zr_iconst X (nI (0)) dX3_workOut_48 (by decide +kernel) ?_
  refine zr_istore X [1, 2, 3, 4, 5, 6, 0] [(0, .ref (ad (290))), (1, .ref (ad (4 * f + 4))), (2, .ref (ad (2))), (3, .int (nI (t))), (4, .int (nI (0))), (5, .int (nI (0))), (6, .int (nI (0)))] dX3_workOut_49 (by decide) rfl ?_
  refine zr_aloadn X 0 dX3_workOut_51 rfl ?_
  refine zr_get X (ci := 3) (q := 1) (zR _) (.ref (ad (292))) dX3_workOut_52 (by omega) sc_290 rfl inX3 (by decide) rfl (zvR rfl) rfl k_151 ?_
  refine zr_iload X 5 dX3_workOut_55 rfl ?_
  refine zr_aloadn X 0 dX3_workOut_57 rfl ?_
  refine zr_get X (ci := 3) (q := 5) zI (.int ((cgm (cgm (upd (upd (upd (upd μ 2458 (nI t)) 2455 (nI 0)) 2456 (nI 0)) 2457 (-5)) f 0 2) f 0 1) (2458))) dX3_workOut_58 (by omega) sc_290 rfl inX3 (by decide) rfl (congrArg Value.int (rfl)) rfl k_160 ?_
  refine zr_iload X 6 dX3_workOut_61 rfl ?_
  refine zr_mmin X (zmin ((cgm (cgm (upd (upd (upd (upd μ 2458 (nI t)) 2455 (nI 0)) 2456 (nI 0)) 2457 (-5)) f 0 2) f 0 1) (2458)) (nI (0))) dX3_workOut_63 k_348 k_252 k_8 k_253 (Nat.le_of_ble_eq_true rfl) (Nat.le_of_ble_eq_true rfl) (zmin_eq _ _) ?_
  refine zr_iast X (j := 0) 0 (2480) dX3_workOut_66 (by omega) sc_292 rfl rfl (by omega) (by omega) (by omega) ?_
  refine zr_aloadn X 0 dX3_workOut_67 rfl ?_
  refine zr_dup X dX3_workOut_68 rfl ?_
  refine zr_get X (ci := 3) (q := 5) zI (.int ((cgm (cgm (upd (upd (upd (upd μ 2458 (nI t)) 2455 (nI 0)) 2456 (nI 0)) 2457 (-5)) f 0 2) f 0 1) (2458))) dX3_workOut_69 (by omega) sc_290 rfl inX3 (by decide) rfl (congrArg Value.int ((pk_un (by omega)).trans (rfl))) rfl k_160 ?_
  refine zr_aloadn X 0 dX3_workOut_72 rfl ?_
  refine zr_get X (ci := 3) (q := 1) (zR _) (.ref (ad (292))) dX3_workOut_73 (by omega) sc_290 rfl inX3 (by decide) rfl (zvR rfl) rfl k_151 ?_
  refine zr_iload X 5 dX3_workOut_76 rfl ?_
  refine zr_iald X (j := 0) 0 (zmin ((cgm (cgm (upd (upd (upd (upd μ 2458 (nI t)) 2455 (nI 0)) 2456 (nI 0)) 2457 (-5)) f 0 2) f 0 1) (2458)) (nI (0))) dX3_workOut_78 (by omega) sc_292 rfl rfl (by omega) (by omega) (zcg (b := 2480) (by omega) (pk_us)) ?_
  refine zr_isub X (((cgm (cgm (upd (upd (upd (upd μ 2458 (nI t)) 2455 (nI 0)) 2456 (nI 0)) 2457 (-5)) f 0 2) f 0 1) (2458)) - (zmin ((cgm (cgm (upd (upd (upd (upd μ 2458 (nI t)) 2455 (nI 0)) 2456 (nI 0)) 2457 (-5)) f 0 2) f 0 1) (2458)) (nI (0)))) dX3_workOut_79 rfl ?_
  refine zr_put X (ci := 3) (q := 5) (ty0 := tyX3) (ty := .int) (2458) dX3_workOut_80 (by omega) sc_290 rfl inX3 tyX3_ok nmX3 (by decide) rfl rfl rfl rfl rfl rfl k_160 (by omega) ?_
  refine zr_iinc X 5 (-1) [1, 2, 3, 4, 5, 0, 6] [(0, .ref (ad (290))), (1, .ref (ad (4 * f + 4))), (2, .ref (ad (2))), (3, .int (nI (t))), (4, .int (nI (0))), (5, .int (-1)), (6, .int (nI (0)))] dX3_workOut_83 rfl (by decide +kernel) (by decide) rfl ?_
  refine zr_goto X 24 dX3_workOut_86 (by decide) ?_
  refine zr_mem X (rfl : _ = (cgm (cgm (cgm (upd (upd (upd (upd μ 2458 (nI t)) 2455 (nI 0)) 2456 (nI 0)) 2457 (-5)) f 0 2) f 0 1) f 0 0)) ?_
  refine zr_iload X 5 dX3_workOut_24 rfl ?_
  refine zr_if_lt X 89 dX3_workOut_26 (by decide) (fun _ => ?_) (fun q => absurd ((by decide +kernel : (-1 : Int32) < 0)) q)
  refine zr_iconst X (nI (0)) dX3_workOut_89 (by decide +kernel) ?_
  refine zr_istore X [1, 2, 3, 4, 5, 0, 6] [(0, .ref (ad (290))), (1, .ref (ad (4 * f + 4))), (2, .ref (ad (2))), (3, .int (nI (t))), (4, .int (nI (0))), (5, .int (nI (0))), (6, .int (nI (0)))] dX3_workOut_90 (by decide) rfl ?_
  refine zr_drop X [0, 1, 2, 3, 4, 5] [(0, .ref (ad (290))), (1, .ref (ad (4 * f + 4))), (2, .ref (ad (2))), (3, .int (nI (t))), (4, .int (nI (0))), (5, .int (nI (0)))] rfl ?_
  refine zr_for X (20) (fun i => (clv (cgm (cgm (cgm (upd (upd (upd (upd μ 2458 (nI t)) 2455 (nI 0)) 2456 (nI 0)) 2457 (-5)) f 0 2) f 0 1) f 0 0) f 0 (i))) (fun i => [(0, .ref (ad (290))), (1, .ref (ad (4 * f + 4))), (2, .ref (ad (2))), (3, .int (nI (t))), (4, .int (nI (0))), (5, .int (nI (i)))]) [] (rfl) rfl ?_ ?_
  · refine zr_iload X 5 dX3_workOut_92 rfl ?_
    refine zr_bipush X (nI (20)) dX3_workOut_94 (by decide +kernel) ?_
    refine zr_icmp_ge X 126 dX3_workOut_96 (by decide) (fun _ => ?_) (fun q => absurd (zq_le (by omega) (by omega)) q)
    exact zr_vret X dX3_workOut_126 rfl
  · intro i hi ih92
    refine zr_iload X 5 dX3_workOut_92 rfl ?_
    refine zr_bipush X (nI (20)) dX3_workOut_94 (by decide +kernel) ?_
    refine zr_icmp_ge X 126 dX3_workOut_96 (by decide) (fun q => absurd q (nI_ge (by omega) (by omega))) (fun _ => ?_)
    refine zr_aloadn X 0 dX3_workOut_99 rfl ?_
    refine zr_aloadn X 1 dX3_workOut_100 rfl ?_
    refine zr_iload X 4 dX3_workOut_101 rfl ?_
    refine zr_iconst X (nI (1)) dX3_workOut_103 (by decide +kernel) ?_
    refine zr_icmp_ne X 115 dX3_workOut_104 (by decide) (fun _ => ?_) (fun q => absurd q (zq_ne (by omega) (by omega) (by omega)))
    refine zr_iload X 5 dX3_workOut_115 rfl ?_
    refine zr_dVv (C := RX3) (ci := 3) [.ref (ad (4 * f + 4)), .int (nI (i))] [] X (zK_ok A D tc tF tL tM) (d_takeVintage E (clv (cgm (cgm (cgm (upd (upd (upd (upd μ 2458 (nI t)) 2455 (nI 0)) 2456 (nI 0)) 2457 (-5)) f 0 2) f 0 1) f 0 0) f 0 (i)) (f := f) (v := i) (by omega) (by omega)) k_349 k_350 k_351 k_5 k_352 hdX3_takeVintage ⟨rfl, rfl⟩ ⟨Nat.le_of_ble_eq_true rfl, Nat.le_of_ble_eq_true rfl⟩ (by omega) sc_290 rfl rfl rfl (Nat.le_of_ble_eq_true rfl) dX3_workOut_117 ?_
    refine zr_iinc X 5 (nI (i + 1)) [1, 2, 3, 4, 5, 0] [(0, .ref (ad (290))), (1, .ref (ad (4 * f + 4))), (2, .ref (ad (2))), (3, .int (nI (t))), (4, .int (nI (0))), (5, .int (nI (i + 1)))] dX3_workOut_120 rfl (zinc _) (by decide) rfl ?_
    refine zr_goto X 92 dX3_workOut_123 (by decide) ?_
    exact ih92

set_option maxHeartbeats 4000000 in
set_option maxRecDepth 100000 in
theorem d_workOut1 {l : Launch} {D : va_G} {tc : Nat → ClassId} {ad : Nat → Nat} {A : Nat → Prop} {tF tL tM : Nat} (E : zN 299 A ad) (μ : Nat → Int32) {f : Nat} (hf : f < 8) {t : Nat} (ht1 : 1 ≤ t) (ht9 : t ≤ 9999)  : zMv l yX3_workOut cX3_workOut 7 (zrm 3) (zK A D tc tF tL tM) A D vwCl tc ad 299 shC [.ref (ad (290)), .ref (ad (4 * f + 4)), .ref (ad (2)), .int (nI (t)), .int (nI (1))] μ (fun u => u = clay μ f (nI t) 1) := by
  refine zM_of RX3 [(0, .ref (ad (290))), (1, .ref (ad (4 * f + 4))), (2, .ref (ad (2))), (3, .int (nI (t))), (4, .int (nI (1)))] (zK_ok A D tc tF tL tM) E.1 E.2 owC_ok (by decide +kernel) rfl (Nat.le_of_ble_eq_true rfl) rfl ?_
  intro pP eE sS mM aS bL mT cO X
  refine zr_aloadn X 0 dX3_workOut_0 rfl ?_
  refine zr_iloadn X 3 dX3_workOut_1 rfl ?_
  refine zr_put X (ci := 3) (q := 5) (ty0 := tyX3) (ty := .int) (2458) dX3_workOut_2 (by omega) sc_290 rfl inX3 tyX3_ok nmX3 (by decide) rfl rfl rfl rfl rfl rfl k_160 (by omega) ?_
  refine zr_aloadn X 0 dX3_workOut_5 rfl ?_
  refine zr_iconst X (nI (0)) dX3_workOut_6 (by decide +kernel) ?_
  refine zr_put X (ci := 3) (q := 2) (ty0 := tyX3) (ty := .int) (2455) dX3_workOut_7 (by omega) sc_290 rfl inX3 tyX3_ok nmX3 (by decide) rfl rfl rfl rfl rfl rfl k_154 (by omega) ?_
  refine zr_aloadn X 0 dX3_workOut_10 rfl ?_
  refine zr_iconst X (nI (0)) dX3_workOut_11 (by decide +kernel) ?_
  refine zr_put X (ci := 3) (q := 3) (ty0 := tyX3) (ty := .int) (2456) dX3_workOut_12 (by omega) sc_290 rfl inX3 tyX3_ok nmX3 (by decide) rfl rfl rfl rfl rfl rfl k_156 (by omega) ?_
  refine zr_aloadn X 0 dX3_workOut_15 rfl ?_
  refine zr_bipush X (-5) dX3_workOut_16 (by decide +kernel) ?_
  refine zr_put X (ci := 3) (q := 4) (ty0 := tyX3) (ty := .int) (2457) dX3_workOut_18 (by omega) sc_290 rfl inX3 tyX3_ok nmX3 (by decide) rfl rfl rfl rfl rfl rfl k_158 (by omega) ?_
  refine zr_iconst X (nI (2)) dX3_workOut_21 (by decide +kernel) ?_
  refine zr_istore X [1, 2, 3, 4, 5, 0] [(0, .ref (ad (290))), (1, .ref (ad (4 * f + 4))), (2, .ref (ad (2))), (3, .int (nI (t))), (4, .int (nI (1))), (5, .int (nI (2)))] dX3_workOut_22 (by decide) rfl ?_
  refine zr_mem X (rfl : _ = (upd (upd (upd (upd μ 2458 (nI t)) 2455 (nI 0)) 2456 (nI 0)) 2457 (-5))) ?_
  refine zr_iload X 5 dX3_workOut_24 rfl ?_
  refine zr_if_lt X 89 dX3_workOut_26 (by decide) (fun q => absurd q (nI_pos (by omega))) (fun _ => ?_)
  refine zr_iload X 4 dX3_workOut_29 rfl ?_
  refine zr_iconst X (nI (2)) dX3_workOut_31 (by decide +kernel) ?_
  refine zr_icmp_ne X 48 dX3_workOut_32 (by decide) (fun _ => ?_) (fun q => absurd q (zq_ne (by omega) (by omega) (by omega)))
  refine zr_iconst X (nI (0)) dX3_workOut_48 (by decide +kernel) ?_
  refine zr_istore X [1, 2, 3, 4, 5, 6, 0] [(0, .ref (ad (290))), (1, .ref (ad (4 * f + 4))), (2, .ref (ad (2))), (3, .int (nI (t))), (4, .int (nI (1))), (5, .int (nI (2))), (6, .int (nI (0)))] dX3_workOut_49 (by decide) rfl ?_
  refine zr_aloadn X 0 dX3_workOut_51 rfl ?_
  refine zr_get X (ci := 3) (q := 1) (zR _) (.ref (ad (292))) dX3_workOut_52 (by omega) sc_290 rfl inX3 (by decide) rfl (zvR rfl) rfl k_151 ?_
  refine zr_iload X 5 dX3_workOut_55 rfl ?_
  refine zr_aloadn X 0 dX3_workOut_57 rfl ?_
  refine zr_get X (ci := 3) (q := 5) zI (.int ((upd (upd (upd (upd μ 2458 (nI t)) 2455 (nI 0)) 2456 (nI 0)) 2457 (-5)) (2458))) dX3_workOut_58 (by omega) sc_290 rfl inX3 (by decide) rfl (congrArg Value.int (rfl)) rfl k_160 ?_
  refine zr_iload X 6 dX3_workOut_61 rfl ?_
  refine zr_mmin X (zmin ((upd (upd (upd (upd μ 2458 (nI t)) 2455 (nI 0)) 2456 (nI 0)) 2457 (-5)) (2458)) (nI (0))) dX3_workOut_63 k_348 k_252 k_8 k_253 (Nat.le_of_ble_eq_true rfl) (Nat.le_of_ble_eq_true rfl) (zmin_eq _ _) ?_
  refine zr_iast X (j := 2) 0 (2482) dX3_workOut_66 (by omega) sc_292 rfl rfl (by omega) (by omega) (by omega) ?_
  refine zr_aloadn X 0 dX3_workOut_67 rfl ?_
  refine zr_dup X dX3_workOut_68 rfl ?_
  refine zr_get X (ci := 3) (q := 5) zI (.int ((upd (upd (upd (upd μ 2458 (nI t)) 2455 (nI 0)) 2456 (nI 0)) 2457 (-5)) (2458))) dX3_workOut_69 (by omega) sc_290 rfl inX3 (by decide) rfl (congrArg Value.int ((pk_un (by omega)).trans (rfl))) rfl k_160 ?_
  refine zr_aloadn X 0 dX3_workOut_72 rfl ?_
  refine zr_get X (ci := 3) (q := 1) (zR _) (.ref (ad (292))) dX3_workOut_73 (by omega) sc_290 rfl inX3 (by decide) rfl (zvR rfl) rfl k_151 ?_
  refine zr_iload X 5 dX3_workOut_76 rfl ?_
  refine zr_iald X (j := 2) 0 (zmin ((upd (upd (upd (upd μ 2458 (nI t)) 2455 (nI 0)) 2456 (nI 0)) 2457 (-5)) (2458)) (nI (0))) dX3_workOut_78 (by omega) sc_292 rfl rfl (by omega) (by omega) (zcg (b := 2482) (by omega) (pk_us)) ?_
  refine zr_isub X (((upd (upd (upd (upd μ 2458 (nI t)) 2455 (nI 0)) 2456 (nI 0)) 2457 (-5)) (2458)) - (zmin ((upd (upd (upd (upd μ 2458 (nI t)) 2455 (nI 0)) 2456 (nI 0)) 2457 (-5)) (2458)) (nI (0)))) dX3_workOut_79 rfl ?_
  refine zr_put X (ci := 3) (q := 5) (ty0 := tyX3) (ty := .int) (2458) dX3_workOut_80 (by omega) sc_290 rfl inX3 tyX3_ok nmX3 (by decide) rfl rfl rfl rfl rfl rfl k_160 (by omega) ?_
  refine zr_iinc X 5 (nI (1)) [1, 2, 3, 4, 5, 0, 6] [(0, .ref (ad (290))), (1, .ref (ad (4 * f + 4))), (2, .ref (ad (2))), (3, .int (nI (t))), (4, .int (nI (1))), (5, .int (nI (1))), (6, .int (nI (0)))] dX3_workOut_83 rfl (zdec _) (by decide) rfl ?_
  refine zr_goto X 24 dX3_workOut_86 (by decide) ?_
  refine zr_mem X (rfl : _ = (cgm (upd (upd (upd (upd μ 2458 (nI t)) 2455 (nI 0)) 2456 (nI 0)) 2457 (-5)) f 1 2)) ?_
  refine zr_iload X 5 dX3_workOut_24 rfl ?_
  refine zr_if_lt X 89 dX3_workOut_26 (by decide) (fun q => absurd q (nI_pos (by omega))) (fun _ => ?_)
  refine zr_iload X 4 dX3_workOut_29 rfl ?_
  refine zr_iconst X (nI (2)) dX3_workOut_31 (by decide +kernel) ?_
  refine zr_icmp_ne X 48 dX3_workOut_32 (by decide) (fun _ => ?_) (fun q => absurd q (zq_ne (by omega) (by omega) (by omega)))
  refine zr_iconst X (nI (0)) dX3_workOut_48 (by decide +kernel) ?_
  refine zr_istore X [1, 2, 3, 4, 5, 6, 0] [(0, .ref (ad (290))), (1, .ref (ad (4 * f + 4))), (2, .ref (ad (2))), (3, .int (nI (t))), (4, .int (nI (1))), (5, .int (nI (1))), (6, .int (nI (0)))] dX3_workOut_49 (by decide) rfl ?_
  refine zr_aloadn X 0 dX3_workOut_51 rfl ?_
  refine zr_get X (ci := 3) (q := 1) (zR _) (.ref (ad (292))) dX3_workOut_52 (by omega) sc_290 rfl inX3 (by decide) rfl (zvR rfl) rfl k_151 ?_
  refine zr_iload X 5 dX3_workOut_55 rfl ?_
  refine zr_aloadn X 0 dX3_workOut_57 rfl ?_
  refine zr_get X (ci := 3) (q := 5) zI (.int ((cgm (upd (upd (upd (upd μ 2458 (nI t)) 2455 (nI 0)) 2456 (nI 0)) 2457 (-5)) f 1 2) (2458))) dX3_workOut_58 (by omega) sc_290 rfl inX3 (by decide) rfl (congrArg Value.int (rfl)) rfl k_160 ?_
  refine zr_iload X 6 dX3_workOut_61 rfl ?_
  refine zr_mmin X (zmin ((cgm (upd (upd (upd (upd μ 2458 (nI t)) 2455 (nI 0)) 2456 (nI 0)) 2457 (-5)) f 1 2) (2458)) (nI (0))) dX3_workOut_63 k_348 k_252 k_8 k_253 (Nat.le_of_ble_eq_true rfl) (Nat.le_of_ble_eq_true rfl) (zmin_eq _ _) ?_
  refine zr_iast X (j := 1) 0 (2481) dX3_workOut_66 (by omega) sc_292 rfl rfl (by omega) (by omega) (by omega) ?_
  refine zr_aloadn X 0 dX3_workOut_67 rfl ?_
  refine zr_dup X dX3_workOut_68 rfl ?_
  refine zr_get X (ci := 3) (q := 5) zI (.int ((cgm (upd (upd (upd (upd μ 2458 (nI t)) 2455 (nI 0)) 2456 (nI 0)) 2457 (-5)) f 1 2) (2458))) dX3_workOut_69 (by omega) sc_290 rfl inX3 (by decide) rfl (congrArg Value.int ((pk_un (by omega)).trans (rfl))) rfl k_160 ?_
  refine zr_aloadn X 0 dX3_workOut_72 rfl ?_
  refine zr_get X (ci := 3) (q := 1) (zR _) (.ref (ad (292))) dX3_workOut_73 (by omega) sc_290 rfl inX3 (by decide) rfl (zvR rfl) rfl k_151 ?_
  refine zr_iload X 5 dX3_workOut_76 rfl ?_
  refine zr_iald X (j := 1) 0 (zmin ((cgm (upd (upd (upd (upd μ 2458 (nI t)) 2455 (nI 0)) 2456 (nI 0)) 2457 (-5)) f 1 2) (2458)) (nI (0))) dX3_workOut_78 (by omega) sc_292 rfl rfl (by omega) (by omega) (zcg (b := 2481) (by omega) (pk_us)) ?_
  refine zr_isub X (((cgm (upd (upd (upd (upd μ 2458 (nI t)) 2455 (nI 0)) 2456 (nI 0)) 2457 (-5)) f 1 2) (2458)) - (zmin ((cgm (upd (upd (upd (upd μ 2458 (nI t)) 2455 (nI 0)) 2456 (nI 0)) 2457 (-5)) f 1 2) (2458)) (nI (0)))) dX3_workOut_79 rfl ?_
  refine zr_put X (ci := 3) (q := 5) (ty0 := tyX3) (ty := .int) (2458) dX3_workOut_80 (by omega) sc_290 rfl inX3 tyX3_ok nmX3 (by decide) rfl rfl rfl rfl rfl rfl k_160 (by omega) ?_
  refine zr_iinc X 5 (nI (0)) [1, 2, 3, 4, 5, 0, 6] [(0, .ref (ad (290))), (1, .ref (ad (4 * f + 4))), (2, .ref (ad (2))), (3, .int (nI (t))), (4, .int (nI (1))), (5, .int (nI (0))), (6, .int (nI (0)))] dX3_workOut_83 rfl (zdec _) (by decide) rfl ?_
  refine zr_goto X 24 dX3_workOut_86 (by decide) ?_
  refine zr_mem X (rfl : _ = (cgm (cgm (upd (upd (upd (upd μ 2458 (nI t)) 2455 (nI 0)) 2456 (nI 0)) 2457 (-5)) f 1 2) f 1 1)) ?_
  refine zr_iload X 5 dX3_workOut_24 rfl ?_
  refine zr_if_lt X 89 dX3_workOut_26 (by decide) (fun q => absurd q (nI_pos (by omega))) (fun _ => ?_)
  refine zr_iload X 4 dX3_workOut_29 rfl ?_
  refine zr_iconst X (nI (2)) dX3_workOut_31 (by decide +kernel) ?_
  refine zr_icmp_ne X 48 dX3_workOut_32 (by decide) (fun _ => ?_) (fun q => absurd q (zq_ne (by omega) (by omega) (by omega)))
  refine zr_iconst X (nI (0)) dX3_workOut_48 (by decide +kernel) ?_
  refine zr_istore X [1, 2, 3, 4, 5, 6, 0] [(0, .ref (ad (290))), (1, .ref (ad (4 * f + 4))), (2, .ref (ad (2))), (3, .int (nI (t))), (4, .int (nI (1))), (5, .int (nI (0))), (6, .int (nI (0)))] dX3_workOut_49 (by decide) rfl ?_
  refine zr_aloadn X 0 dX3_workOut_51 rfl ?_
  refine zr_get X (ci := 3) (q := 1) (zR _) (.ref (ad (292))) dX3_workOut_52 (by omega) sc_290 rfl inX3 (by decide) rfl (zvR rfl) rfl k_151 ?_
  refine zr_iload X 5 dX3_workOut_55 rfl ?_
  refine zr_aloadn X 0 dX3_workOut_57 rfl ?_
  refine zr_get X (ci := 3) (q := 5) zI (.int ((cgm (cgm (upd (upd (upd (upd μ 2458 (nI t)) 2455 (nI 0)) 2456 (nI 0)) 2457 (-5)) f 1 2) f 1 1) (2458))) dX3_workOut_58 (by omega) sc_290 rfl inX3 (by decide) rfl (congrArg Value.int (rfl)) rfl k_160 ?_
  refine zr_iload X 6 dX3_workOut_61 rfl ?_
  refine zr_mmin X (zmin ((cgm (cgm (upd (upd (upd (upd μ 2458 (nI t)) 2455 (nI 0)) 2456 (nI 0)) 2457 (-5)) f 1 2) f 1 1) (2458)) (nI (0))) dX3_workOut_63 k_348 k_252 k_8 k_253 (Nat.le_of_ble_eq_true rfl) (Nat.le_of_ble_eq_true rfl) (zmin_eq _ _) ?_
  refine zr_iast X (j := 0) 0 (2480) dX3_workOut_66 (by omega) sc_292 rfl rfl (by omega) (by omega) (by omega) ?_
  refine zr_aloadn X 0 dX3_workOut_67 rfl ?_
  refine zr_dup X dX3_workOut_68 rfl ?_
  refine zr_get X (ci := 3) (q := 5) zI (.int ((cgm (cgm (upd (upd (upd (upd μ 2458 (nI t)) 2455 (nI 0)) 2456 (nI 0)) 2457 (-5)) f 1 2) f 1 1) (2458))) dX3_workOut_69 (by omega) sc_290 rfl inX3 (by decide) rfl (congrArg Value.int ((pk_un (by omega)).trans (rfl))) rfl k_160 ?_
  refine zr_aloadn X 0 dX3_workOut_72 rfl ?_
  refine zr_get X (ci := 3) (q := 1) (zR _) (.ref (ad (292))) dX3_workOut_73 (by omega) sc_290 rfl inX3 (by decide) rfl (zvR rfl) rfl k_151 ?_
  refine zr_iload X 5 dX3_workOut_76 rfl ?_
  refine zr_iald X (j := 0) 0 (zmin ((cgm (cgm (upd (upd (upd (upd μ 2458 (nI t)) 2455 (nI 0)) 2456 (nI 0)) 2457 (-5)) f 1 2) f 1 1) (2458)) (nI (0))) dX3_workOut_78 (by omega) sc_292 rfl rfl (by omega) (by omega) (zcg (b := 2480) (by omega) (pk_us)) ?_
  refine zr_isub X (((cgm (cgm (upd (upd (upd (upd μ 2458 (nI t)) 2455 (nI 0)) 2456 (nI 0)) 2457 (-5)) f 1 2) f 1 1) (2458)) - (zmin ((cgm (cgm (upd (upd (upd (upd μ 2458 (nI t)) 2455 (nI 0)) 2456 (nI 0)) 2457 (-5)) f 1 2) f 1 1) (2458)) (nI (0)))) dX3_workOut_79 rfl ?_
  refine zr_put X (ci := 3) (q := 5) (ty0 := tyX3) (ty := .int) (2458) dX3_workOut_80 (by omega) sc_290 rfl inX3 tyX3_ok nmX3 (by decide) rfl rfl rfl rfl rfl rfl k_160 (by omega) ?_
  refine zr_iinc X 5 (-1) [1, 2, 3, 4, 5, 0, 6] [(0, .ref (ad (290))), (1, .ref (ad (4 * f + 4))), (2, .ref (ad (2))), (3, .int (nI (t))), (4, .int (nI (1))), (5, .int (-1)), (6, .int (nI (0)))] dX3_workOut_83 rfl (by decide +kernel) (by decide) rfl ?_
  refine zr_goto X 24 dX3_workOut_86 (by decide) ?_
  refine zr_mem X (rfl : _ = (cgm (cgm (cgm (upd (upd (upd (upd μ 2458 (nI t)) 2455 (nI 0)) 2456 (nI 0)) 2457 (-5)) f 1 2) f 1 1) f 1 0)) ?_
  refine zr_iload X 5 dX3_workOut_24 rfl ?_
  refine zr_if_lt X 89 dX3_workOut_26 (by decide) (fun _ => ?_) (fun q => absurd ((by decide +kernel : (-1 : Int32) < 0)) q)
  refine zr_iconst X (nI (0)) dX3_workOut_89 (by decide +kernel) ?_
  refine zr_istore X [1, 2, 3, 4, 5, 0, 6] [(0, .ref (ad (290))), (1, .ref (ad (4 * f + 4))), (2, .ref (ad (2))), (3, .int (nI (t))), (4, .int (nI (1))), (5, .int (nI (0))), (6, .int (nI (0)))] dX3_workOut_90 (by decide) rfl ?_
  refine zr_drop X [0, 1, 2, 3, 4, 5] [(0, .ref (ad (290))), (1, .ref (ad (4 * f + 4))), (2, .ref (ad (2))), (3, .int (nI (t))), (4, .int (nI (1))), (5, .int (nI (0)))] rfl ?_
  refine zr_for X (20) (fun i => (clv (cgm (cgm (cgm (upd (upd (upd (upd μ 2458 (nI t)) 2455 (nI 0)) 2456 (nI 0)) 2457 (-5)) f 1 2) f 1 1) f 1 0) f 1 (i))) (fun i => [(0, .ref (ad (290))), (1, .ref (ad (4 * f + 4))), (2, .ref (ad (2))), (3, .int (nI (t))), (4, .int (nI (1))), (5, .int (nI (i)))]) [] (rfl) rfl ?_ ?_
  · refine zr_iload X 5 dX3_workOut_92 rfl ?_
    refine zr_bipush X (nI (20)) dX3_workOut_94 (by decide +kernel) ?_
    refine zr_icmp_ge X 126 dX3_workOut_96 (by decide) (fun _ => ?_) (fun q => absurd (zq_le (by omega) (by omega)) q)
    exact zr_vret X dX3_workOut_126 rfl
  · intro i hi ih92
    refine zr_iload X 5 dX3_workOut_92 rfl ?_
    refine zr_bipush X (nI (20)) dX3_workOut_94 (by decide +kernel) ?_
    refine zr_icmp_ge X 126 dX3_workOut_96 (by decide) (fun q => absurd q (nI_ge (by omega) (by omega))) (fun _ => ?_)
    refine zr_aloadn X 0 dX3_workOut_99 rfl ?_
    refine zr_aloadn X 1 dX3_workOut_100 rfl ?_
    refine zr_iload X 4 dX3_workOut_101 rfl ?_
    refine zr_iconst X (nI (1)) dX3_workOut_103 (by decide +kernel) ?_
    refine zr_icmp_ne X 115 dX3_workOut_104 (by decide) (fun q => absurd (zq_eq (by omega)) q) (fun _ => ?_)
    refine zr_bipush X (nI (19)) dX3_workOut_107 (by decide +kernel) ?_
    refine zr_iload X 5 dX3_workOut_109 rfl ?_
    refine zr_isub X (nI (19 - i)) dX3_workOut_111 ((pk_sub (by omega)).trans (congrArg nI (by omega))) ?_
    refine zr_goto X 117 dX3_workOut_112 (by decide) ?_
    refine zr_dVv (C := RX3) (ci := 3) [.ref (ad (4 * f + 4)), .int (nI (19 - i))] [] X (zK_ok A D tc tF tL tM) (d_takeVintage E (clv (cgm (cgm (cgm (upd (upd (upd (upd μ 2458 (nI t)) 2455 (nI 0)) 2456 (nI 0)) 2457 (-5)) f 1 2) f 1 1) f 1 0) f 1 (i)) (f := f) (v := 19 - i) (by omega) (by omega)) k_349 k_350 k_351 k_5 k_352 hdX3_takeVintage ⟨rfl, rfl⟩ ⟨Nat.le_of_ble_eq_true rfl, Nat.le_of_ble_eq_true rfl⟩ (by omega) sc_290 rfl rfl rfl (Nat.le_of_ble_eq_true rfl) dX3_workOut_117 ?_
    refine zr_iinc X 5 (nI (i + 1)) [1, 2, 3, 4, 5, 0] [(0, .ref (ad (290))), (1, .ref (ad (4 * f + 4))), (2, .ref (ad (2))), (3, .int (nI (t))), (4, .int (nI (1))), (5, .int (nI (i + 1)))] dX3_workOut_120 rfl (zinc _) (by decide) rfl ?_
    refine zr_goto X 92 dX3_workOut_123 (by decide) ?_
    exact ih92

set_option maxHeartbeats 4000000 in
set_option maxRecDepth 100000 in
theorem d_workOut2 {l : Launch} {D : va_G} {tc : Nat → ClassId} {ad : Nat → Nat} {A : Nat → Prop} {tF tL tM : Nat} (E : zN 299 A ad) (μ : Nat → Int32) {f : Nat} (hf : f < 8) {t : Nat} (ht1 : 1 ≤ t) (ht9 : t ≤ 9999)  : zMv l yX3_workOut cX3_workOut 7 (zrm 3) (zK A D tc tF tL tM) A D vwCl tc ad 299 shC [.ref (ad (290)), .ref (ad (4 * f + 4)), .ref (ad (2)), .int (nI (t)), .int (nI (2))] μ (fun u => u = clay μ f (nI t) 2) := by
  refine zM_of RX3 [(0, .ref (ad (290))), (1, .ref (ad (4 * f + 4))), (2, .ref (ad (2))), (3, .int (nI (t))), (4, .int (nI (2)))] (zK_ok A D tc tF tL tM) E.1 E.2 owC_ok (by decide +kernel) rfl (Nat.le_of_ble_eq_true rfl) rfl ?_
  intro pP eE sS mM aS bL mT cO X
  refine zr_aloadn X 0 dX3_workOut_0 rfl ?_
  refine zr_iloadn X 3 dX3_workOut_1 rfl ?_
  refine zr_put X (ci := 3) (q := 5) (ty0 := tyX3) (ty := .int) (2458) dX3_workOut_2 (by omega) sc_290 rfl inX3 tyX3_ok nmX3 (by decide) rfl rfl rfl rfl rfl rfl k_160 (by omega) ?_
  refine zr_aloadn X 0 dX3_workOut_5 rfl ?_
  refine zr_iconst X (nI (0)) dX3_workOut_6 (by decide +kernel) ?_
  refine zr_put X (ci := 3) (q := 2) (ty0 := tyX3) (ty := .int) (2455) dX3_workOut_7 (by omega) sc_290 rfl inX3 tyX3_ok nmX3 (by decide) rfl rfl rfl rfl rfl rfl k_154 (by omega) ?_
  refine zr_aloadn X 0 dX3_workOut_10 rfl ?_
  refine zr_iconst X (nI (0)) dX3_workOut_11 (by decide +kernel) ?_
  refine zr_put X (ci := 3) (q := 3) (ty0 := tyX3) (ty := .int) (2456) dX3_workOut_12 (by omega) sc_290 rfl inX3 tyX3_ok nmX3 (by decide) rfl rfl rfl rfl rfl rfl k_156 (by omega) ?_
  refine zr_aloadn X 0 dX3_workOut_15 rfl ?_
  refine zr_bipush X (-5) dX3_workOut_16 (by decide +kernel) ?_
  refine zr_put X (ci := 3) (q := 4) (ty0 := tyX3) (ty := .int) (2457) dX3_workOut_18 (by omega) sc_290 rfl inX3 tyX3_ok nmX3 (by decide) rfl rfl rfl rfl rfl rfl k_158 (by omega) ?_
  refine zr_iconst X (nI (2)) dX3_workOut_21 (by decide +kernel) ?_
  refine zr_istore X [1, 2, 3, 4, 5, 0] [(0, .ref (ad (290))), (1, .ref (ad (4 * f + 4))), (2, .ref (ad (2))), (3, .int (nI (t))), (4, .int (nI (2))), (5, .int (nI (2)))] dX3_workOut_22 (by decide) rfl ?_
  refine zr_mem X (rfl : _ = (upd (upd (upd (upd μ 2458 (nI t)) 2455 (nI 0)) 2456 (nI 0)) 2457 (-5))) ?_
  refine zr_iload X 5 dX3_workOut_24 rfl ?_
  refine zr_if_lt X 89 dX3_workOut_26 (by decide) (fun q => absurd q (nI_pos (by omega))) (fun _ => ?_)
  refine zr_iload X 4 dX3_workOut_29 rfl ?_
  refine zr_iconst X (nI (2)) dX3_workOut_31 (by decide +kernel) ?_
  refine zr_icmp_ne X 48 dX3_workOut_32 (by decide) (fun q => absurd (zq_eq (by omega)) q) (fun _ => ?_)
  refine zr_aloadn X 1 dX3_workOut_35 rfl ?_
  refine zr_iload X 5 dX3_workOut_36 rfl ?_
  refine zr_aloadn X 2 dX3_workOut_38 rfl ?_
  refine zr_iload X 5 dX3_workOut_39 rfl ?_
  refine zr_iald X (j := 2) 0 ((upd (upd (upd (upd μ 2458 (nI t)) 2455 (nI 0)) 2456 (nI 0)) 2457 (-5)) (4)) dX3_workOut_41 (by omega) (sc_set (j := 0) (by omega) (by have := cb_0; omega)) rfl rfl (by omega) (by omega) (zcg (b := 4) (by omega) (rfl)) ?_
  refine zr_dVi (C := RX0) (ci := 0) [.int (nI (2)), .int ((upd (upd (upd (upd μ 2458 (nI t)) 2455 (nI 0)) 2456 (nI 0)) 2457 (-5)) (4))] [] X (zK_ok A D tc tF tL tM) (d_canUse E (upd (upd (upd (upd μ 2458 (nI t)) 2455 (nI 0)) 2456 (nI 0)) 2457 (-5)) (f := f) (g := 2) (by omega) (by omega) ((upd (upd (upd (upd μ 2458 (nI t)) 2455 (nI 0)) 2456 (nI 0)) 2457 (-5)) (4))) k_336 k_337 k_338 k_3 k_339 hdX0_canUse ⟨rfl, rfl⟩ ⟨Nat.le_of_ble_eq_true rfl, Nat.le_of_ble_eq_true rfl⟩ (by omega) (sc_firm (j := 0) (i := f) (by omega) (by omega) (by have := cb_0; omega)) rfl rfl rfl (Nat.le_of_ble_eq_true rfl) dX3_workOut_42 ?_
  refine zr_goto X 49 dX3_workOut_45 (by decide) ?_
  refine zr_istore X [1, 2, 3, 4, 5, 6, 0] [(0, .ref (ad (290))), (1, .ref (ad (4 * f + 4))), (2, .ref (ad (2))), (3, .int (nI (t))), (4, .int (nI (2))), (5, .int (nI (2))), (6, .int (zcu (upd (upd (upd (upd μ 2458 (nI t)) 2455 (nI 0)) 2456 (nI 0)) 2457 (-5)) f 2 ((upd (upd (upd (upd μ 2458 (nI t)) 2455 (nI 0)) 2456 (nI 0)) 2457 (-5)) (4))))] dX3_workOut_49 (by decide) rfl ?_
  refine zr_aloadn X 0 dX3_workOut_51 rfl ?_
  refine zr_get X (ci := 3) (q := 1) (zR _) (.ref (ad (292))) dX3_workOut_52 (by omega) sc_290 rfl inX3 (by decide) rfl (zvR rfl) rfl k_151 ?_
  refine zr_iload X 5 dX3_workOut_55 rfl ?_
  refine zr_aloadn X 0 dX3_workOut_57 rfl ?_
  refine zr_get X (ci := 3) (q := 5) zI (.int ((upd (upd (upd (upd μ 2458 (nI t)) 2455 (nI 0)) 2456 (nI 0)) 2457 (-5)) (2458))) dX3_workOut_58 (by omega) sc_290 rfl inX3 (by decide) rfl (congrArg Value.int (rfl)) rfl k_160 ?_
  refine zr_iload X 6 dX3_workOut_61 rfl ?_
  refine zr_mmin X (zmin ((upd (upd (upd (upd μ 2458 (nI t)) 2455 (nI 0)) 2456 (nI 0)) 2457 (-5)) (2458)) (zcu (upd (upd (upd (upd μ 2458 (nI t)) 2455 (nI 0)) 2456 (nI 0)) 2457 (-5)) f 2 ((upd (upd (upd (upd μ 2458 (nI t)) 2455 (nI 0)) 2456 (nI 0)) 2457 (-5)) (4)))) dX3_workOut_63 k_348 k_252 k_8 k_253 (Nat.le_of_ble_eq_true rfl) (Nat.le_of_ble_eq_true rfl) (zmin_eq _ _) ?_
  refine zr_iast X (j := 2) 0 (2482) dX3_workOut_66 (by omega) sc_292 rfl rfl (by omega) (by omega) (by omega) ?_
  refine zr_aloadn X 0 dX3_workOut_67 rfl ?_
  refine zr_dup X dX3_workOut_68 rfl ?_
  refine zr_get X (ci := 3) (q := 5) zI (.int ((upd (upd (upd (upd μ 2458 (nI t)) 2455 (nI 0)) 2456 (nI 0)) 2457 (-5)) (2458))) dX3_workOut_69 (by omega) sc_290 rfl inX3 (by decide) rfl (congrArg Value.int ((pk_un (by omega)).trans (rfl))) rfl k_160 ?_
  refine zr_aloadn X 0 dX3_workOut_72 rfl ?_
  refine zr_get X (ci := 3) (q := 1) (zR _) (.ref (ad (292))) dX3_workOut_73 (by omega) sc_290 rfl inX3 (by decide) rfl (zvR rfl) rfl k_151 ?_
  refine zr_iload X 5 dX3_workOut_76 rfl ?_
  refine zr_iald X (j := 2) 0 (zmin ((upd (upd (upd (upd μ 2458 (nI t)) 2455 (nI 0)) 2456 (nI 0)) 2457 (-5)) (2458)) (zcu (upd (upd (upd (upd μ 2458 (nI t)) 2455 (nI 0)) 2456 (nI 0)) 2457 (-5)) f 2 ((upd (upd (upd (upd μ 2458 (nI t)) 2455 (nI 0)) 2456 (nI 0)) 2457 (-5)) (4)))) dX3_workOut_78 (by omega) sc_292 rfl rfl (by omega) (by omega) (zcg (b := 2482) (by omega) (pk_us)) ?_
  refine zr_isub X (((upd (upd (upd (upd μ 2458 (nI t)) 2455 (nI 0)) 2456 (nI 0)) 2457 (-5)) (2458)) - (zmin ((upd (upd (upd (upd μ 2458 (nI t)) 2455 (nI 0)) 2456 (nI 0)) 2457 (-5)) (2458)) (zcu (upd (upd (upd (upd μ 2458 (nI t)) 2455 (nI 0)) 2456 (nI 0)) 2457 (-5)) f 2 ((upd (upd (upd (upd μ 2458 (nI t)) 2455 (nI 0)) 2456 (nI 0)) 2457 (-5)) (4))))) dX3_workOut_79 rfl ?_
  refine zr_put X (ci := 3) (q := 5) (ty0 := tyX3) (ty := .int) (2458) dX3_workOut_80 (by omega) sc_290 rfl inX3 tyX3_ok nmX3 (by decide) rfl rfl rfl rfl rfl rfl k_160 (by omega) ?_
  refine zr_iinc X 5 (nI (1)) [1, 2, 3, 4, 5, 0, 6] [(0, .ref (ad (290))), (1, .ref (ad (4 * f + 4))), (2, .ref (ad (2))), (3, .int (nI (t))), (4, .int (nI (2))), (5, .int (nI (1))), (6, .int (zcu (upd (upd (upd (upd μ 2458 (nI t)) 2455 (nI 0)) 2456 (nI 0)) 2457 (-5)) f 2 ((upd (upd (upd (upd μ 2458 (nI t)) 2455 (nI 0)) 2456 (nI 0)) 2457 (-5)) (4))))] dX3_workOut_83 rfl (zdec _) (by decide) rfl ?_
  refine zr_goto X 24 dX3_workOut_86 (by decide) ?_
  refine zr_mem X (rfl : _ = (cgm (upd (upd (upd (upd μ 2458 (nI t)) 2455 (nI 0)) 2456 (nI 0)) 2457 (-5)) f 2 2)) ?_
  refine zr_iload X 5 dX3_workOut_24 rfl ?_
  refine zr_if_lt X 89 dX3_workOut_26 (by decide) (fun q => absurd q (nI_pos (by omega))) (fun _ => ?_)
  refine zr_iload X 4 dX3_workOut_29 rfl ?_
  refine zr_iconst X (nI (2)) dX3_workOut_31 (by decide +kernel) ?_
  refine zr_icmp_ne X 48 dX3_workOut_32 (by decide) (fun q => absurd (zq_eq (by omega)) q) (fun _ => ?_)
  refine zr_aloadn X 1 dX3_workOut_35 rfl ?_
  refine zr_iload X 5 dX3_workOut_36 rfl ?_
  refine zr_aloadn X 2 dX3_workOut_38 rfl ?_
  refine zr_iload X 5 dX3_workOut_39 rfl ?_
  refine zr_iald X (j := 1) 0 ((cgm (upd (upd (upd (upd μ 2458 (nI t)) 2455 (nI 0)) 2456 (nI 0)) 2457 (-5)) f 2 2) (3)) dX3_workOut_41 (by omega) (sc_set (j := 0) (by omega) (by have := cb_0; omega)) rfl rfl (by omega) (by omega) (zcg (b := 3) (by omega) (rfl)) ?_
  refine zr_dVi (C := RX0) (ci := 0) [.int (nI (1)), .int ((cgm (upd (upd (upd (upd μ 2458 (nI t)) 2455 (nI 0)) 2456 (nI 0)) 2457 (-5)) f 2 2) (3))] [] X (zK_ok A D tc tF tL tM) (d_canUse E (cgm (upd (upd (upd (upd μ 2458 (nI t)) 2455 (nI 0)) 2456 (nI 0)) 2457 (-5)) f 2 2) (f := f) (g := 1) (by omega) (by omega) ((cgm (upd (upd (upd (upd μ 2458 (nI t)) 2455 (nI 0)) 2456 (nI 0)) 2457 (-5)) f 2 2) (3))) k_336 k_337 k_338 k_3 k_339 hdX0_canUse ⟨rfl, rfl⟩ ⟨Nat.le_of_ble_eq_true rfl, Nat.le_of_ble_eq_true rfl⟩ (by omega) (sc_firm (j := 0) (i := f) (by omega) (by omega) (by have := cb_0; omega)) rfl rfl rfl (Nat.le_of_ble_eq_true rfl) dX3_workOut_42 ?_
  refine zr_goto X 49 dX3_workOut_45 (by decide) ?_
  refine zr_istore X [1, 2, 3, 4, 5, 6, 0] [(0, .ref (ad (290))), (1, .ref (ad (4 * f + 4))), (2, .ref (ad (2))), (3, .int (nI (t))), (4, .int (nI (2))), (5, .int (nI (1))), (6, .int (zcu (cgm (upd (upd (upd (upd μ 2458 (nI t)) 2455 (nI 0)) 2456 (nI 0)) 2457 (-5)) f 2 2) f 1 ((cgm (upd (upd (upd (upd μ 2458 (nI t)) 2455 (nI 0)) 2456 (nI 0)) 2457 (-5)) f 2 2) (3))))] dX3_workOut_49 (by decide) rfl ?_
  refine zr_aloadn X 0 dX3_workOut_51 rfl ?_
  refine zr_get X (ci := 3) (q := 1) (zR _) (.ref (ad (292))) dX3_workOut_52 (by omega) sc_290 rfl inX3 (by decide) rfl (zvR rfl) rfl k_151 ?_
  refine zr_iload X 5 dX3_workOut_55 rfl ?_
  refine zr_aloadn X 0 dX3_workOut_57 rfl ?_
  refine zr_get X (ci := 3) (q := 5) zI (.int ((cgm (upd (upd (upd (upd μ 2458 (nI t)) 2455 (nI 0)) 2456 (nI 0)) 2457 (-5)) f 2 2) (2458))) dX3_workOut_58 (by omega) sc_290 rfl inX3 (by decide) rfl (congrArg Value.int (rfl)) rfl k_160 ?_
  refine zr_iload X 6 dX3_workOut_61 rfl ?_
  refine zr_mmin X (zmin ((cgm (upd (upd (upd (upd μ 2458 (nI t)) 2455 (nI 0)) 2456 (nI 0)) 2457 (-5)) f 2 2) (2458)) (zcu (cgm (upd (upd (upd (upd μ 2458 (nI t)) 2455 (nI 0)) 2456 (nI 0)) 2457 (-5)) f 2 2) f 1 ((cgm (upd (upd (upd (upd μ 2458 (nI t)) 2455 (nI 0)) 2456 (nI 0)) 2457 (-5)) f 2 2) (3)))) dX3_workOut_63 k_348 k_252 k_8 k_253 (Nat.le_of_ble_eq_true rfl) (Nat.le_of_ble_eq_true rfl) (zmin_eq _ _) ?_
  refine zr_iast X (j := 1) 0 (2481) dX3_workOut_66 (by omega) sc_292 rfl rfl (by omega) (by omega) (by omega) ?_
  refine zr_aloadn X 0 dX3_workOut_67 rfl ?_
  refine zr_dup X dX3_workOut_68 rfl ?_
  refine zr_get X (ci := 3) (q := 5) zI (.int ((cgm (upd (upd (upd (upd μ 2458 (nI t)) 2455 (nI 0)) 2456 (nI 0)) 2457 (-5)) f 2 2) (2458))) dX3_workOut_69 (by omega) sc_290 rfl inX3 (by decide) rfl (congrArg Value.int ((pk_un (by omega)).trans (rfl))) rfl k_160 ?_
  refine zr_aloadn X 0 dX3_workOut_72 rfl ?_
  refine zr_get X (ci := 3) (q := 1) (zR _) (.ref (ad (292))) dX3_workOut_73 (by omega) sc_290 rfl inX3 (by decide) rfl (zvR rfl) rfl k_151 ?_
  refine zr_iload X 5 dX3_workOut_76 rfl ?_
  refine zr_iald X (j := 1) 0 (zmin ((cgm (upd (upd (upd (upd μ 2458 (nI t)) 2455 (nI 0)) 2456 (nI 0)) 2457 (-5)) f 2 2) (2458)) (zcu (cgm (upd (upd (upd (upd μ 2458 (nI t)) 2455 (nI 0)) 2456 (nI 0)) 2457 (-5)) f 2 2) f 1 ((cgm (upd (upd (upd (upd μ 2458 (nI t)) 2455 (nI 0)) 2456 (nI 0)) 2457 (-5)) f 2 2) (3)))) dX3_workOut_78 (by omega) sc_292 rfl rfl (by omega) (by omega) (zcg (b := 2481) (by omega) (pk_us)) ?_
  refine zr_isub X (((cgm (upd (upd (upd (upd μ 2458 (nI t)) 2455 (nI 0)) 2456 (nI 0)) 2457 (-5)) f 2 2) (2458)) - (zmin ((cgm (upd (upd (upd (upd μ 2458 (nI t)) 2455 (nI 0)) 2456 (nI 0)) 2457 (-5)) f 2 2) (2458)) (zcu (cgm (upd (upd (upd (upd μ 2458 (nI t)) 2455 (nI 0)) 2456 (nI 0)) 2457 (-5)) f 2 2) f 1 ((cgm (upd (upd (upd (upd μ 2458 (nI t)) 2455 (nI 0)) 2456 (nI 0)) 2457 (-5)) f 2 2) (3))))) dX3_workOut_79 rfl ?_
  refine zr_put X (ci := 3) (q := 5) (ty0 := tyX3) (ty := .int) (2458) dX3_workOut_80 (by omega) sc_290 rfl inX3 tyX3_ok nmX3 (by decide) rfl rfl rfl rfl rfl rfl k_160 (by omega) ?_
  refine zr_iinc X 5 (nI (0)) [1, 2, 3, 4, 5, 0, 6] [(0, .ref (ad (290))), (1, .ref (ad (4 * f + 4))), (2, .ref (ad (2))), (3, .int (nI (t))), (4, .int (nI (2))), (5, .int (nI (0))), (6, .int (zcu (cgm (upd (upd (upd (upd μ 2458 (nI t)) 2455 (nI 0)) 2456 (nI 0)) 2457 (-5)) f 2 2) f 1 ((cgm (upd (upd (upd (upd μ 2458 (nI t)) 2455 (nI 0)) 2456 (nI 0)) 2457 (-5)) f 2 2) (3))))] dX3_workOut_83 rfl (zdec _) (by decide) rfl ?_
  refine zr_goto X 24 dX3_workOut_86 (by decide) ?_
  refine zr_mem X (rfl : _ = (cgm (cgm (upd (upd (upd (upd μ 2458 (nI t)) 2455 (nI 0)) 2456 (nI 0)) 2457 (-5)) f 2 2) f 2 1)) ?_
  refine zr_iload X 5 dX3_workOut_24 rfl ?_
  refine zr_if_lt X 89 dX3_workOut_26 (by decide) (fun q => absurd q (nI_pos (by omega))) (fun _ => ?_)
  refine zr_iload X 4 dX3_workOut_29 rfl ?_
  refine zr_iconst X (nI (2)) dX3_workOut_31 (by decide +kernel) ?_
  refine zr_icmp_ne X 48 dX3_workOut_32 (by decide) (fun q => absurd (zq_eq (by omega)) q) (fun _ => ?_)
  refine zr_aloadn X 1 dX3_workOut_35 rfl ?_
  refine zr_iload X 5 dX3_workOut_36 rfl ?_
  refine zr_aloadn X 2 dX3_workOut_38 rfl ?_
  refine zr_iload X 5 dX3_workOut_39 rfl ?_
  refine zr_iald X (j := 0) 0 ((cgm (cgm (upd (upd (upd (upd μ 2458 (nI t)) 2455 (nI 0)) 2456 (nI 0)) 2457 (-5)) f 2 2) f 2 1) (2)) dX3_workOut_41 (by omega) (sc_set (j := 0) (by omega) (by have := cb_0; omega)) rfl rfl (by omega) (by omega) (zcg (b := 2) (by omega) (rfl)) ?_
  refine zr_dVi (C := RX0) (ci := 0) [.int (nI (0)), .int ((cgm (cgm (upd (upd (upd (upd μ 2458 (nI t)) 2455 (nI 0)) 2456 (nI 0)) 2457 (-5)) f 2 2) f 2 1) (2))] [] X (zK_ok A D tc tF tL tM) (d_canUse E (cgm (cgm (upd (upd (upd (upd μ 2458 (nI t)) 2455 (nI 0)) 2456 (nI 0)) 2457 (-5)) f 2 2) f 2 1) (f := f) (g := 0) (by omega) (by omega) ((cgm (cgm (upd (upd (upd (upd μ 2458 (nI t)) 2455 (nI 0)) 2456 (nI 0)) 2457 (-5)) f 2 2) f 2 1) (2))) k_336 k_337 k_338 k_3 k_339 hdX0_canUse ⟨rfl, rfl⟩ ⟨Nat.le_of_ble_eq_true rfl, Nat.le_of_ble_eq_true rfl⟩ (by omega) (sc_firm (j := 0) (i := f) (by omega) (by omega) (by have := cb_0; omega)) rfl rfl rfl (Nat.le_of_ble_eq_true rfl) dX3_workOut_42 ?_
  refine zr_goto X 49 dX3_workOut_45 (by decide) ?_
  refine zr_istore X [1, 2, 3, 4, 5, 6, 0] [(0, .ref (ad (290))), (1, .ref (ad (4 * f + 4))), (2, .ref (ad (2))), (3, .int (nI (t))), (4, .int (nI (2))), (5, .int (nI (0))), (6, .int (zcu (cgm (cgm (upd (upd (upd (upd μ 2458 (nI t)) 2455 (nI 0)) 2456 (nI 0)) 2457 (-5)) f 2 2) f 2 1) f 0 ((cgm (cgm (upd (upd (upd (upd μ 2458 (nI t)) 2455 (nI 0)) 2456 (nI 0)) 2457 (-5)) f 2 2) f 2 1) (2))))] dX3_workOut_49 (by decide) rfl ?_
  refine zr_aloadn X 0 dX3_workOut_51 rfl ?_
  refine zr_get X (ci := 3) (q := 1) (zR _) (.ref (ad (292))) dX3_workOut_52 (by omega) sc_290 rfl inX3 (by decide) rfl (zvR rfl) rfl k_151 ?_
  refine zr_iload X 5 dX3_workOut_55 rfl ?_
  refine zr_aloadn X 0 dX3_workOut_57 rfl ?_
  refine zr_get X (ci := 3) (q := 5) zI (.int ((cgm (cgm (upd (upd (upd (upd μ 2458 (nI t)) 2455 (nI 0)) 2456 (nI 0)) 2457 (-5)) f 2 2) f 2 1) (2458))) dX3_workOut_58 (by omega) sc_290 rfl inX3 (by decide) rfl (congrArg Value.int (rfl)) rfl k_160 ?_
  refine zr_iload X 6 dX3_workOut_61 rfl ?_
  refine zr_mmin X (zmin ((cgm (cgm (upd (upd (upd (upd μ 2458 (nI t)) 2455 (nI 0)) 2456 (nI 0)) 2457 (-5)) f 2 2) f 2 1) (2458)) (zcu (cgm (cgm (upd (upd (upd (upd μ 2458 (nI t)) 2455 (nI 0)) 2456 (nI 0)) 2457 (-5)) f 2 2) f 2 1) f 0 ((cgm (cgm (upd (upd (upd (upd μ 2458 (nI t)) 2455 (nI 0)) 2456 (nI 0)) 2457 (-5)) f 2 2) f 2 1) (2)))) dX3_workOut_63 k_348 k_252 k_8 k_253 (Nat.le_of_ble_eq_true rfl) (Nat.le_of_ble_eq_true rfl) (zmin_eq _ _) ?_
  refine zr_iast X (j := 0) 0 (2480) dX3_workOut_66 (by omega) sc_292 rfl rfl (by omega) (by omega) (by omega) ?_
  refine zr_aloadn X 0 dX3_workOut_67 rfl ?_
  refine zr_dup X dX3_workOut_68 rfl ?_
  refine zr_get X (ci := 3) (q := 5) zI (.int ((cgm (cgm (upd (upd (upd (upd μ 2458 (nI t)) 2455 (nI 0)) 2456 (nI 0)) 2457 (-5)) f 2 2) f 2 1) (2458))) dX3_workOut_69 (by omega) sc_290 rfl inX3 (by decide) rfl (congrArg Value.int ((pk_un (by omega)).trans (rfl))) rfl k_160 ?_
  refine zr_aloadn X 0 dX3_workOut_72 rfl ?_
  refine zr_get X (ci := 3) (q := 1) (zR _) (.ref (ad (292))) dX3_workOut_73 (by omega) sc_290 rfl inX3 (by decide) rfl (zvR rfl) rfl k_151 ?_
  refine zr_iload X 5 dX3_workOut_76 rfl ?_
  refine zr_iald X (j := 0) 0 (zmin ((cgm (cgm (upd (upd (upd (upd μ 2458 (nI t)) 2455 (nI 0)) 2456 (nI 0)) 2457 (-5)) f 2 2) f 2 1) (2458)) (zcu (cgm (cgm (upd (upd (upd (upd μ 2458 (nI t)) 2455 (nI 0)) 2456 (nI 0)) 2457 (-5)) f 2 2) f 2 1) f 0 ((cgm (cgm (upd (upd (upd (upd μ 2458 (nI t)) 2455 (nI 0)) 2456 (nI 0)) 2457 (-5)) f 2 2) f 2 1) (2)))) dX3_workOut_78 (by omega) sc_292 rfl rfl (by omega) (by omega) (zcg (b := 2480) (by omega) (pk_us)) ?_
  refine zr_isub X (((cgm (cgm (upd (upd (upd (upd μ 2458 (nI t)) 2455 (nI 0)) 2456 (nI 0)) 2457 (-5)) f 2 2) f 2 1) (2458)) - (zmin ((cgm (cgm (upd (upd (upd (upd μ 2458 (nI t)) 2455 (nI 0)) 2456 (nI 0)) 2457 (-5)) f 2 2) f 2 1) (2458)) (zcu (cgm (cgm (upd (upd (upd (upd μ 2458 (nI t)) 2455 (nI 0)) 2456 (nI 0)) 2457 (-5)) f 2 2) f 2 1) f 0 ((cgm (cgm (upd (upd (upd (upd μ 2458 (nI t)) 2455 (nI 0)) 2456 (nI 0)) 2457 (-5)) f 2 2) f 2 1) (2))))) dX3_workOut_79 rfl ?_
  refine zr_put X (ci := 3) (q := 5) (ty0 := tyX3) (ty := .int) (2458) dX3_workOut_80 (by omega) sc_290 rfl inX3 tyX3_ok nmX3 (by decide) rfl rfl rfl rfl rfl rfl k_160 (by omega) ?_
  refine zr_iinc X 5 (-1) [1, 2, 3, 4, 5, 0, 6] [(0, .ref (ad (290))), (1, .ref (ad (4 * f + 4))), (2, .ref (ad (2))), (3, .int (nI (t))), (4, .int (nI (2))), (5, .int (-1)), (6, .int (zcu (cgm (cgm (upd (upd (upd (upd μ 2458 (nI t)) 2455 (nI 0)) 2456 (nI 0)) 2457 (-5)) f 2 2) f 2 1) f 0 ((cgm (cgm (upd (upd (upd (upd μ 2458 (nI t)) 2455 (nI 0)) 2456 (nI 0)) 2457 (-5)) f 2 2) f 2 1) (2))))] dX3_workOut_83 rfl (by decide +kernel) (by decide) rfl ?_
  refine zr_goto X 24 dX3_workOut_86 (by decide) ?_
  refine zr_mem X (rfl : _ = (cgm (cgm (cgm (upd (upd (upd (upd μ 2458 (nI t)) 2455 (nI 0)) 2456 (nI 0)) 2457 (-5)) f 2 2) f 2 1) f 2 0)) ?_
  refine zr_iload X 5 dX3_workOut_24 rfl ?_
  refine zr_if_lt X 89 dX3_workOut_26 (by decide) (fun _ => ?_) (fun q => absurd ((by decide +kernel : (-1 : Int32) < 0)) q)
  refine zr_iconst X (nI (0)) dX3_workOut_89 (by decide +kernel) ?_
  refine zr_istore X [1, 2, 3, 4, 5, 0, 6] [(0, .ref (ad (290))), (1, .ref (ad (4 * f + 4))), (2, .ref (ad (2))), (3, .int (nI (t))), (4, .int (nI (2))), (5, .int (nI (0))), (6, .int (zcu (cgm (cgm (upd (upd (upd (upd μ 2458 (nI t)) 2455 (nI 0)) 2456 (nI 0)) 2457 (-5)) f 2 2) f 2 1) f 0 ((cgm (cgm (upd (upd (upd (upd μ 2458 (nI t)) 2455 (nI 0)) 2456 (nI 0)) 2457 (-5)) f 2 2) f 2 1) (2))))] dX3_workOut_90 (by decide) rfl ?_
  refine zr_drop X [0, 1, 2, 3, 4, 5] [(0, .ref (ad (290))), (1, .ref (ad (4 * f + 4))), (2, .ref (ad (2))), (3, .int (nI (t))), (4, .int (nI (2))), (5, .int (nI (0)))] rfl ?_
  refine zr_for X (20) (fun i => (clv (cgm (cgm (cgm (upd (upd (upd (upd μ 2458 (nI t)) 2455 (nI 0)) 2456 (nI 0)) 2457 (-5)) f 2 2) f 2 1) f 2 0) f 2 (i))) (fun i => [(0, .ref (ad (290))), (1, .ref (ad (4 * f + 4))), (2, .ref (ad (2))), (3, .int (nI (t))), (4, .int (nI (2))), (5, .int (nI (i)))]) [] (rfl) rfl ?_ ?_
  · refine zr_iload X 5 dX3_workOut_92 rfl ?_
    refine zr_bipush X (nI (20)) dX3_workOut_94 (by decide +kernel) ?_
    refine zr_icmp_ge X 126 dX3_workOut_96 (by decide) (fun _ => ?_) (fun q => absurd (zq_le (by omega) (by omega)) q)
    exact zr_vret X dX3_workOut_126 rfl
  · intro i hi ih92
    refine zr_iload X 5 dX3_workOut_92 rfl ?_
    refine zr_bipush X (nI (20)) dX3_workOut_94 (by decide +kernel) ?_
    refine zr_icmp_ge X 126 dX3_workOut_96 (by decide) (fun q => absurd q (nI_ge (by omega) (by omega))) (fun _ => ?_)
    refine zr_aloadn X 0 dX3_workOut_99 rfl ?_
    refine zr_aloadn X 1 dX3_workOut_100 rfl ?_
    refine zr_iload X 4 dX3_workOut_101 rfl ?_
    refine zr_iconst X (nI (1)) dX3_workOut_103 (by decide +kernel) ?_
    refine zr_icmp_ne X 115 dX3_workOut_104 (by decide) (fun _ => ?_) (fun q => absurd q (zq_ne (by omega) (by omega) (by omega)))
    refine zr_iload X 5 dX3_workOut_115 rfl ?_
    refine zr_dVv (C := RX3) (ci := 3) [.ref (ad (4 * f + 4)), .int (nI (i))] [] X (zK_ok A D tc tF tL tM) (d_takeVintage E (clv (cgm (cgm (cgm (upd (upd (upd (upd μ 2458 (nI t)) 2455 (nI 0)) 2456 (nI 0)) 2457 (-5)) f 2 2) f 2 1) f 2 0) f 2 (i)) (f := f) (v := i) (by omega) (by omega)) k_349 k_350 k_351 k_5 k_352 hdX3_takeVintage ⟨rfl, rfl⟩ ⟨Nat.le_of_ble_eq_true rfl, Nat.le_of_ble_eq_true rfl⟩ (by omega) sc_290 rfl rfl rfl (Nat.le_of_ble_eq_true rfl) dX3_workOut_117 ?_
    refine zr_iinc X 5 (nI (i + 1)) [1, 2, 3, 4, 5, 0] [(0, .ref (ad (290))), (1, .ref (ad (4 * f + 4))), (2, .ref (ad (2))), (3, .int (nI (t))), (4, .int (nI (2))), (5, .int (nI (i + 1)))] dX3_workOut_120 rfl (zinc _) (by decide) rfl ?_
    refine zr_goto X 92 dX3_workOut_123 (by decide) ?_
    exact ih92

