/-! the law's own methods: low, cell, all -/
section ZLO
variable {p : Program} {l : Launch} {e : Env} {R : Room} {s : State} {m : MethodId} {args : Array Value} {below : List Frame} {meth : Method} {c : Code} {A : Nat → Prop} {D : va_G} {tc : Nat → ClassId} {ad : Nat → Nat} {nL : Nat} {Q : State → Prop} {μ : Nat → Int32} {pc : Nat} {lv : List (Nat × Value)} {tF tL tM : Nat}
variable {ow : Nat → Nat} {cc : ByteArray} {ret : Option FieldType}
theorem l_low0 {l : Launch} {D : va_G} {tc : Nat → ClassId} {ad : Nat → Nat} {A : Nat → Prop} {tF tL tM : Nat} (E : zN 299 A ad) (μ : Nat → Int32) (x : Int32) {n : Nat} (h0 : 0 < n) (hn : n < 2 ^ 31) : zMi l yL_low cL_low 2 (some .int) (zrm 1) (zK A D tc tF tL tM) A D vwCl tc ad 299 shC [.int x, .int (nI n)] μ (fun r u => r = nI (x.toBitVec.toNat % 2 ^ 31 % n) ∧ u = μ) := by
  refine zM_of RL [(0, .int x), (1, .int (nI n))] (zK_ok A D tc tF tL tM) E.1 E.2 owC_ok (by decide +kernel) rfl (Nat.le_of_ble_eq_true rfl) rfl ?_
  intro pP eE sS mM aS bL mT cO X
  refine zr_iloadn X 0 dL_low_0 rfl ?_
  refine zr_ldc X (2147483647) dL_low_1 k_p436 ?_
  refine zr_iand X dL_low_3 ?_
  rw [pk_and x (m := 2147483647) 31 (by decide +kernel)]
  refine zr_iloadn X 1 dL_low_4 rfl ?_
  refine zr_irem X (nI (x.toBitVec.toNat % 2 ^ 31 % n)) dL_low_5 (nI_ne0 h0 hn) (pk_rem (by omega) h0 hn) ?_
  exact zr_iret X dL_low_6 ⟨rfl, rfl⟩
theorem zr_low (X : zX p s m args meth c A D vwCl ad 299 nL (zK A D tc tF tL tM) (zTY tc) ow shC cc RL ret) {idx : Nat} {x : Int32} (n : Nat) (hl : Cond.methodLink RL idx yL_low ∈ zT) (d : decode cc pc = .ok (.invokestatic idx, 3)) (rest : List Value) (h0 : 0 < n) (hn : n < 2 ^ 31) (hroom : (rest.map fun v => v.category).sum ≤ 8 ∧ 2 ≤ R.frames ∧ 51 ≤ R.locals) (kk : ∀ j, j < n → zG p l e R s m args below meth c A D vwCl tc ad 299 shC nL Q μ (pc + 3) lv (.int (nI j) :: rest)) : zG p l e R s m args below meth c A D vwCl tc ad 299 shC nL Q μ pc lv (.int (nI n) :: .int x :: rest) :=
  zr_dSi [.int x, .int (nI n)] rest X (zK_ok A D tc tF tL tM) (l_low0 ⟨X.2.2.2.1, X.2.2.2.2.1⟩ μ x h0 hn) hl k_p434 k_0 k_p435 hdL_low ⟨rfl, rfl⟩ ⟨hroom.2.1, hroom.2.2⟩ rfl rfl hroom.1 d (kk _ (Nat.mod_lt _ h0))
end ZLO
set_option maxHeartbeats 4000000 in
set_option maxRecDepth 100000 in
theorem l_all {l : Launch} {D : va_G} {tc : Nat → ClassId} {ad : Nat → Nat} {A : Nat → Prop} {tF tL tM : Nat} (E : zN 299 A ad) (μ : Nat → Int32) {m c ro z b : Nat} (S : clsS μ m c ro z) (hb : μ 5 = nI b) (hb1 : 1 ≤ b) (hb5 : b ≤ 5) : zMl l yL_all cL_all 5 (some .long) (zrm 6) (zK A D tc tF tL tM) A D vwCl tc ad 299 shC [.ref (ad (0))] μ (fun r u => r = AL μ c ∧ u = μ) := by
  refine zM_of RL [(0, .ref (ad (0)))] (zK_ok A D tc tF tL tM) E.1 E.2 owC_ok (by decide +kernel) rfl (Nat.le_of_ble_eq_true rfl) rfl ?_
  intro pP eE sS mM aS bL mT cO X
  have h8 := S.2.2.2.1
  refine zr_ldc2 X (47) dL_all_0 k_p440 ?_
  refine zr_lstoren X [1, 0] [(0, .ref (ad (0))), (1, .long (47))] dL_all_3 (by decide) rfl ?_
  refine zr_iconst X (nI (0)) dL_all_4 (by decide +kernel) ?_
  refine zr_istoren X [1, 2, 0] [(0, .ref (ad (0))), (1, .long (47)), (3, .int (nI (0)))] dL_all_5 (by decide) rfl ?_
  refine zr_for X (13) (fun i => μ) (fun i => [(0, .ref (ad (0))), (1, .long (al1 μ (i))), (3, .int (nI (i)))]) [] (rfl) rfl ?_ ?_
  · refine zr_iloadn X 2 dL_all_6 rfl ?_
    refine zr_bipush X (nI (13)) dL_all_7 (by decide +kernel) ?_
    refine zr_icmp_ge X 31 dL_all_9 (by decide) (fun _ => ?_) (fun q => absurd (zq_le (by omega) (by omega)) q)
    refine zr_iconst X (nI (0)) dL_all_31 (by decide +kernel) ?_
    refine zr_istoren X [1, 2, 0] [(0, .ref (ad (0))), (1, .long (al1 μ (13))), (3, .int (nI (0)))] dL_all_32 (by decide) rfl ?_
    refine zr_for X (c) (fun f => μ) (fun f => [(0, .ref (ad (0))), (1, .long (al2 μ (f))), (3, .int (nI (f)))]) [] (rfl) rfl ?_ ?_
    · refine zr_iloadn X 2 dL_all_33 rfl ?_
      refine zr_aloadn X 0 dL_all_34 rfl ?_
      refine zr_iconst X (nI (2)) dL_all_35 (by decide +kernel) ?_
      refine zr_dVi (C := RX5) (ci := 5) [.int (nI (2))] [.int (nI (c))] X (zK_ok A D tc tF tL tM) (d_count_2 E μ S) k_535 k_509 k_510 k_1 k_511 hdX5_count ⟨rfl, rfl⟩ ⟨Nat.le_of_ble_eq_true rfl, Nat.le_of_ble_eq_true rfl⟩ (by omega) sc_0 rfl rfl rfl (Nat.le_of_ble_eq_true rfl) dL_all_36 ?_
      refine zr_icmp_ge X 147 dL_all_39 (by decide) (fun _ => ?_) (fun q => absurd (zq_le (by omega) (by omega)) q)
      refine zr_iconst X (nI (0)) dL_all_147 (by decide +kernel) ?_
      refine zr_istoren X [1, 2, 0] [(0, .ref (ad (0))), (1, .long (al2 μ (c))), (3, .int (nI (0)))] dL_all_148 (by decide) rfl ?_
      refine zr_for X (140) (fun k => μ) (fun k => [(0, .ref (ad (0))), (1, .long (al3 μ c (k))), (3, .int (nI (k)))]) [] (rfl) rfl ?_ ?_
      · refine zr_iloadn X 2 dL_all_149 rfl ?_
        refine zr_sipush X (nI (140)) dL_all_150 (by decide +kernel) ?_
        refine zr_icmp_ge X 182 dL_all_153 (by decide) (fun _ => ?_) (fun q => absurd (zq_le (by omega) (by omega)) q)
        refine zr_iconst X (nI (0)) dL_all_182 (by decide +kernel) ?_
        refine zr_istoren X [1, 2, 0] [(0, .ref (ad (0))), (1, .long (al3 μ c (140))), (3, .int (nI (0)))] dL_all_183 (by decide) rfl ?_
        refine zr_for X (9) (fun k => μ) (fun k => [(0, .ref (ad (0))), (1, .long (al4 μ c (k))), (3, .int (nI (k)))]) [] (rfl) rfl ?_ ?_
        · refine zr_iloadn X 2 dL_all_184 rfl ?_
          refine zr_bipush X (nI (9)) dL_all_185 (by decide +kernel) ?_
          refine zr_icmp_ge X 214 dL_all_187 (by decide) (fun _ => ?_) (fun q => absurd (zq_le (by omega) (by omega)) q)
          refine zr_lloadn X 1 dL_all_214 rfl ?_
          exact zr_lret X dL_all_215 ⟨rfl, rfl⟩
        · intro k hk ih184
          refine zr_iloadn X 2 dL_all_184 rfl ?_
          refine zr_bipush X (nI (9)) dL_all_185 (by decide +kernel) ?_
          refine zr_icmp_ge X 214 dL_all_187 (by decide) (fun q => absurd q (nI_ge (by omega) (by omega))) (fun _ => ?_)
          refine zr_ldc2 X (31) dL_all_190 k_p441 ?_
          refine zr_lloadn X 1 dL_all_193 rfl ?_
          refine zr_lmul X (31 * (al4 μ c (k))) dL_all_194 rfl ?_
          refine zr_aloadn X 0 dL_all_195 rfl ?_
          refine zr_iloadn X 2 dL_all_196 rfl ?_
          refine zr_iconst X (nI (3)) dL_all_197 (by decide +kernel) ?_
          refine zr_idiv X (nI ((k / 3))) dL_all_198 (by decide +kernel) (pk_div (by omega) (by omega) (by omega)) ?_
          refine zr_iloadn X 2 dL_all_199 rfl ?_
          refine zr_iconst X (nI (3)) dL_all_200 (by decide +kernel) ?_
          refine zr_irem X (nI ((k % 3))) dL_all_201 (by decide +kernel) (pk_rem (by omega) (by omega) (by omega)) ?_
          refine zr_dVi (C := RX5) (ci := 5) [.int (nI ((k / 3))), .int (nI ((k % 3)))] [.long (31 * (al4 μ c (k)))] X (zK_ok A D tc tF tL tM) (t_grade E μ S (k := (k / 3)) (by omega) (i := (k % 3)) (by omega)) k_291 k_485 k_486 k_1 k_487 hdX5_grade ⟨rfl, rfl⟩ ⟨Nat.le_of_ble_eq_true rfl, Nat.le_of_ble_eq_true rfl⟩ (by omega) sc_0 rfl rfl rfl (Nat.le_of_ble_eq_true rfl) dL_all_202 ?_
          refine zr_i2l X dL_all_205 ?_
          refine zr_ladd X ((31 * (al4 μ c (k))) + ((graF μ ((k / 3)) ((k % 3))).toInt64)) dL_all_206 rfl ?_
          refine zr_lstoren X [1, 0, 2] [(0, .ref (ad (0))), (1, .long ((31 * (al4 μ c (k))) + ((graF μ ((k / 3)) ((k % 3))).toInt64))), (3, .int (nI (k)))] dL_all_207 (by decide) rfl ?_
          refine zr_iinc X 2 (nI (k + 1)) [1, 2, 0] [(0, .ref (ad (0))), (1, .long ((31 * (al4 μ c (k))) + ((graF μ ((k / 3)) ((k % 3))).toInt64))), (3, .int (nI (k + 1)))] dL_all_208 rfl (zinc _) (by decide) rfl ?_
          refine zr_goto X 184 dL_all_211 (by decide) ?_
          exact ih184
      · intro k hk ih149
        refine zr_iloadn X 2 dL_all_149 rfl ?_
        refine zr_sipush X (nI (140)) dL_all_150 (by decide +kernel) ?_
        refine zr_icmp_ge X 182 dL_all_153 (by decide) (fun q => absurd q (nI_ge (by omega) (by omega))) (fun _ => ?_)
        refine zr_ldc2 X (31) dL_all_156 k_p441 ?_
        refine zr_lloadn X 1 dL_all_159 rfl ?_
        refine zr_lmul X (31 * (al3 μ c (k))) dL_all_160 rfl ?_
        refine zr_aloadn X 0 dL_all_161 rfl ?_
        refine zr_iloadn X 2 dL_all_162 rfl ?_
        refine zr_bipush X (nI (7)) dL_all_163 (by decide +kernel) ?_
        refine zr_idiv X (nI ((k / 7))) dL_all_165 (by decide +kernel) (pk_div (by omega) (by omega) (by omega)) ?_
        refine zr_iloadn X 2 dL_all_166 rfl ?_
        refine zr_bipush X (nI (7)) dL_all_167 (by decide +kernel) ?_
        refine zr_irem X (nI ((k % 7))) dL_all_169 (by decide +kernel) (pk_rem (by omega) (by omega) (by omega)) ?_
        refine zr_dVi (C := RX5) (ci := 5) [.int (nI ((k / 7))), .int (nI ((k % 7)))] [.long (31 * (al3 μ c (k)))] X (zK_ok A D tc tF tL tM) (t_vintage E μ S hb hb1 hb5 (v := (k / 7)) (by omega) (i := (k % 7)) (by omega)) k_p364 k_467 k_468 k_1 k_469 hdX5_vintage ⟨rfl, rfl⟩ ⟨Nat.le_of_ble_eq_true rfl, Nat.le_of_ble_eq_true rfl⟩ (by omega) sc_0 rfl rfl rfl (Nat.le_of_ble_eq_true rfl) dL_all_170 ?_
        refine zr_i2l X dL_all_173 ?_
        refine zr_ladd X ((31 * (al3 μ c (k))) + ((vinF μ ((k / 7)) ((k % 7))).toInt64)) dL_all_174 rfl ?_
        refine zr_lstoren X [1, 0, 2] [(0, .ref (ad (0))), (1, .long ((31 * (al3 μ c (k))) + ((vinF μ ((k / 7)) ((k % 7))).toInt64))), (3, .int (nI (k)))] dL_all_175 (by decide) rfl ?_
        refine zr_iinc X 2 (nI (k + 1)) [1, 2, 0] [(0, .ref (ad (0))), (1, .long ((31 * (al3 μ c (k))) + ((vinF μ ((k / 7)) ((k % 7))).toInt64))), (3, .int (nI (k + 1)))] dL_all_176 rfl (zinc _) (by decide) rfl ?_
        refine zr_goto X 149 dL_all_179 (by decide) ?_
        exact ih149
    · intro f hf ih33
      refine zr_iloadn X 2 dL_all_33 rfl ?_
      refine zr_aloadn X 0 dL_all_34 rfl ?_
      refine zr_iconst X (nI (2)) dL_all_35 (by decide +kernel) ?_
      refine zr_dVi (C := RX5) (ci := 5) [.int (nI (2))] [.int (nI (f))] X (zK_ok A D tc tF tL tM) (d_count_2 E μ S) k_535 k_509 k_510 k_1 k_511 hdX5_count ⟨rfl, rfl⟩ ⟨Nat.le_of_ble_eq_true rfl, Nat.le_of_ble_eq_true rfl⟩ (by omega) sc_0 rfl rfl rfl (Nat.le_of_ble_eq_true rfl) dL_all_36 ?_
      refine zr_icmp_ge X 147 dL_all_39 (by decide) (fun q => absurd q (nI_ge (by omega) (by omega))) (fun _ => ?_)
      refine zr_iconst X (nI (0)) dL_all_42 (by decide +kernel) ?_
      refine zr_istore X [1, 2, 3, 0] [(0, .ref (ad (0))), (1, .long (al2 μ (f))), (3, .int (nI (f))), (4, .int (nI (0)))] dL_all_43 (by decide) rfl ?_
      refine zr_for X (11) (fun i => μ) (fun i => [(0, .ref (ad (0))), (1, .long (al2a μ (f) (al2 μ (f)) (i))), (3, .int (nI (f))), (4, .int (nI (i)))]) [] (rfl) rfl ?_ ?_
      · refine zr_iload X 3 dL_all_45 rfl ?_
        refine zr_bipush X (nI (11)) dL_all_47 (by decide +kernel) ?_
        refine zr_icmp_ge X 73 dL_all_49 (by decide) (fun _ => ?_) (fun q => absurd (zq_le (by omega) (by omega)) q)
        refine zr_iconst X (nI (0)) dL_all_73 (by decide +kernel) ?_
        refine zr_istore X [1, 2, 3, 0] [(0, .ref (ad (0))), (1, .long (al2a μ (f) (al2 μ (f)) (11))), (3, .int (nI (f))), (4, .int (nI (0)))] dL_all_74 (by decide) rfl ?_
        refine zr_for X (20) (fun v => μ) (fun v => [(0, .ref (ad (0))), (1, .long (al2b μ (f) (al2a μ (f) (al2 μ (f)) 11) (v))), (3, .int (nI (f))), (4, .int (nI (v)))]) [] (rfl) rfl ?_ ?_
        · refine zr_iload X 3 dL_all_76 rfl ?_
          refine zr_bipush X (nI (20)) dL_all_78 (by decide +kernel) ?_
          refine zr_icmp_ge X 104 dL_all_80 (by decide) (fun _ => ?_) (fun q => absurd (zq_le (by omega) (by omega)) q)
          refine zr_iconst X (nI (0)) dL_all_104 (by decide +kernel) ?_
          refine zr_istore X [1, 2, 3, 0] [(0, .ref (ad (0))), (1, .long (al2b μ (f) (al2a μ (f) (al2 μ (f)) 11) (20))), (3, .int (nI (f))), (4, .int (nI (0)))] dL_all_105 (by decide) rfl ?_
          refine zr_for X (9) (fun k => μ) (fun k => [(0, .ref (ad (0))), (1, .long (al2c μ (f) (al2b μ (f) (al2a μ (f) (al2 μ (f)) 11) 20) (k))), (3, .int (nI (f))), (4, .int (nI (k)))]) [] (rfl) rfl ?_ ?_
          · refine zr_iload X 3 dL_all_107 rfl ?_
            refine zr_bipush X (nI (9)) dL_all_109 (by decide +kernel) ?_
            refine zr_icmp_ge X 141 dL_all_111 (by decide) (fun _ => ?_) (fun q => absurd (zq_le (by omega) (by omega)) q)
            refine zr_iinc X 2 (nI (f + 1)) [1, 2, 0, 3] [(0, .ref (ad (0))), (1, .long (al2c μ (f) (al2b μ (f) (al2a μ (f) (al2 μ (f)) 11) 20) (9))), (3, .int (nI (f + 1))), (4, .int (nI (9)))] dL_all_141 rfl (zinc _) (by decide) rfl ?_
            refine zr_goto X 33 dL_all_144 (by decide) ?_
            refine zr_drop X [0, 1, 2] [(0, .ref (ad (0))), (1, .long (al2c μ (f) (al2b μ (f) (al2a μ (f) (al2 μ (f)) 11) 20) (9))), (3, .int (nI (f + 1)))] rfl ?_
            exact ih33
          · intro k hk ih107
            refine zr_iload X 3 dL_all_107 rfl ?_
            refine zr_bipush X (nI (9)) dL_all_109 (by decide +kernel) ?_
            refine zr_icmp_ge X 141 dL_all_111 (by decide) (fun q => absurd q (nI_ge (by omega) (by omega))) (fun _ => ?_)
            refine zr_ldc2 X (31) dL_all_114 k_p441 ?_
            refine zr_lloadn X 1 dL_all_117 rfl ?_
            refine zr_lmul X (31 * (al2c μ (f) (al2b μ (f) (al2a μ (f) (al2 μ (f)) 11) 20) (k))) dL_all_118 rfl ?_
            refine zr_aloadn X 0 dL_all_119 rfl ?_
            refine zr_iloadn X 2 dL_all_120 rfl ?_
            refine zr_iload X 3 dL_all_121 rfl ?_
            refine zr_iconst X (nI (3)) dL_all_123 (by decide +kernel) ?_
            refine zr_idiv X (nI ((k / 3))) dL_all_124 (by decide +kernel) (pk_div (by omega) (by omega) (by omega)) ?_
            refine zr_iload X 3 dL_all_125 rfl ?_
            refine zr_iconst X (nI (3)) dL_all_127 (by decide +kernel) ?_
            refine zr_irem X (nI ((k % 3))) dL_all_128 (by decide +kernel) (pk_rem (by omega) (by omega) (by omega)) ?_
            refine zr_dVi (C := RX5) (ci := 5) [.int (nI (f)), .int (nI ((k / 3))), .int (nI ((k % 3)))] [.long (31 * (al2c μ (f) (al2b μ (f) (al2a μ (f) (al2 μ (f)) 11) 20) (k)))] X (zK_ok A D tc tF tL tM) (t_offsets E μ S (f := f) (by omega) (k := (k / 3)) (by omega) (i := (k % 3)) (by omega)) k_p356 k_462 k_463 k_1 k_464 hdX5_offsets ⟨rfl, rfl⟩ ⟨Nat.le_of_ble_eq_true rfl, Nat.le_of_ble_eq_true rfl⟩ (by omega) sc_0 rfl rfl rfl (Nat.le_of_ble_eq_true rfl) dL_all_129 ?_
            refine zr_i2l X dL_all_132 ?_
            refine zr_ladd X ((31 * (al2c μ (f) (al2b μ (f) (al2a μ (f) (al2 μ (f)) 11) 20) (k))) + ((offF μ (f) ((k / 3)) ((k % 3))).toInt64)) dL_all_133 rfl ?_
            refine zr_lstoren X [1, 0, 2, 3] [(0, .ref (ad (0))), (1, .long ((31 * (al2c μ (f) (al2b μ (f) (al2a μ (f) (al2 μ (f)) 11) 20) (k))) + ((offF μ (f) ((k / 3)) ((k % 3))).toInt64))), (3, .int (nI (f))), (4, .int (nI (k)))] dL_all_134 (by decide) rfl ?_
            refine zr_iinc X 3 (nI (k + 1)) [1, 2, 3, 0] [(0, .ref (ad (0))), (1, .long ((31 * (al2c μ (f) (al2b μ (f) (al2a μ (f) (al2 μ (f)) 11) 20) (k))) + ((offF μ (f) ((k / 3)) ((k % 3))).toInt64))), (3, .int (nI (f))), (4, .int (nI (k + 1)))] dL_all_135 rfl (zinc _) (by decide) rfl ?_
            refine zr_goto X 107 dL_all_138 (by decide) ?_
            exact ih107
        · intro v hv ih76
          refine zr_iload X 3 dL_all_76 rfl ?_
          refine zr_bipush X (nI (20)) dL_all_78 (by decide +kernel) ?_
          refine zr_icmp_ge X 104 dL_all_80 (by decide) (fun q => absurd q (nI_ge (by omega) (by omega))) (fun _ => ?_)
          refine zr_ldc2 X (31) dL_all_83 k_p441 ?_
          refine zr_lloadn X 1 dL_all_86 rfl ?_
          refine zr_lmul X (31 * (al2b μ (f) (al2a μ (f) (al2 μ (f)) 11) (v))) dL_all_87 rfl ?_
          refine zr_aloadn X 0 dL_all_88 rfl ?_
          refine zr_iloadn X 2 dL_all_89 rfl ?_
          refine zr_iload X 3 dL_all_90 rfl ?_
          refine zr_dVi (C := RX5) (ci := 5) [.int (nI (f)), .int (nI (v))] [.long (31 * (al2b μ (f) (al2a μ (f) (al2 μ (f)) 11) (v)))] X (zK_ok A D tc tF tL tM) (d_holds_ok E μ S (f := f) (by omega) (v := v) (by omega)) k_600 k_458 k_459 k_1 k_460 hdX5_holds ⟨rfl, rfl⟩ ⟨Nat.le_of_ble_eq_true rfl, Nat.le_of_ble_eq_true rfl⟩ (by omega) sc_0 rfl rfl rfl (Nat.le_of_ble_eq_true rfl) dL_all_92 ?_
          refine zr_i2l X dL_all_95 ?_
          refine zr_ladd X ((31 * (al2b μ (f) (al2a μ (f) (al2 μ (f)) 11) (v))) + ((μ (32 * f + v + 7)).toInt64)) dL_all_96 rfl ?_
          refine zr_lstoren X [1, 0, 2, 3] [(0, .ref (ad (0))), (1, .long ((31 * (al2b μ (f) (al2a μ (f) (al2 μ (f)) 11) (v))) + ((μ (32 * f + v + 7)).toInt64))), (3, .int (nI (f))), (4, .int (nI (v)))] dL_all_97 (by decide) rfl ?_
          refine zr_iinc X 3 (nI (v + 1)) [1, 2, 3, 0] [(0, .ref (ad (0))), (1, .long ((31 * (al2b μ (f) (al2a μ (f) (al2 μ (f)) 11) (v))) + ((μ (32 * f + v + 7)).toInt64))), (3, .int (nI (f))), (4, .int (nI (v + 1)))] dL_all_98 rfl (zinc _) (by decide) rfl ?_
          refine zr_goto X 76 dL_all_101 (by decide) ?_
          exact ih76
      · intro i hi ih45
        refine zr_iload X 3 dL_all_45 rfl ?_
        refine zr_bipush X (nI (11)) dL_all_47 (by decide +kernel) ?_
        refine zr_icmp_ge X 73 dL_all_49 (by decide) (fun q => absurd q (nI_ge (by omega) (by omega))) (fun _ => ?_)
        refine zr_ldc2 X (31) dL_all_52 k_p441 ?_
        refine zr_lloadn X 1 dL_all_55 rfl ?_
        refine zr_lmul X (31 * (al2a μ (f) (al2 μ (f)) (i))) dL_all_56 rfl ?_
        refine zr_aloadn X 0 dL_all_57 rfl ?_
        refine zr_iloadn X 2 dL_all_58 rfl ?_
        refine zr_iload X 3 dL_all_59 rfl ?_
        refine zr_dVi (C := RX5) (ci := 5) [.int (nI (f)), .int (nI (i))] [.long (31 * (al2a μ (f) (al2 μ (f)) (i)))] X (zK_ok A D tc tF tL tM) (t_firm E μ S (f := f) (by omega) (i := i) (by omega)) k_261 k_432 k_433 k_1 k_434 hdX5_firm ⟨rfl, rfl⟩ ⟨Nat.le_of_ble_eq_true rfl, Nat.le_of_ble_eq_true rfl⟩ (by omega) sc_0 rfl rfl rfl (Nat.le_of_ble_eq_true rfl) dL_all_61 ?_
        refine zr_i2l X dL_all_64 ?_
        refine zr_ladd X ((31 * (al2a μ (f) (al2 μ (f)) (i))) + ((firF μ (f) (i)).toInt64)) dL_all_65 rfl ?_
        refine zr_lstoren X [1, 0, 2, 3] [(0, .ref (ad (0))), (1, .long ((31 * (al2a μ (f) (al2 μ (f)) (i))) + ((firF μ (f) (i)).toInt64))), (3, .int (nI (f))), (4, .int (nI (i)))] dL_all_66 (by decide) rfl ?_
        refine zr_iinc X 3 (nI (i + 1)) [1, 2, 3, 0] [(0, .ref (ad (0))), (1, .long ((31 * (al2a μ (f) (al2 μ (f)) (i))) + ((firF μ (f) (i)).toInt64))), (3, .int (nI (f))), (4, .int (nI (i + 1)))] dL_all_67 rfl (zinc _) (by decide) rfl ?_
        refine zr_goto X 45 dL_all_70 (by decide) ?_
        exact ih45
  · intro i hi ih6
    refine zr_iloadn X 2 dL_all_6 rfl ?_
    refine zr_bipush X (nI (13)) dL_all_7 (by decide +kernel) ?_
    refine zr_icmp_ge X 31 dL_all_9 (by decide) (fun q => absurd q (nI_ge (by omega) (by omega))) (fun _ => ?_)
    refine zr_ldc2 X (31) dL_all_12 k_p441 ?_
    refine zr_lloadn X 1 dL_all_15 rfl ?_
    refine zr_lmul X (31 * (al1 μ (i))) dL_all_16 rfl ?_
    refine zr_aloadn X 0 dL_all_17 rfl ?_
    refine zr_iloadn X 2 dL_all_18 rfl ?_
    refine zr_dVi (C := RX5) (ci := 5) [.int (nI (i))] [.long (31 * (al1 μ (i)))] X (zK_ok A D tc tF tL tM) (t_count E μ S (i := i) (by omega)) k_535 k_509 k_510 k_1 k_511 hdX5_count ⟨rfl, rfl⟩ ⟨Nat.le_of_ble_eq_true rfl, Nat.le_of_ble_eq_true rfl⟩ (by omega) sc_0 rfl rfl rfl (Nat.le_of_ble_eq_true rfl) dL_all_19 ?_
    refine zr_i2l X dL_all_22 ?_
    refine zr_ladd X ((31 * (al1 μ (i))) + ((cntF μ (i)).toInt64)) dL_all_23 rfl ?_
    refine zr_lstoren X [1, 0, 2] [(0, .ref (ad (0))), (1, .long ((31 * (al1 μ (i))) + ((cntF μ (i)).toInt64))), (3, .int (nI (i)))] dL_all_24 (by decide) rfl ?_
    refine zr_iinc X 2 (nI (i + 1)) [1, 2, 0] [(0, .ref (ad (0))), (1, .long ((31 * (al1 μ (i))) + ((cntF μ (i)).toInt64))), (3, .int (nI (i + 1)))] dL_all_25 rfl (zinc _) (by decide) rfl ?_
    refine zr_goto X 6 dL_all_28 (by decide) ?_
    exact ih6
