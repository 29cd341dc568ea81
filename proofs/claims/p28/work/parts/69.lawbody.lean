/-! THE LAW'S BODY -/
theorem cnt_eqr {u v : Nat → Int32} (e : eqr u v) {n : Nat} (h : n ≤ cnt v) : n ≤ cnt u := by
  unfold cnt at *
  rw [e 1 (by omega)]
  exact h
theorem act_neg {B : Nat} {μ u : Nat → Int32} {a : Int32} (h : ACT B μ a u) (ha : ¬ 0 ≤ a) : eqr u μ := by
  rcases h.2.2 with ⟨_, q⟩ | ⟨q, _⟩
  · exact q
  · exact absurd q ha
theorem act_pos {B : Nat} {μ u : Nat → Int32} {a : Int32} (h : ACT B μ a u) (ha : 0 ≤ a) : TOP μ u ∧ cnt μ ≤ cnt u := by
  rcases h.2.2 with ⟨q, _⟩ | ⟨_, q1, q2⟩
  · exact absurd q (nlt_of_le ha)
  · exact ⟨q1, q2⟩
theorem c_of {B c : Nat} {u : Nat → Int32} {m ro z n : Nat} (S : clsS u m c ro z) (h : n ≤ cnt u) : n ≤ c := by
  have := S.2.2.2.1
  rw [show cnt u = c from zto S.2.2.1 (by omega)] at h
  exact h
set_option maxHeartbeats 4000000 in
set_option maxRecDepth 100000 in
theorem l_law_t {pP : Program} {l : Launch} {eE : Env} {sS : State} {mM : MethodId} {aS : Array Value} {bL : List Frame} {mT : Method} {cO : Code} {A : Nat → Prop} {D : va_G} {tc : Nat → ClassId} {ad : Nat → Nat} {tF tL tM b : Nat} {Q : State → Prop} (E : zN 299 A ad) (X : zX pP sS mM aS mT cO A D vwCl ad 299 8 (zK A D tc tF tL tM) (zTY tc) owC shC code RL ret) {B : Nat} (hB : B ≤ 600) {v : Nat → Int32} (h : INV B v) (hc : 2 ≤ cnt v) {t : Nat} (ht : t < 24) {z y g7 : Int32} {w5 : Int64} (kk : ∀ v2, INV (B + 1) v2 → 2 ≤ cnt v2 → zG pP l eE room_1 sS mM aS bL mT cO A D vwCl tc ad 299 shC 8 Q v2 195 [(0, .ref b), (1, .ref (ad (0))), (2, .int (z)), (3, .int (nI (t))), (4, .int (y)), (5, .long (w5)), (7, .int (g7))] []) : zG pP l eE room_1 sS mM aS bL mT cO A D vwCl tc ad 299 shC 8 Q v 160 [(0, .ref b), (1, .ref (ad (0))), (2, .int (z)), (3, .int (nI (t))), (4, .int (y)), (5, .long (w5)), (7, .int (g7))] [] := by
  obtain ⟨m, c, bb, ro, zz, kf, S, I, N, H⟩ := h.bundle
  have hc2 := c_of (B := B) S hc
  refine zr_iloadn X 3 dL_law_160 rfl ?_
  refine zr_iconst X (nI (3)) dL_law_161 (by decide +kernel) ?_
  refine zr_irem X (nI (((t) % 3))) dL_law_162 (by decide +kernel) (pk_rem (by omega) (by omega) (by omega)) ?_
  refine zr_iconst X (nI (1)) dL_law_163 (by decide +kernel) ?_
  refine zr_icmp_ne X 174 dL_law_164 (by decide) (fun h164 => ?_) (fun h164 => ?_)
  · refine zr_iloadn X 3 dL_law_174 rfl ?_
    refine zr_iconst X (nI (3)) dL_law_175 (by decide +kernel) ?_
    refine zr_irem X (nI (((t) % 3))) dL_law_176 (by decide +kernel) (pk_rem (by omega) (by omega) (by omega)) ?_
    refine zr_iconst X (nI (2)) dL_law_177 (by decide +kernel) ?_
    refine zr_icmp_ne X 195 dL_law_178 (by decide) (fun h178 => ?_) (fun h178 => ?_)
    · exact kk _ (h.mono (Nat.le_succ B)) hc
    · refine zr_aloadn X 1 dL_law_181 rfl ?_
      refine zr_iload X 4 dL_law_182 rfl ?_
      refine zr_bipush X (nI (7)) dL_law_184 (by decide +kernel) ?_
      refine zr_ishr X dL_law_186 ?_
      refine zr_cSi [.ref (ad (0)), .int (y >>> ((nI (7)) &&& 31))] [] X (zK_ok A D tc tF tL tM) (l_isPlanned E v h hB S I N H (by omega) (y >>> ((nI (7)) &&& 31))) k_755 k_p451 k_0 k_p452 hdL_isPlanned ⟨rfl, rfl⟩ ⟨Nat.le_of_ble_eq_true rfl, Nat.le_of_ble_eq_true rfl⟩ rfl rfl (Nat.le_of_ble_eq_true rfl) dL_law_187 (fun z18 u hq18 => ?_)
      obtain ⟨rfl, hi2, he2, hk2⟩ := hq18
      refine zr_if_ne X 195 dL_law_190 (by decide) (fun _ => ?_) (fun q => absurd q (nI_ne0 (by omega) (by omega)))
      exact kk _ hi2 (cnt_eqr he2 hc)
  · refine zr_aloadn X 1 dL_law_167 rfl ?_
    refine zr_dSi [.ref (ad (0))] [] X (zK_ok A D tc tF tL tM) (l_isSound E v hB S I N) k_751 k_p447 k_0 k_p448 hdL_isSound ⟨rfl, rfl⟩ ⟨Nat.le_of_ble_eq_true rfl, Nat.le_of_ble_eq_true rfl⟩ rfl rfl (Nat.le_of_ble_eq_true rfl) dL_law_168 ?_
    refine zr_if_eq X 193 dL_law_171 (by decide) (fun q => absurd q (nI_ne0 (by omega) (by omega))) (fun _ => ?_)
    refine zr_iloadn X 3 dL_law_174 rfl ?_
    refine zr_iconst X (nI (3)) dL_law_175 (by decide +kernel) ?_
    refine zr_irem X (nI (((t) % 3))) dL_law_176 (by decide +kernel) (pk_rem (by omega) (by omega) (by omega)) ?_
    refine zr_iconst X (nI (2)) dL_law_177 (by decide +kernel) ?_
    refine zr_icmp_ne X 195 dL_law_178 (by decide) (fun h178 => ?_) (fun h178 => ?_)
    · exact kk _ (h.mono (Nat.le_succ B)) hc
    · refine zr_aloadn X 1 dL_law_181 rfl ?_
      refine zr_iload X 4 dL_law_182 rfl ?_
      refine zr_bipush X (nI (7)) dL_law_184 (by decide +kernel) ?_
      refine zr_ishr X dL_law_186 ?_
      refine zr_cSi [.ref (ad (0)), .int (y >>> ((nI (7)) &&& 31))] [] X (zK_ok A D tc tF tL tM) (l_isPlanned E v h hB S I N H (by omega) (y >>> ((nI (7)) &&& 31))) k_755 k_p451 k_0 k_p452 hdL_isPlanned ⟨rfl, rfl⟩ ⟨Nat.le_of_ble_eq_true rfl, Nat.le_of_ble_eq_true rfl⟩ rfl rfl (Nat.le_of_ble_eq_true rfl) dL_law_187 (fun z35 u hq35 => ?_)
      obtain ⟨rfl, hi2, he2, hk2⟩ := hq35
      refine zr_if_ne X 195 dL_law_190 (by decide) (fun _ => ?_) (fun q => absurd q (nI_ne0 (by omega) (by omega)))
      exact kk _ hi2 (cnt_eqr he2 hc)
set_option maxHeartbeats 4000000 in
set_option maxRecDepth 100000 in
theorem l_law_i {pP : Program} {l : Launch} {eE : Env} {sS : State} {mM : MethodId} {aS : Array Value} {bL : List Frame} {mT : Method} {cO : Code} {A : Nat → Prop} {D : va_G} {tc : Nat → ClassId} {ad : Nat → Nat} {tF tL tM b : Nat} {Q : State → Prop} (E : zN 299 A ad) (X : zX pP sS mM aS mT cO A D vwCl ad 299 8 (zK A D tc tF tL tM) (zTY tc) owC shC code RL ret) {L : Nat} {xs : Nat → Int32} (X2 : zX pP sS mM aS mT cO A D vwCl ad 299 8 (KX A D tc tF tL tM b L xs) (zTY tc) owC shC code RL ret) (hbA : ¬ A b) (hL : L ≤ 260) {B : Nat} (hB : B ≤ 500) {u : Nat → Int32} (h : INV B u) (hc : 2 ≤ cnt u) {t : Nat} (ht : t < 24) {z : Int32} (kk : ∀ v2, INV (B + 1 + 1) v2 → 2 ≤ cnt v2 → ∀ (y g7 : Int32) (w5 : Int64), zG pP l eE room_1 sS mM aS bL mT cO A D vwCl tc ad 299 shC 8 Q v2 195 [(0, .ref b), (1, .ref (ad (0))), (2, .int (z)), (3, .int (nI (t))), (4, .int (y)), (5, .long (w5)), (7, .int (g7))] []) : zG pP l eE room_1 sS mM aS bL mT cO A D vwCl tc ad 299 shC 8 Q u 86 [(0, .ref b), (1, .ref (ad (0))), (2, .int (z)), (3, .int (nI (t)))] [] := by
  have hB : B ≤ 600 := by omega
  obtain ⟨m, c, bb, ro, zz, kf, S, I, N, H⟩ := h.bundle
  have hc2 := c_of (B := B) S hc
  refine zr_aloadn X 0 dL_law_86 rfl ?_
  refine zr_iconst X (nI (1)) dL_law_87 (by decide +kernel) ?_
  refine zr_iloadn X 3 dL_law_88 rfl ?_
  refine zr_iadd X (nI (t + 1)) dL_law_89 ((nI_add _ _).trans (congrArg nI (by omega))) ?_
  refine zr_cSi [.ref b, .int (nI (t + 1))] [] X2 (KX_ok D tc tF tL tM L xs hbA) (l_cell E u hbA hL (k := t + 1) (by omega)) k_727 k_p431 k_0 k_p432 hdL_cell ⟨rfl, rfl⟩ ⟨Nat.le_of_ble_eq_true rfl, Nat.le_of_ble_eq_true rfl⟩ rfl rfl (Nat.le_of_ble_eq_true rfl) dL_law_90 (fun z4 u4 hq4 => ?_)
  rw [hq4]
  refine zr_istore X [1, 2, 3, 4, 0] [(0, .ref b), (1, .ref (ad (0))), (2, .int (z)), (3, .int (nI (t))), (4, .int (z4))] dL_law_93 (by decide) rfl ?_
  refine zr_aloadn X 1 dL_law_95 rfl ?_
  refine zr_dSl [.ref (ad (0))] [] X (zK_ok A D tc tF tL tM) (l_all E u S I.2.2.2.2.1 I.2.2.2.2.2.1 I.2.2.2.2.2.2.1) k_648 k_p438 k_0 k_p439 hdL_all ⟨rfl, rfl⟩ ⟨Nat.le_of_ble_eq_true rfl, Nat.le_of_ble_eq_true rfl⟩ rfl rfl (Nat.le_of_ble_eq_true rfl) dL_law_96 ?_
  refine zr_lstore X [1, 2, 3, 4, 5, 0] [(0, .ref b), (1, .ref (ad (0))), (2, .int (z)), (3, .int (nI (t))), (4, .int (z4)), (5, .long (AL u c))] dL_law_99 (by decide) rfl ?_
  refine zr_aloadn X 1 dL_law_101 rfl ?_
  refine zr_iload X 4 dL_law_102 rfl ?_
  refine zr_cSi [.ref (ad (0)), .int (z4)] [] X (zK_ok A D tc tF tL tM) (l_acts E u h hB S (by omega) (z4)) k_747 k_p479 k_0 k_p480 hdL_acts ⟨rfl, rfl⟩ ⟨Nat.le_of_ble_eq_true rfl, Nat.le_of_ble_eq_true rfl⟩ rfl rfl (Nat.le_of_ble_eq_true rfl) dL_law_104 (fun a2 u2 hq => ?_)
  refine zr_istore X [1, 2, 3, 4, 5, 6, 0] [(0, .ref b), (1, .ref (ad (0))), (2, .int (z)), (3, .int (nI (t))), (4, .int (z4)), (5, .long (AL u c)), (7, .int (a2))] dL_law_107 (by decide) rfl ?_
  refine zr_iload X 6 dL_law_109 rfl ?_
  refine zr_if_ge X 126 dL_law_111 (by decide) (fun h111 => ?_) (fun h111 => ?_)
  · have hT := act_pos hq h111
    refine zr_iload X 6 dL_law_126 rfl ?_
    refine zr_if_lt X 160 dL_law_128 (by decide) (fun q => absurd q (nlt_of_le h111)) (fun _ => ?_)
    refine zr_iload X 4 dL_law_131 rfl ?_
    refine zr_bipush X (nI (28)) dL_law_133 (by decide +kernel) ?_
    refine zr_ishr X dL_law_135 ?_
    refine zr_iconst X (nI (3)) dL_law_136 (by decide +kernel) ?_
    refine zr_iand X dL_law_137 ?_
    refine zr_if_ne X 160 dL_law_138 (by decide) (fun h138 => ?_) (fun h138 => ?_)
    · exact l_law_t E X (by omega) hq.1 (Nat.le_trans hc hT.2) ht (fun v2 q1 q2 => kk v2 q1 q2 _ _ _)
    · refine zr_aloadn X 1 dL_law_141 rfl ?_
      refine zr_cVi (C := RX5) (ci := 5) [] [] X (zK_ok A D tc tF tL tM) (p_undo E u2 hq.1 hT.1) k_p302 k_416 k_417 k_1 k_418 hdX5_undo ⟨rfl, rfl⟩ ⟨Nat.le_of_ble_eq_true rfl, Nat.le_of_ble_eq_true rfl⟩ (by omega) sc_0 rfl rfl rfl (Nat.le_of_ble_eq_true rfl) dL_law_142 (fun a3 u3 hq3 => ?_)
      obtain ⟨hz3, hi3, he3, hk3⟩ := hq3
      refine zr_if_lt X 158 dL_law_145 (by decide) (fun q => absurd q (nlt_of_le hz3)) (fun _ => ?_)
      refine zr_aloadn X 1 dL_law_148 rfl ?_
      refine zr_dSl [.ref (ad (0))] [] X (zK_ok A D tc tF tL tM) (q_all2 E u S hi3 he3) k_648 k_p438 k_0 k_p439 hdL_all ⟨rfl, rfl⟩ ⟨Nat.le_of_ble_eq_true rfl, Nat.le_of_ble_eq_true rfl⟩ rfl rfl (Nat.le_of_ble_eq_true rfl) dL_law_149 ?_
      refine zr_lload X 5 dL_law_152 rfl ?_
      refine zr_lcmp X dL_law_154 ?_
      refine zr_if_eq X 160 dL_law_155 (by decide) (fun _ => ?_) (fun q => absurd (lg_same _) q)
      exact l_law_t E X (by omega) hi3 (cnt_eqr he3 hc) ht (fun v2 q1 q2 => kk v2 q1 q2 _ _ _)
  · have he := act_neg hq h111
    refine zr_aloadn X 1 dL_law_114 rfl ?_
    refine zr_dSl [.ref (ad (0))] [] X (zK_ok A D tc tF tL tM) (q_all2 E u S hq.1 he) k_648 k_p438 k_0 k_p439 hdL_all ⟨rfl, rfl⟩ ⟨Nat.le_of_ble_eq_true rfl, Nat.le_of_ble_eq_true rfl⟩ rfl rfl (Nat.le_of_ble_eq_true rfl) dL_law_115 ?_
    refine zr_lload X 5 dL_law_118 rfl ?_
    refine zr_lcmp X dL_law_120 ?_
    refine zr_if_eq X 126 dL_law_121 (by decide) (fun _ => ?_) (fun q => absurd (lg_same _) q)
    refine zr_iload X 6 dL_law_126 rfl ?_
    refine zr_if_lt X 160 dL_law_128 (by decide) (fun _ => ?_) (fun q => absurd (Int32.not_le.mp h111) q)
    exact l_law_t E X (by omega) hq.1 (cnt_eqr he hc) ht (fun v2 q1 q2 => kk v2 q1 q2 _ _ _)
set_option maxHeartbeats 4000000 in
set_option maxRecDepth 100000 in
theorem l_law_e {pP : Program} {l : Launch} {eE : Env} {sS : State} {mM : MethodId} {aS : Array Value} {bL : List Frame} {mT : Method} {cO : Code} {A : Nat → Prop} {D : va_G} {tc : Nat → ClassId} {ad : Nat → Nat} {tF tL tM b : Nat} {Q : State → Prop} (E : zN 299 A ad) (X : zX pP sS mM aS mT cO A D vwCl ad 299 8 (zK A D tc tF tL tM) (zTY tc) owC shC code RL ret) {B : Nat} (hB : B ≤ 500) {u : Nat → Int32} (h : INV B u) (hc : 2 ≤ cnt u) {z : Int32} (hend : ∀ u lv, zG pP l eE room_1 sS mM aS bL mT cO A D vwCl tc ad 299 shC 8 Q u 388 lv [.int (nI 1)]) : zG pP l eE room_1 sS mM aS bL mT cO A D vwCl tc ad 299 shC 8 Q u 201 [(0, .ref b), (1, .ref (ad (0))), (2, .int (z)), (3, .int (nI (24)))] [] := by
  obtain ⟨m, c, bb, ro, zz, kf, S, I, N, H⟩ := h.bundle
  have hm2 := S.2.1
  refine zr_aloadn X 1 dL_law_201 rfl ?_
  refine zr_dSl [.ref (ad (0))] [] X (zK_ok A D tc tF tL tM) (l_all E u S I.2.2.2.2.1 I.2.2.2.2.2.1 I.2.2.2.2.2.2.1) k_648 k_p438 k_0 k_p439 hdL_all ⟨rfl, rfl⟩ ⟨Nat.le_of_ble_eq_true rfl, Nat.le_of_ble_eq_true rfl⟩ rfl rfl (Nat.le_of_ble_eq_true rfl) dL_law_202 ?_
  refine zr_lstoren X [1, 2, 3, 0] [(0, .ref b), (1, .ref (ad (0))), (2, .int (z)), (3, .long (AL u c))] dL_law_205 (by decide) rfl ?_
  refine zr_aloadn X 1 dL_law_206 rfl ?_
  refine zr_cVi (C := RX5) (ci := 5) [] [] X (zK_ok A D tc tF tL tM) (p_keep E u h) k_771 k_424 k_425 k_1 k_426 hdX5_keep ⟨rfl, rfl⟩ ⟨Nat.le_of_ble_eq_true rfl, Nat.le_of_ble_eq_true rfl⟩ (by omega) sc_0 rfl rfl rfl (Nat.le_of_ble_eq_true rfl) dL_law_207 (fun z5 u1 hq5 => ?_)
  obtain ⟨rfl, hi1, he1, hk1⟩ := hq5
  obtain ⟨m1, c1, bb1, ro1, zz1, kf1, S1, I1, N1, H1⟩ := hi1.bundle
  refine zr_aloadn X 1 dL_law_210 rfl ?_
  refine zr_iconst X (nI (0)) dL_law_211 (by decide +kernel) ?_
  refine zr_dVi (C := RX5) (ci := 5) [.int (nI (0))] [.int (u 0)] X (zK_ok A D tc tF tL tM) (t_count E u1 S1 (i := 0) (by omega)) k_535 k_509 k_510 k_1 k_511 hdX5_count ⟨rfl, rfl⟩ ⟨Nat.le_of_ble_eq_true rfl, Nat.le_of_ble_eq_true rfl⟩ (by omega) sc_0 rfl rfl rfl (Nat.le_of_ble_eq_true rfl) dL_law_212 ?_
  refine zr_icmp_eq X 220 dL_law_215 (by decide) (fun _ => ?_) (fun q => absurd ((he1 0 (by omega)).symm) q)
  refine zr_aloadn X 1 dL_law_220 rfl ?_
  refine zr_bipush X (nI (13)) dL_law_221 (by decide +kernel) ?_
  refine zr_cVi (C := RX5) (ci := 5) [.int (nI (13))] [] X (zK_ok A D tc tF tL tM) (a_pass hi1 (by omega) (nI (13)) D tc ad A tF tL tM E) k_585 k_358 k_359 k_1 k_360 hdX5_pass ⟨rfl, rfl⟩ ⟨Nat.le_of_ble_eq_true rfl, Nat.le_of_ble_eq_true rfl⟩ (by omega) sc_0 rfl rfl rfl (Nat.le_of_ble_eq_true rfl) dL_law_223 (fun a2 u2 hq2 => ?_)
  have hk2 := hk1.kep hq2.2.1
  refine zr_pop X dL_law_226 rfl ?_
  refine zr_aloadn X 1 dL_law_227 rfl ?_
  refine zr_iconst X (nI (0)) dL_law_228 (by decide +kernel) ?_
  refine zr_bipush X (nI (77)) dL_law_229 (by decide +kernel) ?_
  refine zr_cVi (C := RX5) (ci := 5) [.int (nI (0)), .int (nI (77))] [] X (zK_ok A D tc tF tL tM) (a_set hq2.1 (by omega) (nI (0)) (nI (77)) D tc ad A tF tL tM E) k_p250 k_262 k_263 k_1 k_264 hdX5_set ⟨rfl, rfl⟩ ⟨Nat.le_of_ble_eq_true rfl, Nat.le_of_ble_eq_true rfl⟩ (by omega) sc_0 rfl rfl rfl (Nat.le_of_ble_eq_true rfl) dL_law_231 (fun a3 u3 hq3 => ?_)
  have hk3 := hk2.kep hq3.2.1
  refine zr_pop X dL_law_234 rfl ?_
  refine zr_aloadn X 1 dL_law_235 rfl ?_
  refine zr_cVi (C := RX5) (ci := 5) [] [] X (zK_ok A D tc tF tL tM) (a_addFirm hq3.1 (by omega)  D tc ad A tF tL tM E) k_427 k_238 k_239 k_1 k_240 hdX5_addFirm ⟨rfl, rfl⟩ ⟨Nat.le_of_ble_eq_true rfl, Nat.le_of_ble_eq_true rfl⟩ (by omega) sc_0 rfl rfl rfl (Nat.le_of_ble_eq_true rfl) dL_law_236 (fun a4 u4 hq4 => ?_)
  have hk4 := hk3.kep hq4.2.1
  refine zr_pop X dL_law_239 rfl ?_
  refine zr_aloadn X 1 dL_law_240 rfl ?_
  refine zr_cVi (C := RX5) (ci := 5) [] [] X (zK_ok A D tc tF tL tM) (p_restore E u4 hq4.1 hk4) k_p315 k_428 k_429 k_1 k_430 hdX5_restore ⟨rfl, rfl⟩ ⟨Nat.le_of_ble_eq_true rfl, Nat.le_of_ble_eq_true rfl⟩ (by omega) sc_0 rfl rfl rfl (Nat.le_of_ble_eq_true rfl) dL_law_241 (fun z28 u5 hq28 => ?_)
  obtain ⟨rfl, hi5, he5, hk5, ht5⟩ := hq28
  obtain ⟨m5, c5, bb5, ro5, zz5, kf5, S5, I5, N5, H5⟩ := hi5.bundle
  refine zr_aloadn X 1 dL_law_244 rfl ?_
  refine zr_iconst X (nI (0)) dL_law_245 (by decide +kernel) ?_
  refine zr_dVi (C := RX5) (ci := 5) [.int (nI (0))] [.int (u 0)] X (zK_ok A D tc tF tL tM) (t_count E u5 S5 (i := 0) (by omega)) k_535 k_509 k_510 k_1 k_511 hdX5_count ⟨rfl, rfl⟩ ⟨Nat.le_of_ble_eq_true rfl, Nat.le_of_ble_eq_true rfl⟩ (by omega) sc_0 rfl rfl rfl (Nat.le_of_ble_eq_true rfl) dL_law_246 ?_
  refine zr_icmp_ne X 387 dL_law_249 (by decide) (fun q => absurd ((he5 0 (by omega)).symm) q) (fun _ => ?_)
  refine zr_aloadn X 1 dL_law_252 rfl ?_
  refine zr_dSl [.ref (ad (0))] [] X (zK_ok A D tc tF tL tM) (q_all2 E u S hi5 he5) k_648 k_p438 k_0 k_p439 hdL_all ⟨rfl, rfl⟩ ⟨Nat.le_of_ble_eq_true rfl, Nat.le_of_ble_eq_true rfl⟩ rfl rfl (Nat.le_of_ble_eq_true rfl) dL_law_253 ?_
  refine zr_lloadn X 3 dL_law_256 rfl ?_
  refine zr_lcmp X dL_law_257 ?_
  refine zr_if_ne X 387 dL_law_258 (by decide) (fun q => absurd (lg_same _) q) (fun _ => ?_)
  refine zr_aloadn X 1 dL_law_261 rfl ?_
  refine zr_cVi (C := RX5) (ci := 5) [] [] X (zK_ok A D tc tF tL tM) (p_undo E u5 hi5 ht5) k_p302 k_416 k_417 k_1 k_418 hdX5_undo ⟨rfl, rfl⟩ ⟨Nat.le_of_ble_eq_true rfl, Nat.le_of_ble_eq_true rfl⟩ (by omega) sc_0 rfl rfl rfl (Nat.le_of_ble_eq_true rfl) dL_law_262 (fun a6 u6 hq6 => ?_)
  obtain ⟨hz6, hi6, he6, hk6⟩ := hq6
  have hk6b := hk5.kep hk6
  refine zr_if_lt X 387 dL_law_265 (by decide) (fun q => absurd q (nlt_of_le hz6)) (fun _ => ?_)
  refine zr_aloadn X 1 dL_law_268 rfl ?_
  refine zr_cVi (C := RX5) (ci := 5) [] [] X (zK_ok A D tc tF tL tM) (p_restore E u6 hi6 hk6b) k_p315 k_428 k_429 k_1 k_430 hdX5_restore ⟨rfl, rfl⟩ ⟨Nat.le_of_ble_eq_true rfl, Nat.le_of_ble_eq_true rfl⟩ (by omega) sc_0 rfl rfl rfl (Nat.le_of_ble_eq_true rfl) dL_law_269 (fun z46 u7 hq46 => ?_)
  obtain ⟨rfl, hi7, he7, hk7, ht7⟩ := hq46
  obtain ⟨m7, c7, bb7, ro7, zz7, kf7, S7, I7, N7, H7⟩ := hi7.bundle
  have hc7 := c_of (B := B) S7 (cnt_eqr he7 hc)
  have h78 := S7.2.2.2.1
  refine zr_if_lt X 387 dL_law_272 (by decide) (fun q => absurd q (by rw [S.1]; exact nI_pos (by omega))) (fun _ => ?_)
  refine zr_aloadn X 1 dL_law_275 rfl ?_
  refine zr_dSl [.ref (ad (0))] [] X (zK_ok A D tc tF tL tM) (q_all2 E u S hi7 he7) k_648 k_p438 k_0 k_p439 hdL_all ⟨rfl, rfl⟩ ⟨Nat.le_of_ble_eq_true rfl, Nat.le_of_ble_eq_true rfl⟩ rfl rfl (Nat.le_of_ble_eq_true rfl) dL_law_276 ?_
  refine zr_lloadn X 3 dL_law_279 rfl ?_
  refine zr_lcmp X dL_law_280 ?_
  refine zr_if_ne X 387 dL_law_281 (by decide) (fun q => absurd (lg_same _) q) (fun _ => ?_)
  refine zr_aloadn X 1 dL_law_284 rfl ?_
  refine zr_bipush X (nI (20)) dL_law_285 (by decide +kernel) ?_
  refine zr_iconst X (nI (0)) dL_law_287 (by decide +kernel) ?_
  refine zr_dVi (C := RX5) (ci := 5) [.int (nI (20)), .int (nI (0))] [] X (zK_ok A D tc tF tL tM) (d_vintage_u E u7 S7 (nzin (by omega) (by omega)) (nI 0)) k_p364 k_467 k_468 k_1 k_469 hdX5_vintage ⟨rfl, rfl⟩ ⟨Nat.le_of_ble_eq_true rfl, Nat.le_of_ble_eq_true rfl⟩ (by omega) sc_0 rfl rfl rfl (Nat.le_of_ble_eq_true rfl) dL_law_288 ?_
  refine zr_iconst X (-1) dL_law_291 (by decide +kernel) ?_
  refine zr_icmp_ne X 387 dL_law_292 (by decide) (fun q => absurd (rfl) q) (fun _ => ?_)
  refine zr_aloadn X 1 dL_law_295 rfl ?_
  refine zr_iconst X (nI (0)) dL_law_296 (by decide +kernel) ?_
  refine zr_bipush X (nI (7)) dL_law_297 (by decide +kernel) ?_
  refine zr_dVi (C := RX5) (ci := 5) [.int (nI (0)), .int (nI (7))] [] X (zK_ok A D tc tF tL tM) (d_vintage_b E u7 S7 (v := 0) (by omega) (nzin (by omega) (by omega))) k_p364 k_467 k_468 k_1 k_469 hdX5_vintage ⟨rfl, rfl⟩ ⟨Nat.le_of_ble_eq_true rfl, Nat.le_of_ble_eq_true rfl⟩ (by omega) sc_0 rfl rfl rfl (Nat.le_of_ble_eq_true rfl) dL_law_299 ?_
  refine zr_bipush X (-2) dL_law_302 (by decide +kernel) ?_
  refine zr_icmp_ne X 387 dL_law_304 (by decide) (fun q => absurd (rfl) q) (fun _ => ?_)
  refine zr_aloadn X 1 dL_law_307 rfl ?_
  refine zr_iconst X (nI (3)) dL_law_308 (by decide +kernel) ?_
  refine zr_iconst X (nI (0)) dL_law_309 (by decide +kernel) ?_
  refine zr_dVi (C := RX5) (ci := 5) [.int (nI (3)), .int (nI (0))] [] X (zK_ok A D tc tF tL tM) (d_grade_u E u7 S7 (nzin (by omega) (by omega)) (nI 0)) k_291 k_485 k_486 k_1 k_487 hdX5_grade ⟨rfl, rfl⟩ ⟨Nat.le_of_ble_eq_true rfl, Nat.le_of_ble_eq_true rfl⟩ (by omega) sc_0 rfl rfl rfl (Nat.le_of_ble_eq_true rfl) dL_law_310 ?_
  refine zr_iconst X (-1) dL_law_313 (by decide +kernel) ?_
  refine zr_icmp_ne X 387 dL_law_314 (by decide) (fun q => absurd (rfl) q) (fun _ => ?_)
  refine zr_aloadn X 1 dL_law_317 rfl ?_
  refine zr_iconst X (nI (0)) dL_law_318 (by decide +kernel) ?_
  refine zr_iconst X (nI (3)) dL_law_319 (by decide +kernel) ?_
  refine zr_dVi (C := RX5) (ci := 5) [.int (nI (0)), .int (nI (3))] [] X (zK_ok A D tc tF tL tM) (d_grade_b E u7 S7 (g := 0) (by omega) (nzin (by omega) (by omega))) k_291 k_485 k_486 k_1 k_487 hdX5_grade ⟨rfl, rfl⟩ ⟨Nat.le_of_ble_eq_true rfl, Nat.le_of_ble_eq_true rfl⟩ (by omega) sc_0 rfl rfl rfl (Nat.le_of_ble_eq_true rfl) dL_law_320 ?_
  refine zr_bipush X (-2) dL_law_323 (by decide +kernel) ?_
  refine zr_icmp_ne X 387 dL_law_325 (by decide) (fun q => absurd (rfl) q) (fun _ => ?_)
  refine zr_aloadn X 1 dL_law_328 rfl ?_
  refine zr_iconst X (nI (0)) dL_law_329 (by decide +kernel) ?_
  refine zr_iconst X (-1) dL_law_330 (by decide +kernel) ?_
  refine zr_dVi (C := RX5) (ci := 5) [.int (nI (0)), .int (-1)] [] X (zK_ok A D tc tF tL tM) (d_holder_b E u7 S7 (v := 0) (by omega) (y := -1) (by decide +kernel)) k_629 k_493 k_494 k_1 k_495 hdX5_holder ⟨rfl, rfl⟩ ⟨Nat.le_of_ble_eq_true rfl, Nat.le_of_ble_eq_true rfl⟩ (by omega) sc_0 rfl rfl rfl (Nat.le_of_ble_eq_true rfl) dL_law_331 ?_
  refine zr_bipush X (-2) dL_law_334 (by decide +kernel) ?_
  refine zr_icmp_ne X 387 dL_law_336 (by decide) (fun q => absurd (rfl) q) (fun _ => ?_)
  refine zr_aloadn X 1 dL_law_339 rfl ?_
  refine zr_iconst X (-1) dL_law_340 (by decide +kernel) ?_
  refine zr_iconst X (nI (0)) dL_law_341 (by decide +kernel) ?_
  refine zr_dVi (C := RX5) (ci := 5) [.int (-1), .int (nI (0))] [] X (zK_ok A D tc tF tL tM) (d_holder_u E u7 S7 (x := -1) (nzin_neg (by omega) (by decide +kernel)) (nI 0)) k_629 k_493 k_494 k_1 k_495 hdX5_holder ⟨rfl, rfl⟩ ⟨Nat.le_of_ble_eq_true rfl, Nat.le_of_ble_eq_true rfl⟩ (by omega) sc_0 rfl rfl rfl (Nat.le_of_ble_eq_true rfl) dL_law_342 ?_
  refine zr_iconst X (-1) dL_law_345 (by decide +kernel) ?_
  refine zr_icmp_ne X 387 dL_law_346 (by decide) (fun q => absurd (rfl) q) (fun _ => ?_)
  refine zr_aloadn X 1 dL_law_349 rfl ?_
  refine zr_iconst X (nI (0)) dL_law_350 (by decide +kernel) ?_
  refine zr_iconst X (nI (0)) dL_law_351 (by decide +kernel) ?_
  refine zr_iconst X (nI (3)) dL_law_352 (by decide +kernel) ?_
  refine zr_dVi (C := RX5) (ci := 5) [.int (nI (0)), .int (nI (0)), .int (nI (3))] [] X (zK_ok A D tc tF tL tM) (d_offsets_b E u7 S7 (f := 0) (by omega) (g := 0) (by omega) (nzin (by omega) (by omega))) k_p356 k_462 k_463 k_1 k_464 hdX5_offsets ⟨rfl, rfl⟩ ⟨Nat.le_of_ble_eq_true rfl, Nat.le_of_ble_eq_true rfl⟩ (by omega) sc_0 rfl rfl rfl (Nat.le_of_ble_eq_true rfl) dL_law_353 ?_
  refine zr_bipush X (-2) dL_law_356 (by decide +kernel) ?_
  refine zr_icmp_ne X 387 dL_law_358 (by decide) (fun q => absurd (rfl) q) (fun _ => ?_)
  refine zr_aloadn X 1 dL_law_361 rfl ?_
  refine zr_bipush X (nI (8)) dL_law_362 (by decide +kernel) ?_
  refine zr_iconst X (nI (0)) dL_law_364 (by decide +kernel) ?_
  refine zr_dVi (C := RX5) (ci := 5) [.int (nI (8)), .int (nI (0))] [] X (zK_ok A D tc tF tL tM) (d_firm_u E u7 S7 (nzfm (by omega) (by omega)) (nI 0)) k_261 k_432 k_433 k_1 k_434 hdX5_firm ⟨rfl, rfl⟩ ⟨Nat.le_of_ble_eq_true rfl, Nat.le_of_ble_eq_true rfl⟩ (by omega) sc_0 rfl rfl rfl (Nat.le_of_ble_eq_true rfl) dL_law_365 ?_
  refine zr_iconst X (-1) dL_law_368 (by decide +kernel) ?_
  refine zr_icmp_ne X 387 dL_law_369 (by decide) (fun q => absurd (rfl) q) (fun _ => ?_)
  refine zr_aloadn X 1 dL_law_372 rfl ?_
  refine zr_bipush X (nI (15)) dL_law_373 (by decide +kernel) ?_
  refine zr_dVi (C := RX5) (ci := 5) [.int (nI (15))] [] X (zK_ok A D tc tF tL tM) (d_count_b E u7 S7 (nzin (by omega) (by omega))) k_535 k_509 k_510 k_1 k_511 hdX5_count ⟨rfl, rfl⟩ ⟨Nat.le_of_ble_eq_true rfl, Nat.le_of_ble_eq_true rfl⟩ (by omega) sc_0 rfl rfl rfl (Nat.le_of_ble_eq_true rfl) dL_law_375 ?_
  refine zr_bipush X (-2) dL_law_378 (by decide +kernel) ?_
  refine zr_icmp_ne X 387 dL_law_380 (by decide) (fun q => absurd (rfl) q) (fun _ => ?_)
  refine zr_iconst X (nI (1)) dL_law_383 (by decide +kernel) ?_
  refine zr_goto X 388 dL_law_384 (by decide) ?_
  exact hend _ _
set_option maxHeartbeats 4000000 in
set_option maxRecDepth 100000 in
theorem l_law_l {pP : Program} {l : Launch} {eE : Env} {sS : State} {mM : MethodId} {aS : Array Value} {bL : List Frame} {mT : Method} {cO : Code} {A : Nat → Prop} {D : va_G} {tc : Nat → ClassId} {ad : Nat → Nat} {tF tL tM b : Nat} {Q : State → Prop} (E : zN 299 A ad) (X : zX pP sS mM aS mT cO A D vwCl ad 299 8 (zK A D tc tF tL tM) (zTY tc) owC shC code RL ret) {L : Nat} {xs : Nat → Int32} (X2 : zX pP sS mM aS mT cO A D vwCl ad 299 8 (KX A D tc tF tL tM b L xs) (zTY tc) owC shC code RL ret) (hbA : ¬ A b) (hL : L ≤ 260) {u : Nat → Int32} (h : INV 12 u) (hc : 2 ≤ cnt u) {z : Int32} (hend : ∀ u lv, zG pP l eE room_1 sS mM aS bL mT cO A D vwCl tc ad 299 shC 8 Q u 388 lv [.int (nI 1)]) : zG pP l eE room_1 sS mM aS bL mT cO A D vwCl tc ad 299 shC 8 Q u 80 [(0, .ref b), (1, .ref (ad (0))), (2, .int (z)), (3, .int (nI (0)))] [] := by
  refine zr_forM X (24) (fun t u => INV (12 + 2 * t) u ∧ 2 ≤ cnt u) (fun t => [(0, .ref b), (1, .ref (ad (0))), (2, .int (z)), (3, .int (nI (t)))]) [] (⟨h, hc⟩) rfl ?_ ?_
  · intro u2 hg2
    refine zr_iloadn X 3 dL_law_80 rfl ?_
    refine zr_bipush X (nI (24)) dL_law_81 (by decide +kernel) ?_
    refine zr_icmp_ge X 201 dL_law_83 (by decide) (fun _ => ?_) (fun q => absurd (zq_le (by omega) (by omega)) q)
    exact l_law_e E X (by omega) hg2.1 hg2.2 hend
  · intro t u7 ht hg7 ih80
    refine zr_iloadn X 3 dL_law_80 rfl ?_
    refine zr_bipush X (nI (24)) dL_law_81 (by decide +kernel) ?_
    refine zr_icmp_ge X 201 dL_law_83 (by decide) (fun q => absurd q (nI_ge (by omega) (by omega))) (fun _ => ?_)
    refine l_law_i E X X2 hbA hL (by omega) hg7.1 hg7.2 ht (fun v2 q1 q2 y g7 w5 => ?_)
    refine zr_iinc X 3 (nI (t + 1)) [1, 2, 3, 0, 4, 5, 6] [(0, .ref b), (1, .ref (ad (0))), (2, .int (z)), (3, .int (nI (t + 1))), (4, .int (y)), (5, .long (w5)), (7, .int (g7))] dL_law_195 rfl (zinc _) (by decide) rfl ?_
    refine zr_goto X 80 dL_law_198 (by decide) ?_
    refine zr_drop X [0, 1, 2, 3] [(0, .ref b), (1, .ref (ad (0))), (2, .int (z)), (3, .int (nI (t + 1)))] rfl ?_
    exact ih80 _ ⟨by rw [show 12 + 2 * (t + 1) = 12 + 2 * t + 1 + 1 by omega]; exact q1, q2⟩
set_option maxHeartbeats 4000000 in
set_option maxRecDepth 100000 in
theorem l_law_s {pP : Program} {l : Launch} {eE : Env} {sS : State} {mM : MethodId} {aS : Array Value} {bL : List Frame} {mT : Method} {cO : Code} {A : Nat → Prop} {D : va_G} {tc : Nat → ClassId} {ad : Nat → Nat} {tF tL tM b : Nat} {Q : State → Prop} (E : zN 299 A ad) (X : zX pP sS mM aS mT cO A D vwCl ad 299 8 (zK A D tc tF tL tM) (zTY tc) owC shC code RL ret) {z : Int32} (kk : ∀ u f, INV 12 u → 2 ≤ cnt u → zG pP l eE room_1 sS mM aS bL mT cO A D vwCl tc ad 299 shC 8 Q u 78 [(0, .ref b), (1, .ref (ad (0))), (2, .int (z)), (3, .int (nI (f)))] []) : ∀ d f u, f + d = 4 → INV (3 * f) u → f ≤ cnt u → zG pP l eE room_1 sS mM aS bL mT cO A D vwCl tc ad 299 shC 8 Q u 16 [(0, .ref b), (1, .ref (ad (0))), (2, .int (z)), (3, .int (nI (f)))] [] := by
  intro d
  induction d with
  | zero =>
    intro f u hfd h hc
    refine zr_iloadn X 3 dL_law_16 rfl ?_
    refine zr_iconst X (nI (2)) dL_law_17 (by decide +kernel) ?_
    refine zr_iloadn X 2 dL_law_18 rfl ?_
    refine zr_iconst X (nI (3)) dL_law_19 (by decide +kernel) ?_
    refine zr_low X (3) k_312 dL_law_20 [.int (nI (2)), .int (nI (f))] (by omega) (by omega) ⟨Nat.le_of_ble_eq_true rfl, Nat.le_of_ble_eq_true rfl, Nat.le_of_ble_eq_true rfl⟩ (fun j20 hj20 => ?_)
    refine zr_iadd X (nI (j20 + 2)) dL_law_23 ((nI_add _ _).trans (congrArg nI (by omega))) ?_
    refine zr_icmp_ge X 78 dL_law_24 (by decide) (fun _ => ?_) (fun q => absurd (zq_le (by omega) (by omega)) q)
    exact kk _ _ (h.mono (by omega)) (by omega)
  | succ d ih =>
    intro f u hfd h hc
    refine zr_iloadn X 3 dL_law_16 rfl ?_
    refine zr_iconst X (nI (2)) dL_law_17 (by decide +kernel) ?_
    refine zr_iloadn X 2 dL_law_18 rfl ?_
    refine zr_iconst X (nI (3)) dL_law_19 (by decide +kernel) ?_
    refine zr_low X (3) k_312 dL_law_20 [.int (nI (2)), .int (nI (f))] (by omega) (by omega) ⟨Nat.le_of_ble_eq_true rfl, Nat.le_of_ble_eq_true rfl, Nat.le_of_ble_eq_true rfl⟩ (fun j20 hj20 => ?_)
    refine zr_iadd X (nI (j20 + 2)) dL_law_23 ((nI_add _ _).trans (congrArg nI (by omega))) ?_
    refine zr_icmp_ge X 78 dL_law_24 (by decide) (fun h24 => ?_) (fun h24 => ?_)
    · have h24b := (nI_leI (by omega) (by omega)).mp h24
      exact kk _ _ (h.mono (by omega)) (by omega)
    · have h24b : ¬ _ := fun q => h24 ((nI_leI (by omega) (by omega)).mpr q)
      refine zr_aloadn X 1 dL_law_27 rfl ?_
      refine zr_cVi (C := RX5) (ci := 5) [] [] X (zK_ok A D tc tF tL tM) (p_addFirm E u h (by omega)) k_427 k_238 k_239 k_1 k_240 hdX5_addFirm ⟨rfl, rfl⟩ ⟨Nat.le_of_ble_eq_true rfl, Nat.le_of_ble_eq_true rfl⟩ (by omega) sc_0 rfl rfl rfl (Nat.le_of_ble_eq_true rfl) dL_law_28 (fun a1 u1 hq1 => ?_)
      obtain ⟨hi1, hc1⟩ := hq1
      refine zr_pop X dL_law_31 rfl ?_
      refine zr_aloadn X 1 dL_law_32 rfl ?_
      refine zr_iloadn X 3 dL_law_33 rfl ?_
      refine zr_iconst X (nI (1)) dL_law_34 (by decide +kernel) ?_
      refine zr_iloadn X 2 dL_law_35 rfl ?_
      refine zr_iconst X (nI (3)) dL_law_36 (by decide +kernel) ?_
      refine zr_iloadn X 3 dL_law_37 rfl ?_
      refine zr_imul X (nI (3 * f)) dL_law_38 ((pk_mul _ _).trans (congrArg nI (by omega))) ?_
      refine zr_ishr X dL_law_39 ?_
      refine zr_sipush X (nI (900)) dL_law_40 (by decide +kernel) ?_
      refine zr_low X (900) k_312 dL_law_43 [.int (nI (1)), .int (nI (f)), .ref (ad (0))] (by omega) (by omega) ⟨Nat.le_of_ble_eq_true rfl, Nat.le_of_ble_eq_true rfl, Nat.le_of_ble_eq_true rfl⟩ (fun j43 hj43 => ?_)
      refine zr_iadd X (nI (j43 + 1)) dL_law_46 ((nI_add _ _).trans (congrArg nI (by omega))) ?_
      refine zr_cVi (C := RX5) (ci := 5) [.int (nI (f)), .int (nI (j43 + 1))] [] X (zK_ok A D tc tF tL tM) (a_issue hi1 (by omega) (nI (f)) (nI (j43 + 1)) D tc ad A tF tL tM E) k_p258 k_270 k_271 k_1 k_272 hdX5_issue ⟨rfl, rfl⟩ ⟨Nat.le_of_ble_eq_true rfl, Nat.le_of_ble_eq_true rfl⟩ (by omega) sc_0 rfl rfl rfl (Nat.le_of_ble_eq_true rfl) dL_law_47 (fun a2 u2 hq2 => ?_)
      obtain ⟨hi2, hc2⟩ := ACT.inv hq2
      refine zr_pop X dL_law_50 rfl ?_
      refine zr_aloadn X 1 dL_law_51 rfl ?_
      refine zr_iloadn X 3 dL_law_52 rfl ?_
      refine zr_iconst X (nI (1)) dL_law_53 (by decide +kernel) ?_
      refine zr_iloadn X 2 dL_law_54 rfl ?_
      refine zr_iconst X (nI (4)) dL_law_55 (by decide +kernel) ?_
      refine zr_iconst X (nI (3)) dL_law_56 (by decide +kernel) ?_
      refine zr_iloadn X 3 dL_law_57 rfl ?_
      refine zr_imul X (nI (3 * f)) dL_law_58 ((pk_mul _ _).trans (congrArg nI (by omega))) ?_
      refine zr_iadd X (nI (3 * f + 4)) dL_law_59 ((nI_add _ _).trans (congrArg nI (by omega))) ?_
      refine zr_ishr X dL_law_60 ?_
      refine zr_sipush X (nI (900)) dL_law_61 (by decide +kernel) ?_
      refine zr_low X (900) k_312 dL_law_64 [.int (nI (1)), .int (nI (f)), .ref (ad (0))] (by omega) (by omega) ⟨Nat.le_of_ble_eq_true rfl, Nat.le_of_ble_eq_true rfl, Nat.le_of_ble_eq_true rfl⟩ (fun j64 hj64 => ?_)
      refine zr_iadd X (nI (j64 + 1)) dL_law_67 ((nI_add _ _).trans (congrArg nI (by omega))) ?_
      refine zr_cVi (C := RX5) (ci := 5) [.int (nI (f)), .int (nI (j64 + 1))] [] X (zK_ok A D tc tF tL tM) (a_report hi2 (by omega) (nI (f)) (nI (j64 + 1)) D tc ad A tF tL tM E) k_699 k_318 k_319 k_1 k_320 hdX5_report ⟨rfl, rfl⟩ ⟨Nat.le_of_ble_eq_true rfl, Nat.le_of_ble_eq_true rfl⟩ (by omega) sc_0 rfl rfl rfl (Nat.le_of_ble_eq_true rfl) dL_law_68 (fun a3 u3 hq3 => ?_)
      obtain ⟨hi3, hc3⟩ := ACT.inv hq3
      refine zr_pop X dL_law_71 rfl ?_
      refine zr_iinc X 3 (nI (f + 1)) [1, 2, 3, 0] [(0, .ref b), (1, .ref (ad (0))), (2, .int (z)), (3, .int (nI (f + 1)))] dL_law_72 rfl (zinc _) (by decide) rfl ?_
      refine zr_goto X 16 dL_law_75 (by decide) ?_
      exact ih (f + 1) _ (by omega) (by rw [show 3 * (f + 1) = 3 * f + 1 + 1 + 1 by omega]; exact hi3) (by omega)
set_option maxHeartbeats 4000000 in
set_option maxRecDepth 100000 in
theorem l_law {pP : Program} {l : Launch} {eE : Env} {sS : State} {mM : MethodId} {aS : Array Value} {bL : List Frame} {mT : Method} {cO : Code} {A : Nat → Prop} {D : va_G} {tc : Nat → ClassId} {ad : Nat → Nat} {tF tL tM b : Nat} {Q : State → Prop} (E : zN 299 A ad) (X : zX pP sS mM aS mT cO A D vwCl ad 299 8 (zK A D tc tF tL tM) (zTY tc) owC shC code RL ret) {L : Nat} {xs : Nat → Int32} (X2 : zX pP sS mM aS mT cO A D vwCl ad 299 8 (KX A D tc tF tL tM b L xs) (zTY tc) owC shC code RL ret) (hbA : ¬ A b) (hL : L ≤ 260) (hend : ∀ u lv, zG pP l eE room_1 sS mM aS bL mT cO A D vwCl tc ad 299 shC 8 Q u 388 lv [.int (nI 1)]) : zG pP l eE room_1 sS mM aS bL mT cO A D vwCl tc ad 299 shC 8 Q mu0 8 [(0, .ref b), (1, .ref (ad (0)))] [] := by
  refine zr_aloadn X 0 dL_law_8 rfl ?_
  refine zr_iconst X (nI (0)) dL_law_9 (by decide +kernel) ?_
  refine zr_cSi [.ref b, .int (nI (0))] [] X2 (KX_ok D tc tF tL tM L xs hbA) (l_cell E mu0 hbA hL (k := 0) (by omega)) k_727 k_p431 k_0 k_p432 hdL_cell ⟨rfl, rfl⟩ ⟨Nat.le_of_ble_eq_true rfl, Nat.le_of_ble_eq_true rfl⟩ rfl rfl (Nat.le_of_ble_eq_true rfl) dL_law_10 (fun z2 u2 hq2 => ?_)
  rw [hq2]
  refine zr_istoren X [1, 2, 0] [(0, .ref b), (1, .ref (ad (0))), (2, .int (z2))] dL_law_13 (by decide) rfl ?_
  refine zr_iconst X (nI (0)) dL_law_14 (by decide +kernel) ?_
  refine zr_istoren X [1, 2, 3, 0] [(0, .ref b), (1, .ref (ad (0))), (2, .int (z2)), (3, .int (nI (0)))] dL_law_15 (by decide) rfl ?_
  refine l_law_s E X (fun u f h hc => ?_) 4 0 mu0 rfl INV_0 (Nat.zero_le _)
  refine zr_iconst X (nI (0)) dL_law_78 (by decide +kernel) ?_
  refine zr_istoren X [1, 2, 3, 0] [(0, .ref b), (1, .ref (ad (0))), (2, .int (z2)), (3, .int (nI (0)))] dL_law_79 (by decide) rfl ?_
  exact l_law_l E X X2 hbA hL h hc hend
