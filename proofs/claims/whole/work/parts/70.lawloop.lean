section ZLL
variable {p : Program} {l : Launch} {e : Env} {s : State} {m : MethodId} {b : Nat} {below : List Frame} {meth : Method} {c : Code} {D : va_G} {tc : Nat → ClassId} {tF tL tM : Nat} {Q : State → Prop} {μ ν : Nat → Int32} {pc : Nat} {lv : List (Nat × Value)} {st : List Value} {L i : Nat} {xs : Nat → Int32}
theorem law_switch (X : zLX p s m c b D tc tF tL tM) (hX : va_X b L xs s s.heap) (hbl : b < s.heap.size) (hL : L ≤ 2560) {B : Nat} (hR : REL B μ ν) (hB : B ≤ 600) (hi : i + 5 ≤ L) (kk : ∀ u v, REL (B + 1) u v → zB p l e s m b below meth c D tc Q u v 915 (lwL b s.heap.size (nI i)) []) : zB p l e s m b below meth c D tc Q μ ν 26 (lwL b s.heap.size (nI i)) [] := by
  intro H L' ls a1 a2 bS h
  refine lv_aload_n X.1.1 X.1.2.1 dL_law_26 rfl (lv_at h 0 rfl) ?_
  refine lv_iload_n X.1.1 X.1.2.1 dL_law_27 rfl (lv_at h 3 rfl) ?_
  refine va_sld X.1.1 X.1.2.1 hX hbl (Nat.not_le.mpr hbl) bS (pk_in i L (by omega) rfl (by omega)) dL_law_28 ?_
  refine lv_bipush (v := 31) X.1.1 X.1.2.1 dL_law_29 (by decide +kernel) ?_
  refine lv_iand X.1.1 X.1.2.1 dL_law_31 ?_
  obtain ⟨j, hj, ej⟩ := pk_andE (xs (nI i).toNatClampNeg) (m := 31) 5 (by decide +kernel)
  rw [ej]
  by_cases q : 25 ≤ j
  · have ht : (nI j).toInt = (j : Int) := nI_toInt (by omega)
    exact lv_tableOut X.1.1 X.1.2.1 dL_law_32 (Or.inr (by rw [ht]; omega)) (tgt := 915) (by decide) (kk μ ν hR.up H L' ls a1 a2 bS h)
  have hj25 : j < 25 := by omega
  match j, hj25 with
  | 0, _ => exact lv_tableIn X.1.1 X.1.2.1 dL_law_32 (off := 116) (tgt := 148) (by decide +kernel) (by decide +kernel) (by decide +kernel) (by decide) (lc_addFirm X hX hbl hL hR hB hi kk H L' ls a1 a2 bS h)
  | 1, _ => exact lv_tableIn X.1.1 X.1.2.1 dL_law_32 (off := 129) (tgt := 161) (by decide +kernel) (by decide +kernel) (by decide +kernel) (by decide) (lc_set X hX hbl hL hR hB hi kk H L' ls a1 a2 bS h)
  | 2, _ => exact lv_tableIn X.1.1 X.1.2.1 dL_law_32 (off := 162) (tgt := 194) (by decide +kernel) (by decide +kernel) (by decide +kernel) (by decide) (lc_issue X hX hbl hL hR hB hi kk H L' ls a1 a2 bS h)
  | 3, _ => exact lv_tableIn X.1.1 X.1.2.1 dL_law_32 (off := 195) (tgt := 227) (by decide +kernel) (by decide +kernel) (by decide +kernel) (by decide) (lc_issueOffsets X hX hbl hL hR hB hi kk H L' ls a1 a2 bS h)
  | 4, _ => exact lv_tableIn X.1.1 X.1.2.1 dL_law_32 (off := 238) (tgt := 270) (by decide +kernel) (by decide +kernel) (by decide +kernel) (by decide) (lc_transfer X hX hbl hL hR hB hi kk H L' ls a1 a2 bS h)
  | 5, _ => exact lv_tableIn X.1.1 X.1.2.1 dL_law_32 (off := 291) (tgt := 323) (by decide +kernel) (by decide +kernel) (by decide +kernel) (by decide) (lc_transferOffsets X hX hbl hL hR hB hi kk H L' ls a1 a2 bS h)
  | 6, _ => exact lv_tableIn X.1.1 X.1.2.1 dL_law_32 (off := 344) (tgt := 376) (by decide +kernel) (by decide +kernel) (by decide +kernel) (by decide) (lc_cancel X hX hbl hL hR hB hi kk H L' ls a1 a2 bS h)
  | 7, _ => exact lv_tableIn X.1.1 X.1.2.1 dL_law_32 (off := 387) (tgt := 419) (by decide +kernel) (by decide +kernel) (by decide +kernel) (by decide) (lc_report X hX hbl hL hR hB hi kk H L' ls a1 a2 bS h)
  | 8, _ => exact lv_tableIn X.1.1 X.1.2.1 dL_law_32 (off := 420) (tgt := 452) (by decide +kernel) (by decide +kernel) (by decide +kernel) (by decide) (lc_verify X hX hbl hL hR hB hi kk H L' ls a1 a2 bS h)
  | 9, _ => exact lv_tableIn X.1.1 X.1.2.1 dL_law_32 (off := 443) (tgt := 475) (by decide +kernel) (by decide +kernel) (by decide +kernel) (by decide) (lc_surrender X hX hbl hL hR hB hi kk H L' ls a1 a2 bS h)
  | 10, _ => exact lv_tableIn X.1.1 X.1.2.1 dL_law_32 (off := 486) (tgt := 518) (by decide +kernel) (by decide +kernel) (by decide +kernel) (by decide) (lc_pass X hX hbl hL hR hB hi kk H L' ls a1 a2 bS h)
  | 11, _ => exact lv_tableIn X.1.1 X.1.2.1 dL_law_32 (off := 509) (tgt := 541) (by decide +kernel) (by decide +kernel) (by decide +kernel) (by decide) (lc_type X hX hbl hL hR hB hi kk H L' ls a1 a2 bS h)
  | 12, _ => exact lv_tableIn X.1.1 X.1.2.1 dL_law_32 (off := 534) (tgt := 566) (by decide +kernel) (by decide +kernel) (by decide +kernel) (by decide) (lc_clearText X hX hbl hL hR hB hi kk H L' ls a1 a2 bS h)
  | 13, _ => exact lv_tableIn X.1.1 X.1.2.1 dL_law_32 (off := 547) (tgt := 579) (by decide +kernel) (by decide +kernel) (by decide +kernel) (by decide) (lc_readTransfers X hX hbl hL hR hB hi kk H L' ls a1 a2 bS h)
  | 14, _ => exact lv_tableIn X.1.1 X.1.2.1 dL_law_32 (off := 560) (tgt := 592) (by decide +kernel) (by decide +kernel) (by decide +kernel) (by decide) (lc_undo X hX hbl hL hR hB hi kk H L' ls a1 a2 bS h)
  | 15, _ => exact lv_tableIn X.1.1 X.1.2.1 dL_law_32 (off := 573) (tgt := 605) (by decide +kernel) (by decide +kernel) (by decide +kernel) (by decide) (lc_keep X hX hbl hL hR hB hi kk H L' ls a1 a2 bS h)
  | 16, _ => exact lv_tableIn X.1.1 X.1.2.1 dL_law_32 (off := 586) (tgt := 618) (by decide +kernel) (by decide +kernel) (by decide +kernel) (by decide) (lc_restore X hX hbl hL hR hB hi kk H L' ls a1 a2 bS h)
  | 17, _ => exact lv_tableIn X.1.1 X.1.2.1 dL_law_32 (off := 599) (tgt := 631) (by decide +kernel) (by decide +kernel) (by decide +kernel) (by decide) (lc_firm X hX hbl hL hR hB hi kk H L' ls a1 a2 bS h)
  | 18, _ => exact lv_tableIn X.1.1 X.1.2.1 dL_law_32 (off := 632) (tgt := 664) (by decide +kernel) (by decide +kernel) (by decide +kernel) (by decide) (lc_holds X hX hbl hL hR hB hi kk H L' ls a1 a2 bS h)
  | 19, _ => exact lv_tableIn X.1.1 X.1.2.1 dL_law_32 (off := 665) (tgt := 697) (by decide +kernel) (by decide +kernel) (by decide +kernel) (by decide) (lc_offsets X hX hbl hL hR hB hi kk H L' ls a1 a2 bS h)
  | 20, _ => exact lv_tableIn X.1.1 X.1.2.1 dL_law_32 (off := 708) (tgt := 740) (by decide +kernel) (by decide +kernel) (by decide +kernel) (by decide) (lc_vintage X hX hbl hL hR hB hi kk H L' ls a1 a2 bS h)
  | 21, _ => exact lv_tableIn X.1.1 X.1.2.1 dL_law_32 (off := 741) (tgt := 773) (by decide +kernel) (by decide +kernel) (by decide +kernel) (by decide) (lc_grade X hX hbl hL hR hB hi kk H L' ls a1 a2 bS h)
  | 22, _ => exact lv_tableIn X.1.1 X.1.2.1 dL_law_32 (off := 774) (tgt := 806) (by decide +kernel) (by decide +kernel) (by decide +kernel) (by decide) (lc_holder X hX hbl hL hR hB hi kk H L' ls a1 a2 bS h)
  | 23, _ => exact lv_tableIn X.1.1 X.1.2.1 dL_law_32 (off := 807) (tgt := 839) (by decide +kernel) (by decide +kernel) (by decide +kernel) (by decide) (lc_plan X hX hbl hL hR hB hi kk H L' ls a1 a2 bS h)
  | 24, _ => exact lv_tableIn X.1.1 X.1.2.1 dL_law_32 (off := 860) (tgt := 892) (by decide +kernel) (by decide +kernel) (by decide +kernel) (by decide) (lc_count X hX hbl hL hR hB hi kk H L' ls a1 a2 bS h)
  | j + 25, hj => omega
theorem law_loop (X : zLX p s m c b D tc tF tL tM) (hX : va_X b L xs s s.heap) (hbl : b < s.heap.size) (hL : L ≤ 2560) (hend : ∀ (H : Heap) (locs : List Loc) (ls : Array Slot), va_S (fun q => s.heap.size ≤ q) s.heap H locs → W p l e room_1 s m #[Value.ref b] below meth c H locs 305 5407 Q (F0 m 922 ls [.int 1])) : ∀ n i B μ ν, L ≤ i + n → i = 5 * B → i ≤ L + 5 → REL B μ ν → zB p l e s m b below meth c D tc Q μ ν 18 (lwL b s.heap.size (nI i)) [] := by
  intro n
  induction n with
  | zero =>
    intro i B μ ν h1 h2 h3 hR H L' ls a1 a2 bS h
    refine lv_iload_n X.1.1 X.1.2.1 dL_law_18 rfl (lv_at h 3 rfl) ?_
    refine lv_aload_n X.1.1 X.1.2.1 dL_law_19 rfl (lv_at h 0 rfl) ?_
    refine va_slen X.1.1 X.1.2.1 hX hbl (Nat.not_le.mpr hbl) bS dL_law_20 ?_
    refine lv_iconst (v := nI 5) X.1.1 X.1.2.1 dL_law_21 (by decide +kernel) ?_
    refine lv_isub X.1.1 X.1.2.1 dL_law_22 ?_
    refine lv_icmp_gt (tgt := 921) X.1.1 X.1.2.1 dL_law_23 (by decide) (fun _ => ?_) (fun q => ?_)
    · refine lv_iconst (v := 1) X.1.1 X.1.2.1 dL_law_921 (by decide +kernel) ?_
      exact hend H L' ls bS
    · refine absurd ?_ q
      show nI L - nI 5 < nI i
      rw [Int32.lt_iff_toInt_lt, pk_sub_toInt (by omega) (by omega), nI_toInt (by omega)]
      omega
  | succ n ih =>
    intro i B μ ν h1 h2 h3 hR H L' ls a1 a2 bS h
    refine lv_iload_n X.1.1 X.1.2.1 dL_law_18 rfl (lv_at h 3 rfl) ?_
    refine lv_aload_n X.1.1 X.1.2.1 dL_law_19 rfl (lv_at h 0 rfl) ?_
    refine va_slen X.1.1 X.1.2.1 hX hbl (Nat.not_le.mpr hbl) bS dL_law_20 ?_
    refine lv_iconst (v := nI 5) X.1.1 X.1.2.1 dL_law_21 (by decide +kernel) ?_
    refine lv_isub X.1.1 X.1.2.1 dL_law_22 ?_
    refine lv_icmp_gt (tgt := 921) X.1.1 X.1.2.1 dL_law_23 (by decide) (fun _ => ?_) (fun q => ?_)
    · refine lv_iconst (v := 1) X.1.1 X.1.2.1 dL_law_921 (by decide +kernel) ?_
      exact hend H L' ls bS
    · have hi : i + 5 ≤ L := by
        rcases Nat.lt_or_ge L (i + 5) with q2 | q2
        · refine absurd ?_ q
          show nI L - nI 5 < nI i
          rw [Int32.lt_iff_toInt_lt, pk_sub_toInt (by omega) (by omega), nI_toInt (by omega)]
          omega
        · exact q2
      refine law_switch X hX hbl hL hR (by omega) hi (fun u v hR2 => ?_) H L' ls a1 a2 bS h
      intro H2 L2 ls2 c1 c2 bS2 g
      refine lv_iinc (v := nI (i + 5)) (lv' := [(3, .int (nI (i + 5))), (0, .ref b), (1, .ref s.heap.size), (2, .ref (s.heap.size + 299))]) X.1.1 X.1.2.1 dL_law_915 g (k := 3) rfl (nI_add i 5) (by decide) rfl (fun ls3 g3 => ?_)
      refine lv_goto (tgt := 18) X.1.1 X.1.2.1 dL_law_918 (by decide) ?_
      exact ih (i + 5) (B + 1) u v (by omega) (by omega) (by omega) hR2 H2 L2 ls3 c1 c2 bS2 (lv_sub g3 [1, 2, 3, 0] rfl)
variable {cells slots : Nat} {ss : List va_E}
theorem zl_new (X : zLX p s m c b D tc tF tL tM) {ci idx Nf : Nat} {C : String} {T : u_T} {ty0 : Nat → FieldType} (fs : List Value) (d : decode code pc = .ok (.new idx, 3)) (hc : vwCl[ci]? = some (C, T, Nf)) (hin : ∀ w ∈ u_ws C T Nf, w ∈ zT) (hty0 : ∀ j, j < Nf → parseFieldDescriptor (T j).2.2.1 = some (ty0 j)) (hcl : Cond.classLink RL idx C ∈ zT) (hinst : Cond.instantiable C Nf ∈ zT) (hini : Cond.initialized C ∈ zT) (hfs : ∀ j, j < Nf → defaultValue (ty0 j) = vp_V fs j) (hcells : cells + 1 ≤ room_1.cells) (hslots : slots + Nf ≤ room_1.slots) (kk : zJ p l e room_1 s m #[Value.ref b] below meth c D vwCl s.heap.size 4 Q (cells + 1) (slots + Nf) (ss ++ [.inr (ci, fs)]) (pc + 3) lv (.ref (s.heap.size + ss.length) :: st)) : zJ p l e room_1 s m #[Value.ref b] below meth c D vwCl s.heap.size 4 Q cells slots ss pc lv st := by
  intro H L ls a bS h
  have hKn := X.2.1.1.1 ci _ hc
  refine W.newcK X.1.1 X.1.2.1 X.1.2.2.2.1 (X.1.2.2.2.2 _ hcl) (X.1.2.2.2.2 _ hinst) (X.1.2.2.2.2 _ hini) rfl d hcells hslots hKn.2.1 a.1 fun H1 kC hkC e1 z1 o1 => ?_
  exact kk H1 L ls (zA0_push a z1 o1 ⟨_, hc, (u_born ty0 X.1.2.2.2.2 hin hKn hkC e1 hty0).to hfs⟩) ⟨by have := bS.1; have := a.1; omega, fun q h1 h2 => (o1 q (by have := bS.1; have := a.1; omega)).trans (bS.2.1 q h1 h2), bS.2.2⟩ h
theorem zl_dup (X : zLX p s m c b D tc tF tL tM) {x : Nat} (d : decode code pc = .ok (.dup, 1)) (kk : zJ p l e room_1 s m #[Value.ref b] below meth c D vwCl s.heap.size 4 Q cells slots ss (pc + 1) lv (.ref x :: .ref x :: st)) : zJ p l e room_1 s m #[Value.ref b] below meth c D vwCl s.heap.size 4 Q cells slots ss pc lv (.ref x :: st) :=
  fun H L ls a bS h => lv_dup X.1.1 X.1.2.1 d rfl (kk H L ls a bS h)
theorem zl_astore (X : zLX p s m c b D tc tF tL tM) {k : Fin 4} {x : Nat} (lv1 : List (Nat × Value)) (d : decode code pc = .ok (.astore_n k, 1)) (hk : (k : Nat) < 4) (h1 : ((k : Nat), Value.ref x) :: lv.filter (fun q => !(q.1 == (k : Nat)) && !(q.1 + 1 == (k : Nat) && q.2.category == 2)) = lv1) (kk : zJ p l e room_1 s m #[Value.ref b] below meth c D vwCl s.heap.size 4 Q cells slots ss (pc + 1) lv1 st) : zJ p l e room_1 s m #[Value.ref b] below meth c D vwCl s.heap.size 4 Q cells slots ss pc lv (.ref x :: st) :=
  fun H L ls a bS h => lv_astore_n X.1.1 X.1.2.1 d rfl h hk h1 (fun ls1 h2 => kk H L ls1 a bS h2)
theorem zl_init (X : zLX p s m c b D tc tF tL tM) {K' : State → Heap → Prop} {idx maxL mc ms : Nat} {y : MethodName} {bytes : ByteArray} {rm : Room} {x : va_E} {post : List va_E} (n : Nat) (ss0 : List va_E) (hlen : ss0.length = n) (hKK : ∀ (U : State) (g : JFrame) (mk : MethodId) (a : Array Value) (H : Heap), K' U H → K' (U.calling g mk a) H) (hto : ∀ U H, zK2 (fun q => s.heap.size ≤ q) D tc tF tL tM U H → K' U H) (hM : zMk l y bytes maxL rm K' D vwCl (s.heap.size + n) [x] post mc ms) (hss : ss = ss0 ++ [x]) (h1 : Cond.methodLink RL idx y ∈ zT) (h2 : Cond.instanceMethod y ∈ zT) (h4 : Cond.initialized y.cls ∈ zT) (h5 : Cond.code y bytes maxL none ∈ zT) (hyn : y.name = "<init>")
    (hd : y.cls ≠ "java/lang/invoke/MethodHandle" ∧ y.cls ≠ "java/lang/invoke/VarHandle" ∧ (parseMethodDescriptor y.desc).map (fun d => d.parameters.length) = some 0) (hrc : rm.cells = mc ∧ rm.slots = ms) (hR : rm.frames + 1 ≤ room_1.frames ∧ 8 + (maxL + 11) + rm.locals ≤ room_1.locals) (hroom : (st.map fun v => v.category).sum ≤ 8) (d : decode code pc = .ok (.invokespecial idx, 3)) (hf : cells + mc ≤ room_1.cells ∧ slots + ms ≤ room_1.slots)
    (kk : zJ p l e room_1 s m #[Value.ref b] below meth c D vwCl s.heap.size 4 Q (cells + mc) (slots + ms) (ss0 ++ post) (pc + 3) lv st) : zJ p l e room_1 s m #[Value.ref b] below meth c D vwCl s.heap.size 4 Q cells slots ss pc lv (.ref (s.heap.size + n) :: st) := by
  subst hlen
  subst hss
  intro H L ls a bS h
  have hts := X.1.2.2.2.2
  have hlast : zA0 D vwCl (s.heap.size + ss0.length) [x] H := by
    refine ⟨by rw [a.1, List.length_append, Nat.add_assoc], fun i z hz => ?_⟩
    have hi : i < 1 := (List.getElem?_eq_some_iff.mp hz).1
    have e : i = 0 := by omega
    subst e
    have := a.2 ss0.length x (by rw [List.getElem?_append_right (Nat.le_refl _), Nat.sub_self]; rfl)
    cases hz
    exact this
  refine va_callv (va_runI (As := []) (rest := st) X.1 hM (cwI 0 hts (zGoodC h5) rfl hrc.1 hrc.2 (hts _ h4) (hts _ h1) (hts _ h2) hyn hd hR) ⟨fun a2 U g mk q => ?_, fun U hU hWm => ⟨rfl, by rw [hU]; exact hlast, by rw [hU]; exact hto _ _ (X.warm U H hWm bS.1 bS.2.1)⟩⟩ rfl rfl h.1 rfl (lv_room hroom) d hf) bS (fun q _ hq => by omega) (fun q hq => by omega) (fun u t H1 L1 ht _ _ hB hz hk hS => kk H1 L1 ls ?_ hS h)
  · obtain ⟨q1, q2, q3⟩ := q
    exact ⟨q1, q2, hKK U g mk a2 _ q3⟩
  · have hB' : zA0 D vwCl (s.heap.size + ss0.length) post H1 := by rw [← ht]; exact hB
    refine ⟨by rw [hB'.1, List.length_append, Nat.add_assoc], fun i z hz => ?_⟩
    by_cases hl : i < ss0.length
    · rw [List.getElem?_append_left hl] at hz
      have hi := a.2 i z (by rw [List.getElem?_append_left hl]; exact hz)
      exact hi.kept (hk _ (by rw [a.1, List.length_append]; omega) (by omega))
    · rw [List.getElem?_append_right (by omega)] at hz
      have := hB'.2 _ z hz
      rw [show s.heap.size + ss0.length + (i - ss0.length) = s.heap.size + i by omega] at this
      exact this
theorem fs_Book : ∀ j, j < 7 → defaultValue (tyX5 j) = vp_V [.null, .null, .null, .null, .null, .null, .int 0] j := by
  intro j hj
  rcases (show j = 0 ∨ j = 1 ∨ j = 2 ∨ j = 3 ∨ j = 4 ∨ j = 5 ∨ j = 6 by omega) with rfl | rfl | rfl | rfl | rfl | rfl | rfl <;> rfl
theorem fs_Model : ∀ j, j < 11 → defaultValue (tyX6 j) = vp_V [.null, .int 0, .int 0, .null, .int 0, .null, .null, .int 0, .int 0, .int 0, .null] j := by
  intro j hj
  rcases (show j = 0 ∨ j = 1 ∨ j = 2 ∨ j = 3 ∨ j = 4 ∨ j = 5 ∨ j = 6 ∨ j = 7 ∨ j = 8 ∨ j = 9 ∨ j = 10 by omega) with rfl | rfl | rfl | rfl | rfl | rfl | rfl | rfl | rfl | rfl | rfl <;> rfl
set_option maxRecDepth 100000 in
theorem bk_len (tc : Nat → ClassId) (a0 : Nat) : (bkCells tc a0).length = 299 := rfl
set_option maxRecDepth 100000 in
set_option maxHeartbeats 4000000 in
theorem law_walks (X : zLX p s m c b D tc tF tL tM) (hX : va_X b L xs s s.heap) (hbl : b < s.heap.size) (hL : L ≤ 2560) (hend : ∀ (H : Heap) (locs : List Loc) (ls : Array Slot), va_S (fun q => s.heap.size ≤ q) s.heap H locs → W p l e room_1 s m #[Value.ref b] below meth c H locs 305 5407 Q (F0 m 922 ls [.int 1])) : zJ p l e room_1 s m #[Value.ref b] below meth c D vwCl s.heap.size 4 Q 0 0 [] 0 [(0, .ref b)] [] := by
  refine zl_new X (ci := 5) [.null, .null, .null, .null, .null, .null, .int 0] dL_law_0 rfl inX5 tyX5_ok k_10 k_11 k_1 fs_Book (Nat.le_of_ble_eq_true rfl) (Nat.le_of_ble_eq_true rfl) ?_
  refine zl_dup X dL_law_3 ?_
  refine zl_init X 0 [] rfl (zK2_ok (fun q => s.heap.size + 0 ≤ q) D tc tF tL tM).1 (fun U H h => h) (k_Book (s.heap.size + 0)) rfl k_12 k_13 k_1 k_14 rfl hdX5_init.2 ⟨rfl, rfl⟩ ⟨Nat.le_of_ble_eq_true rfl, Nat.le_of_ble_eq_true rfl⟩ (Nat.le_of_ble_eq_true rfl) dL_law_4 ⟨Nat.le_of_ble_eq_true rfl, Nat.le_of_ble_eq_true rfl⟩ ?_
  refine zl_astore X (k := 1) [(1, .ref s.heap.size), (0, .ref b)] dL_law_7 (by decide) rfl ?_
  refine zj_ss (ss1 := bkCells tc s.heap.size) rfl ?_
  refine zl_new X (ci := 6) [.null, .int 0, .int 0, .null, .int 0, .null, .null, .int 0, .int 0, .int 0, .null] dL_law_8 rfl inX6 tyX6_ok k_533 k_534 k_7 fs_Model (Nat.le_of_ble_eq_true rfl) (Nat.le_of_ble_eq_true rfl) ?_
  rw [bk_len]
  refine zl_dup X dL_law_11 ?_
  refine zl_init X 299 (bkCells tc s.heap.size) (bk_len _ _) (zK_ok (fun q => s.heap.size + 299 ≤ q) D tc tF tL tM).1 (fun U H h => zK_narrow h.1 (fun q hq => by omega)) (k_Model (s.heap.size + 299)) rfl k_535 k_536 k_7 k_537 rfl hdX6_init.2 ⟨rfl, rfl⟩ ⟨Nat.le_of_ble_eq_true rfl, Nat.le_of_ble_eq_true rfl⟩ (Nat.le_of_ble_eq_true rfl) dL_law_12 ⟨Nat.le_of_ble_eq_true rfl, Nat.le_of_ble_eq_true rfl⟩ ?_
  refine zj_ss (ss1 := bkCells tc s.heap.size ++ moCells tc (s.heap.size + 299)) rfl ?_
  refine zl_astore X (k := 2) [(2, .ref (s.heap.size + 299)), (1, .ref s.heap.size), (0, .ref b)] dL_law_15 (by decide) rfl ?_
  intro H L1 ls a bS h
  refine lv_iconst (v := nI 0) X.1.1 X.1.2.1 dL_law_16 (by decide +kernel) ?_
  refine lv_istore_n (lv' := [(3, .int (nI 0)), (2, .ref (s.heap.size + 299)), (1, .ref s.heap.size), (0, .ref b)]) X.1.1 X.1.2.1 dL_law_17 rfl h (by decide) rfl (fun ls1 h1 => ?_)
  have hl := bk_len tc s.heap.size
  have w1 : zW D vwCl tc (fun k => s.heap.size + k) 299 shC mu0 H := bk_W (fun i x hx => a.2 i x (by rw [List.getElem?_append_left (List.getElem?_eq_some_iff.mp hx).1]; exact hx))
  have w2 : zW D vwCl tc (fun k => s.heap.size + 299 + k) 6 shR nu0 H := mo_W ⟨by rw [a.1, List.length_append, hl]; omega, fun i x hx => by
    have q := a.2 (299 + i) x (by rw [List.getElem?_append_right (by omega), hl, Nat.add_sub_cancel_left]; exact hx)
    rw [← Nat.add_assoc] at q
    exact q⟩
  exact law_loop X hX hbl hL hend L 0 0 mu0 nu0 (by omega) rfl (by omega) REL_0 H L1 ls1 w1 w2 bS (lv_sub h1 [3, 2, 1, 0] rfl)

end ZLL
