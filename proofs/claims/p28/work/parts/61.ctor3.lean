section ZJ6
variable {p : Program} {l : Launch} {e : Env} {R : Room} {s : State} {m : MethodId} {args : Array Value} {below : List Frame} {meth : Method} {c : Code} {D : va_G} {cl : List vw_C} {a0 nL : Nat} {Q : State → Prop} {cells slots : Nat} {ss : List va_E} {pc : Nat} {lv : List (Nat × Value)} {st : List Value}
variable {K : State → Heap → Prop} {tys : List (ClassId × FieldType)} {cc : ByteArray} {own : String}
theorem zj_init2 {tc : Nat → ClassId} {tF tL tM idx maxL mc ms : Nat} {y : MethodName} {bytes : ByteArray} {rm : Room} {x : va_E} {post : List va_E} (ss0 : List va_E) (X : zY p s m args meth c D cl a0 nL (zK2 (fun q => a0 ≤ q) D tc tF tL tM) tys cc own) (hM : zMk l y bytes maxL rm (zK2 (fun q => a0 + ss0.length ≤ q) D tc tF tL tM) D cl (a0 + ss0.length) [x] post mc ms) (hss : ss = ss0 ++ [x]) (h1 : Cond.methodLink own idx y ∈ zT) (h2 : Cond.instanceMethod y ∈ zT) (h4 : Cond.initialized y.cls ∈ zT) (h5 : Cond.code y bytes maxL none ∈ zT) (hyn : y.name = "<init>")
    (hd : y.cls ≠ "java/lang/invoke/MethodHandle" ∧ y.cls ≠ "java/lang/invoke/VarHandle" ∧ (parseMethodDescriptor y.desc).map (fun d => d.parameters.length) = some 0) (hrc : rm.cells = mc ∧ rm.slots = ms) (hR : rm.frames + 1 ≤ R.frames ∧ 8 + (maxL + 11) + rm.locals ≤ R.locals) (hroom : (st.map fun v => v.category).sum ≤ 8) (d : decode cc pc = .ok (.invokespecial idx, 3)) (hf : cells + mc ≤ R.cells ∧ slots + ms ≤ R.slots)
    (kk : zJ p l e R s m args below meth c D cl a0 nL Q (cells + mc) (slots + ms) (ss0 ++ post) (pc + 3) lv st) : zJ p l e R s m args below meth c D cl a0 nL Q cells slots ss pc lv (.ref (a0 + ss0.length) :: st) := by
  subst hss
  intro H L ls a b h
  have hts := X.1.2.2.2.2
  have hlast : zA0 D cl (a0 + ss0.length) [x] H := by
    refine ⟨by rw [a.1, List.length_append, Nat.add_assoc], fun i z hz => ?_⟩
    have hi : i < 1 := (List.getElem?_eq_some_iff.mp hz).1
    have e : i = 0 := by omega
    subst e
    have := a.2 ss0.length x (by rw [List.getElem?_append_right (Nat.le_refl _), Nat.sub_self]; rfl)
    cases hz
    exact this
  refine va_callv (va_runI (As := []) (rest := st) X.1 hM (cwI 0 hts (zGoodC h5) rfl hrc.1 hrc.2 (hts _ h4) (hts _ h1) (hts _ h2) hyn hd hR) ⟨fun a2 U g mk q => ?_, fun U hU hWm => ⟨rfl, by rw [hU]; exact hlast, by rw [hU]; exact zK2_narrow (X.2.2.2.2.2.2 U H hWm b.1 b.2.1) (fun q hq => by omega)⟩⟩ rfl rfl h.1 rfl (lv_room hroom) d hf) b (fun q _ hq => by omega) (fun q hq => by omega) (fun u t H1 L1 ht _ _ hB hz hk hS => kk H1 L1 ls ?_ hS h)
  · obtain ⟨q1, q2, q3⟩ := q
    exact ⟨q1, q2, (zK2_ok (fun q => a0 + ss0.length ≤ q) D tc tF tL tM).1 U g mk a2 _ q3⟩
  · have hB' : zA0 D cl (a0 + ss0.length) post H1 := by rw [← ht]; exact hB
    refine ⟨by rw [hB'.1, List.length_append, Nat.add_assoc], fun i z hz => ?_⟩
    by_cases hl : i < ss0.length
    · rw [List.getElem?_append_left hl] at hz
      have hi := a.2 i z (by rw [List.getElem?_append_left hl]; exact hz)
      exact hi.kept (hk _ (by rw [a.1, List.length_append]; omega) (by omega))
    · rw [List.getElem?_append_right (by omega)] at hz
      have := hB'.2 _ z hz
      rw [show a0 + ss0.length + (i - ss0.length) = a0 + i by omega] at this
      exact this
theorem zj_init3 {tc : Nat → ClassId} {tF tL tM idx maxL mc ms : Nat} {y : MethodName} {bytes : ByteArray} {rm : Room} {x : va_E} {post : List va_E} (n : Nat) (ss0 : List va_E) (hn : ss0.length = n) (X : zY p s m args meth c D cl a0 nL (zK2 (fun q => a0 ≤ q) D tc tF tL tM) tys cc own) (hM : zMk l y bytes maxL rm (zK2 (fun q => a0 + n ≤ q) D tc tF tL tM) D cl (a0 + n) [x] post mc ms) (hss : ss = ss0 ++ [x]) (h1 : Cond.methodLink own idx y ∈ zT) (h2 : Cond.instanceMethod y ∈ zT) (h4 : Cond.initialized y.cls ∈ zT) (h5 : Cond.code y bytes maxL none ∈ zT) (hyn : y.name = "<init>")
    (hd : y.cls ≠ "java/lang/invoke/MethodHandle" ∧ y.cls ≠ "java/lang/invoke/VarHandle" ∧ (parseMethodDescriptor y.desc).map (fun d => d.parameters.length) = some 0) (hrc : rm.cells = mc ∧ rm.slots = ms) (hR : rm.frames + 1 ≤ R.frames ∧ 8 + (maxL + 11) + rm.locals ≤ R.locals) (hroom : (st.map fun v => v.category).sum ≤ 8) (d : decode cc pc = .ok (.invokespecial idx, 3)) (hf : cells + mc ≤ R.cells ∧ slots + ms ≤ R.slots)
    (kk : zJ p l e R s m args below meth c D cl a0 nL Q (cells + mc) (slots + ms) (ss0 ++ post) (pc + 3) lv st) : zJ p l e R s m args below meth c D cl a0 nL Q cells slots ss pc lv (.ref (a0 + n) :: st) := by
  subst hn
  exact zj_init2 ss0 X hM hss h1 h2 h4 h5 hyn hd hrc hR hroom d hf kk
end ZJ6
def stPre : List va_E := [.inr (2, [.int 0, .int 0, .null, .null, .null, .null, .null, .null, .null, .null])]
def stCells (tc : Nat → ClassId) (a0 : Nat) : List va_E := [.inr (2, [.int 0, .int 0, .ref (a0 + 1), .ref (a0 + 2), .ref (a0 + 35), .ref (a0 + 36), .ref (a0 + 37), .ref (a0 + 38), .ref (a0 + 39), .ref (a0 + 40)]), .inl (tc 0, 5, .inl (fun j => [20, 10, 5, 3, 50].getD j 0)), .inl (tc 2, 8, .inr (.inr (.inr (.inr (va_up (va_up (va_up (va_up (va_up (va_up (va_up (va_up (fun _ => none) 0 (some (a0 + 3))) 1 (some (a0 + 7))) 2 (some (a0 + 11))) 3 (some (a0 + 15))) 4 (some (a0 + 19))) 5 (some (a0 + 23))) 6 (some (a0 + 27))) 7 (some (a0 + 31))))))), .inr (0, [.ref (a0 + 4), .ref (a0 + 5), .ref (a0 + 6), .int 0, .int 0, .int 0, .int 0, .int 0, .int 0]), .inl (tc 0, 20, .inl (fun _ => 0)), .inl (tc 0, 3, .inl (fun _ => 0)), .inl (tc 0, 3, .inl (fun _ => 0)), .inr (0, [.ref (a0 + 8), .ref (a0 + 9), .ref (a0 + 10), .int 0, .int 0, .int 0, .int 0, .int 0, .int 0]), .inl (tc 0, 20, .inl (fun _ => 0)), .inl (tc 0, 3, .inl (fun _ => 0)), .inl (tc 0, 3, .inl (fun _ => 0)), .inr (0, [.ref (a0 + 12), .ref (a0 + 13), .ref (a0 + 14), .int 0, .int 0, .int 0, .int 0, .int 0, .int 0]), .inl (tc 0, 20, .inl (fun _ => 0)), .inl (tc 0, 3, .inl (fun _ => 0)), .inl (tc 0, 3, .inl (fun _ => 0)), .inr (0, [.ref (a0 + 16), .ref (a0 + 17), .ref (a0 + 18), .int 0, .int 0, .int 0, .int 0, .int 0, .int 0]), .inl (tc 0, 20, .inl (fun _ => 0)), .inl (tc 0, 3, .inl (fun _ => 0)), .inl (tc 0, 3, .inl (fun _ => 0)), .inr (0, [.ref (a0 + 20), .ref (a0 + 21), .ref (a0 + 22), .int 0, .int 0, .int 0, .int 0, .int 0, .int 0]), .inl (tc 0, 20, .inl (fun _ => 0)), .inl (tc 0, 3, .inl (fun _ => 0)), .inl (tc 0, 3, .inl (fun _ => 0)), .inr (0, [.ref (a0 + 24), .ref (a0 + 25), .ref (a0 + 26), .int 0, .int 0, .int 0, .int 0, .int 0, .int 0]), .inl (tc 0, 20, .inl (fun _ => 0)), .inl (tc 0, 3, .inl (fun _ => 0)), .inl (tc 0, 3, .inl (fun _ => 0)), .inr (0, [.ref (a0 + 28), .ref (a0 + 29), .ref (a0 + 30), .int 0, .int 0, .int 0, .int 0, .int 0, .int 0]), .inl (tc 0, 20, .inl (fun _ => 0)), .inl (tc 0, 3, .inl (fun _ => 0)), .inl (tc 0, 3, .inl (fun _ => 0)), .inr (0, [.ref (a0 + 32), .ref (a0 + 33), .ref (a0 + 34), .int 0, .int 0, .int 0, .int 0, .int 0, .int 0]), .inl (tc 0, 20, .inl (fun _ => 0)), .inl (tc 0, 3, .inl (fun _ => 0)), .inl (tc 0, 3, .inl (fun _ => 0)), .inl (tc 0, 20, .inl (fun _ => 0)), .inl (tc 0, 20, .inl (fun _ => 0)), .inl (tc 0, 20, .inl (fun _ => 0)), .inl (tc 0, 20, .inl (fun _ => 0)), .inl (tc 0, 3, .inl (fun _ => 0)), .inl (tc 0, 3, .inl (fun _ => 0))]
theorem k_State1 {l : Launch} {D : va_G} {tc : Nat → ClassId} {tF tL tM : Nat} (a0 : Nat) : zMk l yX2_init cX2_init 2 { frames := 2, cells := 40, slots := 379, locals := 60 } (zK2 (fun q => a0 ≤ q) D tc tF tL tM) D vwCl a0 stPre (stCells tc a0) 40 379 := k_State a0
theorem fs_State : ∀ j, j < 10 → defaultValue (tyX2 j) = vp_V [.int 0, .int 0, .null, .null, .null, .null, .null, .null, .null, .null] j := by
  intro j hj
  rcases (show j = 0 ∨ j = 1 ∨ j = 2 ∨ j = 3 ∨ j = 4 ∨ j = 5 ∨ j = 6 ∨ j = 7 ∨ j = 8 ∨ j = 9 by omega) with rfl | rfl | rfl | rfl | rfl | rfl | rfl | rfl | rfl | rfl <;> rfl
def hiCells (tc : Nat → ClassId) (a0 : Nat) : List va_E := ([.inr (1, [.ref (a0 + 1), .int 0, .int 0]), .inl (tc 3, 4, .inr (.inr (.inr (.inr (va_up (va_up (va_up (va_up (fun _ => none) 0 (some (a0 + 2))) 1 (some (a0 + 43))) 2 (some (a0 + 84))) 3 (some (a0 + 125)))))))] ++ stCells tc (a0 + 2) ++ stCells tc (a0 + 43) ++ stCells tc (a0 + 84) ++ stCells tc (a0 + 125))
set_option maxRecDepth 100000 in
set_option maxHeartbeats 4000000 in
theorem k_History {l : Launch} {D : va_G} {tc : Nat → ClassId} {tF tL tM : Nat} (a0 : Nat) : zMk l yX1_init cX1_init 2 { frames := 3, cells := 165, slots := 1560, locals := 90 } (zK2 (fun q => a0 ≤ q) D tc tF tL tM) D vwCl a0 [.inr (1, [.null, .int 0, .int 0])] (hiCells tc a0) 165 1560 := by
  refine zMk_of RX1 [(0, .ref a0)] (zK2_ok (fun q => a0 ≤ q) D tc tF tL tM) (by decide +kernel) rfl rfl (Nat.le_of_ble_eq_true rfl) rfl ?_
  intro pP eE sS mM aS bL mT cO X
  have X1 := zY_to X (fun U H (h : zK2 _ D tc tF tL tM U H) => h.1)
  refine zj_aload X1 0 dX1_init_0 rfl ?_
  refine zj_oinit X1 dX1_init_1 k_128 k_16 k_17 (Nat.le_of_ble_eq_true rfl) (Nat.le_of_ble_eq_true rfl) ?_
  refine zj_aload X1 0 dX1_init_4 rfl ?_
  refine zj_iconst X1 (nI 4) dX1_init_5 (by decide +kernel) ?_
  refine zj_newq X1 3 4 dX1_init_6 k_129 X.2.2.2.2.2.1.2.2.2.2 rfl rfl (by omega) (Nat.le_of_ble_eq_true rfl) (Nat.le_of_ble_eq_true rfl) ?_
  refine zj_ss (ss1 := ([.inr (1, [.null, .int 0, .int 0]), .inl (tc 3, 4, .inr (.inr (.inr (.inr (fun _ => none)))))])) rfl ?_
  refine zj_putR X1 (ci := 1) (k := 0) (ty0 := tyX1) dX1_init_9 rfl rfl inX1 tyX1_ok nmX1 (by decide) (Nat.le_of_ble_eq_true rfl) rfl k_132 rfl rfl rfl rfl rfl ?_
  refine zj_ss (ss1 := ([.inr (1, [.ref (a0 + 1), .int 0, .int 0]), .inl (tc 3, 4, .inr (.inr (.inr (.inr (fun _ => none)))))])) rfl ?_
  refine zj_iconst X1 (nI 0) dX1_init_12 (by decide +kernel) ?_
  refine zj_istoren X1 [1, 0] [(0, .ref a0), (1, .int (nI 0))] dX1_init_13 (by decide) rfl ?_
  refine zj_iloadn X1 1 dX1_init_14 rfl ?_
  refine zj_iconst X1 (nI 4) dX1_init_15 (by decide +kernel) ?_
  refine zj_icmp_ge X1 38 dX1_init_16 (by decide) (fun q => absurd q (by decide +kernel)) (fun _ => ?_)
  refine zj_aload X1 0 dX1_init_19 rfl ?_
  refine zj_getR X1 (ci := 1) (q := 0) (.ref (a0 + 1)) dX1_init_20 rfl rfl inX1 (by decide) rfl rfl k_132 ?_
  refine zj_iloadn X1 1 dX1_init_23 rfl ?_
  refine zj_new X1 (ci := 2) [.int 0, .int 0, .null, .null, .null, .null, .null, .null, .null, .null] dX1_init_24 rfl inX2 tyX2_ok k_129 k_19 k_2 fs_State (Nat.le_of_ble_eq_true rfl) (Nat.le_of_ble_eq_true rfl) ?_
  refine zj_dup X1 dX1_init_27 ?_
  refine zj_init3 2 ([.inr (1, [.ref (a0 + 1), .int 0, .int 0]), .inl (tc 3, 4, .inr (.inr (.inr (.inr (fun _ => none)))))]) rfl X (k_State1 (a0 + 2)) rfl k_131 k_21 k_2 k_22 rfl hdX2_init.2 ⟨rfl, rfl⟩ ⟨(Nat.le_of_ble_eq_true rfl), (Nat.le_of_ble_eq_true rfl)⟩ (Nat.le_of_ble_eq_true rfl) dX1_init_28 ⟨(Nat.le_of_ble_eq_true rfl), (Nat.le_of_ble_eq_true rfl)⟩ ?_
  refine zj_ss (ss1 := ([.inr (1, [.ref (a0 + 1), .int 0, .int 0]), .inl (tc 3, 4, .inr (.inr (.inr (.inr (fun _ => none)))))] ++ stCells tc (a0 + 2))) rfl ?_
  refine zj_astq X1 1 0 2 3 dX1_init_31 rfl rfl rfl rfl rfl (by omega) (by omega) ?_
  refine zj_ss (ss1 := ([.inr (1, [.ref (a0 + 1), .int 0, .int 0]), .inl (tc 3, 4, .inr (.inr (.inr (.inr (va_up (fun _ => none) 0 (some (a0 + 2)))))))] ++ stCells tc (a0 + 2))) rfl ?_
  refine zj_iinc X1 1 (nI 1) [1, 0] [(0, .ref a0), (1, .int (nI 1))] dX1_init_32 rfl (zinc _) (by decide) rfl ?_
  refine zj_goto X1 14 dX1_init_35 (by decide) ?_
  refine zj_iloadn X1 1 dX1_init_14 rfl ?_
  refine zj_iconst X1 (nI 4) dX1_init_15 (by decide +kernel) ?_
  refine zj_icmp_ge X1 38 dX1_init_16 (by decide) (fun q => absurd q (by decide +kernel)) (fun _ => ?_)
  refine zj_aload X1 0 dX1_init_19 rfl ?_
  refine zj_getR X1 (ci := 1) (q := 0) (.ref (a0 + 1)) dX1_init_20 rfl rfl inX1 (by decide) rfl rfl k_132 ?_
  refine zj_iloadn X1 1 dX1_init_23 rfl ?_
  refine zj_new X1 (ci := 2) [.int 0, .int 0, .null, .null, .null, .null, .null, .null, .null, .null] dX1_init_24 rfl inX2 tyX2_ok k_129 k_19 k_2 fs_State (Nat.le_of_ble_eq_true rfl) (Nat.le_of_ble_eq_true rfl) ?_
  refine zj_dup X1 dX1_init_27 ?_
  refine zj_init3 43 ([.inr (1, [.ref (a0 + 1), .int 0, .int 0]), .inl (tc 3, 4, .inr (.inr (.inr (.inr (va_up (fun _ => none) 0 (some (a0 + 2)))))))] ++ stCells tc (a0 + 2)) rfl X (k_State1 (a0 + 43)) rfl k_131 k_21 k_2 k_22 rfl hdX2_init.2 ⟨rfl, rfl⟩ ⟨(Nat.le_of_ble_eq_true rfl), (Nat.le_of_ble_eq_true rfl)⟩ (Nat.le_of_ble_eq_true rfl) dX1_init_28 ⟨(Nat.le_of_ble_eq_true rfl), (Nat.le_of_ble_eq_true rfl)⟩ ?_
  refine zj_ss (ss1 := ([.inr (1, [.ref (a0 + 1), .int 0, .int 0]), .inl (tc 3, 4, .inr (.inr (.inr (.inr (va_up (fun _ => none) 0 (some (a0 + 2)))))))] ++ stCells tc (a0 + 2) ++ stCells tc (a0 + 43))) rfl ?_
  refine zj_astq X1 1 1 43 3 dX1_init_31 rfl rfl rfl rfl rfl (by omega) (by omega) ?_
  refine zj_ss (ss1 := ([.inr (1, [.ref (a0 + 1), .int 0, .int 0]), .inl (tc 3, 4, .inr (.inr (.inr (.inr (va_up (va_up (fun _ => none) 0 (some (a0 + 2))) 1 (some (a0 + 43)))))))] ++ stCells tc (a0 + 2) ++ stCells tc (a0 + 43))) rfl ?_
  refine zj_iinc X1 1 (nI 2) [1, 0] [(0, .ref a0), (1, .int (nI 2))] dX1_init_32 rfl (zinc _) (by decide) rfl ?_
  refine zj_goto X1 14 dX1_init_35 (by decide) ?_
  refine zj_iloadn X1 1 dX1_init_14 rfl ?_
  refine zj_iconst X1 (nI 4) dX1_init_15 (by decide +kernel) ?_
  refine zj_icmp_ge X1 38 dX1_init_16 (by decide) (fun q => absurd q (by decide +kernel)) (fun _ => ?_)
  refine zj_aload X1 0 dX1_init_19 rfl ?_
  refine zj_getR X1 (ci := 1) (q := 0) (.ref (a0 + 1)) dX1_init_20 rfl rfl inX1 (by decide) rfl rfl k_132 ?_
  refine zj_iloadn X1 1 dX1_init_23 rfl ?_
  refine zj_new X1 (ci := 2) [.int 0, .int 0, .null, .null, .null, .null, .null, .null, .null, .null] dX1_init_24 rfl inX2 tyX2_ok k_129 k_19 k_2 fs_State (Nat.le_of_ble_eq_true rfl) (Nat.le_of_ble_eq_true rfl) ?_
  refine zj_dup X1 dX1_init_27 ?_
  refine zj_init3 84 ([.inr (1, [.ref (a0 + 1), .int 0, .int 0]), .inl (tc 3, 4, .inr (.inr (.inr (.inr (va_up (va_up (fun _ => none) 0 (some (a0 + 2))) 1 (some (a0 + 43)))))))] ++ stCells tc (a0 + 2) ++ stCells tc (a0 + 43)) rfl X (k_State1 (a0 + 84)) rfl k_131 k_21 k_2 k_22 rfl hdX2_init.2 ⟨rfl, rfl⟩ ⟨(Nat.le_of_ble_eq_true rfl), (Nat.le_of_ble_eq_true rfl)⟩ (Nat.le_of_ble_eq_true rfl) dX1_init_28 ⟨(Nat.le_of_ble_eq_true rfl), (Nat.le_of_ble_eq_true rfl)⟩ ?_
  refine zj_ss (ss1 := ([.inr (1, [.ref (a0 + 1), .int 0, .int 0]), .inl (tc 3, 4, .inr (.inr (.inr (.inr (va_up (va_up (fun _ => none) 0 (some (a0 + 2))) 1 (some (a0 + 43)))))))] ++ stCells tc (a0 + 2) ++ stCells tc (a0 + 43) ++ stCells tc (a0 + 84))) rfl ?_
  refine zj_astq X1 1 2 84 3 dX1_init_31 rfl rfl rfl rfl rfl (by omega) (by omega) ?_
  refine zj_ss (ss1 := ([.inr (1, [.ref (a0 + 1), .int 0, .int 0]), .inl (tc 3, 4, .inr (.inr (.inr (.inr (va_up (va_up (va_up (fun _ => none) 0 (some (a0 + 2))) 1 (some (a0 + 43))) 2 (some (a0 + 84)))))))] ++ stCells tc (a0 + 2) ++ stCells tc (a0 + 43) ++ stCells tc (a0 + 84))) rfl ?_
  refine zj_iinc X1 1 (nI 3) [1, 0] [(0, .ref a0), (1, .int (nI 3))] dX1_init_32 rfl (zinc _) (by decide) rfl ?_
  refine zj_goto X1 14 dX1_init_35 (by decide) ?_
  refine zj_iloadn X1 1 dX1_init_14 rfl ?_
  refine zj_iconst X1 (nI 4) dX1_init_15 (by decide +kernel) ?_
  refine zj_icmp_ge X1 38 dX1_init_16 (by decide) (fun q => absurd q (by decide +kernel)) (fun _ => ?_)
  refine zj_aload X1 0 dX1_init_19 rfl ?_
  refine zj_getR X1 (ci := 1) (q := 0) (.ref (a0 + 1)) dX1_init_20 rfl rfl inX1 (by decide) rfl rfl k_132 ?_
  refine zj_iloadn X1 1 dX1_init_23 rfl ?_
  refine zj_new X1 (ci := 2) [.int 0, .int 0, .null, .null, .null, .null, .null, .null, .null, .null] dX1_init_24 rfl inX2 tyX2_ok k_129 k_19 k_2 fs_State (Nat.le_of_ble_eq_true rfl) (Nat.le_of_ble_eq_true rfl) ?_
  refine zj_dup X1 dX1_init_27 ?_
  refine zj_init3 125 ([.inr (1, [.ref (a0 + 1), .int 0, .int 0]), .inl (tc 3, 4, .inr (.inr (.inr (.inr (va_up (va_up (va_up (fun _ => none) 0 (some (a0 + 2))) 1 (some (a0 + 43))) 2 (some (a0 + 84)))))))] ++ stCells tc (a0 + 2) ++ stCells tc (a0 + 43) ++ stCells tc (a0 + 84)) rfl X (k_State1 (a0 + 125)) rfl k_131 k_21 k_2 k_22 rfl hdX2_init.2 ⟨rfl, rfl⟩ ⟨(Nat.le_of_ble_eq_true rfl), (Nat.le_of_ble_eq_true rfl)⟩ (Nat.le_of_ble_eq_true rfl) dX1_init_28 ⟨(Nat.le_of_ble_eq_true rfl), (Nat.le_of_ble_eq_true rfl)⟩ ?_
  refine zj_ss (ss1 := ([.inr (1, [.ref (a0 + 1), .int 0, .int 0]), .inl (tc 3, 4, .inr (.inr (.inr (.inr (va_up (va_up (va_up (fun _ => none) 0 (some (a0 + 2))) 1 (some (a0 + 43))) 2 (some (a0 + 84)))))))] ++ stCells tc (a0 + 2) ++ stCells tc (a0 + 43) ++ stCells tc (a0 + 84) ++ stCells tc (a0 + 125))) rfl ?_
  refine zj_astq X1 1 3 125 3 dX1_init_31 rfl rfl rfl rfl rfl (by omega) (by omega) ?_
  refine zj_ss (ss1 := ([.inr (1, [.ref (a0 + 1), .int 0, .int 0]), .inl (tc 3, 4, .inr (.inr (.inr (.inr (va_up (va_up (va_up (va_up (fun _ => none) 0 (some (a0 + 2))) 1 (some (a0 + 43))) 2 (some (a0 + 84))) 3 (some (a0 + 125)))))))] ++ stCells tc (a0 + 2) ++ stCells tc (a0 + 43) ++ stCells tc (a0 + 84) ++ stCells tc (a0 + 125))) rfl ?_
  refine zj_iinc X1 1 (nI 4) [1, 0] [(0, .ref a0), (1, .int (nI 4))] dX1_init_32 rfl (zinc _) (by decide) rfl ?_
  refine zj_goto X1 14 dX1_init_35 (by decide) ?_
  refine zj_iloadn X1 1 dX1_init_14 rfl ?_
  refine zj_iconst X1 (nI 4) dX1_init_15 (by decide +kernel) ?_
  refine zj_icmp_ge X1 38 dX1_init_16 (by decide) (fun _ => ?_) (fun q => absurd (by decide +kernel) q)
  exact zj_ret X1 dX1_init_38 rfl
