section ZJ7
variable {p : Program} {l : Launch} {e : Env} {R : Room} {s : State} {m : MethodId} {args : Array Value} {below : List Frame} {meth : Method} {c : Code} {D : va_G} {cl : List vw_C} {a0 nL : Nat} {Q : State → Prop} {cells slots : Nat} {ss : List va_E} {pc : Nat} {lv : List (Nat × Value)} {st : List Value}
variable {K : State → Heap → Prop} {tys : List (ClassId × FieldType)} {cc : ByteArray} {own : String}
theorem zj_init1 {tc : Nat → ClassId} {tF tL tM idx maxL mc ms : Nat} {y : MethodName} {bytes : ByteArray} {rm : Room} {x : va_E} {post : List va_E} (n : Nat) (ss0 : List va_E) (hn : ss0.length = n) (X : zY p s m args meth c D cl a0 nL (zK (fun q => a0 ≤ q) D tc tF tL tM) tys cc own) (hM : zMk l y bytes maxL rm (zK (fun q => a0 + n ≤ q) D tc tF tL tM) D cl (a0 + n) [x] post mc ms) (hss : ss = ss0 ++ [x]) (h1 : Cond.methodLink own idx y ∈ zT) (h2 : Cond.instanceMethod y ∈ zT) (h4 : Cond.initialized y.cls ∈ zT) (h5 : Cond.code y bytes maxL none ∈ zT) (hyn : y.name = "<init>")
    (hd : y.cls ≠ "java/lang/invoke/MethodHandle" ∧ y.cls ≠ "java/lang/invoke/VarHandle" ∧ (parseMethodDescriptor y.desc).map (fun d => d.parameters.length) = some 0) (hrc : rm.cells = mc ∧ rm.slots = ms) (hR : rm.frames + 1 ≤ R.frames ∧ 8 + (maxL + 11) + rm.locals ≤ R.locals) (hroom : (st.map fun v => v.category).sum ≤ 8) (d : decode cc pc = .ok (.invokespecial idx, 3)) (hf : cells + mc ≤ R.cells ∧ slots + ms ≤ R.slots)
    (kk : zJ p l e R s m args below meth c D cl a0 nL Q (cells + mc) (slots + ms) (ss0 ++ post) (pc + 3) lv st) : zJ p l e R s m args below meth c D cl a0 nL Q cells slots ss pc lv (.ref (a0 + n) :: st) := by
  subst hn
  exact zj_init ss0 X hM hss h1 h2 h4 h5 hyn hd hrc hR hroom d hf kk
theorem zj_putI (X : zY p s m args meth c D cl a0 nL K tys cc own) {ci k idx Nf : Nat} {x : Int32} {C : String} {T : u_T} {ty0 : Nat → FieldType} {ty : FieldType} {fs : List Value} (d : decode cc pc = .ok (.putfield idx, 3)) (hss : ss[0]? = some (.inr (ci, fs))) (hc : cl[ci]? = some (C, T, Nf)) (hin : ∀ w ∈ u_ws C T Nf, w ∈ zT) (hty0 : ∀ j, j < Nf → parseFieldDescriptor (T j).2.2.1 = some (ty0 j)) (hnm : ∀ i, i < Nf → ∀ j, j < Nf → i ≠ j → (T i).2.1 ≠ (T j).2.1) (hk : k < Nf) (hl : k < fs.length) (hC : (T k).1 = C) (hlink : Cond.fieldLink own idx C (T k).2.1 (T k).2.2.1 ∈ zT) (hfin : (T k).2.2.2 = false) (hd : parseFieldDescriptor (T k).2.2.1 = some ty) (hn : narrow ty (.int x) = .int x) (hfit : fits ty (.int x) = true)
    (kk : zJ p l e R s m args below meth c D cl a0 nL Q cells slots (ss.set 0 (.inr (ci, fs.set k (.int x)))) (pc + 3) lv st) : zJ p l e R s m args below meth c D cl a0 nL Q cells slots ss pc lv (.int x :: .ref a0 :: st) := by
  intro H L ls a b h
  have hts := X.1.2.2.2.2
  have hown := X.1.2.2.2.1
  have hK := X.2.2.2.1
  have hap := va_apart (own := own) (D := D) (cl := cl) (tys := tys) (s := s) (args := args) (Ts := zT) hts hin ty0 hty0 hnm hK hc
  have h0 : 0 < ss.length := (List.getElem?_eq_some_iff.mp hss).1
  have hw := a.2 0 _ hss
  rw [Nat.add_zero] at hw
  obtain ⟨r, h1, cell, q1, q2, q3, q4⟩ := hw
  have hr : r = (C, T, Nf) := Option.some.inj (h1.symm.trans hc)
  subst hr
  obtain ⟨hS, hfc, kC, hkC, hkind⟩ := hK.1 ci _ hc
  obtain ⟨cf, kf, fi, f, hi, hsl⟩ := hS k hk
  have hlay := hts _ (hin _ (u_in_lay hk))
  unfold u_lay at hlay
  rw [if_neg (by rw [hfin]; decide)] at hlay
  have hst := (u_facts hfc hkC (u_lays hts hin hk) hi).1
  have h6 := u_store hfc hkC hkind hlay hi hd hn hfit
  refine W.putK X.1.1 X.1.2.1 (f := f) ⟨hown, hts _ hlink, ⟨_, _, _, by rw [← hC]; exact hi⟩, hst⟩ (by rw [q2]; exact h6) q1 q3 (by rw [hsl]; exact k2_hasslot (q4 k hk)) rfl rfl d fun H1 e1 e2 e3 => ?_
  rw [hsl] at e1 ⊢
  refine kk H1 _ ls (zA0_set a h0 e2 (fun q hq => e3 q (by omega)) ?_) (b.put e2 e3 (Nat.le_refl a0)) h
  rw [Nat.add_zero]
  exact ⟨_, hc, t_OB.to (V := updV (vp_V fs) k (.int x)) ⟨_, e1, q2, q3, t_set q4 hap hk (.int x)⟩ (fun j _ => vp_updV_set hl _ j)⟩
end ZJ7
theorem fs_History : ∀ j, j < 3 → defaultValue (tyX1 j) = vp_V [.null, .int 0, .int 0] j := by
  intro j hj
  rcases (show j = 0 ∨ j = 1 ∨ j = 2 by omega) with rfl | rfl | rfl <;> rfl
theorem fs_Taking : ∀ j, j < 6 → defaultValue (tyX3 j) = vp_V [.null, .null, .int 0, .int 0, .int 0, .int 0] j := by
  intro j hj
  rcases (show j = 0 ∨ j = 1 ∨ j = 2 ∨ j = 3 ∨ j = 4 ∨ j = 5 by omega) with rfl | rfl | rfl | rfl | rfl | rfl <;> rfl
theorem fs_Text : ∀ j, j < 8 → defaultValue (tyX4 j) = vp_V [.null, .int 0, .null, .null, .null, .null, .int 0, .int 0] j := by
  intro j hj
  rcases (show j = 0 ∨ j = 1 ∨ j = 2 ∨ j = 3 ∨ j = 4 ∨ j = 5 ∨ j = 6 ∨ j = 7 by omega) with rfl | rfl | rfl | rfl | rfl | rfl | rfl | rfl <;> rfl
def taCells (tc : Nat → ClassId) (a0 : Nat) : List va_E := [.inr (3, [.ref (a0 + 1), .ref (a0 + 2), .int 0, .int 0, .int 0, .int 0]), .inl (tc 0, 20, .inl (fun _ => 0)), .inl (tc 0, 3, .inl (fun _ => 0))]
def teCells (tc : Nat → ClassId) (a0 : Nat) : List va_E := [.inr (4, [.ref (a0 + 1), .int 0, .ref (a0 + 2), .ref (a0 + 3), .ref (a0 + 4), .ref (a0 + 5), .int 0, .int 0]), .inl (tc 1, 60, .inl (fun _ => 0)), .inl (tc 0, 8, .inl (fun _ => 0)), .inl (tc 0, 8, .inl (fun _ => 0)), .inl (tc 0, 8, .inl (fun _ => 0)), .inl (tc 0, 8, .inl (fun _ => 0))]
def bkCells (tc : Nat → ClassId) (a0 : Nat) : List va_E := ([.inr (5, [.ref (a0 + 1), .ref (a0 + 42), .ref (a0 + 83), .ref (a0 + 124), .ref (a0 + 290), .ref (a0 + 293), .int (nI 0)])] ++ stCells tc (a0 + 1) ++ stCells tc (a0 + 42) ++ stCells tc (a0 + 83) ++ hiCells tc (a0 + 124) ++ taCells tc (a0 + 290) ++ teCells tc (a0 + 293))
set_option maxRecDepth 100000 in
set_option maxHeartbeats 4000000 in
theorem k_Book {l : Launch} {D : va_G} {tc : Nat → ClassId} {tF tL tM : Nat} (a0 : Nat) : zMk l yX5_init cX5_init 1 { frames := 4, cells := 298, slots := 2859, locals := 120 } (zK2 (fun q => a0 ≤ q) D tc tF tL tM) D vwCl a0 ([.inr (5, [.null, .null, .null, .null, .null, .null, .int 0])]) (bkCells tc a0) 298 2859 := by
  refine zMk_of RX5 [(0, .ref a0)] (zK2_ok (fun q => a0 ≤ q) D tc tF tL tM) (by decide +kernel) rfl rfl (Nat.le_of_ble_eq_true rfl) rfl ?_
  intro pP eE sS mM aS bL mT cO X
  have X1 := zY_to X (fun U H (h : zK2 _ D tc tF tL tM U H) => h.1)
  refine zj_aload X1 0 dX5_init_0 rfl ?_
  refine zj_oinit X1 dX5_init_1 k_15 k_16 k_17 (Nat.le_of_ble_eq_true rfl) (Nat.le_of_ble_eq_true rfl) ?_
  refine zj_aload X1 0 dX5_init_4 rfl ?_
  refine zj_new X1 (ci := 2) [.int 0, .int 0, .null, .null, .null, .null, .null, .null, .null, .null] dX5_init_5 rfl inX2 tyX2_ok k_18 k_19 k_2 fs_State (Nat.le_of_ble_eq_true rfl) (Nat.le_of_ble_eq_true rfl) ?_
  refine zj_dup X1 dX5_init_8 ?_
  refine zj_init3 1 ([.inr (5, [.null, .null, .null, .null, .null, .null, .int 0])]) rfl X (k_State1 (a0 + 1)) rfl k_20 k_21 k_2 k_22 rfl hdX2_init.2 ⟨rfl, rfl⟩ ⟨(Nat.le_of_ble_eq_true rfl), (Nat.le_of_ble_eq_true rfl)⟩ (Nat.le_of_ble_eq_true rfl) dX5_init_9 ⟨(Nat.le_of_ble_eq_true rfl), (Nat.le_of_ble_eq_true rfl)⟩ ?_
  refine zj_ss (ss1 := ([.inr (5, [.null, .null, .null, .null, .null, .null, .int 0])] ++ stCells tc (a0 + 1))) rfl ?_
  refine zj_putR X1 (ci := 5) (k := 0) (ty0 := tyX5) dX5_init_12 rfl rfl inX5 tyX5_ok nmX5 (by decide) (Nat.le_of_ble_eq_true rfl) rfl k_215 rfl rfl rfl rfl rfl ?_
  refine zj_ss (ss1 := ([.inr (5, [.ref (a0 + 1), .null, .null, .null, .null, .null, .int 0])] ++ stCells tc (a0 + 1))) rfl ?_
  refine zj_aload X1 0 dX5_init_15 rfl ?_
  refine zj_new X1 (ci := 2) [.int 0, .int 0, .null, .null, .null, .null, .null, .null, .null, .null] dX5_init_16 rfl inX2 tyX2_ok k_18 k_19 k_2 fs_State (Nat.le_of_ble_eq_true rfl) (Nat.le_of_ble_eq_true rfl) ?_
  refine zj_dup X1 dX5_init_19 ?_
  refine zj_init3 42 ([.inr (5, [.ref (a0 + 1), .null, .null, .null, .null, .null, .int 0])] ++ stCells tc (a0 + 1)) rfl X (k_State1 (a0 + 42)) rfl k_20 k_21 k_2 k_22 rfl hdX2_init.2 ⟨rfl, rfl⟩ ⟨(Nat.le_of_ble_eq_true rfl), (Nat.le_of_ble_eq_true rfl)⟩ (Nat.le_of_ble_eq_true rfl) dX5_init_20 ⟨(Nat.le_of_ble_eq_true rfl), (Nat.le_of_ble_eq_true rfl)⟩ ?_
  refine zj_ss (ss1 := ([.inr (5, [.ref (a0 + 1), .null, .null, .null, .null, .null, .int 0])] ++ stCells tc (a0 + 1) ++ stCells tc (a0 + 42))) rfl ?_
  refine zj_putR X1 (ci := 5) (k := 1) (ty0 := tyX5) dX5_init_23 rfl rfl inX5 tyX5_ok nmX5 (by decide) (Nat.le_of_ble_eq_true rfl) rfl k_216 rfl rfl rfl rfl rfl ?_
  refine zj_ss (ss1 := ([.inr (5, [.ref (a0 + 1), .ref (a0 + 42), .null, .null, .null, .null, .int 0])] ++ stCells tc (a0 + 1) ++ stCells tc (a0 + 42))) rfl ?_
  refine zj_aload X1 0 dX5_init_26 rfl ?_
  refine zj_new X1 (ci := 2) [.int 0, .int 0, .null, .null, .null, .null, .null, .null, .null, .null] dX5_init_27 rfl inX2 tyX2_ok k_18 k_19 k_2 fs_State (Nat.le_of_ble_eq_true rfl) (Nat.le_of_ble_eq_true rfl) ?_
  refine zj_dup X1 dX5_init_30 ?_
  refine zj_init3 83 ([.inr (5, [.ref (a0 + 1), .ref (a0 + 42), .null, .null, .null, .null, .int 0])] ++ stCells tc (a0 + 1) ++ stCells tc (a0 + 42)) rfl X (k_State1 (a0 + 83)) rfl k_20 k_21 k_2 k_22 rfl hdX2_init.2 ⟨rfl, rfl⟩ ⟨(Nat.le_of_ble_eq_true rfl), (Nat.le_of_ble_eq_true rfl)⟩ (Nat.le_of_ble_eq_true rfl) dX5_init_31 ⟨(Nat.le_of_ble_eq_true rfl), (Nat.le_of_ble_eq_true rfl)⟩ ?_
  refine zj_ss (ss1 := ([.inr (5, [.ref (a0 + 1), .ref (a0 + 42), .null, .null, .null, .null, .int 0])] ++ stCells tc (a0 + 1) ++ stCells tc (a0 + 42) ++ stCells tc (a0 + 83))) rfl ?_
  refine zj_putR X1 (ci := 5) (k := 2) (ty0 := tyX5) dX5_init_34 rfl rfl inX5 tyX5_ok nmX5 (by decide) (Nat.le_of_ble_eq_true rfl) rfl k_217 rfl rfl rfl rfl rfl ?_
  refine zj_ss (ss1 := ([.inr (5, [.ref (a0 + 1), .ref (a0 + 42), .ref (a0 + 83), .null, .null, .null, .int 0])] ++ stCells tc (a0 + 1) ++ stCells tc (a0 + 42) ++ stCells tc (a0 + 83))) rfl ?_
  refine zj_aload X1 0 dX5_init_37 rfl ?_
  refine zj_new X1 (ci := 1) [.null, .int 0, .int 0] dX5_init_38 rfl inX1 tyX1_ok k_123 k_124 k_4 fs_History (Nat.le_of_ble_eq_true rfl) (Nat.le_of_ble_eq_true rfl) ?_
  refine zj_dup X1 dX5_init_41 ?_
  refine zj_init3 124 ([.inr (5, [.ref (a0 + 1), .ref (a0 + 42), .ref (a0 + 83), .null, .null, .null, .int 0])] ++ stCells tc (a0 + 1) ++ stCells tc (a0 + 42) ++ stCells tc (a0 + 83)) rfl X (k_History (a0 + 124)) rfl k_125 k_126 k_4 k_127 rfl hdX1_init.2 ⟨rfl, rfl⟩ ⟨(Nat.le_of_ble_eq_true rfl), (Nat.le_of_ble_eq_true rfl)⟩ (Nat.le_of_ble_eq_true rfl) dX5_init_42 ⟨(Nat.le_of_ble_eq_true rfl), (Nat.le_of_ble_eq_true rfl)⟩ ?_
  refine zj_ss (ss1 := ([.inr (5, [.ref (a0 + 1), .ref (a0 + 42), .ref (a0 + 83), .null, .null, .null, .int 0])] ++ stCells tc (a0 + 1) ++ stCells tc (a0 + 42) ++ stCells tc (a0 + 83) ++ hiCells tc (a0 + 124))) rfl ?_
  refine zj_putR X1 (ci := 5) (k := 3) (ty0 := tyX5) dX5_init_45 rfl rfl inX5 tyX5_ok nmX5 (by decide) (Nat.le_of_ble_eq_true rfl) rfl k_218 rfl rfl rfl rfl rfl ?_
  refine zj_ss (ss1 := ([.inr (5, [.ref (a0 + 1), .ref (a0 + 42), .ref (a0 + 83), .ref (a0 + 124), .null, .null, .int 0])] ++ stCells tc (a0 + 1) ++ stCells tc (a0 + 42) ++ stCells tc (a0 + 83) ++ hiCells tc (a0 + 124))) rfl ?_
  refine zj_aload X1 0 dX5_init_48 rfl ?_
  refine zj_new X1 (ci := 3) [.null, .null, .int 0, .int 0, .int 0, .int 0] dX5_init_49 rfl inX3 tyX3_ok k_143 k_144 k_5 fs_Taking (Nat.le_of_ble_eq_true rfl) (Nat.le_of_ble_eq_true rfl) ?_
  refine zj_dup X1 dX5_init_52 ?_
  refine zj_init1 290 ([.inr (5, [.ref (a0 + 1), .ref (a0 + 42), .ref (a0 + 83), .ref (a0 + 124), .null, .null, .int 0])] ++ stCells tc (a0 + 1) ++ stCells tc (a0 + 42) ++ stCells tc (a0 + 83) ++ hiCells tc (a0 + 124)) rfl X1 (k_Taking (a0 + 290)) rfl k_145 k_146 k_5 k_147 rfl hdX3_init.2 ⟨rfl, rfl⟩ ⟨(Nat.le_of_ble_eq_true rfl), (Nat.le_of_ble_eq_true rfl)⟩ (Nat.le_of_ble_eq_true rfl) dX5_init_53 ⟨(Nat.le_of_ble_eq_true rfl), (Nat.le_of_ble_eq_true rfl)⟩ ?_
  refine zj_ss (ss1 := ([.inr (5, [.ref (a0 + 1), .ref (a0 + 42), .ref (a0 + 83), .ref (a0 + 124), .null, .null, .int 0])] ++ stCells tc (a0 + 1) ++ stCells tc (a0 + 42) ++ stCells tc (a0 + 83) ++ hiCells tc (a0 + 124) ++ taCells tc (a0 + 290))) rfl ?_
  refine zj_putR X1 (ci := 5) (k := 4) (ty0 := tyX5) dX5_init_56 rfl rfl inX5 tyX5_ok nmX5 (by decide) (Nat.le_of_ble_eq_true rfl) rfl k_219 rfl rfl rfl rfl rfl ?_
  refine zj_ss (ss1 := ([.inr (5, [.ref (a0 + 1), .ref (a0 + 42), .ref (a0 + 83), .ref (a0 + 124), .ref (a0 + 290), .null, .int 0])] ++ stCells tc (a0 + 1) ++ stCells tc (a0 + 42) ++ stCells tc (a0 + 83) ++ hiCells tc (a0 + 124) ++ taCells tc (a0 + 290))) rfl ?_
  refine zj_aload X1 0 dX5_init_59 rfl ?_
  refine zj_new X1 (ci := 4) [.null, .int 0, .null, .null, .null, .null, .int 0, .int 0] dX5_init_60 rfl inX4 tyX4_ok k_175 k_176 k_6 fs_Text (Nat.le_of_ble_eq_true rfl) (Nat.le_of_ble_eq_true rfl) ?_
  refine zj_dup X1 dX5_init_63 ?_
  refine zj_init1 293 ([.inr (5, [.ref (a0 + 1), .ref (a0 + 42), .ref (a0 + 83), .ref (a0 + 124), .ref (a0 + 290), .null, .int 0])] ++ stCells tc (a0 + 1) ++ stCells tc (a0 + 42) ++ stCells tc (a0 + 83) ++ hiCells tc (a0 + 124) ++ taCells tc (a0 + 290)) rfl X1 (k_Text (a0 + 293)) rfl k_177 k_178 k_6 k_179 rfl hdX4_init.2 ⟨rfl, rfl⟩ ⟨(Nat.le_of_ble_eq_true rfl), (Nat.le_of_ble_eq_true rfl)⟩ (Nat.le_of_ble_eq_true rfl) dX5_init_64 ⟨(Nat.le_of_ble_eq_true rfl), (Nat.le_of_ble_eq_true rfl)⟩ ?_
  refine zj_ss (ss1 := ([.inr (5, [.ref (a0 + 1), .ref (a0 + 42), .ref (a0 + 83), .ref (a0 + 124), .ref (a0 + 290), .null, .int 0])] ++ stCells tc (a0 + 1) ++ stCells tc (a0 + 42) ++ stCells tc (a0 + 83) ++ hiCells tc (a0 + 124) ++ taCells tc (a0 + 290) ++ teCells tc (a0 + 293))) rfl ?_
  refine zj_putR X1 (ci := 5) (k := 5) (ty0 := tyX5) dX5_init_67 rfl rfl inX5 tyX5_ok nmX5 (by decide) (Nat.le_of_ble_eq_true rfl) rfl k_220 rfl rfl rfl rfl rfl ?_
  refine zj_ss (ss1 := ([.inr (5, [.ref (a0 + 1), .ref (a0 + 42), .ref (a0 + 83), .ref (a0 + 124), .ref (a0 + 290), .ref (a0 + 293), .int 0])] ++ stCells tc (a0 + 1) ++ stCells tc (a0 + 42) ++ stCells tc (a0 + 83) ++ hiCells tc (a0 + 124) ++ taCells tc (a0 + 290) ++ teCells tc (a0 + 293))) rfl ?_
  refine zj_aload X1 0 dX5_init_70 rfl ?_
  refine zj_iconst X1 (nI 0) dX5_init_71 (by decide +kernel) ?_
  refine zj_putI X1 (ci := 5) (k := 6) (ty0 := tyX5) (ty := .boolean) dX5_init_72 rfl rfl inX5 tyX5_ok nmX5 (by decide) (Nat.le_of_ble_eq_true rfl) rfl k_221 rfl rfl rfl rfl ?_
  refine zj_ss (ss1 := ([.inr (5, [.ref (a0 + 1), .ref (a0 + 42), .ref (a0 + 83), .ref (a0 + 124), .ref (a0 + 290), .ref (a0 + 293), .int (nI 0)])] ++ stCells tc (a0 + 1) ++ stCells tc (a0 + 42) ++ stCells tc (a0 + 83) ++ hiCells tc (a0 + 124) ++ taCells tc (a0 + 290) ++ teCells tc (a0 + 293))) rfl ?_
  exact zj_ret X1 dX5_init_75 rfl
