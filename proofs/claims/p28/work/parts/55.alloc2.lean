theorem zK_narrow {A A' : Nat → Prop} {D : va_G} {tc : Nat → ClassId} {tF tL tM : Nat} {U : State} {H : Heap} (h : zK A D tc tF tL tM U H) (hA : ∀ q, A' q → A q) : zK A' D tc tF tL tM U H := by
  obtain ⟨h1, h2, h3, h4, h5, h6, h7, h8, h9, h10, h11⟩ := h
  exact ⟨h1, h2, h3, h4, h5, h6.narrow hA, h7.narrow hA, h8.narrow hA, h9.narrow hA, h10.narrow hA, h11.narrow hA⟩
section ZJ2
variable {p : Program} {l : Launch} {e : Env} {R : Room} {s : State} {m : MethodId} {args : Array Value} {below : List Frame} {meth : Method} {c : Code} {D : va_G} {cl : List vw_C} {a0 nL : Nat} {Q : State → Prop} {cells slots : Nat} {ss : List va_E} {pc : Nat} {lv : List (Nat × Value)} {st : List Value}
variable {K : State → Heap → Prop} {tys : List (ClassId × FieldType)} {cc : ByteArray} {own : String}
theorem zj_dup (X : zY p s m args meth c D cl a0 nL K tys cc own) {x : Nat} (d : decode cc pc = .ok (.dup, 1)) (kk : zJ p l e R s m args below meth c D cl a0 nL Q cells slots ss (pc + 1) lv (.ref x :: .ref x :: st)) : zJ p l e R s m args below meth c D cl a0 nL Q cells slots ss pc lv (.ref x :: st) :=
  fun H L ls a b h => lv_dup X.1.1 X.1.2.1 d rfl (kk H L ls a b h)
theorem zj_getR (X : zY p s m args meth c D cl a0 nL K tys cc own) {ci q idx Nf : Nat} {C : String} {T : u_T} {fs : List Value} (v : Value) (d : decode cc pc = .ok (.getfield idx, 3)) (hss : ss[0]? = some (.inr (ci, fs))) (hc : cl[ci]? = some (C, T, Nf)) (hin : ∀ w ∈ u_ws C T Nf, w ∈ zT) (hq : q < Nf) (hv : fs[q]? = some v) (hd : (T q).1 = C) (hl : Cond.fieldLink own idx C (T q).2.1 (T q).2.2.1 ∈ zT) (kk : zJ p l e R s m args below meth c D cl a0 nL Q cells slots ss (pc + 3) lv (v :: st)) : zJ p l e R s m args below meth c D cl a0 nL Q cells slots ss pc lv (.ref a0 :: st) := by
  intro H L ls a b h
  have hw := a.2 0 _ hss
  rw [Nat.add_zero] at hw
  exact va_get (D := D) (cl := cl) (tys := tys) (ws := [(a0, .inr (ci, fs))]) X.1.1 X.1.2.1 X.1.2.2.2.2 hin X.1.2.2.2.1 X.2.2.2.1 (zP1 hw) 0 rfl hc q hq (X.1.2.2.2.2 _ hl) (fun x hx => by rw [hd] at hx; exact hx) (v := v) hv d (kk H L ls a b h)
theorem zj_iast (X : zY p s m args meth c D cl a0 nL K tys cc own) {t : ClassId} {n : Nat} {f : Nat → Int32} {i : Int32} (k j : Nat) (x : Int32) (t0 : Nat) (d : decode cc pc = .ok (.iastore, 1)) (hss : ss[k]? = some (.inl (t, n, .inl f))) (ht : tys[t0]? = some (t, .int)) (hi : i = nI j) (hj : j < n) (hn : n < 2 ^ 31) (kk : zJ p l e R s m args below meth c D cl a0 nL Q cells slots (ss.set k (.inl (t, n, .inl (upd f j x)))) (pc + 1) lv st) : zJ p l e R s m args below meth c D cl a0 nL Q cells slots ss pc lv (.int x :: .int i :: .ref (a0 + k) :: st) := by
  intro H L ls a b h
  subst hi
  have hk : k < ss.length := (List.getElem?_eq_some_iff.mp hss).1
  have hw : H[a0 + k]? = some (vp_cell t (n, .inl f)) := a.2 k _ hss
  have hjc : (nI j).toNatClampNeg = j := nI_clamp (by omega)
  refine W.iast X.1.1 X.1.2.1 hw ((X.2.2.2.1.2 t0 _ ht).1 n (fun q => .int (f q))) (fun q => by cases q) (by show ¬ (nI j < 0 ∨ (arrV _ _ _).slots.size ≤ _); rw [arrV_size]; exact vp_in_nI hj hn) rfl rfl d fun H1 e1 z oq => ?_
  refine kk H1 _ ls (zA0_set a hk z oq ?_) (b.put z oq (Nat.le_add_right a0 k)) h
  show H1[a0 + k]? = some (vp_cell t (n, .inl (upd f j x)))
  rw [e1, hjc]
  rw [vp_cell_i, vp_cell_i, arrV_store]
  congr 2
  funext q
  by_cases hq : q = j
  · subst hq
    simp [updV, upd]
  · simp [updV, upd, hq]
theorem zj_new (X : zY p s m args meth c D cl a0 nL K tys cc own) {ci idx Nf : Nat} {C : String} {T : u_T} {ty0 : Nat → FieldType} (fs : List Value) (d : decode cc pc = .ok (.new idx, 3)) (hc : cl[ci]? = some (C, T, Nf)) (hin : ∀ w ∈ u_ws C T Nf, w ∈ zT) (hty0 : ∀ j, j < Nf → parseFieldDescriptor (T j).2.2.1 = some (ty0 j)) (hcl : Cond.classLink own idx C ∈ zT) (hinst : Cond.instantiable C Nf ∈ zT) (hini : Cond.initialized C ∈ zT) (hfs : ∀ j, j < Nf → defaultValue (ty0 j) = vp_V fs j) (hcells : cells + 1 ≤ R.cells) (hslots : slots + Nf ≤ R.slots) (kk : zJ p l e R s m args below meth c D cl a0 nL Q (cells + 1) (slots + Nf) (ss ++ [.inr (ci, fs)]) (pc + 3) lv (.ref (a0 + ss.length) :: st)) : zJ p l e R s m args below meth c D cl a0 nL Q cells slots ss pc lv st := by
  intro H L ls a b h
  have hKn := X.2.2.2.1.1 ci _ hc
  refine W.newcK X.1.1 X.1.2.1 X.1.2.2.2.1 (X.1.2.2.2.2 _ hcl) (X.1.2.2.2.2 _ hinst) (X.1.2.2.2.2 _ hini) rfl d hcells hslots hKn.2.1 a.1 fun H1 kC hkC e1 z1 o1 => ?_
  exact kk H1 L ls (zA0_push a z1 o1 ⟨_, hc, (u_born ty0 X.1.2.2.2.2 hin hKn hkC e1 hty0).to hfs⟩) ⟨by have := b.1; have := a.1; omega, fun q h1 h2 => (o1 q (by have := b.1; have := a.1; omega)).trans (b.2.1 q h1 h2), b.2.2⟩ h
theorem zj_init {tc : Nat → ClassId} {tF tL tM idx maxL mc ms : Nat} {y : MethodName} {bytes : ByteArray} {rm : Room} {x : va_E} {post : List va_E} (ss0 : List va_E) (X : zY p s m args meth c D cl a0 nL (zK (fun q => a0 ≤ q) D tc tF tL tM) tys cc own) (hM : zMk l y bytes maxL rm (zK (fun q => a0 + ss0.length ≤ q) D tc tF tL tM) D cl (a0 + ss0.length) [x] post mc ms) (hss : ss = ss0 ++ [x]) (h1 : Cond.methodLink own idx y ∈ zT) (h2 : Cond.instanceMethod y ∈ zT) (h4 : Cond.initialized y.cls ∈ zT) (h5 : Cond.code y bytes maxL none ∈ zT) (hyn : y.name = "<init>")
    (hd : y.cls ≠ "java/lang/invoke/MethodHandle" ∧ y.cls ≠ "java/lang/invoke/VarHandle" ∧ (parseMethodDescriptor y.desc).map (fun d => d.parameters.length) = some 0) (hrc : rm.cells = mc ∧ rm.slots = ms) (hR : rm.frames + 1 ≤ R.frames ∧ 8 + (maxL + 11) + rm.locals ≤ R.locals) (hroom : (st.map fun v => v.category).sum ≤ 8) (d : decode cc pc = .ok (.invokespecial idx, 3)) (hf : cells + mc ≤ R.cells ∧ slots + ms ≤ R.slots)
    (kk : zJ p l e R s m args below meth c D cl a0 nL Q (cells + mc) (slots + ms) (ss0 ++ post) (pc + 3) lv st) : zJ p l e R s m args below meth c D cl a0 nL Q cells slots ss pc lv (.ref (a0 + ss0.length) :: st) := by
  subst hss
  intro H L ls a b h
  have hts := X.1.2.2.2.2
  have hlast : zA0 D cl (a0 + ss0.length) [x] H := by
    refine ⟨by rw [a.1, List.length_append, Nat.add_assoc], fun i z hz => ?_⟩
    have hi : i < 1 := (List.getElem?_eq_some_iff.mp hz).1
    have e : i = 0 := by omega
    subst e
    have := a.2 ss0.length x (by rw [List.getElem?_append_right (Nat.le_refl _), Nat.sub_self]; rfl)
    cases hz
    exact this
  refine va_callv (va_runI (As := []) (rest := st) X.1 hM (cwI 0 hts (zGoodC h5) rfl hrc.1 hrc.2 (hts _ h4) (hts _ h1) (hts _ h2) hyn hd hR) ⟨fun a2 U g mk q => ?_, fun U hU hWm => ⟨rfl, by rw [hU]; exact hlast, by rw [hU]; exact zK_narrow (X.2.2.2.2.2.2 U H hWm b.1 b.2.1) (fun q hq => by omega)⟩⟩ rfl rfl h.1 rfl (lv_room hroom) d hf) b (fun q _ hq => by omega) (fun q hq => by omega) (fun u t H1 L1 ht _ _ hB hz hk hS => kk H1 L1 ls ?_ hS h)
  · obtain ⟨q1, q2, q3⟩ := q
    exact ⟨q1, q2, (zK_ok (fun q => a0 + ss0.length ≤ q) D tc tF tL tM).1 U g mk a2 _ q3⟩
  · have hB' : zA0 D cl (a0 + ss0.length) post H1 := by rw [← ht]; exact hB
    refine ⟨by rw [hB'.1, List.length_append, Nat.add_assoc], fun i z hz => ?_⟩
    by_cases hl : i < ss0.length
    · rw [List.getElem?_append_left hl] at hz
      have hi := a.2 i z (by rw [List.getElem?_append_left hl]; exact hz)
      exact hi.kept (hk _ (by rw [a.1, List.length_append]; omega) (by omega))
    · rw [List.getElem?_append_right (by omega)] at hz
      have := hB'.2 _ z hz
      rw [show a0 + ss0.length + (i - ss0.length) = a0 + i by omega] at this
      exact this
end ZJ2
