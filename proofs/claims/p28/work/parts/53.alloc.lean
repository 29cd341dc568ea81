/-! MAKING CELLS: the cells ss lie one behind another from the address a0 on, and nothing behind them -/
def zA0 (D : va_G) (cl : List vw_C) (a0 : Nat) (ss : List va_E) (H : Heap) : Prop := H.size = a0 + ss.length ∧ ∀ i x, ss[i]? = some x → va_at D cl (a0 + i, x) H
def zJ (p : Program) (l : Launch) (e : Env) (R : Room) (s : State) (m : MethodId) (args : Array Value) (below : List Frame) (meth : Method) (c : Code) (D : va_G) (cl : List vw_C) (a0 nL : Nat) (Q : State → Prop) (cells slots : Nat) (ss : List va_E) (pc : Nat) (lv : List (Nat × Value)) (st : List Value) : Prop :=
  ∀ (H : Heap) (locs : List Loc) (ls : Array Slot), zA0 D cl a0 ss H → va_S (fun q => a0 ≤ q) s.heap H locs → lv_has ls nL lv → W p l e R s m args below meth c H locs cells slots Q (F0 m pc ls st)
def zY (p : Program) (s : State) (m : MethodId) (args : Array Value) (meth : Method) (c : Code) (D : va_G) (cl : List vw_C) (a0 nL : Nat) (K : State → Heap → Prop) (tys : List (ClassId × FieldType)) (cc : ByteArray) (own : String) : Prop :=
  CallFix p m c cc nL s args zT own ∧ meth.locks = false ∧ meth.sig.returnType = none ∧ va_K D cl tys s ∧ meth.name = "<init>" ∧ K s s.heap ∧ ∀ (U : State) (H : Heap), s.WarmedH U.vm → s.heap.size ≤ H.size → (∀ q : Nat, q < s.heap.size → ¬ a0 ≤ q → H[q]? = s.heap[q]?) → K U H
theorem zA0_lt {D : va_G} {cl : List vw_C} {a0 : Nat} {ss : List va_E} {H : Heap} {i : Nat} {x : va_E} (h : zA0 D cl a0 ss H) (hx : ss[i]? = some x) : a0 + i < H.size := by
  have := (List.getElem?_eq_some_iff.mp hx).1
  rw [h.1]; omega
theorem zA0_push {D : va_G} {cl : List vw_C} {a0 : Nat} {ss : List va_E} {H H1 : Heap} {x : va_E} (h : zA0 D cl a0 ss H) (hz : H1.size = a0 + ss.length + 1) (ho : ∀ q, q < a0 + ss.length → H1[q]? = H[q]?) (hx : va_at D cl (a0 + ss.length, x) H1) : zA0 D cl a0 (ss ++ [x]) H1 := by
  refine ⟨by rw [hz, List.length_append]; rfl, fun i y hy => ?_⟩
  by_cases hl : i < ss.length
  · rw [List.getElem?_append_left hl] at hy
    exact (h.2 i y hy).kept (ho _ (by omega))
  · rw [List.getElem?_append_right (by omega)] at hy
    have hz : i - ss.length < 1 := (List.getElem?_eq_some_iff.mp hy).1
    have e : i = ss.length := by omega
    subst e
    rw [Nat.sub_self] at hy
    cases hy
    exact hx
theorem zA0_set {D : va_G} {cl : List vw_C} {a0 k : Nat} {ss : List va_E} {H H1 : Heap} {x : va_E} (h : zA0 D cl a0 ss H) (hk : k < ss.length) (hz : H1.size = H.size) (ho : ∀ q, q ≠ a0 + k → H1[q]? = H[q]?) (hx : va_at D cl (a0 + k, x) H1) : zA0 D cl a0 (ss.set k x) H1 := by
  refine ⟨by rw [hz, h.1, List.length_set], fun i y hy => ?_⟩
  by_cases e : i = k
  · subst e
    rw [List.getElem?_set_self hk] at hy
    cases hy
    exact hx
  · rw [List.getElem?_set_ne (fun q => e q.symm)] at hy
    exact (h.2 i y hy).kept (ho _ (by omega))
section ZJ
variable {p : Program} {l : Launch} {e : Env} {R : Room} {s : State} {m : MethodId} {args : Array Value} {below : List Frame} {meth : Method} {c : Code} {D : va_G} {cl : List vw_C} {a0 nL : Nat} {Q : State → Prop} {cells slots : Nat} {ss : List va_E} {pc : Nat} {lv : List (Nat × Value)} {st : List Value}
variable {K : State → Heap → Prop} {tys : List (ClassId × FieldType)} {cc : ByteArray} {own : String}
theorem zj_aload (X : zY p s m args meth c D cl a0 nL K tys cc own) {k : Fin 4} (j : Nat) {x : Nat} (d : decode cc pc = .ok (.aload_n k, 1)) (hl : lv[j]? = some ((k : Nat), .ref x)) (kk : zJ p l e R s m args below meth c D cl a0 nL Q cells slots ss (pc + 1) lv (.ref x :: st)) : zJ p l e R s m args below meth c D cl a0 nL Q cells slots ss pc lv st :=
  fun H L ls a b h => lv_aload_n X.1.1 X.1.2.1 d rfl (lv_at h j hl) (kk H L ls a b h)
theorem zj_bipush (X : zY p s m args meth c D cl a0 nL K tys cc own) {n : Int} (v : Int32) (d : decode cc pc = .ok (.bipush n, 2)) (hv : (Int8.ofInt n).toInt32 = v) (kk : zJ p l e R s m args below meth c D cl a0 nL Q cells slots ss (pc + 2) lv (.int v :: st)) : zJ p l e R s m args below meth c D cl a0 nL Q cells slots ss pc lv st :=
  fun H L ls a b h => lv_bipush X.1.1 X.1.2.1 d hv (kk H L ls a b h)
theorem zj_sipush (X : zY p s m args meth c D cl a0 nL K tys cc own) {n : Int} (v : Int32) (d : decode cc pc = .ok (.sipush n, 3)) (hv : (Int16.ofInt n).toInt32 = v) (kk : zJ p l e R s m args below meth c D cl a0 nL Q cells slots ss (pc + 3) lv (.int v :: st)) : zJ p l e R s m args below meth c D cl a0 nL Q cells slots ss pc lv st :=
  fun H L ls a b h => lv_sipush X.1.1 X.1.2.1 d hv (kk H L ls a b h)
theorem zj_iconst (X : zY p s m args meth c D cl a0 nL K tys cc own) {n : Int} (v : Int32) (d : decode cc pc = .ok (.iconst n, 1)) (hv : Int32.ofInt n = v) (kk : zJ p l e R s m args below meth c D cl a0 nL Q cells slots ss (pc + 1) lv (.int v :: st)) : zJ p l e R s m args below meth c D cl a0 nL Q cells slots ss pc lv st :=
  fun H L ls a b h => lv_iconst X.1.1 X.1.2.1 d hv (kk H L ls a b h)
theorem zj_oinit (X : zY p s m args meth c D cl a0 nL K tys cc own) {idx x : Nat} (d : decode cc pc = .ok (.invokespecial idx, 3)) (hlink : Cond.methodLink own idx Lib.objectInit ∈ zT) (hinst : Cond.instanceMethod Lib.objectInit ∈ zT) (hcode : Cond.code Lib.objectInit ⟨#[0xb1]⟩ 1 none ∈ zT) (hf : 1 ≤ R.frames) (hlo : (st.map fun v => v.category).sum + 12 ≤ R.locals) (kk : zJ p l e R s m args below meth c D cl a0 nL Q cells slots ss (pc + 3) lv st) : zJ p l e R s m args below meth c D cl a0 nL Q cells slots ss pc lv (.ref x :: st) := by
  intro H L ls a b h
  refine W.objInit X.1.1 X.1.2.1 X.1.2.2.2.1 (X.1.2.2.2.2 _ hlink) (X.1.2.2.2.2 _ hinst) (X.1.2.2.2.2 _ hcode) (rest := st) rfl (by rw [X.1.2.2.1]; exact h.1) rfl d hf (by show 2 * 0 + _ + 12 ≤ _; omega) ?_
  exact kk H L ls a b h
theorem zj_newI (X : zY p s m args meth c D cl a0 nL K tys cc own) {t : ClassId} (t0 n : Nat) {z : Int32} (d : decode cc pc = .ok (.newarray .int, 2)) (harr : Cond.arrayClass (newarray.typeOf .int) ∈ zT) (ht : tys[t0]? = some (t, .int)) (hz : z = nI n) (hn : n < 2 ^ 20) (hcells : cells + 1 ≤ R.cells) (hslots : slots + n ≤ R.slots) (kk : zJ p l e R s m args below meth c D cl a0 nL Q (cells + 1) (slots + n) (ss ++ [.inl (t, n, .inl (fun _ => 0))]) (pc + 2) lv (.ref (a0 + ss.length) :: st)) : zJ p l e R s m args below meth c D cl a0 nL Q cells slots ss pc lv (.int z :: st) := by
  intro H L ls a b h
  subst hz
  refine va_newaK X.1.1 X.1.2.1 (atype := .int) (X.1.2.2.2.2 _ harr) rfl d rfl (nI_pos (by omega)) (nI_clamp (by omega)) (by show n * 4 ≤ _; omega) hcells hslots a.1 (fun H1 cA e1 z1 o1 hAr hNm => ?_)
  have hT : s.vm.findClass ("[" ++ (newarray.typeOf .int).toString) = some t := (X.2.2.2.1.2 t0 _ ht).2
  cases hT.symm.trans hNm
  refine kk H1 L ls (zA0_push a (by rw [z1]) o1 ?_) ⟨by have := b.1; have := a.1; omega, fun q h1 h2 => (o1 q (by have := b.1; have := a.1; omega)).trans (b.2.1 q h1 h2), b.2.2⟩ h
  show H1[a0 + ss.length]? = some (vp_cell t (n, .inl (fun _ => 0)))
  rw [vp_cell_i]
  exact e1
theorem zj_newC (X : zY p s m args meth c D cl a0 nL K tys cc own) {t : ClassId} (t0 n : Nat) {z : Int32} (d : decode cc pc = .ok (.newarray .char, 2)) (harr : Cond.arrayClass (newarray.typeOf .char) ∈ zT) (ht : tys[t0]? = some (t, .char)) (hz : z = nI n) (hn : n < 2 ^ 20) (hcells : cells + 1 ≤ R.cells) (hslots : slots + n ≤ R.slots) (kk : zJ p l e R s m args below meth c D cl a0 nL Q (cells + 1) (slots + n) (ss ++ [.inl (t, n, .inl (fun _ => 0))]) (pc + 2) lv (.ref (a0 + ss.length) :: st)) : zJ p l e R s m args below meth c D cl a0 nL Q cells slots ss pc lv (.int z :: st) := by
  intro H L ls a b h
  subst hz
  refine va_newaK X.1.1 X.1.2.1 (atype := .char) (X.1.2.2.2.2 _ harr) rfl d rfl (nI_pos (by omega)) (nI_clamp (by omega)) (by show n * 2 ≤ _; omega) hcells hslots a.1 (fun H1 cA e1 z1 o1 hAr hNm => ?_)
  have hT : s.vm.findClass ("[" ++ (newarray.typeOf .char).toString) = some t := (X.2.2.2.1.2 t0 _ ht).2
  cases hT.symm.trans hNm
  refine kk H1 L ls (zA0_push a (by rw [z1]) o1 ?_) ⟨by have := b.1; have := a.1; omega, fun q h1 h2 => (o1 q (by have := b.1; have := a.1; omega)).trans (b.2.1 q h1 h2), b.2.2⟩ h
  show H1[a0 + ss.length]? = some (vp_cell t (n, .inl (fun _ => 0)))
  rw [vp_cell_i]
  exact e1
theorem zj_putR (X : zY p s m args meth c D cl a0 nL K tys cc own) {ci k idx Nf x : Nat} {C : String} {T : u_T} {ty0 : Nat → FieldType} {ty : FieldType} {fs : List Value} (d : decode cc pc = .ok (.putfield idx, 3)) (hss : ss[0]? = some (.inr (ci, fs))) (hc : cl[ci]? = some (C, T, Nf)) (hin : ∀ w ∈ u_ws C T Nf, w ∈ zT) (hty0 : ∀ j, j < Nf → parseFieldDescriptor (T j).2.2.1 = some (ty0 j)) (hnm : ∀ i, i < Nf → ∀ j, j < Nf → i ≠ j → (T i).2.1 ≠ (T j).2.1) (hk : k < Nf) (hl : k < fs.length) (hC : (T k).1 = C) (hlink : Cond.fieldLink own idx C (T k).2.1 (T k).2.2.1 ∈ zT) (hfin : (T k).2.2.2 = true) (hdecl : (T k).1 = own) (hd : parseFieldDescriptor (T k).2.2.1 = some ty) (hn : narrow ty (.ref x) = .ref x) (hfit : fits ty (.ref x) = true)
    (kk : zJ p l e R s m args below meth c D cl a0 nL Q cells slots (ss.set 0 (.inr (ci, fs.set k (.ref x)))) (pc + 3) lv st) : zJ p l e R s m args below meth c D cl a0 nL Q cells slots ss pc lv (.ref x :: .ref a0 :: st) := by
  intro H L ls a b h
  have hts := X.1.2.2.2.2
  have hown := X.1.2.2.2.1
  have hK := X.2.2.2.1
  have hap := va_apart (own := own) (D := D) (cl := cl) (tys := tys) (s := s) (args := args) (Ts := zT) hts hin ty0 hty0 hnm hK hc
  have h0 : 0 < ss.length := (List.getElem?_eq_some_iff.mp hss).1
  have hw := a.2 0 _ hss
  rw [Nat.add_zero] at hw
  obtain ⟨r, h1, cell, q1, q2, q3, q4⟩ := hw
  have hr : r = (C, T, Nf) := Option.some.inj (h1.symm.trans hc)
  subst hr
  obtain ⟨hS, hfc, kC, hkC, hkind⟩ := hK.1 ci _ hc
  obtain ⟨cf, kf, fi, f, hi, hsl⟩ := hS k hk
  have hlay := hts _ (hin _ (u_in_lay hk))
  unfold u_lay at hlay
  rw [if_pos hfin] at hlay
  have hst := (u_facts hfc hkC (u_lays hts hin hk) hi).1
  have hcf : m.cls = cf := by
    obtain ⟨_, _, c', _, _, _, -, -, hf', -, -, -, hown2, -⟩ := Cond.laysFinal_spec hlay
    have e1 : c' = cf := by have := hi.symm.trans hf'; simp at this; exact this.1.symm
    rw [hdecl] at hown2
    rw [← e1]; exact Option.some.inj (hown.symm.trans hown2)
  have h6 := u_fits hfc hkC hkind (Or.inr hlay) hi hd hn hfit
  refine W.putFinK X.1.1 X.1.2.1 hown (hts _ hlink) (by rw [← hC]; exact hi) hst hcf X.2.2.2.2.1 (by rw [q2]; exact h6) q1 q3 (by rw [hsl]; exact k2_hasslot (q4 k hk)) rfl rfl d fun H1 e1 e2 e3 => ?_
  rw [hsl] at e1 ⊢
  refine kk H1 _ ls (zA0_set a h0 e2 (fun q hq => e3 q (by omega)) ?_) (b.put e2 e3 (Nat.le_refl a0)) h
  rw [Nat.add_zero]
  exact ⟨_, hc, t_OB.to (V := updV (vp_V fs) k (.ref x)) ⟨_, e1, q2, q3, t_set q4 hap hk (.ref x)⟩ (fun j _ => vp_updV_set hl _ j)⟩
theorem zj_ret {mc ms : Nat} (X : zY p s m args meth c D cl a0 nL K tys cc own) {post : List va_E} (d : decode cc pc = .ok (.return_, 1)) (hp : ss = post) : zJ p l e R s m args below meth c D cl a0 nL (MQ below (va_Qv (fun _ : Unit => True) (fun _ t => zA0 D cl a0 post t.heap) (fun q => a0 ≤ q)) args s mc ms (fun q => a0 ≤ q)) mc ms ss pc lv [] := by
  subst hp
  exact fun H L ls a b h => W.vret X.1.1 X.1.2.1 X.2.2.1 (fun t ht _ => ⟨⟨(), rfl, trivial, by show zA0 D cl a0 ss t.heap; rw [ht]; exact a⟩, b.F ht⟩) b.2.2 d (hlocks := X.2.1)
end ZJ
/-- a constructor's contract: its object is the last cell of the heap at the start; then it, and the cells that it made -/
def zMk (l : Launch) (y : MethodName) (cc : ByteArray) (nL : Nat) (rm : Room) (K : State → Heap → Prop) (D : va_G) (cl : List vw_C) (a0 : Nat) (pre post : List va_E) (mc ms : Nat) : Prop :=
  Met l y (Cond.code y cc nL none :: zT) rm (va_Pc [.ref a0] (fun U => zA0 D cl a0 pre U.heap ∧ K U U.heap)) (va_Qv (fun _ : Unit => True) (fun _ t => zA0 D cl a0 post t.heap) (fun q => a0 ≤ q)) mc ms (fun q => a0 ≤ q)
theorem zMk_of {l : Launch} {y : MethodName} {cc : ByteArray} {nL : Nat} {rm : Room} {K : State → Heap → Prop} {D : va_G} {cl : List vw_C} {tys : List (ClassId × FieldType)} {a0 : Nat} {pre post : List va_E} {mc ms : Nat} (own : String) (lv : List (Nat × Value))
    (hK : zKK K (fun q => a0 ≤ q) D cl tys) (hy : plainName y.cls = true) (ho : y.cls = own) (hn : y.name = "<init>") (hlen : (lg_sl [.ref a0]).length ≤ nL) (hlv : lv_args 0 [.ref a0] = lv)
    (body : ∀ (p : Program) (e : Env) (s : State) (m : MethodId) (args : Array Value) (below : List Frame) (meth : Method) (c : Code), zY p s m args meth c D cl a0 nL K tys cc own → zJ p l e rm s m args below meth c D cl a0 nL (MQ below (va_Qv (fun _ : Unit => True) (fun _ t => zA0 D cl a0 post t.heap) (fun q => a0 ≤ q)) args s mc ms (fun q => a0 ≤ q)) 0 0 pre 0 lv []) : zMk l y cc nL rm K D cl a0 pre post mc ms := by
  refine Met.ofW (cc := cc) (maxL := nL) (ret := none) hy rfl ?_
  intro p e s m args below meth c s₁ B hml hv
  obtain ⟨rfl, hW, hKs⟩ := hv
  have hts := atoms_spec (ws := Cond.code y cc nL none :: zT) B.pre
  have hown : s.vm.findClass own = some m.cls := by rw [← ho]; exact findClass_of_methodNamed B.named
  have X : zY p s m _ meth c D cl a0 nL K tys cc own := ⟨⟨B.exec, B.bytes, hml, hown, fun w h => hts w (List.mem_cons_of_mem _ h)⟩, B.notSynchronized, B.returns, hK.2.2 _ _ hKs, (name_of_methodNamed B.named B.method).1.trans hn, hKs, fun U H h1 h2 h3 => hK.2.1 s U s.heap H h1 h2 h3 hKs⟩
  have hl := lv_entry [.ref a0] (n := nL) hlen
  rw [lg_entry_eq]
  rw [hlv] at hl
  exact body p e s m _ below meth c X s.heap [] _ hW va_S.rf hl
