/-! CONTRACTS over the flat memory, the entry of a method, its ends, calls. -/
/-- what a kind of world-knowledge K bears: frames, warming, writes inside A; the classes are in it -/
def zKK (K : State → Heap → Prop) (A : Nat → Prop) (D : va_G) (cl : List vw_C) (tys : List (ClassId × FieldType)) : Prop :=
  (∀ (U : State) (g : JFrame) (mk : MethodId) (a : Array Value) (H : Heap), K U H → K (U.calling g mk a) H) ∧
  (∀ (U U' : State) (H H' : Heap), U.WarmedH U'.vm → H.size ≤ H'.size → (∀ q : Nat, q < H.size → ¬ A q → H'[q]? = H[q]?) → K U H → K U' H') ∧
  (∀ (U : State) (H : Heap), K U H → va_K D cl tys U)
def zPre (K : State → Heap → Prop) (D : va_G) (cl : List vw_C) (tc : Nat → ClassId) (ad : Nat → Nat) (N : Nat) (sh : Nat → ZS) (av : List Value) (μ : Nat → Int32) : Array Value → State → Prop := va_Pc av (fun U => zW D cl tc ad N sh μ U.heap ∧ K U U.heap)
theorem zPre_blind {K : State → Heap → Prop} {A : Nat → Prop} {D : va_G} {cl : List vw_C} {tys : List (ClassId × FieldType)} {tc : Nat → ClassId} {ad : Nat → Nat} {N : Nat} {sh : Nat → ZS} {av : List Value} {μ : Nat → Int32} (hK : zKK K A D cl tys) : FrameBlind (zPre K D cl tc ad N sh av μ) := by
  intro a U g mk h
  obtain ⟨h1, h2, h3⟩ := h
  exact ⟨h1, h2, hK.1 U g mk a _ h3⟩
def zMi (l : Launch) (y : MethodName) (cc : ByteArray) (nL : Nat) (ret : Option FieldType) (rm : Room) (K : State → Heap → Prop) (A : Nat → Prop) (D : va_G) (cl : List vw_C) (tc : Nat → ClassId) (ad : Nat → Nat) (N : Nat) (sh : Nat → ZS) (av : List Value) (μ : Nat → Int32) (post : Int32 → (Nat → Int32) → Prop) : Prop :=
  Met l y (Cond.code y cc nL ret :: zT) rm (zPre K D cl tc ad N sh av μ) (va_Qi post (fun u t => zW D cl tc ad N sh u t.heap) A) 0 0 A
def zMv (l : Launch) (y : MethodName) (cc : ByteArray) (nL : Nat) (rm : Room) (K : State → Heap → Prop) (A : Nat → Prop) (D : va_G) (cl : List vw_C) (tc : Nat → ClassId) (ad : Nat → Nat) (N : Nat) (sh : Nat → ZS) (av : List Value) (μ : Nat → Int32) (post : (Nat → Int32) → Prop) : Prop :=
  Met l y (Cond.code y cc nL none :: zT) rm (zPre K D cl tc ad N sh av μ) (va_Qv post (fun u t => zW D cl tc ad N sh u t.heap) A) 0 0 A
def zMq (l : Launch) (y : MethodName) (cc : ByteArray) (nL : Nat) (ret : Option FieldType) (rm : Room) (K : State → Heap → Prop) (A : Nat → Prop) (D : va_G) (cl : List vw_C) (tc : Nat → ClassId) (ad : Nat → Nat) (N : Nat) (sh : Nat → ZS) (av : List Value) (μ : Nat → Int32) (post : Option Nat → (Nat → Int32) → Prop) : Prop :=
  Met l y (Cond.code y cc nL ret :: zT) rm (zPre K D cl tc ad N sh av μ) (va_Qq post (fun u t => zW D cl tc ad N sh u t.heap) A) 0 0 A
theorem zM_of {l : Launch} {y : MethodName} {cc : ByteArray} {nL : Nat} {ret : Option FieldType} {rm : Room} {K : State → Heap → Prop} {A : Nat → Prop} {D : va_G} {cl : List vw_C} {tys : List (ClassId × FieldType)} {tc : Nat → ClassId} {ad : Nat → Nat} {N : Nat} {sh : Nat → ZS} {ow : Nat → Nat} {av : List Value} {μ : Nat → Int32} {Qc : Array Value → State → Outcome → State → Prop} (own : String) (lv : List (Nat × Value))
    (hK : zKK K A D cl tys) (inj : ∀ i j, i < N → j < N → ad i = ad j → i = j) (hA : ∀ k, k < N → A (ad k)) (hO : zO N sh ow) (hy : plainName y.cls = true) (ho : y.cls = own) (hlen : (lg_sl av).length ≤ nL) (hlv : lv_args 0 av = lv)
    (body : ∀ (p : Program) (e : Env) (s : State) (m : MethodId) (args : Array Value) (below : List Frame) (meth : Method) (c : Code), zX p s m args meth c A D cl ad N nL K tys ow sh cc own ret → zG p l e rm s m args below meth c A D cl tc ad N sh nL (MQ below Qc args s rm.cells rm.slots A) μ 0 lv []) :
    Met l y (Cond.code y cc nL ret :: zT) rm (zPre K D cl tc ad N sh av μ) Qc rm.cells rm.slots A := by
  refine Met.ofW (cc := cc) (maxL := nL) (ret := ret) hy rfl ?_
  intro p e s m args below meth c s₁ B hml hv
  obtain ⟨rfl, hW, hKs⟩ := hv
  have hts := atoms_spec (ws := Cond.code y cc nL ret :: zT) B.pre
  have hown : s.vm.findClass own = some m.cls := by rw [← ho]; exact findClass_of_methodNamed B.named
  have X : zX p s m av.toArray meth c A D cl ad N nL K tys ow sh cc own ret := ⟨⟨B.exec, B.bytes, hml, hown, fun w h => hts w (List.mem_cons_of_mem _ h)⟩, B.notSynchronized, B.returns, inj, hA, hK.2.2 _ _ hKs, hO, fun U H h1 h2 h3 => hK.2.1 s U s.heap H h1 h2 h3 hKs, hKs⟩
  have hl := lv_entry av (n := nL) hlen
  rw [lg_entry_eq]
  rw [hlv] at hl
  exact W.widen (Nat.zero_le _) (Nat.zero_le _) (body p e s m av.toArray below meth c X s.heap [] _ hW va_S.rf hl)
section ZE
variable {p : Program} {l : Launch} {e : Env} {R : Room} {s : State} {m : MethodId} {args : Array Value} {below : List Frame} {meth : Method} {c : Code} {A : Nat → Prop} {D : va_G} {cl : List vw_C} {tc : Nat → ClassId} {ad : Nat → Nat} {N : Nat} {sh : Nat → ZS} {nL : Nat} {Q : State → Prop} {μ : Nat → Int32} {pc : Nat} {lv : List (Nat × Value)} {st rest As : List Value}
variable {K : State → Heap → Prop} {tys : List (ClassId × FieldType)} {ow : Nat → Nat} {cc : ByteArray} {own : String} {ret : Option FieldType}
theorem zr_iret {v : Int32} {post : Int32 → (Nat → Int32) → Prop} (X : zX p s m args meth c A D cl ad N nL K tys ow sh cc own (some .int)) (d : decode cc pc = .ok (.ireturn, 1)) (hp : post v μ) : zG p l e R s m args below meth c A D cl tc ad N sh nL (MQ below (va_Qi post (fun u t => zW D cl tc ad N sh u t.heap) A) args s R.cells R.slots A) μ pc lv [.int v] :=
  fun H L ls a b h => W.iret X.1.1 X.1.2.1 X.2.2.1 (fun t ht _ => ⟨⟨v, μ, rfl, hp, by show zW D cl tc ad N sh _ t.heap; rw [ht]; exact a⟩, b.F ht⟩) b.2.2 d (hlocks := X.2.1)
theorem zr_zret {v : Int32} {post : Int32 → (Nat → Int32) → Prop} (X : zX p s m args meth c A D cl ad N nL K tys ow sh cc own (some .boolean)) (d : decode cc pc = .ok (.ireturn, 1)) (hv : narrow .boolean (.int v) = .int v) (hp : post v μ) : zG p l e R s m args below meth c A D cl tc ad N sh nL (MQ below (va_Qi post (fun u t => zW D cl tc ad N sh u t.heap) A) args s R.cells R.slots A) μ pc lv [.int v] :=
  fun H L ls a b h => W.zret X.1.1 X.1.2.1 X.2.2.1 hv (fun t ht _ => ⟨⟨v, μ, rfl, hp, by show zW D cl tc ad N sh _ t.heap; rw [ht]; exact a⟩, b.F ht⟩) b.2.2 d (hlocks := X.2.1)
theorem zr_vret {post : (Nat → Int32) → Prop} (X : zX p s m args meth c A D cl ad N nL K tys ow sh cc own none) (d : decode cc pc = .ok (.return_, 1)) (hp : post μ) : zG p l e R s m args below meth c A D cl tc ad N sh nL (MQ below (va_Qv post (fun u t => zW D cl tc ad N sh u t.heap) A) args s R.cells R.slots A) μ pc lv [] :=
  fun H L ls a b h => W.vret X.1.1 X.1.2.1 X.2.2.1 (fun t ht _ => ⟨⟨μ, rfl, hp, by show zW D cl tc ad N sh _ t.heap; rw [ht]; exact a⟩, b.F ht⟩) b.2.2 d (hlocks := X.2.1)
theorem zr_aret {C : String} {v : Value} (r : Option Nat) {post : Option Nat → (Nat → Int32) → Prop} (X : zX p s m args meth c A D cl ad N nL K tys ow sh cc own (some (.object C))) (d : decode cc pc = .ok (.areturn, 1)) (hv : va_rf r = v) (hp : post r μ) : zG p l e R s m args below meth c A D cl tc ad N sh nL (MQ below (va_Qq post (fun u t => zW D cl tc ad N sh u t.heap) A) args s R.cells R.slots A) μ pc lv [v] := by
  subst hv
  exact fun H L ls a b h => W.aret X.1.1 X.1.2.1 X.2.2.1 (Or.inl ⟨_, rfl⟩) (va_rf_or r) (fun t ht _ => ⟨⟨r, μ, rfl, hp, by show zW D cl tc ad N sh _ t.heap; rw [ht]; exact a⟩, b.F ht⟩) b.2.2 d (hlocks := X.2.1)
theorem zGoodV {index : Nat} {C : String} {y : MethodName} {bytes : ByteArray} {maxL : Nat} {r : Option FieldType} (h1 : Cond.methodLink own index y ∈ zT) (h2 : Cond.instanceMethod y ∈ zT) (h3 : Cond.selects C y y ∈ zT) (h4 : Cond.initialized C ∈ zT) (h5 : Cond.code y bytes maxL r ∈ zT) : GoodIn zT (wsV own index C y (Cond.code y bytes maxL r :: zT)) := by
  intro w hw
  have : w ∈ zT := by
    unfold wsV at hw
    simp only [List.cons_append, List.nil_append, List.mem_cons] at hw
    rcases hw with rfl | rfl | rfl | rfl | rfl | hw
    · exact h1
    · exact h2
    · exact h3
    · exact h4
    · exact h5
    · exact hw
  exact zT_good w this
theorem zGoodS {index : Nat} {y : MethodName} {bytes : ByteArray} {maxL : Nat} {r : Option FieldType} (h1 : Cond.methodLink own index y ∈ zT) (h2 : Cond.static y ∈ zT) (h4 : Cond.initialized own ∈ zT) (h5 : Cond.code y bytes maxL r ∈ zT) : GoodIn zT (wsS own index y (Cond.code y bytes maxL r :: zT)) := by
  intro w hw
  have : w ∈ zT := by
    unfold wsS at hw
    simp only [List.cons_append, List.nil_append, List.mem_cons] at hw
    rcases hw with rfl | rfl | rfl | rfl | hw
    · exact h1
    · exact h2
    · exact h4
    · exact h5
    · exact hw
  exact zT_good w this
theorem zGoodC {y : MethodName} {bytes : ByteArray} {maxL : Nat} {r : Option FieldType} (h5 : Cond.code y bytes maxL r ∈ zT) : GoodIn zT (Cond.code y bytes maxL r :: zT) := by
  intro w hw
  rcases List.mem_cons.mp hw with rfl | hw
  · exact zT_good _ h5
  · exact zT_good w hw
theorem zRun_V {Qc : Array Value → State → Outcome → State → Prop} {index maxL : Nat} {C : String} {y : MethodName} {bytes : ByteArray} {r : Option FieldType} {rm : Room} {k n ci o Nf : Nat} {T : u_T} {fs : List Zf} {H : Heap} {locs : List Loc} {ls : Array Slot}
    (X : zX p s m args meth c A D cl ad N nL K tys ow sh cc own ret) (hKK : zKK K A D cl tys) (hM : Met l y (Cond.code y bytes maxL r :: zT) rm (zPre K D cl tc ad N sh (.ref (ad k) :: As) μ) Qc 0 0 A) (h1 : Cond.methodLink own index y ∈ zT) (h2 : Cond.instanceMethod y ∈ zT) (h3 : Cond.selects C y y ∈ zT) (h4 : Cond.initialized C ∈ zT) (h5 : Cond.code y bytes maxL r ∈ zT)
    (hd : y.cls = C ∧ y.cls ≠ "java/lang/invoke/MethodHandle" ∧ y.cls ≠ "java/lang/invoke/VarHandle" ∧ (parseMethodDescriptor y.desc).map (fun d => d.parameters.length) = some n) (hrc : rm.cells = 0 ∧ rm.slots = 0) (hR : rm.frames + 1 ≤ R.frames ∧ 8 + (maxL + 11) + rm.locals ≤ R.locals) (hk : k < N) (hs : sh k = .inr (.inl (ci, o, fs))) (hc : cl[ci]? = some (C, T, Nf)) (hn : As.length = n) (hst : st = As.reverse ++ .ref (ad k) :: rest) (hroom : (rest.map fun v => v.category).sum ≤ 8) (d : decode cc pc = .ok (.invokevirtual index, 3))
    (a : zW D cl tc ad N sh μ H) (b : va_S A s.heap H locs) (h : lv_has ls nL lv) : va_Run p l e R s m args below meth c H locs R.cells R.slots 0 0 (F0 m pc ls st) rest (Qc (Value.ref (ad k) :: As).toArray) A := by
  have hw := a k hk
  rw [hs] at hw
  exact va_runV (As := As) (rest := rest) (b := ad k) (nL := nL) X.1 hM (cwV n X.1.2.2.2.2 (zGoodV h1 h2 h3 h4 h5) rfl hrc.1 hrc.2 hd hR) ⟨zPre_blind hKK, va_recv (ws := [(ad k, .inr (ci, fs.mapIdx (zv ad μ o)))]) X.2.2.2.2.2.1 (zP1 hw) (ci := ci) (q0 := 0) hc rfl, fun U hU hWm => ⟨rfl, by rw [hU]; exact a, by rw [hU]; exact X.2.2.2.2.2.2.2.1 U H hWm b.1 b.2.1⟩⟩ rfl hn h.1 hst (lv_room hroom) d ⟨Nat.le_refl _, Nat.le_refl _⟩
theorem zRun_S {Qc : Array Value → State → Outcome → State → Prop} {index maxL : Nat} {y : MethodName} {bytes : ByteArray} {r : Option FieldType} {rm : Room} {n : Nat} {H : Heap} {locs : List Loc} {ls : Array Slot}
    (X : zX p s m args meth c A D cl ad N nL K tys ow sh cc own ret) (hKK : zKK K A D cl tys) (hM : Met l y (Cond.code y bytes maxL r :: zT) rm (zPre K D cl tc ad N sh As μ) Qc 0 0 A) (h1 : Cond.methodLink own index y ∈ zT) (h2 : Cond.static y ∈ zT) (h4 : Cond.initialized own ∈ zT) (h5 : Cond.code y bytes maxL r ∈ zT)
    (hd : y.cls = own ∧ y.cls ≠ "java/lang/invoke/MethodHandle" ∧ y.cls ≠ "java/lang/invoke/VarHandle" ∧ (parseMethodDescriptor y.desc).map (fun d => d.parameters.length) = some n) (hrc : rm.cells = 0 ∧ rm.slots = 0) (hR : rm.frames + 1 ≤ R.frames ∧ 8 + (maxL + 11) + rm.locals ≤ R.locals) (hn : As.length = n) (hst : st = As.reverse ++ rest) (hroom : (rest.map fun v => v.category).sum ≤ 8) (d : decode cc pc = .ok (.invokestatic index, 3))
    (a : zW D cl tc ad N sh μ H) (b : va_S A s.heap H locs) (h : lv_has ls nL lv) : va_Run p l e R s m args below meth c H locs R.cells R.slots 0 0 (F0 m pc ls st) rest (Qc As.toArray) A :=
  va_runS (As := As) (rest := rest) (nL := nL) X.1 hM (cwS n X.1.2.2.2.2 (zGoodS h1 h2 h4 h5) rfl hrc.1 hrc.2 hd hR) ⟨zPre_blind hKK, fun U hU hWm => ⟨rfl, by rw [hU]; exact a, by rw [hU]; exact X.2.2.2.2.2.2.2.1 U H hWm b.1 b.2.1⟩⟩ rfl hn h.1 hst (lv_room hroom) d ⟨Nat.le_refl _, Nat.le_refl _⟩
theorem zRun_N {Qc : Array Value → State → Outcome → State → Prop} {index maxL : Nat} {host : String} {y : MethodName} {bytes : ByteArray} {r : Option FieldType} {rm : Room} {n : Nat} {H : Heap} {locs : List Loc} {ls : Array Slot}
    (X : zX p s m args meth c A D cl ad N nL K tys ow sh cc own ret) (hKK : zKK K A D cl tys) (hM : Met l y (Cond.code y bytes maxL r :: zT) rm (zPre K D cl tc ad N sh As μ) Qc 0 0 A) (h1 : va_Nw (.methodLinkNest own index y host) s) (h2 : Cond.static y ∈ zT) (h4 : Cond.initialized y.cls ∈ zT) (h5 : Cond.code y bytes maxL r ∈ zT)
    (hd : y.cls ≠ "java/lang/invoke/MethodHandle" ∧ y.cls ≠ "java/lang/invoke/VarHandle" ∧ (parseMethodDescriptor y.desc).map (fun d => d.parameters.length) = some n) (hrc : rm.cells = 0 ∧ rm.slots = 0) (hR : rm.frames + 1 ≤ R.frames ∧ 8 + (maxL + 11) + rm.locals ≤ R.locals) (hn : As.length = n) (hst : st = As.reverse ++ rest) (hroom : (rest.map fun v => v.category).sum ≤ 8) (d : decode cc pc = .ok (.invokestatic index, 3))
    (a : zW D cl tc ad N sh μ H) (b : va_S A s.heap H locs) (h : lv_has ls nL lv) : va_Run p l e R s m args below meth c H locs R.cells R.slots 0 0 (F0 m pc ls st) rest (Qc As.toArray) A :=
  va_runSN (As := As) (rest := rest) (nL := nL) X.1 hM ⟨va_cnB n X.1.2.2.2.2 (zGoodC h5) rfl hrc.1 hrc.2 h1 (X.1.2.2.2.2 _ h4) hd hR, X.1.2.2.2.2 _ h2, trivial⟩ ⟨zPre_blind hKK, fun U hU hWm => ⟨rfl, by rw [hU]; exact a, by rw [hU]; exact X.2.2.2.2.2.2.2.1 U H hWm b.1 b.2.1⟩⟩ rfl hn h.1 hst (lv_room hroom) d ⟨Nat.le_refl _, Nat.le_refl _⟩
theorem zr_cVi {post : Int32 → (Nat → Int32) → Prop} {r : Option FieldType} {index maxL : Nat} {C : String} {y : MethodName} {bytes : ByteArray} {rm : Room} {k n ci o Nf : Nat} {T : u_T} {fs : List Zf} (As rest : List Value)
    (X : zX p s m args meth c A D cl ad N nL K tys ow sh cc own ret) (hKK : zKK K A D cl tys) (hM : zMi l y bytes maxL r rm K A D cl tc ad N sh (.ref (ad k) :: As) μ post) (h1 : Cond.methodLink own index y ∈ zT) (h2 : Cond.instanceMethod y ∈ zT) (h3 : Cond.selects C y y ∈ zT) (h4 : Cond.initialized C ∈ zT) (h5 : Cond.code y bytes maxL r ∈ zT)
    (hd : y.cls = C ∧ y.cls ≠ "java/lang/invoke/MethodHandle" ∧ y.cls ≠ "java/lang/invoke/VarHandle" ∧ (parseMethodDescriptor y.desc).map (fun d => d.parameters.length) = some n) (hrc : rm.cells = 0 ∧ rm.slots = 0) (hR : rm.frames + 1 ≤ R.frames ∧ 8 + (maxL + 11) + rm.locals ≤ R.locals) (hk : k < N) (hs : sh k = .inr (.inl (ci, o, fs))) (hc : cl[ci]? = some (C, T, Nf)) (hn : As.length = n) (hst : st = As.reverse ++ .ref (ad k) :: rest) (hroom : (rest.map fun v => v.category).sum ≤ 8) (d : decode cc pc = .ok (.invokevirtual index, 3))
    (kk : ∀ (z : Int32) (u : Nat → Int32), post z u → zG p l e R s m args below meth c A D cl tc ad N sh nL Q u (pc + 3) lv (.int z :: rest)) : zG p l e R s m args below meth c A D cl tc ad N sh nL Q μ pc lv st := fun H L ls a b h =>
  va_calli (zRun_V X hKK hM h1 h2 h3 h4 h5 hd hrc hR hk hs hc hn hst hroom d a b h) b (fun _ _ h => h) (fun _ h => h) (fun z u t H1 L1 ht _ hp hB _ _ hS => kk z u hp H1 L1 ls (by rw [← ht]; exact hB) hS h)
theorem zr_cVv {post : (Nat → Int32) → Prop} {index maxL : Nat} {C : String} {y : MethodName} {bytes : ByteArray} {rm : Room} {k n ci o Nf : Nat} {T : u_T} {fs : List Zf} (As rest : List Value)
    (X : zX p s m args meth c A D cl ad N nL K tys ow sh cc own ret) (hKK : zKK K A D cl tys) (hM : zMv l y bytes maxL rm K A D cl tc ad N sh (.ref (ad k) :: As) μ post) (h1 : Cond.methodLink own index y ∈ zT) (h2 : Cond.instanceMethod y ∈ zT) (h3 : Cond.selects C y y ∈ zT) (h4 : Cond.initialized C ∈ zT) (h5 : Cond.code y bytes maxL none ∈ zT)
    (hd : y.cls = C ∧ y.cls ≠ "java/lang/invoke/MethodHandle" ∧ y.cls ≠ "java/lang/invoke/VarHandle" ∧ (parseMethodDescriptor y.desc).map (fun d => d.parameters.length) = some n) (hrc : rm.cells = 0 ∧ rm.slots = 0) (hR : rm.frames + 1 ≤ R.frames ∧ 8 + (maxL + 11) + rm.locals ≤ R.locals) (hk : k < N) (hs : sh k = .inr (.inl (ci, o, fs))) (hc : cl[ci]? = some (C, T, Nf)) (hn : As.length = n) (hst : st = As.reverse ++ .ref (ad k) :: rest) (hroom : (rest.map fun v => v.category).sum ≤ 8) (d : decode cc pc = .ok (.invokevirtual index, 3))
    (kk : ∀ (u : Nat → Int32), post u → zG p l e R s m args below meth c A D cl tc ad N sh nL Q u (pc + 3) lv rest) : zG p l e R s m args below meth c A D cl tc ad N sh nL Q μ pc lv st := fun H L ls a b h =>
  va_callv (zRun_V X hKK hM h1 h2 h3 h4 h5 hd hrc hR hk hs hc hn hst hroom d a b h) b (fun _ _ h => h) (fun _ h => h) (fun u t H1 L1 ht _ hp hB _ _ hS => kk u hp H1 L1 ls (by rw [← ht]; exact hB) hS h)
theorem zr_cVq {post : Option Nat → (Nat → Int32) → Prop} {r : Option FieldType} {index maxL : Nat} {C : String} {y : MethodName} {bytes : ByteArray} {rm : Room} {k n ci o Nf : Nat} {T : u_T} {fs : List Zf} (As rest : List Value)
    (X : zX p s m args meth c A D cl ad N nL K tys ow sh cc own ret) (hKK : zKK K A D cl tys) (hM : zMq l y bytes maxL r rm K A D cl tc ad N sh (.ref (ad k) :: As) μ post) (h1 : Cond.methodLink own index y ∈ zT) (h2 : Cond.instanceMethod y ∈ zT) (h3 : Cond.selects C y y ∈ zT) (h4 : Cond.initialized C ∈ zT) (h5 : Cond.code y bytes maxL r ∈ zT)
    (hd : y.cls = C ∧ y.cls ≠ "java/lang/invoke/MethodHandle" ∧ y.cls ≠ "java/lang/invoke/VarHandle" ∧ (parseMethodDescriptor y.desc).map (fun d => d.parameters.length) = some n) (hrc : rm.cells = 0 ∧ rm.slots = 0) (hR : rm.frames + 1 ≤ R.frames ∧ 8 + (maxL + 11) + rm.locals ≤ R.locals) (hk : k < N) (hs : sh k = .inr (.inl (ci, o, fs))) (hc : cl[ci]? = some (C, T, Nf)) (hn : As.length = n) (hst : st = As.reverse ++ .ref (ad k) :: rest) (hroom : (rest.map fun v => v.category).sum ≤ 8) (d : decode cc pc = .ok (.invokevirtual index, 3))
    (kk : ∀ (z : Option Nat) (u : Nat → Int32), post z u → zG p l e R s m args below meth c A D cl tc ad N sh nL Q u (pc + 3) lv (va_rf z :: rest)) : zG p l e R s m args below meth c A D cl tc ad N sh nL Q μ pc lv st := fun H L ls a b h =>
  va_callq (zRun_V X hKK hM h1 h2 h3 h4 h5 hd hrc hR hk hs hc hn hst hroom d a b h) b (fun _ _ h => h) (fun _ h => h) (fun z u t H1 L1 ht _ hp hB _ _ hS => kk z u hp H1 L1 ls (by rw [← ht]; exact hB) hS h)
theorem zr_cSi {post : Int32 → (Nat → Int32) → Prop} {r : Option FieldType} {index maxL : Nat} {y : MethodName} {bytes : ByteArray} {rm : Room} {n : Nat} (As rest : List Value)
    (X : zX p s m args meth c A D cl ad N nL K tys ow sh cc own ret) (hKK : zKK K A D cl tys) (hM : zMi l y bytes maxL r rm K A D cl tc ad N sh As μ post) (h1 : Cond.methodLink own index y ∈ zT) (h2 : Cond.static y ∈ zT) (h4 : Cond.initialized own ∈ zT) (h5 : Cond.code y bytes maxL r ∈ zT)
    (hd : y.cls = own ∧ y.cls ≠ "java/lang/invoke/MethodHandle" ∧ y.cls ≠ "java/lang/invoke/VarHandle" ∧ (parseMethodDescriptor y.desc).map (fun d => d.parameters.length) = some n) (hrc : rm.cells = 0 ∧ rm.slots = 0) (hR : rm.frames + 1 ≤ R.frames ∧ 8 + (maxL + 11) + rm.locals ≤ R.locals) (hn : As.length = n) (hst : st = As.reverse ++ rest) (hroom : (rest.map fun v => v.category).sum ≤ 8) (d : decode cc pc = .ok (.invokestatic index, 3))
    (kk : ∀ (z : Int32) (u : Nat → Int32), post z u → zG p l e R s m args below meth c A D cl tc ad N sh nL Q u (pc + 3) lv (.int z :: rest)) : zG p l e R s m args below meth c A D cl tc ad N sh nL Q μ pc lv st := fun H L ls a b h =>
  va_calli (zRun_S X hKK hM h1 h2 h4 h5 hd hrc hR hn hst hroom d a b h) b (fun _ _ h => h) (fun _ h => h) (fun z u t H1 L1 ht _ hp hB _ _ hS => kk z u hp H1 L1 ls (by rw [← ht]; exact hB) hS h)
theorem zr_cNi {post : Int32 → (Nat → Int32) → Prop} {r : Option FieldType} {index maxL : Nat} {host : String} {y : MethodName} {bytes : ByteArray} {rm : Room} {n : Nat} (As rest : List Value)
    (X : zX p s m args meth c A D cl ad N nL K tys ow sh cc own ret) (hKK : zKK K A D cl tys) (hM : zMi l y bytes maxL r rm K A D cl tc ad N sh As μ post) (h1 : va_Nw (.methodLinkNest own index y host) s) (h2 : Cond.static y ∈ zT) (h4 : Cond.initialized y.cls ∈ zT) (h5 : Cond.code y bytes maxL r ∈ zT)
    (hd : y.cls ≠ "java/lang/invoke/MethodHandle" ∧ y.cls ≠ "java/lang/invoke/VarHandle" ∧ (parseMethodDescriptor y.desc).map (fun d => d.parameters.length) = some n) (hrc : rm.cells = 0 ∧ rm.slots = 0) (hR : rm.frames + 1 ≤ R.frames ∧ 8 + (maxL + 11) + rm.locals ≤ R.locals) (hn : As.length = n) (hst : st = As.reverse ++ rest) (hroom : (rest.map fun v => v.category).sum ≤ 8) (d : decode cc pc = .ok (.invokestatic index, 3))
    (kk : ∀ (z : Int32) (u : Nat → Int32), post z u → zG p l e R s m args below meth c A D cl tc ad N sh nL Q u (pc + 3) lv (.int z :: rest)) : zG p l e R s m args below meth c A D cl tc ad N sh nL Q μ pc lv st := fun H L ls a b h =>
  va_calli (zRun_N X hKK hM h1 h2 h4 h5 hd hrc hR hn hst hroom d a b h) b (fun _ _ h => h) (fun _ h => h) (fun z u t H1 L1 ht _ hp hB _ _ hS => kk z u hp H1 L1 ls (by rw [← ht]; exact hB) hS h)
theorem zr_cSv {post : (Nat → Int32) → Prop} {index maxL : Nat} {y : MethodName} {bytes : ByteArray} {rm : Room} {n : Nat} (As rest : List Value)
    (X : zX p s m args meth c A D cl ad N nL K tys ow sh cc own ret) (hKK : zKK K A D cl tys) (hM : zMv l y bytes maxL rm K A D cl tc ad N sh As μ post) (h1 : Cond.methodLink own index y ∈ zT) (h2 : Cond.static y ∈ zT) (h4 : Cond.initialized own ∈ zT) (h5 : Cond.code y bytes maxL none ∈ zT)
    (hd : y.cls = own ∧ y.cls ≠ "java/lang/invoke/MethodHandle" ∧ y.cls ≠ "java/lang/invoke/VarHandle" ∧ (parseMethodDescriptor y.desc).map (fun d => d.parameters.length) = some n) (hrc : rm.cells = 0 ∧ rm.slots = 0) (hR : rm.frames + 1 ≤ R.frames ∧ 8 + (maxL + 11) + rm.locals ≤ R.locals) (hn : As.length = n) (hst : st = As.reverse ++ rest) (hroom : (rest.map fun v => v.category).sum ≤ 8) (d : decode cc pc = .ok (.invokestatic index, 3))
    (kk : ∀ (u : Nat → Int32), post u → zG p l e R s m args below meth c A D cl tc ad N sh nL Q u (pc + 3) lv rest) : zG p l e R s m args below meth c A D cl tc ad N sh nL Q μ pc lv st := fun H L ls a b h =>
  va_callv (zRun_S X hKK hM h1 h2 h4 h5 hd hrc hR hn hst hroom d a b h) b (fun _ _ h => h) (fun _ h => h) (fun u t H1 L1 ht _ hp hB _ _ hS => kk u hp H1 L1 ls (by rw [← ht]; exact hB) hS h)
theorem zr_cNv {post : (Nat → Int32) → Prop} {index maxL : Nat} {host : String} {y : MethodName} {bytes : ByteArray} {rm : Room} {n : Nat} (As rest : List Value)
    (X : zX p s m args meth c A D cl ad N nL K tys ow sh cc own ret) (hKK : zKK K A D cl tys) (hM : zMv l y bytes maxL rm K A D cl tc ad N sh As μ post) (h1 : va_Nw (.methodLinkNest own index y host) s) (h2 : Cond.static y ∈ zT) (h4 : Cond.initialized y.cls ∈ zT) (h5 : Cond.code y bytes maxL none ∈ zT)
    (hd : y.cls ≠ "java/lang/invoke/MethodHandle" ∧ y.cls ≠ "java/lang/invoke/VarHandle" ∧ (parseMethodDescriptor y.desc).map (fun d => d.parameters.length) = some n) (hrc : rm.cells = 0 ∧ rm.slots = 0) (hR : rm.frames + 1 ≤ R.frames ∧ 8 + (maxL + 11) + rm.locals ≤ R.locals) (hn : As.length = n) (hst : st = As.reverse ++ rest) (hroom : (rest.map fun v => v.category).sum ≤ 8) (d : decode cc pc = .ok (.invokestatic index, 3))
    (kk : ∀ (u : Nat → Int32), post u → zG p l e R s m args below meth c A D cl tc ad N sh nL Q u (pc + 3) lv rest) : zG p l e R s m args below meth c A D cl tc ad N sh nL Q μ pc lv st := fun H L ls a b h =>
  va_callv (zRun_N X hKK hM h1 h2 h4 h5 hd hrc hR hn hst hroom d a b h) b (fun _ _ h => h) (fun _ h => h) (fun u t H1 L1 ht _ hp hB _ _ hS => kk u hp H1 L1 ls (by rw [← ht]; exact hB) hS h)
end ZE
