/-! ROWS: zG says: from every heap that holds μ, with the locals lv and the stack st, the machine comes from pc to Q. -/
def zG (p : Program) (l : Launch) (e : Env) (R : Room) (s : State) (m : MethodId) (args : Array Value) (below : List Frame) (meth : Method) (c : Code) (A : Nat → Prop) (D : va_G) (cl : List vw_C) (tc : Nat → ClassId) (ad : Nat → Nat) (N : Nat) (sh : Nat → ZS) (nL : Nat) (Q : State → Prop) (μ : Nat → Int32) (pc : Nat) (lv : List (Nat × Value)) (st : List Value) : Prop :=
  ∀ (H : Heap) (locs : List Loc) (ls : Array Slot), zW D cl tc ad N sh μ H → va_S A s.heap H locs → lv_has ls nL lv → W p l e R s m args below meth c H locs R.cells R.slots Q (F0 m pc ls st)
/-- what a method's walk rests on -/
def zX (p : Program) (s : State) (m : MethodId) (args : Array Value) (meth : Method) (c : Code) (A : Nat → Prop) (D : va_G) (cl : List vw_C) (ad : Nat → Nat) (N : Nat) (nL : Nat) (K : State → Heap → Prop) (tys : List (ClassId × FieldType)) (ow : Nat → Nat) (sh : Nat → ZS) (cc : ByteArray) (own : String) (ret : Option FieldType) : Prop :=
  CallFix p m c cc nL s args zT own ∧ meth.locks = false ∧ meth.sig.returnType = ret ∧ (∀ i j, i < N → j < N → ad i = ad j → i = j) ∧ (∀ k, k < N → A (ad k)) ∧ va_K D cl tys s ∧ zO N sh ow ∧ (∀ (U : State) (H : Heap), s.WarmedH U.vm → s.heap.size ≤ H.size → (∀ q : Nat, q < s.heap.size → ¬ A q → H[q]? = s.heap[q]?) → K U H) ∧ K s s.heap
section ZR
variable {p : Program} {l : Launch} {e : Env} {R : Room} {s : State} {m : MethodId} {args : Array Value} {below : List Frame} {meth : Method} {c : Code} {A : Nat → Prop} {D : va_G} {cl : List vw_C} {tc : Nat → ClassId} {ad : Nat → Nat} {N : Nat} {sh : Nat → ZS} {nL : Nat} {Q : State → Prop} {μ : Nat → Int32} {pc : Nat} {lv : List (Nat × Value)} {st : List Value}
variable {K : State → Heap → Prop} {tys : List (ClassId × FieldType)} {ow : Nat → Nat} {cc : ByteArray} {own : String} {ret : Option FieldType}
theorem zr_iconst (X : zX p s m args meth c A D cl ad N nL K tys ow sh cc own ret) {n : Int} (v : Int32) (d : decode cc pc = .ok (.iconst n, 1)) (hv : Int32.ofInt n = v) (kk : zG p l e R s m args below meth c A D cl tc ad N sh nL Q μ (pc + 1) lv (.int v :: st)) : zG p l e R s m args below meth c A D cl tc ad N sh nL Q μ pc lv st :=
  fun H L ls a b h => lv_iconst X.1.1 X.1.2.1 d hv (kk H L ls a b h)
theorem zr_bipush (X : zX p s m args meth c A D cl ad N nL K tys ow sh cc own ret) {n : Int} (v : Int32) (d : decode cc pc = .ok (.bipush n, 2)) (hv : (Int8.ofInt n).toInt32 = v) (kk : zG p l e R s m args below meth c A D cl tc ad N sh nL Q μ (pc + 2) lv (.int v :: st)) : zG p l e R s m args below meth c A D cl tc ad N sh nL Q μ pc lv st :=
  fun H L ls a b h => lv_bipush X.1.1 X.1.2.1 d hv (kk H L ls a b h)
theorem zr_sipush (X : zX p s m args meth c A D cl ad N nL K tys ow sh cc own ret) {n : Int} (v : Int32) (d : decode cc pc = .ok (.sipush n, 3)) (hv : (Int16.ofInt n).toInt32 = v) (kk : zG p l e R s m args below meth c A D cl tc ad N sh nL Q μ (pc + 3) lv (.int v :: st)) : zG p l e R s m args below meth c A D cl tc ad N sh nL Q μ pc lv st :=
  fun H L ls a b h => lv_sipush X.1.1 X.1.2.1 d hv (kk H L ls a b h)
theorem zr_iloadn (X : zX p s m args meth c A D cl ad N nL K tys ow sh cc own ret) {k : Fin 4} (j : Nat) {x : Int32} (d : decode cc pc = .ok (.iload_n k, 1)) (hl : lv[j]? = some ((k : Nat), .int x)) (kk : zG p l e R s m args below meth c A D cl tc ad N sh nL Q μ (pc + 1) lv (.int x :: st)) : zG p l e R s m args below meth c A D cl tc ad N sh nL Q μ pc lv st :=
  fun H L ls a b h => lv_iload_n X.1.1 X.1.2.1 d rfl (lv_at h j hl) (kk H L ls a b h)
theorem zr_iload (X : zX p s m args meth c A D cl ad N nL K tys ow sh cc own ret) {i : Nat} (j : Nat) {x : Int32} (d : decode cc pc = .ok (.iload i, 2)) (hl : lv[j]? = some (i, .int x)) (kk : zG p l e R s m args below meth c A D cl tc ad N sh nL Q μ (pc + 2) lv (.int x :: st)) : zG p l e R s m args below meth c A D cl tc ad N sh nL Q μ pc lv st :=
  fun H L ls a b h => lv_iload X.1.1 X.1.2.1 d (lv_at h j hl) (kk H L ls a b h)
theorem zr_aloadn (X : zX p s m args meth c A D cl ad N nL K tys ow sh cc own ret) {k : Fin 4} (j : Nat) {x : Nat} (d : decode cc pc = .ok (.aload_n k, 1)) (hl : lv[j]? = some ((k : Nat), .ref x)) (kk : zG p l e R s m args below meth c A D cl tc ad N sh nL Q μ (pc + 1) lv (.ref x :: st)) : zG p l e R s m args below meth c A D cl tc ad N sh nL Q μ pc lv st :=
  fun H L ls a b h => lv_aload_n X.1.1 X.1.2.1 d rfl (lv_at h j hl) (kk H L ls a b h)
theorem zr_aload (X : zX p s m args meth c A D cl ad N nL K tys ow sh cc own ret) {i : Nat} (j : Nat) {x : Nat} (d : decode cc pc = .ok (.aload i, 2)) (hl : lv[j]? = some (i, .ref x)) (kk : zG p l e R s m args below meth c A D cl tc ad N sh nL Q μ (pc + 2) lv (.ref x :: st)) : zG p l e R s m args below meth c A D cl tc ad N sh nL Q μ pc lv st :=
  fun H L ls a b h => lv_aload X.1.1 X.1.2.1 d (lv_at h j hl) (kk H L ls a b h)
theorem zr_aloadnN (X : zX p s m args meth c A D cl ad N nL K tys ow sh cc own ret) {k : Fin 4} (j : Nat) (d : decode cc pc = .ok (.aload_n k, 1)) (hl : lv[j]? = some ((k : Nat), .null)) (kk : zG p l e R s m args below meth c A D cl tc ad N sh nL Q μ (pc + 1) lv (.null :: st)) : zG p l e R s m args below meth c A D cl tc ad N sh nL Q μ pc lv st :=
  fun H L ls a b h => lv_aload_nN X.1.1 X.1.2.1 d rfl (lv_at h j hl) (kk H L ls a b h)
theorem zr_aloadN (X : zX p s m args meth c A D cl ad N nL K tys ow sh cc own ret) {i : Nat} (j : Nat) (d : decode cc pc = .ok (.aload i, 2)) (hl : lv[j]? = some (i, .null)) (kk : zG p l e R s m args below meth c A D cl tc ad N sh nL Q μ (pc + 2) lv (.null :: st)) : zG p l e R s m args below meth c A D cl tc ad N sh nL Q μ pc lv st :=
  fun H L ls a b h => lv_aloadN X.1.1 X.1.2.1 d (lv_at h j hl) (kk H L ls a b h)
/-- the locals behind a store, in the order that is named -/
def zS (i : Nat) (v : Value) (lv : List (Nat × Value)) : List (Nat × Value) := (i, v) :: lv.filter (fun q => !(q.1 == i) && !(q.1 + 1 == i && q.2.category == 2))
theorem zr_istoren (X : zX p s m args meth c A D cl ad N nL K tys ow sh cc own ret) {k : Fin 4} {x : Int32} (is : List Nat) (lv' : List (Nat × Value)) (d : decode cc pc = .ok (.istore_n k, 1)) (hn : (k : Nat) < nL) (hl : lv_pick (zS k (.int x) lv) is = lv') (kk : zG p l e R s m args below meth c A D cl tc ad N sh nL Q μ (pc + 1) lv' st) : zG p l e R s m args below meth c A D cl tc ad N sh nL Q μ pc lv (.int x :: st) :=
  fun H L ls a b h => lv_istore_n X.1.1 X.1.2.1 d rfl h hn rfl (fun ls' h' => kk H L ls' a b (lv_sub h' is hl))
theorem zr_istore (X : zX p s m args meth c A D cl ad N nL K tys ow sh cc own ret) {i : Nat} {x : Int32} (is : List Nat) (lv' : List (Nat × Value)) (d : decode cc pc = .ok (.istore i, 2)) (hn : i < nL) (hl : lv_pick (zS i (.int x) lv) is = lv') (kk : zG p l e R s m args below meth c A D cl tc ad N sh nL Q μ (pc + 2) lv' st) : zG p l e R s m args below meth c A D cl tc ad N sh nL Q μ pc lv (.int x :: st) :=
  fun H L ls a b h => lv_istore X.1.1 X.1.2.1 d h hn rfl (fun ls' h' => kk H L ls' a b (lv_sub h' is hl))
theorem zr_astoren (X : zX p s m args meth c A D cl ad N nL K tys ow sh cc own ret) {k : Fin 4} {x : Nat} (is : List Nat) (lv' : List (Nat × Value)) (d : decode cc pc = .ok (.astore_n k, 1)) (hn : (k : Nat) < nL) (hl : lv_pick (zS k (.ref x) lv) is = lv') (kk : zG p l e R s m args below meth c A D cl tc ad N sh nL Q μ (pc + 1) lv' st) : zG p l e R s m args below meth c A D cl tc ad N sh nL Q μ pc lv (.ref x :: st) :=
  fun H L ls a b h => lv_astore_n X.1.1 X.1.2.1 d rfl h hn rfl (fun ls' h' => kk H L ls' a b (lv_sub h' is hl))
theorem zr_astore (X : zX p s m args meth c A D cl ad N nL K tys ow sh cc own ret) {i : Nat} {x : Nat} (is : List Nat) (lv' : List (Nat × Value)) (d : decode cc pc = .ok (.astore i, 2)) (hn : i < nL) (hl : lv_pick (zS i (.ref x) lv) is = lv') (kk : zG p l e R s m args below meth c A D cl tc ad N sh nL Q μ (pc + 2) lv' st) : zG p l e R s m args below meth c A D cl tc ad N sh nL Q μ pc lv (.ref x :: st) :=
  fun H L ls a b h => lv_astore X.1.1 X.1.2.1 d h hn rfl (fun ls' h' => kk H L ls' a b (lv_sub h' is hl))
theorem zr_astorenN (X : zX p s m args meth c A D cl ad N nL K tys ow sh cc own ret) {k : Fin 4} (is : List Nat) (lv' : List (Nat × Value)) (d : decode cc pc = .ok (.astore_n k, 1)) (hn : (k : Nat) < nL) (hl : lv_pick (zS k .null lv) is = lv') (kk : zG p l e R s m args below meth c A D cl tc ad N sh nL Q μ (pc + 1) lv' st) : zG p l e R s m args below meth c A D cl tc ad N sh nL Q μ pc lv (.null :: st) :=
  fun H L ls a b h => lv_astore_nN X.1.1 X.1.2.1 d rfl h hn rfl (fun ls' h' => kk H L ls' a b (lv_sub h' is hl))
theorem zr_astoreN (X : zX p s m args meth c A D cl ad N nL K tys ow sh cc own ret) {i : Nat} (is : List Nat) (lv' : List (Nat × Value)) (d : decode cc pc = .ok (.astore i, 2)) (hn : i < nL) (hl : lv_pick (zS i .null lv) is = lv') (kk : zG p l e R s m args below meth c A D cl tc ad N sh nL Q μ (pc + 2) lv' st) : zG p l e R s m args below meth c A D cl tc ad N sh nL Q μ pc lv (.null :: st) :=
  fun H L ls a b h => lv_astoreN X.1.1 X.1.2.1 d h hn rfl (fun ls' h' => kk H L ls' a b (lv_sub h' is hl))
theorem zr_iinc (X : zX p s m args meth c A D cl ad N nL K tys ow sh cc own ret) {i : Nat} {n : Int} {x : Int32} (j : Nat) (v : Int32) (is : List Nat) (lv' : List (Nat × Value)) (d : decode cc pc = .ok (.iinc i n, 3)) (hj : lv[j]? = some (i, .int x)) (hv : x + Int32.ofInt n = v) (hn : i < nL) (hl : lv_pick (zS i (.int v) lv) is = lv') (kk : zG p l e R s m args below meth c A D cl tc ad N sh nL Q μ (pc + 3) lv' st) : zG p l e R s m args below meth c A D cl tc ad N sh nL Q μ pc lv st :=
  fun H L ls a b h => lv_iinc X.1.1 X.1.2.1 d h hj hv hn rfl (fun ls' h' => kk H L ls' a b (lv_sub h' is hl))
theorem zr_iadd (X : zX p s m args meth c A D cl ad N nL K tys ow sh cc own ret) {x y : Int32} (z : Int32) (d : decode cc pc = .ok (.iadd, 1)) (hz : x + y = z) (kk : zG p l e R s m args below meth c A D cl tc ad N sh nL Q μ (pc + 1) lv (.int z :: st)) : zG p l e R s m args below meth c A D cl tc ad N sh nL Q μ pc lv (.int y :: .int x :: st) :=
  fun H L ls a b h => lv_iadd X.1.1 X.1.2.1 d (by rw [hz]; exact kk H L ls a b h)
theorem zr_isub (X : zX p s m args meth c A D cl ad N nL K tys ow sh cc own ret) {x y : Int32} (z : Int32) (d : decode cc pc = .ok (.isub, 1)) (hz : x - y = z) (kk : zG p l e R s m args below meth c A D cl tc ad N sh nL Q μ (pc + 1) lv (.int z :: st)) : zG p l e R s m args below meth c A D cl tc ad N sh nL Q μ pc lv (.int y :: .int x :: st) :=
  fun H L ls a b h => lv_isub X.1.1 X.1.2.1 d (by rw [hz]; exact kk H L ls a b h)
theorem zr_imul (X : zX p s m args meth c A D cl ad N nL K tys ow sh cc own ret) {x y : Int32} (z : Int32) (d : decode cc pc = .ok (.imul, 1)) (hz : x * y = z) (kk : zG p l e R s m args below meth c A D cl tc ad N sh nL Q μ (pc + 1) lv (.int z :: st)) : zG p l e R s m args below meth c A D cl tc ad N sh nL Q μ pc lv (.int y :: .int x :: st) :=
  fun H L ls a b h => lv_imul X.1.1 X.1.2.1 d (by rw [hz]; exact kk H L ls a b h)
theorem zr_idiv (X : zX p s m args meth c A D cl ad N nL K tys ow sh cc own ret) {x y : Int32} (z : Int32) (d : decode cc pc = .ok (.idiv, 1)) (h0 : ¬ y = 0) (hz : x / y = z) (kk : zG p l e R s m args below meth c A D cl tc ad N sh nL Q μ (pc + 1) lv (.int z :: st)) : zG p l e R s m args below meth c A D cl tc ad N sh nL Q μ pc lv (.int y :: .int x :: st) :=
  fun H L ls a b h => lv_idiv X.1.1 X.1.2.1 d h0 (by rw [hz]; exact kk H L ls a b h)
theorem zr_irem (X : zX p s m args meth c A D cl ad N nL K tys ow sh cc own ret) {x y : Int32} (z : Int32) (d : decode cc pc = .ok (.irem, 1)) (h0 : ¬ y = 0) (hz : x - x / y * y = z) (kk : zG p l e R s m args below meth c A D cl tc ad N sh nL Q μ (pc + 1) lv (.int z :: st)) : zG p l e R s m args below meth c A D cl tc ad N sh nL Q μ pc lv (.int y :: .int x :: st) :=
  fun H L ls a b h => lv_irem X.1.1 X.1.2.1 d h0 (by rw [hz]; exact kk H L ls a b h)
theorem zr_i2c (X : zX p s m args meth c A D cl ad N nL K tys ow sh cc own ret) {x : Int32} (z : Int32) (d : decode cc pc = .ok (.i2c, 1)) (hz : (x.toUInt32 % 65536).toInt32 = z) (kk : zG p l e R s m args below meth c A D cl tc ad N sh nL Q μ (pc + 1) lv (.int z :: st)) : zG p l e R s m args below meth c A D cl tc ad N sh nL Q μ pc lv (.int x :: st) :=
  fun H L ls a b h => lv_i2c X.1.1 X.1.2.1 d hz (kk H L ls a b h)
theorem zr_top (X : zX p s m args meth c A D cl ad N nL K tys ow sh cc own ret) {x : Value} (z : Value) (hz : x = z) (kk : zG p l e R s m args below meth c A D cl tc ad N sh nL Q μ pc lv (z :: st)) : zG p l e R s m args below meth c A D cl tc ad N sh nL Q μ pc lv (x :: st) := by
  rw [hz]; exact kk
theorem zr_dup (X : zX p s m args meth c A D cl ad N nL K tys ow sh cc own ret) {va : Value} (d : decode cc pc = .ok (.dup, 1)) (hva : va.category = 1) (kk : zG p l e R s m args below meth c A D cl tc ad N sh nL Q μ (pc + 1) lv (va :: va :: st)) : zG p l e R s m args below meth c A D cl tc ad N sh nL Q μ pc lv (va :: st) :=
  fun H L ls a b h => lv_dup X.1.1 X.1.2.1 d hva (kk H L ls a b h)
theorem zr_pop (X : zX p s m args meth c A D cl ad N nL K tys ow sh cc own ret) {va : Value} (d : decode cc pc = .ok (.pop, 1)) (hva : va.category = 1) (kk : zG p l e R s m args below meth c A D cl tc ad N sh nL Q μ (pc + 1) lv st) : zG p l e R s m args below meth c A D cl tc ad N sh nL Q μ pc lv (va :: st) :=
  fun H L ls a b h => lv_pop X.1.1 X.1.2.1 d hva (kk H L ls a b h)
theorem zr_dup2 (X : zX p s m args meth c A D cl ad N nL K tys ow sh cc own ret) {va vb : Value} (d : decode cc pc = .ok (.dup2, 1)) (hva : va.category = 1) (hvb : vb.category = 1) (kk : zG p l e R s m args below meth c A D cl tc ad N sh nL Q μ (pc + 1) lv (va :: vb :: va :: vb :: st)) : zG p l e R s m args below meth c A D cl tc ad N sh nL Q μ pc lv (va :: vb :: st) :=
  fun H L ls a b h => lv_dup2_11 X.1.1 X.1.2.1 d hva hvb (kk H L ls a b h)
theorem zr_if_eq (X : zX p s m args meth c A D cl ad N nL K tys ow sh cc own ret) {x : Int32} {off : Int} (tgt : Nat) (d : decode cc pc = .ok (.ifCond .eq off, 3)) (ht : (pc : Int) + off = (tgt : Int)) (kt : x = 0 → zG p l e R s m args below meth c A D cl tc ad N sh nL Q μ tgt lv st) (kf : ¬ x = 0 → zG p l e R s m args below meth c A D cl tc ad N sh nL Q μ (pc + 3) lv st) : zG p l e R s m args below meth c A D cl tc ad N sh nL Q μ pc lv (.int x :: st) :=
  fun H L ls a b h => lv_if_eq X.1.1 X.1.2.1 d ht (fun q => kt q H L ls a b h) (fun q => kf q H L ls a b h)
theorem zr_icmp_eq (X : zX p s m args meth c A D cl ad N nL K tys ow sh cc own ret) {x y : Int32} {off : Int} (tgt : Nat) (d : decode cc pc = .ok (.if_icmp .eq off, 3)) (ht : (pc : Int) + off = (tgt : Int)) (kt : x = y → zG p l e R s m args below meth c A D cl tc ad N sh nL Q μ tgt lv st) (kf : ¬ x = y → zG p l e R s m args below meth c A D cl tc ad N sh nL Q μ (pc + 3) lv st) : zG p l e R s m args below meth c A D cl tc ad N sh nL Q μ pc lv (.int y :: .int x :: st) :=
  fun H L ls a b h => lv_icmp_eq X.1.1 X.1.2.1 d ht (fun q => kt q H L ls a b h) (fun q => kf q H L ls a b h)
theorem zr_if_ne (X : zX p s m args meth c A D cl ad N nL K tys ow sh cc own ret) {x : Int32} {off : Int} (tgt : Nat) (d : decode cc pc = .ok (.ifCond .ne off, 3)) (ht : (pc : Int) + off = (tgt : Int)) (kt : ¬ x = 0 → zG p l e R s m args below meth c A D cl tc ad N sh nL Q μ tgt lv st) (kf : x = 0 → zG p l e R s m args below meth c A D cl tc ad N sh nL Q μ (pc + 3) lv st) : zG p l e R s m args below meth c A D cl tc ad N sh nL Q μ pc lv (.int x :: st) :=
  fun H L ls a b h => lv_if_ne X.1.1 X.1.2.1 d ht (fun q => kt q H L ls a b h) (fun q => kf q H L ls a b h)
theorem zr_icmp_ne (X : zX p s m args meth c A D cl ad N nL K tys ow sh cc own ret) {x y : Int32} {off : Int} (tgt : Nat) (d : decode cc pc = .ok (.if_icmp .ne off, 3)) (ht : (pc : Int) + off = (tgt : Int)) (kt : ¬ x = y → zG p l e R s m args below meth c A D cl tc ad N sh nL Q μ tgt lv st) (kf : x = y → zG p l e R s m args below meth c A D cl tc ad N sh nL Q μ (pc + 3) lv st) : zG p l e R s m args below meth c A D cl tc ad N sh nL Q μ pc lv (.int y :: .int x :: st) :=
  fun H L ls a b h => lv_icmp_ne X.1.1 X.1.2.1 d ht (fun q => kt q H L ls a b h) (fun q => kf q H L ls a b h)
theorem zr_if_lt (X : zX p s m args meth c A D cl ad N nL K tys ow sh cc own ret) {x : Int32} {off : Int} (tgt : Nat) (d : decode cc pc = .ok (.ifCond .lt off, 3)) (ht : (pc : Int) + off = (tgt : Int)) (kt : x < 0 → zG p l e R s m args below meth c A D cl tc ad N sh nL Q μ tgt lv st) (kf : ¬ x < 0 → zG p l e R s m args below meth c A D cl tc ad N sh nL Q μ (pc + 3) lv st) : zG p l e R s m args below meth c A D cl tc ad N sh nL Q μ pc lv (.int x :: st) :=
  fun H L ls a b h => lv_if_lt X.1.1 X.1.2.1 d ht (fun q => kt q H L ls a b h) (fun q => kf q H L ls a b h)
theorem zr_icmp_lt (X : zX p s m args meth c A D cl ad N nL K tys ow sh cc own ret) {x y : Int32} {off : Int} (tgt : Nat) (d : decode cc pc = .ok (.if_icmp .lt off, 3)) (ht : (pc : Int) + off = (tgt : Int)) (kt : x < y → zG p l e R s m args below meth c A D cl tc ad N sh nL Q μ tgt lv st) (kf : ¬ x < y → zG p l e R s m args below meth c A D cl tc ad N sh nL Q μ (pc + 3) lv st) : zG p l e R s m args below meth c A D cl tc ad N sh nL Q μ pc lv (.int y :: .int x :: st) :=
  fun H L ls a b h => lv_icmp_lt X.1.1 X.1.2.1 d ht (fun q => kt q H L ls a b h) (fun q => kf q H L ls a b h)
theorem zr_if_ge (X : zX p s m args meth c A D cl ad N nL K tys ow sh cc own ret) {x : Int32} {off : Int} (tgt : Nat) (d : decode cc pc = .ok (.ifCond .ge off, 3)) (ht : (pc : Int) + off = (tgt : Int)) (kt : 0 ≤ x → zG p l e R s m args below meth c A D cl tc ad N sh nL Q μ tgt lv st) (kf : ¬ 0 ≤ x → zG p l e R s m args below meth c A D cl tc ad N sh nL Q μ (pc + 3) lv st) : zG p l e R s m args below meth c A D cl tc ad N sh nL Q μ pc lv (.int x :: st) :=
  fun H L ls a b h => lv_if_ge X.1.1 X.1.2.1 d ht (fun q => kt q H L ls a b h) (fun q => kf q H L ls a b h)
theorem zr_icmp_ge (X : zX p s m args meth c A D cl ad N nL K tys ow sh cc own ret) {x y : Int32} {off : Int} (tgt : Nat) (d : decode cc pc = .ok (.if_icmp .ge off, 3)) (ht : (pc : Int) + off = (tgt : Int)) (kt : y ≤ x → zG p l e R s m args below meth c A D cl tc ad N sh nL Q μ tgt lv st) (kf : ¬ y ≤ x → zG p l e R s m args below meth c A D cl tc ad N sh nL Q μ (pc + 3) lv st) : zG p l e R s m args below meth c A D cl tc ad N sh nL Q μ pc lv (.int y :: .int x :: st) :=
  fun H L ls a b h => lv_icmp_ge X.1.1 X.1.2.1 d ht (fun q => kt q H L ls a b h) (fun q => kf q H L ls a b h)
theorem zr_if_gt (X : zX p s m args meth c A D cl ad N nL K tys ow sh cc own ret) {x : Int32} {off : Int} (tgt : Nat) (d : decode cc pc = .ok (.ifCond .gt off, 3)) (ht : (pc : Int) + off = (tgt : Int)) (kt : 0 < x → zG p l e R s m args below meth c A D cl tc ad N sh nL Q μ tgt lv st) (kf : ¬ 0 < x → zG p l e R s m args below meth c A D cl tc ad N sh nL Q μ (pc + 3) lv st) : zG p l e R s m args below meth c A D cl tc ad N sh nL Q μ pc lv (.int x :: st) :=
  fun H L ls a b h => lv_if_gt X.1.1 X.1.2.1 d ht (fun q => kt q H L ls a b h) (fun q => kf q H L ls a b h)
theorem zr_icmp_gt (X : zX p s m args meth c A D cl ad N nL K tys ow sh cc own ret) {x y : Int32} {off : Int} (tgt : Nat) (d : decode cc pc = .ok (.if_icmp .gt off, 3)) (ht : (pc : Int) + off = (tgt : Int)) (kt : y < x → zG p l e R s m args below meth c A D cl tc ad N sh nL Q μ tgt lv st) (kf : ¬ y < x → zG p l e R s m args below meth c A D cl tc ad N sh nL Q μ (pc + 3) lv st) : zG p l e R s m args below meth c A D cl tc ad N sh nL Q μ pc lv (.int y :: .int x :: st) :=
  fun H L ls a b h => lv_icmp_gt X.1.1 X.1.2.1 d ht (fun q => kt q H L ls a b h) (fun q => kf q H L ls a b h)
theorem zr_if_le (X : zX p s m args meth c A D cl ad N nL K tys ow sh cc own ret) {x : Int32} {off : Int} (tgt : Nat) (d : decode cc pc = .ok (.ifCond .le off, 3)) (ht : (pc : Int) + off = (tgt : Int)) (kt : x ≤ 0 → zG p l e R s m args below meth c A D cl tc ad N sh nL Q μ tgt lv st) (kf : ¬ x ≤ 0 → zG p l e R s m args below meth c A D cl tc ad N sh nL Q μ (pc + 3) lv st) : zG p l e R s m args below meth c A D cl tc ad N sh nL Q μ pc lv (.int x :: st) :=
  fun H L ls a b h => lv_if_le X.1.1 X.1.2.1 d ht (fun q => kt q H L ls a b h) (fun q => kf q H L ls a b h)
theorem zr_icmp_le (X : zX p s m args meth c A D cl ad N nL K tys ow sh cc own ret) {x y : Int32} {off : Int} (tgt : Nat) (d : decode cc pc = .ok (.if_icmp .le off, 3)) (ht : (pc : Int) + off = (tgt : Int)) (kt : x ≤ y → zG p l e R s m args below meth c A D cl tc ad N sh nL Q μ tgt lv st) (kf : ¬ x ≤ y → zG p l e R s m args below meth c A D cl tc ad N sh nL Q μ (pc + 3) lv st) : zG p l e R s m args below meth c A D cl tc ad N sh nL Q μ pc lv (.int y :: .int x :: st) :=
  fun H L ls a b h => lv_icmp_le X.1.1 X.1.2.1 d ht (fun q => kt q H L ls a b h) (fun q => kf q H L ls a b h)
theorem zr_goto (X : zX p s m args meth c A D cl ad N nL K tys ow sh cc own ret) {off : Int} (tgt : Nat) (d : decode cc pc = .ok (.goto off, 3)) (ht : (pc : Int) + off = (tgt : Int)) (kk : zG p l e R s m args below meth c A D cl tc ad N sh nL Q μ tgt lv st) : zG p l e R s m args below meth c A D cl tc ad N sh nL Q μ pc lv st :=
  fun H L ls a b h => lv_goto X.1.1 X.1.2.1 d ht (kk H L ls a b h)
theorem zr_ifnonnull (X : zX p s m args meth c A D cl ad N nL K tys ow sh cc own ret) {x : Nat} {off : Int} (tgt : Nat) (d : decode cc pc = .ok (.ifnonnull off, 3)) (ht : (pc : Int) + off = (tgt : Int)) (kk : zG p l e R s m args below meth c A D cl tc ad N sh nL Q μ tgt lv st) : zG p l e R s m args below meth c A D cl tc ad N sh nL Q μ pc lv (.ref x :: st) :=
  fun H L ls a b h => lv_ifnonnull X.1.1 X.1.2.1 d ht (kk H L ls a b h)
theorem zr_ifnullN (X : zX p s m args meth c A D cl ad N nL K tys ow sh cc own ret) {off : Int} (tgt : Nat) (d : decode cc pc = .ok (.ifnull off, 3)) (ht : (pc : Int) + off = (tgt : Int)) (kk : zG p l e R s m args below meth c A D cl tc ad N sh nL Q μ tgt lv st) : zG p l e R s m args below meth c A D cl tc ad N sh nL Q μ pc lv (.null :: st) :=
  fun H L ls a b h => lv_ifnullN X.1.1 X.1.2.1 d ht (kk H L ls a b h)
theorem zr_ifnull (X : zX p s m args meth c A D cl ad N nL K tys ow sh cc own ret) {x : Nat} {off : Int} (d : decode cc pc = .ok (.ifnull off, 3)) (kk : zG p l e R s m args below meth c A D cl tc ad N sh nL Q μ (pc + 3) lv st) : zG p l e R s m args below meth c A D cl tc ad N sh nL Q μ pc lv (.ref x :: st) :=
  fun H L ls a b h => lv_ifnull X.1.1 X.1.2.1 d (kk H L ls a b h)
theorem zr_ifnonnullN (X : zX p s m args meth c A D cl ad N nL K tys ow sh cc own ret) {off : Int} (d : decode cc pc = .ok (.ifnonnull off, 3)) (kk : zG p l e R s m args below meth c A D cl tc ad N sh nL Q μ (pc + 3) lv st) : zG p l e R s m args below meth c A D cl tc ad N sh nL Q μ pc lv (.null :: st) :=
  fun H L ls a b h => lv_ifnonnullN X.1.1 X.1.2.1 d (kk H L ls a b h)
theorem zr_null (X : zX p s m args meth c A D cl ad N nL K tys ow sh cc own ret) (d : decode cc pc = .ok (.aconst_null, 1)) (kk : zG p l e R s m args below meth c A D cl tc ad N sh nL Q μ (pc + 1) lv (.null :: st)) : zG p l e R s m args below meth c A D cl tc ad N sh nL Q μ pc lv st :=
  fun H L ls a b h => lv_null X.1.1 X.1.2.1 d (kk H L ls a b h)
theorem zr_get (X : zX p s m args meth c A D cl ad N nL K tys ow sh cc own ret) {k q ci o index Nf : Nat} {C : String} {T : u_T} {fs : List Zf} (f : Zf) (v : Value) (d : decode cc pc = .ok (.getfield index, 3)) (hk : k < N) (hs : sh k = .inr (.inl (ci, o, fs))) (hc : cl[ci]? = some (C, T, Nf)) (hin : ∀ w ∈ u_ws C T Nf, w ∈ zT) (hq : q < Nf) (hf : fs[q]? = some f) (hv : zv ad μ o q f = v) (hd : (T q).1 = C) (hl : Cond.fieldLink own index C (T q).2.1 (T q).2.2.1 ∈ zT) (kk : zG p l e R s m args below meth c A D cl tc ad N sh nL Q μ (pc + 3) lv (v :: st)) : zG p l e R s m args below meth c A D cl tc ad N sh nL Q μ pc lv (.ref (ad k) :: st) := by
  intro H L ls a b h
  have hw := a k hk
  rw [hs] at hw
  refine va_get (D := D) (cl := cl) (tys := tys) (ws := [(ad k, .inr (ci, fs.mapIdx (zv ad μ o)))]) X.1.1 X.1.2.1 X.1.2.2.2.2 hin X.1.2.2.2.1 X.2.2.2.2.2.1 (zP1 hw) 0 rfl hc q hq (X.1.2.2.2.2 _ hl) (fun x hx => by rw [hd] at hx; exact hx) (v := v) ?_ d (kk H L ls a b h)
  rw [List.getElem?_mapIdx, hf, ← hv]
  rfl
theorem zr_put (X : zX p s m args meth c A D cl ad N nL K tys ow sh cc own ret) {k q ci o index Nf : Nat} {C : String} {T : u_T} {ty0 : Nat → FieldType} {ty : FieldType} {fs : List Zf} {x : Int32} (pl : Nat) (d : decode cc pc = .ok (.putfield index, 3)) (hk : k < N) (hs : sh k = .inr (.inl (ci, o, fs))) (hc : cl[ci]? = some (C, T, Nf)) (hin : ∀ w ∈ u_ws C T Nf, w ∈ zT) (hty0 : ∀ j, j < Nf → parseFieldDescriptor (T j).2.2.1 = some (ty0 j)) (hnm : ∀ i, i < Nf → ∀ j, j < Nf → i ≠ j → (T i).2.1 ≠ (T j).2.1) (hq : q < Nf) (hf : fs[q]? = some (some none)) (hd : (T q).1 = C) (hfin : (T q).2.2.2 = false) (hty : parseFieldDescriptor (T q).2.2.1 = some ty) (hn : narrow ty (.int x) = .int x) (hfit : fits ty (.int x) = true) (hl : Cond.fieldLink own index C (T q).2.1 (T q).2.2.1 ∈ zT) (hpl : o + q = pl) (kk : zG p l e R s m args below meth c A D cl tc ad N sh nL Q (upd μ pl x) (pc + 3) lv st) : zG p l e R s m args below meth c A D cl tc ad N sh nL Q μ pc lv (.int x :: .ref (ad k) :: st) := by
  intro H L ls a b h
  subst hpl
  have hts := X.1.2.2.2.2
  have hown := X.1.2.2.2.1
  have hK := X.2.2.2.2.2.1
  have hap := va_apart (own := own) (D := D) (cl := cl) (tys := tys) (s := s) (args := args) (Ts := zT) hts hin ty0 hty0 hnm hK hc
  have hw := a k hk
  rw [hs] at hw
  obtain ⟨r, h1, cell, q1, q2, q3, q4⟩ := hw
  have hr : r = (C, T, Nf) := Option.some.inj (h1.symm.trans hc)
  subst hr
  obtain ⟨hS, hfc, kC, hkC, hkind⟩ := hK.1 ci _ hc
  obtain ⟨cf, kf, fi, fd, hi, hsl⟩ := hS q hq
  have hlay := hts _ (hin _ (u_in_lay hq))
  unfold u_lay at hlay
  rw [if_neg (by rw [hfin]; decide)] at hlay
  have hst := (u_facts hfc hkC (u_lays hts hin hq) hi).1
  have h6 := u_store hfc hkC hkind hlay hi hty hn hfit
  refine W.putK X.1.1 X.1.2.1 (f := fd) ⟨hown, hts _ hl, ⟨_, _, _, by rw [← hd]; exact hi⟩, hst⟩ (by rw [q2]; exact h6) q1 q3 (by rw [hsl]; exact k2_hasslot (q4 q hq)) rfl rfl d fun H' e1 e2 e3 => ?_
  rw [hsl] at e1 ⊢
  refine kk H' _ ls (a.put X.2.2.2.1 hk e3 ?_ (zO.ne X.2.2.2.2.2.2.1 hk ?_)) (b.put e2 e3 (X.2.2.2.2.1 k hk)) h
  · rw [hs]
    refine ⟨_, hc, t_OB.to (V := updV (vp_V (fs.mapIdx (zv ad μ o))) q (.int x)) ⟨_, e1, q2, q3, t_set q4 hap hq (.int x)⟩ (fun j hj => ?_)⟩
    by_cases hjq : j = q
    · subst hjq
      simp [updV, vp_V, List.getElem?_mapIdx, hf, zv, pk_us]
    · simp only [updV, vp_V, if_neg hjq, List.getD_eq_getElem?_getD, List.getElem?_mapIdx]
      cases hfj : fs[j]? with
      | none => rfl
      | some g => exact zv_agree (fun _ => (pk_un (by omega)).symm)
  · rw [hs]
    exact ⟨by omega, by rw [Nat.add_sub_cancel_left]; exact hf⟩
theorem zr_iald (X : zX p s m args meth c A D cl ad N nL K tys ow sh cc own ret) {k t n o j : Nat} {i : Int32} (t0 : Nat) (v : Int32) (d : decode cc pc = .ok (.iaload, 1)) (hk : k < N) (hs : sh k = .inl (t, n, o)) (ht : tys[t0]? = some (tc t, .int)) (hi : i = nI j) (hj : j < n) (hn : n < 2 ^ 31) (hv : μ (o + j) = v) (kk : zG p l e R s m args below meth c A D cl tc ad N sh nL Q μ (pc + 1) lv (.int v :: st)) : zG p l e R s m args below meth c A D cl tc ad N sh nL Q μ pc lv (.int i :: .ref (ad k) :: st) := by
  intro H L ls a b h
  subst hi; subst hv
  have hw := a k hk
  rw [hs] at hw
  refine va_iald (D := D) (cl := cl) (ws := [(ad k, .inl (tc t, n, .inl (fun q => μ (o + q))))]) X.1.1 X.1.2.1 X.2.2.2.2.2.1 (zP1 hw) 0 t0 rfl ht (vp_in_nI hj hn) d ?_
  rw [nI_clamp (by omega)]
  exact kk H L ls a b h
theorem zr_cald (X : zX p s m args meth c A D cl ad N nL K tys ow sh cc own ret) {k t n o j : Nat} {i : Int32} (t0 : Nat) (v : Int32) (d : decode cc pc = .ok (.caload, 1)) (hk : k < N) (hs : sh k = .inl (t, n, o)) (ht : tys[t0]? = some (tc t, .char)) (hi : i = nI j) (hj : j < n) (hn : n < 2 ^ 31) (hv : μ (o + j) = v) (kk : zG p l e R s m args below meth c A D cl tc ad N sh nL Q μ (pc + 1) lv (.int v :: st)) : zG p l e R s m args below meth c A D cl tc ad N sh nL Q μ pc lv (.int i :: .ref (ad k) :: st) := by
  intro H L ls a b h
  subst hi; subst hv
  have hw := a k hk
  rw [hs] at hw
  refine va_cald (D := D) (cl := cl) (ws := [(ad k, .inl (tc t, n, .inl (fun q => μ (o + q))))]) X.1.1 X.1.2.1 X.2.2.2.2.2.1 (zP1 hw) 0 t0 rfl ht (vp_in_nI hj hn) d ?_
  rw [nI_clamp (by omega)]
  exact kk H L ls a b h
theorem zr_iast (X : zX p s m args meth c A D cl ad N nL K tys ow sh cc own ret) {k t n o j : Nat} {i x : Int32} (t0 pl : Nat) (d : decode cc pc = .ok (.iastore, 1)) (hk : k < N) (hs : sh k = .inl (t, n, o)) (ht : tys[t0]? = some (tc t, .int)) (hi : i = nI j) (hj : j < n) (hn : n < 2 ^ 31) (hpl : o + j = pl) (kk : zG p l e R s m args below meth c A D cl tc ad N sh nL Q (upd μ pl x) (pc + 1) lv st) : zG p l e R s m args below meth c A D cl tc ad N sh nL Q μ pc lv (.int x :: .int i :: .ref (ad k) :: st) := by
  intro H L ls a b h
  subst hi; subst hpl
  have hw : H[ad k]? = some (vp_cell (tc t) (n, .inl (fun q => μ (o + q)))) := by
    have := a k hk
    rw [hs] at this
    exact this
  have hjc : (nI j).toNatClampNeg = j := nI_clamp (by omega)
  refine W.iast X.1.1 X.1.2.1 hw ((X.2.2.2.2.2.1.2 t0 _ ht).1 n (fun q => .int (μ (o + q)))) (fun q => by cases q) (by show ¬ (nI j < 0 ∨ (arrV _ _ _).slots.size ≤ _); rw [arrV_size]; exact vp_in_nI hj hn) rfl rfl d fun H1 e1 z oq => ?_
  refine kk H1 _ ls (a.put X.2.2.2.1 hk oq ?_ (zO.ne X.2.2.2.2.2.2.1 hk ?_)) (b.put z oq (X.2.2.2.2.1 k hk)) h
  · rw [hs]
    show H1[ad k]? = some (vp_cell (tc t) (n, .inl (fun q => upd μ (o + j) x (o + q))))
    rw [e1, hjc]
    rw [vp_cell_i, vp_cell_i, arrV_store]
    congr 2
    funext q
    by_cases hq : q = j
    · subst hq
      simp [updV, upd]
    · simp [updV, upd, hq]
  · rw [hs]
    exact ⟨by omega, by omega⟩
theorem zr_cast (X : zX p s m args meth c A D cl ad N nL K tys ow sh cc own ret) {k t n o j : Nat} {i x : Int32} (t0 pl : Nat) (d : decode cc pc = .ok (.castore, 1)) (hk : k < N) (hs : sh k = .inl (t, n, o)) (ht : tys[t0]? = some (tc t, .char)) (hi : i = nI j) (hj : j < n) (hn : n < 2 ^ 31) (hna : narrow .char (.int x) = .int x) (hpl : o + j = pl) (kk : zG p l e R s m args below meth c A D cl tc ad N sh nL Q (upd μ pl x) (pc + 1) lv st) : zG p l e R s m args below meth c A D cl tc ad N sh nL Q μ pc lv (.int x :: .int i :: .ref (ad k) :: st) := by
  intro H L ls a b h
  subst hi; subst hpl
  have hw : H[ad k]? = some (vp_cell (tc t) (n, .inl (fun q => μ (o + q)))) := by
    have := a k hk
    rw [hs] at this
    exact this
  have hjc : (nI j).toNatClampNeg = j := nI_clamp (by omega)
  refine W.cast X.1.1 X.1.2.1 hw ((X.2.2.2.2.2.1.2 t0 _ ht).1 n (fun q => .int (μ (o + q)))) (fun q => by cases q) (by show ¬ (nI j < 0 ∨ (arrV _ _ _).slots.size ≤ _); rw [arrV_size]; exact vp_in_nI hj hn) rfl rfl d fun H1 e1 z oq => ?_
  refine kk H1 _ ls (a.put X.2.2.2.1 hk oq ?_ (zO.ne X.2.2.2.2.2.2.1 hk ?_)) (b.put z oq (X.2.2.2.2.1 k hk)) h
  · rw [hs]
    show H1[ad k]? = some (vp_cell (tc t) (n, .inl (fun q => upd μ (o + j) x (o + q))))
    rw [e1, hjc]
    rw [vp_cell_i, vp_cell_i, arrV_store]
    congr 2
    funext q
    by_cases hq : q = j
    · subst hq
      simp [updV, upd, hna]
    · simp [updV, upd, hq]
  · rw [hs]
    exact ⟨by omega, by omega⟩
theorem zr_aald (X : zX p s m args meth c A D cl ad N nL K tys ow sh cc own ret) {k t j : Nat} {ks : List (Option Nat)} {i : Int32} (t0 r : Nat) {C : String} (d : decode cc pc = .ok (.aaload, 1)) (hk : k < N) (hs : sh k = .inr (.inr (t, ks))) (ht : tys[t0]? = some (tc t, .object C)) (hi : i = nI j) (hn : ks.length < 2 ^ 31) (hr : ks[j]? = some (some r)) (kk : zG p l e R s m args below meth c A D cl tc ad N sh nL Q μ (pc + 1) lv (.ref (ad r) :: st)) : zG p l e R s m args below meth c A D cl tc ad N sh nL Q μ pc lv (.int i :: .ref (ad k) :: st) := by
  intro H L ls a b h
  subst hi
  have hw := a k hk
  rw [hs] at hw
  have hj : j < ks.length := (List.getElem?_eq_some_iff.mp hr).1
  refine va_aldq (D := D) (cl := cl) (ws := [(ad k, .inl (tc t, ks.length, .inr (.inr (.inr (.inr (fun j => (ks.getD j none).map ad))))))]) X.1.1 X.1.2.1 X.2.2.2.2.2.1 (zP1 hw) 0 t0 rfl ht (vp_in_nI hj hn) d ?_
  rw [nI_clamp (by omega), List.getD_eq_getElem?_getD, hr]
  exact kk H L ls a b h
theorem zr_alenI (X : zX p s m args meth c A D cl ad N nL K tys ow sh cc own ret) {k t n o : Nat} {ty : FieldType} (t0 : Nat) (v : Int32) (d : decode cc pc = .ok (.arraylength, 1)) (hk : k < N) (hs : sh k = .inl (t, n, o)) (ht : tys[t0]? = some (tc t, ty)) (hv : Int32.ofNat n = v) (kk : zG p l e R s m args below meth c A D cl tc ad N sh nL Q μ (pc + 1) lv (.int v :: st)) : zG p l e R s m args below meth c A D cl tc ad N sh nL Q μ pc lv (.ref (ad k) :: st) := by
  intro H L ls a b h
  have hw := a k hk
  rw [hs] at hw
  exact va_alen (D := D) (cl := cl) (ws := [(ad k, .inl (tc t, n, .inl (fun q => μ (o + q))))]) X.1.1 X.1.2.1 X.2.2.2.2.2.1 (zP1 hw) 0 t0 rfl ht hv d (kk H L ls a b h)
theorem zr_alenQ (X : zX p s m args meth c A D cl ad N nL K tys ow sh cc own ret) {k t : Nat} {ks : List (Option Nat)} {ty : FieldType} (t0 : Nat) (v : Int32) (d : decode cc pc = .ok (.arraylength, 1)) (hk : k < N) (hs : sh k = .inr (.inr (t, ks))) (ht : tys[t0]? = some (tc t, ty)) (hv : Int32.ofNat ks.length = v) (kk : zG p l e R s m args below meth c A D cl tc ad N sh nL Q μ (pc + 1) lv (.int v :: st)) : zG p l e R s m args below meth c A D cl tc ad N sh nL Q μ pc lv (.ref (ad k) :: st) := by
  intro H L ls a b h
  have hw := a k hk
  rw [hs] at hw
  exact va_alen (D := D) (cl := cl) (ws := [(ad k, .inl (tc t, ks.length, .inr (.inr (.inr (.inr (fun j => (ks.getD j none).map ad))))))]) X.1.1 X.1.2.1 X.2.2.2.2.2.1 (zP1 hw) 0 t0 rfl ht hv d (kk H L ls a b h)
theorem zr_mmax (X : zX p s m args meth c A D cl ad N nL K tys ow sh cc own ret) {index : Nat} {x y : Int32} (z : Int32) (d : decode cc pc = .ok (.invokestatic index, 3)) (hl : Cond.methodLink own index Lib.Math.max.name ∈ zT) (hst : Cond.static Lib.Math.max.name ∈ zT) (hini : Cond.initialized "java/lang/Math" ∈ zT) (hco : Cond.code Lib.Math.max.name Lib.Math.max.code 2 (some .int) ∈ zT) (hf : 1 ≤ R.frames) (hlo : (st.map fun v => v.category).sum + 13 ≤ R.locals) (hz : (if x < y then y else x) = z) (kk : zG p l e R s m args below meth c A D cl tc ad N sh nL Q μ (pc + 3) lv (.int z :: st)) : zG p l e R s m args below meth c A D cl tc ad N sh nL Q μ pc lv (.int y :: .int x :: st) := by
  intro H L ls a b h
  refine va_mmax X.1.1 X.1.2.1 (X.1.2.2.1.trans h.1.symm) X.1.2.2.2.1 (X.1.2.2.2.2 _ hl) (X.1.2.2.2.2 _ hst) (X.1.2.2.2.2 _ hini) (X.1.2.2.2.2 _ hco) hf hlo (Nat.le_refl _) (Nat.le_refl _) d ?_
  rw [hz]
  exact kk H L ls a b h
theorem zr_mmin (X : zX p s m args meth c A D cl ad N nL K tys ow sh cc own ret) {index : Nat} {x y : Int32} (z : Int32) (d : decode cc pc = .ok (.invokestatic index, 3)) (hl : Cond.methodLink own index Lib.Math.min.name ∈ zT) (hst : Cond.static Lib.Math.min.name ∈ zT) (hini : Cond.initialized "java/lang/Math" ∈ zT) (hco : Cond.code Lib.Math.min.name Lib.Math.min.code 2 (some .int) ∈ zT) (hf : 1 ≤ R.frames) (hlo : (st.map fun v => v.category).sum + 13 ≤ R.locals) (hz : (if y < x then y else x) = z) (kk : zG p l e R s m args below meth c A D cl tc ad N sh nL Q μ (pc + 3) lv (.int z :: st)) : zG p l e R s m args below meth c A D cl tc ad N sh nL Q μ pc lv (.int y :: .int x :: st) := by
  intro H L ls a b h
  refine va_mmin X.1.1 X.1.2.1 (X.1.2.2.1.trans h.1.symm) X.1.2.2.2.1 (X.1.2.2.2.2 _ hl) (X.1.2.2.2.2 _ hst) (X.1.2.2.2.2 _ hini) (X.1.2.2.2.2 _ hco) hf hlo (Nat.le_refl _) (Nat.le_refl _) d ?_
  rw [hz]
  exact kk H L ls a b h
end ZR
