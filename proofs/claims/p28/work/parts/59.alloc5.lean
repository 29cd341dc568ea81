/-- what the makers of states may know besides: the first settings' cell, casts of int arrays, arrays of firms and states -/
def zK2 (A : Nat → Prop) (D : va_G) (tc : Nat → ClassId) (tF tL tM : Nat) (U : State) (H : Heap) : Prop := zK A D tc tF tL tM U H ∧ zFx (tc 0) tF (fun j => [20, 10, 5, 3, 50].getD j 0) 5 A H ∧ va_Nw (.castable "[I" "java/lang/Cloneable") U ∧ va_AO "AllowanceBook$Firm" U ∧ va_AO "AllowanceBook$State" U
theorem zK2_ok (A : Nat → Prop) (D : va_G) (tc : Nat → ClassId) (tF tL tM : Nat) : zKK (zK2 A D tc tF tL tM) A D vwCl (zTY tc) := by
  have k := zK_ok A D tc tF tL tM
  refine ⟨fun U g mk a H h => ?_, fun U U' H H' hW hs hq h => ?_, fun U H h => k.2.2 U H h.1⟩
  · obtain ⟨h1, h2, h3, h4, h5⟩ := h
    have e : U.vm.Alike (U.calling g mk a).vm := Vm.Alike.refl U.vm
    exact ⟨k.1 U g mk a H h1, h2, h3.same rfl rfl, h4.moved e, h5.moved e⟩
  · obtain ⟨h1, h2, h3, h4, h5⟩ := h
    exact ⟨k.2.1 U U' H H' hW hs hq h1, h2.kept hq, va_Nw.warmC hW h3, h4.moved hW.alike, h5.moved hW.alike⟩
theorem zK2_narrow {A A' : Nat → Prop} {D : va_G} {tc : Nat → ClassId} {tF tL tM : Nat} {U : State} {H : Heap} (h : zK2 A D tc tF tL tM U H) (hA : ∀ q, A' q → A q) : zK2 A' D tc tF tL tM U H := ⟨zK_narrow h.1 hA, h.2.1.narrow hA, h.2.2⟩
section ZJ5
variable {p : Program} {l : Launch} {e : Env} {R : Room} {s : State} {m : MethodId} {args : Array Value} {below : List Frame} {meth : Method} {c : Code} {D : va_G} {cl : List vw_C} {a0 nL : Nat} {Q : State → Prop} {cells slots : Nat} {ss : List va_E} {pc : Nat} {lv : List (Nat × Value)} {st : List Value}
variable {K : State → Heap → Prop} {tys : List (ClassId × FieldType)} {cc : ByteArray} {own : String}
theorem zY_to {K' : State → Heap → Prop} (X : zY p s m args meth c D cl a0 nL K tys cc own) (h : ∀ U H, K U H → K' U H) : zY p s m args meth c D cl a0 nL K' tys cc own := ⟨X.1, X.2.1, X.2.2.1, X.2.2.2.1, X.2.2.2.2.1, h _ _ X.2.2.2.2.2.1, fun U H a b c => h _ _ (X.2.2.2.2.2.2 U H a b c)⟩
/-- the cells under another name -/
theorem zj_ss {ss1 : List va_E} (e1 : ss = ss1) (kk : zJ p l e R s m args below meth c D cl a0 nL Q cells slots ss1 pc lv st) : zJ p l e R s m args below meth c D cl a0 nL Q cells slots ss pc lv st := by rw [e1]; exact kk
theorem zj_istoren (X : zY p s m args meth c D cl a0 nL K tys cc own) {k : Fin 4} {x : Int32} (is : List Nat) (lv1 : List (Nat × Value)) (d : decode cc pc = .ok (.istore_n k, 1)) (hk : (k : Nat) < nL) (h1 : lv_pick (zS k (.int x) lv) is = lv1) (kk : zJ p l e R s m args below meth c D cl a0 nL Q cells slots ss (pc + 1) lv1 st) : zJ p l e R s m args below meth c D cl a0 nL Q cells slots ss pc lv (.int x :: st) :=
  fun H L ls a b h => lv_istore_n X.1.1 X.1.2.1 d rfl h hk rfl (fun ls1 h2 => kk H L ls1 a b (lv_sub h2 is h1))
theorem zj_iinc (X : zY p s m args meth c D cl a0 nL K tys cc own) {i : Nat} {n : Int} {x : Int32} (j : Nat) (v : Int32) (is : List Nat) (lv1 : List (Nat × Value)) (d : decode cc pc = .ok (.iinc i n, 3)) (hj : lv[j]? = some (i, .int x)) (hv : x + Int32.ofInt n = v) (hk : i < nL) (h1 : lv_pick (zS i (.int v) lv) is = lv1) (kk : zJ p l e R s m args below meth c D cl a0 nL Q cells slots ss (pc + 3) lv1 st) : zJ p l e R s m args below meth c D cl a0 nL Q cells slots ss pc lv st :=
  fun H L ls a b h => lv_iinc X.1.1 X.1.2.1 d h hj hv hk rfl (fun ls1 h2 => kk H L ls1 a b (lv_sub h2 is h1))
theorem zj_iloadn (X : zY p s m args meth c D cl a0 nL K tys cc own) {k : Fin 4} (j : Nat) {x : Int32} (d : decode cc pc = .ok (.iload_n k, 1)) (hl : lv[j]? = some ((k : Nat), .int x)) (kk : zJ p l e R s m args below meth c D cl a0 nL Q cells slots ss (pc + 1) lv (.int x :: st)) : zJ p l e R s m args below meth c D cl a0 nL Q cells slots ss pc lv st :=
  fun H L ls a b h => lv_iload_n X.1.1 X.1.2.1 d rfl (lv_at h j hl) (kk H L ls a b h)
theorem zj_icmp_ge (X : zY p s m args meth c D cl a0 nL K tys cc own) {x y : Int32} {off : Int} (tgt : Nat) (d : decode cc pc = .ok (.if_icmp .ge off, 3)) (ht : (pc : Int) + off = (tgt : Int)) (kt : y ≤ x → zJ p l e R s m args below meth c D cl a0 nL Q cells slots ss tgt lv st) (kf : ¬ y ≤ x → zJ p l e R s m args below meth c D cl a0 nL Q cells slots ss (pc + 3) lv st) : zJ p l e R s m args below meth c D cl a0 nL Q cells slots ss pc lv (.int y :: .int x :: st) :=
  fun H L ls a b h => lv_icmp_ge X.1.1 X.1.2.1 d ht (fun q => kt q H L ls a b h) (fun q => kf q H L ls a b h)
theorem zj_goto (X : zY p s m args meth c D cl a0 nL K tys cc own) {off : Int} (tgt : Nat) (d : decode cc pc = .ok (.goto off, 3)) (ht : (pc : Int) + off = (tgt : Int)) (kk : zJ p l e R s m args below meth c D cl a0 nL Q cells slots ss tgt lv st) : zJ p l e R s m args below meth c D cl a0 nL Q cells slots ss pc lv st :=
  fun H L ls a b h => lv_goto X.1.1 X.1.2.1 d ht (kk H L ls a b h)
end ZJ5
