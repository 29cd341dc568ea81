/-- the first settings' own cell, for its clone -/
def zFx (t : ClassId) (tF : Nat) (f : Nat → Int32) (n : Nat) (A : Nat → Prop) (H : Heap) : Prop := ∃ cell : Cell, H[tF]? = some cell ∧ ({ cls := cell.cls, slots := cell.slots } : Cell) = vp_cell t (n, .inl f) ∧ cell.vm ≠ .unknown ∧ (∀ k, cell.vm ≠ .statics k) ∧ ¬ A tF
theorem zFx.kept {t : ClassId} {tF : Nat} {f : Nat → Int32} {n : Nat} {A : Nat → Prop} {H H1 : Heap} (h : zFx t tF f n A H) (hq : ∀ q : Nat, q < H.size → ¬ A q → H1[q]? = H[q]?) : zFx t tF f n A H1 := by
  obtain ⟨cell, h1, h2, h3, h4, h5⟩ := h
  exact ⟨cell, (hq tF (Array.getElem?_eq_some_iff.mp h1).1 h5).trans h1, h2, h3, h4, h5⟩
theorem zFx.narrow {t : ClassId} {tF : Nat} {f : Nat → Int32} {n : Nat} {A A' : Nat → Prop} {H : Heap} (h : zFx t tF f n A H) (hA : ∀ q, A' q → A q) : zFx t tF f n A' H := by
  obtain ⟨cell, h1, h2, h3, h4, h5⟩ := h
  exact ⟨cell, h1, h2, h3, h4, fun q => h5 (hA _ q)⟩
section ZJ3
variable {p : Program} {l : Launch} {e : Env} {R : Room} {s : State} {m : MethodId} {args : Array Value} {below : List Frame} {meth : Method} {c : Code} {D : va_G} {cl : List vw_C} {a0 nL : Nat} {Q : State → Prop} {cells slots : Nat} {ss : List va_E} {pc : Nat} {lv : List (Nat × Value)} {st : List Value}
variable {K : State → Heap → Prop} {tys : List (ClassId × FieldType)} {cc : ByteArray} {own : String}
theorem zj_getsN (X : zY p s m args meth c D cl a0 nL K tys cc own) {C n dd host : String} {v : Value} {idx : Nat} (hZ : va_Z C n dd v (fun q => a0 ≤ q) s s.heap) (hl : va_Nw (.fieldLinkNest own idx C n dd host) s) (d : decode cc pc = .ok (.getstatic idx, 3)) (kk : zJ p l e R s m args below meth c D cl a0 nL Q cells slots ss (pc + 3) lv (v :: st)) : zJ p l e R s m args below meth c D cl a0 nL Q cells slots ss pc lv st :=
  fun H L ls a b h => va_getsN X.1.1 X.1.2.1 hZ b X.1.2.2.2.1 (va_Nw.use (A := args) rfl hl) (fun x q => q) d (kk H L ls a b h)
theorem zj_clone (X : zY p s m args meth c D cl a0 nL K tys cc own) {t : ClassId} {tF n idx : Nat} {f : Nat → Int32} {ad : String} (t0 : Nat) (d : decode cc pc = .ok (.invokevirtual idx, 3)) (hF : zFx t tF f n (fun q => a0 ≤ q) s.heap) (ht : tys[t0]? = some (t, .int)) (hnm : s.vm.findClass ad = some t)
    (hlink : Cond.methodLink own idx ⟨ad, "clone", "()Ljava/lang/Object;"⟩ ∈ zT) (hsame : Cond.sameMethod ad "java/lang/Object" "clone" "()Ljava/lang/Object;" ∈ zT) (hnat : Cond.native ⟨"java/lang/Object", "clone", "()Ljava/lang/Object;"⟩ ∈ zT) (hinst : Cond.instanceMethod ⟨"java/lang/Object", "clone", "()Ljava/lang/Object;"⟩ ∈ zT) (hsel : Cond.selects ad ⟨ad, "clone", "()Ljava/lang/Object;"⟩ ⟨"java/lang/Object", "clone", "()Ljava/lang/Object;"⟩ ∈ zT) (hcl : va_Nw (.castable ad "java/lang/Cloneable") s)
    (hframes : 1 ≤ R.frames) (hlocals : (st.map fun v => v.category).sum + 14 ≤ R.locals) (hcells : cells + 1 ≤ R.cells) (hslots : slots + n ≤ R.slots)
    (kk : zJ p l e R s m args below meth c D cl a0 nL Q (cells + 1) (slots + n) (ss ++ [.inl (t, n, .inl f)]) (pc + 3) lv (.ref (a0 + ss.length) :: st)) : zJ p l e R s m args below meth c D cl a0 nL Q cells slots ss pc lv (.ref tF :: st) := by
  intro H L ls a b h
  have hts := X.1.2.2.2.2
  obtain ⟨cell, f1, f2, f3, f4, f5⟩ := hF
  have hcl0 : cell.cls = t := congrArg Cell.cls f2
  have hslE : cell.slots = (vp_cell t (n, .inl f)).slots := by have q := congrArg Cell.slots f2; exact q
  have hsz : cell.slots.size = n := by rw [hslE]; exact arrV_size _ _ _
  have hcellH : H[tF]? = some cell := (b.2.1 tF (Array.getElem?_eq_some_iff.mp f1).1 f5).trans f1
  obtain ⟨cC, kc, g1, g2, g3⟩ := Cond.castable_spec (va_Nw.use (A := args) rfl hcl)
  cases hnm.symm.trans g1
  intro T hT X0
  have hcellT : T.heap[tF]? = some cell := by rw [hT]; exact hcellH
  obtain ⟨-, kA, hkA, comp, hkind⟩ := State.isArrayOf_alike X0.warmed.alike ((X.2.2.2.1.2 t0 _ ht).1 0 (fun _ => .null))
  obtain ⟨-, kS, hkS, compS, hkindS⟩ := (X.2.2.2.1.2 t0 _ ht).1 0 (fun _ => .null)
  obtain ⟨vm', X', stp⟩ := X0.cloneArray X.1.1 X.1.2.2.2.1 (hts _ hlink) (hts _ hsame) (hts _ hnat) (hts _ hinst) (hts _ hsel) (a := tF) (cell := cell) hcellT f4 f3 (by rw [hcl0]; exact hnm) g2 (by rw [hcl0]; exact g3)
    (fun i v hv => by
      rw [hcl0]
      have hk' : T.vm.classes[t]? = some kA := hkA
      rw [hslE] at hv
      have hv' : ∃ z : Int32, v = .int z := by
        by_cases hi : i < n
        · have e1 : (arrV t n (fun j => .int (f j))).slots[i]? = some (.int (f i)) := arrV_read t (fun j => .int (f j)) hi
          exact ⟨f i, Option.some.inj (hv.symm.trans e1)⟩
        · have e1 : (arrV t n (fun j => .int (f j))).slots[i]? = none := Array.getElem?_eq_none (by rw [arrV_size]; omega)
          exact absurd (hv.symm.trans e1) (by simp)
      obtain ⟨z, rfl⟩ := hv'
      simp [State.fitsSlot, State.slotType?, hk', hkind, fits])
    (g := F0 m pc ls (.ref tF :: st)) rfl (by rw [X.1.2.2.1]; exact h.1) rfl (by rw [X.1.2.1]; exact d) hframes (by show 2 * 0 + _ + 14 ≤ _; omega) hcells (by rw [hsz]; exact hslots) (hloader := by rw [hcl0]; exact Vm.clonesLoader_of_array hkS hkindS)
  rw [f2, hsz] at X'
  generalize hH1 : H.push (vp_cell t (n, .inl f)) = H1
  have z1 : H1.size = H.size + 1 := by rw [← hH1, Array.size_push]
  have e1 : H1[H.size]? = some (vp_cell t (n, .inl f)) := by rw [← hH1, Array.getElem?_push_size]
  have o1 : ∀ q : Nat, q < H.size → H1[q]? = H[q]? := fun q hq => by rw [← hH1, Array.getElem?_push, if_neg (Nat.ne_of_lt hq)]
  obtain ⟨t2, b1, b2⟩ := kk H1 L ls (zA0_push a (by rw [z1, a.1]) (fun q hq => o1 q (by rw [a.1]; exact hq)) (by show H1[a0 + ss.length]? = _; rw [← a.1]; exact e1)) ⟨by have := b.1; omega, fun q h1 h2 => (o1 q (Nat.lt_of_lt_of_le h1 b.1)).trans (b.2.1 q h1 h2), b.2.2⟩ h ((T.setVm vm').pushCell (vp_cell t (n, .inl f))) (by rw [← hH1, ← hT]; rfl) X'
  refine ⟨t2, stp t2 ?_, b2⟩
  rw [f2, hT, a.1]
  exact b1
end ZJ3
