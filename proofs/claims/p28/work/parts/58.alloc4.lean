section ZJ4
variable {p : Program} {l : Launch} {e : Env} {R : Room} {s : State} {m : MethodId} {args : Array Value} {below : List Frame} {meth : Method} {c : Code} {D : va_G} {cl : List vw_C} {a0 nL : Nat} {Q : State → Prop} {cells slots : Nat} {ss : List va_E} {pc : Nat} {lv : List (Nat × Value)} {st : List Value}
variable {K : State → Heap → Prop} {tys : List (ClassId × FieldType)} {cc : ByteArray} {own : String}
theorem zj_newq (X : zY p s m args meth c D cl a0 nL K tys cc own) {t : ClassId} {C : String} {idx : Nat} (t0 n : Nat) {z : Int32} (d : decode cc pc = .ok (.anewarray idx, 3)) (hclink : Cond.classLink own idx C ∈ zT) (hover : va_AO C s) (ht : tys[t0]? = some (t, .object C)) (hz : z = nI n) (hn : n < 2 ^ 20) (hcells : cells + 1 ≤ R.cells) (hslots : slots + n ≤ R.slots) (kk : zJ p l e R s m args below meth c D cl a0 nL Q (cells + 1) (slots + n) (ss ++ [.inl (t, n, .inr (.inr (.inr (.inr (fun _ => none)))))]) (pc + 3) lv (.ref (a0 + ss.length) :: st)) : zJ p l e R s m args below meth c D cl a0 nL Q cells slots ss pc lv (.int z :: st) := by
  intro H L ls a b h
  subst hz
  have hnc : (nI n).toNatClampNeg = n := nI_clamp (by omega)
  refine W.anew X.1.1 X.1.2.1 X.1.2.2.2.1 (X.1.2.2.2.2 _ hclink) (va_AO.use hover) rfl d rfl (nI_pos (by omega)) (by rw [hnc]; omega) hcells (by rw [hnc]; exact hslots) fun cA kA comp f1 f2 f3 f4 => ?_
  rw [hnc]
  obtain ⟨kA', comp', k1, k2, k3, k4⟩ := (X.2.2.2.1.2 t0 _ ht).2
  cases k4.symm.trans f1
  generalize hH1 : H.push ({ cls := t, slots := Array.replicate n .null, vm := .none } : Cell) = H1
  have z1 : H1.size = H.size + 1 := by rw [← hH1, Array.size_push]
  have e1 : H1[H.size]? = some (arrV t n (fun _ => .null)) := by rw [← hH1, Array.getElem?_push_size, ← arrV_new]
  have o1 : ∀ q : Nat, q < H.size → H1[q]? = H[q]? := fun q hq => by rw [← hH1, Array.getElem?_push, if_neg (Nat.ne_of_lt hq)]
  have kq := kk H1 L ls (zA0_push a (by rw [z1, a.1]) (fun q hq => o1 q (by rw [a.1]; exact hq)) (by show H1[a0 + ss.length]? = some (vp_cell _ _); rw [vp_cell_q, ← a.1]; exact e1)) ⟨by have := b.1; omega, fun q h1 h2 => (o1 q (Nat.lt_of_lt_of_le h1 b.1)).trans (b.2.1 q h1 h2), b.2.2⟩ h
  rw [← a.1] at kq
  exact kq
theorem zj_astq (X : zY p s m args meth c D cl a0 nL K tys cc own) {t : ClassId} {n ci : Nat} {r : vw_C} {f : Nat → Option Nat} {vs : List Value} {i : Int32} (k j kv t0 : Nat) (d : decode cc pc = .ok (.aastore, 1)) (hss : ss[k]? = some (.inl (t, n, .inr (.inr (.inr (.inr f)))))) (hv : ss[kv]? = some (.inr (ci, vs))) (hc : cl[ci]? = some r) (ht : tys[t0]? = some (t, .object r.1)) (hi : i = nI j) (hj : j < n) (hn : n < 2 ^ 31) (kk : zJ p l e R s m args below meth c D cl a0 nL Q cells slots (ss.set k (.inl (t, n, .inr (.inr (.inr (.inr (va_up f j (some (a0 + kv))))))))) (pc + 1) lv st) : zJ p l e R s m args below meth c D cl a0 nL Q cells slots ss pc lv (.ref (a0 + kv) :: .int i :: .ref (a0 + k) :: st) := by
  intro H L ls a b h
  subst hi
  have hk : k < ss.length := (List.getElem?_eq_some_iff.mp hss).1
  have hjc : (nI j).toNatClampNeg = j := nI_clamp (by omega)
  have hK := X.2.2.2.1
  obtain ⟨r', hr', cellV, g1, g2, g3, -⟩ := a.2 kv _ hv
  have hcls := (hK.1 ci r hc).2
  obtain ⟨kA, comp, k1, k2, k3, -⟩ := (hK.2 t0 _ ht).2
  have hcomp : comp = D.1 ci := Option.some.inj (k3.symm.trans hcls.1)
  subst hcomp
  obtain ⟨kC, hkC, -⟩ := hcls.2
  refine W.aast X.1.1 X.1.2.1 (a.2 k _ hss) (fun q h => by cases h) (fun h => by cases h) k1 k2 rfl hkC ⟨nI_pos (by omega), by show _ < (arrV _ _ _).slots.size; rw [arrV_size, hjc]; exact hj⟩ g1 (fun q h => by rw [g3] at h; cases h) (by rw [g2]; exact hkC) (by rw [g2]; exact va_assign hcls) rfl rfl d fun H1 e z oq => ?_
  refine kk H1 _ ls (zA0_set a hk z oq ?_) (b.put z oq (Nat.le_add_right a0 k)) h
  show H1[a0 + k]? = some (vp_cell _ _)
  rw [e, hjc]
  rw [vp_cell_q, vp_cell_q, arrV_store]
  congr 2
  funext q
  by_cases hq : q = j
  · subst hq
    simp [updV, va_up, va_rf]
  · simp [updV, va_up, hq]
theorem zj_castA (X : zY p s m args meth c D cl a0 nL K tys cc own) {t : ClassId} {x : vp_A} {idx : Nat} {nm : String} (k : Nat) (d : decode cc pc = .ok (.checkcast idx, 3)) (hlink : Cond.classLink own idx nm ∈ zT) (hss : ss[k]? = some (.inl (t, x))) (hnm : s.vm.findClass nm = some t) (kk : zJ p l e R s m args below meth c D cl a0 nL Q cells slots ss (pc + 3) lv (.ref (a0 + k) :: st)) : zJ p l e R s m args below meth c D cl a0 nL Q cells slots ss pc lv (.ref (a0 + k) :: st) :=
  fun H L ls a b h => va_castA (D := D) (cl := cl) (ws := [(a0 + k, .inl (t, x))]) X.1.1 X.1.2.1 X.1.2.2.2.1 (X.1.2.2.2.2 _ hlink) (zP1 (a.2 k _ hss)) 0 rfl hnm d (kk H L ls a b h)
end ZJ4
