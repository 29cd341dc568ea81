/-! THE LAW: both worlds side by side, the class's cells from the old heap's end on, the reference's behind them -/
def zLX (p : Program) (s : State) (m : MethodId) (c : Code) (b : Nat) (D : va_G) (tc : Nat → ClassId) (tF tL tM : Nat) : Prop := CallFix p m c code 4 s #[Value.ref b] zT RL ∧ zK2 (fun q => s.heap.size ≤ q) D tc tF tL tM s s.heap
def zB (p : Program) (l : Launch) (e : Env) (s : State) (m : MethodId) (b : Nat) (below : List Frame) (meth : Method) (c : Code) (D : va_G) (tc : Nat → ClassId) (Q : State → Prop) (μ ν : Nat → Int32) (pc : Nat) (lv : List (Nat × Value)) (st : List Value) : Prop :=
  ∀ (H : Heap) (locs : List Loc) (ls : Array Slot), zW D vwCl tc (fun k => s.heap.size + k) 299 shC μ H → zW D vwCl tc (fun k => s.heap.size + 299 + k) 6 shR ν H → va_S (fun q => s.heap.size ≤ q) s.heap H locs → lv_has ls 4 lv → W p l e room_1 s m #[Value.ref b] below meth c H locs 305 5407 Q (F0 m pc ls st)
abbrev lwL (b a : Nat) (x : Int32) : List (Nat × Value) := [(0, .ref b), (1, .ref a), (2, .ref (a + 299)), (3, .int x)]
section ZLW
variable {p : Program} {l : Launch} {e : Env} {s : State} {m : MethodId} {b : Nat} {below : List Frame} {meth : Method} {c : Code} {D : va_G} {tc : Nat → ClassId} {tF tL tM : Nat} {Q : State → Prop} {μ ν : Nat → Int32} {pc : Nat} {lv : List (Nat × Value)} {st : List Value} {L i : Nat} {xs : Nat → Int32}
theorem zLX.warm (X : zLX p s m c b D tc tF tL tM) : ∀ (U : State) (H : Heap), s.WarmedH U.vm → s.heap.size ≤ H.size → (∀ q : Nat, q < s.heap.size → ¬ s.heap.size ≤ q → H[q]? = s.heap[q]?) → zK2 (fun q => s.heap.size ≤ q) D tc tF tL tM U H := fun U H h1 h2 h3 => (zK2_ok (fun q => s.heap.size ≤ q) D tc tF tL tM).2.1 s U s.heap H h1 h2 h3 X.2
theorem zb_al1 (X : zLX p s m c b D tc tF tL tM) (d : decode code pc = .ok (.aload_n 1, 1)) (kk : zB p l e s m b below meth c D tc Q μ ν (pc + 1) (lwL b s.heap.size (nI i)) (.ref s.heap.size :: st)) : zB p l e s m b below meth c D tc Q μ ν pc (lwL b s.heap.size (nI i)) st :=
  fun H L ls a1 a2 bS h => lv_aload_n X.1.1 X.1.2.1 d rfl (lv_at h 1 rfl) (kk H L ls a1 a2 bS h)
theorem zb_al2 (X : zLX p s m c b D tc tF tL tM) (d : decode code pc = .ok (.aload_n 2, 1)) (kk : zB p l e s m b below meth c D tc Q μ ν (pc + 1) (lwL b s.heap.size (nI i)) (.ref (s.heap.size + 299) :: st)) : zB p l e s m b below meth c D tc Q μ ν pc (lwL b s.heap.size (nI i)) st :=
  fun H L ls a1 a2 bS h => lv_aload_n X.1.1 X.1.2.1 d rfl (lv_at h 2 rfl) (kk H L ls a1 a2 bS h)
theorem zb_i2c (X : zLX p s m c b D tc tF tL tM) {x : Int32} (d : decode code pc = .ok (.i2c, 1)) (kk : zB p l e s m b below meth c D tc Q μ ν (pc + 1) lv (.int (x.toUInt32 % 65536).toInt32 :: st)) : zB p l e s m b below meth c D tc Q μ ν pc lv (.int x :: st) :=
  fun H L ls a1 a2 bS h => lv_i2c X.1.1 X.1.2.1 d rfl (kk H L ls a1 a2 bS h)
theorem zb_eq (X : zLX p s m c b D tc tF tL tM) {x : Int32} {off : Int} (tgt : Nat) (d : decode code pc = .ok (.if_icmp .eq off, 3)) (ht : (pc : Int) + off = (tgt : Int)) (kk : zB p l e s m b below meth c D tc Q μ ν tgt lv st) : zB p l e s m b below meth c D tc Q μ ν pc lv (.int x :: .int x :: st) :=
  fun H L ls a1 a2 bS h => lv_icmp_eq X.1.1 X.1.2.1 d ht (fun _ => kk H L ls a1 a2 bS h) (fun q => absurd rfl q)
theorem zb_arg (X : zLX p s m c b D tc tF tL tM) (hX : va_X b L xs s s.heap) (hbl : b < s.heap.size) (hL : L ≤ 2560) (j : Nat) {n : Int} (hij : i + j < L) (d0 : decode code pc = .ok (.aload_n 0, 1)) (d1 : decode code (pc + 1) = .ok (.iload_n 3, 1)) (d2 : decode code (pc + 2) = .ok (.iconst n, 1)) (hn : Int32.ofInt n = nI j) (d3 : decode code (pc + 3) = .ok (.iadd, 1)) (d4 : decode code (pc + 4) = .ok (.iaload, 1)) (kk : zB p l e s m b below meth c D tc Q μ ν (pc + 5) (lwL b s.heap.size (nI i)) (.int (xs (i + j)) :: st)) : zB p l e s m b below meth c D tc Q μ ν pc (lwL b s.heap.size (nI i)) st := by
  intro H L' ls a1 a2 bS h
  refine lv_aload_n X.1.1 X.1.2.1 d0 rfl (lv_at h 0 rfl) ?_
  refine lv_iload_n X.1.1 X.1.2.1 d1 rfl (lv_at h 3 rfl) ?_
  refine lv_iconst X.1.1 X.1.2.1 d2 hn ?_
  refine lv_iadd X.1.1 X.1.2.1 d3 ?_
  rw [nI_add]
  refine va_sld X.1.1 X.1.2.1 hX hbl (Nat.not_le.mpr hbl) bS (pk_in (i + j) L hij rfl (by omega)) d4 ?_
  rw [nI_clamp (by omega)]
  exact kk H L' ls a1 a2 bS h
theorem zb_callC (X : zLX p s m c b D tc tF tL tM) {yC : MethodName} {cC : ByteArray} {nC dC index n : Nat} {as rest : List Value} {rv : Int32} {PC : (Nat → Int32) → Prop} (hd6 : dC ≤ 6)
    (hM : ∀ {D : va_G} {tc : Nat → ClassId} {ad : Nat → Nat} {A : Nat → Prop} {tF tL tM : Nat}, zN 299 A ad → zMi l yC cC nC (some .int) (zrm dC) (zK A D tc tF tL tM) A D vwCl tc ad 299 shC (.ref (ad 0) :: as) μ (fun r u => r = rv ∧ PC u))
    (h1 : Cond.methodLink RL index yC ∈ zT) (h2 : Cond.instanceMethod yC ∈ zT) (h3 : Cond.selects RX5 yC yC ∈ zT) (h5 : Cond.code yC cC nC (some .int) ∈ zT) (hd : yC.cls = RX5 ∧ yC.cls ≠ "java/lang/invoke/MethodHandle" ∧ yC.cls ≠ "java/lang/invoke/VarHandle" ∧ (parseMethodDescriptor yC.desc).map (fun d => d.parameters.length) = some n) (hn : as.length = n) (hnC : nC ≤ 20) (hst : st = as.reverse ++ .ref s.heap.size :: rest) (hroom : (rest.map fun v => v.category).sum ≤ 8) (d : decode code pc = .ok (.invokevirtual index, 3))
    (kk : ∀ u, PC u → zB p l e s m b below meth c D tc Q u ν (pc + 3) lv (.int rv :: rest)) : zB p l e s m b below meth c D tc Q μ ν pc lv st := by
  intro H L ls a1 a2 bS h
  have hMM := hM (D := D) (tc := tc) (ad := fun k => s.heap.size + k) (A := fun q => s.heap.size ≤ q ∧ q < s.heap.size + 299) (tF := tF) (tL := tL) (tM := tM) ⟨fun i j _ _ q => by have q : s.heap.size + i = s.heap.size + j := q; omega, fun k hk => by show s.heap.size ≤ s.heap.size + k ∧ s.heap.size + k < s.heap.size + 299; omega⟩
  have hw := a1 0 (by omega)
  rw [sc_0] at hw
  refine va_calli (va_runV (As := as) (rest := rest) (b := s.heap.size) (nL := 4) X.1 hMM (cwV n X.1.2.2.2.2 (zGoodV h1 h2 h3 k_1 h5) rfl rfl rfl hd ⟨by show dC + 1 ≤ 8; omega, by show 8 + (nC + 11) + 30 * dC ≤ 270; omega⟩) ⟨zPre_blind (zK_ok (fun q => s.heap.size ≤ q ∧ q < s.heap.size + 299) D tc tF tL tM), va_recv X.2.1.1 (zP1 hw) (ci := 5) (q0 := 0) rfl rfl, fun U hU hWm => ⟨rfl, by rw [hU]; exact a1, by rw [hU]; exact zK_narrow (X.warm U H hWm bS.1 bS.2.1).1 (fun q hq => hq.1)⟩⟩ rfl hn h.1 hst (lv_room hroom) d ⟨by show 305 ≤ 600000; omega, by show 5407 ≤ 7302249; omega⟩) bS (fun q _ hq => hq.1) (fun q hq => hq.1) (fun z u t H1 L1 ht _ hp hB hz hk hS => ?_)
  obtain ⟨hp1, hp⟩ := hp
  subst hp1
  refine kk u hp H1 L1 ls (by rw [← ht]; exact hB) (a2.kept (fun k hk6 => hk _ ?_ (fun q => ?_))) hS h
  · exact (a2 k hk6).lt
  · have q2 := q.2; omega
theorem zb_callR (X : zLX p s m c b D tc tF tL tM) {yC : MethodName} {cC : ByteArray} {nC dC index n : Nat} {as rest : List Value} {rv : Int32} {PC : (Nat → Int32) → Prop} (hd6 : dC ≤ 6)
    (hM : ∀ {D : va_G} {tc : Nat → ClassId} {ad : Nat → Nat} {A : Nat → Prop} {tF tL tM : Nat}, zN 6 A ad → zMi l yC cC nC (some .int) (zrm dC) (zK A D tc tF tL tM) A D vwCl tc ad 6 shR (.ref (ad 0) :: as) ν (fun r u => r = rv ∧ PC u))
    (h1 : Cond.methodLink RL index yC ∈ zT) (h2 : Cond.instanceMethod yC ∈ zT) (h3 : Cond.selects RX6 yC yC ∈ zT) (h5 : Cond.code yC cC nC (some .int) ∈ zT) (hd : yC.cls = RX6 ∧ yC.cls ≠ "java/lang/invoke/MethodHandle" ∧ yC.cls ≠ "java/lang/invoke/VarHandle" ∧ (parseMethodDescriptor yC.desc).map (fun d => d.parameters.length) = some n) (hn : as.length = n) (hnC : nC ≤ 20) (hst : st = as.reverse ++ .ref (s.heap.size + 299) :: rest) (hroom : (rest.map fun v => v.category).sum ≤ 8) (d : decode code pc = .ok (.invokevirtual index, 3))
    (kk : ∀ u, PC u → zB p l e s m b below meth c D tc Q μ u (pc + 3) lv (.int rv :: rest)) : zB p l e s m b below meth c D tc Q μ ν pc lv st := by
  intro H L ls a1 a2 bS h
  have hMM := hM (D := D) (tc := tc) (ad := fun k => s.heap.size + 299 + k) (A := fun q => s.heap.size + 299 ≤ q ∧ q < s.heap.size + 305) (tF := tF) (tL := tL) (tM := tM) ⟨fun i j _ _ q => by have q : s.heap.size + 299 + i = s.heap.size + 299 + j := q; omega, fun k hk => by show s.heap.size + 299 ≤ s.heap.size + 299 + k ∧ s.heap.size + 299 + k < s.heap.size + 305; omega⟩
  have hw := a2 0 (by omega)
  refine va_calli (va_runV (As := as) (rest := rest) (b := s.heap.size + 299) (nL := 4) X.1 hMM (cwV n X.1.2.2.2.2 (zGoodV h1 h2 h3 k_7 h5) rfl rfl rfl hd ⟨by show dC + 1 ≤ 8; omega, by show 8 + (nC + 11) + 30 * dC ≤ 270; omega⟩) ⟨zPre_blind (zK_ok (fun q => s.heap.size + 299 ≤ q ∧ q < s.heap.size + 305) D tc tF tL tM), va_recv X.2.1.1 (zP1 hw) (ci := 6) (q0 := 0) rfl rfl, fun U hU hWm => ⟨rfl, by rw [hU]; exact a2, by rw [hU]; exact zK_narrow (X.warm U H hWm bS.1 bS.2.1).1 (fun q hq => by have q1 := hq.1; omega)⟩⟩ rfl hn h.1 hst (lv_room hroom) d ⟨by show 305 ≤ 600000; omega, by show 5407 ≤ 7302249; omega⟩) bS (fun q _ hq => by have q1 := hq.1; omega) (fun q hq => by have q1 := hq.1; omega) (fun z u t H1 L1 ht _ hp hB hz hk hS => ?_)
  obtain ⟨hp1, hp⟩ := hp
  subst hp1
  refine kk u hp H1 L1 ls (a1.kept (fun k hk6 => hk _ ?_ (fun q => ?_))) (by rw [← ht]; exact hB) hS h
  · exact (a1 k hk6).lt
  · have q1 := q.1; omega
end ZLW
