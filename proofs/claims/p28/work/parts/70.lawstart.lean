/-! THE LAW: the object is made; then its body -/
def zLX (p : Program) (s : State) (m : MethodId) (c : Code) (b : Nat) (D : va_G) (tc : Nat → ClassId) (tF tL tM : Nat) : Prop := CallFix p m c code 8 s #[Value.ref b] zT RL ∧ zK2 (fun q => s.heap.size ≤ q) D tc tF tL tM s s.heap
section ZLL
variable {p : Program} {l : Launch} {e : Env} {s : State} {m : MethodId} {b : Nat} {below : List Frame} {meth : Method} {c : Code} {D : va_G} {tc : Nat → ClassId} {tF tL tM : Nat} {Q : State → Prop} {μ ν : Nat → Int32} {pc : Nat} {lv : List (Nat × Value)} {st : List Value} {L i : Nat} {xs : Nat → Int32}
theorem zLX.warm (X : zLX p s m c b D tc tF tL tM) : ∀ (U : State) (H : Heap), s.WarmedH U.vm → s.heap.size ≤ H.size → (∀ q : Nat, q < s.heap.size → ¬ s.heap.size ≤ q → H[q]? = s.heap[q]?) → zK2 (fun q => s.heap.size ≤ q) D tc tF tL tM U H := fun U H h1 h2 h3 => (zK2_ok (fun q => s.heap.size ≤ q) D tc tF tL tM).2.1 s U s.heap H h1 h2 h3 X.2
variable {cells slots : Nat} {ss : List va_E}
theorem zl_new (X : zLX p s m c b D tc tF tL tM) {ci idx Nf : Nat} {C : String} {T : u_T} {ty0 : Nat → FieldType} (fs : List Value) (d : decode code pc = .ok (.new idx, 3)) (hc : vwCl[ci]? = some (C, T, Nf)) (hin : ∀ w ∈ u_ws C T Nf, w ∈ zT) (hty0 : ∀ j, j < Nf → parseFieldDescriptor (T j).2.2.1 = some (ty0 j)) (hcl : Cond.classLink RL idx C ∈ zT) (hinst : Cond.instantiable C Nf ∈ zT) (hini : Cond.initialized C ∈ zT) (hfs : ∀ j, j < Nf → defaultValue (ty0 j) = vp_V fs j) (hcells : cells + 1 ≤ room_1.cells) (hslots : slots + Nf ≤ room_1.slots) (kk : zJ p l e room_1 s m #[Value.ref b] below meth c D vwCl s.heap.size 8 Q (cells + 1) (slots + Nf) (ss ++ [.inr (ci, fs)]) (pc + 3) lv (.ref (s.heap.size + ss.length) :: st)) : zJ p l e room_1 s m #[Value.ref b] below meth c D vwCl s.heap.size 8 Q cells slots ss pc lv st := by
  intro H L ls a bS h
  have hKn := X.2.1.1.1 ci _ hc
  refine W.newcK X.1.1 X.1.2.1 X.1.2.2.2.1 (X.1.2.2.2.2 _ hcl) (X.1.2.2.2.2 _ hinst) (X.1.2.2.2.2 _ hini) rfl d hcells hslots hKn.2.1 a.1 fun H1 kC hkC e1 z1 o1 => ?_
  exact kk H1 L ls (zA0_push a z1 o1 ⟨_, hc, (u_born ty0 X.1.2.2.2.2 hin hKn hkC e1 hty0).to hfs⟩) ⟨by have := bS.1; have := a.1; omega, fun q h1 h2 => (o1 q (by have := bS.1; have := a.1; omega)).trans (bS.2.1 q h1 h2), bS.2.2⟩ h
theorem zl_dup (X : zLX p s m c b D tc tF tL tM) {x : Nat} (d : decode code pc = .ok (.dup, 1)) (kk : zJ p l e room_1 s m #[Value.ref b] below meth c D vwCl s.heap.size 8 Q cells slots ss (pc + 1) lv (.ref x :: .ref x :: st)) : zJ p l e room_1 s m #[Value.ref b] below meth c D vwCl s.heap.size 8 Q cells slots ss pc lv (.ref x :: st) :=
  fun H L ls a bS h => lv_dup X.1.1 X.1.2.1 d rfl (kk H L ls a bS h)
theorem zl_astore (X : zLX p s m c b D tc tF tL tM) {k : Fin 4} {x : Nat} (lv1 : List (Nat × Value)) (d : decode code pc = .ok (.astore_n k, 1)) (hk : (k : Nat) < 8) (h1 : ((k : Nat), Value.ref x) :: lv.filter (fun q => !(q.1 == (k : Nat)) && !(q.1 + 1 == (k : Nat) && q.2.category == 2)) = lv1) (kk : zJ p l e room_1 s m #[Value.ref b] below meth c D vwCl s.heap.size 8 Q cells slots ss (pc + 1) lv1 st) : zJ p l e room_1 s m #[Value.ref b] below meth c D vwCl s.heap.size 8 Q cells slots ss pc lv (.ref x :: st) :=
  fun H L ls a bS h => lv_astore_n X.1.1 X.1.2.1 d rfl h hk h1 (fun ls1 h2 => kk H L ls1 a bS h2)
theorem zl_init (X : zLX p s m c b D tc tF tL tM) {K' : State → Heap → Prop} {idx maxL mc ms : Nat} {y : MethodName} {bytes : ByteArray} {rm : Room} {x : va_E} {post : List va_E} (n : Nat) (ss0 : List va_E) (hlen : ss0.length = n) (hKK : ∀ (U : State) (g : JFrame) (mk : MethodId) (a : Array Value) (H : Heap), K' U H → K' (U.calling g mk a) H) (hto : ∀ U H, zK2 (fun q => s.heap.size ≤ q) D tc tF tL tM U H → K' U H) (hM : zMk l y bytes maxL rm K' D vwCl (s.heap.size + n) [x] post mc ms) (hss : ss = ss0 ++ [x]) (h1 : Cond.methodLink RL idx y ∈ zT) (h2 : Cond.instanceMethod y ∈ zT) (h4 : Cond.initialized y.cls ∈ zT) (h5 : Cond.code y bytes maxL none ∈ zT) (hyn : y.name = "<init>")
    (hd : y.cls ≠ "java/lang/invoke/MethodHandle" ∧ y.cls ≠ "java/lang/invoke/VarHandle" ∧ (parseMethodDescriptor y.desc).map (fun d => d.parameters.length) = some 0) (hrc : rm.cells = mc ∧ rm.slots = ms) (hR : rm.frames + 1 ≤ room_1.frames ∧ 8 + (maxL + 11) + rm.locals ≤ room_1.locals) (hroom : (st.map fun v => v.category).sum ≤ 8) (d : decode code pc = .ok (.invokespecial idx, 3)) (hf : cells + mc ≤ room_1.cells ∧ slots + ms ≤ room_1.slots)
    (kk : zJ p l e room_1 s m #[Value.ref b] below meth c D vwCl s.heap.size 8 Q (cells + mc) (slots + ms) (ss0 ++ post) (pc + 3) lv st) : zJ p l e room_1 s m #[Value.ref b] below meth c D vwCl s.heap.size 8 Q cells slots ss pc lv (.ref (s.heap.size + n) :: st) := by
  subst hlen
  subst hss
  intro H L ls a bS h
  have hts := X.1.2.2.2.2
  have hlast : zA0 D vwCl (s.heap.size + ss0.length) [x] H := by
    refine ⟨by rw [a.1, List.length_append, Nat.add_assoc], fun i z hz => ?_⟩
    have hi : i < 1 := (List.getElem?_eq_some_iff.mp hz).1
    have e : i = 0 := by omega
    subst e
    have := a.2 ss0.length x (by rw [List.getElem?_append_right (Nat.le_refl _), Nat.sub_self]; rfl)
    cases hz
    exact this
  refine va_callv (va_runI (As := []) (rest := st) X.1 hM (cwI 0 hts (zGoodC h5) rfl hrc.1 hrc.2 (hts _ h4) (hts _ h1) (hts _ h2) hyn hd hR) ⟨fun a2 U g mk q => ?_, fun U hU hWm => ⟨rfl, by rw [hU]; exact hlast, by rw [hU]; exact hto _ _ (X.warm U H hWm bS.1 bS.2.1)⟩⟩ rfl rfl h.1 rfl (lv_room hroom) d hf) bS (fun q _ hq => by omega) (fun q hq => by omega) (fun u t H1 L1 ht _ _ hB hz hk hS => kk H1 L1 ls ?_ hS h)
  · obtain ⟨q1, q2, q3⟩ := q
    exact ⟨q1, q2, hKK U g mk a2 _ q3⟩
  · have hB' : zA0 D vwCl (s.heap.size + ss0.length) post H1 := by rw [← ht]; exact hB
    refine ⟨by rw [hB'.1, List.length_append, Nat.add_assoc], fun i z hz => ?_⟩
    by_cases hl : i < ss0.length
    · rw [List.getElem?_append_left hl] at hz
      have hi := a.2 i z (by rw [List.getElem?_append_left hl]; exact hz)
      exact hi.kept (hk _ (by rw [a.1, List.length_append]; omega) (by omega))
    · rw [List.getElem?_append_right (by omega)] at hz
      have := hB'.2 _ z hz
      rw [show s.heap.size + ss0.length + (i - ss0.length) = s.heap.size + i by omega] at this
      exact this
theorem fs_Book : ∀ j, j < 7 → defaultValue (tyX5 j) = vp_V [.null, .null, .null, .null, .null, .null, .int 0] j := by
  intro j hj
  rcases (show j = 0 ∨ j = 1 ∨ j = 2 ∨ j = 3 ∨ j = 4 ∨ j = 5 ∨ j = 6 by omega) with rfl | rfl | rfl | rfl | rfl | rfl | rfl <;> rfl
set_option maxRecDepth 100000 in
set_option maxHeartbeats 4000000 in
theorem law_walks (X : zLX p s m c b D tc tF tL tM) (hlocks : meth.locks = false) (hr : meth.sig.returnType = ret) (hX : va_X b L xs s s.heap) (hbl : b < s.heap.size) (hL : L ≤ 260) (hend : ∀ (u : Nat → Int32) (lv : List (Nat × Value)), zG p l e room_1 s m #[Value.ref b] below meth c (fun q => s.heap.size ≤ q) D vwCl tc (fun k => s.heap.size + k) 299 shC 8 Q u 388 lv [.int (nI 1)]) : zJ p l e room_1 s m #[Value.ref b] below meth c D vwCl s.heap.size 8 Q 0 0 [] 0 [(0, .ref b)] [] := by
  refine zl_new X (ci := 5) [.null, .null, .null, .null, .null, .null, .int 0] dL_law_0 rfl inX5 tyX5_ok k_p9 k_11 k_1 fs_Book (Nat.le_of_ble_eq_true rfl) (Nat.le_of_ble_eq_true rfl) ?_
  refine zl_dup X dL_law_3 ?_
  refine zl_init X 0 [] rfl (zK2_ok (fun q => s.heap.size + 0 ≤ q) D tc tF tL tM).1 (fun U H h => h) (k_Book (s.heap.size + 0)) rfl k_p11 k_13 k_1 k_14 rfl hdX5_init.2 ⟨rfl, rfl⟩ ⟨Nat.le_of_ble_eq_true rfl, Nat.le_of_ble_eq_true rfl⟩ (Nat.le_of_ble_eq_true rfl) dL_law_4 ⟨Nat.le_of_ble_eq_true rfl, Nat.le_of_ble_eq_true rfl⟩ ?_
  refine zl_astore X (k := 1) [(1, .ref s.heap.size), (0, .ref b)] dL_law_7 (by decide) rfl ?_
  refine zj_ss (ss1 := bkCells tc s.heap.size) rfl ?_
  intro H L1 ls a bS h
  have hK := X.2.1
  have inj : ∀ i j, i < 299 → j < 299 → s.heap.size + i = s.heap.size + j → i = j := fun i j _ _ q => by omega
  have hA : ∀ k, k < 299 → s.heap.size ≤ s.heap.size + k := fun k _ => Nat.le_add_right _ _
  have hbA : ¬ s.heap.size ≤ b := Nat.not_le.mpr hbl
  have k1 := zK_ok (fun q => s.heap.size ≤ q) D tc tF tL tM
  have k2 := KX_ok (A := fun q => s.heap.size ≤ q) D tc tF tL tM L xs hbA
  have hK2 : KX (fun q => s.heap.size ≤ q) D tc tF tL tM b L xs s s.heap := ⟨hK, hX, hbl⟩
  have X1 : zX p s m #[Value.ref b] meth c (fun q => s.heap.size ≤ q) D vwCl (fun k => s.heap.size + k) 299 8 (zK (fun q => s.heap.size ≤ q) D tc tF tL tM) (zTY tc) owC shC code RL ret := ⟨X.1, hlocks, hr, inj, hA, hK.1, owC_ok, fun U H h1 h2 h3 => k1.2.1 s U s.heap H h1 h2 h3 hK, hK⟩
  have X2 : zX p s m #[Value.ref b] meth c (fun q => s.heap.size ≤ q) D vwCl (fun k => s.heap.size + k) 299 8 (KX (fun q => s.heap.size ≤ q) D tc tF tL tM b L xs) (zTY tc) owC shC code RL ret := ⟨X.1, hlocks, hr, inj, hA, hK.1, owC_ok, fun U H h1 h2 h3 => k2.2.1 s U s.heap H h1 h2 h3 hK2, hK2⟩
  have w1 : zW D vwCl tc (fun k => s.heap.size + k) 299 shC mu0 H := bk_W (fun i x hx => a.2 i x hx)
  exact W.widen (k := room_1.cells) (n := room_1.slots) (Nat.le_of_ble_eq_true rfl) (Nat.le_of_ble_eq_true rfl) (l_law (l := l) (ad := fun k => s.heap.size + k) ⟨inj, hA⟩ X1 X2 hbA hL hend H L1 ls w1 bS (lv_sub h [1, 0] rfl))
end ZLL
