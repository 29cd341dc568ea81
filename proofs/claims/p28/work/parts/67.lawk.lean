/-! WHAT HOLDS AT THE START: the tables, the links between nest mates, the static arrays -/
theorem zlen_small {args : Array Value} {s : State} {t : Term} {v : Value} (h : (Term.length t).eval args s none [] s = some v) : ∃ a cell, t.eval args s none [] s = some (.ref a) ∧ s.arrayAt? a = some cell ∧ cell.slots.size < 2 ^ 31 := by
  simp only [Term.eval, Option.bind_eq_bind] at h
  cases ht : t.eval args s none [] s with
  | none => simp [ht] at h
  | some x =>
    cases x <;> simp [ht] at h
    case ref a =>
      obtain ⟨cell, hcell, h⟩ := Option.bind_eq_some_iff.mp h
      by_cases hn : cell.slots.size < 2147483648
      · exact ⟨a, cell, rfl, hcell, by omega⟩
      · rw [if_neg hn] at h; cases h
theorem zFx_of {args : Array Value} {s : State} {tm : Term} {tF N : Nat} {t : ClassId} {f : Nat → Int32} {A : Nat → Prop} (hN : N < 2 ^ 31) (hT : va_T .int tF N (fun j => .int (f j)) A s s.heap) (hev : tm.eval args s none [] s = some (.ref tF)) (hlen : (Term.length tm).eval args s none [] s = some (.int (Int32.ofNat N))) (hex : (Cond.exactly tm "[I").before args s = true) (hfc : s.vm.findClass "[I" = some t) : zFx t tF f N A s.heap := by
  obtain ⟨cell, c1, c2, c3, c4, c5, c6, c7⟩ := hT
  obtain ⟨a, cell2, e1, e2, e4⟩ := zlen_small hlen
  cases hev.symm.trans e1
  obtain ⟨e5, -, -, -⟩ := State.arrayAt?_spec e2
  cases c1.symm.trans e5
  obtain ⟨a3, c3', cell3, k, x1, x2, x3, x4, x5, x6, -⟩ := Cond.exactly_spec hex
  cases hev.symm.trans x1
  cases c1.symm.trans x3
  cases hfc.symm.trans x2
  have hz : cell.slots.size = N := by
    have q := congrArg Int32.toNatClampNeg c5
    rw [Int32.toNatClampNeg_ofNat_of_lt hN] at q
    rw [← q]
    exact (Int32.toNatClampNeg_ofNat_of_lt e4).symm
  have hs : cell.slots = (arrV t N (fun j => .int (f j))).slots := by
    apply Array.ext
    · rw [hz, arrV_size]
    · intro i h1 h2
      have h3 : i < N := by omega
      have p1 := c6 i h3
      have p2 : (arrV t N (fun j => .int (f j))).slots[i]? = some (.int (f i)) := arrV_read t (fun j => .int (f j)) h3
      rw [Array.getElem?_eq_getElem h1] at p1
      rw [Array.getElem?_eq_getElem h2] at p2
      exact (Option.some.inj p1).trans (Option.some.inj p2).symm
  refine ⟨cell, c1, ?_, c3, fun k e => ?_, c7⟩
  · rw [vp_cell_i]
    show ({ cls := cell.cls, slots := cell.slots } : Cell) = { cls := t, slots := (arrV t N (fun j => .int (f j))).slots, vm := .none }
    rw [hs, x6]
  · rw [e] at x5; cases x5
set_option maxRecDepth 100000 in
set_option maxHeartbeats 4000000 in
theorem law_K2 {s : State} {b : Nat} (hts : ∀ w ∈ lw_tbl, w.before #[Value.ref b] s = true) (hgv : (Jvm.Cond.and given_1 narrow_1).before #[Value.ref b] s = true) : ∃ (D : va_G) (tc : Nat → ClassId) (tF tL tM : Nat), zK2 (fun q => s.heap.size ≤ q) D tc tF tL tM s s.heap := by
  have hA : ∀ a : Nat, a < s.heap.size → ¬ s.heap.size ≤ a := fun a h => Nat.not_le.mpr h
  have hn := flat_of_before _ hgv
  have htz : ∀ w ∈ zT, w.before #[Value.ref b] s = true := fun w h => hts w (zT_in w h)
  obtain ⟨c0, i0, hk0⟩ := u_known (C := RX0) (T := TX0) (N := 9) (n := 9) htz inX0 (htz _ k_35)
  obtain ⟨c1, i1, hk1⟩ := u_known (C := RX1) (T := TX1) (N := 3) (n := 3) htz inX1 (htz _ k_124)
  obtain ⟨c2, i2, hk2⟩ := u_known (C := RX2) (T := TX2) (N := 10) (n := 10) htz inX2 (htz _ k_19)
  obtain ⟨c3, i3, hk3⟩ := u_known (C := RX3) (T := TX3) (N := 6) (n := 6) htz inX3 (htz _ k_144)
  obtain ⟨c4, i4, hk4⟩ := u_known (C := RX4) (T := TX4) (N := 8) (n := 8) htz inX4 (htz _ k_176)
  obtain ⟨c5, i5, hk5⟩ := u_known (C := RX5) (T := TX5) (N := 7) (n := 7) htz inX5 (htz _ k_11)
  obtain ⟨t0, kA0, cm0, a01, a02, a03⟩ := Cond.arrayClass_spec (type := .int) (htz _ k_81)
  obtain ⟨t1, kA1, cm1, a11, a12, a13⟩ := Cond.arrayClass_spec (type := .char) (htz _ k_214)
  have w2 : va_AO "AllowanceBook$Firm" s := va_AO.of (hts _ (List.mem_of_getElem? (i := 33) (by decide +kernel)))
  have w3 : va_AO "AllowanceBook$State" s := va_AO.of (hts _ (List.mem_of_getElem? (i := 129) (by decide +kernel)))
  obtain ⟨cm2, t2, kA2, a21, -, a22, a23, a24⟩ := Cond.arrayOver_spec w2
  obtain ⟨cm3, t3, kA3, a31, -, a32, a33, a34⟩ := Cond.arrayOver_spec w3
  have hK : va_K (fun k => [c0, c1, c2, c3, c4, c5].getD k c0, fun k => [i0, i1, i2, i3, i4, i5].getD k i0) vwCl (zTY (fun k => [t0, t1, t2, t3].getD k t0)) s := by
    refine ⟨fun k q hq => ?_, fun k q hq => ?_⟩
    · match k, hq with
      | 0, hq => cases hq; exact hk0
      | 1, hq => cases hq; exact hk1
      | 2, hq => cases hq; exact hk2
      | 3, hq => cases hq; exact hk3
      | 4, hq => cases hq; exact hk4
      | 5, hq => cases hq; exact hk5
      | k + 6, hq => simp at hq
    · match k, hq with
      | 0, hq => cases hq; exact ⟨fun N z => ⟨(fun k h => by cases h), kA0, a02, cm0, a03⟩, a01⟩
      | 1, hq => cases hq; exact ⟨fun N z => ⟨(fun k h => by cases h), kA1, a12, cm1, a13⟩, a11⟩
      | 2, hq => cases hq; exact ⟨fun N z => ⟨(fun k h => by cases h), kA2, a22, cm2, a23⟩, kA2, cm2, a22, a23, a21, a24⟩
      | 3, hq => cases hq; exact ⟨fun N z => ⟨(fun k h => by cases h), kA3, a32, cm3, a33⟩, kA3, cm3, a32, a33, a31, a34⟩
      | k + 4, hq => simp at hq
  have hI : s.vm.findClass "[I" = some t0 := va_nm_int (show va_RA s t0 .int from a01)
  have lenF : (Term.length (Term.static "AllowanceBook" "FIRST_SETTINGS" "[I")).eval #[Value.ref b] s none [] s = some (.int (Int32.ofNat 5)) := va_eqt (hn (Cond.eq (.length (Term.static "AllowanceBook" "FIRST_SETTINGS" "[I")) (.int (Int32.ofNat 5))) (by decide +kernel))
  have eF0 : (Term.elem (Term.static "AllowanceBook" "FIRST_SETTINGS" "[I") (.int (Int32.ofNat 0))).eval #[Value.ref b] s none [] s = some (zfS [20, 10, 5, 3, 50] 0) := va_eqt (z := 20) (hn (Cond.eq (.elem (Term.static "AllowanceBook" "FIRST_SETTINGS" "[I") (.int (Int32.ofNat 0))) (.int 20)) (by decide +kernel))
  have eF1 : (Term.elem (Term.static "AllowanceBook" "FIRST_SETTINGS" "[I") (.int (Int32.ofNat 1))).eval #[Value.ref b] s none [] s = some (zfS [20, 10, 5, 3, 50] 1) := va_eqt (z := 10) (hn (Cond.eq (.elem (Term.static "AllowanceBook" "FIRST_SETTINGS" "[I") (.int (Int32.ofNat 1))) (.int 10)) (by decide +kernel))
  have eF2 : (Term.elem (Term.static "AllowanceBook" "FIRST_SETTINGS" "[I") (.int (Int32.ofNat 2))).eval #[Value.ref b] s none [] s = some (zfS [20, 10, 5, 3, 50] 2) := va_eqt (z := 5) (hn (Cond.eq (.elem (Term.static "AllowanceBook" "FIRST_SETTINGS" "[I") (.int (Int32.ofNat 2))) (.int 5)) (by decide +kernel))
  have eF3 : (Term.elem (Term.static "AllowanceBook" "FIRST_SETTINGS" "[I") (.int (Int32.ofNat 3))).eval #[Value.ref b] s none [] s = some (zfS [20, 10, 5, 3, 50] 3) := va_eqt (z := 3) (hn (Cond.eq (.elem (Term.static "AllowanceBook" "FIRST_SETTINGS" "[I") (.int (Int32.ofNat 3))) (.int 3)) (by decide +kernel))
  have eF4 : (Term.elem (Term.static "AllowanceBook" "FIRST_SETTINGS" "[I") (.int (Int32.ofNat 4))).eval #[Value.ref b] s none [] s = some (zfS [20, 10, 5, 3, 50] 4) := va_eqt (z := 50) (hn (Cond.eq (.elem (Term.static "AllowanceBook" "FIRST_SETTINGS" "[I") (.int (Int32.ofNat 4))) (.int 50)) (by decide +kernel))
  obtain ⟨tF, evF, hTF⟩ := va_Tof (N := 5) (f := zfS [20, 10, 5, 3, 50]) (A := fun q => s.heap.size ≤ q) (by omega) (hn (Cond.arrayOf (Term.static "AllowanceBook" "FIRST_SETTINGS" "[I") .int) (by decide +kernel)) lenF (fun j hj => by
    rcases (show j = 0 ∨ j = 1 ∨ j = 2 ∨ j = 3 ∨ j = 4 by omega) with rfl | rfl | rfl | rfl | rfl
    · exact eF0
    · exact eF1
    · exact eF2
    · exact eF3
    · exact eF4) hA
  have hZF : va_Z RX5 "FIRST_SETTINGS" "[I" (.ref tF) (fun q => s.heap.size ≤ q) s s.heap := va_Zof (args := #[Value.ref b]) (hts _ (List.mem_of_getElem? (i := 24) (by decide +kernel))) (htz _ k_1) evF hA
  have lenL : (Term.length (Term.static "AllowanceBook" "LEAST_SETTINGS" "[I")).eval #[Value.ref b] s none [] s = some (.int (Int32.ofNat 5)) := va_eqt (hn (Cond.eq (.length (Term.static "AllowanceBook" "LEAST_SETTINGS" "[I")) (.int (Int32.ofNat 5))) (by decide +kernel))
  have eL0 : (Term.elem (Term.static "AllowanceBook" "LEAST_SETTINGS" "[I") (.int (Int32.ofNat 0))).eval #[Value.ref b] s none [] s = some (zfS [0, 0, 0, 1, 0] 0) := va_eqt (z := 0) (hn (Cond.eq (.elem (Term.static "AllowanceBook" "LEAST_SETTINGS" "[I") (.int (Int32.ofNat 0))) (.int 0)) (by decide +kernel))
  have eL1 : (Term.elem (Term.static "AllowanceBook" "LEAST_SETTINGS" "[I") (.int (Int32.ofNat 1))).eval #[Value.ref b] s none [] s = some (zfS [0, 0, 0, 1, 0] 1) := va_eqt (z := 0) (hn (Cond.eq (.elem (Term.static "AllowanceBook" "LEAST_SETTINGS" "[I") (.int (Int32.ofNat 1))) (.int 0)) (by decide +kernel))
  have eL2 : (Term.elem (Term.static "AllowanceBook" "LEAST_SETTINGS" "[I") (.int (Int32.ofNat 2))).eval #[Value.ref b] s none [] s = some (zfS [0, 0, 0, 1, 0] 2) := va_eqt (z := 0) (hn (Cond.eq (.elem (Term.static "AllowanceBook" "LEAST_SETTINGS" "[I") (.int (Int32.ofNat 2))) (.int 0)) (by decide +kernel))
  have eL3 : (Term.elem (Term.static "AllowanceBook" "LEAST_SETTINGS" "[I") (.int (Int32.ofNat 3))).eval #[Value.ref b] s none [] s = some (zfS [0, 0, 0, 1, 0] 3) := va_eqt (z := 1) (hn (Cond.eq (.elem (Term.static "AllowanceBook" "LEAST_SETTINGS" "[I") (.int (Int32.ofNat 3))) (.int 1)) (by decide +kernel))
  have eL4 : (Term.elem (Term.static "AllowanceBook" "LEAST_SETTINGS" "[I") (.int (Int32.ofNat 4))).eval #[Value.ref b] s none [] s = some (zfS [0, 0, 0, 1, 0] 4) := va_eqt (z := 0) (hn (Cond.eq (.elem (Term.static "AllowanceBook" "LEAST_SETTINGS" "[I") (.int (Int32.ofNat 4))) (.int 0)) (by decide +kernel))
  obtain ⟨tL, evL, hTL⟩ := va_Tof (N := 5) (f := zfS [0, 0, 0, 1, 0]) (A := fun q => s.heap.size ≤ q) (by omega) (hn (Cond.arrayOf (Term.static "AllowanceBook" "LEAST_SETTINGS" "[I") .int) (by decide +kernel)) lenL (fun j hj => by
    rcases (show j = 0 ∨ j = 1 ∨ j = 2 ∨ j = 3 ∨ j = 4 by omega) with rfl | rfl | rfl | rfl | rfl
    · exact eL0
    · exact eL1
    · exact eL2
    · exact eL3
    · exact eL4) hA
  have hZL : va_Z RX5 "LEAST_SETTINGS" "[I" (.ref tL) (fun q => s.heap.size ≤ q) s s.heap := va_Zof (args := #[Value.ref b]) (hts _ (List.mem_of_getElem? (i := 255) (by decide +kernel))) (htz _ k_1) evL hA
  have lenM : (Term.length (Term.static "AllowanceBook" "MOST_SETTINGS" "[I")).eval #[Value.ref b] s none [] s = some (.int (Int32.ofNat 5)) := va_eqt (hn (Cond.eq (.length (Term.static "AllowanceBook" "MOST_SETTINGS" "[I")) (.int (Int32.ofNat 5))) (by decide +kernel))
  have eM0 : (Term.elem (Term.static "AllowanceBook" "MOST_SETTINGS" "[I") (.int (Int32.ofNat 0))).eval #[Value.ref b] s none [] s = some (zfS [100, 100, 100, 5, 99] 0) := va_eqt (z := 100) (hn (Cond.eq (.elem (Term.static "AllowanceBook" "MOST_SETTINGS" "[I") (.int (Int32.ofNat 0))) (.int 100)) (by decide +kernel))
  have eM1 : (Term.elem (Term.static "AllowanceBook" "MOST_SETTINGS" "[I") (.int (Int32.ofNat 1))).eval #[Value.ref b] s none [] s = some (zfS [100, 100, 100, 5, 99] 1) := va_eqt (z := 100) (hn (Cond.eq (.elem (Term.static "AllowanceBook" "MOST_SETTINGS" "[I") (.int (Int32.ofNat 1))) (.int 100)) (by decide +kernel))
  have eM2 : (Term.elem (Term.static "AllowanceBook" "MOST_SETTINGS" "[I") (.int (Int32.ofNat 2))).eval #[Value.ref b] s none [] s = some (zfS [100, 100, 100, 5, 99] 2) := va_eqt (z := 100) (hn (Cond.eq (.elem (Term.static "AllowanceBook" "MOST_SETTINGS" "[I") (.int (Int32.ofNat 2))) (.int 100)) (by decide +kernel))
  have eM3 : (Term.elem (Term.static "AllowanceBook" "MOST_SETTINGS" "[I") (.int (Int32.ofNat 3))).eval #[Value.ref b] s none [] s = some (zfS [100, 100, 100, 5, 99] 3) := va_eqt (z := 5) (hn (Cond.eq (.elem (Term.static "AllowanceBook" "MOST_SETTINGS" "[I") (.int (Int32.ofNat 3))) (.int 5)) (by decide +kernel))
  have eM4 : (Term.elem (Term.static "AllowanceBook" "MOST_SETTINGS" "[I") (.int (Int32.ofNat 4))).eval #[Value.ref b] s none [] s = some (zfS [100, 100, 100, 5, 99] 4) := va_eqt (z := 99) (hn (Cond.eq (.elem (Term.static "AllowanceBook" "MOST_SETTINGS" "[I") (.int (Int32.ofNat 4))) (.int 99)) (by decide +kernel))
  obtain ⟨tM, evM, hTM⟩ := va_Tof (N := 5) (f := zfS [100, 100, 100, 5, 99]) (A := fun q => s.heap.size ≤ q) (by omega) (hn (Cond.arrayOf (Term.static "AllowanceBook" "MOST_SETTINGS" "[I") .int) (by decide +kernel)) lenM (fun j hj => by
    rcases (show j = 0 ∨ j = 1 ∨ j = 2 ∨ j = 3 ∨ j = 4 by omega) with rfl | rfl | rfl | rfl | rfl
    · exact eM0
    · exact eM1
    · exact eM2
    · exact eM3
    · exact eM4) hA
  have hZM : va_Z RX5 "MOST_SETTINGS" "[I" (.ref tM) (fun q => s.heap.size ≤ q) s s.heap := va_Zof (args := #[Value.ref b]) (hts _ (List.mem_of_getElem? (i := 257) (by decide +kernel))) (htz _ k_1) evM hA
  have hFx : zFx t0 tF (fun j => [20, 10, 5, 3, 50].getD j 0) 5 (fun q => s.heap.size ≤ q) s.heap := zFx_of (by omega) hTF evF lenF (hn (Cond.exactly (Term.static "AllowanceBook" "FIRST_SETTINGS" "[I") "[I") (by decide +kernel)) hI
  exact ⟨_, _, tF, tL, tM, ⟨hK, va_Nw.of rfl (hts _ (List.mem_of_getElem? (i := 234) (by decide +kernel))), va_Nw.of rfl (hts _ (List.mem_of_getElem? (i := 494) (by decide +kernel))), va_Nw.of rfl (hts _ (List.mem_of_getElem? (i := 495) (by decide +kernel))), va_Nw.of rfl (hts _ (List.mem_of_getElem? (i := 23) (by decide +kernel))), hZF, hTF, hZL, hTL, hZM, hTM⟩, hFx, va_Nw.of rfl (hts _ (List.mem_of_getElem? (i := 30) (by decide +kernel))), w2, w3⟩
