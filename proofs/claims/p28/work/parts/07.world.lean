/-! THE TWO WORLDS: the class (299 cells, cell 0 its object) and the reference (6 cells, cell 0 its object) -/
abbrev zTY (tc : Nat → ClassId) : List (ClassId × FieldType) := [(tc 0, .int), (tc 1, .char), (tc 2, .object "AllowanceBook$Firm"), (tc 3, .object "AllowanceBook$State")]
def zfS (l : List Int32) : Nat → Value := fun j => .int (l.getD j 0)
/-- what a method may know of the world besides the cells: classes, links between nest mates, the static arrays -/
def zK (A : Nat → Prop) (D : va_G) (tc : Nat → ClassId) (tF tL tM : Nat) (U : State) (H : Heap) : Prop :=
  va_K D vwCl (zTY tc) U ∧ va_Nw (.methodLinkNest RX1 22 yX5_copyState RX5) U ∧ va_Nw (.methodLinkNest RX2 59 yX5_isVintage RX5) U ∧ va_Nw (.methodLinkNest RX2 63 yX5_isTonnes RX5) U ∧ va_Nw (.fieldLinkNest RX2 9 RX5 "FIRST_SETTINGS" "[I" RX5) U ∧
  va_Z RX5 "FIRST_SETTINGS" "[I" (.ref tF) A U H ∧ va_T .int tF 5 (zfS [20, 10, 5, 3, 50]) A U H ∧
  va_Z RX5 "LEAST_SETTINGS" "[I" (.ref tL) A U H ∧ va_T .int tL 5 (zfS [0, 0, 0, 1, 0]) A U H ∧
  va_Z RX5 "MOST_SETTINGS" "[I" (.ref tM) A U H ∧ va_T .int tM 5 (zfS [100, 100, 100, 5, 99]) A U H
theorem zK_ok (A : Nat → Prop) (D : va_G) (tc : Nat → ClassId) (tF tL tM : Nat) : zKK (zK A D tc tF tL tM) A D vwCl (zTY tc) := by
  refine ⟨fun U g mk a H h => ?_, fun U U' H H' hW _ hq h => ?_, fun U H h => h.1⟩
  · obtain ⟨h1, h2, h3, h4, h5, h6, h7, h8, h9, h10, h11⟩ := h
    have e : U.vm.Alike (U.calling g mk a).vm := Vm.Alike.refl U.vm
    exact ⟨h1.moved e, h2.same rfl rfl, h3.same rfl rfl, h4.same rfl rfl, h5.same rfl rfl, h6.moved e, h7.moved e, h8.moved e, h9.moved e, h10.moved e, h11.moved e⟩
  · obtain ⟨h1, h2, h3, h4, h5, h6, h7, h8, h9, h10, h11⟩ := h
    have e := hW.alike
    exact ⟨h1.moved e, va_Nw.warmM hW h2, va_Nw.warmM hW h3, va_Nw.warmM hW h4, va_Nw.warmF hW h5, (h6.moved e).kept hq, (h7.moved e).kept hq, (h8.moved e).kept hq, (h9.moved e).kept hq, (h10.moved e).kept hq, (h11.moved e).kept hq⟩
def zrm (d : Nat) : Room := { frames := d, cells := 0, slots := 0, locals := 30 * d }
/-- the addresses of N cells: apart, and among those that may be written -/
def zN (N : Nat) (A : Nat → Prop) (ad : Nat → Nat) : Prop := (∀ i j, i < N → j < N → ad i = ad j → i = j) ∧ ∀ k, k < N → A (ad k)
abbrev zI : Zf := some none
abbrev zR (k : Nat) : Zf := some (some k)
theorem zO_obj {o p : Nat} {fs : List Zf} (h : o ≤ p ∧ fs[p - o]? = some (some none)) : o ≤ p ∧ p < o + fs.length := by
  have := (List.getElem?_eq_some_iff.mp h.2).1
  omega
theorem zinc (i : Nat) : nI i + Int32.ofInt 1 = nI (i + 1) := by
  rw [show Int32.ofInt 1 = 1 from rfl]; exact nI_1 i
theorem zdec (i : Nat) : nI (i + 1) + Int32.ofInt (-1) = nI i := by
  rw [show Int32.ofInt (-1) = -1 from rfl]; exact pk_m1 i
/-- a loop that counts up, walked backward: its end first -/
theorem z_for (n : Nat) (G : Nat → Prop) (hx : G n) (hs : ∀ i, i < n → G (i + 1) → G i) : G 0 := by
  have : ∀ d i, i + d = n → G i := by
    intro d
    induction d with
    | zero => intro i h; have : i = n := by omega
              subst this; exact hx
    | succ d ih => intro i h; exact hs i (by omega) (ih (i + 1) (by omega))
  exact this n 0 (by omega)
theorem z_forFrom (b n : Nat) (G : Nat → Prop) (hb : b ≤ n) (hx : G n) (hs : ∀ i, b ≤ i → i < n → G (i + 1) → G i) : G b := by
  have : ∀ d i, b ≤ i → i + d = n → G i := by
    intro d
    induction d with
    | zero => intro i _ h; have : i = n := by omega
              subst this; exact hx
    | succ d ih => intro i hi h; exact hs i hi (by omega) (ih (i + 1) (by omega) (by omega))
  exact this (n - b) b (Nat.le_refl _) (by omega)
