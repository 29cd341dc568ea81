/-! THE START: both memories as their constructors leave them -/
def zst0 (i : Nat) : Int32 := ([20, 10, 5, 3, 50] : List Int32).getD i 0
def mu0 (p : Nat) : Int32 := if p < 2443 ∧ 2 ≤ p % 349 ∧ p % 349 < 7 then zst0 (p % 349 - 2) else 0
theorem mu0_z {p : Nat} (h : 2443 ≤ p ∨ p % 349 < 2 ∨ 7 ≤ p % 349) : mu0 p = nI 0 := by
  unfold mu0
  rw [if_neg (by omega), nI_0]
/-- cells of the two kinds of list, side by side -/
theorem zcv_I {D : va_G} {cl : List vw_C} {t : ClassId} {n a : Nat} {f g : Nat → Int32} {H : Heap} (h : va_at D cl (a, .inl (t, n, .inl f)) H) (e : ∀ j, j < n → f j = g j) : va_at D cl (a, .inl (t, n, .inl g)) H := by
  have h1 : H[a]? = some (vp_cell t (n, .inl f)) := h
  show H[a]? = some (vp_cell t (n, .inl g))
  rw [h1, vp_cell_i, vp_cell_i]
  exact congrArg some (arrV_ext (fun j hj => congrArg Value.int (e j hj)))
theorem zcv_Q {D : va_G} {cl : List vw_C} {t : ClassId} {n a : Nat} {f g : Nat → Option Nat} {H : Heap} (h : va_at D cl (a, .inl (t, n, .inr (.inr (.inr (.inr f))))) H) (e : ∀ j, j < n → f j = g j) : va_at D cl (a, .inl (t, n, .inr (.inr (.inr (.inr g))))) H := by
  have h1 : H[a]? = some (vp_cell t (n, .inr (.inr (.inr (.inr f))))) := h
  show H[a]? = some (vp_cell t (n, .inr (.inr (.inr (.inr g)))))
  rw [h1, vp_cell_q, vp_cell_q]
  exact congrArg some (arrV_ext (fun j hj => congrArg va_rf (e j hj)))
theorem zcv_O {D : va_G} {cl : List vw_C} {ci a : Nat} {fs gs : List Value} {H : Heap} (h : va_at D cl (a, .inr (ci, fs)) H) (e : fs = gs) : va_at D cl (a, .inr (ci, gs)) H := by rw [← e]; exact h
