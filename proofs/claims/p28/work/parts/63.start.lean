/-! THE START: both memories as their constructors leave them -/
def zst0 (i : Nat) : Int32 := ([20, 10, 5, 3, 50] : List Int32).getD i 0
def mu0 (p : Nat) : Int32 := if p < 2443 ∧ 2 ≤ p % 349 ∧ p % 349 < 7 then zst0 (p % 349 - 2) else 0
theorem mu0_z {p : Nat} (h : 2443 ≤ p ∨ p % 349 < 2 ∨ 7 ≤ p % 349) : mu0 p = nI 0 := by
  unfold mu0
  rw [if_neg (by omega), nI_0]
/-- cells of the two kinds of list, side by side -/
theorem zcv_I {D : va_G} {cl : List vw_C} {t : ClassId} {n a : Nat} {f g : Nat → Int32} {H : Heap} (h : va_at D cl (a, .inl (t, n, .inl f)) H) (e : ∀ j, j < n → f j = g j) : va_at D cl (a, .inl (t, n, .inl g)) H := by
  have h1 : H[a]? = some (vp_cell t (n, .inl f)) := h
  show H[a]? = some (vp_cell t (n, .inl g))
  rw [h1, vp_cell_i, vp_cell_i]
  exact congrArg some (arrV_ext (fun j hj => congrArg Value.int (e j hj)))
theorem zcv_Q {D : va_G} {cl : List vw_C} {t : ClassId} {n a : Nat} {f g : Nat → Option Nat} {H : Heap} (h : va_at D cl (a, .inl (t, n, .inr (.inr (.inr (.inr f))))) H) (e : ∀ j, j < n → f j = g j) : va_at D cl (a, .inl (t, n, .inr (.inr (.inr (.inr g))))) H := by
  have h1 : H[a]? = some (vp_cell t (n, .inr (.inr (.inr (.inr f))))) := h
  show H[a]? = some (vp_cell t (n, .inr (.inr (.inr (.inr g)))))
  rw [h1, vp_cell_q, vp_cell_q]
  exact congrArg some (arrV_ext (fun j hj => congrArg va_rf (e j hj)))
theorem zcv_O {D : va_G} {cl : List vw_C} {ci a : Nat} {fs gs : List Value} {H : Heap} (h : va_at D cl (a, .inr (ci, fs)) H) (e : fs = gs) : va_at D cl (a, .inr (ci, gs)) H := by rw [← e]; exact h
theorem mu0_lo {p : Nat} (h : 7 ≤ p) (h2 : p < 349) : mu0 p = nI 0 := mu0_z (Or.inr (Or.inr (by rw [Nat.mod_eq_of_lt h2]; exact h)))
theorem INV_0 : INV 0 mu0 := by
  have z0 : (nI 0).toInt = 0 := nI_toInt (by omega)
  have zs : ∀ (n : Nat) (g : Nat → Nat), (∀ i, i < n → 7 ≤ g i ∧ g i < 349) → zsum (fun i => mu0 (g i)) n = nI 0 := fun n g h => zsum_0 n (fun i hi => mu0_lo (h i hi).1 (h i hi).2)
  refine ⟨⟨0, 0, 3, ⟨mu0_z (by omega), by omega, mu0_z (by omega), by omega, by decide +kernel, by omega, by omega, fun f hf => ⟨fun y hy => by rw [mu0_lo (by omega) (by omega)]; exact inr_0 _, by rw [mu0_lo (by omega) (by omega)]; exact inr_0 _, by rw [mu0_lo (by omega) (by omega), z0]; omega, by rw [mu0_lo (by omega) (by omega), z0]; omega, by rw [mu0_lo (by omega) (by omega), mu0_lo (by omega) (by omega), z0]; omega⟩, fun f _ hf y hy => mu0_lo (by omega) (by omega)⟩, fun v hv => ?_, fun v hv _ => mu0_lo (by omega) (by omega), fun k hk => ?_, ?_, fun f hf => ⟨by rw [mu0_lo (by omega) (by omega)]; exact inr_0 _, by rw [mu0_lo (by omega) (by omega)]; exact inr_0 _, fun k hk => by rw [mu0_lo (by omega) (by omega)]; exact inr_0 _⟩, ⟨fun k hk => ?_, ?_⟩⟩, 0, 0, 0, mu0_z (by omega), by omega, mu0_z (by omega), by omega, fun h hh => absurd hh (Nat.not_lt_zero h), by omega, mu0_z (by omega), fun h => absurd h (by omega)⟩
  · rw [mu0_lo (p := v + 263) (by omega) (by omega), mu0_lo (p := v + 283) (by omega) (by omega), mu0_lo (p := v + 303) (by omega) (by omega), mu0_lo (p := v + 323) (by omega) (by omega), zs 8 (fun f => 32 * f + v + 7) (fun i hi => ⟨by omega, by omega⟩)]
    decide +kernel
  · rw [mu0_lo (p := k + 343) (by omega) (by omega), mu0_lo (p := k + 346) (by omega) (by omega), zs 8 (fun f => 32 * f + k + 27) (fun i hi => ⟨by omega, by omega⟩)]
    decide +kernel
  · unfold SD
    rw [zs 8 (fun f => 32 * f + 37) (fun i hi => ⟨by omega, by omega⟩), zs 20 (fun v => v + 283) (fun i hi => ⟨by omega, by omega⟩), zs 3 (fun k => k + 346) (fun i hi => ⟨by omega, by omega⟩)]
    decide +kernel
  · rcases (show k = 0 ∨ k = 1 ∨ k = 2 by omega) with rfl | rfl | rfl <;> exact ⟨by decide +kernel, by decide +kernel⟩
  · exact ⟨by decide +kernel, by decide +kernel⟩
