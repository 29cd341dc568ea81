/-! the class's cells: 0 the object; State j (0 present, 1 kept, 2 trial, 3.. the history's rows) from cb j on; 124, 125 the history; 290.. the taking; 293.. the text -/
def cb (j : Nat) : Nat := if j < 3 then 41 * j + 1 else 41 * j + 3
theorem cb_0 : cb 0 = 1 := rfl
theorem cb_1 : cb 1 = 42 := rfl
theorem cb_2 : cb 2 = 83 := rfl
theorem cb_lt {j : Nat} (h : j < 7) : 1 ≤ cb j ∧ cb j + 41 ≤ 290 := by unfold cb; split <;> omega
def shS (j r : Nat) : ZS :=
  if r = 0 then .inr (.inl (2, 349 * j, [zI, zI, zR (cb j + 1), zR (cb j + 2), zR (cb j + 35), zR (cb j + 36), zR (cb j + 37), zR (cb j + 38), zR (cb j + 39), zR (cb j + 40)]))
  else if r = 1 then .inl (0, 5, 349 * j + 2)
  else if r = 2 then .inr (.inr (2, (List.range 8).map (fun i => some (cb j + 4 * i + 3))))
  else if r < 35 then
    (if (r - 3) % 4 = 0 then .inr (.inl (0, 349 * j + 32 * ((r - 3) / 4) + 30, [zR (cb j + 4 * ((r - 3) / 4) + 4), zR (cb j + 4 * ((r - 3) / 4) + 5), zR (cb j + 4 * ((r - 3) / 4) + 6), zI, zI, zI, zI, zI, zI]))
    else if (r - 3) % 4 = 1 then .inl (0, 20, 349 * j + 32 * ((r - 3) / 4) + 7)
    else if (r - 3) % 4 = 2 then .inl (0, 3, 349 * j + 32 * ((r - 3) / 4) + 27)
    else .inl (0, 3, 349 * j + 32 * ((r - 3) / 4) + 30))
  else if r < 39 then .inl (0, 20, 349 * j + 263 + 20 * (r - 35))
  else .inl (0, 3, 349 * j + 343 + 3 * (r - 39))
def shC (k : Nat) : ZS :=
  if k = 0 then .inr (.inl (5, 2443, [zR 1, zR 42, zR 83, zR 124, zR 290, zR 293, zI]))
  else if k < 124 then shS ((k - 1) / 41) ((k - 1) % 41)
  else if k = 124 then .inr (.inl (1, 2450, [zR 125, zI, zI]))
  else if k = 125 then .inr (.inr (3, (List.range 4).map (fun r => some (cb (r + 3)))))
  else if k < 290 then shS ((k - 126) / 41 + 3) ((k - 126) % 41)
  else if k = 290 then .inr (.inl (3, 2453, [zR 291, zR 292, zI, zI, zI, zI]))
  else if k = 291 then .inl (0, 20, 2460)
  else if k = 292 then .inl (0, 3, 2480)
  else if k = 293 then .inr (.inl (4, 2490, [zR 294, zI, zR 295, zR 296, zR 297, zR 298, zI, zI]))
  else if k = 294 then .inl (1, 60, 2500)
  else .inl (0, 8, 2560 + 8 * (k - 295))
def owC (p : Nat) : Nat :=
  if p < 2443 then
    cb (p / 349) + (if p % 349 < 2 then 0 else if p % 349 < 7 then 1
      else if p % 349 < 263 then 4 * ((p % 349 - 7) / 32) + 3 + (if (p % 349 - 7) % 32 < 20 then 1 else if (p % 349 - 7) % 32 < 23 then 2 else if (p % 349 - 7) % 32 < 26 then 3 else 0)
      else if p % 349 < 343 then 35 + (p % 349 - 263) / 20 else 39 + (p % 349 - 343) / 3)
  else if p < 2450 then 0 else if p < 2453 then 124 else if p < 2460 then 290 else if p < 2480 then 291 else if p < 2490 then 292 else if p < 2500 then 293 else if p < 2560 then 294 else 295 + (p - 2560) / 8
def zLl (x : ZS) : List Nat := match x with
  | .inl (_, n, o) => (List.range n).map (fun k => o + k)
  | .inr (.inl (_, o, fs)) => (List.range fs.length).filterMap (fun i => if fs[i]? = some (some none) then some (o + i) else none)
  | .inr (.inr _) => []
theorem zLl_of {x : ZS} {p : Nat} (h : zL x p) : p ∈ zLl x := by
  match x, h with
  | .inl (t, n, o), h => exact List.mem_map.mpr ⟨p - o, List.mem_range.mpr (by have := h.1; have := h.2; omega), by have := h.1; omega⟩
  | .inr (.inl (ci, o, fs)), h =>
    have hl := (List.getElem?_eq_some_iff.mp h.2).1
    refine List.mem_filterMap.mpr ⟨p - o, List.mem_range.mpr hl, ?_⟩
    rw [if_pos h.2]
    exact congrArg some (by have := h.1; omega)
theorem owC_all : (List.range 299).all (fun k => (zLl (shC k)).all (fun p => owC p == k)) = true := by decide +kernel
theorem owC_ok : zO 299 shC owC := by
  intro k hk p hp
  have h1 := List.all_eq_true.mp owC_all k (List.mem_range.mpr hk)
  have h2 := List.all_eq_true.mp h1 p (zLl_of hp)
  exact eq_of_beq h2
theorem sc_0 : shC 0 = .inr (.inl (5, 2443, [zR 1, zR 42, zR 83, zR 124, zR 290, zR 293, zI])) := by decide +kernel
theorem sc_124 : shC 124 = .inr (.inl (1, 2450, [zR 125, zI, zI])) := by decide +kernel
theorem sc_125 : shC 125 = .inr (.inr (3, (List.range 4).map (fun r => some (cb (r + 3))))) := by decide +kernel
theorem sc_290 : shC 290 = .inr (.inl (3, 2453, [zR 291, zR 292, zI, zI, zI, zI])) := by decide +kernel
theorem sc_291 : shC 291 = .inl (0, 20, 2460) := by decide +kernel
theorem sc_292 : shC 292 = .inl (0, 3, 2480) := by decide +kernel
theorem sc_293 : shC 293 = .inr (.inl (4, 2490, [zR 294, zI, zR 295, zR 296, zR 297, zR 298, zI, zI])) := by decide +kernel
theorem sc_294 : shC 294 = .inl (1, 60, 2500) := by decide +kernel
theorem sc_295 : shC 295 = .inl (0, 8, 2560) := by decide +kernel
theorem sc_296 : shC 296 = .inl (0, 8, 2568) := by decide +kernel
theorem sc_297 : shC 297 = .inl (0, 8, 2576) := by decide +kernel
theorem sc_298 : shC 298 = .inl (0, 8, 2584) := by decide +kernel
theorem all2 {n m : Nat} {f g : Nat → Nat → ZS} (h : (List.range n).all (fun j => (List.range m).all (fun r => decide (f j r = g j r))) = true) : ∀ j, j < n → ∀ r, r < m → f j r = g j r := fun j hj r hr => of_decide_eq_true (List.all_eq_true.mp (List.all_eq_true.mp h j (List.mem_range.mpr hj)) r (List.mem_range.mpr hr))
theorem shS_of : ∀ j, j < 7 → ∀ r, r < 41 → shC (cb j + r) = shS j r := all2 (f := fun j r => shC (cb j + r)) (g := shS) (by decide +kernel)
theorem sc_st {j k : Nat} (hj : j < 7) (hk : k = cb j) : shC k = .inr (.inl (2, 349 * j, [zI, zI, zR (cb j + 1), zR (cb j + 2), zR (cb j + 35), zR (cb j + 36), zR (cb j + 37), zR (cb j + 38), zR (cb j + 39), zR (cb j + 40)])) := by
  subst hk; exact shS_of j hj 0 (by omega)
theorem sc_set {j k : Nat} (hj : j < 7) (hk : k = cb j + 1) : shC k = .inl (0, 5, 349 * j + 2) := by
  subst hk; exact shS_of j hj 1 (by omega)
theorem sc_firms {j k : Nat} (hj : j < 7) (hk : k = cb j + 2) : shC k = .inr (.inr (2, (List.range 8).map (fun i => some (cb j + 4 * i + 3)))) := by
  subst hk; exact shS_of j hj 2 (by omega)
theorem sc_firm' : ∀ j, j < 7 → ∀ i, i < 8 → shS j (4 * i + 3) = .inr (.inl (0, 349 * j + 32 * i + 30, [zR (cb j + 4 * i + 4), zR (cb j + 4 * i + 5), zR (cb j + 4 * i + 6), zI, zI, zI, zI, zI, zI])) := all2 (f := fun j i => shS j (4 * i + 3)) (g := fun j i => .inr (.inl (0, 349 * j + 32 * i + 30, [zR (cb j + 4 * i + 4), zR (cb j + 4 * i + 5), zR (cb j + 4 * i + 6), zI, zI, zI, zI, zI, zI]))) (by decide +kernel)
theorem sc_firm {j i k : Nat} (hj : j < 7) (hi : i < 8) (hk : k = cb j + 4 * i + 3) : shC k = .inr (.inl (0, 349 * j + 32 * i + 30, [zR (cb j + 4 * i + 4), zR (cb j + 4 * i + 5), zR (cb j + 4 * i + 6), zI, zI, zI, zI, zI, zI])) := by
  subst hk; rw [Nat.add_assoc, shS_of j hj _ (by omega)]; exact sc_firm' j hj i hi
theorem sc_held' : ∀ j, j < 7 → ∀ i, i < 8 → shS j (4 * i + 4) = .inl (0, 20, 349 * j + 32 * i + 7) := all2 (f := fun j i => shS j (4 * i + 4)) (g := fun j i => .inl (0, 20, 349 * j + 32 * i + 7)) (by decide +kernel)
theorem sc_held {j i k : Nat} (hj : j < 7) (hi : i < 8) (hk : k = cb j + 4 * i + 4) : shC k = .inl (0, 20, 349 * j + 32 * i + 7) := by
  subst hk; rw [Nat.add_assoc, shS_of j hj _ (by omega)]; exact sc_held' j hj i hi
theorem sc_off' : ∀ j, j < 7 → ∀ i, i < 8 → shS j (4 * i + 5) = .inl (0, 3, 349 * j + 32 * i + 27) := all2 (f := fun j i => shS j (4 * i + 5)) (g := fun j i => .inl (0, 3, 349 * j + 32 * i + 27)) (by decide +kernel)
theorem sc_off {j i k : Nat} (hj : j < 7) (hi : i < 8) (hk : k = cb j + 4 * i + 5) : shC k = .inl (0, 3, 349 * j + 32 * i + 27) := by
  subst hk; rw [Nat.add_assoc, shS_of j hj _ (by omega)]; exact sc_off' j hj i hi
theorem sc_used' : ∀ j, j < 7 → ∀ i, i < 8 → shS j (4 * i + 6) = .inl (0, 3, 349 * j + 32 * i + 30) := all2 (f := fun j i => shS j (4 * i + 6)) (g := fun j i => .inl (0, 3, 349 * j + 32 * i + 30)) (by decide +kernel)
theorem sc_used {j i k : Nat} (hj : j < 7) (hi : i < 8) (hk : k = cb j + 4 * i + 6) : shC k = .inl (0, 3, 349 * j + 32 * i + 30) := by
  subst hk; rw [Nat.add_assoc, shS_of j hj _ (by omega)]; exact sc_used' j hj i hi
theorem sc_iss {j k : Nat} (hj : j < 7) (hk : k = cb j + 35) : shC k = .inl (0, 20, 349 * j + 263) := by subst hk; exact shS_of j hj 35 (by omega)
theorem sc_sur {j k : Nat} (hj : j < 7) (hk : k = cb j + 36) : shC k = .inl (0, 20, 349 * j + 283) := by subst hk; exact shS_of j hj 36 (by omega)
theorem sc_can {j k : Nat} (hj : j < 7) (hk : k = cb j + 37) : shC k = .inl (0, 20, 349 * j + 303) := by subst hk; exact shS_of j hj 37 (by omega)
theorem sc_los {j k : Nat} (hj : j < 7) (hk : k = cb j + 38) : shC k = .inl (0, 20, 349 * j + 323) := by subst hk; exact shS_of j hj 38 (by omega)
theorem sc_oi {j k : Nat} (hj : j < 7) (hk : k = cb j + 39) : shC k = .inl (0, 3, 349 * j + 343) := by subst hk; exact shS_of j hj 39 (by omega)
theorem sc_os {j k : Nat} (hj : j < 7) (hk : k = cb j + 40) : shC k = .inl (0, 3, 349 * j + 346) := by subst hk; exact shS_of j hj 40 (by omega)
theorem zks {n : Nat} {g : Nat → Nat} {i r : Nat} (hi : i < n) (hr : g i = r) : ((List.range n).map (fun i => some (g i)))[i]? = some (some r) := by
  rw [List.getElem?_map, List.getElem?_range hi]
  exact congrArg (fun x => some (some x)) hr
