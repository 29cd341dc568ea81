theorem zseg {ss pre seg post : List va_E} {n i : Nat} {x : va_E} (e : ss = pre ++ seg ++ post) (hn : pre.length = n) (hx : seg[i]? = some x) : ss[n + i]? = some x := by
  subst e
  subst hn
  have hi := (List.getElem?_eq_some_iff.mp hx).1
  rw [List.append_assoc, List.getElem?_append_right (by omega), Nat.add_sub_cancel_left, List.getElem?_append_left hi]
  exact hx
set_option maxRecDepth 20000 in
set_option maxHeartbeats 2000000 in
theorem bk_W {D : va_G} {tc : Nat → ClassId} {a0 : Nat} {H : Heap} (h : ∀ i x, (bkCells tc a0)[i]? = some x → va_at D vwCl (a0 + i, x) H) : zW D vwCl tc (fun k => a0 + k) 299 shC mu0 H := by
  intro k hk
  obtain ⟨o5, e5⟩ : ∃ o, bkCells tc a0 = [o] ++ stCells tc (a0 + 1) ++ stCells tc (a0 + 42) ++ stCells tc (a0 + 83) ++ hiCells tc (a0 + 124) ++ taCells tc (a0 + 290) ++ teCells tc (a0 + 293) := ⟨_, rfl⟩
  obtain ⟨o1, o2, e1⟩ : ∃ o o2, hiCells tc (a0 + 124) = [o, o2] ++ stCells tc (a0 + 126) ++ stCells tc (a0 + 167) ++ stCells tc (a0 + 208) ++ stCells tc (a0 + 249) := ⟨_, _, rfl⟩
  rw [e1] at e5
  have s0 := st_W (tc := tc) (j := 0) (c := 1) (by omega) rfl (fun i x hx => by have q := h (1 + i) x (zseg (pre := ([o5])) (seg := stCells tc (a0 + 1)) (post := (stCells tc (a0 + 42) ++ stCells tc (a0 + 83) ++ [o1, o2] ++ stCells tc (a0 + 126) ++ stCells tc (a0 + 167) ++ stCells tc (a0 + 208) ++ stCells tc (a0 + 249) ++ taCells tc (a0 + 290) ++ teCells tc (a0 + 293))) (by rw [e5]; simp only [List.append_assoc, List.cons_append, List.nil_append]) rfl hx); rw [← Nat.add_assoc] at q; exact q)
  have s1 := st_W (tc := tc) (j := 1) (c := 42) (by omega) rfl (fun i x hx => by have q := h (42 + i) x (zseg (pre := ([o5] ++ stCells tc (a0 + 1))) (seg := stCells tc (a0 + 42)) (post := (stCells tc (a0 + 83) ++ [o1, o2] ++ stCells tc (a0 + 126) ++ stCells tc (a0 + 167) ++ stCells tc (a0 + 208) ++ stCells tc (a0 + 249) ++ taCells tc (a0 + 290) ++ teCells tc (a0 + 293))) (by rw [e5]; simp only [List.append_assoc, List.cons_append, List.nil_append]) rfl hx); rw [← Nat.add_assoc] at q; exact q)
  have s2 := st_W (tc := tc) (j := 2) (c := 83) (by omega) rfl (fun i x hx => by have q := h (83 + i) x (zseg (pre := ([o5] ++ stCells tc (a0 + 1) ++ stCells tc (a0 + 42))) (seg := stCells tc (a0 + 83)) (post := ([o1, o2] ++ stCells tc (a0 + 126) ++ stCells tc (a0 + 167) ++ stCells tc (a0 + 208) ++ stCells tc (a0 + 249) ++ taCells tc (a0 + 290) ++ teCells tc (a0 + 293))) (by rw [e5]; simp only [List.append_assoc, List.cons_append, List.nil_append]) rfl hx); rw [← Nat.add_assoc] at q; exact q)
  have s3 := st_W (tc := tc) (j := 3) (c := 126) (by omega) rfl (fun i x hx => by have q := h (126 + i) x (zseg (pre := ([o5] ++ stCells tc (a0 + 1) ++ stCells tc (a0 + 42) ++ stCells tc (a0 + 83) ++ [o1, o2])) (seg := stCells tc (a0 + 126)) (post := (stCells tc (a0 + 167) ++ stCells tc (a0 + 208) ++ stCells tc (a0 + 249) ++ taCells tc (a0 + 290) ++ teCells tc (a0 + 293))) (by rw [e5]; simp only [List.append_assoc, List.cons_append, List.nil_append]) rfl hx); rw [← Nat.add_assoc] at q; exact q)
  have s4 := st_W (tc := tc) (j := 4) (c := 167) (by omega) rfl (fun i x hx => by have q := h (167 + i) x (zseg (pre := ([o5] ++ stCells tc (a0 + 1) ++ stCells tc (a0 + 42) ++ stCells tc (a0 + 83) ++ [o1, o2] ++ stCells tc (a0 + 126))) (seg := stCells tc (a0 + 167)) (post := (stCells tc (a0 + 208) ++ stCells tc (a0 + 249) ++ taCells tc (a0 + 290) ++ teCells tc (a0 + 293))) (by rw [e5]; simp only [List.append_assoc, List.cons_append, List.nil_append]) rfl hx); rw [← Nat.add_assoc] at q; exact q)
  have s5 := st_W (tc := tc) (j := 5) (c := 208) (by omega) rfl (fun i x hx => by have q := h (208 + i) x (zseg (pre := ([o5] ++ stCells tc (a0 + 1) ++ stCells tc (a0 + 42) ++ stCells tc (a0 + 83) ++ [o1, o2] ++ stCells tc (a0 + 126) ++ stCells tc (a0 + 167))) (seg := stCells tc (a0 + 208)) (post := (stCells tc (a0 + 249) ++ taCells tc (a0 + 290) ++ teCells tc (a0 + 293))) (by rw [e5]; simp only [List.append_assoc, List.cons_append, List.nil_append]) rfl hx); rw [← Nat.add_assoc] at q; exact q)
  have s6 := st_W (tc := tc) (j := 6) (c := 249) (by omega) rfl (fun i x hx => by have q := h (249 + i) x (zseg (pre := ([o5] ++ stCells tc (a0 + 1) ++ stCells tc (a0 + 42) ++ stCells tc (a0 + 83) ++ [o1, o2] ++ stCells tc (a0 + 126) ++ stCells tc (a0 + 167) ++ stCells tc (a0 + 208))) (seg := stCells tc (a0 + 249)) (post := (taCells tc (a0 + 290) ++ teCells tc (a0 + 293))) (by rw [e5]; simp only [List.append_assoc, List.cons_append, List.nil_append]) rfl hx); rw [← Nat.add_assoc] at q; exact q)
  by_cases q0 : 1 ≤ k ∧ k < 42
  · have w := s0 (k - 1) (by omega)
    rw [show 1 + (k - 1) = k by omega] at w
    exact w
  by_cases q1 : 42 ≤ k ∧ k < 83
  · have w := s1 (k - 42) (by omega)
    rw [show 42 + (k - 42) = k by omega] at w
    exact w
  by_cases q2 : 83 ≤ k ∧ k < 124
  · have w := s2 (k - 83) (by omega)
    rw [show 83 + (k - 83) = k by omega] at w
    exact w
  by_cases q3 : 126 ≤ k ∧ k < 167
  · have w := s3 (k - 126) (by omega)
    rw [show 126 + (k - 126) = k by omega] at w
    exact w
  by_cases q4 : 167 ≤ k ∧ k < 208
  · have w := s4 (k - 167) (by omega)
    rw [show 167 + (k - 167) = k by omega] at w
    exact w
  by_cases q5 : 208 ≤ k ∧ k < 249
  · have w := s5 (k - 208) (by omega)
    rw [show 208 + (k - 208) = k by omega] at w
    exact w
  by_cases q6 : 249 ≤ k ∧ k < 290
  · have w := s6 (k - 249) (by omega)
    rw [show 249 + (k - 249) = k by omega] at w
    exact w
  have hr : k = 0 ∨ k = 124 ∨ k = 125 ∨ k = 290 ∨ k = 291 ∨ k = 292 ∨ k = 293 ∨ k = 294 ∨ k = 295 ∨ k = 296 ∨ k = 297 ∨ k = 298 := by omega
  rcases hr with rfl | rfl | rfl | rfl | rfl | rfl | rfl | rfl | rfl | rfl | rfl | rfl
  · exact zcv_O (h 0 _ rfl) rfl
  · exact zcv_O (h 124 _ rfl) rfl
  · exact zcv_Q (h 125 _ rfl) (by intro j hj; rcases (show j = 0 ∨ j = 1 ∨ j = 2 ∨ j = 3 by have : j < 4 := hj; omega) with rfl | rfl | rfl | rfl <;> rfl)
  · exact zcv_O (h 290 _ rfl) rfl
  · exact zcv_I (h 291 _ rfl) (fun j (hj : j < 20) => nI_0.symm.trans (mu0_z (p := 2460 + j) (by omega)).symm)
  · exact zcv_I (h 292 _ rfl) (fun j (hj : j < 3) => nI_0.symm.trans (mu0_z (p := 2480 + j) (by omega)).symm)
  · exact zcv_O (h 293 _ rfl) rfl
  · exact zcv_I (h 294 _ rfl) (fun j (hj : j < 60) => nI_0.symm.trans (mu0_z (p := 2500 + j) (by omega)).symm)
  · exact zcv_I (h 295 _ rfl) (fun j (hj : j < 8) => nI_0.symm.trans (mu0_z (p := 2560 + j) (by omega)).symm)
  · exact zcv_I (h 296 _ rfl) (fun j (hj : j < 8) => nI_0.symm.trans (mu0_z (p := 2568 + j) (by omega)).symm)
  · exact zcv_I (h 297 _ rfl) (fun j (hj : j < 8) => nI_0.symm.trans (mu0_z (p := 2576 + j) (by omega)).symm)
  · exact zcv_I (h 298 _ rfl) (fun j (hj : j < 8) => nI_0.symm.trans (mu0_z (p := 2584 + j) (by omega)).symm)
