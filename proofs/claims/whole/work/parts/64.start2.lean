def moCells (tc : Nat → ClassId) (a0 : Nat) : List va_E := [.inr (6, [.ref (a0 + 1), .int 0, .int 0, .ref (a0 + 2), .int 0, .ref (a0 + 3), .ref (a0 + 4), .int 0, .int 0, .int 0, .ref (a0 + 5)]), .inl (tc 0, 2443, .inl (upd (upd (upd (upd (upd (fun _ => 0) 2 (nI 20)) 3 (nI 10)) 4 (nI 5)) 5 (nI 3)) 6 (nI 50))), .inl (tc 0, 60, .inl (fun _ => 0)), .inl (tc 0, 20, .inl (fun _ => 0)), .inl (tc 0, 3, .inl (fun _ => 0)), .inl (tc 0, 4, .inl (fun _ => 0))]
theorem mo_row : ∀ j, j < 2443 → (upd (upd (upd (upd (upd (fun _ => 0) 2 (nI 20)) 3 (nI 10)) 4 (nI 5)) 5 (nI 3)) 6 (nI 50)) j = nu0 (0 + j) := by
  intro j hj
  rw [Nat.zero_add]
  by_cases q : 2 ≤ j ∧ j < 7
  · rcases (show j = 2 ∨ j = 3 ∨ j = 4 ∨ j = 5 ∨ j = 6 by omega) with rfl | rfl | rfl | rfl | rfl <;> decide +kernel
  · rw [nu0_z (by omega), pk_un (by omega), pk_un (by omega), pk_un (by omega), pk_un (by omega), pk_un (by omega), nI_0]
theorem mo_W {D : va_G} {tc : Nat → ClassId} {a0 : Nat} {H : Heap} (h : zA0 D vwCl a0 (moCells tc a0) H) : zW D vwCl tc (fun k => a0 + k) 6 shR nu0 H := by
  intro k hk
  match k, hk with
  | 0, _ => exact zcv_O (h.2 0 _ rfl) rfl
  | 1, _ => exact zcv_I (h.2 1 _ rfl) mo_row
  | 2, _ => exact zcv_I (h.2 2 _ rfl) (fun j hj => (nI_0.symm.trans (nu0_z (by omega)).symm))
  | 3, _ => exact zcv_I (h.2 3 _ rfl) (fun j hj => (nI_0.symm.trans (nu0_z (by omega)).symm))
  | 4, _ => exact zcv_I (h.2 4 _ rfl) (fun j hj => (nI_0.symm.trans (nu0_z (by omega)).symm))
  | 5, _ => exact zcv_I (h.2 5 _ rfl) (fun j hj => (nI_0.symm.trans (nu0_z (by omega)).symm))
  | k + 6, hk => omega
