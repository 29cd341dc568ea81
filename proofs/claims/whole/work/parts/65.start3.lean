set_option maxRecDepth 20000 in
set_option maxHeartbeats 2000000 in
theorem st_W0 {D : va_G} {tc : Nat → ClassId} {a0 : Nat} {H : Heap} (h : ∀ i x, (stCells tc (a0 + 1))[i]? = some x → va_at D vwCl (a0 + 1 + i, x) H) : ∀ r, r < 41 → va_at D vwCl (a0 + (1 + r), zE tc (fun k => a0 + k) mu0 (shC (1 + r))) H := by
  intro r hr
  match r, hr with
  | 0, _ => exact zcv_O (h 0 _ rfl) rfl
  | 1, _ => exact zcv_I (h 1 _ rfl) (by intro j hj; rcases (show j = 0 ∨ j = 1 ∨ j = 2 ∨ j = 3 ∨ j = 4 by omega) with rfl | rfl | rfl | rfl | rfl <;> decide +kernel)
  | 2, _ => exact zcv_Q (h 2 _ rfl) (by intro j hj; rcases (show j = 0 ∨ j = 1 ∨ j = 2 ∨ j = 3 ∨ j = 4 ∨ j = 5 ∨ j = 6 ∨ j = 7 by have : j < 8 := hj; omega) with rfl | rfl | rfl | rfl | rfl | rfl | rfl | rfl <;> rfl)
  | 3, _ => exact zcv_O (h 3 _ rfl) rfl
  | 4, _ => exact zcv_I (h 4 _ rfl) (fun j (hj : j < 20) => nI_0.symm.trans (mu0_z (p := 7 + j) (by omega)).symm)
  | 5, _ => exact zcv_I (h 5 _ rfl) (fun j (hj : j < 3) => nI_0.symm.trans (mu0_z (p := 27 + j) (by omega)).symm)
  | 6, _ => exact zcv_I (h 6 _ rfl) (fun j (hj : j < 3) => nI_0.symm.trans (mu0_z (p := 30 + j) (by omega)).symm)
  | 7, _ => exact zcv_O (h 7 _ rfl) rfl
  | 8, _ => exact zcv_I (h 8 _ rfl) (fun j (hj : j < 20) => nI_0.symm.trans (mu0_z (p := 39 + j) (by omega)).symm)
  | 9, _ => exact zcv_I (h 9 _ rfl) (fun j (hj : j < 3) => nI_0.symm.trans (mu0_z (p := 59 + j) (by omega)).symm)
  | 10, _ => exact zcv_I (h 10 _ rfl) (fun j (hj : j < 3) => nI_0.symm.trans (mu0_z (p := 62 + j) (by omega)).symm)
  | 11, _ => exact zcv_O (h 11 _ rfl) rfl
  | 12, _ => exact zcv_I (h 12 _ rfl) (fun j (hj : j < 20) => nI_0.symm.trans (mu0_z (p := 71 + j) (by omega)).symm)
  | 13, _ => exact zcv_I (h 13 _ rfl) (fun j (hj : j < 3) => nI_0.symm.trans (mu0_z (p := 91 + j) (by omega)).symm)
  | 14, _ => exact zcv_I (h 14 _ rfl) (fun j (hj : j < 3) => nI_0.symm.trans (mu0_z (p := 94 + j) (by omega)).symm)
  | 15, _ => exact zcv_O (h 15 _ rfl) rfl
  | 16, _ => exact zcv_I (h 16 _ rfl) (fun j (hj : j < 20) => nI_0.symm.trans (mu0_z (p := 103 + j) (by omega)).symm)
  | 17, _ => exact zcv_I (h 17 _ rfl) (fun j (hj : j < 3) => nI_0.symm.trans (mu0_z (p := 123 + j) (by omega)).symm)
  | 18, _ => exact zcv_I (h 18 _ rfl) (fun j (hj : j < 3) => nI_0.symm.trans (mu0_z (p := 126 + j) (by omega)).symm)
  | 19, _ => exact zcv_O (h 19 _ rfl) rfl
  | 20, _ => exact zcv_I (h 20 _ rfl) (fun j (hj : j < 20) => nI_0.symm.trans (mu0_z (p := 135 + j) (by omega)).symm)
  | 21, _ => exact zcv_I (h 21 _ rfl) (fun j (hj : j < 3) => nI_0.symm.trans (mu0_z (p := 155 + j) (by omega)).symm)
  | 22, _ => exact zcv_I (h 22 _ rfl) (fun j (hj : j < 3) => nI_0.symm.trans (mu0_z (p := 158 + j) (by omega)).symm)
  | 23, _ => exact zcv_O (h 23 _ rfl) rfl
  | 24, _ => exact zcv_I (h 24 _ rfl) (fun j (hj : j < 20) => nI_0.symm.trans (mu0_z (p := 167 + j) (by omega)).symm)
  | 25, _ => exact zcv_I (h 25 _ rfl) (fun j (hj : j < 3) => nI_0.symm.trans (mu0_z (p := 187 + j) (by omega)).symm)
  | 26, _ => exact zcv_I (h 26 _ rfl) (fun j (hj : j < 3) => nI_0.symm.trans (mu0_z (p := 190 + j) (by omega)).symm)
  | 27, _ => exact zcv_O (h 27 _ rfl) rfl
  | 28, _ => exact zcv_I (h 28 _ rfl) (fun j (hj : j < 20) => nI_0.symm.trans (mu0_z (p := 199 + j) (by omega)).symm)
  | 29, _ => exact zcv_I (h 29 _ rfl) (fun j (hj : j < 3) => nI_0.symm.trans (mu0_z (p := 219 + j) (by omega)).symm)
  | 30, _ => exact zcv_I (h 30 _ rfl) (fun j (hj : j < 3) => nI_0.symm.trans (mu0_z (p := 222 + j) (by omega)).symm)
  | 31, _ => exact zcv_O (h 31 _ rfl) rfl
  | 32, _ => exact zcv_I (h 32 _ rfl) (fun j (hj : j < 20) => nI_0.symm.trans (mu0_z (p := 231 + j) (by omega)).symm)
  | 33, _ => exact zcv_I (h 33 _ rfl) (fun j (hj : j < 3) => nI_0.symm.trans (mu0_z (p := 251 + j) (by omega)).symm)
  | 34, _ => exact zcv_I (h 34 _ rfl) (fun j (hj : j < 3) => nI_0.symm.trans (mu0_z (p := 254 + j) (by omega)).symm)
  | 35, _ => exact zcv_I (h 35 _ rfl) (fun j (hj : j < 20) => nI_0.symm.trans (mu0_z (p := 263 + j) (by omega)).symm)
  | 36, _ => exact zcv_I (h 36 _ rfl) (fun j (hj : j < 20) => nI_0.symm.trans (mu0_z (p := 283 + j) (by omega)).symm)
  | 37, _ => exact zcv_I (h 37 _ rfl) (fun j (hj : j < 20) => nI_0.symm.trans (mu0_z (p := 303 + j) (by omega)).symm)
  | 38, _ => exact zcv_I (h 38 _ rfl) (fun j (hj : j < 20) => nI_0.symm.trans (mu0_z (p := 323 + j) (by omega)).symm)
  | 39, _ => exact zcv_I (h 39 _ rfl) (fun j (hj : j < 3) => nI_0.symm.trans (mu0_z (p := 343 + j) (by omega)).symm)
  | 40, _ => exact zcv_I (h 40 _ rfl) (fun j (hj : j < 3) => nI_0.symm.trans (mu0_z (p := 346 + j) (by omega)).symm)
  | r + 41, hr => omega
