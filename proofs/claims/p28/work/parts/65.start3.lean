theorem mu0_set {j q : Nat} (hj : j < 7) (hq : q < 5) : ([20, 10, 5, 3, 50] : List Int32).getD q 0 = mu0 (349 * j + 2 + q) := by
  unfold mu0
  rw [if_pos (by omega), show (349 * j + 2 + q) % 349 - 2 = q by omega]
  rfl
theorem mu0_0 {p : Nat} (h : 2443 ≤ p ∨ p % 349 < 2 ∨ 7 ≤ p % 349) : (0 : Int32) = mu0 p := nI_0.symm.trans (mu0_z h).symm
theorem st_ob {a0 b o : Nat} (h0 : (0 : Int32) = mu0 (o + 0)) (h1 : (0 : Int32) = mu0 (o + 1)) : ([.int 0, .int 0, .ref (a0 + b + 1), .ref (a0 + b + 2), .ref (a0 + b + 35), .ref (a0 + b + 36), .ref (a0 + b + 37), .ref (a0 + b + 38), .ref (a0 + b + 39), .ref (a0 + b + 40)] : List Value) = List.mapIdx (zv (fun k => a0 + k) mu0 o) [zI, zI, zR (b + 1), zR (b + 2), zR (b + 35), zR (b + 36), zR (b + 37), zR (b + 38), zR (b + 39), zR (b + 40)] := by
  show _ = ([.int (mu0 (o + 0)), .int (mu0 (o + 1)), .ref (a0 + (b + 1)), .ref (a0 + (b + 2)), .ref (a0 + (b + 35)), .ref (a0 + (b + 36)), .ref (a0 + (b + 37)), .ref (a0 + (b + 38)), .ref (a0 + (b + 39)), .ref (a0 + (b + 40))] : List Value)
  rw [← h0, ← h1]
  simp only [Nat.add_assoc]
theorem st_of {a0 b o x y z : Nat} (h : ∀ i, 3 ≤ i → i < 9 → (0 : Int32) = mu0 (o + i)) : ([.ref (a0 + b + x), .ref (a0 + b + y), .ref (a0 + b + z), .int 0, .int 0, .int 0, .int 0, .int 0, .int 0] : List Value) = List.mapIdx (zv (fun k => a0 + k) mu0 o) [zR (b + x), zR (b + y), zR (b + z), zI, zI, zI, zI, zI, zI] := by
  show _ = ([.ref (a0 + (b + x)), .ref (a0 + (b + y)), .ref (a0 + (b + z)), .int (mu0 (o + 3)), .int (mu0 (o + 4)), .int (mu0 (o + 5)), .int (mu0 (o + 6)), .int (mu0 (o + 7)), .int (mu0 (o + 8))] : List Value)
  rw [← h 3 (by omega) (by omega), ← h 4 (by omega) (by omega), ← h 5 (by omega) (by omega), ← h 6 (by omega) (by omega), ← h 7 (by omega) (by omega), ← h 8 (by omega) (by omega)]
  simp only [Nat.add_assoc]
theorem st_fs {a0 b : Nat} : ∀ j, j < 8 → (va_up (va_up (va_up (va_up (va_up (va_up (va_up (va_up (fun _ => none) 0 (some (a0 + b + 3))) 1 (some (a0 + b + 7))) 2 (some (a0 + b + 11))) 3 (some (a0 + b + 15))) 4 (some (a0 + b + 19))) 5 (some (a0 + b + 23))) 6 (some (a0 + b + 27))) 7 (some (a0 + b + 31)) : Nat → Option Nat) j = (((List.range 8).map (fun i => some (b + 4 * i + 3))).getD j none).map (fun k => a0 + k) := by
  intro j hj
  have e : (((List.range 8).map (fun i => some (b + 4 * i + 3))).getD j none).map (fun k => a0 + k) = some (a0 + (b + 4 * j + 3)) := by
    rw [List.getD_eq_getElem?_getD, List.getElem?_map, List.getElem?_range hj]
    rfl
  rw [e]
  rcases (show j = 0 ∨ j = 1 ∨ j = 2 ∨ j = 3 ∨ j = 4 ∨ j = 5 ∨ j = 6 ∨ j = 7 by omega) with rfl | rfl | rfl | rfl | rfl | rfl | rfl | rfl
  · show some (a0 + b + 3) = some (a0 + (b + 3))
    rw [Nat.add_assoc]
  · show some (a0 + b + 7) = some (a0 + (b + 7))
    rw [Nat.add_assoc]
  · show some (a0 + b + 11) = some (a0 + (b + 11))
    rw [Nat.add_assoc]
  · show some (a0 + b + 15) = some (a0 + (b + 15))
    rw [Nat.add_assoc]
  · show some (a0 + b + 19) = some (a0 + (b + 19))
    rw [Nat.add_assoc]
  · show some (a0 + b + 23) = some (a0 + (b + 23))
    rw [Nat.add_assoc]
  · show some (a0 + b + 27) = some (a0 + (b + 27))
    rw [Nat.add_assoc]
  · show some (a0 + b + 31) = some (a0 + (b + 31))
    rw [Nat.add_assoc]
set_option maxRecDepth 20000 in
set_option maxHeartbeats 2000000 in
theorem st_W {D : va_G} {tc : Nat → ClassId} {a0 j c : Nat} {H : Heap} (hj : j < 7) (hc : c = cb j) (h : ∀ i x, (stCells tc (a0 + c))[i]? = some x → va_at D vwCl (a0 + c + i, x) H) : ∀ r, r < 41 → va_at D vwCl (a0 + (c + r), zE tc (fun k => a0 + k) mu0 (shC (c + r))) H := by
  subst hc
  intro r hr
  rw [shS_of j hj r hr, ← Nat.add_assoc]
  match r, hr with
  | 0, _ =>
    show va_at D vwCl (a0 + cb j + 0, zE tc (fun k => a0 + k) mu0 (.inr (.inl (2, 349 * j, [zI, zI, zR (cb j + 1), zR (cb j + 2), zR (cb j + 35), zR (cb j + 36), zR (cb j + 37), zR (cb j + 38), zR (cb j + 39), zR (cb j + 40)])))) H
    exact zcv_O (h 0 _ rfl) (st_ob (mu0_0 (by omega)) (mu0_0 (by omega)))
  | 1, _ =>
    show va_at D vwCl (a0 + cb j + 1, zE tc (fun k => a0 + k) mu0 (.inl (0, 5, 349 * j + 2))) H
    exact zcv_I (h 1 _ rfl) (fun q hq => mu0_set hj hq)
  | 2, _ =>
    show va_at D vwCl (a0 + cb j + 2, zE tc (fun k => a0 + k) mu0 (.inr (.inr (2, (List.range 8).map (fun i => some (cb j + 4 * i + 3)))))) H
    exact zcv_Q (h 2 _ rfl) st_fs
  | 3, _ =>
    show va_at D vwCl (a0 + cb j + 3, zE tc (fun k => a0 + k) mu0 (.inr (.inl (0, 349 * j + 30, [zR (cb j + 4), zR (cb j + 5), zR (cb j + 6), zI, zI, zI, zI, zI, zI])))) H
    exact zcv_O (h 3 _ rfl) (st_of (fun i h1 h2 => mu0_0 (by omega)))
  | 4, _ =>
    show va_at D vwCl (a0 + cb j + 4, zE tc (fun k => a0 + k) mu0 (.inl (0, 20, 349 * j + 7))) H
    exact zcv_I (h 4 _ rfl) (fun q (hq : q < 20) => mu0_0 (by omega))
  | 5, _ =>
    show va_at D vwCl (a0 + cb j + 5, zE tc (fun k => a0 + k) mu0 (.inl (0, 3, 349 * j + 27))) H
    exact zcv_I (h 5 _ rfl) (fun q (hq : q < 3) => mu0_0 (by omega))
  | 6, _ =>
    show va_at D vwCl (a0 + cb j + 6, zE tc (fun k => a0 + k) mu0 (.inl (0, 3, 349 * j + 30))) H
    exact zcv_I (h 6 _ rfl) (fun q (hq : q < 3) => mu0_0 (by omega))
  | 7, _ =>
    show va_at D vwCl (a0 + cb j + 7, zE tc (fun k => a0 + k) mu0 (.inr (.inl (0, 349 * j + 62, [zR (cb j + 8), zR (cb j + 9), zR (cb j + 10), zI, zI, zI, zI, zI, zI])))) H
    exact zcv_O (h 7 _ rfl) (st_of (fun i h1 h2 => mu0_0 (by omega)))
  | 8, _ =>
    show va_at D vwCl (a0 + cb j + 8, zE tc (fun k => a0 + k) mu0 (.inl (0, 20, 349 * j + 39))) H
    exact zcv_I (h 8 _ rfl) (fun q (hq : q < 20) => mu0_0 (by omega))
  | 9, _ =>
    show va_at D vwCl (a0 + cb j + 9, zE tc (fun k => a0 + k) mu0 (.inl (0, 3, 349 * j + 59))) H
    exact zcv_I (h 9 _ rfl) (fun q (hq : q < 3) => mu0_0 (by omega))
  | 10, _ =>
    show va_at D vwCl (a0 + cb j + 10, zE tc (fun k => a0 + k) mu0 (.inl (0, 3, 349 * j + 62))) H
    exact zcv_I (h 10 _ rfl) (fun q (hq : q < 3) => mu0_0 (by omega))
  | 11, _ =>
    show va_at D vwCl (a0 + cb j + 11, zE tc (fun k => a0 + k) mu0 (.inr (.inl (0, 349 * j + 94, [zR (cb j + 12), zR (cb j + 13), zR (cb j + 14), zI, zI, zI, zI, zI, zI])))) H
    exact zcv_O (h 11 _ rfl) (st_of (fun i h1 h2 => mu0_0 (by omega)))
  | 12, _ =>
    show va_at D vwCl (a0 + cb j + 12, zE tc (fun k => a0 + k) mu0 (.inl (0, 20, 349 * j + 71))) H
    exact zcv_I (h 12 _ rfl) (fun q (hq : q < 20) => mu0_0 (by omega))
  | 13, _ =>
    show va_at D vwCl (a0 + cb j + 13, zE tc (fun k => a0 + k) mu0 (.inl (0, 3, 349 * j + 91))) H
    exact zcv_I (h 13 _ rfl) (fun q (hq : q < 3) => mu0_0 (by omega))
  | 14, _ =>
    show va_at D vwCl (a0 + cb j + 14, zE tc (fun k => a0 + k) mu0 (.inl (0, 3, 349 * j + 94))) H
    exact zcv_I (h 14 _ rfl) (fun q (hq : q < 3) => mu0_0 (by omega))
  | 15, _ =>
    show va_at D vwCl (a0 + cb j + 15, zE tc (fun k => a0 + k) mu0 (.inr (.inl (0, 349 * j + 126, [zR (cb j + 16), zR (cb j + 17), zR (cb j + 18), zI, zI, zI, zI, zI, zI])))) H
    exact zcv_O (h 15 _ rfl) (st_of (fun i h1 h2 => mu0_0 (by omega)))
  | 16, _ =>
    show va_at D vwCl (a0 + cb j + 16, zE tc (fun k => a0 + k) mu0 (.inl (0, 20, 349 * j + 103))) H
    exact zcv_I (h 16 _ rfl) (fun q (hq : q < 20) => mu0_0 (by omega))
  | 17, _ =>
    show va_at D vwCl (a0 + cb j + 17, zE tc (fun k => a0 + k) mu0 (.inl (0, 3, 349 * j + 123))) H
    exact zcv_I (h 17 _ rfl) (fun q (hq : q < 3) => mu0_0 (by omega))
  | 18, _ =>
    show va_at D vwCl (a0 + cb j + 18, zE tc (fun k => a0 + k) mu0 (.inl (0, 3, 349 * j + 126))) H
    exact zcv_I (h 18 _ rfl) (fun q (hq : q < 3) => mu0_0 (by omega))
  | 19, _ =>
    show va_at D vwCl (a0 + cb j + 19, zE tc (fun k => a0 + k) mu0 (.inr (.inl (0, 349 * j + 158, [zR (cb j + 20), zR (cb j + 21), zR (cb j + 22), zI, zI, zI, zI, zI, zI])))) H
    exact zcv_O (h 19 _ rfl) (st_of (fun i h1 h2 => mu0_0 (by omega)))
  | 20, _ =>
    show va_at D vwCl (a0 + cb j + 20, zE tc (fun k => a0 + k) mu0 (.inl (0, 20, 349 * j + 135))) H
    exact zcv_I (h 20 _ rfl) (fun q (hq : q < 20) => mu0_0 (by omega))
  | 21, _ =>
    show va_at D vwCl (a0 + cb j + 21, zE tc (fun k => a0 + k) mu0 (.inl (0, 3, 349 * j + 155))) H
    exact zcv_I (h 21 _ rfl) (fun q (hq : q < 3) => mu0_0 (by omega))
  | 22, _ =>
    show va_at D vwCl (a0 + cb j + 22, zE tc (fun k => a0 + k) mu0 (.inl (0, 3, 349 * j + 158))) H
    exact zcv_I (h 22 _ rfl) (fun q (hq : q < 3) => mu0_0 (by omega))
  | 23, _ =>
    show va_at D vwCl (a0 + cb j + 23, zE tc (fun k => a0 + k) mu0 (.inr (.inl (0, 349 * j + 190, [zR (cb j + 24), zR (cb j + 25), zR (cb j + 26), zI, zI, zI, zI, zI, zI])))) H
    exact zcv_O (h 23 _ rfl) (st_of (fun i h1 h2 => mu0_0 (by omega)))
  | 24, _ =>
    show va_at D vwCl (a0 + cb j + 24, zE tc (fun k => a0 + k) mu0 (.inl (0, 20, 349 * j + 167))) H
    exact zcv_I (h 24 _ rfl) (fun q (hq : q < 20) => mu0_0 (by omega))
  | 25, _ =>
    show va_at D vwCl (a0 + cb j + 25, zE tc (fun k => a0 + k) mu0 (.inl (0, 3, 349 * j + 187))) H
    exact zcv_I (h 25 _ rfl) (fun q (hq : q < 3) => mu0_0 (by omega))
  | 26, _ =>
    show va_at D vwCl (a0 + cb j + 26, zE tc (fun k => a0 + k) mu0 (.inl (0, 3, 349 * j + 190))) H
    exact zcv_I (h 26 _ rfl) (fun q (hq : q < 3) => mu0_0 (by omega))
  | 27, _ =>
    show va_at D vwCl (a0 + cb j + 27, zE tc (fun k => a0 + k) mu0 (.inr (.inl (0, 349 * j + 222, [zR (cb j + 28), zR (cb j + 29), zR (cb j + 30), zI, zI, zI, zI, zI, zI])))) H
    exact zcv_O (h 27 _ rfl) (st_of (fun i h1 h2 => mu0_0 (by omega)))
  | 28, _ =>
    show va_at D vwCl (a0 + cb j + 28, zE tc (fun k => a0 + k) mu0 (.inl (0, 20, 349 * j + 199))) H
    exact zcv_I (h 28 _ rfl) (fun q (hq : q < 20) => mu0_0 (by omega))
  | 29, _ =>
    show va_at D vwCl (a0 + cb j + 29, zE tc (fun k => a0 + k) mu0 (.inl (0, 3, 349 * j + 219))) H
    exact zcv_I (h 29 _ rfl) (fun q (hq : q < 3) => mu0_0 (by omega))
  | 30, _ =>
    show va_at D vwCl (a0 + cb j + 30, zE tc (fun k => a0 + k) mu0 (.inl (0, 3, 349 * j + 222))) H
    exact zcv_I (h 30 _ rfl) (fun q (hq : q < 3) => mu0_0 (by omega))
  | 31, _ =>
    show va_at D vwCl (a0 + cb j + 31, zE tc (fun k => a0 + k) mu0 (.inr (.inl (0, 349 * j + 254, [zR (cb j + 32), zR (cb j + 33), zR (cb j + 34), zI, zI, zI, zI, zI, zI])))) H
    exact zcv_O (h 31 _ rfl) (st_of (fun i h1 h2 => mu0_0 (by omega)))
  | 32, _ =>
    show va_at D vwCl (a0 + cb j + 32, zE tc (fun k => a0 + k) mu0 (.inl (0, 20, 349 * j + 231))) H
    exact zcv_I (h 32 _ rfl) (fun q (hq : q < 20) => mu0_0 (by omega))
  | 33, _ =>
    show va_at D vwCl (a0 + cb j + 33, zE tc (fun k => a0 + k) mu0 (.inl (0, 3, 349 * j + 251))) H
    exact zcv_I (h 33 _ rfl) (fun q (hq : q < 3) => mu0_0 (by omega))
  | 34, _ =>
    show va_at D vwCl (a0 + cb j + 34, zE tc (fun k => a0 + k) mu0 (.inl (0, 3, 349 * j + 254))) H
    exact zcv_I (h 34 _ rfl) (fun q (hq : q < 3) => mu0_0 (by omega))
  | 35, _ =>
    show va_at D vwCl (a0 + cb j + 35, zE tc (fun k => a0 + k) mu0 (.inl (0, 20, 349 * j + 263))) H
    exact zcv_I (h 35 _ rfl) (fun q (hq : q < 20) => mu0_0 (by omega))
  | 36, _ =>
    show va_at D vwCl (a0 + cb j + 36, zE tc (fun k => a0 + k) mu0 (.inl (0, 20, 349 * j + 283))) H
    exact zcv_I (h 36 _ rfl) (fun q (hq : q < 20) => mu0_0 (by omega))
  | 37, _ =>
    show va_at D vwCl (a0 + cb j + 37, zE tc (fun k => a0 + k) mu0 (.inl (0, 20, 349 * j + 303))) H
    exact zcv_I (h 37 _ rfl) (fun q (hq : q < 20) => mu0_0 (by omega))
  | 38, _ =>
    show va_at D vwCl (a0 + cb j + 38, zE tc (fun k => a0 + k) mu0 (.inl (0, 20, 349 * j + 323))) H
    exact zcv_I (h 38 _ rfl) (fun q (hq : q < 20) => mu0_0 (by omega))
  | 39, _ =>
    show va_at D vwCl (a0 + cb j + 39, zE tc (fun k => a0 + k) mu0 (.inl (0, 3, 349 * j + 343))) H
    exact zcv_I (h 39 _ rfl) (fun q (hq : q < 3) => mu0_0 (by omega))
  | 40, _ =>
    show va_at D vwCl (a0 + cb j + 40, zE tc (fun k => a0 + k) mu0 (.inl (0, 3, 349 * j + 346))) H
    exact zcv_I (h 40 _ rfl) (fun q (hq : q < 3) => mu0_0 (by omega))
  | r + 41, hr => omega
