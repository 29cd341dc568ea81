/-! THE TEXT: n characters w; both readers are tied to these words. -/
/-- a digit -/
def zdg (w : Nat → Int32) (p : Nat) : Nat := min ((w p).toInt.toNat - 48) 9
theorem zdg_9 (w : Nat → Int32) (p : Nat) : zdg w p ≤ 9 := Nat.min_le_right _ _
theorem zdg_eq {w : Nat → Int32} {p : Nat} (h1 : nI 48 ≤ w p) (h2 : w p ≤ nI 57) : w p = nI (zdg w p + 48) := by
  rw [Int32.le_iff_toInt_le, nI_toInt (by omega)] at h1 h2
  apply Int32.toInt_inj.mp
  have := zdg_9 w p
  rw [nI_toInt (by omega)]
  unfold zdg
  omega
/-- the digits from p on, so many at most; a zero in front ends it -/
def zmo1 (w : Nat → Int32) (n : Nat) : Nat → Bool → Nat → Nat → Nat × Nat
  | 0, _, a, p => (a, p)
  | d + 1, f, a, p => if (p < n ∧ nI 48 ≤ w p ∧ w p ≤ nI 57) ∧ (f = true ∨ 0 < a) then zmo1 w n d false (10 * a + zdg w p) (p + 1) else (a, p)
theorem zmo1_end {w : Nat → Int32} {n d : Nat} {f : Bool} {a p : Nat} (h : d = 0 ∨ ¬ (p < n ∧ nI 48 ≤ w p ∧ w p ≤ nI 57) ∨ (f = false ∧ a = 0)) : zmo1 w n d f a p = (a, p) := by
  cases d with
  | zero => rfl
  | succ d =>
    simp only [zmo1]
    rw [if_neg]
    rintro ⟨h1, h2⟩
    rcases h with h | h | ⟨h, h3⟩
    · omega
    · exact h h1
    · rcases h2 with h2 | h2
      · rw [h] at h2; cases h2
      · omega
theorem zmo1_go {w : Nat → Int32} {n d : Nat} {f : Bool} {a p : Nat} (h1 : p < n ∧ nI 48 ≤ w p ∧ w p ≤ nI 57) (h2 : f = true ∨ 0 < a) : zmo1 w n (d + 1) f a p = zmo1 w n d false (10 * a + zdg w p) (p + 1) := by
  simp only [zmo1]
  rw [if_pos ⟨h1, h2⟩]
def zval (w : Nat → Int32) (p : Nat) : Nat → Nat
  | 0 => 0
  | i + 1 => 10 * zval w p i + zdg w (p + i)
theorem zval_lt (w : Nat → Int32) (p : Nat) : ∀ i, zval w p i < 10 ^ i
  | 0 => by simp [zval]
  | i + 1 => by
    have := zval_lt w p i
    have := zdg_9 w (p + i)
    simp only [zval, Nat.pow_succ]
    omega
theorem zval_ub {w : Nat → Int32} {p i : Nat} (h : i ≤ 4) : zval w p i < 10000 := by
  have h1 := zval_lt w p i
  have : 10 ^ i ≤ 10 ^ 4 := Nat.pow_le_pow_right (by omega) h
  omega
/-- a number stands at p: of so many digits at most, a zero alone may be or not; what it is, where it ends -/
def znum (w : Nat → Int32) (n z p : Nat) : Prop := (p < n ∧ nI 48 ≤ w p ∧ w p ≤ nI 57) ∧ (z = 1 ∨ 0 < zdg w p)
def znv (w : Nat → Int32) (n d p : Nat) : Nat := (zmo1 w n d true 0 p).1
def znq (w : Nat → Int32) (n d p : Nat) : Nat := (zmo1 w n d true 0 p).2
/-- a sign stands at p -/
def zis (w : Nat → Int32) (n c p : Nat) : Prop := p < n ∧ w p = nI c
theorem zmo1_ge (w : Nat → Int32) (n : Nat) : ∀ d f a p, p ≤ (zmo1 w n d f a p).2
  | 0, _, _, _ => Nat.le_refl _
  | d + 1, f, a, p => by
    simp only [zmo1]
    split
    · exact Nat.le_trans (Nat.le_succ p) (zmo1_ge w n d _ _ _)
    · exact Nat.le_refl _
theorem zmo1_le (w : Nat → Int32) (n : Nat) : ∀ d f a p, p ≤ n → (zmo1 w n d f a p).2 ≤ n
  | 0, _, _, _, h => h
  | d + 1, f, a, p, h => by
    simp only [zmo1]
    split
    · next q => exact zmo1_le w n d _ _ _ q.1.1
    · exact h
theorem znq_gt {w : Nat → Int32} {n d z p : Nat} (h : znum w n z p) : p + 1 ≤ znq w n (d + 1) p := by
  unfold znq
  rw [zmo1_go h.1 (Or.inl rfl)]
  exact zmo1_ge w n d _ _ _
theorem znq_le {w : Nat → Int32} {n d z p : Nat} (h : znum w n z p) : znq w n d p ≤ n := zmo1_le w n d _ _ _ (Nat.le_of_lt h.1.1)
theorem zmo1_pos (w : Nat → Int32) (n : Nat) : ∀ d f a p, 0 < a → 0 < (zmo1 w n d f a p).1
  | 0, _, _, _, h => h
  | d + 1, f, a, p, h => by
    simp only [zmo1]
    split
    · exact zmo1_pos w n d _ _ _ (by omega)
    · exact h
theorem zmo1_lt (w : Nat → Int32) (n : Nat) : ∀ d f a p i, a < 10 ^ i → (zmo1 w n d f a p).1 < 10 ^ (i + d)
  | 0, _, _, _, _, h => h
  | d + 1, f, a, p, i, h => by
    simp only [zmo1]
    split
    · have := zdg_9 w p
      have := zmo1_lt w n d false (10 * a + zdg w p) (p + 1) (i + 1) (by rw [Nat.pow_succ]; omega)
      rw [show i + (d + 1) = i + 1 + d by omega]
      exact this
    · exact Nat.lt_of_lt_of_le h (Nat.pow_le_pow_right (by omega) (by omega))
theorem znv_lt {w : Nat → Int32} {n d p : Nat} : znv w n d p < 10 ^ d := by
  have := zmo1_lt w n d true 0 p 0 (by decide)
  rw [Nat.zero_add] at this
  exact this
theorem znv_pos {w : Nat → Int32} {n d p : Nat} (h : znum w n 0 p) : 0 < znv w n (d + 1) p := by
  unfold znv
  rw [zmo1_go h.1 (Or.inl rfl)]
  exact zmo1_pos w n d _ _ _ (by have := h.2; omega)
theorem zupd4 {f : Nat → Int32} {K P : Nat} {a b a' b' : Int32} (h : K ≠ P) : upd (upd (upd (upd f K a) P b) K a') P b' = upd (upd f K a') P b' := by
  rw [zupd_swap (f := upd f K a) h.symm, zupd_twice, zupd_twice]
theorem znum1_of {w : Nat → Int32} {n p : Nat} (h : p < n) (h1 : nI 48 ≤ w p) (h2 : w p ≤ nI 57) : znum w n 1 p := ⟨⟨h, h1, h2⟩, Or.inl rfl⟩
theorem znum0_of {w : Nat → Int32} {n p : Nat} (h : p < n) (h1 : nI 49 ≤ w p) (h2 : w p ≤ nI 57) : znum w n 0 p := by
  have h1' := h1
  have h2' := h2
  rw [Int32.le_iff_toInt_le, nI_toInt (by omega)] at h1' h2'
  refine ⟨⟨h, ?_, h2⟩, Or.inr ?_⟩
  · rw [Int32.le_iff_toInt_le, nI_toInt (by omega)]; omega
  · unfold zdg; omega
