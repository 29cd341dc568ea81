/-! the words for what methods do to numbers -/
def cpn (μ : Nat → Int32) (a b n : Nat) : Nat → Int32 := fun p => if b ≤ p ∧ p < b + n then μ (a + (p - b)) else μ p
def cp (μ : Nat → Int32) (a b : Nat) : Nat → Int32 := cpn μ a b 349
theorem cpn_0 (μ : Nat → Int32) (a b : Nat) : cpn μ a b 0 = μ := by
  funext p
  unfold cpn
  rw [if_neg (by omega)]
theorem cpn_out {μ : Nat → Int32} {a b n p : Nat} (h : p < b ∨ b + n ≤ p) : cpn μ a b n p = μ p := by
  unfold cpn
  rw [if_neg (by omega)]
theorem cpn_in {μ : Nat → Int32} {a b n p q : Nat} (h : b ≤ p) (h2 : p < b + n) (hq : q = a + (p - b)) : cpn μ a b n p = μ q := by
  unfold cpn
  rw [if_pos ⟨h, h2⟩, hq]
theorem cp_out {μ : Nat → Int32} {a b p : Nat} (h : p < b ∨ b + 349 ≤ p) : cp μ a b p = μ p := cpn_out h
theorem cp_in {μ : Nat → Int32} {a b p q : Nat} (h : b ≤ p) (h2 : p < b + 349) (hq : q = a + (p - b)) : cp μ a b p = μ q := cpn_in h h2 hq
theorem cpn_step {μ : Nat → Int32} {a b i : Nat} : upd (cpn μ a b i) (b + i) (μ (a + i)) = cpn μ a b (i + 1) := by
  funext p
  by_cases h : p = b + i
  · subst h
    rw [pk_us]
    exact (cpn_in (by omega) (by omega) (by omega)).symm
  · rw [pk_un h]
    by_cases h2 : b ≤ p ∧ p < b + i
    · rw [cpn_in h2.1 h2.2 rfl, cpn_in h2.1 (by omega) rfl]
    · rw [cpn_out (by omega), cpn_out (by omega)]
/-- a state comes into the history: there is room; it is full -/
def zrecA (μ : Nat → Int32) (b k : Nat) : Nat → Int32 := upd (cp μ b (349 * k + 349)) 2444 (nI (k + 1))
def zrecB (μ : Nat → Int32) (b : Nat) : Nat → Int32 := upd (cp (upd (cp (cp (cp μ 698 349) 1047 698) 1396 1047) 2444 (nI 3)) b 1396) 2444 (nI 4)
def zrec (μ : Nat → Int32) (b k : Nat) : Nat → Int32 := if k < 4 then zrecA μ b k else zrecB μ b
theorem zrec_out {μ : Nat → Int32} {b k p : Nat} (h : p < 349 ∨ 1745 ≤ p) (h2 : p ≠ 2444) (hk : k ≤ 4) : zrec μ b k p = μ p := by
  unfold zrec
  by_cases q : k < 4
  · rw [if_pos q]
    unfold zrecA
    rw [pk_un h2, cp_out (by omega)]
  · rw [if_neg q]
    unfold zrecB
    rw [pk_un h2, cp_out (by omega), pk_un h2, cp_out (by omega), cp_out (by omega), cp_out (by omega)]
/-- sums and counts -/
def zsum (g : Nat → Int32) : Nat → Int32
  | 0 => nI 0
  | n + 1 => zsum g n + g n
def zcnt (g : Nat → Int32) : Nat → Nat
  | 0 => 0
  | n + 1 => zcnt g n + (if 0 < g n then 1 else 0)
theorem zcnt_t {g : Nat → Int32} {n : Nat} (h : 0 < g n) : zcnt g n + 1 = zcnt g (n + 1) := by simp [zcnt, h]
theorem zcnt_f {g : Nat → Int32} {n : Nat} (h : ¬ 0 < g n) : zcnt g n = zcnt g (n + 1) := by simp [zcnt, h]
/-- what a firm may use of a grade -/
def zmay (μ : Nat → Int32) (f g : Nat) : Int32 := if μ (32 * f + 35) * μ (g + 2) / nI 100 - μ (32 * f + g + 30) < 0 then nI 0 else μ (32 * f + 35) * μ (g + 2) / nI 100 - μ (32 * f + g + 30)
/-- a firm's places are emptied -/
def zclr (μ : Nat → Int32) (f : Nat) : Nat → (Nat → Int32)
  | 0 => μ
  | n + 1 => upd (zclr μ f n) (32 * f + n + 7) (nI 0)
theorem zclr_out {μ : Nat → Int32} {f p : Nat} : ∀ {n : Nat}, (p < 32 * f + 7 ∨ 32 * f + n + 7 ≤ p) → zclr μ f n p = μ p
  | 0, _ => rfl
  | n + 1, h => (pk_un (by omega)).trans (zclr_out (by omega))
