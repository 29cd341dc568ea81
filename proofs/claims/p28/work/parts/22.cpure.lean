/-! the class's words -/
theorem zmin_nI {a b : Nat} (ha : a < 2 ^ 31) (hb : b < 2 ^ 31) : zmin (nI a) (nI b) = nI (min a b) := by
  unfold zmin
  by_cases h : a < b
  · rw [if_pos (nI_lt h hb), Nat.min_eq_left (by omega)]
  · rw [if_neg (nI_nlt (by omega) ha), Nat.min_eq_right (by omega)]
theorem firm_all {μ : Nat → Int32} {a b : Nat} (hd : a + 349 ≤ b ∨ b + 349 ≤ a) : upd (upd (upd (upd (upd (upd (cpn (cpn (cpn μ a b 20) (a + 20) (b + 20) 3) (a + 23) (b + 23) 3) (b + 26) (μ (a + 26))) (b + 27) (μ (a + 27))) (b + 28) (μ (a + 28))) (b + 29) (μ (a + 29))) (b + 30) (μ (a + 30))) (b + 31) (μ (a + 31)) = cpn μ a b 32 := by
  have h0 : cpn μ a b 20 = cps μ a b (fun q => decide (q < 20)) := (cps_n (by intro q; simp)).symm
  rw [h0, cps_cpn (x := 20) hd (by intro q hq; simp at hq; omega) (by omega) rfl rfl, cps_cpn (x := 23) hd (by intro q hq; simp at hq; omega) (by omega) rfl rfl, cps_upd (x := 26) rfl rfl, cps_upd (x := 27) rfl rfl, cps_upd (x := 28) rfl rfl, cps_upd (x := 29) rfl rfl, cps_upd (x := 30) rfl rfl, cps_upd (x := 31) rfl rfl]
  exact cps_n (by intro q; simp; omega)
theorem cpn_app {μ : Nat → Int32} {a b n k a' b' : Nat} (hd : a + 349 ≤ b ∨ b + 349 ≤ a) (h : n + k ≤ 349) (ha : a' = a + n) (hb : b' = b + n) : cpn (cpn μ a b n) a' b' k = cpn μ a b (n + k) := by
  have h0 : cpn μ a b n = cps μ a b (fun q => decide (q < n)) := (cps_n (by intro q; simp)).symm
  rw [h0, cps_cpn (x := n) hd (by intro q hq; simp at hq; omega) h ha hb]
  exact cps_n (by intro q; simp; omega)
theorem state_all {μ : Nat → Int32} {a b : Nat} (hd : a + 349 ≤ b ∨ b + 349 ≤ a) : cpn (cpn (cpn (cpn (cpn (cpn (cpn (cpn (upd (upd μ b (μ a)) (b + 1) (μ (a + 1))) (a + 2) (b + 2) 5) (a + 263) (b + 263) 20) (a + 283) (b + 283) 20) (a + 303) (b + 303) 20) (a + 323) (b + 323) 20) (a + 343) (b + 343) 3) (a + 346) (b + 346) 3) (a + 7) (b + 7) 256 = cp μ a b := by
  have h0 : upd μ b (μ a) = cps μ a b (fun q => decide (q < 1)) := by
    have := cps_upd (μ := μ) (a := a) (b := b) (x := 0) (S := fun _ => false) (b' := b) (v := μ a) rfl rfl
    rw [cps_0] at this
    rw [this]
    exact cps_eq (by intro q; by_cases h : q = 0 <;> simp [h] <;> omega)
  rw [h0, cps_upd (x := 1) rfl rfl, cps_cpn (x := 2) hd (by intro q hq; simp at hq; omega) (by omega) rfl rfl, cps_cpn (x := 263) hd (by intro q hq; simp at hq; omega) (by omega) rfl rfl, cps_cpn (x := 283) hd (by intro q hq; simp at hq; omega) (by omega) rfl rfl, cps_cpn (x := 303) hd (by intro q hq; simp at hq; omega) (by omega) rfl rfl, cps_cpn (x := 323) hd (by intro q hq; simp at hq; omega) (by omega) rfl rfl, cps_cpn (x := 343) hd (by intro q hq; simp at hq; omega) (by omega) rfl rfl, cps_cpn (x := 346) hd (by intro q hq; simp at hq; omega) (by omega) rfl rfl, cps_cpn (x := 7) hd (by intro q hq; simp at hq; omega) (by omega) rfl rfl]
  exact cps_n (by intro q; simp; omega)
/-- the history: a state comes in, the latest one comes back -/
def zpush (μ : Nat → Int32) (r z : Nat) : Nat → Int32 := upd (upd (cp μ 0 (349 * r + 1047)) 2452 (nI ((r + 1) % 4))) 2451 (nI (min (z + 1) 4))
theorem zpush_lo {μ : Nat → Int32} {r z p : Nat} (h : p < 1047 ∨ 2453 ≤ p) (hr : r < 4) : zpush μ r z p = μ p := by
  unfold zpush
  rw [pk_un (by omega), pk_un (by omega), cp_out (by omega)]
/-- what a surrender would take (class) -/
def ztu (μ : Nat → Int32) (f v : Nat) : Int32 := zmin (μ 2458) (μ (32 * f + v + 7))
def ctv (μ : Nat → Int32) (f v : Nat) : Nat → Int32 :=
  if ztu μ f v = 0 then upd μ (v + 2460) (ztu μ f v)
  else if μ 2456 = 0 then upd (upd (upd (upd (upd μ (v + 2460) (ztu μ f v)) 2457 (nI v)) 2456 (μ 2456 + nI 1)) 2455 (μ 2455 + ztu μ f v)) 2458 (μ 2458 - ztu μ f v)
  else upd (upd (upd (upd μ (v + 2460) (ztu μ f v)) 2456 (μ 2456 + nI 1)) 2455 (μ 2455 + ztu μ f v)) 2458 (μ 2458 - ztu μ f v)
def clv (μ : Nat → Int32) (f w : Nat) : Nat → (Nat → Int32)
  | 0 => μ
  | i + 1 => ctv (clv μ f w i) f (if w = 1 then 19 - i else i)
def zcu (μ : Nat → Int32) (f g : Nat) (lim : Int32) : Int32 := zmin (μ (32 * f + g + 27)) (zmax (nI 0) (μ (32 * f + 35) * lim / nI 100 - μ (32 * f + g + 30)))
def cgx (μ : Nat → Int32) (f w g : Nat) : Int32 := zmin (μ 2458) (if w = 2 then zcu μ f g (μ (g + 2)) else nI 0)
def cgm (μ : Nat → Int32) (f w g : Nat) : Nat → Int32 := upd (upd μ (g + 2480) (cgx μ f w g)) 2458 (μ 2458 - cgx μ f w g)
def clay (μ : Nat → Int32) (f : Nat) (t : Int32) (w : Nat) : Nat → Int32 := clv (cgm (cgm (cgm (upd (upd (upd (upd μ 2458 t) 2455 (nI 0)) 2456 (nI 0)) 2457 (-5)) f w 2) f w 1) f w 0) f w 20
def csv (μ : Nat → Int32) (f : Nat) : Nat → (Nat → Int32)
  | 0 => μ
  | i + 1 => upd (upd (csv μ f i) (32 * f + i + 7) (csv μ f i (32 * f + i + 7) - csv μ f i (i + 2460))) (i + 283) (csv μ f i (i + 283) + csv μ f i (i + 2460))
def csg (μ : Nat → Int32) (f : Nat) : Nat → (Nat → Int32)
  | 0 => μ
  | i + 1 => upd (upd (upd (csg μ f i) (32 * f + i + 27) (csg μ f i (32 * f + i + 27) - csg μ f i (i + 2480))) (32 * f + i + 30) (csg μ f i (32 * f + i + 30) + csg μ f i (i + 2480))) (i + 346) (csg μ f i (i + 346) + csg μ f i (i + 2480))
theorem ctv_lo {μ : Nat → Int32} {f v p : Nat} (h : p < 2455) : ctv μ f v p = μ p := by
  unfold ctv
  split
  · rw [pk_un (by omega)]
  · split
    · rw [pk_un (by omega), pk_un (by omega), pk_un (by omega), pk_un (by omega), pk_un (by omega)]
    · rw [pk_un (by omega), pk_un (by omega), pk_un (by omega), pk_un (by omega)]
theorem clv_lo {μ : Nat → Int32} {f w p : Nat} (h : p < 2455) : ∀ n, clv μ f w n p = μ p
  | 0 => rfl
  | n + 1 => (ctv_lo h).trans (clv_lo h n)
theorem cgm_lo {μ : Nat → Int32} {f w g p : Nat} (h : p < 2455) : cgm μ f w g p = μ p := by
  unfold cgm
  rw [pk_un (by omega), pk_un (by omega)]
theorem clay_lo {μ : Nat → Int32} {f w p : Nat} {t : Int32} (h : p < 2455) : clay μ f t w p = μ p := by
  unfold clay
  rw [clv_lo h, cgm_lo h, cgm_lo h, cgm_lo h, pk_un (by omega), pk_un (by omega), pk_un (by omega), pk_un (by omega)]
def zsdC (μ : Nat → Int32) (f : Nat) : Nat → Int32
  | 0 => zsum (fun v => μ (32 * f + v + 7)) 20
  | g + 1 => zsdC μ f g + zcu μ f g (μ (g + 2))
/-- the firm at a place (class) -/
def zmoC (g : Nat → Int32) (v b y m : Nat) : Int32 := if zcnt g 8 = 0 then -5 else nI (12 * (max (v + b) y + 1)) - nI m
