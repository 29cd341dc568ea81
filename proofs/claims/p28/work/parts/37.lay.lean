/-! what a surrender would take, place by place -/
theorem ctv_at {M : Nat → Int32} {f v : Nat} (hv : v < 20) : ctv M f v (v + 2460) = ztu M f v ∧ ctv M f v 2458 = M 2458 - ztu M f v ∧ ctv M f v 2455 = M 2455 + ztu M f v ∧ ctv M f v 2456 = (if ztu M f v = 0 then M 2456 else M 2456 + nI 1) ∧ ctv M f v 2457 = (if ztu M f v = 0 then M 2457 else if M 2456 = 0 then nI v else M 2457) ∧ ∀ x, x ≠ v + 2460 → x ≠ 2455 → x ≠ 2456 → x ≠ 2457 → x ≠ 2458 → ctv M f v x = M x := by
  unfold ctv
  by_cases h : ztu M f v = 0
  · simp only [if_pos h]
    refine ⟨pk_us, ?_, ?_, ?_, ?_, fun x h1 _ _ _ _ => pk_un h1⟩
    · rw [pk_un (by omega), h]; exact (Int32.sub_zero _).symm
    · rw [pk_un (by omega), h]; exact (Int32.add_zero _).symm
    · rw [pk_un (by omega)]
    · rw [pk_un (by omega)]
  · simp only [if_neg h]
    by_cases h2 : M 2456 = 0
    · simp only [if_pos h2]
      refine ⟨?_, pk_us, ?_, ?_, ?_, fun x h1 h2 h3 h4 h5 => ?_⟩
      · rw [pk_un (by omega), pk_un (by omega), pk_un (by omega), pk_un (by omega), pk_us]
      · rw [pk_un (by omega), pk_us]
      · rw [pk_un (by omega), pk_un (by omega), pk_us]
      · rw [pk_un (by omega), pk_un (by omega), pk_un (by omega), pk_us]
      · rw [pk_un (by omega), pk_un (by omega), pk_un (by omega), pk_un (by omega), pk_un (by omega)]
    · simp only [if_neg h2]
      refine ⟨?_, pk_us, ?_, ?_, ?_, fun x h1 h2 h3 h4 h5 => ?_⟩
      · rw [pk_un (by omega), pk_un (by omega), pk_un (by omega), pk_us]
      · rw [pk_un (by omega), pk_us]
      · rw [pk_un (by omega), pk_un (by omega), pk_us]
      · rw [pk_un (by omega), pk_un (by omega), pk_un (by omega), pk_un (by omega)]
      · rw [pk_un (by omega), pk_un (by omega), pk_un (by omega), pk_un (by omega)]
def tkn (M : Nat → Int32) (w j : Nat) : Int32 := M (lix w j + 2460)
def hld (μ : Nat → Int32) (f w j : Nat) : Int32 := μ (32 * f + lix w j + 7)
def cI (w i : Nat) (μ M : Nat → Int32) (f : Nat) (X : Int32) (O : Nat → Int32) : Prop :=
  hM μ M ∧ (∃ k, k ≤ 9999 ∧ M 2458 = nI k ∧ (0 < k → ∀ j, j < i → tkn M w j = hld μ f w j)) ∧ M 2458 = X - zsum (tkn M w) i ∧ M 2455 = zsum (tkn M w) i ∧ M 2456 = nI (zcnt (tkn M w) i) ∧
  ((zcnt (tkn M w) i = 0 ∧ M 2457 = -5) ∨ (0 < zcnt (tkn M w) i ∧ ∃ j0, j0 < i ∧ M 2457 = nI (lix w j0) ∧ ¬ hld μ f w j0 ≤ 0 ∧ ∀ j, j < j0 → hld μ f w j ≤ 0)) ∧
  (∀ j, j < i → tak (tkn M w j) (hld μ f w j)) ∧ ∀ g, g < 3 → M (g + 2480) = O g
theorem zcnt_0 {g : Nat → Int32} : ∀ {n : Nat}, zcnt g n = 0 → ∀ i, i < n → g i ≤ 0
  | 0, _, i, hi => absurd hi (Nat.not_lt_zero i)
  | n + 1, h, i, hi => by
    simp only [zcnt] at h
    by_cases q : g n ≤ 0
    · rw [if_pos q] at h
      by_cases e : i = n
      · subst e; exact q
      · exact zcnt_0 (n := n) (by omega) i (by omega)
    · rw [if_neg q] at h; omega
theorem le0_of {x : Int32} (h0 : 0 ≤ x.toInt) (h : x ≤ 0) : x = 0 := by
  rw [Int32.le_iff_toInt_le] at h
  exact Int32.toInt_inj.mp (by have : (0 : Int32).toInt = 0 := rfl
                               omega)
theorem cI_step {w i : Nat} {μ M : Nat → Int32} {f : Nat} {X : Int32} {O : Nat → Int32} (h : cI w i μ M f X O) (hi : i < 20) (hf : f < 8) (hh : ∀ v, v < 20 → 0 ≤ (μ (32 * f + v + 7)).toInt) : cI w (i + 1) μ (ctv M f (lix w i)) f X O := by
  obtain ⟨h1, ⟨k, hk, k1, k2⟩, h3, h4, h5, h6, h7, h8⟩ := h
  have hv := lix_lt (w := w) hi
  obtain ⟨c1, c2, c3, c4, c5, c6⟩ := ctv_at (M := M) (f := f) hv
  have eh : M (32 * f + lix w i + 7) = hld μ f w i := h1 _ (by omega)
  obtain ⟨j, ej, _, hj⟩ := inr_nat (hh (lix w i) hv)
  have ej : hld μ f w i = nI j := ej
  have ex : ztu M f (lix w i) = nI (min k j) := by unfold ztu; rw [k1, eh, ej, zmin_nI (by omega) hj]
  rw [ex] at c1 c2 c3 c4 c5
  have hmk : min k j ≤ k := Nat.min_le_left k j
  have ez : (nI (min k j) = 0) ↔ min k j = 0 := ⟨fun q => by rw [← nI_0] at q; exact (nI_eq (by omega) (by omega)).mp q, fun q => by rw [q]; exact nI_0⟩
  have old : ∀ q, q < i → tkn (ctv M f (lix w i)) w q = tkn M w q := fun q hq => c6 _ (by have := lix_ne (w := w) hi hq; omega) (by omega) (by omega) (by omega) (by omega)
  have new : tkn (ctv M f (lix w i)) w i = nI (min k j) := c1
  have es : zsum (tkn (ctv M f (lix w i)) w) (i + 1) = zsum (tkn M w) i + nI (min k j) := by
    simp only [zsum]
    rw [zsum_cong old, new]
  have ec : zcnt (tkn (ctv M f (lix w i)) w) (i + 1) = zcnt (tkn M w) i + (if min k j = 0 then 0 else 1) := by
    simp only [zcnt]
    rw [zcnt_cong old, new]
    by_cases q : min k j = 0
    · rw [if_pos q, if_pos (by rw [q, nI_0]; exact Int32.le_refl _)]
    · rw [if_neg q, if_neg (nI_nle (by omega) (by omega))]
  refine ⟨fun x hx => ?_, ⟨k - min k j, by omega, by rw [c2, k1, pk_sub hmk], fun hpos q hq => ?_⟩, ?_, by rw [c3, h4, es], ?_, ?_, fun q hq => ?_, fun g hg => ?_⟩
  · rw [c6 x (by omega) (by omega) (by omega) (by omega) (by omega)]
    exact h1 x hx
  · by_cases e : q = i
    · subst e
      rw [new, ej]
      exact congrArg nI (Nat.min_eq_right (Nat.le_of_not_lt (fun z => by rw [Nat.min_eq_left (Nat.le_of_lt z), Nat.sub_self] at hpos; exact Nat.lt_irrefl 0 hpos)))
    · rw [old q (by omega)]
      exact k2 (by omega) q (by omega)
  · rw [c2, h3, es]; grind
  · rw [c4, ec]
    by_cases q : min k j = 0
    · rw [if_pos (ez.mpr q), if_pos q, h5, Nat.add_zero]
    · rw [if_neg (fun z => q (ez.mp z)), if_neg q, h5, nI_add]
  · rw [c5, ec]
    by_cases q : min k j = 0
    · rw [if_pos (ez.mpr q), if_pos q, Nat.add_zero]
      rcases h6 with ⟨a1, a2⟩ | ⟨a1, j0, a2, a3, a4, a5⟩
      · exact Or.inl ⟨a1, a2⟩
      · exact Or.inr ⟨a1, j0, by omega, a3, a4, a5⟩
    · rw [if_neg (fun z => q (ez.mp z)), if_neg q]
      refine Or.inr ⟨by omega, ?_⟩
      rcases h6 with ⟨a1, a2⟩ | ⟨a1, j0, a2, a3, a4, a5⟩
      · rw [if_pos (by rw [h5, a1, nI_0])]
        refine ⟨i, by omega, rfl, by rw [ej]; exact nI_nle (by omega) hj, fun q hq => ?_⟩
        rw [← k2 (by omega) q hq]
        exact zcnt_0 a1 q hq
      · have hz : zcnt (tkn M w) i ≤ i := zcnt_le _ i
        rw [if_neg (by rw [h5]; exact nI_ne0 (by omega) (by omega))]
        exact ⟨j0, by omega, a3, a4, a5⟩
  · by_cases e : q = i
    · subst e
      rw [new, ej]
      exact ⟨nI_ge0 (by omega), nI_le (Nat.min_le_right k j) hj⟩
    · rw [old q (by omega)]
      exact h7 q (by omega)
  · rw [c6 _ (by omega) (by omega) (by omega) (by omega) (by omega)]
    exact h8 g hg
/-- the offsets, grade 2 first -/
def oI (g0 w : Nat) (μ M : Nat → Int32) (f t : Nat) : Prop :=
  hM μ M ∧ (∃ k, k ≤ 9999 ∧ M 2458 = nI k) ∧ M 2455 = nI 0 ∧ M 2456 = nI 0 ∧ M 2457 = -5 ∧
  (∀ g, g0 ≤ g → g < 3 → tak (M (g + 2480)) (if w = 2 then zcu μ f g (μ (g + 2)) else nI 0)) ∧ M 2458 = nI t - zsum (fun i => M (2 - i + 2480)) (3 - g0)
theorem zcu_in {μ : Nat → Int32} {f g : Nat} {lim : Int32} (h : 0 ≤ (μ (32 * f + g + 27)).toInt) : 0 ≤ (zcu μ f g lim).toInt ∧ zcu μ f g lim ≤ μ (32 * f + g + 27) ∧ zcu μ f g lim ≤ zmax (nI 0) (μ (32 * f + 35) * lim / nI 100 - μ (32 * f + g + 30)) := by
  unfold zcu
  generalize hy : zmax (nI 0) (μ (32 * f + 35) * lim / nI 100 - μ (32 * f + g + 30)) = y
  have y0 : 0 ≤ y.toInt := by
    rw [← hy]
    unfold zmax
    have z0 : (nI 0).toInt = 0 := nI_toInt (by omega)
    split
    · next q => rw [Int32.lt_iff_toInt_lt] at q; omega
    · omega
  unfold zmin
  split
  · next q => exact ⟨h, Int32.le_refl _, by rw [Int32.lt_iff_toInt_lt] at q; rw [Int32.le_iff_toInt_le]; omega⟩
  · next q => exact ⟨y0, by rw [Int32.lt_iff_toInt_lt] at q; rw [Int32.le_iff_toInt_le]; omega, Int32.le_refl _⟩
theorem oI_step {g0 w : Nat} {μ M : Nat → Int32} {f t : Nat} (h : oI (g0 + 1) w μ M f t) (hg : g0 < 3) (hf : f < 8) (hh : 0 ≤ (μ (32 * f + g0 + 27)).toInt) : oI g0 w μ (cgm M f w g0) f t := by
  obtain ⟨h1, ⟨k, hk, k1⟩, h3, h4, h5, h6, h7⟩ := h
  have ecu : zcu M f g0 (M (g0 + 2)) = zcu μ f g0 (μ (g0 + 2)) := by
    unfold zcu
    rw [h1 (32 * f + g0 + 27) (by omega), h1 (32 * f + 35) (by omega), h1 (g0 + 2) (by omega), h1 (32 * f + g0 + 30) (by omega)]
  have hc : 0 ≤ (if w = 2 then zcu μ f g0 (μ (g0 + 2)) else nI 0).toInt := by
    split
    · exact (zcu_in hh).1
    · exact nI_ge0 (by omega)
  obtain ⟨j, ej, _, hj⟩ := inr_nat hc
  have ex : cgx M f w g0 = nI (min k j) := by unfold cgx; rw [ecu, k1, ej, zmin_nI (by omega) hj]
  have hmk : min k j ≤ k := Nat.min_le_left k j
  unfold cgm
  rw [ex, k1, pk_sub hmk]
  refine ⟨fun x hx => ?_, ⟨k - min k j, by omega, pk_us⟩, ?_, ?_, ?_, fun g hg1 hg2 => ?_, ?_⟩
  · rw [pk_un (by omega), pk_un (by omega)]; exact h1 x hx
  · rw [pk_un (by omega), pk_un (by omega)]; exact h3
  · rw [pk_un (by omega), pk_un (by omega)]; exact h4
  · rw [pk_un (by omega), pk_un (by omega)]; exact h5
  · rw [pk_un (by omega)]
    by_cases e : g = g0
    · subst e
      rw [pk_us, ej]
      exact ⟨nI_ge0 (by omega), nI_le (Nat.min_le_right k j) hj⟩
    · rw [pk_un (by omega)]
      exact h6 g (by omega) hg2
  · have key : nI (k - min k j) = nI t - zsum (fun i => M (2 - i + 2480)) (3 - (g0 + 1)) - nI (min k j) := by rw [← pk_sub hmk, ← k1, h7]
    rw [pk_us, show 3 - g0 = (3 - (g0 + 1)) + 1 by omega]
    simp only [zsum]
    rw [zsum_cong (n := 3 - (g0 + 1)) (g := fun i => upd (upd M (g0 + 2480) (nI (min k j))) 2458 (nI (k - min k j)) (2 - i + 2480)) (g' := fun i => M (2 - i + 2480)) (fun i hi => by rw [pk_un (by omega), pk_un (by omega)]), pk_un (by omega), show 2 - (3 - (g0 + 1)) + 2480 = g0 + 2480 by omega, pk_us, key]
    grind
theorem clay_cI {μ : Nat → Int32} {f t w : Nat} (hf : f < 8) (ht : t ≤ 9999) (hh : ∀ y, y < 23 → 0 ≤ (μ (32 * f + y + 7)).toInt) : ∃ O : Nat → Int32, (∀ g, g < 3 → tak (O g) (if w = 2 then zcu μ f g (μ (g + 2)) else nI 0)) ∧ cI w 20 μ (clay μ f (nI t) w) f (nI t - zsum O 3) O := by
  have hh' : ∀ g, g < 3 → 0 ≤ (μ (32 * f + g + 27)).toInt := fun g hg => by
    have := hh (g + 20) (by omega)
    rw [show 32 * f + (g + 20) + 7 = 32 * f + g + 27 by omega] at this
    exact this
  have o3 : oI 3 w μ (upd (upd (upd (upd μ 2458 (nI t)) 2455 (nI 0)) 2456 (nI 0)) 2457 (-5)) f t := by
    refine ⟨fun x hx => by rw [pk_un (by omega), pk_un (by omega), pk_un (by omega), pk_un (by omega)], ⟨t, ht, ?_⟩, ?_, ?_, pk_us, fun g h1 h2 => absurd h2 (by omega), ?_⟩
    · rw [pk_un (by omega), pk_un (by omega), pk_un (by omega), pk_us]
    · rw [pk_un (by omega), pk_un (by omega), pk_us]
    · rw [pk_un (by omega), pk_us]
    · rw [pk_un (by omega), pk_un (by omega), pk_un (by omega), pk_us]
      show nI t = nI t - nI 0
      rw [nI_0]; exact (Int32.sub_zero _).symm
  have o0 := oI_step (oI_step (oI_step o3 (by omega) hf (hh' 2 (by omega))) (by omega) hf (hh' 1 (by omega))) (by omega) hf (hh' 0 (by omega))
  unfold clay
  generalize cgm (cgm (cgm (upd (upd (upd (upd μ 2458 (nI t)) 2455 (nI 0)) 2456 (nI 0)) 2457 (-5)) f w 2) f w 1) f w 0 = M at o0 ⊢
  obtain ⟨h1, ⟨k, hk, k1⟩, h3, h4, h5, h6, h7⟩ := o0
  have e3 : zsum (fun i => M (2 - i + 2480)) 3 = zsum (fun g => M (g + 2480)) 3 := by
    show nI 0 + M 2482 + M 2481 + M 2480 = nI 0 + M 2480 + M 2481 + M 2482
    grind
  refine ⟨fun g => M (g + 2480), fun g hg => h6 g (by omega) hg, ?_⟩
  have c0 : cI w 0 μ M f (nI t - zsum (fun g => M (g + 2480)) 3) (fun g => M (g + 2480)) := by
    refine ⟨h1, ⟨k, hk, k1, fun _ j hj => absurd hj (Nat.not_lt_zero j)⟩, ?_, h3, h4, Or.inl ⟨rfl, h5⟩, fun j hj => absurd hj (Nat.not_lt_zero j), fun _ _ => rfl⟩
    rw [h7, ← e3]
    show _ = _ - nI 0
    rw [nI_0]; exact (Int32.sub_zero _).symm
  have go : ∀ i, i ≤ 20 → cI w i μ (clv M f w i) f (nI t - zsum (fun g => M (g + 2480)) 3) (fun g => M (g + 2480)) := by
    intro i
    induction i with
    | zero => exact fun _ => c0
    | succ i ih => exact fun hi => cI_step (ih (by omega)) (by omega) hf (fun v hv => hh v (by omega))
  exact go 20 (Nat.le_refl 20)
