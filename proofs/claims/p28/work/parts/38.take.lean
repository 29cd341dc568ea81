/-! a surrender, place by place -/
theorem csv_at {M : Nat → Int32} {f : Nat} (hf : f < 8) : ∀ n, n ≤ 20 → (∀ v, v < n → csv M f n (32 * f + v + 7) = M (32 * f + v + 7) - M (v + 2460)) ∧ (∀ v, v < n → csv M f n (v + 283) = M (v + 283) + M (v + 2460)) ∧ ∀ x, (∀ v, v < n → x ≠ 32 * f + v + 7 ∧ x ≠ v + 283) → csv M f n x = M x
  | 0, _ => ⟨fun v hv => absurd hv (Nat.not_lt_zero v), fun v hv => absurd hv (Nat.not_lt_zero v), fun _ _ => rfl⟩
  | n + 1, hn => by
    obtain ⟨i1, i2, i3⟩ := csv_at (M := M) hf n (by omega)
    have e1 : csv M f n (n + 2460) = M (n + 2460) := i3 _ (fun v hv => ⟨by omega, by omega⟩)
    have e2 : csv M f n (32 * f + n + 7) = M (32 * f + n + 7) := i3 _ (fun v hv => ⟨by omega, by omega⟩)
    have e3 : csv M f n (n + 283) = M (n + 283) := i3 _ (fun v hv => ⟨by omega, by omega⟩)
    have u : csv M f (n + 1) = upd (upd (csv M f n) (32 * f + n + 7) (M (32 * f + n + 7) - M (n + 2460))) (n + 283) (M (n + 283) + M (n + 2460)) := by
      show upd (upd (csv M f n) (32 * f + n + 7) (csv M f n (32 * f + n + 7) - csv M f n (n + 2460))) (n + 283) (csv M f n (n + 283) + csv M f n (n + 2460)) = _
      rw [e1, e2, e3]
    rw [u]
    refine ⟨fun v hv => ?_, fun v hv => ?_, fun x hx => ?_⟩
    · by_cases e : v = n
      · subst e; rw [pk_un (by omega), pk_us]
      · rw [pk_un (by omega), pk_un (by omega)]; exact i1 v (by omega)
    · by_cases e : v = n
      · subst e; rw [pk_us]
      · rw [pk_un (by omega), pk_un (by omega)]; exact i2 v (by omega)
    · have := hx n (by omega)
      rw [pk_un this.2, pk_un this.1]
      exact i3 x (fun v hv => hx v (by omega))
theorem csg_at {M : Nat → Int32} {f : Nat} (hf : f < 8) : ∀ n, n ≤ 3 → (∀ v, v < n → csg M f n (32 * f + v + 27) = M (32 * f + v + 27) - M (v + 2480)) ∧ (∀ v, v < n → csg M f n (32 * f + v + 30) = M (32 * f + v + 30) + M (v + 2480)) ∧ (∀ v, v < n → csg M f n (v + 346) = M (v + 346) + M (v + 2480)) ∧ ∀ x, (∀ v, v < n → x ≠ 32 * f + v + 27 ∧ x ≠ 32 * f + v + 30 ∧ x ≠ v + 346) → csg M f n x = M x
  | 0, _ => ⟨fun v hv => absurd hv (Nat.not_lt_zero v), fun v hv => absurd hv (Nat.not_lt_zero v), fun v hv => absurd hv (Nat.not_lt_zero v), fun _ _ => rfl⟩
  | n + 1, hn => by
    obtain ⟨i1, i2, i3, i4⟩ := csg_at (M := M) hf n (by omega)
    have e1 : csg M f n (n + 2480) = M (n + 2480) := i4 _ (fun v hv => ⟨by omega, by omega, by omega⟩)
    have e2 : csg M f n (32 * f + n + 27) = M (32 * f + n + 27) := i4 _ (fun v hv => ⟨by omega, by omega, by omega⟩)
    have e3 : csg M f n (32 * f + n + 30) = M (32 * f + n + 30) := i4 _ (fun v hv => ⟨by omega, by omega, by omega⟩)
    have e4 : csg M f n (n + 346) = M (n + 346) := i4 _ (fun v hv => ⟨by omega, by omega, by omega⟩)
    have u : csg M f (n + 1) = upd (upd (upd (csg M f n) (32 * f + n + 27) (M (32 * f + n + 27) - M (n + 2480))) (32 * f + n + 30) (M (32 * f + n + 30) + M (n + 2480))) (n + 346) (M (n + 346) + M (n + 2480)) := by
      show upd (upd (upd (csg M f n) (32 * f + n + 27) (csg M f n (32 * f + n + 27) - csg M f n (n + 2480))) (32 * f + n + 30) (csg M f n (32 * f + n + 30) + csg M f n (n + 2480))) (n + 346) (csg M f n (n + 346) + csg M f n (n + 2480)) = _
      rw [e1, e2, e3, e4]
    rw [u]
    refine ⟨fun v hv => ?_, fun v hv => ?_, fun v hv => ?_, fun x hx => ?_⟩
    · by_cases e : v = n
      · subst e; rw [pk_un (by omega), pk_un (by omega), pk_us]
      · rw [pk_un (by omega), pk_un (by omega), pk_un (by omega)]; exact i1 v (by omega)
    · by_cases e : v = n
      · subst e; rw [pk_un (by omega), pk_us]
      · rw [pk_un (by omega), pk_un (by omega), pk_un (by omega)]; exact i2 v (by omega)
    · by_cases e : v = n
      · subst e; rw [pk_us]
      · rw [pk_un (by omega), pk_un (by omega), pk_un (by omega)]; exact i3 v (by omega)
    · have := hx n (by omega)
      rw [pk_un this.2.2, pk_un this.2.1, pk_un this.1]
      exact i4 x (fun v hv => hx v (by omega))
def srM (Z : Nat → Int32) (f t : Nat) : Nat → Int32 := upd (upd (csg (csv Z f 20) f 3) (32 * f + 36) ((csg (csv Z f 20) f 3) (32 * f + 36) - nI t)) (32 * f + 37) ((csg (csv Z f 20) f 3) (32 * f + 37) + nI t)
theorem srM_at {Z : Nat → Int32} {f t : Nat} (hf : f < 8) : (∀ v, v < 20 → srM Z f t (32 * f + v + 7) = Z (32 * f + v + 7) - Z (v + 2460)) ∧ (∀ v, v < 20 → srM Z f t (v + 283) = Z (v + 283) + Z (v + 2460)) ∧ (∀ g, g < 3 → srM Z f t (32 * f + g + 27) = Z (32 * f + g + 27) - Z (g + 2480)) ∧ (∀ g, g < 3 → srM Z f t (32 * f + g + 30) = Z (32 * f + g + 30) + Z (g + 2480)) ∧ (∀ g, g < 3 → srM Z f t (g + 346) = Z (g + 346) + Z (g + 2480)) ∧ srM Z f t (32 * f + 36) = Z (32 * f + 36) - nI t ∧ srM Z f t (32 * f + 37) = Z (32 * f + 37) + nI t ∧ ∀ x, (x < 32 * f + 7 ∨ 32 * f + 38 ≤ x ∨ (32 * f + 33 ≤ x ∧ x ≤ 32 * f + 35)) → (x < 283 ∨ 303 ≤ x) → (x < 346 ∨ 349 ≤ x) → srM Z f t x = Z x := by
  obtain ⟨a1, a2, a3⟩ := csv_at (M := Z) hf 20 (Nat.le_refl 20)
  obtain ⟨b1, b2, b3, b4⟩ := csg_at (M := csv Z f 20) hf 3 (Nat.le_refl 3)
  have o : ∀ x, (∀ v, v < 20 → x ≠ 32 * f + v + 7 ∧ x ≠ v + 283) → (∀ v, v < 3 → x ≠ 32 * f + v + 27 ∧ x ≠ 32 * f + v + 30 ∧ x ≠ v + 346) → csg (csv Z f 20) f 3 x = Z x := fun x h1 h2 => (b4 x h2).trans (a3 x h1)
  have eg : ∀ g, g < 3 → csv Z f 20 (g + 2480) = Z (g + 2480) := fun g hg => a3 _ (fun v hv => ⟨by omega, by omega⟩)
  unfold srM
  refine ⟨fun v hv => ?_, fun v hv => ?_, fun g hg => ?_, fun g hg => ?_, fun g hg => ?_, ?_, ?_, fun x h1 h2 h3 => ?_⟩
  · rw [pk_un (by omega), pk_un (by omega), b4 _ (fun v hv => ⟨by omega, by omega, by omega⟩)]; exact a1 v hv
  · rw [pk_un (by omega), pk_un (by omega), b4 _ (fun v hv => ⟨by omega, by omega, by omega⟩)]; exact a2 v hv
  · rw [pk_un (by omega), pk_un (by omega), b1 g hg, eg g hg, a3 _ (fun v hv => ⟨by omega, by omega⟩)]
  · rw [pk_un (by omega), pk_un (by omega), b2 g hg, eg g hg, a3 _ (fun v hv => ⟨by omega, by omega⟩)]
  · rw [pk_un (by omega), pk_un (by omega), b3 g hg, eg g hg, a3 _ (fun v hv => ⟨by omega, by omega⟩)]
  · rw [pk_un (by omega), pk_us, o _ (fun v hv => ⟨by omega, by omega⟩) (fun v hv => ⟨by omega, by omega, by omega⟩)]
  · rw [pk_us, o _ (fun v hv => ⟨by omega, by omega⟩) (fun v hv => ⟨by omega, by omega, by omega⟩)]
  · rw [pk_un (by omega), pk_un (by omega)]
    exact o x (fun v hv => ⟨by omega, by omega⟩) (fun v hv => ⟨by omega, by omega, by omega⟩)
/-- u is g behind a surrender of t tonnes by the firm f: T of the vintages, O of the grades -/
def SUR (g u T O : Nat → Int32) (f : Nat) (t : Int32) : Prop := (∀ v, v < 20 → u (32 * f + v + 7) = g (32 * f + v + 7) - T v) ∧ (∀ v, v < 20 → u (v + 283) = g (v + 283) + T v) ∧ (∀ k, k < 3 → u (32 * f + k + 27) = g (32 * f + k + 27) - O k) ∧ (∀ k, k < 3 → u (32 * f + k + 30) = g (32 * f + k + 30) + O k) ∧ (∀ k, k < 3 → u (k + 346) = g (k + 346) + O k) ∧ u (32 * f + 36) = g (32 * f + 36) - t ∧ u (32 * f + 37) = g (32 * f + 37) + t ∧ ∀ x, x < 346 → (x < 32 * f + 7 ∨ 32 * f + 38 ≤ x ∨ (32 * f + 33 ≤ x ∧ x ≤ 32 * f + 35)) → (x < 283 ∨ 303 ≤ x) → u x = g x
theorem SND_sur {g u T O : Nat → Int32} {f m : Nat} {t : Int32} (h : SND g m) (hf : f < 8) (q : SUR g u T O f t) (ht : t = zsum T 20 + zsum O 3) (hdue : inr (u (32 * f + 36)) (10999 * (m / 12))) (hused : ∀ k, k < 3 → inr (u (32 * f + k + 30)) 10999) : SND u m := by
  obtain ⟨q1, q2, q3, q4, q5, q6, q7, e⟩ := q
  obtain ⟨k1, k2, k3, k4, k5, k6⟩ := h
  refine ⟨fun v hv => ?_, fun v hv hv2 => ?_, fun k hk => ?_, ?_, fun p hp => ?_, k6.cong (fun k hk => e _ (by omega) (by omega) (by omega)) (e 6 (by omega) (by omega) (by omega))⟩
  · rw [e (v + 263) (by omega) (by omega) (by omega), k1 v hv, q2 v hv, e (v + 303) (by omega) (by omega) (by omega), e (v + 323) (by omega) (by omega) (by omega), zsum_at (G := fun i => g (32 * i + v + 7)) (G' := fun i => u (32 * i + v + 7)) hf (fun i hi hne => e _ (by omega) (by omega) (by omega)), q1 v hv]
    grind
  · rw [e (v + 263) (by omega) (by omega) (by omega)]
    exact k2 v hv hv2
  · rw [e (k + 343) (by omega) (by omega) (by omega), k3 k hk, q5 k hk, zsum_at (G := fun i => g (32 * i + k + 27)) (G' := fun i => u (32 * i + k + 27)) hf (fun i hi hne => e _ (by omega) (by omega) (by omega)), q3 k hk]
    grind
  · unfold SD at k4 ⊢
    rw [zsum_at (G := fun i => g (32 * i + 37)) (G' := fun i => u (32 * i + 37)) hf (fun i hi hne => e _ (by omega) (by omega) (by omega)), q7, k4, zsum_cong (g := fun v => u (v + 283)) (g' := fun v => g (v + 283) + T v) q2, zsum_cong (g := fun k => u (k + 346)) (g' := fun k => g (k + 346) + O k) q5, zsum_add, zsum_add, ht]
    grind
  · by_cases w : p = f
    · subst w
      exact ⟨by rw [e _ (by omega) (by omega) (by omega)]; exact (k5 p hp).1, hdue, hused⟩
    · obtain ⟨j1, j2, j3⟩ := k5 p hp
      exact ⟨by rw [e _ (by omega) (by omega) (by omega)]; exact j1, by rw [e _ (by omega) (by omega) (by omega)]; exact j2, fun k hk => by rw [e _ (by omega) (by omega) (by omega)]; exact j3 k hk⟩
theorem zmax_sub {L U : Nat} (hL : L < 2 ^ 30) (hU : U < 2 ^ 30) : zmax (nI 0) (nI L - nI U) = nI (L - U) := by
  unfold zmax
  by_cases h : U ≤ L
  · rw [pk_sub h]
    by_cases q : L - U = 0
    · rw [q, if_neg (nI_nlt (Nat.le_refl 0) (by omega))]
    · rw [if_pos (nI_lt (by omega) (by omega))]
  · have := pk_sneg (a := L) (b := U) hU (by omega)
    rw [if_neg (fun z => by rw [nI_0] at z; rw [Int32.lt_iff_toInt_lt] at z this; omega), show L - U = 0 by omega]
theorem lim_in {b l : Int32} (hb : inr b 10999) (hl : inr l 100) : ∃ L, L ≤ 10999 ∧ b * l / nI 100 = nI L := by
  obtain ⟨i, e1, e2, _⟩ := inr_nat hb.1
  obtain ⟨j, e3, e4, _⟩ := inr_nat hl.1
  have hi : i ≤ 10999 := by have := hb.2; omega
  have hj : j ≤ 100 := by have := hl.2; omega
  have hij := Nat.mul_le_mul hi hj
  exact ⟨i * j / 100, by omega, by rw [e1, e3, pk_mul, pk_div (by omega) (by omega) (by omega)]⟩
theorem tak_nat {o : Int32} {n : Nat} (h : tak o (nI n)) (hn : n < 2 ^ 31) : ∃ q, q ≤ n ∧ o = nI q := by
  obtain ⟨q, e1, e2, e3⟩ := inr_nat h.1
  refine ⟨q, ?_, e1⟩
  have := h.2
  rw [Int32.le_iff_toInt_le, nI_toInt hn] at this
  omega
/-- what may be used behind a taking -/
theorem zcu_take {a b l us o : Int32} (ha : 0 ≤ a.toInt) (hb : inr b 10999) (hl : inr l 100) (hu : inr us 10999) (ho : tak o (zmin a (zmax (nI 0) (b * l / nI 100 - us)))) : zmin (a - o) (zmax (nI 0) (b * l / nI 100 - (us + o))) = zmin a (zmax (nI 0) (b * l / nI 100 - us)) - o ∧ inr (us + o) 10999 := by
  obtain ⟨L, hL, eL⟩ := lim_in hb hl
  obtain ⟨i, e1, e2, hi⟩ := inr_nat ha
  obtain ⟨U, e3, e4, hU⟩ := inr_nat hu.1
  have hU2 : U ≤ 10999 := by have := hu.2; omega
  rw [eL, e3, zmax_sub (by omega) (by omega), e1, zmin_nI hi (by omega)] at ho
  obtain ⟨q, hq, eq⟩ := tak_nat ho (by omega)
  rw [eL, e3, e1, eq, nI_add, zmax_sub (by omega) (by omega), zmax_sub (by omega) (by omega), zmin_nI hi (by omega), pk_sub (by omega), zmin_nI (by omega) (by omega), pk_sub hq]
  refine ⟨congrArg nI (by omega), ?_⟩
  rw [inr, nI_toInt (by omega)]
  omega
theorem tak_0 {o : Int32} (h : tak o (nI 0)) : o = nI 0 := by
  obtain ⟨q, hq, e⟩ := tak_nat h (by omega)
  rw [e, show q = 0 by omega]
theorem tak_le {o x y : Int32} (h : tak o x) (hxy : x ≤ y) : tak o y := ⟨h.1, by have := h.2; rw [Int32.le_iff_toInt_le] at this hxy ⊢; omega⟩
