/-! WHAT IS SOUND: sums of a row -/
theorem zsum_at {G G' : Nat → Int32} {f : Nat} : ∀ {n : Nat}, f < n → (∀ i, i < n → i ≠ f → G' i = G i) → zsum G' n = zsum G n + (G' f - G f)
  | 0, h, _ => absurd h (Nat.not_lt_zero f)
  | n + 1, hf, h => by
    simp only [zsum]
    by_cases e : f = n
    · subst e
      rw [zsum_cong (g' := G) (fun i hi => h i (by omega) (by omega))]
      grind
    · rw [zsum_at (n := n) (by omega) (fun i hi hne => h i (by omega) hne), h n (by omega) (by omega)]
      grind
theorem zsum_two {G G' : Nat → Int32} {f q n : Nat} (hf : f < n) (hq : q < n) (hne : f ≠ q) (h : ∀ i, i < n → i ≠ f → i ≠ q → G' i = G i) : zsum G' n = zsum G n + (G' f - G f) + (G' q - G q) := by
  have e1 := zsum_at (G := G) (G' := fun i => if i = f then G' f else G i) hf (fun i hi hi2 => if_neg hi2)
  have e2 := zsum_at (G := fun i => if i = f then G' f else G i) (G' := G') hq (fun i hi hi2 => by
    by_cases e : i = f
    · subst e; exact (if_pos rfl).symm
    · rw [if_neg e]; exact h i hi e hi2)
  rw [e2, e1, if_pos rfl, if_neg (Ne.symm hne)]
theorem zsum_add {G F : Nat → Int32} : ∀ n, zsum (fun i => G i + F i) n = zsum G n + zsum F n
  | 0 => by simp only [zsum]; rw [nI_0]; rfl
  | n + 1 => by
    simp only [zsum]
    rw [zsum_add n]
    grind
theorem zsum_sub {G F : Nat → Int32} : ∀ n, zsum (fun i => G i - F i) n = zsum G n - zsum F n
  | 0 => by simp only [zsum]; rw [nI_0]; rfl
  | n + 1 => by
    simp only [zsum]
    rw [zsum_sub n]
    grind
def SA (g : Nat → Int32) : Prop := ∀ v, v < 20 → g (v + 263) = zsum (fun f => g (32 * f + v + 7)) 8 + g (v + 283) + g (v + 303) + g (v + 323)
def SB (g : Nat → Int32) (m : Nat) : Prop := ∀ v, v < 20 → m / 12 < v → g (v + 263) = nI 0
def SC (g : Nat → Int32) : Prop := ∀ k, k < 3 → g (k + 343) = zsum (fun f => g (32 * f + k + 27)) 8 + g (k + 346)
def SD (g : Nat → Int32) : Prop := zsum (fun f => g (32 * f + 37)) 8 = zsum (fun v => g (v + 283)) 20 + zsum (fun k => g (k + 346)) 3
def SE (g : Nat → Int32) (m : Nat) : Prop := ∀ f, f < 8 → inr (g (32 * f + 35)) 10999 ∧ inr (g (32 * f + 36)) (10999 * (m / 12)) ∧ ∀ k, k < 3 → inr (g (32 * f + k + 30)) 10999
def SF (g : Nat → Int32) : Prop := (∀ k, k < 3 → inr (g (k + 2)) 100) ∧ inr (g 6) 99
def SND (g : Nat → Int32) (m : Nat) : Prop := SA g ∧ SB g m ∧ SC g ∧ SD g ∧ SE g m ∧ SF g
theorem SA.cong {g g' : Nat → Int32} (h : SA g) (e1 : ∀ f v, f < 8 → v < 20 → g' (32 * f + v + 7) = g (32 * f + v + 7)) (e2 : ∀ x, 263 ≤ x → x < 343 → g' x = g x) : SA g' := by
  intro v hv
  rw [e2 (v + 263) (by omega) (by omega), e2 (v + 283) (by omega) (by omega), e2 (v + 303) (by omega) (by omega), e2 (v + 323) (by omega) (by omega), zsum_cong (g' := fun f => g (32 * f + v + 7)) (fun i hi => e1 i v hi hv)]
  exact h v hv
theorem SB.cong {g g' : Nat → Int32} {m m' : Nat} (h : SB g m) (hm : m ≤ m') (e2 : ∀ x, 263 ≤ x → x < 283 → g' x = g x) : SB g' m' := by
  intro v hv hv2
  rw [e2 (v + 263) (by omega) (by omega)]
  exact h v hv (by omega)
theorem SC.cong {g g' : Nat → Int32} (h : SC g) (e1 : ∀ f k, f < 8 → k < 3 → g' (32 * f + k + 27) = g (32 * f + k + 27)) (e2 : ∀ x, 343 ≤ x → x < 349 → g' x = g x) : SC g' := by
  intro k hk
  rw [e2 (k + 343) (by omega) (by omega), e2 (k + 346) (by omega) (by omega), zsum_cong (g' := fun f => g (32 * f + k + 27)) (fun i hi => e1 i k hi hk)]
  exact h k hk
theorem SD.cong {g g' : Nat → Int32} (h : SD g) (e1 : ∀ f, f < 8 → g' (32 * f + 37) = g (32 * f + 37)) (e2 : ∀ x, 283 ≤ x → x < 303 → g' x = g x) (e3 : ∀ x, 346 ≤ x → x < 349 → g' x = g x) : SD g' := by
  unfold SD
  rw [zsum_cong (g' := fun f => g (32 * f + 37)) (fun i hi => e1 i hi), zsum_cong (g' := fun v => g (v + 283)) (fun i hi => e2 (i + 283) (by omega) (by omega)), zsum_cong (g' := fun k => g (k + 346)) (fun i hi => e3 (i + 346) (by omega) (by omega))]
  exact h
theorem SE.cong {g g' : Nat → Int32} {m m' : Nat} (h : SE g m) (hm : m ≤ m') (e1 : ∀ f, f < 8 → g' (32 * f + 35) = g (32 * f + 35) ∧ g' (32 * f + 36) = g (32 * f + 36)) (e2 : ∀ f k, f < 8 → k < 3 → g' (32 * f + k + 30) = g (32 * f + k + 30)) : SE g' m' := by
  intro f hf
  obtain ⟨h1, h2, h3⟩ := h f hf
  refine ⟨by rw [(e1 f hf).1]; exact h1, by rw [(e1 f hf).2]; exact inr_mono h2 (Nat.mul_le_mul_left _ (Nat.div_le_div_right hm)), fun k hk => by rw [e2 f k hf hk]; exact h3 k hk⟩
theorem SF.cong {g g' : Nat → Int32} (h : SF g) (e1 : ∀ k, k < 3 → g' (k + 2) = g (k + 2)) (e2 : g' 6 = g 6) : SF g' := ⟨fun k hk => by rw [e1 k hk]; exact h.1 k hk, by rw [e2]; exact h.2⟩
theorem SND.cong {g g' : Nat → Int32} {m : Nat} (h : SND g m) (e : ∀ x, x < 349 → g' x = g x) : SND g' m := by
  obtain ⟨h1, h2, h3, h4, h5, h6⟩ := h
  exact ⟨h1.cong (fun f v hf hv => e _ (by omega)) (fun x _ hx => e x (by omega)), h2.cong (Nat.le_refl m) (fun x _ hx => e x (by omega)), h3.cong (fun f v hf hv => e _ (by omega)) (fun x _ hx => e x (by omega)), h4.cong (fun f hf => e _ (by omega)) (fun x _ hx => e x (by omega)) (fun x _ hx => e x (by omega)), h5.cong (Nat.le_refl m) (fun f hf => ⟨e _ (by omega), e _ (by omega)⟩) (fun f k hf hk => e _ (by omega)), h6.cong (fun k hk => e _ (by omega)) (e 6 (by omega))⟩
/-- places that no sum speaks of -/
theorem SND.far {g g' : Nat → Int32} {m m' : Nat} (h : SND g m) (hm : m ≤ m') (e1 : ∀ f y, f < 8 → y < 31 → y ≠ 26 → y ≠ 27 → g' (32 * f + y + 7) = g (32 * f + y + 7)) (e2 : ∀ x, 263 ≤ x → x < 349 → g' x = g x) (e3 : ∀ k, k < 3 → g' (k + 2) = g (k + 2)) (e4 : g' 6 = g 6) : SND g' m' := by
  obtain ⟨h1, h2, h3, h4, h5, h6⟩ := h
  have e1' : ∀ f y p, f < 8 → y < 31 → y ≠ 26 → y ≠ 27 → p = 32 * f + y + 7 → g' p = g p := fun f y p a b c d q => by subst q; exact e1 f y a b c d
  exact ⟨h1.cong (fun f v hf hv => e1 f v hf (by omega) (by omega) (by omega)) (fun x hx1 hx => e2 x hx1 (by omega)), h2.cong hm (fun x hx1 hx => e2 x hx1 (by omega)), h3.cong (fun f k hf hk => e1' f (k + 20) _ hf (by omega) (by omega) (by omega) (by omega)) (fun x hx1 hx => e2 x (by omega) (by omega)), h4.cong (fun f hf => e1' f 30 _ hf (by omega) (by omega) (by omega) (by omega)) (fun x hx1 hx => e2 x (by omega) (by omega)) (fun x hx1 hx => e2 x (by omega) (by omega)), h5.cong hm (fun f hf => ⟨e1' f 28 _ hf (by omega) (by omega) (by omega) (by omega), e1' f 29 _ hf (by omega) (by omega) (by omega) (by omega)⟩) (fun f k hf hk => e1' f (k + 23) _ hf (by omega) (by omega) (by omega) (by omega)), h6.cong e3 e4⟩
theorem SND_issue {g g' : Nat → Int32} {m f y : Nat} {t : Int32} (h : SND g m) (hf : f < 8) (hy : m / 12 = y) (hy2 : y < 20) (h1 : g' (32 * f + y + 7) = g (32 * f + y + 7) + t) (h2 : g' (y + 263) = g (y + 263) + t) (e : ∀ x, x < 349 → x ≠ 32 * f + y + 7 → x ≠ y + 263 → g' x = g x) : SND g' m := by
  obtain ⟨k1, k2, k3, k4, k5, k6⟩ := h
  refine ⟨fun v hv => ?_, fun v hv hv2 => ?_, k3.cong (fun f v hf hv => e _ (by omega) (by omega) (by omega)) (fun x _ hx => e x (by omega) (by omega) (by omega)), k4.cong (fun f hf => e _ (by omega) (by omega) (by omega)) (fun x _ hx => e x (by omega) (by omega) (by omega)) (fun x _ hx => e x (by omega) (by omega) (by omega)), k5.cong (Nat.le_refl m) (fun f hf => ⟨e _ (by omega) (by omega) (by omega), e _ (by omega) (by omega) (by omega)⟩) (fun f k hf hk => e _ (by omega) (by omega) (by omega)), k6.cong (fun k hk => e _ (by omega) (by omega) (by omega)) (e 6 (by omega) (by omega) (by omega))⟩
  · by_cases q : v = y
    · subst q
      rw [h2, k1 v hv, e (v + 283) (by omega) (by omega) (by omega), e (v + 303) (by omega) (by omega) (by omega), e (v + 323) (by omega) (by omega) (by omega), zsum_at (G := fun i => g (32 * i + v + 7)) (G' := fun i => g' (32 * i + v + 7)) hf (fun i hi hne => e _ (by omega) (by omega) (by omega)), h1]
      grind
    · rw [e (v + 263) (by omega) (by omega) (by omega), k1 v hv, e (v + 283) (by omega) (by omega) (by omega), e (v + 303) (by omega) (by omega) (by omega), e (v + 323) (by omega) (by omega) (by omega), zsum_cong (g := fun i => g' (32 * i + v + 7)) (g' := fun i => g (32 * i + v + 7)) (fun i hi => e _ (by omega) (by omega) (by omega))]
  · rw [e (v + 263) (by omega) (by omega) (by omega)]
    exact k2 v hv hv2
theorem SND_issueOff {g g' : Nat → Int32} {m f k : Nat} {t : Int32} (h : SND g m) (hf : f < 8) (hk : k < 3) (h1 : g' (32 * f + k + 27) = g (32 * f + k + 27) + t) (h2 : g' (k + 343) = g (k + 343) + t) (e : ∀ x, x < 349 → x ≠ 32 * f + k + 27 → x ≠ k + 343 → g' x = g x) : SND g' m := by
  obtain ⟨k1, k2, k3, k4, k5, k6⟩ := h
  refine ⟨k1.cong (fun f v hf hv => e _ (by omega) (by omega) (by omega)) (fun x _ hx => e x (by omega) (by omega) (by omega)), k2.cong (Nat.le_refl m) (fun x _ hx => e x (by omega) (by omega) (by omega)), fun v hv => ?_, k4.cong (fun f hf => e _ (by omega) (by omega) (by omega)) (fun x _ hx => e x (by omega) (by omega) (by omega)) (fun x _ hx => e x (by omega) (by omega) (by omega)), k5.cong (Nat.le_refl m) (fun f hf => ⟨e _ (by omega) (by omega) (by omega), e _ (by omega) (by omega) (by omega)⟩) (fun f k hf hk => e _ (by omega) (by omega) (by omega)), k6.cong (fun k hk => e _ (by omega) (by omega) (by omega)) (e 6 (by omega) (by omega) (by omega))⟩
  by_cases q : v = k
  · subst q
    rw [h2, k3 v hv, e (v + 346) (by omega) (by omega) (by omega), zsum_at (G := fun i => g (32 * i + v + 27)) (G' := fun i => g' (32 * i + v + 27)) hf (fun i hi hne => e _ (by omega) (by omega) (by omega)), h1]
    grind
  · rw [e (v + 343) (by omega) (by omega) (by omega), k3 v hv, e (v + 346) (by omega) (by omega) (by omega), zsum_cong (g := fun i => g' (32 * i + v + 27)) (g' := fun i => g (32 * i + v + 27)) (fun i hi => e _ (by omega) (by omega) (by omega))]
theorem SND_transfer {g g' : Nat → Int32} {m f q v : Nat} {t : Int32} (h : SND g m) (hf : f < 8) (hq : q < 8) (hne : f ≠ q) (hv : v < 20) (h1 : g' (32 * f + v + 7) = g (32 * f + v + 7) - t) (h2 : g' (32 * q + v + 7) = g (32 * q + v + 7) + t) (e : ∀ x, x < 349 → x ≠ 32 * f + v + 7 → x ≠ 32 * q + v + 7 → g' x = g x) : SND g' m := by
  obtain ⟨k1, k2, k3, k4, k5, k6⟩ := h
  refine ⟨fun y hy => ?_, k2.cong (Nat.le_refl m) (fun x _ hx => e x (by omega) (by omega) (by omega)), k3.cong (fun f v hf hv => e _ (by omega) (by omega) (by omega)) (fun x _ hx => e x (by omega) (by omega) (by omega)), k4.cong (fun f hf => e _ (by omega) (by omega) (by omega)) (fun x _ hx => e x (by omega) (by omega) (by omega)) (fun x _ hx => e x (by omega) (by omega) (by omega)), k5.cong (Nat.le_refl m) (fun f hf => ⟨e _ (by omega) (by omega) (by omega), e _ (by omega) (by omega) (by omega)⟩) (fun f k hf hk => e _ (by omega) (by omega) (by omega)), k6.cong (fun k hk => e _ (by omega) (by omega) (by omega)) (e 6 (by omega) (by omega) (by omega))⟩
  rw [e (y + 263) (by omega) (by omega) (by omega), k1 y hy, e (y + 283) (by omega) (by omega) (by omega), e (y + 303) (by omega) (by omega) (by omega), e (y + 323) (by omega) (by omega) (by omega)]
  by_cases w : y = v
  · subst w
    rw [zsum_two (G := fun i => g (32 * i + y + 7)) (G' := fun i => g' (32 * i + y + 7)) hf hq hne (fun i hi h3 h4 => e _ (by omega) (by omega) (by omega)), h1, h2]
    grind
  · rw [zsum_cong (g := fun i => g' (32 * i + y + 7)) (g' := fun i => g (32 * i + y + 7)) (fun i hi => e _ (by omega) (by omega) (by omega))]
theorem SND_transferOff {g g' : Nat → Int32} {m f q k : Nat} {t : Int32} (h : SND g m) (hf : f < 8) (hq : q < 8) (hne : f ≠ q) (hk : k < 3) (h1 : g' (32 * f + k + 27) = g (32 * f + k + 27) - t) (h2 : g' (32 * q + k + 27) = g (32 * q + k + 27) + t) (e : ∀ x, x < 349 → x ≠ 32 * f + k + 27 → x ≠ 32 * q + k + 27 → g' x = g x) : SND g' m := by
  obtain ⟨k1, k2, k3, k4, k5, k6⟩ := h
  refine ⟨k1.cong (fun f v hf hv => e _ (by omega) (by omega) (by omega)) (fun x _ hx => e x (by omega) (by omega) (by omega)), k2.cong (Nat.le_refl m) (fun x _ hx => e x (by omega) (by omega) (by omega)), fun y hy => ?_, k4.cong (fun f hf => e _ (by omega) (by omega) (by omega)) (fun x _ hx => e x (by omega) (by omega) (by omega)) (fun x _ hx => e x (by omega) (by omega) (by omega)), k5.cong (Nat.le_refl m) (fun f hf => ⟨e _ (by omega) (by omega) (by omega), e _ (by omega) (by omega) (by omega)⟩) (fun f k hf hk => e _ (by omega) (by omega) (by omega)), k6.cong (fun k hk => e _ (by omega) (by omega) (by omega)) (e 6 (by omega) (by omega) (by omega))⟩
  rw [e (y + 343) (by omega) (by omega) (by omega), k3 y hy, e (y + 346) (by omega) (by omega) (by omega)]
  by_cases w : y = k
  · subst w
    rw [zsum_two (G := fun i => g (32 * i + y + 27)) (G' := fun i => g' (32 * i + y + 27)) hf hq hne (fun i hi h3 h4 => e _ (by omega) (by omega) (by omega)), h1, h2]
    grind
  · rw [zsum_cong (g := fun i => g' (32 * i + y + 27)) (g' := fun i => g (32 * i + y + 27)) (fun i hi => e _ (by omega) (by omega) (by omega))]
theorem SND_cancel {g g' : Nat → Int32} {m f v : Nat} {t : Int32} (h : SND g m) (hf : f < 8) (hv : v < 20) (h1 : g' (32 * f + v + 7) = g (32 * f + v + 7) - t) (h2 : g' (v + 303) = g (v + 303) + t) (e : ∀ x, x < 349 → x ≠ 32 * f + v + 7 → x ≠ v + 303 → g' x = g x) : SND g' m := by
  obtain ⟨k1, k2, k3, k4, k5, k6⟩ := h
  refine ⟨fun y hy => ?_, k2.cong (Nat.le_refl m) (fun x _ hx => e x (by omega) (by omega) (by omega)), k3.cong (fun f v hf hv => e _ (by omega) (by omega) (by omega)) (fun x _ hx => e x (by omega) (by omega) (by omega)), k4.cong (fun f hf => e _ (by omega) (by omega) (by omega)) (fun x _ hx => e x (by omega) (by omega) (by omega)) (fun x _ hx => e x (by omega) (by omega) (by omega)), k5.cong (Nat.le_refl m) (fun f hf => ⟨e _ (by omega) (by omega) (by omega), e _ (by omega) (by omega) (by omega)⟩) (fun f k hf hk => e _ (by omega) (by omega) (by omega)), k6.cong (fun k hk => e _ (by omega) (by omega) (by omega)) (e 6 (by omega) (by omega) (by omega))⟩
  by_cases w : y = v
  · subst w
    rw [e (y + 263) (by omega) (by omega) (by omega), k1 y hy, h2, e (y + 283) (by omega) (by omega) (by omega), e (y + 323) (by omega) (by omega) (by omega), zsum_at (G := fun i => g (32 * i + y + 7)) (G' := fun i => g' (32 * i + y + 7)) hf (fun i hi hne => e _ (by omega) (by omega) (by omega)), h1]
    grind
  · rw [e (y + 263) (by omega) (by omega) (by omega), k1 y hy, e (y + 283) (by omega) (by omega) (by omega), e (y + 303) (by omega) (by omega) (by omega), e (y + 323) (by omega) (by omega) (by omega), zsum_cong (g := fun i => g' (32 * i + y + 7)) (g' := fun i => g (32 * i + y + 7)) (fun i hi => e _ (by omega) (by omega) (by omega))]
