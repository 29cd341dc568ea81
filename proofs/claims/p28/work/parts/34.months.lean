/-! months keep sums sound -/
theorem SND_lose {g g' : Nat → Int32} {m f v : Nat} {t : Int32} (h : SND g m) (hf : f < 8) (hv : v < 20) (h1 : g' (32 * f + v + 7) = g (32 * f + v + 7) - t) (h2 : g' (v + 323) = g (v + 323) + t) (e : ∀ x, x < 349 → x ≠ 32 * f + v + 7 → x ≠ v + 323 → g' x = g x) : SND g' m := by
  obtain ⟨k1, k2, k3, k4, k5, k6⟩ := h
  refine ⟨fun y hy => ?_, k2.cong (Nat.le_refl m) (fun x _ hx => e x (by omega) (by omega) (by omega)), k3.cong (fun f v hf hv => e _ (by omega) (by omega) (by omega)) (fun x _ hx => e x (by omega) (by omega) (by omega)), k4.cong (fun f hf => e _ (by omega) (by omega) (by omega)) (fun x _ hx => e x (by omega) (by omega) (by omega)) (fun x _ hx => e x (by omega) (by omega) (by omega)), k5.cong (Nat.le_refl m) (fun f hf => ⟨e _ (by omega) (by omega) (by omega), e _ (by omega) (by omega) (by omega)⟩) (fun f k hf hk => e _ (by omega) (by omega) (by omega)), k6.cong (fun k hk => e _ (by omega) (by omega) (by omega)) (e 6 (by omega) (by omega) (by omega))⟩
  by_cases w : y = v
  · subst w
    rw [e (y + 263) (by omega) (by omega) (by omega), k1 y hy, h2, e (y + 283) (by omega) (by omega) (by omega), e (y + 303) (by omega) (by omega) (by omega), zsum_at (G := fun i => g (32 * i + y + 7)) (G' := fun i => g' (32 * i + y + 7)) hf (fun i hi hne => e _ (by omega) (by omega) (by omega)), h1]
    grind
  · rw [e (y + 263) (by omega) (by omega) (by omega), k1 y hy, e (y + 283) (by omega) (by omega) (by omega), e (y + 303) (by omega) (by omega) (by omega), e (y + 323) (by omega) (by omega) (by omega), zsum_cong (g := fun i => g' (32 * i + y + 7)) (g' := fun i => g (32 * i + y + 7)) (fun i hi => e _ (by omega) (by omega) (by omega))]
theorem SND_zlf {g : Nat → Int32} {m v f : Nat} (h : SND g m) (hf : f < 8) (hv : v < 20) : SND (zlf g v f) m := by
  refine SND_lose (t := g (32 * f + v + 7)) h hf hv ?_ ?_ (fun x hx h1 h2 => ?_)
  · unfold zlf; rw [pk_us, nI_0]; grind
  · unfold zlf; rw [pk_un (by omega), pk_us]
  · unfold zlf; rw [pk_un h1, pk_un h2]
theorem SND_zls {g : Nat → Int32} {m v : Nat} (h : SND g m) (hv : v < 20) : ∀ n, n ≤ 8 → SND (zls g v n) m
  | 0, _ => h
  | n + 1, hn => SND_zlf (SND_zls h hv n (by omega)) (by omega) hv
theorem SND_zla {g : Nat → Int32} {m : Nat} (h : SND g m) : ∀ n, n ≤ 20 → SND (zla g 8 n) m
  | 0, _ => h
  | n + 1, hn => SND_zls (SND_zla h n (by omega)) (by omega) 8 (Nat.le_refl 8)
theorem SND_zfn {g : Nat → Int32} {m : Nat} (h : SND g m) : ∀ n, n ≤ 8 → SND (zfn g n) m
  | 0, _ => h
  | n + 1, hn => (SND_zfn h n (by omega)).far (Nat.le_refl m) (fun f y hf hy _ _ => pk_un (by omega)) (fun x hx _ => pk_un (by omega)) (fun k hk => pk_un (by omega)) (pk_un (by omega))
/-- what was reported and verified of a year is in its bounds -/
def RV (g : Nat → Int32) : Prop := ∀ f, f < 8 → 0 ≤ (g (32 * f + 33)).toInt ∧ 0 ≤ (g (32 * f + 34)).toInt ∧ (g (32 * f + 33)).toInt + (g (32 * f + 34)).toInt ≤ 9999
theorem zcb_in {g : Nat → Int32} {f : Nat} (h : 0 ≤ (g (32 * f + 33)).toInt ∧ 0 ≤ (g (32 * f + 34)).toInt ∧ (g (32 * f + 33)).toInt + (g (32 * f + 34)).toInt ≤ 9999) : ∃ k, k ≤ 10999 ∧ zcb g f = nI k := by
  obtain ⟨k3, k4, k5⟩ := h
  obtain ⟨rp, e1, e2, _⟩ := inr_nat k3
  obtain ⟨vp, e3, e4, _⟩ := inr_nat k4
  refine ⟨vp + rp + (rp + 9) / 10, by omega, ?_⟩
  unfold zcb
  rw [e1, e3, nI_add, nI_add, pk_div (by omega) (by omega) (by omega), nI_add]
theorem zcf_35 {g : Nat → Int32} {f : Nat} : zcf g f (32 * f + 35) = zcb g f := by
  unfold zcf
  rw [pk_un (by omega), pk_un (by omega), pk_un (by omega), pk_un (by omega), pk_un (by omega), pk_un (by omega), pk_us]
theorem zcf_36 {g : Nat → Int32} {f : Nat} : zcf g f (32 * f + 36) = g (32 * f + 36) + zcb g f := by
  unfold zcf
  rw [pk_un (by omega), pk_un (by omega), pk_un (by omega), pk_un (by omega), pk_un (by omega), pk_us]
theorem zcf_30 {g : Nat → Int32} {f k : Nat} (hk : k < 3) : zcf g f (32 * f + k + 30) = nI 0 := by
  unfold zcf
  rcases (show k = 0 ∨ k = 1 ∨ k = 2 by omega) with rfl | rfl | rfl
  · rw [pk_un (by omega), pk_un (by omega), pk_us]
  · rw [pk_un (by omega), show 32 * f + 1 + 30 = 32 * f + 31 by omega, pk_us]
  · rw [show 32 * f + 2 + 30 = 32 * f + 32 by omega, pk_us]
theorem zca_at {g : Nat → Int32} {D : Nat} (hr : RV g) (hD : ∀ f, f < 8 → inr (g (32 * f + 36)) D) (hD2 : D + 10999 < 2 ^ 30) : ∀ n, n ≤ 8 → (∀ x, (x < 7 ∨ 263 ≤ x) → zca g n x = g x) ∧ (∀ f y, f < 8 → y < 32 → (y < 23 ∨ y = 30 ∨ y = 31) → zca g n (32 * f + y + 7) = g (32 * f + y + 7)) ∧ ∀ f, f < n → inr (zca g n (32 * f + 35)) 10999 ∧ inr (zca g n (32 * f + 36)) (D + 10999) ∧ ∀ k, k < 3 → zca g n (32 * f + k + 30) = nI 0 := by
  intro n
  induction n with
  | zero => exact fun _ => ⟨fun _ _ => rfl, fun _ _ _ _ _ => rfl, fun f hf => absurd hf (Nat.not_lt_zero f)⟩
  | succ n ih =>
    intro hn
    obtain ⟨i1, i2, i3⟩ := ih (by omega)
    refine ⟨fun x hx => (zcf_out (by omega)).trans (i1 x hx), fun f y hf hy hy2 => ?_, fun f hf => ?_⟩
    · refine Eq.trans ?_ (i2 f y hf hy hy2)
      show zcf (zca g n) n _ = _
      exact zcf_out (by omega)
    · by_cases e : f = n
      · subst e
        have e33 : zca g f (32 * f + 33) = g (32 * f + 33) := zca_hi f (by omega)
        have e34 : zca g f (32 * f + 34) = g (32 * f + 34) := zca_hi f (by omega)
        have e36 : zca g f (32 * f + 36) = g (32 * f + 36) := zca_hi f (by omega)
        obtain ⟨k, hk, ek⟩ := zcb_in (g := zca g f) (f := f) (by rw [e33, e34]; exact hr f (by omega))
        refine ⟨?_, ?_, fun k hk => zcf_30 hk⟩
        · show inr (zcf (zca g f) f (32 * f + 35)) 10999
          rw [zcf_35, ek, inr, nI_toInt (by omega)]
          omega
        · show inr (zcf (zca g f) f (32 * f + 36)) (D + 10999)
          rw [zcf_36, ek, e36]
          exact inr_add (hD f (by omega)) (by omega) hD2
      · obtain ⟨j1, j2, j3⟩ := i3 f (by omega)
        have o : ∀ x, x < 32 * f + 39 → zca g (n + 1) x = zca g n x := fun x hx => zcf_out (by omega)
        exact ⟨by rw [o _ (by omega)]; exact j1, by rw [o _ (by omega)]; exact j2, fun k hk => by rw [o _ (by omega)]; exact j3 k hk⟩
theorem SND_zca {g : Nat → Int32} {m m' : Nat} (h : SND g m) (hr : RV g) (hm : m < 240) (hm2 : m' / 12 = m / 12 + 1) : SND (zca g 8) m' := by
  obtain ⟨h1, h2, h3, h4, h5, h6⟩ := h
  obtain ⟨i1, i2, i3⟩ := zca_at (D := 10999 * (m / 12)) hr (fun f hf => (h5 f hf).2.1) (by omega) 8 (Nat.le_refl 8)
  have i2' : ∀ f y p, f < 8 → y < 32 → (y < 23 ∨ y = 30 ∨ y = 31) → p = 32 * f + y + 7 → zca g 8 p = g p := fun f y p a b c q => by subst q; exact i2 f y a b c
  refine ⟨h1.cong (fun f v hf hv => i2 f v hf (by omega) (by omega)) (fun x hx _ => i1 x (by omega)), h2.cong (by omega) (fun x hx _ => i1 x (by omega)), h3.cong (fun f k hf hk => i2' f (k + 20) _ hf (by omega) (by omega) (by omega)) (fun x hx _ => i1 x (by omega)), h4.cong (fun f hf => i2' f 30 _ hf (by omega) (by omega) (by omega)) (fun x hx _ => i1 x (by omega)) (fun x hx _ => i1 x (by omega)), fun f hf => ?_, h6.cong (fun k hk => i1 _ (by omega)) (i1 6 (by omega))⟩
  obtain ⟨j1, j2, j3⟩ := i3 f hf
  exact ⟨j1, inr_mono j2 (by omega), fun k hk => by rw [j3 k hk]; exact inr_0 _⟩
theorem SND_month {g : Nat → Int32} {m m' : Nat} {x : Int32} (h : SND g m) (hm : m ≤ m') : SND (upd g 0 x) m' := h.far hm (fun f y _ _ _ _ => pk_un (by omega)) (fun x hx _ => pk_un (by omega)) (fun k hk => pk_un (by omega)) (pk_un (by omega))
theorem RV_month {g : Nat → Int32} {x : Int32} (h : RV g) : RV (upd g 0 x) := fun f hf => by rw [pk_un (by omega), pk_un (by omega)]; exact h f hf
theorem SND_zm1 {g : Nat → Int32} {m b : Nat} (h : SND g m) (hr : RV g) (hm : m + 1 < 240) : SND (zm1 g 8 b m) (m + 1) := by
  unfold zm1
  split
  · next q =>
    unfold zyr
    have e : upd g 0 (nI (m + 1)) = upd g 0 (nI (m + 1)) := rfl
    exact SND_zla (SND_zca (m := m) (SND_month h (Nat.le_refl m)) (RV_month hr) (by omega) (by omega)) _ (by omega)
  · split
    · exact SND_zfn (SND_month h (by omega)) 8 (Nat.le_refl 8)
    · exact SND_month h (by omega)
theorem inr_mul {x y : Int32} {a b : Nat} (h1 : inr x a) (h2 : inr y b) (hb : a * b < 2 ^ 31) : inr (x * y) (a * b) := by
  obtain ⟨i, e1, e2, _⟩ := inr_nat h1.1
  obtain ⟨j, e3, e4, _⟩ := inr_nat h2.1
  have hi : i ≤ a := by have := h1.2; omega
  have hj : j ≤ b := by have := h2.2; omega
  have hij := Nat.mul_le_mul hi hj
  rw [e1, e3, pk_mul, inr, nI_toInt (by omega)]
  omega
theorem zfs_in {g : Nat → Int32} {m : Nat} (h : SND g m) (hm : m < 240) : ∀ n, n ≤ 8 → inr (zfs g n) (20689119 * n)
  | 0, _ => inr_0 _
  | n + 1, hn => by
    have ih := zfs_in h hm n (by omega)
    have e36 : zfn g n (32 * n + 36) = g (32 * n + 36) := zfn_hi n (by omega)
    have e6 : zfn g n 6 = g 6 := zfn_lo (by omega) n
    have q := inr_mul (inr_mono (h.2.2.2.2.1 n (by omega)).2.1 (show 10999 * (m / 12) ≤ 10999 * 19 by omega)) h.2.2.2.2.2.2 (by omega)
    have e : zfx (zfn g n) n = g (32 * n + 36) * g 6 := by unfold zfx; rw [e36, e6]
    show inr (zfs g n + zfx (zfn g n) n) (20689119 * (n + 1))
    rw [e, show 20689119 * (n + 1) = 20689119 * n + 10999 * 19 * 99 by omega]
    exact inr_add2 ih q (by omega)
theorem zc1_in {g : Nat → Int32} {m : Nat} (h : SND g m) (hm : m + 1 < 240) : inr (zc1 g 8 m) (165512952 * ((m + 1 + 8) / 12 - (m + 8) / 12)) := by
  unfold zc1
  split
  · next q =>
    have := zfs_in (m := m + 1) (SND_month (x := nI (m + 1)) h (Nat.le_succ m)) hm 8 (Nat.le_refl 8)
    exact inr_mono this (by have : (m + 1 + 8) / 12 - (m + 8) / 12 = 1 := by omega
                            rw [this]; omega)
  · exact inr_0 _
theorem RV_row {M D : Nat} {g : Nat → Int32} {m c b : Nat} (h : rowJ M D g m c b) : RV g := fun f hf => (h.2.2.2.2.2.2.2.1 f hf).2.2
theorem SND_zps {g : Nat → Int32} {Mx D c b m : Nat} (h : SND g m) (hJ : rowJ Mx D g m c b) (hD : D + 33000 < 2 ^ 30) : ∀ i, i ≤ 24 → m + i < 240 → SND (zps g 8 b m i) (i + m) ∧ inr (zpc g 8 b m i) (165512952 * ((i + m + 8) / 12 - (m + 8) / 12))
  | 0, _, _ => ⟨by rw [Nat.zero_add]; exact h, inr_0 _⟩
  | i + 1, hi, hm => by
    obtain ⟨i1, i2⟩ := SND_zps h hJ hD i (by omega) (by omega)
    obtain ⟨j1, j2, j3⟩ := zps_8 (M := g) (fun _ _ => rfl) hJ hD i (by omega) (by omega)
    have hr : RV (zps g 8 b m i) := RV_row (rowJ_cong j3 (fun x hx => (j1 x hx).symm))
    refine ⟨?_, ?_⟩
    · rw [show i + 1 + m = i + m + 1 by omega]
      exact SND_zm1 i1 hr (by omega)
    · show inr (zpc g 8 b m i + zc1 (zps g 8 b m i) 8 (i + m)) _
      refine inr_mono (inr_add2 i2 (zc1_in i1 (by omega)) ?_) ?_
      · have : (i + m + 8) / 12 - (m + 8) / 12 ≤ 2 := by omega
        have : (i + m + 1 + 8) / 12 - (i + m + 8) / 12 ≤ 1 := by omega
        have := Nat.mul_le_mul_left 165512952 (show (i + m + 8) / 12 - (m + 8) / 12 ≤ 2 by omega)
        have := Nat.mul_le_mul_left 165512952 (show (i + m + 1 + 8) / 12 - (i + m + 8) / 12 ≤ 1 by omega)
        omega
      · rw [← Nat.mul_add]
        exact Nat.mul_le_mul_left _ (by omega)
