/-! months pass on both sides -/
def eqr (M N : Nat → Int32) : Prop := ∀ x, x < 349 → M x = N x
theorem eqr_upd {M N : Nat → Int32} {a : Nat} {x y : Int32} (h : eqr M N) (e : x = y) : eqr (upd M a x) (upd N a y) := upd_eq h e
def zer (N : Nat → Int32) (c : Nat) : Prop := ∀ f, c ≤ f → f < 8 → ∀ y, y < 32 → N (32 * f + y + 7) = nI 0
theorem zcf_eq {M N : Nat → Int32} {f : Nat} (h : eqr M N) (hf : f < 8) : eqr (zcf M f) (zcf N f) := by
  have e : zcb M f = zcb N f := by unfold zcb; rw [h (32 * f + 34) (by omega), h (32 * f + 33) (by omega)]
  unfold zcf
  exact eqr_upd (eqr_upd (eqr_upd (eqr_upd (eqr_upd (eqr_upd (eqr_upd h e) (by rw [e, h (32 * f + 36) (by omega)])) rfl) rfl) rfl) rfl) rfl
theorem zcf_zero {N : Nat → Int32} {f : Nat} (h : ∀ y, y < 32 → N (32 * f + y + 7) = nI 0) : zcf N f = N := by
  have h23 : N (32 * f + 30) = nI 0 := h 23 (by omega)
  have h24 : N (32 * f + 31) = nI 0 := h 24 (by omega)
  have h25 : N (32 * f + 32) = nI 0 := h 25 (by omega)
  have h26 : N (32 * f + 33) = nI 0 := h 26 (by omega)
  have h27 : N (32 * f + 34) = nI 0 := h 27 (by omega)
  have h28 : N (32 * f + 35) = nI 0 := h 28 (by omega)
  have h29 : N (32 * f + 36) = nI 0 := h 29 (by omega)
  have e : zcb N f = nI 0 := by unfold zcb; rw [h26, h27]; decide +kernel
  unfold zcf
  rw [e, h29, show nI 0 + nI 0 = nI 0 by decide +kernel]
  have e1 : upd N (32 * f + 35) (nI 0) = N := zupd_same h28
  rw [e1]
  have e2 : upd N (32 * f + 36) (nI 0) = N := zupd_same h29
  rw [e2]
  have e3 : upd N (32 * f + 33) (nI 0) = N := zupd_same h26
  rw [e3]
  have e4 : upd N (32 * f + 34) (nI 0) = N := zupd_same h27
  rw [e4]
  have e5 : upd N (32 * f + 30) (nI 0) = N := zupd_same h23
  rw [e5]
  have e6 : upd N (32 * f + 31) (nI 0) = N := zupd_same h24
  rw [e6]
  exact zupd_same h25
theorem zcf_out {N : Nat → Int32} {f x : Nat} (h : x < 32 * f + 30 ∨ 32 * f + 37 ≤ x) : zcf N f x = N x := by
  unfold zcf
  rw [pk_un (by omega), pk_un (by omega), pk_un (by omega), pk_un (by omega), pk_un (by omega), pk_un (by omega), pk_un (by omega)]
theorem zca_hi {N : Nat → Int32} {x : Nat} : ∀ n, 32 * n + 7 ≤ x → zca N n x = N x
  | 0, _ => rfl
  | n + 1, h => (zcf_out (by omega)).trans (zca_hi n (by omega))
theorem zca_eq {M N : Nat → Int32} (h : eqr M N) : ∀ n, n ≤ 8 → eqr (zca M n) (zca N n)
  | 0, _ => h
  | n + 1, hn => zcf_eq (zca_eq h n (by omega)) (by omega)
theorem zca_tail {N : Nat → Int32} {c : Nat} (hz : zer N c) : ∀ d, c + d ≤ 8 → zca N (c + d) = zca N c
  | 0, _ => rfl
  | d + 1, hd => by
    show zcf (zca N (c + d)) (c + d) = zca N c
    rw [zca_tail hz d (by omega)]
    exact zcf_zero (fun y hy => (zca_hi c (by omega)).trans (hz (c + d) (by omega) (by omega) y hy))
theorem zca_8 {M N : Nat → Int32} {c : Nat} (h : eqr M N) (hc : c ≤ 8) (hz : zer N c) : eqr (zca M 8) (zca N c) := by
  have := zca_tail hz (8 - c) (by omega)
  rw [show c + (8 - c) = 8 by omega] at this
  rw [← this]
  exact zca_eq h 8 (Nat.le_refl 8)
theorem zca_zer {N : Nat → Int32} {c : Nat} (hz : zer N c) : zer (zca N c) c := fun f h1 h2 y hy => (zca_hi c (by omega)).trans (hz f h1 h2 y hy)
theorem zlf_eq {M N : Nat → Int32} {v f : Nat} (h : eqr M N) (hv : v < 20) (hf : f < 8) : eqr (zlf M v f) (zlf N v f) := eqr_upd (eqr_upd h (by rw [h (v + 323) (by omega), h (32 * f + v + 7) (by omega)])) rfl
theorem zlf_zero {N : Nat → Int32} {v f : Nat} (h : N (32 * f + v + 7) = nI 0) : zlf N v f = N := by
  unfold zlf
  rw [h, show N (v + 323) + nI 0 = N (v + 323) from Int32.add_zero _]
  have e1 : upd N (v + 323) (N (v + 323)) = N := zupd_same rfl
  rw [e1]
  exact zupd_same h
theorem zls_hi {N : Nat → Int32} {v x : Nat} (hv : v < 20) (hx : x < 263) : ∀ n, 32 * n + 7 ≤ x → zls N v n x = N x
  | 0, _ => rfl
  | n + 1, h => by
    show zlf (zls N v n) v n x = N x
    unfold zlf
    rw [pk_un (by omega), pk_un (by omega)]
    exact zls_hi hv hx n (by omega)
theorem zls_eq {M N : Nat → Int32} {v : Nat} (h : eqr M N) (hv : v < 20) : ∀ n, n ≤ 8 → eqr (zls M v n) (zls N v n)
  | 0, _ => h
  | n + 1, hn => zlf_eq (zls_eq h hv n (by omega)) hv (by omega)
theorem zls_tail {N : Nat → Int32} {c v : Nat} (hv : v < 20) (hz : zer N c) : ∀ d, c + d ≤ 8 → zls N v (c + d) = zls N v c
  | 0, _ => rfl
  | d + 1, hd => by
    show zlf (zls N v (c + d)) v (c + d) = zls N v c
    rw [zls_tail hv hz d (by omega)]
    exact zlf_zero ((zls_hi hv (by omega) c (by omega)).trans (hz (c + d) (by omega) (by omega) v (by omega)))
theorem zls_8 {M N : Nat → Int32} {c v : Nat} (h : eqr M N) (hv : v < 20) (hc : c ≤ 8) (hz : zer N c) : eqr (zls M v 8) (zls N v c) := by
  have := zls_tail hv hz (8 - c) (by omega)
  rw [show c + (8 - c) = 8 by omega] at this
  rw [← this]
  exact zls_eq h hv 8 (Nat.le_refl 8)
theorem zls_zer {N : Nat → Int32} {c v : Nat} (hv : v < 20) (hz : zer N c) : zer (zls N v c) c := fun f h1 h2 y hy => (zls_hi hv (by omega) c (by omega)).trans (hz f h1 h2 y hy)
theorem zla_8 {M N : Nat → Int32} {c : Nat} (h : eqr M N) (hc : c ≤ 8) (hz : zer N c) : ∀ n, n ≤ 20 → eqr (zla M 8 n) (zla N c n) ∧ zer (zla N c n) c
  | 0, _ => ⟨h, hz⟩
  | n + 1, hn => by
    obtain ⟨h1, h2⟩ := zla_8 h hc hz n (by omega)
    exact ⟨zls_8 h1 (by omega) hc h2, zls_zer (by omega) h2⟩
theorem zfn_eq {M N : Nat → Int32} (h : eqr M N) : ∀ n, n ≤ 8 → eqr (zfn M n) (zfn N n)
  | 0, _ => h
  | n + 1, hn => by
    have ih := zfn_eq h n (by omega)
    exact eqr_upd ih (by unfold zfx; rw [ih (32 * n + 38) (by omega), ih (32 * n + 36) (by omega), ih 6 (by omega)])
theorem zfs_eq {M N : Nat → Int32} (h : eqr M N) : ∀ n, n ≤ 8 → zfs M n = zfs N n
  | 0, _ => rfl
  | n + 1, hn => by
    have ih := zfn_eq h n (by omega)
    simp only [zfs]
    rw [zfs_eq h n (by omega)]
    unfold zfx
    rw [ih (32 * n + 36) (by omega), ih 6 (by omega)]
theorem zfn_hi {N : Nat → Int32} {x : Nat} : ∀ n, 32 * n + 7 ≤ x → zfn N n x = N x
  | 0, _ => rfl
  | n + 1, h => (pk_un (by omega)).trans (zfn_hi n (by omega))
theorem zfx_zero {N : Nat → Int32} {f : Nat} (h : N (32 * f + 36) = nI 0) : zfx N f = nI 0 := by
  unfold zfx
  rw [h]
  exact Int32.zero_mul
theorem zfn_tail {N : Nat → Int32} {c : Nat} (hz : zer N c) : ∀ d, c + d ≤ 8 → zfn N (c + d) = zfn N c ∧ zfs N (c + d) = zfs N c
  | 0, _ => ⟨rfl, rfl⟩
  | d + 1, hd => by
    obtain ⟨i1, i2⟩ := zfn_tail hz d (by omega)
    have h36 : zfn N c (32 * (c + d) + 36) = nI 0 := (zfn_hi c (by omega)).trans (hz (c + d) (by omega) (by omega) 29 (by omega))
    have e := zfx_zero h36
    refine ⟨?_, ?_⟩
    · show upd (zfn N (c + d)) (32 * (c + d) + 38) (zfn N (c + d) (32 * (c + d) + 38) + zfx (zfn N (c + d)) (c + d)) = zfn N c
      rw [i1, e]
      exact zupd_same (Int32.add_zero _).symm
    · show zfs N (c + d) + zfx (zfn N (c + d)) (c + d) = zfs N c
      rw [i1, i2, e]
      exact Int32.add_zero _
theorem zfn_8 {M N : Nat → Int32} {c : Nat} (h : eqr M N) (hc : c ≤ 8) (hz : zer N c) : eqr (zfn M 8) (zfn N c) ∧ zfs M 8 = zfs N c := by
  have := zfn_tail hz (8 - c) (by omega)
  rw [show c + (8 - c) = 8 by omega] at this
  rw [← this.1, ← this.2]
  exact ⟨zfn_eq h 8 (Nat.le_refl 8), zfs_eq h 8 (Nat.le_refl 8)⟩
theorem zer_upd0 {N : Nat → Int32} {c : Nat} {x : Int32} (hz : zer N c) : zer (upd N 0 x) c := fun f h1 h2 y hy => (pk_un (by omega)).trans (hz f h1 h2 y hy)
theorem zm1_8 {M N : Nat → Int32} {c b m : Nat} (h : eqr M N) (hm : m < 240) (hc : c ≤ 8) (hz : zer N c) : eqr (zm1 M 8 b m) (zm1 N c b m) ∧ zc1 M 8 m = zc1 N c m := by
  have h0 : eqr (upd M 0 (nI (m + 1))) (upd N 0 (nI (m + 1))) := eqr_upd h rfl
  have hz0 := zer_upd0 (x := nI (m + 1)) hz
  have hf := zfn_8 h0 hc hz0
  refine ⟨?_, ?_⟩
  · unfold zm1
    split
    · exact (zla_8 (zca_8 h0 hc hz0) hc (zca_zer hz0) _ (by omega)).1
    · split
      · exact hf.1
      · exact h0
  · unfold zc1
    split
    · exact hf.2
    · rfl
/-! rows stay as they should be -/
theorem inr_nat {x : Int32} (h : 0 ≤ x.toInt) : ∃ k : Nat, x = nI k ∧ (k : Int) = x.toInt ∧ k < 2 ^ 31 := by
  have hb := Int32.toInt_lt x
  refine ⟨x.toInt.toNat, ?_, by omega, by omega⟩
  apply Int32.toInt_inj.mp
  rw [nI_toInt (by omega)]
  omega
theorem rowJ_month {M D : Nat} {g : Nat → Int32} {m c b m' : Nat} (h : rowJ M D g m c b) (hm : m' < 240) : rowJ M D (upd g 0 (nI m')) m' c b := by
  obtain ⟨h1, h2, h3, h4, h5, h6, h7, h8, h9⟩ := h
  refine ⟨pk_us, hm, (pk_un (by omega)).trans h3, h4, (pk_un (by omega)).trans h5, h6, h7, fun f hf => ?_, fun f h1 h2 y hy => (pk_un (by omega)).trans (h9 f h1 h2 y hy)⟩
  obtain ⟨k1, k2, k3, k4, k5⟩ := h8 f hf
  exact ⟨fun y hy => by rw [pk_un (by omega)]; exact k1 y hy, by rw [pk_un (by omega)]; exact k2, by rw [pk_un (by omega)]; exact k3, by rw [pk_un (by omega)]; exact k4, by rw [pk_un (by omega), pk_un (by omega)]; exact k5⟩
theorem firmJ_zcf {M D : Nat} {g : Nat → Int32} {f : Nat} (h : firmJ M D g f) (hD : D + 11000 < 2 ^ 30) : firmJ M (D + 11000) (zcf g f) f := by
  obtain ⟨k1, k2, k3, k4, k5⟩ := h
  obtain ⟨rp, e1, e2, _⟩ := inr_nat k3
  obtain ⟨vp, e3, e4, _⟩ := inr_nat k4
  have eb : zcb g f = nI (vp + rp + (rp + 9) / 10) := by
    unfold zcb
    rw [e1, e3, nI_add, nI_add, pk_div (by omega) (by omega) (by omega), nI_add]
  have p36 : zcf g f (32 * f + 36) = g (32 * f + 36) + zcb g f := by
    unfold zcf
    rw [pk_un (by omega), pk_un (by omega), pk_un (by omega), pk_un (by omega), pk_un (by omega), pk_us]
  have p33 : zcf g f (32 * f + 33) = nI 0 := by
    unfold zcf
    rw [pk_un (by omega), pk_un (by omega), pk_un (by omega), pk_un (by omega), pk_us]
  have p34 : zcf g f (32 * f + 34) = nI 0 := by
    unfold zcf
    rw [pk_un (by omega), pk_un (by omega), pk_un (by omega), pk_us]
  have z0 : (nI 0).toInt = 0 := nI_toInt (by omega)
  refine ⟨fun y hy => by rw [zcf_out (by omega)]; exact k1 y hy, ?_, by rw [p33, z0]; omega, by rw [p34, z0]; omega, by rw [p33, p34, z0]; omega⟩
  rw [p36, eb]
  exact inr_add k2 (by omega) hD
theorem rowJ_zca {M D : Nat} {g : Nat → Int32} {m c b : Nat} (h : rowJ M D g m c b) (hD : D + 11000 < 2 ^ 30) : rowJ M (D + 11000) (zca g c) m c b := by
  have go : ∀ n, n ≤ c → (∀ x, (x < 7 ∨ 263 ≤ x) → zca g n x = g x) ∧ (∀ f, f < 8 → firmJ M (if f < n then D + 11000 else D) (zca g n) f) := by
    intro n
    induction n with
    | zero => exact fun _ => ⟨fun _ _ => rfl, fun f hf => by rw [if_neg (by omega)]; exact h.2.2.2.2.2.2.2.1 f hf⟩
    | succ n ih =>
      intro hn
      obtain ⟨i1, i2⟩ := ih (by omega)
      have hc := h.2.2.2.1
      refine ⟨fun x hx => (zcf_out (by omega)).trans (i1 x hx), fun f hf => ?_⟩
      by_cases e : f = n
      · subst e
        have := i2 f hf
        rw [if_neg (by omega)] at this
        rw [if_pos (by omega)]
        exact firmJ_zcf this hD
      · obtain ⟨k1, k2, k3, k4, k5⟩ := i2 f hf
        rw [show (if f < n + 1 then D + 11000 else D) = (if f < n then D + 11000 else D) by split <;> split <;> omega]
        show firmJ M _ (zcf (zca g n) n) f
        exact ⟨fun y hy => by rw [zcf_out (by omega)]; exact k1 y hy, by rw [zcf_out (by omega)]; exact k2, by rw [zcf_out (by omega)]; exact k3, by rw [zcf_out (by omega)]; exact k4, by rw [zcf_out (by omega), zcf_out (by omega)]; exact k5⟩
  obtain ⟨i1, i2⟩ := go c (Nat.le_refl c)
  obtain ⟨h1, h2, h3, h4, h5, h6, h7, h8, h9⟩ := h
  refine ⟨(i1 0 (by omega)).trans h1, h2, (i1 1 (by omega)).trans h3, h4, (i1 5 (by omega)).trans h5, h6, h7, fun f hf => ?_, zca_zer h9⟩
  obtain ⟨k1, k2, k3, k4, k5⟩ := i2 f hf
  exact ⟨k1, inr_mono k2 (by split <;> omega), k3, k4, k5⟩
theorem rowJ_far {M D : Nat} {g : Nat → Int32} {m c b p : Nat} {x : Int32} (h : rowJ M D g m c b) (hp : 263 ≤ p) : rowJ M D (upd g p x) m c b := by
  obtain ⟨h1, h2, h3, h4, h5, h6, h7, h8, h9⟩ := h
  refine ⟨(pk_un (by omega)).trans h1, h2, (pk_un (by omega)).trans h3, h4, (pk_un (by omega)).trans h5, h6, h7, fun f hf => ?_, fun f h1 h2 y hy => (pk_un (by omega)).trans (h9 f h1 h2 y hy)⟩
  obtain ⟨k1, k2, k3, k4, k5⟩ := h8 f hf
  exact ⟨fun y hy => by rw [pk_un (by omega)]; exact k1 y hy, by rw [pk_un (by omega)]; exact k2, by rw [pk_un (by omega)]; exact k3, by rw [pk_un (by omega)]; exact k4, by rw [pk_un (by omega), pk_un (by omega)]; exact k5⟩
theorem rowJ_zls {M D : Nat} {g : Nat → Int32} {m c b v : Nat} (h : rowJ M D g m c b) (hv : v < 20) : ∀ n, n ≤ c → rowJ M D (zls g v n) m c b
  | 0, _ => h
  | n + 1, hn => rowJ_held (rowJ_far (rowJ_zls h hv n (by omega)) (by omega)) (Nat.le_refl M) (f := n) (y := v) (by omega) (by omega) rfl (inr_0 M)
theorem rowJ_zla {M D : Nat} {g : Nat → Int32} {m c b : Nat} (h : rowJ M D g m c b) : ∀ n, n ≤ 20 → rowJ M D (zla g c n) m c b
  | 0, _ => h
  | n + 1, hn => rowJ_zls (rowJ_zla h n (by omega)) (by omega) c (Nat.le_refl c)
theorem rowJ_zfn {M D : Nat} {g : Nat → Int32} {m c b : Nat} (h : rowJ M D g m c b) : ∀ n, n ≤ c → rowJ M D (zfn g n) m c b
  | 0, _ => h
  | n + 1, hn => by
    have ih := rowJ_zfn h n (by omega)
    refine rowJ_firm ih (Nat.le_refl M) (Nat.le_refl D) (f := n) (by omega) (fun x _ hx => pk_un (by omega)) ?_
    obtain ⟨k1, k2, k3, k4, k5⟩ := ih.2.2.2.2.2.2.2.1 n (by have := h.2.2.2.1; omega)
    show firmJ M D (upd (zfn g n) (32 * n + 38) _) n
    exact ⟨fun y hy => by rw [pk_un (by omega)]; exact k1 y hy, by rw [pk_un (by omega)]; exact k2, by rw [pk_un (by omega)]; exact k3, by rw [pk_un (by omega)]; exact k4, by rw [pk_un (by omega), pk_un (by omega)]; exact k5⟩
theorem rowJ_zm1 {M D : Nat} {g : Nat → Int32} {m c b : Nat} (h : rowJ M D g m c b) (hm : m + 1 < 240) (hD : D + 11000 < 2 ^ 30) : rowJ M (D + 11000 * ((m + 1) / 12 - m / 12)) (zm1 g c b m) (m + 1) c b := by
  have h0 := rowJ_month (m' := m + 1) h hm
  unfold zm1
  split
  · next q =>
    rw [show (m + 1) / 12 - m / 12 = 1 by omega, Nat.mul_one]
    unfold zyr
    exact rowJ_zla (rowJ_zca h0 hD) _ (by omega)
  · next q =>
    rw [show (m + 1) / 12 - m / 12 = 0 by omega, Nat.mul_zero, Nat.add_zero]
    split
    · exact rowJ_zfn h0 c (Nat.le_refl c)
    · exact h0
theorem zps_8 {M N : Nat → Int32} {Mx D c b m : Nat} (h : eqr M N) (hJ : rowJ Mx D N m c b) (hD : D + 33000 < 2 ^ 30) : ∀ i, i ≤ 24 → m + i < 240 → eqr (zps M 8 b m i) (zps N c b m i) ∧ zpc M 8 b m i = zpc N c b m i ∧ rowJ Mx (D + 11000 * ((i + m) / 12 - m / 12)) (zps N c b m i) (i + m) c b
  | 0, _, _ => by
    refine ⟨h, rfl, ?_⟩
    rw [Nat.zero_add, Nat.sub_self, Nat.mul_zero, Nat.add_zero]
    exact hJ
  | i + 1, hi, hm => by
    obtain ⟨i1, i2, i3⟩ := zps_8 h hJ hD i (by omega) (by omega)
    obtain ⟨k1, k2⟩ := zm1_8 (b := b) i1 (m := i + m) (by omega) hJ.2.2.2.1 i3.2.2.2.2.2.2.2.2
    refine ⟨k1, ?_, ?_⟩
    · simp only [zpc]
      rw [i2, k2]
    · have q := rowJ_zm1 i3 (by omega) (by omega)
      rw [show D + 11000 * ((i + m) / 12 - m / 12) + 11000 * ((i + m + 1) / 12 - (i + m) / 12) = D + 11000 * ((i + 1 + m) / 12 - m / 12) by omega, show i + m + 1 = i + 1 + m by omega] at q
      exact q
/-- what months leave as it is, beside the present row -/
theorem zcf_far {N : Nat → Int32} {f x : Nat} (hf : f < 8) (hx : 349 ≤ x) : zcf N f x = N x := zcf_out (by omega)
theorem zps_far {N : Nat → Int32} {c b m x : Nat} (hc : c ≤ 8) (hm : ∀ i : Nat, i < 25 → m + i < 265) (hx : 349 ≤ x) : ∀ i, i ≤ 24 → m + i < 240 → zps N c b m i x = N x := by
  have hca : ∀ (g : Nat → Int32) n, n ≤ c → zca g n x = g x := by
    intro g n
    induction n with
    | zero => exact fun _ => rfl
    | succ n ih => exact fun hn => (zcf_out (by omega)).trans (ih (by omega))
  have hls : ∀ (g : Nat → Int32) v n, v < 20 → n ≤ c → zls g v n x = g x := by
    intro g v n hv
    induction n with
    | zero => exact fun _ => rfl
    | succ n ih =>
      intro hn
      show zlf (zls g v n) v n x = g x
      unfold zlf
      rw [pk_un (by omega), pk_un (by omega)]
      exact ih (by omega)
  have hla : ∀ (g : Nat → Int32) n, n ≤ 20 → zla g c n x = g x := by
    intro g n
    induction n with
    | zero => exact fun _ => rfl
    | succ n ih => exact fun hn => (hls _ _ _ (by omega) (Nat.le_refl c)).trans (ih (by omega))
  have hfn : ∀ (g : Nat → Int32) n, n ≤ c → zfn g n x = g x := by
    intro g n
    induction n with
    | zero => exact fun _ => rfl
    | succ n ih => exact fun hn => (pk_un (by omega)).trans (ih (by omega))
  intro i
  induction i with
  | zero => exact fun _ _ => rfl
  | succ i ih =>
    intro hi hmi
    show zm1 (zps N c b m i) c b (i + m) x = N x
    have ih := ih (by omega) (by omega)
    unfold zm1
    split
    · unfold zyr
      rw [hla _ _ (by omega), hca _ _ (Nat.le_refl c), pk_un (by omega)]
      exact ih
    · split
      · rw [hfn _ _ (Nat.le_refl c), pk_un (by omega)]
        exact ih
      · rw [pk_un (by omega)]
        exact ih
