/-! who holds the most: places and ranks -/
def bef (g : Nat → Int32) (j k : Nat) : Prop := g k < g j ∨ (g j = g k ∧ j < k)
theorem bef_irr {g : Nat → Int32} {k : Nat} : ¬ bef g k k := by
  rintro (h | ⟨_, h⟩)
  · rw [Int32.lt_iff_toInt_lt] at h; omega
  · omega
theorem bef_trans {g : Nat → Int32} {i j k : Nat} (h : bef g i j) (h2 : bef g j k) : bef g i k := by
  unfold bef at *
  simp only [Int32.lt_iff_toInt_lt, ← Int32.toInt_inj] at *
  omega
theorem bef_tot {g : Nat → Int32} {j k : Nat} (h : j ≠ k) : bef g j k ∨ bef g k j := by
  unfold bef
  simp only [Int32.lt_iff_toInt_lt, ← Int32.toInt_inj]
  omega
theorem zah_T {g : Nat → Int32} {k n : Nat} (h : bef g n k) : zah g (g k) k (n + 1) = zah g (g k) k n + 1 := by
  simp only [zah]
  rcases h with h | ⟨h, h2⟩
  · rw [if_pos h]
  · rw [if_neg (by rw [h, Int32.lt_iff_toInt_lt]; omega), if_pos h, if_neg (by omega)]
theorem zah_F {g : Nat → Int32} {k n : Nat} (h : ¬ bef g n k) : zah g (g k) k (n + 1) = zah g (g k) k n := by
  simp only [zah]
  unfold bef at h
  rw [if_neg (fun q => h (Or.inl q))]
  by_cases e : g n = g k
  · rw [if_pos e, if_pos (by
      rcases Nat.lt_or_ge n k with q | q
      · exact absurd (Or.inr ⟨e, q⟩) h
      · exact q)]
    rfl
  · rw [if_neg e]; rfl
theorem zah_lt {g : Nat → Int32} {k' k : Nat} (h : bef g k' k) : ∀ n, zah g (g k') k' n + (if k' < n then 1 else 0) ≤ zah g (g k) k n
  | 0 => by rw [if_neg (by omega)]; exact Nat.le_refl _
  | n + 1 => by
    have ih := zah_lt h n
    by_cases e : k' = n
    · subst e
      rw [zah_T h, zah_F bef_irr, if_pos (by omega)]
      rw [if_neg (by omega)] at ih
      omega
    · have e2 : (if k' < n + 1 then 1 else 0) = (if k' < n then 1 else 0) := by split <;> split <;> omega
      rw [e2]
      by_cases q : bef g n k'
      · rw [zah_T q, zah_T (bef_trans q h)]; omega
      · rw [zah_F q]
        by_cases q2 : bef g n k
        · rw [zah_T q2]; omega
        · rw [zah_F q2]; exact ih
theorem pos_of {x : Int32} (h : ¬ x ≤ 0) : 0 < x.toInt := by
  rw [Int32.le_iff_toInt_le] at h
  have : (0 : Int32).toInt = 0 := rfl
  omega
theorem npos_of {x : Int32} (h : 0 < x.toInt) : ¬ x ≤ 0 := by
  rw [Int32.le_iff_toInt_le]
  have : (0 : Int32).toInt = 0 := rfl
  omega
theorem zah_cnt {g : Nat → Int32} {k : Nat} (hk : ¬ g k ≤ 0) : ∀ n, zah g (g k) k n + (if k < n then 1 else 0) ≤ zcnt g n
  | 0 => by rw [if_neg (by omega)]; exact Nat.le_refl _
  | n + 1 => by
    have ih := zah_cnt hk n
    simp only [zcnt]
    by_cases e : k = n
    · subst e
      rw [zah_F bef_irr, if_pos (by omega), if_neg hk]
      rw [if_neg (by omega)] at ih
      omega
    · have e2 : (if k < n + 1 then 1 else 0) = (if k < n then 1 else 0) := by split <;> split <;> omega
      rw [e2]
      by_cases q : bef g n k
      · have hn : ¬ g n ≤ 0 := by
          refine npos_of ?_
          have := pos_of hk
          unfold bef at q
          simp only [Int32.lt_iff_toInt_lt, ← Int32.toInt_inj] at q
          omega
        rw [zah_T q, if_neg hn]; omega
      · rw [zah_F q]; exact Nat.le_trans ih (Nat.le_add_right _ _)
theorem zah_last {g : Nat → Int32} {k' : Nat} : ∀ n, 0 < zah g (g k') k' n → ∃ k, k < n ∧ bef g k k' ∧ ∀ j, j < n → bef g j k' → j = k ∨ bef g j k
  | 0, h => absurd h (Nat.lt_irrefl 0)
  | n + 1, h => by
    by_cases q : bef g n k'
    · by_cases z : 0 < zah g (g k') k' n
      · obtain ⟨k, h1, h2, h3⟩ := zah_last n z
        rcases bef_tot (g := g) (show n ≠ k by omega) with t | t
        · refine ⟨k, by omega, h2, fun j hj hb => ?_⟩
          by_cases e : j = n
          · subst e; exact Or.inr t
          · exact h3 j (by omega) hb
        · refine ⟨n, by omega, q, fun j hj hb => ?_⟩
          by_cases e : j = n
          · exact Or.inl e
          · rcases h3 j (by omega) hb with e | e
            · subst e; exact Or.inr t
            · exact Or.inr (bef_trans e t)
      · refine ⟨n, by omega, q, fun j hj hb => ?_⟩
        by_cases e : j = n
        · exact Or.inl e
        · exfalso
          have : ∀ m, j < m → 0 < zah g (g k') k' m := by
            intro m
            induction m with
            | zero => exact fun h => absurd h (Nat.not_lt_zero j)
            | succ m ih =>
              intro hm
              by_cases e : j = m
              · subst e; rw [zah_T hb]; omega
              · have := ih (by omega)
                by_cases w : bef g m k'
                · rw [zah_T w]; omega
                · rw [zah_F w]; exact this
          exact z (this n (by omega))
    · rw [zah_F q] at h
      obtain ⟨k, h1, h2, h3⟩ := zah_last n h
      refine ⟨k, by omega, h2, fun j hj hb => ?_⟩
      by_cases e : j = n
      · subst e; exact absurd hb q
      · exact h3 j (by omega) hb
theorem zah_le1 {g : Nat → Int32} {k' k N : Nat} (h : ∀ j, j < N → bef g j k' → j = k ∨ bef g j k) : ∀ n, n ≤ N → zah g (g k') k' n ≤ zah g (g k) k n + (if k < n then 1 else 0)
  | 0, _ => Nat.zero_le _
  | n + 1, hn => by
    have ih := zah_le1 h n (by omega)
    have m1 : (if k < n then 1 else 0) ≤ (if k < n + 1 then 1 else 0) := by split <;> split <;> omega
    by_cases q : bef g n k'
    · rw [zah_T q]
      rcases h n (by omega) q with e | e
      · subst e
        rw [zah_F bef_irr, if_pos (by omega)]
        rw [if_neg (by omega)] at ih
        omega
      · rw [zah_T e]; omega
    · rw [zah_F q]
      by_cases w : bef g n k
      · rw [zah_T w]; omega
      · rw [zah_F w]; omega
theorem zah_prev {g : Nat → Int32} {k' r : Nat} (hk : ¬ g k' ≤ 0) (h : zah g (g k') k' 8 = r + 1) : ∃ k, k < 8 ∧ ¬ g k ≤ 0 ∧ zah g (g k) k 8 = r := by
  obtain ⟨k, h1, h2, h3⟩ := zah_last 8 (show 0 < zah g (g k') k' 8 by omega)
  have a := zah_lt h2 8
  have b := zah_le1 h3 8 (Nat.le_refl 8)
  rw [if_pos h1] at a b
  refine ⟨k, h1, ?_, by omega⟩
  refine npos_of ?_
  have := pos_of hk
  unfold bef at h2
  simp only [Int32.lt_iff_toInt_lt, ← Int32.toInt_inj] at h2
  omega
theorem zhol_spec {g : Nat → Int32} {c : Nat} {x : Int32} : ∀ n, n ≤ 8 → (zhol g c x n = -5 ∧ ∀ k, k < n → ¬ g k ≤ 0 → ¬ nI (zah g (g k) k c) = x) ∨ ∃ k, k < n ∧ zhol g c x n = nI k ∧ ¬ g k ≤ 0 ∧ nI (zah g (g k) k c) = x
  | 0, _ => Or.inl ⟨rfl, fun k hk => absurd hk (Nat.not_lt_zero k)⟩
  | n + 1, hn => by
    rcases zhol_spec (g := g) (c := c) (x := x) n (by omega) with ⟨h1, h2⟩ | ⟨k, h1, h2, h3, h4⟩
    · simp only [zhol]
      rw [if_pos h1]
      by_cases q : g n ≤ 0
      · rw [if_pos q]
        exact Or.inl ⟨rfl, fun k hk hp => by
          by_cases e : k = n
          · subst e; exact absurd q hp
          · exact h2 k (by omega) hp⟩
      · rw [if_neg q]
        by_cases w : nI (zah g (g n) n c) = x
        · rw [if_pos w]
          exact Or.inr ⟨n, by omega, rfl, q, w⟩
        · rw [if_neg w]
          exact Or.inl ⟨rfl, fun k hk hp => by
            by_cases e : k = n
            · subst e; exact w
            · exact h2 k (by omega) hp⟩
    · refine Or.inr ⟨k, by omega, ?_, h3, h4⟩
      simp only [zhol]
      rw [h2, if_neg]
      intro q
      have := nI_pos' (show k < 2 ^ 31 by omega)
      rw [q] at this
      exact absurd this (by decide +kernel)
def hoF (μ : Nat → Int32) (v f : Nat) : Int32 := zhol (fun f => μ (32 * f + v + 7)) 8 (nI f) 8
def SM (μ : Nat → Int32) (v f : Nat) : Int32 := zsum (fun f => μ (32 * f + v + 7)) f
def HC (μ : Nat → Int32) (v f : Nat) : Nat := zcnt (fun f => μ (32 * f + v + 7)) f
def LA (μ : Nat → Int32) (v f : Nat) : Int32 := match f with
  | 0 => 1000000000
  | f + 1 => if hoF μ v f < 0 then nI 0 else μ (32 * (hoF μ v f).toInt.toNat + v + 7)
theorem SM_s {μ : Nat → Int32} {v f : Nat} : SM μ v (f + 1) = SM μ v f + μ (32 * f + v + 7) := rfl
theorem HC_T {μ : Nat → Int32} {v f : Nat} (h : μ (32 * f + v + 7) ≤ 0) : HC μ v (f + 1) = HC μ v f := by
  show zcnt _ f + (if μ (32 * f + v + 7) ≤ 0 then 0 else 1) = zcnt _ f
  rw [if_pos h]; rfl
theorem HC_F {μ : Nat → Int32} {v f : Nat} (h : ¬ μ (32 * f + v + 7) ≤ 0) : HC μ v (f + 1) = HC μ v f + 1 := by
  show zcnt _ f + (if μ (32 * f + v + 7) ≤ 0 then 0 else 1) = zcnt _ f + 1
  rw [if_neg h]
theorem LA_T {μ : Nat → Int32} {v f : Nat} (h : hoF μ v f < 0) : LA μ v (f + 1) = nI 0 := by
  rw [show LA μ v (f + 1) = (if hoF μ v f < 0 then nI 0 else μ (32 * (hoF μ v f).toInt.toNat + v + 7)) from rfl, if_pos h]
theorem LA_F {μ : Nat → Int32} {v f k : Nat} (h : hoF μ v f = nI k) (hk : k < 8) : LA μ v (f + 1) = μ (32 * k + v + 7) := by
  show (if hoF μ v f < 0 then nI 0 else μ (32 * (hoF μ v f).toInt.toNat + v + 7)) = _
  rw [h, if_neg (nI_pos (by omega)), nI_toInt (by omega)]
  rfl
section FX
variable {B m c b r z : Nat} {μ : Nat → Int32}
theorem hoF_is {v f : Nat} (hf : f < 9) (h : ¬ hoF μ v f < 0) : ∃ k, k < 8 ∧ hoF μ v f = nI k ∧ ¬ μ (32 * k + v + 7) ≤ 0 ∧ zah (fun f => μ (32 * f + v + 7)) (μ (32 * k + v + 7)) k 8 = f := by
  rcases zhol_spec (g := fun f => μ (32 * f + v + 7)) (c := 8) (x := nI f) 8 (Nat.le_refl 8) with ⟨h1, _⟩ | ⟨k, h1, h2, h3, h4⟩
  · exact absurd (show hoF μ v f < 0 by unfold hoF; rw [h1]; decide +kernel) h
  · have := zah_le (fun f => μ (32 * f + v + 7)) (μ (32 * k + v + 7)) k 8
    exact ⟨k, h1, h2, h3, (nI_eq (by omega) (by omega)).mp h4⟩
theorem hoF_no {v f : Nat} (h : hoF μ v f = -5 → False) : ¬ hoF μ v f < 0 := by
  rcases zhol_spec (g := fun f => μ (32 * f + v + 7)) (c := 8) (x := nI f) 8 (Nat.le_refl 8) with ⟨h1, _⟩ | ⟨k, h1, h2, h3, h4⟩
  · exact absurd h1 h
  · have e : hoF μ v f = nI k := h2
    rw [e]; exact nI_pos (by omega)
theorem xs2 (I : rowI B μ m c b) {v : Nat} (hv : v < 20) : vinF μ v 1 = SM μ v c := zsum_8 I.2.2.2.1 (fun _ _ => rfl) (fun i h1 h2 => I.2.2.2.2.2.2.2.2 i h1 h2 v (by omega))
theorem xs3 (I : rowI B μ m c b) {v : Nat} (hv : v < 20) : vinF μ v 5 = nI (HC μ v c) := congrArg nI (zcnt_8 I.2.2.2.1 (fun _ _ => rfl) (fun i h1 h2 => I.2.2.2.2.2.2.2.2 i h1 h2 v (by omega)))
theorem HC_8 (I : rowI B μ m c b) {v : Nat} (hv : v < 20) : zcnt (fun f => μ (32 * f + v + 7)) 8 = HC μ v c := zcnt_8 I.2.2.2.1 (fun _ _ => rfl) (fun i h1 h2 => I.2.2.2.2.2.2.2.2 i h1 h2 v (by omega))
theorem HC_le {v f : Nat} : HC μ v f ≤ f := zcnt_le _ f
theorem xs4 (I : rowI B μ m c b) {v : Nat} (hv : v < 20) : hoF μ v (HC μ v c) = -5 := by
  have hc := HC_le (μ := μ) (v := v) (f := c)
  have h8 := I.2.2.2.1
  rcases zhol_spec (g := fun f => μ (32 * f + v + 7)) (c := 8) (x := nI (HC μ v c)) 8 (Nat.le_refl 8) with ⟨h1, _⟩ | ⟨k, h1, h2, h3, h4⟩
  · exact h1
  · exfalso
    have q1 := zah_le (fun f => μ (32 * f + v + 7)) (μ (32 * k + v + 7)) k 8
    have q2 := zah_cnt (g := fun f => μ (32 * f + v + 7)) (k := k) h3 8
    rw [if_pos h1, HC_8 I hv] at q2
    have := (nI_eq (by omega) (by omega)).mp h4
    omega
theorem xs5 (hB : B ≤ 600) (I : rowI B μ m c b) {v f : Nat} (hv : v < 20) (hf : f < c) (h : ¬ hoF μ v f < 0) : ∃ k, k < c ∧ hoF μ v f = nI k ∧ ¬ μ (32 * k + v + 7) < nI 1 ∧ μ (32 * k + v + 7) ≤ LA μ v f := by
  have h8 := I.2.2.2.1
  obtain ⟨k, h1, h2, h3, h4⟩ := hoF_is (by omega) h
  have hkc : k < c := by
    rcases Nat.lt_or_ge k c with q | q
    · exact q
    · exact absurd (by rw [I.2.2.2.2.2.2.2.2 k q h1 v (by omega), nI_0]; exact Int32.le_refl _) h3
  have hp := pos_of h3
  refine ⟨k, hkc, h2, by rw [Int32.lt_iff_toInt_lt, nI_toInt (by omega)]; omega, ?_⟩
  rcases Nat.eq_zero_or_pos f with hz | hpos
  · subst hz
    have := ((I.2.2.2.2.2.2.2.1 k h1).1 v (by omega)).2
    rw [Int32.le_iff_toInt_le]
    have e0 : LA μ v 0 = 1000000000 := rfl
    have e1 : (1000000000 : Int32).toInt = 1000000000 := by decide +kernel
    rw [e0, e1]; omega
  · obtain ⟨f, rfl⟩ : ∃ p, f = p + 1 := ⟨f - 1, by omega⟩
    obtain ⟨k2, a1, a2, a3⟩ := zah_prev (g := fun f => μ (32 * f + v + 7)) h3 h4
    have hno : ¬ hoF μ v f < 0 := hoF_no (fun q => by
      rcases zhol_spec (g := fun f => μ (32 * f + v + 7)) (c := 8) (x := nI f) 8 (Nat.le_refl 8) with ⟨_, w⟩ | ⟨k3, b1, b2, _, _⟩
      · exact w k2 a1 a2 (by rw [a3])
      · have e : hoF μ v f = nI k3 := b2
        rw [q] at e
        have := nI_pos' (show k3 < 2 ^ 31 by omega)
        rw [← e] at this
        exact absurd this (by decide +kernel))
    obtain ⟨k3, b1, b2, b3, b4⟩ := hoF_is (by omega) hno
    rw [LA_F b2 b1, Int32.le_iff_toInt_le]
    rcases Int.lt_or_le (μ (32 * k3 + v + 7)).toInt (μ (32 * k + v + 7)).toInt with q | q
    · exfalso
      have := zah_lt (g := fun f => μ (32 * f + v + 7)) (k' := k) (k := k3) (Or.inl (by rw [Int32.lt_iff_toInt_lt]; exact q)) 8
      rw [if_pos h1] at this
      omega
    · exact q
/-- a sum of what is not negative -/
theorem zsum_pos {g : Nat → Int32} {M : Nat} : ∀ n, (∀ i, i < n → inr (g i) M) → n * M < 2 ^ 31 → (zsum g n = 0 ↔ zcnt g n = 0)
  | 0, _, _ => ⟨fun _ => rfl, fun _ => nI_0⟩
  | n + 1, h, hb => by
    have hnM : n * M + M = (n + 1) * M := (Nat.succ_mul n M).symm
    have ih := zsum_pos n (fun i hi => h i (by omega)) (by omega)
    have s := inr_sum n (fun i hi => h i (by omega)) (by omega)
    have e := i32_add2 s.1 (h n (by omega)).1 (by have := s.2; have := (h n (by omega)).2; omega)
    have z0 : (0 : Int32).toInt = 0 := rfl
    have h1 := s.1
    have h2 := (h n (by omega)).1
    simp only [zsum, zcnt]
    rw [← Int32.toInt_inj] at ih ⊢
    rw [e]
    by_cases q : g n ≤ 0
    · rw [if_pos q, le0_of h2 q, Nat.add_zero]
      rw [z0] at ih ⊢
      omega
    · rw [if_neg q]
      have := pos_of q
      rw [z0]
      omega
theorem SM_0 (hB : B ≤ 600) (I : rowI B μ m c b) {v : Nat} (hv : v < 20) : SM μ v c = 0 ↔ zcnt (fun f => μ (32 * f + v + 7)) 8 = 0 := by
  have h8 := I.2.2.2.1
  rw [HC_8 I hv]
  exact zsum_pos (M := 100000 * B) c (fun i hi => (I.2.2.2.2.2.2.2.1 i (by omega)).1 v (by omega)) (by have := Nat.mul_le_mul h8 (show 100000 * B ≤ 60000000 by omega); omega)
theorem xs6 (I : rowI B μ m c b) (N : SND μ m) {v : Nat} (hv : v < 20) (h : ¬ nI v ≤ cntF μ 1) : vinF μ v 0 = 0 := by
  have hm := zto I.1 (by have := I.2.1; omega)
  have hm2 := I.2.1
  have e : cntF μ 1 = nI (m / 12) := by show nI ((μ 0).toInt.toNat / 12) = _; rw [hm]
  rw [e] at h
  have : m / 12 < v := by
    rcases Nat.lt_or_ge (m / 12) v with q | q
    · exact q
    · exact absurd (nI_le q (by omega)) h
  rw [← nI_0]
  exact N.2.1 v hv this
theorem vin6 (I : rowI B μ m c b) {v : Nat} : vinF μ v 6 = zmoC (fun f => μ (32 * f + v + 7)) v b (m / 12) m := by
  have hm := zto I.1 (by have := I.2.1; omega)
  have hb := zto I.2.2.2.2.1 (by have := I.2.2.2.2.2.2.1; omega)
  show zmoC _ v (μ 5).toInt.toNat ((μ 0).toInt.toNat / 12) (μ 0).toInt.toNat = _
  rw [hm, hb]
theorem xs7 (hB : B ≤ 600) (I : rowI B μ m c b) {v : Nat} (hv : v < 20) (h : SM μ v c = 0) : vinF μ v 6 = -5 := by
  rw [vin6 I]
  unfold zmoC
  rw [if_pos ((SM_0 hB I hv).mp h)]
theorem xs8 (hB : B ≤ 600) (I : rowI B μ m c b) {v : Nat} (hv : v < 20) (h : ¬ SM μ v c = 0) : ∃ q, vinF μ v 6 = nI q ∧ 1 ≤ q ∧ q ≤ 1000 ∧ (q + m) % 12 = 0 ∧ v < (q + m) / 12 := by
  have hm2 := I.2.1
  have hb5 := I.2.2.2.2.2.2.1
  rw [vin6 I]
  unfold zmoC
  rw [if_neg (fun q => h ((SM_0 hB I hv).mpr q)), pk_sub (by omega)]
  exact ⟨12 * (max (v + b) (m / 12) + 1) - m, rfl, by omega, by omega, by omega, by omega⟩
theorem xs9 {f k : Nat} : ¬ offF μ f k 1 < 0 := by
  show ¬ zmax (nI 0) (μ (32 * f + 35) * μ (k + 2) / nI 100 - μ (32 * f + k + 30)) < 0
  rw [zmax_0]
  split
  · next q => rw [Int32.lt_iff_toInt_lt]; rw [Int32.le_iff_toInt_le] at q; omega
  · exact nI_pos (by omega)
theorem ngt0 {x : Int32} (h : 0 ≤ x.toInt) : ¬ x < 0 := by
  rw [Int32.lt_iff_toInt_lt]
  have : (0 : Int32).toInt = 0 := rfl
  omega
theorem off_0 (I : rowI B μ m c b) {f k : Nat} (hf : f < 8) (hk : k < 3) : 0 ≤ (μ (32 * f + k + 27)).toInt := by
  have := held_0 I hf (k + 20) (by omega)
  rw [show 32 * f + (k + 20) + 7 = 32 * f + k + 27 by omega] at this
  exact this
theorem xs10 (I : rowI B μ m c b) {f k : Nat} (hf : f < c) (hk : k < 3) : ¬ offF μ f k 0 < 0 := ngt0 (off_0 I (by have := I.2.2.2.1; omega) hk)
theorem xs11 (I : rowI B μ m c b) (N : SND μ m) {f k : Nat} (hf : f < c) (hk : k < 3) : 0 ≤ offF μ f k 2 := ge0 ((N.2.2.2.2.1 f (by have := I.2.2.2.1; omega)).2.2 k hk).1
theorem xs13 (I : rowI B μ m c b) {k : Nat} (hk : k < 3) : graF μ k 1 = zsum (fun f => offF μ f k 0) c := zsum_8 I.2.2.2.1 (fun _ _ => rfl) (fun i h1 h2 => by
  have := I.2.2.2.2.2.2.2.2 i h1 h2 (k + 20) (by omega)
  rw [show 32 * i + (k + 20) + 7 = 32 * i + k + 27 by omega] at this
  exact this)
theorem xs14 (I : rowI B μ m c b) {f : Nat} (hf : f < c) : ¬ nI 9999 < firF μ f 4 + firF μ f 5 := by
  obtain ⟨_, _, k3, k4, k5⟩ := I.2.2.2.2.2.2.2.1 f (by have := I.2.2.2.1; omega)
  show ¬ nI 9999 < μ (32 * f + 33) + μ (32 * f + 34)
  rw [Int32.lt_iff_toInt_lt, i32_add2 k3 k4 (by omega), nI_toInt (by omega)]
  omega
theorem xs15 (I : rowI B μ m c b) (N : SND μ m) {f : Nat} (hf : f < c) : ¬ nI 10999 < firF μ f 6 := by
  have := (N.2.2.2.2.1 f (by have := I.2.2.2.1; omega)).1.2
  show ¬ nI 10999 < μ (32 * f + 35)
  rw [Int32.lt_iff_toInt_lt, nI_toInt (by omega)]
  omega
theorem xs16 (hB : B ≤ 600) (I : rowI B μ m c b) {f : Nat} (hf : f < c) : ¬ firF μ f 7 < firF μ f 10 := by
  have h8 := I.2.2.2.1
  have hI := I.2.2.2.2.2.2.2.1 f (by omega)
  have hs := inr_sd hI hB 3 (by omega)
  rw [← zsd_eq (μ := μ) (fun _ _ => rfl) (by omega) 3 (by omega)] at hs
  have hd := hI.2.1
  show ¬ μ (32 * f + 36) < zmax (nI 0) (μ (32 * f + 36) - zsdC μ f 3)
  have e : (μ (32 * f + 36) - zsdC μ f 3).toInt = (μ (32 * f + 36)).toInt - (zsdC μ f 3).toInt := by
    rw [Int32.toInt_sub]
    have := hs.1; have := hs.2; have := hd.1; have := hd.2
    exact Int.bmod_eq_of_le (by omega) (by omega)
  have h1 := hs.1
  have h2 := hd.1
  unfold zmax
  split
  · rw [Int32.lt_iff_toInt_lt, e]; omega
  · rw [Int32.lt_iff_toInt_lt, nI_toInt (by omega)]; omega
theorem fir01 (hB : B ≤ 600) (I : rowI B μ m c b) {f : Nat} (hf : f < c) : firF μ f 0 = 0 ↔ firF μ f 1 = 0 := by
  have h8 := I.2.2.2.1
  have q := zsum_pos (g := fun v => μ (32 * f + v + 7)) (M := 100000 * B) 20 (fun i hi => (I.2.2.2.2.2.2.2.1 f (by omega)).1 i (by omega)) (by omega)
  have h2 := zcnt_le (fun v => μ (32 * f + v + 7)) 20
  have e : firF μ f 1 = 0 ↔ zcnt (fun v => μ (32 * f + v + 7)) 20 = 0 := by
    show nI (zcnt (fun v => μ (32 * f + v + 7)) 20) = 0 ↔ _
    rw [← nI_0]
    exact nI_eq (by omega) (by omega)
  rw [e]
  exact q
theorem zsum_swap {a : Nat → Nat → Int32} (n : Nat) : ∀ k, zsum (fun v => zsum (fun f => a f v) n) k = zsum (fun f => zsum (fun v => a f v) k) n
  | 0 => (zsum_0 n (fun _ _ => rfl)).symm
  | k + 1 => by
    show zsum (fun v => zsum (fun f => a f v) n) k + zsum (fun f => a f k) n = zsum (fun f => zsum (fun v => a f v) k + a f k) n
    rw [zsum_swap n k, zsum_add]
def GO (μ : Nat → Int32) : Nat → Int32
  | 0 => zsum (fun v => vinF μ v 2) 20
  | k + 1 => GO μ k + graF μ k 2
theorem xs19 (I : rowI B μ m c b) (N : SND μ m) : zsum (fun f => firF μ f 8) c = GO μ 3 := by
  have e : zsum (fun f => μ (32 * f + 37)) 8 = zsum (fun f => firF μ f 8) c := zsum_8 I.2.2.2.1 (fun _ _ => rfl) (fun i h1 h2 => I.2.2.2.2.2.2.2.2 i h1 h2 30 (by omega))
  have s := N.2.2.2.1
  unfold SD at s
  rw [← e, s]
  show zsum (fun v => μ (v + 283)) 20 + (nI 0 + μ 346 + μ 347 + μ 348) = zsum (fun v => μ (v + 283)) 20 + μ 346 + μ 347 + μ 348
  rw [nI_0]
  grind
theorem xs20 (I : rowI B μ m c b) : zsum (fun f => firF μ f 7) c = cntF μ 8 := (zsum_8 (g := fun f => μ (32 * f + 36)) I.2.2.2.1 (fun _ _ => rfl) (fun i h1 h2 => I.2.2.2.2.2.2.2.2 i h1 h2 29 (by omega))).symm
theorem xs21 (I : rowI B μ m c b) : zsum (fun f => firF μ f 9) c = cntF μ 9 := (zsum_8 (g := fun f => μ (32 * f + 38)) I.2.2.2.1 (fun _ _ => rfl) (fun i h1 h2 => I.2.2.2.2.2.2.2.2 i h1 h2 31 (by omega))).symm
theorem xs22 (I : rowI B μ m c b) : zsum (fun v => SM μ v c) 20 = cntF μ 10 := by
  show _ = zsum (fun f => zsum (fun v => μ (32 * f + v + 7)) 20) 8
  rw [← zsum_swap (a := fun f v => μ (32 * f + v + 7)) 8 20]
  exact zsum_cong (fun v hv => (xs2 I hv).symm)
def D12 (m : Nat) : Nat := if m % 12 < 4 ∧ 0 < m / 12 then 4 - m % 12 else 16 - m % 12
theorem D12_4 (m : Nat) : (m + D12 m) % 12 = 4 ∧ D12 m ≤ 16 := by
  unfold D12
  split <;> omega
end FX
