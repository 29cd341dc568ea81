/-! what a surrender would take, on both sides -/
def lix (w i : Nat) : Nat := if w = 1 then 19 - i else i
def hM (μ M : Nat → Int32) : Prop := ∀ x, (x < 2455 ∨ 2483 ≤ x) → M x = μ x
def hN (ν N : Nat → Int32) : Prop := ∀ x, x ≠ 2450 → x ≠ 2451 → (x < 2520 ∨ 2543 ≤ x) → N x = ν x
/-- a taking x of what a place h holds -/
def tak (x h : Int32) : Prop := 0 ≤ x.toInt ∧ x ≤ h
theorem tak_min {k : Nat} {h : Int32} (h0 : 0 ≤ h.toInt) : tak (zmin (nI k) h) h ∨ 2 ^ 31 ≤ k := by
  by_cases hk : k < 2 ^ 31
  · left
    unfold zmin tak
    split
    · next q => exact ⟨by rw [nI_toInt hk]; omega, by rw [Int32.lt_iff_toInt_lt] at q; rw [Int32.le_iff_toInt_le]; omega⟩
    · exact ⟨h0, Int32.le_refl _⟩
  · right; omega
theorem zmin_le {k : Nat} {h : Int32} (hk : k < 2 ^ 31) (h0 : 0 ≤ h.toInt) : ∃ s, s ≤ k ∧ zmin (nI k) h = nI s ∧ (s : Int) ≤ h.toInt := by
  obtain ⟨j, e, ej, hj⟩ := inr_nat h0
  subst e
  rw [zmin_nI hk hj]
  exact ⟨min k j, Nat.min_le_left _ _, rfl, by rw [nI_toInt hj]; omega⟩
def gI (S : Nat → Prop) (μ ν M N : Nat → Int32) (f : Nat) : Prop :=
  hM μ M ∧ hN ν N ∧ (∃ k, k ≤ 9999 ∧ M 2458 = nI k ∧ N 2450 = nI k) ∧ M 2455 = nI 0 ∧ M 2456 = nI 0 ∧ M 2457 = -5 ∧ N 2451 = -5 ∧ ∀ g, g < 3 → S g → M (g + 2480) = N (g + 2540) ∧ tak (N (g + 2540)) (ν (32 * f + g + 27))
theorem gI_0 {S : Nat → Prop} {μ ν : Nat → Int32} {f t : Nat} (hS : ∀ g, ¬ S g) (ht : t ≤ 9999) : gI S μ ν (upd (upd (upd (upd μ 2458 (nI t)) 2455 (nI 0)) 2456 (nI 0)) 2457 (-5)) (upd (upd ν 2450 (nI t)) 2451 (-5)) f := by
  refine ⟨fun x hx => by rw [pk_un (by omega), pk_un (by omega), pk_un (by omega), pk_un (by omega)], fun x h1 h2 _ => by rw [pk_un h2, pk_un h1], ⟨t, ht, ?_, ?_⟩, ?_, ?_, pk_us, pk_us, fun g _ h => absurd h (hS g)⟩
  · rw [pk_un (by omega), pk_un (by omega), pk_un (by omega), pk_us]
  · rw [pk_un (by omega), pk_us]
  · rw [pk_un (by omega), pk_un (by omega), pk_us]
  · rw [pk_un (by omega), pk_us]
theorem gI_step {B : Nat} {S S' : Nat → Prop} {μ ν M N : Nat → Int32} {f w g0 : Nat} (h : gI S μ ν M N f) (P : eqr μ ν) (hI : firmI B ν f) (hf : f < 8) (hg : g0 < 3) (hS : ∀ g, S' g → S g ∨ g = g0) (hn : ¬ S g0) : gI S' μ ν (cgm M f w g0) (zgm N f w g0) f := by
  obtain ⟨h1, h2, ⟨k, hk, k1, k2⟩, h4, h5, h6, h7, h8⟩ := h
  have hh : inr (ν (32 * f + g0 + 27)) (100000 * B) := by
    have q := hI.1 (g0 + 20) (by omega)
    rw [show 32 * f + (g0 + 20) + 7 = 32 * f + g0 + 27 by omega] at q
    exact q
  -- what is taken, the same on both sides
  have hx : ∃ s, s ≤ k ∧ cgx M f w g0 = nI s ∧ zgx N f w g0 = nI s ∧ tak (nI s) (ν (32 * f + g0 + 27)) := by
    unfold cgx zgx
    rw [k1, k2]
    by_cases q : w = 2
    · subst q
      rw [if_pos rfl, if_pos rfl]
      have e1 : zcu M f g0 (M (g0 + 2)) = zmin (ν (32 * f + g0 + 27)) (zmay ν f g0) := by
        unfold zcu
        rw [zmay_eq (ν := ν) (fun x hx => (h1 x (by omega)).trans (P x hx)) hf (by omega), h1 _ (by omega), P _ (by omega)]
      have e2 : zmin (N (32 * f + g0 + 27)) (zmay N f g0) = zmin (ν (32 * f + g0 + 27)) (zmay ν f g0) := by
        unfold zmay
        rw [h2 (32 * f + g0 + 27) (by omega) (by omega) (by omega), h2 (32 * f + 35) (by omega) (by omega) (by omega), h2 (g0 + 2) (by omega) (by omega) (by omega), h2 (32 * f + g0 + 30) (by omega) (by omega) (by omega)]
      rw [e1, e2]
      have m0 := inr_min hh (zmay_0 ν f g0)
      obtain ⟨s, s1, s2, s3⟩ := zmin_le (k := k) (by omega) m0.1
      refine ⟨s, s1, s2, s2, by rw [nI_toInt (by omega)]; omega, ?_⟩
      rw [Int32.le_iff_toInt_le, nI_toInt (by omega)]
      have : (zmin (ν (32 * f + g0 + 27)) (zmay ν f g0)).toInt ≤ (ν (32 * f + g0 + 27)).toInt := by
        unfold zmin
        split
        · exact Int.le_refl _
        · next q => rw [Int32.lt_iff_toInt_lt] at q; omega
      omega
    · rw [if_neg q, if_neg q]
      refine ⟨0, by omega, ?_, rfl, by rw [nI_toInt (by omega)]; omega, ?_⟩
      · rw [zmin_nI (by omega) (by omega)]
        rw [Nat.min_eq_right (by omega)]
      · rw [Int32.le_iff_toInt_le, nI_toInt (by omega)]
        exact hh.1
  obtain ⟨s, s1, s2, s3, s4⟩ := hx
  unfold cgm zgm
  rw [s2, s3, k1, k2, pk_sub s1]
  refine ⟨fun x hx => by rw [pk_un (by omega), pk_un (by omega)]; exact h1 x hx, fun x a1 a2 a3 => by rw [pk_un a1, pk_un (by omega)]; exact h2 x a1 a2 a3, ⟨k - s, by omega, pk_us, pk_us⟩, ?_, ?_, ?_, ?_, fun g hg3 hgS => ?_⟩
  · rw [pk_un (by omega), pk_un (by omega)]; exact h4
  · rw [pk_un (by omega), pk_un (by omega)]; exact h5
  · rw [pk_un (by omega), pk_un (by omega)]; exact h6
  · rw [pk_un (by omega), pk_un (by omega)]; exact h7
  · by_cases e : g = g0
    · subst e
      rw [pk_un (by omega), pk_us, pk_un (by omega), pk_us]
      exact ⟨rfl, s4⟩
    · have := (hS g hgS).resolve_right e
      rw [pk_un (by omega), pk_un (by omega), pk_un (by omega), pk_un (by omega)]
      exact h8 g hg3 this
/-- after i vintages -/
def vI (w i : Nat) (μ ν M N : Nat → Int32) (f : Nat) : Prop :=
  hM μ M ∧ hN ν N ∧ (∃ k, k ≤ 9999 ∧ M 2458 = nI k ∧ N 2450 = nI k) ∧ M 2455 = zsum (fun j => N (lix w j + 2520)) i ∧ M 2456 = nI (zcnt (fun j => N (lix w j + 2520)) i) ∧ M 2457 = N 2451 ∧ (zcnt (fun j => N (lix w j + 2520)) i = 0 → N 2451 = -5) ∧ (0 < zcnt (fun j => N (lix w j + 2520)) i → ¬ N 2451 = -5) ∧ (∀ j, j < i → M (lix w j + 2460) = N (lix w j + 2520) ∧ tak (N (lix w j + 2520)) (ν (32 * f + lix w j + 7))) ∧ ∀ g, g < 3 → M (g + 2480) = N (g + 2540) ∧ tak (N (g + 2540)) (ν (32 * f + g + 27))
theorem lix_lt {w i : Nat} (h : i < 20) : lix w i < 20 := by unfold lix; split <;> omega
theorem lix_ne {w i j : Nat} (h : i < 20) (hj : j < i) : lix w j ≠ lix w i := by unfold lix; split <;> omega
theorem vI_step {B : Nat} {μ ν M N : Nat → Int32} {f w i : Nat} (h : vI w i μ ν M N f) (P : eqr μ ν) (hI : firmI B ν f) (hf : f < 8) (hi : i < 20) : vI w (i + 1) μ ν (ctv M f (lix w i)) (ztv N f (lix w i)) f := by
  obtain ⟨h1, h2, ⟨k, hk, k1, k2⟩, h4, h5, h6, h7, h8, h9, h10⟩ := h
  have hl := lix_lt (w := w) hi
  have hh : inr (ν (32 * f + lix w i + 7)) (100000 * B) := hI.1 (lix w i) (by omega)
  obtain ⟨s, s1, s2, s3⟩ := zmin_le (k := k) (by omega) hh.1
  have c1 : ztu M f (lix w i) = nI s := by
    unfold ztu
    rw [k1, h1 (32 * f + lix w i + 7) (by omega), P _ (by omega)]
    exact s2
  have r1 : zmin (N 2450) (N (32 * f + lix w i + 7)) = nI s := by
    rw [k2, h2 (32 * f + lix w i + 7) (by omega) (by omega) (by omega)]
    exact s2
  have tk : tak (nI s) (ν (32 * f + lix w i + 7)) := ⟨by rw [nI_toInt (by omega)]; omega, by rw [Int32.le_iff_toInt_le, nI_toInt (by omega)]; exact s3⟩
  -- the reference's memory then
  have eN : ztv N f (lix w i) = upd (upd (upd N (lix w i + 2520) (nI s)) 2451 (if N 2451 = -5 then (if nI s ≤ 0 then N 2451 else nI (lix w i)) else N 2451)) 2450 (nI (k - s)) := by
    unfold ztv
    rw [r1, k2, pk_sub s1]
  have nT : ∀ j, j < i → ztv N f (lix w i) (lix w j + 2520) = N (lix w j + 2520) := by
    intro j hj
    have := lix_ne (w := w) hi hj
    rw [eN, pk_un (by omega), pk_un (by omega), pk_un (by omega)]
  have nI' : ztv N f (lix w i) (lix w i + 2520) = nI s := by
    rw [eN, pk_un (by omega), pk_un (by omega), pk_us]
  have nF : ztv N f (lix w i) 2451 = if N 2451 = -5 then (if nI s ≤ 0 then N 2451 else nI (lix w i)) else N 2451 := by
    rw [eN, pk_un (by omega), pk_us]
  have nO : ∀ x, x ≠ 2450 → x ≠ 2451 → (x < 2520 ∨ 2540 ≤ x) → ztv N f (lix w i) x = N x := by
    intro x a1 a2 a3
    rw [eN, pk_un a1, pk_un a2, pk_un (by omega)]
  have nS : zsum (fun j => ztv N f (lix w i) (lix w j + 2520)) (i + 1) = zsum (fun j => N (lix w j + 2520)) i + nI s := by
    simp only [zsum]
    rw [nI', zsum_cong (fun j hj => nT j hj)]
  have nC : zcnt (fun j => ztv N f (lix w i) (lix w j + 2520)) (i + 1) = zcnt (fun j => N (lix w j + 2520)) i + (if nI s ≤ 0 then 0 else 1) := by
    show zcnt (fun j => ztv N f (lix w i) (lix w j + 2520)) i + (if ztv N f (lix w i) (lix w i + 2520) ≤ 0 then 0 else 1) = _
    rw [nI', zcnt_cong (g := fun j => ztv N f (lix w i) (lix w j + 2520)) (g' := fun j => N (lix w j + 2520)) nT]
  have hN' : hN ν (ztv N f (lix w i)) := fun x a1 a2 a3 => (nO x a1 a2 (by omega)).trans (h2 x a1 a2 a3)
  have nQ : ztv N f (lix w i) 2450 = nI (k - s) := by rw [eN, pk_us]
  have hle : ∀ j, j < 20 → ¬ nI j = (-5 : Int32) := by
    intro j hj q
    have e := congrArg Int32.toInt q
    rw [nI_toInt (by omega)] at e
    have : (-5 : Int32).toInt = -5 := by decide +kernel
    omega
  have cle := zcnt_le (fun j => N (lix w j + 2520)) i
  by_cases hs : s = 0
  · subst hs
    have z0 : (nI 0 : Int32) ≤ 0 := by decide +kernel
    have eM : ctv M f (lix w i) = upd M (lix w i + 2460) (nI 0) := by
      unfold ctv
      rw [c1, if_pos nI_0]
    have nF' : ztv N f (lix w i) 2451 = N 2451 := by rw [nF, if_pos z0]; split <;> rfl
    refine ⟨fun x hx => by rw [eM, pk_un (by omega)]; exact h1 x hx, hN', ⟨k, hk, by rw [eM, pk_un (by omega)]; exact k1, nQ⟩, ?_, ?_, ?_, ?_, ?_, fun j hj => ?_, fun g hg => ?_⟩
    · rw [eM, pk_un (by omega), nS, h4]; exact (Int32.add_zero _).symm
    · rw [eM, pk_un (by omega), nC, h5, if_pos z0, Nat.add_zero]
    · rw [eM, pk_un (by omega), nF']; exact h6
    · rw [nC, nF', if_pos z0, Nat.add_zero]; exact h7
    · rw [nC, nF', if_pos z0, Nat.add_zero]; exact h8
    · by_cases e : j = i
      · subst e
        rw [eM, pk_us, nI']
        exact ⟨rfl, tk⟩
      · have ne := lix_ne (w := w) hi (show j < i by omega)
        rw [eM, pk_un (by omega), nT j (by omega)]
        exact h9 j (by omega)
    · rw [eM, pk_un (by omega), nO _ (by omega) (by omega) (by omega)]
      exact h10 g hg
  · have zs : ¬ (nI s : Int32) = 0 := by
      rw [← nI_0]
      exact fun q => hs ((nI_eq (by omega) (by omega)).mp q)
    have zl : ¬ (nI s : Int32) ≤ 0 := by
      rw [Int32.le_iff_toInt_le, nI_toInt (by omega)]
      have : (0 : Int32).toInt = 0 := rfl
      omega
    -- the class's memory then: every place
    have mT : ∃ M1, ctv M f (lix w i) = M1 ∧ M1 (lix w i + 2460) = nI s ∧ M1 2455 = M 2455 + nI s ∧ M1 2456 = M 2456 + nI 1 ∧ M1 2458 = nI (k - s) ∧ M1 2457 = (if M 2456 = 0 then nI (lix w i) else M 2457) ∧ ∀ x, x ≠ lix w i + 2460 → x ≠ 2455 → x ≠ 2456 → x ≠ 2457 → x ≠ 2458 → M1 x = M x := by
      refine ⟨_, rfl, ?_⟩
      unfold ctv
      rw [c1, if_neg zs, k1, pk_sub s1]
      by_cases q : M 2456 = 0
      · rw [if_pos q, if_pos q]
        refine ⟨?_, ?_, ?_, pk_us, ?_, fun x a1 a2 a3 a4 a5 => by rw [pk_un a5, pk_un a2, pk_un a3, pk_un a4, pk_un a1]⟩
        · rw [pk_un (by omega), pk_un (by omega), pk_un (by omega), pk_un (by omega), pk_us]
        · rw [pk_un (by omega), pk_us]
        · rw [pk_un (by omega), pk_un (by omega), pk_us]
        · rw [pk_un (by omega), pk_un (by omega), pk_un (by omega), pk_us]
      · rw [if_neg q, if_neg q]
        refine ⟨?_, ?_, ?_, pk_us, ?_, fun x a1 a2 a3 a4 a5 => by rw [pk_un a5, pk_un a2, pk_un a3, pk_un a1]⟩
        · rw [pk_un (by omega), pk_un (by omega), pk_un (by omega), pk_us]
        · rw [pk_un (by omega), pk_us]
        · rw [pk_un (by omega), pk_un (by omega), pk_us]
        · rw [pk_un (by omega), pk_un (by omega), pk_un (by omega), pk_un (by omega)]
    obtain ⟨M1, eM, m1, m2, m3, m4, m5, m6⟩ := mT
    rw [eM]
    have hF : M1 2457 = ztv N f (lix w i) 2451 ∧ ¬ ztv N f (lix w i) 2451 = -5 := by
      rw [m5, nF, if_neg zl, h5]
      by_cases q : zcnt (fun j => N (lix w j + 2520)) i = 0
      · rw [q, if_pos nI_0, if_pos (h7 q)]
        exact ⟨rfl, hle _ hl⟩
      · have q' : ¬ (nI (zcnt (fun j => N (lix w j + 2520)) i) : Int32) = 0 := by
          rw [← nI_0]
          exact fun z => q ((nI_eq (by omega) (by omega)).mp z)
        rw [if_neg q', if_neg (h8 (by omega))]
        exact ⟨h6, h8 (by omega)⟩
    refine ⟨fun x hx => (m6 x (by omega) (by omega) (by omega) (by omega) (by omega)).trans (h1 x hx), hN', ⟨k - s, by omega, m4, nQ⟩, ?_, ?_, hF.1, ?_, fun _ => hF.2, fun j hj => ?_, fun g hg => ?_⟩
    · rw [m2, nS, h4]
    · rw [m3, nC, h5, if_neg zl, nI_add]
    · rw [nC, if_neg zl]
      intro q
      omega
    · by_cases e : j = i
      · subst e
        rw [m1, nI']
        exact ⟨rfl, tk⟩
      · have ne := lix_ne (w := w) hi (show j < i by omega)
        rw [m6 _ (by omega) (by omega) (by omega) (by omega) (by omega), nT j (by omega)]
        exact h9 j (by omega)
    · rw [m6 _ (by omega) (by omega) (by omega) (by omega) (by omega), nO _ (by omega) (by omega) (by omega)]
      exact h10 g hg
theorem lay_rel {B : Nat} {μ ν : Nat → Int32} {f t w : Nat} (P : eqr μ ν) (hI : firmI B ν f) (hf : f < 8) (ht : t ≤ 9999) : vI w 20 μ ν (clay μ f (nI t) w) (zlay ν f (nI t) w) f := by
  have g0 := gI_0 (S := fun _ => False) (μ := μ) (ν := ν) (f := f) (t := t) (fun _ h => h) ht
  have g1 := gI_step (B := B) (w := w) (g0 := 2) (S' := fun g => g = 2) g0 P hI hf (by omega) (fun g h => Or.inr h) (fun h => h)
  have g2 := gI_step (B := B) (w := w) (g0 := 1) (S' := fun g => g = 2 ∨ g = 1) g1 P hI hf (by omega) (fun g h => h) (fun h => by omega)
  have g3 := gI_step (B := B) (w := w) (g0 := 0) (S' := fun g => (g = 2 ∨ g = 1) ∨ g = 0) g2 P hI hf (by omega) (fun g h => h) (fun h => by omega)
  have v0 : vI w 0 μ ν (cgm (cgm (cgm (upd (upd (upd (upd μ 2458 (nI t)) 2455 (nI 0)) 2456 (nI 0)) 2457 (-5)) f w 2) f w 1) f w 0) (zgm (zgm (zgm (upd (upd ν 2450 (nI t)) 2451 (-5)) f w 2) f w 1) f w 0) f := by
    obtain ⟨h1, h2, h3, h4, h5, h6, h7, h8⟩ := g3
    exact ⟨h1, h2, h3, h4, h5, h6.trans h7.symm, fun _ => h7, fun h => absurd h (Nat.lt_irrefl 0), fun j hj => absurd hj (Nat.not_lt_zero j), fun g hg => h8 g hg (by omega)⟩
  have go : ∀ i, i ≤ 20 → vI w i μ ν (clv (cgm (cgm (cgm (upd (upd (upd (upd μ 2458 (nI t)) 2455 (nI 0)) 2456 (nI 0)) 2457 (-5)) f w 2) f w 1) f w 0) f w i) (zlv (zgm (zgm (zgm (upd (upd ν 2450 (nI t)) 2451 (-5)) f w 2) f w 1) f w 0) f w i) f := by
    intro i
    induction i with
    | zero => exact fun _ => v0
    | succ i ih => exact fun hi => vI_step (ih (by omega)) P hI hf (by omega)
  exact go 20 (Nat.le_refl 20)
/-! sums from the other end -/
theorem zsum_front (g : Nat → Int32) : ∀ n, zsum g (n + 1) = g 0 + zsum (fun i => g (i + 1)) n
  | 0 => by
    show nI 0 + g 0 = g 0 + nI 0
    rw [Int32.add_comm]
  | n + 1 => by
    show zsum g (n + 1) + g (n + 1) = g 0 + (zsum (fun i => g (i + 1)) n + g (n + 1))
    rw [zsum_front g n, Int32.add_assoc]
theorem zsum_rev : ∀ (n : Nat) (g : Nat → Int32), zsum (fun j => g (n - j)) (n + 1) = zsum g (n + 1)
  | 0, _ => rfl
  | n + 1, g => by
    rw [zsum_front g (n + 1), ← zsum_rev n (fun i => g (i + 1))]
    show zsum (fun j => g (n + 1 - j)) (n + 1) + g (n + 1 - (n + 1)) = _
    rw [zsum_cong (g := fun j => g (n + 1 - j)) (g' := fun j => g (n - j + 1)) (fun j hj => by rw [show n + 1 - j = n - j + 1 by omega]), Nat.sub_self, Int32.add_comm]
theorem zcnt_front (g : Nat → Int32) : ∀ n, zcnt g (n + 1) = (if g 0 ≤ 0 then 0 else 1) + zcnt (fun i => g (i + 1)) n
  | 0 => by
    show 0 + (if g 0 ≤ 0 then 0 else 1) = (if g 0 ≤ 0 then 0 else 1) + 0
    omega
  | n + 1 => by
    show zcnt g (n + 1) + (if g (n + 1) ≤ 0 then 0 else 1) = (if g 0 ≤ 0 then 0 else 1) + (zcnt (fun i => g (i + 1)) n + (if g (n + 1) ≤ 0 then 0 else 1))
    rw [zcnt_front g n, Nat.add_assoc]
theorem zcnt_rev : ∀ (n : Nat) (g : Nat → Int32), zcnt (fun j => g (n - j)) (n + 1) = zcnt g (n + 1)
  | 0, _ => rfl
  | n + 1, g => by
    rw [zcnt_front g (n + 1), ← zcnt_rev n (fun i => g (i + 1))]
    show zcnt (fun j => g (n + 1 - j)) (n + 1) + (if g (n + 1 - (n + 1)) ≤ 0 then 0 else 1) = _
    rw [zcnt_cong (g := fun j => g (n + 1 - j)) (g' := fun j => g (n - j + 1)) (fun j hj => by rw [show n + 1 - j = n - j + 1 by omega]), Nat.sub_self, Nat.add_comm]
theorem zsum_lix (g : Nat → Int32) (w : Nat) : zsum (fun j => g (lix w j)) 20 = zsum g 20 := by
  by_cases q : w = 1
  · subst q
    exact zsum_rev 19 g
  · exact zsum_cong (fun j _ => by unfold lix; rw [if_neg q])
theorem zcnt_lix (g : Nat → Int32) (w : Nat) : zcnt (fun j => g (lix w j)) 20 = zcnt g 20 := by
  by_cases q : w = 1
  · subst q
    exact zcnt_rev 19 g
  · exact zcnt_cong (fun j _ => by unfold lix; rw [if_neg q])
/-- what a taking is worth, whatever its way -/
theorem lay_facts {B : Nat} {μ ν : Nat → Int32} {f t w : Nat} (P : eqr μ ν) (hI : firmI B ν f) (hf : f < 8) (ht : t ≤ 9999) :
    hM μ (clay μ f (nI t) w) ∧ hN ν (zlay ν f (nI t) w) ∧ (clay μ f (nI t) w 2458 = zlay ν f (nI t) w 2450) ∧ clay μ f (nI t) w 2455 = zsum (fun v => zlay ν f (nI t) w (v + 2520)) 20 ∧ clay μ f (nI t) w 2456 = nI (zcnt (fun v => zlay ν f (nI t) w (v + 2520)) 20) ∧ clay μ f (nI t) w 2457 = zlay ν f (nI t) w 2451 ∧ (∀ v, v < 20 → clay μ f (nI t) w (v + 2460) = zlay ν f (nI t) w (v + 2520) ∧ tak (zlay ν f (nI t) w (v + 2520)) (ν (32 * f + v + 7))) ∧ ∀ g, g < 3 → clay μ f (nI t) w (g + 2480) = zlay ν f (nI t) w (g + 2540) ∧ tak (zlay ν f (nI t) w (g + 2540)) (ν (32 * f + g + 27)) := by
  obtain ⟨h1, h2, ⟨k, hk, k1, k2⟩, h4, h5, h6, h7, h8, h9, h10⟩ := lay_rel (w := w) P hI hf ht
  refine ⟨h1, h2, k1.trans k2.symm, h4.trans (zsum_lix (fun v => zlay ν f (nI t) w (v + 2520)) w), h5.trans (congrArg nI (zcnt_lix (fun v => zlay ν f (nI t) w (v + 2520)) w)), h6, fun v hv => ?_, h10⟩
  have e : lix w (lix w v) = v := by unfold lix; split <;> omega
  have := h9 (lix w v) (lix_lt hv)
  rw [e] at this
  exact this
