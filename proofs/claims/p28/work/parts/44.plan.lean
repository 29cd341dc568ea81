/-! readings behind layings; what a plan says -/
section ZM
variable {p : Program} {l : Launch} {e : Env} {R : Room} {s : State} {m : MethodId} {args : Array Value} {below : List Frame} {meth : Method} {c : Code} {A : Nat → Prop} {D : va_G} {cl : List vw_C} {tc : Nat → ClassId} {ad : Nat → Nat} {N : Nat} {sh : Nat → ZS} {nL : Nat} {Q : State → Prop} {μ : Nat → Int32} {pc : Nat} {lv : List (Nat × Value)}
variable {K : State → Heap → Prop} {tys : List (ClassId × FieldType)} {ow : Nat → Nat} {cc : ByteArray} {own : String} {ret : Option FieldType}
/-- a loop that counts up, over any memory that is as it should be -/
theorem zr_forM (X : zX p s m args meth c A D cl ad N nL K tys ow sh cc own ret) (n : Nat) (G : Nat → (Nat → Int32) → Prop) (V : Nat → List (Nat × Value)) (st : List Value) (h0 : G 0 μ) (h2 : V 0 = lv) (hx : ∀ u, G n u → zG p l e R s m args below meth c A D cl tc ad N sh nL Q u pc (V n) st) (hs : ∀ i u, i < n → G i u → (∀ u', G (i + 1) u' → zG p l e R s m args below meth c A D cl tc ad N sh nL Q u' pc (V (i + 1)) st) → zG p l e R s m args below meth c A D cl tc ad N sh nL Q u pc (V i) st) : zG p l e R s m args below meth c A D cl tc ad N sh nL Q μ pc lv st := by
  rw [← h2]
  exact z_for n (fun i => ∀ u, G i u → zG p l e R s m args below meth c A D cl tc ad N sh nL Q u pc (V i) st) hx (fun i hi k u q => hs i u hi q k) μ h0
end ZM
theorem q_firm {l : Launch} {D : va_G} {tc : Nat → ClassId} {ad : Nat → Nat} {A : Nat → Prop} {tF tL tM : Nat} (E : zN 299 A ad) (μ : Nat → Int32) {m c ro z : Nat} (S : clsS μ m c ro z) {M : Nat → Int32} (hMM : hM μ M) {f : Nat} (hf : f < c) {i : Nat} (hi : i < 11) : zMi l yX5_firm cX5_firm 4 (some .int) (zrm 5) (zK A D tc tF tL tM) A D vwCl tc ad 299 shC [.ref (ad 0), .int (nI f), .int (nI i)] M (fun r u => r = firF μ f i ∧ u = M) := zM_i (t_firm E M (clsS_hM S hMM) hf hi) (firF_eq hMM.eqr (by have := S.2.2.2.1; omega) hi)
theorem q_offsets {l : Launch} {D : va_G} {tc : Nat → ClassId} {ad : Nat → Nat} {A : Nat → Prop} {tF tL tM : Nat} (E : zN 299 A ad) (μ : Nat → Int32) {m c ro z : Nat} (S : clsS μ m c ro z) {M : Nat → Int32} (hMM : hM μ M) {f : Nat} (hf : f < c) {k : Nat} (hk : k < 3) {i : Nat} (hi : i < 3) : zMi l yX5_offsets cX5_offsets 5 (some .int) (zrm 5) (zK A D tc tF tL tM) A D vwCl tc ad 299 shC [.ref (ad 0), .int (nI f), .int (nI k), .int (nI i)] M (fun r u => r = offF μ f k i ∧ u = M) := zM_i (t_offsets E M (clsS_hM S hMM) hf (by omega) hi) (offF_eq hMM.eqr (by have := S.2.2.2.1; omega) hk hi)
theorem q_all {l : Launch} {D : va_G} {tc : Nat → ClassId} {ad : Nat → Nat} {A : Nat → Prop} {tF tL tM : Nat} (E : zN 299 A ad) (μ : Nat → Int32) {m c ro z b : Nat} (S : clsS μ m c ro z) (hb : μ 5 = nI b) (hb1 : 1 ≤ b) (hb5 : b ≤ 5) {M : Nat → Int32} (hMM : hM μ M) : zMl l yL_all cL_all 5 (some .long) (zrm 6) (zK A D tc tF tL tM) A D vwCl tc ad 299 shC [.ref (ad 0)] M (fun r u => r = AL μ c ∧ u = M) := by
  rw [← AL_eq hMM.eqr S.2.2.2.1]
  exact l_all E M (clsS_hM S hMM) ((hMM 5 (by omega)).trans hb) hb1 hb5
theorem q_all2 {l : Launch} {D : va_G} {tc : Nat → ClassId} {ad : Nat → Nat} {A : Nat → Prop} {tF tL tM : Nat} (E : zN 299 A ad) (μ : Nat → Int32) {B m c ro z : Nat} (S : clsS μ m c ro z) {M : Nat → Int32} (h : INV B M) (e : eqr M μ) : zMl l yL_all cL_all 5 (some .long) (zrm 6) (zK A D tc tF tL tM) A D vwCl tc ad 299 shC [.ref (ad 0)] M (fun r u => r = AL μ c ∧ u = M) := by
  obtain ⟨m', c', b', r', z', kf', S', I', N', H'⟩ := h.bundle
  have hc : c' = c := (nI_eq (by have := S'.2.2.2.1; omega) (by have := S.2.2.2.1; omega)).mp (S'.2.2.1.symm.trans ((e 1 (by omega)).trans S.2.2.1))
  rw [← AL_eq e S.2.2.2.1, ← hc]
  exact l_all E M S' I'.2.2.2.2.1 I'.2.2.2.2.2.1 I'.2.2.2.2.2.2.1
theorem q_firm2 {l : Launch} {D : va_G} {tc : Nat → ClassId} {ad : Nat → Nat} {A : Nat → Prop} {tF tL tM : Nat} (E : zN 299 A ad) (μ : Nat → Int32) {B c : Nat} {M : Nat → Int32} (h : INV B M) (hc : c ≤ cnt M) {f : Nat} (hf : f < c) {i : Nat} (hi : i < 11) : zMi l yX5_firm cX5_firm 4 (some .int) (zrm 5) (zK A D tc tF tL tM) A D vwCl tc ad 299 shC [.ref (ad 0), .int (nI f), .int (nI i)] M (fun r u => r = firF M f i ∧ u = M) := by
  obtain ⟨m', c', b', r', z', kf', S', I', N', H'⟩ := h.bundle
  have e : cnt M = c' := zto I'.2.2.1 (by have := S'.2.2.2.1; omega)
  exact t_firm E M S' (by omega) hi
section PF
variable {B m c b ro z f t w : Nat} {μ C P : Nat → Int32}
/-- what a plan that can be kept says -/
def PLN (μ : Nat → Int32) (f t w : Nat) (P : Nat → Int32) : Prop := 0 ≤ P 0 ∧ (∀ k, k < 3 → ¬ P (k + 1) < 0 ∧ ¬ offF μ f k 0 < P (k + 1) ∧ ¬ offF μ f k 1 < P (k + 1) ∧ (¬ nI 2 ≤ nI w → P (k + 1) ≤ 0)) ∧ P 0 + zsum (fun k => P (k + 1)) 3 = nI t ∧ (P 0 = 0 ↔ P 4 = 0) ∧ (P 4 = 0 ↔ P 5 = -5) ∧ (¬ P 5 = -5 → ¬ P 5 < 0 ∧ (nI w = nI 1 → P 5 = firF μ f 3) ∧ (¬ nI w = nI 1 → P 5 = firF μ f 2))
theorem nlt_of_le {x y : Int32} (h : x ≤ y) : ¬ y < x := by
  rw [Int32.lt_iff_toInt_lt]
  rw [Int32.le_iff_toInt_le] at h
  omega
theorem lay_PLN (hB : B ≤ 600) (I : rowI B μ m c b) (N : SND μ m) (hf : f < c) (hw : w < 3) (ht : t ≤ 9999) (L : LAY μ C f t w) (h : C 2458 ≤ 0) : PLN μ f t w (plF C) := by
  obtain ⟨l1, ⟨k, hk, k1, k2⟩, l3, l4, l5, l6, l7, l8⟩ := L
  have h8 := I.2.2.2.1
  have hf8 : f < 8 := by omega
  have hk0 : k = 0 := by
    rcases Nat.eq_zero_or_pos k with z | z
    · exact z
    · rw [k1] at h; exact absurd h (nI_nle z (by omega))
  have hT : ∀ v, v < 20 → inr (C (v + 2460)) (100000 * B) := fun v hv => by
    have a := l7 v hv
    have b := (I.2.2.2.2.2.2.2.1 f hf8).1 v (by omega)
    have a2 := a.2
    rw [Int32.le_iff_toInt_le] at a2
    exact ⟨a.1, by have := b.2; omega⟩
  have hz := zsum_pos (g := fun v => C (v + 2460)) (M := 100000 * B) 20 hT (by omega)
  have hc := zcnt_le (fun v => C (v + 2460)) 20
  have e4 : plF C 4 = 0 ↔ zcnt (fun v => C (v + 2460)) 20 = 0 := by
    rw [plF_4, l5, ← nI_0]
    exact nI_eq (by omega) (by omega)
  have ew2 : nI 2 ≤ nI w ↔ 2 ≤ w := nI_leI (by omega) (by omega)
  have ew1 : nI w = nI 1 ↔ w = 1 := nI_eq (by omega) (by omega)
  have pk : ∀ g, g < 3 → plF C (g + 1) = C (g + 2480) := fun g hg => by
    rcases (show g = 0 ∨ g = 1 ∨ g = 2 by omega) with rfl | rfl | rfl
    · exact plF_1 C
    · exact plF_2 C
    · exact plF_3 C
  have m5 : ∀ j, j < 20 → ¬ nI j = -5 := fun j hj q => by
    have := nI_pos' (show j < 2 ^ 31 by omega)
    rw [q] at this
    exact absurd this (by decide +kernel)
  refine ⟨?_, fun g hg => ?_, ?_, ?_, ?_, fun h5 => ?_⟩
  · rw [plF_0, l4]
    exact ge0 (inr_sum 20 hT (by omega)).1
  · rw [pk g hg]
    have o0 := off_0 I hf8 hg
    have a := l8 g hg
    have cu := zcu_in (lim := μ (g + 2)) o0
    have a1 : tak (C (g + 2480)) (zcu μ f g (μ (g + 2))) := by
      by_cases e : w = 2
      · rw [if_pos e] at a; exact a
      · rw [if_neg e] at a
        exact tak_le a (by rw [Int32.le_iff_toInt_le, nI_toInt (by omega)]; exact cu.1)
    refine ⟨ngt0 a.1, nlt_of_le (tak_le a1 cu.2.1).2, nlt_of_le (tak_le a1 cu.2.2).2, fun q => ?_⟩
    rw [if_neg (fun e => q (ew2.mpr (by omega)))] at a
    rw [tak_0 a, nI_0]
    exact Int32.le_refl _
  · rw [plF_0, l4, zsum_cong (g' := fun g => C (g + 2480)) pk]
    rw [k1, hk0, nI_0] at l3
    grind
  · rw [e4, plF_0, l4]; exact hz
  · rw [e4, plF_5]
    rcases l6 with ⟨a, a2⟩ | ⟨a, j, a1, a2, a3⟩
    · exact ⟨fun _ => a2, fun _ => a⟩
    · exact ⟨fun q => by omega, fun q => absurd (a2.symm.trans q) (m5 j a1)⟩
  · rw [plF_5] at h5 ⊢
    rcases l6 with ⟨a, a2⟩ | ⟨a, j, a1, a2, a3⟩
    · exact absurd a2 h5
    · rw [a2]
      refine ⟨nI_pos (by omega), fun q => ?_, fun q => ?_⟩
      · rw [if_pos (ew1.mp q)] at a3; exact a3.symm
      · rw [if_neg (fun e => q (ew1.mpr e))] at a3; exact a3.symm
theorem lay_miss (hB : B ≤ 600) (I : rowI B μ m c b) (hf : f < c) (hw : w < 3) (ht : t ≤ 9999) (L : LAY μ C f t w) (h : ¬ C 2458 ≤ 0) (hw2 : ¬ nI w = nI 2) : ¬ nI t ≤ firF μ f 0 := by
  obtain ⟨l1, ⟨k, hk, k1, k2⟩, l3, l4, l5, l6, l7, l8⟩ := L
  have h8 := I.2.2.2.1
  have hkp : 0 < k := by
    rcases Nat.eq_zero_or_pos k with z | z
    · rw [k1, z, nI_0] at h; exact absurd (Int32.le_refl _) h
    · exact z
  have w2 : ¬ w = 2 := fun q => hw2 (by rw [q])
  have eT : zsum (fun v => C (v + 2460)) 20 = firF μ f 0 := zsum_cong (g' := fun v => μ (32 * f + v + 7)) (k2 hkp)
  have eO : zsum (fun g => C (g + 2480)) 3 = nI 0 := zsum_0 3 (fun g hg => by
    have := l8 g hg
    rw [if_neg w2] at this
    exact tak_0 this)
  have hs : inr (firF μ f 0) (20 * (100000 * B)) := inr_sum 20 (fun v hv => (I.2.2.2.2.2.2.2.1 f (by omega)).1 v (by omega)) (by omega)
  rw [eT, eO, k1] at l3
  have e2 : firF μ f 0 + nI k = nI t := by rw [l3, nI_0]; grind
  have e3 := congrArg Int32.toInt e2
  rw [i32_add2 hs.1 (nI_ge0 (by omega)) (by have := hs.2; rw [nI_toInt (by omega)]; omega), nI_toInt (by omega), nI_toInt (by omega)] at e3
  rw [Int32.le_iff_toInt_le, nI_toInt (by omega)]
  omega
theorem due_nat (N : SND μ m) (hm : m < 240) (hf : f < 8) : ∃ d, firF μ f 7 = nI d ∧ d ≤ 300000 := by
  have h := (N.2.2.2.2.1 f hf).2.1
  obtain ⟨d, e1, e2, _⟩ := inr_nat h.1
  exact ⟨d, e1, by have := h.2; omega⟩
theorem still_le (hB : B ≤ 600) (I : rowI B μ m c b) (N : SND μ m) (hf : f < c) (ht : t ≤ 9999) : ¬ firF μ f 10 < firF μ f 10 - nI t := by
  have h8 := I.2.2.2.1
  have h1 := xs16 hB I hf
  obtain ⟨d, e1, e2⟩ := due_nat N I.2.1 (show f < 8 by omega)
  rw [e1, Int32.lt_iff_toInt_lt, nI_toInt (by omega)] at h1
  have h0 : 0 ≤ (firF μ f 10).toInt := by
    show 0 ≤ (zmax (nI 0) (μ (32 * f + 36) - zsdC μ f 3)).toInt
    unfold zmax
    split
    · next q => rw [Int32.lt_iff_toInt_lt, nI_toInt (by omega)] at q; omega
    · rw [nI_toInt (by omega)]; omega
  have e : (firF μ f 10 - nI t).toInt = (firF μ f 10).toInt - t := by
    rw [Int32.toInt_sub, nI_toInt (by omega)]
    exact Int.bmod_eq_of_le (by omega) (by omega)
  rw [Int32.lt_iff_toInt_lt, e]
  omega
end PF
