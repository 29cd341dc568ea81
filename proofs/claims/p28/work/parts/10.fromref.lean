/-! small facts of numbers -/
/-! the reference's small methods -/
def zin (x : Int32) (a b : Nat) : Prop := ∃ j, a ≤ j ∧ j ≤ b ∧ x = nI j
theorem zin_of {x : Int32} {a b : Nat} (hb : b < 2 ^ 31) (h1 : nI a ≤ x) (h2 : x ≤ nI b) (ha : a < 2 ^ 31) : zin x a b := by
  rw [Int32.le_iff_toInt_le, nI_toInt ha] at h1
  rw [Int32.le_iff_toInt_le, nI_toInt hb] at h2
  refine ⟨x.toInt.toNat, by omega, by omega, ?_⟩
  apply Int32.toInt_inj.mp
  rw [nI_toInt (by omega)]
  omega
def zfm (x : Int32) (c : Nat) : Prop := ∃ f, f < c ∧ x = nI f
theorem zsw_out {x : Int32} {b : Nat} {lo hi : Int} (h : ¬ zin x 0 b) (hb : b < 2 ^ 31) (hl : lo = 0) (hh : hi = (b : Int)) : x.toInt < lo ∨ hi < x.toInt := by
  subst hl; subst hh
  rcases Int.lt_or_le x.toInt 0 with q | q
  · exact Or.inl q
  · refine Or.inr ?_
    rcases Int.lt_or_le (b : Int) x.toInt with q2 | q2
    · exact q2
    · exfalso
      apply h
      refine ⟨x.toInt.toNat, by omega, by omega, ?_⟩
      apply Int32.toInt_inj.mp
      rw [nI_toInt (by omega)]
      omega
