def REL (B : Nat) (μ ν : Nat → Int32) : Prop := (∀ x, x < 349 → μ x = ν x) ∧ (∃ m c b, rowI B ν m c b) ∧ ∃ r z kf n, rst B μ ν r z kf n
theorem rst_pop {B : Nat} {μ ν : Nat → Int32} {r z kf n r2 : Nat} (h : rst B μ ν r (z + 1) kf n) (h2 : (r + 3) % 4 = r2) : REL B (cp (upd (upd μ 2452 (nI r2)) 2451 (nI z)) (349 * r2 + 1047) 0) (cp (upd ν 2444 (nI z)) (349 * z + 349) 0) := by
  obtain ⟨h1, h2', h3, h4, h5, h6, h7, h8, h9, h10, h11, h12, h13, h14⟩ := h
  have e0 : hrow r (z + 1) z = r2 := by unfold hrow; omega
  have hr2 : r2 < 4 := by omega
  obtain ⟨k1, k2⟩ := h6 z (by omega)
  rw [e0] at k1
  have pC : ∀ x, x < 349 → cp (upd (upd μ 2452 (nI r2)) 2451 (nI z)) (349 * r2 + 1047) 0 x = μ (349 * r2 + 1047 + x) := by
    intro x hx
    rw [cp_in (q := 349 * r2 + 1047 + x) (by omega) (by omega) (by omega), pk_un (by omega), pk_un (by omega)]
  have pR : ∀ x, x < 349 → cp (upd ν 2444 (nI z)) (349 * z + 349) 0 x = ν (349 * z + 349 + x) := by
    intro x hx
    rw [cp_in (q := 349 * z + 349 + x) (by omega) (by omega) (by omega), pk_un (by omega)]
  have fC : ∀ x, 349 ≤ x → x ≠ 2451 → x ≠ 2452 → cp (upd (upd μ 2452 (nI r2)) 2451 (nI z)) (349 * r2 + 1047) 0 x = μ x := by
    intro x hx h1 h2
    rw [cp_out (by omega), pk_un h1, pk_un h2]
  have fR : ∀ x, 349 ≤ x → x ≠ 2444 → cp (upd ν 2444 (nI z)) (349 * z + 349) 0 x = ν x := by
    intro x hx h1
    rw [cp_out (by omega), pk_un h1]
  refine ⟨fun x hx => by rw [pC x hx, pR x hx]; exact k1 x hx, ?_, r2, z, kf, n, ?_, hr2, ?_, by omega, ?_, ?_, h7, (fC _ (by omega) (by omega) (by omega)).trans h8, (fR _ (by omega) (by omega)).trans h9, ?_, h11, (fC _ (by omega) (by omega) (by omega)).trans h12, (fR _ (by omega) (by omega)).trans h13, ?_⟩
  · obtain ⟨m, c, b, hI⟩ := k2
    exact ⟨m, c, b, rowI_cong hI (fun x hx => (pR x hx).symm)⟩
  · rw [cp_out (by omega), pk_un (by omega), pk_us]
  · rw [cp_out (by omega), pk_us]
  · rw [cp_out (by omega), pk_us]
  · intro q hq
    have e1 : hrow r2 z q = hrow r (z + 1) q := by unfold hrow; omega
    have hl := hrow_lt r (z + 1) q
    obtain ⟨j1, j2⟩ := h6 q (by omega)
    rw [e1]
    refine ⟨fun x hx => ?_, okR_cong j2 (fun x hx => fR _ (by omega) (by omega))⟩
    rw [fC _ (by omega) (by omega) (by omega), fR _ (by omega) (by omega)]
    exact j1 x hx
  · intro hk
    obtain ⟨j1, j2⟩ := h10 hk
    refine ⟨fun x hx => ?_, okR_cong j2 (fun x hx => fR _ (by omega) (by omega))⟩
    rw [fC _ (by omega) (by omega) (by omega), fR _ (by omega) (by omega)]
    exact j1 x hx
  · intro q hq
    rw [fC _ (by omega) (by omega) (by omega), fR _ (by omega) (by omega)]
    exact h14 q hq
theorem rst_kept {B : Nat} {μ ν : Nat → Int32} {r z kf n m c b : Nat} (h : rst B μ ν r z kf n) (hp : ∀ x, x < 349 → μ x = ν x) (hI : rowI B ν m c b) : rst B (upd (cp μ 0 349) 2449 (nI 1)) (upd (cp ν 0 1745) 2445 (nI 1)) r z 1 n := by
  obtain ⟨h1, h2, h3, h4, h5, h6, h7, h8, h9, h10, h11, h12, h13, h14⟩ := h
  have fC : ∀ x, 698 ≤ x → x ≠ 2449 → upd (cp μ 0 349) 2449 (nI 1) x = μ x := by
    intro x hx h1
    rw [pk_un h1, cp_out (by omega)]
  have fR : ∀ x, (x < 1745 ∨ 2094 ≤ x) → x ≠ 2445 → upd (cp ν 0 1745) 2445 (nI 1) x = ν x := by
    intro x hx h1
    rw [pk_un h1, cp_out (by omega)]
  have eR : ∀ x, x < 349 → upd (cp ν 0 1745) 2445 (nI 1) (1745 + x) = ν x := by
    intro x hx
    rw [pk_un (by omega), cp_in (q := x) (by omega) (by omega) (by omega)]
  have eC : ∀ x, x < 349 → upd (cp μ 0 349) 2449 (nI 1) (349 + x) = μ x := by
    intro x hx
    rw [pk_un (by omega), cp_in (q := x) (by omega) (by omega) (by omega)]
  refine ⟨(fC _ (by omega) (by omega)).trans h1, h2, (fC _ (by omega) (by omega)).trans h3, h4, (fR _ (by omega) (by omega)).trans h5, fun q hq => ?_, by omega, pk_us, pk_us, fun _ => ⟨fun x hx => by rw [eC x hx, eR x hx]; exact hp x hx, ⟨m, c, b, rowI_cong hI (fun x hx => (eR x hx).symm)⟩⟩, h11, (fC _ (by omega) (by omega)).trans h12, (fR _ (by omega) (by omega)).trans h13, fun q hq => ?_⟩
  · have hl := hrow_lt r z q
    obtain ⟨k1, k2⟩ := h6 q hq
    refine ⟨fun x hx => ?_, okR_cong k2 (fun x hx => fR _ (by omega) (by omega))⟩
    rw [fC _ (by omega) (by omega), fR _ (by omega) (by omega)]
    exact k1 x hx
  · rw [fC _ (by omega) (by omega), fR _ (by omega) (by omega)]
    exact h14 q hq
theorem REL.up {B : Nat} {μ ν : Nat → Int32} (h : REL B μ ν) : REL (B + 1) μ ν := by
  obtain ⟨h1, ⟨m, c, b, h2⟩, r, z, kf, n, h3⟩ := h
  exact ⟨h1, ⟨m, c, b, rowI_mono h2 (by omega)⟩, r, z, kf, n, rst_keep h3 (by omega) (fun _ _ => rfl) (fun _ _ => rfl)⟩
/-- only the present and what no relation speaks of has changed -/
theorem REL.step {B B' : Nat} {μ ν μ' ν' : Nat → Int32} {r z kf n m c b : Nat} (h : rst B μ ν r z kf n) (hB : B ≤ B') (hp : ∀ x, x < 349 → μ' x = ν' x) (hI : rowI B' ν' m c b) (e1 : ∀ x, farC x → μ' x = μ x) (e2 : ∀ x, farR x → ν' x = ν x) : REL B' μ' ν' := ⟨hp, ⟨m, c, b, hI⟩, r, z, kf, n, rst_keep h hB e1 e2⟩
theorem upd_eq {P Q : Nat → Int32} {a : Nat} {x y : Int32} (h : ∀ q, q < 349 → P q = Q q) (e : x = y) : ∀ q, q < 349 → upd P a x q = upd Q a y q := by
  intro q hq
  by_cases k : q = a
  · subst k; rw [pk_us, pk_us, e]
  · rw [pk_un k, pk_un k]; exact h q hq
theorem far_upd {P μ : Nat → Int32} {F : Nat → Prop} {a : Nat} {x : Int32} (h : ∀ q, F q → P q = μ q) (ha : ¬ F a) : ∀ q, F q → upd P a x q = μ q := fun q hq => (pk_un (fun e => ha (by rw [← e]; exact hq))).trans (h q hq)
theorem farC_no {a : Nat} (h : a < 349 ∨ (698 ≤ a ∧ a < 1047) ∨ a = 2443 ∨ (2453 ≤ a ∧ a < 2491) ∨ (2492 ≤ a ∧ a < 2500) ∨ 2560 ≤ a) : ¬ farC a := by unfold farC; omega
theorem farR_no {a : Nat} (h : a < 349 ∨ (2094 ≤ a ∧ a < 2444) ∨ (2448 ≤ a ∧ a < 2460) ∨ 2520 ≤ a) : ¬ farR a := by unfold farR; omega
/-- one call of both sides: the same answer, and the relation again -/
def zOp (l : Launch) (B : Nat) (yC : MethodName) (cC : ByteArray) (nC : Nat) (yR : MethodName) (cR : ByteArray) (nR : Nat) (as : List Value) (μ ν : Nat → Int32) : Prop :=
  ∃ (rv : Int32) (PC PR : (Nat → Int32) → Prop) (dC dR : Nat), dC ≤ 6 ∧ dR ≤ 6 ∧
    (∀ {D : va_G} {tc : Nat → ClassId} {ad : Nat → Nat} {A : Nat → Prop} {tF tL tM : Nat}, zN 299 A ad → zMi l yC cC nC (some .int) (zrm dC) (zK A D tc tF tL tM) A D vwCl tc ad 299 shC (.ref (ad 0) :: as) μ (fun r u => r = rv ∧ PC u)) ∧
    (∀ {D : va_G} {tc : Nat → ClassId} {ad : Nat → Nat} {A : Nat → Prop} {tF tL tM : Nat}, zN 6 A ad → zMi l yR cR nR (some .int) (zrm dR) (zK A D tc tF tL tM) A D vwCl tc ad 6 shR (.ref (ad 0) :: as) ν (fun r u => r = rv ∧ PR u)) ∧
    ∀ u v, PC u → PR v → REL (B + 1) u v
theorem zOp_det {l : Launch} {B : Nat} {yC : MethodName} {cC : ByteArray} {nC : Nat} {yR : MethodName} {cR : ByteArray} {nR dC dR : Nat} {as : List Value} {μ ν M N : Nat → Int32} {a b : Int32}
    (hC : ∀ {D : va_G} {tc : Nat → ClassId} {ad : Nat → Nat} {A : Nat → Prop} {tF tL tM : Nat}, zN 299 A ad → zMi l yC cC nC (some .int) (zrm dC) (zK A D tc tF tL tM) A D vwCl tc ad 299 shC (.ref (ad 0) :: as) μ (fun r u => r = a ∧ u = M))
    (hR : ∀ {D : va_G} {tc : Nat → ClassId} {ad : Nat → Nat} {A : Nat → Prop} {tF tL tM : Nat}, zN 6 A ad → zMi l yR cR nR (some .int) (zrm dR) (zK A D tc tF tL tM) A D vwCl tc ad 6 shR (.ref (ad 0) :: as) ν (fun r u => r = b ∧ u = N))
    (e : a = b) (hr : REL (B + 1) M N) (h1 : dC ≤ 6) (h2 : dR ≤ 6) : zOp l B yC cC nC yR cR nR as μ ν := by
  subst e
  exact ⟨a, fun u => u = M, fun u => u = N, dC, dR, h1, h2, hC, hR, fun u v q1 q2 => by subst q1; subst q2; exact hr⟩
theorem REL.bundle {B : Nat} {μ ν : Nat → Int32} (h : REL B μ ν) : ∃ m c b r z kf n, clsS μ m c r z ∧ refS ν m c z ∧ (∀ x, x < 349 → μ x = ν x) ∧ rowI B ν m c b ∧ rst B μ ν r z kf n := by
  obtain ⟨h1, ⟨m, c, b, h2⟩, r, z, kf, n, h3⟩ := h
  exact ⟨m, c, b, r, z, kf, n, ⟨(h1 0 (by omega)).trans h2.1, h2.2.1, (h1 1 (by omega)).trans h2.2.2.1, h2.2.2.2.1, h3.1, h3.2.1, h3.2.2.1, h3.2.2.2.1⟩, ⟨h2.1, h2.2.1, h2.2.2.1, h2.2.2.2.1, h3.2.2.2.2.1, h3.2.2.2.1⟩, h1, h2, h3⟩
/-- behind a state that came into the history: the present as it was -/
theorem REL.pushed {B : Nat} {μ ν : Nat → Int32} {r z kf n m c b : Nat} (h : rst B μ ν r z kf n) (hp : ∀ x, x < 349 → μ x = ν x) (hI : rowI B ν m c b) : (∀ x, x < 349 → zpush μ r z x = zrec ν 0 z x) ∧ rowI B (zrec ν 0 z) m c b ∧ ∃ r' z', rst B (zpush μ r z) (zrec ν 0 z) r' z' kf n := by
  have h4 := h.2.2.2.1
  have h2 := h.2.1
  refine ⟨fun x hx => ?_, rowI_cong hI (fun x hx => (zrec_out (p := x) (by omega) (by omega) h4).symm), rst_push h hp hI⟩
  rw [zpush_lo (p := x) (by omega) h2, zrec_out (p := x) (by omega) (by omega) h4]
  exact hp x hx
