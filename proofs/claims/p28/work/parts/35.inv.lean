/-! WHAT HOLDS OF THE OBJECT between calls: its present row, the rows of its history, the kept one -/
def okG (B : Nat) (g : Nat → Int32) : Prop := ∃ m c b, rowI B g m c b ∧ SND g m
theorem okG.cong {B : Nat} {g g' : Nat → Int32} (h : okG B g) (e : ∀ x, x < 349 → g' x = g x) : okG B g' := by
  obtain ⟨m, c, b, h1, h2⟩ := h
  exact ⟨m, c, b, rowI_cong h1 (fun x hx => (e x hx).symm), h2.cong e⟩
theorem okG.mono {B B' : Nat} {g : Nat → Int32} (h : okG B g) (hB : B ≤ B') : okG B' g := by
  obtain ⟨m, c, b, h1, h2⟩ := h
  exact ⟨m, c, b, rowI_mono h1 hB, h2⟩
def hst (B : Nat) (μ : Nat → Int32) (r z kf : Nat) : Prop :=
  μ 2452 = nI r ∧ r < 4 ∧ μ 2451 = nI z ∧ z ≤ 4 ∧ (∀ h, h < z → okG B (fun x => μ (349 * hrow r z h + 1047 + x))) ∧ kf ≤ 1 ∧ μ 2449 = nI kf ∧ (kf = 1 → okG B (fun x => μ (349 + x)))
def INV (B : Nat) (μ : Nat → Int32) : Prop := okG B μ ∧ ∃ r z kf, hst B μ r z kf
/-- the latest state of the history is g -/
def TOP (g u : Nat → Int32) : Prop := ∃ r z, u 2452 = nI r ∧ r < 4 ∧ u 2451 = nI (z + 1) ∧ z < 4 ∧ ∀ x, x < 349 → u (349 * ((r + 3) % 4) + 1047 + x) = g x
/-- the kept state is g -/
def KPT (g u : Nat → Int32) : Prop := u 2449 = nI 1 ∧ ∀ x, x < 349 → u (349 + x) = g x
/-- the places of the kept state are as they were -/
def KEP (μ u : Nat → Int32) : Prop := ∀ x, ((349 ≤ x ∧ x < 698) ∨ x = 2449) → u x = μ x
theorem KPT.kep {g μ u : Nat → Int32} (h : KPT g μ) (k : KEP μ u) : KPT g u := ⟨(k _ (by omega)).trans h.1, fun x hx => (k _ (by omega)).trans (h.2 x hx)⟩
theorem KEP.trans {a b c : Nat → Int32} (h : KEP a b) (k : KEP b c) : KEP a c := fun x hx => (k x hx).trans (h x hx)
theorem TOP.cong {g g' u : Nat → Int32} (h : TOP g u) (e : eqr g g') : TOP g' u := by
  obtain ⟨r, z, h1, h2, h3, h4, h5⟩ := h
  exact ⟨r, z, h1, h2, h3, h4, fun x hx => (h5 x hx).trans (e x hx)⟩
theorem TOP.far {g u u' : Nat → Int32} (h : TOP g u) (e : ∀ x, farC x → u' x = u x) : TOP g u' := by
  obtain ⟨r, z, h1, h2, h3, h4, h5⟩ := h
  refine ⟨r, z, (e _ (by unfold farC; omega)).trans h1, h2, (e _ (by unfold farC; omega)).trans h3, h4, fun x hx => (e _ ?_).trans (h5 x hx)⟩
  have : (r + 3) % 4 < 4 := Nat.mod_lt _ (by omega)
  unfold farC; omega
theorem hst_keep {B B' : Nat} {μ μ' : Nat → Int32} {r z kf : Nat} (h : hst B μ r z kf) (hB : B ≤ B') (e1 : ∀ x, farC x → μ' x = μ x) : hst B' μ' r z kf := by
  obtain ⟨h1, h2, h3, h4, h6, h7, h8, h10⟩ := h
  refine ⟨(e1 _ (by unfold farC; omega)).trans h1, h2, (e1 _ (by unfold farC; omega)).trans h3, h4, fun q hq => ?_, h7, (e1 _ (by unfold farC; omega)).trans h8, fun hk => ?_⟩
  · have hl := hrow_lt r z q
    exact ((h6 q hq).cong (fun x hx => e1 _ (by unfold farC; omega))).mono hB
  · exact ((h10 hk).cong (fun x hx => e1 _ (by unfold farC; omega))).mono hB
theorem hst_push {B : Nat} {μ : Nat → Int32} {r z kf : Nat} (h : hst B μ r z kf) (hI : okG B μ) : (∃ r' z', hst B (zpush μ r z) r' z' kf) ∧ TOP μ (zpush μ r z) ∧ KEP μ (zpush μ r z) := by
  obtain ⟨h1, h2, h3, h4, h6, h7, h8, h10⟩ := h
  have far : ∀ x, (349 ≤ x ∧ x < 698) ∨ x = 2449 → zpush μ r z x = μ x := fun x hx => by unfold zpush; rw [pk_un (by omega), pk_un (by omega), cp_out (by omega)]
  have hrowC : ∀ q x, q < 4 → q ≠ r → x < 349 → zpush μ r z (349 * q + 1047 + x) = μ (349 * q + 1047 + x) := by
    intro q x hq hne hx
    unfold zpush
    rw [pk_un (by omega), pk_un (by omega), cp_out]
    rcases Nat.lt_or_gt_of_ne hne with hl | hl <;> omega
  have hrowN : ∀ x, x < 349 → zpush μ r z (349 * r + 1047 + x) = μ x := by
    intro x hx
    unfold zpush
    rw [pk_un (by omega), pk_un (by omega), cp_in (q := x) (by omega) (by omega) (by omega)]
  have e52 : zpush μ r z 2452 = nI ((r + 1) % 4) := by unfold zpush; rw [pk_un (by omega), pk_us]
  have e51 : zpush μ r z 2451 = nI (min (z + 1) 4) := by unfold zpush; rw [pk_us]
  refine ⟨⟨(r + 1) % 4, min (z + 1) 4, e52, Nat.mod_lt _ (by omega), e51, by omega, fun q hq => ?_, h7, (far _ (by omega)).trans h8, fun hk => (h10 hk).cong (fun x hx => far _ (by omega))⟩, ⟨(r + 1) % 4, min (z + 1) 4 - 1, e52, Nat.mod_lt _ (by omega), ?_, by omega, fun x hx => ?_⟩, fun x hx => far x hx⟩
  · by_cases e : q = min (z + 1) 4 - 1
    · have e1 : hrow ((r + 1) % 4) (min (z + 1) 4) q = r := by unfold hrow; omega
      rw [e1]
      exact hI.cong hrowN
    · by_cases hz : z < 4
      · have e1 : hrow ((r + 1) % 4) (min (z + 1) 4) q = hrow r z q := by unfold hrow; omega
        have ne : hrow r z q ≠ r := by unfold hrow; omega
        rw [e1]
        exact (h6 q (by omega)).cong (fun x hx => hrowC _ x (hrow_lt r z q) ne hx)
      · have e1 : hrow ((r + 1) % 4) (min (z + 1) 4) q = hrow r z (q + 1) := by unfold hrow; omega
        have ne : hrow r z (q + 1) ≠ r := by unfold hrow; omega
        rw [e1]
        exact (h6 (q + 1) (by omega)).cong (fun x hx => hrowC _ x (hrow_lt r z (q + 1)) ne hx)
  · rw [e51]; congr 1; omega
  · rw [show ((r + 1) % 4 + 3) % 4 = r by omega]
    exact hrowN x hx
theorem hst_pop {B : Nat} {μ : Nat → Int32} {r z kf r2 : Nat} (h : hst B μ r (z + 1) kf) (h2 : (r + 3) % 4 = r2) : INV B (cp (upd (upd μ 2452 (nI r2)) 2451 (nI z)) (349 * r2 + 1047) 0) ∧ KEP μ (cp (upd (upd μ 2452 (nI r2)) 2451 (nI z)) (349 * r2 + 1047) 0) ∧ ∀ x, x < 349 → cp (upd (upd μ 2452 (nI r2)) 2451 (nI z)) (349 * r2 + 1047) 0 x = μ (349 * r2 + 1047 + x) := by
  obtain ⟨h1, h2', h3, h4, h6, h7, h8, h10⟩ := h
  have e0 : hrow r (z + 1) z = r2 := by unfold hrow; omega
  have hr2 : r2 < 4 := by omega
  have k1 := h6 z (by omega)
  rw [e0] at k1
  have pC : ∀ x, x < 349 → cp (upd (upd μ 2452 (nI r2)) 2451 (nI z)) (349 * r2 + 1047) 0 x = μ (349 * r2 + 1047 + x) := by
    intro x hx
    rw [cp_in (q := 349 * r2 + 1047 + x) (by omega) (by omega) (by omega), pk_un (by omega), pk_un (by omega)]
  have fC : ∀ x, 349 ≤ x → x ≠ 2451 → x ≠ 2452 → cp (upd (upd μ 2452 (nI r2)) 2451 (nI z)) (349 * r2 + 1047) 0 x = μ x := by
    intro x hx h1 h2
    rw [cp_out (by omega), pk_un h1, pk_un h2]
  refine ⟨⟨k1.cong pC, r2, z, kf, ?_, hr2, ?_, by omega, fun q hq => ?_, h7, (fC _ (by omega) (by omega) (by omega)).trans h8, fun hk => ?_⟩, fun x hx => fC x (by omega) (by omega) (by omega), pC⟩
  · rw [cp_out (by omega), pk_un (by omega), pk_us]
  · rw [cp_out (by omega), pk_us]
  · have e1 : hrow r2 z q = hrow r (z + 1) q := by unfold hrow; omega
    have hl := hrow_lt r (z + 1) q
    rw [e1]
    exact (h6 q (by omega)).cong (fun x hx => fC _ (by omega) (by omega) (by omega))
  · exact (h10 hk).cong (fun x hx => fC _ (by omega) (by omega) (by omega))
theorem hst_kept {B : Nat} {μ : Nat → Int32} {r z kf : Nat} (h : hst B μ r z kf) (hI : okG B μ) : INV B (upd (cp μ 0 349) 2449 (nI 1)) ∧ eqr (upd (cp μ 0 349) 2449 (nI 1)) μ ∧ KPT μ (upd (cp μ 0 349) 2449 (nI 1)) := by
  obtain ⟨h1, h2, h3, h4, h6, h7, h8, h10⟩ := h
  have fC : ∀ x, (x < 349 ∨ 698 ≤ x) → x ≠ 2449 → upd (cp μ 0 349) 2449 (nI 1) x = μ x := by
    intro x hx h1
    rw [pk_un h1, cp_out (by omega)]
  have eC : ∀ x, x < 349 → upd (cp μ 0 349) 2449 (nI 1) (349 + x) = μ x := by
    intro x hx
    rw [pk_un (by omega), cp_in (q := x) (by omega) (by omega) (by omega)]
  have e0 : ∀ x, x < 349 → upd (cp μ 0 349) 2449 (nI 1) x = μ x := fun x hx => fC x (by omega) (by omega)
  refine ⟨⟨hI.cong e0, r, z, 1, (fC _ (by omega) (by omega)).trans h1, h2, (fC _ (by omega) (by omega)).trans h3, h4, fun q hq => ?_, by omega, pk_us, fun _ => hI.cong eC⟩, e0, pk_us, eC⟩
  have hl := hrow_lt r z q
  exact (h6 q hq).cong (fun x hx => fC _ (by omega) (by omega))
theorem hst_restore {B : Nat} {μ : Nat → Int32} {r z : Nat} (h : hst B μ r z 1) (hI : okG B μ) : INV B (cp (zpush μ r z) 349 0) ∧ (∀ x, x < 349 → cp (zpush μ r z) 349 0 x = μ (349 + x)) ∧ KEP μ (cp (zpush μ r z) 349 0) ∧ TOP μ (cp (zpush μ r z) 349 0) := by
  obtain ⟨⟨r1, z1, H⟩, T, K⟩ := hst_push h hI
  have e0 : ∀ x, x < 349 → cp (zpush μ r z) 349 0 x = μ (349 + x) := by
    intro x hx
    rw [cp_in (q := 349 + x) (by omega) (by omega) (by omega)]
    exact K _ (by omega)
  have far : ∀ x, farC x → cp (zpush μ r z) 349 0 x = zpush μ r z x := fun x hx => cp_out (by unfold farC at hx; omega)
  exact ⟨⟨(h.2.2.2.2.2.2.2 rfl).cong e0, r1, z1, 1, hst_keep H (Nat.le_refl B) far⟩, e0, fun x hx => (cp_out (by omega)).trans (K x hx), T.far far⟩
theorem INV.mono {B B' : Nat} {μ : Nat → Int32} (h : INV B μ) (hB : B ≤ B') : INV B' μ := by
  obtain ⟨h1, r, z, kf, h2⟩ := h
  exact ⟨h1.mono hB, r, z, kf, hst_keep h2 hB (fun _ _ => rfl)⟩
/-- only places that the object's rows do not speak of have changed -/
theorem INV.far {B : Nat} {μ u : Nat → Int32} (h : INV B μ) (e : ∀ x, (x < 349 ∨ farC x) → u x = μ x) : INV B u := by
  obtain ⟨h1, r, z, kf, h2⟩ := h
  exact ⟨h1.cong (fun x hx => e x (Or.inl hx)), r, z, kf, hst_keep h2 (Nat.le_refl B) (fun x hx => e x (Or.inr hx))⟩
theorem INV.bundle {B : Nat} {μ : Nat → Int32} (h : INV B μ) : ∃ m c b r z kf, clsS μ m c r z ∧ rowI B μ m c b ∧ SND μ m ∧ hst B μ r z kf := by
  obtain ⟨⟨m, c, b, h1, h2⟩, r, z, kf, h3⟩ := h
  exact ⟨m, c, b, r, z, kf, ⟨h1.1, h1.2.1, h1.2.2.1, h1.2.2.2.1, h3.1, h3.2.1, h3.2.2.1, h3.2.2.2.1⟩, h1, h2, h3⟩
def cnt (g : Nat → Int32) : Nat := (g 1).toInt.toNat
/-- an act: an error that changes nothing, or a new state over the old one, which the history now has on top -/
def ACT (B : Nat) (μ : Nat → Int32) (a : Int32) (u : Nat → Int32) : Prop := INV (B + 1) u ∧ KEP μ u ∧ ((a < 0 ∧ eqr u μ) ∨ (0 ≤ a ∧ TOP μ u ∧ cnt μ ≤ cnt u))
def cOp (l : Launch) (B : Nat) (y : MethodName) (cc : ByteArray) (n : Nat) (as : List Value) (μ : Nat → Int32) : Prop :=
  ∀ (D : va_G) (tc : Nat → ClassId) (ad : Nat → Nat) (A : Nat → Prop) (tF tL tM : Nat), zN 299 A ad → zMi l y cc n (some .int) (zrm 5) (zK A D tc tF tL tM) A D vwCl tc ad 299 shC (.ref (ad 0) :: as) μ (fun r u => ACT B μ r u)
theorem zMi_post {l : Launch} {y : MethodName} {cc : ByteArray} {nL : Nat} {ret : Option FieldType} {rm : Room} {K : State → Heap → Prop} {A : Nat → Prop} {D : va_G} {cl : List vw_C} {tc : Nat → ClassId} {ad : Nat → Nat} {N : Nat} {sh : Nat → ZS} {av : List Value} {μ : Nat → Int32} {post post1 : Int32 → (Nat → Int32) → Prop} (h : zMi l y cc nL ret rm K A D cl tc ad N sh av μ post) (hp : ∀ r u, post r u → post1 r u) : zMi l y cc nL ret rm K A D cl tc ad N sh av μ post1 := by
  unfold zMi Met at h ⊢
  exact MetFree.mono h (fun _ _ h => h) (fun _ _ _ _ _ h => h) (fun a s o t _ q => by
    obtain ⟨⟨⟨r, u, h1, h2, h3⟩, h4⟩, h5⟩ := q
    exact ⟨⟨⟨r, u, h1, hp r u h2, h3⟩, h4⟩, h5⟩)
theorem cOp_of {l : Launch} {B : Nat} {y : MethodName} {cc : ByteArray} {n : Nat} {as : List Value} {μ M : Nat → Int32} {a : Int32}
    (hC : ∀ {D : va_G} {tc : Nat → ClassId} {ad : Nat → Nat} {A : Nat → Prop} {tF tL tM : Nat}, zN 299 A ad → zMi l y cc n (some .int) (zrm 5) (zK A D tc tF tL tM) A D vwCl tc ad 299 shC (.ref (ad 0) :: as) μ (fun r u => r = a ∧ u = M)) (h : ACT B μ a M) : cOp l B y cc n as μ :=
  fun D tc ad A tF tL tM E => zMi_post (hC E) (fun r u q => by rw [q.1, q.2]; exact h)
theorem ACT_same {B : Nat} {μ : Nat → Int32} {a : Int32} (h : INV B μ) (ha : a < 0) : ACT B μ a μ := ⟨h.mono (Nat.le_succ B), fun _ _ => rfl, Or.inl ⟨ha, fun _ _ => rfl⟩⟩
theorem ACT_lay {B : Nat} {μ M : Nat → Int32} {a : Int32} (h : INV B μ) (ha : a < 0) (hM : hM μ M) : ACT B μ a M := by
  have e : ∀ x, (x < 349 ∨ farC x) → M x = μ x := fun x hx => hM x (by unfold farC at hx; omega)
  exact ⟨(h.far e).mono (Nat.le_succ B), fun x hx => e x (by unfold farC; omega), Or.inl ⟨ha, fun x hx => e x (Or.inl hx)⟩⟩
theorem ACT_ok {B : Nat} {μ M : Nat → Int32} {a : Int32} {r z kf m c b c' : Nat} (H : hst B μ r z kf) (I : rowI B μ m c b) (N : SND μ m) (hok : okG (B + 1) M) (hfar : ∀ x, farC x → M x = zpush μ r z x) (hc : M 1 = nI c') (hcc : c ≤ c') (hc8 : c' ≤ 8) (ha : 0 ≤ a) : ACT B μ a M := by
  obtain ⟨⟨r1, z1, H2⟩, T, K⟩ := hst_push H ⟨m, c, b, I, N⟩
  refine ⟨⟨hok, r1, z1, kf, hst_keep H2 (Nat.le_succ B) hfar⟩, fun x hx => (hfar x (by unfold farC; omega)).trans (K x hx), Or.inr ⟨ha, T.far hfar, ?_⟩⟩
  have e1 : cnt μ = c := zto I.2.2.1 (by have := I.2.2.2.1; omega)
  have e2 : cnt M = c' := zto hc (by omega)
  rw [e1, e2]
  exact hcc
