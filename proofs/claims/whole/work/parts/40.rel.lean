/-! THE TWO MEMORIES SIDE BY SIDE. -/
def inr (x : Int32) (M : Nat) : Prop := 0 ≤ x.toInt ∧ x.toInt ≤ (M : Int)
theorem inr_mono {x : Int32} {M M' : Nat} (h : inr x M) (hM : M ≤ M') : inr x M' := ⟨h.1, by have := h.2; omega⟩
theorem inr_0 (M : Nat) : inr (nI 0) M := by rw [inr, nI_toInt (by omega)]; exact ⟨by omega, by omega⟩
theorem inr_add {x : Int32} {M t M' : Nat} (h : inr x M) (hM : M + t ≤ M') (hb : M' < 2 ^ 30) : inr (x + nI t) M' := by
  have h1 := h.1
  have h2 := h.2
  have e : (x + nI t).toInt = x.toInt + t := by
    rw [Int32.toInt_add, nI_toInt (by omega)]
    exact Int.bmod_eq_of_le (by omega) (by omega)
  rw [inr, e]
  omega
theorem inr_sub {x y : Int32} {M : Nat} (h : inr x M) (h0 : 0 ≤ y.toInt) (hy : y ≤ x) (hb : M < 2 ^ 30) : inr (x - y) M := by
  rw [Int32.le_iff_toInt_le] at hy
  have h2 := h.2
  have e : (x - y).toInt = x.toInt - y.toInt := by
    rw [Int32.toInt_sub]
    exact Int.bmod_eq_of_le (by omega) (by omega)
  rw [inr, e]
  omega
/-- a firm's numbers are as they should be -/
def firmI (B : Nat) (g : Nat → Int32) (f : Nat) : Prop := (∀ y, y < 23 → inr (g (32 * f + y + 7)) (100000 * B)) ∧ inr (g (32 * f + 36)) (100000 * B) ∧ 0 ≤ (g (32 * f + 33)).toInt ∧ 0 ≤ (g (32 * f + 34)).toInt ∧ (g (32 * f + 33)).toInt + (g (32 * f + 34)).toInt ≤ 9999
def rowI (B : Nat) (g : Nat → Int32) (m c b : Nat) : Prop := g 0 = nI m ∧ m < 240 ∧ g 1 = nI c ∧ c ≤ 8 ∧ g 5 = nI b ∧ 1 ≤ b ∧ b ≤ 5 ∧ (∀ f, f < 8 → firmI B g f) ∧ ∀ f, c ≤ f → f < 8 → ∀ y, y < 32 → g (32 * f + y + 7) = nI 0
theorem rowI_cong {B : Nat} {g g' : Nat → Int32} {m c b : Nat} (h : rowI B g m c b) (e : ∀ x, x < 349 → g x = g' x) : rowI B g' m c b := by
  obtain ⟨h1, h2, h3, h4, h5, h6, h7, h8, h9⟩ := h
  refine ⟨(e 0 (by omega)).symm.trans h1, h2, (e 1 (by omega)).symm.trans h3, h4, (e 5 (by omega)).symm.trans h5, h6, h7, fun f hf => ?_, fun f h1 h2 y hy => (e _ (by omega)).symm.trans (h9 f h1 h2 y hy)⟩
  obtain ⟨k1, k2, k3, k4, k5⟩ := h8 f hf
  refine ⟨fun y hy => by rw [← e _ (by omega)]; exact k1 y hy, by rw [← e _ (by omega)]; exact k2, by rw [← e _ (by omega)]; exact k3, by rw [← e _ (by omega)]; exact k4, by rw [← e _ (by omega), ← e _ (by omega)]; exact k5⟩
theorem firmI_mono {B B' : Nat} {g : Nat → Int32} {f : Nat} (h : firmI B g f) (hB : B ≤ B') : firmI B' g f := by
  obtain ⟨k1, k2, k3, k4, k5⟩ := h
  exact ⟨fun y hy => inr_mono (k1 y hy) (by omega), inr_mono k2 (by omega), k3, k4, k5⟩
theorem rowI_mono {B B' : Nat} {g : Nat → Int32} {m c b : Nat} (h : rowI B g m c b) (hB : B ≤ B') : rowI B' g m c b := by
  obtain ⟨h1, h2, h3, h4, h5, h6, h7, h8, h9⟩ := h
  exact ⟨h1, h2, h3, h4, h5, h6, h7, fun f hf => firmI_mono (h8 f hf) hB, h9⟩
/-- a place that no row's law speaks of -/
theorem rowI_far {B : Nat} {g : Nat → Int32} {m c b p : Nat} {x : Int32} (h : rowI B g m c b) (hp : 263 ≤ p ∨ (2 ≤ p ∧ p ≤ 6 ∧ p ≠ 5)) : rowI B (upd g p x) m c b := by
  obtain ⟨h1, h2, h3, h4, h5, h6, h7, h8, h9⟩ := h
  refine ⟨(pk_un (by omega)).trans h1, h2, (pk_un (by omega)).trans h3, h4, (pk_un (by omega)).trans h5, h6, h7, fun f hf => ?_, fun f h1 h2 y hy => (pk_un (by omega)).trans (h9 f h1 h2 y hy)⟩
  obtain ⟨k1, k2, k3, k4, k5⟩ := h8 f hf
  refine ⟨fun y hy => by rw [pk_un (by omega)]; exact k1 y hy, by rw [pk_un (by omega)]; exact k2, by rw [pk_un (by omega)]; exact k3, by rw [pk_un (by omega)]; exact k4, by rw [pk_un (by omega), pk_un (by omega)]; exact k5⟩
/-- a firm's place: what it holds, what is due, others -/
theorem rowI_firm {B : Nat} {g g' : Nat → Int32} {m c b f : Nat} (h : rowI B g m c b) (hf : f < c) (e : ∀ x, (x < 32 * f + 7 ∨ 32 * f + 39 ≤ x) → g' x = g x) (hn : firmI B g' f) : rowI B g' m c b := by
  obtain ⟨h1, h2, h3, h4, h5, h6, h7, h8, h9⟩ := h
  refine ⟨(e 0 (by omega)).trans h1, h2, (e 1 (by omega)).trans h3, h4, (e 5 (by omega)).trans h5, h6, h7, fun q hq => ?_, fun q h1 h2 y hy => (e _ (by omega)).trans (h9 q h1 h2 y hy)⟩
  by_cases hqf : q = f
  · subst hqf; exact hn
  · obtain ⟨k1, k2, k3, k4, k5⟩ := h8 q hq
    refine ⟨fun y hy => by rw [e _ (by omega)]; exact k1 y hy, by rw [e _ (by omega)]; exact k2, by rw [e _ (by omega)]; exact k3, by rw [e _ (by omega)]; exact k4, by rw [e _ (by omega), e _ (by omega)]; exact k5⟩
theorem rowI_held {B : Nat} {g : Nat → Int32} {m c b f y p : Nat} {x : Int32} (h : rowI B g m c b) (hf : f < c) (hy : y < 23) (hp : p = 32 * f + y + 7) (hx : inr x (100000 * B)) : rowI B (upd g p x) m c b := by
  subst hp
  refine rowI_firm h hf (fun x hx => pk_un (by omega)) ?_
  obtain ⟨k1, k2, k3, k4, k5⟩ := h.2.2.2.2.2.2.2.1 f (by have := h.2.2.2.1; omega)
  refine ⟨fun q hq => ?_, by rw [pk_un (by omega)]; exact k2, by rw [pk_un (by omega)]; exact k3, by rw [pk_un (by omega)]; exact k4, by rw [pk_un (by omega), pk_un (by omega)]; exact k5⟩
  by_cases e : q = y
  · subst e; rw [pk_us]; exact hx
  · rw [pk_un (by omega)]; exact k1 q hq
theorem rowI_due {B : Nat} {g : Nat → Int32} {m c b f p : Nat} {x : Int32} (h : rowI B g m c b) (hf : f < c) (hp : p = 32 * f + 36) (hx : inr x (100000 * B)) : rowI B (upd g p x) m c b := by
  subst hp
  refine rowI_firm h hf (fun x hx => pk_un (by omega)) ?_
  obtain ⟨k1, k2, k3, k4, k5⟩ := h.2.2.2.2.2.2.2.1 f (by have := h.2.2.2.1; omega)
  exact ⟨fun q hq => by rw [pk_un (by omega)]; exact k1 q hq, by rw [pk_us]; exact hx, by rw [pk_un (by omega)]; exact k3, by rw [pk_un (by omega)]; exact k4, by rw [pk_un (by omega), pk_un (by omega)]; exact k5⟩
/-- what is used, the base, what is surrendered, the fines: any numbers -/
theorem rowI_any {B : Nat} {g : Nat → Int32} {m c b f y p : Nat} {x : Int32} (h : rowI B g m c b) (hf : f < c) (hy : y < 32) (hy2 : 23 ≤ y) (hy3 : y ≠ 26 ∧ y ≠ 27 ∧ y ≠ 29) (hp : p = 32 * f + y + 7) : rowI B (upd g p x) m c b := by
  subst hp
  refine rowI_firm h hf (fun x hx => pk_un (by omega)) ?_
  obtain ⟨k1, k2, k3, k4, k5⟩ := h.2.2.2.2.2.2.2.1 f (by have := h.2.2.2.1; omega)
  exact ⟨fun q hq => by rw [pk_un (by omega)]; exact k1 q hq, by rw [pk_un (by omega)]; exact k2, by rw [pk_un (by omega)]; exact k3, by rw [pk_un (by omega)]; exact k4, by rw [pk_un (by omega), pk_un (by omega)]; exact k5⟩
theorem rowI_rep {B : Nat} {g : Nat → Int32} {m c b f p q : Nat} {x y : Int32} (h : rowI B g m c b) (hf : f < c) (hp : p = 32 * f + 33) (hq : q = 32 * f + 34) (hx : 0 ≤ x.toInt) (hy : 0 ≤ y.toInt) (hxy : x.toInt + y.toInt ≤ 9999) : rowI B (upd (upd g q y) p x) m c b := by
  subst hp; subst hq
  refine rowI_firm h hf (fun x hx => by rw [pk_un (by omega), pk_un (by omega)]) ?_
  obtain ⟨k1, k2, k3, k4, k5⟩ := h.2.2.2.2.2.2.2.1 f (by have := h.2.2.2.1; omega)
  exact ⟨fun q hq => by rw [pk_un (by omega), pk_un (by omega)]; exact k1 q hq, by rw [pk_un (by omega), pk_un (by omega)]; exact k2, by rw [pk_us]; exact hx, by rw [pk_un (by omega), pk_us]; exact hy, by rw [pk_us, pk_un (by omega), pk_us]; exact hxy⟩
/-- the relation: present, history (z states; the class's rows go round: r comes next), kept (kf), text (n) -/
def hrow (r z h : Nat) : Nat := (r + 4 - z + h) % 4
def sameR (μ ν : Nat → Int32) (a b : Nat) : Prop := ∀ x, x < 349 → μ (a + x) = ν (b + x)
def okR (B : Nat) (ν : Nat → Int32) (b : Nat) : Prop := ∃ m c k, rowI B (fun x => ν (b + x)) m c k
def rst (B : Nat) (μ ν : Nat → Int32) (r z kf n : Nat) : Prop :=
  μ 2452 = nI r ∧ r < 4 ∧ μ 2451 = nI z ∧ z ≤ 4 ∧ ν 2444 = nI z ∧ (∀ h, h < z → sameR μ ν (349 * hrow r z h + 1047) (349 * h + 349) ∧ okR B ν (349 * h + 349)) ∧ kf ≤ 1 ∧ μ 2449 = nI kf ∧ ν 2445 = nI kf ∧ (kf = 1 → sameR μ ν 349 1745 ∧ okR B ν 1745) ∧ n ≤ 60 ∧ μ 2491 = nI n ∧ ν 2447 = nI n ∧ ∀ q, q < 60 → μ (q + 2500) = ν (q + 2460)
/-- a place of the class's that the relation speaks of, beside the present; of the reference's -/
def farC (x : Nat) : Prop := (349 ≤ x ∧ x < 698) ∨ (1047 ≤ x ∧ x < 2443) ∨ x = 2449 ∨ x = 2451 ∨ x = 2452 ∨ x = 2491 ∨ (2500 ≤ x ∧ x < 2560)
def farR (x : Nat) : Prop := (349 ≤ x ∧ x < 2094) ∨ x = 2444 ∨ x = 2445 ∨ x = 2447 ∨ (2460 ≤ x ∧ x < 2520)
theorem okR_cong {B : Nat} {ν ν' : Nat → Int32} {b : Nat} (h : okR B ν b) (e : ∀ x, x < 349 → ν' (b + x) = ν (b + x)) : okR B ν' b := by
  obtain ⟨m, c, k, h⟩ := h
  exact ⟨m, c, k, rowI_cong h (fun x hx => (e x hx).symm)⟩
theorem okR_mono {B B' : Nat} {ν : Nat → Int32} {b : Nat} (h : okR B ν b) (hB : B ≤ B') : okR B' ν b := by
  obtain ⟨m, c, k, h⟩ := h
  exact ⟨m, c, k, rowI_mono h hB⟩
theorem hrow_lt (r z h : Nat) : hrow r z h < 4 := Nat.mod_lt _ (by omega)
theorem rst_keep {B B' : Nat} {μ ν μ' ν' : Nat → Int32} {r z kf n : Nat} (h : rst B μ ν r z kf n) (hB : B ≤ B') (e1 : ∀ x, farC x → μ' x = μ x) (e2 : ∀ x, farR x → ν' x = ν x) : rst B' μ' ν' r z kf n := by
  obtain ⟨h1, h2, h3, h4, h5, h6, h7, h8, h9, h10, h11, h12, h13, h14⟩ := h
  refine ⟨(e1 _ (by unfold farC; omega)).trans h1, h2, (e1 _ (by unfold farC; omega)).trans h3, h4, (e2 _ (by unfold farR; omega)).trans h5, fun q hq => ?_, h7, (e1 _ (by unfold farC; omega)).trans h8, (e2 _ (by unfold farR; omega)).trans h9, fun hk => ?_, h11, (e1 _ (by unfold farC; omega)).trans h12, (e2 _ (by unfold farR; omega)).trans h13, fun q hq => ?_⟩
  · have hl := hrow_lt r z q
    obtain ⟨k1, k2⟩ := h6 q hq
    refine ⟨fun x hx => ?_, okR_mono (okR_cong k2 (fun x hx => e2 _ (by unfold farR; omega))) hB⟩
    rw [e1 _ (by unfold farC; omega), e2 _ (by unfold farR; omega)]
    exact k1 x hx
  · obtain ⟨k1, k2⟩ := h10 hk
    refine ⟨fun x hx => ?_, okR_mono (okR_cong k2 (fun x hx => e2 _ (by unfold farR; omega))) hB⟩
    rw [e1 _ (by unfold farC; omega), e2 _ (by unfold farR; omega)]
    exact k1 x hx
  · rw [e1 _ (by unfold farC; omega), e2 _ (by unfold farR; omega)]
    exact h14 q hq
/-- a state comes into the history -/
theorem rst_push {B : Nat} {μ ν : Nat → Int32} {r z kf n m c b : Nat} (h : rst B μ ν r z kf n) (hp : ∀ x, x < 349 → μ x = ν x) (hI : rowI B ν m c b) : ∃ r' z', rst B (zpush μ r z) (zrec ν 0 z) r' z' kf n := by
  obtain ⟨h1, h2, h3, h4, h5, h6, h7, h8, h9, h10, h11, h12, h13, h14⟩ := h
  have far : ∀ x, (349 ≤ x ∧ x < 698) ∨ x = 2449 ∨ x = 2491 ∨ (2500 ≤ x ∧ x < 2560) → zpush μ r z x = μ x := fun x hx => by unfold zpush; rw [pk_un (by omega), pk_un (by omega), cp_out (by omega)]
  have far2 : ∀ x, (1745 ≤ x ∧ x < 2094) ∨ x = 2445 ∨ x = 2447 ∨ (2460 ≤ x ∧ x < 2520) → zrec ν 0 z x = ν x := fun x hx => zrec_out (p := x) (by omega) (by omega) h4
  have hrowC : ∀ q x, q < 4 → q ≠ r → x < 349 → zpush μ r z (349 * q + 1047 + x) = μ (349 * q + 1047 + x) := by
    intro q x hq hne hx
    unfold zpush
    rw [pk_un (by omega), pk_un (by omega), cp_out]
    rcases Nat.lt_or_gt_of_ne hne with hl | hl <;> omega
  have hrowN : ∀ x, x < 349 → zpush μ r z (349 * r + 1047 + x) = μ x := by
    intro x hx
    unfold zpush
    rw [pk_un (by omega), pk_un (by omega), cp_in (q := x) (by omega) (by omega) (by omega)]
  have hk : kf = 1 → sameR (zpush μ r z) (zrec ν 0 z) 349 1745 ∧ okR B (zrec ν 0 z) 1745 := by
    intro hk
    obtain ⟨k1, k2⟩ := h10 hk
    refine ⟨fun x hx => ?_, okR_cong k2 (fun x hx => far2 _ (by omega))⟩
    rw [far _ (by omega), far2 _ (by omega)]
    exact k1 x hx
  have ht : ∀ q, q < 60 → zpush μ r z (q + 2500) = zrec ν 0 z (q + 2460) := by
    intro q hq
    rw [far _ (by omega), far2 _ (by omega)]
    exact h14 q hq
  refine ⟨(r + 1) % 4, min (z + 1) 4, ?_, Nat.mod_lt _ (by omega), ?_, by omega, ?_, ?_, h7, (far _ (by omega)).trans h8, (far2 _ (by omega)).trans h9, hk, h11, (far _ (by omega)).trans h12, (far2 _ (by omega)).trans h13, ht⟩
  · unfold zpush; rw [pk_un (by omega), pk_us]
  · unfold zpush; rw [pk_us]
  · unfold zrec
    by_cases q : z < 4
    · rw [if_pos q]; unfold zrecA; rw [pk_us, Nat.min_eq_left (by omega)]
    · rw [if_neg q]; unfold zrecB; rw [pk_us, Nat.min_eq_right (by omega)]
  · intro q hq
    by_cases hz : z < 4
    · -- there was room
      have hm : min (z + 1) 4 = z + 1 := by omega
      rw [hm] at hq ⊢
      have eR : zrec ν 0 z = zrecA ν 0 z := by unfold zrec; rw [if_pos hz]
      rw [eR]
      by_cases e : q = z
      · subst e
        have e1 : hrow ((r + 1) % 4) (q + 1) q = r := by unfold hrow; omega
        have e2 : ∀ x, x < 349 → zrecA ν 0 q (349 * q + 349 + x) = ν x := by
          intro x hx
          unfold zrecA
          rw [pk_un (by omega), cp_in (q := x) (by omega) (by omega) (by omega)]
        rw [e1]
        refine ⟨fun x hx => ?_, ⟨m, c, b, rowI_cong hI (fun x hx => (e2 x hx).symm)⟩⟩
        rw [hrowN x hx, e2 x hx]
        exact hp x hx
      · have e1 : hrow ((r + 1) % 4) (z + 1) q = hrow r z q := by unfold hrow; omega
        have ne : hrow r z q ≠ r := by unfold hrow; omega
        have e2 : ∀ x, x < 349 → zrecA ν 0 z (349 * q + 349 + x) = ν (349 * q + 349 + x) := by
          intro x hx
          unfold zrecA
          rw [pk_un (by omega), cp_out (by omega)]
        obtain ⟨k1, k2⟩ := h6 q (by omega)
        rw [e1]
        refine ⟨fun x hx => ?_, okR_cong k2 e2⟩
        rw [hrowC _ x (hrow_lt r z q) ne hx, e2 x hx]
        exact k1 x hx
    · have hz4 : z = 4 := by omega
      subst hz4
      have hm : min (4 + 1) 4 = 4 := by omega
      rw [hm] at hq ⊢
      have eR : zrec ν 0 4 = zrecB ν 0 := by unfold zrec; rw [if_neg (by omega)]
      rw [eR]
      by_cases e : q = 3
      · subst e
        have e1 : hrow ((r + 1) % 4) 4 3 = r := by unfold hrow; omega
        have e2 : ∀ x, x < 349 → zrecB ν 0 (349 * 3 + 349 + x) = ν x := by
          intro x hx
          unfold zrecB
          rw [pk_un (by omega), cp_in (q := x) (by omega) (by omega) (by omega), pk_un (by omega), cp_out (by omega), cp_out (by omega), cp_out (by omega)]
        rw [e1]
        refine ⟨fun x hx => ?_, ⟨m, c, b, rowI_cong hI (fun x hx => (e2 x hx).symm)⟩⟩
        rw [hrowN x hx, e2 x hx]
        exact hp x hx
      · have e1 : hrow ((r + 1) % 4) 4 q = hrow r 4 (q + 1) := by unfold hrow; omega
        have ne : hrow r 4 (q + 1) ≠ r := by unfold hrow; omega
        have e2 : ∀ x, x < 349 → zrecB ν 0 (349 * q + 349 + x) = ν (349 * (q + 1) + 349 + x) := by
          intro x hx
          unfold zrecB
          rw [pk_un (by omega), cp_out (by omega), pk_un (by omega)]
          have : q = 0 ∨ q = 1 ∨ q = 2 := by omega
          rcases this with rfl | rfl | rfl
          · rw [cp_out (by omega), cp_out (by omega), cp_in (q := 698 + x) (by omega) (by omega) (by omega)]
          · rw [cp_out (by omega), cp_in (q := 1047 + x) (by omega) (by omega) (by omega), cp_out (by omega)]
          · rw [cp_in (q := 1396 + x) (by omega) (by omega) (by omega), cp_out (by omega), cp_out (by omega)]
        obtain ⟨k1, k2⟩ := h6 (q + 1) (by omega)
        rw [e1]
        refine ⟨fun x hx => ?_, ?_⟩
        · rw [hrowC _ x (hrow_lt r 4 (q + 1)) ne hx, e2 x hx]
          exact k1 x hx
        · obtain ⟨m', c', k', k2⟩ := k2
          exact ⟨m', c', k', rowI_cong k2 (fun x hx => (e2 x hx).symm)⟩
