/-! rows whose numbers are bounded by any M (what is held) and any D (what is due) -/
def firmJ (M D : Nat) (g : Nat → Int32) (f : Nat) : Prop := (∀ y, y < 23 → inr (g (32 * f + y + 7)) M) ∧ inr (g (32 * f + 36)) D ∧ 0 ≤ (g (32 * f + 33)).toInt ∧ 0 ≤ (g (32 * f + 34)).toInt ∧ (g (32 * f + 33)).toInt + (g (32 * f + 34)).toInt ≤ 9999
def rowJ (M D : Nat) (g : Nat → Int32) (m c b : Nat) : Prop := g 0 = nI m ∧ m < 240 ∧ g 1 = nI c ∧ c ≤ 8 ∧ g 5 = nI b ∧ 1 ≤ b ∧ b ≤ 5 ∧ (∀ f, f < 8 → firmJ M D g f) ∧ ∀ f, c ≤ f → f < 8 → ∀ y, y < 32 → g (32 * f + y + 7) = nI 0
theorem rowJ_of {B : Nat} {g : Nat → Int32} {m c b : Nat} (h : rowI B g m c b) : rowJ (100000 * B) (100000 * B) g m c b := h
theorem rowJ_to {B M D : Nat} {g : Nat → Int32} {m c b : Nat} (h : rowJ M D g m c b) (hM : M ≤ 100000 * B) (hD : D ≤ 100000 * B) : rowI B g m c b := by
  obtain ⟨h1, h2, h3, h4, h5, h6, h7, h8, h9⟩ := h
  refine ⟨h1, h2, h3, h4, h5, h6, h7, fun f hf => ?_, h9⟩
  obtain ⟨k1, k2, k3, k4, k5⟩ := h8 f hf
  exact ⟨fun y hy => inr_mono (k1 y hy) hM, inr_mono k2 hD, k3, k4, k5⟩
theorem rowJ_cong {M D : Nat} {g g' : Nat → Int32} {m c b : Nat} (h : rowJ M D g m c b) (e : ∀ x, x < 349 → g x = g' x) : rowJ M D g' m c b := by
  obtain ⟨h1, h2, h3, h4, h5, h6, h7, h8, h9⟩ := h
  refine ⟨(e 0 (by omega)).symm.trans h1, h2, (e 1 (by omega)).symm.trans h3, h4, (e 5 (by omega)).symm.trans h5, h6, h7, fun f hf => ?_, fun f h1 h2 y hy => (e _ (by omega)).symm.trans (h9 f h1 h2 y hy)⟩
  obtain ⟨k1, k2, k3, k4, k5⟩ := h8 f hf
  refine ⟨fun y hy => by rw [← e _ (by omega)]; exact k1 y hy, by rw [← e _ (by omega)]; exact k2, by rw [← e _ (by omega)]; exact k3, by rw [← e _ (by omega)]; exact k4, by rw [← e _ (by omega), ← e _ (by omega)]; exact k5⟩
theorem rowJ_firm {M D M' D' : Nat} {g g' : Nat → Int32} {m c b f : Nat} (h : rowJ M D g m c b) (hM : M ≤ M') (hD : D ≤ D') (hf : f < c) (e : ∀ x, x < 263 → (x < 32 * f + 7 ∨ 32 * f + 39 ≤ x) → g' x = g x) (hn : firmJ M' D' g' f) : rowJ M' D' g' m c b := by
  obtain ⟨h1, h2, h3, h4, h5, h6, h7, h8, h9⟩ := h
  refine ⟨(e 0 (by omega) (by omega)).trans h1, h2, (e 1 (by omega) (by omega)).trans h3, h4, (e 5 (by omega) (by omega)).trans h5, h6, h7, fun q hq => ?_, fun q h1 h2 y hy => (e _ (by omega) (by omega)).trans (h9 q h1 h2 y hy)⟩
  by_cases hqf : q = f
  · subst hqf; exact hn
  · obtain ⟨k1, k2, k3, k4, k5⟩ := h8 q hq
    refine ⟨fun y hy => by rw [e _ (by omega) (by omega)]; exact inr_mono (k1 y hy) hM, by rw [e _ (by omega) (by omega)]; exact inr_mono k2 hD, by rw [e _ (by omega) (by omega)]; exact k3, by rw [e _ (by omega) (by omega)]; exact k4, by rw [e _ (by omega) (by omega), e _ (by omega) (by omega)]; exact k5⟩
theorem rowJ_held {M D M' : Nat} {g : Nat → Int32} {m c b f y p : Nat} {x : Int32} (h : rowJ M D g m c b) (hM : M ≤ M') (hf : f < c) (hy : y < 23) (hp : p = 32 * f + y + 7) (hx : inr x M') : rowJ M' D (upd g p x) m c b := by
  subst hp
  refine rowJ_firm h hM (Nat.le_refl D) hf (fun x _ hx => pk_un (by omega)) ?_
  obtain ⟨k1, k2, k3, k4, k5⟩ := h.2.2.2.2.2.2.2.1 f (by have := h.2.2.2.1; omega)
  refine ⟨fun q hq => ?_, by rw [pk_un (by omega)]; exact k2, by rw [pk_un (by omega)]; exact k3, by rw [pk_un (by omega)]; exact k4, by rw [pk_un (by omega), pk_un (by omega)]; exact k5⟩
  by_cases e : q = y
  · subst e; rw [pk_us]; exact hx
  · rw [pk_un (by omega)]; exact inr_mono (k1 q hq) hM
/-- transfers of a text keep a row as it should be -/
theorem rowJ_zgr {M D : Nat} {g : Nat → Int32} {A B V T : Nat → Nat} {m c b : Nat} (h : rowJ M D g m c b) (hM : M < 2 ^ 29) : ∀ i, i ≤ 8 → (∀ j, j < i → zok1 (zgr g A B V T j) c (A j) (B j) (V j) (T j) ∧ 1 ≤ T j ∧ T j ≤ 9999) → rowJ (M + 9999 * i) D (zgr g A B V T i) m c b
  | 0, _, _ => h
  | i + 1, hi, ok => by
    have ih := rowJ_zgr h hM i (by omega) (fun j hj => ok j (by omega))
    obtain ⟨⟨h1, h2, h3, h4, h5⟩, t1, t9⟩ := ok i (by omega)
    have hc := h.2.2.2.1
    show rowJ (M + 9999 * (i + 1)) D (zrw (zgr g A B V T i) (A i) (B i) (V i) (T i)) m c b
    have qa := (ih.2.2.2.2.2.2.2.1 (A i) (by omega)).1 (V i) (by omega)
    have qb := (ih.2.2.2.2.2.2.2.1 (B i) (by omega)).1 (V i) (by omega)
    unfold zrw
    refine rowJ_held (M := M + 9999 * i) (rowJ_held ih (Nat.le_refl _) h1 (y := V i) (by omega) rfl ?_) (by omega) h2 (y := V i) (by omega) rfl ?_
    · exact inr_sub qa (by rw [nI_toInt (by omega)]; omega) h5 (by omega)
    · exact inr_add qb (by omega) (by omega)
theorem zch_ext {w : Nat → Int32} {n : Nat} {S E A B V T : Nat → Nat} {K : Nat} (h : zch w n S E A B V T K) : ∃ S', zch w n S' E A B V T K ∧ S' (K + 1) = E K + 1 := by
  refine ⟨fun i => if i = K + 1 then E K + 1 else S i, ⟨?_, fun i hi => ?_, fun i hi => ?_⟩, if_pos rfl⟩
  · show (if 0 = K + 1 then E K + 1 else S 0) = 0
    rw [if_neg (by omega)]; exact h.1
  · simp only [if_neg (show ¬ i = K + 1 by omega)]
    exact h.2.1 i hi
  · simp only [if_neg (show ¬ i = K + 1 by omega), if_neg (show ¬ i + 1 = K + 1 by omega)]
    exact h.2.2 i hi
theorem zrec_2094 {F ν : Nat → Int32} {z : Nat} (hz : z ≤ 4) (h1 : ∀ x, x < 349 → F (2094 + x) = ν x) (h2 : ∀ x, farR x → F x = ν x) : ∀ x, farR x → zrec F 2094 z x = zrec ν 0 z x := by
  intro x hx
  have cpE : ∀ {M N : Nat → Int32} (a b : Nat), (∀ x, farR x → M x = N x) → farR a → farR (a + 348) → (349 ≤ a ∧ a + 349 ≤ 2094) → ∀ x, farR x → cp M a b x = cp N a b x := by
    intro M N a b h _ _ ha x hx
    by_cases q : b ≤ x ∧ x < b + 349
    · rw [cp_in q.1 q.2 rfl, cp_in q.1 q.2 rfl]
      exact h _ (by unfold farR; omega)
    · rw [cp_out (by omega), cp_out (by omega)]
      exact h x hx
  have cp0 : ∀ {M N : Nat → Int32} (b : Nat), (∀ x, farR x → M x = N x) → (∀ x, x < 349 → M (2094 + x) = N x) → ∀ x, farR x → cp M 2094 b x = cp N 0 b x := by
    intro M N b h h0 x hx
    by_cases q : b ≤ x ∧ x < b + 349
    · rw [cp_in q.1 q.2 rfl, cp_in (q := x - b) q.1 q.2 (by omega)]
      exact h0 _ (by omega)
    · rw [cp_out (by omega), cp_out (by omega)]
      exact h x hx
  have upE : ∀ {M N : Nat → Int32} (p : Nat) (y : Int32), (∀ x, farR x → M x = N x) → ∀ x, farR x → upd M p y x = upd N p y x := by
    intro M N p y h x hx
    by_cases q : x = p
    · subst q; rw [pk_us, pk_us]
    · rw [pk_un q, pk_un q]; exact h x hx
  unfold zrec
  split
  · unfold zrecA
    exact upE _ _ (cp0 _ h2 h1) x hx
  · unfold zrecB
    refine upE _ _ (cp0 _ (upE _ _ (cpE _ _ (cpE _ _ (cpE _ _ h2 (by unfold farR; omega) (by unfold farR; omega) (by omega)) (by unfold farR; omega) (by unfold farR; omega) (by omega)) (by unfold farR; omega) (by unfold farR; omega) (by omega))) (fun x hx => ?_)) x hx
    rw [pk_un (by omega), cp_out (by omega), cp_out (by omega), cp_out (by omega), pk_un (by omega), cp_out (by omega), cp_out (by omega), cp_out (by omega)]
    exact h1 x hx
