/-! THE FLAT KIT. All numbers of a system lie at places of ONE function μ. Cell k (at the address ad k) has a shape: an array of ints over a stretch of places (kind t, n places from o), an object (class ci; its field i is null, an int at the place o + i, or a cell), or an array of cells. -/
abbrev Zf : Type := Option (Option Nat)
abbrev ZS : Type := (Nat × Nat × Nat) ⊕ ((Nat × Nat × List Zf) ⊕ (Nat × List (Option Nat)))
def zv (ad : Nat → Nat) (μ : Nat → Int32) (o : Nat) (i : Nat) (f : Zf) : Value := match f with
  | none => .null
  | some none => .int (μ (o + i))
  | some (some k) => .ref (ad k)
def zE (tc : Nat → ClassId) (ad : Nat → Nat) (μ : Nat → Int32) (x : ZS) : va_E := match x with
  | .inl (t, n, o) => .inl (tc t, n, .inl (fun k => μ (o + k)))
  | .inr (.inl (ci, o, fs)) => .inr (ci, fs.mapIdx (zv ad μ o))
  | .inr (.inr (t, ks)) => .inl (tc t, ks.length, .inr (.inr (.inr (.inr (fun j => (ks.getD j none).map ad)))))
/-- p is one of the places of a shape -/
def zL (x : ZS) (p : Nat) : Prop := match x with
  | .inl (_, n, o) => o ≤ p ∧ p < o + n
  | .inr (.inl (_, o, fs)) => o ≤ p ∧ fs[p - o]? = some (some none)
  | .inr (.inr _) => False
def zW (D : va_G) (cl : List vw_C) (tc : Nat → ClassId) (ad : Nat → Nat) (N : Nat) (sh : Nat → ZS) (μ : Nat → Int32) (H : Heap) : Prop := ∀ k, k < N → va_at D cl (ad k, zE tc ad μ (sh k)) H
theorem arrV_ext {cA : ClassId} {n : Nat} {f g : Nat → Value} (h : ∀ j, j < n → f j = g j) : arrV cA n f = arrV cA n g := by
  have : (fun j : Fin n => f j.val) = (fun j : Fin n => g j.val) := funext (fun j => h j.val j.isLt)
  unfold arrV
  rw [this]
theorem zv_agree {ad : Nat → Nat} {μ μ' : Nat → Int32} {o i : Nat} {f : Zf} (h : f = some none → μ (o + i) = μ' (o + i)) : zv ad μ o i f = zv ad μ' o i f := by
  match f, h with
  | none, _ => rfl
  | some none, h => exact congrArg Value.int (h rfl)
  | some (some k), _ => rfl
theorem zE_agree {D : va_G} {cl : List vw_C} {tc : Nat → ClassId} {ad : Nat → Nat} {μ μ' : Nat → Int32} {x : ZS} {a : Nat} {H : Heap} (h : ∀ p, zL x p → μ p = μ' p) (ha : va_at D cl (a, zE tc ad μ x) H) : va_at D cl (a, zE tc ad μ' x) H := by
  match x, h, ha with
  | .inl (t, n, o), h, ha =>
    have e : vp_cell (tc t) (n, .inl (fun k => μ (o + k))) = vp_cell (tc t) (n, .inl (fun k => μ' (o + k))) := by
      rw [vp_cell_i, vp_cell_i]
      exact arrV_ext (fun j hj => congrArg Value.int (h (o + j) ⟨by omega, by omega⟩))
    show H[a]? = some (vp_cell (tc t) (n, .inl (fun k => μ' (o + k))))
    rw [← e]
    exact ha
  | .inr (.inl (ci, o, fs)), h, ha =>
    have e : fs.mapIdx (zv ad μ o) = fs.mapIdx (zv ad μ' o) := by
      apply List.ext_getElem?
      intro i
      rw [List.getElem?_mapIdx, List.getElem?_mapIdx]
      cases hf : fs[i]? with
      | none => rfl
      | some f =>
        refine congrArg some (zv_agree (fun e => h (o + i) ⟨by omega, ?_⟩))
        rw [Nat.add_sub_cancel_left, hf, e]
    show va_at D cl (a, .inr (ci, fs.mapIdx (zv ad μ' o))) H
    rw [← e]
    exact ha
  | .inr (.inr (t, ks)), h, ha => exact ha
theorem zW.agree {D : va_G} {cl : List vw_C} {tc : Nat → ClassId} {ad : Nat → Nat} {N : Nat} {sh : Nat → ZS} {μ μ' : Nat → Int32} {H : Heap} (hW : zW D cl tc ad N sh μ H) (h : ∀ k, k < N → ∀ p, zL (sh k) p → μ p = μ' p) : zW D cl tc ad N sh μ' H := fun k hk => zE_agree (h k hk) (hW k hk)
theorem zW.kept {D : va_G} {cl : List vw_C} {tc : Nat → ClassId} {ad : Nat → Nat} {N : Nat} {sh : Nat → ZS} {μ : Nat → Int32} {H H1 : Heap} (hW : zW D cl tc ad N sh μ H) (h : ∀ k, k < N → H1[ad k]? = H[ad k]?) : zW D cl tc ad N sh μ H1 := fun k hk => (hW k hk).kept (h k hk)
theorem zW.put {D : va_G} {cl : List vw_C} {tc : Nat → ClassId} {ad : Nat → Nat} {N : Nat} {sh : Nat → ZS} {μ μ' : Nat → Int32} {H H1 : Heap} {k : Nat} (hW : zW D cl tc ad N sh μ H) (inj : ∀ i j, i < N → j < N → ad i = ad j → i = j) (hk : k < N) (oq : ∀ q : Nat, q ≠ ad k → H1[q]? = H[q]?) (hn : va_at D cl (ad k, zE tc ad μ' (sh k)) H1) (ho : ∀ j, j < N → j ≠ k → ∀ p, zL (sh j) p → μ p = μ' p) : zW D cl tc ad N sh μ' H1 := by
  intro j hj
  by_cases e : j = k
  · subst e; exact hn
  · exact zE_agree (ho j hj e) ((hW j hj).kept (oq _ (fun z => e (inj j k hj hk z))))
/-- every place has one owner -/
def zO (N : Nat) (sh : Nat → ZS) (own : Nat → Nat) : Prop := ∀ k, k < N → ∀ p, zL (sh k) p → own p = k
theorem zO.ne {N : Nat} {sh : Nat → ZS} {ow : Nat → Nat} {μ : Nat → Int32} {k q : Nat} {x : Int32} (h : zO N sh ow) (hk : k < N) (hq : zL (sh k) q) : ∀ j, j < N → j ≠ k → ∀ p, zL (sh j) p → μ p = upd μ q x p := by
  intro j hj e p hp
  have : p ≠ q := fun z => by subst z; exact e ((h j hj p hp).symm.trans (h k hk p hq))
  exact (pk_un this).symm
theorem zP1 {D : va_G} {cl : List vw_C} {a : Nat} {e : va_E} {H : Heap} (h : va_at D cl (a, e) H) : va_P D cl [(a, e)] H := by
  intro k q hq
  match k, hq with
  | 0, hq => cases hq; exact h
  | k + 1, hq => simp at hq
