theorem zdn {q n : Nat} (h : q ≤ n) : nI (n - q) + Int32.ofInt (-1) = nI n - nI (q + 1) := by
  rw [← pk_sub h, ← nI_1, show Int32.ofInt (-1) = -1 from rfl]
  grind
theorem zdn_neg {n : Nat} (hn : n + 1 < 2 ^ 30) : nI n - nI (n + 1) < 0 := pk_sneg (a := n) (b := n + 1) hn (Nat.lt_succ_self n)
/-- max(0, x) and the other spelling of it -/
theorem zmax_0 (x : Int32) : zmax (nI 0) x = if 0 ≤ x then x else nI 0 := by
  unfold zmax
  rw [nI_0]
  by_cases h : 0 < x
  · rw [if_pos h, if_pos (by rw [Int32.lt_iff_toInt_lt] at h; rw [Int32.le_iff_toInt_le]; omega)]
  · rw [if_neg h]
    by_cases h2 : 0 ≤ x
    · rw [if_pos h2]
      apply Int32.toInt_inj.mp
      rw [Int32.lt_iff_toInt_lt] at h
      rw [Int32.le_iff_toInt_le] at h2
      omega
    · rw [if_neg h2]
theorem zupd_same {f : Nat → Int32} {q : Nat} {x : Int32} (h : f q = x) : upd f q x = f := by
  funext p
  by_cases hp : p = q
  · subst hp; rw [pk_us, h]
  · rw [pk_un hp]
theorem zupd_twice {f : Nat → Int32} {q : Nat} {x y : Int32} : upd (upd f q x) q y = upd f q y := by
  funext p
  by_cases hp : p = q
  · subst hp; rw [pk_us, pk_us]
  · rw [pk_un hp, pk_un hp, pk_un hp]
theorem zupd_swap {f : Nat → Int32} {q r : Nat} {x y : Int32} (h : q ≠ r) : upd (upd f q x) r y = upd (upd f r y) q x := by
  funext p
  by_cases hp : p = q
  · subst hp; rw [pk_us, pk_un h, pk_us]
  · by_cases hr : p = r
    · subst hr; rw [pk_us, pk_un hp, pk_us]
    · rw [pk_un hr, pk_un hp, pk_un hp, pk_un hr]
/-- copies of parts of a stretch of 349 places -/
def cps (μ : Nat → Int32) (a b : Nat) (S : Nat → Bool) : Nat → Int32 := fun p => if b ≤ p ∧ S (p - b) = true then μ (a + (p - b)) else μ p
theorem cps_cpn {μ : Nat → Int32} {a b x n : Nat} {S : Nat → Bool} (hd : a + 349 ≤ b ∨ b + 349 ≤ a) (hS : ∀ q, S q = true → q < 349) (hx : x + n ≤ 349) {a' b' : Nat} (ha : a' = a + x) (hb : b' = b + x) : cpn (cps μ a b S) a' b' n = cps μ a b (fun q => S q || (decide (x ≤ q) && decide (q < x + n))) := by
  subst ha; subst hb
  funext p
  unfold cpn cps
  by_cases h : b + x ≤ p ∧ p < b + x + n
  · rw [if_pos h, if_neg (by
      rintro ⟨h1, h2⟩
      have := hS _ h2
      omega), if_pos ⟨by omega, by simp only [Bool.or_eq_true, Bool.and_eq_true, decide_eq_true_eq]; exact Or.inr (by omega)⟩]
    congr 1
    omega
  · rw [if_neg h]
    by_cases h2 : b ≤ p ∧ S (p - b) = true
    · rw [if_pos h2, if_pos ⟨h2.1, by show (S (p - b) || _) = true; rw [h2.2]; rfl⟩]
    · rw [if_neg h2, if_neg (by
        rintro ⟨h3, h4⟩
        simp only [Bool.or_eq_true, Bool.and_eq_true, decide_eq_true_eq] at h4
        rcases h4 with h4 | h4
        · exact h2 ⟨h3, h4⟩
        · exact h ⟨by omega, by omega⟩)]
theorem cps_upd {μ : Nat → Int32} {a b x : Nat} {S : Nat → Bool} {v : Int32} {b' : Nat} (hb : b' = b + x) (hv : v = μ (a + x)) : upd (cps μ a b S) b' v = cps μ a b (fun q => S q || decide (q = x)) := by
  subst hb; subst hv
  funext p
  by_cases h : p = b + x
  · subst h
    rw [pk_us]
    unfold cps
    rw [if_pos ⟨by omega, by simp only [Nat.add_sub_cancel_left, decide_true, Bool.or_true]⟩, Nat.add_sub_cancel_left]
  · rw [pk_un h]
    unfold cps
    by_cases h2 : b ≤ p ∧ S (p - b) = true
    · rw [if_pos h2, if_pos ⟨h2.1, by show (S (p - b) || _) = true; rw [h2.2]; rfl⟩]
    · rw [if_neg h2, if_neg (by
        rintro ⟨h3, h4⟩
        simp only [Bool.or_eq_true, decide_eq_true_eq] at h4
        rcases h4 with h4 | h4
        · exact h2 ⟨h3, h4⟩
        · omega)]
theorem cps_0 (μ : Nat → Int32) (a b : Nat) : cps μ a b (fun _ => false) = μ := by
  funext p; unfold cps; rw [if_neg (by simp)]
theorem cps_eq {μ : Nat → Int32} {a b : Nat} {S T : Nat → Bool} (h : ∀ q, S q = T q) : cps μ a b S = cps μ a b T := by
  rw [show S = T from funext h]
theorem cps_n {μ : Nat → Int32} {a b n : Nat} {S : Nat → Bool} (h : ∀ q, S q = true ↔ q < n) : cps μ a b S = cpn μ a b n := by
  funext p
  unfold cps cpn
  by_cases h1 : b ≤ p ∧ p < b + n
  · rw [if_pos h1, if_pos ⟨h1.1, (h _).mpr (by omega)⟩]
  · rw [if_neg h1, if_neg (by rintro ⟨h2, h3⟩; have := (h _).mp h3; exact h1 ⟨h2, by omega⟩)]
theorem cps_out {μ : Nat → Int32} {a b p : Nat} {S : Nat → Bool} (hS : ∀ q, S q = true → q < 349) (h : p < b ∨ b + 349 ≤ p) : cps μ a b S p = μ p := by
  unfold cps
  rw [if_neg (by rintro ⟨h1, h2⟩; have := hS _ h2; omega)]
section ZAC
variable {p : Program} {l : Launch} {e : Env} {R : Room} {s : State} {m : MethodId} {args : Array Value} {below : List Frame} {meth : Method} {c : Code} {A : Nat → Prop} {D : va_G} {cl : List vw_C} {tc : Nat → ClassId} {ad : Nat → Nat} {N : Nat} {sh : Nat → ZS} {nL : Nat} {Q : State → Prop} {μ : Nat → Int32} {pc : Nat} {lv : List (Nat × Value)} {st : List Value}
variable {K : State → Heap → Prop} {tys : List (ClassId × FieldType)} {ow : Nat → Nat} {cc : ByteArray} {own : String} {ret : Option FieldType}
theorem zWl {H : Heap} (hW : zW D cl tc ad N sh μ H) : va_P D cl ((List.range N).map (fun k => (ad k, zE tc ad μ (sh k)))) H := by
  intro k q hq
  rw [List.getElem?_map] at hq
  by_cases hk : k < N
  · rw [List.getElem?_range hk] at hq
    cases hq
    exact hW k hk
  · rw [List.getElem?_eq_none (by rw [List.length_range]; omega)] at hq
    cases hq
theorem zWd (inj : ∀ i j, i < N → j < N → ad i = ad j → i = j) (hA : ∀ k, k < N → A (ad k)) : va_D A ((List.range N).map (fun k => (ad k, zE tc ad μ (sh k)))) := by
  have key : ∀ (k : Nat) (q : Nat × va_E), ((List.range N).map (fun k => (ad k, zE tc ad μ (sh k))))[k]? = some q → k < N ∧ q.1 = ad k := by
    intro k q hq
    rw [List.getElem?_map] at hq
    by_cases hk : k < N
    · rw [List.getElem?_range hk] at hq
      cases hq
      exact ⟨hk, rfl⟩
    · rw [List.getElem?_eq_none (by rw [List.length_range]; omega)] at hq
      cases hq
  refine ⟨fun i j x y hi hj hxy => ?_, fun k q hq => ?_⟩
  · obtain ⟨h1, h2⟩ := key i x hi
    obtain ⟨h3, h4⟩ := key j y hj
    exact inj i j h1 h3 (h2.symm.trans (hxy.trans h4))
  · obtain ⟨h1, h2⟩ := key k q hq
    rw [h2]; exact hA k h1
theorem zWg {k : Nat} (hk : k < N) : ((List.range N).map (fun k => (ad k, zE tc ad μ (sh k))))[k]? = some (ad k, zE tc ad μ (sh k)) := by
  rw [List.getElem?_map, List.getElem?_range hk]; rfl
theorem zr_acopy (X : zX p s m args meth c A D cl ad N nL K tys ow sh cc own ret) {index k0 k1 t n o0 o1 : Nat} {z : Int32} (t0 : Nat) (d : decode cc pc = .ok (.invokestatic index, 3)) (h0 : k0 < N) (h1 : k1 < N) (hs0 : sh k0 = .inl (t, n, o0)) (hs1 : sh k1 = .inl (t, n, o1)) (ht : tys[t0]? = some (tc t, .int)) (hz : z = nI n) (hn : n < 2 ^ 31) (hl : Cond.methodLink own index arraycopyName ∈ zT) (hnat : Cond.native arraycopyName ∈ zT) (hst : Cond.static arraycopyName ∈ zT) (hini : Cond.initialized "java/lang/System" ∈ zT) (hf : 1 ≤ R.frames) (hlo : (st.map fun v => v.category).sum + 18 ≤ R.locals) (kk : zG p l e R s m args below meth c A D cl tc ad N sh nL Q (cpn μ o0 o1 n) (pc + 3) lv st) : zG p l e R s m args below meth c A D cl tc ad N sh nL Q μ pc lv (.int z :: .int (nI 0) :: .ref (ad k1) :: .int (nI 0) :: .ref (ad k0) :: st) := by
  intro H L ls a b h
  subst hz
  have e0 := zWg (tc := tc) (ad := ad) (sh := sh) (μ := μ) h0
  have e1 := zWg (tc := tc) (ad := ad) (sh := sh) (μ := μ) h1
  rw [hs0] at e0
  rw [hs1] at e1
  have c0 : (nI 0).toNatClampNeg = 0 := nI_clamp (by omega)
  have c1 : (nI n).toNatClampNeg = n := nI_clamp hn
  refine va_copyi X.1.1 X.1.2.1 (X.1.2.2.1.trans h.1.symm) X.1.2.2.2.1 (X.1.2.2.2.2 _ hl) (X.1.2.2.2.2 _ hnat) (X.1.2.2.2.2 _ hst) (X.1.2.2.2.2 _ hini) X.2.2.2.2.2.1 (zWl a) (zWd X.2.2.2.1 X.2.2.2.2.1) b k0 k1 t0 t0 e0 e1 ht ht rfl (nI_pos (by omega)) (nI_pos (by omega)) (nI_pos hn) (by rw [c0, c1]; omega) (by rw [c0, c1]; omega) (fun _ _ => rfl) hf hlo d (fun H1 L1 hP1 _ hS1 => kk H1 L1 ls ?_ hS1 h)
  rw [c0, c1] at hP1
  intro k hk
  by_cases hkk : k = k1
  · subst hkk
    have hl1 : k < ((List.range N).map (fun k => (ad k, zE tc ad μ (sh k)))).length := by rw [List.length_map, List.length_range]; exact hk
    have g := hP1 k _ (List.getElem?_set_self hl1)
    rw [hs1]
    have e : vp_cell (tc t) (n, .inl (va_cpy (fun q => μ (o0 + q)) (fun q => μ (o1 + q)) 0 0 n)) = vp_cell (tc t) (n, .inl (fun q => cpn μ o0 o1 n (o1 + q))) := by
      rw [vp_cell_i, vp_cell_i]
      refine arrV_ext (fun j hj => congrArg Value.int ?_)
      rw [cpn_in (q := o0 + j) (by omega) (by omega) (by omega)]
      unfold va_cpy
      rw [if_pos ⟨Nat.zero_le _, by omega⟩]
      congr 1
      omega
    show H1[ad k]? = some (vp_cell (tc t) (n, .inl (fun q => cpn μ o0 o1 n (o1 + q))))
    rw [← e]
    exact g
  · have g := hP1 k _ (by rw [List.getElem?_set_ne (fun q => hkk q.symm)]; exact zWg hk)
    refine zE_agree (fun q hq => ?_) g
    refine (cpn_out ?_).symm
    rcases Nat.lt_or_ge q o1 with z | z
    · exact Or.inl z
    · rcases Nat.lt_or_ge q (o1 + n) with z2 | z2
      · exfalso
        have w1 := X.2.2.2.2.2.2.1 k hk q hq
        have w2 := X.2.2.2.2.2.2.1 k1 h1 q (by rw [hs1]; exact ⟨z, z2⟩)
        exact hkk (w1.symm.trans w2)
      · exact Or.inr z2
end ZAC
