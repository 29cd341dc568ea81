/-! WHAT IS TOLD, as functions of a row -/
def cntF (g : Nat → Int32) (i : Nat) : Int32 := match i with
  | 0 => g 0
  | 1 => nI ((g 0).toInt.toNat / 12)
  | 2 => g 1
  | 3 => g 2
  | 4 => g 3
  | 5 => g 4
  | 6 => g 5
  | 7 => g 6
  | 8 => zsum (fun f => g (32 * f + 36)) 8
  | 9 => zsum (fun f => g (32 * f + 38)) 8
  | 10 => zsum (fun f => zsum (fun v => g (32 * f + v + 7)) 20) 8
  | 11 => zsum (fun v => g (v + 323)) 20
  | _ => nI (if (g 0).toInt.toNat % 12 < 4 ∧ 0 < (g 0).toInt.toNat / 12 then 4 - (g 0).toInt.toNat % 12 else 16 - (g 0).toInt.toNat % 12)
def firF (g : Nat → Int32) (f i : Nat) : Int32 := match i with
  | 0 => zsum (fun v => g (32 * f + v + 7)) 20
  | 1 => nI (zcnt (fun v => g (32 * f + v + 7)) 20)
  | 2 => zexO (fun v => g (32 * f + v + 7)) 20
  | 3 => zexW (fun v => g (32 * f + v + 7)) 20
  | 4 => g (32 * f + 33)
  | 5 => g (32 * f + 34)
  | 6 => g (32 * f + 35)
  | 7 => g (32 * f + 36)
  | 8 => g (32 * f + 37)
  | 9 => g (32 * f + 38)
  | _ => zmax (nI 0) (g (32 * f + 36) - zsdC g f 3)
def offF (g : Nat → Int32) (f k i : Nat) : Int32 := match i with
  | 0 => g (32 * f + k + 27)
  | 1 => zmax (nI 0) (g (32 * f + 35) * g (k + 2) / nI 100 - g (32 * f + k + 30))
  | _ => g (32 * f + k + 30)
def vinF (g : Nat → Int32) (v i : Nat) : Int32 := match i with
  | 0 => g (v + 263)
  | 1 => zsum (fun f => g (32 * f + v + 7)) 8
  | 2 => g (v + 283)
  | 3 => g (v + 303)
  | 4 => g (v + 323)
  | 5 => nI (zcnt (fun f => g (32 * f + v + 7)) 8)
  | _ => zmoC (fun f => g (32 * f + v + 7)) v (g 5).toInt.toNat ((g 0).toInt.toNat / 12) (g 0).toInt.toNat
def graF (g : Nat → Int32) (k i : Nat) : Int32 := match i with
  | 0 => g (k + 343)
  | 1 => zsum (fun f => g (32 * f + k + 27)) 8
  | _ => g (k + 346)
theorem zto {x : Int32} {n : Nat} (h : x = nI n) (hn : n < 2 ^ 31) : x.toInt.toNat = n := by rw [h, nI_toInt hn]; rfl
theorem t_count {l : Launch} {D : va_G} {tc : Nat → ClassId} {ad : Nat → Nat} {A : Nat → Prop} {tF tL tM : Nat} (E : zN 299 A ad) (μ : Nat → Int32) {m c ro z : Nat} (S : clsS μ m c ro z) {i : Nat} (hi : i < 13) : zMi l yX5_count cX5_count 2 (some .int) (zrm 5) (zK A D tc tF tL tM) A D vwCl tc ad 299 shC [.ref (ad (0)), .int (nI i)] μ (fun r u => r = cntF μ i ∧ u = μ) := by
  have hm := zto S.1 (by have := S.2.1; omega)
  match i, hi with
  | 0, _ => exact zM_i (d_count_0 E μ S) S.1.symm
  | 1, _ => exact zM_i (d_count_1 E μ S rfl) (by show nI (m / 12) = nI ((μ 0).toInt.toNat / 12); rw [hm])
  | 2, _ => exact zM_i (d_count_2 E μ S) S.2.2.1.symm
  | 3, _ => exact d_count_3 E μ S
  | 4, _ => exact d_count_4 E μ S
  | 5, _ => exact d_count_5 E μ S
  | 6, _ => exact d_count_6 E μ S
  | 7, _ => exact d_count_7 E μ S
  | 8, _ => exact d_count_8 E μ S
  | 9, _ => exact d_count_9 E μ S
  | 10, _ => exact d_count_10 E μ S
  | 11, _ => exact d_count_11 E μ S
  | 12, _ => exact zM_i (d_count_12 E μ S rfl) (by show nI _ = nI (if (μ 0).toInt.toNat % 12 < 4 ∧ 0 < (μ 0).toInt.toNat / 12 then 4 - (μ 0).toInt.toNat % 12 else 16 - (μ 0).toInt.toNat % 12); rw [hm])
  | i + 13, h => omega
theorem t_firm {l : Launch} {D : va_G} {tc : Nat → ClassId} {ad : Nat → Nat} {A : Nat → Prop} {tF tL tM : Nat} (E : zN 299 A ad) (μ : Nat → Int32) {m c ro z : Nat} (S : clsS μ m c ro z) {f : Nat} (hf : f < c) {i : Nat} (hi : i < 11) : zMi l yX5_firm cX5_firm 4 (some .int) (zrm 5) (zK A D tc tF tL tM) A D vwCl tc ad 299 shC [.ref (ad (0)), .int (nI f), .int (nI i)] μ (fun r u => r = firF μ f i ∧ u = μ) := by
  match i, hi with
  | 0, _ => exact d_firm_0 E μ S hf
  | 1, _ => exact d_firm_1 E μ S hf
  | 2, _ => exact d_firm_2 E μ S hf
  | 3, _ => exact d_firm_3 E μ S hf
  | 4, _ => exact d_firm_4 E μ S hf
  | 5, _ => exact d_firm_5 E μ S hf
  | 6, _ => exact d_firm_6 E μ S hf
  | 7, _ => exact d_firm_7 E μ S hf
  | 8, _ => exact d_firm_8 E μ S hf
  | 9, _ => exact d_firm_9 E μ S hf
  | 10, _ => exact d_firm_10 E μ S hf
  | i + 11, h => omega
theorem t_offsets {l : Launch} {D : va_G} {tc : Nat → ClassId} {ad : Nat → Nat} {A : Nat → Prop} {tF tL tM : Nat} (E : zN 299 A ad) (μ : Nat → Int32) {m c ro z : Nat} (S : clsS μ m c ro z) {f : Nat} (hf : f < c) {k : Nat} (hk : k ≤ 2) {i : Nat} (hi : i < 3) : zMi l yX5_offsets cX5_offsets 5 (some .int) (zrm 5) (zK A D tc tF tL tM) A D vwCl tc ad 299 shC [.ref (ad (0)), .int (nI f), .int (nI k), .int (nI i)] μ (fun r u => r = offF μ f k i ∧ u = μ) := by
  match i, hi with
  | 0, _ => exact d_offsets_0 E μ S hf hk
  | 1, _ => exact d_offsets_1 E μ S hf hk
  | 2, _ => exact d_offsets_2 E μ S hf hk
  | i + 3, h => omega
theorem t_vintage {l : Launch} {D : va_G} {tc : Nat → ClassId} {ad : Nat → Nat} {A : Nat → Prop} {tF tL tM : Nat} (E : zN 299 A ad) (μ : Nat → Int32) {m c ro z b : Nat} (S : clsS μ m c ro z) (hb : μ 5 = nI b) (hb1 : 1 ≤ b) (hb5 : b ≤ 5) {v : Nat} (hv : v ≤ 19) {i : Nat} (hi : i < 7) : zMi l yX5_vintage cX5_vintage 3 (some .int) (zrm 5) (zK A D tc tF tL tM) A D vwCl tc ad 299 shC [.ref (ad (0)), .int (nI v), .int (nI i)] μ (fun r u => r = vinF μ v i ∧ u = μ) := by
  have hm := zto S.1 (by have := S.2.1; omega)
  have hbb := zto hb (by omega)
  match i, hi with
  | 0, _ => exact d_vintage_0 E μ S hv
  | 1, _ => exact d_vintage_1 E μ S hv
  | 2, _ => exact d_vintage_2 E μ S hv
  | 3, _ => exact d_vintage_3 E μ S hv
  | 4, _ => exact d_vintage_4 E μ S hv
  | 5, _ => exact d_vintage_5 E μ S hv
  | 6, _ => exact zM_i (d_vintage_6 E μ S hv rfl hb hb1 hb5) (by show zmoC _ v b (m / 12) m = zmoC (fun f => μ (32 * f + v + 7)) v (μ 5).toInt.toNat ((μ 0).toInt.toNat / 12) (μ 0).toInt.toNat; rw [hm, hbb])
  | i + 7, h => omega
theorem t_grade {l : Launch} {D : va_G} {tc : Nat → ClassId} {ad : Nat → Nat} {A : Nat → Prop} {tF tL tM : Nat} (E : zN 299 A ad) (μ : Nat → Int32) {m c ro z : Nat} (S : clsS μ m c ro z) {k : Nat} (hk : k ≤ 2) {i : Nat} (hi : i < 3) : zMi l yX5_grade cX5_grade 3 (some .int) (zrm 5) (zK A D tc tF tL tM) A D vwCl tc ad 299 shC [.ref (ad (0)), .int (nI k), .int (nI i)] μ (fun r u => r = graF μ k i ∧ u = μ) := by
  match i, hi with
  | 0, _ => exact d_grade_0 E μ S hk
  | 1, _ => exact d_grade_1 E μ S hk
  | 2, _ => exact d_grade_2 E μ S hk
  | i + 3, h => omega
/-! equal rows tell the same -/
theorem zsdC_eq {μ ν : Nat → Int32} {f : Nat} (P : eqr μ ν) (hf : f < 8) : ∀ n, n ≤ 3 → zsdC μ f n = zsdC ν f n
  | 0, _ => zsum_cong (fun i hi => P _ (by omega))
  | n + 1, hn => by
    simp only [zsdC]
    rw [zsdC_eq P hf n (by omega)]
    unfold zcu
    rw [P (32 * f + n + 27) (by omega), P (32 * f + 35) (by omega), P (n + 2) (by omega), P (32 * f + n + 30) (by omega)]
theorem cntF_eq {μ ν : Nat → Int32} (P : eqr μ ν) {i : Nat} (hi : i < 13) : cntF μ i = cntF ν i := by
  match i, hi with
  | 0, _ => exact P 0 (by omega)
  | 1, _ => show nI ((μ 0).toInt.toNat / 12) = nI ((ν 0).toInt.toNat / 12); rw [P 0 (by omega)]
  | 2, _ => exact P 1 (by omega)
  | 3, _ => exact P 2 (by omega)
  | 4, _ => exact P 3 (by omega)
  | 5, _ => exact P 4 (by omega)
  | 6, _ => exact P 5 (by omega)
  | 7, _ => exact P 6 (by omega)
  | 8, _ => exact zsum_cong (fun f hf => P _ (by omega))
  | 9, _ => exact zsum_cong (fun f hf => P _ (by omega))
  | 10, _ => exact zsum_cong (fun f hf => zsum_cong (fun v hv => P _ (by omega)))
  | 11, _ => exact zsum_cong (fun f hf => P _ (by omega))
  | 12, _ => show nI (if (μ 0).toInt.toNat % 12 < 4 ∧ 0 < (μ 0).toInt.toNat / 12 then 4 - (μ 0).toInt.toNat % 12 else 16 - (μ 0).toInt.toNat % 12) = nI (if (ν 0).toInt.toNat % 12 < 4 ∧ 0 < (ν 0).toInt.toNat / 12 then 4 - (ν 0).toInt.toNat % 12 else 16 - (ν 0).toInt.toNat % 12); rw [P 0 (by omega)]
  | i + 13, h => omega
theorem firF_eq {μ ν : Nat → Int32} (P : eqr μ ν) {f : Nat} (hf : f < 8) {i : Nat} (hi : i < 11) : firF μ f i = firF ν f i := by
  match i, hi with
  | 0, _ => exact zsum_cong (fun v hv => P _ (by omega))
  | 1, _ => exact congrArg nI (zcnt_cong (fun v hv => P _ (by omega)))
  | 2, _ => exact zexO_cong (fun v hv => P _ (by omega))
  | 3, _ => exact zexW_cong (fun v hv => P _ (by omega))
  | 4, _ => exact P _ (by omega)
  | 5, _ => exact P _ (by omega)
  | 6, _ => exact P _ (by omega)
  | 7, _ => exact P _ (by omega)
  | 8, _ => exact P _ (by omega)
  | 9, _ => exact P _ (by omega)
  | 10, _ => show zmax (nI 0) (μ (32 * f + 36) - zsdC μ f 3) = zmax (nI 0) (ν (32 * f + 36) - zsdC ν f 3); rw [P (32 * f + 36) (by omega), zsdC_eq P hf 3 (by omega)]
  | i + 11, h => omega
theorem offF_eq {μ ν : Nat → Int32} (P : eqr μ ν) {f : Nat} (hf : f < 8) {k : Nat} (hk : k < 3) {i : Nat} (hi : i < 3) : offF μ f k i = offF ν f k i := by
  match i, hi with
  | 0, _ => exact P _ (by omega)
  | 1, _ => show zmax (nI 0) (μ (32 * f + 35) * μ (k + 2) / nI 100 - μ (32 * f + k + 30)) = zmax (nI 0) (ν (32 * f + 35) * ν (k + 2) / nI 100 - ν (32 * f + k + 30)); rw [P (32 * f + 35) (by omega), P (k + 2) (by omega), P (32 * f + k + 30) (by omega)]
  | 2, _ => exact P _ (by omega)
  | i + 3, h => omega
theorem zmoC_cong {g g' : Nat → Int32} {v b y m : Nat} (h : ∀ i, i < 8 → g i = g' i) : zmoC g v b y m = zmoC g' v b y m := by
  unfold zmoC
  rw [zcnt_cong h]
theorem vinF_eq {μ ν : Nat → Int32} (P : eqr μ ν) {v : Nat} (hv : v < 20) {i : Nat} (hi : i < 7) : vinF μ v i = vinF ν v i := by
  match i, hi with
  | 0, _ => exact P _ (by omega)
  | 1, _ => exact zsum_cong (fun v hv => P _ (by omega))
  | 2, _ => exact P _ (by omega)
  | 3, _ => exact P _ (by omega)
  | 4, _ => exact P _ (by omega)
  | 5, _ => exact congrArg nI (zcnt_cong (fun v hv => P _ (by omega)))
  | 6, _ => show zmoC (fun f => μ (32 * f + v + 7)) v (μ 5).toInt.toNat ((μ 0).toInt.toNat / 12) (μ 0).toInt.toNat = zmoC (fun f => ν (32 * f + v + 7)) v (ν 5).toInt.toNat ((ν 0).toInt.toNat / 12) (ν 0).toInt.toNat; rw [P 5 (by omega), P 0 (by omega), zmoC_cong (g' := fun f => ν (32 * f + v + 7)) (fun i hi => P _ (by omega))]
  | i + 7, h => omega
theorem graF_eq {μ ν : Nat → Int32} (P : eqr μ ν) {k : Nat} (hk : k < 3) {i : Nat} (hi : i < 3) : graF μ k i = graF ν k i := by
  match i, hi with
  | 0, _ => exact P _ (by omega)
  | 1, _ => exact zsum_cong (fun v hv => P _ (by omega))
  | 2, _ => exact P _ (by omega)
  | i + 3, h => omega
/-! all numbers in one -/
def stp (s : Int64) (x : Int32) : Int64 := 31 * s + x.toInt64
def itl (G : Nat → Int64 → Int64) (s : Int64) : Nat → Int64
  | 0 => s
  | n + 1 => G n (itl G s n)
theorem itl_cong {G G' : Nat → Int64 → Int64} {s : Int64} : ∀ n, (∀ i, i < n → ∀ s, G i s = G' i s) → itl G s n = itl G' s n
  | 0, _ => rfl
  | n + 1, h => by
    simp only [itl]
    rw [itl_cong n (fun i hi => h i (by omega)), h n (by omega)]
def al1 (g : Nat → Int32) : Nat → Int64 := itl (fun i s => stp s (cntF g i)) 47
def al2a (g : Nat → Int32) (f : Nat) (s : Int64) : Nat → Int64 := itl (fun i s => stp s (firF g f i)) s
def al2b (g : Nat → Int32) (f : Nat) (s : Int64) : Nat → Int64 := itl (fun v s => stp s (g (32 * f + v + 7))) s
def al2c (g : Nat → Int32) (f : Nat) (s : Int64) : Nat → Int64 := itl (fun k s => stp s (offF g f (k / 3) (k % 3))) s
def al2 (g : Nat → Int32) : Nat → Int64 := itl (fun f s => al2c g f (al2b g f (al2a g f s 11) 20) 9) (al1 g 13)
def al3 (g : Nat → Int32) (c : Nat) : Nat → Int64 := itl (fun k s => stp s (vinF g (k / 7) (k % 7))) (al2 g c)
def al4 (g : Nat → Int32) (c : Nat) : Nat → Int64 := itl (fun k s => stp s (graF g (k / 3) (k % 3))) (al3 g c 140)
def AL (g : Nat → Int32) (c : Nat) : Int64 := al4 g c 9
theorem AL_eq {μ ν : Nat → Int32} {c : Nat} (P : eqr μ ν) (hc : c ≤ 8) : AL μ c = AL ν c := by
  have e1 : al1 μ 13 = al1 ν 13 := itl_cong 13 (fun i hi s => by rw [cntF_eq P hi])
  have e2 : al2 μ c = al2 ν c := by
    unfold al2
    rw [e1]
    refine itl_cong c (fun f hf s => ?_)
    have a1 : al2a μ f s 11 = al2a ν f s 11 := itl_cong 11 (fun i hi s => by rw [firF_eq P (by omega) hi])
    have a2 : ∀ s, al2b μ f s 20 = al2b ν f s 20 := fun s => itl_cong 20 (fun i hi s => by rw [P (32 * f + i + 7) (by omega)])
    have a3 : ∀ s, al2c μ f s 9 = al2c ν f s 9 := fun s => itl_cong 9 (fun i hi s => by rw [offF_eq P (by omega) (by omega) (by omega)])
    rw [a1, a2, a3]
  have e3 : al3 μ c 140 = al3 ν c 140 := by
    unfold al3
    rw [e2]
    exact itl_cong 140 (fun i hi s => by rw [vinF_eq P (by omega) (by omega)])
  unfold AL al4
  rw [e3]
  exact itl_cong 9 (fun i hi s => by rw [graF_eq P (by omega) (by omega)])
