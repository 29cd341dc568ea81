/-! the words for what methods do to numbers -/
def cpn (μ : Nat → Int32) (a b n : Nat) : Nat → Int32 := fun p => if b ≤ p ∧ p < b + n then μ (a + (p - b)) else μ p
def cp (μ : Nat → Int32) (a b : Nat) : Nat → Int32 := cpn μ a b 349
theorem cpn_0 (μ : Nat → Int32) (a b : Nat) : cpn μ a b 0 = μ := by
  funext p
  unfold cpn
  rw [if_neg (by omega)]
theorem cpn_out {μ : Nat → Int32} {a b n p : Nat} (h : p < b ∨ b + n ≤ p) : cpn μ a b n p = μ p := by
  unfold cpn
  rw [if_neg (by omega)]
theorem cpn_in {μ : Nat → Int32} {a b n p q : Nat} (h : b ≤ p) (h2 : p < b + n) (hq : q = a + (p - b)) : cpn μ a b n p = μ q := by
  unfold cpn
  rw [if_pos ⟨h, h2⟩, hq]
theorem cp_out {μ : Nat → Int32} {a b p : Nat} (h : p < b ∨ b + 349 ≤ p) : cp μ a b p = μ p := cpn_out h
theorem cp_in {μ : Nat → Int32} {a b p q : Nat} (h : b ≤ p) (h2 : p < b + 349) (hq : q = a + (p - b)) : cp μ a b p = μ q := cpn_in h h2 hq
theorem cpn_step {μ : Nat → Int32} {a b i : Nat} : upd (cpn μ a b i) (b + i) (μ (a + i)) = cpn μ a b (i + 1) := by
  funext p
  by_cases h : p = b + i
  · subst h
    rw [pk_us]
    exact (cpn_in (by omega) (by omega) (by omega)).symm
  · rw [pk_un h]
    by_cases h2 : b ≤ p ∧ p < b + i
    · rw [cpn_in h2.1 h2.2 rfl, cpn_in h2.1 (by omega) rfl]
    · rw [cpn_out (by omega), cpn_out (by omega)]
/-- a state comes into the history: there is room; it is full -/
def zrecA (μ : Nat → Int32) (b k : Nat) : Nat → Int32 := upd (cp μ b (349 * k + 349)) 2444 (nI (k + 1))
def zrecB (μ : Nat → Int32) (b : Nat) : Nat → Int32 := upd (cp (upd (cp (cp (cp μ 698 349) 1047 698) 1396 1047) 2444 (nI 3)) b 1396) 2444 (nI 4)
def zrec (μ : Nat → Int32) (b k : Nat) : Nat → Int32 := if k < 4 then zrecA μ b k else zrecB μ b
theorem zrec_out {μ : Nat → Int32} {b k p : Nat} (h : p < 349 ∨ 1745 ≤ p) (h2 : p ≠ 2444) (hk : k ≤ 4) : zrec μ b k p = μ p := by
  unfold zrec
  by_cases q : k < 4
  · rw [if_pos q]
    unfold zrecA
    rw [pk_un h2, cp_out (by omega)]
  · rw [if_neg q]
    unfold zrecB
    rw [pk_un h2, cp_out (by omega), pk_un h2, cp_out (by omega), cp_out (by omega), cp_out (by omega)]
/-- sums and counts -/
def zsum (g : Nat → Int32) : Nat → Int32
  | 0 => nI 0
  | n + 1 => zsum g n + g n
def zcnt (g : Nat → Int32) : Nat → Nat
  | 0 => 0
  | n + 1 => zcnt g n + (if g n ≤ 0 then 0 else 1)
theorem zcnt_le (g : Nat → Int32) : ∀ n, zcnt g n ≤ n
  | 0 => Nat.le_refl 0
  | n + 1 => by have := zcnt_le g n; simp only [zcnt]; split <;> omega
/-- the first place, the last place that holds any -/
def zexO (g : Nat → Int32) : Nat → Int32
  | 0 => -5
  | n + 1 => if g n ≤ 0 then zexO g n else if zexO g n = -5 then nI n else zexO g n
def zexW (g : Nat → Int32) : Nat → Int32
  | 0 => -5
  | n + 1 => if g n ≤ 0 then zexW g n else nI n
/-- what a firm may use of a grade -/
def zmay (μ : Nat → Int32) (f g : Nat) : Int32 := if 0 ≤ μ (32 * f + 35) * μ (g + 2) / nI 100 - μ (32 * f + g + 30) then μ (32 * f + 35) * μ (g + 2) / nI 100 - μ (32 * f + g + 30) else nI 0
/-- a firm's places are emptied -/
def zclr (μ : Nat → Int32) (f : Nat) : Nat → (Nat → Int32)
  | 0 => μ
  | n + 1 => upd (zclr μ f n) (32 * f + n + 7) (nI 0)
theorem zclr_out {μ : Nat → Int32} {f p : Nat} : ∀ {n : Nat}, (p < 32 * f + 7 ∨ 32 * f + n + 7 ≤ p) → zclr μ f n p = μ p
  | 0, _ => rfl
  | n + 1, h => (pk_un (by omega)).trans (zclr_out (by omega))
/-! what a surrender would take (reference) -/
def ztv (μ : Nat → Int32) (f v : Nat) : Nat → Int32 := upd (upd (upd μ (v + 2520) (zmin (μ 2450) (μ (32 * f + v + 7)))) 2451 (if μ 2451 = -5 then (if zmin (μ 2450) (μ (32 * f + v + 7)) ≤ 0 then μ 2451 else nI v) else μ 2451)) 2450 (μ 2450 - zmin (μ 2450) (μ (32 * f + v + 7)))
def zlv (μ : Nat → Int32) (f w : Nat) : Nat → (Nat → Int32)
  | 0 => μ
  | i + 1 => ztv (zlv μ f w i) f (if w = 1 then 19 - i else i)
def zgx (μ : Nat → Int32) (f w g : Nat) : Int32 := if w = 2 then zmin (μ 2450) (zmin (μ (32 * f + g + 27)) (zmay μ f g)) else nI 0
def zgm (μ : Nat → Int32) (f w g : Nat) : Nat → Int32 := upd (upd μ (g + 2540) (zgx μ f w g)) 2450 (μ 2450 - zgx μ f w g)
def zlay (μ : Nat → Int32) (f : Nat) (t : Int32) (w : Nat) : Nat → Int32 := zlv (zgm (zgm (zgm (upd (upd μ 2450 t) 2451 (-5)) f w 2) f w 1) f w 0) f w 20
/-- a surrender's taking -/
def zsv (μ : Nat → Int32) (f : Nat) : Nat → (Nat → Int32)
  | 0 => μ
  | i + 1 => upd (upd (zsv μ f i) (32 * f + i + 7) (zsv μ f i (32 * f + i + 7) - zsv μ f i (i + 2520))) (i + 283) (zsv μ f i (i + 283) + zsv μ f i (i + 2520))
def zsg (μ : Nat → Int32) (f : Nat) : Nat → (Nat → Int32)
  | 0 => μ
  | i + 1 => upd (upd (upd (zsg μ f i) (32 * f + i + 27) (zsg μ f i (32 * f + i + 27) - zsg μ f i (i + 2540))) (32 * f + i + 30) (zsg μ f i (32 * f + i + 30) + zsg μ f i (i + 2540))) (i + 346) (zsg μ f i (i + 346) + zsg μ f i (i + 2540))
/-- a year ends: a firm's; all firms'; a vintage is lost; all that are too old -/
def zcb (μ : Nat → Int32) (f : Nat) : Int32 := μ (32 * f + 34) + μ (32 * f + 33) + (μ (32 * f + 33) + nI 9) / nI 10
def zcf (μ : Nat → Int32) (f : Nat) : Nat → Int32 := upd (upd (upd (upd (upd (upd (upd μ (32 * f + 35) (zcb μ f)) (32 * f + 36) (μ (32 * f + 36) + zcb μ f)) (32 * f + 33) (nI 0)) (32 * f + 34) (nI 0)) (32 * f + 30) (nI 0)) (32 * f + 31) (nI 0)) (32 * f + 32) (nI 0)
def zca (μ : Nat → Int32) : Nat → (Nat → Int32)
  | 0 => μ
  | f + 1 => zcf (zca μ f) f
theorem zcf_lo {μ : Nat → Int32} {f p : Nat} (h : p < 30) : zcf μ f p = μ p := by
  unfold zcf
  rw [pk_un (by omega), pk_un (by omega), pk_un (by omega), pk_un (by omega), pk_un (by omega), pk_un (by omega), pk_un (by omega)]
theorem zca_lo {μ : Nat → Int32} {p : Nat} (h : p < 30) : ∀ n, zca μ n p = μ p
  | 0 => rfl
  | n + 1 => (zcf_lo h).trans (zca_lo h n)
def zlf (μ : Nat → Int32) (v f : Nat) : Nat → Int32 := upd (upd μ (v + 323) (μ (v + 323) + μ (32 * f + v + 7))) (32 * f + v + 7) (nI 0)
def zls (μ : Nat → Int32) (v : Nat) : Nat → (Nat → Int32)
  | 0 => μ
  | f + 1 => zlf (zls μ v f) v f
def zla (μ : Nat → Int32) (c : Nat) : Nat → (Nat → Int32)
  | 0 => μ
  | v + 1 => zls (zla μ c v) v c
theorem zls_lo {μ : Nat → Int32} {v p : Nat} (h : p < 7) : ∀ n, zls μ v n p = μ p
  | 0 => rfl
  | n + 1 => by
    show zlf (zls μ v n) v n p = μ p
    unfold zlf
    rw [pk_un (by omega), pk_un (by omega)]
    exact zls_lo h n
theorem zla_lo {μ : Nat → Int32} {c p : Nat} (h : p < 7) : ∀ n, zla μ c n p = μ p
  | 0 => rfl
  | n + 1 => (zls_lo h c).trans (zla_lo h n)
/-- fines -/
def zfx (μ : Nat → Int32) (f : Nat) : Int32 := μ (32 * f + 36) * μ 6
def zfn (μ : Nat → Int32) : Nat → (Nat → Int32)
  | 0 => μ
  | f + 1 => upd (zfn μ f) (32 * f + 38) (zfn μ f (32 * f + 38) + zfx (zfn μ f) f)
def zfs (μ : Nat → Int32) : Nat → Int32
  | 0 => nI 0
  | f + 1 => zfs μ f + zfx (zfn μ f) f
theorem zfn_lo {μ : Nat → Int32} {p : Nat} (h : p < 38) : ∀ n, zfn μ n p = μ p
  | 0 => rfl
  | n + 1 => (pk_un (by omega)).trans (zfn_lo h n)
/-- what would stay due -/
def zsd (μ : Nat → Int32) (f : Nat) : Nat → Int32
  | 0 => zsum (fun v => μ (32 * f + v + 7)) 20
  | g + 1 => zsd μ f g + zmin (μ (32 * f + g + 27)) (zmay μ f g)
def zstill (μ : Nat → Int32) (f : Nat) : Int32 := if μ (32 * f + 36) ≤ zsd μ f 3 then nI 0 else μ (32 * f + 36) - zsd μ f 3
/-- how many are ahead of the firm f, which has x -/
def zah (g : Nat → Int32) (x : Int32) (f : Nat) : Nat → Nat
  | 0 => 0
  | n + 1 => zah g x f n + (if x < g n then 1 else if g n = x then (if f ≤ n then 0 else 1) else 0)
theorem zah_le (g : Nat → Int32) (x : Int32) (f : Nat) : ∀ n, zah g x f n ≤ n
  | 0 => Nat.le_refl 0
  | n + 1 => by have := zah_le g x f n; simp only [zah]; split <;> (try split) <;> (try split) <;> omega
/-- the firm at a place -/
def zhol (g : Nat → Int32) (c : Nat) (x : Int32) : Nat → Int32
  | 0 => -5
  | n + 1 => if zhol g c x n = -5 then (if g n ≤ 0 then -5 else if nI (zah g (g n) n c) = x then nI n else -5) else zhol g c x n
theorem zhol_stay {g : Nat → Int32} {c : Nat} {x : Int32} {i : Nat} (hi : i < 2 ^ 31) (h : zhol g c x (i + 1) = nI i) : ∀ d, zhol g c x (i + 1 + d) = nI i
  | 0 => h
  | d + 1 => by
    have ih := zhol_stay hi h d
    show zhol g c x (i + 1 + d + 1) = nI i
    simp only [zhol]
    rw [ih, if_neg]
    intro q
    have := nI_pos' hi
    rw [q] at this
    exact absurd this (by decide +kernel)
theorem zlv_lo {μ : Nat → Int32} {f w p : Nat} (h : p < 2450) : ∀ n, zlv μ f w n p = μ p
  | 0 => rfl
  | n + 1 => by
    show ztv (zlv μ f w n) f _ p = μ p
    unfold ztv
    rw [pk_un (by omega), pk_un (by omega), pk_un (by omega)]
    exact zlv_lo h n
theorem zgm_lo {μ : Nat → Int32} {f w g p : Nat} (h : p < 2450) : zgm μ f w g p = μ p := by
  unfold zgm
  rw [pk_un (by omega), pk_un (by omega)]
theorem zlay_lo {μ : Nat → Int32} {f w p : Nat} {t : Int32} (h : p < 2450) : zlay μ f t w p = μ p := by
  unfold zlay
  rw [zlv_lo h, zgm_lo h, zgm_lo h, zgm_lo h, pk_un (by omega), pk_un (by omega)]
def zmo (c : Nat) (g : Nat → Int32) (v b y m : Nat) : Int32 := if zcnt g c = 0 then -5 else nI (12 * (if v + b + 1 ≤ y then y + 1 else v + b + 1)) - nI m
/-- one month more (m: the month before) -/
def zyr (μ : Nat → Int32) (c b m : Nat) : Nat → Int32 := zla (zca μ c) c (m / 12 - b)
def zm1 (μ : Nat → Int32) (c b m : Nat) : Nat → Int32 := if (m + 1) % 12 = 0 then zyr (upd μ 0 (nI (m + 1))) c b (m + 1) else if (m + 1) % 12 = 4 ∧ 0 < (m + 1) / 12 then zfn (upd μ 0 (nI (m + 1))) c else upd μ 0 (nI (m + 1))
def zc1 (μ : Nat → Int32) (c m : Nat) : Int32 := if (m + 1) % 12 = 4 ∧ 0 < (m + 1) / 12 then zfs (upd μ 0 (nI (m + 1))) c else nI 0
def zps (μ : Nat → Int32) (c b m : Nat) : Nat → (Nat → Int32)
  | 0 => μ
  | i + 1 => zm1 (zps μ c b m i) c b (i + m)
def zpc (μ : Nat → Int32) (c b m : Nat) : Nat → Int32
  | 0 => nI 0
  | i + 1 => zpc μ c b m i + zc1 (zps μ c b m i) c (i + m)
theorem zyr_lo {μ : Nat → Int32} {c b m p : Nat} (h : p < 7) : zyr μ c b m p = μ p := (zla_lo h _).trans (zca_lo (by omega) _)
theorem zm1_lo {μ : Nat → Int32} {c b m p : Nat} (h : p < 7) (h0 : p ≠ 0) : zm1 μ c b m p = μ p := by
  unfold zm1
  split
  · exact (zyr_lo h).trans (pk_un h0)
  · split
    · exact (zfn_lo (by omega) _).trans (pk_un h0)
    · exact pk_un h0
theorem zm1_0 {μ : Nat → Int32} {c b m : Nat} : zm1 μ c b m 0 = nI (m + 1) := by
  unfold zm1
  split
  · exact (zyr_lo (by omega)).trans pk_us
  · split
    · exact (zfn_lo (by omega) _).trans pk_us
    · exact pk_us
theorem zps_lo {μ : Nat → Int32} {c b m p : Nat} (h : p < 7) (h0 : p ≠ 0) : ∀ i, zps μ c b m i p = μ p
  | 0 => rfl
  | i + 1 => (zm1_lo h h0).trans (zps_lo h h0 i)
theorem zps_0 {μ : Nat → Int32} {c b m : Nat} (hm : μ 0 = nI m) : ∀ i, zps μ c b m i 0 = nI (i + m)
  | 0 => by rw [Nat.zero_add]; exact hm
  | i + 1 => by rw [show i + 1 + m = i + m + 1 by omega]; exact zm1_0
