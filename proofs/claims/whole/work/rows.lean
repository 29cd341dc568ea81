section
-- ===== PART A: goes FIRST, ahead of the names: the tables' words, and 'selects' of the private methods out of them =====
/-- a private method of a class that the tables say can be made, by its rows of tables_1 -/
def lw_okq (q : MethodName × Nat) : Prop := (q.1.cls ≠ "java/lang/invoke/MethodHandle" ∧ q.1.cls ≠ "java/lang/invoke/VarHandle") ∧ Cond.instantiable q.1.cls q.2 ∈ tables_1 ∧ Cond.privateMethod q.1 ∈ tables_1 ∧ Cond.instanceMethod q.1 ∈ tables_1
theorem lw_p0 : lw_okq (⟨"AllowanceBookModel", "copy", "(II)V"⟩, 11) := ⟨⟨by decide +kernel, by decide +kernel⟩, List.mem_of_getElem? (i := 534) (by decide +kernel), List.mem_of_getElem? (i := 578) (by decide +kernel), List.mem_of_getElem? (i := 579) (by decide +kernel)⟩
theorem lw_p1 : lw_okq (⟨"AllowanceBookModel", "record", "(I)V"⟩, 11) := ⟨⟨by decide +kernel, by decide +kernel⟩, List.mem_of_getElem? (i := 534) (by decide +kernel), List.mem_of_getElem? (i := 590) (by decide +kernel), List.mem_of_getElem? (i := 591) (by decide +kernel)⟩
theorem lw_p2 : lw_okq (⟨"AllowanceBookModel", "isFirm", "(I)Z"⟩, 11) := ⟨⟨by decide +kernel, by decide +kernel⟩, List.mem_of_getElem? (i := 534) (by decide +kernel), List.mem_of_getElem? (i := 612) (by decide +kernel), List.mem_of_getElem? (i := 613) (by decide +kernel)⟩
theorem lw_p3 : lw_okq (⟨"AllowanceBookModel", "year", "()I"⟩, 11) := ⟨⟨by decide +kernel, by decide +kernel⟩, List.mem_of_getElem? (i := 534) (by decide +kernel), List.mem_of_getElem? (i := 619) (by decide +kernel), List.mem_of_getElem? (i := 620) (by decide +kernel)⟩
theorem lw_p4 : lw_okq (⟨"AllowanceBookModel", "noTransfer", "(IIZII)I"⟩, 11) := ⟨⟨by decide +kernel, by decide +kernel⟩, List.mem_of_getElem? (i := 534) (by decide +kernel), List.mem_of_getElem? (i := 637) (by decide +kernel), List.mem_of_getElem? (i := 638) (by decide +kernel)⟩
theorem lw_p5 : lw_okq (⟨"AllowanceBookModel", "doTransfer", "(IIII)I"⟩, 11) := ⟨⟨by decide +kernel, by decide +kernel⟩, List.mem_of_getElem? (i := 534) (by decide +kernel), List.mem_of_getElem? (i := 641) (by decide +kernel), List.mem_of_getElem? (i := 642) (by decide +kernel)⟩
theorem lw_p6 : lw_okq (⟨"AllowanceBookModel", "lay", "(III)V"⟩, 11) := ⟨⟨by decide +kernel, by decide +kernel⟩, List.mem_of_getElem? (i := 534) (by decide +kernel), List.mem_of_getElem? (i := 665) (by decide +kernel), List.mem_of_getElem? (i := 666) (by decide +kernel)⟩
theorem lw_p7 : lw_okq (⟨"AllowanceBookModel", "mayUse", "(II)I"⟩, 11) := ⟨⟨by decide +kernel, by decide +kernel⟩, List.mem_of_getElem? (i := 534) (by decide +kernel), List.mem_of_getElem? (i := 669) (by decide +kernel), List.mem_of_getElem? (i := 670) (by decide +kernel)⟩
theorem lw_p8 : lw_okq (⟨"AllowanceBookModel", "takeVintage", "(II)V"⟩, 11) := ⟨⟨by decide +kernel, by decide +kernel⟩, List.mem_of_getElem? (i := 534) (by decide +kernel), List.mem_of_getElem? (i := 676) (by decide +kernel), List.mem_of_getElem? (i := 677) (by decide +kernel)⟩
theorem lw_p9 : lw_okq (⟨"AllowanceBookModel", "beginYear", "()V"⟩, 11) := ⟨⟨by decide +kernel, by decide +kernel⟩, List.mem_of_getElem? (i := 534) (by decide +kernel), List.mem_of_getElem? (i := 684) (by decide +kernel), List.mem_of_getElem? (i := 685) (by decide +kernel)⟩
theorem lw_p10 : lw_okq (⟨"AllowanceBookModel", "fineAll", "()I"⟩, 11) := ⟨⟨by decide +kernel, by decide +kernel⟩, List.mem_of_getElem? (i := 534) (by decide +kernel), List.mem_of_getElem? (i := 688) (by decide +kernel), List.mem_of_getElem? (i := 689) (by decide +kernel)⟩
theorem lw_p11 : lw_okq (⟨"AllowanceBookModel", "faultOf", "()I"⟩, 11) := ⟨⟨by decide +kernel, by decide +kernel⟩, List.mem_of_getElem? (i := 534) (by decide +kernel), List.mem_of_getElem? (i := 704) (by decide +kernel), List.mem_of_getElem? (i := 705) (by decide +kernel)⟩
theorem lw_p12 : lw_okq (⟨"AllowanceBookModel", "readsTransfer", "()Z"⟩, 11) := ⟨⟨by decide +kernel, by decide +kernel⟩, List.mem_of_getElem? (i := 534) (by decide +kernel), List.mem_of_getElem? (i := 708) (by decide +kernel), List.mem_of_getElem? (i := 709) (by decide +kernel)⟩
theorem lw_p13 : lw_okq (⟨"AllowanceBookModel", "number", "(IIZ)Z"⟩, 11) := ⟨⟨by decide +kernel, by decide +kernel⟩, List.mem_of_getElem? (i := 534) (by decide +kernel), List.mem_of_getElem? (i := 712) (by decide +kernel), List.mem_of_getElem? (i := 713) (by decide +kernel)⟩
theorem lw_p14 : lw_okq (⟨"AllowanceBookModel", "code", "()I"⟩, 11) := ⟨⟨by decide +kernel, by decide +kernel⟩, List.mem_of_getElem? (i := 534) (by decide +kernel), List.mem_of_getElem? (i := 716) (by decide +kernel), List.mem_of_getElem? (i := 717) (by decide +kernel)⟩
theorem lw_p15 : lw_okq (⟨"AllowanceBookModel", "sign", "(I)Z"⟩, 11) := ⟨⟨by decide +kernel, by decide +kernel⟩, List.mem_of_getElem? (i := 534) (by decide +kernel), List.mem_of_getElem? (i := 720) (by decide +kernel), List.mem_of_getElem? (i := 721) (by decide +kernel)⟩
def lw_privs_1 : List (MethodName × Nat) := [(⟨"AllowanceBookModel", "copy", "(II)V"⟩, 11), (⟨"AllowanceBookModel", "record", "(I)V"⟩, 11), (⟨"AllowanceBookModel", "isFirm", "(I)Z"⟩, 11), (⟨"AllowanceBookModel", "year", "()I"⟩, 11), (⟨"AllowanceBookModel", "noTransfer", "(IIZII)I"⟩, 11), (⟨"AllowanceBookModel", "doTransfer", "(IIII)I"⟩, 11), (⟨"AllowanceBookModel", "lay", "(III)V"⟩, 11), (⟨"AllowanceBookModel", "mayUse", "(II)I"⟩, 11), (⟨"AllowanceBookModel", "takeVintage", "(II)V"⟩, 11), (⟨"AllowanceBookModel", "beginYear", "()V"⟩, 11), (⟨"AllowanceBookModel", "fineAll", "()I"⟩, 11), (⟨"AllowanceBookModel", "faultOf", "()I"⟩, 11), (⟨"AllowanceBookModel", "readsTransfer", "()Z"⟩, 11), (⟨"AllowanceBookModel", "number", "(IIZ)Z"⟩, 11), (⟨"AllowanceBookModel", "code", "()I"⟩, 11), (⟨"AllowanceBookModel", "sign", "(I)Z"⟩, 11)]
theorem lw_r1 : ∀ q ∈ lw_privs_1, lw_okq q := List.forall_mem_cons.mpr ⟨lw_p0, List.forall_mem_cons.mpr ⟨lw_p1, List.forall_mem_cons.mpr ⟨lw_p2, List.forall_mem_cons.mpr ⟨lw_p3, List.forall_mem_cons.mpr ⟨lw_p4, List.forall_mem_cons.mpr ⟨lw_p5, List.forall_mem_cons.mpr ⟨lw_p6, List.forall_mem_cons.mpr ⟨lw_p7, List.forall_mem_cons.mpr ⟨lw_p8, List.forall_mem_cons.mpr ⟨lw_p9, List.forall_mem_cons.mpr ⟨lw_p10, List.forall_mem_cons.mpr ⟨lw_p11, List.forall_mem_cons.mpr ⟨lw_p12, List.forall_mem_cons.mpr ⟨lw_p13, List.forall_mem_cons.mpr ⟨lw_p14, List.forall_mem_cons.mpr ⟨lw_p15, fun _ h => absurd h List.not_mem_nil⟩⟩⟩⟩⟩⟩⟩⟩⟩⟩⟩⟩⟩⟩⟩⟩
theorem lw_p16 : lw_okq (⟨"AllowanceBookModel", "transferOn", "()I"⟩, 11) := ⟨⟨by decide +kernel, by decide +kernel⟩, List.mem_of_getElem? (i := 534) (by decide +kernel), List.mem_of_getElem? (i := 724) (by decide +kernel), List.mem_of_getElem? (i := 725) (by decide +kernel)⟩
theorem lw_p17 : lw_okq (⟨"AllowanceBookModel", "heldBy", "(I)I"⟩, 11) := ⟨⟨by decide +kernel, by decide +kernel⟩, List.mem_of_getElem? (i := 534) (by decide +kernel), List.mem_of_getElem? (i := 732) (by decide +kernel), List.mem_of_getElem? (i := 733) (by decide +kernel)⟩
theorem lw_p18 : lw_okq (⟨"AllowanceBookModel", "vintagesOf", "(I)I"⟩, 11) := ⟨⟨by decide +kernel, by decide +kernel⟩, List.mem_of_getElem? (i := 534) (by decide +kernel), List.mem_of_getElem? (i := 736) (by decide +kernel), List.mem_of_getElem? (i := 737) (by decide +kernel)⟩
theorem lw_p19 : lw_okq (⟨"AllowanceBookModel", "extreme", "(IZ)I"⟩, 11) := ⟨⟨by decide +kernel, by decide +kernel⟩, List.mem_of_getElem? (i := 534) (by decide +kernel), List.mem_of_getElem? (i := 740) (by decide +kernel), List.mem_of_getElem? (i := 741) (by decide +kernel)⟩
theorem lw_p20 : lw_okq (⟨"AllowanceBookModel", "stillDue", "(I)I"⟩, 11) := ⟨⟨by decide +kernel, by decide +kernel⟩, List.mem_of_getElem? (i := 534) (by decide +kernel), List.mem_of_getElem? (i := 744) (by decide +kernel), List.mem_of_getElem? (i := 745) (by decide +kernel)⟩
theorem lw_p21 : lw_okq (⟨"AllowanceBookModel", "heldOf", "(I)I"⟩, 11) := ⟨⟨by decide +kernel, by decide +kernel⟩, List.mem_of_getElem? (i := 534) (by decide +kernel), List.mem_of_getElem? (i := 760) (by decide +kernel), List.mem_of_getElem? (i := 761) (by decide +kernel)⟩
theorem lw_p22 : lw_okq (⟨"AllowanceBookModel", "holders", "(I)I"⟩, 11) := ⟨⟨by decide +kernel, by decide +kernel⟩, List.mem_of_getElem? (i := 534) (by decide +kernel), List.mem_of_getElem? (i := 764) (by decide +kernel), List.mem_of_getElem? (i := 765) (by decide +kernel)⟩
theorem lw_p23 : lw_okq (⟨"AllowanceBookModel", "monthsOf", "(I)I"⟩, 11) := ⟨⟨by decide +kernel, by decide +kernel⟩, List.mem_of_getElem? (i := 534) (by decide +kernel), List.mem_of_getElem? (i := 768) (by decide +kernel), List.mem_of_getElem? (i := 769) (by decide +kernel)⟩
theorem lw_p24 : lw_okq (⟨"AllowanceBookModel", "allHeld", "()I"⟩, 11) := ⟨⟨by decide +kernel, by decide +kernel⟩, List.mem_of_getElem? (i := 534) (by decide +kernel), List.mem_of_getElem? (i := 788) (by decide +kernel), List.mem_of_getElem? (i := 789) (by decide +kernel)⟩
theorem lw_p25 : lw_okq (⟨"AllowanceBookModel", "allLost", "()I"⟩, 11) := ⟨⟨by decide +kernel, by decide +kernel⟩, List.mem_of_getElem? (i := 534) (by decide +kernel), List.mem_of_getElem? (i := 792) (by decide +kernel), List.mem_of_getElem? (i := 793) (by decide +kernel)⟩
theorem lw_p26 : lw_okq (⟨"AllowanceBookModel", "monthsToDeadline", "()I"⟩, 11) := ⟨⟨by decide +kernel, by decide +kernel⟩, List.mem_of_getElem? (i := 534) (by decide +kernel), List.mem_of_getElem? (i := 796) (by decide +kernel), List.mem_of_getElem? (i := 797) (by decide +kernel)⟩
def lw_privs_2 : List (MethodName × Nat) := [(⟨"AllowanceBookModel", "transferOn", "()I"⟩, 11), (⟨"AllowanceBookModel", "heldBy", "(I)I"⟩, 11), (⟨"AllowanceBookModel", "vintagesOf", "(I)I"⟩, 11), (⟨"AllowanceBookModel", "extreme", "(IZ)I"⟩, 11), (⟨"AllowanceBookModel", "stillDue", "(I)I"⟩, 11), (⟨"AllowanceBookModel", "heldOf", "(I)I"⟩, 11), (⟨"AllowanceBookModel", "holders", "(I)I"⟩, 11), (⟨"AllowanceBookModel", "monthsOf", "(I)I"⟩, 11), (⟨"AllowanceBookModel", "allHeld", "()I"⟩, 11), (⟨"AllowanceBookModel", "allLost", "()I"⟩, 11), (⟨"AllowanceBookModel", "monthsToDeadline", "()I"⟩, 11)]
theorem lw_r2 : ∀ q ∈ lw_privs_2, lw_okq q := List.forall_mem_cons.mpr ⟨lw_p16, List.forall_mem_cons.mpr ⟨lw_p17, List.forall_mem_cons.mpr ⟨lw_p18, List.forall_mem_cons.mpr ⟨lw_p19, List.forall_mem_cons.mpr ⟨lw_p20, List.forall_mem_cons.mpr ⟨lw_p21, List.forall_mem_cons.mpr ⟨lw_p22, List.forall_mem_cons.mpr ⟨lw_p23, List.forall_mem_cons.mpr ⟨lw_p24, List.forall_mem_cons.mpr ⟨lw_p25, List.forall_mem_cons.mpr ⟨lw_p26, fun _ h => absurd h List.not_mem_nil⟩⟩⟩⟩⟩⟩⟩⟩⟩⟩⟩
def lw_privs : List (MethodName × Nat) := lw_privs_1 ++ (lw_privs_2)
def lw_tbl : List Cond := k2_sels lw_privs ++ tables_1
theorem lw_privs_ok : ∀ q ∈ lw_privs, lw_okq q := by
  show ∀ q ∈ lw_privs_1 ++ (lw_privs_2), lw_okq q
  exact List.forall_mem_append.mpr ⟨lw_r1, lw_r2⟩
-- ===== end of PART A; then your names; then what follows =====
end
section
/-! ===== BEGIN words of one list among another's, by their places ===== -/
theorem goodIn_r {big : List Cond} (ws : List Cond) (ps : List Nat) (hp : ws = ps.filterMap (fun i => big[i]?)) (h : ws.all goodWord = true) : GoodIn big ws := by
  intro w hw
  have h1 := List.all_eq_true.mp h w hw
  rw [hp] at hw
  obtain ⟨i, -, hi⟩ := List.mem_filterMap.mp hw
  have hm : w ∈ big := by first | exact List.mem_of_getElem? hi | exact List.getElem?_mem hi
  exact ⟨hm, good_of_word h1⟩
theorem goodIn_app {big a b : List Cond} (ha : GoodIn big a) (hb : GoodIn big b) : GoodIn big (a ++ b) := fun w h => (List.mem_append.mp h).elim (ha w) (hb w)
theorem goodIn_ca {big a b : List Cond} {c : Cond} (ha : GoodIn big (c :: a)) (hb : GoodIn big b) : GoodIn big (c :: (a ++ b)) := fun w h => (List.mem_cons.mp h).elim (fun e => ha w (List.mem_cons.mpr (Or.inl e))) (fun h => (List.mem_append.mp h).elim (fun h => ha w (List.mem_cons.mpr (Or.inr h))) (hb w))
theorem goodIn_sub {big ws : List Cond} (hm : ∀ w ∈ ws, w ∈ big) (h : ws.all goodWord = true) : GoodIn big ws := fun w hw => ⟨hm w hw, good_of_word (List.all_eq_true.mp h w hw)⟩
/-! ===== END ===== -/

/-! ===== BEGIN printed: names, fields, word lists, decode rows ===== -/
def RX0 : String := "AllowanceBook$Firm"
def TX0 : u_T := fun k => match k with
  | 0 => ("AllowanceBook$Firm", "held", "[I", true)
  | 1 => ("AllowanceBook$Firm", "offsetsHeld", "[I", true)
  | 2 => ("AllowanceBook$Firm", "offsetsUsed", "[I", true)
  | 3 => ("AllowanceBook$Firm", "reported", "I", false)
  | 4 => ("AllowanceBook$Firm", "verified", "I", false)
  | 5 => ("AllowanceBook$Firm", "base", "I", false)
  | 6 => ("AllowanceBook$Firm", "due", "I", false)
  | 7 => ("AllowanceBook$Firm", "surrendered", "I", false)
  | _ => ("AllowanceBook$Firm", "fines", "I", false)
def tyX0 : Nat → FieldType := fun k => match k with
  | 0 => .array .int
  | 1 => .array .int
  | 2 => .array .int
  | 3 => .int
  | 4 => .int
  | 5 => .int
  | 6 => .int
  | 7 => .int
  | _ => .int
abbrev wsX00 : List Cond := u_ws RX0 TX0 9
theorem nmX0 : ∀ a, a < 9 → ∀ b, b < 9 → a ≠ b → (TX0 a).2.1 ≠ (TX0 b).2.1 := by decide +kernel
theorem tyX0_ok : ∀ k, k < 9 → parseFieldDescriptor (TX0 k).2.2.1 = some (tyX0 k) := by decide +kernel
abbrev cX0_init : ByteArray := prog_2_method_1_code
def yX0_init : MethodName := ⟨RX0, "<init>", "()V"⟩
abbrev cX0_allowances : ByteArray := prog_2_method_2_code
def yX0_allowances : MethodName := ⟨RX0, "allowances", "()I"⟩
abbrev cX0_vintagesHeld : ByteArray := prog_2_method_3_code
def yX0_vintagesHeld : MethodName := ⟨RX0, "vintagesHeld", "()I"⟩
abbrev cX0_oldestHeld : ByteArray := prog_2_method_4_code
def yX0_oldestHeld : MethodName := ⟨RX0, "oldestHeld", "()I"⟩
abbrev cX0_newestHeld : ByteArray := prog_2_method_5_code
def yX0_newestHeld : MethodName := ⟨RX0, "newestHeld", "()I"⟩
abbrev cX0_mayUse : ByteArray := prog_2_method_6_code
def yX0_mayUse : MethodName := ⟨RX0, "mayUse", "(II)I"⟩
abbrev cX0_canUse : ByteArray := prog_2_method_7_code
def yX0_canUse : MethodName := ⟨RX0, "canUse", "(II)I"⟩
abbrev cX0_dueAtBest : ByteArray := prog_2_method_8_code
def yX0_dueAtBest : MethodName := ⟨RX0, "dueAtBest", "([I)I"⟩
abbrev cX0_closeYear : ByteArray := prog_2_method_9_code
def yX0_closeYear : MethodName := ⟨RX0, "closeYear", "()V"⟩
def RX1 : String := "AllowanceBook$History"
def TX1 : u_T := fun k => match k with
  | 0 => ("AllowanceBook$History", "rows", "[LAllowanceBook$State;", true)
  | 1 => ("AllowanceBook$History", "size", "I", false)
  | _ => ("AllowanceBook$History", "next", "I", false)
def tyX1 : Nat → FieldType := fun k => match k with
  | 0 => .array (.object "AllowanceBook$State")
  | 1 => .int
  | _ => .int
abbrev wsX10 : List Cond := u_ws RX1 TX1 3
theorem nmX1 : ∀ a, a < 3 → ∀ b, b < 3 → a ≠ b → (TX1 a).2.1 ≠ (TX1 b).2.1 := by decide +kernel
theorem tyX1_ok : ∀ k, k < 3 → parseFieldDescriptor (TX1 k).2.2.1 = some (tyX1 k) := by decide +kernel
abbrev cX1_init : ByteArray := prog_3_method_1_code
def yX1_init : MethodName := ⟨RX1, "<init>", "()V"⟩
abbrev cX1_push : ByteArray := prog_3_method_2_code
def yX1_push : MethodName := ⟨RX1, "push", "(LAllowanceBook$State;)V"⟩
abbrev cX1_popInto : ByteArray := prog_3_method_3_code
def yX1_popInto : MethodName := ⟨RX1, "popInto", "(LAllowanceBook$State;)V"⟩
def RX2 : String := "AllowanceBook$State"
def TX2 : u_T := fun k => match k with
  | 0 => ("AllowanceBook$State", "month", "I", false)
  | 1 => ("AllowanceBook$State", "firmCount", "I", false)
  | 2 => ("AllowanceBook$State", "settings", "[I", true)
  | 3 => ("AllowanceBook$State", "firms", "[LAllowanceBook$Firm;", true)
  | 4 => ("AllowanceBook$State", "issued", "[I", true)
  | 5 => ("AllowanceBook$State", "surrendered", "[I", true)
  | 6 => ("AllowanceBook$State", "cancelled", "[I", true)
  | 7 => ("AllowanceBook$State", "lost", "[I", true)
  | 8 => ("AllowanceBook$State", "offsetsIssued", "[I", true)
  | _ => ("AllowanceBook$State", "offsetsSurrendered", "[I", true)
def tyX2 : Nat → FieldType := fun k => match k with
  | 0 => .int
  | 1 => .int
  | 2 => .array .int
  | 3 => .array (.object "AllowanceBook$Firm")
  | 4 => .array .int
  | 5 => .array .int
  | 6 => .array .int
  | 7 => .array .int
  | 8 => .array .int
  | _ => .array .int
abbrev wsX20 : List Cond := u_ws RX2 TX2 10
theorem nmX2 : ∀ a, a < 10 → ∀ b, b < 10 → a ≠ b → (TX2 a).2.1 ≠ (TX2 b).2.1 := by decide +kernel
theorem tyX2_ok : ∀ k, k < 10 → parseFieldDescriptor (TX2 k).2.2.1 = some (tyX2 k) := by decide +kernel
abbrev cX2_init : ByteArray := prog_4_method_1_code
def yX2_init : MethodName := ⟨RX2, "<init>", "()V"⟩
abbrev cX2_firmAt : ByteArray := prog_4_method_2_code
def yX2_firmAt : MethodName := ⟨RX2, "firmAt", "(I)LAllowanceBook$Firm;"⟩
abbrev cX2_year : ByteArray := prog_4_method_3_code
def yX2_year : MethodName := ⟨RX2, "year", "()I"⟩
abbrev cX2_moveError : ByteArray := prog_4_method_4_code
def yX2_moveError : MethodName := ⟨RX2, "moveError", "(IIII)I"⟩
abbrev cX2_move : ByteArray := prog_4_method_5_code
def yX2_move : MethodName := ⟨RX2, "move", "(IIII)I"⟩
abbrev cX2_takeFrom : ByteArray := prog_4_method_6_code
def yX2_takeFrom : MethodName := ⟨RX2, "takeFrom", "(LAllowanceBook$Firm;LAllowanceBook$Taking;)V"⟩
abbrev cX2_beginMonth : ByteArray := prog_4_method_7_code
def yX2_beginMonth : MethodName := ⟨RX2, "beginMonth", "()I"⟩
abbrev cX2_beginYear : ByteArray := prog_4_method_8_code
def yX2_beginYear : MethodName := ⟨RX2, "beginYear", "()V"⟩
abbrev cX2_loseAll : ByteArray := prog_4_method_9_code
def yX2_loseAll : MethodName := ⟨RX2, "loseAll", "(I)V"⟩
abbrev cX2_fineAll : ByteArray := prog_4_method_10_code
def yX2_fineAll : MethodName := ⟨RX2, "fineAll", "()I"⟩
abbrev cX2_heldOf : ByteArray := prog_4_method_11_code
def yX2_heldOf : MethodName := ⟨RX2, "heldOf", "(I)I"⟩
abbrev cX2_holdersOf : ByteArray := prog_4_method_12_code
def yX2_holdersOf : MethodName := ⟨RX2, "holdersOf", "(I)I"⟩
abbrev cX2_offsetsHeldOf : ByteArray := prog_4_method_13_code
def yX2_offsetsHeldOf : MethodName := ⟨RX2, "offsetsHeldOf", "(I)I"⟩
abbrev cX2_monthsUntilLost : ByteArray := prog_4_method_14_code
def yX2_monthsUntilLost : MethodName := ⟨RX2, "monthsUntilLost", "(I)I"⟩
abbrev cX2_holderAt : ByteArray := prog_4_method_15_code
def yX2_holderAt : MethodName := ⟨RX2, "holderAt", "(II)I"⟩
abbrev cX2_holdersAhead : ByteArray := prog_4_method_16_code
def yX2_holdersAhead : MethodName := ⟨RX2, "holdersAhead", "(II)I"⟩
abbrev cX2_allDue : ByteArray := prog_4_method_17_code
def yX2_allDue : MethodName := ⟨RX2, "allDue", "()I"⟩
abbrev cX2_allFines : ByteArray := prog_4_method_18_code
def yX2_allFines : MethodName := ⟨RX2, "allFines", "()I"⟩
abbrev cX2_allHeld : ByteArray := prog_4_method_19_code
def yX2_allHeld : MethodName := ⟨RX2, "allHeld", "()I"⟩
abbrev cX2_allLost : ByteArray := prog_4_method_20_code
def yX2_allLost : MethodName := ⟨RX2, "allLost", "()I"⟩
abbrev cX2_monthsUntilDeadline : ByteArray := prog_4_method_21_code
def yX2_monthsUntilDeadline : MethodName := ⟨RX2, "monthsUntilDeadline", "()I"⟩
def RX3 : String := "AllowanceBook$Taking"
def TX3 : u_T := fun k => match k with
  | 0 => ("AllowanceBook$Taking", "allowancesTaken", "[I", true)
  | 1 => ("AllowanceBook$Taking", "offsetsTaken", "[I", true)
  | 2 => ("AllowanceBook$Taking", "allAllowances", "I", false)
  | 3 => ("AllowanceBook$Taking", "vintagesTouched", "I", false)
  | 4 => ("AllowanceBook$Taking", "firstTouched", "I", false)
  | _ => ("AllowanceBook$Taking", "missing", "I", false)
def tyX3 : Nat → FieldType := fun k => match k with
  | 0 => .array .int
  | 1 => .array .int
  | 2 => .int
  | 3 => .int
  | 4 => .int
  | _ => .int
abbrev wsX30 : List Cond := u_ws RX3 TX3 6
theorem nmX3 : ∀ a, a < 6 → ∀ b, b < 6 → a ≠ b → (TX3 a).2.1 ≠ (TX3 b).2.1 := by decide +kernel
theorem tyX3_ok : ∀ k, k < 6 → parseFieldDescriptor (TX3 k).2.2.1 = some (tyX3 k) := by decide +kernel
abbrev cX3_init : ByteArray := prog_5_method_1_code
def yX3_init : MethodName := ⟨RX3, "<init>", "()V"⟩
abbrev cX3_workOut : ByteArray := prog_5_method_2_code
def yX3_workOut : MethodName := ⟨RX3, "workOut", "(LAllowanceBook$Firm;[III)V"⟩
abbrev cX3_takeVintage : ByteArray := prog_5_method_3_code
def yX3_takeVintage : MethodName := ⟨RX3, "takeVintage", "(LAllowanceBook$Firm;I)V"⟩
def RX4 : String := "AllowanceBook$Text"
def TX4 : u_T := fun k => match k with
  | 0 => ("AllowanceBook$Text", "characters", "[C", true)
  | 1 => ("AllowanceBook$Text", "length", "I", false)
  | 2 => ("AllowanceBook$Text", "froms", "[I", true)
  | 3 => ("AllowanceBook$Text", "tos", "[I", true)
  | 4 => ("AllowanceBook$Text", "vintages", "[I", true)
  | 5 => ("AllowanceBook$Text", "tonnes", "[I", true)
  | 6 => ("AllowanceBook$Text", "transfers", "I", false)
  | _ => ("AllowanceBook$Text", "at", "I", false)
def tyX4 : Nat → FieldType := fun k => match k with
  | 0 => .array .char
  | 1 => .int
  | 2 => .array .int
  | 3 => .array .int
  | 4 => .array .int
  | 5 => .array .int
  | 6 => .int
  | _ => .int
abbrev wsX40 : List Cond := u_ws RX4 TX4 8
theorem nmX4 : ∀ a, a < 8 → ∀ b, b < 8 → a ≠ b → (TX4 a).2.1 ≠ (TX4 b).2.1 := by decide +kernel
theorem tyX4_ok : ∀ k, k < 8 → parseFieldDescriptor (TX4 k).2.2.1 = some (tyX4 k) := by decide +kernel
abbrev cX4_init : ByteArray := prog_6_method_1_code
def yX4_init : MethodName := ⟨RX4, "<init>", "()V"⟩
abbrev cX4_readAll : ByteArray := prog_6_method_2_code
def yX4_readAll : MethodName := ⟨RX4, "readAll", "()Z"⟩
abbrev cX4_readOne : ByteArray := prog_6_method_3_code
def yX4_readOne : MethodName := ⟨RX4, "readOne", "(I)Z"⟩
abbrev cX4_readSign : ByteArray := prog_6_method_4_code
def yX4_readSign : MethodName := ⟨RX4, "readSign", "(C)Z"⟩
abbrev cX4_readNumber : ByteArray := prog_6_method_5_code
def yX4_readNumber : MethodName := ⟨RX4, "readNumber", "(IZ)I"⟩
abbrev cX4_digitHere : ByteArray := prog_6_method_6_code
def yX4_digitHere : MethodName := ⟨RX4, "digitHere", "()I"⟩
def RX5 : String := "AllowanceBook"
def TX5 : u_T := fun k => match k with
  | 0 => ("AllowanceBook", "present", "LAllowanceBook$State;", true)
  | 1 => ("AllowanceBook", "kept", "LAllowanceBook$State;", true)
  | 2 => ("AllowanceBook", "trial", "LAllowanceBook$State;", true)
  | 3 => ("AllowanceBook", "past", "LAllowanceBook$History;", true)
  | 4 => ("AllowanceBook", "taking", "LAllowanceBook$Taking;", true)
  | 5 => ("AllowanceBook", "text", "LAllowanceBook$Text;", true)
  | _ => ("AllowanceBook", "hasKept", "Z", false)
def tyX5 : Nat → FieldType := fun k => match k with
  | 0 => .object "AllowanceBook$State"
  | 1 => .object "AllowanceBook$State"
  | 2 => .object "AllowanceBook$State"
  | 3 => .object "AllowanceBook$History"
  | 4 => .object "AllowanceBook$Taking"
  | 5 => .object "AllowanceBook$Text"
  | _ => .boolean
abbrev wsX50 : List Cond := u_ws RX5 TX5 7
theorem nmX5 : ∀ a, a < 7 → ∀ b, b < 7 → a ≠ b → (TX5 a).2.1 ≠ (TX5 b).2.1 := by decide +kernel
theorem tyX5_ok : ∀ k, k < 7 → parseFieldDescriptor (TX5 k).2.2.1 = some (tyX5 k) := by decide +kernel
abbrev cX5_init : ByteArray := prog_1_method_1_code
def yX5_init : MethodName := ⟨RX5, "<init>", "()V"⟩
abbrev cX5_addFirm : ByteArray := prog_1_method_2_code
def yX5_addFirm : MethodName := ⟨RX5, "addFirm", "()I"⟩
abbrev cX5_set : ByteArray := prog_1_method_3_code
def yX5_set : MethodName := ⟨RX5, "set", "(II)I"⟩
abbrev cX5_issue : ByteArray := prog_1_method_4_code
def yX5_issue : MethodName := ⟨RX5, "issue", "(II)I"⟩
abbrev cX5_issueOffsets : ByteArray := prog_1_method_5_code
def yX5_issueOffsets : MethodName := ⟨RX5, "issueOffsets", "(III)I"⟩
abbrev cX5_transfer : ByteArray := prog_1_method_6_code
def yX5_transfer : MethodName := ⟨RX5, "transfer", "(IIII)I"⟩
abbrev cX5_transferOffsets : ByteArray := prog_1_method_7_code
def yX5_transferOffsets : MethodName := ⟨RX5, "transferOffsets", "(IIII)I"⟩
abbrev cX5_cancel : ByteArray := prog_1_method_8_code
def yX5_cancel : MethodName := ⟨RX5, "cancel", "(III)I"⟩
abbrev cX5_report : ByteArray := prog_1_method_9_code
def yX5_report : MethodName := ⟨RX5, "report", "(II)I"⟩
abbrev cX5_verify : ByteArray := prog_1_method_10_code
def yX5_verify : MethodName := ⟨RX5, "verify", "(I)I"⟩
abbrev cX5_surrender : ByteArray := prog_1_method_11_code
def yX5_surrender : MethodName := ⟨RX5, "surrender", "(III)I"⟩
abbrev cX5_pass : ByteArray := prog_1_method_12_code
def yX5_pass : MethodName := ⟨RX5, "pass", "(I)I"⟩
abbrev cX5_type : ByteArray := prog_1_method_13_code
def yX5_type : MethodName := ⟨RX5, "type", "(C)I"⟩
abbrev cX5_clearText : ByteArray := prog_1_method_14_code
def yX5_clearText : MethodName := ⟨RX5, "clearText", "()I"⟩
abbrev cX5_readTransfers : ByteArray := prog_1_method_15_code
def yX5_readTransfers : MethodName := ⟨RX5, "readTransfers", "()I"⟩
abbrev cX5_undo : ByteArray := prog_1_method_16_code
def yX5_undo : MethodName := ⟨RX5, "undo", "()I"⟩
abbrev cX5_keep : ByteArray := prog_1_method_17_code
def yX5_keep : MethodName := ⟨RX5, "keep", "()I"⟩
abbrev cX5_restore : ByteArray := prog_1_method_18_code
def yX5_restore : MethodName := ⟨RX5, "restore", "()I"⟩
abbrev cX5_firm : ByteArray := prog_1_method_19_code
def yX5_firm : MethodName := ⟨RX5, "firm", "(II)I"⟩
abbrev cX5_holds : ByteArray := prog_1_method_20_code
def yX5_holds : MethodName := ⟨RX5, "holds", "(II)I"⟩
abbrev cX5_offsets : ByteArray := prog_1_method_21_code
def yX5_offsets : MethodName := ⟨RX5, "offsets", "(III)I"⟩
abbrev cX5_vintage : ByteArray := prog_1_method_22_code
def yX5_vintage : MethodName := ⟨RX5, "vintage", "(II)I"⟩
abbrev cX5_grade : ByteArray := prog_1_method_23_code
def yX5_grade : MethodName := ⟨RX5, "grade", "(II)I"⟩
abbrev cX5_holder : ByteArray := prog_1_method_24_code
def yX5_holder : MethodName := ⟨RX5, "holder", "(II)I"⟩
abbrev cX5_plan : ByteArray := prog_1_method_25_code
def yX5_plan : MethodName := ⟨RX5, "plan", "(IIII)I"⟩
abbrev cX5_count : ByteArray := prog_1_method_26_code
def yX5_count : MethodName := ⟨RX5, "count", "(I)I"⟩
abbrev cX5_isVintage : ByteArray := prog_1_method_27_code
def yX5_isVintage : MethodName := ⟨RX5, "isVintage", "(I)Z"⟩
abbrev cX5_isGrade : ByteArray := prog_1_method_28_code
def yX5_isGrade : MethodName := ⟨RX5, "isGrade", "(I)Z"⟩
abbrev cX5_isTonnes : ByteArray := prog_1_method_29_code
def yX5_isTonnes : MethodName := ⟨RX5, "isTonnes", "(I)Z"⟩
abbrev cX5_isWay : ByteArray := prog_1_method_30_code
def yX5_isWay : MethodName := ⟨RX5, "isWay", "(I)Z"⟩
abbrev cX5_copyState : ByteArray := prog_1_method_31_code
def yX5_copyState : MethodName := ⟨RX5, "copyState", "(LAllowanceBook$State;LAllowanceBook$State;)V"⟩
abbrev cX5_copyFirm : ByteArray := prog_1_method_32_code
def yX5_copyFirm : MethodName := ⟨RX5, "copyFirm", "(LAllowanceBook$Firm;LAllowanceBook$Firm;)V"⟩
abbrev cX5_copyNumbers : ByteArray := prog_1_method_33_code
def yX5_copyNumbers : MethodName := ⟨RX5, "copyNumbers", "([I[I)V"⟩
def RX6 : String := "AllowanceBookModel"
def TX6 : u_T := fun k => match k with
  | 0 => ("AllowanceBookModel", "row", "[I", true)
  | 1 => ("AllowanceBookModel", "states", "I", false)
  | 2 => ("AllowanceBookModel", "isKept", "Z", false)
  | 3 => ("AllowanceBookModel", "text", "[I", true)
  | 4 => ("AllowanceBookModel", "length", "I", false)
  | 5 => ("AllowanceBookModel", "taken", "[I", true)
  | 6 => ("AllowanceBookModel", "offset", "[I", true)
  | 7 => ("AllowanceBookModel", "needed", "I", false)
  | 8 => ("AllowanceBookModel", "firstVintage", "I", false)
  | 9 => ("AllowanceBookModel", "pos", "I", false)
  | _ => ("AllowanceBookModel", "numbers", "[I", true)
def tyX6 : Nat → FieldType := fun k => match k with
  | 0 => .array .int
  | 1 => .int
  | 2 => .boolean
  | 3 => .array .int
  | 4 => .int
  | 5 => .array .int
  | 6 => .array .int
  | 7 => .int
  | 8 => .int
  | 9 => .int
  | _ => .array .int
abbrev wsX60 : List Cond := u_ws RX6 TX6 11
theorem nmX6 : ∀ a, a < 11 → ∀ b, b < 11 → a ≠ b → (TX6 a).2.1 ≠ (TX6 b).2.1 := by decide +kernel
theorem tyX6_ok : ∀ k, k < 11 → parseFieldDescriptor (TX6 k).2.2.1 = some (tyX6 k) := by decide +kernel
abbrev cX6_init : ByteArray := prog_8_method_1_code
def yX6_init : MethodName := ⟨RX6, "<init>", "()V"⟩
abbrev cX6_in : ByteArray := prog_8_method_2_code
def yX6_in : MethodName := ⟨RX6, "in", "(III)Z"⟩
abbrev cX6_of : ByteArray := prog_8_method_3_code
def yX6_of : MethodName := ⟨RX6, "of", "(II)I"⟩
abbrev cX6_isFirm : ByteArray := prog_8_method_4_code
def yX6_isFirm : MethodName := ⟨RX6, "isFirm", "(I)Z"⟩
abbrev cX6_isVintage : ByteArray := prog_8_method_5_code
def yX6_isVintage : MethodName := ⟨RX6, "isVintage", "(I)Z"⟩
abbrev cX6_isGrade : ByteArray := prog_8_method_6_code
def yX6_isGrade : MethodName := ⟨RX6, "isGrade", "(I)Z"⟩
abbrev cX6_isTonnes : ByteArray := prog_8_method_7_code
def yX6_isTonnes : MethodName := ⟨RX6, "isTonnes", "(I)Z"⟩
abbrev cX6_year : ByteArray := prog_8_method_8_code
def yX6_year : MethodName := ⟨RX6, "year", "()I"⟩
abbrev cX6_copy : ByteArray := prog_8_method_9_code
def yX6_copy : MethodName := ⟨RX6, "copy", "(II)V"⟩
abbrev cX6_record : ByteArray := prog_8_method_10_code
def yX6_record : MethodName := ⟨RX6, "record", "(I)V"⟩
abbrev cX6_undo : ByteArray := prog_8_method_11_code
def yX6_undo : MethodName := ⟨RX6, "undo", "()I"⟩
abbrev cX6_keep : ByteArray := prog_8_method_12_code
def yX6_keep : MethodName := ⟨RX6, "keep", "()I"⟩
abbrev cX6_restore : ByteArray := prog_8_method_13_code
def yX6_restore : MethodName := ⟨RX6, "restore", "()I"⟩
abbrev cX6_addFirm : ByteArray := prog_8_method_14_code
def yX6_addFirm : MethodName := ⟨RX6, "addFirm", "()I"⟩
abbrev cX6_set : ByteArray := prog_8_method_15_code
def yX6_set : MethodName := ⟨RX6, "set", "(II)I"⟩
abbrev cX6_issue : ByteArray := prog_8_method_16_code
def yX6_issue : MethodName := ⟨RX6, "issue", "(II)I"⟩
abbrev cX6_issueOffsets : ByteArray := prog_8_method_17_code
def yX6_issueOffsets : MethodName := ⟨RX6, "issueOffsets", "(III)I"⟩
abbrev cX6_noTransfer : ByteArray := prog_8_method_18_code
def yX6_noTransfer : MethodName := ⟨RX6, "noTransfer", "(IIZII)I"⟩
abbrev cX6_doTransfer : ByteArray := prog_8_method_19_code
def yX6_doTransfer : MethodName := ⟨RX6, "doTransfer", "(IIII)I"⟩
abbrev cX6_transfer : ByteArray := prog_8_method_20_code
def yX6_transfer : MethodName := ⟨RX6, "transfer", "(IIII)I"⟩
abbrev cX6_transferOffsets : ByteArray := prog_8_method_21_code
def yX6_transferOffsets : MethodName := ⟨RX6, "transferOffsets", "(IIII)I"⟩
abbrev cX6_cancel : ByteArray := prog_8_method_22_code
def yX6_cancel : MethodName := ⟨RX6, "cancel", "(III)I"⟩
abbrev cX6_report : ByteArray := prog_8_method_23_code
def yX6_report : MethodName := ⟨RX6, "report", "(II)I"⟩
abbrev cX6_verify : ByteArray := prog_8_method_24_code
def yX6_verify : MethodName := ⟨RX6, "verify", "(I)I"⟩
abbrev cX6_mayUse : ByteArray := prog_8_method_25_code
def yX6_mayUse : MethodName := ⟨RX6, "mayUse", "(II)I"⟩
abbrev cX6_lesser : ByteArray := prog_8_method_26_code
def yX6_lesser : MethodName := ⟨RX6, "lesser", "(II)I"⟩
abbrev cX6_takeVintage : ByteArray := prog_8_method_27_code
def yX6_takeVintage : MethodName := ⟨RX6, "takeVintage", "(II)V"⟩
abbrev cX6_lay : ByteArray := prog_8_method_28_code
def yX6_lay : MethodName := ⟨RX6, "lay", "(III)V"⟩
abbrev cX6_surrender : ByteArray := prog_8_method_29_code
def yX6_surrender : MethodName := ⟨RX6, "surrender", "(III)I"⟩
abbrev cX6_beginYear : ByteArray := prog_8_method_30_code
def yX6_beginYear : MethodName := ⟨RX6, "beginYear", "()V"⟩
abbrev cX6_fineAll : ByteArray := prog_8_method_31_code
def yX6_fineAll : MethodName := ⟨RX6, "fineAll", "()I"⟩
abbrev cX6_pass : ByteArray := prog_8_method_32_code
def yX6_pass : MethodName := ⟨RX6, "pass", "(I)I"⟩
abbrev cX6_type : ByteArray := prog_8_method_33_code
def yX6_type : MethodName := ⟨RX6, "type", "(C)I"⟩
abbrev cX6_clearText : ByteArray := prog_8_method_34_code
def yX6_clearText : MethodName := ⟨RX6, "clearText", "()I"⟩
abbrev cX6_code : ByteArray := prog_8_method_35_code
def yX6_code : MethodName := ⟨RX6, "code", "()I"⟩
abbrev cX6_sign : ByteArray := prog_8_method_36_code
def yX6_sign : MethodName := ⟨RX6, "sign", "(I)Z"⟩
abbrev cX6_number : ByteArray := prog_8_method_37_code
def yX6_number : MethodName := ⟨RX6, "number", "(IIZ)Z"⟩
abbrev cX6_readsTransfer : ByteArray := prog_8_method_38_code
def yX6_readsTransfer : MethodName := ⟨RX6, "readsTransfer", "()Z"⟩
abbrev cX6_faultOf : ByteArray := prog_8_method_39_code
def yX6_faultOf : MethodName := ⟨RX6, "faultOf", "()I"⟩
abbrev cX6_transferOn : ByteArray := prog_8_method_40_code
def yX6_transferOn : MethodName := ⟨RX6, "transferOn", "()I"⟩
abbrev cX6_readTransfers : ByteArray := prog_8_method_41_code
def yX6_readTransfers : MethodName := ⟨RX6, "readTransfers", "()I"⟩
abbrev cX6_heldBy : ByteArray := prog_8_method_42_code
def yX6_heldBy : MethodName := ⟨RX6, "heldBy", "(I)I"⟩
abbrev cX6_vintagesOf : ByteArray := prog_8_method_43_code
def yX6_vintagesOf : MethodName := ⟨RX6, "vintagesOf", "(I)I"⟩
abbrev cX6_extreme : ByteArray := prog_8_method_44_code
def yX6_extreme : MethodName := ⟨RX6, "extreme", "(IZ)I"⟩
abbrev cX6_stillDue : ByteArray := prog_8_method_45_code
def yX6_stillDue : MethodName := ⟨RX6, "stillDue", "(I)I"⟩
abbrev cX6_firm : ByteArray := prog_8_method_46_code
def yX6_firm : MethodName := ⟨RX6, "firm", "(II)I"⟩
abbrev cX6_holds : ByteArray := prog_8_method_47_code
def yX6_holds : MethodName := ⟨RX6, "holds", "(II)I"⟩
abbrev cX6_offsets : ByteArray := prog_8_method_48_code
def yX6_offsets : MethodName := ⟨RX6, "offsets", "(III)I"⟩
abbrev cX6_heldOf : ByteArray := prog_8_method_49_code
def yX6_heldOf : MethodName := ⟨RX6, "heldOf", "(I)I"⟩
abbrev cX6_holders : ByteArray := prog_8_method_50_code
def yX6_holders : MethodName := ⟨RX6, "holders", "(I)I"⟩
abbrev cX6_monthsOf : ByteArray := prog_8_method_51_code
def yX6_monthsOf : MethodName := ⟨RX6, "monthsOf", "(I)I"⟩
abbrev cX6_vintage : ByteArray := prog_8_method_52_code
def yX6_vintage : MethodName := ⟨RX6, "vintage", "(II)I"⟩
abbrev cX6_grade : ByteArray := prog_8_method_53_code
def yX6_grade : MethodName := ⟨RX6, "grade", "(II)I"⟩
abbrev cX6_holder : ByteArray := prog_8_method_54_code
def yX6_holder : MethodName := ⟨RX6, "holder", "(II)I"⟩
abbrev cX6_plan : ByteArray := prog_8_method_55_code
def yX6_plan : MethodName := ⟨RX6, "plan", "(IIII)I"⟩
abbrev cX6_allHeld : ByteArray := prog_8_method_56_code
def yX6_allHeld : MethodName := ⟨RX6, "allHeld", "()I"⟩
abbrev cX6_allLost : ByteArray := prog_8_method_57_code
def yX6_allLost : MethodName := ⟨RX6, "allLost", "()I"⟩
abbrev cX6_monthsToDeadline : ByteArray := prog_8_method_58_code
def yX6_monthsToDeadline : MethodName := ⟨RX6, "monthsToDeadline", "()I"⟩
abbrev cX6_count : ByteArray := prog_8_method_59_code
def yX6_count : MethodName := ⟨RX6, "count", "(I)I"⟩
def RJx8e188 : String := "java/lang/Cloneable"
def TJx8e188 : u_T := fun k => match k with
  | _ => ("", "", "", false)
def tyJx8e188 : Nat → FieldType := fun k => match k with
  | _ => .int
abbrev wsJx8e1880 : List Cond := u_ws RJx8e188 TJx8e188 0
theorem nmJx8e188 : ∀ a, a < 0 → ∀ b, b < 0 → a ≠ b → (TJx8e188 a).2.1 ≠ (TJx8e188 b).2.1 := by decide +kernel
theorem tyJx8e188_ok : ∀ k, k < 0 → parseFieldDescriptor (TJx8e188 k).2.2.1 = some (tyJx8e188 k) := by decide +kernel
def RJ9 : String := "java/lang/Math"
def TJ9 : u_T := fun k => match k with
  | _ => ("", "", "", false)
def tyJ9 : Nat → FieldType := fun k => match k with
  | _ => .int
abbrev wsJ90 : List Cond := u_ws RJ9 TJ9 0
theorem nmJ9 : ∀ a, a < 0 → ∀ b, b < 0 → a ≠ b → (TJ9 a).2.1 ≠ (TJ9 b).2.1 := by decide +kernel
theorem tyJ9_ok : ∀ k, k < 0 → parseFieldDescriptor (TJ9 k).2.2.1 = some (tyJ9 k) := by decide +kernel
abbrev cJ9_max_7cf53 : ByteArray := prog_10_method_65_code
def yJ9_max_7cf53 : MethodName := ⟨RJ9, "max", "(II)I"⟩
abbrev cJ9_min_7cf53 : ByteArray := prog_10_method_69_code
def yJ9_min_7cf53 : MethodName := ⟨RJ9, "min", "(II)I"⟩
def RJ10 : String := "java/lang/System"
def TJ10 : u_T := fun k => match k with
  | _ => ("", "", "", false)
def tyJ10 : Nat → FieldType := fun k => match k with
  | _ => .int
abbrev wsJ100 : List Cond := u_ws RJ10 TJ10 0
theorem nmJ10 : ∀ a, a < 0 → ∀ b, b < 0 → a ≠ b → (TJ10 a).2.1 ≠ (TJ10 b).2.1 := by decide +kernel
theorem tyJ10_ok : ∀ k, k < 0 → parseFieldDescriptor (TJ10 k).2.2.1 = some (tyJ10 k) := by decide +kernel
def RL : String := "AllowanceBookLaw"
abbrev cL_law : ByteArray := code
def yL_law : MethodName := ⟨RL, "law", "([I)Z"⟩
abbrev vwCl : List vw_C := [(RX0, TX0, 9), (RX1, TX1, 3), (RX2, TX2, 10), (RX3, TX3, 6), (RX4, TX4, 8), (RX5, TX5, 7), (RX6, TX6, 11)]
end
section
theorem dX0_init_0 : decode cX0_init 0 = .ok (.aload_n 0, 1) := by decide +kernel
theorem dX0_init_1 : decode cX0_init 1 = .ok (.invokespecial 3, 3) := by decide +kernel
theorem dX0_init_4 : decode cX0_init 4 = .ok (.aload_n 0, 1) := by decide +kernel
theorem dX0_init_5 : decode cX0_init 5 = .ok (.bipush 20, 2) := by decide +kernel
theorem dX0_init_7 : decode cX0_init 7 = .ok (.newarray .int, 2) := by decide +kernel
theorem dX0_init_9 : decode cX0_init 9 = .ok (.putfield 9, 3) := by decide +kernel
theorem dX0_init_12 : decode cX0_init 12 = .ok (.aload_n 0, 1) := by decide +kernel
theorem dX0_init_13 : decode cX0_init 13 = .ok (.iconst 3, 1) := by decide +kernel
theorem dX0_init_14 : decode cX0_init 14 = .ok (.newarray .int, 2) := by decide +kernel
theorem dX0_init_16 : decode cX0_init 16 = .ok (.putfield 15, 3) := by decide +kernel
theorem dX0_init_19 : decode cX0_init 19 = .ok (.aload_n 0, 1) := by decide +kernel
theorem dX0_init_20 : decode cX0_init 20 = .ok (.iconst 3, 1) := by decide +kernel
theorem dX0_init_21 : decode cX0_init 21 = .ok (.newarray .int, 2) := by decide +kernel
theorem dX0_init_23 : decode cX0_init 23 = .ok (.putfield 18, 3) := by decide +kernel
theorem dX0_init_26 : decode cX0_init 26 = .ok (.return_, 1) := by decide +kernel
theorem dX0_allowances_0 : decode cX0_allowances 0 = .ok (.iconst 0, 1) := by decide +kernel
theorem dX0_allowances_1 : decode cX0_allowances 1 = .ok (.istore_n 1, 1) := by decide +kernel
theorem dX0_allowances_2 : decode cX0_allowances 2 = .ok (.aload_n 0, 1) := by decide +kernel
theorem dX0_allowances_3 : decode cX0_allowances 3 = .ok (.getfield 9, 3) := by decide +kernel
theorem dX0_allowances_6 : decode cX0_allowances 6 = .ok (.astore_n 2, 1) := by decide +kernel
theorem dX0_allowances_7 : decode cX0_allowances 7 = .ok (.aload_n 2, 1) := by decide +kernel
theorem dX0_allowances_8 : decode cX0_allowances 8 = .ok (.arraylength, 1) := by decide +kernel
theorem dX0_allowances_9 : decode cX0_allowances 9 = .ok (.istore_n 3, 1) := by decide +kernel
theorem dX0_allowances_10 : decode cX0_allowances 10 = .ok (.iconst 0, 1) := by decide +kernel
theorem dX0_allowances_11 : decode cX0_allowances 11 = .ok (.istore 4, 2) := by decide +kernel
theorem dX0_allowances_13 : decode cX0_allowances 13 = .ok (.iload 4, 2) := by decide +kernel
theorem dX0_allowances_15 : decode cX0_allowances 15 = .ok (.iload_n 3, 1) := by decide +kernel
theorem dX0_allowances_16 : decode cX0_allowances 16 = .ok (.if_icmp .ge 20, 3) := by decide +kernel
theorem dX0_allowances_19 : decode cX0_allowances 19 = .ok (.aload_n 2, 1) := by decide +kernel
theorem dX0_allowances_20 : decode cX0_allowances 20 = .ok (.iload 4, 2) := by decide +kernel
theorem dX0_allowances_22 : decode cX0_allowances 22 = .ok (.iaload, 1) := by decide +kernel
theorem dX0_allowances_23 : decode cX0_allowances 23 = .ok (.istore 5, 2) := by decide +kernel
theorem dX0_allowances_25 : decode cX0_allowances 25 = .ok (.iload_n 1, 1) := by decide +kernel
theorem dX0_allowances_26 : decode cX0_allowances 26 = .ok (.iload 5, 2) := by decide +kernel
theorem dX0_allowances_28 : decode cX0_allowances 28 = .ok (.iadd, 1) := by decide +kernel
theorem dX0_allowances_29 : decode cX0_allowances 29 = .ok (.istore_n 1, 1) := by decide +kernel
theorem dX0_allowances_30 : decode cX0_allowances 30 = .ok (.iinc 4 1, 3) := by decide +kernel
theorem dX0_allowances_33 : decode cX0_allowances 33 = .ok (.goto (-20), 3) := by decide +kernel
theorem dX0_allowances_36 : decode cX0_allowances 36 = .ok (.iload_n 1, 1) := by decide +kernel
theorem dX0_allowances_37 : decode cX0_allowances 37 = .ok (.ireturn, 1) := by decide +kernel
theorem dX0_vintagesHeld_0 : decode cX0_vintagesHeld 0 = .ok (.iconst 0, 1) := by decide +kernel
theorem dX0_vintagesHeld_1 : decode cX0_vintagesHeld 1 = .ok (.istore_n 1, 1) := by decide +kernel
theorem dX0_vintagesHeld_2 : decode cX0_vintagesHeld 2 = .ok (.aload_n 0, 1) := by decide +kernel
theorem dX0_vintagesHeld_3 : decode cX0_vintagesHeld 3 = .ok (.getfield 9, 3) := by decide +kernel
theorem dX0_vintagesHeld_6 : decode cX0_vintagesHeld 6 = .ok (.astore_n 2, 1) := by decide +kernel
theorem dX0_vintagesHeld_7 : decode cX0_vintagesHeld 7 = .ok (.aload_n 2, 1) := by decide +kernel
theorem dX0_vintagesHeld_8 : decode cX0_vintagesHeld 8 = .ok (.arraylength, 1) := by decide +kernel
theorem dX0_vintagesHeld_9 : decode cX0_vintagesHeld 9 = .ok (.istore_n 3, 1) := by decide +kernel
theorem dX0_vintagesHeld_10 : decode cX0_vintagesHeld 10 = .ok (.iconst 0, 1) := by decide +kernel
theorem dX0_vintagesHeld_11 : decode cX0_vintagesHeld 11 = .ok (.istore 4, 2) := by decide +kernel
theorem dX0_vintagesHeld_13 : decode cX0_vintagesHeld 13 = .ok (.iload 4, 2) := by decide +kernel
theorem dX0_vintagesHeld_15 : decode cX0_vintagesHeld 15 = .ok (.iload_n 3, 1) := by decide +kernel
theorem dX0_vintagesHeld_16 : decode cX0_vintagesHeld 16 = .ok (.if_icmp .ge 23, 3) := by decide +kernel
theorem dX0_vintagesHeld_19 : decode cX0_vintagesHeld 19 = .ok (.aload_n 2, 1) := by decide +kernel
theorem dX0_vintagesHeld_20 : decode cX0_vintagesHeld 20 = .ok (.iload 4, 2) := by decide +kernel
theorem dX0_vintagesHeld_22 : decode cX0_vintagesHeld 22 = .ok (.iaload, 1) := by decide +kernel
theorem dX0_vintagesHeld_23 : decode cX0_vintagesHeld 23 = .ok (.istore 5, 2) := by decide +kernel
theorem dX0_vintagesHeld_25 : decode cX0_vintagesHeld 25 = .ok (.iload 5, 2) := by decide +kernel
theorem dX0_vintagesHeld_27 : decode cX0_vintagesHeld 27 = .ok (.ifCond .le 6, 3) := by decide +kernel
theorem dX0_vintagesHeld_30 : decode cX0_vintagesHeld 30 = .ok (.iinc 1 1, 3) := by decide +kernel
theorem dX0_vintagesHeld_33 : decode cX0_vintagesHeld 33 = .ok (.iinc 4 1, 3) := by decide +kernel
theorem dX0_vintagesHeld_36 : decode cX0_vintagesHeld 36 = .ok (.goto (-23), 3) := by decide +kernel
theorem dX0_vintagesHeld_39 : decode cX0_vintagesHeld 39 = .ok (.iload_n 1, 1) := by decide +kernel
theorem dX0_vintagesHeld_40 : decode cX0_vintagesHeld 40 = .ok (.ireturn, 1) := by decide +kernel
theorem dX0_oldestHeld_0 : decode cX0_oldestHeld 0 = .ok (.iconst 0, 1) := by decide +kernel
theorem dX0_oldestHeld_1 : decode cX0_oldestHeld 1 = .ok (.istore_n 1, 1) := by decide +kernel
theorem dX0_oldestHeld_2 : decode cX0_oldestHeld 2 = .ok (.iload_n 1, 1) := by decide +kernel
theorem dX0_oldestHeld_3 : decode cX0_oldestHeld 3 = .ok (.bipush 20, 2) := by decide +kernel
theorem dX0_oldestHeld_5 : decode cX0_oldestHeld 5 = .ok (.if_icmp .ge 20, 3) := by decide +kernel
theorem dX0_oldestHeld_8 : decode cX0_oldestHeld 8 = .ok (.aload_n 0, 1) := by decide +kernel
theorem dX0_oldestHeld_9 : decode cX0_oldestHeld 9 = .ok (.getfield 9, 3) := by decide +kernel
theorem dX0_oldestHeld_12 : decode cX0_oldestHeld 12 = .ok (.iload_n 1, 1) := by decide +kernel
theorem dX0_oldestHeld_13 : decode cX0_oldestHeld 13 = .ok (.iaload, 1) := by decide +kernel
theorem dX0_oldestHeld_14 : decode cX0_oldestHeld 14 = .ok (.ifCond .le 5, 3) := by decide +kernel
theorem dX0_oldestHeld_17 : decode cX0_oldestHeld 17 = .ok (.iload_n 1, 1) := by decide +kernel
theorem dX0_oldestHeld_18 : decode cX0_oldestHeld 18 = .ok (.ireturn, 1) := by decide +kernel
theorem dX0_oldestHeld_19 : decode cX0_oldestHeld 19 = .ok (.iinc 1 1, 3) := by decide +kernel
theorem dX0_oldestHeld_22 : decode cX0_oldestHeld 22 = .ok (.goto (-20), 3) := by decide +kernel
theorem dX0_oldestHeld_25 : decode cX0_oldestHeld 25 = .ok (.bipush (-5), 2) := by decide +kernel
theorem dX0_oldestHeld_27 : decode cX0_oldestHeld 27 = .ok (.ireturn, 1) := by decide +kernel
theorem dX0_newestHeld_0 : decode cX0_newestHeld 0 = .ok (.bipush 19, 2) := by decide +kernel
theorem dX0_newestHeld_2 : decode cX0_newestHeld 2 = .ok (.istore_n 1, 1) := by decide +kernel
theorem dX0_newestHeld_3 : decode cX0_newestHeld 3 = .ok (.iload_n 1, 1) := by decide +kernel
theorem dX0_newestHeld_4 : decode cX0_newestHeld 4 = .ok (.ifCond .lt 20, 3) := by decide +kernel
theorem dX0_newestHeld_7 : decode cX0_newestHeld 7 = .ok (.aload_n 0, 1) := by decide +kernel
theorem dX0_newestHeld_8 : decode cX0_newestHeld 8 = .ok (.getfield 9, 3) := by decide +kernel
theorem dX0_newestHeld_11 : decode cX0_newestHeld 11 = .ok (.iload_n 1, 1) := by decide +kernel
theorem dX0_newestHeld_12 : decode cX0_newestHeld 12 = .ok (.iaload, 1) := by decide +kernel
theorem dX0_newestHeld_13 : decode cX0_newestHeld 13 = .ok (.ifCond .le 5, 3) := by decide +kernel
theorem dX0_newestHeld_16 : decode cX0_newestHeld 16 = .ok (.iload_n 1, 1) := by decide +kernel
theorem dX0_newestHeld_17 : decode cX0_newestHeld 17 = .ok (.ireturn, 1) := by decide +kernel
theorem dX0_newestHeld_18 : decode cX0_newestHeld 18 = .ok (.iinc 1 (-1), 3) := by decide +kernel
theorem dX0_newestHeld_21 : decode cX0_newestHeld 21 = .ok (.goto (-18), 3) := by decide +kernel
theorem dX0_newestHeld_24 : decode cX0_newestHeld 24 = .ok (.bipush (-5), 2) := by decide +kernel
theorem dX0_newestHeld_26 : decode cX0_newestHeld 26 = .ok (.ireturn, 1) := by decide +kernel
theorem dX0_mayUse_0 : decode cX0_mayUse 0 = .ok (.iconst 0, 1) := by decide +kernel
theorem dX0_mayUse_1 : decode cX0_mayUse 1 = .ok (.aload_n 0, 1) := by decide +kernel
theorem dX0_mayUse_2 : decode cX0_mayUse 2 = .ok (.getfield 21, 3) := by decide +kernel
theorem dX0_mayUse_5 : decode cX0_mayUse 5 = .ok (.iload_n 2, 1) := by decide +kernel
theorem dX0_mayUse_6 : decode cX0_mayUse 6 = .ok (.imul, 1) := by decide +kernel
theorem dX0_mayUse_7 : decode cX0_mayUse 7 = .ok (.bipush 100, 2) := by decide +kernel
theorem dX0_mayUse_9 : decode cX0_mayUse 9 = .ok (.idiv, 1) := by decide +kernel
theorem dX0_mayUse_10 : decode cX0_mayUse 10 = .ok (.aload_n 0, 1) := by decide +kernel
theorem dX0_mayUse_11 : decode cX0_mayUse 11 = .ok (.getfield 18, 3) := by decide +kernel
theorem dX0_mayUse_14 : decode cX0_mayUse 14 = .ok (.iload_n 1, 1) := by decide +kernel
theorem dX0_mayUse_15 : decode cX0_mayUse 15 = .ok (.iaload, 1) := by decide +kernel
theorem dX0_mayUse_16 : decode cX0_mayUse 16 = .ok (.isub, 1) := by decide +kernel
theorem dX0_mayUse_17 : decode cX0_mayUse 17 = .ok (.invokestatic 25, 3) := by decide +kernel
theorem dX0_mayUse_20 : decode cX0_mayUse 20 = .ok (.ireturn, 1) := by decide +kernel
theorem dX0_canUse_0 : decode cX0_canUse 0 = .ok (.aload_n 0, 1) := by decide +kernel
theorem dX0_canUse_1 : decode cX0_canUse 1 = .ok (.getfield 15, 3) := by decide +kernel
theorem dX0_canUse_4 : decode cX0_canUse 4 = .ok (.iload_n 1, 1) := by decide +kernel
theorem dX0_canUse_5 : decode cX0_canUse 5 = .ok (.iaload, 1) := by decide +kernel
theorem dX0_canUse_6 : decode cX0_canUse 6 = .ok (.aload_n 0, 1) := by decide +kernel
theorem dX0_canUse_7 : decode cX0_canUse 7 = .ok (.iload_n 1, 1) := by decide +kernel
theorem dX0_canUse_8 : decode cX0_canUse 8 = .ok (.iload_n 2, 1) := by decide +kernel
theorem dX0_canUse_9 : decode cX0_canUse 9 = .ok (.invokevirtual 31, 3) := by decide +kernel
theorem dX0_canUse_12 : decode cX0_canUse 12 = .ok (.invokestatic 34, 3) := by decide +kernel
theorem dX0_canUse_15 : decode cX0_canUse 15 = .ok (.ireturn, 1) := by decide +kernel
theorem dX0_dueAtBest_0 : decode cX0_dueAtBest 0 = .ok (.aload_n 0, 1) := by decide +kernel
theorem dX0_dueAtBest_1 : decode cX0_dueAtBest 1 = .ok (.invokevirtual 37, 3) := by decide +kernel
theorem dX0_dueAtBest_4 : decode cX0_dueAtBest 4 = .ok (.istore_n 2, 1) := by decide +kernel
theorem dX0_dueAtBest_5 : decode cX0_dueAtBest 5 = .ok (.iconst 0, 1) := by decide +kernel
theorem dX0_dueAtBest_6 : decode cX0_dueAtBest 6 = .ok (.istore_n 3, 1) := by decide +kernel
theorem dX0_dueAtBest_7 : decode cX0_dueAtBest 7 = .ok (.iload_n 3, 1) := by decide +kernel
theorem dX0_dueAtBest_8 : decode cX0_dueAtBest 8 = .ok (.iconst 3, 1) := by decide +kernel
theorem dX0_dueAtBest_9 : decode cX0_dueAtBest 9 = .ok (.if_icmp .ge 20, 3) := by decide +kernel
theorem dX0_dueAtBest_12 : decode cX0_dueAtBest 12 = .ok (.iload_n 2, 1) := by decide +kernel
theorem dX0_dueAtBest_13 : decode cX0_dueAtBest 13 = .ok (.aload_n 0, 1) := by decide +kernel
theorem dX0_dueAtBest_14 : decode cX0_dueAtBest 14 = .ok (.iload_n 3, 1) := by decide +kernel
theorem dX0_dueAtBest_15 : decode cX0_dueAtBest 15 = .ok (.aload_n 1, 1) := by decide +kernel
theorem dX0_dueAtBest_16 : decode cX0_dueAtBest 16 = .ok (.iload_n 3, 1) := by decide +kernel
theorem dX0_dueAtBest_17 : decode cX0_dueAtBest 17 = .ok (.iaload, 1) := by decide +kernel
theorem dX0_dueAtBest_18 : decode cX0_dueAtBest 18 = .ok (.invokevirtual 41, 3) := by decide +kernel
theorem dX0_dueAtBest_21 : decode cX0_dueAtBest 21 = .ok (.iadd, 1) := by decide +kernel
theorem dX0_dueAtBest_22 : decode cX0_dueAtBest 22 = .ok (.istore_n 2, 1) := by decide +kernel
theorem dX0_dueAtBest_23 : decode cX0_dueAtBest 23 = .ok (.iinc 3 1, 3) := by decide +kernel
theorem dX0_dueAtBest_26 : decode cX0_dueAtBest 26 = .ok (.goto (-19), 3) := by decide +kernel
theorem dX0_dueAtBest_29 : decode cX0_dueAtBest 29 = .ok (.iconst 0, 1) := by decide +kernel
theorem dX0_dueAtBest_30 : decode cX0_dueAtBest 30 = .ok (.aload_n 0, 1) := by decide +kernel
theorem dX0_dueAtBest_31 : decode cX0_dueAtBest 31 = .ok (.getfield 44, 3) := by decide +kernel
theorem dX0_dueAtBest_34 : decode cX0_dueAtBest 34 = .ok (.iload_n 2, 1) := by decide +kernel
theorem dX0_dueAtBest_35 : decode cX0_dueAtBest 35 = .ok (.isub, 1) := by decide +kernel
theorem dX0_dueAtBest_36 : decode cX0_dueAtBest 36 = .ok (.invokestatic 25, 3) := by decide +kernel
theorem dX0_dueAtBest_39 : decode cX0_dueAtBest 39 = .ok (.ireturn, 1) := by decide +kernel
theorem dX0_closeYear_0 : decode cX0_closeYear 0 = .ok (.aload_n 0, 1) := by decide +kernel
theorem dX0_closeYear_1 : decode cX0_closeYear 1 = .ok (.getfield 47, 3) := by decide +kernel
theorem dX0_closeYear_4 : decode cX0_closeYear 4 = .ok (.bipush 9, 2) := by decide +kernel
theorem dX0_closeYear_6 : decode cX0_closeYear 6 = .ok (.iadd, 1) := by decide +kernel
theorem dX0_closeYear_7 : decode cX0_closeYear 7 = .ok (.bipush 10, 2) := by decide +kernel
theorem dX0_closeYear_9 : decode cX0_closeYear 9 = .ok (.idiv, 1) := by decide +kernel
theorem dX0_closeYear_10 : decode cX0_closeYear 10 = .ok (.istore_n 1, 1) := by decide +kernel
theorem dX0_closeYear_11 : decode cX0_closeYear 11 = .ok (.aload_n 0, 1) := by decide +kernel
theorem dX0_closeYear_12 : decode cX0_closeYear 12 = .ok (.aload_n 0, 1) := by decide +kernel
theorem dX0_closeYear_13 : decode cX0_closeYear 13 = .ok (.getfield 50, 3) := by decide +kernel
theorem dX0_closeYear_16 : decode cX0_closeYear 16 = .ok (.aload_n 0, 1) := by decide +kernel
theorem dX0_closeYear_17 : decode cX0_closeYear 17 = .ok (.getfield 47, 3) := by decide +kernel
theorem dX0_closeYear_20 : decode cX0_closeYear 20 = .ok (.iadd, 1) := by decide +kernel
theorem dX0_closeYear_21 : decode cX0_closeYear 21 = .ok (.iload_n 1, 1) := by decide +kernel
theorem dX0_closeYear_22 : decode cX0_closeYear 22 = .ok (.iadd, 1) := by decide +kernel
theorem dX0_closeYear_23 : decode cX0_closeYear 23 = .ok (.putfield 21, 3) := by decide +kernel
theorem dX0_closeYear_26 : decode cX0_closeYear 26 = .ok (.aload_n 0, 1) := by decide +kernel
theorem dX0_closeYear_27 : decode cX0_closeYear 27 = .ok (.dup, 1) := by decide +kernel
theorem dX0_closeYear_28 : decode cX0_closeYear 28 = .ok (.getfield 44, 3) := by decide +kernel
theorem dX0_closeYear_31 : decode cX0_closeYear 31 = .ok (.aload_n 0, 1) := by decide +kernel
theorem dX0_closeYear_32 : decode cX0_closeYear 32 = .ok (.getfield 21, 3) := by decide +kernel
theorem dX0_closeYear_35 : decode cX0_closeYear 35 = .ok (.iadd, 1) := by decide +kernel
theorem dX0_closeYear_36 : decode cX0_closeYear 36 = .ok (.putfield 44, 3) := by decide +kernel
theorem dX0_closeYear_39 : decode cX0_closeYear 39 = .ok (.aload_n 0, 1) := by decide +kernel
theorem dX0_closeYear_40 : decode cX0_closeYear 40 = .ok (.iconst 0, 1) := by decide +kernel
theorem dX0_closeYear_41 : decode cX0_closeYear 41 = .ok (.putfield 47, 3) := by decide +kernel
theorem dX0_closeYear_44 : decode cX0_closeYear 44 = .ok (.aload_n 0, 1) := by decide +kernel
theorem dX0_closeYear_45 : decode cX0_closeYear 45 = .ok (.iconst 0, 1) := by decide +kernel
theorem dX0_closeYear_46 : decode cX0_closeYear 46 = .ok (.putfield 50, 3) := by decide +kernel
theorem dX0_closeYear_49 : decode cX0_closeYear 49 = .ok (.iconst 0, 1) := by decide +kernel
theorem dX0_closeYear_50 : decode cX0_closeYear 50 = .ok (.istore_n 2, 1) := by decide +kernel
theorem dX0_closeYear_51 : decode cX0_closeYear 51 = .ok (.iload_n 2, 1) := by decide +kernel
theorem dX0_closeYear_52 : decode cX0_closeYear 52 = .ok (.iconst 3, 1) := by decide +kernel
theorem dX0_closeYear_53 : decode cX0_closeYear 53 = .ok (.if_icmp .ge 16, 3) := by decide +kernel
theorem dX0_closeYear_56 : decode cX0_closeYear 56 = .ok (.aload_n 0, 1) := by decide +kernel
theorem dX0_closeYear_57 : decode cX0_closeYear 57 = .ok (.getfield 18, 3) := by decide +kernel
theorem dX0_closeYear_60 : decode cX0_closeYear 60 = .ok (.iload_n 2, 1) := by decide +kernel
theorem dX0_closeYear_61 : decode cX0_closeYear 61 = .ok (.iconst 0, 1) := by decide +kernel
theorem dX0_closeYear_62 : decode cX0_closeYear 62 = .ok (.iastore, 1) := by decide +kernel
theorem dX0_closeYear_63 : decode cX0_closeYear 63 = .ok (.iinc 2 1, 3) := by decide +kernel
theorem dX0_closeYear_66 : decode cX0_closeYear 66 = .ok (.goto (-15), 3) := by decide +kernel
theorem dX0_closeYear_69 : decode cX0_closeYear 69 = .ok (.return_, 1) := by decide +kernel
theorem dX1_init_0 : decode cX1_init 0 = .ok (.aload_n 0, 1) := by decide +kernel
theorem dX1_init_1 : decode cX1_init 1 = .ok (.invokespecial 3, 3) := by decide +kernel
theorem dX1_init_4 : decode cX1_init 4 = .ok (.aload_n 0, 1) := by decide +kernel
theorem dX1_init_5 : decode cX1_init 5 = .ok (.iconst 4, 1) := by decide +kernel
theorem dX1_init_6 : decode cX1_init 6 = .ok (.anewarray 9, 3) := by decide +kernel
theorem dX1_init_9 : decode cX1_init 9 = .ok (.putfield 11, 3) := by decide +kernel
theorem dX1_init_12 : decode cX1_init 12 = .ok (.iconst 0, 1) := by decide +kernel
theorem dX1_init_13 : decode cX1_init 13 = .ok (.istore_n 1, 1) := by decide +kernel
theorem dX1_init_14 : decode cX1_init 14 = .ok (.iload_n 1, 1) := by decide +kernel
theorem dX1_init_15 : decode cX1_init 15 = .ok (.iconst 4, 1) := by decide +kernel
theorem dX1_init_16 : decode cX1_init 16 = .ok (.if_icmp .ge 22, 3) := by decide +kernel
theorem dX1_init_19 : decode cX1_init 19 = .ok (.aload_n 0, 1) := by decide +kernel
theorem dX1_init_20 : decode cX1_init 20 = .ok (.getfield 11, 3) := by decide +kernel
theorem dX1_init_23 : decode cX1_init 23 = .ok (.iload_n 1, 1) := by decide +kernel
theorem dX1_init_24 : decode cX1_init 24 = .ok (.new 9, 3) := by decide +kernel
theorem dX1_init_27 : decode cX1_init 27 = .ok (.dup, 1) := by decide +kernel
theorem dX1_init_28 : decode cX1_init 28 = .ok (.invokespecial 17, 3) := by decide +kernel
theorem dX1_init_31 : decode cX1_init 31 = .ok (.aastore, 1) := by decide +kernel
theorem dX1_init_32 : decode cX1_init 32 = .ok (.iinc 1 1, 3) := by decide +kernel
theorem dX1_init_35 : decode cX1_init 35 = .ok (.goto (-21), 3) := by decide +kernel
theorem dX1_init_38 : decode cX1_init 38 = .ok (.return_, 1) := by decide +kernel
theorem dX1_push_0 : decode cX1_push 0 = .ok (.aload_n 1, 1) := by decide +kernel
theorem dX1_push_1 : decode cX1_push 1 = .ok (.aload_n 0, 1) := by decide +kernel
theorem dX1_push_2 : decode cX1_push 2 = .ok (.getfield 11, 3) := by decide +kernel
theorem dX1_push_5 : decode cX1_push 5 = .ok (.aload_n 0, 1) := by decide +kernel
theorem dX1_push_6 : decode cX1_push 6 = .ok (.getfield 18, 3) := by decide +kernel
theorem dX1_push_9 : decode cX1_push 9 = .ok (.aaload, 1) := by decide +kernel
theorem dX1_push_10 : decode cX1_push 10 = .ok (.invokestatic 22, 3) := by decide +kernel
theorem dX1_push_13 : decode cX1_push 13 = .ok (.aload_n 0, 1) := by decide +kernel
theorem dX1_push_14 : decode cX1_push 14 = .ok (.aload_n 0, 1) := by decide +kernel
theorem dX1_push_15 : decode cX1_push 15 = .ok (.getfield 18, 3) := by decide +kernel
theorem dX1_push_18 : decode cX1_push 18 = .ok (.iconst 1, 1) := by decide +kernel
theorem dX1_push_19 : decode cX1_push 19 = .ok (.iadd, 1) := by decide +kernel
theorem dX1_push_20 : decode cX1_push 20 = .ok (.iconst 4, 1) := by decide +kernel
theorem dX1_push_21 : decode cX1_push 21 = .ok (.irem, 1) := by decide +kernel
theorem dX1_push_22 : decode cX1_push 22 = .ok (.putfield 18, 3) := by decide +kernel
theorem dX1_push_25 : decode cX1_push 25 = .ok (.aload_n 0, 1) := by decide +kernel
theorem dX1_push_26 : decode cX1_push 26 = .ok (.aload_n 0, 1) := by decide +kernel
theorem dX1_push_27 : decode cX1_push 27 = .ok (.getfield 26, 3) := by decide +kernel
theorem dX1_push_30 : decode cX1_push 30 = .ok (.iconst 1, 1) := by decide +kernel
theorem dX1_push_31 : decode cX1_push 31 = .ok (.iadd, 1) := by decide +kernel
theorem dX1_push_32 : decode cX1_push 32 = .ok (.iconst 4, 1) := by decide +kernel
theorem dX1_push_33 : decode cX1_push 33 = .ok (.invokestatic 29, 3) := by decide +kernel
theorem dX1_push_36 : decode cX1_push 36 = .ok (.putfield 26, 3) := by decide +kernel
theorem dX1_push_39 : decode cX1_push 39 = .ok (.return_, 1) := by decide +kernel
theorem dX1_popInto_0 : decode cX1_popInto 0 = .ok (.aload_n 0, 1) := by decide +kernel
theorem dX1_popInto_1 : decode cX1_popInto 1 = .ok (.aload_n 0, 1) := by decide +kernel
theorem dX1_popInto_2 : decode cX1_popInto 2 = .ok (.getfield 18, 3) := by decide +kernel
theorem dX1_popInto_5 : decode cX1_popInto 5 = .ok (.iconst 4, 1) := by decide +kernel
theorem dX1_popInto_6 : decode cX1_popInto 6 = .ok (.iadd, 1) := by decide +kernel
theorem dX1_popInto_7 : decode cX1_popInto 7 = .ok (.iconst 1, 1) := by decide +kernel
theorem dX1_popInto_8 : decode cX1_popInto 8 = .ok (.isub, 1) := by decide +kernel
theorem dX1_popInto_9 : decode cX1_popInto 9 = .ok (.iconst 4, 1) := by decide +kernel
theorem dX1_popInto_10 : decode cX1_popInto 10 = .ok (.irem, 1) := by decide +kernel
theorem dX1_popInto_11 : decode cX1_popInto 11 = .ok (.putfield 18, 3) := by decide +kernel
theorem dX1_popInto_14 : decode cX1_popInto 14 = .ok (.aload_n 0, 1) := by decide +kernel
theorem dX1_popInto_15 : decode cX1_popInto 15 = .ok (.dup, 1) := by decide +kernel
theorem dX1_popInto_16 : decode cX1_popInto 16 = .ok (.getfield 26, 3) := by decide +kernel
theorem dX1_popInto_19 : decode cX1_popInto 19 = .ok (.iconst 1, 1) := by decide +kernel
theorem dX1_popInto_20 : decode cX1_popInto 20 = .ok (.isub, 1) := by decide +kernel
theorem dX1_popInto_21 : decode cX1_popInto 21 = .ok (.putfield 26, 3) := by decide +kernel
theorem dX1_popInto_24 : decode cX1_popInto 24 = .ok (.aload_n 0, 1) := by decide +kernel
theorem dX1_popInto_25 : decode cX1_popInto 25 = .ok (.getfield 11, 3) := by decide +kernel
theorem dX1_popInto_28 : decode cX1_popInto 28 = .ok (.aload_n 0, 1) := by decide +kernel
theorem dX1_popInto_29 : decode cX1_popInto 29 = .ok (.getfield 18, 3) := by decide +kernel
theorem dX1_popInto_32 : decode cX1_popInto 32 = .ok (.aaload, 1) := by decide +kernel
theorem dX1_popInto_33 : decode cX1_popInto 33 = .ok (.aload_n 1, 1) := by decide +kernel
theorem dX1_popInto_34 : decode cX1_popInto 34 = .ok (.invokestatic 22, 3) := by decide +kernel
theorem dX1_popInto_37 : decode cX1_popInto 37 = .ok (.return_, 1) := by decide +kernel
theorem dX2_init_0 : decode cX2_init 0 = .ok (.aload_n 0, 1) := by decide +kernel
theorem dX2_init_1 : decode cX2_init 1 = .ok (.invokespecial 3, 3) := by decide +kernel
theorem dX2_init_4 : decode cX2_init 4 = .ok (.aload_n 0, 1) := by decide +kernel
theorem dX2_init_5 : decode cX2_init 5 = .ok (.getstatic 9, 3) := by decide +kernel
theorem dX2_init_8 : decode cX2_init 8 = .ok (.invokevirtual 13, 3) := by decide +kernel
theorem dX2_init_11 : decode cX2_init 11 = .ok (.checkcast 14, 3) := by decide +kernel
theorem dX2_init_14 : decode cX2_init 14 = .ok (.putfield 18, 3) := by decide +kernel
theorem dX2_init_17 : decode cX2_init 17 = .ok (.aload_n 0, 1) := by decide +kernel
theorem dX2_init_18 : decode cX2_init 18 = .ok (.bipush 8, 2) := by decide +kernel
theorem dX2_init_20 : decode cX2_init 20 = .ok (.anewarray 23, 3) := by decide +kernel
theorem dX2_init_23 : decode cX2_init 23 = .ok (.putfield 25, 3) := by decide +kernel
theorem dX2_init_26 : decode cX2_init 26 = .ok (.iconst 0, 1) := by decide +kernel
theorem dX2_init_27 : decode cX2_init 27 = .ok (.istore_n 1, 1) := by decide +kernel
theorem dX2_init_28 : decode cX2_init 28 = .ok (.iload_n 1, 1) := by decide +kernel
theorem dX2_init_29 : decode cX2_init 29 = .ok (.bipush 8, 2) := by decide +kernel
theorem dX2_init_31 : decode cX2_init 31 = .ok (.if_icmp .ge 22, 3) := by decide +kernel
theorem dX2_init_34 : decode cX2_init 34 = .ok (.aload_n 0, 1) := by decide +kernel
theorem dX2_init_35 : decode cX2_init 35 = .ok (.getfield 25, 3) := by decide +kernel
theorem dX2_init_38 : decode cX2_init 38 = .ok (.iload_n 1, 1) := by decide +kernel
theorem dX2_init_39 : decode cX2_init 39 = .ok (.new 23, 3) := by decide +kernel
theorem dX2_init_42 : decode cX2_init 42 = .ok (.dup, 1) := by decide +kernel
theorem dX2_init_43 : decode cX2_init 43 = .ok (.invokespecial 29, 3) := by decide +kernel
theorem dX2_init_46 : decode cX2_init 46 = .ok (.aastore, 1) := by decide +kernel
theorem dX2_init_47 : decode cX2_init 47 = .ok (.iinc 1 1, 3) := by decide +kernel
theorem dX2_init_50 : decode cX2_init 50 = .ok (.goto (-22), 3) := by decide +kernel
theorem dX2_init_53 : decode cX2_init 53 = .ok (.aload_n 0, 1) := by decide +kernel
theorem dX2_init_54 : decode cX2_init 54 = .ok (.bipush 20, 2) := by decide +kernel
theorem dX2_init_56 : decode cX2_init 56 = .ok (.newarray .int, 2) := by decide +kernel
theorem dX2_init_58 : decode cX2_init 58 = .ok (.putfield 30, 3) := by decide +kernel
theorem dX2_init_61 : decode cX2_init 61 = .ok (.aload_n 0, 1) := by decide +kernel
theorem dX2_init_62 : decode cX2_init 62 = .ok (.bipush 20, 2) := by decide +kernel
theorem dX2_init_64 : decode cX2_init 64 = .ok (.newarray .int, 2) := by decide +kernel
theorem dX2_init_66 : decode cX2_init 66 = .ok (.putfield 33, 3) := by decide +kernel
theorem dX2_init_69 : decode cX2_init 69 = .ok (.aload_n 0, 1) := by decide +kernel
theorem dX2_init_70 : decode cX2_init 70 = .ok (.bipush 20, 2) := by decide +kernel
theorem dX2_init_72 : decode cX2_init 72 = .ok (.newarray .int, 2) := by decide +kernel
theorem dX2_init_74 : decode cX2_init 74 = .ok (.putfield 36, 3) := by decide +kernel
theorem dX2_init_77 : decode cX2_init 77 = .ok (.aload_n 0, 1) := by decide +kernel
theorem dX2_init_78 : decode cX2_init 78 = .ok (.bipush 20, 2) := by decide +kernel
theorem dX2_init_80 : decode cX2_init 80 = .ok (.newarray .int, 2) := by decide +kernel
theorem dX2_init_82 : decode cX2_init 82 = .ok (.putfield 39, 3) := by decide +kernel
theorem dX2_init_85 : decode cX2_init 85 = .ok (.aload_n 0, 1) := by decide +kernel
theorem dX2_init_86 : decode cX2_init 86 = .ok (.iconst 3, 1) := by decide +kernel
theorem dX2_init_87 : decode cX2_init 87 = .ok (.newarray .int, 2) := by decide +kernel
theorem dX2_init_89 : decode cX2_init 89 = .ok (.putfield 42, 3) := by decide +kernel
theorem dX2_init_92 : decode cX2_init 92 = .ok (.aload_n 0, 1) := by decide +kernel
theorem dX2_init_93 : decode cX2_init 93 = .ok (.iconst 3, 1) := by decide +kernel
theorem dX2_init_94 : decode cX2_init 94 = .ok (.newarray .int, 2) := by decide +kernel
theorem dX2_init_96 : decode cX2_init 96 = .ok (.putfield 45, 3) := by decide +kernel
theorem dX2_init_99 : decode cX2_init 99 = .ok (.return_, 1) := by decide +kernel
theorem dX2_firmAt_0 : decode cX2_firmAt 0 = .ok (.iload_n 1, 1) := by decide +kernel
theorem dX2_firmAt_1 : decode cX2_firmAt 1 = .ok (.ifCond .lt 26, 3) := by decide +kernel
theorem dX2_firmAt_4 : decode cX2_firmAt 4 = .ok (.iload_n 1, 1) := by decide +kernel
theorem dX2_firmAt_5 : decode cX2_firmAt 5 = .ok (.aload_n 0, 1) := by decide +kernel
theorem dX2_firmAt_6 : decode cX2_firmAt 6 = .ok (.getfield 48, 3) := by decide +kernel
theorem dX2_firmAt_9 : decode cX2_firmAt 9 = .ok (.if_icmp .ge 18, 3) := by decide +kernel
theorem dX2_firmAt_12 : decode cX2_firmAt 12 = .ok (.iload_n 1, 1) := by decide +kernel
theorem dX2_firmAt_13 : decode cX2_firmAt 13 = .ok (.bipush 8, 2) := by decide +kernel
theorem dX2_firmAt_15 : decode cX2_firmAt 15 = .ok (.if_icmp .ge 12, 3) := by decide +kernel
theorem dX2_firmAt_18 : decode cX2_firmAt 18 = .ok (.aload_n 0, 1) := by decide +kernel
theorem dX2_firmAt_19 : decode cX2_firmAt 19 = .ok (.getfield 25, 3) := by decide +kernel
theorem dX2_firmAt_22 : decode cX2_firmAt 22 = .ok (.iload_n 1, 1) := by decide +kernel
theorem dX2_firmAt_23 : decode cX2_firmAt 23 = .ok (.aaload, 1) := by decide +kernel
theorem dX2_firmAt_24 : decode cX2_firmAt 24 = .ok (.goto 4, 3) := by decide +kernel
theorem dX2_firmAt_27 : decode cX2_firmAt 27 = .ok (.aconst_null, 1) := by decide +kernel
theorem dX2_firmAt_28 : decode cX2_firmAt 28 = .ok (.areturn, 1) := by decide +kernel
theorem dX2_year_0 : decode cX2_year 0 = .ok (.aload_n 0, 1) := by decide +kernel
theorem dX2_year_1 : decode cX2_year 1 = .ok (.getfield 52, 3) := by decide +kernel
theorem dX2_year_4 : decode cX2_year 4 = .ok (.bipush 12, 2) := by decide +kernel
theorem dX2_year_6 : decode cX2_year 6 = .ok (.idiv, 1) := by decide +kernel
theorem dX2_year_7 : decode cX2_year 7 = .ok (.ireturn, 1) := by decide +kernel
theorem dX2_moveError_0 : decode cX2_moveError 0 = .ok (.aload_n 0, 1) := by decide +kernel
theorem dX2_moveError_1 : decode cX2_moveError 1 = .ok (.iload_n 1, 1) := by decide +kernel
theorem dX2_moveError_2 : decode cX2_moveError 2 = .ok (.invokevirtual 55, 3) := by decide +kernel
theorem dX2_moveError_5 : decode cX2_moveError 5 = .ok (.astore 5, 2) := by decide +kernel
theorem dX2_moveError_7 : decode cX2_moveError 7 = .ok (.aload 5, 2) := by decide +kernel
theorem dX2_moveError_9 : decode cX2_moveError 9 = .ok (.ifnull 18, 3) := by decide +kernel
theorem dX2_moveError_12 : decode cX2_moveError 12 = .ok (.aload_n 0, 1) := by decide +kernel
theorem dX2_moveError_13 : decode cX2_moveError 13 = .ok (.iload_n 2, 1) := by decide +kernel
theorem dX2_moveError_14 : decode cX2_moveError 14 = .ok (.invokevirtual 55, 3) := by decide +kernel
theorem dX2_moveError_17 : decode cX2_moveError 17 = .ok (.ifnull 10, 3) := by decide +kernel
theorem dX2_moveError_20 : decode cX2_moveError 20 = .ok (.iload_n 3, 1) := by decide +kernel
theorem dX2_moveError_21 : decode cX2_moveError 21 = .ok (.invokestatic 59, 3) := by decide +kernel
theorem dX2_moveError_24 : decode cX2_moveError 24 = .ok (.ifCond .ne 5, 3) := by decide +kernel
theorem dX2_moveError_27 : decode cX2_moveError 27 = .ok (.iconst (-1), 1) := by decide +kernel
theorem dX2_moveError_28 : decode cX2_moveError 28 = .ok (.ireturn, 1) := by decide +kernel
theorem dX2_moveError_29 : decode cX2_moveError 29 = .ok (.iload 4, 2) := by decide +kernel
theorem dX2_moveError_31 : decode cX2_moveError 31 = .ok (.invokestatic 63, 3) := by decide +kernel
theorem dX2_moveError_34 : decode cX2_moveError 34 = .ok (.ifCond .eq 8, 3) := by decide +kernel
theorem dX2_moveError_37 : decode cX2_moveError 37 = .ok (.iload_n 1, 1) := by decide +kernel
theorem dX2_moveError_38 : decode cX2_moveError 38 = .ok (.iload_n 2, 1) := by decide +kernel
theorem dX2_moveError_39 : decode cX2_moveError 39 = .ok (.if_icmp .ne 6, 3) := by decide +kernel
theorem dX2_moveError_42 : decode cX2_moveError 42 = .ok (.bipush (-2), 2) := by decide +kernel
theorem dX2_moveError_44 : decode cX2_moveError 44 = .ok (.ireturn, 1) := by decide +kernel
theorem dX2_moveError_45 : decode cX2_moveError 45 = .ok (.aload 5, 2) := by decide +kernel
theorem dX2_moveError_47 : decode cX2_moveError 47 = .ok (.getfield 66, 3) := by decide +kernel
theorem dX2_moveError_50 : decode cX2_moveError 50 = .ok (.iload_n 3, 1) := by decide +kernel
theorem dX2_moveError_51 : decode cX2_moveError 51 = .ok (.iaload, 1) := by decide +kernel
theorem dX2_moveError_52 : decode cX2_moveError 52 = .ok (.iload 4, 2) := by decide +kernel
theorem dX2_moveError_54 : decode cX2_moveError 54 = .ok (.if_icmp .ge 8, 3) := by decide +kernel
theorem dX2_moveError_57 : decode cX2_moveError 57 = .ok (.bipush (-4), 2) := by decide +kernel
theorem dX2_moveError_59 : decode cX2_moveError 59 = .ok (.goto 4, 3) := by decide +kernel
theorem dX2_moveError_62 : decode cX2_moveError 62 = .ok (.iconst 0, 1) := by decide +kernel
theorem dX2_moveError_63 : decode cX2_moveError 63 = .ok (.ireturn, 1) := by decide +kernel
theorem dX2_move_0 : decode cX2_move 0 = .ok (.aload_n 0, 1) := by decide +kernel
theorem dX2_move_1 : decode cX2_move 1 = .ok (.iload_n 1, 1) := by decide +kernel
theorem dX2_move_2 : decode cX2_move 2 = .ok (.invokevirtual 55, 3) := by decide +kernel
theorem dX2_move_5 : decode cX2_move 5 = .ok (.astore 5, 2) := by decide +kernel
theorem dX2_move_7 : decode cX2_move 7 = .ok (.aload_n 0, 1) := by decide +kernel
theorem dX2_move_8 : decode cX2_move 8 = .ok (.iload_n 2, 1) := by decide +kernel
theorem dX2_move_9 : decode cX2_move 9 = .ok (.invokevirtual 55, 3) := by decide +kernel
theorem dX2_move_12 : decode cX2_move 12 = .ok (.astore 6, 2) := by decide +kernel
theorem dX2_move_14 : decode cX2_move 14 = .ok (.aload 5, 2) := by decide +kernel
theorem dX2_move_16 : decode cX2_move 16 = .ok (.ifnull 15, 3) := by decide +kernel
theorem dX2_move_19 : decode cX2_move 19 = .ok (.aload 6, 2) := by decide +kernel
theorem dX2_move_21 : decode cX2_move 21 = .ok (.ifnull 10, 3) := by decide +kernel
theorem dX2_move_24 : decode cX2_move 24 = .ok (.iload_n 3, 1) := by decide +kernel
theorem dX2_move_25 : decode cX2_move 25 = .ok (.invokestatic 59, 3) := by decide +kernel
theorem dX2_move_28 : decode cX2_move 28 = .ok (.ifCond .ne 5, 3) := by decide +kernel
theorem dX2_move_31 : decode cX2_move 31 = .ok (.iconst (-1), 1) := by decide +kernel
theorem dX2_move_32 : decode cX2_move 32 = .ok (.ireturn, 1) := by decide +kernel
theorem dX2_move_33 : decode cX2_move 33 = .ok (.aload 5, 2) := by decide +kernel
theorem dX2_move_35 : decode cX2_move 35 = .ok (.getfield 66, 3) := by decide +kernel
theorem dX2_move_38 : decode cX2_move 38 = .ok (.iload_n 3, 1) := by decide +kernel
theorem dX2_move_39 : decode cX2_move 39 = .ok (.dup2, 1) := by decide +kernel
theorem dX2_move_40 : decode cX2_move 40 = .ok (.iaload, 1) := by decide +kernel
theorem dX2_move_41 : decode cX2_move 41 = .ok (.iload 4, 2) := by decide +kernel
theorem dX2_move_43 : decode cX2_move 43 = .ok (.isub, 1) := by decide +kernel
theorem dX2_move_44 : decode cX2_move 44 = .ok (.iastore, 1) := by decide +kernel
theorem dX2_move_45 : decode cX2_move 45 = .ok (.aload 6, 2) := by decide +kernel
theorem dX2_move_47 : decode cX2_move 47 = .ok (.getfield 66, 3) := by decide +kernel
theorem dX2_move_50 : decode cX2_move 50 = .ok (.iload_n 3, 1) := by decide +kernel
theorem dX2_move_51 : decode cX2_move 51 = .ok (.dup2, 1) := by decide +kernel
theorem dX2_move_52 : decode cX2_move 52 = .ok (.iaload, 1) := by decide +kernel
theorem dX2_move_53 : decode cX2_move 53 = .ok (.iload 4, 2) := by decide +kernel
theorem dX2_move_55 : decode cX2_move 55 = .ok (.iadd, 1) := by decide +kernel
theorem dX2_move_56 : decode cX2_move 56 = .ok (.iastore, 1) := by decide +kernel
theorem dX2_move_57 : decode cX2_move 57 = .ok (.aload 5, 2) := by decide +kernel
theorem dX2_move_59 : decode cX2_move 59 = .ok (.getfield 66, 3) := by decide +kernel
theorem dX2_move_62 : decode cX2_move 62 = .ok (.iload_n 3, 1) := by decide +kernel
theorem dX2_move_63 : decode cX2_move 63 = .ok (.iaload, 1) := by decide +kernel
theorem dX2_move_64 : decode cX2_move 64 = .ok (.ireturn, 1) := by decide +kernel
theorem dX2_takeFrom_0 : decode cX2_takeFrom 0 = .ok (.iconst 0, 1) := by decide +kernel
theorem dX2_takeFrom_1 : decode cX2_takeFrom 1 = .ok (.istore_n 3, 1) := by decide +kernel
theorem dX2_takeFrom_2 : decode cX2_takeFrom 2 = .ok (.iload_n 3, 1) := by decide +kernel
theorem dX2_takeFrom_3 : decode cX2_takeFrom 3 = .ok (.bipush 20, 2) := by decide +kernel
theorem dX2_takeFrom_5 : decode cX2_takeFrom 5 = .ok (.if_icmp .ge 39, 3) := by decide +kernel
theorem dX2_takeFrom_8 : decode cX2_takeFrom 8 = .ok (.aload_n 2, 1) := by decide +kernel
theorem dX2_takeFrom_9 : decode cX2_takeFrom 9 = .ok (.getfield 69, 3) := by decide +kernel
theorem dX2_takeFrom_12 : decode cX2_takeFrom 12 = .ok (.iload_n 3, 1) := by decide +kernel
theorem dX2_takeFrom_13 : decode cX2_takeFrom 13 = .ok (.iaload, 1) := by decide +kernel
theorem dX2_takeFrom_14 : decode cX2_takeFrom 14 = .ok (.istore 4, 2) := by decide +kernel
theorem dX2_takeFrom_16 : decode cX2_takeFrom 16 = .ok (.aload_n 1, 1) := by decide +kernel
theorem dX2_takeFrom_17 : decode cX2_takeFrom 17 = .ok (.getfield 66, 3) := by decide +kernel
theorem dX2_takeFrom_20 : decode cX2_takeFrom 20 = .ok (.iload_n 3, 1) := by decide +kernel
theorem dX2_takeFrom_21 : decode cX2_takeFrom 21 = .ok (.dup2, 1) := by decide +kernel
theorem dX2_takeFrom_22 : decode cX2_takeFrom 22 = .ok (.iaload, 1) := by decide +kernel
theorem dX2_takeFrom_23 : decode cX2_takeFrom 23 = .ok (.iload 4, 2) := by decide +kernel
theorem dX2_takeFrom_25 : decode cX2_takeFrom 25 = .ok (.isub, 1) := by decide +kernel
theorem dX2_takeFrom_26 : decode cX2_takeFrom 26 = .ok (.iastore, 1) := by decide +kernel
theorem dX2_takeFrom_27 : decode cX2_takeFrom 27 = .ok (.aload_n 0, 1) := by decide +kernel
theorem dX2_takeFrom_28 : decode cX2_takeFrom 28 = .ok (.getfield 33, 3) := by decide +kernel
theorem dX2_takeFrom_31 : decode cX2_takeFrom 31 = .ok (.iload_n 3, 1) := by decide +kernel
theorem dX2_takeFrom_32 : decode cX2_takeFrom 32 = .ok (.dup2, 1) := by decide +kernel
theorem dX2_takeFrom_33 : decode cX2_takeFrom 33 = .ok (.iaload, 1) := by decide +kernel
theorem dX2_takeFrom_34 : decode cX2_takeFrom 34 = .ok (.iload 4, 2) := by decide +kernel
theorem dX2_takeFrom_36 : decode cX2_takeFrom 36 = .ok (.iadd, 1) := by decide +kernel
theorem dX2_takeFrom_37 : decode cX2_takeFrom 37 = .ok (.iastore, 1) := by decide +kernel
theorem dX2_takeFrom_38 : decode cX2_takeFrom 38 = .ok (.iinc 3 1, 3) := by decide +kernel
theorem dX2_takeFrom_41 : decode cX2_takeFrom 41 = .ok (.goto (-39), 3) := by decide +kernel
theorem dX2_takeFrom_44 : decode cX2_takeFrom 44 = .ok (.iconst 0, 1) := by decide +kernel
theorem dX2_takeFrom_45 : decode cX2_takeFrom 45 = .ok (.istore_n 3, 1) := by decide +kernel
theorem dX2_takeFrom_46 : decode cX2_takeFrom 46 = .ok (.iload_n 3, 1) := by decide +kernel
theorem dX2_takeFrom_47 : decode cX2_takeFrom 47 = .ok (.iconst 3, 1) := by decide +kernel
theorem dX2_takeFrom_48 : decode cX2_takeFrom 48 = .ok (.if_icmp .ge 50, 3) := by decide +kernel
theorem dX2_takeFrom_51 : decode cX2_takeFrom 51 = .ok (.aload_n 2, 1) := by decide +kernel
theorem dX2_takeFrom_52 : decode cX2_takeFrom 52 = .ok (.getfield 74, 3) := by decide +kernel
theorem dX2_takeFrom_55 : decode cX2_takeFrom 55 = .ok (.iload_n 3, 1) := by decide +kernel
theorem dX2_takeFrom_56 : decode cX2_takeFrom 56 = .ok (.iaload, 1) := by decide +kernel
theorem dX2_takeFrom_57 : decode cX2_takeFrom 57 = .ok (.istore 4, 2) := by decide +kernel
theorem dX2_takeFrom_59 : decode cX2_takeFrom 59 = .ok (.aload_n 1, 1) := by decide +kernel
theorem dX2_takeFrom_60 : decode cX2_takeFrom 60 = .ok (.getfield 77, 3) := by decide +kernel
theorem dX2_takeFrom_63 : decode cX2_takeFrom 63 = .ok (.iload_n 3, 1) := by decide +kernel
theorem dX2_takeFrom_64 : decode cX2_takeFrom 64 = .ok (.dup2, 1) := by decide +kernel
theorem dX2_takeFrom_65 : decode cX2_takeFrom 65 = .ok (.iaload, 1) := by decide +kernel
theorem dX2_takeFrom_66 : decode cX2_takeFrom 66 = .ok (.iload 4, 2) := by decide +kernel
theorem dX2_takeFrom_68 : decode cX2_takeFrom 68 = .ok (.isub, 1) := by decide +kernel
theorem dX2_takeFrom_69 : decode cX2_takeFrom 69 = .ok (.iastore, 1) := by decide +kernel
theorem dX2_takeFrom_70 : decode cX2_takeFrom 70 = .ok (.aload_n 1, 1) := by decide +kernel
theorem dX2_takeFrom_71 : decode cX2_takeFrom 71 = .ok (.getfield 80, 3) := by decide +kernel
theorem dX2_takeFrom_74 : decode cX2_takeFrom 74 = .ok (.iload_n 3, 1) := by decide +kernel
theorem dX2_takeFrom_75 : decode cX2_takeFrom 75 = .ok (.dup2, 1) := by decide +kernel
theorem dX2_takeFrom_76 : decode cX2_takeFrom 76 = .ok (.iaload, 1) := by decide +kernel
theorem dX2_takeFrom_77 : decode cX2_takeFrom 77 = .ok (.iload 4, 2) := by decide +kernel
theorem dX2_takeFrom_79 : decode cX2_takeFrom 79 = .ok (.iadd, 1) := by decide +kernel
theorem dX2_takeFrom_80 : decode cX2_takeFrom 80 = .ok (.iastore, 1) := by decide +kernel
theorem dX2_takeFrom_81 : decode cX2_takeFrom 81 = .ok (.aload_n 0, 1) := by decide +kernel
theorem dX2_takeFrom_82 : decode cX2_takeFrom 82 = .ok (.getfield 45, 3) := by decide +kernel
theorem dX2_takeFrom_85 : decode cX2_takeFrom 85 = .ok (.iload_n 3, 1) := by decide +kernel
theorem dX2_takeFrom_86 : decode cX2_takeFrom 86 = .ok (.dup2, 1) := by decide +kernel
theorem dX2_takeFrom_87 : decode cX2_takeFrom 87 = .ok (.iaload, 1) := by decide +kernel
theorem dX2_takeFrom_88 : decode cX2_takeFrom 88 = .ok (.iload 4, 2) := by decide +kernel
theorem dX2_takeFrom_90 : decode cX2_takeFrom 90 = .ok (.iadd, 1) := by decide +kernel
theorem dX2_takeFrom_91 : decode cX2_takeFrom 91 = .ok (.iastore, 1) := by decide +kernel
theorem dX2_takeFrom_92 : decode cX2_takeFrom 92 = .ok (.iinc 3 1, 3) := by decide +kernel
theorem dX2_takeFrom_95 : decode cX2_takeFrom 95 = .ok (.goto (-49), 3) := by decide +kernel
theorem dX2_takeFrom_98 : decode cX2_takeFrom 98 = .ok (.return_, 1) := by decide +kernel
theorem dX2_beginMonth_0 : decode cX2_beginMonth 0 = .ok (.aload_n 0, 1) := by decide +kernel
theorem dX2_beginMonth_1 : decode cX2_beginMonth 1 = .ok (.dup, 1) := by decide +kernel
theorem dX2_beginMonth_2 : decode cX2_beginMonth 2 = .ok (.getfield 52, 3) := by decide +kernel
theorem dX2_beginMonth_5 : decode cX2_beginMonth 5 = .ok (.iconst 1, 1) := by decide +kernel
theorem dX2_beginMonth_6 : decode cX2_beginMonth 6 = .ok (.iadd, 1) := by decide +kernel
theorem dX2_beginMonth_7 : decode cX2_beginMonth 7 = .ok (.putfield 52, 3) := by decide +kernel
theorem dX2_beginMonth_10 : decode cX2_beginMonth 10 = .ok (.aload_n 0, 1) := by decide +kernel
theorem dX2_beginMonth_11 : decode cX2_beginMonth 11 = .ok (.getfield 52, 3) := by decide +kernel
theorem dX2_beginMonth_14 : decode cX2_beginMonth 14 = .ok (.bipush 12, 2) := by decide +kernel
theorem dX2_beginMonth_16 : decode cX2_beginMonth 16 = .ok (.irem, 1) := by decide +kernel
theorem dX2_beginMonth_17 : decode cX2_beginMonth 17 = .ok (.ifCond .ne 7, 3) := by decide +kernel
theorem dX2_beginMonth_20 : decode cX2_beginMonth 20 = .ok (.aload_n 0, 1) := by decide +kernel
theorem dX2_beginMonth_21 : decode cX2_beginMonth 21 = .ok (.invokevirtual 83, 3) := by decide +kernel
theorem dX2_beginMonth_24 : decode cX2_beginMonth 24 = .ok (.aload_n 0, 1) := by decide +kernel
theorem dX2_beginMonth_25 : decode cX2_beginMonth 25 = .ok (.getfield 52, 3) := by decide +kernel
theorem dX2_beginMonth_28 : decode cX2_beginMonth 28 = .ok (.bipush 12, 2) := by decide +kernel
theorem dX2_beginMonth_30 : decode cX2_beginMonth 30 = .ok (.irem, 1) := by decide +kernel
theorem dX2_beginMonth_31 : decode cX2_beginMonth 31 = .ok (.iconst 4, 1) := by decide +kernel
theorem dX2_beginMonth_32 : decode cX2_beginMonth 32 = .ok (.if_icmp .ne 17, 3) := by decide +kernel
theorem dX2_beginMonth_35 : decode cX2_beginMonth 35 = .ok (.aload_n 0, 1) := by decide +kernel
theorem dX2_beginMonth_36 : decode cX2_beginMonth 36 = .ok (.invokevirtual 86, 3) := by decide +kernel
theorem dX2_beginMonth_39 : decode cX2_beginMonth 39 = .ok (.ifCond .eq 10, 3) := by decide +kernel
theorem dX2_beginMonth_42 : decode cX2_beginMonth 42 = .ok (.aload_n 0, 1) := by decide +kernel
theorem dX2_beginMonth_43 : decode cX2_beginMonth 43 = .ok (.invokevirtual 90, 3) := by decide +kernel
theorem dX2_beginMonth_46 : decode cX2_beginMonth 46 = .ok (.goto 4, 3) := by decide +kernel
theorem dX2_beginMonth_49 : decode cX2_beginMonth 49 = .ok (.iconst 0, 1) := by decide +kernel
theorem dX2_beginMonth_50 : decode cX2_beginMonth 50 = .ok (.ireturn, 1) := by decide +kernel
theorem dX2_beginYear_0 : decode cX2_beginYear 0 = .ok (.aload_n 0, 1) := by decide +kernel
theorem dX2_beginYear_1 : decode cX2_beginYear 1 = .ok (.getfield 25, 3) := by decide +kernel
theorem dX2_beginYear_4 : decode cX2_beginYear 4 = .ok (.astore_n 1, 1) := by decide +kernel
theorem dX2_beginYear_5 : decode cX2_beginYear 5 = .ok (.aload_n 1, 1) := by decide +kernel
theorem dX2_beginYear_6 : decode cX2_beginYear 6 = .ok (.arraylength, 1) := by decide +kernel
theorem dX2_beginYear_7 : decode cX2_beginYear 7 = .ok (.istore_n 2, 1) := by decide +kernel
theorem dX2_beginYear_8 : decode cX2_beginYear 8 = .ok (.iconst 0, 1) := by decide +kernel
theorem dX2_beginYear_9 : decode cX2_beginYear 9 = .ok (.istore_n 3, 1) := by decide +kernel
theorem dX2_beginYear_10 : decode cX2_beginYear 10 = .ok (.iload_n 3, 1) := by decide +kernel
theorem dX2_beginYear_11 : decode cX2_beginYear 11 = .ok (.iload_n 2, 1) := by decide +kernel
theorem dX2_beginYear_12 : decode cX2_beginYear 12 = .ok (.if_icmp .ge 19, 3) := by decide +kernel
theorem dX2_beginYear_15 : decode cX2_beginYear 15 = .ok (.aload_n 1, 1) := by decide +kernel
theorem dX2_beginYear_16 : decode cX2_beginYear 16 = .ok (.iload_n 3, 1) := by decide +kernel
theorem dX2_beginYear_17 : decode cX2_beginYear 17 = .ok (.aaload, 1) := by decide +kernel
theorem dX2_beginYear_18 : decode cX2_beginYear 18 = .ok (.astore 4, 2) := by decide +kernel
theorem dX2_beginYear_20 : decode cX2_beginYear 20 = .ok (.aload 4, 2) := by decide +kernel
theorem dX2_beginYear_22 : decode cX2_beginYear 22 = .ok (.invokevirtual 93, 3) := by decide +kernel
theorem dX2_beginYear_25 : decode cX2_beginYear 25 = .ok (.iinc 3 1, 3) := by decide +kernel
theorem dX2_beginYear_28 : decode cX2_beginYear 28 = .ok (.goto (-18), 3) := by decide +kernel
theorem dX2_beginYear_31 : decode cX2_beginYear 31 = .ok (.iconst 0, 1) := by decide +kernel
theorem dX2_beginYear_32 : decode cX2_beginYear 32 = .ok (.istore_n 1, 1) := by decide +kernel
theorem dX2_beginYear_33 : decode cX2_beginYear 33 = .ok (.iload_n 1, 1) := by decide +kernel
theorem dX2_beginYear_34 : decode cX2_beginYear 34 = .ok (.bipush 20, 2) := by decide +kernel
theorem dX2_beginYear_36 : decode cX2_beginYear 36 = .ok (.if_icmp .ge 29, 3) := by decide +kernel
theorem dX2_beginYear_39 : decode cX2_beginYear 39 = .ok (.aload_n 0, 1) := by decide +kernel
theorem dX2_beginYear_40 : decode cX2_beginYear 40 = .ok (.invokevirtual 86, 3) := by decide +kernel
theorem dX2_beginYear_43 : decode cX2_beginYear 43 = .ok (.iload_n 1, 1) := by decide +kernel
theorem dX2_beginYear_44 : decode cX2_beginYear 44 = .ok (.aload_n 0, 1) := by decide +kernel
theorem dX2_beginYear_45 : decode cX2_beginYear 45 = .ok (.getfield 18, 3) := by decide +kernel
theorem dX2_beginYear_48 : decode cX2_beginYear 48 = .ok (.iconst 3, 1) := by decide +kernel
theorem dX2_beginYear_49 : decode cX2_beginYear 49 = .ok (.iaload, 1) := by decide +kernel
theorem dX2_beginYear_50 : decode cX2_beginYear 50 = .ok (.iadd, 1) := by decide +kernel
theorem dX2_beginYear_51 : decode cX2_beginYear 51 = .ok (.if_icmp .le 8, 3) := by decide +kernel
theorem dX2_beginYear_54 : decode cX2_beginYear 54 = .ok (.aload_n 0, 1) := by decide +kernel
theorem dX2_beginYear_55 : decode cX2_beginYear 55 = .ok (.iload_n 1, 1) := by decide +kernel
theorem dX2_beginYear_56 : decode cX2_beginYear 56 = .ok (.invokevirtual 96, 3) := by decide +kernel
theorem dX2_beginYear_59 : decode cX2_beginYear 59 = .ok (.iinc 1 1, 3) := by decide +kernel
theorem dX2_beginYear_62 : decode cX2_beginYear 62 = .ok (.goto (-29), 3) := by decide +kernel
theorem dX2_beginYear_65 : decode cX2_beginYear 65 = .ok (.return_, 1) := by decide +kernel
theorem dX2_loseAll_0 : decode cX2_loseAll 0 = .ok (.aload_n 0, 1) := by decide +kernel
theorem dX2_loseAll_1 : decode cX2_loseAll 1 = .ok (.getfield 25, 3) := by decide +kernel
theorem dX2_loseAll_4 : decode cX2_loseAll 4 = .ok (.astore_n 2, 1) := by decide +kernel
theorem dX2_loseAll_5 : decode cX2_loseAll 5 = .ok (.aload_n 2, 1) := by decide +kernel
theorem dX2_loseAll_6 : decode cX2_loseAll 6 = .ok (.arraylength, 1) := by decide +kernel
theorem dX2_loseAll_7 : decode cX2_loseAll 7 = .ok (.istore_n 3, 1) := by decide +kernel
theorem dX2_loseAll_8 : decode cX2_loseAll 8 = .ok (.iconst 0, 1) := by decide +kernel
theorem dX2_loseAll_9 : decode cX2_loseAll 9 = .ok (.istore 4, 2) := by decide +kernel
theorem dX2_loseAll_11 : decode cX2_loseAll 11 = .ok (.iload 4, 2) := by decide +kernel
theorem dX2_loseAll_13 : decode cX2_loseAll 13 = .ok (.iload_n 3, 1) := by decide +kernel
theorem dX2_loseAll_14 : decode cX2_loseAll 14 = .ok (.if_icmp .ge 39, 3) := by decide +kernel
theorem dX2_loseAll_17 : decode cX2_loseAll 17 = .ok (.aload_n 2, 1) := by decide +kernel
theorem dX2_loseAll_18 : decode cX2_loseAll 18 = .ok (.iload 4, 2) := by decide +kernel
theorem dX2_loseAll_20 : decode cX2_loseAll 20 = .ok (.aaload, 1) := by decide +kernel
theorem dX2_loseAll_21 : decode cX2_loseAll 21 = .ok (.astore 5, 2) := by decide +kernel
theorem dX2_loseAll_23 : decode cX2_loseAll 23 = .ok (.aload_n 0, 1) := by decide +kernel
theorem dX2_loseAll_24 : decode cX2_loseAll 24 = .ok (.getfield 39, 3) := by decide +kernel
theorem dX2_loseAll_27 : decode cX2_loseAll 27 = .ok (.iload_n 1, 1) := by decide +kernel
theorem dX2_loseAll_28 : decode cX2_loseAll 28 = .ok (.dup2, 1) := by decide +kernel
theorem dX2_loseAll_29 : decode cX2_loseAll 29 = .ok (.iaload, 1) := by decide +kernel
theorem dX2_loseAll_30 : decode cX2_loseAll 30 = .ok (.aload 5, 2) := by decide +kernel
theorem dX2_loseAll_32 : decode cX2_loseAll 32 = .ok (.getfield 66, 3) := by decide +kernel
theorem dX2_loseAll_35 : decode cX2_loseAll 35 = .ok (.iload_n 1, 1) := by decide +kernel
theorem dX2_loseAll_36 : decode cX2_loseAll 36 = .ok (.iaload, 1) := by decide +kernel
theorem dX2_loseAll_37 : decode cX2_loseAll 37 = .ok (.iadd, 1) := by decide +kernel
theorem dX2_loseAll_38 : decode cX2_loseAll 38 = .ok (.iastore, 1) := by decide +kernel
theorem dX2_loseAll_39 : decode cX2_loseAll 39 = .ok (.aload 5, 2) := by decide +kernel
theorem dX2_loseAll_41 : decode cX2_loseAll 41 = .ok (.getfield 66, 3) := by decide +kernel
theorem dX2_loseAll_44 : decode cX2_loseAll 44 = .ok (.iload_n 1, 1) := by decide +kernel
theorem dX2_loseAll_45 : decode cX2_loseAll 45 = .ok (.iconst 0, 1) := by decide +kernel
theorem dX2_loseAll_46 : decode cX2_loseAll 46 = .ok (.iastore, 1) := by decide +kernel
theorem dX2_loseAll_47 : decode cX2_loseAll 47 = .ok (.iinc 4 1, 3) := by decide +kernel
theorem dX2_loseAll_50 : decode cX2_loseAll 50 = .ok (.goto (-39), 3) := by decide +kernel
theorem dX2_loseAll_53 : decode cX2_loseAll 53 = .ok (.return_, 1) := by decide +kernel
theorem dX2_fineAll_0 : decode cX2_fineAll 0 = .ok (.iconst 0, 1) := by decide +kernel
theorem dX2_fineAll_1 : decode cX2_fineAll 1 = .ok (.istore_n 1, 1) := by decide +kernel
theorem dX2_fineAll_2 : decode cX2_fineAll 2 = .ok (.aload_n 0, 1) := by decide +kernel
theorem dX2_fineAll_3 : decode cX2_fineAll 3 = .ok (.getfield 25, 3) := by decide +kernel
theorem dX2_fineAll_6 : decode cX2_fineAll 6 = .ok (.astore_n 2, 1) := by decide +kernel
theorem dX2_fineAll_7 : decode cX2_fineAll 7 = .ok (.aload_n 2, 1) := by decide +kernel
theorem dX2_fineAll_8 : decode cX2_fineAll 8 = .ok (.arraylength, 1) := by decide +kernel
theorem dX2_fineAll_9 : decode cX2_fineAll 9 = .ok (.istore_n 3, 1) := by decide +kernel
theorem dX2_fineAll_10 : decode cX2_fineAll 10 = .ok (.iconst 0, 1) := by decide +kernel
theorem dX2_fineAll_11 : decode cX2_fineAll 11 = .ok (.istore 4, 2) := by decide +kernel
theorem dX2_fineAll_13 : decode cX2_fineAll 13 = .ok (.iload 4, 2) := by decide +kernel
theorem dX2_fineAll_15 : decode cX2_fineAll 15 = .ok (.iload_n 3, 1) := by decide +kernel
theorem dX2_fineAll_16 : decode cX2_fineAll 16 = .ok (.if_icmp .ge 46, 3) := by decide +kernel
theorem dX2_fineAll_19 : decode cX2_fineAll 19 = .ok (.aload_n 2, 1) := by decide +kernel
theorem dX2_fineAll_20 : decode cX2_fineAll 20 = .ok (.iload 4, 2) := by decide +kernel
theorem dX2_fineAll_22 : decode cX2_fineAll 22 = .ok (.aaload, 1) := by decide +kernel
theorem dX2_fineAll_23 : decode cX2_fineAll 23 = .ok (.astore 5, 2) := by decide +kernel
theorem dX2_fineAll_25 : decode cX2_fineAll 25 = .ok (.aload 5, 2) := by decide +kernel
theorem dX2_fineAll_27 : decode cX2_fineAll 27 = .ok (.getfield 100, 3) := by decide +kernel
theorem dX2_fineAll_30 : decode cX2_fineAll 30 = .ok (.aload_n 0, 1) := by decide +kernel
theorem dX2_fineAll_31 : decode cX2_fineAll 31 = .ok (.getfield 18, 3) := by decide +kernel
theorem dX2_fineAll_34 : decode cX2_fineAll 34 = .ok (.iconst 4, 1) := by decide +kernel
theorem dX2_fineAll_35 : decode cX2_fineAll 35 = .ok (.iaload, 1) := by decide +kernel
theorem dX2_fineAll_36 : decode cX2_fineAll 36 = .ok (.imul, 1) := by decide +kernel
theorem dX2_fineAll_37 : decode cX2_fineAll 37 = .ok (.istore 6, 2) := by decide +kernel
theorem dX2_fineAll_39 : decode cX2_fineAll 39 = .ok (.aload 5, 2) := by decide +kernel
theorem dX2_fineAll_41 : decode cX2_fineAll 41 = .ok (.dup, 1) := by decide +kernel
theorem dX2_fineAll_42 : decode cX2_fineAll 42 = .ok (.getfield 103, 3) := by decide +kernel
theorem dX2_fineAll_45 : decode cX2_fineAll 45 = .ok (.iload 6, 2) := by decide +kernel
theorem dX2_fineAll_47 : decode cX2_fineAll 47 = .ok (.iadd, 1) := by decide +kernel
theorem dX2_fineAll_48 : decode cX2_fineAll 48 = .ok (.putfield 103, 3) := by decide +kernel
theorem dX2_fineAll_51 : decode cX2_fineAll 51 = .ok (.iload_n 1, 1) := by decide +kernel
theorem dX2_fineAll_52 : decode cX2_fineAll 52 = .ok (.iload 6, 2) := by decide +kernel
theorem dX2_fineAll_54 : decode cX2_fineAll 54 = .ok (.iadd, 1) := by decide +kernel
theorem dX2_fineAll_55 : decode cX2_fineAll 55 = .ok (.istore_n 1, 1) := by decide +kernel
theorem dX2_fineAll_56 : decode cX2_fineAll 56 = .ok (.iinc 4 1, 3) := by decide +kernel
theorem dX2_fineAll_59 : decode cX2_fineAll 59 = .ok (.goto (-46), 3) := by decide +kernel
theorem dX2_fineAll_62 : decode cX2_fineAll 62 = .ok (.iload_n 1, 1) := by decide +kernel
theorem dX2_fineAll_63 : decode cX2_fineAll 63 = .ok (.ireturn, 1) := by decide +kernel
theorem dX2_heldOf_0 : decode cX2_heldOf 0 = .ok (.iconst 0, 1) := by decide +kernel
theorem dX2_heldOf_1 : decode cX2_heldOf 1 = .ok (.istore_n 2, 1) := by decide +kernel
theorem dX2_heldOf_2 : decode cX2_heldOf 2 = .ok (.aload_n 0, 1) := by decide +kernel
theorem dX2_heldOf_3 : decode cX2_heldOf 3 = .ok (.getfield 25, 3) := by decide +kernel
theorem dX2_heldOf_6 : decode cX2_heldOf 6 = .ok (.astore_n 3, 1) := by decide +kernel
theorem dX2_heldOf_7 : decode cX2_heldOf 7 = .ok (.aload_n 3, 1) := by decide +kernel
theorem dX2_heldOf_8 : decode cX2_heldOf 8 = .ok (.arraylength, 1) := by decide +kernel
theorem dX2_heldOf_9 : decode cX2_heldOf 9 = .ok (.istore 4, 2) := by decide +kernel
theorem dX2_heldOf_11 : decode cX2_heldOf 11 = .ok (.iconst 0, 1) := by decide +kernel
theorem dX2_heldOf_12 : decode cX2_heldOf 12 = .ok (.istore 5, 2) := by decide +kernel
theorem dX2_heldOf_14 : decode cX2_heldOf 14 = .ok (.iload 5, 2) := by decide +kernel
theorem dX2_heldOf_16 : decode cX2_heldOf 16 = .ok (.iload 4, 2) := by decide +kernel
theorem dX2_heldOf_18 : decode cX2_heldOf 18 = .ok (.if_icmp .ge 25, 3) := by decide +kernel
theorem dX2_heldOf_21 : decode cX2_heldOf 21 = .ok (.aload_n 3, 1) := by decide +kernel
theorem dX2_heldOf_22 : decode cX2_heldOf 22 = .ok (.iload 5, 2) := by decide +kernel
theorem dX2_heldOf_24 : decode cX2_heldOf 24 = .ok (.aaload, 1) := by decide +kernel
theorem dX2_heldOf_25 : decode cX2_heldOf 25 = .ok (.astore 6, 2) := by decide +kernel
theorem dX2_heldOf_27 : decode cX2_heldOf 27 = .ok (.iload_n 2, 1) := by decide +kernel
theorem dX2_heldOf_28 : decode cX2_heldOf 28 = .ok (.aload 6, 2) := by decide +kernel
theorem dX2_heldOf_30 : decode cX2_heldOf 30 = .ok (.getfield 66, 3) := by decide +kernel
theorem dX2_heldOf_33 : decode cX2_heldOf 33 = .ok (.iload_n 1, 1) := by decide +kernel
theorem dX2_heldOf_34 : decode cX2_heldOf 34 = .ok (.iaload, 1) := by decide +kernel
theorem dX2_heldOf_35 : decode cX2_heldOf 35 = .ok (.iadd, 1) := by decide +kernel
theorem dX2_heldOf_36 : decode cX2_heldOf 36 = .ok (.istore_n 2, 1) := by decide +kernel
theorem dX2_heldOf_37 : decode cX2_heldOf 37 = .ok (.iinc 5 1, 3) := by decide +kernel
theorem dX2_heldOf_40 : decode cX2_heldOf 40 = .ok (.goto (-26), 3) := by decide +kernel
theorem dX2_heldOf_43 : decode cX2_heldOf 43 = .ok (.iload_n 2, 1) := by decide +kernel
theorem dX2_heldOf_44 : decode cX2_heldOf 44 = .ok (.ireturn, 1) := by decide +kernel
theorem dX2_holdersOf_0 : decode cX2_holdersOf 0 = .ok (.iconst 0, 1) := by decide +kernel
theorem dX2_holdersOf_1 : decode cX2_holdersOf 1 = .ok (.istore_n 2, 1) := by decide +kernel
theorem dX2_holdersOf_2 : decode cX2_holdersOf 2 = .ok (.aload_n 0, 1) := by decide +kernel
theorem dX2_holdersOf_3 : decode cX2_holdersOf 3 = .ok (.getfield 25, 3) := by decide +kernel
theorem dX2_holdersOf_6 : decode cX2_holdersOf 6 = .ok (.astore_n 3, 1) := by decide +kernel
theorem dX2_holdersOf_7 : decode cX2_holdersOf 7 = .ok (.aload_n 3, 1) := by decide +kernel
theorem dX2_holdersOf_8 : decode cX2_holdersOf 8 = .ok (.arraylength, 1) := by decide +kernel
theorem dX2_holdersOf_9 : decode cX2_holdersOf 9 = .ok (.istore 4, 2) := by decide +kernel
theorem dX2_holdersOf_11 : decode cX2_holdersOf 11 = .ok (.iconst 0, 1) := by decide +kernel
theorem dX2_holdersOf_12 : decode cX2_holdersOf 12 = .ok (.istore 5, 2) := by decide +kernel
theorem dX2_holdersOf_14 : decode cX2_holdersOf 14 = .ok (.iload 5, 2) := by decide +kernel
theorem dX2_holdersOf_16 : decode cX2_holdersOf 16 = .ok (.iload 4, 2) := by decide +kernel
theorem dX2_holdersOf_18 : decode cX2_holdersOf 18 = .ok (.if_icmp .ge 28, 3) := by decide +kernel
theorem dX2_holdersOf_21 : decode cX2_holdersOf 21 = .ok (.aload_n 3, 1) := by decide +kernel
theorem dX2_holdersOf_22 : decode cX2_holdersOf 22 = .ok (.iload 5, 2) := by decide +kernel
theorem dX2_holdersOf_24 : decode cX2_holdersOf 24 = .ok (.aaload, 1) := by decide +kernel
theorem dX2_holdersOf_25 : decode cX2_holdersOf 25 = .ok (.astore 6, 2) := by decide +kernel
theorem dX2_holdersOf_27 : decode cX2_holdersOf 27 = .ok (.aload 6, 2) := by decide +kernel
theorem dX2_holdersOf_29 : decode cX2_holdersOf 29 = .ok (.getfield 66, 3) := by decide +kernel
theorem dX2_holdersOf_32 : decode cX2_holdersOf 32 = .ok (.iload_n 1, 1) := by decide +kernel
theorem dX2_holdersOf_33 : decode cX2_holdersOf 33 = .ok (.iaload, 1) := by decide +kernel
theorem dX2_holdersOf_34 : decode cX2_holdersOf 34 = .ok (.ifCond .le 6, 3) := by decide +kernel
theorem dX2_holdersOf_37 : decode cX2_holdersOf 37 = .ok (.iinc 2 1, 3) := by decide +kernel
theorem dX2_holdersOf_40 : decode cX2_holdersOf 40 = .ok (.iinc 5 1, 3) := by decide +kernel
theorem dX2_holdersOf_43 : decode cX2_holdersOf 43 = .ok (.goto (-29), 3) := by decide +kernel
theorem dX2_holdersOf_46 : decode cX2_holdersOf 46 = .ok (.iload_n 2, 1) := by decide +kernel
theorem dX2_holdersOf_47 : decode cX2_holdersOf 47 = .ok (.ireturn, 1) := by decide +kernel
theorem dX2_offsetsHeldOf_0 : decode cX2_offsetsHeldOf 0 = .ok (.iconst 0, 1) := by decide +kernel
theorem dX2_offsetsHeldOf_1 : decode cX2_offsetsHeldOf 1 = .ok (.istore_n 2, 1) := by decide +kernel
theorem dX2_offsetsHeldOf_2 : decode cX2_offsetsHeldOf 2 = .ok (.aload_n 0, 1) := by decide +kernel
theorem dX2_offsetsHeldOf_3 : decode cX2_offsetsHeldOf 3 = .ok (.getfield 25, 3) := by decide +kernel
theorem dX2_offsetsHeldOf_6 : decode cX2_offsetsHeldOf 6 = .ok (.astore_n 3, 1) := by decide +kernel
theorem dX2_offsetsHeldOf_7 : decode cX2_offsetsHeldOf 7 = .ok (.aload_n 3, 1) := by decide +kernel
theorem dX2_offsetsHeldOf_8 : decode cX2_offsetsHeldOf 8 = .ok (.arraylength, 1) := by decide +kernel
theorem dX2_offsetsHeldOf_9 : decode cX2_offsetsHeldOf 9 = .ok (.istore 4, 2) := by decide +kernel
theorem dX2_offsetsHeldOf_11 : decode cX2_offsetsHeldOf 11 = .ok (.iconst 0, 1) := by decide +kernel
theorem dX2_offsetsHeldOf_12 : decode cX2_offsetsHeldOf 12 = .ok (.istore 5, 2) := by decide +kernel
theorem dX2_offsetsHeldOf_14 : decode cX2_offsetsHeldOf 14 = .ok (.iload 5, 2) := by decide +kernel
theorem dX2_offsetsHeldOf_16 : decode cX2_offsetsHeldOf 16 = .ok (.iload 4, 2) := by decide +kernel
theorem dX2_offsetsHeldOf_18 : decode cX2_offsetsHeldOf 18 = .ok (.if_icmp .ge 25, 3) := by decide +kernel
theorem dX2_offsetsHeldOf_21 : decode cX2_offsetsHeldOf 21 = .ok (.aload_n 3, 1) := by decide +kernel
theorem dX2_offsetsHeldOf_22 : decode cX2_offsetsHeldOf 22 = .ok (.iload 5, 2) := by decide +kernel
theorem dX2_offsetsHeldOf_24 : decode cX2_offsetsHeldOf 24 = .ok (.aaload, 1) := by decide +kernel
theorem dX2_offsetsHeldOf_25 : decode cX2_offsetsHeldOf 25 = .ok (.astore 6, 2) := by decide +kernel
theorem dX2_offsetsHeldOf_27 : decode cX2_offsetsHeldOf 27 = .ok (.iload_n 2, 1) := by decide +kernel
theorem dX2_offsetsHeldOf_28 : decode cX2_offsetsHeldOf 28 = .ok (.aload 6, 2) := by decide +kernel
theorem dX2_offsetsHeldOf_30 : decode cX2_offsetsHeldOf 30 = .ok (.getfield 77, 3) := by decide +kernel
theorem dX2_offsetsHeldOf_33 : decode cX2_offsetsHeldOf 33 = .ok (.iload_n 1, 1) := by decide +kernel
theorem dX2_offsetsHeldOf_34 : decode cX2_offsetsHeldOf 34 = .ok (.iaload, 1) := by decide +kernel
theorem dX2_offsetsHeldOf_35 : decode cX2_offsetsHeldOf 35 = .ok (.iadd, 1) := by decide +kernel
theorem dX2_offsetsHeldOf_36 : decode cX2_offsetsHeldOf 36 = .ok (.istore_n 2, 1) := by decide +kernel
theorem dX2_offsetsHeldOf_37 : decode cX2_offsetsHeldOf 37 = .ok (.iinc 5 1, 3) := by decide +kernel
theorem dX2_offsetsHeldOf_40 : decode cX2_offsetsHeldOf 40 = .ok (.goto (-26), 3) := by decide +kernel
theorem dX2_offsetsHeldOf_43 : decode cX2_offsetsHeldOf 43 = .ok (.iload_n 2, 1) := by decide +kernel
theorem dX2_offsetsHeldOf_44 : decode cX2_offsetsHeldOf 44 = .ok (.ireturn, 1) := by decide +kernel
theorem dX2_monthsUntilLost_0 : decode cX2_monthsUntilLost 0 = .ok (.aload_n 0, 1) := by decide +kernel
theorem dX2_monthsUntilLost_1 : decode cX2_monthsUntilLost 1 = .ok (.iload_n 1, 1) := by decide +kernel
theorem dX2_monthsUntilLost_2 : decode cX2_monthsUntilLost 2 = .ok (.invokevirtual 106, 3) := by decide +kernel
theorem dX2_monthsUntilLost_5 : decode cX2_monthsUntilLost 5 = .ok (.ifCond .ne 6, 3) := by decide +kernel
theorem dX2_monthsUntilLost_8 : decode cX2_monthsUntilLost 8 = .ok (.bipush (-5), 2) := by decide +kernel
theorem dX2_monthsUntilLost_10 : decode cX2_monthsUntilLost 10 = .ok (.ireturn, 1) := by decide +kernel
theorem dX2_monthsUntilLost_11 : decode cX2_monthsUntilLost 11 = .ok (.iload_n 1, 1) := by decide +kernel
theorem dX2_monthsUntilLost_12 : decode cX2_monthsUntilLost 12 = .ok (.aload_n 0, 1) := by decide +kernel
theorem dX2_monthsUntilLost_13 : decode cX2_monthsUntilLost 13 = .ok (.getfield 18, 3) := by decide +kernel
theorem dX2_monthsUntilLost_16 : decode cX2_monthsUntilLost 16 = .ok (.iconst 3, 1) := by decide +kernel
theorem dX2_monthsUntilLost_17 : decode cX2_monthsUntilLost 17 = .ok (.iaload, 1) := by decide +kernel
theorem dX2_monthsUntilLost_18 : decode cX2_monthsUntilLost 18 = .ok (.iadd, 1) := by decide +kernel
theorem dX2_monthsUntilLost_19 : decode cX2_monthsUntilLost 19 = .ok (.aload_n 0, 1) := by decide +kernel
theorem dX2_monthsUntilLost_20 : decode cX2_monthsUntilLost 20 = .ok (.invokevirtual 86, 3) := by decide +kernel
theorem dX2_monthsUntilLost_23 : decode cX2_monthsUntilLost 23 = .ok (.invokestatic 110, 3) := by decide +kernel
theorem dX2_monthsUntilLost_26 : decode cX2_monthsUntilLost 26 = .ok (.iconst 1, 1) := by decide +kernel
theorem dX2_monthsUntilLost_27 : decode cX2_monthsUntilLost 27 = .ok (.iadd, 1) := by decide +kernel
theorem dX2_monthsUntilLost_28 : decode cX2_monthsUntilLost 28 = .ok (.istore_n 2, 1) := by decide +kernel
theorem dX2_monthsUntilLost_29 : decode cX2_monthsUntilLost 29 = .ok (.iload_n 2, 1) := by decide +kernel
theorem dX2_monthsUntilLost_30 : decode cX2_monthsUntilLost 30 = .ok (.bipush 12, 2) := by decide +kernel
theorem dX2_monthsUntilLost_32 : decode cX2_monthsUntilLost 32 = .ok (.imul, 1) := by decide +kernel
theorem dX2_monthsUntilLost_33 : decode cX2_monthsUntilLost 33 = .ok (.aload_n 0, 1) := by decide +kernel
theorem dX2_monthsUntilLost_34 : decode cX2_monthsUntilLost 34 = .ok (.getfield 52, 3) := by decide +kernel
theorem dX2_monthsUntilLost_37 : decode cX2_monthsUntilLost 37 = .ok (.isub, 1) := by decide +kernel
theorem dX2_monthsUntilLost_38 : decode cX2_monthsUntilLost 38 = .ok (.ireturn, 1) := by decide +kernel
theorem dX2_holderAt_0 : decode cX2_holderAt 0 = .ok (.iconst 0, 1) := by decide +kernel
theorem dX2_holderAt_1 : decode cX2_holderAt 1 = .ok (.istore_n 3, 1) := by decide +kernel
theorem dX2_holderAt_2 : decode cX2_holderAt 2 = .ok (.iload_n 3, 1) := by decide +kernel
theorem dX2_holderAt_3 : decode cX2_holderAt 3 = .ok (.bipush 8, 2) := by decide +kernel
theorem dX2_holderAt_5 : decode cX2_holderAt 5 = .ok (.if_icmp .ge 35, 3) := by decide +kernel
theorem dX2_holderAt_8 : decode cX2_holderAt 8 = .ok (.aload_n 0, 1) := by decide +kernel
theorem dX2_holderAt_9 : decode cX2_holderAt 9 = .ok (.getfield 25, 3) := by decide +kernel
theorem dX2_holderAt_12 : decode cX2_holderAt 12 = .ok (.iload_n 3, 1) := by decide +kernel
theorem dX2_holderAt_13 : decode cX2_holderAt 13 = .ok (.aaload, 1) := by decide +kernel
theorem dX2_holderAt_14 : decode cX2_holderAt 14 = .ok (.getfield 66, 3) := by decide +kernel
theorem dX2_holderAt_17 : decode cX2_holderAt 17 = .ok (.iload_n 1, 1) := by decide +kernel
theorem dX2_holderAt_18 : decode cX2_holderAt 18 = .ok (.iaload, 1) := by decide +kernel
theorem dX2_holderAt_19 : decode cX2_holderAt 19 = .ok (.ifCond .le 15, 3) := by decide +kernel
theorem dX2_holderAt_22 : decode cX2_holderAt 22 = .ok (.aload_n 0, 1) := by decide +kernel
theorem dX2_holderAt_23 : decode cX2_holderAt 23 = .ok (.iload_n 1, 1) := by decide +kernel
theorem dX2_holderAt_24 : decode cX2_holderAt 24 = .ok (.iload_n 3, 1) := by decide +kernel
theorem dX2_holderAt_25 : decode cX2_holderAt 25 = .ok (.invokevirtual 116, 3) := by decide +kernel
theorem dX2_holderAt_28 : decode cX2_holderAt 28 = .ok (.iload_n 2, 1) := by decide +kernel
theorem dX2_holderAt_29 : decode cX2_holderAt 29 = .ok (.if_icmp .ne 5, 3) := by decide +kernel
theorem dX2_holderAt_32 : decode cX2_holderAt 32 = .ok (.iload_n 3, 1) := by decide +kernel
theorem dX2_holderAt_33 : decode cX2_holderAt 33 = .ok (.ireturn, 1) := by decide +kernel
theorem dX2_holderAt_34 : decode cX2_holderAt 34 = .ok (.iinc 3 1, 3) := by decide +kernel
theorem dX2_holderAt_37 : decode cX2_holderAt 37 = .ok (.goto (-35), 3) := by decide +kernel
theorem dX2_holderAt_40 : decode cX2_holderAt 40 = .ok (.bipush (-5), 2) := by decide +kernel
theorem dX2_holderAt_42 : decode cX2_holderAt 42 = .ok (.ireturn, 1) := by decide +kernel
theorem dX2_holdersAhead_0 : decode cX2_holdersAhead 0 = .ok (.aload_n 0, 1) := by decide +kernel
theorem dX2_holdersAhead_1 : decode cX2_holdersAhead 1 = .ok (.getfield 25, 3) := by decide +kernel
theorem dX2_holdersAhead_4 : decode cX2_holdersAhead 4 = .ok (.iload_n 2, 1) := by decide +kernel
theorem dX2_holdersAhead_5 : decode cX2_holdersAhead 5 = .ok (.aaload, 1) := by decide +kernel
theorem dX2_holdersAhead_6 : decode cX2_holdersAhead 6 = .ok (.getfield 66, 3) := by decide +kernel
theorem dX2_holdersAhead_9 : decode cX2_holdersAhead 9 = .ok (.iload_n 1, 1) := by decide +kernel
theorem dX2_holdersAhead_10 : decode cX2_holdersAhead 10 = .ok (.iaload, 1) := by decide +kernel
theorem dX2_holdersAhead_11 : decode cX2_holdersAhead 11 = .ok (.istore_n 3, 1) := by decide +kernel
theorem dX2_holdersAhead_12 : decode cX2_holdersAhead 12 = .ok (.iconst 0, 1) := by decide +kernel
theorem dX2_holdersAhead_13 : decode cX2_holdersAhead 13 = .ok (.istore 4, 2) := by decide +kernel
theorem dX2_holdersAhead_15 : decode cX2_holdersAhead 15 = .ok (.iconst 0, 1) := by decide +kernel
theorem dX2_holdersAhead_16 : decode cX2_holdersAhead 16 = .ok (.istore 5, 2) := by decide +kernel
theorem dX2_holdersAhead_18 : decode cX2_holdersAhead 18 = .ok (.iload 5, 2) := by decide +kernel
theorem dX2_holdersAhead_20 : decode cX2_holdersAhead 20 = .ok (.bipush 8, 2) := by decide +kernel
theorem dX2_holdersAhead_22 : decode cX2_holdersAhead 22 = .ok (.if_icmp .ge 44, 3) := by decide +kernel
theorem dX2_holdersAhead_25 : decode cX2_holdersAhead 25 = .ok (.aload_n 0, 1) := by decide +kernel
theorem dX2_holdersAhead_26 : decode cX2_holdersAhead 26 = .ok (.getfield 25, 3) := by decide +kernel
theorem dX2_holdersAhead_29 : decode cX2_holdersAhead 29 = .ok (.iload 5, 2) := by decide +kernel
theorem dX2_holdersAhead_31 : decode cX2_holdersAhead 31 = .ok (.aaload, 1) := by decide +kernel
theorem dX2_holdersAhead_32 : decode cX2_holdersAhead 32 = .ok (.getfield 66, 3) := by decide +kernel
theorem dX2_holdersAhead_35 : decode cX2_holdersAhead 35 = .ok (.iload_n 1, 1) := by decide +kernel
theorem dX2_holdersAhead_36 : decode cX2_holdersAhead 36 = .ok (.iaload, 1) := by decide +kernel
theorem dX2_holdersAhead_37 : decode cX2_holdersAhead 37 = .ok (.istore 6, 2) := by decide +kernel
theorem dX2_holdersAhead_39 : decode cX2_holdersAhead 39 = .ok (.iload 6, 2) := by decide +kernel
theorem dX2_holdersAhead_41 : decode cX2_holdersAhead 41 = .ok (.iload_n 3, 1) := by decide +kernel
theorem dX2_holdersAhead_42 : decode cX2_holdersAhead 42 = .ok (.if_icmp .gt 15, 3) := by decide +kernel
theorem dX2_holdersAhead_45 : decode cX2_holdersAhead 45 = .ok (.iload 6, 2) := by decide +kernel
theorem dX2_holdersAhead_47 : decode cX2_holdersAhead 47 = .ok (.iload_n 3, 1) := by decide +kernel
theorem dX2_holdersAhead_48 : decode cX2_holdersAhead 48 = .ok (.if_icmp .ne 12, 3) := by decide +kernel
theorem dX2_holdersAhead_51 : decode cX2_holdersAhead 51 = .ok (.iload 5, 2) := by decide +kernel
theorem dX2_holdersAhead_53 : decode cX2_holdersAhead 53 = .ok (.iload_n 2, 1) := by decide +kernel
theorem dX2_holdersAhead_54 : decode cX2_holdersAhead 54 = .ok (.if_icmp .ge 6, 3) := by decide +kernel
theorem dX2_holdersAhead_57 : decode cX2_holdersAhead 57 = .ok (.iinc 4 1, 3) := by decide +kernel
theorem dX2_holdersAhead_60 : decode cX2_holdersAhead 60 = .ok (.iinc 5 1, 3) := by decide +kernel
theorem dX2_holdersAhead_63 : decode cX2_holdersAhead 63 = .ok (.goto (-45), 3) := by decide +kernel
theorem dX2_holdersAhead_66 : decode cX2_holdersAhead 66 = .ok (.iload 4, 2) := by decide +kernel
theorem dX2_holdersAhead_68 : decode cX2_holdersAhead 68 = .ok (.ireturn, 1) := by decide +kernel
theorem dX2_allDue_0 : decode cX2_allDue 0 = .ok (.iconst 0, 1) := by decide +kernel
theorem dX2_allDue_1 : decode cX2_allDue 1 = .ok (.istore_n 1, 1) := by decide +kernel
theorem dX2_allDue_2 : decode cX2_allDue 2 = .ok (.aload_n 0, 1) := by decide +kernel
theorem dX2_allDue_3 : decode cX2_allDue 3 = .ok (.getfield 25, 3) := by decide +kernel
theorem dX2_allDue_6 : decode cX2_allDue 6 = .ok (.astore_n 2, 1) := by decide +kernel
theorem dX2_allDue_7 : decode cX2_allDue 7 = .ok (.aload_n 2, 1) := by decide +kernel
theorem dX2_allDue_8 : decode cX2_allDue 8 = .ok (.arraylength, 1) := by decide +kernel
theorem dX2_allDue_9 : decode cX2_allDue 9 = .ok (.istore_n 3, 1) := by decide +kernel
theorem dX2_allDue_10 : decode cX2_allDue 10 = .ok (.iconst 0, 1) := by decide +kernel
theorem dX2_allDue_11 : decode cX2_allDue 11 = .ok (.istore 4, 2) := by decide +kernel
theorem dX2_allDue_13 : decode cX2_allDue 13 = .ok (.iload 4, 2) := by decide +kernel
theorem dX2_allDue_15 : decode cX2_allDue 15 = .ok (.iload_n 3, 1) := by decide +kernel
theorem dX2_allDue_16 : decode cX2_allDue 16 = .ok (.if_icmp .ge 23, 3) := by decide +kernel
theorem dX2_allDue_19 : decode cX2_allDue 19 = .ok (.aload_n 2, 1) := by decide +kernel
theorem dX2_allDue_20 : decode cX2_allDue 20 = .ok (.iload 4, 2) := by decide +kernel
theorem dX2_allDue_22 : decode cX2_allDue 22 = .ok (.aaload, 1) := by decide +kernel
theorem dX2_allDue_23 : decode cX2_allDue 23 = .ok (.astore 5, 2) := by decide +kernel
theorem dX2_allDue_25 : decode cX2_allDue 25 = .ok (.iload_n 1, 1) := by decide +kernel
theorem dX2_allDue_26 : decode cX2_allDue 26 = .ok (.aload 5, 2) := by decide +kernel
theorem dX2_allDue_28 : decode cX2_allDue 28 = .ok (.getfield 100, 3) := by decide +kernel
theorem dX2_allDue_31 : decode cX2_allDue 31 = .ok (.iadd, 1) := by decide +kernel
theorem dX2_allDue_32 : decode cX2_allDue 32 = .ok (.istore_n 1, 1) := by decide +kernel
theorem dX2_allDue_33 : decode cX2_allDue 33 = .ok (.iinc 4 1, 3) := by decide +kernel
theorem dX2_allDue_36 : decode cX2_allDue 36 = .ok (.goto (-23), 3) := by decide +kernel
theorem dX2_allDue_39 : decode cX2_allDue 39 = .ok (.iload_n 1, 1) := by decide +kernel
theorem dX2_allDue_40 : decode cX2_allDue 40 = .ok (.ireturn, 1) := by decide +kernel
theorem dX2_allFines_0 : decode cX2_allFines 0 = .ok (.iconst 0, 1) := by decide +kernel
theorem dX2_allFines_1 : decode cX2_allFines 1 = .ok (.istore_n 1, 1) := by decide +kernel
theorem dX2_allFines_2 : decode cX2_allFines 2 = .ok (.aload_n 0, 1) := by decide +kernel
theorem dX2_allFines_3 : decode cX2_allFines 3 = .ok (.getfield 25, 3) := by decide +kernel
theorem dX2_allFines_6 : decode cX2_allFines 6 = .ok (.astore_n 2, 1) := by decide +kernel
theorem dX2_allFines_7 : decode cX2_allFines 7 = .ok (.aload_n 2, 1) := by decide +kernel
theorem dX2_allFines_8 : decode cX2_allFines 8 = .ok (.arraylength, 1) := by decide +kernel
theorem dX2_allFines_9 : decode cX2_allFines 9 = .ok (.istore_n 3, 1) := by decide +kernel
theorem dX2_allFines_10 : decode cX2_allFines 10 = .ok (.iconst 0, 1) := by decide +kernel
theorem dX2_allFines_11 : decode cX2_allFines 11 = .ok (.istore 4, 2) := by decide +kernel
theorem dX2_allFines_13 : decode cX2_allFines 13 = .ok (.iload 4, 2) := by decide +kernel
theorem dX2_allFines_15 : decode cX2_allFines 15 = .ok (.iload_n 3, 1) := by decide +kernel
theorem dX2_allFines_16 : decode cX2_allFines 16 = .ok (.if_icmp .ge 23, 3) := by decide +kernel
theorem dX2_allFines_19 : decode cX2_allFines 19 = .ok (.aload_n 2, 1) := by decide +kernel
theorem dX2_allFines_20 : decode cX2_allFines 20 = .ok (.iload 4, 2) := by decide +kernel
theorem dX2_allFines_22 : decode cX2_allFines 22 = .ok (.aaload, 1) := by decide +kernel
theorem dX2_allFines_23 : decode cX2_allFines 23 = .ok (.astore 5, 2) := by decide +kernel
theorem dX2_allFines_25 : decode cX2_allFines 25 = .ok (.iload_n 1, 1) := by decide +kernel
theorem dX2_allFines_26 : decode cX2_allFines 26 = .ok (.aload 5, 2) := by decide +kernel
theorem dX2_allFines_28 : decode cX2_allFines 28 = .ok (.getfield 103, 3) := by decide +kernel
theorem dX2_allFines_31 : decode cX2_allFines 31 = .ok (.iadd, 1) := by decide +kernel
theorem dX2_allFines_32 : decode cX2_allFines 32 = .ok (.istore_n 1, 1) := by decide +kernel
theorem dX2_allFines_33 : decode cX2_allFines 33 = .ok (.iinc 4 1, 3) := by decide +kernel
theorem dX2_allFines_36 : decode cX2_allFines 36 = .ok (.goto (-23), 3) := by decide +kernel
theorem dX2_allFines_39 : decode cX2_allFines 39 = .ok (.iload_n 1, 1) := by decide +kernel
theorem dX2_allFines_40 : decode cX2_allFines 40 = .ok (.ireturn, 1) := by decide +kernel
theorem dX2_allHeld_0 : decode cX2_allHeld 0 = .ok (.iconst 0, 1) := by decide +kernel
theorem dX2_allHeld_1 : decode cX2_allHeld 1 = .ok (.istore_n 1, 1) := by decide +kernel
theorem dX2_allHeld_2 : decode cX2_allHeld 2 = .ok (.aload_n 0, 1) := by decide +kernel
theorem dX2_allHeld_3 : decode cX2_allHeld 3 = .ok (.getfield 25, 3) := by decide +kernel
theorem dX2_allHeld_6 : decode cX2_allHeld 6 = .ok (.astore_n 2, 1) := by decide +kernel
theorem dX2_allHeld_7 : decode cX2_allHeld 7 = .ok (.aload_n 2, 1) := by decide +kernel
theorem dX2_allHeld_8 : decode cX2_allHeld 8 = .ok (.arraylength, 1) := by decide +kernel
theorem dX2_allHeld_9 : decode cX2_allHeld 9 = .ok (.istore_n 3, 1) := by decide +kernel
theorem dX2_allHeld_10 : decode cX2_allHeld 10 = .ok (.iconst 0, 1) := by decide +kernel
theorem dX2_allHeld_11 : decode cX2_allHeld 11 = .ok (.istore 4, 2) := by decide +kernel
theorem dX2_allHeld_13 : decode cX2_allHeld 13 = .ok (.iload 4, 2) := by decide +kernel
theorem dX2_allHeld_15 : decode cX2_allHeld 15 = .ok (.iload_n 3, 1) := by decide +kernel
theorem dX2_allHeld_16 : decode cX2_allHeld 16 = .ok (.if_icmp .ge 23, 3) := by decide +kernel
theorem dX2_allHeld_19 : decode cX2_allHeld 19 = .ok (.aload_n 2, 1) := by decide +kernel
theorem dX2_allHeld_20 : decode cX2_allHeld 20 = .ok (.iload 4, 2) := by decide +kernel
theorem dX2_allHeld_22 : decode cX2_allHeld 22 = .ok (.aaload, 1) := by decide +kernel
theorem dX2_allHeld_23 : decode cX2_allHeld 23 = .ok (.astore 5, 2) := by decide +kernel
theorem dX2_allHeld_25 : decode cX2_allHeld 25 = .ok (.iload_n 1, 1) := by decide +kernel
theorem dX2_allHeld_26 : decode cX2_allHeld 26 = .ok (.aload 5, 2) := by decide +kernel
theorem dX2_allHeld_28 : decode cX2_allHeld 28 = .ok (.invokevirtual 119, 3) := by decide +kernel
theorem dX2_allHeld_31 : decode cX2_allHeld 31 = .ok (.iadd, 1) := by decide +kernel
theorem dX2_allHeld_32 : decode cX2_allHeld 32 = .ok (.istore_n 1, 1) := by decide +kernel
theorem dX2_allHeld_33 : decode cX2_allHeld 33 = .ok (.iinc 4 1, 3) := by decide +kernel
theorem dX2_allHeld_36 : decode cX2_allHeld 36 = .ok (.goto (-23), 3) := by decide +kernel
theorem dX2_allHeld_39 : decode cX2_allHeld 39 = .ok (.iload_n 1, 1) := by decide +kernel
theorem dX2_allHeld_40 : decode cX2_allHeld 40 = .ok (.ireturn, 1) := by decide +kernel
theorem dX2_allLost_0 : decode cX2_allLost 0 = .ok (.iconst 0, 1) := by decide +kernel
theorem dX2_allLost_1 : decode cX2_allLost 1 = .ok (.istore_n 1, 1) := by decide +kernel
theorem dX2_allLost_2 : decode cX2_allLost 2 = .ok (.aload_n 0, 1) := by decide +kernel
theorem dX2_allLost_3 : decode cX2_allLost 3 = .ok (.getfield 39, 3) := by decide +kernel
theorem dX2_allLost_6 : decode cX2_allLost 6 = .ok (.astore_n 2, 1) := by decide +kernel
theorem dX2_allLost_7 : decode cX2_allLost 7 = .ok (.aload_n 2, 1) := by decide +kernel
theorem dX2_allLost_8 : decode cX2_allLost 8 = .ok (.arraylength, 1) := by decide +kernel
theorem dX2_allLost_9 : decode cX2_allLost 9 = .ok (.istore_n 3, 1) := by decide +kernel
theorem dX2_allLost_10 : decode cX2_allLost 10 = .ok (.iconst 0, 1) := by decide +kernel
theorem dX2_allLost_11 : decode cX2_allLost 11 = .ok (.istore 4, 2) := by decide +kernel
theorem dX2_allLost_13 : decode cX2_allLost 13 = .ok (.iload 4, 2) := by decide +kernel
theorem dX2_allLost_15 : decode cX2_allLost 15 = .ok (.iload_n 3, 1) := by decide +kernel
theorem dX2_allLost_16 : decode cX2_allLost 16 = .ok (.if_icmp .ge 20, 3) := by decide +kernel
theorem dX2_allLost_19 : decode cX2_allLost 19 = .ok (.aload_n 2, 1) := by decide +kernel
theorem dX2_allLost_20 : decode cX2_allLost 20 = .ok (.iload 4, 2) := by decide +kernel
theorem dX2_allLost_22 : decode cX2_allLost 22 = .ok (.iaload, 1) := by decide +kernel
theorem dX2_allLost_23 : decode cX2_allLost 23 = .ok (.istore 5, 2) := by decide +kernel
theorem dX2_allLost_25 : decode cX2_allLost 25 = .ok (.iload_n 1, 1) := by decide +kernel
theorem dX2_allLost_26 : decode cX2_allLost 26 = .ok (.iload 5, 2) := by decide +kernel
theorem dX2_allLost_28 : decode cX2_allLost 28 = .ok (.iadd, 1) := by decide +kernel
theorem dX2_allLost_29 : decode cX2_allLost 29 = .ok (.istore_n 1, 1) := by decide +kernel
theorem dX2_allLost_30 : decode cX2_allLost 30 = .ok (.iinc 4 1, 3) := by decide +kernel
theorem dX2_allLost_33 : decode cX2_allLost 33 = .ok (.goto (-20), 3) := by decide +kernel
theorem dX2_allLost_36 : decode cX2_allLost 36 = .ok (.iload_n 1, 1) := by decide +kernel
theorem dX2_allLost_37 : decode cX2_allLost 37 = .ok (.ireturn, 1) := by decide +kernel
theorem dX2_monthsUntilDeadline_0 : decode cX2_monthsUntilDeadline 0 = .ok (.aload_n 0, 1) := by decide +kernel
theorem dX2_monthsUntilDeadline_1 : decode cX2_monthsUntilDeadline 1 = .ok (.getfield 52, 3) := by decide +kernel
theorem dX2_monthsUntilDeadline_4 : decode cX2_monthsUntilDeadline 4 = .ok (.bipush 12, 2) := by decide +kernel
theorem dX2_monthsUntilDeadline_6 : decode cX2_monthsUntilDeadline 6 = .ok (.irem, 1) := by decide +kernel
theorem dX2_monthsUntilDeadline_7 : decode cX2_monthsUntilDeadline 7 = .ok (.istore_n 1, 1) := by decide +kernel
theorem dX2_monthsUntilDeadline_8 : decode cX2_monthsUntilDeadline 8 = .ok (.iload_n 1, 1) := by decide +kernel
theorem dX2_monthsUntilDeadline_9 : decode cX2_monthsUntilDeadline 9 = .ok (.iconst 4, 1) := by decide +kernel
theorem dX2_monthsUntilDeadline_10 : decode cX2_monthsUntilDeadline 10 = .ok (.if_icmp .ge 14, 3) := by decide +kernel
theorem dX2_monthsUntilDeadline_13 : decode cX2_monthsUntilDeadline 13 = .ok (.aload_n 0, 1) := by decide +kernel
theorem dX2_monthsUntilDeadline_14 : decode cX2_monthsUntilDeadline 14 = .ok (.invokevirtual 86, 3) := by decide +kernel
theorem dX2_monthsUntilDeadline_17 : decode cX2_monthsUntilDeadline 17 = .ok (.ifCond .eq 7, 3) := by decide +kernel
theorem dX2_monthsUntilDeadline_20 : decode cX2_monthsUntilDeadline 20 = .ok (.iconst 1, 1) := by decide +kernel
theorem dX2_monthsUntilDeadline_21 : decode cX2_monthsUntilDeadline 21 = .ok (.goto 4, 3) := by decide +kernel
theorem dX2_monthsUntilDeadline_24 : decode cX2_monthsUntilDeadline 24 = .ok (.iconst 0, 1) := by decide +kernel
theorem dX2_monthsUntilDeadline_25 : decode cX2_monthsUntilDeadline 25 = .ok (.istore_n 2, 1) := by decide +kernel
theorem dX2_monthsUntilDeadline_26 : decode cX2_monthsUntilDeadline 26 = .ok (.iload_n 2, 1) := by decide +kernel
theorem dX2_monthsUntilDeadline_27 : decode cX2_monthsUntilDeadline 27 = .ok (.ifCond .eq 9, 3) := by decide +kernel
theorem dX2_monthsUntilDeadline_30 : decode cX2_monthsUntilDeadline 30 = .ok (.iconst 4, 1) := by decide +kernel
theorem dX2_monthsUntilDeadline_31 : decode cX2_monthsUntilDeadline 31 = .ok (.iload_n 1, 1) := by decide +kernel
theorem dX2_monthsUntilDeadline_32 : decode cX2_monthsUntilDeadline 32 = .ok (.isub, 1) := by decide +kernel
theorem dX2_monthsUntilDeadline_33 : decode cX2_monthsUntilDeadline 33 = .ok (.goto 7, 3) := by decide +kernel
theorem dX2_monthsUntilDeadline_36 : decode cX2_monthsUntilDeadline 36 = .ok (.bipush 16, 2) := by decide +kernel
theorem dX2_monthsUntilDeadline_38 : decode cX2_monthsUntilDeadline 38 = .ok (.iload_n 1, 1) := by decide +kernel
theorem dX2_monthsUntilDeadline_39 : decode cX2_monthsUntilDeadline 39 = .ok (.isub, 1) := by decide +kernel
theorem dX2_monthsUntilDeadline_40 : decode cX2_monthsUntilDeadline 40 = .ok (.ireturn, 1) := by decide +kernel
theorem dX3_init_0 : decode cX3_init 0 = .ok (.aload_n 0, 1) := by decide +kernel
theorem dX3_init_1 : decode cX3_init 1 = .ok (.invokespecial 3, 3) := by decide +kernel
theorem dX3_init_4 : decode cX3_init 4 = .ok (.aload_n 0, 1) := by decide +kernel
theorem dX3_init_5 : decode cX3_init 5 = .ok (.bipush 20, 2) := by decide +kernel
theorem dX3_init_7 : decode cX3_init 7 = .ok (.newarray .int, 2) := by decide +kernel
theorem dX3_init_9 : decode cX3_init 9 = .ok (.putfield 9, 3) := by decide +kernel
theorem dX3_init_12 : decode cX3_init 12 = .ok (.aload_n 0, 1) := by decide +kernel
theorem dX3_init_13 : decode cX3_init 13 = .ok (.iconst 3, 1) := by decide +kernel
theorem dX3_init_14 : decode cX3_init 14 = .ok (.newarray .int, 2) := by decide +kernel
theorem dX3_init_16 : decode cX3_init 16 = .ok (.putfield 15, 3) := by decide +kernel
theorem dX3_init_19 : decode cX3_init 19 = .ok (.return_, 1) := by decide +kernel
theorem dX3_workOut_0 : decode cX3_workOut 0 = .ok (.aload_n 0, 1) := by decide +kernel
theorem dX3_workOut_1 : decode cX3_workOut 1 = .ok (.iload_n 3, 1) := by decide +kernel
theorem dX3_workOut_2 : decode cX3_workOut 2 = .ok (.putfield 18, 3) := by decide +kernel
theorem dX3_workOut_5 : decode cX3_workOut 5 = .ok (.aload_n 0, 1) := by decide +kernel
theorem dX3_workOut_6 : decode cX3_workOut 6 = .ok (.iconst 0, 1) := by decide +kernel
theorem dX3_workOut_7 : decode cX3_workOut 7 = .ok (.putfield 22, 3) := by decide +kernel
theorem dX3_workOut_10 : decode cX3_workOut 10 = .ok (.aload_n 0, 1) := by decide +kernel
theorem dX3_workOut_11 : decode cX3_workOut 11 = .ok (.iconst 0, 1) := by decide +kernel
theorem dX3_workOut_12 : decode cX3_workOut 12 = .ok (.putfield 25, 3) := by decide +kernel
theorem dX3_workOut_15 : decode cX3_workOut 15 = .ok (.aload_n 0, 1) := by decide +kernel
theorem dX3_workOut_16 : decode cX3_workOut 16 = .ok (.bipush (-5), 2) := by decide +kernel
theorem dX3_workOut_18 : decode cX3_workOut 18 = .ok (.putfield 28, 3) := by decide +kernel
theorem dX3_workOut_21 : decode cX3_workOut 21 = .ok (.iconst 2, 1) := by decide +kernel
theorem dX3_workOut_22 : decode cX3_workOut 22 = .ok (.istore 5, 2) := by decide +kernel
theorem dX3_workOut_24 : decode cX3_workOut 24 = .ok (.iload 5, 2) := by decide +kernel
theorem dX3_workOut_26 : decode cX3_workOut 26 = .ok (.ifCond .lt 63, 3) := by decide +kernel
theorem dX3_workOut_29 : decode cX3_workOut 29 = .ok (.iload 4, 2) := by decide +kernel
theorem dX3_workOut_31 : decode cX3_workOut 31 = .ok (.iconst 2, 1) := by decide +kernel
theorem dX3_workOut_32 : decode cX3_workOut 32 = .ok (.if_icmp .ne 16, 3) := by decide +kernel
theorem dX3_workOut_35 : decode cX3_workOut 35 = .ok (.aload_n 1, 1) := by decide +kernel
theorem dX3_workOut_36 : decode cX3_workOut 36 = .ok (.iload 5, 2) := by decide +kernel
theorem dX3_workOut_38 : decode cX3_workOut 38 = .ok (.aload_n 2, 1) := by decide +kernel
theorem dX3_workOut_39 : decode cX3_workOut 39 = .ok (.iload 5, 2) := by decide +kernel
theorem dX3_workOut_41 : decode cX3_workOut 41 = .ok (.iaload, 1) := by decide +kernel
theorem dX3_workOut_42 : decode cX3_workOut 42 = .ok (.invokevirtual 31, 3) := by decide +kernel
theorem dX3_workOut_45 : decode cX3_workOut 45 = .ok (.goto 4, 3) := by decide +kernel
theorem dX3_workOut_48 : decode cX3_workOut 48 = .ok (.iconst 0, 1) := by decide +kernel
theorem dX3_workOut_49 : decode cX3_workOut 49 = .ok (.istore 6, 2) := by decide +kernel
theorem dX3_workOut_51 : decode cX3_workOut 51 = .ok (.aload_n 0, 1) := by decide +kernel
theorem dX3_workOut_52 : decode cX3_workOut 52 = .ok (.getfield 15, 3) := by decide +kernel
theorem dX3_workOut_55 : decode cX3_workOut 55 = .ok (.iload 5, 2) := by decide +kernel
theorem dX3_workOut_57 : decode cX3_workOut 57 = .ok (.aload_n 0, 1) := by decide +kernel
theorem dX3_workOut_58 : decode cX3_workOut 58 = .ok (.getfield 18, 3) := by decide +kernel
theorem dX3_workOut_61 : decode cX3_workOut 61 = .ok (.iload 6, 2) := by decide +kernel
theorem dX3_workOut_63 : decode cX3_workOut 63 = .ok (.invokestatic 37, 3) := by decide +kernel
theorem dX3_workOut_66 : decode cX3_workOut 66 = .ok (.iastore, 1) := by decide +kernel
theorem dX3_workOut_67 : decode cX3_workOut 67 = .ok (.aload_n 0, 1) := by decide +kernel
theorem dX3_workOut_68 : decode cX3_workOut 68 = .ok (.dup, 1) := by decide +kernel
theorem dX3_workOut_69 : decode cX3_workOut 69 = .ok (.getfield 18, 3) := by decide +kernel
theorem dX3_workOut_72 : decode cX3_workOut 72 = .ok (.aload_n 0, 1) := by decide +kernel
theorem dX3_workOut_73 : decode cX3_workOut 73 = .ok (.getfield 15, 3) := by decide +kernel
theorem dX3_workOut_76 : decode cX3_workOut 76 = .ok (.iload 5, 2) := by decide +kernel
theorem dX3_workOut_78 : decode cX3_workOut 78 = .ok (.iaload, 1) := by decide +kernel
theorem dX3_workOut_79 : decode cX3_workOut 79 = .ok (.isub, 1) := by decide +kernel
theorem dX3_workOut_80 : decode cX3_workOut 80 = .ok (.putfield 18, 3) := by decide +kernel
theorem dX3_workOut_83 : decode cX3_workOut 83 = .ok (.iinc 5 (-1), 3) := by decide +kernel
theorem dX3_workOut_86 : decode cX3_workOut 86 = .ok (.goto (-62), 3) := by decide +kernel
theorem dX3_workOut_89 : decode cX3_workOut 89 = .ok (.iconst 0, 1) := by decide +kernel
theorem dX3_workOut_90 : decode cX3_workOut 90 = .ok (.istore 5, 2) := by decide +kernel
theorem dX3_workOut_92 : decode cX3_workOut 92 = .ok (.iload 5, 2) := by decide +kernel
theorem dX3_workOut_94 : decode cX3_workOut 94 = .ok (.bipush 20, 2) := by decide +kernel
theorem dX3_workOut_96 : decode cX3_workOut 96 = .ok (.if_icmp .ge 30, 3) := by decide +kernel
theorem dX3_workOut_99 : decode cX3_workOut 99 = .ok (.aload_n 0, 1) := by decide +kernel
theorem dX3_workOut_100 : decode cX3_workOut 100 = .ok (.aload_n 1, 1) := by decide +kernel
theorem dX3_workOut_101 : decode cX3_workOut 101 = .ok (.iload 4, 2) := by decide +kernel
theorem dX3_workOut_103 : decode cX3_workOut 103 = .ok (.iconst 1, 1) := by decide +kernel
theorem dX3_workOut_104 : decode cX3_workOut 104 = .ok (.if_icmp .ne 11, 3) := by decide +kernel
theorem dX3_workOut_107 : decode cX3_workOut 107 = .ok (.bipush 19, 2) := by decide +kernel
theorem dX3_workOut_109 : decode cX3_workOut 109 = .ok (.iload 5, 2) := by decide +kernel
theorem dX3_workOut_111 : decode cX3_workOut 111 = .ok (.isub, 1) := by decide +kernel
theorem dX3_workOut_112 : decode cX3_workOut 112 = .ok (.goto 5, 3) := by decide +kernel
theorem dX3_workOut_115 : decode cX3_workOut 115 = .ok (.iload 5, 2) := by decide +kernel
theorem dX3_workOut_117 : decode cX3_workOut 117 = .ok (.invokevirtual 42, 3) := by decide +kernel
theorem dX3_workOut_120 : decode cX3_workOut 120 = .ok (.iinc 5 1, 3) := by decide +kernel
theorem dX3_workOut_123 : decode cX3_workOut 123 = .ok (.goto (-31), 3) := by decide +kernel
theorem dX3_workOut_126 : decode cX3_workOut 126 = .ok (.return_, 1) := by decide +kernel
theorem dX3_takeVintage_0 : decode cX3_takeVintage 0 = .ok (.aload_n 0, 1) := by decide +kernel
theorem dX3_takeVintage_1 : decode cX3_takeVintage 1 = .ok (.getfield 18, 3) := by decide +kernel
theorem dX3_takeVintage_4 : decode cX3_takeVintage 4 = .ok (.aload_n 1, 1) := by decide +kernel
theorem dX3_takeVintage_5 : decode cX3_takeVintage 5 = .ok (.getfield 46, 3) := by decide +kernel
theorem dX3_takeVintage_8 : decode cX3_takeVintage 8 = .ok (.iload_n 2, 1) := by decide +kernel
theorem dX3_takeVintage_9 : decode cX3_takeVintage 9 = .ok (.iaload, 1) := by decide +kernel
theorem dX3_takeVintage_10 : decode cX3_takeVintage 10 = .ok (.invokestatic 37, 3) := by decide +kernel
theorem dX3_takeVintage_13 : decode cX3_takeVintage 13 = .ok (.istore_n 3, 1) := by decide +kernel
theorem dX3_takeVintage_14 : decode cX3_takeVintage 14 = .ok (.aload_n 0, 1) := by decide +kernel
theorem dX3_takeVintage_15 : decode cX3_takeVintage 15 = .ok (.getfield 9, 3) := by decide +kernel
theorem dX3_takeVintage_18 : decode cX3_takeVintage 18 = .ok (.iload_n 2, 1) := by decide +kernel
theorem dX3_takeVintage_19 : decode cX3_takeVintage 19 = .ok (.iload_n 3, 1) := by decide +kernel
theorem dX3_takeVintage_20 : decode cX3_takeVintage 20 = .ok (.iastore, 1) := by decide +kernel
theorem dX3_takeVintage_21 : decode cX3_takeVintage 21 = .ok (.iload_n 3, 1) := by decide +kernel
theorem dX3_takeVintage_22 : decode cX3_takeVintage 22 = .ok (.ifCond .ne 4, 3) := by decide +kernel
theorem dX3_takeVintage_25 : decode cX3_takeVintage 25 = .ok (.return_, 1) := by decide +kernel
theorem dX3_takeVintage_26 : decode cX3_takeVintage 26 = .ok (.aload_n 0, 1) := by decide +kernel
theorem dX3_takeVintage_27 : decode cX3_takeVintage 27 = .ok (.getfield 25, 3) := by decide +kernel
theorem dX3_takeVintage_30 : decode cX3_takeVintage 30 = .ok (.ifCond .ne 8, 3) := by decide +kernel
theorem dX3_takeVintage_33 : decode cX3_takeVintage 33 = .ok (.aload_n 0, 1) := by decide +kernel
theorem dX3_takeVintage_34 : decode cX3_takeVintage 34 = .ok (.iload_n 2, 1) := by decide +kernel
theorem dX3_takeVintage_35 : decode cX3_takeVintage 35 = .ok (.putfield 28, 3) := by decide +kernel
theorem dX3_takeVintage_38 : decode cX3_takeVintage 38 = .ok (.aload_n 0, 1) := by decide +kernel
theorem dX3_takeVintage_39 : decode cX3_takeVintage 39 = .ok (.dup, 1) := by decide +kernel
theorem dX3_takeVintage_40 : decode cX3_takeVintage 40 = .ok (.getfield 25, 3) := by decide +kernel
theorem dX3_takeVintage_43 : decode cX3_takeVintage 43 = .ok (.iconst 1, 1) := by decide +kernel
theorem dX3_takeVintage_44 : decode cX3_takeVintage 44 = .ok (.iadd, 1) := by decide +kernel
theorem dX3_takeVintage_45 : decode cX3_takeVintage 45 = .ok (.putfield 25, 3) := by decide +kernel
theorem dX3_takeVintage_48 : decode cX3_takeVintage 48 = .ok (.aload_n 0, 1) := by decide +kernel
theorem dX3_takeVintage_49 : decode cX3_takeVintage 49 = .ok (.dup, 1) := by decide +kernel
theorem dX3_takeVintage_50 : decode cX3_takeVintage 50 = .ok (.getfield 22, 3) := by decide +kernel
theorem dX3_takeVintage_53 : decode cX3_takeVintage 53 = .ok (.iload_n 3, 1) := by decide +kernel
theorem dX3_takeVintage_54 : decode cX3_takeVintage 54 = .ok (.iadd, 1) := by decide +kernel
theorem dX3_takeVintage_55 : decode cX3_takeVintage 55 = .ok (.putfield 22, 3) := by decide +kernel
theorem dX3_takeVintage_58 : decode cX3_takeVintage 58 = .ok (.aload_n 0, 1) := by decide +kernel
theorem dX3_takeVintage_59 : decode cX3_takeVintage 59 = .ok (.dup, 1) := by decide +kernel
theorem dX3_takeVintage_60 : decode cX3_takeVintage 60 = .ok (.getfield 18, 3) := by decide +kernel
theorem dX3_takeVintage_63 : decode cX3_takeVintage 63 = .ok (.iload_n 3, 1) := by decide +kernel
theorem dX3_takeVintage_64 : decode cX3_takeVintage 64 = .ok (.isub, 1) := by decide +kernel
theorem dX3_takeVintage_65 : decode cX3_takeVintage 65 = .ok (.putfield 18, 3) := by decide +kernel
theorem dX3_takeVintage_68 : decode cX3_takeVintage 68 = .ok (.return_, 1) := by decide +kernel
theorem dX4_init_0 : decode cX4_init 0 = .ok (.aload_n 0, 1) := by decide +kernel
theorem dX4_init_1 : decode cX4_init 1 = .ok (.invokespecial 3, 3) := by decide +kernel
theorem dX4_init_4 : decode cX4_init 4 = .ok (.aload_n 0, 1) := by decide +kernel
theorem dX4_init_5 : decode cX4_init 5 = .ok (.bipush 60, 2) := by decide +kernel
theorem dX4_init_7 : decode cX4_init 7 = .ok (.newarray .char, 2) := by decide +kernel
theorem dX4_init_9 : decode cX4_init 9 = .ok (.putfield 9, 3) := by decide +kernel
theorem dX4_init_12 : decode cX4_init 12 = .ok (.aload_n 0, 1) := by decide +kernel
theorem dX4_init_13 : decode cX4_init 13 = .ok (.bipush 8, 2) := by decide +kernel
theorem dX4_init_15 : decode cX4_init 15 = .ok (.newarray .int, 2) := by decide +kernel
theorem dX4_init_17 : decode cX4_init 17 = .ok (.putfield 15, 3) := by decide +kernel
theorem dX4_init_20 : decode cX4_init 20 = .ok (.aload_n 0, 1) := by decide +kernel
theorem dX4_init_21 : decode cX4_init 21 = .ok (.bipush 8, 2) := by decide +kernel
theorem dX4_init_23 : decode cX4_init 23 = .ok (.newarray .int, 2) := by decide +kernel
theorem dX4_init_25 : decode cX4_init 25 = .ok (.putfield 19, 3) := by decide +kernel
theorem dX4_init_28 : decode cX4_init 28 = .ok (.aload_n 0, 1) := by decide +kernel
theorem dX4_init_29 : decode cX4_init 29 = .ok (.bipush 8, 2) := by decide +kernel
theorem dX4_init_31 : decode cX4_init 31 = .ok (.newarray .int, 2) := by decide +kernel
theorem dX4_init_33 : decode cX4_init 33 = .ok (.putfield 22, 3) := by decide +kernel
theorem dX4_init_36 : decode cX4_init 36 = .ok (.aload_n 0, 1) := by decide +kernel
theorem dX4_init_37 : decode cX4_init 37 = .ok (.bipush 8, 2) := by decide +kernel
theorem dX4_init_39 : decode cX4_init 39 = .ok (.newarray .int, 2) := by decide +kernel
theorem dX4_init_41 : decode cX4_init 41 = .ok (.putfield 25, 3) := by decide +kernel
theorem dX4_init_44 : decode cX4_init 44 = .ok (.return_, 1) := by decide +kernel
theorem dX4_readAll_0 : decode cX4_readAll 0 = .ok (.aload_n 0, 1) := by decide +kernel
theorem dX4_readAll_1 : decode cX4_readAll 1 = .ok (.iconst 0, 1) := by decide +kernel
theorem dX4_readAll_2 : decode cX4_readAll 2 = .ok (.putfield 28, 3) := by decide +kernel
theorem dX4_readAll_5 : decode cX4_readAll 5 = .ok (.aload_n 0, 1) := by decide +kernel
theorem dX4_readAll_6 : decode cX4_readAll 6 = .ok (.iconst 0, 1) := by decide +kernel
theorem dX4_readAll_7 : decode cX4_readAll 7 = .ok (.putfield 32, 3) := by decide +kernel
theorem dX4_readAll_10 : decode cX4_readAll 10 = .ok (.iconst 0, 1) := by decide +kernel
theorem dX4_readAll_11 : decode cX4_readAll 11 = .ok (.istore_n 1, 1) := by decide +kernel
theorem dX4_readAll_12 : decode cX4_readAll 12 = .ok (.iload_n 1, 1) := by decide +kernel
theorem dX4_readAll_13 : decode cX4_readAll 13 = .ok (.bipush 8, 2) := by decide +kernel
theorem dX4_readAll_15 : decode cX4_readAll 15 = .ok (.if_icmp .ge 50, 3) := by decide +kernel
theorem dX4_readAll_18 : decode cX4_readAll 18 = .ok (.aload_n 0, 1) := by decide +kernel
theorem dX4_readAll_19 : decode cX4_readAll 19 = .ok (.iload_n 1, 1) := by decide +kernel
theorem dX4_readAll_20 : decode cX4_readAll 20 = .ok (.invokevirtual 35, 3) := by decide +kernel
theorem dX4_readAll_23 : decode cX4_readAll 23 = .ok (.ifCond .ne 5, 3) := by decide +kernel
theorem dX4_readAll_26 : decode cX4_readAll 26 = .ok (.iconst 0, 1) := by decide +kernel
theorem dX4_readAll_27 : decode cX4_readAll 27 = .ok (.ireturn, 1) := by decide +kernel
theorem dX4_readAll_28 : decode cX4_readAll 28 = .ok (.aload_n 0, 1) := by decide +kernel
theorem dX4_readAll_29 : decode cX4_readAll 29 = .ok (.iload_n 1, 1) := by decide +kernel
theorem dX4_readAll_30 : decode cX4_readAll 30 = .ok (.iconst 1, 1) := by decide +kernel
theorem dX4_readAll_31 : decode cX4_readAll 31 = .ok (.iadd, 1) := by decide +kernel
theorem dX4_readAll_32 : decode cX4_readAll 32 = .ok (.putfield 32, 3) := by decide +kernel
theorem dX4_readAll_35 : decode cX4_readAll 35 = .ok (.aload_n 0, 1) := by decide +kernel
theorem dX4_readAll_36 : decode cX4_readAll 36 = .ok (.getfield 28, 3) := by decide +kernel
theorem dX4_readAll_39 : decode cX4_readAll 39 = .ok (.aload_n 0, 1) := by decide +kernel
theorem dX4_readAll_40 : decode cX4_readAll 40 = .ok (.getfield 39, 3) := by decide +kernel
theorem dX4_readAll_43 : decode cX4_readAll 43 = .ok (.if_icmp .ne 5, 3) := by decide +kernel
theorem dX4_readAll_46 : decode cX4_readAll 46 = .ok (.iconst 1, 1) := by decide +kernel
theorem dX4_readAll_47 : decode cX4_readAll 47 = .ok (.ireturn, 1) := by decide +kernel
theorem dX4_readAll_48 : decode cX4_readAll 48 = .ok (.aload_n 0, 1) := by decide +kernel
theorem dX4_readAll_49 : decode cX4_readAll 49 = .ok (.bipush 59, 2) := by decide +kernel
theorem dX4_readAll_51 : decode cX4_readAll 51 = .ok (.invokevirtual 42, 3) := by decide +kernel
theorem dX4_readAll_54 : decode cX4_readAll 54 = .ok (.ifCond .ne 5, 3) := by decide +kernel
theorem dX4_readAll_57 : decode cX4_readAll 57 = .ok (.iconst 0, 1) := by decide +kernel
theorem dX4_readAll_58 : decode cX4_readAll 58 = .ok (.ireturn, 1) := by decide +kernel
theorem dX4_readAll_59 : decode cX4_readAll 59 = .ok (.iinc 1 1, 3) := by decide +kernel
theorem dX4_readAll_62 : decode cX4_readAll 62 = .ok (.goto (-50), 3) := by decide +kernel
theorem dX4_readAll_65 : decode cX4_readAll 65 = .ok (.iconst 0, 1) := by decide +kernel
theorem dX4_readAll_66 : decode cX4_readAll 66 = .ok (.ireturn, 1) := by decide +kernel
theorem dX4_readOne_0 : decode cX4_readOne 0 = .ok (.aload_n 0, 1) := by decide +kernel
theorem dX4_readOne_1 : decode cX4_readOne 1 = .ok (.getfield 15, 3) := by decide +kernel
theorem dX4_readOne_4 : decode cX4_readOne 4 = .ok (.iload_n 1, 1) := by decide +kernel
theorem dX4_readOne_5 : decode cX4_readOne 5 = .ok (.aload_n 0, 1) := by decide +kernel
theorem dX4_readOne_6 : decode cX4_readOne 6 = .ok (.iconst 1, 1) := by decide +kernel
theorem dX4_readOne_7 : decode cX4_readOne 7 = .ok (.iconst 1, 1) := by decide +kernel
theorem dX4_readOne_8 : decode cX4_readOne 8 = .ok (.invokevirtual 46, 3) := by decide +kernel
theorem dX4_readOne_11 : decode cX4_readOne 11 = .ok (.iastore, 1) := by decide +kernel
theorem dX4_readOne_12 : decode cX4_readOne 12 = .ok (.aload_n 0, 1) := by decide +kernel
theorem dX4_readOne_13 : decode cX4_readOne 13 = .ok (.getfield 15, 3) := by decide +kernel
theorem dX4_readOne_16 : decode cX4_readOne 16 = .ok (.iload_n 1, 1) := by decide +kernel
theorem dX4_readOne_17 : decode cX4_readOne 17 = .ok (.iaload, 1) := by decide +kernel
theorem dX4_readOne_18 : decode cX4_readOne 18 = .ok (.ifCond .lt 12, 3) := by decide +kernel
theorem dX4_readOne_21 : decode cX4_readOne 21 = .ok (.aload_n 0, 1) := by decide +kernel
theorem dX4_readOne_22 : decode cX4_readOne 22 = .ok (.bipush 62, 2) := by decide +kernel
theorem dX4_readOne_24 : decode cX4_readOne 24 = .ok (.invokevirtual 42, 3) := by decide +kernel
theorem dX4_readOne_27 : decode cX4_readOne 27 = .ok (.ifCond .ne 5, 3) := by decide +kernel
theorem dX4_readOne_30 : decode cX4_readOne 30 = .ok (.iconst 0, 1) := by decide +kernel
theorem dX4_readOne_31 : decode cX4_readOne 31 = .ok (.ireturn, 1) := by decide +kernel
theorem dX4_readOne_32 : decode cX4_readOne 32 = .ok (.aload_n 0, 1) := by decide +kernel
theorem dX4_readOne_33 : decode cX4_readOne 33 = .ok (.getfield 19, 3) := by decide +kernel
theorem dX4_readOne_36 : decode cX4_readOne 36 = .ok (.iload_n 1, 1) := by decide +kernel
theorem dX4_readOne_37 : decode cX4_readOne 37 = .ok (.aload_n 0, 1) := by decide +kernel
theorem dX4_readOne_38 : decode cX4_readOne 38 = .ok (.iconst 1, 1) := by decide +kernel
theorem dX4_readOne_39 : decode cX4_readOne 39 = .ok (.iconst 1, 1) := by decide +kernel
theorem dX4_readOne_40 : decode cX4_readOne 40 = .ok (.invokevirtual 46, 3) := by decide +kernel
theorem dX4_readOne_43 : decode cX4_readOne 43 = .ok (.iastore, 1) := by decide +kernel
theorem dX4_readOne_44 : decode cX4_readOne 44 = .ok (.aload_n 0, 1) := by decide +kernel
theorem dX4_readOne_45 : decode cX4_readOne 45 = .ok (.getfield 19, 3) := by decide +kernel
theorem dX4_readOne_48 : decode cX4_readOne 48 = .ok (.iload_n 1, 1) := by decide +kernel
theorem dX4_readOne_49 : decode cX4_readOne 49 = .ok (.iaload, 1) := by decide +kernel
theorem dX4_readOne_50 : decode cX4_readOne 50 = .ok (.ifCond .lt 12, 3) := by decide +kernel
theorem dX4_readOne_53 : decode cX4_readOne 53 = .ok (.aload_n 0, 1) := by decide +kernel
theorem dX4_readOne_54 : decode cX4_readOne 54 = .ok (.bipush 58, 2) := by decide +kernel
theorem dX4_readOne_56 : decode cX4_readOne 56 = .ok (.invokevirtual 42, 3) := by decide +kernel
theorem dX4_readOne_59 : decode cX4_readOne 59 = .ok (.ifCond .ne 5, 3) := by decide +kernel
theorem dX4_readOne_62 : decode cX4_readOne 62 = .ok (.iconst 0, 1) := by decide +kernel
theorem dX4_readOne_63 : decode cX4_readOne 63 = .ok (.ireturn, 1) := by decide +kernel
theorem dX4_readOne_64 : decode cX4_readOne 64 = .ok (.aload_n 0, 1) := by decide +kernel
theorem dX4_readOne_65 : decode cX4_readOne 65 = .ok (.getfield 22, 3) := by decide +kernel
theorem dX4_readOne_68 : decode cX4_readOne 68 = .ok (.iload_n 1, 1) := by decide +kernel
theorem dX4_readOne_69 : decode cX4_readOne 69 = .ok (.aload_n 0, 1) := by decide +kernel
theorem dX4_readOne_70 : decode cX4_readOne 70 = .ok (.iconst 2, 1) := by decide +kernel
theorem dX4_readOne_71 : decode cX4_readOne 71 = .ok (.iconst 1, 1) := by decide +kernel
theorem dX4_readOne_72 : decode cX4_readOne 72 = .ok (.invokevirtual 46, 3) := by decide +kernel
theorem dX4_readOne_75 : decode cX4_readOne 75 = .ok (.iastore, 1) := by decide +kernel
theorem dX4_readOne_76 : decode cX4_readOne 76 = .ok (.aload_n 0, 1) := by decide +kernel
theorem dX4_readOne_77 : decode cX4_readOne 77 = .ok (.getfield 22, 3) := by decide +kernel
theorem dX4_readOne_80 : decode cX4_readOne 80 = .ok (.iload_n 1, 1) := by decide +kernel
theorem dX4_readOne_81 : decode cX4_readOne 81 = .ok (.iaload, 1) := by decide +kernel
theorem dX4_readOne_82 : decode cX4_readOne 82 = .ok (.ifCond .lt 12, 3) := by decide +kernel
theorem dX4_readOne_85 : decode cX4_readOne 85 = .ok (.aload_n 0, 1) := by decide +kernel
theorem dX4_readOne_86 : decode cX4_readOne 86 = .ok (.bipush 42, 2) := by decide +kernel
theorem dX4_readOne_88 : decode cX4_readOne 88 = .ok (.invokevirtual 42, 3) := by decide +kernel
theorem dX4_readOne_91 : decode cX4_readOne 91 = .ok (.ifCond .ne 5, 3) := by decide +kernel
theorem dX4_readOne_94 : decode cX4_readOne 94 = .ok (.iconst 0, 1) := by decide +kernel
theorem dX4_readOne_95 : decode cX4_readOne 95 = .ok (.ireturn, 1) := by decide +kernel
theorem dX4_readOne_96 : decode cX4_readOne 96 = .ok (.aload_n 0, 1) := by decide +kernel
theorem dX4_readOne_97 : decode cX4_readOne 97 = .ok (.getfield 25, 3) := by decide +kernel
theorem dX4_readOne_100 : decode cX4_readOne 100 = .ok (.iload_n 1, 1) := by decide +kernel
theorem dX4_readOne_101 : decode cX4_readOne 101 = .ok (.aload_n 0, 1) := by decide +kernel
theorem dX4_readOne_102 : decode cX4_readOne 102 = .ok (.iconst 4, 1) := by decide +kernel
theorem dX4_readOne_103 : decode cX4_readOne 103 = .ok (.iconst 0, 1) := by decide +kernel
theorem dX4_readOne_104 : decode cX4_readOne 104 = .ok (.invokevirtual 46, 3) := by decide +kernel
theorem dX4_readOne_107 : decode cX4_readOne 107 = .ok (.iastore, 1) := by decide +kernel
theorem dX4_readOne_108 : decode cX4_readOne 108 = .ok (.aload_n 0, 1) := by decide +kernel
theorem dX4_readOne_109 : decode cX4_readOne 109 = .ok (.getfield 25, 3) := by decide +kernel
theorem dX4_readOne_112 : decode cX4_readOne 112 = .ok (.iload_n 1, 1) := by decide +kernel
theorem dX4_readOne_113 : decode cX4_readOne 113 = .ok (.iaload, 1) := by decide +kernel
theorem dX4_readOne_114 : decode cX4_readOne 114 = .ok (.ifCond .lt 7, 3) := by decide +kernel
theorem dX4_readOne_117 : decode cX4_readOne 117 = .ok (.iconst 1, 1) := by decide +kernel
theorem dX4_readOne_118 : decode cX4_readOne 118 = .ok (.goto 4, 3) := by decide +kernel
theorem dX4_readOne_121 : decode cX4_readOne 121 = .ok (.iconst 0, 1) := by decide +kernel
theorem dX4_readOne_122 : decode cX4_readOne 122 = .ok (.ireturn, 1) := by decide +kernel
theorem dX4_readSign_0 : decode cX4_readSign 0 = .ok (.aload_n 0, 1) := by decide +kernel
theorem dX4_readSign_1 : decode cX4_readSign 1 = .ok (.getfield 28, 3) := by decide +kernel
theorem dX4_readSign_4 : decode cX4_readSign 4 = .ok (.aload_n 0, 1) := by decide +kernel
theorem dX4_readSign_5 : decode cX4_readSign 5 = .ok (.getfield 39, 3) := by decide +kernel
theorem dX4_readSign_8 : decode cX4_readSign 8 = .ok (.if_icmp .ge 25, 3) := by decide +kernel
theorem dX4_readSign_11 : decode cX4_readSign 11 = .ok (.aload_n 0, 1) := by decide +kernel
theorem dX4_readSign_12 : decode cX4_readSign 12 = .ok (.getfield 28, 3) := by decide +kernel
theorem dX4_readSign_15 : decode cX4_readSign 15 = .ok (.bipush 60, 2) := by decide +kernel
theorem dX4_readSign_17 : decode cX4_readSign 17 = .ok (.if_icmp .ge 16, 3) := by decide +kernel
theorem dX4_readSign_20 : decode cX4_readSign 20 = .ok (.aload_n 0, 1) := by decide +kernel
theorem dX4_readSign_21 : decode cX4_readSign 21 = .ok (.getfield 9, 3) := by decide +kernel
theorem dX4_readSign_24 : decode cX4_readSign 24 = .ok (.aload_n 0, 1) := by decide +kernel
theorem dX4_readSign_25 : decode cX4_readSign 25 = .ok (.getfield 28, 3) := by decide +kernel
theorem dX4_readSign_28 : decode cX4_readSign 28 = .ok (.caload, 1) := by decide +kernel
theorem dX4_readSign_29 : decode cX4_readSign 29 = .ok (.iload_n 1, 1) := by decide +kernel
theorem dX4_readSign_30 : decode cX4_readSign 30 = .ok (.if_icmp .eq 5, 3) := by decide +kernel
theorem dX4_readSign_33 : decode cX4_readSign 33 = .ok (.iconst 0, 1) := by decide +kernel
theorem dX4_readSign_34 : decode cX4_readSign 34 = .ok (.ireturn, 1) := by decide +kernel
theorem dX4_readSign_35 : decode cX4_readSign 35 = .ok (.aload_n 0, 1) := by decide +kernel
theorem dX4_readSign_36 : decode cX4_readSign 36 = .ok (.dup, 1) := by decide +kernel
theorem dX4_readSign_37 : decode cX4_readSign 37 = .ok (.getfield 28, 3) := by decide +kernel
theorem dX4_readSign_40 : decode cX4_readSign 40 = .ok (.iconst 1, 1) := by decide +kernel
theorem dX4_readSign_41 : decode cX4_readSign 41 = .ok (.iadd, 1) := by decide +kernel
theorem dX4_readSign_42 : decode cX4_readSign 42 = .ok (.putfield 28, 3) := by decide +kernel
theorem dX4_readSign_45 : decode cX4_readSign 45 = .ok (.iconst 1, 1) := by decide +kernel
theorem dX4_readSign_46 : decode cX4_readSign 46 = .ok (.ireturn, 1) := by decide +kernel
theorem dX4_readNumber_0 : decode cX4_readNumber 0 = .ok (.aload_n 0, 1) := by decide +kernel
theorem dX4_readNumber_1 : decode cX4_readNumber 1 = .ok (.invokevirtual 50, 3) := by decide +kernel
theorem dX4_readNumber_4 : decode cX4_readNumber 4 = .ok (.istore_n 3, 1) := by decide +kernel
theorem dX4_readNumber_5 : decode cX4_readNumber 5 = .ok (.iload_n 3, 1) := by decide +kernel
theorem dX4_readNumber_6 : decode cX4_readNumber 6 = .ok (.ifCond .lt 11, 3) := by decide +kernel
theorem dX4_readNumber_9 : decode cX4_readNumber 9 = .ok (.iload_n 3, 1) := by decide +kernel
theorem dX4_readNumber_10 : decode cX4_readNumber 10 = .ok (.ifCond .ne 10, 3) := by decide +kernel
theorem dX4_readNumber_13 : decode cX4_readNumber 13 = .ok (.iload_n 2, 1) := by decide +kernel
theorem dX4_readNumber_14 : decode cX4_readNumber 14 = .ok (.ifCond .ne 6, 3) := by decide +kernel
theorem dX4_readNumber_17 : decode cX4_readNumber 17 = .ok (.bipush (-5), 2) := by decide +kernel
theorem dX4_readNumber_19 : decode cX4_readNumber 19 = .ok (.ireturn, 1) := by decide +kernel
theorem dX4_readNumber_20 : decode cX4_readNumber 20 = .ok (.aload_n 0, 1) := by decide +kernel
theorem dX4_readNumber_21 : decode cX4_readNumber 21 = .ok (.dup, 1) := by decide +kernel
theorem dX4_readNumber_22 : decode cX4_readNumber 22 = .ok (.getfield 28, 3) := by decide +kernel
theorem dX4_readNumber_25 : decode cX4_readNumber 25 = .ok (.iconst 1, 1) := by decide +kernel
theorem dX4_readNumber_26 : decode cX4_readNumber 26 = .ok (.iadd, 1) := by decide +kernel
theorem dX4_readNumber_27 : decode cX4_readNumber 27 = .ok (.putfield 28, 3) := by decide +kernel
theorem dX4_readNumber_30 : decode cX4_readNumber 30 = .ok (.iload_n 3, 1) := by decide +kernel
theorem dX4_readNumber_31 : decode cX4_readNumber 31 = .ok (.istore 4, 2) := by decide +kernel
theorem dX4_readNumber_33 : decode cX4_readNumber 33 = .ok (.iconst 1, 1) := by decide +kernel
theorem dX4_readNumber_34 : decode cX4_readNumber 34 = .ok (.istore 5, 2) := by decide +kernel
theorem dX4_readNumber_36 : decode cX4_readNumber 36 = .ok (.iload 5, 2) := by decide +kernel
theorem dX4_readNumber_38 : decode cX4_readNumber 38 = .ok (.iload_n 1, 1) := by decide +kernel
theorem dX4_readNumber_39 : decode cX4_readNumber 39 = .ok (.if_icmp .ge 43, 3) := by decide +kernel
theorem dX4_readNumber_42 : decode cX4_readNumber 42 = .ok (.iload 4, 2) := by decide +kernel
theorem dX4_readNumber_44 : decode cX4_readNumber 44 = .ok (.ifCond .le 38, 3) := by decide +kernel
theorem dX4_readNumber_47 : decode cX4_readNumber 47 = .ok (.aload_n 0, 1) := by decide +kernel
theorem dX4_readNumber_48 : decode cX4_readNumber 48 = .ok (.invokevirtual 50, 3) := by decide +kernel
theorem dX4_readNumber_51 : decode cX4_readNumber 51 = .ok (.ifCond .lt 31, 3) := by decide +kernel
theorem dX4_readNumber_54 : decode cX4_readNumber 54 = .ok (.iload 4, 2) := by decide +kernel
theorem dX4_readNumber_56 : decode cX4_readNumber 56 = .ok (.bipush 10, 2) := by decide +kernel
theorem dX4_readNumber_58 : decode cX4_readNumber 58 = .ok (.imul, 1) := by decide +kernel
theorem dX4_readNumber_59 : decode cX4_readNumber 59 = .ok (.aload_n 0, 1) := by decide +kernel
theorem dX4_readNumber_60 : decode cX4_readNumber 60 = .ok (.invokevirtual 50, 3) := by decide +kernel
theorem dX4_readNumber_63 : decode cX4_readNumber 63 = .ok (.iadd, 1) := by decide +kernel
theorem dX4_readNumber_64 : decode cX4_readNumber 64 = .ok (.istore 4, 2) := by decide +kernel
theorem dX4_readNumber_66 : decode cX4_readNumber 66 = .ok (.aload_n 0, 1) := by decide +kernel
theorem dX4_readNumber_67 : decode cX4_readNumber 67 = .ok (.dup, 1) := by decide +kernel
theorem dX4_readNumber_68 : decode cX4_readNumber 68 = .ok (.getfield 28, 3) := by decide +kernel
theorem dX4_readNumber_71 : decode cX4_readNumber 71 = .ok (.iconst 1, 1) := by decide +kernel
theorem dX4_readNumber_72 : decode cX4_readNumber 72 = .ok (.iadd, 1) := by decide +kernel
theorem dX4_readNumber_73 : decode cX4_readNumber 73 = .ok (.putfield 28, 3) := by decide +kernel
theorem dX4_readNumber_76 : decode cX4_readNumber 76 = .ok (.iinc 5 1, 3) := by decide +kernel
theorem dX4_readNumber_79 : decode cX4_readNumber 79 = .ok (.goto (-43), 3) := by decide +kernel
theorem dX4_readNumber_82 : decode cX4_readNumber 82 = .ok (.iload 4, 2) := by decide +kernel
theorem dX4_readNumber_84 : decode cX4_readNumber 84 = .ok (.ireturn, 1) := by decide +kernel
theorem dX4_digitHere_0 : decode cX4_digitHere 0 = .ok (.aload_n 0, 1) := by decide +kernel
theorem dX4_digitHere_1 : decode cX4_digitHere 1 = .ok (.getfield 28, 3) := by decide +kernel
theorem dX4_digitHere_4 : decode cX4_digitHere 4 = .ok (.aload_n 0, 1) := by decide +kernel
theorem dX4_digitHere_5 : decode cX4_digitHere 5 = .ok (.getfield 39, 3) := by decide +kernel
theorem dX4_digitHere_8 : decode cX4_digitHere 8 = .ok (.if_icmp .ge 40, 3) := by decide +kernel
theorem dX4_digitHere_11 : decode cX4_digitHere 11 = .ok (.aload_n 0, 1) := by decide +kernel
theorem dX4_digitHere_12 : decode cX4_digitHere 12 = .ok (.getfield 28, 3) := by decide +kernel
theorem dX4_digitHere_15 : decode cX4_digitHere 15 = .ok (.bipush 60, 2) := by decide +kernel
theorem dX4_digitHere_17 : decode cX4_digitHere 17 = .ok (.if_icmp .ge 31, 3) := by decide +kernel
theorem dX4_digitHere_20 : decode cX4_digitHere 20 = .ok (.aload_n 0, 1) := by decide +kernel
theorem dX4_digitHere_21 : decode cX4_digitHere 21 = .ok (.getfield 9, 3) := by decide +kernel
theorem dX4_digitHere_24 : decode cX4_digitHere 24 = .ok (.aload_n 0, 1) := by decide +kernel
theorem dX4_digitHere_25 : decode cX4_digitHere 25 = .ok (.getfield 28, 3) := by decide +kernel
theorem dX4_digitHere_28 : decode cX4_digitHere 28 = .ok (.caload, 1) := by decide +kernel
theorem dX4_digitHere_29 : decode cX4_digitHere 29 = .ok (.bipush 48, 2) := by decide +kernel
theorem dX4_digitHere_31 : decode cX4_digitHere 31 = .ok (.if_icmp .lt 17, 3) := by decide +kernel
theorem dX4_digitHere_34 : decode cX4_digitHere 34 = .ok (.aload_n 0, 1) := by decide +kernel
theorem dX4_digitHere_35 : decode cX4_digitHere 35 = .ok (.getfield 9, 3) := by decide +kernel
theorem dX4_digitHere_38 : decode cX4_digitHere 38 = .ok (.aload_n 0, 1) := by decide +kernel
theorem dX4_digitHere_39 : decode cX4_digitHere 39 = .ok (.getfield 28, 3) := by decide +kernel
theorem dX4_digitHere_42 : decode cX4_digitHere 42 = .ok (.caload, 1) := by decide +kernel
theorem dX4_digitHere_43 : decode cX4_digitHere 43 = .ok (.bipush 57, 2) := by decide +kernel
theorem dX4_digitHere_45 : decode cX4_digitHere 45 = .ok (.if_icmp .le 6, 3) := by decide +kernel
theorem dX4_digitHere_48 : decode cX4_digitHere 48 = .ok (.bipush (-5), 2) := by decide +kernel
theorem dX4_digitHere_50 : decode cX4_digitHere 50 = .ok (.ireturn, 1) := by decide +kernel
theorem dX4_digitHere_51 : decode cX4_digitHere 51 = .ok (.aload_n 0, 1) := by decide +kernel
theorem dX4_digitHere_52 : decode cX4_digitHere 52 = .ok (.getfield 9, 3) := by decide +kernel
theorem dX4_digitHere_55 : decode cX4_digitHere 55 = .ok (.aload_n 0, 1) := by decide +kernel
theorem dX4_digitHere_56 : decode cX4_digitHere 56 = .ok (.getfield 28, 3) := by decide +kernel
theorem dX4_digitHere_59 : decode cX4_digitHere 59 = .ok (.caload, 1) := by decide +kernel
theorem dX4_digitHere_60 : decode cX4_digitHere 60 = .ok (.bipush 48, 2) := by decide +kernel
theorem dX4_digitHere_62 : decode cX4_digitHere 62 = .ok (.isub, 1) := by decide +kernel
theorem dX4_digitHere_63 : decode cX4_digitHere 63 = .ok (.ireturn, 1) := by decide +kernel
theorem dX5_init_0 : decode cX5_init 0 = .ok (.aload_n 0, 1) := by decide +kernel
theorem dX5_init_1 : decode cX5_init 1 = .ok (.invokespecial 3, 3) := by decide +kernel
theorem dX5_init_4 : decode cX5_init 4 = .ok (.aload_n 0, 1) := by decide +kernel
theorem dX5_init_5 : decode cX5_init 5 = .ok (.new 9, 3) := by decide +kernel
theorem dX5_init_8 : decode cX5_init 8 = .ok (.dup, 1) := by decide +kernel
theorem dX5_init_9 : decode cX5_init 9 = .ok (.invokespecial 11, 3) := by decide +kernel
theorem dX5_init_12 : decode cX5_init 12 = .ok (.putfield 12, 3) := by decide +kernel
theorem dX5_init_15 : decode cX5_init 15 = .ok (.aload_n 0, 1) := by decide +kernel
theorem dX5_init_16 : decode cX5_init 16 = .ok (.new 9, 3) := by decide +kernel
theorem dX5_init_19 : decode cX5_init 19 = .ok (.dup, 1) := by decide +kernel
theorem dX5_init_20 : decode cX5_init 20 = .ok (.invokespecial 11, 3) := by decide +kernel
theorem dX5_init_23 : decode cX5_init 23 = .ok (.putfield 16, 3) := by decide +kernel
theorem dX5_init_26 : decode cX5_init 26 = .ok (.aload_n 0, 1) := by decide +kernel
theorem dX5_init_27 : decode cX5_init 27 = .ok (.new 9, 3) := by decide +kernel
theorem dX5_init_30 : decode cX5_init 30 = .ok (.dup, 1) := by decide +kernel
theorem dX5_init_31 : decode cX5_init 31 = .ok (.invokespecial 11, 3) := by decide +kernel
theorem dX5_init_34 : decode cX5_init 34 = .ok (.putfield 19, 3) := by decide +kernel
theorem dX5_init_37 : decode cX5_init 37 = .ok (.aload_n 0, 1) := by decide +kernel
theorem dX5_init_38 : decode cX5_init 38 = .ok (.new 22, 3) := by decide +kernel
theorem dX5_init_41 : decode cX5_init 41 = .ok (.dup, 1) := by decide +kernel
theorem dX5_init_42 : decode cX5_init 42 = .ok (.invokespecial 24, 3) := by decide +kernel
theorem dX5_init_45 : decode cX5_init 45 = .ok (.putfield 25, 3) := by decide +kernel
theorem dX5_init_48 : decode cX5_init 48 = .ok (.aload_n 0, 1) := by decide +kernel
theorem dX5_init_49 : decode cX5_init 49 = .ok (.new 29, 3) := by decide +kernel
theorem dX5_init_52 : decode cX5_init 52 = .ok (.dup, 1) := by decide +kernel
theorem dX5_init_53 : decode cX5_init 53 = .ok (.invokespecial 31, 3) := by decide +kernel
theorem dX5_init_56 : decode cX5_init 56 = .ok (.putfield 32, 3) := by decide +kernel
theorem dX5_init_59 : decode cX5_init 59 = .ok (.aload_n 0, 1) := by decide +kernel
theorem dX5_init_60 : decode cX5_init 60 = .ok (.new 36, 3) := by decide +kernel
theorem dX5_init_63 : decode cX5_init 63 = .ok (.dup, 1) := by decide +kernel
theorem dX5_init_64 : decode cX5_init 64 = .ok (.invokespecial 38, 3) := by decide +kernel
theorem dX5_init_67 : decode cX5_init 67 = .ok (.putfield 39, 3) := by decide +kernel
theorem dX5_init_70 : decode cX5_init 70 = .ok (.aload_n 0, 1) := by decide +kernel
theorem dX5_init_71 : decode cX5_init 71 = .ok (.iconst 0, 1) := by decide +kernel
theorem dX5_init_72 : decode cX5_init 72 = .ok (.putfield 43, 3) := by decide +kernel
theorem dX5_init_75 : decode cX5_init 75 = .ok (.return_, 1) := by decide +kernel
theorem dX5_addFirm_0 : decode cX5_addFirm 0 = .ok (.aload_n 0, 1) := by decide +kernel
theorem dX5_addFirm_1 : decode cX5_addFirm 1 = .ok (.getfield 12, 3) := by decide +kernel
theorem dX5_addFirm_4 : decode cX5_addFirm 4 = .ok (.getfield 47, 3) := by decide +kernel
theorem dX5_addFirm_7 : decode cX5_addFirm 7 = .ok (.bipush 8, 2) := by decide +kernel
theorem dX5_addFirm_9 : decode cX5_addFirm 9 = .ok (.if_icmp .lt 6, 3) := by decide +kernel
theorem dX5_addFirm_12 : decode cX5_addFirm 12 = .ok (.bipush (-3), 2) := by decide +kernel
theorem dX5_addFirm_14 : decode cX5_addFirm 14 = .ok (.ireturn, 1) := by decide +kernel
theorem dX5_addFirm_15 : decode cX5_addFirm 15 = .ok (.aload_n 0, 1) := by decide +kernel
theorem dX5_addFirm_16 : decode cX5_addFirm 16 = .ok (.getfield 25, 3) := by decide +kernel
theorem dX5_addFirm_19 : decode cX5_addFirm 19 = .ok (.aload_n 0, 1) := by decide +kernel
theorem dX5_addFirm_20 : decode cX5_addFirm 20 = .ok (.getfield 12, 3) := by decide +kernel
theorem dX5_addFirm_23 : decode cX5_addFirm 23 = .ok (.invokevirtual 51, 3) := by decide +kernel
theorem dX5_addFirm_26 : decode cX5_addFirm 26 = .ok (.aload_n 0, 1) := by decide +kernel
theorem dX5_addFirm_27 : decode cX5_addFirm 27 = .ok (.getfield 12, 3) := by decide +kernel
theorem dX5_addFirm_30 : decode cX5_addFirm 30 = .ok (.dup, 1) := by decide +kernel
theorem dX5_addFirm_31 : decode cX5_addFirm 31 = .ok (.getfield 47, 3) := by decide +kernel
theorem dX5_addFirm_34 : decode cX5_addFirm 34 = .ok (.iconst 1, 1) := by decide +kernel
end
section
theorem dX5_addFirm_35 : decode cX5_addFirm 35 = .ok (.iadd, 1) := by decide +kernel
theorem dX5_addFirm_36 : decode cX5_addFirm 36 = .ok (.putfield 47, 3) := by decide +kernel
theorem dX5_addFirm_39 : decode cX5_addFirm 39 = .ok (.aload_n 0, 1) := by decide +kernel
theorem dX5_addFirm_40 : decode cX5_addFirm 40 = .ok (.getfield 12, 3) := by decide +kernel
theorem dX5_addFirm_43 : decode cX5_addFirm 43 = .ok (.getfield 47, 3) := by decide +kernel
theorem dX5_addFirm_46 : decode cX5_addFirm 46 = .ok (.iconst 1, 1) := by decide +kernel
theorem dX5_addFirm_47 : decode cX5_addFirm 47 = .ok (.isub, 1) := by decide +kernel
theorem dX5_addFirm_48 : decode cX5_addFirm 48 = .ok (.ireturn, 1) := by decide +kernel
theorem dX5_set_0 : decode cX5_set 0 = .ok (.iload_n 1, 1) := by decide +kernel
theorem dX5_set_1 : decode cX5_set 1 = .ok (.ifCond .lt 26, 3) := by decide +kernel
theorem dX5_set_4 : decode cX5_set 4 = .ok (.iload_n 1, 1) := by decide +kernel
theorem dX5_set_5 : decode cX5_set 5 = .ok (.iconst 5, 1) := by decide +kernel
theorem dX5_set_6 : decode cX5_set 6 = .ok (.if_icmp .ge 21, 3) := by decide +kernel
theorem dX5_set_9 : decode cX5_set 9 = .ok (.iload_n 2, 1) := by decide +kernel
theorem dX5_set_10 : decode cX5_set 10 = .ok (.getstatic 55, 3) := by decide +kernel
theorem dX5_set_13 : decode cX5_set 13 = .ok (.iload_n 1, 1) := by decide +kernel
theorem dX5_set_14 : decode cX5_set 14 = .ok (.iaload, 1) := by decide +kernel
theorem dX5_set_15 : decode cX5_set 15 = .ok (.if_icmp .lt 12, 3) := by decide +kernel
theorem dX5_set_18 : decode cX5_set 18 = .ok (.iload_n 2, 1) := by decide +kernel
theorem dX5_set_19 : decode cX5_set 19 = .ok (.getstatic 59, 3) := by decide +kernel
theorem dX5_set_22 : decode cX5_set 22 = .ok (.iload_n 1, 1) := by decide +kernel
theorem dX5_set_23 : decode cX5_set 23 = .ok (.iaload, 1) := by decide +kernel
theorem dX5_set_24 : decode cX5_set 24 = .ok (.if_icmp .le 6, 3) := by decide +kernel
theorem dX5_set_27 : decode cX5_set 27 = .ok (.bipush (-2), 2) := by decide +kernel
theorem dX5_set_29 : decode cX5_set 29 = .ok (.ireturn, 1) := by decide +kernel
theorem dX5_set_30 : decode cX5_set 30 = .ok (.aload_n 0, 1) := by decide +kernel
theorem dX5_set_31 : decode cX5_set 31 = .ok (.getfield 12, 3) := by decide +kernel
theorem dX5_set_34 : decode cX5_set 34 = .ok (.getfield 62, 3) := by decide +kernel
theorem dX5_set_37 : decode cX5_set 37 = .ok (.iload_n 1, 1) := by decide +kernel
theorem dX5_set_38 : decode cX5_set 38 = .ok (.iaload, 1) := by decide +kernel
theorem dX5_set_39 : decode cX5_set 39 = .ok (.istore_n 3, 1) := by decide +kernel
theorem dX5_set_40 : decode cX5_set 40 = .ok (.iload_n 2, 1) := by decide +kernel
theorem dX5_set_41 : decode cX5_set 41 = .ok (.iload_n 3, 1) := by decide +kernel
theorem dX5_set_42 : decode cX5_set 42 = .ok (.if_icmp .ne 6, 3) := by decide +kernel
theorem dX5_set_45 : decode cX5_set 45 = .ok (.bipush (-5), 2) := by decide +kernel
theorem dX5_set_47 : decode cX5_set 47 = .ok (.ireturn, 1) := by decide +kernel
theorem dX5_set_48 : decode cX5_set 48 = .ok (.aload_n 0, 1) := by decide +kernel
theorem dX5_set_49 : decode cX5_set 49 = .ok (.getfield 25, 3) := by decide +kernel
theorem dX5_set_52 : decode cX5_set 52 = .ok (.aload_n 0, 1) := by decide +kernel
theorem dX5_set_53 : decode cX5_set 53 = .ok (.getfield 12, 3) := by decide +kernel
theorem dX5_set_56 : decode cX5_set 56 = .ok (.invokevirtual 51, 3) := by decide +kernel
theorem dX5_set_59 : decode cX5_set 59 = .ok (.aload_n 0, 1) := by decide +kernel
theorem dX5_set_60 : decode cX5_set 60 = .ok (.getfield 12, 3) := by decide +kernel
theorem dX5_set_63 : decode cX5_set 63 = .ok (.getfield 62, 3) := by decide +kernel
theorem dX5_set_66 : decode cX5_set 66 = .ok (.iload_n 1, 1) := by decide +kernel
theorem dX5_set_67 : decode cX5_set 67 = .ok (.iload_n 2, 1) := by decide +kernel
theorem dX5_set_68 : decode cX5_set 68 = .ok (.iastore, 1) := by decide +kernel
theorem dX5_set_69 : decode cX5_set 69 = .ok (.iload_n 3, 1) := by decide +kernel
theorem dX5_set_70 : decode cX5_set 70 = .ok (.ireturn, 1) := by decide +kernel
theorem dX5_issue_0 : decode cX5_issue 0 = .ok (.aload_n 0, 1) := by decide +kernel
theorem dX5_issue_1 : decode cX5_issue 1 = .ok (.getfield 12, 3) := by decide +kernel
theorem dX5_issue_4 : decode cX5_issue 4 = .ok (.iload_n 1, 1) := by decide +kernel
theorem dX5_issue_5 : decode cX5_issue 5 = .ok (.invokevirtual 65, 3) := by decide +kernel
theorem dX5_issue_8 : decode cX5_issue 8 = .ok (.astore_n 3, 1) := by decide +kernel
theorem dX5_issue_9 : decode cX5_issue 9 = .ok (.aload_n 3, 1) := by decide +kernel
theorem dX5_issue_10 : decode cX5_issue 10 = .ok (.ifnonnull 5, 3) := by decide +kernel
theorem dX5_issue_13 : decode cX5_issue 13 = .ok (.iconst (-1), 1) := by decide +kernel
theorem dX5_issue_14 : decode cX5_issue 14 = .ok (.ireturn, 1) := by decide +kernel
theorem dX5_issue_15 : decode cX5_issue 15 = .ok (.iload_n 2, 1) := by decide +kernel
theorem dX5_issue_16 : decode cX5_issue 16 = .ok (.invokestatic 69, 3) := by decide +kernel
theorem dX5_issue_19 : decode cX5_issue 19 = .ok (.ifCond .ne 6, 3) := by decide +kernel
theorem dX5_issue_22 : decode cX5_issue 22 = .ok (.bipush (-2), 2) := by decide +kernel
theorem dX5_issue_24 : decode cX5_issue 24 = .ok (.ireturn, 1) := by decide +kernel
theorem dX5_issue_25 : decode cX5_issue 25 = .ok (.aload_n 0, 1) := by decide +kernel
theorem dX5_issue_26 : decode cX5_issue 26 = .ok (.getfield 25, 3) := by decide +kernel
theorem dX5_issue_29 : decode cX5_issue 29 = .ok (.aload_n 0, 1) := by decide +kernel
theorem dX5_issue_30 : decode cX5_issue 30 = .ok (.getfield 12, 3) := by decide +kernel
theorem dX5_issue_33 : decode cX5_issue 33 = .ok (.invokevirtual 51, 3) := by decide +kernel
theorem dX5_issue_36 : decode cX5_issue 36 = .ok (.aload_n 0, 1) := by decide +kernel
theorem dX5_issue_37 : decode cX5_issue 37 = .ok (.getfield 12, 3) := by decide +kernel
theorem dX5_issue_40 : decode cX5_issue 40 = .ok (.invokevirtual 73, 3) := by decide +kernel
theorem dX5_issue_43 : decode cX5_issue 43 = .ok (.istore 4, 2) := by decide +kernel
theorem dX5_issue_45 : decode cX5_issue 45 = .ok (.aload_n 3, 1) := by decide +kernel
theorem dX5_issue_46 : decode cX5_issue 46 = .ok (.getfield 77, 3) := by decide +kernel
theorem dX5_issue_49 : decode cX5_issue 49 = .ok (.iload 4, 2) := by decide +kernel
theorem dX5_issue_51 : decode cX5_issue 51 = .ok (.dup2, 1) := by decide +kernel
theorem dX5_issue_52 : decode cX5_issue 52 = .ok (.iaload, 1) := by decide +kernel
theorem dX5_issue_53 : decode cX5_issue 53 = .ok (.iload_n 2, 1) := by decide +kernel
theorem dX5_issue_54 : decode cX5_issue 54 = .ok (.iadd, 1) := by decide +kernel
theorem dX5_issue_55 : decode cX5_issue 55 = .ok (.iastore, 1) := by decide +kernel
theorem dX5_issue_56 : decode cX5_issue 56 = .ok (.aload_n 0, 1) := by decide +kernel
theorem dX5_issue_57 : decode cX5_issue 57 = .ok (.getfield 12, 3) := by decide +kernel
theorem dX5_issue_60 : decode cX5_issue 60 = .ok (.getfield 82, 3) := by decide +kernel
theorem dX5_issue_63 : decode cX5_issue 63 = .ok (.iload 4, 2) := by decide +kernel
theorem dX5_issue_65 : decode cX5_issue 65 = .ok (.dup2, 1) := by decide +kernel
theorem dX5_issue_66 : decode cX5_issue 66 = .ok (.iaload, 1) := by decide +kernel
theorem dX5_issue_67 : decode cX5_issue 67 = .ok (.iload_n 2, 1) := by decide +kernel
theorem dX5_issue_68 : decode cX5_issue 68 = .ok (.iadd, 1) := by decide +kernel
theorem dX5_issue_69 : decode cX5_issue 69 = .ok (.iastore, 1) := by decide +kernel
theorem dX5_issue_70 : decode cX5_issue 70 = .ok (.aload_n 3, 1) := by decide +kernel
theorem dX5_issue_71 : decode cX5_issue 71 = .ok (.getfield 77, 3) := by decide +kernel
theorem dX5_issue_74 : decode cX5_issue 74 = .ok (.iload 4, 2) := by decide +kernel
theorem dX5_issue_76 : decode cX5_issue 76 = .ok (.iaload, 1) := by decide +kernel
theorem dX5_issue_77 : decode cX5_issue 77 = .ok (.ireturn, 1) := by decide +kernel
theorem dX5_issueOffsets_0 : decode cX5_issueOffsets 0 = .ok (.aload_n 0, 1) := by decide +kernel
theorem dX5_issueOffsets_1 : decode cX5_issueOffsets 1 = .ok (.getfield 12, 3) := by decide +kernel
theorem dX5_issueOffsets_4 : decode cX5_issueOffsets 4 = .ok (.iload_n 1, 1) := by decide +kernel
theorem dX5_issueOffsets_5 : decode cX5_issueOffsets 5 = .ok (.invokevirtual 65, 3) := by decide +kernel
theorem dX5_issueOffsets_8 : decode cX5_issueOffsets 8 = .ok (.astore 4, 2) := by decide +kernel
theorem dX5_issueOffsets_10 : decode cX5_issueOffsets 10 = .ok (.aload 4, 2) := by decide +kernel
theorem dX5_issueOffsets_12 : decode cX5_issueOffsets 12 = .ok (.ifnull 10, 3) := by decide +kernel
theorem dX5_issueOffsets_15 : decode cX5_issueOffsets 15 = .ok (.iload_n 2, 1) := by decide +kernel
theorem dX5_issueOffsets_16 : decode cX5_issueOffsets 16 = .ok (.invokestatic 85, 3) := by decide +kernel
theorem dX5_issueOffsets_19 : decode cX5_issueOffsets 19 = .ok (.ifCond .ne 5, 3) := by decide +kernel
theorem dX5_issueOffsets_22 : decode cX5_issueOffsets 22 = .ok (.iconst (-1), 1) := by decide +kernel
theorem dX5_issueOffsets_23 : decode cX5_issueOffsets 23 = .ok (.ireturn, 1) := by decide +kernel
theorem dX5_issueOffsets_24 : decode cX5_issueOffsets 24 = .ok (.iload_n 3, 1) := by decide +kernel
theorem dX5_issueOffsets_25 : decode cX5_issueOffsets 25 = .ok (.invokestatic 69, 3) := by decide +kernel
theorem dX5_issueOffsets_28 : decode cX5_issueOffsets 28 = .ok (.ifCond .ne 6, 3) := by decide +kernel
theorem dX5_issueOffsets_31 : decode cX5_issueOffsets 31 = .ok (.bipush (-2), 2) := by decide +kernel
theorem dX5_issueOffsets_33 : decode cX5_issueOffsets 33 = .ok (.ireturn, 1) := by decide +kernel
theorem dX5_issueOffsets_34 : decode cX5_issueOffsets 34 = .ok (.aload_n 0, 1) := by decide +kernel
theorem dX5_issueOffsets_35 : decode cX5_issueOffsets 35 = .ok (.getfield 25, 3) := by decide +kernel
theorem dX5_issueOffsets_38 : decode cX5_issueOffsets 38 = .ok (.aload_n 0, 1) := by decide +kernel
theorem dX5_issueOffsets_39 : decode cX5_issueOffsets 39 = .ok (.getfield 12, 3) := by decide +kernel
theorem dX5_issueOffsets_42 : decode cX5_issueOffsets 42 = .ok (.invokevirtual 51, 3) := by decide +kernel
theorem dX5_issueOffsets_45 : decode cX5_issueOffsets 45 = .ok (.aload 4, 2) := by decide +kernel
theorem dX5_issueOffsets_47 : decode cX5_issueOffsets 47 = .ok (.getfield 88, 3) := by decide +kernel
theorem dX5_issueOffsets_50 : decode cX5_issueOffsets 50 = .ok (.iload_n 2, 1) := by decide +kernel
theorem dX5_issueOffsets_51 : decode cX5_issueOffsets 51 = .ok (.dup2, 1) := by decide +kernel
theorem dX5_issueOffsets_52 : decode cX5_issueOffsets 52 = .ok (.iaload, 1) := by decide +kernel
theorem dX5_issueOffsets_53 : decode cX5_issueOffsets 53 = .ok (.iload_n 3, 1) := by decide +kernel
theorem dX5_issueOffsets_54 : decode cX5_issueOffsets 54 = .ok (.iadd, 1) := by decide +kernel
theorem dX5_issueOffsets_55 : decode cX5_issueOffsets 55 = .ok (.iastore, 1) := by decide +kernel
theorem dX5_issueOffsets_56 : decode cX5_issueOffsets 56 = .ok (.aload_n 0, 1) := by decide +kernel
theorem dX5_issueOffsets_57 : decode cX5_issueOffsets 57 = .ok (.getfield 12, 3) := by decide +kernel
theorem dX5_issueOffsets_60 : decode cX5_issueOffsets 60 = .ok (.getfield 91, 3) := by decide +kernel
theorem dX5_issueOffsets_63 : decode cX5_issueOffsets 63 = .ok (.iload_n 2, 1) := by decide +kernel
theorem dX5_issueOffsets_64 : decode cX5_issueOffsets 64 = .ok (.dup2, 1) := by decide +kernel
theorem dX5_issueOffsets_65 : decode cX5_issueOffsets 65 = .ok (.iaload, 1) := by decide +kernel
theorem dX5_issueOffsets_66 : decode cX5_issueOffsets 66 = .ok (.iload_n 3, 1) := by decide +kernel
theorem dX5_issueOffsets_67 : decode cX5_issueOffsets 67 = .ok (.iadd, 1) := by decide +kernel
theorem dX5_issueOffsets_68 : decode cX5_issueOffsets 68 = .ok (.iastore, 1) := by decide +kernel
theorem dX5_issueOffsets_69 : decode cX5_issueOffsets 69 = .ok (.aload 4, 2) := by decide +kernel
theorem dX5_issueOffsets_71 : decode cX5_issueOffsets 71 = .ok (.getfield 88, 3) := by decide +kernel
theorem dX5_issueOffsets_74 : decode cX5_issueOffsets 74 = .ok (.iload_n 2, 1) := by decide +kernel
theorem dX5_issueOffsets_75 : decode cX5_issueOffsets 75 = .ok (.iaload, 1) := by decide +kernel
theorem dX5_issueOffsets_76 : decode cX5_issueOffsets 76 = .ok (.ireturn, 1) := by decide +kernel
theorem dX5_transfer_0 : decode cX5_transfer 0 = .ok (.aload_n 0, 1) := by decide +kernel
theorem dX5_transfer_1 : decode cX5_transfer 1 = .ok (.getfield 12, 3) := by decide +kernel
theorem dX5_transfer_4 : decode cX5_transfer 4 = .ok (.iload_n 1, 1) := by decide +kernel
theorem dX5_transfer_5 : decode cX5_transfer 5 = .ok (.iload_n 2, 1) := by decide +kernel
theorem dX5_transfer_6 : decode cX5_transfer 6 = .ok (.iload_n 3, 1) := by decide +kernel
theorem dX5_transfer_7 : decode cX5_transfer 7 = .ok (.iload 4, 2) := by decide +kernel
theorem dX5_transfer_9 : decode cX5_transfer 9 = .ok (.invokevirtual 94, 3) := by decide +kernel
theorem dX5_transfer_12 : decode cX5_transfer 12 = .ok (.istore 5, 2) := by decide +kernel
theorem dX5_transfer_14 : decode cX5_transfer 14 = .ok (.iload 5, 2) := by decide +kernel
theorem dX5_transfer_16 : decode cX5_transfer 16 = .ok (.ifCond .eq 6, 3) := by decide +kernel
theorem dX5_transfer_19 : decode cX5_transfer 19 = .ok (.iload 5, 2) := by decide +kernel
theorem dX5_transfer_21 : decode cX5_transfer 21 = .ok (.ireturn, 1) := by decide +kernel
theorem dX5_transfer_22 : decode cX5_transfer 22 = .ok (.aload_n 0, 1) := by decide +kernel
theorem dX5_transfer_23 : decode cX5_transfer 23 = .ok (.getfield 25, 3) := by decide +kernel
theorem dX5_transfer_26 : decode cX5_transfer 26 = .ok (.aload_n 0, 1) := by decide +kernel
theorem dX5_transfer_27 : decode cX5_transfer 27 = .ok (.getfield 12, 3) := by decide +kernel
theorem dX5_transfer_30 : decode cX5_transfer 30 = .ok (.invokevirtual 51, 3) := by decide +kernel
theorem dX5_transfer_33 : decode cX5_transfer 33 = .ok (.aload_n 0, 1) := by decide +kernel
theorem dX5_transfer_34 : decode cX5_transfer 34 = .ok (.getfield 12, 3) := by decide +kernel
theorem dX5_transfer_37 : decode cX5_transfer 37 = .ok (.iload_n 1, 1) := by decide +kernel
theorem dX5_transfer_38 : decode cX5_transfer 38 = .ok (.iload_n 2, 1) := by decide +kernel
theorem dX5_transfer_39 : decode cX5_transfer 39 = .ok (.iload_n 3, 1) := by decide +kernel
theorem dX5_transfer_40 : decode cX5_transfer 40 = .ok (.iload 4, 2) := by decide +kernel
theorem dX5_transfer_42 : decode cX5_transfer 42 = .ok (.invokevirtual 98, 3) := by decide +kernel
theorem dX5_transfer_45 : decode cX5_transfer 45 = .ok (.ireturn, 1) := by decide +kernel
theorem dX5_transferOffsets_0 : decode cX5_transferOffsets 0 = .ok (.aload_n 0, 1) := by decide +kernel
theorem dX5_transferOffsets_1 : decode cX5_transferOffsets 1 = .ok (.getfield 12, 3) := by decide +kernel
theorem dX5_transferOffsets_4 : decode cX5_transferOffsets 4 = .ok (.iload_n 1, 1) := by decide +kernel
theorem dX5_transferOffsets_5 : decode cX5_transferOffsets 5 = .ok (.invokevirtual 65, 3) := by decide +kernel
theorem dX5_transferOffsets_8 : decode cX5_transferOffsets 8 = .ok (.astore 5, 2) := by decide +kernel
theorem dX5_transferOffsets_10 : decode cX5_transferOffsets 10 = .ok (.aload_n 0, 1) := by decide +kernel
theorem dX5_transferOffsets_11 : decode cX5_transferOffsets 11 = .ok (.getfield 12, 3) := by decide +kernel
theorem dX5_transferOffsets_14 : decode cX5_transferOffsets 14 = .ok (.iload_n 2, 1) := by decide +kernel
theorem dX5_transferOffsets_15 : decode cX5_transferOffsets 15 = .ok (.invokevirtual 65, 3) := by decide +kernel
theorem dX5_transferOffsets_18 : decode cX5_transferOffsets 18 = .ok (.astore 6, 2) := by decide +kernel
theorem dX5_transferOffsets_20 : decode cX5_transferOffsets 20 = .ok (.aload 5, 2) := by decide +kernel
theorem dX5_transferOffsets_22 : decode cX5_transferOffsets 22 = .ok (.ifnull 15, 3) := by decide +kernel
theorem dX5_transferOffsets_25 : decode cX5_transferOffsets 25 = .ok (.aload 6, 2) := by decide +kernel
theorem dX5_transferOffsets_27 : decode cX5_transferOffsets 27 = .ok (.ifnull 10, 3) := by decide +kernel
theorem dX5_transferOffsets_30 : decode cX5_transferOffsets 30 = .ok (.iload_n 3, 1) := by decide +kernel
theorem dX5_transferOffsets_31 : decode cX5_transferOffsets 31 = .ok (.invokestatic 85, 3) := by decide +kernel
theorem dX5_transferOffsets_34 : decode cX5_transferOffsets 34 = .ok (.ifCond .ne 5, 3) := by decide +kernel
theorem dX5_transferOffsets_37 : decode cX5_transferOffsets 37 = .ok (.iconst (-1), 1) := by decide +kernel
theorem dX5_transferOffsets_38 : decode cX5_transferOffsets 38 = .ok (.ireturn, 1) := by decide +kernel
theorem dX5_transferOffsets_39 : decode cX5_transferOffsets 39 = .ok (.iload 4, 2) := by decide +kernel
theorem dX5_transferOffsets_41 : decode cX5_transferOffsets 41 = .ok (.invokestatic 69, 3) := by decide +kernel
theorem dX5_transferOffsets_44 : decode cX5_transferOffsets 44 = .ok (.ifCond .eq 8, 3) := by decide +kernel
theorem dX5_transferOffsets_47 : decode cX5_transferOffsets 47 = .ok (.iload_n 1, 1) := by decide +kernel
theorem dX5_transferOffsets_48 : decode cX5_transferOffsets 48 = .ok (.iload_n 2, 1) := by decide +kernel
theorem dX5_transferOffsets_49 : decode cX5_transferOffsets 49 = .ok (.if_icmp .ne 6, 3) := by decide +kernel
theorem dX5_transferOffsets_52 : decode cX5_transferOffsets 52 = .ok (.bipush (-2), 2) := by decide +kernel
theorem dX5_transferOffsets_54 : decode cX5_transferOffsets 54 = .ok (.ireturn, 1) := by decide +kernel
theorem dX5_transferOffsets_55 : decode cX5_transferOffsets 55 = .ok (.aload 5, 2) := by decide +kernel
theorem dX5_transferOffsets_57 : decode cX5_transferOffsets 57 = .ok (.getfield 88, 3) := by decide +kernel
theorem dX5_transferOffsets_60 : decode cX5_transferOffsets 60 = .ok (.iload_n 3, 1) := by decide +kernel
theorem dX5_transferOffsets_61 : decode cX5_transferOffsets 61 = .ok (.iaload, 1) := by decide +kernel
theorem dX5_transferOffsets_62 : decode cX5_transferOffsets 62 = .ok (.iload 4, 2) := by decide +kernel
theorem dX5_transferOffsets_64 : decode cX5_transferOffsets 64 = .ok (.if_icmp .ge 6, 3) := by decide +kernel
theorem dX5_transferOffsets_67 : decode cX5_transferOffsets 67 = .ok (.bipush (-4), 2) := by decide +kernel
theorem dX5_transferOffsets_69 : decode cX5_transferOffsets 69 = .ok (.ireturn, 1) := by decide +kernel
theorem dX5_transferOffsets_70 : decode cX5_transferOffsets 70 = .ok (.aload_n 0, 1) := by decide +kernel
theorem dX5_transferOffsets_71 : decode cX5_transferOffsets 71 = .ok (.getfield 25, 3) := by decide +kernel
theorem dX5_transferOffsets_74 : decode cX5_transferOffsets 74 = .ok (.aload_n 0, 1) := by decide +kernel
theorem dX5_transferOffsets_75 : decode cX5_transferOffsets 75 = .ok (.getfield 12, 3) := by decide +kernel
theorem dX5_transferOffsets_78 : decode cX5_transferOffsets 78 = .ok (.invokevirtual 51, 3) := by decide +kernel
theorem dX5_transferOffsets_81 : decode cX5_transferOffsets 81 = .ok (.aload 5, 2) := by decide +kernel
theorem dX5_transferOffsets_83 : decode cX5_transferOffsets 83 = .ok (.getfield 88, 3) := by decide +kernel
theorem dX5_transferOffsets_86 : decode cX5_transferOffsets 86 = .ok (.iload_n 3, 1) := by decide +kernel
theorem dX5_transferOffsets_87 : decode cX5_transferOffsets 87 = .ok (.dup2, 1) := by decide +kernel
theorem dX5_transferOffsets_88 : decode cX5_transferOffsets 88 = .ok (.iaload, 1) := by decide +kernel
theorem dX5_transferOffsets_89 : decode cX5_transferOffsets 89 = .ok (.iload 4, 2) := by decide +kernel
theorem dX5_transferOffsets_91 : decode cX5_transferOffsets 91 = .ok (.isub, 1) := by decide +kernel
theorem dX5_transferOffsets_92 : decode cX5_transferOffsets 92 = .ok (.iastore, 1) := by decide +kernel
theorem dX5_transferOffsets_93 : decode cX5_transferOffsets 93 = .ok (.aload 6, 2) := by decide +kernel
theorem dX5_transferOffsets_95 : decode cX5_transferOffsets 95 = .ok (.getfield 88, 3) := by decide +kernel
theorem dX5_transferOffsets_98 : decode cX5_transferOffsets 98 = .ok (.iload_n 3, 1) := by decide +kernel
theorem dX5_transferOffsets_99 : decode cX5_transferOffsets 99 = .ok (.dup2, 1) := by decide +kernel
theorem dX5_transferOffsets_100 : decode cX5_transferOffsets 100 = .ok (.iaload, 1) := by decide +kernel
theorem dX5_transferOffsets_101 : decode cX5_transferOffsets 101 = .ok (.iload 4, 2) := by decide +kernel
theorem dX5_transferOffsets_103 : decode cX5_transferOffsets 103 = .ok (.iadd, 1) := by decide +kernel
theorem dX5_transferOffsets_104 : decode cX5_transferOffsets 104 = .ok (.iastore, 1) := by decide +kernel
theorem dX5_transferOffsets_105 : decode cX5_transferOffsets 105 = .ok (.aload 5, 2) := by decide +kernel
theorem dX5_transferOffsets_107 : decode cX5_transferOffsets 107 = .ok (.getfield 88, 3) := by decide +kernel
theorem dX5_transferOffsets_110 : decode cX5_transferOffsets 110 = .ok (.iload_n 3, 1) := by decide +kernel
theorem dX5_transferOffsets_111 : decode cX5_transferOffsets 111 = .ok (.iaload, 1) := by decide +kernel
theorem dX5_transferOffsets_112 : decode cX5_transferOffsets 112 = .ok (.ireturn, 1) := by decide +kernel
theorem dX5_cancel_0 : decode cX5_cancel 0 = .ok (.aload_n 0, 1) := by decide +kernel
theorem dX5_cancel_1 : decode cX5_cancel 1 = .ok (.getfield 12, 3) := by decide +kernel
theorem dX5_cancel_4 : decode cX5_cancel 4 = .ok (.iload_n 1, 1) := by decide +kernel
theorem dX5_cancel_5 : decode cX5_cancel 5 = .ok (.invokevirtual 65, 3) := by decide +kernel
theorem dX5_cancel_8 : decode cX5_cancel 8 = .ok (.astore 4, 2) := by decide +kernel
theorem dX5_cancel_10 : decode cX5_cancel 10 = .ok (.aload 4, 2) := by decide +kernel
theorem dX5_cancel_12 : decode cX5_cancel 12 = .ok (.ifnull 10, 3) := by decide +kernel
theorem dX5_cancel_15 : decode cX5_cancel 15 = .ok (.iload_n 2, 1) := by decide +kernel
theorem dX5_cancel_16 : decode cX5_cancel 16 = .ok (.invokestatic 101, 3) := by decide +kernel
theorem dX5_cancel_19 : decode cX5_cancel 19 = .ok (.ifCond .ne 5, 3) := by decide +kernel
theorem dX5_cancel_22 : decode cX5_cancel 22 = .ok (.iconst (-1), 1) := by decide +kernel
theorem dX5_cancel_23 : decode cX5_cancel 23 = .ok (.ireturn, 1) := by decide +kernel
theorem dX5_cancel_24 : decode cX5_cancel 24 = .ok (.iload_n 3, 1) := by decide +kernel
theorem dX5_cancel_25 : decode cX5_cancel 25 = .ok (.invokestatic 69, 3) := by decide +kernel
theorem dX5_cancel_28 : decode cX5_cancel 28 = .ok (.ifCond .ne 6, 3) := by decide +kernel
theorem dX5_cancel_31 : decode cX5_cancel 31 = .ok (.bipush (-2), 2) := by decide +kernel
theorem dX5_cancel_33 : decode cX5_cancel 33 = .ok (.ireturn, 1) := by decide +kernel
theorem dX5_cancel_34 : decode cX5_cancel 34 = .ok (.aload 4, 2) := by decide +kernel
theorem dX5_cancel_36 : decode cX5_cancel 36 = .ok (.getfield 77, 3) := by decide +kernel
theorem dX5_cancel_39 : decode cX5_cancel 39 = .ok (.iload_n 2, 1) := by decide +kernel
theorem dX5_cancel_40 : decode cX5_cancel 40 = .ok (.iaload, 1) := by decide +kernel
theorem dX5_cancel_41 : decode cX5_cancel 41 = .ok (.iload_n 3, 1) := by decide +kernel
theorem dX5_cancel_42 : decode cX5_cancel 42 = .ok (.if_icmp .ge 6, 3) := by decide +kernel
theorem dX5_cancel_45 : decode cX5_cancel 45 = .ok (.bipush (-4), 2) := by decide +kernel
theorem dX5_cancel_47 : decode cX5_cancel 47 = .ok (.ireturn, 1) := by decide +kernel
theorem dX5_cancel_48 : decode cX5_cancel 48 = .ok (.aload_n 0, 1) := by decide +kernel
theorem dX5_cancel_49 : decode cX5_cancel 49 = .ok (.getfield 25, 3) := by decide +kernel
theorem dX5_cancel_52 : decode cX5_cancel 52 = .ok (.aload_n 0, 1) := by decide +kernel
theorem dX5_cancel_53 : decode cX5_cancel 53 = .ok (.getfield 12, 3) := by decide +kernel
theorem dX5_cancel_56 : decode cX5_cancel 56 = .ok (.invokevirtual 51, 3) := by decide +kernel
theorem dX5_cancel_59 : decode cX5_cancel 59 = .ok (.aload 4, 2) := by decide +kernel
theorem dX5_cancel_61 : decode cX5_cancel 61 = .ok (.getfield 77, 3) := by decide +kernel
theorem dX5_cancel_64 : decode cX5_cancel 64 = .ok (.iload_n 2, 1) := by decide +kernel
theorem dX5_cancel_65 : decode cX5_cancel 65 = .ok (.dup2, 1) := by decide +kernel
theorem dX5_cancel_66 : decode cX5_cancel 66 = .ok (.iaload, 1) := by decide +kernel
theorem dX5_cancel_67 : decode cX5_cancel 67 = .ok (.iload_n 3, 1) := by decide +kernel
theorem dX5_cancel_68 : decode cX5_cancel 68 = .ok (.isub, 1) := by decide +kernel
theorem dX5_cancel_69 : decode cX5_cancel 69 = .ok (.iastore, 1) := by decide +kernel
theorem dX5_cancel_70 : decode cX5_cancel 70 = .ok (.aload_n 0, 1) := by decide +kernel
theorem dX5_cancel_71 : decode cX5_cancel 71 = .ok (.getfield 12, 3) := by decide +kernel
theorem dX5_cancel_74 : decode cX5_cancel 74 = .ok (.getfield 104, 3) := by decide +kernel
theorem dX5_cancel_77 : decode cX5_cancel 77 = .ok (.iload_n 2, 1) := by decide +kernel
theorem dX5_cancel_78 : decode cX5_cancel 78 = .ok (.dup2, 1) := by decide +kernel
theorem dX5_cancel_79 : decode cX5_cancel 79 = .ok (.iaload, 1) := by decide +kernel
theorem dX5_cancel_80 : decode cX5_cancel 80 = .ok (.iload_n 3, 1) := by decide +kernel
theorem dX5_cancel_81 : decode cX5_cancel 81 = .ok (.iadd, 1) := by decide +kernel
theorem dX5_cancel_82 : decode cX5_cancel 82 = .ok (.iastore, 1) := by decide +kernel
theorem dX5_cancel_83 : decode cX5_cancel 83 = .ok (.aload 4, 2) := by decide +kernel
theorem dX5_cancel_85 : decode cX5_cancel 85 = .ok (.getfield 77, 3) := by decide +kernel
theorem dX5_cancel_88 : decode cX5_cancel 88 = .ok (.iload_n 2, 1) := by decide +kernel
theorem dX5_cancel_89 : decode cX5_cancel 89 = .ok (.iaload, 1) := by decide +kernel
theorem dX5_cancel_90 : decode cX5_cancel 90 = .ok (.ireturn, 1) := by decide +kernel
theorem dX5_report_0 : decode cX5_report 0 = .ok (.aload_n 0, 1) := by decide +kernel
theorem dX5_report_1 : decode cX5_report 1 = .ok (.getfield 12, 3) := by decide +kernel
theorem dX5_report_4 : decode cX5_report 4 = .ok (.iload_n 1, 1) := by decide +kernel
theorem dX5_report_5 : decode cX5_report 5 = .ok (.invokevirtual 65, 3) := by decide +kernel
theorem dX5_report_8 : decode cX5_report 8 = .ok (.astore_n 3, 1) := by decide +kernel
theorem dX5_report_9 : decode cX5_report 9 = .ok (.aload_n 3, 1) := by decide +kernel
theorem dX5_report_10 : decode cX5_report 10 = .ok (.ifnonnull 5, 3) := by decide +kernel
theorem dX5_report_13 : decode cX5_report 13 = .ok (.iconst (-1), 1) := by decide +kernel
theorem dX5_report_14 : decode cX5_report 14 = .ok (.ireturn, 1) := by decide +kernel
theorem dX5_report_15 : decode cX5_report 15 = .ok (.iload_n 2, 1) := by decide +kernel
theorem dX5_report_16 : decode cX5_report 16 = .ok (.invokestatic 69, 3) := by decide +kernel
theorem dX5_report_19 : decode cX5_report 19 = .ok (.ifCond .ne 6, 3) := by decide +kernel
theorem dX5_report_22 : decode cX5_report 22 = .ok (.bipush (-2), 2) := by decide +kernel
theorem dX5_report_24 : decode cX5_report 24 = .ok (.ireturn, 1) := by decide +kernel
theorem dX5_report_25 : decode cX5_report 25 = .ok (.aload_n 3, 1) := by decide +kernel
theorem dX5_report_26 : decode cX5_report 26 = .ok (.getfield 107, 3) := by decide +kernel
theorem dX5_report_29 : decode cX5_report 29 = .ok (.aload_n 3, 1) := by decide +kernel
theorem dX5_report_30 : decode cX5_report 30 = .ok (.getfield 110, 3) := by decide +kernel
theorem dX5_report_33 : decode cX5_report 33 = .ok (.iadd, 1) := by decide +kernel
theorem dX5_report_34 : decode cX5_report 34 = .ok (.iload_n 2, 1) := by decide +kernel
theorem dX5_report_35 : decode cX5_report 35 = .ok (.iadd, 1) := by decide +kernel
theorem dX5_report_36 : decode cX5_report 36 = .ok (.sipush 9999, 3) := by decide +kernel
theorem dX5_report_39 : decode cX5_report 39 = .ok (.if_icmp .le 6, 3) := by decide +kernel
theorem dX5_report_42 : decode cX5_report 42 = .ok (.bipush (-3), 2) := by decide +kernel
theorem dX5_report_44 : decode cX5_report 44 = .ok (.ireturn, 1) := by decide +kernel
theorem dX5_report_45 : decode cX5_report 45 = .ok (.aload_n 0, 1) := by decide +kernel
theorem dX5_report_46 : decode cX5_report 46 = .ok (.getfield 25, 3) := by decide +kernel
theorem dX5_report_49 : decode cX5_report 49 = .ok (.aload_n 0, 1) := by decide +kernel
theorem dX5_report_50 : decode cX5_report 50 = .ok (.getfield 12, 3) := by decide +kernel
theorem dX5_report_53 : decode cX5_report 53 = .ok (.invokevirtual 51, 3) := by decide +kernel
theorem dX5_report_56 : decode cX5_report 56 = .ok (.aload_n 3, 1) := by decide +kernel
theorem dX5_report_57 : decode cX5_report 57 = .ok (.dup, 1) := by decide +kernel
theorem dX5_report_58 : decode cX5_report 58 = .ok (.getfield 107, 3) := by decide +kernel
theorem dX5_report_61 : decode cX5_report 61 = .ok (.iload_n 2, 1) := by decide +kernel
theorem dX5_report_62 : decode cX5_report 62 = .ok (.iadd, 1) := by decide +kernel
theorem dX5_report_63 : decode cX5_report 63 = .ok (.putfield 107, 3) := by decide +kernel
theorem dX5_report_66 : decode cX5_report 66 = .ok (.aload_n 3, 1) := by decide +kernel
theorem dX5_report_67 : decode cX5_report 67 = .ok (.getfield 107, 3) := by decide +kernel
theorem dX5_report_70 : decode cX5_report 70 = .ok (.ireturn, 1) := by decide +kernel
theorem dX5_verify_0 : decode cX5_verify 0 = .ok (.aload_n 0, 1) := by decide +kernel
theorem dX5_verify_1 : decode cX5_verify 1 = .ok (.getfield 12, 3) := by decide +kernel
theorem dX5_verify_4 : decode cX5_verify 4 = .ok (.iload_n 1, 1) := by decide +kernel
theorem dX5_verify_5 : decode cX5_verify 5 = .ok (.invokevirtual 65, 3) := by decide +kernel
theorem dX5_verify_8 : decode cX5_verify 8 = .ok (.astore_n 2, 1) := by decide +kernel
theorem dX5_verify_9 : decode cX5_verify 9 = .ok (.aload_n 2, 1) := by decide +kernel
theorem dX5_verify_10 : decode cX5_verify 10 = .ok (.ifnonnull 5, 3) := by decide +kernel
theorem dX5_verify_13 : decode cX5_verify 13 = .ok (.iconst (-1), 1) := by decide +kernel
theorem dX5_verify_14 : decode cX5_verify 14 = .ok (.ireturn, 1) := by decide +kernel
theorem dX5_verify_15 : decode cX5_verify 15 = .ok (.aload_n 2, 1) := by decide +kernel
theorem dX5_verify_16 : decode cX5_verify 16 = .ok (.getfield 107, 3) := by decide +kernel
theorem dX5_verify_19 : decode cX5_verify 19 = .ok (.ifCond .ne 6, 3) := by decide +kernel
theorem dX5_verify_22 : decode cX5_verify 22 = .ok (.bipush (-5), 2) := by decide +kernel
theorem dX5_verify_24 : decode cX5_verify 24 = .ok (.ireturn, 1) := by decide +kernel
theorem dX5_verify_25 : decode cX5_verify 25 = .ok (.aload_n 0, 1) := by decide +kernel
theorem dX5_verify_26 : decode cX5_verify 26 = .ok (.getfield 25, 3) := by decide +kernel
theorem dX5_verify_29 : decode cX5_verify 29 = .ok (.aload_n 0, 1) := by decide +kernel
theorem dX5_verify_30 : decode cX5_verify 30 = .ok (.getfield 12, 3) := by decide +kernel
theorem dX5_verify_33 : decode cX5_verify 33 = .ok (.invokevirtual 51, 3) := by decide +kernel
theorem dX5_verify_36 : decode cX5_verify 36 = .ok (.aload_n 2, 1) := by decide +kernel
theorem dX5_verify_37 : decode cX5_verify 37 = .ok (.dup, 1) := by decide +kernel
theorem dX5_verify_38 : decode cX5_verify 38 = .ok (.getfield 110, 3) := by decide +kernel
theorem dX5_verify_41 : decode cX5_verify 41 = .ok (.aload_n 2, 1) := by decide +kernel
theorem dX5_verify_42 : decode cX5_verify 42 = .ok (.getfield 107, 3) := by decide +kernel
theorem dX5_verify_45 : decode cX5_verify 45 = .ok (.iadd, 1) := by decide +kernel
theorem dX5_verify_46 : decode cX5_verify 46 = .ok (.putfield 110, 3) := by decide +kernel
theorem dX5_verify_49 : decode cX5_verify 49 = .ok (.aload_n 2, 1) := by decide +kernel
theorem dX5_verify_50 : decode cX5_verify 50 = .ok (.iconst 0, 1) := by decide +kernel
theorem dX5_verify_51 : decode cX5_verify 51 = .ok (.putfield 107, 3) := by decide +kernel
theorem dX5_verify_54 : decode cX5_verify 54 = .ok (.aload_n 2, 1) := by decide +kernel
theorem dX5_verify_55 : decode cX5_verify 55 = .ok (.getfield 110, 3) := by decide +kernel
theorem dX5_verify_58 : decode cX5_verify 58 = .ok (.ireturn, 1) := by decide +kernel
theorem dX5_surrender_0 : decode cX5_surrender 0 = .ok (.aload_n 0, 1) := by decide +kernel
theorem dX5_surrender_1 : decode cX5_surrender 1 = .ok (.getfield 12, 3) := by decide +kernel
theorem dX5_surrender_4 : decode cX5_surrender 4 = .ok (.iload_n 1, 1) := by decide +kernel
theorem dX5_surrender_5 : decode cX5_surrender 5 = .ok (.invokevirtual 65, 3) := by decide +kernel
theorem dX5_surrender_8 : decode cX5_surrender 8 = .ok (.astore 4, 2) := by decide +kernel
theorem dX5_surrender_10 : decode cX5_surrender 10 = .ok (.aload 4, 2) := by decide +kernel
theorem dX5_surrender_12 : decode cX5_surrender 12 = .ok (.ifnonnull 5, 3) := by decide +kernel
theorem dX5_surrender_15 : decode cX5_surrender 15 = .ok (.iconst (-1), 1) := by decide +kernel
theorem dX5_surrender_16 : decode cX5_surrender 16 = .ok (.ireturn, 1) := by decide +kernel
theorem dX5_surrender_17 : decode cX5_surrender 17 = .ok (.iload_n 2, 1) := by decide +kernel
theorem dX5_surrender_18 : decode cX5_surrender 18 = .ok (.invokestatic 69, 3) := by decide +kernel
theorem dX5_surrender_21 : decode cX5_surrender 21 = .ok (.ifCond .eq 10, 3) := by decide +kernel
theorem dX5_surrender_24 : decode cX5_surrender 24 = .ok (.iload_n 3, 1) := by decide +kernel
theorem dX5_surrender_25 : decode cX5_surrender 25 = .ok (.invokestatic 113, 3) := by decide +kernel
theorem dX5_surrender_28 : decode cX5_surrender 28 = .ok (.ifCond .ne 6, 3) := by decide +kernel
theorem dX5_surrender_31 : decode cX5_surrender 31 = .ok (.bipush (-2), 2) := by decide +kernel
theorem dX5_surrender_33 : decode cX5_surrender 33 = .ok (.ireturn, 1) := by decide +kernel
theorem dX5_surrender_34 : decode cX5_surrender 34 = .ok (.aload 4, 2) := by decide +kernel
theorem dX5_surrender_36 : decode cX5_surrender 36 = .ok (.getfield 116, 3) := by decide +kernel
theorem dX5_surrender_39 : decode cX5_surrender 39 = .ok (.iload_n 2, 1) := by decide +kernel
theorem dX5_surrender_40 : decode cX5_surrender 40 = .ok (.if_icmp .ge 6, 3) := by decide +kernel
theorem dX5_surrender_43 : decode cX5_surrender 43 = .ok (.bipush (-4), 2) := by decide +kernel
theorem dX5_surrender_45 : decode cX5_surrender 45 = .ok (.ireturn, 1) := by decide +kernel
theorem dX5_surrender_46 : decode cX5_surrender 46 = .ok (.aload_n 0, 1) := by decide +kernel
theorem dX5_surrender_47 : decode cX5_surrender 47 = .ok (.getfield 32, 3) := by decide +kernel
theorem dX5_surrender_50 : decode cX5_surrender 50 = .ok (.aload 4, 2) := by decide +kernel
theorem dX5_surrender_52 : decode cX5_surrender 52 = .ok (.aload_n 0, 1) := by decide +kernel
theorem dX5_surrender_53 : decode cX5_surrender 53 = .ok (.getfield 12, 3) := by decide +kernel
theorem dX5_surrender_56 : decode cX5_surrender 56 = .ok (.getfield 62, 3) := by decide +kernel
theorem dX5_surrender_59 : decode cX5_surrender 59 = .ok (.iload_n 2, 1) := by decide +kernel
theorem dX5_surrender_60 : decode cX5_surrender 60 = .ok (.iload_n 3, 1) := by decide +kernel
theorem dX5_surrender_61 : decode cX5_surrender 61 = .ok (.invokevirtual 119, 3) := by decide +kernel
theorem dX5_surrender_64 : decode cX5_surrender 64 = .ok (.aload_n 0, 1) := by decide +kernel
theorem dX5_surrender_65 : decode cX5_surrender 65 = .ok (.getfield 32, 3) := by decide +kernel
theorem dX5_surrender_68 : decode cX5_surrender 68 = .ok (.getfield 123, 3) := by decide +kernel
theorem dX5_surrender_71 : decode cX5_surrender 71 = .ok (.ifCond .le 6, 3) := by decide +kernel
theorem dX5_surrender_74 : decode cX5_surrender 74 = .ok (.bipush (-4), 2) := by decide +kernel
theorem dX5_surrender_76 : decode cX5_surrender 76 = .ok (.ireturn, 1) := by decide +kernel
theorem dX5_surrender_77 : decode cX5_surrender 77 = .ok (.aload_n 0, 1) := by decide +kernel
theorem dX5_surrender_78 : decode cX5_surrender 78 = .ok (.getfield 25, 3) := by decide +kernel
theorem dX5_surrender_81 : decode cX5_surrender 81 = .ok (.aload_n 0, 1) := by decide +kernel
theorem dX5_surrender_82 : decode cX5_surrender 82 = .ok (.getfield 12, 3) := by decide +kernel
theorem dX5_surrender_85 : decode cX5_surrender 85 = .ok (.invokevirtual 51, 3) := by decide +kernel
theorem dX5_surrender_88 : decode cX5_surrender 88 = .ok (.aload_n 0, 1) := by decide +kernel
theorem dX5_surrender_89 : decode cX5_surrender 89 = .ok (.getfield 12, 3) := by decide +kernel
theorem dX5_surrender_92 : decode cX5_surrender 92 = .ok (.aload 4, 2) := by decide +kernel
theorem dX5_surrender_94 : decode cX5_surrender 94 = .ok (.aload_n 0, 1) := by decide +kernel
theorem dX5_surrender_95 : decode cX5_surrender 95 = .ok (.getfield 32, 3) := by decide +kernel
theorem dX5_surrender_98 : decode cX5_surrender 98 = .ok (.invokevirtual 126, 3) := by decide +kernel
theorem dX5_surrender_101 : decode cX5_surrender 101 = .ok (.aload 4, 2) := by decide +kernel
theorem dX5_surrender_103 : decode cX5_surrender 103 = .ok (.dup, 1) := by decide +kernel
theorem dX5_surrender_104 : decode cX5_surrender 104 = .ok (.getfield 116, 3) := by decide +kernel
theorem dX5_surrender_107 : decode cX5_surrender 107 = .ok (.iload_n 2, 1) := by decide +kernel
theorem dX5_surrender_108 : decode cX5_surrender 108 = .ok (.isub, 1) := by decide +kernel
theorem dX5_surrender_109 : decode cX5_surrender 109 = .ok (.putfield 116, 3) := by decide +kernel
theorem dX5_surrender_112 : decode cX5_surrender 112 = .ok (.aload 4, 2) := by decide +kernel
theorem dX5_surrender_114 : decode cX5_surrender 114 = .ok (.dup, 1) := by decide +kernel
theorem dX5_surrender_115 : decode cX5_surrender 115 = .ok (.getfield 130, 3) := by decide +kernel
theorem dX5_surrender_118 : decode cX5_surrender 118 = .ok (.iload_n 2, 1) := by decide +kernel
theorem dX5_surrender_119 : decode cX5_surrender 119 = .ok (.iadd, 1) := by decide +kernel
theorem dX5_surrender_120 : decode cX5_surrender 120 = .ok (.putfield 130, 3) := by decide +kernel
theorem dX5_surrender_123 : decode cX5_surrender 123 = .ok (.aload 4, 2) := by decide +kernel
theorem dX5_surrender_125 : decode cX5_surrender 125 = .ok (.getfield 116, 3) := by decide +kernel
theorem dX5_surrender_128 : decode cX5_surrender 128 = .ok (.ireturn, 1) := by decide +kernel
theorem dX5_pass_0 : decode cX5_pass 0 = .ok (.iload_n 1, 1) := by decide +kernel
theorem dX5_pass_1 : decode cX5_pass 1 = .ok (.iconst 1, 1) := by decide +kernel
theorem dX5_pass_2 : decode cX5_pass 2 = .ok (.if_icmp .lt 9, 3) := by decide +kernel
theorem dX5_pass_5 : decode cX5_pass 5 = .ok (.iload_n 1, 1) := by decide +kernel
theorem dX5_pass_6 : decode cX5_pass 6 = .ok (.bipush 24, 2) := by decide +kernel
theorem dX5_pass_8 : decode cX5_pass 8 = .ok (.if_icmp .le 6, 3) := by decide +kernel
theorem dX5_pass_11 : decode cX5_pass 11 = .ok (.bipush (-2), 2) := by decide +kernel
theorem dX5_pass_13 : decode cX5_pass 13 = .ok (.ireturn, 1) := by decide +kernel
theorem dX5_pass_14 : decode cX5_pass 14 = .ok (.aload_n 0, 1) := by decide +kernel
theorem dX5_pass_15 : decode cX5_pass 15 = .ok (.getfield 12, 3) := by decide +kernel
theorem dX5_pass_18 : decode cX5_pass 18 = .ok (.getfield 133, 3) := by decide +kernel
theorem dX5_pass_21 : decode cX5_pass 21 = .ok (.iload_n 1, 1) := by decide +kernel
theorem dX5_pass_22 : decode cX5_pass 22 = .ok (.iadd, 1) := by decide +kernel
theorem dX5_pass_23 : decode cX5_pass 23 = .ok (.sipush 239, 3) := by decide +kernel
theorem dX5_pass_26 : decode cX5_pass 26 = .ok (.if_icmp .le 6, 3) := by decide +kernel
theorem dX5_pass_29 : decode cX5_pass 29 = .ok (.bipush (-4), 2) := by decide +kernel
theorem dX5_pass_31 : decode cX5_pass 31 = .ok (.ireturn, 1) := by decide +kernel
theorem dX5_pass_32 : decode cX5_pass 32 = .ok (.aload_n 0, 1) := by decide +kernel
theorem dX5_pass_33 : decode cX5_pass 33 = .ok (.getfield 25, 3) := by decide +kernel
theorem dX5_pass_36 : decode cX5_pass 36 = .ok (.aload_n 0, 1) := by decide +kernel
theorem dX5_pass_37 : decode cX5_pass 37 = .ok (.getfield 12, 3) := by decide +kernel
theorem dX5_pass_40 : decode cX5_pass 40 = .ok (.invokevirtual 51, 3) := by decide +kernel
theorem dX5_pass_43 : decode cX5_pass 43 = .ok (.iconst 0, 1) := by decide +kernel
theorem dX5_pass_44 : decode cX5_pass 44 = .ok (.istore_n 2, 1) := by decide +kernel
theorem dX5_pass_45 : decode cX5_pass 45 = .ok (.iconst 0, 1) := by decide +kernel
theorem dX5_pass_46 : decode cX5_pass 46 = .ok (.istore_n 3, 1) := by decide +kernel
theorem dX5_pass_47 : decode cX5_pass 47 = .ok (.iload_n 3, 1) := by decide +kernel
theorem dX5_pass_48 : decode cX5_pass 48 = .ok (.iload_n 1, 1) := by decide +kernel
theorem dX5_pass_49 : decode cX5_pass 49 = .ok (.if_icmp .ge 19, 3) := by decide +kernel
theorem dX5_pass_52 : decode cX5_pass 52 = .ok (.iload_n 2, 1) := by decide +kernel
theorem dX5_pass_53 : decode cX5_pass 53 = .ok (.aload_n 0, 1) := by decide +kernel
theorem dX5_pass_54 : decode cX5_pass 54 = .ok (.getfield 12, 3) := by decide +kernel
theorem dX5_pass_57 : decode cX5_pass 57 = .ok (.invokevirtual 136, 3) := by decide +kernel
theorem dX5_pass_60 : decode cX5_pass 60 = .ok (.iadd, 1) := by decide +kernel
theorem dX5_pass_61 : decode cX5_pass 61 = .ok (.istore_n 2, 1) := by decide +kernel
theorem dX5_pass_62 : decode cX5_pass 62 = .ok (.iinc 3 1, 3) := by decide +kernel
theorem dX5_pass_65 : decode cX5_pass 65 = .ok (.goto (-18), 3) := by decide +kernel
theorem dX5_pass_68 : decode cX5_pass 68 = .ok (.iload_n 2, 1) := by decide +kernel
theorem dX5_pass_69 : decode cX5_pass 69 = .ok (.ireturn, 1) := by decide +kernel
theorem dX5_type_0 : decode cX5_type 0 = .ok (.aload_n 0, 1) := by decide +kernel
theorem dX5_type_1 : decode cX5_type 1 = .ok (.getfield 39, 3) := by decide +kernel
theorem dX5_type_4 : decode cX5_type 4 = .ok (.getfield 139, 3) := by decide +kernel
theorem dX5_type_7 : decode cX5_type 7 = .ok (.bipush 60, 2) := by decide +kernel
theorem dX5_type_9 : decode cX5_type 9 = .ok (.if_icmp .lt 6, 3) := by decide +kernel
theorem dX5_type_12 : decode cX5_type 12 = .ok (.bipush (-3), 2) := by decide +kernel
theorem dX5_type_14 : decode cX5_type 14 = .ok (.ireturn, 1) := by decide +kernel
theorem dX5_type_15 : decode cX5_type 15 = .ok (.aload_n 0, 1) := by decide +kernel
theorem dX5_type_16 : decode cX5_type 16 = .ok (.getfield 39, 3) := by decide +kernel
theorem dX5_type_19 : decode cX5_type 19 = .ok (.getfield 142, 3) := by decide +kernel
theorem dX5_type_22 : decode cX5_type 22 = .ok (.aload_n 0, 1) := by decide +kernel
theorem dX5_type_23 : decode cX5_type 23 = .ok (.getfield 39, 3) := by decide +kernel
theorem dX5_type_26 : decode cX5_type 26 = .ok (.getfield 139, 3) := by decide +kernel
theorem dX5_type_29 : decode cX5_type 29 = .ok (.iload_n 1, 1) := by decide +kernel
theorem dX5_type_30 : decode cX5_type 30 = .ok (.castore, 1) := by decide +kernel
theorem dX5_type_31 : decode cX5_type 31 = .ok (.aload_n 0, 1) := by decide +kernel
theorem dX5_type_32 : decode cX5_type 32 = .ok (.getfield 39, 3) := by decide +kernel
theorem dX5_type_35 : decode cX5_type 35 = .ok (.dup, 1) := by decide +kernel
theorem dX5_type_36 : decode cX5_type 36 = .ok (.getfield 139, 3) := by decide +kernel
theorem dX5_type_39 : decode cX5_type 39 = .ok (.iconst 1, 1) := by decide +kernel
theorem dX5_type_40 : decode cX5_type 40 = .ok (.iadd, 1) := by decide +kernel
theorem dX5_type_41 : decode cX5_type 41 = .ok (.putfield 139, 3) := by decide +kernel
theorem dX5_type_44 : decode cX5_type 44 = .ok (.aload_n 0, 1) := by decide +kernel
theorem dX5_type_45 : decode cX5_type 45 = .ok (.getfield 39, 3) := by decide +kernel
theorem dX5_type_48 : decode cX5_type 48 = .ok (.getfield 139, 3) := by decide +kernel
theorem dX5_type_51 : decode cX5_type 51 = .ok (.ireturn, 1) := by decide +kernel
theorem dX5_clearText_0 : decode cX5_clearText 0 = .ok (.aload_n 0, 1) := by decide +kernel
theorem dX5_clearText_1 : decode cX5_clearText 1 = .ok (.getfield 39, 3) := by decide +kernel
theorem dX5_clearText_4 : decode cX5_clearText 4 = .ok (.getfield 139, 3) := by decide +kernel
theorem dX5_clearText_7 : decode cX5_clearText 7 = .ok (.istore_n 1, 1) := by decide +kernel
theorem dX5_clearText_8 : decode cX5_clearText 8 = .ok (.aload_n 0, 1) := by decide +kernel
theorem dX5_clearText_9 : decode cX5_clearText 9 = .ok (.getfield 39, 3) := by decide +kernel
theorem dX5_clearText_12 : decode cX5_clearText 12 = .ok (.iconst 0, 1) := by decide +kernel
theorem dX5_clearText_13 : decode cX5_clearText 13 = .ok (.putfield 139, 3) := by decide +kernel
theorem dX5_clearText_16 : decode cX5_clearText 16 = .ok (.iload_n 1, 1) := by decide +kernel
theorem dX5_clearText_17 : decode cX5_clearText 17 = .ok (.ireturn, 1) := by decide +kernel
theorem dX5_readTransfers_0 : decode cX5_readTransfers 0 = .ok (.aload_n 0, 1) := by decide +kernel
theorem dX5_readTransfers_1 : decode cX5_readTransfers 1 = .ok (.getfield 39, 3) := by decide +kernel
theorem dX5_readTransfers_4 : decode cX5_readTransfers 4 = .ok (.invokevirtual 146, 3) := by decide +kernel
theorem dX5_readTransfers_7 : decode cX5_readTransfers 7 = .ok (.ifCond .ne 14, 3) := by decide +kernel
theorem dX5_readTransfers_10 : decode cX5_readTransfers 10 = .ok (.bipush (-100), 2) := by decide +kernel
theorem dX5_readTransfers_12 : decode cX5_readTransfers 12 = .ok (.aload_n 0, 1) := by decide +kernel
theorem dX5_readTransfers_13 : decode cX5_readTransfers 13 = .ok (.getfield 39, 3) := by decide +kernel
theorem dX5_readTransfers_16 : decode cX5_readTransfers 16 = .ok (.getfield 150, 3) := by decide +kernel
theorem dX5_readTransfers_19 : decode cX5_readTransfers 19 = .ok (.isub, 1) := by decide +kernel
theorem dX5_readTransfers_20 : decode cX5_readTransfers 20 = .ok (.ireturn, 1) := by decide +kernel
theorem dX5_readTransfers_21 : decode cX5_readTransfers 21 = .ok (.aload_n 0, 1) := by decide +kernel
theorem dX5_readTransfers_22 : decode cX5_readTransfers 22 = .ok (.getfield 12, 3) := by decide +kernel
theorem dX5_readTransfers_25 : decode cX5_readTransfers 25 = .ok (.aload_n 0, 1) := by decide +kernel
theorem dX5_readTransfers_26 : decode cX5_readTransfers 26 = .ok (.getfield 19, 3) := by decide +kernel
theorem dX5_readTransfers_29 : decode cX5_readTransfers 29 = .ok (.invokestatic 153, 3) := by decide +kernel
theorem dX5_readTransfers_32 : decode cX5_readTransfers 32 = .ok (.iconst 0, 1) := by decide +kernel
theorem dX5_readTransfers_33 : decode cX5_readTransfers 33 = .ok (.istore_n 1, 1) := by decide +kernel
theorem dX5_readTransfers_34 : decode cX5_readTransfers 34 = .ok (.iload_n 1, 1) := by decide +kernel
theorem dX5_readTransfers_35 : decode cX5_readTransfers 35 = .ok (.aload_n 0, 1) := by decide +kernel
theorem dX5_readTransfers_36 : decode cX5_readTransfers 36 = .ok (.getfield 39, 3) := by decide +kernel
theorem dX5_readTransfers_39 : decode cX5_readTransfers 39 = .ok (.getfield 157, 3) := by decide +kernel
theorem dX5_readTransfers_42 : decode cX5_readTransfers 42 = .ok (.if_icmp .ge 103, 3) := by decide +kernel
theorem dX5_readTransfers_45 : decode cX5_readTransfers 45 = .ok (.aload_n 0, 1) := by decide +kernel
theorem dX5_readTransfers_46 : decode cX5_readTransfers 46 = .ok (.getfield 19, 3) := by decide +kernel
theorem dX5_readTransfers_49 : decode cX5_readTransfers 49 = .ok (.aload_n 0, 1) := by decide +kernel
theorem dX5_readTransfers_50 : decode cX5_readTransfers 50 = .ok (.getfield 39, 3) := by decide +kernel
theorem dX5_readTransfers_53 : decode cX5_readTransfers 53 = .ok (.getfield 160, 3) := by decide +kernel
theorem dX5_readTransfers_56 : decode cX5_readTransfers 56 = .ok (.iload_n 1, 1) := by decide +kernel
theorem dX5_readTransfers_57 : decode cX5_readTransfers 57 = .ok (.iaload, 1) := by decide +kernel
theorem dX5_readTransfers_58 : decode cX5_readTransfers 58 = .ok (.aload_n 0, 1) := by decide +kernel
theorem dX5_readTransfers_59 : decode cX5_readTransfers 59 = .ok (.getfield 39, 3) := by decide +kernel
theorem dX5_readTransfers_62 : decode cX5_readTransfers 62 = .ok (.getfield 163, 3) := by decide +kernel
theorem dX5_readTransfers_65 : decode cX5_readTransfers 65 = .ok (.iload_n 1, 1) := by decide +kernel
theorem dX5_readTransfers_66 : decode cX5_readTransfers 66 = .ok (.iaload, 1) := by decide +kernel
theorem dX5_readTransfers_67 : decode cX5_readTransfers 67 = .ok (.aload_n 0, 1) := by decide +kernel
theorem dX5_readTransfers_68 : decode cX5_readTransfers 68 = .ok (.getfield 39, 3) := by decide +kernel
theorem dX5_readTransfers_71 : decode cX5_readTransfers 71 = .ok (.getfield 166, 3) := by decide +kernel
theorem dX5_readTransfers_74 : decode cX5_readTransfers 74 = .ok (.iload_n 1, 1) := by decide +kernel
theorem dX5_readTransfers_75 : decode cX5_readTransfers 75 = .ok (.iaload, 1) := by decide +kernel
theorem dX5_readTransfers_76 : decode cX5_readTransfers 76 = .ok (.aload_n 0, 1) := by decide +kernel
theorem dX5_readTransfers_77 : decode cX5_readTransfers 77 = .ok (.getfield 39, 3) := by decide +kernel
theorem dX5_readTransfers_80 : decode cX5_readTransfers 80 = .ok (.getfield 169, 3) := by decide +kernel
theorem dX5_readTransfers_83 : decode cX5_readTransfers 83 = .ok (.iload_n 1, 1) := by decide +kernel
theorem dX5_readTransfers_84 : decode cX5_readTransfers 84 = .ok (.iaload, 1) := by decide +kernel
theorem dX5_readTransfers_85 : decode cX5_readTransfers 85 = .ok (.invokevirtual 94, 3) := by decide +kernel
theorem dX5_readTransfers_88 : decode cX5_readTransfers 88 = .ok (.istore_n 2, 1) := by decide +kernel
theorem dX5_readTransfers_89 : decode cX5_readTransfers 89 = .ok (.iload_n 2, 1) := by decide +kernel
theorem dX5_readTransfers_90 : decode cX5_readTransfers 90 = .ok (.ifCond .eq 5, 3) := by decide +kernel
theorem dX5_readTransfers_93 : decode cX5_readTransfers 93 = .ok (.iload_n 2, 1) := by decide +kernel
theorem dX5_readTransfers_94 : decode cX5_readTransfers 94 = .ok (.ireturn, 1) := by decide +kernel
theorem dX5_readTransfers_95 : decode cX5_readTransfers 95 = .ok (.aload_n 0, 1) := by decide +kernel
theorem dX5_readTransfers_96 : decode cX5_readTransfers 96 = .ok (.getfield 19, 3) := by decide +kernel
theorem dX5_readTransfers_99 : decode cX5_readTransfers 99 = .ok (.aload_n 0, 1) := by decide +kernel
theorem dX5_readTransfers_100 : decode cX5_readTransfers 100 = .ok (.getfield 39, 3) := by decide +kernel
theorem dX5_readTransfers_103 : decode cX5_readTransfers 103 = .ok (.getfield 160, 3) := by decide +kernel
theorem dX5_readTransfers_106 : decode cX5_readTransfers 106 = .ok (.iload_n 1, 1) := by decide +kernel
theorem dX5_readTransfers_107 : decode cX5_readTransfers 107 = .ok (.iaload, 1) := by decide +kernel
theorem dX5_readTransfers_108 : decode cX5_readTransfers 108 = .ok (.aload_n 0, 1) := by decide +kernel
theorem dX5_readTransfers_109 : decode cX5_readTransfers 109 = .ok (.getfield 39, 3) := by decide +kernel
theorem dX5_readTransfers_112 : decode cX5_readTransfers 112 = .ok (.getfield 163, 3) := by decide +kernel
theorem dX5_readTransfers_115 : decode cX5_readTransfers 115 = .ok (.iload_n 1, 1) := by decide +kernel
theorem dX5_readTransfers_116 : decode cX5_readTransfers 116 = .ok (.iaload, 1) := by decide +kernel
theorem dX5_readTransfers_117 : decode cX5_readTransfers 117 = .ok (.aload_n 0, 1) := by decide +kernel
theorem dX5_readTransfers_118 : decode cX5_readTransfers 118 = .ok (.getfield 39, 3) := by decide +kernel
theorem dX5_readTransfers_121 : decode cX5_readTransfers 121 = .ok (.getfield 166, 3) := by decide +kernel
theorem dX5_readTransfers_124 : decode cX5_readTransfers 124 = .ok (.iload_n 1, 1) := by decide +kernel
theorem dX5_readTransfers_125 : decode cX5_readTransfers 125 = .ok (.iaload, 1) := by decide +kernel
theorem dX5_readTransfers_126 : decode cX5_readTransfers 126 = .ok (.aload_n 0, 1) := by decide +kernel
theorem dX5_readTransfers_127 : decode cX5_readTransfers 127 = .ok (.getfield 39, 3) := by decide +kernel
theorem dX5_readTransfers_130 : decode cX5_readTransfers 130 = .ok (.getfield 169, 3) := by decide +kernel
theorem dX5_readTransfers_133 : decode cX5_readTransfers 133 = .ok (.iload_n 1, 1) := by decide +kernel
theorem dX5_readTransfers_134 : decode cX5_readTransfers 134 = .ok (.iaload, 1) := by decide +kernel
theorem dX5_readTransfers_135 : decode cX5_readTransfers 135 = .ok (.invokevirtual 98, 3) := by decide +kernel
theorem dX5_readTransfers_138 : decode cX5_readTransfers 138 = .ok (.pop, 1) := by decide +kernel
theorem dX5_readTransfers_139 : decode cX5_readTransfers 139 = .ok (.iinc 1 1, 3) := by decide +kernel
theorem dX5_readTransfers_142 : decode cX5_readTransfers 142 = .ok (.goto (-108), 3) := by decide +kernel
theorem dX5_readTransfers_145 : decode cX5_readTransfers 145 = .ok (.aload_n 0, 1) := by decide +kernel
theorem dX5_readTransfers_146 : decode cX5_readTransfers 146 = .ok (.getfield 25, 3) := by decide +kernel
theorem dX5_readTransfers_149 : decode cX5_readTransfers 149 = .ok (.aload_n 0, 1) := by decide +kernel
theorem dX5_readTransfers_150 : decode cX5_readTransfers 150 = .ok (.getfield 12, 3) := by decide +kernel
theorem dX5_readTransfers_153 : decode cX5_readTransfers 153 = .ok (.invokevirtual 51, 3) := by decide +kernel
theorem dX5_readTransfers_156 : decode cX5_readTransfers 156 = .ok (.aload_n 0, 1) := by decide +kernel
theorem dX5_readTransfers_157 : decode cX5_readTransfers 157 = .ok (.getfield 19, 3) := by decide +kernel
theorem dX5_readTransfers_160 : decode cX5_readTransfers 160 = .ok (.aload_n 0, 1) := by decide +kernel
theorem dX5_readTransfers_161 : decode cX5_readTransfers 161 = .ok (.getfield 12, 3) := by decide +kernel
theorem dX5_readTransfers_164 : decode cX5_readTransfers 164 = .ok (.invokestatic 153, 3) := by decide +kernel
theorem dX5_readTransfers_167 : decode cX5_readTransfers 167 = .ok (.aload_n 0, 1) := by decide +kernel
theorem dX5_readTransfers_168 : decode cX5_readTransfers 168 = .ok (.getfield 39, 3) := by decide +kernel
theorem dX5_readTransfers_171 : decode cX5_readTransfers 171 = .ok (.getfield 157, 3) := by decide +kernel
theorem dX5_readTransfers_174 : decode cX5_readTransfers 174 = .ok (.ireturn, 1) := by decide +kernel
theorem dX5_undo_0 : decode cX5_undo 0 = .ok (.aload_n 0, 1) := by decide +kernel
theorem dX5_undo_1 : decode cX5_undo 1 = .ok (.getfield 25, 3) := by decide +kernel
theorem dX5_undo_4 : decode cX5_undo 4 = .ok (.getfield 172, 3) := by decide +kernel
theorem dX5_undo_7 : decode cX5_undo 7 = .ok (.ifCond .ne 6, 3) := by decide +kernel
theorem dX5_undo_10 : decode cX5_undo 10 = .ok (.bipush (-5), 2) := by decide +kernel
theorem dX5_undo_12 : decode cX5_undo 12 = .ok (.ireturn, 1) := by decide +kernel
theorem dX5_undo_13 : decode cX5_undo 13 = .ok (.aload_n 0, 1) := by decide +kernel
theorem dX5_undo_14 : decode cX5_undo 14 = .ok (.getfield 25, 3) := by decide +kernel
theorem dX5_undo_17 : decode cX5_undo 17 = .ok (.aload_n 0, 1) := by decide +kernel
theorem dX5_undo_18 : decode cX5_undo 18 = .ok (.getfield 12, 3) := by decide +kernel
theorem dX5_undo_21 : decode cX5_undo 21 = .ok (.invokevirtual 175, 3) := by decide +kernel
theorem dX5_undo_24 : decode cX5_undo 24 = .ok (.aload_n 0, 1) := by decide +kernel
theorem dX5_undo_25 : decode cX5_undo 25 = .ok (.getfield 25, 3) := by decide +kernel
theorem dX5_undo_28 : decode cX5_undo 28 = .ok (.getfield 172, 3) := by decide +kernel
theorem dX5_undo_31 : decode cX5_undo 31 = .ok (.ireturn, 1) := by decide +kernel
theorem dX5_keep_0 : decode cX5_keep 0 = .ok (.aload_n 0, 1) := by decide +kernel
theorem dX5_keep_1 : decode cX5_keep 1 = .ok (.getfield 12, 3) := by decide +kernel
theorem dX5_keep_4 : decode cX5_keep 4 = .ok (.aload_n 0, 1) := by decide +kernel
theorem dX5_keep_5 : decode cX5_keep 5 = .ok (.getfield 16, 3) := by decide +kernel
theorem dX5_keep_8 : decode cX5_keep 8 = .ok (.invokestatic 153, 3) := by decide +kernel
theorem dX5_keep_11 : decode cX5_keep 11 = .ok (.aload_n 0, 1) := by decide +kernel
theorem dX5_keep_12 : decode cX5_keep 12 = .ok (.iconst 1, 1) := by decide +kernel
theorem dX5_keep_13 : decode cX5_keep 13 = .ok (.putfield 43, 3) := by decide +kernel
theorem dX5_keep_16 : decode cX5_keep 16 = .ok (.aload_n 0, 1) := by decide +kernel
theorem dX5_keep_17 : decode cX5_keep 17 = .ok (.getfield 12, 3) := by decide +kernel
theorem dX5_keep_20 : decode cX5_keep 20 = .ok (.getfield 133, 3) := by decide +kernel
theorem dX5_keep_23 : decode cX5_keep 23 = .ok (.ireturn, 1) := by decide +kernel
theorem dX5_restore_0 : decode cX5_restore 0 = .ok (.aload_n 0, 1) := by decide +kernel
theorem dX5_restore_1 : decode cX5_restore 1 = .ok (.getfield 43, 3) := by decide +kernel
theorem dX5_restore_4 : decode cX5_restore 4 = .ok (.ifCond .ne 6, 3) := by decide +kernel
theorem dX5_restore_7 : decode cX5_restore 7 = .ok (.bipush (-5), 2) := by decide +kernel
theorem dX5_restore_9 : decode cX5_restore 9 = .ok (.ireturn, 1) := by decide +kernel
theorem dX5_restore_10 : decode cX5_restore 10 = .ok (.aload_n 0, 1) := by decide +kernel
theorem dX5_restore_11 : decode cX5_restore 11 = .ok (.getfield 25, 3) := by decide +kernel
theorem dX5_restore_14 : decode cX5_restore 14 = .ok (.aload_n 0, 1) := by decide +kernel
theorem dX5_restore_15 : decode cX5_restore 15 = .ok (.getfield 12, 3) := by decide +kernel
theorem dX5_restore_18 : decode cX5_restore 18 = .ok (.invokevirtual 51, 3) := by decide +kernel
theorem dX5_restore_21 : decode cX5_restore 21 = .ok (.aload_n 0, 1) := by decide +kernel
theorem dX5_restore_22 : decode cX5_restore 22 = .ok (.getfield 16, 3) := by decide +kernel
theorem dX5_restore_25 : decode cX5_restore 25 = .ok (.aload_n 0, 1) := by decide +kernel
theorem dX5_restore_26 : decode cX5_restore 26 = .ok (.getfield 12, 3) := by decide +kernel
theorem dX5_restore_29 : decode cX5_restore 29 = .ok (.invokestatic 153, 3) := by decide +kernel
theorem dX5_restore_32 : decode cX5_restore 32 = .ok (.aload_n 0, 1) := by decide +kernel
theorem dX5_restore_33 : decode cX5_restore 33 = .ok (.getfield 12, 3) := by decide +kernel
theorem dX5_restore_36 : decode cX5_restore 36 = .ok (.getfield 133, 3) := by decide +kernel
theorem dX5_restore_39 : decode cX5_restore 39 = .ok (.ireturn, 1) := by decide +kernel
theorem dX5_firm_0 : decode cX5_firm 0 = .ok (.aload_n 0, 1) := by decide +kernel
theorem dX5_firm_1 : decode cX5_firm 1 = .ok (.getfield 12, 3) := by decide +kernel
theorem dX5_firm_4 : decode cX5_firm 4 = .ok (.iload_n 1, 1) := by decide +kernel
theorem dX5_firm_5 : decode cX5_firm 5 = .ok (.invokevirtual 65, 3) := by decide +kernel
theorem dX5_firm_8 : decode cX5_firm 8 = .ok (.astore_n 3, 1) := by decide +kernel
theorem dX5_firm_9 : decode cX5_firm 9 = .ok (.aload_n 3, 1) := by decide +kernel
theorem dX5_firm_10 : decode cX5_firm 10 = .ok (.ifnonnull 5, 3) := by decide +kernel
theorem dX5_firm_13 : decode cX5_firm 13 = .ok (.iconst (-1), 1) := by decide +kernel
theorem dX5_firm_14 : decode cX5_firm 14 = .ok (.ireturn, 1) := by decide +kernel
theorem dX5_firm_15 : decode cX5_firm 15 = .ok (.iload_n 2, 1) := by decide +kernel
theorem dX5_firm_16 : decode cX5_firm 16 = .ok (.tableswitch 122 0 10 #[60, 65, 70, 75, 80, 85, 90, 95, 100, 105, 110], 60) := by decide +kernel
theorem dX5_firm_76 : decode cX5_firm 76 = .ok (.aload_n 3, 1) := by decide +kernel
theorem dX5_firm_77 : decode cX5_firm 77 = .ok (.invokevirtual 178, 3) := by decide +kernel
theorem dX5_firm_80 : decode cX5_firm 80 = .ok (.ireturn, 1) := by decide +kernel
theorem dX5_firm_81 : decode cX5_firm 81 = .ok (.aload_n 3, 1) := by decide +kernel
theorem dX5_firm_82 : decode cX5_firm 82 = .ok (.invokevirtual 181, 3) := by decide +kernel
theorem dX5_firm_85 : decode cX5_firm 85 = .ok (.ireturn, 1) := by decide +kernel
theorem dX5_firm_86 : decode cX5_firm 86 = .ok (.aload_n 3, 1) := by decide +kernel
theorem dX5_firm_87 : decode cX5_firm 87 = .ok (.invokevirtual 184, 3) := by decide +kernel
theorem dX5_firm_90 : decode cX5_firm 90 = .ok (.ireturn, 1) := by decide +kernel
theorem dX5_firm_91 : decode cX5_firm 91 = .ok (.aload_n 3, 1) := by decide +kernel
theorem dX5_firm_92 : decode cX5_firm 92 = .ok (.invokevirtual 187, 3) := by decide +kernel
theorem dX5_firm_95 : decode cX5_firm 95 = .ok (.ireturn, 1) := by decide +kernel
theorem dX5_firm_96 : decode cX5_firm 96 = .ok (.aload_n 3, 1) := by decide +kernel
theorem dX5_firm_97 : decode cX5_firm 97 = .ok (.getfield 107, 3) := by decide +kernel
theorem dX5_firm_100 : decode cX5_firm 100 = .ok (.ireturn, 1) := by decide +kernel
theorem dX5_firm_101 : decode cX5_firm 101 = .ok (.aload_n 3, 1) := by decide +kernel
theorem dX5_firm_102 : decode cX5_firm 102 = .ok (.getfield 110, 3) := by decide +kernel
theorem dX5_firm_105 : decode cX5_firm 105 = .ok (.ireturn, 1) := by decide +kernel
theorem dX5_firm_106 : decode cX5_firm 106 = .ok (.aload_n 3, 1) := by decide +kernel
theorem dX5_firm_107 : decode cX5_firm 107 = .ok (.getfield 190, 3) := by decide +kernel
theorem dX5_firm_110 : decode cX5_firm 110 = .ok (.ireturn, 1) := by decide +kernel
theorem dX5_firm_111 : decode cX5_firm 111 = .ok (.aload_n 3, 1) := by decide +kernel
theorem dX5_firm_112 : decode cX5_firm 112 = .ok (.getfield 116, 3) := by decide +kernel
theorem dX5_firm_115 : decode cX5_firm 115 = .ok (.ireturn, 1) := by decide +kernel
theorem dX5_firm_116 : decode cX5_firm 116 = .ok (.aload_n 3, 1) := by decide +kernel
theorem dX5_firm_117 : decode cX5_firm 117 = .ok (.getfield 130, 3) := by decide +kernel
theorem dX5_firm_120 : decode cX5_firm 120 = .ok (.ireturn, 1) := by decide +kernel
theorem dX5_firm_121 : decode cX5_firm 121 = .ok (.aload_n 3, 1) := by decide +kernel
theorem dX5_firm_122 : decode cX5_firm 122 = .ok (.getfield 193, 3) := by decide +kernel
theorem dX5_firm_125 : decode cX5_firm 125 = .ok (.ireturn, 1) := by decide +kernel
theorem dX5_firm_126 : decode cX5_firm 126 = .ok (.aload_n 3, 1) := by decide +kernel
theorem dX5_firm_127 : decode cX5_firm 127 = .ok (.aload_n 0, 1) := by decide +kernel
theorem dX5_firm_128 : decode cX5_firm 128 = .ok (.getfield 12, 3) := by decide +kernel
theorem dX5_firm_131 : decode cX5_firm 131 = .ok (.getfield 62, 3) := by decide +kernel
theorem dX5_firm_134 : decode cX5_firm 134 = .ok (.invokevirtual 196, 3) := by decide +kernel
theorem dX5_firm_137 : decode cX5_firm 137 = .ok (.ireturn, 1) := by decide +kernel
theorem dX5_firm_138 : decode cX5_firm 138 = .ok (.bipush (-2), 2) := by decide +kernel
theorem dX5_firm_140 : decode cX5_firm 140 = .ok (.ireturn, 1) := by decide +kernel
theorem dX5_holds_0 : decode cX5_holds 0 = .ok (.aload_n 0, 1) := by decide +kernel
theorem dX5_holds_1 : decode cX5_holds 1 = .ok (.getfield 12, 3) := by decide +kernel
theorem dX5_holds_4 : decode cX5_holds 4 = .ok (.iload_n 1, 1) := by decide +kernel
theorem dX5_holds_5 : decode cX5_holds 5 = .ok (.invokevirtual 65, 3) := by decide +kernel
theorem dX5_holds_8 : decode cX5_holds 8 = .ok (.astore_n 3, 1) := by decide +kernel
theorem dX5_holds_9 : decode cX5_holds 9 = .ok (.aload_n 3, 1) := by decide +kernel
theorem dX5_holds_10 : decode cX5_holds 10 = .ok (.ifnull 10, 3) := by decide +kernel
theorem dX5_holds_13 : decode cX5_holds 13 = .ok (.iload_n 2, 1) := by decide +kernel
theorem dX5_holds_14 : decode cX5_holds 14 = .ok (.invokestatic 101, 3) := by decide +kernel
theorem dX5_holds_17 : decode cX5_holds 17 = .ok (.ifCond .ne 5, 3) := by decide +kernel
theorem dX5_holds_20 : decode cX5_holds 20 = .ok (.iconst (-1), 1) := by decide +kernel
theorem dX5_holds_21 : decode cX5_holds 21 = .ok (.ireturn, 1) := by decide +kernel
theorem dX5_holds_22 : decode cX5_holds 22 = .ok (.aload_n 3, 1) := by decide +kernel
theorem dX5_holds_23 : decode cX5_holds 23 = .ok (.getfield 77, 3) := by decide +kernel
theorem dX5_holds_26 : decode cX5_holds 26 = .ok (.iload_n 2, 1) := by decide +kernel
theorem dX5_holds_27 : decode cX5_holds 27 = .ok (.iaload, 1) := by decide +kernel
theorem dX5_holds_28 : decode cX5_holds 28 = .ok (.ireturn, 1) := by decide +kernel
theorem dX5_offsets_0 : decode cX5_offsets 0 = .ok (.aload_n 0, 1) := by decide +kernel
theorem dX5_offsets_1 : decode cX5_offsets 1 = .ok (.getfield 12, 3) := by decide +kernel
theorem dX5_offsets_4 : decode cX5_offsets 4 = .ok (.iload_n 1, 1) := by decide +kernel
theorem dX5_offsets_5 : decode cX5_offsets 5 = .ok (.invokevirtual 65, 3) := by decide +kernel
theorem dX5_offsets_8 : decode cX5_offsets 8 = .ok (.astore 4, 2) := by decide +kernel
theorem dX5_offsets_10 : decode cX5_offsets 10 = .ok (.aload 4, 2) := by decide +kernel
theorem dX5_offsets_12 : decode cX5_offsets 12 = .ok (.ifnull 10, 3) := by decide +kernel
theorem dX5_offsets_15 : decode cX5_offsets 15 = .ok (.iload_n 2, 1) := by decide +kernel
theorem dX5_offsets_16 : decode cX5_offsets 16 = .ok (.invokestatic 85, 3) := by decide +kernel
theorem dX5_offsets_19 : decode cX5_offsets 19 = .ok (.ifCond .ne 5, 3) := by decide +kernel
theorem dX5_offsets_22 : decode cX5_offsets 22 = .ok (.iconst (-1), 1) := by decide +kernel
theorem dX5_offsets_23 : decode cX5_offsets 23 = .ok (.ireturn, 1) := by decide +kernel
theorem dX5_offsets_24 : decode cX5_offsets 24 = .ok (.iload_n 3, 1) := by decide +kernel
theorem dX5_offsets_25 : decode cX5_offsets 25 = .ok (.tableswitch 59 0 2 #[27, 35, 51], 27) := by decide +kernel
theorem dX5_offsets_52 : decode cX5_offsets 52 = .ok (.aload 4, 2) := by decide +kernel
theorem dX5_offsets_54 : decode cX5_offsets 54 = .ok (.getfield 88, 3) := by decide +kernel
theorem dX5_offsets_57 : decode cX5_offsets 57 = .ok (.iload_n 2, 1) := by decide +kernel
theorem dX5_offsets_58 : decode cX5_offsets 58 = .ok (.iaload, 1) := by decide +kernel
theorem dX5_offsets_59 : decode cX5_offsets 59 = .ok (.ireturn, 1) := by decide +kernel
theorem dX5_offsets_60 : decode cX5_offsets 60 = .ok (.aload 4, 2) := by decide +kernel
theorem dX5_offsets_62 : decode cX5_offsets 62 = .ok (.iload_n 2, 1) := by decide +kernel
theorem dX5_offsets_63 : decode cX5_offsets 63 = .ok (.aload_n 0, 1) := by decide +kernel
theorem dX5_offsets_64 : decode cX5_offsets 64 = .ok (.getfield 12, 3) := by decide +kernel
theorem dX5_offsets_67 : decode cX5_offsets 67 = .ok (.getfield 62, 3) := by decide +kernel
theorem dX5_offsets_70 : decode cX5_offsets 70 = .ok (.iload_n 2, 1) := by decide +kernel
theorem dX5_offsets_71 : decode cX5_offsets 71 = .ok (.iaload, 1) := by decide +kernel
theorem dX5_offsets_72 : decode cX5_offsets 72 = .ok (.invokevirtual 200, 3) := by decide +kernel
theorem dX5_offsets_75 : decode cX5_offsets 75 = .ok (.ireturn, 1) := by decide +kernel
theorem dX5_offsets_76 : decode cX5_offsets 76 = .ok (.aload 4, 2) := by decide +kernel
theorem dX5_offsets_78 : decode cX5_offsets 78 = .ok (.getfield 204, 3) := by decide +kernel
theorem dX5_offsets_81 : decode cX5_offsets 81 = .ok (.iload_n 2, 1) := by decide +kernel
theorem dX5_offsets_82 : decode cX5_offsets 82 = .ok (.iaload, 1) := by decide +kernel
theorem dX5_offsets_83 : decode cX5_offsets 83 = .ok (.ireturn, 1) := by decide +kernel
theorem dX5_offsets_84 : decode cX5_offsets 84 = .ok (.bipush (-2), 2) := by decide +kernel
theorem dX5_offsets_86 : decode cX5_offsets 86 = .ok (.ireturn, 1) := by decide +kernel
theorem dX5_vintage_0 : decode cX5_vintage 0 = .ok (.iload_n 1, 1) := by decide +kernel
theorem dX5_vintage_1 : decode cX5_vintage 1 = .ok (.invokestatic 101, 3) := by decide +kernel
theorem dX5_vintage_4 : decode cX5_vintage 4 = .ok (.ifCond .ne 5, 3) := by decide +kernel
theorem dX5_vintage_7 : decode cX5_vintage 7 = .ok (.iconst (-1), 1) := by decide +kernel
theorem dX5_vintage_8 : decode cX5_vintage 8 = .ok (.ireturn, 1) := by decide +kernel
theorem dX5_vintage_9 : decode cX5_vintage 9 = .ok (.iload_n 2, 1) := by decide +kernel
theorem dX5_vintage_10 : decode cX5_vintage 10 = .ok (.tableswitch 109 0 6 #[42, 52, 61, 71, 81, 91, 100], 42) := by decide +kernel
theorem dX5_vintage_52 : decode cX5_vintage 52 = .ok (.aload_n 0, 1) := by decide +kernel
theorem dX5_vintage_53 : decode cX5_vintage 53 = .ok (.getfield 12, 3) := by decide +kernel
theorem dX5_vintage_56 : decode cX5_vintage 56 = .ok (.getfield 82, 3) := by decide +kernel
theorem dX5_vintage_59 : decode cX5_vintage 59 = .ok (.iload_n 1, 1) := by decide +kernel
theorem dX5_vintage_60 : decode cX5_vintage 60 = .ok (.iaload, 1) := by decide +kernel
theorem dX5_vintage_61 : decode cX5_vintage 61 = .ok (.ireturn, 1) := by decide +kernel
theorem dX5_vintage_62 : decode cX5_vintage 62 = .ok (.aload_n 0, 1) := by decide +kernel
theorem dX5_vintage_63 : decode cX5_vintage 63 = .ok (.getfield 12, 3) := by decide +kernel
theorem dX5_vintage_66 : decode cX5_vintage 66 = .ok (.iload_n 1, 1) := by decide +kernel
theorem dX5_vintage_67 : decode cX5_vintage 67 = .ok (.invokevirtual 207, 3) := by decide +kernel
theorem dX5_vintage_70 : decode cX5_vintage 70 = .ok (.ireturn, 1) := by decide +kernel
theorem dX5_vintage_71 : decode cX5_vintage 71 = .ok (.aload_n 0, 1) := by decide +kernel
theorem dX5_vintage_72 : decode cX5_vintage 72 = .ok (.getfield 12, 3) := by decide +kernel
theorem dX5_vintage_75 : decode cX5_vintage 75 = .ok (.getfield 211, 3) := by decide +kernel
theorem dX5_vintage_78 : decode cX5_vintage 78 = .ok (.iload_n 1, 1) := by decide +kernel
theorem dX5_vintage_79 : decode cX5_vintage 79 = .ok (.iaload, 1) := by decide +kernel
theorem dX5_vintage_80 : decode cX5_vintage 80 = .ok (.ireturn, 1) := by decide +kernel
theorem dX5_vintage_81 : decode cX5_vintage 81 = .ok (.aload_n 0, 1) := by decide +kernel
theorem dX5_vintage_82 : decode cX5_vintage 82 = .ok (.getfield 12, 3) := by decide +kernel
theorem dX5_vintage_85 : decode cX5_vintage 85 = .ok (.getfield 104, 3) := by decide +kernel
theorem dX5_vintage_88 : decode cX5_vintage 88 = .ok (.iload_n 1, 1) := by decide +kernel
theorem dX5_vintage_89 : decode cX5_vintage 89 = .ok (.iaload, 1) := by decide +kernel
theorem dX5_vintage_90 : decode cX5_vintage 90 = .ok (.ireturn, 1) := by decide +kernel
theorem dX5_vintage_91 : decode cX5_vintage 91 = .ok (.aload_n 0, 1) := by decide +kernel
theorem dX5_vintage_92 : decode cX5_vintage 92 = .ok (.getfield 12, 3) := by decide +kernel
theorem dX5_vintage_95 : decode cX5_vintage 95 = .ok (.getfield 213, 3) := by decide +kernel
theorem dX5_vintage_98 : decode cX5_vintage 98 = .ok (.iload_n 1, 1) := by decide +kernel
theorem dX5_vintage_99 : decode cX5_vintage 99 = .ok (.iaload, 1) := by decide +kernel
theorem dX5_vintage_100 : decode cX5_vintage 100 = .ok (.ireturn, 1) := by decide +kernel
theorem dX5_vintage_101 : decode cX5_vintage 101 = .ok (.aload_n 0, 1) := by decide +kernel
theorem dX5_vintage_102 : decode cX5_vintage 102 = .ok (.getfield 12, 3) := by decide +kernel
theorem dX5_vintage_105 : decode cX5_vintage 105 = .ok (.iload_n 1, 1) := by decide +kernel
theorem dX5_vintage_106 : decode cX5_vintage 106 = .ok (.invokevirtual 216, 3) := by decide +kernel
theorem dX5_vintage_109 : decode cX5_vintage 109 = .ok (.ireturn, 1) := by decide +kernel
theorem dX5_vintage_110 : decode cX5_vintage 110 = .ok (.aload_n 0, 1) := by decide +kernel
theorem dX5_vintage_111 : decode cX5_vintage 111 = .ok (.getfield 12, 3) := by decide +kernel
theorem dX5_vintage_114 : decode cX5_vintage 114 = .ok (.iload_n 1, 1) := by decide +kernel
theorem dX5_vintage_115 : decode cX5_vintage 115 = .ok (.invokevirtual 219, 3) := by decide +kernel
theorem dX5_vintage_118 : decode cX5_vintage 118 = .ok (.ireturn, 1) := by decide +kernel
theorem dX5_vintage_119 : decode cX5_vintage 119 = .ok (.bipush (-2), 2) := by decide +kernel
theorem dX5_vintage_121 : decode cX5_vintage 121 = .ok (.ireturn, 1) := by decide +kernel
theorem dX5_grade_0 : decode cX5_grade 0 = .ok (.iload_n 1, 1) := by decide +kernel
theorem dX5_grade_1 : decode cX5_grade 1 = .ok (.invokestatic 85, 3) := by decide +kernel
theorem dX5_grade_4 : decode cX5_grade 4 = .ok (.ifCond .ne 5, 3) := by decide +kernel
theorem dX5_grade_7 : decode cX5_grade 7 = .ok (.iconst (-1), 1) := by decide +kernel
theorem dX5_grade_8 : decode cX5_grade 8 = .ok (.ireturn, 1) := by decide +kernel
theorem dX5_grade_9 : decode cX5_grade 9 = .ok (.iload_n 2, 1) := by decide +kernel
theorem dX5_grade_10 : decode cX5_grade 10 = .ok (.tableswitch 55 0 2 #[26, 36, 45], 26) := by decide +kernel
theorem dX5_grade_36 : decode cX5_grade 36 = .ok (.aload_n 0, 1) := by decide +kernel
theorem dX5_grade_37 : decode cX5_grade 37 = .ok (.getfield 12, 3) := by decide +kernel
theorem dX5_grade_40 : decode cX5_grade 40 = .ok (.getfield 91, 3) := by decide +kernel
theorem dX5_grade_43 : decode cX5_grade 43 = .ok (.iload_n 1, 1) := by decide +kernel
theorem dX5_grade_44 : decode cX5_grade 44 = .ok (.iaload, 1) := by decide +kernel
theorem dX5_grade_45 : decode cX5_grade 45 = .ok (.ireturn, 1) := by decide +kernel
theorem dX5_grade_46 : decode cX5_grade 46 = .ok (.aload_n 0, 1) := by decide +kernel
theorem dX5_grade_47 : decode cX5_grade 47 = .ok (.getfield 12, 3) := by decide +kernel
theorem dX5_grade_50 : decode cX5_grade 50 = .ok (.iload_n 1, 1) := by decide +kernel
theorem dX5_grade_51 : decode cX5_grade 51 = .ok (.invokevirtual 222, 3) := by decide +kernel
theorem dX5_grade_54 : decode cX5_grade 54 = .ok (.ireturn, 1) := by decide +kernel
theorem dX5_grade_55 : decode cX5_grade 55 = .ok (.aload_n 0, 1) := by decide +kernel
theorem dX5_grade_56 : decode cX5_grade 56 = .ok (.getfield 12, 3) := by decide +kernel
theorem dX5_grade_59 : decode cX5_grade 59 = .ok (.getfield 225, 3) := by decide +kernel
theorem dX5_grade_62 : decode cX5_grade 62 = .ok (.iload_n 1, 1) := by decide +kernel
theorem dX5_grade_63 : decode cX5_grade 63 = .ok (.iaload, 1) := by decide +kernel
theorem dX5_grade_64 : decode cX5_grade 64 = .ok (.ireturn, 1) := by decide +kernel
theorem dX5_grade_65 : decode cX5_grade 65 = .ok (.bipush (-2), 2) := by decide +kernel
theorem dX5_grade_67 : decode cX5_grade 67 = .ok (.ireturn, 1) := by decide +kernel
theorem dX5_holder_0 : decode cX5_holder 0 = .ok (.iload_n 1, 1) := by decide +kernel
theorem dX5_holder_1 : decode cX5_holder 1 = .ok (.invokestatic 101, 3) := by decide +kernel
theorem dX5_holder_4 : decode cX5_holder 4 = .ok (.ifCond .ne 5, 3) := by decide +kernel
theorem dX5_holder_7 : decode cX5_holder 7 = .ok (.iconst (-1), 1) := by decide +kernel
theorem dX5_holder_8 : decode cX5_holder 8 = .ok (.ireturn, 1) := by decide +kernel
theorem dX5_holder_9 : decode cX5_holder 9 = .ok (.iload_n 2, 1) := by decide +kernel
theorem dX5_holder_10 : decode cX5_holder 10 = .ok (.ifCond .ge 6, 3) := by decide +kernel
theorem dX5_holder_13 : decode cX5_holder 13 = .ok (.bipush (-2), 2) := by decide +kernel
theorem dX5_holder_15 : decode cX5_holder 15 = .ok (.ireturn, 1) := by decide +kernel
theorem dX5_holder_16 : decode cX5_holder 16 = .ok (.aload_n 0, 1) := by decide +kernel
theorem dX5_holder_17 : decode cX5_holder 17 = .ok (.getfield 12, 3) := by decide +kernel
theorem dX5_holder_20 : decode cX5_holder 20 = .ok (.iload_n 1, 1) := by decide +kernel
theorem dX5_holder_21 : decode cX5_holder 21 = .ok (.iload_n 2, 1) := by decide +kernel
theorem dX5_holder_22 : decode cX5_holder 22 = .ok (.invokevirtual 228, 3) := by decide +kernel
theorem dX5_holder_25 : decode cX5_holder 25 = .ok (.ireturn, 1) := by decide +kernel
theorem dX5_plan_0 : decode cX5_plan 0 = .ok (.aload_n 0, 1) := by decide +kernel
theorem dX5_plan_1 : decode cX5_plan 1 = .ok (.getfield 12, 3) := by decide +kernel
theorem dX5_plan_4 : decode cX5_plan 4 = .ok (.iload_n 1, 1) := by decide +kernel
theorem dX5_plan_5 : decode cX5_plan 5 = .ok (.invokevirtual 65, 3) := by decide +kernel
theorem dX5_plan_8 : decode cX5_plan 8 = .ok (.astore 5, 2) := by decide +kernel
theorem dX5_plan_10 : decode cX5_plan 10 = .ok (.aload 5, 2) := by decide +kernel
theorem dX5_plan_12 : decode cX5_plan 12 = .ok (.ifnonnull 5, 3) := by decide +kernel
theorem dX5_plan_15 : decode cX5_plan 15 = .ok (.iconst (-1), 1) := by decide +kernel
theorem dX5_plan_16 : decode cX5_plan 16 = .ok (.ireturn, 1) := by decide +kernel
theorem dX5_plan_17 : decode cX5_plan 17 = .ok (.iload_n 2, 1) := by decide +kernel
theorem dX5_plan_18 : decode cX5_plan 18 = .ok (.invokestatic 69, 3) := by decide +kernel
theorem dX5_plan_21 : decode cX5_plan 21 = .ok (.ifCond .eq 21, 3) := by decide +kernel
theorem dX5_plan_24 : decode cX5_plan 24 = .ok (.iload_n 3, 1) := by decide +kernel
theorem dX5_plan_25 : decode cX5_plan 25 = .ok (.invokestatic 113, 3) := by decide +kernel
theorem dX5_plan_28 : decode cX5_plan 28 = .ok (.ifCond .eq 14, 3) := by decide +kernel
theorem dX5_plan_31 : decode cX5_plan 31 = .ok (.iload 4, 2) := by decide +kernel
theorem dX5_plan_33 : decode cX5_plan 33 = .ok (.ifCond .lt 9, 3) := by decide +kernel
theorem dX5_plan_36 : decode cX5_plan 36 = .ok (.iload 4, 2) := by decide +kernel
theorem dX5_plan_38 : decode cX5_plan 38 = .ok (.iconst 5, 1) := by decide +kernel
theorem dX5_plan_39 : decode cX5_plan 39 = .ok (.if_icmp .le 6, 3) := by decide +kernel
theorem dX5_plan_42 : decode cX5_plan 42 = .ok (.bipush (-2), 2) := by decide +kernel
theorem dX5_plan_44 : decode cX5_plan 44 = .ok (.ireturn, 1) := by decide +kernel
theorem dX5_plan_45 : decode cX5_plan 45 = .ok (.aload_n 0, 1) := by decide +kernel
theorem dX5_plan_46 : decode cX5_plan 46 = .ok (.getfield 32, 3) := by decide +kernel
theorem dX5_plan_49 : decode cX5_plan 49 = .ok (.aload 5, 2) := by decide +kernel
theorem dX5_plan_51 : decode cX5_plan 51 = .ok (.aload_n 0, 1) := by decide +kernel
theorem dX5_plan_52 : decode cX5_plan 52 = .ok (.getfield 12, 3) := by decide +kernel
theorem dX5_plan_55 : decode cX5_plan 55 = .ok (.getfield 62, 3) := by decide +kernel
theorem dX5_plan_58 : decode cX5_plan 58 = .ok (.iload_n 2, 1) := by decide +kernel
theorem dX5_plan_59 : decode cX5_plan 59 = .ok (.iload_n 3, 1) := by decide +kernel
theorem dX5_plan_60 : decode cX5_plan 60 = .ok (.invokevirtual 119, 3) := by decide +kernel
theorem dX5_plan_63 : decode cX5_plan 63 = .ok (.aload_n 0, 1) := by decide +kernel
theorem dX5_plan_64 : decode cX5_plan 64 = .ok (.getfield 32, 3) := by decide +kernel
theorem dX5_plan_67 : decode cX5_plan 67 = .ok (.getfield 123, 3) := by decide +kernel
theorem dX5_plan_70 : decode cX5_plan 70 = .ok (.ifCond .le 6, 3) := by decide +kernel
theorem dX5_plan_73 : decode cX5_plan 73 = .ok (.bipush (-4), 2) := by decide +kernel
theorem dX5_plan_75 : decode cX5_plan 75 = .ok (.ireturn, 1) := by decide +kernel
theorem dX5_plan_76 : decode cX5_plan 76 = .ok (.iload 4, 2) := by decide +kernel
theorem dX5_plan_78 : decode cX5_plan 78 = .ok (.tableswitch 80 0 4 #[34, 42, 52, 62, 72], 34) := by decide +kernel
theorem dX5_plan_112 : decode cX5_plan 112 = .ok (.aload_n 0, 1) := by decide +kernel
theorem dX5_plan_113 : decode cX5_plan 113 = .ok (.getfield 32, 3) := by decide +kernel
theorem dX5_plan_116 : decode cX5_plan 116 = .ok (.getfield 231, 3) := by decide +kernel
theorem dX5_plan_119 : decode cX5_plan 119 = .ok (.ireturn, 1) := by decide +kernel
theorem dX5_plan_120 : decode cX5_plan 120 = .ok (.aload_n 0, 1) := by decide +kernel
theorem dX5_plan_121 : decode cX5_plan 121 = .ok (.getfield 32, 3) := by decide +kernel
theorem dX5_plan_124 : decode cX5_plan 124 = .ok (.getfield 234, 3) := by decide +kernel
theorem dX5_plan_127 : decode cX5_plan 127 = .ok (.iconst 0, 1) := by decide +kernel
theorem dX5_plan_128 : decode cX5_plan 128 = .ok (.iaload, 1) := by decide +kernel
theorem dX5_plan_129 : decode cX5_plan 129 = .ok (.ireturn, 1) := by decide +kernel
theorem dX5_plan_130 : decode cX5_plan 130 = .ok (.aload_n 0, 1) := by decide +kernel
theorem dX5_plan_131 : decode cX5_plan 131 = .ok (.getfield 32, 3) := by decide +kernel
theorem dX5_plan_134 : decode cX5_plan 134 = .ok (.getfield 234, 3) := by decide +kernel
theorem dX5_plan_137 : decode cX5_plan 137 = .ok (.iconst 1, 1) := by decide +kernel
theorem dX5_plan_138 : decode cX5_plan 138 = .ok (.iaload, 1) := by decide +kernel
theorem dX5_plan_139 : decode cX5_plan 139 = .ok (.ireturn, 1) := by decide +kernel
theorem dX5_plan_140 : decode cX5_plan 140 = .ok (.aload_n 0, 1) := by decide +kernel
theorem dX5_plan_141 : decode cX5_plan 141 = .ok (.getfield 32, 3) := by decide +kernel
theorem dX5_plan_144 : decode cX5_plan 144 = .ok (.getfield 234, 3) := by decide +kernel
theorem dX5_plan_147 : decode cX5_plan 147 = .ok (.iconst 2, 1) := by decide +kernel
theorem dX5_plan_148 : decode cX5_plan 148 = .ok (.iaload, 1) := by decide +kernel
theorem dX5_plan_149 : decode cX5_plan 149 = .ok (.ireturn, 1) := by decide +kernel
theorem dX5_plan_150 : decode cX5_plan 150 = .ok (.aload_n 0, 1) := by decide +kernel
theorem dX5_plan_151 : decode cX5_plan 151 = .ok (.getfield 32, 3) := by decide +kernel
theorem dX5_plan_154 : decode cX5_plan 154 = .ok (.getfield 237, 3) := by decide +kernel
theorem dX5_plan_157 : decode cX5_plan 157 = .ok (.ireturn, 1) := by decide +kernel
theorem dX5_plan_158 : decode cX5_plan 158 = .ok (.aload_n 0, 1) := by decide +kernel
theorem dX5_plan_159 : decode cX5_plan 159 = .ok (.getfield 32, 3) := by decide +kernel
theorem dX5_plan_162 : decode cX5_plan 162 = .ok (.getfield 240, 3) := by decide +kernel
theorem dX5_plan_165 : decode cX5_plan 165 = .ok (.ireturn, 1) := by decide +kernel
theorem dX5_count_0 : decode cX5_count 0 = .ok (.iload_n 1, 1) := by decide +kernel
theorem dX5_count_1 : decode cX5_count 1 = .ok (.iconst 3, 1) := by decide +kernel
theorem dX5_count_2 : decode cX5_count 2 = .ok (.if_icmp .lt 21, 3) := by decide +kernel
theorem dX5_count_5 : decode cX5_count 5 = .ok (.iload_n 1, 1) := by decide +kernel
theorem dX5_count_6 : decode cX5_count 6 = .ok (.bipush 8, 2) := by decide +kernel
theorem dX5_count_8 : decode cX5_count 8 = .ok (.if_icmp .ge 15, 3) := by decide +kernel
theorem dX5_count_11 : decode cX5_count 11 = .ok (.aload_n 0, 1) := by decide +kernel
theorem dX5_count_12 : decode cX5_count 12 = .ok (.getfield 12, 3) := by decide +kernel
theorem dX5_count_15 : decode cX5_count 15 = .ok (.getfield 62, 3) := by decide +kernel
theorem dX5_count_18 : decode cX5_count 18 = .ok (.iload_n 1, 1) := by decide +kernel
theorem dX5_count_19 : decode cX5_count 19 = .ok (.iconst 3, 1) := by decide +kernel
theorem dX5_count_20 : decode cX5_count 20 = .ok (.isub, 1) := by decide +kernel
theorem dX5_count_21 : decode cX5_count 21 = .ok (.iaload, 1) := by decide +kernel
theorem dX5_count_22 : decode cX5_count 22 = .ok (.ireturn, 1) := by decide +kernel
theorem dX5_count_23 : decode cX5_count 23 = .ok (.iload_n 1, 1) := by decide +kernel
theorem dX5_count_24 : decode cX5_count 24 = .ok (.tableswitch 156 0 14 #[76, 84, 92, 156, 156, 156, 156, 156, 100, 108, 116, 124, 132, 140, 148], 76) := by decide +kernel
theorem dX5_count_100 : decode cX5_count 100 = .ok (.aload_n 0, 1) := by decide +kernel
theorem dX5_count_101 : decode cX5_count 101 = .ok (.getfield 12, 3) := by decide +kernel
theorem dX5_count_104 : decode cX5_count 104 = .ok (.getfield 133, 3) := by decide +kernel
theorem dX5_count_107 : decode cX5_count 107 = .ok (.ireturn, 1) := by decide +kernel
theorem dX5_count_108 : decode cX5_count 108 = .ok (.aload_n 0, 1) := by decide +kernel
theorem dX5_count_109 : decode cX5_count 109 = .ok (.getfield 12, 3) := by decide +kernel
theorem dX5_count_112 : decode cX5_count 112 = .ok (.invokevirtual 73, 3) := by decide +kernel
theorem dX5_count_115 : decode cX5_count 115 = .ok (.ireturn, 1) := by decide +kernel
theorem dX5_count_116 : decode cX5_count 116 = .ok (.aload_n 0, 1) := by decide +kernel
theorem dX5_count_117 : decode cX5_count 117 = .ok (.getfield 12, 3) := by decide +kernel
theorem dX5_count_120 : decode cX5_count 120 = .ok (.getfield 47, 3) := by decide +kernel
theorem dX5_count_123 : decode cX5_count 123 = .ok (.ireturn, 1) := by decide +kernel
theorem dX5_count_124 : decode cX5_count 124 = .ok (.aload_n 0, 1) := by decide +kernel
theorem dX5_count_125 : decode cX5_count 125 = .ok (.getfield 12, 3) := by decide +kernel
theorem dX5_count_128 : decode cX5_count 128 = .ok (.invokevirtual 243, 3) := by decide +kernel
theorem dX5_count_131 : decode cX5_count 131 = .ok (.ireturn, 1) := by decide +kernel
theorem dX5_count_132 : decode cX5_count 132 = .ok (.aload_n 0, 1) := by decide +kernel
theorem dX5_count_133 : decode cX5_count 133 = .ok (.getfield 12, 3) := by decide +kernel
theorem dX5_count_136 : decode cX5_count 136 = .ok (.invokevirtual 246, 3) := by decide +kernel
theorem dX5_count_139 : decode cX5_count 139 = .ok (.ireturn, 1) := by decide +kernel
theorem dX5_count_140 : decode cX5_count 140 = .ok (.aload_n 0, 1) := by decide +kernel
theorem dX5_count_141 : decode cX5_count 141 = .ok (.getfield 12, 3) := by decide +kernel
theorem dX5_count_144 : decode cX5_count 144 = .ok (.invokevirtual 249, 3) := by decide +kernel
theorem dX5_count_147 : decode cX5_count 147 = .ok (.ireturn, 1) := by decide +kernel
theorem dX5_count_148 : decode cX5_count 148 = .ok (.aload_n 0, 1) := by decide +kernel
theorem dX5_count_149 : decode cX5_count 149 = .ok (.getfield 12, 3) := by decide +kernel
theorem dX5_count_152 : decode cX5_count 152 = .ok (.invokevirtual 252, 3) := by decide +kernel
theorem dX5_count_155 : decode cX5_count 155 = .ok (.ireturn, 1) := by decide +kernel
theorem dX5_count_156 : decode cX5_count 156 = .ok (.aload_n 0, 1) := by decide +kernel
theorem dX5_count_157 : decode cX5_count 157 = .ok (.getfield 12, 3) := by decide +kernel
theorem dX5_count_160 : decode cX5_count 160 = .ok (.invokevirtual 255, 3) := by decide +kernel
theorem dX5_count_163 : decode cX5_count 163 = .ok (.ireturn, 1) := by decide +kernel
theorem dX5_count_164 : decode cX5_count 164 = .ok (.aload_n 0, 1) := by decide +kernel
theorem dX5_count_165 : decode cX5_count 165 = .ok (.getfield 25, 3) := by decide +kernel
theorem dX5_count_168 : decode cX5_count 168 = .ok (.getfield 172, 3) := by decide +kernel
theorem dX5_count_171 : decode cX5_count 171 = .ok (.ireturn, 1) := by decide +kernel
theorem dX5_count_172 : decode cX5_count 172 = .ok (.aload_n 0, 1) := by decide +kernel
theorem dX5_count_173 : decode cX5_count 173 = .ok (.getfield 39, 3) := by decide +kernel
theorem dX5_count_176 : decode cX5_count 176 = .ok (.getfield 139, 3) := by decide +kernel
theorem dX5_count_179 : decode cX5_count 179 = .ok (.ireturn, 1) := by decide +kernel
theorem dX5_count_180 : decode cX5_count 180 = .ok (.bipush (-2), 2) := by decide +kernel
theorem dX5_count_182 : decode cX5_count 182 = .ok (.ireturn, 1) := by decide +kernel
theorem dX5_isVintage_0 : decode cX5_isVintage 0 = .ok (.iload_n 0, 1) := by decide +kernel
theorem dX5_isVintage_1 : decode cX5_isVintage 1 = .ok (.ifCond .lt 13, 3) := by decide +kernel
theorem dX5_isVintage_4 : decode cX5_isVintage 4 = .ok (.iload_n 0, 1) := by decide +kernel
theorem dX5_isVintage_5 : decode cX5_isVintage 5 = .ok (.bipush 20, 2) := by decide +kernel
theorem dX5_isVintage_7 : decode cX5_isVintage 7 = .ok (.if_icmp .ge 7, 3) := by decide +kernel
theorem dX5_isVintage_10 : decode cX5_isVintage 10 = .ok (.iconst 1, 1) := by decide +kernel
theorem dX5_isVintage_11 : decode cX5_isVintage 11 = .ok (.goto 4, 3) := by decide +kernel
theorem dX5_isVintage_14 : decode cX5_isVintage 14 = .ok (.iconst 0, 1) := by decide +kernel
theorem dX5_isVintage_15 : decode cX5_isVintage 15 = .ok (.ireturn, 1) := by decide +kernel
theorem dX5_isGrade_0 : decode cX5_isGrade 0 = .ok (.iload_n 0, 1) := by decide +kernel
theorem dX5_isGrade_1 : decode cX5_isGrade 1 = .ok (.ifCond .lt 12, 3) := by decide +kernel
theorem dX5_isGrade_4 : decode cX5_isGrade 4 = .ok (.iload_n 0, 1) := by decide +kernel
theorem dX5_isGrade_5 : decode cX5_isGrade 5 = .ok (.iconst 3, 1) := by decide +kernel
theorem dX5_isGrade_6 : decode cX5_isGrade 6 = .ok (.if_icmp .ge 7, 3) := by decide +kernel
theorem dX5_isGrade_9 : decode cX5_isGrade 9 = .ok (.iconst 1, 1) := by decide +kernel
theorem dX5_isGrade_10 : decode cX5_isGrade 10 = .ok (.goto 4, 3) := by decide +kernel
theorem dX5_isGrade_13 : decode cX5_isGrade 13 = .ok (.iconst 0, 1) := by decide +kernel
theorem dX5_isGrade_14 : decode cX5_isGrade 14 = .ok (.ireturn, 1) := by decide +kernel
theorem dX5_isTonnes_0 : decode cX5_isTonnes 0 = .ok (.iload_n 0, 1) := by decide +kernel
theorem dX5_isTonnes_1 : decode cX5_isTonnes 1 = .ok (.iconst 1, 1) := by decide +kernel
theorem dX5_isTonnes_2 : decode cX5_isTonnes 2 = .ok (.if_icmp .lt 14, 3) := by decide +kernel
theorem dX5_isTonnes_5 : decode cX5_isTonnes 5 = .ok (.iload_n 0, 1) := by decide +kernel
theorem dX5_isTonnes_6 : decode cX5_isTonnes 6 = .ok (.sipush 9999, 3) := by decide +kernel
theorem dX5_isTonnes_9 : decode cX5_isTonnes 9 = .ok (.if_icmp .gt 7, 3) := by decide +kernel
theorem dX5_isTonnes_12 : decode cX5_isTonnes 12 = .ok (.iconst 1, 1) := by decide +kernel
theorem dX5_isTonnes_13 : decode cX5_isTonnes 13 = .ok (.goto 4, 3) := by decide +kernel
theorem dX5_isTonnes_16 : decode cX5_isTonnes 16 = .ok (.iconst 0, 1) := by decide +kernel
theorem dX5_isTonnes_17 : decode cX5_isTonnes 17 = .ok (.ireturn, 1) := by decide +kernel
theorem dX5_isWay_0 : decode cX5_isWay 0 = .ok (.iload_n 0, 1) := by decide +kernel
theorem dX5_isWay_1 : decode cX5_isWay 1 = .ok (.ifCond .lt 12, 3) := by decide +kernel
theorem dX5_isWay_4 : decode cX5_isWay 4 = .ok (.iload_n 0, 1) := by decide +kernel
theorem dX5_isWay_5 : decode cX5_isWay 5 = .ok (.iconst 2, 1) := by decide +kernel
theorem dX5_isWay_6 : decode cX5_isWay 6 = .ok (.if_icmp .gt 7, 3) := by decide +kernel
theorem dX5_isWay_9 : decode cX5_isWay 9 = .ok (.iconst 1, 1) := by decide +kernel
theorem dX5_isWay_10 : decode cX5_isWay 10 = .ok (.goto 4, 3) := by decide +kernel
theorem dX5_isWay_13 : decode cX5_isWay 13 = .ok (.iconst 0, 1) := by decide +kernel
theorem dX5_isWay_14 : decode cX5_isWay 14 = .ok (.ireturn, 1) := by decide +kernel
theorem dX5_copyState_0 : decode cX5_copyState 0 = .ok (.aload_n 0, 1) := by decide +kernel
theorem dX5_copyState_1 : decode cX5_copyState 1 = .ok (.ifnull 7, 3) := by decide +kernel
theorem dX5_copyState_4 : decode cX5_copyState 4 = .ok (.aload_n 1, 1) := by decide +kernel
theorem dX5_copyState_5 : decode cX5_copyState 5 = .ok (.ifnonnull 4, 3) := by decide +kernel
theorem dX5_copyState_8 : decode cX5_copyState 8 = .ok (.return_, 1) := by decide +kernel
theorem dX5_copyState_9 : decode cX5_copyState 9 = .ok (.aload_n 1, 1) := by decide +kernel
theorem dX5_copyState_10 : decode cX5_copyState 10 = .ok (.aload_n 0, 1) := by decide +kernel
theorem dX5_copyState_11 : decode cX5_copyState 11 = .ok (.getfield 133, 3) := by decide +kernel
theorem dX5_copyState_14 : decode cX5_copyState 14 = .ok (.putfield 133, 3) := by decide +kernel
theorem dX5_copyState_17 : decode cX5_copyState 17 = .ok (.aload_n 1, 1) := by decide +kernel
theorem dX5_copyState_18 : decode cX5_copyState 18 = .ok (.aload_n 0, 1) := by decide +kernel
theorem dX5_copyState_19 : decode cX5_copyState 19 = .ok (.getfield 47, 3) := by decide +kernel
theorem dX5_copyState_22 : decode cX5_copyState 22 = .ok (.putfield 47, 3) := by decide +kernel
theorem dX5_copyState_25 : decode cX5_copyState 25 = .ok (.aload_n 0, 1) := by decide +kernel
theorem dX5_copyState_26 : decode cX5_copyState 26 = .ok (.getfield 62, 3) := by decide +kernel
theorem dX5_copyState_29 : decode cX5_copyState 29 = .ok (.aload_n 1, 1) := by decide +kernel
theorem dX5_copyState_30 : decode cX5_copyState 30 = .ok (.getfield 62, 3) := by decide +kernel
theorem dX5_copyState_33 : decode cX5_copyState 33 = .ok (.invokestatic 258, 3) := by decide +kernel
theorem dX5_copyState_36 : decode cX5_copyState 36 = .ok (.aload_n 0, 1) := by decide +kernel
theorem dX5_copyState_37 : decode cX5_copyState 37 = .ok (.getfield 82, 3) := by decide +kernel
theorem dX5_copyState_40 : decode cX5_copyState 40 = .ok (.aload_n 1, 1) := by decide +kernel
theorem dX5_copyState_41 : decode cX5_copyState 41 = .ok (.getfield 82, 3) := by decide +kernel
theorem dX5_copyState_44 : decode cX5_copyState 44 = .ok (.invokestatic 258, 3) := by decide +kernel
theorem dX5_copyState_47 : decode cX5_copyState 47 = .ok (.aload_n 0, 1) := by decide +kernel
theorem dX5_copyState_48 : decode cX5_copyState 48 = .ok (.getfield 211, 3) := by decide +kernel
theorem dX5_copyState_51 : decode cX5_copyState 51 = .ok (.aload_n 1, 1) := by decide +kernel
theorem dX5_copyState_52 : decode cX5_copyState 52 = .ok (.getfield 211, 3) := by decide +kernel
theorem dX5_copyState_55 : decode cX5_copyState 55 = .ok (.invokestatic 258, 3) := by decide +kernel
theorem dX5_copyState_58 : decode cX5_copyState 58 = .ok (.aload_n 0, 1) := by decide +kernel
theorem dX5_copyState_59 : decode cX5_copyState 59 = .ok (.getfield 104, 3) := by decide +kernel
theorem dX5_copyState_62 : decode cX5_copyState 62 = .ok (.aload_n 1, 1) := by decide +kernel
theorem dX5_copyState_63 : decode cX5_copyState 63 = .ok (.getfield 104, 3) := by decide +kernel
theorem dX5_copyState_66 : decode cX5_copyState 66 = .ok (.invokestatic 258, 3) := by decide +kernel
theorem dX5_copyState_69 : decode cX5_copyState 69 = .ok (.aload_n 0, 1) := by decide +kernel
theorem dX5_copyState_70 : decode cX5_copyState 70 = .ok (.getfield 213, 3) := by decide +kernel
theorem dX5_copyState_73 : decode cX5_copyState 73 = .ok (.aload_n 1, 1) := by decide +kernel
theorem dX5_copyState_74 : decode cX5_copyState 74 = .ok (.getfield 213, 3) := by decide +kernel
theorem dX5_copyState_77 : decode cX5_copyState 77 = .ok (.invokestatic 258, 3) := by decide +kernel
theorem dX5_copyState_80 : decode cX5_copyState 80 = .ok (.aload_n 0, 1) := by decide +kernel
theorem dX5_copyState_81 : decode cX5_copyState 81 = .ok (.getfield 91, 3) := by decide +kernel
theorem dX5_copyState_84 : decode cX5_copyState 84 = .ok (.aload_n 1, 1) := by decide +kernel
theorem dX5_copyState_85 : decode cX5_copyState 85 = .ok (.getfield 91, 3) := by decide +kernel
theorem dX5_copyState_88 : decode cX5_copyState 88 = .ok (.invokestatic 258, 3) := by decide +kernel
theorem dX5_copyState_91 : decode cX5_copyState 91 = .ok (.aload_n 0, 1) := by decide +kernel
theorem dX5_copyState_92 : decode cX5_copyState 92 = .ok (.getfield 225, 3) := by decide +kernel
theorem dX5_copyState_95 : decode cX5_copyState 95 = .ok (.aload_n 1, 1) := by decide +kernel
theorem dX5_copyState_96 : decode cX5_copyState 96 = .ok (.getfield 225, 3) := by decide +kernel
theorem dX5_copyState_99 : decode cX5_copyState 99 = .ok (.invokestatic 258, 3) := by decide +kernel
theorem dX5_copyState_102 : decode cX5_copyState 102 = .ok (.iconst 0, 1) := by decide +kernel
theorem dX5_copyState_103 : decode cX5_copyState 103 = .ok (.istore_n 2, 1) := by decide +kernel
theorem dX5_copyState_104 : decode cX5_copyState 104 = .ok (.iload_n 2, 1) := by decide +kernel
theorem dX5_copyState_105 : decode cX5_copyState 105 = .ok (.bipush 8, 2) := by decide +kernel
theorem dX5_copyState_107 : decode cX5_copyState 107 = .ok (.if_icmp .ge 24, 3) := by decide +kernel
theorem dX5_copyState_110 : decode cX5_copyState 110 = .ok (.aload_n 0, 1) := by decide +kernel
theorem dX5_copyState_111 : decode cX5_copyState 111 = .ok (.getfield 262, 3) := by decide +kernel
theorem dX5_copyState_114 : decode cX5_copyState 114 = .ok (.iload_n 2, 1) := by decide +kernel
theorem dX5_copyState_115 : decode cX5_copyState 115 = .ok (.aaload, 1) := by decide +kernel
theorem dX5_copyState_116 : decode cX5_copyState 116 = .ok (.aload_n 1, 1) := by decide +kernel
theorem dX5_copyState_117 : decode cX5_copyState 117 = .ok (.getfield 262, 3) := by decide +kernel
theorem dX5_copyState_120 : decode cX5_copyState 120 = .ok (.iload_n 2, 1) := by decide +kernel
theorem dX5_copyState_121 : decode cX5_copyState 121 = .ok (.aaload, 1) := by decide +kernel
theorem dX5_copyState_122 : decode cX5_copyState 122 = .ok (.invokestatic 266, 3) := by decide +kernel
theorem dX5_copyState_125 : decode cX5_copyState 125 = .ok (.iinc 2 1, 3) := by decide +kernel
theorem dX5_copyState_128 : decode cX5_copyState 128 = .ok (.goto (-24), 3) := by decide +kernel
theorem dX5_copyState_131 : decode cX5_copyState 131 = .ok (.return_, 1) := by decide +kernel
theorem dX5_copyFirm_0 : decode cX5_copyFirm 0 = .ok (.aload_n 0, 1) := by decide +kernel
theorem dX5_copyFirm_1 : decode cX5_copyFirm 1 = .ok (.ifnull 7, 3) := by decide +kernel
theorem dX5_copyFirm_4 : decode cX5_copyFirm 4 = .ok (.aload_n 1, 1) := by decide +kernel
theorem dX5_copyFirm_5 : decode cX5_copyFirm 5 = .ok (.ifnonnull 4, 3) := by decide +kernel
theorem dX5_copyFirm_8 : decode cX5_copyFirm 8 = .ok (.return_, 1) := by decide +kernel
theorem dX5_copyFirm_9 : decode cX5_copyFirm 9 = .ok (.aload_n 0, 1) := by decide +kernel
theorem dX5_copyFirm_10 : decode cX5_copyFirm 10 = .ok (.getfield 77, 3) := by decide +kernel
theorem dX5_copyFirm_13 : decode cX5_copyFirm 13 = .ok (.aload_n 1, 1) := by decide +kernel
theorem dX5_copyFirm_14 : decode cX5_copyFirm 14 = .ok (.getfield 77, 3) := by decide +kernel
theorem dX5_copyFirm_17 : decode cX5_copyFirm 17 = .ok (.invokestatic 258, 3) := by decide +kernel
theorem dX5_copyFirm_20 : decode cX5_copyFirm 20 = .ok (.aload_n 0, 1) := by decide +kernel
theorem dX5_copyFirm_21 : decode cX5_copyFirm 21 = .ok (.getfield 88, 3) := by decide +kernel
theorem dX5_copyFirm_24 : decode cX5_copyFirm 24 = .ok (.aload_n 1, 1) := by decide +kernel
theorem dX5_copyFirm_25 : decode cX5_copyFirm 25 = .ok (.getfield 88, 3) := by decide +kernel
theorem dX5_copyFirm_28 : decode cX5_copyFirm 28 = .ok (.invokestatic 258, 3) := by decide +kernel
theorem dX5_copyFirm_31 : decode cX5_copyFirm 31 = .ok (.aload_n 0, 1) := by decide +kernel
theorem dX5_copyFirm_32 : decode cX5_copyFirm 32 = .ok (.getfield 204, 3) := by decide +kernel
theorem dX5_copyFirm_35 : decode cX5_copyFirm 35 = .ok (.aload_n 1, 1) := by decide +kernel
theorem dX5_copyFirm_36 : decode cX5_copyFirm 36 = .ok (.getfield 204, 3) := by decide +kernel
theorem dX5_copyFirm_39 : decode cX5_copyFirm 39 = .ok (.invokestatic 258, 3) := by decide +kernel
theorem dX5_copyFirm_42 : decode cX5_copyFirm 42 = .ok (.aload_n 1, 1) := by decide +kernel
theorem dX5_copyFirm_43 : decode cX5_copyFirm 43 = .ok (.aload_n 0, 1) := by decide +kernel
theorem dX5_copyFirm_44 : decode cX5_copyFirm 44 = .ok (.getfield 107, 3) := by decide +kernel
theorem dX5_copyFirm_47 : decode cX5_copyFirm 47 = .ok (.putfield 107, 3) := by decide +kernel
theorem dX5_copyFirm_50 : decode cX5_copyFirm 50 = .ok (.aload_n 1, 1) := by decide +kernel
theorem dX5_copyFirm_51 : decode cX5_copyFirm 51 = .ok (.aload_n 0, 1) := by decide +kernel
theorem dX5_copyFirm_52 : decode cX5_copyFirm 52 = .ok (.getfield 110, 3) := by decide +kernel
theorem dX5_copyFirm_55 : decode cX5_copyFirm 55 = .ok (.putfield 110, 3) := by decide +kernel
theorem dX5_copyFirm_58 : decode cX5_copyFirm 58 = .ok (.aload_n 1, 1) := by decide +kernel
theorem dX5_copyFirm_59 : decode cX5_copyFirm 59 = .ok (.aload_n 0, 1) := by decide +kernel
theorem dX5_copyFirm_60 : decode cX5_copyFirm 60 = .ok (.getfield 190, 3) := by decide +kernel
theorem dX5_copyFirm_63 : decode cX5_copyFirm 63 = .ok (.putfield 190, 3) := by decide +kernel
theorem dX5_copyFirm_66 : decode cX5_copyFirm 66 = .ok (.aload_n 1, 1) := by decide +kernel
theorem dX5_copyFirm_67 : decode cX5_copyFirm 67 = .ok (.aload_n 0, 1) := by decide +kernel
theorem dX5_copyFirm_68 : decode cX5_copyFirm 68 = .ok (.getfield 116, 3) := by decide +kernel
theorem dX5_copyFirm_71 : decode cX5_copyFirm 71 = .ok (.putfield 116, 3) := by decide +kernel
theorem dX5_copyFirm_74 : decode cX5_copyFirm 74 = .ok (.aload_n 1, 1) := by decide +kernel
theorem dX5_copyFirm_75 : decode cX5_copyFirm 75 = .ok (.aload_n 0, 1) := by decide +kernel
theorem dX5_copyFirm_76 : decode cX5_copyFirm 76 = .ok (.getfield 130, 3) := by decide +kernel
theorem dX5_copyFirm_79 : decode cX5_copyFirm 79 = .ok (.putfield 130, 3) := by decide +kernel
theorem dX5_copyFirm_82 : decode cX5_copyFirm 82 = .ok (.aload_n 1, 1) := by decide +kernel
theorem dX5_copyFirm_83 : decode cX5_copyFirm 83 = .ok (.aload_n 0, 1) := by decide +kernel
theorem dX5_copyFirm_84 : decode cX5_copyFirm 84 = .ok (.getfield 193, 3) := by decide +kernel
theorem dX5_copyFirm_87 : decode cX5_copyFirm 87 = .ok (.putfield 193, 3) := by decide +kernel
theorem dX5_copyFirm_90 : decode cX5_copyFirm 90 = .ok (.return_, 1) := by decide +kernel
theorem dX5_copyNumbers_0 : decode cX5_copyNumbers 0 = .ok (.aload_n 0, 1) := by decide +kernel
theorem dX5_copyNumbers_1 : decode cX5_copyNumbers 1 = .ok (.iconst 0, 1) := by decide +kernel
theorem dX5_copyNumbers_2 : decode cX5_copyNumbers 2 = .ok (.aload_n 1, 1) := by decide +kernel
theorem dX5_copyNumbers_3 : decode cX5_copyNumbers 3 = .ok (.iconst 0, 1) := by decide +kernel
theorem dX5_copyNumbers_4 : decode cX5_copyNumbers 4 = .ok (.aload_n 0, 1) := by decide +kernel
theorem dX5_copyNumbers_5 : decode cX5_copyNumbers 5 = .ok (.arraylength, 1) := by decide +kernel
theorem dX5_copyNumbers_6 : decode cX5_copyNumbers 6 = .ok (.aload_n 1, 1) := by decide +kernel
theorem dX5_copyNumbers_7 : decode cX5_copyNumbers 7 = .ok (.arraylength, 1) := by decide +kernel
theorem dX5_copyNumbers_8 : decode cX5_copyNumbers 8 = .ok (.invokestatic 270, 3) := by decide +kernel
theorem dX5_copyNumbers_11 : decode cX5_copyNumbers 11 = .ok (.invokestatic 275, 3) := by decide +kernel
theorem dX5_copyNumbers_14 : decode cX5_copyNumbers 14 = .ok (.return_, 1) := by decide +kernel
theorem dX6_init_0 : decode cX6_init 0 = .ok (.aload_n 0, 1) := by decide +kernel
theorem dX6_init_1 : decode cX6_init 1 = .ok (.invokespecial 1, 3) := by decide +kernel
theorem dX6_init_4 : decode cX6_init 4 = .ok (.aload_n 0, 1) := by decide +kernel
theorem dX6_init_5 : decode cX6_init 5 = .ok (.sipush 2443, 3) := by decide +kernel
theorem dX6_init_8 : decode cX6_init 8 = .ok (.newarray .int, 2) := by decide +kernel
theorem dX6_init_10 : decode cX6_init 10 = .ok (.putfield 7, 3) := by decide +kernel
theorem dX6_init_13 : decode cX6_init 13 = .ok (.aload_n 0, 1) := by decide +kernel
theorem dX6_init_14 : decode cX6_init 14 = .ok (.bipush 60, 2) := by decide +kernel
theorem dX6_init_16 : decode cX6_init 16 = .ok (.newarray .int, 2) := by decide +kernel
theorem dX6_init_18 : decode cX6_init 18 = .ok (.putfield 13, 3) := by decide +kernel
theorem dX6_init_21 : decode cX6_init 21 = .ok (.aload_n 0, 1) := by decide +kernel
theorem dX6_init_22 : decode cX6_init 22 = .ok (.bipush 20, 2) := by decide +kernel
theorem dX6_init_24 : decode cX6_init 24 = .ok (.newarray .int, 2) := by decide +kernel
theorem dX6_init_26 : decode cX6_init 26 = .ok (.putfield 16, 3) := by decide +kernel
theorem dX6_init_29 : decode cX6_init 29 = .ok (.aload_n 0, 1) := by decide +kernel
theorem dX6_init_30 : decode cX6_init 30 = .ok (.iconst 3, 1) := by decide +kernel
theorem dX6_init_31 : decode cX6_init 31 = .ok (.newarray .int, 2) := by decide +kernel
theorem dX6_init_33 : decode cX6_init 33 = .ok (.putfield 19, 3) := by decide +kernel
theorem dX6_init_36 : decode cX6_init 36 = .ok (.aload_n 0, 1) := by decide +kernel
theorem dX6_init_37 : decode cX6_init 37 = .ok (.iconst 4, 1) := by decide +kernel
theorem dX6_init_38 : decode cX6_init 38 = .ok (.newarray .int, 2) := by decide +kernel
theorem dX6_init_40 : decode cX6_init 40 = .ok (.putfield 22, 3) := by decide +kernel
theorem dX6_init_43 : decode cX6_init 43 = .ok (.aload_n 0, 1) := by decide +kernel
theorem dX6_init_44 : decode cX6_init 44 = .ok (.getfield 7, 3) := by decide +kernel
theorem dX6_init_47 : decode cX6_init 47 = .ok (.iconst 2, 1) := by decide +kernel
theorem dX6_init_48 : decode cX6_init 48 = .ok (.bipush 20, 2) := by decide +kernel
theorem dX6_init_50 : decode cX6_init 50 = .ok (.iastore, 1) := by decide +kernel
theorem dX6_init_51 : decode cX6_init 51 = .ok (.aload_n 0, 1) := by decide +kernel
theorem dX6_init_52 : decode cX6_init 52 = .ok (.getfield 7, 3) := by decide +kernel
theorem dX6_init_55 : decode cX6_init 55 = .ok (.iconst 3, 1) := by decide +kernel
theorem dX6_init_56 : decode cX6_init 56 = .ok (.bipush 10, 2) := by decide +kernel
theorem dX6_init_58 : decode cX6_init 58 = .ok (.iastore, 1) := by decide +kernel
theorem dX6_init_59 : decode cX6_init 59 = .ok (.aload_n 0, 1) := by decide +kernel
theorem dX6_init_60 : decode cX6_init 60 = .ok (.getfield 7, 3) := by decide +kernel
theorem dX6_init_63 : decode cX6_init 63 = .ok (.iconst 4, 1) := by decide +kernel
theorem dX6_init_64 : decode cX6_init 64 = .ok (.iconst 5, 1) := by decide +kernel
theorem dX6_init_65 : decode cX6_init 65 = .ok (.iastore, 1) := by decide +kernel
theorem dX6_init_66 : decode cX6_init 66 = .ok (.aload_n 0, 1) := by decide +kernel
theorem dX6_init_67 : decode cX6_init 67 = .ok (.getfield 7, 3) := by decide +kernel
theorem dX6_init_70 : decode cX6_init 70 = .ok (.iconst 5, 1) := by decide +kernel
theorem dX6_init_71 : decode cX6_init 71 = .ok (.iconst 3, 1) := by decide +kernel
theorem dX6_init_72 : decode cX6_init 72 = .ok (.iastore, 1) := by decide +kernel
theorem dX6_init_73 : decode cX6_init 73 = .ok (.aload_n 0, 1) := by decide +kernel
theorem dX6_init_74 : decode cX6_init 74 = .ok (.getfield 7, 3) := by decide +kernel
theorem dX6_init_77 : decode cX6_init 77 = .ok (.bipush 6, 2) := by decide +kernel
theorem dX6_init_79 : decode cX6_init 79 = .ok (.bipush 50, 2) := by decide +kernel
theorem dX6_init_81 : decode cX6_init 81 = .ok (.iastore, 1) := by decide +kernel
theorem dX6_init_82 : decode cX6_init 82 = .ok (.return_, 1) := by decide +kernel
theorem dX6_in_0 : decode cX6_in 0 = .ok (.iload_n 0, 1) := by decide +kernel
theorem dX6_in_1 : decode cX6_in 1 = .ok (.iload_n 1, 1) := by decide +kernel
theorem dX6_in_2 : decode cX6_in 2 = .ok (.if_icmp .lt 12, 3) := by decide +kernel
theorem dX6_in_5 : decode cX6_in 5 = .ok (.iload_n 0, 1) := by decide +kernel
theorem dX6_in_6 : decode cX6_in 6 = .ok (.iload_n 2, 1) := by decide +kernel
theorem dX6_in_7 : decode cX6_in 7 = .ok (.if_icmp .gt 7, 3) := by decide +kernel
theorem dX6_in_10 : decode cX6_in 10 = .ok (.iconst 1, 1) := by decide +kernel
theorem dX6_in_11 : decode cX6_in 11 = .ok (.goto 4, 3) := by decide +kernel
theorem dX6_in_14 : decode cX6_in 14 = .ok (.iconst 0, 1) := by decide +kernel
theorem dX6_in_15 : decode cX6_in 15 = .ok (.ireturn, 1) := by decide +kernel
theorem dX6_of_0 : decode cX6_of 0 = .ok (.bipush 7, 2) := by decide +kernel
theorem dX6_of_2 : decode cX6_of 2 = .ok (.bipush 32, 2) := by decide +kernel
theorem dX6_of_4 : decode cX6_of 4 = .ok (.iload_n 0, 1) := by decide +kernel
theorem dX6_of_5 : decode cX6_of 5 = .ok (.imul, 1) := by decide +kernel
theorem dX6_of_6 : decode cX6_of 6 = .ok (.iadd, 1) := by decide +kernel
theorem dX6_of_7 : decode cX6_of 7 = .ok (.iload_n 1, 1) := by decide +kernel
theorem dX6_of_8 : decode cX6_of 8 = .ok (.iadd, 1) := by decide +kernel
theorem dX6_of_9 : decode cX6_of 9 = .ok (.ireturn, 1) := by decide +kernel
theorem dX6_isFirm_0 : decode cX6_isFirm 0 = .ok (.iload_n 1, 1) := by decide +kernel
theorem dX6_isFirm_1 : decode cX6_isFirm 1 = .ok (.iconst 0, 1) := by decide +kernel
theorem dX6_isFirm_2 : decode cX6_isFirm 2 = .ok (.aload_n 0, 1) := by decide +kernel
theorem dX6_isFirm_3 : decode cX6_isFirm 3 = .ok (.getfield 7, 3) := by decide +kernel
theorem dX6_isFirm_6 : decode cX6_isFirm 6 = .ok (.iconst 1, 1) := by decide +kernel
theorem dX6_isFirm_7 : decode cX6_isFirm 7 = .ok (.iaload, 1) := by decide +kernel
theorem dX6_isFirm_8 : decode cX6_isFirm 8 = .ok (.iconst 1, 1) := by decide +kernel
theorem dX6_isFirm_9 : decode cX6_isFirm 9 = .ok (.isub, 1) := by decide +kernel
theorem dX6_isFirm_10 : decode cX6_isFirm 10 = .ok (.invokestatic 25, 3) := by decide +kernel
theorem dX6_isFirm_13 : decode cX6_isFirm 13 = .ok (.ireturn, 1) := by decide +kernel
theorem dX6_isVintage_0 : decode cX6_isVintage 0 = .ok (.iload_n 0, 1) := by decide +kernel
theorem dX6_isVintage_1 : decode cX6_isVintage 1 = .ok (.iconst 0, 1) := by decide +kernel
theorem dX6_isVintage_2 : decode cX6_isVintage 2 = .ok (.bipush 19, 2) := by decide +kernel
theorem dX6_isVintage_4 : decode cX6_isVintage 4 = .ok (.invokestatic 25, 3) := by decide +kernel
theorem dX6_isVintage_7 : decode cX6_isVintage 7 = .ok (.ireturn, 1) := by decide +kernel
theorem dX6_isGrade_0 : decode cX6_isGrade 0 = .ok (.iload_n 0, 1) := by decide +kernel
theorem dX6_isGrade_1 : decode cX6_isGrade 1 = .ok (.iconst 0, 1) := by decide +kernel
theorem dX6_isGrade_2 : decode cX6_isGrade 2 = .ok (.iconst 2, 1) := by decide +kernel
theorem dX6_isGrade_3 : decode cX6_isGrade 3 = .ok (.invokestatic 25, 3) := by decide +kernel
theorem dX6_isGrade_6 : decode cX6_isGrade 6 = .ok (.ireturn, 1) := by decide +kernel
theorem dX6_isTonnes_0 : decode cX6_isTonnes 0 = .ok (.iload_n 0, 1) := by decide +kernel
theorem dX6_isTonnes_1 : decode cX6_isTonnes 1 = .ok (.iconst 1, 1) := by decide +kernel
theorem dX6_isTonnes_2 : decode cX6_isTonnes 2 = .ok (.sipush 9999, 3) := by decide +kernel
theorem dX6_isTonnes_5 : decode cX6_isTonnes 5 = .ok (.invokestatic 25, 3) := by decide +kernel
theorem dX6_isTonnes_8 : decode cX6_isTonnes 8 = .ok (.ireturn, 1) := by decide +kernel
theorem dX6_year_0 : decode cX6_year 0 = .ok (.aload_n 0, 1) := by decide +kernel
theorem dX6_year_1 : decode cX6_year 1 = .ok (.getfield 7, 3) := by decide +kernel
theorem dX6_year_4 : decode cX6_year 4 = .ok (.iconst 0, 1) := by decide +kernel
theorem dX6_year_5 : decode cX6_year 5 = .ok (.iaload, 1) := by decide +kernel
theorem dX6_year_6 : decode cX6_year 6 = .ok (.bipush 12, 2) := by decide +kernel
theorem dX6_year_8 : decode cX6_year 8 = .ok (.idiv, 1) := by decide +kernel
theorem dX6_year_9 : decode cX6_year 9 = .ok (.ireturn, 1) := by decide +kernel
theorem dX6_copy_0 : decode cX6_copy 0 = .ok (.iconst 0, 1) := by decide +kernel
theorem dX6_copy_1 : decode cX6_copy 1 = .ok (.istore_n 3, 1) := by decide +kernel
theorem dX6_copy_2 : decode cX6_copy 2 = .ok (.iload_n 3, 1) := by decide +kernel
theorem dX6_copy_3 : decode cX6_copy 3 = .ok (.sipush 349, 3) := by decide +kernel
theorem dX6_copy_6 : decode cX6_copy 6 = .ok (.if_icmp .ge 25, 3) := by decide +kernel
theorem dX6_copy_9 : decode cX6_copy 9 = .ok (.aload_n 0, 1) := by decide +kernel
theorem dX6_copy_10 : decode cX6_copy 10 = .ok (.getfield 7, 3) := by decide +kernel
theorem dX6_copy_13 : decode cX6_copy 13 = .ok (.iload_n 2, 1) := by decide +kernel
theorem dX6_copy_14 : decode cX6_copy 14 = .ok (.iload_n 3, 1) := by decide +kernel
theorem dX6_copy_15 : decode cX6_copy 15 = .ok (.iadd, 1) := by decide +kernel
theorem dX6_copy_16 : decode cX6_copy 16 = .ok (.aload_n 0, 1) := by decide +kernel
theorem dX6_copy_17 : decode cX6_copy 17 = .ok (.getfield 7, 3) := by decide +kernel
theorem dX6_copy_20 : decode cX6_copy 20 = .ok (.iload_n 1, 1) := by decide +kernel
theorem dX6_copy_21 : decode cX6_copy 21 = .ok (.iload_n 3, 1) := by decide +kernel
theorem dX6_copy_22 : decode cX6_copy 22 = .ok (.iadd, 1) := by decide +kernel
theorem dX6_copy_23 : decode cX6_copy 23 = .ok (.iaload, 1) := by decide +kernel
theorem dX6_copy_24 : decode cX6_copy 24 = .ok (.iastore, 1) := by decide +kernel
theorem dX6_copy_25 : decode cX6_copy 25 = .ok (.iinc 3 1, 3) := by decide +kernel
theorem dX6_copy_28 : decode cX6_copy 28 = .ok (.goto (-26), 3) := by decide +kernel
theorem dX6_copy_31 : decode cX6_copy 31 = .ok (.return_, 1) := by decide +kernel
theorem dX6_record_0 : decode cX6_record 0 = .ok (.aload_n 0, 1) := by decide +kernel
theorem dX6_record_1 : decode cX6_record 1 = .ok (.getfield 29, 3) := by decide +kernel
theorem dX6_record_4 : decode cX6_record 4 = .ok (.iconst 4, 1) := by decide +kernel
theorem dX6_record_5 : decode cX6_record 5 = .ok (.if_icmp .ne 44, 3) := by decide +kernel
theorem dX6_record_8 : decode cX6_record 8 = .ok (.iconst 1, 1) := by decide +kernel
theorem dX6_record_9 : decode cX6_record 9 = .ok (.istore_n 2, 1) := by decide +kernel
theorem dX6_record_10 : decode cX6_record 10 = .ok (.iload_n 2, 1) := by decide +kernel
theorem dX6_record_11 : decode cX6_record 11 = .ok (.iconst 4, 1) := by decide +kernel
theorem dX6_record_12 : decode cX6_record 12 = .ok (.if_icmp .ge 27, 3) := by decide +kernel
theorem dX6_record_15 : decode cX6_record 15 = .ok (.aload_n 0, 1) := by decide +kernel
theorem dX6_record_16 : decode cX6_record 16 = .ok (.sipush 349, 3) := by decide +kernel
theorem dX6_record_19 : decode cX6_record 19 = .ok (.sipush 349, 3) := by decide +kernel
theorem dX6_record_22 : decode cX6_record 22 = .ok (.iload_n 2, 1) := by decide +kernel
theorem dX6_record_23 : decode cX6_record 23 = .ok (.imul, 1) := by decide +kernel
theorem dX6_record_24 : decode cX6_record 24 = .ok (.iadd, 1) := by decide +kernel
theorem dX6_record_25 : decode cX6_record 25 = .ok (.sipush 349, 3) := by decide +kernel
theorem dX6_record_28 : decode cX6_record 28 = .ok (.iload_n 2, 1) := by decide +kernel
theorem dX6_record_29 : decode cX6_record 29 = .ok (.imul, 1) := by decide +kernel
theorem dX6_record_30 : decode cX6_record 30 = .ok (.invokevirtual 33, 3) := by decide +kernel
theorem dX6_record_33 : decode cX6_record 33 = .ok (.iinc 2 1, 3) := by decide +kernel
theorem dX6_record_36 : decode cX6_record 36 = .ok (.goto (-26), 3) := by decide +kernel
theorem dX6_record_39 : decode cX6_record 39 = .ok (.aload_n 0, 1) := by decide +kernel
theorem dX6_record_40 : decode cX6_record 40 = .ok (.dup, 1) := by decide +kernel
theorem dX6_record_41 : decode cX6_record 41 = .ok (.getfield 29, 3) := by decide +kernel
theorem dX6_record_44 : decode cX6_record 44 = .ok (.iconst 1, 1) := by decide +kernel
theorem dX6_record_45 : decode cX6_record 45 = .ok (.isub, 1) := by decide +kernel
theorem dX6_record_46 : decode cX6_record 46 = .ok (.putfield 29, 3) := by decide +kernel
theorem dX6_record_49 : decode cX6_record 49 = .ok (.aload_n 0, 1) := by decide +kernel
theorem dX6_record_50 : decode cX6_record 50 = .ok (.iload_n 1, 1) := by decide +kernel
theorem dX6_record_51 : decode cX6_record 51 = .ok (.sipush 349, 3) := by decide +kernel
theorem dX6_record_54 : decode cX6_record 54 = .ok (.sipush 349, 3) := by decide +kernel
theorem dX6_record_57 : decode cX6_record 57 = .ok (.aload_n 0, 1) := by decide +kernel
theorem dX6_record_58 : decode cX6_record 58 = .ok (.getfield 29, 3) := by decide +kernel
theorem dX6_record_61 : decode cX6_record 61 = .ok (.imul, 1) := by decide +kernel
theorem dX6_record_62 : decode cX6_record 62 = .ok (.iadd, 1) := by decide +kernel
theorem dX6_record_63 : decode cX6_record 63 = .ok (.invokevirtual 33, 3) := by decide +kernel
theorem dX6_record_66 : decode cX6_record 66 = .ok (.aload_n 0, 1) := by decide +kernel
theorem dX6_record_67 : decode cX6_record 67 = .ok (.dup, 1) := by decide +kernel
theorem dX6_record_68 : decode cX6_record 68 = .ok (.getfield 29, 3) := by decide +kernel
theorem dX6_record_71 : decode cX6_record 71 = .ok (.iconst 1, 1) := by decide +kernel
theorem dX6_record_72 : decode cX6_record 72 = .ok (.iadd, 1) := by decide +kernel
theorem dX6_record_73 : decode cX6_record 73 = .ok (.putfield 29, 3) := by decide +kernel
theorem dX6_record_76 : decode cX6_record 76 = .ok (.return_, 1) := by decide +kernel
theorem dX6_undo_0 : decode cX6_undo 0 = .ok (.aload_n 0, 1) := by decide +kernel
theorem dX6_undo_1 : decode cX6_undo 1 = .ok (.getfield 29, 3) := by decide +kernel
theorem dX6_undo_4 : decode cX6_undo 4 = .ok (.ifCond .ne 6, 3) := by decide +kernel
theorem dX6_undo_7 : decode cX6_undo 7 = .ok (.bipush (-5), 2) := by decide +kernel
theorem dX6_undo_9 : decode cX6_undo 9 = .ok (.ireturn, 1) := by decide +kernel
theorem dX6_undo_10 : decode cX6_undo 10 = .ok (.aload_n 0, 1) := by decide +kernel
theorem dX6_undo_11 : decode cX6_undo 11 = .ok (.dup, 1) := by decide +kernel
theorem dX6_undo_12 : decode cX6_undo 12 = .ok (.getfield 29, 3) := by decide +kernel
theorem dX6_undo_15 : decode cX6_undo 15 = .ok (.iconst 1, 1) := by decide +kernel
theorem dX6_undo_16 : decode cX6_undo 16 = .ok (.isub, 1) := by decide +kernel
theorem dX6_undo_17 : decode cX6_undo 17 = .ok (.putfield 29, 3) := by decide +kernel
theorem dX6_undo_20 : decode cX6_undo 20 = .ok (.aload_n 0, 1) := by decide +kernel
theorem dX6_undo_21 : decode cX6_undo 21 = .ok (.sipush 349, 3) := by decide +kernel
theorem dX6_undo_24 : decode cX6_undo 24 = .ok (.sipush 349, 3) := by decide +kernel
theorem dX6_undo_27 : decode cX6_undo 27 = .ok (.aload_n 0, 1) := by decide +kernel
theorem dX6_undo_28 : decode cX6_undo 28 = .ok (.getfield 29, 3) := by decide +kernel
theorem dX6_undo_31 : decode cX6_undo 31 = .ok (.imul, 1) := by decide +kernel
theorem dX6_undo_32 : decode cX6_undo 32 = .ok (.iadd, 1) := by decide +kernel
theorem dX6_undo_33 : decode cX6_undo 33 = .ok (.iconst 0, 1) := by decide +kernel
theorem dX6_undo_34 : decode cX6_undo 34 = .ok (.invokevirtual 33, 3) := by decide +kernel
theorem dX6_undo_37 : decode cX6_undo 37 = .ok (.aload_n 0, 1) := by decide +kernel
theorem dX6_undo_38 : decode cX6_undo 38 = .ok (.getfield 29, 3) := by decide +kernel
theorem dX6_undo_41 : decode cX6_undo 41 = .ok (.ireturn, 1) := by decide +kernel
theorem dX6_keep_0 : decode cX6_keep 0 = .ok (.aload_n 0, 1) := by decide +kernel
theorem dX6_keep_1 : decode cX6_keep 1 = .ok (.iconst 0, 1) := by decide +kernel
theorem dX6_keep_2 : decode cX6_keep 2 = .ok (.sipush 1745, 3) := by decide +kernel
theorem dX6_keep_5 : decode cX6_keep 5 = .ok (.invokevirtual 33, 3) := by decide +kernel
theorem dX6_keep_8 : decode cX6_keep 8 = .ok (.aload_n 0, 1) := by decide +kernel
theorem dX6_keep_9 : decode cX6_keep 9 = .ok (.iconst 1, 1) := by decide +kernel
theorem dX6_keep_10 : decode cX6_keep 10 = .ok (.putfield 37, 3) := by decide +kernel
theorem dX6_keep_13 : decode cX6_keep 13 = .ok (.aload_n 0, 1) := by decide +kernel
theorem dX6_keep_14 : decode cX6_keep 14 = .ok (.getfield 7, 3) := by decide +kernel
theorem dX6_keep_17 : decode cX6_keep 17 = .ok (.iconst 0, 1) := by decide +kernel
theorem dX6_keep_18 : decode cX6_keep 18 = .ok (.iaload, 1) := by decide +kernel
theorem dX6_keep_19 : decode cX6_keep 19 = .ok (.ireturn, 1) := by decide +kernel
theorem dX6_restore_0 : decode cX6_restore 0 = .ok (.aload_n 0, 1) := by decide +kernel
theorem dX6_restore_1 : decode cX6_restore 1 = .ok (.getfield 37, 3) := by decide +kernel
theorem dX6_restore_4 : decode cX6_restore 4 = .ok (.ifCond .ne 6, 3) := by decide +kernel
theorem dX6_restore_7 : decode cX6_restore 7 = .ok (.bipush (-5), 2) := by decide +kernel
theorem dX6_restore_9 : decode cX6_restore 9 = .ok (.ireturn, 1) := by decide +kernel
theorem dX6_restore_10 : decode cX6_restore 10 = .ok (.aload_n 0, 1) := by decide +kernel
theorem dX6_restore_11 : decode cX6_restore 11 = .ok (.iconst 0, 1) := by decide +kernel
theorem dX6_restore_12 : decode cX6_restore 12 = .ok (.invokevirtual 41, 3) := by decide +kernel
theorem dX6_restore_15 : decode cX6_restore 15 = .ok (.aload_n 0, 1) := by decide +kernel
theorem dX6_restore_16 : decode cX6_restore 16 = .ok (.sipush 1745, 3) := by decide +kernel
theorem dX6_restore_19 : decode cX6_restore 19 = .ok (.iconst 0, 1) := by decide +kernel
theorem dX6_restore_20 : decode cX6_restore 20 = .ok (.invokevirtual 33, 3) := by decide +kernel
theorem dX6_restore_23 : decode cX6_restore 23 = .ok (.aload_n 0, 1) := by decide +kernel
theorem dX6_restore_24 : decode cX6_restore 24 = .ok (.getfield 7, 3) := by decide +kernel
theorem dX6_restore_27 : decode cX6_restore 27 = .ok (.iconst 0, 1) := by decide +kernel
theorem dX6_restore_28 : decode cX6_restore 28 = .ok (.iaload, 1) := by decide +kernel
theorem dX6_restore_29 : decode cX6_restore 29 = .ok (.ireturn, 1) := by decide +kernel
theorem dX6_addFirm_0 : decode cX6_addFirm 0 = .ok (.aload_n 0, 1) := by decide +kernel
theorem dX6_addFirm_1 : decode cX6_addFirm 1 = .ok (.getfield 7, 3) := by decide +kernel
end
section
theorem dX6_addFirm_4 : decode cX6_addFirm 4 = .ok (.iconst 1, 1) := by decide +kernel
theorem dX6_addFirm_5 : decode cX6_addFirm 5 = .ok (.iaload, 1) := by decide +kernel
theorem dX6_addFirm_6 : decode cX6_addFirm 6 = .ok (.bipush 8, 2) := by decide +kernel
theorem dX6_addFirm_8 : decode cX6_addFirm 8 = .ok (.if_icmp .ne 6, 3) := by decide +kernel
theorem dX6_addFirm_11 : decode cX6_addFirm 11 = .ok (.bipush (-3), 2) := by decide +kernel
theorem dX6_addFirm_13 : decode cX6_addFirm 13 = .ok (.ireturn, 1) := by decide +kernel
theorem dX6_addFirm_14 : decode cX6_addFirm 14 = .ok (.aload_n 0, 1) := by decide +kernel
theorem dX6_addFirm_15 : decode cX6_addFirm 15 = .ok (.iconst 0, 1) := by decide +kernel
theorem dX6_addFirm_16 : decode cX6_addFirm 16 = .ok (.invokevirtual 41, 3) := by decide +kernel
theorem dX6_addFirm_19 : decode cX6_addFirm 19 = .ok (.aload_n 0, 1) := by decide +kernel
theorem dX6_addFirm_20 : decode cX6_addFirm 20 = .ok (.getfield 7, 3) := by decide +kernel
theorem dX6_addFirm_23 : decode cX6_addFirm 23 = .ok (.iconst 1, 1) := by decide +kernel
theorem dX6_addFirm_24 : decode cX6_addFirm 24 = .ok (.iaload, 1) := by decide +kernel
theorem dX6_addFirm_25 : decode cX6_addFirm 25 = .ok (.istore_n 1, 1) := by decide +kernel
theorem dX6_addFirm_26 : decode cX6_addFirm 26 = .ok (.iconst 0, 1) := by decide +kernel
theorem dX6_addFirm_27 : decode cX6_addFirm 27 = .ok (.istore_n 2, 1) := by decide +kernel
theorem dX6_addFirm_28 : decode cX6_addFirm 28 = .ok (.iload_n 2, 1) := by decide +kernel
theorem dX6_addFirm_29 : decode cX6_addFirm 29 = .ok (.bipush 32, 2) := by decide +kernel
theorem dX6_addFirm_31 : decode cX6_addFirm 31 = .ok (.if_icmp .ge 20, 3) := by decide +kernel
theorem dX6_addFirm_34 : decode cX6_addFirm 34 = .ok (.aload_n 0, 1) := by decide +kernel
theorem dX6_addFirm_35 : decode cX6_addFirm 35 = .ok (.getfield 7, 3) := by decide +kernel
theorem dX6_addFirm_38 : decode cX6_addFirm 38 = .ok (.iload_n 1, 1) := by decide +kernel
theorem dX6_addFirm_39 : decode cX6_addFirm 39 = .ok (.iload_n 2, 1) := by decide +kernel
theorem dX6_addFirm_40 : decode cX6_addFirm 40 = .ok (.invokestatic 45, 3) := by decide +kernel
theorem dX6_addFirm_43 : decode cX6_addFirm 43 = .ok (.iconst 0, 1) := by decide +kernel
theorem dX6_addFirm_44 : decode cX6_addFirm 44 = .ok (.iastore, 1) := by decide +kernel
theorem dX6_addFirm_45 : decode cX6_addFirm 45 = .ok (.iinc 2 1, 3) := by decide +kernel
theorem dX6_addFirm_48 : decode cX6_addFirm 48 = .ok (.goto (-20), 3) := by decide +kernel
theorem dX6_addFirm_51 : decode cX6_addFirm 51 = .ok (.aload_n 0, 1) := by decide +kernel
theorem dX6_addFirm_52 : decode cX6_addFirm 52 = .ok (.getfield 7, 3) := by decide +kernel
theorem dX6_addFirm_55 : decode cX6_addFirm 55 = .ok (.iconst 1, 1) := by decide +kernel
theorem dX6_addFirm_56 : decode cX6_addFirm 56 = .ok (.dup2, 1) := by decide +kernel
theorem dX6_addFirm_57 : decode cX6_addFirm 57 = .ok (.iaload, 1) := by decide +kernel
theorem dX6_addFirm_58 : decode cX6_addFirm 58 = .ok (.iconst 1, 1) := by decide +kernel
theorem dX6_addFirm_59 : decode cX6_addFirm 59 = .ok (.iadd, 1) := by decide +kernel
theorem dX6_addFirm_60 : decode cX6_addFirm 60 = .ok (.iastore, 1) := by decide +kernel
theorem dX6_addFirm_61 : decode cX6_addFirm 61 = .ok (.iload_n 1, 1) := by decide +kernel
theorem dX6_addFirm_62 : decode cX6_addFirm 62 = .ok (.ireturn, 1) := by decide +kernel
theorem dX6_set_0 : decode cX6_set 0 = .ok (.iload_n 1, 1) := by decide +kernel
theorem dX6_set_1 : decode cX6_set 1 = .ok (.iconst 3, 1) := by decide +kernel
theorem dX6_set_2 : decode cX6_set 2 = .ok (.if_icmp .ne 7, 3) := by decide +kernel
theorem dX6_set_5 : decode cX6_set 5 = .ok (.iconst 1, 1) := by decide +kernel
theorem dX6_set_6 : decode cX6_set 6 = .ok (.goto 4, 3) := by decide +kernel
theorem dX6_set_9 : decode cX6_set 9 = .ok (.iconst 0, 1) := by decide +kernel
theorem dX6_set_10 : decode cX6_set 10 = .ok (.istore_n 3, 1) := by decide +kernel
theorem dX6_set_11 : decode cX6_set 11 = .ok (.iload_n 1, 1) := by decide +kernel
theorem dX6_set_12 : decode cX6_set 12 = .ok (.iconst 3, 1) := by decide +kernel
theorem dX6_set_13 : decode cX6_set 13 = .ok (.if_icmp .ne 7, 3) := by decide +kernel
theorem dX6_set_16 : decode cX6_set 16 = .ok (.iconst 5, 1) := by decide +kernel
theorem dX6_set_17 : decode cX6_set 17 = .ok (.goto 15, 3) := by decide +kernel
theorem dX6_set_20 : decode cX6_set 20 = .ok (.iload_n 1, 1) := by decide +kernel
theorem dX6_set_21 : decode cX6_set 21 = .ok (.iconst 4, 1) := by decide +kernel
theorem dX6_set_22 : decode cX6_set 22 = .ok (.if_icmp .ne 8, 3) := by decide +kernel
theorem dX6_set_25 : decode cX6_set 25 = .ok (.bipush 99, 2) := by decide +kernel
theorem dX6_set_27 : decode cX6_set 27 = .ok (.goto 5, 3) := by decide +kernel
theorem dX6_set_30 : decode cX6_set 30 = .ok (.bipush 100, 2) := by decide +kernel
theorem dX6_set_32 : decode cX6_set 32 = .ok (.istore 4, 2) := by decide +kernel
theorem dX6_set_34 : decode cX6_set 34 = .ok (.iload_n 1, 1) := by decide +kernel
theorem dX6_set_35 : decode cX6_set 35 = .ok (.iconst 0, 1) := by decide +kernel
theorem dX6_set_36 : decode cX6_set 36 = .ok (.iconst 4, 1) := by decide +kernel
theorem dX6_set_37 : decode cX6_set 37 = .ok (.invokestatic 25, 3) := by decide +kernel
theorem dX6_set_40 : decode cX6_set 40 = .ok (.ifCond .eq 13, 3) := by decide +kernel
theorem dX6_set_43 : decode cX6_set 43 = .ok (.iload_n 2, 1) := by decide +kernel
theorem dX6_set_44 : decode cX6_set 44 = .ok (.iload_n 3, 1) := by decide +kernel
theorem dX6_set_45 : decode cX6_set 45 = .ok (.iload 4, 2) := by decide +kernel
theorem dX6_set_47 : decode cX6_set 47 = .ok (.invokestatic 25, 3) := by decide +kernel
theorem dX6_set_50 : decode cX6_set 50 = .ok (.ifCond .ne 6, 3) := by decide +kernel
theorem dX6_set_53 : decode cX6_set 53 = .ok (.bipush (-2), 2) := by decide +kernel
theorem dX6_set_55 : decode cX6_set 55 = .ok (.ireturn, 1) := by decide +kernel
theorem dX6_set_56 : decode cX6_set 56 = .ok (.aload_n 0, 1) := by decide +kernel
theorem dX6_set_57 : decode cX6_set 57 = .ok (.getfield 7, 3) := by decide +kernel
theorem dX6_set_60 : decode cX6_set 60 = .ok (.iconst 2, 1) := by decide +kernel
theorem dX6_set_61 : decode cX6_set 61 = .ok (.iload_n 1, 1) := by decide +kernel
theorem dX6_set_62 : decode cX6_set 62 = .ok (.iadd, 1) := by decide +kernel
theorem dX6_set_63 : decode cX6_set 63 = .ok (.iaload, 1) := by decide +kernel
theorem dX6_set_64 : decode cX6_set 64 = .ok (.istore 5, 2) := by decide +kernel
theorem dX6_set_66 : decode cX6_set 66 = .ok (.iload 5, 2) := by decide +kernel
theorem dX6_set_68 : decode cX6_set 68 = .ok (.iload_n 2, 1) := by decide +kernel
theorem dX6_set_69 : decode cX6_set 69 = .ok (.if_icmp .ne 6, 3) := by decide +kernel
theorem dX6_set_72 : decode cX6_set 72 = .ok (.bipush (-5), 2) := by decide +kernel
theorem dX6_set_74 : decode cX6_set 74 = .ok (.ireturn, 1) := by decide +kernel
theorem dX6_set_75 : decode cX6_set 75 = .ok (.aload_n 0, 1) := by decide +kernel
theorem dX6_set_76 : decode cX6_set 76 = .ok (.iconst 0, 1) := by decide +kernel
theorem dX6_set_77 : decode cX6_set 77 = .ok (.invokevirtual 41, 3) := by decide +kernel
theorem dX6_set_80 : decode cX6_set 80 = .ok (.aload_n 0, 1) := by decide +kernel
theorem dX6_set_81 : decode cX6_set 81 = .ok (.getfield 7, 3) := by decide +kernel
theorem dX6_set_84 : decode cX6_set 84 = .ok (.iconst 2, 1) := by decide +kernel
theorem dX6_set_85 : decode cX6_set 85 = .ok (.iload_n 1, 1) := by decide +kernel
theorem dX6_set_86 : decode cX6_set 86 = .ok (.iadd, 1) := by decide +kernel
theorem dX6_set_87 : decode cX6_set 87 = .ok (.iload_n 2, 1) := by decide +kernel
theorem dX6_set_88 : decode cX6_set 88 = .ok (.iastore, 1) := by decide +kernel
theorem dX6_set_89 : decode cX6_set 89 = .ok (.iload 5, 2) := by decide +kernel
theorem dX6_set_91 : decode cX6_set 91 = .ok (.ireturn, 1) := by decide +kernel
theorem dX6_issue_0 : decode cX6_issue 0 = .ok (.aload_n 0, 1) := by decide +kernel
theorem dX6_issue_1 : decode cX6_issue 1 = .ok (.iload_n 1, 1) := by decide +kernel
theorem dX6_issue_2 : decode cX6_issue 2 = .ok (.invokevirtual 49, 3) := by decide +kernel
theorem dX6_issue_5 : decode cX6_issue 5 = .ok (.ifCond .ne 5, 3) := by decide +kernel
theorem dX6_issue_8 : decode cX6_issue 8 = .ok (.iconst (-1), 1) := by decide +kernel
theorem dX6_issue_9 : decode cX6_issue 9 = .ok (.ireturn, 1) := by decide +kernel
theorem dX6_issue_10 : decode cX6_issue 10 = .ok (.iload_n 2, 1) := by decide +kernel
theorem dX6_issue_11 : decode cX6_issue 11 = .ok (.invokestatic 53, 3) := by decide +kernel
theorem dX6_issue_14 : decode cX6_issue 14 = .ok (.ifCond .ne 6, 3) := by decide +kernel
theorem dX6_issue_17 : decode cX6_issue 17 = .ok (.bipush (-2), 2) := by decide +kernel
theorem dX6_issue_19 : decode cX6_issue 19 = .ok (.ireturn, 1) := by decide +kernel
theorem dX6_issue_20 : decode cX6_issue 20 = .ok (.aload_n 0, 1) := by decide +kernel
theorem dX6_issue_21 : decode cX6_issue 21 = .ok (.iconst 0, 1) := by decide +kernel
theorem dX6_issue_22 : decode cX6_issue 22 = .ok (.invokevirtual 41, 3) := by decide +kernel
theorem dX6_issue_25 : decode cX6_issue 25 = .ok (.aload_n 0, 1) := by decide +kernel
theorem dX6_issue_26 : decode cX6_issue 26 = .ok (.getfield 7, 3) := by decide +kernel
theorem dX6_issue_29 : decode cX6_issue 29 = .ok (.iload_n 1, 1) := by decide +kernel
theorem dX6_issue_30 : decode cX6_issue 30 = .ok (.iconst 0, 1) := by decide +kernel
theorem dX6_issue_31 : decode cX6_issue 31 = .ok (.aload_n 0, 1) := by decide +kernel
theorem dX6_issue_32 : decode cX6_issue 32 = .ok (.invokevirtual 56, 3) := by decide +kernel
theorem dX6_issue_35 : decode cX6_issue 35 = .ok (.iadd, 1) := by decide +kernel
theorem dX6_issue_36 : decode cX6_issue 36 = .ok (.invokestatic 45, 3) := by decide +kernel
theorem dX6_issue_39 : decode cX6_issue 39 = .ok (.dup2, 1) := by decide +kernel
theorem dX6_issue_40 : decode cX6_issue 40 = .ok (.iaload, 1) := by decide +kernel
theorem dX6_issue_41 : decode cX6_issue 41 = .ok (.iload_n 2, 1) := by decide +kernel
theorem dX6_issue_42 : decode cX6_issue 42 = .ok (.iadd, 1) := by decide +kernel
theorem dX6_issue_43 : decode cX6_issue 43 = .ok (.iastore, 1) := by decide +kernel
theorem dX6_issue_44 : decode cX6_issue 44 = .ok (.aload_n 0, 1) := by decide +kernel
theorem dX6_issue_45 : decode cX6_issue 45 = .ok (.getfield 7, 3) := by decide +kernel
theorem dX6_issue_48 : decode cX6_issue 48 = .ok (.sipush 263, 3) := by decide +kernel
theorem dX6_issue_51 : decode cX6_issue 51 = .ok (.aload_n 0, 1) := by decide +kernel
theorem dX6_issue_52 : decode cX6_issue 52 = .ok (.invokevirtual 56, 3) := by decide +kernel
theorem dX6_issue_55 : decode cX6_issue 55 = .ok (.iadd, 1) := by decide +kernel
theorem dX6_issue_56 : decode cX6_issue 56 = .ok (.dup2, 1) := by decide +kernel
theorem dX6_issue_57 : decode cX6_issue 57 = .ok (.iaload, 1) := by decide +kernel
theorem dX6_issue_58 : decode cX6_issue 58 = .ok (.iload_n 2, 1) := by decide +kernel
theorem dX6_issue_59 : decode cX6_issue 59 = .ok (.iadd, 1) := by decide +kernel
theorem dX6_issue_60 : decode cX6_issue 60 = .ok (.iastore, 1) := by decide +kernel
theorem dX6_issue_61 : decode cX6_issue 61 = .ok (.aload_n 0, 1) := by decide +kernel
theorem dX6_issue_62 : decode cX6_issue 62 = .ok (.getfield 7, 3) := by decide +kernel
theorem dX6_issue_65 : decode cX6_issue 65 = .ok (.iload_n 1, 1) := by decide +kernel
theorem dX6_issue_66 : decode cX6_issue 66 = .ok (.iconst 0, 1) := by decide +kernel
theorem dX6_issue_67 : decode cX6_issue 67 = .ok (.aload_n 0, 1) := by decide +kernel
theorem dX6_issue_68 : decode cX6_issue 68 = .ok (.invokevirtual 56, 3) := by decide +kernel
theorem dX6_issue_71 : decode cX6_issue 71 = .ok (.iadd, 1) := by decide +kernel
theorem dX6_issue_72 : decode cX6_issue 72 = .ok (.invokestatic 45, 3) := by decide +kernel
theorem dX6_issue_75 : decode cX6_issue 75 = .ok (.iaload, 1) := by decide +kernel
theorem dX6_issue_76 : decode cX6_issue 76 = .ok (.ireturn, 1) := by decide +kernel
theorem dX6_issueOffsets_0 : decode cX6_issueOffsets 0 = .ok (.aload_n 0, 1) := by decide +kernel
theorem dX6_issueOffsets_1 : decode cX6_issueOffsets 1 = .ok (.iload_n 1, 1) := by decide +kernel
theorem dX6_issueOffsets_2 : decode cX6_issueOffsets 2 = .ok (.invokevirtual 49, 3) := by decide +kernel
theorem dX6_issueOffsets_5 : decode cX6_issueOffsets 5 = .ok (.ifCond .eq 10, 3) := by decide +kernel
theorem dX6_issueOffsets_8 : decode cX6_issueOffsets 8 = .ok (.iload_n 2, 1) := by decide +kernel
theorem dX6_issueOffsets_9 : decode cX6_issueOffsets 9 = .ok (.invokestatic 60, 3) := by decide +kernel
theorem dX6_issueOffsets_12 : decode cX6_issueOffsets 12 = .ok (.ifCond .ne 5, 3) := by decide +kernel
theorem dX6_issueOffsets_15 : decode cX6_issueOffsets 15 = .ok (.iconst (-1), 1) := by decide +kernel
theorem dX6_issueOffsets_16 : decode cX6_issueOffsets 16 = .ok (.ireturn, 1) := by decide +kernel
theorem dX6_issueOffsets_17 : decode cX6_issueOffsets 17 = .ok (.iload_n 3, 1) := by decide +kernel
theorem dX6_issueOffsets_18 : decode cX6_issueOffsets 18 = .ok (.invokestatic 53, 3) := by decide +kernel
theorem dX6_issueOffsets_21 : decode cX6_issueOffsets 21 = .ok (.ifCond .ne 6, 3) := by decide +kernel
theorem dX6_issueOffsets_24 : decode cX6_issueOffsets 24 = .ok (.bipush (-2), 2) := by decide +kernel
theorem dX6_issueOffsets_26 : decode cX6_issueOffsets 26 = .ok (.ireturn, 1) := by decide +kernel
theorem dX6_issueOffsets_27 : decode cX6_issueOffsets 27 = .ok (.aload_n 0, 1) := by decide +kernel
theorem dX6_issueOffsets_28 : decode cX6_issueOffsets 28 = .ok (.iconst 0, 1) := by decide +kernel
theorem dX6_issueOffsets_29 : decode cX6_issueOffsets 29 = .ok (.invokevirtual 41, 3) := by decide +kernel
theorem dX6_issueOffsets_32 : decode cX6_issueOffsets 32 = .ok (.aload_n 0, 1) := by decide +kernel
theorem dX6_issueOffsets_33 : decode cX6_issueOffsets 33 = .ok (.getfield 7, 3) := by decide +kernel
theorem dX6_issueOffsets_36 : decode cX6_issueOffsets 36 = .ok (.iload_n 1, 1) := by decide +kernel
theorem dX6_issueOffsets_37 : decode cX6_issueOffsets 37 = .ok (.bipush 20, 2) := by decide +kernel
theorem dX6_issueOffsets_39 : decode cX6_issueOffsets 39 = .ok (.iload_n 2, 1) := by decide +kernel
theorem dX6_issueOffsets_40 : decode cX6_issueOffsets 40 = .ok (.iadd, 1) := by decide +kernel
theorem dX6_issueOffsets_41 : decode cX6_issueOffsets 41 = .ok (.invokestatic 45, 3) := by decide +kernel
theorem dX6_issueOffsets_44 : decode cX6_issueOffsets 44 = .ok (.dup2, 1) := by decide +kernel
theorem dX6_issueOffsets_45 : decode cX6_issueOffsets 45 = .ok (.iaload, 1) := by decide +kernel
theorem dX6_issueOffsets_46 : decode cX6_issueOffsets 46 = .ok (.iload_n 3, 1) := by decide +kernel
theorem dX6_issueOffsets_47 : decode cX6_issueOffsets 47 = .ok (.iadd, 1) := by decide +kernel
theorem dX6_issueOffsets_48 : decode cX6_issueOffsets 48 = .ok (.iastore, 1) := by decide +kernel
theorem dX6_issueOffsets_49 : decode cX6_issueOffsets 49 = .ok (.aload_n 0, 1) := by decide +kernel
theorem dX6_issueOffsets_50 : decode cX6_issueOffsets 50 = .ok (.getfield 7, 3) := by decide +kernel
theorem dX6_issueOffsets_53 : decode cX6_issueOffsets 53 = .ok (.sipush 343, 3) := by decide +kernel
theorem dX6_issueOffsets_56 : decode cX6_issueOffsets 56 = .ok (.iload_n 2, 1) := by decide +kernel
theorem dX6_issueOffsets_57 : decode cX6_issueOffsets 57 = .ok (.iadd, 1) := by decide +kernel
theorem dX6_issueOffsets_58 : decode cX6_issueOffsets 58 = .ok (.dup2, 1) := by decide +kernel
theorem dX6_issueOffsets_59 : decode cX6_issueOffsets 59 = .ok (.iaload, 1) := by decide +kernel
theorem dX6_issueOffsets_60 : decode cX6_issueOffsets 60 = .ok (.iload_n 3, 1) := by decide +kernel
theorem dX6_issueOffsets_61 : decode cX6_issueOffsets 61 = .ok (.iadd, 1) := by decide +kernel
theorem dX6_issueOffsets_62 : decode cX6_issueOffsets 62 = .ok (.iastore, 1) := by decide +kernel
theorem dX6_issueOffsets_63 : decode cX6_issueOffsets 63 = .ok (.aload_n 0, 1) := by decide +kernel
theorem dX6_issueOffsets_64 : decode cX6_issueOffsets 64 = .ok (.getfield 7, 3) := by decide +kernel
theorem dX6_issueOffsets_67 : decode cX6_issueOffsets 67 = .ok (.iload_n 1, 1) := by decide +kernel
theorem dX6_issueOffsets_68 : decode cX6_issueOffsets 68 = .ok (.bipush 20, 2) := by decide +kernel
theorem dX6_issueOffsets_70 : decode cX6_issueOffsets 70 = .ok (.iload_n 2, 1) := by decide +kernel
theorem dX6_issueOffsets_71 : decode cX6_issueOffsets 71 = .ok (.iadd, 1) := by decide +kernel
theorem dX6_issueOffsets_72 : decode cX6_issueOffsets 72 = .ok (.invokestatic 45, 3) := by decide +kernel
theorem dX6_issueOffsets_75 : decode cX6_issueOffsets 75 = .ok (.iaload, 1) := by decide +kernel
theorem dX6_issueOffsets_76 : decode cX6_issueOffsets 76 = .ok (.ireturn, 1) := by decide +kernel
theorem dX6_noTransfer_0 : decode cX6_noTransfer 0 = .ok (.aload_n 0, 1) := by decide +kernel
theorem dX6_noTransfer_1 : decode cX6_noTransfer 1 = .ok (.iload_n 1, 1) := by decide +kernel
theorem dX6_noTransfer_2 : decode cX6_noTransfer 2 = .ok (.invokevirtual 49, 3) := by decide +kernel
theorem dX6_noTransfer_5 : decode cX6_noTransfer 5 = .ok (.ifCond .eq 15, 3) := by decide +kernel
theorem dX6_noTransfer_8 : decode cX6_noTransfer 8 = .ok (.aload_n 0, 1) := by decide +kernel
theorem dX6_noTransfer_9 : decode cX6_noTransfer 9 = .ok (.iload_n 2, 1) := by decide +kernel
theorem dX6_noTransfer_10 : decode cX6_noTransfer 10 = .ok (.invokevirtual 49, 3) := by decide +kernel
theorem dX6_noTransfer_13 : decode cX6_noTransfer 13 = .ok (.ifCond .eq 7, 3) := by decide +kernel
theorem dX6_noTransfer_16 : decode cX6_noTransfer 16 = .ok (.iload_n 3, 1) := by decide +kernel
theorem dX6_noTransfer_17 : decode cX6_noTransfer 17 = .ok (.ifCond .ne 5, 3) := by decide +kernel
theorem dX6_noTransfer_20 : decode cX6_noTransfer 20 = .ok (.iconst (-1), 1) := by decide +kernel
theorem dX6_noTransfer_21 : decode cX6_noTransfer 21 = .ok (.ireturn, 1) := by decide +kernel
theorem dX6_noTransfer_22 : decode cX6_noTransfer 22 = .ok (.iload 5, 2) := by decide +kernel
theorem dX6_noTransfer_24 : decode cX6_noTransfer 24 = .ok (.invokestatic 53, 3) := by decide +kernel
theorem dX6_noTransfer_27 : decode cX6_noTransfer 27 = .ok (.ifCond .eq 8, 3) := by decide +kernel
theorem dX6_noTransfer_30 : decode cX6_noTransfer 30 = .ok (.iload_n 1, 1) := by decide +kernel
theorem dX6_noTransfer_31 : decode cX6_noTransfer 31 = .ok (.iload_n 2, 1) := by decide +kernel
theorem dX6_noTransfer_32 : decode cX6_noTransfer 32 = .ok (.if_icmp .ne 6, 3) := by decide +kernel
theorem dX6_noTransfer_35 : decode cX6_noTransfer 35 = .ok (.bipush (-2), 2) := by decide +kernel
theorem dX6_noTransfer_37 : decode cX6_noTransfer 37 = .ok (.ireturn, 1) := by decide +kernel
theorem dX6_noTransfer_38 : decode cX6_noTransfer 38 = .ok (.aload_n 0, 1) := by decide +kernel
theorem dX6_noTransfer_39 : decode cX6_noTransfer 39 = .ok (.getfield 7, 3) := by decide +kernel
theorem dX6_noTransfer_42 : decode cX6_noTransfer 42 = .ok (.iload_n 1, 1) := by decide +kernel
theorem dX6_noTransfer_43 : decode cX6_noTransfer 43 = .ok (.iload 4, 2) := by decide +kernel
theorem dX6_noTransfer_45 : decode cX6_noTransfer 45 = .ok (.invokestatic 45, 3) := by decide +kernel
theorem dX6_noTransfer_48 : decode cX6_noTransfer 48 = .ok (.iaload, 1) := by decide +kernel
theorem dX6_noTransfer_49 : decode cX6_noTransfer 49 = .ok (.iload 5, 2) := by decide +kernel
theorem dX6_noTransfer_51 : decode cX6_noTransfer 51 = .ok (.if_icmp .ge 8, 3) := by decide +kernel
theorem dX6_noTransfer_54 : decode cX6_noTransfer 54 = .ok (.bipush (-4), 2) := by decide +kernel
theorem dX6_noTransfer_56 : decode cX6_noTransfer 56 = .ok (.goto 4, 3) := by decide +kernel
theorem dX6_noTransfer_59 : decode cX6_noTransfer 59 = .ok (.iconst 0, 1) := by decide +kernel
theorem dX6_noTransfer_60 : decode cX6_noTransfer 60 = .ok (.ireturn, 1) := by decide +kernel
theorem dX6_doTransfer_0 : decode cX6_doTransfer 0 = .ok (.aload_n 0, 1) := by decide +kernel
theorem dX6_doTransfer_1 : decode cX6_doTransfer 1 = .ok (.getfield 7, 3) := by decide +kernel
theorem dX6_doTransfer_4 : decode cX6_doTransfer 4 = .ok (.iload_n 1, 1) := by decide +kernel
theorem dX6_doTransfer_5 : decode cX6_doTransfer 5 = .ok (.iload_n 3, 1) := by decide +kernel
theorem dX6_doTransfer_6 : decode cX6_doTransfer 6 = .ok (.invokestatic 45, 3) := by decide +kernel
theorem dX6_doTransfer_9 : decode cX6_doTransfer 9 = .ok (.dup2, 1) := by decide +kernel
theorem dX6_doTransfer_10 : decode cX6_doTransfer 10 = .ok (.iaload, 1) := by decide +kernel
theorem dX6_doTransfer_11 : decode cX6_doTransfer 11 = .ok (.iload 4, 2) := by decide +kernel
theorem dX6_doTransfer_13 : decode cX6_doTransfer 13 = .ok (.isub, 1) := by decide +kernel
theorem dX6_doTransfer_14 : decode cX6_doTransfer 14 = .ok (.iastore, 1) := by decide +kernel
theorem dX6_doTransfer_15 : decode cX6_doTransfer 15 = .ok (.aload_n 0, 1) := by decide +kernel
theorem dX6_doTransfer_16 : decode cX6_doTransfer 16 = .ok (.getfield 7, 3) := by decide +kernel
theorem dX6_doTransfer_19 : decode cX6_doTransfer 19 = .ok (.iload_n 2, 1) := by decide +kernel
theorem dX6_doTransfer_20 : decode cX6_doTransfer 20 = .ok (.iload_n 3, 1) := by decide +kernel
theorem dX6_doTransfer_21 : decode cX6_doTransfer 21 = .ok (.invokestatic 45, 3) := by decide +kernel
theorem dX6_doTransfer_24 : decode cX6_doTransfer 24 = .ok (.dup2, 1) := by decide +kernel
theorem dX6_doTransfer_25 : decode cX6_doTransfer 25 = .ok (.iaload, 1) := by decide +kernel
theorem dX6_doTransfer_26 : decode cX6_doTransfer 26 = .ok (.iload 4, 2) := by decide +kernel
theorem dX6_doTransfer_28 : decode cX6_doTransfer 28 = .ok (.iadd, 1) := by decide +kernel
theorem dX6_doTransfer_29 : decode cX6_doTransfer 29 = .ok (.iastore, 1) := by decide +kernel
theorem dX6_doTransfer_30 : decode cX6_doTransfer 30 = .ok (.aload_n 0, 1) := by decide +kernel
theorem dX6_doTransfer_31 : decode cX6_doTransfer 31 = .ok (.getfield 7, 3) := by decide +kernel
theorem dX6_doTransfer_34 : decode cX6_doTransfer 34 = .ok (.iload_n 1, 1) := by decide +kernel
theorem dX6_doTransfer_35 : decode cX6_doTransfer 35 = .ok (.iload_n 3, 1) := by decide +kernel
theorem dX6_doTransfer_36 : decode cX6_doTransfer 36 = .ok (.invokestatic 45, 3) := by decide +kernel
theorem dX6_doTransfer_39 : decode cX6_doTransfer 39 = .ok (.iaload, 1) := by decide +kernel
theorem dX6_doTransfer_40 : decode cX6_doTransfer 40 = .ok (.ireturn, 1) := by decide +kernel
theorem dX6_transfer_0 : decode cX6_transfer 0 = .ok (.iload_n 3, 1) := by decide +kernel
theorem dX6_transfer_1 : decode cX6_transfer 1 = .ok (.invokestatic 63, 3) := by decide +kernel
theorem dX6_transfer_4 : decode cX6_transfer 4 = .ok (.ifCond .eq 9, 3) := by decide +kernel
theorem dX6_transfer_7 : decode cX6_transfer 7 = .ok (.iconst 0, 1) := by decide +kernel
theorem dX6_transfer_8 : decode cX6_transfer 8 = .ok (.iload_n 3, 1) := by decide +kernel
theorem dX6_transfer_9 : decode cX6_transfer 9 = .ok (.iadd, 1) := by decide +kernel
theorem dX6_transfer_10 : decode cX6_transfer 10 = .ok (.goto 4, 3) := by decide +kernel
theorem dX6_transfer_13 : decode cX6_transfer 13 = .ok (.iconst 0, 1) := by decide +kernel
theorem dX6_transfer_14 : decode cX6_transfer 14 = .ok (.istore 5, 2) := by decide +kernel
theorem dX6_transfer_16 : decode cX6_transfer 16 = .ok (.aload_n 0, 1) := by decide +kernel
theorem dX6_transfer_17 : decode cX6_transfer 17 = .ok (.iload_n 1, 1) := by decide +kernel
theorem dX6_transfer_18 : decode cX6_transfer 18 = .ok (.iload_n 2, 1) := by decide +kernel
theorem dX6_transfer_19 : decode cX6_transfer 19 = .ok (.iload_n 3, 1) := by decide +kernel
theorem dX6_transfer_20 : decode cX6_transfer 20 = .ok (.invokestatic 63, 3) := by decide +kernel
theorem dX6_transfer_23 : decode cX6_transfer 23 = .ok (.iload 5, 2) := by decide +kernel
theorem dX6_transfer_25 : decode cX6_transfer 25 = .ok (.iload 4, 2) := by decide +kernel
theorem dX6_transfer_27 : decode cX6_transfer 27 = .ok (.invokevirtual 66, 3) := by decide +kernel
theorem dX6_transfer_30 : decode cX6_transfer 30 = .ok (.istore 6, 2) := by decide +kernel
theorem dX6_transfer_32 : decode cX6_transfer 32 = .ok (.iload 6, 2) := by decide +kernel
theorem dX6_transfer_34 : decode cX6_transfer 34 = .ok (.ifCond .eq 6, 3) := by decide +kernel
theorem dX6_transfer_37 : decode cX6_transfer 37 = .ok (.iload 6, 2) := by decide +kernel
theorem dX6_transfer_39 : decode cX6_transfer 39 = .ok (.ireturn, 1) := by decide +kernel
theorem dX6_transfer_40 : decode cX6_transfer 40 = .ok (.aload_n 0, 1) := by decide +kernel
theorem dX6_transfer_41 : decode cX6_transfer 41 = .ok (.iconst 0, 1) := by decide +kernel
theorem dX6_transfer_42 : decode cX6_transfer 42 = .ok (.invokevirtual 41, 3) := by decide +kernel
theorem dX6_transfer_45 : decode cX6_transfer 45 = .ok (.aload_n 0, 1) := by decide +kernel
theorem dX6_transfer_46 : decode cX6_transfer 46 = .ok (.iload_n 1, 1) := by decide +kernel
theorem dX6_transfer_47 : decode cX6_transfer 47 = .ok (.iload_n 2, 1) := by decide +kernel
theorem dX6_transfer_48 : decode cX6_transfer 48 = .ok (.iload 5, 2) := by decide +kernel
theorem dX6_transfer_50 : decode cX6_transfer 50 = .ok (.iload 4, 2) := by decide +kernel
theorem dX6_transfer_52 : decode cX6_transfer 52 = .ok (.invokevirtual 70, 3) := by decide +kernel
theorem dX6_transfer_55 : decode cX6_transfer 55 = .ok (.ireturn, 1) := by decide +kernel
theorem dX6_transferOffsets_0 : decode cX6_transferOffsets 0 = .ok (.iload_n 3, 1) := by decide +kernel
theorem dX6_transferOffsets_1 : decode cX6_transferOffsets 1 = .ok (.invokestatic 60, 3) := by decide +kernel
theorem dX6_transferOffsets_4 : decode cX6_transferOffsets 4 = .ok (.ifCond .eq 10, 3) := by decide +kernel
theorem dX6_transferOffsets_7 : decode cX6_transferOffsets 7 = .ok (.bipush 20, 2) := by decide +kernel
theorem dX6_transferOffsets_9 : decode cX6_transferOffsets 9 = .ok (.iload_n 3, 1) := by decide +kernel
theorem dX6_transferOffsets_10 : decode cX6_transferOffsets 10 = .ok (.iadd, 1) := by decide +kernel
theorem dX6_transferOffsets_11 : decode cX6_transferOffsets 11 = .ok (.goto 4, 3) := by decide +kernel
theorem dX6_transferOffsets_14 : decode cX6_transferOffsets 14 = .ok (.iconst 0, 1) := by decide +kernel
theorem dX6_transferOffsets_15 : decode cX6_transferOffsets 15 = .ok (.istore 5, 2) := by decide +kernel
theorem dX6_transferOffsets_17 : decode cX6_transferOffsets 17 = .ok (.aload_n 0, 1) := by decide +kernel
theorem dX6_transferOffsets_18 : decode cX6_transferOffsets 18 = .ok (.iload_n 1, 1) := by decide +kernel
theorem dX6_transferOffsets_19 : decode cX6_transferOffsets 19 = .ok (.iload_n 2, 1) := by decide +kernel
theorem dX6_transferOffsets_20 : decode cX6_transferOffsets 20 = .ok (.iload_n 3, 1) := by decide +kernel
theorem dX6_transferOffsets_21 : decode cX6_transferOffsets 21 = .ok (.invokestatic 60, 3) := by decide +kernel
theorem dX6_transferOffsets_24 : decode cX6_transferOffsets 24 = .ok (.iload 5, 2) := by decide +kernel
theorem dX6_transferOffsets_26 : decode cX6_transferOffsets 26 = .ok (.iload 4, 2) := by decide +kernel
theorem dX6_transferOffsets_28 : decode cX6_transferOffsets 28 = .ok (.invokevirtual 66, 3) := by decide +kernel
theorem dX6_transferOffsets_31 : decode cX6_transferOffsets 31 = .ok (.istore 6, 2) := by decide +kernel
theorem dX6_transferOffsets_33 : decode cX6_transferOffsets 33 = .ok (.iload 6, 2) := by decide +kernel
theorem dX6_transferOffsets_35 : decode cX6_transferOffsets 35 = .ok (.ifCond .eq 6, 3) := by decide +kernel
theorem dX6_transferOffsets_38 : decode cX6_transferOffsets 38 = .ok (.iload 6, 2) := by decide +kernel
theorem dX6_transferOffsets_40 : decode cX6_transferOffsets 40 = .ok (.ireturn, 1) := by decide +kernel
theorem dX6_transferOffsets_41 : decode cX6_transferOffsets 41 = .ok (.aload_n 0, 1) := by decide +kernel
theorem dX6_transferOffsets_42 : decode cX6_transferOffsets 42 = .ok (.iconst 0, 1) := by decide +kernel
theorem dX6_transferOffsets_43 : decode cX6_transferOffsets 43 = .ok (.invokevirtual 41, 3) := by decide +kernel
theorem dX6_transferOffsets_46 : decode cX6_transferOffsets 46 = .ok (.aload_n 0, 1) := by decide +kernel
theorem dX6_transferOffsets_47 : decode cX6_transferOffsets 47 = .ok (.iload_n 1, 1) := by decide +kernel
theorem dX6_transferOffsets_48 : decode cX6_transferOffsets 48 = .ok (.iload_n 2, 1) := by decide +kernel
theorem dX6_transferOffsets_49 : decode cX6_transferOffsets 49 = .ok (.iload 5, 2) := by decide +kernel
theorem dX6_transferOffsets_51 : decode cX6_transferOffsets 51 = .ok (.iload 4, 2) := by decide +kernel
theorem dX6_transferOffsets_53 : decode cX6_transferOffsets 53 = .ok (.invokevirtual 70, 3) := by decide +kernel
theorem dX6_transferOffsets_56 : decode cX6_transferOffsets 56 = .ok (.ireturn, 1) := by decide +kernel
theorem dX6_cancel_0 : decode cX6_cancel 0 = .ok (.aload_n 0, 1) := by decide +kernel
theorem dX6_cancel_1 : decode cX6_cancel 1 = .ok (.iload_n 1, 1) := by decide +kernel
theorem dX6_cancel_2 : decode cX6_cancel 2 = .ok (.invokevirtual 49, 3) := by decide +kernel
theorem dX6_cancel_5 : decode cX6_cancel 5 = .ok (.ifCond .eq 10, 3) := by decide +kernel
theorem dX6_cancel_8 : decode cX6_cancel 8 = .ok (.iload_n 2, 1) := by decide +kernel
theorem dX6_cancel_9 : decode cX6_cancel 9 = .ok (.invokestatic 63, 3) := by decide +kernel
theorem dX6_cancel_12 : decode cX6_cancel 12 = .ok (.ifCond .ne 5, 3) := by decide +kernel
theorem dX6_cancel_15 : decode cX6_cancel 15 = .ok (.iconst (-1), 1) := by decide +kernel
theorem dX6_cancel_16 : decode cX6_cancel 16 = .ok (.ireturn, 1) := by decide +kernel
theorem dX6_cancel_17 : decode cX6_cancel 17 = .ok (.iload_n 3, 1) := by decide +kernel
theorem dX6_cancel_18 : decode cX6_cancel 18 = .ok (.invokestatic 53, 3) := by decide +kernel
theorem dX6_cancel_21 : decode cX6_cancel 21 = .ok (.ifCond .ne 6, 3) := by decide +kernel
theorem dX6_cancel_24 : decode cX6_cancel 24 = .ok (.bipush (-2), 2) := by decide +kernel
theorem dX6_cancel_26 : decode cX6_cancel 26 = .ok (.ireturn, 1) := by decide +kernel
theorem dX6_cancel_27 : decode cX6_cancel 27 = .ok (.aload_n 0, 1) := by decide +kernel
theorem dX6_cancel_28 : decode cX6_cancel 28 = .ok (.getfield 7, 3) := by decide +kernel
theorem dX6_cancel_31 : decode cX6_cancel 31 = .ok (.iload_n 1, 1) := by decide +kernel
theorem dX6_cancel_32 : decode cX6_cancel 32 = .ok (.iconst 0, 1) := by decide +kernel
theorem dX6_cancel_33 : decode cX6_cancel 33 = .ok (.iload_n 2, 1) := by decide +kernel
theorem dX6_cancel_34 : decode cX6_cancel 34 = .ok (.iadd, 1) := by decide +kernel
theorem dX6_cancel_35 : decode cX6_cancel 35 = .ok (.invokestatic 45, 3) := by decide +kernel
theorem dX6_cancel_38 : decode cX6_cancel 38 = .ok (.iaload, 1) := by decide +kernel
theorem dX6_cancel_39 : decode cX6_cancel 39 = .ok (.iload_n 3, 1) := by decide +kernel
theorem dX6_cancel_40 : decode cX6_cancel 40 = .ok (.if_icmp .ge 6, 3) := by decide +kernel
theorem dX6_cancel_43 : decode cX6_cancel 43 = .ok (.bipush (-4), 2) := by decide +kernel
theorem dX6_cancel_45 : decode cX6_cancel 45 = .ok (.ireturn, 1) := by decide +kernel
theorem dX6_cancel_46 : decode cX6_cancel 46 = .ok (.aload_n 0, 1) := by decide +kernel
theorem dX6_cancel_47 : decode cX6_cancel 47 = .ok (.iconst 0, 1) := by decide +kernel
theorem dX6_cancel_48 : decode cX6_cancel 48 = .ok (.invokevirtual 41, 3) := by decide +kernel
theorem dX6_cancel_51 : decode cX6_cancel 51 = .ok (.aload_n 0, 1) := by decide +kernel
theorem dX6_cancel_52 : decode cX6_cancel 52 = .ok (.getfield 7, 3) := by decide +kernel
theorem dX6_cancel_55 : decode cX6_cancel 55 = .ok (.iload_n 1, 1) := by decide +kernel
theorem dX6_cancel_56 : decode cX6_cancel 56 = .ok (.iconst 0, 1) := by decide +kernel
theorem dX6_cancel_57 : decode cX6_cancel 57 = .ok (.iload_n 2, 1) := by decide +kernel
theorem dX6_cancel_58 : decode cX6_cancel 58 = .ok (.iadd, 1) := by decide +kernel
theorem dX6_cancel_59 : decode cX6_cancel 59 = .ok (.invokestatic 45, 3) := by decide +kernel
theorem dX6_cancel_62 : decode cX6_cancel 62 = .ok (.dup2, 1) := by decide +kernel
theorem dX6_cancel_63 : decode cX6_cancel 63 = .ok (.iaload, 1) := by decide +kernel
theorem dX6_cancel_64 : decode cX6_cancel 64 = .ok (.iload_n 3, 1) := by decide +kernel
theorem dX6_cancel_65 : decode cX6_cancel 65 = .ok (.isub, 1) := by decide +kernel
theorem dX6_cancel_66 : decode cX6_cancel 66 = .ok (.iastore, 1) := by decide +kernel
theorem dX6_cancel_67 : decode cX6_cancel 67 = .ok (.aload_n 0, 1) := by decide +kernel
theorem dX6_cancel_68 : decode cX6_cancel 68 = .ok (.getfield 7, 3) := by decide +kernel
theorem dX6_cancel_71 : decode cX6_cancel 71 = .ok (.sipush 303, 3) := by decide +kernel
theorem dX6_cancel_74 : decode cX6_cancel 74 = .ok (.iload_n 2, 1) := by decide +kernel
theorem dX6_cancel_75 : decode cX6_cancel 75 = .ok (.iadd, 1) := by decide +kernel
theorem dX6_cancel_76 : decode cX6_cancel 76 = .ok (.dup2, 1) := by decide +kernel
theorem dX6_cancel_77 : decode cX6_cancel 77 = .ok (.iaload, 1) := by decide +kernel
theorem dX6_cancel_78 : decode cX6_cancel 78 = .ok (.iload_n 3, 1) := by decide +kernel
theorem dX6_cancel_79 : decode cX6_cancel 79 = .ok (.iadd, 1) := by decide +kernel
theorem dX6_cancel_80 : decode cX6_cancel 80 = .ok (.iastore, 1) := by decide +kernel
theorem dX6_cancel_81 : decode cX6_cancel 81 = .ok (.aload_n 0, 1) := by decide +kernel
theorem dX6_cancel_82 : decode cX6_cancel 82 = .ok (.getfield 7, 3) := by decide +kernel
theorem dX6_cancel_85 : decode cX6_cancel 85 = .ok (.iload_n 1, 1) := by decide +kernel
theorem dX6_cancel_86 : decode cX6_cancel 86 = .ok (.iconst 0, 1) := by decide +kernel
theorem dX6_cancel_87 : decode cX6_cancel 87 = .ok (.iload_n 2, 1) := by decide +kernel
theorem dX6_cancel_88 : decode cX6_cancel 88 = .ok (.iadd, 1) := by decide +kernel
theorem dX6_cancel_89 : decode cX6_cancel 89 = .ok (.invokestatic 45, 3) := by decide +kernel
theorem dX6_cancel_92 : decode cX6_cancel 92 = .ok (.iaload, 1) := by decide +kernel
theorem dX6_cancel_93 : decode cX6_cancel 93 = .ok (.ireturn, 1) := by decide +kernel
theorem dX6_report_0 : decode cX6_report 0 = .ok (.aload_n 0, 1) := by decide +kernel
theorem dX6_report_1 : decode cX6_report 1 = .ok (.iload_n 1, 1) := by decide +kernel
theorem dX6_report_2 : decode cX6_report 2 = .ok (.invokevirtual 49, 3) := by decide +kernel
theorem dX6_report_5 : decode cX6_report 5 = .ok (.ifCond .ne 5, 3) := by decide +kernel
theorem dX6_report_8 : decode cX6_report 8 = .ok (.iconst (-1), 1) := by decide +kernel
theorem dX6_report_9 : decode cX6_report 9 = .ok (.ireturn, 1) := by decide +kernel
theorem dX6_report_10 : decode cX6_report 10 = .ok (.iload_n 2, 1) := by decide +kernel
theorem dX6_report_11 : decode cX6_report 11 = .ok (.invokestatic 53, 3) := by decide +kernel
theorem dX6_report_14 : decode cX6_report 14 = .ok (.ifCond .ne 6, 3) := by decide +kernel
theorem dX6_report_17 : decode cX6_report 17 = .ok (.bipush (-2), 2) := by decide +kernel
theorem dX6_report_19 : decode cX6_report 19 = .ok (.ireturn, 1) := by decide +kernel
theorem dX6_report_20 : decode cX6_report 20 = .ok (.aload_n 0, 1) := by decide +kernel
theorem dX6_report_21 : decode cX6_report 21 = .ok (.getfield 7, 3) := by decide +kernel
theorem dX6_report_24 : decode cX6_report 24 = .ok (.iload_n 1, 1) := by decide +kernel
theorem dX6_report_25 : decode cX6_report 25 = .ok (.bipush 26, 2) := by decide +kernel
theorem dX6_report_27 : decode cX6_report 27 = .ok (.invokestatic 45, 3) := by decide +kernel
theorem dX6_report_30 : decode cX6_report 30 = .ok (.iaload, 1) := by decide +kernel
theorem dX6_report_31 : decode cX6_report 31 = .ok (.aload_n 0, 1) := by decide +kernel
theorem dX6_report_32 : decode cX6_report 32 = .ok (.getfield 7, 3) := by decide +kernel
theorem dX6_report_35 : decode cX6_report 35 = .ok (.iload_n 1, 1) := by decide +kernel
theorem dX6_report_36 : decode cX6_report 36 = .ok (.bipush 27, 2) := by decide +kernel
theorem dX6_report_38 : decode cX6_report 38 = .ok (.invokestatic 45, 3) := by decide +kernel
theorem dX6_report_41 : decode cX6_report 41 = .ok (.iaload, 1) := by decide +kernel
theorem dX6_report_42 : decode cX6_report 42 = .ok (.iadd, 1) := by decide +kernel
theorem dX6_report_43 : decode cX6_report 43 = .ok (.iload_n 2, 1) := by decide +kernel
theorem dX6_report_44 : decode cX6_report 44 = .ok (.iadd, 1) := by decide +kernel
theorem dX6_report_45 : decode cX6_report 45 = .ok (.sipush 9999, 3) := by decide +kernel
theorem dX6_report_48 : decode cX6_report 48 = .ok (.if_icmp .le 6, 3) := by decide +kernel
theorem dX6_report_51 : decode cX6_report 51 = .ok (.bipush (-3), 2) := by decide +kernel
theorem dX6_report_53 : decode cX6_report 53 = .ok (.ireturn, 1) := by decide +kernel
theorem dX6_report_54 : decode cX6_report 54 = .ok (.aload_n 0, 1) := by decide +kernel
theorem dX6_report_55 : decode cX6_report 55 = .ok (.iconst 0, 1) := by decide +kernel
theorem dX6_report_56 : decode cX6_report 56 = .ok (.invokevirtual 41, 3) := by decide +kernel
theorem dX6_report_59 : decode cX6_report 59 = .ok (.aload_n 0, 1) := by decide +kernel
theorem dX6_report_60 : decode cX6_report 60 = .ok (.getfield 7, 3) := by decide +kernel
theorem dX6_report_63 : decode cX6_report 63 = .ok (.iload_n 1, 1) := by decide +kernel
theorem dX6_report_64 : decode cX6_report 64 = .ok (.bipush 26, 2) := by decide +kernel
theorem dX6_report_66 : decode cX6_report 66 = .ok (.invokestatic 45, 3) := by decide +kernel
theorem dX6_report_69 : decode cX6_report 69 = .ok (.dup2, 1) := by decide +kernel
theorem dX6_report_70 : decode cX6_report 70 = .ok (.iaload, 1) := by decide +kernel
theorem dX6_report_71 : decode cX6_report 71 = .ok (.iload_n 2, 1) := by decide +kernel
theorem dX6_report_72 : decode cX6_report 72 = .ok (.iadd, 1) := by decide +kernel
theorem dX6_report_73 : decode cX6_report 73 = .ok (.iastore, 1) := by decide +kernel
theorem dX6_report_74 : decode cX6_report 74 = .ok (.aload_n 0, 1) := by decide +kernel
theorem dX6_report_75 : decode cX6_report 75 = .ok (.getfield 7, 3) := by decide +kernel
theorem dX6_report_78 : decode cX6_report 78 = .ok (.iload_n 1, 1) := by decide +kernel
theorem dX6_report_79 : decode cX6_report 79 = .ok (.bipush 26, 2) := by decide +kernel
theorem dX6_report_81 : decode cX6_report 81 = .ok (.invokestatic 45, 3) := by decide +kernel
theorem dX6_report_84 : decode cX6_report 84 = .ok (.iaload, 1) := by decide +kernel
theorem dX6_report_85 : decode cX6_report 85 = .ok (.ireturn, 1) := by decide +kernel
theorem dX6_verify_0 : decode cX6_verify 0 = .ok (.aload_n 0, 1) := by decide +kernel
theorem dX6_verify_1 : decode cX6_verify 1 = .ok (.iload_n 1, 1) := by decide +kernel
theorem dX6_verify_2 : decode cX6_verify 2 = .ok (.invokevirtual 49, 3) := by decide +kernel
theorem dX6_verify_5 : decode cX6_verify 5 = .ok (.ifCond .ne 5, 3) := by decide +kernel
theorem dX6_verify_8 : decode cX6_verify 8 = .ok (.iconst (-1), 1) := by decide +kernel
theorem dX6_verify_9 : decode cX6_verify 9 = .ok (.ireturn, 1) := by decide +kernel
theorem dX6_verify_10 : decode cX6_verify 10 = .ok (.aload_n 0, 1) := by decide +kernel
theorem dX6_verify_11 : decode cX6_verify 11 = .ok (.getfield 7, 3) := by decide +kernel
theorem dX6_verify_14 : decode cX6_verify 14 = .ok (.iload_n 1, 1) := by decide +kernel
theorem dX6_verify_15 : decode cX6_verify 15 = .ok (.bipush 26, 2) := by decide +kernel
theorem dX6_verify_17 : decode cX6_verify 17 = .ok (.invokestatic 45, 3) := by decide +kernel
theorem dX6_verify_20 : decode cX6_verify 20 = .ok (.iaload, 1) := by decide +kernel
theorem dX6_verify_21 : decode cX6_verify 21 = .ok (.ifCond .ne 6, 3) := by decide +kernel
theorem dX6_verify_24 : decode cX6_verify 24 = .ok (.bipush (-5), 2) := by decide +kernel
theorem dX6_verify_26 : decode cX6_verify 26 = .ok (.ireturn, 1) := by decide +kernel
theorem dX6_verify_27 : decode cX6_verify 27 = .ok (.aload_n 0, 1) := by decide +kernel
theorem dX6_verify_28 : decode cX6_verify 28 = .ok (.iconst 0, 1) := by decide +kernel
theorem dX6_verify_29 : decode cX6_verify 29 = .ok (.invokevirtual 41, 3) := by decide +kernel
theorem dX6_verify_32 : decode cX6_verify 32 = .ok (.aload_n 0, 1) := by decide +kernel
theorem dX6_verify_33 : decode cX6_verify 33 = .ok (.getfield 7, 3) := by decide +kernel
theorem dX6_verify_36 : decode cX6_verify 36 = .ok (.iload_n 1, 1) := by decide +kernel
theorem dX6_verify_37 : decode cX6_verify 37 = .ok (.bipush 27, 2) := by decide +kernel
theorem dX6_verify_39 : decode cX6_verify 39 = .ok (.invokestatic 45, 3) := by decide +kernel
theorem dX6_verify_42 : decode cX6_verify 42 = .ok (.dup2, 1) := by decide +kernel
theorem dX6_verify_43 : decode cX6_verify 43 = .ok (.iaload, 1) := by decide +kernel
theorem dX6_verify_44 : decode cX6_verify 44 = .ok (.aload_n 0, 1) := by decide +kernel
theorem dX6_verify_45 : decode cX6_verify 45 = .ok (.getfield 7, 3) := by decide +kernel
theorem dX6_verify_48 : decode cX6_verify 48 = .ok (.iload_n 1, 1) := by decide +kernel
theorem dX6_verify_49 : decode cX6_verify 49 = .ok (.bipush 26, 2) := by decide +kernel
theorem dX6_verify_51 : decode cX6_verify 51 = .ok (.invokestatic 45, 3) := by decide +kernel
theorem dX6_verify_54 : decode cX6_verify 54 = .ok (.iaload, 1) := by decide +kernel
theorem dX6_verify_55 : decode cX6_verify 55 = .ok (.iadd, 1) := by decide +kernel
theorem dX6_verify_56 : decode cX6_verify 56 = .ok (.iastore, 1) := by decide +kernel
theorem dX6_verify_57 : decode cX6_verify 57 = .ok (.aload_n 0, 1) := by decide +kernel
theorem dX6_verify_58 : decode cX6_verify 58 = .ok (.getfield 7, 3) := by decide +kernel
theorem dX6_verify_61 : decode cX6_verify 61 = .ok (.iload_n 1, 1) := by decide +kernel
theorem dX6_verify_62 : decode cX6_verify 62 = .ok (.bipush 26, 2) := by decide +kernel
theorem dX6_verify_64 : decode cX6_verify 64 = .ok (.invokestatic 45, 3) := by decide +kernel
theorem dX6_verify_67 : decode cX6_verify 67 = .ok (.iconst 0, 1) := by decide +kernel
theorem dX6_verify_68 : decode cX6_verify 68 = .ok (.iastore, 1) := by decide +kernel
theorem dX6_verify_69 : decode cX6_verify 69 = .ok (.aload_n 0, 1) := by decide +kernel
theorem dX6_verify_70 : decode cX6_verify 70 = .ok (.getfield 7, 3) := by decide +kernel
theorem dX6_verify_73 : decode cX6_verify 73 = .ok (.iload_n 1, 1) := by decide +kernel
theorem dX6_verify_74 : decode cX6_verify 74 = .ok (.bipush 27, 2) := by decide +kernel
theorem dX6_verify_76 : decode cX6_verify 76 = .ok (.invokestatic 45, 3) := by decide +kernel
theorem dX6_verify_79 : decode cX6_verify 79 = .ok (.iaload, 1) := by decide +kernel
theorem dX6_verify_80 : decode cX6_verify 80 = .ok (.ireturn, 1) := by decide +kernel
theorem dX6_mayUse_0 : decode cX6_mayUse 0 = .ok (.aload_n 0, 1) := by decide +kernel
theorem dX6_mayUse_1 : decode cX6_mayUse 1 = .ok (.getfield 7, 3) := by decide +kernel
theorem dX6_mayUse_4 : decode cX6_mayUse 4 = .ok (.iload_n 1, 1) := by decide +kernel
theorem dX6_mayUse_5 : decode cX6_mayUse 5 = .ok (.bipush 28, 2) := by decide +kernel
theorem dX6_mayUse_7 : decode cX6_mayUse 7 = .ok (.invokestatic 45, 3) := by decide +kernel
theorem dX6_mayUse_10 : decode cX6_mayUse 10 = .ok (.iaload, 1) := by decide +kernel
theorem dX6_mayUse_11 : decode cX6_mayUse 11 = .ok (.aload_n 0, 1) := by decide +kernel
theorem dX6_mayUse_12 : decode cX6_mayUse 12 = .ok (.getfield 7, 3) := by decide +kernel
theorem dX6_mayUse_15 : decode cX6_mayUse 15 = .ok (.iconst 2, 1) := by decide +kernel
theorem dX6_mayUse_16 : decode cX6_mayUse 16 = .ok (.iload_n 2, 1) := by decide +kernel
theorem dX6_mayUse_17 : decode cX6_mayUse 17 = .ok (.iadd, 1) := by decide +kernel
theorem dX6_mayUse_18 : decode cX6_mayUse 18 = .ok (.iaload, 1) := by decide +kernel
theorem dX6_mayUse_19 : decode cX6_mayUse 19 = .ok (.imul, 1) := by decide +kernel
theorem dX6_mayUse_20 : decode cX6_mayUse 20 = .ok (.bipush 100, 2) := by decide +kernel
theorem dX6_mayUse_22 : decode cX6_mayUse 22 = .ok (.idiv, 1) := by decide +kernel
theorem dX6_mayUse_23 : decode cX6_mayUse 23 = .ok (.aload_n 0, 1) := by decide +kernel
theorem dX6_mayUse_24 : decode cX6_mayUse 24 = .ok (.getfield 7, 3) := by decide +kernel
theorem dX6_mayUse_27 : decode cX6_mayUse 27 = .ok (.iload_n 1, 1) := by decide +kernel
theorem dX6_mayUse_28 : decode cX6_mayUse 28 = .ok (.bipush 23, 2) := by decide +kernel
theorem dX6_mayUse_30 : decode cX6_mayUse 30 = .ok (.iload_n 2, 1) := by decide +kernel
theorem dX6_mayUse_31 : decode cX6_mayUse 31 = .ok (.iadd, 1) := by decide +kernel
theorem dX6_mayUse_32 : decode cX6_mayUse 32 = .ok (.invokestatic 45, 3) := by decide +kernel
theorem dX6_mayUse_35 : decode cX6_mayUse 35 = .ok (.iaload, 1) := by decide +kernel
theorem dX6_mayUse_36 : decode cX6_mayUse 36 = .ok (.isub, 1) := by decide +kernel
theorem dX6_mayUse_37 : decode cX6_mayUse 37 = .ok (.istore_n 3, 1) := by decide +kernel
theorem dX6_mayUse_38 : decode cX6_mayUse 38 = .ok (.iload_n 3, 1) := by decide +kernel
theorem dX6_mayUse_39 : decode cX6_mayUse 39 = .ok (.ifCond .ge 7, 3) := by decide +kernel
theorem dX6_mayUse_42 : decode cX6_mayUse 42 = .ok (.iconst 0, 1) := by decide +kernel
theorem dX6_mayUse_43 : decode cX6_mayUse 43 = .ok (.goto 4, 3) := by decide +kernel
theorem dX6_mayUse_46 : decode cX6_mayUse 46 = .ok (.iload_n 3, 1) := by decide +kernel
theorem dX6_mayUse_47 : decode cX6_mayUse 47 = .ok (.ireturn, 1) := by decide +kernel
theorem dX6_lesser_0 : decode cX6_lesser 0 = .ok (.iload_n 0, 1) := by decide +kernel
theorem dX6_lesser_1 : decode cX6_lesser 1 = .ok (.iload_n 1, 1) := by decide +kernel
theorem dX6_lesser_2 : decode cX6_lesser 2 = .ok (.if_icmp .ge 7, 3) := by decide +kernel
theorem dX6_lesser_5 : decode cX6_lesser 5 = .ok (.iload_n 0, 1) := by decide +kernel
theorem dX6_lesser_6 : decode cX6_lesser 6 = .ok (.goto 4, 3) := by decide +kernel
theorem dX6_lesser_9 : decode cX6_lesser 9 = .ok (.iload_n 1, 1) := by decide +kernel
theorem dX6_lesser_10 : decode cX6_lesser 10 = .ok (.ireturn, 1) := by decide +kernel
theorem dX6_takeVintage_0 : decode cX6_takeVintage 0 = .ok (.aload_n 0, 1) := by decide +kernel
theorem dX6_takeVintage_1 : decode cX6_takeVintage 1 = .ok (.getfield 16, 3) := by decide +kernel
theorem dX6_takeVintage_4 : decode cX6_takeVintage 4 = .ok (.iload_n 2, 1) := by decide +kernel
theorem dX6_takeVintage_5 : decode cX6_takeVintage 5 = .ok (.aload_n 0, 1) := by decide +kernel
theorem dX6_takeVintage_6 : decode cX6_takeVintage 6 = .ok (.getfield 74, 3) := by decide +kernel
theorem dX6_takeVintage_9 : decode cX6_takeVintage 9 = .ok (.aload_n 0, 1) := by decide +kernel
theorem dX6_takeVintage_10 : decode cX6_takeVintage 10 = .ok (.getfield 7, 3) := by decide +kernel
theorem dX6_takeVintage_13 : decode cX6_takeVintage 13 = .ok (.iload_n 1, 1) := by decide +kernel
theorem dX6_takeVintage_14 : decode cX6_takeVintage 14 = .ok (.iconst 0, 1) := by decide +kernel
theorem dX6_takeVintage_15 : decode cX6_takeVintage 15 = .ok (.iload_n 2, 1) := by decide +kernel
theorem dX6_takeVintage_16 : decode cX6_takeVintage 16 = .ok (.iadd, 1) := by decide +kernel
theorem dX6_takeVintage_17 : decode cX6_takeVintage 17 = .ok (.invokestatic 45, 3) := by decide +kernel
theorem dX6_takeVintage_20 : decode cX6_takeVintage 20 = .ok (.iaload, 1) := by decide +kernel
theorem dX6_takeVintage_21 : decode cX6_takeVintage 21 = .ok (.invokestatic 77, 3) := by decide +kernel
theorem dX6_takeVintage_24 : decode cX6_takeVintage 24 = .ok (.iastore, 1) := by decide +kernel
theorem dX6_takeVintage_25 : decode cX6_takeVintage 25 = .ok (.aload_n 0, 1) := by decide +kernel
theorem dX6_takeVintage_26 : decode cX6_takeVintage 26 = .ok (.aload_n 0, 1) := by decide +kernel
theorem dX6_takeVintage_27 : decode cX6_takeVintage 27 = .ok (.getfield 80, 3) := by decide +kernel
theorem dX6_takeVintage_30 : decode cX6_takeVintage 30 = .ok (.bipush (-5), 2) := by decide +kernel
theorem dX6_takeVintage_32 : decode cX6_takeVintage 32 = .ok (.if_icmp .ne 16, 3) := by decide +kernel
theorem dX6_takeVintage_35 : decode cX6_takeVintage 35 = .ok (.aload_n 0, 1) := by decide +kernel
theorem dX6_takeVintage_36 : decode cX6_takeVintage 36 = .ok (.getfield 16, 3) := by decide +kernel
theorem dX6_takeVintage_39 : decode cX6_takeVintage 39 = .ok (.iload_n 2, 1) := by decide +kernel
theorem dX6_takeVintage_40 : decode cX6_takeVintage 40 = .ok (.iaload, 1) := by decide +kernel
theorem dX6_takeVintage_41 : decode cX6_takeVintage 41 = .ok (.ifCond .le 7, 3) := by decide +kernel
theorem dX6_takeVintage_44 : decode cX6_takeVintage 44 = .ok (.iload_n 2, 1) := by decide +kernel
theorem dX6_takeVintage_45 : decode cX6_takeVintage 45 = .ok (.goto 7, 3) := by decide +kernel
theorem dX6_takeVintage_48 : decode cX6_takeVintage 48 = .ok (.aload_n 0, 1) := by decide +kernel
theorem dX6_takeVintage_49 : decode cX6_takeVintage 49 = .ok (.getfield 80, 3) := by decide +kernel
theorem dX6_takeVintage_52 : decode cX6_takeVintage 52 = .ok (.putfield 80, 3) := by decide +kernel
theorem dX6_takeVintage_55 : decode cX6_takeVintage 55 = .ok (.aload_n 0, 1) := by decide +kernel
theorem dX6_takeVintage_56 : decode cX6_takeVintage 56 = .ok (.dup, 1) := by decide +kernel
theorem dX6_takeVintage_57 : decode cX6_takeVintage 57 = .ok (.getfield 74, 3) := by decide +kernel
theorem dX6_takeVintage_60 : decode cX6_takeVintage 60 = .ok (.aload_n 0, 1) := by decide +kernel
theorem dX6_takeVintage_61 : decode cX6_takeVintage 61 = .ok (.getfield 16, 3) := by decide +kernel
theorem dX6_takeVintage_64 : decode cX6_takeVintage 64 = .ok (.iload_n 2, 1) := by decide +kernel
theorem dX6_takeVintage_65 : decode cX6_takeVintage 65 = .ok (.iaload, 1) := by decide +kernel
theorem dX6_takeVintage_66 : decode cX6_takeVintage 66 = .ok (.isub, 1) := by decide +kernel
theorem dX6_takeVintage_67 : decode cX6_takeVintage 67 = .ok (.putfield 74, 3) := by decide +kernel
theorem dX6_takeVintage_70 : decode cX6_takeVintage 70 = .ok (.return_, 1) := by decide +kernel
theorem dX6_lay_0 : decode cX6_lay 0 = .ok (.aload_n 0, 1) := by decide +kernel
theorem dX6_lay_1 : decode cX6_lay 1 = .ok (.iload_n 2, 1) := by decide +kernel
theorem dX6_lay_2 : decode cX6_lay 2 = .ok (.putfield 74, 3) := by decide +kernel
theorem dX6_lay_5 : decode cX6_lay 5 = .ok (.aload_n 0, 1) := by decide +kernel
theorem dX6_lay_6 : decode cX6_lay 6 = .ok (.bipush (-5), 2) := by decide +kernel
theorem dX6_lay_8 : decode cX6_lay 8 = .ok (.putfield 80, 3) := by decide +kernel
theorem dX6_lay_11 : decode cX6_lay 11 = .ok (.iconst 2, 1) := by decide +kernel
theorem dX6_lay_12 : decode cX6_lay 12 = .ok (.istore 4, 2) := by decide +kernel
theorem dX6_lay_14 : decode cX6_lay 14 = .ok (.iload 4, 2) := by decide +kernel
theorem dX6_lay_16 : decode cX6_lay 16 = .ok (.ifCond .lt 72, 3) := by decide +kernel
theorem dX6_lay_19 : decode cX6_lay 19 = .ok (.aload_n 0, 1) := by decide +kernel
theorem dX6_lay_20 : decode cX6_lay 20 = .ok (.getfield 19, 3) := by decide +kernel
theorem dX6_lay_23 : decode cX6_lay 23 = .ok (.iload 4, 2) := by decide +kernel
theorem dX6_lay_25 : decode cX6_lay 25 = .ok (.iload_n 3, 1) := by decide +kernel
theorem dX6_lay_26 : decode cX6_lay 26 = .ok (.iconst 2, 1) := by decide +kernel
theorem dX6_lay_27 : decode cX6_lay 27 = .ok (.if_icmp .ne 37, 3) := by decide +kernel
theorem dX6_lay_30 : decode cX6_lay 30 = .ok (.aload_n 0, 1) := by decide +kernel
theorem dX6_lay_31 : decode cX6_lay 31 = .ok (.getfield 74, 3) := by decide +kernel
theorem dX6_lay_34 : decode cX6_lay 34 = .ok (.aload_n 0, 1) := by decide +kernel
theorem dX6_lay_35 : decode cX6_lay 35 = .ok (.getfield 7, 3) := by decide +kernel
theorem dX6_lay_38 : decode cX6_lay 38 = .ok (.iload_n 1, 1) := by decide +kernel
theorem dX6_lay_39 : decode cX6_lay 39 = .ok (.bipush 20, 2) := by decide +kernel
theorem dX6_lay_41 : decode cX6_lay 41 = .ok (.iload 4, 2) := by decide +kernel
theorem dX6_lay_43 : decode cX6_lay 43 = .ok (.iadd, 1) := by decide +kernel
theorem dX6_lay_44 : decode cX6_lay 44 = .ok (.invokestatic 45, 3) := by decide +kernel
theorem dX6_lay_47 : decode cX6_lay 47 = .ok (.iaload, 1) := by decide +kernel
theorem dX6_lay_48 : decode cX6_lay 48 = .ok (.aload_n 0, 1) := by decide +kernel
theorem dX6_lay_49 : decode cX6_lay 49 = .ok (.iload_n 1, 1) := by decide +kernel
theorem dX6_lay_50 : decode cX6_lay 50 = .ok (.iload 4, 2) := by decide +kernel
theorem dX6_lay_52 : decode cX6_lay 52 = .ok (.invokevirtual 83, 3) := by decide +kernel
theorem dX6_lay_55 : decode cX6_lay 55 = .ok (.invokestatic 77, 3) := by decide +kernel
theorem dX6_lay_58 : decode cX6_lay 58 = .ok (.invokestatic 77, 3) := by decide +kernel
theorem dX6_lay_61 : decode cX6_lay 61 = .ok (.goto 4, 3) := by decide +kernel
theorem dX6_lay_64 : decode cX6_lay 64 = .ok (.iconst 0, 1) := by decide +kernel
theorem dX6_lay_65 : decode cX6_lay 65 = .ok (.iastore, 1) := by decide +kernel
theorem dX6_lay_66 : decode cX6_lay 66 = .ok (.aload_n 0, 1) := by decide +kernel
theorem dX6_lay_67 : decode cX6_lay 67 = .ok (.dup, 1) := by decide +kernel
theorem dX6_lay_68 : decode cX6_lay 68 = .ok (.getfield 74, 3) := by decide +kernel
theorem dX6_lay_71 : decode cX6_lay 71 = .ok (.aload_n 0, 1) := by decide +kernel
theorem dX6_lay_72 : decode cX6_lay 72 = .ok (.getfield 19, 3) := by decide +kernel
theorem dX6_lay_75 : decode cX6_lay 75 = .ok (.iload 4, 2) := by decide +kernel
theorem dX6_lay_77 : decode cX6_lay 77 = .ok (.iaload, 1) := by decide +kernel
theorem dX6_lay_78 : decode cX6_lay 78 = .ok (.isub, 1) := by decide +kernel
theorem dX6_lay_79 : decode cX6_lay 79 = .ok (.putfield 74, 3) := by decide +kernel
theorem dX6_lay_82 : decode cX6_lay 82 = .ok (.iinc 4 (-1), 3) := by decide +kernel
theorem dX6_lay_85 : decode cX6_lay 85 = .ok (.goto (-71), 3) := by decide +kernel
theorem dX6_lay_88 : decode cX6_lay 88 = .ok (.iconst 0, 1) := by decide +kernel
theorem dX6_lay_89 : decode cX6_lay 89 = .ok (.istore 4, 2) := by decide +kernel
theorem dX6_lay_91 : decode cX6_lay 91 = .ok (.iload 4, 2) := by decide +kernel
theorem dX6_lay_93 : decode cX6_lay 93 = .ok (.bipush 20, 2) := by decide +kernel
theorem dX6_lay_95 : decode cX6_lay 95 = .ok (.if_icmp .ge 29, 3) := by decide +kernel
theorem dX6_lay_98 : decode cX6_lay 98 = .ok (.aload_n 0, 1) := by decide +kernel
theorem dX6_lay_99 : decode cX6_lay 99 = .ok (.iload_n 1, 1) := by decide +kernel
theorem dX6_lay_100 : decode cX6_lay 100 = .ok (.iload_n 3, 1) := by decide +kernel
theorem dX6_lay_101 : decode cX6_lay 101 = .ok (.iconst 1, 1) := by decide +kernel
theorem dX6_lay_102 : decode cX6_lay 102 = .ok (.if_icmp .ne 11, 3) := by decide +kernel
theorem dX6_lay_105 : decode cX6_lay 105 = .ok (.bipush 19, 2) := by decide +kernel
theorem dX6_lay_107 : decode cX6_lay 107 = .ok (.iload 4, 2) := by decide +kernel
theorem dX6_lay_109 : decode cX6_lay 109 = .ok (.isub, 1) := by decide +kernel
theorem dX6_lay_110 : decode cX6_lay 110 = .ok (.goto 5, 3) := by decide +kernel
theorem dX6_lay_113 : decode cX6_lay 113 = .ok (.iload 4, 2) := by decide +kernel
theorem dX6_lay_115 : decode cX6_lay 115 = .ok (.invokevirtual 86, 3) := by decide +kernel
theorem dX6_lay_118 : decode cX6_lay 118 = .ok (.iinc 4 1, 3) := by decide +kernel
theorem dX6_lay_121 : decode cX6_lay 121 = .ok (.goto (-30), 3) := by decide +kernel
theorem dX6_lay_124 : decode cX6_lay 124 = .ok (.return_, 1) := by decide +kernel
theorem dX6_surrender_0 : decode cX6_surrender 0 = .ok (.aload_n 0, 1) := by decide +kernel
theorem dX6_surrender_1 : decode cX6_surrender 1 = .ok (.iload_n 1, 1) := by decide +kernel
theorem dX6_surrender_2 : decode cX6_surrender 2 = .ok (.invokevirtual 49, 3) := by decide +kernel
theorem dX6_surrender_5 : decode cX6_surrender 5 = .ok (.ifCond .ne 5, 3) := by decide +kernel
theorem dX6_surrender_8 : decode cX6_surrender 8 = .ok (.iconst (-1), 1) := by decide +kernel
theorem dX6_surrender_9 : decode cX6_surrender 9 = .ok (.ireturn, 1) := by decide +kernel
theorem dX6_surrender_10 : decode cX6_surrender 10 = .ok (.iload_n 2, 1) := by decide +kernel
theorem dX6_surrender_11 : decode cX6_surrender 11 = .ok (.invokestatic 53, 3) := by decide +kernel
theorem dX6_surrender_14 : decode cX6_surrender 14 = .ok (.ifCond .eq 12, 3) := by decide +kernel
theorem dX6_surrender_17 : decode cX6_surrender 17 = .ok (.iload_n 3, 1) := by decide +kernel
theorem dX6_surrender_18 : decode cX6_surrender 18 = .ok (.iconst 0, 1) := by decide +kernel
theorem dX6_surrender_19 : decode cX6_surrender 19 = .ok (.iconst 2, 1) := by decide +kernel
theorem dX6_surrender_20 : decode cX6_surrender 20 = .ok (.invokestatic 25, 3) := by decide +kernel
theorem dX6_surrender_23 : decode cX6_surrender 23 = .ok (.ifCond .ne 6, 3) := by decide +kernel
theorem dX6_surrender_26 : decode cX6_surrender 26 = .ok (.bipush (-2), 2) := by decide +kernel
theorem dX6_surrender_28 : decode cX6_surrender 28 = .ok (.ireturn, 1) := by decide +kernel
theorem dX6_surrender_29 : decode cX6_surrender 29 = .ok (.aload_n 0, 1) := by decide +kernel
theorem dX6_surrender_30 : decode cX6_surrender 30 = .ok (.iload_n 1, 1) := by decide +kernel
theorem dX6_surrender_31 : decode cX6_surrender 31 = .ok (.iload_n 2, 1) := by decide +kernel
theorem dX6_surrender_32 : decode cX6_surrender 32 = .ok (.iload_n 3, 1) := by decide +kernel
theorem dX6_surrender_33 : decode cX6_surrender 33 = .ok (.invokevirtual 89, 3) := by decide +kernel
theorem dX6_surrender_36 : decode cX6_surrender 36 = .ok (.aload_n 0, 1) := by decide +kernel
theorem dX6_surrender_37 : decode cX6_surrender 37 = .ok (.getfield 7, 3) := by decide +kernel
theorem dX6_surrender_40 : decode cX6_surrender 40 = .ok (.iload_n 1, 1) := by decide +kernel
theorem dX6_surrender_41 : decode cX6_surrender 41 = .ok (.bipush 29, 2) := by decide +kernel
theorem dX6_surrender_43 : decode cX6_surrender 43 = .ok (.invokestatic 45, 3) := by decide +kernel
theorem dX6_surrender_46 : decode cX6_surrender 46 = .ok (.iaload, 1) := by decide +kernel
theorem dX6_surrender_47 : decode cX6_surrender 47 = .ok (.iload_n 2, 1) := by decide +kernel
theorem dX6_surrender_48 : decode cX6_surrender 48 = .ok (.if_icmp .lt 10, 3) := by decide +kernel
theorem dX6_surrender_51 : decode cX6_surrender 51 = .ok (.aload_n 0, 1) := by decide +kernel
theorem dX6_surrender_52 : decode cX6_surrender 52 = .ok (.getfield 74, 3) := by decide +kernel
theorem dX6_surrender_55 : decode cX6_surrender 55 = .ok (.ifCond .le 6, 3) := by decide +kernel
theorem dX6_surrender_58 : decode cX6_surrender 58 = .ok (.bipush (-4), 2) := by decide +kernel
theorem dX6_surrender_60 : decode cX6_surrender 60 = .ok (.ireturn, 1) := by decide +kernel
theorem dX6_surrender_61 : decode cX6_surrender 61 = .ok (.aload_n 0, 1) := by decide +kernel
theorem dX6_surrender_62 : decode cX6_surrender 62 = .ok (.iconst 0, 1) := by decide +kernel
theorem dX6_surrender_63 : decode cX6_surrender 63 = .ok (.invokevirtual 41, 3) := by decide +kernel
theorem dX6_surrender_66 : decode cX6_surrender 66 = .ok (.iconst 0, 1) := by decide +kernel
theorem dX6_surrender_67 : decode cX6_surrender 67 = .ok (.istore 4, 2) := by decide +kernel
theorem dX6_surrender_69 : decode cX6_surrender 69 = .ok (.iload 4, 2) := by decide +kernel
theorem dX6_surrender_71 : decode cX6_surrender 71 = .ok (.bipush 20, 2) := by decide +kernel
theorem dX6_surrender_73 : decode cX6_surrender 73 = .ok (.if_icmp .ge 53, 3) := by decide +kernel
theorem dX6_surrender_76 : decode cX6_surrender 76 = .ok (.aload_n 0, 1) := by decide +kernel
theorem dX6_surrender_77 : decode cX6_surrender 77 = .ok (.getfield 7, 3) := by decide +kernel
theorem dX6_surrender_80 : decode cX6_surrender 80 = .ok (.iload_n 1, 1) := by decide +kernel
theorem dX6_surrender_81 : decode cX6_surrender 81 = .ok (.iconst 0, 1) := by decide +kernel
theorem dX6_surrender_82 : decode cX6_surrender 82 = .ok (.iload 4, 2) := by decide +kernel
theorem dX6_surrender_84 : decode cX6_surrender 84 = .ok (.iadd, 1) := by decide +kernel
theorem dX6_surrender_85 : decode cX6_surrender 85 = .ok (.invokestatic 45, 3) := by decide +kernel
theorem dX6_surrender_88 : decode cX6_surrender 88 = .ok (.dup2, 1) := by decide +kernel
theorem dX6_surrender_89 : decode cX6_surrender 89 = .ok (.iaload, 1) := by decide +kernel
theorem dX6_surrender_90 : decode cX6_surrender 90 = .ok (.aload_n 0, 1) := by decide +kernel
theorem dX6_surrender_91 : decode cX6_surrender 91 = .ok (.getfield 16, 3) := by decide +kernel
theorem dX6_surrender_94 : decode cX6_surrender 94 = .ok (.iload 4, 2) := by decide +kernel
theorem dX6_surrender_96 : decode cX6_surrender 96 = .ok (.iaload, 1) := by decide +kernel
theorem dX6_surrender_97 : decode cX6_surrender 97 = .ok (.isub, 1) := by decide +kernel
theorem dX6_surrender_98 : decode cX6_surrender 98 = .ok (.iastore, 1) := by decide +kernel
theorem dX6_surrender_99 : decode cX6_surrender 99 = .ok (.aload_n 0, 1) := by decide +kernel
theorem dX6_surrender_100 : decode cX6_surrender 100 = .ok (.getfield 7, 3) := by decide +kernel
theorem dX6_surrender_103 : decode cX6_surrender 103 = .ok (.sipush 283, 3) := by decide +kernel
theorem dX6_surrender_106 : decode cX6_surrender 106 = .ok (.iload 4, 2) := by decide +kernel
theorem dX6_surrender_108 : decode cX6_surrender 108 = .ok (.iadd, 1) := by decide +kernel
theorem dX6_surrender_109 : decode cX6_surrender 109 = .ok (.dup2, 1) := by decide +kernel
theorem dX6_surrender_110 : decode cX6_surrender 110 = .ok (.iaload, 1) := by decide +kernel
theorem dX6_surrender_111 : decode cX6_surrender 111 = .ok (.aload_n 0, 1) := by decide +kernel
theorem dX6_surrender_112 : decode cX6_surrender 112 = .ok (.getfield 16, 3) := by decide +kernel
theorem dX6_surrender_115 : decode cX6_surrender 115 = .ok (.iload 4, 2) := by decide +kernel
theorem dX6_surrender_117 : decode cX6_surrender 117 = .ok (.iaload, 1) := by decide +kernel
theorem dX6_surrender_118 : decode cX6_surrender 118 = .ok (.iadd, 1) := by decide +kernel
theorem dX6_surrender_119 : decode cX6_surrender 119 = .ok (.iastore, 1) := by decide +kernel
theorem dX6_surrender_120 : decode cX6_surrender 120 = .ok (.iinc 4 1, 3) := by decide +kernel
theorem dX6_surrender_123 : decode cX6_surrender 123 = .ok (.goto (-54), 3) := by decide +kernel
theorem dX6_surrender_126 : decode cX6_surrender 126 = .ok (.iconst 0, 1) := by decide +kernel
theorem dX6_surrender_127 : decode cX6_surrender 127 = .ok (.istore 4, 2) := by decide +kernel
theorem dX6_surrender_129 : decode cX6_surrender 129 = .ok (.iload 4, 2) := by decide +kernel
theorem dX6_surrender_131 : decode cX6_surrender 131 = .ok (.iconst 3, 1) := by decide +kernel
theorem dX6_surrender_132 : decode cX6_surrender 132 = .ok (.if_icmp .ge 78, 3) := by decide +kernel
theorem dX6_surrender_135 : decode cX6_surrender 135 = .ok (.aload_n 0, 1) := by decide +kernel
theorem dX6_surrender_136 : decode cX6_surrender 136 = .ok (.getfield 7, 3) := by decide +kernel
theorem dX6_surrender_139 : decode cX6_surrender 139 = .ok (.iload_n 1, 1) := by decide +kernel
theorem dX6_surrender_140 : decode cX6_surrender 140 = .ok (.bipush 20, 2) := by decide +kernel
theorem dX6_surrender_142 : decode cX6_surrender 142 = .ok (.iload 4, 2) := by decide +kernel
theorem dX6_surrender_144 : decode cX6_surrender 144 = .ok (.iadd, 1) := by decide +kernel
theorem dX6_surrender_145 : decode cX6_surrender 145 = .ok (.invokestatic 45, 3) := by decide +kernel
theorem dX6_surrender_148 : decode cX6_surrender 148 = .ok (.dup2, 1) := by decide +kernel
theorem dX6_surrender_149 : decode cX6_surrender 149 = .ok (.iaload, 1) := by decide +kernel
theorem dX6_surrender_150 : decode cX6_surrender 150 = .ok (.aload_n 0, 1) := by decide +kernel
theorem dX6_surrender_151 : decode cX6_surrender 151 = .ok (.getfield 19, 3) := by decide +kernel
theorem dX6_surrender_154 : decode cX6_surrender 154 = .ok (.iload 4, 2) := by decide +kernel
theorem dX6_surrender_156 : decode cX6_surrender 156 = .ok (.iaload, 1) := by decide +kernel
theorem dX6_surrender_157 : decode cX6_surrender 157 = .ok (.isub, 1) := by decide +kernel
theorem dX6_surrender_158 : decode cX6_surrender 158 = .ok (.iastore, 1) := by decide +kernel
theorem dX6_surrender_159 : decode cX6_surrender 159 = .ok (.aload_n 0, 1) := by decide +kernel
theorem dX6_surrender_160 : decode cX6_surrender 160 = .ok (.getfield 7, 3) := by decide +kernel
theorem dX6_surrender_163 : decode cX6_surrender 163 = .ok (.iload_n 1, 1) := by decide +kernel
theorem dX6_surrender_164 : decode cX6_surrender 164 = .ok (.bipush 23, 2) := by decide +kernel
theorem dX6_surrender_166 : decode cX6_surrender 166 = .ok (.iload 4, 2) := by decide +kernel
theorem dX6_surrender_168 : decode cX6_surrender 168 = .ok (.iadd, 1) := by decide +kernel
theorem dX6_surrender_169 : decode cX6_surrender 169 = .ok (.invokestatic 45, 3) := by decide +kernel
theorem dX6_surrender_172 : decode cX6_surrender 172 = .ok (.dup2, 1) := by decide +kernel
theorem dX6_surrender_173 : decode cX6_surrender 173 = .ok (.iaload, 1) := by decide +kernel
theorem dX6_surrender_174 : decode cX6_surrender 174 = .ok (.aload_n 0, 1) := by decide +kernel
theorem dX6_surrender_175 : decode cX6_surrender 175 = .ok (.getfield 19, 3) := by decide +kernel
theorem dX6_surrender_178 : decode cX6_surrender 178 = .ok (.iload 4, 2) := by decide +kernel
theorem dX6_surrender_180 : decode cX6_surrender 180 = .ok (.iaload, 1) := by decide +kernel
theorem dX6_surrender_181 : decode cX6_surrender 181 = .ok (.iadd, 1) := by decide +kernel
theorem dX6_surrender_182 : decode cX6_surrender 182 = .ok (.iastore, 1) := by decide +kernel
theorem dX6_surrender_183 : decode cX6_surrender 183 = .ok (.aload_n 0, 1) := by decide +kernel
theorem dX6_surrender_184 : decode cX6_surrender 184 = .ok (.getfield 7, 3) := by decide +kernel
theorem dX6_surrender_187 : decode cX6_surrender 187 = .ok (.sipush 346, 3) := by decide +kernel
theorem dX6_surrender_190 : decode cX6_surrender 190 = .ok (.iload 4, 2) := by decide +kernel
theorem dX6_surrender_192 : decode cX6_surrender 192 = .ok (.iadd, 1) := by decide +kernel
theorem dX6_surrender_193 : decode cX6_surrender 193 = .ok (.dup2, 1) := by decide +kernel
theorem dX6_surrender_194 : decode cX6_surrender 194 = .ok (.iaload, 1) := by decide +kernel
theorem dX6_surrender_195 : decode cX6_surrender 195 = .ok (.aload_n 0, 1) := by decide +kernel
theorem dX6_surrender_196 : decode cX6_surrender 196 = .ok (.getfield 19, 3) := by decide +kernel
theorem dX6_surrender_199 : decode cX6_surrender 199 = .ok (.iload 4, 2) := by decide +kernel
theorem dX6_surrender_201 : decode cX6_surrender 201 = .ok (.iaload, 1) := by decide +kernel
theorem dX6_surrender_202 : decode cX6_surrender 202 = .ok (.iadd, 1) := by decide +kernel
theorem dX6_surrender_203 : decode cX6_surrender 203 = .ok (.iastore, 1) := by decide +kernel
theorem dX6_surrender_204 : decode cX6_surrender 204 = .ok (.iinc 4 1, 3) := by decide +kernel
theorem dX6_surrender_207 : decode cX6_surrender 207 = .ok (.goto (-78), 3) := by decide +kernel
theorem dX6_surrender_210 : decode cX6_surrender 210 = .ok (.aload_n 0, 1) := by decide +kernel
theorem dX6_surrender_211 : decode cX6_surrender 211 = .ok (.getfield 7, 3) := by decide +kernel
theorem dX6_surrender_214 : decode cX6_surrender 214 = .ok (.iload_n 1, 1) := by decide +kernel
theorem dX6_surrender_215 : decode cX6_surrender 215 = .ok (.bipush 29, 2) := by decide +kernel
theorem dX6_surrender_217 : decode cX6_surrender 217 = .ok (.invokestatic 45, 3) := by decide +kernel
theorem dX6_surrender_220 : decode cX6_surrender 220 = .ok (.dup2, 1) := by decide +kernel
theorem dX6_surrender_221 : decode cX6_surrender 221 = .ok (.iaload, 1) := by decide +kernel
theorem dX6_surrender_222 : decode cX6_surrender 222 = .ok (.iload_n 2, 1) := by decide +kernel
theorem dX6_surrender_223 : decode cX6_surrender 223 = .ok (.isub, 1) := by decide +kernel
theorem dX6_surrender_224 : decode cX6_surrender 224 = .ok (.iastore, 1) := by decide +kernel
theorem dX6_surrender_225 : decode cX6_surrender 225 = .ok (.aload_n 0, 1) := by decide +kernel
theorem dX6_surrender_226 : decode cX6_surrender 226 = .ok (.getfield 7, 3) := by decide +kernel
theorem dX6_surrender_229 : decode cX6_surrender 229 = .ok (.iload_n 1, 1) := by decide +kernel
theorem dX6_surrender_230 : decode cX6_surrender 230 = .ok (.bipush 30, 2) := by decide +kernel
theorem dX6_surrender_232 : decode cX6_surrender 232 = .ok (.invokestatic 45, 3) := by decide +kernel
theorem dX6_surrender_235 : decode cX6_surrender 235 = .ok (.dup2, 1) := by decide +kernel
theorem dX6_surrender_236 : decode cX6_surrender 236 = .ok (.iaload, 1) := by decide +kernel
theorem dX6_surrender_237 : decode cX6_surrender 237 = .ok (.iload_n 2, 1) := by decide +kernel
theorem dX6_surrender_238 : decode cX6_surrender 238 = .ok (.iadd, 1) := by decide +kernel
theorem dX6_surrender_239 : decode cX6_surrender 239 = .ok (.iastore, 1) := by decide +kernel
theorem dX6_surrender_240 : decode cX6_surrender 240 = .ok (.aload_n 0, 1) := by decide +kernel
theorem dX6_surrender_241 : decode cX6_surrender 241 = .ok (.getfield 7, 3) := by decide +kernel
theorem dX6_surrender_244 : decode cX6_surrender 244 = .ok (.iload_n 1, 1) := by decide +kernel
theorem dX6_surrender_245 : decode cX6_surrender 245 = .ok (.bipush 29, 2) := by decide +kernel
theorem dX6_surrender_247 : decode cX6_surrender 247 = .ok (.invokestatic 45, 3) := by decide +kernel
theorem dX6_surrender_250 : decode cX6_surrender 250 = .ok (.iaload, 1) := by decide +kernel
theorem dX6_surrender_251 : decode cX6_surrender 251 = .ok (.ireturn, 1) := by decide +kernel
theorem dX6_beginYear_0 : decode cX6_beginYear 0 = .ok (.iconst 0, 1) := by decide +kernel
theorem dX6_beginYear_1 : decode cX6_beginYear 1 = .ok (.istore_n 1, 1) := by decide +kernel
theorem dX6_beginYear_2 : decode cX6_beginYear 2 = .ok (.iload_n 1, 1) := by decide +kernel
theorem dX6_beginYear_3 : decode cX6_beginYear 3 = .ok (.aload_n 0, 1) := by decide +kernel
theorem dX6_beginYear_4 : decode cX6_beginYear 4 = .ok (.getfield 7, 3) := by decide +kernel
theorem dX6_beginYear_7 : decode cX6_beginYear 7 = .ok (.iconst 1, 1) := by decide +kernel
theorem dX6_beginYear_8 : decode cX6_beginYear 8 = .ok (.iaload, 1) := by decide +kernel
theorem dX6_beginYear_9 : decode cX6_beginYear 9 = .ok (.if_icmp .ge 129, 3) := by decide +kernel
theorem dX6_beginYear_12 : decode cX6_beginYear 12 = .ok (.aload_n 0, 1) := by decide +kernel
theorem dX6_beginYear_13 : decode cX6_beginYear 13 = .ok (.getfield 7, 3) := by decide +kernel
theorem dX6_beginYear_16 : decode cX6_beginYear 16 = .ok (.iload_n 1, 1) := by decide +kernel
theorem dX6_beginYear_17 : decode cX6_beginYear 17 = .ok (.bipush 26, 2) := by decide +kernel
theorem dX6_beginYear_19 : decode cX6_beginYear 19 = .ok (.invokestatic 45, 3) := by decide +kernel
theorem dX6_beginYear_22 : decode cX6_beginYear 22 = .ok (.iaload, 1) := by decide +kernel
theorem dX6_beginYear_23 : decode cX6_beginYear 23 = .ok (.istore_n 2, 1) := by decide +kernel
theorem dX6_beginYear_24 : decode cX6_beginYear 24 = .ok (.aload_n 0, 1) := by decide +kernel
theorem dX6_beginYear_25 : decode cX6_beginYear 25 = .ok (.getfield 7, 3) := by decide +kernel
theorem dX6_beginYear_28 : decode cX6_beginYear 28 = .ok (.iload_n 1, 1) := by decide +kernel
theorem dX6_beginYear_29 : decode cX6_beginYear 29 = .ok (.bipush 28, 2) := by decide +kernel
theorem dX6_beginYear_31 : decode cX6_beginYear 31 = .ok (.invokestatic 45, 3) := by decide +kernel
theorem dX6_beginYear_34 : decode cX6_beginYear 34 = .ok (.aload_n 0, 1) := by decide +kernel
theorem dX6_beginYear_35 : decode cX6_beginYear 35 = .ok (.getfield 7, 3) := by decide +kernel
theorem dX6_beginYear_38 : decode cX6_beginYear 38 = .ok (.iload_n 1, 1) := by decide +kernel
theorem dX6_beginYear_39 : decode cX6_beginYear 39 = .ok (.bipush 27, 2) := by decide +kernel
theorem dX6_beginYear_41 : decode cX6_beginYear 41 = .ok (.invokestatic 45, 3) := by decide +kernel
theorem dX6_beginYear_44 : decode cX6_beginYear 44 = .ok (.iaload, 1) := by decide +kernel
theorem dX6_beginYear_45 : decode cX6_beginYear 45 = .ok (.iload_n 2, 1) := by decide +kernel
theorem dX6_beginYear_46 : decode cX6_beginYear 46 = .ok (.iadd, 1) := by decide +kernel
theorem dX6_beginYear_47 : decode cX6_beginYear 47 = .ok (.iload_n 2, 1) := by decide +kernel
theorem dX6_beginYear_48 : decode cX6_beginYear 48 = .ok (.bipush 9, 2) := by decide +kernel
theorem dX6_beginYear_50 : decode cX6_beginYear 50 = .ok (.iadd, 1) := by decide +kernel
theorem dX6_beginYear_51 : decode cX6_beginYear 51 = .ok (.bipush 10, 2) := by decide +kernel
theorem dX6_beginYear_53 : decode cX6_beginYear 53 = .ok (.idiv, 1) := by decide +kernel
theorem dX6_beginYear_54 : decode cX6_beginYear 54 = .ok (.iadd, 1) := by decide +kernel
theorem dX6_beginYear_55 : decode cX6_beginYear 55 = .ok (.iastore, 1) := by decide +kernel
theorem dX6_beginYear_56 : decode cX6_beginYear 56 = .ok (.aload_n 0, 1) := by decide +kernel
theorem dX6_beginYear_57 : decode cX6_beginYear 57 = .ok (.getfield 7, 3) := by decide +kernel
theorem dX6_beginYear_60 : decode cX6_beginYear 60 = .ok (.iload_n 1, 1) := by decide +kernel
theorem dX6_beginYear_61 : decode cX6_beginYear 61 = .ok (.bipush 29, 2) := by decide +kernel
theorem dX6_beginYear_63 : decode cX6_beginYear 63 = .ok (.invokestatic 45, 3) := by decide +kernel
theorem dX6_beginYear_66 : decode cX6_beginYear 66 = .ok (.dup2, 1) := by decide +kernel
theorem dX6_beginYear_67 : decode cX6_beginYear 67 = .ok (.iaload, 1) := by decide +kernel
theorem dX6_beginYear_68 : decode cX6_beginYear 68 = .ok (.aload_n 0, 1) := by decide +kernel
theorem dX6_beginYear_69 : decode cX6_beginYear 69 = .ok (.getfield 7, 3) := by decide +kernel
theorem dX6_beginYear_72 : decode cX6_beginYear 72 = .ok (.iload_n 1, 1) := by decide +kernel
theorem dX6_beginYear_73 : decode cX6_beginYear 73 = .ok (.bipush 28, 2) := by decide +kernel
theorem dX6_beginYear_75 : decode cX6_beginYear 75 = .ok (.invokestatic 45, 3) := by decide +kernel
theorem dX6_beginYear_78 : decode cX6_beginYear 78 = .ok (.iaload, 1) := by decide +kernel
theorem dX6_beginYear_79 : decode cX6_beginYear 79 = .ok (.iadd, 1) := by decide +kernel
theorem dX6_beginYear_80 : decode cX6_beginYear 80 = .ok (.iastore, 1) := by decide +kernel
theorem dX6_beginYear_81 : decode cX6_beginYear 81 = .ok (.aload_n 0, 1) := by decide +kernel
theorem dX6_beginYear_82 : decode cX6_beginYear 82 = .ok (.getfield 7, 3) := by decide +kernel
theorem dX6_beginYear_85 : decode cX6_beginYear 85 = .ok (.iload_n 1, 1) := by decide +kernel
theorem dX6_beginYear_86 : decode cX6_beginYear 86 = .ok (.bipush 26, 2) := by decide +kernel
theorem dX6_beginYear_88 : decode cX6_beginYear 88 = .ok (.invokestatic 45, 3) := by decide +kernel
theorem dX6_beginYear_91 : decode cX6_beginYear 91 = .ok (.iconst 0, 1) := by decide +kernel
theorem dX6_beginYear_92 : decode cX6_beginYear 92 = .ok (.iastore, 1) := by decide +kernel
theorem dX6_beginYear_93 : decode cX6_beginYear 93 = .ok (.aload_n 0, 1) := by decide +kernel
theorem dX6_beginYear_94 : decode cX6_beginYear 94 = .ok (.getfield 7, 3) := by decide +kernel
theorem dX6_beginYear_97 : decode cX6_beginYear 97 = .ok (.iload_n 1, 1) := by decide +kernel
theorem dX6_beginYear_98 : decode cX6_beginYear 98 = .ok (.bipush 27, 2) := by decide +kernel
theorem dX6_beginYear_100 : decode cX6_beginYear 100 = .ok (.invokestatic 45, 3) := by decide +kernel
theorem dX6_beginYear_103 : decode cX6_beginYear 103 = .ok (.iconst 0, 1) := by decide +kernel
theorem dX6_beginYear_104 : decode cX6_beginYear 104 = .ok (.iastore, 1) := by decide +kernel
theorem dX6_beginYear_105 : decode cX6_beginYear 105 = .ok (.iconst 0, 1) := by decide +kernel
theorem dX6_beginYear_106 : decode cX6_beginYear 106 = .ok (.istore_n 3, 1) := by decide +kernel
theorem dX6_beginYear_107 : decode cX6_beginYear 107 = .ok (.iload_n 3, 1) := by decide +kernel
theorem dX6_beginYear_108 : decode cX6_beginYear 108 = .ok (.iconst 3, 1) := by decide +kernel
theorem dX6_beginYear_109 : decode cX6_beginYear 109 = .ok (.if_icmp .ge 23, 3) := by decide +kernel
theorem dX6_beginYear_112 : decode cX6_beginYear 112 = .ok (.aload_n 0, 1) := by decide +kernel
theorem dX6_beginYear_113 : decode cX6_beginYear 113 = .ok (.getfield 7, 3) := by decide +kernel
theorem dX6_beginYear_116 : decode cX6_beginYear 116 = .ok (.iload_n 1, 1) := by decide +kernel
theorem dX6_beginYear_117 : decode cX6_beginYear 117 = .ok (.bipush 23, 2) := by decide +kernel
theorem dX6_beginYear_119 : decode cX6_beginYear 119 = .ok (.iload_n 3, 1) := by decide +kernel
theorem dX6_beginYear_120 : decode cX6_beginYear 120 = .ok (.iadd, 1) := by decide +kernel
theorem dX6_beginYear_121 : decode cX6_beginYear 121 = .ok (.invokestatic 45, 3) := by decide +kernel
theorem dX6_beginYear_124 : decode cX6_beginYear 124 = .ok (.iconst 0, 1) := by decide +kernel
theorem dX6_beginYear_125 : decode cX6_beginYear 125 = .ok (.iastore, 1) := by decide +kernel
theorem dX6_beginYear_126 : decode cX6_beginYear 126 = .ok (.iinc 3 1, 3) := by decide +kernel
theorem dX6_beginYear_129 : decode cX6_beginYear 129 = .ok (.goto (-22), 3) := by decide +kernel
theorem dX6_beginYear_132 : decode cX6_beginYear 132 = .ok (.iinc 1 1, 3) := by decide +kernel
theorem dX6_beginYear_135 : decode cX6_beginYear 135 = .ok (.goto (-133), 3) := by decide +kernel
theorem dX6_beginYear_138 : decode cX6_beginYear 138 = .ok (.iconst 0, 1) := by decide +kernel
theorem dX6_beginYear_139 : decode cX6_beginYear 139 = .ok (.istore_n 1, 1) := by decide +kernel
theorem dX6_beginYear_140 : decode cX6_beginYear 140 = .ok (.iload_n 1, 1) := by decide +kernel
theorem dX6_beginYear_141 : decode cX6_beginYear 141 = .ok (.aload_n 0, 1) := by decide +kernel
theorem dX6_beginYear_142 : decode cX6_beginYear 142 = .ok (.getfield 7, 3) := by decide +kernel
theorem dX6_beginYear_145 : decode cX6_beginYear 145 = .ok (.iconst 5, 1) := by decide +kernel
theorem dX6_beginYear_146 : decode cX6_beginYear 146 = .ok (.iaload, 1) := by decide +kernel
theorem dX6_beginYear_147 : decode cX6_beginYear 147 = .ok (.iadd, 1) := by decide +kernel
theorem dX6_beginYear_148 : decode cX6_beginYear 148 = .ok (.aload_n 0, 1) := by decide +kernel
theorem dX6_beginYear_149 : decode cX6_beginYear 149 = .ok (.invokevirtual 56, 3) := by decide +kernel
theorem dX6_beginYear_152 : decode cX6_beginYear 152 = .ok (.if_icmp .ge 71, 3) := by decide +kernel
theorem dX6_beginYear_155 : decode cX6_beginYear 155 = .ok (.iload_n 1, 1) := by decide +kernel
theorem dX6_beginYear_156 : decode cX6_beginYear 156 = .ok (.bipush 20, 2) := by decide +kernel
theorem dX6_beginYear_158 : decode cX6_beginYear 158 = .ok (.if_icmp .ge 65, 3) := by decide +kernel
theorem dX6_beginYear_161 : decode cX6_beginYear 161 = .ok (.iconst 0, 1) := by decide +kernel
theorem dX6_beginYear_162 : decode cX6_beginYear 162 = .ok (.istore_n 2, 1) := by decide +kernel
theorem dX6_beginYear_163 : decode cX6_beginYear 163 = .ok (.iload_n 2, 1) := by decide +kernel
theorem dX6_beginYear_164 : decode cX6_beginYear 164 = .ok (.aload_n 0, 1) := by decide +kernel
theorem dX6_beginYear_165 : decode cX6_beginYear 165 = .ok (.getfield 7, 3) := by decide +kernel
theorem dX6_beginYear_168 : decode cX6_beginYear 168 = .ok (.iconst 1, 1) := by decide +kernel
theorem dX6_beginYear_169 : decode cX6_beginYear 169 = .ok (.iaload, 1) := by decide +kernel
theorem dX6_beginYear_170 : decode cX6_beginYear 170 = .ok (.if_icmp .ge 47, 3) := by decide +kernel
theorem dX6_beginYear_173 : decode cX6_beginYear 173 = .ok (.aload_n 0, 1) := by decide +kernel
theorem dX6_beginYear_174 : decode cX6_beginYear 174 = .ok (.getfield 7, 3) := by decide +kernel
theorem dX6_beginYear_177 : decode cX6_beginYear 177 = .ok (.sipush 323, 3) := by decide +kernel
theorem dX6_beginYear_180 : decode cX6_beginYear 180 = .ok (.iload_n 1, 1) := by decide +kernel
theorem dX6_beginYear_181 : decode cX6_beginYear 181 = .ok (.iadd, 1) := by decide +kernel
theorem dX6_beginYear_182 : decode cX6_beginYear 182 = .ok (.dup2, 1) := by decide +kernel
theorem dX6_beginYear_183 : decode cX6_beginYear 183 = .ok (.iaload, 1) := by decide +kernel
theorem dX6_beginYear_184 : decode cX6_beginYear 184 = .ok (.aload_n 0, 1) := by decide +kernel
theorem dX6_beginYear_185 : decode cX6_beginYear 185 = .ok (.getfield 7, 3) := by decide +kernel
theorem dX6_beginYear_188 : decode cX6_beginYear 188 = .ok (.iload_n 2, 1) := by decide +kernel
theorem dX6_beginYear_189 : decode cX6_beginYear 189 = .ok (.iconst 0, 1) := by decide +kernel
theorem dX6_beginYear_190 : decode cX6_beginYear 190 = .ok (.iload_n 1, 1) := by decide +kernel
theorem dX6_beginYear_191 : decode cX6_beginYear 191 = .ok (.iadd, 1) := by decide +kernel
theorem dX6_beginYear_192 : decode cX6_beginYear 192 = .ok (.invokestatic 45, 3) := by decide +kernel
theorem dX6_beginYear_195 : decode cX6_beginYear 195 = .ok (.iaload, 1) := by decide +kernel
theorem dX6_beginYear_196 : decode cX6_beginYear 196 = .ok (.iadd, 1) := by decide +kernel
theorem dX6_beginYear_197 : decode cX6_beginYear 197 = .ok (.iastore, 1) := by decide +kernel
theorem dX6_beginYear_198 : decode cX6_beginYear 198 = .ok (.aload_n 0, 1) := by decide +kernel
theorem dX6_beginYear_199 : decode cX6_beginYear 199 = .ok (.getfield 7, 3) := by decide +kernel
theorem dX6_beginYear_202 : decode cX6_beginYear 202 = .ok (.iload_n 2, 1) := by decide +kernel
theorem dX6_beginYear_203 : decode cX6_beginYear 203 = .ok (.iconst 0, 1) := by decide +kernel
theorem dX6_beginYear_204 : decode cX6_beginYear 204 = .ok (.iload_n 1, 1) := by decide +kernel
theorem dX6_beginYear_205 : decode cX6_beginYear 205 = .ok (.iadd, 1) := by decide +kernel
theorem dX6_beginYear_206 : decode cX6_beginYear 206 = .ok (.invokestatic 45, 3) := by decide +kernel
theorem dX6_beginYear_209 : decode cX6_beginYear 209 = .ok (.iconst 0, 1) := by decide +kernel
theorem dX6_beginYear_210 : decode cX6_beginYear 210 = .ok (.iastore, 1) := by decide +kernel
theorem dX6_beginYear_211 : decode cX6_beginYear 211 = .ok (.iinc 2 1, 3) := by decide +kernel
theorem dX6_beginYear_214 : decode cX6_beginYear 214 = .ok (.goto (-51), 3) := by decide +kernel
theorem dX6_beginYear_217 : decode cX6_beginYear 217 = .ok (.iinc 1 1, 3) := by decide +kernel
theorem dX6_beginYear_220 : decode cX6_beginYear 220 = .ok (.goto (-80), 3) := by decide +kernel
theorem dX6_beginYear_223 : decode cX6_beginYear 223 = .ok (.return_, 1) := by decide +kernel
theorem dX6_fineAll_0 : decode cX6_fineAll 0 = .ok (.iconst 0, 1) := by decide +kernel
theorem dX6_fineAll_1 : decode cX6_fineAll 1 = .ok (.istore_n 1, 1) := by decide +kernel
theorem dX6_fineAll_2 : decode cX6_fineAll 2 = .ok (.iconst 0, 1) := by decide +kernel
theorem dX6_fineAll_3 : decode cX6_fineAll 3 = .ok (.istore_n 2, 1) := by decide +kernel
theorem dX6_fineAll_4 : decode cX6_fineAll 4 = .ok (.iload_n 2, 1) := by decide +kernel
theorem dX6_fineAll_5 : decode cX6_fineAll 5 = .ok (.aload_n 0, 1) := by decide +kernel
theorem dX6_fineAll_6 : decode cX6_fineAll 6 = .ok (.getfield 7, 3) := by decide +kernel
theorem dX6_fineAll_9 : decode cX6_fineAll 9 = .ok (.iconst 1, 1) := by decide +kernel
theorem dX6_fineAll_10 : decode cX6_fineAll 10 = .ok (.iaload, 1) := by decide +kernel
theorem dX6_fineAll_11 : decode cX6_fineAll 11 = .ok (.if_icmp .ge 48, 3) := by decide +kernel
theorem dX6_fineAll_14 : decode cX6_fineAll 14 = .ok (.aload_n 0, 1) := by decide +kernel
theorem dX6_fineAll_15 : decode cX6_fineAll 15 = .ok (.getfield 7, 3) := by decide +kernel
theorem dX6_fineAll_18 : decode cX6_fineAll 18 = .ok (.iload_n 2, 1) := by decide +kernel
theorem dX6_fineAll_19 : decode cX6_fineAll 19 = .ok (.bipush 29, 2) := by decide +kernel
theorem dX6_fineAll_21 : decode cX6_fineAll 21 = .ok (.invokestatic 45, 3) := by decide +kernel
theorem dX6_fineAll_24 : decode cX6_fineAll 24 = .ok (.iaload, 1) := by decide +kernel
theorem dX6_fineAll_25 : decode cX6_fineAll 25 = .ok (.aload_n 0, 1) := by decide +kernel
theorem dX6_fineAll_26 : decode cX6_fineAll 26 = .ok (.getfield 7, 3) := by decide +kernel
theorem dX6_fineAll_29 : decode cX6_fineAll 29 = .ok (.bipush 6, 2) := by decide +kernel
theorem dX6_fineAll_31 : decode cX6_fineAll 31 = .ok (.iaload, 1) := by decide +kernel
theorem dX6_fineAll_32 : decode cX6_fineAll 32 = .ok (.imul, 1) := by decide +kernel
theorem dX6_fineAll_33 : decode cX6_fineAll 33 = .ok (.istore_n 3, 1) := by decide +kernel
theorem dX6_fineAll_34 : decode cX6_fineAll 34 = .ok (.aload_n 0, 1) := by decide +kernel
theorem dX6_fineAll_35 : decode cX6_fineAll 35 = .ok (.getfield 7, 3) := by decide +kernel
theorem dX6_fineAll_38 : decode cX6_fineAll 38 = .ok (.iload_n 2, 1) := by decide +kernel
theorem dX6_fineAll_39 : decode cX6_fineAll 39 = .ok (.bipush 31, 2) := by decide +kernel
theorem dX6_fineAll_41 : decode cX6_fineAll 41 = .ok (.invokestatic 45, 3) := by decide +kernel
theorem dX6_fineAll_44 : decode cX6_fineAll 44 = .ok (.dup2, 1) := by decide +kernel
theorem dX6_fineAll_45 : decode cX6_fineAll 45 = .ok (.iaload, 1) := by decide +kernel
theorem dX6_fineAll_46 : decode cX6_fineAll 46 = .ok (.iload_n 3, 1) := by decide +kernel
theorem dX6_fineAll_47 : decode cX6_fineAll 47 = .ok (.iadd, 1) := by decide +kernel
theorem dX6_fineAll_48 : decode cX6_fineAll 48 = .ok (.iastore, 1) := by decide +kernel
theorem dX6_fineAll_49 : decode cX6_fineAll 49 = .ok (.iload_n 1, 1) := by decide +kernel
theorem dX6_fineAll_50 : decode cX6_fineAll 50 = .ok (.iload_n 3, 1) := by decide +kernel
theorem dX6_fineAll_51 : decode cX6_fineAll 51 = .ok (.iadd, 1) := by decide +kernel
theorem dX6_fineAll_52 : decode cX6_fineAll 52 = .ok (.istore_n 1, 1) := by decide +kernel
theorem dX6_fineAll_53 : decode cX6_fineAll 53 = .ok (.iinc 2 1, 3) := by decide +kernel
theorem dX6_fineAll_56 : decode cX6_fineAll 56 = .ok (.goto (-52), 3) := by decide +kernel
theorem dX6_fineAll_59 : decode cX6_fineAll 59 = .ok (.iload_n 1, 1) := by decide +kernel
theorem dX6_fineAll_60 : decode cX6_fineAll 60 = .ok (.ireturn, 1) := by decide +kernel
theorem dX6_pass_0 : decode cX6_pass 0 = .ok (.iload_n 1, 1) := by decide +kernel
theorem dX6_pass_1 : decode cX6_pass 1 = .ok (.iconst 1, 1) := by decide +kernel
theorem dX6_pass_2 : decode cX6_pass 2 = .ok (.bipush 24, 2) := by decide +kernel
theorem dX6_pass_4 : decode cX6_pass 4 = .ok (.invokestatic 25, 3) := by decide +kernel
theorem dX6_pass_7 : decode cX6_pass 7 = .ok (.ifCond .ne 6, 3) := by decide +kernel
theorem dX6_pass_10 : decode cX6_pass 10 = .ok (.bipush (-2), 2) := by decide +kernel
theorem dX6_pass_12 : decode cX6_pass 12 = .ok (.ireturn, 1) := by decide +kernel
theorem dX6_pass_13 : decode cX6_pass 13 = .ok (.aload_n 0, 1) := by decide +kernel
theorem dX6_pass_14 : decode cX6_pass 14 = .ok (.getfield 7, 3) := by decide +kernel
theorem dX6_pass_17 : decode cX6_pass 17 = .ok (.iconst 0, 1) := by decide +kernel
theorem dX6_pass_18 : decode cX6_pass 18 = .ok (.iaload, 1) := by decide +kernel
theorem dX6_pass_19 : decode cX6_pass 19 = .ok (.iload_n 1, 1) := by decide +kernel
theorem dX6_pass_20 : decode cX6_pass 20 = .ok (.iadd, 1) := by decide +kernel
theorem dX6_pass_21 : decode cX6_pass 21 = .ok (.sipush 239, 3) := by decide +kernel
theorem dX6_pass_24 : decode cX6_pass 24 = .ok (.if_icmp .le 6, 3) := by decide +kernel
theorem dX6_pass_27 : decode cX6_pass 27 = .ok (.bipush (-4), 2) := by decide +kernel
theorem dX6_pass_29 : decode cX6_pass 29 = .ok (.ireturn, 1) := by decide +kernel
theorem dX6_pass_30 : decode cX6_pass 30 = .ok (.aload_n 0, 1) := by decide +kernel
theorem dX6_pass_31 : decode cX6_pass 31 = .ok (.iconst 0, 1) := by decide +kernel
theorem dX6_pass_32 : decode cX6_pass 32 = .ok (.invokevirtual 41, 3) := by decide +kernel
theorem dX6_pass_35 : decode cX6_pass 35 = .ok (.iconst 0, 1) := by decide +kernel
theorem dX6_pass_36 : decode cX6_pass 36 = .ok (.istore_n 2, 1) := by decide +kernel
theorem dX6_pass_37 : decode cX6_pass 37 = .ok (.iconst 0, 1) := by decide +kernel
theorem dX6_pass_38 : decode cX6_pass 38 = .ok (.istore_n 3, 1) := by decide +kernel
theorem dX6_pass_39 : decode cX6_pass 39 = .ok (.iload_n 3, 1) := by decide +kernel
theorem dX6_pass_40 : decode cX6_pass 40 = .ok (.iload_n 1, 1) := by decide +kernel
theorem dX6_pass_41 : decode cX6_pass 41 = .ok (.if_icmp .ge 66, 3) := by decide +kernel
theorem dX6_pass_44 : decode cX6_pass 44 = .ok (.aload_n 0, 1) := by decide +kernel
theorem dX6_pass_45 : decode cX6_pass 45 = .ok (.getfield 7, 3) := by decide +kernel
theorem dX6_pass_48 : decode cX6_pass 48 = .ok (.iconst 0, 1) := by decide +kernel
theorem dX6_pass_49 : decode cX6_pass 49 = .ok (.dup2, 1) := by decide +kernel
theorem dX6_pass_50 : decode cX6_pass 50 = .ok (.iaload, 1) := by decide +kernel
theorem dX6_pass_51 : decode cX6_pass 51 = .ok (.iconst 1, 1) := by decide +kernel
theorem dX6_pass_52 : decode cX6_pass 52 = .ok (.iadd, 1) := by decide +kernel
theorem dX6_pass_53 : decode cX6_pass 53 = .ok (.iastore, 1) := by decide +kernel
theorem dX6_pass_54 : decode cX6_pass 54 = .ok (.aload_n 0, 1) := by decide +kernel
theorem dX6_pass_55 : decode cX6_pass 55 = .ok (.getfield 7, 3) := by decide +kernel
theorem dX6_pass_58 : decode cX6_pass 58 = .ok (.iconst 0, 1) := by decide +kernel
theorem dX6_pass_59 : decode cX6_pass 59 = .ok (.iaload, 1) := by decide +kernel
theorem dX6_pass_60 : decode cX6_pass 60 = .ok (.bipush 12, 2) := by decide +kernel
theorem dX6_pass_62 : decode cX6_pass 62 = .ok (.irem, 1) := by decide +kernel
theorem dX6_pass_63 : decode cX6_pass 63 = .ok (.ifCond .ne 7, 3) := by decide +kernel
theorem dX6_pass_66 : decode cX6_pass 66 = .ok (.aload_n 0, 1) := by decide +kernel
theorem dX6_pass_67 : decode cX6_pass 67 = .ok (.invokevirtual 93, 3) := by decide +kernel
theorem dX6_pass_70 : decode cX6_pass 70 = .ok (.iload_n 2, 1) := by decide +kernel
theorem dX6_pass_71 : decode cX6_pass 71 = .ok (.aload_n 0, 1) := by decide +kernel
theorem dX6_pass_72 : decode cX6_pass 72 = .ok (.getfield 7, 3) := by decide +kernel
theorem dX6_pass_75 : decode cX6_pass 75 = .ok (.iconst 0, 1) := by decide +kernel
theorem dX6_pass_76 : decode cX6_pass 76 = .ok (.iaload, 1) := by decide +kernel
theorem dX6_pass_77 : decode cX6_pass 77 = .ok (.bipush 12, 2) := by decide +kernel
theorem dX6_pass_79 : decode cX6_pass 79 = .ok (.irem, 1) := by decide +kernel
theorem dX6_pass_80 : decode cX6_pass 80 = .ok (.iconst 4, 1) := by decide +kernel
theorem dX6_pass_81 : decode cX6_pass 81 = .ok (.if_icmp .ne 17, 3) := by decide +kernel
theorem dX6_pass_84 : decode cX6_pass 84 = .ok (.aload_n 0, 1) := by decide +kernel
theorem dX6_pass_85 : decode cX6_pass 85 = .ok (.invokevirtual 56, 3) := by decide +kernel
theorem dX6_pass_88 : decode cX6_pass 88 = .ok (.ifCond .le 10, 3) := by decide +kernel
theorem dX6_pass_91 : decode cX6_pass 91 = .ok (.aload_n 0, 1) := by decide +kernel
theorem dX6_pass_92 : decode cX6_pass 92 = .ok (.invokevirtual 96, 3) := by decide +kernel
theorem dX6_pass_95 : decode cX6_pass 95 = .ok (.goto 4, 3) := by decide +kernel
theorem dX6_pass_98 : decode cX6_pass 98 = .ok (.iconst 0, 1) := by decide +kernel
theorem dX6_pass_99 : decode cX6_pass 99 = .ok (.iadd, 1) := by decide +kernel
theorem dX6_pass_100 : decode cX6_pass 100 = .ok (.istore_n 2, 1) := by decide +kernel
theorem dX6_pass_101 : decode cX6_pass 101 = .ok (.iinc 3 1, 3) := by decide +kernel
theorem dX6_pass_104 : decode cX6_pass 104 = .ok (.goto (-65), 3) := by decide +kernel
theorem dX6_pass_107 : decode cX6_pass 107 = .ok (.iload_n 2, 1) := by decide +kernel
theorem dX6_pass_108 : decode cX6_pass 108 = .ok (.ireturn, 1) := by decide +kernel
theorem dX6_type_0 : decode cX6_type 0 = .ok (.aload_n 0, 1) := by decide +kernel
theorem dX6_type_1 : decode cX6_type 1 = .ok (.getfield 99, 3) := by decide +kernel
theorem dX6_type_4 : decode cX6_type 4 = .ok (.bipush 60, 2) := by decide +kernel
theorem dX6_type_6 : decode cX6_type 6 = .ok (.if_icmp .ne 6, 3) := by decide +kernel
theorem dX6_type_9 : decode cX6_type 9 = .ok (.bipush (-3), 2) := by decide +kernel
theorem dX6_type_11 : decode cX6_type 11 = .ok (.ireturn, 1) := by decide +kernel
theorem dX6_type_12 : decode cX6_type 12 = .ok (.aload_n 0, 1) := by decide +kernel
theorem dX6_type_13 : decode cX6_type 13 = .ok (.getfield 13, 3) := by decide +kernel
theorem dX6_type_16 : decode cX6_type 16 = .ok (.aload_n 0, 1) := by decide +kernel
theorem dX6_type_17 : decode cX6_type 17 = .ok (.getfield 99, 3) := by decide +kernel
theorem dX6_type_20 : decode cX6_type 20 = .ok (.iload_n 1, 1) := by decide +kernel
theorem dX6_type_21 : decode cX6_type 21 = .ok (.iastore, 1) := by decide +kernel
theorem dX6_type_22 : decode cX6_type 22 = .ok (.aload_n 0, 1) := by decide +kernel
theorem dX6_type_23 : decode cX6_type 23 = .ok (.dup, 1) := by decide +kernel
theorem dX6_type_24 : decode cX6_type 24 = .ok (.getfield 99, 3) := by decide +kernel
theorem dX6_type_27 : decode cX6_type 27 = .ok (.iconst 1, 1) := by decide +kernel
theorem dX6_type_28 : decode cX6_type 28 = .ok (.iadd, 1) := by decide +kernel
theorem dX6_type_29 : decode cX6_type 29 = .ok (.putfield 99, 3) := by decide +kernel
theorem dX6_type_32 : decode cX6_type 32 = .ok (.aload_n 0, 1) := by decide +kernel
theorem dX6_type_33 : decode cX6_type 33 = .ok (.getfield 99, 3) := by decide +kernel
theorem dX6_type_36 : decode cX6_type 36 = .ok (.ireturn, 1) := by decide +kernel
theorem dX6_clearText_0 : decode cX6_clearText 0 = .ok (.aload_n 0, 1) := by decide +kernel
theorem dX6_clearText_1 : decode cX6_clearText 1 = .ok (.getfield 99, 3) := by decide +kernel
theorem dX6_clearText_4 : decode cX6_clearText 4 = .ok (.istore_n 1, 1) := by decide +kernel
theorem dX6_clearText_5 : decode cX6_clearText 5 = .ok (.aload_n 0, 1) := by decide +kernel
theorem dX6_clearText_6 : decode cX6_clearText 6 = .ok (.iconst 0, 1) := by decide +kernel
theorem dX6_clearText_7 : decode cX6_clearText 7 = .ok (.putfield 99, 3) := by decide +kernel
theorem dX6_clearText_10 : decode cX6_clearText 10 = .ok (.iload_n 1, 1) := by decide +kernel
theorem dX6_clearText_11 : decode cX6_clearText 11 = .ok (.ireturn, 1) := by decide +kernel
theorem dX6_code_0 : decode cX6_code 0 = .ok (.aload_n 0, 1) := by decide +kernel
theorem dX6_code_1 : decode cX6_code 1 = .ok (.getfield 102, 3) := by decide +kernel
theorem dX6_code_4 : decode cX6_code 4 = .ok (.aload_n 0, 1) := by decide +kernel
theorem dX6_code_5 : decode cX6_code 5 = .ok (.getfield 99, 3) := by decide +kernel
theorem dX6_code_8 : decode cX6_code 8 = .ok (.if_icmp .ge 15, 3) := by decide +kernel
theorem dX6_code_11 : decode cX6_code 11 = .ok (.aload_n 0, 1) := by decide +kernel
theorem dX6_code_12 : decode cX6_code 12 = .ok (.getfield 13, 3) := by decide +kernel
theorem dX6_code_15 : decode cX6_code 15 = .ok (.aload_n 0, 1) := by decide +kernel
theorem dX6_code_16 : decode cX6_code 16 = .ok (.getfield 102, 3) := by decide +kernel
theorem dX6_code_19 : decode cX6_code 19 = .ok (.iaload, 1) := by decide +kernel
theorem dX6_code_20 : decode cX6_code 20 = .ok (.goto 4, 3) := by decide +kernel
theorem dX6_code_23 : decode cX6_code 23 = .ok (.iconst 0, 1) := by decide +kernel
theorem dX6_code_24 : decode cX6_code 24 = .ok (.ireturn, 1) := by decide +kernel
theorem dX6_sign_0 : decode cX6_sign 0 = .ok (.aload_n 0, 1) := by decide +kernel
theorem dX6_sign_1 : decode cX6_sign 1 = .ok (.invokevirtual 105, 3) := by decide +kernel
theorem dX6_sign_4 : decode cX6_sign 4 = .ok (.iload_n 1, 1) := by decide +kernel
theorem dX6_sign_5 : decode cX6_sign 5 = .ok (.if_icmp .ne 7, 3) := by decide +kernel
theorem dX6_sign_8 : decode cX6_sign 8 = .ok (.iconst 1, 1) := by decide +kernel
theorem dX6_sign_9 : decode cX6_sign 9 = .ok (.goto 4, 3) := by decide +kernel
theorem dX6_sign_12 : decode cX6_sign 12 = .ok (.iconst 0, 1) := by decide +kernel
theorem dX6_sign_13 : decode cX6_sign 13 = .ok (.istore_n 2, 1) := by decide +kernel
theorem dX6_sign_14 : decode cX6_sign 14 = .ok (.aload_n 0, 1) := by decide +kernel
theorem dX6_sign_15 : decode cX6_sign 15 = .ok (.dup, 1) := by decide +kernel
theorem dX6_sign_16 : decode cX6_sign 16 = .ok (.getfield 102, 3) := by decide +kernel
theorem dX6_sign_19 : decode cX6_sign 19 = .ok (.iload_n 2, 1) := by decide +kernel
theorem dX6_sign_20 : decode cX6_sign 20 = .ok (.ifCond .eq 7, 3) := by decide +kernel
theorem dX6_sign_23 : decode cX6_sign 23 = .ok (.iconst 1, 1) := by decide +kernel
theorem dX6_sign_24 : decode cX6_sign 24 = .ok (.goto 4, 3) := by decide +kernel
theorem dX6_sign_27 : decode cX6_sign 27 = .ok (.iconst 0, 1) := by decide +kernel
theorem dX6_sign_28 : decode cX6_sign 28 = .ok (.iadd, 1) := by decide +kernel
theorem dX6_sign_29 : decode cX6_sign 29 = .ok (.putfield 102, 3) := by decide +kernel
theorem dX6_sign_32 : decode cX6_sign 32 = .ok (.iload_n 2, 1) := by decide +kernel
theorem dX6_sign_33 : decode cX6_sign 33 = .ok (.ireturn, 1) := by decide +kernel
theorem dX6_number_0 : decode cX6_number 0 = .ok (.aload_n 0, 1) := by decide +kernel
theorem dX6_number_1 : decode cX6_number 1 = .ok (.invokevirtual 105, 3) := by decide +kernel
theorem dX6_number_4 : decode cX6_number 4 = .ok (.iload_n 3, 1) := by decide +kernel
theorem dX6_number_5 : decode cX6_number 5 = .ok (.ifCond .eq 8, 3) := by decide +kernel
theorem dX6_number_8 : decode cX6_number 8 = .ok (.bipush 48, 2) := by decide +kernel
theorem dX6_number_10 : decode cX6_number 10 = .ok (.goto 5, 3) := by decide +kernel
theorem dX6_number_13 : decode cX6_number 13 = .ok (.bipush 49, 2) := by decide +kernel
theorem dX6_number_15 : decode cX6_number 15 = .ok (.bipush 57, 2) := by decide +kernel
theorem dX6_number_17 : decode cX6_number 17 = .ok (.invokestatic 25, 3) := by decide +kernel
theorem dX6_number_20 : decode cX6_number 20 = .ok (.ifCond .ne 5, 3) := by decide +kernel
theorem dX6_number_23 : decode cX6_number 23 = .ok (.iconst 0, 1) := by decide +kernel
theorem dX6_number_24 : decode cX6_number 24 = .ok (.ireturn, 1) := by decide +kernel
theorem dX6_number_25 : decode cX6_number 25 = .ok (.iconst 0, 1) := by decide +kernel
theorem dX6_number_26 : decode cX6_number 26 = .ok (.istore 4, 2) := by decide +kernel
theorem dX6_number_28 : decode cX6_number 28 = .ok (.aload_n 0, 1) := by decide +kernel
theorem dX6_number_29 : decode cX6_number 29 = .ok (.getfield 22, 3) := by decide +kernel
theorem dX6_number_32 : decode cX6_number 32 = .ok (.iload_n 1, 1) := by decide +kernel
theorem dX6_number_33 : decode cX6_number 33 = .ok (.iconst 0, 1) := by decide +kernel
theorem dX6_number_34 : decode cX6_number 34 = .ok (.iastore, 1) := by decide +kernel
theorem dX6_number_35 : decode cX6_number 35 = .ok (.aload_n 0, 1) := by decide +kernel
theorem dX6_number_36 : decode cX6_number 36 = .ok (.invokevirtual 105, 3) := by decide +kernel
theorem dX6_number_39 : decode cX6_number 39 = .ok (.bipush 48, 2) := by decide +kernel
theorem dX6_number_41 : decode cX6_number 41 = .ok (.bipush 57, 2) := by decide +kernel
theorem dX6_number_43 : decode cX6_number 43 = .ok (.invokestatic 25, 3) := by decide +kernel
theorem dX6_number_46 : decode cX6_number 46 = .ok (.ifCond .eq 62, 3) := by decide +kernel
theorem dX6_number_49 : decode cX6_number 49 = .ok (.iload 4, 2) := by decide +kernel
theorem dX6_number_51 : decode cX6_number 51 = .ok (.iload_n 2, 1) := by decide +kernel
theorem dX6_number_52 : decode cX6_number 52 = .ok (.if_icmp .ge 56, 3) := by decide +kernel
theorem dX6_number_55 : decode cX6_number 55 = .ok (.iload 4, 2) := by decide +kernel
theorem dX6_number_57 : decode cX6_number 57 = .ok (.ifCond .eq 12, 3) := by decide +kernel
theorem dX6_number_60 : decode cX6_number 60 = .ok (.aload_n 0, 1) := by decide +kernel
theorem dX6_number_61 : decode cX6_number 61 = .ok (.getfield 22, 3) := by decide +kernel
theorem dX6_number_64 : decode cX6_number 64 = .ok (.iload_n 1, 1) := by decide +kernel
theorem dX6_number_65 : decode cX6_number 65 = .ok (.iaload, 1) := by decide +kernel
theorem dX6_number_66 : decode cX6_number 66 = .ok (.ifCond .le 42, 3) := by decide +kernel
theorem dX6_number_69 : decode cX6_number 69 = .ok (.aload_n 0, 1) := by decide +kernel
theorem dX6_number_70 : decode cX6_number 70 = .ok (.getfield 22, 3) := by decide +kernel
theorem dX6_number_73 : decode cX6_number 73 = .ok (.iload_n 1, 1) := by decide +kernel
theorem dX6_number_74 : decode cX6_number 74 = .ok (.bipush 10, 2) := by decide +kernel
theorem dX6_number_76 : decode cX6_number 76 = .ok (.aload_n 0, 1) := by decide +kernel
theorem dX6_number_77 : decode cX6_number 77 = .ok (.getfield 22, 3) := by decide +kernel
theorem dX6_number_80 : decode cX6_number 80 = .ok (.iload_n 1, 1) := by decide +kernel
theorem dX6_number_81 : decode cX6_number 81 = .ok (.iaload, 1) := by decide +kernel
theorem dX6_number_82 : decode cX6_number 82 = .ok (.imul, 1) := by decide +kernel
theorem dX6_number_83 : decode cX6_number 83 = .ok (.aload_n 0, 1) := by decide +kernel
theorem dX6_number_84 : decode cX6_number 84 = .ok (.invokevirtual 105, 3) := by decide +kernel
theorem dX6_number_87 : decode cX6_number 87 = .ok (.iadd, 1) := by decide +kernel
theorem dX6_number_88 : decode cX6_number 88 = .ok (.bipush 48, 2) := by decide +kernel
theorem dX6_number_90 : decode cX6_number 90 = .ok (.isub, 1) := by decide +kernel
theorem dX6_number_91 : decode cX6_number 91 = .ok (.iastore, 1) := by decide +kernel
theorem dX6_number_92 : decode cX6_number 92 = .ok (.aload_n 0, 1) := by decide +kernel
theorem dX6_number_93 : decode cX6_number 93 = .ok (.dup, 1) := by decide +kernel
theorem dX6_number_94 : decode cX6_number 94 = .ok (.getfield 102, 3) := by decide +kernel
theorem dX6_number_97 : decode cX6_number 97 = .ok (.iconst 1, 1) := by decide +kernel
theorem dX6_number_98 : decode cX6_number 98 = .ok (.iadd, 1) := by decide +kernel
theorem dX6_number_99 : decode cX6_number 99 = .ok (.putfield 102, 3) := by decide +kernel
theorem dX6_number_102 : decode cX6_number 102 = .ok (.iinc 4 1, 3) := by decide +kernel
theorem dX6_number_105 : decode cX6_number 105 = .ok (.goto (-70), 3) := by decide +kernel
theorem dX6_number_108 : decode cX6_number 108 = .ok (.iconst 1, 1) := by decide +kernel
theorem dX6_number_109 : decode cX6_number 109 = .ok (.ireturn, 1) := by decide +kernel
theorem dX6_readsTransfer_0 : decode cX6_readsTransfer 0 = .ok (.aload_n 0, 1) := by decide +kernel
theorem dX6_readsTransfer_1 : decode cX6_readsTransfer 1 = .ok (.iconst 0, 1) := by decide +kernel
theorem dX6_readsTransfer_2 : decode cX6_readsTransfer 2 = .ok (.iconst 1, 1) := by decide +kernel
theorem dX6_readsTransfer_3 : decode cX6_readsTransfer 3 = .ok (.iconst 1, 1) := by decide +kernel
theorem dX6_readsTransfer_4 : decode cX6_readsTransfer 4 = .ok (.invokevirtual 108, 3) := by decide +kernel
theorem dX6_readsTransfer_7 : decode cX6_readsTransfer 7 = .ok (.ifCond .eq 64, 3) := by decide +kernel
theorem dX6_readsTransfer_10 : decode cX6_readsTransfer 10 = .ok (.aload_n 0, 1) := by decide +kernel
theorem dX6_readsTransfer_11 : decode cX6_readsTransfer 11 = .ok (.bipush 62, 2) := by decide +kernel
theorem dX6_readsTransfer_13 : decode cX6_readsTransfer 13 = .ok (.invokevirtual 112, 3) := by decide +kernel
theorem dX6_readsTransfer_16 : decode cX6_readsTransfer 16 = .ok (.ifCond .eq 55, 3) := by decide +kernel
theorem dX6_readsTransfer_19 : decode cX6_readsTransfer 19 = .ok (.aload_n 0, 1) := by decide +kernel
theorem dX6_readsTransfer_20 : decode cX6_readsTransfer 20 = .ok (.iconst 1, 1) := by decide +kernel
theorem dX6_readsTransfer_21 : decode cX6_readsTransfer 21 = .ok (.iconst 1, 1) := by decide +kernel
theorem dX6_readsTransfer_22 : decode cX6_readsTransfer 22 = .ok (.iconst 1, 1) := by decide +kernel
theorem dX6_readsTransfer_23 : decode cX6_readsTransfer 23 = .ok (.invokevirtual 108, 3) := by decide +kernel
theorem dX6_readsTransfer_26 : decode cX6_readsTransfer 26 = .ok (.ifCond .eq 45, 3) := by decide +kernel
theorem dX6_readsTransfer_29 : decode cX6_readsTransfer 29 = .ok (.aload_n 0, 1) := by decide +kernel
theorem dX6_readsTransfer_30 : decode cX6_readsTransfer 30 = .ok (.bipush 58, 2) := by decide +kernel
theorem dX6_readsTransfer_32 : decode cX6_readsTransfer 32 = .ok (.invokevirtual 112, 3) := by decide +kernel
theorem dX6_readsTransfer_35 : decode cX6_readsTransfer 35 = .ok (.ifCond .eq 36, 3) := by decide +kernel
theorem dX6_readsTransfer_38 : decode cX6_readsTransfer 38 = .ok (.aload_n 0, 1) := by decide +kernel
theorem dX6_readsTransfer_39 : decode cX6_readsTransfer 39 = .ok (.iconst 2, 1) := by decide +kernel
theorem dX6_readsTransfer_40 : decode cX6_readsTransfer 40 = .ok (.iconst 2, 1) := by decide +kernel
theorem dX6_readsTransfer_41 : decode cX6_readsTransfer 41 = .ok (.iconst 1, 1) := by decide +kernel
theorem dX6_readsTransfer_42 : decode cX6_readsTransfer 42 = .ok (.invokevirtual 108, 3) := by decide +kernel
theorem dX6_readsTransfer_45 : decode cX6_readsTransfer 45 = .ok (.ifCond .eq 26, 3) := by decide +kernel
theorem dX6_readsTransfer_48 : decode cX6_readsTransfer 48 = .ok (.aload_n 0, 1) := by decide +kernel
theorem dX6_readsTransfer_49 : decode cX6_readsTransfer 49 = .ok (.bipush 42, 2) := by decide +kernel
theorem dX6_readsTransfer_51 : decode cX6_readsTransfer 51 = .ok (.invokevirtual 112, 3) := by decide +kernel
theorem dX6_readsTransfer_54 : decode cX6_readsTransfer 54 = .ok (.ifCond .eq 17, 3) := by decide +kernel
theorem dX6_readsTransfer_57 : decode cX6_readsTransfer 57 = .ok (.aload_n 0, 1) := by decide +kernel
theorem dX6_readsTransfer_58 : decode cX6_readsTransfer 58 = .ok (.iconst 3, 1) := by decide +kernel
theorem dX6_readsTransfer_59 : decode cX6_readsTransfer 59 = .ok (.iconst 4, 1) := by decide +kernel
theorem dX6_readsTransfer_60 : decode cX6_readsTransfer 60 = .ok (.iconst 0, 1) := by decide +kernel
theorem dX6_readsTransfer_61 : decode cX6_readsTransfer 61 = .ok (.invokevirtual 108, 3) := by decide +kernel
theorem dX6_readsTransfer_64 : decode cX6_readsTransfer 64 = .ok (.ifCond .eq 7, 3) := by decide +kernel
theorem dX6_readsTransfer_67 : decode cX6_readsTransfer 67 = .ok (.iconst 1, 1) := by decide +kernel
theorem dX6_readsTransfer_68 : decode cX6_readsTransfer 68 = .ok (.goto 4, 3) := by decide +kernel
theorem dX6_readsTransfer_71 : decode cX6_readsTransfer 71 = .ok (.iconst 0, 1) := by decide +kernel
theorem dX6_readsTransfer_72 : decode cX6_readsTransfer 72 = .ok (.ireturn, 1) := by decide +kernel
theorem dX6_faultOf_0 : decode cX6_faultOf 0 = .ok (.aload_n 0, 1) := by decide +kernel
theorem dX6_faultOf_1 : decode cX6_faultOf 1 = .ok (.iconst 0, 1) := by decide +kernel
theorem dX6_faultOf_2 : decode cX6_faultOf 2 = .ok (.putfield 102, 3) := by decide +kernel
theorem dX6_faultOf_5 : decode cX6_faultOf 5 = .ok (.aload_n 0, 1) := by decide +kernel
theorem dX6_faultOf_6 : decode cX6_faultOf 6 = .ok (.invokevirtual 115, 3) := by decide +kernel
theorem dX6_faultOf_9 : decode cX6_faultOf 9 = .ok (.istore_n 1, 1) := by decide +kernel
theorem dX6_faultOf_10 : decode cX6_faultOf 10 = .ok (.iload_n 1, 1) := by decide +kernel
theorem dX6_faultOf_11 : decode cX6_faultOf 11 = .ok (.ifCond .eq 39, 3) := by decide +kernel
theorem dX6_faultOf_14 : decode cX6_faultOf 14 = .ok (.aload_n 0, 1) := by decide +kernel
theorem dX6_faultOf_15 : decode cX6_faultOf 15 = .ok (.getfield 102, 3) := by decide +kernel
theorem dX6_faultOf_18 : decode cX6_faultOf 18 = .ok (.aload_n 0, 1) := by decide +kernel
theorem dX6_faultOf_19 : decode cX6_faultOf 19 = .ok (.getfield 99, 3) := by decide +kernel
theorem dX6_faultOf_22 : decode cX6_faultOf 22 = .ok (.if_icmp .ge 28, 3) := by decide +kernel
theorem dX6_faultOf_25 : decode cX6_faultOf 25 = .ok (.aload_n 0, 1) := by decide +kernel
theorem dX6_faultOf_26 : decode cX6_faultOf 26 = .ok (.bipush 59, 2) := by decide +kernel
theorem dX6_faultOf_28 : decode cX6_faultOf 28 = .ok (.invokevirtual 112, 3) := by decide +kernel
theorem dX6_faultOf_31 : decode cX6_faultOf 31 = .ok (.ifCond .eq 14, 3) := by decide +kernel
theorem dX6_faultOf_34 : decode cX6_faultOf 34 = .ok (.aload_n 0, 1) := by decide +kernel
theorem dX6_faultOf_35 : decode cX6_faultOf 35 = .ok (.invokevirtual 115, 3) := by decide +kernel
theorem dX6_faultOf_38 : decode cX6_faultOf 38 = .ok (.ifCond .eq 7, 3) := by decide +kernel
theorem dX6_faultOf_41 : decode cX6_faultOf 41 = .ok (.iconst 1, 1) := by decide +kernel
theorem dX6_faultOf_42 : decode cX6_faultOf 42 = .ok (.goto 4, 3) := by decide +kernel
theorem dX6_faultOf_45 : decode cX6_faultOf 45 = .ok (.iconst 0, 1) := by decide +kernel
theorem dX6_faultOf_46 : decode cX6_faultOf 46 = .ok (.istore_n 1, 1) := by decide +kernel
theorem dX6_faultOf_47 : decode cX6_faultOf 47 = .ok (.goto (-37), 3) := by decide +kernel
theorem dX6_faultOf_50 : decode cX6_faultOf 50 = .ok (.iload_n 1, 1) := by decide +kernel
theorem dX6_faultOf_51 : decode cX6_faultOf 51 = .ok (.ifCond .eq 7, 3) := by decide +kernel
theorem dX6_faultOf_54 : decode cX6_faultOf 54 = .ok (.iconst (-1), 1) := by decide +kernel
theorem dX6_faultOf_55 : decode cX6_faultOf 55 = .ok (.goto 7, 3) := by decide +kernel
theorem dX6_faultOf_58 : decode cX6_faultOf 58 = .ok (.aload_n 0, 1) := by decide +kernel
theorem dX6_faultOf_59 : decode cX6_faultOf 59 = .ok (.getfield 102, 3) := by decide +kernel
theorem dX6_faultOf_62 : decode cX6_faultOf 62 = .ok (.ireturn, 1) := by decide +kernel
theorem dX6_transferOn_0 : decode cX6_transferOn 0 = .ok (.iconst 0, 1) := by decide +kernel
theorem dX6_transferOn_1 : decode cX6_transferOn 1 = .ok (.istore_n 1, 1) := by decide +kernel
theorem dX6_transferOn_2 : decode cX6_transferOn 2 = .ok (.aload_n 0, 1) := by decide +kernel
theorem dX6_transferOn_3 : decode cX6_transferOn 3 = .ok (.iconst 0, 1) := by decide +kernel
theorem dX6_transferOn_4 : decode cX6_transferOn 4 = .ok (.putfield 102, 3) := by decide +kernel
theorem dX6_transferOn_7 : decode cX6_transferOn 7 = .ok (.aload_n 0, 1) := by decide +kernel
theorem dX6_transferOn_8 : decode cX6_transferOn 8 = .ok (.getfield 102, 3) := by decide +kernel
theorem dX6_transferOn_11 : decode cX6_transferOn 11 = .ok (.aload_n 0, 1) := by decide +kernel
theorem dX6_transferOn_12 : decode cX6_transferOn 12 = .ok (.getfield 99, 3) := by decide +kernel
theorem dX6_transferOn_15 : decode cX6_transferOn 15 = .ok (.if_icmp .ge 104, 3) := by decide +kernel
theorem dX6_transferOn_18 : decode cX6_transferOn 18 = .ok (.aload_n 0, 1) := by decide +kernel
theorem dX6_transferOn_19 : decode cX6_transferOn 19 = .ok (.invokevirtual 115, 3) := by decide +kernel
theorem dX6_transferOn_22 : decode cX6_transferOn 22 = .ok (.pop, 1) := by decide +kernel
theorem dX6_transferOn_23 : decode cX6_transferOn 23 = .ok (.aload_n 0, 1) := by decide +kernel
theorem dX6_transferOn_24 : decode cX6_transferOn 24 = .ok (.getfield 22, 3) := by decide +kernel
theorem dX6_transferOn_27 : decode cX6_transferOn 27 = .ok (.iconst 2, 1) := by decide +kernel
theorem dX6_transferOn_28 : decode cX6_transferOn 28 = .ok (.iaload, 1) := by decide +kernel
theorem dX6_transferOn_29 : decode cX6_transferOn 29 = .ok (.istore_n 2, 1) := by decide +kernel
theorem dX6_transferOn_30 : decode cX6_transferOn 30 = .ok (.aload_n 0, 1) := by decide +kernel
theorem dX6_transferOn_31 : decode cX6_transferOn 31 = .ok (.aload_n 0, 1) := by decide +kernel
theorem dX6_transferOn_32 : decode cX6_transferOn 32 = .ok (.getfield 22, 3) := by decide +kernel
theorem dX6_transferOn_35 : decode cX6_transferOn 35 = .ok (.iconst 0, 1) := by decide +kernel
theorem dX6_transferOn_36 : decode cX6_transferOn 36 = .ok (.iaload, 1) := by decide +kernel
theorem dX6_transferOn_37 : decode cX6_transferOn 37 = .ok (.aload_n 0, 1) := by decide +kernel
theorem dX6_transferOn_38 : decode cX6_transferOn 38 = .ok (.getfield 22, 3) := by decide +kernel
theorem dX6_transferOn_41 : decode cX6_transferOn 41 = .ok (.iconst 1, 1) := by decide +kernel
theorem dX6_transferOn_42 : decode cX6_transferOn 42 = .ok (.iaload, 1) := by decide +kernel
theorem dX6_transferOn_43 : decode cX6_transferOn 43 = .ok (.iload_n 2, 1) := by decide +kernel
theorem dX6_transferOn_44 : decode cX6_transferOn 44 = .ok (.invokestatic 63, 3) := by decide +kernel
theorem dX6_transferOn_47 : decode cX6_transferOn 47 = .ok (.iload_n 2, 1) := by decide +kernel
theorem dX6_transferOn_48 : decode cX6_transferOn 48 = .ok (.invokestatic 63, 3) := by decide +kernel
theorem dX6_transferOn_51 : decode cX6_transferOn 51 = .ok (.ifCond .eq 9, 3) := by decide +kernel
theorem dX6_transferOn_54 : decode cX6_transferOn 54 = .ok (.iconst 0, 1) := by decide +kernel
theorem dX6_transferOn_55 : decode cX6_transferOn 55 = .ok (.iload_n 2, 1) := by decide +kernel
theorem dX6_transferOn_56 : decode cX6_transferOn 56 = .ok (.iadd, 1) := by decide +kernel
theorem dX6_transferOn_57 : decode cX6_transferOn 57 = .ok (.goto 4, 3) := by decide +kernel
theorem dX6_transferOn_60 : decode cX6_transferOn 60 = .ok (.iconst 0, 1) := by decide +kernel
theorem dX6_transferOn_61 : decode cX6_transferOn 61 = .ok (.aload_n 0, 1) := by decide +kernel
theorem dX6_transferOn_62 : decode cX6_transferOn 62 = .ok (.getfield 22, 3) := by decide +kernel
theorem dX6_transferOn_65 : decode cX6_transferOn 65 = .ok (.iconst 3, 1) := by decide +kernel
theorem dX6_transferOn_66 : decode cX6_transferOn 66 = .ok (.iaload, 1) := by decide +kernel
theorem dX6_transferOn_67 : decode cX6_transferOn 67 = .ok (.invokevirtual 66, 3) := by decide +kernel
theorem dX6_transferOn_70 : decode cX6_transferOn 70 = .ok (.istore_n 3, 1) := by decide +kernel
theorem dX6_transferOn_71 : decode cX6_transferOn 71 = .ok (.iload_n 3, 1) := by decide +kernel
theorem dX6_transferOn_72 : decode cX6_transferOn 72 = .ok (.ifCond .eq 5, 3) := by decide +kernel
theorem dX6_transferOn_75 : decode cX6_transferOn 75 = .ok (.iload_n 3, 1) := by decide +kernel
theorem dX6_transferOn_76 : decode cX6_transferOn 76 = .ok (.ireturn, 1) := by decide +kernel
theorem dX6_transferOn_77 : decode cX6_transferOn 77 = .ok (.aload_n 0, 1) := by decide +kernel
theorem dX6_transferOn_78 : decode cX6_transferOn 78 = .ok (.aload_n 0, 1) := by decide +kernel
theorem dX6_transferOn_79 : decode cX6_transferOn 79 = .ok (.getfield 22, 3) := by decide +kernel
theorem dX6_transferOn_82 : decode cX6_transferOn 82 = .ok (.iconst 0, 1) := by decide +kernel
theorem dX6_transferOn_83 : decode cX6_transferOn 83 = .ok (.iaload, 1) := by decide +kernel
theorem dX6_transferOn_84 : decode cX6_transferOn 84 = .ok (.aload_n 0, 1) := by decide +kernel
theorem dX6_transferOn_85 : decode cX6_transferOn 85 = .ok (.getfield 22, 3) := by decide +kernel
theorem dX6_transferOn_88 : decode cX6_transferOn 88 = .ok (.iconst 1, 1) := by decide +kernel
theorem dX6_transferOn_89 : decode cX6_transferOn 89 = .ok (.iaload, 1) := by decide +kernel
theorem dX6_transferOn_90 : decode cX6_transferOn 90 = .ok (.iconst 0, 1) := by decide +kernel
theorem dX6_transferOn_91 : decode cX6_transferOn 91 = .ok (.iload_n 2, 1) := by decide +kernel
theorem dX6_transferOn_92 : decode cX6_transferOn 92 = .ok (.iadd, 1) := by decide +kernel
theorem dX6_transferOn_93 : decode cX6_transferOn 93 = .ok (.aload_n 0, 1) := by decide +kernel
theorem dX6_transferOn_94 : decode cX6_transferOn 94 = .ok (.getfield 22, 3) := by decide +kernel
theorem dX6_transferOn_97 : decode cX6_transferOn 97 = .ok (.iconst 3, 1) := by decide +kernel
theorem dX6_transferOn_98 : decode cX6_transferOn 98 = .ok (.iaload, 1) := by decide +kernel
theorem dX6_transferOn_99 : decode cX6_transferOn 99 = .ok (.invokevirtual 70, 3) := by decide +kernel
theorem dX6_transferOn_102 : decode cX6_transferOn 102 = .ok (.pop, 1) := by decide +kernel
theorem dX6_transferOn_103 : decode cX6_transferOn 103 = .ok (.iinc 1 1, 3) := by decide +kernel
theorem dX6_transferOn_106 : decode cX6_transferOn 106 = .ok (.aload_n 0, 1) := by decide +kernel
theorem dX6_transferOn_107 : decode cX6_transferOn 107 = .ok (.dup, 1) := by decide +kernel
theorem dX6_transferOn_108 : decode cX6_transferOn 108 = .ok (.getfield 102, 3) := by decide +kernel
theorem dX6_transferOn_111 : decode cX6_transferOn 111 = .ok (.iconst 1, 1) := by decide +kernel
theorem dX6_transferOn_112 : decode cX6_transferOn 112 = .ok (.iadd, 1) := by decide +kernel
theorem dX6_transferOn_113 : decode cX6_transferOn 113 = .ok (.putfield 102, 3) := by decide +kernel
theorem dX6_transferOn_116 : decode cX6_transferOn 116 = .ok (.goto (-109), 3) := by decide +kernel
theorem dX6_transferOn_119 : decode cX6_transferOn 119 = .ok (.iload_n 1, 1) := by decide +kernel
theorem dX6_transferOn_120 : decode cX6_transferOn 120 = .ok (.ireturn, 1) := by decide +kernel
theorem dX6_readTransfers_0 : decode cX6_readTransfers 0 = .ok (.aload_n 0, 1) := by decide +kernel
theorem dX6_readTransfers_1 : decode cX6_readTransfers 1 = .ok (.invokevirtual 119, 3) := by decide +kernel
theorem dX6_readTransfers_4 : decode cX6_readTransfers 4 = .ok (.istore_n 1, 1) := by decide +kernel
theorem dX6_readTransfers_5 : decode cX6_readTransfers 5 = .ok (.iload_n 1, 1) := by decide +kernel
theorem dX6_readTransfers_6 : decode cX6_readTransfers 6 = .ok (.ifCond .lt 8, 3) := by decide +kernel
theorem dX6_readTransfers_9 : decode cX6_readTransfers 9 = .ok (.bipush (-100), 2) := by decide +kernel
theorem dX6_readTransfers_11 : decode cX6_readTransfers 11 = .ok (.iload_n 1, 1) := by decide +kernel
theorem dX6_readTransfers_12 : decode cX6_readTransfers 12 = .ok (.isub, 1) := by decide +kernel
theorem dX6_readTransfers_13 : decode cX6_readTransfers 13 = .ok (.ireturn, 1) := by decide +kernel
theorem dX6_readTransfers_14 : decode cX6_readTransfers 14 = .ok (.aload_n 0, 1) := by decide +kernel
theorem dX6_readTransfers_15 : decode cX6_readTransfers 15 = .ok (.iconst 0, 1) := by decide +kernel
theorem dX6_readTransfers_16 : decode cX6_readTransfers 16 = .ok (.sipush 2094, 3) := by decide +kernel
theorem dX6_readTransfers_19 : decode cX6_readTransfers 19 = .ok (.invokevirtual 33, 3) := by decide +kernel
theorem dX6_readTransfers_22 : decode cX6_readTransfers 22 = .ok (.aload_n 0, 1) := by decide +kernel
theorem dX6_readTransfers_23 : decode cX6_readTransfers 23 = .ok (.invokevirtual 122, 3) := by decide +kernel
theorem dX6_readTransfers_26 : decode cX6_readTransfers 26 = .ok (.istore_n 2, 1) := by decide +kernel
theorem dX6_readTransfers_27 : decode cX6_readTransfers 27 = .ok (.iload_n 2, 1) := by decide +kernel
theorem dX6_readTransfers_28 : decode cX6_readTransfers 28 = .ok (.ifCond .ge 14, 3) := by decide +kernel
theorem dX6_readTransfers_31 : decode cX6_readTransfers 31 = .ok (.aload_n 0, 1) := by decide +kernel
theorem dX6_readTransfers_32 : decode cX6_readTransfers 32 = .ok (.sipush 2094, 3) := by decide +kernel
theorem dX6_readTransfers_35 : decode cX6_readTransfers 35 = .ok (.iconst 0, 1) := by decide +kernel
theorem dX6_readTransfers_36 : decode cX6_readTransfers 36 = .ok (.invokevirtual 33, 3) := by decide +kernel
theorem dX6_readTransfers_39 : decode cX6_readTransfers 39 = .ok (.goto 10, 3) := by decide +kernel
theorem dX6_readTransfers_42 : decode cX6_readTransfers 42 = .ok (.aload_n 0, 1) := by decide +kernel
theorem dX6_readTransfers_43 : decode cX6_readTransfers 43 = .ok (.sipush 2094, 3) := by decide +kernel
theorem dX6_readTransfers_46 : decode cX6_readTransfers 46 = .ok (.invokevirtual 41, 3) := by decide +kernel
theorem dX6_readTransfers_49 : decode cX6_readTransfers 49 = .ok (.iload_n 2, 1) := by decide +kernel
theorem dX6_readTransfers_50 : decode cX6_readTransfers 50 = .ok (.ireturn, 1) := by decide +kernel
theorem dX6_heldBy_0 : decode cX6_heldBy 0 = .ok (.iconst 0, 1) := by decide +kernel
theorem dX6_heldBy_1 : decode cX6_heldBy 1 = .ok (.istore_n 2, 1) := by decide +kernel
theorem dX6_heldBy_2 : decode cX6_heldBy 2 = .ok (.iconst 0, 1) := by decide +kernel
theorem dX6_heldBy_3 : decode cX6_heldBy 3 = .ok (.istore_n 3, 1) := by decide +kernel
theorem dX6_heldBy_4 : decode cX6_heldBy 4 = .ok (.iload_n 3, 1) := by decide +kernel
theorem dX6_heldBy_5 : decode cX6_heldBy 5 = .ok (.bipush 20, 2) := by decide +kernel
theorem dX6_heldBy_7 : decode cX6_heldBy 7 = .ok (.if_icmp .ge 24, 3) := by decide +kernel
theorem dX6_heldBy_10 : decode cX6_heldBy 10 = .ok (.iload_n 2, 1) := by decide +kernel
theorem dX6_heldBy_11 : decode cX6_heldBy 11 = .ok (.aload_n 0, 1) := by decide +kernel
theorem dX6_heldBy_12 : decode cX6_heldBy 12 = .ok (.getfield 7, 3) := by decide +kernel
theorem dX6_heldBy_15 : decode cX6_heldBy 15 = .ok (.iload_n 1, 1) := by decide +kernel
theorem dX6_heldBy_16 : decode cX6_heldBy 16 = .ok (.iconst 0, 1) := by decide +kernel
theorem dX6_heldBy_17 : decode cX6_heldBy 17 = .ok (.iload_n 3, 1) := by decide +kernel
end
section
theorem dX6_heldBy_18 : decode cX6_heldBy 18 = .ok (.iadd, 1) := by decide +kernel
theorem dX6_heldBy_19 : decode cX6_heldBy 19 = .ok (.invokestatic 45, 3) := by decide +kernel
theorem dX6_heldBy_22 : decode cX6_heldBy 22 = .ok (.iaload, 1) := by decide +kernel
theorem dX6_heldBy_23 : decode cX6_heldBy 23 = .ok (.iadd, 1) := by decide +kernel
theorem dX6_heldBy_24 : decode cX6_heldBy 24 = .ok (.istore_n 2, 1) := by decide +kernel
theorem dX6_heldBy_25 : decode cX6_heldBy 25 = .ok (.iinc 3 1, 3) := by decide +kernel
theorem dX6_heldBy_28 : decode cX6_heldBy 28 = .ok (.goto (-24), 3) := by decide +kernel
theorem dX6_heldBy_31 : decode cX6_heldBy 31 = .ok (.iload_n 2, 1) := by decide +kernel
theorem dX6_heldBy_32 : decode cX6_heldBy 32 = .ok (.ireturn, 1) := by decide +kernel
theorem dX6_vintagesOf_0 : decode cX6_vintagesOf 0 = .ok (.iconst 0, 1) := by decide +kernel
theorem dX6_vintagesOf_1 : decode cX6_vintagesOf 1 = .ok (.istore_n 2, 1) := by decide +kernel
theorem dX6_vintagesOf_2 : decode cX6_vintagesOf 2 = .ok (.iconst 0, 1) := by decide +kernel
theorem dX6_vintagesOf_3 : decode cX6_vintagesOf 3 = .ok (.istore_n 3, 1) := by decide +kernel
theorem dX6_vintagesOf_4 : decode cX6_vintagesOf 4 = .ok (.iload_n 3, 1) := by decide +kernel
theorem dX6_vintagesOf_5 : decode cX6_vintagesOf 5 = .ok (.bipush 20, 2) := by decide +kernel
theorem dX6_vintagesOf_7 : decode cX6_vintagesOf 7 = .ok (.if_icmp .ge 32, 3) := by decide +kernel
theorem dX6_vintagesOf_10 : decode cX6_vintagesOf 10 = .ok (.iload_n 2, 1) := by decide +kernel
theorem dX6_vintagesOf_11 : decode cX6_vintagesOf 11 = .ok (.aload_n 0, 1) := by decide +kernel
theorem dX6_vintagesOf_12 : decode cX6_vintagesOf 12 = .ok (.getfield 7, 3) := by decide +kernel
theorem dX6_vintagesOf_15 : decode cX6_vintagesOf 15 = .ok (.iload_n 1, 1) := by decide +kernel
theorem dX6_vintagesOf_16 : decode cX6_vintagesOf 16 = .ok (.iconst 0, 1) := by decide +kernel
theorem dX6_vintagesOf_17 : decode cX6_vintagesOf 17 = .ok (.iload_n 3, 1) := by decide +kernel
theorem dX6_vintagesOf_18 : decode cX6_vintagesOf 18 = .ok (.iadd, 1) := by decide +kernel
theorem dX6_vintagesOf_19 : decode cX6_vintagesOf 19 = .ok (.invokestatic 45, 3) := by decide +kernel
theorem dX6_vintagesOf_22 : decode cX6_vintagesOf 22 = .ok (.iaload, 1) := by decide +kernel
theorem dX6_vintagesOf_23 : decode cX6_vintagesOf 23 = .ok (.ifCond .le 7, 3) := by decide +kernel
theorem dX6_vintagesOf_26 : decode cX6_vintagesOf 26 = .ok (.iconst 1, 1) := by decide +kernel
theorem dX6_vintagesOf_27 : decode cX6_vintagesOf 27 = .ok (.goto 4, 3) := by decide +kernel
theorem dX6_vintagesOf_30 : decode cX6_vintagesOf 30 = .ok (.iconst 0, 1) := by decide +kernel
theorem dX6_vintagesOf_31 : decode cX6_vintagesOf 31 = .ok (.iadd, 1) := by decide +kernel
theorem dX6_vintagesOf_32 : decode cX6_vintagesOf 32 = .ok (.istore_n 2, 1) := by decide +kernel
theorem dX6_vintagesOf_33 : decode cX6_vintagesOf 33 = .ok (.iinc 3 1, 3) := by decide +kernel
theorem dX6_vintagesOf_36 : decode cX6_vintagesOf 36 = .ok (.goto (-32), 3) := by decide +kernel
theorem dX6_vintagesOf_39 : decode cX6_vintagesOf 39 = .ok (.iload_n 2, 1) := by decide +kernel
theorem dX6_vintagesOf_40 : decode cX6_vintagesOf 40 = .ok (.ireturn, 1) := by decide +kernel
theorem dX6_extreme_0 : decode cX6_extreme 0 = .ok (.bipush (-5), 2) := by decide +kernel
theorem dX6_extreme_2 : decode cX6_extreme 2 = .ok (.istore_n 3, 1) := by decide +kernel
theorem dX6_extreme_3 : decode cX6_extreme 3 = .ok (.iconst 0, 1) := by decide +kernel
theorem dX6_extreme_4 : decode cX6_extreme 4 = .ok (.istore 4, 2) := by decide +kernel
theorem dX6_extreme_6 : decode cX6_extreme 6 = .ok (.iload 4, 2) := by decide +kernel
theorem dX6_extreme_8 : decode cX6_extreme 8 = .ok (.bipush 20, 2) := by decide +kernel
theorem dX6_extreme_10 : decode cX6_extreme 10 = .ok (.if_icmp .ge 42, 3) := by decide +kernel
theorem dX6_extreme_13 : decode cX6_extreme 13 = .ok (.aload_n 0, 1) := by decide +kernel
theorem dX6_extreme_14 : decode cX6_extreme 14 = .ok (.getfield 7, 3) := by decide +kernel
theorem dX6_extreme_17 : decode cX6_extreme 17 = .ok (.iload_n 1, 1) := by decide +kernel
theorem dX6_extreme_18 : decode cX6_extreme 18 = .ok (.iconst 0, 1) := by decide +kernel
theorem dX6_extreme_19 : decode cX6_extreme 19 = .ok (.iload 4, 2) := by decide +kernel
theorem dX6_extreme_21 : decode cX6_extreme 21 = .ok (.iadd, 1) := by decide +kernel
theorem dX6_extreme_22 : decode cX6_extreme 22 = .ok (.invokestatic 45, 3) := by decide +kernel
theorem dX6_extreme_25 : decode cX6_extreme 25 = .ok (.iaload, 1) := by decide +kernel
theorem dX6_extreme_26 : decode cX6_extreme 26 = .ok (.ifCond .le 18, 3) := by decide +kernel
theorem dX6_extreme_29 : decode cX6_extreme 29 = .ok (.iload_n 2, 1) := by decide +kernel
theorem dX6_extreme_30 : decode cX6_extreme 30 = .ok (.ifCond .ne 9, 3) := by decide +kernel
theorem dX6_extreme_33 : decode cX6_extreme 33 = .ok (.iload_n 3, 1) := by decide +kernel
theorem dX6_extreme_34 : decode cX6_extreme 34 = .ok (.bipush (-5), 2) := by decide +kernel
theorem dX6_extreme_36 : decode cX6_extreme 36 = .ok (.if_icmp .ne 8, 3) := by decide +kernel
theorem dX6_extreme_39 : decode cX6_extreme 39 = .ok (.iload 4, 2) := by decide +kernel
theorem dX6_extreme_41 : decode cX6_extreme 41 = .ok (.goto 4, 3) := by decide +kernel
theorem dX6_extreme_44 : decode cX6_extreme 44 = .ok (.iload_n 3, 1) := by decide +kernel
theorem dX6_extreme_45 : decode cX6_extreme 45 = .ok (.istore_n 3, 1) := by decide +kernel
theorem dX6_extreme_46 : decode cX6_extreme 46 = .ok (.iinc 4 1, 3) := by decide +kernel
theorem dX6_extreme_49 : decode cX6_extreme 49 = .ok (.goto (-43), 3) := by decide +kernel
theorem dX6_extreme_52 : decode cX6_extreme 52 = .ok (.iload_n 3, 1) := by decide +kernel
theorem dX6_extreme_53 : decode cX6_extreme 53 = .ok (.ireturn, 1) := by decide +kernel
theorem dX6_stillDue_0 : decode cX6_stillDue 0 = .ok (.aload_n 0, 1) := by decide +kernel
theorem dX6_stillDue_1 : decode cX6_stillDue 1 = .ok (.iload_n 1, 1) := by decide +kernel
theorem dX6_stillDue_2 : decode cX6_stillDue 2 = .ok (.invokevirtual 125, 3) := by decide +kernel
theorem dX6_stillDue_5 : decode cX6_stillDue 5 = .ok (.istore_n 2, 1) := by decide +kernel
theorem dX6_stillDue_6 : decode cX6_stillDue 6 = .ok (.iconst 0, 1) := by decide +kernel
theorem dX6_stillDue_7 : decode cX6_stillDue 7 = .ok (.istore_n 3, 1) := by decide +kernel
theorem dX6_stillDue_8 : decode cX6_stillDue 8 = .ok (.iload_n 3, 1) := by decide +kernel
theorem dX6_stillDue_9 : decode cX6_stillDue 9 = .ok (.iconst 3, 1) := by decide +kernel
theorem dX6_stillDue_10 : decode cX6_stillDue 10 = .ok (.if_icmp .ge 34, 3) := by decide +kernel
theorem dX6_stillDue_13 : decode cX6_stillDue 13 = .ok (.iload_n 2, 1) := by decide +kernel
theorem dX6_stillDue_14 : decode cX6_stillDue 14 = .ok (.aload_n 0, 1) := by decide +kernel
theorem dX6_stillDue_15 : decode cX6_stillDue 15 = .ok (.getfield 7, 3) := by decide +kernel
theorem dX6_stillDue_18 : decode cX6_stillDue 18 = .ok (.iload_n 1, 1) := by decide +kernel
theorem dX6_stillDue_19 : decode cX6_stillDue 19 = .ok (.bipush 20, 2) := by decide +kernel
theorem dX6_stillDue_21 : decode cX6_stillDue 21 = .ok (.iload_n 3, 1) := by decide +kernel
theorem dX6_stillDue_22 : decode cX6_stillDue 22 = .ok (.iadd, 1) := by decide +kernel
theorem dX6_stillDue_23 : decode cX6_stillDue 23 = .ok (.invokestatic 45, 3) := by decide +kernel
theorem dX6_stillDue_26 : decode cX6_stillDue 26 = .ok (.iaload, 1) := by decide +kernel
theorem dX6_stillDue_27 : decode cX6_stillDue 27 = .ok (.aload_n 0, 1) := by decide +kernel
theorem dX6_stillDue_28 : decode cX6_stillDue 28 = .ok (.iload_n 1, 1) := by decide +kernel
theorem dX6_stillDue_29 : decode cX6_stillDue 29 = .ok (.iload_n 3, 1) := by decide +kernel
theorem dX6_stillDue_30 : decode cX6_stillDue 30 = .ok (.invokevirtual 83, 3) := by decide +kernel
theorem dX6_stillDue_33 : decode cX6_stillDue 33 = .ok (.invokestatic 77, 3) := by decide +kernel
theorem dX6_stillDue_36 : decode cX6_stillDue 36 = .ok (.iadd, 1) := by decide +kernel
theorem dX6_stillDue_37 : decode cX6_stillDue 37 = .ok (.istore_n 2, 1) := by decide +kernel
theorem dX6_stillDue_38 : decode cX6_stillDue 38 = .ok (.iinc 3 1, 3) := by decide +kernel
theorem dX6_stillDue_41 : decode cX6_stillDue 41 = .ok (.goto (-33), 3) := by decide +kernel
theorem dX6_stillDue_44 : decode cX6_stillDue 44 = .ok (.iload_n 2, 1) := by decide +kernel
theorem dX6_stillDue_45 : decode cX6_stillDue 45 = .ok (.aload_n 0, 1) := by decide +kernel
theorem dX6_stillDue_46 : decode cX6_stillDue 46 = .ok (.getfield 7, 3) := by decide +kernel
theorem dX6_stillDue_49 : decode cX6_stillDue 49 = .ok (.iload_n 1, 1) := by decide +kernel
theorem dX6_stillDue_50 : decode cX6_stillDue 50 = .ok (.bipush 29, 2) := by decide +kernel
theorem dX6_stillDue_52 : decode cX6_stillDue 52 = .ok (.invokestatic 45, 3) := by decide +kernel
theorem dX6_stillDue_55 : decode cX6_stillDue 55 = .ok (.iaload, 1) := by decide +kernel
theorem dX6_stillDue_56 : decode cX6_stillDue 56 = .ok (.if_icmp .ge 19, 3) := by decide +kernel
theorem dX6_stillDue_59 : decode cX6_stillDue 59 = .ok (.aload_n 0, 1) := by decide +kernel
theorem dX6_stillDue_60 : decode cX6_stillDue 60 = .ok (.getfield 7, 3) := by decide +kernel
theorem dX6_stillDue_63 : decode cX6_stillDue 63 = .ok (.iload_n 1, 1) := by decide +kernel
theorem dX6_stillDue_64 : decode cX6_stillDue 64 = .ok (.bipush 29, 2) := by decide +kernel
theorem dX6_stillDue_66 : decode cX6_stillDue 66 = .ok (.invokestatic 45, 3) := by decide +kernel
theorem dX6_stillDue_69 : decode cX6_stillDue 69 = .ok (.iaload, 1) := by decide +kernel
theorem dX6_stillDue_70 : decode cX6_stillDue 70 = .ok (.iload_n 2, 1) := by decide +kernel
theorem dX6_stillDue_71 : decode cX6_stillDue 71 = .ok (.isub, 1) := by decide +kernel
theorem dX6_stillDue_72 : decode cX6_stillDue 72 = .ok (.goto 4, 3) := by decide +kernel
theorem dX6_stillDue_75 : decode cX6_stillDue 75 = .ok (.iconst 0, 1) := by decide +kernel
theorem dX6_stillDue_76 : decode cX6_stillDue 76 = .ok (.ireturn, 1) := by decide +kernel
theorem dX6_firm_0 : decode cX6_firm 0 = .ok (.aload_n 0, 1) := by decide +kernel
theorem dX6_firm_1 : decode cX6_firm 1 = .ok (.iload_n 1, 1) := by decide +kernel
theorem dX6_firm_2 : decode cX6_firm 2 = .ok (.invokevirtual 49, 3) := by decide +kernel
theorem dX6_firm_5 : decode cX6_firm 5 = .ok (.ifCond .ne 5, 3) := by decide +kernel
theorem dX6_firm_8 : decode cX6_firm 8 = .ok (.iconst (-1), 1) := by decide +kernel
theorem dX6_firm_9 : decode cX6_firm 9 = .ok (.ireturn, 1) := by decide +kernel
theorem dX6_firm_10 : decode cX6_firm 10 = .ok (.iload_n 2, 1) := by decide +kernel
theorem dX6_firm_11 : decode cX6_firm 11 = .ok (.tableswitch 107 0 10 #[57, 63, 69, 69, 85, 85, 85, 85, 85, 85, 101], 57) := by decide +kernel
theorem dX6_firm_68 : decode cX6_firm 68 = .ok (.aload_n 0, 1) := by decide +kernel
theorem dX6_firm_69 : decode cX6_firm 69 = .ok (.iload_n 1, 1) := by decide +kernel
theorem dX6_firm_70 : decode cX6_firm 70 = .ok (.invokevirtual 125, 3) := by decide +kernel
theorem dX6_firm_73 : decode cX6_firm 73 = .ok (.ireturn, 1) := by decide +kernel
theorem dX6_firm_74 : decode cX6_firm 74 = .ok (.aload_n 0, 1) := by decide +kernel
theorem dX6_firm_75 : decode cX6_firm 75 = .ok (.iload_n 1, 1) := by decide +kernel
theorem dX6_firm_76 : decode cX6_firm 76 = .ok (.invokevirtual 129, 3) := by decide +kernel
theorem dX6_firm_79 : decode cX6_firm 79 = .ok (.ireturn, 1) := by decide +kernel
theorem dX6_firm_80 : decode cX6_firm 80 = .ok (.aload_n 0, 1) := by decide +kernel
theorem dX6_firm_81 : decode cX6_firm 81 = .ok (.iload_n 1, 1) := by decide +kernel
theorem dX6_firm_82 : decode cX6_firm 82 = .ok (.iload_n 2, 1) := by decide +kernel
theorem dX6_firm_83 : decode cX6_firm 83 = .ok (.iconst 3, 1) := by decide +kernel
theorem dX6_firm_84 : decode cX6_firm 84 = .ok (.if_icmp .ne 7, 3) := by decide +kernel
theorem dX6_firm_87 : decode cX6_firm 87 = .ok (.iconst 1, 1) := by decide +kernel
theorem dX6_firm_88 : decode cX6_firm 88 = .ok (.goto 4, 3) := by decide +kernel
theorem dX6_firm_91 : decode cX6_firm 91 = .ok (.iconst 0, 1) := by decide +kernel
theorem dX6_firm_92 : decode cX6_firm 92 = .ok (.invokevirtual 132, 3) := by decide +kernel
theorem dX6_firm_95 : decode cX6_firm 95 = .ok (.ireturn, 1) := by decide +kernel
theorem dX6_firm_96 : decode cX6_firm 96 = .ok (.aload_n 0, 1) := by decide +kernel
theorem dX6_firm_97 : decode cX6_firm 97 = .ok (.getfield 7, 3) := by decide +kernel
theorem dX6_firm_100 : decode cX6_firm 100 = .ok (.iload_n 1, 1) := by decide +kernel
theorem dX6_firm_101 : decode cX6_firm 101 = .ok (.bipush 26, 2) := by decide +kernel
theorem dX6_firm_103 : decode cX6_firm 103 = .ok (.iload_n 2, 1) := by decide +kernel
theorem dX6_firm_104 : decode cX6_firm 104 = .ok (.iadd, 1) := by decide +kernel
theorem dX6_firm_105 : decode cX6_firm 105 = .ok (.iconst 4, 1) := by decide +kernel
theorem dX6_firm_106 : decode cX6_firm 106 = .ok (.isub, 1) := by decide +kernel
theorem dX6_firm_107 : decode cX6_firm 107 = .ok (.invokestatic 45, 3) := by decide +kernel
theorem dX6_firm_110 : decode cX6_firm 110 = .ok (.iaload, 1) := by decide +kernel
theorem dX6_firm_111 : decode cX6_firm 111 = .ok (.ireturn, 1) := by decide +kernel
theorem dX6_firm_112 : decode cX6_firm 112 = .ok (.aload_n 0, 1) := by decide +kernel
theorem dX6_firm_113 : decode cX6_firm 113 = .ok (.iload_n 1, 1) := by decide +kernel
theorem dX6_firm_114 : decode cX6_firm 114 = .ok (.invokevirtual 136, 3) := by decide +kernel
theorem dX6_firm_117 : decode cX6_firm 117 = .ok (.ireturn, 1) := by decide +kernel
theorem dX6_firm_118 : decode cX6_firm 118 = .ok (.bipush (-2), 2) := by decide +kernel
theorem dX6_firm_120 : decode cX6_firm 120 = .ok (.ireturn, 1) := by decide +kernel
theorem dX6_holds_0 : decode cX6_holds 0 = .ok (.aload_n 0, 1) := by decide +kernel
theorem dX6_holds_1 : decode cX6_holds 1 = .ok (.iload_n 1, 1) := by decide +kernel
theorem dX6_holds_2 : decode cX6_holds 2 = .ok (.invokevirtual 49, 3) := by decide +kernel
theorem dX6_holds_5 : decode cX6_holds 5 = .ok (.ifCond .eq 25, 3) := by decide +kernel
theorem dX6_holds_8 : decode cX6_holds 8 = .ok (.iload_n 2, 1) := by decide +kernel
theorem dX6_holds_9 : decode cX6_holds 9 = .ok (.invokestatic 63, 3) := by decide +kernel
theorem dX6_holds_12 : decode cX6_holds 12 = .ok (.ifCond .eq 18, 3) := by decide +kernel
theorem dX6_holds_15 : decode cX6_holds 15 = .ok (.aload_n 0, 1) := by decide +kernel
theorem dX6_holds_16 : decode cX6_holds 16 = .ok (.getfield 7, 3) := by decide +kernel
theorem dX6_holds_19 : decode cX6_holds 19 = .ok (.iload_n 1, 1) := by decide +kernel
theorem dX6_holds_20 : decode cX6_holds 20 = .ok (.iconst 0, 1) := by decide +kernel
theorem dX6_holds_21 : decode cX6_holds 21 = .ok (.iload_n 2, 1) := by decide +kernel
theorem dX6_holds_22 : decode cX6_holds 22 = .ok (.iadd, 1) := by decide +kernel
theorem dX6_holds_23 : decode cX6_holds 23 = .ok (.invokestatic 45, 3) := by decide +kernel
theorem dX6_holds_26 : decode cX6_holds 26 = .ok (.iaload, 1) := by decide +kernel
theorem dX6_holds_27 : decode cX6_holds 27 = .ok (.goto 4, 3) := by decide +kernel
theorem dX6_holds_30 : decode cX6_holds 30 = .ok (.iconst (-1), 1) := by decide +kernel
theorem dX6_holds_31 : decode cX6_holds 31 = .ok (.ireturn, 1) := by decide +kernel
theorem dX6_offsets_0 : decode cX6_offsets 0 = .ok (.aload_n 0, 1) := by decide +kernel
theorem dX6_offsets_1 : decode cX6_offsets 1 = .ok (.iload_n 1, 1) := by decide +kernel
theorem dX6_offsets_2 : decode cX6_offsets 2 = .ok (.invokevirtual 49, 3) := by decide +kernel
theorem dX6_offsets_5 : decode cX6_offsets 5 = .ok (.ifCond .eq 10, 3) := by decide +kernel
theorem dX6_offsets_8 : decode cX6_offsets 8 = .ok (.iload_n 2, 1) := by decide +kernel
theorem dX6_offsets_9 : decode cX6_offsets 9 = .ok (.invokestatic 60, 3) := by decide +kernel
theorem dX6_offsets_12 : decode cX6_offsets 12 = .ok (.ifCond .ne 5, 3) := by decide +kernel
theorem dX6_offsets_15 : decode cX6_offsets 15 = .ok (.iconst (-1), 1) := by decide +kernel
theorem dX6_offsets_16 : decode cX6_offsets 16 = .ok (.ireturn, 1) := by decide +kernel
theorem dX6_offsets_17 : decode cX6_offsets 17 = .ok (.iload_n 3, 1) := by decide +kernel
theorem dX6_offsets_18 : decode cX6_offsets 18 = .ok (.ifCond .ne 19, 3) := by decide +kernel
theorem dX6_offsets_21 : decode cX6_offsets 21 = .ok (.aload_n 0, 1) := by decide +kernel
theorem dX6_offsets_22 : decode cX6_offsets 22 = .ok (.getfield 7, 3) := by decide +kernel
theorem dX6_offsets_25 : decode cX6_offsets 25 = .ok (.iload_n 1, 1) := by decide +kernel
theorem dX6_offsets_26 : decode cX6_offsets 26 = .ok (.bipush 20, 2) := by decide +kernel
theorem dX6_offsets_28 : decode cX6_offsets 28 = .ok (.iload_n 2, 1) := by decide +kernel
theorem dX6_offsets_29 : decode cX6_offsets 29 = .ok (.iadd, 1) := by decide +kernel
theorem dX6_offsets_30 : decode cX6_offsets 30 = .ok (.invokestatic 45, 3) := by decide +kernel
theorem dX6_offsets_33 : decode cX6_offsets 33 = .ok (.iaload, 1) := by decide +kernel
theorem dX6_offsets_34 : decode cX6_offsets 34 = .ok (.goto 40, 3) := by decide +kernel
theorem dX6_offsets_37 : decode cX6_offsets 37 = .ok (.iload_n 3, 1) := by decide +kernel
theorem dX6_offsets_38 : decode cX6_offsets 38 = .ok (.iconst 1, 1) := by decide +kernel
theorem dX6_offsets_39 : decode cX6_offsets 39 = .ok (.if_icmp .ne 12, 3) := by decide +kernel
theorem dX6_offsets_42 : decode cX6_offsets 42 = .ok (.aload_n 0, 1) := by decide +kernel
theorem dX6_offsets_43 : decode cX6_offsets 43 = .ok (.iload_n 1, 1) := by decide +kernel
theorem dX6_offsets_44 : decode cX6_offsets 44 = .ok (.iload_n 2, 1) := by decide +kernel
theorem dX6_offsets_45 : decode cX6_offsets 45 = .ok (.invokevirtual 83, 3) := by decide +kernel
theorem dX6_offsets_48 : decode cX6_offsets 48 = .ok (.goto 26, 3) := by decide +kernel
theorem dX6_offsets_51 : decode cX6_offsets 51 = .ok (.iload_n 3, 1) := by decide +kernel
theorem dX6_offsets_52 : decode cX6_offsets 52 = .ok (.iconst 2, 1) := by decide +kernel
theorem dX6_offsets_53 : decode cX6_offsets 53 = .ok (.if_icmp .ne 19, 3) := by decide +kernel
theorem dX6_offsets_56 : decode cX6_offsets 56 = .ok (.aload_n 0, 1) := by decide +kernel
theorem dX6_offsets_57 : decode cX6_offsets 57 = .ok (.getfield 7, 3) := by decide +kernel
theorem dX6_offsets_60 : decode cX6_offsets 60 = .ok (.iload_n 1, 1) := by decide +kernel
theorem dX6_offsets_61 : decode cX6_offsets 61 = .ok (.bipush 23, 2) := by decide +kernel
theorem dX6_offsets_63 : decode cX6_offsets 63 = .ok (.iload_n 2, 1) := by decide +kernel
theorem dX6_offsets_64 : decode cX6_offsets 64 = .ok (.iadd, 1) := by decide +kernel
theorem dX6_offsets_65 : decode cX6_offsets 65 = .ok (.invokestatic 45, 3) := by decide +kernel
theorem dX6_offsets_68 : decode cX6_offsets 68 = .ok (.iaload, 1) := by decide +kernel
theorem dX6_offsets_69 : decode cX6_offsets 69 = .ok (.goto 5, 3) := by decide +kernel
theorem dX6_offsets_72 : decode cX6_offsets 72 = .ok (.bipush (-2), 2) := by decide +kernel
theorem dX6_offsets_74 : decode cX6_offsets 74 = .ok (.ireturn, 1) := by decide +kernel
theorem dX6_heldOf_0 : decode cX6_heldOf 0 = .ok (.iconst 0, 1) := by decide +kernel
theorem dX6_heldOf_1 : decode cX6_heldOf 1 = .ok (.istore_n 2, 1) := by decide +kernel
theorem dX6_heldOf_2 : decode cX6_heldOf 2 = .ok (.iconst 0, 1) := by decide +kernel
theorem dX6_heldOf_3 : decode cX6_heldOf 3 = .ok (.istore_n 3, 1) := by decide +kernel
theorem dX6_heldOf_4 : decode cX6_heldOf 4 = .ok (.iload_n 3, 1) := by decide +kernel
theorem dX6_heldOf_5 : decode cX6_heldOf 5 = .ok (.aload_n 0, 1) := by decide +kernel
theorem dX6_heldOf_6 : decode cX6_heldOf 6 = .ok (.getfield 7, 3) := by decide +kernel
theorem dX6_heldOf_9 : decode cX6_heldOf 9 = .ok (.iconst 1, 1) := by decide +kernel
theorem dX6_heldOf_10 : decode cX6_heldOf 10 = .ok (.iaload, 1) := by decide +kernel
theorem dX6_heldOf_11 : decode cX6_heldOf 11 = .ok (.if_icmp .ge 22, 3) := by decide +kernel
theorem dX6_heldOf_14 : decode cX6_heldOf 14 = .ok (.iload_n 2, 1) := by decide +kernel
theorem dX6_heldOf_15 : decode cX6_heldOf 15 = .ok (.aload_n 0, 1) := by decide +kernel
theorem dX6_heldOf_16 : decode cX6_heldOf 16 = .ok (.getfield 7, 3) := by decide +kernel
theorem dX6_heldOf_19 : decode cX6_heldOf 19 = .ok (.iload_n 3, 1) := by decide +kernel
theorem dX6_heldOf_20 : decode cX6_heldOf 20 = .ok (.iload_n 1, 1) := by decide +kernel
theorem dX6_heldOf_21 : decode cX6_heldOf 21 = .ok (.invokestatic 45, 3) := by decide +kernel
theorem dX6_heldOf_24 : decode cX6_heldOf 24 = .ok (.iaload, 1) := by decide +kernel
theorem dX6_heldOf_25 : decode cX6_heldOf 25 = .ok (.iadd, 1) := by decide +kernel
theorem dX6_heldOf_26 : decode cX6_heldOf 26 = .ok (.istore_n 2, 1) := by decide +kernel
theorem dX6_heldOf_27 : decode cX6_heldOf 27 = .ok (.iinc 3 1, 3) := by decide +kernel
theorem dX6_heldOf_30 : decode cX6_heldOf 30 = .ok (.goto (-26), 3) := by decide +kernel
theorem dX6_heldOf_33 : decode cX6_heldOf 33 = .ok (.iload_n 2, 1) := by decide +kernel
theorem dX6_heldOf_34 : decode cX6_heldOf 34 = .ok (.ireturn, 1) := by decide +kernel
theorem dX6_holders_0 : decode cX6_holders 0 = .ok (.iconst 0, 1) := by decide +kernel
theorem dX6_holders_1 : decode cX6_holders 1 = .ok (.istore_n 2, 1) := by decide +kernel
theorem dX6_holders_2 : decode cX6_holders 2 = .ok (.iconst 0, 1) := by decide +kernel
theorem dX6_holders_3 : decode cX6_holders 3 = .ok (.istore_n 3, 1) := by decide +kernel
theorem dX6_holders_4 : decode cX6_holders 4 = .ok (.iload_n 3, 1) := by decide +kernel
theorem dX6_holders_5 : decode cX6_holders 5 = .ok (.aload_n 0, 1) := by decide +kernel
theorem dX6_holders_6 : decode cX6_holders 6 = .ok (.getfield 7, 3) := by decide +kernel
theorem dX6_holders_9 : decode cX6_holders 9 = .ok (.iconst 1, 1) := by decide +kernel
theorem dX6_holders_10 : decode cX6_holders 10 = .ok (.iaload, 1) := by decide +kernel
theorem dX6_holders_11 : decode cX6_holders 11 = .ok (.if_icmp .ge 32, 3) := by decide +kernel
theorem dX6_holders_14 : decode cX6_holders 14 = .ok (.iload_n 2, 1) := by decide +kernel
theorem dX6_holders_15 : decode cX6_holders 15 = .ok (.aload_n 0, 1) := by decide +kernel
theorem dX6_holders_16 : decode cX6_holders 16 = .ok (.getfield 7, 3) := by decide +kernel
theorem dX6_holders_19 : decode cX6_holders 19 = .ok (.iload_n 3, 1) := by decide +kernel
theorem dX6_holders_20 : decode cX6_holders 20 = .ok (.iconst 0, 1) := by decide +kernel
theorem dX6_holders_21 : decode cX6_holders 21 = .ok (.iload_n 1, 1) := by decide +kernel
theorem dX6_holders_22 : decode cX6_holders 22 = .ok (.iadd, 1) := by decide +kernel
theorem dX6_holders_23 : decode cX6_holders 23 = .ok (.invokestatic 45, 3) := by decide +kernel
theorem dX6_holders_26 : decode cX6_holders 26 = .ok (.iaload, 1) := by decide +kernel
theorem dX6_holders_27 : decode cX6_holders 27 = .ok (.ifCond .le 7, 3) := by decide +kernel
theorem dX6_holders_30 : decode cX6_holders 30 = .ok (.iconst 1, 1) := by decide +kernel
theorem dX6_holders_31 : decode cX6_holders 31 = .ok (.goto 4, 3) := by decide +kernel
theorem dX6_holders_34 : decode cX6_holders 34 = .ok (.iconst 0, 1) := by decide +kernel
theorem dX6_holders_35 : decode cX6_holders 35 = .ok (.iadd, 1) := by decide +kernel
theorem dX6_holders_36 : decode cX6_holders 36 = .ok (.istore_n 2, 1) := by decide +kernel
theorem dX6_holders_37 : decode cX6_holders 37 = .ok (.iinc 3 1, 3) := by decide +kernel
theorem dX6_holders_40 : decode cX6_holders 40 = .ok (.goto (-36), 3) := by decide +kernel
theorem dX6_holders_43 : decode cX6_holders 43 = .ok (.iload_n 2, 1) := by decide +kernel
theorem dX6_holders_44 : decode cX6_holders 44 = .ok (.ireturn, 1) := by decide +kernel
theorem dX6_monthsOf_0 : decode cX6_monthsOf 0 = .ok (.iload_n 1, 1) := by decide +kernel
theorem dX6_monthsOf_1 : decode cX6_monthsOf 1 = .ok (.aload_n 0, 1) := by decide +kernel
theorem dX6_monthsOf_2 : decode cX6_monthsOf 2 = .ok (.getfield 7, 3) := by decide +kernel
theorem dX6_monthsOf_5 : decode cX6_monthsOf 5 = .ok (.iconst 5, 1) := by decide +kernel
theorem dX6_monthsOf_6 : decode cX6_monthsOf 6 = .ok (.iaload, 1) := by decide +kernel
theorem dX6_monthsOf_7 : decode cX6_monthsOf 7 = .ok (.iadd, 1) := by decide +kernel
theorem dX6_monthsOf_8 : decode cX6_monthsOf 8 = .ok (.iconst 1, 1) := by decide +kernel
theorem dX6_monthsOf_9 : decode cX6_monthsOf 9 = .ok (.iadd, 1) := by decide +kernel
theorem dX6_monthsOf_10 : decode cX6_monthsOf 10 = .ok (.istore_n 2, 1) := by decide +kernel
theorem dX6_monthsOf_11 : decode cX6_monthsOf 11 = .ok (.iload_n 2, 1) := by decide +kernel
theorem dX6_monthsOf_12 : decode cX6_monthsOf 12 = .ok (.aload_n 0, 1) := by decide +kernel
theorem dX6_monthsOf_13 : decode cX6_monthsOf 13 = .ok (.invokevirtual 56, 3) := by decide +kernel
theorem dX6_monthsOf_16 : decode cX6_monthsOf 16 = .ok (.if_icmp .le 7, 3) := by decide +kernel
theorem dX6_monthsOf_19 : decode cX6_monthsOf 19 = .ok (.iload_n 2, 1) := by decide +kernel
theorem dX6_monthsOf_20 : decode cX6_monthsOf 20 = .ok (.goto 9, 3) := by decide +kernel
theorem dX6_monthsOf_23 : decode cX6_monthsOf 23 = .ok (.aload_n 0, 1) := by decide +kernel
theorem dX6_monthsOf_24 : decode cX6_monthsOf 24 = .ok (.invokevirtual 56, 3) := by decide +kernel
theorem dX6_monthsOf_27 : decode cX6_monthsOf 27 = .ok (.iconst 1, 1) := by decide +kernel
theorem dX6_monthsOf_28 : decode cX6_monthsOf 28 = .ok (.iadd, 1) := by decide +kernel
theorem dX6_monthsOf_29 : decode cX6_monthsOf 29 = .ok (.istore_n 2, 1) := by decide +kernel
theorem dX6_monthsOf_30 : decode cX6_monthsOf 30 = .ok (.aload_n 0, 1) := by decide +kernel
theorem dX6_monthsOf_31 : decode cX6_monthsOf 31 = .ok (.iload_n 1, 1) := by decide +kernel
theorem dX6_monthsOf_32 : decode cX6_monthsOf 32 = .ok (.invokevirtual 139, 3) := by decide +kernel
theorem dX6_monthsOf_35 : decode cX6_monthsOf 35 = .ok (.ifCond .ne 8, 3) := by decide +kernel
theorem dX6_monthsOf_38 : decode cX6_monthsOf 38 = .ok (.bipush (-5), 2) := by decide +kernel
theorem dX6_monthsOf_40 : decode cX6_monthsOf 40 = .ok (.goto 14, 3) := by decide +kernel
theorem dX6_monthsOf_43 : decode cX6_monthsOf 43 = .ok (.bipush 12, 2) := by decide +kernel
theorem dX6_monthsOf_45 : decode cX6_monthsOf 45 = .ok (.iload_n 2, 1) := by decide +kernel
theorem dX6_monthsOf_46 : decode cX6_monthsOf 46 = .ok (.imul, 1) := by decide +kernel
theorem dX6_monthsOf_47 : decode cX6_monthsOf 47 = .ok (.aload_n 0, 1) := by decide +kernel
theorem dX6_monthsOf_48 : decode cX6_monthsOf 48 = .ok (.getfield 7, 3) := by decide +kernel
theorem dX6_monthsOf_51 : decode cX6_monthsOf 51 = .ok (.iconst 0, 1) := by decide +kernel
theorem dX6_monthsOf_52 : decode cX6_monthsOf 52 = .ok (.iaload, 1) := by decide +kernel
theorem dX6_monthsOf_53 : decode cX6_monthsOf 53 = .ok (.isub, 1) := by decide +kernel
theorem dX6_monthsOf_54 : decode cX6_monthsOf 54 = .ok (.ireturn, 1) := by decide +kernel
theorem dX6_vintage_0 : decode cX6_vintage 0 = .ok (.iload_n 1, 1) := by decide +kernel
theorem dX6_vintage_1 : decode cX6_vintage 1 = .ok (.invokestatic 63, 3) := by decide +kernel
theorem dX6_vintage_4 : decode cX6_vintage 4 = .ok (.ifCond .ne 5, 3) := by decide +kernel
theorem dX6_vintage_7 : decode cX6_vintage 7 = .ok (.iconst (-1), 1) := by decide +kernel
theorem dX6_vintage_8 : decode cX6_vintage 8 = .ok (.ireturn, 1) := by decide +kernel
theorem dX6_vintage_9 : decode cX6_vintage 9 = .ok (.iload_n 2, 1) := by decide +kernel
theorem dX6_vintage_10 : decode cX6_vintage 10 = .ok (.tableswitch 106 0 6 #[42, 53, 61, 72, 83, 94, 100], 42) := by decide +kernel
theorem dX6_vintage_52 : decode cX6_vintage 52 = .ok (.aload_n 0, 1) := by decide +kernel
theorem dX6_vintage_53 : decode cX6_vintage 53 = .ok (.getfield 7, 3) := by decide +kernel
theorem dX6_vintage_56 : decode cX6_vintage 56 = .ok (.sipush 263, 3) := by decide +kernel
theorem dX6_vintage_59 : decode cX6_vintage 59 = .ok (.iload_n 1, 1) := by decide +kernel
theorem dX6_vintage_60 : decode cX6_vintage 60 = .ok (.iadd, 1) := by decide +kernel
theorem dX6_vintage_61 : decode cX6_vintage 61 = .ok (.iaload, 1) := by decide +kernel
theorem dX6_vintage_62 : decode cX6_vintage 62 = .ok (.ireturn, 1) := by decide +kernel
theorem dX6_vintage_63 : decode cX6_vintage 63 = .ok (.aload_n 0, 1) := by decide +kernel
theorem dX6_vintage_64 : decode cX6_vintage 64 = .ok (.iconst 0, 1) := by decide +kernel
theorem dX6_vintage_65 : decode cX6_vintage 65 = .ok (.iload_n 1, 1) := by decide +kernel
theorem dX6_vintage_66 : decode cX6_vintage 66 = .ok (.iadd, 1) := by decide +kernel
theorem dX6_vintage_67 : decode cX6_vintage 67 = .ok (.invokevirtual 142, 3) := by decide +kernel
theorem dX6_vintage_70 : decode cX6_vintage 70 = .ok (.ireturn, 1) := by decide +kernel
theorem dX6_vintage_71 : decode cX6_vintage 71 = .ok (.aload_n 0, 1) := by decide +kernel
theorem dX6_vintage_72 : decode cX6_vintage 72 = .ok (.getfield 7, 3) := by decide +kernel
theorem dX6_vintage_75 : decode cX6_vintage 75 = .ok (.sipush 283, 3) := by decide +kernel
theorem dX6_vintage_78 : decode cX6_vintage 78 = .ok (.iload_n 1, 1) := by decide +kernel
theorem dX6_vintage_79 : decode cX6_vintage 79 = .ok (.iadd, 1) := by decide +kernel
theorem dX6_vintage_80 : decode cX6_vintage 80 = .ok (.iaload, 1) := by decide +kernel
theorem dX6_vintage_81 : decode cX6_vintage 81 = .ok (.ireturn, 1) := by decide +kernel
theorem dX6_vintage_82 : decode cX6_vintage 82 = .ok (.aload_n 0, 1) := by decide +kernel
theorem dX6_vintage_83 : decode cX6_vintage 83 = .ok (.getfield 7, 3) := by decide +kernel
theorem dX6_vintage_86 : decode cX6_vintage 86 = .ok (.sipush 303, 3) := by decide +kernel
theorem dX6_vintage_89 : decode cX6_vintage 89 = .ok (.iload_n 1, 1) := by decide +kernel
theorem dX6_vintage_90 : decode cX6_vintage 90 = .ok (.iadd, 1) := by decide +kernel
theorem dX6_vintage_91 : decode cX6_vintage 91 = .ok (.iaload, 1) := by decide +kernel
theorem dX6_vintage_92 : decode cX6_vintage 92 = .ok (.ireturn, 1) := by decide +kernel
theorem dX6_vintage_93 : decode cX6_vintage 93 = .ok (.aload_n 0, 1) := by decide +kernel
theorem dX6_vintage_94 : decode cX6_vintage 94 = .ok (.getfield 7, 3) := by decide +kernel
theorem dX6_vintage_97 : decode cX6_vintage 97 = .ok (.sipush 323, 3) := by decide +kernel
theorem dX6_vintage_100 : decode cX6_vintage 100 = .ok (.iload_n 1, 1) := by decide +kernel
theorem dX6_vintage_101 : decode cX6_vintage 101 = .ok (.iadd, 1) := by decide +kernel
theorem dX6_vintage_102 : decode cX6_vintage 102 = .ok (.iaload, 1) := by decide +kernel
theorem dX6_vintage_103 : decode cX6_vintage 103 = .ok (.ireturn, 1) := by decide +kernel
theorem dX6_vintage_104 : decode cX6_vintage 104 = .ok (.aload_n 0, 1) := by decide +kernel
theorem dX6_vintage_105 : decode cX6_vintage 105 = .ok (.iload_n 1, 1) := by decide +kernel
theorem dX6_vintage_106 : decode cX6_vintage 106 = .ok (.invokevirtual 139, 3) := by decide +kernel
theorem dX6_vintage_109 : decode cX6_vintage 109 = .ok (.ireturn, 1) := by decide +kernel
theorem dX6_vintage_110 : decode cX6_vintage 110 = .ok (.aload_n 0, 1) := by decide +kernel
theorem dX6_vintage_111 : decode cX6_vintage 111 = .ok (.iload_n 1, 1) := by decide +kernel
theorem dX6_vintage_112 : decode cX6_vintage 112 = .ok (.invokevirtual 145, 3) := by decide +kernel
theorem dX6_vintage_115 : decode cX6_vintage 115 = .ok (.ireturn, 1) := by decide +kernel
theorem dX6_vintage_116 : decode cX6_vintage 116 = .ok (.bipush (-2), 2) := by decide +kernel
theorem dX6_vintage_118 : decode cX6_vintage 118 = .ok (.ireturn, 1) := by decide +kernel
theorem dX6_grade_0 : decode cX6_grade 0 = .ok (.iload_n 1, 1) := by decide +kernel
theorem dX6_grade_1 : decode cX6_grade 1 = .ok (.invokestatic 60, 3) := by decide +kernel
theorem dX6_grade_4 : decode cX6_grade 4 = .ok (.ifCond .ne 5, 3) := by decide +kernel
theorem dX6_grade_7 : decode cX6_grade 7 = .ok (.iconst (-1), 1) := by decide +kernel
theorem dX6_grade_8 : decode cX6_grade 8 = .ok (.ireturn, 1) := by decide +kernel
theorem dX6_grade_9 : decode cX6_grade 9 = .ok (.iload_n 2, 1) := by decide +kernel
theorem dX6_grade_10 : decode cX6_grade 10 = .ok (.ifCond .ne 16, 3) := by decide +kernel
theorem dX6_grade_13 : decode cX6_grade 13 = .ok (.aload_n 0, 1) := by decide +kernel
theorem dX6_grade_14 : decode cX6_grade 14 = .ok (.getfield 7, 3) := by decide +kernel
theorem dX6_grade_17 : decode cX6_grade 17 = .ok (.sipush 343, 3) := by decide +kernel
theorem dX6_grade_20 : decode cX6_grade 20 = .ok (.iload_n 1, 1) := by decide +kernel
theorem dX6_grade_21 : decode cX6_grade 21 = .ok (.iadd, 1) := by decide +kernel
theorem dX6_grade_22 : decode cX6_grade 22 = .ok (.iaload, 1) := by decide +kernel
theorem dX6_grade_23 : decode cX6_grade 23 = .ok (.goto 39, 3) := by decide +kernel
theorem dX6_grade_26 : decode cX6_grade 26 = .ok (.iload_n 2, 1) := by decide +kernel
theorem dX6_grade_27 : decode cX6_grade 27 = .ok (.iconst 1, 1) := by decide +kernel
theorem dX6_grade_28 : decode cX6_grade 28 = .ok (.if_icmp .ne 14, 3) := by decide +kernel
theorem dX6_grade_31 : decode cX6_grade 31 = .ok (.aload_n 0, 1) := by decide +kernel
theorem dX6_grade_32 : decode cX6_grade 32 = .ok (.bipush 20, 2) := by decide +kernel
theorem dX6_grade_34 : decode cX6_grade 34 = .ok (.iload_n 1, 1) := by decide +kernel
theorem dX6_grade_35 : decode cX6_grade 35 = .ok (.iadd, 1) := by decide +kernel
theorem dX6_grade_36 : decode cX6_grade 36 = .ok (.invokevirtual 142, 3) := by decide +kernel
theorem dX6_grade_39 : decode cX6_grade 39 = .ok (.goto 23, 3) := by decide +kernel
theorem dX6_grade_42 : decode cX6_grade 42 = .ok (.iload_n 2, 1) := by decide +kernel
theorem dX6_grade_43 : decode cX6_grade 43 = .ok (.iconst 2, 1) := by decide +kernel
theorem dX6_grade_44 : decode cX6_grade 44 = .ok (.if_icmp .ne 16, 3) := by decide +kernel
theorem dX6_grade_47 : decode cX6_grade 47 = .ok (.aload_n 0, 1) := by decide +kernel
theorem dX6_grade_48 : decode cX6_grade 48 = .ok (.getfield 7, 3) := by decide +kernel
theorem dX6_grade_51 : decode cX6_grade 51 = .ok (.sipush 346, 3) := by decide +kernel
theorem dX6_grade_54 : decode cX6_grade 54 = .ok (.iload_n 1, 1) := by decide +kernel
theorem dX6_grade_55 : decode cX6_grade 55 = .ok (.iadd, 1) := by decide +kernel
theorem dX6_grade_56 : decode cX6_grade 56 = .ok (.iaload, 1) := by decide +kernel
theorem dX6_grade_57 : decode cX6_grade 57 = .ok (.goto 5, 3) := by decide +kernel
theorem dX6_grade_60 : decode cX6_grade 60 = .ok (.bipush (-2), 2) := by decide +kernel
theorem dX6_grade_62 : decode cX6_grade 62 = .ok (.ireturn, 1) := by decide +kernel
theorem dX6_holder_0 : decode cX6_holder 0 = .ok (.iload_n 1, 1) := by decide +kernel
theorem dX6_holder_1 : decode cX6_holder 1 = .ok (.invokestatic 63, 3) := by decide +kernel
theorem dX6_holder_4 : decode cX6_holder 4 = .ok (.ifCond .ne 5, 3) := by decide +kernel
theorem dX6_holder_7 : decode cX6_holder 7 = .ok (.iconst (-1), 1) := by decide +kernel
theorem dX6_holder_8 : decode cX6_holder 8 = .ok (.ireturn, 1) := by decide +kernel
theorem dX6_holder_9 : decode cX6_holder 9 = .ok (.iload_n 2, 1) := by decide +kernel
theorem dX6_holder_10 : decode cX6_holder 10 = .ok (.ifCond .ge 6, 3) := by decide +kernel
theorem dX6_holder_13 : decode cX6_holder 13 = .ok (.bipush (-2), 2) := by decide +kernel
theorem dX6_holder_15 : decode cX6_holder 15 = .ok (.ireturn, 1) := by decide +kernel
theorem dX6_holder_16 : decode cX6_holder 16 = .ok (.iconst 0, 1) := by decide +kernel
theorem dX6_holder_17 : decode cX6_holder 17 = .ok (.istore_n 3, 1) := by decide +kernel
theorem dX6_holder_18 : decode cX6_holder 18 = .ok (.iload_n 3, 1) := by decide +kernel
theorem dX6_holder_19 : decode cX6_holder 19 = .ok (.aload_n 0, 1) := by decide +kernel
theorem dX6_holder_20 : decode cX6_holder 20 = .ok (.getfield 7, 3) := by decide +kernel
theorem dX6_holder_23 : decode cX6_holder 23 = .ok (.iconst 1, 1) := by decide +kernel
theorem dX6_holder_24 : decode cX6_holder 24 = .ok (.iaload, 1) := by decide +kernel
theorem dX6_holder_25 : decode cX6_holder 25 = .ok (.if_icmp .ge 104, 3) := by decide +kernel
theorem dX6_holder_28 : decode cX6_holder 28 = .ok (.aload_n 0, 1) := by decide +kernel
theorem dX6_holder_29 : decode cX6_holder 29 = .ok (.getfield 7, 3) := by decide +kernel
theorem dX6_holder_32 : decode cX6_holder 32 = .ok (.iload_n 3, 1) := by decide +kernel
theorem dX6_holder_33 : decode cX6_holder 33 = .ok (.iconst 0, 1) := by decide +kernel
theorem dX6_holder_34 : decode cX6_holder 34 = .ok (.iload_n 1, 1) := by decide +kernel
theorem dX6_holder_35 : decode cX6_holder 35 = .ok (.iadd, 1) := by decide +kernel
theorem dX6_holder_36 : decode cX6_holder 36 = .ok (.invokestatic 45, 3) := by decide +kernel
theorem dX6_holder_39 : decode cX6_holder 39 = .ok (.iaload, 1) := by decide +kernel
theorem dX6_holder_40 : decode cX6_holder 40 = .ok (.istore 4, 2) := by decide +kernel
theorem dX6_holder_42 : decode cX6_holder 42 = .ok (.iconst 0, 1) := by decide +kernel
theorem dX6_holder_43 : decode cX6_holder 43 = .ok (.istore 5, 2) := by decide +kernel
theorem dX6_holder_45 : decode cX6_holder 45 = .ok (.iconst 0, 1) := by decide +kernel
theorem dX6_holder_46 : decode cX6_holder 46 = .ok (.istore 6, 2) := by decide +kernel
theorem dX6_holder_48 : decode cX6_holder 48 = .ok (.iload 6, 2) := by decide +kernel
theorem dX6_holder_50 : decode cX6_holder 50 = .ok (.aload_n 0, 1) := by decide +kernel
theorem dX6_holder_51 : decode cX6_holder 51 = .ok (.getfield 7, 3) := by decide +kernel
theorem dX6_holder_54 : decode cX6_holder 54 = .ok (.iconst 1, 1) := by decide +kernel
theorem dX6_holder_55 : decode cX6_holder 55 = .ok (.iaload, 1) := by decide +kernel
theorem dX6_holder_56 : decode cX6_holder 56 = .ok (.if_icmp .ge 54, 3) := by decide +kernel
theorem dX6_holder_59 : decode cX6_holder 59 = .ok (.aload_n 0, 1) := by decide +kernel
theorem dX6_holder_60 : decode cX6_holder 60 = .ok (.getfield 7, 3) := by decide +kernel
theorem dX6_holder_63 : decode cX6_holder 63 = .ok (.iload 6, 2) := by decide +kernel
theorem dX6_holder_65 : decode cX6_holder 65 = .ok (.iconst 0, 1) := by decide +kernel
theorem dX6_holder_66 : decode cX6_holder 66 = .ok (.iload_n 1, 1) := by decide +kernel
theorem dX6_holder_67 : decode cX6_holder 67 = .ok (.iadd, 1) := by decide +kernel
theorem dX6_holder_68 : decode cX6_holder 68 = .ok (.invokestatic 45, 3) := by decide +kernel
theorem dX6_holder_71 : decode cX6_holder 71 = .ok (.iaload, 1) := by decide +kernel
theorem dX6_holder_72 : decode cX6_holder 72 = .ok (.istore 7, 2) := by decide +kernel
theorem dX6_holder_74 : decode cX6_holder 74 = .ok (.iload 5, 2) := by decide +kernel
theorem dX6_holder_76 : decode cX6_holder 76 = .ok (.iload 7, 2) := by decide +kernel
theorem dX6_holder_78 : decode cX6_holder 78 = .ok (.iload 4, 2) := by decide +kernel
theorem dX6_holder_80 : decode cX6_holder 80 = .ok (.if_icmp .gt 16, 3) := by decide +kernel
theorem dX6_holder_83 : decode cX6_holder 83 = .ok (.iload 7, 2) := by decide +kernel
theorem dX6_holder_85 : decode cX6_holder 85 = .ok (.iload 4, 2) := by decide +kernel
theorem dX6_holder_87 : decode cX6_holder 87 = .ok (.if_icmp .ne 13, 3) := by decide +kernel
theorem dX6_holder_90 : decode cX6_holder 90 = .ok (.iload 6, 2) := by decide +kernel
theorem dX6_holder_92 : decode cX6_holder 92 = .ok (.iload_n 3, 1) := by decide +kernel
theorem dX6_holder_93 : decode cX6_holder 93 = .ok (.if_icmp .ge 7, 3) := by decide +kernel
theorem dX6_holder_96 : decode cX6_holder 96 = .ok (.iconst 1, 1) := by decide +kernel
theorem dX6_holder_97 : decode cX6_holder 97 = .ok (.goto 4, 3) := by decide +kernel
theorem dX6_holder_100 : decode cX6_holder 100 = .ok (.iconst 0, 1) := by decide +kernel
theorem dX6_holder_101 : decode cX6_holder 101 = .ok (.iadd, 1) := by decide +kernel
theorem dX6_holder_102 : decode cX6_holder 102 = .ok (.istore 5, 2) := by decide +kernel
theorem dX6_holder_104 : decode cX6_holder 104 = .ok (.iinc 6 1, 3) := by decide +kernel
theorem dX6_holder_107 : decode cX6_holder 107 = .ok (.goto (-59), 3) := by decide +kernel
theorem dX6_holder_110 : decode cX6_holder 110 = .ok (.iload 4, 2) := by decide +kernel
theorem dX6_holder_112 : decode cX6_holder 112 = .ok (.ifCond .le 11, 3) := by decide +kernel
theorem dX6_holder_115 : decode cX6_holder 115 = .ok (.iload 5, 2) := by decide +kernel
theorem dX6_holder_117 : decode cX6_holder 117 = .ok (.iload_n 2, 1) := by decide +kernel
theorem dX6_holder_118 : decode cX6_holder 118 = .ok (.if_icmp .ne 5, 3) := by decide +kernel
theorem dX6_holder_121 : decode cX6_holder 121 = .ok (.iload_n 3, 1) := by decide +kernel
theorem dX6_holder_122 : decode cX6_holder 122 = .ok (.ireturn, 1) := by decide +kernel
theorem dX6_holder_123 : decode cX6_holder 123 = .ok (.iinc 3 1, 3) := by decide +kernel
theorem dX6_holder_126 : decode cX6_holder 126 = .ok (.goto (-108), 3) := by decide +kernel
theorem dX6_holder_129 : decode cX6_holder 129 = .ok (.bipush (-5), 2) := by decide +kernel
theorem dX6_holder_131 : decode cX6_holder 131 = .ok (.ireturn, 1) := by decide +kernel
theorem dX6_plan_0 : decode cX6_plan 0 = .ok (.aload_n 0, 1) := by decide +kernel
theorem dX6_plan_1 : decode cX6_plan 1 = .ok (.iload_n 1, 1) := by decide +kernel
theorem dX6_plan_2 : decode cX6_plan 2 = .ok (.invokevirtual 49, 3) := by decide +kernel
theorem dX6_plan_5 : decode cX6_plan 5 = .ok (.ifCond .ne 5, 3) := by decide +kernel
theorem dX6_plan_8 : decode cX6_plan 8 = .ok (.iconst (-1), 1) := by decide +kernel
theorem dX6_plan_9 : decode cX6_plan 9 = .ok (.ireturn, 1) := by decide +kernel
theorem dX6_plan_10 : decode cX6_plan 10 = .ok (.iload_n 2, 1) := by decide +kernel
theorem dX6_plan_11 : decode cX6_plan 11 = .ok (.invokestatic 53, 3) := by decide +kernel
theorem dX6_plan_14 : decode cX6_plan 14 = .ok (.ifCond .eq 22, 3) := by decide +kernel
theorem dX6_plan_17 : decode cX6_plan 17 = .ok (.iload_n 3, 1) := by decide +kernel
theorem dX6_plan_18 : decode cX6_plan 18 = .ok (.iconst 0, 1) := by decide +kernel
theorem dX6_plan_19 : decode cX6_plan 19 = .ok (.iconst 2, 1) := by decide +kernel
theorem dX6_plan_20 : decode cX6_plan 20 = .ok (.invokestatic 25, 3) := by decide +kernel
theorem dX6_plan_23 : decode cX6_plan 23 = .ok (.ifCond .eq 13, 3) := by decide +kernel
theorem dX6_plan_26 : decode cX6_plan 26 = .ok (.iload 4, 2) := by decide +kernel
theorem dX6_plan_28 : decode cX6_plan 28 = .ok (.iconst 0, 1) := by decide +kernel
theorem dX6_plan_29 : decode cX6_plan 29 = .ok (.iconst 5, 1) := by decide +kernel
theorem dX6_plan_30 : decode cX6_plan 30 = .ok (.invokestatic 25, 3) := by decide +kernel
theorem dX6_plan_33 : decode cX6_plan 33 = .ok (.ifCond .ne 6, 3) := by decide +kernel
theorem dX6_plan_36 : decode cX6_plan 36 = .ok (.bipush (-2), 2) := by decide +kernel
theorem dX6_plan_38 : decode cX6_plan 38 = .ok (.ireturn, 1) := by decide +kernel
theorem dX6_plan_39 : decode cX6_plan 39 = .ok (.aload_n 0, 1) := by decide +kernel
theorem dX6_plan_40 : decode cX6_plan 40 = .ok (.iload_n 1, 1) := by decide +kernel
theorem dX6_plan_41 : decode cX6_plan 41 = .ok (.iload_n 2, 1) := by decide +kernel
theorem dX6_plan_42 : decode cX6_plan 42 = .ok (.iload_n 3, 1) := by decide +kernel
theorem dX6_plan_43 : decode cX6_plan 43 = .ok (.invokevirtual 89, 3) := by decide +kernel
theorem dX6_plan_46 : decode cX6_plan 46 = .ok (.aload_n 0, 1) := by decide +kernel
theorem dX6_plan_47 : decode cX6_plan 47 = .ok (.getfield 74, 3) := by decide +kernel
theorem dX6_plan_50 : decode cX6_plan 50 = .ok (.ifCond .le 6, 3) := by decide +kernel
theorem dX6_plan_53 : decode cX6_plan 53 = .ok (.bipush (-4), 2) := by decide +kernel
theorem dX6_plan_55 : decode cX6_plan 55 = .ok (.ireturn, 1) := by decide +kernel
theorem dX6_plan_56 : decode cX6_plan 56 = .ok (.iconst 0, 1) := by decide +kernel
theorem dX6_plan_57 : decode cX6_plan 57 = .ok (.istore 5, 2) := by decide +kernel
theorem dX6_plan_59 : decode cX6_plan 59 = .ok (.iconst 0, 1) := by decide +kernel
theorem dX6_plan_60 : decode cX6_plan 60 = .ok (.istore 6, 2) := by decide +kernel
theorem dX6_plan_62 : decode cX6_plan 62 = .ok (.iconst 0, 1) := by decide +kernel
theorem dX6_plan_63 : decode cX6_plan 63 = .ok (.istore 7, 2) := by decide +kernel
theorem dX6_plan_65 : decode cX6_plan 65 = .ok (.iload 7, 2) := by decide +kernel
theorem dX6_plan_67 : decode cX6_plan 67 = .ok (.bipush 20, 2) := by decide +kernel
theorem dX6_plan_69 : decode cX6_plan 69 = .ok (.if_icmp .ge 41, 3) := by decide +kernel
theorem dX6_plan_72 : decode cX6_plan 72 = .ok (.iload 5, 2) := by decide +kernel
theorem dX6_plan_74 : decode cX6_plan 74 = .ok (.aload_n 0, 1) := by decide +kernel
theorem dX6_plan_75 : decode cX6_plan 75 = .ok (.getfield 16, 3) := by decide +kernel
theorem dX6_plan_78 : decode cX6_plan 78 = .ok (.iload 7, 2) := by decide +kernel
theorem dX6_plan_80 : decode cX6_plan 80 = .ok (.iaload, 1) := by decide +kernel
theorem dX6_plan_81 : decode cX6_plan 81 = .ok (.ifCond .le 7, 3) := by decide +kernel
theorem dX6_plan_84 : decode cX6_plan 84 = .ok (.iconst 1, 1) := by decide +kernel
theorem dX6_plan_85 : decode cX6_plan 85 = .ok (.goto 4, 3) := by decide +kernel
theorem dX6_plan_88 : decode cX6_plan 88 = .ok (.iconst 0, 1) := by decide +kernel
theorem dX6_plan_89 : decode cX6_plan 89 = .ok (.iadd, 1) := by decide +kernel
theorem dX6_plan_90 : decode cX6_plan 90 = .ok (.istore 5, 2) := by decide +kernel
theorem dX6_plan_92 : decode cX6_plan 92 = .ok (.iload 6, 2) := by decide +kernel
theorem dX6_plan_94 : decode cX6_plan 94 = .ok (.aload_n 0, 1) := by decide +kernel
theorem dX6_plan_95 : decode cX6_plan 95 = .ok (.getfield 16, 3) := by decide +kernel
theorem dX6_plan_98 : decode cX6_plan 98 = .ok (.iload 7, 2) := by decide +kernel
theorem dX6_plan_100 : decode cX6_plan 100 = .ok (.iaload, 1) := by decide +kernel
theorem dX6_plan_101 : decode cX6_plan 101 = .ok (.iadd, 1) := by decide +kernel
theorem dX6_plan_102 : decode cX6_plan 102 = .ok (.istore 6, 2) := by decide +kernel
theorem dX6_plan_104 : decode cX6_plan 104 = .ok (.iinc 7 1, 3) := by decide +kernel
theorem dX6_plan_107 : decode cX6_plan 107 = .ok (.goto (-42), 3) := by decide +kernel
theorem dX6_plan_110 : decode cX6_plan 110 = .ok (.iload 4, 2) := by decide +kernel
theorem dX6_plan_112 : decode cX6_plan 112 = .ok (.ifCond .ne 8, 3) := by decide +kernel
theorem dX6_plan_115 : decode cX6_plan 115 = .ok (.iload 6, 2) := by decide +kernel
theorem dX6_plan_117 : decode cX6_plan 117 = .ok (.goto 36, 3) := by decide +kernel
theorem dX6_plan_120 : decode cX6_plan 120 = .ok (.iload 4, 2) := by decide +kernel
theorem dX6_plan_122 : decode cX6_plan 122 = .ok (.iconst 4, 1) := by decide +kernel
theorem dX6_plan_123 : decode cX6_plan 123 = .ok (.if_icmp .ge 15, 3) := by decide +kernel
theorem dX6_plan_126 : decode cX6_plan 126 = .ok (.aload_n 0, 1) := by decide +kernel
theorem dX6_plan_127 : decode cX6_plan 127 = .ok (.getfield 19, 3) := by decide +kernel
theorem dX6_plan_130 : decode cX6_plan 130 = .ok (.iload 4, 2) := by decide +kernel
theorem dX6_plan_132 : decode cX6_plan 132 = .ok (.iconst 1, 1) := by decide +kernel
theorem dX6_plan_133 : decode cX6_plan 133 = .ok (.isub, 1) := by decide +kernel
theorem dX6_plan_134 : decode cX6_plan 134 = .ok (.iaload, 1) := by decide +kernel
theorem dX6_plan_135 : decode cX6_plan 135 = .ok (.goto 18, 3) := by decide +kernel
theorem dX6_plan_138 : decode cX6_plan 138 = .ok (.iload 4, 2) := by decide +kernel
theorem dX6_plan_140 : decode cX6_plan 140 = .ok (.iconst 4, 1) := by decide +kernel
theorem dX6_plan_141 : decode cX6_plan 141 = .ok (.if_icmp .ne 8, 3) := by decide +kernel
theorem dX6_plan_144 : decode cX6_plan 144 = .ok (.iload 5, 2) := by decide +kernel
theorem dX6_plan_146 : decode cX6_plan 146 = .ok (.goto 7, 3) := by decide +kernel
theorem dX6_plan_149 : decode cX6_plan 149 = .ok (.aload_n 0, 1) := by decide +kernel
theorem dX6_plan_150 : decode cX6_plan 150 = .ok (.getfield 80, 3) := by decide +kernel
theorem dX6_plan_153 : decode cX6_plan 153 = .ok (.ireturn, 1) := by decide +kernel
theorem dX6_allHeld_0 : decode cX6_allHeld 0 = .ok (.iconst 0, 1) := by decide +kernel
theorem dX6_allHeld_1 : decode cX6_allHeld 1 = .ok (.istore_n 1, 1) := by decide +kernel
theorem dX6_allHeld_2 : decode cX6_allHeld 2 = .ok (.iconst 0, 1) := by decide +kernel
theorem dX6_allHeld_3 : decode cX6_allHeld 3 = .ok (.istore_n 2, 1) := by decide +kernel
theorem dX6_allHeld_4 : decode cX6_allHeld 4 = .ok (.iload_n 2, 1) := by decide +kernel
theorem dX6_allHeld_5 : decode cX6_allHeld 5 = .ok (.aload_n 0, 1) := by decide +kernel
theorem dX6_allHeld_6 : decode cX6_allHeld 6 = .ok (.getfield 7, 3) := by decide +kernel
theorem dX6_allHeld_9 : decode cX6_allHeld 9 = .ok (.iconst 1, 1) := by decide +kernel
theorem dX6_allHeld_10 : decode cX6_allHeld 10 = .ok (.iaload, 1) := by decide +kernel
theorem dX6_allHeld_11 : decode cX6_allHeld 11 = .ok (.if_icmp .ge 17, 3) := by decide +kernel
theorem dX6_allHeld_14 : decode cX6_allHeld 14 = .ok (.iload_n 1, 1) := by decide +kernel
theorem dX6_allHeld_15 : decode cX6_allHeld 15 = .ok (.aload_n 0, 1) := by decide +kernel
theorem dX6_allHeld_16 : decode cX6_allHeld 16 = .ok (.iload_n 2, 1) := by decide +kernel
theorem dX6_allHeld_17 : decode cX6_allHeld 17 = .ok (.invokevirtual 125, 3) := by decide +kernel
theorem dX6_allHeld_20 : decode cX6_allHeld 20 = .ok (.iadd, 1) := by decide +kernel
theorem dX6_allHeld_21 : decode cX6_allHeld 21 = .ok (.istore_n 1, 1) := by decide +kernel
theorem dX6_allHeld_22 : decode cX6_allHeld 22 = .ok (.iinc 2 1, 3) := by decide +kernel
theorem dX6_allHeld_25 : decode cX6_allHeld 25 = .ok (.goto (-21), 3) := by decide +kernel
theorem dX6_allHeld_28 : decode cX6_allHeld 28 = .ok (.iload_n 1, 1) := by decide +kernel
theorem dX6_allHeld_29 : decode cX6_allHeld 29 = .ok (.ireturn, 1) := by decide +kernel
theorem dX6_allLost_0 : decode cX6_allLost 0 = .ok (.iconst 0, 1) := by decide +kernel
theorem dX6_allLost_1 : decode cX6_allLost 1 = .ok (.istore_n 1, 1) := by decide +kernel
theorem dX6_allLost_2 : decode cX6_allLost 2 = .ok (.iconst 0, 1) := by decide +kernel
theorem dX6_allLost_3 : decode cX6_allLost 3 = .ok (.istore_n 2, 1) := by decide +kernel
theorem dX6_allLost_4 : decode cX6_allLost 4 = .ok (.iload_n 2, 1) := by decide +kernel
theorem dX6_allLost_5 : decode cX6_allLost 5 = .ok (.bipush 20, 2) := by decide +kernel
theorem dX6_allLost_7 : decode cX6_allLost 7 = .ok (.if_icmp .ge 22, 3) := by decide +kernel
theorem dX6_allLost_10 : decode cX6_allLost 10 = .ok (.iload_n 1, 1) := by decide +kernel
theorem dX6_allLost_11 : decode cX6_allLost 11 = .ok (.aload_n 0, 1) := by decide +kernel
theorem dX6_allLost_12 : decode cX6_allLost 12 = .ok (.getfield 7, 3) := by decide +kernel
theorem dX6_allLost_15 : decode cX6_allLost 15 = .ok (.sipush 323, 3) := by decide +kernel
theorem dX6_allLost_18 : decode cX6_allLost 18 = .ok (.iload_n 2, 1) := by decide +kernel
theorem dX6_allLost_19 : decode cX6_allLost 19 = .ok (.iadd, 1) := by decide +kernel
theorem dX6_allLost_20 : decode cX6_allLost 20 = .ok (.iaload, 1) := by decide +kernel
theorem dX6_allLost_21 : decode cX6_allLost 21 = .ok (.iadd, 1) := by decide +kernel
theorem dX6_allLost_22 : decode cX6_allLost 22 = .ok (.istore_n 1, 1) := by decide +kernel
theorem dX6_allLost_23 : decode cX6_allLost 23 = .ok (.iinc 2 1, 3) := by decide +kernel
theorem dX6_allLost_26 : decode cX6_allLost 26 = .ok (.goto (-22), 3) := by decide +kernel
theorem dX6_allLost_29 : decode cX6_allLost 29 = .ok (.iload_n 1, 1) := by decide +kernel
theorem dX6_allLost_30 : decode cX6_allLost 30 = .ok (.ireturn, 1) := by decide +kernel
theorem dX6_monthsToDeadline_0 : decode cX6_monthsToDeadline 0 = .ok (.aload_n 0, 1) := by decide +kernel
theorem dX6_monthsToDeadline_1 : decode cX6_monthsToDeadline 1 = .ok (.getfield 7, 3) := by decide +kernel
theorem dX6_monthsToDeadline_4 : decode cX6_monthsToDeadline 4 = .ok (.iconst 0, 1) := by decide +kernel
theorem dX6_monthsToDeadline_5 : decode cX6_monthsToDeadline 5 = .ok (.iaload, 1) := by decide +kernel
theorem dX6_monthsToDeadline_6 : decode cX6_monthsToDeadline 6 = .ok (.iconst 1, 1) := by decide +kernel
theorem dX6_monthsToDeadline_7 : decode cX6_monthsToDeadline 7 = .ok (.iadd, 1) := by decide +kernel
theorem dX6_monthsToDeadline_8 : decode cX6_monthsToDeadline 8 = .ok (.istore_n 1, 1) := by decide +kernel
theorem dX6_monthsToDeadline_9 : decode cX6_monthsToDeadline 9 = .ok (.iload_n 1, 1) := by decide +kernel
theorem dX6_monthsToDeadline_10 : decode cX6_monthsToDeadline 10 = .ok (.bipush 12, 2) := by decide +kernel
theorem dX6_monthsToDeadline_12 : decode cX6_monthsToDeadline 12 = .ok (.irem, 1) := by decide +kernel
theorem dX6_monthsToDeadline_13 : decode cX6_monthsToDeadline 13 = .ok (.iconst 4, 1) := by decide +kernel
theorem dX6_monthsToDeadline_14 : decode cX6_monthsToDeadline 14 = .ok (.if_icmp .ne 9, 3) := by decide +kernel
theorem dX6_monthsToDeadline_17 : decode cX6_monthsToDeadline 17 = .ok (.iload_n 1, 1) := by decide +kernel
theorem dX6_monthsToDeadline_18 : decode cX6_monthsToDeadline 18 = .ok (.bipush 12, 2) := by decide +kernel
theorem dX6_monthsToDeadline_20 : decode cX6_monthsToDeadline 20 = .ok (.if_icmp .ge 9, 3) := by decide +kernel
theorem dX6_monthsToDeadline_23 : decode cX6_monthsToDeadline 23 = .ok (.iinc 1 1, 3) := by decide +kernel
theorem dX6_monthsToDeadline_26 : decode cX6_monthsToDeadline 26 = .ok (.goto (-17), 3) := by decide +kernel
theorem dX6_monthsToDeadline_29 : decode cX6_monthsToDeadline 29 = .ok (.iload_n 1, 1) := by decide +kernel
theorem dX6_monthsToDeadline_30 : decode cX6_monthsToDeadline 30 = .ok (.aload_n 0, 1) := by decide +kernel
theorem dX6_monthsToDeadline_31 : decode cX6_monthsToDeadline 31 = .ok (.getfield 7, 3) := by decide +kernel
theorem dX6_monthsToDeadline_34 : decode cX6_monthsToDeadline 34 = .ok (.iconst 0, 1) := by decide +kernel
theorem dX6_monthsToDeadline_35 : decode cX6_monthsToDeadline 35 = .ok (.iaload, 1) := by decide +kernel
theorem dX6_monthsToDeadline_36 : decode cX6_monthsToDeadline 36 = .ok (.isub, 1) := by decide +kernel
theorem dX6_monthsToDeadline_37 : decode cX6_monthsToDeadline 37 = .ok (.ireturn, 1) := by decide +kernel
theorem dX6_count_0 : decode cX6_count 0 = .ok (.iload_n 1, 1) := by decide +kernel
theorem dX6_count_1 : decode cX6_count 1 = .ok (.tableswitch 144 0 14 #[75, 82, 87, 94, 94, 94, 94, 94, 105, 112, 119, 124, 129, 134, 139], 75) := by decide +kernel
theorem dX6_count_76 : decode cX6_count 76 = .ok (.aload_n 0, 1) := by decide +kernel
theorem dX6_count_77 : decode cX6_count 77 = .ok (.getfield 7, 3) := by decide +kernel
theorem dX6_count_80 : decode cX6_count 80 = .ok (.iconst 0, 1) := by decide +kernel
theorem dX6_count_81 : decode cX6_count 81 = .ok (.iaload, 1) := by decide +kernel
theorem dX6_count_82 : decode cX6_count 82 = .ok (.ireturn, 1) := by decide +kernel
theorem dX6_count_83 : decode cX6_count 83 = .ok (.aload_n 0, 1) := by decide +kernel
theorem dX6_count_84 : decode cX6_count 84 = .ok (.invokevirtual 56, 3) := by decide +kernel
theorem dX6_count_87 : decode cX6_count 87 = .ok (.ireturn, 1) := by decide +kernel
theorem dX6_count_88 : decode cX6_count 88 = .ok (.aload_n 0, 1) := by decide +kernel
theorem dX6_count_89 : decode cX6_count 89 = .ok (.getfield 7, 3) := by decide +kernel
theorem dX6_count_92 : decode cX6_count 92 = .ok (.iconst 1, 1) := by decide +kernel
theorem dX6_count_93 : decode cX6_count 93 = .ok (.iaload, 1) := by decide +kernel
theorem dX6_count_94 : decode cX6_count 94 = .ok (.ireturn, 1) := by decide +kernel
theorem dX6_count_95 : decode cX6_count 95 = .ok (.aload_n 0, 1) := by decide +kernel
theorem dX6_count_96 : decode cX6_count 96 = .ok (.getfield 7, 3) := by decide +kernel
theorem dX6_count_99 : decode cX6_count 99 = .ok (.iconst 2, 1) := by decide +kernel
theorem dX6_count_100 : decode cX6_count 100 = .ok (.iload_n 1, 1) := by decide +kernel
theorem dX6_count_101 : decode cX6_count 101 = .ok (.iadd, 1) := by decide +kernel
theorem dX6_count_102 : decode cX6_count 102 = .ok (.iconst 3, 1) := by decide +kernel
theorem dX6_count_103 : decode cX6_count 103 = .ok (.isub, 1) := by decide +kernel
theorem dX6_count_104 : decode cX6_count 104 = .ok (.iaload, 1) := by decide +kernel
theorem dX6_count_105 : decode cX6_count 105 = .ok (.ireturn, 1) := by decide +kernel
theorem dX6_count_106 : decode cX6_count 106 = .ok (.aload_n 0, 1) := by decide +kernel
theorem dX6_count_107 : decode cX6_count 107 = .ok (.bipush 29, 2) := by decide +kernel
theorem dX6_count_109 : decode cX6_count 109 = .ok (.invokevirtual 142, 3) := by decide +kernel
theorem dX6_count_112 : decode cX6_count 112 = .ok (.ireturn, 1) := by decide +kernel
theorem dX6_count_113 : decode cX6_count 113 = .ok (.aload_n 0, 1) := by decide +kernel
theorem dX6_count_114 : decode cX6_count 114 = .ok (.bipush 31, 2) := by decide +kernel
theorem dX6_count_116 : decode cX6_count 116 = .ok (.invokevirtual 142, 3) := by decide +kernel
theorem dX6_count_119 : decode cX6_count 119 = .ok (.ireturn, 1) := by decide +kernel
theorem dX6_count_120 : decode cX6_count 120 = .ok (.aload_n 0, 1) := by decide +kernel
theorem dX6_count_121 : decode cX6_count 121 = .ok (.invokevirtual 148, 3) := by decide +kernel
theorem dX6_count_124 : decode cX6_count 124 = .ok (.ireturn, 1) := by decide +kernel
theorem dX6_count_125 : decode cX6_count 125 = .ok (.aload_n 0, 1) := by decide +kernel
theorem dX6_count_126 : decode cX6_count 126 = .ok (.invokevirtual 151, 3) := by decide +kernel
theorem dX6_count_129 : decode cX6_count 129 = .ok (.ireturn, 1) := by decide +kernel
theorem dX6_count_130 : decode cX6_count 130 = .ok (.aload_n 0, 1) := by decide +kernel
theorem dX6_count_131 : decode cX6_count 131 = .ok (.invokevirtual 154, 3) := by decide +kernel
theorem dX6_count_134 : decode cX6_count 134 = .ok (.ireturn, 1) := by decide +kernel
theorem dX6_count_135 : decode cX6_count 135 = .ok (.aload_n 0, 1) := by decide +kernel
theorem dX6_count_136 : decode cX6_count 136 = .ok (.getfield 29, 3) := by decide +kernel
theorem dX6_count_139 : decode cX6_count 139 = .ok (.ireturn, 1) := by decide +kernel
theorem dX6_count_140 : decode cX6_count 140 = .ok (.aload_n 0, 1) := by decide +kernel
theorem dX6_count_141 : decode cX6_count 141 = .ok (.getfield 99, 3) := by decide +kernel
theorem dX6_count_144 : decode cX6_count 144 = .ok (.ireturn, 1) := by decide +kernel
theorem dX6_count_145 : decode cX6_count 145 = .ok (.bipush (-2), 2) := by decide +kernel
theorem dX6_count_147 : decode cX6_count 147 = .ok (.ireturn, 1) := by decide +kernel
theorem dJ9_max_7cf53_0 : decode cJ9_max_7cf53 0 = .ok (.iload_n 0, 1) := by decide +kernel
theorem dJ9_max_7cf53_1 : decode cJ9_max_7cf53 1 = .ok (.iload_n 1, 1) := by decide +kernel
theorem dJ9_max_7cf53_2 : decode cJ9_max_7cf53 2 = .ok (.if_icmp .lt 7, 3) := by decide +kernel
theorem dJ9_max_7cf53_5 : decode cJ9_max_7cf53 5 = .ok (.iload_n 0, 1) := by decide +kernel
theorem dJ9_max_7cf53_6 : decode cJ9_max_7cf53 6 = .ok (.goto 4, 3) := by decide +kernel
theorem dJ9_max_7cf53_9 : decode cJ9_max_7cf53 9 = .ok (.iload_n 1, 1) := by decide +kernel
theorem dJ9_max_7cf53_10 : decode cJ9_max_7cf53 10 = .ok (.ireturn, 1) := by decide +kernel
theorem dJ9_min_7cf53_0 : decode cJ9_min_7cf53 0 = .ok (.iload_n 0, 1) := by decide +kernel
theorem dJ9_min_7cf53_1 : decode cJ9_min_7cf53 1 = .ok (.iload_n 1, 1) := by decide +kernel
theorem dJ9_min_7cf53_2 : decode cJ9_min_7cf53 2 = .ok (.if_icmp .gt 7, 3) := by decide +kernel
theorem dJ9_min_7cf53_5 : decode cJ9_min_7cf53 5 = .ok (.iload_n 0, 1) := by decide +kernel
theorem dJ9_min_7cf53_6 : decode cJ9_min_7cf53 6 = .ok (.goto 4, 3) := by decide +kernel
theorem dJ9_min_7cf53_9 : decode cJ9_min_7cf53 9 = .ok (.iload_n 1, 1) := by decide +kernel
theorem dJ9_min_7cf53_10 : decode cJ9_min_7cf53 10 = .ok (.ireturn, 1) := by decide +kernel
theorem dL_law_0 : decode cL_law 0 = .ok (.new 7, 3) := by decide +kernel
theorem dL_law_3 : decode cL_law 3 = .ok (.dup, 1) := by decide +kernel
theorem dL_law_4 : decode cL_law 4 = .ok (.invokespecial 9, 3) := by decide +kernel
theorem dL_law_7 : decode cL_law 7 = .ok (.astore_n 1, 1) := by decide +kernel
theorem dL_law_8 : decode cL_law 8 = .ok (.new 10, 3) := by decide +kernel
theorem dL_law_11 : decode cL_law 11 = .ok (.dup, 1) := by decide +kernel
theorem dL_law_12 : decode cL_law 12 = .ok (.invokespecial 12, 3) := by decide +kernel
theorem dL_law_15 : decode cL_law 15 = .ok (.astore_n 2, 1) := by decide +kernel
theorem dL_law_16 : decode cL_law 16 = .ok (.iconst 0, 1) := by decide +kernel
theorem dL_law_17 : decode cL_law 17 = .ok (.istore_n 3, 1) := by decide +kernel
theorem dL_law_18 : decode cL_law 18 = .ok (.iload_n 3, 1) := by decide +kernel
theorem dL_law_19 : decode cL_law 19 = .ok (.aload_n 0, 1) := by decide +kernel
theorem dL_law_20 : decode cL_law 20 = .ok (.arraylength, 1) := by decide +kernel
theorem dL_law_21 : decode cL_law 21 = .ok (.iconst 5, 1) := by decide +kernel
theorem dL_law_22 : decode cL_law 22 = .ok (.isub, 1) := by decide +kernel
theorem dL_law_23 : decode cL_law 23 = .ok (.if_icmp .gt 898, 3) := by decide +kernel
theorem dL_law_26 : decode cL_law 26 = .ok (.aload_n 0, 1) := by decide +kernel
theorem dL_law_27 : decode cL_law 27 = .ok (.iload_n 3, 1) := by decide +kernel
theorem dL_law_28 : decode cL_law 28 = .ok (.iaload, 1) := by decide +kernel
theorem dL_law_29 : decode cL_law 29 = .ok (.bipush 31, 2) := by decide +kernel
theorem dL_law_31 : decode cL_law 31 = .ok (.iand, 1) := by decide +kernel
theorem dL_law_32 : decode cL_law 32 = .ok (.tableswitch 883 0 24 #[116, 129, 162, 195, 238, 291, 344, 387, 420, 443, 486, 509, 534, 547, 560, 573, 586, 599, 632, 665, 708, 741, 774, 807, 860], 116) := by decide +kernel
theorem dL_law_148 : decode cL_law 148 = .ok (.aload_n 1, 1) := by decide +kernel
theorem dL_law_149 : decode cL_law 149 = .ok (.invokevirtual 13, 3) := by decide +kernel
theorem dL_law_152 : decode cL_law 152 = .ok (.aload_n 2, 1) := by decide +kernel
theorem dL_law_153 : decode cL_law 153 = .ok (.invokevirtual 17, 3) := by decide +kernel
theorem dL_law_156 : decode cL_law 156 = .ok (.if_icmp .eq 759, 3) := by decide +kernel
theorem dL_law_159 : decode cL_law 159 = .ok (.iconst 0, 1) := by decide +kernel
theorem dL_law_160 : decode cL_law 160 = .ok (.ireturn, 1) := by decide +kernel
theorem dL_law_161 : decode cL_law 161 = .ok (.aload_n 1, 1) := by decide +kernel
theorem dL_law_162 : decode cL_law 162 = .ok (.aload_n 0, 1) := by decide +kernel
theorem dL_law_163 : decode cL_law 163 = .ok (.iload_n 3, 1) := by decide +kernel
theorem dL_law_164 : decode cL_law 164 = .ok (.iconst 1, 1) := by decide +kernel
theorem dL_law_165 : decode cL_law 165 = .ok (.iadd, 1) := by decide +kernel
theorem dL_law_166 : decode cL_law 166 = .ok (.iaload, 1) := by decide +kernel
theorem dL_law_167 : decode cL_law 167 = .ok (.aload_n 0, 1) := by decide +kernel
theorem dL_law_168 : decode cL_law 168 = .ok (.iload_n 3, 1) := by decide +kernel
theorem dL_law_169 : decode cL_law 169 = .ok (.iconst 2, 1) := by decide +kernel
theorem dL_law_170 : decode cL_law 170 = .ok (.iadd, 1) := by decide +kernel
theorem dL_law_171 : decode cL_law 171 = .ok (.iaload, 1) := by decide +kernel
theorem dL_law_172 : decode cL_law 172 = .ok (.invokevirtual 18, 3) := by decide +kernel
theorem dL_law_175 : decode cL_law 175 = .ok (.aload_n 2, 1) := by decide +kernel
theorem dL_law_176 : decode cL_law 176 = .ok (.aload_n 0, 1) := by decide +kernel
theorem dL_law_177 : decode cL_law 177 = .ok (.iload_n 3, 1) := by decide +kernel
theorem dL_law_178 : decode cL_law 178 = .ok (.iconst 1, 1) := by decide +kernel
theorem dL_law_179 : decode cL_law 179 = .ok (.iadd, 1) := by decide +kernel
theorem dL_law_180 : decode cL_law 180 = .ok (.iaload, 1) := by decide +kernel
theorem dL_law_181 : decode cL_law 181 = .ok (.aload_n 0, 1) := by decide +kernel
theorem dL_law_182 : decode cL_law 182 = .ok (.iload_n 3, 1) := by decide +kernel
theorem dL_law_183 : decode cL_law 183 = .ok (.iconst 2, 1) := by decide +kernel
theorem dL_law_184 : decode cL_law 184 = .ok (.iadd, 1) := by decide +kernel
theorem dL_law_185 : decode cL_law 185 = .ok (.iaload, 1) := by decide +kernel
theorem dL_law_186 : decode cL_law 186 = .ok (.invokevirtual 22, 3) := by decide +kernel
theorem dL_law_189 : decode cL_law 189 = .ok (.if_icmp .eq 726, 3) := by decide +kernel
theorem dL_law_192 : decode cL_law 192 = .ok (.iconst 0, 1) := by decide +kernel
theorem dL_law_193 : decode cL_law 193 = .ok (.ireturn, 1) := by decide +kernel
theorem dL_law_194 : decode cL_law 194 = .ok (.aload_n 1, 1) := by decide +kernel
theorem dL_law_195 : decode cL_law 195 = .ok (.aload_n 0, 1) := by decide +kernel
theorem dL_law_196 : decode cL_law 196 = .ok (.iload_n 3, 1) := by decide +kernel
theorem dL_law_197 : decode cL_law 197 = .ok (.iconst 1, 1) := by decide +kernel
theorem dL_law_198 : decode cL_law 198 = .ok (.iadd, 1) := by decide +kernel
theorem dL_law_199 : decode cL_law 199 = .ok (.iaload, 1) := by decide +kernel
theorem dL_law_200 : decode cL_law 200 = .ok (.aload_n 0, 1) := by decide +kernel
theorem dL_law_201 : decode cL_law 201 = .ok (.iload_n 3, 1) := by decide +kernel
theorem dL_law_202 : decode cL_law 202 = .ok (.iconst 2, 1) := by decide +kernel
theorem dL_law_203 : decode cL_law 203 = .ok (.iadd, 1) := by decide +kernel
theorem dL_law_204 : decode cL_law 204 = .ok (.iaload, 1) := by decide +kernel
theorem dL_law_205 : decode cL_law 205 = .ok (.invokevirtual 23, 3) := by decide +kernel
theorem dL_law_208 : decode cL_law 208 = .ok (.aload_n 2, 1) := by decide +kernel
theorem dL_law_209 : decode cL_law 209 = .ok (.aload_n 0, 1) := by decide +kernel
theorem dL_law_210 : decode cL_law 210 = .ok (.iload_n 3, 1) := by decide +kernel
theorem dL_law_211 : decode cL_law 211 = .ok (.iconst 1, 1) := by decide +kernel
theorem dL_law_212 : decode cL_law 212 = .ok (.iadd, 1) := by decide +kernel
theorem dL_law_213 : decode cL_law 213 = .ok (.iaload, 1) := by decide +kernel
theorem dL_law_214 : decode cL_law 214 = .ok (.aload_n 0, 1) := by decide +kernel
theorem dL_law_215 : decode cL_law 215 = .ok (.iload_n 3, 1) := by decide +kernel
theorem dL_law_216 : decode cL_law 216 = .ok (.iconst 2, 1) := by decide +kernel
theorem dL_law_217 : decode cL_law 217 = .ok (.iadd, 1) := by decide +kernel
theorem dL_law_218 : decode cL_law 218 = .ok (.iaload, 1) := by decide +kernel
theorem dL_law_219 : decode cL_law 219 = .ok (.invokevirtual 26, 3) := by decide +kernel
theorem dL_law_222 : decode cL_law 222 = .ok (.if_icmp .eq 693, 3) := by decide +kernel
theorem dL_law_225 : decode cL_law 225 = .ok (.iconst 0, 1) := by decide +kernel
theorem dL_law_226 : decode cL_law 226 = .ok (.ireturn, 1) := by decide +kernel
theorem dL_law_227 : decode cL_law 227 = .ok (.aload_n 1, 1) := by decide +kernel
theorem dL_law_228 : decode cL_law 228 = .ok (.aload_n 0, 1) := by decide +kernel
theorem dL_law_229 : decode cL_law 229 = .ok (.iload_n 3, 1) := by decide +kernel
theorem dL_law_230 : decode cL_law 230 = .ok (.iconst 1, 1) := by decide +kernel
theorem dL_law_231 : decode cL_law 231 = .ok (.iadd, 1) := by decide +kernel
theorem dL_law_232 : decode cL_law 232 = .ok (.iaload, 1) := by decide +kernel
theorem dL_law_233 : decode cL_law 233 = .ok (.aload_n 0, 1) := by decide +kernel
theorem dL_law_234 : decode cL_law 234 = .ok (.iload_n 3, 1) := by decide +kernel
theorem dL_law_235 : decode cL_law 235 = .ok (.iconst 2, 1) := by decide +kernel
theorem dL_law_236 : decode cL_law 236 = .ok (.iadd, 1) := by decide +kernel
theorem dL_law_237 : decode cL_law 237 = .ok (.iaload, 1) := by decide +kernel
theorem dL_law_238 : decode cL_law 238 = .ok (.aload_n 0, 1) := by decide +kernel
theorem dL_law_239 : decode cL_law 239 = .ok (.iload_n 3, 1) := by decide +kernel
theorem dL_law_240 : decode cL_law 240 = .ok (.iconst 3, 1) := by decide +kernel
theorem dL_law_241 : decode cL_law 241 = .ok (.iadd, 1) := by decide +kernel
theorem dL_law_242 : decode cL_law 242 = .ok (.iaload, 1) := by decide +kernel
theorem dL_law_243 : decode cL_law 243 = .ok (.invokevirtual 27, 3) := by decide +kernel
theorem dL_law_246 : decode cL_law 246 = .ok (.aload_n 2, 1) := by decide +kernel
theorem dL_law_247 : decode cL_law 247 = .ok (.aload_n 0, 1) := by decide +kernel
theorem dL_law_248 : decode cL_law 248 = .ok (.iload_n 3, 1) := by decide +kernel
theorem dL_law_249 : decode cL_law 249 = .ok (.iconst 1, 1) := by decide +kernel
theorem dL_law_250 : decode cL_law 250 = .ok (.iadd, 1) := by decide +kernel
theorem dL_law_251 : decode cL_law 251 = .ok (.iaload, 1) := by decide +kernel
theorem dL_law_252 : decode cL_law 252 = .ok (.aload_n 0, 1) := by decide +kernel
theorem dL_law_253 : decode cL_law 253 = .ok (.iload_n 3, 1) := by decide +kernel
theorem dL_law_254 : decode cL_law 254 = .ok (.iconst 2, 1) := by decide +kernel
theorem dL_law_255 : decode cL_law 255 = .ok (.iadd, 1) := by decide +kernel
theorem dL_law_256 : decode cL_law 256 = .ok (.iaload, 1) := by decide +kernel
theorem dL_law_257 : decode cL_law 257 = .ok (.aload_n 0, 1) := by decide +kernel
theorem dL_law_258 : decode cL_law 258 = .ok (.iload_n 3, 1) := by decide +kernel
theorem dL_law_259 : decode cL_law 259 = .ok (.iconst 3, 1) := by decide +kernel
theorem dL_law_260 : decode cL_law 260 = .ok (.iadd, 1) := by decide +kernel
theorem dL_law_261 : decode cL_law 261 = .ok (.iaload, 1) := by decide +kernel
theorem dL_law_262 : decode cL_law 262 = .ok (.invokevirtual 31, 3) := by decide +kernel
theorem dL_law_265 : decode cL_law 265 = .ok (.if_icmp .eq 650, 3) := by decide +kernel
theorem dL_law_268 : decode cL_law 268 = .ok (.iconst 0, 1) := by decide +kernel
theorem dL_law_269 : decode cL_law 269 = .ok (.ireturn, 1) := by decide +kernel
theorem dL_law_270 : decode cL_law 270 = .ok (.aload_n 1, 1) := by decide +kernel
theorem dL_law_271 : decode cL_law 271 = .ok (.aload_n 0, 1) := by decide +kernel
theorem dL_law_272 : decode cL_law 272 = .ok (.iload_n 3, 1) := by decide +kernel
theorem dL_law_273 : decode cL_law 273 = .ok (.iconst 1, 1) := by decide +kernel
theorem dL_law_274 : decode cL_law 274 = .ok (.iadd, 1) := by decide +kernel
theorem dL_law_275 : decode cL_law 275 = .ok (.iaload, 1) := by decide +kernel
theorem dL_law_276 : decode cL_law 276 = .ok (.aload_n 0, 1) := by decide +kernel
theorem dL_law_277 : decode cL_law 277 = .ok (.iload_n 3, 1) := by decide +kernel
theorem dL_law_278 : decode cL_law 278 = .ok (.iconst 2, 1) := by decide +kernel
theorem dL_law_279 : decode cL_law 279 = .ok (.iadd, 1) := by decide +kernel
theorem dL_law_280 : decode cL_law 280 = .ok (.iaload, 1) := by decide +kernel
theorem dL_law_281 : decode cL_law 281 = .ok (.aload_n 0, 1) := by decide +kernel
theorem dL_law_282 : decode cL_law 282 = .ok (.iload_n 3, 1) := by decide +kernel
theorem dL_law_283 : decode cL_law 283 = .ok (.iconst 3, 1) := by decide +kernel
theorem dL_law_284 : decode cL_law 284 = .ok (.iadd, 1) := by decide +kernel
theorem dL_law_285 : decode cL_law 285 = .ok (.iaload, 1) := by decide +kernel
theorem dL_law_286 : decode cL_law 286 = .ok (.aload_n 0, 1) := by decide +kernel
theorem dL_law_287 : decode cL_law 287 = .ok (.iload_n 3, 1) := by decide +kernel
theorem dL_law_288 : decode cL_law 288 = .ok (.iconst 4, 1) := by decide +kernel
theorem dL_law_289 : decode cL_law 289 = .ok (.iadd, 1) := by decide +kernel
theorem dL_law_290 : decode cL_law 290 = .ok (.iaload, 1) := by decide +kernel
theorem dL_law_291 : decode cL_law 291 = .ok (.invokevirtual 32, 3) := by decide +kernel
theorem dL_law_294 : decode cL_law 294 = .ok (.aload_n 2, 1) := by decide +kernel
theorem dL_law_295 : decode cL_law 295 = .ok (.aload_n 0, 1) := by decide +kernel
theorem dL_law_296 : decode cL_law 296 = .ok (.iload_n 3, 1) := by decide +kernel
theorem dL_law_297 : decode cL_law 297 = .ok (.iconst 1, 1) := by decide +kernel
theorem dL_law_298 : decode cL_law 298 = .ok (.iadd, 1) := by decide +kernel
theorem dL_law_299 : decode cL_law 299 = .ok (.iaload, 1) := by decide +kernel
theorem dL_law_300 : decode cL_law 300 = .ok (.aload_n 0, 1) := by decide +kernel
theorem dL_law_301 : decode cL_law 301 = .ok (.iload_n 3, 1) := by decide +kernel
theorem dL_law_302 : decode cL_law 302 = .ok (.iconst 2, 1) := by decide +kernel
theorem dL_law_303 : decode cL_law 303 = .ok (.iadd, 1) := by decide +kernel
theorem dL_law_304 : decode cL_law 304 = .ok (.iaload, 1) := by decide +kernel
theorem dL_law_305 : decode cL_law 305 = .ok (.aload_n 0, 1) := by decide +kernel
theorem dL_law_306 : decode cL_law 306 = .ok (.iload_n 3, 1) := by decide +kernel
theorem dL_law_307 : decode cL_law 307 = .ok (.iconst 3, 1) := by decide +kernel
theorem dL_law_308 : decode cL_law 308 = .ok (.iadd, 1) := by decide +kernel
theorem dL_law_309 : decode cL_law 309 = .ok (.iaload, 1) := by decide +kernel
theorem dL_law_310 : decode cL_law 310 = .ok (.aload_n 0, 1) := by decide +kernel
theorem dL_law_311 : decode cL_law 311 = .ok (.iload_n 3, 1) := by decide +kernel
theorem dL_law_312 : decode cL_law 312 = .ok (.iconst 4, 1) := by decide +kernel
theorem dL_law_313 : decode cL_law 313 = .ok (.iadd, 1) := by decide +kernel
theorem dL_law_314 : decode cL_law 314 = .ok (.iaload, 1) := by decide +kernel
theorem dL_law_315 : decode cL_law 315 = .ok (.invokevirtual 36, 3) := by decide +kernel
theorem dL_law_318 : decode cL_law 318 = .ok (.if_icmp .eq 597, 3) := by decide +kernel
theorem dL_law_321 : decode cL_law 321 = .ok (.iconst 0, 1) := by decide +kernel
theorem dL_law_322 : decode cL_law 322 = .ok (.ireturn, 1) := by decide +kernel
theorem dL_law_323 : decode cL_law 323 = .ok (.aload_n 1, 1) := by decide +kernel
theorem dL_law_324 : decode cL_law 324 = .ok (.aload_n 0, 1) := by decide +kernel
theorem dL_law_325 : decode cL_law 325 = .ok (.iload_n 3, 1) := by decide +kernel
theorem dL_law_326 : decode cL_law 326 = .ok (.iconst 1, 1) := by decide +kernel
theorem dL_law_327 : decode cL_law 327 = .ok (.iadd, 1) := by decide +kernel
theorem dL_law_328 : decode cL_law 328 = .ok (.iaload, 1) := by decide +kernel
theorem dL_law_329 : decode cL_law 329 = .ok (.aload_n 0, 1) := by decide +kernel
theorem dL_law_330 : decode cL_law 330 = .ok (.iload_n 3, 1) := by decide +kernel
theorem dL_law_331 : decode cL_law 331 = .ok (.iconst 2, 1) := by decide +kernel
theorem dL_law_332 : decode cL_law 332 = .ok (.iadd, 1) := by decide +kernel
theorem dL_law_333 : decode cL_law 333 = .ok (.iaload, 1) := by decide +kernel
theorem dL_law_334 : decode cL_law 334 = .ok (.aload_n 0, 1) := by decide +kernel
theorem dL_law_335 : decode cL_law 335 = .ok (.iload_n 3, 1) := by decide +kernel
theorem dL_law_336 : decode cL_law 336 = .ok (.iconst 3, 1) := by decide +kernel
theorem dL_law_337 : decode cL_law 337 = .ok (.iadd, 1) := by decide +kernel
theorem dL_law_338 : decode cL_law 338 = .ok (.iaload, 1) := by decide +kernel
theorem dL_law_339 : decode cL_law 339 = .ok (.aload_n 0, 1) := by decide +kernel
theorem dL_law_340 : decode cL_law 340 = .ok (.iload_n 3, 1) := by decide +kernel
theorem dL_law_341 : decode cL_law 341 = .ok (.iconst 4, 1) := by decide +kernel
theorem dL_law_342 : decode cL_law 342 = .ok (.iadd, 1) := by decide +kernel
theorem dL_law_343 : decode cL_law 343 = .ok (.iaload, 1) := by decide +kernel
theorem dL_law_344 : decode cL_law 344 = .ok (.invokevirtual 37, 3) := by decide +kernel
theorem dL_law_347 : decode cL_law 347 = .ok (.aload_n 2, 1) := by decide +kernel
theorem dL_law_348 : decode cL_law 348 = .ok (.aload_n 0, 1) := by decide +kernel
theorem dL_law_349 : decode cL_law 349 = .ok (.iload_n 3, 1) := by decide +kernel
theorem dL_law_350 : decode cL_law 350 = .ok (.iconst 1, 1) := by decide +kernel
theorem dL_law_351 : decode cL_law 351 = .ok (.iadd, 1) := by decide +kernel
theorem dL_law_352 : decode cL_law 352 = .ok (.iaload, 1) := by decide +kernel
theorem dL_law_353 : decode cL_law 353 = .ok (.aload_n 0, 1) := by decide +kernel
theorem dL_law_354 : decode cL_law 354 = .ok (.iload_n 3, 1) := by decide +kernel
theorem dL_law_355 : decode cL_law 355 = .ok (.iconst 2, 1) := by decide +kernel
theorem dL_law_356 : decode cL_law 356 = .ok (.iadd, 1) := by decide +kernel
theorem dL_law_357 : decode cL_law 357 = .ok (.iaload, 1) := by decide +kernel
theorem dL_law_358 : decode cL_law 358 = .ok (.aload_n 0, 1) := by decide +kernel
theorem dL_law_359 : decode cL_law 359 = .ok (.iload_n 3, 1) := by decide +kernel
theorem dL_law_360 : decode cL_law 360 = .ok (.iconst 3, 1) := by decide +kernel
theorem dL_law_361 : decode cL_law 361 = .ok (.iadd, 1) := by decide +kernel
theorem dL_law_362 : decode cL_law 362 = .ok (.iaload, 1) := by decide +kernel
theorem dL_law_363 : decode cL_law 363 = .ok (.aload_n 0, 1) := by decide +kernel
theorem dL_law_364 : decode cL_law 364 = .ok (.iload_n 3, 1) := by decide +kernel
theorem dL_law_365 : decode cL_law 365 = .ok (.iconst 4, 1) := by decide +kernel
theorem dL_law_366 : decode cL_law 366 = .ok (.iadd, 1) := by decide +kernel
theorem dL_law_367 : decode cL_law 367 = .ok (.iaload, 1) := by decide +kernel
theorem dL_law_368 : decode cL_law 368 = .ok (.invokevirtual 40, 3) := by decide +kernel
theorem dL_law_371 : decode cL_law 371 = .ok (.if_icmp .eq 544, 3) := by decide +kernel
theorem dL_law_374 : decode cL_law 374 = .ok (.iconst 0, 1) := by decide +kernel
theorem dL_law_375 : decode cL_law 375 = .ok (.ireturn, 1) := by decide +kernel
theorem dL_law_376 : decode cL_law 376 = .ok (.aload_n 1, 1) := by decide +kernel
theorem dL_law_377 : decode cL_law 377 = .ok (.aload_n 0, 1) := by decide +kernel
theorem dL_law_378 : decode cL_law 378 = .ok (.iload_n 3, 1) := by decide +kernel
theorem dL_law_379 : decode cL_law 379 = .ok (.iconst 1, 1) := by decide +kernel
theorem dL_law_380 : decode cL_law 380 = .ok (.iadd, 1) := by decide +kernel
theorem dL_law_381 : decode cL_law 381 = .ok (.iaload, 1) := by decide +kernel
theorem dL_law_382 : decode cL_law 382 = .ok (.aload_n 0, 1) := by decide +kernel
theorem dL_law_383 : decode cL_law 383 = .ok (.iload_n 3, 1) := by decide +kernel
theorem dL_law_384 : decode cL_law 384 = .ok (.iconst 2, 1) := by decide +kernel
theorem dL_law_385 : decode cL_law 385 = .ok (.iadd, 1) := by decide +kernel
theorem dL_law_386 : decode cL_law 386 = .ok (.iaload, 1) := by decide +kernel
theorem dL_law_387 : decode cL_law 387 = .ok (.aload_n 0, 1) := by decide +kernel
theorem dL_law_388 : decode cL_law 388 = .ok (.iload_n 3, 1) := by decide +kernel
theorem dL_law_389 : decode cL_law 389 = .ok (.iconst 3, 1) := by decide +kernel
theorem dL_law_390 : decode cL_law 390 = .ok (.iadd, 1) := by decide +kernel
theorem dL_law_391 : decode cL_law 391 = .ok (.iaload, 1) := by decide +kernel
theorem dL_law_392 : decode cL_law 392 = .ok (.invokevirtual 41, 3) := by decide +kernel
theorem dL_law_395 : decode cL_law 395 = .ok (.aload_n 2, 1) := by decide +kernel
theorem dL_law_396 : decode cL_law 396 = .ok (.aload_n 0, 1) := by decide +kernel
theorem dL_law_397 : decode cL_law 397 = .ok (.iload_n 3, 1) := by decide +kernel
theorem dL_law_398 : decode cL_law 398 = .ok (.iconst 1, 1) := by decide +kernel
theorem dL_law_399 : decode cL_law 399 = .ok (.iadd, 1) := by decide +kernel
theorem dL_law_400 : decode cL_law 400 = .ok (.iaload, 1) := by decide +kernel
theorem dL_law_401 : decode cL_law 401 = .ok (.aload_n 0, 1) := by decide +kernel
theorem dL_law_402 : decode cL_law 402 = .ok (.iload_n 3, 1) := by decide +kernel
theorem dL_law_403 : decode cL_law 403 = .ok (.iconst 2, 1) := by decide +kernel
theorem dL_law_404 : decode cL_law 404 = .ok (.iadd, 1) := by decide +kernel
theorem dL_law_405 : decode cL_law 405 = .ok (.iaload, 1) := by decide +kernel
theorem dL_law_406 : decode cL_law 406 = .ok (.aload_n 0, 1) := by decide +kernel
theorem dL_law_407 : decode cL_law 407 = .ok (.iload_n 3, 1) := by decide +kernel
theorem dL_law_408 : decode cL_law 408 = .ok (.iconst 3, 1) := by decide +kernel
theorem dL_law_409 : decode cL_law 409 = .ok (.iadd, 1) := by decide +kernel
theorem dL_law_410 : decode cL_law 410 = .ok (.iaload, 1) := by decide +kernel
theorem dL_law_411 : decode cL_law 411 = .ok (.invokevirtual 44, 3) := by decide +kernel
theorem dL_law_414 : decode cL_law 414 = .ok (.if_icmp .eq 501, 3) := by decide +kernel
theorem dL_law_417 : decode cL_law 417 = .ok (.iconst 0, 1) := by decide +kernel
theorem dL_law_418 : decode cL_law 418 = .ok (.ireturn, 1) := by decide +kernel
theorem dL_law_419 : decode cL_law 419 = .ok (.aload_n 1, 1) := by decide +kernel
theorem dL_law_420 : decode cL_law 420 = .ok (.aload_n 0, 1) := by decide +kernel
theorem dL_law_421 : decode cL_law 421 = .ok (.iload_n 3, 1) := by decide +kernel
theorem dL_law_422 : decode cL_law 422 = .ok (.iconst 1, 1) := by decide +kernel
theorem dL_law_423 : decode cL_law 423 = .ok (.iadd, 1) := by decide +kernel
theorem dL_law_424 : decode cL_law 424 = .ok (.iaload, 1) := by decide +kernel
theorem dL_law_425 : decode cL_law 425 = .ok (.aload_n 0, 1) := by decide +kernel
theorem dL_law_426 : decode cL_law 426 = .ok (.iload_n 3, 1) := by decide +kernel
theorem dL_law_427 : decode cL_law 427 = .ok (.iconst 2, 1) := by decide +kernel
theorem dL_law_428 : decode cL_law 428 = .ok (.iadd, 1) := by decide +kernel
theorem dL_law_429 : decode cL_law 429 = .ok (.iaload, 1) := by decide +kernel
theorem dL_law_430 : decode cL_law 430 = .ok (.invokevirtual 45, 3) := by decide +kernel
theorem dL_law_433 : decode cL_law 433 = .ok (.aload_n 2, 1) := by decide +kernel
theorem dL_law_434 : decode cL_law 434 = .ok (.aload_n 0, 1) := by decide +kernel
theorem dL_law_435 : decode cL_law 435 = .ok (.iload_n 3, 1) := by decide +kernel
theorem dL_law_436 : decode cL_law 436 = .ok (.iconst 1, 1) := by decide +kernel
theorem dL_law_437 : decode cL_law 437 = .ok (.iadd, 1) := by decide +kernel
theorem dL_law_438 : decode cL_law 438 = .ok (.iaload, 1) := by decide +kernel
theorem dL_law_439 : decode cL_law 439 = .ok (.aload_n 0, 1) := by decide +kernel
theorem dL_law_440 : decode cL_law 440 = .ok (.iload_n 3, 1) := by decide +kernel
theorem dL_law_441 : decode cL_law 441 = .ok (.iconst 2, 1) := by decide +kernel
theorem dL_law_442 : decode cL_law 442 = .ok (.iadd, 1) := by decide +kernel
theorem dL_law_443 : decode cL_law 443 = .ok (.iaload, 1) := by decide +kernel
theorem dL_law_444 : decode cL_law 444 = .ok (.invokevirtual 48, 3) := by decide +kernel
theorem dL_law_447 : decode cL_law 447 = .ok (.if_icmp .eq 468, 3) := by decide +kernel
theorem dL_law_450 : decode cL_law 450 = .ok (.iconst 0, 1) := by decide +kernel
theorem dL_law_451 : decode cL_law 451 = .ok (.ireturn, 1) := by decide +kernel
theorem dL_law_452 : decode cL_law 452 = .ok (.aload_n 1, 1) := by decide +kernel
theorem dL_law_453 : decode cL_law 453 = .ok (.aload_n 0, 1) := by decide +kernel
theorem dL_law_454 : decode cL_law 454 = .ok (.iload_n 3, 1) := by decide +kernel
theorem dL_law_455 : decode cL_law 455 = .ok (.iconst 1, 1) := by decide +kernel
theorem dL_law_456 : decode cL_law 456 = .ok (.iadd, 1) := by decide +kernel
theorem dL_law_457 : decode cL_law 457 = .ok (.iaload, 1) := by decide +kernel
theorem dL_law_458 : decode cL_law 458 = .ok (.invokevirtual 49, 3) := by decide +kernel
theorem dL_law_461 : decode cL_law 461 = .ok (.aload_n 2, 1) := by decide +kernel
theorem dL_law_462 : decode cL_law 462 = .ok (.aload_n 0, 1) := by decide +kernel
theorem dL_law_463 : decode cL_law 463 = .ok (.iload_n 3, 1) := by decide +kernel
theorem dL_law_464 : decode cL_law 464 = .ok (.iconst 1, 1) := by decide +kernel
theorem dL_law_465 : decode cL_law 465 = .ok (.iadd, 1) := by decide +kernel
theorem dL_law_466 : decode cL_law 466 = .ok (.iaload, 1) := by decide +kernel
theorem dL_law_467 : decode cL_law 467 = .ok (.invokevirtual 53, 3) := by decide +kernel
theorem dL_law_470 : decode cL_law 470 = .ok (.if_icmp .eq 445, 3) := by decide +kernel
theorem dL_law_473 : decode cL_law 473 = .ok (.iconst 0, 1) := by decide +kernel
theorem dL_law_474 : decode cL_law 474 = .ok (.ireturn, 1) := by decide +kernel
theorem dL_law_475 : decode cL_law 475 = .ok (.aload_n 1, 1) := by decide +kernel
theorem dL_law_476 : decode cL_law 476 = .ok (.aload_n 0, 1) := by decide +kernel
theorem dL_law_477 : decode cL_law 477 = .ok (.iload_n 3, 1) := by decide +kernel
theorem dL_law_478 : decode cL_law 478 = .ok (.iconst 1, 1) := by decide +kernel
theorem dL_law_479 : decode cL_law 479 = .ok (.iadd, 1) := by decide +kernel
theorem dL_law_480 : decode cL_law 480 = .ok (.iaload, 1) := by decide +kernel
theorem dL_law_481 : decode cL_law 481 = .ok (.aload_n 0, 1) := by decide +kernel
theorem dL_law_482 : decode cL_law 482 = .ok (.iload_n 3, 1) := by decide +kernel
theorem dL_law_483 : decode cL_law 483 = .ok (.iconst 2, 1) := by decide +kernel
theorem dL_law_484 : decode cL_law 484 = .ok (.iadd, 1) := by decide +kernel
theorem dL_law_485 : decode cL_law 485 = .ok (.iaload, 1) := by decide +kernel
theorem dL_law_486 : decode cL_law 486 = .ok (.aload_n 0, 1) := by decide +kernel
theorem dL_law_487 : decode cL_law 487 = .ok (.iload_n 3, 1) := by decide +kernel
theorem dL_law_488 : decode cL_law 488 = .ok (.iconst 3, 1) := by decide +kernel
theorem dL_law_489 : decode cL_law 489 = .ok (.iadd, 1) := by decide +kernel
theorem dL_law_490 : decode cL_law 490 = .ok (.iaload, 1) := by decide +kernel
theorem dL_law_491 : decode cL_law 491 = .ok (.invokevirtual 54, 3) := by decide +kernel
theorem dL_law_494 : decode cL_law 494 = .ok (.aload_n 2, 1) := by decide +kernel
theorem dL_law_495 : decode cL_law 495 = .ok (.aload_n 0, 1) := by decide +kernel
theorem dL_law_496 : decode cL_law 496 = .ok (.iload_n 3, 1) := by decide +kernel
theorem dL_law_497 : decode cL_law 497 = .ok (.iconst 1, 1) := by decide +kernel
theorem dL_law_498 : decode cL_law 498 = .ok (.iadd, 1) := by decide +kernel
theorem dL_law_499 : decode cL_law 499 = .ok (.iaload, 1) := by decide +kernel
theorem dL_law_500 : decode cL_law 500 = .ok (.aload_n 0, 1) := by decide +kernel
theorem dL_law_501 : decode cL_law 501 = .ok (.iload_n 3, 1) := by decide +kernel
theorem dL_law_502 : decode cL_law 502 = .ok (.iconst 2, 1) := by decide +kernel
theorem dL_law_503 : decode cL_law 503 = .ok (.iadd, 1) := by decide +kernel
theorem dL_law_504 : decode cL_law 504 = .ok (.iaload, 1) := by decide +kernel
theorem dL_law_505 : decode cL_law 505 = .ok (.aload_n 0, 1) := by decide +kernel
theorem dL_law_506 : decode cL_law 506 = .ok (.iload_n 3, 1) := by decide +kernel
theorem dL_law_507 : decode cL_law 507 = .ok (.iconst 3, 1) := by decide +kernel
theorem dL_law_508 : decode cL_law 508 = .ok (.iadd, 1) := by decide +kernel
theorem dL_law_509 : decode cL_law 509 = .ok (.iaload, 1) := by decide +kernel
theorem dL_law_510 : decode cL_law 510 = .ok (.invokevirtual 57, 3) := by decide +kernel
theorem dL_law_513 : decode cL_law 513 = .ok (.if_icmp .eq 402, 3) := by decide +kernel
theorem dL_law_516 : decode cL_law 516 = .ok (.iconst 0, 1) := by decide +kernel
theorem dL_law_517 : decode cL_law 517 = .ok (.ireturn, 1) := by decide +kernel
theorem dL_law_518 : decode cL_law 518 = .ok (.aload_n 1, 1) := by decide +kernel
theorem dL_law_519 : decode cL_law 519 = .ok (.aload_n 0, 1) := by decide +kernel
theorem dL_law_520 : decode cL_law 520 = .ok (.iload_n 3, 1) := by decide +kernel
theorem dL_law_521 : decode cL_law 521 = .ok (.iconst 1, 1) := by decide +kernel
theorem dL_law_522 : decode cL_law 522 = .ok (.iadd, 1) := by decide +kernel
theorem dL_law_523 : decode cL_law 523 = .ok (.iaload, 1) := by decide +kernel
theorem dL_law_524 : decode cL_law 524 = .ok (.invokevirtual 58, 3) := by decide +kernel
theorem dL_law_527 : decode cL_law 527 = .ok (.aload_n 2, 1) := by decide +kernel
theorem dL_law_528 : decode cL_law 528 = .ok (.aload_n 0, 1) := by decide +kernel
theorem dL_law_529 : decode cL_law 529 = .ok (.iload_n 3, 1) := by decide +kernel
theorem dL_law_530 : decode cL_law 530 = .ok (.iconst 1, 1) := by decide +kernel
theorem dL_law_531 : decode cL_law 531 = .ok (.iadd, 1) := by decide +kernel
theorem dL_law_532 : decode cL_law 532 = .ok (.iaload, 1) := by decide +kernel
theorem dL_law_533 : decode cL_law 533 = .ok (.invokevirtual 61, 3) := by decide +kernel
theorem dL_law_536 : decode cL_law 536 = .ok (.if_icmp .eq 379, 3) := by decide +kernel
theorem dL_law_539 : decode cL_law 539 = .ok (.iconst 0, 1) := by decide +kernel
theorem dL_law_540 : decode cL_law 540 = .ok (.ireturn, 1) := by decide +kernel
theorem dL_law_541 : decode cL_law 541 = .ok (.aload_n 1, 1) := by decide +kernel
theorem dL_law_542 : decode cL_law 542 = .ok (.aload_n 0, 1) := by decide +kernel
theorem dL_law_543 : decode cL_law 543 = .ok (.iload_n 3, 1) := by decide +kernel
theorem dL_law_544 : decode cL_law 544 = .ok (.iconst 1, 1) := by decide +kernel
theorem dL_law_545 : decode cL_law 545 = .ok (.iadd, 1) := by decide +kernel
theorem dL_law_546 : decode cL_law 546 = .ok (.iaload, 1) := by decide +kernel
theorem dL_law_547 : decode cL_law 547 = .ok (.i2c, 1) := by decide +kernel
theorem dL_law_548 : decode cL_law 548 = .ok (.invokevirtual 62, 3) := by decide +kernel
theorem dL_law_551 : decode cL_law 551 = .ok (.aload_n 2, 1) := by decide +kernel
theorem dL_law_552 : decode cL_law 552 = .ok (.aload_n 0, 1) := by decide +kernel
theorem dL_law_553 : decode cL_law 553 = .ok (.iload_n 3, 1) := by decide +kernel
theorem dL_law_554 : decode cL_law 554 = .ok (.iconst 1, 1) := by decide +kernel
theorem dL_law_555 : decode cL_law 555 = .ok (.iadd, 1) := by decide +kernel
theorem dL_law_556 : decode cL_law 556 = .ok (.iaload, 1) := by decide +kernel
theorem dL_law_557 : decode cL_law 557 = .ok (.i2c, 1) := by decide +kernel
theorem dL_law_558 : decode cL_law 558 = .ok (.invokevirtual 66, 3) := by decide +kernel
theorem dL_law_561 : decode cL_law 561 = .ok (.if_icmp .eq 354, 3) := by decide +kernel
theorem dL_law_564 : decode cL_law 564 = .ok (.iconst 0, 1) := by decide +kernel
theorem dL_law_565 : decode cL_law 565 = .ok (.ireturn, 1) := by decide +kernel
theorem dL_law_566 : decode cL_law 566 = .ok (.aload_n 1, 1) := by decide +kernel
theorem dL_law_567 : decode cL_law 567 = .ok (.invokevirtual 67, 3) := by decide +kernel
theorem dL_law_570 : decode cL_law 570 = .ok (.aload_n 2, 1) := by decide +kernel
theorem dL_law_571 : decode cL_law 571 = .ok (.invokevirtual 70, 3) := by decide +kernel
theorem dL_law_574 : decode cL_law 574 = .ok (.if_icmp .eq 341, 3) := by decide +kernel
theorem dL_law_577 : decode cL_law 577 = .ok (.iconst 0, 1) := by decide +kernel
theorem dL_law_578 : decode cL_law 578 = .ok (.ireturn, 1) := by decide +kernel
theorem dL_law_579 : decode cL_law 579 = .ok (.aload_n 1, 1) := by decide +kernel
theorem dL_law_580 : decode cL_law 580 = .ok (.invokevirtual 71, 3) := by decide +kernel
theorem dL_law_583 : decode cL_law 583 = .ok (.aload_n 2, 1) := by decide +kernel
theorem dL_law_584 : decode cL_law 584 = .ok (.invokevirtual 74, 3) := by decide +kernel
theorem dL_law_587 : decode cL_law 587 = .ok (.if_icmp .eq 328, 3) := by decide +kernel
theorem dL_law_590 : decode cL_law 590 = .ok (.iconst 0, 1) := by decide +kernel
theorem dL_law_591 : decode cL_law 591 = .ok (.ireturn, 1) := by decide +kernel
theorem dL_law_592 : decode cL_law 592 = .ok (.aload_n 1, 1) := by decide +kernel
theorem dL_law_593 : decode cL_law 593 = .ok (.invokevirtual 75, 3) := by decide +kernel
theorem dL_law_596 : decode cL_law 596 = .ok (.aload_n 2, 1) := by decide +kernel
theorem dL_law_597 : decode cL_law 597 = .ok (.invokevirtual 78, 3) := by decide +kernel
theorem dL_law_600 : decode cL_law 600 = .ok (.if_icmp .eq 315, 3) := by decide +kernel
theorem dL_law_603 : decode cL_law 603 = .ok (.iconst 0, 1) := by decide +kernel
theorem dL_law_604 : decode cL_law 604 = .ok (.ireturn, 1) := by decide +kernel
theorem dL_law_605 : decode cL_law 605 = .ok (.aload_n 1, 1) := by decide +kernel
theorem dL_law_606 : decode cL_law 606 = .ok (.invokevirtual 79, 3) := by decide +kernel
theorem dL_law_609 : decode cL_law 609 = .ok (.aload_n 2, 1) := by decide +kernel
theorem dL_law_610 : decode cL_law 610 = .ok (.invokevirtual 82, 3) := by decide +kernel
theorem dL_law_613 : decode cL_law 613 = .ok (.if_icmp .eq 302, 3) := by decide +kernel
theorem dL_law_616 : decode cL_law 616 = .ok (.iconst 0, 1) := by decide +kernel
theorem dL_law_617 : decode cL_law 617 = .ok (.ireturn, 1) := by decide +kernel
theorem dL_law_618 : decode cL_law 618 = .ok (.aload_n 1, 1) := by decide +kernel
theorem dL_law_619 : decode cL_law 619 = .ok (.invokevirtual 83, 3) := by decide +kernel
theorem dL_law_622 : decode cL_law 622 = .ok (.aload_n 2, 1) := by decide +kernel
theorem dL_law_623 : decode cL_law 623 = .ok (.invokevirtual 86, 3) := by decide +kernel
theorem dL_law_626 : decode cL_law 626 = .ok (.if_icmp .eq 289, 3) := by decide +kernel
theorem dL_law_629 : decode cL_law 629 = .ok (.iconst 0, 1) := by decide +kernel
theorem dL_law_630 : decode cL_law 630 = .ok (.ireturn, 1) := by decide +kernel
theorem dL_law_631 : decode cL_law 631 = .ok (.aload_n 1, 1) := by decide +kernel
theorem dL_law_632 : decode cL_law 632 = .ok (.aload_n 0, 1) := by decide +kernel
theorem dL_law_633 : decode cL_law 633 = .ok (.iload_n 3, 1) := by decide +kernel
theorem dL_law_634 : decode cL_law 634 = .ok (.iconst 1, 1) := by decide +kernel
theorem dL_law_635 : decode cL_law 635 = .ok (.iadd, 1) := by decide +kernel
theorem dL_law_636 : decode cL_law 636 = .ok (.iaload, 1) := by decide +kernel
theorem dL_law_637 : decode cL_law 637 = .ok (.aload_n 0, 1) := by decide +kernel
theorem dL_law_638 : decode cL_law 638 = .ok (.iload_n 3, 1) := by decide +kernel
theorem dL_law_639 : decode cL_law 639 = .ok (.iconst 2, 1) := by decide +kernel
theorem dL_law_640 : decode cL_law 640 = .ok (.iadd, 1) := by decide +kernel
theorem dL_law_641 : decode cL_law 641 = .ok (.iaload, 1) := by decide +kernel
theorem dL_law_642 : decode cL_law 642 = .ok (.invokevirtual 87, 3) := by decide +kernel
theorem dL_law_645 : decode cL_law 645 = .ok (.aload_n 2, 1) := by decide +kernel
theorem dL_law_646 : decode cL_law 646 = .ok (.aload_n 0, 1) := by decide +kernel
theorem dL_law_647 : decode cL_law 647 = .ok (.iload_n 3, 1) := by decide +kernel
theorem dL_law_648 : decode cL_law 648 = .ok (.iconst 1, 1) := by decide +kernel
theorem dL_law_649 : decode cL_law 649 = .ok (.iadd, 1) := by decide +kernel
theorem dL_law_650 : decode cL_law 650 = .ok (.iaload, 1) := by decide +kernel
theorem dL_law_651 : decode cL_law 651 = .ok (.aload_n 0, 1) := by decide +kernel
theorem dL_law_652 : decode cL_law 652 = .ok (.iload_n 3, 1) := by decide +kernel
theorem dL_law_653 : decode cL_law 653 = .ok (.iconst 2, 1) := by decide +kernel
theorem dL_law_654 : decode cL_law 654 = .ok (.iadd, 1) := by decide +kernel
theorem dL_law_655 : decode cL_law 655 = .ok (.iaload, 1) := by decide +kernel
theorem dL_law_656 : decode cL_law 656 = .ok (.invokevirtual 90, 3) := by decide +kernel
theorem dL_law_659 : decode cL_law 659 = .ok (.if_icmp .eq 256, 3) := by decide +kernel
theorem dL_law_662 : decode cL_law 662 = .ok (.iconst 0, 1) := by decide +kernel
theorem dL_law_663 : decode cL_law 663 = .ok (.ireturn, 1) := by decide +kernel
theorem dL_law_664 : decode cL_law 664 = .ok (.aload_n 1, 1) := by decide +kernel
theorem dL_law_665 : decode cL_law 665 = .ok (.aload_n 0, 1) := by decide +kernel
theorem dL_law_666 : decode cL_law 666 = .ok (.iload_n 3, 1) := by decide +kernel
theorem dL_law_667 : decode cL_law 667 = .ok (.iconst 1, 1) := by decide +kernel
theorem dL_law_668 : decode cL_law 668 = .ok (.iadd, 1) := by decide +kernel
theorem dL_law_669 : decode cL_law 669 = .ok (.iaload, 1) := by decide +kernel
theorem dL_law_670 : decode cL_law 670 = .ok (.aload_n 0, 1) := by decide +kernel
theorem dL_law_671 : decode cL_law 671 = .ok (.iload_n 3, 1) := by decide +kernel
theorem dL_law_672 : decode cL_law 672 = .ok (.iconst 2, 1) := by decide +kernel
theorem dL_law_673 : decode cL_law 673 = .ok (.iadd, 1) := by decide +kernel
theorem dL_law_674 : decode cL_law 674 = .ok (.iaload, 1) := by decide +kernel
theorem dL_law_675 : decode cL_law 675 = .ok (.invokevirtual 91, 3) := by decide +kernel
theorem dL_law_678 : decode cL_law 678 = .ok (.aload_n 2, 1) := by decide +kernel
theorem dL_law_679 : decode cL_law 679 = .ok (.aload_n 0, 1) := by decide +kernel
theorem dL_law_680 : decode cL_law 680 = .ok (.iload_n 3, 1) := by decide +kernel
theorem dL_law_681 : decode cL_law 681 = .ok (.iconst 1, 1) := by decide +kernel
theorem dL_law_682 : decode cL_law 682 = .ok (.iadd, 1) := by decide +kernel
theorem dL_law_683 : decode cL_law 683 = .ok (.iaload, 1) := by decide +kernel
theorem dL_law_684 : decode cL_law 684 = .ok (.aload_n 0, 1) := by decide +kernel
theorem dL_law_685 : decode cL_law 685 = .ok (.iload_n 3, 1) := by decide +kernel
theorem dL_law_686 : decode cL_law 686 = .ok (.iconst 2, 1) := by decide +kernel
theorem dL_law_687 : decode cL_law 687 = .ok (.iadd, 1) := by decide +kernel
theorem dL_law_688 : decode cL_law 688 = .ok (.iaload, 1) := by decide +kernel
theorem dL_law_689 : decode cL_law 689 = .ok (.invokevirtual 94, 3) := by decide +kernel
theorem dL_law_692 : decode cL_law 692 = .ok (.if_icmp .eq 223, 3) := by decide +kernel
theorem dL_law_695 : decode cL_law 695 = .ok (.iconst 0, 1) := by decide +kernel
theorem dL_law_696 : decode cL_law 696 = .ok (.ireturn, 1) := by decide +kernel
theorem dL_law_697 : decode cL_law 697 = .ok (.aload_n 1, 1) := by decide +kernel
theorem dL_law_698 : decode cL_law 698 = .ok (.aload_n 0, 1) := by decide +kernel
theorem dL_law_699 : decode cL_law 699 = .ok (.iload_n 3, 1) := by decide +kernel
theorem dL_law_700 : decode cL_law 700 = .ok (.iconst 1, 1) := by decide +kernel
theorem dL_law_701 : decode cL_law 701 = .ok (.iadd, 1) := by decide +kernel
theorem dL_law_702 : decode cL_law 702 = .ok (.iaload, 1) := by decide +kernel
theorem dL_law_703 : decode cL_law 703 = .ok (.aload_n 0, 1) := by decide +kernel
theorem dL_law_704 : decode cL_law 704 = .ok (.iload_n 3, 1) := by decide +kernel
theorem dL_law_705 : decode cL_law 705 = .ok (.iconst 2, 1) := by decide +kernel
theorem dL_law_706 : decode cL_law 706 = .ok (.iadd, 1) := by decide +kernel
theorem dL_law_707 : decode cL_law 707 = .ok (.iaload, 1) := by decide +kernel
theorem dL_law_708 : decode cL_law 708 = .ok (.aload_n 0, 1) := by decide +kernel
theorem dL_law_709 : decode cL_law 709 = .ok (.iload_n 3, 1) := by decide +kernel
theorem dL_law_710 : decode cL_law 710 = .ok (.iconst 3, 1) := by decide +kernel
theorem dL_law_711 : decode cL_law 711 = .ok (.iadd, 1) := by decide +kernel
theorem dL_law_712 : decode cL_law 712 = .ok (.iaload, 1) := by decide +kernel
theorem dL_law_713 : decode cL_law 713 = .ok (.invokevirtual 95, 3) := by decide +kernel
theorem dL_law_716 : decode cL_law 716 = .ok (.aload_n 2, 1) := by decide +kernel
theorem dL_law_717 : decode cL_law 717 = .ok (.aload_n 0, 1) := by decide +kernel
theorem dL_law_718 : decode cL_law 718 = .ok (.iload_n 3, 1) := by decide +kernel
theorem dL_law_719 : decode cL_law 719 = .ok (.iconst 1, 1) := by decide +kernel
theorem dL_law_720 : decode cL_law 720 = .ok (.iadd, 1) := by decide +kernel
theorem dL_law_721 : decode cL_law 721 = .ok (.iaload, 1) := by decide +kernel
theorem dL_law_722 : decode cL_law 722 = .ok (.aload_n 0, 1) := by decide +kernel
theorem dL_law_723 : decode cL_law 723 = .ok (.iload_n 3, 1) := by decide +kernel
theorem dL_law_724 : decode cL_law 724 = .ok (.iconst 2, 1) := by decide +kernel
theorem dL_law_725 : decode cL_law 725 = .ok (.iadd, 1) := by decide +kernel
theorem dL_law_726 : decode cL_law 726 = .ok (.iaload, 1) := by decide +kernel
theorem dL_law_727 : decode cL_law 727 = .ok (.aload_n 0, 1) := by decide +kernel
theorem dL_law_728 : decode cL_law 728 = .ok (.iload_n 3, 1) := by decide +kernel
theorem dL_law_729 : decode cL_law 729 = .ok (.iconst 3, 1) := by decide +kernel
theorem dL_law_730 : decode cL_law 730 = .ok (.iadd, 1) := by decide +kernel
theorem dL_law_731 : decode cL_law 731 = .ok (.iaload, 1) := by decide +kernel
theorem dL_law_732 : decode cL_law 732 = .ok (.invokevirtual 98, 3) := by decide +kernel
theorem dL_law_735 : decode cL_law 735 = .ok (.if_icmp .eq 180, 3) := by decide +kernel
theorem dL_law_738 : decode cL_law 738 = .ok (.iconst 0, 1) := by decide +kernel
theorem dL_law_739 : decode cL_law 739 = .ok (.ireturn, 1) := by decide +kernel
theorem dL_law_740 : decode cL_law 740 = .ok (.aload_n 1, 1) := by decide +kernel
theorem dL_law_741 : decode cL_law 741 = .ok (.aload_n 0, 1) := by decide +kernel
theorem dL_law_742 : decode cL_law 742 = .ok (.iload_n 3, 1) := by decide +kernel
theorem dL_law_743 : decode cL_law 743 = .ok (.iconst 1, 1) := by decide +kernel
theorem dL_law_744 : decode cL_law 744 = .ok (.iadd, 1) := by decide +kernel
theorem dL_law_745 : decode cL_law 745 = .ok (.iaload, 1) := by decide +kernel
theorem dL_law_746 : decode cL_law 746 = .ok (.aload_n 0, 1) := by decide +kernel
theorem dL_law_747 : decode cL_law 747 = .ok (.iload_n 3, 1) := by decide +kernel
theorem dL_law_748 : decode cL_law 748 = .ok (.iconst 2, 1) := by decide +kernel
theorem dL_law_749 : decode cL_law 749 = .ok (.iadd, 1) := by decide +kernel
theorem dL_law_750 : decode cL_law 750 = .ok (.iaload, 1) := by decide +kernel
theorem dL_law_751 : decode cL_law 751 = .ok (.invokevirtual 99, 3) := by decide +kernel
theorem dL_law_754 : decode cL_law 754 = .ok (.aload_n 2, 1) := by decide +kernel
theorem dL_law_755 : decode cL_law 755 = .ok (.aload_n 0, 1) := by decide +kernel
theorem dL_law_756 : decode cL_law 756 = .ok (.iload_n 3, 1) := by decide +kernel
theorem dL_law_757 : decode cL_law 757 = .ok (.iconst 1, 1) := by decide +kernel
theorem dL_law_758 : decode cL_law 758 = .ok (.iadd, 1) := by decide +kernel
theorem dL_law_759 : decode cL_law 759 = .ok (.iaload, 1) := by decide +kernel
theorem dL_law_760 : decode cL_law 760 = .ok (.aload_n 0, 1) := by decide +kernel
theorem dL_law_761 : decode cL_law 761 = .ok (.iload_n 3, 1) := by decide +kernel
theorem dL_law_762 : decode cL_law 762 = .ok (.iconst 2, 1) := by decide +kernel
theorem dL_law_763 : decode cL_law 763 = .ok (.iadd, 1) := by decide +kernel
theorem dL_law_764 : decode cL_law 764 = .ok (.iaload, 1) := by decide +kernel
theorem dL_law_765 : decode cL_law 765 = .ok (.invokevirtual 102, 3) := by decide +kernel
theorem dL_law_768 : decode cL_law 768 = .ok (.if_icmp .eq 147, 3) := by decide +kernel
theorem dL_law_771 : decode cL_law 771 = .ok (.iconst 0, 1) := by decide +kernel
theorem dL_law_772 : decode cL_law 772 = .ok (.ireturn, 1) := by decide +kernel
theorem dL_law_773 : decode cL_law 773 = .ok (.aload_n 1, 1) := by decide +kernel
theorem dL_law_774 : decode cL_law 774 = .ok (.aload_n 0, 1) := by decide +kernel
theorem dL_law_775 : decode cL_law 775 = .ok (.iload_n 3, 1) := by decide +kernel
theorem dL_law_776 : decode cL_law 776 = .ok (.iconst 1, 1) := by decide +kernel
theorem dL_law_777 : decode cL_law 777 = .ok (.iadd, 1) := by decide +kernel
theorem dL_law_778 : decode cL_law 778 = .ok (.iaload, 1) := by decide +kernel
theorem dL_law_779 : decode cL_law 779 = .ok (.aload_n 0, 1) := by decide +kernel
theorem dL_law_780 : decode cL_law 780 = .ok (.iload_n 3, 1) := by decide +kernel
theorem dL_law_781 : decode cL_law 781 = .ok (.iconst 2, 1) := by decide +kernel
theorem dL_law_782 : decode cL_law 782 = .ok (.iadd, 1) := by decide +kernel
theorem dL_law_783 : decode cL_law 783 = .ok (.iaload, 1) := by decide +kernel
theorem dL_law_784 : decode cL_law 784 = .ok (.invokevirtual 103, 3) := by decide +kernel
theorem dL_law_787 : decode cL_law 787 = .ok (.aload_n 2, 1) := by decide +kernel
theorem dL_law_788 : decode cL_law 788 = .ok (.aload_n 0, 1) := by decide +kernel
theorem dL_law_789 : decode cL_law 789 = .ok (.iload_n 3, 1) := by decide +kernel
theorem dL_law_790 : decode cL_law 790 = .ok (.iconst 1, 1) := by decide +kernel
theorem dL_law_791 : decode cL_law 791 = .ok (.iadd, 1) := by decide +kernel
theorem dL_law_792 : decode cL_law 792 = .ok (.iaload, 1) := by decide +kernel
theorem dL_law_793 : decode cL_law 793 = .ok (.aload_n 0, 1) := by decide +kernel
theorem dL_law_794 : decode cL_law 794 = .ok (.iload_n 3, 1) := by decide +kernel
theorem dL_law_795 : decode cL_law 795 = .ok (.iconst 2, 1) := by decide +kernel
theorem dL_law_796 : decode cL_law 796 = .ok (.iadd, 1) := by decide +kernel
theorem dL_law_797 : decode cL_law 797 = .ok (.iaload, 1) := by decide +kernel
theorem dL_law_798 : decode cL_law 798 = .ok (.invokevirtual 106, 3) := by decide +kernel
theorem dL_law_801 : decode cL_law 801 = .ok (.if_icmp .eq 114, 3) := by decide +kernel
theorem dL_law_804 : decode cL_law 804 = .ok (.iconst 0, 1) := by decide +kernel
theorem dL_law_805 : decode cL_law 805 = .ok (.ireturn, 1) := by decide +kernel
theorem dL_law_806 : decode cL_law 806 = .ok (.aload_n 1, 1) := by decide +kernel
theorem dL_law_807 : decode cL_law 807 = .ok (.aload_n 0, 1) := by decide +kernel
theorem dL_law_808 : decode cL_law 808 = .ok (.iload_n 3, 1) := by decide +kernel
theorem dL_law_809 : decode cL_law 809 = .ok (.iconst 1, 1) := by decide +kernel
theorem dL_law_810 : decode cL_law 810 = .ok (.iadd, 1) := by decide +kernel
theorem dL_law_811 : decode cL_law 811 = .ok (.iaload, 1) := by decide +kernel
theorem dL_law_812 : decode cL_law 812 = .ok (.aload_n 0, 1) := by decide +kernel
theorem dL_law_813 : decode cL_law 813 = .ok (.iload_n 3, 1) := by decide +kernel
theorem dL_law_814 : decode cL_law 814 = .ok (.iconst 2, 1) := by decide +kernel
theorem dL_law_815 : decode cL_law 815 = .ok (.iadd, 1) := by decide +kernel
theorem dL_law_816 : decode cL_law 816 = .ok (.iaload, 1) := by decide +kernel
theorem dL_law_817 : decode cL_law 817 = .ok (.invokevirtual 107, 3) := by decide +kernel
theorem dL_law_820 : decode cL_law 820 = .ok (.aload_n 2, 1) := by decide +kernel
theorem dL_law_821 : decode cL_law 821 = .ok (.aload_n 0, 1) := by decide +kernel
theorem dL_law_822 : decode cL_law 822 = .ok (.iload_n 3, 1) := by decide +kernel
theorem dL_law_823 : decode cL_law 823 = .ok (.iconst 1, 1) := by decide +kernel
theorem dL_law_824 : decode cL_law 824 = .ok (.iadd, 1) := by decide +kernel
theorem dL_law_825 : decode cL_law 825 = .ok (.iaload, 1) := by decide +kernel
theorem dL_law_826 : decode cL_law 826 = .ok (.aload_n 0, 1) := by decide +kernel
theorem dL_law_827 : decode cL_law 827 = .ok (.iload_n 3, 1) := by decide +kernel
theorem dL_law_828 : decode cL_law 828 = .ok (.iconst 2, 1) := by decide +kernel
theorem dL_law_829 : decode cL_law 829 = .ok (.iadd, 1) := by decide +kernel
theorem dL_law_830 : decode cL_law 830 = .ok (.iaload, 1) := by decide +kernel
theorem dL_law_831 : decode cL_law 831 = .ok (.invokevirtual 110, 3) := by decide +kernel
theorem dL_law_834 : decode cL_law 834 = .ok (.if_icmp .eq 81, 3) := by decide +kernel
theorem dL_law_837 : decode cL_law 837 = .ok (.iconst 0, 1) := by decide +kernel
theorem dL_law_838 : decode cL_law 838 = .ok (.ireturn, 1) := by decide +kernel
theorem dL_law_839 : decode cL_law 839 = .ok (.aload_n 1, 1) := by decide +kernel
theorem dL_law_840 : decode cL_law 840 = .ok (.aload_n 0, 1) := by decide +kernel
theorem dL_law_841 : decode cL_law 841 = .ok (.iload_n 3, 1) := by decide +kernel
theorem dL_law_842 : decode cL_law 842 = .ok (.iconst 1, 1) := by decide +kernel
theorem dL_law_843 : decode cL_law 843 = .ok (.iadd, 1) := by decide +kernel
theorem dL_law_844 : decode cL_law 844 = .ok (.iaload, 1) := by decide +kernel
theorem dL_law_845 : decode cL_law 845 = .ok (.aload_n 0, 1) := by decide +kernel
theorem dL_law_846 : decode cL_law 846 = .ok (.iload_n 3, 1) := by decide +kernel
theorem dL_law_847 : decode cL_law 847 = .ok (.iconst 2, 1) := by decide +kernel
theorem dL_law_848 : decode cL_law 848 = .ok (.iadd, 1) := by decide +kernel
theorem dL_law_849 : decode cL_law 849 = .ok (.iaload, 1) := by decide +kernel
theorem dL_law_850 : decode cL_law 850 = .ok (.aload_n 0, 1) := by decide +kernel
theorem dL_law_851 : decode cL_law 851 = .ok (.iload_n 3, 1) := by decide +kernel
theorem dL_law_852 : decode cL_law 852 = .ok (.iconst 3, 1) := by decide +kernel
theorem dL_law_853 : decode cL_law 853 = .ok (.iadd, 1) := by decide +kernel
theorem dL_law_854 : decode cL_law 854 = .ok (.iaload, 1) := by decide +kernel
theorem dL_law_855 : decode cL_law 855 = .ok (.aload_n 0, 1) := by decide +kernel
theorem dL_law_856 : decode cL_law 856 = .ok (.iload_n 3, 1) := by decide +kernel
theorem dL_law_857 : decode cL_law 857 = .ok (.iconst 4, 1) := by decide +kernel
theorem dL_law_858 : decode cL_law 858 = .ok (.iadd, 1) := by decide +kernel
theorem dL_law_859 : decode cL_law 859 = .ok (.iaload, 1) := by decide +kernel
theorem dL_law_860 : decode cL_law 860 = .ok (.invokevirtual 111, 3) := by decide +kernel
theorem dL_law_863 : decode cL_law 863 = .ok (.aload_n 2, 1) := by decide +kernel
theorem dL_law_864 : decode cL_law 864 = .ok (.aload_n 0, 1) := by decide +kernel
theorem dL_law_865 : decode cL_law 865 = .ok (.iload_n 3, 1) := by decide +kernel
theorem dL_law_866 : decode cL_law 866 = .ok (.iconst 1, 1) := by decide +kernel
theorem dL_law_867 : decode cL_law 867 = .ok (.iadd, 1) := by decide +kernel
theorem dL_law_868 : decode cL_law 868 = .ok (.iaload, 1) := by decide +kernel
theorem dL_law_869 : decode cL_law 869 = .ok (.aload_n 0, 1) := by decide +kernel
theorem dL_law_870 : decode cL_law 870 = .ok (.iload_n 3, 1) := by decide +kernel
theorem dL_law_871 : decode cL_law 871 = .ok (.iconst 2, 1) := by decide +kernel
theorem dL_law_872 : decode cL_law 872 = .ok (.iadd, 1) := by decide +kernel
theorem dL_law_873 : decode cL_law 873 = .ok (.iaload, 1) := by decide +kernel
theorem dL_law_874 : decode cL_law 874 = .ok (.aload_n 0, 1) := by decide +kernel
theorem dL_law_875 : decode cL_law 875 = .ok (.iload_n 3, 1) := by decide +kernel
theorem dL_law_876 : decode cL_law 876 = .ok (.iconst 3, 1) := by decide +kernel
theorem dL_law_877 : decode cL_law 877 = .ok (.iadd, 1) := by decide +kernel
theorem dL_law_878 : decode cL_law 878 = .ok (.iaload, 1) := by decide +kernel
theorem dL_law_879 : decode cL_law 879 = .ok (.aload_n 0, 1) := by decide +kernel
theorem dL_law_880 : decode cL_law 880 = .ok (.iload_n 3, 1) := by decide +kernel
theorem dL_law_881 : decode cL_law 881 = .ok (.iconst 4, 1) := by decide +kernel
theorem dL_law_882 : decode cL_law 882 = .ok (.iadd, 1) := by decide +kernel
theorem dL_law_883 : decode cL_law 883 = .ok (.iaload, 1) := by decide +kernel
theorem dL_law_884 : decode cL_law 884 = .ok (.invokevirtual 114, 3) := by decide +kernel
theorem dL_law_887 : decode cL_law 887 = .ok (.if_icmp .eq 28, 3) := by decide +kernel
theorem dL_law_890 : decode cL_law 890 = .ok (.iconst 0, 1) := by decide +kernel
theorem dL_law_891 : decode cL_law 891 = .ok (.ireturn, 1) := by decide +kernel
theorem dL_law_892 : decode cL_law 892 = .ok (.aload_n 1, 1) := by decide +kernel
theorem dL_law_893 : decode cL_law 893 = .ok (.aload_n 0, 1) := by decide +kernel
theorem dL_law_894 : decode cL_law 894 = .ok (.iload_n 3, 1) := by decide +kernel
theorem dL_law_895 : decode cL_law 895 = .ok (.iconst 1, 1) := by decide +kernel
theorem dL_law_896 : decode cL_law 896 = .ok (.iadd, 1) := by decide +kernel
theorem dL_law_897 : decode cL_law 897 = .ok (.iaload, 1) := by decide +kernel
theorem dL_law_898 : decode cL_law 898 = .ok (.invokevirtual 115, 3) := by decide +kernel
theorem dL_law_901 : decode cL_law 901 = .ok (.aload_n 2, 1) := by decide +kernel
theorem dL_law_902 : decode cL_law 902 = .ok (.aload_n 0, 1) := by decide +kernel
theorem dL_law_903 : decode cL_law 903 = .ok (.iload_n 3, 1) := by decide +kernel
theorem dL_law_904 : decode cL_law 904 = .ok (.iconst 1, 1) := by decide +kernel
theorem dL_law_905 : decode cL_law 905 = .ok (.iadd, 1) := by decide +kernel
theorem dL_law_906 : decode cL_law 906 = .ok (.iaload, 1) := by decide +kernel
theorem dL_law_907 : decode cL_law 907 = .ok (.invokevirtual 118, 3) := by decide +kernel
theorem dL_law_910 : decode cL_law 910 = .ok (.if_icmp .eq 5, 3) := by decide +kernel
theorem dL_law_913 : decode cL_law 913 = .ok (.iconst 0, 1) := by decide +kernel
theorem dL_law_914 : decode cL_law 914 = .ok (.ireturn, 1) := by decide +kernel
theorem dL_law_915 : decode cL_law 915 = .ok (.iinc 3 5, 3) := by decide +kernel
theorem dL_law_918 : decode cL_law 918 = .ok (.goto (-900), 3) := by decide +kernel
theorem dL_law_921 : decode cL_law 921 = .ok (.iconst 1, 1) := by decide +kernel
theorem dL_law_922 : decode cL_law 922 = .ok (.ireturn, 1) := by decide +kernel
end
section
/-- the words of the tables that a contract may carry -/
def zT : List Cond := lw_tbl.filter goodWord
theorem zT_mem {w : Cond} {i : Nat} (h : lw_tbl[i]? = some w) (g : goodWord w = true) : w ∈ zT := List.mem_filter.mpr ⟨List.mem_of_getElem? h, g⟩
theorem zT_in : ∀ w ∈ zT, w ∈ lw_tbl := fun _ h => (List.mem_filter.mp h).1
theorem zT_good : GoodIn zT zT := fun w h => ⟨h, good_of_word (List.mem_filter.mp h).2⟩
theorem kp_0 : Cond.selects RX6 yX6_copy yX6_copy ∈ zT := zT_mem (i := 0) (by decide +kernel) (by decide +kernel)
theorem kp_1 : Cond.selects RX6 yX6_record yX6_record ∈ zT := zT_mem (i := 1) (by decide +kernel) (by decide +kernel)
theorem kp_2 : Cond.selects RX6 yX6_isFirm yX6_isFirm ∈ zT := zT_mem (i := 2) (by decide +kernel) (by decide +kernel)
theorem kp_3 : Cond.selects RX6 yX6_year yX6_year ∈ zT := zT_mem (i := 3) (by decide +kernel) (by decide +kernel)
theorem kp_4 : Cond.selects RX6 yX6_noTransfer yX6_noTransfer ∈ zT := zT_mem (i := 4) (by decide +kernel) (by decide +kernel)
theorem kp_5 : Cond.selects RX6 yX6_doTransfer yX6_doTransfer ∈ zT := zT_mem (i := 5) (by decide +kernel) (by decide +kernel)
theorem kp_6 : Cond.selects RX6 yX6_lay yX6_lay ∈ zT := zT_mem (i := 6) (by decide +kernel) (by decide +kernel)
theorem kp_7 : Cond.selects RX6 yX6_mayUse yX6_mayUse ∈ zT := zT_mem (i := 7) (by decide +kernel) (by decide +kernel)
theorem kp_8 : Cond.selects RX6 yX6_takeVintage yX6_takeVintage ∈ zT := zT_mem (i := 8) (by decide +kernel) (by decide +kernel)
theorem kp_9 : Cond.selects RX6 yX6_beginYear yX6_beginYear ∈ zT := zT_mem (i := 9) (by decide +kernel) (by decide +kernel)
theorem kp_10 : Cond.selects RX6 yX6_fineAll yX6_fineAll ∈ zT := zT_mem (i := 10) (by decide +kernel) (by decide +kernel)
theorem kp_11 : Cond.selects RX6 yX6_faultOf yX6_faultOf ∈ zT := zT_mem (i := 11) (by decide +kernel) (by decide +kernel)
theorem kp_12 : Cond.selects RX6 yX6_readsTransfer yX6_readsTransfer ∈ zT := zT_mem (i := 12) (by decide +kernel) (by decide +kernel)
theorem kp_13 : Cond.selects RX6 yX6_number yX6_number ∈ zT := zT_mem (i := 13) (by decide +kernel) (by decide +kernel)
theorem kp_14 : Cond.selects RX6 yX6_code yX6_code ∈ zT := zT_mem (i := 14) (by decide +kernel) (by decide +kernel)
theorem kp_15 : Cond.selects RX6 yX6_sign yX6_sign ∈ zT := zT_mem (i := 15) (by decide +kernel) (by decide +kernel)
theorem kp_16 : Cond.selects RX6 yX6_transferOn yX6_transferOn ∈ zT := zT_mem (i := 16) (by decide +kernel) (by decide +kernel)
theorem kp_17 : Cond.selects RX6 yX6_heldBy yX6_heldBy ∈ zT := zT_mem (i := 17) (by decide +kernel) (by decide +kernel)
theorem kp_18 : Cond.selects RX6 yX6_vintagesOf yX6_vintagesOf ∈ zT := zT_mem (i := 18) (by decide +kernel) (by decide +kernel)
theorem kp_19 : Cond.selects RX6 yX6_extreme yX6_extreme ∈ zT := zT_mem (i := 19) (by decide +kernel) (by decide +kernel)
theorem kp_20 : Cond.selects RX6 yX6_stillDue yX6_stillDue ∈ zT := zT_mem (i := 20) (by decide +kernel) (by decide +kernel)
theorem kp_21 : Cond.selects RX6 yX6_heldOf yX6_heldOf ∈ zT := zT_mem (i := 21) (by decide +kernel) (by decide +kernel)
theorem kp_22 : Cond.selects RX6 yX6_holders yX6_holders ∈ zT := zT_mem (i := 22) (by decide +kernel) (by decide +kernel)
theorem kp_23 : Cond.selects RX6 yX6_monthsOf yX6_monthsOf ∈ zT := zT_mem (i := 23) (by decide +kernel) (by decide +kernel)
theorem kp_24 : Cond.selects RX6 yX6_allHeld yX6_allHeld ∈ zT := zT_mem (i := 24) (by decide +kernel) (by decide +kernel)
theorem kp_25 : Cond.selects RX6 yX6_allLost yX6_allLost ∈ zT := zT_mem (i := 25) (by decide +kernel) (by decide +kernel)
theorem kp_26 : Cond.selects RX6 yX6_monthsToDeadline yX6_monthsToDeadline ∈ zT := zT_mem (i := 26) (by decide +kernel) (by decide +kernel)
theorem k_0 : (Cond.initialized RL : Cond) ∈ zT := zT_mem (i := 27) (by decide +kernel) (by decide +kernel)
theorem k_1 : (Cond.initialized RX5 : Cond) ∈ zT := zT_mem (i := 28) (by decide +kernel) (by decide +kernel)
theorem k_2 : (Cond.initialized RX2 : Cond) ∈ zT := zT_mem (i := 29) (by decide +kernel) (by decide +kernel)
theorem k_3 : (Cond.initialized RX0 : Cond) ∈ zT := zT_mem (i := 30) (by decide +kernel) (by decide +kernel)
theorem k_4 : (Cond.initialized RX1 : Cond) ∈ zT := zT_mem (i := 31) (by decide +kernel) (by decide +kernel)
theorem k_5 : (Cond.initialized RX3 : Cond) ∈ zT := zT_mem (i := 32) (by decide +kernel) (by decide +kernel)
theorem k_6 : (Cond.initialized RX4 : Cond) ∈ zT := zT_mem (i := 33) (by decide +kernel) (by decide +kernel)
theorem k_7 : (Cond.initialized RX6 : Cond) ∈ zT := zT_mem (i := 34) (by decide +kernel) (by decide +kernel)
theorem k_8 : (Cond.initialized RJ9 : Cond) ∈ zT := zT_mem (i := 35) (by decide +kernel) (by decide +kernel)
theorem k_9 : (Cond.initialized RJ10 : Cond) ∈ zT := zT_mem (i := 36) (by decide +kernel) (by decide +kernel)
theorem k_10 : (Cond.classLink RL 7 RX5 : Cond) ∈ zT := zT_mem (i := 37) (by decide +kernel) (by decide +kernel)
theorem k_11 : (Cond.instantiable RX5 7 : Cond) ∈ zT := zT_mem (i := 38) (by decide +kernel) (by decide +kernel)
theorem k_12 : (Cond.methodLink RL 9 yX5_init : Cond) ∈ zT := zT_mem (i := 39) (by decide +kernel) (by decide +kernel)
theorem k_13 : (Cond.instanceMethod yX5_init : Cond) ∈ zT := zT_mem (i := 40) (by decide +kernel) (by decide +kernel)
theorem k_14 : (Cond.code yX5_init cX5_init 1 (none : Option ClassFile.FieldType) : Cond) ∈ zT := zT_mem (i := 41) (by decide +kernel) (by decide +kernel)
theorem k_15 : (Cond.methodLink RX5 3 objectInit : Cond) ∈ zT := zT_mem (i := 42) (by decide +kernel) (by decide +kernel)
theorem k_16 : (Cond.instanceMethod objectInit : Cond) ∈ zT := zT_mem (i := 43) (by decide +kernel) (by decide +kernel)
theorem k_17 : (Cond.code objectInit ⟨#[0xb1]⟩ 1 (none : Option ClassFile.FieldType) : Cond) ∈ zT := zT_mem (i := 44) (by decide +kernel) (by decide +kernel)
theorem k_18 : (Cond.classLink RX5 9 RX2 : Cond) ∈ zT := zT_mem (i := 45) (by decide +kernel) (by decide +kernel)
theorem k_19 : (Cond.instantiable RX2 10 : Cond) ∈ zT := zT_mem (i := 46) (by decide +kernel) (by decide +kernel)
theorem k_20 : (Cond.methodLink RX5 11 yX2_init : Cond) ∈ zT := zT_mem (i := 47) (by decide +kernel) (by decide +kernel)
theorem k_21 : (Cond.instanceMethod yX2_init : Cond) ∈ zT := zT_mem (i := 48) (by decide +kernel) (by decide +kernel)
theorem k_22 : (Cond.code yX2_init cX2_init 2 (none : Option ClassFile.FieldType) : Cond) ∈ zT := zT_mem (i := 49) (by decide +kernel) (by decide +kernel)
theorem k_23 : (Cond.methodLink RX2 3 objectInit : Cond) ∈ zT := zT_mem (i := 50) (by decide +kernel) (by decide +kernel)
theorem k_26 : (Cond.methodLink RX2 13 ⟨"[I", "clone", "()Ljava/lang/Object;"⟩ : Cond) ∈ zT := zT_mem (i := 53) (by decide +kernel) (by decide +kernel)
theorem k_27 : (Cond.sameMethod "[I" "java/lang/Object" "clone" "()Ljava/lang/Object;" : Cond) ∈ zT := zT_mem (i := 54) (by decide +kernel) (by decide +kernel)
theorem k_28 : (Cond.native ⟨"java/lang/Object", "clone", "()Ljava/lang/Object;"⟩ : Cond) ∈ zT := zT_mem (i := 55) (by decide +kernel) (by decide +kernel)
theorem k_29 : (Cond.instanceMethod ⟨"java/lang/Object", "clone", "()Ljava/lang/Object;"⟩ : Cond) ∈ zT := zT_mem (i := 56) (by decide +kernel) (by decide +kernel)
theorem k_30 : (Cond.selects "[I" ⟨"[I", "clone", "()Ljava/lang/Object;"⟩ ⟨"java/lang/Object", "clone", "()Ljava/lang/Object;"⟩ : Cond) ∈ zT := zT_mem (i := 57) (by decide +kernel) (by decide +kernel)
theorem k_32 : (Cond.classLink RX2 14 "[I" : Cond) ∈ zT := zT_mem (i := 59) (by decide +kernel) (by decide +kernel)
theorem k_33 : (Cond.classLink RX2 23 RX0 : Cond) ∈ zT := zT_mem (i := 60) (by decide +kernel) (by decide +kernel)
theorem k_35 : (Cond.instantiable RX0 9 : Cond) ∈ zT := zT_mem (i := 62) (by decide +kernel) (by decide +kernel)
theorem k_36 : (Cond.methodLink RX2 29 yX0_init : Cond) ∈ zT := zT_mem (i := 63) (by decide +kernel) (by decide +kernel)
theorem k_37 : (Cond.instanceMethod yX0_init : Cond) ∈ zT := zT_mem (i := 64) (by decide +kernel) (by decide +kernel)
theorem k_38 : (Cond.code yX0_init cX0_init 1 (none : Option ClassFile.FieldType) : Cond) ∈ zT := zT_mem (i := 65) (by decide +kernel) (by decide +kernel)
theorem k_39 : (Cond.methodLink RX0 3 objectInit : Cond) ∈ zT := zT_mem (i := 66) (by decide +kernel) (by decide +kernel)
theorem k_40 : (Cond.fieldLink RX0 9 "AllowanceBook$Firm" "held" "[I" : Cond) ∈ zT := zT_mem (i := 67) (by decide +kernel) (by decide +kernel)
theorem k_41 : (Cond.fieldLink RX3 46 "AllowanceBook$Firm" "held" "[I" : Cond) ∈ zT := zT_mem (i := 68) (by decide +kernel) (by decide +kernel)
theorem k_42 : (Cond.fieldLink RX5 77 "AllowanceBook$Firm" "held" "[I" : Cond) ∈ zT := zT_mem (i := 69) (by decide +kernel) (by decide +kernel)
theorem k_43 : (Cond.fieldLink RX2 66 "AllowanceBook$Firm" "held" "[I" : Cond) ∈ zT := zT_mem (i := 70) (by decide +kernel) (by decide +kernel)
theorem k_44 : (Cond.fieldLink RX0 15 "AllowanceBook$Firm" "offsetsHeld" "[I" : Cond) ∈ zT := zT_mem (i := 71) (by decide +kernel) (by decide +kernel)
theorem k_45 : (Cond.fieldLink RX5 88 "AllowanceBook$Firm" "offsetsHeld" "[I" : Cond) ∈ zT := zT_mem (i := 72) (by decide +kernel) (by decide +kernel)
theorem k_46 : (Cond.fieldLink RX2 77 "AllowanceBook$Firm" "offsetsHeld" "[I" : Cond) ∈ zT := zT_mem (i := 73) (by decide +kernel) (by decide +kernel)
theorem k_47 : (Cond.fieldLink RX0 18 "AllowanceBook$Firm" "offsetsUsed" "[I" : Cond) ∈ zT := zT_mem (i := 74) (by decide +kernel) (by decide +kernel)
theorem k_48 : (Cond.fieldLink RX2 80 "AllowanceBook$Firm" "offsetsUsed" "[I" : Cond) ∈ zT := zT_mem (i := 75) (by decide +kernel) (by decide +kernel)
theorem k_49 : (Cond.fieldLink RX5 204 "AllowanceBook$Firm" "offsetsUsed" "[I" : Cond) ∈ zT := zT_mem (i := 76) (by decide +kernel) (by decide +kernel)
theorem k_50 : (Cond.fieldLink RX0 47 "AllowanceBook$Firm" "reported" "I" : Cond) ∈ zT := zT_mem (i := 77) (by decide +kernel) (by decide +kernel)
theorem k_51 : (Cond.fieldLink RX5 107 "AllowanceBook$Firm" "reported" "I" : Cond) ∈ zT := zT_mem (i := 78) (by decide +kernel) (by decide +kernel)
theorem k_52 : (Cond.fieldLink RX0 50 "AllowanceBook$Firm" "verified" "I" : Cond) ∈ zT := zT_mem (i := 79) (by decide +kernel) (by decide +kernel)
theorem k_53 : (Cond.fieldLink RX5 110 "AllowanceBook$Firm" "verified" "I" : Cond) ∈ zT := zT_mem (i := 80) (by decide +kernel) (by decide +kernel)
theorem k_54 : (Cond.fieldLink RX0 21 "AllowanceBook$Firm" "base" "I" : Cond) ∈ zT := zT_mem (i := 81) (by decide +kernel) (by decide +kernel)
theorem k_55 : (Cond.fieldLink RX5 190 "AllowanceBook$Firm" "base" "I" : Cond) ∈ zT := zT_mem (i := 82) (by decide +kernel) (by decide +kernel)
theorem k_56 : (Cond.fieldLink RX0 44 "AllowanceBook$Firm" "due" "I" : Cond) ∈ zT := zT_mem (i := 83) (by decide +kernel) (by decide +kernel)
theorem k_57 : (Cond.fieldLink RX2 100 "AllowanceBook$Firm" "due" "I" : Cond) ∈ zT := zT_mem (i := 84) (by decide +kernel) (by decide +kernel)
theorem k_58 : (Cond.fieldLink RX5 116 "AllowanceBook$Firm" "due" "I" : Cond) ∈ zT := zT_mem (i := 85) (by decide +kernel) (by decide +kernel)
theorem k_59 : (Cond.fieldLink RX5 130 "AllowanceBook$Firm" "surrendered" "I" : Cond) ∈ zT := zT_mem (i := 86) (by decide +kernel) (by decide +kernel)
theorem k_60 : (Cond.fieldLink RX2 103 "AllowanceBook$Firm" "fines" "I" : Cond) ∈ zT := zT_mem (i := 87) (by decide +kernel) (by decide +kernel)
theorem k_61 : (Cond.fieldLink RX5 193 "AllowanceBook$Firm" "fines" "I" : Cond) ∈ zT := zT_mem (i := 88) (by decide +kernel) (by decide +kernel)
theorem k_62 : (Cond.laysFinal RX0 "AllowanceBook$Firm" "held" "[I" : Cond) ∈ zT := zT_mem (i := 89) (by decide +kernel) (by decide +kernel)
theorem k_64 : (Cond.laysFinal RX0 "AllowanceBook$Firm" "offsetsHeld" "[I" : Cond) ∈ zT := zT_mem (i := 91) (by decide +kernel) (by decide +kernel)
theorem k_66 : (Cond.laysFinal RX0 "AllowanceBook$Firm" "offsetsUsed" "[I" : Cond) ∈ zT := zT_mem (i := 93) (by decide +kernel) (by decide +kernel)
theorem k_68 : (Cond.lays RX0 "AllowanceBook$Firm" "reported" "I" : Cond) ∈ zT := zT_mem (i := 95) (by decide +kernel) (by decide +kernel)
theorem k_70 : (Cond.lays RX0 "AllowanceBook$Firm" "verified" "I" : Cond) ∈ zT := zT_mem (i := 97) (by decide +kernel) (by decide +kernel)
theorem k_72 : (Cond.lays RX0 "AllowanceBook$Firm" "base" "I" : Cond) ∈ zT := zT_mem (i := 99) (by decide +kernel) (by decide +kernel)
theorem k_74 : (Cond.lays RX0 "AllowanceBook$Firm" "due" "I" : Cond) ∈ zT := zT_mem (i := 101) (by decide +kernel) (by decide +kernel)
theorem k_76 : (Cond.lays RX0 "AllowanceBook$Firm" "surrendered" "I" : Cond) ∈ zT := zT_mem (i := 103) (by decide +kernel) (by decide +kernel)
theorem k_78 : (Cond.lays RX0 "AllowanceBook$Firm" "fines" "I" : Cond) ∈ zT := zT_mem (i := 105) (by decide +kernel) (by decide +kernel)
theorem k_81 : (Cond.arrayClass .int : Cond) ∈ zT := zT_mem (i := 108) (by decide +kernel) (by decide +kernel)
theorem k_82 : (Cond.fieldLink RX2 52 "AllowanceBook$State" "month" "I" : Cond) ∈ zT := zT_mem (i := 109) (by decide +kernel) (by decide +kernel)
theorem k_83 : (Cond.fieldLink RX5 133 "AllowanceBook$State" "month" "I" : Cond) ∈ zT := zT_mem (i := 110) (by decide +kernel) (by decide +kernel)
theorem k_84 : (Cond.fieldLink RX5 47 "AllowanceBook$State" "firmCount" "I" : Cond) ∈ zT := zT_mem (i := 111) (by decide +kernel) (by decide +kernel)
theorem k_85 : (Cond.fieldLink RX2 48 "AllowanceBook$State" "firmCount" "I" : Cond) ∈ zT := zT_mem (i := 112) (by decide +kernel) (by decide +kernel)
theorem k_86 : (Cond.fieldLink RX2 18 "AllowanceBook$State" "settings" "[I" : Cond) ∈ zT := zT_mem (i := 113) (by decide +kernel) (by decide +kernel)
theorem k_87 : (Cond.fieldLink RX5 62 "AllowanceBook$State" "settings" "[I" : Cond) ∈ zT := zT_mem (i := 114) (by decide +kernel) (by decide +kernel)
theorem k_88 : (Cond.fieldLink RX2 25 "AllowanceBook$State" "firms" "[LAllowanceBook$Firm;" : Cond) ∈ zT := zT_mem (i := 115) (by decide +kernel) (by decide +kernel)
theorem k_89 : (Cond.fieldLink RX5 262 "AllowanceBook$State" "firms" "[LAllowanceBook$Firm;" : Cond) ∈ zT := zT_mem (i := 116) (by decide +kernel) (by decide +kernel)
theorem k_90 : (Cond.fieldLink RX2 30 "AllowanceBook$State" "issued" "[I" : Cond) ∈ zT := zT_mem (i := 117) (by decide +kernel) (by decide +kernel)
theorem k_91 : (Cond.fieldLink RX5 82 "AllowanceBook$State" "issued" "[I" : Cond) ∈ zT := zT_mem (i := 118) (by decide +kernel) (by decide +kernel)
theorem k_92 : (Cond.fieldLink RX2 33 "AllowanceBook$State" "surrendered" "[I" : Cond) ∈ zT := zT_mem (i := 119) (by decide +kernel) (by decide +kernel)
theorem k_93 : (Cond.fieldLink RX5 211 "AllowanceBook$State" "surrendered" "[I" : Cond) ∈ zT := zT_mem (i := 120) (by decide +kernel) (by decide +kernel)
theorem k_94 : (Cond.fieldLink RX2 36 "AllowanceBook$State" "cancelled" "[I" : Cond) ∈ zT := zT_mem (i := 121) (by decide +kernel) (by decide +kernel)
theorem k_95 : (Cond.fieldLink RX5 104 "AllowanceBook$State" "cancelled" "[I" : Cond) ∈ zT := zT_mem (i := 122) (by decide +kernel) (by decide +kernel)
theorem k_96 : (Cond.fieldLink RX2 39 "AllowanceBook$State" "lost" "[I" : Cond) ∈ zT := zT_mem (i := 123) (by decide +kernel) (by decide +kernel)
theorem k_97 : (Cond.fieldLink RX5 213 "AllowanceBook$State" "lost" "[I" : Cond) ∈ zT := zT_mem (i := 124) (by decide +kernel) (by decide +kernel)
theorem k_98 : (Cond.fieldLink RX2 42 "AllowanceBook$State" "offsetsIssued" "[I" : Cond) ∈ zT := zT_mem (i := 125) (by decide +kernel) (by decide +kernel)
theorem k_99 : (Cond.fieldLink RX5 91 "AllowanceBook$State" "offsetsIssued" "[I" : Cond) ∈ zT := zT_mem (i := 126) (by decide +kernel) (by decide +kernel)
theorem k_100 : (Cond.fieldLink RX2 45 "AllowanceBook$State" "offsetsSurrendered" "[I" : Cond) ∈ zT := zT_mem (i := 127) (by decide +kernel) (by decide +kernel)
theorem k_101 : (Cond.fieldLink RX5 225 "AllowanceBook$State" "offsetsSurrendered" "[I" : Cond) ∈ zT := zT_mem (i := 128) (by decide +kernel) (by decide +kernel)
theorem k_102 : (Cond.lays RX2 "AllowanceBook$State" "month" "I" : Cond) ∈ zT := zT_mem (i := 129) (by decide +kernel) (by decide +kernel)
theorem k_104 : (Cond.lays RX2 "AllowanceBook$State" "firmCount" "I" : Cond) ∈ zT := zT_mem (i := 131) (by decide +kernel) (by decide +kernel)
theorem k_106 : (Cond.laysFinal RX2 "AllowanceBook$State" "settings" "[I" : Cond) ∈ zT := zT_mem (i := 133) (by decide +kernel) (by decide +kernel)
theorem k_108 : (Cond.laysFinal RX2 "AllowanceBook$State" "firms" "[LAllowanceBook$Firm;" : Cond) ∈ zT := zT_mem (i := 135) (by decide +kernel) (by decide +kernel)
theorem k_110 : (Cond.laysFinal RX2 "AllowanceBook$State" "issued" "[I" : Cond) ∈ zT := zT_mem (i := 137) (by decide +kernel) (by decide +kernel)
theorem k_112 : (Cond.laysFinal RX2 "AllowanceBook$State" "surrendered" "[I" : Cond) ∈ zT := zT_mem (i := 139) (by decide +kernel) (by decide +kernel)
theorem k_114 : (Cond.laysFinal RX2 "AllowanceBook$State" "cancelled" "[I" : Cond) ∈ zT := zT_mem (i := 141) (by decide +kernel) (by decide +kernel)
theorem k_116 : (Cond.laysFinal RX2 "AllowanceBook$State" "lost" "[I" : Cond) ∈ zT := zT_mem (i := 143) (by decide +kernel) (by decide +kernel)
theorem k_118 : (Cond.laysFinal RX2 "AllowanceBook$State" "offsetsIssued" "[I" : Cond) ∈ zT := zT_mem (i := 145) (by decide +kernel) (by decide +kernel)
theorem k_120 : (Cond.laysFinal RX2 "AllowanceBook$State" "offsetsSurrendered" "[I" : Cond) ∈ zT := zT_mem (i := 147) (by decide +kernel) (by decide +kernel)
theorem k_123 : (Cond.classLink RX5 22 RX1 : Cond) ∈ zT := zT_mem (i := 150) (by decide +kernel) (by decide +kernel)
theorem k_124 : (Cond.instantiable RX1 3 : Cond) ∈ zT := zT_mem (i := 151) (by decide +kernel) (by decide +kernel)
theorem k_125 : (Cond.methodLink RX5 24 yX1_init : Cond) ∈ zT := zT_mem (i := 152) (by decide +kernel) (by decide +kernel)
theorem k_126 : (Cond.instanceMethod yX1_init : Cond) ∈ zT := zT_mem (i := 153) (by decide +kernel) (by decide +kernel)
theorem k_127 : (Cond.code yX1_init cX1_init 2 (none : Option ClassFile.FieldType) : Cond) ∈ zT := zT_mem (i := 154) (by decide +kernel) (by decide +kernel)
theorem k_128 : (Cond.methodLink RX1 3 objectInit : Cond) ∈ zT := zT_mem (i := 155) (by decide +kernel) (by decide +kernel)
theorem k_129 : (Cond.classLink RX1 9 RX2 : Cond) ∈ zT := zT_mem (i := 156) (by decide +kernel) (by decide +kernel)
theorem k_131 : (Cond.methodLink RX1 17 yX2_init : Cond) ∈ zT := zT_mem (i := 158) (by decide +kernel) (by decide +kernel)
theorem k_132 : (Cond.fieldLink RX1 11 "AllowanceBook$History" "rows" "[LAllowanceBook$State;" : Cond) ∈ zT := zT_mem (i := 159) (by decide +kernel) (by decide +kernel)
theorem k_133 : (Cond.fieldLink RX1 26 "AllowanceBook$History" "size" "I" : Cond) ∈ zT := zT_mem (i := 160) (by decide +kernel) (by decide +kernel)
theorem k_134 : (Cond.fieldLink RX5 172 "AllowanceBook$History" "size" "I" : Cond) ∈ zT := zT_mem (i := 161) (by decide +kernel) (by decide +kernel)
theorem k_135 : (Cond.fieldLink RX1 18 "AllowanceBook$History" "next" "I" : Cond) ∈ zT := zT_mem (i := 162) (by decide +kernel) (by decide +kernel)
theorem k_136 : (Cond.laysFinal RX1 "AllowanceBook$History" "rows" "[LAllowanceBook$State;" : Cond) ∈ zT := zT_mem (i := 163) (by decide +kernel) (by decide +kernel)
theorem k_138 : (Cond.lays RX1 "AllowanceBook$History" "size" "I" : Cond) ∈ zT := zT_mem (i := 165) (by decide +kernel) (by decide +kernel)
theorem k_140 : (Cond.lays RX1 "AllowanceBook$History" "next" "I" : Cond) ∈ zT := zT_mem (i := 167) (by decide +kernel) (by decide +kernel)
theorem k_143 : (Cond.classLink RX5 29 RX3 : Cond) ∈ zT := zT_mem (i := 170) (by decide +kernel) (by decide +kernel)
theorem k_144 : (Cond.instantiable RX3 6 : Cond) ∈ zT := zT_mem (i := 171) (by decide +kernel) (by decide +kernel)
theorem k_145 : (Cond.methodLink RX5 31 yX3_init : Cond) ∈ zT := zT_mem (i := 172) (by decide +kernel) (by decide +kernel)
theorem k_146 : (Cond.instanceMethod yX3_init : Cond) ∈ zT := zT_mem (i := 173) (by decide +kernel) (by decide +kernel)
theorem k_147 : (Cond.code yX3_init cX3_init 1 (none : Option ClassFile.FieldType) : Cond) ∈ zT := zT_mem (i := 174) (by decide +kernel) (by decide +kernel)
theorem k_148 : (Cond.methodLink RX3 3 objectInit : Cond) ∈ zT := zT_mem (i := 175) (by decide +kernel) (by decide +kernel)
theorem k_149 : (Cond.fieldLink RX3 9 "AllowanceBook$Taking" "allowancesTaken" "[I" : Cond) ∈ zT := zT_mem (i := 176) (by decide +kernel) (by decide +kernel)
theorem k_150 : (Cond.fieldLink RX2 69 "AllowanceBook$Taking" "allowancesTaken" "[I" : Cond) ∈ zT := zT_mem (i := 177) (by decide +kernel) (by decide +kernel)
theorem k_151 : (Cond.fieldLink RX3 15 "AllowanceBook$Taking" "offsetsTaken" "[I" : Cond) ∈ zT := zT_mem (i := 178) (by decide +kernel) (by decide +kernel)
theorem k_152 : (Cond.fieldLink RX2 74 "AllowanceBook$Taking" "offsetsTaken" "[I" : Cond) ∈ zT := zT_mem (i := 179) (by decide +kernel) (by decide +kernel)
theorem k_153 : (Cond.fieldLink RX5 234 "AllowanceBook$Taking" "offsetsTaken" "[I" : Cond) ∈ zT := zT_mem (i := 180) (by decide +kernel) (by decide +kernel)
theorem k_154 : (Cond.fieldLink RX3 22 "AllowanceBook$Taking" "allAllowances" "I" : Cond) ∈ zT := zT_mem (i := 181) (by decide +kernel) (by decide +kernel)
theorem k_155 : (Cond.fieldLink RX5 231 "AllowanceBook$Taking" "allAllowances" "I" : Cond) ∈ zT := zT_mem (i := 182) (by decide +kernel) (by decide +kernel)
theorem k_156 : (Cond.fieldLink RX3 25 "AllowanceBook$Taking" "vintagesTouched" "I" : Cond) ∈ zT := zT_mem (i := 183) (by decide +kernel) (by decide +kernel)
theorem k_157 : (Cond.fieldLink RX5 237 "AllowanceBook$Taking" "vintagesTouched" "I" : Cond) ∈ zT := zT_mem (i := 184) (by decide +kernel) (by decide +kernel)
theorem k_158 : (Cond.fieldLink RX3 28 "AllowanceBook$Taking" "firstTouched" "I" : Cond) ∈ zT := zT_mem (i := 185) (by decide +kernel) (by decide +kernel)
theorem k_159 : (Cond.fieldLink RX5 240 "AllowanceBook$Taking" "firstTouched" "I" : Cond) ∈ zT := zT_mem (i := 186) (by decide +kernel) (by decide +kernel)
theorem k_160 : (Cond.fieldLink RX3 18 "AllowanceBook$Taking" "missing" "I" : Cond) ∈ zT := zT_mem (i := 187) (by decide +kernel) (by decide +kernel)
theorem k_161 : (Cond.fieldLink RX5 123 "AllowanceBook$Taking" "missing" "I" : Cond) ∈ zT := zT_mem (i := 188) (by decide +kernel) (by decide +kernel)
theorem k_162 : (Cond.laysFinal RX3 "AllowanceBook$Taking" "allowancesTaken" "[I" : Cond) ∈ zT := zT_mem (i := 189) (by decide +kernel) (by decide +kernel)
theorem k_164 : (Cond.laysFinal RX3 "AllowanceBook$Taking" "offsetsTaken" "[I" : Cond) ∈ zT := zT_mem (i := 191) (by decide +kernel) (by decide +kernel)
theorem k_166 : (Cond.lays RX3 "AllowanceBook$Taking" "allAllowances" "I" : Cond) ∈ zT := zT_mem (i := 193) (by decide +kernel) (by decide +kernel)
theorem k_168 : (Cond.lays RX3 "AllowanceBook$Taking" "vintagesTouched" "I" : Cond) ∈ zT := zT_mem (i := 195) (by decide +kernel) (by decide +kernel)
theorem k_170 : (Cond.lays RX3 "AllowanceBook$Taking" "firstTouched" "I" : Cond) ∈ zT := zT_mem (i := 197) (by decide +kernel) (by decide +kernel)
theorem k_172 : (Cond.lays RX3 "AllowanceBook$Taking" "missing" "I" : Cond) ∈ zT := zT_mem (i := 199) (by decide +kernel) (by decide +kernel)
theorem k_175 : (Cond.classLink RX5 36 RX4 : Cond) ∈ zT := zT_mem (i := 202) (by decide +kernel) (by decide +kernel)
theorem k_176 : (Cond.instantiable RX4 8 : Cond) ∈ zT := zT_mem (i := 203) (by decide +kernel) (by decide +kernel)
theorem k_177 : (Cond.methodLink RX5 38 yX4_init : Cond) ∈ zT := zT_mem (i := 204) (by decide +kernel) (by decide +kernel)
theorem k_178 : (Cond.instanceMethod yX4_init : Cond) ∈ zT := zT_mem (i := 205) (by decide +kernel) (by decide +kernel)
theorem k_179 : (Cond.code yX4_init cX4_init 1 (none : Option ClassFile.FieldType) : Cond) ∈ zT := zT_mem (i := 206) (by decide +kernel) (by decide +kernel)
theorem k_180 : (Cond.methodLink RX4 3 objectInit : Cond) ∈ zT := zT_mem (i := 207) (by decide +kernel) (by decide +kernel)
theorem k_181 : (Cond.fieldLink RX4 9 "AllowanceBook$Text" "characters" "[C" : Cond) ∈ zT := zT_mem (i := 208) (by decide +kernel) (by decide +kernel)
theorem k_182 : (Cond.fieldLink RX5 142 "AllowanceBook$Text" "characters" "[C" : Cond) ∈ zT := zT_mem (i := 209) (by decide +kernel) (by decide +kernel)
theorem k_183 : (Cond.fieldLink RX4 39 "AllowanceBook$Text" "length" "I" : Cond) ∈ zT := zT_mem (i := 210) (by decide +kernel) (by decide +kernel)
theorem k_184 : (Cond.fieldLink RX5 139 "AllowanceBook$Text" "length" "I" : Cond) ∈ zT := zT_mem (i := 211) (by decide +kernel) (by decide +kernel)
theorem k_185 : (Cond.fieldLink RX4 15 "AllowanceBook$Text" "froms" "[I" : Cond) ∈ zT := zT_mem (i := 212) (by decide +kernel) (by decide +kernel)
theorem k_186 : (Cond.fieldLink RX5 160 "AllowanceBook$Text" "froms" "[I" : Cond) ∈ zT := zT_mem (i := 213) (by decide +kernel) (by decide +kernel)
theorem k_187 : (Cond.fieldLink RX4 19 "AllowanceBook$Text" "tos" "[I" : Cond) ∈ zT := zT_mem (i := 214) (by decide +kernel) (by decide +kernel)
theorem k_188 : (Cond.fieldLink RX5 163 "AllowanceBook$Text" "tos" "[I" : Cond) ∈ zT := zT_mem (i := 215) (by decide +kernel) (by decide +kernel)
theorem k_189 : (Cond.fieldLink RX4 22 "AllowanceBook$Text" "vintages" "[I" : Cond) ∈ zT := zT_mem (i := 216) (by decide +kernel) (by decide +kernel)
theorem k_190 : (Cond.fieldLink RX5 166 "AllowanceBook$Text" "vintages" "[I" : Cond) ∈ zT := zT_mem (i := 217) (by decide +kernel) (by decide +kernel)
theorem k_191 : (Cond.fieldLink RX4 25 "AllowanceBook$Text" "tonnes" "[I" : Cond) ∈ zT := zT_mem (i := 218) (by decide +kernel) (by decide +kernel)
theorem k_192 : (Cond.fieldLink RX5 169 "AllowanceBook$Text" "tonnes" "[I" : Cond) ∈ zT := zT_mem (i := 219) (by decide +kernel) (by decide +kernel)
theorem k_193 : (Cond.fieldLink RX4 32 "AllowanceBook$Text" "transfers" "I" : Cond) ∈ zT := zT_mem (i := 220) (by decide +kernel) (by decide +kernel)
theorem k_194 : (Cond.fieldLink RX5 157 "AllowanceBook$Text" "transfers" "I" : Cond) ∈ zT := zT_mem (i := 221) (by decide +kernel) (by decide +kernel)
theorem k_195 : (Cond.fieldLink RX4 28 "AllowanceBook$Text" "at" "I" : Cond) ∈ zT := zT_mem (i := 222) (by decide +kernel) (by decide +kernel)
theorem k_196 : (Cond.fieldLink RX5 150 "AllowanceBook$Text" "at" "I" : Cond) ∈ zT := zT_mem (i := 223) (by decide +kernel) (by decide +kernel)
theorem k_197 : (Cond.laysFinal RX4 "AllowanceBook$Text" "characters" "[C" : Cond) ∈ zT := zT_mem (i := 224) (by decide +kernel) (by decide +kernel)
theorem k_199 : (Cond.lays RX4 "AllowanceBook$Text" "length" "I" : Cond) ∈ zT := zT_mem (i := 226) (by decide +kernel) (by decide +kernel)
theorem k_201 : (Cond.laysFinal RX4 "AllowanceBook$Text" "froms" "[I" : Cond) ∈ zT := zT_mem (i := 228) (by decide +kernel) (by decide +kernel)
theorem k_203 : (Cond.laysFinal RX4 "AllowanceBook$Text" "tos" "[I" : Cond) ∈ zT := zT_mem (i := 230) (by decide +kernel) (by decide +kernel)
theorem k_205 : (Cond.laysFinal RX4 "AllowanceBook$Text" "vintages" "[I" : Cond) ∈ zT := zT_mem (i := 232) (by decide +kernel) (by decide +kernel)
theorem k_207 : (Cond.laysFinal RX4 "AllowanceBook$Text" "tonnes" "[I" : Cond) ∈ zT := zT_mem (i := 234) (by decide +kernel) (by decide +kernel)
theorem k_209 : (Cond.lays RX4 "AllowanceBook$Text" "transfers" "I" : Cond) ∈ zT := zT_mem (i := 236) (by decide +kernel) (by decide +kernel)
theorem k_211 : (Cond.lays RX4 "AllowanceBook$Text" "at" "I" : Cond) ∈ zT := zT_mem (i := 238) (by decide +kernel) (by decide +kernel)
theorem k_214 : (Cond.arrayClass .char : Cond) ∈ zT := zT_mem (i := 241) (by decide +kernel) (by decide +kernel)
theorem k_215 : (Cond.fieldLink RX5 12 "AllowanceBook" "present" "LAllowanceBook$State;" : Cond) ∈ zT := zT_mem (i := 242) (by decide +kernel) (by decide +kernel)
theorem k_216 : (Cond.fieldLink RX5 16 "AllowanceBook" "kept" "LAllowanceBook$State;" : Cond) ∈ zT := zT_mem (i := 243) (by decide +kernel) (by decide +kernel)
theorem k_217 : (Cond.fieldLink RX5 19 "AllowanceBook" "trial" "LAllowanceBook$State;" : Cond) ∈ zT := zT_mem (i := 244) (by decide +kernel) (by decide +kernel)
theorem k_218 : (Cond.fieldLink RX5 25 "AllowanceBook" "past" "LAllowanceBook$History;" : Cond) ∈ zT := zT_mem (i := 245) (by decide +kernel) (by decide +kernel)
theorem k_219 : (Cond.fieldLink RX5 32 "AllowanceBook" "taking" "LAllowanceBook$Taking;" : Cond) ∈ zT := zT_mem (i := 246) (by decide +kernel) (by decide +kernel)
theorem k_220 : (Cond.fieldLink RX5 39 "AllowanceBook" "text" "LAllowanceBook$Text;" : Cond) ∈ zT := zT_mem (i := 247) (by decide +kernel) (by decide +kernel)
theorem k_221 : (Cond.fieldLink RX5 43 "AllowanceBook" "hasKept" "Z" : Cond) ∈ zT := zT_mem (i := 248) (by decide +kernel) (by decide +kernel)
theorem k_222 : (Cond.laysFinal RX5 "AllowanceBook" "present" "LAllowanceBook$State;" : Cond) ∈ zT := zT_mem (i := 249) (by decide +kernel) (by decide +kernel)
theorem k_224 : (Cond.laysFinal RX5 "AllowanceBook" "kept" "LAllowanceBook$State;" : Cond) ∈ zT := zT_mem (i := 251) (by decide +kernel) (by decide +kernel)
theorem k_226 : (Cond.laysFinal RX5 "AllowanceBook" "trial" "LAllowanceBook$State;" : Cond) ∈ zT := zT_mem (i := 253) (by decide +kernel) (by decide +kernel)
theorem k_228 : (Cond.laysFinal RX5 "AllowanceBook" "past" "LAllowanceBook$History;" : Cond) ∈ zT := zT_mem (i := 255) (by decide +kernel) (by decide +kernel)
theorem k_230 : (Cond.laysFinal RX5 "AllowanceBook" "taking" "LAllowanceBook$Taking;" : Cond) ∈ zT := zT_mem (i := 257) (by decide +kernel) (by decide +kernel)
theorem k_232 : (Cond.laysFinal RX5 "AllowanceBook" "text" "LAllowanceBook$Text;" : Cond) ∈ zT := zT_mem (i := 259) (by decide +kernel) (by decide +kernel)
theorem k_234 : (Cond.lays RX5 "AllowanceBook" "hasKept" "Z" : Cond) ∈ zT := zT_mem (i := 261) (by decide +kernel) (by decide +kernel)
theorem k_237 : (Cond.methodLink RL 13 yX5_addFirm : Cond) ∈ zT := zT_mem (i := 264) (by decide +kernel) (by decide +kernel)
theorem k_238 : (Cond.instanceMethod yX5_addFirm : Cond) ∈ zT := zT_mem (i := 265) (by decide +kernel) (by decide +kernel)
theorem k_239 : (Cond.selects RX5 yX5_addFirm yX5_addFirm : Cond) ∈ zT := zT_mem (i := 266) (by decide +kernel) (by decide +kernel)
theorem k_240 : (Cond.code yX5_addFirm cX5_addFirm 1 (some .int) : Cond) ∈ zT := zT_mem (i := 267) (by decide +kernel) (by decide +kernel)
theorem k_241 : (Cond.methodLink RX5 51 yX1_push : Cond) ∈ zT := zT_mem (i := 268) (by decide +kernel) (by decide +kernel)
theorem k_242 : (Cond.instanceMethod yX1_push : Cond) ∈ zT := zT_mem (i := 269) (by decide +kernel) (by decide +kernel)
theorem k_243 : (Cond.selects RX1 yX1_push yX1_push : Cond) ∈ zT := zT_mem (i := 270) (by decide +kernel) (by decide +kernel)
theorem k_244 : (Cond.code yX1_push cX1_push 2 (none : Option ClassFile.FieldType) : Cond) ∈ zT := zT_mem (i := 271) (by decide +kernel) (by decide +kernel)
theorem k_246 : (Cond.static yX5_copyState : Cond) ∈ zT := zT_mem (i := 273) (by decide +kernel) (by decide +kernel)
theorem k_247 : (Cond.code yX5_copyState cX5_copyState 3 (none : Option ClassFile.FieldType) : Cond) ∈ zT := zT_mem (i := 274) (by decide +kernel) (by decide +kernel)
theorem k_248 : (Cond.methodLink RX5 258 yX5_copyNumbers : Cond) ∈ zT := zT_mem (i := 275) (by decide +kernel) (by decide +kernel)
theorem k_249 : (Cond.static yX5_copyNumbers : Cond) ∈ zT := zT_mem (i := 276) (by decide +kernel) (by decide +kernel)
theorem k_250 : (Cond.code yX5_copyNumbers cX5_copyNumbers 2 (none : Option ClassFile.FieldType) : Cond) ∈ zT := zT_mem (i := 277) (by decide +kernel) (by decide +kernel)
theorem k_251 : (Cond.methodLink RX5 270 Lib.Math.min.name : Cond) ∈ zT := zT_mem (i := 278) (by decide +kernel) (by decide +kernel)
theorem k_252 : (Cond.static Lib.Math.min.name : Cond) ∈ zT := zT_mem (i := 279) (by decide +kernel) (by decide +kernel)
theorem k_253 : (Cond.code Lib.Math.min.name Lib.Math.min.code 2 (some .int) : Cond) ∈ zT := zT_mem (i := 280) (by decide +kernel) (by decide +kernel)
theorem k_254 : (Cond.methodLink RX5 275 arraycopyName : Cond) ∈ zT := zT_mem (i := 281) (by decide +kernel) (by decide +kernel)
theorem k_255 : (Cond.static arraycopyName : Cond) ∈ zT := zT_mem (i := 282) (by decide +kernel) (by decide +kernel)
theorem k_256 : (Cond.native arraycopyName : Cond) ∈ zT := zT_mem (i := 283) (by decide +kernel) (by decide +kernel)
theorem k_257 : (Cond.methodLink RX5 266 yX5_copyFirm : Cond) ∈ zT := zT_mem (i := 284) (by decide +kernel) (by decide +kernel)
theorem k_258 : (Cond.static yX5_copyFirm : Cond) ∈ zT := zT_mem (i := 285) (by decide +kernel) (by decide +kernel)
theorem k_259 : (Cond.code yX5_copyFirm cX5_copyFirm 2 (none : Option ClassFile.FieldType) : Cond) ∈ zT := zT_mem (i := 286) (by decide +kernel) (by decide +kernel)
theorem k_260 : (Cond.methodLink RX1 29 Lib.Math.min.name : Cond) ∈ zT := zT_mem (i := 287) (by decide +kernel) (by decide +kernel)
theorem k_261 : (Cond.methodLink RL 18 yX5_set : Cond) ∈ zT := zT_mem (i := 288) (by decide +kernel) (by decide +kernel)
theorem k_262 : (Cond.instanceMethod yX5_set : Cond) ∈ zT := zT_mem (i := 289) (by decide +kernel) (by decide +kernel)
theorem k_263 : (Cond.selects RX5 yX5_set yX5_set : Cond) ∈ zT := zT_mem (i := 290) (by decide +kernel) (by decide +kernel)
theorem k_264 : (Cond.code yX5_set cX5_set 4 (some .int) : Cond) ∈ zT := zT_mem (i := 291) (by decide +kernel) (by decide +kernel)
theorem k_265 : (Cond.fieldLink RX5 55 "AllowanceBook" "LEAST_SETTINGS" "[I" : Cond) ∈ zT := zT_mem (i := 292) (by decide +kernel) (by decide +kernel)
theorem k_267 : (Cond.fieldLink RX5 59 "AllowanceBook" "MOST_SETTINGS" "[I" : Cond) ∈ zT := zT_mem (i := 294) (by decide +kernel) (by decide +kernel)
theorem k_269 : (Cond.methodLink RL 23 yX5_issue : Cond) ∈ zT := zT_mem (i := 296) (by decide +kernel) (by decide +kernel)
theorem k_270 : (Cond.instanceMethod yX5_issue : Cond) ∈ zT := zT_mem (i := 297) (by decide +kernel) (by decide +kernel)
theorem k_271 : (Cond.selects RX5 yX5_issue yX5_issue : Cond) ∈ zT := zT_mem (i := 298) (by decide +kernel) (by decide +kernel)
theorem k_272 : (Cond.code yX5_issue cX5_issue 5 (some .int) : Cond) ∈ zT := zT_mem (i := 299) (by decide +kernel) (by decide +kernel)
theorem k_273 : (Cond.methodLink RX5 65 yX2_firmAt : Cond) ∈ zT := zT_mem (i := 300) (by decide +kernel) (by decide +kernel)
theorem k_274 : (Cond.instanceMethod yX2_firmAt : Cond) ∈ zT := zT_mem (i := 301) (by decide +kernel) (by decide +kernel)
theorem k_275 : (Cond.selects RX2 yX2_firmAt yX2_firmAt : Cond) ∈ zT := zT_mem (i := 302) (by decide +kernel) (by decide +kernel)
theorem k_276 : (Cond.code yX2_firmAt cX2_firmAt 2 (some (.object "AllowanceBook$Firm")) : Cond) ∈ zT := zT_mem (i := 303) (by decide +kernel) (by decide +kernel)
theorem k_277 : (Cond.methodLink RX5 69 yX5_isTonnes : Cond) ∈ zT := zT_mem (i := 304) (by decide +kernel) (by decide +kernel)
theorem k_278 : (Cond.static yX5_isTonnes : Cond) ∈ zT := zT_mem (i := 305) (by decide +kernel) (by decide +kernel)
theorem k_279 : (Cond.code yX5_isTonnes cX5_isTonnes 1 (some .boolean) : Cond) ∈ zT := zT_mem (i := 306) (by decide +kernel) (by decide +kernel)
theorem k_280 : (Cond.methodLink RX5 73 yX2_year : Cond) ∈ zT := zT_mem (i := 307) (by decide +kernel) (by decide +kernel)
theorem k_281 : (Cond.instanceMethod yX2_year : Cond) ∈ zT := zT_mem (i := 308) (by decide +kernel) (by decide +kernel)
theorem k_282 : (Cond.selects RX2 yX2_year yX2_year : Cond) ∈ zT := zT_mem (i := 309) (by decide +kernel) (by decide +kernel)
theorem k_283 : (Cond.code yX2_year cX2_year 1 (some .int) : Cond) ∈ zT := zT_mem (i := 310) (by decide +kernel) (by decide +kernel)
theorem k_284 : (Cond.methodLink RL 27 yX5_issueOffsets : Cond) ∈ zT := zT_mem (i := 311) (by decide +kernel) (by decide +kernel)
theorem k_285 : (Cond.instanceMethod yX5_issueOffsets : Cond) ∈ zT := zT_mem (i := 312) (by decide +kernel) (by decide +kernel)
theorem k_286 : (Cond.selects RX5 yX5_issueOffsets yX5_issueOffsets : Cond) ∈ zT := zT_mem (i := 313) (by decide +kernel) (by decide +kernel)
theorem k_287 : (Cond.code yX5_issueOffsets cX5_issueOffsets 5 (some .int) : Cond) ∈ zT := zT_mem (i := 314) (by decide +kernel) (by decide +kernel)
theorem k_288 : (Cond.methodLink RX5 85 yX5_isGrade : Cond) ∈ zT := zT_mem (i := 315) (by decide +kernel) (by decide +kernel)
theorem k_289 : (Cond.static yX5_isGrade : Cond) ∈ zT := zT_mem (i := 316) (by decide +kernel) (by decide +kernel)
theorem k_290 : (Cond.code yX5_isGrade cX5_isGrade 1 (some .boolean) : Cond) ∈ zT := zT_mem (i := 317) (by decide +kernel) (by decide +kernel)
theorem k_291 : (Cond.methodLink RL 32 yX5_transfer : Cond) ∈ zT := zT_mem (i := 318) (by decide +kernel) (by decide +kernel)
theorem k_292 : (Cond.instanceMethod yX5_transfer : Cond) ∈ zT := zT_mem (i := 319) (by decide +kernel) (by decide +kernel)
theorem k_293 : (Cond.selects RX5 yX5_transfer yX5_transfer : Cond) ∈ zT := zT_mem (i := 320) (by decide +kernel) (by decide +kernel)
theorem k_294 : (Cond.code yX5_transfer cX5_transfer 6 (some .int) : Cond) ∈ zT := zT_mem (i := 321) (by decide +kernel) (by decide +kernel)
theorem k_295 : (Cond.methodLink RX5 94 yX2_moveError : Cond) ∈ zT := zT_mem (i := 322) (by decide +kernel) (by decide +kernel)
theorem k_296 : (Cond.instanceMethod yX2_moveError : Cond) ∈ zT := zT_mem (i := 323) (by decide +kernel) (by decide +kernel)
theorem k_297 : (Cond.selects RX2 yX2_moveError yX2_moveError : Cond) ∈ zT := zT_mem (i := 324) (by decide +kernel) (by decide +kernel)
theorem k_298 : (Cond.code yX2_moveError cX2_moveError 6 (some .int) : Cond) ∈ zT := zT_mem (i := 325) (by decide +kernel) (by decide +kernel)
theorem k_299 : (Cond.methodLink RX2 55 yX2_firmAt : Cond) ∈ zT := zT_mem (i := 326) (by decide +kernel) (by decide +kernel)
theorem k_301 : (Cond.static yX5_isVintage : Cond) ∈ zT := zT_mem (i := 328) (by decide +kernel) (by decide +kernel)
theorem k_302 : (Cond.code yX5_isVintage cX5_isVintage 1 (some .boolean) : Cond) ∈ zT := zT_mem (i := 329) (by decide +kernel) (by decide +kernel)
theorem k_304 : (Cond.methodLink RX5 98 yX2_move : Cond) ∈ zT := zT_mem (i := 331) (by decide +kernel) (by decide +kernel)
theorem k_305 : (Cond.instanceMethod yX2_move : Cond) ∈ zT := zT_mem (i := 332) (by decide +kernel) (by decide +kernel)
theorem k_306 : (Cond.selects RX2 yX2_move yX2_move : Cond) ∈ zT := zT_mem (i := 333) (by decide +kernel) (by decide +kernel)
theorem k_307 : (Cond.code yX2_move cX2_move 7 (some .int) : Cond) ∈ zT := zT_mem (i := 334) (by decide +kernel) (by decide +kernel)
theorem k_308 : (Cond.methodLink RL 37 yX5_transferOffsets : Cond) ∈ zT := zT_mem (i := 335) (by decide +kernel) (by decide +kernel)
theorem k_309 : (Cond.instanceMethod yX5_transferOffsets : Cond) ∈ zT := zT_mem (i := 336) (by decide +kernel) (by decide +kernel)
theorem k_310 : (Cond.selects RX5 yX5_transferOffsets yX5_transferOffsets : Cond) ∈ zT := zT_mem (i := 337) (by decide +kernel) (by decide +kernel)
theorem k_311 : (Cond.code yX5_transferOffsets cX5_transferOffsets 7 (some .int) : Cond) ∈ zT := zT_mem (i := 338) (by decide +kernel) (by decide +kernel)
theorem k_312 : (Cond.methodLink RL 41 yX5_cancel : Cond) ∈ zT := zT_mem (i := 339) (by decide +kernel) (by decide +kernel)
theorem k_313 : (Cond.instanceMethod yX5_cancel : Cond) ∈ zT := zT_mem (i := 340) (by decide +kernel) (by decide +kernel)
theorem k_314 : (Cond.selects RX5 yX5_cancel yX5_cancel : Cond) ∈ zT := zT_mem (i := 341) (by decide +kernel) (by decide +kernel)
theorem k_315 : (Cond.code yX5_cancel cX5_cancel 5 (some .int) : Cond) ∈ zT := zT_mem (i := 342) (by decide +kernel) (by decide +kernel)
theorem k_316 : (Cond.methodLink RX5 101 yX5_isVintage : Cond) ∈ zT := zT_mem (i := 343) (by decide +kernel) (by decide +kernel)
theorem k_317 : (Cond.methodLink RL 45 yX5_report : Cond) ∈ zT := zT_mem (i := 344) (by decide +kernel) (by decide +kernel)
theorem k_318 : (Cond.instanceMethod yX5_report : Cond) ∈ zT := zT_mem (i := 345) (by decide +kernel) (by decide +kernel)
theorem k_319 : (Cond.selects RX5 yX5_report yX5_report : Cond) ∈ zT := zT_mem (i := 346) (by decide +kernel) (by decide +kernel)
theorem k_320 : (Cond.code yX5_report cX5_report 4 (some .int) : Cond) ∈ zT := zT_mem (i := 347) (by decide +kernel) (by decide +kernel)
theorem k_321 : (Cond.methodLink RL 49 yX5_verify : Cond) ∈ zT := zT_mem (i := 348) (by decide +kernel) (by decide +kernel)
theorem k_322 : (Cond.instanceMethod yX5_verify : Cond) ∈ zT := zT_mem (i := 349) (by decide +kernel) (by decide +kernel)
theorem k_323 : (Cond.selects RX5 yX5_verify yX5_verify : Cond) ∈ zT := zT_mem (i := 350) (by decide +kernel) (by decide +kernel)
theorem k_324 : (Cond.code yX5_verify cX5_verify 3 (some .int) : Cond) ∈ zT := zT_mem (i := 351) (by decide +kernel) (by decide +kernel)
theorem k_325 : (Cond.methodLink RL 54 yX5_surrender : Cond) ∈ zT := zT_mem (i := 352) (by decide +kernel) (by decide +kernel)
theorem k_326 : (Cond.instanceMethod yX5_surrender : Cond) ∈ zT := zT_mem (i := 353) (by decide +kernel) (by decide +kernel)
theorem k_327 : (Cond.selects RX5 yX5_surrender yX5_surrender : Cond) ∈ zT := zT_mem (i := 354) (by decide +kernel) (by decide +kernel)
theorem k_328 : (Cond.code yX5_surrender cX5_surrender 5 (some .int) : Cond) ∈ zT := zT_mem (i := 355) (by decide +kernel) (by decide +kernel)
theorem k_329 : (Cond.methodLink RX5 113 yX5_isWay : Cond) ∈ zT := zT_mem (i := 356) (by decide +kernel) (by decide +kernel)
theorem k_330 : (Cond.static yX5_isWay : Cond) ∈ zT := zT_mem (i := 357) (by decide +kernel) (by decide +kernel)
theorem k_331 : (Cond.code yX5_isWay cX5_isWay 1 (some .boolean) : Cond) ∈ zT := zT_mem (i := 358) (by decide +kernel) (by decide +kernel)
theorem k_332 : (Cond.methodLink RX5 119 yX3_workOut : Cond) ∈ zT := zT_mem (i := 359) (by decide +kernel) (by decide +kernel)
theorem k_333 : (Cond.instanceMethod yX3_workOut : Cond) ∈ zT := zT_mem (i := 360) (by decide +kernel) (by decide +kernel)
theorem k_334 : (Cond.selects RX3 yX3_workOut yX3_workOut : Cond) ∈ zT := zT_mem (i := 361) (by decide +kernel) (by decide +kernel)
theorem k_335 : (Cond.code yX3_workOut cX3_workOut 7 (none : Option ClassFile.FieldType) : Cond) ∈ zT := zT_mem (i := 362) (by decide +kernel) (by decide +kernel)
theorem k_336 : (Cond.methodLink RX3 31 yX0_canUse : Cond) ∈ zT := zT_mem (i := 363) (by decide +kernel) (by decide +kernel)
theorem k_337 : (Cond.instanceMethod yX0_canUse : Cond) ∈ zT := zT_mem (i := 364) (by decide +kernel) (by decide +kernel)
theorem k_338 : (Cond.selects RX0 yX0_canUse yX0_canUse : Cond) ∈ zT := zT_mem (i := 365) (by decide +kernel) (by decide +kernel)
theorem k_339 : (Cond.code yX0_canUse cX0_canUse 3 (some .int) : Cond) ∈ zT := zT_mem (i := 366) (by decide +kernel) (by decide +kernel)
theorem k_340 : (Cond.methodLink RX0 31 yX0_mayUse : Cond) ∈ zT := zT_mem (i := 367) (by decide +kernel) (by decide +kernel)
theorem k_341 : (Cond.instanceMethod yX0_mayUse : Cond) ∈ zT := zT_mem (i := 368) (by decide +kernel) (by decide +kernel)
theorem k_342 : (Cond.selects RX0 yX0_mayUse yX0_mayUse : Cond) ∈ zT := zT_mem (i := 369) (by decide +kernel) (by decide +kernel)
theorem k_343 : (Cond.code yX0_mayUse cX0_mayUse 3 (some .int) : Cond) ∈ zT := zT_mem (i := 370) (by decide +kernel) (by decide +kernel)
theorem k_344 : (Cond.methodLink RX0 25 Lib.Math.max.name : Cond) ∈ zT := zT_mem (i := 371) (by decide +kernel) (by decide +kernel)
theorem k_345 : (Cond.static Lib.Math.max.name : Cond) ∈ zT := zT_mem (i := 372) (by decide +kernel) (by decide +kernel)
theorem k_346 : (Cond.code Lib.Math.max.name Lib.Math.max.code 2 (some .int) : Cond) ∈ zT := zT_mem (i := 373) (by decide +kernel) (by decide +kernel)
theorem k_347 : (Cond.methodLink RX0 34 Lib.Math.min.name : Cond) ∈ zT := zT_mem (i := 374) (by decide +kernel) (by decide +kernel)
theorem k_348 : (Cond.methodLink RX3 37 Lib.Math.min.name : Cond) ∈ zT := zT_mem (i := 375) (by decide +kernel) (by decide +kernel)
theorem k_349 : (Cond.methodLink RX3 42 yX3_takeVintage : Cond) ∈ zT := zT_mem (i := 376) (by decide +kernel) (by decide +kernel)
theorem k_350 : (Cond.instanceMethod yX3_takeVintage : Cond) ∈ zT := zT_mem (i := 377) (by decide +kernel) (by decide +kernel)
theorem k_351 : (Cond.selects RX3 yX3_takeVintage yX3_takeVintage : Cond) ∈ zT := zT_mem (i := 378) (by decide +kernel) (by decide +kernel)
theorem k_352 : (Cond.code yX3_takeVintage cX3_takeVintage 4 (none : Option ClassFile.FieldType) : Cond) ∈ zT := zT_mem (i := 379) (by decide +kernel) (by decide +kernel)
theorem k_353 : (Cond.methodLink RX5 126 yX2_takeFrom : Cond) ∈ zT := zT_mem (i := 380) (by decide +kernel) (by decide +kernel)
theorem k_354 : (Cond.instanceMethod yX2_takeFrom : Cond) ∈ zT := zT_mem (i := 381) (by decide +kernel) (by decide +kernel)
theorem k_355 : (Cond.selects RX2 yX2_takeFrom yX2_takeFrom : Cond) ∈ zT := zT_mem (i := 382) (by decide +kernel) (by decide +kernel)
theorem k_356 : (Cond.code yX2_takeFrom cX2_takeFrom 5 (none : Option ClassFile.FieldType) : Cond) ∈ zT := zT_mem (i := 383) (by decide +kernel) (by decide +kernel)
theorem k_357 : (Cond.methodLink RL 58 yX5_pass : Cond) ∈ zT := zT_mem (i := 384) (by decide +kernel) (by decide +kernel)
theorem k_358 : (Cond.instanceMethod yX5_pass : Cond) ∈ zT := zT_mem (i := 385) (by decide +kernel) (by decide +kernel)
theorem k_359 : (Cond.selects RX5 yX5_pass yX5_pass : Cond) ∈ zT := zT_mem (i := 386) (by decide +kernel) (by decide +kernel)
theorem k_360 : (Cond.code yX5_pass cX5_pass 4 (some .int) : Cond) ∈ zT := zT_mem (i := 387) (by decide +kernel) (by decide +kernel)
theorem k_361 : (Cond.methodLink RX5 136 yX2_beginMonth : Cond) ∈ zT := zT_mem (i := 388) (by decide +kernel) (by decide +kernel)
theorem k_362 : (Cond.instanceMethod yX2_beginMonth : Cond) ∈ zT := zT_mem (i := 389) (by decide +kernel) (by decide +kernel)
theorem k_363 : (Cond.selects RX2 yX2_beginMonth yX2_beginMonth : Cond) ∈ zT := zT_mem (i := 390) (by decide +kernel) (by decide +kernel)
theorem k_364 : (Cond.code yX2_beginMonth cX2_beginMonth 1 (some .int) : Cond) ∈ zT := zT_mem (i := 391) (by decide +kernel) (by decide +kernel)
theorem k_365 : (Cond.methodLink RX2 83 yX2_beginYear : Cond) ∈ zT := zT_mem (i := 392) (by decide +kernel) (by decide +kernel)
theorem k_366 : (Cond.instanceMethod yX2_beginYear : Cond) ∈ zT := zT_mem (i := 393) (by decide +kernel) (by decide +kernel)
theorem k_367 : (Cond.selects RX2 yX2_beginYear yX2_beginYear : Cond) ∈ zT := zT_mem (i := 394) (by decide +kernel) (by decide +kernel)
theorem k_368 : (Cond.code yX2_beginYear cX2_beginYear 5 (none : Option ClassFile.FieldType) : Cond) ∈ zT := zT_mem (i := 395) (by decide +kernel) (by decide +kernel)
theorem k_369 : (Cond.methodLink RX2 93 yX0_closeYear : Cond) ∈ zT := zT_mem (i := 396) (by decide +kernel) (by decide +kernel)
theorem k_370 : (Cond.instanceMethod yX0_closeYear : Cond) ∈ zT := zT_mem (i := 397) (by decide +kernel) (by decide +kernel)
theorem k_371 : (Cond.selects RX0 yX0_closeYear yX0_closeYear : Cond) ∈ zT := zT_mem (i := 398) (by decide +kernel) (by decide +kernel)
theorem k_372 : (Cond.code yX0_closeYear cX0_closeYear 3 (none : Option ClassFile.FieldType) : Cond) ∈ zT := zT_mem (i := 399) (by decide +kernel) (by decide +kernel)
theorem k_373 : (Cond.methodLink RX2 86 yX2_year : Cond) ∈ zT := zT_mem (i := 400) (by decide +kernel) (by decide +kernel)
theorem k_374 : (Cond.methodLink RX2 96 yX2_loseAll : Cond) ∈ zT := zT_mem (i := 401) (by decide +kernel) (by decide +kernel)
theorem k_375 : (Cond.instanceMethod yX2_loseAll : Cond) ∈ zT := zT_mem (i := 402) (by decide +kernel) (by decide +kernel)
theorem k_376 : (Cond.selects RX2 yX2_loseAll yX2_loseAll : Cond) ∈ zT := zT_mem (i := 403) (by decide +kernel) (by decide +kernel)
theorem k_377 : (Cond.code yX2_loseAll cX2_loseAll 6 (none : Option ClassFile.FieldType) : Cond) ∈ zT := zT_mem (i := 404) (by decide +kernel) (by decide +kernel)
theorem k_378 : (Cond.methodLink RX2 90 yX2_fineAll : Cond) ∈ zT := zT_mem (i := 405) (by decide +kernel) (by decide +kernel)
theorem k_379 : (Cond.instanceMethod yX2_fineAll : Cond) ∈ zT := zT_mem (i := 406) (by decide +kernel) (by decide +kernel)
theorem k_380 : (Cond.selects RX2 yX2_fineAll yX2_fineAll : Cond) ∈ zT := zT_mem (i := 407) (by decide +kernel) (by decide +kernel)
theorem k_381 : (Cond.code yX2_fineAll cX2_fineAll 7 (some .int) : Cond) ∈ zT := zT_mem (i := 408) (by decide +kernel) (by decide +kernel)
theorem k_382 : (Cond.methodLink RL 62 yX5_type : Cond) ∈ zT := zT_mem (i := 409) (by decide +kernel) (by decide +kernel)
theorem k_383 : (Cond.instanceMethod yX5_type : Cond) ∈ zT := zT_mem (i := 410) (by decide +kernel) (by decide +kernel)
theorem k_384 : (Cond.selects RX5 yX5_type yX5_type : Cond) ∈ zT := zT_mem (i := 411) (by decide +kernel) (by decide +kernel)
theorem k_385 : (Cond.code yX5_type cX5_type 2 (some .int) : Cond) ∈ zT := zT_mem (i := 412) (by decide +kernel) (by decide +kernel)
theorem k_386 : (Cond.methodLink RL 67 yX5_clearText : Cond) ∈ zT := zT_mem (i := 413) (by decide +kernel) (by decide +kernel)
theorem k_387 : (Cond.instanceMethod yX5_clearText : Cond) ∈ zT := zT_mem (i := 414) (by decide +kernel) (by decide +kernel)
theorem k_388 : (Cond.selects RX5 yX5_clearText yX5_clearText : Cond) ∈ zT := zT_mem (i := 415) (by decide +kernel) (by decide +kernel)
theorem k_389 : (Cond.code yX5_clearText cX5_clearText 2 (some .int) : Cond) ∈ zT := zT_mem (i := 416) (by decide +kernel) (by decide +kernel)
theorem k_390 : (Cond.methodLink RL 71 yX5_readTransfers : Cond) ∈ zT := zT_mem (i := 417) (by decide +kernel) (by decide +kernel)
theorem k_391 : (Cond.instanceMethod yX5_readTransfers : Cond) ∈ zT := zT_mem (i := 418) (by decide +kernel) (by decide +kernel)
theorem k_392 : (Cond.selects RX5 yX5_readTransfers yX5_readTransfers : Cond) ∈ zT := zT_mem (i := 419) (by decide +kernel) (by decide +kernel)
theorem k_393 : (Cond.code yX5_readTransfers cX5_readTransfers 3 (some .int) : Cond) ∈ zT := zT_mem (i := 420) (by decide +kernel) (by decide +kernel)
theorem k_394 : (Cond.methodLink RX5 146 yX4_readAll : Cond) ∈ zT := zT_mem (i := 421) (by decide +kernel) (by decide +kernel)
theorem k_395 : (Cond.instanceMethod yX4_readAll : Cond) ∈ zT := zT_mem (i := 422) (by decide +kernel) (by decide +kernel)
theorem k_396 : (Cond.selects RX4 yX4_readAll yX4_readAll : Cond) ∈ zT := zT_mem (i := 423) (by decide +kernel) (by decide +kernel)
theorem k_397 : (Cond.code yX4_readAll cX4_readAll 2 (some .boolean) : Cond) ∈ zT := zT_mem (i := 424) (by decide +kernel) (by decide +kernel)
theorem k_398 : (Cond.methodLink RX4 35 yX4_readOne : Cond) ∈ zT := zT_mem (i := 425) (by decide +kernel) (by decide +kernel)
theorem k_399 : (Cond.instanceMethod yX4_readOne : Cond) ∈ zT := zT_mem (i := 426) (by decide +kernel) (by decide +kernel)
theorem k_400 : (Cond.selects RX4 yX4_readOne yX4_readOne : Cond) ∈ zT := zT_mem (i := 427) (by decide +kernel) (by decide +kernel)
theorem k_401 : (Cond.code yX4_readOne cX4_readOne 2 (some .boolean) : Cond) ∈ zT := zT_mem (i := 428) (by decide +kernel) (by decide +kernel)
theorem k_402 : (Cond.methodLink RX4 46 yX4_readNumber : Cond) ∈ zT := zT_mem (i := 429) (by decide +kernel) (by decide +kernel)
theorem k_403 : (Cond.instanceMethod yX4_readNumber : Cond) ∈ zT := zT_mem (i := 430) (by decide +kernel) (by decide +kernel)
theorem k_404 : (Cond.selects RX4 yX4_readNumber yX4_readNumber : Cond) ∈ zT := zT_mem (i := 431) (by decide +kernel) (by decide +kernel)
theorem k_405 : (Cond.code yX4_readNumber cX4_readNumber 6 (some .int) : Cond) ∈ zT := zT_mem (i := 432) (by decide +kernel) (by decide +kernel)
theorem k_406 : (Cond.methodLink RX4 50 yX4_digitHere : Cond) ∈ zT := zT_mem (i := 433) (by decide +kernel) (by decide +kernel)
theorem k_407 : (Cond.instanceMethod yX4_digitHere : Cond) ∈ zT := zT_mem (i := 434) (by decide +kernel) (by decide +kernel)
theorem k_408 : (Cond.selects RX4 yX4_digitHere yX4_digitHere : Cond) ∈ zT := zT_mem (i := 435) (by decide +kernel) (by decide +kernel)
theorem k_409 : (Cond.code yX4_digitHere cX4_digitHere 1 (some .int) : Cond) ∈ zT := zT_mem (i := 436) (by decide +kernel) (by decide +kernel)
theorem k_410 : (Cond.methodLink RX4 42 yX4_readSign : Cond) ∈ zT := zT_mem (i := 437) (by decide +kernel) (by decide +kernel)
theorem k_411 : (Cond.instanceMethod yX4_readSign : Cond) ∈ zT := zT_mem (i := 438) (by decide +kernel) (by decide +kernel)
theorem k_412 : (Cond.selects RX4 yX4_readSign yX4_readSign : Cond) ∈ zT := zT_mem (i := 439) (by decide +kernel) (by decide +kernel)
theorem k_413 : (Cond.code yX4_readSign cX4_readSign 2 (some .boolean) : Cond) ∈ zT := zT_mem (i := 440) (by decide +kernel) (by decide +kernel)
theorem k_414 : (Cond.methodLink RX5 153 yX5_copyState : Cond) ∈ zT := zT_mem (i := 441) (by decide +kernel) (by decide +kernel)
theorem k_415 : (Cond.methodLink RL 75 yX5_undo : Cond) ∈ zT := zT_mem (i := 442) (by decide +kernel) (by decide +kernel)
theorem k_416 : (Cond.instanceMethod yX5_undo : Cond) ∈ zT := zT_mem (i := 443) (by decide +kernel) (by decide +kernel)
theorem k_417 : (Cond.selects RX5 yX5_undo yX5_undo : Cond) ∈ zT := zT_mem (i := 444) (by decide +kernel) (by decide +kernel)
theorem k_418 : (Cond.code yX5_undo cX5_undo 1 (some .int) : Cond) ∈ zT := zT_mem (i := 445) (by decide +kernel) (by decide +kernel)
theorem k_419 : (Cond.methodLink RX5 175 yX1_popInto : Cond) ∈ zT := zT_mem (i := 446) (by decide +kernel) (by decide +kernel)
theorem k_420 : (Cond.instanceMethod yX1_popInto : Cond) ∈ zT := zT_mem (i := 447) (by decide +kernel) (by decide +kernel)
theorem k_421 : (Cond.selects RX1 yX1_popInto yX1_popInto : Cond) ∈ zT := zT_mem (i := 448) (by decide +kernel) (by decide +kernel)
theorem k_422 : (Cond.code yX1_popInto cX1_popInto 2 (none : Option ClassFile.FieldType) : Cond) ∈ zT := zT_mem (i := 449) (by decide +kernel) (by decide +kernel)
theorem k_423 : (Cond.methodLink RL 79 yX5_keep : Cond) ∈ zT := zT_mem (i := 450) (by decide +kernel) (by decide +kernel)
theorem k_424 : (Cond.instanceMethod yX5_keep : Cond) ∈ zT := zT_mem (i := 451) (by decide +kernel) (by decide +kernel)
theorem k_425 : (Cond.selects RX5 yX5_keep yX5_keep : Cond) ∈ zT := zT_mem (i := 452) (by decide +kernel) (by decide +kernel)
theorem k_426 : (Cond.code yX5_keep cX5_keep 1 (some .int) : Cond) ∈ zT := zT_mem (i := 453) (by decide +kernel) (by decide +kernel)
theorem k_427 : (Cond.methodLink RL 83 yX5_restore : Cond) ∈ zT := zT_mem (i := 454) (by decide +kernel) (by decide +kernel)
theorem k_428 : (Cond.instanceMethod yX5_restore : Cond) ∈ zT := zT_mem (i := 455) (by decide +kernel) (by decide +kernel)
theorem k_429 : (Cond.selects RX5 yX5_restore yX5_restore : Cond) ∈ zT := zT_mem (i := 456) (by decide +kernel) (by decide +kernel)
theorem k_430 : (Cond.code yX5_restore cX5_restore 1 (some .int) : Cond) ∈ zT := zT_mem (i := 457) (by decide +kernel) (by decide +kernel)
theorem k_431 : (Cond.methodLink RL 87 yX5_firm : Cond) ∈ zT := zT_mem (i := 458) (by decide +kernel) (by decide +kernel)
theorem k_432 : (Cond.instanceMethod yX5_firm : Cond) ∈ zT := zT_mem (i := 459) (by decide +kernel) (by decide +kernel)
theorem k_433 : (Cond.selects RX5 yX5_firm yX5_firm : Cond) ∈ zT := zT_mem (i := 460) (by decide +kernel) (by decide +kernel)
theorem k_434 : (Cond.code yX5_firm cX5_firm 4 (some .int) : Cond) ∈ zT := zT_mem (i := 461) (by decide +kernel) (by decide +kernel)
theorem k_435 : (Cond.methodLink RX5 178 yX0_allowances : Cond) ∈ zT := zT_mem (i := 462) (by decide +kernel) (by decide +kernel)
theorem k_436 : (Cond.instanceMethod yX0_allowances : Cond) ∈ zT := zT_mem (i := 463) (by decide +kernel) (by decide +kernel)
theorem k_437 : (Cond.selects RX0 yX0_allowances yX0_allowances : Cond) ∈ zT := zT_mem (i := 464) (by decide +kernel) (by decide +kernel)
theorem k_438 : (Cond.code yX0_allowances cX0_allowances 6 (some .int) : Cond) ∈ zT := zT_mem (i := 465) (by decide +kernel) (by decide +kernel)
theorem k_439 : (Cond.methodLink RX5 181 yX0_vintagesHeld : Cond) ∈ zT := zT_mem (i := 466) (by decide +kernel) (by decide +kernel)
theorem k_440 : (Cond.instanceMethod yX0_vintagesHeld : Cond) ∈ zT := zT_mem (i := 467) (by decide +kernel) (by decide +kernel)
theorem k_441 : (Cond.selects RX0 yX0_vintagesHeld yX0_vintagesHeld : Cond) ∈ zT := zT_mem (i := 468) (by decide +kernel) (by decide +kernel)
theorem k_442 : (Cond.code yX0_vintagesHeld cX0_vintagesHeld 6 (some .int) : Cond) ∈ zT := zT_mem (i := 469) (by decide +kernel) (by decide +kernel)
theorem k_443 : (Cond.methodLink RX5 184 yX0_oldestHeld : Cond) ∈ zT := zT_mem (i := 470) (by decide +kernel) (by decide +kernel)
theorem k_444 : (Cond.instanceMethod yX0_oldestHeld : Cond) ∈ zT := zT_mem (i := 471) (by decide +kernel) (by decide +kernel)
theorem k_445 : (Cond.selects RX0 yX0_oldestHeld yX0_oldestHeld : Cond) ∈ zT := zT_mem (i := 472) (by decide +kernel) (by decide +kernel)
theorem k_446 : (Cond.code yX0_oldestHeld cX0_oldestHeld 2 (some .int) : Cond) ∈ zT := zT_mem (i := 473) (by decide +kernel) (by decide +kernel)
theorem k_447 : (Cond.methodLink RX5 187 yX0_newestHeld : Cond) ∈ zT := zT_mem (i := 474) (by decide +kernel) (by decide +kernel)
theorem k_448 : (Cond.instanceMethod yX0_newestHeld : Cond) ∈ zT := zT_mem (i := 475) (by decide +kernel) (by decide +kernel)
theorem k_449 : (Cond.selects RX0 yX0_newestHeld yX0_newestHeld : Cond) ∈ zT := zT_mem (i := 476) (by decide +kernel) (by decide +kernel)
theorem k_450 : (Cond.code yX0_newestHeld cX0_newestHeld 2 (some .int) : Cond) ∈ zT := zT_mem (i := 477) (by decide +kernel) (by decide +kernel)
theorem k_451 : (Cond.methodLink RX5 196 yX0_dueAtBest : Cond) ∈ zT := zT_mem (i := 478) (by decide +kernel) (by decide +kernel)
theorem k_452 : (Cond.instanceMethod yX0_dueAtBest : Cond) ∈ zT := zT_mem (i := 479) (by decide +kernel) (by decide +kernel)
theorem k_453 : (Cond.selects RX0 yX0_dueAtBest yX0_dueAtBest : Cond) ∈ zT := zT_mem (i := 480) (by decide +kernel) (by decide +kernel)
theorem k_454 : (Cond.code yX0_dueAtBest cX0_dueAtBest 4 (some .int) : Cond) ∈ zT := zT_mem (i := 481) (by decide +kernel) (by decide +kernel)
theorem k_455 : (Cond.methodLink RX0 37 yX0_allowances : Cond) ∈ zT := zT_mem (i := 482) (by decide +kernel) (by decide +kernel)
theorem k_456 : (Cond.methodLink RX0 41 yX0_canUse : Cond) ∈ zT := zT_mem (i := 483) (by decide +kernel) (by decide +kernel)
theorem k_457 : (Cond.methodLink RL 91 yX5_holds : Cond) ∈ zT := zT_mem (i := 484) (by decide +kernel) (by decide +kernel)
theorem k_458 : (Cond.instanceMethod yX5_holds : Cond) ∈ zT := zT_mem (i := 485) (by decide +kernel) (by decide +kernel)
theorem k_459 : (Cond.selects RX5 yX5_holds yX5_holds : Cond) ∈ zT := zT_mem (i := 486) (by decide +kernel) (by decide +kernel)
theorem k_460 : (Cond.code yX5_holds cX5_holds 4 (some .int) : Cond) ∈ zT := zT_mem (i := 487) (by decide +kernel) (by decide +kernel)
theorem k_461 : (Cond.methodLink RL 95 yX5_offsets : Cond) ∈ zT := zT_mem (i := 488) (by decide +kernel) (by decide +kernel)
theorem k_462 : (Cond.instanceMethod yX5_offsets : Cond) ∈ zT := zT_mem (i := 489) (by decide +kernel) (by decide +kernel)
theorem k_463 : (Cond.selects RX5 yX5_offsets yX5_offsets : Cond) ∈ zT := zT_mem (i := 490) (by decide +kernel) (by decide +kernel)
theorem k_464 : (Cond.code yX5_offsets cX5_offsets 5 (some .int) : Cond) ∈ zT := zT_mem (i := 491) (by decide +kernel) (by decide +kernel)
theorem k_465 : (Cond.methodLink RX5 200 yX0_mayUse : Cond) ∈ zT := zT_mem (i := 492) (by decide +kernel) (by decide +kernel)
theorem k_466 : (Cond.methodLink RL 99 yX5_vintage : Cond) ∈ zT := zT_mem (i := 493) (by decide +kernel) (by decide +kernel)
theorem k_467 : (Cond.instanceMethod yX5_vintage : Cond) ∈ zT := zT_mem (i := 494) (by decide +kernel) (by decide +kernel)
theorem k_468 : (Cond.selects RX5 yX5_vintage yX5_vintage : Cond) ∈ zT := zT_mem (i := 495) (by decide +kernel) (by decide +kernel)
theorem k_469 : (Cond.code yX5_vintage cX5_vintage 3 (some .int) : Cond) ∈ zT := zT_mem (i := 496) (by decide +kernel) (by decide +kernel)
theorem k_470 : (Cond.methodLink RX5 207 yX2_heldOf : Cond) ∈ zT := zT_mem (i := 497) (by decide +kernel) (by decide +kernel)
theorem k_471 : (Cond.instanceMethod yX2_heldOf : Cond) ∈ zT := zT_mem (i := 498) (by decide +kernel) (by decide +kernel)
theorem k_472 : (Cond.selects RX2 yX2_heldOf yX2_heldOf : Cond) ∈ zT := zT_mem (i := 499) (by decide +kernel) (by decide +kernel)
theorem k_473 : (Cond.code yX2_heldOf cX2_heldOf 7 (some .int) : Cond) ∈ zT := zT_mem (i := 500) (by decide +kernel) (by decide +kernel)
theorem k_474 : (Cond.methodLink RX5 216 yX2_holdersOf : Cond) ∈ zT := zT_mem (i := 501) (by decide +kernel) (by decide +kernel)
theorem k_475 : (Cond.instanceMethod yX2_holdersOf : Cond) ∈ zT := zT_mem (i := 502) (by decide +kernel) (by decide +kernel)
theorem k_476 : (Cond.selects RX2 yX2_holdersOf yX2_holdersOf : Cond) ∈ zT := zT_mem (i := 503) (by decide +kernel) (by decide +kernel)
theorem k_477 : (Cond.code yX2_holdersOf cX2_holdersOf 7 (some .int) : Cond) ∈ zT := zT_mem (i := 504) (by decide +kernel) (by decide +kernel)
theorem k_478 : (Cond.methodLink RX5 219 yX2_monthsUntilLost : Cond) ∈ zT := zT_mem (i := 505) (by decide +kernel) (by decide +kernel)
theorem k_479 : (Cond.instanceMethod yX2_monthsUntilLost : Cond) ∈ zT := zT_mem (i := 506) (by decide +kernel) (by decide +kernel)
theorem k_480 : (Cond.selects RX2 yX2_monthsUntilLost yX2_monthsUntilLost : Cond) ∈ zT := zT_mem (i := 507) (by decide +kernel) (by decide +kernel)
theorem k_481 : (Cond.code yX2_monthsUntilLost cX2_monthsUntilLost 3 (some .int) : Cond) ∈ zT := zT_mem (i := 508) (by decide +kernel) (by decide +kernel)
theorem k_482 : (Cond.methodLink RX2 106 yX2_holdersOf : Cond) ∈ zT := zT_mem (i := 509) (by decide +kernel) (by decide +kernel)
theorem k_483 : (Cond.methodLink RX2 110 Lib.Math.max.name : Cond) ∈ zT := zT_mem (i := 510) (by decide +kernel) (by decide +kernel)
theorem k_484 : (Cond.methodLink RL 103 yX5_grade : Cond) ∈ zT := zT_mem (i := 511) (by decide +kernel) (by decide +kernel)
theorem k_485 : (Cond.instanceMethod yX5_grade : Cond) ∈ zT := zT_mem (i := 512) (by decide +kernel) (by decide +kernel)
theorem k_486 : (Cond.selects RX5 yX5_grade yX5_grade : Cond) ∈ zT := zT_mem (i := 513) (by decide +kernel) (by decide +kernel)
theorem k_487 : (Cond.code yX5_grade cX5_grade 3 (some .int) : Cond) ∈ zT := zT_mem (i := 514) (by decide +kernel) (by decide +kernel)
theorem k_488 : (Cond.methodLink RX5 222 yX2_offsetsHeldOf : Cond) ∈ zT := zT_mem (i := 515) (by decide +kernel) (by decide +kernel)
theorem k_489 : (Cond.instanceMethod yX2_offsetsHeldOf : Cond) ∈ zT := zT_mem (i := 516) (by decide +kernel) (by decide +kernel)
theorem k_490 : (Cond.selects RX2 yX2_offsetsHeldOf yX2_offsetsHeldOf : Cond) ∈ zT := zT_mem (i := 517) (by decide +kernel) (by decide +kernel)
theorem k_491 : (Cond.code yX2_offsetsHeldOf cX2_offsetsHeldOf 7 (some .int) : Cond) ∈ zT := zT_mem (i := 518) (by decide +kernel) (by decide +kernel)
theorem k_492 : (Cond.methodLink RL 107 yX5_holder : Cond) ∈ zT := zT_mem (i := 519) (by decide +kernel) (by decide +kernel)
theorem k_493 : (Cond.instanceMethod yX5_holder : Cond) ∈ zT := zT_mem (i := 520) (by decide +kernel) (by decide +kernel)
theorem k_494 : (Cond.selects RX5 yX5_holder yX5_holder : Cond) ∈ zT := zT_mem (i := 521) (by decide +kernel) (by decide +kernel)
theorem k_495 : (Cond.code yX5_holder cX5_holder 3 (some .int) : Cond) ∈ zT := zT_mem (i := 522) (by decide +kernel) (by decide +kernel)
theorem k_496 : (Cond.methodLink RX5 228 yX2_holderAt : Cond) ∈ zT := zT_mem (i := 523) (by decide +kernel) (by decide +kernel)
theorem k_497 : (Cond.instanceMethod yX2_holderAt : Cond) ∈ zT := zT_mem (i := 524) (by decide +kernel) (by decide +kernel)
theorem k_498 : (Cond.selects RX2 yX2_holderAt yX2_holderAt : Cond) ∈ zT := zT_mem (i := 525) (by decide +kernel) (by decide +kernel)
theorem k_499 : (Cond.code yX2_holderAt cX2_holderAt 4 (some .int) : Cond) ∈ zT := zT_mem (i := 526) (by decide +kernel) (by decide +kernel)
theorem k_500 : (Cond.methodLink RX2 116 yX2_holdersAhead : Cond) ∈ zT := zT_mem (i := 527) (by decide +kernel) (by decide +kernel)
theorem k_501 : (Cond.instanceMethod yX2_holdersAhead : Cond) ∈ zT := zT_mem (i := 528) (by decide +kernel) (by decide +kernel)
theorem k_502 : (Cond.selects RX2 yX2_holdersAhead yX2_holdersAhead : Cond) ∈ zT := zT_mem (i := 529) (by decide +kernel) (by decide +kernel)
theorem k_503 : (Cond.code yX2_holdersAhead cX2_holdersAhead 7 (some .int) : Cond) ∈ zT := zT_mem (i := 530) (by decide +kernel) (by decide +kernel)
theorem k_504 : (Cond.methodLink RL 111 yX5_plan : Cond) ∈ zT := zT_mem (i := 531) (by decide +kernel) (by decide +kernel)
theorem k_505 : (Cond.instanceMethod yX5_plan : Cond) ∈ zT := zT_mem (i := 532) (by decide +kernel) (by decide +kernel)
theorem k_506 : (Cond.selects RX5 yX5_plan yX5_plan : Cond) ∈ zT := zT_mem (i := 533) (by decide +kernel) (by decide +kernel)
theorem k_507 : (Cond.code yX5_plan cX5_plan 6 (some .int) : Cond) ∈ zT := zT_mem (i := 534) (by decide +kernel) (by decide +kernel)
theorem k_508 : (Cond.methodLink RL 115 yX5_count : Cond) ∈ zT := zT_mem (i := 535) (by decide +kernel) (by decide +kernel)
theorem k_509 : (Cond.instanceMethod yX5_count : Cond) ∈ zT := zT_mem (i := 536) (by decide +kernel) (by decide +kernel)
theorem k_510 : (Cond.selects RX5 yX5_count yX5_count : Cond) ∈ zT := zT_mem (i := 537) (by decide +kernel) (by decide +kernel)
theorem k_511 : (Cond.code yX5_count cX5_count 2 (some .int) : Cond) ∈ zT := zT_mem (i := 538) (by decide +kernel) (by decide +kernel)
theorem k_512 : (Cond.methodLink RX5 243 yX2_allDue : Cond) ∈ zT := zT_mem (i := 539) (by decide +kernel) (by decide +kernel)
theorem k_513 : (Cond.instanceMethod yX2_allDue : Cond) ∈ zT := zT_mem (i := 540) (by decide +kernel) (by decide +kernel)
theorem k_514 : (Cond.selects RX2 yX2_allDue yX2_allDue : Cond) ∈ zT := zT_mem (i := 541) (by decide +kernel) (by decide +kernel)
theorem k_515 : (Cond.code yX2_allDue cX2_allDue 6 (some .int) : Cond) ∈ zT := zT_mem (i := 542) (by decide +kernel) (by decide +kernel)
theorem k_516 : (Cond.methodLink RX5 246 yX2_allFines : Cond) ∈ zT := zT_mem (i := 543) (by decide +kernel) (by decide +kernel)
theorem k_517 : (Cond.instanceMethod yX2_allFines : Cond) ∈ zT := zT_mem (i := 544) (by decide +kernel) (by decide +kernel)
theorem k_518 : (Cond.selects RX2 yX2_allFines yX2_allFines : Cond) ∈ zT := zT_mem (i := 545) (by decide +kernel) (by decide +kernel)
theorem k_519 : (Cond.code yX2_allFines cX2_allFines 6 (some .int) : Cond) ∈ zT := zT_mem (i := 546) (by decide +kernel) (by decide +kernel)
theorem k_520 : (Cond.methodLink RX5 249 yX2_allHeld : Cond) ∈ zT := zT_mem (i := 547) (by decide +kernel) (by decide +kernel)
theorem k_521 : (Cond.instanceMethod yX2_allHeld : Cond) ∈ zT := zT_mem (i := 548) (by decide +kernel) (by decide +kernel)
theorem k_522 : (Cond.selects RX2 yX2_allHeld yX2_allHeld : Cond) ∈ zT := zT_mem (i := 549) (by decide +kernel) (by decide +kernel)
theorem k_523 : (Cond.code yX2_allHeld cX2_allHeld 6 (some .int) : Cond) ∈ zT := zT_mem (i := 550) (by decide +kernel) (by decide +kernel)
theorem k_524 : (Cond.methodLink RX2 119 yX0_allowances : Cond) ∈ zT := zT_mem (i := 551) (by decide +kernel) (by decide +kernel)
theorem k_525 : (Cond.methodLink RX5 252 yX2_allLost : Cond) ∈ zT := zT_mem (i := 552) (by decide +kernel) (by decide +kernel)
theorem k_526 : (Cond.instanceMethod yX2_allLost : Cond) ∈ zT := zT_mem (i := 553) (by decide +kernel) (by decide +kernel)
theorem k_527 : (Cond.selects RX2 yX2_allLost yX2_allLost : Cond) ∈ zT := zT_mem (i := 554) (by decide +kernel) (by decide +kernel)
theorem k_528 : (Cond.code yX2_allLost cX2_allLost 6 (some .int) : Cond) ∈ zT := zT_mem (i := 555) (by decide +kernel) (by decide +kernel)
theorem k_529 : (Cond.methodLink RX5 255 yX2_monthsUntilDeadline : Cond) ∈ zT := zT_mem (i := 556) (by decide +kernel) (by decide +kernel)
theorem k_530 : (Cond.instanceMethod yX2_monthsUntilDeadline : Cond) ∈ zT := zT_mem (i := 557) (by decide +kernel) (by decide +kernel)
theorem k_531 : (Cond.selects RX2 yX2_monthsUntilDeadline yX2_monthsUntilDeadline : Cond) ∈ zT := zT_mem (i := 558) (by decide +kernel) (by decide +kernel)
theorem k_532 : (Cond.code yX2_monthsUntilDeadline cX2_monthsUntilDeadline 3 (some .int) : Cond) ∈ zT := zT_mem (i := 559) (by decide +kernel) (by decide +kernel)
theorem k_533 : (Cond.classLink RL 10 RX6 : Cond) ∈ zT := zT_mem (i := 560) (by decide +kernel) (by decide +kernel)
theorem k_534 : (Cond.instantiable RX6 11 : Cond) ∈ zT := zT_mem (i := 561) (by decide +kernel) (by decide +kernel)
theorem k_535 : (Cond.methodLink RL 12 yX6_init : Cond) ∈ zT := zT_mem (i := 562) (by decide +kernel) (by decide +kernel)
theorem k_536 : (Cond.instanceMethod yX6_init : Cond) ∈ zT := zT_mem (i := 563) (by decide +kernel) (by decide +kernel)
theorem k_537 : (Cond.code yX6_init cX6_init 1 (none : Option ClassFile.FieldType) : Cond) ∈ zT := zT_mem (i := 564) (by decide +kernel) (by decide +kernel)
theorem k_538 : (Cond.methodLink RX6 1 objectInit : Cond) ∈ zT := zT_mem (i := 565) (by decide +kernel) (by decide +kernel)
theorem k_539 : (Cond.fieldLink RX6 7 "AllowanceBookModel" "row" "[I" : Cond) ∈ zT := zT_mem (i := 566) (by decide +kernel) (by decide +kernel)
theorem k_540 : (Cond.fieldLink RX6 29 "AllowanceBookModel" "states" "I" : Cond) ∈ zT := zT_mem (i := 567) (by decide +kernel) (by decide +kernel)
theorem k_541 : (Cond.fieldLink RX6 37 "AllowanceBookModel" "isKept" "Z" : Cond) ∈ zT := zT_mem (i := 568) (by decide +kernel) (by decide +kernel)
theorem k_542 : (Cond.fieldLink RX6 13 "AllowanceBookModel" "text" "[I" : Cond) ∈ zT := zT_mem (i := 569) (by decide +kernel) (by decide +kernel)
theorem k_543 : (Cond.fieldLink RX6 99 "AllowanceBookModel" "length" "I" : Cond) ∈ zT := zT_mem (i := 570) (by decide +kernel) (by decide +kernel)
theorem k_544 : (Cond.fieldLink RX6 16 "AllowanceBookModel" "taken" "[I" : Cond) ∈ zT := zT_mem (i := 571) (by decide +kernel) (by decide +kernel)
theorem k_545 : (Cond.fieldLink RX6 19 "AllowanceBookModel" "offset" "[I" : Cond) ∈ zT := zT_mem (i := 572) (by decide +kernel) (by decide +kernel)
theorem k_546 : (Cond.fieldLink RX6 74 "AllowanceBookModel" "needed" "I" : Cond) ∈ zT := zT_mem (i := 573) (by decide +kernel) (by decide +kernel)
theorem k_547 : (Cond.fieldLink RX6 80 "AllowanceBookModel" "firstVintage" "I" : Cond) ∈ zT := zT_mem (i := 574) (by decide +kernel) (by decide +kernel)
theorem k_548 : (Cond.fieldLink RX6 102 "AllowanceBookModel" "pos" "I" : Cond) ∈ zT := zT_mem (i := 575) (by decide +kernel) (by decide +kernel)
theorem k_549 : (Cond.fieldLink RX6 22 "AllowanceBookModel" "numbers" "[I" : Cond) ∈ zT := zT_mem (i := 576) (by decide +kernel) (by decide +kernel)
theorem k_550 : (Cond.laysFinal RX6 "AllowanceBookModel" "row" "[I" : Cond) ∈ zT := zT_mem (i := 577) (by decide +kernel) (by decide +kernel)
theorem k_552 : (Cond.lays RX6 "AllowanceBookModel" "states" "I" : Cond) ∈ zT := zT_mem (i := 579) (by decide +kernel) (by decide +kernel)
theorem k_554 : (Cond.lays RX6 "AllowanceBookModel" "isKept" "Z" : Cond) ∈ zT := zT_mem (i := 581) (by decide +kernel) (by decide +kernel)
theorem k_556 : (Cond.laysFinal RX6 "AllowanceBookModel" "text" "[I" : Cond) ∈ zT := zT_mem (i := 583) (by decide +kernel) (by decide +kernel)
theorem k_558 : (Cond.lays RX6 "AllowanceBookModel" "length" "I" : Cond) ∈ zT := zT_mem (i := 585) (by decide +kernel) (by decide +kernel)
theorem k_560 : (Cond.laysFinal RX6 "AllowanceBookModel" "taken" "[I" : Cond) ∈ zT := zT_mem (i := 587) (by decide +kernel) (by decide +kernel)
theorem k_562 : (Cond.laysFinal RX6 "AllowanceBookModel" "offset" "[I" : Cond) ∈ zT := zT_mem (i := 589) (by decide +kernel) (by decide +kernel)
theorem k_564 : (Cond.lays RX6 "AllowanceBookModel" "needed" "I" : Cond) ∈ zT := zT_mem (i := 591) (by decide +kernel) (by decide +kernel)
theorem k_566 : (Cond.lays RX6 "AllowanceBookModel" "firstVintage" "I" : Cond) ∈ zT := zT_mem (i := 593) (by decide +kernel) (by decide +kernel)
theorem k_568 : (Cond.lays RX6 "AllowanceBookModel" "pos" "I" : Cond) ∈ zT := zT_mem (i := 595) (by decide +kernel) (by decide +kernel)
theorem k_570 : (Cond.laysFinal RX6 "AllowanceBookModel" "numbers" "[I" : Cond) ∈ zT := zT_mem (i := 597) (by decide +kernel) (by decide +kernel)
theorem k_573 : (Cond.methodLink RL 78 yX6_undo : Cond) ∈ zT := zT_mem (i := 600) (by decide +kernel) (by decide +kernel)
theorem k_574 : (Cond.instanceMethod yX6_undo : Cond) ∈ zT := zT_mem (i := 601) (by decide +kernel) (by decide +kernel)
theorem k_575 : (Cond.selects RX6 yX6_undo yX6_undo : Cond) ∈ zT := zT_mem (i := 602) (by decide +kernel) (by decide +kernel)
theorem k_576 : (Cond.code yX6_undo cX6_undo 1 (some .int) : Cond) ∈ zT := zT_mem (i := 603) (by decide +kernel) (by decide +kernel)
theorem k_577 : (Cond.methodLink RX6 33 yX6_copy : Cond) ∈ zT := zT_mem (i := 604) (by decide +kernel) (by decide +kernel)
theorem k_579 : (Cond.instanceMethod yX6_copy : Cond) ∈ zT := zT_mem (i := 606) (by decide +kernel) (by decide +kernel)
theorem k_580 : (Cond.code yX6_copy cX6_copy 4 (none : Option ClassFile.FieldType) : Cond) ∈ zT := zT_mem (i := 607) (by decide +kernel) (by decide +kernel)
theorem k_581 : (Cond.methodLink RL 82 yX6_keep : Cond) ∈ zT := zT_mem (i := 608) (by decide +kernel) (by decide +kernel)
theorem k_582 : (Cond.instanceMethod yX6_keep : Cond) ∈ zT := zT_mem (i := 609) (by decide +kernel) (by decide +kernel)
theorem k_583 : (Cond.selects RX6 yX6_keep yX6_keep : Cond) ∈ zT := zT_mem (i := 610) (by decide +kernel) (by decide +kernel)
theorem k_584 : (Cond.code yX6_keep cX6_keep 1 (some .int) : Cond) ∈ zT := zT_mem (i := 611) (by decide +kernel) (by decide +kernel)
theorem k_585 : (Cond.methodLink RL 86 yX6_restore : Cond) ∈ zT := zT_mem (i := 612) (by decide +kernel) (by decide +kernel)
theorem k_586 : (Cond.instanceMethod yX6_restore : Cond) ∈ zT := zT_mem (i := 613) (by decide +kernel) (by decide +kernel)
theorem k_587 : (Cond.selects RX6 yX6_restore yX6_restore : Cond) ∈ zT := zT_mem (i := 614) (by decide +kernel) (by decide +kernel)
theorem k_588 : (Cond.code yX6_restore cX6_restore 1 (some .int) : Cond) ∈ zT := zT_mem (i := 615) (by decide +kernel) (by decide +kernel)
theorem k_589 : (Cond.methodLink RX6 41 yX6_record : Cond) ∈ zT := zT_mem (i := 616) (by decide +kernel) (by decide +kernel)
theorem k_591 : (Cond.instanceMethod yX6_record : Cond) ∈ zT := zT_mem (i := 618) (by decide +kernel) (by decide +kernel)
theorem k_592 : (Cond.code yX6_record cX6_record 3 (none : Option ClassFile.FieldType) : Cond) ∈ zT := zT_mem (i := 619) (by decide +kernel) (by decide +kernel)
theorem k_593 : (Cond.methodLink RL 17 yX6_addFirm : Cond) ∈ zT := zT_mem (i := 620) (by decide +kernel) (by decide +kernel)
theorem k_594 : (Cond.instanceMethod yX6_addFirm : Cond) ∈ zT := zT_mem (i := 621) (by decide +kernel) (by decide +kernel)
theorem k_595 : (Cond.selects RX6 yX6_addFirm yX6_addFirm : Cond) ∈ zT := zT_mem (i := 622) (by decide +kernel) (by decide +kernel)
theorem k_596 : (Cond.code yX6_addFirm cX6_addFirm 3 (some .int) : Cond) ∈ zT := zT_mem (i := 623) (by decide +kernel) (by decide +kernel)
theorem k_597 : (Cond.methodLink RX6 45 yX6_of : Cond) ∈ zT := zT_mem (i := 624) (by decide +kernel) (by decide +kernel)
theorem k_598 : (Cond.static yX6_of : Cond) ∈ zT := zT_mem (i := 625) (by decide +kernel) (by decide +kernel)
theorem k_599 : (Cond.code yX6_of cX6_of 2 (some .int) : Cond) ∈ zT := zT_mem (i := 626) (by decide +kernel) (by decide +kernel)
theorem k_600 : (Cond.methodLink RL 22 yX6_set : Cond) ∈ zT := zT_mem (i := 627) (by decide +kernel) (by decide +kernel)
theorem k_601 : (Cond.instanceMethod yX6_set : Cond) ∈ zT := zT_mem (i := 628) (by decide +kernel) (by decide +kernel)
theorem k_602 : (Cond.selects RX6 yX6_set yX6_set : Cond) ∈ zT := zT_mem (i := 629) (by decide +kernel) (by decide +kernel)
theorem k_603 : (Cond.code yX6_set cX6_set 6 (some .int) : Cond) ∈ zT := zT_mem (i := 630) (by decide +kernel) (by decide +kernel)
theorem k_604 : (Cond.methodLink RX6 25 yX6_in : Cond) ∈ zT := zT_mem (i := 631) (by decide +kernel) (by decide +kernel)
theorem k_605 : (Cond.static yX6_in : Cond) ∈ zT := zT_mem (i := 632) (by decide +kernel) (by decide +kernel)
theorem k_606 : (Cond.code yX6_in cX6_in 3 (some .boolean) : Cond) ∈ zT := zT_mem (i := 633) (by decide +kernel) (by decide +kernel)
theorem k_607 : (Cond.methodLink RL 26 yX6_issue : Cond) ∈ zT := zT_mem (i := 634) (by decide +kernel) (by decide +kernel)
theorem k_608 : (Cond.instanceMethod yX6_issue : Cond) ∈ zT := zT_mem (i := 635) (by decide +kernel) (by decide +kernel)
theorem k_609 : (Cond.selects RX6 yX6_issue yX6_issue : Cond) ∈ zT := zT_mem (i := 636) (by decide +kernel) (by decide +kernel)
theorem k_610 : (Cond.code yX6_issue cX6_issue 3 (some .int) : Cond) ∈ zT := zT_mem (i := 637) (by decide +kernel) (by decide +kernel)
theorem k_611 : (Cond.methodLink RX6 49 yX6_isFirm : Cond) ∈ zT := zT_mem (i := 638) (by decide +kernel) (by decide +kernel)
theorem k_613 : (Cond.instanceMethod yX6_isFirm : Cond) ∈ zT := zT_mem (i := 640) (by decide +kernel) (by decide +kernel)
theorem k_614 : (Cond.code yX6_isFirm cX6_isFirm 2 (some .boolean) : Cond) ∈ zT := zT_mem (i := 641) (by decide +kernel) (by decide +kernel)
theorem k_615 : (Cond.methodLink RX6 53 yX6_isTonnes : Cond) ∈ zT := zT_mem (i := 642) (by decide +kernel) (by decide +kernel)
theorem k_616 : (Cond.static yX6_isTonnes : Cond) ∈ zT := zT_mem (i := 643) (by decide +kernel) (by decide +kernel)
theorem k_617 : (Cond.code yX6_isTonnes cX6_isTonnes 1 (some .boolean) : Cond) ∈ zT := zT_mem (i := 644) (by decide +kernel) (by decide +kernel)
theorem k_618 : (Cond.methodLink RX6 56 yX6_year : Cond) ∈ zT := zT_mem (i := 645) (by decide +kernel) (by decide +kernel)
theorem k_620 : (Cond.instanceMethod yX6_year : Cond) ∈ zT := zT_mem (i := 647) (by decide +kernel) (by decide +kernel)
theorem k_621 : (Cond.code yX6_year cX6_year 1 (some .int) : Cond) ∈ zT := zT_mem (i := 648) (by decide +kernel) (by decide +kernel)
theorem k_622 : (Cond.methodLink RL 31 yX6_issueOffsets : Cond) ∈ zT := zT_mem (i := 649) (by decide +kernel) (by decide +kernel)
theorem k_623 : (Cond.instanceMethod yX6_issueOffsets : Cond) ∈ zT := zT_mem (i := 650) (by decide +kernel) (by decide +kernel)
theorem k_624 : (Cond.selects RX6 yX6_issueOffsets yX6_issueOffsets : Cond) ∈ zT := zT_mem (i := 651) (by decide +kernel) (by decide +kernel)
theorem k_625 : (Cond.code yX6_issueOffsets cX6_issueOffsets 4 (some .int) : Cond) ∈ zT := zT_mem (i := 652) (by decide +kernel) (by decide +kernel)
theorem k_626 : (Cond.methodLink RX6 60 yX6_isGrade : Cond) ∈ zT := zT_mem (i := 653) (by decide +kernel) (by decide +kernel)
theorem k_627 : (Cond.static yX6_isGrade : Cond) ∈ zT := zT_mem (i := 654) (by decide +kernel) (by decide +kernel)
theorem k_628 : (Cond.code yX6_isGrade cX6_isGrade 1 (some .boolean) : Cond) ∈ zT := zT_mem (i := 655) (by decide +kernel) (by decide +kernel)
theorem k_629 : (Cond.methodLink RL 36 yX6_transfer : Cond) ∈ zT := zT_mem (i := 656) (by decide +kernel) (by decide +kernel)
theorem k_630 : (Cond.instanceMethod yX6_transfer : Cond) ∈ zT := zT_mem (i := 657) (by decide +kernel) (by decide +kernel)
theorem k_631 : (Cond.selects RX6 yX6_transfer yX6_transfer : Cond) ∈ zT := zT_mem (i := 658) (by decide +kernel) (by decide +kernel)
theorem k_632 : (Cond.code yX6_transfer cX6_transfer 7 (some .int) : Cond) ∈ zT := zT_mem (i := 659) (by decide +kernel) (by decide +kernel)
theorem k_633 : (Cond.methodLink RX6 63 yX6_isVintage : Cond) ∈ zT := zT_mem (i := 660) (by decide +kernel) (by decide +kernel)
theorem k_634 : (Cond.static yX6_isVintage : Cond) ∈ zT := zT_mem (i := 661) (by decide +kernel) (by decide +kernel)
theorem k_635 : (Cond.code yX6_isVintage cX6_isVintage 1 (some .boolean) : Cond) ∈ zT := zT_mem (i := 662) (by decide +kernel) (by decide +kernel)
theorem k_636 : (Cond.methodLink RX6 66 yX6_noTransfer : Cond) ∈ zT := zT_mem (i := 663) (by decide +kernel) (by decide +kernel)
theorem k_638 : (Cond.instanceMethod yX6_noTransfer : Cond) ∈ zT := zT_mem (i := 665) (by decide +kernel) (by decide +kernel)
theorem k_639 : (Cond.code yX6_noTransfer cX6_noTransfer 6 (some .int) : Cond) ∈ zT := zT_mem (i := 666) (by decide +kernel) (by decide +kernel)
theorem k_640 : (Cond.methodLink RX6 70 yX6_doTransfer : Cond) ∈ zT := zT_mem (i := 667) (by decide +kernel) (by decide +kernel)
theorem k_642 : (Cond.instanceMethod yX6_doTransfer : Cond) ∈ zT := zT_mem (i := 669) (by decide +kernel) (by decide +kernel)
theorem k_643 : (Cond.code yX6_doTransfer cX6_doTransfer 5 (some .int) : Cond) ∈ zT := zT_mem (i := 670) (by decide +kernel) (by decide +kernel)
theorem k_644 : (Cond.methodLink RL 40 yX6_transferOffsets : Cond) ∈ zT := zT_mem (i := 671) (by decide +kernel) (by decide +kernel)
theorem k_645 : (Cond.instanceMethod yX6_transferOffsets : Cond) ∈ zT := zT_mem (i := 672) (by decide +kernel) (by decide +kernel)
theorem k_646 : (Cond.selects RX6 yX6_transferOffsets yX6_transferOffsets : Cond) ∈ zT := zT_mem (i := 673) (by decide +kernel) (by decide +kernel)
theorem k_647 : (Cond.code yX6_transferOffsets cX6_transferOffsets 7 (some .int) : Cond) ∈ zT := zT_mem (i := 674) (by decide +kernel) (by decide +kernel)
theorem k_648 : (Cond.methodLink RL 44 yX6_cancel : Cond) ∈ zT := zT_mem (i := 675) (by decide +kernel) (by decide +kernel)
theorem k_649 : (Cond.instanceMethod yX6_cancel : Cond) ∈ zT := zT_mem (i := 676) (by decide +kernel) (by decide +kernel)
theorem k_650 : (Cond.selects RX6 yX6_cancel yX6_cancel : Cond) ∈ zT := zT_mem (i := 677) (by decide +kernel) (by decide +kernel)
theorem k_651 : (Cond.code yX6_cancel cX6_cancel 4 (some .int) : Cond) ∈ zT := zT_mem (i := 678) (by decide +kernel) (by decide +kernel)
theorem k_652 : (Cond.methodLink RL 48 yX6_report : Cond) ∈ zT := zT_mem (i := 679) (by decide +kernel) (by decide +kernel)
theorem k_653 : (Cond.instanceMethod yX6_report : Cond) ∈ zT := zT_mem (i := 680) (by decide +kernel) (by decide +kernel)
theorem k_654 : (Cond.selects RX6 yX6_report yX6_report : Cond) ∈ zT := zT_mem (i := 681) (by decide +kernel) (by decide +kernel)
theorem k_655 : (Cond.code yX6_report cX6_report 3 (some .int) : Cond) ∈ zT := zT_mem (i := 682) (by decide +kernel) (by decide +kernel)
theorem k_656 : (Cond.methodLink RL 53 yX6_verify : Cond) ∈ zT := zT_mem (i := 683) (by decide +kernel) (by decide +kernel)
theorem k_657 : (Cond.instanceMethod yX6_verify : Cond) ∈ zT := zT_mem (i := 684) (by decide +kernel) (by decide +kernel)
theorem k_658 : (Cond.selects RX6 yX6_verify yX6_verify : Cond) ∈ zT := zT_mem (i := 685) (by decide +kernel) (by decide +kernel)
theorem k_659 : (Cond.code yX6_verify cX6_verify 2 (some .int) : Cond) ∈ zT := zT_mem (i := 686) (by decide +kernel) (by decide +kernel)
theorem k_660 : (Cond.methodLink RL 57 yX6_surrender : Cond) ∈ zT := zT_mem (i := 687) (by decide +kernel) (by decide +kernel)
theorem k_661 : (Cond.instanceMethod yX6_surrender : Cond) ∈ zT := zT_mem (i := 688) (by decide +kernel) (by decide +kernel)
theorem k_662 : (Cond.selects RX6 yX6_surrender yX6_surrender : Cond) ∈ zT := zT_mem (i := 689) (by decide +kernel) (by decide +kernel)
theorem k_663 : (Cond.code yX6_surrender cX6_surrender 5 (some .int) : Cond) ∈ zT := zT_mem (i := 690) (by decide +kernel) (by decide +kernel)
theorem k_664 : (Cond.methodLink RX6 89 yX6_lay : Cond) ∈ zT := zT_mem (i := 691) (by decide +kernel) (by decide +kernel)
theorem k_666 : (Cond.instanceMethod yX6_lay : Cond) ∈ zT := zT_mem (i := 693) (by decide +kernel) (by decide +kernel)
theorem k_667 : (Cond.code yX6_lay cX6_lay 5 (none : Option ClassFile.FieldType) : Cond) ∈ zT := zT_mem (i := 694) (by decide +kernel) (by decide +kernel)
theorem k_668 : (Cond.methodLink RX6 83 yX6_mayUse : Cond) ∈ zT := zT_mem (i := 695) (by decide +kernel) (by decide +kernel)
theorem k_670 : (Cond.instanceMethod yX6_mayUse : Cond) ∈ zT := zT_mem (i := 697) (by decide +kernel) (by decide +kernel)
theorem k_671 : (Cond.code yX6_mayUse cX6_mayUse 4 (some .int) : Cond) ∈ zT := zT_mem (i := 698) (by decide +kernel) (by decide +kernel)
theorem k_672 : (Cond.methodLink RX6 77 yX6_lesser : Cond) ∈ zT := zT_mem (i := 699) (by decide +kernel) (by decide +kernel)
theorem k_673 : (Cond.static yX6_lesser : Cond) ∈ zT := zT_mem (i := 700) (by decide +kernel) (by decide +kernel)
theorem k_674 : (Cond.code yX6_lesser cX6_lesser 2 (some .int) : Cond) ∈ zT := zT_mem (i := 701) (by decide +kernel) (by decide +kernel)
theorem k_675 : (Cond.methodLink RX6 86 yX6_takeVintage : Cond) ∈ zT := zT_mem (i := 702) (by decide +kernel) (by decide +kernel)
theorem k_677 : (Cond.instanceMethod yX6_takeVintage : Cond) ∈ zT := zT_mem (i := 704) (by decide +kernel) (by decide +kernel)
theorem k_678 : (Cond.code yX6_takeVintage cX6_takeVintage 3 (none : Option ClassFile.FieldType) : Cond) ∈ zT := zT_mem (i := 705) (by decide +kernel) (by decide +kernel)
theorem k_679 : (Cond.methodLink RL 61 yX6_pass : Cond) ∈ zT := zT_mem (i := 706) (by decide +kernel) (by decide +kernel)
theorem k_680 : (Cond.instanceMethod yX6_pass : Cond) ∈ zT := zT_mem (i := 707) (by decide +kernel) (by decide +kernel)
theorem k_681 : (Cond.selects RX6 yX6_pass yX6_pass : Cond) ∈ zT := zT_mem (i := 708) (by decide +kernel) (by decide +kernel)
theorem k_682 : (Cond.code yX6_pass cX6_pass 4 (some .int) : Cond) ∈ zT := zT_mem (i := 709) (by decide +kernel) (by decide +kernel)
theorem k_683 : (Cond.methodLink RX6 93 yX6_beginYear : Cond) ∈ zT := zT_mem (i := 710) (by decide +kernel) (by decide +kernel)
theorem k_685 : (Cond.instanceMethod yX6_beginYear : Cond) ∈ zT := zT_mem (i := 712) (by decide +kernel) (by decide +kernel)
theorem k_686 : (Cond.code yX6_beginYear cX6_beginYear 4 (none : Option ClassFile.FieldType) : Cond) ∈ zT := zT_mem (i := 713) (by decide +kernel) (by decide +kernel)
theorem k_687 : (Cond.methodLink RX6 96 yX6_fineAll : Cond) ∈ zT := zT_mem (i := 714) (by decide +kernel) (by decide +kernel)
theorem k_689 : (Cond.instanceMethod yX6_fineAll : Cond) ∈ zT := zT_mem (i := 716) (by decide +kernel) (by decide +kernel)
theorem k_690 : (Cond.code yX6_fineAll cX6_fineAll 4 (some .int) : Cond) ∈ zT := zT_mem (i := 717) (by decide +kernel) (by decide +kernel)
theorem k_691 : (Cond.methodLink RL 66 yX6_type : Cond) ∈ zT := zT_mem (i := 718) (by decide +kernel) (by decide +kernel)
theorem k_692 : (Cond.instanceMethod yX6_type : Cond) ∈ zT := zT_mem (i := 719) (by decide +kernel) (by decide +kernel)
theorem k_693 : (Cond.selects RX6 yX6_type yX6_type : Cond) ∈ zT := zT_mem (i := 720) (by decide +kernel) (by decide +kernel)
theorem k_694 : (Cond.code yX6_type cX6_type 2 (some .int) : Cond) ∈ zT := zT_mem (i := 721) (by decide +kernel) (by decide +kernel)
theorem k_695 : (Cond.methodLink RL 70 yX6_clearText : Cond) ∈ zT := zT_mem (i := 722) (by decide +kernel) (by decide +kernel)
theorem k_696 : (Cond.instanceMethod yX6_clearText : Cond) ∈ zT := zT_mem (i := 723) (by decide +kernel) (by decide +kernel)
theorem k_697 : (Cond.selects RX6 yX6_clearText yX6_clearText : Cond) ∈ zT := zT_mem (i := 724) (by decide +kernel) (by decide +kernel)
theorem k_698 : (Cond.code yX6_clearText cX6_clearText 2 (some .int) : Cond) ∈ zT := zT_mem (i := 725) (by decide +kernel) (by decide +kernel)
theorem k_699 : (Cond.methodLink RL 74 yX6_readTransfers : Cond) ∈ zT := zT_mem (i := 726) (by decide +kernel) (by decide +kernel)
theorem k_700 : (Cond.instanceMethod yX6_readTransfers : Cond) ∈ zT := zT_mem (i := 727) (by decide +kernel) (by decide +kernel)
theorem k_701 : (Cond.selects RX6 yX6_readTransfers yX6_readTransfers : Cond) ∈ zT := zT_mem (i := 728) (by decide +kernel) (by decide +kernel)
theorem k_702 : (Cond.code yX6_readTransfers cX6_readTransfers 3 (some .int) : Cond) ∈ zT := zT_mem (i := 729) (by decide +kernel) (by decide +kernel)
theorem k_703 : (Cond.methodLink RX6 119 yX6_faultOf : Cond) ∈ zT := zT_mem (i := 730) (by decide +kernel) (by decide +kernel)
theorem k_705 : (Cond.instanceMethod yX6_faultOf : Cond) ∈ zT := zT_mem (i := 732) (by decide +kernel) (by decide +kernel)
theorem k_706 : (Cond.code yX6_faultOf cX6_faultOf 2 (some .int) : Cond) ∈ zT := zT_mem (i := 733) (by decide +kernel) (by decide +kernel)
theorem k_707 : (Cond.methodLink RX6 115 yX6_readsTransfer : Cond) ∈ zT := zT_mem (i := 734) (by decide +kernel) (by decide +kernel)
theorem k_709 : (Cond.instanceMethod yX6_readsTransfer : Cond) ∈ zT := zT_mem (i := 736) (by decide +kernel) (by decide +kernel)
theorem k_710 : (Cond.code yX6_readsTransfer cX6_readsTransfer 1 (some .boolean) : Cond) ∈ zT := zT_mem (i := 737) (by decide +kernel) (by decide +kernel)
theorem k_711 : (Cond.methodLink RX6 108 yX6_number : Cond) ∈ zT := zT_mem (i := 738) (by decide +kernel) (by decide +kernel)
theorem k_713 : (Cond.instanceMethod yX6_number : Cond) ∈ zT := zT_mem (i := 740) (by decide +kernel) (by decide +kernel)
theorem k_714 : (Cond.code yX6_number cX6_number 5 (some .boolean) : Cond) ∈ zT := zT_mem (i := 741) (by decide +kernel) (by decide +kernel)
theorem k_715 : (Cond.methodLink RX6 105 yX6_code : Cond) ∈ zT := zT_mem (i := 742) (by decide +kernel) (by decide +kernel)
theorem k_717 : (Cond.instanceMethod yX6_code : Cond) ∈ zT := zT_mem (i := 744) (by decide +kernel) (by decide +kernel)
theorem k_718 : (Cond.code yX6_code cX6_code 1 (some .int) : Cond) ∈ zT := zT_mem (i := 745) (by decide +kernel) (by decide +kernel)
theorem k_719 : (Cond.methodLink RX6 112 yX6_sign : Cond) ∈ zT := zT_mem (i := 746) (by decide +kernel) (by decide +kernel)
theorem k_721 : (Cond.instanceMethod yX6_sign : Cond) ∈ zT := zT_mem (i := 748) (by decide +kernel) (by decide +kernel)
theorem k_722 : (Cond.code yX6_sign cX6_sign 3 (some .boolean) : Cond) ∈ zT := zT_mem (i := 749) (by decide +kernel) (by decide +kernel)
theorem k_723 : (Cond.methodLink RX6 122 yX6_transferOn : Cond) ∈ zT := zT_mem (i := 750) (by decide +kernel) (by decide +kernel)
theorem k_725 : (Cond.instanceMethod yX6_transferOn : Cond) ∈ zT := zT_mem (i := 752) (by decide +kernel) (by decide +kernel)
theorem k_726 : (Cond.code yX6_transferOn cX6_transferOn 4 (some .int) : Cond) ∈ zT := zT_mem (i := 753) (by decide +kernel) (by decide +kernel)
theorem k_727 : (Cond.methodLink RL 90 yX6_firm : Cond) ∈ zT := zT_mem (i := 754) (by decide +kernel) (by decide +kernel)
theorem k_728 : (Cond.instanceMethod yX6_firm : Cond) ∈ zT := zT_mem (i := 755) (by decide +kernel) (by decide +kernel)
theorem k_729 : (Cond.selects RX6 yX6_firm yX6_firm : Cond) ∈ zT := zT_mem (i := 756) (by decide +kernel) (by decide +kernel)
theorem k_730 : (Cond.code yX6_firm cX6_firm 3 (some .int) : Cond) ∈ zT := zT_mem (i := 757) (by decide +kernel) (by decide +kernel)
theorem k_731 : (Cond.methodLink RX6 125 yX6_heldBy : Cond) ∈ zT := zT_mem (i := 758) (by decide +kernel) (by decide +kernel)
theorem k_733 : (Cond.instanceMethod yX6_heldBy : Cond) ∈ zT := zT_mem (i := 760) (by decide +kernel) (by decide +kernel)
theorem k_734 : (Cond.code yX6_heldBy cX6_heldBy 4 (some .int) : Cond) ∈ zT := zT_mem (i := 761) (by decide +kernel) (by decide +kernel)
theorem k_735 : (Cond.methodLink RX6 129 yX6_vintagesOf : Cond) ∈ zT := zT_mem (i := 762) (by decide +kernel) (by decide +kernel)
theorem k_737 : (Cond.instanceMethod yX6_vintagesOf : Cond) ∈ zT := zT_mem (i := 764) (by decide +kernel) (by decide +kernel)
theorem k_738 : (Cond.code yX6_vintagesOf cX6_vintagesOf 4 (some .int) : Cond) ∈ zT := zT_mem (i := 765) (by decide +kernel) (by decide +kernel)
theorem k_739 : (Cond.methodLink RX6 132 yX6_extreme : Cond) ∈ zT := zT_mem (i := 766) (by decide +kernel) (by decide +kernel)
theorem k_741 : (Cond.instanceMethod yX6_extreme : Cond) ∈ zT := zT_mem (i := 768) (by decide +kernel) (by decide +kernel)
theorem k_742 : (Cond.code yX6_extreme cX6_extreme 5 (some .int) : Cond) ∈ zT := zT_mem (i := 769) (by decide +kernel) (by decide +kernel)
theorem k_743 : (Cond.methodLink RX6 136 yX6_stillDue : Cond) ∈ zT := zT_mem (i := 770) (by decide +kernel) (by decide +kernel)
theorem k_745 : (Cond.instanceMethod yX6_stillDue : Cond) ∈ zT := zT_mem (i := 772) (by decide +kernel) (by decide +kernel)
theorem k_746 : (Cond.code yX6_stillDue cX6_stillDue 4 (some .int) : Cond) ∈ zT := zT_mem (i := 773) (by decide +kernel) (by decide +kernel)
theorem k_747 : (Cond.methodLink RL 94 yX6_holds : Cond) ∈ zT := zT_mem (i := 774) (by decide +kernel) (by decide +kernel)
theorem k_748 : (Cond.instanceMethod yX6_holds : Cond) ∈ zT := zT_mem (i := 775) (by decide +kernel) (by decide +kernel)
theorem k_749 : (Cond.selects RX6 yX6_holds yX6_holds : Cond) ∈ zT := zT_mem (i := 776) (by decide +kernel) (by decide +kernel)
theorem k_750 : (Cond.code yX6_holds cX6_holds 3 (some .int) : Cond) ∈ zT := zT_mem (i := 777) (by decide +kernel) (by decide +kernel)
theorem k_751 : (Cond.methodLink RL 98 yX6_offsets : Cond) ∈ zT := zT_mem (i := 778) (by decide +kernel) (by decide +kernel)
theorem k_752 : (Cond.instanceMethod yX6_offsets : Cond) ∈ zT := zT_mem (i := 779) (by decide +kernel) (by decide +kernel)
theorem k_753 : (Cond.selects RX6 yX6_offsets yX6_offsets : Cond) ∈ zT := zT_mem (i := 780) (by decide +kernel) (by decide +kernel)
theorem k_754 : (Cond.code yX6_offsets cX6_offsets 4 (some .int) : Cond) ∈ zT := zT_mem (i := 781) (by decide +kernel) (by decide +kernel)
theorem k_755 : (Cond.methodLink RL 102 yX6_vintage : Cond) ∈ zT := zT_mem (i := 782) (by decide +kernel) (by decide +kernel)
theorem k_756 : (Cond.instanceMethod yX6_vintage : Cond) ∈ zT := zT_mem (i := 783) (by decide +kernel) (by decide +kernel)
theorem k_757 : (Cond.selects RX6 yX6_vintage yX6_vintage : Cond) ∈ zT := zT_mem (i := 784) (by decide +kernel) (by decide +kernel)
theorem k_758 : (Cond.code yX6_vintage cX6_vintage 3 (some .int) : Cond) ∈ zT := zT_mem (i := 785) (by decide +kernel) (by decide +kernel)
theorem k_759 : (Cond.methodLink RX6 142 yX6_heldOf : Cond) ∈ zT := zT_mem (i := 786) (by decide +kernel) (by decide +kernel)
theorem k_761 : (Cond.instanceMethod yX6_heldOf : Cond) ∈ zT := zT_mem (i := 788) (by decide +kernel) (by decide +kernel)
theorem k_762 : (Cond.code yX6_heldOf cX6_heldOf 4 (some .int) : Cond) ∈ zT := zT_mem (i := 789) (by decide +kernel) (by decide +kernel)
theorem k_763 : (Cond.methodLink RX6 139 yX6_holders : Cond) ∈ zT := zT_mem (i := 790) (by decide +kernel) (by decide +kernel)
theorem k_765 : (Cond.instanceMethod yX6_holders : Cond) ∈ zT := zT_mem (i := 792) (by decide +kernel) (by decide +kernel)
theorem k_766 : (Cond.code yX6_holders cX6_holders 4 (some .int) : Cond) ∈ zT := zT_mem (i := 793) (by decide +kernel) (by decide +kernel)
theorem k_767 : (Cond.methodLink RX6 145 yX6_monthsOf : Cond) ∈ zT := zT_mem (i := 794) (by decide +kernel) (by decide +kernel)
theorem k_769 : (Cond.instanceMethod yX6_monthsOf : Cond) ∈ zT := zT_mem (i := 796) (by decide +kernel) (by decide +kernel)
theorem k_770 : (Cond.code yX6_monthsOf cX6_monthsOf 3 (some .int) : Cond) ∈ zT := zT_mem (i := 797) (by decide +kernel) (by decide +kernel)
theorem k_771 : (Cond.methodLink RL 106 yX6_grade : Cond) ∈ zT := zT_mem (i := 798) (by decide +kernel) (by decide +kernel)
theorem k_772 : (Cond.instanceMethod yX6_grade : Cond) ∈ zT := zT_mem (i := 799) (by decide +kernel) (by decide +kernel)
theorem k_773 : (Cond.selects RX6 yX6_grade yX6_grade : Cond) ∈ zT := zT_mem (i := 800) (by decide +kernel) (by decide +kernel)
theorem k_774 : (Cond.code yX6_grade cX6_grade 3 (some .int) : Cond) ∈ zT := zT_mem (i := 801) (by decide +kernel) (by decide +kernel)
theorem k_775 : (Cond.methodLink RL 110 yX6_holder : Cond) ∈ zT := zT_mem (i := 802) (by decide +kernel) (by decide +kernel)
theorem k_776 : (Cond.instanceMethod yX6_holder : Cond) ∈ zT := zT_mem (i := 803) (by decide +kernel) (by decide +kernel)
theorem k_777 : (Cond.selects RX6 yX6_holder yX6_holder : Cond) ∈ zT := zT_mem (i := 804) (by decide +kernel) (by decide +kernel)
theorem k_778 : (Cond.code yX6_holder cX6_holder 8 (some .int) : Cond) ∈ zT := zT_mem (i := 805) (by decide +kernel) (by decide +kernel)
theorem k_779 : (Cond.methodLink RL 114 yX6_plan : Cond) ∈ zT := zT_mem (i := 806) (by decide +kernel) (by decide +kernel)
theorem k_780 : (Cond.instanceMethod yX6_plan : Cond) ∈ zT := zT_mem (i := 807) (by decide +kernel) (by decide +kernel)
theorem k_781 : (Cond.selects RX6 yX6_plan yX6_plan : Cond) ∈ zT := zT_mem (i := 808) (by decide +kernel) (by decide +kernel)
theorem k_782 : (Cond.code yX6_plan cX6_plan 8 (some .int) : Cond) ∈ zT := zT_mem (i := 809) (by decide +kernel) (by decide +kernel)
theorem k_783 : (Cond.methodLink RL 118 yX6_count : Cond) ∈ zT := zT_mem (i := 810) (by decide +kernel) (by decide +kernel)
theorem k_784 : (Cond.instanceMethod yX6_count : Cond) ∈ zT := zT_mem (i := 811) (by decide +kernel) (by decide +kernel)
theorem k_785 : (Cond.selects RX6 yX6_count yX6_count : Cond) ∈ zT := zT_mem (i := 812) (by decide +kernel) (by decide +kernel)
theorem k_786 : (Cond.code yX6_count cX6_count 2 (some .int) : Cond) ∈ zT := zT_mem (i := 813) (by decide +kernel) (by decide +kernel)
theorem k_787 : (Cond.methodLink RX6 148 yX6_allHeld : Cond) ∈ zT := zT_mem (i := 814) (by decide +kernel) (by decide +kernel)
theorem k_789 : (Cond.instanceMethod yX6_allHeld : Cond) ∈ zT := zT_mem (i := 816) (by decide +kernel) (by decide +kernel)
theorem k_790 : (Cond.code yX6_allHeld cX6_allHeld 3 (some .int) : Cond) ∈ zT := zT_mem (i := 817) (by decide +kernel) (by decide +kernel)
theorem k_791 : (Cond.methodLink RX6 151 yX6_allLost : Cond) ∈ zT := zT_mem (i := 818) (by decide +kernel) (by decide +kernel)
theorem k_793 : (Cond.instanceMethod yX6_allLost : Cond) ∈ zT := zT_mem (i := 820) (by decide +kernel) (by decide +kernel)
theorem k_794 : (Cond.code yX6_allLost cX6_allLost 3 (some .int) : Cond) ∈ zT := zT_mem (i := 821) (by decide +kernel) (by decide +kernel)
theorem k_795 : (Cond.methodLink RX6 154 yX6_monthsToDeadline : Cond) ∈ zT := zT_mem (i := 822) (by decide +kernel) (by decide +kernel)
theorem k_797 : (Cond.instanceMethod yX6_monthsToDeadline : Cond) ∈ zT := zT_mem (i := 824) (by decide +kernel) (by decide +kernel)
theorem k_798 : (Cond.code yX6_monthsToDeadline cX6_monthsToDeadline 2 (some .int) : Cond) ∈ zT := zT_mem (i := 825) (by decide +kernel) (by decide +kernel)
theorem inX0 : ∀ w ∈ u_ws RX0 TX0 9, w ∈ zT := by
  intro w hw
  obtain ⟨k, hk, rfl⟩ := List.mem_map.mp hw
  have hk := List.mem_range.mp hk
  match k, hk with
  | 0, _ => exact k_62
  | 1, _ => exact k_64
  | 2, _ => exact k_66
  | 3, _ => exact k_68
  | 4, _ => exact k_70
  | 5, _ => exact k_72
  | 6, _ => exact k_74
  | 7, _ => exact k_76
  | 8, _ => exact k_78
  | k + 9, hk => omega
theorem inX1 : ∀ w ∈ u_ws RX1 TX1 3, w ∈ zT := by
  intro w hw
  obtain ⟨k, hk, rfl⟩ := List.mem_map.mp hw
  have hk := List.mem_range.mp hk
  match k, hk with
  | 0, _ => exact k_136
  | 1, _ => exact k_138
  | 2, _ => exact k_140
  | k + 3, hk => omega
theorem inX2 : ∀ w ∈ u_ws RX2 TX2 10, w ∈ zT := by
  intro w hw
  obtain ⟨k, hk, rfl⟩ := List.mem_map.mp hw
  have hk := List.mem_range.mp hk
  match k, hk with
  | 0, _ => exact k_102
  | 1, _ => exact k_104
  | 2, _ => exact k_106
  | 3, _ => exact k_108
  | 4, _ => exact k_110
  | 5, _ => exact k_112
  | 6, _ => exact k_114
  | 7, _ => exact k_116
  | 8, _ => exact k_118
  | 9, _ => exact k_120
  | k + 10, hk => omega
theorem inX3 : ∀ w ∈ u_ws RX3 TX3 6, w ∈ zT := by
  intro w hw
  obtain ⟨k, hk, rfl⟩ := List.mem_map.mp hw
  have hk := List.mem_range.mp hk
  match k, hk with
  | 0, _ => exact k_162
  | 1, _ => exact k_164
  | 2, _ => exact k_166
  | 3, _ => exact k_168
  | 4, _ => exact k_170
  | 5, _ => exact k_172
  | k + 6, hk => omega
theorem inX4 : ∀ w ∈ u_ws RX4 TX4 8, w ∈ zT := by
  intro w hw
  obtain ⟨k, hk, rfl⟩ := List.mem_map.mp hw
  have hk := List.mem_range.mp hk
  match k, hk with
  | 0, _ => exact k_197
  | 1, _ => exact k_199
  | 2, _ => exact k_201
  | 3, _ => exact k_203
  | 4, _ => exact k_205
  | 5, _ => exact k_207
  | 6, _ => exact k_209
  | 7, _ => exact k_211
  | k + 8, hk => omega
theorem inX5 : ∀ w ∈ u_ws RX5 TX5 7, w ∈ zT := by
  intro w hw
  obtain ⟨k, hk, rfl⟩ := List.mem_map.mp hw
  have hk := List.mem_range.mp hk
  match k, hk with
  | 0, _ => exact k_222
  | 1, _ => exact k_224
  | 2, _ => exact k_226
  | 3, _ => exact k_228
  | 4, _ => exact k_230
  | 5, _ => exact k_232
  | 6, _ => exact k_234
  | k + 7, hk => omega
theorem inX6 : ∀ w ∈ u_ws RX6 TX6 11, w ∈ zT := by
  intro w hw
  obtain ⟨k, hk, rfl⟩ := List.mem_map.mp hw
  have hk := List.mem_range.mp hk
  match k, hk with
  | 0, _ => exact k_550
  | 1, _ => exact k_552
  | 2, _ => exact k_554
  | 3, _ => exact k_556
  | 4, _ => exact k_558
  | 5, _ => exact k_560
  | 6, _ => exact k_562
  | 7, _ => exact k_564
  | 8, _ => exact k_566
  | 9, _ => exact k_568
  | 10, _ => exact k_570
  | k + 11, hk => omega
end
section
/-! THE FLAT KIT. All numbers of a system lie at places of ONE function μ. Cell k (at the address ad k) has a shape: an array of ints over a stretch of places (kind t, n places from o), an object (class ci; its field i is null, an int at the place o + i, or a cell), or an array of cells. -/
abbrev Zf : Type := Option (Option Nat)
abbrev ZS : Type := (Nat × Nat × Nat) ⊕ ((Nat × Nat × List Zf) ⊕ (Nat × List (Option Nat)))
def zv (ad : Nat → Nat) (μ : Nat → Int32) (o : Nat) (i : Nat) (f : Zf) : Value := match f with
  | none => .null
  | some none => .int (μ (o + i))
  | some (some k) => .ref (ad k)
def zE (tc : Nat → ClassId) (ad : Nat → Nat) (μ : Nat → Int32) (x : ZS) : va_E := match x with
  | .inl (t, n, o) => .inl (tc t, n, .inl (fun k => μ (o + k)))
  | .inr (.inl (ci, o, fs)) => .inr (ci, fs.mapIdx (zv ad μ o))
  | .inr (.inr (t, ks)) => .inl (tc t, ks.length, .inr (.inr (.inr (.inr (fun j => (ks.getD j none).map ad)))))
/-- p is one of the places of a shape -/
def zL (x : ZS) (p : Nat) : Prop := match x with
  | .inl (_, n, o) => o ≤ p ∧ p < o + n
  | .inr (.inl (_, o, fs)) => o ≤ p ∧ fs[p - o]? = some (some none)
  | .inr (.inr _) => False
def zW (D : va_G) (cl : List vw_C) (tc : Nat → ClassId) (ad : Nat → Nat) (N : Nat) (sh : Nat → ZS) (μ : Nat → Int32) (H : Heap) : Prop := ∀ k, k < N → va_at D cl (ad k, zE tc ad μ (sh k)) H
theorem arrV_ext {cA : ClassId} {n : Nat} {f g : Nat → Value} (h : ∀ j, j < n → f j = g j) : arrV cA n f = arrV cA n g := by
  have : (fun j : Fin n => f j.val) = (fun j : Fin n => g j.val) := funext (fun j => h j.val j.isLt)
  unfold arrV
  rw [this]
theorem zv_agree {ad : Nat → Nat} {μ μ' : Nat → Int32} {o i : Nat} {f : Zf} (h : f = some none → μ (o + i) = μ' (o + i)) : zv ad μ o i f = zv ad μ' o i f := by
  match f, h with
  | none, _ => rfl
  | some none, h => exact congrArg Value.int (h rfl)
  | some (some k), _ => rfl
theorem zE_agree {D : va_G} {cl : List vw_C} {tc : Nat → ClassId} {ad : Nat → Nat} {μ μ' : Nat → Int32} {x : ZS} {a : Nat} {H : Heap} (h : ∀ p, zL x p → μ p = μ' p) (ha : va_at D cl (a, zE tc ad μ x) H) : va_at D cl (a, zE tc ad μ' x) H := by
  match x, h, ha with
  | .inl (t, n, o), h, ha =>
    have e : vp_cell (tc t) (n, .inl (fun k => μ (o + k))) = vp_cell (tc t) (n, .inl (fun k => μ' (o + k))) := by
      rw [vp_cell_i, vp_cell_i]
      exact arrV_ext (fun j hj => congrArg Value.int (h (o + j) ⟨by omega, by omega⟩))
    show H[a]? = some (vp_cell (tc t) (n, .inl (fun k => μ' (o + k))))
    rw [← e]
    exact ha
  | .inr (.inl (ci, o, fs)), h, ha =>
    have e : fs.mapIdx (zv ad μ o) = fs.mapIdx (zv ad μ' o) := by
      apply List.ext_getElem?
      intro i
      rw [List.getElem?_mapIdx, List.getElem?_mapIdx]
      cases hf : fs[i]? with
      | none => rfl
      | some f =>
        refine congrArg some (zv_agree (fun e => h (o + i) ⟨by omega, ?_⟩))
        rw [Nat.add_sub_cancel_left, hf, e]
    show va_at D cl (a, .inr (ci, fs.mapIdx (zv ad μ' o))) H
    rw [← e]
    exact ha
  | .inr (.inr (t, ks)), h, ha => exact ha
theorem zW.agree {D : va_G} {cl : List vw_C} {tc : Nat → ClassId} {ad : Nat → Nat} {N : Nat} {sh : Nat → ZS} {μ μ' : Nat → Int32} {H : Heap} (hW : zW D cl tc ad N sh μ H) (h : ∀ k, k < N → ∀ p, zL (sh k) p → μ p = μ' p) : zW D cl tc ad N sh μ' H := fun k hk => zE_agree (h k hk) (hW k hk)
theorem zW.kept {D : va_G} {cl : List vw_C} {tc : Nat → ClassId} {ad : Nat → Nat} {N : Nat} {sh : Nat → ZS} {μ : Nat → Int32} {H H1 : Heap} (hW : zW D cl tc ad N sh μ H) (h : ∀ k, k < N → H1[ad k]? = H[ad k]?) : zW D cl tc ad N sh μ H1 := fun k hk => (hW k hk).kept (h k hk)
theorem zW.put {D : va_G} {cl : List vw_C} {tc : Nat → ClassId} {ad : Nat → Nat} {N : Nat} {sh : Nat → ZS} {μ μ' : Nat → Int32} {H H1 : Heap} {k : Nat} (hW : zW D cl tc ad N sh μ H) (inj : ∀ i j, i < N → j < N → ad i = ad j → i = j) (hk : k < N) (oq : ∀ q : Nat, q ≠ ad k → H1[q]? = H[q]?) (hn : va_at D cl (ad k, zE tc ad μ' (sh k)) H1) (ho : ∀ j, j < N → j ≠ k → ∀ p, zL (sh j) p → μ p = μ' p) : zW D cl tc ad N sh μ' H1 := by
  intro j hj
  by_cases e : j = k
  · subst e; exact hn
  · exact zE_agree (ho j hj e) ((hW j hj).kept (oq _ (fun z => e (inj j k hj hk z))))
/-- every place has one owner -/
def zO (N : Nat) (sh : Nat → ZS) (own : Nat → Nat) : Prop := ∀ k, k < N → ∀ p, zL (sh k) p → own p = k
theorem zO.ne {N : Nat} {sh : Nat → ZS} {ow : Nat → Nat} {μ : Nat → Int32} {k q : Nat} {x : Int32} (h : zO N sh ow) (hk : k < N) (hq : zL (sh k) q) : ∀ j, j < N → j ≠ k → ∀ p, zL (sh j) p → μ p = upd μ q x p := by
  intro j hj e p hp
  have : p ≠ q := fun z => by subst z; exact e ((h j hj p hp).symm.trans (h k hk p hq))
  exact (pk_un this).symm
theorem zP1 {D : va_G} {cl : List vw_C} {a : Nat} {e : va_E} {H : Heap} (h : va_at D cl (a, e) H) : va_P D cl [(a, e)] H := by
  intro k q hq
  match k, hq with
  | 0, hq => cases hq; exact h
  | k + 1, hq => simp at hq
end
section
/-! ROWS: zG says: from every heap that holds μ, with the locals lv and the stack st, the machine comes from pc to Q. -/
def zG (p : Program) (l : Launch) (e : Env) (R : Room) (s : State) (m : MethodId) (args : Array Value) (below : List Frame) (meth : Method) (c : Code) (A : Nat → Prop) (D : va_G) (cl : List vw_C) (tc : Nat → ClassId) (ad : Nat → Nat) (N : Nat) (sh : Nat → ZS) (nL : Nat) (Q : State → Prop) (μ : Nat → Int32) (pc : Nat) (lv : List (Nat × Value)) (st : List Value) : Prop :=
  ∀ (H : Heap) (locs : List Loc) (ls : Array Slot), zW D cl tc ad N sh μ H → va_S A s.heap H locs → lv_has ls nL lv → W p l e R s m args below meth c H locs 0 0 Q (F0 m pc ls st)
/-- what a method's walk rests on -/
def zX (p : Program) (s : State) (m : MethodId) (args : Array Value) (meth : Method) (c : Code) (A : Nat → Prop) (D : va_G) (cl : List vw_C) (ad : Nat → Nat) (N : Nat) (nL : Nat) (K : State → Heap → Prop) (tys : List (ClassId × FieldType)) (ow : Nat → Nat) (sh : Nat → ZS) (cc : ByteArray) (own : String) (ret : Option FieldType) : Prop :=
  CallFix p m c cc nL s args zT own ∧ meth.locks = false ∧ meth.sig.returnType = ret ∧ (∀ i j, i < N → j < N → ad i = ad j → i = j) ∧ (∀ k, k < N → A (ad k)) ∧ va_K D cl tys s ∧ zO N sh ow ∧ (∀ (U : State) (H : Heap), s.WarmedH U.vm → s.heap.size ≤ H.size → (∀ q : Nat, q < s.heap.size → ¬ A q → H[q]? = s.heap[q]?) → K U H) ∧ K s s.heap
section ZR
variable {p : Program} {l : Launch} {e : Env} {R : Room} {s : State} {m : MethodId} {args : Array Value} {below : List Frame} {meth : Method} {c : Code} {A : Nat → Prop} {D : va_G} {cl : List vw_C} {tc : Nat → ClassId} {ad : Nat → Nat} {N : Nat} {sh : Nat → ZS} {nL : Nat} {Q : State → Prop} {μ : Nat → Int32} {pc : Nat} {lv : List (Nat × Value)} {st : List Value}
variable {K : State → Heap → Prop} {tys : List (ClassId × FieldType)} {ow : Nat → Nat} {cc : ByteArray} {own : String} {ret : Option FieldType}
theorem zr_iconst (X : zX p s m args meth c A D cl ad N nL K tys ow sh cc own ret) {n : Int} (v : Int32) (d : decode cc pc = .ok (.iconst n, 1)) (hv : Int32.ofInt n = v) (kk : zG p l e R s m args below meth c A D cl tc ad N sh nL Q μ (pc + 1) lv (.int v :: st)) : zG p l e R s m args below meth c A D cl tc ad N sh nL Q μ pc lv st :=
  fun H L ls a b h => lv_iconst X.1.1 X.1.2.1 d hv (kk H L ls a b h)
theorem zr_bipush (X : zX p s m args meth c A D cl ad N nL K tys ow sh cc own ret) {n : Int} (v : Int32) (d : decode cc pc = .ok (.bipush n, 2)) (hv : (Int8.ofInt n).toInt32 = v) (kk : zG p l e R s m args below meth c A D cl tc ad N sh nL Q μ (pc + 2) lv (.int v :: st)) : zG p l e R s m args below meth c A D cl tc ad N sh nL Q μ pc lv st :=
  fun H L ls a b h => lv_bipush X.1.1 X.1.2.1 d hv (kk H L ls a b h)
theorem zr_sipush (X : zX p s m args meth c A D cl ad N nL K tys ow sh cc own ret) {n : Int} (v : Int32) (d : decode cc pc = .ok (.sipush n, 3)) (hv : (Int16.ofInt n).toInt32 = v) (kk : zG p l e R s m args below meth c A D cl tc ad N sh nL Q μ (pc + 3) lv (.int v :: st)) : zG p l e R s m args below meth c A D cl tc ad N sh nL Q μ pc lv st :=
  fun H L ls a b h => lv_sipush X.1.1 X.1.2.1 d hv (kk H L ls a b h)
theorem zr_iloadn (X : zX p s m args meth c A D cl ad N nL K tys ow sh cc own ret) {k : Fin 4} (j : Nat) {x : Int32} (d : decode cc pc = .ok (.iload_n k, 1)) (hl : lv[j]? = some ((k : Nat), .int x)) (kk : zG p l e R s m args below meth c A D cl tc ad N sh nL Q μ (pc + 1) lv (.int x :: st)) : zG p l e R s m args below meth c A D cl tc ad N sh nL Q μ pc lv st :=
  fun H L ls a b h => lv_iload_n X.1.1 X.1.2.1 d rfl (lv_at h j hl) (kk H L ls a b h)
theorem zr_iload (X : zX p s m args meth c A D cl ad N nL K tys ow sh cc own ret) {i : Nat} (j : Nat) {x : Int32} (d : decode cc pc = .ok (.iload i, 2)) (hl : lv[j]? = some (i, .int x)) (kk : zG p l e R s m args below meth c A D cl tc ad N sh nL Q μ (pc + 2) lv (.int x :: st)) : zG p l e R s m args below meth c A D cl tc ad N sh nL Q μ pc lv st :=
  fun H L ls a b h => lv_iload X.1.1 X.1.2.1 d (lv_at h j hl) (kk H L ls a b h)
theorem zr_aloadn (X : zX p s m args meth c A D cl ad N nL K tys ow sh cc own ret) {k : Fin 4} (j : Nat) {x : Nat} (d : decode cc pc = .ok (.aload_n k, 1)) (hl : lv[j]? = some ((k : Nat), .ref x)) (kk : zG p l e R s m args below meth c A D cl tc ad N sh nL Q μ (pc + 1) lv (.ref x :: st)) : zG p l e R s m args below meth c A D cl tc ad N sh nL Q μ pc lv st :=
  fun H L ls a b h => lv_aload_n X.1.1 X.1.2.1 d rfl (lv_at h j hl) (kk H L ls a b h)
theorem zr_aload (X : zX p s m args meth c A D cl ad N nL K tys ow sh cc own ret) {i : Nat} (j : Nat) {x : Nat} (d : decode cc pc = .ok (.aload i, 2)) (hl : lv[j]? = some (i, .ref x)) (kk : zG p l e R s m args below meth c A D cl tc ad N sh nL Q μ (pc + 2) lv (.ref x :: st)) : zG p l e R s m args below meth c A D cl tc ad N sh nL Q μ pc lv st :=
  fun H L ls a b h => lv_aload X.1.1 X.1.2.1 d (lv_at h j hl) (kk H L ls a b h)
theorem zr_aloadnN (X : zX p s m args meth c A D cl ad N nL K tys ow sh cc own ret) {k : Fin 4} (j : Nat) (d : decode cc pc = .ok (.aload_n k, 1)) (hl : lv[j]? = some ((k : Nat), .null)) (kk : zG p l e R s m args below meth c A D cl tc ad N sh nL Q μ (pc + 1) lv (.null :: st)) : zG p l e R s m args below meth c A D cl tc ad N sh nL Q μ pc lv st :=
  fun H L ls a b h => lv_aload_nN X.1.1 X.1.2.1 d rfl (lv_at h j hl) (kk H L ls a b h)
theorem zr_aloadN (X : zX p s m args meth c A D cl ad N nL K tys ow sh cc own ret) {i : Nat} (j : Nat) (d : decode cc pc = .ok (.aload i, 2)) (hl : lv[j]? = some (i, .null)) (kk : zG p l e R s m args below meth c A D cl tc ad N sh nL Q μ (pc + 2) lv (.null :: st)) : zG p l e R s m args below meth c A D cl tc ad N sh nL Q μ pc lv st :=
  fun H L ls a b h => lv_aloadN X.1.1 X.1.2.1 d (lv_at h j hl) (kk H L ls a b h)
/-- the locals behind a store, in the order that is named -/
def zS (i : Nat) (v : Value) (lv : List (Nat × Value)) : List (Nat × Value) := (i, v) :: lv.filter (fun q => !(q.1 == i) && !(q.1 + 1 == i && q.2.category == 2))
theorem zr_istoren (X : zX p s m args meth c A D cl ad N nL K tys ow sh cc own ret) {k : Fin 4} {x : Int32} (is : List Nat) (lv' : List (Nat × Value)) (d : decode cc pc = .ok (.istore_n k, 1)) (hn : (k : Nat) < nL) (hl : lv_pick (zS k (.int x) lv) is = lv') (kk : zG p l e R s m args below meth c A D cl tc ad N sh nL Q μ (pc + 1) lv' st) : zG p l e R s m args below meth c A D cl tc ad N sh nL Q μ pc lv (.int x :: st) :=
  fun H L ls a b h => lv_istore_n X.1.1 X.1.2.1 d rfl h hn rfl (fun ls' h' => kk H L ls' a b (lv_sub h' is hl))
theorem zr_istore (X : zX p s m args meth c A D cl ad N nL K tys ow sh cc own ret) {i : Nat} {x : Int32} (is : List Nat) (lv' : List (Nat × Value)) (d : decode cc pc = .ok (.istore i, 2)) (hn : i < nL) (hl : lv_pick (zS i (.int x) lv) is = lv') (kk : zG p l e R s m args below meth c A D cl tc ad N sh nL Q μ (pc + 2) lv' st) : zG p l e R s m args below meth c A D cl tc ad N sh nL Q μ pc lv (.int x :: st) :=
  fun H L ls a b h => lv_istore X.1.1 X.1.2.1 d h hn rfl (fun ls' h' => kk H L ls' a b (lv_sub h' is hl))
theorem zr_astoren (X : zX p s m args meth c A D cl ad N nL K tys ow sh cc own ret) {k : Fin 4} {x : Nat} (is : List Nat) (lv' : List (Nat × Value)) (d : decode cc pc = .ok (.astore_n k, 1)) (hn : (k : Nat) < nL) (hl : lv_pick (zS k (.ref x) lv) is = lv') (kk : zG p l e R s m args below meth c A D cl tc ad N sh nL Q μ (pc + 1) lv' st) : zG p l e R s m args below meth c A D cl tc ad N sh nL Q μ pc lv (.ref x :: st) :=
  fun H L ls a b h => lv_astore_n X.1.1 X.1.2.1 d rfl h hn rfl (fun ls' h' => kk H L ls' a b (lv_sub h' is hl))
theorem zr_astore (X : zX p s m args meth c A D cl ad N nL K tys ow sh cc own ret) {i : Nat} {x : Nat} (is : List Nat) (lv' : List (Nat × Value)) (d : decode cc pc = .ok (.astore i, 2)) (hn : i < nL) (hl : lv_pick (zS i (.ref x) lv) is = lv') (kk : zG p l e R s m args below meth c A D cl tc ad N sh nL Q μ (pc + 2) lv' st) : zG p l e R s m args below meth c A D cl tc ad N sh nL Q μ pc lv (.ref x :: st) :=
  fun H L ls a b h => lv_astore X.1.1 X.1.2.1 d h hn rfl (fun ls' h' => kk H L ls' a b (lv_sub h' is hl))
theorem zr_astorenN (X : zX p s m args meth c A D cl ad N nL K tys ow sh cc own ret) {k : Fin 4} (is : List Nat) (lv' : List (Nat × Value)) (d : decode cc pc = .ok (.astore_n k, 1)) (hn : (k : Nat) < nL) (hl : lv_pick (zS k .null lv) is = lv') (kk : zG p l e R s m args below meth c A D cl tc ad N sh nL Q μ (pc + 1) lv' st) : zG p l e R s m args below meth c A D cl tc ad N sh nL Q μ pc lv (.null :: st) :=
  fun H L ls a b h => lv_astore_nN X.1.1 X.1.2.1 d rfl h hn rfl (fun ls' h' => kk H L ls' a b (lv_sub h' is hl))
theorem zr_astoreN (X : zX p s m args meth c A D cl ad N nL K tys ow sh cc own ret) {i : Nat} (is : List Nat) (lv' : List (Nat × Value)) (d : decode cc pc = .ok (.astore i, 2)) (hn : i < nL) (hl : lv_pick (zS i .null lv) is = lv') (kk : zG p l e R s m args below meth c A D cl tc ad N sh nL Q μ (pc + 2) lv' st) : zG p l e R s m args below meth c A D cl tc ad N sh nL Q μ pc lv (.null :: st) :=
  fun H L ls a b h => lv_astoreN X.1.1 X.1.2.1 d h hn rfl (fun ls' h' => kk H L ls' a b (lv_sub h' is hl))
theorem zr_iinc (X : zX p s m args meth c A D cl ad N nL K tys ow sh cc own ret) {i : Nat} {n : Int} {x : Int32} (j : Nat) (v : Int32) (is : List Nat) (lv' : List (Nat × Value)) (d : decode cc pc = .ok (.iinc i n, 3)) (hj : lv[j]? = some (i, .int x)) (hv : x + Int32.ofInt n = v) (hn : i < nL) (hl : lv_pick (zS i (.int v) lv) is = lv') (kk : zG p l e R s m args below meth c A D cl tc ad N sh nL Q μ (pc + 3) lv' st) : zG p l e R s m args below meth c A D cl tc ad N sh nL Q μ pc lv st :=
  fun H L ls a b h => lv_iinc X.1.1 X.1.2.1 d h hj hv hn rfl (fun ls' h' => kk H L ls' a b (lv_sub h' is hl))
theorem zr_iadd (X : zX p s m args meth c A D cl ad N nL K tys ow sh cc own ret) {x y : Int32} (z : Int32) (d : decode cc pc = .ok (.iadd, 1)) (hz : x + y = z) (kk : zG p l e R s m args below meth c A D cl tc ad N sh nL Q μ (pc + 1) lv (.int z :: st)) : zG p l e R s m args below meth c A D cl tc ad N sh nL Q μ pc lv (.int y :: .int x :: st) :=
  fun H L ls a b h => lv_iadd X.1.1 X.1.2.1 d (by rw [hz]; exact kk H L ls a b h)
theorem zr_isub (X : zX p s m args meth c A D cl ad N nL K tys ow sh cc own ret) {x y : Int32} (z : Int32) (d : decode cc pc = .ok (.isub, 1)) (hz : x - y = z) (kk : zG p l e R s m args below meth c A D cl tc ad N sh nL Q μ (pc + 1) lv (.int z :: st)) : zG p l e R s m args below meth c A D cl tc ad N sh nL Q μ pc lv (.int y :: .int x :: st) :=
  fun H L ls a b h => lv_isub X.1.1 X.1.2.1 d (by rw [hz]; exact kk H L ls a b h)
theorem zr_imul (X : zX p s m args meth c A D cl ad N nL K tys ow sh cc own ret) {x y : Int32} (z : Int32) (d : decode cc pc = .ok (.imul, 1)) (hz : x * y = z) (kk : zG p l e R s m args below meth c A D cl tc ad N sh nL Q μ (pc + 1) lv (.int z :: st)) : zG p l e R s m args below meth c A D cl tc ad N sh nL Q μ pc lv (.int y :: .int x :: st) :=
  fun H L ls a b h => lv_imul X.1.1 X.1.2.1 d (by rw [hz]; exact kk H L ls a b h)
theorem zr_idiv (X : zX p s m args meth c A D cl ad N nL K tys ow sh cc own ret) {x y : Int32} (z : Int32) (d : decode cc pc = .ok (.idiv, 1)) (h0 : ¬ y = 0) (hz : x / y = z) (kk : zG p l e R s m args below meth c A D cl tc ad N sh nL Q μ (pc + 1) lv (.int z :: st)) : zG p l e R s m args below meth c A D cl tc ad N sh nL Q μ pc lv (.int y :: .int x :: st) :=
  fun H L ls a b h => lv_idiv X.1.1 X.1.2.1 d h0 (by rw [hz]; exact kk H L ls a b h)
theorem zr_irem (X : zX p s m args meth c A D cl ad N nL K tys ow sh cc own ret) {x y : Int32} (z : Int32) (d : decode cc pc = .ok (.irem, 1)) (h0 : ¬ y = 0) (hz : x - x / y * y = z) (kk : zG p l e R s m args below meth c A D cl tc ad N sh nL Q μ (pc + 1) lv (.int z :: st)) : zG p l e R s m args below meth c A D cl tc ad N sh nL Q μ pc lv (.int y :: .int x :: st) :=
  fun H L ls a b h => lv_irem X.1.1 X.1.2.1 d h0 (by rw [hz]; exact kk H L ls a b h)
theorem zr_i2c (X : zX p s m args meth c A D cl ad N nL K tys ow sh cc own ret) {x : Int32} (z : Int32) (d : decode cc pc = .ok (.i2c, 1)) (hz : (x.toUInt32 % 65536).toInt32 = z) (kk : zG p l e R s m args below meth c A D cl tc ad N sh nL Q μ (pc + 1) lv (.int z :: st)) : zG p l e R s m args below meth c A D cl tc ad N sh nL Q μ pc lv (.int x :: st) :=
  fun H L ls a b h => lv_i2c X.1.1 X.1.2.1 d hz (kk H L ls a b h)
theorem zr_top (X : zX p s m args meth c A D cl ad N nL K tys ow sh cc own ret) {x : Value} (z : Value) (hz : x = z) (kk : zG p l e R s m args below meth c A D cl tc ad N sh nL Q μ pc lv (z :: st)) : zG p l e R s m args below meth c A D cl tc ad N sh nL Q μ pc lv (x :: st) := by
  rw [hz]; exact kk
theorem zr_dup (X : zX p s m args meth c A D cl ad N nL K tys ow sh cc own ret) {va : Value} (d : decode cc pc = .ok (.dup, 1)) (hva : va.category = 1) (kk : zG p l e R s m args below meth c A D cl tc ad N sh nL Q μ (pc + 1) lv (va :: va :: st)) : zG p l e R s m args below meth c A D cl tc ad N sh nL Q μ pc lv (va :: st) :=
  fun H L ls a b h => lv_dup X.1.1 X.1.2.1 d hva (kk H L ls a b h)
theorem zr_pop (X : zX p s m args meth c A D cl ad N nL K tys ow sh cc own ret) {va : Value} (d : decode cc pc = .ok (.pop, 1)) (hva : va.category = 1) (kk : zG p l e R s m args below meth c A D cl tc ad N sh nL Q μ (pc + 1) lv st) : zG p l e R s m args below meth c A D cl tc ad N sh nL Q μ pc lv (va :: st) :=
  fun H L ls a b h => lv_pop X.1.1 X.1.2.1 d hva (kk H L ls a b h)
theorem zr_dup2 (X : zX p s m args meth c A D cl ad N nL K tys ow sh cc own ret) {va vb : Value} (d : decode cc pc = .ok (.dup2, 1)) (hva : va.category = 1) (hvb : vb.category = 1) (kk : zG p l e R s m args below meth c A D cl tc ad N sh nL Q μ (pc + 1) lv (va :: vb :: va :: vb :: st)) : zG p l e R s m args below meth c A D cl tc ad N sh nL Q μ pc lv (va :: vb :: st) :=
  fun H L ls a b h => lv_dup2_11 X.1.1 X.1.2.1 d hva hvb (kk H L ls a b h)
theorem zr_if_eq (X : zX p s m args meth c A D cl ad N nL K tys ow sh cc own ret) {x : Int32} {off : Int} (tgt : Nat) (d : decode cc pc = .ok (.ifCond .eq off, 3)) (ht : (pc : Int) + off = (tgt : Int)) (kt : x = 0 → zG p l e R s m args below meth c A D cl tc ad N sh nL Q μ tgt lv st) (kf : ¬ x = 0 → zG p l e R s m args below meth c A D cl tc ad N sh nL Q μ (pc + 3) lv st) : zG p l e R s m args below meth c A D cl tc ad N sh nL Q μ pc lv (.int x :: st) :=
  fun H L ls a b h => lv_if_eq X.1.1 X.1.2.1 d ht (fun q => kt q H L ls a b h) (fun q => kf q H L ls a b h)
theorem zr_icmp_eq (X : zX p s m args meth c A D cl ad N nL K tys ow sh cc own ret) {x y : Int32} {off : Int} (tgt : Nat) (d : decode cc pc = .ok (.if_icmp .eq off, 3)) (ht : (pc : Int) + off = (tgt : Int)) (kt : x = y → zG p l e R s m args below meth c A D cl tc ad N sh nL Q μ tgt lv st) (kf : ¬ x = y → zG p l e R s m args below meth c A D cl tc ad N sh nL Q μ (pc + 3) lv st) : zG p l e R s m args below meth c A D cl tc ad N sh nL Q μ pc lv (.int y :: .int x :: st) :=
  fun H L ls a b h => lv_icmp_eq X.1.1 X.1.2.1 d ht (fun q => kt q H L ls a b h) (fun q => kf q H L ls a b h)
theorem zr_if_ne (X : zX p s m args meth c A D cl ad N nL K tys ow sh cc own ret) {x : Int32} {off : Int} (tgt : Nat) (d : decode cc pc = .ok (.ifCond .ne off, 3)) (ht : (pc : Int) + off = (tgt : Int)) (kt : ¬ x = 0 → zG p l e R s m args below meth c A D cl tc ad N sh nL Q μ tgt lv st) (kf : x = 0 → zG p l e R s m args below meth c A D cl tc ad N sh nL Q μ (pc + 3) lv st) : zG p l e R s m args below meth c A D cl tc ad N sh nL Q μ pc lv (.int x :: st) :=
  fun H L ls a b h => lv_if_ne X.1.1 X.1.2.1 d ht (fun q => kt q H L ls a b h) (fun q => kf q H L ls a b h)
theorem zr_icmp_ne (X : zX p s m args meth c A D cl ad N nL K tys ow sh cc own ret) {x y : Int32} {off : Int} (tgt : Nat) (d : decode cc pc = .ok (.if_icmp .ne off, 3)) (ht : (pc : Int) + off = (tgt : Int)) (kt : ¬ x = y → zG p l e R s m args below meth c A D cl tc ad N sh nL Q μ tgt lv st) (kf : x = y → zG p l e R s m args below meth c A D cl tc ad N sh nL Q μ (pc + 3) lv st) : zG p l e R s m args below meth c A D cl tc ad N sh nL Q μ pc lv (.int y :: .int x :: st) :=
  fun H L ls a b h => lv_icmp_ne X.1.1 X.1.2.1 d ht (fun q => kt q H L ls a b h) (fun q => kf q H L ls a b h)
theorem zr_if_lt (X : zX p s m args meth c A D cl ad N nL K tys ow sh cc own ret) {x : Int32} {off : Int} (tgt : Nat) (d : decode cc pc = .ok (.ifCond .lt off, 3)) (ht : (pc : Int) + off = (tgt : Int)) (kt : x < 0 → zG p l e R s m args below meth c A D cl tc ad N sh nL Q μ tgt lv st) (kf : ¬ x < 0 → zG p l e R s m args below meth c A D cl tc ad N sh nL Q μ (pc + 3) lv st) : zG p l e R s m args below meth c A D cl tc ad N sh nL Q μ pc lv (.int x :: st) :=
  fun H L ls a b h => lv_if_lt X.1.1 X.1.2.1 d ht (fun q => kt q H L ls a b h) (fun q => kf q H L ls a b h)
theorem zr_icmp_lt (X : zX p s m args meth c A D cl ad N nL K tys ow sh cc own ret) {x y : Int32} {off : Int} (tgt : Nat) (d : decode cc pc = .ok (.if_icmp .lt off, 3)) (ht : (pc : Int) + off = (tgt : Int)) (kt : x < y → zG p l e R s m args below meth c A D cl tc ad N sh nL Q μ tgt lv st) (kf : ¬ x < y → zG p l e R s m args below meth c A D cl tc ad N sh nL Q μ (pc + 3) lv st) : zG p l e R s m args below meth c A D cl tc ad N sh nL Q μ pc lv (.int y :: .int x :: st) :=
  fun H L ls a b h => lv_icmp_lt X.1.1 X.1.2.1 d ht (fun q => kt q H L ls a b h) (fun q => kf q H L ls a b h)
theorem zr_if_ge (X : zX p s m args meth c A D cl ad N nL K tys ow sh cc own ret) {x : Int32} {off : Int} (tgt : Nat) (d : decode cc pc = .ok (.ifCond .ge off, 3)) (ht : (pc : Int) + off = (tgt : Int)) (kt : 0 ≤ x → zG p l e R s m args below meth c A D cl tc ad N sh nL Q μ tgt lv st) (kf : ¬ 0 ≤ x → zG p l e R s m args below meth c A D cl tc ad N sh nL Q μ (pc + 3) lv st) : zG p l e R s m args below meth c A D cl tc ad N sh nL Q μ pc lv (.int x :: st) :=
  fun H L ls a b h => lv_if_ge X.1.1 X.1.2.1 d ht (fun q => kt q H L ls a b h) (fun q => kf q H L ls a b h)
theorem zr_icmp_ge (X : zX p s m args meth c A D cl ad N nL K tys ow sh cc own ret) {x y : Int32} {off : Int} (tgt : Nat) (d : decode cc pc = .ok (.if_icmp .ge off, 3)) (ht : (pc : Int) + off = (tgt : Int)) (kt : y ≤ x → zG p l e R s m args below meth c A D cl tc ad N sh nL Q μ tgt lv st) (kf : ¬ y ≤ x → zG p l e R s m args below meth c A D cl tc ad N sh nL Q μ (pc + 3) lv st) : zG p l e R s m args below meth c A D cl tc ad N sh nL Q μ pc lv (.int y :: .int x :: st) :=
  fun H L ls a b h => lv_icmp_ge X.1.1 X.1.2.1 d ht (fun q => kt q H L ls a b h) (fun q => kf q H L ls a b h)
theorem zr_if_gt (X : zX p s m args meth c A D cl ad N nL K tys ow sh cc own ret) {x : Int32} {off : Int} (tgt : Nat) (d : decode cc pc = .ok (.ifCond .gt off, 3)) (ht : (pc : Int) + off = (tgt : Int)) (kt : 0 < x → zG p l e R s m args below meth c A D cl tc ad N sh nL Q μ tgt lv st) (kf : ¬ 0 < x → zG p l e R s m args below meth c A D cl tc ad N sh nL Q μ (pc + 3) lv st) : zG p l e R s m args below meth c A D cl tc ad N sh nL Q μ pc lv (.int x :: st) :=
  fun H L ls a b h => lv_if_gt X.1.1 X.1.2.1 d ht (fun q => kt q H L ls a b h) (fun q => kf q H L ls a b h)
theorem zr_icmp_gt (X : zX p s m args meth c A D cl ad N nL K tys ow sh cc own ret) {x y : Int32} {off : Int} (tgt : Nat) (d : decode cc pc = .ok (.if_icmp .gt off, 3)) (ht : (pc : Int) + off = (tgt : Int)) (kt : y < x → zG p l e R s m args below meth c A D cl tc ad N sh nL Q μ tgt lv st) (kf : ¬ y < x → zG p l e R s m args below meth c A D cl tc ad N sh nL Q μ (pc + 3) lv st) : zG p l e R s m args below meth c A D cl tc ad N sh nL Q μ pc lv (.int y :: .int x :: st) :=
  fun H L ls a b h => lv_icmp_gt X.1.1 X.1.2.1 d ht (fun q => kt q H L ls a b h) (fun q => kf q H L ls a b h)
theorem zr_if_le (X : zX p s m args meth c A D cl ad N nL K tys ow sh cc own ret) {x : Int32} {off : Int} (tgt : Nat) (d : decode cc pc = .ok (.ifCond .le off, 3)) (ht : (pc : Int) + off = (tgt : Int)) (kt : x ≤ 0 → zG p l e R s m args below meth c A D cl tc ad N sh nL Q μ tgt lv st) (kf : ¬ x ≤ 0 → zG p l e R s m args below meth c A D cl tc ad N sh nL Q μ (pc + 3) lv st) : zG p l e R s m args below meth c A D cl tc ad N sh nL Q μ pc lv (.int x :: st) :=
  fun H L ls a b h => lv_if_le X.1.1 X.1.2.1 d ht (fun q => kt q H L ls a b h) (fun q => kf q H L ls a b h)
theorem zr_icmp_le (X : zX p s m args meth c A D cl ad N nL K tys ow sh cc own ret) {x y : Int32} {off : Int} (tgt : Nat) (d : decode cc pc = .ok (.if_icmp .le off, 3)) (ht : (pc : Int) + off = (tgt : Int)) (kt : x ≤ y → zG p l e R s m args below meth c A D cl tc ad N sh nL Q μ tgt lv st) (kf : ¬ x ≤ y → zG p l e R s m args below meth c A D cl tc ad N sh nL Q μ (pc + 3) lv st) : zG p l e R s m args below meth c A D cl tc ad N sh nL Q μ pc lv (.int y :: .int x :: st) :=
  fun H L ls a b h => lv_icmp_le X.1.1 X.1.2.1 d ht (fun q => kt q H L ls a b h) (fun q => kf q H L ls a b h)
theorem zr_goto (X : zX p s m args meth c A D cl ad N nL K tys ow sh cc own ret) {off : Int} (tgt : Nat) (d : decode cc pc = .ok (.goto off, 3)) (ht : (pc : Int) + off = (tgt : Int)) (kk : zG p l e R s m args below meth c A D cl tc ad N sh nL Q μ tgt lv st) : zG p l e R s m args below meth c A D cl tc ad N sh nL Q μ pc lv st :=
  fun H L ls a b h => lv_goto X.1.1 X.1.2.1 d ht (kk H L ls a b h)
theorem zr_ifnonnull (X : zX p s m args meth c A D cl ad N nL K tys ow sh cc own ret) {x : Nat} {off : Int} (tgt : Nat) (d : decode cc pc = .ok (.ifnonnull off, 3)) (ht : (pc : Int) + off = (tgt : Int)) (kk : zG p l e R s m args below meth c A D cl tc ad N sh nL Q μ tgt lv st) : zG p l e R s m args below meth c A D cl tc ad N sh nL Q μ pc lv (.ref x :: st) :=
  fun H L ls a b h => lv_ifnonnull X.1.1 X.1.2.1 d ht (kk H L ls a b h)
theorem zr_ifnullN (X : zX p s m args meth c A D cl ad N nL K tys ow sh cc own ret) {off : Int} (tgt : Nat) (d : decode cc pc = .ok (.ifnull off, 3)) (ht : (pc : Int) + off = (tgt : Int)) (kk : zG p l e R s m args below meth c A D cl tc ad N sh nL Q μ tgt lv st) : zG p l e R s m args below meth c A D cl tc ad N sh nL Q μ pc lv (.null :: st) :=
  fun H L ls a b h => lv_ifnullN X.1.1 X.1.2.1 d ht (kk H L ls a b h)
theorem zr_ifnull (X : zX p s m args meth c A D cl ad N nL K tys ow sh cc own ret) {x : Nat} {off : Int} (d : decode cc pc = .ok (.ifnull off, 3)) (kk : zG p l e R s m args below meth c A D cl tc ad N sh nL Q μ (pc + 3) lv st) : zG p l e R s m args below meth c A D cl tc ad N sh nL Q μ pc lv (.ref x :: st) :=
  fun H L ls a b h => lv_ifnull X.1.1 X.1.2.1 d (kk H L ls a b h)
theorem zr_ifnonnullN (X : zX p s m args meth c A D cl ad N nL K tys ow sh cc own ret) {off : Int} (d : decode cc pc = .ok (.ifnonnull off, 3)) (kk : zG p l e R s m args below meth c A D cl tc ad N sh nL Q μ (pc + 3) lv st) : zG p l e R s m args below meth c A D cl tc ad N sh nL Q μ pc lv (.null :: st) :=
  fun H L ls a b h => lv_ifnonnullN X.1.1 X.1.2.1 d (kk H L ls a b h)
theorem zr_null (X : zX p s m args meth c A D cl ad N nL K tys ow sh cc own ret) (d : decode cc pc = .ok (.aconst_null, 1)) (kk : zG p l e R s m args below meth c A D cl tc ad N sh nL Q μ (pc + 1) lv (.null :: st)) : zG p l e R s m args below meth c A D cl tc ad N sh nL Q μ pc lv st :=
  fun H L ls a b h => lv_null X.1.1 X.1.2.1 d (kk H L ls a b h)
theorem zr_get (X : zX p s m args meth c A D cl ad N nL K tys ow sh cc own ret) {k q ci o index Nf : Nat} {C : String} {T : u_T} {fs : List Zf} (f : Zf) (v : Value) (d : decode cc pc = .ok (.getfield index, 3)) (hk : k < N) (hs : sh k = .inr (.inl (ci, o, fs))) (hc : cl[ci]? = some (C, T, Nf)) (hin : ∀ w ∈ u_ws C T Nf, w ∈ zT) (hq : q < Nf) (hf : fs[q]? = some f) (hv : zv ad μ o q f = v) (hd : (T q).1 = C) (hl : Cond.fieldLink own index C (T q).2.1 (T q).2.2.1 ∈ zT) (kk : zG p l e R s m args below meth c A D cl tc ad N sh nL Q μ (pc + 3) lv (v :: st)) : zG p l e R s m args below meth c A D cl tc ad N sh nL Q μ pc lv (.ref (ad k) :: st) := by
  intro H L ls a b h
  have hw := a k hk
  rw [hs] at hw
  refine va_get (D := D) (cl := cl) (tys := tys) (ws := [(ad k, .inr (ci, fs.mapIdx (zv ad μ o)))]) X.1.1 X.1.2.1 X.1.2.2.2.2 hin X.1.2.2.2.1 X.2.2.2.2.2.1 (zP1 hw) 0 rfl hc q hq (X.1.2.2.2.2 _ hl) (fun x hx => by rw [hd] at hx; exact hx) (v := v) ?_ d (kk H L ls a b h)
  rw [List.getElem?_mapIdx, hf, ← hv]
  rfl
theorem zr_put (X : zX p s m args meth c A D cl ad N nL K tys ow sh cc own ret) {k q ci o index Nf : Nat} {C : String} {T : u_T} {ty0 : Nat → FieldType} {ty : FieldType} {fs : List Zf} {x : Int32} (pl : Nat) (d : decode cc pc = .ok (.putfield index, 3)) (hk : k < N) (hs : sh k = .inr (.inl (ci, o, fs))) (hc : cl[ci]? = some (C, T, Nf)) (hin : ∀ w ∈ u_ws C T Nf, w ∈ zT) (hty0 : ∀ j, j < Nf → parseFieldDescriptor (T j).2.2.1 = some (ty0 j)) (hnm : ∀ i, i < Nf → ∀ j, j < Nf → i ≠ j → (T i).2.1 ≠ (T j).2.1) (hq : q < Nf) (hf : fs[q]? = some (some none)) (hd : (T q).1 = C) (hfin : (T q).2.2.2 = false) (hty : parseFieldDescriptor (T q).2.2.1 = some ty) (hn : narrow ty (.int x) = .int x) (hfit : fits ty (.int x) = true) (hl : Cond.fieldLink own index C (T q).2.1 (T q).2.2.1 ∈ zT) (hpl : o + q = pl) (kk : zG p l e R s m args below meth c A D cl tc ad N sh nL Q (upd μ pl x) (pc + 3) lv st) : zG p l e R s m args below meth c A D cl tc ad N sh nL Q μ pc lv (.int x :: .ref (ad k) :: st) := by
  intro H L ls a b h
  subst hpl
  have hts := X.1.2.2.2.2
  have hown := X.1.2.2.2.1
  have hK := X.2.2.2.2.2.1
  have hap := va_apart (own := own) (D := D) (cl := cl) (tys := tys) (s := s) (args := args) (Ts := zT) hts hin ty0 hty0 hnm hK hc
  have hw := a k hk
  rw [hs] at hw
  obtain ⟨r, h1, cell, q1, q2, q3, q4⟩ := hw
  have hr : r = (C, T, Nf) := Option.some.inj (h1.symm.trans hc)
  subst hr
  obtain ⟨hS, hfc, kC, hkC, hkind⟩ := hK.1 ci _ hc
  obtain ⟨cf, kf, fi, fd, hi, hsl⟩ := hS q hq
  have hlay := hts _ (hin _ (u_in_lay hq))
  unfold u_lay at hlay
  rw [if_neg (by rw [hfin]; decide)] at hlay
  have hst := (u_facts hfc hkC (u_lays hts hin hq) hi).1
  have h6 := u_store hfc hkC hkind hlay hi hty hn hfit
  refine W.putK X.1.1 X.1.2.1 (f := fd) ⟨hown, hts _ hl, ⟨_, _, _, by rw [← hd]; exact hi⟩, hst⟩ (by rw [q2]; exact h6) q1 q3 (by rw [hsl]; exact k2_hasslot (q4 q hq)) rfl rfl d fun H' e1 e2 e3 => ?_
  rw [hsl] at e1 ⊢
  refine kk H' _ ls (a.put X.2.2.2.1 hk e3 ?_ (zO.ne X.2.2.2.2.2.2.1 hk ?_)) (b.put e2 e3 (X.2.2.2.2.1 k hk)) h
  · rw [hs]
    refine ⟨_, hc, t_OB.to (V := updV (vp_V (fs.mapIdx (zv ad μ o))) q (.int x)) ⟨_, e1, q2, q3, t_set q4 hap hq (.int x)⟩ (fun j hj => ?_)⟩
    by_cases hjq : j = q
    · subst hjq
      simp [updV, vp_V, List.getElem?_mapIdx, hf, zv, pk_us]
    · simp only [updV, vp_V, if_neg hjq, List.getD_eq_getElem?_getD, List.getElem?_mapIdx]
      cases hfj : fs[j]? with
      | none => rfl
      | some g => exact zv_agree (fun _ => (pk_un (by omega)).symm)
  · rw [hs]
    exact ⟨by omega, by rw [Nat.add_sub_cancel_left]; exact hf⟩
theorem zr_iald (X : zX p s m args meth c A D cl ad N nL K tys ow sh cc own ret) {k t n o j : Nat} {i : Int32} (t0 : Nat) (v : Int32) (d : decode cc pc = .ok (.iaload, 1)) (hk : k < N) (hs : sh k = .inl (t, n, o)) (ht : tys[t0]? = some (tc t, .int)) (hi : i = nI j) (hj : j < n) (hn : n < 2 ^ 31) (hv : μ (o + j) = v) (kk : zG p l e R s m args below meth c A D cl tc ad N sh nL Q μ (pc + 1) lv (.int v :: st)) : zG p l e R s m args below meth c A D cl tc ad N sh nL Q μ pc lv (.int i :: .ref (ad k) :: st) := by
  intro H L ls a b h
  subst hi; subst hv
  have hw := a k hk
  rw [hs] at hw
  refine va_iald (D := D) (cl := cl) (ws := [(ad k, .inl (tc t, n, .inl (fun q => μ (o + q))))]) X.1.1 X.1.2.1 X.2.2.2.2.2.1 (zP1 hw) 0 t0 rfl ht (vp_in_nI hj hn) d ?_
  rw [nI_clamp (by omega)]
  exact kk H L ls a b h
theorem zr_cald (X : zX p s m args meth c A D cl ad N nL K tys ow sh cc own ret) {k t n o j : Nat} {i : Int32} (t0 : Nat) (v : Int32) (d : decode cc pc = .ok (.caload, 1)) (hk : k < N) (hs : sh k = .inl (t, n, o)) (ht : tys[t0]? = some (tc t, .char)) (hi : i = nI j) (hj : j < n) (hn : n < 2 ^ 31) (hv : μ (o + j) = v) (kk : zG p l e R s m args below meth c A D cl tc ad N sh nL Q μ (pc + 1) lv (.int v :: st)) : zG p l e R s m args below meth c A D cl tc ad N sh nL Q μ pc lv (.int i :: .ref (ad k) :: st) := by
  intro H L ls a b h
  subst hi; subst hv
  have hw := a k hk
  rw [hs] at hw
  refine va_cald (D := D) (cl := cl) (ws := [(ad k, .inl (tc t, n, .inl (fun q => μ (o + q))))]) X.1.1 X.1.2.1 X.2.2.2.2.2.1 (zP1 hw) 0 t0 rfl ht (vp_in_nI hj hn) d ?_
  rw [nI_clamp (by omega)]
  exact kk H L ls a b h
theorem zr_iast (X : zX p s m args meth c A D cl ad N nL K tys ow sh cc own ret) {k t n o j : Nat} {i x : Int32} (t0 pl : Nat) (d : decode cc pc = .ok (.iastore, 1)) (hk : k < N) (hs : sh k = .inl (t, n, o)) (ht : tys[t0]? = some (tc t, .int)) (hi : i = nI j) (hj : j < n) (hn : n < 2 ^ 31) (hpl : o + j = pl) (kk : zG p l e R s m args below meth c A D cl tc ad N sh nL Q (upd μ pl x) (pc + 1) lv st) : zG p l e R s m args below meth c A D cl tc ad N sh nL Q μ pc lv (.int x :: .int i :: .ref (ad k) :: st) := by
  intro H L ls a b h
  subst hi; subst hpl
  have hw : H[ad k]? = some (vp_cell (tc t) (n, .inl (fun q => μ (o + q)))) := by
    have := a k hk
    rw [hs] at this
    exact this
  have hjc : (nI j).toNatClampNeg = j := nI_clamp (by omega)
  refine W.iast X.1.1 X.1.2.1 hw ((X.2.2.2.2.2.1.2 t0 _ ht).1 n (fun q => .int (μ (o + q)))) (fun q => by cases q) (by show ¬ (nI j < 0 ∨ (arrV _ _ _).slots.size ≤ _); rw [arrV_size]; exact vp_in_nI hj hn) rfl rfl d fun H1 e1 z oq => ?_
  refine kk H1 _ ls (a.put X.2.2.2.1 hk oq ?_ (zO.ne X.2.2.2.2.2.2.1 hk ?_)) (b.put z oq (X.2.2.2.2.1 k hk)) h
  · rw [hs]
    show H1[ad k]? = some (vp_cell (tc t) (n, .inl (fun q => upd μ (o + j) x (o + q))))
    rw [e1, hjc]
    rw [vp_cell_i, vp_cell_i, arrV_store]
    congr 2
    funext q
    by_cases hq : q = j
    · subst hq
      simp [updV, upd]
    · simp [updV, upd, hq]
  · rw [hs]
    exact ⟨by omega, by omega⟩
theorem zr_cast (X : zX p s m args meth c A D cl ad N nL K tys ow sh cc own ret) {k t n o j : Nat} {i x : Int32} (t0 pl : Nat) (d : decode cc pc = .ok (.castore, 1)) (hk : k < N) (hs : sh k = .inl (t, n, o)) (ht : tys[t0]? = some (tc t, .char)) (hi : i = nI j) (hj : j < n) (hn : n < 2 ^ 31) (hna : narrow .char (.int x) = .int x) (hpl : o + j = pl) (kk : zG p l e R s m args below meth c A D cl tc ad N sh nL Q (upd μ pl x) (pc + 1) lv st) : zG p l e R s m args below meth c A D cl tc ad N sh nL Q μ pc lv (.int x :: .int i :: .ref (ad k) :: st) := by
  intro H L ls a b h
  subst hi; subst hpl
  have hw : H[ad k]? = some (vp_cell (tc t) (n, .inl (fun q => μ (o + q)))) := by
    have := a k hk
    rw [hs] at this
    exact this
  have hjc : (nI j).toNatClampNeg = j := nI_clamp (by omega)
  refine W.cast X.1.1 X.1.2.1 hw ((X.2.2.2.2.2.1.2 t0 _ ht).1 n (fun q => .int (μ (o + q)))) (fun q => by cases q) (by show ¬ (nI j < 0 ∨ (arrV _ _ _).slots.size ≤ _); rw [arrV_size]; exact vp_in_nI hj hn) rfl rfl d fun H1 e1 z oq => ?_
  refine kk H1 _ ls (a.put X.2.2.2.1 hk oq ?_ (zO.ne X.2.2.2.2.2.2.1 hk ?_)) (b.put z oq (X.2.2.2.2.1 k hk)) h
  · rw [hs]
    show H1[ad k]? = some (vp_cell (tc t) (n, .inl (fun q => upd μ (o + j) x (o + q))))
    rw [e1, hjc]
    rw [vp_cell_i, vp_cell_i, arrV_store]
    congr 2
    funext q
    by_cases hq : q = j
    · subst hq
      simp [updV, upd, hna]
    · simp [updV, upd, hq]
  · rw [hs]
    exact ⟨by omega, by omega⟩
theorem zr_aald (X : zX p s m args meth c A D cl ad N nL K tys ow sh cc own ret) {k t j : Nat} {ks : List (Option Nat)} {i : Int32} (t0 r : Nat) {C : String} (d : decode cc pc = .ok (.aaload, 1)) (hk : k < N) (hs : sh k = .inr (.inr (t, ks))) (ht : tys[t0]? = some (tc t, .object C)) (hi : i = nI j) (hn : ks.length < 2 ^ 31) (hr : ks[j]? = some (some r)) (kk : zG p l e R s m args below meth c A D cl tc ad N sh nL Q μ (pc + 1) lv (.ref (ad r) :: st)) : zG p l e R s m args below meth c A D cl tc ad N sh nL Q μ pc lv (.int i :: .ref (ad k) :: st) := by
  intro H L ls a b h
  subst hi
  have hw := a k hk
  rw [hs] at hw
  have hj : j < ks.length := (List.getElem?_eq_some_iff.mp hr).1
  refine va_aldq (D := D) (cl := cl) (ws := [(ad k, .inl (tc t, ks.length, .inr (.inr (.inr (.inr (fun j => (ks.getD j none).map ad))))))]) X.1.1 X.1.2.1 X.2.2.2.2.2.1 (zP1 hw) 0 t0 rfl ht (vp_in_nI hj hn) d ?_
  rw [nI_clamp (by omega), List.getD_eq_getElem?_getD, hr]
  exact kk H L ls a b h
theorem zr_alenI (X : zX p s m args meth c A D cl ad N nL K tys ow sh cc own ret) {k t n o : Nat} {ty : FieldType} (t0 : Nat) (v : Int32) (d : decode cc pc = .ok (.arraylength, 1)) (hk : k < N) (hs : sh k = .inl (t, n, o)) (ht : tys[t0]? = some (tc t, ty)) (hv : Int32.ofNat n = v) (kk : zG p l e R s m args below meth c A D cl tc ad N sh nL Q μ (pc + 1) lv (.int v :: st)) : zG p l e R s m args below meth c A D cl tc ad N sh nL Q μ pc lv (.ref (ad k) :: st) := by
  intro H L ls a b h
  have hw := a k hk
  rw [hs] at hw
  exact va_alen (D := D) (cl := cl) (ws := [(ad k, .inl (tc t, n, .inl (fun q => μ (o + q))))]) X.1.1 X.1.2.1 X.2.2.2.2.2.1 (zP1 hw) 0 t0 rfl ht hv d (kk H L ls a b h)
theorem zr_alenQ (X : zX p s m args meth c A D cl ad N nL K tys ow sh cc own ret) {k t : Nat} {ks : List (Option Nat)} {ty : FieldType} (t0 : Nat) (v : Int32) (d : decode cc pc = .ok (.arraylength, 1)) (hk : k < N) (hs : sh k = .inr (.inr (t, ks))) (ht : tys[t0]? = some (tc t, ty)) (hv : Int32.ofNat ks.length = v) (kk : zG p l e R s m args below meth c A D cl tc ad N sh nL Q μ (pc + 1) lv (.int v :: st)) : zG p l e R s m args below meth c A D cl tc ad N sh nL Q μ pc lv (.ref (ad k) :: st) := by
  intro H L ls a b h
  have hw := a k hk
  rw [hs] at hw
  exact va_alen (D := D) (cl := cl) (ws := [(ad k, .inl (tc t, ks.length, .inr (.inr (.inr (.inr (fun j => (ks.getD j none).map ad))))))]) X.1.1 X.1.2.1 X.2.2.2.2.2.1 (zP1 hw) 0 t0 rfl ht hv d (kk H L ls a b h)
theorem zr_mmax (X : zX p s m args meth c A D cl ad N nL K tys ow sh cc own ret) {index : Nat} {x y : Int32} (z : Int32) (d : decode cc pc = .ok (.invokestatic index, 3)) (hl : Cond.methodLink own index Lib.Math.max.name ∈ zT) (hst : Cond.static Lib.Math.max.name ∈ zT) (hini : Cond.initialized "java/lang/Math" ∈ zT) (hco : Cond.code Lib.Math.max.name Lib.Math.max.code 2 (some .int) ∈ zT) (hf : 1 ≤ R.frames) (hlo : (st.map fun v => v.category).sum + 13 ≤ R.locals) (hz : (if x < y then y else x) = z) (kk : zG p l e R s m args below meth c A D cl tc ad N sh nL Q μ (pc + 3) lv (.int z :: st)) : zG p l e R s m args below meth c A D cl tc ad N sh nL Q μ pc lv (.int y :: .int x :: st) := by
  intro H L ls a b h
  refine va_mmax X.1.1 X.1.2.1 (X.1.2.2.1.trans h.1.symm) X.1.2.2.2.1 (X.1.2.2.2.2 _ hl) (X.1.2.2.2.2 _ hst) (X.1.2.2.2.2 _ hini) (X.1.2.2.2.2 _ hco) hf hlo (Nat.zero_le _) (Nat.zero_le _) d ?_
  rw [hz]
  exact kk H L ls a b h
theorem zr_mmin (X : zX p s m args meth c A D cl ad N nL K tys ow sh cc own ret) {index : Nat} {x y : Int32} (z : Int32) (d : decode cc pc = .ok (.invokestatic index, 3)) (hl : Cond.methodLink own index Lib.Math.min.name ∈ zT) (hst : Cond.static Lib.Math.min.name ∈ zT) (hini : Cond.initialized "java/lang/Math" ∈ zT) (hco : Cond.code Lib.Math.min.name Lib.Math.min.code 2 (some .int) ∈ zT) (hf : 1 ≤ R.frames) (hlo : (st.map fun v => v.category).sum + 13 ≤ R.locals) (hz : (if y < x then y else x) = z) (kk : zG p l e R s m args below meth c A D cl tc ad N sh nL Q μ (pc + 3) lv (.int z :: st)) : zG p l e R s m args below meth c A D cl tc ad N sh nL Q μ pc lv (.int y :: .int x :: st) := by
  intro H L ls a b h
  refine va_mmin X.1.1 X.1.2.1 (X.1.2.2.1.trans h.1.symm) X.1.2.2.2.1 (X.1.2.2.2.2 _ hl) (X.1.2.2.2.2 _ hst) (X.1.2.2.2.2 _ hini) (X.1.2.2.2.2 _ hco) hf hlo (Nat.zero_le _) (Nat.zero_le _) d ?_
  rw [hz]
  exact kk H L ls a b h
end ZR
end
section
/-! CONTRACTS over the flat memory, the entry of a method, its ends, calls. -/
/-- what a kind of world-knowledge K bears: frames, warming, writes inside A; the classes are in it -/
def zKK (K : State → Heap → Prop) (A : Nat → Prop) (D : va_G) (cl : List vw_C) (tys : List (ClassId × FieldType)) : Prop :=
  (∀ (U : State) (g : JFrame) (mk : MethodId) (a : Array Value) (H : Heap), K U H → K (U.calling g mk a) H) ∧
  (∀ (U U' : State) (H H' : Heap), U.WarmedH U'.vm → H.size ≤ H'.size → (∀ q : Nat, q < H.size → ¬ A q → H'[q]? = H[q]?) → K U H → K U' H') ∧
  (∀ (U : State) (H : Heap), K U H → va_K D cl tys U)
def zPre (K : State → Heap → Prop) (D : va_G) (cl : List vw_C) (tc : Nat → ClassId) (ad : Nat → Nat) (N : Nat) (sh : Nat → ZS) (av : List Value) (μ : Nat → Int32) : Array Value → State → Prop := va_Pc av (fun U => zW D cl tc ad N sh μ U.heap ∧ K U U.heap)
theorem zPre_blind {K : State → Heap → Prop} {A : Nat → Prop} {D : va_G} {cl : List vw_C} {tys : List (ClassId × FieldType)} {tc : Nat → ClassId} {ad : Nat → Nat} {N : Nat} {sh : Nat → ZS} {av : List Value} {μ : Nat → Int32} (hK : zKK K A D cl tys) : FrameBlind (zPre K D cl tc ad N sh av μ) := by
  intro a U g mk h
  obtain ⟨h1, h2, h3⟩ := h
  exact ⟨h1, h2, hK.1 U g mk a _ h3⟩
def zMi (l : Launch) (y : MethodName) (cc : ByteArray) (nL : Nat) (ret : Option FieldType) (rm : Room) (K : State → Heap → Prop) (A : Nat → Prop) (D : va_G) (cl : List vw_C) (tc : Nat → ClassId) (ad : Nat → Nat) (N : Nat) (sh : Nat → ZS) (av : List Value) (μ : Nat → Int32) (post : Int32 → (Nat → Int32) → Prop) : Prop :=
  Met l y (Cond.code y cc nL ret :: zT) rm (zPre K D cl tc ad N sh av μ) (va_Qi post (fun u t => zW D cl tc ad N sh u t.heap) A) 0 0 A
def zMv (l : Launch) (y : MethodName) (cc : ByteArray) (nL : Nat) (rm : Room) (K : State → Heap → Prop) (A : Nat → Prop) (D : va_G) (cl : List vw_C) (tc : Nat → ClassId) (ad : Nat → Nat) (N : Nat) (sh : Nat → ZS) (av : List Value) (μ : Nat → Int32) (post : (Nat → Int32) → Prop) : Prop :=
  Met l y (Cond.code y cc nL none :: zT) rm (zPre K D cl tc ad N sh av μ) (va_Qv post (fun u t => zW D cl tc ad N sh u t.heap) A) 0 0 A
def zMq (l : Launch) (y : MethodName) (cc : ByteArray) (nL : Nat) (ret : Option FieldType) (rm : Room) (K : State → Heap → Prop) (A : Nat → Prop) (D : va_G) (cl : List vw_C) (tc : Nat → ClassId) (ad : Nat → Nat) (N : Nat) (sh : Nat → ZS) (av : List Value) (μ : Nat → Int32) (post : Option Nat → (Nat → Int32) → Prop) : Prop :=
  Met l y (Cond.code y cc nL ret :: zT) rm (zPre K D cl tc ad N sh av μ) (va_Qq post (fun u t => zW D cl tc ad N sh u t.heap) A) 0 0 A
theorem zM_of {l : Launch} {y : MethodName} {cc : ByteArray} {nL : Nat} {ret : Option FieldType} {rm : Room} {K : State → Heap → Prop} {A : Nat → Prop} {D : va_G} {cl : List vw_C} {tys : List (ClassId × FieldType)} {tc : Nat → ClassId} {ad : Nat → Nat} {N : Nat} {sh : Nat → ZS} {ow : Nat → Nat} {av : List Value} {μ : Nat → Int32} {Qc : Array Value → State → Outcome → State → Prop} (own : String) (lv : List (Nat × Value))
    (hK : zKK K A D cl tys) (inj : ∀ i j, i < N → j < N → ad i = ad j → i = j) (hA : ∀ k, k < N → A (ad k)) (hO : zO N sh ow) (hy : plainName y.cls = true) (ho : y.cls = own) (hlen : (lg_sl av).length ≤ nL) (hlv : lv_args 0 av = lv)
    (body : ∀ (p : Program) (e : Env) (s : State) (m : MethodId) (args : Array Value) (below : List Frame) (meth : Method) (c : Code), zX p s m args meth c A D cl ad N nL K tys ow sh cc own ret → zG p l e rm s m args below meth c A D cl tc ad N sh nL (MQ below Qc args s 0 0 A) μ 0 lv []) :
    Met l y (Cond.code y cc nL ret :: zT) rm (zPre K D cl tc ad N sh av μ) Qc 0 0 A := by
  refine Met.ofW (cc := cc) (maxL := nL) (ret := ret) hy rfl ?_
  intro p e s m args below meth c s₁ B hml hv
  obtain ⟨rfl, hW, hKs⟩ := hv
  have hts := atoms_spec (ws := Cond.code y cc nL ret :: zT) B.pre
  have hown : s.vm.findClass own = some m.cls := by rw [← ho]; exact findClass_of_methodNamed B.named
  have X : zX p s m av.toArray meth c A D cl ad N nL K tys ow sh cc own ret := ⟨⟨B.exec, B.bytes, hml, hown, fun w h => hts w (List.mem_cons_of_mem _ h)⟩, B.notSynchronized, B.returns, inj, hA, hK.2.2 _ _ hKs, hO, fun U H h1 h2 h3 => hK.2.1 s U s.heap H h1 h2 h3 hKs, hKs⟩
  have hl := lv_entry av (n := nL) hlen
  rw [lg_entry_eq]
  rw [hlv] at hl
  exact body p e s m av.toArray below meth c X s.heap [] _ hW va_S.rf hl
section ZE
variable {p : Program} {l : Launch} {e : Env} {R : Room} {s : State} {m : MethodId} {args : Array Value} {below : List Frame} {meth : Method} {c : Code} {A : Nat → Prop} {D : va_G} {cl : List vw_C} {tc : Nat → ClassId} {ad : Nat → Nat} {N : Nat} {sh : Nat → ZS} {nL : Nat} {Q : State → Prop} {μ : Nat → Int32} {pc : Nat} {lv : List (Nat × Value)} {st rest As : List Value}
variable {K : State → Heap → Prop} {tys : List (ClassId × FieldType)} {ow : Nat → Nat} {cc : ByteArray} {own : String} {ret : Option FieldType}
theorem zr_iret {v : Int32} {post : Int32 → (Nat → Int32) → Prop} (X : zX p s m args meth c A D cl ad N nL K tys ow sh cc own (some .int)) (d : decode cc pc = .ok (.ireturn, 1)) (hp : post v μ) : zG p l e R s m args below meth c A D cl tc ad N sh nL (MQ below (va_Qi post (fun u t => zW D cl tc ad N sh u t.heap) A) args s 0 0 A) μ pc lv [.int v] :=
  fun H L ls a b h => W.iret X.1.1 X.1.2.1 X.2.2.1 (fun t ht _ => ⟨⟨v, μ, rfl, hp, by show zW D cl tc ad N sh _ t.heap; rw [ht]; exact a⟩, b.F ht⟩) b.2.2 d (hlocks := X.2.1)
theorem zr_zret {v : Int32} {post : Int32 → (Nat → Int32) → Prop} (X : zX p s m args meth c A D cl ad N nL K tys ow sh cc own (some .boolean)) (d : decode cc pc = .ok (.ireturn, 1)) (hv : narrow .boolean (.int v) = .int v) (hp : post v μ) : zG p l e R s m args below meth c A D cl tc ad N sh nL (MQ below (va_Qi post (fun u t => zW D cl tc ad N sh u t.heap) A) args s 0 0 A) μ pc lv [.int v] :=
  fun H L ls a b h => W.zret X.1.1 X.1.2.1 X.2.2.1 hv (fun t ht _ => ⟨⟨v, μ, rfl, hp, by show zW D cl tc ad N sh _ t.heap; rw [ht]; exact a⟩, b.F ht⟩) b.2.2 d (hlocks := X.2.1)
theorem zr_vret {post : (Nat → Int32) → Prop} (X : zX p s m args meth c A D cl ad N nL K tys ow sh cc own none) (d : decode cc pc = .ok (.return_, 1)) (hp : post μ) : zG p l e R s m args below meth c A D cl tc ad N sh nL (MQ below (va_Qv post (fun u t => zW D cl tc ad N sh u t.heap) A) args s 0 0 A) μ pc lv [] :=
  fun H L ls a b h => W.vret X.1.1 X.1.2.1 X.2.2.1 (fun t ht _ => ⟨⟨μ, rfl, hp, by show zW D cl tc ad N sh _ t.heap; rw [ht]; exact a⟩, b.F ht⟩) b.2.2 d (hlocks := X.2.1)
theorem zr_aret {C : String} {v : Value} (r : Option Nat) {post : Option Nat → (Nat → Int32) → Prop} (X : zX p s m args meth c A D cl ad N nL K tys ow sh cc own (some (.object C))) (d : decode cc pc = .ok (.areturn, 1)) (hv : va_rf r = v) (hp : post r μ) : zG p l e R s m args below meth c A D cl tc ad N sh nL (MQ below (va_Qq post (fun u t => zW D cl tc ad N sh u t.heap) A) args s 0 0 A) μ pc lv [v] := by
  subst hv
  exact fun H L ls a b h => W.aret X.1.1 X.1.2.1 X.2.2.1 (Or.inl ⟨_, rfl⟩) (va_rf_or r) (fun t ht _ => ⟨⟨r, μ, rfl, hp, by show zW D cl tc ad N sh _ t.heap; rw [ht]; exact a⟩, b.F ht⟩) b.2.2 d (hlocks := X.2.1)
theorem zGoodV {index : Nat} {C : String} {y : MethodName} {bytes : ByteArray} {maxL : Nat} {r : Option FieldType} (h1 : Cond.methodLink own index y ∈ zT) (h2 : Cond.instanceMethod y ∈ zT) (h3 : Cond.selects C y y ∈ zT) (h4 : Cond.initialized C ∈ zT) (h5 : Cond.code y bytes maxL r ∈ zT) : GoodIn zT (wsV own index C y (Cond.code y bytes maxL r :: zT)) := by
  intro w hw
  have : w ∈ zT := by
    unfold wsV at hw
    simp only [List.cons_append, List.nil_append, List.mem_cons] at hw
    rcases hw with rfl | rfl | rfl | rfl | rfl | hw
    · exact h1
    · exact h2
    · exact h3
    · exact h4
    · exact h5
    · exact hw
  exact zT_good w this
theorem zGoodS {index : Nat} {y : MethodName} {bytes : ByteArray} {maxL : Nat} {r : Option FieldType} (h1 : Cond.methodLink own index y ∈ zT) (h2 : Cond.static y ∈ zT) (h4 : Cond.initialized own ∈ zT) (h5 : Cond.code y bytes maxL r ∈ zT) : GoodIn zT (wsS own index y (Cond.code y bytes maxL r :: zT)) := by
  intro w hw
  have : w ∈ zT := by
    unfold wsS at hw
    simp only [List.cons_append, List.nil_append, List.mem_cons] at hw
    rcases hw with rfl | rfl | rfl | rfl | hw
    · exact h1
    · exact h2
    · exact h4
    · exact h5
    · exact hw
  exact zT_good w this
theorem zGoodC {y : MethodName} {bytes : ByteArray} {maxL : Nat} {r : Option FieldType} (h5 : Cond.code y bytes maxL r ∈ zT) : GoodIn zT (Cond.code y bytes maxL r :: zT) := by
  intro w hw
  rcases List.mem_cons.mp hw with rfl | hw
  · exact zT_good _ h5
  · exact zT_good w hw
theorem zRun_V {Qc : Array Value → State → Outcome → State → Prop} {index maxL : Nat} {C : String} {y : MethodName} {bytes : ByteArray} {r : Option FieldType} {rm : Room} {k n ci o Nf : Nat} {T : u_T} {fs : List Zf} {H : Heap} {locs : List Loc} {ls : Array Slot}
    (X : zX p s m args meth c A D cl ad N nL K tys ow sh cc own ret) (hKK : zKK K A D cl tys) (hM : Met l y (Cond.code y bytes maxL r :: zT) rm (zPre K D cl tc ad N sh (.ref (ad k) :: As) μ) Qc 0 0 A) (h1 : Cond.methodLink own index y ∈ zT) (h2 : Cond.instanceMethod y ∈ zT) (h3 : Cond.selects C y y ∈ zT) (h4 : Cond.initialized C ∈ zT) (h5 : Cond.code y bytes maxL r ∈ zT)
    (hd : y.cls = C ∧ y.cls ≠ "java/lang/invoke/MethodHandle" ∧ y.cls ≠ "java/lang/invoke/VarHandle" ∧ (parseMethodDescriptor y.desc).map (fun d => d.parameters.length) = some n) (hrc : rm.cells = 0 ∧ rm.slots = 0) (hR : rm.frames + 1 ≤ R.frames ∧ 8 + (maxL + 11) + rm.locals ≤ R.locals) (hk : k < N) (hs : sh k = .inr (.inl (ci, o, fs))) (hc : cl[ci]? = some (C, T, Nf)) (hn : As.length = n) (hst : st = As.reverse ++ .ref (ad k) :: rest) (hroom : (rest.map fun v => v.category).sum ≤ 8) (d : decode cc pc = .ok (.invokevirtual index, 3))
    (a : zW D cl tc ad N sh μ H) (b : va_S A s.heap H locs) (h : lv_has ls nL lv) : va_Run p l e R s m args below meth c H locs 0 0 0 0 (F0 m pc ls st) rest (Qc (Value.ref (ad k) :: As).toArray) A := by
  have hw := a k hk
  rw [hs] at hw
  exact va_runV (As := As) (rest := rest) (b := ad k) (nL := nL) X.1 hM (cwV n X.1.2.2.2.2 (zGoodV h1 h2 h3 h4 h5) rfl hrc.1 hrc.2 hd hR) ⟨zPre_blind hKK, va_recv (ws := [(ad k, .inr (ci, fs.mapIdx (zv ad μ o)))]) X.2.2.2.2.2.1 (zP1 hw) (ci := ci) (q0 := 0) hc rfl, fun U hU hWm => ⟨rfl, by rw [hU]; exact a, by rw [hU]; exact X.2.2.2.2.2.2.2.1 U H hWm b.1 b.2.1⟩⟩ rfl hn h.1 hst (lv_room hroom) d ⟨Nat.zero_le _, Nat.zero_le _⟩
theorem zRun_S {Qc : Array Value → State → Outcome → State → Prop} {index maxL : Nat} {y : MethodName} {bytes : ByteArray} {r : Option FieldType} {rm : Room} {n : Nat} {H : Heap} {locs : List Loc} {ls : Array Slot}
    (X : zX p s m args meth c A D cl ad N nL K tys ow sh cc own ret) (hKK : zKK K A D cl tys) (hM : Met l y (Cond.code y bytes maxL r :: zT) rm (zPre K D cl tc ad N sh As μ) Qc 0 0 A) (h1 : Cond.methodLink own index y ∈ zT) (h2 : Cond.static y ∈ zT) (h4 : Cond.initialized own ∈ zT) (h5 : Cond.code y bytes maxL r ∈ zT)
    (hd : y.cls = own ∧ y.cls ≠ "java/lang/invoke/MethodHandle" ∧ y.cls ≠ "java/lang/invoke/VarHandle" ∧ (parseMethodDescriptor y.desc).map (fun d => d.parameters.length) = some n) (hrc : rm.cells = 0 ∧ rm.slots = 0) (hR : rm.frames + 1 ≤ R.frames ∧ 8 + (maxL + 11) + rm.locals ≤ R.locals) (hn : As.length = n) (hst : st = As.reverse ++ rest) (hroom : (rest.map fun v => v.category).sum ≤ 8) (d : decode cc pc = .ok (.invokestatic index, 3))
    (a : zW D cl tc ad N sh μ H) (b : va_S A s.heap H locs) (h : lv_has ls nL lv) : va_Run p l e R s m args below meth c H locs 0 0 0 0 (F0 m pc ls st) rest (Qc As.toArray) A :=
  va_runS (As := As) (rest := rest) (nL := nL) X.1 hM (cwS n X.1.2.2.2.2 (zGoodS h1 h2 h4 h5) rfl hrc.1 hrc.2 hd hR) ⟨zPre_blind hKK, fun U hU hWm => ⟨rfl, by rw [hU]; exact a, by rw [hU]; exact X.2.2.2.2.2.2.2.1 U H hWm b.1 b.2.1⟩⟩ rfl hn h.1 hst (lv_room hroom) d ⟨Nat.zero_le _, Nat.zero_le _⟩
theorem zRun_N {Qc : Array Value → State → Outcome → State → Prop} {index maxL : Nat} {host : String} {y : MethodName} {bytes : ByteArray} {r : Option FieldType} {rm : Room} {n : Nat} {H : Heap} {locs : List Loc} {ls : Array Slot}
    (X : zX p s m args meth c A D cl ad N nL K tys ow sh cc own ret) (hKK : zKK K A D cl tys) (hM : Met l y (Cond.code y bytes maxL r :: zT) rm (zPre K D cl tc ad N sh As μ) Qc 0 0 A) (h1 : va_Nw (.methodLinkNest own index y host) s) (h2 : Cond.static y ∈ zT) (h4 : Cond.initialized y.cls ∈ zT) (h5 : Cond.code y bytes maxL r ∈ zT)
    (hd : y.cls ≠ "java/lang/invoke/MethodHandle" ∧ y.cls ≠ "java/lang/invoke/VarHandle" ∧ (parseMethodDescriptor y.desc).map (fun d => d.parameters.length) = some n) (hrc : rm.cells = 0 ∧ rm.slots = 0) (hR : rm.frames + 1 ≤ R.frames ∧ 8 + (maxL + 11) + rm.locals ≤ R.locals) (hn : As.length = n) (hst : st = As.reverse ++ rest) (hroom : (rest.map fun v => v.category).sum ≤ 8) (d : decode cc pc = .ok (.invokestatic index, 3))
    (a : zW D cl tc ad N sh μ H) (b : va_S A s.heap H locs) (h : lv_has ls nL lv) : va_Run p l e R s m args below meth c H locs 0 0 0 0 (F0 m pc ls st) rest (Qc As.toArray) A :=
  va_runSN (As := As) (rest := rest) (nL := nL) X.1 hM ⟨va_cnB n X.1.2.2.2.2 (zGoodC h5) rfl hrc.1 hrc.2 h1 (X.1.2.2.2.2 _ h4) hd hR, X.1.2.2.2.2 _ h2, trivial⟩ ⟨zPre_blind hKK, fun U hU hWm => ⟨rfl, by rw [hU]; exact a, by rw [hU]; exact X.2.2.2.2.2.2.2.1 U H hWm b.1 b.2.1⟩⟩ rfl hn h.1 hst (lv_room hroom) d ⟨Nat.zero_le _, Nat.zero_le _⟩
theorem zr_cVi {post : Int32 → (Nat → Int32) → Prop} {r : Option FieldType} {index maxL : Nat} {C : String} {y : MethodName} {bytes : ByteArray} {rm : Room} {k n ci o Nf : Nat} {T : u_T} {fs : List Zf} (As rest : List Value)
    (X : zX p s m args meth c A D cl ad N nL K tys ow sh cc own ret) (hKK : zKK K A D cl tys) (hM : zMi l y bytes maxL r rm K A D cl tc ad N sh (.ref (ad k) :: As) μ post) (h1 : Cond.methodLink own index y ∈ zT) (h2 : Cond.instanceMethod y ∈ zT) (h3 : Cond.selects C y y ∈ zT) (h4 : Cond.initialized C ∈ zT) (h5 : Cond.code y bytes maxL r ∈ zT)
    (hd : y.cls = C ∧ y.cls ≠ "java/lang/invoke/MethodHandle" ∧ y.cls ≠ "java/lang/invoke/VarHandle" ∧ (parseMethodDescriptor y.desc).map (fun d => d.parameters.length) = some n) (hrc : rm.cells = 0 ∧ rm.slots = 0) (hR : rm.frames + 1 ≤ R.frames ∧ 8 + (maxL + 11) + rm.locals ≤ R.locals) (hk : k < N) (hs : sh k = .inr (.inl (ci, o, fs))) (hc : cl[ci]? = some (C, T, Nf)) (hn : As.length = n) (hst : st = As.reverse ++ .ref (ad k) :: rest) (hroom : (rest.map fun v => v.category).sum ≤ 8) (d : decode cc pc = .ok (.invokevirtual index, 3))
    (kk : ∀ (z : Int32) (u : Nat → Int32), post z u → zG p l e R s m args below meth c A D cl tc ad N sh nL Q u (pc + 3) lv (.int z :: rest)) : zG p l e R s m args below meth c A D cl tc ad N sh nL Q μ pc lv st := fun H L ls a b h =>
  va_calli (zRun_V X hKK hM h1 h2 h3 h4 h5 hd hrc hR hk hs hc hn hst hroom d a b h) b (fun _ _ h => h) (fun _ h => h) (fun z u t H1 L1 ht _ hp hB _ _ hS => kk z u hp H1 L1 ls (by rw [← ht]; exact hB) hS h)
theorem zr_cVv {post : (Nat → Int32) → Prop} {index maxL : Nat} {C : String} {y : MethodName} {bytes : ByteArray} {rm : Room} {k n ci o Nf : Nat} {T : u_T} {fs : List Zf} (As rest : List Value)
    (X : zX p s m args meth c A D cl ad N nL K tys ow sh cc own ret) (hKK : zKK K A D cl tys) (hM : zMv l y bytes maxL rm K A D cl tc ad N sh (.ref (ad k) :: As) μ post) (h1 : Cond.methodLink own index y ∈ zT) (h2 : Cond.instanceMethod y ∈ zT) (h3 : Cond.selects C y y ∈ zT) (h4 : Cond.initialized C ∈ zT) (h5 : Cond.code y bytes maxL none ∈ zT)
    (hd : y.cls = C ∧ y.cls ≠ "java/lang/invoke/MethodHandle" ∧ y.cls ≠ "java/lang/invoke/VarHandle" ∧ (parseMethodDescriptor y.desc).map (fun d => d.parameters.length) = some n) (hrc : rm.cells = 0 ∧ rm.slots = 0) (hR : rm.frames + 1 ≤ R.frames ∧ 8 + (maxL + 11) + rm.locals ≤ R.locals) (hk : k < N) (hs : sh k = .inr (.inl (ci, o, fs))) (hc : cl[ci]? = some (C, T, Nf)) (hn : As.length = n) (hst : st = As.reverse ++ .ref (ad k) :: rest) (hroom : (rest.map fun v => v.category).sum ≤ 8) (d : decode cc pc = .ok (.invokevirtual index, 3))
    (kk : ∀ (u : Nat → Int32), post u → zG p l e R s m args below meth c A D cl tc ad N sh nL Q u (pc + 3) lv rest) : zG p l e R s m args below meth c A D cl tc ad N sh nL Q μ pc lv st := fun H L ls a b h =>
  va_callv (zRun_V X hKK hM h1 h2 h3 h4 h5 hd hrc hR hk hs hc hn hst hroom d a b h) b (fun _ _ h => h) (fun _ h => h) (fun u t H1 L1 ht _ hp hB _ _ hS => kk u hp H1 L1 ls (by rw [← ht]; exact hB) hS h)
theorem zr_cVq {post : Option Nat → (Nat → Int32) → Prop} {r : Option FieldType} {index maxL : Nat} {C : String} {y : MethodName} {bytes : ByteArray} {rm : Room} {k n ci o Nf : Nat} {T : u_T} {fs : List Zf} (As rest : List Value)
    (X : zX p s m args meth c A D cl ad N nL K tys ow sh cc own ret) (hKK : zKK K A D cl tys) (hM : zMq l y bytes maxL r rm K A D cl tc ad N sh (.ref (ad k) :: As) μ post) (h1 : Cond.methodLink own index y ∈ zT) (h2 : Cond.instanceMethod y ∈ zT) (h3 : Cond.selects C y y ∈ zT) (h4 : Cond.initialized C ∈ zT) (h5 : Cond.code y bytes maxL r ∈ zT)
    (hd : y.cls = C ∧ y.cls ≠ "java/lang/invoke/MethodHandle" ∧ y.cls ≠ "java/lang/invoke/VarHandle" ∧ (parseMethodDescriptor y.desc).map (fun d => d.parameters.length) = some n) (hrc : rm.cells = 0 ∧ rm.slots = 0) (hR : rm.frames + 1 ≤ R.frames ∧ 8 + (maxL + 11) + rm.locals ≤ R.locals) (hk : k < N) (hs : sh k = .inr (.inl (ci, o, fs))) (hc : cl[ci]? = some (C, T, Nf)) (hn : As.length = n) (hst : st = As.reverse ++ .ref (ad k) :: rest) (hroom : (rest.map fun v => v.category).sum ≤ 8) (d : decode cc pc = .ok (.invokevirtual index, 3))
    (kk : ∀ (z : Option Nat) (u : Nat → Int32), post z u → zG p l e R s m args below meth c A D cl tc ad N sh nL Q u (pc + 3) lv (va_rf z :: rest)) : zG p l e R s m args below meth c A D cl tc ad N sh nL Q μ pc lv st := fun H L ls a b h =>
  va_callq (zRun_V X hKK hM h1 h2 h3 h4 h5 hd hrc hR hk hs hc hn hst hroom d a b h) b (fun _ _ h => h) (fun _ h => h) (fun z u t H1 L1 ht _ hp hB _ _ hS => kk z u hp H1 L1 ls (by rw [← ht]; exact hB) hS h)
theorem zr_cSi {post : Int32 → (Nat → Int32) → Prop} {r : Option FieldType} {index maxL : Nat} {y : MethodName} {bytes : ByteArray} {rm : Room} {n : Nat} (As rest : List Value)
    (X : zX p s m args meth c A D cl ad N nL K tys ow sh cc own ret) (hKK : zKK K A D cl tys) (hM : zMi l y bytes maxL r rm K A D cl tc ad N sh As μ post) (h1 : Cond.methodLink own index y ∈ zT) (h2 : Cond.static y ∈ zT) (h4 : Cond.initialized own ∈ zT) (h5 : Cond.code y bytes maxL r ∈ zT)
    (hd : y.cls = own ∧ y.cls ≠ "java/lang/invoke/MethodHandle" ∧ y.cls ≠ "java/lang/invoke/VarHandle" ∧ (parseMethodDescriptor y.desc).map (fun d => d.parameters.length) = some n) (hrc : rm.cells = 0 ∧ rm.slots = 0) (hR : rm.frames + 1 ≤ R.frames ∧ 8 + (maxL + 11) + rm.locals ≤ R.locals) (hn : As.length = n) (hst : st = As.reverse ++ rest) (hroom : (rest.map fun v => v.category).sum ≤ 8) (d : decode cc pc = .ok (.invokestatic index, 3))
    (kk : ∀ (z : Int32) (u : Nat → Int32), post z u → zG p l e R s m args below meth c A D cl tc ad N sh nL Q u (pc + 3) lv (.int z :: rest)) : zG p l e R s m args below meth c A D cl tc ad N sh nL Q μ pc lv st := fun H L ls a b h =>
  va_calli (zRun_S X hKK hM h1 h2 h4 h5 hd hrc hR hn hst hroom d a b h) b (fun _ _ h => h) (fun _ h => h) (fun z u t H1 L1 ht _ hp hB _ _ hS => kk z u hp H1 L1 ls (by rw [← ht]; exact hB) hS h)
theorem zr_cNi {post : Int32 → (Nat → Int32) → Prop} {r : Option FieldType} {index maxL : Nat} {host : String} {y : MethodName} {bytes : ByteArray} {rm : Room} {n : Nat} (As rest : List Value)
    (X : zX p s m args meth c A D cl ad N nL K tys ow sh cc own ret) (hKK : zKK K A D cl tys) (hM : zMi l y bytes maxL r rm K A D cl tc ad N sh As μ post) (h1 : va_Nw (.methodLinkNest own index y host) s) (h2 : Cond.static y ∈ zT) (h4 : Cond.initialized y.cls ∈ zT) (h5 : Cond.code y bytes maxL r ∈ zT)
    (hd : y.cls ≠ "java/lang/invoke/MethodHandle" ∧ y.cls ≠ "java/lang/invoke/VarHandle" ∧ (parseMethodDescriptor y.desc).map (fun d => d.parameters.length) = some n) (hrc : rm.cells = 0 ∧ rm.slots = 0) (hR : rm.frames + 1 ≤ R.frames ∧ 8 + (maxL + 11) + rm.locals ≤ R.locals) (hn : As.length = n) (hst : st = As.reverse ++ rest) (hroom : (rest.map fun v => v.category).sum ≤ 8) (d : decode cc pc = .ok (.invokestatic index, 3))
    (kk : ∀ (z : Int32) (u : Nat → Int32), post z u → zG p l e R s m args below meth c A D cl tc ad N sh nL Q u (pc + 3) lv (.int z :: rest)) : zG p l e R s m args below meth c A D cl tc ad N sh nL Q μ pc lv st := fun H L ls a b h =>
  va_calli (zRun_N X hKK hM h1 h2 h4 h5 hd hrc hR hn hst hroom d a b h) b (fun _ _ h => h) (fun _ h => h) (fun z u t H1 L1 ht _ hp hB _ _ hS => kk z u hp H1 L1 ls (by rw [← ht]; exact hB) hS h)
theorem zr_cSv {post : (Nat → Int32) → Prop} {index maxL : Nat} {y : MethodName} {bytes : ByteArray} {rm : Room} {n : Nat} (As rest : List Value)
    (X : zX p s m args meth c A D cl ad N nL K tys ow sh cc own ret) (hKK : zKK K A D cl tys) (hM : zMv l y bytes maxL rm K A D cl tc ad N sh As μ post) (h1 : Cond.methodLink own index y ∈ zT) (h2 : Cond.static y ∈ zT) (h4 : Cond.initialized own ∈ zT) (h5 : Cond.code y bytes maxL none ∈ zT)
    (hd : y.cls = own ∧ y.cls ≠ "java/lang/invoke/MethodHandle" ∧ y.cls ≠ "java/lang/invoke/VarHandle" ∧ (parseMethodDescriptor y.desc).map (fun d => d.parameters.length) = some n) (hrc : rm.cells = 0 ∧ rm.slots = 0) (hR : rm.frames + 1 ≤ R.frames ∧ 8 + (maxL + 11) + rm.locals ≤ R.locals) (hn : As.length = n) (hst : st = As.reverse ++ rest) (hroom : (rest.map fun v => v.category).sum ≤ 8) (d : decode cc pc = .ok (.invokestatic index, 3))
    (kk : ∀ (u : Nat → Int32), post u → zG p l e R s m args below meth c A D cl tc ad N sh nL Q u (pc + 3) lv rest) : zG p l e R s m args below meth c A D cl tc ad N sh nL Q μ pc lv st := fun H L ls a b h =>
  va_callv (zRun_S X hKK hM h1 h2 h4 h5 hd hrc hR hn hst hroom d a b h) b (fun _ _ h => h) (fun _ h => h) (fun u t H1 L1 ht _ hp hB _ _ hS => kk u hp H1 L1 ls (by rw [← ht]; exact hB) hS h)
theorem zr_cNv {post : (Nat → Int32) → Prop} {index maxL : Nat} {host : String} {y : MethodName} {bytes : ByteArray} {rm : Room} {n : Nat} (As rest : List Value)
    (X : zX p s m args meth c A D cl ad N nL K tys ow sh cc own ret) (hKK : zKK K A D cl tys) (hM : zMv l y bytes maxL rm K A D cl tc ad N sh As μ post) (h1 : va_Nw (.methodLinkNest own index y host) s) (h2 : Cond.static y ∈ zT) (h4 : Cond.initialized y.cls ∈ zT) (h5 : Cond.code y bytes maxL none ∈ zT)
    (hd : y.cls ≠ "java/lang/invoke/MethodHandle" ∧ y.cls ≠ "java/lang/invoke/VarHandle" ∧ (parseMethodDescriptor y.desc).map (fun d => d.parameters.length) = some n) (hrc : rm.cells = 0 ∧ rm.slots = 0) (hR : rm.frames + 1 ≤ R.frames ∧ 8 + (maxL + 11) + rm.locals ≤ R.locals) (hn : As.length = n) (hst : st = As.reverse ++ rest) (hroom : (rest.map fun v => v.category).sum ≤ 8) (d : decode cc pc = .ok (.invokestatic index, 3))
    (kk : ∀ (u : Nat → Int32), post u → zG p l e R s m args below meth c A D cl tc ad N sh nL Q u (pc + 3) lv rest) : zG p l e R s m args below meth c A D cl tc ad N sh nL Q μ pc lv st := fun H L ls a b h =>
  va_callv (zRun_N X hKK hM h1 h2 h4 h5 hd hrc hR hn hst hroom d a b h) b (fun _ _ h => h) (fun _ h => h) (fun u t H1 L1 ht _ hp hB _ _ hS => kk u hp H1 L1 ls (by rw [← ht]; exact hB) hS h)
end ZE
end
section
/-! THE TWO WORLDS: the class (299 cells, cell 0 its object) and the reference (6 cells, cell 0 its object) -/
abbrev zTY (tc : Nat → ClassId) : List (ClassId × FieldType) := [(tc 0, .int), (tc 1, .char), (tc 2, .object "AllowanceBook$Firm"), (tc 3, .object "AllowanceBook$State")]
def zfS (l : List Int32) : Nat → Value := fun j => .int (l.getD j 0)
/-- what a method may know of the world besides the cells: classes, links between nest mates, the static arrays -/
def zK (A : Nat → Prop) (D : va_G) (tc : Nat → ClassId) (tF tL tM : Nat) (U : State) (H : Heap) : Prop :=
  va_K D vwCl (zTY tc) U ∧ va_Nw (.methodLinkNest RX1 22 yX5_copyState RX5) U ∧ va_Nw (.methodLinkNest RX2 59 yX5_isVintage RX5) U ∧ va_Nw (.methodLinkNest RX2 63 yX5_isTonnes RX5) U ∧ va_Nw (.fieldLinkNest RX2 9 RX5 "FIRST_SETTINGS" "[I" RX5) U ∧
  va_Z RX5 "FIRST_SETTINGS" "[I" (.ref tF) A U H ∧ va_T .int tF 5 (zfS [20, 10, 5, 3, 50]) A U H ∧
  va_Z RX5 "LEAST_SETTINGS" "[I" (.ref tL) A U H ∧ va_T .int tL 5 (zfS [0, 0, 0, 1, 0]) A U H ∧
  va_Z RX5 "MOST_SETTINGS" "[I" (.ref tM) A U H ∧ va_T .int tM 5 (zfS [100, 100, 100, 5, 99]) A U H
theorem zK_ok (A : Nat → Prop) (D : va_G) (tc : Nat → ClassId) (tF tL tM : Nat) : zKK (zK A D tc tF tL tM) A D vwCl (zTY tc) := by
  refine ⟨fun U g mk a H h => ?_, fun U U' H H' hW _ hq h => ?_, fun U H h => h.1⟩
  · obtain ⟨h1, h2, h3, h4, h5, h6, h7, h8, h9, h10, h11⟩ := h
    have e : U.vm.Alike (U.calling g mk a).vm := Vm.Alike.refl U.vm
    exact ⟨h1.moved e, h2.same rfl rfl, h3.same rfl rfl, h4.same rfl rfl, h5.same rfl rfl, h6.moved e, h7.moved e, h8.moved e, h9.moved e, h10.moved e, h11.moved e⟩
  · obtain ⟨h1, h2, h3, h4, h5, h6, h7, h8, h9, h10, h11⟩ := h
    have e := hW.alike
    exact ⟨h1.moved e, va_Nw.warmM hW h2, va_Nw.warmM hW h3, va_Nw.warmM hW h4, va_Nw.warmF hW h5, (h6.moved e).kept hq, (h7.moved e).kept hq, (h8.moved e).kept hq, (h9.moved e).kept hq, (h10.moved e).kept hq, (h11.moved e).kept hq⟩
def zrm (d : Nat) : Room := { frames := d, cells := 0, slots := 0, locals := 30 * d }
/-- the addresses of N cells: apart, and among those that may be written -/
def zN (N : Nat) (A : Nat → Prop) (ad : Nat → Nat) : Prop := (∀ i j, i < N → j < N → ad i = ad j → i = j) ∧ ∀ k, k < N → A (ad k)
/-! the reference -/
abbrev zI : Zf := some none
abbrev zR (k : Nat) : Zf := some (some k)
def shR (k : Nat) : ZS := match k with
  | 0 => .inr (.inl (6, 2443, [zR 1, zI, zI, zR 2, zI, zR 3, zR 4, zI, zI, zI, zR 5]))
  | 1 => .inl (0, 2443, 0)
  | 2 => .inl (0, 60, 2460)
  | 3 => .inl (0, 20, 2520)
  | 4 => .inl (0, 3, 2540)
  | _ => .inl (0, 4, 2543)
def owR (p : Nat) : Nat := if p < 2443 then 1 else if p < 2460 then 0 else if p < 2520 then 2 else if p < 2540 then 3 else if p < 2543 then 4 else 5
theorem zO_obj {o p : Nat} {fs : List Zf} (h : o ≤ p ∧ fs[p - o]? = some (some none)) : o ≤ p ∧ p < o + fs.length := by
  have := (List.getElem?_eq_some_iff.mp h.2).1
  omega
theorem owR_ok : zO 6 shR owR := by
  intro k hk p hp
  match k, hk, hp with
  | 0, _, hp => have := zO_obj hp; simp only [List.length] at this; unfold owR; split <;> (try split) <;> (try split) <;> (try split) <;> (try split) <;> omega
  | 1, _, hp => have := hp; simp only [zL, shR] at this; unfold owR; split <;> (try split) <;> (try split) <;> (try split) <;> (try split) <;> omega
  | 2, _, hp => have := hp; simp only [zL, shR] at this; unfold owR; split <;> (try split) <;> (try split) <;> (try split) <;> (try split) <;> omega
  | 3, _, hp => have := hp; simp only [zL, shR] at this; unfold owR; split <;> (try split) <;> (try split) <;> (try split) <;> (try split) <;> omega
  | 4, _, hp => have := hp; simp only [zL, shR] at this; unfold owR; split <;> (try split) <;> (try split) <;> (try split) <;> (try split) <;> omega
  | 5, _, hp => have := hp; simp only [zL, shR] at this; unfold owR; split <;> (try split) <;> (try split) <;> (try split) <;> (try split) <;> omega
  | k + 6, hk, _ => omega
theorem zinc (i : Nat) : nI i + Int32.ofInt 1 = nI (i + 1) := by
  rw [show Int32.ofInt 1 = 1 from rfl]; exact nI_1 i
theorem zdec (i : Nat) : nI (i + 1) + Int32.ofInt (-1) = nI i := by
  rw [show Int32.ofInt (-1) = -1 from rfl]; exact pk_m1 i
/-- a loop that counts up, walked backward: its end first -/
theorem z_for (n : Nat) (G : Nat → Prop) (hx : G n) (hs : ∀ i, i < n → G (i + 1) → G i) : G 0 := by
  have : ∀ d i, i + d = n → G i := by
    intro d
    induction d with
    | zero => intro i h; have : i = n := by omega
              subst this; exact hx
    | succ d ih => intro i h; exact hs i (by omega) (ih (i + 1) (by omega))
  exact this n 0 (by omega)
theorem z_forFrom (b n : Nat) (G : Nat → Prop) (hb : b ≤ n) (hx : G n) (hs : ∀ i, b ≤ i → i < n → G (i + 1) → G i) : G b := by
  have : ∀ d i, b ≤ i → i + d = n → G i := by
    intro d
    induction d with
    | zero => intro i _ h; have : i = n := by omega
              subst this; exact hx
    | succ d ih => intro i hi h; exact hs i hi (by omega) (ih (i + 1) (by omega) (by omega))
  exact this (n - b) b (Nat.le_refl _) (by omega)
end
section
/-! small facts; calls whose answer and memory are known; a row for each method: its parameters -/
theorem zcg {M : Nat → Int32} {a b : Nat} {v : Int32} (h : a = b) (h2 : M b = v) : M a = v := by rw [h]; exact h2
theorem zincn (i k : Nat) : nI i + Int32.ofInt k = nI (i + k) := by
  rw [← nI_add]; rfl
theorem zq_le {a b : Nat} (h : a ≤ b) (hb : b < 2 ^ 31) : nI a ≤ nI b := nI_le h hb
theorem zq_eq {a b : Nat} (h : a = b) : nI a = nI b := congrArg nI h
theorem zq_ne {a b : Nat} (h : a ≠ b) (ha : a < 2 ^ 31) (hb : b < 2 ^ 31) : ¬ nI a = nI b := fun q => h ((nI_eq ha hb).mp q)
theorem zq_gt0 {n : Nat} (h0 : 0 < n) (h : n < 2 ^ 31) : 0 < nI n := by rw [← nI_0]; exact nI_lt h0 h
theorem zq_ngt0 {n : Nat} (h0 : n = 0) : ¬ 0 < nI n := by subst h0; decide +kernel
theorem zq_le0 {n : Nat} (h0 : n = 0) : nI n ≤ 0 := by subst h0; decide +kernel
theorem zq_eq0 {n : Nat} (h0 : n = 0) : nI n = 0 := by subst h0; rfl
def zmin (a b : Int32) : Int32 := if a < b then a else b
def zmax (a b : Int32) : Int32 := if a < b then b else a
theorem zmax_eq (x y : Int32) : (if x < y then y else x) = zmax x y := rfl
theorem zmin_eq (x y : Int32) : (if y < x then y else x) = zmin x y := by
  unfold zmin
  by_cases h : x < y
  · rw [if_pos h, if_neg (fun q => by rw [Int32.lt_iff_toInt_lt] at h q; omega)]
  · rw [if_neg h]
    by_cases h2 : y < x
    · rw [if_pos h2]
    · rw [if_neg h2]
      apply Int32.toInt_inj.mp
      rw [Int32.lt_iff_toInt_lt] at h h2
      omega
section ZD
variable {p : Program} {l : Launch} {e : Env} {R : Room} {s : State} {m : MethodId} {args : Array Value} {below : List Frame} {meth : Method} {c : Code} {A : Nat → Prop} {D : va_G} {cl : List vw_C} {tc : Nat → ClassId} {ad : Nat → Nat} {N : Nat} {sh : Nat → ZS} {nL : Nat} {Q : State → Prop} {μ : Nat → Int32} {pc : Nat} {lv : List (Nat × Value)} {st : List Value}
variable {K : State → Heap → Prop} {tys : List (ClassId × FieldType)} {ow : Nat → Nat} {cc : ByteArray} {own : String} {ret : Option FieldType}
theorem zr_dVi {z : Int32} {μ1 : Nat → Int32} {r : Option FieldType} {index maxL : Nat} {C : String} {y : MethodName} {bytes : ByteArray} {rm : Room} {k n ci o Nf : Nat} {T : u_T} {fs : List Zf} (As rest : List Value)
    (X : zX p s m args meth c A D cl ad N nL K tys ow sh cc own ret) (hKK : zKK K A D cl tys) (hM : zMi l y bytes maxL r rm K A D cl tc ad N sh (.ref (ad k) :: As) μ (fun r u => r = z ∧ u = μ1)) (h1 : Cond.methodLink own index y ∈ zT) (h2 : Cond.instanceMethod y ∈ zT) (h3 : Cond.selects C y y ∈ zT) (h4 : Cond.initialized C ∈ zT) (h5 : Cond.code y bytes maxL r ∈ zT)
    (hd : y.cls = C ∧ y.cls ≠ "java/lang/invoke/MethodHandle" ∧ y.cls ≠ "java/lang/invoke/VarHandle" ∧ (parseMethodDescriptor y.desc).map (fun d => d.parameters.length) = some n) (hrc : rm.cells = 0 ∧ rm.slots = 0) (hR : rm.frames + 1 ≤ R.frames ∧ 8 + (maxL + 11) + rm.locals ≤ R.locals) (hk : k < N) (hs : sh k = .inr (.inl (ci, o, fs))) (hc : cl[ci]? = some (C, T, Nf)) (hn : As.length = n) (hst : st = As.reverse ++ .ref (ad k) :: rest) (hroom : (rest.map fun v => v.category).sum ≤ 8) (d : decode cc pc = .ok (.invokevirtual index, 3)) (kk : zG p l e R s m args below meth c A D cl tc ad N sh nL Q μ1 (pc + 3) lv (.int z :: rest)) : zG p l e R s m args below meth c A D cl tc ad N sh nL Q μ pc lv st :=
  zr_cVi As rest X hKK hM h1 h2 h3 h4 h5 hd hrc hR hk hs hc hn hst hroom d (fun z1 u q => by obtain ⟨q1, q2⟩ := q; subst q1; subst q2; exact kk)
theorem zr_dVv {μ1 : Nat → Int32} {index maxL : Nat} {C : String} {y : MethodName} {bytes : ByteArray} {rm : Room} {k n ci o Nf : Nat} {T : u_T} {fs : List Zf} (As rest : List Value)
    (X : zX p s m args meth c A D cl ad N nL K tys ow sh cc own ret) (hKK : zKK K A D cl tys) (hM : zMv l y bytes maxL rm K A D cl tc ad N sh (.ref (ad k) :: As) μ (fun u => u = μ1)) (h1 : Cond.methodLink own index y ∈ zT) (h2 : Cond.instanceMethod y ∈ zT) (h3 : Cond.selects C y y ∈ zT) (h4 : Cond.initialized C ∈ zT) (h5 : Cond.code y bytes maxL none ∈ zT)
    (hd : y.cls = C ∧ y.cls ≠ "java/lang/invoke/MethodHandle" ∧ y.cls ≠ "java/lang/invoke/VarHandle" ∧ (parseMethodDescriptor y.desc).map (fun d => d.parameters.length) = some n) (hrc : rm.cells = 0 ∧ rm.slots = 0) (hR : rm.frames + 1 ≤ R.frames ∧ 8 + (maxL + 11) + rm.locals ≤ R.locals) (hk : k < N) (hs : sh k = .inr (.inl (ci, o, fs))) (hc : cl[ci]? = some (C, T, Nf)) (hn : As.length = n) (hst : st = As.reverse ++ .ref (ad k) :: rest) (hroom : (rest.map fun v => v.category).sum ≤ 8) (d : decode cc pc = .ok (.invokevirtual index, 3)) (kk : zG p l e R s m args below meth c A D cl tc ad N sh nL Q μ1 (pc + 3) lv rest) : zG p l e R s m args below meth c A D cl tc ad N sh nL Q μ pc lv st :=
  zr_cVv As rest X hKK hM h1 h2 h3 h4 h5 hd hrc hR hk hs hc hn hst hroom d (fun u q => by subst q; exact kk)
theorem zr_dVq {z : Option Nat} {v : Value} {μ1 : Nat → Int32} {r : Option FieldType} {index maxL : Nat} {C : String} {y : MethodName} {bytes : ByteArray} {rm : Room} {k n ci o Nf : Nat} {T : u_T} {fs : List Zf} (As rest : List Value)
    (X : zX p s m args meth c A D cl ad N nL K tys ow sh cc own ret) (hKK : zKK K A D cl tys) (hM : zMq l y bytes maxL r rm K A D cl tc ad N sh (.ref (ad k) :: As) μ (fun r u => r = z ∧ u = μ1)) (h1 : Cond.methodLink own index y ∈ zT) (h2 : Cond.instanceMethod y ∈ zT) (h3 : Cond.selects C y y ∈ zT) (h4 : Cond.initialized C ∈ zT) (h5 : Cond.code y bytes maxL r ∈ zT)
    (hd : y.cls = C ∧ y.cls ≠ "java/lang/invoke/MethodHandle" ∧ y.cls ≠ "java/lang/invoke/VarHandle" ∧ (parseMethodDescriptor y.desc).map (fun d => d.parameters.length) = some n) (hrc : rm.cells = 0 ∧ rm.slots = 0) (hR : rm.frames + 1 ≤ R.frames ∧ 8 + (maxL + 11) + rm.locals ≤ R.locals) (hk : k < N) (hs : sh k = .inr (.inl (ci, o, fs))) (hc : cl[ci]? = some (C, T, Nf)) (hn : As.length = n) (hst : st = As.reverse ++ .ref (ad k) :: rest) (hroom : (rest.map fun v => v.category).sum ≤ 8) (d : decode cc pc = .ok (.invokevirtual index, 3)) (hv : va_rf z = v) (kk : zG p l e R s m args below meth c A D cl tc ad N sh nL Q μ1 (pc + 3) lv (v :: rest)) : zG p l e R s m args below meth c A D cl tc ad N sh nL Q μ pc lv st :=
  zr_cVq As rest X hKK hM h1 h2 h3 h4 h5 hd hrc hR hk hs hc hn hst hroom d (fun z1 u q => by obtain ⟨q1, q2⟩ := q; subst q1; subst q2; rw [hv]; exact kk)
theorem zr_dSi {z : Int32} {μ1 : Nat → Int32} {r : Option FieldType} {index maxL : Nat} {y : MethodName} {bytes : ByteArray} {rm : Room} {n : Nat} (As rest : List Value)
    (X : zX p s m args meth c A D cl ad N nL K tys ow sh cc own ret) (hKK : zKK K A D cl tys) (hM : zMi l y bytes maxL r rm K A D cl tc ad N sh As μ (fun r u => r = z ∧ u = μ1)) (h1 : Cond.methodLink own index y ∈ zT) (h2 : Cond.static y ∈ zT) (h4 : Cond.initialized own ∈ zT) (h5 : Cond.code y bytes maxL r ∈ zT)
    (hd : y.cls = own ∧ y.cls ≠ "java/lang/invoke/MethodHandle" ∧ y.cls ≠ "java/lang/invoke/VarHandle" ∧ (parseMethodDescriptor y.desc).map (fun d => d.parameters.length) = some n) (hrc : rm.cells = 0 ∧ rm.slots = 0) (hR : rm.frames + 1 ≤ R.frames ∧ 8 + (maxL + 11) + rm.locals ≤ R.locals) (hn : As.length = n) (hst : st = As.reverse ++ rest) (hroom : (rest.map fun v => v.category).sum ≤ 8) (d : decode cc pc = .ok (.invokestatic index, 3)) (kk : zG p l e R s m args below meth c A D cl tc ad N sh nL Q μ1 (pc + 3) lv (.int z :: rest)) : zG p l e R s m args below meth c A D cl tc ad N sh nL Q μ pc lv st :=
  zr_cSi As rest X hKK hM h1 h2 h4 h5 hd hrc hR hn hst hroom d (fun z1 u q => by obtain ⟨q1, q2⟩ := q; subst q1; subst q2; exact kk)
theorem zr_dSv {μ1 : Nat → Int32} {index maxL : Nat} {y : MethodName} {bytes : ByteArray} {rm : Room} {n : Nat} (As rest : List Value)
    (X : zX p s m args meth c A D cl ad N nL K tys ow sh cc own ret) (hKK : zKK K A D cl tys) (hM : zMv l y bytes maxL rm K A D cl tc ad N sh As μ (fun u => u = μ1)) (h1 : Cond.methodLink own index y ∈ zT) (h2 : Cond.static y ∈ zT) (h4 : Cond.initialized own ∈ zT) (h5 : Cond.code y bytes maxL none ∈ zT)
    (hd : y.cls = own ∧ y.cls ≠ "java/lang/invoke/MethodHandle" ∧ y.cls ≠ "java/lang/invoke/VarHandle" ∧ (parseMethodDescriptor y.desc).map (fun d => d.parameters.length) = some n) (hrc : rm.cells = 0 ∧ rm.slots = 0) (hR : rm.frames + 1 ≤ R.frames ∧ 8 + (maxL + 11) + rm.locals ≤ R.locals) (hn : As.length = n) (hst : st = As.reverse ++ rest) (hroom : (rest.map fun v => v.category).sum ≤ 8) (d : decode cc pc = .ok (.invokestatic index, 3)) (kk : zG p l e R s m args below meth c A D cl tc ad N sh nL Q μ1 (pc + 3) lv rest) : zG p l e R s m args below meth c A D cl tc ad N sh nL Q μ pc lv st :=
  zr_cSv As rest X hKK hM h1 h2 h4 h5 hd hrc hR hn hst hroom d (fun u q => by subst q; exact kk)
theorem zr_dNi {z : Int32} {μ1 : Nat → Int32} {r : Option FieldType} {index maxL : Nat} {host : String} {y : MethodName} {bytes : ByteArray} {rm : Room} {n : Nat} (As rest : List Value)
    (X : zX p s m args meth c A D cl ad N nL K tys ow sh cc own ret) (hKK : zKK K A D cl tys) (hM : zMi l y bytes maxL r rm K A D cl tc ad N sh As μ (fun r u => r = z ∧ u = μ1)) (h1 : va_Nw (.methodLinkNest own index y host) s) (h2 : Cond.static y ∈ zT) (h4 : Cond.initialized y.cls ∈ zT) (h5 : Cond.code y bytes maxL r ∈ zT)
    (hd : y.cls ≠ "java/lang/invoke/MethodHandle" ∧ y.cls ≠ "java/lang/invoke/VarHandle" ∧ (parseMethodDescriptor y.desc).map (fun d => d.parameters.length) = some n) (hrc : rm.cells = 0 ∧ rm.slots = 0) (hR : rm.frames + 1 ≤ R.frames ∧ 8 + (maxL + 11) + rm.locals ≤ R.locals) (hn : As.length = n) (hst : st = As.reverse ++ rest) (hroom : (rest.map fun v => v.category).sum ≤ 8) (d : decode cc pc = .ok (.invokestatic index, 3)) (kk : zG p l e R s m args below meth c A D cl tc ad N sh nL Q μ1 (pc + 3) lv (.int z :: rest)) : zG p l e R s m args below meth c A D cl tc ad N sh nL Q μ pc lv st :=
  zr_cNi As rest X hKK hM h1 h2 h4 h5 hd hrc hR hn hst hroom d (fun z1 u q => by obtain ⟨q1, q2⟩ := q; subst q1; subst q2; exact kk)
theorem zr_dNv {μ1 : Nat → Int32} {index maxL : Nat} {host : String} {y : MethodName} {bytes : ByteArray} {rm : Room} {n : Nat} (As rest : List Value)
    (X : zX p s m args meth c A D cl ad N nL K tys ow sh cc own ret) (hKK : zKK K A D cl tys) (hM : zMv l y bytes maxL rm K A D cl tc ad N sh As μ (fun u => u = μ1)) (h1 : va_Nw (.methodLinkNest own index y host) s) (h2 : Cond.static y ∈ zT) (h4 : Cond.initialized y.cls ∈ zT) (h5 : Cond.code y bytes maxL none ∈ zT)
    (hd : y.cls ≠ "java/lang/invoke/MethodHandle" ∧ y.cls ≠ "java/lang/invoke/VarHandle" ∧ (parseMethodDescriptor y.desc).map (fun d => d.parameters.length) = some n) (hrc : rm.cells = 0 ∧ rm.slots = 0) (hR : rm.frames + 1 ≤ R.frames ∧ 8 + (maxL + 11) + rm.locals ≤ R.locals) (hn : As.length = n) (hst : st = As.reverse ++ rest) (hroom : (rest.map fun v => v.category).sum ≤ 8) (d : decode cc pc = .ok (.invokestatic index, 3)) (kk : zG p l e R s m args below meth c A D cl tc ad N sh nL Q μ1 (pc + 3) lv rest) : zG p l e R s m args below meth c A D cl tc ad N sh nL Q μ pc lv st :=
  zr_cNv As rest X hKK hM h1 h2 h4 h5 hd hrc hR hn hst hroom d (fun u q => by subst q; exact kk)
theorem zr_mem (X : zX p s m args meth c A D cl ad N nL K tys ow sh cc own ret) {μ1 : Nat → Int32} (h : μ = μ1) (kk : zG p l e R s m args below meth c A D cl tc ad N sh nL Q μ1 pc lv st) : zG p l e R s m args below meth c A D cl tc ad N sh nL Q μ pc lv st := by
  rw [h]; exact kk
theorem zr_lv (X : zX p s m args meth c A D cl ad N nL K tys ow sh cc own ret) {lv1 : List (Nat × Value)} (h : lv = lv1) (kk : zG p l e R s m args below meth c A D cl tc ad N sh nL Q μ pc lv1 st) : zG p l e R s m args below meth c A D cl tc ad N sh nL Q μ pc lv st := by
  rw [h]; exact kk
theorem zr_for (X : zX p s m args meth c A D cl ad N nL K tys ow sh cc own ret) (n : Nat) (F : Nat → Nat → Int32) (V : Nat → List (Nat × Value)) (st : List Value) (h1 : F 0 = μ) (h2 : V 0 = lv) (hx : zG p l e R s m args below meth c A D cl tc ad N sh nL Q (F n) pc (V n) st) (hs : ∀ i, i < n → zG p l e R s m args below meth c A D cl tc ad N sh nL Q (F (i + 1)) pc (V (i + 1)) st → zG p l e R s m args below meth c A D cl tc ad N sh nL Q (F i) pc (V i) st) : zG p l e R s m args below meth c A D cl tc ad N sh nL Q μ pc lv st := by
  rw [← h1, ← h2]
  exact z_for n (fun i => zG p l e R s m args below meth c A D cl tc ad N sh nL Q (F i) pc (V i) st) hx hs
theorem zr_forFrom (X : zX p s m args meth c A D cl ad N nL K tys ow sh cc own ret) (b n : Nat) (F : Nat → Nat → Int32) (V : Nat → List (Nat × Value)) (st : List Value) (hb : b ≤ n) (h1 : F b = μ) (h2 : V b = lv) (hx : zG p l e R s m args below meth c A D cl tc ad N sh nL Q (F n) pc (V n) st) (hs : ∀ i, b ≤ i → i < n → zG p l e R s m args below meth c A D cl tc ad N sh nL Q (F (i + 1)) pc (V (i + 1)) st → zG p l e R s m args below meth c A D cl tc ad N sh nL Q (F i) pc (V i) st) : zG p l e R s m args below meth c A D cl tc ad N sh nL Q μ pc lv st := by
  rw [← h1, ← h2]
  exact z_forFrom b n (fun i => zG p l e R s m args below meth c A D cl tc ad N sh nL Q (F i) pc (V i) st) hb hx hs
end ZD
theorem hdX0_init : yX0_init.cls = RX0 ∧ yX0_init.cls ≠ "java/lang/invoke/MethodHandle" ∧ yX0_init.cls ≠ "java/lang/invoke/VarHandle" ∧ (parseMethodDescriptor yX0_init.desc).map (fun d => d.parameters.length) = some 0 := by decide +kernel
theorem hdX0_allowances : yX0_allowances.cls = RX0 ∧ yX0_allowances.cls ≠ "java/lang/invoke/MethodHandle" ∧ yX0_allowances.cls ≠ "java/lang/invoke/VarHandle" ∧ (parseMethodDescriptor yX0_allowances.desc).map (fun d => d.parameters.length) = some 0 := by decide +kernel
theorem hdX0_vintagesHeld : yX0_vintagesHeld.cls = RX0 ∧ yX0_vintagesHeld.cls ≠ "java/lang/invoke/MethodHandle" ∧ yX0_vintagesHeld.cls ≠ "java/lang/invoke/VarHandle" ∧ (parseMethodDescriptor yX0_vintagesHeld.desc).map (fun d => d.parameters.length) = some 0 := by decide +kernel
theorem hdX0_oldestHeld : yX0_oldestHeld.cls = RX0 ∧ yX0_oldestHeld.cls ≠ "java/lang/invoke/MethodHandle" ∧ yX0_oldestHeld.cls ≠ "java/lang/invoke/VarHandle" ∧ (parseMethodDescriptor yX0_oldestHeld.desc).map (fun d => d.parameters.length) = some 0 := by decide +kernel
theorem hdX0_newestHeld : yX0_newestHeld.cls = RX0 ∧ yX0_newestHeld.cls ≠ "java/lang/invoke/MethodHandle" ∧ yX0_newestHeld.cls ≠ "java/lang/invoke/VarHandle" ∧ (parseMethodDescriptor yX0_newestHeld.desc).map (fun d => d.parameters.length) = some 0 := by decide +kernel
theorem hdX0_mayUse : yX0_mayUse.cls = RX0 ∧ yX0_mayUse.cls ≠ "java/lang/invoke/MethodHandle" ∧ yX0_mayUse.cls ≠ "java/lang/invoke/VarHandle" ∧ (parseMethodDescriptor yX0_mayUse.desc).map (fun d => d.parameters.length) = some 2 := by decide +kernel
theorem hdX0_canUse : yX0_canUse.cls = RX0 ∧ yX0_canUse.cls ≠ "java/lang/invoke/MethodHandle" ∧ yX0_canUse.cls ≠ "java/lang/invoke/VarHandle" ∧ (parseMethodDescriptor yX0_canUse.desc).map (fun d => d.parameters.length) = some 2 := by decide +kernel
theorem hdX0_dueAtBest : yX0_dueAtBest.cls = RX0 ∧ yX0_dueAtBest.cls ≠ "java/lang/invoke/MethodHandle" ∧ yX0_dueAtBest.cls ≠ "java/lang/invoke/VarHandle" ∧ (parseMethodDescriptor yX0_dueAtBest.desc).map (fun d => d.parameters.length) = some 1 := by decide +kernel
theorem hdX0_closeYear : yX0_closeYear.cls = RX0 ∧ yX0_closeYear.cls ≠ "java/lang/invoke/MethodHandle" ∧ yX0_closeYear.cls ≠ "java/lang/invoke/VarHandle" ∧ (parseMethodDescriptor yX0_closeYear.desc).map (fun d => d.parameters.length) = some 0 := by decide +kernel
theorem hdX1_init : yX1_init.cls = RX1 ∧ yX1_init.cls ≠ "java/lang/invoke/MethodHandle" ∧ yX1_init.cls ≠ "java/lang/invoke/VarHandle" ∧ (parseMethodDescriptor yX1_init.desc).map (fun d => d.parameters.length) = some 0 := by decide +kernel
theorem hdX1_push : yX1_push.cls = RX1 ∧ yX1_push.cls ≠ "java/lang/invoke/MethodHandle" ∧ yX1_push.cls ≠ "java/lang/invoke/VarHandle" ∧ (parseMethodDescriptor yX1_push.desc).map (fun d => d.parameters.length) = some 1 := by decide +kernel
theorem hdX1_popInto : yX1_popInto.cls = RX1 ∧ yX1_popInto.cls ≠ "java/lang/invoke/MethodHandle" ∧ yX1_popInto.cls ≠ "java/lang/invoke/VarHandle" ∧ (parseMethodDescriptor yX1_popInto.desc).map (fun d => d.parameters.length) = some 1 := by decide +kernel
theorem hdX2_init : yX2_init.cls = RX2 ∧ yX2_init.cls ≠ "java/lang/invoke/MethodHandle" ∧ yX2_init.cls ≠ "java/lang/invoke/VarHandle" ∧ (parseMethodDescriptor yX2_init.desc).map (fun d => d.parameters.length) = some 0 := by decide +kernel
theorem hdX2_firmAt : yX2_firmAt.cls = RX2 ∧ yX2_firmAt.cls ≠ "java/lang/invoke/MethodHandle" ∧ yX2_firmAt.cls ≠ "java/lang/invoke/VarHandle" ∧ (parseMethodDescriptor yX2_firmAt.desc).map (fun d => d.parameters.length) = some 1 := by decide +kernel
theorem hdX2_year : yX2_year.cls = RX2 ∧ yX2_year.cls ≠ "java/lang/invoke/MethodHandle" ∧ yX2_year.cls ≠ "java/lang/invoke/VarHandle" ∧ (parseMethodDescriptor yX2_year.desc).map (fun d => d.parameters.length) = some 0 := by decide +kernel
theorem hdX2_moveError : yX2_moveError.cls = RX2 ∧ yX2_moveError.cls ≠ "java/lang/invoke/MethodHandle" ∧ yX2_moveError.cls ≠ "java/lang/invoke/VarHandle" ∧ (parseMethodDescriptor yX2_moveError.desc).map (fun d => d.parameters.length) = some 4 := by decide +kernel
theorem hdX2_move : yX2_move.cls = RX2 ∧ yX2_move.cls ≠ "java/lang/invoke/MethodHandle" ∧ yX2_move.cls ≠ "java/lang/invoke/VarHandle" ∧ (parseMethodDescriptor yX2_move.desc).map (fun d => d.parameters.length) = some 4 := by decide +kernel
theorem hdX2_takeFrom : yX2_takeFrom.cls = RX2 ∧ yX2_takeFrom.cls ≠ "java/lang/invoke/MethodHandle" ∧ yX2_takeFrom.cls ≠ "java/lang/invoke/VarHandle" ∧ (parseMethodDescriptor yX2_takeFrom.desc).map (fun d => d.parameters.length) = some 2 := by decide +kernel
theorem hdX2_beginMonth : yX2_beginMonth.cls = RX2 ∧ yX2_beginMonth.cls ≠ "java/lang/invoke/MethodHandle" ∧ yX2_beginMonth.cls ≠ "java/lang/invoke/VarHandle" ∧ (parseMethodDescriptor yX2_beginMonth.desc).map (fun d => d.parameters.length) = some 0 := by decide +kernel
theorem hdX2_beginYear : yX2_beginYear.cls = RX2 ∧ yX2_beginYear.cls ≠ "java/lang/invoke/MethodHandle" ∧ yX2_beginYear.cls ≠ "java/lang/invoke/VarHandle" ∧ (parseMethodDescriptor yX2_beginYear.desc).map (fun d => d.parameters.length) = some 0 := by decide +kernel
theorem hdX2_loseAll : yX2_loseAll.cls = RX2 ∧ yX2_loseAll.cls ≠ "java/lang/invoke/MethodHandle" ∧ yX2_loseAll.cls ≠ "java/lang/invoke/VarHandle" ∧ (parseMethodDescriptor yX2_loseAll.desc).map (fun d => d.parameters.length) = some 1 := by decide +kernel
theorem hdX2_fineAll : yX2_fineAll.cls = RX2 ∧ yX2_fineAll.cls ≠ "java/lang/invoke/MethodHandle" ∧ yX2_fineAll.cls ≠ "java/lang/invoke/VarHandle" ∧ (parseMethodDescriptor yX2_fineAll.desc).map (fun d => d.parameters.length) = some 0 := by decide +kernel
theorem hdX2_heldOf : yX2_heldOf.cls = RX2 ∧ yX2_heldOf.cls ≠ "java/lang/invoke/MethodHandle" ∧ yX2_heldOf.cls ≠ "java/lang/invoke/VarHandle" ∧ (parseMethodDescriptor yX2_heldOf.desc).map (fun d => d.parameters.length) = some 1 := by decide +kernel
theorem hdX2_holdersOf : yX2_holdersOf.cls = RX2 ∧ yX2_holdersOf.cls ≠ "java/lang/invoke/MethodHandle" ∧ yX2_holdersOf.cls ≠ "java/lang/invoke/VarHandle" ∧ (parseMethodDescriptor yX2_holdersOf.desc).map (fun d => d.parameters.length) = some 1 := by decide +kernel
theorem hdX2_offsetsHeldOf : yX2_offsetsHeldOf.cls = RX2 ∧ yX2_offsetsHeldOf.cls ≠ "java/lang/invoke/MethodHandle" ∧ yX2_offsetsHeldOf.cls ≠ "java/lang/invoke/VarHandle" ∧ (parseMethodDescriptor yX2_offsetsHeldOf.desc).map (fun d => d.parameters.length) = some 1 := by decide +kernel
theorem hdX2_monthsUntilLost : yX2_monthsUntilLost.cls = RX2 ∧ yX2_monthsUntilLost.cls ≠ "java/lang/invoke/MethodHandle" ∧ yX2_monthsUntilLost.cls ≠ "java/lang/invoke/VarHandle" ∧ (parseMethodDescriptor yX2_monthsUntilLost.desc).map (fun d => d.parameters.length) = some 1 := by decide +kernel
theorem hdX2_holderAt : yX2_holderAt.cls = RX2 ∧ yX2_holderAt.cls ≠ "java/lang/invoke/MethodHandle" ∧ yX2_holderAt.cls ≠ "java/lang/invoke/VarHandle" ∧ (parseMethodDescriptor yX2_holderAt.desc).map (fun d => d.parameters.length) = some 2 := by decide +kernel
theorem hdX2_holdersAhead : yX2_holdersAhead.cls = RX2 ∧ yX2_holdersAhead.cls ≠ "java/lang/invoke/MethodHandle" ∧ yX2_holdersAhead.cls ≠ "java/lang/invoke/VarHandle" ∧ (parseMethodDescriptor yX2_holdersAhead.desc).map (fun d => d.parameters.length) = some 2 := by decide +kernel
theorem hdX2_allDue : yX2_allDue.cls = RX2 ∧ yX2_allDue.cls ≠ "java/lang/invoke/MethodHandle" ∧ yX2_allDue.cls ≠ "java/lang/invoke/VarHandle" ∧ (parseMethodDescriptor yX2_allDue.desc).map (fun d => d.parameters.length) = some 0 := by decide +kernel
theorem hdX2_allFines : yX2_allFines.cls = RX2 ∧ yX2_allFines.cls ≠ "java/lang/invoke/MethodHandle" ∧ yX2_allFines.cls ≠ "java/lang/invoke/VarHandle" ∧ (parseMethodDescriptor yX2_allFines.desc).map (fun d => d.parameters.length) = some 0 := by decide +kernel
theorem hdX2_allHeld : yX2_allHeld.cls = RX2 ∧ yX2_allHeld.cls ≠ "java/lang/invoke/MethodHandle" ∧ yX2_allHeld.cls ≠ "java/lang/invoke/VarHandle" ∧ (parseMethodDescriptor yX2_allHeld.desc).map (fun d => d.parameters.length) = some 0 := by decide +kernel
theorem hdX2_allLost : yX2_allLost.cls = RX2 ∧ yX2_allLost.cls ≠ "java/lang/invoke/MethodHandle" ∧ yX2_allLost.cls ≠ "java/lang/invoke/VarHandle" ∧ (parseMethodDescriptor yX2_allLost.desc).map (fun d => d.parameters.length) = some 0 := by decide +kernel
theorem hdX2_monthsUntilDeadline : yX2_monthsUntilDeadline.cls = RX2 ∧ yX2_monthsUntilDeadline.cls ≠ "java/lang/invoke/MethodHandle" ∧ yX2_monthsUntilDeadline.cls ≠ "java/lang/invoke/VarHandle" ∧ (parseMethodDescriptor yX2_monthsUntilDeadline.desc).map (fun d => d.parameters.length) = some 0 := by decide +kernel
theorem hdX3_init : yX3_init.cls = RX3 ∧ yX3_init.cls ≠ "java/lang/invoke/MethodHandle" ∧ yX3_init.cls ≠ "java/lang/invoke/VarHandle" ∧ (parseMethodDescriptor yX3_init.desc).map (fun d => d.parameters.length) = some 0 := by decide +kernel
theorem hdX3_workOut : yX3_workOut.cls = RX3 ∧ yX3_workOut.cls ≠ "java/lang/invoke/MethodHandle" ∧ yX3_workOut.cls ≠ "java/lang/invoke/VarHandle" ∧ (parseMethodDescriptor yX3_workOut.desc).map (fun d => d.parameters.length) = some 4 := by decide +kernel
theorem hdX3_takeVintage : yX3_takeVintage.cls = RX3 ∧ yX3_takeVintage.cls ≠ "java/lang/invoke/MethodHandle" ∧ yX3_takeVintage.cls ≠ "java/lang/invoke/VarHandle" ∧ (parseMethodDescriptor yX3_takeVintage.desc).map (fun d => d.parameters.length) = some 2 := by decide +kernel
theorem hdX4_init : yX4_init.cls = RX4 ∧ yX4_init.cls ≠ "java/lang/invoke/MethodHandle" ∧ yX4_init.cls ≠ "java/lang/invoke/VarHandle" ∧ (parseMethodDescriptor yX4_init.desc).map (fun d => d.parameters.length) = some 0 := by decide +kernel
theorem hdX4_readAll : yX4_readAll.cls = RX4 ∧ yX4_readAll.cls ≠ "java/lang/invoke/MethodHandle" ∧ yX4_readAll.cls ≠ "java/lang/invoke/VarHandle" ∧ (parseMethodDescriptor yX4_readAll.desc).map (fun d => d.parameters.length) = some 0 := by decide +kernel
theorem hdX4_readOne : yX4_readOne.cls = RX4 ∧ yX4_readOne.cls ≠ "java/lang/invoke/MethodHandle" ∧ yX4_readOne.cls ≠ "java/lang/invoke/VarHandle" ∧ (parseMethodDescriptor yX4_readOne.desc).map (fun d => d.parameters.length) = some 1 := by decide +kernel
theorem hdX4_readSign : yX4_readSign.cls = RX4 ∧ yX4_readSign.cls ≠ "java/lang/invoke/MethodHandle" ∧ yX4_readSign.cls ≠ "java/lang/invoke/VarHandle" ∧ (parseMethodDescriptor yX4_readSign.desc).map (fun d => d.parameters.length) = some 1 := by decide +kernel
theorem hdX4_readNumber : yX4_readNumber.cls = RX4 ∧ yX4_readNumber.cls ≠ "java/lang/invoke/MethodHandle" ∧ yX4_readNumber.cls ≠ "java/lang/invoke/VarHandle" ∧ (parseMethodDescriptor yX4_readNumber.desc).map (fun d => d.parameters.length) = some 2 := by decide +kernel
theorem hdX4_digitHere : yX4_digitHere.cls = RX4 ∧ yX4_digitHere.cls ≠ "java/lang/invoke/MethodHandle" ∧ yX4_digitHere.cls ≠ "java/lang/invoke/VarHandle" ∧ (parseMethodDescriptor yX4_digitHere.desc).map (fun d => d.parameters.length) = some 0 := by decide +kernel
theorem hdX5_init : yX5_init.cls = RX5 ∧ yX5_init.cls ≠ "java/lang/invoke/MethodHandle" ∧ yX5_init.cls ≠ "java/lang/invoke/VarHandle" ∧ (parseMethodDescriptor yX5_init.desc).map (fun d => d.parameters.length) = some 0 := by decide +kernel
theorem hdX5_addFirm : yX5_addFirm.cls = RX5 ∧ yX5_addFirm.cls ≠ "java/lang/invoke/MethodHandle" ∧ yX5_addFirm.cls ≠ "java/lang/invoke/VarHandle" ∧ (parseMethodDescriptor yX5_addFirm.desc).map (fun d => d.parameters.length) = some 0 := by decide +kernel
theorem hdX5_set : yX5_set.cls = RX5 ∧ yX5_set.cls ≠ "java/lang/invoke/MethodHandle" ∧ yX5_set.cls ≠ "java/lang/invoke/VarHandle" ∧ (parseMethodDescriptor yX5_set.desc).map (fun d => d.parameters.length) = some 2 := by decide +kernel
theorem hdX5_issue : yX5_issue.cls = RX5 ∧ yX5_issue.cls ≠ "java/lang/invoke/MethodHandle" ∧ yX5_issue.cls ≠ "java/lang/invoke/VarHandle" ∧ (parseMethodDescriptor yX5_issue.desc).map (fun d => d.parameters.length) = some 2 := by decide +kernel
theorem hdX5_issueOffsets : yX5_issueOffsets.cls = RX5 ∧ yX5_issueOffsets.cls ≠ "java/lang/invoke/MethodHandle" ∧ yX5_issueOffsets.cls ≠ "java/lang/invoke/VarHandle" ∧ (parseMethodDescriptor yX5_issueOffsets.desc).map (fun d => d.parameters.length) = some 3 := by decide +kernel
theorem hdX5_transfer : yX5_transfer.cls = RX5 ∧ yX5_transfer.cls ≠ "java/lang/invoke/MethodHandle" ∧ yX5_transfer.cls ≠ "java/lang/invoke/VarHandle" ∧ (parseMethodDescriptor yX5_transfer.desc).map (fun d => d.parameters.length) = some 4 := by decide +kernel
theorem hdX5_transferOffsets : yX5_transferOffsets.cls = RX5 ∧ yX5_transferOffsets.cls ≠ "java/lang/invoke/MethodHandle" ∧ yX5_transferOffsets.cls ≠ "java/lang/invoke/VarHandle" ∧ (parseMethodDescriptor yX5_transferOffsets.desc).map (fun d => d.parameters.length) = some 4 := by decide +kernel
theorem hdX5_cancel : yX5_cancel.cls = RX5 ∧ yX5_cancel.cls ≠ "java/lang/invoke/MethodHandle" ∧ yX5_cancel.cls ≠ "java/lang/invoke/VarHandle" ∧ (parseMethodDescriptor yX5_cancel.desc).map (fun d => d.parameters.length) = some 3 := by decide +kernel
theorem hdX5_report : yX5_report.cls = RX5 ∧ yX5_report.cls ≠ "java/lang/invoke/MethodHandle" ∧ yX5_report.cls ≠ "java/lang/invoke/VarHandle" ∧ (parseMethodDescriptor yX5_report.desc).map (fun d => d.parameters.length) = some 2 := by decide +kernel
theorem hdX5_verify : yX5_verify.cls = RX5 ∧ yX5_verify.cls ≠ "java/lang/invoke/MethodHandle" ∧ yX5_verify.cls ≠ "java/lang/invoke/VarHandle" ∧ (parseMethodDescriptor yX5_verify.desc).map (fun d => d.parameters.length) = some 1 := by decide +kernel
theorem hdX5_surrender : yX5_surrender.cls = RX5 ∧ yX5_surrender.cls ≠ "java/lang/invoke/MethodHandle" ∧ yX5_surrender.cls ≠ "java/lang/invoke/VarHandle" ∧ (parseMethodDescriptor yX5_surrender.desc).map (fun d => d.parameters.length) = some 3 := by decide +kernel
theorem hdX5_pass : yX5_pass.cls = RX5 ∧ yX5_pass.cls ≠ "java/lang/invoke/MethodHandle" ∧ yX5_pass.cls ≠ "java/lang/invoke/VarHandle" ∧ (parseMethodDescriptor yX5_pass.desc).map (fun d => d.parameters.length) = some 1 := by decide +kernel
theorem hdX5_type : yX5_type.cls = RX5 ∧ yX5_type.cls ≠ "java/lang/invoke/MethodHandle" ∧ yX5_type.cls ≠ "java/lang/invoke/VarHandle" ∧ (parseMethodDescriptor yX5_type.desc).map (fun d => d.parameters.length) = some 1 := by decide +kernel
theorem hdX5_clearText : yX5_clearText.cls = RX5 ∧ yX5_clearText.cls ≠ "java/lang/invoke/MethodHandle" ∧ yX5_clearText.cls ≠ "java/lang/invoke/VarHandle" ∧ (parseMethodDescriptor yX5_clearText.desc).map (fun d => d.parameters.length) = some 0 := by decide +kernel
theorem hdX5_readTransfers : yX5_readTransfers.cls = RX5 ∧ yX5_readTransfers.cls ≠ "java/lang/invoke/MethodHandle" ∧ yX5_readTransfers.cls ≠ "java/lang/invoke/VarHandle" ∧ (parseMethodDescriptor yX5_readTransfers.desc).map (fun d => d.parameters.length) = some 0 := by decide +kernel
theorem hdX5_undo : yX5_undo.cls = RX5 ∧ yX5_undo.cls ≠ "java/lang/invoke/MethodHandle" ∧ yX5_undo.cls ≠ "java/lang/invoke/VarHandle" ∧ (parseMethodDescriptor yX5_undo.desc).map (fun d => d.parameters.length) = some 0 := by decide +kernel
theorem hdX5_keep : yX5_keep.cls = RX5 ∧ yX5_keep.cls ≠ "java/lang/invoke/MethodHandle" ∧ yX5_keep.cls ≠ "java/lang/invoke/VarHandle" ∧ (parseMethodDescriptor yX5_keep.desc).map (fun d => d.parameters.length) = some 0 := by decide +kernel
theorem hdX5_restore : yX5_restore.cls = RX5 ∧ yX5_restore.cls ≠ "java/lang/invoke/MethodHandle" ∧ yX5_restore.cls ≠ "java/lang/invoke/VarHandle" ∧ (parseMethodDescriptor yX5_restore.desc).map (fun d => d.parameters.length) = some 0 := by decide +kernel
theorem hdX5_firm : yX5_firm.cls = RX5 ∧ yX5_firm.cls ≠ "java/lang/invoke/MethodHandle" ∧ yX5_firm.cls ≠ "java/lang/invoke/VarHandle" ∧ (parseMethodDescriptor yX5_firm.desc).map (fun d => d.parameters.length) = some 2 := by decide +kernel
theorem hdX5_holds : yX5_holds.cls = RX5 ∧ yX5_holds.cls ≠ "java/lang/invoke/MethodHandle" ∧ yX5_holds.cls ≠ "java/lang/invoke/VarHandle" ∧ (parseMethodDescriptor yX5_holds.desc).map (fun d => d.parameters.length) = some 2 := by decide +kernel
theorem hdX5_offsets : yX5_offsets.cls = RX5 ∧ yX5_offsets.cls ≠ "java/lang/invoke/MethodHandle" ∧ yX5_offsets.cls ≠ "java/lang/invoke/VarHandle" ∧ (parseMethodDescriptor yX5_offsets.desc).map (fun d => d.parameters.length) = some 3 := by decide +kernel
theorem hdX5_vintage : yX5_vintage.cls = RX5 ∧ yX5_vintage.cls ≠ "java/lang/invoke/MethodHandle" ∧ yX5_vintage.cls ≠ "java/lang/invoke/VarHandle" ∧ (parseMethodDescriptor yX5_vintage.desc).map (fun d => d.parameters.length) = some 2 := by decide +kernel
theorem hdX5_grade : yX5_grade.cls = RX5 ∧ yX5_grade.cls ≠ "java/lang/invoke/MethodHandle" ∧ yX5_grade.cls ≠ "java/lang/invoke/VarHandle" ∧ (parseMethodDescriptor yX5_grade.desc).map (fun d => d.parameters.length) = some 2 := by decide +kernel
theorem hdX5_holder : yX5_holder.cls = RX5 ∧ yX5_holder.cls ≠ "java/lang/invoke/MethodHandle" ∧ yX5_holder.cls ≠ "java/lang/invoke/VarHandle" ∧ (parseMethodDescriptor yX5_holder.desc).map (fun d => d.parameters.length) = some 2 := by decide +kernel
theorem hdX5_plan : yX5_plan.cls = RX5 ∧ yX5_plan.cls ≠ "java/lang/invoke/MethodHandle" ∧ yX5_plan.cls ≠ "java/lang/invoke/VarHandle" ∧ (parseMethodDescriptor yX5_plan.desc).map (fun d => d.parameters.length) = some 4 := by decide +kernel
theorem hdX5_count : yX5_count.cls = RX5 ∧ yX5_count.cls ≠ "java/lang/invoke/MethodHandle" ∧ yX5_count.cls ≠ "java/lang/invoke/VarHandle" ∧ (parseMethodDescriptor yX5_count.desc).map (fun d => d.parameters.length) = some 1 := by decide +kernel
theorem hdX5_isVintage : yX5_isVintage.cls = RX5 ∧ yX5_isVintage.cls ≠ "java/lang/invoke/MethodHandle" ∧ yX5_isVintage.cls ≠ "java/lang/invoke/VarHandle" ∧ (parseMethodDescriptor yX5_isVintage.desc).map (fun d => d.parameters.length) = some 1 := by decide +kernel
theorem hdX5_isVintagen : yX5_isVintage.cls ≠ "java/lang/invoke/MethodHandle" ∧ yX5_isVintage.cls ≠ "java/lang/invoke/VarHandle" ∧ (parseMethodDescriptor yX5_isVintage.desc).map (fun d => d.parameters.length) = some 1 := by decide +kernel
theorem hdX5_isGrade : yX5_isGrade.cls = RX5 ∧ yX5_isGrade.cls ≠ "java/lang/invoke/MethodHandle" ∧ yX5_isGrade.cls ≠ "java/lang/invoke/VarHandle" ∧ (parseMethodDescriptor yX5_isGrade.desc).map (fun d => d.parameters.length) = some 1 := by decide +kernel
theorem hdX5_isTonnes : yX5_isTonnes.cls = RX5 ∧ yX5_isTonnes.cls ≠ "java/lang/invoke/MethodHandle" ∧ yX5_isTonnes.cls ≠ "java/lang/invoke/VarHandle" ∧ (parseMethodDescriptor yX5_isTonnes.desc).map (fun d => d.parameters.length) = some 1 := by decide +kernel
theorem hdX5_isTonnesn : yX5_isTonnes.cls ≠ "java/lang/invoke/MethodHandle" ∧ yX5_isTonnes.cls ≠ "java/lang/invoke/VarHandle" ∧ (parseMethodDescriptor yX5_isTonnes.desc).map (fun d => d.parameters.length) = some 1 := by decide +kernel
theorem hdX5_isWay : yX5_isWay.cls = RX5 ∧ yX5_isWay.cls ≠ "java/lang/invoke/MethodHandle" ∧ yX5_isWay.cls ≠ "java/lang/invoke/VarHandle" ∧ (parseMethodDescriptor yX5_isWay.desc).map (fun d => d.parameters.length) = some 1 := by decide +kernel
theorem hdX5_copyState : yX5_copyState.cls = RX5 ∧ yX5_copyState.cls ≠ "java/lang/invoke/MethodHandle" ∧ yX5_copyState.cls ≠ "java/lang/invoke/VarHandle" ∧ (parseMethodDescriptor yX5_copyState.desc).map (fun d => d.parameters.length) = some 2 := by decide +kernel
theorem hdX5_copyStaten : yX5_copyState.cls ≠ "java/lang/invoke/MethodHandle" ∧ yX5_copyState.cls ≠ "java/lang/invoke/VarHandle" ∧ (parseMethodDescriptor yX5_copyState.desc).map (fun d => d.parameters.length) = some 2 := by decide +kernel
theorem hdX5_copyFirm : yX5_copyFirm.cls = RX5 ∧ yX5_copyFirm.cls ≠ "java/lang/invoke/MethodHandle" ∧ yX5_copyFirm.cls ≠ "java/lang/invoke/VarHandle" ∧ (parseMethodDescriptor yX5_copyFirm.desc).map (fun d => d.parameters.length) = some 2 := by decide +kernel
theorem hdX5_copyNumbers : yX5_copyNumbers.cls = RX5 ∧ yX5_copyNumbers.cls ≠ "java/lang/invoke/MethodHandle" ∧ yX5_copyNumbers.cls ≠ "java/lang/invoke/VarHandle" ∧ (parseMethodDescriptor yX5_copyNumbers.desc).map (fun d => d.parameters.length) = some 2 := by decide +kernel
theorem hdX6_init : yX6_init.cls = RX6 ∧ yX6_init.cls ≠ "java/lang/invoke/MethodHandle" ∧ yX6_init.cls ≠ "java/lang/invoke/VarHandle" ∧ (parseMethodDescriptor yX6_init.desc).map (fun d => d.parameters.length) = some 0 := by decide +kernel
theorem hdX6_in : yX6_in.cls = RX6 ∧ yX6_in.cls ≠ "java/lang/invoke/MethodHandle" ∧ yX6_in.cls ≠ "java/lang/invoke/VarHandle" ∧ (parseMethodDescriptor yX6_in.desc).map (fun d => d.parameters.length) = some 3 := by decide +kernel
theorem hdX6_of : yX6_of.cls = RX6 ∧ yX6_of.cls ≠ "java/lang/invoke/MethodHandle" ∧ yX6_of.cls ≠ "java/lang/invoke/VarHandle" ∧ (parseMethodDescriptor yX6_of.desc).map (fun d => d.parameters.length) = some 2 := by decide +kernel
theorem hdX6_isFirm : yX6_isFirm.cls = RX6 ∧ yX6_isFirm.cls ≠ "java/lang/invoke/MethodHandle" ∧ yX6_isFirm.cls ≠ "java/lang/invoke/VarHandle" ∧ (parseMethodDescriptor yX6_isFirm.desc).map (fun d => d.parameters.length) = some 1 := by decide +kernel
theorem hdX6_isVintage : yX6_isVintage.cls = RX6 ∧ yX6_isVintage.cls ≠ "java/lang/invoke/MethodHandle" ∧ yX6_isVintage.cls ≠ "java/lang/invoke/VarHandle" ∧ (parseMethodDescriptor yX6_isVintage.desc).map (fun d => d.parameters.length) = some 1 := by decide +kernel
theorem hdX6_isGrade : yX6_isGrade.cls = RX6 ∧ yX6_isGrade.cls ≠ "java/lang/invoke/MethodHandle" ∧ yX6_isGrade.cls ≠ "java/lang/invoke/VarHandle" ∧ (parseMethodDescriptor yX6_isGrade.desc).map (fun d => d.parameters.length) = some 1 := by decide +kernel
theorem hdX6_isTonnes : yX6_isTonnes.cls = RX6 ∧ yX6_isTonnes.cls ≠ "java/lang/invoke/MethodHandle" ∧ yX6_isTonnes.cls ≠ "java/lang/invoke/VarHandle" ∧ (parseMethodDescriptor yX6_isTonnes.desc).map (fun d => d.parameters.length) = some 1 := by decide +kernel
theorem hdX6_year : yX6_year.cls = RX6 ∧ yX6_year.cls ≠ "java/lang/invoke/MethodHandle" ∧ yX6_year.cls ≠ "java/lang/invoke/VarHandle" ∧ (parseMethodDescriptor yX6_year.desc).map (fun d => d.parameters.length) = some 0 := by decide +kernel
theorem hdX6_copy : yX6_copy.cls = RX6 ∧ yX6_copy.cls ≠ "java/lang/invoke/MethodHandle" ∧ yX6_copy.cls ≠ "java/lang/invoke/VarHandle" ∧ (parseMethodDescriptor yX6_copy.desc).map (fun d => d.parameters.length) = some 2 := by decide +kernel
theorem hdX6_record : yX6_record.cls = RX6 ∧ yX6_record.cls ≠ "java/lang/invoke/MethodHandle" ∧ yX6_record.cls ≠ "java/lang/invoke/VarHandle" ∧ (parseMethodDescriptor yX6_record.desc).map (fun d => d.parameters.length) = some 1 := by decide +kernel
theorem hdX6_undo : yX6_undo.cls = RX6 ∧ yX6_undo.cls ≠ "java/lang/invoke/MethodHandle" ∧ yX6_undo.cls ≠ "java/lang/invoke/VarHandle" ∧ (parseMethodDescriptor yX6_undo.desc).map (fun d => d.parameters.length) = some 0 := by decide +kernel
theorem hdX6_keep : yX6_keep.cls = RX6 ∧ yX6_keep.cls ≠ "java/lang/invoke/MethodHandle" ∧ yX6_keep.cls ≠ "java/lang/invoke/VarHandle" ∧ (parseMethodDescriptor yX6_keep.desc).map (fun d => d.parameters.length) = some 0 := by decide +kernel
theorem hdX6_restore : yX6_restore.cls = RX6 ∧ yX6_restore.cls ≠ "java/lang/invoke/MethodHandle" ∧ yX6_restore.cls ≠ "java/lang/invoke/VarHandle" ∧ (parseMethodDescriptor yX6_restore.desc).map (fun d => d.parameters.length) = some 0 := by decide +kernel
theorem hdX6_addFirm : yX6_addFirm.cls = RX6 ∧ yX6_addFirm.cls ≠ "java/lang/invoke/MethodHandle" ∧ yX6_addFirm.cls ≠ "java/lang/invoke/VarHandle" ∧ (parseMethodDescriptor yX6_addFirm.desc).map (fun d => d.parameters.length) = some 0 := by decide +kernel
theorem hdX6_set : yX6_set.cls = RX6 ∧ yX6_set.cls ≠ "java/lang/invoke/MethodHandle" ∧ yX6_set.cls ≠ "java/lang/invoke/VarHandle" ∧ (parseMethodDescriptor yX6_set.desc).map (fun d => d.parameters.length) = some 2 := by decide +kernel
theorem hdX6_issue : yX6_issue.cls = RX6 ∧ yX6_issue.cls ≠ "java/lang/invoke/MethodHandle" ∧ yX6_issue.cls ≠ "java/lang/invoke/VarHandle" ∧ (parseMethodDescriptor yX6_issue.desc).map (fun d => d.parameters.length) = some 2 := by decide +kernel
theorem hdX6_issueOffsets : yX6_issueOffsets.cls = RX6 ∧ yX6_issueOffsets.cls ≠ "java/lang/invoke/MethodHandle" ∧ yX6_issueOffsets.cls ≠ "java/lang/invoke/VarHandle" ∧ (parseMethodDescriptor yX6_issueOffsets.desc).map (fun d => d.parameters.length) = some 3 := by decide +kernel
theorem hdX6_noTransfer : yX6_noTransfer.cls = RX6 ∧ yX6_noTransfer.cls ≠ "java/lang/invoke/MethodHandle" ∧ yX6_noTransfer.cls ≠ "java/lang/invoke/VarHandle" ∧ (parseMethodDescriptor yX6_noTransfer.desc).map (fun d => d.parameters.length) = some 5 := by decide +kernel
theorem hdX6_doTransfer : yX6_doTransfer.cls = RX6 ∧ yX6_doTransfer.cls ≠ "java/lang/invoke/MethodHandle" ∧ yX6_doTransfer.cls ≠ "java/lang/invoke/VarHandle" ∧ (parseMethodDescriptor yX6_doTransfer.desc).map (fun d => d.parameters.length) = some 4 := by decide +kernel
theorem hdX6_transfer : yX6_transfer.cls = RX6 ∧ yX6_transfer.cls ≠ "java/lang/invoke/MethodHandle" ∧ yX6_transfer.cls ≠ "java/lang/invoke/VarHandle" ∧ (parseMethodDescriptor yX6_transfer.desc).map (fun d => d.parameters.length) = some 4 := by decide +kernel
theorem hdX6_transferOffsets : yX6_transferOffsets.cls = RX6 ∧ yX6_transferOffsets.cls ≠ "java/lang/invoke/MethodHandle" ∧ yX6_transferOffsets.cls ≠ "java/lang/invoke/VarHandle" ∧ (parseMethodDescriptor yX6_transferOffsets.desc).map (fun d => d.parameters.length) = some 4 := by decide +kernel
theorem hdX6_cancel : yX6_cancel.cls = RX6 ∧ yX6_cancel.cls ≠ "java/lang/invoke/MethodHandle" ∧ yX6_cancel.cls ≠ "java/lang/invoke/VarHandle" ∧ (parseMethodDescriptor yX6_cancel.desc).map (fun d => d.parameters.length) = some 3 := by decide +kernel
theorem hdX6_report : yX6_report.cls = RX6 ∧ yX6_report.cls ≠ "java/lang/invoke/MethodHandle" ∧ yX6_report.cls ≠ "java/lang/invoke/VarHandle" ∧ (parseMethodDescriptor yX6_report.desc).map (fun d => d.parameters.length) = some 2 := by decide +kernel
theorem hdX6_verify : yX6_verify.cls = RX6 ∧ yX6_verify.cls ≠ "java/lang/invoke/MethodHandle" ∧ yX6_verify.cls ≠ "java/lang/invoke/VarHandle" ∧ (parseMethodDescriptor yX6_verify.desc).map (fun d => d.parameters.length) = some 1 := by decide +kernel
theorem hdX6_mayUse : yX6_mayUse.cls = RX6 ∧ yX6_mayUse.cls ≠ "java/lang/invoke/MethodHandle" ∧ yX6_mayUse.cls ≠ "java/lang/invoke/VarHandle" ∧ (parseMethodDescriptor yX6_mayUse.desc).map (fun d => d.parameters.length) = some 2 := by decide +kernel
theorem hdX6_lesser : yX6_lesser.cls = RX6 ∧ yX6_lesser.cls ≠ "java/lang/invoke/MethodHandle" ∧ yX6_lesser.cls ≠ "java/lang/invoke/VarHandle" ∧ (parseMethodDescriptor yX6_lesser.desc).map (fun d => d.parameters.length) = some 2 := by decide +kernel
theorem hdX6_takeVintage : yX6_takeVintage.cls = RX6 ∧ yX6_takeVintage.cls ≠ "java/lang/invoke/MethodHandle" ∧ yX6_takeVintage.cls ≠ "java/lang/invoke/VarHandle" ∧ (parseMethodDescriptor yX6_takeVintage.desc).map (fun d => d.parameters.length) = some 2 := by decide +kernel
theorem hdX6_lay : yX6_lay.cls = RX6 ∧ yX6_lay.cls ≠ "java/lang/invoke/MethodHandle" ∧ yX6_lay.cls ≠ "java/lang/invoke/VarHandle" ∧ (parseMethodDescriptor yX6_lay.desc).map (fun d => d.parameters.length) = some 3 := by decide +kernel
theorem hdX6_surrender : yX6_surrender.cls = RX6 ∧ yX6_surrender.cls ≠ "java/lang/invoke/MethodHandle" ∧ yX6_surrender.cls ≠ "java/lang/invoke/VarHandle" ∧ (parseMethodDescriptor yX6_surrender.desc).map (fun d => d.parameters.length) = some 3 := by decide +kernel
theorem hdX6_beginYear : yX6_beginYear.cls = RX6 ∧ yX6_beginYear.cls ≠ "java/lang/invoke/MethodHandle" ∧ yX6_beginYear.cls ≠ "java/lang/invoke/VarHandle" ∧ (parseMethodDescriptor yX6_beginYear.desc).map (fun d => d.parameters.length) = some 0 := by decide +kernel
theorem hdX6_fineAll : yX6_fineAll.cls = RX6 ∧ yX6_fineAll.cls ≠ "java/lang/invoke/MethodHandle" ∧ yX6_fineAll.cls ≠ "java/lang/invoke/VarHandle" ∧ (parseMethodDescriptor yX6_fineAll.desc).map (fun d => d.parameters.length) = some 0 := by decide +kernel
theorem hdX6_pass : yX6_pass.cls = RX6 ∧ yX6_pass.cls ≠ "java/lang/invoke/MethodHandle" ∧ yX6_pass.cls ≠ "java/lang/invoke/VarHandle" ∧ (parseMethodDescriptor yX6_pass.desc).map (fun d => d.parameters.length) = some 1 := by decide +kernel
theorem hdX6_type : yX6_type.cls = RX6 ∧ yX6_type.cls ≠ "java/lang/invoke/MethodHandle" ∧ yX6_type.cls ≠ "java/lang/invoke/VarHandle" ∧ (parseMethodDescriptor yX6_type.desc).map (fun d => d.parameters.length) = some 1 := by decide +kernel
theorem hdX6_clearText : yX6_clearText.cls = RX6 ∧ yX6_clearText.cls ≠ "java/lang/invoke/MethodHandle" ∧ yX6_clearText.cls ≠ "java/lang/invoke/VarHandle" ∧ (parseMethodDescriptor yX6_clearText.desc).map (fun d => d.parameters.length) = some 0 := by decide +kernel
theorem hdX6_code : yX6_code.cls = RX6 ∧ yX6_code.cls ≠ "java/lang/invoke/MethodHandle" ∧ yX6_code.cls ≠ "java/lang/invoke/VarHandle" ∧ (parseMethodDescriptor yX6_code.desc).map (fun d => d.parameters.length) = some 0 := by decide +kernel
theorem hdX6_sign : yX6_sign.cls = RX6 ∧ yX6_sign.cls ≠ "java/lang/invoke/MethodHandle" ∧ yX6_sign.cls ≠ "java/lang/invoke/VarHandle" ∧ (parseMethodDescriptor yX6_sign.desc).map (fun d => d.parameters.length) = some 1 := by decide +kernel
theorem hdX6_number : yX6_number.cls = RX6 ∧ yX6_number.cls ≠ "java/lang/invoke/MethodHandle" ∧ yX6_number.cls ≠ "java/lang/invoke/VarHandle" ∧ (parseMethodDescriptor yX6_number.desc).map (fun d => d.parameters.length) = some 3 := by decide +kernel
theorem hdX6_readsTransfer : yX6_readsTransfer.cls = RX6 ∧ yX6_readsTransfer.cls ≠ "java/lang/invoke/MethodHandle" ∧ yX6_readsTransfer.cls ≠ "java/lang/invoke/VarHandle" ∧ (parseMethodDescriptor yX6_readsTransfer.desc).map (fun d => d.parameters.length) = some 0 := by decide +kernel
theorem hdX6_faultOf : yX6_faultOf.cls = RX6 ∧ yX6_faultOf.cls ≠ "java/lang/invoke/MethodHandle" ∧ yX6_faultOf.cls ≠ "java/lang/invoke/VarHandle" ∧ (parseMethodDescriptor yX6_faultOf.desc).map (fun d => d.parameters.length) = some 0 := by decide +kernel
theorem hdX6_transferOn : yX6_transferOn.cls = RX6 ∧ yX6_transferOn.cls ≠ "java/lang/invoke/MethodHandle" ∧ yX6_transferOn.cls ≠ "java/lang/invoke/VarHandle" ∧ (parseMethodDescriptor yX6_transferOn.desc).map (fun d => d.parameters.length) = some 0 := by decide +kernel
theorem hdX6_readTransfers : yX6_readTransfers.cls = RX6 ∧ yX6_readTransfers.cls ≠ "java/lang/invoke/MethodHandle" ∧ yX6_readTransfers.cls ≠ "java/lang/invoke/VarHandle" ∧ (parseMethodDescriptor yX6_readTransfers.desc).map (fun d => d.parameters.length) = some 0 := by decide +kernel
theorem hdX6_heldBy : yX6_heldBy.cls = RX6 ∧ yX6_heldBy.cls ≠ "java/lang/invoke/MethodHandle" ∧ yX6_heldBy.cls ≠ "java/lang/invoke/VarHandle" ∧ (parseMethodDescriptor yX6_heldBy.desc).map (fun d => d.parameters.length) = some 1 := by decide +kernel
theorem hdX6_vintagesOf : yX6_vintagesOf.cls = RX6 ∧ yX6_vintagesOf.cls ≠ "java/lang/invoke/MethodHandle" ∧ yX6_vintagesOf.cls ≠ "java/lang/invoke/VarHandle" ∧ (parseMethodDescriptor yX6_vintagesOf.desc).map (fun d => d.parameters.length) = some 1 := by decide +kernel
theorem hdX6_extreme : yX6_extreme.cls = RX6 ∧ yX6_extreme.cls ≠ "java/lang/invoke/MethodHandle" ∧ yX6_extreme.cls ≠ "java/lang/invoke/VarHandle" ∧ (parseMethodDescriptor yX6_extreme.desc).map (fun d => d.parameters.length) = some 2 := by decide +kernel
theorem hdX6_stillDue : yX6_stillDue.cls = RX6 ∧ yX6_stillDue.cls ≠ "java/lang/invoke/MethodHandle" ∧ yX6_stillDue.cls ≠ "java/lang/invoke/VarHandle" ∧ (parseMethodDescriptor yX6_stillDue.desc).map (fun d => d.parameters.length) = some 1 := by decide +kernel
theorem hdX6_firm : yX6_firm.cls = RX6 ∧ yX6_firm.cls ≠ "java/lang/invoke/MethodHandle" ∧ yX6_firm.cls ≠ "java/lang/invoke/VarHandle" ∧ (parseMethodDescriptor yX6_firm.desc).map (fun d => d.parameters.length) = some 2 := by decide +kernel
theorem hdX6_holds : yX6_holds.cls = RX6 ∧ yX6_holds.cls ≠ "java/lang/invoke/MethodHandle" ∧ yX6_holds.cls ≠ "java/lang/invoke/VarHandle" ∧ (parseMethodDescriptor yX6_holds.desc).map (fun d => d.parameters.length) = some 2 := by decide +kernel
theorem hdX6_offsets : yX6_offsets.cls = RX6 ∧ yX6_offsets.cls ≠ "java/lang/invoke/MethodHandle" ∧ yX6_offsets.cls ≠ "java/lang/invoke/VarHandle" ∧ (parseMethodDescriptor yX6_offsets.desc).map (fun d => d.parameters.length) = some 3 := by decide +kernel
theorem hdX6_heldOf : yX6_heldOf.cls = RX6 ∧ yX6_heldOf.cls ≠ "java/lang/invoke/MethodHandle" ∧ yX6_heldOf.cls ≠ "java/lang/invoke/VarHandle" ∧ (parseMethodDescriptor yX6_heldOf.desc).map (fun d => d.parameters.length) = some 1 := by decide +kernel
theorem hdX6_holders : yX6_holders.cls = RX6 ∧ yX6_holders.cls ≠ "java/lang/invoke/MethodHandle" ∧ yX6_holders.cls ≠ "java/lang/invoke/VarHandle" ∧ (parseMethodDescriptor yX6_holders.desc).map (fun d => d.parameters.length) = some 1 := by decide +kernel
theorem hdX6_monthsOf : yX6_monthsOf.cls = RX6 ∧ yX6_monthsOf.cls ≠ "java/lang/invoke/MethodHandle" ∧ yX6_monthsOf.cls ≠ "java/lang/invoke/VarHandle" ∧ (parseMethodDescriptor yX6_monthsOf.desc).map (fun d => d.parameters.length) = some 1 := by decide +kernel
theorem hdX6_vintage : yX6_vintage.cls = RX6 ∧ yX6_vintage.cls ≠ "java/lang/invoke/MethodHandle" ∧ yX6_vintage.cls ≠ "java/lang/invoke/VarHandle" ∧ (parseMethodDescriptor yX6_vintage.desc).map (fun d => d.parameters.length) = some 2 := by decide +kernel
theorem hdX6_grade : yX6_grade.cls = RX6 ∧ yX6_grade.cls ≠ "java/lang/invoke/MethodHandle" ∧ yX6_grade.cls ≠ "java/lang/invoke/VarHandle" ∧ (parseMethodDescriptor yX6_grade.desc).map (fun d => d.parameters.length) = some 2 := by decide +kernel
theorem hdX6_holder : yX6_holder.cls = RX6 ∧ yX6_holder.cls ≠ "java/lang/invoke/MethodHandle" ∧ yX6_holder.cls ≠ "java/lang/invoke/VarHandle" ∧ (parseMethodDescriptor yX6_holder.desc).map (fun d => d.parameters.length) = some 2 := by decide +kernel
theorem hdX6_plan : yX6_plan.cls = RX6 ∧ yX6_plan.cls ≠ "java/lang/invoke/MethodHandle" ∧ yX6_plan.cls ≠ "java/lang/invoke/VarHandle" ∧ (parseMethodDescriptor yX6_plan.desc).map (fun d => d.parameters.length) = some 4 := by decide +kernel
theorem hdX6_allHeld : yX6_allHeld.cls = RX6 ∧ yX6_allHeld.cls ≠ "java/lang/invoke/MethodHandle" ∧ yX6_allHeld.cls ≠ "java/lang/invoke/VarHandle" ∧ (parseMethodDescriptor yX6_allHeld.desc).map (fun d => d.parameters.length) = some 0 := by decide +kernel
theorem hdX6_allLost : yX6_allLost.cls = RX6 ∧ yX6_allLost.cls ≠ "java/lang/invoke/MethodHandle" ∧ yX6_allLost.cls ≠ "java/lang/invoke/VarHandle" ∧ (parseMethodDescriptor yX6_allLost.desc).map (fun d => d.parameters.length) = some 0 := by decide +kernel
theorem hdX6_monthsToDeadline : yX6_monthsToDeadline.cls = RX6 ∧ yX6_monthsToDeadline.cls ≠ "java/lang/invoke/MethodHandle" ∧ yX6_monthsToDeadline.cls ≠ "java/lang/invoke/VarHandle" ∧ (parseMethodDescriptor yX6_monthsToDeadline.desc).map (fun d => d.parameters.length) = some 0 := by decide +kernel
theorem hdX6_count : yX6_count.cls = RX6 ∧ yX6_count.cls ≠ "java/lang/invoke/MethodHandle" ∧ yX6_count.cls ≠ "java/lang/invoke/VarHandle" ∧ (parseMethodDescriptor yX6_count.desc).map (fun d => d.parameters.length) = some 1 := by decide +kernel
theorem hdL_law : yL_law.cls = RL ∧ yL_law.cls ≠ "java/lang/invoke/MethodHandle" ∧ yL_law.cls ≠ "java/lang/invoke/VarHandle" ∧ (parseMethodDescriptor yL_law.desc).map (fun d => d.parameters.length) = some 1 := by decide +kernel
theorem zM_i {l : Launch} {y : MethodName} {cc : ByteArray} {nL : Nat} {ret : Option FieldType} {rm : Room} {K : State → Heap → Prop} {A : Nat → Prop} {D : va_G} {cl : List vw_C} {tc : Nat → ClassId} {ad : Nat → Nat} {N : Nat} {sh : Nat → ZS} {av : List Value} {μ μ1 : Nat → Int32} {z z1 : Int32} (h : zMi l y cc nL ret rm K A D cl tc ad N sh av μ (fun r u => r = z ∧ u = μ1)) (hz : z = z1) : zMi l y cc nL ret rm K A D cl tc ad N sh av μ (fun r u => r = z1 ∧ u = μ1) := by
  rw [← hz]; exact h
theorem zM_im {l : Launch} {y : MethodName} {cc : ByteArray} {nL : Nat} {ret : Option FieldType} {rm : Room} {K : State → Heap → Prop} {A : Nat → Prop} {D : va_G} {cl : List vw_C} {tc : Nat → ClassId} {ad : Nat → Nat} {N : Nat} {sh : Nat → ZS} {av : List Value} {μ μ1 μ2 : Nat → Int32} {z z1 : Int32} (h : zMi l y cc nL ret rm K A D cl tc ad N sh av μ (fun r u => r = z ∧ u = μ1)) (hz : (z, μ1) = (z1, μ2)) : zMi l y cc nL ret rm K A D cl tc ad N sh av μ (fun r u => r = z1 ∧ u = μ2) := by
  cases hz; exact h
end
section
/-! the words for what methods do to numbers -/
def cpn (μ : Nat → Int32) (a b n : Nat) : Nat → Int32 := fun p => if b ≤ p ∧ p < b + n then μ (a + (p - b)) else μ p
def cp (μ : Nat → Int32) (a b : Nat) : Nat → Int32 := cpn μ a b 349
theorem cpn_0 (μ : Nat → Int32) (a b : Nat) : cpn μ a b 0 = μ := by
  funext p
  unfold cpn
  rw [if_neg (by omega)]
theorem cpn_out {μ : Nat → Int32} {a b n p : Nat} (h : p < b ∨ b + n ≤ p) : cpn μ a b n p = μ p := by
  unfold cpn
  rw [if_neg (by omega)]
theorem cpn_in {μ : Nat → Int32} {a b n p q : Nat} (h : b ≤ p) (h2 : p < b + n) (hq : q = a + (p - b)) : cpn μ a b n p = μ q := by
  unfold cpn
  rw [if_pos ⟨h, h2⟩, hq]
theorem cp_out {μ : Nat → Int32} {a b p : Nat} (h : p < b ∨ b + 349 ≤ p) : cp μ a b p = μ p := cpn_out h
theorem cp_in {μ : Nat → Int32} {a b p q : Nat} (h : b ≤ p) (h2 : p < b + 349) (hq : q = a + (p - b)) : cp μ a b p = μ q := cpn_in h h2 hq
theorem cpn_step {μ : Nat → Int32} {a b i : Nat} : upd (cpn μ a b i) (b + i) (μ (a + i)) = cpn μ a b (i + 1) := by
  funext p
  by_cases h : p = b + i
  · subst h
    rw [pk_us]
    exact (cpn_in (by omega) (by omega) (by omega)).symm
  · rw [pk_un h]
    by_cases h2 : b ≤ p ∧ p < b + i
    · rw [cpn_in h2.1 h2.2 rfl, cpn_in h2.1 (by omega) rfl]
    · rw [cpn_out (by omega), cpn_out (by omega)]
/-- a state comes into the history: there is room; it is full -/
def zrecA (μ : Nat → Int32) (b k : Nat) : Nat → Int32 := upd (cp μ b (349 * k + 349)) 2444 (nI (k + 1))
def zrecB (μ : Nat → Int32) (b : Nat) : Nat → Int32 := upd (cp (upd (cp (cp (cp μ 698 349) 1047 698) 1396 1047) 2444 (nI 3)) b 1396) 2444 (nI 4)
def zrec (μ : Nat → Int32) (b k : Nat) : Nat → Int32 := if k < 4 then zrecA μ b k else zrecB μ b
theorem zrec_out {μ : Nat → Int32} {b k p : Nat} (h : p < 349 ∨ 1745 ≤ p) (h2 : p ≠ 2444) (hk : k ≤ 4) : zrec μ b k p = μ p := by
  unfold zrec
  by_cases q : k < 4
  · rw [if_pos q]
    unfold zrecA
    rw [pk_un h2, cp_out (by omega)]
  · rw [if_neg q]
    unfold zrecB
    rw [pk_un h2, cp_out (by omega), pk_un h2, cp_out (by omega), cp_out (by omega), cp_out (by omega)]
/-- sums and counts -/
def zsum (g : Nat → Int32) : Nat → Int32
  | 0 => nI 0
  | n + 1 => zsum g n + g n
def zcnt (g : Nat → Int32) : Nat → Nat
  | 0 => 0
  | n + 1 => zcnt g n + (if 0 < g n then 1 else 0)
theorem zcnt_t {g : Nat → Int32} {n : Nat} (h : 0 < g n) : zcnt g n + 1 = zcnt g (n + 1) := by simp [zcnt, h]
theorem zcnt_f {g : Nat → Int32} {n : Nat} (h : ¬ 0 < g n) : zcnt g n = zcnt g (n + 1) := by simp [zcnt, h]
/-- what a firm may use of a grade -/
def zmay (μ : Nat → Int32) (f g : Nat) : Int32 := if μ (32 * f + 35) * μ (g + 2) / nI 100 - μ (32 * f + g + 30) < 0 then nI 0 else μ (32 * f + 35) * μ (g + 2) / nI 100 - μ (32 * f + g + 30)
/-- a firm's places are emptied -/
def zclr (μ : Nat → Int32) (f : Nat) : Nat → (Nat → Int32)
  | 0 => μ
  | n + 1 => upd (zclr μ f n) (32 * f + n + 7) (nI 0)
theorem zclr_out {μ : Nat → Int32} {f p : Nat} : ∀ {n : Nat}, (p < 32 * f + 7 ∨ 32 * f + n + 7 ≤ p) → zclr μ f n p = μ p
  | 0, _ => rfl
  | n + 1, h => (pk_un (by omega)).trans (zclr_out (by omega))
end
section
/-! the reference's small methods -/
def zin (x : Int32) (a b : Nat) : Prop := ∃ j, a ≤ j ∧ j ≤ b ∧ x = nI j
theorem zin_of {x : Int32} {a b : Nat} (hb : b < 2 ^ 31) (h1 : nI a ≤ x) (h2 : x ≤ nI b) (ha : a < 2 ^ 31) : zin x a b := by
  rw [Int32.le_iff_toInt_le, nI_toInt ha] at h1
  rw [Int32.le_iff_toInt_le, nI_toInt hb] at h2
  refine ⟨x.toInt.toNat, by omega, by omega, ?_⟩
  apply Int32.toInt_inj.mp
  rw [nI_toInt (by omega)]
  omega
def zfm (x : Int32) (c : Nat) : Prop := ∃ f, f < c ∧ x = nI f
theorem zfm_f {x : Int32} {c : Nat} (hc : c ≤ 8) (h : ¬ zfm x c) : ¬ (nI 0 ≤ x ∧ x ≤ nI c - nI 1) := by
  rintro ⟨h1, h2⟩
  apply h
  rw [Int32.le_iff_toInt_le, nI_toInt (by omega)] at h1
  rw [Int32.le_iff_toInt_le, pk_sub_toInt (by omega) (by omega)] at h2
  refine ⟨x.toInt.toNat, by omega, ?_⟩
  apply Int32.toInt_inj.mp
  rw [nI_toInt (by omega)]
  omega
set_option maxHeartbeats 4000000 in
set_option maxRecDepth 100000 in
theorem c_of {l : Launch} {D : va_G} {tc : Nat → ClassId} {ad : Nat → Nat} {A : Nat → Prop} {tF tL tM : Nat} (E : zN 6 A ad) (μ : Nat → Int32) (f k : Nat) : zMi l yX6_of cX6_of 2 (some .int) (zrm 1) (zK A D tc tF tL tM) A D vwCl tc ad 6 shR [.int (nI (f)), .int (nI (k))] μ (fun r u => r = nI (32 * f + k + 7) ∧ u = μ) := by
  refine zM_of RX6 [(0, .int (nI (f))), (1, .int (nI (k)))] (zK_ok A D tc tF tL tM) E.1 E.2 owR_ok (by decide +kernel) rfl (Nat.le_of_ble_eq_true rfl) rfl ?_
  intro pP eE sS mM aS bL mT cO X
  refine zr_bipush X (nI (7)) dX6_of_0 (by decide +kernel) ?_
  refine zr_bipush X (nI (32)) dX6_of_2 (by decide +kernel) ?_
  refine zr_iloadn X 0 dX6_of_4 rfl ?_
  refine zr_imul X (nI (32 * f)) dX6_of_5 ((pk_mul _ _).trans (congrArg nI (by omega))) ?_
  refine zr_iadd X (nI (32 * f + 7)) dX6_of_6 ((nI_add _ _).trans (congrArg nI (by omega))) ?_
  refine zr_iloadn X 1 dX6_of_7 rfl ?_
  refine zr_iadd X (nI (32 * f + k + 7)) dX6_of_8 ((nI_add _ _).trans (congrArg nI (by omega))) ?_
  exact zr_iret X dX6_of_9 ⟨rfl, rfl⟩

set_option maxHeartbeats 4000000 in
set_option maxRecDepth 100000 in
theorem c_in_t {l : Launch} {D : va_G} {tc : Nat → ClassId} {ad : Nat → Nat} {A : Nat → Prop} {tF tL tM : Nat} (E : zN 6 A ad) (μ : Nat → Int32) {v a b : Int32} (h1 : a ≤ v) (h2 : v ≤ b) : zMi l yX6_in cX6_in 3 (some .boolean) (zrm 1) (zK A D tc tF tL tM) A D vwCl tc ad 6 shR [.int (v), .int (a), .int (b)] μ (fun r u => r = nI 1 ∧ u = μ) := by
  refine zM_of RX6 [(0, .int (v)), (1, .int (a)), (2, .int (b))] (zK_ok A D tc tF tL tM) E.1 E.2 owR_ok (by decide +kernel) rfl (Nat.le_of_ble_eq_true rfl) rfl ?_
  intro pP eE sS mM aS bL mT cO X
  refine zr_iloadn X 0 dX6_in_0 rfl ?_
  refine zr_iloadn X 1 dX6_in_1 rfl ?_
  refine zr_icmp_lt X 14 dX6_in_2 (by decide) (fun q => absurd q (Int32.not_lt.mpr h1)) (fun _ => ?_)
  refine zr_iloadn X 0 dX6_in_5 rfl ?_
  refine zr_iloadn X 2 dX6_in_6 rfl ?_
  refine zr_icmp_gt X 14 dX6_in_7 (by decide) (fun q => absurd q (Int32.not_lt.mpr h2)) (fun _ => ?_)
  refine zr_iconst X (nI (1)) dX6_in_10 (by decide +kernel) ?_
  refine zr_goto X 15 dX6_in_11 (by decide) ?_
  exact zr_zret X dX6_in_15 rfl ⟨rfl, rfl⟩

set_option maxHeartbeats 4000000 in
set_option maxRecDepth 100000 in
theorem c_in_f {l : Launch} {D : va_G} {tc : Nat → ClassId} {ad : Nat → Nat} {A : Nat → Prop} {tF tL tM : Nat} (E : zN 6 A ad) (μ : Nat → Int32) {v a b : Int32} (h : ¬ (a ≤ v ∧ v ≤ b)) : zMi l yX6_in cX6_in 3 (some .boolean) (zrm 1) (zK A D tc tF tL tM) A D vwCl tc ad 6 shR [.int (v), .int (a), .int (b)] μ (fun r u => r = nI 0 ∧ u = μ) := by
  refine zM_of RX6 [(0, .int (v)), (1, .int (a)), (2, .int (b))] (zK_ok A D tc tF tL tM) E.1 E.2 owR_ok (by decide +kernel) rfl (Nat.le_of_ble_eq_true rfl) rfl ?_
  intro pP eE sS mM aS bL mT cO X
  refine zr_iloadn X 0 dX6_in_0 rfl ?_
  refine zr_iloadn X 1 dX6_in_1 rfl ?_
  refine zr_icmp_lt X 14 dX6_in_2 (by decide) (fun h2 => ?_) (fun h2 => ?_)
  · refine zr_iconst X (nI (0)) dX6_in_14 (by decide +kernel) ?_
    exact zr_zret X dX6_in_15 rfl ⟨rfl, rfl⟩
  · refine zr_iloadn X 0 dX6_in_5 rfl ?_
    refine zr_iloadn X 2 dX6_in_6 rfl ?_
    refine zr_icmp_gt X 14 dX6_in_7 (by decide) (fun _ => ?_) (fun q => absurd (Int32.not_le.mp (fun q => h ⟨Int32.not_lt.mp h2, q⟩)) q)
    refine zr_iconst X (nI (0)) dX6_in_14 (by decide +kernel) ?_
    exact zr_zret X dX6_in_15 rfl ⟨rfl, rfl⟩

set_option maxHeartbeats 4000000 in
set_option maxRecDepth 100000 in
theorem c_isVintage_t {l : Launch} {D : va_G} {tc : Nat → ClassId} {ad : Nat → Nat} {A : Nat → Prop} {tF tL tM : Nat} (E : zN 6 A ad) (μ : Nat → Int32) {v : Nat} (h1 : 0 ≤ v) (h2 : v ≤ 19) : zMi l yX6_isVintage cX6_isVintage 1 (some .boolean) (zrm 2) (zK A D tc tF tL tM) A D vwCl tc ad 6 shR [.int (nI (v))] μ (fun r u => r = nI 1 ∧ u = μ) := by
  refine zM_of RX6 [(0, .int (nI (v)))] (zK_ok A D tc tF tL tM) E.1 E.2 owR_ok (by decide +kernel) rfl (Nat.le_of_ble_eq_true rfl) rfl ?_
  intro pP eE sS mM aS bL mT cO X
  refine zr_iloadn X 0 dX6_isVintage_0 rfl ?_
  refine zr_iconst X (nI (0)) dX6_isVintage_1 (by decide +kernel) ?_
  refine zr_bipush X (nI (19)) dX6_isVintage_2 (by decide +kernel) ?_
  refine zr_dSi [.int (nI (v)), .int (nI (0)), .int (nI (19))] [] X (zK_ok A D tc tF tL tM) (c_in_t E μ (zq_le (by omega) (by omega)) (zq_le (by omega) (by omega))) k_604 k_605 k_7 k_606 hdX6_in ⟨rfl, rfl⟩ ⟨Nat.le_of_ble_eq_true rfl, Nat.le_of_ble_eq_true rfl⟩ rfl rfl (Nat.le_of_ble_eq_true rfl) dX6_isVintage_4 ?_
  exact zr_zret X dX6_isVintage_7 rfl ⟨rfl, rfl⟩

set_option maxHeartbeats 4000000 in
set_option maxRecDepth 100000 in
theorem c_isVintage_f {l : Launch} {D : va_G} {tc : Nat → ClassId} {ad : Nat → Nat} {A : Nat → Prop} {tF tL tM : Nat} (E : zN 6 A ad) (μ : Nat → Int32) {v : Int32} (h : ¬ zin v 0 19) : zMi l yX6_isVintage cX6_isVintage 1 (some .boolean) (zrm 2) (zK A D tc tF tL tM) A D vwCl tc ad 6 shR [.int (v)] μ (fun r u => r = nI 0 ∧ u = μ) := by
  refine zM_of RX6 [(0, .int (v))] (zK_ok A D tc tF tL tM) E.1 E.2 owR_ok (by decide +kernel) rfl (Nat.le_of_ble_eq_true rfl) rfl ?_
  intro pP eE sS mM aS bL mT cO X
  refine zr_iloadn X 0 dX6_isVintage_0 rfl ?_
  refine zr_iconst X (nI (0)) dX6_isVintage_1 (by decide +kernel) ?_
  refine zr_bipush X (nI (19)) dX6_isVintage_2 (by decide +kernel) ?_
  refine zr_dSi [.int (v), .int (nI (0)), .int (nI (19))] [] X (zK_ok A D tc tF tL tM) (c_in_f E μ (fun q => h (zin_of (by omega) q.1 q.2 (by omega)))) k_604 k_605 k_7 k_606 hdX6_in ⟨rfl, rfl⟩ ⟨Nat.le_of_ble_eq_true rfl, Nat.le_of_ble_eq_true rfl⟩ rfl rfl (Nat.le_of_ble_eq_true rfl) dX6_isVintage_4 ?_
  exact zr_zret X dX6_isVintage_7 rfl ⟨rfl, rfl⟩

set_option maxHeartbeats 4000000 in
set_option maxRecDepth 100000 in
theorem c_isGrade_t {l : Launch} {D : va_G} {tc : Nat → ClassId} {ad : Nat → Nat} {A : Nat → Prop} {tF tL tM : Nat} (E : zN 6 A ad) (μ : Nat → Int32) {v : Nat} (h1 : 0 ≤ v) (h2 : v ≤ 2) : zMi l yX6_isGrade cX6_isGrade 1 (some .boolean) (zrm 2) (zK A D tc tF tL tM) A D vwCl tc ad 6 shR [.int (nI (v))] μ (fun r u => r = nI 1 ∧ u = μ) := by
  refine zM_of RX6 [(0, .int (nI (v)))] (zK_ok A D tc tF tL tM) E.1 E.2 owR_ok (by decide +kernel) rfl (Nat.le_of_ble_eq_true rfl) rfl ?_
  intro pP eE sS mM aS bL mT cO X
  refine zr_iloadn X 0 dX6_isGrade_0 rfl ?_
  refine zr_iconst X (nI (0)) dX6_isGrade_1 (by decide +kernel) ?_
  refine zr_iconst X (nI (2)) dX6_isGrade_2 (by decide +kernel) ?_
  refine zr_dSi [.int (nI (v)), .int (nI (0)), .int (nI (2))] [] X (zK_ok A D tc tF tL tM) (c_in_t E μ (zq_le (by omega) (by omega)) (zq_le (by omega) (by omega))) k_604 k_605 k_7 k_606 hdX6_in ⟨rfl, rfl⟩ ⟨Nat.le_of_ble_eq_true rfl, Nat.le_of_ble_eq_true rfl⟩ rfl rfl (Nat.le_of_ble_eq_true rfl) dX6_isGrade_3 ?_
  exact zr_zret X dX6_isGrade_6 rfl ⟨rfl, rfl⟩

set_option maxHeartbeats 4000000 in
set_option maxRecDepth 100000 in
theorem c_isGrade_f {l : Launch} {D : va_G} {tc : Nat → ClassId} {ad : Nat → Nat} {A : Nat → Prop} {tF tL tM : Nat} (E : zN 6 A ad) (μ : Nat → Int32) {v : Int32} (h : ¬ zin v 0 2) : zMi l yX6_isGrade cX6_isGrade 1 (some .boolean) (zrm 2) (zK A D tc tF tL tM) A D vwCl tc ad 6 shR [.int (v)] μ (fun r u => r = nI 0 ∧ u = μ) := by
  refine zM_of RX6 [(0, .int (v))] (zK_ok A D tc tF tL tM) E.1 E.2 owR_ok (by decide +kernel) rfl (Nat.le_of_ble_eq_true rfl) rfl ?_
  intro pP eE sS mM aS bL mT cO X
  refine zr_iloadn X 0 dX6_isGrade_0 rfl ?_
  refine zr_iconst X (nI (0)) dX6_isGrade_1 (by decide +kernel) ?_
  refine zr_iconst X (nI (2)) dX6_isGrade_2 (by decide +kernel) ?_
  refine zr_dSi [.int (v), .int (nI (0)), .int (nI (2))] [] X (zK_ok A D tc tF tL tM) (c_in_f E μ (fun q => h (zin_of (by omega) q.1 q.2 (by omega)))) k_604 k_605 k_7 k_606 hdX6_in ⟨rfl, rfl⟩ ⟨Nat.le_of_ble_eq_true rfl, Nat.le_of_ble_eq_true rfl⟩ rfl rfl (Nat.le_of_ble_eq_true rfl) dX6_isGrade_3 ?_
  exact zr_zret X dX6_isGrade_6 rfl ⟨rfl, rfl⟩

set_option maxHeartbeats 4000000 in
set_option maxRecDepth 100000 in
theorem c_isTonnes_t {l : Launch} {D : va_G} {tc : Nat → ClassId} {ad : Nat → Nat} {A : Nat → Prop} {tF tL tM : Nat} (E : zN 6 A ad) (μ : Nat → Int32) {v : Nat} (h1 : 1 ≤ v) (h2 : v ≤ 9999) : zMi l yX6_isTonnes cX6_isTonnes 1 (some .boolean) (zrm 2) (zK A D tc tF tL tM) A D vwCl tc ad 6 shR [.int (nI (v))] μ (fun r u => r = nI 1 ∧ u = μ) := by
  refine zM_of RX6 [(0, .int (nI (v)))] (zK_ok A D tc tF tL tM) E.1 E.2 owR_ok (by decide +kernel) rfl (Nat.le_of_ble_eq_true rfl) rfl ?_
  intro pP eE sS mM aS bL mT cO X
  refine zr_iloadn X 0 dX6_isTonnes_0 rfl ?_
  refine zr_iconst X (nI (1)) dX6_isTonnes_1 (by decide +kernel) ?_
  refine zr_sipush X (nI (9999)) dX6_isTonnes_2 (by decide +kernel) ?_
  refine zr_dSi [.int (nI (v)), .int (nI (1)), .int (nI (9999))] [] X (zK_ok A D tc tF tL tM) (c_in_t E μ (zq_le (by omega) (by omega)) (zq_le (by omega) (by omega))) k_604 k_605 k_7 k_606 hdX6_in ⟨rfl, rfl⟩ ⟨Nat.le_of_ble_eq_true rfl, Nat.le_of_ble_eq_true rfl⟩ rfl rfl (Nat.le_of_ble_eq_true rfl) dX6_isTonnes_5 ?_
  exact zr_zret X dX6_isTonnes_8 rfl ⟨rfl, rfl⟩

set_option maxHeartbeats 4000000 in
set_option maxRecDepth 100000 in
theorem c_isTonnes_f {l : Launch} {D : va_G} {tc : Nat → ClassId} {ad : Nat → Nat} {A : Nat → Prop} {tF tL tM : Nat} (E : zN 6 A ad) (μ : Nat → Int32) {v : Int32} (h : ¬ zin v 1 9999) : zMi l yX6_isTonnes cX6_isTonnes 1 (some .boolean) (zrm 2) (zK A D tc tF tL tM) A D vwCl tc ad 6 shR [.int (v)] μ (fun r u => r = nI 0 ∧ u = μ) := by
  refine zM_of RX6 [(0, .int (v))] (zK_ok A D tc tF tL tM) E.1 E.2 owR_ok (by decide +kernel) rfl (Nat.le_of_ble_eq_true rfl) rfl ?_
  intro pP eE sS mM aS bL mT cO X
  refine zr_iloadn X 0 dX6_isTonnes_0 rfl ?_
  refine zr_iconst X (nI (1)) dX6_isTonnes_1 (by decide +kernel) ?_
  refine zr_sipush X (nI (9999)) dX6_isTonnes_2 (by decide +kernel) ?_
  refine zr_dSi [.int (v), .int (nI (1)), .int (nI (9999))] [] X (zK_ok A D tc tF tL tM) (c_in_f E μ (fun q => h (zin_of (by omega) q.1 q.2 (by omega)))) k_604 k_605 k_7 k_606 hdX6_in ⟨rfl, rfl⟩ ⟨Nat.le_of_ble_eq_true rfl, Nat.le_of_ble_eq_true rfl⟩ rfl rfl (Nat.le_of_ble_eq_true rfl) dX6_isTonnes_5 ?_
  exact zr_zret X dX6_isTonnes_8 rfl ⟨rfl, rfl⟩

set_option maxHeartbeats 4000000 in
set_option maxRecDepth 100000 in
theorem c_isFirm_t {l : Launch} {D : va_G} {tc : Nat → ClassId} {ad : Nat → Nat} {A : Nat → Prop} {tF tL tM : Nat} (E : zN 6 A ad) (μ : Nat → Int32) {f c : Nat} (hc : μ 1 = nI c) (h8 : c ≤ 8) (h : f < c) : zMi l yX6_isFirm cX6_isFirm 2 (some .boolean) (zrm 2) (zK A D tc tF tL tM) A D vwCl tc ad 6 shR [.ref (ad (0)), .int (nI (f))] μ (fun r u => r = nI 1 ∧ u = μ) := by
  refine zM_of RX6 [(0, .ref (ad (0))), (1, .int (nI (f)))] (zK_ok A D tc tF tL tM) E.1 E.2 owR_ok (by decide +kernel) rfl (Nat.le_of_ble_eq_true rfl) rfl ?_
  intro pP eE sS mM aS bL mT cO X
  refine zr_iloadn X 1 dX6_isFirm_0 rfl ?_
  refine zr_iconst X (nI (0)) dX6_isFirm_1 (by decide +kernel) ?_
  refine zr_aloadn X 0 dX6_isFirm_2 rfl ?_
  refine zr_get X (ci := 6) (q := 0) (zR (1)) (.ref (ad (1))) dX6_isFirm_3 (by omega) rfl rfl inX6 (by decide) rfl (rfl) rfl k_539 ?_
  refine zr_iconst X (nI (1)) dX6_isFirm_6 (by decide +kernel) ?_
  refine zr_iald X (j := 1) 0 (nI (c)) dX6_isFirm_7 (by omega) rfl rfl rfl (by omega) (by omega) (zcg (b := 1) (by omega) (hc)) ?_
  refine zr_iconst X (nI (1)) dX6_isFirm_8 (by decide +kernel) ?_
  refine zr_isub X (nI (c - 1)) dX6_isFirm_9 ((pk_sub (by omega)).trans (congrArg nI (by omega))) ?_
  refine zr_dSi [.int (nI (f)), .int (nI (0)), .int (nI (c - 1))] [] X (zK_ok A D tc tF tL tM) (c_in_t E μ (zq_le (by omega) (by omega)) (zq_le (by omega) (by omega))) k_604 k_605 k_7 k_606 hdX6_in ⟨rfl, rfl⟩ ⟨Nat.le_of_ble_eq_true rfl, Nat.le_of_ble_eq_true rfl⟩ rfl rfl (Nat.le_of_ble_eq_true rfl) dX6_isFirm_10 ?_
  exact zr_zret X dX6_isFirm_13 rfl ⟨rfl, rfl⟩

set_option maxHeartbeats 4000000 in
set_option maxRecDepth 100000 in
theorem c_isFirm_f {l : Launch} {D : va_G} {tc : Nat → ClassId} {ad : Nat → Nat} {A : Nat → Prop} {tF tL tM : Nat} (E : zN 6 A ad) (μ : Nat → Int32) {x : Int32} {c : Nat} (hc : μ 1 = nI c) (h8 : c ≤ 8) (h : ¬ zfm x c) : zMi l yX6_isFirm cX6_isFirm 2 (some .boolean) (zrm 2) (zK A D tc tF tL tM) A D vwCl tc ad 6 shR [.ref (ad (0)), .int (x)] μ (fun r u => r = nI 0 ∧ u = μ) := by
  refine zM_of RX6 [(0, .ref (ad (0))), (1, .int (x))] (zK_ok A D tc tF tL tM) E.1 E.2 owR_ok (by decide +kernel) rfl (Nat.le_of_ble_eq_true rfl) rfl ?_
  intro pP eE sS mM aS bL mT cO X
  refine zr_iloadn X 1 dX6_isFirm_0 rfl ?_
  refine zr_iconst X (nI (0)) dX6_isFirm_1 (by decide +kernel) ?_
  refine zr_aloadn X 0 dX6_isFirm_2 rfl ?_
  refine zr_get X (ci := 6) (q := 0) (zR (1)) (.ref (ad (1))) dX6_isFirm_3 (by omega) rfl rfl inX6 (by decide) rfl (rfl) rfl k_539 ?_
  refine zr_iconst X (nI (1)) dX6_isFirm_6 (by decide +kernel) ?_
  refine zr_iald X (j := 1) 0 (nI (c)) dX6_isFirm_7 (by omega) rfl rfl rfl (by omega) (by omega) (zcg (b := 1) (by omega) (hc)) ?_
  refine zr_iconst X (nI (1)) dX6_isFirm_8 (by decide +kernel) ?_
  refine zr_isub X (nI (c) - nI (1)) dX6_isFirm_9 rfl ?_
  refine zr_dSi [.int (x), .int (nI (0)), .int (nI (c) - nI (1))] [] X (zK_ok A D tc tF tL tM) (c_in_f E μ (zfm_f h8 h)) k_604 k_605 k_7 k_606 hdX6_in ⟨rfl, rfl⟩ ⟨Nat.le_of_ble_eq_true rfl, Nat.le_of_ble_eq_true rfl⟩ rfl rfl (Nat.le_of_ble_eq_true rfl) dX6_isFirm_10 ?_
  exact zr_zret X dX6_isFirm_13 rfl ⟨rfl, rfl⟩

set_option maxHeartbeats 4000000 in
set_option maxRecDepth 100000 in
theorem c_copy {l : Launch} {D : va_G} {tc : Nat → ClassId} {ad : Nat → Nat} {A : Nat → Prop} {tF tL tM : Nat} (E : zN 6 A ad) (μ : Nat → Int32) {a b : Nat} (hab : a + 349 ≤ b ∨ b + 349 ≤ a) (ha : a + 349 ≤ 2443) (hb : b + 349 ≤ 2443) : zMv l yX6_copy cX6_copy 4 (zrm 1) (zK A D tc tF tL tM) A D vwCl tc ad 6 shR [.ref (ad (0)), .int (nI (a)), .int (nI (b))] μ (fun u => u = cp μ a b) := by
  refine zM_of RX6 [(0, .ref (ad (0))), (1, .int (nI (a))), (2, .int (nI (b)))] (zK_ok A D tc tF tL tM) E.1 E.2 owR_ok (by decide +kernel) rfl (Nat.le_of_ble_eq_true rfl) rfl ?_
  intro pP eE sS mM aS bL mT cO X
  refine zr_iconst X (nI (0)) dX6_copy_0 (by decide +kernel) ?_
  refine zr_istoren X [1, 2, 3, 0] [(0, .ref (ad (0))), (1, .int (nI (a))), (2, .int (nI (b))), (3, .int (nI (0)))] dX6_copy_1 (by decide) rfl ?_
  refine zr_for X (349) (fun i => (cpn μ (a) (b) (i))) (fun i => [(0, .ref (ad (0))), (1, .int (nI (a))), (2, .int (nI (b))), (3, .int (nI (i)))]) [] (cpn_0 _ _ _) rfl ?_ ?_
  · refine zr_iloadn X 3 dX6_copy_2 rfl ?_
    refine zr_sipush X (nI (349)) dX6_copy_3 (by decide +kernel) ?_
    refine zr_icmp_ge X 31 dX6_copy_6 (by decide) (fun _ => ?_) (fun q => absurd (zq_le (by omega) (by omega)) q)
    exact zr_vret X dX6_copy_31 rfl
  · intro i hi ih2
    refine zr_iloadn X 3 dX6_copy_2 rfl ?_
    refine zr_sipush X (nI (349)) dX6_copy_3 (by decide +kernel) ?_
    refine zr_icmp_ge X 31 dX6_copy_6 (by decide) (fun q => absurd q (nI_ge (by omega) (by omega))) (fun _ => ?_)
    refine zr_aloadn X 0 dX6_copy_9 rfl ?_
    refine zr_get X (ci := 6) (q := 0) (zR (1)) (.ref (ad (1))) dX6_copy_10 (by omega) rfl rfl inX6 (by decide) rfl (rfl) rfl k_539 ?_
    refine zr_iloadn X 2 dX6_copy_13 rfl ?_
    refine zr_iloadn X 3 dX6_copy_14 rfl ?_
    refine zr_iadd X (nI (b + i)) dX6_copy_15 (nI_add _ _) ?_
    refine zr_aloadn X 0 dX6_copy_16 rfl ?_
    refine zr_get X (ci := 6) (q := 0) (zR (1)) (.ref (ad (1))) dX6_copy_17 (by omega) rfl rfl inX6 (by decide) rfl (rfl) rfl k_539 ?_
    refine zr_iloadn X 1 dX6_copy_20 rfl ?_
    refine zr_iloadn X 3 dX6_copy_21 rfl ?_
    refine zr_iadd X (nI (a + i)) dX6_copy_22 (nI_add _ _) ?_
    refine zr_iald X (j := a + i) 0 (μ (a + i)) dX6_copy_23 (by omega) rfl rfl rfl (by omega) (by omega) (zcg (b := a + i) (by omega) (cpn_out (by omega))) ?_
    refine zr_iast X (j := b + i) 0 (b + i) dX6_copy_24 (by omega) rfl rfl rfl (by omega) (by omega) (by omega) ?_
    refine zr_iinc X 3 (nI (i + 1)) [1, 2, 3, 0] [(0, .ref (ad (0))), (1, .int (nI (a))), (2, .int (nI (b))), (3, .int (nI (i + 1)))] dX6_copy_25 rfl (zinc _) (by decide) rfl ?_
    refine zr_goto X 2 dX6_copy_28 (by decide) ?_
    exact zr_mem X cpn_step ih2

set_option maxHeartbeats 4000000 in
set_option maxRecDepth 100000 in
theorem c_record_a {l : Launch} {D : va_G} {tc : Nat → ClassId} {ad : Nat → Nat} {A : Nat → Prop} {tF tL tM : Nat} (E : zN 6 A ad) (μ : Nat → Int32) {b k : Nat} (hk : μ 2444 = nI k) (h4 : k < 4) (hb : b = 0 ∨ b = 2094) : zMv l yX6_record cX6_record 3 (zrm 2) (zK A D tc tF tL tM) A D vwCl tc ad 6 shR [.ref (ad (0)), .int (nI (b))] μ (fun u => u = zrecA μ b k) := by
  refine zM_of RX6 [(0, .ref (ad (0))), (1, .int (nI (b)))] (zK_ok A D tc tF tL tM) E.1 E.2 owR_ok (by decide +kernel) rfl (Nat.le_of_ble_eq_true rfl) rfl ?_
  intro pP eE sS mM aS bL mT cO X
  refine zr_aloadn X 0 dX6_record_0 rfl ?_
  refine zr_get X (ci := 6) (q := 1) zI (.int (nI (k))) dX6_record_1 (by omega) rfl rfl inX6 (by decide) rfl (congrArg Value.int (hk)) rfl k_540 ?_
  refine zr_iconst X (nI (4)) dX6_record_4 (by decide +kernel) ?_
  refine zr_icmp_ne X 49 dX6_record_5 (by decide) (fun _ => ?_) (fun q => absurd q (zq_ne (by omega) (by omega) (by omega)))
  refine zr_aloadn X 0 dX6_record_49 rfl ?_
  refine zr_iloadn X 1 dX6_record_50 rfl ?_
  refine zr_sipush X (nI (349)) dX6_record_51 (by decide +kernel) ?_
  refine zr_sipush X (nI (349)) dX6_record_54 (by decide +kernel) ?_
  refine zr_aloadn X 0 dX6_record_57 rfl ?_
  refine zr_get X (ci := 6) (q := 1) zI (.int (nI (k))) dX6_record_58 (by omega) rfl rfl inX6 (by decide) rfl (congrArg Value.int (hk)) rfl k_540 ?_
  refine zr_imul X (nI (349 * k)) dX6_record_61 ((pk_mul _ _).trans (congrArg nI (by omega))) ?_
  refine zr_iadd X (nI (349 * k + 349)) dX6_record_62 ((nI_add _ _).trans (congrArg nI (by omega))) ?_
  refine zr_dVv (C := RX6) (ci := 6) [.int (nI (b)), .int (nI (349 * k + 349))] [] X (zK_ok A D tc tF tL tM) (c_copy E μ (by omega) (by omega) (by omega)) k_577 k_579 kp_0 k_7 k_580 hdX6_copy ⟨rfl, rfl⟩ ⟨Nat.le_of_ble_eq_true rfl, Nat.le_of_ble_eq_true rfl⟩ (by omega) rfl rfl rfl rfl (Nat.le_of_ble_eq_true rfl) dX6_record_63 ?_
  refine zr_aloadn X 0 dX6_record_66 rfl ?_
  refine zr_dup X dX6_record_67 rfl ?_
  refine zr_get X (ci := 6) (q := 1) zI (.int (nI (k))) dX6_record_68 (by omega) rfl rfl inX6 (by decide) rfl (congrArg Value.int ((cp_out (by omega)).trans (hk))) rfl k_540 ?_
  refine zr_iconst X (nI (1)) dX6_record_71 (by decide +kernel) ?_
  refine zr_iadd X (nI (k + 1)) dX6_record_72 (nI_add _ _) ?_
  refine zr_put X (ci := 6) (q := 1) (ty0 := tyX6) (ty := .int) (2444) dX6_record_73 (by omega) rfl rfl inX6 tyX6_ok nmX6 (by decide) rfl rfl rfl rfl rfl rfl k_540 (by omega) ?_
  exact zr_vret X dX6_record_76 rfl

set_option maxHeartbeats 4000000 in
set_option maxRecDepth 100000 in
theorem c_record_b {l : Launch} {D : va_G} {tc : Nat → ClassId} {ad : Nat → Nat} {A : Nat → Prop} {tF tL tM : Nat} (E : zN 6 A ad) (μ : Nat → Int32) {b : Nat} (hk : μ 2444 = nI 4) (hb : b = 0 ∨ b = 2094) : zMv l yX6_record cX6_record 3 (zrm 2) (zK A D tc tF tL tM) A D vwCl tc ad 6 shR [.ref (ad (0)), .int (nI (b))] μ (fun u => u = zrecB μ b) := by
  refine zM_of RX6 [(0, .ref (ad (0))), (1, .int (nI (b)))] (zK_ok A D tc tF tL tM) E.1 E.2 owR_ok (by decide +kernel) rfl (Nat.le_of_ble_eq_true rfl) rfl ?_
  intro pP eE sS mM aS bL mT cO X
  refine zr_aloadn X 0 dX6_record_0 rfl ?_
  refine zr_get X (ci := 6) (q := 1) zI (.int (nI (4))) dX6_record_1 (by omega) rfl rfl inX6 (by decide) rfl (congrArg Value.int (hk)) rfl k_540 ?_
  refine zr_iconst X (nI (4)) dX6_record_4 (by decide +kernel) ?_
  refine zr_icmp_ne X 49 dX6_record_5 (by decide) (fun q => absurd (zq_eq (by omega)) q) (fun _ => ?_)
  refine zr_iconst X (nI (1)) dX6_record_8 (by decide +kernel) ?_
  refine zr_istoren X [1, 2, 0] [(0, .ref (ad (0))), (1, .int (nI (b))), (2, .int (nI (1)))] dX6_record_9 (by decide) rfl ?_
  refine zr_iloadn X 2 dX6_record_10 rfl ?_
  refine zr_iconst X (nI (4)) dX6_record_11 (by decide +kernel) ?_
  refine zr_icmp_ge X 39 dX6_record_12 (by decide) (fun q => absurd q (nI_ge (by omega) (by omega))) (fun _ => ?_)
  refine zr_aloadn X 0 dX6_record_15 rfl ?_
  refine zr_sipush X (nI (349)) dX6_record_16 (by decide +kernel) ?_
  refine zr_sipush X (nI (349)) dX6_record_19 (by decide +kernel) ?_
  refine zr_iloadn X 2 dX6_record_22 rfl ?_
  refine zr_imul X (nI (349)) dX6_record_23 ((pk_mul _ _).trans (congrArg nI (by omega))) ?_
  refine zr_iadd X (nI (698)) dX6_record_24 ((nI_add _ _).trans (congrArg nI (by omega))) ?_
  refine zr_sipush X (nI (349)) dX6_record_25 (by decide +kernel) ?_
  refine zr_iloadn X 2 dX6_record_28 rfl ?_
  refine zr_imul X (nI (349)) dX6_record_29 ((pk_mul _ _).trans (congrArg nI (by omega))) ?_
  refine zr_dVv (C := RX6) (ci := 6) [.int (nI (698)), .int (nI (349))] [] X (zK_ok A D tc tF tL tM) (c_copy E μ (by omega) (by omega) (by omega)) k_577 k_579 kp_0 k_7 k_580 hdX6_copy ⟨rfl, rfl⟩ ⟨Nat.le_of_ble_eq_true rfl, Nat.le_of_ble_eq_true rfl⟩ (by omega) rfl rfl rfl rfl (Nat.le_of_ble_eq_true rfl) dX6_record_30 ?_
  refine zr_iinc X 2 (nI (2)) [1, 2, 0] [(0, .ref (ad (0))), (1, .int (nI (b))), (2, .int (nI (2)))] dX6_record_33 rfl (zinc _) (by decide) rfl ?_
  refine zr_goto X 10 dX6_record_36 (by decide) ?_
  refine zr_iloadn X 2 dX6_record_10 rfl ?_
  refine zr_iconst X (nI (4)) dX6_record_11 (by decide +kernel) ?_
  refine zr_icmp_ge X 39 dX6_record_12 (by decide) (fun q => absurd q (nI_ge (by omega) (by omega))) (fun _ => ?_)
  refine zr_aloadn X 0 dX6_record_15 rfl ?_
  refine zr_sipush X (nI (349)) dX6_record_16 (by decide +kernel) ?_
  refine zr_sipush X (nI (349)) dX6_record_19 (by decide +kernel) ?_
  refine zr_iloadn X 2 dX6_record_22 rfl ?_
  refine zr_imul X (nI (698)) dX6_record_23 ((pk_mul _ _).trans (congrArg nI (by omega))) ?_
  refine zr_iadd X (nI (1047)) dX6_record_24 ((nI_add _ _).trans (congrArg nI (by omega))) ?_
  refine zr_sipush X (nI (349)) dX6_record_25 (by decide +kernel) ?_
  refine zr_iloadn X 2 dX6_record_28 rfl ?_
  refine zr_imul X (nI (698)) dX6_record_29 ((pk_mul _ _).trans (congrArg nI (by omega))) ?_
  refine zr_dVv (C := RX6) (ci := 6) [.int (nI (1047)), .int (nI (698))] [] X (zK_ok A D tc tF tL tM) (c_copy E (cp μ (698) (349)) (by omega) (by omega) (by omega)) k_577 k_579 kp_0 k_7 k_580 hdX6_copy ⟨rfl, rfl⟩ ⟨Nat.le_of_ble_eq_true rfl, Nat.le_of_ble_eq_true rfl⟩ (by omega) rfl rfl rfl rfl (Nat.le_of_ble_eq_true rfl) dX6_record_30 ?_
  refine zr_iinc X 2 (nI (3)) [1, 2, 0] [(0, .ref (ad (0))), (1, .int (nI (b))), (2, .int (nI (3)))] dX6_record_33 rfl (zinc _) (by decide) rfl ?_
  refine zr_goto X 10 dX6_record_36 (by decide) ?_
  refine zr_iloadn X 2 dX6_record_10 rfl ?_
  refine zr_iconst X (nI (4)) dX6_record_11 (by decide +kernel) ?_
  refine zr_icmp_ge X 39 dX6_record_12 (by decide) (fun q => absurd q (nI_ge (by omega) (by omega))) (fun _ => ?_)
  refine zr_aloadn X 0 dX6_record_15 rfl ?_
  refine zr_sipush X (nI (349)) dX6_record_16 (by decide +kernel) ?_
  refine zr_sipush X (nI (349)) dX6_record_19 (by decide +kernel) ?_
  refine zr_iloadn X 2 dX6_record_22 rfl ?_
  refine zr_imul X (nI (1047)) dX6_record_23 ((pk_mul _ _).trans (congrArg nI (by omega))) ?_
  refine zr_iadd X (nI (1396)) dX6_record_24 ((nI_add _ _).trans (congrArg nI (by omega))) ?_
  refine zr_sipush X (nI (349)) dX6_record_25 (by decide +kernel) ?_
  refine zr_iloadn X 2 dX6_record_28 rfl ?_
  refine zr_imul X (nI (1047)) dX6_record_29 ((pk_mul _ _).trans (congrArg nI (by omega))) ?_
  refine zr_dVv (C := RX6) (ci := 6) [.int (nI (1396)), .int (nI (1047))] [] X (zK_ok A D tc tF tL tM) (c_copy E (cp (cp μ (698) (349)) (1047) (698)) (by omega) (by omega) (by omega)) k_577 k_579 kp_0 k_7 k_580 hdX6_copy ⟨rfl, rfl⟩ ⟨Nat.le_of_ble_eq_true rfl, Nat.le_of_ble_eq_true rfl⟩ (by omega) rfl rfl rfl rfl (Nat.le_of_ble_eq_true rfl) dX6_record_30 ?_
  refine zr_iinc X 2 (nI (4)) [1, 2, 0] [(0, .ref (ad (0))), (1, .int (nI (b))), (2, .int (nI (4)))] dX6_record_33 rfl (zinc _) (by decide) rfl ?_
  refine zr_goto X 10 dX6_record_36 (by decide) ?_
  refine zr_iloadn X 2 dX6_record_10 rfl ?_
  refine zr_iconst X (nI (4)) dX6_record_11 (by decide +kernel) ?_
  refine zr_icmp_ge X 39 dX6_record_12 (by decide) (fun _ => ?_) (fun q => absurd (zq_le (by omega) (by omega)) q)
  refine zr_aloadn X 0 dX6_record_39 rfl ?_
  refine zr_dup X dX6_record_40 rfl ?_
  refine zr_get X (ci := 6) (q := 1) zI (.int (nI (4))) dX6_record_41 (by omega) rfl rfl inX6 (by decide) rfl (congrArg Value.int ((cp_out (by omega)).trans ((cp_out (by omega)).trans ((cp_out (by omega)).trans (hk))))) rfl k_540 ?_
  refine zr_iconst X (nI (1)) dX6_record_44 (by decide +kernel) ?_
  refine zr_isub X (nI (3)) dX6_record_45 ((pk_sub (by omega)).trans (congrArg nI (by omega))) ?_
  refine zr_put X (ci := 6) (q := 1) (ty0 := tyX6) (ty := .int) (2444) dX6_record_46 (by omega) rfl rfl inX6 tyX6_ok nmX6 (by decide) rfl rfl rfl rfl rfl rfl k_540 (by omega) ?_
  refine zr_aloadn X 0 dX6_record_49 rfl ?_
  refine zr_iloadn X 1 dX6_record_50 rfl ?_
  refine zr_sipush X (nI (349)) dX6_record_51 (by decide +kernel) ?_
  refine zr_sipush X (nI (349)) dX6_record_54 (by decide +kernel) ?_
  refine zr_aloadn X 0 dX6_record_57 rfl ?_
  refine zr_get X (ci := 6) (q := 1) zI (.int (nI (3))) dX6_record_58 (by omega) rfl rfl inX6 (by decide) rfl (congrArg Value.int (pk_us)) rfl k_540 ?_
  refine zr_imul X (nI (1047)) dX6_record_61 ((pk_mul _ _).trans (congrArg nI (by omega))) ?_
  refine zr_iadd X (nI (1396)) dX6_record_62 ((nI_add _ _).trans (congrArg nI (by omega))) ?_
  refine zr_dVv (C := RX6) (ci := 6) [.int (nI (b)), .int (nI (1396))] [] X (zK_ok A D tc tF tL tM) (c_copy E (upd (cp (cp (cp μ (698) (349)) (1047) (698)) (1396) (1047)) (2444) (nI (3))) (by omega) (by omega) (by omega)) k_577 k_579 kp_0 k_7 k_580 hdX6_copy ⟨rfl, rfl⟩ ⟨Nat.le_of_ble_eq_true rfl, Nat.le_of_ble_eq_true rfl⟩ (by omega) rfl rfl rfl rfl (Nat.le_of_ble_eq_true rfl) dX6_record_63 ?_
  refine zr_aloadn X 0 dX6_record_66 rfl ?_
  refine zr_dup X dX6_record_67 rfl ?_
  refine zr_get X (ci := 6) (q := 1) zI (.int (nI (3))) dX6_record_68 (by omega) rfl rfl inX6 (by decide) rfl (congrArg Value.int ((cp_out (by omega)).trans (pk_us))) rfl k_540 ?_
  refine zr_iconst X (nI (1)) dX6_record_71 (by decide +kernel) ?_
  refine zr_iadd X (nI (4)) dX6_record_72 ((nI_add _ _).trans (congrArg nI (by omega))) ?_
  refine zr_put X (ci := 6) (q := 1) (ty0 := tyX6) (ty := .int) (2444) dX6_record_73 (by omega) rfl rfl inX6 tyX6_ok nmX6 (by decide) rfl rfl rfl rfl rfl rfl k_540 (by omega) ?_
  exact zr_vret X dX6_record_76 rfl

theorem c_record {l : Launch} {D : va_G} {tc : Nat → ClassId} {ad : Nat → Nat} {A : Nat → Prop} {tF tL tM : Nat} (E : zN 6 A ad) (μ : Nat → Int32) {b k : Nat} (hk : μ 2444 = nI k) (h4 : k ≤ 4) (hb : b = 0 ∨ b = 2094) : zMv l yX6_record cX6_record 3 (zrm 2) (zK A D tc tF tL tM) A D vwCl tc ad 6 shR [.ref (ad (0)), .int (nI (b))] μ (fun u => u = zrec μ b k) := by
  unfold zrec
  by_cases h : k < 4
  · rw [if_pos h]; exact c_record_a E μ hk h hb
  · rw [if_neg h]
    have : k = 4 := by omega
    subst this
    exact c_record_b E μ hk hb
/-- the present state's month, its firms, the states of the history -/
def refS (μ : Nat → Int32) (m c k : Nat) : Prop := μ 0 = nI m ∧ m < 240 ∧ μ 1 = nI c ∧ c ≤ 8 ∧ μ 2444 = nI k ∧ k ≤ 4
set_option maxHeartbeats 4000000 in
set_option maxRecDepth 100000 in
theorem c_year {l : Launch} {D : va_G} {tc : Nat → ClassId} {ad : Nat → Nat} {A : Nat → Prop} {tF tL tM : Nat} (E : zN 6 A ad) (μ : Nat → Int32) {m y : Nat} (hm : μ 0 = nI m) (hm2 : m < 240) (hy : m / 12 = y) : zMi l yX6_year cX6_year 1 (some .int) (zrm 1) (zK A D tc tF tL tM) A D vwCl tc ad 6 shR [.ref (ad (0))] μ (fun r u => r = nI y ∧ u = μ) := by
  refine zM_of RX6 [(0, .ref (ad (0)))] (zK_ok A D tc tF tL tM) E.1 E.2 owR_ok (by decide +kernel) rfl (Nat.le_of_ble_eq_true rfl) rfl ?_
  intro pP eE sS mM aS bL mT cO X
  refine zr_aloadn X 0 dX6_year_0 rfl ?_
  refine zr_get X (ci := 6) (q := 0) (zR (1)) (.ref (ad (1))) dX6_year_1 (by omega) rfl rfl inX6 (by decide) rfl (rfl) rfl k_539 ?_
  refine zr_iconst X (nI (0)) dX6_year_4 (by decide +kernel) ?_
  refine zr_iald X (j := 0) 0 (nI (m)) dX6_year_5 (by omega) rfl rfl rfl (by omega) (by omega) (zcg (b := 0) (by omega) (hm)) ?_
  refine zr_bipush X (nI (12)) dX6_year_6 (by decide +kernel) ?_
  refine zr_idiv X (nI (y)) dX6_year_8 (by decide +kernel) ((pk_div (by omega) (by omega) (by omega)).trans (congrArg nI hy)) ?_
  exact zr_iret X dX6_year_9 ⟨rfl, rfl⟩

set_option maxHeartbeats 4000000 in
set_option maxRecDepth 100000 in
theorem c_undo_none {l : Launch} {D : va_G} {tc : Nat → ClassId} {ad : Nat → Nat} {A : Nat → Prop} {tF tL tM : Nat} (E : zN 6 A ad) (μ : Nat → Int32) (hk : μ 2444 = nI 0) : zMi l yX6_undo cX6_undo 1 (some .int) (zrm 5) (zK A D tc tF tL tM) A D vwCl tc ad 6 shR [.ref (ad (0))] μ (fun r u => r = -5 ∧ u = μ) := by
  refine zM_of RX6 [(0, .ref (ad (0)))] (zK_ok A D tc tF tL tM) E.1 E.2 owR_ok (by decide +kernel) rfl (Nat.le_of_ble_eq_true rfl) rfl ?_
  intro pP eE sS mM aS bL mT cO X
  refine zr_aloadn X 0 dX6_undo_0 rfl ?_
  refine zr_get X (ci := 6) (q := 1) zI (.int (nI (0))) dX6_undo_1 (by omega) rfl rfl inX6 (by decide) rfl (congrArg Value.int (hk)) rfl k_540 ?_
  refine zr_if_ne X 10 dX6_undo_4 (by decide) (fun q => absurd (zq_eq0 (by omega)) q) (fun _ => ?_)
  refine zr_bipush X (-5) dX6_undo_7 (by decide +kernel) ?_
  exact zr_iret X dX6_undo_9 ⟨rfl, rfl⟩

set_option maxHeartbeats 4000000 in
set_option maxRecDepth 100000 in
theorem c_undo_ok {l : Launch} {D : va_G} {tc : Nat → ClassId} {ad : Nat → Nat} {A : Nat → Prop} {tF tL tM : Nat} (E : zN 6 A ad) (μ : Nat → Int32) {k : Nat} (hk : μ 2444 = nI (k + 1)) (hk4 : k < 4) : zMi l yX6_undo cX6_undo 1 (some .int) (zrm 5) (zK A D tc tF tL tM) A D vwCl tc ad 6 shR [.ref (ad (0))] μ (fun r u => r = nI k ∧ u = cp (upd μ 2444 (nI k)) (349 * k + 349) 0) := by
  refine zM_of RX6 [(0, .ref (ad (0)))] (zK_ok A D tc tF tL tM) E.1 E.2 owR_ok (by decide +kernel) rfl (Nat.le_of_ble_eq_true rfl) rfl ?_
  intro pP eE sS mM aS bL mT cO X
  refine zr_aloadn X 0 dX6_undo_0 rfl ?_
  refine zr_get X (ci := 6) (q := 1) zI (.int (nI (k + 1))) dX6_undo_1 (by omega) rfl rfl inX6 (by decide) rfl (congrArg Value.int (hk)) rfl k_540 ?_
  refine zr_if_ne X 10 dX6_undo_4 (by decide) (fun _ => ?_) (fun q => absurd q (nI_ne0 (by omega) (by omega)))
  refine zr_aloadn X 0 dX6_undo_10 rfl ?_
  refine zr_dup X dX6_undo_11 rfl ?_
  refine zr_get X (ci := 6) (q := 1) zI (.int (nI (k + 1))) dX6_undo_12 (by omega) rfl rfl inX6 (by decide) rfl (congrArg Value.int (hk)) rfl k_540 ?_
  refine zr_iconst X (nI (1)) dX6_undo_15 (by decide +kernel) ?_
  refine zr_isub X (nI (k)) dX6_undo_16 ((pk_sub (by omega)).trans (congrArg nI (by omega))) ?_
  refine zr_put X (ci := 6) (q := 1) (ty0 := tyX6) (ty := .int) (2444) dX6_undo_17 (by omega) rfl rfl inX6 tyX6_ok nmX6 (by decide) rfl rfl rfl rfl rfl rfl k_540 (by omega) ?_
  refine zr_aloadn X 0 dX6_undo_20 rfl ?_
  refine zr_sipush X (nI (349)) dX6_undo_21 (by decide +kernel) ?_
  refine zr_sipush X (nI (349)) dX6_undo_24 (by decide +kernel) ?_
  refine zr_aloadn X 0 dX6_undo_27 rfl ?_
  refine zr_get X (ci := 6) (q := 1) zI (.int (nI (k))) dX6_undo_28 (by omega) rfl rfl inX6 (by decide) rfl (congrArg Value.int (pk_us)) rfl k_540 ?_
  refine zr_imul X (nI (349 * k)) dX6_undo_31 ((pk_mul _ _).trans (congrArg nI (by omega))) ?_
  refine zr_iadd X (nI (349 * k + 349)) dX6_undo_32 ((nI_add _ _).trans (congrArg nI (by omega))) ?_
  refine zr_iconst X (nI (0)) dX6_undo_33 (by decide +kernel) ?_
  refine zr_dVv (C := RX6) (ci := 6) [.int (nI (349 * k + 349)), .int (nI (0))] [] X (zK_ok A D tc tF tL tM) (c_copy E (upd μ (2444) (nI (k))) (by omega) (by omega) (by omega)) k_577 k_579 kp_0 k_7 k_580 hdX6_copy ⟨rfl, rfl⟩ ⟨Nat.le_of_ble_eq_true rfl, Nat.le_of_ble_eq_true rfl⟩ (by omega) rfl rfl rfl rfl (Nat.le_of_ble_eq_true rfl) dX6_undo_34 ?_
  refine zr_aloadn X 0 dX6_undo_37 rfl ?_
  refine zr_get X (ci := 6) (q := 1) zI (.int (nI (k))) dX6_undo_38 (by omega) rfl rfl inX6 (by decide) rfl (congrArg Value.int ((cp_out (by omega)).trans (pk_us))) rfl k_540 ?_
  exact zr_iret X dX6_undo_41 ⟨rfl, rfl⟩

set_option maxHeartbeats 4000000 in
set_option maxRecDepth 100000 in
theorem c_keep {l : Launch} {D : va_G} {tc : Nat → ClassId} {ad : Nat → Nat} {A : Nat → Prop} {tF tL tM : Nat} (E : zN 6 A ad) (μ : Nat → Int32) {m c k : Nat} (S : refS μ m c k)  : zMi l yX6_keep cX6_keep 1 (some .int) (zrm 5) (zK A D tc tF tL tM) A D vwCl tc ad 6 shR [.ref (ad (0))] μ (fun r u => r = nI m ∧ u = upd (cp μ 0 1745) 2445 (nI 1)) := by
  refine zM_of RX6 [(0, .ref (ad (0)))] (zK_ok A D tc tF tL tM) E.1 E.2 owR_ok (by decide +kernel) rfl (Nat.le_of_ble_eq_true rfl) rfl ?_
  intro pP eE sS mM aS bL mT cO X
  obtain ⟨hm, hm2, hc, h8, hk, hk4⟩ := S
  refine zr_aloadn X 0 dX6_keep_0 rfl ?_
  refine zr_iconst X (nI (0)) dX6_keep_1 (by decide +kernel) ?_
  refine zr_sipush X (nI (1745)) dX6_keep_2 (by decide +kernel) ?_
  refine zr_dVv (C := RX6) (ci := 6) [.int (nI (0)), .int (nI (1745))] [] X (zK_ok A D tc tF tL tM) (c_copy E μ (by omega) (by omega) (by omega)) k_577 k_579 kp_0 k_7 k_580 hdX6_copy ⟨rfl, rfl⟩ ⟨Nat.le_of_ble_eq_true rfl, Nat.le_of_ble_eq_true rfl⟩ (by omega) rfl rfl rfl rfl (Nat.le_of_ble_eq_true rfl) dX6_keep_5 ?_
  refine zr_aloadn X 0 dX6_keep_8 rfl ?_
  refine zr_iconst X (nI (1)) dX6_keep_9 (by decide +kernel) ?_
  refine zr_put X (ci := 6) (q := 2) (ty0 := tyX6) (ty := .boolean) (2445) dX6_keep_10 (by omega) rfl rfl inX6 tyX6_ok nmX6 (by decide) rfl rfl rfl rfl rfl rfl k_541 (by omega) ?_
  refine zr_aloadn X 0 dX6_keep_13 rfl ?_
  refine zr_get X (ci := 6) (q := 0) (zR (1)) (.ref (ad (1))) dX6_keep_14 (by omega) rfl rfl inX6 (by decide) rfl (rfl) rfl k_539 ?_
  refine zr_iconst X (nI (0)) dX6_keep_17 (by decide +kernel) ?_
  refine zr_iald X (j := 0) 0 (nI (m)) dX6_keep_18 (by omega) rfl rfl rfl (by omega) (by omega) (zcg (b := 0) (by omega) ((pk_un (by omega)).trans ((cp_out (by omega)).trans (hm)))) ?_
  exact zr_iret X dX6_keep_19 ⟨rfl, rfl⟩

set_option maxHeartbeats 4000000 in
set_option maxRecDepth 100000 in
theorem c_restore_none {l : Launch} {D : va_G} {tc : Nat → ClassId} {ad : Nat → Nat} {A : Nat → Prop} {tF tL tM : Nat} (E : zN 6 A ad) (μ : Nat → Int32) {m c k : Nat} (S : refS μ m c k) (hq : μ 2445 = nI 0) : zMi l yX6_restore cX6_restore 1 (some .int) (zrm 5) (zK A D tc tF tL tM) A D vwCl tc ad 6 shR [.ref (ad (0))] μ (fun r u => r = -5 ∧ u = μ) := by
  refine zM_of RX6 [(0, .ref (ad (0)))] (zK_ok A D tc tF tL tM) E.1 E.2 owR_ok (by decide +kernel) rfl (Nat.le_of_ble_eq_true rfl) rfl ?_
  intro pP eE sS mM aS bL mT cO X
  obtain ⟨hm, hm2, hc, h8, hk, hk4⟩ := S
  refine zr_aloadn X 0 dX6_restore_0 rfl ?_
  refine zr_get X (ci := 6) (q := 2) zI (.int (nI (0))) dX6_restore_1 (by omega) rfl rfl inX6 (by decide) rfl (congrArg Value.int (hq)) rfl k_541 ?_
  refine zr_if_ne X 10 dX6_restore_4 (by decide) (fun q => absurd (zq_eq0 (by omega)) q) (fun _ => ?_)
  refine zr_bipush X (-5) dX6_restore_7 (by decide +kernel) ?_
  exact zr_iret X dX6_restore_9 ⟨rfl, rfl⟩

set_option maxHeartbeats 4000000 in
set_option maxRecDepth 100000 in
theorem c_restore_ok {l : Launch} {D : va_G} {tc : Nat → ClassId} {ad : Nat → Nat} {A : Nat → Prop} {tF tL tM : Nat} (E : zN 6 A ad) (μ : Nat → Int32) {m c k : Nat} (S : refS μ m c k) (hq : μ 2445 = nI 1) : zMi l yX6_restore cX6_restore 1 (some .int) (zrm 5) (zK A D tc tF tL tM) A D vwCl tc ad 6 shR [.ref (ad (0))] μ (fun r u => r = μ 1745 ∧ u = cp (zrec μ 0 k) 1745 0) := by
  refine zM_of RX6 [(0, .ref (ad (0)))] (zK_ok A D tc tF tL tM) E.1 E.2 owR_ok (by decide +kernel) rfl (Nat.le_of_ble_eq_true rfl) rfl ?_
  intro pP eE sS mM aS bL mT cO X
  obtain ⟨hm, hm2, hc, h8, hk, hk4⟩ := S
  refine zr_aloadn X 0 dX6_restore_0 rfl ?_
  refine zr_get X (ci := 6) (q := 2) zI (.int (nI (1))) dX6_restore_1 (by omega) rfl rfl inX6 (by decide) rfl (congrArg Value.int (hq)) rfl k_541 ?_
  refine zr_if_ne X 10 dX6_restore_4 (by decide) (fun _ => ?_) (fun q => absurd q (nI_ne0 (by omega) (by omega)))
  refine zr_aloadn X 0 dX6_restore_10 rfl ?_
  refine zr_iconst X (nI (0)) dX6_restore_11 (by decide +kernel) ?_
  refine zr_dVv (C := RX6) (ci := 6) [.int (nI (0))] [] X (zK_ok A D tc tF tL tM) (c_record E μ (hk) hk4 (by omega)) k_589 k_591 kp_1 k_7 k_592 hdX6_record ⟨rfl, rfl⟩ ⟨Nat.le_of_ble_eq_true rfl, Nat.le_of_ble_eq_true rfl⟩ (by omega) rfl rfl rfl rfl (Nat.le_of_ble_eq_true rfl) dX6_restore_12 ?_
  refine zr_aloadn X 0 dX6_restore_15 rfl ?_
  refine zr_sipush X (nI (1745)) dX6_restore_16 (by decide +kernel) ?_
  refine zr_iconst X (nI (0)) dX6_restore_19 (by decide +kernel) ?_
  refine zr_dVv (C := RX6) (ci := 6) [.int (nI (1745)), .int (nI (0))] [] X (zK_ok A D tc tF tL tM) (c_copy E (zrec μ (0) (k)) (by omega) (by omega) (by omega)) k_577 k_579 kp_0 k_7 k_580 hdX6_copy ⟨rfl, rfl⟩ ⟨Nat.le_of_ble_eq_true rfl, Nat.le_of_ble_eq_true rfl⟩ (by omega) rfl rfl rfl rfl (Nat.le_of_ble_eq_true rfl) dX6_restore_20 ?_
  refine zr_aloadn X 0 dX6_restore_23 rfl ?_
  refine zr_get X (ci := 6) (q := 0) (zR (1)) (.ref (ad (1))) dX6_restore_24 (by omega) rfl rfl inX6 (by decide) rfl (rfl) rfl k_539 ?_
  refine zr_iconst X (nI (0)) dX6_restore_27 (by decide +kernel) ?_
  refine zr_iald X (j := 0) 0 (μ (1745)) dX6_restore_28 (by omega) rfl rfl rfl (by omega) (by omega) (zcg (b := 0) (by omega) ((cp_in (by omega) (by omega) (by omega)).trans (zrec_out (by omega) (by omega) hk4))) ?_
  exact zr_iret X dX6_restore_29 ⟨rfl, rfl⟩
end
section
set_option maxHeartbeats 4000000 in
set_option maxRecDepth 100000 in
theorem c_addFirm_full {l : Launch} {D : va_G} {tc : Nat → ClassId} {ad : Nat → Nat} {A : Nat → Prop} {tF tL tM : Nat} (E : zN 6 A ad) (μ : Nat → Int32) {m c k : Nat} (S : refS μ m c k) (h : c = 8) : zMi l yX6_addFirm cX6_addFirm 3 (some .int) (zrm 5) (zK A D tc tF tL tM) A D vwCl tc ad 6 shR [.ref (ad (0))] μ (fun r u => r = -3 ∧ u = μ) := by
  refine zM_of RX6 [(0, .ref (ad (0)))] (zK_ok A D tc tF tL tM) E.1 E.2 owR_ok (by decide +kernel) rfl (Nat.le_of_ble_eq_true rfl) rfl ?_
  intro pP eE sS mM aS bL mT cO X
  obtain ⟨hm, hm2, hc, h8, hk, hk4⟩ := S
  refine zr_aloadn X 0 dX6_addFirm_0 rfl ?_
  refine zr_get X (ci := 6) (q := 0) (zR (1)) (.ref (ad (1))) dX6_addFirm_1 (by omega) rfl rfl inX6 (by decide) rfl (rfl) rfl k_539 ?_
  refine zr_iconst X (nI (1)) dX6_addFirm_4 (by decide +kernel) ?_
  refine zr_iald X (j := 1) 0 (nI (c)) dX6_addFirm_5 (by omega) rfl rfl rfl (by omega) (by omega) (zcg (b := 1) (by omega) (hc)) ?_
  refine zr_bipush X (nI (8)) dX6_addFirm_6 (by decide +kernel) ?_
  refine zr_icmp_ne X 14 dX6_addFirm_8 (by decide) (fun q => absurd (zq_eq (by omega)) q) (fun _ => ?_)
  refine zr_bipush X (-3) dX6_addFirm_11 (by decide +kernel) ?_
  exact zr_iret X dX6_addFirm_13 ⟨rfl, rfl⟩

set_option maxHeartbeats 4000000 in
set_option maxRecDepth 100000 in
theorem c_addFirm_ok {l : Launch} {D : va_G} {tc : Nat → ClassId} {ad : Nat → Nat} {A : Nat → Prop} {tF tL tM : Nat} (E : zN 6 A ad) (μ : Nat → Int32) {m c k : Nat} (S : refS μ m c k) (h : c < 8) : zMi l yX6_addFirm cX6_addFirm 3 (some .int) (zrm 5) (zK A D tc tF tL tM) A D vwCl tc ad 6 shR [.ref (ad (0))] μ (fun r u => r = nI c ∧ u = upd (zclr (zrec μ (0) (k)) c 32) 1 (nI (c + 1))) := by
  refine zM_of RX6 [(0, .ref (ad (0)))] (zK_ok A D tc tF tL tM) E.1 E.2 owR_ok (by decide +kernel) rfl (Nat.le_of_ble_eq_true rfl) rfl ?_
  intro pP eE sS mM aS bL mT cO X
  obtain ⟨hm, hm2, hc, h8, hk, hk4⟩ := S
  refine zr_aloadn X 0 dX6_addFirm_0 rfl ?_
  refine zr_get X (ci := 6) (q := 0) (zR (1)) (.ref (ad (1))) dX6_addFirm_1 (by omega) rfl rfl inX6 (by decide) rfl (rfl) rfl k_539 ?_
  refine zr_iconst X (nI (1)) dX6_addFirm_4 (by decide +kernel) ?_
  refine zr_iald X (j := 1) 0 (nI (c)) dX6_addFirm_5 (by omega) rfl rfl rfl (by omega) (by omega) (zcg (b := 1) (by omega) (hc)) ?_
  refine zr_bipush X (nI (8)) dX6_addFirm_6 (by decide +kernel) ?_
  refine zr_icmp_ne X 14 dX6_addFirm_8 (by decide) (fun _ => ?_) (fun q => absurd q (zq_ne (by omega) (by omega) (by omega)))
  refine zr_aloadn X 0 dX6_addFirm_14 rfl ?_
  refine zr_iconst X (nI (0)) dX6_addFirm_15 (by decide +kernel) ?_
  refine zr_dVv (C := RX6) (ci := 6) [.int (nI (0))] [] X (zK_ok A D tc tF tL tM) (c_record E μ (hk) hk4 (by omega)) k_589 k_591 kp_1 k_7 k_592 hdX6_record ⟨rfl, rfl⟩ ⟨Nat.le_of_ble_eq_true rfl, Nat.le_of_ble_eq_true rfl⟩ (by omega) rfl rfl rfl rfl (Nat.le_of_ble_eq_true rfl) dX6_addFirm_16 ?_
  refine zr_aloadn X 0 dX6_addFirm_19 rfl ?_
  refine zr_get X (ci := 6) (q := 0) (zR (1)) (.ref (ad (1))) dX6_addFirm_20 (by omega) rfl rfl inX6 (by decide) rfl (rfl) rfl k_539 ?_
  refine zr_iconst X (nI (1)) dX6_addFirm_23 (by decide +kernel) ?_
  refine zr_iald X (j := 1) 0 (nI (c)) dX6_addFirm_24 (by omega) rfl rfl rfl (by omega) (by omega) (zcg (b := 1) (by omega) ((zrec_out (by omega) (by omega) hk4).trans (hc))) ?_
  refine zr_istoren X [1, 0] [(0, .ref (ad (0))), (1, .int (nI (c)))] dX6_addFirm_25 (by decide) rfl ?_
  refine zr_iconst X (nI (0)) dX6_addFirm_26 (by decide +kernel) ?_
  refine zr_istoren X [1, 2, 0] [(0, .ref (ad (0))), (1, .int (nI (c))), (2, .int (nI (0)))] dX6_addFirm_27 (by decide) rfl ?_
  refine zr_for X (32) (fun i => (zclr (zrec μ (0) (k)) (c) (i))) (fun i => [(0, .ref (ad (0))), (1, .int (nI (c))), (2, .int (nI (i)))]) [] (rfl) rfl ?_ ?_
  · refine zr_iloadn X 2 dX6_addFirm_28 rfl ?_
    refine zr_bipush X (nI (32)) dX6_addFirm_29 (by decide +kernel) ?_
    refine zr_icmp_ge X 51 dX6_addFirm_31 (by decide) (fun _ => ?_) (fun q => absurd (zq_le (by omega) (by omega)) q)
    refine zr_aloadn X 0 dX6_addFirm_51 rfl ?_
    refine zr_get X (ci := 6) (q := 0) (zR (1)) (.ref (ad (1))) dX6_addFirm_52 (by omega) rfl rfl inX6 (by decide) rfl (rfl) rfl k_539 ?_
    refine zr_iconst X (nI (1)) dX6_addFirm_55 (by decide +kernel) ?_
    refine zr_dup2 X dX6_addFirm_56 rfl rfl ?_
    refine zr_iald X (j := 1) 0 (nI (c)) dX6_addFirm_57 (by omega) rfl rfl rfl (by omega) (by omega) (zcg (b := 1) (by omega) ((zclr_out (by omega)).trans ((zrec_out (by omega) (by omega) hk4).trans (hc)))) ?_
    refine zr_iconst X (nI (1)) dX6_addFirm_58 (by decide +kernel) ?_
    refine zr_iadd X (nI (c + 1)) dX6_addFirm_59 (nI_add _ _) ?_
    refine zr_iast X (j := 1) 0 (1) dX6_addFirm_60 (by omega) rfl rfl rfl (by omega) (by omega) (by omega) ?_
    refine zr_iloadn X 1 dX6_addFirm_61 rfl ?_
    exact zr_iret X dX6_addFirm_62 ⟨rfl, rfl⟩
  · intro i hi ih28
    refine zr_iloadn X 2 dX6_addFirm_28 rfl ?_
    refine zr_bipush X (nI (32)) dX6_addFirm_29 (by decide +kernel) ?_
    refine zr_icmp_ge X 51 dX6_addFirm_31 (by decide) (fun q => absurd q (nI_ge (by omega) (by omega))) (fun _ => ?_)
    refine zr_aloadn X 0 dX6_addFirm_34 rfl ?_
    refine zr_get X (ci := 6) (q := 0) (zR (1)) (.ref (ad (1))) dX6_addFirm_35 (by omega) rfl rfl inX6 (by decide) rfl (rfl) rfl k_539 ?_
    refine zr_iloadn X 1 dX6_addFirm_38 rfl ?_
    refine zr_iloadn X 2 dX6_addFirm_39 rfl ?_
    refine zr_dSi [.int (nI (c)), .int (nI (i))] [.ref (ad (1))] X (zK_ok A D tc tF tL tM) (zM_i (z1 := nI (32 * c + i + 7)) (c_of E (zclr (zrec μ (0) (k)) (c) (i)) (c) (i)) (congrArg nI (by omega))) k_597 k_598 k_7 k_599 hdX6_of ⟨rfl, rfl⟩ ⟨Nat.le_of_ble_eq_true rfl, Nat.le_of_ble_eq_true rfl⟩ rfl rfl (Nat.le_of_ble_eq_true rfl) dX6_addFirm_40 ?_
    refine zr_iconst X (nI (0)) dX6_addFirm_43 (by decide +kernel) ?_
    refine zr_iast X (j := 32 * c + i + 7) 0 (32 * c + i + 7) dX6_addFirm_44 (by omega) rfl rfl rfl (by omega) (by omega) (by omega) ?_
    refine zr_iinc X 2 (nI (i + 1)) [1, 2, 0] [(0, .ref (ad (0))), (1, .int (nI (c))), (2, .int (nI (i + 1)))] dX6_addFirm_45 rfl (zinc _) (by decide) rfl ?_
    refine zr_goto X 28 dX6_addFirm_48 (by decide) ?_
    exact ih28

set_option maxHeartbeats 4000000 in
set_option maxRecDepth 100000 in
theorem c_set_bad012 {l : Launch} {D : va_G} {tc : Nat → ClassId} {ad : Nat → Nat} {A : Nat → Prop} {tF tL tM : Nat} (E : zN 6 A ad) (μ : Nat → Int32) {m c k : Nat} (S : refS μ m c k) {w : Nat} (hw : w ≤ 2) {x : Int32} (hx : ¬ zin x 0 100)  : zMi l yX6_set cX6_set 6 (some .int) (zrm 5) (zK A D tc tF tL tM) A D vwCl tc ad 6 shR [.ref (ad (0)), .int (nI (w)), .int (x)] μ (fun r u => r = -2 ∧ u = μ) := by
  refine zM_of RX6 [(0, .ref (ad (0))), (1, .int (nI (w))), (2, .int (x))] (zK_ok A D tc tF tL tM) E.1 E.2 owR_ok (by decide +kernel) rfl (Nat.le_of_ble_eq_true rfl) rfl ?_
  intro pP eE sS mM aS bL mT cO X
  obtain ⟨hm, hm2, hc, h8, hk, hk4⟩ := S
  refine zr_iloadn X 1 dX6_set_0 rfl ?_
  refine zr_iconst X (nI (3)) dX6_set_1 (by decide +kernel) ?_
  refine zr_icmp_ne X 9 dX6_set_2 (by decide) (fun _ => ?_) (fun q => absurd q (zq_ne (by omega) (by omega) (by omega)))
  refine zr_iconst X (nI (0)) dX6_set_9 (by decide +kernel) ?_
  refine zr_istoren X [1, 2, 3, 0] [(0, .ref (ad (0))), (1, .int (nI (w))), (2, .int (x)), (3, .int (nI (0)))] dX6_set_10 (by decide) rfl ?_
  refine zr_iloadn X 1 dX6_set_11 rfl ?_
  refine zr_iconst X (nI (3)) dX6_set_12 (by decide +kernel) ?_
  refine zr_icmp_ne X 20 dX6_set_13 (by decide) (fun _ => ?_) (fun q => absurd q (zq_ne (by omega) (by omega) (by omega)))
  refine zr_iloadn X 1 dX6_set_20 rfl ?_
  refine zr_iconst X (nI (4)) dX6_set_21 (by decide +kernel) ?_
  refine zr_icmp_ne X 30 dX6_set_22 (by decide) (fun _ => ?_) (fun q => absurd q (zq_ne (by omega) (by omega) (by omega)))
  refine zr_bipush X (nI (100)) dX6_set_30 (by decide +kernel) ?_
  refine zr_istore X [1, 2, 3, 4, 0] [(0, .ref (ad (0))), (1, .int (nI (w))), (2, .int (x)), (3, .int (nI (0))), (4, .int (nI (100)))] dX6_set_32 (by decide) rfl ?_
  refine zr_iloadn X 1 dX6_set_34 rfl ?_
  refine zr_iconst X (nI (0)) dX6_set_35 (by decide +kernel) ?_
  refine zr_iconst X (nI (4)) dX6_set_36 (by decide +kernel) ?_
  refine zr_dSi [.int (nI (w)), .int (nI (0)), .int (nI (4))] [] X (zK_ok A D tc tF tL tM) (c_in_t E μ (zq_le (by omega) (by omega)) (zq_le (by omega) (by omega))) k_604 k_605 k_7 k_606 hdX6_in ⟨rfl, rfl⟩ ⟨Nat.le_of_ble_eq_true rfl, Nat.le_of_ble_eq_true rfl⟩ rfl rfl (Nat.le_of_ble_eq_true rfl) dX6_set_37 ?_
  refine zr_if_eq X 53 dX6_set_40 (by decide) (fun q => absurd q (nI_ne0 (by omega) (by omega))) (fun _ => ?_)
  refine zr_iloadn X 2 dX6_set_43 rfl ?_
  refine zr_iloadn X 3 dX6_set_44 rfl ?_
  refine zr_iload X 4 dX6_set_45 rfl ?_
  refine zr_dSi [.int (x), .int (nI (0)), .int (nI (100))] [] X (zK_ok A D tc tF tL tM) (c_in_f E μ (fun q => hx (zin_of (by omega) q.1 q.2 (by omega)))) k_604 k_605 k_7 k_606 hdX6_in ⟨rfl, rfl⟩ ⟨Nat.le_of_ble_eq_true rfl, Nat.le_of_ble_eq_true rfl⟩ rfl rfl (Nat.le_of_ble_eq_true rfl) dX6_set_47 ?_
  refine zr_if_ne X 56 dX6_set_50 (by decide) (fun q => absurd (zq_eq0 (by omega)) q) (fun _ => ?_)
  refine zr_bipush X (-2) dX6_set_53 (by decide +kernel) ?_
  exact zr_iret X dX6_set_55 ⟨rfl, rfl⟩

set_option maxHeartbeats 4000000 in
set_option maxRecDepth 100000 in
theorem c_set_none012 {l : Launch} {D : va_G} {tc : Nat → ClassId} {ad : Nat → Nat} {A : Nat → Prop} {tF tL tM : Nat} (E : zN 6 A ad) (μ : Nat → Int32) {m c k : Nat} (S : refS μ m c k) {w : Nat} (hw : w ≤ 2) {v : Nat} (h1 : 0 ≤ v) (h2 : v ≤ 100) (h : μ (w + 2) = nI v) : zMi l yX6_set cX6_set 6 (some .int) (zrm 5) (zK A D tc tF tL tM) A D vwCl tc ad 6 shR [.ref (ad (0)), .int (nI (w)), .int (nI (v))] μ (fun r u => r = -5 ∧ u = μ) := by
  refine zM_of RX6 [(0, .ref (ad (0))), (1, .int (nI (w))), (2, .int (nI (v)))] (zK_ok A D tc tF tL tM) E.1 E.2 owR_ok (by decide +kernel) rfl (Nat.le_of_ble_eq_true rfl) rfl ?_
  intro pP eE sS mM aS bL mT cO X
  obtain ⟨hm, hm2, hc, h8, hk, hk4⟩ := S
  refine zr_iloadn X 1 dX6_set_0 rfl ?_
  refine zr_iconst X (nI (3)) dX6_set_1 (by decide +kernel) ?_
  refine zr_icmp_ne X 9 dX6_set_2 (by decide) (fun _ => ?_) (fun q => absurd q (zq_ne (by omega) (by omega) (by omega)))
  refine zr_iconst X (nI (0)) dX6_set_9 (by decide +kernel) ?_
  refine zr_istoren X [1, 2, 3, 0] [(0, .ref (ad (0))), (1, .int (nI (w))), (2, .int (nI (v))), (3, .int (nI (0)))] dX6_set_10 (by decide) rfl ?_
  refine zr_iloadn X 1 dX6_set_11 rfl ?_
  refine zr_iconst X (nI (3)) dX6_set_12 (by decide +kernel) ?_
  refine zr_icmp_ne X 20 dX6_set_13 (by decide) (fun _ => ?_) (fun q => absurd q (zq_ne (by omega) (by omega) (by omega)))
  refine zr_iloadn X 1 dX6_set_20 rfl ?_
  refine zr_iconst X (nI (4)) dX6_set_21 (by decide +kernel) ?_
  refine zr_icmp_ne X 30 dX6_set_22 (by decide) (fun _ => ?_) (fun q => absurd q (zq_ne (by omega) (by omega) (by omega)))
  refine zr_bipush X (nI (100)) dX6_set_30 (by decide +kernel) ?_
  refine zr_istore X [1, 2, 3, 4, 0] [(0, .ref (ad (0))), (1, .int (nI (w))), (2, .int (nI (v))), (3, .int (nI (0))), (4, .int (nI (100)))] dX6_set_32 (by decide) rfl ?_
  refine zr_iloadn X 1 dX6_set_34 rfl ?_
  refine zr_iconst X (nI (0)) dX6_set_35 (by decide +kernel) ?_
  refine zr_iconst X (nI (4)) dX6_set_36 (by decide +kernel) ?_
  refine zr_dSi [.int (nI (w)), .int (nI (0)), .int (nI (4))] [] X (zK_ok A D tc tF tL tM) (c_in_t E μ (zq_le (by omega) (by omega)) (zq_le (by omega) (by omega))) k_604 k_605 k_7 k_606 hdX6_in ⟨rfl, rfl⟩ ⟨Nat.le_of_ble_eq_true rfl, Nat.le_of_ble_eq_true rfl⟩ rfl rfl (Nat.le_of_ble_eq_true rfl) dX6_set_37 ?_
  refine zr_if_eq X 53 dX6_set_40 (by decide) (fun q => absurd q (nI_ne0 (by omega) (by omega))) (fun _ => ?_)
  refine zr_iloadn X 2 dX6_set_43 rfl ?_
  refine zr_iloadn X 3 dX6_set_44 rfl ?_
  refine zr_iload X 4 dX6_set_45 rfl ?_
  refine zr_dSi [.int (nI (v)), .int (nI (0)), .int (nI (100))] [] X (zK_ok A D tc tF tL tM) (c_in_t E μ (zq_le (by omega) (by omega)) (zq_le (by omega) (by omega))) k_604 k_605 k_7 k_606 hdX6_in ⟨rfl, rfl⟩ ⟨Nat.le_of_ble_eq_true rfl, Nat.le_of_ble_eq_true rfl⟩ rfl rfl (Nat.le_of_ble_eq_true rfl) dX6_set_47 ?_
  refine zr_if_ne X 56 dX6_set_50 (by decide) (fun _ => ?_) (fun q => absurd q (nI_ne0 (by omega) (by omega)))
  refine zr_aloadn X 0 dX6_set_56 rfl ?_
  refine zr_get X (ci := 6) (q := 0) (zR (1)) (.ref (ad (1))) dX6_set_57 (by omega) rfl rfl inX6 (by decide) rfl (rfl) rfl k_539 ?_
  refine zr_iconst X (nI (2)) dX6_set_60 (by decide +kernel) ?_
  refine zr_iloadn X 1 dX6_set_61 rfl ?_
  refine zr_iadd X (nI (w + 2)) dX6_set_62 ((nI_add _ _).trans (congrArg nI (by omega))) ?_
  refine zr_iald X (j := w + 2) 0 (μ (w + 2)) dX6_set_63 (by omega) rfl rfl rfl (by omega) (by omega) (zcg (b := w + 2) (by omega) (rfl)) ?_
  refine zr_istore X [1, 2, 3, 4, 5, 0] [(0, .ref (ad (0))), (1, .int (nI (w))), (2, .int (nI (v))), (3, .int (nI (0))), (4, .int (nI (100))), (5, .int (μ (w + 2)))] dX6_set_64 (by decide) rfl ?_
  refine zr_iload X 5 dX6_set_66 rfl ?_
  refine zr_iloadn X 2 dX6_set_68 rfl ?_
  refine zr_icmp_ne X 75 dX6_set_69 (by decide) (fun q => absurd (h) q) (fun _ => ?_)
  refine zr_bipush X (-5) dX6_set_72 (by decide +kernel) ?_
  exact zr_iret X dX6_set_74 ⟨rfl, rfl⟩

set_option maxHeartbeats 4000000 in
set_option maxRecDepth 100000 in
theorem c_set_ok012 {l : Launch} {D : va_G} {tc : Nat → ClassId} {ad : Nat → Nat} {A : Nat → Prop} {tF tL tM : Nat} (E : zN 6 A ad) (μ : Nat → Int32) {m c k : Nat} (S : refS μ m c k) {w : Nat} (hw : w ≤ 2) {v : Nat} (h1 : 0 ≤ v) (h2 : v ≤ 100) (h : ¬ μ (w + 2) = nI v) : zMi l yX6_set cX6_set 6 (some .int) (zrm 5) (zK A D tc tF tL tM) A D vwCl tc ad 6 shR [.ref (ad (0)), .int (nI (w)), .int (nI (v))] μ (fun r u => r = μ (w + 2) ∧ u = (upd (zrec μ (0) (k)) (w + 2) (nI (v)))) := by
  refine zM_of RX6 [(0, .ref (ad (0))), (1, .int (nI (w))), (2, .int (nI (v)))] (zK_ok A D tc tF tL tM) E.1 E.2 owR_ok (by decide +kernel) rfl (Nat.le_of_ble_eq_true rfl) rfl ?_
  intro pP eE sS mM aS bL mT cO X
  obtain ⟨hm, hm2, hc, h8, hk, hk4⟩ := S
  refine zr_iloadn X 1 dX6_set_0 rfl ?_
  refine zr_iconst X (nI (3)) dX6_set_1 (by decide +kernel) ?_
  refine zr_icmp_ne X 9 dX6_set_2 (by decide) (fun _ => ?_) (fun q => absurd q (zq_ne (by omega) (by omega) (by omega)))
  refine zr_iconst X (nI (0)) dX6_set_9 (by decide +kernel) ?_
  refine zr_istoren X [1, 2, 3, 0] [(0, .ref (ad (0))), (1, .int (nI (w))), (2, .int (nI (v))), (3, .int (nI (0)))] dX6_set_10 (by decide) rfl ?_
  refine zr_iloadn X 1 dX6_set_11 rfl ?_
  refine zr_iconst X (nI (3)) dX6_set_12 (by decide +kernel) ?_
  refine zr_icmp_ne X 20 dX6_set_13 (by decide) (fun _ => ?_) (fun q => absurd q (zq_ne (by omega) (by omega) (by omega)))
  refine zr_iloadn X 1 dX6_set_20 rfl ?_
  refine zr_iconst X (nI (4)) dX6_set_21 (by decide +kernel) ?_
  refine zr_icmp_ne X 30 dX6_set_22 (by decide) (fun _ => ?_) (fun q => absurd q (zq_ne (by omega) (by omega) (by omega)))
  refine zr_bipush X (nI (100)) dX6_set_30 (by decide +kernel) ?_
  refine zr_istore X [1, 2, 3, 4, 0] [(0, .ref (ad (0))), (1, .int (nI (w))), (2, .int (nI (v))), (3, .int (nI (0))), (4, .int (nI (100)))] dX6_set_32 (by decide) rfl ?_
  refine zr_iloadn X 1 dX6_set_34 rfl ?_
  refine zr_iconst X (nI (0)) dX6_set_35 (by decide +kernel) ?_
  refine zr_iconst X (nI (4)) dX6_set_36 (by decide +kernel) ?_
  refine zr_dSi [.int (nI (w)), .int (nI (0)), .int (nI (4))] [] X (zK_ok A D tc tF tL tM) (c_in_t E μ (zq_le (by omega) (by omega)) (zq_le (by omega) (by omega))) k_604 k_605 k_7 k_606 hdX6_in ⟨rfl, rfl⟩ ⟨Nat.le_of_ble_eq_true rfl, Nat.le_of_ble_eq_true rfl⟩ rfl rfl (Nat.le_of_ble_eq_true rfl) dX6_set_37 ?_
  refine zr_if_eq X 53 dX6_set_40 (by decide) (fun q => absurd q (nI_ne0 (by omega) (by omega))) (fun _ => ?_)
  refine zr_iloadn X 2 dX6_set_43 rfl ?_
  refine zr_iloadn X 3 dX6_set_44 rfl ?_
  refine zr_iload X 4 dX6_set_45 rfl ?_
  refine zr_dSi [.int (nI (v)), .int (nI (0)), .int (nI (100))] [] X (zK_ok A D tc tF tL tM) (c_in_t E μ (zq_le (by omega) (by omega)) (zq_le (by omega) (by omega))) k_604 k_605 k_7 k_606 hdX6_in ⟨rfl, rfl⟩ ⟨Nat.le_of_ble_eq_true rfl, Nat.le_of_ble_eq_true rfl⟩ rfl rfl (Nat.le_of_ble_eq_true rfl) dX6_set_47 ?_
  refine zr_if_ne X 56 dX6_set_50 (by decide) (fun _ => ?_) (fun q => absurd q (nI_ne0 (by omega) (by omega)))
  refine zr_aloadn X 0 dX6_set_56 rfl ?_
  refine zr_get X (ci := 6) (q := 0) (zR (1)) (.ref (ad (1))) dX6_set_57 (by omega) rfl rfl inX6 (by decide) rfl (rfl) rfl k_539 ?_
  refine zr_iconst X (nI (2)) dX6_set_60 (by decide +kernel) ?_
  refine zr_iloadn X 1 dX6_set_61 rfl ?_
  refine zr_iadd X (nI (w + 2)) dX6_set_62 ((nI_add _ _).trans (congrArg nI (by omega))) ?_
  refine zr_iald X (j := w + 2) 0 (μ (w + 2)) dX6_set_63 (by omega) rfl rfl rfl (by omega) (by omega) (zcg (b := w + 2) (by omega) (rfl)) ?_
  refine zr_istore X [1, 2, 3, 4, 5, 0] [(0, .ref (ad (0))), (1, .int (nI (w))), (2, .int (nI (v))), (3, .int (nI (0))), (4, .int (nI (100))), (5, .int (μ (w + 2)))] dX6_set_64 (by decide) rfl ?_
  refine zr_iload X 5 dX6_set_66 rfl ?_
  refine zr_iloadn X 2 dX6_set_68 rfl ?_
  refine zr_icmp_ne X 75 dX6_set_69 (by decide) (fun _ => ?_) (fun q => absurd q (h))
  refine zr_aloadn X 0 dX6_set_75 rfl ?_
  refine zr_iconst X (nI (0)) dX6_set_76 (by decide +kernel) ?_
  refine zr_dVv (C := RX6) (ci := 6) [.int (nI (0))] [] X (zK_ok A D tc tF tL tM) (c_record E μ (hk) hk4 (by omega)) k_589 k_591 kp_1 k_7 k_592 hdX6_record ⟨rfl, rfl⟩ ⟨Nat.le_of_ble_eq_true rfl, Nat.le_of_ble_eq_true rfl⟩ (by omega) rfl rfl rfl rfl (Nat.le_of_ble_eq_true rfl) dX6_set_77 ?_
  refine zr_aloadn X 0 dX6_set_80 rfl ?_
  refine zr_get X (ci := 6) (q := 0) (zR (1)) (.ref (ad (1))) dX6_set_81 (by omega) rfl rfl inX6 (by decide) rfl (rfl) rfl k_539 ?_
  refine zr_iconst X (nI (2)) dX6_set_84 (by decide +kernel) ?_
  refine zr_iloadn X 1 dX6_set_85 rfl ?_
  refine zr_iadd X (nI (w + 2)) dX6_set_86 ((nI_add _ _).trans (congrArg nI (by omega))) ?_
  refine zr_iloadn X 2 dX6_set_87 rfl ?_
  refine zr_iast X (j := w + 2) 0 (w + 2) dX6_set_88 (by omega) rfl rfl rfl (by omega) (by omega) (by omega) ?_
  refine zr_iload X 5 dX6_set_89 rfl ?_
  exact zr_iret X dX6_set_91 ⟨rfl, rfl⟩

set_option maxHeartbeats 4000000 in
set_option maxRecDepth 100000 in
theorem c_set_bad3 {l : Launch} {D : va_G} {tc : Nat → ClassId} {ad : Nat → Nat} {A : Nat → Prop} {tF tL tM : Nat} (E : zN 6 A ad) (μ : Nat → Int32) {m c k : Nat} (S : refS μ m c k) {x : Int32} (hx : ¬ zin x 1 5)  : zMi l yX6_set cX6_set 6 (some .int) (zrm 5) (zK A D tc tF tL tM) A D vwCl tc ad 6 shR [.ref (ad (0)), .int (nI (3)), .int (x)] μ (fun r u => r = -2 ∧ u = μ) := by
  refine zM_of RX6 [(0, .ref (ad (0))), (1, .int (nI (3))), (2, .int (x))] (zK_ok A D tc tF tL tM) E.1 E.2 owR_ok (by decide +kernel) rfl (Nat.le_of_ble_eq_true rfl) rfl ?_
  intro pP eE sS mM aS bL mT cO X
  obtain ⟨hm, hm2, hc, h8, hk, hk4⟩ := S
  refine zr_iloadn X 1 dX6_set_0 rfl ?_
  refine zr_iconst X (nI (3)) dX6_set_1 (by decide +kernel) ?_
  refine zr_icmp_ne X 9 dX6_set_2 (by decide) (fun q => absurd (zq_eq (by omega)) q) (fun _ => ?_)
  refine zr_iconst X (nI (1)) dX6_set_5 (by decide +kernel) ?_
  refine zr_goto X 10 dX6_set_6 (by decide) ?_
  refine zr_istoren X [1, 2, 3, 0] [(0, .ref (ad (0))), (1, .int (nI (3))), (2, .int (x)), (3, .int (nI (1)))] dX6_set_10 (by decide) rfl ?_
  refine zr_iloadn X 1 dX6_set_11 rfl ?_
  refine zr_iconst X (nI (3)) dX6_set_12 (by decide +kernel) ?_
  refine zr_icmp_ne X 20 dX6_set_13 (by decide) (fun q => absurd (zq_eq (by omega)) q) (fun _ => ?_)
  refine zr_iconst X (nI (5)) dX6_set_16 (by decide +kernel) ?_
  refine zr_goto X 32 dX6_set_17 (by decide) ?_
  refine zr_istore X [1, 2, 3, 4, 0] [(0, .ref (ad (0))), (1, .int (nI (3))), (2, .int (x)), (3, .int (nI (1))), (4, .int (nI (5)))] dX6_set_32 (by decide) rfl ?_
  refine zr_iloadn X 1 dX6_set_34 rfl ?_
  refine zr_iconst X (nI (0)) dX6_set_35 (by decide +kernel) ?_
  refine zr_iconst X (nI (4)) dX6_set_36 (by decide +kernel) ?_
  refine zr_dSi [.int (nI (3)), .int (nI (0)), .int (nI (4))] [] X (zK_ok A D tc tF tL tM) (c_in_t E μ (zq_le (by omega) (by omega)) (zq_le (by omega) (by omega))) k_604 k_605 k_7 k_606 hdX6_in ⟨rfl, rfl⟩ ⟨Nat.le_of_ble_eq_true rfl, Nat.le_of_ble_eq_true rfl⟩ rfl rfl (Nat.le_of_ble_eq_true rfl) dX6_set_37 ?_
  refine zr_if_eq X 53 dX6_set_40 (by decide) (fun q => absurd q (nI_ne0 (by omega) (by omega))) (fun _ => ?_)
  refine zr_iloadn X 2 dX6_set_43 rfl ?_
  refine zr_iloadn X 3 dX6_set_44 rfl ?_
  refine zr_iload X 4 dX6_set_45 rfl ?_
  refine zr_dSi [.int (x), .int (nI (1)), .int (nI (5))] [] X (zK_ok A D tc tF tL tM) (c_in_f E μ (fun q => hx (zin_of (by omega) q.1 q.2 (by omega)))) k_604 k_605 k_7 k_606 hdX6_in ⟨rfl, rfl⟩ ⟨Nat.le_of_ble_eq_true rfl, Nat.le_of_ble_eq_true rfl⟩ rfl rfl (Nat.le_of_ble_eq_true rfl) dX6_set_47 ?_
  refine zr_if_ne X 56 dX6_set_50 (by decide) (fun q => absurd (zq_eq0 (by omega)) q) (fun _ => ?_)
  refine zr_bipush X (-2) dX6_set_53 (by decide +kernel) ?_
  exact zr_iret X dX6_set_55 ⟨rfl, rfl⟩

set_option maxHeartbeats 4000000 in
set_option maxRecDepth 100000 in
theorem c_set_none3 {l : Launch} {D : va_G} {tc : Nat → ClassId} {ad : Nat → Nat} {A : Nat → Prop} {tF tL tM : Nat} (E : zN 6 A ad) (μ : Nat → Int32) {m c k : Nat} (S : refS μ m c k) {v : Nat} (h1 : 1 ≤ v) (h2 : v ≤ 5) (h : μ (5) = nI v) : zMi l yX6_set cX6_set 6 (some .int) (zrm 5) (zK A D tc tF tL tM) A D vwCl tc ad 6 shR [.ref (ad (0)), .int (nI (3)), .int (nI (v))] μ (fun r u => r = -5 ∧ u = μ) := by
  refine zM_of RX6 [(0, .ref (ad (0))), (1, .int (nI (3))), (2, .int (nI (v)))] (zK_ok A D tc tF tL tM) E.1 E.2 owR_ok (by decide +kernel) rfl (Nat.le_of_ble_eq_true rfl) rfl ?_
  intro pP eE sS mM aS bL mT cO X
  obtain ⟨hm, hm2, hc, h8, hk, hk4⟩ := S
  refine zr_iloadn X 1 dX6_set_0 rfl ?_
  refine zr_iconst X (nI (3)) dX6_set_1 (by decide +kernel) ?_
  refine zr_icmp_ne X 9 dX6_set_2 (by decide) (fun q => absurd (zq_eq (by omega)) q) (fun _ => ?_)
  refine zr_iconst X (nI (1)) dX6_set_5 (by decide +kernel) ?_
  refine zr_goto X 10 dX6_set_6 (by decide) ?_
  refine zr_istoren X [1, 2, 3, 0] [(0, .ref (ad (0))), (1, .int (nI (3))), (2, .int (nI (v))), (3, .int (nI (1)))] dX6_set_10 (by decide) rfl ?_
  refine zr_iloadn X 1 dX6_set_11 rfl ?_
  refine zr_iconst X (nI (3)) dX6_set_12 (by decide +kernel) ?_
  refine zr_icmp_ne X 20 dX6_set_13 (by decide) (fun q => absurd (zq_eq (by omega)) q) (fun _ => ?_)
  refine zr_iconst X (nI (5)) dX6_set_16 (by decide +kernel) ?_
  refine zr_goto X 32 dX6_set_17 (by decide) ?_
  refine zr_istore X [1, 2, 3, 4, 0] [(0, .ref (ad (0))), (1, .int (nI (3))), (2, .int (nI (v))), (3, .int (nI (1))), (4, .int (nI (5)))] dX6_set_32 (by decide) rfl ?_
  refine zr_iloadn X 1 dX6_set_34 rfl ?_
  refine zr_iconst X (nI (0)) dX6_set_35 (by decide +kernel) ?_
  refine zr_iconst X (nI (4)) dX6_set_36 (by decide +kernel) ?_
  refine zr_dSi [.int (nI (3)), .int (nI (0)), .int (nI (4))] [] X (zK_ok A D tc tF tL tM) (c_in_t E μ (zq_le (by omega) (by omega)) (zq_le (by omega) (by omega))) k_604 k_605 k_7 k_606 hdX6_in ⟨rfl, rfl⟩ ⟨Nat.le_of_ble_eq_true rfl, Nat.le_of_ble_eq_true rfl⟩ rfl rfl (Nat.le_of_ble_eq_true rfl) dX6_set_37 ?_
  refine zr_if_eq X 53 dX6_set_40 (by decide) (fun q => absurd q (nI_ne0 (by omega) (by omega))) (fun _ => ?_)
  refine zr_iloadn X 2 dX6_set_43 rfl ?_
  refine zr_iloadn X 3 dX6_set_44 rfl ?_
  refine zr_iload X 4 dX6_set_45 rfl ?_
  refine zr_dSi [.int (nI (v)), .int (nI (1)), .int (nI (5))] [] X (zK_ok A D tc tF tL tM) (c_in_t E μ (zq_le (by omega) (by omega)) (zq_le (by omega) (by omega))) k_604 k_605 k_7 k_606 hdX6_in ⟨rfl, rfl⟩ ⟨Nat.le_of_ble_eq_true rfl, Nat.le_of_ble_eq_true rfl⟩ rfl rfl (Nat.le_of_ble_eq_true rfl) dX6_set_47 ?_
  refine zr_if_ne X 56 dX6_set_50 (by decide) (fun _ => ?_) (fun q => absurd q (nI_ne0 (by omega) (by omega)))
  refine zr_aloadn X 0 dX6_set_56 rfl ?_
  refine zr_get X (ci := 6) (q := 0) (zR (1)) (.ref (ad (1))) dX6_set_57 (by omega) rfl rfl inX6 (by decide) rfl (rfl) rfl k_539 ?_
  refine zr_iconst X (nI (2)) dX6_set_60 (by decide +kernel) ?_
  refine zr_iloadn X 1 dX6_set_61 rfl ?_
  refine zr_iadd X (nI (5)) dX6_set_62 ((nI_add _ _).trans (congrArg nI (by omega))) ?_
  refine zr_iald X (j := 5) 0 (μ (5)) dX6_set_63 (by omega) rfl rfl rfl (by omega) (by omega) (zcg (b := 5) (by omega) (rfl)) ?_
  refine zr_istore X [1, 2, 3, 4, 5, 0] [(0, .ref (ad (0))), (1, .int (nI (3))), (2, .int (nI (v))), (3, .int (nI (1))), (4, .int (nI (5))), (5, .int (μ (5)))] dX6_set_64 (by decide) rfl ?_
  refine zr_iload X 5 dX6_set_66 rfl ?_
  refine zr_iloadn X 2 dX6_set_68 rfl ?_
  refine zr_icmp_ne X 75 dX6_set_69 (by decide) (fun q => absurd (h) q) (fun _ => ?_)
  refine zr_bipush X (-5) dX6_set_72 (by decide +kernel) ?_
  exact zr_iret X dX6_set_74 ⟨rfl, rfl⟩

set_option maxHeartbeats 4000000 in
set_option maxRecDepth 100000 in
theorem c_set_ok3 {l : Launch} {D : va_G} {tc : Nat → ClassId} {ad : Nat → Nat} {A : Nat → Prop} {tF tL tM : Nat} (E : zN 6 A ad) (μ : Nat → Int32) {m c k : Nat} (S : refS μ m c k) {v : Nat} (h1 : 1 ≤ v) (h2 : v ≤ 5) (h : ¬ μ (5) = nI v) : zMi l yX6_set cX6_set 6 (some .int) (zrm 5) (zK A D tc tF tL tM) A D vwCl tc ad 6 shR [.ref (ad (0)), .int (nI (3)), .int (nI (v))] μ (fun r u => r = μ (5) ∧ u = (upd (zrec μ (0) (k)) (5) (nI (v)))) := by
  refine zM_of RX6 [(0, .ref (ad (0))), (1, .int (nI (3))), (2, .int (nI (v)))] (zK_ok A D tc tF tL tM) E.1 E.2 owR_ok (by decide +kernel) rfl (Nat.le_of_ble_eq_true rfl) rfl ?_
  intro pP eE sS mM aS bL mT cO X
  obtain ⟨hm, hm2, hc, h8, hk, hk4⟩ := S
  refine zr_iloadn X 1 dX6_set_0 rfl ?_
  refine zr_iconst X (nI (3)) dX6_set_1 (by decide +kernel) ?_
  refine zr_icmp_ne X 9 dX6_set_2 (by decide) (fun q => absurd (zq_eq (by omega)) q) (fun _ => ?_)
  refine zr_iconst X (nI (1)) dX6_set_5 (by decide +kernel) ?_
  refine zr_goto X 10 dX6_set_6 (by decide) ?_
  refine zr_istoren X [1, 2, 3, 0] [(0, .ref (ad (0))), (1, .int (nI (3))), (2, .int (nI (v))), (3, .int (nI (1)))] dX6_set_10 (by decide) rfl ?_
  refine zr_iloadn X 1 dX6_set_11 rfl ?_
  refine zr_iconst X (nI (3)) dX6_set_12 (by decide +kernel) ?_
  refine zr_icmp_ne X 20 dX6_set_13 (by decide) (fun q => absurd (zq_eq (by omega)) q) (fun _ => ?_)
  refine zr_iconst X (nI (5)) dX6_set_16 (by decide +kernel) ?_
  refine zr_goto X 32 dX6_set_17 (by decide) ?_
  refine zr_istore X [1, 2, 3, 4, 0] [(0, .ref (ad (0))), (1, .int (nI (3))), (2, .int (nI (v))), (3, .int (nI (1))), (4, .int (nI (5)))] dX6_set_32 (by decide) rfl ?_
  refine zr_iloadn X 1 dX6_set_34 rfl ?_
  refine zr_iconst X (nI (0)) dX6_set_35 (by decide +kernel) ?_
  refine zr_iconst X (nI (4)) dX6_set_36 (by decide +kernel) ?_
  refine zr_dSi [.int (nI (3)), .int (nI (0)), .int (nI (4))] [] X (zK_ok A D tc tF tL tM) (c_in_t E μ (zq_le (by omega) (by omega)) (zq_le (by omega) (by omega))) k_604 k_605 k_7 k_606 hdX6_in ⟨rfl, rfl⟩ ⟨Nat.le_of_ble_eq_true rfl, Nat.le_of_ble_eq_true rfl⟩ rfl rfl (Nat.le_of_ble_eq_true rfl) dX6_set_37 ?_
  refine zr_if_eq X 53 dX6_set_40 (by decide) (fun q => absurd q (nI_ne0 (by omega) (by omega))) (fun _ => ?_)
  refine zr_iloadn X 2 dX6_set_43 rfl ?_
  refine zr_iloadn X 3 dX6_set_44 rfl ?_
  refine zr_iload X 4 dX6_set_45 rfl ?_
  refine zr_dSi [.int (nI (v)), .int (nI (1)), .int (nI (5))] [] X (zK_ok A D tc tF tL tM) (c_in_t E μ (zq_le (by omega) (by omega)) (zq_le (by omega) (by omega))) k_604 k_605 k_7 k_606 hdX6_in ⟨rfl, rfl⟩ ⟨Nat.le_of_ble_eq_true rfl, Nat.le_of_ble_eq_true rfl⟩ rfl rfl (Nat.le_of_ble_eq_true rfl) dX6_set_47 ?_
  refine zr_if_ne X 56 dX6_set_50 (by decide) (fun _ => ?_) (fun q => absurd q (nI_ne0 (by omega) (by omega)))
  refine zr_aloadn X 0 dX6_set_56 rfl ?_
  refine zr_get X (ci := 6) (q := 0) (zR (1)) (.ref (ad (1))) dX6_set_57 (by omega) rfl rfl inX6 (by decide) rfl (rfl) rfl k_539 ?_
  refine zr_iconst X (nI (2)) dX6_set_60 (by decide +kernel) ?_
  refine zr_iloadn X 1 dX6_set_61 rfl ?_
  refine zr_iadd X (nI (5)) dX6_set_62 ((nI_add _ _).trans (congrArg nI (by omega))) ?_
  refine zr_iald X (j := 5) 0 (μ (5)) dX6_set_63 (by omega) rfl rfl rfl (by omega) (by omega) (zcg (b := 5) (by omega) (rfl)) ?_
  refine zr_istore X [1, 2, 3, 4, 5, 0] [(0, .ref (ad (0))), (1, .int (nI (3))), (2, .int (nI (v))), (3, .int (nI (1))), (4, .int (nI (5))), (5, .int (μ (5)))] dX6_set_64 (by decide) rfl ?_
  refine zr_iload X 5 dX6_set_66 rfl ?_
  refine zr_iloadn X 2 dX6_set_68 rfl ?_
  refine zr_icmp_ne X 75 dX6_set_69 (by decide) (fun _ => ?_) (fun q => absurd q (h))
  refine zr_aloadn X 0 dX6_set_75 rfl ?_
  refine zr_iconst X (nI (0)) dX6_set_76 (by decide +kernel) ?_
  refine zr_dVv (C := RX6) (ci := 6) [.int (nI (0))] [] X (zK_ok A D tc tF tL tM) (c_record E μ (hk) hk4 (by omega)) k_589 k_591 kp_1 k_7 k_592 hdX6_record ⟨rfl, rfl⟩ ⟨Nat.le_of_ble_eq_true rfl, Nat.le_of_ble_eq_true rfl⟩ (by omega) rfl rfl rfl rfl (Nat.le_of_ble_eq_true rfl) dX6_set_77 ?_
  refine zr_aloadn X 0 dX6_set_80 rfl ?_
  refine zr_get X (ci := 6) (q := 0) (zR (1)) (.ref (ad (1))) dX6_set_81 (by omega) rfl rfl inX6 (by decide) rfl (rfl) rfl k_539 ?_
  refine zr_iconst X (nI (2)) dX6_set_84 (by decide +kernel) ?_
  refine zr_iloadn X 1 dX6_set_85 rfl ?_
  refine zr_iadd X (nI (5)) dX6_set_86 ((nI_add _ _).trans (congrArg nI (by omega))) ?_
  refine zr_iloadn X 2 dX6_set_87 rfl ?_
  refine zr_iast X (j := 5) 0 (5) dX6_set_88 (by omega) rfl rfl rfl (by omega) (by omega) (by omega) ?_
  refine zr_iload X 5 dX6_set_89 rfl ?_
  exact zr_iret X dX6_set_91 ⟨rfl, rfl⟩

set_option maxHeartbeats 4000000 in
set_option maxRecDepth 100000 in
theorem c_set_bad4 {l : Launch} {D : va_G} {tc : Nat → ClassId} {ad : Nat → Nat} {A : Nat → Prop} {tF tL tM : Nat} (E : zN 6 A ad) (μ : Nat → Int32) {m c k : Nat} (S : refS μ m c k) {x : Int32} (hx : ¬ zin x 0 99)  : zMi l yX6_set cX6_set 6 (some .int) (zrm 5) (zK A D tc tF tL tM) A D vwCl tc ad 6 shR [.ref (ad (0)), .int (nI (4)), .int (x)] μ (fun r u => r = -2 ∧ u = μ) := by
  refine zM_of RX6 [(0, .ref (ad (0))), (1, .int (nI (4))), (2, .int (x))] (zK_ok A D tc tF tL tM) E.1 E.2 owR_ok (by decide +kernel) rfl (Nat.le_of_ble_eq_true rfl) rfl ?_
  intro pP eE sS mM aS bL mT cO X
  obtain ⟨hm, hm2, hc, h8, hk, hk4⟩ := S
  refine zr_iloadn X 1 dX6_set_0 rfl ?_
  refine zr_iconst X (nI (3)) dX6_set_1 (by decide +kernel) ?_
  refine zr_icmp_ne X 9 dX6_set_2 (by decide) (fun _ => ?_) (fun q => absurd q (zq_ne (by omega) (by omega) (by omega)))
  refine zr_iconst X (nI (0)) dX6_set_9 (by decide +kernel) ?_
  refine zr_istoren X [1, 2, 3, 0] [(0, .ref (ad (0))), (1, .int (nI (4))), (2, .int (x)), (3, .int (nI (0)))] dX6_set_10 (by decide) rfl ?_
  refine zr_iloadn X 1 dX6_set_11 rfl ?_
  refine zr_iconst X (nI (3)) dX6_set_12 (by decide +kernel) ?_
  refine zr_icmp_ne X 20 dX6_set_13 (by decide) (fun _ => ?_) (fun q => absurd q (zq_ne (by omega) (by omega) (by omega)))
  refine zr_iloadn X 1 dX6_set_20 rfl ?_
  refine zr_iconst X (nI (4)) dX6_set_21 (by decide +kernel) ?_
  refine zr_icmp_ne X 30 dX6_set_22 (by decide) (fun q => absurd (zq_eq (by omega)) q) (fun _ => ?_)
  refine zr_bipush X (nI (99)) dX6_set_25 (by decide +kernel) ?_
  refine zr_goto X 32 dX6_set_27 (by decide) ?_
  refine zr_istore X [1, 2, 3, 4, 0] [(0, .ref (ad (0))), (1, .int (nI (4))), (2, .int (x)), (3, .int (nI (0))), (4, .int (nI (99)))] dX6_set_32 (by decide) rfl ?_
  refine zr_iloadn X 1 dX6_set_34 rfl ?_
  refine zr_iconst X (nI (0)) dX6_set_35 (by decide +kernel) ?_
  refine zr_iconst X (nI (4)) dX6_set_36 (by decide +kernel) ?_
  refine zr_dSi [.int (nI (4)), .int (nI (0)), .int (nI (4))] [] X (zK_ok A D tc tF tL tM) (c_in_t E μ (zq_le (by omega) (by omega)) (zq_le (by omega) (by omega))) k_604 k_605 k_7 k_606 hdX6_in ⟨rfl, rfl⟩ ⟨Nat.le_of_ble_eq_true rfl, Nat.le_of_ble_eq_true rfl⟩ rfl rfl (Nat.le_of_ble_eq_true rfl) dX6_set_37 ?_
  refine zr_if_eq X 53 dX6_set_40 (by decide) (fun q => absurd q (nI_ne0 (by omega) (by omega))) (fun _ => ?_)
  refine zr_iloadn X 2 dX6_set_43 rfl ?_
  refine zr_iloadn X 3 dX6_set_44 rfl ?_
  refine zr_iload X 4 dX6_set_45 rfl ?_
  refine zr_dSi [.int (x), .int (nI (0)), .int (nI (99))] [] X (zK_ok A D tc tF tL tM) (c_in_f E μ (fun q => hx (zin_of (by omega) q.1 q.2 (by omega)))) k_604 k_605 k_7 k_606 hdX6_in ⟨rfl, rfl⟩ ⟨Nat.le_of_ble_eq_true rfl, Nat.le_of_ble_eq_true rfl⟩ rfl rfl (Nat.le_of_ble_eq_true rfl) dX6_set_47 ?_
  refine zr_if_ne X 56 dX6_set_50 (by decide) (fun q => absurd (zq_eq0 (by omega)) q) (fun _ => ?_)
  refine zr_bipush X (-2) dX6_set_53 (by decide +kernel) ?_
  exact zr_iret X dX6_set_55 ⟨rfl, rfl⟩

set_option maxHeartbeats 4000000 in
set_option maxRecDepth 100000 in
theorem c_set_none4 {l : Launch} {D : va_G} {tc : Nat → ClassId} {ad : Nat → Nat} {A : Nat → Prop} {tF tL tM : Nat} (E : zN 6 A ad) (μ : Nat → Int32) {m c k : Nat} (S : refS μ m c k) {v : Nat} (h1 : 0 ≤ v) (h2 : v ≤ 99) (h : μ (6) = nI v) : zMi l yX6_set cX6_set 6 (some .int) (zrm 5) (zK A D tc tF tL tM) A D vwCl tc ad 6 shR [.ref (ad (0)), .int (nI (4)), .int (nI (v))] μ (fun r u => r = -5 ∧ u = μ) := by
  refine zM_of RX6 [(0, .ref (ad (0))), (1, .int (nI (4))), (2, .int (nI (v)))] (zK_ok A D tc tF tL tM) E.1 E.2 owR_ok (by decide +kernel) rfl (Nat.le_of_ble_eq_true rfl) rfl ?_
  intro pP eE sS mM aS bL mT cO X
  obtain ⟨hm, hm2, hc, h8, hk, hk4⟩ := S
  refine zr_iloadn X 1 dX6_set_0 rfl ?_
  refine zr_iconst X (nI (3)) dX6_set_1 (by decide +kernel) ?_
  refine zr_icmp_ne X 9 dX6_set_2 (by decide) (fun _ => ?_) (fun q => absurd q (zq_ne (by omega) (by omega) (by omega)))
  refine zr_iconst X (nI (0)) dX6_set_9 (by decide +kernel) ?_
  refine zr_istoren X [1, 2, 3, 0] [(0, .ref (ad (0))), (1, .int (nI (4))), (2, .int (nI (v))), (3, .int (nI (0)))] dX6_set_10 (by decide) rfl ?_
  refine zr_iloadn X 1 dX6_set_11 rfl ?_
  refine zr_iconst X (nI (3)) dX6_set_12 (by decide +kernel) ?_
  refine zr_icmp_ne X 20 dX6_set_13 (by decide) (fun _ => ?_) (fun q => absurd q (zq_ne (by omega) (by omega) (by omega)))
  refine zr_iloadn X 1 dX6_set_20 rfl ?_
  refine zr_iconst X (nI (4)) dX6_set_21 (by decide +kernel) ?_
  refine zr_icmp_ne X 30 dX6_set_22 (by decide) (fun q => absurd (zq_eq (by omega)) q) (fun _ => ?_)
  refine zr_bipush X (nI (99)) dX6_set_25 (by decide +kernel) ?_
  refine zr_goto X 32 dX6_set_27 (by decide) ?_
  refine zr_istore X [1, 2, 3, 4, 0] [(0, .ref (ad (0))), (1, .int (nI (4))), (2, .int (nI (v))), (3, .int (nI (0))), (4, .int (nI (99)))] dX6_set_32 (by decide) rfl ?_
  refine zr_iloadn X 1 dX6_set_34 rfl ?_
  refine zr_iconst X (nI (0)) dX6_set_35 (by decide +kernel) ?_
  refine zr_iconst X (nI (4)) dX6_set_36 (by decide +kernel) ?_
  refine zr_dSi [.int (nI (4)), .int (nI (0)), .int (nI (4))] [] X (zK_ok A D tc tF tL tM) (c_in_t E μ (zq_le (by omega) (by omega)) (zq_le (by omega) (by omega))) k_604 k_605 k_7 k_606 hdX6_in ⟨rfl, rfl⟩ ⟨Nat.le_of_ble_eq_true rfl, Nat.le_of_ble_eq_true rfl⟩ rfl rfl (Nat.le_of_ble_eq_true rfl) dX6_set_37 ?_
  refine zr_if_eq X 53 dX6_set_40 (by decide) (fun q => absurd q (nI_ne0 (by omega) (by omega))) (fun _ => ?_)
  refine zr_iloadn X 2 dX6_set_43 rfl ?_
  refine zr_iloadn X 3 dX6_set_44 rfl ?_
  refine zr_iload X 4 dX6_set_45 rfl ?_
  refine zr_dSi [.int (nI (v)), .int (nI (0)), .int (nI (99))] [] X (zK_ok A D tc tF tL tM) (c_in_t E μ (zq_le (by omega) (by omega)) (zq_le (by omega) (by omega))) k_604 k_605 k_7 k_606 hdX6_in ⟨rfl, rfl⟩ ⟨Nat.le_of_ble_eq_true rfl, Nat.le_of_ble_eq_true rfl⟩ rfl rfl (Nat.le_of_ble_eq_true rfl) dX6_set_47 ?_
  refine zr_if_ne X 56 dX6_set_50 (by decide) (fun _ => ?_) (fun q => absurd q (nI_ne0 (by omega) (by omega)))
  refine zr_aloadn X 0 dX6_set_56 rfl ?_
  refine zr_get X (ci := 6) (q := 0) (zR (1)) (.ref (ad (1))) dX6_set_57 (by omega) rfl rfl inX6 (by decide) rfl (rfl) rfl k_539 ?_
  refine zr_iconst X (nI (2)) dX6_set_60 (by decide +kernel) ?_
  refine zr_iloadn X 1 dX6_set_61 rfl ?_
  refine zr_iadd X (nI (6)) dX6_set_62 ((nI_add _ _).trans (congrArg nI (by omega))) ?_
  refine zr_iald X (j := 6) 0 (μ (6)) dX6_set_63 (by omega) rfl rfl rfl (by omega) (by omega) (zcg (b := 6) (by omega) (rfl)) ?_
  refine zr_istore X [1, 2, 3, 4, 5, 0] [(0, .ref (ad (0))), (1, .int (nI (4))), (2, .int (nI (v))), (3, .int (nI (0))), (4, .int (nI (99))), (5, .int (μ (6)))] dX6_set_64 (by decide) rfl ?_
  refine zr_iload X 5 dX6_set_66 rfl ?_
  refine zr_iloadn X 2 dX6_set_68 rfl ?_
  refine zr_icmp_ne X 75 dX6_set_69 (by decide) (fun q => absurd (h) q) (fun _ => ?_)
  refine zr_bipush X (-5) dX6_set_72 (by decide +kernel) ?_
  exact zr_iret X dX6_set_74 ⟨rfl, rfl⟩

set_option maxHeartbeats 4000000 in
set_option maxRecDepth 100000 in
theorem c_set_ok4 {l : Launch} {D : va_G} {tc : Nat → ClassId} {ad : Nat → Nat} {A : Nat → Prop} {tF tL tM : Nat} (E : zN 6 A ad) (μ : Nat → Int32) {m c k : Nat} (S : refS μ m c k) {v : Nat} (h1 : 0 ≤ v) (h2 : v ≤ 99) (h : ¬ μ (6) = nI v) : zMi l yX6_set cX6_set 6 (some .int) (zrm 5) (zK A D tc tF tL tM) A D vwCl tc ad 6 shR [.ref (ad (0)), .int (nI (4)), .int (nI (v))] μ (fun r u => r = μ (6) ∧ u = (upd (zrec μ (0) (k)) (6) (nI (v)))) := by
  refine zM_of RX6 [(0, .ref (ad (0))), (1, .int (nI (4))), (2, .int (nI (v)))] (zK_ok A D tc tF tL tM) E.1 E.2 owR_ok (by decide +kernel) rfl (Nat.le_of_ble_eq_true rfl) rfl ?_
  intro pP eE sS mM aS bL mT cO X
  obtain ⟨hm, hm2, hc, h8, hk, hk4⟩ := S
  refine zr_iloadn X 1 dX6_set_0 rfl ?_
  refine zr_iconst X (nI (3)) dX6_set_1 (by decide +kernel) ?_
  refine zr_icmp_ne X 9 dX6_set_2 (by decide) (fun _ => ?_) (fun q => absurd q (zq_ne (by omega) (by omega) (by omega)))
  refine zr_iconst X (nI (0)) dX6_set_9 (by decide +kernel) ?_
  refine zr_istoren X [1, 2, 3, 0] [(0, .ref (ad (0))), (1, .int (nI (4))), (2, .int (nI (v))), (3, .int (nI (0)))] dX6_set_10 (by decide) rfl ?_
  refine zr_iloadn X 1 dX6_set_11 rfl ?_
  refine zr_iconst X (nI (3)) dX6_set_12 (by decide +kernel) ?_
  refine zr_icmp_ne X 20 dX6_set_13 (by decide) (fun _ => ?_) (fun q => absurd q (zq_ne (by omega) (by omega) (by omega)))
  refine zr_iloadn X 1 dX6_set_20 rfl ?_
  refine zr_iconst X (nI (4)) dX6_set_21 (by decide +kernel) ?_
  refine zr_icmp_ne X 30 dX6_set_22 (by decide) (fun q => absurd (zq_eq (by omega)) q) (fun _ => ?_)
  refine zr_bipush X (nI (99)) dX6_set_25 (by decide +kernel) ?_
  refine zr_goto X 32 dX6_set_27 (by decide) ?_
  refine zr_istore X [1, 2, 3, 4, 0] [(0, .ref (ad (0))), (1, .int (nI (4))), (2, .int (nI (v))), (3, .int (nI (0))), (4, .int (nI (99)))] dX6_set_32 (by decide) rfl ?_
  refine zr_iloadn X 1 dX6_set_34 rfl ?_
  refine zr_iconst X (nI (0)) dX6_set_35 (by decide +kernel) ?_
  refine zr_iconst X (nI (4)) dX6_set_36 (by decide +kernel) ?_
  refine zr_dSi [.int (nI (4)), .int (nI (0)), .int (nI (4))] [] X (zK_ok A D tc tF tL tM) (c_in_t E μ (zq_le (by omega) (by omega)) (zq_le (by omega) (by omega))) k_604 k_605 k_7 k_606 hdX6_in ⟨rfl, rfl⟩ ⟨Nat.le_of_ble_eq_true rfl, Nat.le_of_ble_eq_true rfl⟩ rfl rfl (Nat.le_of_ble_eq_true rfl) dX6_set_37 ?_
  refine zr_if_eq X 53 dX6_set_40 (by decide) (fun q => absurd q (nI_ne0 (by omega) (by omega))) (fun _ => ?_)
  refine zr_iloadn X 2 dX6_set_43 rfl ?_
  refine zr_iloadn X 3 dX6_set_44 rfl ?_
  refine zr_iload X 4 dX6_set_45 rfl ?_
  refine zr_dSi [.int (nI (v)), .int (nI (0)), .int (nI (99))] [] X (zK_ok A D tc tF tL tM) (c_in_t E μ (zq_le (by omega) (by omega)) (zq_le (by omega) (by omega))) k_604 k_605 k_7 k_606 hdX6_in ⟨rfl, rfl⟩ ⟨Nat.le_of_ble_eq_true rfl, Nat.le_of_ble_eq_true rfl⟩ rfl rfl (Nat.le_of_ble_eq_true rfl) dX6_set_47 ?_
  refine zr_if_ne X 56 dX6_set_50 (by decide) (fun _ => ?_) (fun q => absurd q (nI_ne0 (by omega) (by omega)))
  refine zr_aloadn X 0 dX6_set_56 rfl ?_
  refine zr_get X (ci := 6) (q := 0) (zR (1)) (.ref (ad (1))) dX6_set_57 (by omega) rfl rfl inX6 (by decide) rfl (rfl) rfl k_539 ?_
  refine zr_iconst X (nI (2)) dX6_set_60 (by decide +kernel) ?_
  refine zr_iloadn X 1 dX6_set_61 rfl ?_
  refine zr_iadd X (nI (6)) dX6_set_62 ((nI_add _ _).trans (congrArg nI (by omega))) ?_
  refine zr_iald X (j := 6) 0 (μ (6)) dX6_set_63 (by omega) rfl rfl rfl (by omega) (by omega) (zcg (b := 6) (by omega) (rfl)) ?_
  refine zr_istore X [1, 2, 3, 4, 5, 0] [(0, .ref (ad (0))), (1, .int (nI (4))), (2, .int (nI (v))), (3, .int (nI (0))), (4, .int (nI (99))), (5, .int (μ (6)))] dX6_set_64 (by decide) rfl ?_
  refine zr_iload X 5 dX6_set_66 rfl ?_
  refine zr_iloadn X 2 dX6_set_68 rfl ?_
  refine zr_icmp_ne X 75 dX6_set_69 (by decide) (fun _ => ?_) (fun q => absurd q (h))
  refine zr_aloadn X 0 dX6_set_75 rfl ?_
  refine zr_iconst X (nI (0)) dX6_set_76 (by decide +kernel) ?_
  refine zr_dVv (C := RX6) (ci := 6) [.int (nI (0))] [] X (zK_ok A D tc tF tL tM) (c_record E μ (hk) hk4 (by omega)) k_589 k_591 kp_1 k_7 k_592 hdX6_record ⟨rfl, rfl⟩ ⟨Nat.le_of_ble_eq_true rfl, Nat.le_of_ble_eq_true rfl⟩ (by omega) rfl rfl rfl rfl (Nat.le_of_ble_eq_true rfl) dX6_set_77 ?_
  refine zr_aloadn X 0 dX6_set_80 rfl ?_
  refine zr_get X (ci := 6) (q := 0) (zR (1)) (.ref (ad (1))) dX6_set_81 (by omega) rfl rfl inX6 (by decide) rfl (rfl) rfl k_539 ?_
  refine zr_iconst X (nI (2)) dX6_set_84 (by decide +kernel) ?_
  refine zr_iloadn X 1 dX6_set_85 rfl ?_
  refine zr_iadd X (nI (6)) dX6_set_86 ((nI_add _ _).trans (congrArg nI (by omega))) ?_
  refine zr_iloadn X 2 dX6_set_87 rfl ?_
  refine zr_iast X (j := 6) 0 (6) dX6_set_88 (by omega) rfl rfl rfl (by omega) (by omega) (by omega) ?_
  refine zr_iload X 5 dX6_set_89 rfl ?_
  exact zr_iret X dX6_set_91 ⟨rfl, rfl⟩

set_option maxHeartbeats 4000000 in
set_option maxRecDepth 100000 in
theorem c_set_badw {l : Launch} {D : va_G} {tc : Nat → ClassId} {ad : Nat → Nat} {A : Nat → Prop} {tF tL tM : Nat} (E : zN 6 A ad) (μ : Nat → Int32) {m c k : Nat} (S : refS μ m c k) {x : Int32} (hx : ¬ zin x 0 4) (z : Int32)  : zMi l yX6_set cX6_set 6 (some .int) (zrm 5) (zK A D tc tF tL tM) A D vwCl tc ad 6 shR [.ref (ad (0)), .int (x), .int (z)] μ (fun r u => r = -2 ∧ u = μ) := by
  refine zM_of RX6 [(0, .ref (ad (0))), (1, .int (x)), (2, .int (z))] (zK_ok A D tc tF tL tM) E.1 E.2 owR_ok (by decide +kernel) rfl (Nat.le_of_ble_eq_true rfl) rfl ?_
  intro pP eE sS mM aS bL mT cO X
  obtain ⟨hm, hm2, hc, h8, hk, hk4⟩ := S
  refine zr_iloadn X 1 dX6_set_0 rfl ?_
  refine zr_iconst X (nI (3)) dX6_set_1 (by decide +kernel) ?_
  refine zr_icmp_ne X 9 dX6_set_2 (by decide) (fun _ => ?_) (fun q => absurd q (fun q => hx ⟨3, by omega, by omega, q⟩))
  refine zr_iconst X (nI (0)) dX6_set_9 (by decide +kernel) ?_
  refine zr_istoren X [1, 2, 3, 0] [(0, .ref (ad (0))), (1, .int (x)), (2, .int (z)), (3, .int (nI (0)))] dX6_set_10 (by decide) rfl ?_
  refine zr_iloadn X 1 dX6_set_11 rfl ?_
  refine zr_iconst X (nI (3)) dX6_set_12 (by decide +kernel) ?_
  refine zr_icmp_ne X 20 dX6_set_13 (by decide) (fun _ => ?_) (fun q => absurd q (fun q => hx ⟨3, by omega, by omega, q⟩))
  refine zr_iloadn X 1 dX6_set_20 rfl ?_
  refine zr_iconst X (nI (4)) dX6_set_21 (by decide +kernel) ?_
  refine zr_icmp_ne X 30 dX6_set_22 (by decide) (fun _ => ?_) (fun q => absurd q (fun q => hx ⟨4, by omega, by omega, q⟩))
  refine zr_bipush X (nI (100)) dX6_set_30 (by decide +kernel) ?_
  refine zr_istore X [1, 2, 3, 4, 0] [(0, .ref (ad (0))), (1, .int (x)), (2, .int (z)), (3, .int (nI (0))), (4, .int (nI (100)))] dX6_set_32 (by decide) rfl ?_
  refine zr_iloadn X 1 dX6_set_34 rfl ?_
  refine zr_iconst X (nI (0)) dX6_set_35 (by decide +kernel) ?_
  refine zr_iconst X (nI (4)) dX6_set_36 (by decide +kernel) ?_
  refine zr_dSi [.int (x), .int (nI (0)), .int (nI (4))] [] X (zK_ok A D tc tF tL tM) (c_in_f E μ (fun q => hx (zin_of (by omega) q.1 q.2 (by omega)))) k_604 k_605 k_7 k_606 hdX6_in ⟨rfl, rfl⟩ ⟨Nat.le_of_ble_eq_true rfl, Nat.le_of_ble_eq_true rfl⟩ rfl rfl (Nat.le_of_ble_eq_true rfl) dX6_set_37 ?_
  refine zr_if_eq X 53 dX6_set_40 (by decide) (fun _ => ?_) (fun q => absurd (zq_eq0 (by omega)) q)
  refine zr_bipush X (-2) dX6_set_53 (by decide +kernel) ?_
  exact zr_iret X dX6_set_55 ⟨rfl, rfl⟩

set_option maxHeartbeats 4000000 in
set_option maxRecDepth 100000 in
theorem c_issue_u {l : Launch} {D : va_G} {tc : Nat → ClassId} {ad : Nat → Nat} {A : Nat → Prop} {tF tL tM : Nat} (E : zN 6 A ad) (μ : Nat → Int32) {m c k : Nat} (S : refS μ m c k) {x : Int32} (hx : ¬ zfm x c) (z : Int32)  : zMi l yX6_issue cX6_issue 3 (some .int) (zrm 5) (zK A D tc tF tL tM) A D vwCl tc ad 6 shR [.ref (ad (0)), .int (x), .int (z)] μ (fun r u => r = -1 ∧ u = μ) := by
  refine zM_of RX6 [(0, .ref (ad (0))), (1, .int (x)), (2, .int (z))] (zK_ok A D tc tF tL tM) E.1 E.2 owR_ok (by decide +kernel) rfl (Nat.le_of_ble_eq_true rfl) rfl ?_
  intro pP eE sS mM aS bL mT cO X
  obtain ⟨hm, hm2, hc, h8, hk, hk4⟩ := S
  refine zr_aloadn X 0 dX6_issue_0 rfl ?_
  refine zr_iloadn X 1 dX6_issue_1 rfl ?_
  refine zr_dVi (C := RX6) (ci := 6) [.int (x)] [] X (zK_ok A D tc tF tL tM) (c_isFirm_f E μ (hc) h8 hx) k_611 k_613 kp_2 k_7 k_614 hdX6_isFirm ⟨rfl, rfl⟩ ⟨Nat.le_of_ble_eq_true rfl, Nat.le_of_ble_eq_true rfl⟩ (by omega) rfl rfl rfl rfl (Nat.le_of_ble_eq_true rfl) dX6_issue_2 ?_
  refine zr_if_ne X 10 dX6_issue_5 (by decide) (fun q => absurd (zq_eq0 (by omega)) q) (fun _ => ?_)
  refine zr_iconst X (-1) dX6_issue_8 (by decide +kernel) ?_
  exact zr_iret X dX6_issue_9 ⟨rfl, rfl⟩

set_option maxHeartbeats 4000000 in
set_option maxRecDepth 100000 in
theorem c_issue_b {l : Launch} {D : va_G} {tc : Nat → ClassId} {ad : Nat → Nat} {A : Nat → Prop} {tF tL tM : Nat} (E : zN 6 A ad) (μ : Nat → Int32) {m c k : Nat} (S : refS μ m c k) {f : Nat} (hf : f < c) {z : Int32} (hx : ¬ zin z 1 9999)  : zMi l yX6_issue cX6_issue 3 (some .int) (zrm 5) (zK A D tc tF tL tM) A D vwCl tc ad 6 shR [.ref (ad (0)), .int (nI (f)), .int (z)] μ (fun r u => r = -2 ∧ u = μ) := by
  refine zM_of RX6 [(0, .ref (ad (0))), (1, .int (nI (f))), (2, .int (z))] (zK_ok A D tc tF tL tM) E.1 E.2 owR_ok (by decide +kernel) rfl (Nat.le_of_ble_eq_true rfl) rfl ?_
  intro pP eE sS mM aS bL mT cO X
  obtain ⟨hm, hm2, hc, h8, hk, hk4⟩ := S
  refine zr_aloadn X 0 dX6_issue_0 rfl ?_
  refine zr_iloadn X 1 dX6_issue_1 rfl ?_
  refine zr_dVi (C := RX6) (ci := 6) [.int (nI (f))] [] X (zK_ok A D tc tF tL tM) (c_isFirm_t E μ (hc) h8 (by omega)) k_611 k_613 kp_2 k_7 k_614 hdX6_isFirm ⟨rfl, rfl⟩ ⟨Nat.le_of_ble_eq_true rfl, Nat.le_of_ble_eq_true rfl⟩ (by omega) rfl rfl rfl rfl (Nat.le_of_ble_eq_true rfl) dX6_issue_2 ?_
  refine zr_if_ne X 10 dX6_issue_5 (by decide) (fun _ => ?_) (fun q => absurd q (nI_ne0 (by omega) (by omega)))
  refine zr_iloadn X 2 dX6_issue_10 rfl ?_
  refine zr_dSi [.int (z)] [] X (zK_ok A D tc tF tL tM) (c_isTonnes_f E μ hx) k_615 k_616 k_7 k_617 hdX6_isTonnes ⟨rfl, rfl⟩ ⟨Nat.le_of_ble_eq_true rfl, Nat.le_of_ble_eq_true rfl⟩ rfl rfl (Nat.le_of_ble_eq_true rfl) dX6_issue_11 ?_
  refine zr_if_ne X 20 dX6_issue_14 (by decide) (fun q => absurd (zq_eq0 (by omega)) q) (fun _ => ?_)
  refine zr_bipush X (-2) dX6_issue_17 (by decide +kernel) ?_
  exact zr_iret X dX6_issue_19 ⟨rfl, rfl⟩

set_option maxHeartbeats 4000000 in
set_option maxRecDepth 100000 in
theorem c_issue_ok {l : Launch} {D : va_G} {tc : Nat → ClassId} {ad : Nat → Nat} {A : Nat → Prop} {tF tL tM : Nat} (E : zN 6 A ad) (μ : Nat → Int32) {m c k : Nat} (S : refS μ m c k) {f : Nat} (hf : f < c) {t : Nat} (ht1 : 1 ≤ t) (ht9 : t ≤ 9999) {y : Nat} (hy : m / 12 = y)  : zMi l yX6_issue cX6_issue 3 (some .int) (zrm 5) (zK A D tc tF tL tM) A D vwCl tc ad 6 shR [.ref (ad (0)), .int (nI (f)), .int (nI (t))] μ (fun r u => r = μ (32 * f + y + 7) + nI t ∧ u = (upd (upd (zrec μ (0) (k)) (32 * f + y + 7) (μ (32 * f + y + 7) + nI (t))) (y + 263) (μ (y + 263) + nI (t)))) := by
  refine zM_of RX6 [(0, .ref (ad (0))), (1, .int (nI (f))), (2, .int (nI (t)))] (zK_ok A D tc tF tL tM) E.1 E.2 owR_ok (by decide +kernel) rfl (Nat.le_of_ble_eq_true rfl) rfl ?_
  intro pP eE sS mM aS bL mT cO X
  obtain ⟨hm, hm2, hc, h8, hk, hk4⟩ := S
  refine zr_aloadn X 0 dX6_issue_0 rfl ?_
  refine zr_iloadn X 1 dX6_issue_1 rfl ?_
  refine zr_dVi (C := RX6) (ci := 6) [.int (nI (f))] [] X (zK_ok A D tc tF tL tM) (c_isFirm_t E μ (hc) h8 (by omega)) k_611 k_613 kp_2 k_7 k_614 hdX6_isFirm ⟨rfl, rfl⟩ ⟨Nat.le_of_ble_eq_true rfl, Nat.le_of_ble_eq_true rfl⟩ (by omega) rfl rfl rfl rfl (Nat.le_of_ble_eq_true rfl) dX6_issue_2 ?_
  refine zr_if_ne X 10 dX6_issue_5 (by decide) (fun _ => ?_) (fun q => absurd q (nI_ne0 (by omega) (by omega)))
  refine zr_iloadn X 2 dX6_issue_10 rfl ?_
  refine zr_dSi [.int (nI (t))] [] X (zK_ok A D tc tF tL tM) (c_isTonnes_t E μ (by omega) (by omega)) k_615 k_616 k_7 k_617 hdX6_isTonnes ⟨rfl, rfl⟩ ⟨Nat.le_of_ble_eq_true rfl, Nat.le_of_ble_eq_true rfl⟩ rfl rfl (Nat.le_of_ble_eq_true rfl) dX6_issue_11 ?_
  refine zr_if_ne X 20 dX6_issue_14 (by decide) (fun _ => ?_) (fun q => absurd q (nI_ne0 (by omega) (by omega)))
  refine zr_aloadn X 0 dX6_issue_20 rfl ?_
  refine zr_iconst X (nI (0)) dX6_issue_21 (by decide +kernel) ?_
  refine zr_dVv (C := RX6) (ci := 6) [.int (nI (0))] [] X (zK_ok A D tc tF tL tM) (c_record E μ (hk) hk4 (by omega)) k_589 k_591 kp_1 k_7 k_592 hdX6_record ⟨rfl, rfl⟩ ⟨Nat.le_of_ble_eq_true rfl, Nat.le_of_ble_eq_true rfl⟩ (by omega) rfl rfl rfl rfl (Nat.le_of_ble_eq_true rfl) dX6_issue_22 ?_
  refine zr_aloadn X 0 dX6_issue_25 rfl ?_
  refine zr_get X (ci := 6) (q := 0) (zR (1)) (.ref (ad (1))) dX6_issue_26 (by omega) rfl rfl inX6 (by decide) rfl (rfl) rfl k_539 ?_
  refine zr_iloadn X 1 dX6_issue_29 rfl ?_
  refine zr_iconst X (nI (0)) dX6_issue_30 (by decide +kernel) ?_
  refine zr_aloadn X 0 dX6_issue_31 rfl ?_
  refine zr_dVi (C := RX6) (ci := 6) [] [.int (nI (0)), .int (nI (f)), .ref (ad (1))] X (zK_ok A D tc tF tL tM) (c_year E (zrec μ (0) (k)) ((zrec_out (by omega) (by omega) hk4).trans (hm)) hm2 hy) k_618 k_620 kp_3 k_7 k_621 hdX6_year ⟨rfl, rfl⟩ ⟨Nat.le_of_ble_eq_true rfl, Nat.le_of_ble_eq_true rfl⟩ (by omega) rfl rfl rfl rfl (Nat.le_of_ble_eq_true rfl) dX6_issue_32 ?_
  refine zr_iadd X (nI (y)) dX6_issue_35 ((nI_add _ _).trans (congrArg nI (by omega))) ?_
  refine zr_dSi [.int (nI (f)), .int (nI (y))] [.ref (ad (1))] X (zK_ok A D tc tF tL tM) (zM_i (z1 := nI (32 * f + y + 7)) (c_of E (zrec μ (0) (k)) (f) (y)) (congrArg nI (by omega))) k_597 k_598 k_7 k_599 hdX6_of ⟨rfl, rfl⟩ ⟨Nat.le_of_ble_eq_true rfl, Nat.le_of_ble_eq_true rfl⟩ rfl rfl (Nat.le_of_ble_eq_true rfl) dX6_issue_36 ?_
  refine zr_dup2 X dX6_issue_39 rfl rfl ?_
  refine zr_iald X (j := 32 * f + y + 7) 0 (μ (32 * f + y + 7)) dX6_issue_40 (by omega) rfl rfl rfl (by omega) (by omega) (zcg (b := 32 * f + y + 7) (by omega) (zrec_out (by omega) (by omega) hk4)) ?_
  refine zr_iloadn X 2 dX6_issue_41 rfl ?_
  refine zr_iadd X ((μ (32 * f + y + 7)) + (nI (t))) dX6_issue_42 rfl ?_
  refine zr_iast X (j := 32 * f + y + 7) 0 (32 * f + y + 7) dX6_issue_43 (by omega) rfl rfl rfl (by omega) (by omega) (by omega) ?_
  refine zr_aloadn X 0 dX6_issue_44 rfl ?_
  refine zr_get X (ci := 6) (q := 0) (zR (1)) (.ref (ad (1))) dX6_issue_45 (by omega) rfl rfl inX6 (by decide) rfl (rfl) rfl k_539 ?_
  refine zr_sipush X (nI (263)) dX6_issue_48 (by decide +kernel) ?_
  refine zr_aloadn X 0 dX6_issue_51 rfl ?_
  refine zr_dVi (C := RX6) (ci := 6) [] [.int (nI (263)), .ref (ad (1))] X (zK_ok A D tc tF tL tM) (c_year E (upd (zrec μ (0) (k)) (32 * f + y + 7) ((μ (32 * f + y + 7)) + (nI (t)))) ((pk_un (by omega)).trans ((zrec_out (by omega) (by omega) hk4).trans (hm))) hm2 hy) k_618 k_620 kp_3 k_7 k_621 hdX6_year ⟨rfl, rfl⟩ ⟨Nat.le_of_ble_eq_true rfl, Nat.le_of_ble_eq_true rfl⟩ (by omega) rfl rfl rfl rfl (Nat.le_of_ble_eq_true rfl) dX6_issue_52 ?_
  refine zr_iadd X (nI (y + 263)) dX6_issue_55 ((nI_add _ _).trans (congrArg nI (by omega))) ?_
  refine zr_dup2 X dX6_issue_56 rfl rfl ?_
  refine zr_iald X (j := y + 263) 0 (μ (y + 263)) dX6_issue_57 (by omega) rfl rfl rfl (by omega) (by omega) (zcg (b := y + 263) (by omega) ((pk_un (by omega)).trans (zrec_out (by omega) (by omega) hk4))) ?_
  refine zr_iloadn X 2 dX6_issue_58 rfl ?_
  refine zr_iadd X ((μ (y + 263)) + (nI (t))) dX6_issue_59 rfl ?_
  refine zr_iast X (j := y + 263) 0 (y + 263) dX6_issue_60 (by omega) rfl rfl rfl (by omega) (by omega) (by omega) ?_
  refine zr_aloadn X 0 dX6_issue_61 rfl ?_
  refine zr_get X (ci := 6) (q := 0) (zR (1)) (.ref (ad (1))) dX6_issue_62 (by omega) rfl rfl inX6 (by decide) rfl (rfl) rfl k_539 ?_
  refine zr_iloadn X 1 dX6_issue_65 rfl ?_
  refine zr_iconst X (nI (0)) dX6_issue_66 (by decide +kernel) ?_
  refine zr_aloadn X 0 dX6_issue_67 rfl ?_
  refine zr_dVi (C := RX6) (ci := 6) [] [.int (nI (0)), .int (nI (f)), .ref (ad (1))] X (zK_ok A D tc tF tL tM) (c_year E (upd (upd (zrec μ (0) (k)) (32 * f + y + 7) ((μ (32 * f + y + 7)) + (nI (t)))) (y + 263) ((μ (y + 263)) + (nI (t)))) ((pk_un (by omega)).trans ((pk_un (by omega)).trans ((zrec_out (by omega) (by omega) hk4).trans (hm)))) hm2 hy) k_618 k_620 kp_3 k_7 k_621 hdX6_year ⟨rfl, rfl⟩ ⟨Nat.le_of_ble_eq_true rfl, Nat.le_of_ble_eq_true rfl⟩ (by omega) rfl rfl rfl rfl (Nat.le_of_ble_eq_true rfl) dX6_issue_68 ?_
  refine zr_iadd X (nI (y)) dX6_issue_71 ((nI_add _ _).trans (congrArg nI (by omega))) ?_
  refine zr_dSi [.int (nI (f)), .int (nI (y))] [.ref (ad (1))] X (zK_ok A D tc tF tL tM) (zM_i (z1 := nI (32 * f + y + 7)) (c_of E (upd (upd (zrec μ (0) (k)) (32 * f + y + 7) ((μ (32 * f + y + 7)) + (nI (t)))) (y + 263) ((μ (y + 263)) + (nI (t)))) (f) (y)) (congrArg nI (by omega))) k_597 k_598 k_7 k_599 hdX6_of ⟨rfl, rfl⟩ ⟨Nat.le_of_ble_eq_true rfl, Nat.le_of_ble_eq_true rfl⟩ rfl rfl (Nat.le_of_ble_eq_true rfl) dX6_issue_72 ?_
  refine zr_iald X (j := 32 * f + y + 7) 0 ((μ (32 * f + y + 7)) + (nI (t))) dX6_issue_75 (by omega) rfl rfl rfl (by omega) (by omega) (zcg (b := 32 * f + y + 7) (by omega) ((pk_un (by omega)).trans (pk_us))) ?_
  exact zr_iret X dX6_issue_76 ⟨rfl, rfl⟩

set_option maxHeartbeats 4000000 in
set_option maxRecDepth 100000 in
theorem c_issueOffsets_u1 {l : Launch} {D : va_G} {tc : Nat → ClassId} {ad : Nat → Nat} {A : Nat → Prop} {tF tL tM : Nat} (E : zN 6 A ad) (μ : Nat → Int32) {m c k : Nat} (S : refS μ m c k) {x : Int32} (hx : ¬ zfm x c) (g z : Int32)  : zMi l yX6_issueOffsets cX6_issueOffsets 4 (some .int) (zrm 5) (zK A D tc tF tL tM) A D vwCl tc ad 6 shR [.ref (ad (0)), .int (x), .int (g), .int (z)] μ (fun r u => r = -1 ∧ u = μ) := by
  refine zM_of RX6 [(0, .ref (ad (0))), (1, .int (x)), (2, .int (g)), (3, .int (z))] (zK_ok A D tc tF tL tM) E.1 E.2 owR_ok (by decide +kernel) rfl (Nat.le_of_ble_eq_true rfl) rfl ?_
  intro pP eE sS mM aS bL mT cO X
  obtain ⟨hm, hm2, hc, h8, hk, hk4⟩ := S
  refine zr_aloadn X 0 dX6_issueOffsets_0 rfl ?_
  refine zr_iloadn X 1 dX6_issueOffsets_1 rfl ?_
  refine zr_dVi (C := RX6) (ci := 6) [.int (x)] [] X (zK_ok A D tc tF tL tM) (c_isFirm_f E μ (hc) h8 hx) k_611 k_613 kp_2 k_7 k_614 hdX6_isFirm ⟨rfl, rfl⟩ ⟨Nat.le_of_ble_eq_true rfl, Nat.le_of_ble_eq_true rfl⟩ (by omega) rfl rfl rfl rfl (Nat.le_of_ble_eq_true rfl) dX6_issueOffsets_2 ?_
  refine zr_if_eq X 15 dX6_issueOffsets_5 (by decide) (fun _ => ?_) (fun q => absurd (zq_eq0 (by omega)) q)
  refine zr_iconst X (-1) dX6_issueOffsets_15 (by decide +kernel) ?_
  exact zr_iret X dX6_issueOffsets_16 ⟨rfl, rfl⟩

set_option maxHeartbeats 4000000 in
set_option maxRecDepth 100000 in
theorem c_issueOffsets_u2 {l : Launch} {D : va_G} {tc : Nat → ClassId} {ad : Nat → Nat} {A : Nat → Prop} {tF tL tM : Nat} (E : zN 6 A ad) (μ : Nat → Int32) {m c k : Nat} (S : refS μ m c k) {f : Nat} (hf : f < c) {x : Int32} (hx : ¬ zin x 0 2) (z : Int32)  : zMi l yX6_issueOffsets cX6_issueOffsets 4 (some .int) (zrm 5) (zK A D tc tF tL tM) A D vwCl tc ad 6 shR [.ref (ad (0)), .int (nI (f)), .int (x), .int (z)] μ (fun r u => r = -1 ∧ u = μ) := by
  refine zM_of RX6 [(0, .ref (ad (0))), (1, .int (nI (f))), (2, .int (x)), (3, .int (z))] (zK_ok A D tc tF tL tM) E.1 E.2 owR_ok (by decide +kernel) rfl (Nat.le_of_ble_eq_true rfl) rfl ?_
  intro pP eE sS mM aS bL mT cO X
  obtain ⟨hm, hm2, hc, h8, hk, hk4⟩ := S
  refine zr_aloadn X 0 dX6_issueOffsets_0 rfl ?_
  refine zr_iloadn X 1 dX6_issueOffsets_1 rfl ?_
  refine zr_dVi (C := RX6) (ci := 6) [.int (nI (f))] [] X (zK_ok A D tc tF tL tM) (c_isFirm_t E μ (hc) h8 (by omega)) k_611 k_613 kp_2 k_7 k_614 hdX6_isFirm ⟨rfl, rfl⟩ ⟨Nat.le_of_ble_eq_true rfl, Nat.le_of_ble_eq_true rfl⟩ (by omega) rfl rfl rfl rfl (Nat.le_of_ble_eq_true rfl) dX6_issueOffsets_2 ?_
  refine zr_if_eq X 15 dX6_issueOffsets_5 (by decide) (fun q => absurd q (nI_ne0 (by omega) (by omega))) (fun _ => ?_)
  refine zr_iloadn X 2 dX6_issueOffsets_8 rfl ?_
  refine zr_dSi [.int (x)] [] X (zK_ok A D tc tF tL tM) (c_isGrade_f E μ hx) k_626 k_627 k_7 k_628 hdX6_isGrade ⟨rfl, rfl⟩ ⟨Nat.le_of_ble_eq_true rfl, Nat.le_of_ble_eq_true rfl⟩ rfl rfl (Nat.le_of_ble_eq_true rfl) dX6_issueOffsets_9 ?_
  refine zr_if_ne X 17 dX6_issueOffsets_12 (by decide) (fun q => absurd (zq_eq0 (by omega)) q) (fun _ => ?_)
  refine zr_iconst X (-1) dX6_issueOffsets_15 (by decide +kernel) ?_
  exact zr_iret X dX6_issueOffsets_16 ⟨rfl, rfl⟩

set_option maxHeartbeats 4000000 in
set_option maxRecDepth 100000 in
theorem c_issueOffsets_b {l : Launch} {D : va_G} {tc : Nat → ClassId} {ad : Nat → Nat} {A : Nat → Prop} {tF tL tM : Nat} (E : zN 6 A ad) (μ : Nat → Int32) {m c k : Nat} (S : refS μ m c k) {f : Nat} (hf : f < c) {g : Nat} (hg : g ≤ 2) {z : Int32} (hx : ¬ zin z 1 9999)  : zMi l yX6_issueOffsets cX6_issueOffsets 4 (some .int) (zrm 5) (zK A D tc tF tL tM) A D vwCl tc ad 6 shR [.ref (ad (0)), .int (nI (f)), .int (nI (g)), .int (z)] μ (fun r u => r = -2 ∧ u = μ) := by
  refine zM_of RX6 [(0, .ref (ad (0))), (1, .int (nI (f))), (2, .int (nI (g))), (3, .int (z))] (zK_ok A D tc tF tL tM) E.1 E.2 owR_ok (by decide +kernel) rfl (Nat.le_of_ble_eq_true rfl) rfl ?_
  intro pP eE sS mM aS bL mT cO X
  obtain ⟨hm, hm2, hc, h8, hk, hk4⟩ := S
  refine zr_aloadn X 0 dX6_issueOffsets_0 rfl ?_
  refine zr_iloadn X 1 dX6_issueOffsets_1 rfl ?_
  refine zr_dVi (C := RX6) (ci := 6) [.int (nI (f))] [] X (zK_ok A D tc tF tL tM) (c_isFirm_t E μ (hc) h8 (by omega)) k_611 k_613 kp_2 k_7 k_614 hdX6_isFirm ⟨rfl, rfl⟩ ⟨Nat.le_of_ble_eq_true rfl, Nat.le_of_ble_eq_true rfl⟩ (by omega) rfl rfl rfl rfl (Nat.le_of_ble_eq_true rfl) dX6_issueOffsets_2 ?_
  refine zr_if_eq X 15 dX6_issueOffsets_5 (by decide) (fun q => absurd q (nI_ne0 (by omega) (by omega))) (fun _ => ?_)
  refine zr_iloadn X 2 dX6_issueOffsets_8 rfl ?_
  refine zr_dSi [.int (nI (g))] [] X (zK_ok A D tc tF tL tM) (c_isGrade_t E μ (by omega) (by omega)) k_626 k_627 k_7 k_628 hdX6_isGrade ⟨rfl, rfl⟩ ⟨Nat.le_of_ble_eq_true rfl, Nat.le_of_ble_eq_true rfl⟩ rfl rfl (Nat.le_of_ble_eq_true rfl) dX6_issueOffsets_9 ?_
  refine zr_if_ne X 17 dX6_issueOffsets_12 (by decide) (fun _ => ?_) (fun q => absurd q (nI_ne0 (by omega) (by omega)))
  refine zr_iloadn X 3 dX6_issueOffsets_17 rfl ?_
  refine zr_dSi [.int (z)] [] X (zK_ok A D tc tF tL tM) (c_isTonnes_f E μ hx) k_615 k_616 k_7 k_617 hdX6_isTonnes ⟨rfl, rfl⟩ ⟨Nat.le_of_ble_eq_true rfl, Nat.le_of_ble_eq_true rfl⟩ rfl rfl (Nat.le_of_ble_eq_true rfl) dX6_issueOffsets_18 ?_
  refine zr_if_ne X 27 dX6_issueOffsets_21 (by decide) (fun q => absurd (zq_eq0 (by omega)) q) (fun _ => ?_)
  refine zr_bipush X (-2) dX6_issueOffsets_24 (by decide +kernel) ?_
  exact zr_iret X dX6_issueOffsets_26 ⟨rfl, rfl⟩

set_option maxHeartbeats 4000000 in
set_option maxRecDepth 100000 in
theorem c_issueOffsets_ok {l : Launch} {D : va_G} {tc : Nat → ClassId} {ad : Nat → Nat} {A : Nat → Prop} {tF tL tM : Nat} (E : zN 6 A ad) (μ : Nat → Int32) {m c k : Nat} (S : refS μ m c k) {f : Nat} (hf : f < c) {g : Nat} (hg : g ≤ 2) {t : Nat} (ht1 : 1 ≤ t) (ht9 : t ≤ 9999)  : zMi l yX6_issueOffsets cX6_issueOffsets 4 (some .int) (zrm 5) (zK A D tc tF tL tM) A D vwCl tc ad 6 shR [.ref (ad (0)), .int (nI (f)), .int (nI (g)), .int (nI (t))] μ (fun r u => r = μ (32 * f + g + 27) + nI t ∧ u = (upd (upd (zrec μ (0) (k)) (32 * f + g + 27) (μ (32 * f + g + 27) + nI (t))) (g + 343) (μ (g + 343) + nI (t)))) := by
  refine zM_of RX6 [(0, .ref (ad (0))), (1, .int (nI (f))), (2, .int (nI (g))), (3, .int (nI (t)))] (zK_ok A D tc tF tL tM) E.1 E.2 owR_ok (by decide +kernel) rfl (Nat.le_of_ble_eq_true rfl) rfl ?_
  intro pP eE sS mM aS bL mT cO X
  obtain ⟨hm, hm2, hc, h8, hk, hk4⟩ := S
  refine zr_aloadn X 0 dX6_issueOffsets_0 rfl ?_
  refine zr_iloadn X 1 dX6_issueOffsets_1 rfl ?_
  refine zr_dVi (C := RX6) (ci := 6) [.int (nI (f))] [] X (zK_ok A D tc tF tL tM) (c_isFirm_t E μ (hc) h8 (by omega)) k_611 k_613 kp_2 k_7 k_614 hdX6_isFirm ⟨rfl, rfl⟩ ⟨Nat.le_of_ble_eq_true rfl, Nat.le_of_ble_eq_true rfl⟩ (by omega) rfl rfl rfl rfl (Nat.le_of_ble_eq_true rfl) dX6_issueOffsets_2 ?_
  refine zr_if_eq X 15 dX6_issueOffsets_5 (by decide) (fun q => absurd q (nI_ne0 (by omega) (by omega))) (fun _ => ?_)
  refine zr_iloadn X 2 dX6_issueOffsets_8 rfl ?_
  refine zr_dSi [.int (nI (g))] [] X (zK_ok A D tc tF tL tM) (c_isGrade_t E μ (by omega) (by omega)) k_626 k_627 k_7 k_628 hdX6_isGrade ⟨rfl, rfl⟩ ⟨Nat.le_of_ble_eq_true rfl, Nat.le_of_ble_eq_true rfl⟩ rfl rfl (Nat.le_of_ble_eq_true rfl) dX6_issueOffsets_9 ?_
  refine zr_if_ne X 17 dX6_issueOffsets_12 (by decide) (fun _ => ?_) (fun q => absurd q (nI_ne0 (by omega) (by omega)))
  refine zr_iloadn X 3 dX6_issueOffsets_17 rfl ?_
  refine zr_dSi [.int (nI (t))] [] X (zK_ok A D tc tF tL tM) (c_isTonnes_t E μ (by omega) (by omega)) k_615 k_616 k_7 k_617 hdX6_isTonnes ⟨rfl, rfl⟩ ⟨Nat.le_of_ble_eq_true rfl, Nat.le_of_ble_eq_true rfl⟩ rfl rfl (Nat.le_of_ble_eq_true rfl) dX6_issueOffsets_18 ?_
  refine zr_if_ne X 27 dX6_issueOffsets_21 (by decide) (fun _ => ?_) (fun q => absurd q (nI_ne0 (by omega) (by omega)))
  refine zr_aloadn X 0 dX6_issueOffsets_27 rfl ?_
  refine zr_iconst X (nI (0)) dX6_issueOffsets_28 (by decide +kernel) ?_
  refine zr_dVv (C := RX6) (ci := 6) [.int (nI (0))] [] X (zK_ok A D tc tF tL tM) (c_record E μ (hk) hk4 (by omega)) k_589 k_591 kp_1 k_7 k_592 hdX6_record ⟨rfl, rfl⟩ ⟨Nat.le_of_ble_eq_true rfl, Nat.le_of_ble_eq_true rfl⟩ (by omega) rfl rfl rfl rfl (Nat.le_of_ble_eq_true rfl) dX6_issueOffsets_29 ?_
  refine zr_aloadn X 0 dX6_issueOffsets_32 rfl ?_
  refine zr_get X (ci := 6) (q := 0) (zR (1)) (.ref (ad (1))) dX6_issueOffsets_33 (by omega) rfl rfl inX6 (by decide) rfl (rfl) rfl k_539 ?_
  refine zr_iloadn X 1 dX6_issueOffsets_36 rfl ?_
  refine zr_bipush X (nI (20)) dX6_issueOffsets_37 (by decide +kernel) ?_
  refine zr_iloadn X 2 dX6_issueOffsets_39 rfl ?_
  refine zr_iadd X (nI (g + 20)) dX6_issueOffsets_40 ((nI_add _ _).trans (congrArg nI (by omega))) ?_
  refine zr_dSi [.int (nI (f)), .int (nI (g + 20))] [.ref (ad (1))] X (zK_ok A D tc tF tL tM) (zM_i (z1 := nI (32 * f + g + 27)) (c_of E (zrec μ (0) (k)) (f) (g + 20)) (congrArg nI (by omega))) k_597 k_598 k_7 k_599 hdX6_of ⟨rfl, rfl⟩ ⟨Nat.le_of_ble_eq_true rfl, Nat.le_of_ble_eq_true rfl⟩ rfl rfl (Nat.le_of_ble_eq_true rfl) dX6_issueOffsets_41 ?_
  refine zr_dup2 X dX6_issueOffsets_44 rfl rfl ?_
  refine zr_iald X (j := 32 * f + g + 27) 0 (μ (32 * f + g + 27)) dX6_issueOffsets_45 (by omega) rfl rfl rfl (by omega) (by omega) (zcg (b := 32 * f + g + 27) (by omega) (zrec_out (by omega) (by omega) hk4)) ?_
  refine zr_iloadn X 3 dX6_issueOffsets_46 rfl ?_
  refine zr_iadd X ((μ (32 * f + g + 27)) + (nI (t))) dX6_issueOffsets_47 rfl ?_
  refine zr_iast X (j := 32 * f + g + 27) 0 (32 * f + g + 27) dX6_issueOffsets_48 (by omega) rfl rfl rfl (by omega) (by omega) (by omega) ?_
  refine zr_aloadn X 0 dX6_issueOffsets_49 rfl ?_
  refine zr_get X (ci := 6) (q := 0) (zR (1)) (.ref (ad (1))) dX6_issueOffsets_50 (by omega) rfl rfl inX6 (by decide) rfl (rfl) rfl k_539 ?_
  refine zr_sipush X (nI (343)) dX6_issueOffsets_53 (by decide +kernel) ?_
  refine zr_iloadn X 2 dX6_issueOffsets_56 rfl ?_
  refine zr_iadd X (nI (g + 343)) dX6_issueOffsets_57 ((nI_add _ _).trans (congrArg nI (by omega))) ?_
  refine zr_dup2 X dX6_issueOffsets_58 rfl rfl ?_
  refine zr_iald X (j := g + 343) 0 (μ (g + 343)) dX6_issueOffsets_59 (by omega) rfl rfl rfl (by omega) (by omega) (zcg (b := g + 343) (by omega) ((pk_un (by omega)).trans (zrec_out (by omega) (by omega) hk4))) ?_
  refine zr_iloadn X 3 dX6_issueOffsets_60 rfl ?_
  refine zr_iadd X ((μ (g + 343)) + (nI (t))) dX6_issueOffsets_61 rfl ?_
  refine zr_iast X (j := g + 343) 0 (g + 343) dX6_issueOffsets_62 (by omega) rfl rfl rfl (by omega) (by omega) (by omega) ?_
  refine zr_aloadn X 0 dX6_issueOffsets_63 rfl ?_
  refine zr_get X (ci := 6) (q := 0) (zR (1)) (.ref (ad (1))) dX6_issueOffsets_64 (by omega) rfl rfl inX6 (by decide) rfl (rfl) rfl k_539 ?_
  refine zr_iloadn X 1 dX6_issueOffsets_67 rfl ?_
  refine zr_bipush X (nI (20)) dX6_issueOffsets_68 (by decide +kernel) ?_
  refine zr_iloadn X 2 dX6_issueOffsets_70 rfl ?_
  refine zr_iadd X (nI (g + 20)) dX6_issueOffsets_71 ((nI_add _ _).trans (congrArg nI (by omega))) ?_
  refine zr_dSi [.int (nI (f)), .int (nI (g + 20))] [.ref (ad (1))] X (zK_ok A D tc tF tL tM) (zM_i (z1 := nI (32 * f + g + 27)) (c_of E (upd (upd (zrec μ (0) (k)) (32 * f + g + 27) ((μ (32 * f + g + 27)) + (nI (t)))) (g + 343) ((μ (g + 343)) + (nI (t)))) (f) (g + 20)) (congrArg nI (by omega))) k_597 k_598 k_7 k_599 hdX6_of ⟨rfl, rfl⟩ ⟨Nat.le_of_ble_eq_true rfl, Nat.le_of_ble_eq_true rfl⟩ rfl rfl (Nat.le_of_ble_eq_true rfl) dX6_issueOffsets_72 ?_
  refine zr_iald X (j := 32 * f + g + 27) 0 ((μ (32 * f + g + 27)) + (nI (t))) dX6_issueOffsets_75 (by omega) rfl rfl rfl (by omega) (by omega) (zcg (b := 32 * f + g + 27) (by omega) ((pk_un (by omega)).trans (pk_us))) ?_
  exact zr_iret X dX6_issueOffsets_76 ⟨rfl, rfl⟩

set_option maxHeartbeats 4000000 in
set_option maxRecDepth 100000 in
theorem c_noTransfer_u1 {l : Launch} {D : va_G} {tc : Nat → ClassId} {ad : Nat → Nat} {A : Nat → Prop} {tF tL tM : Nat} (E : zN 6 A ad) (μ : Nat → Int32) {c : Nat} (hc : μ 1 = nI c) (h8 : c ≤ 8) {x : Int32} (hx : ¬ zfm x c) (to : Int32) (b : Int32) (w : Int32) (t : Int32)  : zMi l yX6_noTransfer cX6_noTransfer 6 (some .int) (zrm 3) (zK A D tc tF tL tM) A D vwCl tc ad 6 shR [.ref (ad (0)), .int (x), .int (to), .int (b), .int (w), .int (t)] μ (fun r u => r = -1 ∧ u = μ) := by
  refine zM_of RX6 [(0, .ref (ad (0))), (1, .int (x)), (2, .int (to)), (3, .int (b)), (4, .int (w)), (5, .int (t))] (zK_ok A D tc tF tL tM) E.1 E.2 owR_ok (by decide +kernel) rfl (Nat.le_of_ble_eq_true rfl) rfl ?_
  intro pP eE sS mM aS bL mT cO X
  refine zr_aloadn X 0 dX6_noTransfer_0 rfl ?_
  refine zr_iloadn X 1 dX6_noTransfer_1 rfl ?_
  refine zr_dVi (C := RX6) (ci := 6) [.int (x)] [] X (zK_ok A D tc tF tL tM) (c_isFirm_f E μ (hc) h8 hx) k_611 k_613 kp_2 k_7 k_614 hdX6_isFirm ⟨rfl, rfl⟩ ⟨Nat.le_of_ble_eq_true rfl, Nat.le_of_ble_eq_true rfl⟩ (by omega) rfl rfl rfl rfl (Nat.le_of_ble_eq_true rfl) dX6_noTransfer_2 ?_
  refine zr_if_eq X 20 dX6_noTransfer_5 (by decide) (fun _ => ?_) (fun q => absurd (zq_eq0 (by omega)) q)
  refine zr_iconst X (-1) dX6_noTransfer_20 (by decide +kernel) ?_
  exact zr_iret X dX6_noTransfer_21 ⟨rfl, rfl⟩

set_option maxHeartbeats 4000000 in
set_option maxRecDepth 100000 in
theorem c_noTransfer_u2 {l : Launch} {D : va_G} {tc : Nat → ClassId} {ad : Nat → Nat} {A : Nat → Prop} {tF tL tM : Nat} (E : zN 6 A ad) (μ : Nat → Int32) {c : Nat} (hc : μ 1 = nI c) (h8 : c ≤ 8) {f : Nat} (hf : f < c) {x : Int32} (hx : ¬ zfm x c) (b : Int32) (w : Int32) (t : Int32)  : zMi l yX6_noTransfer cX6_noTransfer 6 (some .int) (zrm 3) (zK A D tc tF tL tM) A D vwCl tc ad 6 shR [.ref (ad (0)), .int (nI (f)), .int (x), .int (b), .int (w), .int (t)] μ (fun r u => r = -1 ∧ u = μ) := by
  refine zM_of RX6 [(0, .ref (ad (0))), (1, .int (nI (f))), (2, .int (x)), (3, .int (b)), (4, .int (w)), (5, .int (t))] (zK_ok A D tc tF tL tM) E.1 E.2 owR_ok (by decide +kernel) rfl (Nat.le_of_ble_eq_true rfl) rfl ?_
  intro pP eE sS mM aS bL mT cO X
  refine zr_aloadn X 0 dX6_noTransfer_0 rfl ?_
  refine zr_iloadn X 1 dX6_noTransfer_1 rfl ?_
  refine zr_dVi (C := RX6) (ci := 6) [.int (nI (f))] [] X (zK_ok A D tc tF tL tM) (c_isFirm_t E μ (hc) h8 (by omega)) k_611 k_613 kp_2 k_7 k_614 hdX6_isFirm ⟨rfl, rfl⟩ ⟨Nat.le_of_ble_eq_true rfl, Nat.le_of_ble_eq_true rfl⟩ (by omega) rfl rfl rfl rfl (Nat.le_of_ble_eq_true rfl) dX6_noTransfer_2 ?_
  refine zr_if_eq X 20 dX6_noTransfer_5 (by decide) (fun q => absurd q (nI_ne0 (by omega) (by omega))) (fun _ => ?_)
  refine zr_aloadn X 0 dX6_noTransfer_8 rfl ?_
  refine zr_iloadn X 2 dX6_noTransfer_9 rfl ?_
  refine zr_dVi (C := RX6) (ci := 6) [.int (x)] [] X (zK_ok A D tc tF tL tM) (c_isFirm_f E μ (hc) h8 hx) k_611 k_613 kp_2 k_7 k_614 hdX6_isFirm ⟨rfl, rfl⟩ ⟨Nat.le_of_ble_eq_true rfl, Nat.le_of_ble_eq_true rfl⟩ (by omega) rfl rfl rfl rfl (Nat.le_of_ble_eq_true rfl) dX6_noTransfer_10 ?_
  refine zr_if_eq X 20 dX6_noTransfer_13 (by decide) (fun _ => ?_) (fun q => absurd (zq_eq0 (by omega)) q)
  refine zr_iconst X (-1) dX6_noTransfer_20 (by decide +kernel) ?_
  exact zr_iret X dX6_noTransfer_21 ⟨rfl, rfl⟩

set_option maxHeartbeats 4000000 in
set_option maxRecDepth 100000 in
theorem c_noTransfer_u3 {l : Launch} {D : va_G} {tc : Nat → ClassId} {ad : Nat → Nat} {A : Nat → Prop} {tF tL tM : Nat} (E : zN 6 A ad) (μ : Nat → Int32) {c : Nat} (hc : μ 1 = nI c) (h8 : c ≤ 8) {f f2 : Nat} (hf : f < c) (hf2 : f2 < c) (w : Int32) (t : Int32)  : zMi l yX6_noTransfer cX6_noTransfer 6 (some .int) (zrm 3) (zK A D tc tF tL tM) A D vwCl tc ad 6 shR [.ref (ad (0)), .int (nI (f)), .int (nI (f2)), .int (nI (0)), .int (w), .int (t)] μ (fun r u => r = -1 ∧ u = μ) := by
  refine zM_of RX6 [(0, .ref (ad (0))), (1, .int (nI (f))), (2, .int (nI (f2))), (3, .int (nI (0))), (4, .int (w)), (5, .int (t))] (zK_ok A D tc tF tL tM) E.1 E.2 owR_ok (by decide +kernel) rfl (Nat.le_of_ble_eq_true rfl) rfl ?_
  intro pP eE sS mM aS bL mT cO X
  refine zr_aloadn X 0 dX6_noTransfer_0 rfl ?_
  refine zr_iloadn X 1 dX6_noTransfer_1 rfl ?_
  refine zr_dVi (C := RX6) (ci := 6) [.int (nI (f))] [] X (zK_ok A D tc tF tL tM) (c_isFirm_t E μ (hc) h8 (by omega)) k_611 k_613 kp_2 k_7 k_614 hdX6_isFirm ⟨rfl, rfl⟩ ⟨Nat.le_of_ble_eq_true rfl, Nat.le_of_ble_eq_true rfl⟩ (by omega) rfl rfl rfl rfl (Nat.le_of_ble_eq_true rfl) dX6_noTransfer_2 ?_
  refine zr_if_eq X 20 dX6_noTransfer_5 (by decide) (fun q => absurd q (nI_ne0 (by omega) (by omega))) (fun _ => ?_)
  refine zr_aloadn X 0 dX6_noTransfer_8 rfl ?_
  refine zr_iloadn X 2 dX6_noTransfer_9 rfl ?_
  refine zr_dVi (C := RX6) (ci := 6) [.int (nI (f2))] [] X (zK_ok A D tc tF tL tM) (c_isFirm_t E μ (hc) h8 (by omega)) k_611 k_613 kp_2 k_7 k_614 hdX6_isFirm ⟨rfl, rfl⟩ ⟨Nat.le_of_ble_eq_true rfl, Nat.le_of_ble_eq_true rfl⟩ (by omega) rfl rfl rfl rfl (Nat.le_of_ble_eq_true rfl) dX6_noTransfer_10 ?_
  refine zr_if_eq X 20 dX6_noTransfer_13 (by decide) (fun q => absurd q (nI_ne0 (by omega) (by omega))) (fun _ => ?_)
  refine zr_iloadn X 3 dX6_noTransfer_16 rfl ?_
  refine zr_if_ne X 22 dX6_noTransfer_17 (by decide) (fun q => absurd (zq_eq0 (by omega)) q) (fun _ => ?_)
  refine zr_iconst X (-1) dX6_noTransfer_20 (by decide +kernel) ?_
  exact zr_iret X dX6_noTransfer_21 ⟨rfl, rfl⟩

set_option maxHeartbeats 4000000 in
set_option maxRecDepth 100000 in
theorem c_noTransfer_b1 {l : Launch} {D : va_G} {tc : Nat → ClassId} {ad : Nat → Nat} {A : Nat → Prop} {tF tL tM : Nat} (E : zN 6 A ad) (μ : Nat → Int32) {c : Nat} (hc : μ 1 = nI c) (h8 : c ≤ 8) {f f2 : Nat} (hf : f < c) (hf2 : f2 < c) (w : Int32) {t : Int32} (hx : ¬ zin t 1 9999)  : zMi l yX6_noTransfer cX6_noTransfer 6 (some .int) (zrm 3) (zK A D tc tF tL tM) A D vwCl tc ad 6 shR [.ref (ad (0)), .int (nI (f)), .int (nI (f2)), .int (nI (1)), .int (w), .int (t)] μ (fun r u => r = -2 ∧ u = μ) := by
  refine zM_of RX6 [(0, .ref (ad (0))), (1, .int (nI (f))), (2, .int (nI (f2))), (3, .int (nI (1))), (4, .int (w)), (5, .int (t))] (zK_ok A D tc tF tL tM) E.1 E.2 owR_ok (by decide +kernel) rfl (Nat.le_of_ble_eq_true rfl) rfl ?_
  intro pP eE sS mM aS bL mT cO X
  refine zr_aloadn X 0 dX6_noTransfer_0 rfl ?_
  refine zr_iloadn X 1 dX6_noTransfer_1 rfl ?_
  refine zr_dVi (C := RX6) (ci := 6) [.int (nI (f))] [] X (zK_ok A D tc tF tL tM) (c_isFirm_t E μ (hc) h8 (by omega)) k_611 k_613 kp_2 k_7 k_614 hdX6_isFirm ⟨rfl, rfl⟩ ⟨Nat.le_of_ble_eq_true rfl, Nat.le_of_ble_eq_true rfl⟩ (by omega) rfl rfl rfl rfl (Nat.le_of_ble_eq_true rfl) dX6_noTransfer_2 ?_
  refine zr_if_eq X 20 dX6_noTransfer_5 (by decide) (fun q => absurd q (nI_ne0 (by omega) (by omega))) (fun _ => ?_)
  refine zr_aloadn X 0 dX6_noTransfer_8 rfl ?_
  refine zr_iloadn X 2 dX6_noTransfer_9 rfl ?_
  refine zr_dVi (C := RX6) (ci := 6) [.int (nI (f2))] [] X (zK_ok A D tc tF tL tM) (c_isFirm_t E μ (hc) h8 (by omega)) k_611 k_613 kp_2 k_7 k_614 hdX6_isFirm ⟨rfl, rfl⟩ ⟨Nat.le_of_ble_eq_true rfl, Nat.le_of_ble_eq_true rfl⟩ (by omega) rfl rfl rfl rfl (Nat.le_of_ble_eq_true rfl) dX6_noTransfer_10 ?_
  refine zr_if_eq X 20 dX6_noTransfer_13 (by decide) (fun q => absurd q (nI_ne0 (by omega) (by omega))) (fun _ => ?_)
  refine zr_iloadn X 3 dX6_noTransfer_16 rfl ?_
  refine zr_if_ne X 22 dX6_noTransfer_17 (by decide) (fun _ => ?_) (fun q => absurd q (nI_ne0 (by omega) (by omega)))
  refine zr_iload X 5 dX6_noTransfer_22 rfl ?_
  refine zr_dSi [.int (t)] [] X (zK_ok A D tc tF tL tM) (c_isTonnes_f E μ hx) k_615 k_616 k_7 k_617 hdX6_isTonnes ⟨rfl, rfl⟩ ⟨Nat.le_of_ble_eq_true rfl, Nat.le_of_ble_eq_true rfl⟩ rfl rfl (Nat.le_of_ble_eq_true rfl) dX6_noTransfer_24 ?_
  refine zr_if_eq X 35 dX6_noTransfer_27 (by decide) (fun _ => ?_) (fun q => absurd (zq_eq0 (by omega)) q)
  refine zr_bipush X (-2) dX6_noTransfer_35 (by decide +kernel) ?_
  exact zr_iret X dX6_noTransfer_37 ⟨rfl, rfl⟩

set_option maxHeartbeats 4000000 in
set_option maxRecDepth 100000 in
theorem c_noTransfer_b2 {l : Launch} {D : va_G} {tc : Nat → ClassId} {ad : Nat → Nat} {A : Nat → Prop} {tF tL tM : Nat} (E : zN 6 A ad) (μ : Nat → Int32) {c : Nat} (hc : μ 1 = nI c) (h8 : c ≤ 8) {f : Nat} (hf : f < c) {t : Nat} (ht1 : 1 ≤ t) (ht9 : t ≤ 9999) (w : Int32)  : zMi l yX6_noTransfer cX6_noTransfer 6 (some .int) (zrm 3) (zK A D tc tF tL tM) A D vwCl tc ad 6 shR [.ref (ad (0)), .int (nI (f)), .int (nI (f)), .int (nI (1)), .int (w), .int (nI (t))] μ (fun r u => r = -2 ∧ u = μ) := by
  refine zM_of RX6 [(0, .ref (ad (0))), (1, .int (nI (f))), (2, .int (nI (f))), (3, .int (nI (1))), (4, .int (w)), (5, .int (nI (t)))] (zK_ok A D tc tF tL tM) E.1 E.2 owR_ok (by decide +kernel) rfl (Nat.le_of_ble_eq_true rfl) rfl ?_
  intro pP eE sS mM aS bL mT cO X
  refine zr_aloadn X 0 dX6_noTransfer_0 rfl ?_
  refine zr_iloadn X 1 dX6_noTransfer_1 rfl ?_
  refine zr_dVi (C := RX6) (ci := 6) [.int (nI (f))] [] X (zK_ok A D tc tF tL tM) (c_isFirm_t E μ (hc) h8 (by omega)) k_611 k_613 kp_2 k_7 k_614 hdX6_isFirm ⟨rfl, rfl⟩ ⟨Nat.le_of_ble_eq_true rfl, Nat.le_of_ble_eq_true rfl⟩ (by omega) rfl rfl rfl rfl (Nat.le_of_ble_eq_true rfl) dX6_noTransfer_2 ?_
  refine zr_if_eq X 20 dX6_noTransfer_5 (by decide) (fun q => absurd q (nI_ne0 (by omega) (by omega))) (fun _ => ?_)
  refine zr_aloadn X 0 dX6_noTransfer_8 rfl ?_
  refine zr_iloadn X 2 dX6_noTransfer_9 rfl ?_
  refine zr_dVi (C := RX6) (ci := 6) [.int (nI (f))] [] X (zK_ok A D tc tF tL tM) (c_isFirm_t E μ (hc) h8 (by omega)) k_611 k_613 kp_2 k_7 k_614 hdX6_isFirm ⟨rfl, rfl⟩ ⟨Nat.le_of_ble_eq_true rfl, Nat.le_of_ble_eq_true rfl⟩ (by omega) rfl rfl rfl rfl (Nat.le_of_ble_eq_true rfl) dX6_noTransfer_10 ?_
  refine zr_if_eq X 20 dX6_noTransfer_13 (by decide) (fun q => absurd q (nI_ne0 (by omega) (by omega))) (fun _ => ?_)
  refine zr_iloadn X 3 dX6_noTransfer_16 rfl ?_
  refine zr_if_ne X 22 dX6_noTransfer_17 (by decide) (fun _ => ?_) (fun q => absurd q (nI_ne0 (by omega) (by omega)))
  refine zr_iload X 5 dX6_noTransfer_22 rfl ?_
  refine zr_dSi [.int (nI (t))] [] X (zK_ok A D tc tF tL tM) (c_isTonnes_t E μ (by omega) (by omega)) k_615 k_616 k_7 k_617 hdX6_isTonnes ⟨rfl, rfl⟩ ⟨Nat.le_of_ble_eq_true rfl, Nat.le_of_ble_eq_true rfl⟩ rfl rfl (Nat.le_of_ble_eq_true rfl) dX6_noTransfer_24 ?_
  refine zr_if_eq X 35 dX6_noTransfer_27 (by decide) (fun q => absurd q (nI_ne0 (by omega) (by omega))) (fun _ => ?_)
  refine zr_iloadn X 1 dX6_noTransfer_30 rfl ?_
  refine zr_iloadn X 2 dX6_noTransfer_31 rfl ?_
  refine zr_icmp_ne X 38 dX6_noTransfer_32 (by decide) (fun q => absurd (zq_eq (by omega)) q) (fun _ => ?_)
  refine zr_bipush X (-2) dX6_noTransfer_35 (by decide +kernel) ?_
  exact zr_iret X dX6_noTransfer_37 ⟨rfl, rfl⟩

set_option maxHeartbeats 4000000 in
set_option maxRecDepth 100000 in
theorem c_noTransfer_n {l : Launch} {D : va_G} {tc : Nat → ClassId} {ad : Nat → Nat} {A : Nat → Prop} {tF tL tM : Nat} (E : zN 6 A ad) (μ : Nat → Int32) {c : Nat} (hc : μ 1 = nI c) (h8 : c ≤ 8) {f f2 : Nat} (hf : f < c) (hf2 : f2 < c) {t : Nat} (ht1 : 1 ≤ t) (ht9 : t ≤ 9999) {w : Nat} (hw : w < 32) (hne : f ≠ f2) (h : ¬ nI t ≤ μ (32 * f + w + 7)) : zMi l yX6_noTransfer cX6_noTransfer 6 (some .int) (zrm 3) (zK A D tc tF tL tM) A D vwCl tc ad 6 shR [.ref (ad (0)), .int (nI (f)), .int (nI (f2)), .int (nI (1)), .int (nI (w)), .int (nI (t))] μ (fun r u => r = -4 ∧ u = μ) := by
  refine zM_of RX6 [(0, .ref (ad (0))), (1, .int (nI (f))), (2, .int (nI (f2))), (3, .int (nI (1))), (4, .int (nI (w))), (5, .int (nI (t)))] (zK_ok A D tc tF tL tM) E.1 E.2 owR_ok (by decide +kernel) rfl (Nat.le_of_ble_eq_true rfl) rfl ?_
  intro pP eE sS mM aS bL mT cO X
  refine zr_aloadn X 0 dX6_noTransfer_0 rfl ?_
  refine zr_iloadn X 1 dX6_noTransfer_1 rfl ?_
  refine zr_dVi (C := RX6) (ci := 6) [.int (nI (f))] [] X (zK_ok A D tc tF tL tM) (c_isFirm_t E μ (hc) h8 (by omega)) k_611 k_613 kp_2 k_7 k_614 hdX6_isFirm ⟨rfl, rfl⟩ ⟨Nat.le_of_ble_eq_true rfl, Nat.le_of_ble_eq_true rfl⟩ (by omega) rfl rfl rfl rfl (Nat.le_of_ble_eq_true rfl) dX6_noTransfer_2 ?_
  refine zr_if_eq X 20 dX6_noTransfer_5 (by decide) (fun q => absurd q (nI_ne0 (by omega) (by omega))) (fun _ => ?_)
  refine zr_aloadn X 0 dX6_noTransfer_8 rfl ?_
  refine zr_iloadn X 2 dX6_noTransfer_9 rfl ?_
  refine zr_dVi (C := RX6) (ci := 6) [.int (nI (f2))] [] X (zK_ok A D tc tF tL tM) (c_isFirm_t E μ (hc) h8 (by omega)) k_611 k_613 kp_2 k_7 k_614 hdX6_isFirm ⟨rfl, rfl⟩ ⟨Nat.le_of_ble_eq_true rfl, Nat.le_of_ble_eq_true rfl⟩ (by omega) rfl rfl rfl rfl (Nat.le_of_ble_eq_true rfl) dX6_noTransfer_10 ?_
  refine zr_if_eq X 20 dX6_noTransfer_13 (by decide) (fun q => absurd q (nI_ne0 (by omega) (by omega))) (fun _ => ?_)
  refine zr_iloadn X 3 dX6_noTransfer_16 rfl ?_
  refine zr_if_ne X 22 dX6_noTransfer_17 (by decide) (fun _ => ?_) (fun q => absurd q (nI_ne0 (by omega) (by omega)))
  refine zr_iload X 5 dX6_noTransfer_22 rfl ?_
  refine zr_dSi [.int (nI (t))] [] X (zK_ok A D tc tF tL tM) (c_isTonnes_t E μ (by omega) (by omega)) k_615 k_616 k_7 k_617 hdX6_isTonnes ⟨rfl, rfl⟩ ⟨Nat.le_of_ble_eq_true rfl, Nat.le_of_ble_eq_true rfl⟩ rfl rfl (Nat.le_of_ble_eq_true rfl) dX6_noTransfer_24 ?_
  refine zr_if_eq X 35 dX6_noTransfer_27 (by decide) (fun q => absurd q (nI_ne0 (by omega) (by omega))) (fun _ => ?_)
  refine zr_iloadn X 1 dX6_noTransfer_30 rfl ?_
  refine zr_iloadn X 2 dX6_noTransfer_31 rfl ?_
  refine zr_icmp_ne X 38 dX6_noTransfer_32 (by decide) (fun _ => ?_) (fun q => absurd q (zq_ne (by omega) (by omega) (by omega)))
  refine zr_aloadn X 0 dX6_noTransfer_38 rfl ?_
  refine zr_get X (ci := 6) (q := 0) (zR (1)) (.ref (ad (1))) dX6_noTransfer_39 (by omega) rfl rfl inX6 (by decide) rfl (rfl) rfl k_539 ?_
  refine zr_iloadn X 1 dX6_noTransfer_42 rfl ?_
  refine zr_iload X 4 dX6_noTransfer_43 rfl ?_
  refine zr_dSi [.int (nI (f)), .int (nI (w))] [.ref (ad (1))] X (zK_ok A D tc tF tL tM) (zM_i (z1 := nI (32 * f + w + 7)) (c_of E μ (f) (w)) (congrArg nI (by omega))) k_597 k_598 k_7 k_599 hdX6_of ⟨rfl, rfl⟩ ⟨Nat.le_of_ble_eq_true rfl, Nat.le_of_ble_eq_true rfl⟩ rfl rfl (Nat.le_of_ble_eq_true rfl) dX6_noTransfer_45 ?_
  refine zr_iald X (j := 32 * f + w + 7) 0 (μ (32 * f + w + 7)) dX6_noTransfer_48 (by omega) rfl rfl rfl (by omega) (by omega) (zcg (b := 32 * f + w + 7) (by omega) (rfl)) ?_
  refine zr_iload X 5 dX6_noTransfer_49 rfl ?_
  refine zr_icmp_ge X 59 dX6_noTransfer_51 (by decide) (fun q => absurd q (h)) (fun _ => ?_)
  refine zr_bipush X (-4) dX6_noTransfer_54 (by decide +kernel) ?_
  refine zr_goto X 60 dX6_noTransfer_56 (by decide) ?_
  exact zr_iret X dX6_noTransfer_60 ⟨rfl, rfl⟩

set_option maxHeartbeats 4000000 in
set_option maxRecDepth 100000 in
theorem c_noTransfer_0 {l : Launch} {D : va_G} {tc : Nat → ClassId} {ad : Nat → Nat} {A : Nat → Prop} {tF tL tM : Nat} (E : zN 6 A ad) (μ : Nat → Int32) {c : Nat} (hc : μ 1 = nI c) (h8 : c ≤ 8) {f f2 : Nat} (hf : f < c) (hf2 : f2 < c) {t : Nat} (ht1 : 1 ≤ t) (ht9 : t ≤ 9999) {w : Nat} (hw : w < 32) (hne : f ≠ f2) (h : nI t ≤ μ (32 * f + w + 7)) : zMi l yX6_noTransfer cX6_noTransfer 6 (some .int) (zrm 3) (zK A D tc tF tL tM) A D vwCl tc ad 6 shR [.ref (ad (0)), .int (nI (f)), .int (nI (f2)), .int (nI (1)), .int (nI (w)), .int (nI (t))] μ (fun r u => r = nI 0 ∧ u = μ) := by
  refine zM_of RX6 [(0, .ref (ad (0))), (1, .int (nI (f))), (2, .int (nI (f2))), (3, .int (nI (1))), (4, .int (nI (w))), (5, .int (nI (t)))] (zK_ok A D tc tF tL tM) E.1 E.2 owR_ok (by decide +kernel) rfl (Nat.le_of_ble_eq_true rfl) rfl ?_
  intro pP eE sS mM aS bL mT cO X
  refine zr_aloadn X 0 dX6_noTransfer_0 rfl ?_
  refine zr_iloadn X 1 dX6_noTransfer_1 rfl ?_
  refine zr_dVi (C := RX6) (ci := 6) [.int (nI (f))] [] X (zK_ok A D tc tF tL tM) (c_isFirm_t E μ (hc) h8 (by omega)) k_611 k_613 kp_2 k_7 k_614 hdX6_isFirm ⟨rfl, rfl⟩ ⟨Nat.le_of_ble_eq_true rfl, Nat.le_of_ble_eq_true rfl⟩ (by omega) rfl rfl rfl rfl (Nat.le_of_ble_eq_true rfl) dX6_noTransfer_2 ?_
  refine zr_if_eq X 20 dX6_noTransfer_5 (by decide) (fun q => absurd q (nI_ne0 (by omega) (by omega))) (fun _ => ?_)
  refine zr_aloadn X 0 dX6_noTransfer_8 rfl ?_
  refine zr_iloadn X 2 dX6_noTransfer_9 rfl ?_
  refine zr_dVi (C := RX6) (ci := 6) [.int (nI (f2))] [] X (zK_ok A D tc tF tL tM) (c_isFirm_t E μ (hc) h8 (by omega)) k_611 k_613 kp_2 k_7 k_614 hdX6_isFirm ⟨rfl, rfl⟩ ⟨Nat.le_of_ble_eq_true rfl, Nat.le_of_ble_eq_true rfl⟩ (by omega) rfl rfl rfl rfl (Nat.le_of_ble_eq_true rfl) dX6_noTransfer_10 ?_
  refine zr_if_eq X 20 dX6_noTransfer_13 (by decide) (fun q => absurd q (nI_ne0 (by omega) (by omega))) (fun _ => ?_)
  refine zr_iloadn X 3 dX6_noTransfer_16 rfl ?_
  refine zr_if_ne X 22 dX6_noTransfer_17 (by decide) (fun _ => ?_) (fun q => absurd q (nI_ne0 (by omega) (by omega)))
  refine zr_iload X 5 dX6_noTransfer_22 rfl ?_
  refine zr_dSi [.int (nI (t))] [] X (zK_ok A D tc tF tL tM) (c_isTonnes_t E μ (by omega) (by omega)) k_615 k_616 k_7 k_617 hdX6_isTonnes ⟨rfl, rfl⟩ ⟨Nat.le_of_ble_eq_true rfl, Nat.le_of_ble_eq_true rfl⟩ rfl rfl (Nat.le_of_ble_eq_true rfl) dX6_noTransfer_24 ?_
  refine zr_if_eq X 35 dX6_noTransfer_27 (by decide) (fun q => absurd q (nI_ne0 (by omega) (by omega))) (fun _ => ?_)
  refine zr_iloadn X 1 dX6_noTransfer_30 rfl ?_
  refine zr_iloadn X 2 dX6_noTransfer_31 rfl ?_
  refine zr_icmp_ne X 38 dX6_noTransfer_32 (by decide) (fun _ => ?_) (fun q => absurd q (zq_ne (by omega) (by omega) (by omega)))
  refine zr_aloadn X 0 dX6_noTransfer_38 rfl ?_
  refine zr_get X (ci := 6) (q := 0) (zR (1)) (.ref (ad (1))) dX6_noTransfer_39 (by omega) rfl rfl inX6 (by decide) rfl (rfl) rfl k_539 ?_
  refine zr_iloadn X 1 dX6_noTransfer_42 rfl ?_
  refine zr_iload X 4 dX6_noTransfer_43 rfl ?_
  refine zr_dSi [.int (nI (f)), .int (nI (w))] [.ref (ad (1))] X (zK_ok A D tc tF tL tM) (zM_i (z1 := nI (32 * f + w + 7)) (c_of E μ (f) (w)) (congrArg nI (by omega))) k_597 k_598 k_7 k_599 hdX6_of ⟨rfl, rfl⟩ ⟨Nat.le_of_ble_eq_true rfl, Nat.le_of_ble_eq_true rfl⟩ rfl rfl (Nat.le_of_ble_eq_true rfl) dX6_noTransfer_45 ?_
  refine zr_iald X (j := 32 * f + w + 7) 0 (μ (32 * f + w + 7)) dX6_noTransfer_48 (by omega) rfl rfl rfl (by omega) (by omega) (zcg (b := 32 * f + w + 7) (by omega) (rfl)) ?_
  refine zr_iload X 5 dX6_noTransfer_49 rfl ?_
  refine zr_icmp_ge X 59 dX6_noTransfer_51 (by decide) (fun _ => ?_) (fun q => absurd (h) q)
  refine zr_iconst X (nI (0)) dX6_noTransfer_59 (by decide +kernel) ?_
  exact zr_iret X dX6_noTransfer_60 ⟨rfl, rfl⟩

set_option maxHeartbeats 4000000 in
set_option maxRecDepth 100000 in
theorem c_doTransfer {l : Launch} {D : va_G} {tc : Nat → ClassId} {ad : Nat → Nat} {A : Nat → Prop} {tF tL tM : Nat} (E : zN 6 A ad) (μ : Nat → Int32) {c : Nat} (hc : μ 1 = nI c) (h8 : c ≤ 8) {f f2 : Nat} (hf : f < c) (hf2 : f2 < c) {w : Nat} (hw : w < 32) {t : Int32} (hne : f ≠ f2) : zMi l yX6_doTransfer cX6_doTransfer 5 (some .int) (zrm 2) (zK A D tc tF tL tM) A D vwCl tc ad 6 shR [.ref (ad (0)), .int (nI (f)), .int (nI (f2)), .int (nI (w)), .int (t)] μ (fun r u => r = μ (32 * f + w + 7) - t ∧ u = (upd (upd μ (32 * f + w + 7) (μ (32 * f + w + 7) - t)) (32 * f2 + w + 7) (μ (32 * f2 + w + 7) + t))) := by
  refine zM_of RX6 [(0, .ref (ad (0))), (1, .int (nI (f))), (2, .int (nI (f2))), (3, .int (nI (w))), (4, .int (t))] (zK_ok A D tc tF tL tM) E.1 E.2 owR_ok (by decide +kernel) rfl (Nat.le_of_ble_eq_true rfl) rfl ?_
  intro pP eE sS mM aS bL mT cO X
  refine zr_aloadn X 0 dX6_doTransfer_0 rfl ?_
  refine zr_get X (ci := 6) (q := 0) (zR (1)) (.ref (ad (1))) dX6_doTransfer_1 (by omega) rfl rfl inX6 (by decide) rfl (rfl) rfl k_539 ?_
  refine zr_iloadn X 1 dX6_doTransfer_4 rfl ?_
  refine zr_iloadn X 3 dX6_doTransfer_5 rfl ?_
  refine zr_dSi [.int (nI (f)), .int (nI (w))] [.ref (ad (1))] X (zK_ok A D tc tF tL tM) (zM_i (z1 := nI (32 * f + w + 7)) (c_of E μ (f) (w)) (congrArg nI (by omega))) k_597 k_598 k_7 k_599 hdX6_of ⟨rfl, rfl⟩ ⟨Nat.le_of_ble_eq_true rfl, Nat.le_of_ble_eq_true rfl⟩ rfl rfl (Nat.le_of_ble_eq_true rfl) dX6_doTransfer_6 ?_
  refine zr_dup2 X dX6_doTransfer_9 rfl rfl ?_
  refine zr_iald X (j := 32 * f + w + 7) 0 (μ (32 * f + w + 7)) dX6_doTransfer_10 (by omega) rfl rfl rfl (by omega) (by omega) (zcg (b := 32 * f + w + 7) (by omega) (rfl)) ?_
  refine zr_iload X 4 dX6_doTransfer_11 rfl ?_
  refine zr_isub X ((μ (32 * f + w + 7)) - t) dX6_doTransfer_13 rfl ?_
  refine zr_iast X (j := 32 * f + w + 7) 0 (32 * f + w + 7) dX6_doTransfer_14 (by omega) rfl rfl rfl (by omega) (by omega) (by omega) ?_
  refine zr_aloadn X 0 dX6_doTransfer_15 rfl ?_
  refine zr_get X (ci := 6) (q := 0) (zR (1)) (.ref (ad (1))) dX6_doTransfer_16 (by omega) rfl rfl inX6 (by decide) rfl (rfl) rfl k_539 ?_
  refine zr_iloadn X 2 dX6_doTransfer_19 rfl ?_
  refine zr_iloadn X 3 dX6_doTransfer_20 rfl ?_
  refine zr_dSi [.int (nI (f2)), .int (nI (w))] [.ref (ad (1))] X (zK_ok A D tc tF tL tM) (zM_i (z1 := nI (32 * f2 + w + 7)) (c_of E (upd μ (32 * f + w + 7) ((μ (32 * f + w + 7)) - t)) (f2) (w)) (congrArg nI (by omega))) k_597 k_598 k_7 k_599 hdX6_of ⟨rfl, rfl⟩ ⟨Nat.le_of_ble_eq_true rfl, Nat.le_of_ble_eq_true rfl⟩ rfl rfl (Nat.le_of_ble_eq_true rfl) dX6_doTransfer_21 ?_
  refine zr_dup2 X dX6_doTransfer_24 rfl rfl ?_
  refine zr_iald X (j := 32 * f2 + w + 7) 0 (μ (32 * f2 + w + 7)) dX6_doTransfer_25 (by omega) rfl rfl rfl (by omega) (by omega) (zcg (b := 32 * f2 + w + 7) (by omega) ((pk_un (by omega)).trans (rfl))) ?_
  refine zr_iload X 4 dX6_doTransfer_26 rfl ?_
  refine zr_iadd X ((μ (32 * f2 + w + 7)) + t) dX6_doTransfer_28 rfl ?_
  refine zr_iast X (j := 32 * f2 + w + 7) 0 (32 * f2 + w + 7) dX6_doTransfer_29 (by omega) rfl rfl rfl (by omega) (by omega) (by omega) ?_
  refine zr_aloadn X 0 dX6_doTransfer_30 rfl ?_
  refine zr_get X (ci := 6) (q := 0) (zR (1)) (.ref (ad (1))) dX6_doTransfer_31 (by omega) rfl rfl inX6 (by decide) rfl (rfl) rfl k_539 ?_
  refine zr_iloadn X 1 dX6_doTransfer_34 rfl ?_
  refine zr_iloadn X 3 dX6_doTransfer_35 rfl ?_
  refine zr_dSi [.int (nI (f)), .int (nI (w))] [.ref (ad (1))] X (zK_ok A D tc tF tL tM) (zM_i (z1 := nI (32 * f + w + 7)) (c_of E (upd (upd μ (32 * f + w + 7) ((μ (32 * f + w + 7)) - t)) (32 * f2 + w + 7) ((μ (32 * f2 + w + 7)) + t)) (f) (w)) (congrArg nI (by omega))) k_597 k_598 k_7 k_599 hdX6_of ⟨rfl, rfl⟩ ⟨Nat.le_of_ble_eq_true rfl, Nat.le_of_ble_eq_true rfl⟩ rfl rfl (Nat.le_of_ble_eq_true rfl) dX6_doTransfer_36 ?_
  refine zr_iald X (j := 32 * f + w + 7) 0 ((μ (32 * f + w + 7)) - t) dX6_doTransfer_39 (by omega) rfl rfl rfl (by omega) (by omega) (zcg (b := 32 * f + w + 7) (by omega) ((pk_un (by omega)).trans (pk_us))) ?_
  exact zr_iret X dX6_doTransfer_40 ⟨rfl, rfl⟩

theorem c_doT {l : Launch} {D : va_G} {tc : Nat → ClassId} {ad : Nat → Nat} {A : Nat → Prop} {tF tL tM : Nat} (E : zN 6 A ad) (μ : Nat → Int32) {c : Nat} (hc : μ 1 = nI c) (h8 : c ≤ 8) {f f2 : Nat} (hf : f < c) (hf2 : f2 < c) {w : Nat} (hw : w < 32) {t : Int32} (hne : f ≠ f2) {pa pb : Nat} (ea : 32 * f + w + 7 = pa) (eb : 32 * f2 + w + 7 = pb) {xa xb : Int32} (ha : μ pa = xa) (hb : μ pb = xb) : zMi l yX6_doTransfer cX6_doTransfer 5 (some .int) (zrm 2) (zK A D tc tF tL tM) A D vwCl tc ad 6 shR [.ref (ad (0)), .int (nI (f)), .int (nI (f2)), .int (nI (w)), .int t] μ (fun r u => r = xa - t ∧ u = upd (upd μ pa (xa - t)) pb (xb + t)) := by
  subst ea; subst eb; subst ha; subst hb
  exact c_doTransfer E μ hc h8 hf hf2 hw hne
set_option maxHeartbeats 4000000 in
set_option maxRecDepth 100000 in
theorem c_transfer_u1 {l : Launch} {D : va_G} {tc : Nat → ClassId} {ad : Nat → Nat} {A : Nat → Prop} {tF tL tM : Nat} (E : zN 6 A ad) (μ : Nat → Int32) {m c k : Nat} (S : refS μ m c k) {x : Int32} (hx : ¬ zfm x c) (to : Int32) (t : Int32) {v : Nat} (hv : v ≤ 19)  : zMi l yX6_transfer cX6_transfer 7 (some .int) (zrm 5) (zK A D tc tF tL tM) A D vwCl tc ad 6 shR [.ref (ad (0)), .int (x), .int (to), .int (nI (v)), .int (t)] μ (fun r u => r = -1 ∧ u = μ) := by
  refine zM_of RX6 [(0, .ref (ad (0))), (1, .int (x)), (2, .int (to)), (3, .int (nI (v))), (4, .int (t))] (zK_ok A D tc tF tL tM) E.1 E.2 owR_ok (by decide +kernel) rfl (Nat.le_of_ble_eq_true rfl) rfl ?_
  intro pP eE sS mM aS bL mT cO X
  obtain ⟨hm, hm2, hc, h8, hk, hk4⟩ := S
  refine zr_iloadn X 3 dX6_transfer_0 rfl ?_
  refine zr_dSi [.int (nI (v))] [] X (zK_ok A D tc tF tL tM) (c_isVintage_t E μ (by omega) (by omega)) k_633 k_634 k_7 k_635 hdX6_isVintage ⟨rfl, rfl⟩ ⟨Nat.le_of_ble_eq_true rfl, Nat.le_of_ble_eq_true rfl⟩ rfl rfl (Nat.le_of_ble_eq_true rfl) dX6_transfer_1 ?_
  refine zr_if_eq X 13 dX6_transfer_4 (by decide) (fun q => absurd q (nI_ne0 (by omega) (by omega))) (fun _ => ?_)
  refine zr_iconst X (nI (0)) dX6_transfer_7 (by decide +kernel) ?_
  refine zr_iloadn X 3 dX6_transfer_8 rfl ?_
  refine zr_iadd X (nI (v)) dX6_transfer_9 ((nI_add _ _).trans (congrArg nI (by omega))) ?_
  refine zr_goto X 14 dX6_transfer_10 (by decide) ?_
  refine zr_istore X [1, 2, 3, 4, 5, 0] [(0, .ref (ad (0))), (1, .int (x)), (2, .int (to)), (3, .int (nI (v))), (4, .int (t)), (5, .int (nI (v)))] dX6_transfer_14 (by decide) rfl ?_
  refine zr_aloadn X 0 dX6_transfer_16 rfl ?_
  refine zr_iloadn X 1 dX6_transfer_17 rfl ?_
  refine zr_iloadn X 2 dX6_transfer_18 rfl ?_
  refine zr_iloadn X 3 dX6_transfer_19 rfl ?_
  refine zr_dSi [.int (nI (v))] [.int (to), .int (x), .ref (ad (0))] X (zK_ok A D tc tF tL tM) (c_isVintage_t E μ (by omega) (by omega)) k_633 k_634 k_7 k_635 hdX6_isVintage ⟨rfl, rfl⟩ ⟨Nat.le_of_ble_eq_true rfl, Nat.le_of_ble_eq_true rfl⟩ rfl rfl (Nat.le_of_ble_eq_true rfl) dX6_transfer_20 ?_
  refine zr_iload X 5 dX6_transfer_23 rfl ?_
  refine zr_iload X 4 dX6_transfer_25 rfl ?_
  refine zr_dVi (C := RX6) (ci := 6) [.int (x), .int (to), .int (nI (1)), .int (nI (v)), .int (t)] [] X (zK_ok A D tc tF tL tM) (c_noTransfer_u1 E μ (hc) h8 hx _ _ _ _) k_636 k_638 kp_4 k_7 k_639 hdX6_noTransfer ⟨rfl, rfl⟩ ⟨Nat.le_of_ble_eq_true rfl, Nat.le_of_ble_eq_true rfl⟩ (by omega) rfl rfl rfl rfl (Nat.le_of_ble_eq_true rfl) dX6_transfer_27 ?_
  refine zr_istore X [1, 2, 3, 4, 5, 6, 0] [(0, .ref (ad (0))), (1, .int (x)), (2, .int (to)), (3, .int (nI (v))), (4, .int (t)), (5, .int (nI (v))), (6, .int (-1))] dX6_transfer_30 (by decide) rfl ?_
  refine zr_iload X 6 dX6_transfer_32 rfl ?_
  refine zr_if_eq X 40 dX6_transfer_34 (by decide) (fun q => absurd q (by decide)) (fun _ => ?_)
  refine zr_iload X 6 dX6_transfer_37 rfl ?_
  exact zr_iret X dX6_transfer_39 ⟨rfl, rfl⟩

set_option maxHeartbeats 4000000 in
set_option maxRecDepth 100000 in
theorem c_transfer_u2 {l : Launch} {D : va_G} {tc : Nat → ClassId} {ad : Nat → Nat} {A : Nat → Prop} {tF tL tM : Nat} (E : zN 6 A ad) (μ : Nat → Int32) {m c k : Nat} (S : refS μ m c k) {f : Nat} (hf : f < c) {x : Int32} (hx : ¬ zfm x c) (t : Int32) {v : Nat} (hv : v ≤ 19)  : zMi l yX6_transfer cX6_transfer 7 (some .int) (zrm 5) (zK A D tc tF tL tM) A D vwCl tc ad 6 shR [.ref (ad (0)), .int (nI (f)), .int (x), .int (nI (v)), .int (t)] μ (fun r u => r = -1 ∧ u = μ) := by
  refine zM_of RX6 [(0, .ref (ad (0))), (1, .int (nI (f))), (2, .int (x)), (3, .int (nI (v))), (4, .int (t))] (zK_ok A D tc tF tL tM) E.1 E.2 owR_ok (by decide +kernel) rfl (Nat.le_of_ble_eq_true rfl) rfl ?_
  intro pP eE sS mM aS bL mT cO X
  obtain ⟨hm, hm2, hc, h8, hk, hk4⟩ := S
  refine zr_iloadn X 3 dX6_transfer_0 rfl ?_
  refine zr_dSi [.int (nI (v))] [] X (zK_ok A D tc tF tL tM) (c_isVintage_t E μ (by omega) (by omega)) k_633 k_634 k_7 k_635 hdX6_isVintage ⟨rfl, rfl⟩ ⟨Nat.le_of_ble_eq_true rfl, Nat.le_of_ble_eq_true rfl⟩ rfl rfl (Nat.le_of_ble_eq_true rfl) dX6_transfer_1 ?_
  refine zr_if_eq X 13 dX6_transfer_4 (by decide) (fun q => absurd q (nI_ne0 (by omega) (by omega))) (fun _ => ?_)
  refine zr_iconst X (nI (0)) dX6_transfer_7 (by decide +kernel) ?_
  refine zr_iloadn X 3 dX6_transfer_8 rfl ?_
  refine zr_iadd X (nI (v)) dX6_transfer_9 ((nI_add _ _).trans (congrArg nI (by omega))) ?_
  refine zr_goto X 14 dX6_transfer_10 (by decide) ?_
  refine zr_istore X [1, 2, 3, 4, 5, 0] [(0, .ref (ad (0))), (1, .int (nI (f))), (2, .int (x)), (3, .int (nI (v))), (4, .int (t)), (5, .int (nI (v)))] dX6_transfer_14 (by decide) rfl ?_
  refine zr_aloadn X 0 dX6_transfer_16 rfl ?_
  refine zr_iloadn X 1 dX6_transfer_17 rfl ?_
  refine zr_iloadn X 2 dX6_transfer_18 rfl ?_
  refine zr_iloadn X 3 dX6_transfer_19 rfl ?_
  refine zr_dSi [.int (nI (v))] [.int (x), .int (nI (f)), .ref (ad (0))] X (zK_ok A D tc tF tL tM) (c_isVintage_t E μ (by omega) (by omega)) k_633 k_634 k_7 k_635 hdX6_isVintage ⟨rfl, rfl⟩ ⟨Nat.le_of_ble_eq_true rfl, Nat.le_of_ble_eq_true rfl⟩ rfl rfl (Nat.le_of_ble_eq_true rfl) dX6_transfer_20 ?_
  refine zr_iload X 5 dX6_transfer_23 rfl ?_
  refine zr_iload X 4 dX6_transfer_25 rfl ?_
  refine zr_dVi (C := RX6) (ci := 6) [.int (nI (f)), .int (x), .int (nI (1)), .int (nI (v)), .int (t)] [] X (zK_ok A D tc tF tL tM) (c_noTransfer_u2 E μ (hc) h8 hf hx _ _ _) k_636 k_638 kp_4 k_7 k_639 hdX6_noTransfer ⟨rfl, rfl⟩ ⟨Nat.le_of_ble_eq_true rfl, Nat.le_of_ble_eq_true rfl⟩ (by omega) rfl rfl rfl rfl (Nat.le_of_ble_eq_true rfl) dX6_transfer_27 ?_
  refine zr_istore X [1, 2, 3, 4, 5, 6, 0] [(0, .ref (ad (0))), (1, .int (nI (f))), (2, .int (x)), (3, .int (nI (v))), (4, .int (t)), (5, .int (nI (v))), (6, .int (-1))] dX6_transfer_30 (by decide) rfl ?_
  refine zr_iload X 6 dX6_transfer_32 rfl ?_
  refine zr_if_eq X 40 dX6_transfer_34 (by decide) (fun q => absurd q (by decide)) (fun _ => ?_)
  refine zr_iload X 6 dX6_transfer_37 rfl ?_
  exact zr_iret X dX6_transfer_39 ⟨rfl, rfl⟩

set_option maxHeartbeats 4000000 in
set_option maxRecDepth 100000 in
theorem c_transfer_u1z {l : Launch} {D : va_G} {tc : Nat → ClassId} {ad : Nat → Nat} {A : Nat → Prop} {tF tL tM : Nat} (E : zN 6 A ad) (μ : Nat → Int32) {m c k : Nat} (S : refS μ m c k) {x : Int32} (hx : ¬ zfm x c) (to : Int32) (t : Int32) {z : Int32} (hz : ¬ zin z 0 19)  : zMi l yX6_transfer cX6_transfer 7 (some .int) (zrm 5) (zK A D tc tF tL tM) A D vwCl tc ad 6 shR [.ref (ad (0)), .int (x), .int (to), .int (z), .int (t)] μ (fun r u => r = -1 ∧ u = μ) := by
  refine zM_of RX6 [(0, .ref (ad (0))), (1, .int (x)), (2, .int (to)), (3, .int (z)), (4, .int (t))] (zK_ok A D tc tF tL tM) E.1 E.2 owR_ok (by decide +kernel) rfl (Nat.le_of_ble_eq_true rfl) rfl ?_
  intro pP eE sS mM aS bL mT cO X
  obtain ⟨hm, hm2, hc, h8, hk, hk4⟩ := S
  refine zr_iloadn X 3 dX6_transfer_0 rfl ?_
  refine zr_dSi [.int (z)] [] X (zK_ok A D tc tF tL tM) (c_isVintage_f E μ hz) k_633 k_634 k_7 k_635 hdX6_isVintage ⟨rfl, rfl⟩ ⟨Nat.le_of_ble_eq_true rfl, Nat.le_of_ble_eq_true rfl⟩ rfl rfl (Nat.le_of_ble_eq_true rfl) dX6_transfer_1 ?_
  refine zr_if_eq X 13 dX6_transfer_4 (by decide) (fun _ => ?_) (fun q => absurd (zq_eq0 (by omega)) q)
  refine zr_iconst X (nI (0)) dX6_transfer_13 (by decide +kernel) ?_
  refine zr_istore X [1, 2, 3, 4, 5, 0] [(0, .ref (ad (0))), (1, .int (x)), (2, .int (to)), (3, .int (z)), (4, .int (t)), (5, .int (nI (0)))] dX6_transfer_14 (by decide) rfl ?_
  refine zr_aloadn X 0 dX6_transfer_16 rfl ?_
  refine zr_iloadn X 1 dX6_transfer_17 rfl ?_
  refine zr_iloadn X 2 dX6_transfer_18 rfl ?_
  refine zr_iloadn X 3 dX6_transfer_19 rfl ?_
  refine zr_dSi [.int (z)] [.int (to), .int (x), .ref (ad (0))] X (zK_ok A D tc tF tL tM) (c_isVintage_f E μ hz) k_633 k_634 k_7 k_635 hdX6_isVintage ⟨rfl, rfl⟩ ⟨Nat.le_of_ble_eq_true rfl, Nat.le_of_ble_eq_true rfl⟩ rfl rfl (Nat.le_of_ble_eq_true rfl) dX6_transfer_20 ?_
  refine zr_iload X 5 dX6_transfer_23 rfl ?_
  refine zr_iload X 4 dX6_transfer_25 rfl ?_
  refine zr_dVi (C := RX6) (ci := 6) [.int (x), .int (to), .int (nI (0)), .int (nI (0)), .int (t)] [] X (zK_ok A D tc tF tL tM) (c_noTransfer_u1 E μ (hc) h8 hx _ _ _ _) k_636 k_638 kp_4 k_7 k_639 hdX6_noTransfer ⟨rfl, rfl⟩ ⟨Nat.le_of_ble_eq_true rfl, Nat.le_of_ble_eq_true rfl⟩ (by omega) rfl rfl rfl rfl (Nat.le_of_ble_eq_true rfl) dX6_transfer_27 ?_
  refine zr_istore X [1, 2, 3, 4, 5, 6, 0] [(0, .ref (ad (0))), (1, .int (x)), (2, .int (to)), (3, .int (z)), (4, .int (t)), (5, .int (nI (0))), (6, .int (-1))] dX6_transfer_30 (by decide) rfl ?_
  refine zr_iload X 6 dX6_transfer_32 rfl ?_
  refine zr_if_eq X 40 dX6_transfer_34 (by decide) (fun q => absurd q (by decide)) (fun _ => ?_)
  refine zr_iload X 6 dX6_transfer_37 rfl ?_
  exact zr_iret X dX6_transfer_39 ⟨rfl, rfl⟩

set_option maxHeartbeats 4000000 in
set_option maxRecDepth 100000 in
theorem c_transfer_u2z {l : Launch} {D : va_G} {tc : Nat → ClassId} {ad : Nat → Nat} {A : Nat → Prop} {tF tL tM : Nat} (E : zN 6 A ad) (μ : Nat → Int32) {m c k : Nat} (S : refS μ m c k) {f : Nat} (hf : f < c) {x : Int32} (hx : ¬ zfm x c) (t : Int32) {z : Int32} (hz : ¬ zin z 0 19)  : zMi l yX6_transfer cX6_transfer 7 (some .int) (zrm 5) (zK A D tc tF tL tM) A D vwCl tc ad 6 shR [.ref (ad (0)), .int (nI (f)), .int (x), .int (z), .int (t)] μ (fun r u => r = -1 ∧ u = μ) := by
  refine zM_of RX6 [(0, .ref (ad (0))), (1, .int (nI (f))), (2, .int (x)), (3, .int (z)), (4, .int (t))] (zK_ok A D tc tF tL tM) E.1 E.2 owR_ok (by decide +kernel) rfl (Nat.le_of_ble_eq_true rfl) rfl ?_
  intro pP eE sS mM aS bL mT cO X
  obtain ⟨hm, hm2, hc, h8, hk, hk4⟩ := S
  refine zr_iloadn X 3 dX6_transfer_0 rfl ?_
  refine zr_dSi [.int (z)] [] X (zK_ok A D tc tF tL tM) (c_isVintage_f E μ hz) k_633 k_634 k_7 k_635 hdX6_isVintage ⟨rfl, rfl⟩ ⟨Nat.le_of_ble_eq_true rfl, Nat.le_of_ble_eq_true rfl⟩ rfl rfl (Nat.le_of_ble_eq_true rfl) dX6_transfer_1 ?_
  refine zr_if_eq X 13 dX6_transfer_4 (by decide) (fun _ => ?_) (fun q => absurd (zq_eq0 (by omega)) q)
  refine zr_iconst X (nI (0)) dX6_transfer_13 (by decide +kernel) ?_
  refine zr_istore X [1, 2, 3, 4, 5, 0] [(0, .ref (ad (0))), (1, .int (nI (f))), (2, .int (x)), (3, .int (z)), (4, .int (t)), (5, .int (nI (0)))] dX6_transfer_14 (by decide) rfl ?_
  refine zr_aloadn X 0 dX6_transfer_16 rfl ?_
  refine zr_iloadn X 1 dX6_transfer_17 rfl ?_
  refine zr_iloadn X 2 dX6_transfer_18 rfl ?_
  refine zr_iloadn X 3 dX6_transfer_19 rfl ?_
  refine zr_dSi [.int (z)] [.int (x), .int (nI (f)), .ref (ad (0))] X (zK_ok A D tc tF tL tM) (c_isVintage_f E μ hz) k_633 k_634 k_7 k_635 hdX6_isVintage ⟨rfl, rfl⟩ ⟨Nat.le_of_ble_eq_true rfl, Nat.le_of_ble_eq_true rfl⟩ rfl rfl (Nat.le_of_ble_eq_true rfl) dX6_transfer_20 ?_
  refine zr_iload X 5 dX6_transfer_23 rfl ?_
  refine zr_iload X 4 dX6_transfer_25 rfl ?_
  refine zr_dVi (C := RX6) (ci := 6) [.int (nI (f)), .int (x), .int (nI (0)), .int (nI (0)), .int (t)] [] X (zK_ok A D tc tF tL tM) (c_noTransfer_u2 E μ (hc) h8 hf hx _ _ _) k_636 k_638 kp_4 k_7 k_639 hdX6_noTransfer ⟨rfl, rfl⟩ ⟨Nat.le_of_ble_eq_true rfl, Nat.le_of_ble_eq_true rfl⟩ (by omega) rfl rfl rfl rfl (Nat.le_of_ble_eq_true rfl) dX6_transfer_27 ?_
  refine zr_istore X [1, 2, 3, 4, 5, 6, 0] [(0, .ref (ad (0))), (1, .int (nI (f))), (2, .int (x)), (3, .int (z)), (4, .int (t)), (5, .int (nI (0))), (6, .int (-1))] dX6_transfer_30 (by decide) rfl ?_
  refine zr_iload X 6 dX6_transfer_32 rfl ?_
  refine zr_if_eq X 40 dX6_transfer_34 (by decide) (fun q => absurd q (by decide)) (fun _ => ?_)
  refine zr_iload X 6 dX6_transfer_37 rfl ?_
  exact zr_iret X dX6_transfer_39 ⟨rfl, rfl⟩

set_option maxHeartbeats 4000000 in
set_option maxRecDepth 100000 in
theorem c_transfer_u3 {l : Launch} {D : va_G} {tc : Nat → ClassId} {ad : Nat → Nat} {A : Nat → Prop} {tF tL tM : Nat} (E : zN 6 A ad) (μ : Nat → Int32) {m c k : Nat} (S : refS μ m c k) {f f2 : Nat} (hf : f < c) (hf2 : f2 < c) (t : Int32) {z : Int32} (hz : ¬ zin z 0 19)  : zMi l yX6_transfer cX6_transfer 7 (some .int) (zrm 5) (zK A D tc tF tL tM) A D vwCl tc ad 6 shR [.ref (ad (0)), .int (nI (f)), .int (nI (f2)), .int (z), .int (t)] μ (fun r u => r = -1 ∧ u = μ) := by
  refine zM_of RX6 [(0, .ref (ad (0))), (1, .int (nI (f))), (2, .int (nI (f2))), (3, .int (z)), (4, .int (t))] (zK_ok A D tc tF tL tM) E.1 E.2 owR_ok (by decide +kernel) rfl (Nat.le_of_ble_eq_true rfl) rfl ?_
  intro pP eE sS mM aS bL mT cO X
  obtain ⟨hm, hm2, hc, h8, hk, hk4⟩ := S
  refine zr_iloadn X 3 dX6_transfer_0 rfl ?_
  refine zr_dSi [.int (z)] [] X (zK_ok A D tc tF tL tM) (c_isVintage_f E μ hz) k_633 k_634 k_7 k_635 hdX6_isVintage ⟨rfl, rfl⟩ ⟨Nat.le_of_ble_eq_true rfl, Nat.le_of_ble_eq_true rfl⟩ rfl rfl (Nat.le_of_ble_eq_true rfl) dX6_transfer_1 ?_
  refine zr_if_eq X 13 dX6_transfer_4 (by decide) (fun _ => ?_) (fun q => absurd (zq_eq0 (by omega)) q)
  refine zr_iconst X (nI (0)) dX6_transfer_13 (by decide +kernel) ?_
  refine zr_istore X [1, 2, 3, 4, 5, 0] [(0, .ref (ad (0))), (1, .int (nI (f))), (2, .int (nI (f2))), (3, .int (z)), (4, .int (t)), (5, .int (nI (0)))] dX6_transfer_14 (by decide) rfl ?_
  refine zr_aloadn X 0 dX6_transfer_16 rfl ?_
  refine zr_iloadn X 1 dX6_transfer_17 rfl ?_
  refine zr_iloadn X 2 dX6_transfer_18 rfl ?_
  refine zr_iloadn X 3 dX6_transfer_19 rfl ?_
  refine zr_dSi [.int (z)] [.int (nI (f2)), .int (nI (f)), .ref (ad (0))] X (zK_ok A D tc tF tL tM) (c_isVintage_f E μ hz) k_633 k_634 k_7 k_635 hdX6_isVintage ⟨rfl, rfl⟩ ⟨Nat.le_of_ble_eq_true rfl, Nat.le_of_ble_eq_true rfl⟩ rfl rfl (Nat.le_of_ble_eq_true rfl) dX6_transfer_20 ?_
  refine zr_iload X 5 dX6_transfer_23 rfl ?_
  refine zr_iload X 4 dX6_transfer_25 rfl ?_
  refine zr_dVi (C := RX6) (ci := 6) [.int (nI (f)), .int (nI (f2)), .int (nI (0)), .int (nI (0)), .int (t)] [] X (zK_ok A D tc tF tL tM) (c_noTransfer_u3 E μ (hc) h8 hf hf2 _ _) k_636 k_638 kp_4 k_7 k_639 hdX6_noTransfer ⟨rfl, rfl⟩ ⟨Nat.le_of_ble_eq_true rfl, Nat.le_of_ble_eq_true rfl⟩ (by omega) rfl rfl rfl rfl (Nat.le_of_ble_eq_true rfl) dX6_transfer_27 ?_
  refine zr_istore X [1, 2, 3, 4, 5, 6, 0] [(0, .ref (ad (0))), (1, .int (nI (f))), (2, .int (nI (f2))), (3, .int (z)), (4, .int (t)), (5, .int (nI (0))), (6, .int (-1))] dX6_transfer_30 (by decide) rfl ?_
  refine zr_iload X 6 dX6_transfer_32 rfl ?_
  refine zr_if_eq X 40 dX6_transfer_34 (by decide) (fun q => absurd q (by decide)) (fun _ => ?_)
  refine zr_iload X 6 dX6_transfer_37 rfl ?_
  exact zr_iret X dX6_transfer_39 ⟨rfl, rfl⟩

set_option maxHeartbeats 4000000 in
set_option maxRecDepth 100000 in
theorem c_transfer_b1 {l : Launch} {D : va_G} {tc : Nat → ClassId} {ad : Nat → Nat} {A : Nat → Prop} {tF tL tM : Nat} (E : zN 6 A ad) (μ : Nat → Int32) {m c k : Nat} (S : refS μ m c k) {f f2 : Nat} (hf : f < c) (hf2 : f2 < c) {v : Nat} (hv : v ≤ 19) {t : Int32} (hx : ¬ zin t 1 9999)  : zMi l yX6_transfer cX6_transfer 7 (some .int) (zrm 5) (zK A D tc tF tL tM) A D vwCl tc ad 6 shR [.ref (ad (0)), .int (nI (f)), .int (nI (f2)), .int (nI (v)), .int (t)] μ (fun r u => r = -2 ∧ u = μ) := by
  refine zM_of RX6 [(0, .ref (ad (0))), (1, .int (nI (f))), (2, .int (nI (f2))), (3, .int (nI (v))), (4, .int (t))] (zK_ok A D tc tF tL tM) E.1 E.2 owR_ok (by decide +kernel) rfl (Nat.le_of_ble_eq_true rfl) rfl ?_
  intro pP eE sS mM aS bL mT cO X
  obtain ⟨hm, hm2, hc, h8, hk, hk4⟩ := S
  refine zr_iloadn X 3 dX6_transfer_0 rfl ?_
  refine zr_dSi [.int (nI (v))] [] X (zK_ok A D tc tF tL tM) (c_isVintage_t E μ (by omega) (by omega)) k_633 k_634 k_7 k_635 hdX6_isVintage ⟨rfl, rfl⟩ ⟨Nat.le_of_ble_eq_true rfl, Nat.le_of_ble_eq_true rfl⟩ rfl rfl (Nat.le_of_ble_eq_true rfl) dX6_transfer_1 ?_
  refine zr_if_eq X 13 dX6_transfer_4 (by decide) (fun q => absurd q (nI_ne0 (by omega) (by omega))) (fun _ => ?_)
  refine zr_iconst X (nI (0)) dX6_transfer_7 (by decide +kernel) ?_
  refine zr_iloadn X 3 dX6_transfer_8 rfl ?_
  refine zr_iadd X (nI (v)) dX6_transfer_9 ((nI_add _ _).trans (congrArg nI (by omega))) ?_
  refine zr_goto X 14 dX6_transfer_10 (by decide) ?_
  refine zr_istore X [1, 2, 3, 4, 5, 0] [(0, .ref (ad (0))), (1, .int (nI (f))), (2, .int (nI (f2))), (3, .int (nI (v))), (4, .int (t)), (5, .int (nI (v)))] dX6_transfer_14 (by decide) rfl ?_
  refine zr_aloadn X 0 dX6_transfer_16 rfl ?_
  refine zr_iloadn X 1 dX6_transfer_17 rfl ?_
  refine zr_iloadn X 2 dX6_transfer_18 rfl ?_
  refine zr_iloadn X 3 dX6_transfer_19 rfl ?_
  refine zr_dSi [.int (nI (v))] [.int (nI (f2)), .int (nI (f)), .ref (ad (0))] X (zK_ok A D tc tF tL tM) (c_isVintage_t E μ (by omega) (by omega)) k_633 k_634 k_7 k_635 hdX6_isVintage ⟨rfl, rfl⟩ ⟨Nat.le_of_ble_eq_true rfl, Nat.le_of_ble_eq_true rfl⟩ rfl rfl (Nat.le_of_ble_eq_true rfl) dX6_transfer_20 ?_
  refine zr_iload X 5 dX6_transfer_23 rfl ?_
  refine zr_iload X 4 dX6_transfer_25 rfl ?_
  refine zr_dVi (C := RX6) (ci := 6) [.int (nI (f)), .int (nI (f2)), .int (nI (1)), .int (nI (v)), .int (t)] [] X (zK_ok A D tc tF tL tM) (c_noTransfer_b1 E μ (hc) h8 hf hf2 _ hx) k_636 k_638 kp_4 k_7 k_639 hdX6_noTransfer ⟨rfl, rfl⟩ ⟨Nat.le_of_ble_eq_true rfl, Nat.le_of_ble_eq_true rfl⟩ (by omega) rfl rfl rfl rfl (Nat.le_of_ble_eq_true rfl) dX6_transfer_27 ?_
  refine zr_istore X [1, 2, 3, 4, 5, 6, 0] [(0, .ref (ad (0))), (1, .int (nI (f))), (2, .int (nI (f2))), (3, .int (nI (v))), (4, .int (t)), (5, .int (nI (v))), (6, .int (-2))] dX6_transfer_30 (by decide) rfl ?_
  refine zr_iload X 6 dX6_transfer_32 rfl ?_
  refine zr_if_eq X 40 dX6_transfer_34 (by decide) (fun q => absurd q (by decide)) (fun _ => ?_)
  refine zr_iload X 6 dX6_transfer_37 rfl ?_
  exact zr_iret X dX6_transfer_39 ⟨rfl, rfl⟩

set_option maxHeartbeats 4000000 in
set_option maxRecDepth 100000 in
theorem c_transfer_b2 {l : Launch} {D : va_G} {tc : Nat → ClassId} {ad : Nat → Nat} {A : Nat → Prop} {tF tL tM : Nat} (E : zN 6 A ad) (μ : Nat → Int32) {m c k : Nat} (S : refS μ m c k) {f : Nat} (hf : f < c) {v : Nat} (hv : v ≤ 19) {t : Nat} (ht1 : 1 ≤ t) (ht9 : t ≤ 9999)  : zMi l yX6_transfer cX6_transfer 7 (some .int) (zrm 5) (zK A D tc tF tL tM) A D vwCl tc ad 6 shR [.ref (ad (0)), .int (nI (f)), .int (nI (f)), .int (nI (v)), .int (nI (t))] μ (fun r u => r = -2 ∧ u = μ) := by
  refine zM_of RX6 [(0, .ref (ad (0))), (1, .int (nI (f))), (2, .int (nI (f))), (3, .int (nI (v))), (4, .int (nI (t)))] (zK_ok A D tc tF tL tM) E.1 E.2 owR_ok (by decide +kernel) rfl (Nat.le_of_ble_eq_true rfl) rfl ?_
  intro pP eE sS mM aS bL mT cO X
  obtain ⟨hm, hm2, hc, h8, hk, hk4⟩ := S
  refine zr_iloadn X 3 dX6_transfer_0 rfl ?_
  refine zr_dSi [.int (nI (v))] [] X (zK_ok A D tc tF tL tM) (c_isVintage_t E μ (by omega) (by omega)) k_633 k_634 k_7 k_635 hdX6_isVintage ⟨rfl, rfl⟩ ⟨Nat.le_of_ble_eq_true rfl, Nat.le_of_ble_eq_true rfl⟩ rfl rfl (Nat.le_of_ble_eq_true rfl) dX6_transfer_1 ?_
  refine zr_if_eq X 13 dX6_transfer_4 (by decide) (fun q => absurd q (nI_ne0 (by omega) (by omega))) (fun _ => ?_)
  refine zr_iconst X (nI (0)) dX6_transfer_7 (by decide +kernel) ?_
  refine zr_iloadn X 3 dX6_transfer_8 rfl ?_
  refine zr_iadd X (nI (v)) dX6_transfer_9 ((nI_add _ _).trans (congrArg nI (by omega))) ?_
  refine zr_goto X 14 dX6_transfer_10 (by decide) ?_
  refine zr_istore X [1, 2, 3, 4, 5, 0] [(0, .ref (ad (0))), (1, .int (nI (f))), (2, .int (nI (f))), (3, .int (nI (v))), (4, .int (nI (t))), (5, .int (nI (v)))] dX6_transfer_14 (by decide) rfl ?_
  refine zr_aloadn X 0 dX6_transfer_16 rfl ?_
  refine zr_iloadn X 1 dX6_transfer_17 rfl ?_
  refine zr_iloadn X 2 dX6_transfer_18 rfl ?_
  refine zr_iloadn X 3 dX6_transfer_19 rfl ?_
  refine zr_dSi [.int (nI (v))] [.int (nI (f)), .int (nI (f)), .ref (ad (0))] X (zK_ok A D tc tF tL tM) (c_isVintage_t E μ (by omega) (by omega)) k_633 k_634 k_7 k_635 hdX6_isVintage ⟨rfl, rfl⟩ ⟨Nat.le_of_ble_eq_true rfl, Nat.le_of_ble_eq_true rfl⟩ rfl rfl (Nat.le_of_ble_eq_true rfl) dX6_transfer_20 ?_
  refine zr_iload X 5 dX6_transfer_23 rfl ?_
  refine zr_iload X 4 dX6_transfer_25 rfl ?_
  refine zr_dVi (C := RX6) (ci := 6) [.int (nI (f)), .int (nI (f)), .int (nI (1)), .int (nI (v)), .int (nI (t))] [] X (zK_ok A D tc tF tL tM) (c_noTransfer_b2 E μ (hc) h8 hf ht1 ht9 _) k_636 k_638 kp_4 k_7 k_639 hdX6_noTransfer ⟨rfl, rfl⟩ ⟨Nat.le_of_ble_eq_true rfl, Nat.le_of_ble_eq_true rfl⟩ (by omega) rfl rfl rfl rfl (Nat.le_of_ble_eq_true rfl) dX6_transfer_27 ?_
  refine zr_istore X [1, 2, 3, 4, 5, 6, 0] [(0, .ref (ad (0))), (1, .int (nI (f))), (2, .int (nI (f))), (3, .int (nI (v))), (4, .int (nI (t))), (5, .int (nI (v))), (6, .int (-2))] dX6_transfer_30 (by decide) rfl ?_
  refine zr_iload X 6 dX6_transfer_32 rfl ?_
  refine zr_if_eq X 40 dX6_transfer_34 (by decide) (fun q => absurd q (by decide)) (fun _ => ?_)
  refine zr_iload X 6 dX6_transfer_37 rfl ?_
  exact zr_iret X dX6_transfer_39 ⟨rfl, rfl⟩

set_option maxHeartbeats 4000000 in
set_option maxRecDepth 100000 in
theorem c_transfer_n {l : Launch} {D : va_G} {tc : Nat → ClassId} {ad : Nat → Nat} {A : Nat → Prop} {tF tL tM : Nat} (E : zN 6 A ad) (μ : Nat → Int32) {m c k : Nat} (S : refS μ m c k) {f f2 : Nat} (hf : f < c) (hf2 : f2 < c) {v : Nat} (hv : v ≤ 19) {t : Nat} (ht1 : 1 ≤ t) (ht9 : t ≤ 9999) (hne : f ≠ f2) (h : ¬ nI t ≤ μ (32 * f + v + 7)) : zMi l yX6_transfer cX6_transfer 7 (some .int) (zrm 5) (zK A D tc tF tL tM) A D vwCl tc ad 6 shR [.ref (ad (0)), .int (nI (f)), .int (nI (f2)), .int (nI (v)), .int (nI (t))] μ (fun r u => r = -4 ∧ u = μ) := by
  refine zM_of RX6 [(0, .ref (ad (0))), (1, .int (nI (f))), (2, .int (nI (f2))), (3, .int (nI (v))), (4, .int (nI (t)))] (zK_ok A D tc tF tL tM) E.1 E.2 owR_ok (by decide +kernel) rfl (Nat.le_of_ble_eq_true rfl) rfl ?_
  intro pP eE sS mM aS bL mT cO X
  obtain ⟨hm, hm2, hc, h8, hk, hk4⟩ := S
  refine zr_iloadn X 3 dX6_transfer_0 rfl ?_
  refine zr_dSi [.int (nI (v))] [] X (zK_ok A D tc tF tL tM) (c_isVintage_t E μ (by omega) (by omega)) k_633 k_634 k_7 k_635 hdX6_isVintage ⟨rfl, rfl⟩ ⟨Nat.le_of_ble_eq_true rfl, Nat.le_of_ble_eq_true rfl⟩ rfl rfl (Nat.le_of_ble_eq_true rfl) dX6_transfer_1 ?_
  refine zr_if_eq X 13 dX6_transfer_4 (by decide) (fun q => absurd q (nI_ne0 (by omega) (by omega))) (fun _ => ?_)
  refine zr_iconst X (nI (0)) dX6_transfer_7 (by decide +kernel) ?_
  refine zr_iloadn X 3 dX6_transfer_8 rfl ?_
  refine zr_iadd X (nI (v)) dX6_transfer_9 ((nI_add _ _).trans (congrArg nI (by omega))) ?_
  refine zr_goto X 14 dX6_transfer_10 (by decide) ?_
  refine zr_istore X [1, 2, 3, 4, 5, 0] [(0, .ref (ad (0))), (1, .int (nI (f))), (2, .int (nI (f2))), (3, .int (nI (v))), (4, .int (nI (t))), (5, .int (nI (v)))] dX6_transfer_14 (by decide) rfl ?_
  refine zr_aloadn X 0 dX6_transfer_16 rfl ?_
  refine zr_iloadn X 1 dX6_transfer_17 rfl ?_
  refine zr_iloadn X 2 dX6_transfer_18 rfl ?_
  refine zr_iloadn X 3 dX6_transfer_19 rfl ?_
  refine zr_dSi [.int (nI (v))] [.int (nI (f2)), .int (nI (f)), .ref (ad (0))] X (zK_ok A D tc tF tL tM) (c_isVintage_t E μ (by omega) (by omega)) k_633 k_634 k_7 k_635 hdX6_isVintage ⟨rfl, rfl⟩ ⟨Nat.le_of_ble_eq_true rfl, Nat.le_of_ble_eq_true rfl⟩ rfl rfl (Nat.le_of_ble_eq_true rfl) dX6_transfer_20 ?_
  refine zr_iload X 5 dX6_transfer_23 rfl ?_
  refine zr_iload X 4 dX6_transfer_25 rfl ?_
  refine zr_dVi (C := RX6) (ci := 6) [.int (nI (f)), .int (nI (f2)), .int (nI (1)), .int (nI (v)), .int (nI (t))] [] X (zK_ok A D tc tF tL tM) (c_noTransfer_n E μ (w := v) (hc) h8 hf hf2 ht1 ht9 (by omega) hne h) k_636 k_638 kp_4 k_7 k_639 hdX6_noTransfer ⟨rfl, rfl⟩ ⟨Nat.le_of_ble_eq_true rfl, Nat.le_of_ble_eq_true rfl⟩ (by omega) rfl rfl rfl rfl (Nat.le_of_ble_eq_true rfl) dX6_transfer_27 ?_
  refine zr_istore X [1, 2, 3, 4, 5, 6, 0] [(0, .ref (ad (0))), (1, .int (nI (f))), (2, .int (nI (f2))), (3, .int (nI (v))), (4, .int (nI (t))), (5, .int (nI (v))), (6, .int (-4))] dX6_transfer_30 (by decide) rfl ?_
  refine zr_iload X 6 dX6_transfer_32 rfl ?_
  refine zr_if_eq X 40 dX6_transfer_34 (by decide) (fun q => absurd q (by decide)) (fun _ => ?_)
  refine zr_iload X 6 dX6_transfer_37 rfl ?_
  exact zr_iret X dX6_transfer_39 ⟨rfl, rfl⟩

set_option maxHeartbeats 4000000 in
set_option maxRecDepth 100000 in
theorem c_transfer_ok {l : Launch} {D : va_G} {tc : Nat → ClassId} {ad : Nat → Nat} {A : Nat → Prop} {tF tL tM : Nat} (E : zN 6 A ad) (μ : Nat → Int32) {m c k : Nat} (S : refS μ m c k) {f f2 : Nat} (hf : f < c) (hf2 : f2 < c) {v : Nat} (hv : v ≤ 19) {t : Nat} (ht1 : 1 ≤ t) (ht9 : t ≤ 9999) (hne : f ≠ f2) (h : nI t ≤ μ (32 * f + v + 7)) : zMi l yX6_transfer cX6_transfer 7 (some .int) (zrm 5) (zK A D tc tF tL tM) A D vwCl tc ad 6 shR [.ref (ad (0)), .int (nI (f)), .int (nI (f2)), .int (nI (v)), .int (nI (t))] μ (fun r u => r = μ (32 * f + v + 7) - nI (t) ∧ u = (upd (upd (zrec μ (0) (k)) (32 * f + v + 7) (μ (32 * f + v + 7) - nI (t))) (32 * f2 + v + 7) (μ (32 * f2 + v + 7) + nI (t)))) := by
  refine zM_of RX6 [(0, .ref (ad (0))), (1, .int (nI (f))), (2, .int (nI (f2))), (3, .int (nI (v))), (4, .int (nI (t)))] (zK_ok A D tc tF tL tM) E.1 E.2 owR_ok (by decide +kernel) rfl (Nat.le_of_ble_eq_true rfl) rfl ?_
  intro pP eE sS mM aS bL mT cO X
  obtain ⟨hm, hm2, hc, h8, hk, hk4⟩ := S
  refine zr_iloadn X 3 dX6_transfer_0 rfl ?_
  refine zr_dSi [.int (nI (v))] [] X (zK_ok A D tc tF tL tM) (c_isVintage_t E μ (by omega) (by omega)) k_633 k_634 k_7 k_635 hdX6_isVintage ⟨rfl, rfl⟩ ⟨Nat.le_of_ble_eq_true rfl, Nat.le_of_ble_eq_true rfl⟩ rfl rfl (Nat.le_of_ble_eq_true rfl) dX6_transfer_1 ?_
  refine zr_if_eq X 13 dX6_transfer_4 (by decide) (fun q => absurd q (nI_ne0 (by omega) (by omega))) (fun _ => ?_)
  refine zr_iconst X (nI (0)) dX6_transfer_7 (by decide +kernel) ?_
  refine zr_iloadn X 3 dX6_transfer_8 rfl ?_
  refine zr_iadd X (nI (v)) dX6_transfer_9 ((nI_add _ _).trans (congrArg nI (by omega))) ?_
  refine zr_goto X 14 dX6_transfer_10 (by decide) ?_
  refine zr_istore X [1, 2, 3, 4, 5, 0] [(0, .ref (ad (0))), (1, .int (nI (f))), (2, .int (nI (f2))), (3, .int (nI (v))), (4, .int (nI (t))), (5, .int (nI (v)))] dX6_transfer_14 (by decide) rfl ?_
  refine zr_aloadn X 0 dX6_transfer_16 rfl ?_
  refine zr_iloadn X 1 dX6_transfer_17 rfl ?_
  refine zr_iloadn X 2 dX6_transfer_18 rfl ?_
  refine zr_iloadn X 3 dX6_transfer_19 rfl ?_
  refine zr_dSi [.int (nI (v))] [.int (nI (f2)), .int (nI (f)), .ref (ad (0))] X (zK_ok A D tc tF tL tM) (c_isVintage_t E μ (by omega) (by omega)) k_633 k_634 k_7 k_635 hdX6_isVintage ⟨rfl, rfl⟩ ⟨Nat.le_of_ble_eq_true rfl, Nat.le_of_ble_eq_true rfl⟩ rfl rfl (Nat.le_of_ble_eq_true rfl) dX6_transfer_20 ?_
  refine zr_iload X 5 dX6_transfer_23 rfl ?_
  refine zr_iload X 4 dX6_transfer_25 rfl ?_
  refine zr_dVi (C := RX6) (ci := 6) [.int (nI (f)), .int (nI (f2)), .int (nI (1)), .int (nI (v)), .int (nI (t))] [] X (zK_ok A D tc tF tL tM) (c_noTransfer_0 E μ (w := v) (hc) h8 hf hf2 ht1 ht9 (by omega) hne h) k_636 k_638 kp_4 k_7 k_639 hdX6_noTransfer ⟨rfl, rfl⟩ ⟨Nat.le_of_ble_eq_true rfl, Nat.le_of_ble_eq_true rfl⟩ (by omega) rfl rfl rfl rfl (Nat.le_of_ble_eq_true rfl) dX6_transfer_27 ?_
  refine zr_istore X [1, 2, 3, 4, 5, 6, 0] [(0, .ref (ad (0))), (1, .int (nI (f))), (2, .int (nI (f2))), (3, .int (nI (v))), (4, .int (nI (t))), (5, .int (nI (v))), (6, .int (nI (0)))] dX6_transfer_30 (by decide) rfl ?_
  refine zr_iload X 6 dX6_transfer_32 rfl ?_
  refine zr_if_eq X 40 dX6_transfer_34 (by decide) (fun _ => ?_) (fun q => absurd (zq_eq0 (by omega)) q)
  refine zr_aloadn X 0 dX6_transfer_40 rfl ?_
  refine zr_iconst X (nI (0)) dX6_transfer_41 (by decide +kernel) ?_
  refine zr_dVv (C := RX6) (ci := 6) [.int (nI (0))] [] X (zK_ok A D tc tF tL tM) (c_record E μ (hk) hk4 (by omega)) k_589 k_591 kp_1 k_7 k_592 hdX6_record ⟨rfl, rfl⟩ ⟨Nat.le_of_ble_eq_true rfl, Nat.le_of_ble_eq_true rfl⟩ (by omega) rfl rfl rfl rfl (Nat.le_of_ble_eq_true rfl) dX6_transfer_42 ?_
  refine zr_aloadn X 0 dX6_transfer_45 rfl ?_
  refine zr_iloadn X 1 dX6_transfer_46 rfl ?_
  refine zr_iloadn X 2 dX6_transfer_47 rfl ?_
  refine zr_iload X 5 dX6_transfer_48 rfl ?_
  refine zr_iload X 4 dX6_transfer_50 rfl ?_
  refine zr_dVi (C := RX6) (ci := 6) [.int (nI (f)), .int (nI (f2)), .int (nI (v)), .int (nI (t))] [] X (zK_ok A D tc tF tL tM) (c_doT E (zrec μ (0) (k)) (w := v) (t := nI (t)) ((zrec_out (by omega) (by omega) hk4).trans (hc)) h8 hf hf2 (by omega) hne (pa := 32 * f + v + 7) (pb := 32 * f2 + v + 7) (by omega) (by omega) (zrec_out (by omega) (by omega) hk4) (zrec_out (by omega) (by omega) hk4)) k_640 k_642 kp_5 k_7 k_643 hdX6_doTransfer ⟨rfl, rfl⟩ ⟨Nat.le_of_ble_eq_true rfl, Nat.le_of_ble_eq_true rfl⟩ (by omega) rfl rfl rfl rfl (Nat.le_of_ble_eq_true rfl) dX6_transfer_52 ?_
  exact zr_iret X dX6_transfer_55 ⟨rfl, rfl⟩

set_option maxHeartbeats 4000000 in
set_option maxRecDepth 100000 in
theorem c_transferOffsets_u1 {l : Launch} {D : va_G} {tc : Nat → ClassId} {ad : Nat → Nat} {A : Nat → Prop} {tF tL tM : Nat} (E : zN 6 A ad) (μ : Nat → Int32) {m c k : Nat} (S : refS μ m c k) {x : Int32} (hx : ¬ zfm x c) (to : Int32) (t : Int32) {g : Nat} (hg : g ≤ 2)  : zMi l yX6_transferOffsets cX6_transferOffsets 7 (some .int) (zrm 5) (zK A D tc tF tL tM) A D vwCl tc ad 6 shR [.ref (ad (0)), .int (x), .int (to), .int (nI (g)), .int (t)] μ (fun r u => r = -1 ∧ u = μ) := by
  refine zM_of RX6 [(0, .ref (ad (0))), (1, .int (x)), (2, .int (to)), (3, .int (nI (g))), (4, .int (t))] (zK_ok A D tc tF tL tM) E.1 E.2 owR_ok (by decide +kernel) rfl (Nat.le_of_ble_eq_true rfl) rfl ?_
  intro pP eE sS mM aS bL mT cO X
  obtain ⟨hm, hm2, hc, h8, hk, hk4⟩ := S
  refine zr_iloadn X 3 dX6_transferOffsets_0 rfl ?_
  refine zr_dSi [.int (nI (g))] [] X (zK_ok A D tc tF tL tM) (c_isGrade_t E μ (by omega) (by omega)) k_626 k_627 k_7 k_628 hdX6_isGrade ⟨rfl, rfl⟩ ⟨Nat.le_of_ble_eq_true rfl, Nat.le_of_ble_eq_true rfl⟩ rfl rfl (Nat.le_of_ble_eq_true rfl) dX6_transferOffsets_1 ?_
  refine zr_if_eq X 14 dX6_transferOffsets_4 (by decide) (fun q => absurd q (nI_ne0 (by omega) (by omega))) (fun _ => ?_)
  refine zr_bipush X (nI (20)) dX6_transferOffsets_7 (by decide +kernel) ?_
  refine zr_iloadn X 3 dX6_transferOffsets_9 rfl ?_
  refine zr_iadd X (nI (g + 20)) dX6_transferOffsets_10 ((nI_add _ _).trans (congrArg nI (by omega))) ?_
  refine zr_goto X 15 dX6_transferOffsets_11 (by decide) ?_
  refine zr_istore X [1, 2, 3, 4, 5, 0] [(0, .ref (ad (0))), (1, .int (x)), (2, .int (to)), (3, .int (nI (g))), (4, .int (t)), (5, .int (nI (g + 20)))] dX6_transferOffsets_15 (by decide) rfl ?_
  refine zr_aloadn X 0 dX6_transferOffsets_17 rfl ?_
  refine zr_iloadn X 1 dX6_transferOffsets_18 rfl ?_
  refine zr_iloadn X 2 dX6_transferOffsets_19 rfl ?_
  refine zr_iloadn X 3 dX6_transferOffsets_20 rfl ?_
  refine zr_dSi [.int (nI (g))] [.int (to), .int (x), .ref (ad (0))] X (zK_ok A D tc tF tL tM) (c_isGrade_t E μ (by omega) (by omega)) k_626 k_627 k_7 k_628 hdX6_isGrade ⟨rfl, rfl⟩ ⟨Nat.le_of_ble_eq_true rfl, Nat.le_of_ble_eq_true rfl⟩ rfl rfl (Nat.le_of_ble_eq_true rfl) dX6_transferOffsets_21 ?_
  refine zr_iload X 5 dX6_transferOffsets_24 rfl ?_
  refine zr_iload X 4 dX6_transferOffsets_26 rfl ?_
  refine zr_dVi (C := RX6) (ci := 6) [.int (x), .int (to), .int (nI (1)), .int (nI (g + 20)), .int (t)] [] X (zK_ok A D tc tF tL tM) (c_noTransfer_u1 E μ (hc) h8 hx _ _ _ _) k_636 k_638 kp_4 k_7 k_639 hdX6_noTransfer ⟨rfl, rfl⟩ ⟨Nat.le_of_ble_eq_true rfl, Nat.le_of_ble_eq_true rfl⟩ (by omega) rfl rfl rfl rfl (Nat.le_of_ble_eq_true rfl) dX6_transferOffsets_28 ?_
  refine zr_istore X [1, 2, 3, 4, 5, 6, 0] [(0, .ref (ad (0))), (1, .int (x)), (2, .int (to)), (3, .int (nI (g))), (4, .int (t)), (5, .int (nI (g + 20))), (6, .int (-1))] dX6_transferOffsets_31 (by decide) rfl ?_
  refine zr_iload X 6 dX6_transferOffsets_33 rfl ?_
  refine zr_if_eq X 41 dX6_transferOffsets_35 (by decide) (fun q => absurd q (by decide)) (fun _ => ?_)
  refine zr_iload X 6 dX6_transferOffsets_38 rfl ?_
  exact zr_iret X dX6_transferOffsets_40 ⟨rfl, rfl⟩

set_option maxHeartbeats 4000000 in
set_option maxRecDepth 100000 in
theorem c_transferOffsets_u2 {l : Launch} {D : va_G} {tc : Nat → ClassId} {ad : Nat → Nat} {A : Nat → Prop} {tF tL tM : Nat} (E : zN 6 A ad) (μ : Nat → Int32) {m c k : Nat} (S : refS μ m c k) {f : Nat} (hf : f < c) {x : Int32} (hx : ¬ zfm x c) (t : Int32) {g : Nat} (hg : g ≤ 2)  : zMi l yX6_transferOffsets cX6_transferOffsets 7 (some .int) (zrm 5) (zK A D tc tF tL tM) A D vwCl tc ad 6 shR [.ref (ad (0)), .int (nI (f)), .int (x), .int (nI (g)), .int (t)] μ (fun r u => r = -1 ∧ u = μ) := by
  refine zM_of RX6 [(0, .ref (ad (0))), (1, .int (nI (f))), (2, .int (x)), (3, .int (nI (g))), (4, .int (t))] (zK_ok A D tc tF tL tM) E.1 E.2 owR_ok (by decide +kernel) rfl (Nat.le_of_ble_eq_true rfl) rfl ?_
  intro pP eE sS mM aS bL mT cO X
  obtain ⟨hm, hm2, hc, h8, hk, hk4⟩ := S
  refine zr_iloadn X 3 dX6_transferOffsets_0 rfl ?_
  refine zr_dSi [.int (nI (g))] [] X (zK_ok A D tc tF tL tM) (c_isGrade_t E μ (by omega) (by omega)) k_626 k_627 k_7 k_628 hdX6_isGrade ⟨rfl, rfl⟩ ⟨Nat.le_of_ble_eq_true rfl, Nat.le_of_ble_eq_true rfl⟩ rfl rfl (Nat.le_of_ble_eq_true rfl) dX6_transferOffsets_1 ?_
  refine zr_if_eq X 14 dX6_transferOffsets_4 (by decide) (fun q => absurd q (nI_ne0 (by omega) (by omega))) (fun _ => ?_)
  refine zr_bipush X (nI (20)) dX6_transferOffsets_7 (by decide +kernel) ?_
  refine zr_iloadn X 3 dX6_transferOffsets_9 rfl ?_
  refine zr_iadd X (nI (g + 20)) dX6_transferOffsets_10 ((nI_add _ _).trans (congrArg nI (by omega))) ?_
  refine zr_goto X 15 dX6_transferOffsets_11 (by decide) ?_
  refine zr_istore X [1, 2, 3, 4, 5, 0] [(0, .ref (ad (0))), (1, .int (nI (f))), (2, .int (x)), (3, .int (nI (g))), (4, .int (t)), (5, .int (nI (g + 20)))] dX6_transferOffsets_15 (by decide) rfl ?_
  refine zr_aloadn X 0 dX6_transferOffsets_17 rfl ?_
  refine zr_iloadn X 1 dX6_transferOffsets_18 rfl ?_
  refine zr_iloadn X 2 dX6_transferOffsets_19 rfl ?_
  refine zr_iloadn X 3 dX6_transferOffsets_20 rfl ?_
  refine zr_dSi [.int (nI (g))] [.int (x), .int (nI (f)), .ref (ad (0))] X (zK_ok A D tc tF tL tM) (c_isGrade_t E μ (by omega) (by omega)) k_626 k_627 k_7 k_628 hdX6_isGrade ⟨rfl, rfl⟩ ⟨Nat.le_of_ble_eq_true rfl, Nat.le_of_ble_eq_true rfl⟩ rfl rfl (Nat.le_of_ble_eq_true rfl) dX6_transferOffsets_21 ?_
  refine zr_iload X 5 dX6_transferOffsets_24 rfl ?_
  refine zr_iload X 4 dX6_transferOffsets_26 rfl ?_
  refine zr_dVi (C := RX6) (ci := 6) [.int (nI (f)), .int (x), .int (nI (1)), .int (nI (g + 20)), .int (t)] [] X (zK_ok A D tc tF tL tM) (c_noTransfer_u2 E μ (hc) h8 hf hx _ _ _) k_636 k_638 kp_4 k_7 k_639 hdX6_noTransfer ⟨rfl, rfl⟩ ⟨Nat.le_of_ble_eq_true rfl, Nat.le_of_ble_eq_true rfl⟩ (by omega) rfl rfl rfl rfl (Nat.le_of_ble_eq_true rfl) dX6_transferOffsets_28 ?_
  refine zr_istore X [1, 2, 3, 4, 5, 6, 0] [(0, .ref (ad (0))), (1, .int (nI (f))), (2, .int (x)), (3, .int (nI (g))), (4, .int (t)), (5, .int (nI (g + 20))), (6, .int (-1))] dX6_transferOffsets_31 (by decide) rfl ?_
  refine zr_iload X 6 dX6_transferOffsets_33 rfl ?_
  refine zr_if_eq X 41 dX6_transferOffsets_35 (by decide) (fun q => absurd q (by decide)) (fun _ => ?_)
  refine zr_iload X 6 dX6_transferOffsets_38 rfl ?_
  exact zr_iret X dX6_transferOffsets_40 ⟨rfl, rfl⟩

set_option maxHeartbeats 4000000 in
set_option maxRecDepth 100000 in
theorem c_transferOffsets_u1z {l : Launch} {D : va_G} {tc : Nat → ClassId} {ad : Nat → Nat} {A : Nat → Prop} {tF tL tM : Nat} (E : zN 6 A ad) (μ : Nat → Int32) {m c k : Nat} (S : refS μ m c k) {x : Int32} (hx : ¬ zfm x c) (to : Int32) (t : Int32) {z : Int32} (hz : ¬ zin z 0 2)  : zMi l yX6_transferOffsets cX6_transferOffsets 7 (some .int) (zrm 5) (zK A D tc tF tL tM) A D vwCl tc ad 6 shR [.ref (ad (0)), .int (x), .int (to), .int (z), .int (t)] μ (fun r u => r = -1 ∧ u = μ) := by
  refine zM_of RX6 [(0, .ref (ad (0))), (1, .int (x)), (2, .int (to)), (3, .int (z)), (4, .int (t))] (zK_ok A D tc tF tL tM) E.1 E.2 owR_ok (by decide +kernel) rfl (Nat.le_of_ble_eq_true rfl) rfl ?_
  intro pP eE sS mM aS bL mT cO X
  obtain ⟨hm, hm2, hc, h8, hk, hk4⟩ := S
  refine zr_iloadn X 3 dX6_transferOffsets_0 rfl ?_
  refine zr_dSi [.int (z)] [] X (zK_ok A D tc tF tL tM) (c_isGrade_f E μ hz) k_626 k_627 k_7 k_628 hdX6_isGrade ⟨rfl, rfl⟩ ⟨Nat.le_of_ble_eq_true rfl, Nat.le_of_ble_eq_true rfl⟩ rfl rfl (Nat.le_of_ble_eq_true rfl) dX6_transferOffsets_1 ?_
  refine zr_if_eq X 14 dX6_transferOffsets_4 (by decide) (fun _ => ?_) (fun q => absurd (zq_eq0 (by omega)) q)
  refine zr_iconst X (nI (0)) dX6_transferOffsets_14 (by decide +kernel) ?_
  refine zr_istore X [1, 2, 3, 4, 5, 0] [(0, .ref (ad (0))), (1, .int (x)), (2, .int (to)), (3, .int (z)), (4, .int (t)), (5, .int (nI (0)))] dX6_transferOffsets_15 (by decide) rfl ?_
  refine zr_aloadn X 0 dX6_transferOffsets_17 rfl ?_
  refine zr_iloadn X 1 dX6_transferOffsets_18 rfl ?_
  refine zr_iloadn X 2 dX6_transferOffsets_19 rfl ?_
  refine zr_iloadn X 3 dX6_transferOffsets_20 rfl ?_
  refine zr_dSi [.int (z)] [.int (to), .int (x), .ref (ad (0))] X (zK_ok A D tc tF tL tM) (c_isGrade_f E μ hz) k_626 k_627 k_7 k_628 hdX6_isGrade ⟨rfl, rfl⟩ ⟨Nat.le_of_ble_eq_true rfl, Nat.le_of_ble_eq_true rfl⟩ rfl rfl (Nat.le_of_ble_eq_true rfl) dX6_transferOffsets_21 ?_
  refine zr_iload X 5 dX6_transferOffsets_24 rfl ?_
  refine zr_iload X 4 dX6_transferOffsets_26 rfl ?_
  refine zr_dVi (C := RX6) (ci := 6) [.int (x), .int (to), .int (nI (0)), .int (nI (0)), .int (t)] [] X (zK_ok A D tc tF tL tM) (c_noTransfer_u1 E μ (hc) h8 hx _ _ _ _) k_636 k_638 kp_4 k_7 k_639 hdX6_noTransfer ⟨rfl, rfl⟩ ⟨Nat.le_of_ble_eq_true rfl, Nat.le_of_ble_eq_true rfl⟩ (by omega) rfl rfl rfl rfl (Nat.le_of_ble_eq_true rfl) dX6_transferOffsets_28 ?_
  refine zr_istore X [1, 2, 3, 4, 5, 6, 0] [(0, .ref (ad (0))), (1, .int (x)), (2, .int (to)), (3, .int (z)), (4, .int (t)), (5, .int (nI (0))), (6, .int (-1))] dX6_transferOffsets_31 (by decide) rfl ?_
  refine zr_iload X 6 dX6_transferOffsets_33 rfl ?_
  refine zr_if_eq X 41 dX6_transferOffsets_35 (by decide) (fun q => absurd q (by decide)) (fun _ => ?_)
  refine zr_iload X 6 dX6_transferOffsets_38 rfl ?_
  exact zr_iret X dX6_transferOffsets_40 ⟨rfl, rfl⟩

set_option maxHeartbeats 4000000 in
set_option maxRecDepth 100000 in
theorem c_transferOffsets_u2z {l : Launch} {D : va_G} {tc : Nat → ClassId} {ad : Nat → Nat} {A : Nat → Prop} {tF tL tM : Nat} (E : zN 6 A ad) (μ : Nat → Int32) {m c k : Nat} (S : refS μ m c k) {f : Nat} (hf : f < c) {x : Int32} (hx : ¬ zfm x c) (t : Int32) {z : Int32} (hz : ¬ zin z 0 2)  : zMi l yX6_transferOffsets cX6_transferOffsets 7 (some .int) (zrm 5) (zK A D tc tF tL tM) A D vwCl tc ad 6 shR [.ref (ad (0)), .int (nI (f)), .int (x), .int (z), .int (t)] μ (fun r u => r = -1 ∧ u = μ) := by
  refine zM_of RX6 [(0, .ref (ad (0))), (1, .int (nI (f))), (2, .int (x)), (3, .int (z)), (4, .int (t))] (zK_ok A D tc tF tL tM) E.1 E.2 owR_ok (by decide +kernel) rfl (Nat.le_of_ble_eq_true rfl) rfl ?_
  intro pP eE sS mM aS bL mT cO X
  obtain ⟨hm, hm2, hc, h8, hk, hk4⟩ := S
  refine zr_iloadn X 3 dX6_transferOffsets_0 rfl ?_
  refine zr_dSi [.int (z)] [] X (zK_ok A D tc tF tL tM) (c_isGrade_f E μ hz) k_626 k_627 k_7 k_628 hdX6_isGrade ⟨rfl, rfl⟩ ⟨Nat.le_of_ble_eq_true rfl, Nat.le_of_ble_eq_true rfl⟩ rfl rfl (Nat.le_of_ble_eq_true rfl) dX6_transferOffsets_1 ?_
  refine zr_if_eq X 14 dX6_transferOffsets_4 (by decide) (fun _ => ?_) (fun q => absurd (zq_eq0 (by omega)) q)
  refine zr_iconst X (nI (0)) dX6_transferOffsets_14 (by decide +kernel) ?_
  refine zr_istore X [1, 2, 3, 4, 5, 0] [(0, .ref (ad (0))), (1, .int (nI (f))), (2, .int (x)), (3, .int (z)), (4, .int (t)), (5, .int (nI (0)))] dX6_transferOffsets_15 (by decide) rfl ?_
  refine zr_aloadn X 0 dX6_transferOffsets_17 rfl ?_
  refine zr_iloadn X 1 dX6_transferOffsets_18 rfl ?_
  refine zr_iloadn X 2 dX6_transferOffsets_19 rfl ?_
  refine zr_iloadn X 3 dX6_transferOffsets_20 rfl ?_
  refine zr_dSi [.int (z)] [.int (x), .int (nI (f)), .ref (ad (0))] X (zK_ok A D tc tF tL tM) (c_isGrade_f E μ hz) k_626 k_627 k_7 k_628 hdX6_isGrade ⟨rfl, rfl⟩ ⟨Nat.le_of_ble_eq_true rfl, Nat.le_of_ble_eq_true rfl⟩ rfl rfl (Nat.le_of_ble_eq_true rfl) dX6_transferOffsets_21 ?_
  refine zr_iload X 5 dX6_transferOffsets_24 rfl ?_
  refine zr_iload X 4 dX6_transferOffsets_26 rfl ?_
  refine zr_dVi (C := RX6) (ci := 6) [.int (nI (f)), .int (x), .int (nI (0)), .int (nI (0)), .int (t)] [] X (zK_ok A D tc tF tL tM) (c_noTransfer_u2 E μ (hc) h8 hf hx _ _ _) k_636 k_638 kp_4 k_7 k_639 hdX6_noTransfer ⟨rfl, rfl⟩ ⟨Nat.le_of_ble_eq_true rfl, Nat.le_of_ble_eq_true rfl⟩ (by omega) rfl rfl rfl rfl (Nat.le_of_ble_eq_true rfl) dX6_transferOffsets_28 ?_
  refine zr_istore X [1, 2, 3, 4, 5, 6, 0] [(0, .ref (ad (0))), (1, .int (nI (f))), (2, .int (x)), (3, .int (z)), (4, .int (t)), (5, .int (nI (0))), (6, .int (-1))] dX6_transferOffsets_31 (by decide) rfl ?_
  refine zr_iload X 6 dX6_transferOffsets_33 rfl ?_
  refine zr_if_eq X 41 dX6_transferOffsets_35 (by decide) (fun q => absurd q (by decide)) (fun _ => ?_)
  refine zr_iload X 6 dX6_transferOffsets_38 rfl ?_
  exact zr_iret X dX6_transferOffsets_40 ⟨rfl, rfl⟩

set_option maxHeartbeats 4000000 in
set_option maxRecDepth 100000 in
theorem c_transferOffsets_u3 {l : Launch} {D : va_G} {tc : Nat → ClassId} {ad : Nat → Nat} {A : Nat → Prop} {tF tL tM : Nat} (E : zN 6 A ad) (μ : Nat → Int32) {m c k : Nat} (S : refS μ m c k) {f f2 : Nat} (hf : f < c) (hf2 : f2 < c) (t : Int32) {z : Int32} (hz : ¬ zin z 0 2)  : zMi l yX6_transferOffsets cX6_transferOffsets 7 (some .int) (zrm 5) (zK A D tc tF tL tM) A D vwCl tc ad 6 shR [.ref (ad (0)), .int (nI (f)), .int (nI (f2)), .int (z), .int (t)] μ (fun r u => r = -1 ∧ u = μ) := by
  refine zM_of RX6 [(0, .ref (ad (0))), (1, .int (nI (f))), (2, .int (nI (f2))), (3, .int (z)), (4, .int (t))] (zK_ok A D tc tF tL tM) E.1 E.2 owR_ok (by decide +kernel) rfl (Nat.le_of_ble_eq_true rfl) rfl ?_
  intro pP eE sS mM aS bL mT cO X
  obtain ⟨hm, hm2, hc, h8, hk, hk4⟩ := S
  refine zr_iloadn X 3 dX6_transferOffsets_0 rfl ?_
  refine zr_dSi [.int (z)] [] X (zK_ok A D tc tF tL tM) (c_isGrade_f E μ hz) k_626 k_627 k_7 k_628 hdX6_isGrade ⟨rfl, rfl⟩ ⟨Nat.le_of_ble_eq_true rfl, Nat.le_of_ble_eq_true rfl⟩ rfl rfl (Nat.le_of_ble_eq_true rfl) dX6_transferOffsets_1 ?_
  refine zr_if_eq X 14 dX6_transferOffsets_4 (by decide) (fun _ => ?_) (fun q => absurd (zq_eq0 (by omega)) q)
  refine zr_iconst X (nI (0)) dX6_transferOffsets_14 (by decide +kernel) ?_
  refine zr_istore X [1, 2, 3, 4, 5, 0] [(0, .ref (ad (0))), (1, .int (nI (f))), (2, .int (nI (f2))), (3, .int (z)), (4, .int (t)), (5, .int (nI (0)))] dX6_transferOffsets_15 (by decide) rfl ?_
  refine zr_aloadn X 0 dX6_transferOffsets_17 rfl ?_
  refine zr_iloadn X 1 dX6_transferOffsets_18 rfl ?_
  refine zr_iloadn X 2 dX6_transferOffsets_19 rfl ?_
  refine zr_iloadn X 3 dX6_transferOffsets_20 rfl ?_
  refine zr_dSi [.int (z)] [.int (nI (f2)), .int (nI (f)), .ref (ad (0))] X (zK_ok A D tc tF tL tM) (c_isGrade_f E μ hz) k_626 k_627 k_7 k_628 hdX6_isGrade ⟨rfl, rfl⟩ ⟨Nat.le_of_ble_eq_true rfl, Nat.le_of_ble_eq_true rfl⟩ rfl rfl (Nat.le_of_ble_eq_true rfl) dX6_transferOffsets_21 ?_
  refine zr_iload X 5 dX6_transferOffsets_24 rfl ?_
  refine zr_iload X 4 dX6_transferOffsets_26 rfl ?_
  refine zr_dVi (C := RX6) (ci := 6) [.int (nI (f)), .int (nI (f2)), .int (nI (0)), .int (nI (0)), .int (t)] [] X (zK_ok A D tc tF tL tM) (c_noTransfer_u3 E μ (hc) h8 hf hf2 _ _) k_636 k_638 kp_4 k_7 k_639 hdX6_noTransfer ⟨rfl, rfl⟩ ⟨Nat.le_of_ble_eq_true rfl, Nat.le_of_ble_eq_true rfl⟩ (by omega) rfl rfl rfl rfl (Nat.le_of_ble_eq_true rfl) dX6_transferOffsets_28 ?_
  refine zr_istore X [1, 2, 3, 4, 5, 6, 0] [(0, .ref (ad (0))), (1, .int (nI (f))), (2, .int (nI (f2))), (3, .int (z)), (4, .int (t)), (5, .int (nI (0))), (6, .int (-1))] dX6_transferOffsets_31 (by decide) rfl ?_
  refine zr_iload X 6 dX6_transferOffsets_33 rfl ?_
  refine zr_if_eq X 41 dX6_transferOffsets_35 (by decide) (fun q => absurd q (by decide)) (fun _ => ?_)
  refine zr_iload X 6 dX6_transferOffsets_38 rfl ?_
  exact zr_iret X dX6_transferOffsets_40 ⟨rfl, rfl⟩

set_option maxHeartbeats 4000000 in
set_option maxRecDepth 100000 in
theorem c_transferOffsets_b1 {l : Launch} {D : va_G} {tc : Nat → ClassId} {ad : Nat → Nat} {A : Nat → Prop} {tF tL tM : Nat} (E : zN 6 A ad) (μ : Nat → Int32) {m c k : Nat} (S : refS μ m c k) {f f2 : Nat} (hf : f < c) (hf2 : f2 < c) {g : Nat} (hg : g ≤ 2) {t : Int32} (hx : ¬ zin t 1 9999)  : zMi l yX6_transferOffsets cX6_transferOffsets 7 (some .int) (zrm 5) (zK A D tc tF tL tM) A D vwCl tc ad 6 shR [.ref (ad (0)), .int (nI (f)), .int (nI (f2)), .int (nI (g)), .int (t)] μ (fun r u => r = -2 ∧ u = μ) := by
  refine zM_of RX6 [(0, .ref (ad (0))), (1, .int (nI (f))), (2, .int (nI (f2))), (3, .int (nI (g))), (4, .int (t))] (zK_ok A D tc tF tL tM) E.1 E.2 owR_ok (by decide +kernel) rfl (Nat.le_of_ble_eq_true rfl) rfl ?_
  intro pP eE sS mM aS bL mT cO X
  obtain ⟨hm, hm2, hc, h8, hk, hk4⟩ := S
  refine zr_iloadn X 3 dX6_transferOffsets_0 rfl ?_
  refine zr_dSi [.int (nI (g))] [] X (zK_ok A D tc tF tL tM) (c_isGrade_t E μ (by omega) (by omega)) k_626 k_627 k_7 k_628 hdX6_isGrade ⟨rfl, rfl⟩ ⟨Nat.le_of_ble_eq_true rfl, Nat.le_of_ble_eq_true rfl⟩ rfl rfl (Nat.le_of_ble_eq_true rfl) dX6_transferOffsets_1 ?_
  refine zr_if_eq X 14 dX6_transferOffsets_4 (by decide) (fun q => absurd q (nI_ne0 (by omega) (by omega))) (fun _ => ?_)
  refine zr_bipush X (nI (20)) dX6_transferOffsets_7 (by decide +kernel) ?_
  refine zr_iloadn X 3 dX6_transferOffsets_9 rfl ?_
  refine zr_iadd X (nI (g + 20)) dX6_transferOffsets_10 ((nI_add _ _).trans (congrArg nI (by omega))) ?_
  refine zr_goto X 15 dX6_transferOffsets_11 (by decide) ?_
  refine zr_istore X [1, 2, 3, 4, 5, 0] [(0, .ref (ad (0))), (1, .int (nI (f))), (2, .int (nI (f2))), (3, .int (nI (g))), (4, .int (t)), (5, .int (nI (g + 20)))] dX6_transferOffsets_15 (by decide) rfl ?_
  refine zr_aloadn X 0 dX6_transferOffsets_17 rfl ?_
  refine zr_iloadn X 1 dX6_transferOffsets_18 rfl ?_
  refine zr_iloadn X 2 dX6_transferOffsets_19 rfl ?_
  refine zr_iloadn X 3 dX6_transferOffsets_20 rfl ?_
  refine zr_dSi [.int (nI (g))] [.int (nI (f2)), .int (nI (f)), .ref (ad (0))] X (zK_ok A D tc tF tL tM) (c_isGrade_t E μ (by omega) (by omega)) k_626 k_627 k_7 k_628 hdX6_isGrade ⟨rfl, rfl⟩ ⟨Nat.le_of_ble_eq_true rfl, Nat.le_of_ble_eq_true rfl⟩ rfl rfl (Nat.le_of_ble_eq_true rfl) dX6_transferOffsets_21 ?_
  refine zr_iload X 5 dX6_transferOffsets_24 rfl ?_
  refine zr_iload X 4 dX6_transferOffsets_26 rfl ?_
  refine zr_dVi (C := RX6) (ci := 6) [.int (nI (f)), .int (nI (f2)), .int (nI (1)), .int (nI (g + 20)), .int (t)] [] X (zK_ok A D tc tF tL tM) (c_noTransfer_b1 E μ (hc) h8 hf hf2 _ hx) k_636 k_638 kp_4 k_7 k_639 hdX6_noTransfer ⟨rfl, rfl⟩ ⟨Nat.le_of_ble_eq_true rfl, Nat.le_of_ble_eq_true rfl⟩ (by omega) rfl rfl rfl rfl (Nat.le_of_ble_eq_true rfl) dX6_transferOffsets_28 ?_
  refine zr_istore X [1, 2, 3, 4, 5, 6, 0] [(0, .ref (ad (0))), (1, .int (nI (f))), (2, .int (nI (f2))), (3, .int (nI (g))), (4, .int (t)), (5, .int (nI (g + 20))), (6, .int (-2))] dX6_transferOffsets_31 (by decide) rfl ?_
  refine zr_iload X 6 dX6_transferOffsets_33 rfl ?_
  refine zr_if_eq X 41 dX6_transferOffsets_35 (by decide) (fun q => absurd q (by decide)) (fun _ => ?_)
  refine zr_iload X 6 dX6_transferOffsets_38 rfl ?_
  exact zr_iret X dX6_transferOffsets_40 ⟨rfl, rfl⟩

set_option maxHeartbeats 4000000 in
set_option maxRecDepth 100000 in
theorem c_transferOffsets_b2 {l : Launch} {D : va_G} {tc : Nat → ClassId} {ad : Nat → Nat} {A : Nat → Prop} {tF tL tM : Nat} (E : zN 6 A ad) (μ : Nat → Int32) {m c k : Nat} (S : refS μ m c k) {f : Nat} (hf : f < c) {g : Nat} (hg : g ≤ 2) {t : Nat} (ht1 : 1 ≤ t) (ht9 : t ≤ 9999)  : zMi l yX6_transferOffsets cX6_transferOffsets 7 (some .int) (zrm 5) (zK A D tc tF tL tM) A D vwCl tc ad 6 shR [.ref (ad (0)), .int (nI (f)), .int (nI (f)), .int (nI (g)), .int (nI (t))] μ (fun r u => r = -2 ∧ u = μ) := by
  refine zM_of RX6 [(0, .ref (ad (0))), (1, .int (nI (f))), (2, .int (nI (f))), (3, .int (nI (g))), (4, .int (nI (t)))] (zK_ok A D tc tF tL tM) E.1 E.2 owR_ok (by decide +kernel) rfl (Nat.le_of_ble_eq_true rfl) rfl ?_
  intro pP eE sS mM aS bL mT cO X
  obtain ⟨hm, hm2, hc, h8, hk, hk4⟩ := S
  refine zr_iloadn X 3 dX6_transferOffsets_0 rfl ?_
  refine zr_dSi [.int (nI (g))] [] X (zK_ok A D tc tF tL tM) (c_isGrade_t E μ (by omega) (by omega)) k_626 k_627 k_7 k_628 hdX6_isGrade ⟨rfl, rfl⟩ ⟨Nat.le_of_ble_eq_true rfl, Nat.le_of_ble_eq_true rfl⟩ rfl rfl (Nat.le_of_ble_eq_true rfl) dX6_transferOffsets_1 ?_
  refine zr_if_eq X 14 dX6_transferOffsets_4 (by decide) (fun q => absurd q (nI_ne0 (by omega) (by omega))) (fun _ => ?_)
  refine zr_bipush X (nI (20)) dX6_transferOffsets_7 (by decide +kernel) ?_
  refine zr_iloadn X 3 dX6_transferOffsets_9 rfl ?_
  refine zr_iadd X (nI (g + 20)) dX6_transferOffsets_10 ((nI_add _ _).trans (congrArg nI (by omega))) ?_
  refine zr_goto X 15 dX6_transferOffsets_11 (by decide) ?_
  refine zr_istore X [1, 2, 3, 4, 5, 0] [(0, .ref (ad (0))), (1, .int (nI (f))), (2, .int (nI (f))), (3, .int (nI (g))), (4, .int (nI (t))), (5, .int (nI (g + 20)))] dX6_transferOffsets_15 (by decide) rfl ?_
  refine zr_aloadn X 0 dX6_transferOffsets_17 rfl ?_
  refine zr_iloadn X 1 dX6_transferOffsets_18 rfl ?_
  refine zr_iloadn X 2 dX6_transferOffsets_19 rfl ?_
  refine zr_iloadn X 3 dX6_transferOffsets_20 rfl ?_
  refine zr_dSi [.int (nI (g))] [.int (nI (f)), .int (nI (f)), .ref (ad (0))] X (zK_ok A D tc tF tL tM) (c_isGrade_t E μ (by omega) (by omega)) k_626 k_627 k_7 k_628 hdX6_isGrade ⟨rfl, rfl⟩ ⟨Nat.le_of_ble_eq_true rfl, Nat.le_of_ble_eq_true rfl⟩ rfl rfl (Nat.le_of_ble_eq_true rfl) dX6_transferOffsets_21 ?_
  refine zr_iload X 5 dX6_transferOffsets_24 rfl ?_
  refine zr_iload X 4 dX6_transferOffsets_26 rfl ?_
  refine zr_dVi (C := RX6) (ci := 6) [.int (nI (f)), .int (nI (f)), .int (nI (1)), .int (nI (g + 20)), .int (nI (t))] [] X (zK_ok A D tc tF tL tM) (c_noTransfer_b2 E μ (hc) h8 hf ht1 ht9 _) k_636 k_638 kp_4 k_7 k_639 hdX6_noTransfer ⟨rfl, rfl⟩ ⟨Nat.le_of_ble_eq_true rfl, Nat.le_of_ble_eq_true rfl⟩ (by omega) rfl rfl rfl rfl (Nat.le_of_ble_eq_true rfl) dX6_transferOffsets_28 ?_
  refine zr_istore X [1, 2, 3, 4, 5, 6, 0] [(0, .ref (ad (0))), (1, .int (nI (f))), (2, .int (nI (f))), (3, .int (nI (g))), (4, .int (nI (t))), (5, .int (nI (g + 20))), (6, .int (-2))] dX6_transferOffsets_31 (by decide) rfl ?_
  refine zr_iload X 6 dX6_transferOffsets_33 rfl ?_
  refine zr_if_eq X 41 dX6_transferOffsets_35 (by decide) (fun q => absurd q (by decide)) (fun _ => ?_)
  refine zr_iload X 6 dX6_transferOffsets_38 rfl ?_
  exact zr_iret X dX6_transferOffsets_40 ⟨rfl, rfl⟩

set_option maxHeartbeats 4000000 in
set_option maxRecDepth 100000 in
theorem c_transferOffsets_n {l : Launch} {D : va_G} {tc : Nat → ClassId} {ad : Nat → Nat} {A : Nat → Prop} {tF tL tM : Nat} (E : zN 6 A ad) (μ : Nat → Int32) {m c k : Nat} (S : refS μ m c k) {f f2 : Nat} (hf : f < c) (hf2 : f2 < c) {g : Nat} (hg : g ≤ 2) {t : Nat} (ht1 : 1 ≤ t) (ht9 : t ≤ 9999) (hne : f ≠ f2) (h : ¬ nI t ≤ μ (32 * f + g + 27)) : zMi l yX6_transferOffsets cX6_transferOffsets 7 (some .int) (zrm 5) (zK A D tc tF tL tM) A D vwCl tc ad 6 shR [.ref (ad (0)), .int (nI (f)), .int (nI (f2)), .int (nI (g)), .int (nI (t))] μ (fun r u => r = -4 ∧ u = μ) := by
  refine zM_of RX6 [(0, .ref (ad (0))), (1, .int (nI (f))), (2, .int (nI (f2))), (3, .int (nI (g))), (4, .int (nI (t)))] (zK_ok A D tc tF tL tM) E.1 E.2 owR_ok (by decide +kernel) rfl (Nat.le_of_ble_eq_true rfl) rfl ?_
  intro pP eE sS mM aS bL mT cO X
  obtain ⟨hm, hm2, hc, h8, hk, hk4⟩ := S
  refine zr_iloadn X 3 dX6_transferOffsets_0 rfl ?_
  refine zr_dSi [.int (nI (g))] [] X (zK_ok A D tc tF tL tM) (c_isGrade_t E μ (by omega) (by omega)) k_626 k_627 k_7 k_628 hdX6_isGrade ⟨rfl, rfl⟩ ⟨Nat.le_of_ble_eq_true rfl, Nat.le_of_ble_eq_true rfl⟩ rfl rfl (Nat.le_of_ble_eq_true rfl) dX6_transferOffsets_1 ?_
  refine zr_if_eq X 14 dX6_transferOffsets_4 (by decide) (fun q => absurd q (nI_ne0 (by omega) (by omega))) (fun _ => ?_)
  refine zr_bipush X (nI (20)) dX6_transferOffsets_7 (by decide +kernel) ?_
  refine zr_iloadn X 3 dX6_transferOffsets_9 rfl ?_
  refine zr_iadd X (nI (g + 20)) dX6_transferOffsets_10 ((nI_add _ _).trans (congrArg nI (by omega))) ?_
  refine zr_goto X 15 dX6_transferOffsets_11 (by decide) ?_
  refine zr_istore X [1, 2, 3, 4, 5, 0] [(0, .ref (ad (0))), (1, .int (nI (f))), (2, .int (nI (f2))), (3, .int (nI (g))), (4, .int (nI (t))), (5, .int (nI (g + 20)))] dX6_transferOffsets_15 (by decide) rfl ?_
  refine zr_aloadn X 0 dX6_transferOffsets_17 rfl ?_
  refine zr_iloadn X 1 dX6_transferOffsets_18 rfl ?_
  refine zr_iloadn X 2 dX6_transferOffsets_19 rfl ?_
  refine zr_iloadn X 3 dX6_transferOffsets_20 rfl ?_
  refine zr_dSi [.int (nI (g))] [.int (nI (f2)), .int (nI (f)), .ref (ad (0))] X (zK_ok A D tc tF tL tM) (c_isGrade_t E μ (by omega) (by omega)) k_626 k_627 k_7 k_628 hdX6_isGrade ⟨rfl, rfl⟩ ⟨Nat.le_of_ble_eq_true rfl, Nat.le_of_ble_eq_true rfl⟩ rfl rfl (Nat.le_of_ble_eq_true rfl) dX6_transferOffsets_21 ?_
  refine zr_iload X 5 dX6_transferOffsets_24 rfl ?_
  refine zr_iload X 4 dX6_transferOffsets_26 rfl ?_
  refine zr_dVi (C := RX6) (ci := 6) [.int (nI (f)), .int (nI (f2)), .int (nI (1)), .int (nI (g + 20)), .int (nI (t))] [] X (zK_ok A D tc tF tL tM) (c_noTransfer_n E μ (w := g + 20) (hc) h8 hf hf2 ht1 ht9 (by omega) hne h) k_636 k_638 kp_4 k_7 k_639 hdX6_noTransfer ⟨rfl, rfl⟩ ⟨Nat.le_of_ble_eq_true rfl, Nat.le_of_ble_eq_true rfl⟩ (by omega) rfl rfl rfl rfl (Nat.le_of_ble_eq_true rfl) dX6_transferOffsets_28 ?_
  refine zr_istore X [1, 2, 3, 4, 5, 6, 0] [(0, .ref (ad (0))), (1, .int (nI (f))), (2, .int (nI (f2))), (3, .int (nI (g))), (4, .int (nI (t))), (5, .int (nI (g + 20))), (6, .int (-4))] dX6_transferOffsets_31 (by decide) rfl ?_
  refine zr_iload X 6 dX6_transferOffsets_33 rfl ?_
  refine zr_if_eq X 41 dX6_transferOffsets_35 (by decide) (fun q => absurd q (by decide)) (fun _ => ?_)
  refine zr_iload X 6 dX6_transferOffsets_38 rfl ?_
  exact zr_iret X dX6_transferOffsets_40 ⟨rfl, rfl⟩

set_option maxHeartbeats 4000000 in
set_option maxRecDepth 100000 in
theorem c_transferOffsets_ok {l : Launch} {D : va_G} {tc : Nat → ClassId} {ad : Nat → Nat} {A : Nat → Prop} {tF tL tM : Nat} (E : zN 6 A ad) (μ : Nat → Int32) {m c k : Nat} (S : refS μ m c k) {f f2 : Nat} (hf : f < c) (hf2 : f2 < c) {g : Nat} (hg : g ≤ 2) {t : Nat} (ht1 : 1 ≤ t) (ht9 : t ≤ 9999) (hne : f ≠ f2) (h : nI t ≤ μ (32 * f + g + 27)) : zMi l yX6_transferOffsets cX6_transferOffsets 7 (some .int) (zrm 5) (zK A D tc tF tL tM) A D vwCl tc ad 6 shR [.ref (ad (0)), .int (nI (f)), .int (nI (f2)), .int (nI (g)), .int (nI (t))] μ (fun r u => r = μ (32 * f + g + 27) - nI (t) ∧ u = (upd (upd (zrec μ (0) (k)) (32 * f + g + 27) (μ (32 * f + g + 27) - nI (t))) (32 * f2 + g + 27) (μ (32 * f2 + g + 27) + nI (t)))) := by
  refine zM_of RX6 [(0, .ref (ad (0))), (1, .int (nI (f))), (2, .int (nI (f2))), (3, .int (nI (g))), (4, .int (nI (t)))] (zK_ok A D tc tF tL tM) E.1 E.2 owR_ok (by decide +kernel) rfl (Nat.le_of_ble_eq_true rfl) rfl ?_
  intro pP eE sS mM aS bL mT cO X
  obtain ⟨hm, hm2, hc, h8, hk, hk4⟩ := S
  refine zr_iloadn X 3 dX6_transferOffsets_0 rfl ?_
  refine zr_dSi [.int (nI (g))] [] X (zK_ok A D tc tF tL tM) (c_isGrade_t E μ (by omega) (by omega)) k_626 k_627 k_7 k_628 hdX6_isGrade ⟨rfl, rfl⟩ ⟨Nat.le_of_ble_eq_true rfl, Nat.le_of_ble_eq_true rfl⟩ rfl rfl (Nat.le_of_ble_eq_true rfl) dX6_transferOffsets_1 ?_
  refine zr_if_eq X 14 dX6_transferOffsets_4 (by decide) (fun q => absurd q (nI_ne0 (by omega) (by omega))) (fun _ => ?_)
  refine zr_bipush X (nI (20)) dX6_transferOffsets_7 (by decide +kernel) ?_
  refine zr_iloadn X 3 dX6_transferOffsets_9 rfl ?_
  refine zr_iadd X (nI (g + 20)) dX6_transferOffsets_10 ((nI_add _ _).trans (congrArg nI (by omega))) ?_
  refine zr_goto X 15 dX6_transferOffsets_11 (by decide) ?_
  refine zr_istore X [1, 2, 3, 4, 5, 0] [(0, .ref (ad (0))), (1, .int (nI (f))), (2, .int (nI (f2))), (3, .int (nI (g))), (4, .int (nI (t))), (5, .int (nI (g + 20)))] dX6_transferOffsets_15 (by decide) rfl ?_
  refine zr_aloadn X 0 dX6_transferOffsets_17 rfl ?_
  refine zr_iloadn X 1 dX6_transferOffsets_18 rfl ?_
  refine zr_iloadn X 2 dX6_transferOffsets_19 rfl ?_
  refine zr_iloadn X 3 dX6_transferOffsets_20 rfl ?_
  refine zr_dSi [.int (nI (g))] [.int (nI (f2)), .int (nI (f)), .ref (ad (0))] X (zK_ok A D tc tF tL tM) (c_isGrade_t E μ (by omega) (by omega)) k_626 k_627 k_7 k_628 hdX6_isGrade ⟨rfl, rfl⟩ ⟨Nat.le_of_ble_eq_true rfl, Nat.le_of_ble_eq_true rfl⟩ rfl rfl (Nat.le_of_ble_eq_true rfl) dX6_transferOffsets_21 ?_
  refine zr_iload X 5 dX6_transferOffsets_24 rfl ?_
  refine zr_iload X 4 dX6_transferOffsets_26 rfl ?_
  refine zr_dVi (C := RX6) (ci := 6) [.int (nI (f)), .int (nI (f2)), .int (nI (1)), .int (nI (g + 20)), .int (nI (t))] [] X (zK_ok A D tc tF tL tM) (c_noTransfer_0 E μ (w := g + 20) (hc) h8 hf hf2 ht1 ht9 (by omega) hne h) k_636 k_638 kp_4 k_7 k_639 hdX6_noTransfer ⟨rfl, rfl⟩ ⟨Nat.le_of_ble_eq_true rfl, Nat.le_of_ble_eq_true rfl⟩ (by omega) rfl rfl rfl rfl (Nat.le_of_ble_eq_true rfl) dX6_transferOffsets_28 ?_
  refine zr_istore X [1, 2, 3, 4, 5, 6, 0] [(0, .ref (ad (0))), (1, .int (nI (f))), (2, .int (nI (f2))), (3, .int (nI (g))), (4, .int (nI (t))), (5, .int (nI (g + 20))), (6, .int (nI (0)))] dX6_transferOffsets_31 (by decide) rfl ?_
  refine zr_iload X 6 dX6_transferOffsets_33 rfl ?_
  refine zr_if_eq X 41 dX6_transferOffsets_35 (by decide) (fun _ => ?_) (fun q => absurd (zq_eq0 (by omega)) q)
  refine zr_aloadn X 0 dX6_transferOffsets_41 rfl ?_
  refine zr_iconst X (nI (0)) dX6_transferOffsets_42 (by decide +kernel) ?_
  refine zr_dVv (C := RX6) (ci := 6) [.int (nI (0))] [] X (zK_ok A D tc tF tL tM) (c_record E μ (hk) hk4 (by omega)) k_589 k_591 kp_1 k_7 k_592 hdX6_record ⟨rfl, rfl⟩ ⟨Nat.le_of_ble_eq_true rfl, Nat.le_of_ble_eq_true rfl⟩ (by omega) rfl rfl rfl rfl (Nat.le_of_ble_eq_true rfl) dX6_transferOffsets_43 ?_
  refine zr_aloadn X 0 dX6_transferOffsets_46 rfl ?_
  refine zr_iloadn X 1 dX6_transferOffsets_47 rfl ?_
  refine zr_iloadn X 2 dX6_transferOffsets_48 rfl ?_
  refine zr_iload X 5 dX6_transferOffsets_49 rfl ?_
  refine zr_iload X 4 dX6_transferOffsets_51 rfl ?_
  refine zr_dVi (C := RX6) (ci := 6) [.int (nI (f)), .int (nI (f2)), .int (nI (g + 20)), .int (nI (t))] [] X (zK_ok A D tc tF tL tM) (c_doT E (zrec μ (0) (k)) (w := g + 20) (t := nI (t)) ((zrec_out (by omega) (by omega) hk4).trans (hc)) h8 hf hf2 (by omega) hne (pa := 32 * f + g + 27) (pb := 32 * f2 + g + 27) (by omega) (by omega) (zrec_out (by omega) (by omega) hk4) (zrec_out (by omega) (by omega) hk4)) k_640 k_642 kp_5 k_7 k_643 hdX6_doTransfer ⟨rfl, rfl⟩ ⟨Nat.le_of_ble_eq_true rfl, Nat.le_of_ble_eq_true rfl⟩ (by omega) rfl rfl rfl rfl (Nat.le_of_ble_eq_true rfl) dX6_transferOffsets_53 ?_
  exact zr_iret X dX6_transferOffsets_56 ⟨rfl, rfl⟩

set_option maxHeartbeats 4000000 in
set_option maxRecDepth 100000 in
theorem c_cancel_u1 {l : Launch} {D : va_G} {tc : Nat → ClassId} {ad : Nat → Nat} {A : Nat → Prop} {tF tL tM : Nat} (E : zN 6 A ad) (μ : Nat → Int32) {m c k : Nat} (S : refS μ m c k) {x : Int32} (hx : ¬ zfm x c) (g : Int32) (z : Int32)  : zMi l yX6_cancel cX6_cancel 4 (some .int) (zrm 5) (zK A D tc tF tL tM) A D vwCl tc ad 6 shR [.ref (ad (0)), .int (x), .int (g), .int (z)] μ (fun r u => r = -1 ∧ u = μ) := by
  refine zM_of RX6 [(0, .ref (ad (0))), (1, .int (x)), (2, .int (g)), (3, .int (z))] (zK_ok A D tc tF tL tM) E.1 E.2 owR_ok (by decide +kernel) rfl (Nat.le_of_ble_eq_true rfl) rfl ?_
  intro pP eE sS mM aS bL mT cO X
  obtain ⟨hm, hm2, hc, h8, hk, hk4⟩ := S
  refine zr_aloadn X 0 dX6_cancel_0 rfl ?_
  refine zr_iloadn X 1 dX6_cancel_1 rfl ?_
  refine zr_dVi (C := RX6) (ci := 6) [.int (x)] [] X (zK_ok A D tc tF tL tM) (c_isFirm_f E μ (hc) h8 hx) k_611 k_613 kp_2 k_7 k_614 hdX6_isFirm ⟨rfl, rfl⟩ ⟨Nat.le_of_ble_eq_true rfl, Nat.le_of_ble_eq_true rfl⟩ (by omega) rfl rfl rfl rfl (Nat.le_of_ble_eq_true rfl) dX6_cancel_2 ?_
  refine zr_if_eq X 15 dX6_cancel_5 (by decide) (fun _ => ?_) (fun q => absurd (zq_eq0 (by omega)) q)
  refine zr_iconst X (-1) dX6_cancel_15 (by decide +kernel) ?_
  exact zr_iret X dX6_cancel_16 ⟨rfl, rfl⟩

set_option maxHeartbeats 4000000 in
set_option maxRecDepth 100000 in
theorem c_cancel_u2 {l : Launch} {D : va_G} {tc : Nat → ClassId} {ad : Nat → Nat} {A : Nat → Prop} {tF tL tM : Nat} (E : zN 6 A ad) (μ : Nat → Int32) {m c k : Nat} (S : refS μ m c k) {f : Nat} (hf : f < c) {x : Int32} (hx : ¬ zin x 0 19) (z : Int32)  : zMi l yX6_cancel cX6_cancel 4 (some .int) (zrm 5) (zK A D tc tF tL tM) A D vwCl tc ad 6 shR [.ref (ad (0)), .int (nI (f)), .int (x), .int (z)] μ (fun r u => r = -1 ∧ u = μ) := by
  refine zM_of RX6 [(0, .ref (ad (0))), (1, .int (nI (f))), (2, .int (x)), (3, .int (z))] (zK_ok A D tc tF tL tM) E.1 E.2 owR_ok (by decide +kernel) rfl (Nat.le_of_ble_eq_true rfl) rfl ?_
  intro pP eE sS mM aS bL mT cO X
  obtain ⟨hm, hm2, hc, h8, hk, hk4⟩ := S
  refine zr_aloadn X 0 dX6_cancel_0 rfl ?_
  refine zr_iloadn X 1 dX6_cancel_1 rfl ?_
  refine zr_dVi (C := RX6) (ci := 6) [.int (nI (f))] [] X (zK_ok A D tc tF tL tM) (c_isFirm_t E μ (hc) h8 (by omega)) k_611 k_613 kp_2 k_7 k_614 hdX6_isFirm ⟨rfl, rfl⟩ ⟨Nat.le_of_ble_eq_true rfl, Nat.le_of_ble_eq_true rfl⟩ (by omega) rfl rfl rfl rfl (Nat.le_of_ble_eq_true rfl) dX6_cancel_2 ?_
  refine zr_if_eq X 15 dX6_cancel_5 (by decide) (fun q => absurd q (nI_ne0 (by omega) (by omega))) (fun _ => ?_)
  refine zr_iloadn X 2 dX6_cancel_8 rfl ?_
  refine zr_dSi [.int (x)] [] X (zK_ok A D tc tF tL tM) (c_isVintage_f E μ hx) k_633 k_634 k_7 k_635 hdX6_isVintage ⟨rfl, rfl⟩ ⟨Nat.le_of_ble_eq_true rfl, Nat.le_of_ble_eq_true rfl⟩ rfl rfl (Nat.le_of_ble_eq_true rfl) dX6_cancel_9 ?_
  refine zr_if_ne X 17 dX6_cancel_12 (by decide) (fun q => absurd (zq_eq0 (by omega)) q) (fun _ => ?_)
  refine zr_iconst X (-1) dX6_cancel_15 (by decide +kernel) ?_
  exact zr_iret X dX6_cancel_16 ⟨rfl, rfl⟩

set_option maxHeartbeats 4000000 in
set_option maxRecDepth 100000 in
theorem c_cancel_b {l : Launch} {D : va_G} {tc : Nat → ClassId} {ad : Nat → Nat} {A : Nat → Prop} {tF tL tM : Nat} (E : zN 6 A ad) (μ : Nat → Int32) {m c k : Nat} (S : refS μ m c k) {f : Nat} (hf : f < c) {v : Nat} (hv : v ≤ 19) {z : Int32} (hx : ¬ zin z 1 9999)  : zMi l yX6_cancel cX6_cancel 4 (some .int) (zrm 5) (zK A D tc tF tL tM) A D vwCl tc ad 6 shR [.ref (ad (0)), .int (nI (f)), .int (nI (v)), .int (z)] μ (fun r u => r = -2 ∧ u = μ) := by
  refine zM_of RX6 [(0, .ref (ad (0))), (1, .int (nI (f))), (2, .int (nI (v))), (3, .int (z))] (zK_ok A D tc tF tL tM) E.1 E.2 owR_ok (by decide +kernel) rfl (Nat.le_of_ble_eq_true rfl) rfl ?_
  intro pP eE sS mM aS bL mT cO X
  obtain ⟨hm, hm2, hc, h8, hk, hk4⟩ := S
  refine zr_aloadn X 0 dX6_cancel_0 rfl ?_
  refine zr_iloadn X 1 dX6_cancel_1 rfl ?_
  refine zr_dVi (C := RX6) (ci := 6) [.int (nI (f))] [] X (zK_ok A D tc tF tL tM) (c_isFirm_t E μ (hc) h8 (by omega)) k_611 k_613 kp_2 k_7 k_614 hdX6_isFirm ⟨rfl, rfl⟩ ⟨Nat.le_of_ble_eq_true rfl, Nat.le_of_ble_eq_true rfl⟩ (by omega) rfl rfl rfl rfl (Nat.le_of_ble_eq_true rfl) dX6_cancel_2 ?_
  refine zr_if_eq X 15 dX6_cancel_5 (by decide) (fun q => absurd q (nI_ne0 (by omega) (by omega))) (fun _ => ?_)
  refine zr_iloadn X 2 dX6_cancel_8 rfl ?_
  refine zr_dSi [.int (nI (v))] [] X (zK_ok A D tc tF tL tM) (c_isVintage_t E μ (by omega) (by omega)) k_633 k_634 k_7 k_635 hdX6_isVintage ⟨rfl, rfl⟩ ⟨Nat.le_of_ble_eq_true rfl, Nat.le_of_ble_eq_true rfl⟩ rfl rfl (Nat.le_of_ble_eq_true rfl) dX6_cancel_9 ?_
  refine zr_if_ne X 17 dX6_cancel_12 (by decide) (fun _ => ?_) (fun q => absurd q (nI_ne0 (by omega) (by omega)))
  refine zr_iloadn X 3 dX6_cancel_17 rfl ?_
  refine zr_dSi [.int (z)] [] X (zK_ok A D tc tF tL tM) (c_isTonnes_f E μ hx) k_615 k_616 k_7 k_617 hdX6_isTonnes ⟨rfl, rfl⟩ ⟨Nat.le_of_ble_eq_true rfl, Nat.le_of_ble_eq_true rfl⟩ rfl rfl (Nat.le_of_ble_eq_true rfl) dX6_cancel_18 ?_
  refine zr_if_ne X 27 dX6_cancel_21 (by decide) (fun q => absurd (zq_eq0 (by omega)) q) (fun _ => ?_)
  refine zr_bipush X (-2) dX6_cancel_24 (by decide +kernel) ?_
  exact zr_iret X dX6_cancel_26 ⟨rfl, rfl⟩

set_option maxHeartbeats 4000000 in
set_option maxRecDepth 100000 in
theorem c_cancel_n {l : Launch} {D : va_G} {tc : Nat → ClassId} {ad : Nat → Nat} {A : Nat → Prop} {tF tL tM : Nat} (E : zN 6 A ad) (μ : Nat → Int32) {m c k : Nat} (S : refS μ m c k) {f : Nat} (hf : f < c) {v : Nat} (hv : v ≤ 19) {t : Nat} (ht1 : 1 ≤ t) (ht9 : t ≤ 9999) (h : ¬ nI t ≤ μ (32 * f + v + 7)) : zMi l yX6_cancel cX6_cancel 4 (some .int) (zrm 5) (zK A D tc tF tL tM) A D vwCl tc ad 6 shR [.ref (ad (0)), .int (nI (f)), .int (nI (v)), .int (nI (t))] μ (fun r u => r = -4 ∧ u = μ) := by
  refine zM_of RX6 [(0, .ref (ad (0))), (1, .int (nI (f))), (2, .int (nI (v))), (3, .int (nI (t)))] (zK_ok A D tc tF tL tM) E.1 E.2 owR_ok (by decide +kernel) rfl (Nat.le_of_ble_eq_true rfl) rfl ?_
  intro pP eE sS mM aS bL mT cO X
  obtain ⟨hm, hm2, hc, h8, hk, hk4⟩ := S
  refine zr_aloadn X 0 dX6_cancel_0 rfl ?_
  refine zr_iloadn X 1 dX6_cancel_1 rfl ?_
  refine zr_dVi (C := RX6) (ci := 6) [.int (nI (f))] [] X (zK_ok A D tc tF tL tM) (c_isFirm_t E μ (hc) h8 (by omega)) k_611 k_613 kp_2 k_7 k_614 hdX6_isFirm ⟨rfl, rfl⟩ ⟨Nat.le_of_ble_eq_true rfl, Nat.le_of_ble_eq_true rfl⟩ (by omega) rfl rfl rfl rfl (Nat.le_of_ble_eq_true rfl) dX6_cancel_2 ?_
  refine zr_if_eq X 15 dX6_cancel_5 (by decide) (fun q => absurd q (nI_ne0 (by omega) (by omega))) (fun _ => ?_)
  refine zr_iloadn X 2 dX6_cancel_8 rfl ?_
  refine zr_dSi [.int (nI (v))] [] X (zK_ok A D tc tF tL tM) (c_isVintage_t E μ (by omega) (by omega)) k_633 k_634 k_7 k_635 hdX6_isVintage ⟨rfl, rfl⟩ ⟨Nat.le_of_ble_eq_true rfl, Nat.le_of_ble_eq_true rfl⟩ rfl rfl (Nat.le_of_ble_eq_true rfl) dX6_cancel_9 ?_
  refine zr_if_ne X 17 dX6_cancel_12 (by decide) (fun _ => ?_) (fun q => absurd q (nI_ne0 (by omega) (by omega)))
  refine zr_iloadn X 3 dX6_cancel_17 rfl ?_
  refine zr_dSi [.int (nI (t))] [] X (zK_ok A D tc tF tL tM) (c_isTonnes_t E μ (by omega) (by omega)) k_615 k_616 k_7 k_617 hdX6_isTonnes ⟨rfl, rfl⟩ ⟨Nat.le_of_ble_eq_true rfl, Nat.le_of_ble_eq_true rfl⟩ rfl rfl (Nat.le_of_ble_eq_true rfl) dX6_cancel_18 ?_
  refine zr_if_ne X 27 dX6_cancel_21 (by decide) (fun _ => ?_) (fun q => absurd q (nI_ne0 (by omega) (by omega)))
  refine zr_aloadn X 0 dX6_cancel_27 rfl ?_
  refine zr_get X (ci := 6) (q := 0) (zR (1)) (.ref (ad (1))) dX6_cancel_28 (by omega) rfl rfl inX6 (by decide) rfl (rfl) rfl k_539 ?_
  refine zr_iloadn X 1 dX6_cancel_31 rfl ?_
  refine zr_iconst X (nI (0)) dX6_cancel_32 (by decide +kernel) ?_
  refine zr_iloadn X 2 dX6_cancel_33 rfl ?_
  refine zr_iadd X (nI (v)) dX6_cancel_34 ((nI_add _ _).trans (congrArg nI (by omega))) ?_
  refine zr_dSi [.int (nI (f)), .int (nI (v))] [.ref (ad (1))] X (zK_ok A D tc tF tL tM) (zM_i (z1 := nI (32 * f + v + 7)) (c_of E μ (f) (v)) (congrArg nI (by omega))) k_597 k_598 k_7 k_599 hdX6_of ⟨rfl, rfl⟩ ⟨Nat.le_of_ble_eq_true rfl, Nat.le_of_ble_eq_true rfl⟩ rfl rfl (Nat.le_of_ble_eq_true rfl) dX6_cancel_35 ?_
  refine zr_iald X (j := 32 * f + v + 7) 0 (μ (32 * f + v + 7)) dX6_cancel_38 (by omega) rfl rfl rfl (by omega) (by omega) (zcg (b := 32 * f + v + 7) (by omega) (rfl)) ?_
  refine zr_iloadn X 3 dX6_cancel_39 rfl ?_
  refine zr_icmp_ge X 46 dX6_cancel_40 (by decide) (fun q => absurd q (h)) (fun _ => ?_)
  refine zr_bipush X (-4) dX6_cancel_43 (by decide +kernel) ?_
  exact zr_iret X dX6_cancel_45 ⟨rfl, rfl⟩

set_option maxHeartbeats 4000000 in
set_option maxRecDepth 100000 in
theorem c_cancel_ok {l : Launch} {D : va_G} {tc : Nat → ClassId} {ad : Nat → Nat} {A : Nat → Prop} {tF tL tM : Nat} (E : zN 6 A ad) (μ : Nat → Int32) {m c k : Nat} (S : refS μ m c k) {f : Nat} (hf : f < c) {v : Nat} (hv : v ≤ 19) {t : Nat} (ht1 : 1 ≤ t) (ht9 : t ≤ 9999) (h : nI t ≤ μ (32 * f + v + 7)) : zMi l yX6_cancel cX6_cancel 4 (some .int) (zrm 5) (zK A D tc tF tL tM) A D vwCl tc ad 6 shR [.ref (ad (0)), .int (nI (f)), .int (nI (v)), .int (nI (t))] μ (fun r u => r = μ (32 * f + v + 7) - nI (t) ∧ u = (upd (upd (zrec μ (0) (k)) (32 * f + v + 7) (μ (32 * f + v + 7) - nI (t))) (v + 303) (μ (v + 303) + nI (t)))) := by
  refine zM_of RX6 [(0, .ref (ad (0))), (1, .int (nI (f))), (2, .int (nI (v))), (3, .int (nI (t)))] (zK_ok A D tc tF tL tM) E.1 E.2 owR_ok (by decide +kernel) rfl (Nat.le_of_ble_eq_true rfl) rfl ?_
  intro pP eE sS mM aS bL mT cO X
  obtain ⟨hm, hm2, hc, h8, hk, hk4⟩ := S
  refine zr_aloadn X 0 dX6_cancel_0 rfl ?_
  refine zr_iloadn X 1 dX6_cancel_1 rfl ?_
  refine zr_dVi (C := RX6) (ci := 6) [.int (nI (f))] [] X (zK_ok A D tc tF tL tM) (c_isFirm_t E μ (hc) h8 (by omega)) k_611 k_613 kp_2 k_7 k_614 hdX6_isFirm ⟨rfl, rfl⟩ ⟨Nat.le_of_ble_eq_true rfl, Nat.le_of_ble_eq_true rfl⟩ (by omega) rfl rfl rfl rfl (Nat.le_of_ble_eq_true rfl) dX6_cancel_2 ?_
  refine zr_if_eq X 15 dX6_cancel_5 (by decide) (fun q => absurd q (nI_ne0 (by omega) (by omega))) (fun _ => ?_)
  refine zr_iloadn X 2 dX6_cancel_8 rfl ?_
  refine zr_dSi [.int (nI (v))] [] X (zK_ok A D tc tF tL tM) (c_isVintage_t E μ (by omega) (by omega)) k_633 k_634 k_7 k_635 hdX6_isVintage ⟨rfl, rfl⟩ ⟨Nat.le_of_ble_eq_true rfl, Nat.le_of_ble_eq_true rfl⟩ rfl rfl (Nat.le_of_ble_eq_true rfl) dX6_cancel_9 ?_
  refine zr_if_ne X 17 dX6_cancel_12 (by decide) (fun _ => ?_) (fun q => absurd q (nI_ne0 (by omega) (by omega)))
  refine zr_iloadn X 3 dX6_cancel_17 rfl ?_
  refine zr_dSi [.int (nI (t))] [] X (zK_ok A D tc tF tL tM) (c_isTonnes_t E μ (by omega) (by omega)) k_615 k_616 k_7 k_617 hdX6_isTonnes ⟨rfl, rfl⟩ ⟨Nat.le_of_ble_eq_true rfl, Nat.le_of_ble_eq_true rfl⟩ rfl rfl (Nat.le_of_ble_eq_true rfl) dX6_cancel_18 ?_
  refine zr_if_ne X 27 dX6_cancel_21 (by decide) (fun _ => ?_) (fun q => absurd q (nI_ne0 (by omega) (by omega)))
  refine zr_aloadn X 0 dX6_cancel_27 rfl ?_
  refine zr_get X (ci := 6) (q := 0) (zR (1)) (.ref (ad (1))) dX6_cancel_28 (by omega) rfl rfl inX6 (by decide) rfl (rfl) rfl k_539 ?_
  refine zr_iloadn X 1 dX6_cancel_31 rfl ?_
  refine zr_iconst X (nI (0)) dX6_cancel_32 (by decide +kernel) ?_
  refine zr_iloadn X 2 dX6_cancel_33 rfl ?_
  refine zr_iadd X (nI (v)) dX6_cancel_34 ((nI_add _ _).trans (congrArg nI (by omega))) ?_
  refine zr_dSi [.int (nI (f)), .int (nI (v))] [.ref (ad (1))] X (zK_ok A D tc tF tL tM) (zM_i (z1 := nI (32 * f + v + 7)) (c_of E μ (f) (v)) (congrArg nI (by omega))) k_597 k_598 k_7 k_599 hdX6_of ⟨rfl, rfl⟩ ⟨Nat.le_of_ble_eq_true rfl, Nat.le_of_ble_eq_true rfl⟩ rfl rfl (Nat.le_of_ble_eq_true rfl) dX6_cancel_35 ?_
  refine zr_iald X (j := 32 * f + v + 7) 0 (μ (32 * f + v + 7)) dX6_cancel_38 (by omega) rfl rfl rfl (by omega) (by omega) (zcg (b := 32 * f + v + 7) (by omega) (rfl)) ?_
  refine zr_iloadn X 3 dX6_cancel_39 rfl ?_
  refine zr_icmp_ge X 46 dX6_cancel_40 (by decide) (fun _ => ?_) (fun q => absurd (h) q)
  refine zr_aloadn X 0 dX6_cancel_46 rfl ?_
  refine zr_iconst X (nI (0)) dX6_cancel_47 (by decide +kernel) ?_
  refine zr_dVv (C := RX6) (ci := 6) [.int (nI (0))] [] X (zK_ok A D tc tF tL tM) (c_record E μ (hk) hk4 (by omega)) k_589 k_591 kp_1 k_7 k_592 hdX6_record ⟨rfl, rfl⟩ ⟨Nat.le_of_ble_eq_true rfl, Nat.le_of_ble_eq_true rfl⟩ (by omega) rfl rfl rfl rfl (Nat.le_of_ble_eq_true rfl) dX6_cancel_48 ?_
  refine zr_aloadn X 0 dX6_cancel_51 rfl ?_
  refine zr_get X (ci := 6) (q := 0) (zR (1)) (.ref (ad (1))) dX6_cancel_52 (by omega) rfl rfl inX6 (by decide) rfl (rfl) rfl k_539 ?_
  refine zr_iloadn X 1 dX6_cancel_55 rfl ?_
  refine zr_iconst X (nI (0)) dX6_cancel_56 (by decide +kernel) ?_
  refine zr_iloadn X 2 dX6_cancel_57 rfl ?_
  refine zr_iadd X (nI (v)) dX6_cancel_58 ((nI_add _ _).trans (congrArg nI (by omega))) ?_
  refine zr_dSi [.int (nI (f)), .int (nI (v))] [.ref (ad (1))] X (zK_ok A D tc tF tL tM) (zM_i (z1 := nI (32 * f + v + 7)) (c_of E (zrec μ (0) (k)) (f) (v)) (congrArg nI (by omega))) k_597 k_598 k_7 k_599 hdX6_of ⟨rfl, rfl⟩ ⟨Nat.le_of_ble_eq_true rfl, Nat.le_of_ble_eq_true rfl⟩ rfl rfl (Nat.le_of_ble_eq_true rfl) dX6_cancel_59 ?_
  refine zr_dup2 X dX6_cancel_62 rfl rfl ?_
  refine zr_iald X (j := 32 * f + v + 7) 0 (μ (32 * f + v + 7)) dX6_cancel_63 (by omega) rfl rfl rfl (by omega) (by omega) (zcg (b := 32 * f + v + 7) (by omega) (zrec_out (by omega) (by omega) hk4)) ?_
  refine zr_iloadn X 3 dX6_cancel_64 rfl ?_
  refine zr_isub X ((μ (32 * f + v + 7)) - (nI (t))) dX6_cancel_65 rfl ?_
  refine zr_iast X (j := 32 * f + v + 7) 0 (32 * f + v + 7) dX6_cancel_66 (by omega) rfl rfl rfl (by omega) (by omega) (by omega) ?_
  refine zr_aloadn X 0 dX6_cancel_67 rfl ?_
  refine zr_get X (ci := 6) (q := 0) (zR (1)) (.ref (ad (1))) dX6_cancel_68 (by omega) rfl rfl inX6 (by decide) rfl (rfl) rfl k_539 ?_
  refine zr_sipush X (nI (303)) dX6_cancel_71 (by decide +kernel) ?_
  refine zr_iloadn X 2 dX6_cancel_74 rfl ?_
  refine zr_iadd X (nI (v + 303)) dX6_cancel_75 ((nI_add _ _).trans (congrArg nI (by omega))) ?_
  refine zr_dup2 X dX6_cancel_76 rfl rfl ?_
  refine zr_iald X (j := v + 303) 0 (μ (v + 303)) dX6_cancel_77 (by omega) rfl rfl rfl (by omega) (by omega) (zcg (b := v + 303) (by omega) ((pk_un (by omega)).trans (zrec_out (by omega) (by omega) hk4))) ?_
  refine zr_iloadn X 3 dX6_cancel_78 rfl ?_
  refine zr_iadd X ((μ (v + 303)) + (nI (t))) dX6_cancel_79 rfl ?_
  refine zr_iast X (j := v + 303) 0 (v + 303) dX6_cancel_80 (by omega) rfl rfl rfl (by omega) (by omega) (by omega) ?_
  refine zr_aloadn X 0 dX6_cancel_81 rfl ?_
  refine zr_get X (ci := 6) (q := 0) (zR (1)) (.ref (ad (1))) dX6_cancel_82 (by omega) rfl rfl inX6 (by decide) rfl (rfl) rfl k_539 ?_
  refine zr_iloadn X 1 dX6_cancel_85 rfl ?_
  refine zr_iconst X (nI (0)) dX6_cancel_86 (by decide +kernel) ?_
  refine zr_iloadn X 2 dX6_cancel_87 rfl ?_
  refine zr_iadd X (nI (v)) dX6_cancel_88 ((nI_add _ _).trans (congrArg nI (by omega))) ?_
  refine zr_dSi [.int (nI (f)), .int (nI (v))] [.ref (ad (1))] X (zK_ok A D tc tF tL tM) (zM_i (z1 := nI (32 * f + v + 7)) (c_of E (upd (upd (zrec μ (0) (k)) (32 * f + v + 7) ((μ (32 * f + v + 7)) - (nI (t)))) (v + 303) ((μ (v + 303)) + (nI (t)))) (f) (v)) (congrArg nI (by omega))) k_597 k_598 k_7 k_599 hdX6_of ⟨rfl, rfl⟩ ⟨Nat.le_of_ble_eq_true rfl, Nat.le_of_ble_eq_true rfl⟩ rfl rfl (Nat.le_of_ble_eq_true rfl) dX6_cancel_89 ?_
  refine zr_iald X (j := 32 * f + v + 7) 0 ((μ (32 * f + v + 7)) - (nI (t))) dX6_cancel_92 (by omega) rfl rfl rfl (by omega) (by omega) (zcg (b := 32 * f + v + 7) (by omega) ((pk_un (by omega)).trans (pk_us))) ?_
  exact zr_iret X dX6_cancel_93 ⟨rfl, rfl⟩

set_option maxHeartbeats 4000000 in
set_option maxRecDepth 100000 in
theorem c_report_u {l : Launch} {D : va_G} {tc : Nat → ClassId} {ad : Nat → Nat} {A : Nat → Prop} {tF tL tM : Nat} (E : zN 6 A ad) (μ : Nat → Int32) {m c k : Nat} (S : refS μ m c k) {x : Int32} (hx : ¬ zfm x c) (z : Int32)  : zMi l yX6_report cX6_report 3 (some .int) (zrm 5) (zK A D tc tF tL tM) A D vwCl tc ad 6 shR [.ref (ad (0)), .int (x), .int (z)] μ (fun r u => r = -1 ∧ u = μ) := by
  refine zM_of RX6 [(0, .ref (ad (0))), (1, .int (x)), (2, .int (z))] (zK_ok A D tc tF tL tM) E.1 E.2 owR_ok (by decide +kernel) rfl (Nat.le_of_ble_eq_true rfl) rfl ?_
  intro pP eE sS mM aS bL mT cO X
  obtain ⟨hm, hm2, hc, h8, hk, hk4⟩ := S
  refine zr_aloadn X 0 dX6_report_0 rfl ?_
  refine zr_iloadn X 1 dX6_report_1 rfl ?_
  refine zr_dVi (C := RX6) (ci := 6) [.int (x)] [] X (zK_ok A D tc tF tL tM) (c_isFirm_f E μ (hc) h8 hx) k_611 k_613 kp_2 k_7 k_614 hdX6_isFirm ⟨rfl, rfl⟩ ⟨Nat.le_of_ble_eq_true rfl, Nat.le_of_ble_eq_true rfl⟩ (by omega) rfl rfl rfl rfl (Nat.le_of_ble_eq_true rfl) dX6_report_2 ?_
  refine zr_if_ne X 10 dX6_report_5 (by decide) (fun q => absurd (zq_eq0 (by omega)) q) (fun _ => ?_)
  refine zr_iconst X (-1) dX6_report_8 (by decide +kernel) ?_
  exact zr_iret X dX6_report_9 ⟨rfl, rfl⟩

set_option maxHeartbeats 4000000 in
set_option maxRecDepth 100000 in
theorem c_report_b {l : Launch} {D : va_G} {tc : Nat → ClassId} {ad : Nat → Nat} {A : Nat → Prop} {tF tL tM : Nat} (E : zN 6 A ad) (μ : Nat → Int32) {m c k : Nat} (S : refS μ m c k) {f : Nat} (hf : f < c) {z : Int32} (hx : ¬ zin z 1 9999)  : zMi l yX6_report cX6_report 3 (some .int) (zrm 5) (zK A D tc tF tL tM) A D vwCl tc ad 6 shR [.ref (ad (0)), .int (nI (f)), .int (z)] μ (fun r u => r = -2 ∧ u = μ) := by
  refine zM_of RX6 [(0, .ref (ad (0))), (1, .int (nI (f))), (2, .int (z))] (zK_ok A D tc tF tL tM) E.1 E.2 owR_ok (by decide +kernel) rfl (Nat.le_of_ble_eq_true rfl) rfl ?_
  intro pP eE sS mM aS bL mT cO X
  obtain ⟨hm, hm2, hc, h8, hk, hk4⟩ := S
  refine zr_aloadn X 0 dX6_report_0 rfl ?_
  refine zr_iloadn X 1 dX6_report_1 rfl ?_
  refine zr_dVi (C := RX6) (ci := 6) [.int (nI (f))] [] X (zK_ok A D tc tF tL tM) (c_isFirm_t E μ (hc) h8 (by omega)) k_611 k_613 kp_2 k_7 k_614 hdX6_isFirm ⟨rfl, rfl⟩ ⟨Nat.le_of_ble_eq_true rfl, Nat.le_of_ble_eq_true rfl⟩ (by omega) rfl rfl rfl rfl (Nat.le_of_ble_eq_true rfl) dX6_report_2 ?_
  refine zr_if_ne X 10 dX6_report_5 (by decide) (fun _ => ?_) (fun q => absurd q (nI_ne0 (by omega) (by omega)))
  refine zr_iloadn X 2 dX6_report_10 rfl ?_
  refine zr_dSi [.int (z)] [] X (zK_ok A D tc tF tL tM) (c_isTonnes_f E μ hx) k_615 k_616 k_7 k_617 hdX6_isTonnes ⟨rfl, rfl⟩ ⟨Nat.le_of_ble_eq_true rfl, Nat.le_of_ble_eq_true rfl⟩ rfl rfl (Nat.le_of_ble_eq_true rfl) dX6_report_11 ?_
  refine zr_if_ne X 20 dX6_report_14 (by decide) (fun q => absurd (zq_eq0 (by omega)) q) (fun _ => ?_)
  refine zr_bipush X (-2) dX6_report_17 (by decide +kernel) ?_
  exact zr_iret X dX6_report_19 ⟨rfl, rfl⟩

set_option maxHeartbeats 4000000 in
set_option maxRecDepth 100000 in
theorem c_report_f {l : Launch} {D : va_G} {tc : Nat → ClassId} {ad : Nat → Nat} {A : Nat → Prop} {tF tL tM : Nat} (E : zN 6 A ad) (μ : Nat → Int32) {m c k : Nat} (S : refS μ m c k) {f : Nat} (hf : f < c) {t : Nat} (ht1 : 1 ≤ t) (ht9 : t ≤ 9999) (h : ¬ μ (32 * f + 33) + μ (32 * f + 34) + nI t ≤ nI 9999) : zMi l yX6_report cX6_report 3 (some .int) (zrm 5) (zK A D tc tF tL tM) A D vwCl tc ad 6 shR [.ref (ad (0)), .int (nI (f)), .int (nI (t))] μ (fun r u => r = -3 ∧ u = μ) := by
  refine zM_of RX6 [(0, .ref (ad (0))), (1, .int (nI (f))), (2, .int (nI (t)))] (zK_ok A D tc tF tL tM) E.1 E.2 owR_ok (by decide +kernel) rfl (Nat.le_of_ble_eq_true rfl) rfl ?_
  intro pP eE sS mM aS bL mT cO X
  obtain ⟨hm, hm2, hc, h8, hk, hk4⟩ := S
  refine zr_aloadn X 0 dX6_report_0 rfl ?_
  refine zr_iloadn X 1 dX6_report_1 rfl ?_
  refine zr_dVi (C := RX6) (ci := 6) [.int (nI (f))] [] X (zK_ok A D tc tF tL tM) (c_isFirm_t E μ (hc) h8 (by omega)) k_611 k_613 kp_2 k_7 k_614 hdX6_isFirm ⟨rfl, rfl⟩ ⟨Nat.le_of_ble_eq_true rfl, Nat.le_of_ble_eq_true rfl⟩ (by omega) rfl rfl rfl rfl (Nat.le_of_ble_eq_true rfl) dX6_report_2 ?_
  refine zr_if_ne X 10 dX6_report_5 (by decide) (fun _ => ?_) (fun q => absurd q (nI_ne0 (by omega) (by omega)))
  refine zr_iloadn X 2 dX6_report_10 rfl ?_
  refine zr_dSi [.int (nI (t))] [] X (zK_ok A D tc tF tL tM) (c_isTonnes_t E μ (by omega) (by omega)) k_615 k_616 k_7 k_617 hdX6_isTonnes ⟨rfl, rfl⟩ ⟨Nat.le_of_ble_eq_true rfl, Nat.le_of_ble_eq_true rfl⟩ rfl rfl (Nat.le_of_ble_eq_true rfl) dX6_report_11 ?_
  refine zr_if_ne X 20 dX6_report_14 (by decide) (fun _ => ?_) (fun q => absurd q (nI_ne0 (by omega) (by omega)))
  refine zr_aloadn X 0 dX6_report_20 rfl ?_
  refine zr_get X (ci := 6) (q := 0) (zR (1)) (.ref (ad (1))) dX6_report_21 (by omega) rfl rfl inX6 (by decide) rfl (rfl) rfl k_539 ?_
  refine zr_iloadn X 1 dX6_report_24 rfl ?_
  refine zr_bipush X (nI (26)) dX6_report_25 (by decide +kernel) ?_
  refine zr_dSi [.int (nI (f)), .int (nI (26))] [.ref (ad (1))] X (zK_ok A D tc tF tL tM) (zM_i (z1 := nI (32 * f + 33)) (c_of E μ (f) (26)) (congrArg nI (by omega))) k_597 k_598 k_7 k_599 hdX6_of ⟨rfl, rfl⟩ ⟨Nat.le_of_ble_eq_true rfl, Nat.le_of_ble_eq_true rfl⟩ rfl rfl (Nat.le_of_ble_eq_true rfl) dX6_report_27 ?_
  refine zr_iald X (j := 32 * f + 33) 0 (μ (32 * f + 33)) dX6_report_30 (by omega) rfl rfl rfl (by omega) (by omega) (zcg (b := 32 * f + 33) (by omega) (rfl)) ?_
  refine zr_aloadn X 0 dX6_report_31 rfl ?_
  refine zr_get X (ci := 6) (q := 0) (zR (1)) (.ref (ad (1))) dX6_report_32 (by omega) rfl rfl inX6 (by decide) rfl (rfl) rfl k_539 ?_
  refine zr_iloadn X 1 dX6_report_35 rfl ?_
  refine zr_bipush X (nI (27)) dX6_report_36 (by decide +kernel) ?_
  refine zr_dSi [.int (nI (f)), .int (nI (27))] [.ref (ad (1)), .int (μ (32 * f + 33))] X (zK_ok A D tc tF tL tM) (zM_i (z1 := nI (32 * f + 34)) (c_of E μ (f) (27)) (congrArg nI (by omega))) k_597 k_598 k_7 k_599 hdX6_of ⟨rfl, rfl⟩ ⟨Nat.le_of_ble_eq_true rfl, Nat.le_of_ble_eq_true rfl⟩ rfl rfl (Nat.le_of_ble_eq_true rfl) dX6_report_38 ?_
  refine zr_iald X (j := 32 * f + 34) 0 (μ (32 * f + 34)) dX6_report_41 (by omega) rfl rfl rfl (by omega) (by omega) (zcg (b := 32 * f + 34) (by omega) (rfl)) ?_
  refine zr_iadd X ((μ (32 * f + 33)) + (μ (32 * f + 34))) dX6_report_42 rfl ?_
  refine zr_iloadn X 2 dX6_report_43 rfl ?_
  refine zr_iadd X (((μ (32 * f + 33)) + (μ (32 * f + 34))) + (nI (t))) dX6_report_44 rfl ?_
  refine zr_sipush X (nI (9999)) dX6_report_45 (by decide +kernel) ?_
  refine zr_icmp_le X 54 dX6_report_48 (by decide) (fun q => absurd q (h)) (fun _ => ?_)
  refine zr_bipush X (-3) dX6_report_51 (by decide +kernel) ?_
  exact zr_iret X dX6_report_53 ⟨rfl, rfl⟩

set_option maxHeartbeats 4000000 in
set_option maxRecDepth 100000 in
theorem c_report_ok {l : Launch} {D : va_G} {tc : Nat → ClassId} {ad : Nat → Nat} {A : Nat → Prop} {tF tL tM : Nat} (E : zN 6 A ad) (μ : Nat → Int32) {m c k : Nat} (S : refS μ m c k) {f : Nat} (hf : f < c) {t : Nat} (ht1 : 1 ≤ t) (ht9 : t ≤ 9999) (h : μ (32 * f + 33) + μ (32 * f + 34) + nI t ≤ nI 9999) : zMi l yX6_report cX6_report 3 (some .int) (zrm 5) (zK A D tc tF tL tM) A D vwCl tc ad 6 shR [.ref (ad (0)), .int (nI (f)), .int (nI (t))] μ (fun r u => r = μ (32 * f + 33) + nI (t) ∧ u = (upd (zrec μ (0) (k)) (32 * f + 33) (μ (32 * f + 33) + nI (t)))) := by
  refine zM_of RX6 [(0, .ref (ad (0))), (1, .int (nI (f))), (2, .int (nI (t)))] (zK_ok A D tc tF tL tM) E.1 E.2 owR_ok (by decide +kernel) rfl (Nat.le_of_ble_eq_true rfl) rfl ?_
  intro pP eE sS mM aS bL mT cO X
  obtain ⟨hm, hm2, hc, h8, hk, hk4⟩ := S
  refine zr_aloadn X 0 dX6_report_0 rfl ?_
  refine zr_iloadn X 1 dX6_report_1 rfl ?_
  refine zr_dVi (C := RX6) (ci := 6) [.int (nI (f))] [] X (zK_ok A D tc tF tL tM) (c_isFirm_t E μ (hc) h8 (by omega)) k_611 k_613 kp_2 k_7 k_614 hdX6_isFirm ⟨rfl, rfl⟩ ⟨Nat.le_of_ble_eq_true rfl, Nat.le_of_ble_eq_true rfl⟩ (by omega) rfl rfl rfl rfl (Nat.le_of_ble_eq_true rfl) dX6_report_2 ?_
  refine zr_if_ne X 10 dX6_report_5 (by decide) (fun _ => ?_) (fun q => absurd q (nI_ne0 (by omega) (by omega)))
  refine zr_iloadn X 2 dX6_report_10 rfl ?_
  refine zr_dSi [.int (nI (t))] [] X (zK_ok A D tc tF tL tM) (c_isTonnes_t E μ (by omega) (by omega)) k_615 k_616 k_7 k_617 hdX6_isTonnes ⟨rfl, rfl⟩ ⟨Nat.le_of_ble_eq_true rfl, Nat.le_of_ble_eq_true rfl⟩ rfl rfl (Nat.le_of_ble_eq_true rfl) dX6_report_11 ?_
  refine zr_if_ne X 20 dX6_report_14 (by decide) (fun _ => ?_) (fun q => absurd q (nI_ne0 (by omega) (by omega)))
  refine zr_aloadn X 0 dX6_report_20 rfl ?_
  refine zr_get X (ci := 6) (q := 0) (zR (1)) (.ref (ad (1))) dX6_report_21 (by omega) rfl rfl inX6 (by decide) rfl (rfl) rfl k_539 ?_
  refine zr_iloadn X 1 dX6_report_24 rfl ?_
  refine zr_bipush X (nI (26)) dX6_report_25 (by decide +kernel) ?_
  refine zr_dSi [.int (nI (f)), .int (nI (26))] [.ref (ad (1))] X (zK_ok A D tc tF tL tM) (zM_i (z1 := nI (32 * f + 33)) (c_of E μ (f) (26)) (congrArg nI (by omega))) k_597 k_598 k_7 k_599 hdX6_of ⟨rfl, rfl⟩ ⟨Nat.le_of_ble_eq_true rfl, Nat.le_of_ble_eq_true rfl⟩ rfl rfl (Nat.le_of_ble_eq_true rfl) dX6_report_27 ?_
  refine zr_iald X (j := 32 * f + 33) 0 (μ (32 * f + 33)) dX6_report_30 (by omega) rfl rfl rfl (by omega) (by omega) (zcg (b := 32 * f + 33) (by omega) (rfl)) ?_
  refine zr_aloadn X 0 dX6_report_31 rfl ?_
  refine zr_get X (ci := 6) (q := 0) (zR (1)) (.ref (ad (1))) dX6_report_32 (by omega) rfl rfl inX6 (by decide) rfl (rfl) rfl k_539 ?_
  refine zr_iloadn X 1 dX6_report_35 rfl ?_
  refine zr_bipush X (nI (27)) dX6_report_36 (by decide +kernel) ?_
  refine zr_dSi [.int (nI (f)), .int (nI (27))] [.ref (ad (1)), .int (μ (32 * f + 33))] X (zK_ok A D tc tF tL tM) (zM_i (z1 := nI (32 * f + 34)) (c_of E μ (f) (27)) (congrArg nI (by omega))) k_597 k_598 k_7 k_599 hdX6_of ⟨rfl, rfl⟩ ⟨Nat.le_of_ble_eq_true rfl, Nat.le_of_ble_eq_true rfl⟩ rfl rfl (Nat.le_of_ble_eq_true rfl) dX6_report_38 ?_
  refine zr_iald X (j := 32 * f + 34) 0 (μ (32 * f + 34)) dX6_report_41 (by omega) rfl rfl rfl (by omega) (by omega) (zcg (b := 32 * f + 34) (by omega) (rfl)) ?_
  refine zr_iadd X ((μ (32 * f + 33)) + (μ (32 * f + 34))) dX6_report_42 rfl ?_
  refine zr_iloadn X 2 dX6_report_43 rfl ?_
  refine zr_iadd X (((μ (32 * f + 33)) + (μ (32 * f + 34))) + (nI (t))) dX6_report_44 rfl ?_
  refine zr_sipush X (nI (9999)) dX6_report_45 (by decide +kernel) ?_
  refine zr_icmp_le X 54 dX6_report_48 (by decide) (fun _ => ?_) (fun q => absurd (h) q)
  refine zr_aloadn X 0 dX6_report_54 rfl ?_
  refine zr_iconst X (nI (0)) dX6_report_55 (by decide +kernel) ?_
  refine zr_dVv (C := RX6) (ci := 6) [.int (nI (0))] [] X (zK_ok A D tc tF tL tM) (c_record E μ (hk) hk4 (by omega)) k_589 k_591 kp_1 k_7 k_592 hdX6_record ⟨rfl, rfl⟩ ⟨Nat.le_of_ble_eq_true rfl, Nat.le_of_ble_eq_true rfl⟩ (by omega) rfl rfl rfl rfl (Nat.le_of_ble_eq_true rfl) dX6_report_56 ?_
  refine zr_aloadn X 0 dX6_report_59 rfl ?_
  refine zr_get X (ci := 6) (q := 0) (zR (1)) (.ref (ad (1))) dX6_report_60 (by omega) rfl rfl inX6 (by decide) rfl (rfl) rfl k_539 ?_
  refine zr_iloadn X 1 dX6_report_63 rfl ?_
  refine zr_bipush X (nI (26)) dX6_report_64 (by decide +kernel) ?_
  refine zr_dSi [.int (nI (f)), .int (nI (26))] [.ref (ad (1))] X (zK_ok A D tc tF tL tM) (zM_i (z1 := nI (32 * f + 33)) (c_of E (zrec μ (0) (k)) (f) (26)) (congrArg nI (by omega))) k_597 k_598 k_7 k_599 hdX6_of ⟨rfl, rfl⟩ ⟨Nat.le_of_ble_eq_true rfl, Nat.le_of_ble_eq_true rfl⟩ rfl rfl (Nat.le_of_ble_eq_true rfl) dX6_report_66 ?_
  refine zr_dup2 X dX6_report_69 rfl rfl ?_
  refine zr_iald X (j := 32 * f + 33) 0 (μ (32 * f + 33)) dX6_report_70 (by omega) rfl rfl rfl (by omega) (by omega) (zcg (b := 32 * f + 33) (by omega) (zrec_out (by omega) (by omega) hk4)) ?_
  refine zr_iloadn X 2 dX6_report_71 rfl ?_
  refine zr_iadd X ((μ (32 * f + 33)) + (nI (t))) dX6_report_72 rfl ?_
  refine zr_iast X (j := 32 * f + 33) 0 (32 * f + 33) dX6_report_73 (by omega) rfl rfl rfl (by omega) (by omega) (by omega) ?_
  refine zr_aloadn X 0 dX6_report_74 rfl ?_
  refine zr_get X (ci := 6) (q := 0) (zR (1)) (.ref (ad (1))) dX6_report_75 (by omega) rfl rfl inX6 (by decide) rfl (rfl) rfl k_539 ?_
  refine zr_iloadn X 1 dX6_report_78 rfl ?_
  refine zr_bipush X (nI (26)) dX6_report_79 (by decide +kernel) ?_
  refine zr_dSi [.int (nI (f)), .int (nI (26))] [.ref (ad (1))] X (zK_ok A D tc tF tL tM) (zM_i (z1 := nI (32 * f + 33)) (c_of E (upd (zrec μ (0) (k)) (32 * f + 33) ((μ (32 * f + 33)) + (nI (t)))) (f) (26)) (congrArg nI (by omega))) k_597 k_598 k_7 k_599 hdX6_of ⟨rfl, rfl⟩ ⟨Nat.le_of_ble_eq_true rfl, Nat.le_of_ble_eq_true rfl⟩ rfl rfl (Nat.le_of_ble_eq_true rfl) dX6_report_81 ?_
  refine zr_iald X (j := 32 * f + 33) 0 ((μ (32 * f + 33)) + (nI (t))) dX6_report_84 (by omega) rfl rfl rfl (by omega) (by omega) (zcg (b := 32 * f + 33) (by omega) (pk_us)) ?_
  exact zr_iret X dX6_report_85 ⟨rfl, rfl⟩

set_option maxHeartbeats 4000000 in
set_option maxRecDepth 100000 in
theorem c_verify_u {l : Launch} {D : va_G} {tc : Nat → ClassId} {ad : Nat → Nat} {A : Nat → Prop} {tF tL tM : Nat} (E : zN 6 A ad) (μ : Nat → Int32) {m c k : Nat} (S : refS μ m c k) {x : Int32} (hx : ¬ zfm x c)  : zMi l yX6_verify cX6_verify 2 (some .int) (zrm 5) (zK A D tc tF tL tM) A D vwCl tc ad 6 shR [.ref (ad (0)), .int (x)] μ (fun r u => r = -1 ∧ u = μ) := by
  refine zM_of RX6 [(0, .ref (ad (0))), (1, .int (x))] (zK_ok A D tc tF tL tM) E.1 E.2 owR_ok (by decide +kernel) rfl (Nat.le_of_ble_eq_true rfl) rfl ?_
  intro pP eE sS mM aS bL mT cO X
  obtain ⟨hm, hm2, hc, h8, hk, hk4⟩ := S
  refine zr_aloadn X 0 dX6_verify_0 rfl ?_
  refine zr_iloadn X 1 dX6_verify_1 rfl ?_
  refine zr_dVi (C := RX6) (ci := 6) [.int (x)] [] X (zK_ok A D tc tF tL tM) (c_isFirm_f E μ (hc) h8 hx) k_611 k_613 kp_2 k_7 k_614 hdX6_isFirm ⟨rfl, rfl⟩ ⟨Nat.le_of_ble_eq_true rfl, Nat.le_of_ble_eq_true rfl⟩ (by omega) rfl rfl rfl rfl (Nat.le_of_ble_eq_true rfl) dX6_verify_2 ?_
  refine zr_if_ne X 10 dX6_verify_5 (by decide) (fun q => absurd (zq_eq0 (by omega)) q) (fun _ => ?_)
  refine zr_iconst X (-1) dX6_verify_8 (by decide +kernel) ?_
  exact zr_iret X dX6_verify_9 ⟨rfl, rfl⟩

set_option maxHeartbeats 4000000 in
set_option maxRecDepth 100000 in
theorem c_verify_n {l : Launch} {D : va_G} {tc : Nat → ClassId} {ad : Nat → Nat} {A : Nat → Prop} {tF tL tM : Nat} (E : zN 6 A ad) (μ : Nat → Int32) {m c k : Nat} (S : refS μ m c k) {f : Nat} (hf : f < c) (h : μ (32 * f + 33) = 0) : zMi l yX6_verify cX6_verify 2 (some .int) (zrm 5) (zK A D tc tF tL tM) A D vwCl tc ad 6 shR [.ref (ad (0)), .int (nI (f))] μ (fun r u => r = -5 ∧ u = μ) := by
  refine zM_of RX6 [(0, .ref (ad (0))), (1, .int (nI (f)))] (zK_ok A D tc tF tL tM) E.1 E.2 owR_ok (by decide +kernel) rfl (Nat.le_of_ble_eq_true rfl) rfl ?_
  intro pP eE sS mM aS bL mT cO X
  obtain ⟨hm, hm2, hc, h8, hk, hk4⟩ := S
  refine zr_aloadn X 0 dX6_verify_0 rfl ?_
  refine zr_iloadn X 1 dX6_verify_1 rfl ?_
  refine zr_dVi (C := RX6) (ci := 6) [.int (nI (f))] [] X (zK_ok A D tc tF tL tM) (c_isFirm_t E μ (hc) h8 (by omega)) k_611 k_613 kp_2 k_7 k_614 hdX6_isFirm ⟨rfl, rfl⟩ ⟨Nat.le_of_ble_eq_true rfl, Nat.le_of_ble_eq_true rfl⟩ (by omega) rfl rfl rfl rfl (Nat.le_of_ble_eq_true rfl) dX6_verify_2 ?_
  refine zr_if_ne X 10 dX6_verify_5 (by decide) (fun _ => ?_) (fun q => absurd q (nI_ne0 (by omega) (by omega)))
  refine zr_aloadn X 0 dX6_verify_10 rfl ?_
  refine zr_get X (ci := 6) (q := 0) (zR (1)) (.ref (ad (1))) dX6_verify_11 (by omega) rfl rfl inX6 (by decide) rfl (rfl) rfl k_539 ?_
  refine zr_iloadn X 1 dX6_verify_14 rfl ?_
  refine zr_bipush X (nI (26)) dX6_verify_15 (by decide +kernel) ?_
  refine zr_dSi [.int (nI (f)), .int (nI (26))] [.ref (ad (1))] X (zK_ok A D tc tF tL tM) (zM_i (z1 := nI (32 * f + 33)) (c_of E μ (f) (26)) (congrArg nI (by omega))) k_597 k_598 k_7 k_599 hdX6_of ⟨rfl, rfl⟩ ⟨Nat.le_of_ble_eq_true rfl, Nat.le_of_ble_eq_true rfl⟩ rfl rfl (Nat.le_of_ble_eq_true rfl) dX6_verify_17 ?_
  refine zr_iald X (j := 32 * f + 33) 0 (μ (32 * f + 33)) dX6_verify_20 (by omega) rfl rfl rfl (by omega) (by omega) (zcg (b := 32 * f + 33) (by omega) (rfl)) ?_
  refine zr_if_ne X 27 dX6_verify_21 (by decide) (fun q => absurd (h) q) (fun _ => ?_)
  refine zr_bipush X (-5) dX6_verify_24 (by decide +kernel) ?_
  exact zr_iret X dX6_verify_26 ⟨rfl, rfl⟩

set_option maxHeartbeats 4000000 in
set_option maxRecDepth 100000 in
theorem c_verify_ok {l : Launch} {D : va_G} {tc : Nat → ClassId} {ad : Nat → Nat} {A : Nat → Prop} {tF tL tM : Nat} (E : zN 6 A ad) (μ : Nat → Int32) {m c k : Nat} (S : refS μ m c k) {f : Nat} (hf : f < c) (h : ¬ μ (32 * f + 33) = 0) : zMi l yX6_verify cX6_verify 2 (some .int) (zrm 5) (zK A D tc tF tL tM) A D vwCl tc ad 6 shR [.ref (ad (0)), .int (nI (f))] μ (fun r u => r = μ (32 * f + 34) + μ (32 * f + 33) ∧ u = (upd (upd (zrec μ (0) (k)) (32 * f + 34) (μ (32 * f + 34) + μ (32 * f + 33))) (32 * f + 33) (nI (0)))) := by
  refine zM_of RX6 [(0, .ref (ad (0))), (1, .int (nI (f)))] (zK_ok A D tc tF tL tM) E.1 E.2 owR_ok (by decide +kernel) rfl (Nat.le_of_ble_eq_true rfl) rfl ?_
  intro pP eE sS mM aS bL mT cO X
  obtain ⟨hm, hm2, hc, h8, hk, hk4⟩ := S
  refine zr_aloadn X 0 dX6_verify_0 rfl ?_
  refine zr_iloadn X 1 dX6_verify_1 rfl ?_
  refine zr_dVi (C := RX6) (ci := 6) [.int (nI (f))] [] X (zK_ok A D tc tF tL tM) (c_isFirm_t E μ (hc) h8 (by omega)) k_611 k_613 kp_2 k_7 k_614 hdX6_isFirm ⟨rfl, rfl⟩ ⟨Nat.le_of_ble_eq_true rfl, Nat.le_of_ble_eq_true rfl⟩ (by omega) rfl rfl rfl rfl (Nat.le_of_ble_eq_true rfl) dX6_verify_2 ?_
  refine zr_if_ne X 10 dX6_verify_5 (by decide) (fun _ => ?_) (fun q => absurd q (nI_ne0 (by omega) (by omega)))
  refine zr_aloadn X 0 dX6_verify_10 rfl ?_
  refine zr_get X (ci := 6) (q := 0) (zR (1)) (.ref (ad (1))) dX6_verify_11 (by omega) rfl rfl inX6 (by decide) rfl (rfl) rfl k_539 ?_
  refine zr_iloadn X 1 dX6_verify_14 rfl ?_
  refine zr_bipush X (nI (26)) dX6_verify_15 (by decide +kernel) ?_
  refine zr_dSi [.int (nI (f)), .int (nI (26))] [.ref (ad (1))] X (zK_ok A D tc tF tL tM) (zM_i (z1 := nI (32 * f + 33)) (c_of E μ (f) (26)) (congrArg nI (by omega))) k_597 k_598 k_7 k_599 hdX6_of ⟨rfl, rfl⟩ ⟨Nat.le_of_ble_eq_true rfl, Nat.le_of_ble_eq_true rfl⟩ rfl rfl (Nat.le_of_ble_eq_true rfl) dX6_verify_17 ?_
  refine zr_iald X (j := 32 * f + 33) 0 (μ (32 * f + 33)) dX6_verify_20 (by omega) rfl rfl rfl (by omega) (by omega) (zcg (b := 32 * f + 33) (by omega) (rfl)) ?_
  refine zr_if_ne X 27 dX6_verify_21 (by decide) (fun _ => ?_) (fun q => absurd q (h))
  refine zr_aloadn X 0 dX6_verify_27 rfl ?_
  refine zr_iconst X (nI (0)) dX6_verify_28 (by decide +kernel) ?_
  refine zr_dVv (C := RX6) (ci := 6) [.int (nI (0))] [] X (zK_ok A D tc tF tL tM) (c_record E μ (hk) hk4 (by omega)) k_589 k_591 kp_1 k_7 k_592 hdX6_record ⟨rfl, rfl⟩ ⟨Nat.le_of_ble_eq_true rfl, Nat.le_of_ble_eq_true rfl⟩ (by omega) rfl rfl rfl rfl (Nat.le_of_ble_eq_true rfl) dX6_verify_29 ?_
  refine zr_aloadn X 0 dX6_verify_32 rfl ?_
  refine zr_get X (ci := 6) (q := 0) (zR (1)) (.ref (ad (1))) dX6_verify_33 (by omega) rfl rfl inX6 (by decide) rfl (rfl) rfl k_539 ?_
  refine zr_iloadn X 1 dX6_verify_36 rfl ?_
  refine zr_bipush X (nI (27)) dX6_verify_37 (by decide +kernel) ?_
  refine zr_dSi [.int (nI (f)), .int (nI (27))] [.ref (ad (1))] X (zK_ok A D tc tF tL tM) (zM_i (z1 := nI (32 * f + 34)) (c_of E (zrec μ (0) (k)) (f) (27)) (congrArg nI (by omega))) k_597 k_598 k_7 k_599 hdX6_of ⟨rfl, rfl⟩ ⟨Nat.le_of_ble_eq_true rfl, Nat.le_of_ble_eq_true rfl⟩ rfl rfl (Nat.le_of_ble_eq_true rfl) dX6_verify_39 ?_
  refine zr_dup2 X dX6_verify_42 rfl rfl ?_
  refine zr_iald X (j := 32 * f + 34) 0 (μ (32 * f + 34)) dX6_verify_43 (by omega) rfl rfl rfl (by omega) (by omega) (zcg (b := 32 * f + 34) (by omega) (zrec_out (by omega) (by omega) hk4)) ?_
  refine zr_aloadn X 0 dX6_verify_44 rfl ?_
  refine zr_get X (ci := 6) (q := 0) (zR (1)) (.ref (ad (1))) dX6_verify_45 (by omega) rfl rfl inX6 (by decide) rfl (rfl) rfl k_539 ?_
  refine zr_iloadn X 1 dX6_verify_48 rfl ?_
  refine zr_bipush X (nI (26)) dX6_verify_49 (by decide +kernel) ?_
  refine zr_dSi [.int (nI (f)), .int (nI (26))] [.ref (ad (1)), .int (μ (32 * f + 34)), .int (nI (32 * f + 34)), .ref (ad (1))] X (zK_ok A D tc tF tL tM) (zM_i (z1 := nI (32 * f + 33)) (c_of E (zrec μ (0) (k)) (f) (26)) (congrArg nI (by omega))) k_597 k_598 k_7 k_599 hdX6_of ⟨rfl, rfl⟩ ⟨Nat.le_of_ble_eq_true rfl, Nat.le_of_ble_eq_true rfl⟩ rfl rfl (Nat.le_of_ble_eq_true rfl) dX6_verify_51 ?_
  refine zr_iald X (j := 32 * f + 33) 0 (μ (32 * f + 33)) dX6_verify_54 (by omega) rfl rfl rfl (by omega) (by omega) (zcg (b := 32 * f + 33) (by omega) (zrec_out (by omega) (by omega) hk4)) ?_
  refine zr_iadd X ((μ (32 * f + 34)) + (μ (32 * f + 33))) dX6_verify_55 rfl ?_
  refine zr_iast X (j := 32 * f + 34) 0 (32 * f + 34) dX6_verify_56 (by omega) rfl rfl rfl (by omega) (by omega) (by omega) ?_
  refine zr_aloadn X 0 dX6_verify_57 rfl ?_
  refine zr_get X (ci := 6) (q := 0) (zR (1)) (.ref (ad (1))) dX6_verify_58 (by omega) rfl rfl inX6 (by decide) rfl (rfl) rfl k_539 ?_
  refine zr_iloadn X 1 dX6_verify_61 rfl ?_
  refine zr_bipush X (nI (26)) dX6_verify_62 (by decide +kernel) ?_
  refine zr_dSi [.int (nI (f)), .int (nI (26))] [.ref (ad (1))] X (zK_ok A D tc tF tL tM) (zM_i (z1 := nI (32 * f + 33)) (c_of E (upd (zrec μ (0) (k)) (32 * f + 34) ((μ (32 * f + 34)) + (μ (32 * f + 33)))) (f) (26)) (congrArg nI (by omega))) k_597 k_598 k_7 k_599 hdX6_of ⟨rfl, rfl⟩ ⟨Nat.le_of_ble_eq_true rfl, Nat.le_of_ble_eq_true rfl⟩ rfl rfl (Nat.le_of_ble_eq_true rfl) dX6_verify_64 ?_
  refine zr_iconst X (nI (0)) dX6_verify_67 (by decide +kernel) ?_
  refine zr_iast X (j := 32 * f + 33) 0 (32 * f + 33) dX6_verify_68 (by omega) rfl rfl rfl (by omega) (by omega) (by omega) ?_
  refine zr_aloadn X 0 dX6_verify_69 rfl ?_
  refine zr_get X (ci := 6) (q := 0) (zR (1)) (.ref (ad (1))) dX6_verify_70 (by omega) rfl rfl inX6 (by decide) rfl (rfl) rfl k_539 ?_
  refine zr_iloadn X 1 dX6_verify_73 rfl ?_
  refine zr_bipush X (nI (27)) dX6_verify_74 (by decide +kernel) ?_
  refine zr_dSi [.int (nI (f)), .int (nI (27))] [.ref (ad (1))] X (zK_ok A D tc tF tL tM) (zM_i (z1 := nI (32 * f + 34)) (c_of E (upd (upd (zrec μ (0) (k)) (32 * f + 34) ((μ (32 * f + 34)) + (μ (32 * f + 33)))) (32 * f + 33) (nI (0))) (f) (27)) (congrArg nI (by omega))) k_597 k_598 k_7 k_599 hdX6_of ⟨rfl, rfl⟩ ⟨Nat.le_of_ble_eq_true rfl, Nat.le_of_ble_eq_true rfl⟩ rfl rfl (Nat.le_of_ble_eq_true rfl) dX6_verify_76 ?_
  refine zr_iald X (j := 32 * f + 34) 0 ((μ (32 * f + 34)) + (μ (32 * f + 33))) dX6_verify_79 (by omega) rfl rfl rfl (by omega) (by omega) (zcg (b := 32 * f + 34) (by omega) ((pk_un (by omega)).trans (pk_us))) ?_
  exact zr_iret X dX6_verify_80 ⟨rfl, rfl⟩
end
section
theorem i_vc : Claimed_1_1 ∧ Claimed_1_2 := sorry
end
