section
-- ===== PART A: goes FIRST, ahead of the names: the tables' words, and 'selects' of the private methods out of them =====
/-- a private method of a class that the tables say can be made, by its rows of tables_1 -/
def lw_okq (q : MethodName × Nat) : Prop := (q.1.cls ≠ "java/lang/invoke/MethodHandle" ∧ q.1.cls ≠ "java/lang/invoke/VarHandle") ∧ Cond.instantiable q.1.cls q.2 ∈ tables_1 ∧ Cond.privateMethod q.1 ∈ tables_1 ∧ Cond.instanceMethod q.1 ∈ tables_1
def lw_privs : List (MethodName × Nat) := []
def lw_tbl : List Cond := k2_sels lw_privs ++ tables_1
theorem lw_privs_ok : ∀ q ∈ lw_privs, lw_okq q := fun _ h => absurd h List.not_mem_nil
end
section
/-! ===== BEGIN words of one list among another's, by their places ===== -/
theorem goodIn_r {big : List Cond} (ws : List Cond) (ps : List Nat) (hp : ws = ps.filterMap (fun i => big[i]?)) (h : ws.all goodWord = true) : GoodIn big ws := by
  intro w hw
  have h1 := List.all_eq_true.mp h w hw
  rw [hp] at hw
  obtain ⟨i, -, hi⟩ := List.mem_filterMap.mp hw
  have hm : w ∈ big := by first | exact List.mem_of_getElem? hi | exact List.getElem?_mem hi
  exact ⟨hm, good_of_word h1⟩
theorem goodIn_app {big a b : List Cond} (ha : GoodIn big a) (hb : GoodIn big b) : GoodIn big (a ++ b) := fun w h => (List.mem_append.mp h).elim (ha w) (hb w)
theorem goodIn_ca {big a b : List Cond} {c : Cond} (ha : GoodIn big (c :: a)) (hb : GoodIn big b) : GoodIn big (c :: (a ++ b)) := fun w h => (List.mem_cons.mp h).elim (fun e => ha w (List.mem_cons.mpr (Or.inl e))) (fun h => (List.mem_append.mp h).elim (fun h => ha w (List.mem_cons.mpr (Or.inr h))) (hb w))
theorem goodIn_sub {big ws : List Cond} (hm : ∀ w ∈ ws, w ∈ big) (h : ws.all goodWord = true) : GoodIn big ws := fun w hw => ⟨hm w hw, good_of_word (List.all_eq_true.mp h w hw)⟩
/-! ===== END ===== -/

/-! ===== BEGIN printed: names, fields, word lists, decode rows ===== -/
def RX0 : String := "AllowanceBook$Firm"
def TX0 : u_T := fun k => match k with
  | 0 => ("AllowanceBook$Firm", "held", "[I", true)
  | 1 => ("AllowanceBook$Firm", "offsetsHeld", "[I", true)
  | 2 => ("AllowanceBook$Firm", "offsetsUsed", "[I", true)
  | 3 => ("AllowanceBook$Firm", "reported", "I", false)
  | 4 => ("AllowanceBook$Firm", "verified", "I", false)
  | 5 => ("AllowanceBook$Firm", "base", "I", false)
  | 6 => ("AllowanceBook$Firm", "due", "I", false)
  | 7 => ("AllowanceBook$Firm", "surrendered", "I", false)
  | _ => ("AllowanceBook$Firm", "fines", "I", false)
def tyX0 : Nat → FieldType := fun k => match k with
  | 0 => .array .int
  | 1 => .array .int
  | 2 => .array .int
  | 3 => .int
  | 4 => .int
  | 5 => .int
  | 6 => .int
  | 7 => .int
  | _ => .int
abbrev wsX00 : List Cond := u_ws RX0 TX0 9
theorem nmX0 : ∀ a, a < 9 → ∀ b, b < 9 → a ≠ b → (TX0 a).2.1 ≠ (TX0 b).2.1 := by decide +kernel
theorem tyX0_ok : ∀ k, k < 9 → parseFieldDescriptor (TX0 k).2.2.1 = some (tyX0 k) := by decide +kernel
abbrev cX0_init : ByteArray := prog_2_method_1_code
def yX0_init : MethodName := ⟨RX0, "<init>", "()V"⟩
abbrev cX0_allowances : ByteArray := prog_2_method_2_code
def yX0_allowances : MethodName := ⟨RX0, "allowances", "()I"⟩
abbrev cX0_vintagesHeld : ByteArray := prog_2_method_3_code
def yX0_vintagesHeld : MethodName := ⟨RX0, "vintagesHeld", "()I"⟩
abbrev cX0_oldestHeld : ByteArray := prog_2_method_4_code
def yX0_oldestHeld : MethodName := ⟨RX0, "oldestHeld", "()I"⟩
abbrev cX0_newestHeld : ByteArray := prog_2_method_5_code
def yX0_newestHeld : MethodName := ⟨RX0, "newestHeld", "()I"⟩
abbrev cX0_mayUse : ByteArray := prog_2_method_6_code
def yX0_mayUse : MethodName := ⟨RX0, "mayUse", "(II)I"⟩
abbrev cX0_canUse : ByteArray := prog_2_method_7_code
def yX0_canUse : MethodName := ⟨RX0, "canUse", "(II)I"⟩
abbrev cX0_dueAtBest : ByteArray := prog_2_method_8_code
def yX0_dueAtBest : MethodName := ⟨RX0, "dueAtBest", "([I)I"⟩
abbrev cX0_closeYear : ByteArray := prog_2_method_9_code
def yX0_closeYear : MethodName := ⟨RX0, "closeYear", "()V"⟩
def RX1 : String := "AllowanceBook$History"
def TX1 : u_T := fun k => match k with
  | 0 => ("AllowanceBook$History", "rows", "[LAllowanceBook$State;", true)
  | 1 => ("AllowanceBook$History", "size", "I", false)
  | _ => ("AllowanceBook$History", "next", "I", false)
def tyX1 : Nat → FieldType := fun k => match k with
  | 0 => .array (.object "AllowanceBook$State")
  | 1 => .int
  | _ => .int
abbrev wsX10 : List Cond := u_ws RX1 TX1 3
theorem nmX1 : ∀ a, a < 3 → ∀ b, b < 3 → a ≠ b → (TX1 a).2.1 ≠ (TX1 b).2.1 := by decide +kernel
theorem tyX1_ok : ∀ k, k < 3 → parseFieldDescriptor (TX1 k).2.2.1 = some (tyX1 k) := by decide +kernel
abbrev cX1_init : ByteArray := prog_3_method_1_code
def yX1_init : MethodName := ⟨RX1, "<init>", "()V"⟩
abbrev cX1_push : ByteArray := prog_3_method_2_code
def yX1_push : MethodName := ⟨RX1, "push", "(LAllowanceBook$State;)V"⟩
abbrev cX1_popInto : ByteArray := prog_3_method_3_code
def yX1_popInto : MethodName := ⟨RX1, "popInto", "(LAllowanceBook$State;)V"⟩
def RX2 : String := "AllowanceBook$State"
def TX2 : u_T := fun k => match k with
  | 0 => ("AllowanceBook$State", "month", "I", false)
  | 1 => ("AllowanceBook$State", "firmCount", "I", false)
  | 2 => ("AllowanceBook$State", "settings", "[I", true)
  | 3 => ("AllowanceBook$State", "firms", "[LAllowanceBook$Firm;", true)
  | 4 => ("AllowanceBook$State", "issued", "[I", true)
  | 5 => ("AllowanceBook$State", "surrendered", "[I", true)
  | 6 => ("AllowanceBook$State", "cancelled", "[I", true)
  | 7 => ("AllowanceBook$State", "lost", "[I", true)
  | 8 => ("AllowanceBook$State", "offsetsIssued", "[I", true)
  | _ => ("AllowanceBook$State", "offsetsSurrendered", "[I", true)
def tyX2 : Nat → FieldType := fun k => match k with
  | 0 => .int
  | 1 => .int
  | 2 => .array .int
  | 3 => .array (.object "AllowanceBook$Firm")
  | 4 => .array .int
  | 5 => .array .int
  | 6 => .array .int
  | 7 => .array .int
  | 8 => .array .int
  | _ => .array .int
abbrev wsX20 : List Cond := u_ws RX2 TX2 10
theorem nmX2 : ∀ a, a < 10 → ∀ b, b < 10 → a ≠ b → (TX2 a).2.1 ≠ (TX2 b).2.1 := by decide +kernel
theorem tyX2_ok : ∀ k, k < 10 → parseFieldDescriptor (TX2 k).2.2.1 = some (tyX2 k) := by decide +kernel
abbrev cX2_init : ByteArray := prog_4_method_1_code
def yX2_init : MethodName := ⟨RX2, "<init>", "()V"⟩
abbrev cX2_firmAt : ByteArray := prog_4_method_2_code
def yX2_firmAt : MethodName := ⟨RX2, "firmAt", "(I)LAllowanceBook$Firm;"⟩
abbrev cX2_year : ByteArray := prog_4_method_3_code
def yX2_year : MethodName := ⟨RX2, "year", "()I"⟩
abbrev cX2_moveError : ByteArray := prog_4_method_4_code
def yX2_moveError : MethodName := ⟨RX2, "moveError", "(IIII)I"⟩
abbrev cX2_move : ByteArray := prog_4_method_5_code
def yX2_move : MethodName := ⟨RX2, "move", "(IIII)I"⟩
abbrev cX2_takeFrom : ByteArray := prog_4_method_6_code
def yX2_takeFrom : MethodName := ⟨RX2, "takeFrom", "(LAllowanceBook$Firm;LAllowanceBook$Taking;)V"⟩
abbrev cX2_beginMonth : ByteArray := prog_4_method_7_code
def yX2_beginMonth : MethodName := ⟨RX2, "beginMonth", "()I"⟩
abbrev cX2_beginYear : ByteArray := prog_4_method_8_code
def yX2_beginYear : MethodName := ⟨RX2, "beginYear", "()V"⟩
abbrev cX2_loseAll : ByteArray := prog_4_method_9_code
def yX2_loseAll : MethodName := ⟨RX2, "loseAll", "(I)V"⟩
abbrev cX2_fineAll : ByteArray := prog_4_method_10_code
def yX2_fineAll : MethodName := ⟨RX2, "fineAll", "()I"⟩
abbrev cX2_heldOf : ByteArray := prog_4_method_11_code
def yX2_heldOf : MethodName := ⟨RX2, "heldOf", "(I)I"⟩
abbrev cX2_holdersOf : ByteArray := prog_4_method_12_code
def yX2_holdersOf : MethodName := ⟨RX2, "holdersOf", "(I)I"⟩
abbrev cX2_offsetsHeldOf : ByteArray := prog_4_method_13_code
def yX2_offsetsHeldOf : MethodName := ⟨RX2, "offsetsHeldOf", "(I)I"⟩
abbrev cX2_monthsUntilLost : ByteArray := prog_4_method_14_code
def yX2_monthsUntilLost : MethodName := ⟨RX2, "monthsUntilLost", "(I)I"⟩
abbrev cX2_holderAt : ByteArray := prog_4_method_15_code
def yX2_holderAt : MethodName := ⟨RX2, "holderAt", "(II)I"⟩
abbrev cX2_holdersAhead : ByteArray := prog_4_method_16_code
def yX2_holdersAhead : MethodName := ⟨RX2, "holdersAhead", "(II)I"⟩
abbrev cX2_allDue : ByteArray := prog_4_method_17_code
def yX2_allDue : MethodName := ⟨RX2, "allDue", "()I"⟩
abbrev cX2_allFines : ByteArray := prog_4_method_18_code
def yX2_allFines : MethodName := ⟨RX2, "allFines", "()I"⟩
abbrev cX2_allHeld : ByteArray := prog_4_method_19_code
def yX2_allHeld : MethodName := ⟨RX2, "allHeld", "()I"⟩
abbrev cX2_allLost : ByteArray := prog_4_method_20_code
def yX2_allLost : MethodName := ⟨RX2, "allLost", "()I"⟩
abbrev cX2_monthsUntilDeadline : ByteArray := prog_4_method_21_code
def yX2_monthsUntilDeadline : MethodName := ⟨RX2, "monthsUntilDeadline", "()I"⟩
def RX3 : String := "AllowanceBook$Taking"
def TX3 : u_T := fun k => match k with
  | 0 => ("AllowanceBook$Taking", "allowancesTaken", "[I", true)
  | 1 => ("AllowanceBook$Taking", "offsetsTaken", "[I", true)
  | 2 => ("AllowanceBook$Taking", "allAllowances", "I", false)
  | 3 => ("AllowanceBook$Taking", "vintagesTouched", "I", false)
  | 4 => ("AllowanceBook$Taking", "firstTouched", "I", false)
  | _ => ("AllowanceBook$Taking", "missing", "I", false)
def tyX3 : Nat → FieldType := fun k => match k with
  | 0 => .array .int
  | 1 => .array .int
  | 2 => .int
  | 3 => .int
  | 4 => .int
  | _ => .int
abbrev wsX30 : List Cond := u_ws RX3 TX3 6
theorem nmX3 : ∀ a, a < 6 → ∀ b, b < 6 → a ≠ b → (TX3 a).2.1 ≠ (TX3 b).2.1 := by decide +kernel
theorem tyX3_ok : ∀ k, k < 6 → parseFieldDescriptor (TX3 k).2.2.1 = some (tyX3 k) := by decide +kernel
abbrev cX3_init : ByteArray := prog_5_method_1_code
def yX3_init : MethodName := ⟨RX3, "<init>", "()V"⟩
abbrev cX3_workOut : ByteArray := prog_5_method_2_code
def yX3_workOut : MethodName := ⟨RX3, "workOut", "(LAllowanceBook$Firm;[III)V"⟩
abbrev cX3_takeVintage : ByteArray := prog_5_method_3_code
def yX3_takeVintage : MethodName := ⟨RX3, "takeVintage", "(LAllowanceBook$Firm;I)V"⟩
def RX4 : String := "AllowanceBook$Text"
def TX4 : u_T := fun k => match k with
  | 0 => ("AllowanceBook$Text", "characters", "[C", true)
  | 1 => ("AllowanceBook$Text", "length", "I", false)
  | 2 => ("AllowanceBook$Text", "froms", "[I", true)
  | 3 => ("AllowanceBook$Text", "tos", "[I", true)
  | 4 => ("AllowanceBook$Text", "vintages", "[I", true)
  | 5 => ("AllowanceBook$Text", "tonnes", "[I", true)
  | 6 => ("AllowanceBook$Text", "transfers", "I", false)
  | _ => ("AllowanceBook$Text", "at", "I", false)
def tyX4 : Nat → FieldType := fun k => match k with
  | 0 => .array .char
  | 1 => .int
  | 2 => .array .int
  | 3 => .array .int
  | 4 => .array .int
  | 5 => .array .int
  | 6 => .int
  | _ => .int
abbrev wsX40 : List Cond := u_ws RX4 TX4 8
theorem nmX4 : ∀ a, a < 8 → ∀ b, b < 8 → a ≠ b → (TX4 a).2.1 ≠ (TX4 b).2.1 := by decide +kernel
theorem tyX4_ok : ∀ k, k < 8 → parseFieldDescriptor (TX4 k).2.2.1 = some (tyX4 k) := by decide +kernel
abbrev cX4_init : ByteArray := prog_6_method_1_code
def yX4_init : MethodName := ⟨RX4, "<init>", "()V"⟩
def RX5 : String := "AllowanceBook"
def TX5 : u_T := fun k => match k with
  | 0 => ("AllowanceBook", "present", "LAllowanceBook$State;", true)
  | 1 => ("AllowanceBook", "kept", "LAllowanceBook$State;", true)
  | 2 => ("AllowanceBook", "trial", "LAllowanceBook$State;", true)
  | 3 => ("AllowanceBook", "past", "LAllowanceBook$History;", true)
  | 4 => ("AllowanceBook", "taking", "LAllowanceBook$Taking;", true)
  | 5 => ("AllowanceBook", "text", "LAllowanceBook$Text;", true)
  | _ => ("AllowanceBook", "hasKept", "Z", false)
def tyX5 : Nat → FieldType := fun k => match k with
  | 0 => .object "AllowanceBook$State"
  | 1 => .object "AllowanceBook$State"
  | 2 => .object "AllowanceBook$State"
  | 3 => .object "AllowanceBook$History"
  | 4 => .object "AllowanceBook$Taking"
  | 5 => .object "AllowanceBook$Text"
  | _ => .boolean
abbrev wsX50 : List Cond := u_ws RX5 TX5 7
theorem nmX5 : ∀ a, a < 7 → ∀ b, b < 7 → a ≠ b → (TX5 a).2.1 ≠ (TX5 b).2.1 := by decide +kernel
theorem tyX5_ok : ∀ k, k < 7 → parseFieldDescriptor (TX5 k).2.2.1 = some (tyX5 k) := by decide +kernel
abbrev cX5_init : ByteArray := prog_1_method_1_code
def yX5_init : MethodName := ⟨RX5, "<init>", "()V"⟩
abbrev cX5_addFirm : ByteArray := prog_1_method_2_code
def yX5_addFirm : MethodName := ⟨RX5, "addFirm", "()I"⟩
abbrev cX5_set : ByteArray := prog_1_method_3_code
def yX5_set : MethodName := ⟨RX5, "set", "(II)I"⟩
abbrev cX5_issue : ByteArray := prog_1_method_4_code
def yX5_issue : MethodName := ⟨RX5, "issue", "(II)I"⟩
abbrev cX5_issueOffsets : ByteArray := prog_1_method_5_code
def yX5_issueOffsets : MethodName := ⟨RX5, "issueOffsets", "(III)I"⟩
abbrev cX5_transfer : ByteArray := prog_1_method_6_code
def yX5_transfer : MethodName := ⟨RX5, "transfer", "(IIII)I"⟩
abbrev cX5_transferOffsets : ByteArray := prog_1_method_7_code
def yX5_transferOffsets : MethodName := ⟨RX5, "transferOffsets", "(IIII)I"⟩
abbrev cX5_cancel : ByteArray := prog_1_method_8_code
def yX5_cancel : MethodName := ⟨RX5, "cancel", "(III)I"⟩
abbrev cX5_report : ByteArray := prog_1_method_9_code
def yX5_report : MethodName := ⟨RX5, "report", "(II)I"⟩
abbrev cX5_verify : ByteArray := prog_1_method_10_code
def yX5_verify : MethodName := ⟨RX5, "verify", "(I)I"⟩
abbrev cX5_surrender : ByteArray := prog_1_method_11_code
def yX5_surrender : MethodName := ⟨RX5, "surrender", "(III)I"⟩
abbrev cX5_pass : ByteArray := prog_1_method_12_code
def yX5_pass : MethodName := ⟨RX5, "pass", "(I)I"⟩
abbrev cX5_undo : ByteArray := prog_1_method_16_code
def yX5_undo : MethodName := ⟨RX5, "undo", "()I"⟩
abbrev cX5_keep : ByteArray := prog_1_method_17_code
def yX5_keep : MethodName := ⟨RX5, "keep", "()I"⟩
abbrev cX5_restore : ByteArray := prog_1_method_18_code
def yX5_restore : MethodName := ⟨RX5, "restore", "()I"⟩
abbrev cX5_firm : ByteArray := prog_1_method_19_code
def yX5_firm : MethodName := ⟨RX5, "firm", "(II)I"⟩
abbrev cX5_holds : ByteArray := prog_1_method_20_code
def yX5_holds : MethodName := ⟨RX5, "holds", "(II)I"⟩
abbrev cX5_offsets : ByteArray := prog_1_method_21_code
def yX5_offsets : MethodName := ⟨RX5, "offsets", "(III)I"⟩
abbrev cX5_vintage : ByteArray := prog_1_method_22_code
def yX5_vintage : MethodName := ⟨RX5, "vintage", "(II)I"⟩
abbrev cX5_grade : ByteArray := prog_1_method_23_code
def yX5_grade : MethodName := ⟨RX5, "grade", "(II)I"⟩
abbrev cX5_holder : ByteArray := prog_1_method_24_code
def yX5_holder : MethodName := ⟨RX5, "holder", "(II)I"⟩
abbrev cX5_plan : ByteArray := prog_1_method_25_code
def yX5_plan : MethodName := ⟨RX5, "plan", "(IIII)I"⟩
abbrev cX5_count : ByteArray := prog_1_method_26_code
def yX5_count : MethodName := ⟨RX5, "count", "(I)I"⟩
abbrev cX5_isVintage : ByteArray := prog_1_method_27_code
def yX5_isVintage : MethodName := ⟨RX5, "isVintage", "(I)Z"⟩
abbrev cX5_isGrade : ByteArray := prog_1_method_28_code
def yX5_isGrade : MethodName := ⟨RX5, "isGrade", "(I)Z"⟩
abbrev cX5_isTonnes : ByteArray := prog_1_method_29_code
def yX5_isTonnes : MethodName := ⟨RX5, "isTonnes", "(I)Z"⟩
abbrev cX5_isWay : ByteArray := prog_1_method_30_code
def yX5_isWay : MethodName := ⟨RX5, "isWay", "(I)Z"⟩
abbrev cX5_copyState : ByteArray := prog_1_method_31_code
def yX5_copyState : MethodName := ⟨RX5, "copyState", "(LAllowanceBook$State;LAllowanceBook$State;)V"⟩
abbrev cX5_copyFirm : ByteArray := prog_1_method_32_code
def yX5_copyFirm : MethodName := ⟨RX5, "copyFirm", "(LAllowanceBook$Firm;LAllowanceBook$Firm;)V"⟩
abbrev cX5_copyNumbers : ByteArray := prog_1_method_33_code
def yX5_copyNumbers : MethodName := ⟨RX5, "copyNumbers", "([I[I)V"⟩
def RX6 : String := "AllowanceBookModel"
def TX6 : u_T := fun k => match k with
  | _ => ("", "", "", false)
def tyX6 : Nat → FieldType := fun k => match k with
  | _ => .int
abbrev wsX60 : List Cond := u_ws RX6 TX6 0
theorem nmX6 : ∀ a, a < 0 → ∀ b, b < 0 → a ≠ b → (TX6 a).2.1 ≠ (TX6 b).2.1 := by decide +kernel
theorem tyX6_ok : ∀ k, k < 0 → parseFieldDescriptor (TX6 k).2.2.1 = some (tyX6 k) := by decide +kernel
def RJx8e188 : String := "java/lang/Cloneable"
def TJx8e188 : u_T := fun k => match k with
  | _ => ("", "", "", false)
def tyJx8e188 : Nat → FieldType := fun k => match k with
  | _ => .int
abbrev wsJx8e1880 : List Cond := u_ws RJx8e188 TJx8e188 0
theorem nmJx8e188 : ∀ a, a < 0 → ∀ b, b < 0 → a ≠ b → (TJx8e188 a).2.1 ≠ (TJx8e188 b).2.1 := by decide +kernel
theorem tyJx8e188_ok : ∀ k, k < 0 → parseFieldDescriptor (TJx8e188 k).2.2.1 = some (tyJx8e188 k) := by decide +kernel
def RJ9 : String := "java/lang/Math"
def TJ9 : u_T := fun k => match k with
  | _ => ("", "", "", false)
def tyJ9 : Nat → FieldType := fun k => match k with
  | _ => .int
abbrev wsJ90 : List Cond := u_ws RJ9 TJ9 0
theorem nmJ9 : ∀ a, a < 0 → ∀ b, b < 0 → a ≠ b → (TJ9 a).2.1 ≠ (TJ9 b).2.1 := by decide +kernel
theorem tyJ9_ok : ∀ k, k < 0 → parseFieldDescriptor (TJ9 k).2.2.1 = some (tyJ9 k) := by decide +kernel
abbrev cJ9_max_7cf53 : ByteArray := prog_10_method_65_code
def yJ9_max_7cf53 : MethodName := ⟨RJ9, "max", "(II)I"⟩
abbrev cJ9_min_7cf53 : ByteArray := prog_10_method_69_code
def yJ9_min_7cf53 : MethodName := ⟨RJ9, "min", "(II)I"⟩
def RJ10 : String := "java/lang/System"
def TJ10 : u_T := fun k => match k with
  | _ => ("", "", "", false)
def tyJ10 : Nat → FieldType := fun k => match k with
  | _ => .int
abbrev wsJ100 : List Cond := u_ws RJ10 TJ10 0
theorem nmJ10 : ∀ a, a < 0 → ∀ b, b < 0 → a ≠ b → (TJ10 a).2.1 ≠ (TJ10 b).2.1 := by decide +kernel
theorem tyJ10_ok : ∀ k, k < 0 → parseFieldDescriptor (TJ10 k).2.2.1 = some (tyJ10 k) := by decide +kernel
def RL : String := "AllowanceBookLaw"
abbrev cL_cell : ByteArray := method_2_code
def yL_cell : MethodName := ⟨RL, "cell", "([II)I"⟩
abbrev cL_low : ByteArray := method_3_code
def yL_low : MethodName := ⟨RL, "low", "(II)I"⟩
abbrev cL_all : ByteArray := method_4_code
def yL_all : MethodName := ⟨RL, "all", "(LAllowanceBook;)J"⟩
abbrev cL_isSound : ByteArray := method_5_code
def yL_isSound : MethodName := ⟨RL, "isSound", "(LAllowanceBook;)Z"⟩
abbrev cL_isPlanned : ByteArray := method_6_code
def yL_isPlanned : MethodName := ⟨RL, "isPlanned", "(LAllowanceBook;I)Z"⟩
abbrev cL_acts : ByteArray := method_7_code
def yL_acts : MethodName := ⟨RL, "acts", "(LAllowanceBook;I)I"⟩
abbrev cL_law : ByteArray := code
def yL_law : MethodName := ⟨RL, "law", "([I)Z"⟩
abbrev vwCl : List vw_C := [(RX0, TX0, 9), (RX1, TX1, 3), (RX2, TX2, 10), (RX3, TX3, 6), (RX4, TX4, 8), (RX5, TX5, 7)]
end
section
theorem dX0_init_0 : decode cX0_init 0 = .ok (.aload_n 0, 1) := by decide +kernel
theorem dX0_init_1 : decode cX0_init 1 = .ok (.invokespecial 3, 3) := by decide +kernel
theorem dX0_init_4 : decode cX0_init 4 = .ok (.aload_n 0, 1) := by decide +kernel
theorem dX0_init_5 : decode cX0_init 5 = .ok (.bipush 20, 2) := by decide +kernel
theorem dX0_init_7 : decode cX0_init 7 = .ok (.newarray .int, 2) := by decide +kernel
theorem dX0_init_9 : decode cX0_init 9 = .ok (.putfield 9, 3) := by decide +kernel
theorem dX0_init_12 : decode cX0_init 12 = .ok (.aload_n 0, 1) := by decide +kernel
theorem dX0_init_13 : decode cX0_init 13 = .ok (.iconst 3, 1) := by decide +kernel
theorem dX0_init_14 : decode cX0_init 14 = .ok (.newarray .int, 2) := by decide +kernel
theorem dX0_init_16 : decode cX0_init 16 = .ok (.putfield 15, 3) := by decide +kernel
theorem dX0_init_19 : decode cX0_init 19 = .ok (.aload_n 0, 1) := by decide +kernel
theorem dX0_init_20 : decode cX0_init 20 = .ok (.iconst 3, 1) := by decide +kernel
theorem dX0_init_21 : decode cX0_init 21 = .ok (.newarray .int, 2) := by decide +kernel
theorem dX0_init_23 : decode cX0_init 23 = .ok (.putfield 18, 3) := by decide +kernel
theorem dX0_init_26 : decode cX0_init 26 = .ok (.return_, 1) := by decide +kernel
theorem dX0_allowances_0 : decode cX0_allowances 0 = .ok (.iconst 0, 1) := by decide +kernel
theorem dX0_allowances_1 : decode cX0_allowances 1 = .ok (.istore_n 1, 1) := by decide +kernel
theorem dX0_allowances_2 : decode cX0_allowances 2 = .ok (.aload_n 0, 1) := by decide +kernel
theorem dX0_allowances_3 : decode cX0_allowances 3 = .ok (.getfield 9, 3) := by decide +kernel
theorem dX0_allowances_6 : decode cX0_allowances 6 = .ok (.astore_n 2, 1) := by decide +kernel
theorem dX0_allowances_7 : decode cX0_allowances 7 = .ok (.aload_n 2, 1) := by decide +kernel
theorem dX0_allowances_8 : decode cX0_allowances 8 = .ok (.arraylength, 1) := by decide +kernel
theorem dX0_allowances_9 : decode cX0_allowances 9 = .ok (.istore_n 3, 1) := by decide +kernel
theorem dX0_allowances_10 : decode cX0_allowances 10 = .ok (.iconst 0, 1) := by decide +kernel
theorem dX0_allowances_11 : decode cX0_allowances 11 = .ok (.istore 4, 2) := by decide +kernel
theorem dX0_allowances_13 : decode cX0_allowances 13 = .ok (.iload 4, 2) := by decide +kernel
theorem dX0_allowances_15 : decode cX0_allowances 15 = .ok (.iload_n 3, 1) := by decide +kernel
theorem dX0_allowances_16 : decode cX0_allowances 16 = .ok (.if_icmp .ge 20, 3) := by decide +kernel
theorem dX0_allowances_19 : decode cX0_allowances 19 = .ok (.aload_n 2, 1) := by decide +kernel
theorem dX0_allowances_20 : decode cX0_allowances 20 = .ok (.iload 4, 2) := by decide +kernel
theorem dX0_allowances_22 : decode cX0_allowances 22 = .ok (.iaload, 1) := by decide +kernel
theorem dX0_allowances_23 : decode cX0_allowances 23 = .ok (.istore 5, 2) := by decide +kernel
theorem dX0_allowances_25 : decode cX0_allowances 25 = .ok (.iload_n 1, 1) := by decide +kernel
theorem dX0_allowances_26 : decode cX0_allowances 26 = .ok (.iload 5, 2) := by decide +kernel
theorem dX0_allowances_28 : decode cX0_allowances 28 = .ok (.iadd, 1) := by decide +kernel
theorem dX0_allowances_29 : decode cX0_allowances 29 = .ok (.istore_n 1, 1) := by decide +kernel
theorem dX0_allowances_30 : decode cX0_allowances 30 = .ok (.iinc 4 1, 3) := by decide +kernel
theorem dX0_allowances_33 : decode cX0_allowances 33 = .ok (.goto (-20), 3) := by decide +kernel
theorem dX0_allowances_36 : decode cX0_allowances 36 = .ok (.iload_n 1, 1) := by decide +kernel
theorem dX0_allowances_37 : decode cX0_allowances 37 = .ok (.ireturn, 1) := by decide +kernel
theorem dX0_vintagesHeld_0 : decode cX0_vintagesHeld 0 = .ok (.iconst 0, 1) := by decide +kernel
theorem dX0_vintagesHeld_1 : decode cX0_vintagesHeld 1 = .ok (.istore_n 1, 1) := by decide +kernel
theorem dX0_vintagesHeld_2 : decode cX0_vintagesHeld 2 = .ok (.aload_n 0, 1) := by decide +kernel
theorem dX0_vintagesHeld_3 : decode cX0_vintagesHeld 3 = .ok (.getfield 9, 3) := by decide +kernel
theorem dX0_vintagesHeld_6 : decode cX0_vintagesHeld 6 = .ok (.astore_n 2, 1) := by decide +kernel
theorem dX0_vintagesHeld_7 : decode cX0_vintagesHeld 7 = .ok (.aload_n 2, 1) := by decide +kernel
theorem dX0_vintagesHeld_8 : decode cX0_vintagesHeld 8 = .ok (.arraylength, 1) := by decide +kernel
theorem dX0_vintagesHeld_9 : decode cX0_vintagesHeld 9 = .ok (.istore_n 3, 1) := by decide +kernel
theorem dX0_vintagesHeld_10 : decode cX0_vintagesHeld 10 = .ok (.iconst 0, 1) := by decide +kernel
theorem dX0_vintagesHeld_11 : decode cX0_vintagesHeld 11 = .ok (.istore 4, 2) := by decide +kernel
theorem dX0_vintagesHeld_13 : decode cX0_vintagesHeld 13 = .ok (.iload 4, 2) := by decide +kernel
theorem dX0_vintagesHeld_15 : decode cX0_vintagesHeld 15 = .ok (.iload_n 3, 1) := by decide +kernel
theorem dX0_vintagesHeld_16 : decode cX0_vintagesHeld 16 = .ok (.if_icmp .ge 23, 3) := by decide +kernel
theorem dX0_vintagesHeld_19 : decode cX0_vintagesHeld 19 = .ok (.aload_n 2, 1) := by decide +kernel
theorem dX0_vintagesHeld_20 : decode cX0_vintagesHeld 20 = .ok (.iload 4, 2) := by decide +kernel
theorem dX0_vintagesHeld_22 : decode cX0_vintagesHeld 22 = .ok (.iaload, 1) := by decide +kernel
theorem dX0_vintagesHeld_23 : decode cX0_vintagesHeld 23 = .ok (.istore 5, 2) := by decide +kernel
theorem dX0_vintagesHeld_25 : decode cX0_vintagesHeld 25 = .ok (.iload 5, 2) := by decide +kernel
theorem dX0_vintagesHeld_27 : decode cX0_vintagesHeld 27 = .ok (.ifCond .le 6, 3) := by decide +kernel
theorem dX0_vintagesHeld_30 : decode cX0_vintagesHeld 30 = .ok (.iinc 1 1, 3) := by decide +kernel
theorem dX0_vintagesHeld_33 : decode cX0_vintagesHeld 33 = .ok (.iinc 4 1, 3) := by decide +kernel
theorem dX0_vintagesHeld_36 : decode cX0_vintagesHeld 36 = .ok (.goto (-23), 3) := by decide +kernel
theorem dX0_vintagesHeld_39 : decode cX0_vintagesHeld 39 = .ok (.iload_n 1, 1) := by decide +kernel
theorem dX0_vintagesHeld_40 : decode cX0_vintagesHeld 40 = .ok (.ireturn, 1) := by decide +kernel
theorem dX0_oldestHeld_0 : decode cX0_oldestHeld 0 = .ok (.iconst 0, 1) := by decide +kernel
theorem dX0_oldestHeld_1 : decode cX0_oldestHeld 1 = .ok (.istore_n 1, 1) := by decide +kernel
theorem dX0_oldestHeld_2 : decode cX0_oldestHeld 2 = .ok (.iload_n 1, 1) := by decide +kernel
theorem dX0_oldestHeld_3 : decode cX0_oldestHeld 3 = .ok (.bipush 20, 2) := by decide +kernel
theorem dX0_oldestHeld_5 : decode cX0_oldestHeld 5 = .ok (.if_icmp .ge 20, 3) := by decide +kernel
theorem dX0_oldestHeld_8 : decode cX0_oldestHeld 8 = .ok (.aload_n 0, 1) := by decide +kernel
theorem dX0_oldestHeld_9 : decode cX0_oldestHeld 9 = .ok (.getfield 9, 3) := by decide +kernel
theorem dX0_oldestHeld_12 : decode cX0_oldestHeld 12 = .ok (.iload_n 1, 1) := by decide +kernel
theorem dX0_oldestHeld_13 : decode cX0_oldestHeld 13 = .ok (.iaload, 1) := by decide +kernel
theorem dX0_oldestHeld_14 : decode cX0_oldestHeld 14 = .ok (.ifCond .le 5, 3) := by decide +kernel
theorem dX0_oldestHeld_17 : decode cX0_oldestHeld 17 = .ok (.iload_n 1, 1) := by decide +kernel
theorem dX0_oldestHeld_18 : decode cX0_oldestHeld 18 = .ok (.ireturn, 1) := by decide +kernel
theorem dX0_oldestHeld_19 : decode cX0_oldestHeld 19 = .ok (.iinc 1 1, 3) := by decide +kernel
theorem dX0_oldestHeld_22 : decode cX0_oldestHeld 22 = .ok (.goto (-20), 3) := by decide +kernel
theorem dX0_oldestHeld_25 : decode cX0_oldestHeld 25 = .ok (.bipush (-5), 2) := by decide +kernel
theorem dX0_oldestHeld_27 : decode cX0_oldestHeld 27 = .ok (.ireturn, 1) := by decide +kernel
theorem dX0_newestHeld_0 : decode cX0_newestHeld 0 = .ok (.bipush 19, 2) := by decide +kernel
theorem dX0_newestHeld_2 : decode cX0_newestHeld 2 = .ok (.istore_n 1, 1) := by decide +kernel
theorem dX0_newestHeld_3 : decode cX0_newestHeld 3 = .ok (.iload_n 1, 1) := by decide +kernel
theorem dX0_newestHeld_4 : decode cX0_newestHeld 4 = .ok (.ifCond .lt 20, 3) := by decide +kernel
theorem dX0_newestHeld_7 : decode cX0_newestHeld 7 = .ok (.aload_n 0, 1) := by decide +kernel
theorem dX0_newestHeld_8 : decode cX0_newestHeld 8 = .ok (.getfield 9, 3) := by decide +kernel
theorem dX0_newestHeld_11 : decode cX0_newestHeld 11 = .ok (.iload_n 1, 1) := by decide +kernel
theorem dX0_newestHeld_12 : decode cX0_newestHeld 12 = .ok (.iaload, 1) := by decide +kernel
theorem dX0_newestHeld_13 : decode cX0_newestHeld 13 = .ok (.ifCond .le 5, 3) := by decide +kernel
theorem dX0_newestHeld_16 : decode cX0_newestHeld 16 = .ok (.iload_n 1, 1) := by decide +kernel
theorem dX0_newestHeld_17 : decode cX0_newestHeld 17 = .ok (.ireturn, 1) := by decide +kernel
theorem dX0_newestHeld_18 : decode cX0_newestHeld 18 = .ok (.iinc 1 (-1), 3) := by decide +kernel
theorem dX0_newestHeld_21 : decode cX0_newestHeld 21 = .ok (.goto (-18), 3) := by decide +kernel
theorem dX0_newestHeld_24 : decode cX0_newestHeld 24 = .ok (.bipush (-5), 2) := by decide +kernel
theorem dX0_newestHeld_26 : decode cX0_newestHeld 26 = .ok (.ireturn, 1) := by decide +kernel
theorem dX0_mayUse_0 : decode cX0_mayUse 0 = .ok (.iconst 0, 1) := by decide +kernel
theorem dX0_mayUse_1 : decode cX0_mayUse 1 = .ok (.aload_n 0, 1) := by decide +kernel
theorem dX0_mayUse_2 : decode cX0_mayUse 2 = .ok (.getfield 21, 3) := by decide +kernel
theorem dX0_mayUse_5 : decode cX0_mayUse 5 = .ok (.iload_n 2, 1) := by decide +kernel
theorem dX0_mayUse_6 : decode cX0_mayUse 6 = .ok (.imul, 1) := by decide +kernel
theorem dX0_mayUse_7 : decode cX0_mayUse 7 = .ok (.bipush 100, 2) := by decide +kernel
theorem dX0_mayUse_9 : decode cX0_mayUse 9 = .ok (.idiv, 1) := by decide +kernel
theorem dX0_mayUse_10 : decode cX0_mayUse 10 = .ok (.aload_n 0, 1) := by decide +kernel
theorem dX0_mayUse_11 : decode cX0_mayUse 11 = .ok (.getfield 18, 3) := by decide +kernel
theorem dX0_mayUse_14 : decode cX0_mayUse 14 = .ok (.iload_n 1, 1) := by decide +kernel
theorem dX0_mayUse_15 : decode cX0_mayUse 15 = .ok (.iaload, 1) := by decide +kernel
theorem dX0_mayUse_16 : decode cX0_mayUse 16 = .ok (.isub, 1) := by decide +kernel
theorem dX0_mayUse_17 : decode cX0_mayUse 17 = .ok (.invokestatic 25, 3) := by decide +kernel
theorem dX0_mayUse_20 : decode cX0_mayUse 20 = .ok (.ireturn, 1) := by decide +kernel
theorem dX0_canUse_0 : decode cX0_canUse 0 = .ok (.aload_n 0, 1) := by decide +kernel
theorem dX0_canUse_1 : decode cX0_canUse 1 = .ok (.getfield 15, 3) := by decide +kernel
theorem dX0_canUse_4 : decode cX0_canUse 4 = .ok (.iload_n 1, 1) := by decide +kernel
theorem dX0_canUse_5 : decode cX0_canUse 5 = .ok (.iaload, 1) := by decide +kernel
theorem dX0_canUse_6 : decode cX0_canUse 6 = .ok (.aload_n 0, 1) := by decide +kernel
theorem dX0_canUse_7 : decode cX0_canUse 7 = .ok (.iload_n 1, 1) := by decide +kernel
theorem dX0_canUse_8 : decode cX0_canUse 8 = .ok (.iload_n 2, 1) := by decide +kernel
theorem dX0_canUse_9 : decode cX0_canUse 9 = .ok (.invokevirtual 31, 3) := by decide +kernel
theorem dX0_canUse_12 : decode cX0_canUse 12 = .ok (.invokestatic 34, 3) := by decide +kernel
theorem dX0_canUse_15 : decode cX0_canUse 15 = .ok (.ireturn, 1) := by decide +kernel
theorem dX0_dueAtBest_0 : decode cX0_dueAtBest 0 = .ok (.aload_n 0, 1) := by decide +kernel
theorem dX0_dueAtBest_1 : decode cX0_dueAtBest 1 = .ok (.invokevirtual 37, 3) := by decide +kernel
theorem dX0_dueAtBest_4 : decode cX0_dueAtBest 4 = .ok (.istore_n 2, 1) := by decide +kernel
theorem dX0_dueAtBest_5 : decode cX0_dueAtBest 5 = .ok (.iconst 0, 1) := by decide +kernel
theorem dX0_dueAtBest_6 : decode cX0_dueAtBest 6 = .ok (.istore_n 3, 1) := by decide +kernel
theorem dX0_dueAtBest_7 : decode cX0_dueAtBest 7 = .ok (.iload_n 3, 1) := by decide +kernel
theorem dX0_dueAtBest_8 : decode cX0_dueAtBest 8 = .ok (.iconst 3, 1) := by decide +kernel
theorem dX0_dueAtBest_9 : decode cX0_dueAtBest 9 = .ok (.if_icmp .ge 20, 3) := by decide +kernel
theorem dX0_dueAtBest_12 : decode cX0_dueAtBest 12 = .ok (.iload_n 2, 1) := by decide +kernel
theorem dX0_dueAtBest_13 : decode cX0_dueAtBest 13 = .ok (.aload_n 0, 1) := by decide +kernel
theorem dX0_dueAtBest_14 : decode cX0_dueAtBest 14 = .ok (.iload_n 3, 1) := by decide +kernel
theorem dX0_dueAtBest_15 : decode cX0_dueAtBest 15 = .ok (.aload_n 1, 1) := by decide +kernel
theorem dX0_dueAtBest_16 : decode cX0_dueAtBest 16 = .ok (.iload_n 3, 1) := by decide +kernel
theorem dX0_dueAtBest_17 : decode cX0_dueAtBest 17 = .ok (.iaload, 1) := by decide +kernel
theorem dX0_dueAtBest_18 : decode cX0_dueAtBest 18 = .ok (.invokevirtual 41, 3) := by decide +kernel
theorem dX0_dueAtBest_21 : decode cX0_dueAtBest 21 = .ok (.iadd, 1) := by decide +kernel
theorem dX0_dueAtBest_22 : decode cX0_dueAtBest 22 = .ok (.istore_n 2, 1) := by decide +kernel
theorem dX0_dueAtBest_23 : decode cX0_dueAtBest 23 = .ok (.iinc 3 1, 3) := by decide +kernel
theorem dX0_dueAtBest_26 : decode cX0_dueAtBest 26 = .ok (.goto (-19), 3) := by decide +kernel
theorem dX0_dueAtBest_29 : decode cX0_dueAtBest 29 = .ok (.iconst 0, 1) := by decide +kernel
theorem dX0_dueAtBest_30 : decode cX0_dueAtBest 30 = .ok (.aload_n 0, 1) := by decide +kernel
theorem dX0_dueAtBest_31 : decode cX0_dueAtBest 31 = .ok (.getfield 44, 3) := by decide +kernel
theorem dX0_dueAtBest_34 : decode cX0_dueAtBest 34 = .ok (.iload_n 2, 1) := by decide +kernel
theorem dX0_dueAtBest_35 : decode cX0_dueAtBest 35 = .ok (.isub, 1) := by decide +kernel
theorem dX0_dueAtBest_36 : decode cX0_dueAtBest 36 = .ok (.invokestatic 25, 3) := by decide +kernel
theorem dX0_dueAtBest_39 : decode cX0_dueAtBest 39 = .ok (.ireturn, 1) := by decide +kernel
theorem dX0_closeYear_0 : decode cX0_closeYear 0 = .ok (.aload_n 0, 1) := by decide +kernel
theorem dX0_closeYear_1 : decode cX0_closeYear 1 = .ok (.getfield 47, 3) := by decide +kernel
theorem dX0_closeYear_4 : decode cX0_closeYear 4 = .ok (.bipush 9, 2) := by decide +kernel
theorem dX0_closeYear_6 : decode cX0_closeYear 6 = .ok (.iadd, 1) := by decide +kernel
theorem dX0_closeYear_7 : decode cX0_closeYear 7 = .ok (.bipush 10, 2) := by decide +kernel
theorem dX0_closeYear_9 : decode cX0_closeYear 9 = .ok (.idiv, 1) := by decide +kernel
theorem dX0_closeYear_10 : decode cX0_closeYear 10 = .ok (.istore_n 1, 1) := by decide +kernel
theorem dX0_closeYear_11 : decode cX0_closeYear 11 = .ok (.aload_n 0, 1) := by decide +kernel
theorem dX0_closeYear_12 : decode cX0_closeYear 12 = .ok (.aload_n 0, 1) := by decide +kernel
theorem dX0_closeYear_13 : decode cX0_closeYear 13 = .ok (.getfield 50, 3) := by decide +kernel
theorem dX0_closeYear_16 : decode cX0_closeYear 16 = .ok (.aload_n 0, 1) := by decide +kernel
theorem dX0_closeYear_17 : decode cX0_closeYear 17 = .ok (.getfield 47, 3) := by decide +kernel
theorem dX0_closeYear_20 : decode cX0_closeYear 20 = .ok (.iadd, 1) := by decide +kernel
theorem dX0_closeYear_21 : decode cX0_closeYear 21 = .ok (.iload_n 1, 1) := by decide +kernel
theorem dX0_closeYear_22 : decode cX0_closeYear 22 = .ok (.iadd, 1) := by decide +kernel
theorem dX0_closeYear_23 : decode cX0_closeYear 23 = .ok (.putfield 21, 3) := by decide +kernel
theorem dX0_closeYear_26 : decode cX0_closeYear 26 = .ok (.aload_n 0, 1) := by decide +kernel
theorem dX0_closeYear_27 : decode cX0_closeYear 27 = .ok (.dup, 1) := by decide +kernel
theorem dX0_closeYear_28 : decode cX0_closeYear 28 = .ok (.getfield 44, 3) := by decide +kernel
theorem dX0_closeYear_31 : decode cX0_closeYear 31 = .ok (.aload_n 0, 1) := by decide +kernel
theorem dX0_closeYear_32 : decode cX0_closeYear 32 = .ok (.getfield 21, 3) := by decide +kernel
theorem dX0_closeYear_35 : decode cX0_closeYear 35 = .ok (.iadd, 1) := by decide +kernel
theorem dX0_closeYear_36 : decode cX0_closeYear 36 = .ok (.putfield 44, 3) := by decide +kernel
theorem dX0_closeYear_39 : decode cX0_closeYear 39 = .ok (.aload_n 0, 1) := by decide +kernel
theorem dX0_closeYear_40 : decode cX0_closeYear 40 = .ok (.iconst 0, 1) := by decide +kernel
theorem dX0_closeYear_41 : decode cX0_closeYear 41 = .ok (.putfield 47, 3) := by decide +kernel
theorem dX0_closeYear_44 : decode cX0_closeYear 44 = .ok (.aload_n 0, 1) := by decide +kernel
theorem dX0_closeYear_45 : decode cX0_closeYear 45 = .ok (.iconst 0, 1) := by decide +kernel
theorem dX0_closeYear_46 : decode cX0_closeYear 46 = .ok (.putfield 50, 3) := by decide +kernel
theorem dX0_closeYear_49 : decode cX0_closeYear 49 = .ok (.iconst 0, 1) := by decide +kernel
theorem dX0_closeYear_50 : decode cX0_closeYear 50 = .ok (.istore_n 2, 1) := by decide +kernel
theorem dX0_closeYear_51 : decode cX0_closeYear 51 = .ok (.iload_n 2, 1) := by decide +kernel
theorem dX0_closeYear_52 : decode cX0_closeYear 52 = .ok (.iconst 3, 1) := by decide +kernel
theorem dX0_closeYear_53 : decode cX0_closeYear 53 = .ok (.if_icmp .ge 16, 3) := by decide +kernel
theorem dX0_closeYear_56 : decode cX0_closeYear 56 = .ok (.aload_n 0, 1) := by decide +kernel
theorem dX0_closeYear_57 : decode cX0_closeYear 57 = .ok (.getfield 18, 3) := by decide +kernel
theorem dX0_closeYear_60 : decode cX0_closeYear 60 = .ok (.iload_n 2, 1) := by decide +kernel
theorem dX0_closeYear_61 : decode cX0_closeYear 61 = .ok (.iconst 0, 1) := by decide +kernel
theorem dX0_closeYear_62 : decode cX0_closeYear 62 = .ok (.iastore, 1) := by decide +kernel
theorem dX0_closeYear_63 : decode cX0_closeYear 63 = .ok (.iinc 2 1, 3) := by decide +kernel
theorem dX0_closeYear_66 : decode cX0_closeYear 66 = .ok (.goto (-15), 3) := by decide +kernel
theorem dX0_closeYear_69 : decode cX0_closeYear 69 = .ok (.return_, 1) := by decide +kernel
theorem dX1_init_0 : decode cX1_init 0 = .ok (.aload_n 0, 1) := by decide +kernel
theorem dX1_init_1 : decode cX1_init 1 = .ok (.invokespecial 3, 3) := by decide +kernel
theorem dX1_init_4 : decode cX1_init 4 = .ok (.aload_n 0, 1) := by decide +kernel
theorem dX1_init_5 : decode cX1_init 5 = .ok (.iconst 4, 1) := by decide +kernel
theorem dX1_init_6 : decode cX1_init 6 = .ok (.anewarray 9, 3) := by decide +kernel
theorem dX1_init_9 : decode cX1_init 9 = .ok (.putfield 11, 3) := by decide +kernel
theorem dX1_init_12 : decode cX1_init 12 = .ok (.iconst 0, 1) := by decide +kernel
theorem dX1_init_13 : decode cX1_init 13 = .ok (.istore_n 1, 1) := by decide +kernel
theorem dX1_init_14 : decode cX1_init 14 = .ok (.iload_n 1, 1) := by decide +kernel
theorem dX1_init_15 : decode cX1_init 15 = .ok (.iconst 4, 1) := by decide +kernel
theorem dX1_init_16 : decode cX1_init 16 = .ok (.if_icmp .ge 22, 3) := by decide +kernel
theorem dX1_init_19 : decode cX1_init 19 = .ok (.aload_n 0, 1) := by decide +kernel
theorem dX1_init_20 : decode cX1_init 20 = .ok (.getfield 11, 3) := by decide +kernel
theorem dX1_init_23 : decode cX1_init 23 = .ok (.iload_n 1, 1) := by decide +kernel
theorem dX1_init_24 : decode cX1_init 24 = .ok (.new 9, 3) := by decide +kernel
theorem dX1_init_27 : decode cX1_init 27 = .ok (.dup, 1) := by decide +kernel
theorem dX1_init_28 : decode cX1_init 28 = .ok (.invokespecial 17, 3) := by decide +kernel
theorem dX1_init_31 : decode cX1_init 31 = .ok (.aastore, 1) := by decide +kernel
theorem dX1_init_32 : decode cX1_init 32 = .ok (.iinc 1 1, 3) := by decide +kernel
theorem dX1_init_35 : decode cX1_init 35 = .ok (.goto (-21), 3) := by decide +kernel
theorem dX1_init_38 : decode cX1_init 38 = .ok (.return_, 1) := by decide +kernel
theorem dX1_push_0 : decode cX1_push 0 = .ok (.aload_n 1, 1) := by decide +kernel
theorem dX1_push_1 : decode cX1_push 1 = .ok (.aload_n 0, 1) := by decide +kernel
theorem dX1_push_2 : decode cX1_push 2 = .ok (.getfield 11, 3) := by decide +kernel
theorem dX1_push_5 : decode cX1_push 5 = .ok (.aload_n 0, 1) := by decide +kernel
theorem dX1_push_6 : decode cX1_push 6 = .ok (.getfield 18, 3) := by decide +kernel
theorem dX1_push_9 : decode cX1_push 9 = .ok (.aaload, 1) := by decide +kernel
theorem dX1_push_10 : decode cX1_push 10 = .ok (.invokestatic 22, 3) := by decide +kernel
theorem dX1_push_13 : decode cX1_push 13 = .ok (.aload_n 0, 1) := by decide +kernel
theorem dX1_push_14 : decode cX1_push 14 = .ok (.aload_n 0, 1) := by decide +kernel
theorem dX1_push_15 : decode cX1_push 15 = .ok (.getfield 18, 3) := by decide +kernel
theorem dX1_push_18 : decode cX1_push 18 = .ok (.iconst 1, 1) := by decide +kernel
theorem dX1_push_19 : decode cX1_push 19 = .ok (.iadd, 1) := by decide +kernel
theorem dX1_push_20 : decode cX1_push 20 = .ok (.iconst 4, 1) := by decide +kernel
theorem dX1_push_21 : decode cX1_push 21 = .ok (.irem, 1) := by decide +kernel
theorem dX1_push_22 : decode cX1_push 22 = .ok (.putfield 18, 3) := by decide +kernel
theorem dX1_push_25 : decode cX1_push 25 = .ok (.aload_n 0, 1) := by decide +kernel
theorem dX1_push_26 : decode cX1_push 26 = .ok (.aload_n 0, 1) := by decide +kernel
theorem dX1_push_27 : decode cX1_push 27 = .ok (.getfield 26, 3) := by decide +kernel
theorem dX1_push_30 : decode cX1_push 30 = .ok (.iconst 1, 1) := by decide +kernel
theorem dX1_push_31 : decode cX1_push 31 = .ok (.iadd, 1) := by decide +kernel
theorem dX1_push_32 : decode cX1_push 32 = .ok (.iconst 4, 1) := by decide +kernel
theorem dX1_push_33 : decode cX1_push 33 = .ok (.invokestatic 29, 3) := by decide +kernel
theorem dX1_push_36 : decode cX1_push 36 = .ok (.putfield 26, 3) := by decide +kernel
theorem dX1_push_39 : decode cX1_push 39 = .ok (.return_, 1) := by decide +kernel
theorem dX1_popInto_0 : decode cX1_popInto 0 = .ok (.aload_n 0, 1) := by decide +kernel
theorem dX1_popInto_1 : decode cX1_popInto 1 = .ok (.aload_n 0, 1) := by decide +kernel
theorem dX1_popInto_2 : decode cX1_popInto 2 = .ok (.getfield 18, 3) := by decide +kernel
theorem dX1_popInto_5 : decode cX1_popInto 5 = .ok (.iconst 4, 1) := by decide +kernel
theorem dX1_popInto_6 : decode cX1_popInto 6 = .ok (.iadd, 1) := by decide +kernel
theorem dX1_popInto_7 : decode cX1_popInto 7 = .ok (.iconst 1, 1) := by decide +kernel
theorem dX1_popInto_8 : decode cX1_popInto 8 = .ok (.isub, 1) := by decide +kernel
theorem dX1_popInto_9 : decode cX1_popInto 9 = .ok (.iconst 4, 1) := by decide +kernel
theorem dX1_popInto_10 : decode cX1_popInto 10 = .ok (.irem, 1) := by decide +kernel
theorem dX1_popInto_11 : decode cX1_popInto 11 = .ok (.putfield 18, 3) := by decide +kernel
theorem dX1_popInto_14 : decode cX1_popInto 14 = .ok (.aload_n 0, 1) := by decide +kernel
theorem dX1_popInto_15 : decode cX1_popInto 15 = .ok (.dup, 1) := by decide +kernel
theorem dX1_popInto_16 : decode cX1_popInto 16 = .ok (.getfield 26, 3) := by decide +kernel
theorem dX1_popInto_19 : decode cX1_popInto 19 = .ok (.iconst 1, 1) := by decide +kernel
theorem dX1_popInto_20 : decode cX1_popInto 20 = .ok (.isub, 1) := by decide +kernel
theorem dX1_popInto_21 : decode cX1_popInto 21 = .ok (.putfield 26, 3) := by decide +kernel
theorem dX1_popInto_24 : decode cX1_popInto 24 = .ok (.aload_n 0, 1) := by decide +kernel
theorem dX1_popInto_25 : decode cX1_popInto 25 = .ok (.getfield 11, 3) := by decide +kernel
theorem dX1_popInto_28 : decode cX1_popInto 28 = .ok (.aload_n 0, 1) := by decide +kernel
theorem dX1_popInto_29 : decode cX1_popInto 29 = .ok (.getfield 18, 3) := by decide +kernel
theorem dX1_popInto_32 : decode cX1_popInto 32 = .ok (.aaload, 1) := by decide +kernel
theorem dX1_popInto_33 : decode cX1_popInto 33 = .ok (.aload_n 1, 1) := by decide +kernel
theorem dX1_popInto_34 : decode cX1_popInto 34 = .ok (.invokestatic 22, 3) := by decide +kernel
theorem dX1_popInto_37 : decode cX1_popInto 37 = .ok (.return_, 1) := by decide +kernel
theorem dX2_init_0 : decode cX2_init 0 = .ok (.aload_n 0, 1) := by decide +kernel
theorem dX2_init_1 : decode cX2_init 1 = .ok (.invokespecial 3, 3) := by decide +kernel
theorem dX2_init_4 : decode cX2_init 4 = .ok (.aload_n 0, 1) := by decide +kernel
theorem dX2_init_5 : decode cX2_init 5 = .ok (.getstatic 9, 3) := by decide +kernel
theorem dX2_init_8 : decode cX2_init 8 = .ok (.invokevirtual 13, 3) := by decide +kernel
theorem dX2_init_11 : decode cX2_init 11 = .ok (.checkcast 14, 3) := by decide +kernel
theorem dX2_init_14 : decode cX2_init 14 = .ok (.putfield 18, 3) := by decide +kernel
theorem dX2_init_17 : decode cX2_init 17 = .ok (.aload_n 0, 1) := by decide +kernel
theorem dX2_init_18 : decode cX2_init 18 = .ok (.bipush 8, 2) := by decide +kernel
theorem dX2_init_20 : decode cX2_init 20 = .ok (.anewarray 23, 3) := by decide +kernel
theorem dX2_init_23 : decode cX2_init 23 = .ok (.putfield 25, 3) := by decide +kernel
theorem dX2_init_26 : decode cX2_init 26 = .ok (.iconst 0, 1) := by decide +kernel
theorem dX2_init_27 : decode cX2_init 27 = .ok (.istore_n 1, 1) := by decide +kernel
theorem dX2_init_28 : decode cX2_init 28 = .ok (.iload_n 1, 1) := by decide +kernel
theorem dX2_init_29 : decode cX2_init 29 = .ok (.bipush 8, 2) := by decide +kernel
theorem dX2_init_31 : decode cX2_init 31 = .ok (.if_icmp .ge 22, 3) := by decide +kernel
theorem dX2_init_34 : decode cX2_init 34 = .ok (.aload_n 0, 1) := by decide +kernel
theorem dX2_init_35 : decode cX2_init 35 = .ok (.getfield 25, 3) := by decide +kernel
theorem dX2_init_38 : decode cX2_init 38 = .ok (.iload_n 1, 1) := by decide +kernel
theorem dX2_init_39 : decode cX2_init 39 = .ok (.new 23, 3) := by decide +kernel
theorem dX2_init_42 : decode cX2_init 42 = .ok (.dup, 1) := by decide +kernel
theorem dX2_init_43 : decode cX2_init 43 = .ok (.invokespecial 29, 3) := by decide +kernel
theorem dX2_init_46 : decode cX2_init 46 = .ok (.aastore, 1) := by decide +kernel
theorem dX2_init_47 : decode cX2_init 47 = .ok (.iinc 1 1, 3) := by decide +kernel
theorem dX2_init_50 : decode cX2_init 50 = .ok (.goto (-22), 3) := by decide +kernel
theorem dX2_init_53 : decode cX2_init 53 = .ok (.aload_n 0, 1) := by decide +kernel
theorem dX2_init_54 : decode cX2_init 54 = .ok (.bipush 20, 2) := by decide +kernel
theorem dX2_init_56 : decode cX2_init 56 = .ok (.newarray .int, 2) := by decide +kernel
theorem dX2_init_58 : decode cX2_init 58 = .ok (.putfield 30, 3) := by decide +kernel
theorem dX2_init_61 : decode cX2_init 61 = .ok (.aload_n 0, 1) := by decide +kernel
theorem dX2_init_62 : decode cX2_init 62 = .ok (.bipush 20, 2) := by decide +kernel
theorem dX2_init_64 : decode cX2_init 64 = .ok (.newarray .int, 2) := by decide +kernel
theorem dX2_init_66 : decode cX2_init 66 = .ok (.putfield 33, 3) := by decide +kernel
theorem dX2_init_69 : decode cX2_init 69 = .ok (.aload_n 0, 1) := by decide +kernel
theorem dX2_init_70 : decode cX2_init 70 = .ok (.bipush 20, 2) := by decide +kernel
theorem dX2_init_72 : decode cX2_init 72 = .ok (.newarray .int, 2) := by decide +kernel
theorem dX2_init_74 : decode cX2_init 74 = .ok (.putfield 36, 3) := by decide +kernel
theorem dX2_init_77 : decode cX2_init 77 = .ok (.aload_n 0, 1) := by decide +kernel
theorem dX2_init_78 : decode cX2_init 78 = .ok (.bipush 20, 2) := by decide +kernel
theorem dX2_init_80 : decode cX2_init 80 = .ok (.newarray .int, 2) := by decide +kernel
theorem dX2_init_82 : decode cX2_init 82 = .ok (.putfield 39, 3) := by decide +kernel
theorem dX2_init_85 : decode cX2_init 85 = .ok (.aload_n 0, 1) := by decide +kernel
theorem dX2_init_86 : decode cX2_init 86 = .ok (.iconst 3, 1) := by decide +kernel
theorem dX2_init_87 : decode cX2_init 87 = .ok (.newarray .int, 2) := by decide +kernel
theorem dX2_init_89 : decode cX2_init 89 = .ok (.putfield 42, 3) := by decide +kernel
theorem dX2_init_92 : decode cX2_init 92 = .ok (.aload_n 0, 1) := by decide +kernel
theorem dX2_init_93 : decode cX2_init 93 = .ok (.iconst 3, 1) := by decide +kernel
theorem dX2_init_94 : decode cX2_init 94 = .ok (.newarray .int, 2) := by decide +kernel
theorem dX2_init_96 : decode cX2_init 96 = .ok (.putfield 45, 3) := by decide +kernel
theorem dX2_init_99 : decode cX2_init 99 = .ok (.return_, 1) := by decide +kernel
theorem dX2_firmAt_0 : decode cX2_firmAt 0 = .ok (.iload_n 1, 1) := by decide +kernel
theorem dX2_firmAt_1 : decode cX2_firmAt 1 = .ok (.ifCond .lt 26, 3) := by decide +kernel
theorem dX2_firmAt_4 : decode cX2_firmAt 4 = .ok (.iload_n 1, 1) := by decide +kernel
theorem dX2_firmAt_5 : decode cX2_firmAt 5 = .ok (.aload_n 0, 1) := by decide +kernel
theorem dX2_firmAt_6 : decode cX2_firmAt 6 = .ok (.getfield 48, 3) := by decide +kernel
theorem dX2_firmAt_9 : decode cX2_firmAt 9 = .ok (.if_icmp .ge 18, 3) := by decide +kernel
theorem dX2_firmAt_12 : decode cX2_firmAt 12 = .ok (.iload_n 1, 1) := by decide +kernel
theorem dX2_firmAt_13 : decode cX2_firmAt 13 = .ok (.bipush 8, 2) := by decide +kernel
theorem dX2_firmAt_15 : decode cX2_firmAt 15 = .ok (.if_icmp .ge 12, 3) := by decide +kernel
theorem dX2_firmAt_18 : decode cX2_firmAt 18 = .ok (.aload_n 0, 1) := by decide +kernel
theorem dX2_firmAt_19 : decode cX2_firmAt 19 = .ok (.getfield 25, 3) := by decide +kernel
theorem dX2_firmAt_22 : decode cX2_firmAt 22 = .ok (.iload_n 1, 1) := by decide +kernel
theorem dX2_firmAt_23 : decode cX2_firmAt 23 = .ok (.aaload, 1) := by decide +kernel
theorem dX2_firmAt_24 : decode cX2_firmAt 24 = .ok (.goto 4, 3) := by decide +kernel
theorem dX2_firmAt_27 : decode cX2_firmAt 27 = .ok (.aconst_null, 1) := by decide +kernel
theorem dX2_firmAt_28 : decode cX2_firmAt 28 = .ok (.areturn, 1) := by decide +kernel
theorem dX2_year_0 : decode cX2_year 0 = .ok (.aload_n 0, 1) := by decide +kernel
theorem dX2_year_1 : decode cX2_year 1 = .ok (.getfield 52, 3) := by decide +kernel
theorem dX2_year_4 : decode cX2_year 4 = .ok (.bipush 12, 2) := by decide +kernel
theorem dX2_year_6 : decode cX2_year 6 = .ok (.idiv, 1) := by decide +kernel
theorem dX2_year_7 : decode cX2_year 7 = .ok (.ireturn, 1) := by decide +kernel
theorem dX2_moveError_0 : decode cX2_moveError 0 = .ok (.aload_n 0, 1) := by decide +kernel
theorem dX2_moveError_1 : decode cX2_moveError 1 = .ok (.iload_n 1, 1) := by decide +kernel
theorem dX2_moveError_2 : decode cX2_moveError 2 = .ok (.invokevirtual 55, 3) := by decide +kernel
theorem dX2_moveError_5 : decode cX2_moveError 5 = .ok (.astore 5, 2) := by decide +kernel
theorem dX2_moveError_7 : decode cX2_moveError 7 = .ok (.aload 5, 2) := by decide +kernel
theorem dX2_moveError_9 : decode cX2_moveError 9 = .ok (.ifnull 18, 3) := by decide +kernel
theorem dX2_moveError_12 : decode cX2_moveError 12 = .ok (.aload_n 0, 1) := by decide +kernel
theorem dX2_moveError_13 : decode cX2_moveError 13 = .ok (.iload_n 2, 1) := by decide +kernel
theorem dX2_moveError_14 : decode cX2_moveError 14 = .ok (.invokevirtual 55, 3) := by decide +kernel
theorem dX2_moveError_17 : decode cX2_moveError 17 = .ok (.ifnull 10, 3) := by decide +kernel
theorem dX2_moveError_20 : decode cX2_moveError 20 = .ok (.iload_n 3, 1) := by decide +kernel
theorem dX2_moveError_21 : decode cX2_moveError 21 = .ok (.invokestatic 59, 3) := by decide +kernel
theorem dX2_moveError_24 : decode cX2_moveError 24 = .ok (.ifCond .ne 5, 3) := by decide +kernel
theorem dX2_moveError_27 : decode cX2_moveError 27 = .ok (.iconst (-1), 1) := by decide +kernel
theorem dX2_moveError_28 : decode cX2_moveError 28 = .ok (.ireturn, 1) := by decide +kernel
theorem dX2_moveError_29 : decode cX2_moveError 29 = .ok (.iload 4, 2) := by decide +kernel
theorem dX2_moveError_31 : decode cX2_moveError 31 = .ok (.invokestatic 63, 3) := by decide +kernel
theorem dX2_moveError_34 : decode cX2_moveError 34 = .ok (.ifCond .eq 8, 3) := by decide +kernel
theorem dX2_moveError_37 : decode cX2_moveError 37 = .ok (.iload_n 1, 1) := by decide +kernel
theorem dX2_moveError_38 : decode cX2_moveError 38 = .ok (.iload_n 2, 1) := by decide +kernel
theorem dX2_moveError_39 : decode cX2_moveError 39 = .ok (.if_icmp .ne 6, 3) := by decide +kernel
theorem dX2_moveError_42 : decode cX2_moveError 42 = .ok (.bipush (-2), 2) := by decide +kernel
theorem dX2_moveError_44 : decode cX2_moveError 44 = .ok (.ireturn, 1) := by decide +kernel
theorem dX2_moveError_45 : decode cX2_moveError 45 = .ok (.aload 5, 2) := by decide +kernel
theorem dX2_moveError_47 : decode cX2_moveError 47 = .ok (.getfield 66, 3) := by decide +kernel
theorem dX2_moveError_50 : decode cX2_moveError 50 = .ok (.iload_n 3, 1) := by decide +kernel
theorem dX2_moveError_51 : decode cX2_moveError 51 = .ok (.iaload, 1) := by decide +kernel
theorem dX2_moveError_52 : decode cX2_moveError 52 = .ok (.iload 4, 2) := by decide +kernel
theorem dX2_moveError_54 : decode cX2_moveError 54 = .ok (.if_icmp .ge 8, 3) := by decide +kernel
theorem dX2_moveError_57 : decode cX2_moveError 57 = .ok (.bipush (-4), 2) := by decide +kernel
theorem dX2_moveError_59 : decode cX2_moveError 59 = .ok (.goto 4, 3) := by decide +kernel
theorem dX2_moveError_62 : decode cX2_moveError 62 = .ok (.iconst 0, 1) := by decide +kernel
theorem dX2_moveError_63 : decode cX2_moveError 63 = .ok (.ireturn, 1) := by decide +kernel
theorem dX2_move_0 : decode cX2_move 0 = .ok (.aload_n 0, 1) := by decide +kernel
theorem dX2_move_1 : decode cX2_move 1 = .ok (.iload_n 1, 1) := by decide +kernel
theorem dX2_move_2 : decode cX2_move 2 = .ok (.invokevirtual 55, 3) := by decide +kernel
theorem dX2_move_5 : decode cX2_move 5 = .ok (.astore 5, 2) := by decide +kernel
theorem dX2_move_7 : decode cX2_move 7 = .ok (.aload_n 0, 1) := by decide +kernel
theorem dX2_move_8 : decode cX2_move 8 = .ok (.iload_n 2, 1) := by decide +kernel
theorem dX2_move_9 : decode cX2_move 9 = .ok (.invokevirtual 55, 3) := by decide +kernel
theorem dX2_move_12 : decode cX2_move 12 = .ok (.astore 6, 2) := by decide +kernel
theorem dX2_move_14 : decode cX2_move 14 = .ok (.aload 5, 2) := by decide +kernel
theorem dX2_move_16 : decode cX2_move 16 = .ok (.ifnull 15, 3) := by decide +kernel
theorem dX2_move_19 : decode cX2_move 19 = .ok (.aload 6, 2) := by decide +kernel
theorem dX2_move_21 : decode cX2_move 21 = .ok (.ifnull 10, 3) := by decide +kernel
theorem dX2_move_24 : decode cX2_move 24 = .ok (.iload_n 3, 1) := by decide +kernel
theorem dX2_move_25 : decode cX2_move 25 = .ok (.invokestatic 59, 3) := by decide +kernel
theorem dX2_move_28 : decode cX2_move 28 = .ok (.ifCond .ne 5, 3) := by decide +kernel
theorem dX2_move_31 : decode cX2_move 31 = .ok (.iconst (-1), 1) := by decide +kernel
theorem dX2_move_32 : decode cX2_move 32 = .ok (.ireturn, 1) := by decide +kernel
theorem dX2_move_33 : decode cX2_move 33 = .ok (.aload 5, 2) := by decide +kernel
theorem dX2_move_35 : decode cX2_move 35 = .ok (.getfield 66, 3) := by decide +kernel
theorem dX2_move_38 : decode cX2_move 38 = .ok (.iload_n 3, 1) := by decide +kernel
theorem dX2_move_39 : decode cX2_move 39 = .ok (.dup2, 1) := by decide +kernel
theorem dX2_move_40 : decode cX2_move 40 = .ok (.iaload, 1) := by decide +kernel
theorem dX2_move_41 : decode cX2_move 41 = .ok (.iload 4, 2) := by decide +kernel
theorem dX2_move_43 : decode cX2_move 43 = .ok (.isub, 1) := by decide +kernel
theorem dX2_move_44 : decode cX2_move 44 = .ok (.iastore, 1) := by decide +kernel
theorem dX2_move_45 : decode cX2_move 45 = .ok (.aload 6, 2) := by decide +kernel
theorem dX2_move_47 : decode cX2_move 47 = .ok (.getfield 66, 3) := by decide +kernel
theorem dX2_move_50 : decode cX2_move 50 = .ok (.iload_n 3, 1) := by decide +kernel
theorem dX2_move_51 : decode cX2_move 51 = .ok (.dup2, 1) := by decide +kernel
theorem dX2_move_52 : decode cX2_move 52 = .ok (.iaload, 1) := by decide +kernel
theorem dX2_move_53 : decode cX2_move 53 = .ok (.iload 4, 2) := by decide +kernel
theorem dX2_move_55 : decode cX2_move 55 = .ok (.iadd, 1) := by decide +kernel
theorem dX2_move_56 : decode cX2_move 56 = .ok (.iastore, 1) := by decide +kernel
theorem dX2_move_57 : decode cX2_move 57 = .ok (.aload 5, 2) := by decide +kernel
theorem dX2_move_59 : decode cX2_move 59 = .ok (.getfield 66, 3) := by decide +kernel
theorem dX2_move_62 : decode cX2_move 62 = .ok (.iload_n 3, 1) := by decide +kernel
theorem dX2_move_63 : decode cX2_move 63 = .ok (.iaload, 1) := by decide +kernel
theorem dX2_move_64 : decode cX2_move 64 = .ok (.ireturn, 1) := by decide +kernel
theorem dX2_takeFrom_0 : decode cX2_takeFrom 0 = .ok (.iconst 0, 1) := by decide +kernel
theorem dX2_takeFrom_1 : decode cX2_takeFrom 1 = .ok (.istore_n 3, 1) := by decide +kernel
theorem dX2_takeFrom_2 : decode cX2_takeFrom 2 = .ok (.iload_n 3, 1) := by decide +kernel
theorem dX2_takeFrom_3 : decode cX2_takeFrom 3 = .ok (.bipush 20, 2) := by decide +kernel
theorem dX2_takeFrom_5 : decode cX2_takeFrom 5 = .ok (.if_icmp .ge 39, 3) := by decide +kernel
theorem dX2_takeFrom_8 : decode cX2_takeFrom 8 = .ok (.aload_n 2, 1) := by decide +kernel
theorem dX2_takeFrom_9 : decode cX2_takeFrom 9 = .ok (.getfield 69, 3) := by decide +kernel
theorem dX2_takeFrom_12 : decode cX2_takeFrom 12 = .ok (.iload_n 3, 1) := by decide +kernel
theorem dX2_takeFrom_13 : decode cX2_takeFrom 13 = .ok (.iaload, 1) := by decide +kernel
theorem dX2_takeFrom_14 : decode cX2_takeFrom 14 = .ok (.istore 4, 2) := by decide +kernel
theorem dX2_takeFrom_16 : decode cX2_takeFrom 16 = .ok (.aload_n 1, 1) := by decide +kernel
theorem dX2_takeFrom_17 : decode cX2_takeFrom 17 = .ok (.getfield 66, 3) := by decide +kernel
theorem dX2_takeFrom_20 : decode cX2_takeFrom 20 = .ok (.iload_n 3, 1) := by decide +kernel
theorem dX2_takeFrom_21 : decode cX2_takeFrom 21 = .ok (.dup2, 1) := by decide +kernel
theorem dX2_takeFrom_22 : decode cX2_takeFrom 22 = .ok (.iaload, 1) := by decide +kernel
theorem dX2_takeFrom_23 : decode cX2_takeFrom 23 = .ok (.iload 4, 2) := by decide +kernel
theorem dX2_takeFrom_25 : decode cX2_takeFrom 25 = .ok (.isub, 1) := by decide +kernel
theorem dX2_takeFrom_26 : decode cX2_takeFrom 26 = .ok (.iastore, 1) := by decide +kernel
theorem dX2_takeFrom_27 : decode cX2_takeFrom 27 = .ok (.aload_n 0, 1) := by decide +kernel
theorem dX2_takeFrom_28 : decode cX2_takeFrom 28 = .ok (.getfield 33, 3) := by decide +kernel
theorem dX2_takeFrom_31 : decode cX2_takeFrom 31 = .ok (.iload_n 3, 1) := by decide +kernel
theorem dX2_takeFrom_32 : decode cX2_takeFrom 32 = .ok (.dup2, 1) := by decide +kernel
theorem dX2_takeFrom_33 : decode cX2_takeFrom 33 = .ok (.iaload, 1) := by decide +kernel
theorem dX2_takeFrom_34 : decode cX2_takeFrom 34 = .ok (.iload 4, 2) := by decide +kernel
theorem dX2_takeFrom_36 : decode cX2_takeFrom 36 = .ok (.iadd, 1) := by decide +kernel
theorem dX2_takeFrom_37 : decode cX2_takeFrom 37 = .ok (.iastore, 1) := by decide +kernel
theorem dX2_takeFrom_38 : decode cX2_takeFrom 38 = .ok (.iinc 3 1, 3) := by decide +kernel
theorem dX2_takeFrom_41 : decode cX2_takeFrom 41 = .ok (.goto (-39), 3) := by decide +kernel
theorem dX2_takeFrom_44 : decode cX2_takeFrom 44 = .ok (.iconst 0, 1) := by decide +kernel
theorem dX2_takeFrom_45 : decode cX2_takeFrom 45 = .ok (.istore_n 3, 1) := by decide +kernel
theorem dX2_takeFrom_46 : decode cX2_takeFrom 46 = .ok (.iload_n 3, 1) := by decide +kernel
theorem dX2_takeFrom_47 : decode cX2_takeFrom 47 = .ok (.iconst 3, 1) := by decide +kernel
theorem dX2_takeFrom_48 : decode cX2_takeFrom 48 = .ok (.if_icmp .ge 50, 3) := by decide +kernel
theorem dX2_takeFrom_51 : decode cX2_takeFrom 51 = .ok (.aload_n 2, 1) := by decide +kernel
theorem dX2_takeFrom_52 : decode cX2_takeFrom 52 = .ok (.getfield 74, 3) := by decide +kernel
theorem dX2_takeFrom_55 : decode cX2_takeFrom 55 = .ok (.iload_n 3, 1) := by decide +kernel
theorem dX2_takeFrom_56 : decode cX2_takeFrom 56 = .ok (.iaload, 1) := by decide +kernel
theorem dX2_takeFrom_57 : decode cX2_takeFrom 57 = .ok (.istore 4, 2) := by decide +kernel
theorem dX2_takeFrom_59 : decode cX2_takeFrom 59 = .ok (.aload_n 1, 1) := by decide +kernel
theorem dX2_takeFrom_60 : decode cX2_takeFrom 60 = .ok (.getfield 77, 3) := by decide +kernel
theorem dX2_takeFrom_63 : decode cX2_takeFrom 63 = .ok (.iload_n 3, 1) := by decide +kernel
theorem dX2_takeFrom_64 : decode cX2_takeFrom 64 = .ok (.dup2, 1) := by decide +kernel
theorem dX2_takeFrom_65 : decode cX2_takeFrom 65 = .ok (.iaload, 1) := by decide +kernel
theorem dX2_takeFrom_66 : decode cX2_takeFrom 66 = .ok (.iload 4, 2) := by decide +kernel
theorem dX2_takeFrom_68 : decode cX2_takeFrom 68 = .ok (.isub, 1) := by decide +kernel
theorem dX2_takeFrom_69 : decode cX2_takeFrom 69 = .ok (.iastore, 1) := by decide +kernel
theorem dX2_takeFrom_70 : decode cX2_takeFrom 70 = .ok (.aload_n 1, 1) := by decide +kernel
theorem dX2_takeFrom_71 : decode cX2_takeFrom 71 = .ok (.getfield 80, 3) := by decide +kernel
theorem dX2_takeFrom_74 : decode cX2_takeFrom 74 = .ok (.iload_n 3, 1) := by decide +kernel
theorem dX2_takeFrom_75 : decode cX2_takeFrom 75 = .ok (.dup2, 1) := by decide +kernel
theorem dX2_takeFrom_76 : decode cX2_takeFrom 76 = .ok (.iaload, 1) := by decide +kernel
theorem dX2_takeFrom_77 : decode cX2_takeFrom 77 = .ok (.iload 4, 2) := by decide +kernel
theorem dX2_takeFrom_79 : decode cX2_takeFrom 79 = .ok (.iadd, 1) := by decide +kernel
theorem dX2_takeFrom_80 : decode cX2_takeFrom 80 = .ok (.iastore, 1) := by decide +kernel
theorem dX2_takeFrom_81 : decode cX2_takeFrom 81 = .ok (.aload_n 0, 1) := by decide +kernel
theorem dX2_takeFrom_82 : decode cX2_takeFrom 82 = .ok (.getfield 45, 3) := by decide +kernel
theorem dX2_takeFrom_85 : decode cX2_takeFrom 85 = .ok (.iload_n 3, 1) := by decide +kernel
theorem dX2_takeFrom_86 : decode cX2_takeFrom 86 = .ok (.dup2, 1) := by decide +kernel
theorem dX2_takeFrom_87 : decode cX2_takeFrom 87 = .ok (.iaload, 1) := by decide +kernel
theorem dX2_takeFrom_88 : decode cX2_takeFrom 88 = .ok (.iload 4, 2) := by decide +kernel
theorem dX2_takeFrom_90 : decode cX2_takeFrom 90 = .ok (.iadd, 1) := by decide +kernel
theorem dX2_takeFrom_91 : decode cX2_takeFrom 91 = .ok (.iastore, 1) := by decide +kernel
theorem dX2_takeFrom_92 : decode cX2_takeFrom 92 = .ok (.iinc 3 1, 3) := by decide +kernel
theorem dX2_takeFrom_95 : decode cX2_takeFrom 95 = .ok (.goto (-49), 3) := by decide +kernel
theorem dX2_takeFrom_98 : decode cX2_takeFrom 98 = .ok (.return_, 1) := by decide +kernel
theorem dX2_beginMonth_0 : decode cX2_beginMonth 0 = .ok (.aload_n 0, 1) := by decide +kernel
theorem dX2_beginMonth_1 : decode cX2_beginMonth 1 = .ok (.dup, 1) := by decide +kernel
theorem dX2_beginMonth_2 : decode cX2_beginMonth 2 = .ok (.getfield 52, 3) := by decide +kernel
theorem dX2_beginMonth_5 : decode cX2_beginMonth 5 = .ok (.iconst 1, 1) := by decide +kernel
theorem dX2_beginMonth_6 : decode cX2_beginMonth 6 = .ok (.iadd, 1) := by decide +kernel
theorem dX2_beginMonth_7 : decode cX2_beginMonth 7 = .ok (.putfield 52, 3) := by decide +kernel
theorem dX2_beginMonth_10 : decode cX2_beginMonth 10 = .ok (.aload_n 0, 1) := by decide +kernel
theorem dX2_beginMonth_11 : decode cX2_beginMonth 11 = .ok (.getfield 52, 3) := by decide +kernel
theorem dX2_beginMonth_14 : decode cX2_beginMonth 14 = .ok (.bipush 12, 2) := by decide +kernel
theorem dX2_beginMonth_16 : decode cX2_beginMonth 16 = .ok (.irem, 1) := by decide +kernel
theorem dX2_beginMonth_17 : decode cX2_beginMonth 17 = .ok (.ifCond .ne 7, 3) := by decide +kernel
theorem dX2_beginMonth_20 : decode cX2_beginMonth 20 = .ok (.aload_n 0, 1) := by decide +kernel
theorem dX2_beginMonth_21 : decode cX2_beginMonth 21 = .ok (.invokevirtual 83, 3) := by decide +kernel
theorem dX2_beginMonth_24 : decode cX2_beginMonth 24 = .ok (.aload_n 0, 1) := by decide +kernel
theorem dX2_beginMonth_25 : decode cX2_beginMonth 25 = .ok (.getfield 52, 3) := by decide +kernel
theorem dX2_beginMonth_28 : decode cX2_beginMonth 28 = .ok (.bipush 12, 2) := by decide +kernel
theorem dX2_beginMonth_30 : decode cX2_beginMonth 30 = .ok (.irem, 1) := by decide +kernel
theorem dX2_beginMonth_31 : decode cX2_beginMonth 31 = .ok (.iconst 4, 1) := by decide +kernel
theorem dX2_beginMonth_32 : decode cX2_beginMonth 32 = .ok (.if_icmp .ne 17, 3) := by decide +kernel
theorem dX2_beginMonth_35 : decode cX2_beginMonth 35 = .ok (.aload_n 0, 1) := by decide +kernel
theorem dX2_beginMonth_36 : decode cX2_beginMonth 36 = .ok (.invokevirtual 86, 3) := by decide +kernel
theorem dX2_beginMonth_39 : decode cX2_beginMonth 39 = .ok (.ifCond .eq 10, 3) := by decide +kernel
theorem dX2_beginMonth_42 : decode cX2_beginMonth 42 = .ok (.aload_n 0, 1) := by decide +kernel
theorem dX2_beginMonth_43 : decode cX2_beginMonth 43 = .ok (.invokevirtual 90, 3) := by decide +kernel
theorem dX2_beginMonth_46 : decode cX2_beginMonth 46 = .ok (.goto 4, 3) := by decide +kernel
theorem dX2_beginMonth_49 : decode cX2_beginMonth 49 = .ok (.iconst 0, 1) := by decide +kernel
theorem dX2_beginMonth_50 : decode cX2_beginMonth 50 = .ok (.ireturn, 1) := by decide +kernel
theorem dX2_beginYear_0 : decode cX2_beginYear 0 = .ok (.aload_n 0, 1) := by decide +kernel
theorem dX2_beginYear_1 : decode cX2_beginYear 1 = .ok (.getfield 25, 3) := by decide +kernel
theorem dX2_beginYear_4 : decode cX2_beginYear 4 = .ok (.astore_n 1, 1) := by decide +kernel
theorem dX2_beginYear_5 : decode cX2_beginYear 5 = .ok (.aload_n 1, 1) := by decide +kernel
theorem dX2_beginYear_6 : decode cX2_beginYear 6 = .ok (.arraylength, 1) := by decide +kernel
theorem dX2_beginYear_7 : decode cX2_beginYear 7 = .ok (.istore_n 2, 1) := by decide +kernel
theorem dX2_beginYear_8 : decode cX2_beginYear 8 = .ok (.iconst 0, 1) := by decide +kernel
theorem dX2_beginYear_9 : decode cX2_beginYear 9 = .ok (.istore_n 3, 1) := by decide +kernel
theorem dX2_beginYear_10 : decode cX2_beginYear 10 = .ok (.iload_n 3, 1) := by decide +kernel
theorem dX2_beginYear_11 : decode cX2_beginYear 11 = .ok (.iload_n 2, 1) := by decide +kernel
theorem dX2_beginYear_12 : decode cX2_beginYear 12 = .ok (.if_icmp .ge 19, 3) := by decide +kernel
theorem dX2_beginYear_15 : decode cX2_beginYear 15 = .ok (.aload_n 1, 1) := by decide +kernel
theorem dX2_beginYear_16 : decode cX2_beginYear 16 = .ok (.iload_n 3, 1) := by decide +kernel
theorem dX2_beginYear_17 : decode cX2_beginYear 17 = .ok (.aaload, 1) := by decide +kernel
theorem dX2_beginYear_18 : decode cX2_beginYear 18 = .ok (.astore 4, 2) := by decide +kernel
theorem dX2_beginYear_20 : decode cX2_beginYear 20 = .ok (.aload 4, 2) := by decide +kernel
theorem dX2_beginYear_22 : decode cX2_beginYear 22 = .ok (.invokevirtual 93, 3) := by decide +kernel
theorem dX2_beginYear_25 : decode cX2_beginYear 25 = .ok (.iinc 3 1, 3) := by decide +kernel
theorem dX2_beginYear_28 : decode cX2_beginYear 28 = .ok (.goto (-18), 3) := by decide +kernel
theorem dX2_beginYear_31 : decode cX2_beginYear 31 = .ok (.iconst 0, 1) := by decide +kernel
theorem dX2_beginYear_32 : decode cX2_beginYear 32 = .ok (.istore_n 1, 1) := by decide +kernel
theorem dX2_beginYear_33 : decode cX2_beginYear 33 = .ok (.iload_n 1, 1) := by decide +kernel
theorem dX2_beginYear_34 : decode cX2_beginYear 34 = .ok (.bipush 20, 2) := by decide +kernel
theorem dX2_beginYear_36 : decode cX2_beginYear 36 = .ok (.if_icmp .ge 29, 3) := by decide +kernel
theorem dX2_beginYear_39 : decode cX2_beginYear 39 = .ok (.aload_n 0, 1) := by decide +kernel
theorem dX2_beginYear_40 : decode cX2_beginYear 40 = .ok (.invokevirtual 86, 3) := by decide +kernel
theorem dX2_beginYear_43 : decode cX2_beginYear 43 = .ok (.iload_n 1, 1) := by decide +kernel
theorem dX2_beginYear_44 : decode cX2_beginYear 44 = .ok (.aload_n 0, 1) := by decide +kernel
theorem dX2_beginYear_45 : decode cX2_beginYear 45 = .ok (.getfield 18, 3) := by decide +kernel
theorem dX2_beginYear_48 : decode cX2_beginYear 48 = .ok (.iconst 3, 1) := by decide +kernel
theorem dX2_beginYear_49 : decode cX2_beginYear 49 = .ok (.iaload, 1) := by decide +kernel
theorem dX2_beginYear_50 : decode cX2_beginYear 50 = .ok (.iadd, 1) := by decide +kernel
theorem dX2_beginYear_51 : decode cX2_beginYear 51 = .ok (.if_icmp .le 8, 3) := by decide +kernel
theorem dX2_beginYear_54 : decode cX2_beginYear 54 = .ok (.aload_n 0, 1) := by decide +kernel
theorem dX2_beginYear_55 : decode cX2_beginYear 55 = .ok (.iload_n 1, 1) := by decide +kernel
theorem dX2_beginYear_56 : decode cX2_beginYear 56 = .ok (.invokevirtual 96, 3) := by decide +kernel
theorem dX2_beginYear_59 : decode cX2_beginYear 59 = .ok (.iinc 1 1, 3) := by decide +kernel
theorem dX2_beginYear_62 : decode cX2_beginYear 62 = .ok (.goto (-29), 3) := by decide +kernel
theorem dX2_beginYear_65 : decode cX2_beginYear 65 = .ok (.return_, 1) := by decide +kernel
theorem dX2_loseAll_0 : decode cX2_loseAll 0 = .ok (.aload_n 0, 1) := by decide +kernel
theorem dX2_loseAll_1 : decode cX2_loseAll 1 = .ok (.getfield 25, 3) := by decide +kernel
theorem dX2_loseAll_4 : decode cX2_loseAll 4 = .ok (.astore_n 2, 1) := by decide +kernel
theorem dX2_loseAll_5 : decode cX2_loseAll 5 = .ok (.aload_n 2, 1) := by decide +kernel
theorem dX2_loseAll_6 : decode cX2_loseAll 6 = .ok (.arraylength, 1) := by decide +kernel
theorem dX2_loseAll_7 : decode cX2_loseAll 7 = .ok (.istore_n 3, 1) := by decide +kernel
theorem dX2_loseAll_8 : decode cX2_loseAll 8 = .ok (.iconst 0, 1) := by decide +kernel
theorem dX2_loseAll_9 : decode cX2_loseAll 9 = .ok (.istore 4, 2) := by decide +kernel
theorem dX2_loseAll_11 : decode cX2_loseAll 11 = .ok (.iload 4, 2) := by decide +kernel
theorem dX2_loseAll_13 : decode cX2_loseAll 13 = .ok (.iload_n 3, 1) := by decide +kernel
theorem dX2_loseAll_14 : decode cX2_loseAll 14 = .ok (.if_icmp .ge 39, 3) := by decide +kernel
theorem dX2_loseAll_17 : decode cX2_loseAll 17 = .ok (.aload_n 2, 1) := by decide +kernel
theorem dX2_loseAll_18 : decode cX2_loseAll 18 = .ok (.iload 4, 2) := by decide +kernel
theorem dX2_loseAll_20 : decode cX2_loseAll 20 = .ok (.aaload, 1) := by decide +kernel
theorem dX2_loseAll_21 : decode cX2_loseAll 21 = .ok (.astore 5, 2) := by decide +kernel
theorem dX2_loseAll_23 : decode cX2_loseAll 23 = .ok (.aload_n 0, 1) := by decide +kernel
theorem dX2_loseAll_24 : decode cX2_loseAll 24 = .ok (.getfield 39, 3) := by decide +kernel
theorem dX2_loseAll_27 : decode cX2_loseAll 27 = .ok (.iload_n 1, 1) := by decide +kernel
theorem dX2_loseAll_28 : decode cX2_loseAll 28 = .ok (.dup2, 1) := by decide +kernel
theorem dX2_loseAll_29 : decode cX2_loseAll 29 = .ok (.iaload, 1) := by decide +kernel
theorem dX2_loseAll_30 : decode cX2_loseAll 30 = .ok (.aload 5, 2) := by decide +kernel
theorem dX2_loseAll_32 : decode cX2_loseAll 32 = .ok (.getfield 66, 3) := by decide +kernel
theorem dX2_loseAll_35 : decode cX2_loseAll 35 = .ok (.iload_n 1, 1) := by decide +kernel
theorem dX2_loseAll_36 : decode cX2_loseAll 36 = .ok (.iaload, 1) := by decide +kernel
theorem dX2_loseAll_37 : decode cX2_loseAll 37 = .ok (.iadd, 1) := by decide +kernel
theorem dX2_loseAll_38 : decode cX2_loseAll 38 = .ok (.iastore, 1) := by decide +kernel
theorem dX2_loseAll_39 : decode cX2_loseAll 39 = .ok (.aload 5, 2) := by decide +kernel
theorem dX2_loseAll_41 : decode cX2_loseAll 41 = .ok (.getfield 66, 3) := by decide +kernel
theorem dX2_loseAll_44 : decode cX2_loseAll 44 = .ok (.iload_n 1, 1) := by decide +kernel
theorem dX2_loseAll_45 : decode cX2_loseAll 45 = .ok (.iconst 0, 1) := by decide +kernel
theorem dX2_loseAll_46 : decode cX2_loseAll 46 = .ok (.iastore, 1) := by decide +kernel
theorem dX2_loseAll_47 : decode cX2_loseAll 47 = .ok (.iinc 4 1, 3) := by decide +kernel
theorem dX2_loseAll_50 : decode cX2_loseAll 50 = .ok (.goto (-39), 3) := by decide +kernel
theorem dX2_loseAll_53 : decode cX2_loseAll 53 = .ok (.return_, 1) := by decide +kernel
theorem dX2_fineAll_0 : decode cX2_fineAll 0 = .ok (.iconst 0, 1) := by decide +kernel
theorem dX2_fineAll_1 : decode cX2_fineAll 1 = .ok (.istore_n 1, 1) := by decide +kernel
theorem dX2_fineAll_2 : decode cX2_fineAll 2 = .ok (.aload_n 0, 1) := by decide +kernel
theorem dX2_fineAll_3 : decode cX2_fineAll 3 = .ok (.getfield 25, 3) := by decide +kernel
theorem dX2_fineAll_6 : decode cX2_fineAll 6 = .ok (.astore_n 2, 1) := by decide +kernel
theorem dX2_fineAll_7 : decode cX2_fineAll 7 = .ok (.aload_n 2, 1) := by decide +kernel
theorem dX2_fineAll_8 : decode cX2_fineAll 8 = .ok (.arraylength, 1) := by decide +kernel
theorem dX2_fineAll_9 : decode cX2_fineAll 9 = .ok (.istore_n 3, 1) := by decide +kernel
theorem dX2_fineAll_10 : decode cX2_fineAll 10 = .ok (.iconst 0, 1) := by decide +kernel
theorem dX2_fineAll_11 : decode cX2_fineAll 11 = .ok (.istore 4, 2) := by decide +kernel
theorem dX2_fineAll_13 : decode cX2_fineAll 13 = .ok (.iload 4, 2) := by decide +kernel
theorem dX2_fineAll_15 : decode cX2_fineAll 15 = .ok (.iload_n 3, 1) := by decide +kernel
theorem dX2_fineAll_16 : decode cX2_fineAll 16 = .ok (.if_icmp .ge 46, 3) := by decide +kernel
theorem dX2_fineAll_19 : decode cX2_fineAll 19 = .ok (.aload_n 2, 1) := by decide +kernel
theorem dX2_fineAll_20 : decode cX2_fineAll 20 = .ok (.iload 4, 2) := by decide +kernel
theorem dX2_fineAll_22 : decode cX2_fineAll 22 = .ok (.aaload, 1) := by decide +kernel
theorem dX2_fineAll_23 : decode cX2_fineAll 23 = .ok (.astore 5, 2) := by decide +kernel
theorem dX2_fineAll_25 : decode cX2_fineAll 25 = .ok (.aload 5, 2) := by decide +kernel
theorem dX2_fineAll_27 : decode cX2_fineAll 27 = .ok (.getfield 100, 3) := by decide +kernel
theorem dX2_fineAll_30 : decode cX2_fineAll 30 = .ok (.aload_n 0, 1) := by decide +kernel
theorem dX2_fineAll_31 : decode cX2_fineAll 31 = .ok (.getfield 18, 3) := by decide +kernel
theorem dX2_fineAll_34 : decode cX2_fineAll 34 = .ok (.iconst 4, 1) := by decide +kernel
theorem dX2_fineAll_35 : decode cX2_fineAll 35 = .ok (.iaload, 1) := by decide +kernel
theorem dX2_fineAll_36 : decode cX2_fineAll 36 = .ok (.imul, 1) := by decide +kernel
theorem dX2_fineAll_37 : decode cX2_fineAll 37 = .ok (.istore 6, 2) := by decide +kernel
theorem dX2_fineAll_39 : decode cX2_fineAll 39 = .ok (.aload 5, 2) := by decide +kernel
theorem dX2_fineAll_41 : decode cX2_fineAll 41 = .ok (.dup, 1) := by decide +kernel
theorem dX2_fineAll_42 : decode cX2_fineAll 42 = .ok (.getfield 103, 3) := by decide +kernel
theorem dX2_fineAll_45 : decode cX2_fineAll 45 = .ok (.iload 6, 2) := by decide +kernel
theorem dX2_fineAll_47 : decode cX2_fineAll 47 = .ok (.iadd, 1) := by decide +kernel
theorem dX2_fineAll_48 : decode cX2_fineAll 48 = .ok (.putfield 103, 3) := by decide +kernel
theorem dX2_fineAll_51 : decode cX2_fineAll 51 = .ok (.iload_n 1, 1) := by decide +kernel
theorem dX2_fineAll_52 : decode cX2_fineAll 52 = .ok (.iload 6, 2) := by decide +kernel
theorem dX2_fineAll_54 : decode cX2_fineAll 54 = .ok (.iadd, 1) := by decide +kernel
theorem dX2_fineAll_55 : decode cX2_fineAll 55 = .ok (.istore_n 1, 1) := by decide +kernel
theorem dX2_fineAll_56 : decode cX2_fineAll 56 = .ok (.iinc 4 1, 3) := by decide +kernel
theorem dX2_fineAll_59 : decode cX2_fineAll 59 = .ok (.goto (-46), 3) := by decide +kernel
theorem dX2_fineAll_62 : decode cX2_fineAll 62 = .ok (.iload_n 1, 1) := by decide +kernel
theorem dX2_fineAll_63 : decode cX2_fineAll 63 = .ok (.ireturn, 1) := by decide +kernel
theorem dX2_heldOf_0 : decode cX2_heldOf 0 = .ok (.iconst 0, 1) := by decide +kernel
theorem dX2_heldOf_1 : decode cX2_heldOf 1 = .ok (.istore_n 2, 1) := by decide +kernel
theorem dX2_heldOf_2 : decode cX2_heldOf 2 = .ok (.aload_n 0, 1) := by decide +kernel
theorem dX2_heldOf_3 : decode cX2_heldOf 3 = .ok (.getfield 25, 3) := by decide +kernel
theorem dX2_heldOf_6 : decode cX2_heldOf 6 = .ok (.astore_n 3, 1) := by decide +kernel
theorem dX2_heldOf_7 : decode cX2_heldOf 7 = .ok (.aload_n 3, 1) := by decide +kernel
theorem dX2_heldOf_8 : decode cX2_heldOf 8 = .ok (.arraylength, 1) := by decide +kernel
theorem dX2_heldOf_9 : decode cX2_heldOf 9 = .ok (.istore 4, 2) := by decide +kernel
theorem dX2_heldOf_11 : decode cX2_heldOf 11 = .ok (.iconst 0, 1) := by decide +kernel
theorem dX2_heldOf_12 : decode cX2_heldOf 12 = .ok (.istore 5, 2) := by decide +kernel
theorem dX2_heldOf_14 : decode cX2_heldOf 14 = .ok (.iload 5, 2) := by decide +kernel
theorem dX2_heldOf_16 : decode cX2_heldOf 16 = .ok (.iload 4, 2) := by decide +kernel
theorem dX2_heldOf_18 : decode cX2_heldOf 18 = .ok (.if_icmp .ge 25, 3) := by decide +kernel
theorem dX2_heldOf_21 : decode cX2_heldOf 21 = .ok (.aload_n 3, 1) := by decide +kernel
theorem dX2_heldOf_22 : decode cX2_heldOf 22 = .ok (.iload 5, 2) := by decide +kernel
theorem dX2_heldOf_24 : decode cX2_heldOf 24 = .ok (.aaload, 1) := by decide +kernel
theorem dX2_heldOf_25 : decode cX2_heldOf 25 = .ok (.astore 6, 2) := by decide +kernel
theorem dX2_heldOf_27 : decode cX2_heldOf 27 = .ok (.iload_n 2, 1) := by decide +kernel
theorem dX2_heldOf_28 : decode cX2_heldOf 28 = .ok (.aload 6, 2) := by decide +kernel
theorem dX2_heldOf_30 : decode cX2_heldOf 30 = .ok (.getfield 66, 3) := by decide +kernel
theorem dX2_heldOf_33 : decode cX2_heldOf 33 = .ok (.iload_n 1, 1) := by decide +kernel
theorem dX2_heldOf_34 : decode cX2_heldOf 34 = .ok (.iaload, 1) := by decide +kernel
theorem dX2_heldOf_35 : decode cX2_heldOf 35 = .ok (.iadd, 1) := by decide +kernel
theorem dX2_heldOf_36 : decode cX2_heldOf 36 = .ok (.istore_n 2, 1) := by decide +kernel
theorem dX2_heldOf_37 : decode cX2_heldOf 37 = .ok (.iinc 5 1, 3) := by decide +kernel
theorem dX2_heldOf_40 : decode cX2_heldOf 40 = .ok (.goto (-26), 3) := by decide +kernel
theorem dX2_heldOf_43 : decode cX2_heldOf 43 = .ok (.iload_n 2, 1) := by decide +kernel
theorem dX2_heldOf_44 : decode cX2_heldOf 44 = .ok (.ireturn, 1) := by decide +kernel
theorem dX2_holdersOf_0 : decode cX2_holdersOf 0 = .ok (.iconst 0, 1) := by decide +kernel
theorem dX2_holdersOf_1 : decode cX2_holdersOf 1 = .ok (.istore_n 2, 1) := by decide +kernel
theorem dX2_holdersOf_2 : decode cX2_holdersOf 2 = .ok (.aload_n 0, 1) := by decide +kernel
theorem dX2_holdersOf_3 : decode cX2_holdersOf 3 = .ok (.getfield 25, 3) := by decide +kernel
theorem dX2_holdersOf_6 : decode cX2_holdersOf 6 = .ok (.astore_n 3, 1) := by decide +kernel
theorem dX2_holdersOf_7 : decode cX2_holdersOf 7 = .ok (.aload_n 3, 1) := by decide +kernel
theorem dX2_holdersOf_8 : decode cX2_holdersOf 8 = .ok (.arraylength, 1) := by decide +kernel
theorem dX2_holdersOf_9 : decode cX2_holdersOf 9 = .ok (.istore 4, 2) := by decide +kernel
theorem dX2_holdersOf_11 : decode cX2_holdersOf 11 = .ok (.iconst 0, 1) := by decide +kernel
theorem dX2_holdersOf_12 : decode cX2_holdersOf 12 = .ok (.istore 5, 2) := by decide +kernel
theorem dX2_holdersOf_14 : decode cX2_holdersOf 14 = .ok (.iload 5, 2) := by decide +kernel
theorem dX2_holdersOf_16 : decode cX2_holdersOf 16 = .ok (.iload 4, 2) := by decide +kernel
theorem dX2_holdersOf_18 : decode cX2_holdersOf 18 = .ok (.if_icmp .ge 28, 3) := by decide +kernel
theorem dX2_holdersOf_21 : decode cX2_holdersOf 21 = .ok (.aload_n 3, 1) := by decide +kernel
theorem dX2_holdersOf_22 : decode cX2_holdersOf 22 = .ok (.iload 5, 2) := by decide +kernel
theorem dX2_holdersOf_24 : decode cX2_holdersOf 24 = .ok (.aaload, 1) := by decide +kernel
theorem dX2_holdersOf_25 : decode cX2_holdersOf 25 = .ok (.astore 6, 2) := by decide +kernel
theorem dX2_holdersOf_27 : decode cX2_holdersOf 27 = .ok (.aload 6, 2) := by decide +kernel
theorem dX2_holdersOf_29 : decode cX2_holdersOf 29 = .ok (.getfield 66, 3) := by decide +kernel
theorem dX2_holdersOf_32 : decode cX2_holdersOf 32 = .ok (.iload_n 1, 1) := by decide +kernel
theorem dX2_holdersOf_33 : decode cX2_holdersOf 33 = .ok (.iaload, 1) := by decide +kernel
theorem dX2_holdersOf_34 : decode cX2_holdersOf 34 = .ok (.ifCond .le 6, 3) := by decide +kernel
theorem dX2_holdersOf_37 : decode cX2_holdersOf 37 = .ok (.iinc 2 1, 3) := by decide +kernel
theorem dX2_holdersOf_40 : decode cX2_holdersOf 40 = .ok (.iinc 5 1, 3) := by decide +kernel
theorem dX2_holdersOf_43 : decode cX2_holdersOf 43 = .ok (.goto (-29), 3) := by decide +kernel
theorem dX2_holdersOf_46 : decode cX2_holdersOf 46 = .ok (.iload_n 2, 1) := by decide +kernel
theorem dX2_holdersOf_47 : decode cX2_holdersOf 47 = .ok (.ireturn, 1) := by decide +kernel
theorem dX2_offsetsHeldOf_0 : decode cX2_offsetsHeldOf 0 = .ok (.iconst 0, 1) := by decide +kernel
theorem dX2_offsetsHeldOf_1 : decode cX2_offsetsHeldOf 1 = .ok (.istore_n 2, 1) := by decide +kernel
theorem dX2_offsetsHeldOf_2 : decode cX2_offsetsHeldOf 2 = .ok (.aload_n 0, 1) := by decide +kernel
theorem dX2_offsetsHeldOf_3 : decode cX2_offsetsHeldOf 3 = .ok (.getfield 25, 3) := by decide +kernel
theorem dX2_offsetsHeldOf_6 : decode cX2_offsetsHeldOf 6 = .ok (.astore_n 3, 1) := by decide +kernel
theorem dX2_offsetsHeldOf_7 : decode cX2_offsetsHeldOf 7 = .ok (.aload_n 3, 1) := by decide +kernel
theorem dX2_offsetsHeldOf_8 : decode cX2_offsetsHeldOf 8 = .ok (.arraylength, 1) := by decide +kernel
theorem dX2_offsetsHeldOf_9 : decode cX2_offsetsHeldOf 9 = .ok (.istore 4, 2) := by decide +kernel
theorem dX2_offsetsHeldOf_11 : decode cX2_offsetsHeldOf 11 = .ok (.iconst 0, 1) := by decide +kernel
theorem dX2_offsetsHeldOf_12 : decode cX2_offsetsHeldOf 12 = .ok (.istore 5, 2) := by decide +kernel
theorem dX2_offsetsHeldOf_14 : decode cX2_offsetsHeldOf 14 = .ok (.iload 5, 2) := by decide +kernel
theorem dX2_offsetsHeldOf_16 : decode cX2_offsetsHeldOf 16 = .ok (.iload 4, 2) := by decide +kernel
theorem dX2_offsetsHeldOf_18 : decode cX2_offsetsHeldOf 18 = .ok (.if_icmp .ge 25, 3) := by decide +kernel
theorem dX2_offsetsHeldOf_21 : decode cX2_offsetsHeldOf 21 = .ok (.aload_n 3, 1) := by decide +kernel
theorem dX2_offsetsHeldOf_22 : decode cX2_offsetsHeldOf 22 = .ok (.iload 5, 2) := by decide +kernel
theorem dX2_offsetsHeldOf_24 : decode cX2_offsetsHeldOf 24 = .ok (.aaload, 1) := by decide +kernel
theorem dX2_offsetsHeldOf_25 : decode cX2_offsetsHeldOf 25 = .ok (.astore 6, 2) := by decide +kernel
theorem dX2_offsetsHeldOf_27 : decode cX2_offsetsHeldOf 27 = .ok (.iload_n 2, 1) := by decide +kernel
theorem dX2_offsetsHeldOf_28 : decode cX2_offsetsHeldOf 28 = .ok (.aload 6, 2) := by decide +kernel
theorem dX2_offsetsHeldOf_30 : decode cX2_offsetsHeldOf 30 = .ok (.getfield 77, 3) := by decide +kernel
theorem dX2_offsetsHeldOf_33 : decode cX2_offsetsHeldOf 33 = .ok (.iload_n 1, 1) := by decide +kernel
theorem dX2_offsetsHeldOf_34 : decode cX2_offsetsHeldOf 34 = .ok (.iaload, 1) := by decide +kernel
theorem dX2_offsetsHeldOf_35 : decode cX2_offsetsHeldOf 35 = .ok (.iadd, 1) := by decide +kernel
theorem dX2_offsetsHeldOf_36 : decode cX2_offsetsHeldOf 36 = .ok (.istore_n 2, 1) := by decide +kernel
theorem dX2_offsetsHeldOf_37 : decode cX2_offsetsHeldOf 37 = .ok (.iinc 5 1, 3) := by decide +kernel
theorem dX2_offsetsHeldOf_40 : decode cX2_offsetsHeldOf 40 = .ok (.goto (-26), 3) := by decide +kernel
theorem dX2_offsetsHeldOf_43 : decode cX2_offsetsHeldOf 43 = .ok (.iload_n 2, 1) := by decide +kernel
theorem dX2_offsetsHeldOf_44 : decode cX2_offsetsHeldOf 44 = .ok (.ireturn, 1) := by decide +kernel
theorem dX2_monthsUntilLost_0 : decode cX2_monthsUntilLost 0 = .ok (.aload_n 0, 1) := by decide +kernel
theorem dX2_monthsUntilLost_1 : decode cX2_monthsUntilLost 1 = .ok (.iload_n 1, 1) := by decide +kernel
theorem dX2_monthsUntilLost_2 : decode cX2_monthsUntilLost 2 = .ok (.invokevirtual 106, 3) := by decide +kernel
theorem dX2_monthsUntilLost_5 : decode cX2_monthsUntilLost 5 = .ok (.ifCond .ne 6, 3) := by decide +kernel
theorem dX2_monthsUntilLost_8 : decode cX2_monthsUntilLost 8 = .ok (.bipush (-5), 2) := by decide +kernel
theorem dX2_monthsUntilLost_10 : decode cX2_monthsUntilLost 10 = .ok (.ireturn, 1) := by decide +kernel
theorem dX2_monthsUntilLost_11 : decode cX2_monthsUntilLost 11 = .ok (.iload_n 1, 1) := by decide +kernel
theorem dX2_monthsUntilLost_12 : decode cX2_monthsUntilLost 12 = .ok (.aload_n 0, 1) := by decide +kernel
theorem dX2_monthsUntilLost_13 : decode cX2_monthsUntilLost 13 = .ok (.getfield 18, 3) := by decide +kernel
theorem dX2_monthsUntilLost_16 : decode cX2_monthsUntilLost 16 = .ok (.iconst 3, 1) := by decide +kernel
theorem dX2_monthsUntilLost_17 : decode cX2_monthsUntilLost 17 = .ok (.iaload, 1) := by decide +kernel
theorem dX2_monthsUntilLost_18 : decode cX2_monthsUntilLost 18 = .ok (.iadd, 1) := by decide +kernel
theorem dX2_monthsUntilLost_19 : decode cX2_monthsUntilLost 19 = .ok (.aload_n 0, 1) := by decide +kernel
theorem dX2_monthsUntilLost_20 : decode cX2_monthsUntilLost 20 = .ok (.invokevirtual 86, 3) := by decide +kernel
theorem dX2_monthsUntilLost_23 : decode cX2_monthsUntilLost 23 = .ok (.invokestatic 110, 3) := by decide +kernel
theorem dX2_monthsUntilLost_26 : decode cX2_monthsUntilLost 26 = .ok (.iconst 1, 1) := by decide +kernel
theorem dX2_monthsUntilLost_27 : decode cX2_monthsUntilLost 27 = .ok (.iadd, 1) := by decide +kernel
theorem dX2_monthsUntilLost_28 : decode cX2_monthsUntilLost 28 = .ok (.istore_n 2, 1) := by decide +kernel
theorem dX2_monthsUntilLost_29 : decode cX2_monthsUntilLost 29 = .ok (.iload_n 2, 1) := by decide +kernel
theorem dX2_monthsUntilLost_30 : decode cX2_monthsUntilLost 30 = .ok (.bipush 12, 2) := by decide +kernel
theorem dX2_monthsUntilLost_32 : decode cX2_monthsUntilLost 32 = .ok (.imul, 1) := by decide +kernel
theorem dX2_monthsUntilLost_33 : decode cX2_monthsUntilLost 33 = .ok (.aload_n 0, 1) := by decide +kernel
theorem dX2_monthsUntilLost_34 : decode cX2_monthsUntilLost 34 = .ok (.getfield 52, 3) := by decide +kernel
theorem dX2_monthsUntilLost_37 : decode cX2_monthsUntilLost 37 = .ok (.isub, 1) := by decide +kernel
theorem dX2_monthsUntilLost_38 : decode cX2_monthsUntilLost 38 = .ok (.ireturn, 1) := by decide +kernel
theorem dX2_holderAt_0 : decode cX2_holderAt 0 = .ok (.iconst 0, 1) := by decide +kernel
theorem dX2_holderAt_1 : decode cX2_holderAt 1 = .ok (.istore_n 3, 1) := by decide +kernel
theorem dX2_holderAt_2 : decode cX2_holderAt 2 = .ok (.iload_n 3, 1) := by decide +kernel
theorem dX2_holderAt_3 : decode cX2_holderAt 3 = .ok (.bipush 8, 2) := by decide +kernel
theorem dX2_holderAt_5 : decode cX2_holderAt 5 = .ok (.if_icmp .ge 35, 3) := by decide +kernel
theorem dX2_holderAt_8 : decode cX2_holderAt 8 = .ok (.aload_n 0, 1) := by decide +kernel
theorem dX2_holderAt_9 : decode cX2_holderAt 9 = .ok (.getfield 25, 3) := by decide +kernel
theorem dX2_holderAt_12 : decode cX2_holderAt 12 = .ok (.iload_n 3, 1) := by decide +kernel
theorem dX2_holderAt_13 : decode cX2_holderAt 13 = .ok (.aaload, 1) := by decide +kernel
theorem dX2_holderAt_14 : decode cX2_holderAt 14 = .ok (.getfield 66, 3) := by decide +kernel
theorem dX2_holderAt_17 : decode cX2_holderAt 17 = .ok (.iload_n 1, 1) := by decide +kernel
theorem dX2_holderAt_18 : decode cX2_holderAt 18 = .ok (.iaload, 1) := by decide +kernel
theorem dX2_holderAt_19 : decode cX2_holderAt 19 = .ok (.ifCond .le 15, 3) := by decide +kernel
theorem dX2_holderAt_22 : decode cX2_holderAt 22 = .ok (.aload_n 0, 1) := by decide +kernel
theorem dX2_holderAt_23 : decode cX2_holderAt 23 = .ok (.iload_n 1, 1) := by decide +kernel
theorem dX2_holderAt_24 : decode cX2_holderAt 24 = .ok (.iload_n 3, 1) := by decide +kernel
theorem dX2_holderAt_25 : decode cX2_holderAt 25 = .ok (.invokevirtual 116, 3) := by decide +kernel
theorem dX2_holderAt_28 : decode cX2_holderAt 28 = .ok (.iload_n 2, 1) := by decide +kernel
theorem dX2_holderAt_29 : decode cX2_holderAt 29 = .ok (.if_icmp .ne 5, 3) := by decide +kernel
theorem dX2_holderAt_32 : decode cX2_holderAt 32 = .ok (.iload_n 3, 1) := by decide +kernel
theorem dX2_holderAt_33 : decode cX2_holderAt 33 = .ok (.ireturn, 1) := by decide +kernel
theorem dX2_holderAt_34 : decode cX2_holderAt 34 = .ok (.iinc 3 1, 3) := by decide +kernel
theorem dX2_holderAt_37 : decode cX2_holderAt 37 = .ok (.goto (-35), 3) := by decide +kernel
theorem dX2_holderAt_40 : decode cX2_holderAt 40 = .ok (.bipush (-5), 2) := by decide +kernel
theorem dX2_holderAt_42 : decode cX2_holderAt 42 = .ok (.ireturn, 1) := by decide +kernel
theorem dX2_holdersAhead_0 : decode cX2_holdersAhead 0 = .ok (.aload_n 0, 1) := by decide +kernel
theorem dX2_holdersAhead_1 : decode cX2_holdersAhead 1 = .ok (.getfield 25, 3) := by decide +kernel
theorem dX2_holdersAhead_4 : decode cX2_holdersAhead 4 = .ok (.iload_n 2, 1) := by decide +kernel
theorem dX2_holdersAhead_5 : decode cX2_holdersAhead 5 = .ok (.aaload, 1) := by decide +kernel
theorem dX2_holdersAhead_6 : decode cX2_holdersAhead 6 = .ok (.getfield 66, 3) := by decide +kernel
theorem dX2_holdersAhead_9 : decode cX2_holdersAhead 9 = .ok (.iload_n 1, 1) := by decide +kernel
theorem dX2_holdersAhead_10 : decode cX2_holdersAhead 10 = .ok (.iaload, 1) := by decide +kernel
theorem dX2_holdersAhead_11 : decode cX2_holdersAhead 11 = .ok (.istore_n 3, 1) := by decide +kernel
theorem dX2_holdersAhead_12 : decode cX2_holdersAhead 12 = .ok (.iconst 0, 1) := by decide +kernel
theorem dX2_holdersAhead_13 : decode cX2_holdersAhead 13 = .ok (.istore 4, 2) := by decide +kernel
theorem dX2_holdersAhead_15 : decode cX2_holdersAhead 15 = .ok (.iconst 0, 1) := by decide +kernel
theorem dX2_holdersAhead_16 : decode cX2_holdersAhead 16 = .ok (.istore 5, 2) := by decide +kernel
theorem dX2_holdersAhead_18 : decode cX2_holdersAhead 18 = .ok (.iload 5, 2) := by decide +kernel
theorem dX2_holdersAhead_20 : decode cX2_holdersAhead 20 = .ok (.bipush 8, 2) := by decide +kernel
theorem dX2_holdersAhead_22 : decode cX2_holdersAhead 22 = .ok (.if_icmp .ge 44, 3) := by decide +kernel
theorem dX2_holdersAhead_25 : decode cX2_holdersAhead 25 = .ok (.aload_n 0, 1) := by decide +kernel
theorem dX2_holdersAhead_26 : decode cX2_holdersAhead 26 = .ok (.getfield 25, 3) := by decide +kernel
theorem dX2_holdersAhead_29 : decode cX2_holdersAhead 29 = .ok (.iload 5, 2) := by decide +kernel
theorem dX2_holdersAhead_31 : decode cX2_holdersAhead 31 = .ok (.aaload, 1) := by decide +kernel
theorem dX2_holdersAhead_32 : decode cX2_holdersAhead 32 = .ok (.getfield 66, 3) := by decide +kernel
theorem dX2_holdersAhead_35 : decode cX2_holdersAhead 35 = .ok (.iload_n 1, 1) := by decide +kernel
theorem dX2_holdersAhead_36 : decode cX2_holdersAhead 36 = .ok (.iaload, 1) := by decide +kernel
theorem dX2_holdersAhead_37 : decode cX2_holdersAhead 37 = .ok (.istore 6, 2) := by decide +kernel
theorem dX2_holdersAhead_39 : decode cX2_holdersAhead 39 = .ok (.iload 6, 2) := by decide +kernel
theorem dX2_holdersAhead_41 : decode cX2_holdersAhead 41 = .ok (.iload_n 3, 1) := by decide +kernel
theorem dX2_holdersAhead_42 : decode cX2_holdersAhead 42 = .ok (.if_icmp .gt 15, 3) := by decide +kernel
theorem dX2_holdersAhead_45 : decode cX2_holdersAhead 45 = .ok (.iload 6, 2) := by decide +kernel
theorem dX2_holdersAhead_47 : decode cX2_holdersAhead 47 = .ok (.iload_n 3, 1) := by decide +kernel
theorem dX2_holdersAhead_48 : decode cX2_holdersAhead 48 = .ok (.if_icmp .ne 12, 3) := by decide +kernel
theorem dX2_holdersAhead_51 : decode cX2_holdersAhead 51 = .ok (.iload 5, 2) := by decide +kernel
theorem dX2_holdersAhead_53 : decode cX2_holdersAhead 53 = .ok (.iload_n 2, 1) := by decide +kernel
theorem dX2_holdersAhead_54 : decode cX2_holdersAhead 54 = .ok (.if_icmp .ge 6, 3) := by decide +kernel
theorem dX2_holdersAhead_57 : decode cX2_holdersAhead 57 = .ok (.iinc 4 1, 3) := by decide +kernel
theorem dX2_holdersAhead_60 : decode cX2_holdersAhead 60 = .ok (.iinc 5 1, 3) := by decide +kernel
theorem dX2_holdersAhead_63 : decode cX2_holdersAhead 63 = .ok (.goto (-45), 3) := by decide +kernel
theorem dX2_holdersAhead_66 : decode cX2_holdersAhead 66 = .ok (.iload 4, 2) := by decide +kernel
theorem dX2_holdersAhead_68 : decode cX2_holdersAhead 68 = .ok (.ireturn, 1) := by decide +kernel
theorem dX2_allDue_0 : decode cX2_allDue 0 = .ok (.iconst 0, 1) := by decide +kernel
theorem dX2_allDue_1 : decode cX2_allDue 1 = .ok (.istore_n 1, 1) := by decide +kernel
theorem dX2_allDue_2 : decode cX2_allDue 2 = .ok (.aload_n 0, 1) := by decide +kernel
theorem dX2_allDue_3 : decode cX2_allDue 3 = .ok (.getfield 25, 3) := by decide +kernel
theorem dX2_allDue_6 : decode cX2_allDue 6 = .ok (.astore_n 2, 1) := by decide +kernel
theorem dX2_allDue_7 : decode cX2_allDue 7 = .ok (.aload_n 2, 1) := by decide +kernel
theorem dX2_allDue_8 : decode cX2_allDue 8 = .ok (.arraylength, 1) := by decide +kernel
theorem dX2_allDue_9 : decode cX2_allDue 9 = .ok (.istore_n 3, 1) := by decide +kernel
theorem dX2_allDue_10 : decode cX2_allDue 10 = .ok (.iconst 0, 1) := by decide +kernel
theorem dX2_allDue_11 : decode cX2_allDue 11 = .ok (.istore 4, 2) := by decide +kernel
theorem dX2_allDue_13 : decode cX2_allDue 13 = .ok (.iload 4, 2) := by decide +kernel
theorem dX2_allDue_15 : decode cX2_allDue 15 = .ok (.iload_n 3, 1) := by decide +kernel
theorem dX2_allDue_16 : decode cX2_allDue 16 = .ok (.if_icmp .ge 23, 3) := by decide +kernel
theorem dX2_allDue_19 : decode cX2_allDue 19 = .ok (.aload_n 2, 1) := by decide +kernel
theorem dX2_allDue_20 : decode cX2_allDue 20 = .ok (.iload 4, 2) := by decide +kernel
theorem dX2_allDue_22 : decode cX2_allDue 22 = .ok (.aaload, 1) := by decide +kernel
theorem dX2_allDue_23 : decode cX2_allDue 23 = .ok (.astore 5, 2) := by decide +kernel
theorem dX2_allDue_25 : decode cX2_allDue 25 = .ok (.iload_n 1, 1) := by decide +kernel
theorem dX2_allDue_26 : decode cX2_allDue 26 = .ok (.aload 5, 2) := by decide +kernel
theorem dX2_allDue_28 : decode cX2_allDue 28 = .ok (.getfield 100, 3) := by decide +kernel
theorem dX2_allDue_31 : decode cX2_allDue 31 = .ok (.iadd, 1) := by decide +kernel
theorem dX2_allDue_32 : decode cX2_allDue 32 = .ok (.istore_n 1, 1) := by decide +kernel
theorem dX2_allDue_33 : decode cX2_allDue 33 = .ok (.iinc 4 1, 3) := by decide +kernel
theorem dX2_allDue_36 : decode cX2_allDue 36 = .ok (.goto (-23), 3) := by decide +kernel
theorem dX2_allDue_39 : decode cX2_allDue 39 = .ok (.iload_n 1, 1) := by decide +kernel
theorem dX2_allDue_40 : decode cX2_allDue 40 = .ok (.ireturn, 1) := by decide +kernel
theorem dX2_allFines_0 : decode cX2_allFines 0 = .ok (.iconst 0, 1) := by decide +kernel
theorem dX2_allFines_1 : decode cX2_allFines 1 = .ok (.istore_n 1, 1) := by decide +kernel
theorem dX2_allFines_2 : decode cX2_allFines 2 = .ok (.aload_n 0, 1) := by decide +kernel
theorem dX2_allFines_3 : decode cX2_allFines 3 = .ok (.getfield 25, 3) := by decide +kernel
theorem dX2_allFines_6 : decode cX2_allFines 6 = .ok (.astore_n 2, 1) := by decide +kernel
theorem dX2_allFines_7 : decode cX2_allFines 7 = .ok (.aload_n 2, 1) := by decide +kernel
theorem dX2_allFines_8 : decode cX2_allFines 8 = .ok (.arraylength, 1) := by decide +kernel
theorem dX2_allFines_9 : decode cX2_allFines 9 = .ok (.istore_n 3, 1) := by decide +kernel
theorem dX2_allFines_10 : decode cX2_allFines 10 = .ok (.iconst 0, 1) := by decide +kernel
theorem dX2_allFines_11 : decode cX2_allFines 11 = .ok (.istore 4, 2) := by decide +kernel
theorem dX2_allFines_13 : decode cX2_allFines 13 = .ok (.iload 4, 2) := by decide +kernel
end
section
theorem dX2_allFines_15 : decode cX2_allFines 15 = .ok (.iload_n 3, 1) := by decide +kernel
theorem dX2_allFines_16 : decode cX2_allFines 16 = .ok (.if_icmp .ge 23, 3) := by decide +kernel
theorem dX2_allFines_19 : decode cX2_allFines 19 = .ok (.aload_n 2, 1) := by decide +kernel
theorem dX2_allFines_20 : decode cX2_allFines 20 = .ok (.iload 4, 2) := by decide +kernel
theorem dX2_allFines_22 : decode cX2_allFines 22 = .ok (.aaload, 1) := by decide +kernel
theorem dX2_allFines_23 : decode cX2_allFines 23 = .ok (.astore 5, 2) := by decide +kernel
theorem dX2_allFines_25 : decode cX2_allFines 25 = .ok (.iload_n 1, 1) := by decide +kernel
theorem dX2_allFines_26 : decode cX2_allFines 26 = .ok (.aload 5, 2) := by decide +kernel
theorem dX2_allFines_28 : decode cX2_allFines 28 = .ok (.getfield 103, 3) := by decide +kernel
theorem dX2_allFines_31 : decode cX2_allFines 31 = .ok (.iadd, 1) := by decide +kernel
theorem dX2_allFines_32 : decode cX2_allFines 32 = .ok (.istore_n 1, 1) := by decide +kernel
theorem dX2_allFines_33 : decode cX2_allFines 33 = .ok (.iinc 4 1, 3) := by decide +kernel
theorem dX2_allFines_36 : decode cX2_allFines 36 = .ok (.goto (-23), 3) := by decide +kernel
theorem dX2_allFines_39 : decode cX2_allFines 39 = .ok (.iload_n 1, 1) := by decide +kernel
theorem dX2_allFines_40 : decode cX2_allFines 40 = .ok (.ireturn, 1) := by decide +kernel
theorem dX2_allHeld_0 : decode cX2_allHeld 0 = .ok (.iconst 0, 1) := by decide +kernel
theorem dX2_allHeld_1 : decode cX2_allHeld 1 = .ok (.istore_n 1, 1) := by decide +kernel
theorem dX2_allHeld_2 : decode cX2_allHeld 2 = .ok (.aload_n 0, 1) := by decide +kernel
theorem dX2_allHeld_3 : decode cX2_allHeld 3 = .ok (.getfield 25, 3) := by decide +kernel
theorem dX2_allHeld_6 : decode cX2_allHeld 6 = .ok (.astore_n 2, 1) := by decide +kernel
theorem dX2_allHeld_7 : decode cX2_allHeld 7 = .ok (.aload_n 2, 1) := by decide +kernel
theorem dX2_allHeld_8 : decode cX2_allHeld 8 = .ok (.arraylength, 1) := by decide +kernel
theorem dX2_allHeld_9 : decode cX2_allHeld 9 = .ok (.istore_n 3, 1) := by decide +kernel
theorem dX2_allHeld_10 : decode cX2_allHeld 10 = .ok (.iconst 0, 1) := by decide +kernel
theorem dX2_allHeld_11 : decode cX2_allHeld 11 = .ok (.istore 4, 2) := by decide +kernel
theorem dX2_allHeld_13 : decode cX2_allHeld 13 = .ok (.iload 4, 2) := by decide +kernel
theorem dX2_allHeld_15 : decode cX2_allHeld 15 = .ok (.iload_n 3, 1) := by decide +kernel
theorem dX2_allHeld_16 : decode cX2_allHeld 16 = .ok (.if_icmp .ge 23, 3) := by decide +kernel
theorem dX2_allHeld_19 : decode cX2_allHeld 19 = .ok (.aload_n 2, 1) := by decide +kernel
theorem dX2_allHeld_20 : decode cX2_allHeld 20 = .ok (.iload 4, 2) := by decide +kernel
theorem dX2_allHeld_22 : decode cX2_allHeld 22 = .ok (.aaload, 1) := by decide +kernel
theorem dX2_allHeld_23 : decode cX2_allHeld 23 = .ok (.astore 5, 2) := by decide +kernel
theorem dX2_allHeld_25 : decode cX2_allHeld 25 = .ok (.iload_n 1, 1) := by decide +kernel
theorem dX2_allHeld_26 : decode cX2_allHeld 26 = .ok (.aload 5, 2) := by decide +kernel
theorem dX2_allHeld_28 : decode cX2_allHeld 28 = .ok (.invokevirtual 119, 3) := by decide +kernel
theorem dX2_allHeld_31 : decode cX2_allHeld 31 = .ok (.iadd, 1) := by decide +kernel
theorem dX2_allHeld_32 : decode cX2_allHeld 32 = .ok (.istore_n 1, 1) := by decide +kernel
theorem dX2_allHeld_33 : decode cX2_allHeld 33 = .ok (.iinc 4 1, 3) := by decide +kernel
theorem dX2_allHeld_36 : decode cX2_allHeld 36 = .ok (.goto (-23), 3) := by decide +kernel
theorem dX2_allHeld_39 : decode cX2_allHeld 39 = .ok (.iload_n 1, 1) := by decide +kernel
theorem dX2_allHeld_40 : decode cX2_allHeld 40 = .ok (.ireturn, 1) := by decide +kernel
theorem dX2_allLost_0 : decode cX2_allLost 0 = .ok (.iconst 0, 1) := by decide +kernel
theorem dX2_allLost_1 : decode cX2_allLost 1 = .ok (.istore_n 1, 1) := by decide +kernel
theorem dX2_allLost_2 : decode cX2_allLost 2 = .ok (.aload_n 0, 1) := by decide +kernel
theorem dX2_allLost_3 : decode cX2_allLost 3 = .ok (.getfield 39, 3) := by decide +kernel
theorem dX2_allLost_6 : decode cX2_allLost 6 = .ok (.astore_n 2, 1) := by decide +kernel
theorem dX2_allLost_7 : decode cX2_allLost 7 = .ok (.aload_n 2, 1) := by decide +kernel
theorem dX2_allLost_8 : decode cX2_allLost 8 = .ok (.arraylength, 1) := by decide +kernel
theorem dX2_allLost_9 : decode cX2_allLost 9 = .ok (.istore_n 3, 1) := by decide +kernel
theorem dX2_allLost_10 : decode cX2_allLost 10 = .ok (.iconst 0, 1) := by decide +kernel
theorem dX2_allLost_11 : decode cX2_allLost 11 = .ok (.istore 4, 2) := by decide +kernel
theorem dX2_allLost_13 : decode cX2_allLost 13 = .ok (.iload 4, 2) := by decide +kernel
theorem dX2_allLost_15 : decode cX2_allLost 15 = .ok (.iload_n 3, 1) := by decide +kernel
theorem dX2_allLost_16 : decode cX2_allLost 16 = .ok (.if_icmp .ge 20, 3) := by decide +kernel
theorem dX2_allLost_19 : decode cX2_allLost 19 = .ok (.aload_n 2, 1) := by decide +kernel
theorem dX2_allLost_20 : decode cX2_allLost 20 = .ok (.iload 4, 2) := by decide +kernel
theorem dX2_allLost_22 : decode cX2_allLost 22 = .ok (.iaload, 1) := by decide +kernel
theorem dX2_allLost_23 : decode cX2_allLost 23 = .ok (.istore 5, 2) := by decide +kernel
theorem dX2_allLost_25 : decode cX2_allLost 25 = .ok (.iload_n 1, 1) := by decide +kernel
theorem dX2_allLost_26 : decode cX2_allLost 26 = .ok (.iload 5, 2) := by decide +kernel
theorem dX2_allLost_28 : decode cX2_allLost 28 = .ok (.iadd, 1) := by decide +kernel
theorem dX2_allLost_29 : decode cX2_allLost 29 = .ok (.istore_n 1, 1) := by decide +kernel
theorem dX2_allLost_30 : decode cX2_allLost 30 = .ok (.iinc 4 1, 3) := by decide +kernel
theorem dX2_allLost_33 : decode cX2_allLost 33 = .ok (.goto (-20), 3) := by decide +kernel
theorem dX2_allLost_36 : decode cX2_allLost 36 = .ok (.iload_n 1, 1) := by decide +kernel
theorem dX2_allLost_37 : decode cX2_allLost 37 = .ok (.ireturn, 1) := by decide +kernel
theorem dX2_monthsUntilDeadline_0 : decode cX2_monthsUntilDeadline 0 = .ok (.aload_n 0, 1) := by decide +kernel
theorem dX2_monthsUntilDeadline_1 : decode cX2_monthsUntilDeadline 1 = .ok (.getfield 52, 3) := by decide +kernel
theorem dX2_monthsUntilDeadline_4 : decode cX2_monthsUntilDeadline 4 = .ok (.bipush 12, 2) := by decide +kernel
theorem dX2_monthsUntilDeadline_6 : decode cX2_monthsUntilDeadline 6 = .ok (.irem, 1) := by decide +kernel
theorem dX2_monthsUntilDeadline_7 : decode cX2_monthsUntilDeadline 7 = .ok (.istore_n 1, 1) := by decide +kernel
theorem dX2_monthsUntilDeadline_8 : decode cX2_monthsUntilDeadline 8 = .ok (.iload_n 1, 1) := by decide +kernel
theorem dX2_monthsUntilDeadline_9 : decode cX2_monthsUntilDeadline 9 = .ok (.iconst 4, 1) := by decide +kernel
theorem dX2_monthsUntilDeadline_10 : decode cX2_monthsUntilDeadline 10 = .ok (.if_icmp .ge 14, 3) := by decide +kernel
theorem dX2_monthsUntilDeadline_13 : decode cX2_monthsUntilDeadline 13 = .ok (.aload_n 0, 1) := by decide +kernel
theorem dX2_monthsUntilDeadline_14 : decode cX2_monthsUntilDeadline 14 = .ok (.invokevirtual 86, 3) := by decide +kernel
theorem dX2_monthsUntilDeadline_17 : decode cX2_monthsUntilDeadline 17 = .ok (.ifCond .eq 7, 3) := by decide +kernel
theorem dX2_monthsUntilDeadline_20 : decode cX2_monthsUntilDeadline 20 = .ok (.iconst 1, 1) := by decide +kernel
theorem dX2_monthsUntilDeadline_21 : decode cX2_monthsUntilDeadline 21 = .ok (.goto 4, 3) := by decide +kernel
theorem dX2_monthsUntilDeadline_24 : decode cX2_monthsUntilDeadline 24 = .ok (.iconst 0, 1) := by decide +kernel
theorem dX2_monthsUntilDeadline_25 : decode cX2_monthsUntilDeadline 25 = .ok (.istore_n 2, 1) := by decide +kernel
theorem dX2_monthsUntilDeadline_26 : decode cX2_monthsUntilDeadline 26 = .ok (.iload_n 2, 1) := by decide +kernel
theorem dX2_monthsUntilDeadline_27 : decode cX2_monthsUntilDeadline 27 = .ok (.ifCond .eq 9, 3) := by decide +kernel
theorem dX2_monthsUntilDeadline_30 : decode cX2_monthsUntilDeadline 30 = .ok (.iconst 4, 1) := by decide +kernel
theorem dX2_monthsUntilDeadline_31 : decode cX2_monthsUntilDeadline 31 = .ok (.iload_n 1, 1) := by decide +kernel
theorem dX2_monthsUntilDeadline_32 : decode cX2_monthsUntilDeadline 32 = .ok (.isub, 1) := by decide +kernel
theorem dX2_monthsUntilDeadline_33 : decode cX2_monthsUntilDeadline 33 = .ok (.goto 7, 3) := by decide +kernel
theorem dX2_monthsUntilDeadline_36 : decode cX2_monthsUntilDeadline 36 = .ok (.bipush 16, 2) := by decide +kernel
theorem dX2_monthsUntilDeadline_38 : decode cX2_monthsUntilDeadline 38 = .ok (.iload_n 1, 1) := by decide +kernel
theorem dX2_monthsUntilDeadline_39 : decode cX2_monthsUntilDeadline 39 = .ok (.isub, 1) := by decide +kernel
theorem dX2_monthsUntilDeadline_40 : decode cX2_monthsUntilDeadline 40 = .ok (.ireturn, 1) := by decide +kernel
theorem dX3_init_0 : decode cX3_init 0 = .ok (.aload_n 0, 1) := by decide +kernel
theorem dX3_init_1 : decode cX3_init 1 = .ok (.invokespecial 3, 3) := by decide +kernel
theorem dX3_init_4 : decode cX3_init 4 = .ok (.aload_n 0, 1) := by decide +kernel
theorem dX3_init_5 : decode cX3_init 5 = .ok (.bipush 20, 2) := by decide +kernel
theorem dX3_init_7 : decode cX3_init 7 = .ok (.newarray .int, 2) := by decide +kernel
theorem dX3_init_9 : decode cX3_init 9 = .ok (.putfield 9, 3) := by decide +kernel
theorem dX3_init_12 : decode cX3_init 12 = .ok (.aload_n 0, 1) := by decide +kernel
theorem dX3_init_13 : decode cX3_init 13 = .ok (.iconst 3, 1) := by decide +kernel
theorem dX3_init_14 : decode cX3_init 14 = .ok (.newarray .int, 2) := by decide +kernel
theorem dX3_init_16 : decode cX3_init 16 = .ok (.putfield 15, 3) := by decide +kernel
theorem dX3_init_19 : decode cX3_init 19 = .ok (.return_, 1) := by decide +kernel
theorem dX3_workOut_0 : decode cX3_workOut 0 = .ok (.aload_n 0, 1) := by decide +kernel
theorem dX3_workOut_1 : decode cX3_workOut 1 = .ok (.iload_n 3, 1) := by decide +kernel
theorem dX3_workOut_2 : decode cX3_workOut 2 = .ok (.putfield 18, 3) := by decide +kernel
theorem dX3_workOut_5 : decode cX3_workOut 5 = .ok (.aload_n 0, 1) := by decide +kernel
theorem dX3_workOut_6 : decode cX3_workOut 6 = .ok (.iconst 0, 1) := by decide +kernel
theorem dX3_workOut_7 : decode cX3_workOut 7 = .ok (.putfield 22, 3) := by decide +kernel
theorem dX3_workOut_10 : decode cX3_workOut 10 = .ok (.aload_n 0, 1) := by decide +kernel
theorem dX3_workOut_11 : decode cX3_workOut 11 = .ok (.iconst 0, 1) := by decide +kernel
theorem dX3_workOut_12 : decode cX3_workOut 12 = .ok (.putfield 25, 3) := by decide +kernel
theorem dX3_workOut_15 : decode cX3_workOut 15 = .ok (.aload_n 0, 1) := by decide +kernel
theorem dX3_workOut_16 : decode cX3_workOut 16 = .ok (.bipush (-5), 2) := by decide +kernel
theorem dX3_workOut_18 : decode cX3_workOut 18 = .ok (.putfield 28, 3) := by decide +kernel
theorem dX3_workOut_21 : decode cX3_workOut 21 = .ok (.iconst 2, 1) := by decide +kernel
theorem dX3_workOut_22 : decode cX3_workOut 22 = .ok (.istore 5, 2) := by decide +kernel
theorem dX3_workOut_24 : decode cX3_workOut 24 = .ok (.iload 5, 2) := by decide +kernel
theorem dX3_workOut_26 : decode cX3_workOut 26 = .ok (.ifCond .lt 63, 3) := by decide +kernel
theorem dX3_workOut_29 : decode cX3_workOut 29 = .ok (.iload 4, 2) := by decide +kernel
theorem dX3_workOut_31 : decode cX3_workOut 31 = .ok (.iconst 2, 1) := by decide +kernel
theorem dX3_workOut_32 : decode cX3_workOut 32 = .ok (.if_icmp .ne 16, 3) := by decide +kernel
theorem dX3_workOut_35 : decode cX3_workOut 35 = .ok (.aload_n 1, 1) := by decide +kernel
theorem dX3_workOut_36 : decode cX3_workOut 36 = .ok (.iload 5, 2) := by decide +kernel
theorem dX3_workOut_38 : decode cX3_workOut 38 = .ok (.aload_n 2, 1) := by decide +kernel
theorem dX3_workOut_39 : decode cX3_workOut 39 = .ok (.iload 5, 2) := by decide +kernel
theorem dX3_workOut_41 : decode cX3_workOut 41 = .ok (.iaload, 1) := by decide +kernel
theorem dX3_workOut_42 : decode cX3_workOut 42 = .ok (.invokevirtual 31, 3) := by decide +kernel
theorem dX3_workOut_45 : decode cX3_workOut 45 = .ok (.goto 4, 3) := by decide +kernel
theorem dX3_workOut_48 : decode cX3_workOut 48 = .ok (.iconst 0, 1) := by decide +kernel
theorem dX3_workOut_49 : decode cX3_workOut 49 = .ok (.istore 6, 2) := by decide +kernel
theorem dX3_workOut_51 : decode cX3_workOut 51 = .ok (.aload_n 0, 1) := by decide +kernel
theorem dX3_workOut_52 : decode cX3_workOut 52 = .ok (.getfield 15, 3) := by decide +kernel
theorem dX3_workOut_55 : decode cX3_workOut 55 = .ok (.iload 5, 2) := by decide +kernel
theorem dX3_workOut_57 : decode cX3_workOut 57 = .ok (.aload_n 0, 1) := by decide +kernel
theorem dX3_workOut_58 : decode cX3_workOut 58 = .ok (.getfield 18, 3) := by decide +kernel
theorem dX3_workOut_61 : decode cX3_workOut 61 = .ok (.iload 6, 2) := by decide +kernel
theorem dX3_workOut_63 : decode cX3_workOut 63 = .ok (.invokestatic 37, 3) := by decide +kernel
theorem dX3_workOut_66 : decode cX3_workOut 66 = .ok (.iastore, 1) := by decide +kernel
theorem dX3_workOut_67 : decode cX3_workOut 67 = .ok (.aload_n 0, 1) := by decide +kernel
theorem dX3_workOut_68 : decode cX3_workOut 68 = .ok (.dup, 1) := by decide +kernel
theorem dX3_workOut_69 : decode cX3_workOut 69 = .ok (.getfield 18, 3) := by decide +kernel
theorem dX3_workOut_72 : decode cX3_workOut 72 = .ok (.aload_n 0, 1) := by decide +kernel
theorem dX3_workOut_73 : decode cX3_workOut 73 = .ok (.getfield 15, 3) := by decide +kernel
theorem dX3_workOut_76 : decode cX3_workOut 76 = .ok (.iload 5, 2) := by decide +kernel
theorem dX3_workOut_78 : decode cX3_workOut 78 = .ok (.iaload, 1) := by decide +kernel
theorem dX3_workOut_79 : decode cX3_workOut 79 = .ok (.isub, 1) := by decide +kernel
theorem dX3_workOut_80 : decode cX3_workOut 80 = .ok (.putfield 18, 3) := by decide +kernel
theorem dX3_workOut_83 : decode cX3_workOut 83 = .ok (.iinc 5 (-1), 3) := by decide +kernel
theorem dX3_workOut_86 : decode cX3_workOut 86 = .ok (.goto (-62), 3) := by decide +kernel
theorem dX3_workOut_89 : decode cX3_workOut 89 = .ok (.iconst 0, 1) := by decide +kernel
theorem dX3_workOut_90 : decode cX3_workOut 90 = .ok (.istore 5, 2) := by decide +kernel
theorem dX3_workOut_92 : decode cX3_workOut 92 = .ok (.iload 5, 2) := by decide +kernel
theorem dX3_workOut_94 : decode cX3_workOut 94 = .ok (.bipush 20, 2) := by decide +kernel
theorem dX3_workOut_96 : decode cX3_workOut 96 = .ok (.if_icmp .ge 30, 3) := by decide +kernel
theorem dX3_workOut_99 : decode cX3_workOut 99 = .ok (.aload_n 0, 1) := by decide +kernel
theorem dX3_workOut_100 : decode cX3_workOut 100 = .ok (.aload_n 1, 1) := by decide +kernel
theorem dX3_workOut_101 : decode cX3_workOut 101 = .ok (.iload 4, 2) := by decide +kernel
theorem dX3_workOut_103 : decode cX3_workOut 103 = .ok (.iconst 1, 1) := by decide +kernel
theorem dX3_workOut_104 : decode cX3_workOut 104 = .ok (.if_icmp .ne 11, 3) := by decide +kernel
theorem dX3_workOut_107 : decode cX3_workOut 107 = .ok (.bipush 19, 2) := by decide +kernel
theorem dX3_workOut_109 : decode cX3_workOut 109 = .ok (.iload 5, 2) := by decide +kernel
theorem dX3_workOut_111 : decode cX3_workOut 111 = .ok (.isub, 1) := by decide +kernel
theorem dX3_workOut_112 : decode cX3_workOut 112 = .ok (.goto 5, 3) := by decide +kernel
theorem dX3_workOut_115 : decode cX3_workOut 115 = .ok (.iload 5, 2) := by decide +kernel
theorem dX3_workOut_117 : decode cX3_workOut 117 = .ok (.invokevirtual 42, 3) := by decide +kernel
theorem dX3_workOut_120 : decode cX3_workOut 120 = .ok (.iinc 5 1, 3) := by decide +kernel
theorem dX3_workOut_123 : decode cX3_workOut 123 = .ok (.goto (-31), 3) := by decide +kernel
theorem dX3_workOut_126 : decode cX3_workOut 126 = .ok (.return_, 1) := by decide +kernel
theorem dX3_takeVintage_0 : decode cX3_takeVintage 0 = .ok (.aload_n 0, 1) := by decide +kernel
theorem dX3_takeVintage_1 : decode cX3_takeVintage 1 = .ok (.getfield 18, 3) := by decide +kernel
theorem dX3_takeVintage_4 : decode cX3_takeVintage 4 = .ok (.aload_n 1, 1) := by decide +kernel
theorem dX3_takeVintage_5 : decode cX3_takeVintage 5 = .ok (.getfield 46, 3) := by decide +kernel
theorem dX3_takeVintage_8 : decode cX3_takeVintage 8 = .ok (.iload_n 2, 1) := by decide +kernel
theorem dX3_takeVintage_9 : decode cX3_takeVintage 9 = .ok (.iaload, 1) := by decide +kernel
theorem dX3_takeVintage_10 : decode cX3_takeVintage 10 = .ok (.invokestatic 37, 3) := by decide +kernel
theorem dX3_takeVintage_13 : decode cX3_takeVintage 13 = .ok (.istore_n 3, 1) := by decide +kernel
theorem dX3_takeVintage_14 : decode cX3_takeVintage 14 = .ok (.aload_n 0, 1) := by decide +kernel
theorem dX3_takeVintage_15 : decode cX3_takeVintage 15 = .ok (.getfield 9, 3) := by decide +kernel
theorem dX3_takeVintage_18 : decode cX3_takeVintage 18 = .ok (.iload_n 2, 1) := by decide +kernel
theorem dX3_takeVintage_19 : decode cX3_takeVintage 19 = .ok (.iload_n 3, 1) := by decide +kernel
theorem dX3_takeVintage_20 : decode cX3_takeVintage 20 = .ok (.iastore, 1) := by decide +kernel
theorem dX3_takeVintage_21 : decode cX3_takeVintage 21 = .ok (.iload_n 3, 1) := by decide +kernel
theorem dX3_takeVintage_22 : decode cX3_takeVintage 22 = .ok (.ifCond .ne 4, 3) := by decide +kernel
theorem dX3_takeVintage_25 : decode cX3_takeVintage 25 = .ok (.return_, 1) := by decide +kernel
theorem dX3_takeVintage_26 : decode cX3_takeVintage 26 = .ok (.aload_n 0, 1) := by decide +kernel
theorem dX3_takeVintage_27 : decode cX3_takeVintage 27 = .ok (.getfield 25, 3) := by decide +kernel
theorem dX3_takeVintage_30 : decode cX3_takeVintage 30 = .ok (.ifCond .ne 8, 3) := by decide +kernel
theorem dX3_takeVintage_33 : decode cX3_takeVintage 33 = .ok (.aload_n 0, 1) := by decide +kernel
theorem dX3_takeVintage_34 : decode cX3_takeVintage 34 = .ok (.iload_n 2, 1) := by decide +kernel
theorem dX3_takeVintage_35 : decode cX3_takeVintage 35 = .ok (.putfield 28, 3) := by decide +kernel
theorem dX3_takeVintage_38 : decode cX3_takeVintage 38 = .ok (.aload_n 0, 1) := by decide +kernel
theorem dX3_takeVintage_39 : decode cX3_takeVintage 39 = .ok (.dup, 1) := by decide +kernel
theorem dX3_takeVintage_40 : decode cX3_takeVintage 40 = .ok (.getfield 25, 3) := by decide +kernel
theorem dX3_takeVintage_43 : decode cX3_takeVintage 43 = .ok (.iconst 1, 1) := by decide +kernel
theorem dX3_takeVintage_44 : decode cX3_takeVintage 44 = .ok (.iadd, 1) := by decide +kernel
theorem dX3_takeVintage_45 : decode cX3_takeVintage 45 = .ok (.putfield 25, 3) := by decide +kernel
theorem dX3_takeVintage_48 : decode cX3_takeVintage 48 = .ok (.aload_n 0, 1) := by decide +kernel
theorem dX3_takeVintage_49 : decode cX3_takeVintage 49 = .ok (.dup, 1) := by decide +kernel
theorem dX3_takeVintage_50 : decode cX3_takeVintage 50 = .ok (.getfield 22, 3) := by decide +kernel
theorem dX3_takeVintage_53 : decode cX3_takeVintage 53 = .ok (.iload_n 3, 1) := by decide +kernel
theorem dX3_takeVintage_54 : decode cX3_takeVintage 54 = .ok (.iadd, 1) := by decide +kernel
theorem dX3_takeVintage_55 : decode cX3_takeVintage 55 = .ok (.putfield 22, 3) := by decide +kernel
theorem dX3_takeVintage_58 : decode cX3_takeVintage 58 = .ok (.aload_n 0, 1) := by decide +kernel
theorem dX3_takeVintage_59 : decode cX3_takeVintage 59 = .ok (.dup, 1) := by decide +kernel
theorem dX3_takeVintage_60 : decode cX3_takeVintage 60 = .ok (.getfield 18, 3) := by decide +kernel
theorem dX3_takeVintage_63 : decode cX3_takeVintage 63 = .ok (.iload_n 3, 1) := by decide +kernel
theorem dX3_takeVintage_64 : decode cX3_takeVintage 64 = .ok (.isub, 1) := by decide +kernel
theorem dX3_takeVintage_65 : decode cX3_takeVintage 65 = .ok (.putfield 18, 3) := by decide +kernel
theorem dX3_takeVintage_68 : decode cX3_takeVintage 68 = .ok (.return_, 1) := by decide +kernel
theorem dX4_init_0 : decode cX4_init 0 = .ok (.aload_n 0, 1) := by decide +kernel
theorem dX4_init_1 : decode cX4_init 1 = .ok (.invokespecial 3, 3) := by decide +kernel
theorem dX4_init_4 : decode cX4_init 4 = .ok (.aload_n 0, 1) := by decide +kernel
theorem dX4_init_5 : decode cX4_init 5 = .ok (.bipush 60, 2) := by decide +kernel
theorem dX4_init_7 : decode cX4_init 7 = .ok (.newarray .char, 2) := by decide +kernel
theorem dX4_init_9 : decode cX4_init 9 = .ok (.putfield 9, 3) := by decide +kernel
theorem dX4_init_12 : decode cX4_init 12 = .ok (.aload_n 0, 1) := by decide +kernel
theorem dX4_init_13 : decode cX4_init 13 = .ok (.bipush 8, 2) := by decide +kernel
theorem dX4_init_15 : decode cX4_init 15 = .ok (.newarray .int, 2) := by decide +kernel
theorem dX4_init_17 : decode cX4_init 17 = .ok (.putfield 15, 3) := by decide +kernel
theorem dX4_init_20 : decode cX4_init 20 = .ok (.aload_n 0, 1) := by decide +kernel
theorem dX4_init_21 : decode cX4_init 21 = .ok (.bipush 8, 2) := by decide +kernel
theorem dX4_init_23 : decode cX4_init 23 = .ok (.newarray .int, 2) := by decide +kernel
theorem dX4_init_25 : decode cX4_init 25 = .ok (.putfield 19, 3) := by decide +kernel
theorem dX4_init_28 : decode cX4_init 28 = .ok (.aload_n 0, 1) := by decide +kernel
theorem dX4_init_29 : decode cX4_init 29 = .ok (.bipush 8, 2) := by decide +kernel
theorem dX4_init_31 : decode cX4_init 31 = .ok (.newarray .int, 2) := by decide +kernel
theorem dX4_init_33 : decode cX4_init 33 = .ok (.putfield 22, 3) := by decide +kernel
theorem dX4_init_36 : decode cX4_init 36 = .ok (.aload_n 0, 1) := by decide +kernel
theorem dX4_init_37 : decode cX4_init 37 = .ok (.bipush 8, 2) := by decide +kernel
theorem dX4_init_39 : decode cX4_init 39 = .ok (.newarray .int, 2) := by decide +kernel
theorem dX4_init_41 : decode cX4_init 41 = .ok (.putfield 25, 3) := by decide +kernel
theorem dX4_init_44 : decode cX4_init 44 = .ok (.return_, 1) := by decide +kernel
theorem dX5_init_0 : decode cX5_init 0 = .ok (.aload_n 0, 1) := by decide +kernel
theorem dX5_init_1 : decode cX5_init 1 = .ok (.invokespecial 3, 3) := by decide +kernel
theorem dX5_init_4 : decode cX5_init 4 = .ok (.aload_n 0, 1) := by decide +kernel
theorem dX5_init_5 : decode cX5_init 5 = .ok (.new 9, 3) := by decide +kernel
theorem dX5_init_8 : decode cX5_init 8 = .ok (.dup, 1) := by decide +kernel
theorem dX5_init_9 : decode cX5_init 9 = .ok (.invokespecial 11, 3) := by decide +kernel
theorem dX5_init_12 : decode cX5_init 12 = .ok (.putfield 12, 3) := by decide +kernel
theorem dX5_init_15 : decode cX5_init 15 = .ok (.aload_n 0, 1) := by decide +kernel
theorem dX5_init_16 : decode cX5_init 16 = .ok (.new 9, 3) := by decide +kernel
theorem dX5_init_19 : decode cX5_init 19 = .ok (.dup, 1) := by decide +kernel
theorem dX5_init_20 : decode cX5_init 20 = .ok (.invokespecial 11, 3) := by decide +kernel
theorem dX5_init_23 : decode cX5_init 23 = .ok (.putfield 16, 3) := by decide +kernel
theorem dX5_init_26 : decode cX5_init 26 = .ok (.aload_n 0, 1) := by decide +kernel
theorem dX5_init_27 : decode cX5_init 27 = .ok (.new 9, 3) := by decide +kernel
theorem dX5_init_30 : decode cX5_init 30 = .ok (.dup, 1) := by decide +kernel
theorem dX5_init_31 : decode cX5_init 31 = .ok (.invokespecial 11, 3) := by decide +kernel
theorem dX5_init_34 : decode cX5_init 34 = .ok (.putfield 19, 3) := by decide +kernel
theorem dX5_init_37 : decode cX5_init 37 = .ok (.aload_n 0, 1) := by decide +kernel
theorem dX5_init_38 : decode cX5_init 38 = .ok (.new 22, 3) := by decide +kernel
theorem dX5_init_41 : decode cX5_init 41 = .ok (.dup, 1) := by decide +kernel
theorem dX5_init_42 : decode cX5_init 42 = .ok (.invokespecial 24, 3) := by decide +kernel
theorem dX5_init_45 : decode cX5_init 45 = .ok (.putfield 25, 3) := by decide +kernel
theorem dX5_init_48 : decode cX5_init 48 = .ok (.aload_n 0, 1) := by decide +kernel
theorem dX5_init_49 : decode cX5_init 49 = .ok (.new 29, 3) := by decide +kernel
theorem dX5_init_52 : decode cX5_init 52 = .ok (.dup, 1) := by decide +kernel
theorem dX5_init_53 : decode cX5_init 53 = .ok (.invokespecial 31, 3) := by decide +kernel
theorem dX5_init_56 : decode cX5_init 56 = .ok (.putfield 32, 3) := by decide +kernel
theorem dX5_init_59 : decode cX5_init 59 = .ok (.aload_n 0, 1) := by decide +kernel
theorem dX5_init_60 : decode cX5_init 60 = .ok (.new 36, 3) := by decide +kernel
theorem dX5_init_63 : decode cX5_init 63 = .ok (.dup, 1) := by decide +kernel
theorem dX5_init_64 : decode cX5_init 64 = .ok (.invokespecial 38, 3) := by decide +kernel
theorem dX5_init_67 : decode cX5_init 67 = .ok (.putfield 39, 3) := by decide +kernel
theorem dX5_init_70 : decode cX5_init 70 = .ok (.aload_n 0, 1) := by decide +kernel
theorem dX5_init_71 : decode cX5_init 71 = .ok (.iconst 0, 1) := by decide +kernel
theorem dX5_init_72 : decode cX5_init 72 = .ok (.putfield 43, 3) := by decide +kernel
theorem dX5_init_75 : decode cX5_init 75 = .ok (.return_, 1) := by decide +kernel
theorem dX5_addFirm_0 : decode cX5_addFirm 0 = .ok (.aload_n 0, 1) := by decide +kernel
theorem dX5_addFirm_1 : decode cX5_addFirm 1 = .ok (.getfield 12, 3) := by decide +kernel
theorem dX5_addFirm_4 : decode cX5_addFirm 4 = .ok (.getfield 47, 3) := by decide +kernel
theorem dX5_addFirm_7 : decode cX5_addFirm 7 = .ok (.bipush 8, 2) := by decide +kernel
theorem dX5_addFirm_9 : decode cX5_addFirm 9 = .ok (.if_icmp .lt 6, 3) := by decide +kernel
theorem dX5_addFirm_12 : decode cX5_addFirm 12 = .ok (.bipush (-3), 2) := by decide +kernel
theorem dX5_addFirm_14 : decode cX5_addFirm 14 = .ok (.ireturn, 1) := by decide +kernel
theorem dX5_addFirm_15 : decode cX5_addFirm 15 = .ok (.aload_n 0, 1) := by decide +kernel
theorem dX5_addFirm_16 : decode cX5_addFirm 16 = .ok (.getfield 25, 3) := by decide +kernel
theorem dX5_addFirm_19 : decode cX5_addFirm 19 = .ok (.aload_n 0, 1) := by decide +kernel
theorem dX5_addFirm_20 : decode cX5_addFirm 20 = .ok (.getfield 12, 3) := by decide +kernel
theorem dX5_addFirm_23 : decode cX5_addFirm 23 = .ok (.invokevirtual 51, 3) := by decide +kernel
theorem dX5_addFirm_26 : decode cX5_addFirm 26 = .ok (.aload_n 0, 1) := by decide +kernel
theorem dX5_addFirm_27 : decode cX5_addFirm 27 = .ok (.getfield 12, 3) := by decide +kernel
theorem dX5_addFirm_30 : decode cX5_addFirm 30 = .ok (.dup, 1) := by decide +kernel
theorem dX5_addFirm_31 : decode cX5_addFirm 31 = .ok (.getfield 47, 3) := by decide +kernel
theorem dX5_addFirm_34 : decode cX5_addFirm 34 = .ok (.iconst 1, 1) := by decide +kernel
theorem dX5_addFirm_35 : decode cX5_addFirm 35 = .ok (.iadd, 1) := by decide +kernel
theorem dX5_addFirm_36 : decode cX5_addFirm 36 = .ok (.putfield 47, 3) := by decide +kernel
theorem dX5_addFirm_39 : decode cX5_addFirm 39 = .ok (.aload_n 0, 1) := by decide +kernel
theorem dX5_addFirm_40 : decode cX5_addFirm 40 = .ok (.getfield 12, 3) := by decide +kernel
theorem dX5_addFirm_43 : decode cX5_addFirm 43 = .ok (.getfield 47, 3) := by decide +kernel
theorem dX5_addFirm_46 : decode cX5_addFirm 46 = .ok (.iconst 1, 1) := by decide +kernel
theorem dX5_addFirm_47 : decode cX5_addFirm 47 = .ok (.isub, 1) := by decide +kernel
theorem dX5_addFirm_48 : decode cX5_addFirm 48 = .ok (.ireturn, 1) := by decide +kernel
theorem dX5_set_0 : decode cX5_set 0 = .ok (.iload_n 1, 1) := by decide +kernel
theorem dX5_set_1 : decode cX5_set 1 = .ok (.ifCond .lt 26, 3) := by decide +kernel
theorem dX5_set_4 : decode cX5_set 4 = .ok (.iload_n 1, 1) := by decide +kernel
theorem dX5_set_5 : decode cX5_set 5 = .ok (.iconst 5, 1) := by decide +kernel
theorem dX5_set_6 : decode cX5_set 6 = .ok (.if_icmp .ge 21, 3) := by decide +kernel
theorem dX5_set_9 : decode cX5_set 9 = .ok (.iload_n 2, 1) := by decide +kernel
theorem dX5_set_10 : decode cX5_set 10 = .ok (.getstatic 55, 3) := by decide +kernel
theorem dX5_set_13 : decode cX5_set 13 = .ok (.iload_n 1, 1) := by decide +kernel
theorem dX5_set_14 : decode cX5_set 14 = .ok (.iaload, 1) := by decide +kernel
theorem dX5_set_15 : decode cX5_set 15 = .ok (.if_icmp .lt 12, 3) := by decide +kernel
theorem dX5_set_18 : decode cX5_set 18 = .ok (.iload_n 2, 1) := by decide +kernel
theorem dX5_set_19 : decode cX5_set 19 = .ok (.getstatic 59, 3) := by decide +kernel
theorem dX5_set_22 : decode cX5_set 22 = .ok (.iload_n 1, 1) := by decide +kernel
theorem dX5_set_23 : decode cX5_set 23 = .ok (.iaload, 1) := by decide +kernel
theorem dX5_set_24 : decode cX5_set 24 = .ok (.if_icmp .le 6, 3) := by decide +kernel
theorem dX5_set_27 : decode cX5_set 27 = .ok (.bipush (-2), 2) := by decide +kernel
theorem dX5_set_29 : decode cX5_set 29 = .ok (.ireturn, 1) := by decide +kernel
theorem dX5_set_30 : decode cX5_set 30 = .ok (.aload_n 0, 1) := by decide +kernel
theorem dX5_set_31 : decode cX5_set 31 = .ok (.getfield 12, 3) := by decide +kernel
theorem dX5_set_34 : decode cX5_set 34 = .ok (.getfield 62, 3) := by decide +kernel
theorem dX5_set_37 : decode cX5_set 37 = .ok (.iload_n 1, 1) := by decide +kernel
theorem dX5_set_38 : decode cX5_set 38 = .ok (.iaload, 1) := by decide +kernel
theorem dX5_set_39 : decode cX5_set 39 = .ok (.istore_n 3, 1) := by decide +kernel
theorem dX5_set_40 : decode cX5_set 40 = .ok (.iload_n 2, 1) := by decide +kernel
theorem dX5_set_41 : decode cX5_set 41 = .ok (.iload_n 3, 1) := by decide +kernel
theorem dX5_set_42 : decode cX5_set 42 = .ok (.if_icmp .ne 6, 3) := by decide +kernel
theorem dX5_set_45 : decode cX5_set 45 = .ok (.bipush (-5), 2) := by decide +kernel
theorem dX5_set_47 : decode cX5_set 47 = .ok (.ireturn, 1) := by decide +kernel
theorem dX5_set_48 : decode cX5_set 48 = .ok (.aload_n 0, 1) := by decide +kernel
theorem dX5_set_49 : decode cX5_set 49 = .ok (.getfield 25, 3) := by decide +kernel
theorem dX5_set_52 : decode cX5_set 52 = .ok (.aload_n 0, 1) := by decide +kernel
theorem dX5_set_53 : decode cX5_set 53 = .ok (.getfield 12, 3) := by decide +kernel
theorem dX5_set_56 : decode cX5_set 56 = .ok (.invokevirtual 51, 3) := by decide +kernel
theorem dX5_set_59 : decode cX5_set 59 = .ok (.aload_n 0, 1) := by decide +kernel
theorem dX5_set_60 : decode cX5_set 60 = .ok (.getfield 12, 3) := by decide +kernel
theorem dX5_set_63 : decode cX5_set 63 = .ok (.getfield 62, 3) := by decide +kernel
theorem dX5_set_66 : decode cX5_set 66 = .ok (.iload_n 1, 1) := by decide +kernel
theorem dX5_set_67 : decode cX5_set 67 = .ok (.iload_n 2, 1) := by decide +kernel
theorem dX5_set_68 : decode cX5_set 68 = .ok (.iastore, 1) := by decide +kernel
theorem dX5_set_69 : decode cX5_set 69 = .ok (.iload_n 3, 1) := by decide +kernel
theorem dX5_set_70 : decode cX5_set 70 = .ok (.ireturn, 1) := by decide +kernel
theorem dX5_issue_0 : decode cX5_issue 0 = .ok (.aload_n 0, 1) := by decide +kernel
theorem dX5_issue_1 : decode cX5_issue 1 = .ok (.getfield 12, 3) := by decide +kernel
theorem dX5_issue_4 : decode cX5_issue 4 = .ok (.iload_n 1, 1) := by decide +kernel
theorem dX5_issue_5 : decode cX5_issue 5 = .ok (.invokevirtual 65, 3) := by decide +kernel
theorem dX5_issue_8 : decode cX5_issue 8 = .ok (.astore_n 3, 1) := by decide +kernel
theorem dX5_issue_9 : decode cX5_issue 9 = .ok (.aload_n 3, 1) := by decide +kernel
theorem dX5_issue_10 : decode cX5_issue 10 = .ok (.ifnonnull 5, 3) := by decide +kernel
theorem dX5_issue_13 : decode cX5_issue 13 = .ok (.iconst (-1), 1) := by decide +kernel
theorem dX5_issue_14 : decode cX5_issue 14 = .ok (.ireturn, 1) := by decide +kernel
theorem dX5_issue_15 : decode cX5_issue 15 = .ok (.iload_n 2, 1) := by decide +kernel
theorem dX5_issue_16 : decode cX5_issue 16 = .ok (.invokestatic 69, 3) := by decide +kernel
theorem dX5_issue_19 : decode cX5_issue 19 = .ok (.ifCond .ne 6, 3) := by decide +kernel
theorem dX5_issue_22 : decode cX5_issue 22 = .ok (.bipush (-2), 2) := by decide +kernel
theorem dX5_issue_24 : decode cX5_issue 24 = .ok (.ireturn, 1) := by decide +kernel
theorem dX5_issue_25 : decode cX5_issue 25 = .ok (.aload_n 0, 1) := by decide +kernel
theorem dX5_issue_26 : decode cX5_issue 26 = .ok (.getfield 25, 3) := by decide +kernel
theorem dX5_issue_29 : decode cX5_issue 29 = .ok (.aload_n 0, 1) := by decide +kernel
theorem dX5_issue_30 : decode cX5_issue 30 = .ok (.getfield 12, 3) := by decide +kernel
theorem dX5_issue_33 : decode cX5_issue 33 = .ok (.invokevirtual 51, 3) := by decide +kernel
theorem dX5_issue_36 : decode cX5_issue 36 = .ok (.aload_n 0, 1) := by decide +kernel
theorem dX5_issue_37 : decode cX5_issue 37 = .ok (.getfield 12, 3) := by decide +kernel
theorem dX5_issue_40 : decode cX5_issue 40 = .ok (.invokevirtual 73, 3) := by decide +kernel
theorem dX5_issue_43 : decode cX5_issue 43 = .ok (.istore 4, 2) := by decide +kernel
theorem dX5_issue_45 : decode cX5_issue 45 = .ok (.aload_n 3, 1) := by decide +kernel
theorem dX5_issue_46 : decode cX5_issue 46 = .ok (.getfield 77, 3) := by decide +kernel
theorem dX5_issue_49 : decode cX5_issue 49 = .ok (.iload 4, 2) := by decide +kernel
theorem dX5_issue_51 : decode cX5_issue 51 = .ok (.dup2, 1) := by decide +kernel
theorem dX5_issue_52 : decode cX5_issue 52 = .ok (.iaload, 1) := by decide +kernel
theorem dX5_issue_53 : decode cX5_issue 53 = .ok (.iload_n 2, 1) := by decide +kernel
theorem dX5_issue_54 : decode cX5_issue 54 = .ok (.iadd, 1) := by decide +kernel
theorem dX5_issue_55 : decode cX5_issue 55 = .ok (.iastore, 1) := by decide +kernel
theorem dX5_issue_56 : decode cX5_issue 56 = .ok (.aload_n 0, 1) := by decide +kernel
theorem dX5_issue_57 : decode cX5_issue 57 = .ok (.getfield 12, 3) := by decide +kernel
theorem dX5_issue_60 : decode cX5_issue 60 = .ok (.getfield 82, 3) := by decide +kernel
theorem dX5_issue_63 : decode cX5_issue 63 = .ok (.iload 4, 2) := by decide +kernel
theorem dX5_issue_65 : decode cX5_issue 65 = .ok (.dup2, 1) := by decide +kernel
theorem dX5_issue_66 : decode cX5_issue 66 = .ok (.iaload, 1) := by decide +kernel
theorem dX5_issue_67 : decode cX5_issue 67 = .ok (.iload_n 2, 1) := by decide +kernel
theorem dX5_issue_68 : decode cX5_issue 68 = .ok (.iadd, 1) := by decide +kernel
theorem dX5_issue_69 : decode cX5_issue 69 = .ok (.iastore, 1) := by decide +kernel
theorem dX5_issue_70 : decode cX5_issue 70 = .ok (.aload_n 3, 1) := by decide +kernel
theorem dX5_issue_71 : decode cX5_issue 71 = .ok (.getfield 77, 3) := by decide +kernel
theorem dX5_issue_74 : decode cX5_issue 74 = .ok (.iload 4, 2) := by decide +kernel
theorem dX5_issue_76 : decode cX5_issue 76 = .ok (.iaload, 1) := by decide +kernel
theorem dX5_issue_77 : decode cX5_issue 77 = .ok (.ireturn, 1) := by decide +kernel
theorem dX5_issueOffsets_0 : decode cX5_issueOffsets 0 = .ok (.aload_n 0, 1) := by decide +kernel
theorem dX5_issueOffsets_1 : decode cX5_issueOffsets 1 = .ok (.getfield 12, 3) := by decide +kernel
theorem dX5_issueOffsets_4 : decode cX5_issueOffsets 4 = .ok (.iload_n 1, 1) := by decide +kernel
theorem dX5_issueOffsets_5 : decode cX5_issueOffsets 5 = .ok (.invokevirtual 65, 3) := by decide +kernel
theorem dX5_issueOffsets_8 : decode cX5_issueOffsets 8 = .ok (.astore 4, 2) := by decide +kernel
theorem dX5_issueOffsets_10 : decode cX5_issueOffsets 10 = .ok (.aload 4, 2) := by decide +kernel
theorem dX5_issueOffsets_12 : decode cX5_issueOffsets 12 = .ok (.ifnull 10, 3) := by decide +kernel
theorem dX5_issueOffsets_15 : decode cX5_issueOffsets 15 = .ok (.iload_n 2, 1) := by decide +kernel
theorem dX5_issueOffsets_16 : decode cX5_issueOffsets 16 = .ok (.invokestatic 85, 3) := by decide +kernel
theorem dX5_issueOffsets_19 : decode cX5_issueOffsets 19 = .ok (.ifCond .ne 5, 3) := by decide +kernel
theorem dX5_issueOffsets_22 : decode cX5_issueOffsets 22 = .ok (.iconst (-1), 1) := by decide +kernel
theorem dX5_issueOffsets_23 : decode cX5_issueOffsets 23 = .ok (.ireturn, 1) := by decide +kernel
theorem dX5_issueOffsets_24 : decode cX5_issueOffsets 24 = .ok (.iload_n 3, 1) := by decide +kernel
theorem dX5_issueOffsets_25 : decode cX5_issueOffsets 25 = .ok (.invokestatic 69, 3) := by decide +kernel
theorem dX5_issueOffsets_28 : decode cX5_issueOffsets 28 = .ok (.ifCond .ne 6, 3) := by decide +kernel
theorem dX5_issueOffsets_31 : decode cX5_issueOffsets 31 = .ok (.bipush (-2), 2) := by decide +kernel
theorem dX5_issueOffsets_33 : decode cX5_issueOffsets 33 = .ok (.ireturn, 1) := by decide +kernel
theorem dX5_issueOffsets_34 : decode cX5_issueOffsets 34 = .ok (.aload_n 0, 1) := by decide +kernel
theorem dX5_issueOffsets_35 : decode cX5_issueOffsets 35 = .ok (.getfield 25, 3) := by decide +kernel
theorem dX5_issueOffsets_38 : decode cX5_issueOffsets 38 = .ok (.aload_n 0, 1) := by decide +kernel
theorem dX5_issueOffsets_39 : decode cX5_issueOffsets 39 = .ok (.getfield 12, 3) := by decide +kernel
theorem dX5_issueOffsets_42 : decode cX5_issueOffsets 42 = .ok (.invokevirtual 51, 3) := by decide +kernel
theorem dX5_issueOffsets_45 : decode cX5_issueOffsets 45 = .ok (.aload 4, 2) := by decide +kernel
theorem dX5_issueOffsets_47 : decode cX5_issueOffsets 47 = .ok (.getfield 88, 3) := by decide +kernel
theorem dX5_issueOffsets_50 : decode cX5_issueOffsets 50 = .ok (.iload_n 2, 1) := by decide +kernel
theorem dX5_issueOffsets_51 : decode cX5_issueOffsets 51 = .ok (.dup2, 1) := by decide +kernel
theorem dX5_issueOffsets_52 : decode cX5_issueOffsets 52 = .ok (.iaload, 1) := by decide +kernel
theorem dX5_issueOffsets_53 : decode cX5_issueOffsets 53 = .ok (.iload_n 3, 1) := by decide +kernel
theorem dX5_issueOffsets_54 : decode cX5_issueOffsets 54 = .ok (.iadd, 1) := by decide +kernel
theorem dX5_issueOffsets_55 : decode cX5_issueOffsets 55 = .ok (.iastore, 1) := by decide +kernel
theorem dX5_issueOffsets_56 : decode cX5_issueOffsets 56 = .ok (.aload_n 0, 1) := by decide +kernel
theorem dX5_issueOffsets_57 : decode cX5_issueOffsets 57 = .ok (.getfield 12, 3) := by decide +kernel
theorem dX5_issueOffsets_60 : decode cX5_issueOffsets 60 = .ok (.getfield 91, 3) := by decide +kernel
theorem dX5_issueOffsets_63 : decode cX5_issueOffsets 63 = .ok (.iload_n 2, 1) := by decide +kernel
theorem dX5_issueOffsets_64 : decode cX5_issueOffsets 64 = .ok (.dup2, 1) := by decide +kernel
theorem dX5_issueOffsets_65 : decode cX5_issueOffsets 65 = .ok (.iaload, 1) := by decide +kernel
theorem dX5_issueOffsets_66 : decode cX5_issueOffsets 66 = .ok (.iload_n 3, 1) := by decide +kernel
theorem dX5_issueOffsets_67 : decode cX5_issueOffsets 67 = .ok (.iadd, 1) := by decide +kernel
theorem dX5_issueOffsets_68 : decode cX5_issueOffsets 68 = .ok (.iastore, 1) := by decide +kernel
theorem dX5_issueOffsets_69 : decode cX5_issueOffsets 69 = .ok (.aload 4, 2) := by decide +kernel
theorem dX5_issueOffsets_71 : decode cX5_issueOffsets 71 = .ok (.getfield 88, 3) := by decide +kernel
theorem dX5_issueOffsets_74 : decode cX5_issueOffsets 74 = .ok (.iload_n 2, 1) := by decide +kernel
theorem dX5_issueOffsets_75 : decode cX5_issueOffsets 75 = .ok (.iaload, 1) := by decide +kernel
theorem dX5_issueOffsets_76 : decode cX5_issueOffsets 76 = .ok (.ireturn, 1) := by decide +kernel
theorem dX5_transfer_0 : decode cX5_transfer 0 = .ok (.aload_n 0, 1) := by decide +kernel
theorem dX5_transfer_1 : decode cX5_transfer 1 = .ok (.getfield 12, 3) := by decide +kernel
theorem dX5_transfer_4 : decode cX5_transfer 4 = .ok (.iload_n 1, 1) := by decide +kernel
theorem dX5_transfer_5 : decode cX5_transfer 5 = .ok (.iload_n 2, 1) := by decide +kernel
theorem dX5_transfer_6 : decode cX5_transfer 6 = .ok (.iload_n 3, 1) := by decide +kernel
theorem dX5_transfer_7 : decode cX5_transfer 7 = .ok (.iload 4, 2) := by decide +kernel
theorem dX5_transfer_9 : decode cX5_transfer 9 = .ok (.invokevirtual 94, 3) := by decide +kernel
theorem dX5_transfer_12 : decode cX5_transfer 12 = .ok (.istore 5, 2) := by decide +kernel
theorem dX5_transfer_14 : decode cX5_transfer 14 = .ok (.iload 5, 2) := by decide +kernel
theorem dX5_transfer_16 : decode cX5_transfer 16 = .ok (.ifCond .eq 6, 3) := by decide +kernel
theorem dX5_transfer_19 : decode cX5_transfer 19 = .ok (.iload 5, 2) := by decide +kernel
theorem dX5_transfer_21 : decode cX5_transfer 21 = .ok (.ireturn, 1) := by decide +kernel
theorem dX5_transfer_22 : decode cX5_transfer 22 = .ok (.aload_n 0, 1) := by decide +kernel
theorem dX5_transfer_23 : decode cX5_transfer 23 = .ok (.getfield 25, 3) := by decide +kernel
theorem dX5_transfer_26 : decode cX5_transfer 26 = .ok (.aload_n 0, 1) := by decide +kernel
theorem dX5_transfer_27 : decode cX5_transfer 27 = .ok (.getfield 12, 3) := by decide +kernel
theorem dX5_transfer_30 : decode cX5_transfer 30 = .ok (.invokevirtual 51, 3) := by decide +kernel
theorem dX5_transfer_33 : decode cX5_transfer 33 = .ok (.aload_n 0, 1) := by decide +kernel
theorem dX5_transfer_34 : decode cX5_transfer 34 = .ok (.getfield 12, 3) := by decide +kernel
theorem dX5_transfer_37 : decode cX5_transfer 37 = .ok (.iload_n 1, 1) := by decide +kernel
theorem dX5_transfer_38 : decode cX5_transfer 38 = .ok (.iload_n 2, 1) := by decide +kernel
theorem dX5_transfer_39 : decode cX5_transfer 39 = .ok (.iload_n 3, 1) := by decide +kernel
theorem dX5_transfer_40 : decode cX5_transfer 40 = .ok (.iload 4, 2) := by decide +kernel
theorem dX5_transfer_42 : decode cX5_transfer 42 = .ok (.invokevirtual 98, 3) := by decide +kernel
theorem dX5_transfer_45 : decode cX5_transfer 45 = .ok (.ireturn, 1) := by decide +kernel
theorem dX5_transferOffsets_0 : decode cX5_transferOffsets 0 = .ok (.aload_n 0, 1) := by decide +kernel
theorem dX5_transferOffsets_1 : decode cX5_transferOffsets 1 = .ok (.getfield 12, 3) := by decide +kernel
theorem dX5_transferOffsets_4 : decode cX5_transferOffsets 4 = .ok (.iload_n 1, 1) := by decide +kernel
theorem dX5_transferOffsets_5 : decode cX5_transferOffsets 5 = .ok (.invokevirtual 65, 3) := by decide +kernel
theorem dX5_transferOffsets_8 : decode cX5_transferOffsets 8 = .ok (.astore 5, 2) := by decide +kernel
theorem dX5_transferOffsets_10 : decode cX5_transferOffsets 10 = .ok (.aload_n 0, 1) := by decide +kernel
theorem dX5_transferOffsets_11 : decode cX5_transferOffsets 11 = .ok (.getfield 12, 3) := by decide +kernel
theorem dX5_transferOffsets_14 : decode cX5_transferOffsets 14 = .ok (.iload_n 2, 1) := by decide +kernel
theorem dX5_transferOffsets_15 : decode cX5_transferOffsets 15 = .ok (.invokevirtual 65, 3) := by decide +kernel
theorem dX5_transferOffsets_18 : decode cX5_transferOffsets 18 = .ok (.astore 6, 2) := by decide +kernel
theorem dX5_transferOffsets_20 : decode cX5_transferOffsets 20 = .ok (.aload 5, 2) := by decide +kernel
theorem dX5_transferOffsets_22 : decode cX5_transferOffsets 22 = .ok (.ifnull 15, 3) := by decide +kernel
theorem dX5_transferOffsets_25 : decode cX5_transferOffsets 25 = .ok (.aload 6, 2) := by decide +kernel
theorem dX5_transferOffsets_27 : decode cX5_transferOffsets 27 = .ok (.ifnull 10, 3) := by decide +kernel
theorem dX5_transferOffsets_30 : decode cX5_transferOffsets 30 = .ok (.iload_n 3, 1) := by decide +kernel
theorem dX5_transferOffsets_31 : decode cX5_transferOffsets 31 = .ok (.invokestatic 85, 3) := by decide +kernel
theorem dX5_transferOffsets_34 : decode cX5_transferOffsets 34 = .ok (.ifCond .ne 5, 3) := by decide +kernel
theorem dX5_transferOffsets_37 : decode cX5_transferOffsets 37 = .ok (.iconst (-1), 1) := by decide +kernel
theorem dX5_transferOffsets_38 : decode cX5_transferOffsets 38 = .ok (.ireturn, 1) := by decide +kernel
theorem dX5_transferOffsets_39 : decode cX5_transferOffsets 39 = .ok (.iload 4, 2) := by decide +kernel
theorem dX5_transferOffsets_41 : decode cX5_transferOffsets 41 = .ok (.invokestatic 69, 3) := by decide +kernel
theorem dX5_transferOffsets_44 : decode cX5_transferOffsets 44 = .ok (.ifCond .eq 8, 3) := by decide +kernel
theorem dX5_transferOffsets_47 : decode cX5_transferOffsets 47 = .ok (.iload_n 1, 1) := by decide +kernel
theorem dX5_transferOffsets_48 : decode cX5_transferOffsets 48 = .ok (.iload_n 2, 1) := by decide +kernel
theorem dX5_transferOffsets_49 : decode cX5_transferOffsets 49 = .ok (.if_icmp .ne 6, 3) := by decide +kernel
theorem dX5_transferOffsets_52 : decode cX5_transferOffsets 52 = .ok (.bipush (-2), 2) := by decide +kernel
theorem dX5_transferOffsets_54 : decode cX5_transferOffsets 54 = .ok (.ireturn, 1) := by decide +kernel
theorem dX5_transferOffsets_55 : decode cX5_transferOffsets 55 = .ok (.aload 5, 2) := by decide +kernel
theorem dX5_transferOffsets_57 : decode cX5_transferOffsets 57 = .ok (.getfield 88, 3) := by decide +kernel
theorem dX5_transferOffsets_60 : decode cX5_transferOffsets 60 = .ok (.iload_n 3, 1) := by decide +kernel
theorem dX5_transferOffsets_61 : decode cX5_transferOffsets 61 = .ok (.iaload, 1) := by decide +kernel
theorem dX5_transferOffsets_62 : decode cX5_transferOffsets 62 = .ok (.iload 4, 2) := by decide +kernel
theorem dX5_transferOffsets_64 : decode cX5_transferOffsets 64 = .ok (.if_icmp .ge 6, 3) := by decide +kernel
theorem dX5_transferOffsets_67 : decode cX5_transferOffsets 67 = .ok (.bipush (-4), 2) := by decide +kernel
theorem dX5_transferOffsets_69 : decode cX5_transferOffsets 69 = .ok (.ireturn, 1) := by decide +kernel
theorem dX5_transferOffsets_70 : decode cX5_transferOffsets 70 = .ok (.aload_n 0, 1) := by decide +kernel
theorem dX5_transferOffsets_71 : decode cX5_transferOffsets 71 = .ok (.getfield 25, 3) := by decide +kernel
theorem dX5_transferOffsets_74 : decode cX5_transferOffsets 74 = .ok (.aload_n 0, 1) := by decide +kernel
theorem dX5_transferOffsets_75 : decode cX5_transferOffsets 75 = .ok (.getfield 12, 3) := by decide +kernel
theorem dX5_transferOffsets_78 : decode cX5_transferOffsets 78 = .ok (.invokevirtual 51, 3) := by decide +kernel
theorem dX5_transferOffsets_81 : decode cX5_transferOffsets 81 = .ok (.aload 5, 2) := by decide +kernel
theorem dX5_transferOffsets_83 : decode cX5_transferOffsets 83 = .ok (.getfield 88, 3) := by decide +kernel
theorem dX5_transferOffsets_86 : decode cX5_transferOffsets 86 = .ok (.iload_n 3, 1) := by decide +kernel
theorem dX5_transferOffsets_87 : decode cX5_transferOffsets 87 = .ok (.dup2, 1) := by decide +kernel
theorem dX5_transferOffsets_88 : decode cX5_transferOffsets 88 = .ok (.iaload, 1) := by decide +kernel
theorem dX5_transferOffsets_89 : decode cX5_transferOffsets 89 = .ok (.iload 4, 2) := by decide +kernel
theorem dX5_transferOffsets_91 : decode cX5_transferOffsets 91 = .ok (.isub, 1) := by decide +kernel
theorem dX5_transferOffsets_92 : decode cX5_transferOffsets 92 = .ok (.iastore, 1) := by decide +kernel
theorem dX5_transferOffsets_93 : decode cX5_transferOffsets 93 = .ok (.aload 6, 2) := by decide +kernel
theorem dX5_transferOffsets_95 : decode cX5_transferOffsets 95 = .ok (.getfield 88, 3) := by decide +kernel
theorem dX5_transferOffsets_98 : decode cX5_transferOffsets 98 = .ok (.iload_n 3, 1) := by decide +kernel
theorem dX5_transferOffsets_99 : decode cX5_transferOffsets 99 = .ok (.dup2, 1) := by decide +kernel
theorem dX5_transferOffsets_100 : decode cX5_transferOffsets 100 = .ok (.iaload, 1) := by decide +kernel
theorem dX5_transferOffsets_101 : decode cX5_transferOffsets 101 = .ok (.iload 4, 2) := by decide +kernel
theorem dX5_transferOffsets_103 : decode cX5_transferOffsets 103 = .ok (.iadd, 1) := by decide +kernel
theorem dX5_transferOffsets_104 : decode cX5_transferOffsets 104 = .ok (.iastore, 1) := by decide +kernel
theorem dX5_transferOffsets_105 : decode cX5_transferOffsets 105 = .ok (.aload 5, 2) := by decide +kernel
theorem dX5_transferOffsets_107 : decode cX5_transferOffsets 107 = .ok (.getfield 88, 3) := by decide +kernel
theorem dX5_transferOffsets_110 : decode cX5_transferOffsets 110 = .ok (.iload_n 3, 1) := by decide +kernel
theorem dX5_transferOffsets_111 : decode cX5_transferOffsets 111 = .ok (.iaload, 1) := by decide +kernel
theorem dX5_transferOffsets_112 : decode cX5_transferOffsets 112 = .ok (.ireturn, 1) := by decide +kernel
theorem dX5_cancel_0 : decode cX5_cancel 0 = .ok (.aload_n 0, 1) := by decide +kernel
theorem dX5_cancel_1 : decode cX5_cancel 1 = .ok (.getfield 12, 3) := by decide +kernel
theorem dX5_cancel_4 : decode cX5_cancel 4 = .ok (.iload_n 1, 1) := by decide +kernel
theorem dX5_cancel_5 : decode cX5_cancel 5 = .ok (.invokevirtual 65, 3) := by decide +kernel
theorem dX5_cancel_8 : decode cX5_cancel 8 = .ok (.astore 4, 2) := by decide +kernel
theorem dX5_cancel_10 : decode cX5_cancel 10 = .ok (.aload 4, 2) := by decide +kernel
theorem dX5_cancel_12 : decode cX5_cancel 12 = .ok (.ifnull 10, 3) := by decide +kernel
theorem dX5_cancel_15 : decode cX5_cancel 15 = .ok (.iload_n 2, 1) := by decide +kernel
theorem dX5_cancel_16 : decode cX5_cancel 16 = .ok (.invokestatic 101, 3) := by decide +kernel
theorem dX5_cancel_19 : decode cX5_cancel 19 = .ok (.ifCond .ne 5, 3) := by decide +kernel
theorem dX5_cancel_22 : decode cX5_cancel 22 = .ok (.iconst (-1), 1) := by decide +kernel
theorem dX5_cancel_23 : decode cX5_cancel 23 = .ok (.ireturn, 1) := by decide +kernel
theorem dX5_cancel_24 : decode cX5_cancel 24 = .ok (.iload_n 3, 1) := by decide +kernel
theorem dX5_cancel_25 : decode cX5_cancel 25 = .ok (.invokestatic 69, 3) := by decide +kernel
theorem dX5_cancel_28 : decode cX5_cancel 28 = .ok (.ifCond .ne 6, 3) := by decide +kernel
theorem dX5_cancel_31 : decode cX5_cancel 31 = .ok (.bipush (-2), 2) := by decide +kernel
theorem dX5_cancel_33 : decode cX5_cancel 33 = .ok (.ireturn, 1) := by decide +kernel
theorem dX5_cancel_34 : decode cX5_cancel 34 = .ok (.aload 4, 2) := by decide +kernel
theorem dX5_cancel_36 : decode cX5_cancel 36 = .ok (.getfield 77, 3) := by decide +kernel
theorem dX5_cancel_39 : decode cX5_cancel 39 = .ok (.iload_n 2, 1) := by decide +kernel
theorem dX5_cancel_40 : decode cX5_cancel 40 = .ok (.iaload, 1) := by decide +kernel
theorem dX5_cancel_41 : decode cX5_cancel 41 = .ok (.iload_n 3, 1) := by decide +kernel
theorem dX5_cancel_42 : decode cX5_cancel 42 = .ok (.if_icmp .ge 6, 3) := by decide +kernel
theorem dX5_cancel_45 : decode cX5_cancel 45 = .ok (.bipush (-4), 2) := by decide +kernel
theorem dX5_cancel_47 : decode cX5_cancel 47 = .ok (.ireturn, 1) := by decide +kernel
theorem dX5_cancel_48 : decode cX5_cancel 48 = .ok (.aload_n 0, 1) := by decide +kernel
theorem dX5_cancel_49 : decode cX5_cancel 49 = .ok (.getfield 25, 3) := by decide +kernel
theorem dX5_cancel_52 : decode cX5_cancel 52 = .ok (.aload_n 0, 1) := by decide +kernel
theorem dX5_cancel_53 : decode cX5_cancel 53 = .ok (.getfield 12, 3) := by decide +kernel
theorem dX5_cancel_56 : decode cX5_cancel 56 = .ok (.invokevirtual 51, 3) := by decide +kernel
theorem dX5_cancel_59 : decode cX5_cancel 59 = .ok (.aload 4, 2) := by decide +kernel
theorem dX5_cancel_61 : decode cX5_cancel 61 = .ok (.getfield 77, 3) := by decide +kernel
theorem dX5_cancel_64 : decode cX5_cancel 64 = .ok (.iload_n 2, 1) := by decide +kernel
theorem dX5_cancel_65 : decode cX5_cancel 65 = .ok (.dup2, 1) := by decide +kernel
theorem dX5_cancel_66 : decode cX5_cancel 66 = .ok (.iaload, 1) := by decide +kernel
theorem dX5_cancel_67 : decode cX5_cancel 67 = .ok (.iload_n 3, 1) := by decide +kernel
theorem dX5_cancel_68 : decode cX5_cancel 68 = .ok (.isub, 1) := by decide +kernel
theorem dX5_cancel_69 : decode cX5_cancel 69 = .ok (.iastore, 1) := by decide +kernel
theorem dX5_cancel_70 : decode cX5_cancel 70 = .ok (.aload_n 0, 1) := by decide +kernel
theorem dX5_cancel_71 : decode cX5_cancel 71 = .ok (.getfield 12, 3) := by decide +kernel
theorem dX5_cancel_74 : decode cX5_cancel 74 = .ok (.getfield 104, 3) := by decide +kernel
theorem dX5_cancel_77 : decode cX5_cancel 77 = .ok (.iload_n 2, 1) := by decide +kernel
theorem dX5_cancel_78 : decode cX5_cancel 78 = .ok (.dup2, 1) := by decide +kernel
theorem dX5_cancel_79 : decode cX5_cancel 79 = .ok (.iaload, 1) := by decide +kernel
theorem dX5_cancel_80 : decode cX5_cancel 80 = .ok (.iload_n 3, 1) := by decide +kernel
theorem dX5_cancel_81 : decode cX5_cancel 81 = .ok (.iadd, 1) := by decide +kernel
theorem dX5_cancel_82 : decode cX5_cancel 82 = .ok (.iastore, 1) := by decide +kernel
theorem dX5_cancel_83 : decode cX5_cancel 83 = .ok (.aload 4, 2) := by decide +kernel
theorem dX5_cancel_85 : decode cX5_cancel 85 = .ok (.getfield 77, 3) := by decide +kernel
theorem dX5_cancel_88 : decode cX5_cancel 88 = .ok (.iload_n 2, 1) := by decide +kernel
theorem dX5_cancel_89 : decode cX5_cancel 89 = .ok (.iaload, 1) := by decide +kernel
theorem dX5_cancel_90 : decode cX5_cancel 90 = .ok (.ireturn, 1) := by decide +kernel
theorem dX5_report_0 : decode cX5_report 0 = .ok (.aload_n 0, 1) := by decide +kernel
theorem dX5_report_1 : decode cX5_report 1 = .ok (.getfield 12, 3) := by decide +kernel
theorem dX5_report_4 : decode cX5_report 4 = .ok (.iload_n 1, 1) := by decide +kernel
theorem dX5_report_5 : decode cX5_report 5 = .ok (.invokevirtual 65, 3) := by decide +kernel
theorem dX5_report_8 : decode cX5_report 8 = .ok (.astore_n 3, 1) := by decide +kernel
theorem dX5_report_9 : decode cX5_report 9 = .ok (.aload_n 3, 1) := by decide +kernel
theorem dX5_report_10 : decode cX5_report 10 = .ok (.ifnonnull 5, 3) := by decide +kernel
theorem dX5_report_13 : decode cX5_report 13 = .ok (.iconst (-1), 1) := by decide +kernel
theorem dX5_report_14 : decode cX5_report 14 = .ok (.ireturn, 1) := by decide +kernel
theorem dX5_report_15 : decode cX5_report 15 = .ok (.iload_n 2, 1) := by decide +kernel
theorem dX5_report_16 : decode cX5_report 16 = .ok (.invokestatic 69, 3) := by decide +kernel
theorem dX5_report_19 : decode cX5_report 19 = .ok (.ifCond .ne 6, 3) := by decide +kernel
theorem dX5_report_22 : decode cX5_report 22 = .ok (.bipush (-2), 2) := by decide +kernel
theorem dX5_report_24 : decode cX5_report 24 = .ok (.ireturn, 1) := by decide +kernel
theorem dX5_report_25 : decode cX5_report 25 = .ok (.aload_n 3, 1) := by decide +kernel
theorem dX5_report_26 : decode cX5_report 26 = .ok (.getfield 107, 3) := by decide +kernel
theorem dX5_report_29 : decode cX5_report 29 = .ok (.aload_n 3, 1) := by decide +kernel
theorem dX5_report_30 : decode cX5_report 30 = .ok (.getfield 110, 3) := by decide +kernel
theorem dX5_report_33 : decode cX5_report 33 = .ok (.iadd, 1) := by decide +kernel
theorem dX5_report_34 : decode cX5_report 34 = .ok (.iload_n 2, 1) := by decide +kernel
theorem dX5_report_35 : decode cX5_report 35 = .ok (.iadd, 1) := by decide +kernel
theorem dX5_report_36 : decode cX5_report 36 = .ok (.sipush 9999, 3) := by decide +kernel
theorem dX5_report_39 : decode cX5_report 39 = .ok (.if_icmp .le 6, 3) := by decide +kernel
theorem dX5_report_42 : decode cX5_report 42 = .ok (.bipush (-3), 2) := by decide +kernel
theorem dX5_report_44 : decode cX5_report 44 = .ok (.ireturn, 1) := by decide +kernel
theorem dX5_report_45 : decode cX5_report 45 = .ok (.aload_n 0, 1) := by decide +kernel
theorem dX5_report_46 : decode cX5_report 46 = .ok (.getfield 25, 3) := by decide +kernel
theorem dX5_report_49 : decode cX5_report 49 = .ok (.aload_n 0, 1) := by decide +kernel
theorem dX5_report_50 : decode cX5_report 50 = .ok (.getfield 12, 3) := by decide +kernel
theorem dX5_report_53 : decode cX5_report 53 = .ok (.invokevirtual 51, 3) := by decide +kernel
theorem dX5_report_56 : decode cX5_report 56 = .ok (.aload_n 3, 1) := by decide +kernel
theorem dX5_report_57 : decode cX5_report 57 = .ok (.dup, 1) := by decide +kernel
theorem dX5_report_58 : decode cX5_report 58 = .ok (.getfield 107, 3) := by decide +kernel
theorem dX5_report_61 : decode cX5_report 61 = .ok (.iload_n 2, 1) := by decide +kernel
theorem dX5_report_62 : decode cX5_report 62 = .ok (.iadd, 1) := by decide +kernel
theorem dX5_report_63 : decode cX5_report 63 = .ok (.putfield 107, 3) := by decide +kernel
theorem dX5_report_66 : decode cX5_report 66 = .ok (.aload_n 3, 1) := by decide +kernel
theorem dX5_report_67 : decode cX5_report 67 = .ok (.getfield 107, 3) := by decide +kernel
theorem dX5_report_70 : decode cX5_report 70 = .ok (.ireturn, 1) := by decide +kernel
theorem dX5_verify_0 : decode cX5_verify 0 = .ok (.aload_n 0, 1) := by decide +kernel
theorem dX5_verify_1 : decode cX5_verify 1 = .ok (.getfield 12, 3) := by decide +kernel
theorem dX5_verify_4 : decode cX5_verify 4 = .ok (.iload_n 1, 1) := by decide +kernel
theorem dX5_verify_5 : decode cX5_verify 5 = .ok (.invokevirtual 65, 3) := by decide +kernel
theorem dX5_verify_8 : decode cX5_verify 8 = .ok (.astore_n 2, 1) := by decide +kernel
theorem dX5_verify_9 : decode cX5_verify 9 = .ok (.aload_n 2, 1) := by decide +kernel
theorem dX5_verify_10 : decode cX5_verify 10 = .ok (.ifnonnull 5, 3) := by decide +kernel
theorem dX5_verify_13 : decode cX5_verify 13 = .ok (.iconst (-1), 1) := by decide +kernel
theorem dX5_verify_14 : decode cX5_verify 14 = .ok (.ireturn, 1) := by decide +kernel
theorem dX5_verify_15 : decode cX5_verify 15 = .ok (.aload_n 2, 1) := by decide +kernel
theorem dX5_verify_16 : decode cX5_verify 16 = .ok (.getfield 107, 3) := by decide +kernel
theorem dX5_verify_19 : decode cX5_verify 19 = .ok (.ifCond .ne 6, 3) := by decide +kernel
theorem dX5_verify_22 : decode cX5_verify 22 = .ok (.bipush (-5), 2) := by decide +kernel
theorem dX5_verify_24 : decode cX5_verify 24 = .ok (.ireturn, 1) := by decide +kernel
theorem dX5_verify_25 : decode cX5_verify 25 = .ok (.aload_n 0, 1) := by decide +kernel
theorem dX5_verify_26 : decode cX5_verify 26 = .ok (.getfield 25, 3) := by decide +kernel
theorem dX5_verify_29 : decode cX5_verify 29 = .ok (.aload_n 0, 1) := by decide +kernel
theorem dX5_verify_30 : decode cX5_verify 30 = .ok (.getfield 12, 3) := by decide +kernel
theorem dX5_verify_33 : decode cX5_verify 33 = .ok (.invokevirtual 51, 3) := by decide +kernel
theorem dX5_verify_36 : decode cX5_verify 36 = .ok (.aload_n 2, 1) := by decide +kernel
theorem dX5_verify_37 : decode cX5_verify 37 = .ok (.dup, 1) := by decide +kernel
theorem dX5_verify_38 : decode cX5_verify 38 = .ok (.getfield 110, 3) := by decide +kernel
theorem dX5_verify_41 : decode cX5_verify 41 = .ok (.aload_n 2, 1) := by decide +kernel
theorem dX5_verify_42 : decode cX5_verify 42 = .ok (.getfield 107, 3) := by decide +kernel
theorem dX5_verify_45 : decode cX5_verify 45 = .ok (.iadd, 1) := by decide +kernel
theorem dX5_verify_46 : decode cX5_verify 46 = .ok (.putfield 110, 3) := by decide +kernel
theorem dX5_verify_49 : decode cX5_verify 49 = .ok (.aload_n 2, 1) := by decide +kernel
theorem dX5_verify_50 : decode cX5_verify 50 = .ok (.iconst 0, 1) := by decide +kernel
theorem dX5_verify_51 : decode cX5_verify 51 = .ok (.putfield 107, 3) := by decide +kernel
theorem dX5_verify_54 : decode cX5_verify 54 = .ok (.aload_n 2, 1) := by decide +kernel
theorem dX5_verify_55 : decode cX5_verify 55 = .ok (.getfield 110, 3) := by decide +kernel
theorem dX5_verify_58 : decode cX5_verify 58 = .ok (.ireturn, 1) := by decide +kernel
theorem dX5_surrender_0 : decode cX5_surrender 0 = .ok (.aload_n 0, 1) := by decide +kernel
theorem dX5_surrender_1 : decode cX5_surrender 1 = .ok (.getfield 12, 3) := by decide +kernel
theorem dX5_surrender_4 : decode cX5_surrender 4 = .ok (.iload_n 1, 1) := by decide +kernel
theorem dX5_surrender_5 : decode cX5_surrender 5 = .ok (.invokevirtual 65, 3) := by decide +kernel
theorem dX5_surrender_8 : decode cX5_surrender 8 = .ok (.astore 4, 2) := by decide +kernel
theorem dX5_surrender_10 : decode cX5_surrender 10 = .ok (.aload 4, 2) := by decide +kernel
theorem dX5_surrender_12 : decode cX5_surrender 12 = .ok (.ifnonnull 5, 3) := by decide +kernel
theorem dX5_surrender_15 : decode cX5_surrender 15 = .ok (.iconst (-1), 1) := by decide +kernel
theorem dX5_surrender_16 : decode cX5_surrender 16 = .ok (.ireturn, 1) := by decide +kernel
theorem dX5_surrender_17 : decode cX5_surrender 17 = .ok (.iload_n 2, 1) := by decide +kernel
theorem dX5_surrender_18 : decode cX5_surrender 18 = .ok (.invokestatic 69, 3) := by decide +kernel
theorem dX5_surrender_21 : decode cX5_surrender 21 = .ok (.ifCond .eq 10, 3) := by decide +kernel
theorem dX5_surrender_24 : decode cX5_surrender 24 = .ok (.iload_n 3, 1) := by decide +kernel
theorem dX5_surrender_25 : decode cX5_surrender 25 = .ok (.invokestatic 113, 3) := by decide +kernel
theorem dX5_surrender_28 : decode cX5_surrender 28 = .ok (.ifCond .ne 6, 3) := by decide +kernel
theorem dX5_surrender_31 : decode cX5_surrender 31 = .ok (.bipush (-2), 2) := by decide +kernel
theorem dX5_surrender_33 : decode cX5_surrender 33 = .ok (.ireturn, 1) := by decide +kernel
theorem dX5_surrender_34 : decode cX5_surrender 34 = .ok (.aload 4, 2) := by decide +kernel
theorem dX5_surrender_36 : decode cX5_surrender 36 = .ok (.getfield 116, 3) := by decide +kernel
theorem dX5_surrender_39 : decode cX5_surrender 39 = .ok (.iload_n 2, 1) := by decide +kernel
theorem dX5_surrender_40 : decode cX5_surrender 40 = .ok (.if_icmp .ge 6, 3) := by decide +kernel
theorem dX5_surrender_43 : decode cX5_surrender 43 = .ok (.bipush (-4), 2) := by decide +kernel
theorem dX5_surrender_45 : decode cX5_surrender 45 = .ok (.ireturn, 1) := by decide +kernel
theorem dX5_surrender_46 : decode cX5_surrender 46 = .ok (.aload_n 0, 1) := by decide +kernel
theorem dX5_surrender_47 : decode cX5_surrender 47 = .ok (.getfield 32, 3) := by decide +kernel
theorem dX5_surrender_50 : decode cX5_surrender 50 = .ok (.aload 4, 2) := by decide +kernel
theorem dX5_surrender_52 : decode cX5_surrender 52 = .ok (.aload_n 0, 1) := by decide +kernel
theorem dX5_surrender_53 : decode cX5_surrender 53 = .ok (.getfield 12, 3) := by decide +kernel
theorem dX5_surrender_56 : decode cX5_surrender 56 = .ok (.getfield 62, 3) := by decide +kernel
theorem dX5_surrender_59 : decode cX5_surrender 59 = .ok (.iload_n 2, 1) := by decide +kernel
theorem dX5_surrender_60 : decode cX5_surrender 60 = .ok (.iload_n 3, 1) := by decide +kernel
theorem dX5_surrender_61 : decode cX5_surrender 61 = .ok (.invokevirtual 119, 3) := by decide +kernel
theorem dX5_surrender_64 : decode cX5_surrender 64 = .ok (.aload_n 0, 1) := by decide +kernel
theorem dX5_surrender_65 : decode cX5_surrender 65 = .ok (.getfield 32, 3) := by decide +kernel
theorem dX5_surrender_68 : decode cX5_surrender 68 = .ok (.getfield 123, 3) := by decide +kernel
theorem dX5_surrender_71 : decode cX5_surrender 71 = .ok (.ifCond .le 6, 3) := by decide +kernel
theorem dX5_surrender_74 : decode cX5_surrender 74 = .ok (.bipush (-4), 2) := by decide +kernel
theorem dX5_surrender_76 : decode cX5_surrender 76 = .ok (.ireturn, 1) := by decide +kernel
theorem dX5_surrender_77 : decode cX5_surrender 77 = .ok (.aload_n 0, 1) := by decide +kernel
theorem dX5_surrender_78 : decode cX5_surrender 78 = .ok (.getfield 25, 3) := by decide +kernel
theorem dX5_surrender_81 : decode cX5_surrender 81 = .ok (.aload_n 0, 1) := by decide +kernel
theorem dX5_surrender_82 : decode cX5_surrender 82 = .ok (.getfield 12, 3) := by decide +kernel
theorem dX5_surrender_85 : decode cX5_surrender 85 = .ok (.invokevirtual 51, 3) := by decide +kernel
theorem dX5_surrender_88 : decode cX5_surrender 88 = .ok (.aload_n 0, 1) := by decide +kernel
theorem dX5_surrender_89 : decode cX5_surrender 89 = .ok (.getfield 12, 3) := by decide +kernel
theorem dX5_surrender_92 : decode cX5_surrender 92 = .ok (.aload 4, 2) := by decide +kernel
theorem dX5_surrender_94 : decode cX5_surrender 94 = .ok (.aload_n 0, 1) := by decide +kernel
theorem dX5_surrender_95 : decode cX5_surrender 95 = .ok (.getfield 32, 3) := by decide +kernel
theorem dX5_surrender_98 : decode cX5_surrender 98 = .ok (.invokevirtual 126, 3) := by decide +kernel
theorem dX5_surrender_101 : decode cX5_surrender 101 = .ok (.aload 4, 2) := by decide +kernel
theorem dX5_surrender_103 : decode cX5_surrender 103 = .ok (.dup, 1) := by decide +kernel
theorem dX5_surrender_104 : decode cX5_surrender 104 = .ok (.getfield 116, 3) := by decide +kernel
theorem dX5_surrender_107 : decode cX5_surrender 107 = .ok (.iload_n 2, 1) := by decide +kernel
theorem dX5_surrender_108 : decode cX5_surrender 108 = .ok (.isub, 1) := by decide +kernel
theorem dX5_surrender_109 : decode cX5_surrender 109 = .ok (.putfield 116, 3) := by decide +kernel
theorem dX5_surrender_112 : decode cX5_surrender 112 = .ok (.aload 4, 2) := by decide +kernel
theorem dX5_surrender_114 : decode cX5_surrender 114 = .ok (.dup, 1) := by decide +kernel
theorem dX5_surrender_115 : decode cX5_surrender 115 = .ok (.getfield 130, 3) := by decide +kernel
theorem dX5_surrender_118 : decode cX5_surrender 118 = .ok (.iload_n 2, 1) := by decide +kernel
theorem dX5_surrender_119 : decode cX5_surrender 119 = .ok (.iadd, 1) := by decide +kernel
theorem dX5_surrender_120 : decode cX5_surrender 120 = .ok (.putfield 130, 3) := by decide +kernel
theorem dX5_surrender_123 : decode cX5_surrender 123 = .ok (.aload 4, 2) := by decide +kernel
theorem dX5_surrender_125 : decode cX5_surrender 125 = .ok (.getfield 116, 3) := by decide +kernel
theorem dX5_surrender_128 : decode cX5_surrender 128 = .ok (.ireturn, 1) := by decide +kernel
theorem dX5_pass_0 : decode cX5_pass 0 = .ok (.iload_n 1, 1) := by decide +kernel
theorem dX5_pass_1 : decode cX5_pass 1 = .ok (.iconst 1, 1) := by decide +kernel
theorem dX5_pass_2 : decode cX5_pass 2 = .ok (.if_icmp .lt 9, 3) := by decide +kernel
theorem dX5_pass_5 : decode cX5_pass 5 = .ok (.iload_n 1, 1) := by decide +kernel
theorem dX5_pass_6 : decode cX5_pass 6 = .ok (.bipush 24, 2) := by decide +kernel
theorem dX5_pass_8 : decode cX5_pass 8 = .ok (.if_icmp .le 6, 3) := by decide +kernel
theorem dX5_pass_11 : decode cX5_pass 11 = .ok (.bipush (-2), 2) := by decide +kernel
theorem dX5_pass_13 : decode cX5_pass 13 = .ok (.ireturn, 1) := by decide +kernel
theorem dX5_pass_14 : decode cX5_pass 14 = .ok (.aload_n 0, 1) := by decide +kernel
theorem dX5_pass_15 : decode cX5_pass 15 = .ok (.getfield 12, 3) := by decide +kernel
theorem dX5_pass_18 : decode cX5_pass 18 = .ok (.getfield 133, 3) := by decide +kernel
theorem dX5_pass_21 : decode cX5_pass 21 = .ok (.iload_n 1, 1) := by decide +kernel
theorem dX5_pass_22 : decode cX5_pass 22 = .ok (.iadd, 1) := by decide +kernel
theorem dX5_pass_23 : decode cX5_pass 23 = .ok (.sipush 239, 3) := by decide +kernel
theorem dX5_pass_26 : decode cX5_pass 26 = .ok (.if_icmp .le 6, 3) := by decide +kernel
theorem dX5_pass_29 : decode cX5_pass 29 = .ok (.bipush (-4), 2) := by decide +kernel
theorem dX5_pass_31 : decode cX5_pass 31 = .ok (.ireturn, 1) := by decide +kernel
theorem dX5_pass_32 : decode cX5_pass 32 = .ok (.aload_n 0, 1) := by decide +kernel
theorem dX5_pass_33 : decode cX5_pass 33 = .ok (.getfield 25, 3) := by decide +kernel
theorem dX5_pass_36 : decode cX5_pass 36 = .ok (.aload_n 0, 1) := by decide +kernel
theorem dX5_pass_37 : decode cX5_pass 37 = .ok (.getfield 12, 3) := by decide +kernel
theorem dX5_pass_40 : decode cX5_pass 40 = .ok (.invokevirtual 51, 3) := by decide +kernel
theorem dX5_pass_43 : decode cX5_pass 43 = .ok (.iconst 0, 1) := by decide +kernel
theorem dX5_pass_44 : decode cX5_pass 44 = .ok (.istore_n 2, 1) := by decide +kernel
theorem dX5_pass_45 : decode cX5_pass 45 = .ok (.iconst 0, 1) := by decide +kernel
theorem dX5_pass_46 : decode cX5_pass 46 = .ok (.istore_n 3, 1) := by decide +kernel
theorem dX5_pass_47 : decode cX5_pass 47 = .ok (.iload_n 3, 1) := by decide +kernel
theorem dX5_pass_48 : decode cX5_pass 48 = .ok (.iload_n 1, 1) := by decide +kernel
theorem dX5_pass_49 : decode cX5_pass 49 = .ok (.if_icmp .ge 19, 3) := by decide +kernel
theorem dX5_pass_52 : decode cX5_pass 52 = .ok (.iload_n 2, 1) := by decide +kernel
theorem dX5_pass_53 : decode cX5_pass 53 = .ok (.aload_n 0, 1) := by decide +kernel
theorem dX5_pass_54 : decode cX5_pass 54 = .ok (.getfield 12, 3) := by decide +kernel
theorem dX5_pass_57 : decode cX5_pass 57 = .ok (.invokevirtual 136, 3) := by decide +kernel
theorem dX5_pass_60 : decode cX5_pass 60 = .ok (.iadd, 1) := by decide +kernel
theorem dX5_pass_61 : decode cX5_pass 61 = .ok (.istore_n 2, 1) := by decide +kernel
theorem dX5_pass_62 : decode cX5_pass 62 = .ok (.iinc 3 1, 3) := by decide +kernel
theorem dX5_pass_65 : decode cX5_pass 65 = .ok (.goto (-18), 3) := by decide +kernel
theorem dX5_pass_68 : decode cX5_pass 68 = .ok (.iload_n 2, 1) := by decide +kernel
theorem dX5_pass_69 : decode cX5_pass 69 = .ok (.ireturn, 1) := by decide +kernel
theorem dX5_undo_0 : decode cX5_undo 0 = .ok (.aload_n 0, 1) := by decide +kernel
theorem dX5_undo_1 : decode cX5_undo 1 = .ok (.getfield 25, 3) := by decide +kernel
theorem dX5_undo_4 : decode cX5_undo 4 = .ok (.getfield 172, 3) := by decide +kernel
theorem dX5_undo_7 : decode cX5_undo 7 = .ok (.ifCond .ne 6, 3) := by decide +kernel
theorem dX5_undo_10 : decode cX5_undo 10 = .ok (.bipush (-5), 2) := by decide +kernel
theorem dX5_undo_12 : decode cX5_undo 12 = .ok (.ireturn, 1) := by decide +kernel
theorem dX5_undo_13 : decode cX5_undo 13 = .ok (.aload_n 0, 1) := by decide +kernel
theorem dX5_undo_14 : decode cX5_undo 14 = .ok (.getfield 25, 3) := by decide +kernel
theorem dX5_undo_17 : decode cX5_undo 17 = .ok (.aload_n 0, 1) := by decide +kernel
theorem dX5_undo_18 : decode cX5_undo 18 = .ok (.getfield 12, 3) := by decide +kernel
theorem dX5_undo_21 : decode cX5_undo 21 = .ok (.invokevirtual 175, 3) := by decide +kernel
theorem dX5_undo_24 : decode cX5_undo 24 = .ok (.aload_n 0, 1) := by decide +kernel
theorem dX5_undo_25 : decode cX5_undo 25 = .ok (.getfield 25, 3) := by decide +kernel
theorem dX5_undo_28 : decode cX5_undo 28 = .ok (.getfield 172, 3) := by decide +kernel
theorem dX5_undo_31 : decode cX5_undo 31 = .ok (.ireturn, 1) := by decide +kernel
theorem dX5_keep_0 : decode cX5_keep 0 = .ok (.aload_n 0, 1) := by decide +kernel
theorem dX5_keep_1 : decode cX5_keep 1 = .ok (.getfield 12, 3) := by decide +kernel
theorem dX5_keep_4 : decode cX5_keep 4 = .ok (.aload_n 0, 1) := by decide +kernel
theorem dX5_keep_5 : decode cX5_keep 5 = .ok (.getfield 16, 3) := by decide +kernel
theorem dX5_keep_8 : decode cX5_keep 8 = .ok (.invokestatic 153, 3) := by decide +kernel
theorem dX5_keep_11 : decode cX5_keep 11 = .ok (.aload_n 0, 1) := by decide +kernel
theorem dX5_keep_12 : decode cX5_keep 12 = .ok (.iconst 1, 1) := by decide +kernel
theorem dX5_keep_13 : decode cX5_keep 13 = .ok (.putfield 43, 3) := by decide +kernel
theorem dX5_keep_16 : decode cX5_keep 16 = .ok (.aload_n 0, 1) := by decide +kernel
theorem dX5_keep_17 : decode cX5_keep 17 = .ok (.getfield 12, 3) := by decide +kernel
theorem dX5_keep_20 : decode cX5_keep 20 = .ok (.getfield 133, 3) := by decide +kernel
theorem dX5_keep_23 : decode cX5_keep 23 = .ok (.ireturn, 1) := by decide +kernel
theorem dX5_restore_0 : decode cX5_restore 0 = .ok (.aload_n 0, 1) := by decide +kernel
theorem dX5_restore_1 : decode cX5_restore 1 = .ok (.getfield 43, 3) := by decide +kernel
theorem dX5_restore_4 : decode cX5_restore 4 = .ok (.ifCond .ne 6, 3) := by decide +kernel
theorem dX5_restore_7 : decode cX5_restore 7 = .ok (.bipush (-5), 2) := by decide +kernel
theorem dX5_restore_9 : decode cX5_restore 9 = .ok (.ireturn, 1) := by decide +kernel
theorem dX5_restore_10 : decode cX5_restore 10 = .ok (.aload_n 0, 1) := by decide +kernel
theorem dX5_restore_11 : decode cX5_restore 11 = .ok (.getfield 25, 3) := by decide +kernel
theorem dX5_restore_14 : decode cX5_restore 14 = .ok (.aload_n 0, 1) := by decide +kernel
theorem dX5_restore_15 : decode cX5_restore 15 = .ok (.getfield 12, 3) := by decide +kernel
theorem dX5_restore_18 : decode cX5_restore 18 = .ok (.invokevirtual 51, 3) := by decide +kernel
theorem dX5_restore_21 : decode cX5_restore 21 = .ok (.aload_n 0, 1) := by decide +kernel
theorem dX5_restore_22 : decode cX5_restore 22 = .ok (.getfield 16, 3) := by decide +kernel
theorem dX5_restore_25 : decode cX5_restore 25 = .ok (.aload_n 0, 1) := by decide +kernel
theorem dX5_restore_26 : decode cX5_restore 26 = .ok (.getfield 12, 3) := by decide +kernel
theorem dX5_restore_29 : decode cX5_restore 29 = .ok (.invokestatic 153, 3) := by decide +kernel
theorem dX5_restore_32 : decode cX5_restore 32 = .ok (.aload_n 0, 1) := by decide +kernel
theorem dX5_restore_33 : decode cX5_restore 33 = .ok (.getfield 12, 3) := by decide +kernel
theorem dX5_restore_36 : decode cX5_restore 36 = .ok (.getfield 133, 3) := by decide +kernel
theorem dX5_restore_39 : decode cX5_restore 39 = .ok (.ireturn, 1) := by decide +kernel
theorem dX5_firm_0 : decode cX5_firm 0 = .ok (.aload_n 0, 1) := by decide +kernel
theorem dX5_firm_1 : decode cX5_firm 1 = .ok (.getfield 12, 3) := by decide +kernel
theorem dX5_firm_4 : decode cX5_firm 4 = .ok (.iload_n 1, 1) := by decide +kernel
theorem dX5_firm_5 : decode cX5_firm 5 = .ok (.invokevirtual 65, 3) := by decide +kernel
theorem dX5_firm_8 : decode cX5_firm 8 = .ok (.astore_n 3, 1) := by decide +kernel
theorem dX5_firm_9 : decode cX5_firm 9 = .ok (.aload_n 3, 1) := by decide +kernel
theorem dX5_firm_10 : decode cX5_firm 10 = .ok (.ifnonnull 5, 3) := by decide +kernel
theorem dX5_firm_13 : decode cX5_firm 13 = .ok (.iconst (-1), 1) := by decide +kernel
theorem dX5_firm_14 : decode cX5_firm 14 = .ok (.ireturn, 1) := by decide +kernel
theorem dX5_firm_15 : decode cX5_firm 15 = .ok (.iload_n 2, 1) := by decide +kernel
theorem dX5_firm_16 : decode cX5_firm 16 = .ok (.tableswitch 122 0 10 #[60, 65, 70, 75, 80, 85, 90, 95, 100, 105, 110], 60) := by decide +kernel
theorem dX5_firm_76 : decode cX5_firm 76 = .ok (.aload_n 3, 1) := by decide +kernel
theorem dX5_firm_77 : decode cX5_firm 77 = .ok (.invokevirtual 178, 3) := by decide +kernel
theorem dX5_firm_80 : decode cX5_firm 80 = .ok (.ireturn, 1) := by decide +kernel
theorem dX5_firm_81 : decode cX5_firm 81 = .ok (.aload_n 3, 1) := by decide +kernel
theorem dX5_firm_82 : decode cX5_firm 82 = .ok (.invokevirtual 181, 3) := by decide +kernel
theorem dX5_firm_85 : decode cX5_firm 85 = .ok (.ireturn, 1) := by decide +kernel
theorem dX5_firm_86 : decode cX5_firm 86 = .ok (.aload_n 3, 1) := by decide +kernel
theorem dX5_firm_87 : decode cX5_firm 87 = .ok (.invokevirtual 184, 3) := by decide +kernel
theorem dX5_firm_90 : decode cX5_firm 90 = .ok (.ireturn, 1) := by decide +kernel
theorem dX5_firm_91 : decode cX5_firm 91 = .ok (.aload_n 3, 1) := by decide +kernel
theorem dX5_firm_92 : decode cX5_firm 92 = .ok (.invokevirtual 187, 3) := by decide +kernel
theorem dX5_firm_95 : decode cX5_firm 95 = .ok (.ireturn, 1) := by decide +kernel
theorem dX5_firm_96 : decode cX5_firm 96 = .ok (.aload_n 3, 1) := by decide +kernel
theorem dX5_firm_97 : decode cX5_firm 97 = .ok (.getfield 107, 3) := by decide +kernel
theorem dX5_firm_100 : decode cX5_firm 100 = .ok (.ireturn, 1) := by decide +kernel
theorem dX5_firm_101 : decode cX5_firm 101 = .ok (.aload_n 3, 1) := by decide +kernel
theorem dX5_firm_102 : decode cX5_firm 102 = .ok (.getfield 110, 3) := by decide +kernel
end
section
theorem dX5_firm_105 : decode cX5_firm 105 = .ok (.ireturn, 1) := by decide +kernel
theorem dX5_firm_106 : decode cX5_firm 106 = .ok (.aload_n 3, 1) := by decide +kernel
theorem dX5_firm_107 : decode cX5_firm 107 = .ok (.getfield 190, 3) := by decide +kernel
theorem dX5_firm_110 : decode cX5_firm 110 = .ok (.ireturn, 1) := by decide +kernel
theorem dX5_firm_111 : decode cX5_firm 111 = .ok (.aload_n 3, 1) := by decide +kernel
theorem dX5_firm_112 : decode cX5_firm 112 = .ok (.getfield 116, 3) := by decide +kernel
theorem dX5_firm_115 : decode cX5_firm 115 = .ok (.ireturn, 1) := by decide +kernel
theorem dX5_firm_116 : decode cX5_firm 116 = .ok (.aload_n 3, 1) := by decide +kernel
theorem dX5_firm_117 : decode cX5_firm 117 = .ok (.getfield 130, 3) := by decide +kernel
theorem dX5_firm_120 : decode cX5_firm 120 = .ok (.ireturn, 1) := by decide +kernel
theorem dX5_firm_121 : decode cX5_firm 121 = .ok (.aload_n 3, 1) := by decide +kernel
theorem dX5_firm_122 : decode cX5_firm 122 = .ok (.getfield 193, 3) := by decide +kernel
theorem dX5_firm_125 : decode cX5_firm 125 = .ok (.ireturn, 1) := by decide +kernel
theorem dX5_firm_126 : decode cX5_firm 126 = .ok (.aload_n 3, 1) := by decide +kernel
theorem dX5_firm_127 : decode cX5_firm 127 = .ok (.aload_n 0, 1) := by decide +kernel
theorem dX5_firm_128 : decode cX5_firm 128 = .ok (.getfield 12, 3) := by decide +kernel
theorem dX5_firm_131 : decode cX5_firm 131 = .ok (.getfield 62, 3) := by decide +kernel
theorem dX5_firm_134 : decode cX5_firm 134 = .ok (.invokevirtual 196, 3) := by decide +kernel
theorem dX5_firm_137 : decode cX5_firm 137 = .ok (.ireturn, 1) := by decide +kernel
theorem dX5_firm_138 : decode cX5_firm 138 = .ok (.bipush (-2), 2) := by decide +kernel
theorem dX5_firm_140 : decode cX5_firm 140 = .ok (.ireturn, 1) := by decide +kernel
theorem dX5_holds_0 : decode cX5_holds 0 = .ok (.aload_n 0, 1) := by decide +kernel
theorem dX5_holds_1 : decode cX5_holds 1 = .ok (.getfield 12, 3) := by decide +kernel
theorem dX5_holds_4 : decode cX5_holds 4 = .ok (.iload_n 1, 1) := by decide +kernel
theorem dX5_holds_5 : decode cX5_holds 5 = .ok (.invokevirtual 65, 3) := by decide +kernel
theorem dX5_holds_8 : decode cX5_holds 8 = .ok (.astore_n 3, 1) := by decide +kernel
theorem dX5_holds_9 : decode cX5_holds 9 = .ok (.aload_n 3, 1) := by decide +kernel
theorem dX5_holds_10 : decode cX5_holds 10 = .ok (.ifnull 10, 3) := by decide +kernel
theorem dX5_holds_13 : decode cX5_holds 13 = .ok (.iload_n 2, 1) := by decide +kernel
theorem dX5_holds_14 : decode cX5_holds 14 = .ok (.invokestatic 101, 3) := by decide +kernel
theorem dX5_holds_17 : decode cX5_holds 17 = .ok (.ifCond .ne 5, 3) := by decide +kernel
theorem dX5_holds_20 : decode cX5_holds 20 = .ok (.iconst (-1), 1) := by decide +kernel
theorem dX5_holds_21 : decode cX5_holds 21 = .ok (.ireturn, 1) := by decide +kernel
theorem dX5_holds_22 : decode cX5_holds 22 = .ok (.aload_n 3, 1) := by decide +kernel
theorem dX5_holds_23 : decode cX5_holds 23 = .ok (.getfield 77, 3) := by decide +kernel
theorem dX5_holds_26 : decode cX5_holds 26 = .ok (.iload_n 2, 1) := by decide +kernel
theorem dX5_holds_27 : decode cX5_holds 27 = .ok (.iaload, 1) := by decide +kernel
theorem dX5_holds_28 : decode cX5_holds 28 = .ok (.ireturn, 1) := by decide +kernel
theorem dX5_offsets_0 : decode cX5_offsets 0 = .ok (.aload_n 0, 1) := by decide +kernel
theorem dX5_offsets_1 : decode cX5_offsets 1 = .ok (.getfield 12, 3) := by decide +kernel
theorem dX5_offsets_4 : decode cX5_offsets 4 = .ok (.iload_n 1, 1) := by decide +kernel
theorem dX5_offsets_5 : decode cX5_offsets 5 = .ok (.invokevirtual 65, 3) := by decide +kernel
theorem dX5_offsets_8 : decode cX5_offsets 8 = .ok (.astore 4, 2) := by decide +kernel
theorem dX5_offsets_10 : decode cX5_offsets 10 = .ok (.aload 4, 2) := by decide +kernel
theorem dX5_offsets_12 : decode cX5_offsets 12 = .ok (.ifnull 10, 3) := by decide +kernel
theorem dX5_offsets_15 : decode cX5_offsets 15 = .ok (.iload_n 2, 1) := by decide +kernel
theorem dX5_offsets_16 : decode cX5_offsets 16 = .ok (.invokestatic 85, 3) := by decide +kernel
theorem dX5_offsets_19 : decode cX5_offsets 19 = .ok (.ifCond .ne 5, 3) := by decide +kernel
theorem dX5_offsets_22 : decode cX5_offsets 22 = .ok (.iconst (-1), 1) := by decide +kernel
theorem dX5_offsets_23 : decode cX5_offsets 23 = .ok (.ireturn, 1) := by decide +kernel
theorem dX5_offsets_24 : decode cX5_offsets 24 = .ok (.iload_n 3, 1) := by decide +kernel
theorem dX5_offsets_25 : decode cX5_offsets 25 = .ok (.tableswitch 59 0 2 #[27, 35, 51], 27) := by decide +kernel
theorem dX5_offsets_52 : decode cX5_offsets 52 = .ok (.aload 4, 2) := by decide +kernel
theorem dX5_offsets_54 : decode cX5_offsets 54 = .ok (.getfield 88, 3) := by decide +kernel
theorem dX5_offsets_57 : decode cX5_offsets 57 = .ok (.iload_n 2, 1) := by decide +kernel
theorem dX5_offsets_58 : decode cX5_offsets 58 = .ok (.iaload, 1) := by decide +kernel
theorem dX5_offsets_59 : decode cX5_offsets 59 = .ok (.ireturn, 1) := by decide +kernel
theorem dX5_offsets_60 : decode cX5_offsets 60 = .ok (.aload 4, 2) := by decide +kernel
theorem dX5_offsets_62 : decode cX5_offsets 62 = .ok (.iload_n 2, 1) := by decide +kernel
theorem dX5_offsets_63 : decode cX5_offsets 63 = .ok (.aload_n 0, 1) := by decide +kernel
theorem dX5_offsets_64 : decode cX5_offsets 64 = .ok (.getfield 12, 3) := by decide +kernel
theorem dX5_offsets_67 : decode cX5_offsets 67 = .ok (.getfield 62, 3) := by decide +kernel
theorem dX5_offsets_70 : decode cX5_offsets 70 = .ok (.iload_n 2, 1) := by decide +kernel
theorem dX5_offsets_71 : decode cX5_offsets 71 = .ok (.iaload, 1) := by decide +kernel
theorem dX5_offsets_72 : decode cX5_offsets 72 = .ok (.invokevirtual 200, 3) := by decide +kernel
theorem dX5_offsets_75 : decode cX5_offsets 75 = .ok (.ireturn, 1) := by decide +kernel
theorem dX5_offsets_76 : decode cX5_offsets 76 = .ok (.aload 4, 2) := by decide +kernel
theorem dX5_offsets_78 : decode cX5_offsets 78 = .ok (.getfield 204, 3) := by decide +kernel
theorem dX5_offsets_81 : decode cX5_offsets 81 = .ok (.iload_n 2, 1) := by decide +kernel
theorem dX5_offsets_82 : decode cX5_offsets 82 = .ok (.iaload, 1) := by decide +kernel
theorem dX5_offsets_83 : decode cX5_offsets 83 = .ok (.ireturn, 1) := by decide +kernel
theorem dX5_offsets_84 : decode cX5_offsets 84 = .ok (.bipush (-2), 2) := by decide +kernel
theorem dX5_offsets_86 : decode cX5_offsets 86 = .ok (.ireturn, 1) := by decide +kernel
theorem dX5_vintage_0 : decode cX5_vintage 0 = .ok (.iload_n 1, 1) := by decide +kernel
theorem dX5_vintage_1 : decode cX5_vintage 1 = .ok (.invokestatic 101, 3) := by decide +kernel
theorem dX5_vintage_4 : decode cX5_vintage 4 = .ok (.ifCond .ne 5, 3) := by decide +kernel
theorem dX5_vintage_7 : decode cX5_vintage 7 = .ok (.iconst (-1), 1) := by decide +kernel
theorem dX5_vintage_8 : decode cX5_vintage 8 = .ok (.ireturn, 1) := by decide +kernel
theorem dX5_vintage_9 : decode cX5_vintage 9 = .ok (.iload_n 2, 1) := by decide +kernel
theorem dX5_vintage_10 : decode cX5_vintage 10 = .ok (.tableswitch 109 0 6 #[42, 52, 61, 71, 81, 91, 100], 42) := by decide +kernel
theorem dX5_vintage_52 : decode cX5_vintage 52 = .ok (.aload_n 0, 1) := by decide +kernel
theorem dX5_vintage_53 : decode cX5_vintage 53 = .ok (.getfield 12, 3) := by decide +kernel
theorem dX5_vintage_56 : decode cX5_vintage 56 = .ok (.getfield 82, 3) := by decide +kernel
theorem dX5_vintage_59 : decode cX5_vintage 59 = .ok (.iload_n 1, 1) := by decide +kernel
theorem dX5_vintage_60 : decode cX5_vintage 60 = .ok (.iaload, 1) := by decide +kernel
theorem dX5_vintage_61 : decode cX5_vintage 61 = .ok (.ireturn, 1) := by decide +kernel
theorem dX5_vintage_62 : decode cX5_vintage 62 = .ok (.aload_n 0, 1) := by decide +kernel
theorem dX5_vintage_63 : decode cX5_vintage 63 = .ok (.getfield 12, 3) := by decide +kernel
theorem dX5_vintage_66 : decode cX5_vintage 66 = .ok (.iload_n 1, 1) := by decide +kernel
theorem dX5_vintage_67 : decode cX5_vintage 67 = .ok (.invokevirtual 207, 3) := by decide +kernel
theorem dX5_vintage_70 : decode cX5_vintage 70 = .ok (.ireturn, 1) := by decide +kernel
theorem dX5_vintage_71 : decode cX5_vintage 71 = .ok (.aload_n 0, 1) := by decide +kernel
theorem dX5_vintage_72 : decode cX5_vintage 72 = .ok (.getfield 12, 3) := by decide +kernel
theorem dX5_vintage_75 : decode cX5_vintage 75 = .ok (.getfield 211, 3) := by decide +kernel
theorem dX5_vintage_78 : decode cX5_vintage 78 = .ok (.iload_n 1, 1) := by decide +kernel
theorem dX5_vintage_79 : decode cX5_vintage 79 = .ok (.iaload, 1) := by decide +kernel
theorem dX5_vintage_80 : decode cX5_vintage 80 = .ok (.ireturn, 1) := by decide +kernel
theorem dX5_vintage_81 : decode cX5_vintage 81 = .ok (.aload_n 0, 1) := by decide +kernel
theorem dX5_vintage_82 : decode cX5_vintage 82 = .ok (.getfield 12, 3) := by decide +kernel
theorem dX5_vintage_85 : decode cX5_vintage 85 = .ok (.getfield 104, 3) := by decide +kernel
theorem dX5_vintage_88 : decode cX5_vintage 88 = .ok (.iload_n 1, 1) := by decide +kernel
theorem dX5_vintage_89 : decode cX5_vintage 89 = .ok (.iaload, 1) := by decide +kernel
theorem dX5_vintage_90 : decode cX5_vintage 90 = .ok (.ireturn, 1) := by decide +kernel
theorem dX5_vintage_91 : decode cX5_vintage 91 = .ok (.aload_n 0, 1) := by decide +kernel
theorem dX5_vintage_92 : decode cX5_vintage 92 = .ok (.getfield 12, 3) := by decide +kernel
theorem dX5_vintage_95 : decode cX5_vintage 95 = .ok (.getfield 213, 3) := by decide +kernel
theorem dX5_vintage_98 : decode cX5_vintage 98 = .ok (.iload_n 1, 1) := by decide +kernel
theorem dX5_vintage_99 : decode cX5_vintage 99 = .ok (.iaload, 1) := by decide +kernel
theorem dX5_vintage_100 : decode cX5_vintage 100 = .ok (.ireturn, 1) := by decide +kernel
theorem dX5_vintage_101 : decode cX5_vintage 101 = .ok (.aload_n 0, 1) := by decide +kernel
theorem dX5_vintage_102 : decode cX5_vintage 102 = .ok (.getfield 12, 3) := by decide +kernel
theorem dX5_vintage_105 : decode cX5_vintage 105 = .ok (.iload_n 1, 1) := by decide +kernel
theorem dX5_vintage_106 : decode cX5_vintage 106 = .ok (.invokevirtual 216, 3) := by decide +kernel
theorem dX5_vintage_109 : decode cX5_vintage 109 = .ok (.ireturn, 1) := by decide +kernel
theorem dX5_vintage_110 : decode cX5_vintage 110 = .ok (.aload_n 0, 1) := by decide +kernel
theorem dX5_vintage_111 : decode cX5_vintage 111 = .ok (.getfield 12, 3) := by decide +kernel
theorem dX5_vintage_114 : decode cX5_vintage 114 = .ok (.iload_n 1, 1) := by decide +kernel
theorem dX5_vintage_115 : decode cX5_vintage 115 = .ok (.invokevirtual 219, 3) := by decide +kernel
theorem dX5_vintage_118 : decode cX5_vintage 118 = .ok (.ireturn, 1) := by decide +kernel
theorem dX5_vintage_119 : decode cX5_vintage 119 = .ok (.bipush (-2), 2) := by decide +kernel
theorem dX5_vintage_121 : decode cX5_vintage 121 = .ok (.ireturn, 1) := by decide +kernel
theorem dX5_grade_0 : decode cX5_grade 0 = .ok (.iload_n 1, 1) := by decide +kernel
theorem dX5_grade_1 : decode cX5_grade 1 = .ok (.invokestatic 85, 3) := by decide +kernel
theorem dX5_grade_4 : decode cX5_grade 4 = .ok (.ifCond .ne 5, 3) := by decide +kernel
theorem dX5_grade_7 : decode cX5_grade 7 = .ok (.iconst (-1), 1) := by decide +kernel
theorem dX5_grade_8 : decode cX5_grade 8 = .ok (.ireturn, 1) := by decide +kernel
theorem dX5_grade_9 : decode cX5_grade 9 = .ok (.iload_n 2, 1) := by decide +kernel
theorem dX5_grade_10 : decode cX5_grade 10 = .ok (.tableswitch 55 0 2 #[26, 36, 45], 26) := by decide +kernel
theorem dX5_grade_36 : decode cX5_grade 36 = .ok (.aload_n 0, 1) := by decide +kernel
theorem dX5_grade_37 : decode cX5_grade 37 = .ok (.getfield 12, 3) := by decide +kernel
theorem dX5_grade_40 : decode cX5_grade 40 = .ok (.getfield 91, 3) := by decide +kernel
theorem dX5_grade_43 : decode cX5_grade 43 = .ok (.iload_n 1, 1) := by decide +kernel
theorem dX5_grade_44 : decode cX5_grade 44 = .ok (.iaload, 1) := by decide +kernel
theorem dX5_grade_45 : decode cX5_grade 45 = .ok (.ireturn, 1) := by decide +kernel
theorem dX5_grade_46 : decode cX5_grade 46 = .ok (.aload_n 0, 1) := by decide +kernel
theorem dX5_grade_47 : decode cX5_grade 47 = .ok (.getfield 12, 3) := by decide +kernel
theorem dX5_grade_50 : decode cX5_grade 50 = .ok (.iload_n 1, 1) := by decide +kernel
theorem dX5_grade_51 : decode cX5_grade 51 = .ok (.invokevirtual 222, 3) := by decide +kernel
theorem dX5_grade_54 : decode cX5_grade 54 = .ok (.ireturn, 1) := by decide +kernel
theorem dX5_grade_55 : decode cX5_grade 55 = .ok (.aload_n 0, 1) := by decide +kernel
theorem dX5_grade_56 : decode cX5_grade 56 = .ok (.getfield 12, 3) := by decide +kernel
theorem dX5_grade_59 : decode cX5_grade 59 = .ok (.getfield 225, 3) := by decide +kernel
theorem dX5_grade_62 : decode cX5_grade 62 = .ok (.iload_n 1, 1) := by decide +kernel
theorem dX5_grade_63 : decode cX5_grade 63 = .ok (.iaload, 1) := by decide +kernel
theorem dX5_grade_64 : decode cX5_grade 64 = .ok (.ireturn, 1) := by decide +kernel
theorem dX5_grade_65 : decode cX5_grade 65 = .ok (.bipush (-2), 2) := by decide +kernel
theorem dX5_grade_67 : decode cX5_grade 67 = .ok (.ireturn, 1) := by decide +kernel
theorem dX5_holder_0 : decode cX5_holder 0 = .ok (.iload_n 1, 1) := by decide +kernel
theorem dX5_holder_1 : decode cX5_holder 1 = .ok (.invokestatic 101, 3) := by decide +kernel
theorem dX5_holder_4 : decode cX5_holder 4 = .ok (.ifCond .ne 5, 3) := by decide +kernel
theorem dX5_holder_7 : decode cX5_holder 7 = .ok (.iconst (-1), 1) := by decide +kernel
theorem dX5_holder_8 : decode cX5_holder 8 = .ok (.ireturn, 1) := by decide +kernel
theorem dX5_holder_9 : decode cX5_holder 9 = .ok (.iload_n 2, 1) := by decide +kernel
theorem dX5_holder_10 : decode cX5_holder 10 = .ok (.ifCond .ge 6, 3) := by decide +kernel
theorem dX5_holder_13 : decode cX5_holder 13 = .ok (.bipush (-2), 2) := by decide +kernel
theorem dX5_holder_15 : decode cX5_holder 15 = .ok (.ireturn, 1) := by decide +kernel
theorem dX5_holder_16 : decode cX5_holder 16 = .ok (.aload_n 0, 1) := by decide +kernel
theorem dX5_holder_17 : decode cX5_holder 17 = .ok (.getfield 12, 3) := by decide +kernel
theorem dX5_holder_20 : decode cX5_holder 20 = .ok (.iload_n 1, 1) := by decide +kernel
theorem dX5_holder_21 : decode cX5_holder 21 = .ok (.iload_n 2, 1) := by decide +kernel
theorem dX5_holder_22 : decode cX5_holder 22 = .ok (.invokevirtual 228, 3) := by decide +kernel
theorem dX5_holder_25 : decode cX5_holder 25 = .ok (.ireturn, 1) := by decide +kernel
theorem dX5_plan_0 : decode cX5_plan 0 = .ok (.aload_n 0, 1) := by decide +kernel
theorem dX5_plan_1 : decode cX5_plan 1 = .ok (.getfield 12, 3) := by decide +kernel
theorem dX5_plan_4 : decode cX5_plan 4 = .ok (.iload_n 1, 1) := by decide +kernel
theorem dX5_plan_5 : decode cX5_plan 5 = .ok (.invokevirtual 65, 3) := by decide +kernel
theorem dX5_plan_8 : decode cX5_plan 8 = .ok (.astore 5, 2) := by decide +kernel
theorem dX5_plan_10 : decode cX5_plan 10 = .ok (.aload 5, 2) := by decide +kernel
theorem dX5_plan_12 : decode cX5_plan 12 = .ok (.ifnonnull 5, 3) := by decide +kernel
theorem dX5_plan_15 : decode cX5_plan 15 = .ok (.iconst (-1), 1) := by decide +kernel
theorem dX5_plan_16 : decode cX5_plan 16 = .ok (.ireturn, 1) := by decide +kernel
theorem dX5_plan_17 : decode cX5_plan 17 = .ok (.iload_n 2, 1) := by decide +kernel
theorem dX5_plan_18 : decode cX5_plan 18 = .ok (.invokestatic 69, 3) := by decide +kernel
theorem dX5_plan_21 : decode cX5_plan 21 = .ok (.ifCond .eq 21, 3) := by decide +kernel
theorem dX5_plan_24 : decode cX5_plan 24 = .ok (.iload_n 3, 1) := by decide +kernel
theorem dX5_plan_25 : decode cX5_plan 25 = .ok (.invokestatic 113, 3) := by decide +kernel
theorem dX5_plan_28 : decode cX5_plan 28 = .ok (.ifCond .eq 14, 3) := by decide +kernel
theorem dX5_plan_31 : decode cX5_plan 31 = .ok (.iload 4, 2) := by decide +kernel
theorem dX5_plan_33 : decode cX5_plan 33 = .ok (.ifCond .lt 9, 3) := by decide +kernel
theorem dX5_plan_36 : decode cX5_plan 36 = .ok (.iload 4, 2) := by decide +kernel
theorem dX5_plan_38 : decode cX5_plan 38 = .ok (.iconst 5, 1) := by decide +kernel
theorem dX5_plan_39 : decode cX5_plan 39 = .ok (.if_icmp .le 6, 3) := by decide +kernel
theorem dX5_plan_42 : decode cX5_plan 42 = .ok (.bipush (-2), 2) := by decide +kernel
theorem dX5_plan_44 : decode cX5_plan 44 = .ok (.ireturn, 1) := by decide +kernel
theorem dX5_plan_45 : decode cX5_plan 45 = .ok (.aload_n 0, 1) := by decide +kernel
theorem dX5_plan_46 : decode cX5_plan 46 = .ok (.getfield 32, 3) := by decide +kernel
theorem dX5_plan_49 : decode cX5_plan 49 = .ok (.aload 5, 2) := by decide +kernel
theorem dX5_plan_51 : decode cX5_plan 51 = .ok (.aload_n 0, 1) := by decide +kernel
theorem dX5_plan_52 : decode cX5_plan 52 = .ok (.getfield 12, 3) := by decide +kernel
theorem dX5_plan_55 : decode cX5_plan 55 = .ok (.getfield 62, 3) := by decide +kernel
theorem dX5_plan_58 : decode cX5_plan 58 = .ok (.iload_n 2, 1) := by decide +kernel
theorem dX5_plan_59 : decode cX5_plan 59 = .ok (.iload_n 3, 1) := by decide +kernel
theorem dX5_plan_60 : decode cX5_plan 60 = .ok (.invokevirtual 119, 3) := by decide +kernel
theorem dX5_plan_63 : decode cX5_plan 63 = .ok (.aload_n 0, 1) := by decide +kernel
theorem dX5_plan_64 : decode cX5_plan 64 = .ok (.getfield 32, 3) := by decide +kernel
theorem dX5_plan_67 : decode cX5_plan 67 = .ok (.getfield 123, 3) := by decide +kernel
theorem dX5_plan_70 : decode cX5_plan 70 = .ok (.ifCond .le 6, 3) := by decide +kernel
theorem dX5_plan_73 : decode cX5_plan 73 = .ok (.bipush (-4), 2) := by decide +kernel
theorem dX5_plan_75 : decode cX5_plan 75 = .ok (.ireturn, 1) := by decide +kernel
theorem dX5_plan_76 : decode cX5_plan 76 = .ok (.iload 4, 2) := by decide +kernel
theorem dX5_plan_78 : decode cX5_plan 78 = .ok (.tableswitch 80 0 4 #[34, 42, 52, 62, 72], 34) := by decide +kernel
theorem dX5_plan_112 : decode cX5_plan 112 = .ok (.aload_n 0, 1) := by decide +kernel
theorem dX5_plan_113 : decode cX5_plan 113 = .ok (.getfield 32, 3) := by decide +kernel
theorem dX5_plan_116 : decode cX5_plan 116 = .ok (.getfield 231, 3) := by decide +kernel
theorem dX5_plan_119 : decode cX5_plan 119 = .ok (.ireturn, 1) := by decide +kernel
theorem dX5_plan_120 : decode cX5_plan 120 = .ok (.aload_n 0, 1) := by decide +kernel
theorem dX5_plan_121 : decode cX5_plan 121 = .ok (.getfield 32, 3) := by decide +kernel
theorem dX5_plan_124 : decode cX5_plan 124 = .ok (.getfield 234, 3) := by decide +kernel
theorem dX5_plan_127 : decode cX5_plan 127 = .ok (.iconst 0, 1) := by decide +kernel
theorem dX5_plan_128 : decode cX5_plan 128 = .ok (.iaload, 1) := by decide +kernel
theorem dX5_plan_129 : decode cX5_plan 129 = .ok (.ireturn, 1) := by decide +kernel
theorem dX5_plan_130 : decode cX5_plan 130 = .ok (.aload_n 0, 1) := by decide +kernel
theorem dX5_plan_131 : decode cX5_plan 131 = .ok (.getfield 32, 3) := by decide +kernel
theorem dX5_plan_134 : decode cX5_plan 134 = .ok (.getfield 234, 3) := by decide +kernel
theorem dX5_plan_137 : decode cX5_plan 137 = .ok (.iconst 1, 1) := by decide +kernel
theorem dX5_plan_138 : decode cX5_plan 138 = .ok (.iaload, 1) := by decide +kernel
theorem dX5_plan_139 : decode cX5_plan 139 = .ok (.ireturn, 1) := by decide +kernel
theorem dX5_plan_140 : decode cX5_plan 140 = .ok (.aload_n 0, 1) := by decide +kernel
theorem dX5_plan_141 : decode cX5_plan 141 = .ok (.getfield 32, 3) := by decide +kernel
theorem dX5_plan_144 : decode cX5_plan 144 = .ok (.getfield 234, 3) := by decide +kernel
theorem dX5_plan_147 : decode cX5_plan 147 = .ok (.iconst 2, 1) := by decide +kernel
theorem dX5_plan_148 : decode cX5_plan 148 = .ok (.iaload, 1) := by decide +kernel
theorem dX5_plan_149 : decode cX5_plan 149 = .ok (.ireturn, 1) := by decide +kernel
theorem dX5_plan_150 : decode cX5_plan 150 = .ok (.aload_n 0, 1) := by decide +kernel
theorem dX5_plan_151 : decode cX5_plan 151 = .ok (.getfield 32, 3) := by decide +kernel
theorem dX5_plan_154 : decode cX5_plan 154 = .ok (.getfield 237, 3) := by decide +kernel
theorem dX5_plan_157 : decode cX5_plan 157 = .ok (.ireturn, 1) := by decide +kernel
theorem dX5_plan_158 : decode cX5_plan 158 = .ok (.aload_n 0, 1) := by decide +kernel
theorem dX5_plan_159 : decode cX5_plan 159 = .ok (.getfield 32, 3) := by decide +kernel
theorem dX5_plan_162 : decode cX5_plan 162 = .ok (.getfield 240, 3) := by decide +kernel
theorem dX5_plan_165 : decode cX5_plan 165 = .ok (.ireturn, 1) := by decide +kernel
theorem dX5_count_0 : decode cX5_count 0 = .ok (.iload_n 1, 1) := by decide +kernel
theorem dX5_count_1 : decode cX5_count 1 = .ok (.iconst 3, 1) := by decide +kernel
theorem dX5_count_2 : decode cX5_count 2 = .ok (.if_icmp .lt 21, 3) := by decide +kernel
theorem dX5_count_5 : decode cX5_count 5 = .ok (.iload_n 1, 1) := by decide +kernel
theorem dX5_count_6 : decode cX5_count 6 = .ok (.bipush 8, 2) := by decide +kernel
theorem dX5_count_8 : decode cX5_count 8 = .ok (.if_icmp .ge 15, 3) := by decide +kernel
theorem dX5_count_11 : decode cX5_count 11 = .ok (.aload_n 0, 1) := by decide +kernel
theorem dX5_count_12 : decode cX5_count 12 = .ok (.getfield 12, 3) := by decide +kernel
theorem dX5_count_15 : decode cX5_count 15 = .ok (.getfield 62, 3) := by decide +kernel
theorem dX5_count_18 : decode cX5_count 18 = .ok (.iload_n 1, 1) := by decide +kernel
theorem dX5_count_19 : decode cX5_count 19 = .ok (.iconst 3, 1) := by decide +kernel
theorem dX5_count_20 : decode cX5_count 20 = .ok (.isub, 1) := by decide +kernel
theorem dX5_count_21 : decode cX5_count 21 = .ok (.iaload, 1) := by decide +kernel
theorem dX5_count_22 : decode cX5_count 22 = .ok (.ireturn, 1) := by decide +kernel
theorem dX5_count_23 : decode cX5_count 23 = .ok (.iload_n 1, 1) := by decide +kernel
theorem dX5_count_24 : decode cX5_count 24 = .ok (.tableswitch 156 0 14 #[76, 84, 92, 156, 156, 156, 156, 156, 100, 108, 116, 124, 132, 140, 148], 76) := by decide +kernel
theorem dX5_count_100 : decode cX5_count 100 = .ok (.aload_n 0, 1) := by decide +kernel
theorem dX5_count_101 : decode cX5_count 101 = .ok (.getfield 12, 3) := by decide +kernel
theorem dX5_count_104 : decode cX5_count 104 = .ok (.getfield 133, 3) := by decide +kernel
theorem dX5_count_107 : decode cX5_count 107 = .ok (.ireturn, 1) := by decide +kernel
theorem dX5_count_108 : decode cX5_count 108 = .ok (.aload_n 0, 1) := by decide +kernel
theorem dX5_count_109 : decode cX5_count 109 = .ok (.getfield 12, 3) := by decide +kernel
theorem dX5_count_112 : decode cX5_count 112 = .ok (.invokevirtual 73, 3) := by decide +kernel
theorem dX5_count_115 : decode cX5_count 115 = .ok (.ireturn, 1) := by decide +kernel
theorem dX5_count_116 : decode cX5_count 116 = .ok (.aload_n 0, 1) := by decide +kernel
theorem dX5_count_117 : decode cX5_count 117 = .ok (.getfield 12, 3) := by decide +kernel
theorem dX5_count_120 : decode cX5_count 120 = .ok (.getfield 47, 3) := by decide +kernel
theorem dX5_count_123 : decode cX5_count 123 = .ok (.ireturn, 1) := by decide +kernel
theorem dX5_count_124 : decode cX5_count 124 = .ok (.aload_n 0, 1) := by decide +kernel
theorem dX5_count_125 : decode cX5_count 125 = .ok (.getfield 12, 3) := by decide +kernel
theorem dX5_count_128 : decode cX5_count 128 = .ok (.invokevirtual 243, 3) := by decide +kernel
theorem dX5_count_131 : decode cX5_count 131 = .ok (.ireturn, 1) := by decide +kernel
theorem dX5_count_132 : decode cX5_count 132 = .ok (.aload_n 0, 1) := by decide +kernel
theorem dX5_count_133 : decode cX5_count 133 = .ok (.getfield 12, 3) := by decide +kernel
theorem dX5_count_136 : decode cX5_count 136 = .ok (.invokevirtual 246, 3) := by decide +kernel
theorem dX5_count_139 : decode cX5_count 139 = .ok (.ireturn, 1) := by decide +kernel
theorem dX5_count_140 : decode cX5_count 140 = .ok (.aload_n 0, 1) := by decide +kernel
theorem dX5_count_141 : decode cX5_count 141 = .ok (.getfield 12, 3) := by decide +kernel
theorem dX5_count_144 : decode cX5_count 144 = .ok (.invokevirtual 249, 3) := by decide +kernel
theorem dX5_count_147 : decode cX5_count 147 = .ok (.ireturn, 1) := by decide +kernel
theorem dX5_count_148 : decode cX5_count 148 = .ok (.aload_n 0, 1) := by decide +kernel
theorem dX5_count_149 : decode cX5_count 149 = .ok (.getfield 12, 3) := by decide +kernel
theorem dX5_count_152 : decode cX5_count 152 = .ok (.invokevirtual 252, 3) := by decide +kernel
theorem dX5_count_155 : decode cX5_count 155 = .ok (.ireturn, 1) := by decide +kernel
theorem dX5_count_156 : decode cX5_count 156 = .ok (.aload_n 0, 1) := by decide +kernel
theorem dX5_count_157 : decode cX5_count 157 = .ok (.getfield 12, 3) := by decide +kernel
theorem dX5_count_160 : decode cX5_count 160 = .ok (.invokevirtual 255, 3) := by decide +kernel
theorem dX5_count_163 : decode cX5_count 163 = .ok (.ireturn, 1) := by decide +kernel
theorem dX5_count_164 : decode cX5_count 164 = .ok (.aload_n 0, 1) := by decide +kernel
theorem dX5_count_165 : decode cX5_count 165 = .ok (.getfield 25, 3) := by decide +kernel
theorem dX5_count_168 : decode cX5_count 168 = .ok (.getfield 172, 3) := by decide +kernel
theorem dX5_count_171 : decode cX5_count 171 = .ok (.ireturn, 1) := by decide +kernel
theorem dX5_count_172 : decode cX5_count 172 = .ok (.aload_n 0, 1) := by decide +kernel
theorem dX5_count_173 : decode cX5_count 173 = .ok (.getfield 39, 3) := by decide +kernel
theorem dX5_count_176 : decode cX5_count 176 = .ok (.getfield 139, 3) := by decide +kernel
theorem dX5_count_179 : decode cX5_count 179 = .ok (.ireturn, 1) := by decide +kernel
theorem dX5_count_180 : decode cX5_count 180 = .ok (.bipush (-2), 2) := by decide +kernel
theorem dX5_count_182 : decode cX5_count 182 = .ok (.ireturn, 1) := by decide +kernel
theorem dX5_isVintage_0 : decode cX5_isVintage 0 = .ok (.iload_n 0, 1) := by decide +kernel
theorem dX5_isVintage_1 : decode cX5_isVintage 1 = .ok (.ifCond .lt 13, 3) := by decide +kernel
theorem dX5_isVintage_4 : decode cX5_isVintage 4 = .ok (.iload_n 0, 1) := by decide +kernel
theorem dX5_isVintage_5 : decode cX5_isVintage 5 = .ok (.bipush 20, 2) := by decide +kernel
theorem dX5_isVintage_7 : decode cX5_isVintage 7 = .ok (.if_icmp .ge 7, 3) := by decide +kernel
theorem dX5_isVintage_10 : decode cX5_isVintage 10 = .ok (.iconst 1, 1) := by decide +kernel
theorem dX5_isVintage_11 : decode cX5_isVintage 11 = .ok (.goto 4, 3) := by decide +kernel
theorem dX5_isVintage_14 : decode cX5_isVintage 14 = .ok (.iconst 0, 1) := by decide +kernel
theorem dX5_isVintage_15 : decode cX5_isVintage 15 = .ok (.ireturn, 1) := by decide +kernel
theorem dX5_isGrade_0 : decode cX5_isGrade 0 = .ok (.iload_n 0, 1) := by decide +kernel
theorem dX5_isGrade_1 : decode cX5_isGrade 1 = .ok (.ifCond .lt 12, 3) := by decide +kernel
theorem dX5_isGrade_4 : decode cX5_isGrade 4 = .ok (.iload_n 0, 1) := by decide +kernel
theorem dX5_isGrade_5 : decode cX5_isGrade 5 = .ok (.iconst 3, 1) := by decide +kernel
theorem dX5_isGrade_6 : decode cX5_isGrade 6 = .ok (.if_icmp .ge 7, 3) := by decide +kernel
theorem dX5_isGrade_9 : decode cX5_isGrade 9 = .ok (.iconst 1, 1) := by decide +kernel
theorem dX5_isGrade_10 : decode cX5_isGrade 10 = .ok (.goto 4, 3) := by decide +kernel
theorem dX5_isGrade_13 : decode cX5_isGrade 13 = .ok (.iconst 0, 1) := by decide +kernel
theorem dX5_isGrade_14 : decode cX5_isGrade 14 = .ok (.ireturn, 1) := by decide +kernel
theorem dX5_isTonnes_0 : decode cX5_isTonnes 0 = .ok (.iload_n 0, 1) := by decide +kernel
theorem dX5_isTonnes_1 : decode cX5_isTonnes 1 = .ok (.iconst 1, 1) := by decide +kernel
theorem dX5_isTonnes_2 : decode cX5_isTonnes 2 = .ok (.if_icmp .lt 14, 3) := by decide +kernel
theorem dX5_isTonnes_5 : decode cX5_isTonnes 5 = .ok (.iload_n 0, 1) := by decide +kernel
theorem dX5_isTonnes_6 : decode cX5_isTonnes 6 = .ok (.sipush 9999, 3) := by decide +kernel
theorem dX5_isTonnes_9 : decode cX5_isTonnes 9 = .ok (.if_icmp .gt 7, 3) := by decide +kernel
theorem dX5_isTonnes_12 : decode cX5_isTonnes 12 = .ok (.iconst 1, 1) := by decide +kernel
theorem dX5_isTonnes_13 : decode cX5_isTonnes 13 = .ok (.goto 4, 3) := by decide +kernel
theorem dX5_isTonnes_16 : decode cX5_isTonnes 16 = .ok (.iconst 0, 1) := by decide +kernel
theorem dX5_isTonnes_17 : decode cX5_isTonnes 17 = .ok (.ireturn, 1) := by decide +kernel
theorem dX5_isWay_0 : decode cX5_isWay 0 = .ok (.iload_n 0, 1) := by decide +kernel
theorem dX5_isWay_1 : decode cX5_isWay 1 = .ok (.ifCond .lt 12, 3) := by decide +kernel
theorem dX5_isWay_4 : decode cX5_isWay 4 = .ok (.iload_n 0, 1) := by decide +kernel
theorem dX5_isWay_5 : decode cX5_isWay 5 = .ok (.iconst 2, 1) := by decide +kernel
theorem dX5_isWay_6 : decode cX5_isWay 6 = .ok (.if_icmp .gt 7, 3) := by decide +kernel
theorem dX5_isWay_9 : decode cX5_isWay 9 = .ok (.iconst 1, 1) := by decide +kernel
theorem dX5_isWay_10 : decode cX5_isWay 10 = .ok (.goto 4, 3) := by decide +kernel
theorem dX5_isWay_13 : decode cX5_isWay 13 = .ok (.iconst 0, 1) := by decide +kernel
theorem dX5_isWay_14 : decode cX5_isWay 14 = .ok (.ireturn, 1) := by decide +kernel
theorem dX5_copyState_0 : decode cX5_copyState 0 = .ok (.aload_n 0, 1) := by decide +kernel
theorem dX5_copyState_1 : decode cX5_copyState 1 = .ok (.ifnull 7, 3) := by decide +kernel
theorem dX5_copyState_4 : decode cX5_copyState 4 = .ok (.aload_n 1, 1) := by decide +kernel
theorem dX5_copyState_5 : decode cX5_copyState 5 = .ok (.ifnonnull 4, 3) := by decide +kernel
theorem dX5_copyState_8 : decode cX5_copyState 8 = .ok (.return_, 1) := by decide +kernel
theorem dX5_copyState_9 : decode cX5_copyState 9 = .ok (.aload_n 1, 1) := by decide +kernel
theorem dX5_copyState_10 : decode cX5_copyState 10 = .ok (.aload_n 0, 1) := by decide +kernel
theorem dX5_copyState_11 : decode cX5_copyState 11 = .ok (.getfield 133, 3) := by decide +kernel
theorem dX5_copyState_14 : decode cX5_copyState 14 = .ok (.putfield 133, 3) := by decide +kernel
theorem dX5_copyState_17 : decode cX5_copyState 17 = .ok (.aload_n 1, 1) := by decide +kernel
theorem dX5_copyState_18 : decode cX5_copyState 18 = .ok (.aload_n 0, 1) := by decide +kernel
theorem dX5_copyState_19 : decode cX5_copyState 19 = .ok (.getfield 47, 3) := by decide +kernel
theorem dX5_copyState_22 : decode cX5_copyState 22 = .ok (.putfield 47, 3) := by decide +kernel
theorem dX5_copyState_25 : decode cX5_copyState 25 = .ok (.aload_n 0, 1) := by decide +kernel
theorem dX5_copyState_26 : decode cX5_copyState 26 = .ok (.getfield 62, 3) := by decide +kernel
theorem dX5_copyState_29 : decode cX5_copyState 29 = .ok (.aload_n 1, 1) := by decide +kernel
theorem dX5_copyState_30 : decode cX5_copyState 30 = .ok (.getfield 62, 3) := by decide +kernel
theorem dX5_copyState_33 : decode cX5_copyState 33 = .ok (.invokestatic 258, 3) := by decide +kernel
theorem dX5_copyState_36 : decode cX5_copyState 36 = .ok (.aload_n 0, 1) := by decide +kernel
theorem dX5_copyState_37 : decode cX5_copyState 37 = .ok (.getfield 82, 3) := by decide +kernel
theorem dX5_copyState_40 : decode cX5_copyState 40 = .ok (.aload_n 1, 1) := by decide +kernel
theorem dX5_copyState_41 : decode cX5_copyState 41 = .ok (.getfield 82, 3) := by decide +kernel
theorem dX5_copyState_44 : decode cX5_copyState 44 = .ok (.invokestatic 258, 3) := by decide +kernel
theorem dX5_copyState_47 : decode cX5_copyState 47 = .ok (.aload_n 0, 1) := by decide +kernel
theorem dX5_copyState_48 : decode cX5_copyState 48 = .ok (.getfield 211, 3) := by decide +kernel
theorem dX5_copyState_51 : decode cX5_copyState 51 = .ok (.aload_n 1, 1) := by decide +kernel
theorem dX5_copyState_52 : decode cX5_copyState 52 = .ok (.getfield 211, 3) := by decide +kernel
theorem dX5_copyState_55 : decode cX5_copyState 55 = .ok (.invokestatic 258, 3) := by decide +kernel
theorem dX5_copyState_58 : decode cX5_copyState 58 = .ok (.aload_n 0, 1) := by decide +kernel
theorem dX5_copyState_59 : decode cX5_copyState 59 = .ok (.getfield 104, 3) := by decide +kernel
theorem dX5_copyState_62 : decode cX5_copyState 62 = .ok (.aload_n 1, 1) := by decide +kernel
theorem dX5_copyState_63 : decode cX5_copyState 63 = .ok (.getfield 104, 3) := by decide +kernel
theorem dX5_copyState_66 : decode cX5_copyState 66 = .ok (.invokestatic 258, 3) := by decide +kernel
theorem dX5_copyState_69 : decode cX5_copyState 69 = .ok (.aload_n 0, 1) := by decide +kernel
theorem dX5_copyState_70 : decode cX5_copyState 70 = .ok (.getfield 213, 3) := by decide +kernel
theorem dX5_copyState_73 : decode cX5_copyState 73 = .ok (.aload_n 1, 1) := by decide +kernel
theorem dX5_copyState_74 : decode cX5_copyState 74 = .ok (.getfield 213, 3) := by decide +kernel
theorem dX5_copyState_77 : decode cX5_copyState 77 = .ok (.invokestatic 258, 3) := by decide +kernel
theorem dX5_copyState_80 : decode cX5_copyState 80 = .ok (.aload_n 0, 1) := by decide +kernel
theorem dX5_copyState_81 : decode cX5_copyState 81 = .ok (.getfield 91, 3) := by decide +kernel
theorem dX5_copyState_84 : decode cX5_copyState 84 = .ok (.aload_n 1, 1) := by decide +kernel
theorem dX5_copyState_85 : decode cX5_copyState 85 = .ok (.getfield 91, 3) := by decide +kernel
theorem dX5_copyState_88 : decode cX5_copyState 88 = .ok (.invokestatic 258, 3) := by decide +kernel
theorem dX5_copyState_91 : decode cX5_copyState 91 = .ok (.aload_n 0, 1) := by decide +kernel
theorem dX5_copyState_92 : decode cX5_copyState 92 = .ok (.getfield 225, 3) := by decide +kernel
theorem dX5_copyState_95 : decode cX5_copyState 95 = .ok (.aload_n 1, 1) := by decide +kernel
theorem dX5_copyState_96 : decode cX5_copyState 96 = .ok (.getfield 225, 3) := by decide +kernel
theorem dX5_copyState_99 : decode cX5_copyState 99 = .ok (.invokestatic 258, 3) := by decide +kernel
theorem dX5_copyState_102 : decode cX5_copyState 102 = .ok (.iconst 0, 1) := by decide +kernel
theorem dX5_copyState_103 : decode cX5_copyState 103 = .ok (.istore_n 2, 1) := by decide +kernel
theorem dX5_copyState_104 : decode cX5_copyState 104 = .ok (.iload_n 2, 1) := by decide +kernel
theorem dX5_copyState_105 : decode cX5_copyState 105 = .ok (.bipush 8, 2) := by decide +kernel
theorem dX5_copyState_107 : decode cX5_copyState 107 = .ok (.if_icmp .ge 24, 3) := by decide +kernel
theorem dX5_copyState_110 : decode cX5_copyState 110 = .ok (.aload_n 0, 1) := by decide +kernel
theorem dX5_copyState_111 : decode cX5_copyState 111 = .ok (.getfield 262, 3) := by decide +kernel
theorem dX5_copyState_114 : decode cX5_copyState 114 = .ok (.iload_n 2, 1) := by decide +kernel
theorem dX5_copyState_115 : decode cX5_copyState 115 = .ok (.aaload, 1) := by decide +kernel
theorem dX5_copyState_116 : decode cX5_copyState 116 = .ok (.aload_n 1, 1) := by decide +kernel
theorem dX5_copyState_117 : decode cX5_copyState 117 = .ok (.getfield 262, 3) := by decide +kernel
theorem dX5_copyState_120 : decode cX5_copyState 120 = .ok (.iload_n 2, 1) := by decide +kernel
theorem dX5_copyState_121 : decode cX5_copyState 121 = .ok (.aaload, 1) := by decide +kernel
theorem dX5_copyState_122 : decode cX5_copyState 122 = .ok (.invokestatic 266, 3) := by decide +kernel
theorem dX5_copyState_125 : decode cX5_copyState 125 = .ok (.iinc 2 1, 3) := by decide +kernel
theorem dX5_copyState_128 : decode cX5_copyState 128 = .ok (.goto (-24), 3) := by decide +kernel
theorem dX5_copyState_131 : decode cX5_copyState 131 = .ok (.return_, 1) := by decide +kernel
theorem dX5_copyFirm_0 : decode cX5_copyFirm 0 = .ok (.aload_n 0, 1) := by decide +kernel
theorem dX5_copyFirm_1 : decode cX5_copyFirm 1 = .ok (.ifnull 7, 3) := by decide +kernel
theorem dX5_copyFirm_4 : decode cX5_copyFirm 4 = .ok (.aload_n 1, 1) := by decide +kernel
theorem dX5_copyFirm_5 : decode cX5_copyFirm 5 = .ok (.ifnonnull 4, 3) := by decide +kernel
theorem dX5_copyFirm_8 : decode cX5_copyFirm 8 = .ok (.return_, 1) := by decide +kernel
theorem dX5_copyFirm_9 : decode cX5_copyFirm 9 = .ok (.aload_n 0, 1) := by decide +kernel
theorem dX5_copyFirm_10 : decode cX5_copyFirm 10 = .ok (.getfield 77, 3) := by decide +kernel
theorem dX5_copyFirm_13 : decode cX5_copyFirm 13 = .ok (.aload_n 1, 1) := by decide +kernel
theorem dX5_copyFirm_14 : decode cX5_copyFirm 14 = .ok (.getfield 77, 3) := by decide +kernel
theorem dX5_copyFirm_17 : decode cX5_copyFirm 17 = .ok (.invokestatic 258, 3) := by decide +kernel
theorem dX5_copyFirm_20 : decode cX5_copyFirm 20 = .ok (.aload_n 0, 1) := by decide +kernel
theorem dX5_copyFirm_21 : decode cX5_copyFirm 21 = .ok (.getfield 88, 3) := by decide +kernel
theorem dX5_copyFirm_24 : decode cX5_copyFirm 24 = .ok (.aload_n 1, 1) := by decide +kernel
theorem dX5_copyFirm_25 : decode cX5_copyFirm 25 = .ok (.getfield 88, 3) := by decide +kernel
theorem dX5_copyFirm_28 : decode cX5_copyFirm 28 = .ok (.invokestatic 258, 3) := by decide +kernel
theorem dX5_copyFirm_31 : decode cX5_copyFirm 31 = .ok (.aload_n 0, 1) := by decide +kernel
theorem dX5_copyFirm_32 : decode cX5_copyFirm 32 = .ok (.getfield 204, 3) := by decide +kernel
theorem dX5_copyFirm_35 : decode cX5_copyFirm 35 = .ok (.aload_n 1, 1) := by decide +kernel
theorem dX5_copyFirm_36 : decode cX5_copyFirm 36 = .ok (.getfield 204, 3) := by decide +kernel
theorem dX5_copyFirm_39 : decode cX5_copyFirm 39 = .ok (.invokestatic 258, 3) := by decide +kernel
theorem dX5_copyFirm_42 : decode cX5_copyFirm 42 = .ok (.aload_n 1, 1) := by decide +kernel
theorem dX5_copyFirm_43 : decode cX5_copyFirm 43 = .ok (.aload_n 0, 1) := by decide +kernel
theorem dX5_copyFirm_44 : decode cX5_copyFirm 44 = .ok (.getfield 107, 3) := by decide +kernel
theorem dX5_copyFirm_47 : decode cX5_copyFirm 47 = .ok (.putfield 107, 3) := by decide +kernel
theorem dX5_copyFirm_50 : decode cX5_copyFirm 50 = .ok (.aload_n 1, 1) := by decide +kernel
theorem dX5_copyFirm_51 : decode cX5_copyFirm 51 = .ok (.aload_n 0, 1) := by decide +kernel
theorem dX5_copyFirm_52 : decode cX5_copyFirm 52 = .ok (.getfield 110, 3) := by decide +kernel
theorem dX5_copyFirm_55 : decode cX5_copyFirm 55 = .ok (.putfield 110, 3) := by decide +kernel
theorem dX5_copyFirm_58 : decode cX5_copyFirm 58 = .ok (.aload_n 1, 1) := by decide +kernel
theorem dX5_copyFirm_59 : decode cX5_copyFirm 59 = .ok (.aload_n 0, 1) := by decide +kernel
theorem dX5_copyFirm_60 : decode cX5_copyFirm 60 = .ok (.getfield 190, 3) := by decide +kernel
theorem dX5_copyFirm_63 : decode cX5_copyFirm 63 = .ok (.putfield 190, 3) := by decide +kernel
theorem dX5_copyFirm_66 : decode cX5_copyFirm 66 = .ok (.aload_n 1, 1) := by decide +kernel
theorem dX5_copyFirm_67 : decode cX5_copyFirm 67 = .ok (.aload_n 0, 1) := by decide +kernel
theorem dX5_copyFirm_68 : decode cX5_copyFirm 68 = .ok (.getfield 116, 3) := by decide +kernel
theorem dX5_copyFirm_71 : decode cX5_copyFirm 71 = .ok (.putfield 116, 3) := by decide +kernel
theorem dX5_copyFirm_74 : decode cX5_copyFirm 74 = .ok (.aload_n 1, 1) := by decide +kernel
theorem dX5_copyFirm_75 : decode cX5_copyFirm 75 = .ok (.aload_n 0, 1) := by decide +kernel
theorem dX5_copyFirm_76 : decode cX5_copyFirm 76 = .ok (.getfield 130, 3) := by decide +kernel
theorem dX5_copyFirm_79 : decode cX5_copyFirm 79 = .ok (.putfield 130, 3) := by decide +kernel
theorem dX5_copyFirm_82 : decode cX5_copyFirm 82 = .ok (.aload_n 1, 1) := by decide +kernel
theorem dX5_copyFirm_83 : decode cX5_copyFirm 83 = .ok (.aload_n 0, 1) := by decide +kernel
theorem dX5_copyFirm_84 : decode cX5_copyFirm 84 = .ok (.getfield 193, 3) := by decide +kernel
theorem dX5_copyFirm_87 : decode cX5_copyFirm 87 = .ok (.putfield 193, 3) := by decide +kernel
theorem dX5_copyFirm_90 : decode cX5_copyFirm 90 = .ok (.return_, 1) := by decide +kernel
theorem dX5_copyNumbers_0 : decode cX5_copyNumbers 0 = .ok (.aload_n 0, 1) := by decide +kernel
theorem dX5_copyNumbers_1 : decode cX5_copyNumbers 1 = .ok (.iconst 0, 1) := by decide +kernel
theorem dX5_copyNumbers_2 : decode cX5_copyNumbers 2 = .ok (.aload_n 1, 1) := by decide +kernel
theorem dX5_copyNumbers_3 : decode cX5_copyNumbers 3 = .ok (.iconst 0, 1) := by decide +kernel
theorem dX5_copyNumbers_4 : decode cX5_copyNumbers 4 = .ok (.aload_n 0, 1) := by decide +kernel
theorem dX5_copyNumbers_5 : decode cX5_copyNumbers 5 = .ok (.arraylength, 1) := by decide +kernel
theorem dX5_copyNumbers_6 : decode cX5_copyNumbers 6 = .ok (.aload_n 1, 1) := by decide +kernel
theorem dX5_copyNumbers_7 : decode cX5_copyNumbers 7 = .ok (.arraylength, 1) := by decide +kernel
theorem dX5_copyNumbers_8 : decode cX5_copyNumbers 8 = .ok (.invokestatic 270, 3) := by decide +kernel
theorem dX5_copyNumbers_11 : decode cX5_copyNumbers 11 = .ok (.invokestatic 275, 3) := by decide +kernel
theorem dX5_copyNumbers_14 : decode cX5_copyNumbers 14 = .ok (.return_, 1) := by decide +kernel
theorem dJ9_max_7cf53_0 : decode cJ9_max_7cf53 0 = .ok (.iload_n 0, 1) := by decide +kernel
theorem dJ9_max_7cf53_1 : decode cJ9_max_7cf53 1 = .ok (.iload_n 1, 1) := by decide +kernel
theorem dJ9_max_7cf53_2 : decode cJ9_max_7cf53 2 = .ok (.if_icmp .lt 7, 3) := by decide +kernel
theorem dJ9_max_7cf53_5 : decode cJ9_max_7cf53 5 = .ok (.iload_n 0, 1) := by decide +kernel
theorem dJ9_max_7cf53_6 : decode cJ9_max_7cf53 6 = .ok (.goto 4, 3) := by decide +kernel
theorem dJ9_max_7cf53_9 : decode cJ9_max_7cf53 9 = .ok (.iload_n 1, 1) := by decide +kernel
theorem dJ9_max_7cf53_10 : decode cJ9_max_7cf53 10 = .ok (.ireturn, 1) := by decide +kernel
theorem dJ9_min_7cf53_0 : decode cJ9_min_7cf53 0 = .ok (.iload_n 0, 1) := by decide +kernel
theorem dJ9_min_7cf53_1 : decode cJ9_min_7cf53 1 = .ok (.iload_n 1, 1) := by decide +kernel
theorem dJ9_min_7cf53_2 : decode cJ9_min_7cf53 2 = .ok (.if_icmp .gt 7, 3) := by decide +kernel
theorem dJ9_min_7cf53_5 : decode cJ9_min_7cf53 5 = .ok (.iload_n 0, 1) := by decide +kernel
theorem dJ9_min_7cf53_6 : decode cJ9_min_7cf53 6 = .ok (.goto 4, 3) := by decide +kernel
theorem dJ9_min_7cf53_9 : decode cJ9_min_7cf53 9 = .ok (.iload_n 1, 1) := by decide +kernel
theorem dJ9_min_7cf53_10 : decode cJ9_min_7cf53 10 = .ok (.ireturn, 1) := by decide +kernel
theorem dL_cell_0 : decode cL_cell 0 = .ok (.iload_n 1, 1) := by decide +kernel
theorem dL_cell_1 : decode cL_cell 1 = .ok (.aload_n 0, 1) := by decide +kernel
theorem dL_cell_2 : decode cL_cell 2 = .ok (.arraylength, 1) := by decide +kernel
theorem dL_cell_3 : decode cL_cell 3 = .ok (.if_icmp .ge 9, 3) := by decide +kernel
theorem dL_cell_6 : decode cL_cell 6 = .ok (.aload_n 0, 1) := by decide +kernel
theorem dL_cell_7 : decode cL_cell 7 = .ok (.iload_n 1, 1) := by decide +kernel
theorem dL_cell_8 : decode cL_cell 8 = .ok (.iaload, 1) := by decide +kernel
theorem dL_cell_9 : decode cL_cell 9 = .ok (.goto 16, 3) := by decide +kernel
theorem dL_cell_12 : decode cL_cell 12 = .ok (.sipush 7919, 3) := by decide +kernel
theorem dL_cell_15 : decode cL_cell 15 = .ok (.iload_n 1, 1) := by decide +kernel
theorem dL_cell_16 : decode cL_cell 16 = .ok (.bipush 23, 2) := by decide +kernel
theorem dL_cell_18 : decode cL_cell 18 = .ok (.iadd, 1) := by decide +kernel
theorem dL_cell_19 : decode cL_cell 19 = .ok (.imul, 1) := by decide +kernel
theorem dL_cell_20 : decode cL_cell 20 = .ok (.iload_n 1, 1) := by decide +kernel
theorem dL_cell_21 : decode cL_cell 21 = .ok (.bipush 53, 2) := by decide +kernel
theorem dL_cell_23 : decode cL_cell 23 = .ok (.iadd, 1) := by decide +kernel
theorem dL_cell_24 : decode cL_cell 24 = .ok (.imul, 1) := by decide +kernel
theorem dL_cell_25 : decode cL_cell 25 = .ok (.ireturn, 1) := by decide +kernel
theorem dL_low_0 : decode cL_low 0 = .ok (.iload_n 0, 1) := by decide +kernel
theorem dL_low_1 : decode cL_low 1 = .ok (.ldc 7, 2) := by decide +kernel
theorem dL_low_3 : decode cL_low 3 = .ok (.iand, 1) := by decide +kernel
theorem dL_low_4 : decode cL_low 4 = .ok (.iload_n 1, 1) := by decide +kernel
theorem dL_low_5 : decode cL_low 5 = .ok (.irem, 1) := by decide +kernel
theorem dL_low_6 : decode cL_low 6 = .ok (.ireturn, 1) := by decide +kernel
theorem dL_all_0 : decode cL_all 0 = .ok (.ldc2_w 8, 3) := by decide +kernel
theorem dL_all_3 : decode cL_all 3 = .ok (.lstore_n 1, 1) := by decide +kernel
theorem dL_all_4 : decode cL_all 4 = .ok (.iconst 0, 1) := by decide +kernel
theorem dL_all_5 : decode cL_all 5 = .ok (.istore_n 3, 1) := by decide +kernel
theorem dL_all_6 : decode cL_all 6 = .ok (.iload_n 3, 1) := by decide +kernel
theorem dL_all_7 : decode cL_all 7 = .ok (.bipush 13, 2) := by decide +kernel
theorem dL_all_9 : decode cL_all 9 = .ok (.if_icmp .ge 22, 3) := by decide +kernel
theorem dL_all_12 : decode cL_all 12 = .ok (.ldc2_w 10, 3) := by decide +kernel
theorem dL_all_15 : decode cL_all 15 = .ok (.lload_n 1, 1) := by decide +kernel
theorem dL_all_16 : decode cL_all 16 = .ok (.lmul, 1) := by decide +kernel
theorem dL_all_17 : decode cL_all 17 = .ok (.aload_n 0, 1) := by decide +kernel
theorem dL_all_18 : decode cL_all 18 = .ok (.iload_n 3, 1) := by decide +kernel
theorem dL_all_19 : decode cL_all 19 = .ok (.invokevirtual 12, 3) := by decide +kernel
theorem dL_all_22 : decode cL_all 22 = .ok (.i2l, 1) := by decide +kernel
theorem dL_all_23 : decode cL_all 23 = .ok (.ladd, 1) := by decide +kernel
theorem dL_all_24 : decode cL_all 24 = .ok (.lstore_n 1, 1) := by decide +kernel
theorem dL_all_25 : decode cL_all 25 = .ok (.iinc 3 1, 3) := by decide +kernel
theorem dL_all_28 : decode cL_all 28 = .ok (.goto (-22), 3) := by decide +kernel
theorem dL_all_31 : decode cL_all 31 = .ok (.iconst 0, 1) := by decide +kernel
theorem dL_all_32 : decode cL_all 32 = .ok (.istore_n 3, 1) := by decide +kernel
theorem dL_all_33 : decode cL_all 33 = .ok (.iload_n 3, 1) := by decide +kernel
theorem dL_all_34 : decode cL_all 34 = .ok (.aload_n 0, 1) := by decide +kernel
theorem dL_all_35 : decode cL_all 35 = .ok (.iconst 2, 1) := by decide +kernel
theorem dL_all_36 : decode cL_all 36 = .ok (.invokevirtual 12, 3) := by decide +kernel
theorem dL_all_39 : decode cL_all 39 = .ok (.if_icmp .ge 108, 3) := by decide +kernel
theorem dL_all_42 : decode cL_all 42 = .ok (.iconst 0, 1) := by decide +kernel
theorem dL_all_43 : decode cL_all 43 = .ok (.istore 4, 2) := by decide +kernel
theorem dL_all_45 : decode cL_all 45 = .ok (.iload 4, 2) := by decide +kernel
theorem dL_all_47 : decode cL_all 47 = .ok (.bipush 11, 2) := by decide +kernel
theorem dL_all_49 : decode cL_all 49 = .ok (.if_icmp .ge 24, 3) := by decide +kernel
theorem dL_all_52 : decode cL_all 52 = .ok (.ldc2_w 10, 3) := by decide +kernel
theorem dL_all_55 : decode cL_all 55 = .ok (.lload_n 1, 1) := by decide +kernel
theorem dL_all_56 : decode cL_all 56 = .ok (.lmul, 1) := by decide +kernel
theorem dL_all_57 : decode cL_all 57 = .ok (.aload_n 0, 1) := by decide +kernel
theorem dL_all_58 : decode cL_all 58 = .ok (.iload_n 3, 1) := by decide +kernel
theorem dL_all_59 : decode cL_all 59 = .ok (.iload 4, 2) := by decide +kernel
theorem dL_all_61 : decode cL_all 61 = .ok (.invokevirtual 18, 3) := by decide +kernel
theorem dL_all_64 : decode cL_all 64 = .ok (.i2l, 1) := by decide +kernel
theorem dL_all_65 : decode cL_all 65 = .ok (.ladd, 1) := by decide +kernel
theorem dL_all_66 : decode cL_all 66 = .ok (.lstore_n 1, 1) := by decide +kernel
theorem dL_all_67 : decode cL_all 67 = .ok (.iinc 4 1, 3) := by decide +kernel
theorem dL_all_70 : decode cL_all 70 = .ok (.goto (-25), 3) := by decide +kernel
theorem dL_all_73 : decode cL_all 73 = .ok (.iconst 0, 1) := by decide +kernel
theorem dL_all_74 : decode cL_all 74 = .ok (.istore 4, 2) := by decide +kernel
theorem dL_all_76 : decode cL_all 76 = .ok (.iload 4, 2) := by decide +kernel
theorem dL_all_78 : decode cL_all 78 = .ok (.bipush 20, 2) := by decide +kernel
theorem dL_all_80 : decode cL_all 80 = .ok (.if_icmp .ge 24, 3) := by decide +kernel
theorem dL_all_83 : decode cL_all 83 = .ok (.ldc2_w 10, 3) := by decide +kernel
theorem dL_all_86 : decode cL_all 86 = .ok (.lload_n 1, 1) := by decide +kernel
theorem dL_all_87 : decode cL_all 87 = .ok (.lmul, 1) := by decide +kernel
theorem dL_all_88 : decode cL_all 88 = .ok (.aload_n 0, 1) := by decide +kernel
theorem dL_all_89 : decode cL_all 89 = .ok (.iload_n 3, 1) := by decide +kernel
theorem dL_all_90 : decode cL_all 90 = .ok (.iload 4, 2) := by decide +kernel
theorem dL_all_92 : decode cL_all 92 = .ok (.invokevirtual 22, 3) := by decide +kernel
theorem dL_all_95 : decode cL_all 95 = .ok (.i2l, 1) := by decide +kernel
theorem dL_all_96 : decode cL_all 96 = .ok (.ladd, 1) := by decide +kernel
theorem dL_all_97 : decode cL_all 97 = .ok (.lstore_n 1, 1) := by decide +kernel
theorem dL_all_98 : decode cL_all 98 = .ok (.iinc 4 1, 3) := by decide +kernel
theorem dL_all_101 : decode cL_all 101 = .ok (.goto (-25), 3) := by decide +kernel
theorem dL_all_104 : decode cL_all 104 = .ok (.iconst 0, 1) := by decide +kernel
theorem dL_all_105 : decode cL_all 105 = .ok (.istore 4, 2) := by decide +kernel
theorem dL_all_107 : decode cL_all 107 = .ok (.iload 4, 2) := by decide +kernel
theorem dL_all_109 : decode cL_all 109 = .ok (.bipush 9, 2) := by decide +kernel
theorem dL_all_111 : decode cL_all 111 = .ok (.if_icmp .ge 30, 3) := by decide +kernel
theorem dL_all_114 : decode cL_all 114 = .ok (.ldc2_w 10, 3) := by decide +kernel
theorem dL_all_117 : decode cL_all 117 = .ok (.lload_n 1, 1) := by decide +kernel
theorem dL_all_118 : decode cL_all 118 = .ok (.lmul, 1) := by decide +kernel
theorem dL_all_119 : decode cL_all 119 = .ok (.aload_n 0, 1) := by decide +kernel
theorem dL_all_120 : decode cL_all 120 = .ok (.iload_n 3, 1) := by decide +kernel
theorem dL_all_121 : decode cL_all 121 = .ok (.iload 4, 2) := by decide +kernel
theorem dL_all_123 : decode cL_all 123 = .ok (.iconst 3, 1) := by decide +kernel
theorem dL_all_124 : decode cL_all 124 = .ok (.idiv, 1) := by decide +kernel
theorem dL_all_125 : decode cL_all 125 = .ok (.iload 4, 2) := by decide +kernel
theorem dL_all_127 : decode cL_all 127 = .ok (.iconst 3, 1) := by decide +kernel
theorem dL_all_128 : decode cL_all 128 = .ok (.irem, 1) := by decide +kernel
theorem dL_all_129 : decode cL_all 129 = .ok (.invokevirtual 25, 3) := by decide +kernel
theorem dL_all_132 : decode cL_all 132 = .ok (.i2l, 1) := by decide +kernel
theorem dL_all_133 : decode cL_all 133 = .ok (.ladd, 1) := by decide +kernel
theorem dL_all_134 : decode cL_all 134 = .ok (.lstore_n 1, 1) := by decide +kernel
theorem dL_all_135 : decode cL_all 135 = .ok (.iinc 4 1, 3) := by decide +kernel
theorem dL_all_138 : decode cL_all 138 = .ok (.goto (-31), 3) := by decide +kernel
theorem dL_all_141 : decode cL_all 141 = .ok (.iinc 3 1, 3) := by decide +kernel
theorem dL_all_144 : decode cL_all 144 = .ok (.goto (-111), 3) := by decide +kernel
theorem dL_all_147 : decode cL_all 147 = .ok (.iconst 0, 1) := by decide +kernel
theorem dL_all_148 : decode cL_all 148 = .ok (.istore_n 3, 1) := by decide +kernel
theorem dL_all_149 : decode cL_all 149 = .ok (.iload_n 3, 1) := by decide +kernel
theorem dL_all_150 : decode cL_all 150 = .ok (.sipush 140, 3) := by decide +kernel
theorem dL_all_153 : decode cL_all 153 = .ok (.if_icmp .ge 29, 3) := by decide +kernel
theorem dL_all_156 : decode cL_all 156 = .ok (.ldc2_w 10, 3) := by decide +kernel
theorem dL_all_159 : decode cL_all 159 = .ok (.lload_n 1, 1) := by decide +kernel
theorem dL_all_160 : decode cL_all 160 = .ok (.lmul, 1) := by decide +kernel
theorem dL_all_161 : decode cL_all 161 = .ok (.aload_n 0, 1) := by decide +kernel
theorem dL_all_162 : decode cL_all 162 = .ok (.iload_n 3, 1) := by decide +kernel
theorem dL_all_163 : decode cL_all 163 = .ok (.bipush 7, 2) := by decide +kernel
theorem dL_all_165 : decode cL_all 165 = .ok (.idiv, 1) := by decide +kernel
theorem dL_all_166 : decode cL_all 166 = .ok (.iload_n 3, 1) := by decide +kernel
theorem dL_all_167 : decode cL_all 167 = .ok (.bipush 7, 2) := by decide +kernel
theorem dL_all_169 : decode cL_all 169 = .ok (.irem, 1) := by decide +kernel
theorem dL_all_170 : decode cL_all 170 = .ok (.invokevirtual 29, 3) := by decide +kernel
theorem dL_all_173 : decode cL_all 173 = .ok (.i2l, 1) := by decide +kernel
theorem dL_all_174 : decode cL_all 174 = .ok (.ladd, 1) := by decide +kernel
theorem dL_all_175 : decode cL_all 175 = .ok (.lstore_n 1, 1) := by decide +kernel
theorem dL_all_176 : decode cL_all 176 = .ok (.iinc 3 1, 3) := by decide +kernel
theorem dL_all_179 : decode cL_all 179 = .ok (.goto (-30), 3) := by decide +kernel
theorem dL_all_182 : decode cL_all 182 = .ok (.iconst 0, 1) := by decide +kernel
theorem dL_all_183 : decode cL_all 183 = .ok (.istore_n 3, 1) := by decide +kernel
theorem dL_all_184 : decode cL_all 184 = .ok (.iload_n 3, 1) := by decide +kernel
theorem dL_all_185 : decode cL_all 185 = .ok (.bipush 9, 2) := by decide +kernel
theorem dL_all_187 : decode cL_all 187 = .ok (.if_icmp .ge 27, 3) := by decide +kernel
theorem dL_all_190 : decode cL_all 190 = .ok (.ldc2_w 10, 3) := by decide +kernel
theorem dL_all_193 : decode cL_all 193 = .ok (.lload_n 1, 1) := by decide +kernel
theorem dL_all_194 : decode cL_all 194 = .ok (.lmul, 1) := by decide +kernel
theorem dL_all_195 : decode cL_all 195 = .ok (.aload_n 0, 1) := by decide +kernel
theorem dL_all_196 : decode cL_all 196 = .ok (.iload_n 3, 1) := by decide +kernel
theorem dL_all_197 : decode cL_all 197 = .ok (.iconst 3, 1) := by decide +kernel
theorem dL_all_198 : decode cL_all 198 = .ok (.idiv, 1) := by decide +kernel
theorem dL_all_199 : decode cL_all 199 = .ok (.iload_n 3, 1) := by decide +kernel
theorem dL_all_200 : decode cL_all 200 = .ok (.iconst 3, 1) := by decide +kernel
theorem dL_all_201 : decode cL_all 201 = .ok (.irem, 1) := by decide +kernel
theorem dL_all_202 : decode cL_all 202 = .ok (.invokevirtual 32, 3) := by decide +kernel
theorem dL_all_205 : decode cL_all 205 = .ok (.i2l, 1) := by decide +kernel
theorem dL_all_206 : decode cL_all 206 = .ok (.ladd, 1) := by decide +kernel
theorem dL_all_207 : decode cL_all 207 = .ok (.lstore_n 1, 1) := by decide +kernel
theorem dL_all_208 : decode cL_all 208 = .ok (.iinc 3 1, 3) := by decide +kernel
theorem dL_all_211 : decode cL_all 211 = .ok (.goto (-27), 3) := by decide +kernel
theorem dL_all_214 : decode cL_all 214 = .ok (.lload_n 1, 1) := by decide +kernel
theorem dL_all_215 : decode cL_all 215 = .ok (.lreturn, 1) := by decide +kernel
theorem dL_isSound_0 : decode cL_isSound 0 = .ok (.aload_n 0, 1) := by decide +kernel
theorem dL_isSound_1 : decode cL_isSound 1 = .ok (.iconst 2, 1) := by decide +kernel
theorem dL_isSound_2 : decode cL_isSound 2 = .ok (.invokevirtual 12, 3) := by decide +kernel
theorem dL_isSound_5 : decode cL_isSound 5 = .ok (.istore_n 1, 1) := by decide +kernel
theorem dL_isSound_6 : decode cL_isSound 6 = .ok (.iconst 0, 1) := by decide +kernel
theorem dL_isSound_7 : decode cL_isSound 7 = .ok (.istore_n 2, 1) := by decide +kernel
theorem dL_isSound_8 : decode cL_isSound 8 = .ok (.iconst 0, 1) := by decide +kernel
theorem dL_isSound_9 : decode cL_isSound 9 = .ok (.istore_n 3, 1) := by decide +kernel
theorem dL_isSound_10 : decode cL_isSound 10 = .ok (.iconst 0, 1) := by decide +kernel
theorem dL_isSound_11 : decode cL_isSound 11 = .ok (.istore 4, 2) := by decide +kernel
theorem dL_isSound_13 : decode cL_isSound 13 = .ok (.iconst 0, 1) := by decide +kernel
theorem dL_isSound_14 : decode cL_isSound 14 = .ok (.istore 5, 2) := by decide +kernel
theorem dL_isSound_16 : decode cL_isSound 16 = .ok (.iload 5, 2) := by decide +kernel
theorem dL_isSound_18 : decode cL_isSound 18 = .ok (.bipush 20, 2) := by decide +kernel
theorem dL_isSound_20 : decode cL_isSound 20 = .ok (.if_icmp .ge 319, 3) := by decide +kernel
theorem dL_isSound_23 : decode cL_isSound 23 = .ok (.iconst 0, 1) := by decide +kernel
theorem dL_isSound_24 : decode cL_isSound 24 = .ok (.istore 6, 2) := by decide +kernel
theorem dL_isSound_26 : decode cL_isSound 26 = .ok (.iconst 0, 1) := by decide +kernel
theorem dL_isSound_27 : decode cL_isSound 27 = .ok (.istore 7, 2) := by decide +kernel
theorem dL_isSound_29 : decode cL_isSound 29 = .ok (.ldc 35, 2) := by decide +kernel
theorem dL_isSound_31 : decode cL_isSound 31 = .ok (.istore 8, 2) := by decide +kernel
theorem dL_isSound_33 : decode cL_isSound 33 = .ok (.iconst 0, 1) := by decide +kernel
theorem dL_isSound_34 : decode cL_isSound 34 = .ok (.istore 9, 2) := by decide +kernel
theorem dL_isSound_36 : decode cL_isSound 36 = .ok (.iload 9, 2) := by decide +kernel
theorem dL_isSound_38 : decode cL_isSound 38 = .ok (.iload_n 1, 1) := by decide +kernel
theorem dL_isSound_39 : decode cL_isSound 39 = .ok (.if_icmp .ge 104, 3) := by decide +kernel
theorem dL_isSound_42 : decode cL_isSound 42 = .ok (.iload 6, 2) := by decide +kernel
theorem dL_isSound_44 : decode cL_isSound 44 = .ok (.aload_n 0, 1) := by decide +kernel
theorem dL_isSound_45 : decode cL_isSound 45 = .ok (.iload 9, 2) := by decide +kernel
theorem dL_isSound_47 : decode cL_isSound 47 = .ok (.iload 5, 2) := by decide +kernel
theorem dL_isSound_49 : decode cL_isSound 49 = .ok (.invokevirtual 22, 3) := by decide +kernel
theorem dL_isSound_52 : decode cL_isSound 52 = .ok (.iadd, 1) := by decide +kernel
theorem dL_isSound_53 : decode cL_isSound 53 = .ok (.istore 6, 2) := by decide +kernel
theorem dL_isSound_55 : decode cL_isSound 55 = .ok (.iload 7, 2) := by decide +kernel
theorem dL_isSound_57 : decode cL_isSound 57 = .ok (.aload_n 0, 1) := by decide +kernel
theorem dL_isSound_58 : decode cL_isSound 58 = .ok (.iload 9, 2) := by decide +kernel
theorem dL_isSound_60 : decode cL_isSound 60 = .ok (.iload 5, 2) := by decide +kernel
theorem dL_isSound_62 : decode cL_isSound 62 = .ok (.invokevirtual 22, 3) := by decide +kernel
theorem dL_isSound_65 : decode cL_isSound 65 = .ok (.ifCond .le 7, 3) := by decide +kernel
theorem dL_isSound_68 : decode cL_isSound 68 = .ok (.iconst 1, 1) := by decide +kernel
theorem dL_isSound_69 : decode cL_isSound 69 = .ok (.goto 4, 3) := by decide +kernel
theorem dL_isSound_72 : decode cL_isSound 72 = .ok (.iconst 0, 1) := by decide +kernel
theorem dL_isSound_73 : decode cL_isSound 73 = .ok (.iadd, 1) := by decide +kernel
theorem dL_isSound_74 : decode cL_isSound 74 = .ok (.istore 7, 2) := by decide +kernel
theorem dL_isSound_76 : decode cL_isSound 76 = .ok (.aload_n 0, 1) := by decide +kernel
theorem dL_isSound_77 : decode cL_isSound 77 = .ok (.iload 5, 2) := by decide +kernel
theorem dL_isSound_79 : decode cL_isSound 79 = .ok (.iload 9, 2) := by decide +kernel
theorem dL_isSound_81 : decode cL_isSound 81 = .ok (.invokevirtual 36, 3) := by decide +kernel
theorem dL_isSound_84 : decode cL_isSound 84 = .ok (.istore 10, 2) := by decide +kernel
theorem dL_isSound_86 : decode cL_isSound 86 = .ok (.iload 10, 2) := by decide +kernel
theorem dL_isSound_88 : decode cL_isSound 88 = .ok (.ifCond .lt 30, 3) := by decide +kernel
theorem dL_isSound_91 : decode cL_isSound 91 = .ok (.aload_n 0, 1) := by decide +kernel
theorem dL_isSound_92 : decode cL_isSound 92 = .ok (.iload 10, 2) := by decide +kernel
theorem dL_isSound_94 : decode cL_isSound 94 = .ok (.iload 5, 2) := by decide +kernel
theorem dL_isSound_96 : decode cL_isSound 96 = .ok (.invokevirtual 22, 3) := by decide +kernel
theorem dL_isSound_99 : decode cL_isSound 99 = .ok (.iconst 1, 1) := by decide +kernel
theorem dL_isSound_100 : decode cL_isSound 100 = .ok (.if_icmp .lt 16, 3) := by decide +kernel
theorem dL_isSound_103 : decode cL_isSound 103 = .ok (.aload_n 0, 1) := by decide +kernel
theorem dL_isSound_104 : decode cL_isSound 104 = .ok (.iload 10, 2) := by decide +kernel
theorem dL_isSound_106 : decode cL_isSound 106 = .ok (.iload 5, 2) := by decide +kernel
theorem dL_isSound_108 : decode cL_isSound 108 = .ok (.invokevirtual 22, 3) := by decide +kernel
theorem dL_isSound_111 : decode cL_isSound 111 = .ok (.iload 8, 2) := by decide +kernel
theorem dL_isSound_113 : decode cL_isSound 113 = .ok (.if_icmp .le 5, 3) := by decide +kernel
theorem dL_isSound_116 : decode cL_isSound 116 = .ok (.iconst 0, 1) := by decide +kernel
theorem dL_isSound_117 : decode cL_isSound 117 = .ok (.ireturn, 1) := by decide +kernel
theorem dL_isSound_118 : decode cL_isSound 118 = .ok (.iload 10, 2) := by decide +kernel
theorem dL_isSound_120 : decode cL_isSound 120 = .ok (.ifCond .lt 14, 3) := by decide +kernel
theorem dL_isSound_123 : decode cL_isSound 123 = .ok (.aload_n 0, 1) := by decide +kernel
theorem dL_isSound_124 : decode cL_isSound 124 = .ok (.iload 10, 2) := by decide +kernel
theorem dL_isSound_126 : decode cL_isSound 126 = .ok (.iload 5, 2) := by decide +kernel
theorem dL_isSound_128 : decode cL_isSound 128 = .ok (.invokevirtual 22, 3) := by decide +kernel
theorem dL_isSound_131 : decode cL_isSound 131 = .ok (.goto 4, 3) := by decide +kernel
theorem dL_isSound_134 : decode cL_isSound 134 = .ok (.iconst 0, 1) := by decide +kernel
theorem dL_isSound_135 : decode cL_isSound 135 = .ok (.istore 8, 2) := by decide +kernel
theorem dL_isSound_137 : decode cL_isSound 137 = .ok (.iinc 9 1, 3) := by decide +kernel
theorem dL_isSound_140 : decode cL_isSound 140 = .ok (.goto (-104), 3) := by decide +kernel
theorem dL_isSound_143 : decode cL_isSound 143 = .ok (.aload_n 0, 1) := by decide +kernel
theorem dL_isSound_144 : decode cL_isSound 144 = .ok (.iload 5, 2) := by decide +kernel
theorem dL_isSound_146 : decode cL_isSound 146 = .ok (.iconst 0, 1) := by decide +kernel
theorem dL_isSound_147 : decode cL_isSound 147 = .ok (.invokevirtual 29, 3) := by decide +kernel
theorem dL_isSound_150 : decode cL_isSound 150 = .ok (.aload_n 0, 1) := by decide +kernel
theorem dL_isSound_151 : decode cL_isSound 151 = .ok (.iload 5, 2) := by decide +kernel
theorem dL_isSound_153 : decode cL_isSound 153 = .ok (.iconst 1, 1) := by decide +kernel
theorem dL_isSound_154 : decode cL_isSound 154 = .ok (.invokevirtual 29, 3) := by decide +kernel
theorem dL_isSound_157 : decode cL_isSound 157 = .ok (.aload_n 0, 1) := by decide +kernel
theorem dL_isSound_158 : decode cL_isSound 158 = .ok (.iload 5, 2) := by decide +kernel
theorem dL_isSound_160 : decode cL_isSound 160 = .ok (.iconst 2, 1) := by decide +kernel
theorem dL_isSound_161 : decode cL_isSound 161 = .ok (.invokevirtual 29, 3) := by decide +kernel
theorem dL_isSound_164 : decode cL_isSound 164 = .ok (.iadd, 1) := by decide +kernel
theorem dL_isSound_165 : decode cL_isSound 165 = .ok (.aload_n 0, 1) := by decide +kernel
theorem dL_isSound_166 : decode cL_isSound 166 = .ok (.iload 5, 2) := by decide +kernel
theorem dL_isSound_168 : decode cL_isSound 168 = .ok (.iconst 3, 1) := by decide +kernel
theorem dL_isSound_169 : decode cL_isSound 169 = .ok (.invokevirtual 29, 3) := by decide +kernel
theorem dL_isSound_172 : decode cL_isSound 172 = .ok (.iadd, 1) := by decide +kernel
theorem dL_isSound_173 : decode cL_isSound 173 = .ok (.aload_n 0, 1) := by decide +kernel
theorem dL_isSound_174 : decode cL_isSound 174 = .ok (.iload 5, 2) := by decide +kernel
theorem dL_isSound_176 : decode cL_isSound 176 = .ok (.iconst 4, 1) := by decide +kernel
theorem dL_isSound_177 : decode cL_isSound 177 = .ok (.invokevirtual 29, 3) := by decide +kernel
theorem dL_isSound_180 : decode cL_isSound 180 = .ok (.iadd, 1) := by decide +kernel
theorem dL_isSound_181 : decode cL_isSound 181 = .ok (.if_icmp .ne 60, 3) := by decide +kernel
theorem dL_isSound_184 : decode cL_isSound 184 = .ok (.aload_n 0, 1) := by decide +kernel
theorem dL_isSound_185 : decode cL_isSound 185 = .ok (.iload 5, 2) := by decide +kernel
theorem dL_isSound_187 : decode cL_isSound 187 = .ok (.iconst 1, 1) := by decide +kernel
theorem dL_isSound_188 : decode cL_isSound 188 = .ok (.invokevirtual 29, 3) := by decide +kernel
theorem dL_isSound_191 : decode cL_isSound 191 = .ok (.iload 6, 2) := by decide +kernel
theorem dL_isSound_193 : decode cL_isSound 193 = .ok (.if_icmp .ne 48, 3) := by decide +kernel
theorem dL_isSound_196 : decode cL_isSound 196 = .ok (.aload_n 0, 1) := by decide +kernel
theorem dL_isSound_197 : decode cL_isSound 197 = .ok (.iload 5, 2) := by decide +kernel
theorem dL_isSound_199 : decode cL_isSound 199 = .ok (.iconst 5, 1) := by decide +kernel
theorem dL_isSound_200 : decode cL_isSound 200 = .ok (.invokevirtual 29, 3) := by decide +kernel
theorem dL_isSound_203 : decode cL_isSound 203 = .ok (.iload 7, 2) := by decide +kernel
theorem dL_isSound_205 : decode cL_isSound 205 = .ok (.if_icmp .ne 36, 3) := by decide +kernel
theorem dL_isSound_208 : decode cL_isSound 208 = .ok (.aload_n 0, 1) := by decide +kernel
theorem dL_isSound_209 : decode cL_isSound 209 = .ok (.iload 5, 2) := by decide +kernel
theorem dL_isSound_211 : decode cL_isSound 211 = .ok (.iload 7, 2) := by decide +kernel
theorem dL_isSound_213 : decode cL_isSound 213 = .ok (.invokevirtual 36, 3) := by decide +kernel
theorem dL_isSound_216 : decode cL_isSound 216 = .ok (.bipush (-5), 2) := by decide +kernel
theorem dL_isSound_218 : decode cL_isSound 218 = .ok (.if_icmp .ne 23, 3) := by decide +kernel
theorem dL_isSound_221 : decode cL_isSound 221 = .ok (.iload 5, 2) := by decide +kernel
theorem dL_isSound_223 : decode cL_isSound 223 = .ok (.aload_n 0, 1) := by decide +kernel
theorem dL_isSound_224 : decode cL_isSound 224 = .ok (.iconst 1, 1) := by decide +kernel
theorem dL_isSound_225 : decode cL_isSound 225 = .ok (.invokevirtual 12, 3) := by decide +kernel
theorem dL_isSound_228 : decode cL_isSound 228 = .ok (.if_icmp .le 15, 3) := by decide +kernel
theorem dL_isSound_231 : decode cL_isSound 231 = .ok (.aload_n 0, 1) := by decide +kernel
theorem dL_isSound_232 : decode cL_isSound 232 = .ok (.iload 5, 2) := by decide +kernel
theorem dL_isSound_234 : decode cL_isSound 234 = .ok (.iconst 0, 1) := by decide +kernel
theorem dL_isSound_235 : decode cL_isSound 235 = .ok (.invokevirtual 29, 3) := by decide +kernel
theorem dL_isSound_238 : decode cL_isSound 238 = .ok (.ifCond .eq 5, 3) := by decide +kernel
theorem dL_isSound_241 : decode cL_isSound 241 = .ok (.iconst 0, 1) := by decide +kernel
theorem dL_isSound_242 : decode cL_isSound 242 = .ok (.ireturn, 1) := by decide +kernel
theorem dL_isSound_243 : decode cL_isSound 243 = .ok (.aload_n 0, 1) := by decide +kernel
theorem dL_isSound_244 : decode cL_isSound 244 = .ok (.iload 5, 2) := by decide +kernel
theorem dL_isSound_246 : decode cL_isSound 246 = .ok (.bipush 6, 2) := by decide +kernel
theorem dL_isSound_248 : decode cL_isSound 248 = .ok (.invokevirtual 29, 3) := by decide +kernel
theorem dL_isSound_251 : decode cL_isSound 251 = .ok (.istore 9, 2) := by decide +kernel
theorem dL_isSound_253 : decode cL_isSound 253 = .ok (.iload 6, 2) := by decide +kernel
theorem dL_isSound_255 : decode cL_isSound 255 = .ok (.ifCond .ne 13, 3) := by decide +kernel
theorem dL_isSound_258 : decode cL_isSound 258 = .ok (.iload 9, 2) := by decide +kernel
theorem dL_isSound_260 : decode cL_isSound 260 = .ok (.bipush (-5), 2) := by decide +kernel
theorem dL_isSound_262 : decode cL_isSound 262 = .ok (.if_icmp .eq 44, 3) := by decide +kernel
theorem dL_isSound_265 : decode cL_isSound 265 = .ok (.goto 39, 3) := by decide +kernel
theorem dL_isSound_268 : decode cL_isSound 268 = .ok (.iload 9, 2) := by decide +kernel
theorem dL_isSound_270 : decode cL_isSound 270 = .ok (.iconst 1, 1) := by decide +kernel
theorem dL_isSound_271 : decode cL_isSound 271 = .ok (.if_icmp .lt 33, 3) := by decide +kernel
theorem dL_isSound_274 : decode cL_isSound 274 = .ok (.iload 9, 2) := by decide +kernel
theorem dL_isSound_276 : decode cL_isSound 276 = .ok (.aload_n 0, 1) := by decide +kernel
theorem dL_isSound_277 : decode cL_isSound 277 = .ok (.iconst 0, 1) := by decide +kernel
theorem dL_isSound_278 : decode cL_isSound 278 = .ok (.invokevirtual 12, 3) := by decide +kernel
theorem dL_isSound_281 : decode cL_isSound 281 = .ok (.iadd, 1) := by decide +kernel
theorem dL_isSound_282 : decode cL_isSound 282 = .ok (.bipush 12, 2) := by decide +kernel
theorem dL_isSound_284 : decode cL_isSound 284 = .ok (.irem, 1) := by decide +kernel
theorem dL_isSound_285 : decode cL_isSound 285 = .ok (.ifCond .ne 19, 3) := by decide +kernel
theorem dL_isSound_288 : decode cL_isSound 288 = .ok (.iload 9, 2) := by decide +kernel
theorem dL_isSound_290 : decode cL_isSound 290 = .ok (.aload_n 0, 1) := by decide +kernel
theorem dL_isSound_291 : decode cL_isSound 291 = .ok (.iconst 0, 1) := by decide +kernel
theorem dL_isSound_292 : decode cL_isSound 292 = .ok (.invokevirtual 12, 3) := by decide +kernel
theorem dL_isSound_295 : decode cL_isSound 295 = .ok (.iadd, 1) := by decide +kernel
theorem dL_isSound_296 : decode cL_isSound 296 = .ok (.bipush 12, 2) := by decide +kernel
theorem dL_isSound_298 : decode cL_isSound 298 = .ok (.idiv, 1) := by decide +kernel
theorem dL_isSound_299 : decode cL_isSound 299 = .ok (.iload 5, 2) := by decide +kernel
theorem dL_isSound_301 : decode cL_isSound 301 = .ok (.if_icmp .gt 5, 3) := by decide +kernel
theorem dL_isSound_304 : decode cL_isSound 304 = .ok (.iconst 0, 1) := by decide +kernel
theorem dL_isSound_305 : decode cL_isSound 305 = .ok (.ireturn, 1) := by decide +kernel
theorem dL_isSound_306 : decode cL_isSound 306 = .ok (.iload_n 2, 1) := by decide +kernel
theorem dL_isSound_307 : decode cL_isSound 307 = .ok (.aload_n 0, 1) := by decide +kernel
theorem dL_isSound_308 : decode cL_isSound 308 = .ok (.iload 5, 2) := by decide +kernel
theorem dL_isSound_310 : decode cL_isSound 310 = .ok (.iconst 2, 1) := by decide +kernel
theorem dL_isSound_311 : decode cL_isSound 311 = .ok (.invokevirtual 29, 3) := by decide +kernel
theorem dL_isSound_314 : decode cL_isSound 314 = .ok (.iadd, 1) := by decide +kernel
theorem dL_isSound_315 : decode cL_isSound 315 = .ok (.istore_n 2, 1) := by decide +kernel
theorem dL_isSound_316 : decode cL_isSound 316 = .ok (.iload_n 3, 1) := by decide +kernel
theorem dL_isSound_317 : decode cL_isSound 317 = .ok (.iload 6, 2) := by decide +kernel
theorem dL_isSound_319 : decode cL_isSound 319 = .ok (.iadd, 1) := by decide +kernel
theorem dL_isSound_320 : decode cL_isSound 320 = .ok (.istore_n 3, 1) := by decide +kernel
theorem dL_isSound_321 : decode cL_isSound 321 = .ok (.iload 4, 2) := by decide +kernel
theorem dL_isSound_323 : decode cL_isSound 323 = .ok (.aload_n 0, 1) := by decide +kernel
theorem dL_isSound_324 : decode cL_isSound 324 = .ok (.iload 5, 2) := by decide +kernel
theorem dL_isSound_326 : decode cL_isSound 326 = .ok (.iconst 4, 1) := by decide +kernel
theorem dL_isSound_327 : decode cL_isSound 327 = .ok (.invokevirtual 29, 3) := by decide +kernel
theorem dL_isSound_330 : decode cL_isSound 330 = .ok (.iadd, 1) := by decide +kernel
theorem dL_isSound_331 : decode cL_isSound 331 = .ok (.istore 4, 2) := by decide +kernel
theorem dL_isSound_333 : decode cL_isSound 333 = .ok (.iinc 5 1, 3) := by decide +kernel
theorem dL_isSound_336 : decode cL_isSound 336 = .ok (.goto (-320), 3) := by decide +kernel
theorem dL_isSound_339 : decode cL_isSound 339 = .ok (.iconst 0, 1) := by decide +kernel
theorem dL_isSound_340 : decode cL_isSound 340 = .ok (.istore 5, 2) := by decide +kernel
theorem dL_isSound_342 : decode cL_isSound 342 = .ok (.iload 5, 2) := by decide +kernel
theorem dL_isSound_344 : decode cL_isSound 344 = .ok (.iconst 3, 1) := by decide +kernel
theorem dL_isSound_345 : decode cL_isSound 345 = .ok (.if_icmp .ge 128, 3) := by decide +kernel
theorem dL_isSound_348 : decode cL_isSound 348 = .ok (.iconst 0, 1) := by decide +kernel
theorem dL_isSound_349 : decode cL_isSound 349 = .ok (.istore 6, 2) := by decide +kernel
theorem dL_isSound_351 : decode cL_isSound 351 = .ok (.iconst 0, 1) := by decide +kernel
theorem dL_isSound_352 : decode cL_isSound 352 = .ok (.istore 7, 2) := by decide +kernel
theorem dL_isSound_354 : decode cL_isSound 354 = .ok (.iload 7, 2) := by decide +kernel
theorem dL_isSound_356 : decode cL_isSound 356 = .ok (.iload_n 1, 1) := by decide +kernel
theorem dL_isSound_357 : decode cL_isSound 357 = .ok (.if_icmp .ge 61, 3) := by decide +kernel
theorem dL_isSound_360 : decode cL_isSound 360 = .ok (.iload 6, 2) := by decide +kernel
theorem dL_isSound_362 : decode cL_isSound 362 = .ok (.aload_n 0, 1) := by decide +kernel
end
section
theorem dL_isSound_363 : decode cL_isSound 363 = .ok (.iload 7, 2) := by decide +kernel
theorem dL_isSound_365 : decode cL_isSound 365 = .ok (.iload 5, 2) := by decide +kernel
theorem dL_isSound_367 : decode cL_isSound 367 = .ok (.iconst 0, 1) := by decide +kernel
theorem dL_isSound_368 : decode cL_isSound 368 = .ok (.invokevirtual 25, 3) := by decide +kernel
theorem dL_isSound_371 : decode cL_isSound 371 = .ok (.iadd, 1) := by decide +kernel
theorem dL_isSound_372 : decode cL_isSound 372 = .ok (.istore 6, 2) := by decide +kernel
theorem dL_isSound_374 : decode cL_isSound 374 = .ok (.aload_n 0, 1) := by decide +kernel
theorem dL_isSound_375 : decode cL_isSound 375 = .ok (.iload 7, 2) := by decide +kernel
theorem dL_isSound_377 : decode cL_isSound 377 = .ok (.iload 5, 2) := by decide +kernel
theorem dL_isSound_379 : decode cL_isSound 379 = .ok (.iconst 1, 1) := by decide +kernel
theorem dL_isSound_380 : decode cL_isSound 380 = .ok (.invokevirtual 25, 3) := by decide +kernel
theorem dL_isSound_383 : decode cL_isSound 383 = .ok (.ifCond .lt 27, 3) := by decide +kernel
theorem dL_isSound_386 : decode cL_isSound 386 = .ok (.aload_n 0, 1) := by decide +kernel
theorem dL_isSound_387 : decode cL_isSound 387 = .ok (.iload 7, 2) := by decide +kernel
theorem dL_isSound_389 : decode cL_isSound 389 = .ok (.iload 5, 2) := by decide +kernel
theorem dL_isSound_391 : decode cL_isSound 391 = .ok (.iconst 0, 1) := by decide +kernel
theorem dL_isSound_392 : decode cL_isSound 392 = .ok (.invokevirtual 25, 3) := by decide +kernel
theorem dL_isSound_395 : decode cL_isSound 395 = .ok (.ifCond .lt 15, 3) := by decide +kernel
theorem dL_isSound_398 : decode cL_isSound 398 = .ok (.aload_n 0, 1) := by decide +kernel
theorem dL_isSound_399 : decode cL_isSound 399 = .ok (.iload 7, 2) := by decide +kernel
theorem dL_isSound_401 : decode cL_isSound 401 = .ok (.iload 5, 2) := by decide +kernel
theorem dL_isSound_403 : decode cL_isSound 403 = .ok (.iconst 2, 1) := by decide +kernel
theorem dL_isSound_404 : decode cL_isSound 404 = .ok (.invokevirtual 25, 3) := by decide +kernel
theorem dL_isSound_407 : decode cL_isSound 407 = .ok (.ifCond .ge 5, 3) := by decide +kernel
theorem dL_isSound_410 : decode cL_isSound 410 = .ok (.iconst 0, 1) := by decide +kernel
theorem dL_isSound_411 : decode cL_isSound 411 = .ok (.ireturn, 1) := by decide +kernel
theorem dL_isSound_412 : decode cL_isSound 412 = .ok (.iinc 7 1, 3) := by decide +kernel
theorem dL_isSound_415 : decode cL_isSound 415 = .ok (.goto (-61), 3) := by decide +kernel
theorem dL_isSound_418 : decode cL_isSound 418 = .ok (.aload_n 0, 1) := by decide +kernel
theorem dL_isSound_419 : decode cL_isSound 419 = .ok (.iload 5, 2) := by decide +kernel
theorem dL_isSound_421 : decode cL_isSound 421 = .ok (.iconst 0, 1) := by decide +kernel
theorem dL_isSound_422 : decode cL_isSound 422 = .ok (.invokevirtual 32, 3) := by decide +kernel
theorem dL_isSound_425 : decode cL_isSound 425 = .ok (.aload_n 0, 1) := by decide +kernel
theorem dL_isSound_426 : decode cL_isSound 426 = .ok (.iload 5, 2) := by decide +kernel
theorem dL_isSound_428 : decode cL_isSound 428 = .ok (.iconst 1, 1) := by decide +kernel
theorem dL_isSound_429 : decode cL_isSound 429 = .ok (.invokevirtual 32, 3) := by decide +kernel
theorem dL_isSound_432 : decode cL_isSound 432 = .ok (.aload_n 0, 1) := by decide +kernel
theorem dL_isSound_433 : decode cL_isSound 433 = .ok (.iload 5, 2) := by decide +kernel
theorem dL_isSound_435 : decode cL_isSound 435 = .ok (.iconst 2, 1) := by decide +kernel
theorem dL_isSound_436 : decode cL_isSound 436 = .ok (.invokevirtual 32, 3) := by decide +kernel
theorem dL_isSound_439 : decode cL_isSound 439 = .ok (.iadd, 1) := by decide +kernel
theorem dL_isSound_440 : decode cL_isSound 440 = .ok (.if_icmp .ne 15, 3) := by decide +kernel
theorem dL_isSound_443 : decode cL_isSound 443 = .ok (.aload_n 0, 1) := by decide +kernel
theorem dL_isSound_444 : decode cL_isSound 444 = .ok (.iload 5, 2) := by decide +kernel
theorem dL_isSound_446 : decode cL_isSound 446 = .ok (.iconst 1, 1) := by decide +kernel
theorem dL_isSound_447 : decode cL_isSound 447 = .ok (.invokevirtual 32, 3) := by decide +kernel
theorem dL_isSound_450 : decode cL_isSound 450 = .ok (.iload 6, 2) := by decide +kernel
theorem dL_isSound_452 : decode cL_isSound 452 = .ok (.if_icmp .eq 5, 3) := by decide +kernel
theorem dL_isSound_455 : decode cL_isSound 455 = .ok (.iconst 0, 1) := by decide +kernel
theorem dL_isSound_456 : decode cL_isSound 456 = .ok (.ireturn, 1) := by decide +kernel
theorem dL_isSound_457 : decode cL_isSound 457 = .ok (.iload_n 2, 1) := by decide +kernel
theorem dL_isSound_458 : decode cL_isSound 458 = .ok (.aload_n 0, 1) := by decide +kernel
theorem dL_isSound_459 : decode cL_isSound 459 = .ok (.iload 5, 2) := by decide +kernel
theorem dL_isSound_461 : decode cL_isSound 461 = .ok (.iconst 2, 1) := by decide +kernel
theorem dL_isSound_462 : decode cL_isSound 462 = .ok (.invokevirtual 32, 3) := by decide +kernel
theorem dL_isSound_465 : decode cL_isSound 465 = .ok (.iadd, 1) := by decide +kernel
theorem dL_isSound_466 : decode cL_isSound 466 = .ok (.istore_n 2, 1) := by decide +kernel
theorem dL_isSound_467 : decode cL_isSound 467 = .ok (.iinc 5 1, 3) := by decide +kernel
theorem dL_isSound_470 : decode cL_isSound 470 = .ok (.goto (-128), 3) := by decide +kernel
theorem dL_isSound_473 : decode cL_isSound 473 = .ok (.iconst 0, 1) := by decide +kernel
theorem dL_isSound_474 : decode cL_isSound 474 = .ok (.istore 5, 2) := by decide +kernel
theorem dL_isSound_476 : decode cL_isSound 476 = .ok (.iconst 0, 1) := by decide +kernel
theorem dL_isSound_477 : decode cL_isSound 477 = .ok (.istore 6, 2) := by decide +kernel
theorem dL_isSound_479 : decode cL_isSound 479 = .ok (.iconst 0, 1) := by decide +kernel
theorem dL_isSound_480 : decode cL_isSound 480 = .ok (.istore 7, 2) := by decide +kernel
theorem dL_isSound_482 : decode cL_isSound 482 = .ok (.iconst 0, 1) := by decide +kernel
theorem dL_isSound_483 : decode cL_isSound 483 = .ok (.istore 8, 2) := by decide +kernel
theorem dL_isSound_485 : decode cL_isSound 485 = .ok (.iload 8, 2) := by decide +kernel
theorem dL_isSound_487 : decode cL_isSound 487 = .ok (.iload_n 1, 1) := by decide +kernel
theorem dL_isSound_488 : decode cL_isSound 488 = .ok (.if_icmp .ge 137, 3) := by decide +kernel
theorem dL_isSound_491 : decode cL_isSound 491 = .ok (.iload 5, 2) := by decide +kernel
theorem dL_isSound_493 : decode cL_isSound 493 = .ok (.aload_n 0, 1) := by decide +kernel
theorem dL_isSound_494 : decode cL_isSound 494 = .ok (.iload 8, 2) := by decide +kernel
theorem dL_isSound_496 : decode cL_isSound 496 = .ok (.bipush 8, 2) := by decide +kernel
theorem dL_isSound_498 : decode cL_isSound 498 = .ok (.invokevirtual 18, 3) := by decide +kernel
theorem dL_isSound_501 : decode cL_isSound 501 = .ok (.iadd, 1) := by decide +kernel
theorem dL_isSound_502 : decode cL_isSound 502 = .ok (.istore 5, 2) := by decide +kernel
theorem dL_isSound_504 : decode cL_isSound 504 = .ok (.iload 6, 2) := by decide +kernel
theorem dL_isSound_506 : decode cL_isSound 506 = .ok (.aload_n 0, 1) := by decide +kernel
theorem dL_isSound_507 : decode cL_isSound 507 = .ok (.iload 8, 2) := by decide +kernel
theorem dL_isSound_509 : decode cL_isSound 509 = .ok (.bipush 7, 2) := by decide +kernel
theorem dL_isSound_511 : decode cL_isSound 511 = .ok (.invokevirtual 18, 3) := by decide +kernel
theorem dL_isSound_514 : decode cL_isSound 514 = .ok (.iadd, 1) := by decide +kernel
theorem dL_isSound_515 : decode cL_isSound 515 = .ok (.istore 6, 2) := by decide +kernel
theorem dL_isSound_517 : decode cL_isSound 517 = .ok (.iload 7, 2) := by decide +kernel
theorem dL_isSound_519 : decode cL_isSound 519 = .ok (.aload_n 0, 1) := by decide +kernel
theorem dL_isSound_520 : decode cL_isSound 520 = .ok (.iload 8, 2) := by decide +kernel
theorem dL_isSound_522 : decode cL_isSound 522 = .ok (.bipush 9, 2) := by decide +kernel
theorem dL_isSound_524 : decode cL_isSound 524 = .ok (.invokevirtual 18, 3) := by decide +kernel
theorem dL_isSound_527 : decode cL_isSound 527 = .ok (.iadd, 1) := by decide +kernel
theorem dL_isSound_528 : decode cL_isSound 528 = .ok (.istore 7, 2) := by decide +kernel
theorem dL_isSound_530 : decode cL_isSound 530 = .ok (.aload_n 0, 1) := by decide +kernel
theorem dL_isSound_531 : decode cL_isSound 531 = .ok (.iload 8, 2) := by decide +kernel
theorem dL_isSound_533 : decode cL_isSound 533 = .ok (.iconst 4, 1) := by decide +kernel
theorem dL_isSound_534 : decode cL_isSound 534 = .ok (.invokevirtual 18, 3) := by decide +kernel
theorem dL_isSound_537 : decode cL_isSound 537 = .ok (.aload_n 0, 1) := by decide +kernel
theorem dL_isSound_538 : decode cL_isSound 538 = .ok (.iload 8, 2) := by decide +kernel
theorem dL_isSound_540 : decode cL_isSound 540 = .ok (.iconst 5, 1) := by decide +kernel
theorem dL_isSound_541 : decode cL_isSound 541 = .ok (.invokevirtual 18, 3) := by decide +kernel
theorem dL_isSound_544 : decode cL_isSound 544 = .ok (.iadd, 1) := by decide +kernel
theorem dL_isSound_545 : decode cL_isSound 545 = .ok (.sipush 9999, 3) := by decide +kernel
theorem dL_isSound_548 : decode cL_isSound 548 = .ok (.if_icmp .gt 69, 3) := by decide +kernel
theorem dL_isSound_551 : decode cL_isSound 551 = .ok (.aload_n 0, 1) := by decide +kernel
theorem dL_isSound_552 : decode cL_isSound 552 = .ok (.iload 8, 2) := by decide +kernel
theorem dL_isSound_554 : decode cL_isSound 554 = .ok (.bipush 6, 2) := by decide +kernel
theorem dL_isSound_556 : decode cL_isSound 556 = .ok (.invokevirtual 18, 3) := by decide +kernel
theorem dL_isSound_559 : decode cL_isSound 559 = .ok (.sipush 10999, 3) := by decide +kernel
theorem dL_isSound_562 : decode cL_isSound 562 = .ok (.if_icmp .gt 55, 3) := by decide +kernel
theorem dL_isSound_565 : decode cL_isSound 565 = .ok (.aload_n 0, 1) := by decide +kernel
theorem dL_isSound_566 : decode cL_isSound 566 = .ok (.iload 8, 2) := by decide +kernel
theorem dL_isSound_568 : decode cL_isSound 568 = .ok (.bipush 10, 2) := by decide +kernel
theorem dL_isSound_570 : decode cL_isSound 570 = .ok (.invokevirtual 18, 3) := by decide +kernel
theorem dL_isSound_573 : decode cL_isSound 573 = .ok (.aload_n 0, 1) := by decide +kernel
theorem dL_isSound_574 : decode cL_isSound 574 = .ok (.iload 8, 2) := by decide +kernel
theorem dL_isSound_576 : decode cL_isSound 576 = .ok (.bipush 7, 2) := by decide +kernel
theorem dL_isSound_578 : decode cL_isSound 578 = .ok (.invokevirtual 18, 3) := by decide +kernel
theorem dL_isSound_581 : decode cL_isSound 581 = .ok (.if_icmp .gt 36, 3) := by decide +kernel
theorem dL_isSound_584 : decode cL_isSound 584 = .ok (.aload_n 0, 1) := by decide +kernel
theorem dL_isSound_585 : decode cL_isSound 585 = .ok (.iload 8, 2) := by decide +kernel
theorem dL_isSound_587 : decode cL_isSound 587 = .ok (.iconst 1, 1) := by decide +kernel
theorem dL_isSound_588 : decode cL_isSound 588 = .ok (.invokevirtual 18, 3) := by decide +kernel
theorem dL_isSound_591 : decode cL_isSound 591 = .ok (.ifCond .ne 7, 3) := by decide +kernel
theorem dL_isSound_594 : decode cL_isSound 594 = .ok (.iconst 1, 1) := by decide +kernel
theorem dL_isSound_595 : decode cL_isSound 595 = .ok (.goto 4, 3) := by decide +kernel
theorem dL_isSound_598 : decode cL_isSound 598 = .ok (.iconst 0, 1) := by decide +kernel
theorem dL_isSound_599 : decode cL_isSound 599 = .ok (.aload_n 0, 1) := by decide +kernel
theorem dL_isSound_600 : decode cL_isSound 600 = .ok (.iload 8, 2) := by decide +kernel
theorem dL_isSound_602 : decode cL_isSound 602 = .ok (.iconst 0, 1) := by decide +kernel
theorem dL_isSound_603 : decode cL_isSound 603 = .ok (.invokevirtual 18, 3) := by decide +kernel
theorem dL_isSound_606 : decode cL_isSound 606 = .ok (.ifCond .ne 7, 3) := by decide +kernel
theorem dL_isSound_609 : decode cL_isSound 609 = .ok (.iconst 1, 1) := by decide +kernel
theorem dL_isSound_610 : decode cL_isSound 610 = .ok (.goto 4, 3) := by decide +kernel
theorem dL_isSound_613 : decode cL_isSound 613 = .ok (.iconst 0, 1) := by decide +kernel
theorem dL_isSound_614 : decode cL_isSound 614 = .ok (.if_icmp .eq 5, 3) := by decide +kernel
theorem dL_isSound_617 : decode cL_isSound 617 = .ok (.iconst 0, 1) := by decide +kernel
theorem dL_isSound_618 : decode cL_isSound 618 = .ok (.ireturn, 1) := by decide +kernel
theorem dL_isSound_619 : decode cL_isSound 619 = .ok (.iinc 8 1, 3) := by decide +kernel
theorem dL_isSound_622 : decode cL_isSound 622 = .ok (.goto (-137), 3) := by decide +kernel
theorem dL_isSound_625 : decode cL_isSound 625 = .ok (.iload 5, 2) := by decide +kernel
theorem dL_isSound_627 : decode cL_isSound 627 = .ok (.iload_n 2, 1) := by decide +kernel
theorem dL_isSound_628 : decode cL_isSound 628 = .ok (.if_icmp .ne 69, 3) := by decide +kernel
theorem dL_isSound_631 : decode cL_isSound 631 = .ok (.iload 6, 2) := by decide +kernel
theorem dL_isSound_633 : decode cL_isSound 633 = .ok (.aload_n 0, 1) := by decide +kernel
theorem dL_isSound_634 : decode cL_isSound 634 = .ok (.bipush 8, 2) := by decide +kernel
theorem dL_isSound_636 : decode cL_isSound 636 = .ok (.invokevirtual 12, 3) := by decide +kernel
theorem dL_isSound_639 : decode cL_isSound 639 = .ok (.if_icmp .ne 58, 3) := by decide +kernel
theorem dL_isSound_642 : decode cL_isSound 642 = .ok (.iload 7, 2) := by decide +kernel
theorem dL_isSound_644 : decode cL_isSound 644 = .ok (.aload_n 0, 1) := by decide +kernel
theorem dL_isSound_645 : decode cL_isSound 645 = .ok (.bipush 9, 2) := by decide +kernel
theorem dL_isSound_647 : decode cL_isSound 647 = .ok (.invokevirtual 12, 3) := by decide +kernel
theorem dL_isSound_650 : decode cL_isSound 650 = .ok (.if_icmp .ne 47, 3) := by decide +kernel
theorem dL_isSound_653 : decode cL_isSound 653 = .ok (.iload_n 3, 1) := by decide +kernel
theorem dL_isSound_654 : decode cL_isSound 654 = .ok (.aload_n 0, 1) := by decide +kernel
theorem dL_isSound_655 : decode cL_isSound 655 = .ok (.bipush 10, 2) := by decide +kernel
theorem dL_isSound_657 : decode cL_isSound 657 = .ok (.invokevirtual 12, 3) := by decide +kernel
theorem dL_isSound_660 : decode cL_isSound 660 = .ok (.if_icmp .ne 37, 3) := by decide +kernel
theorem dL_isSound_663 : decode cL_isSound 663 = .ok (.iload 4, 2) := by decide +kernel
theorem dL_isSound_665 : decode cL_isSound 665 = .ok (.aload_n 0, 1) := by decide +kernel
theorem dL_isSound_666 : decode cL_isSound 666 = .ok (.bipush 11, 2) := by decide +kernel
theorem dL_isSound_668 : decode cL_isSound 668 = .ok (.invokevirtual 12, 3) := by decide +kernel
theorem dL_isSound_671 : decode cL_isSound 671 = .ok (.if_icmp .ne 26, 3) := by decide +kernel
theorem dL_isSound_674 : decode cL_isSound 674 = .ok (.aload_n 0, 1) := by decide +kernel
theorem dL_isSound_675 : decode cL_isSound 675 = .ok (.iconst 0, 1) := by decide +kernel
theorem dL_isSound_676 : decode cL_isSound 676 = .ok (.invokevirtual 12, 3) := by decide +kernel
theorem dL_isSound_679 : decode cL_isSound 679 = .ok (.aload_n 0, 1) := by decide +kernel
theorem dL_isSound_680 : decode cL_isSound 680 = .ok (.bipush 12, 2) := by decide +kernel
theorem dL_isSound_682 : decode cL_isSound 682 = .ok (.invokevirtual 12, 3) := by decide +kernel
theorem dL_isSound_685 : decode cL_isSound 685 = .ok (.iadd, 1) := by decide +kernel
theorem dL_isSound_686 : decode cL_isSound 686 = .ok (.bipush 12, 2) := by decide +kernel
theorem dL_isSound_688 : decode cL_isSound 688 = .ok (.irem, 1) := by decide +kernel
theorem dL_isSound_689 : decode cL_isSound 689 = .ok (.iconst 4, 1) := by decide +kernel
theorem dL_isSound_690 : decode cL_isSound 690 = .ok (.if_icmp .ne 7, 3) := by decide +kernel
theorem dL_isSound_693 : decode cL_isSound 693 = .ok (.iconst 1, 1) := by decide +kernel
theorem dL_isSound_694 : decode cL_isSound 694 = .ok (.goto 4, 3) := by decide +kernel
theorem dL_isSound_697 : decode cL_isSound 697 = .ok (.iconst 0, 1) := by decide +kernel
theorem dL_isSound_698 : decode cL_isSound 698 = .ok (.ireturn, 1) := by decide +kernel
theorem dL_isPlanned_0 : decode cL_isPlanned 0 = .ok (.iload_n 1, 1) := by decide +kernel
theorem dL_isPlanned_1 : decode cL_isPlanned 1 = .ok (.aload_n 0, 1) := by decide +kernel
theorem dL_isPlanned_2 : decode cL_isPlanned 2 = .ok (.iconst 2, 1) := by decide +kernel
theorem dL_isPlanned_3 : decode cL_isPlanned 3 = .ok (.invokevirtual 12, 3) := by decide +kernel
theorem dL_isPlanned_6 : decode cL_isPlanned 6 = .ok (.invokestatic 41, 3) := by decide +kernel
theorem dL_isPlanned_9 : decode cL_isPlanned 9 = .ok (.istore_n 2, 1) := by decide +kernel
theorem dL_isPlanned_10 : decode cL_isPlanned 10 = .ok (.iload_n 1, 1) := by decide +kernel
theorem dL_isPlanned_11 : decode cL_isPlanned 11 = .ok (.iconst 3, 1) := by decide +kernel
theorem dL_isPlanned_12 : decode cL_isPlanned 12 = .ok (.ishr, 1) := by decide +kernel
theorem dL_isPlanned_13 : decode cL_isPlanned 13 = .ok (.iconst 3, 1) := by decide +kernel
theorem dL_isPlanned_14 : decode cL_isPlanned 14 = .ok (.invokestatic 41, 3) := by decide +kernel
theorem dL_isPlanned_17 : decode cL_isPlanned 17 = .ok (.istore_n 3, 1) := by decide +kernel
theorem dL_isPlanned_18 : decode cL_isPlanned 18 = .ok (.aload_n 0, 1) := by decide +kernel
theorem dL_isPlanned_19 : decode cL_isPlanned 19 = .ok (.iload_n 2, 1) := by decide +kernel
theorem dL_isPlanned_20 : decode cL_isPlanned 20 = .ok (.bipush 7, 2) := by decide +kernel
theorem dL_isPlanned_22 : decode cL_isPlanned 22 = .ok (.invokevirtual 18, 3) := by decide +kernel
theorem dL_isPlanned_25 : decode cL_isPlanned 25 = .ok (.istore 4, 2) := by decide +kernel
theorem dL_isPlanned_27 : decode cL_isPlanned 27 = .ok (.iload 4, 2) := by decide +kernel
theorem dL_isPlanned_29 : decode cL_isPlanned 29 = .ok (.ifCond .le 30, 3) := by decide +kernel
theorem dL_isPlanned_32 : decode cL_isPlanned 32 = .ok (.iconst 1, 1) := by decide +kernel
theorem dL_isPlanned_33 : decode cL_isPlanned 33 = .ok (.iload_n 1, 1) := by decide +kernel
theorem dL_isPlanned_34 : decode cL_isPlanned 34 = .ok (.iconst 5, 1) := by decide +kernel
theorem dL_isPlanned_35 : decode cL_isPlanned 35 = .ok (.ishr, 1) := by decide +kernel
theorem dL_isPlanned_36 : decode cL_isPlanned 36 = .ok (.iload 4, 2) := by decide +kernel
theorem dL_isPlanned_38 : decode cL_isPlanned 38 = .ok (.sipush 9999, 3) := by decide +kernel
theorem dL_isPlanned_41 : decode cL_isPlanned 41 = .ok (.if_icmp .ge 8, 3) := by decide +kernel
theorem dL_isPlanned_44 : decode cL_isPlanned 44 = .ok (.iload 4, 2) := by decide +kernel
theorem dL_isPlanned_46 : decode cL_isPlanned 46 = .ok (.goto 6, 3) := by decide +kernel
theorem dL_isPlanned_49 : decode cL_isPlanned 49 = .ok (.sipush 9999, 3) := by decide +kernel
theorem dL_isPlanned_52 : decode cL_isPlanned 52 = .ok (.invokestatic 41, 3) := by decide +kernel
theorem dL_isPlanned_55 : decode cL_isPlanned 55 = .ok (.iadd, 1) := by decide +kernel
theorem dL_isPlanned_56 : decode cL_isPlanned 56 = .ok (.goto 14, 3) := by decide +kernel
theorem dL_isPlanned_59 : decode cL_isPlanned 59 = .ok (.iconst 1, 1) := by decide +kernel
theorem dL_isPlanned_60 : decode cL_isPlanned 60 = .ok (.iload_n 1, 1) := by decide +kernel
theorem dL_isPlanned_61 : decode cL_isPlanned 61 = .ok (.iconst 5, 1) := by decide +kernel
theorem dL_isPlanned_62 : decode cL_isPlanned 62 = .ok (.ishr, 1) := by decide +kernel
theorem dL_isPlanned_63 : decode cL_isPlanned 63 = .ok (.sipush 500, 3) := by decide +kernel
theorem dL_isPlanned_66 : decode cL_isPlanned 66 = .ok (.invokestatic 41, 3) := by decide +kernel
theorem dL_isPlanned_69 : decode cL_isPlanned 69 = .ok (.iadd, 1) := by decide +kernel
theorem dL_isPlanned_70 : decode cL_isPlanned 70 = .ok (.istore 5, 2) := by decide +kernel
theorem dL_isPlanned_72 : decode cL_isPlanned 72 = .ok (.aload_n 0, 1) := by decide +kernel
theorem dL_isPlanned_73 : decode cL_isPlanned 73 = .ok (.invokestatic 44, 3) := by decide +kernel
theorem dL_isPlanned_76 : decode cL_isPlanned 76 = .ok (.lstore 6, 2) := by decide +kernel
theorem dL_isPlanned_78 : decode cL_isPlanned 78 = .ok (.aload_n 0, 1) := by decide +kernel
theorem dL_isPlanned_79 : decode cL_isPlanned 79 = .ok (.iload_n 2, 1) := by decide +kernel
theorem dL_isPlanned_80 : decode cL_isPlanned 80 = .ok (.iload 5, 2) := by decide +kernel
theorem dL_isPlanned_82 : decode cL_isPlanned 82 = .ok (.iload_n 3, 1) := by decide +kernel
theorem dL_isPlanned_83 : decode cL_isPlanned 83 = .ok (.iconst 0, 1) := by decide +kernel
theorem dL_isPlanned_84 : decode cL_isPlanned 84 = .ok (.invokevirtual 48, 3) := by decide +kernel
theorem dL_isPlanned_87 : decode cL_isPlanned 87 = .ok (.istore 8, 2) := by decide +kernel
theorem dL_isPlanned_89 : decode cL_isPlanned 89 = .ok (.iload 8, 2) := by decide +kernel
theorem dL_isPlanned_91 : decode cL_isPlanned 91 = .ok (.ifCond .ge 55, 3) := by decide +kernel
theorem dL_isPlanned_94 : decode cL_isPlanned 94 = .ok (.iload 8, 2) := by decide +kernel
theorem dL_isPlanned_96 : decode cL_isPlanned 96 = .ok (.bipush (-4), 2) := by decide +kernel
theorem dL_isPlanned_98 : decode cL_isPlanned 98 = .ok (.if_icmp .ne 46, 3) := by decide +kernel
theorem dL_isPlanned_101 : decode cL_isPlanned 101 = .ok (.aload_n 0, 1) := by decide +kernel
theorem dL_isPlanned_102 : decode cL_isPlanned 102 = .ok (.iload_n 2, 1) := by decide +kernel
theorem dL_isPlanned_103 : decode cL_isPlanned 103 = .ok (.iload 5, 2) := by decide +kernel
theorem dL_isPlanned_105 : decode cL_isPlanned 105 = .ok (.iload_n 3, 1) := by decide +kernel
theorem dL_isPlanned_106 : decode cL_isPlanned 106 = .ok (.invokevirtual 52, 3) := by decide +kernel
theorem dL_isPlanned_109 : decode cL_isPlanned 109 = .ok (.bipush (-4), 2) := by decide +kernel
theorem dL_isPlanned_111 : decode cL_isPlanned 111 = .ok (.if_icmp .ne 33, 3) := by decide +kernel
theorem dL_isPlanned_114 : decode cL_isPlanned 114 = .ok (.aload_n 0, 1) := by decide +kernel
theorem dL_isPlanned_115 : decode cL_isPlanned 115 = .ok (.invokestatic 44, 3) := by decide +kernel
theorem dL_isPlanned_118 : decode cL_isPlanned 118 = .ok (.lload 6, 2) := by decide +kernel
theorem dL_isPlanned_120 : decode cL_isPlanned 120 = .ok (.lcmp, 1) := by decide +kernel
theorem dL_isPlanned_121 : decode cL_isPlanned 121 = .ok (.ifCond .ne 23, 3) := by decide +kernel
theorem dL_isPlanned_124 : decode cL_isPlanned 124 = .ok (.iload_n 3, 1) := by decide +kernel
theorem dL_isPlanned_125 : decode cL_isPlanned 125 = .ok (.iconst 2, 1) := by decide +kernel
theorem dL_isPlanned_126 : decode cL_isPlanned 126 = .ok (.if_icmp .eq 14, 3) := by decide +kernel
theorem dL_isPlanned_129 : decode cL_isPlanned 129 = .ok (.aload_n 0, 1) := by decide +kernel
theorem dL_isPlanned_130 : decode cL_isPlanned 130 = .ok (.iload_n 2, 1) := by decide +kernel
theorem dL_isPlanned_131 : decode cL_isPlanned 131 = .ok (.iconst 0, 1) := by decide +kernel
theorem dL_isPlanned_132 : decode cL_isPlanned 132 = .ok (.invokevirtual 18, 3) := by decide +kernel
theorem dL_isPlanned_135 : decode cL_isPlanned 135 = .ok (.iload 5, 2) := by decide +kernel
theorem dL_isPlanned_137 : decode cL_isPlanned 137 = .ok (.if_icmp .ge 7, 3) := by decide +kernel
theorem dL_isPlanned_140 : decode cL_isPlanned 140 = .ok (.iconst 1, 1) := by decide +kernel
theorem dL_isPlanned_141 : decode cL_isPlanned 141 = .ok (.goto 4, 3) := by decide +kernel
theorem dL_isPlanned_144 : decode cL_isPlanned 144 = .ok (.iconst 0, 1) := by decide +kernel
theorem dL_isPlanned_145 : decode cL_isPlanned 145 = .ok (.ireturn, 1) := by decide +kernel
theorem dL_isPlanned_146 : decode cL_isPlanned 146 = .ok (.iconst 0, 1) := by decide +kernel
theorem dL_isPlanned_147 : decode cL_isPlanned 147 = .ok (.istore 9, 2) := by decide +kernel
theorem dL_isPlanned_149 : decode cL_isPlanned 149 = .ok (.iconst 0, 1) := by decide +kernel
theorem dL_isPlanned_150 : decode cL_isPlanned 150 = .ok (.istore 10, 2) := by decide +kernel
theorem dL_isPlanned_152 : decode cL_isPlanned 152 = .ok (.iload 10, 2) := by decide +kernel
theorem dL_isPlanned_154 : decode cL_isPlanned 154 = .ok (.iconst 3, 1) := by decide +kernel
theorem dL_isPlanned_155 : decode cL_isPlanned 155 = .ok (.if_icmp .ge 73, 3) := by decide +kernel
theorem dL_isPlanned_158 : decode cL_isPlanned 158 = .ok (.aload_n 0, 1) := by decide +kernel
theorem dL_isPlanned_159 : decode cL_isPlanned 159 = .ok (.iload_n 2, 1) := by decide +kernel
theorem dL_isPlanned_160 : decode cL_isPlanned 160 = .ok (.iload 5, 2) := by decide +kernel
theorem dL_isPlanned_162 : decode cL_isPlanned 162 = .ok (.iload_n 3, 1) := by decide +kernel
theorem dL_isPlanned_163 : decode cL_isPlanned 163 = .ok (.iconst 1, 1) := by decide +kernel
theorem dL_isPlanned_164 : decode cL_isPlanned 164 = .ok (.iload 10, 2) := by decide +kernel
theorem dL_isPlanned_166 : decode cL_isPlanned 166 = .ok (.iadd, 1) := by decide +kernel
theorem dL_isPlanned_167 : decode cL_isPlanned 167 = .ok (.invokevirtual 48, 3) := by decide +kernel
theorem dL_isPlanned_170 : decode cL_isPlanned 170 = .ok (.istore 11, 2) := by decide +kernel
theorem dL_isPlanned_172 : decode cL_isPlanned 172 = .ok (.iload 9, 2) := by decide +kernel
theorem dL_isPlanned_174 : decode cL_isPlanned 174 = .ok (.iload 11, 2) := by decide +kernel
theorem dL_isPlanned_176 : decode cL_isPlanned 176 = .ok (.iadd, 1) := by decide +kernel
theorem dL_isPlanned_177 : decode cL_isPlanned 177 = .ok (.istore 9, 2) := by decide +kernel
theorem dL_isPlanned_179 : decode cL_isPlanned 179 = .ok (.iload 11, 2) := by decide +kernel
theorem dL_isPlanned_181 : decode cL_isPlanned 181 = .ok (.ifCond .lt 39, 3) := by decide +kernel
theorem dL_isPlanned_184 : decode cL_isPlanned 184 = .ok (.iload 11, 2) := by decide +kernel
theorem dL_isPlanned_186 : decode cL_isPlanned 186 = .ok (.aload_n 0, 1) := by decide +kernel
theorem dL_isPlanned_187 : decode cL_isPlanned 187 = .ok (.iload_n 2, 1) := by decide +kernel
theorem dL_isPlanned_188 : decode cL_isPlanned 188 = .ok (.iload 10, 2) := by decide +kernel
theorem dL_isPlanned_190 : decode cL_isPlanned 190 = .ok (.iconst 0, 1) := by decide +kernel
theorem dL_isPlanned_191 : decode cL_isPlanned 191 = .ok (.invokevirtual 25, 3) := by decide +kernel
theorem dL_isPlanned_194 : decode cL_isPlanned 194 = .ok (.if_icmp .gt 26, 3) := by decide +kernel
theorem dL_isPlanned_197 : decode cL_isPlanned 197 = .ok (.iload 11, 2) := by decide +kernel
theorem dL_isPlanned_199 : decode cL_isPlanned 199 = .ok (.aload_n 0, 1) := by decide +kernel
theorem dL_isPlanned_200 : decode cL_isPlanned 200 = .ok (.iload_n 2, 1) := by decide +kernel
theorem dL_isPlanned_201 : decode cL_isPlanned 201 = .ok (.iload 10, 2) := by decide +kernel
theorem dL_isPlanned_203 : decode cL_isPlanned 203 = .ok (.iconst 1, 1) := by decide +kernel
theorem dL_isPlanned_204 : decode cL_isPlanned 204 = .ok (.invokevirtual 25, 3) := by decide +kernel
theorem dL_isPlanned_207 : decode cL_isPlanned 207 = .ok (.if_icmp .gt 13, 3) := by decide +kernel
theorem dL_isPlanned_210 : decode cL_isPlanned 210 = .ok (.iload_n 3, 1) := by decide +kernel
theorem dL_isPlanned_211 : decode cL_isPlanned 211 = .ok (.iconst 2, 1) := by decide +kernel
theorem dL_isPlanned_212 : decode cL_isPlanned 212 = .ok (.if_icmp .ge 10, 3) := by decide +kernel
theorem dL_isPlanned_215 : decode cL_isPlanned 215 = .ok (.iload 11, 2) := by decide +kernel
theorem dL_isPlanned_217 : decode cL_isPlanned 217 = .ok (.ifCond .le 5, 3) := by decide +kernel
theorem dL_isPlanned_220 : decode cL_isPlanned 220 = .ok (.iconst 0, 1) := by decide +kernel
theorem dL_isPlanned_221 : decode cL_isPlanned 221 = .ok (.ireturn, 1) := by decide +kernel
theorem dL_isPlanned_222 : decode cL_isPlanned 222 = .ok (.iinc 10 1, 3) := by decide +kernel
theorem dL_isPlanned_225 : decode cL_isPlanned 225 = .ok (.goto (-73), 3) := by decide +kernel
theorem dL_isPlanned_228 : decode cL_isPlanned 228 = .ok (.aload_n 0, 1) := by decide +kernel
theorem dL_isPlanned_229 : decode cL_isPlanned 229 = .ok (.iload_n 2, 1) := by decide +kernel
theorem dL_isPlanned_230 : decode cL_isPlanned 230 = .ok (.iload 5, 2) := by decide +kernel
theorem dL_isPlanned_232 : decode cL_isPlanned 232 = .ok (.iload_n 3, 1) := by decide +kernel
theorem dL_isPlanned_233 : decode cL_isPlanned 233 = .ok (.iconst 4, 1) := by decide +kernel
theorem dL_isPlanned_234 : decode cL_isPlanned 234 = .ok (.invokevirtual 48, 3) := by decide +kernel
theorem dL_isPlanned_237 : decode cL_isPlanned 237 = .ok (.istore 10, 2) := by decide +kernel
theorem dL_isPlanned_239 : decode cL_isPlanned 239 = .ok (.aload_n 0, 1) := by decide +kernel
theorem dL_isPlanned_240 : decode cL_isPlanned 240 = .ok (.iload_n 2, 1) := by decide +kernel
theorem dL_isPlanned_241 : decode cL_isPlanned 241 = .ok (.iload 5, 2) := by decide +kernel
theorem dL_isPlanned_243 : decode cL_isPlanned 243 = .ok (.iload_n 3, 1) := by decide +kernel
theorem dL_isPlanned_244 : decode cL_isPlanned 244 = .ok (.iconst 5, 1) := by decide +kernel
theorem dL_isPlanned_245 : decode cL_isPlanned 245 = .ok (.invokevirtual 48, 3) := by decide +kernel
theorem dL_isPlanned_248 : decode cL_isPlanned 248 = .ok (.istore 11, 2) := by decide +kernel
theorem dL_isPlanned_250 : decode cL_isPlanned 250 = .ok (.iload 8, 2) := by decide +kernel
theorem dL_isPlanned_252 : decode cL_isPlanned 252 = .ok (.iload 9, 2) := by decide +kernel
theorem dL_isPlanned_254 : decode cL_isPlanned 254 = .ok (.iadd, 1) := by decide +kernel
theorem dL_isPlanned_255 : decode cL_isPlanned 255 = .ok (.iload 5, 2) := by decide +kernel
theorem dL_isPlanned_257 : decode cL_isPlanned 257 = .ok (.if_icmp .ne 96, 3) := by decide +kernel
theorem dL_isPlanned_260 : decode cL_isPlanned 260 = .ok (.iload 8, 2) := by decide +kernel
theorem dL_isPlanned_262 : decode cL_isPlanned 262 = .ok (.ifCond .ne 7, 3) := by decide +kernel
theorem dL_isPlanned_265 : decode cL_isPlanned 265 = .ok (.iconst 1, 1) := by decide +kernel
theorem dL_isPlanned_266 : decode cL_isPlanned 266 = .ok (.goto 4, 3) := by decide +kernel
theorem dL_isPlanned_269 : decode cL_isPlanned 269 = .ok (.iconst 0, 1) := by decide +kernel
theorem dL_isPlanned_270 : decode cL_isPlanned 270 = .ok (.iload 10, 2) := by decide +kernel
theorem dL_isPlanned_272 : decode cL_isPlanned 272 = .ok (.ifCond .ne 7, 3) := by decide +kernel
theorem dL_isPlanned_275 : decode cL_isPlanned 275 = .ok (.iconst 1, 1) := by decide +kernel
theorem dL_isPlanned_276 : decode cL_isPlanned 276 = .ok (.goto 4, 3) := by decide +kernel
theorem dL_isPlanned_279 : decode cL_isPlanned 279 = .ok (.iconst 0, 1) := by decide +kernel
theorem dL_isPlanned_280 : decode cL_isPlanned 280 = .ok (.if_icmp .ne 73, 3) := by decide +kernel
theorem dL_isPlanned_283 : decode cL_isPlanned 283 = .ok (.iload 10, 2) := by decide +kernel
theorem dL_isPlanned_285 : decode cL_isPlanned 285 = .ok (.ifCond .ne 7, 3) := by decide +kernel
theorem dL_isPlanned_288 : decode cL_isPlanned 288 = .ok (.iconst 1, 1) := by decide +kernel
theorem dL_isPlanned_289 : decode cL_isPlanned 289 = .ok (.goto 4, 3) := by decide +kernel
theorem dL_isPlanned_292 : decode cL_isPlanned 292 = .ok (.iconst 0, 1) := by decide +kernel
theorem dL_isPlanned_293 : decode cL_isPlanned 293 = .ok (.iload 11, 2) := by decide +kernel
theorem dL_isPlanned_295 : decode cL_isPlanned 295 = .ok (.bipush (-5), 2) := by decide +kernel
theorem dL_isPlanned_297 : decode cL_isPlanned 297 = .ok (.if_icmp .ne 7, 3) := by decide +kernel
theorem dL_isPlanned_300 : decode cL_isPlanned 300 = .ok (.iconst 1, 1) := by decide +kernel
theorem dL_isPlanned_301 : decode cL_isPlanned 301 = .ok (.goto 4, 3) := by decide +kernel
theorem dL_isPlanned_304 : decode cL_isPlanned 304 = .ok (.iconst 0, 1) := by decide +kernel
theorem dL_isPlanned_305 : decode cL_isPlanned 305 = .ok (.if_icmp .ne 48, 3) := by decide +kernel
theorem dL_isPlanned_308 : decode cL_isPlanned 308 = .ok (.iload 11, 2) := by decide +kernel
theorem dL_isPlanned_310 : decode cL_isPlanned 310 = .ok (.ifCond .lt 33, 3) := by decide +kernel
theorem dL_isPlanned_313 : decode cL_isPlanned 313 = .ok (.iload_n 3, 1) := by decide +kernel
theorem dL_isPlanned_314 : decode cL_isPlanned 314 = .ok (.iconst 1, 1) := by decide +kernel
theorem dL_isPlanned_315 : decode cL_isPlanned 315 = .ok (.if_icmp .ne 17, 3) := by decide +kernel
theorem dL_isPlanned_318 : decode cL_isPlanned 318 = .ok (.iload 11, 2) := by decide +kernel
theorem dL_isPlanned_320 : decode cL_isPlanned 320 = .ok (.aload_n 0, 1) := by decide +kernel
theorem dL_isPlanned_321 : decode cL_isPlanned 321 = .ok (.iload_n 2, 1) := by decide +kernel
theorem dL_isPlanned_322 : decode cL_isPlanned 322 = .ok (.iconst 3, 1) := by decide +kernel
theorem dL_isPlanned_323 : decode cL_isPlanned 323 = .ok (.invokevirtual 18, 3) := by decide +kernel
theorem dL_isPlanned_326 : decode cL_isPlanned 326 = .ok (.if_icmp .eq 17, 3) := by decide +kernel
theorem dL_isPlanned_329 : decode cL_isPlanned 329 = .ok (.goto 24, 3) := by decide +kernel
theorem dL_isPlanned_332 : decode cL_isPlanned 332 = .ok (.iload 11, 2) := by decide +kernel
theorem dL_isPlanned_334 : decode cL_isPlanned 334 = .ok (.aload_n 0, 1) := by decide +kernel
theorem dL_isPlanned_335 : decode cL_isPlanned 335 = .ok (.iload_n 2, 1) := by decide +kernel
theorem dL_isPlanned_336 : decode cL_isPlanned 336 = .ok (.iconst 2, 1) := by decide +kernel
theorem dL_isPlanned_337 : decode cL_isPlanned 337 = .ok (.invokevirtual 18, 3) := by decide +kernel
theorem dL_isPlanned_340 : decode cL_isPlanned 340 = .ok (.if_icmp .ne 13, 3) := by decide +kernel
theorem dL_isPlanned_343 : decode cL_isPlanned 343 = .ok (.aload_n 0, 1) := by decide +kernel
theorem dL_isPlanned_344 : decode cL_isPlanned 344 = .ok (.invokestatic 44, 3) := by decide +kernel
theorem dL_isPlanned_347 : decode cL_isPlanned 347 = .ok (.lload 6, 2) := by decide +kernel
theorem dL_isPlanned_349 : decode cL_isPlanned 349 = .ok (.lcmp, 1) := by decide +kernel
theorem dL_isPlanned_350 : decode cL_isPlanned 350 = .ok (.ifCond .eq 5, 3) := by decide +kernel
theorem dL_isPlanned_353 : decode cL_isPlanned 353 = .ok (.iconst 0, 1) := by decide +kernel
theorem dL_isPlanned_354 : decode cL_isPlanned 354 = .ok (.ireturn, 1) := by decide +kernel
theorem dL_isPlanned_355 : decode cL_isPlanned 355 = .ok (.iload 4, 2) := by decide +kernel
theorem dL_isPlanned_357 : decode cL_isPlanned 357 = .ok (.iload 5, 2) := by decide +kernel
theorem dL_isPlanned_359 : decode cL_isPlanned 359 = .ok (.if_icmp .ge 22, 3) := by decide +kernel
theorem dL_isPlanned_362 : decode cL_isPlanned 362 = .ok (.aload_n 0, 1) := by decide +kernel
theorem dL_isPlanned_363 : decode cL_isPlanned 363 = .ok (.iload_n 2, 1) := by decide +kernel
theorem dL_isPlanned_364 : decode cL_isPlanned 364 = .ok (.iload 5, 2) := by decide +kernel
theorem dL_isPlanned_366 : decode cL_isPlanned 366 = .ok (.iload_n 3, 1) := by decide +kernel
theorem dL_isPlanned_367 : decode cL_isPlanned 367 = .ok (.invokevirtual 52, 3) := by decide +kernel
theorem dL_isPlanned_370 : decode cL_isPlanned 370 = .ok (.bipush (-4), 2) := by decide +kernel
theorem dL_isPlanned_372 : decode cL_isPlanned 372 = .ok (.if_icmp .ne 7, 3) := by decide +kernel
theorem dL_isPlanned_375 : decode cL_isPlanned 375 = .ok (.iconst 1, 1) := by decide +kernel
theorem dL_isPlanned_376 : decode cL_isPlanned 376 = .ok (.goto 4, 3) := by decide +kernel
theorem dL_isPlanned_379 : decode cL_isPlanned 379 = .ok (.iconst 0, 1) := by decide +kernel
theorem dL_isPlanned_380 : decode cL_isPlanned 380 = .ok (.ireturn, 1) := by decide +kernel
theorem dL_isPlanned_381 : decode cL_isPlanned 381 = .ok (.aload_n 0, 1) := by decide +kernel
theorem dL_isPlanned_382 : decode cL_isPlanned 382 = .ok (.iload_n 2, 1) := by decide +kernel
theorem dL_isPlanned_383 : decode cL_isPlanned 383 = .ok (.iconst 0, 1) := by decide +kernel
theorem dL_isPlanned_384 : decode cL_isPlanned 384 = .ok (.invokevirtual 18, 3) := by decide +kernel
theorem dL_isPlanned_387 : decode cL_isPlanned 387 = .ok (.istore 12, 2) := by decide +kernel
theorem dL_isPlanned_389 : decode cL_isPlanned 389 = .ok (.aload_n 0, 1) := by decide +kernel
theorem dL_isPlanned_390 : decode cL_isPlanned 390 = .ok (.iload_n 2, 1) := by decide +kernel
theorem dL_isPlanned_391 : decode cL_isPlanned 391 = .ok (.bipush 10, 2) := by decide +kernel
theorem dL_isPlanned_393 : decode cL_isPlanned 393 = .ok (.invokevirtual 18, 3) := by decide +kernel
theorem dL_isPlanned_396 : decode cL_isPlanned 396 = .ok (.istore 13, 2) := by decide +kernel
theorem dL_isPlanned_398 : decode cL_isPlanned 398 = .ok (.aload_n 0, 1) := by decide +kernel
theorem dL_isPlanned_399 : decode cL_isPlanned 399 = .ok (.iload_n 2, 1) := by decide +kernel
theorem dL_isPlanned_400 : decode cL_isPlanned 400 = .ok (.iload 5, 2) := by decide +kernel
theorem dL_isPlanned_402 : decode cL_isPlanned 402 = .ok (.iload_n 3, 1) := by decide +kernel
theorem dL_isPlanned_403 : decode cL_isPlanned 403 = .ok (.invokevirtual 52, 3) := by decide +kernel
theorem dL_isPlanned_406 : decode cL_isPlanned 406 = .ok (.iload 4, 2) := by decide +kernel
theorem dL_isPlanned_408 : decode cL_isPlanned 408 = .ok (.iload 5, 2) := by decide +kernel
theorem dL_isPlanned_410 : decode cL_isPlanned 410 = .ok (.isub, 1) := by decide +kernel
theorem dL_isPlanned_411 : decode cL_isPlanned 411 = .ok (.if_icmp .ne 51, 3) := by decide +kernel
theorem dL_isPlanned_414 : decode cL_isPlanned 414 = .ok (.aload_n 0, 1) := by decide +kernel
theorem dL_isPlanned_415 : decode cL_isPlanned 415 = .ok (.iload_n 2, 1) := by decide +kernel
theorem dL_isPlanned_416 : decode cL_isPlanned 416 = .ok (.iconst 0, 1) := by decide +kernel
theorem dL_isPlanned_417 : decode cL_isPlanned 417 = .ok (.invokevirtual 18, 3) := by decide +kernel
theorem dL_isPlanned_420 : decode cL_isPlanned 420 = .ok (.iload 12, 2) := by decide +kernel
theorem dL_isPlanned_422 : decode cL_isPlanned 422 = .ok (.iload 8, 2) := by decide +kernel
theorem dL_isPlanned_424 : decode cL_isPlanned 424 = .ok (.isub, 1) := by decide +kernel
theorem dL_isPlanned_425 : decode cL_isPlanned 425 = .ok (.if_icmp .ne 37, 3) := by decide +kernel
theorem dL_isPlanned_428 : decode cL_isPlanned 428 = .ok (.aload_n 0, 1) := by decide +kernel
theorem dL_isPlanned_429 : decode cL_isPlanned 429 = .ok (.iload_n 2, 1) := by decide +kernel
theorem dL_isPlanned_430 : decode cL_isPlanned 430 = .ok (.bipush 7, 2) := by decide +kernel
theorem dL_isPlanned_432 : decode cL_isPlanned 432 = .ok (.invokevirtual 18, 3) := by decide +kernel
theorem dL_isPlanned_435 : decode cL_isPlanned 435 = .ok (.iload 4, 2) := by decide +kernel
theorem dL_isPlanned_437 : decode cL_isPlanned 437 = .ok (.iload 5, 2) := by decide +kernel
theorem dL_isPlanned_439 : decode cL_isPlanned 439 = .ok (.isub, 1) := by decide +kernel
theorem dL_isPlanned_440 : decode cL_isPlanned 440 = .ok (.if_icmp .ne 22, 3) := by decide +kernel
theorem dL_isPlanned_443 : decode cL_isPlanned 443 = .ok (.aload_n 0, 1) := by decide +kernel
theorem dL_isPlanned_444 : decode cL_isPlanned 444 = .ok (.iload_n 2, 1) := by decide +kernel
theorem dL_isPlanned_445 : decode cL_isPlanned 445 = .ok (.bipush 10, 2) := by decide +kernel
theorem dL_isPlanned_447 : decode cL_isPlanned 447 = .ok (.invokevirtual 18, 3) := by decide +kernel
theorem dL_isPlanned_450 : decode cL_isPlanned 450 = .ok (.iload 13, 2) := by decide +kernel
theorem dL_isPlanned_452 : decode cL_isPlanned 452 = .ok (.iload 5, 2) := by decide +kernel
theorem dL_isPlanned_454 : decode cL_isPlanned 454 = .ok (.isub, 1) := by decide +kernel
theorem dL_isPlanned_455 : decode cL_isPlanned 455 = .ok (.if_icmp .lt 7, 3) := by decide +kernel
theorem dL_isPlanned_458 : decode cL_isPlanned 458 = .ok (.iconst 1, 1) := by decide +kernel
theorem dL_isPlanned_459 : decode cL_isPlanned 459 = .ok (.goto 4, 3) := by decide +kernel
theorem dL_isPlanned_462 : decode cL_isPlanned 462 = .ok (.iconst 0, 1) := by decide +kernel
theorem dL_isPlanned_463 : decode cL_isPlanned 463 = .ok (.istore 14, 2) := by decide +kernel
theorem dL_isPlanned_465 : decode cL_isPlanned 465 = .ok (.iload 14, 2) := by decide +kernel
theorem dL_isPlanned_467 : decode cL_isPlanned 467 = .ok (.ifCond .eq 24, 3) := by decide +kernel
theorem dL_isPlanned_470 : decode cL_isPlanned 470 = .ok (.aload_n 0, 1) := by decide +kernel
theorem dL_isPlanned_471 : decode cL_isPlanned 471 = .ok (.invokevirtual 55, 3) := by decide +kernel
theorem dL_isPlanned_474 : decode cL_isPlanned 474 = .ok (.ifCond .lt 17, 3) := by decide +kernel
theorem dL_isPlanned_477 : decode cL_isPlanned 477 = .ok (.aload_n 0, 1) := by decide +kernel
theorem dL_isPlanned_478 : decode cL_isPlanned 478 = .ok (.invokestatic 44, 3) := by decide +kernel
theorem dL_isPlanned_481 : decode cL_isPlanned 481 = .ok (.lload 6, 2) := by decide +kernel
theorem dL_isPlanned_483 : decode cL_isPlanned 483 = .ok (.lcmp, 1) := by decide +kernel
theorem dL_isPlanned_484 : decode cL_isPlanned 484 = .ok (.ifCond .ne 7, 3) := by decide +kernel
theorem dL_isPlanned_487 : decode cL_isPlanned 487 = .ok (.iconst 1, 1) := by decide +kernel
theorem dL_isPlanned_488 : decode cL_isPlanned 488 = .ok (.goto 4, 3) := by decide +kernel
theorem dL_isPlanned_491 : decode cL_isPlanned 491 = .ok (.iconst 0, 1) := by decide +kernel
theorem dL_isPlanned_492 : decode cL_isPlanned 492 = .ok (.ireturn, 1) := by decide +kernel
theorem dL_acts_0 : decode cL_acts 0 = .ok (.aload_n 0, 1) := by decide +kernel
theorem dL_acts_1 : decode cL_acts 1 = .ok (.iconst 2, 1) := by decide +kernel
theorem dL_acts_2 : decode cL_acts 2 = .ok (.invokevirtual 12, 3) := by decide +kernel
theorem dL_acts_5 : decode cL_acts 5 = .ok (.istore_n 2, 1) := by decide +kernel
theorem dL_acts_6 : decode cL_acts 6 = .ok (.iload_n 1, 1) := by decide +kernel
theorem dL_acts_7 : decode cL_acts 7 = .ok (.iconst 4, 1) := by decide +kernel
theorem dL_acts_8 : decode cL_acts 8 = .ok (.ishr, 1) := by decide +kernel
theorem dL_acts_9 : decode cL_acts 9 = .ok (.iload_n 1, 1) := by decide +kernel
theorem dL_acts_10 : decode cL_acts 10 = .ok (.bipush 26, 2) := by decide +kernel
theorem dL_acts_12 : decode cL_acts 12 = .ok (.ishr, 1) := by decide +kernel
theorem dL_acts_13 : decode cL_acts 13 = .ok (.bipush 7, 2) := by decide +kernel
theorem dL_acts_15 : decode cL_acts 15 = .ok (.iand, 1) := by decide +kernel
theorem dL_acts_16 : decode cL_acts 16 = .ok (.ifCond .ne 9, 3) := by decide +kernel
theorem dL_acts_19 : decode cL_acts 19 = .ok (.iload_n 2, 1) := by decide +kernel
theorem dL_acts_20 : decode cL_acts 20 = .ok (.iconst 1, 1) := by decide +kernel
theorem dL_acts_21 : decode cL_acts 21 = .ok (.iadd, 1) := by decide +kernel
theorem dL_acts_22 : decode cL_acts 22 = .ok (.goto 4, 3) := by decide +kernel
theorem dL_acts_25 : decode cL_acts 25 = .ok (.iload_n 2, 1) := by decide +kernel
theorem dL_acts_26 : decode cL_acts 26 = .ok (.invokestatic 41, 3) := by decide +kernel
theorem dL_acts_29 : decode cL_acts 29 = .ok (.istore_n 3, 1) := by decide +kernel
theorem dL_acts_30 : decode cL_acts 30 = .ok (.iload_n 1, 1) := by decide +kernel
theorem dL_acts_31 : decode cL_acts 31 = .ok (.bipush 7, 2) := by decide +kernel
theorem dL_acts_33 : decode cL_acts 33 = .ok (.ishr, 1) := by decide +kernel
theorem dL_acts_34 : decode cL_acts 34 = .ok (.iload_n 2, 1) := by decide +kernel
theorem dL_acts_35 : decode cL_acts 35 = .ok (.invokestatic 41, 3) := by decide +kernel
theorem dL_acts_38 : decode cL_acts 38 = .ok (.istore 4, 2) := by decide +kernel
theorem dL_acts_40 : decode cL_acts 40 = .ok (.iload_n 1, 1) := by decide +kernel
theorem dL_acts_41 : decode cL_acts 41 = .ok (.bipush 25, 2) := by decide +kernel
theorem dL_acts_43 : decode cL_acts 43 = .ok (.ishr, 1) := by decide +kernel
theorem dL_acts_44 : decode cL_acts 44 = .ok (.iconst 3, 1) := by decide +kernel
theorem dL_acts_45 : decode cL_acts 45 = .ok (.iand, 1) := by decide +kernel
theorem dL_acts_46 : decode cL_acts 46 = .ok (.ifCond .ne 16, 3) := by decide +kernel
theorem dL_acts_49 : decode cL_acts 49 = .ok (.iload_n 1, 1) := by decide +kernel
theorem dL_acts_50 : decode cL_acts 50 = .ok (.bipush 9, 2) := by decide +kernel
theorem dL_acts_52 : decode cL_acts 52 = .ok (.ishr, 1) := by decide +kernel
theorem dL_acts_53 : decode cL_acts 53 = .ok (.sipush 10001, 3) := by decide +kernel
theorem dL_acts_56 : decode cL_acts 56 = .ok (.invokestatic 41, 3) := by decide +kernel
theorem dL_acts_59 : decode cL_acts 59 = .ok (.goto 15, 3) := by decide +kernel
theorem dL_acts_62 : decode cL_acts 62 = .ok (.iconst 1, 1) := by decide +kernel
theorem dL_acts_63 : decode cL_acts 63 = .ok (.iload_n 1, 1) := by decide +kernel
theorem dL_acts_64 : decode cL_acts 64 = .ok (.bipush 9, 2) := by decide +kernel
theorem dL_acts_66 : decode cL_acts 66 = .ok (.ishr, 1) := by decide +kernel
theorem dL_acts_67 : decode cL_acts 67 = .ok (.sipush 700, 3) := by decide +kernel
theorem dL_acts_70 : decode cL_acts 70 = .ok (.invokestatic 41, 3) := by decide +kernel
theorem dL_acts_73 : decode cL_acts 73 = .ok (.iadd, 1) := by decide +kernel
theorem dL_acts_74 : decode cL_acts 74 = .ok (.istore 5, 2) := by decide +kernel
theorem dL_acts_76 : decode cL_acts 76 = .ok (.iload_n 1, 1) := by decide +kernel
theorem dL_acts_77 : decode cL_acts 77 = .ok (.bipush 18, 2) := by decide +kernel
theorem dL_acts_79 : decode cL_acts 79 = .ok (.ishr, 1) := by decide +kernel
theorem dL_acts_80 : decode cL_acts 80 = .ok (.iconst 1, 1) := by decide +kernel
theorem dL_acts_81 : decode cL_acts 81 = .ok (.aload_n 0, 1) := by decide +kernel
theorem dL_acts_82 : decode cL_acts 82 = .ok (.iconst 1, 1) := by decide +kernel
theorem dL_acts_83 : decode cL_acts 83 = .ok (.invokevirtual 12, 3) := by decide +kernel
theorem dL_acts_86 : decode cL_acts 86 = .ok (.iadd, 1) := by decide +kernel
theorem dL_acts_87 : decode cL_acts 87 = .ok (.invokestatic 41, 3) := by decide +kernel
theorem dL_acts_90 : decode cL_acts 90 = .ok (.istore 6, 2) := by decide +kernel
theorem dL_acts_92 : decode cL_acts 92 = .ok (.iload_n 1, 1) := by decide +kernel
theorem dL_acts_93 : decode cL_acts 93 = .ok (.bipush 20, 2) := by decide +kernel
theorem dL_acts_95 : decode cL_acts 95 = .ok (.invokestatic 41, 3) := by decide +kernel
theorem dL_acts_98 : decode cL_acts 98 = .ok (.tableswitch 203 0 16 #[82, 82, 82, 90, 90, 106, 106, 118, 136, 146, 146, 146, 154, 160, 160, 176, 198], 82) := by decide +kernel
theorem dL_acts_180 : decode cL_acts 180 = .ok (.aload_n 0, 1) := by decide +kernel
theorem dL_acts_181 : decode cL_acts 181 = .ok (.iload_n 3, 1) := by decide +kernel
theorem dL_acts_182 : decode cL_acts 182 = .ok (.iload 5, 2) := by decide +kernel
theorem dL_acts_184 : decode cL_acts 184 = .ok (.invokevirtual 59, 3) := by decide +kernel
theorem dL_acts_187 : decode cL_acts 187 = .ok (.ireturn, 1) := by decide +kernel
theorem dL_acts_188 : decode cL_acts 188 = .ok (.aload_n 0, 1) := by decide +kernel
theorem dL_acts_189 : decode cL_acts 189 = .ok (.iload_n 3, 1) := by decide +kernel
theorem dL_acts_190 : decode cL_acts 190 = .ok (.iload_n 1, 1) := by decide +kernel
theorem dL_acts_191 : decode cL_acts 191 = .ok (.bipush 18, 2) := by decide +kernel
theorem dL_acts_193 : decode cL_acts 193 = .ok (.ishr, 1) := by decide +kernel
theorem dL_acts_194 : decode cL_acts 194 = .ok (.iconst 4, 1) := by decide +kernel
theorem dL_acts_195 : decode cL_acts 195 = .ok (.invokestatic 41, 3) := by decide +kernel
theorem dL_acts_198 : decode cL_acts 198 = .ok (.iload 5, 2) := by decide +kernel
theorem dL_acts_200 : decode cL_acts 200 = .ok (.invokevirtual 62, 3) := by decide +kernel
theorem dL_acts_203 : decode cL_acts 203 = .ok (.ireturn, 1) := by decide +kernel
theorem dL_acts_204 : decode cL_acts 204 = .ok (.aload_n 0, 1) := by decide +kernel
theorem dL_acts_205 : decode cL_acts 205 = .ok (.iload_n 3, 1) := by decide +kernel
theorem dL_acts_206 : decode cL_acts 206 = .ok (.iload 4, 2) := by decide +kernel
theorem dL_acts_208 : decode cL_acts 208 = .ok (.iload 6, 2) := by decide +kernel
theorem dL_acts_210 : decode cL_acts 210 = .ok (.iload 5, 2) := by decide +kernel
theorem dL_acts_212 : decode cL_acts 212 = .ok (.invokevirtual 65, 3) := by decide +kernel
theorem dL_acts_215 : decode cL_acts 215 = .ok (.ireturn, 1) := by decide +kernel
theorem dL_acts_216 : decode cL_acts 216 = .ok (.aload_n 0, 1) := by decide +kernel
theorem dL_acts_217 : decode cL_acts 217 = .ok (.iload_n 3, 1) := by decide +kernel
theorem dL_acts_218 : decode cL_acts 218 = .ok (.iload 4, 2) := by decide +kernel
theorem dL_acts_220 : decode cL_acts 220 = .ok (.iload_n 1, 1) := by decide +kernel
theorem dL_acts_221 : decode cL_acts 221 = .ok (.bipush 18, 2) := by decide +kernel
theorem dL_acts_223 : decode cL_acts 223 = .ok (.ishr, 1) := by decide +kernel
theorem dL_acts_224 : decode cL_acts 224 = .ok (.iconst 3, 1) := by decide +kernel
theorem dL_acts_225 : decode cL_acts 225 = .ok (.invokestatic 41, 3) := by decide +kernel
theorem dL_acts_228 : decode cL_acts 228 = .ok (.iload 5, 2) := by decide +kernel
theorem dL_acts_230 : decode cL_acts 230 = .ok (.invokevirtual 68, 3) := by decide +kernel
theorem dL_acts_233 : decode cL_acts 233 = .ok (.ireturn, 1) := by decide +kernel
theorem dL_acts_234 : decode cL_acts 234 = .ok (.aload_n 0, 1) := by decide +kernel
theorem dL_acts_235 : decode cL_acts 235 = .ok (.iload_n 3, 1) := by decide +kernel
theorem dL_acts_236 : decode cL_acts 236 = .ok (.iload 6, 2) := by decide +kernel
theorem dL_acts_238 : decode cL_acts 238 = .ok (.iload 5, 2) := by decide +kernel
theorem dL_acts_240 : decode cL_acts 240 = .ok (.invokevirtual 71, 3) := by decide +kernel
theorem dL_acts_243 : decode cL_acts 243 = .ok (.ireturn, 1) := by decide +kernel
theorem dL_acts_244 : decode cL_acts 244 = .ok (.aload_n 0, 1) := by decide +kernel
theorem dL_acts_245 : decode cL_acts 245 = .ok (.iload_n 3, 1) := by decide +kernel
theorem dL_acts_246 : decode cL_acts 246 = .ok (.iload 5, 2) := by decide +kernel
theorem dL_acts_248 : decode cL_acts 248 = .ok (.invokevirtual 74, 3) := by decide +kernel
theorem dL_acts_251 : decode cL_acts 251 = .ok (.ireturn, 1) := by decide +kernel
theorem dL_acts_252 : decode cL_acts 252 = .ok (.aload_n 0, 1) := by decide +kernel
theorem dL_acts_253 : decode cL_acts 253 = .ok (.iload_n 3, 1) := by decide +kernel
theorem dL_acts_254 : decode cL_acts 254 = .ok (.invokevirtual 77, 3) := by decide +kernel
theorem dL_acts_257 : decode cL_acts 257 = .ok (.ireturn, 1) := by decide +kernel
theorem dL_acts_258 : decode cL_acts 258 = .ok (.aload_n 0, 1) := by decide +kernel
theorem dL_acts_259 : decode cL_acts 259 = .ok (.iload_n 3, 1) := by decide +kernel
theorem dL_acts_260 : decode cL_acts 260 = .ok (.iload 5, 2) := by decide +kernel
theorem dL_acts_262 : decode cL_acts 262 = .ok (.iload_n 1, 1) := by decide +kernel
theorem dL_acts_263 : decode cL_acts 263 = .ok (.bipush 18, 2) := by decide +kernel
theorem dL_acts_265 : decode cL_acts 265 = .ok (.ishr, 1) := by decide +kernel
theorem dL_acts_266 : decode cL_acts 266 = .ok (.iconst 3, 1) := by decide +kernel
theorem dL_acts_267 : decode cL_acts 267 = .ok (.invokestatic 41, 3) := by decide +kernel
theorem dL_acts_270 : decode cL_acts 270 = .ok (.invokevirtual 52, 3) := by decide +kernel
theorem dL_acts_273 : decode cL_acts 273 = .ok (.ireturn, 1) := by decide +kernel
theorem dL_acts_274 : decode cL_acts 274 = .ok (.aload_n 0, 1) := by decide +kernel
theorem dL_acts_275 : decode cL_acts 275 = .ok (.iload_n 1, 1) := by decide +kernel
theorem dL_acts_276 : decode cL_acts 276 = .ok (.iconst 4, 1) := by decide +kernel
theorem dL_acts_277 : decode cL_acts 277 = .ok (.ishr, 1) := by decide +kernel
theorem dL_acts_278 : decode cL_acts 278 = .ok (.bipush 6, 2) := by decide +kernel
theorem dL_acts_280 : decode cL_acts 280 = .ok (.invokestatic 41, 3) := by decide +kernel
theorem dL_acts_283 : decode cL_acts 283 = .ok (.iload_n 1, 1) := by decide +kernel
theorem dL_acts_284 : decode cL_acts 284 = .ok (.bipush 9, 2) := by decide +kernel
theorem dL_acts_286 : decode cL_acts 286 = .ok (.ishr, 1) := by decide +kernel
theorem dL_acts_287 : decode cL_acts 287 = .ok (.bipush 103, 2) := by decide +kernel
theorem dL_acts_289 : decode cL_acts 289 = .ok (.invokestatic 41, 3) := by decide +kernel
theorem dL_acts_292 : decode cL_acts 292 = .ok (.invokevirtual 80, 3) := by decide +kernel
theorem dL_acts_295 : decode cL_acts 295 = .ok (.ireturn, 1) := by decide +kernel
theorem dL_acts_296 : decode cL_acts 296 = .ok (.aload_n 0, 1) := by decide +kernel
theorem dL_acts_297 : decode cL_acts 297 = .ok (.invokevirtual 83, 3) := by decide +kernel
theorem dL_acts_300 : decode cL_acts 300 = .ok (.ireturn, 1) := by decide +kernel
theorem dL_acts_301 : decode cL_acts 301 = .ok (.aload_n 0, 1) := by decide +kernel
theorem dL_acts_302 : decode cL_acts 302 = .ok (.iconst 1, 1) := by decide +kernel
theorem dL_acts_303 : decode cL_acts 303 = .ok (.iload_n 1, 1) := by decide +kernel
theorem dL_acts_304 : decode cL_acts 304 = .ok (.bipush 9, 2) := by decide +kernel
theorem dL_acts_306 : decode cL_acts 306 = .ok (.ishr, 1) := by decide +kernel
theorem dL_acts_307 : decode cL_acts 307 = .ok (.bipush 25, 2) := by decide +kernel
theorem dL_acts_309 : decode cL_acts 309 = .ok (.invokestatic 41, 3) := by decide +kernel
theorem dL_acts_312 : decode cL_acts 312 = .ok (.iadd, 1) := by decide +kernel
theorem dL_acts_313 : decode cL_acts 313 = .ok (.invokevirtual 86, 3) := by decide +kernel
theorem dL_acts_316 : decode cL_acts 316 = .ok (.ireturn, 1) := by decide +kernel
theorem dL_law_0 : decode cL_law 0 = .ok (.new 13, 3) := by decide +kernel
theorem dL_law_3 : decode cL_law 3 = .ok (.dup, 1) := by decide +kernel
theorem dL_law_4 : decode cL_law 4 = .ok (.invokespecial 89, 3) := by decide +kernel
theorem dL_law_7 : decode cL_law 7 = .ok (.astore_n 1, 1) := by decide +kernel
theorem dL_law_8 : decode cL_law 8 = .ok (.aload_n 0, 1) := by decide +kernel
theorem dL_law_9 : decode cL_law 9 = .ok (.iconst 0, 1) := by decide +kernel
theorem dL_law_10 : decode cL_law 10 = .ok (.invokestatic 90, 3) := by decide +kernel
theorem dL_law_13 : decode cL_law 13 = .ok (.istore_n 2, 1) := by decide +kernel
theorem dL_law_14 : decode cL_law 14 = .ok (.iconst 0, 1) := by decide +kernel
theorem dL_law_15 : decode cL_law 15 = .ok (.istore_n 3, 1) := by decide +kernel
theorem dL_law_16 : decode cL_law 16 = .ok (.iload_n 3, 1) := by decide +kernel
theorem dL_law_17 : decode cL_law 17 = .ok (.iconst 2, 1) := by decide +kernel
theorem dL_law_18 : decode cL_law 18 = .ok (.iload_n 2, 1) := by decide +kernel
theorem dL_law_19 : decode cL_law 19 = .ok (.iconst 3, 1) := by decide +kernel
theorem dL_law_20 : decode cL_law 20 = .ok (.invokestatic 41, 3) := by decide +kernel
theorem dL_law_23 : decode cL_law 23 = .ok (.iadd, 1) := by decide +kernel
theorem dL_law_24 : decode cL_law 24 = .ok (.if_icmp .ge 54, 3) := by decide +kernel
theorem dL_law_27 : decode cL_law 27 = .ok (.aload_n 1, 1) := by decide +kernel
theorem dL_law_28 : decode cL_law 28 = .ok (.invokevirtual 83, 3) := by decide +kernel
theorem dL_law_31 : decode cL_law 31 = .ok (.pop, 1) := by decide +kernel
theorem dL_law_32 : decode cL_law 32 = .ok (.aload_n 1, 1) := by decide +kernel
theorem dL_law_33 : decode cL_law 33 = .ok (.iload_n 3, 1) := by decide +kernel
theorem dL_law_34 : decode cL_law 34 = .ok (.iconst 1, 1) := by decide +kernel
theorem dL_law_35 : decode cL_law 35 = .ok (.iload_n 2, 1) := by decide +kernel
theorem dL_law_36 : decode cL_law 36 = .ok (.iconst 3, 1) := by decide +kernel
theorem dL_law_37 : decode cL_law 37 = .ok (.iload_n 3, 1) := by decide +kernel
theorem dL_law_38 : decode cL_law 38 = .ok (.imul, 1) := by decide +kernel
theorem dL_law_39 : decode cL_law 39 = .ok (.ishr, 1) := by decide +kernel
theorem dL_law_40 : decode cL_law 40 = .ok (.sipush 900, 3) := by decide +kernel
theorem dL_law_43 : decode cL_law 43 = .ok (.invokestatic 41, 3) := by decide +kernel
theorem dL_law_46 : decode cL_law 46 = .ok (.iadd, 1) := by decide +kernel
theorem dL_law_47 : decode cL_law 47 = .ok (.invokevirtual 59, 3) := by decide +kernel
theorem dL_law_50 : decode cL_law 50 = .ok (.pop, 1) := by decide +kernel
theorem dL_law_51 : decode cL_law 51 = .ok (.aload_n 1, 1) := by decide +kernel
theorem dL_law_52 : decode cL_law 52 = .ok (.iload_n 3, 1) := by decide +kernel
theorem dL_law_53 : decode cL_law 53 = .ok (.iconst 1, 1) := by decide +kernel
theorem dL_law_54 : decode cL_law 54 = .ok (.iload_n 2, 1) := by decide +kernel
theorem dL_law_55 : decode cL_law 55 = .ok (.iconst 4, 1) := by decide +kernel
theorem dL_law_56 : decode cL_law 56 = .ok (.iconst 3, 1) := by decide +kernel
theorem dL_law_57 : decode cL_law 57 = .ok (.iload_n 3, 1) := by decide +kernel
theorem dL_law_58 : decode cL_law 58 = .ok (.imul, 1) := by decide +kernel
theorem dL_law_59 : decode cL_law 59 = .ok (.iadd, 1) := by decide +kernel
theorem dL_law_60 : decode cL_law 60 = .ok (.ishr, 1) := by decide +kernel
theorem dL_law_61 : decode cL_law 61 = .ok (.sipush 900, 3) := by decide +kernel
theorem dL_law_64 : decode cL_law 64 = .ok (.invokestatic 41, 3) := by decide +kernel
theorem dL_law_67 : decode cL_law 67 = .ok (.iadd, 1) := by decide +kernel
theorem dL_law_68 : decode cL_law 68 = .ok (.invokevirtual 74, 3) := by decide +kernel
theorem dL_law_71 : decode cL_law 71 = .ok (.pop, 1) := by decide +kernel
theorem dL_law_72 : decode cL_law 72 = .ok (.iinc 3 1, 3) := by decide +kernel
theorem dL_law_75 : decode cL_law 75 = .ok (.goto (-59), 3) := by decide +kernel
theorem dL_law_78 : decode cL_law 78 = .ok (.iconst 0, 1) := by decide +kernel
theorem dL_law_79 : decode cL_law 79 = .ok (.istore_n 3, 1) := by decide +kernel
theorem dL_law_80 : decode cL_law 80 = .ok (.iload_n 3, 1) := by decide +kernel
theorem dL_law_81 : decode cL_law 81 = .ok (.bipush 24, 2) := by decide +kernel
theorem dL_law_83 : decode cL_law 83 = .ok (.if_icmp .ge 118, 3) := by decide +kernel
theorem dL_law_86 : decode cL_law 86 = .ok (.aload_n 0, 1) := by decide +kernel
theorem dL_law_87 : decode cL_law 87 = .ok (.iconst 1, 1) := by decide +kernel
theorem dL_law_88 : decode cL_law 88 = .ok (.iload_n 3, 1) := by decide +kernel
theorem dL_law_89 : decode cL_law 89 = .ok (.iadd, 1) := by decide +kernel
theorem dL_law_90 : decode cL_law 90 = .ok (.invokestatic 90, 3) := by decide +kernel
theorem dL_law_93 : decode cL_law 93 = .ok (.istore 4, 2) := by decide +kernel
theorem dL_law_95 : decode cL_law 95 = .ok (.aload_n 1, 1) := by decide +kernel
theorem dL_law_96 : decode cL_law 96 = .ok (.invokestatic 44, 3) := by decide +kernel
theorem dL_law_99 : decode cL_law 99 = .ok (.lstore 5, 2) := by decide +kernel
theorem dL_law_101 : decode cL_law 101 = .ok (.aload_n 1, 1) := by decide +kernel
theorem dL_law_102 : decode cL_law 102 = .ok (.iload 4, 2) := by decide +kernel
theorem dL_law_104 : decode cL_law 104 = .ok (.invokestatic 94, 3) := by decide +kernel
theorem dL_law_107 : decode cL_law 107 = .ok (.istore 7, 2) := by decide +kernel
theorem dL_law_109 : decode cL_law 109 = .ok (.iload 7, 2) := by decide +kernel
theorem dL_law_111 : decode cL_law 111 = .ok (.ifCond .ge 15, 3) := by decide +kernel
theorem dL_law_114 : decode cL_law 114 = .ok (.aload_n 1, 1) := by decide +kernel
theorem dL_law_115 : decode cL_law 115 = .ok (.invokestatic 44, 3) := by decide +kernel
theorem dL_law_118 : decode cL_law 118 = .ok (.lload 5, 2) := by decide +kernel
theorem dL_law_120 : decode cL_law 120 = .ok (.lcmp, 1) := by decide +kernel
theorem dL_law_121 : decode cL_law 121 = .ok (.ifCond .eq 5, 3) := by decide +kernel
theorem dL_law_124 : decode cL_law 124 = .ok (.iconst 0, 1) := by decide +kernel
theorem dL_law_125 : decode cL_law 125 = .ok (.ireturn, 1) := by decide +kernel
theorem dL_law_126 : decode cL_law 126 = .ok (.iload 7, 2) := by decide +kernel
theorem dL_law_128 : decode cL_law 128 = .ok (.ifCond .lt 32, 3) := by decide +kernel
theorem dL_law_131 : decode cL_law 131 = .ok (.iload 4, 2) := by decide +kernel
theorem dL_law_133 : decode cL_law 133 = .ok (.bipush 28, 2) := by decide +kernel
theorem dL_law_135 : decode cL_law 135 = .ok (.ishr, 1) := by decide +kernel
theorem dL_law_136 : decode cL_law 136 = .ok (.iconst 3, 1) := by decide +kernel
theorem dL_law_137 : decode cL_law 137 = .ok (.iand, 1) := by decide +kernel
theorem dL_law_138 : decode cL_law 138 = .ok (.ifCond .ne 22, 3) := by decide +kernel
theorem dL_law_141 : decode cL_law 141 = .ok (.aload_n 1, 1) := by decide +kernel
theorem dL_law_142 : decode cL_law 142 = .ok (.invokevirtual 55, 3) := by decide +kernel
theorem dL_law_145 : decode cL_law 145 = .ok (.ifCond .lt 13, 3) := by decide +kernel
theorem dL_law_148 : decode cL_law 148 = .ok (.aload_n 1, 1) := by decide +kernel
theorem dL_law_149 : decode cL_law 149 = .ok (.invokestatic 44, 3) := by decide +kernel
theorem dL_law_152 : decode cL_law 152 = .ok (.lload 5, 2) := by decide +kernel
theorem dL_law_154 : decode cL_law 154 = .ok (.lcmp, 1) := by decide +kernel
theorem dL_law_155 : decode cL_law 155 = .ok (.ifCond .eq 5, 3) := by decide +kernel
theorem dL_law_158 : decode cL_law 158 = .ok (.iconst 0, 1) := by decide +kernel
theorem dL_law_159 : decode cL_law 159 = .ok (.ireturn, 1) := by decide +kernel
theorem dL_law_160 : decode cL_law 160 = .ok (.iload_n 3, 1) := by decide +kernel
theorem dL_law_161 : decode cL_law 161 = .ok (.iconst 3, 1) := by decide +kernel
theorem dL_law_162 : decode cL_law 162 = .ok (.irem, 1) := by decide +kernel
theorem dL_law_163 : decode cL_law 163 = .ok (.iconst 1, 1) := by decide +kernel
theorem dL_law_164 : decode cL_law 164 = .ok (.if_icmp .ne 10, 3) := by decide +kernel
theorem dL_law_167 : decode cL_law 167 = .ok (.aload_n 1, 1) := by decide +kernel
theorem dL_law_168 : decode cL_law 168 = .ok (.invokestatic 98, 3) := by decide +kernel
theorem dL_law_171 : decode cL_law 171 = .ok (.ifCond .eq 22, 3) := by decide +kernel
theorem dL_law_174 : decode cL_law 174 = .ok (.iload_n 3, 1) := by decide +kernel
theorem dL_law_175 : decode cL_law 175 = .ok (.iconst 3, 1) := by decide +kernel
theorem dL_law_176 : decode cL_law 176 = .ok (.irem, 1) := by decide +kernel
theorem dL_law_177 : decode cL_law 177 = .ok (.iconst 2, 1) := by decide +kernel
theorem dL_law_178 : decode cL_law 178 = .ok (.if_icmp .ne 17, 3) := by decide +kernel
theorem dL_law_181 : decode cL_law 181 = .ok (.aload_n 1, 1) := by decide +kernel
theorem dL_law_182 : decode cL_law 182 = .ok (.iload 4, 2) := by decide +kernel
theorem dL_law_184 : decode cL_law 184 = .ok (.bipush 7, 2) := by decide +kernel
theorem dL_law_186 : decode cL_law 186 = .ok (.ishr, 1) := by decide +kernel
theorem dL_law_187 : decode cL_law 187 = .ok (.invokestatic 102, 3) := by decide +kernel
theorem dL_law_190 : decode cL_law 190 = .ok (.ifCond .ne 5, 3) := by decide +kernel
theorem dL_law_193 : decode cL_law 193 = .ok (.iconst 0, 1) := by decide +kernel
theorem dL_law_194 : decode cL_law 194 = .ok (.ireturn, 1) := by decide +kernel
theorem dL_law_195 : decode cL_law 195 = .ok (.iinc 3 1, 3) := by decide +kernel
theorem dL_law_198 : decode cL_law 198 = .ok (.goto (-118), 3) := by decide +kernel
theorem dL_law_201 : decode cL_law 201 = .ok (.aload_n 1, 1) := by decide +kernel
theorem dL_law_202 : decode cL_law 202 = .ok (.invokestatic 44, 3) := by decide +kernel
theorem dL_law_205 : decode cL_law 205 = .ok (.lstore_n 3, 1) := by decide +kernel
theorem dL_law_206 : decode cL_law 206 = .ok (.aload_n 1, 1) := by decide +kernel
theorem dL_law_207 : decode cL_law 207 = .ok (.invokevirtual 106, 3) := by decide +kernel
theorem dL_law_210 : decode cL_law 210 = .ok (.aload_n 1, 1) := by decide +kernel
theorem dL_law_211 : decode cL_law 211 = .ok (.iconst 0, 1) := by decide +kernel
theorem dL_law_212 : decode cL_law 212 = .ok (.invokevirtual 12, 3) := by decide +kernel
theorem dL_law_215 : decode cL_law 215 = .ok (.if_icmp .eq 5, 3) := by decide +kernel
theorem dL_law_218 : decode cL_law 218 = .ok (.iconst 0, 1) := by decide +kernel
theorem dL_law_219 : decode cL_law 219 = .ok (.ireturn, 1) := by decide +kernel
theorem dL_law_220 : decode cL_law 220 = .ok (.aload_n 1, 1) := by decide +kernel
theorem dL_law_221 : decode cL_law 221 = .ok (.bipush 13, 2) := by decide +kernel
theorem dL_law_223 : decode cL_law 223 = .ok (.invokevirtual 86, 3) := by decide +kernel
theorem dL_law_226 : decode cL_law 226 = .ok (.pop, 1) := by decide +kernel
theorem dL_law_227 : decode cL_law 227 = .ok (.aload_n 1, 1) := by decide +kernel
theorem dL_law_228 : decode cL_law 228 = .ok (.iconst 0, 1) := by decide +kernel
theorem dL_law_229 : decode cL_law 229 = .ok (.bipush 77, 2) := by decide +kernel
theorem dL_law_231 : decode cL_law 231 = .ok (.invokevirtual 80, 3) := by decide +kernel
theorem dL_law_234 : decode cL_law 234 = .ok (.pop, 1) := by decide +kernel
theorem dL_law_235 : decode cL_law 235 = .ok (.aload_n 1, 1) := by decide +kernel
theorem dL_law_236 : decode cL_law 236 = .ok (.invokevirtual 83, 3) := by decide +kernel
theorem dL_law_239 : decode cL_law 239 = .ok (.pop, 1) := by decide +kernel
theorem dL_law_240 : decode cL_law 240 = .ok (.aload_n 1, 1) := by decide +kernel
theorem dL_law_241 : decode cL_law 241 = .ok (.invokevirtual 109, 3) := by decide +kernel
theorem dL_law_244 : decode cL_law 244 = .ok (.aload_n 1, 1) := by decide +kernel
theorem dL_law_245 : decode cL_law 245 = .ok (.iconst 0, 1) := by decide +kernel
theorem dL_law_246 : decode cL_law 246 = .ok (.invokevirtual 12, 3) := by decide +kernel
theorem dL_law_249 : decode cL_law 249 = .ok (.if_icmp .ne 138, 3) := by decide +kernel
theorem dL_law_252 : decode cL_law 252 = .ok (.aload_n 1, 1) := by decide +kernel
theorem dL_law_253 : decode cL_law 253 = .ok (.invokestatic 44, 3) := by decide +kernel
theorem dL_law_256 : decode cL_law 256 = .ok (.lload_n 3, 1) := by decide +kernel
theorem dL_law_257 : decode cL_law 257 = .ok (.lcmp, 1) := by decide +kernel
theorem dL_law_258 : decode cL_law 258 = .ok (.ifCond .ne 129, 3) := by decide +kernel
theorem dL_law_261 : decode cL_law 261 = .ok (.aload_n 1, 1) := by decide +kernel
theorem dL_law_262 : decode cL_law 262 = .ok (.invokevirtual 55, 3) := by decide +kernel
theorem dL_law_265 : decode cL_law 265 = .ok (.ifCond .lt 122, 3) := by decide +kernel
theorem dL_law_268 : decode cL_law 268 = .ok (.aload_n 1, 1) := by decide +kernel
theorem dL_law_269 : decode cL_law 269 = .ok (.invokevirtual 109, 3) := by decide +kernel
theorem dL_law_272 : decode cL_law 272 = .ok (.ifCond .lt 115, 3) := by decide +kernel
theorem dL_law_275 : decode cL_law 275 = .ok (.aload_n 1, 1) := by decide +kernel
theorem dL_law_276 : decode cL_law 276 = .ok (.invokestatic 44, 3) := by decide +kernel
theorem dL_law_279 : decode cL_law 279 = .ok (.lload_n 3, 1) := by decide +kernel
theorem dL_law_280 : decode cL_law 280 = .ok (.lcmp, 1) := by decide +kernel
theorem dL_law_281 : decode cL_law 281 = .ok (.ifCond .ne 106, 3) := by decide +kernel
theorem dL_law_284 : decode cL_law 284 = .ok (.aload_n 1, 1) := by decide +kernel
theorem dL_law_285 : decode cL_law 285 = .ok (.bipush 20, 2) := by decide +kernel
theorem dL_law_287 : decode cL_law 287 = .ok (.iconst 0, 1) := by decide +kernel
theorem dL_law_288 : decode cL_law 288 = .ok (.invokevirtual 29, 3) := by decide +kernel
theorem dL_law_291 : decode cL_law 291 = .ok (.iconst (-1), 1) := by decide +kernel
theorem dL_law_292 : decode cL_law 292 = .ok (.if_icmp .ne 95, 3) := by decide +kernel
theorem dL_law_295 : decode cL_law 295 = .ok (.aload_n 1, 1) := by decide +kernel
theorem dL_law_296 : decode cL_law 296 = .ok (.iconst 0, 1) := by decide +kernel
theorem dL_law_297 : decode cL_law 297 = .ok (.bipush 7, 2) := by decide +kernel
theorem dL_law_299 : decode cL_law 299 = .ok (.invokevirtual 29, 3) := by decide +kernel
theorem dL_law_302 : decode cL_law 302 = .ok (.bipush (-2), 2) := by decide +kernel
theorem dL_law_304 : decode cL_law 304 = .ok (.if_icmp .ne 83, 3) := by decide +kernel
theorem dL_law_307 : decode cL_law 307 = .ok (.aload_n 1, 1) := by decide +kernel
theorem dL_law_308 : decode cL_law 308 = .ok (.iconst 3, 1) := by decide +kernel
theorem dL_law_309 : decode cL_law 309 = .ok (.iconst 0, 1) := by decide +kernel
theorem dL_law_310 : decode cL_law 310 = .ok (.invokevirtual 32, 3) := by decide +kernel
theorem dL_law_313 : decode cL_law 313 = .ok (.iconst (-1), 1) := by decide +kernel
theorem dL_law_314 : decode cL_law 314 = .ok (.if_icmp .ne 73, 3) := by decide +kernel
theorem dL_law_317 : decode cL_law 317 = .ok (.aload_n 1, 1) := by decide +kernel
theorem dL_law_318 : decode cL_law 318 = .ok (.iconst 0, 1) := by decide +kernel
theorem dL_law_319 : decode cL_law 319 = .ok (.iconst 3, 1) := by decide +kernel
theorem dL_law_320 : decode cL_law 320 = .ok (.invokevirtual 32, 3) := by decide +kernel
theorem dL_law_323 : decode cL_law 323 = .ok (.bipush (-2), 2) := by decide +kernel
theorem dL_law_325 : decode cL_law 325 = .ok (.if_icmp .ne 62, 3) := by decide +kernel
theorem dL_law_328 : decode cL_law 328 = .ok (.aload_n 1, 1) := by decide +kernel
theorem dL_law_329 : decode cL_law 329 = .ok (.iconst 0, 1) := by decide +kernel
theorem dL_law_330 : decode cL_law 330 = .ok (.iconst (-1), 1) := by decide +kernel
theorem dL_law_331 : decode cL_law 331 = .ok (.invokevirtual 36, 3) := by decide +kernel
theorem dL_law_334 : decode cL_law 334 = .ok (.bipush (-2), 2) := by decide +kernel
theorem dL_law_336 : decode cL_law 336 = .ok (.if_icmp .ne 51, 3) := by decide +kernel
theorem dL_law_339 : decode cL_law 339 = .ok (.aload_n 1, 1) := by decide +kernel
theorem dL_law_340 : decode cL_law 340 = .ok (.iconst (-1), 1) := by decide +kernel
theorem dL_law_341 : decode cL_law 341 = .ok (.iconst 0, 1) := by decide +kernel
theorem dL_law_342 : decode cL_law 342 = .ok (.invokevirtual 36, 3) := by decide +kernel
theorem dL_law_345 : decode cL_law 345 = .ok (.iconst (-1), 1) := by decide +kernel
theorem dL_law_346 : decode cL_law 346 = .ok (.if_icmp .ne 41, 3) := by decide +kernel
theorem dL_law_349 : decode cL_law 349 = .ok (.aload_n 1, 1) := by decide +kernel
theorem dL_law_350 : decode cL_law 350 = .ok (.iconst 0, 1) := by decide +kernel
theorem dL_law_351 : decode cL_law 351 = .ok (.iconst 0, 1) := by decide +kernel
theorem dL_law_352 : decode cL_law 352 = .ok (.iconst 3, 1) := by decide +kernel
theorem dL_law_353 : decode cL_law 353 = .ok (.invokevirtual 25, 3) := by decide +kernel
theorem dL_law_356 : decode cL_law 356 = .ok (.bipush (-2), 2) := by decide +kernel
theorem dL_law_358 : decode cL_law 358 = .ok (.if_icmp .ne 29, 3) := by decide +kernel
theorem dL_law_361 : decode cL_law 361 = .ok (.aload_n 1, 1) := by decide +kernel
theorem dL_law_362 : decode cL_law 362 = .ok (.bipush 8, 2) := by decide +kernel
theorem dL_law_364 : decode cL_law 364 = .ok (.iconst 0, 1) := by decide +kernel
theorem dL_law_365 : decode cL_law 365 = .ok (.invokevirtual 18, 3) := by decide +kernel
theorem dL_law_368 : decode cL_law 368 = .ok (.iconst (-1), 1) := by decide +kernel
theorem dL_law_369 : decode cL_law 369 = .ok (.if_icmp .ne 18, 3) := by decide +kernel
theorem dL_law_372 : decode cL_law 372 = .ok (.aload_n 1, 1) := by decide +kernel
theorem dL_law_373 : decode cL_law 373 = .ok (.bipush 15, 2) := by decide +kernel
theorem dL_law_375 : decode cL_law 375 = .ok (.invokevirtual 12, 3) := by decide +kernel
theorem dL_law_378 : decode cL_law 378 = .ok (.bipush (-2), 2) := by decide +kernel
theorem dL_law_380 : decode cL_law 380 = .ok (.if_icmp .ne 7, 3) := by decide +kernel
theorem dL_law_383 : decode cL_law 383 = .ok (.iconst 1, 1) := by decide +kernel
theorem dL_law_384 : decode cL_law 384 = .ok (.goto 4, 3) := by decide +kernel
theorem dL_law_387 : decode cL_law 387 = .ok (.iconst 0, 1) := by decide +kernel
theorem dL_law_388 : decode cL_law 388 = .ok (.ireturn, 1) := by decide +kernel
end
section
/-- the words of the tables that a contract may carry -/
def zT : List Cond := lw_tbl.filter goodWord
theorem zT_mem {w : Cond} {i : Nat} (h : lw_tbl[i]? = some w) (g : goodWord w = true) : w ∈ zT := List.mem_filter.mpr ⟨List.mem_of_getElem? h, g⟩
theorem zT_in : ∀ w ∈ zT, w ∈ lw_tbl := fun _ h => (List.mem_filter.mp h).1
theorem zT_good : GoodIn zT zT := fun w h => ⟨h, good_of_word (List.mem_filter.mp h).2⟩
theorem k_0 : (Cond.initialized RL : Cond) ∈ zT := zT_mem (i := 0) (by decide +kernel) (by decide +kernel)
theorem k_1 : (Cond.initialized RX5 : Cond) ∈ zT := zT_mem (i := 1) (by decide +kernel) (by decide +kernel)
theorem k_2 : (Cond.initialized RX2 : Cond) ∈ zT := zT_mem (i := 2) (by decide +kernel) (by decide +kernel)
theorem k_3 : (Cond.initialized RX0 : Cond) ∈ zT := zT_mem (i := 3) (by decide +kernel) (by decide +kernel)
theorem k_4 : (Cond.initialized RX1 : Cond) ∈ zT := zT_mem (i := 4) (by decide +kernel) (by decide +kernel)
theorem k_5 : (Cond.initialized RX3 : Cond) ∈ zT := zT_mem (i := 5) (by decide +kernel) (by decide +kernel)
theorem k_6 : (Cond.initialized RX4 : Cond) ∈ zT := zT_mem (i := 6) (by decide +kernel) (by decide +kernel)
theorem k_8 : (Cond.initialized RJ9 : Cond) ∈ zT := zT_mem (i := 7) (by decide +kernel) (by decide +kernel)
theorem k_9 : (Cond.initialized RJ10 : Cond) ∈ zT := zT_mem (i := 8) (by decide +kernel) (by decide +kernel)
theorem k_p9 : (Cond.classLink RL 13 RX5 : Cond) ∈ zT := zT_mem (i := 9) (by decide +kernel) (by decide +kernel)
theorem k_11 : (Cond.instantiable RX5 7 : Cond) ∈ zT := zT_mem (i := 10) (by decide +kernel) (by decide +kernel)
theorem k_p11 : (Cond.methodLink RL 89 yX5_init : Cond) ∈ zT := zT_mem (i := 11) (by decide +kernel) (by decide +kernel)
theorem k_13 : (Cond.instanceMethod yX5_init : Cond) ∈ zT := zT_mem (i := 12) (by decide +kernel) (by decide +kernel)
theorem k_14 : (Cond.code yX5_init cX5_init 1 (none : Option ClassFile.FieldType) : Cond) ∈ zT := zT_mem (i := 13) (by decide +kernel) (by decide +kernel)
theorem k_15 : (Cond.methodLink RX5 3 objectInit : Cond) ∈ zT := zT_mem (i := 14) (by decide +kernel) (by decide +kernel)
theorem k_16 : (Cond.instanceMethod objectInit : Cond) ∈ zT := zT_mem (i := 15) (by decide +kernel) (by decide +kernel)
theorem k_17 : (Cond.code objectInit ⟨#[0xb1]⟩ 1 (none : Option ClassFile.FieldType) : Cond) ∈ zT := zT_mem (i := 16) (by decide +kernel) (by decide +kernel)
theorem k_18 : (Cond.classLink RX5 9 RX2 : Cond) ∈ zT := zT_mem (i := 17) (by decide +kernel) (by decide +kernel)
theorem k_19 : (Cond.instantiable RX2 10 : Cond) ∈ zT := zT_mem (i := 18) (by decide +kernel) (by decide +kernel)
theorem k_20 : (Cond.methodLink RX5 11 yX2_init : Cond) ∈ zT := zT_mem (i := 19) (by decide +kernel) (by decide +kernel)
theorem k_21 : (Cond.instanceMethod yX2_init : Cond) ∈ zT := zT_mem (i := 20) (by decide +kernel) (by decide +kernel)
theorem k_22 : (Cond.code yX2_init cX2_init 2 (none : Option ClassFile.FieldType) : Cond) ∈ zT := zT_mem (i := 21) (by decide +kernel) (by decide +kernel)
theorem k_23 : (Cond.methodLink RX2 3 objectInit : Cond) ∈ zT := zT_mem (i := 22) (by decide +kernel) (by decide +kernel)
theorem k_26 : (Cond.methodLink RX2 13 ⟨"[I", "clone", "()Ljava/lang/Object;"⟩ : Cond) ∈ zT := zT_mem (i := 25) (by decide +kernel) (by decide +kernel)
theorem k_27 : (Cond.sameMethod "[I" "java/lang/Object" "clone" "()Ljava/lang/Object;" : Cond) ∈ zT := zT_mem (i := 26) (by decide +kernel) (by decide +kernel)
theorem k_28 : (Cond.native ⟨"java/lang/Object", "clone", "()Ljava/lang/Object;"⟩ : Cond) ∈ zT := zT_mem (i := 27) (by decide +kernel) (by decide +kernel)
theorem k_29 : (Cond.instanceMethod ⟨"java/lang/Object", "clone", "()Ljava/lang/Object;"⟩ : Cond) ∈ zT := zT_mem (i := 28) (by decide +kernel) (by decide +kernel)
theorem k_30 : (Cond.selects "[I" ⟨"[I", "clone", "()Ljava/lang/Object;"⟩ ⟨"java/lang/Object", "clone", "()Ljava/lang/Object;"⟩ : Cond) ∈ zT := zT_mem (i := 29) (by decide +kernel) (by decide +kernel)
theorem k_32 : (Cond.classLink RX2 14 "[I" : Cond) ∈ zT := zT_mem (i := 31) (by decide +kernel) (by decide +kernel)
theorem k_33 : (Cond.classLink RX2 23 RX0 : Cond) ∈ zT := zT_mem (i := 32) (by decide +kernel) (by decide +kernel)
theorem k_35 : (Cond.instantiable RX0 9 : Cond) ∈ zT := zT_mem (i := 34) (by decide +kernel) (by decide +kernel)
theorem k_36 : (Cond.methodLink RX2 29 yX0_init : Cond) ∈ zT := zT_mem (i := 35) (by decide +kernel) (by decide +kernel)
theorem k_37 : (Cond.instanceMethod yX0_init : Cond) ∈ zT := zT_mem (i := 36) (by decide +kernel) (by decide +kernel)
theorem k_38 : (Cond.code yX0_init cX0_init 1 (none : Option ClassFile.FieldType) : Cond) ∈ zT := zT_mem (i := 37) (by decide +kernel) (by decide +kernel)
theorem k_39 : (Cond.methodLink RX0 3 objectInit : Cond) ∈ zT := zT_mem (i := 38) (by decide +kernel) (by decide +kernel)
theorem k_40 : (Cond.fieldLink RX0 9 "AllowanceBook$Firm" "held" "[I" : Cond) ∈ zT := zT_mem (i := 39) (by decide +kernel) (by decide +kernel)
theorem k_41 : (Cond.fieldLink RX3 46 "AllowanceBook$Firm" "held" "[I" : Cond) ∈ zT := zT_mem (i := 40) (by decide +kernel) (by decide +kernel)
theorem k_42 : (Cond.fieldLink RX5 77 "AllowanceBook$Firm" "held" "[I" : Cond) ∈ zT := zT_mem (i := 41) (by decide +kernel) (by decide +kernel)
theorem k_43 : (Cond.fieldLink RX2 66 "AllowanceBook$Firm" "held" "[I" : Cond) ∈ zT := zT_mem (i := 42) (by decide +kernel) (by decide +kernel)
theorem k_44 : (Cond.fieldLink RX0 15 "AllowanceBook$Firm" "offsetsHeld" "[I" : Cond) ∈ zT := zT_mem (i := 43) (by decide +kernel) (by decide +kernel)
theorem k_45 : (Cond.fieldLink RX5 88 "AllowanceBook$Firm" "offsetsHeld" "[I" : Cond) ∈ zT := zT_mem (i := 44) (by decide +kernel) (by decide +kernel)
theorem k_46 : (Cond.fieldLink RX2 77 "AllowanceBook$Firm" "offsetsHeld" "[I" : Cond) ∈ zT := zT_mem (i := 45) (by decide +kernel) (by decide +kernel)
theorem k_47 : (Cond.fieldLink RX0 18 "AllowanceBook$Firm" "offsetsUsed" "[I" : Cond) ∈ zT := zT_mem (i := 46) (by decide +kernel) (by decide +kernel)
theorem k_48 : (Cond.fieldLink RX2 80 "AllowanceBook$Firm" "offsetsUsed" "[I" : Cond) ∈ zT := zT_mem (i := 47) (by decide +kernel) (by decide +kernel)
theorem k_49 : (Cond.fieldLink RX5 204 "AllowanceBook$Firm" "offsetsUsed" "[I" : Cond) ∈ zT := zT_mem (i := 48) (by decide +kernel) (by decide +kernel)
theorem k_50 : (Cond.fieldLink RX0 47 "AllowanceBook$Firm" "reported" "I" : Cond) ∈ zT := zT_mem (i := 49) (by decide +kernel) (by decide +kernel)
theorem k_51 : (Cond.fieldLink RX5 107 "AllowanceBook$Firm" "reported" "I" : Cond) ∈ zT := zT_mem (i := 50) (by decide +kernel) (by decide +kernel)
theorem k_52 : (Cond.fieldLink RX0 50 "AllowanceBook$Firm" "verified" "I" : Cond) ∈ zT := zT_mem (i := 51) (by decide +kernel) (by decide +kernel)
theorem k_53 : (Cond.fieldLink RX5 110 "AllowanceBook$Firm" "verified" "I" : Cond) ∈ zT := zT_mem (i := 52) (by decide +kernel) (by decide +kernel)
theorem k_54 : (Cond.fieldLink RX0 21 "AllowanceBook$Firm" "base" "I" : Cond) ∈ zT := zT_mem (i := 53) (by decide +kernel) (by decide +kernel)
theorem k_55 : (Cond.fieldLink RX5 190 "AllowanceBook$Firm" "base" "I" : Cond) ∈ zT := zT_mem (i := 54) (by decide +kernel) (by decide +kernel)
theorem k_56 : (Cond.fieldLink RX0 44 "AllowanceBook$Firm" "due" "I" : Cond) ∈ zT := zT_mem (i := 55) (by decide +kernel) (by decide +kernel)
theorem k_57 : (Cond.fieldLink RX2 100 "AllowanceBook$Firm" "due" "I" : Cond) ∈ zT := zT_mem (i := 56) (by decide +kernel) (by decide +kernel)
theorem k_58 : (Cond.fieldLink RX5 116 "AllowanceBook$Firm" "due" "I" : Cond) ∈ zT := zT_mem (i := 57) (by decide +kernel) (by decide +kernel)
theorem k_59 : (Cond.fieldLink RX5 130 "AllowanceBook$Firm" "surrendered" "I" : Cond) ∈ zT := zT_mem (i := 58) (by decide +kernel) (by decide +kernel)
theorem k_60 : (Cond.fieldLink RX2 103 "AllowanceBook$Firm" "fines" "I" : Cond) ∈ zT := zT_mem (i := 59) (by decide +kernel) (by decide +kernel)
theorem k_61 : (Cond.fieldLink RX5 193 "AllowanceBook$Firm" "fines" "I" : Cond) ∈ zT := zT_mem (i := 60) (by decide +kernel) (by decide +kernel)
theorem k_62 : (Cond.laysFinal RX0 "AllowanceBook$Firm" "held" "[I" : Cond) ∈ zT := zT_mem (i := 61) (by decide +kernel) (by decide +kernel)
theorem k_64 : (Cond.laysFinal RX0 "AllowanceBook$Firm" "offsetsHeld" "[I" : Cond) ∈ zT := zT_mem (i := 63) (by decide +kernel) (by decide +kernel)
theorem k_66 : (Cond.laysFinal RX0 "AllowanceBook$Firm" "offsetsUsed" "[I" : Cond) ∈ zT := zT_mem (i := 65) (by decide +kernel) (by decide +kernel)
theorem k_68 : (Cond.lays RX0 "AllowanceBook$Firm" "reported" "I" : Cond) ∈ zT := zT_mem (i := 67) (by decide +kernel) (by decide +kernel)
theorem k_70 : (Cond.lays RX0 "AllowanceBook$Firm" "verified" "I" : Cond) ∈ zT := zT_mem (i := 69) (by decide +kernel) (by decide +kernel)
theorem k_72 : (Cond.lays RX0 "AllowanceBook$Firm" "base" "I" : Cond) ∈ zT := zT_mem (i := 71) (by decide +kernel) (by decide +kernel)
theorem k_74 : (Cond.lays RX0 "AllowanceBook$Firm" "due" "I" : Cond) ∈ zT := zT_mem (i := 73) (by decide +kernel) (by decide +kernel)
theorem k_76 : (Cond.lays RX0 "AllowanceBook$Firm" "surrendered" "I" : Cond) ∈ zT := zT_mem (i := 75) (by decide +kernel) (by decide +kernel)
theorem k_78 : (Cond.lays RX0 "AllowanceBook$Firm" "fines" "I" : Cond) ∈ zT := zT_mem (i := 77) (by decide +kernel) (by decide +kernel)
theorem k_81 : (Cond.arrayClass .int : Cond) ∈ zT := zT_mem (i := 80) (by decide +kernel) (by decide +kernel)
theorem k_82 : (Cond.fieldLink RX2 52 "AllowanceBook$State" "month" "I" : Cond) ∈ zT := zT_mem (i := 81) (by decide +kernel) (by decide +kernel)
theorem k_83 : (Cond.fieldLink RX5 133 "AllowanceBook$State" "month" "I" : Cond) ∈ zT := zT_mem (i := 82) (by decide +kernel) (by decide +kernel)
theorem k_84 : (Cond.fieldLink RX5 47 "AllowanceBook$State" "firmCount" "I" : Cond) ∈ zT := zT_mem (i := 83) (by decide +kernel) (by decide +kernel)
theorem k_85 : (Cond.fieldLink RX2 48 "AllowanceBook$State" "firmCount" "I" : Cond) ∈ zT := zT_mem (i := 84) (by decide +kernel) (by decide +kernel)
theorem k_86 : (Cond.fieldLink RX2 18 "AllowanceBook$State" "settings" "[I" : Cond) ∈ zT := zT_mem (i := 85) (by decide +kernel) (by decide +kernel)
theorem k_87 : (Cond.fieldLink RX5 62 "AllowanceBook$State" "settings" "[I" : Cond) ∈ zT := zT_mem (i := 86) (by decide +kernel) (by decide +kernel)
theorem k_88 : (Cond.fieldLink RX2 25 "AllowanceBook$State" "firms" "[LAllowanceBook$Firm;" : Cond) ∈ zT := zT_mem (i := 87) (by decide +kernel) (by decide +kernel)
theorem k_89 : (Cond.fieldLink RX5 262 "AllowanceBook$State" "firms" "[LAllowanceBook$Firm;" : Cond) ∈ zT := zT_mem (i := 88) (by decide +kernel) (by decide +kernel)
theorem k_90 : (Cond.fieldLink RX2 30 "AllowanceBook$State" "issued" "[I" : Cond) ∈ zT := zT_mem (i := 89) (by decide +kernel) (by decide +kernel)
theorem k_91 : (Cond.fieldLink RX5 82 "AllowanceBook$State" "issued" "[I" : Cond) ∈ zT := zT_mem (i := 90) (by decide +kernel) (by decide +kernel)
theorem k_92 : (Cond.fieldLink RX2 33 "AllowanceBook$State" "surrendered" "[I" : Cond) ∈ zT := zT_mem (i := 91) (by decide +kernel) (by decide +kernel)
theorem k_93 : (Cond.fieldLink RX5 211 "AllowanceBook$State" "surrendered" "[I" : Cond) ∈ zT := zT_mem (i := 92) (by decide +kernel) (by decide +kernel)
theorem k_94 : (Cond.fieldLink RX2 36 "AllowanceBook$State" "cancelled" "[I" : Cond) ∈ zT := zT_mem (i := 93) (by decide +kernel) (by decide +kernel)
theorem k_95 : (Cond.fieldLink RX5 104 "AllowanceBook$State" "cancelled" "[I" : Cond) ∈ zT := zT_mem (i := 94) (by decide +kernel) (by decide +kernel)
theorem k_96 : (Cond.fieldLink RX2 39 "AllowanceBook$State" "lost" "[I" : Cond) ∈ zT := zT_mem (i := 95) (by decide +kernel) (by decide +kernel)
theorem k_97 : (Cond.fieldLink RX5 213 "AllowanceBook$State" "lost" "[I" : Cond) ∈ zT := zT_mem (i := 96) (by decide +kernel) (by decide +kernel)
theorem k_98 : (Cond.fieldLink RX2 42 "AllowanceBook$State" "offsetsIssued" "[I" : Cond) ∈ zT := zT_mem (i := 97) (by decide +kernel) (by decide +kernel)
theorem k_99 : (Cond.fieldLink RX5 91 "AllowanceBook$State" "offsetsIssued" "[I" : Cond) ∈ zT := zT_mem (i := 98) (by decide +kernel) (by decide +kernel)
theorem k_100 : (Cond.fieldLink RX2 45 "AllowanceBook$State" "offsetsSurrendered" "[I" : Cond) ∈ zT := zT_mem (i := 99) (by decide +kernel) (by decide +kernel)
theorem k_101 : (Cond.fieldLink RX5 225 "AllowanceBook$State" "offsetsSurrendered" "[I" : Cond) ∈ zT := zT_mem (i := 100) (by decide +kernel) (by decide +kernel)
theorem k_102 : (Cond.lays RX2 "AllowanceBook$State" "month" "I" : Cond) ∈ zT := zT_mem (i := 101) (by decide +kernel) (by decide +kernel)
theorem k_104 : (Cond.lays RX2 "AllowanceBook$State" "firmCount" "I" : Cond) ∈ zT := zT_mem (i := 103) (by decide +kernel) (by decide +kernel)
theorem k_106 : (Cond.laysFinal RX2 "AllowanceBook$State" "settings" "[I" : Cond) ∈ zT := zT_mem (i := 105) (by decide +kernel) (by decide +kernel)
theorem k_108 : (Cond.laysFinal RX2 "AllowanceBook$State" "firms" "[LAllowanceBook$Firm;" : Cond) ∈ zT := zT_mem (i := 107) (by decide +kernel) (by decide +kernel)
theorem k_110 : (Cond.laysFinal RX2 "AllowanceBook$State" "issued" "[I" : Cond) ∈ zT := zT_mem (i := 109) (by decide +kernel) (by decide +kernel)
theorem k_112 : (Cond.laysFinal RX2 "AllowanceBook$State" "surrendered" "[I" : Cond) ∈ zT := zT_mem (i := 111) (by decide +kernel) (by decide +kernel)
theorem k_114 : (Cond.laysFinal RX2 "AllowanceBook$State" "cancelled" "[I" : Cond) ∈ zT := zT_mem (i := 113) (by decide +kernel) (by decide +kernel)
theorem k_116 : (Cond.laysFinal RX2 "AllowanceBook$State" "lost" "[I" : Cond) ∈ zT := zT_mem (i := 115) (by decide +kernel) (by decide +kernel)
theorem k_118 : (Cond.laysFinal RX2 "AllowanceBook$State" "offsetsIssued" "[I" : Cond) ∈ zT := zT_mem (i := 117) (by decide +kernel) (by decide +kernel)
theorem k_120 : (Cond.laysFinal RX2 "AllowanceBook$State" "offsetsSurrendered" "[I" : Cond) ∈ zT := zT_mem (i := 119) (by decide +kernel) (by decide +kernel)
theorem k_123 : (Cond.classLink RX5 22 RX1 : Cond) ∈ zT := zT_mem (i := 122) (by decide +kernel) (by decide +kernel)
theorem k_124 : (Cond.instantiable RX1 3 : Cond) ∈ zT := zT_mem (i := 123) (by decide +kernel) (by decide +kernel)
theorem k_125 : (Cond.methodLink RX5 24 yX1_init : Cond) ∈ zT := zT_mem (i := 124) (by decide +kernel) (by decide +kernel)
theorem k_126 : (Cond.instanceMethod yX1_init : Cond) ∈ zT := zT_mem (i := 125) (by decide +kernel) (by decide +kernel)
theorem k_127 : (Cond.code yX1_init cX1_init 2 (none : Option ClassFile.FieldType) : Cond) ∈ zT := zT_mem (i := 126) (by decide +kernel) (by decide +kernel)
theorem k_128 : (Cond.methodLink RX1 3 objectInit : Cond) ∈ zT := zT_mem (i := 127) (by decide +kernel) (by decide +kernel)
theorem k_129 : (Cond.classLink RX1 9 RX2 : Cond) ∈ zT := zT_mem (i := 128) (by decide +kernel) (by decide +kernel)
theorem k_131 : (Cond.methodLink RX1 17 yX2_init : Cond) ∈ zT := zT_mem (i := 130) (by decide +kernel) (by decide +kernel)
theorem k_132 : (Cond.fieldLink RX1 11 "AllowanceBook$History" "rows" "[LAllowanceBook$State;" : Cond) ∈ zT := zT_mem (i := 131) (by decide +kernel) (by decide +kernel)
theorem k_133 : (Cond.fieldLink RX1 26 "AllowanceBook$History" "size" "I" : Cond) ∈ zT := zT_mem (i := 132) (by decide +kernel) (by decide +kernel)
theorem k_134 : (Cond.fieldLink RX5 172 "AllowanceBook$History" "size" "I" : Cond) ∈ zT := zT_mem (i := 133) (by decide +kernel) (by decide +kernel)
theorem k_135 : (Cond.fieldLink RX1 18 "AllowanceBook$History" "next" "I" : Cond) ∈ zT := zT_mem (i := 134) (by decide +kernel) (by decide +kernel)
theorem k_136 : (Cond.laysFinal RX1 "AllowanceBook$History" "rows" "[LAllowanceBook$State;" : Cond) ∈ zT := zT_mem (i := 135) (by decide +kernel) (by decide +kernel)
theorem k_138 : (Cond.lays RX1 "AllowanceBook$History" "size" "I" : Cond) ∈ zT := zT_mem (i := 137) (by decide +kernel) (by decide +kernel)
theorem k_140 : (Cond.lays RX1 "AllowanceBook$History" "next" "I" : Cond) ∈ zT := zT_mem (i := 139) (by decide +kernel) (by decide +kernel)
theorem k_143 : (Cond.classLink RX5 29 RX3 : Cond) ∈ zT := zT_mem (i := 142) (by decide +kernel) (by decide +kernel)
theorem k_144 : (Cond.instantiable RX3 6 : Cond) ∈ zT := zT_mem (i := 143) (by decide +kernel) (by decide +kernel)
theorem k_145 : (Cond.methodLink RX5 31 yX3_init : Cond) ∈ zT := zT_mem (i := 144) (by decide +kernel) (by decide +kernel)
theorem k_146 : (Cond.instanceMethod yX3_init : Cond) ∈ zT := zT_mem (i := 145) (by decide +kernel) (by decide +kernel)
theorem k_147 : (Cond.code yX3_init cX3_init 1 (none : Option ClassFile.FieldType) : Cond) ∈ zT := zT_mem (i := 146) (by decide +kernel) (by decide +kernel)
theorem k_148 : (Cond.methodLink RX3 3 objectInit : Cond) ∈ zT := zT_mem (i := 147) (by decide +kernel) (by decide +kernel)
theorem k_149 : (Cond.fieldLink RX3 9 "AllowanceBook$Taking" "allowancesTaken" "[I" : Cond) ∈ zT := zT_mem (i := 148) (by decide +kernel) (by decide +kernel)
theorem k_150 : (Cond.fieldLink RX2 69 "AllowanceBook$Taking" "allowancesTaken" "[I" : Cond) ∈ zT := zT_mem (i := 149) (by decide +kernel) (by decide +kernel)
theorem k_151 : (Cond.fieldLink RX3 15 "AllowanceBook$Taking" "offsetsTaken" "[I" : Cond) ∈ zT := zT_mem (i := 150) (by decide +kernel) (by decide +kernel)
theorem k_152 : (Cond.fieldLink RX2 74 "AllowanceBook$Taking" "offsetsTaken" "[I" : Cond) ∈ zT := zT_mem (i := 151) (by decide +kernel) (by decide +kernel)
theorem k_153 : (Cond.fieldLink RX5 234 "AllowanceBook$Taking" "offsetsTaken" "[I" : Cond) ∈ zT := zT_mem (i := 152) (by decide +kernel) (by decide +kernel)
theorem k_154 : (Cond.fieldLink RX3 22 "AllowanceBook$Taking" "allAllowances" "I" : Cond) ∈ zT := zT_mem (i := 153) (by decide +kernel) (by decide +kernel)
theorem k_155 : (Cond.fieldLink RX5 231 "AllowanceBook$Taking" "allAllowances" "I" : Cond) ∈ zT := zT_mem (i := 154) (by decide +kernel) (by decide +kernel)
theorem k_156 : (Cond.fieldLink RX3 25 "AllowanceBook$Taking" "vintagesTouched" "I" : Cond) ∈ zT := zT_mem (i := 155) (by decide +kernel) (by decide +kernel)
theorem k_157 : (Cond.fieldLink RX5 237 "AllowanceBook$Taking" "vintagesTouched" "I" : Cond) ∈ zT := zT_mem (i := 156) (by decide +kernel) (by decide +kernel)
theorem k_158 : (Cond.fieldLink RX3 28 "AllowanceBook$Taking" "firstTouched" "I" : Cond) ∈ zT := zT_mem (i := 157) (by decide +kernel) (by decide +kernel)
theorem k_159 : (Cond.fieldLink RX5 240 "AllowanceBook$Taking" "firstTouched" "I" : Cond) ∈ zT := zT_mem (i := 158) (by decide +kernel) (by decide +kernel)
theorem k_160 : (Cond.fieldLink RX3 18 "AllowanceBook$Taking" "missing" "I" : Cond) ∈ zT := zT_mem (i := 159) (by decide +kernel) (by decide +kernel)
theorem k_161 : (Cond.fieldLink RX5 123 "AllowanceBook$Taking" "missing" "I" : Cond) ∈ zT := zT_mem (i := 160) (by decide +kernel) (by decide +kernel)
theorem k_162 : (Cond.laysFinal RX3 "AllowanceBook$Taking" "allowancesTaken" "[I" : Cond) ∈ zT := zT_mem (i := 161) (by decide +kernel) (by decide +kernel)
theorem k_164 : (Cond.laysFinal RX3 "AllowanceBook$Taking" "offsetsTaken" "[I" : Cond) ∈ zT := zT_mem (i := 163) (by decide +kernel) (by decide +kernel)
theorem k_166 : (Cond.lays RX3 "AllowanceBook$Taking" "allAllowances" "I" : Cond) ∈ zT := zT_mem (i := 165) (by decide +kernel) (by decide +kernel)
theorem k_168 : (Cond.lays RX3 "AllowanceBook$Taking" "vintagesTouched" "I" : Cond) ∈ zT := zT_mem (i := 167) (by decide +kernel) (by decide +kernel)
theorem k_170 : (Cond.lays RX3 "AllowanceBook$Taking" "firstTouched" "I" : Cond) ∈ zT := zT_mem (i := 169) (by decide +kernel) (by decide +kernel)
theorem k_172 : (Cond.lays RX3 "AllowanceBook$Taking" "missing" "I" : Cond) ∈ zT := zT_mem (i := 171) (by decide +kernel) (by decide +kernel)
theorem k_175 : (Cond.classLink RX5 36 RX4 : Cond) ∈ zT := zT_mem (i := 174) (by decide +kernel) (by decide +kernel)
theorem k_176 : (Cond.instantiable RX4 8 : Cond) ∈ zT := zT_mem (i := 175) (by decide +kernel) (by decide +kernel)
theorem k_177 : (Cond.methodLink RX5 38 yX4_init : Cond) ∈ zT := zT_mem (i := 176) (by decide +kernel) (by decide +kernel)
theorem k_178 : (Cond.instanceMethod yX4_init : Cond) ∈ zT := zT_mem (i := 177) (by decide +kernel) (by decide +kernel)
theorem k_179 : (Cond.code yX4_init cX4_init 1 (none : Option ClassFile.FieldType) : Cond) ∈ zT := zT_mem (i := 178) (by decide +kernel) (by decide +kernel)
theorem k_180 : (Cond.methodLink RX4 3 objectInit : Cond) ∈ zT := zT_mem (i := 179) (by decide +kernel) (by decide +kernel)
theorem k_181 : (Cond.fieldLink RX4 9 "AllowanceBook$Text" "characters" "[C" : Cond) ∈ zT := zT_mem (i := 180) (by decide +kernel) (by decide +kernel)
theorem k_184 : (Cond.fieldLink RX5 139 "AllowanceBook$Text" "length" "I" : Cond) ∈ zT := zT_mem (i := 181) (by decide +kernel) (by decide +kernel)
theorem k_185 : (Cond.fieldLink RX4 15 "AllowanceBook$Text" "froms" "[I" : Cond) ∈ zT := zT_mem (i := 182) (by decide +kernel) (by decide +kernel)
theorem k_187 : (Cond.fieldLink RX4 19 "AllowanceBook$Text" "tos" "[I" : Cond) ∈ zT := zT_mem (i := 183) (by decide +kernel) (by decide +kernel)
theorem k_189 : (Cond.fieldLink RX4 22 "AllowanceBook$Text" "vintages" "[I" : Cond) ∈ zT := zT_mem (i := 184) (by decide +kernel) (by decide +kernel)
theorem k_191 : (Cond.fieldLink RX4 25 "AllowanceBook$Text" "tonnes" "[I" : Cond) ∈ zT := zT_mem (i := 185) (by decide +kernel) (by decide +kernel)
theorem k_197 : (Cond.laysFinal RX4 "AllowanceBook$Text" "characters" "[C" : Cond) ∈ zT := zT_mem (i := 186) (by decide +kernel) (by decide +kernel)
theorem k_199 : (Cond.lays RX4 "AllowanceBook$Text" "length" "I" : Cond) ∈ zT := zT_mem (i := 188) (by decide +kernel) (by decide +kernel)
end
section
theorem k_201 : (Cond.laysFinal RX4 "AllowanceBook$Text" "froms" "[I" : Cond) ∈ zT := zT_mem (i := 190) (by decide +kernel) (by decide +kernel)
theorem k_203 : (Cond.laysFinal RX4 "AllowanceBook$Text" "tos" "[I" : Cond) ∈ zT := zT_mem (i := 192) (by decide +kernel) (by decide +kernel)
theorem k_205 : (Cond.laysFinal RX4 "AllowanceBook$Text" "vintages" "[I" : Cond) ∈ zT := zT_mem (i := 194) (by decide +kernel) (by decide +kernel)
theorem k_207 : (Cond.laysFinal RX4 "AllowanceBook$Text" "tonnes" "[I" : Cond) ∈ zT := zT_mem (i := 196) (by decide +kernel) (by decide +kernel)
theorem k_209 : (Cond.lays RX4 "AllowanceBook$Text" "transfers" "I" : Cond) ∈ zT := zT_mem (i := 198) (by decide +kernel) (by decide +kernel)
theorem k_211 : (Cond.lays RX4 "AllowanceBook$Text" "at" "I" : Cond) ∈ zT := zT_mem (i := 200) (by decide +kernel) (by decide +kernel)
theorem k_214 : (Cond.arrayClass .char : Cond) ∈ zT := zT_mem (i := 203) (by decide +kernel) (by decide +kernel)
theorem k_215 : (Cond.fieldLink RX5 12 "AllowanceBook" "present" "LAllowanceBook$State;" : Cond) ∈ zT := zT_mem (i := 204) (by decide +kernel) (by decide +kernel)
theorem k_216 : (Cond.fieldLink RX5 16 "AllowanceBook" "kept" "LAllowanceBook$State;" : Cond) ∈ zT := zT_mem (i := 205) (by decide +kernel) (by decide +kernel)
theorem k_217 : (Cond.fieldLink RX5 19 "AllowanceBook" "trial" "LAllowanceBook$State;" : Cond) ∈ zT := zT_mem (i := 206) (by decide +kernel) (by decide +kernel)
theorem k_218 : (Cond.fieldLink RX5 25 "AllowanceBook" "past" "LAllowanceBook$History;" : Cond) ∈ zT := zT_mem (i := 207) (by decide +kernel) (by decide +kernel)
theorem k_219 : (Cond.fieldLink RX5 32 "AllowanceBook" "taking" "LAllowanceBook$Taking;" : Cond) ∈ zT := zT_mem (i := 208) (by decide +kernel) (by decide +kernel)
theorem k_220 : (Cond.fieldLink RX5 39 "AllowanceBook" "text" "LAllowanceBook$Text;" : Cond) ∈ zT := zT_mem (i := 209) (by decide +kernel) (by decide +kernel)
theorem k_221 : (Cond.fieldLink RX5 43 "AllowanceBook" "hasKept" "Z" : Cond) ∈ zT := zT_mem (i := 210) (by decide +kernel) (by decide +kernel)
theorem k_222 : (Cond.laysFinal RX5 "AllowanceBook" "present" "LAllowanceBook$State;" : Cond) ∈ zT := zT_mem (i := 211) (by decide +kernel) (by decide +kernel)
theorem k_224 : (Cond.laysFinal RX5 "AllowanceBook" "kept" "LAllowanceBook$State;" : Cond) ∈ zT := zT_mem (i := 213) (by decide +kernel) (by decide +kernel)
theorem k_226 : (Cond.laysFinal RX5 "AllowanceBook" "trial" "LAllowanceBook$State;" : Cond) ∈ zT := zT_mem (i := 215) (by decide +kernel) (by decide +kernel)
theorem k_228 : (Cond.laysFinal RX5 "AllowanceBook" "past" "LAllowanceBook$History;" : Cond) ∈ zT := zT_mem (i := 217) (by decide +kernel) (by decide +kernel)
theorem k_230 : (Cond.laysFinal RX5 "AllowanceBook" "taking" "LAllowanceBook$Taking;" : Cond) ∈ zT := zT_mem (i := 219) (by decide +kernel) (by decide +kernel)
theorem k_232 : (Cond.laysFinal RX5 "AllowanceBook" "text" "LAllowanceBook$Text;" : Cond) ∈ zT := zT_mem (i := 221) (by decide +kernel) (by decide +kernel)
theorem k_234 : (Cond.lays RX5 "AllowanceBook" "hasKept" "Z" : Cond) ∈ zT := zT_mem (i := 223) (by decide +kernel) (by decide +kernel)
theorem k_427 : (Cond.methodLink RL 83 yX5_addFirm : Cond) ∈ zT := zT_mem (i := 226) (by decide +kernel) (by decide +kernel)
theorem k_238 : (Cond.instanceMethod yX5_addFirm : Cond) ∈ zT := zT_mem (i := 227) (by decide +kernel) (by decide +kernel)
theorem k_239 : (Cond.selects RX5 yX5_addFirm yX5_addFirm : Cond) ∈ zT := zT_mem (i := 228) (by decide +kernel) (by decide +kernel)
theorem k_240 : (Cond.code yX5_addFirm cX5_addFirm 1 (some .int) : Cond) ∈ zT := zT_mem (i := 229) (by decide +kernel) (by decide +kernel)
theorem k_241 : (Cond.methodLink RX5 51 yX1_push : Cond) ∈ zT := zT_mem (i := 230) (by decide +kernel) (by decide +kernel)
theorem k_242 : (Cond.instanceMethod yX1_push : Cond) ∈ zT := zT_mem (i := 231) (by decide +kernel) (by decide +kernel)
theorem k_243 : (Cond.selects RX1 yX1_push yX1_push : Cond) ∈ zT := zT_mem (i := 232) (by decide +kernel) (by decide +kernel)
theorem k_244 : (Cond.code yX1_push cX1_push 2 (none : Option ClassFile.FieldType) : Cond) ∈ zT := zT_mem (i := 233) (by decide +kernel) (by decide +kernel)
theorem k_246 : (Cond.static yX5_copyState : Cond) ∈ zT := zT_mem (i := 235) (by decide +kernel) (by decide +kernel)
theorem k_247 : (Cond.code yX5_copyState cX5_copyState 3 (none : Option ClassFile.FieldType) : Cond) ∈ zT := zT_mem (i := 236) (by decide +kernel) (by decide +kernel)
theorem k_248 : (Cond.methodLink RX5 258 yX5_copyNumbers : Cond) ∈ zT := zT_mem (i := 237) (by decide +kernel) (by decide +kernel)
theorem k_249 : (Cond.static yX5_copyNumbers : Cond) ∈ zT := zT_mem (i := 238) (by decide +kernel) (by decide +kernel)
theorem k_250 : (Cond.code yX5_copyNumbers cX5_copyNumbers 2 (none : Option ClassFile.FieldType) : Cond) ∈ zT := zT_mem (i := 239) (by decide +kernel) (by decide +kernel)
theorem k_251 : (Cond.methodLink RX5 270 Lib.Math.min.name : Cond) ∈ zT := zT_mem (i := 240) (by decide +kernel) (by decide +kernel)
theorem k_252 : (Cond.static Lib.Math.min.name : Cond) ∈ zT := zT_mem (i := 241) (by decide +kernel) (by decide +kernel)
theorem k_253 : (Cond.code Lib.Math.min.name Lib.Math.min.code 2 (some .int) : Cond) ∈ zT := zT_mem (i := 242) (by decide +kernel) (by decide +kernel)
theorem k_254 : (Cond.methodLink RX5 275 arraycopyName : Cond) ∈ zT := zT_mem (i := 243) (by decide +kernel) (by decide +kernel)
theorem k_255 : (Cond.static arraycopyName : Cond) ∈ zT := zT_mem (i := 244) (by decide +kernel) (by decide +kernel)
theorem k_256 : (Cond.native arraycopyName : Cond) ∈ zT := zT_mem (i := 245) (by decide +kernel) (by decide +kernel)
theorem k_257 : (Cond.methodLink RX5 266 yX5_copyFirm : Cond) ∈ zT := zT_mem (i := 246) (by decide +kernel) (by decide +kernel)
theorem k_258 : (Cond.static yX5_copyFirm : Cond) ∈ zT := zT_mem (i := 247) (by decide +kernel) (by decide +kernel)
theorem k_259 : (Cond.code yX5_copyFirm cX5_copyFirm 2 (none : Option ClassFile.FieldType) : Cond) ∈ zT := zT_mem (i := 248) (by decide +kernel) (by decide +kernel)
theorem k_260 : (Cond.methodLink RX1 29 Lib.Math.min.name : Cond) ∈ zT := zT_mem (i := 249) (by decide +kernel) (by decide +kernel)
theorem k_p250 : (Cond.methodLink RL 80 yX5_set : Cond) ∈ zT := zT_mem (i := 250) (by decide +kernel) (by decide +kernel)
theorem k_262 : (Cond.instanceMethod yX5_set : Cond) ∈ zT := zT_mem (i := 251) (by decide +kernel) (by decide +kernel)
theorem k_263 : (Cond.selects RX5 yX5_set yX5_set : Cond) ∈ zT := zT_mem (i := 252) (by decide +kernel) (by decide +kernel)
theorem k_264 : (Cond.code yX5_set cX5_set 4 (some .int) : Cond) ∈ zT := zT_mem (i := 253) (by decide +kernel) (by decide +kernel)
theorem k_265 : (Cond.fieldLink RX5 55 "AllowanceBook" "LEAST_SETTINGS" "[I" : Cond) ∈ zT := zT_mem (i := 254) (by decide +kernel) (by decide +kernel)
theorem k_267 : (Cond.fieldLink RX5 59 "AllowanceBook" "MOST_SETTINGS" "[I" : Cond) ∈ zT := zT_mem (i := 256) (by decide +kernel) (by decide +kernel)
theorem k_p258 : (Cond.methodLink RL 59 yX5_issue : Cond) ∈ zT := zT_mem (i := 258) (by decide +kernel) (by decide +kernel)
theorem k_270 : (Cond.instanceMethod yX5_issue : Cond) ∈ zT := zT_mem (i := 259) (by decide +kernel) (by decide +kernel)
theorem k_271 : (Cond.selects RX5 yX5_issue yX5_issue : Cond) ∈ zT := zT_mem (i := 260) (by decide +kernel) (by decide +kernel)
theorem k_272 : (Cond.code yX5_issue cX5_issue 5 (some .int) : Cond) ∈ zT := zT_mem (i := 261) (by decide +kernel) (by decide +kernel)
theorem k_273 : (Cond.methodLink RX5 65 yX2_firmAt : Cond) ∈ zT := zT_mem (i := 262) (by decide +kernel) (by decide +kernel)
theorem k_274 : (Cond.instanceMethod yX2_firmAt : Cond) ∈ zT := zT_mem (i := 263) (by decide +kernel) (by decide +kernel)
theorem k_275 : (Cond.selects RX2 yX2_firmAt yX2_firmAt : Cond) ∈ zT := zT_mem (i := 264) (by decide +kernel) (by decide +kernel)
theorem k_276 : (Cond.code yX2_firmAt cX2_firmAt 2 (some (.object "AllowanceBook$Firm")) : Cond) ∈ zT := zT_mem (i := 265) (by decide +kernel) (by decide +kernel)
theorem k_277 : (Cond.methodLink RX5 69 yX5_isTonnes : Cond) ∈ zT := zT_mem (i := 266) (by decide +kernel) (by decide +kernel)
theorem k_278 : (Cond.static yX5_isTonnes : Cond) ∈ zT := zT_mem (i := 267) (by decide +kernel) (by decide +kernel)
theorem k_279 : (Cond.code yX5_isTonnes cX5_isTonnes 1 (some .boolean) : Cond) ∈ zT := zT_mem (i := 268) (by decide +kernel) (by decide +kernel)
theorem k_280 : (Cond.methodLink RX5 73 yX2_year : Cond) ∈ zT := zT_mem (i := 269) (by decide +kernel) (by decide +kernel)
theorem k_281 : (Cond.instanceMethod yX2_year : Cond) ∈ zT := zT_mem (i := 270) (by decide +kernel) (by decide +kernel)
theorem k_282 : (Cond.selects RX2 yX2_year yX2_year : Cond) ∈ zT := zT_mem (i := 271) (by decide +kernel) (by decide +kernel)
theorem k_283 : (Cond.code yX2_year cX2_year 1 (some .int) : Cond) ∈ zT := zT_mem (i := 272) (by decide +kernel) (by decide +kernel)
theorem k_699 : (Cond.methodLink RL 74 yX5_report : Cond) ∈ zT := zT_mem (i := 273) (by decide +kernel) (by decide +kernel)
theorem k_318 : (Cond.instanceMethod yX5_report : Cond) ∈ zT := zT_mem (i := 274) (by decide +kernel) (by decide +kernel)
theorem k_319 : (Cond.selects RX5 yX5_report yX5_report : Cond) ∈ zT := zT_mem (i := 275) (by decide +kernel) (by decide +kernel)
theorem k_320 : (Cond.code yX5_report cX5_report 4 (some .int) : Cond) ∈ zT := zT_mem (i := 276) (by decide +kernel) (by decide +kernel)
theorem k_585 : (Cond.methodLink RL 86 yX5_pass : Cond) ∈ zT := zT_mem (i := 277) (by decide +kernel) (by decide +kernel)
theorem k_358 : (Cond.instanceMethod yX5_pass : Cond) ∈ zT := zT_mem (i := 278) (by decide +kernel) (by decide +kernel)
theorem k_359 : (Cond.selects RX5 yX5_pass yX5_pass : Cond) ∈ zT := zT_mem (i := 279) (by decide +kernel) (by decide +kernel)
theorem k_360 : (Cond.code yX5_pass cX5_pass 4 (some .int) : Cond) ∈ zT := zT_mem (i := 280) (by decide +kernel) (by decide +kernel)
theorem k_361 : (Cond.methodLink RX5 136 yX2_beginMonth : Cond) ∈ zT := zT_mem (i := 281) (by decide +kernel) (by decide +kernel)
theorem k_362 : (Cond.instanceMethod yX2_beginMonth : Cond) ∈ zT := zT_mem (i := 282) (by decide +kernel) (by decide +kernel)
theorem k_363 : (Cond.selects RX2 yX2_beginMonth yX2_beginMonth : Cond) ∈ zT := zT_mem (i := 283) (by decide +kernel) (by decide +kernel)
theorem k_364 : (Cond.code yX2_beginMonth cX2_beginMonth 1 (some .int) : Cond) ∈ zT := zT_mem (i := 284) (by decide +kernel) (by decide +kernel)
theorem k_365 : (Cond.methodLink RX2 83 yX2_beginYear : Cond) ∈ zT := zT_mem (i := 285) (by decide +kernel) (by decide +kernel)
theorem k_366 : (Cond.instanceMethod yX2_beginYear : Cond) ∈ zT := zT_mem (i := 286) (by decide +kernel) (by decide +kernel)
theorem k_367 : (Cond.selects RX2 yX2_beginYear yX2_beginYear : Cond) ∈ zT := zT_mem (i := 287) (by decide +kernel) (by decide +kernel)
theorem k_368 : (Cond.code yX2_beginYear cX2_beginYear 5 (none : Option ClassFile.FieldType) : Cond) ∈ zT := zT_mem (i := 288) (by decide +kernel) (by decide +kernel)
theorem k_369 : (Cond.methodLink RX2 93 yX0_closeYear : Cond) ∈ zT := zT_mem (i := 289) (by decide +kernel) (by decide +kernel)
theorem k_370 : (Cond.instanceMethod yX0_closeYear : Cond) ∈ zT := zT_mem (i := 290) (by decide +kernel) (by decide +kernel)
theorem k_371 : (Cond.selects RX0 yX0_closeYear yX0_closeYear : Cond) ∈ zT := zT_mem (i := 291) (by decide +kernel) (by decide +kernel)
theorem k_372 : (Cond.code yX0_closeYear cX0_closeYear 3 (none : Option ClassFile.FieldType) : Cond) ∈ zT := zT_mem (i := 292) (by decide +kernel) (by decide +kernel)
theorem k_373 : (Cond.methodLink RX2 86 yX2_year : Cond) ∈ zT := zT_mem (i := 293) (by decide +kernel) (by decide +kernel)
theorem k_374 : (Cond.methodLink RX2 96 yX2_loseAll : Cond) ∈ zT := zT_mem (i := 294) (by decide +kernel) (by decide +kernel)
theorem k_375 : (Cond.instanceMethod yX2_loseAll : Cond) ∈ zT := zT_mem (i := 295) (by decide +kernel) (by decide +kernel)
theorem k_376 : (Cond.selects RX2 yX2_loseAll yX2_loseAll : Cond) ∈ zT := zT_mem (i := 296) (by decide +kernel) (by decide +kernel)
theorem k_377 : (Cond.code yX2_loseAll cX2_loseAll 6 (none : Option ClassFile.FieldType) : Cond) ∈ zT := zT_mem (i := 297) (by decide +kernel) (by decide +kernel)
theorem k_378 : (Cond.methodLink RX2 90 yX2_fineAll : Cond) ∈ zT := zT_mem (i := 298) (by decide +kernel) (by decide +kernel)
theorem k_379 : (Cond.instanceMethod yX2_fineAll : Cond) ∈ zT := zT_mem (i := 299) (by decide +kernel) (by decide +kernel)
theorem k_380 : (Cond.selects RX2 yX2_fineAll yX2_fineAll : Cond) ∈ zT := zT_mem (i := 300) (by decide +kernel) (by decide +kernel)
theorem k_381 : (Cond.code yX2_fineAll cX2_fineAll 7 (some .int) : Cond) ∈ zT := zT_mem (i := 301) (by decide +kernel) (by decide +kernel)
theorem k_p302 : (Cond.methodLink RL 55 yX5_undo : Cond) ∈ zT := zT_mem (i := 302) (by decide +kernel) (by decide +kernel)
theorem k_416 : (Cond.instanceMethod yX5_undo : Cond) ∈ zT := zT_mem (i := 303) (by decide +kernel) (by decide +kernel)
theorem k_417 : (Cond.selects RX5 yX5_undo yX5_undo : Cond) ∈ zT := zT_mem (i := 304) (by decide +kernel) (by decide +kernel)
theorem k_418 : (Cond.code yX5_undo cX5_undo 1 (some .int) : Cond) ∈ zT := zT_mem (i := 305) (by decide +kernel) (by decide +kernel)
theorem k_419 : (Cond.methodLink RX5 175 yX1_popInto : Cond) ∈ zT := zT_mem (i := 306) (by decide +kernel) (by decide +kernel)
theorem k_420 : (Cond.instanceMethod yX1_popInto : Cond) ∈ zT := zT_mem (i := 307) (by decide +kernel) (by decide +kernel)
theorem k_421 : (Cond.selects RX1 yX1_popInto yX1_popInto : Cond) ∈ zT := zT_mem (i := 308) (by decide +kernel) (by decide +kernel)
theorem k_422 : (Cond.code yX1_popInto cX1_popInto 2 (none : Option ClassFile.FieldType) : Cond) ∈ zT := zT_mem (i := 309) (by decide +kernel) (by decide +kernel)
theorem k_771 : (Cond.methodLink RL 106 yX5_keep : Cond) ∈ zT := zT_mem (i := 310) (by decide +kernel) (by decide +kernel)
theorem k_424 : (Cond.instanceMethod yX5_keep : Cond) ∈ zT := zT_mem (i := 311) (by decide +kernel) (by decide +kernel)
theorem k_425 : (Cond.selects RX5 yX5_keep yX5_keep : Cond) ∈ zT := zT_mem (i := 312) (by decide +kernel) (by decide +kernel)
theorem k_426 : (Cond.code yX5_keep cX5_keep 1 (some .int) : Cond) ∈ zT := zT_mem (i := 313) (by decide +kernel) (by decide +kernel)
theorem k_414 : (Cond.methodLink RX5 153 yX5_copyState : Cond) ∈ zT := zT_mem (i := 314) (by decide +kernel) (by decide +kernel)
theorem k_p315 : (Cond.methodLink RL 109 yX5_restore : Cond) ∈ zT := zT_mem (i := 315) (by decide +kernel) (by decide +kernel)
theorem k_428 : (Cond.instanceMethod yX5_restore : Cond) ∈ zT := zT_mem (i := 316) (by decide +kernel) (by decide +kernel)
theorem k_429 : (Cond.selects RX5 yX5_restore yX5_restore : Cond) ∈ zT := zT_mem (i := 317) (by decide +kernel) (by decide +kernel)
theorem k_430 : (Cond.code yX5_restore cX5_restore 1 (some .int) : Cond) ∈ zT := zT_mem (i := 318) (by decide +kernel) (by decide +kernel)
theorem k_261 : (Cond.methodLink RL 18 yX5_firm : Cond) ∈ zT := zT_mem (i := 319) (by decide +kernel) (by decide +kernel)
theorem k_432 : (Cond.instanceMethod yX5_firm : Cond) ∈ zT := zT_mem (i := 320) (by decide +kernel) (by decide +kernel)
theorem k_433 : (Cond.selects RX5 yX5_firm yX5_firm : Cond) ∈ zT := zT_mem (i := 321) (by decide +kernel) (by decide +kernel)
theorem k_434 : (Cond.code yX5_firm cX5_firm 4 (some .int) : Cond) ∈ zT := zT_mem (i := 322) (by decide +kernel) (by decide +kernel)
theorem k_435 : (Cond.methodLink RX5 178 yX0_allowances : Cond) ∈ zT := zT_mem (i := 323) (by decide +kernel) (by decide +kernel)
theorem k_436 : (Cond.instanceMethod yX0_allowances : Cond) ∈ zT := zT_mem (i := 324) (by decide +kernel) (by decide +kernel)
theorem k_437 : (Cond.selects RX0 yX0_allowances yX0_allowances : Cond) ∈ zT := zT_mem (i := 325) (by decide +kernel) (by decide +kernel)
theorem k_438 : (Cond.code yX0_allowances cX0_allowances 6 (some .int) : Cond) ∈ zT := zT_mem (i := 326) (by decide +kernel) (by decide +kernel)
theorem k_439 : (Cond.methodLink RX5 181 yX0_vintagesHeld : Cond) ∈ zT := zT_mem (i := 327) (by decide +kernel) (by decide +kernel)
theorem k_440 : (Cond.instanceMethod yX0_vintagesHeld : Cond) ∈ zT := zT_mem (i := 328) (by decide +kernel) (by decide +kernel)
theorem k_441 : (Cond.selects RX0 yX0_vintagesHeld yX0_vintagesHeld : Cond) ∈ zT := zT_mem (i := 329) (by decide +kernel) (by decide +kernel)
theorem k_442 : (Cond.code yX0_vintagesHeld cX0_vintagesHeld 6 (some .int) : Cond) ∈ zT := zT_mem (i := 330) (by decide +kernel) (by decide +kernel)
theorem k_443 : (Cond.methodLink RX5 184 yX0_oldestHeld : Cond) ∈ zT := zT_mem (i := 331) (by decide +kernel) (by decide +kernel)
theorem k_444 : (Cond.instanceMethod yX0_oldestHeld : Cond) ∈ zT := zT_mem (i := 332) (by decide +kernel) (by decide +kernel)
theorem k_445 : (Cond.selects RX0 yX0_oldestHeld yX0_oldestHeld : Cond) ∈ zT := zT_mem (i := 333) (by decide +kernel) (by decide +kernel)
theorem k_446 : (Cond.code yX0_oldestHeld cX0_oldestHeld 2 (some .int) : Cond) ∈ zT := zT_mem (i := 334) (by decide +kernel) (by decide +kernel)
theorem k_447 : (Cond.methodLink RX5 187 yX0_newestHeld : Cond) ∈ zT := zT_mem (i := 335) (by decide +kernel) (by decide +kernel)
theorem k_448 : (Cond.instanceMethod yX0_newestHeld : Cond) ∈ zT := zT_mem (i := 336) (by decide +kernel) (by decide +kernel)
theorem k_449 : (Cond.selects RX0 yX0_newestHeld yX0_newestHeld : Cond) ∈ zT := zT_mem (i := 337) (by decide +kernel) (by decide +kernel)
theorem k_450 : (Cond.code yX0_newestHeld cX0_newestHeld 2 (some .int) : Cond) ∈ zT := zT_mem (i := 338) (by decide +kernel) (by decide +kernel)
theorem k_451 : (Cond.methodLink RX5 196 yX0_dueAtBest : Cond) ∈ zT := zT_mem (i := 339) (by decide +kernel) (by decide +kernel)
theorem k_452 : (Cond.instanceMethod yX0_dueAtBest : Cond) ∈ zT := zT_mem (i := 340) (by decide +kernel) (by decide +kernel)
theorem k_453 : (Cond.selects RX0 yX0_dueAtBest yX0_dueAtBest : Cond) ∈ zT := zT_mem (i := 341) (by decide +kernel) (by decide +kernel)
theorem k_454 : (Cond.code yX0_dueAtBest cX0_dueAtBest 4 (some .int) : Cond) ∈ zT := zT_mem (i := 342) (by decide +kernel) (by decide +kernel)
theorem k_455 : (Cond.methodLink RX0 37 yX0_allowances : Cond) ∈ zT := zT_mem (i := 343) (by decide +kernel) (by decide +kernel)
theorem k_456 : (Cond.methodLink RX0 41 yX0_canUse : Cond) ∈ zT := zT_mem (i := 344) (by decide +kernel) (by decide +kernel)
theorem k_337 : (Cond.instanceMethod yX0_canUse : Cond) ∈ zT := zT_mem (i := 345) (by decide +kernel) (by decide +kernel)
theorem k_338 : (Cond.selects RX0 yX0_canUse yX0_canUse : Cond) ∈ zT := zT_mem (i := 346) (by decide +kernel) (by decide +kernel)
theorem k_339 : (Cond.code yX0_canUse cX0_canUse 3 (some .int) : Cond) ∈ zT := zT_mem (i := 347) (by decide +kernel) (by decide +kernel)
theorem k_340 : (Cond.methodLink RX0 31 yX0_mayUse : Cond) ∈ zT := zT_mem (i := 348) (by decide +kernel) (by decide +kernel)
theorem k_341 : (Cond.instanceMethod yX0_mayUse : Cond) ∈ zT := zT_mem (i := 349) (by decide +kernel) (by decide +kernel)
theorem k_342 : (Cond.selects RX0 yX0_mayUse yX0_mayUse : Cond) ∈ zT := zT_mem (i := 350) (by decide +kernel) (by decide +kernel)
theorem k_343 : (Cond.code yX0_mayUse cX0_mayUse 3 (some .int) : Cond) ∈ zT := zT_mem (i := 351) (by decide +kernel) (by decide +kernel)
theorem k_344 : (Cond.methodLink RX0 25 Lib.Math.max.name : Cond) ∈ zT := zT_mem (i := 352) (by decide +kernel) (by decide +kernel)
theorem k_345 : (Cond.static Lib.Math.max.name : Cond) ∈ zT := zT_mem (i := 353) (by decide +kernel) (by decide +kernel)
theorem k_346 : (Cond.code Lib.Math.max.name Lib.Math.max.code 2 (some .int) : Cond) ∈ zT := zT_mem (i := 354) (by decide +kernel) (by decide +kernel)
theorem k_347 : (Cond.methodLink RX0 34 Lib.Math.min.name : Cond) ∈ zT := zT_mem (i := 355) (by decide +kernel) (by decide +kernel)
theorem k_p356 : (Cond.methodLink RL 25 yX5_offsets : Cond) ∈ zT := zT_mem (i := 356) (by decide +kernel) (by decide +kernel)
theorem k_462 : (Cond.instanceMethod yX5_offsets : Cond) ∈ zT := zT_mem (i := 357) (by decide +kernel) (by decide +kernel)
theorem k_463 : (Cond.selects RX5 yX5_offsets yX5_offsets : Cond) ∈ zT := zT_mem (i := 358) (by decide +kernel) (by decide +kernel)
end
section
theorem k_464 : (Cond.code yX5_offsets cX5_offsets 5 (some .int) : Cond) ∈ zT := zT_mem (i := 359) (by decide +kernel) (by decide +kernel)
theorem k_288 : (Cond.methodLink RX5 85 yX5_isGrade : Cond) ∈ zT := zT_mem (i := 360) (by decide +kernel) (by decide +kernel)
theorem k_289 : (Cond.static yX5_isGrade : Cond) ∈ zT := zT_mem (i := 361) (by decide +kernel) (by decide +kernel)
theorem k_290 : (Cond.code yX5_isGrade cX5_isGrade 1 (some .boolean) : Cond) ∈ zT := zT_mem (i := 362) (by decide +kernel) (by decide +kernel)
theorem k_465 : (Cond.methodLink RX5 200 yX0_mayUse : Cond) ∈ zT := zT_mem (i := 363) (by decide +kernel) (by decide +kernel)
theorem k_p364 : (Cond.methodLink RL 29 yX5_vintage : Cond) ∈ zT := zT_mem (i := 364) (by decide +kernel) (by decide +kernel)
theorem k_467 : (Cond.instanceMethod yX5_vintage : Cond) ∈ zT := zT_mem (i := 365) (by decide +kernel) (by decide +kernel)
theorem k_468 : (Cond.selects RX5 yX5_vintage yX5_vintage : Cond) ∈ zT := zT_mem (i := 366) (by decide +kernel) (by decide +kernel)
theorem k_469 : (Cond.code yX5_vintage cX5_vintage 3 (some .int) : Cond) ∈ zT := zT_mem (i := 367) (by decide +kernel) (by decide +kernel)
theorem k_316 : (Cond.methodLink RX5 101 yX5_isVintage : Cond) ∈ zT := zT_mem (i := 368) (by decide +kernel) (by decide +kernel)
theorem k_301 : (Cond.static yX5_isVintage : Cond) ∈ zT := zT_mem (i := 369) (by decide +kernel) (by decide +kernel)
theorem k_302 : (Cond.code yX5_isVintage cX5_isVintage 1 (some .boolean) : Cond) ∈ zT := zT_mem (i := 370) (by decide +kernel) (by decide +kernel)
theorem k_470 : (Cond.methodLink RX5 207 yX2_heldOf : Cond) ∈ zT := zT_mem (i := 371) (by decide +kernel) (by decide +kernel)
theorem k_471 : (Cond.instanceMethod yX2_heldOf : Cond) ∈ zT := zT_mem (i := 372) (by decide +kernel) (by decide +kernel)
theorem k_472 : (Cond.selects RX2 yX2_heldOf yX2_heldOf : Cond) ∈ zT := zT_mem (i := 373) (by decide +kernel) (by decide +kernel)
theorem k_473 : (Cond.code yX2_heldOf cX2_heldOf 7 (some .int) : Cond) ∈ zT := zT_mem (i := 374) (by decide +kernel) (by decide +kernel)
theorem k_474 : (Cond.methodLink RX5 216 yX2_holdersOf : Cond) ∈ zT := zT_mem (i := 375) (by decide +kernel) (by decide +kernel)
theorem k_475 : (Cond.instanceMethod yX2_holdersOf : Cond) ∈ zT := zT_mem (i := 376) (by decide +kernel) (by decide +kernel)
theorem k_476 : (Cond.selects RX2 yX2_holdersOf yX2_holdersOf : Cond) ∈ zT := zT_mem (i := 377) (by decide +kernel) (by decide +kernel)
theorem k_477 : (Cond.code yX2_holdersOf cX2_holdersOf 7 (some .int) : Cond) ∈ zT := zT_mem (i := 378) (by decide +kernel) (by decide +kernel)
theorem k_478 : (Cond.methodLink RX5 219 yX2_monthsUntilLost : Cond) ∈ zT := zT_mem (i := 379) (by decide +kernel) (by decide +kernel)
theorem k_479 : (Cond.instanceMethod yX2_monthsUntilLost : Cond) ∈ zT := zT_mem (i := 380) (by decide +kernel) (by decide +kernel)
theorem k_480 : (Cond.selects RX2 yX2_monthsUntilLost yX2_monthsUntilLost : Cond) ∈ zT := zT_mem (i := 381) (by decide +kernel) (by decide +kernel)
theorem k_481 : (Cond.code yX2_monthsUntilLost cX2_monthsUntilLost 3 (some .int) : Cond) ∈ zT := zT_mem (i := 382) (by decide +kernel) (by decide +kernel)
theorem k_482 : (Cond.methodLink RX2 106 yX2_holdersOf : Cond) ∈ zT := zT_mem (i := 383) (by decide +kernel) (by decide +kernel)
theorem k_483 : (Cond.methodLink RX2 110 Lib.Math.max.name : Cond) ∈ zT := zT_mem (i := 384) (by decide +kernel) (by decide +kernel)
theorem k_291 : (Cond.methodLink RL 32 yX5_grade : Cond) ∈ zT := zT_mem (i := 385) (by decide +kernel) (by decide +kernel)
theorem k_485 : (Cond.instanceMethod yX5_grade : Cond) ∈ zT := zT_mem (i := 386) (by decide +kernel) (by decide +kernel)
theorem k_486 : (Cond.selects RX5 yX5_grade yX5_grade : Cond) ∈ zT := zT_mem (i := 387) (by decide +kernel) (by decide +kernel)
theorem k_487 : (Cond.code yX5_grade cX5_grade 3 (some .int) : Cond) ∈ zT := zT_mem (i := 388) (by decide +kernel) (by decide +kernel)
theorem k_488 : (Cond.methodLink RX5 222 yX2_offsetsHeldOf : Cond) ∈ zT := zT_mem (i := 389) (by decide +kernel) (by decide +kernel)
theorem k_489 : (Cond.instanceMethod yX2_offsetsHeldOf : Cond) ∈ zT := zT_mem (i := 390) (by decide +kernel) (by decide +kernel)
theorem k_490 : (Cond.selects RX2 yX2_offsetsHeldOf yX2_offsetsHeldOf : Cond) ∈ zT := zT_mem (i := 391) (by decide +kernel) (by decide +kernel)
theorem k_491 : (Cond.code yX2_offsetsHeldOf cX2_offsetsHeldOf 7 (some .int) : Cond) ∈ zT := zT_mem (i := 392) (by decide +kernel) (by decide +kernel)
theorem k_629 : (Cond.methodLink RL 36 yX5_holder : Cond) ∈ zT := zT_mem (i := 393) (by decide +kernel) (by decide +kernel)
theorem k_493 : (Cond.instanceMethod yX5_holder : Cond) ∈ zT := zT_mem (i := 394) (by decide +kernel) (by decide +kernel)
theorem k_494 : (Cond.selects RX5 yX5_holder yX5_holder : Cond) ∈ zT := zT_mem (i := 395) (by decide +kernel) (by decide +kernel)
theorem k_495 : (Cond.code yX5_holder cX5_holder 3 (some .int) : Cond) ∈ zT := zT_mem (i := 396) (by decide +kernel) (by decide +kernel)
theorem k_496 : (Cond.methodLink RX5 228 yX2_holderAt : Cond) ∈ zT := zT_mem (i := 397) (by decide +kernel) (by decide +kernel)
theorem k_497 : (Cond.instanceMethod yX2_holderAt : Cond) ∈ zT := zT_mem (i := 398) (by decide +kernel) (by decide +kernel)
theorem k_498 : (Cond.selects RX2 yX2_holderAt yX2_holderAt : Cond) ∈ zT := zT_mem (i := 399) (by decide +kernel) (by decide +kernel)
theorem k_499 : (Cond.code yX2_holderAt cX2_holderAt 4 (some .int) : Cond) ∈ zT := zT_mem (i := 400) (by decide +kernel) (by decide +kernel)
theorem k_500 : (Cond.methodLink RX2 116 yX2_holdersAhead : Cond) ∈ zT := zT_mem (i := 401) (by decide +kernel) (by decide +kernel)
theorem k_501 : (Cond.instanceMethod yX2_holdersAhead : Cond) ∈ zT := zT_mem (i := 402) (by decide +kernel) (by decide +kernel)
theorem k_502 : (Cond.selects RX2 yX2_holdersAhead yX2_holdersAhead : Cond) ∈ zT := zT_mem (i := 403) (by decide +kernel) (by decide +kernel)
theorem k_503 : (Cond.code yX2_holdersAhead cX2_holdersAhead 7 (some .int) : Cond) ∈ zT := zT_mem (i := 404) (by decide +kernel) (by decide +kernel)
theorem k_535 : (Cond.methodLink RL 12 yX5_count : Cond) ∈ zT := zT_mem (i := 405) (by decide +kernel) (by decide +kernel)
theorem k_509 : (Cond.instanceMethod yX5_count : Cond) ∈ zT := zT_mem (i := 406) (by decide +kernel) (by decide +kernel)
theorem k_510 : (Cond.selects RX5 yX5_count yX5_count : Cond) ∈ zT := zT_mem (i := 407) (by decide +kernel) (by decide +kernel)
theorem k_511 : (Cond.code yX5_count cX5_count 2 (some .int) : Cond) ∈ zT := zT_mem (i := 408) (by decide +kernel) (by decide +kernel)
theorem k_512 : (Cond.methodLink RX5 243 yX2_allDue : Cond) ∈ zT := zT_mem (i := 409) (by decide +kernel) (by decide +kernel)
theorem k_513 : (Cond.instanceMethod yX2_allDue : Cond) ∈ zT := zT_mem (i := 410) (by decide +kernel) (by decide +kernel)
theorem k_514 : (Cond.selects RX2 yX2_allDue yX2_allDue : Cond) ∈ zT := zT_mem (i := 411) (by decide +kernel) (by decide +kernel)
theorem k_515 : (Cond.code yX2_allDue cX2_allDue 6 (some .int) : Cond) ∈ zT := zT_mem (i := 412) (by decide +kernel) (by decide +kernel)
theorem k_516 : (Cond.methodLink RX5 246 yX2_allFines : Cond) ∈ zT := zT_mem (i := 413) (by decide +kernel) (by decide +kernel)
theorem k_517 : (Cond.instanceMethod yX2_allFines : Cond) ∈ zT := zT_mem (i := 414) (by decide +kernel) (by decide +kernel)
theorem k_518 : (Cond.selects RX2 yX2_allFines yX2_allFines : Cond) ∈ zT := zT_mem (i := 415) (by decide +kernel) (by decide +kernel)
theorem k_519 : (Cond.code yX2_allFines cX2_allFines 6 (some .int) : Cond) ∈ zT := zT_mem (i := 416) (by decide +kernel) (by decide +kernel)
theorem k_520 : (Cond.methodLink RX5 249 yX2_allHeld : Cond) ∈ zT := zT_mem (i := 417) (by decide +kernel) (by decide +kernel)
theorem k_521 : (Cond.instanceMethod yX2_allHeld : Cond) ∈ zT := zT_mem (i := 418) (by decide +kernel) (by decide +kernel)
theorem k_522 : (Cond.selects RX2 yX2_allHeld yX2_allHeld : Cond) ∈ zT := zT_mem (i := 419) (by decide +kernel) (by decide +kernel)
theorem k_523 : (Cond.code yX2_allHeld cX2_allHeld 6 (some .int) : Cond) ∈ zT := zT_mem (i := 420) (by decide +kernel) (by decide +kernel)
theorem k_524 : (Cond.methodLink RX2 119 yX0_allowances : Cond) ∈ zT := zT_mem (i := 421) (by decide +kernel) (by decide +kernel)
theorem k_525 : (Cond.methodLink RX5 252 yX2_allLost : Cond) ∈ zT := zT_mem (i := 422) (by decide +kernel) (by decide +kernel)
theorem k_526 : (Cond.instanceMethod yX2_allLost : Cond) ∈ zT := zT_mem (i := 423) (by decide +kernel) (by decide +kernel)
theorem k_527 : (Cond.selects RX2 yX2_allLost yX2_allLost : Cond) ∈ zT := zT_mem (i := 424) (by decide +kernel) (by decide +kernel)
theorem k_528 : (Cond.code yX2_allLost cX2_allLost 6 (some .int) : Cond) ∈ zT := zT_mem (i := 425) (by decide +kernel) (by decide +kernel)
theorem k_529 : (Cond.methodLink RX5 255 yX2_monthsUntilDeadline : Cond) ∈ zT := zT_mem (i := 426) (by decide +kernel) (by decide +kernel)
theorem k_530 : (Cond.instanceMethod yX2_monthsUntilDeadline : Cond) ∈ zT := zT_mem (i := 427) (by decide +kernel) (by decide +kernel)
theorem k_531 : (Cond.selects RX2 yX2_monthsUntilDeadline yX2_monthsUntilDeadline : Cond) ∈ zT := zT_mem (i := 428) (by decide +kernel) (by decide +kernel)
theorem k_532 : (Cond.code yX2_monthsUntilDeadline cX2_monthsUntilDeadline 3 (some .int) : Cond) ∈ zT := zT_mem (i := 429) (by decide +kernel) (by decide +kernel)
theorem k_727 : (Cond.methodLink RL 90 yL_cell : Cond) ∈ zT := zT_mem (i := 430) (by decide +kernel) (by decide +kernel)
theorem k_p431 : (Cond.static yL_cell : Cond) ∈ zT := zT_mem (i := 431) (by decide +kernel) (by decide +kernel)
theorem k_p432 : (Cond.code yL_cell cL_cell 2 (some .int) : Cond) ∈ zT := zT_mem (i := 432) (by decide +kernel) (by decide +kernel)
theorem k_312 : (Cond.methodLink RL 41 yL_low : Cond) ∈ zT := zT_mem (i := 433) (by decide +kernel) (by decide +kernel)
theorem k_p434 : (Cond.static yL_low : Cond) ∈ zT := zT_mem (i := 434) (by decide +kernel) (by decide +kernel)
theorem k_p435 : (Cond.code yL_low cL_low 2 (some .int) : Cond) ∈ zT := zT_mem (i := 435) (by decide +kernel) (by decide +kernel)
theorem k_p436 : (Cond.constant RL 7 2147483647 : Cond) ∈ zT := zT_mem (i := 436) (by decide +kernel) (by decide +kernel)
theorem k_648 : (Cond.methodLink RL 44 yL_all : Cond) ∈ zT := zT_mem (i := 437) (by decide +kernel) (by decide +kernel)
theorem k_p438 : (Cond.static yL_all : Cond) ∈ zT := zT_mem (i := 438) (by decide +kernel) (by decide +kernel)
theorem k_p439 : (Cond.code yL_all cL_all 5 (some .long) : Cond) ∈ zT := zT_mem (i := 439) (by decide +kernel) (by decide +kernel)
theorem k_p440 : (Cond.constantLong RL 8 47 : Cond) ∈ zT := zT_mem (i := 440) (by decide +kernel) (by decide +kernel)
theorem k_p441 : (Cond.constantLong RL 10 31 : Cond) ∈ zT := zT_mem (i := 441) (by decide +kernel) (by decide +kernel)
theorem k_600 : (Cond.methodLink RL 22 yX5_holds : Cond) ∈ zT := zT_mem (i := 442) (by decide +kernel) (by decide +kernel)
theorem k_458 : (Cond.instanceMethod yX5_holds : Cond) ∈ zT := zT_mem (i := 443) (by decide +kernel) (by decide +kernel)
theorem k_459 : (Cond.selects RX5 yX5_holds yX5_holds : Cond) ∈ zT := zT_mem (i := 444) (by decide +kernel) (by decide +kernel)
theorem k_460 : (Cond.code yX5_holds cX5_holds 4 (some .int) : Cond) ∈ zT := zT_mem (i := 445) (by decide +kernel) (by decide +kernel)
theorem k_751 : (Cond.methodLink RL 98 yL_isSound : Cond) ∈ zT := zT_mem (i := 446) (by decide +kernel) (by decide +kernel)
theorem k_p447 : (Cond.static yL_isSound : Cond) ∈ zT := zT_mem (i := 447) (by decide +kernel) (by decide +kernel)
theorem k_p448 : (Cond.code yL_isSound cL_isSound 11 (some .boolean) : Cond) ∈ zT := zT_mem (i := 448) rfl (by decide +kernel)
theorem k_p449 : (Cond.constant RL 35 1000000000 : Cond) ∈ zT := zT_mem (i := 449) (by decide +kernel) (by decide +kernel)
theorem k_755 : (Cond.methodLink RL 102 yL_isPlanned : Cond) ∈ zT := zT_mem (i := 450) (by decide +kernel) (by decide +kernel)
theorem k_p451 : (Cond.static yL_isPlanned : Cond) ∈ zT := zT_mem (i := 451) (by decide +kernel) (by decide +kernel)
theorem k_p452 : (Cond.code yL_isPlanned cL_isPlanned 15 (some .boolean) : Cond) ∈ zT := zT_mem (i := 452) rfl (by decide +kernel)
theorem k_652 : (Cond.methodLink RL 48 yX5_plan : Cond) ∈ zT := zT_mem (i := 453) (by decide +kernel) (by decide +kernel)
theorem k_505 : (Cond.instanceMethod yX5_plan : Cond) ∈ zT := zT_mem (i := 454) (by decide +kernel) (by decide +kernel)
theorem k_506 : (Cond.selects RX5 yX5_plan yX5_plan : Cond) ∈ zT := zT_mem (i := 455) (by decide +kernel) (by decide +kernel)
theorem k_507 : (Cond.code yX5_plan cX5_plan 6 (some .int) : Cond) ∈ zT := zT_mem (i := 456) (by decide +kernel) (by decide +kernel)
theorem k_329 : (Cond.methodLink RX5 113 yX5_isWay : Cond) ∈ zT := zT_mem (i := 457) (by decide +kernel) (by decide +kernel)
theorem k_330 : (Cond.static yX5_isWay : Cond) ∈ zT := zT_mem (i := 458) (by decide +kernel) (by decide +kernel)
theorem k_331 : (Cond.code yX5_isWay cX5_isWay 1 (some .boolean) : Cond) ∈ zT := zT_mem (i := 459) (by decide +kernel) (by decide +kernel)
theorem k_332 : (Cond.methodLink RX5 119 yX3_workOut : Cond) ∈ zT := zT_mem (i := 460) (by decide +kernel) (by decide +kernel)
theorem k_333 : (Cond.instanceMethod yX3_workOut : Cond) ∈ zT := zT_mem (i := 461) (by decide +kernel) (by decide +kernel)
theorem k_334 : (Cond.selects RX3 yX3_workOut yX3_workOut : Cond) ∈ zT := zT_mem (i := 462) (by decide +kernel) (by decide +kernel)
theorem k_335 : (Cond.code yX3_workOut cX3_workOut 7 (none : Option ClassFile.FieldType) : Cond) ∈ zT := zT_mem (i := 463) (by decide +kernel) (by decide +kernel)
theorem k_336 : (Cond.methodLink RX3 31 yX0_canUse : Cond) ∈ zT := zT_mem (i := 464) (by decide +kernel) (by decide +kernel)
theorem k_348 : (Cond.methodLink RX3 37 Lib.Math.min.name : Cond) ∈ zT := zT_mem (i := 465) (by decide +kernel) (by decide +kernel)
theorem k_349 : (Cond.methodLink RX3 42 yX3_takeVintage : Cond) ∈ zT := zT_mem (i := 466) (by decide +kernel) (by decide +kernel)
theorem k_350 : (Cond.instanceMethod yX3_takeVintage : Cond) ∈ zT := zT_mem (i := 467) (by decide +kernel) (by decide +kernel)
theorem k_351 : (Cond.selects RX3 yX3_takeVintage yX3_takeVintage : Cond) ∈ zT := zT_mem (i := 468) (by decide +kernel) (by decide +kernel)
theorem k_352 : (Cond.code yX3_takeVintage cX3_takeVintage 4 (none : Option ClassFile.FieldType) : Cond) ∈ zT := zT_mem (i := 469) (by decide +kernel) (by decide +kernel)
theorem k_p470 : (Cond.methodLink RL 52 yX5_surrender : Cond) ∈ zT := zT_mem (i := 470) (by decide +kernel) (by decide +kernel)
theorem k_326 : (Cond.instanceMethod yX5_surrender : Cond) ∈ zT := zT_mem (i := 471) (by decide +kernel) (by decide +kernel)
theorem k_327 : (Cond.selects RX5 yX5_surrender yX5_surrender : Cond) ∈ zT := zT_mem (i := 472) (by decide +kernel) (by decide +kernel)
theorem k_328 : (Cond.code yX5_surrender cX5_surrender 5 (some .int) : Cond) ∈ zT := zT_mem (i := 473) (by decide +kernel) (by decide +kernel)
theorem k_353 : (Cond.methodLink RX5 126 yX2_takeFrom : Cond) ∈ zT := zT_mem (i := 474) (by decide +kernel) (by decide +kernel)
theorem k_354 : (Cond.instanceMethod yX2_takeFrom : Cond) ∈ zT := zT_mem (i := 475) (by decide +kernel) (by decide +kernel)
theorem k_355 : (Cond.selects RX2 yX2_takeFrom yX2_takeFrom : Cond) ∈ zT := zT_mem (i := 476) (by decide +kernel) (by decide +kernel)
theorem k_356 : (Cond.code yX2_takeFrom cX2_takeFrom 5 (none : Option ClassFile.FieldType) : Cond) ∈ zT := zT_mem (i := 477) (by decide +kernel) (by decide +kernel)
theorem k_747 : (Cond.methodLink RL 94 yL_acts : Cond) ∈ zT := zT_mem (i := 478) (by decide +kernel) (by decide +kernel)
theorem k_p479 : (Cond.static yL_acts : Cond) ∈ zT := zT_mem (i := 479) (by decide +kernel) (by decide +kernel)
theorem k_p480 : (Cond.code yL_acts cL_acts 7 (some .int) : Cond) ∈ zT := zT_mem (i := 480) (by decide +kernel) (by decide +kernel)
theorem k_382 : (Cond.methodLink RL 62 yX5_issueOffsets : Cond) ∈ zT := zT_mem (i := 481) (by decide +kernel) (by decide +kernel)
theorem k_285 : (Cond.instanceMethod yX5_issueOffsets : Cond) ∈ zT := zT_mem (i := 482) (by decide +kernel) (by decide +kernel)
theorem k_286 : (Cond.selects RX5 yX5_issueOffsets yX5_issueOffsets : Cond) ∈ zT := zT_mem (i := 483) (by decide +kernel) (by decide +kernel)
theorem k_287 : (Cond.code yX5_issueOffsets cX5_issueOffsets 5 (some .int) : Cond) ∈ zT := zT_mem (i := 484) (by decide +kernel) (by decide +kernel)
theorem k_p485 : (Cond.methodLink RL 65 yX5_transfer : Cond) ∈ zT := zT_mem (i := 485) (by decide +kernel) (by decide +kernel)
theorem k_292 : (Cond.instanceMethod yX5_transfer : Cond) ∈ zT := zT_mem (i := 486) (by decide +kernel) (by decide +kernel)
theorem k_293 : (Cond.selects RX5 yX5_transfer yX5_transfer : Cond) ∈ zT := zT_mem (i := 487) (by decide +kernel) (by decide +kernel)
theorem k_294 : (Cond.code yX5_transfer cX5_transfer 6 (some .int) : Cond) ∈ zT := zT_mem (i := 488) (by decide +kernel) (by decide +kernel)
theorem k_295 : (Cond.methodLink RX5 94 yX2_moveError : Cond) ∈ zT := zT_mem (i := 489) (by decide +kernel) (by decide +kernel)
theorem k_296 : (Cond.instanceMethod yX2_moveError : Cond) ∈ zT := zT_mem (i := 490) (by decide +kernel) (by decide +kernel)
theorem k_297 : (Cond.selects RX2 yX2_moveError yX2_moveError : Cond) ∈ zT := zT_mem (i := 491) (by decide +kernel) (by decide +kernel)
theorem k_298 : (Cond.code yX2_moveError cX2_moveError 6 (some .int) : Cond) ∈ zT := zT_mem (i := 492) (by decide +kernel) (by decide +kernel)
theorem k_299 : (Cond.methodLink RX2 55 yX2_firmAt : Cond) ∈ zT := zT_mem (i := 493) (by decide +kernel) (by decide +kernel)
theorem k_304 : (Cond.methodLink RX5 98 yX2_move : Cond) ∈ zT := zT_mem (i := 496) (by decide +kernel) (by decide +kernel)
theorem k_305 : (Cond.instanceMethod yX2_move : Cond) ∈ zT := zT_mem (i := 497) (by decide +kernel) (by decide +kernel)
theorem k_306 : (Cond.selects RX2 yX2_move yX2_move : Cond) ∈ zT := zT_mem (i := 498) (by decide +kernel) (by decide +kernel)
theorem k_307 : (Cond.code yX2_move cX2_move 7 (some .int) : Cond) ∈ zT := zT_mem (i := 499) (by decide +kernel) (by decide +kernel)
theorem k_p500 : (Cond.methodLink RL 68 yX5_transferOffsets : Cond) ∈ zT := zT_mem (i := 500) (by decide +kernel) (by decide +kernel)
theorem k_309 : (Cond.instanceMethod yX5_transferOffsets : Cond) ∈ zT := zT_mem (i := 501) (by decide +kernel) (by decide +kernel)
theorem k_310 : (Cond.selects RX5 yX5_transferOffsets yX5_transferOffsets : Cond) ∈ zT := zT_mem (i := 502) (by decide +kernel) (by decide +kernel)
theorem k_311 : (Cond.code yX5_transferOffsets cX5_transferOffsets 7 (some .int) : Cond) ∈ zT := zT_mem (i := 503) (by decide +kernel) (by decide +kernel)
theorem k_390 : (Cond.methodLink RL 71 yX5_cancel : Cond) ∈ zT := zT_mem (i := 504) (by decide +kernel) (by decide +kernel)
theorem k_313 : (Cond.instanceMethod yX5_cancel : Cond) ∈ zT := zT_mem (i := 505) (by decide +kernel) (by decide +kernel)
theorem k_314 : (Cond.selects RX5 yX5_cancel yX5_cancel : Cond) ∈ zT := zT_mem (i := 506) (by decide +kernel) (by decide +kernel)
theorem k_315 : (Cond.code yX5_cancel cX5_cancel 5 (some .int) : Cond) ∈ zT := zT_mem (i := 507) (by decide +kernel) (by decide +kernel)
theorem k_p508 : (Cond.methodLink RL 77 yX5_verify : Cond) ∈ zT := zT_mem (i := 508) (by decide +kernel) (by decide +kernel)
theorem k_322 : (Cond.instanceMethod yX5_verify : Cond) ∈ zT := zT_mem (i := 509) (by decide +kernel) (by decide +kernel)
theorem k_323 : (Cond.selects RX5 yX5_verify yX5_verify : Cond) ∈ zT := zT_mem (i := 510) (by decide +kernel) (by decide +kernel)
theorem k_324 : (Cond.code yX5_verify cX5_verify 3 (some .int) : Cond) ∈ zT := zT_mem (i := 511) (by decide +kernel) (by decide +kernel)
theorem inX0 : ∀ w ∈ u_ws RX0 TX0 9, w ∈ zT := by
  intro w hw
  obtain ⟨k, hk, rfl⟩ := List.mem_map.mp hw
  have hk := List.mem_range.mp hk
  match k, hk with
  | 0, _ => exact k_62
  | 1, _ => exact k_64
  | 2, _ => exact k_66
  | 3, _ => exact k_68
  | 4, _ => exact k_70
  | 5, _ => exact k_72
  | 6, _ => exact k_74
  | 7, _ => exact k_76
  | 8, _ => exact k_78
  | k + 9, hk => omega
theorem inX1 : ∀ w ∈ u_ws RX1 TX1 3, w ∈ zT := by
  intro w hw
  obtain ⟨k, hk, rfl⟩ := List.mem_map.mp hw
  have hk := List.mem_range.mp hk
  match k, hk with
  | 0, _ => exact k_136
  | 1, _ => exact k_138
  | 2, _ => exact k_140
  | k + 3, hk => omega
theorem inX2 : ∀ w ∈ u_ws RX2 TX2 10, w ∈ zT := by
  intro w hw
  obtain ⟨k, hk, rfl⟩ := List.mem_map.mp hw
  have hk := List.mem_range.mp hk
  match k, hk with
  | 0, _ => exact k_102
  | 1, _ => exact k_104
  | 2, _ => exact k_106
  | 3, _ => exact k_108
  | 4, _ => exact k_110
  | 5, _ => exact k_112
  | 6, _ => exact k_114
  | 7, _ => exact k_116
  | 8, _ => exact k_118
  | 9, _ => exact k_120
  | k + 10, hk => omega
theorem inX3 : ∀ w ∈ u_ws RX3 TX3 6, w ∈ zT := by
  intro w hw
  obtain ⟨k, hk, rfl⟩ := List.mem_map.mp hw
  have hk := List.mem_range.mp hk
  match k, hk with
  | 0, _ => exact k_162
  | 1, _ => exact k_164
  | 2, _ => exact k_166
  | 3, _ => exact k_168
  | 4, _ => exact k_170
  | 5, _ => exact k_172
  | k + 6, hk => omega
theorem inX4 : ∀ w ∈ u_ws RX4 TX4 8, w ∈ zT := by
  intro w hw
  obtain ⟨k, hk, rfl⟩ := List.mem_map.mp hw
  have hk := List.mem_range.mp hk
  match k, hk with
  | 0, _ => exact k_197
  | 1, _ => exact k_199
  | 2, _ => exact k_201
  | 3, _ => exact k_203
  | 4, _ => exact k_205
  | 5, _ => exact k_207
  | 6, _ => exact k_209
  | 7, _ => exact k_211
  | k + 8, hk => omega
theorem inX5 : ∀ w ∈ u_ws RX5 TX5 7, w ∈ zT := by
  intro w hw
  obtain ⟨k, hk, rfl⟩ := List.mem_map.mp hw
  have hk := List.mem_range.mp hk
  match k, hk with
  | 0, _ => exact k_222
  | 1, _ => exact k_224
  | 2, _ => exact k_226
  | 3, _ => exact k_228
  | 4, _ => exact k_230
  | 5, _ => exact k_232
  | 6, _ => exact k_234
  | k + 7, hk => omega
end
