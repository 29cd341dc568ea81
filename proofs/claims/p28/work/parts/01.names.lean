/-! ===== BEGIN words of one list among another's, by their places ===== -/
theorem goodIn_r {big : List Cond} (ws : List Cond) (ps : List Nat) (hp : ws = ps.filterMap (fun i => big[i]?)) (h : ws.all goodWord = true) : GoodIn big ws := by
  intro w hw
  have h1 := List.all_eq_true.mp h w hw
  rw [hp] at hw
  obtain ⟨i, -, hi⟩ := List.mem_filterMap.mp hw
  have hm : w ∈ big := by first | exact List.mem_of_getElem? hi | exact List.getElem?_mem hi
  exact ⟨hm, good_of_word h1⟩
theorem goodIn_app {big a b : List Cond} (ha : GoodIn big a) (hb : GoodIn big b) : GoodIn big (a ++ b) := fun w h => (List.mem_append.mp h).elim (ha w) (hb w)
theorem goodIn_ca {big a b : List Cond} {c : Cond} (ha : GoodIn big (c :: a)) (hb : GoodIn big b) : GoodIn big (c :: (a ++ b)) := fun w h => (List.mem_cons.mp h).elim (fun e => ha w (List.mem_cons.mpr (Or.inl e))) (fun h => (List.mem_append.mp h).elim (fun h => ha w (List.mem_cons.mpr (Or.inr h))) (hb w))
theorem goodIn_sub {big ws : List Cond} (hm : ∀ w ∈ ws, w ∈ big) (h : ws.all goodWord = true) : GoodIn big ws := fun w hw => ⟨hm w hw, good_of_word (List.all_eq_true.mp h w hw)⟩
/-! ===== END ===== -/

/-! ===== BEGIN printed: names, fields, word lists, decode rows ===== -/
def RX0 : String := "AllowanceBook$Firm"
def TX0 : u_T := fun k => match k with
  | 0 => ("AllowanceBook$Firm", "held", "[I", true)
  | 1 => ("AllowanceBook$Firm", "offsetsHeld", "[I", true)
  | 2 => ("AllowanceBook$Firm", "offsetsUsed", "[I", true)
  | 3 => ("AllowanceBook$Firm", "reported", "I", false)
  | 4 => ("AllowanceBook$Firm", "verified", "I", false)
  | 5 => ("AllowanceBook$Firm", "base", "I", false)
  | 6 => ("AllowanceBook$Firm", "due", "I", false)
  | 7 => ("AllowanceBook$Firm", "surrendered", "I", false)
  | _ => ("AllowanceBook$Firm", "fines", "I", false)
def tyX0 : Nat → FieldType := fun k => match k with
  | 0 => .array .int
  | 1 => .array .int
  | 2 => .array .int
  | 3 => .int
  | 4 => .int
  | 5 => .int
  | 6 => .int
  | 7 => .int
  | _ => .int
abbrev wsX00 : List Cond := u_ws RX0 TX0 9
theorem nmX0 : ∀ a, a < 9 → ∀ b, b < 9 → a ≠ b → (TX0 a).2.1 ≠ (TX0 b).2.1 := by decide +kernel
theorem tyX0_ok : ∀ k, k < 9 → parseFieldDescriptor (TX0 k).2.2.1 = some (tyX0 k) := by decide +kernel
abbrev cX0_init : ByteArray := prog_2_method_1_code
def yX0_init : MethodName := ⟨RX0, "<init>", "()V"⟩
abbrev cX0_allowances : ByteArray := prog_2_method_2_code
def yX0_allowances : MethodName := ⟨RX0, "allowances", "()I"⟩
abbrev cX0_vintagesHeld : ByteArray := prog_2_method_3_code
def yX0_vintagesHeld : MethodName := ⟨RX0, "vintagesHeld", "()I"⟩
abbrev cX0_oldestHeld : ByteArray := prog_2_method_4_code
def yX0_oldestHeld : MethodName := ⟨RX0, "oldestHeld", "()I"⟩
abbrev cX0_newestHeld : ByteArray := prog_2_method_5_code
def yX0_newestHeld : MethodName := ⟨RX0, "newestHeld", "()I"⟩
abbrev cX0_mayUse : ByteArray := prog_2_method_6_code
def yX0_mayUse : MethodName := ⟨RX0, "mayUse", "(II)I"⟩
abbrev cX0_canUse : ByteArray := prog_2_method_7_code
def yX0_canUse : MethodName := ⟨RX0, "canUse", "(II)I"⟩
abbrev cX0_dueAtBest : ByteArray := prog_2_method_8_code
def yX0_dueAtBest : MethodName := ⟨RX0, "dueAtBest", "([I)I"⟩
abbrev cX0_closeYear : ByteArray := prog_2_method_9_code
def yX0_closeYear : MethodName := ⟨RX0, "closeYear", "()V"⟩
def RX1 : String := "AllowanceBook$History"
def TX1 : u_T := fun k => match k with
  | 0 => ("AllowanceBook$History", "rows", "[LAllowanceBook$State;", true)
  | 1 => ("AllowanceBook$History", "size", "I", false)
  | _ => ("AllowanceBook$History", "next", "I", false)
def tyX1 : Nat → FieldType := fun k => match k with
  | 0 => .array (.object "AllowanceBook$State")
  | 1 => .int
  | _ => .int
abbrev wsX10 : List Cond := u_ws RX1 TX1 3
theorem nmX1 : ∀ a, a < 3 → ∀ b, b < 3 → a ≠ b → (TX1 a).2.1 ≠ (TX1 b).2.1 := by decide +kernel
theorem tyX1_ok : ∀ k, k < 3 → parseFieldDescriptor (TX1 k).2.2.1 = some (tyX1 k) := by decide +kernel
abbrev cX1_init : ByteArray := prog_3_method_1_code
def yX1_init : MethodName := ⟨RX1, "<init>", "()V"⟩
abbrev cX1_push : ByteArray := prog_3_method_2_code
def yX1_push : MethodName := ⟨RX1, "push", "(LAllowanceBook$State;)V"⟩
abbrev cX1_popInto : ByteArray := prog_3_method_3_code
def yX1_popInto : MethodName := ⟨RX1, "popInto", "(LAllowanceBook$State;)V"⟩
def RX2 : String := "AllowanceBook$State"
def TX2 : u_T := fun k => match k with
  | 0 => ("AllowanceBook$State", "month", "I", false)
  | 1 => ("AllowanceBook$State", "firmCount", "I", false)
  | 2 => ("AllowanceBook$State", "settings", "[I", true)
  | 3 => ("AllowanceBook$State", "firms", "[LAllowanceBook$Firm;", true)
  | 4 => ("AllowanceBook$State", "issued", "[I", true)
  | 5 => ("AllowanceBook$State", "surrendered", "[I", true)
  | 6 => ("AllowanceBook$State", "cancelled", "[I", true)
  | 7 => ("AllowanceBook$State", "lost", "[I", true)
  | 8 => ("AllowanceBook$State", "offsetsIssued", "[I", true)
  | _ => ("AllowanceBook$State", "offsetsSurrendered", "[I", true)
def tyX2 : Nat → FieldType := fun k => match k with
  | 0 => .int
  | 1 => .int
  | 2 => .array .int
  | 3 => .array (.object "AllowanceBook$Firm")
  | 4 => .array .int
  | 5 => .array .int
  | 6 => .array .int
  | 7 => .array .int
  | 8 => .array .int
  | _ => .array .int
abbrev wsX20 : List Cond := u_ws RX2 TX2 10
theorem nmX2 : ∀ a, a < 10 → ∀ b, b < 10 → a ≠ b → (TX2 a).2.1 ≠ (TX2 b).2.1 := by decide +kernel
theorem tyX2_ok : ∀ k, k < 10 → parseFieldDescriptor (TX2 k).2.2.1 = some (tyX2 k) := by decide +kernel
abbrev cX2_init : ByteArray := prog_4_method_1_code
def yX2_init : MethodName := ⟨RX2, "<init>", "()V"⟩
abbrev cX2_firmAt : ByteArray := prog_4_method_2_code
def yX2_firmAt : MethodName := ⟨RX2, "firmAt", "(I)LAllowanceBook$Firm;"⟩
abbrev cX2_year : ByteArray := prog_4_method_3_code
def yX2_year : MethodName := ⟨RX2, "year", "()I"⟩
abbrev cX2_moveError : ByteArray := prog_4_method_4_code
def yX2_moveError : MethodName := ⟨RX2, "moveError", "(IIII)I"⟩
abbrev cX2_move : ByteArray := prog_4_method_5_code
def yX2_move : MethodName := ⟨RX2, "move", "(IIII)I"⟩
abbrev cX2_takeFrom : ByteArray := prog_4_method_6_code
def yX2_takeFrom : MethodName := ⟨RX2, "takeFrom", "(LAllowanceBook$Firm;LAllowanceBook$Taking;)V"⟩
abbrev cX2_beginMonth : ByteArray := prog_4_method_7_code
def yX2_beginMonth : MethodName := ⟨RX2, "beginMonth", "()I"⟩
abbrev cX2_beginYear : ByteArray := prog_4_method_8_code
def yX2_beginYear : MethodName := ⟨RX2, "beginYear", "()V"⟩
abbrev cX2_loseAll : ByteArray := prog_4_method_9_code
def yX2_loseAll : MethodName := ⟨RX2, "loseAll", "(I)V"⟩
abbrev cX2_fineAll : ByteArray := prog_4_method_10_code
def yX2_fineAll : MethodName := ⟨RX2, "fineAll", "()I"⟩
abbrev cX2_heldOf : ByteArray := prog_4_method_11_code
def yX2_heldOf : MethodName := ⟨RX2, "heldOf", "(I)I"⟩
abbrev cX2_holdersOf : ByteArray := prog_4_method_12_code
def yX2_holdersOf : MethodName := ⟨RX2, "holdersOf", "(I)I"⟩
abbrev cX2_offsetsHeldOf : ByteArray := prog_4_method_13_code
def yX2_offsetsHeldOf : MethodName := ⟨RX2, "offsetsHeldOf", "(I)I"⟩
abbrev cX2_monthsUntilLost : ByteArray := prog_4_method_14_code
def yX2_monthsUntilLost : MethodName := ⟨RX2, "monthsUntilLost", "(I)I"⟩
abbrev cX2_holderAt : ByteArray := prog_4_method_15_code
def yX2_holderAt : MethodName := ⟨RX2, "holderAt", "(II)I"⟩
abbrev cX2_holdersAhead : ByteArray := prog_4_method_16_code
def yX2_holdersAhead : MethodName := ⟨RX2, "holdersAhead", "(II)I"⟩
abbrev cX2_allDue : ByteArray := prog_4_method_17_code
def yX2_allDue : MethodName := ⟨RX2, "allDue", "()I"⟩
abbrev cX2_allFines : ByteArray := prog_4_method_18_code
def yX2_allFines : MethodName := ⟨RX2, "allFines", "()I"⟩
abbrev cX2_allHeld : ByteArray := prog_4_method_19_code
def yX2_allHeld : MethodName := ⟨RX2, "allHeld", "()I"⟩
abbrev cX2_allLost : ByteArray := prog_4_method_20_code
def yX2_allLost : MethodName := ⟨RX2, "allLost", "()I"⟩
abbrev cX2_monthsUntilDeadline : ByteArray := prog_4_method_21_code
def yX2_monthsUntilDeadline : MethodName := ⟨RX2, "monthsUntilDeadline", "()I"⟩
def RX3 : String := "AllowanceBook$Taking"
def TX3 : u_T := fun k => match k with
  | 0 => ("AllowanceBook$Taking", "allowancesTaken", "[I", true)
  | 1 => ("AllowanceBook$Taking", "offsetsTaken", "[I", true)
  | 2 => ("AllowanceBook$Taking", "allAllowances", "I", false)
  | 3 => ("AllowanceBook$Taking", "vintagesTouched", "I", false)
  | 4 => ("AllowanceBook$Taking", "firstTouched", "I", false)
  | _ => ("AllowanceBook$Taking", "missing", "I", false)
def tyX3 : Nat → FieldType := fun k => match k with
  | 0 => .array .int
  | 1 => .array .int
  | 2 => .int
  | 3 => .int
  | 4 => .int
  | _ => .int
abbrev wsX30 : List Cond := u_ws RX3 TX3 6
theorem nmX3 : ∀ a, a < 6 → ∀ b, b < 6 → a ≠ b → (TX3 a).2.1 ≠ (TX3 b).2.1 := by decide +kernel
theorem tyX3_ok : ∀ k, k < 6 → parseFieldDescriptor (TX3 k).2.2.1 = some (tyX3 k) := by decide +kernel
abbrev cX3_init : ByteArray := prog_5_method_1_code
def yX3_init : MethodName := ⟨RX3, "<init>", "()V"⟩
abbrev cX3_workOut : ByteArray := prog_5_method_2_code
def yX3_workOut : MethodName := ⟨RX3, "workOut", "(LAllowanceBook$Firm;[III)V"⟩
abbrev cX3_takeVintage : ByteArray := prog_5_method_3_code
def yX3_takeVintage : MethodName := ⟨RX3, "takeVintage", "(LAllowanceBook$Firm;I)V"⟩
def RX4 : String := "AllowanceBook$Text"
def TX4 : u_T := fun k => match k with
  | 0 => ("AllowanceBook$Text", "characters", "[C", true)
  | 1 => ("AllowanceBook$Text", "length", "I", false)
  | 2 => ("AllowanceBook$Text", "froms", "[I", true)
  | 3 => ("AllowanceBook$Text", "tos", "[I", true)
  | 4 => ("AllowanceBook$Text", "vintages", "[I", true)
  | 5 => ("AllowanceBook$Text", "tonnes", "[I", true)
  | 6 => ("AllowanceBook$Text", "transfers", "I", false)
  | _ => ("AllowanceBook$Text", "at", "I", false)
def tyX4 : Nat → FieldType := fun k => match k with
  | 0 => .array .char
  | 1 => .int
  | 2 => .array .int
  | 3 => .array .int
  | 4 => .array .int
  | 5 => .array .int
  | 6 => .int
  | _ => .int
abbrev wsX40 : List Cond := u_ws RX4 TX4 8
theorem nmX4 : ∀ a, a < 8 → ∀ b, b < 8 → a ≠ b → (TX4 a).2.1 ≠ (TX4 b).2.1 := by decide +kernel
theorem tyX4_ok : ∀ k, k < 8 → parseFieldDescriptor (TX4 k).2.2.1 = some (tyX4 k) := by decide +kernel
abbrev cX4_init : ByteArray := prog_6_method_1_code
def yX4_init : MethodName := ⟨RX4, "<init>", "()V"⟩
def RX5 : String := "AllowanceBook"
def TX5 : u_T := fun k => match k with
  | 0 => ("AllowanceBook", "present", "LAllowanceBook$State;", true)
  | 1 => ("AllowanceBook", "kept", "LAllowanceBook$State;", true)
  | 2 => ("AllowanceBook", "trial", "LAllowanceBook$State;", true)
  | 3 => ("AllowanceBook", "past", "LAllowanceBook$History;", true)
  | 4 => ("AllowanceBook", "taking", "LAllowanceBook$Taking;", true)
  | 5 => ("AllowanceBook", "text", "LAllowanceBook$Text;", true)
  | _ => ("AllowanceBook", "hasKept", "Z", false)
def tyX5 : Nat → FieldType := fun k => match k with
  | 0 => .object "AllowanceBook$State"
  | 1 => .object "AllowanceBook$State"
  | 2 => .object "AllowanceBook$State"
  | 3 => .object "AllowanceBook$History"
  | 4 => .object "AllowanceBook$Taking"
  | 5 => .object "AllowanceBook$Text"
  | _ => .boolean
abbrev wsX50 : List Cond := u_ws RX5 TX5 7
theorem nmX5 : ∀ a, a < 7 → ∀ b, b < 7 → a ≠ b → (TX5 a).2.1 ≠ (TX5 b).2.1 := by decide +kernel
theorem tyX5_ok : ∀ k, k < 7 → parseFieldDescriptor (TX5 k).2.2.1 = some (tyX5 k) := by decide +kernel
abbrev cX5_init : ByteArray := prog_1_method_1_code
def yX5_init : MethodName := ⟨RX5, "<init>", "()V"⟩
abbrev cX5_addFirm : ByteArray := prog_1_method_2_code
def yX5_addFirm : MethodName := ⟨RX5, "addFirm", "()I"⟩
abbrev cX5_set : ByteArray := prog_1_method_3_code
def yX5_set : MethodName := ⟨RX5, "set", "(II)I"⟩
abbrev cX5_issue : ByteArray := prog_1_method_4_code
def yX5_issue : MethodName := ⟨RX5, "issue", "(II)I"⟩
abbrev cX5_issueOffsets : ByteArray := prog_1_method_5_code
def yX5_issueOffsets : MethodName := ⟨RX5, "issueOffsets", "(III)I"⟩
abbrev cX5_transfer : ByteArray := prog_1_method_6_code
def yX5_transfer : MethodName := ⟨RX5, "transfer", "(IIII)I"⟩
abbrev cX5_transferOffsets : ByteArray := prog_1_method_7_code
def yX5_transferOffsets : MethodName := ⟨RX5, "transferOffsets", "(IIII)I"⟩
abbrev cX5_cancel : ByteArray := prog_1_method_8_code
def yX5_cancel : MethodName := ⟨RX5, "cancel", "(III)I"⟩
abbrev cX5_report : ByteArray := prog_1_method_9_code
def yX5_report : MethodName := ⟨RX5, "report", "(II)I"⟩
abbrev cX5_verify : ByteArray := prog_1_method_10_code
def yX5_verify : MethodName := ⟨RX5, "verify", "(I)I"⟩
abbrev cX5_surrender : ByteArray := prog_1_method_11_code
def yX5_surrender : MethodName := ⟨RX5, "surrender", "(III)I"⟩
abbrev cX5_pass : ByteArray := prog_1_method_12_code
def yX5_pass : MethodName := ⟨RX5, "pass", "(I)I"⟩
abbrev cX5_undo : ByteArray := prog_1_method_16_code
def yX5_undo : MethodName := ⟨RX5, "undo", "()I"⟩
abbrev cX5_keep : ByteArray := prog_1_method_17_code
def yX5_keep : MethodName := ⟨RX5, "keep", "()I"⟩
abbrev cX5_restore : ByteArray := prog_1_method_18_code
def yX5_restore : MethodName := ⟨RX5, "restore", "()I"⟩
abbrev cX5_firm : ByteArray := prog_1_method_19_code
def yX5_firm : MethodName := ⟨RX5, "firm", "(II)I"⟩
abbrev cX5_holds : ByteArray := prog_1_method_20_code
def yX5_holds : MethodName := ⟨RX5, "holds", "(II)I"⟩
abbrev cX5_offsets : ByteArray := prog_1_method_21_code
def yX5_offsets : MethodName := ⟨RX5, "offsets", "(III)I"⟩
abbrev cX5_vintage : ByteArray := prog_1_method_22_code
def yX5_vintage : MethodName := ⟨RX5, "vintage", "(II)I"⟩
abbrev cX5_grade : ByteArray := prog_1_method_23_code
def yX5_grade : MethodName := ⟨RX5, "grade", "(II)I"⟩
abbrev cX5_holder : ByteArray := prog_1_method_24_code
def yX5_holder : MethodName := ⟨RX5, "holder", "(II)I"⟩
abbrev cX5_plan : ByteArray := prog_1_method_25_code
def yX5_plan : MethodName := ⟨RX5, "plan", "(IIII)I"⟩
abbrev cX5_count : ByteArray := prog_1_method_26_code
def yX5_count : MethodName := ⟨RX5, "count", "(I)I"⟩
abbrev cX5_isVintage : ByteArray := prog_1_method_27_code
def yX5_isVintage : MethodName := ⟨RX5, "isVintage", "(I)Z"⟩
abbrev cX5_isGrade : ByteArray := prog_1_method_28_code
def yX5_isGrade : MethodName := ⟨RX5, "isGrade", "(I)Z"⟩
abbrev cX5_isTonnes : ByteArray := prog_1_method_29_code
def yX5_isTonnes : MethodName := ⟨RX5, "isTonnes", "(I)Z"⟩
abbrev cX5_isWay : ByteArray := prog_1_method_30_code
def yX5_isWay : MethodName := ⟨RX5, "isWay", "(I)Z"⟩
abbrev cX5_copyState : ByteArray := prog_1_method_31_code
def yX5_copyState : MethodName := ⟨RX5, "copyState", "(LAllowanceBook$State;LAllowanceBook$State;)V"⟩
abbrev cX5_copyFirm : ByteArray := prog_1_method_32_code
def yX5_copyFirm : MethodName := ⟨RX5, "copyFirm", "(LAllowanceBook$Firm;LAllowanceBook$Firm;)V"⟩
abbrev cX5_copyNumbers : ByteArray := prog_1_method_33_code
def yX5_copyNumbers : MethodName := ⟨RX5, "copyNumbers", "([I[I)V"⟩
def RX6 : String := "AllowanceBookModel"
def TX6 : u_T := fun k => match k with
  | _ => ("", "", "", false)
def tyX6 : Nat → FieldType := fun k => match k with
  | _ => .int
abbrev wsX60 : List Cond := u_ws RX6 TX6 0
theorem nmX6 : ∀ a, a < 0 → ∀ b, b < 0 → a ≠ b → (TX6 a).2.1 ≠ (TX6 b).2.1 := by decide +kernel
theorem tyX6_ok : ∀ k, k < 0 → parseFieldDescriptor (TX6 k).2.2.1 = some (tyX6 k) := by decide +kernel
def RJx8e188 : String := "java/lang/Cloneable"
def TJx8e188 : u_T := fun k => match k with
  | _ => ("", "", "", false)
def tyJx8e188 : Nat → FieldType := fun k => match k with
  | _ => .int
abbrev wsJx8e1880 : List Cond := u_ws RJx8e188 TJx8e188 0
theorem nmJx8e188 : ∀ a, a < 0 → ∀ b, b < 0 → a ≠ b → (TJx8e188 a).2.1 ≠ (TJx8e188 b).2.1 := by decide +kernel
theorem tyJx8e188_ok : ∀ k, k < 0 → parseFieldDescriptor (TJx8e188 k).2.2.1 = some (tyJx8e188 k) := by decide +kernel
def RJ9 : String := "java/lang/Math"
def TJ9 : u_T := fun k => match k with
  | _ => ("", "", "", false)
def tyJ9 : Nat → FieldType := fun k => match k with
  | _ => .int
abbrev wsJ90 : List Cond := u_ws RJ9 TJ9 0
theorem nmJ9 : ∀ a, a < 0 → ∀ b, b < 0 → a ≠ b → (TJ9 a).2.1 ≠ (TJ9 b).2.1 := by decide +kernel
theorem tyJ9_ok : ∀ k, k < 0 → parseFieldDescriptor (TJ9 k).2.2.1 = some (tyJ9 k) := by decide +kernel
abbrev cJ9_max_7cf53 : ByteArray := prog_10_method_65_code
def yJ9_max_7cf53 : MethodName := ⟨RJ9, "max", "(II)I"⟩
abbrev cJ9_min_7cf53 : ByteArray := prog_10_method_69_code
def yJ9_min_7cf53 : MethodName := ⟨RJ9, "min", "(II)I"⟩
def RJ10 : String := "java/lang/System"
def TJ10 : u_T := fun k => match k with
  | _ => ("", "", "", false)
def tyJ10 : Nat → FieldType := fun k => match k with
  | _ => .int
abbrev wsJ100 : List Cond := u_ws RJ10 TJ10 0
theorem nmJ10 : ∀ a, a < 0 → ∀ b, b < 0 → a ≠ b → (TJ10 a).2.1 ≠ (TJ10 b).2.1 := by decide +kernel
theorem tyJ10_ok : ∀ k, k < 0 → parseFieldDescriptor (TJ10 k).2.2.1 = some (tyJ10 k) := by decide +kernel
def RL : String := "AllowanceBookLaw"
abbrev cL_cell : ByteArray := method_2_code
def yL_cell : MethodName := ⟨RL, "cell", "([II)I"⟩
abbrev cL_low : ByteArray := method_3_code
def yL_low : MethodName := ⟨RL, "low", "(II)I"⟩
abbrev cL_all : ByteArray := method_4_code
def yL_all : MethodName := ⟨RL, "all", "(LAllowanceBook;)J"⟩
abbrev cL_isSound : ByteArray := method_5_code
def yL_isSound : MethodName := ⟨RL, "isSound", "(LAllowanceBook;)Z"⟩
abbrev cL_isPlanned : ByteArray := method_6_code
def yL_isPlanned : MethodName := ⟨RL, "isPlanned", "(LAllowanceBook;I)Z"⟩
abbrev cL_acts : ByteArray := method_7_code
def yL_acts : MethodName := ⟨RL, "acts", "(LAllowanceBook;I)I"⟩
abbrev cL_law : ByteArray := code
def yL_law : MethodName := ⟨RL, "law", "([I)Z"⟩
abbrev vwCl : List vw_C := [(RX0, TX0, 9), (RX1, TX1, 3), (RX2, TX2, 10), (RX3, TX3, 6), (RX4, TX4, 8), (RX5, TX5, 7)]
