/-! ===== BEGIN words of one list among another's, by their places ===== -/
theorem goodIn_r {big : List Cond} (ws : List Cond) (ps : List Nat) (hp : ws = ps.filterMap (fun i => big[i]?)) (h : ws.all goodWord = true) : GoodIn big ws := by
  intro w hw
  have h1 := List.all_eq_true.mp h w hw
  rw [hp] at hw
  obtain ⟨i, -, hi⟩ := List.mem_filterMap.mp hw
  have hm : w ∈ big := by first | exact List.mem_of_getElem? hi | exact List.getElem?_mem hi
  exact ⟨hm, good_of_word h1⟩
theorem goodIn_app {big a b : List Cond} (ha : GoodIn big a) (hb : GoodIn big b) : GoodIn big (a ++ b) := fun w h => (List.mem_append.mp h).elim (ha w) (hb w)
theorem goodIn_ca {big a b : List Cond} {c : Cond} (ha : GoodIn big (c :: a)) (hb : GoodIn big b) : GoodIn big (c :: (a ++ b)) := fun w h => (List.mem_cons.mp h).elim (fun e => ha w (List.mem_cons.mpr (Or.inl e))) (fun h => (List.mem_append.mp h).elim (fun h => ha w (List.mem_cons.mpr (Or.inr h))) (hb w))
theorem goodIn_sub {big ws : List Cond} (hm : ∀ w ∈ ws, w ∈ big) (h : ws.all goodWord = true) : GoodIn big ws := fun w hw => ⟨hm w hw, good_of_word (List.all_eq_true.mp h w hw)⟩
/-! ===== END ===== -/


/-! ===== BEGIN printed: names, fields, word lists, decode rows ===== -/
def RX0 : String := "FrogBreath$Clock"
def TX0 : u_T := fun k => match k with
  | _ => ("", "", "", false)
def tyX0 : Nat → FieldType := fun k => match k with
  | _ => .int
abbrev wsX00 : List Cond := u_ws RX0 TX0 0
theorem nmX0 : ∀ a, a < 0 → ∀ b, b < 0 → a ≠ b → (TX0 a).2.1 ≠ (TX0 b).2.1 := by decide +kernel
theorem tyX0_ok : ∀ k, k < 0 → parseFieldDescriptor (TX0 k).2.2.1 = some (tyX0 k) := by decide +kernel
def RX1 : String := "FrogBreath$Ditch"
def TX1 : u_T := fun k => match k with
  | _ => ("", "", "", false)
def tyX1 : Nat → FieldType := fun k => match k with
  | _ => .int
abbrev wsX10 : List Cond := u_ws RX1 TX1 0
theorem nmX1 : ∀ a, a < 0 → ∀ b, b < 0 → a ≠ b → (TX1 a).2.1 ≠ (TX1 b).2.1 := by decide +kernel
theorem tyX1_ok : ∀ k, k < 0 → parseFieldDescriptor (TX1 k).2.2.1 = some (tyX1 k) := by decide +kernel
def RX2 : String := "FrogBreath$Lamp"
def TX2 : u_T := fun k => match k with
  | _ => ("", "", "", false)
def tyX2 : Nat → FieldType := fun k => match k with
  | _ => .int
abbrev wsX20 : List Cond := u_ws RX2 TX2 0
theorem nmX2 : ∀ a, a < 0 → ∀ b, b < 0 → a ≠ b → (TX2 a).2.1 ≠ (TX2 b).2.1 := by decide +kernel
theorem tyX2_ok : ∀ k, k < 0 → parseFieldDescriptor (TX2 k).2.2.1 = some (tyX2 k) := by decide +kernel
def RX3 : String := "FrogBreath$Law"
def TX3 : u_T := fun k => match k with
  | 0 => ("FrogBreath$Law", "step", "[I", true)
  | 1 => ("FrogBreath$Law", "value", "[I", true)
  | 2 => ("FrogBreath$Law", "stack", "[I", true)
  | 3 => ("FrogBreath$Law", "names", "[I", true)
  | 4 => ("FrogBreath$Law", "steps", "I", false)
  | 5 => ("FrogBreath$Law", "top", "I", false)
  | 6 => ("FrogBreath$Law", "text", "[I", false)
  | 7 => ("FrogBreath$Law", "length", "I", false)
  | _ => ("FrogBreath$Law", "place", "I", false)
def tyX3 : Nat → FieldType := fun k => match k with
  | 0 => .array .int
  | 1 => .array .int
  | 2 => .array .int
  | 3 => .array .int
  | 4 => .int
  | 5 => .int
  | 6 => .array .int
  | 7 => .int
  | _ => .int
abbrev wsX30 : List Cond := u_ws RX3 TX3 9
theorem nmX3 : ∀ a, a < 9 → ∀ b, b < 9 → a ≠ b → (TX3 a).2.1 ≠ (TX3 b).2.1 := by decide +kernel
theorem tyX3_ok : ∀ k, k < 9 → parseFieldDescriptor (TX3 k).2.2.1 = some (tyX3 k) := by decide +kernel
abbrev cX3_init : ByteArray := prog_5_method_1_code
def yX3_init : MethodName := ⟨RX3, "<init>", "()V"⟩
abbrev cX3_isTold : ByteArray := prog_5_method_2_code
def yX3_isTold : MethodName := ⟨RX3, "isTold", "()Z"⟩
abbrev cX3_read : ByteArray := prog_5_method_3_code
def yX3_read : MethodName := ⟨RX3, "read", "([II)I"⟩
abbrev cX3_line : ByteArray := prog_5_method_4_code
def yX3_line : MethodName := ⟨RX3, "line", "()Z"⟩
abbrev cX3_joined : ByteArray := prog_5_method_5_code
def yX3_joined : MethodName := ⟨RX3, "joined", "(II)Z"⟩
abbrev cX3_levelOf : ByteArray := prog_5_method_6_code
def yX3_levelOf : MethodName := ⟨RX3, "levelOf", "(I)I"⟩
abbrev cX3_operand : ByteArray := prog_5_method_7_code
def yX3_operand : MethodName := ⟨RX3, "operand", "(I)Z"⟩
abbrev cX3_number : ByteArray := prog_5_method_8_code
def yX3_number : MethodName := ⟨RX3, "number", "()Z"⟩
abbrev cX3_isDigit : ByteArray := prog_5_method_9_code
def yX3_isDigit : MethodName := ⟨RX3, "isDigit", "()Z"⟩
abbrev cX3_nameOf : ByteArray := prog_5_method_10_code
def yX3_nameOf : MethodName := ⟨RX3, "nameOf", "(I)I"⟩
abbrev cX3_takes : ByteArray := prog_5_method_11_code
def yX3_takes : MethodName := ⟨RX3, "takes", "(I)Z"⟩
abbrev cX3_add : ByteArray := prog_5_method_12_code
def yX3_add : MethodName := ⟨RX3, "add", "(II)Z"⟩
abbrev cX3_worked : ByteArray := prog_5_method_13_code
def yX3_worked : MethodName := ⟨RX3, "worked", "(IIIIII)I"⟩
abbrev cX3_push : ByteArray := prog_5_method_14_code
def yX3_push : MethodName := ⟨RX3, "push", "(I)V"⟩
abbrev cX3_pop : ByteArray := prog_5_method_15_code
def yX3_pop : MethodName := ⟨RX3, "pop", "()I"⟩
abbrev cX3_joinedBy : ByteArray := prog_5_method_16_code
def yX3_joinedBy : MethodName := ⟨RX3, "joinedBy", "(III)I"⟩
def RX4 : String := "FrogBreath$Marsh"
def TX4 : u_T := fun k => match k with
  | 0 => ("FrogBreath$Marsh", "girlPlace", "[I", true)
  | 1 => ("FrogBreath$Marsh", "breath", "[I", true)
  | 2 => ("FrogBreath$Marsh", "frogPlace", "[I", true)
  | 3 => ("FrogBreath$Marsh", "keeps", "[I", true)
  | 4 => ("FrogBreath$Marsh", "owes", "[I", true)
  | 5 => ("FrogBreath$Marsh", "held", "[I", true)
  | 6 => ("FrogBreath$Marsh", "led", "[I", true)
  | 7 => ("FrogBreath$Marsh", "girls", "I", false)
  | 8 => ("FrogBreath$Marsh", "frogs", "I", false)
  | 9 => ("FrogBreath$Marsh", "two", "I", false)
  | _ => ("FrogBreath$Marsh", "hour", "I", false)
def tyX4 : Nat → FieldType := fun k => match k with
  | 0 => .array .int
  | 1 => .array .int
  | 2 => .array .int
  | 3 => .array .int
  | 4 => .array .int
  | 5 => .array .int
  | 6 => .array .int
  | 7 => .int
  | 8 => .int
  | 9 => .int
  | _ => .int
abbrev wsX40 : List Cond := u_ws RX4 TX4 11
theorem nmX4 : ∀ a, a < 11 → ∀ b, b < 11 → a ≠ b → (TX4 a).2.1 ≠ (TX4 b).2.1 := by decide +kernel
theorem tyX4_ok : ∀ k, k < 11 → parseFieldDescriptor (TX4 k).2.2.1 = some (tyX4 k) := by decide +kernel
abbrev cX4_init : ByteArray := prog_6_method_1_code
def yX4_init : MethodName := ⟨RX4, "<init>", "()V"⟩
abbrev cX4_hasGirl : ByteArray := prog_6_method_2_code
def yX4_hasGirl : MethodName := ⟨RX4, "hasGirl", "(I)Z"⟩
abbrev cX4_hasFrog : ByteArray := prog_6_method_3_code
def yX4_hasFrog : MethodName := ⟨RX4, "hasFrog", "(I)Z"⟩
abbrev cX4_addGirl : ByteArray := prog_6_method_4_code
def yX4_addGirl : MethodName := ⟨RX4, "addGirl", "(I)I"⟩
abbrev cX4_addFrog : ByteArray := prog_6_method_5_code
def yX4_addFrog : MethodName := ⟨RX4, "addFrog", "(IIII)I"⟩
abbrev cX4_hasNumber : ByteArray := prog_6_method_6_code
def yX4_hasNumber : MethodName := ⟨RX4, "hasNumber", "(II)Z"⟩
abbrev cX4_numberOf : ByteArray := prog_6_method_7_code
def yX4_numberOf : MethodName := ⟨RX4, "numberOf", "(II)I"⟩
abbrev cX4_become : ByteArray := prog_6_method_8_code
def yX4_become : MethodName := ⟨RX4, "become", "(III)V"⟩
abbrev cX4_copy : ByteArray := prog_6_method_9_code
def yX4_copy : MethodName := ⟨RX4, "copy", "(LFrogBreath$Marsh;)V"⟩
abbrev cX4_layBack : ByteArray := prog_6_method_10_code
def yX4_layBack : MethodName := ⟨RX4, "layBack", "(LFrogBreath$Marsh;)V"⟩
abbrev cX4_far : ByteArray := prog_6_method_11_code
def yX4_far : MethodName := ⟨RX4, "far", "(II)I"⟩
abbrev cX4_nearestTo : ByteArray := prog_6_method_12_code
def yX4_nearestTo : MethodName := ⟨RX4, "nearestTo", "(I)I"⟩
abbrev cX4_owing : ByteArray := prog_6_method_13_code
def yX4_owing : MethodName := ⟨RX4, "owing", "()I"⟩
abbrev cX4_heldByAll : ByteArray := prog_6_method_14_code
def yX4_heldByAll : MethodName := ⟨RX4, "heldByAll", "()I"⟩
abbrev cX4_lend : ByteArray := prog_6_method_15_code
def yX4_lend : MethodName := ⟨RX4, "lend", "(III)V"⟩
abbrev cX4_owesNothing : ByteArray := prog_6_method_16_code
def yX4_owesNothing : MethodName := ⟨RX4, "owesNothing", "(I)V"⟩
abbrev cX4_meetCart : ByteArray := prog_6_method_17_code
def yX4_meetCart : MethodName := ⟨RX4, "meetCart", "(II)V"⟩
abbrev cX4_lossOf : ByteArray := prog_6_method_18_code
def yX4_lossOf : MethodName := ⟨RX4, "lossOf", "(ILFrogBreath$Law;)I"⟩
abbrev cX4_passHourOf : ByteArray := prog_6_method_19_code
def yX4_passHourOf : MethodName := ⟨RX4, "passHourOf", "(ILFrogBreath$Law;)I"⟩
abbrev cX4_nearer : ByteArray := prog_6_method_20_code
def yX4_nearer : MethodName := ⟨RX4, "nearer", "(II)I"⟩
abbrev cX4_endHour : ByteArray := prog_6_method_21_code
def yX4_endHour : MethodName := ⟨RX4, "endHour", "()V"⟩
abbrev cX4_passHour : ByteArray := prog_6_method_22_code
def yX4_passHour : MethodName := ⟨RX4, "passHour", "(LFrogBreath$Law;)I"⟩
def RX5 : String := "FrogBreath$Mill"
def TX5 : u_T := fun k => match k with
  | _ => ("", "", "", false)
def tyX5 : Nat → FieldType := fun k => match k with
  | _ => .int
abbrev wsX50 : List Cond := u_ws RX5 TX5 0
theorem nmX5 : ∀ a, a < 0 → ∀ b, b < 0 → a ≠ b → (TX5 a).2.1 ≠ (TX5 b).2.1 := by decide +kernel
theorem tyX5_ok : ∀ k, k < 0 → parseFieldDescriptor (TX5 k).2.2.1 = some (tyX5 k) := by decide +kernel
def RX6 : String := "FrogBreath$Muslin"
def TX6 : u_T := fun k => match k with
  | _ => ("", "", "", false)
def tyX6 : Nat → FieldType := fun k => match k with
  | _ => .int
abbrev wsX60 : List Cond := u_ws RX6 TX6 0
theorem nmX6 : ∀ a, a < 0 → ∀ b, b < 0 → a ≠ b → (TX6 a).2.1 ≠ (TX6 b).2.1 := by decide +kernel
theorem tyX6_ok : ∀ k, k < 0 → parseFieldDescriptor (TX6 k).2.2.1 = some (tyX6 k) := by decide +kernel
def RX7 : String := "FrogBreath$Prince"
def TX7 : u_T := fun k => match k with
  | _ => ("", "", "", false)
def tyX7 : Nat → FieldType := fun k => match k with
  | _ => .int
abbrev wsX70 : List Cond := u_ws RX7 TX7 0
theorem nmX7 : ∀ a, a < 0 → ∀ b, b < 0 → a ≠ b → (TX7 a).2.1 ≠ (TX7 b).2.1 := by decide +kernel
theorem tyX7_ok : ∀ k, k < 0 → parseFieldDescriptor (TX7 k).2.2.1 = some (tyX7 k) := by decide +kernel
def RX8 : String := "FrogBreath$Reed"
def TX8 : u_T := fun k => match k with
  | _ => ("", "", "", false)
def tyX8 : Nat → FieldType := fun k => match k with
  | _ => .int
abbrev wsX80 : List Cond := u_ws RX8 TX8 0
theorem nmX8 : ∀ a, a < 0 → ∀ b, b < 0 → a ≠ b → (TX8 a).2.1 ≠ (TX8 b).2.1 := by decide +kernel
theorem tyX8_ok : ∀ k, k < 0 → parseFieldDescriptor (TX8 k).2.2.1 = some (tyX8 k) := by decide +kernel
def RX9 : String := "FrogBreath$Shelf"
def TX9 : u_T := fun k => match k with
  | 0 => ("FrogBreath$Shelf", "elements", "[J", true)
  | 1 => ("FrogBreath$Shelf", "reed", "LFrogBreath$Reed;", false)
  | 2 => ("FrogBreath$Shelf", "sort", "I", false)
  | _ => ("FrogBreath$Shelf", "size", "I", false)
def tyX9 : Nat → FieldType := fun k => match k with
  | 0 => .array .long
  | 1 => .object "FrogBreath$Reed"
  | 2 => .int
  | _ => .int
abbrev wsX90 : List Cond := u_ws RX9 TX9 4
theorem nmX9 : ∀ a, a < 4 → ∀ b, b < 4 → a ≠ b → (TX9 a).2.1 ≠ (TX9 b).2.1 := by decide +kernel
theorem tyX9_ok : ∀ k, k < 4 → parseFieldDescriptor (TX9 k).2.2.1 = some (tyX9 k) := by decide +kernel
abbrev cX9_init : ByteArray := prog_11_method_1_code
def yX9_init : MethodName := ⟨RX9, "<init>", "()V"⟩
abbrev cX9_isBare : ByteArray := prog_11_method_2_code
def yX9_isBare : MethodName := ⟨RX9, "isBare", "()Z"⟩
abbrev cX9_isRow : ByteArray := prog_11_method_3_code
def yX9_isRow : MethodName := ⟨RX9, "isRow", "()Z"⟩
abbrev cX9_isBytes : ByteArray := prog_11_method_4_code
def yX9_isBytes : MethodName := ⟨RX9, "isBytes", "()Z"⟩
abbrev cX9_hold : ByteArray := prog_11_method_5_code
def yX9_hold : MethodName := ⟨RX9, "hold", "(LFrogBreath$Reed;)V"⟩
abbrev cX9_holdRow : ByteArray := prog_11_method_6_code
def yX9_holdRow : MethodName := ⟨RX9, "holdRow", "(II)V"⟩
abbrev cX9_hasPart : ByteArray := prog_11_method_7_code
def yX9_hasPart : MethodName := ⟨RX9, "hasPart", "(II)Z"⟩
abbrev cX9_at : ByteArray := prog_11_method_8_code
def yX9_at : MethodName := ⟨RX9, "at", "(I)J"⟩
abbrev cX9_become : ByteArray := prog_11_method_9_code
def yX9_become : MethodName := ⟨RX9, "become", "(IJ)V"⟩
def RX10 : String := "FrogBreath$Sigh"
def TX10 : u_T := fun k => match k with
  | _ => ("", "", "", false)
def tyX10 : Nat → FieldType := fun k => match k with
  | _ => .int
abbrev wsX100 : List Cond := u_ws RX10 TX10 0
theorem nmX10 : ∀ a, a < 0 → ∀ b, b < 0 → a ≠ b → (TX10 a).2.1 ≠ (TX10 b).2.1 := by decide +kernel
theorem tyX10_ok : ∀ k, k < 0 → parseFieldDescriptor (TX10 k).2.2.1 = some (tyX10 k) := by decide +kernel
def RX11 : String := "FrogBreath"
def TX11 : u_T := fun k => match k with
  | 0 => ("FrogBreath", "now", "LFrogBreath$Marsh;", true)
  | 1 => ("FrogBreath", "thought", "LFrogBreath$Marsh;", true)
  | 2 => ("FrogBreath", "kept", "LFrogBreath$Marsh;", true)
  | 3 => ("FrogBreath", "imageKept", "Z", false)
  | 4 => ("FrogBreath", "law", "LFrogBreath$Law;", false)
  | 5 => ("FrogBreath", "draft", "LFrogBreath$Law;", false)
  | 6 => ("FrogBreath", "tape", "[I", true)
  | 7 => ("FrogBreath", "tapeSize", "I", false)
  | 8 => ("FrogBreath", "changes", "[[I", true)
  | 9 => ("FrogBreath", "changesKept", "I", false)
  | 10 => ("FrogBreath", "changesDone", "I", false)
  | 11 => ("FrogBreath", "gains", "[[I", true)
  | 12 => ("FrogBreath", "mostBack", "[[I", true)
  | 13 => ("FrogBreath", "bodies", "[LFrogBreath$Reed;", true)
  | 14 => ("FrogBreath", "bodyCount", "I", false)
  | 15 => ("FrogBreath", "ran", "[I", true)
  | _ => ("FrogBreath", "shelves", "[LFrogBreath$Shelf;", true)
def tyX11 : Nat → FieldType := fun k => match k with
  | 0 => .object "FrogBreath$Marsh"
  | 1 => .object "FrogBreath$Marsh"
  | 2 => .object "FrogBreath$Marsh"
  | 3 => .boolean
  | 4 => .object "FrogBreath$Law"
  | 5 => .object "FrogBreath$Law"
  | 6 => .array .int
  | 7 => .int
  | 8 => .array (.array .int)
  | 9 => .int
  | 10 => .int
  | 11 => .array (.array .int)
  | 12 => .array (.array .int)
  | 13 => .array (.object "FrogBreath$Reed")
  | 14 => .int
  | 15 => .array .int
  | _ => .array (.object "FrogBreath$Shelf")
abbrev wsX110 : List Cond := u_ws RX11 TX11 17
theorem nmX11 : ∀ a, a < 17 → ∀ b, b < 17 → a ≠ b → (TX11 a).2.1 ≠ (TX11 b).2.1 := by decide +kernel
theorem tyX11_ok : ∀ k, k < 17 → parseFieldDescriptor (TX11 k).2.2.1 = some (tyX11 k) := by decide +kernel
abbrev cX11_init : ByteArray := prog_1_method_1_code
def yX11_init : MethodName := ⟨RX11, "<init>", "()V"⟩
abbrev cX11_girl : ByteArray := prog_1_method_2_code
def yX11_girl : MethodName := ⟨RX11, "girl", "(I)I"⟩
abbrev cX11_frog : ByteArray := prog_1_method_3_code
def yX11_frog : MethodName := ⟨RX11, "frog", "(II)I"⟩
abbrev cX11_mend : ByteArray := prog_1_method_6_code
def yX11_mend : MethodName := ⟨RX11, "mend", "(III)I"⟩
abbrev cX11_mayBe : ByteArray := prog_1_method_7_code
def yX11_mayBe : MethodName := ⟨RX11, "mayBe", "(II)Z"⟩
abbrev cX11_of : ByteArray := prog_1_method_8_code
def yX11_of : MethodName := ⟨RX11, "of", "(II)I"⟩
abbrev cX11_feed : ByteArray := prog_1_method_9_code
def yX11_feed : MethodName := ⟨RX11, "feed", "(I)I"⟩
abbrev cX11_law : ByteArray := prog_1_method_10_code
def yX11_law : MethodName := ⟨RX11, "law", "()I"⟩
abbrev cX11_loses : ByteArray := prog_1_method_11_code
def yX11_loses : MethodName := ⟨RX11, "loses", "(I)I"⟩
abbrev cX11_later : ByteArray := prog_1_method_12_code
def yX11_later : MethodName := ⟨RX11, "later", "(III)I"⟩
abbrev cX11_thinkOn : ByteArray := prog_1_method_13_code
def yX11_thinkOn : MethodName := ⟨RX11, "thinkOn", "(I)V"⟩
abbrev cX11_marsh : ByteArray := prog_1_method_14_code
def yX11_marsh : MethodName := ⟨RX11, "marsh", "(II)I"⟩
abbrev cX11_backWhen : ByteArray := prog_1_method_15_code
def yX11_backWhen : MethodName := ⟨RX11, "backWhen", "(I)I"⟩
abbrev cX11_loan : ByteArray := prog_1_method_16_code
def yX11_loan : MethodName := ⟨RX11, "loan", "(III)I"⟩
abbrev cX11_thinkLoan : ByteArray := prog_1_method_17_code
def yX11_thinkLoan : MethodName := ⟨RX11, "thinkLoan", "(III)V"⟩
abbrev cX11_givenBack : ByteArray := prog_1_method_18_code
def yX11_givenBack : MethodName := ⟨RX11, "givenBack", "(I)I"⟩
abbrev cX11_hoursTillBack : ByteArray := prog_1_method_19_code
def yX11_hoursTillBack : MethodName := ⟨RX11, "hoursTillBack", "(I)I"⟩
abbrev cX11_best : ByteArray := prog_1_method_20_code
def yX11_best : MethodName := ⟨RX11, "best", "(III)I"⟩
abbrev cX11_dealt : ByteArray := prog_1_method_21_code
def yX11_dealt : MethodName := ⟨RX11, "dealt", "(II)I"⟩
abbrev cX11_thinkGains : ByteArray := prog_1_method_22_code
def yX11_thinkGains : MethodName := ⟨RX11, "thinkGains", "(I)V"⟩
abbrev cX11_thinkMostBack : ByteArray := prog_1_method_23_code
def yX11_thinkMostBack : MethodName := ⟨RX11, "thinkMostBack", "()V"⟩
abbrev cX11_backByLending : ByteArray := prog_1_method_24_code
def yX11_backByLending : MethodName := ⟨RX11, "backByLending", "(III)I"⟩
abbrev cX11_frogDealtTo : ByteArray := prog_1_method_25_code
def yX11_frogDealtTo : MethodName := ⟨RX11, "frogDealtTo", "(I)I"⟩
abbrev cX11_firstBestFrog : ByteArray := prog_1_method_26_code
def yX11_firstBestFrog : MethodName := ⟨RX11, "firstBestFrog", "(II)I"⟩
abbrev cX11_least : ByteArray := prog_1_method_27_code
def yX11_least : MethodName := ⟨RX11, "least", "(II)I"⟩
abbrev cX11_heldBehind : ByteArray := prog_1_method_28_code
def yX11_heldBehind : MethodName := ⟨RX11, "heldBehind", "(II)I"⟩
abbrev cX11_bars : ByteArray := prog_1_method_29_code
def yX11_bars : MethodName := ⟨RX11, "bars", "(II)I"⟩
abbrev cX11_nextTogether : ByteArray := prog_1_method_30_code
def yX11_nextTogether : MethodName := ⟨RX11, "nextTogether", "(I)I"⟩
abbrev cX11_beginningAt : ByteArray := prog_1_method_31_code
def yX11_beginningAt : MethodName := ⟨RX11, "beginningAt", "(II)I"⟩
abbrev cX11_stops : ByteArray := prog_1_method_32_code
def yX11_stops : MethodName := ⟨RX11, "stops", "(II)I"⟩
abbrev cX11_allHeardFrom : ByteArray := prog_1_method_33_code
def yX11_allHeardFrom : MethodName := ⟨RX11, "allHeardFrom", "(II)Z"⟩
abbrev cX11_isHeardFrom : ByteArray := prog_1_method_34_code
def yX11_isHeardFrom : MethodName := ⟨RX11, "isHeardFrom", "(III)Z"⟩
abbrev cX11_judge : ByteArray := prog_1_method_35_code
def yX11_judge : MethodName := ⟨RX11, "judge", "(II)I"⟩
abbrev cX11_bookRefusal : ByteArray := prog_1_method_36_code
def yX11_bookRefusal : MethodName := ⟨RX11, "bookRefusal", "(LFrogBreath$Shelf;)I"⟩
abbrev cX11_firstNotSo : ByteArray := prog_1_method_37_code
def yX11_firstNotSo : MethodName := ⟨RX11, "firstNotSo", "(LFrogBreath$Shelf;I)I"⟩
abbrev cX11_fits : ByteArray := prog_1_method_38_code
def yX11_fits : MethodName := ⟨RX11, "fits", "(III)I"⟩
abbrev cX11_keptBy : ByteArray := prog_1_method_39_code
def yX11_keptBy : MethodName := ⟨RX11, "keptBy", "(LFrogBreath$Shelf;I)I"⟩
abbrev cX11_whose : ByteArray := prog_1_method_40_code
def yX11_whose : MethodName := ⟨RX11, "whose", "(LFrogBreath$Shelf;I)I"⟩
abbrev cX11_alike : ByteArray := prog_1_method_41_code
def yX11_alike : MethodName := ⟨RX11, "alike", "()I"⟩
abbrev cX11_holdAsMuch : ByteArray := prog_1_method_42_code
def yX11_holdAsMuch : MethodName := ⟨RX11, "holdAsMuch", "(II)Z"⟩
abbrev cX11_ring : ByteArray := prog_1_method_43_code
def yX11_ring : MethodName := ⟨RX11, "ring", "(I)I"⟩
abbrev cX11_byTurns : ByteArray := prog_1_method_44_code
def yX11_byTurns : MethodName := ⟨RX11, "byTurns", "(III)I"⟩
abbrev cX11_lessTwo : ByteArray := prog_1_method_45_code
def yX11_lessTwo : MethodName := ⟨RX11, "lessTwo", "(I)I"⟩
abbrev cX11_turn : ByteArray := prog_1_method_46_code
def yX11_turn : MethodName := ⟨RX11, "turn", "(IIZII)I"⟩
abbrev cX11_backBy : ByteArray := prog_1_method_47_code
def yX11_backBy : MethodName := ⟨RX11, "backBy", "(III)I"⟩
abbrev cX11_drawn : ByteArray := prog_1_method_48_code
def yX11_drawn : MethodName := ⟨RX11, "drawn", "(III)I"⟩
abbrev cX11_hour : ByteArray := prog_1_method_49_code
def yX11_hour : MethodName := ⟨RX11, "hour", "()I"⟩
abbrev cX11_lends : ByteArray := prog_1_method_50_code
def yX11_lends : MethodName := ⟨RX11, "lends", "(II)I"⟩
abbrev cX11_over : ByteArray := prog_1_method_51_code
def yX11_over : MethodName := ⟨RX11, "over", "(I)I"⟩
abbrev cX11_led : ByteArray := prog_1_method_52_code
def yX11_led : MethodName := ⟨RX11, "led", "(I)I"⟩
abbrev cX11_image : ByteArray := prog_1_method_53_code
def yX11_image : MethodName := ⟨RX11, "image", "()I"⟩
abbrev cX11_back : ByteArray := prog_1_method_54_code
def yX11_back : MethodName := ⟨RX11, "back", "()I"⟩
abbrev cX11_noteChange : ByteArray := prog_1_method_55_code
def yX11_noteChange : MethodName := ⟨RX11, "noteChange", "(IIII)V"⟩
abbrev cX11_forgetOldestChange : ByteArray := prog_1_method_56_code
def yX11_forgetOldestChange : MethodName := ⟨RX11, "forgetOldestChange", "()V"⟩
abbrev cX11_undo : ByteArray := prog_1_method_57_code
def yX11_undo : MethodName := ⟨RX11, "undo", "()I"⟩
abbrev cX11_keep : ByteArray := prog_1_method_63_code
def yX11_keep : MethodName := ⟨RX11, "keep", "(II)I"⟩
abbrev cX11_row : ByteArray := prog_1_method_64_code
def yX11_row : MethodName := ⟨RX11, "row", "(III)I"⟩
abbrev cX11_put : ByteArray := prog_1_method_65_code
def yX11_put : MethodName := ⟨RX11, "put", "(IIJ)I"⟩
abbrev cX11_elementRefusal : ByteArray := prog_1_method_67_code
def yX11_elementRefusal : MethodName := ⟨RX11, "elementRefusal", "(II)I"⟩
abbrev cX11_count : ByteArray := prog_1_method_71_code
def yX11_count : MethodName := ⟨RX11, "count", "(I)I"⟩
abbrev cX11_within : ByteArray := prog_1_method_72_code
def yX11_within : MethodName := ⟨RX11, "within", "(III)Z"⟩
abbrev cX11_isShelf : ByteArray := prog_1_method_73_code
def yX11_isShelf : MethodName := ⟨RX11, "isShelf", "(I)Z"⟩
abbrev cX11_isPair : ByteArray := prog_1_method_74_code
def yX11_isPair : MethodName := ⟨RX11, "isPair", "(I)Z"⟩
def RX12 : String := "FrogBreathModel"
def TX12 : u_T := fun k => match k with
  | _ => ("", "", "", false)
def tyX12 : Nat → FieldType := fun k => match k with
  | _ => .int
abbrev wsX120 : List Cond := u_ws RX12 TX12 0
theorem nmX12 : ∀ a, a < 0 → ∀ b, b < 0 → a ≠ b → (TX12 a).2.1 ≠ (TX12 b).2.1 := by decide +kernel
theorem tyX12_ok : ∀ k, k < 0 → parseFieldDescriptor (TX12 k).2.2.1 = some (tyX12 k) := by decide +kernel
def RJx145de : String := "java/io/Serializable"
def TJx145de : u_T := fun k => match k with
  | _ => ("", "", "", false)
def tyJx145de : Nat → FieldType := fun k => match k with
  | _ => .int
abbrev wsJx145de0 : List Cond := u_ws RJx145de TJx145de 0
theorem nmJx145de : ∀ a, a < 0 → ∀ b, b < 0 → a ≠ b → (TJx145de a).2.1 ≠ (TJx145de b).2.1 := by decide +kernel
theorem tyJx145de_ok : ∀ k, k < 0 → parseFieldDescriptor (TJx145de k).2.2.1 = some (tyJx145de k) := by decide +kernel
def RJ5 : String := "java/lang/AbstractStringBuilder"
def TJ5 : u_T := fun k => match k with
  | _ => ("", "", "", false)
def tyJ5 : Nat → FieldType := fun k => match k with
  | _ => .int
abbrev wsJ50 : List Cond := u_ws RJ5 TJ5 0
theorem nmJ5 : ∀ a, a < 0 → ∀ b, b < 0 → a ≠ b → (TJ5 a).2.1 ≠ (TJ5 b).2.1 := by decide +kernel
theorem tyJ5_ok : ∀ k, k < 0 → parseFieldDescriptor (TJ5 k).2.2.1 = some (tyJ5 k) := by decide +kernel
abbrev cJ5_init_d00df : ByteArray := prog_15_method_2_code
def yJ5_init_d00df : MethodName := ⟨RJ5, "<init>", "(I)V"⟩
abbrev cJ5_length_8abf5 : ByteArray := prog_15_method_6_code
def yJ5_length_8abf5 : MethodName := ⟨RJ5, "length", "()I"⟩
abbrev cJ5_ensureCapacityInternal_d00df : ByteArray := prog_15_method_9_code
def yJ5_ensureCapacityInternal_d00df : MethodName := ⟨RJ5, "ensureCapacityInternal", "(I)V"⟩
abbrev cJ5_newCapacity_0f7a4 : ByteArray := prog_15_method_10_code
def yJ5_newCapacity_0f7a4 : MethodName := ⟨RJ5, "newCapacity", "(I)I"⟩
abbrev cJ5_inflate_da8c8 : ByteArray := prog_15_method_11_code
def yJ5_inflate_da8c8 : MethodName := ⟨RJ5, "inflate", "()V"⟩
abbrev cJ5_append_cf1ce : ByteArray := prog_15_method_22_code
def yJ5_append_cf1ce : MethodName := ⟨RJ5, "append", "(Ljava/lang/String;)Ljava/lang/AbstractStringBuilder;"⟩
abbrev cJ5_appendNull_278bc : ByteArray := prog_15_method_26_code
def yJ5_appendNull_278bc : MethodName := ⟨RJ5, "appendNull", "()Ljava/lang/AbstractStringBuilder;"⟩
abbrev cJ5_append_3fe6f : ByteArray := prog_15_method_31_code
def yJ5_append_3fe6f : MethodName := ⟨RJ5, "append", "(C)Ljava/lang/AbstractStringBuilder;"⟩
abbrev cJ5_append_c97b9 : ByteArray := prog_15_method_32_code
def yJ5_append_c97b9 : MethodName := ⟨RJ5, "append", "(I)Ljava/lang/AbstractStringBuilder;"⟩
abbrev cJ5_getValue_6d5f1 : ByteArray := prog_15_method_64_code
def yJ5_getValue_6d5f1 : MethodName := ⟨RJ5, "getValue", "()[B"⟩
abbrev cJ5_isLatin1_aae02 : ByteArray := prog_15_method_68_code
def yJ5_isLatin1_aae02 : MethodName := ⟨RJ5, "isLatin1", "()Z"⟩
abbrev cJ5_inflateIfNeededFor_a7421 : ByteArray := prog_15_method_71_code
def yJ5_inflateIfNeededFor_a7421 : MethodName := ⟨RJ5, "inflateIfNeededFor", "(Ljava/lang/String;)V"⟩
abbrev cJ5_putStringAt_47b60 : ByteArray := prog_15_method_73_code
def yJ5_putStringAt_47b60 : MethodName := ⟨RJ5, "putStringAt", "(ILjava/lang/String;)V"⟩
def RJx2cfe8 : String := "java/lang/Appendable"
def TJx2cfe8 : u_T := fun k => match k with
  | _ => ("", "", "", false)
def tyJx2cfe8 : Nat → FieldType := fun k => match k with
  | _ => .int
abbrev wsJx2cfe80 : List Cond := u_ws RJx2cfe8 TJx2cfe8 0
theorem nmJx2cfe8 : ∀ a, a < 0 → ∀ b, b < 0 → a ≠ b → (TJx2cfe8 a).2.1 ≠ (TJx2cfe8 b).2.1 := by decide +kernel
theorem tyJx2cfe8_ok : ∀ k, k < 0 → parseFieldDescriptor (TJx2cfe8 k).2.2.1 = some (tyJx2cfe8 k) := by decide +kernel
def RJx9f9b0 : String := "java/lang/CharSequence"
def TJx9f9b0 : u_T := fun k => match k with
  | _ => ("", "", "", false)
def tyJx9f9b0 : Nat → FieldType := fun k => match k with
  | _ => .int
abbrev wsJx9f9b00 : List Cond := u_ws RJx9f9b0 TJx9f9b0 0
theorem nmJx9f9b0 : ∀ a, a < 0 → ∀ b, b < 0 → a ≠ b → (TJx9f9b0 a).2.1 ≠ (TJx9f9b0 b).2.1 := by decide +kernel
theorem tyJx9f9b0_ok : ∀ k, k < 0 → parseFieldDescriptor (TJx9f9b0 k).2.2.1 = some (tyJx9f9b0 k) := by decide +kernel
def RJx8e188 : String := "java/lang/Cloneable"
def TJx8e188 : u_T := fun k => match k with
  | _ => ("", "", "", false)
def tyJx8e188 : Nat → FieldType := fun k => match k with
  | _ => .int
abbrev wsJx8e1880 : List Cond := u_ws RJx8e188 TJx8e188 0
theorem nmJx8e188 : ∀ a, a < 0 → ∀ b, b < 0 → a ≠ b → (TJx8e188 a).2.1 ≠ (TJx8e188 b).2.1 := by decide +kernel
theorem tyJx8e188_ok : ∀ k, k < 0 → parseFieldDescriptor (TJx8e188 k).2.2.1 = some (tyJx8e188 k) := by decide +kernel
def RJxb160c : String := "java/lang/Comparable"
def TJxb160c : u_T := fun k => match k with
  | _ => ("", "", "", false)
def tyJxb160c : Nat → FieldType := fun k => match k with
  | _ => .int
abbrev wsJxb160c0 : List Cond := u_ws RJxb160c TJxb160c 0
theorem nmJxb160c : ∀ a, a < 0 → ∀ b, b < 0 → a ≠ b → (TJxb160c a).2.1 ≠ (TJxb160c b).2.1 := by decide +kernel
theorem tyJxb160c_ok : ∀ k, k < 0 → parseFieldDescriptor (TJxb160c k).2.2.1 = some (tyJxb160c k) := by decide +kernel
def RJ6 : String := "java/lang/Integer"
def TJ6 : u_T := fun k => match k with
  | _ => ("", "", "", false)
def tyJ6 : Nat → FieldType := fun k => match k with
  | _ => .int
abbrev wsJ60 : List Cond := u_ws RJ6 TJ6 0
theorem nmJ6 : ∀ a, a < 0 → ∀ b, b < 0 → a ≠ b → (TJ6 a).2.1 ≠ (TJ6 b).2.1 := by decide +kernel
theorem tyJ6_ok : ∀ k, k < 0 → parseFieldDescriptor (TJ6 k).2.2.1 = some (tyJ6 k) := by decide +kernel
abbrev cJ6_getChars_ba4f3 : ByteArray := prog_17_method_12_code
def yJ6_getChars_ba4f3 : MethodName := ⟨RJ6, "getChars", "(II[B)I"⟩
abbrev cJ6_stringSize_0f7a4 : ByteArray := prog_17_method_13_code
def yJ6_stringSize_0f7a4 : MethodName := ⟨RJ6, "stringSize", "(I)I"⟩
abbrev cJ6_compare_7cf53 : ByteArray := prog_17_method_40_code
def yJ6_compare_7cf53 : MethodName := ⟨RJ6, "compare", "(II)I"⟩
abbrev cJ6_bitCount_0f7a4 : ByteArray := prog_17_method_49_code
def yJ6_bitCount_0f7a4 : MethodName := ⟨RJ6, "bitCount", "(I)I"⟩
def RJ9 : String := "java/lang/Math"
def TJ9 : u_T := fun k => match k with
  | _ => ("", "", "", false)
def tyJ9 : Nat → FieldType := fun k => match k with
  | _ => .int
abbrev wsJ90 : List Cond := u_ws RJ9 TJ9 0
theorem nmJ9 : ∀ a, a < 0 → ∀ b, b < 0 → a ≠ b → (TJ9 a).2.1 ≠ (TJ9 b).2.1 := by decide +kernel
theorem tyJ9_ok : ∀ k, k < 0 → parseFieldDescriptor (TJ9 k).2.2.1 = some (tyJ9 k) := by decide +kernel
abbrev cJ9_abs_0f7a4 : ByteArray := prog_18_method_59_code
def yJ9_abs_0f7a4 : MethodName := ⟨RJ9, "abs", "(I)I"⟩
abbrev cJ9_max_7cf53 : ByteArray := prog_18_method_65_code
def yJ9_max_7cf53 : MethodName := ⟨RJ9, "max", "(II)I"⟩
abbrev cJ9_min_7cf53 : ByteArray := prog_18_method_69_code
def yJ9_min_7cf53 : MethodName := ⟨RJ9, "min", "(II)I"⟩
def RJxd2413 : String := "java/lang/Number"
def TJxd2413 : u_T := fun k => match k with
  | _ => ("", "", "", false)
def tyJxd2413 : Nat → FieldType := fun k => match k with
  | _ => .int
abbrev wsJxd24130 : List Cond := u_ws RJxd2413 TJxd2413 0
theorem nmJxd2413 : ∀ a, a < 0 → ∀ b, b < 0 → a ≠ b → (TJxd2413 a).2.1 ≠ (TJxd2413 b).2.1 := by decide +kernel
theorem tyJxd2413_ok : ∀ k, k < 0 → parseFieldDescriptor (TJxd2413 k).2.2.1 = some (tyJxd2413 k) := by decide +kernel
def RJ0 : String := "java/lang/String"
def TJ0 : u_T := fun k => match k with
  | 0 => ("java/lang/String", "value", "[B", true)
  | 1 => ("java/lang/String", "coder", "B", true)
  | 2 => ("java/lang/String", "hash", "I", false)
  | _ => ("java/lang/String", "hashIsZero", "Z", false)
def tyJ0 : Nat → FieldType := fun k => match k with
  | 0 => .array .byte
  | 1 => .byte
  | 2 => .int
  | _ => .boolean
abbrev wsJ00 : List Cond := u_ws RJ0 TJ0 4
theorem nmJ0 : ∀ a, a < 4 → ∀ b, b < 4 → a ≠ b → (TJ0 a).2.1 ≠ (TJ0 b).2.1 := by decide +kernel
theorem tyJ0_ok : ∀ k, k < 4 → parseFieldDescriptor (TJ0 k).2.2.1 = some (tyJ0 k) := by decide +kernel
abbrev cJ0_init_81219 : ByteArray := prog_20_method_53_code
def yJ0_init_81219 : MethodName := ⟨RJ0, "<init>", "(Ljava/lang/StringBuilder;)V"⟩
abbrev cJ0_length_8abf5 : ByteArray := prog_20_method_54_code
def yJ0_length_8abf5 : MethodName := ⟨RJ0, "length", "()I"⟩
abbrev cJ0_charAt_5068e : ByteArray := prog_20_method_56_code
def yJ0_charAt_5068e : MethodName := ⟨RJ0, "charAt", "(I)C"⟩
abbrev cJ0_getBytes_840e7 : ByteArray := prog_20_method_147_code
def yJ0_getBytes_840e7 : MethodName := ⟨RJ0, "getBytes", "([BIB)V"⟩
abbrev cJ0_init_db425 : ByteArray := prog_20_method_150_code
def yJ0_init_db425 : MethodName := ⟨RJ0, "<init>", "(Ljava/lang/AbstractStringBuilder;Ljava/lang/Void;)V"⟩
abbrev cJ0_coder_7d493 : ByteArray := prog_20_method_152_code
def yJ0_coder_7d493 : MethodName := ⟨RJ0, "coder", "()B"⟩
abbrev cJ0_isLatin1_aae02 : ByteArray := prog_20_method_154_code
def yJ0_isLatin1_aae02 : MethodName := ⟨RJ0, "isLatin1", "()Z"⟩
abbrev cJ0_checkIndex_df160 : ByteArray := prog_20_method_155_code
def yJ0_checkIndex_df160 : MethodName := ⟨RJ0, "checkIndex", "(II)V"⟩
abbrev cJ0_checkBoundsOffCount_cabcc : ByteArray := prog_20_method_157_code
def yJ0_checkBoundsOffCount_cabcc : MethodName := ⟨RJ0, "checkBoundsOffCount", "(III)I"⟩
abbrev cJ0_checkBoundsBeginEnd_23922 : ByteArray := prog_20_method_158_code
def yJ0_checkBoundsBeginEnd_23922 : MethodName := ⟨RJ0, "checkBoundsBeginEnd", "(III)V"⟩
def RJ4 : String := "java/lang/StringBuilder"
def TJ4 : u_T := fun k => match k with
  | 0 => ("java/lang/AbstractStringBuilder", "value", "[B", false)
  | 1 => ("java/lang/AbstractStringBuilder", "coder", "B", false)
  | 2 => ("java/lang/AbstractStringBuilder", "maybeLatin1", "Z", false)
  | _ => ("java/lang/AbstractStringBuilder", "count", "I", false)
def tyJ4 : Nat → FieldType := fun k => match k with
  | 0 => .array .byte
  | 1 => .byte
  | 2 => .boolean
  | _ => .int
abbrev wsJ40 : List Cond := u_ws RJ4 TJ4 4
theorem nmJ4 : ∀ a, a < 4 → ∀ b, b < 4 → a ≠ b → (TJ4 a).2.1 ≠ (TJ4 b).2.1 := by decide +kernel
theorem tyJ4_ok : ∀ k, k < 4 → parseFieldDescriptor (TJ4 k).2.2.1 = some (tyJ4 k) := by decide +kernel
abbrev cJ4_init_da8c8 : ByteArray := prog_21_method_1_code
def yJ4_init_da8c8 : MethodName := ⟨RJ4, "<init>", "()V"⟩
abbrev cJ4_append_15ec4 : ByteArray := prog_21_method_7_code
def yJ4_append_15ec4 : MethodName := ⟨RJ4, "append", "(Ljava/lang/String;)Ljava/lang/StringBuilder;"⟩
abbrev cJ4_append_cf468 : ByteArray := prog_21_method_14_code
def yJ4_append_cf468 : MethodName := ⟨RJ4, "append", "(C)Ljava/lang/StringBuilder;"⟩
abbrev cJ4_append_bf812 : ByteArray := prog_21_method_15_code
def yJ4_append_bf812 : MethodName := ⟨RJ4, "append", "(I)Ljava/lang/StringBuilder;"⟩
abbrev cJ4_toString_0e30d : ByteArray := prog_21_method_42_code
def yJ4_toString_0e30d : MethodName := ⟨RJ4, "toString", "()Ljava/lang/String;"⟩
abbrev cJ4_length_8abf5 : ByteArray := prog_21_method_93_code
def yJ4_length_8abf5 : MethodName := ⟨RJ4, "length", "()I"⟩
def RJ1 : String := "java/lang/StringLatin1"
def TJ1 : u_T := fun k => match k with
  | _ => ("", "", "", false)
def tyJ1 : Nat → FieldType := fun k => match k with
  | _ => .int
abbrev wsJ10 : List Cond := u_ws RJ1 TJ1 0
theorem nmJ1 : ∀ a, a < 0 → ∀ b, b < 0 → a ≠ b → (TJ1 a).2.1 ≠ (TJ1 b).2.1 := by decide +kernel
theorem tyJ1_ok : ∀ k, k < 0 → parseFieldDescriptor (TJ1 k).2.2.1 = some (tyJ1 k) := by decide +kernel
abbrev cJ1_charAt_3b067 : ByteArray := prog_22_method_2_code
def yJ1_charAt_3b067 : MethodName := ⟨RJ1, "charAt", "([BI)C"⟩
abbrev cJ1_canEncode_fc78d : ByteArray := prog_22_method_3_code
def yJ1_canEncode_fc78d : MethodName := ⟨RJ1, "canEncode", "(C)Z"⟩
abbrev cJ1_inflate_0e8fd : ByteArray := prog_22_method_50_code
def yJ1_inflate_0e8fd : MethodName := ⟨RJ1, "inflate", "([BI[BII)V"⟩
def RJ2 : String := "java/lang/StringUTF16"
def TJ2 : u_T := fun k => match k with
  | _ => ("", "", "", false)
def tyJ2 : Nat → FieldType := fun k => match k with
  | _ => .int
abbrev wsJ20 : List Cond := u_ws RJ2 TJ2 0
theorem nmJ2 : ∀ a, a < 0 → ∀ b, b < 0 → a ≠ b → (TJ2 a).2.1 ≠ (TJ2 b).2.1 := by decide +kernel
theorem tyJ2_ok : ∀ k, k < 0 → parseFieldDescriptor (TJ2 k).2.2.1 = some (tyJ2 k) := by decide +kernel
abbrev cJ2_newBytesFor_77867 : ByteArray := prog_23_method_2_code
def yJ2_newBytesFor_77867 : MethodName := ⟨RJ2, "newBytesFor", "(I)[B"⟩
abbrev cJ2_newBytesLength_0f7a4 : ByteArray := prog_23_method_3_code
def yJ2_newBytesLength_0f7a4 : MethodName := ⟨RJ2, "newBytesLength", "(I)I"⟩
abbrev cJ2_putChar_b72d1 : ByteArray := prog_23_method_4_code
def yJ2_putChar_b72d1 : MethodName := ⟨RJ2, "putChar", "([BII)V"⟩
abbrev cJ2_getChar_3b067 : ByteArray := prog_23_method_5_code
def yJ2_getChar_3b067 : MethodName := ⟨RJ2, "getChar", "([BI)C"⟩
abbrev cJ2_length_9d52b : ByteArray := prog_23_method_6_code
def yJ2_length_9d52b : MethodName := ⟨RJ2, "length", "([B)I"⟩
abbrev cJ2_coderFromArrayLen_85cad : ByteArray := prog_23_method_15_code
def yJ2_coderFromArrayLen_85cad : MethodName := ⟨RJ2, "coderFromArrayLen", "([BI)B"⟩
abbrev cJ2_compress_39247 : ByteArray := prog_23_method_17_code
def yJ2_compress_39247 : MethodName := ⟨RJ2, "compress", "([BII)[B"⟩
abbrev cJ2_compress_5af95 : ByteArray := prog_23_method_22_code
def yJ2_compress_5af95 : MethodName := ⟨RJ2, "compress", "([BI[BII)I"⟩
abbrev cJ2_putCharSB_b72d1 : ByteArray := prog_23_method_71_code
def yJ2_putCharSB_b72d1 : MethodName := ⟨RJ2, "putCharSB", "([BII)V"⟩
abbrev cJ2_getChars_46870 : ByteArray := prog_23_method_77_code
def yJ2_getChars_46870 : MethodName := ⟨RJ2, "getChars", "(III[B)I"⟩
abbrev cJ2_putCharsAt_cd4e5 : ByteArray := prog_23_method_81_code
def yJ2_putCharsAt_cd4e5 : MethodName := ⟨RJ2, "putCharsAt", "([BICCCC)I"⟩
abbrev cJ2_charAt_3b067 : ByteArray := prog_23_method_83_code
def yJ2_charAt_3b067 : MethodName := ⟨RJ2, "charAt", "([BI)C"⟩
abbrev cJ2_inflate_0e8fd : ByteArray := prog_23_method_86_code
def yJ2_inflate_0e8fd : MethodName := ⟨RJ2, "inflate", "([BI[BII)V"⟩
abbrev cJ2_getChars_ba4f3 : ByteArray := prog_23_method_89_code
def yJ2_getChars_ba4f3 : MethodName := ⟨RJ2, "getChars", "(II[B)I"⟩
abbrev cJ2_checkIndex_2214a : ByteArray := prog_23_method_91_code
def yJ2_checkIndex_2214a : MethodName := ⟨RJ2, "checkIndex", "(I[B)V"⟩
abbrev cJ2_checkBoundsBeginEnd_d044e : ByteArray := prog_23_method_93_code
def yJ2_checkBoundsBeginEnd_d044e : MethodName := ⟨RJ2, "checkBoundsBeginEnd", "(II[B)V"⟩
abbrev cJ2_checkBoundsOffCount_d044e : ByteArray := prog_23_method_94_code
def yJ2_checkBoundsOffCount_d044e : MethodName := ⟨RJ2, "checkBoundsOffCount", "(II[B)V"⟩
def RJ10 : String := "java/lang/System"
def TJ10 : u_T := fun k => match k with
  | _ => ("", "", "", false)
def tyJ10 : Nat → FieldType := fun k => match k with
  | _ => .int
abbrev wsJ100 : List Cond := u_ws RJ10 TJ10 0
theorem nmJ10 : ∀ a, a < 0 → ∀ b, b < 0 → a ≠ b → (TJ10 a).2.1 ≠ (TJ10 b).2.1 := by decide +kernel
theorem tyJ10_ok : ∀ k, k < 0 → parseFieldDescriptor (TJ10 k).2.2.1 = some (tyJ10 k) := by decide +kernel
def RJxfd54e : String := "java/lang/constant/Constable"
def TJxfd54e : u_T := fun k => match k with
  | _ => ("", "", "", false)
def tyJxfd54e : Nat → FieldType := fun k => match k with
  | _ => .int
abbrev wsJxfd54e0 : List Cond := u_ws RJxfd54e TJxfd54e 0
theorem nmJxfd54e : ∀ a, a < 0 → ∀ b, b < 0 → a ≠ b → (TJxfd54e a).2.1 ≠ (TJxfd54e b).2.1 := by decide +kernel
theorem tyJxfd54e_ok : ∀ k, k < 0 → parseFieldDescriptor (TJxfd54e k).2.2.1 = some (tyJxfd54e k) := by decide +kernel
def RJx3cf43 : String := "java/lang/constant/ConstantDesc"
def TJx3cf43 : u_T := fun k => match k with
  | _ => ("", "", "", false)
def tyJx3cf43 : Nat → FieldType := fun k => match k with
  | _ => .int
abbrev wsJx3cf430 : List Cond := u_ws RJx3cf43 TJx3cf43 0
theorem nmJx3cf43 : ∀ a, a < 0 → ∀ b, b < 0 → a ≠ b → (TJx3cf43 a).2.1 ≠ (TJx3cf43 b).2.1 := by decide +kernel
theorem tyJx3cf43_ok : ∀ k, k < 0 → parseFieldDescriptor (TJx3cf43 k).2.2.1 = some (tyJx3cf43 k) := by decide +kernel
def RJ7 : String := "java/util/Arrays"
def TJ7 : u_T := fun k => match k with
  | _ => ("", "", "", false)
def tyJ7 : Nat → FieldType := fun k => match k with
  | _ => .int
abbrev wsJ70 : List Cond := u_ws RJ7 TJ7 0
theorem nmJ7 : ∀ a, a < 0 → ∀ b, b < 0 → a ≠ b → (TJ7 a).2.1 ≠ (TJ7 b).2.1 := by decide +kernel
theorem tyJ7_ok : ∀ k, k < 0 → parseFieldDescriptor (TJ7 k).2.2.1 = some (tyJ7 k) := by decide +kernel
abbrev cJ7_fill_d0a16 : ByteArray := prog_25_method_101_code
def yJ7_fill_d0a16 : MethodName := ⟨RJ7, "fill", "([JJ)V"⟩
abbrev cJ7_fill_53178 : ByteArray := prog_25_method_103_code
def yJ7_fill_53178 : MethodName := ⟨RJ7, "fill", "([II)V"⟩
abbrev cJ7_copyOf_9075b : ByteArray := prog_25_method_121_code
def yJ7_copyOf_9075b : MethodName := ⟨RJ7, "copyOf", "([BI)[B"⟩
abbrev cJ7_checkLength_df160 : ByteArray := prog_25_method_131_code
def yJ7_checkLength_df160 : MethodName := ⟨RJ7, "checkLength", "(II)V"⟩
abbrev cJ7_copyOfRange_39247 : ByteArray := prog_25_method_132_code
def yJ7_copyOfRange_39247 : MethodName := ⟨RJ7, "copyOfRange", "([BII)[B"⟩
abbrev cJ7_copyOfRangeByte_39247 : ByteArray := prog_25_method_133_code
def yJ7_copyOfRangeByte_39247 : MethodName := ⟨RJ7, "copyOfRangeByte", "([BII)[B"⟩
def RJ8 : String := "jdk/internal/util/ArraysSupport"
def TJ8 : u_T := fun k => match k with
  | _ => ("", "", "", false)
def tyJ8 : Nat → FieldType := fun k => match k with
  | _ => .int
abbrev wsJ80 : List Cond := u_ws RJ8 TJ8 0
theorem nmJ8 : ∀ a, a < 0 → ∀ b, b < 0 → a ≠ b → (TJ8 a).2.1 ≠ (TJ8 b).2.1 := by decide +kernel
theorem tyJ8_ok : ∀ k, k < 0 → parseFieldDescriptor (TJ8 k).2.2.1 = some (tyJ8 k) := by decide +kernel
abbrev cJ8_newLength_cabcc : ByteArray := prog_26_method_27_code
def yJ8_newLength_cabcc : MethodName := ⟨RJ8, "newLength", "(III)I"⟩
abbrev cJ8_hugeLength_7cf53 : ByteArray := prog_26_method_28_code
def yJ8_hugeLength_7cf53 : MethodName := ⟨RJ8, "hugeLength", "(II)I"⟩
def RJ3 : String := "jdk/internal/util/Preconditions"
def TJ3 : u_T := fun k => match k with
  | _ => ("", "", "", false)
def tyJ3 : Nat → FieldType := fun k => match k with
  | _ => .int
abbrev wsJ30 : List Cond := u_ws RJ3 TJ3 0
theorem nmJ3 : ∀ a, a < 0 → ∀ b, b < 0 → a ≠ b → (TJ3 a).2.1 ≠ (TJ3 b).2.1 := by decide +kernel
theorem tyJ3_ok : ∀ k, k < 0 → parseFieldDescriptor (TJ3 k).2.2.1 = some (tyJ3 k) := by decide +kernel
abbrev cJ3_checkIndex_8e157 : ByteArray := prog_27_method_11_code
def yJ3_checkIndex_8e157 : MethodName := ⟨RJ3, "checkIndex", "(IILjava/util/function/BiFunction;)I"⟩
abbrev cJ3_checkFromToIndex_8c36e : ByteArray := prog_27_method_12_code
def yJ3_checkFromToIndex_8c36e : MethodName := ⟨RJ3, "checkFromToIndex", "(IIILjava/util/function/BiFunction;)I"⟩
abbrev cJ3_checkFromIndexSize_8c36e : ByteArray := prog_27_method_13_code
def yJ3_checkFromIndexSize_8c36e : MethodName := ⟨RJ3, "checkFromIndexSize", "(IIILjava/util/function/BiFunction;)I"⟩
def RL : String := "FrogBreathLaw"
abbrev cL_at : ByteArray := method_2_code
def yL_at : MethodName := ⟨RL, "at", "([II)I"⟩
abbrev cL_some : ByteArray := method_3_code
def yL_some : MethodName := ⟨RL, "some", "(II)I"⟩
abbrev cL_one : ByteArray := method_4_code
def yL_one : MethodName := ⟨RL, "one", "(I)Ljava/lang/String;"⟩
abbrev cL_says : ByteArray := method_5_code
def yL_says : MethodName := ⟨RL, "says", "(II)Ljava/lang/String;"⟩
abbrev cL_text : ByteArray := method_6_code
def yL_text : MethodName := ⟨RL, "text", "([II)Ljava/lang/String;"⟩
abbrev cL_world : ByteArray := method_7_code
def yL_world : MethodName := ⟨RL, "world", "(LFrogBreath;[I[ILjava/lang/String;)V"⟩
abbrev cL_told : ByteArray := method_8_code
def yL_told : MethodName := ⟨RL, "told", "(LFrogBreath;II)J"⟩
abbrev cL_law : ByteArray := code
def yL_law : MethodName := ⟨RL, "law", "([I)Z"⟩
abbrev cL_rest : ByteArray := method_10_code
def yL_rest : MethodName := ⟨RL, "rest", "(LFrogBreath;[IIIJ)Z"⟩
abbrev cL_far : ByteArray := method_11_code
def yL_far : MethodName := ⟨RL, "far", "(II)I"⟩
def wsL_law_r1 : List Cond := [Cond.classLink RL 85 RX11, Cond.instantiable RX11 17, Cond.initialized RX11, Cond.arrayClass .int, Cond.constantLong RL 185 (100), Cond.constant RL 198 (-2000000000), Cond.methodLink RL 205 Lib.Math.min.name, Cond.static Lib.Math.min.name, Cond.initialized "java/lang/Math", Cond.code Lib.Math.min.name Lib.Math.min.code 2 (some .int), Cond.methodLink RL 161 yX11_init, Cond.instanceMethod yX11_init, Cond.code yX11_init cX11_init 2 none, Cond.methodLink RX11 1 objectInit, Cond.instanceMethod objectInit, Cond.code objectInit ⟨#[0xb1]⟩ 1 none, Cond.classLink RX11 7 RX4, Cond.instantiable RX4 11, Cond.initialized RX4, Cond.fieldLink RX11 10 "FrogBreath" "now" "LFrogBreath$Marsh;", Cond.fieldLink RX11 16 "FrogBreath" "thought" "LFrogBreath$Marsh;", Cond.fieldLink RX11 19 "FrogBreath" "kept" "LFrogBreath$Marsh;", Cond.classLink RX11 22 RX3, Cond.instantiable RX3 9]
def wsL_law_r2 : List Cond := [Cond.initialized RX3, Cond.fieldLink RX11 25 "FrogBreath" "law" "LFrogBreath$Law;", Cond.fieldLink RX11 29 "FrogBreath" "draft" "LFrogBreath$Law;", Cond.fieldLink RX11 32 "FrogBreath" "tape" "[I", Cond.classLink RX11 36 "[[I", Cond.fieldLink RX11 38 "FrogBreath" "changes" "[[I", Cond.fieldLink RX11 41 "FrogBreath" "gains" "[[I", Cond.fieldLink RX11 44 "FrogBreath" "mostBack" "[[I", Cond.classLink RX11 47 RX8, Cond.fieldLink RX11 49 "FrogBreath" "bodies" "[LFrogBreath$Reed;", Cond.fieldLink RX11 53 "FrogBreath" "ran" "[I", Cond.classLink RX11 56 RX9, Cond.fieldLink RX11 58 "FrogBreath" "shelves" "[LFrogBreath$Shelf;", Cond.instantiable RX9 4, Cond.initialized RX9, Cond.instanceMethod yX4_init, Cond.code yX4_init cX4_init 1 none, Cond.methodLink RX4 3 objectInit, Cond.fieldLink RX4 9 "FrogBreath$Marsh" "girlPlace" "[I", Cond.fieldLink RX4 15 "FrogBreath$Marsh" "breath" "[I", Cond.fieldLink RX4 18 "FrogBreath$Marsh" "frogPlace" "[I", Cond.fieldLink RX4 21 "FrogBreath$Marsh" "keeps" "[I", Cond.fieldLink RX4 24 "FrogBreath$Marsh" "owes" "[I", Cond.fieldLink RX4 27 "FrogBreath$Marsh" "held" "[I"]
def wsL_law_r3 : List Cond := [Cond.fieldLink RX4 30 "FrogBreath$Marsh" "led" "[I", Cond.fieldLink RX4 33 "FrogBreath$Marsh" "two" "I", Cond.instanceMethod yX3_init, Cond.code yX3_init cX3_init 1 none, Cond.methodLink RX3 3 objectInit, Cond.fieldLink RX3 11 "FrogBreath$Law" "step" "[I", Cond.fieldLink RX3 15 "FrogBreath$Law" "value" "[I", Cond.fieldLink RX3 18 "FrogBreath$Law" "stack" "[I", Cond.fieldLink RX3 21 "FrogBreath$Law" "names" "[I", Cond.instanceMethod yX9_init, Cond.code yX9_init cX9_init 1 none, Cond.methodLink RX9 3 objectInit, Cond.arrayClass .long, Cond.fieldLink RX9 9 "FrogBreath$Shelf" "elements" "[J", Cond.fieldLink RX9 15 "FrogBreath$Shelf" "sort" "I", Cond.methodLink RL 162 yX11_undo, Cond.instanceMethod yX11_undo, Cond.selects RX11 yX11_undo yX11_undo, Cond.code yX11_undo cX11_undo 2 (some .int), Cond.fieldLink RX11 305 "FrogBreath" "changesDone" "I", Cond.methodLink RX11 113 yX4_become, Cond.instanceMethod yX4_become, Cond.selects RX4 yX4_become yX4_become, Cond.code yX4_become cX4_become 4 none]
def wsL_law_r4 : List Cond := [Cond.fieldLink RX4 54 "FrogBreath$Marsh" "hour" "I", Cond.methodLink RX4 57 yX4_hasNumber, Cond.instanceMethod yX4_hasNumber, Cond.selects RX4 yX4_hasNumber yX4_hasNumber, Cond.code yX4_hasNumber cX4_hasNumber 3 (some .boolean), Cond.methodLink RX4 47 yX4_hasGirl, Cond.instanceMethod yX4_hasGirl, Cond.selects RX4 yX4_hasGirl yX4_hasGirl, Cond.code yX4_hasGirl cX4_hasGirl 2 (some .boolean), Cond.fieldLink RX4 37 "FrogBreath$Marsh" "girls" "I", Cond.static yX11_within, Cond.code yX11_within cX11_within 3 (some .boolean), Cond.methodLink RX4 51 yX4_hasFrog, Cond.instanceMethod yX4_hasFrog, Cond.selects RX4 yX4_hasFrog yX4_hasFrog, Cond.code yX4_hasFrog cX4_hasFrog 2 (some .boolean), Cond.fieldLink RX4 44 "FrogBreath$Marsh" "frogs" "I", Cond.methodLink RL 165 yX11_image, Cond.instanceMethod yX11_image, Cond.selects RX11 yX11_image yX11_image, Cond.code yX11_image cX11_image 1 (some .int), Cond.fieldLink RX11 298 "FrogBreath" "imageKept" "Z", Cond.fieldLink RX11 292 "FrogBreath$Marsh" "led" "[I", Cond.methodLink RX11 151 yX4_copy]
def wsL_law_r5 : List Cond := [Cond.instanceMethod yX4_copy, Cond.selects RX4 yX4_copy yX4_copy, Cond.code yX4_copy cX4_copy 2 none, Cond.methodLink RX4 61 arraycopyName, Cond.native arraycopyName, Cond.static arraycopyName, Cond.initialized "java/lang/System", Cond.methodLink RX4 67 yX4_layBack, Cond.instanceMethod yX4_layBack, Cond.selects RX4 yX4_layBack yX4_layBack, Cond.code yX4_layBack cX4_layBack 2 none, Cond.methodLink RL 168 yX11_hour, Cond.instanceMethod yX11_hour, Cond.selects RX11 yX11_hour yX11_hour, Cond.code yX11_hour cX11_hour 1 (some .int), Cond.methodLink RX11 155 yX4_passHour, Cond.instanceMethod yX4_passHour, Cond.selects RX4 yX4_passHour yX4_passHour, Cond.code yX4_passHour cX4_passHour 4 (some .int), Cond.methodLink RX4 113 yX4_passHourOf, Cond.instanceMethod yX4_passHourOf, Cond.selects RX4 yX4_passHourOf yX4_passHourOf, Cond.code yX4_passHourOf cX4_passHourOf 6 (some .int), Cond.methodLink RX4 95 Lib.Math.min.name]
def wsL_law_r6 : List Cond := [Cond.methodLink RX4 101 yX4_lossOf, Cond.instanceMethod yX4_lossOf, Cond.selects RX4 yX4_lossOf yX4_lossOf, Cond.code yX4_lossOf cX4_lossOf 6 (some .int), Cond.methodLink RX4 98 Lib.Math.max.name, Cond.static Lib.Math.max.name, Cond.code Lib.Math.max.name Lib.Math.max.code 2 (some .int), Cond.methodLink RX4 77 yX4_far, Cond.static yX4_far, Cond.code yX4_far cX4_far 2 (some .int), Cond.methodLink RX4 71 Lib.Math.abs.name, Cond.static Lib.Math.abs.name, Cond.code Lib.Math.abs.name Lib.Math.abs.code 1 (some .int), Cond.methodLink RX4 85 yX3_isTold, Cond.instanceMethod yX3_isTold, Cond.selects RX3 yX3_isTold yX3_isTold, Cond.code yX3_isTold cX3_isTold 1 (some .boolean), Cond.fieldLink RX3 24 "FrogBreath$Law" "steps" "I", Cond.methodLink RX4 91 yX3_worked, Cond.instanceMethod yX3_worked, Cond.selects RX3 yX3_worked yX3_worked, Cond.code yX3_worked cX3_worked 11 (some .int), Cond.fieldLink RX3 78 "FrogBreath$Law" "top" "I", Cond.methodLink RX3 81 yX3_push]
def wsL_law_r7 : List Cond := [Cond.instanceMethod yX3_push, Cond.selects RX3 yX3_push yX3_push, Cond.code yX3_push cX3_push 2 none, Cond.methodLink RX3 85 yX3_pop, Cond.instanceMethod yX3_pop, Cond.selects RX3 yX3_pop yX3_pop, Cond.code yX3_pop cX3_pop 1 (some .int), Cond.methodLink RX3 89 yX3_joinedBy, Cond.static yX3_joinedBy, Cond.code yX3_joinedBy cX3_joinedBy 3 (some .int), Cond.methodLink RX4 105 yX4_nearer, Cond.static yX4_nearer, Cond.code yX4_nearer cX4_nearer 3 (some .int), Cond.methodLink RX4 108 yJ6_compare_7cf53, Cond.static yJ6_compare_7cf53, Cond.initialized RJ6, Cond.code yJ6_compare_7cf53 cJ6_compare_7cf53 2 (some .int), Cond.methodLink RX4 81 yX4_owesNothing, Cond.instanceMethod yX4_owesNothing, Cond.selects RX4 yX4_owesNothing yX4_owesNothing, Cond.code yX4_owesNothing cX4_owesNothing 2 none, Cond.methodLink RX4 116 yX4_endHour, Cond.instanceMethod yX4_endHour, Cond.selects RX4 yX4_endHour yX4_endHour]
def wsL_law_r8 : List Cond := [Cond.code yX4_endHour cX4_endHour 1 none, Cond.methodLink RL 90 yX11_girl, Cond.instanceMethod yX11_girl, Cond.selects RX11 yX11_girl yX11_girl, Cond.code yX11_girl cX11_girl 2 (some .int), Cond.methodLink RX11 63 yX11_mayBe, Cond.instanceMethod yX11_mayBe, Cond.selects RX11 yX11_mayBe yX11_mayBe, Cond.code yX11_mayBe cX11_mayBe 3 (some .boolean), Cond.methodLink RX11 79 yX11_within, Cond.methodLink RX11 117 yX4_hasGirl, Cond.methodLink RX11 67 yX4_addGirl, Cond.instanceMethod yX4_addGirl, Cond.selects RX4 yX4_addGirl yX4_addGirl, Cond.code yX4_addGirl cX4_addGirl 2 (some .int), Cond.methodLink RL 94 yX11_frog, Cond.instanceMethod yX11_frog, Cond.selects RX11 yX11_frog yX11_frog, Cond.code yX11_frog cX11_frog 4 (some .int), Cond.methodLink RX11 71 yX4_addFrog, Cond.instanceMethod yX4_addFrog, Cond.selects RX4 yX4_addFrog yX4_addFrog, Cond.code yX4_addFrog cX4_addFrog 5 (some .int), Cond.methodLink RL 171 yX11_over]
def wsL_law_r9 : List Cond := [Cond.instanceMethod yX11_over, Cond.selects RX11 yX11_over yX11_over, Cond.code yX11_over cX11_over 3 (some .int), Cond.fieldLink RX11 145 "FrogBreath$Marsh" "owes" "[I", Cond.fieldLink RX11 139 "FrogBreath$Marsh" "held" "[I", Cond.methodLink RX11 128 yX4_hasFrog, Cond.methodLink RX11 295 yX4_owesNothing, Cond.methodLink RL 174 yL_text, Cond.static yL_text, Cond.initialized RL, Cond.code yL_text cL_text 6 (some (.object "java/lang/String")), Cond.classLink RL 13 RJ4, Cond.instantiable RJ4 4, Cond.initialized RJ4, Cond.methodLink RL 64 yL_at, Cond.static yL_at, Cond.code yL_at cL_at 2 (some .int), Cond.methodLink RL 7 yL_some, Cond.static yL_some, Cond.code yL_some cL_some 3 (some .int), Cond.methodLink RL 15 yJ4_init_da8c8, Cond.instanceMethod yJ4_init_da8c8, Cond.code yJ4_init_da8c8 cJ4_init_da8c8 1 none, Cond.methodLink RJ4 1 yJ5_init_d00df]
def wsL_law_r10 : List Cond := [Cond.instanceMethod yJ5_init_d00df, Cond.initialized RJ5, Cond.code yJ5_init_d00df cJ5_init_d00df 2 none, Cond.methodLink RJ5 3 objectInit, Cond.fieldLink RJ5 18 "java/lang/String" "COMPACT_STRINGS" "Z", Cond.arrayClass .byte, Cond.fieldLink RJ5 15 "java/lang/AbstractStringBuilder" "value" "[B", Cond.fieldLink RJ5 22 "java/lang/AbstractStringBuilder" "coder" "B", Cond.methodLink RJ5 26 yJ2_newBytesFor_77867, Cond.static yJ2_newBytesFor_77867, Cond.initialized RJ2, Cond.code yJ2_newBytesFor_77867 cJ2_newBytesFor_77867 1 (some (.array .byte)), Cond.methodLink RJ2 11 yJ2_newBytesLength_0f7a4, Cond.static yJ2_newBytesLength_0f7a4, Cond.code yJ2_newBytesLength_0f7a4 cJ2_newBytesLength_0f7a4 1 (some .int), Cond.constant RJ2 20 (1073741823), Cond.methodLink RL 18 yJ4_append_15ec4, Cond.instanceMethod yJ4_append_15ec4, Cond.selects RJ4 yJ4_append_15ec4 yJ4_append_15ec4, Cond.code yJ4_append_15ec4 cJ4_append_15ec4 2 (some (.object "java/lang/StringBuilder")), Cond.methodLink RJ4 29 yJ5_append_cf1ce, Cond.sameMethod "java/lang/AbstractStringBuilder" "java/lang/AbstractStringBuilder" "append" "(Ljava/lang/String;)Ljava/lang/AbstractStringBuilder;", Cond.superclass RJ4 RJ5, Cond.instanceMethod yJ5_append_cf1ce]
def wsL_law_r11 : List Cond := [Cond.code yJ5_append_cf1ce cJ5_append_cf1ce 3 (some (.object "java/lang/AbstractStringBuilder")), Cond.fieldLink RJ5 79 "java/lang/AbstractStringBuilder" "count" "I", Cond.methodLink RJ5 204 ⟨"java/lang/AbstractStringBuilder", "appendNull", "()Ljava/lang/AbstractStringBuilder;"⟩, Cond.sameMethod "java/lang/AbstractStringBuilder" "java/lang/AbstractStringBuilder" "appendNull" "()Ljava/lang/AbstractStringBuilder;", Cond.selects RJ4 ⟨"java/lang/AbstractStringBuilder", "appendNull", "()Ljava/lang/AbstractStringBuilder;"⟩ yJ5_appendNull_278bc, Cond.instanceMethod yJ5_appendNull_278bc, Cond.code yJ5_appendNull_278bc cJ5_appendNull_278bc 3 (some (.object "java/lang/AbstractStringBuilder")), Cond.methodLink RJ5 100 ⟨"java/lang/AbstractStringBuilder", "ensureCapacityInternal", "(I)V"⟩, Cond.sameMethod "java/lang/AbstractStringBuilder" "java/lang/AbstractStringBuilder" "ensureCapacityInternal" "(I)V", Cond.selects RJ4 ⟨"java/lang/AbstractStringBuilder", "ensureCapacityInternal", "(I)V"⟩ yJ5_ensureCapacityInternal_d00df, Cond.instanceMethod yJ5_ensureCapacityInternal_d00df, Cond.code yJ5_ensureCapacityInternal_d00df cJ5_ensureCapacityInternal_d00df 3 none, Cond.methodLink RJ5 104 ⟨"java/lang/AbstractStringBuilder", "newCapacity", "(I)I"⟩, Cond.sameMethod "java/lang/AbstractStringBuilder" "java/lang/AbstractStringBuilder" "newCapacity" "(I)I", Cond.selects RJ4 ⟨"java/lang/AbstractStringBuilder", "newCapacity", "(I)I"⟩ yJ5_newCapacity_0f7a4, Cond.instanceMethod yJ5_newCapacity_0f7a4, Cond.code yJ5_newCapacity_0f7a4 cJ5_newCapacity_0f7a4 6 (some .int), Cond.constant RJ5 39 (2147483647), Cond.methodLink RJ5 114 yJ8_newLength_cabcc, Cond.static yJ8_newLength_cabcc, Cond.initialized RJ8, Cond.code yJ8_newLength_cabcc cJ8_newLength_cabcc 4 (some .int), Cond.methodLink RJ8 194 Lib.Math.max.name, Cond.constant RJ8 200 (2147483639)]
def wsL_law_r12 : List Cond := [Cond.methodLink RJ8 201 yJ8_hugeLength_7cf53, Cond.static yJ8_hugeLength_7cf53, Cond.code yJ8_hugeLength_7cf53 cJ8_hugeLength_7cf53 3 (some .int), Cond.methodLink RJ5 108 yJ7_copyOf_9075b, Cond.static yJ7_copyOf_9075b, Cond.initialized RJ7, Cond.code yJ7_copyOf_9075b cJ7_copyOf_9075b 3 (some (.array .byte)), Cond.methodLink RJ7 310 ⟨"[B", "clone", "()Ljava/lang/Object;"⟩, Cond.sameMethod "[B" "java/lang/Object" "clone" "()Ljava/lang/Object;", Cond.native ⟨"java/lang/Object", "clone", "()Ljava/lang/Object;"⟩, Cond.instanceMethod ⟨"java/lang/Object", "clone", "()Ljava/lang/Object;"⟩, Cond.selects "[B" ⟨"[B", "clone", "()Ljava/lang/Object;"⟩ ⟨"java/lang/Object", "clone", "()Ljava/lang/Object;"⟩, Cond.classLink RJ7 311 "[B", Cond.methodLink RJ7 304 Lib.Math.min.name, Cond.methodLink RJ7 150 arraycopyName, Cond.methodLink RJ5 83 ⟨"java/lang/AbstractStringBuilder", "isLatin1", "()Z"⟩, Cond.sameMethod "java/lang/AbstractStringBuilder" "java/lang/AbstractStringBuilder" "isLatin1" "()Z", Cond.selects RJ4 ⟨"java/lang/AbstractStringBuilder", "isLatin1", "()Z"⟩ yJ5_isLatin1_aae02, Cond.instanceMethod yJ5_isLatin1_aae02, Cond.code yJ5_isLatin1_aae02 cJ5_isLatin1_aae02 1 (some .boolean), Cond.methodLink RJ5 226 yJ2_putCharsAt_cd4e5, Cond.static yJ2_putCharsAt_cd4e5, Cond.code yJ2_putCharsAt_cd4e5 cJ2_putCharsAt_cd4e5 7 (some .int), Cond.fieldLink RJ2 44 "java/lang/StringUTF16" "$assertionsDisabled" "Z"]
def wsL_law_r13 : List Cond := [Cond.methodLink RJ2 96 yJ2_checkBoundsBeginEnd_d044e, Cond.static yJ2_checkBoundsBeginEnd_d044e, Cond.code yJ2_checkBoundsBeginEnd_d044e cJ2_checkBoundsBeginEnd_d044e 3 none, Cond.methodLink RJ2 48 yJ2_length_9d52b, Cond.static yJ2_length_9d52b, Cond.code yJ2_length_9d52b cJ2_length_9d52b 1 (some .int), Cond.methodLink RJ2 241 yJ0_checkBoundsBeginEnd_23922, Cond.static yJ0_checkBoundsBeginEnd_23922, Cond.initialized RJ0, Cond.code yJ0_checkBoundsBeginEnd_23922 cJ0_checkBoundsBeginEnd_23922 3 none, Cond.fieldLink RJ0 1053 "jdk/internal/util/Preconditions" "SIOOBE_FORMATTER" "Ljava/util/function/BiFunction;", Cond.methodLink RJ0 1062 yJ3_checkFromToIndex_8c36e, Cond.static yJ3_checkFromToIndex_8c36e, Cond.initialized RJ3, Cond.code yJ3_checkFromToIndex_8c36e cJ3_checkFromToIndex_8c36e 4 (some .int), Cond.methodLink RJ2 111 yJ2_putChar_b72d1, Cond.static yJ2_putChar_b72d1, Cond.code yJ2_putChar_b72d1 cJ2_putChar_b72d1 3 none, Cond.fieldLink RJ2 59 "java/lang/StringUTF16" "HI_BYTE_SHIFT" "I", Cond.fieldLink RJ2 63 "java/lang/StringUTF16" "LO_BYTE_SHIFT" "I", Cond.methodLink RJ5 32 yJ0_length_8abf5, Cond.instanceMethod yJ0_length_8abf5, Cond.selects RJ0 yJ0_length_8abf5 yJ0_length_8abf5, Cond.code yJ0_length_8abf5 cJ0_length_8abf5 1 (some .int)]
def wsL_law_r14 : List Cond := [Cond.fieldLink RJ0 9 "java/lang/String" "value" "[B", Cond.methodLink RJ0 335 yJ0_coder_7d493, Cond.instanceMethod yJ0_coder_7d493, Cond.selects RJ0 yJ0_coder_7d493 yJ0_coder_7d493, Cond.code yJ0_coder_7d493 cJ0_coder_7d493 1 (some .byte), Cond.fieldLink RJ0 38 "java/lang/String" "COMPACT_STRINGS" "Z", Cond.fieldLink RJ0 15 "java/lang/String" "coder" "B", Cond.methodLink RJ5 208 ⟨"java/lang/AbstractStringBuilder", "putStringAt", "(ILjava/lang/String;)V"⟩, Cond.sameMethod "java/lang/AbstractStringBuilder" "java/lang/AbstractStringBuilder" "putStringAt" "(ILjava/lang/String;)V", Cond.selects RJ4 ⟨"java/lang/AbstractStringBuilder", "putStringAt", "(ILjava/lang/String;)V"⟩ yJ5_putStringAt_47b60, Cond.instanceMethod yJ5_putStringAt_47b60, Cond.code yJ5_putStringAt_47b60 cJ5_putStringAt_47b60 3 none, Cond.methodLink RJ5 397 ⟨"java/lang/AbstractStringBuilder", "inflateIfNeededFor", "(Ljava/lang/String;)V"⟩, Cond.sameMethod "java/lang/AbstractStringBuilder" "java/lang/AbstractStringBuilder" "inflateIfNeededFor" "(Ljava/lang/String;)V", Cond.selects RJ4 ⟨"java/lang/AbstractStringBuilder", "inflateIfNeededFor", "(Ljava/lang/String;)V"⟩ yJ5_inflateIfNeededFor_a7421, Cond.instanceMethod yJ5_inflateIfNeededFor_a7421, Cond.code yJ5_inflateIfNeededFor_a7421 cJ5_inflateIfNeededFor_a7421 2 none, Cond.methodLink RJ5 40 yJ0_coder_7d493, Cond.methodLink RJ5 195 ⟨"java/lang/AbstractStringBuilder", "inflate", "()V"⟩, Cond.sameMethod "java/lang/AbstractStringBuilder" "java/lang/AbstractStringBuilder" "inflate" "()V", Cond.selects RJ4 ⟨"java/lang/AbstractStringBuilder", "inflate", "()V"⟩ yJ5_inflate_da8c8, Cond.instanceMethod yJ5_inflate_da8c8, Cond.code yJ5_inflate_da8c8 cJ5_inflate_da8c8 2 none, Cond.methodLink RJ5 125 yJ1_inflate_0e8fd]
def wsL_law_r15 : List Cond := [Cond.static yJ1_inflate_0e8fd, Cond.initialized RJ1, Cond.code yJ1_inflate_0e8fd cJ1_inflate_0e8fd 5 none, Cond.methodLink RJ1 240 yJ2_inflate_0e8fd, Cond.static yJ2_inflate_0e8fd, Cond.code yJ2_inflate_0e8fd cJ2_inflate_0e8fd 6 none, Cond.methodLink RJ2 173 yJ2_checkBoundsOffCount_d044e, Cond.static yJ2_checkBoundsOffCount_d044e, Cond.code yJ2_checkBoundsOffCount_d044e cJ2_checkBoundsOffCount_d044e 3 none, Cond.methodLink RJ2 419 yJ0_checkBoundsOffCount_cabcc, Cond.static yJ0_checkBoundsOffCount_cabcc, Cond.code yJ0_checkBoundsOffCount_cabcc cJ0_checkBoundsOffCount_cabcc 3 (some .int), Cond.methodLink RJ0 1065 yJ3_checkFromIndexSize_8c36e, Cond.static yJ3_checkFromIndexSize_8c36e, Cond.code yJ3_checkFromIndexSize_8c36e cJ3_checkFromIndexSize_8c36e 4 (some .int), Cond.methodLink RJ5 399 yJ0_getBytes_840e7, Cond.instanceMethod yJ0_getBytes_840e7, Cond.selects RJ0 yJ0_getBytes_840e7 yJ0_getBytes_840e7, Cond.code yJ0_getBytes_840e7 cJ0_getBytes_840e7 4 none, Cond.methodLink RJ0 212 arraycopyName, Cond.methodLink RJ0 106 yJ1_inflate_0e8fd, Cond.methodLink RL 68 yL_says, Cond.static yL_says, Cond.code yL_says cL_says 5 (some (.object "java/lang/String"))]
def wsL_law_r16 : List Cond := [Cond.methodLink RL 44 yL_one, Cond.static yL_one, Cond.code yL_one cL_one 2 (some (.object "java/lang/String")), Cond.methodLink RL 24 yJ0_charAt_5068e, Cond.instanceMethod yJ0_charAt_5068e, Cond.selects RJ0 yJ0_charAt_5068e yJ0_charAt_5068e, Cond.code yJ0_charAt_5068e cJ0_charAt_5068e 2 (some .char), Cond.methodLink RJ0 492 yJ0_isLatin1_aae02, Cond.instanceMethod yJ0_isLatin1_aae02, Cond.selects RJ0 yJ0_isLatin1_aae02 yJ0_isLatin1_aae02, Cond.code yJ0_isLatin1_aae02 cJ0_isLatin1_aae02 1 (some .boolean), Cond.methodLink RJ0 495 yJ1_charAt_3b067, Cond.static yJ1_charAt_3b067, Cond.code yJ1_charAt_3b067 cJ1_charAt_3b067 2 (some .char), Cond.methodLink RJ1 9 yJ0_checkIndex_df160, Cond.static yJ0_checkIndex_df160, Cond.code yJ0_checkIndex_df160 cJ0_checkIndex_df160 2 none, Cond.methodLink RJ0 1059 yJ3_checkIndex_8e157, Cond.static yJ3_checkIndex_8e157, Cond.code yJ3_checkIndex_8e157 cJ3_checkIndex_8e157 3 (some .int), Cond.methodLink RJ0 498 yJ2_charAt_3b067, Cond.static yJ2_charAt_3b067, Cond.code yJ2_charAt_3b067 cJ2_charAt_3b067 2 (some .char), Cond.methodLink RJ2 67 yJ2_checkIndex_2214a]
def wsL_law_r17 : List Cond := [Cond.static yJ2_checkIndex_2214a, Cond.code yJ2_checkIndex_2214a cJ2_checkIndex_2214a 2 none, Cond.methodLink RJ2 414 yJ0_checkIndex_df160, Cond.methodLink RJ2 71 yJ2_getChar_3b067, Cond.static yJ2_getChar_3b067, Cond.code yJ2_getChar_3b067 cJ2_getChar_3b067 2 (some .char), Cond.methodLink RL 30 yJ4_append_cf468, Cond.instanceMethod yJ4_append_cf468, Cond.selects RJ4 yJ4_append_cf468 yJ4_append_cf468, Cond.code yJ4_append_cf468 cJ4_append_cf468 2 (some (.object "java/lang/StringBuilder")), Cond.methodLink RJ4 50 yJ5_append_3fe6f, Cond.sameMethod "java/lang/AbstractStringBuilder" "java/lang/AbstractStringBuilder" "append" "(C)Ljava/lang/AbstractStringBuilder;", Cond.instanceMethod yJ5_append_3fe6f, Cond.code yJ5_append_3fe6f cJ5_append_3fe6f 2 (some (.object "java/lang/AbstractStringBuilder")), Cond.methodLink RJ5 191 yJ1_canEncode_fc78d, Cond.static yJ1_canEncode_fc78d, Cond.code yJ1_canEncode_fc78d cJ1_canEncode_fc78d 1 (some .boolean), Cond.methodLink RJ5 197 yJ2_putCharSB_b72d1, Cond.static yJ2_putCharSB_b72d1, Cond.code yJ2_putCharSB_b72d1 cJ2_putCharSB_b72d1 3 none, Cond.methodLink RL 33 yJ4_toString_0e30d, Cond.instanceMethod yJ4_toString_0e30d, Cond.selects RJ4 yJ4_toString_0e30d yJ4_toString_0e30d, Cond.code yJ4_toString_0e30d cJ4_toString_0e30d 1 (some (.object "java/lang/String"))]
def wsL_law_r18 : List Cond := [Cond.classLink RJ4 18 RJ0, Cond.instantiable RJ0 4, Cond.methodLink RJ4 137 yJ0_init_81219, Cond.instanceMethod yJ0_init_81219, Cond.code yJ0_init_81219 cJ0_init_81219 2 none, Cond.methodLink RJ0 489 yJ0_init_db425, Cond.instanceMethod yJ0_init_db425, Cond.code yJ0_init_db425 cJ0_init_db425 5 none, Cond.methodLink RJ0 1 objectInit, Cond.fieldLink RJ0 1048 "java/lang/AbstractStringBuilder" "maybeLatin1" "Z", Cond.methodLink RJ0 552 ⟨"java/lang/AbstractStringBuilder", "getValue", "()[B"⟩, Cond.sameMethod "java/lang/AbstractStringBuilder" "java/lang/AbstractStringBuilder" "getValue" "()[B", Cond.selects RJ4 ⟨"java/lang/AbstractStringBuilder", "getValue", "()[B"⟩ yJ5_getValue_6d5f1, Cond.instanceMethod yJ5_getValue_6d5f1, Cond.code yJ5_getValue_6d5f1 cJ5_getValue_6d5f1 1 (some (.array .byte)), Cond.methodLink RJ0 549 ⟨"java/lang/AbstractStringBuilder", "length", "()I"⟩, Cond.sameMethod "java/lang/AbstractStringBuilder" "java/lang/AbstractStringBuilder" "length" "()I", Cond.instanceMethod ⟨"java/lang/AbstractStringBuilder", "length", "()I"⟩, Cond.selects RJ4 ⟨"java/lang/AbstractStringBuilder", "length", "()I"⟩ yJ4_length_8abf5, Cond.instanceMethod yJ4_length_8abf5, Cond.code yJ4_length_8abf5 cJ4_length_8abf5 1 (some .int), Cond.methodLink RJ4 343 yJ5_length_8abf5, Cond.instanceMethod yJ5_length_8abf5, Cond.code yJ5_length_8abf5 cJ5_length_8abf5 1 (some .int)]
def wsL_law_r19 : List Cond := [Cond.methodLink RJ0 1047 ⟨"java/lang/AbstractStringBuilder", "isLatin1", "()Z"⟩, Cond.methodLink RJ0 54 yJ7_copyOfRange_39247, Cond.static yJ7_copyOfRange_39247, Cond.code yJ7_copyOfRange_39247 cJ7_copyOfRange_39247 3 (some (.array .byte)), Cond.methodLink RJ7 339 yJ7_copyOfRangeByte_39247, Cond.static yJ7_copyOfRangeByte_39247, Cond.code yJ7_copyOfRangeByte_39247 cJ7_copyOfRangeByte_39247 5 (some (.array .byte)), Cond.methodLink RJ7 343 yJ7_checkLength_df160, Cond.static yJ7_checkLength_df160, Cond.code yJ7_checkLength_df160 cJ7_checkLength_df160 2 none, Cond.methodLink RJ0 1051 yJ2_compress_39247, Cond.static yJ2_compress_39247, Cond.code yJ2_compress_39247 cJ2_compress_39247 6 (some (.array .byte)), Cond.methodLink RJ2 123 yJ2_compress_5af95, Cond.static yJ2_compress_5af95, Cond.code yJ2_compress_5af95 cJ2_compress_5af95 7 (some .int), Cond.methodLink RJ2 126 yJ7_copyOfRange_39247, Cond.methodLink RJ0 47 yJ2_coderFromArrayLen_85cad, Cond.static yJ2_coderFromArrayLen_85cad, Cond.code yJ2_coderFromArrayLen_85cad cJ2_coderFromArrayLen_85cad 2 (some .byte), Cond.methodLink RL 37 yJ4_append_bf812, Cond.instanceMethod yJ4_append_bf812, Cond.selects RJ4 yJ4_append_bf812 yJ4_append_bf812, Cond.code yJ4_append_bf812 cJ4_append_bf812 2 (some (.object "java/lang/StringBuilder"))]
def wsL_law_r20 : List Cond := [Cond.methodLink RJ4 53 yJ5_append_c97b9, Cond.sameMethod "java/lang/AbstractStringBuilder" "java/lang/AbstractStringBuilder" "append" "(I)Ljava/lang/AbstractStringBuilder;", Cond.instanceMethod yJ5_append_c97b9, Cond.code yJ5_append_c97b9 cJ5_append_c97b9 4 (some (.object "java/lang/AbstractStringBuilder")), Cond.methodLink RJ5 245 yJ6_stringSize_0f7a4, Cond.static yJ6_stringSize_0f7a4, Cond.code yJ6_stringSize_0f7a4 cJ6_stringSize_0f7a4 4 (some .int), Cond.methodLink RJ5 248 yJ6_getChars_ba4f3, Cond.static yJ6_getChars_ba4f3, Cond.code yJ6_getChars_ba4f3 cJ6_getChars_ba4f3 7 (some .int), Cond.fieldLink RJ6 83 "java/lang/Integer" "DigitOnes" "[B", Cond.fieldLink RJ6 87 "java/lang/Integer" "DigitTens" "[B", Cond.methodLink RJ5 251 yJ2_getChars_46870, Cond.static yJ2_getChars_46870, Cond.code yJ2_getChars_46870 cJ2_getChars_46870 5 (some .int), Cond.methodLink RJ2 393 yJ2_getChars_ba4f3, Cond.static yJ2_getChars_ba4f3, Cond.code yJ2_getChars_ba4f3 cJ2_getChars_ba4f3 7 (some .int), Cond.fieldLink RJ2 403 "java/lang/Integer" "DigitOnes" "[B", Cond.fieldLink RJ2 407 "java/lang/Integer" "DigitTens" "[B", Cond.methodLink RL 78 yJ0_length_8abf5, Cond.methodLink RL 178 yL_world, Cond.static yL_world, Cond.code yL_world cL_world 11 none]
def wsL_law_r21 : List Cond := [Cond.methodLink RL 84 yX11_mend, Cond.instanceMethod yX11_mend, Cond.selects RX11 yX11_mend yX11_mend, Cond.code yX11_mend cX11_mend 5 (some .int), Cond.constant RX11 104 (-2000000000), Cond.methodLink RX11 101 yX4_hasNumber, Cond.methodLink RX11 105 yX4_numberOf, Cond.instanceMethod yX4_numberOf, Cond.selects RX4 yX4_numberOf yX4_numberOf, Cond.code yX4_numberOf cX4_numberOf 3 (some .int), Cond.methodLink RX11 109 yX11_noteChange, Cond.instanceMethod yX11_noteChange, Cond.selects RX11 yX11_noteChange yX11_noteChange, Cond.code yX11_noteChange cX11_noteChange 6 none, Cond.fieldLink RX11 311 "FrogBreath" "changesKept" "I", Cond.methodLink RX11 308 yX11_forgetOldestChange, Cond.instanceMethod yX11_forgetOldestChange, Cond.selects RX11 yX11_forgetOldestChange yX11_forgetOldestChange, Cond.code yX11_forgetOldestChange cX11_forgetOldestChange 2 none, Cond.methodLink RX11 314 arraycopyName, Cond.methodLink RL 97 yX11_feed, Cond.instanceMethod yX11_feed, Cond.selects RX11 yX11_feed yX11_feed, Cond.code yX11_feed cX11_feed 2 (some .int)]
def wsL_law_r22 : List Cond := [Cond.fieldLink RX11 120 "FrogBreath" "tapeSize" "I", Cond.methodLink RL 100 yX11_law, Cond.instanceMethod yX11_law, Cond.selects RX11 yX11_law yX11_law, Cond.code yX11_law cX11_law 3 (some .int), Cond.methodLink RX11 124 yX3_read, Cond.instanceMethod yX3_read, Cond.selects RX3 yX3_read yX3_read, Cond.code yX3_read cX3_read 5 (some .int), Cond.fieldLink RX3 28 "FrogBreath$Law" "text" "[I", Cond.methodLink RX3 31 Lib.Math.min.name, Cond.fieldLink RX3 37 "FrogBreath$Law" "length" "I", Cond.fieldLink RX3 40 "FrogBreath$Law" "place" "I", Cond.methodLink RX3 43 yX3_line, Cond.instanceMethod yX3_line, Cond.selects RX3 yX3_line yX3_line, Cond.code yX3_line cX3_line 3 (some .boolean), Cond.methodLink RX3 51 yX3_joined, Cond.instanceMethod yX3_joined, Cond.selects RX3 yX3_joined yX3_joined, Cond.code yX3_joined cX3_joined 7 (some .boolean), Cond.methodLink RX3 58 yX3_operand, Cond.instanceMethod yX3_operand, Cond.selects RX3 yX3_operand yX3_operand]
def wsL_law_r23 : List Cond := [Cond.methodLink RX3 61 yX3_levelOf, Cond.static yX3_levelOf, Cond.code yX3_levelOf cX3_levelOf 1 (some .int), Cond.methodLink RX3 55 yX3_add, Cond.instanceMethod yX3_add, Cond.selects RX3 yX3_add yX3_add, Cond.code yX3_add cX3_add 3 (some .boolean), Cond.code yX3_operand cX3_operand 2 (some .boolean), Cond.methodLink RX3 65 yX3_isDigit, Cond.instanceMethod yX3_isDigit, Cond.selects RX3 yX3_isDigit yX3_isDigit, Cond.code yX3_isDigit cX3_isDigit 1 (some .boolean), Cond.methodLink RX3 68 yX3_number, Cond.instanceMethod yX3_number, Cond.selects RX3 yX3_number yX3_number, Cond.code yX3_number cX3_number 3 (some .boolean), Cond.methodLink RX3 71 yX3_nameOf, Cond.static yX3_nameOf, Cond.code yX3_nameOf cX3_nameOf 1 (some .int), Cond.methodLink RX3 47 yX3_takes, Cond.instanceMethod yX3_takes, Cond.selects RX3 yX3_takes yX3_takes, Cond.code yX3_takes cX3_takes 2 (some .boolean), Cond.methodLink RL 182 yX11_row]
def wsL_law_r24 : List Cond := [Cond.instanceMethod yX11_row, Cond.selects RX11 yX11_row yX11_row, Cond.code yX11_row cX11_row 4 (some .int), Cond.methodLink RX11 75 yX11_isShelf, Cond.static yX11_isShelf, Cond.code yX11_isShelf cX11_isShelf 1 (some .boolean), Cond.methodLink RX11 367 yX9_holdRow, Cond.instanceMethod yX9_holdRow, Cond.selects RX9 yX9_holdRow yX9_holdRow, Cond.code yX9_holdRow cX9_holdRow 3 none, Cond.fieldLink RX9 19 "FrogBreath$Shelf" "reed" "LFrogBreath$Reed;", Cond.fieldLink RX9 23 "FrogBreath$Shelf" "size" "I", Cond.methodLink RX9 26 yJ7_fill_d0a16, Cond.static yJ7_fill_d0a16, Cond.code yJ7_fill_d0a16 cJ7_fill_d0a16 5 none, Cond.methodLink RL 187 yX11_put, Cond.instanceMethod yX11_put, Cond.selects RX11 yX11_put yX11_put, Cond.code yX11_put cX11_put 6 (some .int), Cond.methodLink RX11 370 yX11_elementRefusal, Cond.instanceMethod yX11_elementRefusal, Cond.selects RX11 yX11_elementRefusal yX11_elementRefusal, Cond.code yX11_elementRefusal cX11_elementRefusal 3 (some .int), Cond.methodLink RX11 83 yX9_isBare]
def wsL_law_r25 : List Cond := [Cond.instanceMethod yX9_isBare, Cond.selects RX9 yX9_isBare yX9_isBare, Cond.code yX9_isBare cX9_isBare 1 (some .boolean), Cond.methodLink RX11 380 yX9_isRow, Cond.instanceMethod yX9_isRow, Cond.selects RX9 yX9_isRow yX9_isRow, Cond.code yX9_isRow cX9_isRow 1 (some .boolean), Cond.methodLink RX11 90 yX9_hasPart, Cond.instanceMethod yX9_hasPart, Cond.selects RX9 yX9_hasPart yX9_hasPart, Cond.code yX9_hasPart cX9_hasPart 3 (some .boolean), Cond.methodLink RX11 373 yX9_become, Cond.instanceMethod yX9_become, Cond.selects RX9 yX9_become yX9_become, Cond.code yX9_become cX9_become 4 none, Cond.methodLink RL 191 yL_told, Cond.static yL_told, Cond.code yL_told cL_told 7 (some .long), Cond.constantLong RL 103 (7), Cond.constantLong RL 105 (31), Cond.methodLink RL 107 yX11_of, Cond.instanceMethod yX11_of, Cond.selects RX11 yX11_of yX11_of, Cond.code yX11_of cX11_of 3 (some .int)]
def wsL_law_r26 : List Cond := [Cond.methodLink RL 110 yX11_later, Cond.instanceMethod yX11_later, Cond.selects RX11 yX11_later yX11_later, Cond.code yX11_later cX11_later 5 (some .int), Cond.fieldLink RX11 142 "FrogBreath$Marsh" "frogPlace" "[I", Cond.fieldLink RX11 148 "FrogBreath$Marsh" "breath" "[I", Cond.methodLink RX11 135 yX11_thinkOn, Cond.instanceMethod yX11_thinkOn, Cond.selects RX11 yX11_thinkOn yX11_thinkOn, Cond.code yX11_thinkOn cX11_thinkOn 3 none, Cond.methodLink RL 113 yX11_best, Cond.instanceMethod yX11_best, Cond.selects RX11 yX11_best yX11_best, Cond.code yX11_best cX11_best 8 (some .int), Cond.fieldLink RX11 187 "FrogBreath$Marsh" "frogs" "I", Cond.methodLink RX11 169 yX11_thinkLoan, Cond.instanceMethod yX11_thinkLoan, Cond.selects RX11 yX11_thinkLoan yX11_thinkLoan, Cond.code yX11_thinkLoan cX11_thinkLoan 4 none, Cond.methodLink RX11 178 yX4_lend, Cond.instanceMethod yX4_lend, Cond.selects RX4 yX4_lend yX4_lend, Cond.code yX4_lend cX4_lend 4 none, Cond.methodLink RX11 172 yX11_givenBack]
def wsL_law_r27 : List Cond := [Cond.instanceMethod yX11_givenBack, Cond.selects RX11 yX11_givenBack yX11_givenBack, Cond.code yX11_givenBack cX11_givenBack 4 (some .int), Cond.methodLink RX11 181 yX4_passHourOf, Cond.methodLink RX11 184 yX4_endHour, Cond.methodLink RL 116 yX11_dealt, Cond.instanceMethod yX11_dealt, Cond.selects RX11 yX11_dealt yX11_dealt, Cond.code yX11_dealt cX11_dealt 3 (some .int), Cond.methodLink RX11 190 yX11_thinkGains, Cond.instanceMethod yX11_thinkGains, Cond.selects RX11 yX11_thinkGains yX11_thinkGains, Cond.code yX11_thinkGains cX11_thinkGains 4 none, Cond.fieldLink RX11 199 "FrogBreath$Marsh" "girls" "I", Cond.methodLink RX11 193 yX11_thinkMostBack, Cond.instanceMethod yX11_thinkMostBack, Cond.selects RX11 yX11_thinkMostBack yX11_thinkMostBack, Cond.code yX11_thinkMostBack cX11_thinkMostBack 5 none, Cond.methodLink RX11 212 Lib.Math.max.name, Cond.methodLink RX11 202 yJ7_fill_53178, Cond.static yJ7_fill_53178, Cond.code yJ7_fill_53178 cJ7_fill_53178 4 none, Cond.methodLink RX11 208 yX11_backByLending, Cond.instanceMethod yX11_backByLending]
def wsL_law_r28 : List Cond := [Cond.selects RX11 yX11_backByLending yX11_backByLending, Cond.code yX11_backByLending cX11_backByLending 5 (some .int), Cond.methodLink RX11 196 yX11_frogDealtTo, Cond.instanceMethod yX11_frogDealtTo, Cond.selects RX11 yX11_frogDealtTo yX11_frogDealtTo, Cond.code yX11_frogDealtTo cX11_frogDealtTo 5 (some .int), Cond.methodLink RX11 217 yX11_firstBestFrog, Cond.instanceMethod yX11_firstBestFrog, Cond.selects RX11 yX11_firstBestFrog yX11_firstBestFrog, Cond.code yX11_firstBestFrog cX11_firstBestFrog 5 (some .int), Cond.methodLink RL 119 yX11_ring, Cond.instanceMethod yX11_ring, Cond.selects RX11 yX11_ring yX11_ring, Cond.code yX11_ring cX11_ring 6 (some .int), Cond.methodLink RX11 271 yX4_nearestTo, Cond.instanceMethod yX4_nearestTo, Cond.selects RX4 yX4_nearestTo yX4_nearestTo, Cond.code yX4_nearestTo cX4_nearestTo 5 (some .int), Cond.methodLink RL 122 yX11_loan, Cond.instanceMethod yX11_loan, Cond.selects RX11 yX11_loan yX11_loan, Cond.code yX11_loan cX11_loan 4 (some .int), Cond.methodLink RX11 166 yX11_isPair, Cond.instanceMethod yX11_isPair]
def wsL_law_r29 : List Cond := [Cond.selects RX11 yX11_isPair yX11_isPair, Cond.code yX11_isPair cX11_isPair 2 (some .boolean), Cond.methodLink RX11 175 yX11_hoursTillBack, Cond.instanceMethod yX11_hoursTillBack, Cond.selects RX11 yX11_hoursTillBack yX11_hoursTillBack, Cond.code yX11_hoursTillBack cX11_hoursTillBack 3 (some .int), Cond.methodLink RL 125 yX11_least, Cond.instanceMethod yX11_least, Cond.selects RX11 yX11_least yX11_least, Cond.code yX11_least cX11_least 4 (some .int), Cond.methodLink RX11 220 yX11_heldBehind, Cond.instanceMethod yX11_heldBehind, Cond.selects RX11 yX11_heldBehind yX11_heldBehind, Cond.code yX11_heldBehind cX11_heldBehind 4 (some .int), Cond.methodLink RL 128 yX11_loses, Cond.instanceMethod yX11_loses, Cond.selects RX11 yX11_loses yX11_loses, Cond.code yX11_loses cX11_loses 2 (some .int), Cond.methodLink RX11 131 yX4_lossOf, Cond.methodLink RL 131 yX11_backWhen, Cond.instanceMethod yX11_backWhen, Cond.selects RX11 yX11_backWhen yX11_backWhen, Cond.code yX11_backWhen cX11_backWhen 4 (some .int), Cond.methodLink RX11 159 yX4_owing]
def wsL_law_r30 : List Cond := [Cond.instanceMethod yX4_owing, Cond.selects RX4 yX4_owing yX4_owing, Cond.code yX4_owing cX4_owing 3 (some .int), Cond.methodLink RL 134 yX11_judge, Cond.instanceMethod yX11_judge, Cond.selects RX11 yX11_judge yX11_judge, Cond.code yX11_judge cX11_judge 5 (some .int), Cond.methodLink RX11 246 yX11_bookRefusal, Cond.static yX11_bookRefusal, Cond.code yX11_bookRefusal cX11_bookRefusal 1 (some .int), Cond.methodLink RX11 87 yX9_isBytes, Cond.instanceMethod yX9_isBytes, Cond.selects RX9 yX9_isBytes yX9_isBytes, Cond.code yX9_isBytes cX9_isBytes 1 (some .boolean), Cond.methodLink RX11 250 yX11_firstNotSo, Cond.instanceMethod yX11_firstNotSo, Cond.selects RX11 yX11_firstNotSo yX11_firstNotSo, Cond.code yX11_firstNotSo cX11_firstNotSo 7 (some .int), Cond.fieldLink RX11 254 "FrogBreath$Shelf" "size" "I", Cond.methodLink RX11 257 Lib.Math.min.name, Cond.constantLong RX11 260 (100), Cond.methodLink RX11 97 yX9_at, Cond.instanceMethod yX9_at, Cond.selects RX9 yX9_at yX9_at]
def wsL_law_r31 : List Cond := [Cond.code yX9_at cX9_at 2 (some .long), Cond.methodLink RX9 32 yX9_hasPart, Cond.methodLink RL 137 yX11_fits, Cond.instanceMethod yX11_fits, Cond.selects RX11 yX11_fits yX11_fits, Cond.code yX11_fits cX11_fits 6 (some .int), Cond.methodLink RX11 262 yX11_keptBy, Cond.instanceMethod yX11_keptBy, Cond.selects RX11 yX11_keptBy yX11_keptBy, Cond.code yX11_keptBy cX11_keptBy 5 (some .int), Cond.fieldLink RX11 234 "FrogBreath$Marsh" "keeps" "[I", Cond.methodLink RX11 265 yX11_whose, Cond.instanceMethod yX11_whose, Cond.selects RX11 yX11_whose yX11_whose, Cond.code yX11_whose cX11_whose 5 (some .int), Cond.methodLink RL 140 yX11_byTurns, Cond.instanceMethod yX11_byTurns, Cond.selects RX11 yX11_byTurns yX11_byTurns, Cond.code yX11_byTurns cX11_byTurns 7 (some .int), Cond.fieldLink RX11 274 "FrogBreath$Marsh" "two" "I", Cond.methodLink RX11 277 yX11_lessTwo, Cond.static yX11_lessTwo, Cond.code yX11_lessTwo cX11_lessTwo 1 (some .int), Cond.methodLink RX11 280 yX11_turn]
def wsL_law_r32 : List Cond := [Cond.instanceMethod yX11_turn, Cond.selects RX11 yX11_turn yX11_turn, Cond.code yX11_turn cX11_turn 7 (some .int), Cond.methodLink RX11 284 yX11_backBy, Cond.instanceMethod yX11_backBy, Cond.selects RX11 yX11_backBy yX11_backBy, Cond.code yX11_backBy cX11_backBy 4 (some .int), Cond.methodLink RL 143 yX11_marsh, Cond.instanceMethod yX11_marsh, Cond.selects RX11 yX11_marsh yX11_marsh, Cond.code yX11_marsh cX11_marsh 3 (some .int), Cond.methodLink RX11 163 yX4_heldByAll, Cond.instanceMethod yX4_heldByAll, Cond.selects RX4 yX4_heldByAll yX4_heldByAll, Cond.code yX4_heldByAll cX4_heldByAll 3 (some .int), Cond.methodLink RL 146 yX11_bars, Cond.instanceMethod yX11_bars, Cond.selects RX11 yX11_bars yX11_bars, Cond.code yX11_bars cX11_bars 3 (some .int), Cond.methodLink RX11 223 yX11_nextTogether, Cond.instanceMethod yX11_nextTogether, Cond.selects RX11 yX11_nextTogether yX11_nextTogether, Cond.code yX11_nextTogether cX11_nextTogether 3 (some .int), Cond.methodLink RX11 226 yX11_beginningAt]
def wsL_law_r33 : List Cond := [Cond.instanceMethod yX11_beginningAt, Cond.selects RX11 yX11_beginningAt yX11_beginningAt, Cond.code yX11_beginningAt cX11_beginningAt 6 (some .int), Cond.methodLink RX11 229 yJ6_bitCount_0f7a4, Cond.static yJ6_bitCount_0f7a4, Cond.code yJ6_bitCount_0f7a4 cJ6_bitCount_0f7a4 1 (some .int), Cond.constant RJ6 265 (1431655765), Cond.constant RJ6 266 (858993459), Cond.constant RJ6 267 (252645135), Cond.methodLink RL 149 yX11_stops, Cond.instanceMethod yX11_stops, Cond.selects RX11 yX11_stops yX11_stops, Cond.code yX11_stops cX11_stops 5 (some .int), Cond.methodLink RX11 237 yX11_allHeardFrom, Cond.instanceMethod yX11_allHeardFrom, Cond.selects RX11 yX11_allHeardFrom yX11_allHeardFrom, Cond.code yX11_allHeardFrom cX11_allHeardFrom 4 (some .boolean), Cond.methodLink RX11 240 yX11_isHeardFrom, Cond.instanceMethod yX11_isHeardFrom, Cond.selects RX11 yX11_isHeardFrom yX11_isHeardFrom, Cond.code yX11_isHeardFrom cX11_isHeardFrom 5 (some .boolean), Cond.methodLink RX11 243 yX4_far, Cond.methodLink RL 152 yX11_alike, Cond.instanceMethod yX11_alike]
def wsL_law_r34 : List Cond := [Cond.selects RX11 yX11_alike yX11_alike, Cond.code yX11_alike cX11_alike 4 (some .int), Cond.methodLink RX11 268 yX11_holdAsMuch, Cond.instanceMethod yX11_holdAsMuch, Cond.selects RX11 yX11_holdAsMuch yX11_holdAsMuch, Cond.code yX11_holdAsMuch cX11_holdAsMuch 4 (some .boolean), Cond.methodLink RL 155 yX11_drawn, Cond.instanceMethod yX11_drawn, Cond.selects RX11 yX11_drawn yX11_drawn, Cond.code yX11_drawn cX11_drawn 10 (some .int), Cond.constant RX11 287 (1103515245), Cond.methodLink RX11 288 yX4_meetCart, Cond.instanceMethod yX4_meetCart, Cond.selects RX4 yX4_meetCart yX4_meetCart, Cond.code yX4_meetCart cX4_meetCart 3 none, Cond.methodLink RL 158 yX11_led, Cond.instanceMethod yX11_led, Cond.selects RX11 yX11_led yX11_led, Cond.code yX11_led cX11_led 2 (some .int), Cond.methodLink RL 195 yX11_count, Cond.instanceMethod yX11_count, Cond.selects RX11 yX11_count yX11_count, Cond.code yX11_count cX11_count 2 (some .int), Cond.fieldLink RX11 320 "FrogBreath" "bodyCount" "I"]
def wsL_law_r35 : List Cond := [Cond.methodLink RL 199 yX11_lends, Cond.instanceMethod yX11_lends, Cond.selects RX11 yX11_lends yX11_lends, Cond.code yX11_lends cX11_lends 5 (some .int), Cond.methodLink RL 202 yX11_keep, Cond.instanceMethod yX11_keep, Cond.selects RX11 yX11_keep yX11_keep, Cond.code yX11_keep cX11_keep 3 (some .int), Cond.methodLink RX11 363 yX9_hold, Cond.instanceMethod yX9_hold, Cond.selects RX9 yX9_hold yX9_hold, Cond.code yX9_hold cX9_hold 2 none, Cond.methodLink RL 210 yX11_back, Cond.instanceMethod yX11_back, Cond.selects RX11 yX11_back yX11_back, Cond.code yX11_back cX11_back 1 (some .int), Cond.methodLink RX11 302 yX4_layBack, Cond.methodLink RL 213 yL_rest, Cond.static yL_rest, Cond.code yL_rest cL_rest 15 (some .boolean), Cond.methodLink RL 225 Lib.Math.max.name, Cond.methodLink RL 217 yJ6_bitCount_0f7a4, Cond.methodLink RL 222 yL_far, Cond.static yL_far]
def wsL_law_r36 : List Cond := [Cond.code yL_far cL_far 2 (some .int), Cond.methodLink RL 228 Lib.Math.abs.name]
def wsL_law : List Cond := (wsL_law_r1 ++ (wsL_law_r2 ++ (wsL_law_r3 ++ (wsL_law_r4 ++ (wsL_law_r5 ++ (wsL_law_r6 ++ (wsL_law_r7 ++ (wsL_law_r8 ++ (wsL_law_r9 ++ (wsL_law_r10 ++ (wsL_law_r11 ++ (wsL_law_r12 ++ (wsL_law_r13 ++ (wsL_law_r14 ++ (wsL_law_r15 ++ (wsL_law_r16 ++ (wsL_law_r17 ++ (wsL_law_r18 ++ (wsL_law_r19 ++ (wsL_law_r20 ++ (wsL_law_r21 ++ (wsL_law_r22 ++ (wsL_law_r23 ++ (wsL_law_r24 ++ (wsL_law_r25 ++ (wsL_law_r26 ++ (wsL_law_r27 ++ (wsL_law_r28 ++ (wsL_law_r29 ++ (wsL_law_r30 ++ (wsL_law_r31 ++ (wsL_law_r32 ++ (wsL_law_r33 ++ (wsL_law_r34 ++ (wsL_law_r35 ++ wsL_law_r36))))))))))))))))))))))))))))))))))) ++ wsX110 ++ wsX40 ++ wsX30 ++ wsX90 ++ wsJ40 ++ wsJ00 ++ ([] : List Cond)
/-- private methods above StringBuilder: what a call of them selects -/
def xsel : List Cond := [Cond.selects RJ4 ⟨"java/lang/AbstractStringBuilder", "appendNull", "()Ljava/lang/AbstractStringBuilder;"⟩ yJ5_appendNull_278bc, Cond.selects RJ4 ⟨"java/lang/AbstractStringBuilder", "ensureCapacityInternal", "(I)V"⟩ yJ5_ensureCapacityInternal_d00df, Cond.selects RJ4 ⟨"java/lang/AbstractStringBuilder", "newCapacity", "(I)I"⟩ yJ5_newCapacity_0f7a4, Cond.selects RJ4 ⟨"java/lang/AbstractStringBuilder", "putStringAt", "(ILjava/lang/String;)V"⟩ yJ5_putStringAt_47b60, Cond.selects RJ4 ⟨"java/lang/AbstractStringBuilder", "inflateIfNeededFor", "(Ljava/lang/String;)V"⟩ yJ5_inflateIfNeededFor_a7421, Cond.selects RJ4 ⟨"java/lang/AbstractStringBuilder", "inflate", "()V"⟩ yJ5_inflate_da8c8]
theorem sel_priv {C : String} {y : MethodName} {s : State} {args : Array Value} {n : Nat} (hy : y.cls ≠ "java/lang/invoke/MethodHandle" ∧ y.cls ≠ "java/lang/invoke/VarHandle") (hC : (Cond.instantiable C n).before args s = true) (hsame : (Cond.sameMethod y.cls y.cls y.name y.desc).before args s = true)
    (hpriv : (Cond.privateMethod y).before args s = true) (hinst : (Cond.instanceMethod y).before args s = true) : (Cond.selects C y y).before args s = true := by
  obtain ⟨c, k, hc, hk, -, hniab, -, -⟩ := Cond.instantiable_spec hC
  obtain ⟨mk, methM, hnamed, hmethM, -, -⟩ := Cond.instanceMethod_spec hinst
  have hfound : s.methodFound? y.cls y.name y.desc = some mk := State.methodFound?_of_named hnamed hy
  have hp : s.vm.findClass y.cls = some mk.cls := findClass_of_methodNamed hnamed
  have hsel : selectMethod {} s.vm c mk = .method mk := selectMethod_private hmethM (Cond.privateMethod_at hpriv mk methM hnamed hmethM)
  have hn2 : s.methodNamed? ⟨y.cls, y.name, y.desc⟩ = some mk := hnamed
  have hkpi : ((s.vm.classes[mk.cls]?).any (!·.isInterface)) = true := by
    have h1 := hsame
    simp only [Cond.before, Cond.holds, Cond.value, hp, hfound, hn2] at h1
    simpa using h1
  simp only [Cond.before, Cond.holds, Cond.value, hc, hfound, hnamed, hsel]
  simpa using hkpi
def lw_tb2 : List Cond := xsel ++ lw_tbl
theorem xsel_ok {args : Array Value} {s : State} (h : ∀ w ∈ lw_tbl, w.before args s = true) : ∀ w ∈ xsel, w.before args s = true := List.forall_mem_cons.mpr ⟨sel_priv (n := 4) (by decide +kernel) (h _ (List.mem_of_getElem? (i := 576) (by decide +kernel))) (h _ (List.mem_of_getElem? (i := 1003) (by decide +kernel))) (h _ (List.mem_of_getElem? (i := 615) (by decide +kernel))) (h _ (List.mem_of_getElem? (i := 616) (by decide +kernel))), List.forall_mem_cons.mpr ⟨sel_priv (n := 4) (by decide +kernel) (h _ (List.mem_of_getElem? (i := 576) (by decide +kernel))) (h _ (List.mem_of_getElem? (i := 1004) (by decide +kernel))) (h _ (List.mem_of_getElem? (i := 619) (by decide +kernel))) (h _ (List.mem_of_getElem? (i := 620) (by decide +kernel))), List.forall_mem_cons.mpr ⟨sel_priv (n := 4) (by decide +kernel) (h _ (List.mem_of_getElem? (i := 576) (by decide +kernel))) (h _ (List.mem_of_getElem? (i := 1005) (by decide +kernel))) (h _ (List.mem_of_getElem? (i := 623) (by decide +kernel))) (h _ (List.mem_of_getElem? (i := 624) (by decide +kernel))), List.forall_mem_cons.mpr ⟨sel_priv (n := 4) (by decide +kernel) (h _ (List.mem_of_getElem? (i := 576) (by decide +kernel))) (h _ (List.mem_of_getElem? (i := 1006) (by decide +kernel))) (h _ (List.mem_of_getElem? (i := 688) (by decide +kernel))) (h _ (List.mem_of_getElem? (i := 689) (by decide +kernel))), List.forall_mem_cons.mpr ⟨sel_priv (n := 4) (by decide +kernel) (h _ (List.mem_of_getElem? (i := 576) (by decide +kernel))) (h _ (List.mem_of_getElem? (i := 1007) (by decide +kernel))) (h _ (List.mem_of_getElem? (i := 692) (by decide +kernel))) (h _ (List.mem_of_getElem? (i := 693) (by decide +kernel))), List.forall_mem_cons.mpr ⟨sel_priv (n := 4) (by decide +kernel) (h _ (List.mem_of_getElem? (i := 576) (by decide +kernel))) (h _ (List.mem_of_getElem? (i := 1008) (by decide +kernel))) (h _ (List.mem_of_getElem? (i := 697) (by decide +kernel))) (h _ (List.mem_of_getElem? (i := 698) (by decide +kernel))), fun _ h => absurd h List.not_mem_nil⟩⟩⟩⟩⟩⟩
theorem tb2_ok {args : Array Value} {s : State} (h : ∀ w ∈ lw_tbl, w.before args s = true) : ∀ w ∈ lw_tb2, w.before args s = true := fun w hw => (List.mem_append.mp hw).elim (xsel_ok h w) (h w)
abbrev vwCl : List vw_C := [(RJ4, TJ4, 4), (RJ0, TJ0, 4), (RJ4, TJ4, 4), (RX3, TX3, 9), (RX4, TX4, 11), (RJ4, TJ4, 4), (RJ4, TJ4, 4), (RJ4, TJ4, 4), (RJ4, TJ4, 4), (RX9, TX9, 4), (RJ4, TJ4, 4), (RX11, TX11, 17), (RJ4, TJ4, 4)]
