/-! ===== BEGIN words of one list among another's, by their places ===== -/
theorem goodIn_r {big : List Cond} (ws : List Cond) (ps : List Nat) (hp : ws = ps.filterMap (fun i => big[i]?)) (h : ws.all goodWord = true) : GoodIn big ws := by
  intro w hw
  have h1 := List.all_eq_true.mp h w hw
  rw [hp] at hw
  obtain ⟨i, -, hi⟩ := List.mem_filterMap.mp hw
  have hm : w ∈ big := by first | exact List.mem_of_getElem? hi | exact List.getElem?_mem hi
  exact ⟨hm, good_of_word h1⟩
theorem goodIn_app {big a b : List Cond} (ha : GoodIn big a) (hb : GoodIn big b) : GoodIn big (a ++ b) := fun w h => (List.mem_append.mp h).elim (ha w) (hb w)
theorem goodIn_ca {big a b : List Cond} {c : Cond} (ha : GoodIn big (c :: a)) (hb : GoodIn big b) : GoodIn big (c :: (a ++ b)) := fun w h => (List.mem_cons.mp h).elim (fun e => ha w (List.mem_cons.mpr (Or.inl e))) (fun h => (List.mem_append.mp h).elim (fun h => ha w (List.mem_cons.mpr (Or.inr h))) (hb w))
theorem goodIn_sub {big ws : List Cond} (hm : ∀ w ∈ ws, w ∈ big) (h : ws.all goodWord = true) : GoodIn big ws := fun w hw => ⟨hm w hw, good_of_word (List.all_eq_true.mp h w hw)⟩
/-! ===== END ===== -/


/-! ===== BEGIN printed: names, fields, word lists, decode rows ===== -/
def RX0 : String := "FrogBreath$Clock"
def TX0 : u_T := fun k => match k with
  | 0 => ("FrogBreath$Reed", "kind", "I", true)
  | 1 => ("FrogBreath$Reed", "number", "I", true)
  | _ => ("FrogBreath$Reed", "ran", "[I", true)
def tyX0 : Nat → FieldType := fun k => match k with
  | 0 => .int
  | 1 => .int
  | _ => .array .int
abbrev wsX00 : List Cond := u_ws RX0 TX0 3
theorem nmX0 : ∀ a, a < 3 → ∀ b, b < 3 → a ≠ b → (TX0 a).2.1 ≠ (TX0 b).2.1 := by decide +kernel
theorem tyX0_ok : ∀ k, k < 3 → parseFieldDescriptor (TX0 k).2.2.1 = some (tyX0 k) := by decide +kernel
abbrev cX0_init : ByteArray := prog_2_method_1_code
def yX0_init : MethodName := ⟨RX0, "<init>", "(II[I)V"⟩
abbrev cX0_telling : ByteArray := prog_2_method_2_code
def yX0_telling : MethodName := ⟨RX0, "telling", "(I)I"⟩
def RX1 : String := "FrogBreath$Ditch"
def TX1 : u_T := fun k => match k with
  | 0 => ("FrogBreath$Reed", "kind", "I", true)
  | 1 => ("FrogBreath$Reed", "number", "I", true)
  | _ => ("FrogBreath$Reed", "ran", "[I", true)
def tyX1 : Nat → FieldType := fun k => match k with
  | 0 => .int
  | 1 => .int
  | _ => .array .int
abbrev wsX10 : List Cond := u_ws RX1 TX1 3
theorem nmX1 : ∀ a, a < 3 → ∀ b, b < 3 → a ≠ b → (TX1 a).2.1 ≠ (TX1 b).2.1 := by decide +kernel
theorem tyX1_ok : ∀ k, k < 3 → parseFieldDescriptor (TX1 k).2.2.1 = some (tyX1 k) := by decide +kernel
abbrev cX1_init : ByteArray := prog_3_method_1_code
def yX1_init : MethodName := ⟨RX1, "<init>", "(II[I)V"⟩
abbrev cX1_singing : ByteArray := prog_3_method_2_code
def yX1_singing : MethodName := ⟨RX1, "singing", "(I)I"⟩
def RX2 : String := "FrogBreath$Lamp"
def TX2 : u_T := fun k => match k with
  | 0 => ("FrogBreath$Reed", "kind", "I", true)
  | 1 => ("FrogBreath$Reed", "number", "I", true)
  | _ => ("FrogBreath$Reed", "ran", "[I", true)
def tyX2 : Nat → FieldType := fun k => match k with
  | 0 => .int
  | 1 => .int
  | _ => .array .int
abbrev wsX20 : List Cond := u_ws RX2 TX2 3
theorem nmX2 : ∀ a, a < 3 → ∀ b, b < 3 → a ≠ b → (TX2 a).2.1 ≠ (TX2 b).2.1 := by decide +kernel
theorem tyX2_ok : ∀ k, k < 3 → parseFieldDescriptor (TX2 k).2.2.1 = some (tyX2 k) := by decide +kernel
abbrev cX2_init : ByteArray := prog_4_method_1_code
def yX2_init : MethodName := ⟨RX2, "<init>", "(II[I)V"⟩
abbrev cX2_lending : ByteArray := prog_4_method_2_code
def yX2_lending : MethodName := ⟨RX2, "lending", "(I)I"⟩
def RX3 : String := "FrogBreath$Law"
def TX3 : u_T := fun k => match k with
  | 0 => ("FrogBreath$Law", "step", "[I", true)
  | 1 => ("FrogBreath$Law", "value", "[I", true)
  | 2 => ("FrogBreath$Law", "stack", "[I", true)
  | 3 => ("FrogBreath$Law", "names", "[I", true)
  | 4 => ("FrogBreath$Law", "steps", "I", false)
  | 5 => ("FrogBreath$Law", "top", "I", false)
  | 6 => ("FrogBreath$Law", "text", "[I", false)
  | 7 => ("FrogBreath$Law", "length", "I", false)
  | _ => ("FrogBreath$Law", "place", "I", false)
def tyX3 : Nat → FieldType := fun k => match k with
  | 0 => .array .int
  | 1 => .array .int
  | 2 => .array .int
  | 3 => .array .int
  | 4 => .int
  | 5 => .int
  | 6 => .array .int
  | 7 => .int
  | _ => .int
abbrev wsX30 : List Cond := u_ws RX3 TX3 9
theorem nmX3 : ∀ a, a < 9 → ∀ b, b < 9 → a ≠ b → (TX3 a).2.1 ≠ (TX3 b).2.1 := by decide +kernel
theorem tyX3_ok : ∀ k, k < 9 → parseFieldDescriptor (TX3 k).2.2.1 = some (tyX3 k) := by decide +kernel
abbrev cX3_init : ByteArray := prog_5_method_1_code
def yX3_init : MethodName := ⟨RX3, "<init>", "()V"⟩
abbrev cX3_isTold : ByteArray := prog_5_method_2_code
def yX3_isTold : MethodName := ⟨RX3, "isTold", "()Z"⟩
abbrev cX3_read : ByteArray := prog_5_method_3_code
def yX3_read : MethodName := ⟨RX3, "read", "([II)I"⟩
abbrev cX3_line : ByteArray := prog_5_method_4_code
def yX3_line : MethodName := ⟨RX3, "line", "()Z"⟩
abbrev cX3_joined : ByteArray := prog_5_method_5_code
def yX3_joined : MethodName := ⟨RX3, "joined", "(II)Z"⟩
abbrev cX3_levelOf : ByteArray := prog_5_method_6_code
def yX3_levelOf : MethodName := ⟨RX3, "levelOf", "(I)I"⟩
abbrev cX3_operand : ByteArray := prog_5_method_7_code
def yX3_operand : MethodName := ⟨RX3, "operand", "(I)Z"⟩
abbrev cX3_number : ByteArray := prog_5_method_8_code
def yX3_number : MethodName := ⟨RX3, "number", "()Z"⟩
abbrev cX3_isDigit : ByteArray := prog_5_method_9_code
def yX3_isDigit : MethodName := ⟨RX3, "isDigit", "()Z"⟩
abbrev cX3_nameOf : ByteArray := prog_5_method_10_code
def yX3_nameOf : MethodName := ⟨RX3, "nameOf", "(I)I"⟩
abbrev cX3_takes : ByteArray := prog_5_method_11_code
def yX3_takes : MethodName := ⟨RX3, "takes", "(I)Z"⟩
abbrev cX3_add : ByteArray := prog_5_method_12_code
def yX3_add : MethodName := ⟨RX3, "add", "(II)Z"⟩
abbrev cX3_worked : ByteArray := prog_5_method_13_code
def yX3_worked : MethodName := ⟨RX3, "worked", "(IIIIII)I"⟩
abbrev cX3_push : ByteArray := prog_5_method_14_code
def yX3_push : MethodName := ⟨RX3, "push", "(I)V"⟩
abbrev cX3_pop : ByteArray := prog_5_method_15_code
def yX3_pop : MethodName := ⟨RX3, "pop", "()I"⟩
abbrev cX3_joinedBy : ByteArray := prog_5_method_16_code
def yX3_joinedBy : MethodName := ⟨RX3, "joinedBy", "(III)I"⟩
def RX4 : String := "FrogBreath$Marsh"
def TX4 : u_T := fun k => match k with
  | 0 => ("FrogBreath$Marsh", "girlPlace", "[I", true)
  | 1 => ("FrogBreath$Marsh", "breath", "[I", true)
  | 2 => ("FrogBreath$Marsh", "frogPlace", "[I", true)
  | 3 => ("FrogBreath$Marsh", "keeps", "[I", true)
  | 4 => ("FrogBreath$Marsh", "owes", "[I", true)
  | 5 => ("FrogBreath$Marsh", "held", "[I", true)
  | 6 => ("FrogBreath$Marsh", "led", "[I", true)
  | 7 => ("FrogBreath$Marsh", "girls", "I", false)
  | 8 => ("FrogBreath$Marsh", "frogs", "I", false)
  | 9 => ("FrogBreath$Marsh", "two", "I", false)
  | _ => ("FrogBreath$Marsh", "hour", "I", false)
def tyX4 : Nat → FieldType := fun k => match k with
  | 0 => .array .int
  | 1 => .array .int
  | 2 => .array .int
  | 3 => .array .int
  | 4 => .array .int
  | 5 => .array .int
  | 6 => .array .int
  | 7 => .int
  | 8 => .int
  | 9 => .int
  | _ => .int
abbrev wsX40 : List Cond := u_ws RX4 TX4 11
theorem nmX4 : ∀ a, a < 11 → ∀ b, b < 11 → a ≠ b → (TX4 a).2.1 ≠ (TX4 b).2.1 := by decide +kernel
theorem tyX4_ok : ∀ k, k < 11 → parseFieldDescriptor (TX4 k).2.2.1 = some (tyX4 k) := by decide +kernel
abbrev cX4_init : ByteArray := prog_6_method_1_code
def yX4_init : MethodName := ⟨RX4, "<init>", "()V"⟩
abbrev cX4_hasGirl : ByteArray := prog_6_method_2_code
def yX4_hasGirl : MethodName := ⟨RX4, "hasGirl", "(I)Z"⟩
abbrev cX4_hasFrog : ByteArray := prog_6_method_3_code
def yX4_hasFrog : MethodName := ⟨RX4, "hasFrog", "(I)Z"⟩
abbrev cX4_addGirl : ByteArray := prog_6_method_4_code
def yX4_addGirl : MethodName := ⟨RX4, "addGirl", "(I)I"⟩
abbrev cX4_addFrog : ByteArray := prog_6_method_5_code
def yX4_addFrog : MethodName := ⟨RX4, "addFrog", "(IIII)I"⟩
abbrev cX4_hasNumber : ByteArray := prog_6_method_6_code
def yX4_hasNumber : MethodName := ⟨RX4, "hasNumber", "(II)Z"⟩
abbrev cX4_numberOf : ByteArray := prog_6_method_7_code
def yX4_numberOf : MethodName := ⟨RX4, "numberOf", "(II)I"⟩
abbrev cX4_become : ByteArray := prog_6_method_8_code
def yX4_become : MethodName := ⟨RX4, "become", "(III)V"⟩
abbrev cX4_copy : ByteArray := prog_6_method_9_code
def yX4_copy : MethodName := ⟨RX4, "copy", "(LFrogBreath$Marsh;)V"⟩
abbrev cX4_layBack : ByteArray := prog_6_method_10_code
def yX4_layBack : MethodName := ⟨RX4, "layBack", "(LFrogBreath$Marsh;)V"⟩
abbrev cX4_far : ByteArray := prog_6_method_11_code
def yX4_far : MethodName := ⟨RX4, "far", "(II)I"⟩
abbrev cX4_nearestTo : ByteArray := prog_6_method_12_code
def yX4_nearestTo : MethodName := ⟨RX4, "nearestTo", "(I)I"⟩
abbrev cX4_owing : ByteArray := prog_6_method_13_code
def yX4_owing : MethodName := ⟨RX4, "owing", "()I"⟩
abbrev cX4_heldByAll : ByteArray := prog_6_method_14_code
def yX4_heldByAll : MethodName := ⟨RX4, "heldByAll", "()I"⟩
abbrev cX4_lend : ByteArray := prog_6_method_15_code
def yX4_lend : MethodName := ⟨RX4, "lend", "(III)V"⟩
abbrev cX4_owesNothing : ByteArray := prog_6_method_16_code
def yX4_owesNothing : MethodName := ⟨RX4, "owesNothing", "(I)V"⟩
abbrev cX4_meetCart : ByteArray := prog_6_method_17_code
def yX4_meetCart : MethodName := ⟨RX4, "meetCart", "(II)V"⟩
abbrev cX4_lossOf : ByteArray := prog_6_method_18_code
def yX4_lossOf : MethodName := ⟨RX4, "lossOf", "(ILFrogBreath$Law;)I"⟩
abbrev cX4_passHourOf : ByteArray := prog_6_method_19_code
def yX4_passHourOf : MethodName := ⟨RX4, "passHourOf", "(ILFrogBreath$Law;)I"⟩
abbrev cX4_nearer : ByteArray := prog_6_method_20_code
def yX4_nearer : MethodName := ⟨RX4, "nearer", "(II)I"⟩
abbrev cX4_endHour : ByteArray := prog_6_method_21_code
def yX4_endHour : MethodName := ⟨RX4, "endHour", "()V"⟩
abbrev cX4_passHour : ByteArray := prog_6_method_22_code
def yX4_passHour : MethodName := ⟨RX4, "passHour", "(LFrogBreath$Law;)I"⟩
def RX5 : String := "FrogBreath$Mill"
def TX5 : u_T := fun k => match k with
  | 0 => ("FrogBreath$Reed", "kind", "I", true)
  | 1 => ("FrogBreath$Reed", "number", "I", true)
  | _ => ("FrogBreath$Reed", "ran", "[I", true)
def tyX5 : Nat → FieldType := fun k => match k with
  | 0 => .int
  | 1 => .int
  | _ => .array .int
abbrev wsX50 : List Cond := u_ws RX5 TX5 3
theorem nmX5 : ∀ a, a < 3 → ∀ b, b < 3 → a ≠ b → (TX5 a).2.1 ≠ (TX5 b).2.1 := by decide +kernel
theorem tyX5_ok : ∀ k, k < 3 → parseFieldDescriptor (TX5 k).2.2.1 = some (tyX5 k) := by decide +kernel
abbrev cX5_init : ByteArray := prog_7_method_1_code
def yX5_init : MethodName := ⟨RX5, "<init>", "(II[I)V"⟩
abbrev cX5_keeping : ByteArray := prog_7_method_2_code
def yX5_keeping : MethodName := ⟨RX5, "keeping", "(I)I"⟩
abbrev cX5_singing : ByteArray := prog_7_method_3_code
def yX5_singing : MethodName := ⟨RX5, "singing", "(I)I"⟩
def RX6 : String := "FrogBreath$Muslin"
def TX6 : u_T := fun k => match k with
  | 0 => ("FrogBreath$Reed", "kind", "I", true)
  | 1 => ("FrogBreath$Reed", "number", "I", true)
  | _ => ("FrogBreath$Reed", "ran", "[I", true)
def tyX6 : Nat → FieldType := fun k => match k with
  | 0 => .int
  | 1 => .int
  | _ => .array .int
abbrev wsX60 : List Cond := u_ws RX6 TX6 3
theorem nmX6 : ∀ a, a < 3 → ∀ b, b < 3 → a ≠ b → (TX6 a).2.1 ≠ (TX6 b).2.1 := by decide +kernel
theorem tyX6_ok : ∀ k, k < 3 → parseFieldDescriptor (TX6 k).2.2.1 = some (tyX6 k) := by decide +kernel
abbrev cX6_init : ByteArray := prog_8_method_1_code
def yX6_init : MethodName := ⟨RX6, "<init>", "(II[I)V"⟩
abbrev cX6_lending : ByteArray := prog_8_method_2_code
def yX6_lending : MethodName := ⟨RX6, "lending", "(I)I"⟩
def RX7 : String := "FrogBreath$Prince"
def TX7 : u_T := fun k => match k with
  | 0 => ("FrogBreath$Reed", "kind", "I", true)
  | 1 => ("FrogBreath$Reed", "number", "I", true)
  | _ => ("FrogBreath$Reed", "ran", "[I", true)
def tyX7 : Nat → FieldType := fun k => match k with
  | 0 => .int
  | 1 => .int
  | _ => .array .int
abbrev wsX70 : List Cond := u_ws RX7 TX7 3
theorem nmX7 : ∀ a, a < 3 → ∀ b, b < 3 → a ≠ b → (TX7 a).2.1 ≠ (TX7 b).2.1 := by decide +kernel
theorem tyX7_ok : ∀ k, k < 3 → parseFieldDescriptor (TX7 k).2.2.1 = some (tyX7 k) := by decide +kernel
abbrev cX7_init : ByteArray := prog_9_method_1_code
def yX7_init : MethodName := ⟨RX7, "<init>", "(II[I)V"⟩
abbrev cX7_keeping : ByteArray := prog_9_method_2_code
def yX7_keeping : MethodName := ⟨RX7, "keeping", "(I)I"⟩
def RX8 : String := "FrogBreath$Reed"
def TX8 : u_T := fun k => match k with
  | 0 => ("FrogBreath$Reed", "kind", "I", true)
  | 1 => ("FrogBreath$Reed", "number", "I", true)
  | _ => ("FrogBreath$Reed", "ran", "[I", true)
def tyX8 : Nat → FieldType := fun k => match k with
  | 0 => .int
  | 1 => .int
  | _ => .array .int
abbrev wsX80 : List Cond := u_ws RX8 TX8 3
theorem nmX8 : ∀ a, a < 3 → ∀ b, b < 3 → a ≠ b → (TX8 a).2.1 ≠ (TX8 b).2.1 := by decide +kernel
theorem tyX8_ok : ∀ k, k < 3 → parseFieldDescriptor (TX8 k).2.2.1 = some (tyX8 k) := by decide +kernel
abbrev cX8_init : ByteArray := prog_10_method_1_code
def yX8_init : MethodName := ⟨RX8, "<init>", "(II[I)V"⟩
abbrev cX8_begins : ByteArray := prog_10_method_2_code
def yX8_begins : MethodName := ⟨RX8, "begins", "(I)V"⟩
abbrev cX8_lending : ByteArray := prog_10_method_3_code
def yX8_lending : MethodName := ⟨RX8, "lending", "(I)I"⟩
abbrev cX8_singing : ByteArray := prog_10_method_4_code
def yX8_singing : MethodName := ⟨RX8, "singing", "(I)I"⟩
abbrev cX8_keeping : ByteArray := prog_10_method_5_code
def yX8_keeping : MethodName := ⟨RX8, "keeping", "(I)I"⟩
abbrev cX8_telling : ByteArray := prog_10_method_6_code
def yX8_telling : MethodName := ⟨RX8, "telling", "(I)I"⟩
def RX9 : String := "FrogBreath$Shelf"
def TX9 : u_T := fun k => match k with
  | 0 => ("FrogBreath$Shelf", "elements", "[J", true)
  | 1 => ("FrogBreath$Shelf", "reed", "LFrogBreath$Reed;", false)
  | 2 => ("FrogBreath$Shelf", "sort", "I", false)
  | _ => ("FrogBreath$Shelf", "size", "I", false)
def tyX9 : Nat → FieldType := fun k => match k with
  | 0 => .array .long
  | 1 => .object "FrogBreath$Reed"
  | 2 => .int
  | _ => .int
abbrev wsX90 : List Cond := u_ws RX9 TX9 4
theorem nmX9 : ∀ a, a < 4 → ∀ b, b < 4 → a ≠ b → (TX9 a).2.1 ≠ (TX9 b).2.1 := by decide +kernel
theorem tyX9_ok : ∀ k, k < 4 → parseFieldDescriptor (TX9 k).2.2.1 = some (tyX9 k) := by decide +kernel
abbrev cX9_init : ByteArray := prog_11_method_1_code
def yX9_init : MethodName := ⟨RX9, "<init>", "()V"⟩
abbrev cX9_isBare : ByteArray := prog_11_method_2_code
def yX9_isBare : MethodName := ⟨RX9, "isBare", "()Z"⟩
abbrev cX9_isRow : ByteArray := prog_11_method_3_code
def yX9_isRow : MethodName := ⟨RX9, "isRow", "()Z"⟩
abbrev cX9_isBytes : ByteArray := prog_11_method_4_code
def yX9_isBytes : MethodName := ⟨RX9, "isBytes", "()Z"⟩
abbrev cX9_hold : ByteArray := prog_11_method_5_code
def yX9_hold : MethodName := ⟨RX9, "hold", "(LFrogBreath$Reed;)V"⟩
abbrev cX9_holdRow : ByteArray := prog_11_method_6_code
def yX9_holdRow : MethodName := ⟨RX9, "holdRow", "(II)V"⟩
abbrev cX9_hasPart : ByteArray := prog_11_method_7_code
def yX9_hasPart : MethodName := ⟨RX9, "hasPart", "(II)Z"⟩
abbrev cX9_at : ByteArray := prog_11_method_8_code
def yX9_at : MethodName := ⟨RX9, "at", "(I)J"⟩
abbrev cX9_become : ByteArray := prog_11_method_9_code
def yX9_become : MethodName := ⟨RX9, "become", "(IJ)V"⟩
def RX10 : String := "FrogBreath$Sigh"
def TX10 : u_T := fun k => match k with
  | 0 => ("FrogBreath$Reed", "kind", "I", true)
  | 1 => ("FrogBreath$Reed", "number", "I", true)
  | _ => ("FrogBreath$Reed", "ran", "[I", true)
def tyX10 : Nat → FieldType := fun k => match k with
  | 0 => .int
  | 1 => .int
  | _ => .array .int
abbrev wsX100 : List Cond := u_ws RX10 TX10 3
theorem nmX10 : ∀ a, a < 3 → ∀ b, b < 3 → a ≠ b → (TX10 a).2.1 ≠ (TX10 b).2.1 := by decide +kernel
theorem tyX10_ok : ∀ k, k < 3 → parseFieldDescriptor (TX10 k).2.2.1 = some (tyX10 k) := by decide +kernel
abbrev cX10_init : ByteArray := prog_12_method_1_code
def yX10_init : MethodName := ⟨RX10, "<init>", "(II[I)V"⟩
abbrev cX10_singing : ByteArray := prog_12_method_2_code
def yX10_singing : MethodName := ⟨RX10, "singing", "(I)I"⟩
abbrev cX10_telling : ByteArray := prog_12_method_3_code
def yX10_telling : MethodName := ⟨RX10, "telling", "(I)I"⟩
def RX11 : String := "FrogBreath"
def TX11 : u_T := fun k => match k with
  | 0 => ("FrogBreath", "now", "LFrogBreath$Marsh;", true)
  | 1 => ("FrogBreath", "thought", "LFrogBreath$Marsh;", true)
  | 2 => ("FrogBreath", "kept", "LFrogBreath$Marsh;", true)
  | 3 => ("FrogBreath", "imageKept", "Z", false)
  | 4 => ("FrogBreath", "law", "LFrogBreath$Law;", false)
  | 5 => ("FrogBreath", "draft", "LFrogBreath$Law;", false)
  | 6 => ("FrogBreath", "tape", "[I", true)
  | 7 => ("FrogBreath", "tapeSize", "I", false)
  | 8 => ("FrogBreath", "changes", "[[I", true)
  | 9 => ("FrogBreath", "changesKept", "I", false)
  | 10 => ("FrogBreath", "changesDone", "I", false)
  | 11 => ("FrogBreath", "gains", "[[I", true)
  | 12 => ("FrogBreath", "mostBack", "[[I", true)
  | 13 => ("FrogBreath", "bodies", "[LFrogBreath$Reed;", true)
  | 14 => ("FrogBreath", "bodyCount", "I", false)
  | 15 => ("FrogBreath", "ran", "[I", true)
  | _ => ("FrogBreath", "shelves", "[LFrogBreath$Shelf;", true)
def tyX11 : Nat → FieldType := fun k => match k with
  | 0 => .object "FrogBreath$Marsh"
  | 1 => .object "FrogBreath$Marsh"
  | 2 => .object "FrogBreath$Marsh"
  | 3 => .boolean
  | 4 => .object "FrogBreath$Law"
  | 5 => .object "FrogBreath$Law"
  | 6 => .array .int
  | 7 => .int
  | 8 => .array (.array .int)
  | 9 => .int
  | 10 => .int
  | 11 => .array (.array .int)
  | 12 => .array (.array .int)
  | 13 => .array (.object "FrogBreath$Reed")
  | 14 => .int
  | 15 => .array .int
  | _ => .array (.object "FrogBreath$Shelf")
abbrev wsX110 : List Cond := u_ws RX11 TX11 17
theorem nmX11 : ∀ a, a < 17 → ∀ b, b < 17 → a ≠ b → (TX11 a).2.1 ≠ (TX11 b).2.1 := by decide +kernel
theorem tyX11_ok : ∀ k, k < 17 → parseFieldDescriptor (TX11 k).2.2.1 = some (tyX11 k) := by decide +kernel
abbrev cX11_init : ByteArray := prog_1_method_1_code
def yX11_init : MethodName := ⟨RX11, "<init>", "()V"⟩
abbrev cX11_girl : ByteArray := prog_1_method_2_code
def yX11_girl : MethodName := ⟨RX11, "girl", "(I)I"⟩
abbrev cX11_frog : ByteArray := prog_1_method_3_code
def yX11_frog : MethodName := ⟨RX11, "frog", "(II)I"⟩
abbrev cX11_frogs : ByteArray := prog_1_method_4_code
def yX11_frogs : MethodName := ⟨RX11, "frogs", "(III)I"⟩
abbrev cX11_frogFromFour : ByteArray := prog_1_method_5_code
def yX11_frogFromFour : MethodName := ⟨RX11, "frogFromFour", "(LFrogBreath$Shelf;I)Z"⟩
abbrev cX11_mend : ByteArray := prog_1_method_6_code
def yX11_mend : MethodName := ⟨RX11, "mend", "(III)I"⟩
abbrev cX11_mayBe : ByteArray := prog_1_method_7_code
def yX11_mayBe : MethodName := ⟨RX11, "mayBe", "(II)Z"⟩
abbrev cX11_of : ByteArray := prog_1_method_8_code
def yX11_of : MethodName := ⟨RX11, "of", "(II)I"⟩
abbrev cX11_feed : ByteArray := prog_1_method_9_code
def yX11_feed : MethodName := ⟨RX11, "feed", "(I)I"⟩
abbrev cX11_law : ByteArray := prog_1_method_10_code
def yX11_law : MethodName := ⟨RX11, "law", "()I"⟩
abbrev cX11_loses : ByteArray := prog_1_method_11_code
def yX11_loses : MethodName := ⟨RX11, "loses", "(I)I"⟩
abbrev cX11_later : ByteArray := prog_1_method_12_code
def yX11_later : MethodName := ⟨RX11, "later", "(III)I"⟩
abbrev cX11_thinkOn : ByteArray := prog_1_method_13_code
def yX11_thinkOn : MethodName := ⟨RX11, "thinkOn", "(I)V"⟩
abbrev cX11_marsh : ByteArray := prog_1_method_14_code
def yX11_marsh : MethodName := ⟨RX11, "marsh", "(II)I"⟩
abbrev cX11_backWhen : ByteArray := prog_1_method_15_code
def yX11_backWhen : MethodName := ⟨RX11, "backWhen", "(I)I"⟩
abbrev cX11_loan : ByteArray := prog_1_method_16_code
def yX11_loan : MethodName := ⟨RX11, "loan", "(III)I"⟩
abbrev cX11_thinkLoan : ByteArray := prog_1_method_17_code
def yX11_thinkLoan : MethodName := ⟨RX11, "thinkLoan", "(III)V"⟩
abbrev cX11_givenBack : ByteArray := prog_1_method_18_code
def yX11_givenBack : MethodName := ⟨RX11, "givenBack", "(I)I"⟩
abbrev cX11_hoursTillBack : ByteArray := prog_1_method_19_code
def yX11_hoursTillBack : MethodName := ⟨RX11, "hoursTillBack", "(I)I"⟩
abbrev cX11_best : ByteArray := prog_1_method_20_code
def yX11_best : MethodName := ⟨RX11, "best", "(III)I"⟩
abbrev cX11_dealt : ByteArray := prog_1_method_21_code
def yX11_dealt : MethodName := ⟨RX11, "dealt", "(II)I"⟩
abbrev cX11_thinkGains : ByteArray := prog_1_method_22_code
def yX11_thinkGains : MethodName := ⟨RX11, "thinkGains", "(I)V"⟩
abbrev cX11_thinkMostBack : ByteArray := prog_1_method_23_code
def yX11_thinkMostBack : MethodName := ⟨RX11, "thinkMostBack", "()V"⟩
abbrev cX11_backByLending : ByteArray := prog_1_method_24_code
def yX11_backByLending : MethodName := ⟨RX11, "backByLending", "(III)I"⟩
abbrev cX11_frogDealtTo : ByteArray := prog_1_method_25_code
def yX11_frogDealtTo : MethodName := ⟨RX11, "frogDealtTo", "(I)I"⟩
abbrev cX11_firstBestFrog : ByteArray := prog_1_method_26_code
def yX11_firstBestFrog : MethodName := ⟨RX11, "firstBestFrog", "(II)I"⟩
abbrev cX11_least : ByteArray := prog_1_method_27_code
def yX11_least : MethodName := ⟨RX11, "least", "(II)I"⟩
abbrev cX11_heldBehind : ByteArray := prog_1_method_28_code
def yX11_heldBehind : MethodName := ⟨RX11, "heldBehind", "(II)I"⟩
abbrev cX11_bars : ByteArray := prog_1_method_29_code
def yX11_bars : MethodName := ⟨RX11, "bars", "(II)I"⟩
abbrev cX11_nextTogether : ByteArray := prog_1_method_30_code
def yX11_nextTogether : MethodName := ⟨RX11, "nextTogether", "(I)I"⟩
abbrev cX11_beginningAt : ByteArray := prog_1_method_31_code
def yX11_beginningAt : MethodName := ⟨RX11, "beginningAt", "(II)I"⟩
abbrev cX11_stops : ByteArray := prog_1_method_32_code
def yX11_stops : MethodName := ⟨RX11, "stops", "(II)I"⟩
abbrev cX11_allHeardFrom : ByteArray := prog_1_method_33_code
def yX11_allHeardFrom : MethodName := ⟨RX11, "allHeardFrom", "(II)Z"⟩
abbrev cX11_isHeardFrom : ByteArray := prog_1_method_34_code
def yX11_isHeardFrom : MethodName := ⟨RX11, "isHeardFrom", "(III)Z"⟩
abbrev cX11_judge : ByteArray := prog_1_method_35_code
def yX11_judge : MethodName := ⟨RX11, "judge", "(II)I"⟩
abbrev cX11_bookRefusal : ByteArray := prog_1_method_36_code
def yX11_bookRefusal : MethodName := ⟨RX11, "bookRefusal", "(LFrogBreath$Shelf;)I"⟩
abbrev cX11_firstNotSo : ByteArray := prog_1_method_37_code
def yX11_firstNotSo : MethodName := ⟨RX11, "firstNotSo", "(LFrogBreath$Shelf;I)I"⟩
abbrev cX11_fits : ByteArray := prog_1_method_38_code
def yX11_fits : MethodName := ⟨RX11, "fits", "(III)I"⟩
abbrev cX11_keptBy : ByteArray := prog_1_method_39_code
def yX11_keptBy : MethodName := ⟨RX11, "keptBy", "(LFrogBreath$Shelf;I)I"⟩
abbrev cX11_whose : ByteArray := prog_1_method_40_code
def yX11_whose : MethodName := ⟨RX11, "whose", "(LFrogBreath$Shelf;I)I"⟩
abbrev cX11_alike : ByteArray := prog_1_method_41_code
def yX11_alike : MethodName := ⟨RX11, "alike", "()I"⟩
abbrev cX11_holdAsMuch : ByteArray := prog_1_method_42_code
def yX11_holdAsMuch : MethodName := ⟨RX11, "holdAsMuch", "(II)Z"⟩
abbrev cX11_ring : ByteArray := prog_1_method_43_code
def yX11_ring : MethodName := ⟨RX11, "ring", "(I)I"⟩
abbrev cX11_byTurns : ByteArray := prog_1_method_44_code
def yX11_byTurns : MethodName := ⟨RX11, "byTurns", "(III)I"⟩
abbrev cX11_lessTwo : ByteArray := prog_1_method_45_code
def yX11_lessTwo : MethodName := ⟨RX11, "lessTwo", "(I)I"⟩
abbrev cX11_turn : ByteArray := prog_1_method_46_code
def yX11_turn : MethodName := ⟨RX11, "turn", "(IIZII)I"⟩
abbrev cX11_backBy : ByteArray := prog_1_method_47_code
def yX11_backBy : MethodName := ⟨RX11, "backBy", "(III)I"⟩
abbrev cX11_drawn : ByteArray := prog_1_method_48_code
def yX11_drawn : MethodName := ⟨RX11, "drawn", "(III)I"⟩
abbrev cX11_hour : ByteArray := prog_1_method_49_code
def yX11_hour : MethodName := ⟨RX11, "hour", "()I"⟩
abbrev cX11_lends : ByteArray := prog_1_method_50_code
def yX11_lends : MethodName := ⟨RX11, "lends", "(II)I"⟩
abbrev cX11_over : ByteArray := prog_1_method_51_code
def yX11_over : MethodName := ⟨RX11, "over", "(I)I"⟩
abbrev cX11_led : ByteArray := prog_1_method_52_code
def yX11_led : MethodName := ⟨RX11, "led", "(I)I"⟩
abbrev cX11_image : ByteArray := prog_1_method_53_code
def yX11_image : MethodName := ⟨RX11, "image", "()I"⟩
abbrev cX11_back : ByteArray := prog_1_method_54_code
def yX11_back : MethodName := ⟨RX11, "back", "()I"⟩
abbrev cX11_noteChange : ByteArray := prog_1_method_55_code
def yX11_noteChange : MethodName := ⟨RX11, "noteChange", "(IIII)V"⟩
abbrev cX11_forgetOldestChange : ByteArray := prog_1_method_56_code
def yX11_forgetOldestChange : MethodName := ⟨RX11, "forgetOldestChange", "()V"⟩
abbrev cX11_undo : ByteArray := prog_1_method_57_code
def yX11_undo : MethodName := ⟨RX11, "undo", "()I"⟩
abbrev cX11_redo : ByteArray := prog_1_method_58_code
def yX11_redo : MethodName := ⟨RX11, "redo", "()I"⟩
abbrev cX11_body : ByteArray := prog_1_method_59_code
def yX11_body : MethodName := ⟨RX11, "body", "(I)I"⟩
abbrev cX11_reedOf : ByteArray := prog_1_method_60_code
def yX11_reedOf : MethodName := ⟨RX11, "reedOf", "(II)LFrogBreath$Reed;"⟩
abbrev cX11_act : ByteArray := prog_1_method_61_code
def yX11_act : MethodName := ⟨RX11, "act", "(III)I"⟩
abbrev cX11_trace : ByteArray := prog_1_method_62_code
def yX11_trace : MethodName := ⟨RX11, "trace", "(I)I"⟩
abbrev cX11_keep : ByteArray := prog_1_method_63_code
def yX11_keep : MethodName := ⟨RX11, "keep", "(II)I"⟩
abbrev cX11_row : ByteArray := prog_1_method_64_code
def yX11_row : MethodName := ⟨RX11, "row", "(III)I"⟩
abbrev cX11_put : ByteArray := prog_1_method_65_code
def yX11_put : MethodName := ⟨RX11, "put", "(IIJ)I"⟩
abbrev cX11_element : ByteArray := prog_1_method_66_code
def yX11_element : MethodName := ⟨RX11, "element", "(II)J"⟩
abbrev cX11_elementRefusal : ByteArray := prog_1_method_67_code
def yX11_elementRefusal : MethodName := ⟨RX11, "elementRefusal", "(II)I"⟩
abbrev cX11_shift : ByteArray := prog_1_method_68_code
def yX11_shift : MethodName := ⟨RX11, "shift", "(IIIII)I"⟩
abbrev cX11_taken : ByteArray := prog_1_method_69_code
def yX11_taken : MethodName := ⟨RX11, "taken", "(II)I"⟩
abbrev cX11_isOfKind : ByteArray := prog_1_method_70_code
def yX11_isOfKind : MethodName := ⟨RX11, "isOfKind", "(LFrogBreath$Reed;I)Z"⟩
abbrev cX11_count : ByteArray := prog_1_method_71_code
def yX11_count : MethodName := ⟨RX11, "count", "(I)I"⟩
abbrev cX11_within : ByteArray := prog_1_method_72_code
def yX11_within : MethodName := ⟨RX11, "within", "(III)Z"⟩
abbrev cX11_isShelf : ByteArray := prog_1_method_73_code
def yX11_isShelf : MethodName := ⟨RX11, "isShelf", "(I)Z"⟩
abbrev cX11_isPair : ByteArray := prog_1_method_74_code
def yX11_isPair : MethodName := ⟨RX11, "isPair", "(I)Z"⟩
def RX12 : String := "FrogBreathModel"
def TX12 : u_T := fun k => match k with
  | 0 => ("FrogBreathModel", "girls", "I", false)
  | 1 => ("FrogBreathModel", "frogs", "I", false)
  | 2 => ("FrogBreathModel", "ways", "[I", true)
  | 3 => ("FrogBreathModel", "other", "[I", true)
  | 4 => ("FrogBreathModel", "taped", "I", false)
  | 5 => ("FrogBreathModel", "tape", "[I", true)
  | 6 => ("FrogBreathModel", "isTold", "Z", false)
  | 7 => ("FrogBreathModel", "lines", "I", false)
  | 8 => ("FrogBreathModel", "asks", "[I", true)
  | 9 => ("FrogBreathModel", "says", "[I", true)
  | 10 => ("FrogBreathModel", "ends", "[I", true)
  | 11 => ("FrogBreathModel", "code", "[I", true)
  | 12 => ("FrogBreathModel", "at", "I", false)
  | 13 => ("FrogBreathModel", "open", "I", false)
  | 14 => ("FrogBreathModel", "coded", "I", false)
  | 15 => ("FrogBreathModel", "newLines", "I", false)
  | 16 => ("FrogBreathModel", "newAsks", "[I", true)
  | 17 => ("FrogBreathModel", "newSays", "[I", true)
  | 18 => ("FrogBreathModel", "newEnds", "[I", true)
  | 19 => ("FrogBreathModel", "newCode", "[I", true)
  | 20 => ("FrogBreathModel", "stack", "[I", true)
  | 21 => ("FrogBreathModel", "names", "[I", true)
  | 22 => ("FrogBreathModel", "led", "[I", true)
  | 23 => ("FrogBreathModel", "imaged", "Z", false)
  | 24 => ("FrogBreathModel", "oldGirls", "I", false)
  | 25 => ("FrogBreathModel", "oldFrogs", "I", false)
  | 26 => ("FrogBreathModel", "old", "[I", true)
  | 27 => ("FrogBreathModel", "oldLed", "[I", true)
  | 28 => ("FrogBreathModel", "changes", "I", false)
  | 29 => ("FrogBreathModel", "done", "I", false)
  | 30 => ("FrogBreathModel", "changed", "[I", true)
  | 31 => ("FrogBreathModel", "bodies", "I", false)
  | 32 => ("FrogBreathModel", "bodyKind", "[I", true)
  | 33 => ("FrogBreathModel", "traced", "I", false)
  | 34 => ("FrogBreathModel", "traces", "[I", true)
  | 35 => ("FrogBreathModel", "holding", "[I", true)
  | 36 => ("FrogBreathModel", "rowLength", "[I", true)
  | 37 => ("FrogBreathModel", "rowOf", "[J", true)
  | 38 => ("FrogBreathModel", "lost", "I", false)
  | 39 => ("FrogBreathModel", "cameBack", "I", false)
  | 40 => ("FrogBreathModel", "was", "[I", true)
  | 41 => ("FrogBreathModel", "begun", "[I", true)
  | 42 => ("FrogBreathModel", "came", "[I", true)
  | 43 => ("FrogBreathModel", "worth", "[I", true)
  | 44 => ("FrogBreathModel", "tried", "[I", true)
  | 45 => ("FrogBreathModel", "dealt", "[I", true)
  | 46 => ("FrogBreathModel", "most", "I", false)
  | _ => ("FrogBreathModel", "holds", "[I", true)
def tyX12 : Nat → FieldType := fun k => match k with
  | 0 => .int
  | 1 => .int
  | 2 => .array .int
  | 3 => .array .int
  | 4 => .int
  | 5 => .array .int
  | 6 => .boolean
  | 7 => .int
  | 8 => .array .int
  | 9 => .array .int
  | 10 => .array .int
  | 11 => .array .int
  | 12 => .int
  | 13 => .int
  | 14 => .int
  | 15 => .int
  | 16 => .array .int
  | 17 => .array .int
  | 18 => .array .int
  | 19 => .array .int
  | 20 => .array .int
  | 21 => .array .int
  | 22 => .array .int
  | 23 => .boolean
  | 24 => .int
  | 25 => .int
  | 26 => .array .int
  | 27 => .array .int
  | 28 => .int
  | 29 => .int
  | 30 => .array .int
  | 31 => .int
  | 32 => .array .int
  | 33 => .int
  | 34 => .array .int
  | 35 => .array .int
  | 36 => .array .int
  | 37 => .array .long
  | 38 => .int
  | 39 => .int
  | 40 => .array .int
  | 41 => .array .int
  | 42 => .array .int
  | 43 => .array .int
  | 44 => .array .int
  | 45 => .array .int
  | 46 => .int
  | _ => .array .int
abbrev wsX120 : List Cond := u_ws RX12 TX12 48
theorem nmX12 : ∀ a, a < 48 → ∀ b, b < 48 → a ≠ b → (TX12 a).2.1 ≠ (TX12 b).2.1 := by decide +kernel
theorem tyX12_ok : ∀ k, k < 48 → parseFieldDescriptor (TX12 k).2.2.1 = some (tyX12 k) := by decide +kernel
abbrev cX12_init : ByteArray := prog_14_method_1_code
def yX12_init : MethodName := ⟨RX12, "<init>", "()V"⟩
abbrev cX12_within : ByteArray := prog_14_method_2_code
def yX12_within : MethodName := ⟨RX12, "within", "(III)Z"⟩
abbrev cX12_isGirl : ByteArray := prog_14_method_3_code
def yX12_isGirl : MethodName := ⟨RX12, "isGirl", "(I)Z"⟩
abbrev cX12_isFrog : ByteArray := prog_14_method_4_code
def yX12_isFrog : MethodName := ⟨RX12, "isFrog", "(I)Z"⟩
abbrev cX12_isPlace : ByteArray := prog_14_method_5_code
def yX12_isPlace : MethodName := ⟨RX12, "isPlace", "(I)Z"⟩
abbrev cX12_isShelf : ByteArray := prog_14_method_6_code
def yX12_isShelf : MethodName := ⟨RX12, "isShelf", "(I)Z"⟩
abbrev cX12_girl : ByteArray := prog_14_method_7_code
def yX12_girl : MethodName := ⟨RX12, "girl", "(I)I"⟩
abbrev cX12_newFrog : ByteArray := prog_14_method_8_code
def yX12_newFrog : MethodName := ⟨RX12, "newFrog", "(IIII)I"⟩
abbrev cX12_frog : ByteArray := prog_14_method_9_code
def yX12_frog : MethodName := ⟨RX12, "frog", "(II)I"⟩
abbrev cX12_mayOwe : ByteArray := prog_14_method_10_code
def yX12_mayOwe : MethodName := ⟨RX12, "mayOwe", "(I)Z"⟩
abbrev cX12_frogs : ByteArray := prog_14_method_11_code
def yX12_frogs : MethodName := ⟨RX12, "frogs", "(III)I"⟩
abbrev cX12_toldAt : ByteArray := prog_14_method_12_code
def yX12_toldAt : MethodName := ⟨RX12, "toldAt", "(II)I"⟩
abbrev cX12_isOf : ByteArray := prog_14_method_13_code
def yX12_isOf : MethodName := ⟨RX12, "isOf", "(II)Z"⟩
abbrev cX12_isFit : ByteArray := prog_14_method_14_code
def yX12_isFit : MethodName := ⟨RX12, "isFit", "(II)Z"⟩
abbrev cX12_get : ByteArray := prog_14_method_15_code
def yX12_get : MethodName := ⟨RX12, "get", "(II)I"⟩
abbrev cX12_becomes : ByteArray := prog_14_method_16_code
def yX12_becomes : MethodName := ⟨RX12, "becomes", "(III)V"⟩
abbrev cX12_mend : ByteArray := prog_14_method_17_code
def yX12_mend : MethodName := ⟨RX12, "mend", "(III)I"⟩
abbrev cX12_of : ByteArray := prog_14_method_18_code
def yX12_of : MethodName := ⟨RX12, "of", "(II)I"⟩
abbrev cX12_undo : ByteArray := prog_14_method_19_code
def yX12_undo : MethodName := ⟨RX12, "undo", "()I"⟩
abbrev cX12_redo : ByteArray := prog_14_method_20_code
def yX12_redo : MethodName := ⟨RX12, "redo", "()I"⟩
abbrev cX12_feed : ByteArray := prog_14_method_21_code
def yX12_feed : MethodName := ⟨RX12, "feed", "(I)I"⟩
abbrev cX12_sign : ByteArray := prog_14_method_22_code
def yX12_sign : MethodName := ⟨RX12, "sign", "()I"⟩
abbrev cX12_is : ByteArray := prog_14_method_23_code
def yX12_is : MethodName := ⟨RX12, "is", "(I)Z"⟩
abbrev cX12_codes : ByteArray := prog_14_method_24_code
def yX12_codes : MethodName := ⟨RX12, "codes", "(I)Z"⟩
abbrev cX12_isDigit : ByteArray := prog_14_method_25_code
def yX12_isDigit : MethodName := ⟨RX12, "isDigit", "()Z"⟩
abbrev cX12_nameOf : ByteArray := prog_14_method_26_code
def yX12_nameOf : MethodName := ⟨RX12, "nameOf", "(I)I"⟩
abbrev cX12_isO : ByteArray := prog_14_method_27_code
def yX12_isO : MethodName := ⟨RX12, "isO", "()Z"⟩
abbrev cX12_isP : ByteArray := prog_14_method_28_code
def yX12_isP : MethodName := ⟨RX12, "isP", "()Z"⟩
abbrev cX12_isS : ByteArray := prog_14_method_29_code
def yX12_isS : MethodName := ⟨RX12, "isS", "()Z"⟩
abbrev cX12_isB : ByteArray := prog_14_method_30_code
def yX12_isB : MethodName := ⟨RX12, "isB", "()Z"⟩
abbrev cX12_isA : ByteArray := prog_14_method_31_code
def yX12_isA : MethodName := ⟨RX12, "isA", "()Z"⟩
abbrev cX12_isE : ByteArray := prog_14_method_32_code
def yX12_isE : MethodName := ⟨RX12, "isE", "()Z"⟩
abbrev cX12_isLine : ByteArray := prog_14_method_33_code
def yX12_isLine : MethodName := ⟨RX12, "isLine", "()Z"⟩
abbrev cX12_law : ByteArray := prog_14_method_34_code
def yX12_law : MethodName := ⟨RX12, "law", "()I"⟩
abbrev cX12_both : ByteArray := prog_14_method_35_code
def yX12_both : MethodName := ⟨RX12, "both", "(III)I"⟩
abbrev cX12_worked : ByteArray := prog_14_method_36_code
def yX12_worked : MethodName := ⟨RX12, "worked", "(II)I"⟩
abbrev cX12_apart : ByteArray := prog_14_method_37_code
def yX12_apart : MethodName := ⟨RX12, "apart", "(II)I"⟩
abbrev cX12_owes : ByteArray := prog_14_method_38_code
def yX12_owes : MethodName := ⟨RX12, "owes", "(I)I"⟩
abbrev cX12_held : ByteArray := prog_14_method_39_code
def yX12_held : MethodName := ⟨RX12, "held", "(I)I"⟩
abbrev cX12_byLaw : ByteArray := prog_14_method_40_code
def yX12_byLaw : MethodName := ⟨RX12, "byLaw", "(I)I"⟩
abbrev cX12_losesBy : ByteArray := prog_14_method_41_code
def yX12_losesBy : MethodName := ⟨RX12, "losesBy", "(I)I"⟩
abbrev cX12_loses : ByteArray := prog_14_method_42_code
def yX12_loses : MethodName := ⟨RX12, "loses", "(I)I"⟩
abbrev cX12_nearer : ByteArray := prog_14_method_43_code
def yX12_nearer : MethodName := ⟨RX12, "nearer", "(II)I"⟩
abbrev cX12_goes : ByteArray := prog_14_method_44_code
def yX12_goes : MethodName := ⟨RX12, "goes", "(I)V"⟩
abbrev cX12_passes : ByteArray := prog_14_method_45_code
def yX12_passes : MethodName := ⟨RX12, "passes", "()V"⟩
abbrev cX12_goesOn : ByteArray := prog_14_method_46_code
def yX12_goesOn : MethodName := ⟨RX12, "goesOn", "(I)V"⟩
abbrev cX12_keeps : ByteArray := prog_14_method_47_code
def yX12_keeps : MethodName := ⟨RX12, "keeps", "([I)V"⟩
abbrev cX12_laysBack : ByteArray := prog_14_method_48_code
def yX12_laysBack : MethodName := ⟨RX12, "laysBack", "([III)V"⟩
abbrev cX12_laysBack_ : ByteArray := prog_14_method_49_code
def yX12_laysBack_ : MethodName := ⟨RX12, "laysBack", "()V"⟩
abbrev cX12_owing : ByteArray := prog_14_method_50_code
def yX12_owing : MethodName := ⟨RX12, "owing", "()I"⟩
abbrev cX12_allHeld : ByteArray := prog_14_method_51_code
def yX12_allHeld : MethodName := ⟨RX12, "allHeld", "()I"⟩
abbrev cX12_later : ByteArray := prog_14_method_52_code
def yX12_later : MethodName := ⟨RX12, "later", "(III)I"⟩
abbrev cX12_marsh : ByteArray := prog_14_method_53_code
def yX12_marsh : MethodName := ⟨RX12, "marsh", "(II)I"⟩
abbrev cX12_backWhen : ByteArray := prog_14_method_54_code
def yX12_backWhen : MethodName := ⟨RX12, "backWhen", "(I)I"⟩
abbrev cX12_gives : ByteArray := prog_14_method_55_code
def yX12_gives : MethodName := ⟨RX12, "gives", "(I)V"⟩
abbrev cX12_lent : ByteArray := prog_14_method_56_code
def yX12_lent : MethodName := ⟨RX12, "lent", "(III)V"⟩
abbrev cX12_isPair : ByteArray := prog_14_method_57_code
def yX12_isPair : MethodName := ⟨RX12, "isPair", "(I)Z"⟩
abbrev cX12_loan : ByteArray := prog_14_method_58_code
def yX12_loan : MethodName := ⟨RX12, "loan", "(III)I"⟩
abbrev cX12_best : ByteArray := prog_14_method_59_code
def yX12_best : MethodName := ⟨RX12, "best", "(III)I"⟩
abbrev cX12_deals : ByteArray := prog_14_method_60_code
def yX12_deals : MethodName := ⟨RX12, "deals", "(III)V"⟩
abbrev cX12_dealt : ByteArray := prog_14_method_61_code
def yX12_dealt : MethodName := ⟨RX12, "dealt", "(II)I"⟩
abbrev cX12_heldBehind : ByteArray := prog_14_method_62_code
def yX12_heldBehind : MethodName := ⟨RX12, "heldBehind", "(III)I"⟩
abbrev cX12_least : ByteArray := prog_14_method_63_code
def yX12_least : MethodName := ⟨RX12, "least", "(II)I"⟩
abbrev cX12_common : ByteArray := prog_14_method_64_code
def yX12_common : MethodName := ⟨RX12, "common", "(II)I"⟩
abbrev cX12_bars : ByteArray := prog_14_method_65_code
def yX12_bars : MethodName := ⟨RX12, "bars", "(II)I"⟩
abbrev cX12_areNear : ByteArray := prog_14_method_66_code
def yX12_areNear : MethodName := ⟨RX12, "areNear", "(II)Z"⟩
abbrev cX12_stops : ByteArray := prog_14_method_67_code
def yX12_stops : MethodName := ⟨RX12, "stops", "(II)I"⟩
abbrev cX12_noBytes : ByteArray := prog_14_method_68_code
def yX12_noBytes : MethodName := ⟨RX12, "noBytes", "(I)I"⟩
abbrev cX12_unlike : ByteArray := prog_14_method_69_code
def yX12_unlike : MethodName := ⟨RX12, "unlike", "(II)I"⟩
abbrev cX12_judge : ByteArray := prog_14_method_70_code
def yX12_judge : MethodName := ⟨RX12, "judge", "(II)I"⟩
abbrev cX12_fits : ByteArray := prog_14_method_71_code
def yX12_fits : MethodName := ⟨RX12, "fits", "(III)I"⟩
abbrev cX12_alike : ByteArray := prog_14_method_72_code
def yX12_alike : MethodName := ⟨RX12, "alike", "()I"⟩
abbrev cX12_nearest : ByteArray := prog_14_method_73_code
def yX12_nearest : MethodName := ⟨RX12, "nearest", "(I)I"⟩
abbrev cX12_ring : ByteArray := prog_14_method_74_code
def yX12_ring : MethodName := ⟨RX12, "ring", "(I)I"⟩
abbrev cX12_turnFrom : ByteArray := prog_14_method_75_code
def yX12_turnFrom : MethodName := ⟨RX12, "turnFrom", "(III)I"⟩
abbrev cX12_turnBy : ByteArray := prog_14_method_76_code
def yX12_turnBy : MethodName := ⟨RX12, "turnBy", "(III)I"⟩
abbrev cX12_byTurns : ByteArray := prog_14_method_77_code
def yX12_byTurns : MethodName := ⟨RX12, "byTurns", "(III)I"⟩
abbrev cX12_drawn : ByteArray := prog_14_method_78_code
def yX12_drawn : MethodName := ⟨RX12, "drawn", "(III)I"⟩
abbrev cX12_hour : ByteArray := prog_14_method_79_code
def yX12_hour : MethodName := ⟨RX12, "hour", "()I"⟩
abbrev cX12_lends : ByteArray := prog_14_method_80_code
def yX12_lends : MethodName := ⟨RX12, "lends", "(II)I"⟩
abbrev cX12_over : ByteArray := prog_14_method_81_code
def yX12_over : MethodName := ⟨RX12, "over", "(I)I"⟩
abbrev cX12_led : ByteArray := prog_14_method_82_code
def yX12_led : MethodName := ⟨RX12, "led", "(I)I"⟩
abbrev cX12_image : ByteArray := prog_14_method_83_code
def yX12_image : MethodName := ⟨RX12, "image", "()I"⟩
abbrev cX12_back : ByteArray := prog_14_method_84_code
def yX12_back : MethodName := ⟨RX12, "back", "()I"⟩
abbrev cX12_above : ByteArray := prog_14_method_85_code
def yX12_above : MethodName := ⟨RX12, "above", "(I)I"⟩
abbrev cX12_ran : ByteArray := prog_14_method_86_code
def yX12_ran : MethodName := ⟨RX12, "ran", "(I)V"⟩
abbrev cX12_lendsBy : ByteArray := prog_14_method_87_code
def yX12_lendsBy : MethodName := ⟨RX12, "lendsBy", "(III)I"⟩
abbrev cX12_singsBy : ByteArray := prog_14_method_88_code
def yX12_singsBy : MethodName := ⟨RX12, "singsBy", "(III)I"⟩
abbrev cX12_keepsBy : ByteArray := prog_14_method_89_code
def yX12_keepsBy : MethodName := ⟨RX12, "keepsBy", "(III)I"⟩
abbrev cX12_tells : ByteArray := prog_14_method_90_code
def yX12_tells : MethodName := ⟨RX12, "tells", "(III)I"⟩
abbrev cX12_body : ByteArray := prog_14_method_91_code
def yX12_body : MethodName := ⟨RX12, "body", "(I)I"⟩
abbrev cX12_act : ByteArray := prog_14_method_92_code
def yX12_act : MethodName := ⟨RX12, "act", "(III)I"⟩
abbrev cX12_trace : ByteArray := prog_14_method_93_code
def yX12_trace : MethodName := ⟨RX12, "trace", "(I)I"⟩
abbrev cX12_keep : ByteArray := prog_14_method_94_code
def yX12_keep : MethodName := ⟨RX12, "keep", "(II)I"⟩
abbrev cX12_row : ByteArray := prog_14_method_95_code
def yX12_row : MethodName := ⟨RX12, "row", "(III)I"⟩
abbrev cX12_isRow : ByteArray := prog_14_method_96_code
def yX12_isRow : MethodName := ⟨RX12, "isRow", "(I)Z"⟩
abbrev cX12_kept : ByteArray := prog_14_method_97_code
def yX12_kept : MethodName := ⟨RX12, "kept", "(IJ)J"⟩
abbrev cX12_put : ByteArray := prog_14_method_98_code
def yX12_put : MethodName := ⟨RX12, "put", "(IIJ)I"⟩
abbrev cX12_element : ByteArray := prog_14_method_99_code
def yX12_element : MethodName := ⟨RX12, "element", "(II)J"⟩
abbrev cX12_shift : ByteArray := prog_14_method_100_code
def yX12_shift : MethodName := ⟨RX12, "shift", "(IIIII)I"⟩
abbrev cX12_taken : ByteArray := prog_14_method_101_code
def yX12_taken : MethodName := ⟨RX12, "taken", "(II)I"⟩
abbrev cX12_count : ByteArray := prog_14_method_102_code
def yX12_count : MethodName := ⟨RX12, "count", "(I)I"⟩
def RJ6 : String := "java/lang/Integer"
def TJ6 : u_T := fun k => match k with
  | _ => ("", "", "", false)
def tyJ6 : Nat → FieldType := fun k => match k with
  | _ => .int
abbrev wsJ60 : List Cond := u_ws RJ6 TJ6 0
theorem nmJ6 : ∀ a, a < 0 → ∀ b, b < 0 → a ≠ b → (TJ6 a).2.1 ≠ (TJ6 b).2.1 := by decide +kernel
theorem tyJ6_ok : ∀ k, k < 0 → parseFieldDescriptor (TJ6 k).2.2.1 = some (tyJ6 k) := by decide +kernel
abbrev cJ6_compare_7cf53 : ByteArray := prog_15_method_40_code
def yJ6_compare_7cf53 : MethodName := ⟨RJ6, "compare", "(II)I"⟩
abbrev cJ6_bitCount_0f7a4 : ByteArray := prog_15_method_49_code
def yJ6_bitCount_0f7a4 : MethodName := ⟨RJ6, "bitCount", "(I)I"⟩
def RJ9 : String := "java/lang/Math"
def TJ9 : u_T := fun k => match k with
  | _ => ("", "", "", false)
def tyJ9 : Nat → FieldType := fun k => match k with
  | _ => .int
abbrev wsJ90 : List Cond := u_ws RJ9 TJ9 0
theorem nmJ9 : ∀ a, a < 0 → ∀ b, b < 0 → a ≠ b → (TJ9 a).2.1 ≠ (TJ9 b).2.1 := by decide +kernel
theorem tyJ9_ok : ∀ k, k < 0 → parseFieldDescriptor (TJ9 k).2.2.1 = some (tyJ9 k) := by decide +kernel
abbrev cJ9_abs_0f7a4 : ByteArray := prog_16_method_59_code
def yJ9_abs_0f7a4 : MethodName := ⟨RJ9, "abs", "(I)I"⟩
abbrev cJ9_max_7cf53 : ByteArray := prog_16_method_65_code
def yJ9_max_7cf53 : MethodName := ⟨RJ9, "max", "(II)I"⟩
abbrev cJ9_min_7cf53 : ByteArray := prog_16_method_69_code
def yJ9_min_7cf53 : MethodName := ⟨RJ9, "min", "(II)I"⟩
def RJ10 : String := "java/lang/System"
def TJ10 : u_T := fun k => match k with
  | _ => ("", "", "", false)
def tyJ10 : Nat → FieldType := fun k => match k with
  | _ => .int
abbrev wsJ100 : List Cond := u_ws RJ10 TJ10 0
theorem nmJ10 : ∀ a, a < 0 → ∀ b, b < 0 → a ≠ b → (TJ10 a).2.1 ≠ (TJ10 b).2.1 := by decide +kernel
theorem tyJ10_ok : ∀ k, k < 0 → parseFieldDescriptor (TJ10 k).2.2.1 = some (tyJ10 k) := by decide +kernel
def RJ7 : String := "java/util/Arrays"
def TJ7 : u_T := fun k => match k with
  | _ => ("", "", "", false)
def tyJ7 : Nat → FieldType := fun k => match k with
  | _ => .int
abbrev wsJ70 : List Cond := u_ws RJ7 TJ7 0
theorem nmJ7 : ∀ a, a < 0 → ∀ b, b < 0 → a ≠ b → (TJ7 a).2.1 ≠ (TJ7 b).2.1 := by decide +kernel
theorem tyJ7_ok : ∀ k, k < 0 → parseFieldDescriptor (TJ7 k).2.2.1 = some (tyJ7 k) := by decide +kernel
abbrev cJ7_fill_d0a16 : ByteArray := prog_18_method_101_code
def yJ7_fill_d0a16 : MethodName := ⟨RJ7, "fill", "([JJ)V"⟩
abbrev cJ7_fill_53178 : ByteArray := prog_18_method_103_code
def yJ7_fill_53178 : MethodName := ⟨RJ7, "fill", "([II)V"⟩
def RL : String := "FrogBreathLaw"
abbrev cL_law : ByteArray := code
def yL_law : MethodName := ⟨RL, "law", "([I)Z"⟩
def wsL_law_r1 : List Cond := [Cond.classLink RL 7 RX11, Cond.instantiable RX11 17, Cond.initialized RX11, Cond.classLink RL 10 RX12, Cond.instantiable RX12 48, Cond.initialized RX12, Cond.constantLong RL 161 (4294967295), Cond.methodLink RL 9 yX11_init, Cond.instanceMethod yX11_init, Cond.code yX11_init cX11_init 2 none, Cond.methodLink RX11 1 objectInit, Cond.instanceMethod objectInit, Cond.code objectInit ⟨#[0xb1]⟩ 1 none, Cond.classLink RX11 7 RX4, Cond.instantiable RX4 11, Cond.initialized RX4, Cond.fieldLink RX11 10 "FrogBreath" "now" "LFrogBreath$Marsh;", Cond.fieldLink RX11 16 "FrogBreath" "thought" "LFrogBreath$Marsh;", Cond.fieldLink RX11 19 "FrogBreath" "kept" "LFrogBreath$Marsh;", Cond.classLink RX11 22 RX3, Cond.instantiable RX3 9, Cond.initialized RX3, Cond.fieldLink RX11 25 "FrogBreath" "law" "LFrogBreath$Law;", Cond.fieldLink RX11 29 "FrogBreath" "draft" "LFrogBreath$Law;"]
def wsL_law_r2 : List Cond := [Cond.arrayClass .int, Cond.fieldLink RX11 32 "FrogBreath" "tape" "[I", Cond.classLink RX11 36 "[[I", Cond.fieldLink RX11 38 "FrogBreath" "changes" "[[I", Cond.fieldLink RX11 41 "FrogBreath" "gains" "[[I", Cond.fieldLink RX11 44 "FrogBreath" "mostBack" "[[I", Cond.classLink RX11 47 RX8, Cond.fieldLink RX11 49 "FrogBreath" "bodies" "[LFrogBreath$Reed;", Cond.fieldLink RX11 53 "FrogBreath" "ran" "[I", Cond.classLink RX11 56 RX9, Cond.fieldLink RX11 58 "FrogBreath" "shelves" "[LFrogBreath$Shelf;", Cond.instantiable RX9 4, Cond.initialized RX9, Cond.instanceMethod yX4_init, Cond.code yX4_init cX4_init 1 none, Cond.methodLink RX4 3 objectInit, Cond.fieldLink RX4 9 "FrogBreath$Marsh" "girlPlace" "[I", Cond.fieldLink RX4 15 "FrogBreath$Marsh" "breath" "[I", Cond.fieldLink RX4 18 "FrogBreath$Marsh" "frogPlace" "[I", Cond.fieldLink RX4 21 "FrogBreath$Marsh" "keeps" "[I", Cond.fieldLink RX4 24 "FrogBreath$Marsh" "owes" "[I", Cond.fieldLink RX4 27 "FrogBreath$Marsh" "held" "[I", Cond.fieldLink RX4 30 "FrogBreath$Marsh" "led" "[I", Cond.fieldLink RX4 33 "FrogBreath$Marsh" "two" "I"]
def wsL_law_r3 : List Cond := [Cond.instanceMethod yX3_init, Cond.code yX3_init cX3_init 1 none, Cond.methodLink RX3 3 objectInit, Cond.fieldLink RX3 11 "FrogBreath$Law" "step" "[I", Cond.fieldLink RX3 15 "FrogBreath$Law" "value" "[I", Cond.fieldLink RX3 18 "FrogBreath$Law" "stack" "[I", Cond.fieldLink RX3 21 "FrogBreath$Law" "names" "[I", Cond.instanceMethod yX9_init, Cond.code yX9_init cX9_init 1 none, Cond.methodLink RX9 3 objectInit, Cond.arrayClass .long, Cond.fieldLink RX9 9 "FrogBreath$Shelf" "elements" "[J", Cond.fieldLink RX9 15 "FrogBreath$Shelf" "sort" "I", Cond.methodLink RL 12 yX12_init, Cond.instanceMethod yX12_init, Cond.code yX12_init cX12_init 2 none, Cond.methodLink RX12 3 objectInit, Cond.fieldLink RX12 9 "FrogBreathModel" "ways" "[I", Cond.fieldLink RX12 15 "FrogBreathModel" "other" "[I", Cond.fieldLink RX12 18 "FrogBreathModel" "tape" "[I", Cond.fieldLink RX12 21 "FrogBreathModel" "asks" "[I", Cond.fieldLink RX12 24 "FrogBreathModel" "says" "[I", Cond.fieldLink RX12 27 "FrogBreathModel" "ends" "[I", Cond.fieldLink RX12 30 "FrogBreathModel" "code" "[I"]
def wsL_law_r4 : List Cond := [Cond.fieldLink RX12 33 "FrogBreathModel" "newAsks" "[I", Cond.fieldLink RX12 36 "FrogBreathModel" "newSays" "[I", Cond.fieldLink RX12 39 "FrogBreathModel" "newEnds" "[I", Cond.fieldLink RX12 42 "FrogBreathModel" "newCode" "[I", Cond.fieldLink RX12 45 "FrogBreathModel" "stack" "[I", Cond.fieldLink RX12 48 "FrogBreathModel" "names" "[I", Cond.fieldLink RX12 51 "FrogBreathModel" "led" "[I", Cond.fieldLink RX12 54 "FrogBreathModel" "old" "[I", Cond.fieldLink RX12 57 "FrogBreathModel" "oldLed" "[I", Cond.fieldLink RX12 60 "FrogBreathModel" "changed" "[I", Cond.fieldLink RX12 63 "FrogBreathModel" "bodyKind" "[I", Cond.fieldLink RX12 66 "FrogBreathModel" "traces" "[I", Cond.fieldLink RX12 69 "FrogBreathModel" "holding" "[I", Cond.fieldLink RX12 72 "FrogBreathModel" "rowLength" "[I", Cond.fieldLink RX12 75 "FrogBreathModel" "rowOf" "[J", Cond.fieldLink RX12 79 "FrogBreathModel" "was" "[I", Cond.fieldLink RX12 82 "FrogBreathModel" "begun" "[I", Cond.fieldLink RX12 85 "FrogBreathModel" "came" "[I", Cond.fieldLink RX12 88 "FrogBreathModel" "worth" "[I", Cond.fieldLink RX12 91 "FrogBreathModel" "tried" "[I", Cond.fieldLink RX12 94 "FrogBreathModel" "dealt" "[I", Cond.fieldLink RX12 97 "FrogBreathModel" "holds" "[I", Cond.methodLink RL 13 yX11_girl, Cond.instanceMethod yX11_girl]
def wsL_law_r5 : List Cond := [Cond.selects RX11 yX11_girl yX11_girl, Cond.code yX11_girl cX11_girl 2 (some .int), Cond.methodLink RX11 63 yX11_mayBe, Cond.instanceMethod yX11_mayBe, Cond.selects RX11 yX11_mayBe yX11_mayBe, Cond.code yX11_mayBe cX11_mayBe 3 (some .boolean), Cond.methodLink RX11 79 yX11_within, Cond.static yX11_within, Cond.code yX11_within cX11_within 3 (some .boolean), Cond.methodLink RX11 117 yX4_hasGirl, Cond.instanceMethod yX4_hasGirl, Cond.selects RX4 yX4_hasGirl yX4_hasGirl, Cond.code yX4_hasGirl cX4_hasGirl 2 (some .boolean), Cond.fieldLink RX4 37 "FrogBreath$Marsh" "girls" "I", Cond.methodLink RX11 67 yX4_addGirl, Cond.instanceMethod yX4_addGirl, Cond.selects RX4 yX4_addGirl yX4_addGirl, Cond.code yX4_addGirl cX4_addGirl 2 (some .int), Cond.methodLink RL 17 yX12_girl, Cond.instanceMethod yX12_girl, Cond.selects RX12 yX12_girl yX12_girl, Cond.code yX12_girl cX12_girl 2 (some .int), Cond.fieldLink RX12 100 "FrogBreathModel" "girls" "I", Cond.methodLink RX12 111 yX12_isPlace]
def wsL_law_r6 : List Cond := [Cond.static yX12_isPlace, Cond.code yX12_isPlace cX12_isPlace 1 (some .boolean), Cond.methodLink RX12 104 yX12_within, Cond.static yX12_within, Cond.code yX12_within cX12_within 3 (some .boolean), Cond.methodLink RL 18 yX11_frog, Cond.instanceMethod yX11_frog, Cond.selects RX11 yX11_frog yX11_frog, Cond.code yX11_frog cX11_frog 4 (some .int), Cond.methodLink RX11 71 yX4_addFrog, Cond.instanceMethod yX4_addFrog, Cond.selects RX4 yX4_addFrog yX4_addFrog, Cond.code yX4_addFrog cX4_addFrog 5 (some .int), Cond.fieldLink RX4 44 "FrogBreath$Marsh" "frogs" "I", Cond.methodLink RL 22 yX12_frog, Cond.instanceMethod yX12_frog, Cond.selects RX12 yX12_frog yX12_frog, Cond.code yX12_frog cX12_frog 3 (some .int), Cond.fieldLink RX12 108 "FrogBreathModel" "frogs" "I", Cond.methodLink RX12 115 yX12_newFrog, Cond.instanceMethod yX12_newFrog, Cond.selects RX12 yX12_newFrog yX12_newFrog, Cond.code yX12_newFrog cX12_newFrog 5 (some .int), Cond.methodLink RL 23 yX11_frogs]
def wsL_law_r7 : List Cond := [Cond.instanceMethod yX11_frogs, Cond.selects RX11 yX11_frogs yX11_frogs, Cond.code yX11_frogs cX11_frogs 7 (some .int), Cond.methodLink RX11 75 yX11_isShelf, Cond.static yX11_isShelf, Cond.code yX11_isShelf cX11_isShelf 1 (some .boolean), Cond.methodLink RX11 83 yX9_isBare, Cond.instanceMethod yX9_isBare, Cond.selects RX9 yX9_isBare yX9_isBare, Cond.code yX9_isBare cX9_isBare 1 (some .boolean), Cond.fieldLink RX9 19 "FrogBreath$Shelf" "reed" "LFrogBreath$Reed;", Cond.methodLink RX11 87 yX9_isBytes, Cond.instanceMethod yX9_isBytes, Cond.selects RX9 yX9_isBytes yX9_isBytes, Cond.code yX9_isBytes cX9_isBytes 1 (some .boolean), Cond.methodLink RX11 90 yX9_hasPart, Cond.instanceMethod yX9_hasPart, Cond.selects RX9 yX9_hasPart yX9_hasPart, Cond.code yX9_hasPart cX9_hasPart 3 (some .boolean), Cond.fieldLink RX9 23 "FrogBreath$Shelf" "size" "I", Cond.methodLink RX11 93 yX11_frogFromFour, Cond.instanceMethod yX11_frogFromFour, Cond.selects RX11 yX11_frogFromFour yX11_frogFromFour, Cond.code yX11_frogFromFour cX11_frogFromFour 8 (some .boolean)]
def wsL_law_r8 : List Cond := [Cond.methodLink RX11 97 yX9_at, Cond.instanceMethod yX9_at, Cond.selects RX9 yX9_at yX9_at, Cond.code yX9_at cX9_at 2 (some .long), Cond.methodLink RX9 32 yX9_hasPart, Cond.methodLink RL 27 yX12_frogs, Cond.instanceMethod yX12_frogs, Cond.selects RX12 yX12_frogs yX12_frogs, Cond.code yX12_frogs cX12_frogs 9 (some .int), Cond.constantLong RX12 125 (4), Cond.methodLink RX12 122 yX12_isShelf, Cond.static yX12_isShelf, Cond.code yX12_isShelf cX12_isShelf 1 (some .boolean), Cond.methodLink RX12 127 yX12_toldAt, Cond.instanceMethod yX12_toldAt, Cond.selects RX12 yX12_toldAt yX12_toldAt, Cond.code yX12_toldAt cX12_toldAt 3 (some .int), Cond.methodLink RX12 131 yX12_mayOwe, Cond.instanceMethod yX12_mayOwe, Cond.selects RX12 yX12_mayOwe yX12_mayOwe, Cond.code yX12_mayOwe cX12_mayOwe 2 (some .boolean), Cond.methodLink RX12 119 yX12_isGirl, Cond.instanceMethod yX12_isGirl, Cond.selects RX12 yX12_isGirl yX12_isGirl]
def wsL_law_r9 : List Cond := [Cond.code yX12_isGirl cX12_isGirl 2 (some .boolean), Cond.methodLink RL 28 yX11_mend, Cond.instanceMethod yX11_mend, Cond.selects RX11 yX11_mend yX11_mend, Cond.code yX11_mend cX11_mend 5 (some .int), Cond.constant RX11 104 (-2000000000), Cond.methodLink RX11 101 yX4_hasNumber, Cond.instanceMethod yX4_hasNumber, Cond.selects RX4 yX4_hasNumber yX4_hasNumber, Cond.code yX4_hasNumber cX4_hasNumber 3 (some .boolean), Cond.methodLink RX4 47 yX4_hasGirl, Cond.methodLink RX4 51 yX4_hasFrog, Cond.instanceMethod yX4_hasFrog, Cond.selects RX4 yX4_hasFrog yX4_hasFrog, Cond.code yX4_hasFrog cX4_hasFrog 2 (some .boolean), Cond.methodLink RX11 105 yX4_numberOf, Cond.instanceMethod yX4_numberOf, Cond.selects RX4 yX4_numberOf yX4_numberOf, Cond.code yX4_numberOf cX4_numberOf 3 (some .int), Cond.fieldLink RX4 54 "FrogBreath$Marsh" "hour" "I", Cond.methodLink RX11 109 yX11_noteChange, Cond.instanceMethod yX11_noteChange, Cond.selects RX11 yX11_noteChange yX11_noteChange, Cond.code yX11_noteChange cX11_noteChange 6 none]
def wsL_law_r10 : List Cond := [Cond.fieldLink RX11 305 "FrogBreath" "changesDone" "I", Cond.fieldLink RX11 311 "FrogBreath" "changesKept" "I", Cond.methodLink RX11 308 yX11_forgetOldestChange, Cond.instanceMethod yX11_forgetOldestChange, Cond.selects RX11 yX11_forgetOldestChange yX11_forgetOldestChange, Cond.code yX11_forgetOldestChange cX11_forgetOldestChange 2 none, Cond.methodLink RX11 314 arraycopyName, Cond.native arraycopyName, Cond.static arraycopyName, Cond.initialized "java/lang/System", Cond.methodLink RX11 113 yX4_become, Cond.instanceMethod yX4_become, Cond.selects RX4 yX4_become yX4_become, Cond.code yX4_become cX4_become 4 none, Cond.methodLink RX4 57 yX4_hasNumber, Cond.methodLink RL 31 yX12_mend, Cond.instanceMethod yX12_mend, Cond.selects RX12 yX12_mend yX12_mend, Cond.code yX12_mend cX12_mend 6 (some .int), Cond.constant RX12 144 (-2000000000), Cond.fieldLink RX12 152 "FrogBreathModel" "done" "I", Cond.fieldLink RX12 155 "FrogBreathModel" "changes" "I", Cond.methodLink RX12 137 yX12_isOf, Cond.instanceMethod yX12_isOf]
def wsL_law_r11 : List Cond := [Cond.selects RX12 yX12_isOf yX12_isOf, Cond.code yX12_isOf cX12_isOf 3 (some .boolean), Cond.methodLink RX12 134 yX12_isFrog, Cond.instanceMethod yX12_isFrog, Cond.selects RX12 yX12_isFrog yX12_isFrog, Cond.code yX12_isFrog cX12_isFrog 2 (some .boolean), Cond.methodLink RX12 141 yX12_isFit, Cond.instanceMethod yX12_isFit, Cond.selects RX12 yX12_isFit yX12_isFit, Cond.code yX12_isFit cX12_isFit 3 (some .boolean), Cond.methodLink RX12 145 yX12_get, Cond.instanceMethod yX12_get, Cond.selects RX12 yX12_get yX12_get, Cond.code yX12_get cX12_get 3 (some .int), Cond.methodLink RX12 148 yX12_becomes, Cond.instanceMethod yX12_becomes, Cond.selects RX12 yX12_becomes yX12_becomes, Cond.code yX12_becomes cX12_becomes 4 none, Cond.methodLink RL 32 yX11_of, Cond.instanceMethod yX11_of, Cond.selects RX11 yX11_of yX11_of, Cond.code yX11_of cX11_of 3 (some .int), Cond.methodLink RL 35 yX12_of, Cond.instanceMethod yX12_of]
def wsL_law_r12 : List Cond := [Cond.selects RX12 yX12_of yX12_of, Cond.code yX12_of cX12_of 3 (some .int), Cond.methodLink RL 36 yX11_feed, Cond.instanceMethod yX11_feed, Cond.selects RX11 yX11_feed yX11_feed, Cond.code yX11_feed cX11_feed 2 (some .int), Cond.fieldLink RX11 120 "FrogBreath" "tapeSize" "I", Cond.methodLink RL 39 yX12_feed, Cond.instanceMethod yX12_feed, Cond.selects RX12 yX12_feed yX12_feed, Cond.code yX12_feed cX12_feed 2 (some .int), Cond.fieldLink RX12 158 "FrogBreathModel" "taped" "I", Cond.methodLink RL 40 yX11_law, Cond.instanceMethod yX11_law, Cond.selects RX11 yX11_law yX11_law, Cond.code yX11_law cX11_law 3 (some .int), Cond.methodLink RX11 124 yX3_read, Cond.instanceMethod yX3_read, Cond.selects RX3 yX3_read yX3_read, Cond.code yX3_read cX3_read 5 (some .int), Cond.fieldLink RX3 28 "FrogBreath$Law" "text" "[I", Cond.methodLink RX3 31 Lib.Math.min.name, Cond.static Lib.Math.min.name, Cond.initialized "java/lang/Math"]
def wsL_law_r13 : List Cond := [Cond.code Lib.Math.min.name Lib.Math.min.code 2 (some .int), Cond.fieldLink RX3 37 "FrogBreath$Law" "length" "I", Cond.fieldLink RX3 40 "FrogBreath$Law" "place" "I", Cond.fieldLink RX3 24 "FrogBreath$Law" "steps" "I", Cond.methodLink RX3 43 yX3_line, Cond.instanceMethod yX3_line, Cond.selects RX3 yX3_line yX3_line, Cond.code yX3_line cX3_line 3 (some .boolean), Cond.methodLink RX3 51 yX3_joined, Cond.instanceMethod yX3_joined, Cond.selects RX3 yX3_joined yX3_joined, Cond.code yX3_joined cX3_joined 7 (some .boolean), Cond.methodLink RX3 58 yX3_operand, Cond.instanceMethod yX3_operand, Cond.selects RX3 yX3_operand yX3_operand, Cond.methodLink RX3 61 yX3_levelOf, Cond.static yX3_levelOf, Cond.code yX3_levelOf cX3_levelOf 1 (some .int), Cond.methodLink RX3 55 yX3_add, Cond.instanceMethod yX3_add, Cond.selects RX3 yX3_add yX3_add, Cond.code yX3_add cX3_add 3 (some .boolean), Cond.code yX3_operand cX3_operand 2 (some .boolean), Cond.methodLink RX3 65 yX3_isDigit]
def wsL_law_r14 : List Cond := [Cond.instanceMethod yX3_isDigit, Cond.selects RX3 yX3_isDigit yX3_isDigit, Cond.code yX3_isDigit cX3_isDigit 1 (some .boolean), Cond.methodLink RX3 68 yX3_number, Cond.instanceMethod yX3_number, Cond.selects RX3 yX3_number yX3_number, Cond.code yX3_number cX3_number 3 (some .boolean), Cond.methodLink RX3 71 yX3_nameOf, Cond.static yX3_nameOf, Cond.code yX3_nameOf cX3_nameOf 1 (some .int), Cond.methodLink RX3 47 yX3_takes, Cond.instanceMethod yX3_takes, Cond.selects RX3 yX3_takes yX3_takes, Cond.code yX3_takes cX3_takes 2 (some .boolean), Cond.methodLink RL 44 yX12_law, Cond.instanceMethod yX12_law, Cond.selects RX12 yX12_law yX12_law, Cond.code yX12_law cX12_law 4 (some .int), Cond.fieldLink RX12 161 "FrogBreathModel" "at" "I", Cond.fieldLink RX12 182 "FrogBreathModel" "open" "I", Cond.fieldLink RX12 168 "FrogBreathModel" "coded" "I", Cond.fieldLink RX12 206 "FrogBreathModel" "newLines" "I", Cond.fieldLink RX12 212 "FrogBreathModel" "isTold" "Z", Cond.fieldLink RX12 216 "FrogBreathModel" "lines" "I"]
def wsL_law_r15 : List Cond := [Cond.methodLink RX12 209 yX12_isLine, Cond.instanceMethod yX12_isLine, Cond.selects RX12 yX12_isLine yX12_isLine, Cond.code yX12_isLine cX12_isLine 1 (some .boolean), Cond.methodLink RX12 191 yX12_isE, Cond.instanceMethod yX12_isE, Cond.selects RX12 yX12_isE yX12_isE, Cond.code yX12_isE cX12_isE 1 (some .boolean), Cond.methodLink RX12 203 yX12_isA, Cond.instanceMethod yX12_isA, Cond.selects RX12 yX12_isA yX12_isA, Cond.methodLink RX12 185 yX12_is, Cond.instanceMethod yX12_is, Cond.selects RX12 yX12_is yX12_is, Cond.code yX12_is cX12_is 2 (some .boolean), Cond.methodLink RX12 164 yX12_sign, Cond.instanceMethod yX12_sign, Cond.selects RX12 yX12_sign yX12_sign, Cond.code yX12_sign cX12_sign 1 (some .int), Cond.methodLink RX12 175 yX12_codes, Cond.instanceMethod yX12_codes, Cond.selects RX12 yX12_codes yX12_codes, Cond.code yX12_codes cX12_codes 2 (some .boolean), Cond.code yX12_isA cX12_isA 1 (some .boolean)]
def wsL_law_r16 : List Cond := [Cond.methodLink RX12 200 yX12_isB, Cond.instanceMethod yX12_isB, Cond.selects RX12 yX12_isB yX12_isB, Cond.code yX12_isB cX12_isB 2 (some .boolean), Cond.methodLink RX12 197 yX12_isS, Cond.instanceMethod yX12_isS, Cond.selects RX12 yX12_isS yX12_isS, Cond.code yX12_isO cX12_isO 3 (some .boolean), Cond.methodLink RX12 171 yX12_isDigit, Cond.instanceMethod yX12_isDigit, Cond.selects RX12 yX12_isDigit yX12_isDigit, Cond.code yX12_isDigit cX12_isDigit 1 (some .boolean), Cond.methodLink RX12 178 yX12_nameOf, Cond.static yX12_nameOf, Cond.code yX12_nameOf cX12_nameOf 1 (some .int), Cond.methodLink RX12 188 yX12_isO, Cond.instanceMethod yX12_isO, Cond.selects RX12 yX12_isO yX12_isO, Cond.code yX12_isP cX12_isP 2 (some .boolean), Cond.code yX12_isS cX12_isS 2 (some .boolean), Cond.methodLink RX12 194 yX12_isP, Cond.instanceMethod yX12_isP, Cond.selects RX12 yX12_isP yX12_isP, Cond.methodLink RL 45 yX11_loses]
def wsL_law_r17 : List Cond := [Cond.instanceMethod yX11_loses, Cond.selects RX11 yX11_loses yX11_loses, Cond.code yX11_loses cX11_loses 2 (some .int), Cond.methodLink RX11 128 yX4_hasFrog, Cond.methodLink RX11 131 yX4_lossOf, Cond.instanceMethod yX4_lossOf, Cond.selects RX4 yX4_lossOf yX4_lossOf, Cond.code yX4_lossOf cX4_lossOf 6 (some .int), Cond.methodLink RX4 95 Lib.Math.min.name, Cond.methodLink RX4 98 Lib.Math.max.name, Cond.static Lib.Math.max.name, Cond.code Lib.Math.max.name Lib.Math.max.code 2 (some .int), Cond.methodLink RX4 77 yX4_far, Cond.static yX4_far, Cond.code yX4_far cX4_far 2 (some .int), Cond.methodLink RX4 71 Lib.Math.abs.name, Cond.static Lib.Math.abs.name, Cond.code Lib.Math.abs.name Lib.Math.abs.code 1 (some .int), Cond.methodLink RX4 85 yX3_isTold, Cond.instanceMethod yX3_isTold, Cond.selects RX3 yX3_isTold yX3_isTold, Cond.code yX3_isTold cX3_isTold 1 (some .boolean), Cond.methodLink RX4 91 yX3_worked, Cond.instanceMethod yX3_worked]
def wsL_law_r18 : List Cond := [Cond.selects RX3 yX3_worked yX3_worked, Cond.code yX3_worked cX3_worked 11 (some .int), Cond.fieldLink RX3 78 "FrogBreath$Law" "top" "I", Cond.methodLink RX3 81 yX3_push, Cond.instanceMethod yX3_push, Cond.selects RX3 yX3_push yX3_push, Cond.code yX3_push cX3_push 2 none, Cond.methodLink RX3 85 yX3_pop, Cond.instanceMethod yX3_pop, Cond.selects RX3 yX3_pop yX3_pop, Cond.code yX3_pop cX3_pop 1 (some .int), Cond.methodLink RX3 89 yX3_joinedBy, Cond.static yX3_joinedBy, Cond.code yX3_joinedBy cX3_joinedBy 3 (some .int), Cond.methodLink RL 48 yX12_loses, Cond.instanceMethod yX12_loses, Cond.selects RX12 yX12_loses yX12_loses, Cond.code yX12_loses cX12_loses 2 (some .int), Cond.methodLink RX12 249 yX12_losesBy, Cond.instanceMethod yX12_losesBy, Cond.selects RX12 yX12_losesBy yX12_losesBy, Cond.code yX12_losesBy cX12_losesBy 3 (some .int), Cond.methodLink RX12 243 Lib.Math.min.name, Cond.methodLink RX12 246 Lib.Math.max.name]
def wsL_law_r19 : List Cond := [Cond.methodLink RX12 231 yX12_owes, Cond.instanceMethod yX12_owes, Cond.selects RX12 yX12_owes yX12_owes, Cond.code yX12_owes cX12_owes 2 (some .int), Cond.methodLink RX12 240 yX12_byLaw, Cond.instanceMethod yX12_byLaw, Cond.selects RX12 yX12_byLaw yX12_byLaw, Cond.code yX12_byLaw cX12_byLaw 3 (some .int), Cond.methodLink RX12 228 yX12_held, Cond.instanceMethod yX12_held, Cond.selects RX12 yX12_held yX12_held, Cond.code yX12_held cX12_held 2 (some .int), Cond.methodLink RX12 234 yX12_apart, Cond.static yX12_apart, Cond.code yX12_apart cX12_apart 2 (some .int), Cond.methodLink RX12 223 Lib.Math.abs.name, Cond.methodLink RX12 237 yX12_worked, Cond.instanceMethod yX12_worked, Cond.selects RX12 yX12_worked yX12_worked, Cond.code yX12_worked cX12_worked 6 (some .int), Cond.methodLink RX12 219 yX12_both, Cond.static yX12_both, Cond.code yX12_both cX12_both 3 (some .int), Cond.methodLink RL 49 yX11_later]
def wsL_law_r20 : List Cond := [Cond.instanceMethod yX11_later, Cond.selects RX11 yX11_later yX11_later, Cond.code yX11_later cX11_later 5 (some .int), Cond.fieldLink RX11 139 "FrogBreath$Marsh" "held" "[I", Cond.fieldLink RX11 142 "FrogBreath$Marsh" "frogPlace" "[I", Cond.fieldLink RX11 145 "FrogBreath$Marsh" "owes" "[I", Cond.fieldLink RX11 148 "FrogBreath$Marsh" "breath" "[I", Cond.methodLink RX11 135 yX11_thinkOn, Cond.instanceMethod yX11_thinkOn, Cond.selects RX11 yX11_thinkOn yX11_thinkOn, Cond.code yX11_thinkOn cX11_thinkOn 3 none, Cond.methodLink RX11 151 yX4_copy, Cond.instanceMethod yX4_copy, Cond.selects RX4 yX4_copy yX4_copy, Cond.code yX4_copy cX4_copy 2 none, Cond.methodLink RX4 61 arraycopyName, Cond.methodLink RX4 67 yX4_layBack, Cond.instanceMethod yX4_layBack, Cond.selects RX4 yX4_layBack yX4_layBack, Cond.code yX4_layBack cX4_layBack 2 none, Cond.methodLink RX11 155 yX4_passHour, Cond.instanceMethod yX4_passHour, Cond.selects RX4 yX4_passHour yX4_passHour, Cond.code yX4_passHour cX4_passHour 4 (some .int)]
def wsL_law_r21 : List Cond := [Cond.methodLink RX4 113 yX4_passHourOf, Cond.instanceMethod yX4_passHourOf, Cond.selects RX4 yX4_passHourOf yX4_passHourOf, Cond.code yX4_passHourOf cX4_passHourOf 6 (some .int), Cond.methodLink RX4 101 yX4_lossOf, Cond.methodLink RX4 105 yX4_nearer, Cond.static yX4_nearer, Cond.code yX4_nearer cX4_nearer 3 (some .int), Cond.methodLink RX4 108 yJ6_compare_7cf53, Cond.static yJ6_compare_7cf53, Cond.initialized RJ6, Cond.code yJ6_compare_7cf53 cJ6_compare_7cf53 2 (some .int), Cond.methodLink RX4 81 yX4_owesNothing, Cond.instanceMethod yX4_owesNothing, Cond.selects RX4 yX4_owesNothing yX4_owesNothing, Cond.code yX4_owesNothing cX4_owesNothing 2 none, Cond.methodLink RX4 116 yX4_endHour, Cond.instanceMethod yX4_endHour, Cond.selects RX4 yX4_endHour yX4_endHour, Cond.code yX4_endHour cX4_endHour 1 none, Cond.methodLink RL 52 yX12_later, Cond.instanceMethod yX12_later, Cond.selects RX12 yX12_later yX12_later, Cond.code yX12_later cX12_later 5 (some .int)]
def wsL_law_r22 : List Cond := [Cond.methodLink RX12 272 yX12_keeps, Cond.instanceMethod yX12_keeps, Cond.selects RX12 yX12_keeps yX12_keeps, Cond.code yX12_keeps cX12_keeps 3 none, Cond.methodLink RX12 276 yX12_goesOn, Cond.instanceMethod yX12_goesOn, Cond.selects RX12 yX12_goesOn yX12_goesOn, Cond.code yX12_goesOn cX12_goesOn 3 none, Cond.methodLink RX12 265 yX12_passes, Cond.instanceMethod yX12_passes, Cond.selects RX12 yX12_passes yX12_passes, Cond.code yX12_passes cX12_passes 2 none, Cond.fieldLink RX12 252 "FrogBreathModel" "lost" "I", Cond.fieldLink RX12 258 "FrogBreathModel" "cameBack" "I", Cond.methodLink RX12 261 yX12_goes, Cond.instanceMethod yX12_goes, Cond.selects RX12 yX12_goes yX12_goes, Cond.code yX12_goes cX12_goes 4 none, Cond.methodLink RX12 255 yX12_nearer, Cond.static yX12_nearer, Cond.code yX12_nearer cX12_nearer 2 (some .int), Cond.methodLink RX12 279 yX12_laysBack_, Cond.instanceMethod yX12_laysBack_, Cond.selects RX12 yX12_laysBack_ yX12_laysBack_]
def wsL_law_r23 : List Cond := [Cond.code yX12_laysBack_ cX12_laysBack_ 1 none, Cond.methodLink RX12 268 yX12_laysBack, Cond.instanceMethod yX12_laysBack, Cond.selects RX12 yX12_laysBack yX12_laysBack, Cond.code yX12_laysBack cX12_laysBack 5 none, Cond.methodLink RL 53 yX11_marsh, Cond.instanceMethod yX11_marsh, Cond.selects RX11 yX11_marsh yX11_marsh, Cond.code yX11_marsh cX11_marsh 3 (some .int), Cond.methodLink RX11 159 yX4_owing, Cond.instanceMethod yX4_owing, Cond.selects RX4 yX4_owing yX4_owing, Cond.code yX4_owing cX4_owing 3 (some .int), Cond.methodLink RX11 163 yX4_heldByAll, Cond.instanceMethod yX4_heldByAll, Cond.selects RX4 yX4_heldByAll yX4_heldByAll, Cond.code yX4_heldByAll cX4_heldByAll 3 (some .int), Cond.methodLink RL 56 yX12_marsh, Cond.instanceMethod yX12_marsh, Cond.selects RX12 yX12_marsh yX12_marsh, Cond.code yX12_marsh cX12_marsh 4 (some .int), Cond.methodLink RX12 281 yX12_owing, Cond.instanceMethod yX12_owing, Cond.selects RX12 yX12_owing yX12_owing]
def wsL_law_r24 : List Cond := [Cond.code yX12_owing cX12_owing 3 (some .int), Cond.methodLink RX12 284 yX12_allHeld, Cond.instanceMethod yX12_allHeld, Cond.selects RX12 yX12_allHeld yX12_allHeld, Cond.code yX12_allHeld cX12_allHeld 3 (some .int), Cond.methodLink RL 57 yX11_backWhen, Cond.instanceMethod yX11_backWhen, Cond.selects RX11 yX11_backWhen yX11_backWhen, Cond.code yX11_backWhen cX11_backWhen 4 (some .int), Cond.methodLink RL 60 yX12_backWhen, Cond.instanceMethod yX12_backWhen, Cond.selects RX12 yX12_backWhen yX12_backWhen, Cond.code yX12_backWhen cX12_backWhen 4 (some .int), Cond.methodLink RL 61 yX11_loan, Cond.instanceMethod yX11_loan, Cond.selects RX11 yX11_loan yX11_loan, Cond.code yX11_loan cX11_loan 4 (some .int), Cond.methodLink RX11 166 yX11_isPair, Cond.instanceMethod yX11_isPair, Cond.selects RX11 yX11_isPair yX11_isPair, Cond.code yX11_isPair cX11_isPair 2 (some .boolean), Cond.methodLink RX11 169 yX11_thinkLoan, Cond.instanceMethod yX11_thinkLoan, Cond.selects RX11 yX11_thinkLoan yX11_thinkLoan]
def wsL_law_r25 : List Cond := [Cond.code yX11_thinkLoan cX11_thinkLoan 4 none, Cond.methodLink RX11 178 yX4_lend, Cond.instanceMethod yX4_lend, Cond.selects RX4 yX4_lend yX4_lend, Cond.code yX4_lend cX4_lend 4 none, Cond.methodLink RX11 172 yX11_givenBack, Cond.instanceMethod yX11_givenBack, Cond.selects RX11 yX11_givenBack yX11_givenBack, Cond.code yX11_givenBack cX11_givenBack 4 (some .int), Cond.methodLink RX11 181 yX4_passHourOf, Cond.methodLink RX11 184 yX4_endHour, Cond.methodLink RX11 175 yX11_hoursTillBack, Cond.instanceMethod yX11_hoursTillBack, Cond.selects RX11 yX11_hoursTillBack yX11_hoursTillBack, Cond.code yX11_hoursTillBack cX11_hoursTillBack 3 (some .int), Cond.methodLink RL 64 yX12_loan, Cond.instanceMethod yX12_loan, Cond.selects RX12 yX12_loan yX12_loan, Cond.code yX12_loan cX12_loan 4 (some .int), Cond.methodLink RX12 290 yX12_isPair, Cond.instanceMethod yX12_isPair, Cond.selects RX12 yX12_isPair yX12_isPair, Cond.code yX12_isPair cX12_isPair 2 (some .boolean), Cond.methodLink RX12 293 yX12_lent]
def wsL_law_r26 : List Cond := [Cond.instanceMethod yX12_lent, Cond.selects RX12 yX12_lent yX12_lent, Cond.code yX12_lent cX12_lent 6 none, Cond.methodLink RX12 287 yX12_gives, Cond.instanceMethod yX12_gives, Cond.selects RX12 yX12_gives yX12_gives, Cond.code yX12_gives cX12_gives 3 none, Cond.methodLink RL 65 yX11_best, Cond.instanceMethod yX11_best, Cond.selects RX11 yX11_best yX11_best, Cond.code yX11_best cX11_best 8 (some .int), Cond.fieldLink RX11 187 "FrogBreath$Marsh" "frogs" "I", Cond.methodLink RL 68 yX12_best, Cond.instanceMethod yX12_best, Cond.selects RX12 yX12_best yX12_best, Cond.code yX12_best cX12_best 7 (some .int), Cond.methodLink RL 69 yX11_dealt, Cond.instanceMethod yX11_dealt, Cond.selects RX11 yX11_dealt yX11_dealt, Cond.code yX11_dealt cX11_dealt 3 (some .int), Cond.methodLink RX11 190 yX11_thinkGains, Cond.instanceMethod yX11_thinkGains, Cond.selects RX11 yX11_thinkGains yX11_thinkGains, Cond.code yX11_thinkGains cX11_thinkGains 4 none]
def wsL_law_r27 : List Cond := [Cond.fieldLink RX11 199 "FrogBreath$Marsh" "girls" "I", Cond.methodLink RX11 193 yX11_thinkMostBack, Cond.instanceMethod yX11_thinkMostBack, Cond.selects RX11 yX11_thinkMostBack yX11_thinkMostBack, Cond.code yX11_thinkMostBack cX11_thinkMostBack 5 none, Cond.methodLink RX11 212 Lib.Math.max.name, Cond.methodLink RX11 202 yJ7_fill_53178, Cond.static yJ7_fill_53178, Cond.initialized RJ7, Cond.code yJ7_fill_53178 cJ7_fill_53178 4 none, Cond.methodLink RX11 208 yX11_backByLending, Cond.instanceMethod yX11_backByLending, Cond.selects RX11 yX11_backByLending yX11_backByLending, Cond.code yX11_backByLending cX11_backByLending 5 (some .int), Cond.methodLink RX11 196 yX11_frogDealtTo, Cond.instanceMethod yX11_frogDealtTo, Cond.selects RX11 yX11_frogDealtTo yX11_frogDealtTo, Cond.code yX11_frogDealtTo cX11_frogDealtTo 5 (some .int), Cond.methodLink RX11 217 yX11_firstBestFrog, Cond.instanceMethod yX11_firstBestFrog, Cond.selects RX11 yX11_firstBestFrog yX11_firstBestFrog, Cond.code yX11_firstBestFrog cX11_firstBestFrog 5 (some .int), Cond.methodLink RL 72 yX12_dealt, Cond.instanceMethod yX12_dealt]
def wsL_law_r28 : List Cond := [Cond.selects RX12 yX12_dealt yX12_dealt, Cond.code yX12_dealt cX12_dealt 5 (some .int), Cond.fieldLink RX12 296 "FrogBreathModel" "most" "I", Cond.methodLink RX12 299 yX12_deals, Cond.instanceMethod yX12_deals, Cond.selects RX12 yX12_deals yX12_deals, Cond.code yX12_deals cX12_deals 5 none, Cond.methodLink RL 73 yX11_least, Cond.instanceMethod yX11_least, Cond.selects RX11 yX11_least yX11_least, Cond.code yX11_least cX11_least 4 (some .int), Cond.methodLink RX11 220 yX11_heldBehind, Cond.instanceMethod yX11_heldBehind, Cond.selects RX11 yX11_heldBehind yX11_heldBehind, Cond.code yX11_heldBehind cX11_heldBehind 4 (some .int), Cond.methodLink RL 76 yX12_least, Cond.instanceMethod yX12_least, Cond.selects RX12 yX12_least yX12_least, Cond.code yX12_least cX12_least 4 (some .int), Cond.methodLink RX12 302 yX12_heldBehind, Cond.instanceMethod yX12_heldBehind, Cond.selects RX12 yX12_heldBehind yX12_heldBehind, Cond.code yX12_heldBehind cX12_heldBehind 6 (some .int), Cond.methodLink RL 77 yX11_bars]
def wsL_law_r29 : List Cond := [Cond.instanceMethod yX11_bars, Cond.selects RX11 yX11_bars yX11_bars, Cond.code yX11_bars cX11_bars 3 (some .int), Cond.methodLink RX11 223 yX11_nextTogether, Cond.instanceMethod yX11_nextTogether, Cond.selects RX11 yX11_nextTogether yX11_nextTogether, Cond.code yX11_nextTogether cX11_nextTogether 3 (some .int), Cond.methodLink RX11 226 yX11_beginningAt, Cond.instanceMethod yX11_beginningAt, Cond.selects RX11 yX11_beginningAt yX11_beginningAt, Cond.code yX11_beginningAt cX11_beginningAt 6 (some .int), Cond.fieldLink RX11 234 "FrogBreath$Marsh" "keeps" "[I", Cond.methodLink RX11 229 yJ6_bitCount_0f7a4, Cond.static yJ6_bitCount_0f7a4, Cond.code yJ6_bitCount_0f7a4 cJ6_bitCount_0f7a4 1 (some .int), Cond.constant RJ6 265 (1431655765), Cond.constant RJ6 266 (858993459), Cond.constant RJ6 267 (252645135), Cond.methodLink RL 80 yX12_bars, Cond.instanceMethod yX12_bars, Cond.selects RX12 yX12_bars yX12_bars, Cond.code yX12_bars cX12_bars 6 (some .int), Cond.methodLink RX12 305 yX12_common, Cond.static yX12_common]
def wsL_law_r30 : List Cond := [Cond.code yX12_common cX12_common 5 (some .int), Cond.methodLink RL 81 yX11_stops, Cond.instanceMethod yX11_stops, Cond.selects RX11 yX11_stops yX11_stops, Cond.code yX11_stops cX11_stops 5 (some .int), Cond.methodLink RX11 237 yX11_allHeardFrom, Cond.instanceMethod yX11_allHeardFrom, Cond.selects RX11 yX11_allHeardFrom yX11_allHeardFrom, Cond.code yX11_allHeardFrom cX11_allHeardFrom 4 (some .boolean), Cond.methodLink RX11 240 yX11_isHeardFrom, Cond.instanceMethod yX11_isHeardFrom, Cond.selects RX11 yX11_isHeardFrom yX11_isHeardFrom, Cond.code yX11_isHeardFrom cX11_isHeardFrom 5 (some .boolean), Cond.methodLink RX11 243 yX4_far, Cond.methodLink RL 84 yX12_stops, Cond.instanceMethod yX12_stops, Cond.selects RX12 yX12_stops yX12_stops, Cond.code yX12_stops cX12_stops 5 (some .int), Cond.methodLink RX12 308 yJ6_bitCount_0f7a4, Cond.methodLink RX12 313 yX12_areNear, Cond.instanceMethod yX12_areNear, Cond.selects RX12 yX12_areNear yX12_areNear, Cond.code yX12_areNear cX12_areNear 6 (some .boolean), Cond.methodLink RL 85 yX11_judge]
def wsL_law_r31 : List Cond := [Cond.instanceMethod yX11_judge, Cond.selects RX11 yX11_judge yX11_judge, Cond.code yX11_judge cX11_judge 5 (some .int), Cond.methodLink RX11 246 yX11_bookRefusal, Cond.static yX11_bookRefusal, Cond.code yX11_bookRefusal cX11_bookRefusal 1 (some .int), Cond.methodLink RX11 250 yX11_firstNotSo, Cond.instanceMethod yX11_firstNotSo, Cond.selects RX11 yX11_firstNotSo yX11_firstNotSo, Cond.code yX11_firstNotSo cX11_firstNotSo 7 (some .int), Cond.fieldLink RX11 254 "FrogBreath$Shelf" "size" "I", Cond.methodLink RX11 257 Lib.Math.min.name, Cond.constantLong RX11 260 (100), Cond.methodLink RL 88 yX12_judge, Cond.instanceMethod yX12_judge, Cond.selects RX12 yX12_judge yX12_judge, Cond.code yX12_judge cX12_judge 4 (some .int), Cond.methodLink RX12 316 yX12_noBytes, Cond.instanceMethod yX12_noBytes, Cond.selects RX12 yX12_noBytes yX12_noBytes, Cond.code yX12_noBytes cX12_noBytes 2 (some .int), Cond.methodLink RX12 319 yX12_unlike, Cond.instanceMethod yX12_unlike, Cond.selects RX12 yX12_unlike yX12_unlike]
def wsL_law_r32 : List Cond := [Cond.code yX12_unlike cX12_unlike 5 (some .int), Cond.methodLink RL 89 yX11_fits, Cond.instanceMethod yX11_fits, Cond.selects RX11 yX11_fits yX11_fits, Cond.code yX11_fits cX11_fits 6 (some .int), Cond.methodLink RX11 262 yX11_keptBy, Cond.instanceMethod yX11_keptBy, Cond.selects RX11 yX11_keptBy yX11_keptBy, Cond.code yX11_keptBy cX11_keptBy 5 (some .int), Cond.methodLink RX11 265 yX11_whose, Cond.instanceMethod yX11_whose, Cond.selects RX11 yX11_whose yX11_whose, Cond.code yX11_whose cX11_whose 5 (some .int), Cond.methodLink RL 92 yX12_fits, Cond.instanceMethod yX12_fits, Cond.selects RX12 yX12_fits yX12_fits, Cond.code yX12_fits cX12_fits 9 (some .int), Cond.methodLink RL 93 yX11_alike, Cond.instanceMethod yX11_alike, Cond.selects RX11 yX11_alike yX11_alike, Cond.code yX11_alike cX11_alike 4 (some .int), Cond.methodLink RX11 268 yX11_holdAsMuch, Cond.instanceMethod yX11_holdAsMuch, Cond.selects RX11 yX11_holdAsMuch yX11_holdAsMuch]
def wsL_law_r33 : List Cond := [Cond.code yX11_holdAsMuch cX11_holdAsMuch 4 (some .boolean), Cond.methodLink RL 96 yX12_alike, Cond.instanceMethod yX12_alike, Cond.selects RX12 yX12_alike yX12_alike, Cond.code yX12_alike cX12_alike 6 (some .int), Cond.methodLink RL 97 yX11_ring, Cond.instanceMethod yX11_ring, Cond.selects RX11 yX11_ring yX11_ring, Cond.code yX11_ring cX11_ring 6 (some .int), Cond.methodLink RX11 271 yX4_nearestTo, Cond.instanceMethod yX4_nearestTo, Cond.selects RX4 yX4_nearestTo yX4_nearestTo, Cond.code yX4_nearestTo cX4_nearestTo 5 (some .int), Cond.methodLink RL 100 yX12_ring, Cond.instanceMethod yX12_ring, Cond.selects RX12 yX12_ring yX12_ring, Cond.code yX12_ring cX12_ring 5 (some .int), Cond.methodLink RX12 322 yX12_nearest, Cond.instanceMethod yX12_nearest, Cond.selects RX12 yX12_nearest yX12_nearest, Cond.code yX12_nearest cX12_nearest 4 (some .int), Cond.methodLink RL 101 yX11_byTurns, Cond.instanceMethod yX11_byTurns, Cond.selects RX11 yX11_byTurns yX11_byTurns]
def wsL_law_r34 : List Cond := [Cond.code yX11_byTurns cX11_byTurns 7 (some .int), Cond.fieldLink RX11 274 "FrogBreath$Marsh" "two" "I", Cond.methodLink RX11 277 yX11_lessTwo, Cond.static yX11_lessTwo, Cond.code yX11_lessTwo cX11_lessTwo 1 (some .int), Cond.methodLink RX11 280 yX11_turn, Cond.instanceMethod yX11_turn, Cond.selects RX11 yX11_turn yX11_turn, Cond.code yX11_turn cX11_turn 7 (some .int), Cond.methodLink RX11 284 yX11_backBy, Cond.instanceMethod yX11_backBy, Cond.selects RX11 yX11_backBy yX11_backBy, Cond.code yX11_backBy cX11_backBy 4 (some .int), Cond.methodLink RL 104 yX12_byTurns, Cond.instanceMethod yX12_byTurns, Cond.selects RX12 yX12_byTurns yX12_byTurns, Cond.code yX12_byTurns cX12_byTurns 6 (some .int), Cond.methodLink RX12 325 yX12_turnFrom, Cond.instanceMethod yX12_turnFrom, Cond.selects RX12 yX12_turnFrom yX12_turnFrom, Cond.code yX12_turnFrom cX12_turnFrom 6 (some .int), Cond.methodLink RX12 328 yX12_turnBy, Cond.instanceMethod yX12_turnBy, Cond.selects RX12 yX12_turnBy yX12_turnBy]
def wsL_law_r35 : List Cond := [Cond.code yX12_turnBy cX12_turnBy 7 (some .int), Cond.methodLink RL 105 yX11_drawn, Cond.instanceMethod yX11_drawn, Cond.selects RX11 yX11_drawn yX11_drawn, Cond.code yX11_drawn cX11_drawn 10 (some .int), Cond.constant RX11 287 (1103515245), Cond.methodLink RX11 288 yX4_meetCart, Cond.instanceMethod yX4_meetCart, Cond.selects RX4 yX4_meetCart yX4_meetCart, Cond.code yX4_meetCart cX4_meetCart 3 none, Cond.methodLink RL 108 yX12_drawn, Cond.instanceMethod yX12_drawn, Cond.selects RX12 yX12_drawn yX12_drawn, Cond.code yX12_drawn cX12_drawn 8 (some .int), Cond.constant RX12 331 (1103515245), Cond.methodLink RL 109 yX11_hour, Cond.instanceMethod yX11_hour, Cond.selects RX11 yX11_hour yX11_hour, Cond.code yX11_hour cX11_hour 1 (some .int), Cond.methodLink RL 112 yX12_hour, Cond.instanceMethod yX12_hour, Cond.selects RX12 yX12_hour yX12_hour, Cond.code yX12_hour cX12_hour 2 (some .int), Cond.methodLink RL 113 yX11_lends]
def wsL_law_r36 : List Cond := [Cond.instanceMethod yX11_lends, Cond.selects RX11 yX11_lends yX11_lends, Cond.code yX11_lends cX11_lends 5 (some .int), Cond.fieldLink RX11 292 "FrogBreath$Marsh" "led" "[I", Cond.methodLink RL 116 yX12_lends, Cond.instanceMethod yX12_lends, Cond.selects RX12 yX12_lends yX12_lends, Cond.code yX12_lends cX12_lends 3 (some .int), Cond.methodLink RL 117 yX11_over, Cond.instanceMethod yX11_over, Cond.selects RX11 yX11_over yX11_over, Cond.code yX11_over cX11_over 3 (some .int), Cond.methodLink RX11 295 yX4_owesNothing, Cond.methodLink RL 120 yX12_over, Cond.instanceMethod yX12_over, Cond.selects RX12 yX12_over yX12_over, Cond.code yX12_over cX12_over 3 (some .int), Cond.methodLink RL 121 yX11_led, Cond.instanceMethod yX11_led, Cond.selects RX11 yX11_led yX11_led, Cond.code yX11_led cX11_led 2 (some .int), Cond.methodLink RL 124 yX12_led, Cond.instanceMethod yX12_led, Cond.selects RX12 yX12_led yX12_led]
def wsL_law_r37 : List Cond := [Cond.code yX12_led cX12_led 2 (some .int), Cond.methodLink RL 125 yX11_image, Cond.instanceMethod yX11_image, Cond.selects RX11 yX11_image yX11_image, Cond.code yX11_image cX11_image 1 (some .int), Cond.fieldLink RX11 298 "FrogBreath" "imageKept" "Z", Cond.methodLink RL 128 yX12_image, Cond.instanceMethod yX12_image, Cond.selects RX12 yX12_image yX12_image, Cond.code yX12_image cX12_image 2 (some .int), Cond.fieldLink RX12 332 "FrogBreathModel" "imaged" "Z", Cond.fieldLink RX12 335 "FrogBreathModel" "oldGirls" "I", Cond.fieldLink RX12 338 "FrogBreathModel" "oldFrogs" "I", Cond.methodLink RL 129 yX11_back, Cond.instanceMethod yX11_back, Cond.selects RX11 yX11_back yX11_back, Cond.code yX11_back cX11_back 1 (some .int), Cond.methodLink RX11 302 yX4_layBack, Cond.methodLink RL 132 yX12_back, Cond.instanceMethod yX12_back, Cond.selects RX12 yX12_back yX12_back, Cond.code yX12_back cX12_back 2 (some .int), Cond.methodLink RL 133 yX11_undo, Cond.instanceMethod yX11_undo]
def wsL_law_r38 : List Cond := [Cond.selects RX11 yX11_undo yX11_undo, Cond.code yX11_undo cX11_undo 2 (some .int), Cond.methodLink RL 136 yX12_undo, Cond.instanceMethod yX12_undo, Cond.selects RX12 yX12_undo yX12_undo, Cond.code yX12_undo cX12_undo 1 (some .int), Cond.methodLink RL 137 yX11_redo, Cond.instanceMethod yX11_redo, Cond.selects RX11 yX11_redo yX11_redo, Cond.code yX11_redo cX11_redo 2 (some .int), Cond.methodLink RL 140 yX12_redo, Cond.instanceMethod yX12_redo, Cond.selects RX12 yX12_redo yX12_redo, Cond.code yX12_redo cX12_redo 1 (some .int), Cond.methodLink RL 141 yX11_body, Cond.instanceMethod yX11_body, Cond.selects RX11 yX11_body yX11_body, Cond.code yX11_body cX11_body 2 (some .int), Cond.fieldLink RX11 320 "FrogBreath" "bodyCount" "I", Cond.methodLink RX11 323 yX11_reedOf, Cond.instanceMethod yX11_reedOf, Cond.selects RX11 yX11_reedOf yX11_reedOf, Cond.code yX11_reedOf cX11_reedOf 3 (some (.object "FrogBreath$Reed")), Cond.classLink RX11 327 RX6]
def wsL_law_r39 : List Cond := [Cond.instantiable RX6 3, Cond.initialized RX6, Cond.classLink RX11 332 RX1, Cond.instantiable RX1 3, Cond.initialized RX1, Cond.classLink RX11 335 RX5, Cond.instantiable RX5 3, Cond.initialized RX5, Cond.classLink RX11 338 RX7, Cond.instantiable RX7 3, Cond.initialized RX7, Cond.classLink RX11 341 RX0, Cond.instantiable RX0 3, Cond.initialized RX0, Cond.classLink RX11 344 RX2, Cond.instantiable RX2 3, Cond.initialized RX2, Cond.classLink RX11 347 RX10, Cond.instantiable RX10 3, Cond.initialized RX10, Cond.instantiable RX8 3, Cond.initialized RX8, Cond.methodLink RX11 329 yX6_init, Cond.instanceMethod yX6_init]
def wsL_law_r40 : List Cond := [Cond.code yX6_init cX6_init 4 none, Cond.methodLink RX6 1 yX8_init, Cond.instanceMethod yX8_init, Cond.code yX8_init cX8_init 4 none, Cond.methodLink RX8 3 objectInit, Cond.fieldLink RX8 9 "FrogBreath$Reed" "kind" "I", Cond.fieldLink RX8 15 "FrogBreath$Reed" "number" "I", Cond.fieldLink RX8 18 "FrogBreath$Reed" "ran" "[I", Cond.methodLink RX11 334 yX1_init, Cond.instanceMethod yX1_init, Cond.code yX1_init cX1_init 4 none, Cond.methodLink RX1 1 yX8_init, Cond.methodLink RX11 337 yX5_init, Cond.instanceMethod yX5_init, Cond.code yX5_init cX5_init 4 none, Cond.methodLink RX5 1 yX1_init, Cond.methodLink RX11 340 yX7_init, Cond.instanceMethod yX7_init, Cond.code yX7_init cX7_init 4 none, Cond.methodLink RX7 1 yX6_init, Cond.methodLink RX11 343 yX0_init, Cond.instanceMethod yX0_init, Cond.code yX0_init cX0_init 4 none, Cond.methodLink RX0 1 yX5_init]
def wsL_law_r41 : List Cond := [Cond.methodLink RX11 346 yX2_init, Cond.instanceMethod yX2_init, Cond.code yX2_init cX2_init 4 none, Cond.methodLink RX2 1 yX8_init, Cond.methodLink RX11 349 yX10_init, Cond.instanceMethod yX10_init, Cond.code yX10_init cX10_init 4 none, Cond.methodLink RX10 1 yX7_init, Cond.methodLink RX11 350 yX8_init, Cond.methodLink RL 144 yX12_body, Cond.instanceMethod yX12_body, Cond.selects RX12 yX12_body yX12_body, Cond.code yX12_body cX12_body 2 (some .int), Cond.fieldLink RX12 362 "FrogBreathModel" "bodies" "I", Cond.methodLink RL 145 yX11_act, Cond.instanceMethod yX11_act, Cond.selects RX11 yX11_act yX11_act, Cond.code yX11_act cX11_act 5 (some .int), Cond.methodLink RX11 351 ⟨"FrogBreath$Reed", "lending", "(I)I"⟩, Cond.sameMethod "FrogBreath$Reed" "FrogBreath$Reed" "lending" "(I)I", Cond.selects RX0 ⟨"FrogBreath$Reed", "lending", "(I)I"⟩ yX8_lending, Cond.instanceMethod yX8_lending, Cond.code yX8_lending cX8_lending 2 (some .int), Cond.methodLink RX8 22 ⟨"FrogBreath$Reed", "begins", "(I)V"⟩]
def wsL_law_r42 : List Cond := [Cond.sameMethod "FrogBreath$Reed" "FrogBreath$Reed" "begins" "(I)V", Cond.selects RX0 ⟨"FrogBreath$Reed", "begins", "(I)V"⟩ yX8_begins, Cond.instanceMethod yX8_begins, Cond.code yX8_begins cX8_begins 2 none, Cond.selects RX1 ⟨"FrogBreath$Reed", "begins", "(I)V"⟩ yX8_begins, Cond.selects RX2 ⟨"FrogBreath$Reed", "begins", "(I)V"⟩ yX8_begins, Cond.selects RX5 ⟨"FrogBreath$Reed", "begins", "(I)V"⟩ yX8_begins, Cond.selects RX6 ⟨"FrogBreath$Reed", "begins", "(I)V"⟩ yX8_begins, Cond.selects RX7 ⟨"FrogBreath$Reed", "begins", "(I)V"⟩ yX8_begins, Cond.methodLink RX8 22 yX8_begins, Cond.selects RX8 yX8_begins yX8_begins, Cond.selects RX10 ⟨"FrogBreath$Reed", "begins", "(I)V"⟩ yX8_begins, Cond.selects RX1 ⟨"FrogBreath$Reed", "lending", "(I)I"⟩ yX8_lending, Cond.instanceMethod ⟨"FrogBreath$Reed", "lending", "(I)I"⟩, Cond.selects RX2 ⟨"FrogBreath$Reed", "lending", "(I)I"⟩ yX2_lending, Cond.instanceMethod yX2_lending, Cond.code yX2_lending cX2_lending 2 (some .int), Cond.methodLink RX2 7 ⟨"FrogBreath$Lamp", "begins", "(I)V"⟩, Cond.sameMethod "FrogBreath$Lamp" "FrogBreath$Reed" "begins" "(I)V", Cond.selects RX2 ⟨"FrogBreath$Lamp", "begins", "(I)V"⟩ yX8_begins, Cond.methodLink RX2 13 yX8_lending, Cond.superclass RX2 RX8, Cond.selects RX5 ⟨"FrogBreath$Reed", "lending", "(I)I"⟩ yX8_lending, Cond.selects RX6 ⟨"FrogBreath$Reed", "lending", "(I)I"⟩ yX6_lending]
def wsL_law_r43 : List Cond := [Cond.instanceMethod yX6_lending, Cond.code yX6_lending cX6_lending 2 (some .int), Cond.methodLink RX6 7 ⟨"FrogBreath$Muslin", "begins", "(I)V"⟩, Cond.sameMethod "FrogBreath$Muslin" "FrogBreath$Reed" "begins" "(I)V", Cond.selects RX6 ⟨"FrogBreath$Muslin", "begins", "(I)V"⟩ yX8_begins, Cond.selects RX7 ⟨"FrogBreath$Muslin", "begins", "(I)V"⟩ yX8_begins, Cond.selects RX10 ⟨"FrogBreath$Muslin", "begins", "(I)V"⟩ yX8_begins, Cond.methodLink RX6 13 yX8_lending, Cond.superclass RX6 RX8, Cond.selects RX7 ⟨"FrogBreath$Reed", "lending", "(I)I"⟩ yX6_lending, Cond.methodLink RX11 351 yX8_lending, Cond.selects RX8 yX8_lending yX8_lending, Cond.selects RX10 ⟨"FrogBreath$Reed", "lending", "(I)I"⟩ yX6_lending, Cond.methodLink RX11 354 ⟨"FrogBreath$Reed", "singing", "(I)I"⟩, Cond.sameMethod "FrogBreath$Reed" "FrogBreath$Reed" "singing" "(I)I", Cond.instanceMethod ⟨"FrogBreath$Reed", "singing", "(I)I"⟩, Cond.selects RX0 ⟨"FrogBreath$Reed", "singing", "(I)I"⟩ yX5_singing, Cond.instanceMethod yX5_singing, Cond.code yX5_singing cX5_singing 2 (some .int), Cond.methodLink RX5 7 ⟨"FrogBreath$Mill", "begins", "(I)V"⟩, Cond.sameMethod "FrogBreath$Mill" "FrogBreath$Reed" "begins" "(I)V", Cond.selects RX0 ⟨"FrogBreath$Mill", "begins", "(I)V"⟩ yX8_begins, Cond.selects RX5 ⟨"FrogBreath$Mill", "begins", "(I)V"⟩ yX8_begins, Cond.methodLink RX5 17 yX1_singing]
def wsL_law_r44 : List Cond := [Cond.sameMethod "FrogBreath$Ditch" "FrogBreath$Ditch" "singing" "(I)I", Cond.superclass RX5 RX1, Cond.instanceMethod yX1_singing, Cond.code yX1_singing cX1_singing 2 (some .int), Cond.methodLink RX1 7 ⟨"FrogBreath$Ditch", "begins", "(I)V"⟩, Cond.sameMethod "FrogBreath$Ditch" "FrogBreath$Reed" "begins" "(I)V", Cond.selects RX0 ⟨"FrogBreath$Ditch", "begins", "(I)V"⟩ yX8_begins, Cond.selects RX1 ⟨"FrogBreath$Ditch", "begins", "(I)V"⟩ yX8_begins, Cond.selects RX5 ⟨"FrogBreath$Ditch", "begins", "(I)V"⟩ yX8_begins, Cond.methodLink RX1 13 yX8_singing, Cond.superclass RX1 RX8, Cond.instanceMethod yX8_singing, Cond.code yX8_singing cX8_singing 2 (some .int), Cond.methodLink RX8 26 ⟨"FrogBreath$Reed", "lending", "(I)I"⟩, Cond.methodLink RX8 26 yX8_lending, Cond.selects RX1 ⟨"FrogBreath$Reed", "singing", "(I)I"⟩ yX1_singing, Cond.selects RX2 ⟨"FrogBreath$Reed", "singing", "(I)I"⟩ yX8_singing, Cond.selects RX5 ⟨"FrogBreath$Reed", "singing", "(I)I"⟩ yX5_singing, Cond.selects RX6 ⟨"FrogBreath$Reed", "singing", "(I)I"⟩ yX8_singing, Cond.selects RX7 ⟨"FrogBreath$Reed", "singing", "(I)I"⟩ yX8_singing, Cond.methodLink RX11 354 yX8_singing, Cond.selects RX8 yX8_singing yX8_singing, Cond.selects RX10 ⟨"FrogBreath$Reed", "singing", "(I)I"⟩ yX10_singing, Cond.instanceMethod yX10_singing]
def wsL_law_r45 : List Cond := [Cond.code yX10_singing cX10_singing 2 (some .int), Cond.methodLink RX10 7 ⟨"FrogBreath$Sigh", "begins", "(I)V"⟩, Cond.sameMethod "FrogBreath$Sigh" "FrogBreath$Reed" "begins" "(I)V", Cond.selects RX10 ⟨"FrogBreath$Sigh", "begins", "(I)V"⟩ yX8_begins, Cond.methodLink RX10 17 ⟨"FrogBreath$Sigh", "keeping", "(I)I"⟩, Cond.sameMethod "FrogBreath$Sigh" "FrogBreath$Prince" "keeping" "(I)I", Cond.selects RX10 ⟨"FrogBreath$Sigh", "keeping", "(I)I"⟩ yX7_keeping, Cond.instanceMethod yX7_keeping, Cond.code yX7_keeping cX7_keeping 2 (some .int), Cond.methodLink RX7 7 ⟨"FrogBreath$Prince", "begins", "(I)V"⟩, Cond.sameMethod "FrogBreath$Prince" "FrogBreath$Reed" "begins" "(I)V", Cond.selects RX7 ⟨"FrogBreath$Prince", "begins", "(I)V"⟩ yX8_begins, Cond.selects RX10 ⟨"FrogBreath$Prince", "begins", "(I)V"⟩ yX8_begins, Cond.methodLink RX7 17 ⟨"FrogBreath$Prince", "lending", "(I)I"⟩, Cond.sameMethod "FrogBreath$Prince" "FrogBreath$Muslin" "lending" "(I)I", Cond.selects RX7 ⟨"FrogBreath$Prince", "lending", "(I)I"⟩ yX6_lending, Cond.selects RX10 ⟨"FrogBreath$Prince", "lending", "(I)I"⟩ yX6_lending, Cond.methodLink RX11 357 ⟨"FrogBreath$Reed", "keeping", "(I)I"⟩, Cond.sameMethod "FrogBreath$Reed" "FrogBreath$Reed" "keeping" "(I)I", Cond.instanceMethod ⟨"FrogBreath$Reed", "keeping", "(I)I"⟩, Cond.selects RX0 ⟨"FrogBreath$Reed", "keeping", "(I)I"⟩ yX5_keeping, Cond.instanceMethod yX5_keeping, Cond.code yX5_keeping cX5_keeping 2 (some .int), Cond.code yX8_keeping cX8_keeping 2 (some .int)]
def wsL_law_r46 : List Cond := [Cond.selects RX1 ⟨"FrogBreath$Reed", "keeping", "(I)I"⟩ yX8_keeping, Cond.instanceMethod yX8_keeping, Cond.selects RX2 ⟨"FrogBreath$Reed", "keeping", "(I)I"⟩ yX8_keeping, Cond.selects RX5 ⟨"FrogBreath$Reed", "keeping", "(I)I"⟩ yX5_keeping, Cond.selects RX6 ⟨"FrogBreath$Reed", "keeping", "(I)I"⟩ yX8_keeping, Cond.selects RX7 ⟨"FrogBreath$Reed", "keeping", "(I)I"⟩ yX7_keeping, Cond.methodLink RX11 357 yX8_keeping, Cond.selects RX8 yX8_keeping yX8_keeping, Cond.selects RX10 ⟨"FrogBreath$Reed", "keeping", "(I)I"⟩ yX7_keeping, Cond.methodLink RX11 360 ⟨"FrogBreath$Reed", "telling", "(I)I"⟩, Cond.sameMethod "FrogBreath$Reed" "FrogBreath$Reed" "telling" "(I)I", Cond.instanceMethod ⟨"FrogBreath$Reed", "telling", "(I)I"⟩, Cond.selects RX0 ⟨"FrogBreath$Reed", "telling", "(I)I"⟩ yX0_telling, Cond.instanceMethod yX0_telling, Cond.code yX0_telling cX0_telling 2 (some .int), Cond.methodLink RX0 7 ⟨"FrogBreath$Clock", "begins", "(I)V"⟩, Cond.sameMethod "FrogBreath$Clock" "FrogBreath$Reed" "begins" "(I)V", Cond.selects RX0 ⟨"FrogBreath$Clock", "begins", "(I)V"⟩ yX8_begins, Cond.code yX8_telling cX8_telling 2 (some .int), Cond.selects RX1 ⟨"FrogBreath$Reed", "telling", "(I)I"⟩ yX8_telling, Cond.instanceMethod yX8_telling, Cond.methodLink RX8 30 ⟨"FrogBreath$Reed", "singing", "(I)I"⟩, Cond.methodLink RX8 30 yX8_singing, Cond.methodLink RX8 33 ⟨"FrogBreath$Reed", "keeping", "(I)I"⟩]
def wsL_law_r47 : List Cond := [Cond.methodLink RX8 33 yX8_keeping, Cond.selects RX2 ⟨"FrogBreath$Reed", "telling", "(I)I"⟩ yX8_telling, Cond.selects RX5 ⟨"FrogBreath$Reed", "telling", "(I)I"⟩ yX8_telling, Cond.selects RX6 ⟨"FrogBreath$Reed", "telling", "(I)I"⟩ yX8_telling, Cond.selects RX7 ⟨"FrogBreath$Reed", "telling", "(I)I"⟩ yX8_telling, Cond.methodLink RX11 360 yX8_telling, Cond.selects RX8 yX8_telling yX8_telling, Cond.selects RX10 ⟨"FrogBreath$Reed", "telling", "(I)I"⟩ yX10_telling, Cond.instanceMethod yX10_telling, Cond.code yX10_telling cX10_telling 2 (some .int), Cond.methodLink RL 148 yX12_act, Cond.instanceMethod yX12_act, Cond.selects RX12 yX12_act yX12_act, Cond.code yX12_act cX12_act 5 (some .int), Cond.fieldLink RX12 341 "FrogBreathModel" "traced" "I", Cond.methodLink RX12 347 yX12_lendsBy, Cond.instanceMethod yX12_lendsBy, Cond.selects RX12 yX12_lendsBy yX12_lendsBy, Cond.code yX12_lendsBy cX12_lendsBy 4 (some .int), Cond.methodLink RX12 344 yX12_ran, Cond.instanceMethod yX12_ran, Cond.selects RX12 yX12_ran yX12_ran, Cond.code yX12_ran cX12_ran 2 none, Cond.methodLink RX12 350 yX12_above]
def wsL_law_r48 : List Cond := [Cond.static yX12_above, Cond.code yX12_above cX12_above 1 (some .int), Cond.methodLink RX12 353 yX12_singsBy, Cond.instanceMethod yX12_singsBy, Cond.selects RX12 yX12_singsBy yX12_singsBy, Cond.code yX12_singsBy cX12_singsBy 5 (some .int), Cond.methodLink RX12 356 yX12_keepsBy, Cond.instanceMethod yX12_keepsBy, Cond.selects RX12 yX12_keepsBy yX12_keepsBy, Cond.code yX12_keepsBy cX12_keepsBy 5 (some .int), Cond.methodLink RX12 359 yX12_tells, Cond.instanceMethod yX12_tells, Cond.selects RX12 yX12_tells yX12_tells, Cond.code yX12_tells cX12_tells 5 (some .int), Cond.methodLink RL 149 yX11_trace, Cond.instanceMethod yX11_trace, Cond.selects RX11 yX11_trace yX11_trace, Cond.code yX11_trace cX11_trace 2 (some .int), Cond.methodLink RL 152 yX12_trace, Cond.instanceMethod yX12_trace, Cond.selects RX12 yX12_trace yX12_trace, Cond.code yX12_trace cX12_trace 2 (some .int), Cond.methodLink RL 153 yX11_keep, Cond.instanceMethod yX11_keep]
def wsL_law_r49 : List Cond := [Cond.selects RX11 yX11_keep yX11_keep, Cond.code yX11_keep cX11_keep 3 (some .int), Cond.methodLink RX11 363 yX9_hold, Cond.instanceMethod yX9_hold, Cond.selects RX9 yX9_hold yX9_hold, Cond.code yX9_hold cX9_hold 2 none, Cond.methodLink RL 156 yX12_keep, Cond.instanceMethod yX12_keep, Cond.selects RX12 yX12_keep yX12_keep, Cond.code yX12_keep cX12_keep 3 (some .int), Cond.methodLink RL 157 yX11_row, Cond.instanceMethod yX11_row, Cond.selects RX11 yX11_row yX11_row, Cond.code yX11_row cX11_row 4 (some .int), Cond.methodLink RX11 367 yX9_holdRow, Cond.instanceMethod yX9_holdRow, Cond.selects RX9 yX9_holdRow yX9_holdRow, Cond.code yX9_holdRow cX9_holdRow 3 none, Cond.methodLink RX9 26 yJ7_fill_d0a16, Cond.static yJ7_fill_d0a16, Cond.code yJ7_fill_d0a16 cJ7_fill_d0a16 5 none, Cond.methodLink RL 160 yX12_row, Cond.instanceMethod yX12_row, Cond.selects RX12 yX12_row yX12_row]
def wsL_law_r50 : List Cond := [Cond.code yX12_row cX12_row 5 (some .int), Cond.methodLink RL 163 yX11_put, Cond.instanceMethod yX11_put, Cond.selects RX11 yX11_put yX11_put, Cond.code yX11_put cX11_put 6 (some .int), Cond.methodLink RX11 370 yX11_elementRefusal, Cond.instanceMethod yX11_elementRefusal, Cond.selects RX11 yX11_elementRefusal yX11_elementRefusal, Cond.code yX11_elementRefusal cX11_elementRefusal 3 (some .int), Cond.methodLink RX11 380 yX9_isRow, Cond.instanceMethod yX9_isRow, Cond.selects RX9 yX9_isRow yX9_isRow, Cond.code yX9_isRow cX9_isRow 1 (some .boolean), Cond.methodLink RX11 373 yX9_become, Cond.instanceMethod yX9_become, Cond.selects RX9 yX9_become yX9_become, Cond.code yX9_become cX9_become 4 none, Cond.methodLink RL 167 yX12_put, Cond.instanceMethod yX12_put, Cond.selects RX12 yX12_put yX12_put, Cond.code yX12_put cX12_put 5 (some .int), Cond.methodLink RX12 365 yX12_isRow, Cond.instanceMethod yX12_isRow, Cond.selects RX12 yX12_isRow yX12_isRow]
def wsL_law_r51 : List Cond := [Cond.code yX12_isRow cX12_isRow 2 (some .boolean), Cond.methodLink RX12 368 yX12_kept, Cond.static yX12_kept, Cond.code yX12_kept cX12_kept 3 (some .long), Cond.methodLink RL 168 yX11_element, Cond.instanceMethod yX11_element, Cond.selects RX11 yX11_element yX11_element, Cond.code yX11_element cX11_element 3 (some .long), Cond.constantLong RX11 378 (-9223372036854775808), Cond.methodLink RL 172 yX12_element, Cond.instanceMethod yX12_element, Cond.selects RX12 yX12_element yX12_element, Cond.code yX12_element cX12_element 3 (some .long), Cond.constantLong RX12 372 (-9223372036854775808), Cond.methodLink RL 173 yX11_shift, Cond.instanceMethod yX11_shift, Cond.selects RX11 yX11_shift yX11_shift, Cond.code yX11_shift cX11_shift 8 (some .int), Cond.fieldLink RX11 383 "FrogBreath$Shelf" "sort" "I", Cond.fieldLink RX11 386 "FrogBreath$Shelf" "elements" "[J", Cond.methodLink RL 177 yX12_shift, Cond.instanceMethod yX12_shift, Cond.selects RX12 yX12_shift yX12_shift, Cond.code yX12_shift cX12_shift 7 (some .int)]
def wsL_law_r52 : List Cond := [Cond.methodLink RL 178 yX11_taken, Cond.instanceMethod yX11_taken, Cond.selects RX11 yX11_taken yX11_taken, Cond.code yX11_taken cX11_taken 4 (some .int), Cond.fieldLink RX11 390 "FrogBreath$Shelf" "reed" "LFrogBreath$Reed;", Cond.fieldLink RX11 398 "FrogBreath$Reed" "kind" "I", Cond.methodLink RX11 394 yX11_isOfKind, Cond.static yX11_isOfKind, Cond.code yX11_isOfKind cX11_isOfKind 2 (some .boolean), Cond.classLink RX11 327 "FrogBreath$Muslin", Cond.classLink RX11 332 "FrogBreath$Ditch", Cond.classLink RX11 335 "FrogBreath$Mill", Cond.classLink RX11 338 "FrogBreath$Prince", Cond.classLink RX11 341 "FrogBreath$Clock", Cond.classLink RX11 344 "FrogBreath$Lamp", Cond.classLink RX11 347 "FrogBreath$Sigh", Cond.methodLink RL 181 yX12_taken, Cond.instanceMethod yX12_taken, Cond.selects RX12 yX12_taken yX12_taken, Cond.code yX12_taken cX12_taken 5 (some .int), Cond.methodLink RL 182 yX11_count, Cond.instanceMethod yX11_count, Cond.selects RX11 yX11_count yX11_count, Cond.code yX11_count cX11_count 2 (some .int)]
def wsL_law_r53 : List Cond := [Cond.methodLink RL 185 yX12_count, Cond.instanceMethod yX12_count, Cond.selects RX12 yX12_count yX12_count, Cond.code yX12_count cX12_count 2 (some .int)]
def wsL_law : List Cond := (wsL_law_r1 ++ (wsL_law_r2 ++ (wsL_law_r3 ++ (wsL_law_r4 ++ (wsL_law_r5 ++ (wsL_law_r6 ++ (wsL_law_r7 ++ (wsL_law_r8 ++ (wsL_law_r9 ++ (wsL_law_r10 ++ (wsL_law_r11 ++ (wsL_law_r12 ++ (wsL_law_r13 ++ (wsL_law_r14 ++ (wsL_law_r15 ++ (wsL_law_r16 ++ (wsL_law_r17 ++ (wsL_law_r18 ++ (wsL_law_r19 ++ (wsL_law_r20 ++ (wsL_law_r21 ++ (wsL_law_r22 ++ (wsL_law_r23 ++ (wsL_law_r24 ++ (wsL_law_r25 ++ (wsL_law_r26 ++ (wsL_law_r27 ++ (wsL_law_r28 ++ (wsL_law_r29 ++ (wsL_law_r30 ++ (wsL_law_r31 ++ (wsL_law_r32 ++ (wsL_law_r33 ++ (wsL_law_r34 ++ (wsL_law_r35 ++ (wsL_law_r36 ++ (wsL_law_r37 ++ (wsL_law_r38 ++ (wsL_law_r39 ++ (wsL_law_r40 ++ (wsL_law_r41 ++ (wsL_law_r42 ++ (wsL_law_r43 ++ (wsL_law_r44 ++ (wsL_law_r45 ++ (wsL_law_r46 ++ (wsL_law_r47 ++ (wsL_law_r48 ++ (wsL_law_r49 ++ (wsL_law_r50 ++ (wsL_law_r51 ++ (wsL_law_r52 ++ wsL_law_r53)))))))))))))))))))))))))))))))))))))))))))))))))))) ++ wsX110 ++ wsX120 ++ wsX40 ++ wsX30 ++ wsX90 ++ wsX60 ++ wsX10 ++ wsX50 ++ wsX70 ++ wsX00 ++ wsX20 ++ wsX100 ++ wsX80 ++ ([] : List Cond)
abbrev vwCl : List vw_C := [(RX0, TX0, 3), (RX1, TX1, 3), (RX2, TX2, 3), (RX3, TX3, 9), (RX4, TX4, 11), (RX5, TX5, 3), (RX6, TX6, 3), (RX7, TX7, 3), (RX8, TX8, 3), (RX9, TX9, 4), (RX10, TX10, 3), (RX11, TX11, 17), (RX12, TX12, 48)]
set_option maxRecDepth 20000 in
theorem wg_1 : GoodIn lw_tbl wsL_law_r1 := goodIn_r _ [104, 105, 87, 985, 986, 91, 1538, 106, 107, 108, 109, 110, 111, 112, 113, 88, 225, 226, 227, 162, 163, 89, 229, 230] (by decide +kernel) (by decide +kernel)
set_option maxRecDepth 20000 in
theorem wg_2 : GoodIn lw_tbl wsL_law_r2 := goodIn_r _ [161, 231, 196, 233, 236, 237, 198, 238, 240, 200, 241, 202, 90, 115, 116, 117, 118, 119, 121, 123, 125, 127, 129, 135] (by decide +kernel) (by decide +kernel)
set_option maxRecDepth 20000 in
theorem wg_3 : GoodIn lw_tbl wsL_law_r3 := goodIn_r _ [165, 166, 167, 168, 169, 170, 171, 204, 205, 206, 224, 207, 211, 987, 988, 989, 990, 993, 994, 996, 999, 1000, 1001, 1002] (by decide +kernel) (by decide +kernel)
set_option maxRecDepth 20000 in
theorem wg_4 : GoodIn lw_tbl wsL_law_r4 := goodIn_r _ [1007, 1008, 1009, 1010, 1011, 1012, 1013, 1017, 1018, 1021, 1023, 1025, 1026, 1027, 1028, 1031, 1032, 1033, 1034, 1035, 1036, 1038, 277, 278] (by decide +kernel) (by decide +kernel)
set_option maxRecDepth 20000 in
theorem wg_5 : GoodIn lw_tbl wsL_law_r5 := goodIn_r _ [279, 280, 281, 283, 0, 284, 285, 286, 287, 288, 289, 290, 291, 131, 293, 294, 295, 296, 1136, 1137, 1138, 1139, 991, 1140] (by decide +kernel) (by decide +kernel)
set_option maxRecDepth 20000 in
theorem wg_6 : GoodIn lw_tbl wsL_law_r6 := goodIn_r _ [1141, 1142, 1143, 1144, 1145, 297, 298, 299, 300, 301, 302, 303, 304, 133, 1146, 1147, 1148, 1149, 992, 1150, 1152, 36, 1153, 305] (by decide +kernel) (by decide +kernel)
set_option maxRecDepth 20000 in
theorem wg_7 : GoodIn lw_tbl wsL_law_r7 := goodIn_r _ [306, 307, 308, 309, 310, 311, 312, 313, 314, 315, 209, 316, 317, 318, 319, 320, 321, 322, 323, 213, 324, 326, 1, 327] (by decide +kernel) (by decide +kernel)
set_option maxRecDepth 20000 in
theorem wg_8 : GoodIn lw_tbl wsL_law_r8 := goodIn_r _ [328, 329, 330, 331, 332, 1154, 1155, 1156, 1157, 1161, 1158, 1159, 1160, 1162, 1164, 37, 1165, 1166, 1168, 38, 1169, 1170, 1172, 39] (by decide +kernel) (by decide +kernel)
set_option maxRecDepth 20000 in
theorem wg_9 : GoodIn lw_tbl wsL_law_r9 := goodIn_r _ [1173, 333, 334, 335, 336, 346, 337, 338, 339, 340, 341, 342, 343, 344, 345, 347, 348, 349, 350, 137, 351, 353, 2, 354] (by decide +kernel) (by decide +kernel)
set_option maxRecDepth 20000 in
theorem wg_10 : GoodIn lw_tbl wsL_law_r10 := goodIn_r _ [235, 234, 355, 357, 3, 358, 359, 361, 360, 92, 362, 363, 364, 365, 366, 1174, 1175, 1176, 1177, 1190, 1020, 1019, 1178, 1180] (by decide +kernel) (by decide +kernel)
set_option maxRecDepth 20000 in
theorem wg_11 : GoodIn lw_tbl wsL_law_r11 := goodIn_r _ [40, 1181, 1182, 1184, 41, 1185, 1186, 1188, 42, 1189, 1191, 1193, 43, 1194, 1195, 1197, 44, 1198, 367, 368, 369, 370, 1199, 1200] (by decide +kernel) (by decide +kernel)
set_option maxRecDepth 20000 in
theorem wg_12 : GoodIn lw_tbl wsL_law_r12 := goodIn_r _ [1201, 1202, 371, 372, 373, 374, 232, 1211, 1212, 1213, 1214, 995, 375, 376, 377, 378, 379, 380, 381, 382, 174, 383, 384, 93] (by decide +kernel) (by decide +kernel)
set_option maxRecDepth 20000 in
theorem wg_13 : GoodIn lw_tbl wsL_law_r13 := goodIn_r _ [385, 175, 176, 172, 386, 388, 4, 389, 390, 392, 5, 393, 394, 396, 6, 418, 419, 420, 407, 409, 9, 410, 397, 398] (by decide +kernel) (by decide +kernel)
set_option maxRecDepth 20000 in
theorem wg_14 : GoodIn lw_tbl wsL_law_r14 := goodIn_r _ [400, 7, 401, 403, 405, 8, 406, 411, 412, 413, 414, 416, 10, 417, 1215, 1216, 1217, 1218, 1003, 1004, 1005, 1006, 997, 998] (by decide +kernel) (by decide +kernel)
set_option maxRecDepth 20000 in
theorem wg_15 : GoodIn lw_tbl wsL_law_r15 := goodIn_r _ [1219, 1221, 45, 1222, 1223, 1225, 46, 1226, 1227, 1229, 47, 1262, 1264, 55, 1265, 1251, 1253, 53, 1254, 1255, 1257, 54, 1258, 1230] (by decide +kernel) (by decide +kernel)
set_option maxRecDepth 20000 in
theorem wg_16 : GoodIn lw_tbl wsL_law_r16 := goodIn_r _ [1231, 1233, 48, 1234, 1235, 1237, 49, 1246, 1247, 1249, 52, 1250, 1259, 1260, 1261, 1243, 1245, 51, 1242, 1238, 1239, 1241, 50, 421] (by decide +kernel) (by decide +kernel)
set_option maxRecDepth 20000 in
theorem wg_17 : GoodIn lw_tbl wsL_law_r17 := goodIn_r _ [422, 423, 424, 425, 426, 427, 428, 429, 455, 456, 457, 458, 430, 431, 432, 433, 434, 435, 436, 437, 438, 439, 440, 441] (by decide +kernel) (by decide +kernel)
set_option maxRecDepth 20000 in
theorem wg_18 : GoodIn lw_tbl wsL_law_r18 := goodIn_r _ [442, 443, 173, 444, 446, 11, 447, 448, 450, 12, 451, 452, 453, 454, 1266, 1267, 1268, 1269, 1270, 1272, 56, 1273, 1297, 1298] (by decide +kernel) (by decide +kernel)
set_option maxRecDepth 20000 in
theorem wg_19 : GoodIn lw_tbl wsL_law_r19 := goodIn_r _ [1274, 1276, 57, 1277, 1278, 1280, 58, 1281, 1282, 1284, 59, 1285, 1286, 1287, 1288, 1289, 1290, 1292, 60, 1293, 1294, 1295, 1296, 459] (by decide +kernel) (by decide +kernel)
set_option maxRecDepth 20000 in
theorem wg_20 : GoodIn lw_tbl wsL_law_r20 := goodIn_r _ [460, 461, 462, 128, 122, 126, 120, 463, 465, 13, 466, 467, 468, 469, 470, 471, 472, 473, 474, 475, 476, 477, 478, 479] (by decide +kernel) (by decide +kernel)
set_option maxRecDepth 20000 in
theorem wg_21 : GoodIn lw_tbl wsL_law_r21 := goodIn_r _ [480, 481, 482, 483, 484, 485, 486, 487, 488, 489, 94, 490, 491, 492, 493, 494, 495, 496, 497, 498, 1299, 1300, 1301, 1302] (by decide +kernel) (by decide +kernel)
set_option maxRecDepth 20000 in
theorem wg_22 : GoodIn lw_tbl wsL_law_r22 := goodIn_r _ [1303, 1305, 61, 1306, 1307, 1309, 62, 1310, 1311, 1313, 63, 1314, 1029, 1030, 1315, 1317, 64, 1318, 1319, 1320, 1321, 1322, 1324, 65] (by decide +kernel) (by decide +kernel)
set_option maxRecDepth 20000 in
theorem wg_23 : GoodIn lw_tbl wsL_law_r23 := goodIn_r _ [1325, 1326, 1328, 66, 1329, 499, 500, 501, 502, 503, 504, 505, 506, 507, 508, 509, 510, 1330, 1331, 1332, 1333, 1334, 1336, 67] (by decide +kernel) (by decide +kernel)
set_option maxRecDepth 20000 in
theorem wg_24 : GoodIn lw_tbl wsL_law_r24 := goodIn_r _ [1337, 1338, 1340, 68, 1341, 511, 512, 513, 514, 1342, 1343, 1344, 1345, 515, 516, 517, 518, 519, 521, 14, 522, 523, 525, 15] (by decide +kernel) (by decide +kernel)
set_option maxRecDepth 20000 in
theorem wg_25 : GoodIn lw_tbl wsL_law_r25 := goodIn_r _ [526, 527, 528, 529, 530, 531, 533, 16, 534, 535, 536, 537, 539, 17, 540, 1346, 1347, 1348, 1349, 1350, 1352, 69, 1353, 1354] (by decide +kernel) (by decide +kernel)
set_option maxRecDepth 20000 in
theorem wg_26 : GoodIn lw_tbl wsL_law_r26 := goodIn_r _ [1356, 70, 1357, 1358, 1360, 71, 1361, 541, 542, 543, 544, 134, 1362, 1363, 1364, 1365, 545, 546, 547, 548, 549, 551, 18, 552] (by decide +kernel) (by decide +kernel)
set_option maxRecDepth 20000 in
theorem wg_27 : GoodIn lw_tbl wsL_law_r27 := goodIn_r _ [132, 553, 555, 19, 556, 564, 557, 558, 95, 559, 560, 562, 20, 563, 565, 567, 21, 568, 569, 571, 22, 572, 1366, 1367] (by decide +kernel) (by decide +kernel)
set_option maxRecDepth 20000 in
theorem wg_28 : GoodIn lw_tbl wsL_law_r28 := goodIn_r _ [1368, 1369, 1037, 1370, 1372, 72, 1373, 573, 574, 575, 576, 577, 579, 23, 580, 1374, 1375, 1376, 1377, 1378, 1380, 73, 1381, 581] (by decide +kernel) (by decide +kernel)
set_option maxRecDepth 20000 in
theorem wg_29 : GoodIn lw_tbl wsL_law_r29 := goodIn_r _ [582, 583, 584, 585, 587, 24, 588, 589, 591, 25, 592, 124, 593, 594, 595, 596, 597, 598, 1382, 1383, 1384, 1385, 1386, 1387] (by decide +kernel) (by decide +kernel)
set_option maxRecDepth 20000 in
theorem wg_30 : GoodIn lw_tbl wsL_law_r30 := goodIn_r _ [1388, 599, 600, 601, 602, 603, 605, 26, 606, 607, 609, 27, 610, 611, 1389, 1390, 1391, 1392, 1393, 1394, 1396, 74, 1397, 612] (by decide +kernel) (by decide +kernel)
set_option maxRecDepth 20000 in
theorem wg_31 : GoodIn lw_tbl wsL_law_r31 := goodIn_r _ [613, 614, 615, 616, 617, 618, 619, 621, 28, 622, 214, 623, 624, 1398, 1399, 1400, 1401, 1402, 1404, 75, 1405, 1406, 1408, 76] (by decide +kernel) (by decide +kernel)
set_option maxRecDepth 20000 in
theorem wg_32 : GoodIn lw_tbl wsL_law_r32 := goodIn_r _ [1409, 625, 626, 627, 628, 629, 631, 29, 632, 633, 635, 30, 636, 1410, 1411, 1412, 1413, 637, 638, 639, 640, 641, 643, 31] (by decide +kernel) (by decide +kernel)
set_option maxRecDepth 20000 in
theorem wg_33 : GoodIn lw_tbl wsL_law_r33 := goodIn_r _ [644, 1414, 1415, 1416, 1417, 645, 646, 647, 648, 649, 650, 651, 652, 1418, 1419, 1420, 1421, 1422, 1424, 77, 1425, 653, 654, 655] (by decide +kernel) (by decide +kernel)
set_option maxRecDepth 20000 in
theorem wg_34 : GoodIn lw_tbl wsL_law_r34 := goodIn_r _ [656, 136, 657, 658, 659, 660, 662, 32, 663, 664, 666, 33, 667, 1426, 1427, 1428, 1429, 1430, 1432, 78, 1433, 1434, 1436, 79] (by decide +kernel) (by decide +kernel)
set_option maxRecDepth 20000 in
theorem wg_35 : GoodIn lw_tbl wsL_law_r35 := goodIn_r _ [1437, 668, 669, 670, 671, 672, 673, 674, 675, 676, 1438, 1439, 1440, 1441, 1442, 677, 678, 679, 680, 1443, 1444, 1445, 1446, 681] (by decide +kernel) (by decide +kernel)
set_option maxRecDepth 20000 in
theorem wg_36 : GoodIn lw_tbl wsL_law_r36 := goodIn_r _ [682, 683, 684, 130, 1447, 1448, 1449, 1450, 685, 686, 687, 688, 689, 1451, 1452, 1453, 1454, 690, 691, 692, 693, 1455, 1456, 1457] (by decide +kernel) (by decide +kernel)
set_option maxRecDepth 20000 in
theorem wg_37 : GoodIn lw_tbl wsL_law_r37 := goodIn_r _ [1458, 694, 695, 696, 697, 228, 1459, 1460, 1461, 1462, 1014, 1015, 1016, 698, 699, 700, 701, 702, 1463, 1464, 1465, 1466, 703, 704] (by decide +kernel) (by decide +kernel)
set_option maxRecDepth 20000 in
theorem wg_38 : GoodIn lw_tbl wsL_law_r38 := goodIn_r _ [705, 706, 1203, 1204, 1205, 1206, 707, 708, 709, 710, 1207, 1208, 1209, 1210, 711, 712, 713, 714, 239, 715, 717, 34, 718, 719] (by decide +kernel) (by decide +kernel)
set_option maxRecDepth 20000 in
theorem wg_39 : GoodIn lw_tbl wsL_law_r39 := goodIn_r _ [720, 97, 739, 740, 98, 749, 750, 99, 759, 760, 100, 769, 770, 101, 779, 780, 102, 789, 790, 103, 799, 96, 721, 722] (by decide +kernel) (by decide +kernel)
set_option maxRecDepth 20000 in
theorem wg_40 : GoodIn lw_tbl wsL_law_r40 := goodIn_r _ [723, 724, 725, 726, 727, 728, 730, 731, 741, 742, 743, 744, 751, 752, 753, 754, 761, 762, 763, 764, 771, 772, 773, 774] (by decide +kernel) (by decide +kernel)
set_option maxRecDepth 20000 in
theorem wg_41 : GoodIn lw_tbl wsL_law_r41 := goodIn_r _ [781, 782, 783, 784, 791, 792, 793, 794, 800, 1467, 1468, 1469, 1470, 1022, 805, 806, 807, 808, 809, 812, 813, 810, 837, 838] (by decide +kernel) (by decide +kernel)
set_option maxRecDepth 20000 in
theorem wg_42 : GoodIn lw_tbl wsL_law_r42 := goodIn_r _ [1539, 1540, 822, 823, 1541, 1542, 1543, 1544, 1545, 838, 1546, 1547, 814, 810, 815, 816, 817, 818, 819, 821, 824, 788, 825, 826] (by decide +kernel) (by decide +kernel)
set_option maxRecDepth 20000 in
theorem wg_43 : GoodIn lw_tbl wsL_law_r43 := goodIn_r _ [827, 828, 829, 830, 831, 832, 833, 834, 738, 835, 809, 811, 836, 839, 842, 840, 843, 844, 845, 846, 847, 848, 849, 850] (by decide +kernel) (by decide +kernel)
set_option maxRecDepth 20000 in
theorem wg_44 : GoodIn lw_tbl wsL_law_r44 := goodIn_r _ [1548, 758, 851, 852, 853, 854, 855, 856, 857, 858, 748, 840, 893, 894, 894, 859, 860, 861, 862, 863, 839, 841, 864, 865] (by decide +kernel) (by decide +kernel)
set_option maxRecDepth 20000 in
theorem wg_45 : GoodIn lw_tbl wsL_law_r45 := goodIn_r _ [866, 867, 868, 869, 873, 874, 876, 877, 878, 879, 880, 881, 882, 888, 889, 891, 892, 895, 1549, 886, 1550, 896, 897, 887] (by decide +kernel) (by decide +kernel)
set_option maxRecDepth 20000 in
theorem wg_46 : GoodIn lw_tbl wsL_law_r46 := goodIn_r _ [1551, 886, 1552, 1553, 1554, 1555, 895, 1556, 1557, 900, 903, 901, 904, 905, 906, 907, 908, 909, 923, 913, 901, 924, 924, 925] (by decide +kernel) (by decide +kernel)
set_option maxRecDepth 20000 in
theorem wg_47 : GoodIn lw_tbl wsL_law_r47 := goodIn_r _ [925, 914, 915, 916, 917, 900, 902, 918, 919, 920, 1471, 1472, 1473, 1474, 1024, 1475, 1477, 80, 1478, 1479, 1481, 81, 1482, 1483] (by decide +kernel) (by decide +kernel)
set_option maxRecDepth 20000 in
theorem wg_48 : GoodIn lw_tbl wsL_law_r48 := goodIn_r _ [1484, 1485, 1486, 1488, 82, 1489, 1490, 1492, 83, 1493, 1494, 1496, 84, 1497, 926, 927, 928, 929, 1498, 1499, 1500, 1501, 930, 931] (by decide +kernel) (by decide +kernel)
set_option maxRecDepth 20000 in
theorem wg_49 : GoodIn lw_tbl wsL_law_r49 := goodIn_r _ [932, 933, 934, 935, 936, 937, 1502, 1503, 1504, 1505, 938, 939, 940, 941, 942, 943, 944, 945, 946, 947, 948, 1506, 1507, 1508] (by decide +kernel) (by decide +kernel)
set_option maxRecDepth 20000 in
theorem wg_50 : GoodIn lw_tbl wsL_law_r50 := goodIn_r _ [1509, 949, 950, 951, 952, 953, 955, 35, 956, 957, 958, 959, 960, 961, 962, 963, 964, 1510, 1511, 1512, 1513, 1514, 1516, 85] (by decide +kernel) (by decide +kernel)
set_option maxRecDepth 20000 in
theorem wg_51 : GoodIn lw_tbl wsL_law_r51 := goodIn_r _ [1517, 1518, 1519, 1520, 965, 966, 967, 968, 969, 1521, 1522, 1523, 1524, 1525, 970, 971, 972, 973, 212, 208, 1526, 1527, 1528, 1529] (by decide +kernel) (by decide +kernel)
set_option maxRecDepth 20000 in
theorem wg_52 : GoodIn lw_tbl wsL_law_r52 := goodIn_r _ [974, 975, 976, 977, 210, 729, 978, 979, 980, 719, 739, 749, 759, 769, 779, 789, 1530, 1531, 1532, 1533, 981, 982, 983, 984] (by decide +kernel) (by decide +kernel)
set_option maxRecDepth 20000 in
theorem wg_53 : GoodIn lw_tbl wsL_law_r53 := goodIn_r _ [1534, 1535, 1536, 1537] (by decide +kernel) (by decide +kernel)
set_option maxRecDepth 20000 in
theorem wg_wsX110 : GoodIn lw_tbl wsX110 := goodIn_r _ [242, 244, 246, 248, 250, 252, 254, 256, 258, 260, 262, 264, 266, 268, 270, 272, 274] (by decide +kernel) (by decide +kernel)
set_option maxRecDepth 20000 in
theorem wg_wsX120 : GoodIn lw_tbl wsX120 := goodIn_r _ [1039, 1041, 1043, 1045, 1047, 1049, 1051, 1053, 1055, 1057, 1059, 1061, 1063, 1065, 1067, 1069, 1071, 1073, 1075, 1077, 1079, 1081, 1083, 1085, 1087, 1089, 1091, 1093, 1095, 1097, 1099, 1101, 1103, 1105, 1107, 1109, 1111, 1113, 1115, 1117, 1119, 1121, 1123, 1125, 1127, 1129, 1131, 1133] (by decide +kernel) (by decide +kernel)
set_option maxRecDepth 20000 in
theorem wg_wsX40 : GoodIn lw_tbl wsX40 := goodIn_r _ [138, 140, 142, 144, 146, 148, 150, 152, 154, 156, 158] (by decide +kernel) (by decide +kernel)
set_option maxRecDepth 20000 in
theorem wg_wsX30 : GoodIn lw_tbl wsX30 := goodIn_r _ [177, 179, 181, 183, 185, 187, 189, 191, 193] (by decide +kernel) (by decide +kernel)
set_option maxRecDepth 20000 in
theorem wg_wsX90 : GoodIn lw_tbl wsX90 := goodIn_r _ [215, 217, 219, 221] (by decide +kernel) (by decide +kernel)
set_option maxRecDepth 20000 in
theorem wg_wsX60 : GoodIn lw_tbl wsX60 := goodIn_r _ [732, 734, 736] (by decide +kernel) (by decide +kernel)
set_option maxRecDepth 20000 in
theorem wg_wsX10 : GoodIn lw_tbl wsX10 := goodIn_r _ [745, 746, 747] (by decide +kernel) (by decide +kernel)
set_option maxRecDepth 20000 in
theorem wg_wsX50 : GoodIn lw_tbl wsX50 := goodIn_r _ [755, 756, 757] (by decide +kernel) (by decide +kernel)
set_option maxRecDepth 20000 in
theorem wg_wsX70 : GoodIn lw_tbl wsX70 := goodIn_r _ [765, 766, 767] (by decide +kernel) (by decide +kernel)
set_option maxRecDepth 20000 in
theorem wg_wsX00 : GoodIn lw_tbl wsX00 := goodIn_r _ [775, 776, 777] (by decide +kernel) (by decide +kernel)
set_option maxRecDepth 20000 in
theorem wg_wsX20 : GoodIn lw_tbl wsX20 := goodIn_r _ [785, 786, 787] (by decide +kernel) (by decide +kernel)
set_option maxRecDepth 20000 in
theorem wg_wsX100 : GoodIn lw_tbl wsX100 := goodIn_r _ [795, 796, 797] (by decide +kernel) (by decide +kernel)
set_option maxRecDepth 20000 in
theorem wg_wsX80 : GoodIn lw_tbl wsX80 := goodIn_r _ [801, 802, 803] (by decide +kernel) (by decide +kernel)
