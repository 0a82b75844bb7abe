/-! facts behind the tables, by program (wip/p44/gen_facts.py) -/
def TS : List Cond := wsL_law
theorem ts_1 : ∀ w ∈ wsL_law_r1, w ∈ TS := fun w h => wl_1 w h
theorem ts_2 : ∀ w ∈ wsL_law_r2, w ∈ TS := fun w h => wl_2 w h
theorem ts_3 : ∀ w ∈ wsL_law_r3, w ∈ TS := fun w h => wl_3 w h
theorem ts_4 : ∀ w ∈ wsL_law_r4, w ∈ TS := fun w h => wl_4 w h
theorem ts_5 : ∀ w ∈ wsL_law_r5, w ∈ TS := fun w h => wl_5 w h
theorem ts_6 : ∀ w ∈ wsL_law_r6, w ∈ TS := fun w h => wl_6 w h
theorem ts_7 : ∀ w ∈ wsL_law_r7, w ∈ TS := fun w h => wl_7 w h
theorem ts_8 : ∀ w ∈ wsL_law_r8, w ∈ TS := fun w h => wl_8 w h
theorem ts_9 : ∀ w ∈ wsL_law_r9, w ∈ TS := fun w h => wl_9 w h
theorem ts_10 : ∀ w ∈ wsL_law_r10, w ∈ TS := fun w h => wl_10 w h
theorem ts_11 : ∀ w ∈ wsL_law_r11, w ∈ TS := fun w h => wl_11 w h
theorem ts_12 : ∀ w ∈ wsL_law_r12, w ∈ TS := fun w h => wl_12 w h
theorem ts_13 : ∀ w ∈ wsL_law_r13, w ∈ TS := fun w h => wl_13 w h
theorem ts_14 : ∀ w ∈ wsL_law_r14, w ∈ TS := fun w h => wl_14 w h
theorem ts_15 : ∀ w ∈ wsL_law_r15, w ∈ TS := fun w h => wl_15 w h
theorem ts_16 : ∀ w ∈ wsL_law_r16, w ∈ TS := fun w h => wl_16 w h
theorem ts_17 : ∀ w ∈ wsL_law_r17, w ∈ TS := fun w h => wl_17 w h
theorem ts_18 : ∀ w ∈ wsL_law_r18, w ∈ TS := fun w h => wl_18 w h
theorem ts_19 : ∀ w ∈ wsL_law_r19, w ∈ TS := fun w h => wl_19 w h
theorem ts_20 : ∀ w ∈ wsL_law_r20, w ∈ TS := fun w h => wl_20 w h
theorem ts_21 : ∀ w ∈ wsL_law_r21, w ∈ TS := fun w h => wl_21 w h
theorem ts_22 : ∀ w ∈ wsL_law_r22, w ∈ TS := fun w h => wl_22 w h
theorem ts_23 : ∀ w ∈ wsL_law_r23, w ∈ TS := fun w h => wl_23 w h
theorem ts_24 : ∀ w ∈ wsL_law_r24, w ∈ TS := fun w h => wl_24 w h
theorem ts_25 : ∀ w ∈ wsL_law_r25, w ∈ TS := fun w h => wl_25 w h
theorem ts_26 : ∀ w ∈ wsL_law_r26, w ∈ TS := fun w h => wl_26 w h
theorem ts_27 : ∀ w ∈ wsL_law_r27, w ∈ TS := fun w h => wl_27 w h
theorem ts_28 : ∀ w ∈ wsL_law_r28, w ∈ TS := fun w h => wl_28 w h
theorem ts_29 : ∀ w ∈ wsL_law_r29, w ∈ TS := fun w h => wl_29 w h
theorem ts_30 : ∀ w ∈ wsL_law_r30, w ∈ TS := fun w h => wl_30 w h
theorem ts_31 : ∀ w ∈ wsL_law_r31, w ∈ TS := fun w h => wl_31 w h
theorem ts_32 : ∀ w ∈ wsL_law_r32, w ∈ TS := fun w h => wl_32 w h
theorem ts_33 : ∀ w ∈ wsL_law_r33, w ∈ TS := fun w h => wl_33 w h
theorem ts_34 : ∀ w ∈ wsL_law_r34, w ∈ TS := fun w h => wl_34 w h
theorem ts_35 : ∀ w ∈ wsL_law_r35, w ∈ TS := fun w h => wl_35 w h
theorem ts_36 : ∀ w ∈ wsL_law_r36, w ∈ TS := fun w h => wl_36 w h
theorem ts_wsX110 : ∀ w ∈ wsX110, w ∈ TS := fun w h => List.mem_append_left _ (List.mem_append_left _ (List.mem_append_left _ (List.mem_append_left _ (List.mem_append_left _ (List.mem_append_left _ (List.mem_append_right _ h))))))
theorem ts_wsX40 : ∀ w ∈ wsX40, w ∈ TS := fun w h => List.mem_append_left _ (List.mem_append_left _ (List.mem_append_left _ (List.mem_append_left _ (List.mem_append_left _ (List.mem_append_right _ h)))))
theorem ts_wsX30 : ∀ w ∈ wsX30, w ∈ TS := fun w h => List.mem_append_left _ (List.mem_append_left _ (List.mem_append_left _ (List.mem_append_left _ (List.mem_append_right _ h))))
theorem ts_wsX90 : ∀ w ∈ wsX90, w ∈ TS := fun w h => List.mem_append_left _ (List.mem_append_left _ (List.mem_append_left _ (List.mem_append_right _ h)))
theorem ts_wsJ40 : ∀ w ∈ wsJ40, w ∈ TS := fun w h => List.mem_append_left _ (List.mem_append_left _ (List.mem_append_right _ h))
theorem ts_wsJ00 : ∀ w ∈ wsJ00, w ∈ TS := fun w h => List.mem_append_left _ (List.mem_append_right _ h)
theorem ts_in : GoodIn lw_tb2 TS := goodIn_app (goodIn_app (goodIn_app (goodIn_app (goodIn_app (goodIn_app (goodIn_app (goodIn_app wg_1 (goodIn_app wg_2 (goodIn_app wg_3 (goodIn_app wg_4 (goodIn_app wg_5 (goodIn_app wg_6 (goodIn_app wg_7 (goodIn_app wg_8 (goodIn_app wg_9 (goodIn_app wg_10 (goodIn_app wg_11 (goodIn_app wg_12 (goodIn_app wg_13 (goodIn_app wg_14 (goodIn_app wg_15 (goodIn_app wg_16 (goodIn_app wg_17 (goodIn_app wg_18 (goodIn_app wg_19 (goodIn_app wg_20 (goodIn_app wg_21 (goodIn_app wg_22 (goodIn_app wg_23 (goodIn_app wg_24 (goodIn_app wg_25 (goodIn_app wg_26 (goodIn_app wg_27 (goodIn_app wg_28 (goodIn_app wg_29 (goodIn_app wg_30 (goodIn_app wg_31 (goodIn_app wg_32 (goodIn_app wg_33 (goodIn_app wg_34 (goodIn_app wg_35 (wg_36)))))))))))))))))))))))))))))))))))) wg_wsX110) wg_wsX40) wg_wsX30) wg_wsX90) wg_wsJ40) wg_wsJ00) (fun w h => absurd h List.not_mem_nil)
theorem ts_self {ws : List Cond} (h : ∀ w ∈ ws, w ∈ TS) : GoodIn TS ws := fun w hw => ⟨h w hw, (ts_in w (h w hw)).2⟩
def MFr (t : MethodName × ByteArray × Nat × Option FieldType × Nat) : Prop := Cond.code t.1 t.2.1 t.2.2.1 t.2.2.2.1 ∈ TS ∧ Cond.initialized t.1.cls ∈ TS ∧ plainName t.1.cls = true ∧ t.2.2.1 ≤ 21 ∧ cStr t.2.2.2.2 = t.1.cls ∧ t.1.cls ≠ "java/lang/invoke/MethodHandle" ∧ t.1.cls ≠ "java/lang/invoke/VarHandle"
theorem mf_7 : MFr (yX3_init, cX3_init, 1, none, 3) := ⟨(ts_3 _ (List.mem_of_getElem? (i := 3) rfl)), (ts_2 _ (List.mem_of_getElem? (i := 0) rfl)), by decide +kernel, by decide +kernel, by decide +kernel, by decide +kernel, by decide +kernel⟩
theorem mf_8 : MFr (yX3_isTold, cX3_isTold, 1, (some .boolean), 3) := ⟨(ts_6 _ (List.mem_of_getElem? (i := 16) rfl)), (ts_2 _ (List.mem_of_getElem? (i := 0) rfl)), by decide +kernel, by decide +kernel, by decide +kernel, by decide +kernel, by decide +kernel⟩
theorem mf_9 : MFr (yX3_read, cX3_read, 5, (some .int), 3) := ⟨(ts_22 _ (List.mem_of_getElem? (i := 8) rfl)), (ts_2 _ (List.mem_of_getElem? (i := 0) rfl)), by decide +kernel, by decide +kernel, by decide +kernel, by decide +kernel, by decide +kernel⟩
theorem mf_10 : MFr (yX3_line, cX3_line, 3, (some .boolean), 3) := ⟨(ts_22 _ (List.mem_of_getElem? (i := 16) rfl)), (ts_2 _ (List.mem_of_getElem? (i := 0) rfl)), by decide +kernel, by decide +kernel, by decide +kernel, by decide +kernel, by decide +kernel⟩
theorem mf_11 : MFr (yX3_joined, cX3_joined, 7, (some .boolean), 3) := ⟨(ts_22 _ (List.mem_of_getElem? (i := 20) rfl)), (ts_2 _ (List.mem_of_getElem? (i := 0) rfl)), by decide +kernel, by decide +kernel, by decide +kernel, by decide +kernel, by decide +kernel⟩
theorem mf_12 : MFr (yX3_levelOf, cX3_levelOf, 1, (some .int), 3) := ⟨(ts_23 _ (List.mem_of_getElem? (i := 2) rfl)), (ts_2 _ (List.mem_of_getElem? (i := 0) rfl)), by decide +kernel, by decide +kernel, by decide +kernel, by decide +kernel, by decide +kernel⟩
theorem mf_13 : MFr (yX3_operand, cX3_operand, 2, (some .boolean), 3) := ⟨(ts_23 _ (List.mem_of_getElem? (i := 7) rfl)), (ts_2 _ (List.mem_of_getElem? (i := 0) rfl)), by decide +kernel, by decide +kernel, by decide +kernel, by decide +kernel, by decide +kernel⟩
theorem mf_14 : MFr (yX3_number, cX3_number, 3, (some .boolean), 3) := ⟨(ts_23 _ (List.mem_of_getElem? (i := 15) rfl)), (ts_2 _ (List.mem_of_getElem? (i := 0) rfl)), by decide +kernel, by decide +kernel, by decide +kernel, by decide +kernel, by decide +kernel⟩
theorem mf_15 : MFr (yX3_isDigit, cX3_isDigit, 1, (some .boolean), 3) := ⟨(ts_23 _ (List.mem_of_getElem? (i := 11) rfl)), (ts_2 _ (List.mem_of_getElem? (i := 0) rfl)), by decide +kernel, by decide +kernel, by decide +kernel, by decide +kernel, by decide +kernel⟩
theorem mf_16 : MFr (yX3_nameOf, cX3_nameOf, 1, (some .int), 3) := ⟨(ts_23 _ (List.mem_of_getElem? (i := 18) rfl)), (ts_2 _ (List.mem_of_getElem? (i := 0) rfl)), by decide +kernel, by decide +kernel, by decide +kernel, by decide +kernel, by decide +kernel⟩
theorem mf_17 : MFr (yX3_takes, cX3_takes, 2, (some .boolean), 3) := ⟨(ts_23 _ (List.mem_of_getElem? (i := 22) rfl)), (ts_2 _ (List.mem_of_getElem? (i := 0) rfl)), by decide +kernel, by decide +kernel, by decide +kernel, by decide +kernel, by decide +kernel⟩
theorem mf_18 : MFr (yX3_add, cX3_add, 3, (some .boolean), 3) := ⟨(ts_23 _ (List.mem_of_getElem? (i := 6) rfl)), (ts_2 _ (List.mem_of_getElem? (i := 0) rfl)), by decide +kernel, by decide +kernel, by decide +kernel, by decide +kernel, by decide +kernel⟩
theorem mf_19 : MFr (yX3_worked, cX3_worked, 11, (some .int), 3) := ⟨(ts_6 _ (List.mem_of_getElem? (i := 21) rfl)), (ts_2 _ (List.mem_of_getElem? (i := 0) rfl)), by decide +kernel, by decide +kernel, by decide +kernel, by decide +kernel, by decide +kernel⟩
theorem mf_20 : MFr (yX3_push, cX3_push, 2, none, 3) := ⟨(ts_7 _ (List.mem_of_getElem? (i := 2) rfl)), (ts_2 _ (List.mem_of_getElem? (i := 0) rfl)), by decide +kernel, by decide +kernel, by decide +kernel, by decide +kernel, by decide +kernel⟩
theorem mf_21 : MFr (yX3_pop, cX3_pop, 1, (some .int), 3) := ⟨(ts_7 _ (List.mem_of_getElem? (i := 6) rfl)), (ts_2 _ (List.mem_of_getElem? (i := 0) rfl)), by decide +kernel, by decide +kernel, by decide +kernel, by decide +kernel, by decide +kernel⟩
theorem mf_22 : MFr (yX3_joinedBy, cX3_joinedBy, 3, (some .int), 3) := ⟨(ts_7 _ (List.mem_of_getElem? (i := 9) rfl)), (ts_2 _ (List.mem_of_getElem? (i := 0) rfl)), by decide +kernel, by decide +kernel, by decide +kernel, by decide +kernel, by decide +kernel⟩
theorem mf_23 : MFr (yX4_init, cX4_init, 1, none, 4) := ⟨(ts_2 _ (List.mem_of_getElem? (i := 16) rfl)), (ts_1 _ (List.mem_of_getElem? (i := 18) rfl)), by decide +kernel, by decide +kernel, by decide +kernel, by decide +kernel, by decide +kernel⟩
theorem mf_24 : MFr (yX4_hasGirl, cX4_hasGirl, 2, (some .boolean), 4) := ⟨(ts_4 _ (List.mem_of_getElem? (i := 8) rfl)), (ts_1 _ (List.mem_of_getElem? (i := 18) rfl)), by decide +kernel, by decide +kernel, by decide +kernel, by decide +kernel, by decide +kernel⟩
theorem mf_25 : MFr (yX4_hasFrog, cX4_hasFrog, 2, (some .boolean), 4) := ⟨(ts_4 _ (List.mem_of_getElem? (i := 15) rfl)), (ts_1 _ (List.mem_of_getElem? (i := 18) rfl)), by decide +kernel, by decide +kernel, by decide +kernel, by decide +kernel, by decide +kernel⟩
theorem mf_26 : MFr (yX4_addGirl, cX4_addGirl, 2, (some .int), 4) := ⟨(ts_8 _ (List.mem_of_getElem? (i := 14) rfl)), (ts_1 _ (List.mem_of_getElem? (i := 18) rfl)), by decide +kernel, by decide +kernel, by decide +kernel, by decide +kernel, by decide +kernel⟩
theorem mf_27 : MFr (yX4_addFrog, cX4_addFrog, 5, (some .int), 4) := ⟨(ts_8 _ (List.mem_of_getElem? (i := 22) rfl)), (ts_1 _ (List.mem_of_getElem? (i := 18) rfl)), by decide +kernel, by decide +kernel, by decide +kernel, by decide +kernel, by decide +kernel⟩
theorem mf_28 : MFr (yX4_hasNumber, cX4_hasNumber, 3, (some .boolean), 4) := ⟨(ts_4 _ (List.mem_of_getElem? (i := 4) rfl)), (ts_1 _ (List.mem_of_getElem? (i := 18) rfl)), by decide +kernel, by decide +kernel, by decide +kernel, by decide +kernel, by decide +kernel⟩
theorem mf_29 : MFr (yX4_numberOf, cX4_numberOf, 3, (some .int), 4) := ⟨(ts_21 _ (List.mem_of_getElem? (i := 9) rfl)), (ts_1 _ (List.mem_of_getElem? (i := 18) rfl)), by decide +kernel, by decide +kernel, by decide +kernel, by decide +kernel, by decide +kernel⟩
theorem mf_30 : MFr (yX4_become, cX4_become, 4, none, 4) := ⟨(ts_3 _ (List.mem_of_getElem? (i := 23) rfl)), (ts_1 _ (List.mem_of_getElem? (i := 18) rfl)), by decide +kernel, by decide +kernel, by decide +kernel, by decide +kernel, by decide +kernel⟩
theorem mf_31 : MFr (yX4_copy, cX4_copy, 2, none, 4) := ⟨(ts_5 _ (List.mem_of_getElem? (i := 2) rfl)), (ts_1 _ (List.mem_of_getElem? (i := 18) rfl)), by decide +kernel, by decide +kernel, by decide +kernel, by decide +kernel, by decide +kernel⟩
theorem mf_32 : MFr (yX4_layBack, cX4_layBack, 2, none, 4) := ⟨(ts_5 _ (List.mem_of_getElem? (i := 10) rfl)), (ts_1 _ (List.mem_of_getElem? (i := 18) rfl)), by decide +kernel, by decide +kernel, by decide +kernel, by decide +kernel, by decide +kernel⟩
theorem mf_33 : MFr (yX4_far, cX4_far, 2, (some .int), 4) := ⟨(ts_6 _ (List.mem_of_getElem? (i := 9) rfl)), (ts_1 _ (List.mem_of_getElem? (i := 18) rfl)), by decide +kernel, by decide +kernel, by decide +kernel, by decide +kernel, by decide +kernel⟩
theorem mf_34 : MFr (yX4_nearestTo, cX4_nearestTo, 5, (some .int), 4) := ⟨(ts_28 _ (List.mem_of_getElem? (i := 17) rfl)), (ts_1 _ (List.mem_of_getElem? (i := 18) rfl)), by decide +kernel, by decide +kernel, by decide +kernel, by decide +kernel, by decide +kernel⟩
theorem mf_35 : MFr (yX4_owing, cX4_owing, 3, (some .int), 4) := ⟨(ts_30 _ (List.mem_of_getElem? (i := 2) rfl)), (ts_1 _ (List.mem_of_getElem? (i := 18) rfl)), by decide +kernel, by decide +kernel, by decide +kernel, by decide +kernel, by decide +kernel⟩
theorem mf_36 : MFr (yX4_heldByAll, cX4_heldByAll, 3, (some .int), 4) := ⟨(ts_32 _ (List.mem_of_getElem? (i := 14) rfl)), (ts_1 _ (List.mem_of_getElem? (i := 18) rfl)), by decide +kernel, by decide +kernel, by decide +kernel, by decide +kernel, by decide +kernel⟩
theorem mf_37 : MFr (yX4_lend, cX4_lend, 4, none, 4) := ⟨(ts_26 _ (List.mem_of_getElem? (i := 22) rfl)), (ts_1 _ (List.mem_of_getElem? (i := 18) rfl)), by decide +kernel, by decide +kernel, by decide +kernel, by decide +kernel, by decide +kernel⟩
theorem mf_38 : MFr (yX4_owesNothing, cX4_owesNothing, 2, none, 4) := ⟨(ts_7 _ (List.mem_of_getElem? (i := 20) rfl)), (ts_1 _ (List.mem_of_getElem? (i := 18) rfl)), by decide +kernel, by decide +kernel, by decide +kernel, by decide +kernel, by decide +kernel⟩
theorem mf_39 : MFr (yX4_meetCart, cX4_meetCart, 3, none, 4) := ⟨(ts_34 _ (List.mem_of_getElem? (i := 14) rfl)), (ts_1 _ (List.mem_of_getElem? (i := 18) rfl)), by decide +kernel, by decide +kernel, by decide +kernel, by decide +kernel, by decide +kernel⟩
theorem mf_40 : MFr (yX4_lossOf, cX4_lossOf, 6, (some .int), 4) := ⟨(ts_6 _ (List.mem_of_getElem? (i := 3) rfl)), (ts_1 _ (List.mem_of_getElem? (i := 18) rfl)), by decide +kernel, by decide +kernel, by decide +kernel, by decide +kernel, by decide +kernel⟩
theorem mf_41 : MFr (yX4_passHourOf, cX4_passHourOf, 6, (some .int), 4) := ⟨(ts_5 _ (List.mem_of_getElem? (i := 22) rfl)), (ts_1 _ (List.mem_of_getElem? (i := 18) rfl)), by decide +kernel, by decide +kernel, by decide +kernel, by decide +kernel, by decide +kernel⟩
theorem mf_42 : MFr (yX4_nearer, cX4_nearer, 3, (some .int), 4) := ⟨(ts_7 _ (List.mem_of_getElem? (i := 12) rfl)), (ts_1 _ (List.mem_of_getElem? (i := 18) rfl)), by decide +kernel, by decide +kernel, by decide +kernel, by decide +kernel, by decide +kernel⟩
theorem mf_43 : MFr (yX4_endHour, cX4_endHour, 1, none, 4) := ⟨(ts_8 _ (List.mem_of_getElem? (i := 0) rfl)), (ts_1 _ (List.mem_of_getElem? (i := 18) rfl)), by decide +kernel, by decide +kernel, by decide +kernel, by decide +kernel, by decide +kernel⟩
theorem mf_44 : MFr (yX4_passHour, cX4_passHour, 4, (some .int), 4) := ⟨(ts_5 _ (List.mem_of_getElem? (i := 18) rfl)), (ts_1 _ (List.mem_of_getElem? (i := 18) rfl)), by decide +kernel, by decide +kernel, by decide +kernel, by decide +kernel, by decide +kernel⟩
theorem mf_58 : MFr (yX9_init, cX9_init, 1, none, 9) := ⟨(ts_3 _ (List.mem_of_getElem? (i := 10) rfl)), (ts_2 _ (List.mem_of_getElem? (i := 14) rfl)), by decide +kernel, by decide +kernel, by decide +kernel, by decide +kernel, by decide +kernel⟩
theorem mf_59 : MFr (yX9_isBare, cX9_isBare, 1, (some .boolean), 9) := ⟨(ts_25 _ (List.mem_of_getElem? (i := 2) rfl)), (ts_2 _ (List.mem_of_getElem? (i := 14) rfl)), by decide +kernel, by decide +kernel, by decide +kernel, by decide +kernel, by decide +kernel⟩
theorem mf_60 : MFr (yX9_isRow, cX9_isRow, 1, (some .boolean), 9) := ⟨(ts_25 _ (List.mem_of_getElem? (i := 6) rfl)), (ts_2 _ (List.mem_of_getElem? (i := 14) rfl)), by decide +kernel, by decide +kernel, by decide +kernel, by decide +kernel, by decide +kernel⟩
theorem mf_61 : MFr (yX9_isBytes, cX9_isBytes, 1, (some .boolean), 9) := ⟨(ts_30 _ (List.mem_of_getElem? (i := 13) rfl)), (ts_2 _ (List.mem_of_getElem? (i := 14) rfl)), by decide +kernel, by decide +kernel, by decide +kernel, by decide +kernel, by decide +kernel⟩
theorem mf_62 : MFr (yX9_hold, cX9_hold, 2, none, 9) := ⟨(ts_35 _ (List.mem_of_getElem? (i := 11) rfl)), (ts_2 _ (List.mem_of_getElem? (i := 14) rfl)), by decide +kernel, by decide +kernel, by decide +kernel, by decide +kernel, by decide +kernel⟩
theorem mf_63 : MFr (yX9_holdRow, cX9_holdRow, 3, none, 9) := ⟨(ts_24 _ (List.mem_of_getElem? (i := 9) rfl)), (ts_2 _ (List.mem_of_getElem? (i := 14) rfl)), by decide +kernel, by decide +kernel, by decide +kernel, by decide +kernel, by decide +kernel⟩
theorem mf_64 : MFr (yX9_hasPart, cX9_hasPart, 3, (some .boolean), 9) := ⟨(ts_25 _ (List.mem_of_getElem? (i := 10) rfl)), (ts_2 _ (List.mem_of_getElem? (i := 14) rfl)), by decide +kernel, by decide +kernel, by decide +kernel, by decide +kernel, by decide +kernel⟩
theorem mf_65 : MFr (yX9_at, cX9_at, 2, (some .long), 9) := ⟨(ts_31 _ (List.mem_of_getElem? (i := 0) rfl)), (ts_2 _ (List.mem_of_getElem? (i := 14) rfl)), by decide +kernel, by decide +kernel, by decide +kernel, by decide +kernel, by decide +kernel⟩
theorem mf_66 : MFr (yX9_become, cX9_become, 4, none, 9) := ⟨(ts_25 _ (List.mem_of_getElem? (i := 14) rfl)), (ts_2 _ (List.mem_of_getElem? (i := 14) rfl)), by decide +kernel, by decide +kernel, by decide +kernel, by decide +kernel, by decide +kernel⟩
theorem mf_70 : MFr (yX11_init, cX11_init, 2, none, 11) := ⟨(ts_1 _ (List.mem_of_getElem? (i := 12) rfl)), (ts_1 _ (List.mem_of_getElem? (i := 2) rfl)), by decide +kernel, by decide +kernel, by decide +kernel, by decide +kernel, by decide +kernel⟩
theorem mf_71 : MFr (yX11_girl, cX11_girl, 2, (some .int), 11) := ⟨(ts_8 _ (List.mem_of_getElem? (i := 4) rfl)), (ts_1 _ (List.mem_of_getElem? (i := 2) rfl)), by decide +kernel, by decide +kernel, by decide +kernel, by decide +kernel, by decide +kernel⟩
theorem mf_72 : MFr (yX11_frog, cX11_frog, 4, (some .int), 11) := ⟨(ts_8 _ (List.mem_of_getElem? (i := 18) rfl)), (ts_1 _ (List.mem_of_getElem? (i := 2) rfl)), by decide +kernel, by decide +kernel, by decide +kernel, by decide +kernel, by decide +kernel⟩
theorem mf_75 : MFr (yX11_mend, cX11_mend, 5, (some .int), 11) := ⟨(ts_21 _ (List.mem_of_getElem? (i := 3) rfl)), (ts_1 _ (List.mem_of_getElem? (i := 2) rfl)), by decide +kernel, by decide +kernel, by decide +kernel, by decide +kernel, by decide +kernel⟩
theorem mf_76 : MFr (yX11_mayBe, cX11_mayBe, 3, (some .boolean), 11) := ⟨(ts_8 _ (List.mem_of_getElem? (i := 8) rfl)), (ts_1 _ (List.mem_of_getElem? (i := 2) rfl)), by decide +kernel, by decide +kernel, by decide +kernel, by decide +kernel, by decide +kernel⟩
theorem mf_77 : MFr (yX11_of, cX11_of, 3, (some .int), 11) := ⟨(ts_25 _ (List.mem_of_getElem? (i := 23) rfl)), (ts_1 _ (List.mem_of_getElem? (i := 2) rfl)), by decide +kernel, by decide +kernel, by decide +kernel, by decide +kernel, by decide +kernel⟩
theorem mf_78 : MFr (yX11_feed, cX11_feed, 2, (some .int), 11) := ⟨(ts_21 _ (List.mem_of_getElem? (i := 23) rfl)), (ts_1 _ (List.mem_of_getElem? (i := 2) rfl)), by decide +kernel, by decide +kernel, by decide +kernel, by decide +kernel, by decide +kernel⟩
theorem mf_79 : MFr (yX11_law, cX11_law, 3, (some .int), 11) := ⟨(ts_22 _ (List.mem_of_getElem? (i := 4) rfl)), (ts_1 _ (List.mem_of_getElem? (i := 2) rfl)), by decide +kernel, by decide +kernel, by decide +kernel, by decide +kernel, by decide +kernel⟩
theorem mf_80 : MFr (yX11_loses, cX11_loses, 2, (some .int), 11) := ⟨(ts_29 _ (List.mem_of_getElem? (i := 17) rfl)), (ts_1 _ (List.mem_of_getElem? (i := 2) rfl)), by decide +kernel, by decide +kernel, by decide +kernel, by decide +kernel, by decide +kernel⟩
theorem mf_81 : MFr (yX11_later, cX11_later, 5, (some .int), 11) := ⟨(ts_26 _ (List.mem_of_getElem? (i := 3) rfl)), (ts_1 _ (List.mem_of_getElem? (i := 2) rfl)), by decide +kernel, by decide +kernel, by decide +kernel, by decide +kernel, by decide +kernel⟩
theorem mf_82 : MFr (yX11_thinkOn, cX11_thinkOn, 3, none, 11) := ⟨(ts_26 _ (List.mem_of_getElem? (i := 9) rfl)), (ts_1 _ (List.mem_of_getElem? (i := 2) rfl)), by decide +kernel, by decide +kernel, by decide +kernel, by decide +kernel, by decide +kernel⟩
theorem mf_83 : MFr (yX11_marsh, cX11_marsh, 3, (some .int), 11) := ⟨(ts_32 _ (List.mem_of_getElem? (i := 10) rfl)), (ts_1 _ (List.mem_of_getElem? (i := 2) rfl)), by decide +kernel, by decide +kernel, by decide +kernel, by decide +kernel, by decide +kernel⟩
theorem mf_84 : MFr (yX11_backWhen, cX11_backWhen, 4, (some .int), 11) := ⟨(ts_29 _ (List.mem_of_getElem? (i := 22) rfl)), (ts_1 _ (List.mem_of_getElem? (i := 2) rfl)), by decide +kernel, by decide +kernel, by decide +kernel, by decide +kernel, by decide +kernel⟩
theorem mf_85 : MFr (yX11_loan, cX11_loan, 4, (some .int), 11) := ⟨(ts_28 _ (List.mem_of_getElem? (i := 21) rfl)), (ts_1 _ (List.mem_of_getElem? (i := 2) rfl)), by decide +kernel, by decide +kernel, by decide +kernel, by decide +kernel, by decide +kernel⟩
theorem mf_86 : MFr (yX11_thinkLoan, cX11_thinkLoan, 4, none, 11) := ⟨(ts_26 _ (List.mem_of_getElem? (i := 18) rfl)), (ts_1 _ (List.mem_of_getElem? (i := 2) rfl)), by decide +kernel, by decide +kernel, by decide +kernel, by decide +kernel, by decide +kernel⟩
theorem mf_87 : MFr (yX11_givenBack, cX11_givenBack, 4, (some .int), 11) := ⟨(ts_27 _ (List.mem_of_getElem? (i := 2) rfl)), (ts_1 _ (List.mem_of_getElem? (i := 2) rfl)), by decide +kernel, by decide +kernel, by decide +kernel, by decide +kernel, by decide +kernel⟩
theorem mf_88 : MFr (yX11_hoursTillBack, cX11_hoursTillBack, 3, (some .int), 11) := ⟨(ts_29 _ (List.mem_of_getElem? (i := 5) rfl)), (ts_1 _ (List.mem_of_getElem? (i := 2) rfl)), by decide +kernel, by decide +kernel, by decide +kernel, by decide +kernel, by decide +kernel⟩
theorem mf_89 : MFr (yX11_best, cX11_best, 8, (some .int), 11) := ⟨(ts_26 _ (List.mem_of_getElem? (i := 13) rfl)), (ts_1 _ (List.mem_of_getElem? (i := 2) rfl)), by decide +kernel, by decide +kernel, by decide +kernel, by decide +kernel, by decide +kernel⟩
theorem mf_90 : MFr (yX11_dealt, cX11_dealt, 3, (some .int), 11) := ⟨(ts_27 _ (List.mem_of_getElem? (i := 8) rfl)), (ts_1 _ (List.mem_of_getElem? (i := 2) rfl)), by decide +kernel, by decide +kernel, by decide +kernel, by decide +kernel, by decide +kernel⟩
theorem mf_91 : MFr (yX11_thinkGains, cX11_thinkGains, 4, none, 11) := ⟨(ts_27 _ (List.mem_of_getElem? (i := 12) rfl)), (ts_1 _ (List.mem_of_getElem? (i := 2) rfl)), by decide +kernel, by decide +kernel, by decide +kernel, by decide +kernel, by decide +kernel⟩
theorem mf_92 : MFr (yX11_thinkMostBack, cX11_thinkMostBack, 5, none, 11) := ⟨(ts_27 _ (List.mem_of_getElem? (i := 17) rfl)), (ts_1 _ (List.mem_of_getElem? (i := 2) rfl)), by decide +kernel, by decide +kernel, by decide +kernel, by decide +kernel, by decide +kernel⟩
theorem mf_93 : MFr (yX11_backByLending, cX11_backByLending, 5, (some .int), 11) := ⟨(ts_28 _ (List.mem_of_getElem? (i := 1) rfl)), (ts_1 _ (List.mem_of_getElem? (i := 2) rfl)), by decide +kernel, by decide +kernel, by decide +kernel, by decide +kernel, by decide +kernel⟩
theorem mf_94 : MFr (yX11_frogDealtTo, cX11_frogDealtTo, 5, (some .int), 11) := ⟨(ts_28 _ (List.mem_of_getElem? (i := 5) rfl)), (ts_1 _ (List.mem_of_getElem? (i := 2) rfl)), by decide +kernel, by decide +kernel, by decide +kernel, by decide +kernel, by decide +kernel⟩
theorem mf_95 : MFr (yX11_firstBestFrog, cX11_firstBestFrog, 5, (some .int), 11) := ⟨(ts_28 _ (List.mem_of_getElem? (i := 9) rfl)), (ts_1 _ (List.mem_of_getElem? (i := 2) rfl)), by decide +kernel, by decide +kernel, by decide +kernel, by decide +kernel, by decide +kernel⟩
theorem mf_96 : MFr (yX11_least, cX11_least, 4, (some .int), 11) := ⟨(ts_29 _ (List.mem_of_getElem? (i := 9) rfl)), (ts_1 _ (List.mem_of_getElem? (i := 2) rfl)), by decide +kernel, by decide +kernel, by decide +kernel, by decide +kernel, by decide +kernel⟩
theorem mf_97 : MFr (yX11_heldBehind, cX11_heldBehind, 4, (some .int), 11) := ⟨(ts_29 _ (List.mem_of_getElem? (i := 13) rfl)), (ts_1 _ (List.mem_of_getElem? (i := 2) rfl)), by decide +kernel, by decide +kernel, by decide +kernel, by decide +kernel, by decide +kernel⟩
theorem mf_98 : MFr (yX11_bars, cX11_bars, 3, (some .int), 11) := ⟨(ts_32 _ (List.mem_of_getElem? (i := 18) rfl)), (ts_1 _ (List.mem_of_getElem? (i := 2) rfl)), by decide +kernel, by decide +kernel, by decide +kernel, by decide +kernel, by decide +kernel⟩
theorem mf_99 : MFr (yX11_nextTogether, cX11_nextTogether, 3, (some .int), 11) := ⟨(ts_32 _ (List.mem_of_getElem? (i := 22) rfl)), (ts_1 _ (List.mem_of_getElem? (i := 2) rfl)), by decide +kernel, by decide +kernel, by decide +kernel, by decide +kernel, by decide +kernel⟩
theorem mf_100 : MFr (yX11_beginningAt, cX11_beginningAt, 6, (some .int), 11) := ⟨(ts_33 _ (List.mem_of_getElem? (i := 2) rfl)), (ts_1 _ (List.mem_of_getElem? (i := 2) rfl)), by decide +kernel, by decide +kernel, by decide +kernel, by decide +kernel, by decide +kernel⟩
theorem mf_101 : MFr (yX11_stops, cX11_stops, 5, (some .int), 11) := ⟨(ts_33 _ (List.mem_of_getElem? (i := 12) rfl)), (ts_1 _ (List.mem_of_getElem? (i := 2) rfl)), by decide +kernel, by decide +kernel, by decide +kernel, by decide +kernel, by decide +kernel⟩
theorem mf_102 : MFr (yX11_allHeardFrom, cX11_allHeardFrom, 4, (some .boolean), 11) := ⟨(ts_33 _ (List.mem_of_getElem? (i := 16) rfl)), (ts_1 _ (List.mem_of_getElem? (i := 2) rfl)), by decide +kernel, by decide +kernel, by decide +kernel, by decide +kernel, by decide +kernel⟩
theorem mf_103 : MFr (yX11_isHeardFrom, cX11_isHeardFrom, 5, (some .boolean), 11) := ⟨(ts_33 _ (List.mem_of_getElem? (i := 20) rfl)), (ts_1 _ (List.mem_of_getElem? (i := 2) rfl)), by decide +kernel, by decide +kernel, by decide +kernel, by decide +kernel, by decide +kernel⟩
theorem mf_104 : MFr (yX11_judge, cX11_judge, 5, (some .int), 11) := ⟨(ts_30 _ (List.mem_of_getElem? (i := 6) rfl)), (ts_1 _ (List.mem_of_getElem? (i := 2) rfl)), by decide +kernel, by decide +kernel, by decide +kernel, by decide +kernel, by decide +kernel⟩
theorem mf_105 : MFr (yX11_bookRefusal, cX11_bookRefusal, 1, (some .int), 11) := ⟨(ts_30 _ (List.mem_of_getElem? (i := 9) rfl)), (ts_1 _ (List.mem_of_getElem? (i := 2) rfl)), by decide +kernel, by decide +kernel, by decide +kernel, by decide +kernel, by decide +kernel⟩
theorem mf_106 : MFr (yX11_firstNotSo, cX11_firstNotSo, 7, (some .int), 11) := ⟨(ts_30 _ (List.mem_of_getElem? (i := 17) rfl)), (ts_1 _ (List.mem_of_getElem? (i := 2) rfl)), by decide +kernel, by decide +kernel, by decide +kernel, by decide +kernel, by decide +kernel⟩
theorem mf_107 : MFr (yX11_fits, cX11_fits, 6, (some .int), 11) := ⟨(ts_31 _ (List.mem_of_getElem? (i := 5) rfl)), (ts_1 _ (List.mem_of_getElem? (i := 2) rfl)), by decide +kernel, by decide +kernel, by decide +kernel, by decide +kernel, by decide +kernel⟩
theorem mf_108 : MFr (yX11_keptBy, cX11_keptBy, 5, (some .int), 11) := ⟨(ts_31 _ (List.mem_of_getElem? (i := 9) rfl)), (ts_1 _ (List.mem_of_getElem? (i := 2) rfl)), by decide +kernel, by decide +kernel, by decide +kernel, by decide +kernel, by decide +kernel⟩
theorem mf_109 : MFr (yX11_whose, cX11_whose, 5, (some .int), 11) := ⟨(ts_31 _ (List.mem_of_getElem? (i := 14) rfl)), (ts_1 _ (List.mem_of_getElem? (i := 2) rfl)), by decide +kernel, by decide +kernel, by decide +kernel, by decide +kernel, by decide +kernel⟩
theorem mf_110 : MFr (yX11_alike, cX11_alike, 4, (some .int), 11) := ⟨(ts_34 _ (List.mem_of_getElem? (i := 1) rfl)), (ts_1 _ (List.mem_of_getElem? (i := 2) rfl)), by decide +kernel, by decide +kernel, by decide +kernel, by decide +kernel, by decide +kernel⟩
theorem mf_111 : MFr (yX11_holdAsMuch, cX11_holdAsMuch, 4, (some .boolean), 11) := ⟨(ts_34 _ (List.mem_of_getElem? (i := 5) rfl)), (ts_1 _ (List.mem_of_getElem? (i := 2) rfl)), by decide +kernel, by decide +kernel, by decide +kernel, by decide +kernel, by decide +kernel⟩
theorem mf_112 : MFr (yX11_ring, cX11_ring, 6, (some .int), 11) := ⟨(ts_28 _ (List.mem_of_getElem? (i := 13) rfl)), (ts_1 _ (List.mem_of_getElem? (i := 2) rfl)), by decide +kernel, by decide +kernel, by decide +kernel, by decide +kernel, by decide +kernel⟩
theorem mf_113 : MFr (yX11_byTurns, cX11_byTurns, 7, (some .int), 11) := ⟨(ts_31 _ (List.mem_of_getElem? (i := 18) rfl)), (ts_1 _ (List.mem_of_getElem? (i := 2) rfl)), by decide +kernel, by decide +kernel, by decide +kernel, by decide +kernel, by decide +kernel⟩
theorem mf_114 : MFr (yX11_lessTwo, cX11_lessTwo, 1, (some .int), 11) := ⟨(ts_31 _ (List.mem_of_getElem? (i := 22) rfl)), (ts_1 _ (List.mem_of_getElem? (i := 2) rfl)), by decide +kernel, by decide +kernel, by decide +kernel, by decide +kernel, by decide +kernel⟩
theorem mf_115 : MFr (yX11_turn, cX11_turn, 7, (some .int), 11) := ⟨(ts_32 _ (List.mem_of_getElem? (i := 2) rfl)), (ts_1 _ (List.mem_of_getElem? (i := 2) rfl)), by decide +kernel, by decide +kernel, by decide +kernel, by decide +kernel, by decide +kernel⟩
theorem mf_116 : MFr (yX11_backBy, cX11_backBy, 4, (some .int), 11) := ⟨(ts_32 _ (List.mem_of_getElem? (i := 6) rfl)), (ts_1 _ (List.mem_of_getElem? (i := 2) rfl)), by decide +kernel, by decide +kernel, by decide +kernel, by decide +kernel, by decide +kernel⟩
theorem mf_117 : MFr (yX11_drawn, cX11_drawn, 10, (some .int), 11) := ⟨(ts_34 _ (List.mem_of_getElem? (i := 9) rfl)), (ts_1 _ (List.mem_of_getElem? (i := 2) rfl)), by decide +kernel, by decide +kernel, by decide +kernel, by decide +kernel, by decide +kernel⟩
theorem mf_118 : MFr (yX11_hour, cX11_hour, 1, (some .int), 11) := ⟨(ts_5 _ (List.mem_of_getElem? (i := 14) rfl)), (ts_1 _ (List.mem_of_getElem? (i := 2) rfl)), by decide +kernel, by decide +kernel, by decide +kernel, by decide +kernel, by decide +kernel⟩
theorem mf_119 : MFr (yX11_lends, cX11_lends, 5, (some .int), 11) := ⟨(ts_35 _ (List.mem_of_getElem? (i := 3) rfl)), (ts_1 _ (List.mem_of_getElem? (i := 2) rfl)), by decide +kernel, by decide +kernel, by decide +kernel, by decide +kernel, by decide +kernel⟩
theorem mf_120 : MFr (yX11_over, cX11_over, 3, (some .int), 11) := ⟨(ts_9 _ (List.mem_of_getElem? (i := 2) rfl)), (ts_1 _ (List.mem_of_getElem? (i := 2) rfl)), by decide +kernel, by decide +kernel, by decide +kernel, by decide +kernel, by decide +kernel⟩
theorem mf_121 : MFr (yX11_led, cX11_led, 2, (some .int), 11) := ⟨(ts_34 _ (List.mem_of_getElem? (i := 18) rfl)), (ts_1 _ (List.mem_of_getElem? (i := 2) rfl)), by decide +kernel, by decide +kernel, by decide +kernel, by decide +kernel, by decide +kernel⟩
theorem mf_122 : MFr (yX11_image, cX11_image, 1, (some .int), 11) := ⟨(ts_4 _ (List.mem_of_getElem? (i := 20) rfl)), (ts_1 _ (List.mem_of_getElem? (i := 2) rfl)), by decide +kernel, by decide +kernel, by decide +kernel, by decide +kernel, by decide +kernel⟩
theorem mf_123 : MFr (yX11_back, cX11_back, 1, (some .int), 11) := ⟨(ts_35 _ (List.mem_of_getElem? (i := 15) rfl)), (ts_1 _ (List.mem_of_getElem? (i := 2) rfl)), by decide +kernel, by decide +kernel, by decide +kernel, by decide +kernel, by decide +kernel⟩
theorem mf_124 : MFr (yX11_noteChange, cX11_noteChange, 6, none, 11) := ⟨(ts_21 _ (List.mem_of_getElem? (i := 13) rfl)), (ts_1 _ (List.mem_of_getElem? (i := 2) rfl)), by decide +kernel, by decide +kernel, by decide +kernel, by decide +kernel, by decide +kernel⟩
theorem mf_125 : MFr (yX11_forgetOldestChange, cX11_forgetOldestChange, 2, none, 11) := ⟨(ts_21 _ (List.mem_of_getElem? (i := 18) rfl)), (ts_1 _ (List.mem_of_getElem? (i := 2) rfl)), by decide +kernel, by decide +kernel, by decide +kernel, by decide +kernel, by decide +kernel⟩
theorem mf_126 : MFr (yX11_undo, cX11_undo, 2, (some .int), 11) := ⟨(ts_3 _ (List.mem_of_getElem? (i := 18) rfl)), (ts_1 _ (List.mem_of_getElem? (i := 2) rfl)), by decide +kernel, by decide +kernel, by decide +kernel, by decide +kernel, by decide +kernel⟩
theorem mf_132 : MFr (yX11_keep, cX11_keep, 3, (some .int), 11) := ⟨(ts_35 _ (List.mem_of_getElem? (i := 7) rfl)), (ts_1 _ (List.mem_of_getElem? (i := 2) rfl)), by decide +kernel, by decide +kernel, by decide +kernel, by decide +kernel, by decide +kernel⟩
theorem mf_133 : MFr (yX11_row, cX11_row, 4, (some .int), 11) := ⟨(ts_24 _ (List.mem_of_getElem? (i := 2) rfl)), (ts_1 _ (List.mem_of_getElem? (i := 2) rfl)), by decide +kernel, by decide +kernel, by decide +kernel, by decide +kernel, by decide +kernel⟩
theorem mf_134 : MFr (yX11_put, cX11_put, 6, (some .int), 11) := ⟨(ts_24 _ (List.mem_of_getElem? (i := 18) rfl)), (ts_1 _ (List.mem_of_getElem? (i := 2) rfl)), by decide +kernel, by decide +kernel, by decide +kernel, by decide +kernel, by decide +kernel⟩
theorem mf_136 : MFr (yX11_elementRefusal, cX11_elementRefusal, 3, (some .int), 11) := ⟨(ts_24 _ (List.mem_of_getElem? (i := 22) rfl)), (ts_1 _ (List.mem_of_getElem? (i := 2) rfl)), by decide +kernel, by decide +kernel, by decide +kernel, by decide +kernel, by decide +kernel⟩
theorem mf_140 : MFr (yX11_count, cX11_count, 2, (some .int), 11) := ⟨(ts_34 _ (List.mem_of_getElem? (i := 22) rfl)), (ts_1 _ (List.mem_of_getElem? (i := 2) rfl)), by decide +kernel, by decide +kernel, by decide +kernel, by decide +kernel, by decide +kernel⟩
theorem mf_141 : MFr (yX11_within, cX11_within, 3, (some .boolean), 11) := ⟨(ts_4 _ (List.mem_of_getElem? (i := 11) rfl)), (ts_1 _ (List.mem_of_getElem? (i := 2) rfl)), by decide +kernel, by decide +kernel, by decide +kernel, by decide +kernel, by decide +kernel⟩
theorem mf_142 : MFr (yX11_isShelf, cX11_isShelf, 1, (some .boolean), 11) := ⟨(ts_24 _ (List.mem_of_getElem? (i := 5) rfl)), (ts_1 _ (List.mem_of_getElem? (i := 2) rfl)), by decide +kernel, by decide +kernel, by decide +kernel, by decide +kernel, by decide +kernel⟩
theorem mf_143 : MFr (yX11_isPair, cX11_isPair, 2, (some .boolean), 11) := ⟨(ts_29 _ (List.mem_of_getElem? (i := 1) rfl)), (ts_1 _ (List.mem_of_getElem? (i := 2) rfl)), by decide +kernel, by decide +kernel, by decide +kernel, by decide +kernel, by decide +kernel⟩
theorem mf_147 : MFr (yJ5_init_d00df, cJ5_init_d00df, 2, none, 14) := ⟨(ts_10 _ (List.mem_of_getElem? (i := 2) rfl)), (ts_10 _ (List.mem_of_getElem? (i := 1) rfl)), by decide +kernel, by decide +kernel, by decide +kernel, by decide +kernel, by decide +kernel⟩
theorem mf_148 : MFr (yJ5_length_8abf5, cJ5_length_8abf5, 1, (some .int), 14) := ⟨(ts_18 _ (List.mem_of_getElem? (i := 23) rfl)), (ts_10 _ (List.mem_of_getElem? (i := 1) rfl)), by decide +kernel, by decide +kernel, by decide +kernel, by decide +kernel, by decide +kernel⟩
theorem mf_149 : MFr (yJ5_ensureCapacityInternal_d00df, cJ5_ensureCapacityInternal_d00df, 3, none, 14) := ⟨(ts_11 _ (List.mem_of_getElem? (i := 11) rfl)), (ts_10 _ (List.mem_of_getElem? (i := 1) rfl)), by decide +kernel, by decide +kernel, by decide +kernel, by decide +kernel, by decide +kernel⟩
theorem mf_150 : MFr (yJ5_newCapacity_0f7a4, cJ5_newCapacity_0f7a4, 6, (some .int), 14) := ⟨(ts_11 _ (List.mem_of_getElem? (i := 16) rfl)), (ts_10 _ (List.mem_of_getElem? (i := 1) rfl)), by decide +kernel, by decide +kernel, by decide +kernel, by decide +kernel, by decide +kernel⟩
theorem mf_151 : MFr (yJ5_append_cf1ce, cJ5_append_cf1ce, 3, (some (.object "java/lang/AbstractStringBuilder")), 14) := ⟨(ts_11 _ (List.mem_of_getElem? (i := 0) rfl)), (ts_10 _ (List.mem_of_getElem? (i := 1) rfl)), by decide +kernel, by decide +kernel, by decide +kernel, by decide +kernel, by decide +kernel⟩
theorem mf_152 : MFr (yJ5_append_3fe6f, cJ5_append_3fe6f, 2, (some (.object "java/lang/AbstractStringBuilder")), 14) := ⟨(ts_17 _ (List.mem_of_getElem? (i := 13) rfl)), (ts_10 _ (List.mem_of_getElem? (i := 1) rfl)), by decide +kernel, by decide +kernel, by decide +kernel, by decide +kernel, by decide +kernel⟩
theorem mf_153 : MFr (yJ5_append_c97b9, cJ5_append_c97b9, 4, (some (.object "java/lang/AbstractStringBuilder")), 14) := ⟨(ts_20 _ (List.mem_of_getElem? (i := 3) rfl)), (ts_10 _ (List.mem_of_getElem? (i := 1) rfl)), by decide +kernel, by decide +kernel, by decide +kernel, by decide +kernel, by decide +kernel⟩
theorem mf_154 : MFr (yJ5_getValue_6d5f1, cJ5_getValue_6d5f1, 1, (some (.array .byte)), 14) := ⟨(ts_18 _ (List.mem_of_getElem? (i := 14) rfl)), (ts_10 _ (List.mem_of_getElem? (i := 1) rfl)), by decide +kernel, by decide +kernel, by decide +kernel, by decide +kernel, by decide +kernel⟩
theorem mf_155 : MFr (yJ5_isLatin1_aae02, cJ5_isLatin1_aae02, 1, (some .boolean), 14) := ⟨(ts_12 _ (List.mem_of_getElem? (i := 19) rfl)), (ts_10 _ (List.mem_of_getElem? (i := 1) rfl)), by decide +kernel, by decide +kernel, by decide +kernel, by decide +kernel, by decide +kernel⟩
theorem mf_156 : MFr (yJ5_inflateIfNeededFor_a7421, cJ5_inflateIfNeededFor_a7421, 2, none, 14) := ⟨(ts_14 _ (List.mem_of_getElem? (i := 16) rfl)), (ts_10 _ (List.mem_of_getElem? (i := 1) rfl)), by decide +kernel, by decide +kernel, by decide +kernel, by decide +kernel, by decide +kernel⟩
theorem mf_157 : MFr (yJ5_putStringAt_47b60, cJ5_putStringAt_47b60, 3, none, 14) := ⟨(ts_14 _ (List.mem_of_getElem? (i := 11) rfl)), (ts_10 _ (List.mem_of_getElem? (i := 1) rfl)), by decide +kernel, by decide +kernel, by decide +kernel, by decide +kernel, by decide +kernel⟩
theorem mf_158 : MFr (yJ6_getChars_ba4f3, cJ6_getChars_ba4f3, 7, (some .int), 16) := ⟨(ts_20 _ (List.mem_of_getElem? (i := 9) rfl)), (ts_7 _ (List.mem_of_getElem? (i := 15) rfl)), by decide +kernel, by decide +kernel, by decide +kernel, by decide +kernel, by decide +kernel⟩
theorem mf_159 : MFr (yJ6_stringSize_0f7a4, cJ6_stringSize_0f7a4, 4, (some .int), 16) := ⟨(ts_20 _ (List.mem_of_getElem? (i := 6) rfl)), (ts_7 _ (List.mem_of_getElem? (i := 15) rfl)), by decide +kernel, by decide +kernel, by decide +kernel, by decide +kernel, by decide +kernel⟩
theorem mf_160 : MFr (yJ0_init_81219, cJ0_init_81219, 2, none, 1) := ⟨(ts_18 _ (List.mem_of_getElem? (i := 4) rfl)), (ts_13 _ (List.mem_of_getElem? (i := 8) rfl)), by decide +kernel, by decide +kernel, by decide +kernel, by decide +kernel, by decide +kernel⟩
theorem mf_161 : MFr (yJ0_length_8abf5, cJ0_length_8abf5, 1, (some .int), 1) := ⟨(ts_13 _ (List.mem_of_getElem? (i := 23) rfl)), (ts_13 _ (List.mem_of_getElem? (i := 8) rfl)), by decide +kernel, by decide +kernel, by decide +kernel, by decide +kernel, by decide +kernel⟩
theorem mf_162 : MFr (yJ0_charAt_5068e, cJ0_charAt_5068e, 2, (some .char), 1) := ⟨(ts_16 _ (List.mem_of_getElem? (i := 6) rfl)), (ts_13 _ (List.mem_of_getElem? (i := 8) rfl)), by decide +kernel, by decide +kernel, by decide +kernel, by decide +kernel, by decide +kernel⟩
theorem mf_163 : MFr (yJ0_getBytes_840e7, cJ0_getBytes_840e7, 4, none, 1) := ⟨(ts_15 _ (List.mem_of_getElem? (i := 18) rfl)), (ts_13 _ (List.mem_of_getElem? (i := 8) rfl)), by decide +kernel, by decide +kernel, by decide +kernel, by decide +kernel, by decide +kernel⟩
theorem mf_164 : MFr (yJ0_init_db425, cJ0_init_db425, 5, none, 1) := ⟨(ts_18 _ (List.mem_of_getElem? (i := 7) rfl)), (ts_13 _ (List.mem_of_getElem? (i := 8) rfl)), by decide +kernel, by decide +kernel, by decide +kernel, by decide +kernel, by decide +kernel⟩
theorem mf_165 : MFr (yJ0_coder_7d493, cJ0_coder_7d493, 1, (some .byte), 1) := ⟨(ts_14 _ (List.mem_of_getElem? (i := 4) rfl)), (ts_13 _ (List.mem_of_getElem? (i := 8) rfl)), by decide +kernel, by decide +kernel, by decide +kernel, by decide +kernel, by decide +kernel⟩
theorem mf_166 : MFr (yJ0_isLatin1_aae02, cJ0_isLatin1_aae02, 1, (some .boolean), 1) := ⟨(ts_16 _ (List.mem_of_getElem? (i := 10) rfl)), (ts_13 _ (List.mem_of_getElem? (i := 8) rfl)), by decide +kernel, by decide +kernel, by decide +kernel, by decide +kernel, by decide +kernel⟩
theorem mf_167 : MFr (yJ0_checkIndex_df160, cJ0_checkIndex_df160, 2, none, 1) := ⟨(ts_16 _ (List.mem_of_getElem? (i := 16) rfl)), (ts_13 _ (List.mem_of_getElem? (i := 8) rfl)), by decide +kernel, by decide +kernel, by decide +kernel, by decide +kernel, by decide +kernel⟩
theorem mf_168 : MFr (yJ4_init_da8c8, cJ4_init_da8c8, 1, none, 0) := ⟨(ts_9 _ (List.mem_of_getElem? (i := 22) rfl)), (ts_9 _ (List.mem_of_getElem? (i := 13) rfl)), by decide +kernel, by decide +kernel, by decide +kernel, by decide +kernel, by decide +kernel⟩
theorem mf_169 : MFr (yJ4_append_15ec4, cJ4_append_15ec4, 2, (some (.object "java/lang/StringBuilder")), 0) := ⟨(ts_10 _ (List.mem_of_getElem? (i := 19) rfl)), (ts_9 _ (List.mem_of_getElem? (i := 13) rfl)), by decide +kernel, by decide +kernel, by decide +kernel, by decide +kernel, by decide +kernel⟩
theorem mf_170 : MFr (yJ4_append_cf468, cJ4_append_cf468, 2, (some (.object "java/lang/StringBuilder")), 0) := ⟨(ts_17 _ (List.mem_of_getElem? (i := 9) rfl)), (ts_9 _ (List.mem_of_getElem? (i := 13) rfl)), by decide +kernel, by decide +kernel, by decide +kernel, by decide +kernel, by decide +kernel⟩
theorem mf_171 : MFr (yJ4_append_bf812, cJ4_append_bf812, 2, (some (.object "java/lang/StringBuilder")), 0) := ⟨(ts_19 _ (List.mem_of_getElem? (i := 23) rfl)), (ts_9 _ (List.mem_of_getElem? (i := 13) rfl)), by decide +kernel, by decide +kernel, by decide +kernel, by decide +kernel, by decide +kernel⟩
theorem mf_172 : MFr (yJ4_toString_0e30d, cJ4_toString_0e30d, 1, (some (.object "java/lang/String")), 0) := ⟨(ts_17 _ (List.mem_of_getElem? (i := 23) rfl)), (ts_9 _ (List.mem_of_getElem? (i := 13) rfl)), by decide +kernel, by decide +kernel, by decide +kernel, by decide +kernel, by decide +kernel⟩
theorem mf_173 : MFr (yJ4_length_8abf5, cJ4_length_8abf5, 1, (some .int), 0) := ⟨(ts_18 _ (List.mem_of_getElem? (i := 20) rfl)), (ts_9 _ (List.mem_of_getElem? (i := 13) rfl)), by decide +kernel, by decide +kernel, by decide +kernel, by decide +kernel, by decide +kernel⟩
theorem mf_174 : MFr (yJ1_charAt_3b067, cJ1_charAt_3b067, 2, (some .char), 15) := ⟨(ts_16 _ (List.mem_of_getElem? (i := 13) rfl)), (ts_15 _ (List.mem_of_getElem? (i := 1) rfl)), by decide +kernel, by decide +kernel, by decide +kernel, by decide +kernel, by decide +kernel⟩
theorem mf_175 : MFr (yJ1_canEncode_fc78d, cJ1_canEncode_fc78d, 1, (some .boolean), 15) := ⟨(ts_17 _ (List.mem_of_getElem? (i := 16) rfl)), (ts_15 _ (List.mem_of_getElem? (i := 1) rfl)), by decide +kernel, by decide +kernel, by decide +kernel, by decide +kernel, by decide +kernel⟩
theorem mf_176 : MFr (yJ7_copyOf_9075b, cJ7_copyOf_9075b, 3, (some (.array .byte)), 17) := ⟨(ts_12 _ (List.mem_of_getElem? (i := 6) rfl)), (ts_12 _ (List.mem_of_getElem? (i := 5) rfl)), by decide +kernel, by decide +kernel, by decide +kernel, by decide +kernel, by decide +kernel⟩
theorem mf_177 : MFr (yJ7_checkLength_df160, cJ7_checkLength_df160, 2, none, 17) := ⟨(ts_19 _ (List.mem_of_getElem? (i := 9) rfl)), (ts_12 _ (List.mem_of_getElem? (i := 5) rfl)), by decide +kernel, by decide +kernel, by decide +kernel, by decide +kernel, by decide +kernel⟩
theorem mf_178 : MFr (yJ7_copyOfRange_39247, cJ7_copyOfRange_39247, 3, (some (.array .byte)), 17) := ⟨(ts_19 _ (List.mem_of_getElem? (i := 3) rfl)), (ts_12 _ (List.mem_of_getElem? (i := 5) rfl)), by decide +kernel, by decide +kernel, by decide +kernel, by decide +kernel, by decide +kernel⟩
theorem mf_179 : MFr (yJ7_copyOfRangeByte_39247, cJ7_copyOfRangeByte_39247, 5, (some (.array .byte)), 17) := ⟨(ts_19 _ (List.mem_of_getElem? (i := 6) rfl)), (ts_12 _ (List.mem_of_getElem? (i := 5) rfl)), by decide +kernel, by decide +kernel, by decide +kernel, by decide +kernel, by decide +kernel⟩
theorem mf_180 : MFr (yJ8_newLength_cabcc, cJ8_newLength_cabcc, 4, (some .int), 18) := ⟨(ts_11 _ (List.mem_of_getElem? (i := 21) rfl)), (ts_11 _ (List.mem_of_getElem? (i := 20) rfl)), by decide +kernel, by decide +kernel, by decide +kernel, by decide +kernel, by decide +kernel⟩
theorem mf_181 : MFr (yJ3_checkIndex_8e157, cJ3_checkIndex_8e157, 3, (some .int), 19) := ⟨(ts_16 _ (List.mem_of_getElem? (i := 19) rfl)), (ts_13 _ (List.mem_of_getElem? (i := 13) rfl)), by decide +kernel, by decide +kernel, by decide +kernel, by decide +kernel, by decide +kernel⟩
theorem mf_182 : MFr (yL_at, cL_at, 2, (some .int), 13) := ⟨(ts_9 _ (List.mem_of_getElem? (i := 16) rfl)), (ts_9 _ (List.mem_of_getElem? (i := 9) rfl)), by decide +kernel, by decide +kernel, by decide +kernel, by decide +kernel, by decide +kernel⟩
theorem mf_183 : MFr (yL_some, cL_some, 3, (some .int), 13) := ⟨(ts_9 _ (List.mem_of_getElem? (i := 19) rfl)), (ts_9 _ (List.mem_of_getElem? (i := 9) rfl)), by decide +kernel, by decide +kernel, by decide +kernel, by decide +kernel, by decide +kernel⟩
theorem mf_184 : MFr (yL_one, cL_one, 2, (some (.object "java/lang/String")), 13) := ⟨(ts_16 _ (List.mem_of_getElem? (i := 2) rfl)), (ts_9 _ (List.mem_of_getElem? (i := 9) rfl)), by decide +kernel, by decide +kernel, by decide +kernel, by decide +kernel, by decide +kernel⟩
theorem mf_185 : MFr (yL_says, cL_says, 5, (some (.object "java/lang/String")), 13) := ⟨(ts_15 _ (List.mem_of_getElem? (i := 23) rfl)), (ts_9 _ (List.mem_of_getElem? (i := 9) rfl)), by decide +kernel, by decide +kernel, by decide +kernel, by decide +kernel, by decide +kernel⟩
theorem mf_186 : MFr (yL_text, cL_text, 6, (some (.object "java/lang/String")), 13) := ⟨(ts_9 _ (List.mem_of_getElem? (i := 10) rfl)), (ts_9 _ (List.mem_of_getElem? (i := 9) rfl)), by decide +kernel, by decide +kernel, by decide +kernel, by decide +kernel, by decide +kernel⟩
theorem mf_187 : MFr (yL_world, cL_world, 11, none, 13) := ⟨(ts_20 _ (List.mem_of_getElem? (i := 23) rfl)), (ts_9 _ (List.mem_of_getElem? (i := 9) rfl)), by decide +kernel, by decide +kernel, by decide +kernel, by decide +kernel, by decide +kernel⟩
theorem mf_188 : MFr (yL_told, cL_told, 7, (some .long), 13) := ⟨(ts_25 _ (List.mem_of_getElem? (i := 17) rfl)), (ts_9 _ (List.mem_of_getElem? (i := 9) rfl)), by decide +kernel, by decide +kernel, by decide +kernel, by decide +kernel, by decide +kernel⟩
theorem mf_189 : MFr (yL_rest, cL_rest, 15, (some .boolean), 13) := ⟨(ts_35 _ (List.mem_of_getElem? (i := 19) rfl)), (ts_9 _ (List.mem_of_getElem? (i := 9) rfl)), by decide +kernel, by decide +kernel, by decide +kernel, by decide +kernel, by decide +kernel⟩
theorem mf_190 : MFr (yL_far, cL_far, 2, (some .int), 13) := ⟨(ts_36 _ (List.mem_of_getElem? (i := 0) rfl)), (ts_9 _ (List.mem_of_getElem? (i := 9) rfl)), by decide +kernel, by decide +kernel, by decide +kernel, by decide +kernel, by decide +kernel⟩
theorem mf_246 : MFr (yJ6_compare_7cf53, cJ6_compare_7cf53, 2, (some .int), 16) := ⟨(ts_7 _ (List.mem_of_getElem? (i := 16) rfl)), (ts_7 _ (List.mem_of_getElem? (i := 15) rfl)), by decide +kernel, by decide +kernel, by decide +kernel, by decide +kernel, by decide +kernel⟩
theorem mf_247 : MFr (yJ6_bitCount_0f7a4, cJ6_bitCount_0f7a4, 1, (some .int), 16) := ⟨(ts_33 _ (List.mem_of_getElem? (i := 5) rfl)), (ts_7 _ (List.mem_of_getElem? (i := 15) rfl)), by decide +kernel, by decide +kernel, by decide +kernel, by decide +kernel, by decide +kernel⟩
theorem mf_248 : MFr (yJ7_fill_d0a16, cJ7_fill_d0a16, 5, none, 17) := ⟨(ts_24 _ (List.mem_of_getElem? (i := 14) rfl)), (ts_12 _ (List.mem_of_getElem? (i := 5) rfl)), by decide +kernel, by decide +kernel, by decide +kernel, by decide +kernel, by decide +kernel⟩
theorem mf_249 : MFr (yJ7_fill_53178, cJ7_fill_53178, 4, none, 17) := ⟨(ts_27 _ (List.mem_of_getElem? (i := 21) rfl)), (ts_12 _ (List.mem_of_getElem? (i := 5) rfl)), by decide +kernel, by decide +kernel, by decide +kernel, by decide +kernel, by decide +kernel⟩
theorem mfs_0 : ∀ e ∈ mTab_0, e ≠ (yL_law, cL_law, 19, (some .boolean), 13) → MFr e := List.forall_mem_cons.mpr ⟨fun h => absurd rfl h, List.forall_mem_cons.mpr ⟨fun _ => mf_141, List.forall_mem_cons.mpr ⟨fun _ => mf_141, List.forall_mem_cons.mpr ⟨fun _ => mf_141, List.forall_mem_cons.mpr ⟨fun _ => mf_141, List.forall_mem_cons.mpr ⟨fun _ => mf_141, List.forall_mem_cons.mpr ⟨fun _ => mf_141, List.forall_mem_cons.mpr ⟨fun _ => mf_7, List.forall_mem_cons.mpr ⟨fun _ => mf_8, List.forall_mem_cons.mpr ⟨fun _ => mf_9, List.forall_mem_cons.mpr ⟨fun _ => mf_10, List.forall_mem_cons.mpr ⟨fun _ => mf_11, List.forall_mem_cons.mpr ⟨fun _ => mf_12, List.forall_mem_cons.mpr ⟨fun _ => mf_13, List.forall_mem_cons.mpr ⟨fun _ => mf_14, List.forall_mem_cons.mpr ⟨fun _ => mf_15, fun _ h => absurd h List.not_mem_nil⟩⟩⟩⟩⟩⟩⟩⟩⟩⟩⟩⟩⟩⟩⟩⟩
theorem mfs_1 : ∀ e ∈ mTab_1, e ≠ (yL_law, cL_law, 19, (some .boolean), 13) → MFr e := List.forall_mem_cons.mpr ⟨fun _ => mf_16, List.forall_mem_cons.mpr ⟨fun _ => mf_17, List.forall_mem_cons.mpr ⟨fun _ => mf_18, List.forall_mem_cons.mpr ⟨fun _ => mf_19, List.forall_mem_cons.mpr ⟨fun _ => mf_20, List.forall_mem_cons.mpr ⟨fun _ => mf_21, List.forall_mem_cons.mpr ⟨fun _ => mf_22, List.forall_mem_cons.mpr ⟨fun _ => mf_23, List.forall_mem_cons.mpr ⟨fun _ => mf_24, List.forall_mem_cons.mpr ⟨fun _ => mf_25, List.forall_mem_cons.mpr ⟨fun _ => mf_26, List.forall_mem_cons.mpr ⟨fun _ => mf_27, List.forall_mem_cons.mpr ⟨fun _ => mf_28, List.forall_mem_cons.mpr ⟨fun _ => mf_29, List.forall_mem_cons.mpr ⟨fun _ => mf_30, List.forall_mem_cons.mpr ⟨fun _ => mf_31, fun _ h => absurd h List.not_mem_nil⟩⟩⟩⟩⟩⟩⟩⟩⟩⟩⟩⟩⟩⟩⟩⟩
theorem mfs_2 : ∀ e ∈ mTab_2, e ≠ (yL_law, cL_law, 19, (some .boolean), 13) → MFr e := List.forall_mem_cons.mpr ⟨fun _ => mf_32, List.forall_mem_cons.mpr ⟨fun _ => mf_33, List.forall_mem_cons.mpr ⟨fun _ => mf_34, List.forall_mem_cons.mpr ⟨fun _ => mf_35, List.forall_mem_cons.mpr ⟨fun _ => mf_36, List.forall_mem_cons.mpr ⟨fun _ => mf_37, List.forall_mem_cons.mpr ⟨fun _ => mf_38, List.forall_mem_cons.mpr ⟨fun _ => mf_39, List.forall_mem_cons.mpr ⟨fun _ => mf_40, List.forall_mem_cons.mpr ⟨fun _ => mf_41, List.forall_mem_cons.mpr ⟨fun _ => mf_42, List.forall_mem_cons.mpr ⟨fun _ => mf_43, List.forall_mem_cons.mpr ⟨fun _ => mf_44, List.forall_mem_cons.mpr ⟨fun _ => mf_141, List.forall_mem_cons.mpr ⟨fun _ => mf_141, List.forall_mem_cons.mpr ⟨fun _ => mf_141, fun _ h => absurd h List.not_mem_nil⟩⟩⟩⟩⟩⟩⟩⟩⟩⟩⟩⟩⟩⟩⟩⟩
theorem mfs_3 : ∀ e ∈ mTab_3, e ≠ (yL_law, cL_law, 19, (some .boolean), 13) → MFr e := List.forall_mem_cons.mpr ⟨fun _ => mf_141, List.forall_mem_cons.mpr ⟨fun _ => mf_141, List.forall_mem_cons.mpr ⟨fun _ => mf_141, List.forall_mem_cons.mpr ⟨fun _ => mf_141, List.forall_mem_cons.mpr ⟨fun _ => mf_141, List.forall_mem_cons.mpr ⟨fun _ => mf_141, List.forall_mem_cons.mpr ⟨fun _ => mf_141, List.forall_mem_cons.mpr ⟨fun _ => mf_141, List.forall_mem_cons.mpr ⟨fun _ => mf_141, List.forall_mem_cons.mpr ⟨fun _ => mf_141, List.forall_mem_cons.mpr ⟨fun _ => mf_58, List.forall_mem_cons.mpr ⟨fun _ => mf_59, List.forall_mem_cons.mpr ⟨fun _ => mf_60, List.forall_mem_cons.mpr ⟨fun _ => mf_61, List.forall_mem_cons.mpr ⟨fun _ => mf_62, List.forall_mem_cons.mpr ⟨fun _ => mf_63, fun _ h => absurd h List.not_mem_nil⟩⟩⟩⟩⟩⟩⟩⟩⟩⟩⟩⟩⟩⟩⟩⟩
theorem mfs_4 : ∀ e ∈ mTab_4, e ≠ (yL_law, cL_law, 19, (some .boolean), 13) → MFr e := List.forall_mem_cons.mpr ⟨fun _ => mf_64, List.forall_mem_cons.mpr ⟨fun _ => mf_65, List.forall_mem_cons.mpr ⟨fun _ => mf_66, List.forall_mem_cons.mpr ⟨fun _ => mf_141, List.forall_mem_cons.mpr ⟨fun _ => mf_141, List.forall_mem_cons.mpr ⟨fun _ => mf_141, List.forall_mem_cons.mpr ⟨fun _ => mf_70, List.forall_mem_cons.mpr ⟨fun _ => mf_71, List.forall_mem_cons.mpr ⟨fun _ => mf_72, List.forall_mem_cons.mpr ⟨fun _ => mf_141, List.forall_mem_cons.mpr ⟨fun _ => mf_141, List.forall_mem_cons.mpr ⟨fun _ => mf_75, List.forall_mem_cons.mpr ⟨fun _ => mf_76, List.forall_mem_cons.mpr ⟨fun _ => mf_77, List.forall_mem_cons.mpr ⟨fun _ => mf_78, List.forall_mem_cons.mpr ⟨fun _ => mf_79, fun _ h => absurd h List.not_mem_nil⟩⟩⟩⟩⟩⟩⟩⟩⟩⟩⟩⟩⟩⟩⟩⟩
theorem mfs_5 : ∀ e ∈ mTab_5, e ≠ (yL_law, cL_law, 19, (some .boolean), 13) → MFr e := List.forall_mem_cons.mpr ⟨fun _ => mf_80, List.forall_mem_cons.mpr ⟨fun _ => mf_81, List.forall_mem_cons.mpr ⟨fun _ => mf_82, List.forall_mem_cons.mpr ⟨fun _ => mf_83, List.forall_mem_cons.mpr ⟨fun _ => mf_84, List.forall_mem_cons.mpr ⟨fun _ => mf_85, List.forall_mem_cons.mpr ⟨fun _ => mf_86, List.forall_mem_cons.mpr ⟨fun _ => mf_87, List.forall_mem_cons.mpr ⟨fun _ => mf_88, List.forall_mem_cons.mpr ⟨fun _ => mf_89, List.forall_mem_cons.mpr ⟨fun _ => mf_90, List.forall_mem_cons.mpr ⟨fun _ => mf_91, List.forall_mem_cons.mpr ⟨fun _ => mf_92, List.forall_mem_cons.mpr ⟨fun _ => mf_93, List.forall_mem_cons.mpr ⟨fun _ => mf_94, List.forall_mem_cons.mpr ⟨fun _ => mf_95, fun _ h => absurd h List.not_mem_nil⟩⟩⟩⟩⟩⟩⟩⟩⟩⟩⟩⟩⟩⟩⟩⟩
theorem mfs_6 : ∀ e ∈ mTab_6, e ≠ (yL_law, cL_law, 19, (some .boolean), 13) → MFr e := List.forall_mem_cons.mpr ⟨fun _ => mf_96, List.forall_mem_cons.mpr ⟨fun _ => mf_97, List.forall_mem_cons.mpr ⟨fun _ => mf_98, List.forall_mem_cons.mpr ⟨fun _ => mf_99, List.forall_mem_cons.mpr ⟨fun _ => mf_100, List.forall_mem_cons.mpr ⟨fun _ => mf_101, List.forall_mem_cons.mpr ⟨fun _ => mf_102, List.forall_mem_cons.mpr ⟨fun _ => mf_103, List.forall_mem_cons.mpr ⟨fun _ => mf_104, List.forall_mem_cons.mpr ⟨fun _ => mf_105, List.forall_mem_cons.mpr ⟨fun _ => mf_106, List.forall_mem_cons.mpr ⟨fun _ => mf_107, List.forall_mem_cons.mpr ⟨fun _ => mf_108, List.forall_mem_cons.mpr ⟨fun _ => mf_109, List.forall_mem_cons.mpr ⟨fun _ => mf_110, List.forall_mem_cons.mpr ⟨fun _ => mf_111, fun _ h => absurd h List.not_mem_nil⟩⟩⟩⟩⟩⟩⟩⟩⟩⟩⟩⟩⟩⟩⟩⟩
theorem mfs_7 : ∀ e ∈ mTab_7, e ≠ (yL_law, cL_law, 19, (some .boolean), 13) → MFr e := List.forall_mem_cons.mpr ⟨fun _ => mf_112, List.forall_mem_cons.mpr ⟨fun _ => mf_113, List.forall_mem_cons.mpr ⟨fun _ => mf_114, List.forall_mem_cons.mpr ⟨fun _ => mf_115, List.forall_mem_cons.mpr ⟨fun _ => mf_116, List.forall_mem_cons.mpr ⟨fun _ => mf_117, List.forall_mem_cons.mpr ⟨fun _ => mf_118, List.forall_mem_cons.mpr ⟨fun _ => mf_119, List.forall_mem_cons.mpr ⟨fun _ => mf_120, List.forall_mem_cons.mpr ⟨fun _ => mf_121, List.forall_mem_cons.mpr ⟨fun _ => mf_122, List.forall_mem_cons.mpr ⟨fun _ => mf_123, List.forall_mem_cons.mpr ⟨fun _ => mf_124, List.forall_mem_cons.mpr ⟨fun _ => mf_125, List.forall_mem_cons.mpr ⟨fun _ => mf_126, List.forall_mem_cons.mpr ⟨fun _ => mf_141, fun _ h => absurd h List.not_mem_nil⟩⟩⟩⟩⟩⟩⟩⟩⟩⟩⟩⟩⟩⟩⟩⟩
theorem mfs_8 : ∀ e ∈ mTab_8, e ≠ (yL_law, cL_law, 19, (some .boolean), 13) → MFr e := List.forall_mem_cons.mpr ⟨fun _ => mf_141, List.forall_mem_cons.mpr ⟨fun _ => mf_141, List.forall_mem_cons.mpr ⟨fun _ => mf_141, List.forall_mem_cons.mpr ⟨fun _ => mf_141, List.forall_mem_cons.mpr ⟨fun _ => mf_132, List.forall_mem_cons.mpr ⟨fun _ => mf_133, List.forall_mem_cons.mpr ⟨fun _ => mf_134, List.forall_mem_cons.mpr ⟨fun _ => mf_141, List.forall_mem_cons.mpr ⟨fun _ => mf_136, List.forall_mem_cons.mpr ⟨fun _ => mf_141, List.forall_mem_cons.mpr ⟨fun _ => mf_141, List.forall_mem_cons.mpr ⟨fun _ => mf_141, List.forall_mem_cons.mpr ⟨fun _ => mf_140, List.forall_mem_cons.mpr ⟨fun _ => mf_141, List.forall_mem_cons.mpr ⟨fun _ => mf_142, List.forall_mem_cons.mpr ⟨fun _ => mf_143, fun _ h => absurd h List.not_mem_nil⟩⟩⟩⟩⟩⟩⟩⟩⟩⟩⟩⟩⟩⟩⟩⟩
theorem mfs_9 : ∀ e ∈ mTab_9, e ≠ (yL_law, cL_law, 19, (some .boolean), 13) → MFr e := List.forall_mem_cons.mpr ⟨fun _ => mf_141, List.forall_mem_cons.mpr ⟨fun _ => mf_141, List.forall_mem_cons.mpr ⟨fun _ => mf_141, List.forall_mem_cons.mpr ⟨fun _ => mf_147, List.forall_mem_cons.mpr ⟨fun _ => mf_148, List.forall_mem_cons.mpr ⟨fun _ => mf_149, List.forall_mem_cons.mpr ⟨fun _ => mf_150, List.forall_mem_cons.mpr ⟨fun _ => mf_151, List.forall_mem_cons.mpr ⟨fun _ => mf_152, List.forall_mem_cons.mpr ⟨fun _ => mf_153, List.forall_mem_cons.mpr ⟨fun _ => mf_154, List.forall_mem_cons.mpr ⟨fun _ => mf_155, List.forall_mem_cons.mpr ⟨fun _ => mf_156, List.forall_mem_cons.mpr ⟨fun _ => mf_157, List.forall_mem_cons.mpr ⟨fun _ => mf_158, List.forall_mem_cons.mpr ⟨fun _ => mf_159, fun _ h => absurd h List.not_mem_nil⟩⟩⟩⟩⟩⟩⟩⟩⟩⟩⟩⟩⟩⟩⟩⟩
theorem mfs_10 : ∀ e ∈ mTab_10, e ≠ (yL_law, cL_law, 19, (some .boolean), 13) → MFr e := List.forall_mem_cons.mpr ⟨fun _ => mf_160, List.forall_mem_cons.mpr ⟨fun _ => mf_161, List.forall_mem_cons.mpr ⟨fun _ => mf_162, List.forall_mem_cons.mpr ⟨fun _ => mf_163, List.forall_mem_cons.mpr ⟨fun _ => mf_164, List.forall_mem_cons.mpr ⟨fun _ => mf_165, List.forall_mem_cons.mpr ⟨fun _ => mf_166, List.forall_mem_cons.mpr ⟨fun _ => mf_167, List.forall_mem_cons.mpr ⟨fun _ => mf_168, List.forall_mem_cons.mpr ⟨fun _ => mf_169, List.forall_mem_cons.mpr ⟨fun _ => mf_170, List.forall_mem_cons.mpr ⟨fun _ => mf_171, List.forall_mem_cons.mpr ⟨fun _ => mf_172, List.forall_mem_cons.mpr ⟨fun _ => mf_173, List.forall_mem_cons.mpr ⟨fun _ => mf_174, List.forall_mem_cons.mpr ⟨fun _ => mf_175, fun _ h => absurd h List.not_mem_nil⟩⟩⟩⟩⟩⟩⟩⟩⟩⟩⟩⟩⟩⟩⟩⟩
theorem mfs_11 : ∀ e ∈ mTab_11, e ≠ (yL_law, cL_law, 19, (some .boolean), 13) → MFr e := List.forall_mem_cons.mpr ⟨fun _ => mf_176, List.forall_mem_cons.mpr ⟨fun _ => mf_177, List.forall_mem_cons.mpr ⟨fun _ => mf_178, List.forall_mem_cons.mpr ⟨fun _ => mf_179, List.forall_mem_cons.mpr ⟨fun _ => mf_180, List.forall_mem_cons.mpr ⟨fun _ => mf_181, List.forall_mem_cons.mpr ⟨fun _ => mf_182, List.forall_mem_cons.mpr ⟨fun _ => mf_183, List.forall_mem_cons.mpr ⟨fun _ => mf_184, List.forall_mem_cons.mpr ⟨fun _ => mf_185, List.forall_mem_cons.mpr ⟨fun _ => mf_186, List.forall_mem_cons.mpr ⟨fun _ => mf_187, List.forall_mem_cons.mpr ⟨fun _ => mf_188, List.forall_mem_cons.mpr ⟨fun _ => mf_189, List.forall_mem_cons.mpr ⟨fun _ => mf_190, List.forall_mem_cons.mpr ⟨fun _ => mf_141, fun _ h => absurd h List.not_mem_nil⟩⟩⟩⟩⟩⟩⟩⟩⟩⟩⟩⟩⟩⟩⟩⟩
theorem mfs_12 : ∀ e ∈ mTab_12, e ≠ (yL_law, cL_law, 19, (some .boolean), 13) → MFr e := List.forall_mem_cons.mpr ⟨fun _ => mf_141, List.forall_mem_cons.mpr ⟨fun _ => mf_141, List.forall_mem_cons.mpr ⟨fun _ => mf_141, List.forall_mem_cons.mpr ⟨fun _ => mf_141, List.forall_mem_cons.mpr ⟨fun _ => mf_141, List.forall_mem_cons.mpr ⟨fun _ => mf_141, List.forall_mem_cons.mpr ⟨fun _ => mf_141, List.forall_mem_cons.mpr ⟨fun _ => mf_141, List.forall_mem_cons.mpr ⟨fun _ => mf_141, List.forall_mem_cons.mpr ⟨fun _ => mf_141, List.forall_mem_cons.mpr ⟨fun _ => mf_141, List.forall_mem_cons.mpr ⟨fun _ => mf_141, List.forall_mem_cons.mpr ⟨fun _ => mf_141, List.forall_mem_cons.mpr ⟨fun _ => mf_141, List.forall_mem_cons.mpr ⟨fun _ => mf_141, List.forall_mem_cons.mpr ⟨fun _ => mf_141, fun _ h => absurd h List.not_mem_nil⟩⟩⟩⟩⟩⟩⟩⟩⟩⟩⟩⟩⟩⟩⟩⟩
theorem mfs_13 : ∀ e ∈ mTab_13, e ≠ (yL_law, cL_law, 19, (some .boolean), 13) → MFr e := List.forall_mem_cons.mpr ⟨fun _ => mf_141, List.forall_mem_cons.mpr ⟨fun _ => mf_141, List.forall_mem_cons.mpr ⟨fun _ => mf_141, List.forall_mem_cons.mpr ⟨fun _ => mf_141, List.forall_mem_cons.mpr ⟨fun _ => mf_141, List.forall_mem_cons.mpr ⟨fun _ => mf_141, List.forall_mem_cons.mpr ⟨fun _ => mf_141, List.forall_mem_cons.mpr ⟨fun _ => mf_141, List.forall_mem_cons.mpr ⟨fun _ => mf_141, List.forall_mem_cons.mpr ⟨fun _ => mf_141, List.forall_mem_cons.mpr ⟨fun _ => mf_141, List.forall_mem_cons.mpr ⟨fun _ => mf_141, List.forall_mem_cons.mpr ⟨fun _ => mf_141, List.forall_mem_cons.mpr ⟨fun _ => mf_141, List.forall_mem_cons.mpr ⟨fun _ => mf_141, List.forall_mem_cons.mpr ⟨fun _ => mf_141, fun _ h => absurd h List.not_mem_nil⟩⟩⟩⟩⟩⟩⟩⟩⟩⟩⟩⟩⟩⟩⟩⟩
theorem mfs_14 : ∀ e ∈ mTab_14, e ≠ (yL_law, cL_law, 19, (some .boolean), 13) → MFr e := List.forall_mem_cons.mpr ⟨fun _ => mf_141, List.forall_mem_cons.mpr ⟨fun _ => mf_141, List.forall_mem_cons.mpr ⟨fun _ => mf_141, List.forall_mem_cons.mpr ⟨fun _ => mf_141, List.forall_mem_cons.mpr ⟨fun _ => mf_141, List.forall_mem_cons.mpr ⟨fun _ => mf_141, List.forall_mem_cons.mpr ⟨fun _ => mf_141, List.forall_mem_cons.mpr ⟨fun _ => mf_141, List.forall_mem_cons.mpr ⟨fun _ => mf_141, List.forall_mem_cons.mpr ⟨fun _ => mf_141, List.forall_mem_cons.mpr ⟨fun _ => mf_141, List.forall_mem_cons.mpr ⟨fun _ => mf_141, List.forall_mem_cons.mpr ⟨fun _ => mf_141, List.forall_mem_cons.mpr ⟨fun _ => mf_141, List.forall_mem_cons.mpr ⟨fun _ => mf_141, List.forall_mem_cons.mpr ⟨fun _ => mf_141, fun _ h => absurd h List.not_mem_nil⟩⟩⟩⟩⟩⟩⟩⟩⟩⟩⟩⟩⟩⟩⟩⟩
theorem mfs_15 : ∀ e ∈ mTab_15, e ≠ (yL_law, cL_law, 19, (some .boolean), 13) → MFr e := List.forall_mem_cons.mpr ⟨fun _ => mf_141, List.forall_mem_cons.mpr ⟨fun _ => mf_141, List.forall_mem_cons.mpr ⟨fun _ => mf_141, List.forall_mem_cons.mpr ⟨fun _ => mf_141, List.forall_mem_cons.mpr ⟨fun _ => mf_141, List.forall_mem_cons.mpr ⟨fun _ => mf_141, List.forall_mem_cons.mpr ⟨fun _ => mf_246, List.forall_mem_cons.mpr ⟨fun _ => mf_247, List.forall_mem_cons.mpr ⟨fun _ => mf_248, List.forall_mem_cons.mpr ⟨fun _ => mf_249, fun _ h => absurd h List.not_mem_nil⟩⟩⟩⟩⟩⟩⟩⟩⟩⟩
theorem mf_all : ∀ l ∈ mTabs, ∀ e ∈ l, e ≠ (yL_law, cL_law, 19, (some .boolean), 13) → MFr e := List.forall_mem_cons.mpr ⟨mfs_0, List.forall_mem_cons.mpr ⟨mfs_1, List.forall_mem_cons.mpr ⟨mfs_2, List.forall_mem_cons.mpr ⟨mfs_3, List.forall_mem_cons.mpr ⟨mfs_4, List.forall_mem_cons.mpr ⟨mfs_5, List.forall_mem_cons.mpr ⟨mfs_6, List.forall_mem_cons.mpr ⟨mfs_7, List.forall_mem_cons.mpr ⟨mfs_8, List.forall_mem_cons.mpr ⟨mfs_9, List.forall_mem_cons.mpr ⟨mfs_10, List.forall_mem_cons.mpr ⟨mfs_11, List.forall_mem_cons.mpr ⟨mfs_12, List.forall_mem_cons.mpr ⟨mfs_13, List.forall_mem_cons.mpr ⟨mfs_14, List.forall_mem_cons.mpr ⟨mfs_15, fun _ h => absurd h List.not_mem_nil⟩⟩⟩⟩⟩⟩⟩⟩⟩⟩⟩⟩⟩⟩⟩⟩
def MF (y : Nat) : Prop := MFr (mRow y)
theorem mf_ne : ∀ y, y < 250 → y ≠ 0 → mRow y ≠ (yL_law, cL_law, 19, (some .boolean), 13) := by
  intro y hy h0 h
  have h1 : ∀ y, y < 250 → y ≠ 0 → (mRow y).2.2.1 ≠ 19 := by decide +kernel
  exact h1 y hy h0 (by rw [h])
theorem mf_of (y : Nat) (hy : y < 250) (h0 : y ≠ 0) : MF y := by
  unfold MF
  have hne := mf_ne y hy h0
  unfold mRow at hne ⊢
  have h1 : y / 16 < mTabs.length := by
    have : mTabs.length = 16 := rfl
    omega
  have e1 : mTabs.getD (y / 16) [] = mTabs[y / 16] := by simp [List.getD, h1]
  rw [e1] at hne ⊢
  by_cases h2 : y % 16 < (mTabs[y / 16]).length
  · have e2 : (mTabs[y / 16]).getD (y % 16) (yL_law, cL_law, 19, none, 13) = (mTabs[y / 16])[y % 16] := by simp [List.getD, h2]
    rw [e2] at hne ⊢
    exact mf_all _ (List.getElem_mem h1) _ (List.getElem_mem h2) hne
  · exfalso
    have h3 : ∀ y, y < 250 → y % 16 < (mTabs.getD (y / 16) []).length := by decide +kernel
    have := h3 y hy
    rw [e1] at this
    exact h2 this
def clC (ci : Nat) : String := [RJ4, RJ0, RJ4, RX3, RX4, RJ4, RJ4, RJ4, RJ4, RX9, RJ4, RX11, RJ4].getD ci RJ4
def clTy (ci : Nat) : u_T := [TJ4, TJ0, TJ4, TX3, TX4, TJ4, TJ4, TJ4, TJ4, TX9, TJ4, TX11, TJ4].getD ci TJ4
def clY (ci : Nat) : Nat → FieldType := [tyJ4, tyJ0, tyJ4, tyX3, tyX4, tyJ4, tyJ4, tyJ4, tyJ4, tyX9, tyJ4, tyX11, tyJ4].getD ci tyJ4
def ClF (ci : Nat) : Prop := vwCl[ci]? = some (clC ci, clTy ci, nSlots ci) ∧ (∀ w ∈ u_ws (clC ci) (clTy ci) (nSlots ci), w ∈ TS) ∧ (∀ k, k < nSlots ci → parseFieldDescriptor (clTy ci k).2.2.1 = some (clY ci k)) ∧ (∀ a, a < nSlots ci → ∀ b, b < nSlots ci → a ≠ b → (clTy ci a).2.1 ≠ (clTy ci b).2.1) ∧ clC ci = cStr ci
theorem clf_0 : ClF 0 := ⟨rfl, ts_wsJ40, tyJ4_ok, nmJ4, rfl⟩
theorem clf_1 : ClF 1 := ⟨rfl, ts_wsJ00, tyJ0_ok, nmJ0, rfl⟩
theorem clf_2 : ClF 2 := ⟨rfl, ts_wsJ40, tyJ4_ok, nmJ4, rfl⟩
theorem clf_3 : ClF 3 := ⟨rfl, ts_wsX30, tyX3_ok, nmX3, rfl⟩
theorem clf_4 : ClF 4 := ⟨rfl, ts_wsX40, tyX4_ok, nmX4, rfl⟩
theorem clf_5 : ClF 5 := ⟨rfl, ts_wsJ40, tyJ4_ok, nmJ4, rfl⟩
theorem clf_6 : ClF 6 := ⟨rfl, ts_wsJ40, tyJ4_ok, nmJ4, rfl⟩
theorem clf_7 : ClF 7 := ⟨rfl, ts_wsJ40, tyJ4_ok, nmJ4, rfl⟩
theorem clf_8 : ClF 8 := ⟨rfl, ts_wsJ40, tyJ4_ok, nmJ4, rfl⟩
theorem clf_9 : ClF 9 := ⟨rfl, ts_wsX90, tyX9_ok, nmX9, rfl⟩
theorem clf_10 : ClF 10 := ⟨rfl, ts_wsJ40, tyJ4_ok, nmJ4, rfl⟩
theorem clf_11 : ClF 11 := ⟨rfl, ts_wsX110, tyX11_ok, nmX11, rfl⟩
theorem clf_12 : ClF 12 := ⟨rfl, ts_wsJ40, tyJ4_ok, nmJ4, rfl⟩
theorem clf : ∀ ci, ci < 13 → ClF ci
  | 0, _ => clf_0
  | 1, _ => clf_1
  | 2, _ => clf_2
  | 3, _ => clf_3
  | 4, _ => clf_4
  | 5, _ => clf_5
  | 6, _ => clf_6
  | 7, _ => clf_7
  | 8, _ => clf_8
  | 9, _ => clf_9
  | 10, _ => clf_10
  | 11, _ => clf_11
  | 12, _ => clf_12
  | n + 13, h => absurd h (by omega)
def declC (C0 : Nat) : Bool := [1, 3, 4, 9, 11].contains C0
def refTy (t : FieldType) : Bool := match t with
  | .object _ => true
  | .array _ => true
  | _ => false
theorem slotFa : ∀ C0, C0 < 13 → ∀ k, k < nSlots C0 → (fRef C0 k = true → refTy (clY C0 k) = true) := by decide +kernel
theorem slotFb : ∀ C0, C0 < 13 → ∀ k, k < nSlots C0 → ((!fRef C0 k && !fBool C0 k && !fByte C0 k) = true → clY C0 k = .int) := by decide +kernel
theorem slotFc : ∀ C0, C0 < 13 → ∀ k, k < nSlots C0 → ((!fRef C0 k && fBool C0 k) = true → clY C0 k = .boolean) := by decide +kernel
theorem slotFd : ∀ C0, C0 < 13 → ∀ k, k < nSlots C0 → ((!fRef C0 k && fByte C0 k) = true → clY C0 k = .byte) := by decide +kernel
theorem slotF : ∀ C0, C0 < 13 → ∀ k, k < nSlots C0 → (fRef C0 k = true → refTy (clY C0 k) = true) ∧ (fRef C0 k = false → fBool C0 k = false → fByte C0 k = false → clY C0 k = .int) ∧ (fRef C0 k = false → fBool C0 k = true → clY C0 k = .boolean) ∧ (fRef C0 k = false → fByte C0 k = true → clY C0 k = .byte) := fun C0 h k hk => ⟨slotFa C0 h k hk, fun a b c => slotFb C0 h k hk (by rw [a, b, c]; rfl), fun a b => slotFc C0 h k hk (by rw [a, b]; rfl), fun a b => slotFd C0 h k hk (by rw [a, b]; rfl)⟩
theorem slotG : ∀ C0, C0 < 13 → ∀ k, k < nSlots C0 → (clTy C0 k).2.2.2 = fFin C0 k ∧ (declC C0 = true → (clTy C0 k).1 = cStr C0) := by decide +kernel
theorem lookup_mem {α : Type} {i : Nat} {v : α} : ∀ {l : List (Nat × α)}, l.lookup i = some v → (i, v) ∈ l
  | [], h => by simp at h
  | (j, w) :: l, h => by
    rw [List.lookup_cons] at h
    split at h
    · rename_i hb
      cases h
      rw [beq_iff_eq] at hb
      subst hb
      exact List.mem_cons_self
    · exact List.mem_cons_of_mem _ (lookup_mem h)
def FFe (c : Nat) (e : Nat × Nat × Nat) : Prop := (fFin e.2.1 e.2.2 = true → declC e.2.1 = true) ∧ e.2.1 < 13 ∧ e.2.2 < nSlots e.2.1 ∧ Cond.fieldLink (cStr c) e.1 (clTy e.2.1 e.2.2).1 (clTy e.2.1 e.2.2).2.1 (clTy e.2.1 e.2.2).2.2.1 ∈ TS
theorem ff_1 : ∀ e ∈ fT_1, FFe 1 e := List.forall_mem_cons.mpr ⟨⟨by decide, by decide, by decide, (ts_14 _ (List.mem_of_getElem? (i := 0) rfl))⟩, List.forall_mem_cons.mpr ⟨⟨by decide, by decide, by decide, (ts_14 _ (List.mem_of_getElem? (i := 6) rfl))⟩, List.forall_mem_cons.mpr ⟨⟨by decide, by decide, by decide, (ts_18 _ (List.mem_of_getElem? (i := 9) rfl))⟩, fun _ h => absurd h List.not_mem_nil⟩⟩⟩
theorem ff_3 : ∀ e ∈ fT_3, FFe 3 e := List.forall_mem_cons.mpr ⟨⟨by decide, by decide, by decide, (ts_3 _ (List.mem_of_getElem? (i := 5) rfl))⟩, List.forall_mem_cons.mpr ⟨⟨by decide, by decide, by decide, (ts_3 _ (List.mem_of_getElem? (i := 6) rfl))⟩, List.forall_mem_cons.mpr ⟨⟨by decide, by decide, by decide, (ts_3 _ (List.mem_of_getElem? (i := 7) rfl))⟩, List.forall_mem_cons.mpr ⟨⟨by decide, by decide, by decide, (ts_3 _ (List.mem_of_getElem? (i := 8) rfl))⟩, List.forall_mem_cons.mpr ⟨⟨by decide, by decide, by decide, (ts_6 _ (List.mem_of_getElem? (i := 17) rfl))⟩, List.forall_mem_cons.mpr ⟨⟨by decide, by decide, by decide, (ts_22 _ (List.mem_of_getElem? (i := 9) rfl))⟩, List.forall_mem_cons.mpr ⟨⟨by decide, by decide, by decide, (ts_22 _ (List.mem_of_getElem? (i := 11) rfl))⟩, List.forall_mem_cons.mpr ⟨⟨by decide, by decide, by decide, (ts_22 _ (List.mem_of_getElem? (i := 12) rfl))⟩, List.forall_mem_cons.mpr ⟨⟨by decide, by decide, by decide, (ts_6 _ (List.mem_of_getElem? (i := 22) rfl))⟩, fun _ h => absurd h List.not_mem_nil⟩⟩⟩⟩⟩⟩⟩⟩⟩
theorem ff_4 : ∀ e ∈ fT_4, FFe 4 e := List.forall_mem_cons.mpr ⟨⟨by decide, by decide, by decide, (ts_2 _ (List.mem_of_getElem? (i := 18) rfl))⟩, List.forall_mem_cons.mpr ⟨⟨by decide, by decide, by decide, (ts_2 _ (List.mem_of_getElem? (i := 19) rfl))⟩, List.forall_mem_cons.mpr ⟨⟨by decide, by decide, by decide, (ts_2 _ (List.mem_of_getElem? (i := 20) rfl))⟩, List.forall_mem_cons.mpr ⟨⟨by decide, by decide, by decide, (ts_2 _ (List.mem_of_getElem? (i := 21) rfl))⟩, List.forall_mem_cons.mpr ⟨⟨by decide, by decide, by decide, (ts_2 _ (List.mem_of_getElem? (i := 22) rfl))⟩, List.forall_mem_cons.mpr ⟨⟨by decide, by decide, by decide, (ts_2 _ (List.mem_of_getElem? (i := 23) rfl))⟩, List.forall_mem_cons.mpr ⟨⟨by decide, by decide, by decide, (ts_3 _ (List.mem_of_getElem? (i := 0) rfl))⟩, List.forall_mem_cons.mpr ⟨⟨by decide, by decide, by decide, (ts_3 _ (List.mem_of_getElem? (i := 1) rfl))⟩, List.forall_mem_cons.mpr ⟨⟨by decide, by decide, by decide, (ts_4 _ (List.mem_of_getElem? (i := 9) rfl))⟩, List.forall_mem_cons.mpr ⟨⟨by decide, by decide, by decide, (ts_4 _ (List.mem_of_getElem? (i := 16) rfl))⟩, List.forall_mem_cons.mpr ⟨⟨by decide, by decide, by decide, (ts_4 _ (List.mem_of_getElem? (i := 0) rfl))⟩, fun _ h => absurd h List.not_mem_nil⟩⟩⟩⟩⟩⟩⟩⟩⟩⟩⟩
theorem ff_9 : ∀ e ∈ fT_9, FFe 9 e := List.forall_mem_cons.mpr ⟨⟨by decide, by decide, by decide, (ts_3 _ (List.mem_of_getElem? (i := 13) rfl))⟩, List.forall_mem_cons.mpr ⟨⟨by decide, by decide, by decide, (ts_3 _ (List.mem_of_getElem? (i := 14) rfl))⟩, List.forall_mem_cons.mpr ⟨⟨by decide, by decide, by decide, (ts_24 _ (List.mem_of_getElem? (i := 10) rfl))⟩, List.forall_mem_cons.mpr ⟨⟨by decide, by decide, by decide, (ts_24 _ (List.mem_of_getElem? (i := 11) rfl))⟩, fun _ h => absurd h List.not_mem_nil⟩⟩⟩⟩
theorem ff_11 : ∀ e ∈ fT_11, FFe 11 e := List.forall_mem_cons.mpr ⟨⟨by decide, by decide, by decide, (ts_1 _ (List.mem_of_getElem? (i := 19) rfl))⟩, List.forall_mem_cons.mpr ⟨⟨by decide, by decide, by decide, (ts_1 _ (List.mem_of_getElem? (i := 20) rfl))⟩, List.forall_mem_cons.mpr ⟨⟨by decide, by decide, by decide, (ts_1 _ (List.mem_of_getElem? (i := 21) rfl))⟩, List.forall_mem_cons.mpr ⟨⟨by decide, by decide, by decide, (ts_2 _ (List.mem_of_getElem? (i := 1) rfl))⟩, List.forall_mem_cons.mpr ⟨⟨by decide, by decide, by decide, (ts_2 _ (List.mem_of_getElem? (i := 2) rfl))⟩, List.forall_mem_cons.mpr ⟨⟨by decide, by decide, by decide, (ts_2 _ (List.mem_of_getElem? (i := 3) rfl))⟩, List.forall_mem_cons.mpr ⟨⟨by decide, by decide, by decide, (ts_2 _ (List.mem_of_getElem? (i := 5) rfl))⟩, List.forall_mem_cons.mpr ⟨⟨by decide, by decide, by decide, (ts_2 _ (List.mem_of_getElem? (i := 6) rfl))⟩, List.forall_mem_cons.mpr ⟨⟨by decide, by decide, by decide, (ts_2 _ (List.mem_of_getElem? (i := 7) rfl))⟩, List.forall_mem_cons.mpr ⟨⟨by decide, by decide, by decide, (ts_2 _ (List.mem_of_getElem? (i := 9) rfl))⟩, List.forall_mem_cons.mpr ⟨⟨by decide, by decide, by decide, (ts_2 _ (List.mem_of_getElem? (i := 10) rfl))⟩, List.forall_mem_cons.mpr ⟨⟨by decide, by decide, by decide, (ts_2 _ (List.mem_of_getElem? (i := 12) rfl))⟩, List.forall_mem_cons.mpr ⟨⟨by decide, by decide, by decide, (ts_22 _ (List.mem_of_getElem? (i := 0) rfl))⟩, List.forall_mem_cons.mpr ⟨⟨by decide, by decide, by decide, (ts_9 _ (List.mem_of_getElem? (i := 4) rfl))⟩, List.forall_mem_cons.mpr ⟨⟨by decide, by decide, by decide, (ts_26 _ (List.mem_of_getElem? (i := 4) rfl))⟩, List.forall_mem_cons.mpr ⟨⟨by decide, by decide, by decide, (ts_9 _ (List.mem_of_getElem? (i := 3) rfl))⟩, List.forall_mem_cons.mpr ⟨⟨by decide, by decide, by decide, (ts_26 _ (List.mem_of_getElem? (i := 5) rfl))⟩, List.forall_mem_cons.mpr ⟨⟨by decide, by decide, by decide, (ts_26 _ (List.mem_of_getElem? (i := 14) rfl))⟩, List.forall_mem_cons.mpr ⟨⟨by decide, by decide, by decide, (ts_27 _ (List.mem_of_getElem? (i := 13) rfl))⟩, List.forall_mem_cons.mpr ⟨⟨by decide, by decide, by decide, (ts_31 _ (List.mem_of_getElem? (i := 10) rfl))⟩, List.forall_mem_cons.mpr ⟨⟨by decide, by decide, by decide, (ts_30 _ (List.mem_of_getElem? (i := 18) rfl))⟩, List.forall_mem_cons.mpr ⟨⟨by decide, by decide, by decide, (ts_31 _ (List.mem_of_getElem? (i := 19) rfl))⟩, List.forall_mem_cons.mpr ⟨⟨by decide, by decide, by decide, (ts_4 _ (List.mem_of_getElem? (i := 22) rfl))⟩, List.forall_mem_cons.mpr ⟨⟨by decide, by decide, by decide, (ts_4 _ (List.mem_of_getElem? (i := 21) rfl))⟩, List.forall_mem_cons.mpr ⟨⟨by decide, by decide, by decide, (ts_3 _ (List.mem_of_getElem? (i := 19) rfl))⟩, List.forall_mem_cons.mpr ⟨⟨by decide, by decide, by decide, (ts_21 _ (List.mem_of_getElem? (i := 14) rfl))⟩, List.forall_mem_cons.mpr ⟨⟨by decide, by decide, by decide, (ts_34 _ (List.mem_of_getElem? (i := 23) rfl))⟩, fun _ h => absurd h List.not_mem_nil⟩⟩⟩⟩⟩⟩⟩⟩⟩⟩⟩⟩⟩⟩⟩⟩⟩⟩⟩⟩⟩⟩⟩⟩⟩⟩⟩
theorem ff_14 : ∀ e ∈ fT_14, FFe 14 e := List.forall_mem_cons.mpr ⟨⟨by decide, by decide, by decide, (ts_10 _ (List.mem_of_getElem? (i := 6) rfl))⟩, List.forall_mem_cons.mpr ⟨⟨by decide, by decide, by decide, (ts_10 _ (List.mem_of_getElem? (i := 7) rfl))⟩, List.forall_mem_cons.mpr ⟨⟨by decide, by decide, by decide, (ts_11 _ (List.mem_of_getElem? (i := 1) rfl))⟩, fun _ h => absurd h List.not_mem_nil⟩⟩⟩
theorem fld_ok {c i C0 k : Nat} (h : fld c i = some (C0, k)) : FFe c (i, C0, k) := by
  have h1 := lookup_mem h
  unfold fTab at h1
  split at h1
  · exact ff_1 _ h1
  · exact ff_3 _ h1
  · exact ff_4 _ h1
  · exact ff_9 _ h1
  · exact ff_11 _ h1
  · exact ff_14 _ h1
  · exact absurd h1 List.not_mem_nil
theorem kI_ok {c i : Nat} {v : Int32} (h : kI c i = some v) : Cond.constant (cStr c) i v ∈ TS := by
  unfold kI at h
  split at h
  · cases h; exact (ts_1 _ (List.mem_of_getElem? (i := 5) rfl))
  · cases h; exact (ts_11 _ (List.mem_of_getElem? (i := 17) rfl))
  · cases h; exact (ts_11 _ (List.mem_of_getElem? (i := 23) rfl))
  · cases h; exact (ts_21 _ (List.mem_of_getElem? (i := 4) rfl))
  · cases h; exact (ts_33 _ (List.mem_of_getElem? (i := 6) rfl))
  · cases h; exact (ts_33 _ (List.mem_of_getElem? (i := 7) rfl))
  · cases h; exact (ts_33 _ (List.mem_of_getElem? (i := 8) rfl))
  · cases h; exact (ts_34 _ (List.mem_of_getElem? (i := 10) rfl))
  · cases h
theorem kL_ok {c i : Nat} {v : Int64} (h : kL c i = some v) : Cond.constantLong (cStr c) i v ∈ TS := by
  unfold kL at h
  split at h
  · cases h; exact (ts_1 _ (List.mem_of_getElem? (i := 4) rfl))
  · cases h; exact (ts_25 _ (List.mem_of_getElem? (i := 18) rfl))
  · cases h; exact (ts_25 _ (List.mem_of_getElem? (i := 19) rfl))
  · cases h; exact (ts_30 _ (List.mem_of_getElem? (i := 20) rfl))
  · cases h
theorem gs_ok {c i t : Nat} (h : gsT c i = some t) : (t = 0 ∧ Cond.fieldLink (cStr c) i "java/lang/String" "COMPACT_STRINGS" "Z" ∈ TS) ∨ (t = 1 ∧ Cond.fieldLink (cStr c) i "java/lang/Integer" "DigitOnes" "[B" ∈ TS) ∨ (t = 2 ∧ Cond.fieldLink (cStr c) i "java/lang/Integer" "DigitTens" "[B" ∈ TS) ∨ (t = 3 ∧ Cond.fieldLink (cStr c) i "jdk/internal/util/Preconditions" "SIOOBE_FORMATTER" "Ljava/util/function/BiFunction;" ∈ TS) := by
  unfold gsT at h
  split at h
  · cases h; exact Or.inl ⟨rfl, (ts_10 _ (List.mem_of_getElem? (i := 4) rfl))⟩
  · cases h; exact Or.inr (Or.inr (Or.inr ⟨rfl, (ts_13 _ (List.mem_of_getElem? (i := 10) rfl))⟩))
  · cases h; exact Or.inl ⟨rfl, (ts_14 _ (List.mem_of_getElem? (i := 5) rfl))⟩
  · cases h; exact Or.inr (Or.inl ⟨rfl, (ts_20 _ (List.mem_of_getElem? (i := 10) rfl))⟩)
  · cases h; exact Or.inr (Or.inr (Or.inl ⟨rfl, (ts_20 _ (List.mem_of_getElem? (i := 11) rfl))⟩))
  · cases h
def strE : List Nat := [16, 22, 40, 42, 48, 50, 52, 54, 56, 58, 60, 62, 72, 74, 76, 82]
def strX : List String := ["", "bkdhgf", "!", "-", "+-*/%|&<=>", "(", ")*", "+20", "!(", "<", "|", "=3)*3-h", "?", ";", "b/9+k-d*2", "g=1?b-9;h%7=6?4"]
theorem st_ok {c k i : Nat} (h : stT c k = some i) : c = 13 ∧ i < 16 ∧ k = strE.getD i 0 := by
  unfold stT at h
  split at h
  · cases h; exact ⟨rfl, by decide, rfl⟩
  · cases h; exact ⟨rfl, by decide, rfl⟩
  · cases h; exact ⟨rfl, by decide, rfl⟩
  · cases h; exact ⟨rfl, by decide, rfl⟩
  · cases h; exact ⟨rfl, by decide, rfl⟩
  · cases h; exact ⟨rfl, by decide, rfl⟩
  · cases h; exact ⟨rfl, by decide, rfl⟩
  · cases h; exact ⟨rfl, by decide, rfl⟩
  · cases h; exact ⟨rfl, by decide, rfl⟩
  · cases h; exact ⟨rfl, by decide, rfl⟩
  · cases h; exact ⟨rfl, by decide, rfl⟩
  · cases h; exact ⟨rfl, by decide, rfl⟩
  · cases h; exact ⟨rfl, by decide, rfl⟩
  · cases h; exact ⟨rfl, by decide, rfl⟩
  · cases h; exact ⟨rfl, by decide, rfl⟩
  · cases h; exact ⟨rfl, by decide, rfl⟩
  · cases h
theorem cc_ok {c k : Nat} (h : ccT c k = true) : Cond.classLink (cStr c) k "[B" ∈ TS := by
  unfold ccT at h
  split at h
  · exact (ts_12 _ (List.mem_of_getElem? (i := 12) rfl))
  · cases h
theorem cln_ok {c k : Nat} (h : clT c k = true) : Cond.methodLink (cStr c) k ⟨"[B", "clone", "()Ljava/lang/Object;"⟩ ∈ TS := by
  unfold clT at h
  split at h
  · exact (ts_12 _ (List.mem_of_getElem? (i := 7) rfl))
  · cases h
theorem w_cls : Cond.sameMethod "[B" "java/lang/Object" "clone" "()Ljava/lang/Object;" ∈ TS := (ts_12 _ (List.mem_of_getElem? (i := 8) rfl))
theorem w_cln2 : Cond.native ⟨"java/lang/Object", "clone", "()Ljava/lang/Object;"⟩ ∈ TS := (ts_12 _ (List.mem_of_getElem? (i := 9) rfl))
theorem w_cli : Cond.instanceMethod ⟨"java/lang/Object", "clone", "()Ljava/lang/Object;"⟩ ∈ TS := (ts_12 _ (List.mem_of_getElem? (i := 10) rfl))
theorem w_clx : Cond.selects "[B" ⟨"[B", "clone", "()Ljava/lang/Object;"⟩ ⟨"java/lang/Object", "clone", "()Ljava/lang/Object;"⟩ ∈ TS := (ts_12 _ (List.mem_of_getElem? (i := 11) rfl))
theorem nwT_ok {c i k : Nat} (h : nwT c i = some k) : k < 13 ∧ Cond.classLink (cStr c) i (clC k) ∈ TS ∧ Cond.instantiable (clC k) (nSlots k) ∈ TS ∧ Cond.initialized (clC k) ∈ TS := by
  unfold nwT at h
  split at h
  · cases h; exact ⟨by decide, (ts_1 _ (List.mem_of_getElem? (i := 0) rfl)), (ts_1 _ (List.mem_of_getElem? (i := 1) rfl)), (ts_1 _ (List.mem_of_getElem? (i := 2) rfl))⟩
  · cases h; exact ⟨by decide, (ts_1 _ (List.mem_of_getElem? (i := 16) rfl)), (ts_1 _ (List.mem_of_getElem? (i := 17) rfl)), (ts_1 _ (List.mem_of_getElem? (i := 18) rfl))⟩
  · cases h; exact ⟨by decide, (ts_1 _ (List.mem_of_getElem? (i := 22) rfl)), (ts_1 _ (List.mem_of_getElem? (i := 23) rfl)), (ts_2 _ (List.mem_of_getElem? (i := 0) rfl))⟩
  · cases h; exact ⟨by decide, (ts_2 _ (List.mem_of_getElem? (i := 11) rfl)), (ts_2 _ (List.mem_of_getElem? (i := 13) rfl)), (ts_2 _ (List.mem_of_getElem? (i := 14) rfl))⟩
  · cases h; exact ⟨by decide, (ts_9 _ (List.mem_of_getElem? (i := 11) rfl)), (ts_9 _ (List.mem_of_getElem? (i := 12) rfl)), (ts_9 _ (List.mem_of_getElem? (i := 13) rfl))⟩
  · cases h; exact ⟨by decide, (ts_18 _ (List.mem_of_getElem? (i := 0) rfl)), (ts_18 _ (List.mem_of_getElem? (i := 1) rfl)), (ts_13 _ (List.mem_of_getElem? (i := 8) rfl))⟩
  · cases h
theorem nwT_w0 : Cond.instantiable RJ4 4 ∈ TS := (ts_9 _ (List.mem_of_getElem? (i := 12) rfl))
theorem nwT_w1 : Cond.instantiable RJ0 4 ∈ TS := (ts_18 _ (List.mem_of_getElem? (i := 1) rfl))
theorem nwT_w3 : Cond.instantiable RX3 9 ∈ TS := (ts_1 _ (List.mem_of_getElem? (i := 23) rfl))
theorem nwT_w4 : Cond.instantiable RX4 11 ∈ TS := (ts_1 _ (List.mem_of_getElem? (i := 17) rfl))
theorem nwT_w9 : Cond.instantiable RX9 4 ∈ TS := (ts_2 _ (List.mem_of_getElem? (i := 13) rfl))
theorem nwT_w11 : Cond.instantiable RX11 17 ∈ TS := (ts_1 _ (List.mem_of_getElem? (i := 1) rfl))
theorem anT_ok {c i k : Nat} (h : anT c i = some k) : (k = 15 ∧ Cond.classLink (cStr c) i RX8 ∈ TS) ∨ (k = 16 ∧ Cond.classLink (cStr c) i RX9 ∈ TS) := by
  unfold anT at h
  split at h
  · cases h; exact Or.inl ⟨rfl, (ts_2 _ (List.mem_of_getElem? (i := 8) rfl))⟩
  · cases h; exact Or.inr ⟨rfl, (ts_2 _ (List.mem_of_getElem? (i := 11) rfl))⟩
  · cases h
theorem mnT_ok {c i : Nat} (h : mnT c i = true) : Cond.classLink (cStr c) i ("[" ++ (FieldType.array .int).toString) ∈ TS := by
  unfold mnT at h
  split at h
  · exact (ts_2 _ (List.mem_of_getElem? (i := 4) rfl))
  · cases h
theorem ac_int : Cond.arrayClass .int ∈ TS := (ts_1 _ (List.mem_of_getElem? (i := 3) rfl))
theorem ac_long : Cond.arrayClass .long ∈ TS := (ts_3 _ (List.mem_of_getElem? (i := 12) rfl))
theorem ac_byte : Cond.arrayClass .byte ∈ TS := (ts_10 _ (List.mem_of_getElem? (i := 5) rfl))
def biN (t : Nat) : MethodName := match t with
  | 0 => arraycopyName
  | 1 => Lib.Math.max.name
  | 2 => Lib.Math.min.name
  | _ => Lib.Math.abs.name
theorem biS_ok {c i t : Nat} (h : biS c i = some t) : t < 4 ∧ Cond.methodLink (cStr c) i (biN t) ∈ TS := by
  unfold biS at h
  split at h
  · cases h; exact ⟨by decide, (ts_1 _ (List.mem_of_getElem? (i := 6) rfl))⟩
  · cases h; exact ⟨by decide, (ts_5 _ (List.mem_of_getElem? (i := 3) rfl))⟩
  · cases h; exact ⟨by decide, (ts_5 _ (List.mem_of_getElem? (i := 23) rfl))⟩
  · cases h; exact ⟨by decide, (ts_6 _ (List.mem_of_getElem? (i := 4) rfl))⟩
  · cases h; exact ⟨by decide, (ts_6 _ (List.mem_of_getElem? (i := 10) rfl))⟩
  · cases h; exact ⟨by decide, (ts_11 _ (List.mem_of_getElem? (i := 22) rfl))⟩
  · cases h; exact ⟨by decide, (ts_12 _ (List.mem_of_getElem? (i := 13) rfl))⟩
  · cases h; exact ⟨by decide, (ts_12 _ (List.mem_of_getElem? (i := 14) rfl))⟩
  · cases h; exact ⟨by decide, (ts_15 _ (List.mem_of_getElem? (i := 19) rfl))⟩
  · cases h; exact ⟨by decide, (ts_21 _ (List.mem_of_getElem? (i := 19) rfl))⟩
  · cases h; exact ⟨by decide, (ts_22 _ (List.mem_of_getElem? (i := 10) rfl))⟩
  · cases h; exact ⟨by decide, (ts_27 _ (List.mem_of_getElem? (i := 18) rfl))⟩
  · cases h; exact ⟨by decide, (ts_30 _ (List.mem_of_getElem? (i := 19) rfl))⟩
  · cases h; exact ⟨by decide, (ts_35 _ (List.mem_of_getElem? (i := 20) rfl))⟩
  · cases h; exact ⟨by decide, (ts_36 _ (List.mem_of_getElem? (i := 1) rfl))⟩
  · cases h
theorem biI_ok {c i t : Nat} (h : biI c i = some t) : t = 4 ∧ Cond.methodLink (cStr c) i objectInit ∈ TS := by
  unfold biI at h
  split at h
  · cases h; exact ⟨rfl, (ts_1 _ (List.mem_of_getElem? (i := 13) rfl))⟩
  · cases h; exact ⟨rfl, (ts_2 _ (List.mem_of_getElem? (i := 17) rfl))⟩
  · cases h; exact ⟨rfl, (ts_3 _ (List.mem_of_getElem? (i := 4) rfl))⟩
  · cases h; exact ⟨rfl, (ts_3 _ (List.mem_of_getElem? (i := 11) rfl))⟩
  · cases h; exact ⟨rfl, (ts_10 _ (List.mem_of_getElem? (i := 3) rfl))⟩
  · cases h; exact ⟨rfl, (ts_18 _ (List.mem_of_getElem? (i := 8) rfl))⟩
  · cases h
theorem w_acn : Cond.native arraycopyName ∈ TS := (ts_5 _ (List.mem_of_getElem? (i := 4) rfl))
theorem w_acs : Cond.static arraycopyName ∈ TS := (ts_5 _ (List.mem_of_getElem? (i := 5) rfl))
theorem w_sys : Cond.initialized "java/lang/System" ∈ TS := (ts_5 _ (List.mem_of_getElem? (i := 6) rfl))
theorem w_mth : Cond.initialized "java/lang/Math" ∈ TS := (ts_1 _ (List.mem_of_getElem? (i := 8) rfl))
theorem w_smax : Cond.static Lib.Math.max.name ∈ TS := (ts_6 _ (List.mem_of_getElem? (i := 5) rfl))
theorem w_cmax : Cond.code Lib.Math.max.name Lib.Math.max.code 2 (some .int) ∈ TS := (ts_6 _ (List.mem_of_getElem? (i := 6) rfl))
theorem w_smin : Cond.static Lib.Math.min.name ∈ TS := (ts_1 _ (List.mem_of_getElem? (i := 7) rfl))
theorem w_cmin : Cond.code Lib.Math.min.name Lib.Math.min.code 2 (some .int) ∈ TS := (ts_1 _ (List.mem_of_getElem? (i := 9) rfl))
theorem w_sabs : Cond.static Lib.Math.abs.name ∈ TS := (ts_6 _ (List.mem_of_getElem? (i := 11) rfl))
theorem w_cabs : Cond.code Lib.Math.abs.name Lib.Math.abs.code 1 (some .int) ∈ TS := (ts_6 _ (List.mem_of_getElem? (i := 12) rfl))
theorem w_oin : Cond.instanceMethod objectInit ∈ TS := (ts_1 _ (List.mem_of_getElem? (i := 14) rfl))
theorem w_oco : Cond.code objectInit ⟨#[0xb1]⟩ 1 none ∈ TS := (ts_1 _ (List.mem_of_getElem? (i := 15) rfl))
abbrev npM (y n : Nat) : Prop := (parseMethodDescriptor (mY y).desc).map (fun d => d.parameters.length) = some n
def SFe (c : Nat) (e : Nat × Nat × Nat) : Prop := e.2.1 < nMeth ∧ npM e.2.1 e.2.2 ∧ Cond.methodLink (cStr c) e.1 (mY e.2.1) ∈ TS ∧ Cond.static (mY e.2.1) ∈ TS
def gvW : List Cond := [Cond.methodLinkNest RX3 74 yX11_within "FrogBreath", Cond.methodLinkNest RX4 40 yX11_within "FrogBreath", Cond.methodLinkNest RX11 9 yX4_init "FrogBreath", Cond.methodLinkNest RX11 24 yX3_init "FrogBreath", Cond.methodLinkNest RX11 62 yX9_init "FrogBreath", Cond.castable "[B" "java/lang/Cloneable"]
def NFe (c : Nat) (e : Nat × Nat × Nat) : Prop := e.2.1 < nMeth ∧ npM e.2.1 e.2.2 ∧ Cond.methodLinkNest (cStr c) e.1 (mY e.2.1) "FrogBreath" ∈ gvW ∧ Cond.static (mY e.2.1) ∈ TS
def IFe (c : Nat) (e : Nat × Nat × Nat) : Prop := e.2.1 < nMeth ∧ npM e.2.1 e.2.2 ∧ Cond.methodLink (cStr c) e.1 (mY e.2.1) ∈ TS ∧ Cond.instanceMethod (mY e.2.1) ∈ TS ∧ (mY e.2.1).name = "<init>" ∧ mT e.2.1 = none
def JFe (c : Nat) (e : Nat × Nat × Nat) : Prop := e.2.1 < nMeth ∧ npM e.2.1 e.2.2 ∧ Cond.methodLinkNest (cStr c) e.1 (mY e.2.1) "FrogBreath" ∈ gvW ∧ Cond.instanceMethod (mY e.2.1) ∈ TS ∧ (mY e.2.1).name = "<init>" ∧ mT e.2.1 = none
def PFe (c : Nat) (e : Nat × Nat × Nat) : Prop := c = 0 ∧ e.2.1 < nMeth ∧ npM e.2.1 e.2.2 ∧ (mY e.2.1).name ≠ "<init>" ∧ Cond.methodLink (cStr c) e.1 (mY e.2.1) ∈ TS ∧ Cond.sameMethod (mY e.2.1).cls (mY e.2.1).cls (mY e.2.1).name (mY e.2.1).desc ∈ TS ∧ Cond.superclass (cStr c) (mY e.2.1).cls ∈ TS ∧ Cond.instanceMethod (mY e.2.1) ∈ TS
def VFe (c i : Nat) (n : Nat) (e : Nat × Nat) : Prop := e.2 < nMeth ∧ npM e.2 n ∧ e.1 < 13 ∧ Cond.instanceMethod (mY e.2) ∈ TS ∧ ((Cond.methodLink (cStr c) i (mY e.2) ∈ TS ∧ Cond.selects (clC e.1) (mY e.2) (mY e.2) ∈ TS ∧ (mY e.2).cls = clC e.1) ∨
  ∃ (x : MethodName) (owner : String), (parseMethodDescriptor x.desc).map (fun d => d.parameters.length) = some n ∧ owner ≠ "java/lang/invoke/MethodHandle" ∧ owner ≠ "java/lang/invoke/VarHandle" ∧ Cond.methodLink (cStr c) i x ∈ TS ∧ Cond.sameMethod x.cls owner x.name x.desc ∈ TS ∧ Cond.selects (clC e.1) x (mY e.2) ∈ TS ∧ (mY e.2 = ⟨owner, x.name, x.desc⟩ ∨ (Cond.instanceMethod ⟨owner, x.name, x.desc⟩ ∈ TS ∧ ∃ b0 m0 r0, Cond.code ⟨owner, x.name, x.desc⟩ b0 m0 r0 ∈ TS)))
theorem sf_1_54 : SFe 1 (54, 178, 3) := ⟨by decide, by decide +kernel, (ts_19 _ (List.mem_of_getElem? (i := 1) rfl)), (ts_19 _ (List.mem_of_getElem? (i := 2) rfl))⟩
theorem sf_1_495 : SFe 1 (495, 174, 2) := ⟨by decide, by decide +kernel, (ts_16 _ (List.mem_of_getElem? (i := 11) rfl)), (ts_16 _ (List.mem_of_getElem? (i := 12) rfl))⟩
theorem sf_1_1059 : SFe 1 (1059, 181, 3) := ⟨by decide, by decide +kernel, (ts_16 _ (List.mem_of_getElem? (i := 17) rfl)), (ts_16 _ (List.mem_of_getElem? (i := 18) rfl))⟩
theorem sf_1 : ∀ e ∈ ([(54, 178, 3), (495, 174, 2), (1059, 181, 3)] : List (Nat × Nat × Nat)), SFe 1 e := List.forall_mem_cons.mpr ⟨sf_1_54, List.forall_mem_cons.mpr ⟨sf_1_495, List.forall_mem_cons.mpr ⟨sf_1_1059, fun _ h => absurd h List.not_mem_nil⟩⟩⟩
theorem sf_3_61 : SFe 3 (61, 12, 1) := ⟨by decide, by decide +kernel, (ts_23 _ (List.mem_of_getElem? (i := 0) rfl)), (ts_23 _ (List.mem_of_getElem? (i := 1) rfl))⟩
theorem sf_3_71 : SFe 3 (71, 16, 1) := ⟨by decide, by decide +kernel, (ts_23 _ (List.mem_of_getElem? (i := 16) rfl)), (ts_23 _ (List.mem_of_getElem? (i := 17) rfl))⟩
theorem sf_3_89 : SFe 3 (89, 22, 3) := ⟨by decide, by decide +kernel, (ts_7 _ (List.mem_of_getElem? (i := 7) rfl)), (ts_7 _ (List.mem_of_getElem? (i := 8) rfl))⟩
theorem sf_3 : ∀ e ∈ ([(61, 12, 1), (71, 16, 1), (89, 22, 3)] : List (Nat × Nat × Nat)), SFe 3 e := List.forall_mem_cons.mpr ⟨sf_3_61, List.forall_mem_cons.mpr ⟨sf_3_71, List.forall_mem_cons.mpr ⟨sf_3_89, fun _ h => absurd h List.not_mem_nil⟩⟩⟩
theorem sf_4_77 : SFe 4 (77, 33, 2) := ⟨by decide, by decide +kernel, (ts_6 _ (List.mem_of_getElem? (i := 7) rfl)), (ts_6 _ (List.mem_of_getElem? (i := 8) rfl))⟩
theorem sf_4_105 : SFe 4 (105, 42, 2) := ⟨by decide, by decide +kernel, (ts_7 _ (List.mem_of_getElem? (i := 10) rfl)), (ts_7 _ (List.mem_of_getElem? (i := 11) rfl))⟩
theorem sf_4_108 : SFe 4 (108, 246, 2) := ⟨by decide, by decide +kernel, (ts_7 _ (List.mem_of_getElem? (i := 13) rfl)), (ts_7 _ (List.mem_of_getElem? (i := 14) rfl))⟩
theorem sf_4 : ∀ e ∈ ([(77, 33, 2), (105, 42, 2), (108, 246, 2)] : List (Nat × Nat × Nat)), SFe 4 e := List.forall_mem_cons.mpr ⟨sf_4_77, List.forall_mem_cons.mpr ⟨sf_4_105, List.forall_mem_cons.mpr ⟨sf_4_108, fun _ h => absurd h List.not_mem_nil⟩⟩⟩
theorem sf_9_26 : SFe 9 (26, 248, 2) := ⟨by decide, by decide +kernel, (ts_24 _ (List.mem_of_getElem? (i := 12) rfl)), (ts_24 _ (List.mem_of_getElem? (i := 13) rfl))⟩
theorem sf_9 : ∀ e ∈ ([(26, 248, 2)] : List (Nat × Nat × Nat)), SFe 9 e := List.forall_mem_cons.mpr ⟨sf_9_26, fun _ h => absurd h List.not_mem_nil⟩
theorem sf_11_75 : SFe 11 (75, 142, 1) := ⟨by decide, by decide +kernel, (ts_24 _ (List.mem_of_getElem? (i := 3) rfl)), (ts_24 _ (List.mem_of_getElem? (i := 4) rfl))⟩
theorem sf_11_79 : SFe 11 (79, 141, 3) := ⟨by decide, by decide +kernel, (ts_8 _ (List.mem_of_getElem? (i := 9) rfl)), (ts_4 _ (List.mem_of_getElem? (i := 10) rfl))⟩
theorem sf_11_202 : SFe 11 (202, 249, 2) := ⟨by decide, by decide +kernel, (ts_27 _ (List.mem_of_getElem? (i := 19) rfl)), (ts_27 _ (List.mem_of_getElem? (i := 20) rfl))⟩
theorem sf_11_229 : SFe 11 (229, 247, 1) := ⟨by decide, by decide +kernel, (ts_33 _ (List.mem_of_getElem? (i := 3) rfl)), (ts_33 _ (List.mem_of_getElem? (i := 4) rfl))⟩
theorem sf_11_243 : SFe 11 (243, 33, 2) := ⟨by decide, by decide +kernel, (ts_33 _ (List.mem_of_getElem? (i := 21) rfl)), (ts_6 _ (List.mem_of_getElem? (i := 8) rfl))⟩
theorem sf_11_246 : SFe 11 (246, 105, 1) := ⟨by decide, by decide +kernel, (ts_30 _ (List.mem_of_getElem? (i := 7) rfl)), (ts_30 _ (List.mem_of_getElem? (i := 8) rfl))⟩
theorem sf_11_277 : SFe 11 (277, 114, 1) := ⟨by decide, by decide +kernel, (ts_31 _ (List.mem_of_getElem? (i := 20) rfl)), (ts_31 _ (List.mem_of_getElem? (i := 21) rfl))⟩
theorem sf_11 : ∀ e ∈ ([(75, 142, 1), (79, 141, 3), (202, 249, 2), (229, 247, 1), (243, 33, 2), (246, 105, 1), (277, 114, 1)] : List (Nat × Nat × Nat)), SFe 11 e := List.forall_mem_cons.mpr ⟨sf_11_75, List.forall_mem_cons.mpr ⟨sf_11_79, List.forall_mem_cons.mpr ⟨sf_11_202, List.forall_mem_cons.mpr ⟨sf_11_229, List.forall_mem_cons.mpr ⟨sf_11_243, List.forall_mem_cons.mpr ⟨sf_11_246, List.forall_mem_cons.mpr ⟨sf_11_277, fun _ h => absurd h List.not_mem_nil⟩⟩⟩⟩⟩⟩⟩
theorem sf_13_7 : SFe 13 (7, 183, 2) := ⟨by decide, by decide +kernel, (ts_9 _ (List.mem_of_getElem? (i := 17) rfl)), (ts_9 _ (List.mem_of_getElem? (i := 18) rfl))⟩
theorem sf_13_44 : SFe 13 (44, 184, 1) := ⟨by decide, by decide +kernel, (ts_16 _ (List.mem_of_getElem? (i := 0) rfl)), (ts_16 _ (List.mem_of_getElem? (i := 1) rfl))⟩
theorem sf_13_64 : SFe 13 (64, 182, 2) := ⟨by decide, by decide +kernel, (ts_9 _ (List.mem_of_getElem? (i := 14) rfl)), (ts_9 _ (List.mem_of_getElem? (i := 15) rfl))⟩
theorem sf_13_68 : SFe 13 (68, 185, 2) := ⟨by decide, by decide +kernel, (ts_15 _ (List.mem_of_getElem? (i := 21) rfl)), (ts_15 _ (List.mem_of_getElem? (i := 22) rfl))⟩
theorem sf_13_174 : SFe 13 (174, 186, 2) := ⟨by decide, by decide +kernel, (ts_9 _ (List.mem_of_getElem? (i := 7) rfl)), (ts_9 _ (List.mem_of_getElem? (i := 8) rfl))⟩
theorem sf_13_178 : SFe 13 (178, 187, 4) := ⟨by decide, by decide +kernel, (ts_20 _ (List.mem_of_getElem? (i := 21) rfl)), (ts_20 _ (List.mem_of_getElem? (i := 22) rfl))⟩
theorem sf_13_191 : SFe 13 (191, 188, 3) := ⟨by decide, by decide +kernel, (ts_25 _ (List.mem_of_getElem? (i := 15) rfl)), (ts_25 _ (List.mem_of_getElem? (i := 16) rfl))⟩
theorem sf_13_213 : SFe 13 (213, 189, 5) := ⟨by decide, by decide +kernel, (ts_35 _ (List.mem_of_getElem? (i := 17) rfl)), (ts_35 _ (List.mem_of_getElem? (i := 18) rfl))⟩
theorem sf_13_217 : SFe 13 (217, 247, 1) := ⟨by decide, by decide +kernel, (ts_35 _ (List.mem_of_getElem? (i := 21) rfl)), (ts_33 _ (List.mem_of_getElem? (i := 4) rfl))⟩
theorem sf_13_222 : SFe 13 (222, 190, 2) := ⟨by decide, by decide +kernel, (ts_35 _ (List.mem_of_getElem? (i := 22) rfl)), (ts_35 _ (List.mem_of_getElem? (i := 23) rfl))⟩
theorem sf_13 : ∀ e ∈ ([(7, 183, 2), (44, 184, 1), (64, 182, 2), (68, 185, 2), (174, 186, 2), (178, 187, 4), (191, 188, 3), (213, 189, 5), (217, 247, 1), (222, 190, 2)] : List (Nat × Nat × Nat)), SFe 13 e := List.forall_mem_cons.mpr ⟨sf_13_7, List.forall_mem_cons.mpr ⟨sf_13_44, List.forall_mem_cons.mpr ⟨sf_13_64, List.forall_mem_cons.mpr ⟨sf_13_68, List.forall_mem_cons.mpr ⟨sf_13_174, List.forall_mem_cons.mpr ⟨sf_13_178, List.forall_mem_cons.mpr ⟨sf_13_191, List.forall_mem_cons.mpr ⟨sf_13_213, List.forall_mem_cons.mpr ⟨sf_13_217, List.forall_mem_cons.mpr ⟨sf_13_222, fun _ h => absurd h List.not_mem_nil⟩⟩⟩⟩⟩⟩⟩⟩⟩⟩
theorem sf_14_108 : SFe 14 (108, 176, 2) := ⟨by decide, by decide +kernel, (ts_12 _ (List.mem_of_getElem? (i := 3) rfl)), (ts_12 _ (List.mem_of_getElem? (i := 4) rfl))⟩
theorem sf_14_114 : SFe 14 (114, 180, 3) := ⟨by decide, by decide +kernel, (ts_11 _ (List.mem_of_getElem? (i := 18) rfl)), (ts_11 _ (List.mem_of_getElem? (i := 19) rfl))⟩
theorem sf_14_191 : SFe 14 (191, 175, 1) := ⟨by decide, by decide +kernel, (ts_17 _ (List.mem_of_getElem? (i := 14) rfl)), (ts_17 _ (List.mem_of_getElem? (i := 15) rfl))⟩
theorem sf_14_245 : SFe 14 (245, 159, 1) := ⟨by decide, by decide +kernel, (ts_20 _ (List.mem_of_getElem? (i := 4) rfl)), (ts_20 _ (List.mem_of_getElem? (i := 5) rfl))⟩
theorem sf_14_248 : SFe 14 (248, 158, 3) := ⟨by decide, by decide +kernel, (ts_20 _ (List.mem_of_getElem? (i := 7) rfl)), (ts_20 _ (List.mem_of_getElem? (i := 8) rfl))⟩
theorem sf_14 : ∀ e ∈ ([(108, 176, 2), (114, 180, 3), (191, 175, 1), (245, 159, 1), (248, 158, 3)] : List (Nat × Nat × Nat)), SFe 14 e := List.forall_mem_cons.mpr ⟨sf_14_108, List.forall_mem_cons.mpr ⟨sf_14_114, List.forall_mem_cons.mpr ⟨sf_14_191, List.forall_mem_cons.mpr ⟨sf_14_245, List.forall_mem_cons.mpr ⟨sf_14_248, fun _ h => absurd h List.not_mem_nil⟩⟩⟩⟩⟩
theorem sf_15_9 : SFe 15 (9, 167, 2) := ⟨by decide, by decide +kernel, (ts_16 _ (List.mem_of_getElem? (i := 14) rfl)), (ts_16 _ (List.mem_of_getElem? (i := 15) rfl))⟩
theorem sf_15 : ∀ e ∈ ([(9, 167, 2)] : List (Nat × Nat × Nat)), SFe 15 e := List.forall_mem_cons.mpr ⟨sf_15_9, fun _ h => absurd h List.not_mem_nil⟩
theorem sf_17_339 : SFe 17 (339, 179, 3) := ⟨by decide, by decide +kernel, (ts_19 _ (List.mem_of_getElem? (i := 4) rfl)), (ts_19 _ (List.mem_of_getElem? (i := 5) rfl))⟩
theorem sf_17_343 : SFe 17 (343, 177, 2) := ⟨by decide, by decide +kernel, (ts_19 _ (List.mem_of_getElem? (i := 7) rfl)), (ts_19 _ (List.mem_of_getElem? (i := 8) rfl))⟩
theorem sf_17 : ∀ e ∈ ([(339, 179, 3), (343, 177, 2)] : List (Nat × Nat × Nat)), SFe 17 e := List.forall_mem_cons.mpr ⟨sf_17_339, List.forall_mem_cons.mpr ⟨sf_17_343, fun _ h => absurd h List.not_mem_nil⟩⟩
theorem sf_ok {c i y n : Nat} (h : sT c i = some (y, n)) : SFe c (i, y, n) := by
  unfold sT at h
  split at h
  · exact sf_1 _ (lookup_mem h)
  · exact sf_3 _ (lookup_mem h)
  · exact sf_4 _ (lookup_mem h)
  · exact sf_9 _ (lookup_mem h)
  · exact sf_11 _ (lookup_mem h)
  · exact sf_13 _ (lookup_mem h)
  · exact sf_14 _ (lookup_mem h)
  · exact sf_15 _ (lookup_mem h)
  · exact sf_17 _ (lookup_mem h)
  · cases h
theorem nf_3_74 : NFe 3 (74, 141, 3) := ⟨by decide, by decide +kernel, List.mem_of_getElem? (i := 0) rfl, (ts_4 _ (List.mem_of_getElem? (i := 10) rfl))⟩
theorem nf_3 : ∀ e ∈ ([(74, 141, 3)] : List (Nat × Nat × Nat)), NFe 3 e := List.forall_mem_cons.mpr ⟨nf_3_74, fun _ h => absurd h List.not_mem_nil⟩
theorem nf_4_40 : NFe 4 (40, 141, 3) := ⟨by decide, by decide +kernel, List.mem_of_getElem? (i := 1) rfl, (ts_4 _ (List.mem_of_getElem? (i := 10) rfl))⟩
theorem nf_4 : ∀ e ∈ ([(40, 141, 3)] : List (Nat × Nat × Nat)), NFe 4 e := List.forall_mem_cons.mpr ⟨nf_4_40, fun _ h => absurd h List.not_mem_nil⟩
theorem nf_ok {c i y n : Nat} (h : nT c i = some (y, n)) : NFe c (i, y, n) := by
  unfold nT at h
  split at h
  · exact nf_3 _ (lookup_mem h)
  · exact nf_4 _ (lookup_mem h)
  · cases h
theorem if__0_1 : IFe 0 (1, 147, 1) := ⟨by decide, by decide +kernel, (ts_9 _ (List.mem_of_getElem? (i := 23) rfl)), (ts_10 _ (List.mem_of_getElem? (i := 0) rfl)), by decide +kernel, by decide +kernel⟩
theorem if__0_137 : IFe 0 (137, 160, 1) := ⟨by decide, by decide +kernel, (ts_18 _ (List.mem_of_getElem? (i := 2) rfl)), (ts_18 _ (List.mem_of_getElem? (i := 3) rfl)), by decide +kernel, by decide +kernel⟩
theorem if__0 : ∀ e ∈ ([(1, 147, 1), (137, 160, 1)] : List (Nat × Nat × Nat)), IFe 0 e := List.forall_mem_cons.mpr ⟨if__0_1, List.forall_mem_cons.mpr ⟨if__0_137, fun _ h => absurd h List.not_mem_nil⟩⟩
theorem if__1_489 : IFe 1 (489, 164, 2) := ⟨by decide, by decide +kernel, (ts_18 _ (List.mem_of_getElem? (i := 5) rfl)), (ts_18 _ (List.mem_of_getElem? (i := 6) rfl)), by decide +kernel, by decide +kernel⟩
theorem if__1 : ∀ e ∈ ([(489, 164, 2)] : List (Nat × Nat × Nat)), IFe 1 e := List.forall_mem_cons.mpr ⟨if__1_489, fun _ h => absurd h List.not_mem_nil⟩
theorem if__13_15 : IFe 13 (15, 168, 0) := ⟨by decide, by decide +kernel, (ts_9 _ (List.mem_of_getElem? (i := 20) rfl)), (ts_9 _ (List.mem_of_getElem? (i := 21) rfl)), by decide +kernel, by decide +kernel⟩
theorem if__13_161 : IFe 13 (161, 70, 0) := ⟨by decide, by decide +kernel, (ts_1 _ (List.mem_of_getElem? (i := 10) rfl)), (ts_1 _ (List.mem_of_getElem? (i := 11) rfl)), by decide +kernel, by decide +kernel⟩
theorem if__13 : ∀ e ∈ ([(15, 168, 0), (161, 70, 0)] : List (Nat × Nat × Nat)), IFe 13 e := List.forall_mem_cons.mpr ⟨if__13_15, List.forall_mem_cons.mpr ⟨if__13_161, fun _ h => absurd h List.not_mem_nil⟩⟩
theorem if__ok {c i y n : Nat} (h : iT c i = some (y, n)) : IFe c (i, y, n) := by
  unfold iT at h
  split at h
  · exact if__0 _ (lookup_mem h)
  · exact if__1 _ (lookup_mem h)
  · exact if__13 _ (lookup_mem h)
  · cases h
theorem jf_11_9 : JFe 11 (9, 23, 0) := ⟨by decide, by decide +kernel, List.mem_of_getElem? (i := 2) rfl, (ts_2 _ (List.mem_of_getElem? (i := 15) rfl)), by decide +kernel, by decide +kernel⟩
theorem jf_11_24 : JFe 11 (24, 7, 0) := ⟨by decide, by decide +kernel, List.mem_of_getElem? (i := 3) rfl, (ts_3 _ (List.mem_of_getElem? (i := 2) rfl)), by decide +kernel, by decide +kernel⟩
theorem jf_11_62 : JFe 11 (62, 58, 0) := ⟨by decide, by decide +kernel, List.mem_of_getElem? (i := 4) rfl, (ts_3 _ (List.mem_of_getElem? (i := 9) rfl)), by decide +kernel, by decide +kernel⟩
theorem jf_11 : ∀ e ∈ ([(9, 23, 0), (24, 7, 0), (62, 58, 0)] : List (Nat × Nat × Nat)), JFe 11 e := List.forall_mem_cons.mpr ⟨jf_11_9, List.forall_mem_cons.mpr ⟨jf_11_24, List.forall_mem_cons.mpr ⟨jf_11_62, fun _ h => absurd h List.not_mem_nil⟩⟩⟩
theorem jf_ok {c i y n : Nat} (h : jT c i = some (y, n)) : JFe c (i, y, n) := by
  unfold jT at h
  split at h
  · exact jf_11 _ (lookup_mem h)
  · cases h
theorem pf_0_29 : PFe 0 (29, 151, 1) := ⟨rfl, by decide, by decide +kernel, by decide +kernel, (ts_10 _ (List.mem_of_getElem? (i := 20) rfl)), (ts_10 _ (List.mem_of_getElem? (i := 21) rfl)), (ts_10 _ (List.mem_of_getElem? (i := 22) rfl)), (ts_10 _ (List.mem_of_getElem? (i := 23) rfl))⟩
theorem pf_0_50 : PFe 0 (50, 152, 1) := ⟨rfl, by decide, by decide +kernel, by decide +kernel, (ts_17 _ (List.mem_of_getElem? (i := 10) rfl)), (ts_17 _ (List.mem_of_getElem? (i := 11) rfl)), (ts_10 _ (List.mem_of_getElem? (i := 22) rfl)), (ts_17 _ (List.mem_of_getElem? (i := 12) rfl))⟩
theorem pf_0_53 : PFe 0 (53, 153, 1) := ⟨rfl, by decide, by decide +kernel, by decide +kernel, (ts_20 _ (List.mem_of_getElem? (i := 0) rfl)), (ts_20 _ (List.mem_of_getElem? (i := 1) rfl)), (ts_10 _ (List.mem_of_getElem? (i := 22) rfl)), (ts_20 _ (List.mem_of_getElem? (i := 2) rfl))⟩
theorem pf_0_343 : PFe 0 (343, 148, 0) := ⟨rfl, by decide, by decide +kernel, by decide +kernel, (ts_18 _ (List.mem_of_getElem? (i := 21) rfl)), (ts_18 _ (List.mem_of_getElem? (i := 16) rfl)), (ts_10 _ (List.mem_of_getElem? (i := 22) rfl)), (ts_18 _ (List.mem_of_getElem? (i := 22) rfl))⟩
theorem pf_0 : ∀ e ∈ ([(29, 151, 1), (50, 152, 1), (53, 153, 1), (343, 148, 0)] : List (Nat × Nat × Nat)), PFe 0 e := List.forall_mem_cons.mpr ⟨pf_0_29, List.forall_mem_cons.mpr ⟨pf_0_50, List.forall_mem_cons.mpr ⟨pf_0_53, List.forall_mem_cons.mpr ⟨pf_0_343, fun _ h => absurd h List.not_mem_nil⟩⟩⟩⟩
theorem pf_ok {c i y n : Nat} (h : pT c i = some (y, n)) : PFe c (i, y, n) := by
  unfold pT at h
  split at h
  · exact pf_0 _ (lookup_mem h)
  · cases h
theorem vf_1_335_1 : VFe 1 335 0 (1, 165) := ⟨by decide, by decide +kernel, by decide, (ts_14 _ (List.mem_of_getElem? (i := 2) rfl)), Or.inl ⟨(ts_14 _ (List.mem_of_getElem? (i := 1) rfl)), (ts_14 _ (List.mem_of_getElem? (i := 3) rfl)), by decide +kernel⟩⟩
theorem vf_1_335 : ∀ e ∈ ([(1, 165)] : List (Nat × Nat)), VFe 1 335 0 e := List.forall_mem_cons.mpr ⟨vf_1_335_1, fun _ h => absurd h List.not_mem_nil⟩
theorem vf_1_492_1 : VFe 1 492 0 (1, 166) := ⟨by decide, by decide +kernel, by decide, (ts_16 _ (List.mem_of_getElem? (i := 8) rfl)), Or.inl ⟨(ts_16 _ (List.mem_of_getElem? (i := 7) rfl)), (ts_16 _ (List.mem_of_getElem? (i := 9) rfl)), by decide +kernel⟩⟩
theorem vf_1_492 : ∀ e ∈ ([(1, 166)] : List (Nat × Nat)), VFe 1 492 0 e := List.forall_mem_cons.mpr ⟨vf_1_492_1, fun _ h => absurd h List.not_mem_nil⟩
theorem vf_1_549_0 : VFe 1 549 0 (0, 173) := ⟨by decide, by decide +kernel, by decide, (ts_18 _ (List.mem_of_getElem? (i := 19) rfl)), Or.inr ⟨⟨"java/lang/AbstractStringBuilder", "length", "()I"⟩, "java/lang/AbstractStringBuilder", by decide +kernel, by decide +kernel, by decide +kernel, (ts_18 _ (List.mem_of_getElem? (i := 15) rfl)), (ts_18 _ (List.mem_of_getElem? (i := 16) rfl)), (ts_18 _ (List.mem_of_getElem? (i := 18) rfl)), Or.inr ⟨(ts_18 _ (List.mem_of_getElem? (i := 17) rfl)), _, _, _, (ts_18 _ (List.mem_of_getElem? (i := 23) rfl))⟩⟩⟩
theorem vf_1_549 : ∀ e ∈ ([(0, 173)] : List (Nat × Nat)), VFe 1 549 0 e := List.forall_mem_cons.mpr ⟨vf_1_549_0, fun _ h => absurd h List.not_mem_nil⟩
theorem vf_1_552_0 : VFe 1 552 0 (0, 154) := ⟨by decide, by decide +kernel, by decide, (ts_18 _ (List.mem_of_getElem? (i := 13) rfl)), Or.inr ⟨⟨"java/lang/AbstractStringBuilder", "getValue", "()[B"⟩, "java/lang/AbstractStringBuilder", by decide +kernel, by decide +kernel, by decide +kernel, (ts_18 _ (List.mem_of_getElem? (i := 10) rfl)), (ts_18 _ (List.mem_of_getElem? (i := 11) rfl)), (ts_18 _ (List.mem_of_getElem? (i := 12) rfl)), Or.inl (by decide +kernel)⟩⟩
theorem vf_1_552 : ∀ e ∈ ([(0, 154)] : List (Nat × Nat)), VFe 1 552 0 e := List.forall_mem_cons.mpr ⟨vf_1_552_0, fun _ h => absurd h List.not_mem_nil⟩
theorem vf_1_1047_0 : VFe 1 1047 0 (0, 155) := ⟨by decide, by decide +kernel, by decide, (ts_12 _ (List.mem_of_getElem? (i := 18) rfl)), Or.inr ⟨⟨"java/lang/AbstractStringBuilder", "isLatin1", "()Z"⟩, "java/lang/AbstractStringBuilder", by decide +kernel, by decide +kernel, by decide +kernel, (ts_19 _ (List.mem_of_getElem? (i := 0) rfl)), (ts_12 _ (List.mem_of_getElem? (i := 16) rfl)), (ts_12 _ (List.mem_of_getElem? (i := 17) rfl)), Or.inl (by decide +kernel)⟩⟩
theorem vf_1_1047 : ∀ e ∈ ([(0, 155)] : List (Nat × Nat)), VFe 1 1047 0 e := List.forall_mem_cons.mpr ⟨vf_1_1047_0, fun _ h => absurd h List.not_mem_nil⟩
theorem vf_3_43_3 : VFe 3 43 0 (3, 10) := ⟨by decide, by decide +kernel, by decide, (ts_22 _ (List.mem_of_getElem? (i := 14) rfl)), Or.inl ⟨(ts_22 _ (List.mem_of_getElem? (i := 13) rfl)), (ts_22 _ (List.mem_of_getElem? (i := 15) rfl)), by decide +kernel⟩⟩
theorem vf_3_43 : ∀ e ∈ ([(3, 10)] : List (Nat × Nat)), VFe 3 43 0 e := List.forall_mem_cons.mpr ⟨vf_3_43_3, fun _ h => absurd h List.not_mem_nil⟩
theorem vf_3_47_3 : VFe 3 47 1 (3, 17) := ⟨by decide, by decide +kernel, by decide, (ts_23 _ (List.mem_of_getElem? (i := 20) rfl)), Or.inl ⟨(ts_23 _ (List.mem_of_getElem? (i := 19) rfl)), (ts_23 _ (List.mem_of_getElem? (i := 21) rfl)), by decide +kernel⟩⟩
theorem vf_3_47 : ∀ e ∈ ([(3, 17)] : List (Nat × Nat)), VFe 3 47 1 e := List.forall_mem_cons.mpr ⟨vf_3_47_3, fun _ h => absurd h List.not_mem_nil⟩
theorem vf_3_51_3 : VFe 3 51 2 (3, 11) := ⟨by decide, by decide +kernel, by decide, (ts_22 _ (List.mem_of_getElem? (i := 18) rfl)), Or.inl ⟨(ts_22 _ (List.mem_of_getElem? (i := 17) rfl)), (ts_22 _ (List.mem_of_getElem? (i := 19) rfl)), by decide +kernel⟩⟩
theorem vf_3_51 : ∀ e ∈ ([(3, 11)] : List (Nat × Nat)), VFe 3 51 2 e := List.forall_mem_cons.mpr ⟨vf_3_51_3, fun _ h => absurd h List.not_mem_nil⟩
theorem vf_3_55_3 : VFe 3 55 2 (3, 18) := ⟨by decide, by decide +kernel, by decide, (ts_23 _ (List.mem_of_getElem? (i := 4) rfl)), Or.inl ⟨(ts_23 _ (List.mem_of_getElem? (i := 3) rfl)), (ts_23 _ (List.mem_of_getElem? (i := 5) rfl)), by decide +kernel⟩⟩
theorem vf_3_55 : ∀ e ∈ ([(3, 18)] : List (Nat × Nat)), VFe 3 55 2 e := List.forall_mem_cons.mpr ⟨vf_3_55_3, fun _ h => absurd h List.not_mem_nil⟩
theorem vf_3_58_3 : VFe 3 58 1 (3, 13) := ⟨by decide, by decide +kernel, by decide, (ts_22 _ (List.mem_of_getElem? (i := 22) rfl)), Or.inl ⟨(ts_22 _ (List.mem_of_getElem? (i := 21) rfl)), (ts_22 _ (List.mem_of_getElem? (i := 23) rfl)), by decide +kernel⟩⟩
theorem vf_3_58 : ∀ e ∈ ([(3, 13)] : List (Nat × Nat)), VFe 3 58 1 e := List.forall_mem_cons.mpr ⟨vf_3_58_3, fun _ h => absurd h List.not_mem_nil⟩
theorem vf_3_65_3 : VFe 3 65 0 (3, 15) := ⟨by decide, by decide +kernel, by decide, (ts_23 _ (List.mem_of_getElem? (i := 9) rfl)), Or.inl ⟨(ts_23 _ (List.mem_of_getElem? (i := 8) rfl)), (ts_23 _ (List.mem_of_getElem? (i := 10) rfl)), by decide +kernel⟩⟩
theorem vf_3_65 : ∀ e ∈ ([(3, 15)] : List (Nat × Nat)), VFe 3 65 0 e := List.forall_mem_cons.mpr ⟨vf_3_65_3, fun _ h => absurd h List.not_mem_nil⟩
theorem vf_3_68_3 : VFe 3 68 0 (3, 14) := ⟨by decide, by decide +kernel, by decide, (ts_23 _ (List.mem_of_getElem? (i := 13) rfl)), Or.inl ⟨(ts_23 _ (List.mem_of_getElem? (i := 12) rfl)), (ts_23 _ (List.mem_of_getElem? (i := 14) rfl)), by decide +kernel⟩⟩
theorem vf_3_68 : ∀ e ∈ ([(3, 14)] : List (Nat × Nat)), VFe 3 68 0 e := List.forall_mem_cons.mpr ⟨vf_3_68_3, fun _ h => absurd h List.not_mem_nil⟩
theorem vf_3_81_3 : VFe 3 81 1 (3, 20) := ⟨by decide, by decide +kernel, by decide, (ts_7 _ (List.mem_of_getElem? (i := 0) rfl)), Or.inl ⟨(ts_6 _ (List.mem_of_getElem? (i := 23) rfl)), (ts_7 _ (List.mem_of_getElem? (i := 1) rfl)), by decide +kernel⟩⟩
theorem vf_3_81 : ∀ e ∈ ([(3, 20)] : List (Nat × Nat)), VFe 3 81 1 e := List.forall_mem_cons.mpr ⟨vf_3_81_3, fun _ h => absurd h List.not_mem_nil⟩
theorem vf_3_85_3 : VFe 3 85 0 (3, 21) := ⟨by decide, by decide +kernel, by decide, (ts_7 _ (List.mem_of_getElem? (i := 4) rfl)), Or.inl ⟨(ts_7 _ (List.mem_of_getElem? (i := 3) rfl)), (ts_7 _ (List.mem_of_getElem? (i := 5) rfl)), by decide +kernel⟩⟩
theorem vf_3_85 : ∀ e ∈ ([(3, 21)] : List (Nat × Nat)), VFe 3 85 0 e := List.forall_mem_cons.mpr ⟨vf_3_85_3, fun _ h => absurd h List.not_mem_nil⟩
theorem vf_4_47_4 : VFe 4 47 1 (4, 24) := ⟨by decide, by decide +kernel, by decide, (ts_4 _ (List.mem_of_getElem? (i := 6) rfl)), Or.inl ⟨(ts_4 _ (List.mem_of_getElem? (i := 5) rfl)), (ts_4 _ (List.mem_of_getElem? (i := 7) rfl)), by decide +kernel⟩⟩
theorem vf_4_47 : ∀ e ∈ ([(4, 24)] : List (Nat × Nat)), VFe 4 47 1 e := List.forall_mem_cons.mpr ⟨vf_4_47_4, fun _ h => absurd h List.not_mem_nil⟩
theorem vf_4_51_4 : VFe 4 51 1 (4, 25) := ⟨by decide, by decide +kernel, by decide, (ts_4 _ (List.mem_of_getElem? (i := 13) rfl)), Or.inl ⟨(ts_4 _ (List.mem_of_getElem? (i := 12) rfl)), (ts_4 _ (List.mem_of_getElem? (i := 14) rfl)), by decide +kernel⟩⟩
theorem vf_4_51 : ∀ e ∈ ([(4, 25)] : List (Nat × Nat)), VFe 4 51 1 e := List.forall_mem_cons.mpr ⟨vf_4_51_4, fun _ h => absurd h List.not_mem_nil⟩
theorem vf_4_57_4 : VFe 4 57 2 (4, 28) := ⟨by decide, by decide +kernel, by decide, (ts_4 _ (List.mem_of_getElem? (i := 2) rfl)), Or.inl ⟨(ts_4 _ (List.mem_of_getElem? (i := 1) rfl)), (ts_4 _ (List.mem_of_getElem? (i := 3) rfl)), by decide +kernel⟩⟩
theorem vf_4_57 : ∀ e ∈ ([(4, 28)] : List (Nat × Nat)), VFe 4 57 2 e := List.forall_mem_cons.mpr ⟨vf_4_57_4, fun _ h => absurd h List.not_mem_nil⟩
theorem vf_4_67_4 : VFe 4 67 1 (4, 32) := ⟨by decide, by decide +kernel, by decide, (ts_5 _ (List.mem_of_getElem? (i := 8) rfl)), Or.inl ⟨(ts_5 _ (List.mem_of_getElem? (i := 7) rfl)), (ts_5 _ (List.mem_of_getElem? (i := 9) rfl)), by decide +kernel⟩⟩
theorem vf_4_67 : ∀ e ∈ ([(4, 32)] : List (Nat × Nat)), VFe 4 67 1 e := List.forall_mem_cons.mpr ⟨vf_4_67_4, fun _ h => absurd h List.not_mem_nil⟩
theorem vf_4_81_4 : VFe 4 81 1 (4, 38) := ⟨by decide, by decide +kernel, by decide, (ts_7 _ (List.mem_of_getElem? (i := 18) rfl)), Or.inl ⟨(ts_7 _ (List.mem_of_getElem? (i := 17) rfl)), (ts_7 _ (List.mem_of_getElem? (i := 19) rfl)), by decide +kernel⟩⟩
theorem vf_4_81 : ∀ e ∈ ([(4, 38)] : List (Nat × Nat)), VFe 4 81 1 e := List.forall_mem_cons.mpr ⟨vf_4_81_4, fun _ h => absurd h List.not_mem_nil⟩
theorem vf_4_85_3 : VFe 4 85 0 (3, 8) := ⟨by decide, by decide +kernel, by decide, (ts_6 _ (List.mem_of_getElem? (i := 14) rfl)), Or.inl ⟨(ts_6 _ (List.mem_of_getElem? (i := 13) rfl)), (ts_6 _ (List.mem_of_getElem? (i := 15) rfl)), by decide +kernel⟩⟩
theorem vf_4_85 : ∀ e ∈ ([(3, 8)] : List (Nat × Nat)), VFe 4 85 0 e := List.forall_mem_cons.mpr ⟨vf_4_85_3, fun _ h => absurd h List.not_mem_nil⟩
theorem vf_4_91_3 : VFe 4 91 6 (3, 19) := ⟨by decide, by decide +kernel, by decide, (ts_6 _ (List.mem_of_getElem? (i := 19) rfl)), Or.inl ⟨(ts_6 _ (List.mem_of_getElem? (i := 18) rfl)), (ts_6 _ (List.mem_of_getElem? (i := 20) rfl)), by decide +kernel⟩⟩
theorem vf_4_91 : ∀ e ∈ ([(3, 19)] : List (Nat × Nat)), VFe 4 91 6 e := List.forall_mem_cons.mpr ⟨vf_4_91_3, fun _ h => absurd h List.not_mem_nil⟩
theorem vf_4_101_4 : VFe 4 101 2 (4, 40) := ⟨by decide, by decide +kernel, by decide, (ts_6 _ (List.mem_of_getElem? (i := 1) rfl)), Or.inl ⟨(ts_6 _ (List.mem_of_getElem? (i := 0) rfl)), (ts_6 _ (List.mem_of_getElem? (i := 2) rfl)), by decide +kernel⟩⟩
theorem vf_4_101 : ∀ e ∈ ([(4, 40)] : List (Nat × Nat)), VFe 4 101 2 e := List.forall_mem_cons.mpr ⟨vf_4_101_4, fun _ h => absurd h List.not_mem_nil⟩
theorem vf_4_113_4 : VFe 4 113 2 (4, 41) := ⟨by decide, by decide +kernel, by decide, (ts_5 _ (List.mem_of_getElem? (i := 20) rfl)), Or.inl ⟨(ts_5 _ (List.mem_of_getElem? (i := 19) rfl)), (ts_5 _ (List.mem_of_getElem? (i := 21) rfl)), by decide +kernel⟩⟩
theorem vf_4_113 : ∀ e ∈ ([(4, 41)] : List (Nat × Nat)), VFe 4 113 2 e := List.forall_mem_cons.mpr ⟨vf_4_113_4, fun _ h => absurd h List.not_mem_nil⟩
theorem vf_4_116_4 : VFe 4 116 0 (4, 43) := ⟨by decide, by decide +kernel, by decide, (ts_7 _ (List.mem_of_getElem? (i := 22) rfl)), Or.inl ⟨(ts_7 _ (List.mem_of_getElem? (i := 21) rfl)), (ts_7 _ (List.mem_of_getElem? (i := 23) rfl)), by decide +kernel⟩⟩
theorem vf_4_116 : ∀ e ∈ ([(4, 43)] : List (Nat × Nat)), VFe 4 116 0 e := List.forall_mem_cons.mpr ⟨vf_4_116_4, fun _ h => absurd h List.not_mem_nil⟩
theorem vf_9_32_9 : VFe 9 32 2 (9, 64) := ⟨by decide, by decide +kernel, by decide, (ts_25 _ (List.mem_of_getElem? (i := 8) rfl)), Or.inl ⟨(ts_31 _ (List.mem_of_getElem? (i := 1) rfl)), (ts_25 _ (List.mem_of_getElem? (i := 9) rfl)), by decide +kernel⟩⟩
theorem vf_9_32 : ∀ e ∈ ([(9, 64)] : List (Nat × Nat)), VFe 9 32 2 e := List.forall_mem_cons.mpr ⟨vf_9_32_9, fun _ h => absurd h List.not_mem_nil⟩
theorem vf_11_63_11 : VFe 11 63 2 (11, 76) := ⟨by decide, by decide +kernel, by decide, (ts_8 _ (List.mem_of_getElem? (i := 6) rfl)), Or.inl ⟨(ts_8 _ (List.mem_of_getElem? (i := 5) rfl)), (ts_8 _ (List.mem_of_getElem? (i := 7) rfl)), by decide +kernel⟩⟩
theorem vf_11_63 : ∀ e ∈ ([(11, 76)] : List (Nat × Nat)), VFe 11 63 2 e := List.forall_mem_cons.mpr ⟨vf_11_63_11, fun _ h => absurd h List.not_mem_nil⟩
theorem vf_11_67_4 : VFe 11 67 1 (4, 26) := ⟨by decide, by decide +kernel, by decide, (ts_8 _ (List.mem_of_getElem? (i := 12) rfl)), Or.inl ⟨(ts_8 _ (List.mem_of_getElem? (i := 11) rfl)), (ts_8 _ (List.mem_of_getElem? (i := 13) rfl)), by decide +kernel⟩⟩
theorem vf_11_67 : ∀ e ∈ ([(4, 26)] : List (Nat × Nat)), VFe 11 67 1 e := List.forall_mem_cons.mpr ⟨vf_11_67_4, fun _ h => absurd h List.not_mem_nil⟩
theorem vf_11_71_4 : VFe 11 71 4 (4, 27) := ⟨by decide, by decide +kernel, by decide, (ts_8 _ (List.mem_of_getElem? (i := 20) rfl)), Or.inl ⟨(ts_8 _ (List.mem_of_getElem? (i := 19) rfl)), (ts_8 _ (List.mem_of_getElem? (i := 21) rfl)), by decide +kernel⟩⟩
theorem vf_11_71 : ∀ e ∈ ([(4, 27)] : List (Nat × Nat)), VFe 11 71 4 e := List.forall_mem_cons.mpr ⟨vf_11_71_4, fun _ h => absurd h List.not_mem_nil⟩
theorem vf_11_83_9 : VFe 11 83 0 (9, 59) := ⟨by decide, by decide +kernel, by decide, (ts_25 _ (List.mem_of_getElem? (i := 0) rfl)), Or.inl ⟨(ts_24 _ (List.mem_of_getElem? (i := 23) rfl)), (ts_25 _ (List.mem_of_getElem? (i := 1) rfl)), by decide +kernel⟩⟩
theorem vf_11_83 : ∀ e ∈ ([(9, 59)] : List (Nat × Nat)), VFe 11 83 0 e := List.forall_mem_cons.mpr ⟨vf_11_83_9, fun _ h => absurd h List.not_mem_nil⟩
theorem vf_11_87_9 : VFe 11 87 0 (9, 61) := ⟨by decide, by decide +kernel, by decide, (ts_30 _ (List.mem_of_getElem? (i := 11) rfl)), Or.inl ⟨(ts_30 _ (List.mem_of_getElem? (i := 10) rfl)), (ts_30 _ (List.mem_of_getElem? (i := 12) rfl)), by decide +kernel⟩⟩
theorem vf_11_87 : ∀ e ∈ ([(9, 61)] : List (Nat × Nat)), VFe 11 87 0 e := List.forall_mem_cons.mpr ⟨vf_11_87_9, fun _ h => absurd h List.not_mem_nil⟩
theorem vf_11_90_9 : VFe 11 90 2 (9, 64) := ⟨by decide, by decide +kernel, by decide, (ts_25 _ (List.mem_of_getElem? (i := 8) rfl)), Or.inl ⟨(ts_25 _ (List.mem_of_getElem? (i := 7) rfl)), (ts_25 _ (List.mem_of_getElem? (i := 9) rfl)), by decide +kernel⟩⟩
theorem vf_11_90 : ∀ e ∈ ([(9, 64)] : List (Nat × Nat)), VFe 11 90 2 e := List.forall_mem_cons.mpr ⟨vf_11_90_9, fun _ h => absurd h List.not_mem_nil⟩
theorem vf_11_97_9 : VFe 11 97 1 (9, 65) := ⟨by decide, by decide +kernel, by decide, (ts_30 _ (List.mem_of_getElem? (i := 22) rfl)), Or.inl ⟨(ts_30 _ (List.mem_of_getElem? (i := 21) rfl)), (ts_30 _ (List.mem_of_getElem? (i := 23) rfl)), by decide +kernel⟩⟩
theorem vf_11_97 : ∀ e ∈ ([(9, 65)] : List (Nat × Nat)), VFe 11 97 1 e := List.forall_mem_cons.mpr ⟨vf_11_97_9, fun _ h => absurd h List.not_mem_nil⟩
theorem vf_11_101_4 : VFe 11 101 2 (4, 28) := ⟨by decide, by decide +kernel, by decide, (ts_4 _ (List.mem_of_getElem? (i := 2) rfl)), Or.inl ⟨(ts_21 _ (List.mem_of_getElem? (i := 5) rfl)), (ts_4 _ (List.mem_of_getElem? (i := 3) rfl)), by decide +kernel⟩⟩
theorem vf_11_101 : ∀ e ∈ ([(4, 28)] : List (Nat × Nat)), VFe 11 101 2 e := List.forall_mem_cons.mpr ⟨vf_11_101_4, fun _ h => absurd h List.not_mem_nil⟩
theorem vf_11_105_4 : VFe 11 105 2 (4, 29) := ⟨by decide, by decide +kernel, by decide, (ts_21 _ (List.mem_of_getElem? (i := 7) rfl)), Or.inl ⟨(ts_21 _ (List.mem_of_getElem? (i := 6) rfl)), (ts_21 _ (List.mem_of_getElem? (i := 8) rfl)), by decide +kernel⟩⟩
theorem vf_11_105 : ∀ e ∈ ([(4, 29)] : List (Nat × Nat)), VFe 11 105 2 e := List.forall_mem_cons.mpr ⟨vf_11_105_4, fun _ h => absurd h List.not_mem_nil⟩
theorem vf_11_109_11 : VFe 11 109 4 (11, 124) := ⟨by decide, by decide +kernel, by decide, (ts_21 _ (List.mem_of_getElem? (i := 11) rfl)), Or.inl ⟨(ts_21 _ (List.mem_of_getElem? (i := 10) rfl)), (ts_21 _ (List.mem_of_getElem? (i := 12) rfl)), by decide +kernel⟩⟩
theorem vf_11_109 : ∀ e ∈ ([(11, 124)] : List (Nat × Nat)), VFe 11 109 4 e := List.forall_mem_cons.mpr ⟨vf_11_109_11, fun _ h => absurd h List.not_mem_nil⟩
theorem vf_11_113_4 : VFe 11 113 3 (4, 30) := ⟨by decide, by decide +kernel, by decide, (ts_3 _ (List.mem_of_getElem? (i := 21) rfl)), Or.inl ⟨(ts_3 _ (List.mem_of_getElem? (i := 20) rfl)), (ts_3 _ (List.mem_of_getElem? (i := 22) rfl)), by decide +kernel⟩⟩
theorem vf_11_113 : ∀ e ∈ ([(4, 30)] : List (Nat × Nat)), VFe 11 113 3 e := List.forall_mem_cons.mpr ⟨vf_11_113_4, fun _ h => absurd h List.not_mem_nil⟩
theorem vf_11_117_4 : VFe 11 117 1 (4, 24) := ⟨by decide, by decide +kernel, by decide, (ts_4 _ (List.mem_of_getElem? (i := 6) rfl)), Or.inl ⟨(ts_8 _ (List.mem_of_getElem? (i := 10) rfl)), (ts_4 _ (List.mem_of_getElem? (i := 7) rfl)), by decide +kernel⟩⟩
theorem vf_11_117 : ∀ e ∈ ([(4, 24)] : List (Nat × Nat)), VFe 11 117 1 e := List.forall_mem_cons.mpr ⟨vf_11_117_4, fun _ h => absurd h List.not_mem_nil⟩
theorem vf_11_124_3 : VFe 11 124 2 (3, 9) := ⟨by decide, by decide +kernel, by decide, (ts_22 _ (List.mem_of_getElem? (i := 6) rfl)), Or.inl ⟨(ts_22 _ (List.mem_of_getElem? (i := 5) rfl)), (ts_22 _ (List.mem_of_getElem? (i := 7) rfl)), by decide +kernel⟩⟩
theorem vf_11_124 : ∀ e ∈ ([(3, 9)] : List (Nat × Nat)), VFe 11 124 2 e := List.forall_mem_cons.mpr ⟨vf_11_124_3, fun _ h => absurd h List.not_mem_nil⟩
theorem vf_11_128_4 : VFe 11 128 1 (4, 25) := ⟨by decide, by decide +kernel, by decide, (ts_4 _ (List.mem_of_getElem? (i := 13) rfl)), Or.inl ⟨(ts_9 _ (List.mem_of_getElem? (i := 5) rfl)), (ts_4 _ (List.mem_of_getElem? (i := 14) rfl)), by decide +kernel⟩⟩
theorem vf_11_128 : ∀ e ∈ ([(4, 25)] : List (Nat × Nat)), VFe 11 128 1 e := List.forall_mem_cons.mpr ⟨vf_11_128_4, fun _ h => absurd h List.not_mem_nil⟩
theorem vf_11_131_4 : VFe 11 131 2 (4, 40) := ⟨by decide, by decide +kernel, by decide, (ts_6 _ (List.mem_of_getElem? (i := 1) rfl)), Or.inl ⟨(ts_29 _ (List.mem_of_getElem? (i := 18) rfl)), (ts_6 _ (List.mem_of_getElem? (i := 2) rfl)), by decide +kernel⟩⟩
theorem vf_11_131 : ∀ e ∈ ([(4, 40)] : List (Nat × Nat)), VFe 11 131 2 e := List.forall_mem_cons.mpr ⟨vf_11_131_4, fun _ h => absurd h List.not_mem_nil⟩
theorem vf_11_135_11 : VFe 11 135 1 (11, 82) := ⟨by decide, by decide +kernel, by decide, (ts_26 _ (List.mem_of_getElem? (i := 7) rfl)), Or.inl ⟨(ts_26 _ (List.mem_of_getElem? (i := 6) rfl)), (ts_26 _ (List.mem_of_getElem? (i := 8) rfl)), by decide +kernel⟩⟩
theorem vf_11_135 : ∀ e ∈ ([(11, 82)] : List (Nat × Nat)), VFe 11 135 1 e := List.forall_mem_cons.mpr ⟨vf_11_135_11, fun _ h => absurd h List.not_mem_nil⟩
theorem vf_11_151_4 : VFe 11 151 1 (4, 31) := ⟨by decide, by decide +kernel, by decide, (ts_5 _ (List.mem_of_getElem? (i := 0) rfl)), Or.inl ⟨(ts_4 _ (List.mem_of_getElem? (i := 23) rfl)), (ts_5 _ (List.mem_of_getElem? (i := 1) rfl)), by decide +kernel⟩⟩
theorem vf_11_151 : ∀ e ∈ ([(4, 31)] : List (Nat × Nat)), VFe 11 151 1 e := List.forall_mem_cons.mpr ⟨vf_11_151_4, fun _ h => absurd h List.not_mem_nil⟩
theorem vf_11_155_4 : VFe 11 155 1 (4, 44) := ⟨by decide, by decide +kernel, by decide, (ts_5 _ (List.mem_of_getElem? (i := 16) rfl)), Or.inl ⟨(ts_5 _ (List.mem_of_getElem? (i := 15) rfl)), (ts_5 _ (List.mem_of_getElem? (i := 17) rfl)), by decide +kernel⟩⟩
theorem vf_11_155 : ∀ e ∈ ([(4, 44)] : List (Nat × Nat)), VFe 11 155 1 e := List.forall_mem_cons.mpr ⟨vf_11_155_4, fun _ h => absurd h List.not_mem_nil⟩
theorem vf_11_159_4 : VFe 11 159 0 (4, 35) := ⟨by decide, by decide +kernel, by decide, (ts_30 _ (List.mem_of_getElem? (i := 0) rfl)), Or.inl ⟨(ts_29 _ (List.mem_of_getElem? (i := 23) rfl)), (ts_30 _ (List.mem_of_getElem? (i := 1) rfl)), by decide +kernel⟩⟩
theorem vf_11_159 : ∀ e ∈ ([(4, 35)] : List (Nat × Nat)), VFe 11 159 0 e := List.forall_mem_cons.mpr ⟨vf_11_159_4, fun _ h => absurd h List.not_mem_nil⟩
theorem vf_11_163_4 : VFe 11 163 0 (4, 36) := ⟨by decide, by decide +kernel, by decide, (ts_32 _ (List.mem_of_getElem? (i := 12) rfl)), Or.inl ⟨(ts_32 _ (List.mem_of_getElem? (i := 11) rfl)), (ts_32 _ (List.mem_of_getElem? (i := 13) rfl)), by decide +kernel⟩⟩
theorem vf_11_163 : ∀ e ∈ ([(4, 36)] : List (Nat × Nat)), VFe 11 163 0 e := List.forall_mem_cons.mpr ⟨vf_11_163_4, fun _ h => absurd h List.not_mem_nil⟩
theorem vf_11_166_11 : VFe 11 166 1 (11, 143) := ⟨by decide, by decide +kernel, by decide, (ts_28 _ (List.mem_of_getElem? (i := 23) rfl)), Or.inl ⟨(ts_28 _ (List.mem_of_getElem? (i := 22) rfl)), (ts_29 _ (List.mem_of_getElem? (i := 0) rfl)), by decide +kernel⟩⟩
theorem vf_11_166 : ∀ e ∈ ([(11, 143)] : List (Nat × Nat)), VFe 11 166 1 e := List.forall_mem_cons.mpr ⟨vf_11_166_11, fun _ h => absurd h List.not_mem_nil⟩
theorem vf_11_169_11 : VFe 11 169 3 (11, 86) := ⟨by decide, by decide +kernel, by decide, (ts_26 _ (List.mem_of_getElem? (i := 16) rfl)), Or.inl ⟨(ts_26 _ (List.mem_of_getElem? (i := 15) rfl)), (ts_26 _ (List.mem_of_getElem? (i := 17) rfl)), by decide +kernel⟩⟩
theorem vf_11_169 : ∀ e ∈ ([(11, 86)] : List (Nat × Nat)), VFe 11 169 3 e := List.forall_mem_cons.mpr ⟨vf_11_169_11, fun _ h => absurd h List.not_mem_nil⟩
theorem vf_11_172_11 : VFe 11 172 1 (11, 87) := ⟨by decide, by decide +kernel, by decide, (ts_27 _ (List.mem_of_getElem? (i := 0) rfl)), Or.inl ⟨(ts_26 _ (List.mem_of_getElem? (i := 23) rfl)), (ts_27 _ (List.mem_of_getElem? (i := 1) rfl)), by decide +kernel⟩⟩
theorem vf_11_172 : ∀ e ∈ ([(11, 87)] : List (Nat × Nat)), VFe 11 172 1 e := List.forall_mem_cons.mpr ⟨vf_11_172_11, fun _ h => absurd h List.not_mem_nil⟩
theorem vf_11_175_11 : VFe 11 175 1 (11, 88) := ⟨by decide, by decide +kernel, by decide, (ts_29 _ (List.mem_of_getElem? (i := 3) rfl)), Or.inl ⟨(ts_29 _ (List.mem_of_getElem? (i := 2) rfl)), (ts_29 _ (List.mem_of_getElem? (i := 4) rfl)), by decide +kernel⟩⟩
theorem vf_11_175 : ∀ e ∈ ([(11, 88)] : List (Nat × Nat)), VFe 11 175 1 e := List.forall_mem_cons.mpr ⟨vf_11_175_11, fun _ h => absurd h List.not_mem_nil⟩
theorem vf_11_178_4 : VFe 11 178 3 (4, 37) := ⟨by decide, by decide +kernel, by decide, (ts_26 _ (List.mem_of_getElem? (i := 20) rfl)), Or.inl ⟨(ts_26 _ (List.mem_of_getElem? (i := 19) rfl)), (ts_26 _ (List.mem_of_getElem? (i := 21) rfl)), by decide +kernel⟩⟩
theorem vf_11_178 : ∀ e ∈ ([(4, 37)] : List (Nat × Nat)), VFe 11 178 3 e := List.forall_mem_cons.mpr ⟨vf_11_178_4, fun _ h => absurd h List.not_mem_nil⟩
theorem vf_11_181_4 : VFe 11 181 2 (4, 41) := ⟨by decide, by decide +kernel, by decide, (ts_5 _ (List.mem_of_getElem? (i := 20) rfl)), Or.inl ⟨(ts_27 _ (List.mem_of_getElem? (i := 3) rfl)), (ts_5 _ (List.mem_of_getElem? (i := 21) rfl)), by decide +kernel⟩⟩
theorem vf_11_181 : ∀ e ∈ ([(4, 41)] : List (Nat × Nat)), VFe 11 181 2 e := List.forall_mem_cons.mpr ⟨vf_11_181_4, fun _ h => absurd h List.not_mem_nil⟩
theorem vf_11_184_4 : VFe 11 184 0 (4, 43) := ⟨by decide, by decide +kernel, by decide, (ts_7 _ (List.mem_of_getElem? (i := 22) rfl)), Or.inl ⟨(ts_27 _ (List.mem_of_getElem? (i := 4) rfl)), (ts_7 _ (List.mem_of_getElem? (i := 23) rfl)), by decide +kernel⟩⟩
theorem vf_11_184 : ∀ e ∈ ([(4, 43)] : List (Nat × Nat)), VFe 11 184 0 e := List.forall_mem_cons.mpr ⟨vf_11_184_4, fun _ h => absurd h List.not_mem_nil⟩
theorem vf_11_190_11 : VFe 11 190 1 (11, 91) := ⟨by decide, by decide +kernel, by decide, (ts_27 _ (List.mem_of_getElem? (i := 10) rfl)), Or.inl ⟨(ts_27 _ (List.mem_of_getElem? (i := 9) rfl)), (ts_27 _ (List.mem_of_getElem? (i := 11) rfl)), by decide +kernel⟩⟩
theorem vf_11_190 : ∀ e ∈ ([(11, 91)] : List (Nat × Nat)), VFe 11 190 1 e := List.forall_mem_cons.mpr ⟨vf_11_190_11, fun _ h => absurd h List.not_mem_nil⟩
theorem vf_11_193_11 : VFe 11 193 0 (11, 92) := ⟨by decide, by decide +kernel, by decide, (ts_27 _ (List.mem_of_getElem? (i := 15) rfl)), Or.inl ⟨(ts_27 _ (List.mem_of_getElem? (i := 14) rfl)), (ts_27 _ (List.mem_of_getElem? (i := 16) rfl)), by decide +kernel⟩⟩
theorem vf_11_193 : ∀ e ∈ ([(11, 92)] : List (Nat × Nat)), VFe 11 193 0 e := List.forall_mem_cons.mpr ⟨vf_11_193_11, fun _ h => absurd h List.not_mem_nil⟩
theorem vf_11_196_11 : VFe 11 196 1 (11, 94) := ⟨by decide, by decide +kernel, by decide, (ts_28 _ (List.mem_of_getElem? (i := 3) rfl)), Or.inl ⟨(ts_28 _ (List.mem_of_getElem? (i := 2) rfl)), (ts_28 _ (List.mem_of_getElem? (i := 4) rfl)), by decide +kernel⟩⟩
theorem vf_11_196 : ∀ e ∈ ([(11, 94)] : List (Nat × Nat)), VFe 11 196 1 e := List.forall_mem_cons.mpr ⟨vf_11_196_11, fun _ h => absurd h List.not_mem_nil⟩
theorem vf_11_208_11 : VFe 11 208 3 (11, 93) := ⟨by decide, by decide +kernel, by decide, (ts_27 _ (List.mem_of_getElem? (i := 23) rfl)), Or.inl ⟨(ts_27 _ (List.mem_of_getElem? (i := 22) rfl)), (ts_28 _ (List.mem_of_getElem? (i := 0) rfl)), by decide +kernel⟩⟩
theorem vf_11_208 : ∀ e ∈ ([(11, 93)] : List (Nat × Nat)), VFe 11 208 3 e := List.forall_mem_cons.mpr ⟨vf_11_208_11, fun _ h => absurd h List.not_mem_nil⟩
theorem vf_11_217_11 : VFe 11 217 2 (11, 95) := ⟨by decide, by decide +kernel, by decide, (ts_28 _ (List.mem_of_getElem? (i := 7) rfl)), Or.inl ⟨(ts_28 _ (List.mem_of_getElem? (i := 6) rfl)), (ts_28 _ (List.mem_of_getElem? (i := 8) rfl)), by decide +kernel⟩⟩
theorem vf_11_217 : ∀ e ∈ ([(11, 95)] : List (Nat × Nat)), VFe 11 217 2 e := List.forall_mem_cons.mpr ⟨vf_11_217_11, fun _ h => absurd h List.not_mem_nil⟩
theorem vf_11_220_11 : VFe 11 220 2 (11, 97) := ⟨by decide, by decide +kernel, by decide, (ts_29 _ (List.mem_of_getElem? (i := 11) rfl)), Or.inl ⟨(ts_29 _ (List.mem_of_getElem? (i := 10) rfl)), (ts_29 _ (List.mem_of_getElem? (i := 12) rfl)), by decide +kernel⟩⟩
theorem vf_11_220 : ∀ e ∈ ([(11, 97)] : List (Nat × Nat)), VFe 11 220 2 e := List.forall_mem_cons.mpr ⟨vf_11_220_11, fun _ h => absurd h List.not_mem_nil⟩
theorem vf_11_223_11 : VFe 11 223 1 (11, 99) := ⟨by decide, by decide +kernel, by decide, (ts_32 _ (List.mem_of_getElem? (i := 20) rfl)), Or.inl ⟨(ts_32 _ (List.mem_of_getElem? (i := 19) rfl)), (ts_32 _ (List.mem_of_getElem? (i := 21) rfl)), by decide +kernel⟩⟩
theorem vf_11_223 : ∀ e ∈ ([(11, 99)] : List (Nat × Nat)), VFe 11 223 1 e := List.forall_mem_cons.mpr ⟨vf_11_223_11, fun _ h => absurd h List.not_mem_nil⟩
theorem vf_11_226_11 : VFe 11 226 2 (11, 100) := ⟨by decide, by decide +kernel, by decide, (ts_33 _ (List.mem_of_getElem? (i := 0) rfl)), Or.inl ⟨(ts_32 _ (List.mem_of_getElem? (i := 23) rfl)), (ts_33 _ (List.mem_of_getElem? (i := 1) rfl)), by decide +kernel⟩⟩
theorem vf_11_226 : ∀ e ∈ ([(11, 100)] : List (Nat × Nat)), VFe 11 226 2 e := List.forall_mem_cons.mpr ⟨vf_11_226_11, fun _ h => absurd h List.not_mem_nil⟩
theorem vf_11_237_11 : VFe 11 237 2 (11, 102) := ⟨by decide, by decide +kernel, by decide, (ts_33 _ (List.mem_of_getElem? (i := 14) rfl)), Or.inl ⟨(ts_33 _ (List.mem_of_getElem? (i := 13) rfl)), (ts_33 _ (List.mem_of_getElem? (i := 15) rfl)), by decide +kernel⟩⟩
theorem vf_11_237 : ∀ e ∈ ([(11, 102)] : List (Nat × Nat)), VFe 11 237 2 e := List.forall_mem_cons.mpr ⟨vf_11_237_11, fun _ h => absurd h List.not_mem_nil⟩
theorem vf_11_240_11 : VFe 11 240 3 (11, 103) := ⟨by decide, by decide +kernel, by decide, (ts_33 _ (List.mem_of_getElem? (i := 18) rfl)), Or.inl ⟨(ts_33 _ (List.mem_of_getElem? (i := 17) rfl)), (ts_33 _ (List.mem_of_getElem? (i := 19) rfl)), by decide +kernel⟩⟩
theorem vf_11_240 : ∀ e ∈ ([(11, 103)] : List (Nat × Nat)), VFe 11 240 3 e := List.forall_mem_cons.mpr ⟨vf_11_240_11, fun _ h => absurd h List.not_mem_nil⟩
theorem vf_11_250_11 : VFe 11 250 2 (11, 106) := ⟨by decide, by decide +kernel, by decide, (ts_30 _ (List.mem_of_getElem? (i := 15) rfl)), Or.inl ⟨(ts_30 _ (List.mem_of_getElem? (i := 14) rfl)), (ts_30 _ (List.mem_of_getElem? (i := 16) rfl)), by decide +kernel⟩⟩
theorem vf_11_250 : ∀ e ∈ ([(11, 106)] : List (Nat × Nat)), VFe 11 250 2 e := List.forall_mem_cons.mpr ⟨vf_11_250_11, fun _ h => absurd h List.not_mem_nil⟩
theorem vf_11_262_11 : VFe 11 262 2 (11, 108) := ⟨by decide, by decide +kernel, by decide, (ts_31 _ (List.mem_of_getElem? (i := 7) rfl)), Or.inl ⟨(ts_31 _ (List.mem_of_getElem? (i := 6) rfl)), (ts_31 _ (List.mem_of_getElem? (i := 8) rfl)), by decide +kernel⟩⟩
theorem vf_11_262 : ∀ e ∈ ([(11, 108)] : List (Nat × Nat)), VFe 11 262 2 e := List.forall_mem_cons.mpr ⟨vf_11_262_11, fun _ h => absurd h List.not_mem_nil⟩
theorem vf_11_265_11 : VFe 11 265 2 (11, 109) := ⟨by decide, by decide +kernel, by decide, (ts_31 _ (List.mem_of_getElem? (i := 12) rfl)), Or.inl ⟨(ts_31 _ (List.mem_of_getElem? (i := 11) rfl)), (ts_31 _ (List.mem_of_getElem? (i := 13) rfl)), by decide +kernel⟩⟩
theorem vf_11_265 : ∀ e ∈ ([(11, 109)] : List (Nat × Nat)), VFe 11 265 2 e := List.forall_mem_cons.mpr ⟨vf_11_265_11, fun _ h => absurd h List.not_mem_nil⟩
theorem vf_11_268_11 : VFe 11 268 2 (11, 111) := ⟨by decide, by decide +kernel, by decide, (ts_34 _ (List.mem_of_getElem? (i := 3) rfl)), Or.inl ⟨(ts_34 _ (List.mem_of_getElem? (i := 2) rfl)), (ts_34 _ (List.mem_of_getElem? (i := 4) rfl)), by decide +kernel⟩⟩
theorem vf_11_268 : ∀ e ∈ ([(11, 111)] : List (Nat × Nat)), VFe 11 268 2 e := List.forall_mem_cons.mpr ⟨vf_11_268_11, fun _ h => absurd h List.not_mem_nil⟩
theorem vf_11_271_4 : VFe 11 271 1 (4, 34) := ⟨by decide, by decide +kernel, by decide, (ts_28 _ (List.mem_of_getElem? (i := 15) rfl)), Or.inl ⟨(ts_28 _ (List.mem_of_getElem? (i := 14) rfl)), (ts_28 _ (List.mem_of_getElem? (i := 16) rfl)), by decide +kernel⟩⟩
theorem vf_11_271 : ∀ e ∈ ([(4, 34)] : List (Nat × Nat)), VFe 11 271 1 e := List.forall_mem_cons.mpr ⟨vf_11_271_4, fun _ h => absurd h List.not_mem_nil⟩
theorem vf_11_280_11 : VFe 11 280 5 (11, 115) := ⟨by decide, by decide +kernel, by decide, (ts_32 _ (List.mem_of_getElem? (i := 0) rfl)), Or.inl ⟨(ts_31 _ (List.mem_of_getElem? (i := 23) rfl)), (ts_32 _ (List.mem_of_getElem? (i := 1) rfl)), by decide +kernel⟩⟩
theorem vf_11_280 : ∀ e ∈ ([(11, 115)] : List (Nat × Nat)), VFe 11 280 5 e := List.forall_mem_cons.mpr ⟨vf_11_280_11, fun _ h => absurd h List.not_mem_nil⟩
theorem vf_11_284_11 : VFe 11 284 3 (11, 116) := ⟨by decide, by decide +kernel, by decide, (ts_32 _ (List.mem_of_getElem? (i := 4) rfl)), Or.inl ⟨(ts_32 _ (List.mem_of_getElem? (i := 3) rfl)), (ts_32 _ (List.mem_of_getElem? (i := 5) rfl)), by decide +kernel⟩⟩
theorem vf_11_284 : ∀ e ∈ ([(11, 116)] : List (Nat × Nat)), VFe 11 284 3 e := List.forall_mem_cons.mpr ⟨vf_11_284_11, fun _ h => absurd h List.not_mem_nil⟩
theorem vf_11_288_4 : VFe 11 288 2 (4, 39) := ⟨by decide, by decide +kernel, by decide, (ts_34 _ (List.mem_of_getElem? (i := 12) rfl)), Or.inl ⟨(ts_34 _ (List.mem_of_getElem? (i := 11) rfl)), (ts_34 _ (List.mem_of_getElem? (i := 13) rfl)), by decide +kernel⟩⟩
theorem vf_11_288 : ∀ e ∈ ([(4, 39)] : List (Nat × Nat)), VFe 11 288 2 e := List.forall_mem_cons.mpr ⟨vf_11_288_4, fun _ h => absurd h List.not_mem_nil⟩
theorem vf_11_295_4 : VFe 11 295 1 (4, 38) := ⟨by decide, by decide +kernel, by decide, (ts_7 _ (List.mem_of_getElem? (i := 18) rfl)), Or.inl ⟨(ts_9 _ (List.mem_of_getElem? (i := 6) rfl)), (ts_7 _ (List.mem_of_getElem? (i := 19) rfl)), by decide +kernel⟩⟩
theorem vf_11_295 : ∀ e ∈ ([(4, 38)] : List (Nat × Nat)), VFe 11 295 1 e := List.forall_mem_cons.mpr ⟨vf_11_295_4, fun _ h => absurd h List.not_mem_nil⟩
theorem vf_11_302_4 : VFe 11 302 1 (4, 32) := ⟨by decide, by decide +kernel, by decide, (ts_5 _ (List.mem_of_getElem? (i := 8) rfl)), Or.inl ⟨(ts_35 _ (List.mem_of_getElem? (i := 16) rfl)), (ts_5 _ (List.mem_of_getElem? (i := 9) rfl)), by decide +kernel⟩⟩
theorem vf_11_302 : ∀ e ∈ ([(4, 32)] : List (Nat × Nat)), VFe 11 302 1 e := List.forall_mem_cons.mpr ⟨vf_11_302_4, fun _ h => absurd h List.not_mem_nil⟩
theorem vf_11_308_11 : VFe 11 308 0 (11, 125) := ⟨by decide, by decide +kernel, by decide, (ts_21 _ (List.mem_of_getElem? (i := 16) rfl)), Or.inl ⟨(ts_21 _ (List.mem_of_getElem? (i := 15) rfl)), (ts_21 _ (List.mem_of_getElem? (i := 17) rfl)), by decide +kernel⟩⟩
theorem vf_11_308 : ∀ e ∈ ([(11, 125)] : List (Nat × Nat)), VFe 11 308 0 e := List.forall_mem_cons.mpr ⟨vf_11_308_11, fun _ h => absurd h List.not_mem_nil⟩
theorem vf_11_363_9 : VFe 11 363 1 (9, 62) := ⟨by decide, by decide +kernel, by decide, (ts_35 _ (List.mem_of_getElem? (i := 9) rfl)), Or.inl ⟨(ts_35 _ (List.mem_of_getElem? (i := 8) rfl)), (ts_35 _ (List.mem_of_getElem? (i := 10) rfl)), by decide +kernel⟩⟩
theorem vf_11_363 : ∀ e ∈ ([(9, 62)] : List (Nat × Nat)), VFe 11 363 1 e := List.forall_mem_cons.mpr ⟨vf_11_363_9, fun _ h => absurd h List.not_mem_nil⟩
theorem vf_11_367_9 : VFe 11 367 2 (9, 63) := ⟨by decide, by decide +kernel, by decide, (ts_24 _ (List.mem_of_getElem? (i := 7) rfl)), Or.inl ⟨(ts_24 _ (List.mem_of_getElem? (i := 6) rfl)), (ts_24 _ (List.mem_of_getElem? (i := 8) rfl)), by decide +kernel⟩⟩
theorem vf_11_367 : ∀ e ∈ ([(9, 63)] : List (Nat × Nat)), VFe 11 367 2 e := List.forall_mem_cons.mpr ⟨vf_11_367_9, fun _ h => absurd h List.not_mem_nil⟩
theorem vf_11_370_11 : VFe 11 370 2 (11, 136) := ⟨by decide, by decide +kernel, by decide, (ts_24 _ (List.mem_of_getElem? (i := 20) rfl)), Or.inl ⟨(ts_24 _ (List.mem_of_getElem? (i := 19) rfl)), (ts_24 _ (List.mem_of_getElem? (i := 21) rfl)), by decide +kernel⟩⟩
theorem vf_11_370 : ∀ e ∈ ([(11, 136)] : List (Nat × Nat)), VFe 11 370 2 e := List.forall_mem_cons.mpr ⟨vf_11_370_11, fun _ h => absurd h List.not_mem_nil⟩
theorem vf_11_373_9 : VFe 11 373 2 (9, 66) := ⟨by decide, by decide +kernel, by decide, (ts_25 _ (List.mem_of_getElem? (i := 12) rfl)), Or.inl ⟨(ts_25 _ (List.mem_of_getElem? (i := 11) rfl)), (ts_25 _ (List.mem_of_getElem? (i := 13) rfl)), by decide +kernel⟩⟩
theorem vf_11_373 : ∀ e ∈ ([(9, 66)] : List (Nat × Nat)), VFe 11 373 2 e := List.forall_mem_cons.mpr ⟨vf_11_373_9, fun _ h => absurd h List.not_mem_nil⟩
theorem vf_11_380_9 : VFe 11 380 0 (9, 60) := ⟨by decide, by decide +kernel, by decide, (ts_25 _ (List.mem_of_getElem? (i := 4) rfl)), Or.inl ⟨(ts_25 _ (List.mem_of_getElem? (i := 3) rfl)), (ts_25 _ (List.mem_of_getElem? (i := 5) rfl)), by decide +kernel⟩⟩
theorem vf_11_380 : ∀ e ∈ ([(9, 60)] : List (Nat × Nat)), VFe 11 380 0 e := List.forall_mem_cons.mpr ⟨vf_11_380_9, fun _ h => absurd h List.not_mem_nil⟩
theorem vf_13_18_0 : VFe 13 18 1 (0, 169) := ⟨by decide, by decide +kernel, by decide, (ts_10 _ (List.mem_of_getElem? (i := 17) rfl)), Or.inl ⟨(ts_10 _ (List.mem_of_getElem? (i := 16) rfl)), (ts_10 _ (List.mem_of_getElem? (i := 18) rfl)), by decide +kernel⟩⟩
theorem vf_13_18 : ∀ e ∈ ([(0, 169)] : List (Nat × Nat)), VFe 13 18 1 e := List.forall_mem_cons.mpr ⟨vf_13_18_0, fun _ h => absurd h List.not_mem_nil⟩
theorem vf_13_24_1 : VFe 13 24 1 (1, 162) := ⟨by decide, by decide +kernel, by decide, (ts_16 _ (List.mem_of_getElem? (i := 4) rfl)), Or.inl ⟨(ts_16 _ (List.mem_of_getElem? (i := 3) rfl)), (ts_16 _ (List.mem_of_getElem? (i := 5) rfl)), by decide +kernel⟩⟩
theorem vf_13_24 : ∀ e ∈ ([(1, 162)] : List (Nat × Nat)), VFe 13 24 1 e := List.forall_mem_cons.mpr ⟨vf_13_24_1, fun _ h => absurd h List.not_mem_nil⟩
theorem vf_13_30_0 : VFe 13 30 1 (0, 170) := ⟨by decide, by decide +kernel, by decide, (ts_17 _ (List.mem_of_getElem? (i := 7) rfl)), Or.inl ⟨(ts_17 _ (List.mem_of_getElem? (i := 6) rfl)), (ts_17 _ (List.mem_of_getElem? (i := 8) rfl)), by decide +kernel⟩⟩
theorem vf_13_30 : ∀ e ∈ ([(0, 170)] : List (Nat × Nat)), VFe 13 30 1 e := List.forall_mem_cons.mpr ⟨vf_13_30_0, fun _ h => absurd h List.not_mem_nil⟩
theorem vf_13_33_0 : VFe 13 33 0 (0, 172) := ⟨by decide, by decide +kernel, by decide, (ts_17 _ (List.mem_of_getElem? (i := 21) rfl)), Or.inl ⟨(ts_17 _ (List.mem_of_getElem? (i := 20) rfl)), (ts_17 _ (List.mem_of_getElem? (i := 22) rfl)), by decide +kernel⟩⟩
theorem vf_13_33 : ∀ e ∈ ([(0, 172)] : List (Nat × Nat)), VFe 13 33 0 e := List.forall_mem_cons.mpr ⟨vf_13_33_0, fun _ h => absurd h List.not_mem_nil⟩
theorem vf_13_37_0 : VFe 13 37 1 (0, 171) := ⟨by decide, by decide +kernel, by decide, (ts_19 _ (List.mem_of_getElem? (i := 21) rfl)), Or.inl ⟨(ts_19 _ (List.mem_of_getElem? (i := 20) rfl)), (ts_19 _ (List.mem_of_getElem? (i := 22) rfl)), by decide +kernel⟩⟩
theorem vf_13_37 : ∀ e ∈ ([(0, 171)] : List (Nat × Nat)), VFe 13 37 1 e := List.forall_mem_cons.mpr ⟨vf_13_37_0, fun _ h => absurd h List.not_mem_nil⟩
theorem vf_13_78_1 : VFe 13 78 0 (1, 161) := ⟨by decide, by decide +kernel, by decide, (ts_13 _ (List.mem_of_getElem? (i := 21) rfl)), Or.inl ⟨(ts_20 _ (List.mem_of_getElem? (i := 20) rfl)), (ts_13 _ (List.mem_of_getElem? (i := 22) rfl)), by decide +kernel⟩⟩
theorem vf_13_78 : ∀ e ∈ ([(1, 161)] : List (Nat × Nat)), VFe 13 78 0 e := List.forall_mem_cons.mpr ⟨vf_13_78_1, fun _ h => absurd h List.not_mem_nil⟩
theorem vf_13_84_11 : VFe 13 84 3 (11, 75) := ⟨by decide, by decide +kernel, by decide, (ts_21 _ (List.mem_of_getElem? (i := 1) rfl)), Or.inl ⟨(ts_21 _ (List.mem_of_getElem? (i := 0) rfl)), (ts_21 _ (List.mem_of_getElem? (i := 2) rfl)), by decide +kernel⟩⟩
theorem vf_13_84 : ∀ e ∈ ([(11, 75)] : List (Nat × Nat)), VFe 13 84 3 e := List.forall_mem_cons.mpr ⟨vf_13_84_11, fun _ h => absurd h List.not_mem_nil⟩
theorem vf_13_90_11 : VFe 13 90 1 (11, 71) := ⟨by decide, by decide +kernel, by decide, (ts_8 _ (List.mem_of_getElem? (i := 2) rfl)), Or.inl ⟨(ts_8 _ (List.mem_of_getElem? (i := 1) rfl)), (ts_8 _ (List.mem_of_getElem? (i := 3) rfl)), by decide +kernel⟩⟩
theorem vf_13_90 : ∀ e ∈ ([(11, 71)] : List (Nat × Nat)), VFe 13 90 1 e := List.forall_mem_cons.mpr ⟨vf_13_90_11, fun _ h => absurd h List.not_mem_nil⟩
theorem vf_13_94_11 : VFe 13 94 2 (11, 72) := ⟨by decide, by decide +kernel, by decide, (ts_8 _ (List.mem_of_getElem? (i := 16) rfl)), Or.inl ⟨(ts_8 _ (List.mem_of_getElem? (i := 15) rfl)), (ts_8 _ (List.mem_of_getElem? (i := 17) rfl)), by decide +kernel⟩⟩
theorem vf_13_94 : ∀ e ∈ ([(11, 72)] : List (Nat × Nat)), VFe 13 94 2 e := List.forall_mem_cons.mpr ⟨vf_13_94_11, fun _ h => absurd h List.not_mem_nil⟩
theorem vf_13_97_11 : VFe 13 97 1 (11, 78) := ⟨by decide, by decide +kernel, by decide, (ts_21 _ (List.mem_of_getElem? (i := 21) rfl)), Or.inl ⟨(ts_21 _ (List.mem_of_getElem? (i := 20) rfl)), (ts_21 _ (List.mem_of_getElem? (i := 22) rfl)), by decide +kernel⟩⟩
theorem vf_13_97 : ∀ e ∈ ([(11, 78)] : List (Nat × Nat)), VFe 13 97 1 e := List.forall_mem_cons.mpr ⟨vf_13_97_11, fun _ h => absurd h List.not_mem_nil⟩
theorem vf_13_100_11 : VFe 13 100 0 (11, 79) := ⟨by decide, by decide +kernel, by decide, (ts_22 _ (List.mem_of_getElem? (i := 2) rfl)), Or.inl ⟨(ts_22 _ (List.mem_of_getElem? (i := 1) rfl)), (ts_22 _ (List.mem_of_getElem? (i := 3) rfl)), by decide +kernel⟩⟩
theorem vf_13_100 : ∀ e ∈ ([(11, 79)] : List (Nat × Nat)), VFe 13 100 0 e := List.forall_mem_cons.mpr ⟨vf_13_100_11, fun _ h => absurd h List.not_mem_nil⟩
theorem vf_13_107_11 : VFe 13 107 2 (11, 77) := ⟨by decide, by decide +kernel, by decide, (ts_25 _ (List.mem_of_getElem? (i := 21) rfl)), Or.inl ⟨(ts_25 _ (List.mem_of_getElem? (i := 20) rfl)), (ts_25 _ (List.mem_of_getElem? (i := 22) rfl)), by decide +kernel⟩⟩
theorem vf_13_107 : ∀ e ∈ ([(11, 77)] : List (Nat × Nat)), VFe 13 107 2 e := List.forall_mem_cons.mpr ⟨vf_13_107_11, fun _ h => absurd h List.not_mem_nil⟩
theorem vf_13_110_11 : VFe 13 110 3 (11, 81) := ⟨by decide, by decide +kernel, by decide, (ts_26 _ (List.mem_of_getElem? (i := 1) rfl)), Or.inl ⟨(ts_26 _ (List.mem_of_getElem? (i := 0) rfl)), (ts_26 _ (List.mem_of_getElem? (i := 2) rfl)), by decide +kernel⟩⟩
theorem vf_13_110 : ∀ e ∈ ([(11, 81)] : List (Nat × Nat)), VFe 13 110 3 e := List.forall_mem_cons.mpr ⟨vf_13_110_11, fun _ h => absurd h List.not_mem_nil⟩
theorem vf_13_113_11 : VFe 13 113 3 (11, 89) := ⟨by decide, by decide +kernel, by decide, (ts_26 _ (List.mem_of_getElem? (i := 11) rfl)), Or.inl ⟨(ts_26 _ (List.mem_of_getElem? (i := 10) rfl)), (ts_26 _ (List.mem_of_getElem? (i := 12) rfl)), by decide +kernel⟩⟩
theorem vf_13_113 : ∀ e ∈ ([(11, 89)] : List (Nat × Nat)), VFe 13 113 3 e := List.forall_mem_cons.mpr ⟨vf_13_113_11, fun _ h => absurd h List.not_mem_nil⟩
theorem vf_13_116_11 : VFe 13 116 2 (11, 90) := ⟨by decide, by decide +kernel, by decide, (ts_27 _ (List.mem_of_getElem? (i := 6) rfl)), Or.inl ⟨(ts_27 _ (List.mem_of_getElem? (i := 5) rfl)), (ts_27 _ (List.mem_of_getElem? (i := 7) rfl)), by decide +kernel⟩⟩
theorem vf_13_116 : ∀ e ∈ ([(11, 90)] : List (Nat × Nat)), VFe 13 116 2 e := List.forall_mem_cons.mpr ⟨vf_13_116_11, fun _ h => absurd h List.not_mem_nil⟩
theorem vf_13_119_11 : VFe 13 119 1 (11, 112) := ⟨by decide, by decide +kernel, by decide, (ts_28 _ (List.mem_of_getElem? (i := 11) rfl)), Or.inl ⟨(ts_28 _ (List.mem_of_getElem? (i := 10) rfl)), (ts_28 _ (List.mem_of_getElem? (i := 12) rfl)), by decide +kernel⟩⟩
theorem vf_13_119 : ∀ e ∈ ([(11, 112)] : List (Nat × Nat)), VFe 13 119 1 e := List.forall_mem_cons.mpr ⟨vf_13_119_11, fun _ h => absurd h List.not_mem_nil⟩
theorem vf_13_122_11 : VFe 13 122 3 (11, 85) := ⟨by decide, by decide +kernel, by decide, (ts_28 _ (List.mem_of_getElem? (i := 19) rfl)), Or.inl ⟨(ts_28 _ (List.mem_of_getElem? (i := 18) rfl)), (ts_28 _ (List.mem_of_getElem? (i := 20) rfl)), by decide +kernel⟩⟩
theorem vf_13_122 : ∀ e ∈ ([(11, 85)] : List (Nat × Nat)), VFe 13 122 3 e := List.forall_mem_cons.mpr ⟨vf_13_122_11, fun _ h => absurd h List.not_mem_nil⟩
theorem vf_13_125_11 : VFe 13 125 2 (11, 96) := ⟨by decide, by decide +kernel, by decide, (ts_29 _ (List.mem_of_getElem? (i := 7) rfl)), Or.inl ⟨(ts_29 _ (List.mem_of_getElem? (i := 6) rfl)), (ts_29 _ (List.mem_of_getElem? (i := 8) rfl)), by decide +kernel⟩⟩
theorem vf_13_125 : ∀ e ∈ ([(11, 96)] : List (Nat × Nat)), VFe 13 125 2 e := List.forall_mem_cons.mpr ⟨vf_13_125_11, fun _ h => absurd h List.not_mem_nil⟩
theorem vf_13_128_11 : VFe 13 128 1 (11, 80) := ⟨by decide, by decide +kernel, by decide, (ts_29 _ (List.mem_of_getElem? (i := 15) rfl)), Or.inl ⟨(ts_29 _ (List.mem_of_getElem? (i := 14) rfl)), (ts_29 _ (List.mem_of_getElem? (i := 16) rfl)), by decide +kernel⟩⟩
theorem vf_13_128 : ∀ e ∈ ([(11, 80)] : List (Nat × Nat)), VFe 13 128 1 e := List.forall_mem_cons.mpr ⟨vf_13_128_11, fun _ h => absurd h List.not_mem_nil⟩
theorem vf_13_131_11 : VFe 13 131 1 (11, 84) := ⟨by decide, by decide +kernel, by decide, (ts_29 _ (List.mem_of_getElem? (i := 20) rfl)), Or.inl ⟨(ts_29 _ (List.mem_of_getElem? (i := 19) rfl)), (ts_29 _ (List.mem_of_getElem? (i := 21) rfl)), by decide +kernel⟩⟩
theorem vf_13_131 : ∀ e ∈ ([(11, 84)] : List (Nat × Nat)), VFe 13 131 1 e := List.forall_mem_cons.mpr ⟨vf_13_131_11, fun _ h => absurd h List.not_mem_nil⟩
theorem vf_13_134_11 : VFe 13 134 2 (11, 104) := ⟨by decide, by decide +kernel, by decide, (ts_30 _ (List.mem_of_getElem? (i := 4) rfl)), Or.inl ⟨(ts_30 _ (List.mem_of_getElem? (i := 3) rfl)), (ts_30 _ (List.mem_of_getElem? (i := 5) rfl)), by decide +kernel⟩⟩
theorem vf_13_134 : ∀ e ∈ ([(11, 104)] : List (Nat × Nat)), VFe 13 134 2 e := List.forall_mem_cons.mpr ⟨vf_13_134_11, fun _ h => absurd h List.not_mem_nil⟩
theorem vf_13_137_11 : VFe 13 137 3 (11, 107) := ⟨by decide, by decide +kernel, by decide, (ts_31 _ (List.mem_of_getElem? (i := 3) rfl)), Or.inl ⟨(ts_31 _ (List.mem_of_getElem? (i := 2) rfl)), (ts_31 _ (List.mem_of_getElem? (i := 4) rfl)), by decide +kernel⟩⟩
theorem vf_13_137 : ∀ e ∈ ([(11, 107)] : List (Nat × Nat)), VFe 13 137 3 e := List.forall_mem_cons.mpr ⟨vf_13_137_11, fun _ h => absurd h List.not_mem_nil⟩
theorem vf_13_140_11 : VFe 13 140 3 (11, 113) := ⟨by decide, by decide +kernel, by decide, (ts_31 _ (List.mem_of_getElem? (i := 16) rfl)), Or.inl ⟨(ts_31 _ (List.mem_of_getElem? (i := 15) rfl)), (ts_31 _ (List.mem_of_getElem? (i := 17) rfl)), by decide +kernel⟩⟩
theorem vf_13_140 : ∀ e ∈ ([(11, 113)] : List (Nat × Nat)), VFe 13 140 3 e := List.forall_mem_cons.mpr ⟨vf_13_140_11, fun _ h => absurd h List.not_mem_nil⟩
theorem vf_13_143_11 : VFe 13 143 2 (11, 83) := ⟨by decide, by decide +kernel, by decide, (ts_32 _ (List.mem_of_getElem? (i := 8) rfl)), Or.inl ⟨(ts_32 _ (List.mem_of_getElem? (i := 7) rfl)), (ts_32 _ (List.mem_of_getElem? (i := 9) rfl)), by decide +kernel⟩⟩
theorem vf_13_143 : ∀ e ∈ ([(11, 83)] : List (Nat × Nat)), VFe 13 143 2 e := List.forall_mem_cons.mpr ⟨vf_13_143_11, fun _ h => absurd h List.not_mem_nil⟩
theorem vf_13_146_11 : VFe 13 146 2 (11, 98) := ⟨by decide, by decide +kernel, by decide, (ts_32 _ (List.mem_of_getElem? (i := 16) rfl)), Or.inl ⟨(ts_32 _ (List.mem_of_getElem? (i := 15) rfl)), (ts_32 _ (List.mem_of_getElem? (i := 17) rfl)), by decide +kernel⟩⟩
theorem vf_13_146 : ∀ e ∈ ([(11, 98)] : List (Nat × Nat)), VFe 13 146 2 e := List.forall_mem_cons.mpr ⟨vf_13_146_11, fun _ h => absurd h List.not_mem_nil⟩
theorem vf_13_149_11 : VFe 13 149 2 (11, 101) := ⟨by decide, by decide +kernel, by decide, (ts_33 _ (List.mem_of_getElem? (i := 10) rfl)), Or.inl ⟨(ts_33 _ (List.mem_of_getElem? (i := 9) rfl)), (ts_33 _ (List.mem_of_getElem? (i := 11) rfl)), by decide +kernel⟩⟩
theorem vf_13_149 : ∀ e ∈ ([(11, 101)] : List (Nat × Nat)), VFe 13 149 2 e := List.forall_mem_cons.mpr ⟨vf_13_149_11, fun _ h => absurd h List.not_mem_nil⟩
theorem vf_13_152_11 : VFe 13 152 0 (11, 110) := ⟨by decide, by decide +kernel, by decide, (ts_33 _ (List.mem_of_getElem? (i := 23) rfl)), Or.inl ⟨(ts_33 _ (List.mem_of_getElem? (i := 22) rfl)), (ts_34 _ (List.mem_of_getElem? (i := 0) rfl)), by decide +kernel⟩⟩
theorem vf_13_152 : ∀ e ∈ ([(11, 110)] : List (Nat × Nat)), VFe 13 152 0 e := List.forall_mem_cons.mpr ⟨vf_13_152_11, fun _ h => absurd h List.not_mem_nil⟩
theorem vf_13_155_11 : VFe 13 155 3 (11, 117) := ⟨by decide, by decide +kernel, by decide, (ts_34 _ (List.mem_of_getElem? (i := 7) rfl)), Or.inl ⟨(ts_34 _ (List.mem_of_getElem? (i := 6) rfl)), (ts_34 _ (List.mem_of_getElem? (i := 8) rfl)), by decide +kernel⟩⟩
theorem vf_13_155 : ∀ e ∈ ([(11, 117)] : List (Nat × Nat)), VFe 13 155 3 e := List.forall_mem_cons.mpr ⟨vf_13_155_11, fun _ h => absurd h List.not_mem_nil⟩
theorem vf_13_158_11 : VFe 13 158 1 (11, 121) := ⟨by decide, by decide +kernel, by decide, (ts_34 _ (List.mem_of_getElem? (i := 16) rfl)), Or.inl ⟨(ts_34 _ (List.mem_of_getElem? (i := 15) rfl)), (ts_34 _ (List.mem_of_getElem? (i := 17) rfl)), by decide +kernel⟩⟩
theorem vf_13_158 : ∀ e ∈ ([(11, 121)] : List (Nat × Nat)), VFe 13 158 1 e := List.forall_mem_cons.mpr ⟨vf_13_158_11, fun _ h => absurd h List.not_mem_nil⟩
theorem vf_13_162_11 : VFe 13 162 0 (11, 126) := ⟨by decide, by decide +kernel, by decide, (ts_3 _ (List.mem_of_getElem? (i := 16) rfl)), Or.inl ⟨(ts_3 _ (List.mem_of_getElem? (i := 15) rfl)), (ts_3 _ (List.mem_of_getElem? (i := 17) rfl)), by decide +kernel⟩⟩
theorem vf_13_162 : ∀ e ∈ ([(11, 126)] : List (Nat × Nat)), VFe 13 162 0 e := List.forall_mem_cons.mpr ⟨vf_13_162_11, fun _ h => absurd h List.not_mem_nil⟩
theorem vf_13_165_11 : VFe 13 165 0 (11, 122) := ⟨by decide, by decide +kernel, by decide, (ts_4 _ (List.mem_of_getElem? (i := 18) rfl)), Or.inl ⟨(ts_4 _ (List.mem_of_getElem? (i := 17) rfl)), (ts_4 _ (List.mem_of_getElem? (i := 19) rfl)), by decide +kernel⟩⟩
theorem vf_13_165 : ∀ e ∈ ([(11, 122)] : List (Nat × Nat)), VFe 13 165 0 e := List.forall_mem_cons.mpr ⟨vf_13_165_11, fun _ h => absurd h List.not_mem_nil⟩
theorem vf_13_168_11 : VFe 13 168 0 (11, 118) := ⟨by decide, by decide +kernel, by decide, (ts_5 _ (List.mem_of_getElem? (i := 12) rfl)), Or.inl ⟨(ts_5 _ (List.mem_of_getElem? (i := 11) rfl)), (ts_5 _ (List.mem_of_getElem? (i := 13) rfl)), by decide +kernel⟩⟩
theorem vf_13_168 : ∀ e ∈ ([(11, 118)] : List (Nat × Nat)), VFe 13 168 0 e := List.forall_mem_cons.mpr ⟨vf_13_168_11, fun _ h => absurd h List.not_mem_nil⟩
theorem vf_13_171_11 : VFe 13 171 1 (11, 120) := ⟨by decide, by decide +kernel, by decide, (ts_9 _ (List.mem_of_getElem? (i := 0) rfl)), Or.inl ⟨(ts_8 _ (List.mem_of_getElem? (i := 23) rfl)), (ts_9 _ (List.mem_of_getElem? (i := 1) rfl)), by decide +kernel⟩⟩
theorem vf_13_171 : ∀ e ∈ ([(11, 120)] : List (Nat × Nat)), VFe 13 171 1 e := List.forall_mem_cons.mpr ⟨vf_13_171_11, fun _ h => absurd h List.not_mem_nil⟩
theorem vf_13_182_11 : VFe 13 182 3 (11, 133) := ⟨by decide, by decide +kernel, by decide, (ts_24 _ (List.mem_of_getElem? (i := 0) rfl)), Or.inl ⟨(ts_23 _ (List.mem_of_getElem? (i := 23) rfl)), (ts_24 _ (List.mem_of_getElem? (i := 1) rfl)), by decide +kernel⟩⟩
theorem vf_13_182 : ∀ e ∈ ([(11, 133)] : List (Nat × Nat)), VFe 13 182 3 e := List.forall_mem_cons.mpr ⟨vf_13_182_11, fun _ h => absurd h List.not_mem_nil⟩
theorem vf_13_187_11 : VFe 13 187 3 (11, 134) := ⟨by decide, by decide +kernel, by decide, (ts_24 _ (List.mem_of_getElem? (i := 16) rfl)), Or.inl ⟨(ts_24 _ (List.mem_of_getElem? (i := 15) rfl)), (ts_24 _ (List.mem_of_getElem? (i := 17) rfl)), by decide +kernel⟩⟩
theorem vf_13_187 : ∀ e ∈ ([(11, 134)] : List (Nat × Nat)), VFe 13 187 3 e := List.forall_mem_cons.mpr ⟨vf_13_187_11, fun _ h => absurd h List.not_mem_nil⟩
theorem vf_13_195_11 : VFe 13 195 1 (11, 140) := ⟨by decide, by decide +kernel, by decide, (ts_34 _ (List.mem_of_getElem? (i := 20) rfl)), Or.inl ⟨(ts_34 _ (List.mem_of_getElem? (i := 19) rfl)), (ts_34 _ (List.mem_of_getElem? (i := 21) rfl)), by decide +kernel⟩⟩
theorem vf_13_195 : ∀ e ∈ ([(11, 140)] : List (Nat × Nat)), VFe 13 195 1 e := List.forall_mem_cons.mpr ⟨vf_13_195_11, fun _ h => absurd h List.not_mem_nil⟩
theorem vf_13_199_11 : VFe 13 199 2 (11, 119) := ⟨by decide, by decide +kernel, by decide, (ts_35 _ (List.mem_of_getElem? (i := 1) rfl)), Or.inl ⟨(ts_35 _ (List.mem_of_getElem? (i := 0) rfl)), (ts_35 _ (List.mem_of_getElem? (i := 2) rfl)), by decide +kernel⟩⟩
theorem vf_13_199 : ∀ e ∈ ([(11, 119)] : List (Nat × Nat)), VFe 13 199 2 e := List.forall_mem_cons.mpr ⟨vf_13_199_11, fun _ h => absurd h List.not_mem_nil⟩
theorem vf_13_202_11 : VFe 13 202 2 (11, 132) := ⟨by decide, by decide +kernel, by decide, (ts_35 _ (List.mem_of_getElem? (i := 5) rfl)), Or.inl ⟨(ts_35 _ (List.mem_of_getElem? (i := 4) rfl)), (ts_35 _ (List.mem_of_getElem? (i := 6) rfl)), by decide +kernel⟩⟩
theorem vf_13_202 : ∀ e ∈ ([(11, 132)] : List (Nat × Nat)), VFe 13 202 2 e := List.forall_mem_cons.mpr ⟨vf_13_202_11, fun _ h => absurd h List.not_mem_nil⟩
theorem vf_13_210_11 : VFe 13 210 0 (11, 123) := ⟨by decide, by decide +kernel, by decide, (ts_35 _ (List.mem_of_getElem? (i := 13) rfl)), Or.inl ⟨(ts_35 _ (List.mem_of_getElem? (i := 12) rfl)), (ts_35 _ (List.mem_of_getElem? (i := 14) rfl)), by decide +kernel⟩⟩
theorem vf_13_210 : ∀ e ∈ ([(11, 123)] : List (Nat × Nat)), VFe 13 210 0 e := List.forall_mem_cons.mpr ⟨vf_13_210_11, fun _ h => absurd h List.not_mem_nil⟩
theorem vf_14_32_1 : VFe 14 32 0 (1, 161) := ⟨by decide, by decide +kernel, by decide, (ts_13 _ (List.mem_of_getElem? (i := 21) rfl)), Or.inl ⟨(ts_13 _ (List.mem_of_getElem? (i := 20) rfl)), (ts_13 _ (List.mem_of_getElem? (i := 22) rfl)), by decide +kernel⟩⟩
theorem vf_14_32 : ∀ e ∈ ([(1, 161)] : List (Nat × Nat)), VFe 14 32 0 e := List.forall_mem_cons.mpr ⟨vf_14_32_1, fun _ h => absurd h List.not_mem_nil⟩
theorem vf_14_40_1 : VFe 14 40 0 (1, 165) := ⟨by decide, by decide +kernel, by decide, (ts_14 _ (List.mem_of_getElem? (i := 2) rfl)), Or.inl ⟨(ts_14 _ (List.mem_of_getElem? (i := 17) rfl)), (ts_14 _ (List.mem_of_getElem? (i := 3) rfl)), by decide +kernel⟩⟩
theorem vf_14_40 : ∀ e ∈ ([(1, 165)] : List (Nat × Nat)), VFe 14 40 0 e := List.forall_mem_cons.mpr ⟨vf_14_40_1, fun _ h => absurd h List.not_mem_nil⟩
theorem vf_14_83_0 : VFe 14 83 0 (0, 155) := ⟨by decide, by decide +kernel, by decide, (ts_12 _ (List.mem_of_getElem? (i := 18) rfl)), Or.inr ⟨⟨"java/lang/AbstractStringBuilder", "isLatin1", "()Z"⟩, "java/lang/AbstractStringBuilder", by decide +kernel, by decide +kernel, by decide +kernel, (ts_12 _ (List.mem_of_getElem? (i := 15) rfl)), (ts_12 _ (List.mem_of_getElem? (i := 16) rfl)), (ts_12 _ (List.mem_of_getElem? (i := 17) rfl)), Or.inl (by decide +kernel)⟩⟩
theorem vf_14_83 : ∀ e ∈ ([(0, 155)] : List (Nat × Nat)), VFe 14 83 0 e := List.forall_mem_cons.mpr ⟨vf_14_83_0, fun _ h => absurd h List.not_mem_nil⟩
theorem vf_14_100_0 : VFe 14 100 1 (0, 149) := ⟨by decide, by decide +kernel, by decide, (ts_11 _ (List.mem_of_getElem? (i := 10) rfl)), Or.inr ⟨⟨"java/lang/AbstractStringBuilder", "ensureCapacityInternal", "(I)V"⟩, "java/lang/AbstractStringBuilder", by decide +kernel, by decide +kernel, by decide +kernel, (ts_11 _ (List.mem_of_getElem? (i := 7) rfl)), (ts_11 _ (List.mem_of_getElem? (i := 8) rfl)), (ts_11 _ (List.mem_of_getElem? (i := 9) rfl)), Or.inl (by decide +kernel)⟩⟩
theorem vf_14_100 : ∀ e ∈ ([(0, 149)] : List (Nat × Nat)), VFe 14 100 1 e := List.forall_mem_cons.mpr ⟨vf_14_100_0, fun _ h => absurd h List.not_mem_nil⟩
theorem vf_14_104_0 : VFe 14 104 1 (0, 150) := ⟨by decide, by decide +kernel, by decide, (ts_11 _ (List.mem_of_getElem? (i := 15) rfl)), Or.inr ⟨⟨"java/lang/AbstractStringBuilder", "newCapacity", "(I)I"⟩, "java/lang/AbstractStringBuilder", by decide +kernel, by decide +kernel, by decide +kernel, (ts_11 _ (List.mem_of_getElem? (i := 12) rfl)), (ts_11 _ (List.mem_of_getElem? (i := 13) rfl)), (ts_11 _ (List.mem_of_getElem? (i := 14) rfl)), Or.inl (by decide +kernel)⟩⟩
theorem vf_14_104 : ∀ e ∈ ([(0, 150)] : List (Nat × Nat)), VFe 14 104 1 e := List.forall_mem_cons.mpr ⟨vf_14_104_0, fun _ h => absurd h List.not_mem_nil⟩
theorem vf_14_208_0 : VFe 14 208 2 (0, 157) := ⟨by decide, by decide +kernel, by decide, (ts_14 _ (List.mem_of_getElem? (i := 10) rfl)), Or.inr ⟨⟨"java/lang/AbstractStringBuilder", "putStringAt", "(ILjava/lang/String;)V"⟩, "java/lang/AbstractStringBuilder", by decide +kernel, by decide +kernel, by decide +kernel, (ts_14 _ (List.mem_of_getElem? (i := 7) rfl)), (ts_14 _ (List.mem_of_getElem? (i := 8) rfl)), (ts_14 _ (List.mem_of_getElem? (i := 9) rfl)), Or.inl (by decide +kernel)⟩⟩
theorem vf_14_208 : ∀ e ∈ ([(0, 157)] : List (Nat × Nat)), VFe 14 208 2 e := List.forall_mem_cons.mpr ⟨vf_14_208_0, fun _ h => absurd h List.not_mem_nil⟩
theorem vf_14_397_0 : VFe 14 397 1 (0, 156) := ⟨by decide, by decide +kernel, by decide, (ts_14 _ (List.mem_of_getElem? (i := 15) rfl)), Or.inr ⟨⟨"java/lang/AbstractStringBuilder", "inflateIfNeededFor", "(Ljava/lang/String;)V"⟩, "java/lang/AbstractStringBuilder", by decide +kernel, by decide +kernel, by decide +kernel, (ts_14 _ (List.mem_of_getElem? (i := 12) rfl)), (ts_14 _ (List.mem_of_getElem? (i := 13) rfl)), (ts_14 _ (List.mem_of_getElem? (i := 14) rfl)), Or.inl (by decide +kernel)⟩⟩
theorem vf_14_397 : ∀ e ∈ ([(0, 156)] : List (Nat × Nat)), VFe 14 397 1 e := List.forall_mem_cons.mpr ⟨vf_14_397_0, fun _ h => absurd h List.not_mem_nil⟩
theorem vf_14_399_1 : VFe 14 399 3 (1, 163) := ⟨by decide, by decide +kernel, by decide, (ts_15 _ (List.mem_of_getElem? (i := 16) rfl)), Or.inl ⟨(ts_15 _ (List.mem_of_getElem? (i := 15) rfl)), (ts_15 _ (List.mem_of_getElem? (i := 17) rfl)), by decide +kernel⟩⟩
theorem vf_14_399 : ∀ e ∈ ([(1, 163)] : List (Nat × Nat)), VFe 14 399 3 e := List.forall_mem_cons.mpr ⟨vf_14_399_1, fun _ h => absurd h List.not_mem_nil⟩
theorem vf_ok {c i n ci y : Nat} (hn : vN c i = some n) (h : vT c i ci = some y) : VFe c i n ((if ci = 20 then 1 else ci), y) := by
  unfold vT at h
  have h1 := lookup_mem h
  unfold vL at h1
  unfold vN at hn
  split at h1
  · have h2 := lookup_mem hn
    simp only [List.mem_cons, Prod.mk.injEq, List.not_mem_nil, or_false] at h2
    rcases h2 with ⟨rfl, rfl⟩ | ⟨rfl, rfl⟩ | ⟨rfl, rfl⟩ | ⟨rfl, rfl⟩ | ⟨rfl, rfl⟩
    · exact vf_1_335 _ h1
    · exact vf_1_492 _ h1
    · exact vf_1_549 _ h1
    · exact vf_1_552 _ h1
    · exact vf_1_1047 _ h1
  · have h2 := lookup_mem hn
    simp only [List.mem_cons, Prod.mk.injEq, List.not_mem_nil, or_false] at h2
    rcases h2 with ⟨rfl, rfl⟩ | ⟨rfl, rfl⟩ | ⟨rfl, rfl⟩ | ⟨rfl, rfl⟩ | ⟨rfl, rfl⟩ | ⟨rfl, rfl⟩ | ⟨rfl, rfl⟩ | ⟨rfl, rfl⟩ | ⟨rfl, rfl⟩
    · exact vf_3_43 _ h1
    · exact vf_3_47 _ h1
    · exact vf_3_51 _ h1
    · exact vf_3_55 _ h1
    · exact vf_3_58 _ h1
    · exact vf_3_65 _ h1
    · exact vf_3_68 _ h1
    · exact vf_3_81 _ h1
    · exact vf_3_85 _ h1
  · have h2 := lookup_mem hn
    simp only [List.mem_cons, Prod.mk.injEq, List.not_mem_nil, or_false] at h2
    rcases h2 with ⟨rfl, rfl⟩ | ⟨rfl, rfl⟩ | ⟨rfl, rfl⟩ | ⟨rfl, rfl⟩ | ⟨rfl, rfl⟩ | ⟨rfl, rfl⟩ | ⟨rfl, rfl⟩ | ⟨rfl, rfl⟩ | ⟨rfl, rfl⟩ | ⟨rfl, rfl⟩
    · exact vf_4_47 _ h1
    · exact vf_4_51 _ h1
    · exact vf_4_57 _ h1
    · exact vf_4_67 _ h1
    · exact vf_4_81 _ h1
    · exact vf_4_85 _ h1
    · exact vf_4_91 _ h1
    · exact vf_4_101 _ h1
    · exact vf_4_113 _ h1
    · exact vf_4_116 _ h1
  · have h2 := lookup_mem hn
    simp only [List.mem_cons, Prod.mk.injEq, List.not_mem_nil, or_false] at h2
    rcases h2 with ⟨rfl, rfl⟩
    · exact vf_9_32 _ h1
  · have h2 := lookup_mem hn
    simp only [List.mem_cons, Prod.mk.injEq, List.not_mem_nil, or_false] at h2
    rcases h2 with ⟨rfl, rfl⟩ | ⟨rfl, rfl⟩ | ⟨rfl, rfl⟩ | ⟨rfl, rfl⟩ | ⟨rfl, rfl⟩ | ⟨rfl, rfl⟩ | ⟨rfl, rfl⟩ | ⟨rfl, rfl⟩ | ⟨rfl, rfl⟩ | ⟨rfl, rfl⟩ | ⟨rfl, rfl⟩ | ⟨rfl, rfl⟩ | ⟨rfl, rfl⟩ | ⟨rfl, rfl⟩ | ⟨rfl, rfl⟩ | ⟨rfl, rfl⟩ | ⟨rfl, rfl⟩ | ⟨rfl, rfl⟩ | ⟨rfl, rfl⟩ | ⟨rfl, rfl⟩ | ⟨rfl, rfl⟩ | ⟨rfl, rfl⟩ | ⟨rfl, rfl⟩ | ⟨rfl, rfl⟩ | ⟨rfl, rfl⟩ | ⟨rfl, rfl⟩ | ⟨rfl, rfl⟩ | ⟨rfl, rfl⟩ | ⟨rfl, rfl⟩ | ⟨rfl, rfl⟩ | ⟨rfl, rfl⟩ | ⟨rfl, rfl⟩ | ⟨rfl, rfl⟩ | ⟨rfl, rfl⟩ | ⟨rfl, rfl⟩ | ⟨rfl, rfl⟩ | ⟨rfl, rfl⟩ | ⟨rfl, rfl⟩ | ⟨rfl, rfl⟩ | ⟨rfl, rfl⟩ | ⟨rfl, rfl⟩ | ⟨rfl, rfl⟩ | ⟨rfl, rfl⟩ | ⟨rfl, rfl⟩ | ⟨rfl, rfl⟩ | ⟨rfl, rfl⟩ | ⟨rfl, rfl⟩ | ⟨rfl, rfl⟩ | ⟨rfl, rfl⟩ | ⟨rfl, rfl⟩ | ⟨rfl, rfl⟩ | ⟨rfl, rfl⟩ | ⟨rfl, rfl⟩
    · exact vf_11_63 _ h1
    · exact vf_11_67 _ h1
    · exact vf_11_71 _ h1
    · exact vf_11_83 _ h1
    · exact vf_11_87 _ h1
    · exact vf_11_90 _ h1
    · exact vf_11_97 _ h1
    · exact vf_11_101 _ h1
    · exact vf_11_105 _ h1
    · exact vf_11_109 _ h1
    · exact vf_11_113 _ h1
    · exact vf_11_117 _ h1
    · exact vf_11_124 _ h1
    · exact vf_11_128 _ h1
    · exact vf_11_131 _ h1
    · exact vf_11_135 _ h1
    · exact vf_11_151 _ h1
    · exact vf_11_155 _ h1
    · exact vf_11_159 _ h1
    · exact vf_11_163 _ h1
    · exact vf_11_166 _ h1
    · exact vf_11_169 _ h1
    · exact vf_11_172 _ h1
    · exact vf_11_175 _ h1
    · exact vf_11_178 _ h1
    · exact vf_11_181 _ h1
    · exact vf_11_184 _ h1
    · exact vf_11_190 _ h1
    · exact vf_11_193 _ h1
    · exact vf_11_196 _ h1
    · exact vf_11_208 _ h1
    · exact vf_11_217 _ h1
    · exact vf_11_220 _ h1
    · exact vf_11_223 _ h1
    · exact vf_11_226 _ h1
    · exact vf_11_237 _ h1
    · exact vf_11_240 _ h1
    · exact vf_11_250 _ h1
    · exact vf_11_262 _ h1
    · exact vf_11_265 _ h1
    · exact vf_11_268 _ h1
    · exact vf_11_271 _ h1
    · exact vf_11_280 _ h1
    · exact vf_11_284 _ h1
    · exact vf_11_288 _ h1
    · exact vf_11_295 _ h1
    · exact vf_11_302 _ h1
    · exact vf_11_308 _ h1
    · exact vf_11_363 _ h1
    · exact vf_11_367 _ h1
    · exact vf_11_370 _ h1
    · exact vf_11_373 _ h1
    · exact vf_11_380 _ h1
  · have h2 := lookup_mem hn
    simp only [List.mem_cons, Prod.mk.injEq, List.not_mem_nil, or_false] at h2
    rcases h2 with ⟨rfl, rfl⟩ | ⟨rfl, rfl⟩ | ⟨rfl, rfl⟩ | ⟨rfl, rfl⟩ | ⟨rfl, rfl⟩ | ⟨rfl, rfl⟩ | ⟨rfl, rfl⟩ | ⟨rfl, rfl⟩ | ⟨rfl, rfl⟩ | ⟨rfl, rfl⟩ | ⟨rfl, rfl⟩ | ⟨rfl, rfl⟩ | ⟨rfl, rfl⟩ | ⟨rfl, rfl⟩ | ⟨rfl, rfl⟩ | ⟨rfl, rfl⟩ | ⟨rfl, rfl⟩ | ⟨rfl, rfl⟩ | ⟨rfl, rfl⟩ | ⟨rfl, rfl⟩ | ⟨rfl, rfl⟩ | ⟨rfl, rfl⟩ | ⟨rfl, rfl⟩ | ⟨rfl, rfl⟩ | ⟨rfl, rfl⟩ | ⟨rfl, rfl⟩ | ⟨rfl, rfl⟩ | ⟨rfl, rfl⟩ | ⟨rfl, rfl⟩ | ⟨rfl, rfl⟩ | ⟨rfl, rfl⟩ | ⟨rfl, rfl⟩ | ⟨rfl, rfl⟩ | ⟨rfl, rfl⟩ | ⟨rfl, rfl⟩ | ⟨rfl, rfl⟩ | ⟨rfl, rfl⟩ | ⟨rfl, rfl⟩ | ⟨rfl, rfl⟩
    · exact vf_13_18 _ h1
    · exact vf_13_24 _ h1
    · exact vf_13_30 _ h1
    · exact vf_13_33 _ h1
    · exact vf_13_37 _ h1
    · exact vf_13_78 _ h1
    · exact vf_13_84 _ h1
    · exact vf_13_90 _ h1
    · exact vf_13_94 _ h1
    · exact vf_13_97 _ h1
    · exact vf_13_100 _ h1
    · exact vf_13_107 _ h1
    · exact vf_13_110 _ h1
    · exact vf_13_113 _ h1
    · exact vf_13_116 _ h1
    · exact vf_13_119 _ h1
    · exact vf_13_122 _ h1
    · exact vf_13_125 _ h1
    · exact vf_13_128 _ h1
    · exact vf_13_131 _ h1
    · exact vf_13_134 _ h1
    · exact vf_13_137 _ h1
    · exact vf_13_140 _ h1
    · exact vf_13_143 _ h1
    · exact vf_13_146 _ h1
    · exact vf_13_149 _ h1
    · exact vf_13_152 _ h1
    · exact vf_13_155 _ h1
    · exact vf_13_158 _ h1
    · exact vf_13_162 _ h1
    · exact vf_13_165 _ h1
    · exact vf_13_168 _ h1
    · exact vf_13_171 _ h1
    · exact vf_13_182 _ h1
    · exact vf_13_187 _ h1
    · exact vf_13_195 _ h1
    · exact vf_13_199 _ h1
    · exact vf_13_202 _ h1
    · exact vf_13_210 _ h1
  · have h2 := lookup_mem hn
    simp only [List.mem_cons, Prod.mk.injEq, List.not_mem_nil, or_false] at h2
    rcases h2 with ⟨rfl, rfl⟩ | ⟨rfl, rfl⟩ | ⟨rfl, rfl⟩ | ⟨rfl, rfl⟩ | ⟨rfl, rfl⟩ | ⟨rfl, rfl⟩ | ⟨rfl, rfl⟩ | ⟨rfl, rfl⟩
    · exact vf_14_32 _ h1
    · exact vf_14_40 _ h1
    · exact vf_14_83 _ h1
    · exact vf_14_100 _ h1
    · exact vf_14_104 _ h1
    · exact vf_14_208 _ h1
    · exact vf_14_397 _ h1
    · exact vf_14_399 _ h1
  · cases h1
