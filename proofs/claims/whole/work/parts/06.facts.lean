/-! facts behind the tables, by program (wip/whole/gen_facts.py) -/
def wsE : List Cond := [Cond.methodLink RX0 13 ⟨"FrogBreath$Mill", "telling", "(I)I"⟩, Cond.sameMethod "FrogBreath$Mill" RX8 "telling" "(I)I", Cond.methodLink RX5 13 ⟨"FrogBreath$Ditch", "keeping", "(I)I"⟩, Cond.sameMethod "FrogBreath$Ditch" RX8 "keeping" "(I)I", Cond.methodLink RX7 13 ⟨"FrogBreath$Muslin", "keeping", "(I)I"⟩, Cond.sameMethod "FrogBreath$Muslin" RX8 "keeping" "(I)I", Cond.methodLink RX10 13 ⟨"FrogBreath$Prince", "singing", "(I)I"⟩, Cond.sameMethod "FrogBreath$Prince" RX8 "singing" "(I)I", Cond.methodLink RX10 20 ⟨"FrogBreath$Prince", "telling", "(I)I"⟩, Cond.sameMethod "FrogBreath$Prince" RX8 "telling" "(I)I", Cond.superclass RX0 RX5, Cond.superclass RX1 RX8, Cond.superclass RX2 RX8, Cond.superclass RX5 RX1, Cond.superclass RX6 RX8, Cond.superclass RX7 RX6, Cond.superclass RX10 RX7]
set_option maxRecDepth 20000 in
theorem wg_E : GoodIn lw_tbl wsE := goodIn_p _ [] (by decide +kernel) (by decide +kernel)
def TS : List Cond := wsE ++ wsL_law
theorem ts_1 : ∀ w ∈ wsL_law_r1, w ∈ TS := fun w h => List.mem_append_right _ (wl_1 w h)
theorem ts_2 : ∀ w ∈ wsL_law_r2, w ∈ TS := fun w h => List.mem_append_right _ (wl_2 w h)
theorem ts_3 : ∀ w ∈ wsL_law_r3, w ∈ TS := fun w h => List.mem_append_right _ (wl_3 w h)
theorem ts_4 : ∀ w ∈ wsL_law_r4, w ∈ TS := fun w h => List.mem_append_right _ (wl_4 w h)
theorem ts_5 : ∀ w ∈ wsL_law_r5, w ∈ TS := fun w h => List.mem_append_right _ (wl_5 w h)
theorem ts_6 : ∀ w ∈ wsL_law_r6, w ∈ TS := fun w h => List.mem_append_right _ (wl_6 w h)
theorem ts_7 : ∀ w ∈ wsL_law_r7, w ∈ TS := fun w h => List.mem_append_right _ (wl_7 w h)
theorem ts_8 : ∀ w ∈ wsL_law_r8, w ∈ TS := fun w h => List.mem_append_right _ (wl_8 w h)
theorem ts_9 : ∀ w ∈ wsL_law_r9, w ∈ TS := fun w h => List.mem_append_right _ (wl_9 w h)
theorem ts_10 : ∀ w ∈ wsL_law_r10, w ∈ TS := fun w h => List.mem_append_right _ (wl_10 w h)
theorem ts_11 : ∀ w ∈ wsL_law_r11, w ∈ TS := fun w h => List.mem_append_right _ (wl_11 w h)
theorem ts_12 : ∀ w ∈ wsL_law_r12, w ∈ TS := fun w h => List.mem_append_right _ (wl_12 w h)
theorem ts_13 : ∀ w ∈ wsL_law_r13, w ∈ TS := fun w h => List.mem_append_right _ (wl_13 w h)
theorem ts_14 : ∀ w ∈ wsL_law_r14, w ∈ TS := fun w h => List.mem_append_right _ (wl_14 w h)
theorem ts_15 : ∀ w ∈ wsL_law_r15, w ∈ TS := fun w h => List.mem_append_right _ (wl_15 w h)
theorem ts_16 : ∀ w ∈ wsL_law_r16, w ∈ TS := fun w h => List.mem_append_right _ (wl_16 w h)
theorem ts_17 : ∀ w ∈ wsL_law_r17, w ∈ TS := fun w h => List.mem_append_right _ (wl_17 w h)
theorem ts_18 : ∀ w ∈ wsL_law_r18, w ∈ TS := fun w h => List.mem_append_right _ (wl_18 w h)
theorem ts_19 : ∀ w ∈ wsL_law_r19, w ∈ TS := fun w h => List.mem_append_right _ (wl_19 w h)
theorem ts_20 : ∀ w ∈ wsL_law_r20, w ∈ TS := fun w h => List.mem_append_right _ (wl_20 w h)
theorem ts_21 : ∀ w ∈ wsL_law_r21, w ∈ TS := fun w h => List.mem_append_right _ (wl_21 w h)
theorem ts_22 : ∀ w ∈ wsL_law_r22, w ∈ TS := fun w h => List.mem_append_right _ (wl_22 w h)
theorem ts_23 : ∀ w ∈ wsL_law_r23, w ∈ TS := fun w h => List.mem_append_right _ (wl_23 w h)
theorem ts_24 : ∀ w ∈ wsL_law_r24, w ∈ TS := fun w h => List.mem_append_right _ (wl_24 w h)
theorem ts_25 : ∀ w ∈ wsL_law_r25, w ∈ TS := fun w h => List.mem_append_right _ (wl_25 w h)
theorem ts_26 : ∀ w ∈ wsL_law_r26, w ∈ TS := fun w h => List.mem_append_right _ (wl_26 w h)
theorem ts_27 : ∀ w ∈ wsL_law_r27, w ∈ TS := fun w h => List.mem_append_right _ (wl_27 w h)
theorem ts_28 : ∀ w ∈ wsL_law_r28, w ∈ TS := fun w h => List.mem_append_right _ (wl_28 w h)
theorem ts_29 : ∀ w ∈ wsL_law_r29, w ∈ TS := fun w h => List.mem_append_right _ (wl_29 w h)
theorem ts_30 : ∀ w ∈ wsL_law_r30, w ∈ TS := fun w h => List.mem_append_right _ (wl_30 w h)
theorem ts_31 : ∀ w ∈ wsL_law_r31, w ∈ TS := fun w h => List.mem_append_right _ (wl_31 w h)
theorem ts_32 : ∀ w ∈ wsL_law_r32, w ∈ TS := fun w h => List.mem_append_right _ (wl_32 w h)
theorem ts_33 : ∀ w ∈ wsL_law_r33, w ∈ TS := fun w h => List.mem_append_right _ (wl_33 w h)
theorem ts_34 : ∀ w ∈ wsL_law_r34, w ∈ TS := fun w h => List.mem_append_right _ (wl_34 w h)
theorem ts_35 : ∀ w ∈ wsL_law_r35, w ∈ TS := fun w h => List.mem_append_right _ (wl_35 w h)
theorem ts_36 : ∀ w ∈ wsL_law_r36, w ∈ TS := fun w h => List.mem_append_right _ (wl_36 w h)
theorem ts_37 : ∀ w ∈ wsL_law_r37, w ∈ TS := fun w h => List.mem_append_right _ (wl_37 w h)
theorem ts_38 : ∀ w ∈ wsL_law_r38, w ∈ TS := fun w h => List.mem_append_right _ (wl_38 w h)
theorem ts_39 : ∀ w ∈ wsL_law_r39, w ∈ TS := fun w h => List.mem_append_right _ (wl_39 w h)
theorem ts_40 : ∀ w ∈ wsL_law_r40, w ∈ TS := fun w h => List.mem_append_right _ (wl_40 w h)
theorem ts_41 : ∀ w ∈ wsL_law_r41, w ∈ TS := fun w h => List.mem_append_right _ (wl_41 w h)
theorem ts_42 : ∀ w ∈ wsL_law_r42, w ∈ TS := fun w h => List.mem_append_right _ (wl_42 w h)
theorem ts_43 : ∀ w ∈ wsL_law_r43, w ∈ TS := fun w h => List.mem_append_right _ (wl_43 w h)
theorem ts_44 : ∀ w ∈ wsL_law_r44, w ∈ TS := fun w h => List.mem_append_right _ (wl_44 w h)
theorem ts_45 : ∀ w ∈ wsL_law_r45, w ∈ TS := fun w h => List.mem_append_right _ (wl_45 w h)
theorem ts_46 : ∀ w ∈ wsL_law_r46, w ∈ TS := fun w h => List.mem_append_right _ (wl_46 w h)
theorem ts_47 : ∀ w ∈ wsL_law_r47, w ∈ TS := fun w h => List.mem_append_right _ (wl_47 w h)
theorem ts_48 : ∀ w ∈ wsL_law_r48, w ∈ TS := fun w h => List.mem_append_right _ (wl_48 w h)
theorem ts_49 : ∀ w ∈ wsL_law_r49, w ∈ TS := fun w h => List.mem_append_right _ (wl_49 w h)
theorem ts_50 : ∀ w ∈ wsL_law_r50, w ∈ TS := fun w h => List.mem_append_right _ (wl_50 w h)
theorem ts_51 : ∀ w ∈ wsL_law_r51, w ∈ TS := fun w h => List.mem_append_right _ (wl_51 w h)
theorem ts_52 : ∀ w ∈ wsL_law_r52, w ∈ TS := fun w h => List.mem_append_right _ (wl_52 w h)
theorem ts_53 : ∀ w ∈ wsL_law_r53, w ∈ TS := fun w h => List.mem_append_right _ (wl_53 w h)
theorem ts_E : ∀ w ∈ wsE, w ∈ TS := fun w h => List.mem_append_left _ h
theorem ts_wsX110 : ∀ w ∈ wsX110, w ∈ TS := fun w h => List.mem_append_right _ (List.mem_append_left _ (List.mem_append_left _ (List.mem_append_left _ (List.mem_append_left _ (List.mem_append_left _ (List.mem_append_left _ (List.mem_append_left _ (List.mem_append_left _ (List.mem_append_left _ (List.mem_append_left _ (List.mem_append_left _ (List.mem_append_left _ (List.mem_append_left _ (List.mem_append_right _ h))))))))))))))
theorem ts_wsX120 : ∀ w ∈ wsX120, w ∈ TS := fun w h => List.mem_append_right _ (List.mem_append_left _ (List.mem_append_left _ (List.mem_append_left _ (List.mem_append_left _ (List.mem_append_left _ (List.mem_append_left _ (List.mem_append_left _ (List.mem_append_left _ (List.mem_append_left _ (List.mem_append_left _ (List.mem_append_left _ (List.mem_append_left _ (List.mem_append_right _ h)))))))))))))
theorem ts_wsX40 : ∀ w ∈ wsX40, w ∈ TS := fun w h => List.mem_append_right _ (List.mem_append_left _ (List.mem_append_left _ (List.mem_append_left _ (List.mem_append_left _ (List.mem_append_left _ (List.mem_append_left _ (List.mem_append_left _ (List.mem_append_left _ (List.mem_append_left _ (List.mem_append_left _ (List.mem_append_left _ (List.mem_append_right _ h))))))))))))
theorem ts_wsX30 : ∀ w ∈ wsX30, w ∈ TS := fun w h => List.mem_append_right _ (List.mem_append_left _ (List.mem_append_left _ (List.mem_append_left _ (List.mem_append_left _ (List.mem_append_left _ (List.mem_append_left _ (List.mem_append_left _ (List.mem_append_left _ (List.mem_append_left _ (List.mem_append_left _ (List.mem_append_right _ h)))))))))))
theorem ts_wsX90 : ∀ w ∈ wsX90, w ∈ TS := fun w h => List.mem_append_right _ (List.mem_append_left _ (List.mem_append_left _ (List.mem_append_left _ (List.mem_append_left _ (List.mem_append_left _ (List.mem_append_left _ (List.mem_append_left _ (List.mem_append_left _ (List.mem_append_left _ (List.mem_append_right _ h))))))))))
theorem ts_wsX60 : ∀ w ∈ wsX60, w ∈ TS := fun w h => List.mem_append_right _ (List.mem_append_left _ (List.mem_append_left _ (List.mem_append_left _ (List.mem_append_left _ (List.mem_append_left _ (List.mem_append_left _ (List.mem_append_left _ (List.mem_append_left _ (List.mem_append_right _ h)))))))))
theorem ts_wsX10 : ∀ w ∈ wsX10, w ∈ TS := fun w h => List.mem_append_right _ (List.mem_append_left _ (List.mem_append_left _ (List.mem_append_left _ (List.mem_append_left _ (List.mem_append_left _ (List.mem_append_left _ (List.mem_append_left _ (List.mem_append_right _ h))))))))
theorem ts_wsX50 : ∀ w ∈ wsX50, w ∈ TS := fun w h => List.mem_append_right _ (List.mem_append_left _ (List.mem_append_left _ (List.mem_append_left _ (List.mem_append_left _ (List.mem_append_left _ (List.mem_append_left _ (List.mem_append_right _ h)))))))
theorem ts_wsX70 : ∀ w ∈ wsX70, w ∈ TS := fun w h => List.mem_append_right _ (List.mem_append_left _ (List.mem_append_left _ (List.mem_append_left _ (List.mem_append_left _ (List.mem_append_left _ (List.mem_append_right _ h))))))
theorem ts_wsX00 : ∀ w ∈ wsX00, w ∈ TS := fun w h => List.mem_append_right _ (List.mem_append_left _ (List.mem_append_left _ (List.mem_append_left _ (List.mem_append_left _ (List.mem_append_right _ h)))))
theorem ts_wsX20 : ∀ w ∈ wsX20, w ∈ TS := fun w h => List.mem_append_right _ (List.mem_append_left _ (List.mem_append_left _ (List.mem_append_left _ (List.mem_append_right _ h))))
theorem ts_wsX100 : ∀ w ∈ wsX100, w ∈ TS := fun w h => List.mem_append_right _ (List.mem_append_left _ (List.mem_append_left _ (List.mem_append_right _ h)))
theorem ts_wsX80 : ∀ w ∈ wsX80, w ∈ TS := fun w h => List.mem_append_right _ (List.mem_append_left _ (List.mem_append_right _ h))
theorem ts_in : GoodIn lw_tbl TS := goodIn_app wg_E (goodIn_app (goodIn_app (goodIn_app (goodIn_app (goodIn_app (goodIn_app (goodIn_app (goodIn_app (goodIn_app (goodIn_app (goodIn_app (goodIn_app (goodIn_app (goodIn_app (goodIn_app wg_1 (goodIn_app wg_2 (goodIn_app wg_3 (goodIn_app wg_4 (goodIn_app wg_5 (goodIn_app wg_6 (goodIn_app wg_7 (goodIn_app wg_8 (goodIn_app wg_9 (goodIn_app wg_10 (goodIn_app wg_11 (goodIn_app wg_12 (goodIn_app wg_13 (goodIn_app wg_14 (goodIn_app wg_15 (goodIn_app wg_16 (goodIn_app wg_17 (goodIn_app wg_18 (goodIn_app wg_19 (goodIn_app wg_20 (goodIn_app wg_21 (goodIn_app wg_22 (goodIn_app wg_23 (goodIn_app wg_24 (goodIn_app wg_25 (goodIn_app wg_26 (goodIn_app wg_27 (goodIn_app wg_28 (goodIn_app wg_29 (goodIn_app wg_30 (goodIn_app wg_31 (goodIn_app wg_32 (goodIn_app wg_33 (goodIn_app wg_34 (goodIn_app wg_35 (goodIn_app wg_36 (goodIn_app wg_37 (goodIn_app wg_38 (goodIn_app wg_39 (goodIn_app wg_40 (goodIn_app wg_41 (goodIn_app wg_42 (goodIn_app wg_43 (goodIn_app wg_44 (goodIn_app wg_45 (goodIn_app wg_46 (goodIn_app wg_47 (goodIn_app wg_48 (goodIn_app wg_49 (goodIn_app wg_50 (goodIn_app wg_51 (goodIn_app wg_52 (wg_53))))))))))))))))))))))))))))))))))))))))))))))))))))) wg_wsX110) wg_wsX120) wg_wsX40) wg_wsX30) wg_wsX90) wg_wsX60) wg_wsX10) wg_wsX50) wg_wsX70) wg_wsX00) wg_wsX20) wg_wsX100) wg_wsX80) (fun w h => absurd h List.not_mem_nil))
theorem ts_self {ws : List Cond} (h : ∀ w ∈ ws, w ∈ TS) : GoodIn TS ws := fun w hw => ⟨h w hw, (ts_in w (h w hw)).2⟩
def MFr (t : MethodName × ByteArray × Nat × Option FieldType × Nat) : Prop := Cond.code t.1 t.2.1 t.2.2.1 t.2.2.2.1 ∈ TS ∧ Cond.initialized t.1.cls ∈ TS ∧ plainName t.1.cls = true ∧ t.2.2.1 ≤ 21 ∧ cStr t.2.2.2.2 = t.1.cls ∧ t.1.cls ≠ "java/lang/invoke/MethodHandle" ∧ t.1.cls ≠ "java/lang/invoke/VarHandle"
theorem mf_1 : MFr (yX0_init, cX0_init, 4, none, 0) := ⟨(ts_40 _ (List.mem_of_getElem? (i := 22) rfl)), (ts_39 _ (List.mem_of_getElem? (i := 13) rfl)), by decide +kernel, by decide +kernel, by decide +kernel, by decide +kernel, by decide +kernel⟩
theorem mf_2 : MFr (yX0_telling, cX0_telling, 2, (some .int), 0) := ⟨(ts_46 _ (List.mem_of_getElem? (i := 14) rfl)), (ts_39 _ (List.mem_of_getElem? (i := 13) rfl)), by decide +kernel, by decide +kernel, by decide +kernel, by decide +kernel, by decide +kernel⟩
theorem mf_3 : MFr (yX1_init, cX1_init, 4, none, 1) := ⟨(ts_40 _ (List.mem_of_getElem? (i := 10) rfl)), (ts_39 _ (List.mem_of_getElem? (i := 4) rfl)), by decide +kernel, by decide +kernel, by decide +kernel, by decide +kernel, by decide +kernel⟩
theorem mf_4 : MFr (yX1_singing, cX1_singing, 2, (some .int), 1) := ⟨(ts_44 _ (List.mem_of_getElem? (i := 3) rfl)), (ts_39 _ (List.mem_of_getElem? (i := 4) rfl)), by decide +kernel, by decide +kernel, by decide +kernel, by decide +kernel, by decide +kernel⟩
theorem mf_5 : MFr (yX2_init, cX2_init, 4, none, 2) := ⟨(ts_41 _ (List.mem_of_getElem? (i := 2) rfl)), (ts_39 _ (List.mem_of_getElem? (i := 16) rfl)), by decide +kernel, by decide +kernel, by decide +kernel, by decide +kernel, by decide +kernel⟩
theorem mf_6 : MFr (yX2_lending, cX2_lending, 2, (some .int), 2) := ⟨(ts_42 _ (List.mem_of_getElem? (i := 16) rfl)), (ts_39 _ (List.mem_of_getElem? (i := 16) rfl)), by decide +kernel, by decide +kernel, by decide +kernel, by decide +kernel, by decide +kernel⟩
theorem mf_7 : MFr (yX3_init, cX3_init, 1, none, 3) := ⟨(ts_3 _ (List.mem_of_getElem? (i := 1) rfl)), (ts_1 _ (List.mem_of_getElem? (i := 21) rfl)), by decide +kernel, by decide +kernel, by decide +kernel, by decide +kernel, by decide +kernel⟩
theorem mf_8 : MFr (yX3_isTold, cX3_isTold, 1, (some .boolean), 3) := ⟨(ts_17 _ (List.mem_of_getElem? (i := 21) rfl)), (ts_1 _ (List.mem_of_getElem? (i := 21) rfl)), by decide +kernel, by decide +kernel, by decide +kernel, by decide +kernel, by decide +kernel⟩
theorem mf_9 : MFr (yX3_read, cX3_read, 5, (some .int), 3) := ⟨(ts_12 _ (List.mem_of_getElem? (i := 19) rfl)), (ts_1 _ (List.mem_of_getElem? (i := 21) rfl)), by decide +kernel, by decide +kernel, by decide +kernel, by decide +kernel, by decide +kernel⟩
theorem mf_10 : MFr (yX3_line, cX3_line, 3, (some .boolean), 3) := ⟨(ts_13 _ (List.mem_of_getElem? (i := 7) rfl)), (ts_1 _ (List.mem_of_getElem? (i := 21) rfl)), by decide +kernel, by decide +kernel, by decide +kernel, by decide +kernel, by decide +kernel⟩
theorem mf_11 : MFr (yX3_joined, cX3_joined, 7, (some .boolean), 3) := ⟨(ts_13 _ (List.mem_of_getElem? (i := 11) rfl)), (ts_1 _ (List.mem_of_getElem? (i := 21) rfl)), by decide +kernel, by decide +kernel, by decide +kernel, by decide +kernel, by decide +kernel⟩
theorem mf_12 : MFr (yX3_levelOf, cX3_levelOf, 1, (some .int), 3) := ⟨(ts_13 _ (List.mem_of_getElem? (i := 17) rfl)), (ts_1 _ (List.mem_of_getElem? (i := 21) rfl)), by decide +kernel, by decide +kernel, by decide +kernel, by decide +kernel, by decide +kernel⟩
theorem mf_13 : MFr (yX3_operand, cX3_operand, 2, (some .boolean), 3) := ⟨(ts_13 _ (List.mem_of_getElem? (i := 22) rfl)), (ts_1 _ (List.mem_of_getElem? (i := 21) rfl)), by decide +kernel, by decide +kernel, by decide +kernel, by decide +kernel, by decide +kernel⟩
theorem mf_14 : MFr (yX3_number, cX3_number, 3, (some .boolean), 3) := ⟨(ts_14 _ (List.mem_of_getElem? (i := 6) rfl)), (ts_1 _ (List.mem_of_getElem? (i := 21) rfl)), by decide +kernel, by decide +kernel, by decide +kernel, by decide +kernel, by decide +kernel⟩
theorem mf_15 : MFr (yX3_isDigit, cX3_isDigit, 1, (some .boolean), 3) := ⟨(ts_14 _ (List.mem_of_getElem? (i := 2) rfl)), (ts_1 _ (List.mem_of_getElem? (i := 21) rfl)), by decide +kernel, by decide +kernel, by decide +kernel, by decide +kernel, by decide +kernel⟩
theorem mf_16 : MFr (yX3_nameOf, cX3_nameOf, 1, (some .int), 3) := ⟨(ts_14 _ (List.mem_of_getElem? (i := 9) rfl)), (ts_1 _ (List.mem_of_getElem? (i := 21) rfl)), by decide +kernel, by decide +kernel, by decide +kernel, by decide +kernel, by decide +kernel⟩
theorem mf_17 : MFr (yX3_takes, cX3_takes, 2, (some .boolean), 3) := ⟨(ts_14 _ (List.mem_of_getElem? (i := 13) rfl)), (ts_1 _ (List.mem_of_getElem? (i := 21) rfl)), by decide +kernel, by decide +kernel, by decide +kernel, by decide +kernel, by decide +kernel⟩
theorem mf_18 : MFr (yX3_add, cX3_add, 3, (some .boolean), 3) := ⟨(ts_13 _ (List.mem_of_getElem? (i := 21) rfl)), (ts_1 _ (List.mem_of_getElem? (i := 21) rfl)), by decide +kernel, by decide +kernel, by decide +kernel, by decide +kernel, by decide +kernel⟩
theorem mf_19 : MFr (yX3_worked, cX3_worked, 11, (some .int), 3) := ⟨(ts_18 _ (List.mem_of_getElem? (i := 1) rfl)), (ts_1 _ (List.mem_of_getElem? (i := 21) rfl)), by decide +kernel, by decide +kernel, by decide +kernel, by decide +kernel, by decide +kernel⟩
theorem mf_20 : MFr (yX3_push, cX3_push, 2, none, 3) := ⟨(ts_18 _ (List.mem_of_getElem? (i := 6) rfl)), (ts_1 _ (List.mem_of_getElem? (i := 21) rfl)), by decide +kernel, by decide +kernel, by decide +kernel, by decide +kernel, by decide +kernel⟩
theorem mf_21 : MFr (yX3_pop, cX3_pop, 1, (some .int), 3) := ⟨(ts_18 _ (List.mem_of_getElem? (i := 10) rfl)), (ts_1 _ (List.mem_of_getElem? (i := 21) rfl)), by decide +kernel, by decide +kernel, by decide +kernel, by decide +kernel, by decide +kernel⟩
theorem mf_22 : MFr (yX3_joinedBy, cX3_joinedBy, 3, (some .int), 3) := ⟨(ts_18 _ (List.mem_of_getElem? (i := 13) rfl)), (ts_1 _ (List.mem_of_getElem? (i := 21) rfl)), by decide +kernel, by decide +kernel, by decide +kernel, by decide +kernel, by decide +kernel⟩
theorem mf_23 : MFr (yX4_init, cX4_init, 1, none, 4) := ⟨(ts_2 _ (List.mem_of_getElem? (i := 14) rfl)), (ts_1 _ (List.mem_of_getElem? (i := 15) rfl)), by decide +kernel, by decide +kernel, by decide +kernel, by decide +kernel, by decide +kernel⟩
theorem mf_24 : MFr (yX4_hasGirl, cX4_hasGirl, 2, (some .boolean), 4) := ⟨(ts_5 _ (List.mem_of_getElem? (i := 12) rfl)), (ts_1 _ (List.mem_of_getElem? (i := 15) rfl)), by decide +kernel, by decide +kernel, by decide +kernel, by decide +kernel, by decide +kernel⟩
theorem mf_25 : MFr (yX4_hasFrog, cX4_hasFrog, 2, (some .boolean), 4) := ⟨(ts_9 _ (List.mem_of_getElem? (i := 14) rfl)), (ts_1 _ (List.mem_of_getElem? (i := 15) rfl)), by decide +kernel, by decide +kernel, by decide +kernel, by decide +kernel, by decide +kernel⟩
theorem mf_26 : MFr (yX4_addGirl, cX4_addGirl, 2, (some .int), 4) := ⟨(ts_5 _ (List.mem_of_getElem? (i := 17) rfl)), (ts_1 _ (List.mem_of_getElem? (i := 15) rfl)), by decide +kernel, by decide +kernel, by decide +kernel, by decide +kernel, by decide +kernel⟩
theorem mf_27 : MFr (yX4_addFrog, cX4_addFrog, 5, (some .int), 4) := ⟨(ts_6 _ (List.mem_of_getElem? (i := 12) rfl)), (ts_1 _ (List.mem_of_getElem? (i := 15) rfl)), by decide +kernel, by decide +kernel, by decide +kernel, by decide +kernel, by decide +kernel⟩
theorem mf_28 : MFr (yX4_hasNumber, cX4_hasNumber, 3, (some .boolean), 4) := ⟨(ts_9 _ (List.mem_of_getElem? (i := 9) rfl)), (ts_1 _ (List.mem_of_getElem? (i := 15) rfl)), by decide +kernel, by decide +kernel, by decide +kernel, by decide +kernel, by decide +kernel⟩
theorem mf_29 : MFr (yX4_numberOf, cX4_numberOf, 3, (some .int), 4) := ⟨(ts_9 _ (List.mem_of_getElem? (i := 18) rfl)), (ts_1 _ (List.mem_of_getElem? (i := 15) rfl)), by decide +kernel, by decide +kernel, by decide +kernel, by decide +kernel, by decide +kernel⟩
theorem mf_30 : MFr (yX4_become, cX4_become, 4, none, 4) := ⟨(ts_10 _ (List.mem_of_getElem? (i := 13) rfl)), (ts_1 _ (List.mem_of_getElem? (i := 15) rfl)), by decide +kernel, by decide +kernel, by decide +kernel, by decide +kernel, by decide +kernel⟩
theorem mf_31 : MFr (yX4_copy, cX4_copy, 2, none, 4) := ⟨(ts_20 _ (List.mem_of_getElem? (i := 14) rfl)), (ts_1 _ (List.mem_of_getElem? (i := 15) rfl)), by decide +kernel, by decide +kernel, by decide +kernel, by decide +kernel, by decide +kernel⟩
theorem mf_32 : MFr (yX4_layBack, cX4_layBack, 2, none, 4) := ⟨(ts_20 _ (List.mem_of_getElem? (i := 19) rfl)), (ts_1 _ (List.mem_of_getElem? (i := 15) rfl)), by decide +kernel, by decide +kernel, by decide +kernel, by decide +kernel, by decide +kernel⟩
theorem mf_33 : MFr (yX4_far, cX4_far, 2, (some .int), 4) := ⟨(ts_17 _ (List.mem_of_getElem? (i := 14) rfl)), (ts_1 _ (List.mem_of_getElem? (i := 15) rfl)), by decide +kernel, by decide +kernel, by decide +kernel, by decide +kernel, by decide +kernel⟩
theorem mf_34 : MFr (yX4_nearestTo, cX4_nearestTo, 5, (some .int), 4) := ⟨(ts_33 _ (List.mem_of_getElem? (i := 12) rfl)), (ts_1 _ (List.mem_of_getElem? (i := 15) rfl)), by decide +kernel, by decide +kernel, by decide +kernel, by decide +kernel, by decide +kernel⟩
theorem mf_35 : MFr (yX4_owing, cX4_owing, 3, (some .int), 4) := ⟨(ts_23 _ (List.mem_of_getElem? (i := 12) rfl)), (ts_1 _ (List.mem_of_getElem? (i := 15) rfl)), by decide +kernel, by decide +kernel, by decide +kernel, by decide +kernel, by decide +kernel⟩
theorem mf_36 : MFr (yX4_heldByAll, cX4_heldByAll, 3, (some .int), 4) := ⟨(ts_23 _ (List.mem_of_getElem? (i := 16) rfl)), (ts_1 _ (List.mem_of_getElem? (i := 15) rfl)), by decide +kernel, by decide +kernel, by decide +kernel, by decide +kernel, by decide +kernel⟩
theorem mf_37 : MFr (yX4_lend, cX4_lend, 4, none, 4) := ⟨(ts_25 _ (List.mem_of_getElem? (i := 4) rfl)), (ts_1 _ (List.mem_of_getElem? (i := 15) rfl)), by decide +kernel, by decide +kernel, by decide +kernel, by decide +kernel, by decide +kernel⟩
theorem mf_38 : MFr (yX4_owesNothing, cX4_owesNothing, 2, none, 4) := ⟨(ts_21 _ (List.mem_of_getElem? (i := 15) rfl)), (ts_1 _ (List.mem_of_getElem? (i := 15) rfl)), by decide +kernel, by decide +kernel, by decide +kernel, by decide +kernel, by decide +kernel⟩
theorem mf_39 : MFr (yX4_meetCart, cX4_meetCart, 3, none, 4) := ⟨(ts_35 _ (List.mem_of_getElem? (i := 9) rfl)), (ts_1 _ (List.mem_of_getElem? (i := 15) rfl)), by decide +kernel, by decide +kernel, by decide +kernel, by decide +kernel, by decide +kernel⟩
theorem mf_40 : MFr (yX4_lossOf, cX4_lossOf, 6, (some .int), 4) := ⟨(ts_17 _ (List.mem_of_getElem? (i := 7) rfl)), (ts_1 _ (List.mem_of_getElem? (i := 15) rfl)), by decide +kernel, by decide +kernel, by decide +kernel, by decide +kernel, by decide +kernel⟩
theorem mf_41 : MFr (yX4_passHourOf, cX4_passHourOf, 6, (some .int), 4) := ⟨(ts_21 _ (List.mem_of_getElem? (i := 3) rfl)), (ts_1 _ (List.mem_of_getElem? (i := 15) rfl)), by decide +kernel, by decide +kernel, by decide +kernel, by decide +kernel, by decide +kernel⟩
theorem mf_42 : MFr (yX4_nearer, cX4_nearer, 3, (some .int), 4) := ⟨(ts_21 _ (List.mem_of_getElem? (i := 7) rfl)), (ts_1 _ (List.mem_of_getElem? (i := 15) rfl)), by decide +kernel, by decide +kernel, by decide +kernel, by decide +kernel, by decide +kernel⟩
theorem mf_43 : MFr (yX4_endHour, cX4_endHour, 1, none, 4) := ⟨(ts_21 _ (List.mem_of_getElem? (i := 19) rfl)), (ts_1 _ (List.mem_of_getElem? (i := 15) rfl)), by decide +kernel, by decide +kernel, by decide +kernel, by decide +kernel, by decide +kernel⟩
theorem mf_44 : MFr (yX4_passHour, cX4_passHour, 4, (some .int), 4) := ⟨(ts_20 _ (List.mem_of_getElem? (i := 23) rfl)), (ts_1 _ (List.mem_of_getElem? (i := 15) rfl)), by decide +kernel, by decide +kernel, by decide +kernel, by decide +kernel, by decide +kernel⟩
theorem mf_45 : MFr (yX5_init, cX5_init, 4, none, 5) := ⟨(ts_40 _ (List.mem_of_getElem? (i := 14) rfl)), (ts_39 _ (List.mem_of_getElem? (i := 7) rfl)), by decide +kernel, by decide +kernel, by decide +kernel, by decide +kernel, by decide +kernel⟩
theorem mf_46 : MFr (yX5_keeping, cX5_keeping, 2, (some .int), 5) := ⟨(ts_45 _ (List.mem_of_getElem? (i := 22) rfl)), (ts_39 _ (List.mem_of_getElem? (i := 7) rfl)), by decide +kernel, by decide +kernel, by decide +kernel, by decide +kernel, by decide +kernel⟩
theorem mf_47 : MFr (yX5_singing, cX5_singing, 2, (some .int), 5) := ⟨(ts_43 _ (List.mem_of_getElem? (i := 18) rfl)), (ts_39 _ (List.mem_of_getElem? (i := 7) rfl)), by decide +kernel, by decide +kernel, by decide +kernel, by decide +kernel, by decide +kernel⟩
theorem mf_48 : MFr (yX6_init, cX6_init, 4, none, 6) := ⟨(ts_40 _ (List.mem_of_getElem? (i := 0) rfl)), (ts_39 _ (List.mem_of_getElem? (i := 1) rfl)), by decide +kernel, by decide +kernel, by decide +kernel, by decide +kernel, by decide +kernel⟩
theorem mf_49 : MFr (yX6_lending, cX6_lending, 2, (some .int), 6) := ⟨(ts_43 _ (List.mem_of_getElem? (i := 1) rfl)), (ts_39 _ (List.mem_of_getElem? (i := 1) rfl)), by decide +kernel, by decide +kernel, by decide +kernel, by decide +kernel, by decide +kernel⟩
theorem mf_50 : MFr (yX7_init, cX7_init, 4, none, 7) := ⟨(ts_40 _ (List.mem_of_getElem? (i := 18) rfl)), (ts_39 _ (List.mem_of_getElem? (i := 10) rfl)), by decide +kernel, by decide +kernel, by decide +kernel, by decide +kernel, by decide +kernel⟩
theorem mf_51 : MFr (yX7_keeping, cX7_keeping, 2, (some .int), 7) := ⟨(ts_45 _ (List.mem_of_getElem? (i := 8) rfl)), (ts_39 _ (List.mem_of_getElem? (i := 10) rfl)), by decide +kernel, by decide +kernel, by decide +kernel, by decide +kernel, by decide +kernel⟩
theorem mf_52 : MFr (yX8_init, cX8_init, 4, none, 8) := ⟨(ts_40 _ (List.mem_of_getElem? (i := 3) rfl)), (ts_39 _ (List.mem_of_getElem? (i := 21) rfl)), by decide +kernel, by decide +kernel, by decide +kernel, by decide +kernel, by decide +kernel⟩
theorem mf_53 : MFr (yX8_begins, cX8_begins, 2, none, 8) := ⟨(ts_42 _ (List.mem_of_getElem? (i := 3) rfl)), (ts_39 _ (List.mem_of_getElem? (i := 21) rfl)), by decide +kernel, by decide +kernel, by decide +kernel, by decide +kernel, by decide +kernel⟩
theorem mf_54 : MFr (yX8_lending, cX8_lending, 2, (some .int), 8) := ⟨(ts_41 _ (List.mem_of_getElem? (i := 22) rfl)), (ts_39 _ (List.mem_of_getElem? (i := 21) rfl)), by decide +kernel, by decide +kernel, by decide +kernel, by decide +kernel, by decide +kernel⟩
theorem mf_55 : MFr (yX8_singing, cX8_singing, 2, (some .int), 8) := ⟨(ts_44 _ (List.mem_of_getElem? (i := 12) rfl)), (ts_39 _ (List.mem_of_getElem? (i := 21) rfl)), by decide +kernel, by decide +kernel, by decide +kernel, by decide +kernel, by decide +kernel⟩
theorem mf_56 : MFr (yX8_keeping, cX8_keeping, 2, (some .int), 8) := ⟨(ts_45 _ (List.mem_of_getElem? (i := 23) rfl)), (ts_39 _ (List.mem_of_getElem? (i := 21) rfl)), by decide +kernel, by decide +kernel, by decide +kernel, by decide +kernel, by decide +kernel⟩
theorem mf_57 : MFr (yX8_telling, cX8_telling, 2, (some .int), 8) := ⟨(ts_46 _ (List.mem_of_getElem? (i := 18) rfl)), (ts_39 _ (List.mem_of_getElem? (i := 21) rfl)), by decide +kernel, by decide +kernel, by decide +kernel, by decide +kernel, by decide +kernel⟩
theorem mf_58 : MFr (yX9_init, cX9_init, 1, none, 9) := ⟨(ts_3 _ (List.mem_of_getElem? (i := 8) rfl)), (ts_2 _ (List.mem_of_getElem? (i := 12) rfl)), by decide +kernel, by decide +kernel, by decide +kernel, by decide +kernel, by decide +kernel⟩
theorem mf_59 : MFr (yX9_isBare, cX9_isBare, 1, (some .boolean), 9) := ⟨(ts_7 _ (List.mem_of_getElem? (i := 9) rfl)), (ts_2 _ (List.mem_of_getElem? (i := 12) rfl)), by decide +kernel, by decide +kernel, by decide +kernel, by decide +kernel, by decide +kernel⟩
theorem mf_60 : MFr (yX9_isRow, cX9_isRow, 1, (some .boolean), 9) := ⟨(ts_50 _ (List.mem_of_getElem? (i := 12) rfl)), (ts_2 _ (List.mem_of_getElem? (i := 12) rfl)), by decide +kernel, by decide +kernel, by decide +kernel, by decide +kernel, by decide +kernel⟩
theorem mf_61 : MFr (yX9_isBytes, cX9_isBytes, 1, (some .boolean), 9) := ⟨(ts_7 _ (List.mem_of_getElem? (i := 14) rfl)), (ts_2 _ (List.mem_of_getElem? (i := 12) rfl)), by decide +kernel, by decide +kernel, by decide +kernel, by decide +kernel, by decide +kernel⟩
theorem mf_62 : MFr (yX9_hold, cX9_hold, 2, none, 9) := ⟨(ts_49 _ (List.mem_of_getElem? (i := 5) rfl)), (ts_2 _ (List.mem_of_getElem? (i := 12) rfl)), by decide +kernel, by decide +kernel, by decide +kernel, by decide +kernel, by decide +kernel⟩
theorem mf_63 : MFr (yX9_holdRow, cX9_holdRow, 3, none, 9) := ⟨(ts_49 _ (List.mem_of_getElem? (i := 17) rfl)), (ts_2 _ (List.mem_of_getElem? (i := 12) rfl)), by decide +kernel, by decide +kernel, by decide +kernel, by decide +kernel, by decide +kernel⟩
theorem mf_64 : MFr (yX9_hasPart, cX9_hasPart, 3, (some .boolean), 9) := ⟨(ts_7 _ (List.mem_of_getElem? (i := 18) rfl)), (ts_2 _ (List.mem_of_getElem? (i := 12) rfl)), by decide +kernel, by decide +kernel, by decide +kernel, by decide +kernel, by decide +kernel⟩
theorem mf_65 : MFr (yX9_at, cX9_at, 2, (some .long), 9) := ⟨(ts_8 _ (List.mem_of_getElem? (i := 3) rfl)), (ts_2 _ (List.mem_of_getElem? (i := 12) rfl)), by decide +kernel, by decide +kernel, by decide +kernel, by decide +kernel, by decide +kernel⟩
theorem mf_66 : MFr (yX9_become, cX9_become, 4, none, 9) := ⟨(ts_50 _ (List.mem_of_getElem? (i := 16) rfl)), (ts_2 _ (List.mem_of_getElem? (i := 12) rfl)), by decide +kernel, by decide +kernel, by decide +kernel, by decide +kernel, by decide +kernel⟩
theorem mf_67 : MFr (yX10_init, cX10_init, 4, none, 10) := ⟨(ts_41 _ (List.mem_of_getElem? (i := 6) rfl)), (ts_39 _ (List.mem_of_getElem? (i := 19) rfl)), by decide +kernel, by decide +kernel, by decide +kernel, by decide +kernel, by decide +kernel⟩
theorem mf_68 : MFr (yX10_singing, cX10_singing, 2, (some .int), 10) := ⟨(ts_45 _ (List.mem_of_getElem? (i := 0) rfl)), (ts_39 _ (List.mem_of_getElem? (i := 19) rfl)), by decide +kernel, by decide +kernel, by decide +kernel, by decide +kernel, by decide +kernel⟩
theorem mf_69 : MFr (yX10_telling, cX10_telling, 2, (some .int), 10) := ⟨(ts_47 _ (List.mem_of_getElem? (i := 9) rfl)), (ts_39 _ (List.mem_of_getElem? (i := 19) rfl)), by decide +kernel, by decide +kernel, by decide +kernel, by decide +kernel, by decide +kernel⟩
theorem mf_70 : MFr (yX11_init, cX11_init, 2, none, 11) := ⟨(ts_1 _ (List.mem_of_getElem? (i := 9) rfl)), (ts_1 _ (List.mem_of_getElem? (i := 2) rfl)), by decide +kernel, by decide +kernel, by decide +kernel, by decide +kernel, by decide +kernel⟩
theorem mf_71 : MFr (yX11_girl, cX11_girl, 2, (some .int), 11) := ⟨(ts_5 _ (List.mem_of_getElem? (i := 1) rfl)), (ts_1 _ (List.mem_of_getElem? (i := 2) rfl)), by decide +kernel, by decide +kernel, by decide +kernel, by decide +kernel, by decide +kernel⟩
theorem mf_72 : MFr (yX11_frog, cX11_frog, 4, (some .int), 11) := ⟨(ts_6 _ (List.mem_of_getElem? (i := 8) rfl)), (ts_1 _ (List.mem_of_getElem? (i := 2) rfl)), by decide +kernel, by decide +kernel, by decide +kernel, by decide +kernel, by decide +kernel⟩
theorem mf_73 : MFr (yX11_frogs, cX11_frogs, 7, (some .int), 11) := ⟨(ts_7 _ (List.mem_of_getElem? (i := 2) rfl)), (ts_1 _ (List.mem_of_getElem? (i := 2) rfl)), by decide +kernel, by decide +kernel, by decide +kernel, by decide +kernel, by decide +kernel⟩
theorem mf_74 : MFr (yX11_frogFromFour, cX11_frogFromFour, 8, (some .boolean), 11) := ⟨(ts_7 _ (List.mem_of_getElem? (i := 23) rfl)), (ts_1 _ (List.mem_of_getElem? (i := 2) rfl)), by decide +kernel, by decide +kernel, by decide +kernel, by decide +kernel, by decide +kernel⟩
theorem mf_75 : MFr (yX11_mend, cX11_mend, 5, (some .int), 11) := ⟨(ts_9 _ (List.mem_of_getElem? (i := 4) rfl)), (ts_1 _ (List.mem_of_getElem? (i := 2) rfl)), by decide +kernel, by decide +kernel, by decide +kernel, by decide +kernel, by decide +kernel⟩
theorem mf_76 : MFr (yX11_mayBe, cX11_mayBe, 3, (some .boolean), 11) := ⟨(ts_5 _ (List.mem_of_getElem? (i := 5) rfl)), (ts_1 _ (List.mem_of_getElem? (i := 2) rfl)), by decide +kernel, by decide +kernel, by decide +kernel, by decide +kernel, by decide +kernel⟩
theorem mf_77 : MFr (yX11_of, cX11_of, 3, (some .int), 11) := ⟨(ts_11 _ (List.mem_of_getElem? (i := 21) rfl)), (ts_1 _ (List.mem_of_getElem? (i := 2) rfl)), by decide +kernel, by decide +kernel, by decide +kernel, by decide +kernel, by decide +kernel⟩
theorem mf_78 : MFr (yX11_feed, cX11_feed, 2, (some .int), 11) := ⟨(ts_12 _ (List.mem_of_getElem? (i := 5) rfl)), (ts_1 _ (List.mem_of_getElem? (i := 2) rfl)), by decide +kernel, by decide +kernel, by decide +kernel, by decide +kernel, by decide +kernel⟩
theorem mf_79 : MFr (yX11_law, cX11_law, 3, (some .int), 11) := ⟨(ts_12 _ (List.mem_of_getElem? (i := 15) rfl)), (ts_1 _ (List.mem_of_getElem? (i := 2) rfl)), by decide +kernel, by decide +kernel, by decide +kernel, by decide +kernel, by decide +kernel⟩
theorem mf_80 : MFr (yX11_loses, cX11_loses, 2, (some .int), 11) := ⟨(ts_17 _ (List.mem_of_getElem? (i := 2) rfl)), (ts_1 _ (List.mem_of_getElem? (i := 2) rfl)), by decide +kernel, by decide +kernel, by decide +kernel, by decide +kernel, by decide +kernel⟩
theorem mf_81 : MFr (yX11_later, cX11_later, 5, (some .int), 11) := ⟨(ts_20 _ (List.mem_of_getElem? (i := 2) rfl)), (ts_1 _ (List.mem_of_getElem? (i := 2) rfl)), by decide +kernel, by decide +kernel, by decide +kernel, by decide +kernel, by decide +kernel⟩
theorem mf_82 : MFr (yX11_thinkOn, cX11_thinkOn, 3, none, 11) := ⟨(ts_20 _ (List.mem_of_getElem? (i := 10) rfl)), (ts_1 _ (List.mem_of_getElem? (i := 2) rfl)), by decide +kernel, by decide +kernel, by decide +kernel, by decide +kernel, by decide +kernel⟩
theorem mf_83 : MFr (yX11_marsh, cX11_marsh, 3, (some .int), 11) := ⟨(ts_23 _ (List.mem_of_getElem? (i := 8) rfl)), (ts_1 _ (List.mem_of_getElem? (i := 2) rfl)), by decide +kernel, by decide +kernel, by decide +kernel, by decide +kernel, by decide +kernel⟩
theorem mf_84 : MFr (yX11_backWhen, cX11_backWhen, 4, (some .int), 11) := ⟨(ts_24 _ (List.mem_of_getElem? (i := 8) rfl)), (ts_1 _ (List.mem_of_getElem? (i := 2) rfl)), by decide +kernel, by decide +kernel, by decide +kernel, by decide +kernel, by decide +kernel⟩
theorem mf_85 : MFr (yX11_loan, cX11_loan, 4, (some .int), 11) := ⟨(ts_24 _ (List.mem_of_getElem? (i := 16) rfl)), (ts_1 _ (List.mem_of_getElem? (i := 2) rfl)), by decide +kernel, by decide +kernel, by decide +kernel, by decide +kernel, by decide +kernel⟩
theorem mf_86 : MFr (yX11_thinkLoan, cX11_thinkLoan, 4, none, 11) := ⟨(ts_25 _ (List.mem_of_getElem? (i := 0) rfl)), (ts_1 _ (List.mem_of_getElem? (i := 2) rfl)), by decide +kernel, by decide +kernel, by decide +kernel, by decide +kernel, by decide +kernel⟩
theorem mf_87 : MFr (yX11_givenBack, cX11_givenBack, 4, (some .int), 11) := ⟨(ts_25 _ (List.mem_of_getElem? (i := 8) rfl)), (ts_1 _ (List.mem_of_getElem? (i := 2) rfl)), by decide +kernel, by decide +kernel, by decide +kernel, by decide +kernel, by decide +kernel⟩
theorem mf_88 : MFr (yX11_hoursTillBack, cX11_hoursTillBack, 3, (some .int), 11) := ⟨(ts_25 _ (List.mem_of_getElem? (i := 14) rfl)), (ts_1 _ (List.mem_of_getElem? (i := 2) rfl)), by decide +kernel, by decide +kernel, by decide +kernel, by decide +kernel, by decide +kernel⟩
theorem mf_89 : MFr (yX11_best, cX11_best, 8, (some .int), 11) := ⟨(ts_26 _ (List.mem_of_getElem? (i := 10) rfl)), (ts_1 _ (List.mem_of_getElem? (i := 2) rfl)), by decide +kernel, by decide +kernel, by decide +kernel, by decide +kernel, by decide +kernel⟩
theorem mf_90 : MFr (yX11_dealt, cX11_dealt, 3, (some .int), 11) := ⟨(ts_26 _ (List.mem_of_getElem? (i := 19) rfl)), (ts_1 _ (List.mem_of_getElem? (i := 2) rfl)), by decide +kernel, by decide +kernel, by decide +kernel, by decide +kernel, by decide +kernel⟩
theorem mf_91 : MFr (yX11_thinkGains, cX11_thinkGains, 4, none, 11) := ⟨(ts_26 _ (List.mem_of_getElem? (i := 23) rfl)), (ts_1 _ (List.mem_of_getElem? (i := 2) rfl)), by decide +kernel, by decide +kernel, by decide +kernel, by decide +kernel, by decide +kernel⟩
theorem mf_92 : MFr (yX11_thinkMostBack, cX11_thinkMostBack, 5, none, 11) := ⟨(ts_27 _ (List.mem_of_getElem? (i := 4) rfl)), (ts_1 _ (List.mem_of_getElem? (i := 2) rfl)), by decide +kernel, by decide +kernel, by decide +kernel, by decide +kernel, by decide +kernel⟩
theorem mf_93 : MFr (yX11_backByLending, cX11_backByLending, 5, (some .int), 11) := ⟨(ts_27 _ (List.mem_of_getElem? (i := 13) rfl)), (ts_1 _ (List.mem_of_getElem? (i := 2) rfl)), by decide +kernel, by decide +kernel, by decide +kernel, by decide +kernel, by decide +kernel⟩
theorem mf_94 : MFr (yX11_frogDealtTo, cX11_frogDealtTo, 5, (some .int), 11) := ⟨(ts_27 _ (List.mem_of_getElem? (i := 17) rfl)), (ts_1 _ (List.mem_of_getElem? (i := 2) rfl)), by decide +kernel, by decide +kernel, by decide +kernel, by decide +kernel, by decide +kernel⟩
theorem mf_95 : MFr (yX11_firstBestFrog, cX11_firstBestFrog, 5, (some .int), 11) := ⟨(ts_27 _ (List.mem_of_getElem? (i := 21) rfl)), (ts_1 _ (List.mem_of_getElem? (i := 2) rfl)), by decide +kernel, by decide +kernel, by decide +kernel, by decide +kernel, by decide +kernel⟩
theorem mf_96 : MFr (yX11_least, cX11_least, 4, (some .int), 11) := ⟨(ts_28 _ (List.mem_of_getElem? (i := 10) rfl)), (ts_1 _ (List.mem_of_getElem? (i := 2) rfl)), by decide +kernel, by decide +kernel, by decide +kernel, by decide +kernel, by decide +kernel⟩
theorem mf_97 : MFr (yX11_heldBehind, cX11_heldBehind, 4, (some .int), 11) := ⟨(ts_28 _ (List.mem_of_getElem? (i := 14) rfl)), (ts_1 _ (List.mem_of_getElem? (i := 2) rfl)), by decide +kernel, by decide +kernel, by decide +kernel, by decide +kernel, by decide +kernel⟩
theorem mf_98 : MFr (yX11_bars, cX11_bars, 3, (some .int), 11) := ⟨(ts_29 _ (List.mem_of_getElem? (i := 2) rfl)), (ts_1 _ (List.mem_of_getElem? (i := 2) rfl)), by decide +kernel, by decide +kernel, by decide +kernel, by decide +kernel, by decide +kernel⟩
theorem mf_99 : MFr (yX11_nextTogether, cX11_nextTogether, 3, (some .int), 11) := ⟨(ts_29 _ (List.mem_of_getElem? (i := 6) rfl)), (ts_1 _ (List.mem_of_getElem? (i := 2) rfl)), by decide +kernel, by decide +kernel, by decide +kernel, by decide +kernel, by decide +kernel⟩
theorem mf_100 : MFr (yX11_beginningAt, cX11_beginningAt, 6, (some .int), 11) := ⟨(ts_29 _ (List.mem_of_getElem? (i := 10) rfl)), (ts_1 _ (List.mem_of_getElem? (i := 2) rfl)), by decide +kernel, by decide +kernel, by decide +kernel, by decide +kernel, by decide +kernel⟩
theorem mf_101 : MFr (yX11_stops, cX11_stops, 5, (some .int), 11) := ⟨(ts_30 _ (List.mem_of_getElem? (i := 4) rfl)), (ts_1 _ (List.mem_of_getElem? (i := 2) rfl)), by decide +kernel, by decide +kernel, by decide +kernel, by decide +kernel, by decide +kernel⟩
theorem mf_102 : MFr (yX11_allHeardFrom, cX11_allHeardFrom, 4, (some .boolean), 11) := ⟨(ts_30 _ (List.mem_of_getElem? (i := 8) rfl)), (ts_1 _ (List.mem_of_getElem? (i := 2) rfl)), by decide +kernel, by decide +kernel, by decide +kernel, by decide +kernel, by decide +kernel⟩
theorem mf_103 : MFr (yX11_isHeardFrom, cX11_isHeardFrom, 5, (some .boolean), 11) := ⟨(ts_30 _ (List.mem_of_getElem? (i := 12) rfl)), (ts_1 _ (List.mem_of_getElem? (i := 2) rfl)), by decide +kernel, by decide +kernel, by decide +kernel, by decide +kernel, by decide +kernel⟩
theorem mf_104 : MFr (yX11_judge, cX11_judge, 5, (some .int), 11) := ⟨(ts_31 _ (List.mem_of_getElem? (i := 2) rfl)), (ts_1 _ (List.mem_of_getElem? (i := 2) rfl)), by decide +kernel, by decide +kernel, by decide +kernel, by decide +kernel, by decide +kernel⟩
theorem mf_105 : MFr (yX11_bookRefusal, cX11_bookRefusal, 1, (some .int), 11) := ⟨(ts_31 _ (List.mem_of_getElem? (i := 5) rfl)), (ts_1 _ (List.mem_of_getElem? (i := 2) rfl)), by decide +kernel, by decide +kernel, by decide +kernel, by decide +kernel, by decide +kernel⟩
theorem mf_106 : MFr (yX11_firstNotSo, cX11_firstNotSo, 7, (some .int), 11) := ⟨(ts_31 _ (List.mem_of_getElem? (i := 9) rfl)), (ts_1 _ (List.mem_of_getElem? (i := 2) rfl)), by decide +kernel, by decide +kernel, by decide +kernel, by decide +kernel, by decide +kernel⟩
theorem mf_107 : MFr (yX11_fits, cX11_fits, 6, (some .int), 11) := ⟨(ts_32 _ (List.mem_of_getElem? (i := 4) rfl)), (ts_1 _ (List.mem_of_getElem? (i := 2) rfl)), by decide +kernel, by decide +kernel, by decide +kernel, by decide +kernel, by decide +kernel⟩
theorem mf_108 : MFr (yX11_keptBy, cX11_keptBy, 5, (some .int), 11) := ⟨(ts_32 _ (List.mem_of_getElem? (i := 8) rfl)), (ts_1 _ (List.mem_of_getElem? (i := 2) rfl)), by decide +kernel, by decide +kernel, by decide +kernel, by decide +kernel, by decide +kernel⟩
theorem mf_109 : MFr (yX11_whose, cX11_whose, 5, (some .int), 11) := ⟨(ts_32 _ (List.mem_of_getElem? (i := 12) rfl)), (ts_1 _ (List.mem_of_getElem? (i := 2) rfl)), by decide +kernel, by decide +kernel, by decide +kernel, by decide +kernel, by decide +kernel⟩
theorem mf_110 : MFr (yX11_alike, cX11_alike, 4, (some .int), 11) := ⟨(ts_32 _ (List.mem_of_getElem? (i := 20) rfl)), (ts_1 _ (List.mem_of_getElem? (i := 2) rfl)), by decide +kernel, by decide +kernel, by decide +kernel, by decide +kernel, by decide +kernel⟩
theorem mf_111 : MFr (yX11_holdAsMuch, cX11_holdAsMuch, 4, (some .boolean), 11) := ⟨(ts_33 _ (List.mem_of_getElem? (i := 0) rfl)), (ts_1 _ (List.mem_of_getElem? (i := 2) rfl)), by decide +kernel, by decide +kernel, by decide +kernel, by decide +kernel, by decide +kernel⟩
theorem mf_112 : MFr (yX11_ring, cX11_ring, 6, (some .int), 11) := ⟨(ts_33 _ (List.mem_of_getElem? (i := 8) rfl)), (ts_1 _ (List.mem_of_getElem? (i := 2) rfl)), by decide +kernel, by decide +kernel, by decide +kernel, by decide +kernel, by decide +kernel⟩
theorem mf_113 : MFr (yX11_byTurns, cX11_byTurns, 7, (some .int), 11) := ⟨(ts_34 _ (List.mem_of_getElem? (i := 0) rfl)), (ts_1 _ (List.mem_of_getElem? (i := 2) rfl)), by decide +kernel, by decide +kernel, by decide +kernel, by decide +kernel, by decide +kernel⟩
theorem mf_114 : MFr (yX11_lessTwo, cX11_lessTwo, 1, (some .int), 11) := ⟨(ts_34 _ (List.mem_of_getElem? (i := 4) rfl)), (ts_1 _ (List.mem_of_getElem? (i := 2) rfl)), by decide +kernel, by decide +kernel, by decide +kernel, by decide +kernel, by decide +kernel⟩
theorem mf_115 : MFr (yX11_turn, cX11_turn, 7, (some .int), 11) := ⟨(ts_34 _ (List.mem_of_getElem? (i := 8) rfl)), (ts_1 _ (List.mem_of_getElem? (i := 2) rfl)), by decide +kernel, by decide +kernel, by decide +kernel, by decide +kernel, by decide +kernel⟩
theorem mf_116 : MFr (yX11_backBy, cX11_backBy, 4, (some .int), 11) := ⟨(ts_34 _ (List.mem_of_getElem? (i := 12) rfl)), (ts_1 _ (List.mem_of_getElem? (i := 2) rfl)), by decide +kernel, by decide +kernel, by decide +kernel, by decide +kernel, by decide +kernel⟩
theorem mf_117 : MFr (yX11_drawn, cX11_drawn, 10, (some .int), 11) := ⟨(ts_35 _ (List.mem_of_getElem? (i := 4) rfl)), (ts_1 _ (List.mem_of_getElem? (i := 2) rfl)), by decide +kernel, by decide +kernel, by decide +kernel, by decide +kernel, by decide +kernel⟩
theorem mf_118 : MFr (yX11_hour, cX11_hour, 1, (some .int), 11) := ⟨(ts_35 _ (List.mem_of_getElem? (i := 18) rfl)), (ts_1 _ (List.mem_of_getElem? (i := 2) rfl)), by decide +kernel, by decide +kernel, by decide +kernel, by decide +kernel, by decide +kernel⟩
theorem mf_119 : MFr (yX11_lends, cX11_lends, 5, (some .int), 11) := ⟨(ts_36 _ (List.mem_of_getElem? (i := 2) rfl)), (ts_1 _ (List.mem_of_getElem? (i := 2) rfl)), by decide +kernel, by decide +kernel, by decide +kernel, by decide +kernel, by decide +kernel⟩
theorem mf_120 : MFr (yX11_over, cX11_over, 3, (some .int), 11) := ⟨(ts_36 _ (List.mem_of_getElem? (i := 11) rfl)), (ts_1 _ (List.mem_of_getElem? (i := 2) rfl)), by decide +kernel, by decide +kernel, by decide +kernel, by decide +kernel, by decide +kernel⟩
theorem mf_121 : MFr (yX11_led, cX11_led, 2, (some .int), 11) := ⟨(ts_36 _ (List.mem_of_getElem? (i := 20) rfl)), (ts_1 _ (List.mem_of_getElem? (i := 2) rfl)), by decide +kernel, by decide +kernel, by decide +kernel, by decide +kernel, by decide +kernel⟩
theorem mf_122 : MFr (yX11_image, cX11_image, 1, (some .int), 11) := ⟨(ts_37 _ (List.mem_of_getElem? (i := 4) rfl)), (ts_1 _ (List.mem_of_getElem? (i := 2) rfl)), by decide +kernel, by decide +kernel, by decide +kernel, by decide +kernel, by decide +kernel⟩
theorem mf_123 : MFr (yX11_back, cX11_back, 1, (some .int), 11) := ⟨(ts_37 _ (List.mem_of_getElem? (i := 16) rfl)), (ts_1 _ (List.mem_of_getElem? (i := 2) rfl)), by decide +kernel, by decide +kernel, by decide +kernel, by decide +kernel, by decide +kernel⟩
theorem mf_124 : MFr (yX11_noteChange, cX11_noteChange, 6, none, 11) := ⟨(ts_9 _ (List.mem_of_getElem? (i := 23) rfl)), (ts_1 _ (List.mem_of_getElem? (i := 2) rfl)), by decide +kernel, by decide +kernel, by decide +kernel, by decide +kernel, by decide +kernel⟩
theorem mf_125 : MFr (yX11_forgetOldestChange, cX11_forgetOldestChange, 2, none, 11) := ⟨(ts_10 _ (List.mem_of_getElem? (i := 5) rfl)), (ts_1 _ (List.mem_of_getElem? (i := 2) rfl)), by decide +kernel, by decide +kernel, by decide +kernel, by decide +kernel, by decide +kernel⟩
theorem mf_126 : MFr (yX11_undo, cX11_undo, 2, (some .int), 11) := ⟨(ts_38 _ (List.mem_of_getElem? (i := 1) rfl)), (ts_1 _ (List.mem_of_getElem? (i := 2) rfl)), by decide +kernel, by decide +kernel, by decide +kernel, by decide +kernel, by decide +kernel⟩
theorem mf_127 : MFr (yX11_redo, cX11_redo, 2, (some .int), 11) := ⟨(ts_38 _ (List.mem_of_getElem? (i := 9) rfl)), (ts_1 _ (List.mem_of_getElem? (i := 2) rfl)), by decide +kernel, by decide +kernel, by decide +kernel, by decide +kernel, by decide +kernel⟩
theorem mf_128 : MFr (yX11_body, cX11_body, 2, (some .int), 11) := ⟨(ts_38 _ (List.mem_of_getElem? (i := 17) rfl)), (ts_1 _ (List.mem_of_getElem? (i := 2) rfl)), by decide +kernel, by decide +kernel, by decide +kernel, by decide +kernel, by decide +kernel⟩
theorem mf_129 : MFr (yX11_reedOf, cX11_reedOf, 3, (some (.object "FrogBreath$Reed")), 11) := ⟨(ts_38 _ (List.mem_of_getElem? (i := 22) rfl)), (ts_1 _ (List.mem_of_getElem? (i := 2) rfl)), by decide +kernel, by decide +kernel, by decide +kernel, by decide +kernel, by decide +kernel⟩
theorem mf_130 : MFr (yX11_act, cX11_act, 5, (some .int), 11) := ⟨(ts_41 _ (List.mem_of_getElem? (i := 17) rfl)), (ts_1 _ (List.mem_of_getElem? (i := 2) rfl)), by decide +kernel, by decide +kernel, by decide +kernel, by decide +kernel, by decide +kernel⟩
theorem mf_131 : MFr (yX11_trace, cX11_trace, 2, (some .int), 11) := ⟨(ts_48 _ (List.mem_of_getElem? (i := 17) rfl)), (ts_1 _ (List.mem_of_getElem? (i := 2) rfl)), by decide +kernel, by decide +kernel, by decide +kernel, by decide +kernel, by decide +kernel⟩
theorem mf_132 : MFr (yX11_keep, cX11_keep, 3, (some .int), 11) := ⟨(ts_49 _ (List.mem_of_getElem? (i := 1) rfl)), (ts_1 _ (List.mem_of_getElem? (i := 2) rfl)), by decide +kernel, by decide +kernel, by decide +kernel, by decide +kernel, by decide +kernel⟩
theorem mf_133 : MFr (yX11_row, cX11_row, 4, (some .int), 11) := ⟨(ts_49 _ (List.mem_of_getElem? (i := 13) rfl)), (ts_1 _ (List.mem_of_getElem? (i := 2) rfl)), by decide +kernel, by decide +kernel, by decide +kernel, by decide +kernel, by decide +kernel⟩
theorem mf_134 : MFr (yX11_put, cX11_put, 6, (some .int), 11) := ⟨(ts_50 _ (List.mem_of_getElem? (i := 4) rfl)), (ts_1 _ (List.mem_of_getElem? (i := 2) rfl)), by decide +kernel, by decide +kernel, by decide +kernel, by decide +kernel, by decide +kernel⟩
theorem mf_135 : MFr (yX11_element, cX11_element, 3, (some .long), 11) := ⟨(ts_51 _ (List.mem_of_getElem? (i := 7) rfl)), (ts_1 _ (List.mem_of_getElem? (i := 2) rfl)), by decide +kernel, by decide +kernel, by decide +kernel, by decide +kernel, by decide +kernel⟩
theorem mf_136 : MFr (yX11_elementRefusal, cX11_elementRefusal, 3, (some .int), 11) := ⟨(ts_50 _ (List.mem_of_getElem? (i := 8) rfl)), (ts_1 _ (List.mem_of_getElem? (i := 2) rfl)), by decide +kernel, by decide +kernel, by decide +kernel, by decide +kernel, by decide +kernel⟩
theorem mf_137 : MFr (yX11_shift, cX11_shift, 8, (some .int), 11) := ⟨(ts_51 _ (List.mem_of_getElem? (i := 17) rfl)), (ts_1 _ (List.mem_of_getElem? (i := 2) rfl)), by decide +kernel, by decide +kernel, by decide +kernel, by decide +kernel, by decide +kernel⟩
theorem mf_138 : MFr (yX11_taken, cX11_taken, 4, (some .int), 11) := ⟨(ts_52 _ (List.mem_of_getElem? (i := 3) rfl)), (ts_1 _ (List.mem_of_getElem? (i := 2) rfl)), by decide +kernel, by decide +kernel, by decide +kernel, by decide +kernel, by decide +kernel⟩
theorem mf_139 : MFr (yX11_isOfKind, cX11_isOfKind, 2, (some .boolean), 11) := ⟨(ts_52 _ (List.mem_of_getElem? (i := 8) rfl)), (ts_1 _ (List.mem_of_getElem? (i := 2) rfl)), by decide +kernel, by decide +kernel, by decide +kernel, by decide +kernel, by decide +kernel⟩
theorem mf_140 : MFr (yX11_count, cX11_count, 2, (some .int), 11) := ⟨(ts_52 _ (List.mem_of_getElem? (i := 23) rfl)), (ts_1 _ (List.mem_of_getElem? (i := 2) rfl)), by decide +kernel, by decide +kernel, by decide +kernel, by decide +kernel, by decide +kernel⟩
theorem mf_141 : MFr (yX11_within, cX11_within, 3, (some .boolean), 11) := ⟨(ts_5 _ (List.mem_of_getElem? (i := 8) rfl)), (ts_1 _ (List.mem_of_getElem? (i := 2) rfl)), by decide +kernel, by decide +kernel, by decide +kernel, by decide +kernel, by decide +kernel⟩
theorem mf_142 : MFr (yX11_isShelf, cX11_isShelf, 1, (some .boolean), 11) := ⟨(ts_7 _ (List.mem_of_getElem? (i := 5) rfl)), (ts_1 _ (List.mem_of_getElem? (i := 2) rfl)), by decide +kernel, by decide +kernel, by decide +kernel, by decide +kernel, by decide +kernel⟩
theorem mf_143 : MFr (yX11_isPair, cX11_isPair, 2, (some .boolean), 11) := ⟨(ts_24 _ (List.mem_of_getElem? (i := 20) rfl)), (ts_1 _ (List.mem_of_getElem? (i := 2) rfl)), by decide +kernel, by decide +kernel, by decide +kernel, by decide +kernel, by decide +kernel⟩
theorem mf_144 : MFr (yX12_init, cX12_init, 2, none, 12) := ⟨(ts_3 _ (List.mem_of_getElem? (i := 15) rfl)), (ts_1 _ (List.mem_of_getElem? (i := 5) rfl)), by decide +kernel, by decide +kernel, by decide +kernel, by decide +kernel, by decide +kernel⟩
theorem mf_145 : MFr (yX12_within, cX12_within, 3, (some .boolean), 12) := ⟨(ts_6 _ (List.mem_of_getElem? (i := 4) rfl)), (ts_1 _ (List.mem_of_getElem? (i := 5) rfl)), by decide +kernel, by decide +kernel, by decide +kernel, by decide +kernel, by decide +kernel⟩
theorem mf_146 : MFr (yX12_isGirl, cX12_isGirl, 2, (some .boolean), 12) := ⟨(ts_9 _ (List.mem_of_getElem? (i := 0) rfl)), (ts_1 _ (List.mem_of_getElem? (i := 5) rfl)), by decide +kernel, by decide +kernel, by decide +kernel, by decide +kernel, by decide +kernel⟩
theorem mf_147 : MFr (yX12_isFrog, cX12_isFrog, 2, (some .boolean), 12) := ⟨(ts_11 _ (List.mem_of_getElem? (i := 5) rfl)), (ts_1 _ (List.mem_of_getElem? (i := 5) rfl)), by decide +kernel, by decide +kernel, by decide +kernel, by decide +kernel, by decide +kernel⟩
theorem mf_148 : MFr (yX12_isPlace, cX12_isPlace, 1, (some .boolean), 12) := ⟨(ts_6 _ (List.mem_of_getElem? (i := 1) rfl)), (ts_1 _ (List.mem_of_getElem? (i := 5) rfl)), by decide +kernel, by decide +kernel, by decide +kernel, by decide +kernel, by decide +kernel⟩
theorem mf_149 : MFr (yX12_isShelf, cX12_isShelf, 1, (some .boolean), 12) := ⟨(ts_8 _ (List.mem_of_getElem? (i := 12) rfl)), (ts_1 _ (List.mem_of_getElem? (i := 5) rfl)), by decide +kernel, by decide +kernel, by decide +kernel, by decide +kernel, by decide +kernel⟩
theorem mf_150 : MFr (yX12_girl, cX12_girl, 2, (some .int), 12) := ⟨(ts_5 _ (List.mem_of_getElem? (i := 21) rfl)), (ts_1 _ (List.mem_of_getElem? (i := 5) rfl)), by decide +kernel, by decide +kernel, by decide +kernel, by decide +kernel, by decide +kernel⟩
theorem mf_151 : MFr (yX12_newFrog, cX12_newFrog, 5, (some .int), 12) := ⟨(ts_6 _ (List.mem_of_getElem? (i := 22) rfl)), (ts_1 _ (List.mem_of_getElem? (i := 5) rfl)), by decide +kernel, by decide +kernel, by decide +kernel, by decide +kernel, by decide +kernel⟩
theorem mf_152 : MFr (yX12_frog, cX12_frog, 3, (some .int), 12) := ⟨(ts_6 _ (List.mem_of_getElem? (i := 17) rfl)), (ts_1 _ (List.mem_of_getElem? (i := 5) rfl)), by decide +kernel, by decide +kernel, by decide +kernel, by decide +kernel, by decide +kernel⟩
theorem mf_153 : MFr (yX12_mayOwe, cX12_mayOwe, 2, (some .boolean), 12) := ⟨(ts_8 _ (List.mem_of_getElem? (i := 20) rfl)), (ts_1 _ (List.mem_of_getElem? (i := 5) rfl)), by decide +kernel, by decide +kernel, by decide +kernel, by decide +kernel, by decide +kernel⟩
theorem mf_154 : MFr (yX12_frogs, cX12_frogs, 9, (some .int), 12) := ⟨(ts_8 _ (List.mem_of_getElem? (i := 8) rfl)), (ts_1 _ (List.mem_of_getElem? (i := 5) rfl)), by decide +kernel, by decide +kernel, by decide +kernel, by decide +kernel, by decide +kernel⟩
theorem mf_155 : MFr (yX12_toldAt, cX12_toldAt, 3, (some .int), 12) := ⟨(ts_8 _ (List.mem_of_getElem? (i := 16) rfl)), (ts_1 _ (List.mem_of_getElem? (i := 5) rfl)), by decide +kernel, by decide +kernel, by decide +kernel, by decide +kernel, by decide +kernel⟩
theorem mf_156 : MFr (yX12_isOf, cX12_isOf, 3, (some .boolean), 12) := ⟨(ts_11 _ (List.mem_of_getElem? (i := 1) rfl)), (ts_1 _ (List.mem_of_getElem? (i := 5) rfl)), by decide +kernel, by decide +kernel, by decide +kernel, by decide +kernel, by decide +kernel⟩
theorem mf_157 : MFr (yX12_isFit, cX12_isFit, 3, (some .boolean), 12) := ⟨(ts_11 _ (List.mem_of_getElem? (i := 9) rfl)), (ts_1 _ (List.mem_of_getElem? (i := 5) rfl)), by decide +kernel, by decide +kernel, by decide +kernel, by decide +kernel, by decide +kernel⟩
theorem mf_158 : MFr (yX12_get, cX12_get, 3, (some .int), 12) := ⟨(ts_11 _ (List.mem_of_getElem? (i := 13) rfl)), (ts_1 _ (List.mem_of_getElem? (i := 5) rfl)), by decide +kernel, by decide +kernel, by decide +kernel, by decide +kernel, by decide +kernel⟩
theorem mf_159 : MFr (yX12_becomes, cX12_becomes, 4, none, 12) := ⟨(ts_11 _ (List.mem_of_getElem? (i := 17) rfl)), (ts_1 _ (List.mem_of_getElem? (i := 5) rfl)), by decide +kernel, by decide +kernel, by decide +kernel, by decide +kernel, by decide +kernel⟩
theorem mf_160 : MFr (yX12_mend, cX12_mend, 6, (some .int), 12) := ⟨(ts_10 _ (List.mem_of_getElem? (i := 18) rfl)), (ts_1 _ (List.mem_of_getElem? (i := 5) rfl)), by decide +kernel, by decide +kernel, by decide +kernel, by decide +kernel, by decide +kernel⟩
theorem mf_161 : MFr (yX12_of, cX12_of, 3, (some .int), 12) := ⟨(ts_12 _ (List.mem_of_getElem? (i := 1) rfl)), (ts_1 _ (List.mem_of_getElem? (i := 5) rfl)), by decide +kernel, by decide +kernel, by decide +kernel, by decide +kernel, by decide +kernel⟩
theorem mf_162 : MFr (yX12_undo, cX12_undo, 1, (some .int), 12) := ⟨(ts_38 _ (List.mem_of_getElem? (i := 5) rfl)), (ts_1 _ (List.mem_of_getElem? (i := 5) rfl)), by decide +kernel, by decide +kernel, by decide +kernel, by decide +kernel, by decide +kernel⟩
theorem mf_163 : MFr (yX12_redo, cX12_redo, 1, (some .int), 12) := ⟨(ts_38 _ (List.mem_of_getElem? (i := 13) rfl)), (ts_1 _ (List.mem_of_getElem? (i := 5) rfl)), by decide +kernel, by decide +kernel, by decide +kernel, by decide +kernel, by decide +kernel⟩
theorem mf_164 : MFr (yX12_feed, cX12_feed, 2, (some .int), 12) := ⟨(ts_12 _ (List.mem_of_getElem? (i := 10) rfl)), (ts_1 _ (List.mem_of_getElem? (i := 5) rfl)), by decide +kernel, by decide +kernel, by decide +kernel, by decide +kernel, by decide +kernel⟩
theorem mf_165 : MFr (yX12_sign, cX12_sign, 1, (some .int), 12) := ⟨(ts_15 _ (List.mem_of_getElem? (i := 18) rfl)), (ts_1 _ (List.mem_of_getElem? (i := 5) rfl)), by decide +kernel, by decide +kernel, by decide +kernel, by decide +kernel, by decide +kernel⟩
theorem mf_166 : MFr (yX12_is, cX12_is, 2, (some .boolean), 12) := ⟨(ts_15 _ (List.mem_of_getElem? (i := 14) rfl)), (ts_1 _ (List.mem_of_getElem? (i := 5) rfl)), by decide +kernel, by decide +kernel, by decide +kernel, by decide +kernel, by decide +kernel⟩
theorem mf_167 : MFr (yX12_codes, cX12_codes, 2, (some .boolean), 12) := ⟨(ts_15 _ (List.mem_of_getElem? (i := 22) rfl)), (ts_1 _ (List.mem_of_getElem? (i := 5) rfl)), by decide +kernel, by decide +kernel, by decide +kernel, by decide +kernel, by decide +kernel⟩
theorem mf_168 : MFr (yX12_isDigit, cX12_isDigit, 1, (some .boolean), 12) := ⟨(ts_16 _ (List.mem_of_getElem? (i := 11) rfl)), (ts_1 _ (List.mem_of_getElem? (i := 5) rfl)), by decide +kernel, by decide +kernel, by decide +kernel, by decide +kernel, by decide +kernel⟩
theorem mf_169 : MFr (yX12_nameOf, cX12_nameOf, 1, (some .int), 12) := ⟨(ts_16 _ (List.mem_of_getElem? (i := 14) rfl)), (ts_1 _ (List.mem_of_getElem? (i := 5) rfl)), by decide +kernel, by decide +kernel, by decide +kernel, by decide +kernel, by decide +kernel⟩
theorem mf_170 : MFr (yX12_isO, cX12_isO, 3, (some .boolean), 12) := ⟨(ts_16 _ (List.mem_of_getElem? (i := 7) rfl)), (ts_1 _ (List.mem_of_getElem? (i := 5) rfl)), by decide +kernel, by decide +kernel, by decide +kernel, by decide +kernel, by decide +kernel⟩
theorem mf_171 : MFr (yX12_isP, cX12_isP, 2, (some .boolean), 12) := ⟨(ts_16 _ (List.mem_of_getElem? (i := 18) rfl)), (ts_1 _ (List.mem_of_getElem? (i := 5) rfl)), by decide +kernel, by decide +kernel, by decide +kernel, by decide +kernel, by decide +kernel⟩
theorem mf_172 : MFr (yX12_isS, cX12_isS, 2, (some .boolean), 12) := ⟨(ts_16 _ (List.mem_of_getElem? (i := 19) rfl)), (ts_1 _ (List.mem_of_getElem? (i := 5) rfl)), by decide +kernel, by decide +kernel, by decide +kernel, by decide +kernel, by decide +kernel⟩
theorem mf_173 : MFr (yX12_isB, cX12_isB, 2, (some .boolean), 12) := ⟨(ts_16 _ (List.mem_of_getElem? (i := 3) rfl)), (ts_1 _ (List.mem_of_getElem? (i := 5) rfl)), by decide +kernel, by decide +kernel, by decide +kernel, by decide +kernel, by decide +kernel⟩
theorem mf_174 : MFr (yX12_isA, cX12_isA, 1, (some .boolean), 12) := ⟨(ts_15 _ (List.mem_of_getElem? (i := 23) rfl)), (ts_1 _ (List.mem_of_getElem? (i := 5) rfl)), by decide +kernel, by decide +kernel, by decide +kernel, by decide +kernel, by decide +kernel⟩
theorem mf_175 : MFr (yX12_isE, cX12_isE, 1, (some .boolean), 12) := ⟨(ts_15 _ (List.mem_of_getElem? (i := 7) rfl)), (ts_1 _ (List.mem_of_getElem? (i := 5) rfl)), by decide +kernel, by decide +kernel, by decide +kernel, by decide +kernel, by decide +kernel⟩
theorem mf_176 : MFr (yX12_isLine, cX12_isLine, 1, (some .boolean), 12) := ⟨(ts_15 _ (List.mem_of_getElem? (i := 3) rfl)), (ts_1 _ (List.mem_of_getElem? (i := 5) rfl)), by decide +kernel, by decide +kernel, by decide +kernel, by decide +kernel, by decide +kernel⟩
theorem mf_177 : MFr (yX12_law, cX12_law, 4, (some .int), 12) := ⟨(ts_14 _ (List.mem_of_getElem? (i := 17) rfl)), (ts_1 _ (List.mem_of_getElem? (i := 5) rfl)), by decide +kernel, by decide +kernel, by decide +kernel, by decide +kernel, by decide +kernel⟩
theorem mf_178 : MFr (yX12_both, cX12_both, 3, (some .int), 12) := ⟨(ts_19 _ (List.mem_of_getElem? (i := 22) rfl)), (ts_1 _ (List.mem_of_getElem? (i := 5) rfl)), by decide +kernel, by decide +kernel, by decide +kernel, by decide +kernel, by decide +kernel⟩
theorem mf_179 : MFr (yX12_worked, cX12_worked, 6, (some .int), 12) := ⟨(ts_19 _ (List.mem_of_getElem? (i := 19) rfl)), (ts_1 _ (List.mem_of_getElem? (i := 5) rfl)), by decide +kernel, by decide +kernel, by decide +kernel, by decide +kernel, by decide +kernel⟩
theorem mf_180 : MFr (yX12_apart, cX12_apart, 2, (some .int), 12) := ⟨(ts_19 _ (List.mem_of_getElem? (i := 14) rfl)), (ts_1 _ (List.mem_of_getElem? (i := 5) rfl)), by decide +kernel, by decide +kernel, by decide +kernel, by decide +kernel, by decide +kernel⟩
theorem mf_181 : MFr (yX12_owes, cX12_owes, 2, (some .int), 12) := ⟨(ts_19 _ (List.mem_of_getElem? (i := 3) rfl)), (ts_1 _ (List.mem_of_getElem? (i := 5) rfl)), by decide +kernel, by decide +kernel, by decide +kernel, by decide +kernel, by decide +kernel⟩
theorem mf_182 : MFr (yX12_held, cX12_held, 2, (some .int), 12) := ⟨(ts_19 _ (List.mem_of_getElem? (i := 11) rfl)), (ts_1 _ (List.mem_of_getElem? (i := 5) rfl)), by decide +kernel, by decide +kernel, by decide +kernel, by decide +kernel, by decide +kernel⟩
theorem mf_183 : MFr (yX12_byLaw, cX12_byLaw, 3, (some .int), 12) := ⟨(ts_19 _ (List.mem_of_getElem? (i := 7) rfl)), (ts_1 _ (List.mem_of_getElem? (i := 5) rfl)), by decide +kernel, by decide +kernel, by decide +kernel, by decide +kernel, by decide +kernel⟩
theorem mf_184 : MFr (yX12_losesBy, cX12_losesBy, 3, (some .int), 12) := ⟨(ts_18 _ (List.mem_of_getElem? (i := 21) rfl)), (ts_1 _ (List.mem_of_getElem? (i := 5) rfl)), by decide +kernel, by decide +kernel, by decide +kernel, by decide +kernel, by decide +kernel⟩
theorem mf_185 : MFr (yX12_loses, cX12_loses, 2, (some .int), 12) := ⟨(ts_18 _ (List.mem_of_getElem? (i := 17) rfl)), (ts_1 _ (List.mem_of_getElem? (i := 5) rfl)), by decide +kernel, by decide +kernel, by decide +kernel, by decide +kernel, by decide +kernel⟩
theorem mf_186 : MFr (yX12_nearer, cX12_nearer, 2, (some .int), 12) := ⟨(ts_22 _ (List.mem_of_getElem? (i := 20) rfl)), (ts_1 _ (List.mem_of_getElem? (i := 5) rfl)), by decide +kernel, by decide +kernel, by decide +kernel, by decide +kernel, by decide +kernel⟩
theorem mf_187 : MFr (yX12_goes, cX12_goes, 4, none, 12) := ⟨(ts_22 _ (List.mem_of_getElem? (i := 17) rfl)), (ts_1 _ (List.mem_of_getElem? (i := 5) rfl)), by decide +kernel, by decide +kernel, by decide +kernel, by decide +kernel, by decide +kernel⟩
theorem mf_188 : MFr (yX12_passes, cX12_passes, 2, none, 12) := ⟨(ts_22 _ (List.mem_of_getElem? (i := 11) rfl)), (ts_1 _ (List.mem_of_getElem? (i := 5) rfl)), by decide +kernel, by decide +kernel, by decide +kernel, by decide +kernel, by decide +kernel⟩
theorem mf_189 : MFr (yX12_goesOn, cX12_goesOn, 3, none, 12) := ⟨(ts_22 _ (List.mem_of_getElem? (i := 7) rfl)), (ts_1 _ (List.mem_of_getElem? (i := 5) rfl)), by decide +kernel, by decide +kernel, by decide +kernel, by decide +kernel, by decide +kernel⟩
theorem mf_190 : MFr (yX12_keeps, cX12_keeps, 3, none, 12) := ⟨(ts_22 _ (List.mem_of_getElem? (i := 3) rfl)), (ts_1 _ (List.mem_of_getElem? (i := 5) rfl)), by decide +kernel, by decide +kernel, by decide +kernel, by decide +kernel, by decide +kernel⟩
theorem mf_191 : MFr (yX12_laysBack, cX12_laysBack, 5, none, 12) := ⟨(ts_23 _ (List.mem_of_getElem? (i := 4) rfl)), (ts_1 _ (List.mem_of_getElem? (i := 5) rfl)), by decide +kernel, by decide +kernel, by decide +kernel, by decide +kernel, by decide +kernel⟩
theorem mf_192 : MFr (yX12_laysBack_, cX12_laysBack_, 1, none, 12) := ⟨(ts_23 _ (List.mem_of_getElem? (i := 0) rfl)), (ts_1 _ (List.mem_of_getElem? (i := 5) rfl)), by decide +kernel, by decide +kernel, by decide +kernel, by decide +kernel, by decide +kernel⟩
theorem mf_193 : MFr (yX12_owing, cX12_owing, 3, (some .int), 12) := ⟨(ts_24 _ (List.mem_of_getElem? (i := 0) rfl)), (ts_1 _ (List.mem_of_getElem? (i := 5) rfl)), by decide +kernel, by decide +kernel, by decide +kernel, by decide +kernel, by decide +kernel⟩
theorem mf_194 : MFr (yX12_allHeld, cX12_allHeld, 3, (some .int), 12) := ⟨(ts_24 _ (List.mem_of_getElem? (i := 4) rfl)), (ts_1 _ (List.mem_of_getElem? (i := 5) rfl)), by decide +kernel, by decide +kernel, by decide +kernel, by decide +kernel, by decide +kernel⟩
theorem mf_195 : MFr (yX12_later, cX12_later, 5, (some .int), 12) := ⟨(ts_21 _ (List.mem_of_getElem? (i := 23) rfl)), (ts_1 _ (List.mem_of_getElem? (i := 5) rfl)), by decide +kernel, by decide +kernel, by decide +kernel, by decide +kernel, by decide +kernel⟩
theorem mf_196 : MFr (yX12_marsh, cX12_marsh, 4, (some .int), 12) := ⟨(ts_23 _ (List.mem_of_getElem? (i := 20) rfl)), (ts_1 _ (List.mem_of_getElem? (i := 5) rfl)), by decide +kernel, by decide +kernel, by decide +kernel, by decide +kernel, by decide +kernel⟩
theorem mf_197 : MFr (yX12_backWhen, cX12_backWhen, 4, (some .int), 12) := ⟨(ts_24 _ (List.mem_of_getElem? (i := 12) rfl)), (ts_1 _ (List.mem_of_getElem? (i := 5) rfl)), by decide +kernel, by decide +kernel, by decide +kernel, by decide +kernel, by decide +kernel⟩
theorem mf_198 : MFr (yX12_gives, cX12_gives, 3, none, 12) := ⟨(ts_26 _ (List.mem_of_getElem? (i := 6) rfl)), (ts_1 _ (List.mem_of_getElem? (i := 5) rfl)), by decide +kernel, by decide +kernel, by decide +kernel, by decide +kernel, by decide +kernel⟩
theorem mf_199 : MFr (yX12_lent, cX12_lent, 6, none, 12) := ⟨(ts_26 _ (List.mem_of_getElem? (i := 2) rfl)), (ts_1 _ (List.mem_of_getElem? (i := 5) rfl)), by decide +kernel, by decide +kernel, by decide +kernel, by decide +kernel, by decide +kernel⟩
theorem mf_200 : MFr (yX12_isPair, cX12_isPair, 2, (some .boolean), 12) := ⟨(ts_25 _ (List.mem_of_getElem? (i := 22) rfl)), (ts_1 _ (List.mem_of_getElem? (i := 5) rfl)), by decide +kernel, by decide +kernel, by decide +kernel, by decide +kernel, by decide +kernel⟩
theorem mf_201 : MFr (yX12_loan, cX12_loan, 4, (some .int), 12) := ⟨(ts_25 _ (List.mem_of_getElem? (i := 18) rfl)), (ts_1 _ (List.mem_of_getElem? (i := 5) rfl)), by decide +kernel, by decide +kernel, by decide +kernel, by decide +kernel, by decide +kernel⟩
theorem mf_202 : MFr (yX12_best, cX12_best, 7, (some .int), 12) := ⟨(ts_26 _ (List.mem_of_getElem? (i := 15) rfl)), (ts_1 _ (List.mem_of_getElem? (i := 5) rfl)), by decide +kernel, by decide +kernel, by decide +kernel, by decide +kernel, by decide +kernel⟩
theorem mf_203 : MFr (yX12_deals, cX12_deals, 5, none, 12) := ⟨(ts_28 _ (List.mem_of_getElem? (i := 6) rfl)), (ts_1 _ (List.mem_of_getElem? (i := 5) rfl)), by decide +kernel, by decide +kernel, by decide +kernel, by decide +kernel, by decide +kernel⟩
theorem mf_204 : MFr (yX12_dealt, cX12_dealt, 5, (some .int), 12) := ⟨(ts_28 _ (List.mem_of_getElem? (i := 1) rfl)), (ts_1 _ (List.mem_of_getElem? (i := 5) rfl)), by decide +kernel, by decide +kernel, by decide +kernel, by decide +kernel, by decide +kernel⟩
theorem mf_205 : MFr (yX12_heldBehind, cX12_heldBehind, 6, (some .int), 12) := ⟨(ts_28 _ (List.mem_of_getElem? (i := 22) rfl)), (ts_1 _ (List.mem_of_getElem? (i := 5) rfl)), by decide +kernel, by decide +kernel, by decide +kernel, by decide +kernel, by decide +kernel⟩
theorem mf_206 : MFr (yX12_least, cX12_least, 4, (some .int), 12) := ⟨(ts_28 _ (List.mem_of_getElem? (i := 18) rfl)), (ts_1 _ (List.mem_of_getElem? (i := 5) rfl)), by decide +kernel, by decide +kernel, by decide +kernel, by decide +kernel, by decide +kernel⟩
theorem mf_207 : MFr (yX12_common, cX12_common, 5, (some .int), 12) := ⟨(ts_30 _ (List.mem_of_getElem? (i := 0) rfl)), (ts_1 _ (List.mem_of_getElem? (i := 5) rfl)), by decide +kernel, by decide +kernel, by decide +kernel, by decide +kernel, by decide +kernel⟩
theorem mf_208 : MFr (yX12_bars, cX12_bars, 6, (some .int), 12) := ⟨(ts_29 _ (List.mem_of_getElem? (i := 21) rfl)), (ts_1 _ (List.mem_of_getElem? (i := 5) rfl)), by decide +kernel, by decide +kernel, by decide +kernel, by decide +kernel, by decide +kernel⟩
theorem mf_209 : MFr (yX12_areNear, cX12_areNear, 6, (some .boolean), 12) := ⟨(ts_30 _ (List.mem_of_getElem? (i := 22) rfl)), (ts_1 _ (List.mem_of_getElem? (i := 5) rfl)), by decide +kernel, by decide +kernel, by decide +kernel, by decide +kernel, by decide +kernel⟩
theorem mf_210 : MFr (yX12_stops, cX12_stops, 5, (some .int), 12) := ⟨(ts_30 _ (List.mem_of_getElem? (i := 17) rfl)), (ts_1 _ (List.mem_of_getElem? (i := 5) rfl)), by decide +kernel, by decide +kernel, by decide +kernel, by decide +kernel, by decide +kernel⟩
theorem mf_211 : MFr (yX12_noBytes, cX12_noBytes, 2, (some .int), 12) := ⟨(ts_31 _ (List.mem_of_getElem? (i := 20) rfl)), (ts_1 _ (List.mem_of_getElem? (i := 5) rfl)), by decide +kernel, by decide +kernel, by decide +kernel, by decide +kernel, by decide +kernel⟩
theorem mf_212 : MFr (yX12_unlike, cX12_unlike, 5, (some .int), 12) := ⟨(ts_32 _ (List.mem_of_getElem? (i := 0) rfl)), (ts_1 _ (List.mem_of_getElem? (i := 5) rfl)), by decide +kernel, by decide +kernel, by decide +kernel, by decide +kernel, by decide +kernel⟩
theorem mf_213 : MFr (yX12_judge, cX12_judge, 4, (some .int), 12) := ⟨(ts_31 _ (List.mem_of_getElem? (i := 16) rfl)), (ts_1 _ (List.mem_of_getElem? (i := 5) rfl)), by decide +kernel, by decide +kernel, by decide +kernel, by decide +kernel, by decide +kernel⟩
theorem mf_214 : MFr (yX12_fits, cX12_fits, 9, (some .int), 12) := ⟨(ts_32 _ (List.mem_of_getElem? (i := 16) rfl)), (ts_1 _ (List.mem_of_getElem? (i := 5) rfl)), by decide +kernel, by decide +kernel, by decide +kernel, by decide +kernel, by decide +kernel⟩
theorem mf_215 : MFr (yX12_alike, cX12_alike, 6, (some .int), 12) := ⟨(ts_33 _ (List.mem_of_getElem? (i := 4) rfl)), (ts_1 _ (List.mem_of_getElem? (i := 5) rfl)), by decide +kernel, by decide +kernel, by decide +kernel, by decide +kernel, by decide +kernel⟩
theorem mf_216 : MFr (yX12_nearest, cX12_nearest, 4, (some .int), 12) := ⟨(ts_33 _ (List.mem_of_getElem? (i := 20) rfl)), (ts_1 _ (List.mem_of_getElem? (i := 5) rfl)), by decide +kernel, by decide +kernel, by decide +kernel, by decide +kernel, by decide +kernel⟩
theorem mf_217 : MFr (yX12_ring, cX12_ring, 5, (some .int), 12) := ⟨(ts_33 _ (List.mem_of_getElem? (i := 16) rfl)), (ts_1 _ (List.mem_of_getElem? (i := 5) rfl)), by decide +kernel, by decide +kernel, by decide +kernel, by decide +kernel, by decide +kernel⟩
theorem mf_218 : MFr (yX12_turnFrom, cX12_turnFrom, 6, (some .int), 12) := ⟨(ts_34 _ (List.mem_of_getElem? (i := 20) rfl)), (ts_1 _ (List.mem_of_getElem? (i := 5) rfl)), by decide +kernel, by decide +kernel, by decide +kernel, by decide +kernel, by decide +kernel⟩
theorem mf_219 : MFr (yX12_turnBy, cX12_turnBy, 7, (some .int), 12) := ⟨(ts_35 _ (List.mem_of_getElem? (i := 0) rfl)), (ts_1 _ (List.mem_of_getElem? (i := 5) rfl)), by decide +kernel, by decide +kernel, by decide +kernel, by decide +kernel, by decide +kernel⟩
theorem mf_220 : MFr (yX12_byTurns, cX12_byTurns, 6, (some .int), 12) := ⟨(ts_34 _ (List.mem_of_getElem? (i := 16) rfl)), (ts_1 _ (List.mem_of_getElem? (i := 5) rfl)), by decide +kernel, by decide +kernel, by decide +kernel, by decide +kernel, by decide +kernel⟩
theorem mf_221 : MFr (yX12_drawn, cX12_drawn, 8, (some .int), 12) := ⟨(ts_35 _ (List.mem_of_getElem? (i := 13) rfl)), (ts_1 _ (List.mem_of_getElem? (i := 5) rfl)), by decide +kernel, by decide +kernel, by decide +kernel, by decide +kernel, by decide +kernel⟩
theorem mf_222 : MFr (yX12_hour, cX12_hour, 2, (some .int), 12) := ⟨(ts_35 _ (List.mem_of_getElem? (i := 22) rfl)), (ts_1 _ (List.mem_of_getElem? (i := 5) rfl)), by decide +kernel, by decide +kernel, by decide +kernel, by decide +kernel, by decide +kernel⟩
theorem mf_223 : MFr (yX12_lends, cX12_lends, 3, (some .int), 12) := ⟨(ts_36 _ (List.mem_of_getElem? (i := 7) rfl)), (ts_1 _ (List.mem_of_getElem? (i := 5) rfl)), by decide +kernel, by decide +kernel, by decide +kernel, by decide +kernel, by decide +kernel⟩
theorem mf_224 : MFr (yX12_over, cX12_over, 3, (some .int), 12) := ⟨(ts_36 _ (List.mem_of_getElem? (i := 16) rfl)), (ts_1 _ (List.mem_of_getElem? (i := 5) rfl)), by decide +kernel, by decide +kernel, by decide +kernel, by decide +kernel, by decide +kernel⟩
theorem mf_225 : MFr (yX12_led, cX12_led, 2, (some .int), 12) := ⟨(ts_37 _ (List.mem_of_getElem? (i := 0) rfl)), (ts_1 _ (List.mem_of_getElem? (i := 5) rfl)), by decide +kernel, by decide +kernel, by decide +kernel, by decide +kernel, by decide +kernel⟩
theorem mf_226 : MFr (yX12_image, cX12_image, 2, (some .int), 12) := ⟨(ts_37 _ (List.mem_of_getElem? (i := 9) rfl)), (ts_1 _ (List.mem_of_getElem? (i := 5) rfl)), by decide +kernel, by decide +kernel, by decide +kernel, by decide +kernel, by decide +kernel⟩
theorem mf_227 : MFr (yX12_back, cX12_back, 2, (some .int), 12) := ⟨(ts_37 _ (List.mem_of_getElem? (i := 21) rfl)), (ts_1 _ (List.mem_of_getElem? (i := 5) rfl)), by decide +kernel, by decide +kernel, by decide +kernel, by decide +kernel, by decide +kernel⟩
theorem mf_228 : MFr (yX12_above, cX12_above, 1, (some .int), 12) := ⟨(ts_48 _ (List.mem_of_getElem? (i := 1) rfl)), (ts_1 _ (List.mem_of_getElem? (i := 5) rfl)), by decide +kernel, by decide +kernel, by decide +kernel, by decide +kernel, by decide +kernel⟩
theorem mf_229 : MFr (yX12_ran, cX12_ran, 2, none, 12) := ⟨(ts_47 _ (List.mem_of_getElem? (i := 22) rfl)), (ts_1 _ (List.mem_of_getElem? (i := 5) rfl)), by decide +kernel, by decide +kernel, by decide +kernel, by decide +kernel, by decide +kernel⟩
theorem mf_230 : MFr (yX12_lendsBy, cX12_lendsBy, 4, (some .int), 12) := ⟨(ts_47 _ (List.mem_of_getElem? (i := 18) rfl)), (ts_1 _ (List.mem_of_getElem? (i := 5) rfl)), by decide +kernel, by decide +kernel, by decide +kernel, by decide +kernel, by decide +kernel⟩
theorem mf_231 : MFr (yX12_singsBy, cX12_singsBy, 5, (some .int), 12) := ⟨(ts_48 _ (List.mem_of_getElem? (i := 5) rfl)), (ts_1 _ (List.mem_of_getElem? (i := 5) rfl)), by decide +kernel, by decide +kernel, by decide +kernel, by decide +kernel, by decide +kernel⟩
theorem mf_232 : MFr (yX12_keepsBy, cX12_keepsBy, 5, (some .int), 12) := ⟨(ts_48 _ (List.mem_of_getElem? (i := 9) rfl)), (ts_1 _ (List.mem_of_getElem? (i := 5) rfl)), by decide +kernel, by decide +kernel, by decide +kernel, by decide +kernel, by decide +kernel⟩
theorem mf_233 : MFr (yX12_tells, cX12_tells, 5, (some .int), 12) := ⟨(ts_48 _ (List.mem_of_getElem? (i := 13) rfl)), (ts_1 _ (List.mem_of_getElem? (i := 5) rfl)), by decide +kernel, by decide +kernel, by decide +kernel, by decide +kernel, by decide +kernel⟩
theorem mf_234 : MFr (yX12_body, cX12_body, 2, (some .int), 12) := ⟨(ts_41 _ (List.mem_of_getElem? (i := 12) rfl)), (ts_1 _ (List.mem_of_getElem? (i := 5) rfl)), by decide +kernel, by decide +kernel, by decide +kernel, by decide +kernel, by decide +kernel⟩
theorem mf_235 : MFr (yX12_act, cX12_act, 5, (some .int), 12) := ⟨(ts_47 _ (List.mem_of_getElem? (i := 13) rfl)), (ts_1 _ (List.mem_of_getElem? (i := 5) rfl)), by decide +kernel, by decide +kernel, by decide +kernel, by decide +kernel, by decide +kernel⟩
theorem mf_236 : MFr (yX12_trace, cX12_trace, 2, (some .int), 12) := ⟨(ts_48 _ (List.mem_of_getElem? (i := 21) rfl)), (ts_1 _ (List.mem_of_getElem? (i := 5) rfl)), by decide +kernel, by decide +kernel, by decide +kernel, by decide +kernel, by decide +kernel⟩
theorem mf_237 : MFr (yX12_keep, cX12_keep, 3, (some .int), 12) := ⟨(ts_49 _ (List.mem_of_getElem? (i := 9) rfl)), (ts_1 _ (List.mem_of_getElem? (i := 5) rfl)), by decide +kernel, by decide +kernel, by decide +kernel, by decide +kernel, by decide +kernel⟩
theorem mf_238 : MFr (yX12_row, cX12_row, 5, (some .int), 12) := ⟨(ts_50 _ (List.mem_of_getElem? (i := 0) rfl)), (ts_1 _ (List.mem_of_getElem? (i := 5) rfl)), by decide +kernel, by decide +kernel, by decide +kernel, by decide +kernel, by decide +kernel⟩
theorem mf_239 : MFr (yX12_isRow, cX12_isRow, 2, (some .boolean), 12) := ⟨(ts_51 _ (List.mem_of_getElem? (i := 0) rfl)), (ts_1 _ (List.mem_of_getElem? (i := 5) rfl)), by decide +kernel, by decide +kernel, by decide +kernel, by decide +kernel, by decide +kernel⟩
theorem mf_240 : MFr (yX12_kept, cX12_kept, 3, (some .long), 12) := ⟨(ts_51 _ (List.mem_of_getElem? (i := 3) rfl)), (ts_1 _ (List.mem_of_getElem? (i := 5) rfl)), by decide +kernel, by decide +kernel, by decide +kernel, by decide +kernel, by decide +kernel⟩
theorem mf_241 : MFr (yX12_put, cX12_put, 5, (some .int), 12) := ⟨(ts_50 _ (List.mem_of_getElem? (i := 20) rfl)), (ts_1 _ (List.mem_of_getElem? (i := 5) rfl)), by decide +kernel, by decide +kernel, by decide +kernel, by decide +kernel, by decide +kernel⟩
theorem mf_242 : MFr (yX12_element, cX12_element, 3, (some .long), 12) := ⟨(ts_51 _ (List.mem_of_getElem? (i := 12) rfl)), (ts_1 _ (List.mem_of_getElem? (i := 5) rfl)), by decide +kernel, by decide +kernel, by decide +kernel, by decide +kernel, by decide +kernel⟩
theorem mf_243 : MFr (yX12_shift, cX12_shift, 7, (some .int), 12) := ⟨(ts_51 _ (List.mem_of_getElem? (i := 23) rfl)), (ts_1 _ (List.mem_of_getElem? (i := 5) rfl)), by decide +kernel, by decide +kernel, by decide +kernel, by decide +kernel, by decide +kernel⟩
theorem mf_244 : MFr (yX12_taken, cX12_taken, 5, (some .int), 12) := ⟨(ts_52 _ (List.mem_of_getElem? (i := 19) rfl)), (ts_1 _ (List.mem_of_getElem? (i := 5) rfl)), by decide +kernel, by decide +kernel, by decide +kernel, by decide +kernel, by decide +kernel⟩
theorem mf_245 : MFr (yX12_count, cX12_count, 2, (some .int), 12) := ⟨(ts_53 _ (List.mem_of_getElem? (i := 3) rfl)), (ts_1 _ (List.mem_of_getElem? (i := 5) rfl)), by decide +kernel, by decide +kernel, by decide +kernel, by decide +kernel, by decide +kernel⟩
theorem mf_246 : MFr (yJ6_compare_7cf53, cJ6_compare_7cf53, 2, (some .int), 14) := ⟨(ts_21 _ (List.mem_of_getElem? (i := 11) rfl)), (ts_21 _ (List.mem_of_getElem? (i := 10) rfl)), by decide +kernel, by decide +kernel, by decide +kernel, by decide +kernel, by decide +kernel⟩
theorem mf_247 : MFr (yJ6_bitCount_0f7a4, cJ6_bitCount_0f7a4, 1, (some .int), 14) := ⟨(ts_29 _ (List.mem_of_getElem? (i := 14) rfl)), (ts_21 _ (List.mem_of_getElem? (i := 10) rfl)), by decide +kernel, by decide +kernel, by decide +kernel, by decide +kernel, by decide +kernel⟩
theorem mf_248 : MFr (yJ7_fill_d0a16, cJ7_fill_d0a16, 5, none, 16) := ⟨(ts_49 _ (List.mem_of_getElem? (i := 20) rfl)), (ts_27 _ (List.mem_of_getElem? (i := 8) rfl)), by decide +kernel, by decide +kernel, by decide +kernel, by decide +kernel, by decide +kernel⟩
theorem mf_249 : MFr (yJ7_fill_53178, cJ7_fill_53178, 4, none, 16) := ⟨(ts_27 _ (List.mem_of_getElem? (i := 9) rfl)), (ts_27 _ (List.mem_of_getElem? (i := 8) rfl)), by decide +kernel, by decide +kernel, by decide +kernel, by decide +kernel, by decide +kernel⟩
theorem mfs_0 : ∀ e ∈ mTab_0, e ≠ (yL_law, cL_law, 4, (some .boolean), 13) → MFr e := List.forall_mem_cons.mpr ⟨fun h => absurd rfl h, List.forall_mem_cons.mpr ⟨fun _ => mf_1, List.forall_mem_cons.mpr ⟨fun _ => mf_2, List.forall_mem_cons.mpr ⟨fun _ => mf_3, List.forall_mem_cons.mpr ⟨fun _ => mf_4, List.forall_mem_cons.mpr ⟨fun _ => mf_5, List.forall_mem_cons.mpr ⟨fun _ => mf_6, List.forall_mem_cons.mpr ⟨fun _ => mf_7, List.forall_mem_cons.mpr ⟨fun _ => mf_8, List.forall_mem_cons.mpr ⟨fun _ => mf_9, List.forall_mem_cons.mpr ⟨fun _ => mf_10, List.forall_mem_cons.mpr ⟨fun _ => mf_11, List.forall_mem_cons.mpr ⟨fun _ => mf_12, List.forall_mem_cons.mpr ⟨fun _ => mf_13, List.forall_mem_cons.mpr ⟨fun _ => mf_14, List.forall_mem_cons.mpr ⟨fun _ => mf_15, fun _ h => absurd h List.not_mem_nil⟩⟩⟩⟩⟩⟩⟩⟩⟩⟩⟩⟩⟩⟩⟩⟩
theorem mfs_1 : ∀ e ∈ mTab_1, e ≠ (yL_law, cL_law, 4, (some .boolean), 13) → MFr e := List.forall_mem_cons.mpr ⟨fun _ => mf_16, List.forall_mem_cons.mpr ⟨fun _ => mf_17, List.forall_mem_cons.mpr ⟨fun _ => mf_18, List.forall_mem_cons.mpr ⟨fun _ => mf_19, List.forall_mem_cons.mpr ⟨fun _ => mf_20, List.forall_mem_cons.mpr ⟨fun _ => mf_21, List.forall_mem_cons.mpr ⟨fun _ => mf_22, List.forall_mem_cons.mpr ⟨fun _ => mf_23, List.forall_mem_cons.mpr ⟨fun _ => mf_24, List.forall_mem_cons.mpr ⟨fun _ => mf_25, List.forall_mem_cons.mpr ⟨fun _ => mf_26, List.forall_mem_cons.mpr ⟨fun _ => mf_27, List.forall_mem_cons.mpr ⟨fun _ => mf_28, List.forall_mem_cons.mpr ⟨fun _ => mf_29, List.forall_mem_cons.mpr ⟨fun _ => mf_30, List.forall_mem_cons.mpr ⟨fun _ => mf_31, fun _ h => absurd h List.not_mem_nil⟩⟩⟩⟩⟩⟩⟩⟩⟩⟩⟩⟩⟩⟩⟩⟩
theorem mfs_2 : ∀ e ∈ mTab_2, e ≠ (yL_law, cL_law, 4, (some .boolean), 13) → MFr e := List.forall_mem_cons.mpr ⟨fun _ => mf_32, List.forall_mem_cons.mpr ⟨fun _ => mf_33, List.forall_mem_cons.mpr ⟨fun _ => mf_34, List.forall_mem_cons.mpr ⟨fun _ => mf_35, List.forall_mem_cons.mpr ⟨fun _ => mf_36, List.forall_mem_cons.mpr ⟨fun _ => mf_37, List.forall_mem_cons.mpr ⟨fun _ => mf_38, List.forall_mem_cons.mpr ⟨fun _ => mf_39, List.forall_mem_cons.mpr ⟨fun _ => mf_40, List.forall_mem_cons.mpr ⟨fun _ => mf_41, List.forall_mem_cons.mpr ⟨fun _ => mf_42, List.forall_mem_cons.mpr ⟨fun _ => mf_43, List.forall_mem_cons.mpr ⟨fun _ => mf_44, List.forall_mem_cons.mpr ⟨fun _ => mf_45, List.forall_mem_cons.mpr ⟨fun _ => mf_46, List.forall_mem_cons.mpr ⟨fun _ => mf_47, fun _ h => absurd h List.not_mem_nil⟩⟩⟩⟩⟩⟩⟩⟩⟩⟩⟩⟩⟩⟩⟩⟩
theorem mfs_3 : ∀ e ∈ mTab_3, e ≠ (yL_law, cL_law, 4, (some .boolean), 13) → MFr e := List.forall_mem_cons.mpr ⟨fun _ => mf_48, List.forall_mem_cons.mpr ⟨fun _ => mf_49, List.forall_mem_cons.mpr ⟨fun _ => mf_50, List.forall_mem_cons.mpr ⟨fun _ => mf_51, List.forall_mem_cons.mpr ⟨fun _ => mf_52, List.forall_mem_cons.mpr ⟨fun _ => mf_53, List.forall_mem_cons.mpr ⟨fun _ => mf_54, List.forall_mem_cons.mpr ⟨fun _ => mf_55, List.forall_mem_cons.mpr ⟨fun _ => mf_56, List.forall_mem_cons.mpr ⟨fun _ => mf_57, List.forall_mem_cons.mpr ⟨fun _ => mf_58, List.forall_mem_cons.mpr ⟨fun _ => mf_59, List.forall_mem_cons.mpr ⟨fun _ => mf_60, List.forall_mem_cons.mpr ⟨fun _ => mf_61, List.forall_mem_cons.mpr ⟨fun _ => mf_62, List.forall_mem_cons.mpr ⟨fun _ => mf_63, fun _ h => absurd h List.not_mem_nil⟩⟩⟩⟩⟩⟩⟩⟩⟩⟩⟩⟩⟩⟩⟩⟩
theorem mfs_4 : ∀ e ∈ mTab_4, e ≠ (yL_law, cL_law, 4, (some .boolean), 13) → MFr e := List.forall_mem_cons.mpr ⟨fun _ => mf_64, List.forall_mem_cons.mpr ⟨fun _ => mf_65, List.forall_mem_cons.mpr ⟨fun _ => mf_66, List.forall_mem_cons.mpr ⟨fun _ => mf_67, List.forall_mem_cons.mpr ⟨fun _ => mf_68, List.forall_mem_cons.mpr ⟨fun _ => mf_69, List.forall_mem_cons.mpr ⟨fun _ => mf_70, List.forall_mem_cons.mpr ⟨fun _ => mf_71, List.forall_mem_cons.mpr ⟨fun _ => mf_72, List.forall_mem_cons.mpr ⟨fun _ => mf_73, List.forall_mem_cons.mpr ⟨fun _ => mf_74, List.forall_mem_cons.mpr ⟨fun _ => mf_75, List.forall_mem_cons.mpr ⟨fun _ => mf_76, List.forall_mem_cons.mpr ⟨fun _ => mf_77, List.forall_mem_cons.mpr ⟨fun _ => mf_78, List.forall_mem_cons.mpr ⟨fun _ => mf_79, fun _ h => absurd h List.not_mem_nil⟩⟩⟩⟩⟩⟩⟩⟩⟩⟩⟩⟩⟩⟩⟩⟩
theorem mfs_5 : ∀ e ∈ mTab_5, e ≠ (yL_law, cL_law, 4, (some .boolean), 13) → MFr e := List.forall_mem_cons.mpr ⟨fun _ => mf_80, List.forall_mem_cons.mpr ⟨fun _ => mf_81, List.forall_mem_cons.mpr ⟨fun _ => mf_82, List.forall_mem_cons.mpr ⟨fun _ => mf_83, List.forall_mem_cons.mpr ⟨fun _ => mf_84, List.forall_mem_cons.mpr ⟨fun _ => mf_85, List.forall_mem_cons.mpr ⟨fun _ => mf_86, List.forall_mem_cons.mpr ⟨fun _ => mf_87, List.forall_mem_cons.mpr ⟨fun _ => mf_88, List.forall_mem_cons.mpr ⟨fun _ => mf_89, List.forall_mem_cons.mpr ⟨fun _ => mf_90, List.forall_mem_cons.mpr ⟨fun _ => mf_91, List.forall_mem_cons.mpr ⟨fun _ => mf_92, List.forall_mem_cons.mpr ⟨fun _ => mf_93, List.forall_mem_cons.mpr ⟨fun _ => mf_94, List.forall_mem_cons.mpr ⟨fun _ => mf_95, fun _ h => absurd h List.not_mem_nil⟩⟩⟩⟩⟩⟩⟩⟩⟩⟩⟩⟩⟩⟩⟩⟩
theorem mfs_6 : ∀ e ∈ mTab_6, e ≠ (yL_law, cL_law, 4, (some .boolean), 13) → MFr e := List.forall_mem_cons.mpr ⟨fun _ => mf_96, List.forall_mem_cons.mpr ⟨fun _ => mf_97, List.forall_mem_cons.mpr ⟨fun _ => mf_98, List.forall_mem_cons.mpr ⟨fun _ => mf_99, List.forall_mem_cons.mpr ⟨fun _ => mf_100, List.forall_mem_cons.mpr ⟨fun _ => mf_101, List.forall_mem_cons.mpr ⟨fun _ => mf_102, List.forall_mem_cons.mpr ⟨fun _ => mf_103, List.forall_mem_cons.mpr ⟨fun _ => mf_104, List.forall_mem_cons.mpr ⟨fun _ => mf_105, List.forall_mem_cons.mpr ⟨fun _ => mf_106, List.forall_mem_cons.mpr ⟨fun _ => mf_107, List.forall_mem_cons.mpr ⟨fun _ => mf_108, List.forall_mem_cons.mpr ⟨fun _ => mf_109, List.forall_mem_cons.mpr ⟨fun _ => mf_110, List.forall_mem_cons.mpr ⟨fun _ => mf_111, fun _ h => absurd h List.not_mem_nil⟩⟩⟩⟩⟩⟩⟩⟩⟩⟩⟩⟩⟩⟩⟩⟩
theorem mfs_7 : ∀ e ∈ mTab_7, e ≠ (yL_law, cL_law, 4, (some .boolean), 13) → MFr e := List.forall_mem_cons.mpr ⟨fun _ => mf_112, List.forall_mem_cons.mpr ⟨fun _ => mf_113, List.forall_mem_cons.mpr ⟨fun _ => mf_114, List.forall_mem_cons.mpr ⟨fun _ => mf_115, List.forall_mem_cons.mpr ⟨fun _ => mf_116, List.forall_mem_cons.mpr ⟨fun _ => mf_117, List.forall_mem_cons.mpr ⟨fun _ => mf_118, List.forall_mem_cons.mpr ⟨fun _ => mf_119, List.forall_mem_cons.mpr ⟨fun _ => mf_120, List.forall_mem_cons.mpr ⟨fun _ => mf_121, List.forall_mem_cons.mpr ⟨fun _ => mf_122, List.forall_mem_cons.mpr ⟨fun _ => mf_123, List.forall_mem_cons.mpr ⟨fun _ => mf_124, List.forall_mem_cons.mpr ⟨fun _ => mf_125, List.forall_mem_cons.mpr ⟨fun _ => mf_126, List.forall_mem_cons.mpr ⟨fun _ => mf_127, fun _ h => absurd h List.not_mem_nil⟩⟩⟩⟩⟩⟩⟩⟩⟩⟩⟩⟩⟩⟩⟩⟩
theorem mfs_8 : ∀ e ∈ mTab_8, e ≠ (yL_law, cL_law, 4, (some .boolean), 13) → MFr e := List.forall_mem_cons.mpr ⟨fun _ => mf_128, List.forall_mem_cons.mpr ⟨fun _ => mf_129, List.forall_mem_cons.mpr ⟨fun _ => mf_130, List.forall_mem_cons.mpr ⟨fun _ => mf_131, List.forall_mem_cons.mpr ⟨fun _ => mf_132, List.forall_mem_cons.mpr ⟨fun _ => mf_133, List.forall_mem_cons.mpr ⟨fun _ => mf_134, List.forall_mem_cons.mpr ⟨fun _ => mf_135, List.forall_mem_cons.mpr ⟨fun _ => mf_136, List.forall_mem_cons.mpr ⟨fun _ => mf_137, List.forall_mem_cons.mpr ⟨fun _ => mf_138, List.forall_mem_cons.mpr ⟨fun _ => mf_139, List.forall_mem_cons.mpr ⟨fun _ => mf_140, List.forall_mem_cons.mpr ⟨fun _ => mf_141, List.forall_mem_cons.mpr ⟨fun _ => mf_142, List.forall_mem_cons.mpr ⟨fun _ => mf_143, fun _ h => absurd h List.not_mem_nil⟩⟩⟩⟩⟩⟩⟩⟩⟩⟩⟩⟩⟩⟩⟩⟩
theorem mfs_9 : ∀ e ∈ mTab_9, e ≠ (yL_law, cL_law, 4, (some .boolean), 13) → MFr e := List.forall_mem_cons.mpr ⟨fun _ => mf_144, List.forall_mem_cons.mpr ⟨fun _ => mf_145, List.forall_mem_cons.mpr ⟨fun _ => mf_146, List.forall_mem_cons.mpr ⟨fun _ => mf_147, List.forall_mem_cons.mpr ⟨fun _ => mf_148, List.forall_mem_cons.mpr ⟨fun _ => mf_149, List.forall_mem_cons.mpr ⟨fun _ => mf_150, List.forall_mem_cons.mpr ⟨fun _ => mf_151, List.forall_mem_cons.mpr ⟨fun _ => mf_152, List.forall_mem_cons.mpr ⟨fun _ => mf_153, List.forall_mem_cons.mpr ⟨fun _ => mf_154, List.forall_mem_cons.mpr ⟨fun _ => mf_155, List.forall_mem_cons.mpr ⟨fun _ => mf_156, List.forall_mem_cons.mpr ⟨fun _ => mf_157, List.forall_mem_cons.mpr ⟨fun _ => mf_158, List.forall_mem_cons.mpr ⟨fun _ => mf_159, fun _ h => absurd h List.not_mem_nil⟩⟩⟩⟩⟩⟩⟩⟩⟩⟩⟩⟩⟩⟩⟩⟩
theorem mfs_10 : ∀ e ∈ mTab_10, e ≠ (yL_law, cL_law, 4, (some .boolean), 13) → MFr e := List.forall_mem_cons.mpr ⟨fun _ => mf_160, List.forall_mem_cons.mpr ⟨fun _ => mf_161, List.forall_mem_cons.mpr ⟨fun _ => mf_162, List.forall_mem_cons.mpr ⟨fun _ => mf_163, List.forall_mem_cons.mpr ⟨fun _ => mf_164, List.forall_mem_cons.mpr ⟨fun _ => mf_165, List.forall_mem_cons.mpr ⟨fun _ => mf_166, List.forall_mem_cons.mpr ⟨fun _ => mf_167, List.forall_mem_cons.mpr ⟨fun _ => mf_168, List.forall_mem_cons.mpr ⟨fun _ => mf_169, List.forall_mem_cons.mpr ⟨fun _ => mf_170, List.forall_mem_cons.mpr ⟨fun _ => mf_171, List.forall_mem_cons.mpr ⟨fun _ => mf_172, List.forall_mem_cons.mpr ⟨fun _ => mf_173, List.forall_mem_cons.mpr ⟨fun _ => mf_174, List.forall_mem_cons.mpr ⟨fun _ => mf_175, fun _ h => absurd h List.not_mem_nil⟩⟩⟩⟩⟩⟩⟩⟩⟩⟩⟩⟩⟩⟩⟩⟩
theorem mfs_11 : ∀ e ∈ mTab_11, e ≠ (yL_law, cL_law, 4, (some .boolean), 13) → MFr e := List.forall_mem_cons.mpr ⟨fun _ => mf_176, List.forall_mem_cons.mpr ⟨fun _ => mf_177, List.forall_mem_cons.mpr ⟨fun _ => mf_178, List.forall_mem_cons.mpr ⟨fun _ => mf_179, List.forall_mem_cons.mpr ⟨fun _ => mf_180, List.forall_mem_cons.mpr ⟨fun _ => mf_181, List.forall_mem_cons.mpr ⟨fun _ => mf_182, List.forall_mem_cons.mpr ⟨fun _ => mf_183, List.forall_mem_cons.mpr ⟨fun _ => mf_184, List.forall_mem_cons.mpr ⟨fun _ => mf_185, List.forall_mem_cons.mpr ⟨fun _ => mf_186, List.forall_mem_cons.mpr ⟨fun _ => mf_187, List.forall_mem_cons.mpr ⟨fun _ => mf_188, List.forall_mem_cons.mpr ⟨fun _ => mf_189, List.forall_mem_cons.mpr ⟨fun _ => mf_190, List.forall_mem_cons.mpr ⟨fun _ => mf_191, fun _ h => absurd h List.not_mem_nil⟩⟩⟩⟩⟩⟩⟩⟩⟩⟩⟩⟩⟩⟩⟩⟩
theorem mfs_12 : ∀ e ∈ mTab_12, e ≠ (yL_law, cL_law, 4, (some .boolean), 13) → MFr e := List.forall_mem_cons.mpr ⟨fun _ => mf_192, List.forall_mem_cons.mpr ⟨fun _ => mf_193, List.forall_mem_cons.mpr ⟨fun _ => mf_194, List.forall_mem_cons.mpr ⟨fun _ => mf_195, List.forall_mem_cons.mpr ⟨fun _ => mf_196, List.forall_mem_cons.mpr ⟨fun _ => mf_197, List.forall_mem_cons.mpr ⟨fun _ => mf_198, List.forall_mem_cons.mpr ⟨fun _ => mf_199, List.forall_mem_cons.mpr ⟨fun _ => mf_200, List.forall_mem_cons.mpr ⟨fun _ => mf_201, List.forall_mem_cons.mpr ⟨fun _ => mf_202, List.forall_mem_cons.mpr ⟨fun _ => mf_203, List.forall_mem_cons.mpr ⟨fun _ => mf_204, List.forall_mem_cons.mpr ⟨fun _ => mf_205, List.forall_mem_cons.mpr ⟨fun _ => mf_206, List.forall_mem_cons.mpr ⟨fun _ => mf_207, fun _ h => absurd h List.not_mem_nil⟩⟩⟩⟩⟩⟩⟩⟩⟩⟩⟩⟩⟩⟩⟩⟩
theorem mfs_13 : ∀ e ∈ mTab_13, e ≠ (yL_law, cL_law, 4, (some .boolean), 13) → MFr e := List.forall_mem_cons.mpr ⟨fun _ => mf_208, List.forall_mem_cons.mpr ⟨fun _ => mf_209, List.forall_mem_cons.mpr ⟨fun _ => mf_210, List.forall_mem_cons.mpr ⟨fun _ => mf_211, List.forall_mem_cons.mpr ⟨fun _ => mf_212, List.forall_mem_cons.mpr ⟨fun _ => mf_213, List.forall_mem_cons.mpr ⟨fun _ => mf_214, List.forall_mem_cons.mpr ⟨fun _ => mf_215, List.forall_mem_cons.mpr ⟨fun _ => mf_216, List.forall_mem_cons.mpr ⟨fun _ => mf_217, List.forall_mem_cons.mpr ⟨fun _ => mf_218, List.forall_mem_cons.mpr ⟨fun _ => mf_219, List.forall_mem_cons.mpr ⟨fun _ => mf_220, List.forall_mem_cons.mpr ⟨fun _ => mf_221, List.forall_mem_cons.mpr ⟨fun _ => mf_222, List.forall_mem_cons.mpr ⟨fun _ => mf_223, fun _ h => absurd h List.not_mem_nil⟩⟩⟩⟩⟩⟩⟩⟩⟩⟩⟩⟩⟩⟩⟩⟩
theorem mfs_14 : ∀ e ∈ mTab_14, e ≠ (yL_law, cL_law, 4, (some .boolean), 13) → MFr e := List.forall_mem_cons.mpr ⟨fun _ => mf_224, List.forall_mem_cons.mpr ⟨fun _ => mf_225, List.forall_mem_cons.mpr ⟨fun _ => mf_226, List.forall_mem_cons.mpr ⟨fun _ => mf_227, List.forall_mem_cons.mpr ⟨fun _ => mf_228, List.forall_mem_cons.mpr ⟨fun _ => mf_229, List.forall_mem_cons.mpr ⟨fun _ => mf_230, List.forall_mem_cons.mpr ⟨fun _ => mf_231, List.forall_mem_cons.mpr ⟨fun _ => mf_232, List.forall_mem_cons.mpr ⟨fun _ => mf_233, List.forall_mem_cons.mpr ⟨fun _ => mf_234, List.forall_mem_cons.mpr ⟨fun _ => mf_235, List.forall_mem_cons.mpr ⟨fun _ => mf_236, List.forall_mem_cons.mpr ⟨fun _ => mf_237, List.forall_mem_cons.mpr ⟨fun _ => mf_238, List.forall_mem_cons.mpr ⟨fun _ => mf_239, fun _ h => absurd h List.not_mem_nil⟩⟩⟩⟩⟩⟩⟩⟩⟩⟩⟩⟩⟩⟩⟩⟩
theorem mfs_15 : ∀ e ∈ mTab_15, e ≠ (yL_law, cL_law, 4, (some .boolean), 13) → MFr e := List.forall_mem_cons.mpr ⟨fun _ => mf_240, List.forall_mem_cons.mpr ⟨fun _ => mf_241, List.forall_mem_cons.mpr ⟨fun _ => mf_242, List.forall_mem_cons.mpr ⟨fun _ => mf_243, List.forall_mem_cons.mpr ⟨fun _ => mf_244, List.forall_mem_cons.mpr ⟨fun _ => mf_245, List.forall_mem_cons.mpr ⟨fun _ => mf_246, List.forall_mem_cons.mpr ⟨fun _ => mf_247, List.forall_mem_cons.mpr ⟨fun _ => mf_248, List.forall_mem_cons.mpr ⟨fun _ => mf_249, fun _ h => absurd h List.not_mem_nil⟩⟩⟩⟩⟩⟩⟩⟩⟩⟩
theorem mf_all : ∀ l ∈ mTabs, ∀ e ∈ l, e ≠ (yL_law, cL_law, 4, (some .boolean), 13) → MFr e := List.forall_mem_cons.mpr ⟨mfs_0, List.forall_mem_cons.mpr ⟨mfs_1, List.forall_mem_cons.mpr ⟨mfs_2, List.forall_mem_cons.mpr ⟨mfs_3, List.forall_mem_cons.mpr ⟨mfs_4, List.forall_mem_cons.mpr ⟨mfs_5, List.forall_mem_cons.mpr ⟨mfs_6, List.forall_mem_cons.mpr ⟨mfs_7, List.forall_mem_cons.mpr ⟨mfs_8, List.forall_mem_cons.mpr ⟨mfs_9, List.forall_mem_cons.mpr ⟨mfs_10, List.forall_mem_cons.mpr ⟨mfs_11, List.forall_mem_cons.mpr ⟨mfs_12, List.forall_mem_cons.mpr ⟨mfs_13, List.forall_mem_cons.mpr ⟨mfs_14, List.forall_mem_cons.mpr ⟨mfs_15, fun _ h => absurd h List.not_mem_nil⟩⟩⟩⟩⟩⟩⟩⟩⟩⟩⟩⟩⟩⟩⟩⟩
def MF (y : Nat) : Prop := MFr (mRow y)
theorem mf_ne : ∀ y, y < 250 → y ≠ 0 → mRow y ≠ (yL_law, cL_law, 4, (some .boolean), 13) := by
  intro y hy h0 h
  have h1 : ∀ y, y < 250 → y ≠ 0 → (mRow y).2.2.2.2 ≠ 13 := by decide +kernel
  exact h1 y hy h0 (by rw [h])
theorem mf_of (y : Nat) (hy : y < 250) (h0 : y ≠ 0) : MF y := by
  unfold MF
  have hne := mf_ne y hy h0
  unfold mRow at hne ⊢
  have h1 : y / 16 < mTabs.length := by
    have : mTabs.length = 16 := rfl
    omega
  have e1 : mTabs.getD (y / 16) [] = mTabs[y / 16] := by simp [List.getD, h1]
  rw [e1] at hne ⊢
  by_cases h2 : y % 16 < (mTabs[y / 16]).length
  · have e2 : (mTabs[y / 16]).getD (y % 16) (yL_law, cL_law, 4, none, 13) = (mTabs[y / 16])[y % 16] := by simp [List.getD, h2]
    rw [e2] at hne ⊢
    exact mf_all _ (List.getElem_mem h1) _ (List.getElem_mem h2) hne
  · exfalso
    have h3 : ∀ y, y < 250 → y % 16 < (mTabs.getD (y / 16) []).length := by decide +kernel
    have := h3 y hy
    rw [e1] at this
    exact h2 this
def clC (ci : Nat) : String := [RX0, RX1, RX2, RX3, RX4, RX5, RX6, RX7, RX8, RX9, RX10, RX11, RX12].getD ci RX0
def clT (ci : Nat) : u_T := [TX0, TX1, TX2, TX3, TX4, TX5, TX6, TX7, TX8, TX9, TX10, TX11, TX12].getD ci TX0
def clY (ci : Nat) : Nat → FieldType := [tyX0, tyX1, tyX2, tyX3, tyX4, tyX5, tyX6, tyX7, tyX8, tyX9, tyX10, tyX11, tyX12].getD ci tyX0
def ClF (ci : Nat) : Prop := vwCl[ci]? = some (clC ci, clT ci, nSlots ci) ∧ (∀ w ∈ u_ws (clC ci) (clT ci) (nSlots ci), w ∈ TS) ∧ (∀ k, k < nSlots ci → parseFieldDescriptor (clT ci k).2.2.1 = some (clY ci k)) ∧ (∀ a, a < nSlots ci → ∀ b, b < nSlots ci → a ≠ b → (clT ci a).2.1 ≠ (clT ci b).2.1) ∧ clC ci = cStr ci
theorem clf_0 : ClF 0 := ⟨rfl, ts_wsX00, tyX0_ok, nmX0, rfl⟩
theorem clf_1 : ClF 1 := ⟨rfl, ts_wsX10, tyX1_ok, nmX1, rfl⟩
theorem clf_2 : ClF 2 := ⟨rfl, ts_wsX20, tyX2_ok, nmX2, rfl⟩
theorem clf_3 : ClF 3 := ⟨rfl, ts_wsX30, tyX3_ok, nmX3, rfl⟩
theorem clf_4 : ClF 4 := ⟨rfl, ts_wsX40, tyX4_ok, nmX4, rfl⟩
theorem clf_5 : ClF 5 := ⟨rfl, ts_wsX50, tyX5_ok, nmX5, rfl⟩
theorem clf_6 : ClF 6 := ⟨rfl, ts_wsX60, tyX6_ok, nmX6, rfl⟩
theorem clf_7 : ClF 7 := ⟨rfl, ts_wsX70, tyX7_ok, nmX7, rfl⟩
theorem clf_8 : ClF 8 := ⟨rfl, ts_wsX80, tyX8_ok, nmX8, rfl⟩
theorem clf_9 : ClF 9 := ⟨rfl, ts_wsX90, tyX9_ok, nmX9, rfl⟩
theorem clf_10 : ClF 10 := ⟨rfl, ts_wsX100, tyX10_ok, nmX10, rfl⟩
theorem clf_11 : ClF 11 := ⟨rfl, ts_wsX110, tyX11_ok, nmX11, rfl⟩
theorem clf_12 : ClF 12 := ⟨rfl, ts_wsX120, tyX12_ok, nmX12, rfl⟩
theorem clf : ∀ ci, ci < 13 → ClF ci
  | 0, _ => clf_0
  | 1, _ => clf_1
  | 2, _ => clf_2
  | 3, _ => clf_3
  | 4, _ => clf_4
  | 5, _ => clf_5
  | 6, _ => clf_6
  | 7, _ => clf_7
  | 8, _ => clf_8
  | 9, _ => clf_9
  | 10, _ => clf_10
  | 11, _ => clf_11
  | 12, _ => clf_12
  | n + 13, h => absurd h (by omega)
theorem okF_lt {C0 ci : Nat} (h0 : C0 < 13) (h : okF C0 ci = true) : ci < 13 := by
  unfold okF at h
  split at h
  · simp at h; omega
  · simp at h; omega
def declC (C0 : Nat) : Bool := [3, 4, 8, 9, 11, 12].contains C0
theorem okF_8 : ∀ ci, ci < 13 → okF 8 ci = true → ∀ k, k < 3 → k < nSlots ci ∧ (clT ci k).1 = (clT 8 k).1 ∧ (clT ci k).2.1 = (clT 8 k).2.1 ∧ (clT ci k).2.2.1 = (clT 8 k).2.2.1 ∧ (clT ci k).2.2.2 = (clT 8 k).2.2.2 ∧ fRef ci k = fRef 8 k := by decide +kernel
theorem okF_same (C0 : Nat) (h0 : C0 < 13) (ci : Nat) (hc : ci < 13) (h : okF C0 ci = true) (k : Nat) (hk : k < nSlots C0) : k < nSlots ci ∧ clT ci k = clT C0 k ∧ fRef ci k = fRef C0 k := by
  by_cases h8 : C0 = 8
  · subst h8
    obtain ⟨a1, a2, a3, a4, a5, a6⟩ := okF_8 ci hc h k hk
    exact ⟨a1, Prod.ext a2 (Prod.ext a3 (Prod.ext a4 a5)), a6⟩
  · unfold okF at h
    rw [if_neg h8] at h
    have := eq_of_beq h
    subst this
    exact ⟨hk, rfl, rfl⟩
def refTy (t : FieldType) : Bool := match t with
  | .object _ => true
  | .array _ => true
  | _ => false
theorem slotF : ∀ C0, C0 < 13 → ∀ k, k < nSlots C0 → (fRef C0 k = true → refTy (clY C0 k) = true) ∧ (fRef C0 k = false → fBool C0 k = false → clY C0 k = .int) ∧ (fRef C0 k = false → fBool C0 k = true → clY C0 k = .boolean) := by decide +kernel
theorem slotG : ∀ C0, C0 < 13 → ∀ k, k < nSlots C0 → (clT C0 k).2.2.2 = fFin C0 k ∧ (declC C0 = true → (clT C0 k).1 = cStr C0) := by decide +kernel
theorem lookup_mem {α : Type} {i : Nat} {v : α} : ∀ {l : List (Nat × α)}, l.lookup i = some v → (i, v) ∈ l
  | [], h => by simp at h
  | (j, w) :: l, h => by
    rw [List.lookup_cons] at h
    split at h
    · rename_i hb
      cases h
      rw [beq_iff_eq] at hb
      subst hb
      exact List.mem_cons_self
    · exact List.mem_cons_of_mem _ (lookup_mem h)
def FFe (c : Nat) (e : Nat × Nat × Nat) : Prop := declC e.2.1 = true ∧ e.2.1 < 13 ∧ e.2.2 < nSlots e.2.1 ∧ Cond.fieldLink (cStr c) e.1 (clT e.2.1 e.2.2).1 (clT e.2.1 e.2.2).2.1 (clT e.2.1 e.2.2).2.2.1 ∈ TS
theorem ff_3 : ∀ e ∈ fT_3, FFe 3 e := List.forall_mem_cons.mpr ⟨⟨rfl, by decide, by decide, (ts_3 _ (List.mem_of_getElem? (i := 3) rfl))⟩, List.forall_mem_cons.mpr ⟨⟨rfl, by decide, by decide, (ts_3 _ (List.mem_of_getElem? (i := 4) rfl))⟩, List.forall_mem_cons.mpr ⟨⟨rfl, by decide, by decide, (ts_3 _ (List.mem_of_getElem? (i := 5) rfl))⟩, List.forall_mem_cons.mpr ⟨⟨rfl, by decide, by decide, (ts_3 _ (List.mem_of_getElem? (i := 6) rfl))⟩, List.forall_mem_cons.mpr ⟨⟨rfl, by decide, by decide, (ts_13 _ (List.mem_of_getElem? (i := 3) rfl))⟩, List.forall_mem_cons.mpr ⟨⟨rfl, by decide, by decide, (ts_12 _ (List.mem_of_getElem? (i := 20) rfl))⟩, List.forall_mem_cons.mpr ⟨⟨rfl, by decide, by decide, (ts_13 _ (List.mem_of_getElem? (i := 1) rfl))⟩, List.forall_mem_cons.mpr ⟨⟨rfl, by decide, by decide, (ts_13 _ (List.mem_of_getElem? (i := 2) rfl))⟩, List.forall_mem_cons.mpr ⟨⟨rfl, by decide, by decide, (ts_18 _ (List.mem_of_getElem? (i := 2) rfl))⟩, fun _ h => absurd h List.not_mem_nil⟩⟩⟩⟩⟩⟩⟩⟩⟩
theorem ff_4 : ∀ e ∈ fT_4, FFe 4 e := List.forall_mem_cons.mpr ⟨⟨rfl, by decide, by decide, (ts_2 _ (List.mem_of_getElem? (i := 16) rfl))⟩, List.forall_mem_cons.mpr ⟨⟨rfl, by decide, by decide, (ts_2 _ (List.mem_of_getElem? (i := 17) rfl))⟩, List.forall_mem_cons.mpr ⟨⟨rfl, by decide, by decide, (ts_2 _ (List.mem_of_getElem? (i := 18) rfl))⟩, List.forall_mem_cons.mpr ⟨⟨rfl, by decide, by decide, (ts_2 _ (List.mem_of_getElem? (i := 19) rfl))⟩, List.forall_mem_cons.mpr ⟨⟨rfl, by decide, by decide, (ts_2 _ (List.mem_of_getElem? (i := 20) rfl))⟩, List.forall_mem_cons.mpr ⟨⟨rfl, by decide, by decide, (ts_2 _ (List.mem_of_getElem? (i := 21) rfl))⟩, List.forall_mem_cons.mpr ⟨⟨rfl, by decide, by decide, (ts_2 _ (List.mem_of_getElem? (i := 22) rfl))⟩, List.forall_mem_cons.mpr ⟨⟨rfl, by decide, by decide, (ts_2 _ (List.mem_of_getElem? (i := 23) rfl))⟩, List.forall_mem_cons.mpr ⟨⟨rfl, by decide, by decide, (ts_5 _ (List.mem_of_getElem? (i := 13) rfl))⟩, List.forall_mem_cons.mpr ⟨⟨rfl, by decide, by decide, (ts_6 _ (List.mem_of_getElem? (i := 13) rfl))⟩, List.forall_mem_cons.mpr ⟨⟨rfl, by decide, by decide, (ts_9 _ (List.mem_of_getElem? (i := 19) rfl))⟩, fun _ h => absurd h List.not_mem_nil⟩⟩⟩⟩⟩⟩⟩⟩⟩⟩⟩
theorem ff_8 : ∀ e ∈ fT_8, FFe 8 e := List.forall_mem_cons.mpr ⟨⟨rfl, by decide, by decide, (ts_40 _ (List.mem_of_getElem? (i := 5) rfl))⟩, List.forall_mem_cons.mpr ⟨⟨rfl, by decide, by decide, (ts_40 _ (List.mem_of_getElem? (i := 6) rfl))⟩, List.forall_mem_cons.mpr ⟨⟨rfl, by decide, by decide, (ts_40 _ (List.mem_of_getElem? (i := 7) rfl))⟩, fun _ h => absurd h List.not_mem_nil⟩⟩⟩
theorem ff_9 : ∀ e ∈ fT_9, FFe 9 e := List.forall_mem_cons.mpr ⟨⟨rfl, by decide, by decide, (ts_3 _ (List.mem_of_getElem? (i := 11) rfl))⟩, List.forall_mem_cons.mpr ⟨⟨rfl, by decide, by decide, (ts_3 _ (List.mem_of_getElem? (i := 12) rfl))⟩, List.forall_mem_cons.mpr ⟨⟨rfl, by decide, by decide, (ts_7 _ (List.mem_of_getElem? (i := 10) rfl))⟩, List.forall_mem_cons.mpr ⟨⟨rfl, by decide, by decide, (ts_7 _ (List.mem_of_getElem? (i := 19) rfl))⟩, fun _ h => absurd h List.not_mem_nil⟩⟩⟩⟩
theorem ff_11 : ∀ e ∈ fT_11, FFe 11 e := List.forall_mem_cons.mpr ⟨⟨rfl, by decide, by decide, (ts_1 _ (List.mem_of_getElem? (i := 16) rfl))⟩, List.forall_mem_cons.mpr ⟨⟨rfl, by decide, by decide, (ts_1 _ (List.mem_of_getElem? (i := 17) rfl))⟩, List.forall_mem_cons.mpr ⟨⟨rfl, by decide, by decide, (ts_1 _ (List.mem_of_getElem? (i := 18) rfl))⟩, List.forall_mem_cons.mpr ⟨⟨rfl, by decide, by decide, (ts_1 _ (List.mem_of_getElem? (i := 22) rfl))⟩, List.forall_mem_cons.mpr ⟨⟨rfl, by decide, by decide, (ts_1 _ (List.mem_of_getElem? (i := 23) rfl))⟩, List.forall_mem_cons.mpr ⟨⟨rfl, by decide, by decide, (ts_2 _ (List.mem_of_getElem? (i := 1) rfl))⟩, List.forall_mem_cons.mpr ⟨⟨rfl, by decide, by decide, (ts_2 _ (List.mem_of_getElem? (i := 3) rfl))⟩, List.forall_mem_cons.mpr ⟨⟨rfl, by decide, by decide, (ts_2 _ (List.mem_of_getElem? (i := 4) rfl))⟩, List.forall_mem_cons.mpr ⟨⟨rfl, by decide, by decide, (ts_2 _ (List.mem_of_getElem? (i := 5) rfl))⟩, List.forall_mem_cons.mpr ⟨⟨rfl, by decide, by decide, (ts_2 _ (List.mem_of_getElem? (i := 7) rfl))⟩, List.forall_mem_cons.mpr ⟨⟨rfl, by decide, by decide, (ts_2 _ (List.mem_of_getElem? (i := 8) rfl))⟩, List.forall_mem_cons.mpr ⟨⟨rfl, by decide, by decide, (ts_2 _ (List.mem_of_getElem? (i := 10) rfl))⟩, List.forall_mem_cons.mpr ⟨⟨rfl, by decide, by decide, (ts_12 _ (List.mem_of_getElem? (i := 6) rfl))⟩, List.forall_mem_cons.mpr ⟨⟨rfl, by decide, by decide, (ts_20 _ (List.mem_of_getElem? (i := 3) rfl))⟩, List.forall_mem_cons.mpr ⟨⟨rfl, by decide, by decide, (ts_20 _ (List.mem_of_getElem? (i := 4) rfl))⟩, List.forall_mem_cons.mpr ⟨⟨rfl, by decide, by decide, (ts_20 _ (List.mem_of_getElem? (i := 5) rfl))⟩, List.forall_mem_cons.mpr ⟨⟨rfl, by decide, by decide, (ts_20 _ (List.mem_of_getElem? (i := 6) rfl))⟩, List.forall_mem_cons.mpr ⟨⟨rfl, by decide, by decide, (ts_26 _ (List.mem_of_getElem? (i := 11) rfl))⟩, List.forall_mem_cons.mpr ⟨⟨rfl, by decide, by decide, (ts_27 _ (List.mem_of_getElem? (i := 0) rfl))⟩, List.forall_mem_cons.mpr ⟨⟨rfl, by decide, by decide, (ts_29 _ (List.mem_of_getElem? (i := 11) rfl))⟩, List.forall_mem_cons.mpr ⟨⟨rfl, by decide, by decide, (ts_31 _ (List.mem_of_getElem? (i := 10) rfl))⟩, List.forall_mem_cons.mpr ⟨⟨rfl, by decide, by decide, (ts_34 _ (List.mem_of_getElem? (i := 1) rfl))⟩, List.forall_mem_cons.mpr ⟨⟨rfl, by decide, by decide, (ts_36 _ (List.mem_of_getElem? (i := 3) rfl))⟩, List.forall_mem_cons.mpr ⟨⟨rfl, by decide, by decide, (ts_37 _ (List.mem_of_getElem? (i := 5) rfl))⟩, List.forall_mem_cons.mpr ⟨⟨rfl, by decide, by decide, (ts_10 _ (List.mem_of_getElem? (i := 0) rfl))⟩, List.forall_mem_cons.mpr ⟨⟨rfl, by decide, by decide, (ts_10 _ (List.mem_of_getElem? (i := 1) rfl))⟩, List.forall_mem_cons.mpr ⟨⟨rfl, by decide, by decide, (ts_38 _ (List.mem_of_getElem? (i := 18) rfl))⟩, List.forall_mem_cons.mpr ⟨⟨rfl, by decide, by decide, (ts_51 _ (List.mem_of_getElem? (i := 18) rfl))⟩, List.forall_mem_cons.mpr ⟨⟨rfl, by decide, by decide, (ts_51 _ (List.mem_of_getElem? (i := 19) rfl))⟩, List.forall_mem_cons.mpr ⟨⟨rfl, by decide, by decide, (ts_52 _ (List.mem_of_getElem? (i := 4) rfl))⟩, List.forall_mem_cons.mpr ⟨⟨rfl, by decide, by decide, (ts_52 _ (List.mem_of_getElem? (i := 5) rfl))⟩, fun _ h => absurd h List.not_mem_nil⟩⟩⟩⟩⟩⟩⟩⟩⟩⟩⟩⟩⟩⟩⟩⟩⟩⟩⟩⟩⟩⟩⟩⟩⟩⟩⟩⟩⟩⟩⟩
theorem ff_12 : ∀ e ∈ fT_12, FFe 12 e := List.forall_mem_cons.mpr ⟨⟨rfl, by decide, by decide, (ts_3 _ (List.mem_of_getElem? (i := 17) rfl))⟩, List.forall_mem_cons.mpr ⟨⟨rfl, by decide, by decide, (ts_3 _ (List.mem_of_getElem? (i := 18) rfl))⟩, List.forall_mem_cons.mpr ⟨⟨rfl, by decide, by decide, (ts_3 _ (List.mem_of_getElem? (i := 19) rfl))⟩, List.forall_mem_cons.mpr ⟨⟨rfl, by decide, by decide, (ts_3 _ (List.mem_of_getElem? (i := 20) rfl))⟩, List.forall_mem_cons.mpr ⟨⟨rfl, by decide, by decide, (ts_3 _ (List.mem_of_getElem? (i := 21) rfl))⟩, List.forall_mem_cons.mpr ⟨⟨rfl, by decide, by decide, (ts_3 _ (List.mem_of_getElem? (i := 22) rfl))⟩, List.forall_mem_cons.mpr ⟨⟨rfl, by decide, by decide, (ts_3 _ (List.mem_of_getElem? (i := 23) rfl))⟩, List.forall_mem_cons.mpr ⟨⟨rfl, by decide, by decide, (ts_4 _ (List.mem_of_getElem? (i := 0) rfl))⟩, List.forall_mem_cons.mpr ⟨⟨rfl, by decide, by decide, (ts_4 _ (List.mem_of_getElem? (i := 1) rfl))⟩, List.forall_mem_cons.mpr ⟨⟨rfl, by decide, by decide, (ts_4 _ (List.mem_of_getElem? (i := 2) rfl))⟩, List.forall_mem_cons.mpr ⟨⟨rfl, by decide, by decide, (ts_4 _ (List.mem_of_getElem? (i := 3) rfl))⟩, List.forall_mem_cons.mpr ⟨⟨rfl, by decide, by decide, (ts_4 _ (List.mem_of_getElem? (i := 4) rfl))⟩, List.forall_mem_cons.mpr ⟨⟨rfl, by decide, by decide, (ts_4 _ (List.mem_of_getElem? (i := 5) rfl))⟩, List.forall_mem_cons.mpr ⟨⟨rfl, by decide, by decide, (ts_4 _ (List.mem_of_getElem? (i := 6) rfl))⟩, List.forall_mem_cons.mpr ⟨⟨rfl, by decide, by decide, (ts_4 _ (List.mem_of_getElem? (i := 7) rfl))⟩, List.forall_mem_cons.mpr ⟨⟨rfl, by decide, by decide, (ts_4 _ (List.mem_of_getElem? (i := 8) rfl))⟩, List.forall_mem_cons.mpr ⟨⟨rfl, by decide, by decide, (ts_4 _ (List.mem_of_getElem? (i := 9) rfl))⟩, List.forall_mem_cons.mpr ⟨⟨rfl, by decide, by decide, (ts_4 _ (List.mem_of_getElem? (i := 10) rfl))⟩, List.forall_mem_cons.mpr ⟨⟨rfl, by decide, by decide, (ts_4 _ (List.mem_of_getElem? (i := 11) rfl))⟩, List.forall_mem_cons.mpr ⟨⟨rfl, by decide, by decide, (ts_4 _ (List.mem_of_getElem? (i := 12) rfl))⟩, List.forall_mem_cons.mpr ⟨⟨rfl, by decide, by decide, (ts_4 _ (List.mem_of_getElem? (i := 13) rfl))⟩, List.forall_mem_cons.mpr ⟨⟨rfl, by decide, by decide, (ts_4 _ (List.mem_of_getElem? (i := 14) rfl))⟩, List.forall_mem_cons.mpr ⟨⟨rfl, by decide, by decide, (ts_4 _ (List.mem_of_getElem? (i := 15) rfl))⟩, List.forall_mem_cons.mpr ⟨⟨rfl, by decide, by decide, (ts_4 _ (List.mem_of_getElem? (i := 16) rfl))⟩, List.forall_mem_cons.mpr ⟨⟨rfl, by decide, by decide, (ts_4 _ (List.mem_of_getElem? (i := 17) rfl))⟩, List.forall_mem_cons.mpr ⟨⟨rfl, by decide, by decide, (ts_4 _ (List.mem_of_getElem? (i := 18) rfl))⟩, List.forall_mem_cons.mpr ⟨⟨rfl, by decide, by decide, (ts_4 _ (List.mem_of_getElem? (i := 19) rfl))⟩, List.forall_mem_cons.mpr ⟨⟨rfl, by decide, by decide, (ts_4 _ (List.mem_of_getElem? (i := 20) rfl))⟩, List.forall_mem_cons.mpr ⟨⟨rfl, by decide, by decide, (ts_4 _ (List.mem_of_getElem? (i := 21) rfl))⟩, List.forall_mem_cons.mpr ⟨⟨rfl, by decide, by decide, (ts_5 _ (List.mem_of_getElem? (i := 22) rfl))⟩, List.forall_mem_cons.mpr ⟨⟨rfl, by decide, by decide, (ts_6 _ (List.mem_of_getElem? (i := 18) rfl))⟩, List.forall_mem_cons.mpr ⟨⟨rfl, by decide, by decide, (ts_10 _ (List.mem_of_getElem? (i := 20) rfl))⟩, List.forall_mem_cons.mpr ⟨⟨rfl, by decide, by decide, (ts_10 _ (List.mem_of_getElem? (i := 21) rfl))⟩, List.forall_mem_cons.mpr ⟨⟨rfl, by decide, by decide, (ts_12 _ (List.mem_of_getElem? (i := 11) rfl))⟩, List.forall_mem_cons.mpr ⟨⟨rfl, by decide, by decide, (ts_14 _ (List.mem_of_getElem? (i := 18) rfl))⟩, List.forall_mem_cons.mpr ⟨⟨rfl, by decide, by decide, (ts_14 _ (List.mem_of_getElem? (i := 20) rfl))⟩, List.forall_mem_cons.mpr ⟨⟨rfl, by decide, by decide, (ts_14 _ (List.mem_of_getElem? (i := 19) rfl))⟩, List.forall_mem_cons.mpr ⟨⟨rfl, by decide, by decide, (ts_14 _ (List.mem_of_getElem? (i := 21) rfl))⟩, List.forall_mem_cons.mpr ⟨⟨rfl, by decide, by decide, (ts_14 _ (List.mem_of_getElem? (i := 22) rfl))⟩, List.forall_mem_cons.mpr ⟨⟨rfl, by decide, by decide, (ts_14 _ (List.mem_of_getElem? (i := 23) rfl))⟩, List.forall_mem_cons.mpr ⟨⟨rfl, by decide, by decide, (ts_22 _ (List.mem_of_getElem? (i := 12) rfl))⟩, List.forall_mem_cons.mpr ⟨⟨rfl, by decide, by decide, (ts_22 _ (List.mem_of_getElem? (i := 13) rfl))⟩, List.forall_mem_cons.mpr ⟨⟨rfl, by decide, by decide, (ts_28 _ (List.mem_of_getElem? (i := 2) rfl))⟩, List.forall_mem_cons.mpr ⟨⟨rfl, by decide, by decide, (ts_37 _ (List.mem_of_getElem? (i := 10) rfl))⟩, List.forall_mem_cons.mpr ⟨⟨rfl, by decide, by decide, (ts_37 _ (List.mem_of_getElem? (i := 11) rfl))⟩, List.forall_mem_cons.mpr ⟨⟨rfl, by decide, by decide, (ts_37 _ (List.mem_of_getElem? (i := 12) rfl))⟩, List.forall_mem_cons.mpr ⟨⟨rfl, by decide, by decide, (ts_47 _ (List.mem_of_getElem? (i := 14) rfl))⟩, List.forall_mem_cons.mpr ⟨⟨rfl, by decide, by decide, (ts_41 _ (List.mem_of_getElem? (i := 13) rfl))⟩, fun _ h => absurd h List.not_mem_nil⟩⟩⟩⟩⟩⟩⟩⟩⟩⟩⟩⟩⟩⟩⟩⟩⟩⟩⟩⟩⟩⟩⟩⟩⟩⟩⟩⟩⟩⟩⟩⟩⟩⟩⟩⟩⟩⟩⟩⟩⟩⟩⟩⟩⟩⟩⟩⟩
theorem fld_ok {c i C0 k : Nat} (h : fld c i = some (C0, k)) : FFe c (i, C0, k) := by
  have h1 := lookup_mem h
  unfold fTab at h1
  split at h1
  · exact ff_3 _ h1
  · exact ff_4 _ h1
  · exact ff_8 _ h1
  · exact ff_9 _ h1
  · exact ff_11 _ h1
  · exact ff_12 _ h1
  · exact absurd h1 List.not_mem_nil
theorem kI_ok {c i : Nat} {v : Int32} (h : kI c i = some v) : Cond.constant (cStr c) i v ∈ TS := by
  unfold kI at h
  split at h
  · cases h; exact (ts_9 _ (List.mem_of_getElem? (i := 5) rfl))
  · cases h; exact (ts_10 _ (List.mem_of_getElem? (i := 19) rfl))
  · cases h; exact (ts_29 _ (List.mem_of_getElem? (i := 15) rfl))
  · cases h; exact (ts_29 _ (List.mem_of_getElem? (i := 16) rfl))
  · cases h; exact (ts_29 _ (List.mem_of_getElem? (i := 17) rfl))
  · cases h; exact (ts_35 _ (List.mem_of_getElem? (i := 5) rfl))
  · cases h; exact (ts_35 _ (List.mem_of_getElem? (i := 14) rfl))
  · cases h
theorem kL_ok {c i : Nat} {v : Int64} (h : kL c i = some v) : Cond.constantLong (cStr c) i v ∈ TS := by
  unfold kL at h
  split at h
  · cases h; exact (ts_1 _ (List.mem_of_getElem? (i := 6) rfl))
  · cases h; exact (ts_8 _ (List.mem_of_getElem? (i := 9) rfl))
  · cases h; exact (ts_31 _ (List.mem_of_getElem? (i := 12) rfl))
  · cases h; exact (ts_51 _ (List.mem_of_getElem? (i := 8) rfl))
  · cases h; exact (ts_51 _ (List.mem_of_getElem? (i := 13) rfl))
  · cases h
theorem nwT_ok {c i k : Nat} (h : nwT c i = some k) : k < 13 ∧ Cond.classLink (cStr c) i (clC k) ∈ TS ∧ Cond.instantiable (clC k) (nSlots k) ∈ TS ∧ Cond.initialized (clC k) ∈ TS := by
  unfold nwT at h
  split at h
  · cases h; exact ⟨by decide, (ts_1 _ (List.mem_of_getElem? (i := 0) rfl)), (ts_1 _ (List.mem_of_getElem? (i := 1) rfl)), (ts_1 _ (List.mem_of_getElem? (i := 2) rfl))⟩
  · cases h; exact ⟨by decide, (ts_1 _ (List.mem_of_getElem? (i := 3) rfl)), (ts_1 _ (List.mem_of_getElem? (i := 4) rfl)), (ts_1 _ (List.mem_of_getElem? (i := 5) rfl))⟩
  · cases h; exact ⟨by decide, (ts_1 _ (List.mem_of_getElem? (i := 13) rfl)), (ts_1 _ (List.mem_of_getElem? (i := 14) rfl)), (ts_1 _ (List.mem_of_getElem? (i := 15) rfl))⟩
  · cases h; exact ⟨by decide, (ts_1 _ (List.mem_of_getElem? (i := 19) rfl)), (ts_1 _ (List.mem_of_getElem? (i := 20) rfl)), (ts_1 _ (List.mem_of_getElem? (i := 21) rfl))⟩
  · cases h; exact ⟨by decide, (ts_2 _ (List.mem_of_getElem? (i := 6) rfl)), (ts_39 _ (List.mem_of_getElem? (i := 20) rfl)), (ts_39 _ (List.mem_of_getElem? (i := 21) rfl))⟩
  · cases h; exact ⟨by decide, (ts_2 _ (List.mem_of_getElem? (i := 9) rfl)), (ts_2 _ (List.mem_of_getElem? (i := 11) rfl)), (ts_2 _ (List.mem_of_getElem? (i := 12) rfl))⟩
  · cases h; exact ⟨by decide, (ts_38 _ (List.mem_of_getElem? (i := 23) rfl)), (ts_39 _ (List.mem_of_getElem? (i := 0) rfl)), (ts_39 _ (List.mem_of_getElem? (i := 1) rfl))⟩
  · cases h; exact ⟨by decide, (ts_39 _ (List.mem_of_getElem? (i := 2) rfl)), (ts_39 _ (List.mem_of_getElem? (i := 3) rfl)), (ts_39 _ (List.mem_of_getElem? (i := 4) rfl))⟩
  · cases h; exact ⟨by decide, (ts_39 _ (List.mem_of_getElem? (i := 5) rfl)), (ts_39 _ (List.mem_of_getElem? (i := 6) rfl)), (ts_39 _ (List.mem_of_getElem? (i := 7) rfl))⟩
  · cases h; exact ⟨by decide, (ts_39 _ (List.mem_of_getElem? (i := 8) rfl)), (ts_39 _ (List.mem_of_getElem? (i := 9) rfl)), (ts_39 _ (List.mem_of_getElem? (i := 10) rfl))⟩
  · cases h; exact ⟨by decide, (ts_39 _ (List.mem_of_getElem? (i := 11) rfl)), (ts_39 _ (List.mem_of_getElem? (i := 12) rfl)), (ts_39 _ (List.mem_of_getElem? (i := 13) rfl))⟩
  · cases h; exact ⟨by decide, (ts_39 _ (List.mem_of_getElem? (i := 14) rfl)), (ts_39 _ (List.mem_of_getElem? (i := 15) rfl)), (ts_39 _ (List.mem_of_getElem? (i := 16) rfl))⟩
  · cases h; exact ⟨by decide, (ts_39 _ (List.mem_of_getElem? (i := 17) rfl)), (ts_39 _ (List.mem_of_getElem? (i := 18) rfl)), (ts_39 _ (List.mem_of_getElem? (i := 19) rfl))⟩
  · cases h
theorem nwT_w0 : Cond.instantiable RX0 3 ∈ TS := (ts_39 _ (List.mem_of_getElem? (i := 12) rfl))
theorem nwT_w1 : Cond.instantiable RX1 3 ∈ TS := (ts_39 _ (List.mem_of_getElem? (i := 3) rfl))
theorem nwT_w2 : Cond.instantiable RX2 3 ∈ TS := (ts_39 _ (List.mem_of_getElem? (i := 15) rfl))
theorem nwT_w3 : Cond.instantiable RX3 9 ∈ TS := (ts_1 _ (List.mem_of_getElem? (i := 20) rfl))
theorem nwT_w4 : Cond.instantiable RX4 11 ∈ TS := (ts_1 _ (List.mem_of_getElem? (i := 14) rfl))
theorem nwT_w5 : Cond.instantiable RX5 3 ∈ TS := (ts_39 _ (List.mem_of_getElem? (i := 6) rfl))
theorem nwT_w6 : Cond.instantiable RX6 3 ∈ TS := (ts_39 _ (List.mem_of_getElem? (i := 0) rfl))
theorem nwT_w7 : Cond.instantiable RX7 3 ∈ TS := (ts_39 _ (List.mem_of_getElem? (i := 9) rfl))
theorem nwT_w8 : Cond.instantiable RX8 3 ∈ TS := (ts_39 _ (List.mem_of_getElem? (i := 20) rfl))
theorem nwT_w9 : Cond.instantiable RX9 4 ∈ TS := (ts_2 _ (List.mem_of_getElem? (i := 11) rfl))
theorem nwT_w10 : Cond.instantiable RX10 3 ∈ TS := (ts_39 _ (List.mem_of_getElem? (i := 18) rfl))
theorem nwT_w11 : Cond.instantiable RX11 17 ∈ TS := (ts_1 _ (List.mem_of_getElem? (i := 1) rfl))
theorem nwT_w12 : Cond.instantiable RX12 48 ∈ TS := (ts_1 _ (List.mem_of_getElem? (i := 4) rfl))
theorem anT_ok {c i k : Nat} (h : anT c i = some k) : (k = 15 ∧ Cond.classLink (cStr c) i RX8 ∈ TS) ∨ (k = 16 ∧ Cond.classLink (cStr c) i RX9 ∈ TS) := by
  unfold anT at h
  split at h
  · cases h; exact Or.inl ⟨rfl, (ts_2 _ (List.mem_of_getElem? (i := 6) rfl))⟩
  · cases h; exact Or.inr ⟨rfl, (ts_2 _ (List.mem_of_getElem? (i := 9) rfl))⟩
  · cases h
theorem mnT_ok {c i : Nat} (h : mnT c i = true) : Cond.classLink (cStr c) i ("[" ++ (FieldType.array .int).toString) ∈ TS := by
  unfold mnT at h
  split at h
  · exact (ts_2 _ (List.mem_of_getElem? (i := 2) rfl))
  · cases h
theorem inT_ok {c i k : Nat} (h : inT c i = some k) : k ∈ [0, 1, 2, 5, 6, 7, 10] ∧ Cond.classLink (cStr c) i (clC k) ∈ TS := by
  unfold inT at h
  split at h
  · cases h; exact ⟨by decide, (ts_38 _ (List.mem_of_getElem? (i := 23) rfl))⟩
  · cases h; exact ⟨by decide, (ts_39 _ (List.mem_of_getElem? (i := 2) rfl))⟩
  · cases h; exact ⟨by decide, (ts_39 _ (List.mem_of_getElem? (i := 5) rfl))⟩
  · cases h; exact ⟨by decide, (ts_39 _ (List.mem_of_getElem? (i := 8) rfl))⟩
  · cases h; exact ⟨by decide, (ts_39 _ (List.mem_of_getElem? (i := 11) rfl))⟩
  · cases h; exact ⟨by decide, (ts_39 _ (List.mem_of_getElem? (i := 14) rfl))⟩
  · cases h; exact ⟨by decide, (ts_39 _ (List.mem_of_getElem? (i := 17) rfl))⟩
  · cases h
theorem ac_int : Cond.arrayClass .int ∈ TS := (ts_2 _ (List.mem_of_getElem? (i := 0) rfl))
theorem ac_long : Cond.arrayClass .long ∈ TS := (ts_3 _ (List.mem_of_getElem? (i := 10) rfl))
def biN (t : Nat) : MethodName := match t with
  | 0 => arraycopyName
  | 1 => Lib.Math.max.name
  | 2 => Lib.Math.min.name
  | _ => Lib.Math.abs.name
theorem biS_ok {c i t : Nat} (h : biS c i = some t) : t < 4 ∧ Cond.methodLink (cStr c) i (biN t) ∈ TS := by
  unfold biS at h
  split at h
  · cases h; exact ⟨by decide, (ts_10 _ (List.mem_of_getElem? (i := 6) rfl))⟩
  · cases h; exact ⟨by decide, (ts_12 _ (List.mem_of_getElem? (i := 21) rfl))⟩
  · cases h; exact ⟨by decide, (ts_17 _ (List.mem_of_getElem? (i := 8) rfl))⟩
  · cases h; exact ⟨by decide, (ts_17 _ (List.mem_of_getElem? (i := 9) rfl))⟩
  · cases h; exact ⟨by decide, (ts_17 _ (List.mem_of_getElem? (i := 15) rfl))⟩
  · cases h; exact ⟨by decide, (ts_18 _ (List.mem_of_getElem? (i := 22) rfl))⟩
  · cases h; exact ⟨by decide, (ts_18 _ (List.mem_of_getElem? (i := 23) rfl))⟩
  · cases h; exact ⟨by decide, (ts_19 _ (List.mem_of_getElem? (i := 15) rfl))⟩
  · cases h; exact ⟨by decide, (ts_20 _ (List.mem_of_getElem? (i := 15) rfl))⟩
  · cases h; exact ⟨by decide, (ts_27 _ (List.mem_of_getElem? (i := 5) rfl))⟩
  · cases h; exact ⟨by decide, (ts_31 _ (List.mem_of_getElem? (i := 11) rfl))⟩
  · cases h
theorem biI_ok {c i t : Nat} (h : biI c i = some t) : t = 4 ∧ Cond.methodLink (cStr c) i objectInit ∈ TS := by
  unfold biI at h
  split at h
  · cases h; exact ⟨rfl, (ts_1 _ (List.mem_of_getElem? (i := 10) rfl))⟩
  · cases h; exact ⟨rfl, (ts_2 _ (List.mem_of_getElem? (i := 15) rfl))⟩
  · cases h; exact ⟨rfl, (ts_3 _ (List.mem_of_getElem? (i := 2) rfl))⟩
  · cases h; exact ⟨rfl, (ts_3 _ (List.mem_of_getElem? (i := 9) rfl))⟩
  · cases h; exact ⟨rfl, (ts_3 _ (List.mem_of_getElem? (i := 16) rfl))⟩
  · cases h; exact ⟨rfl, (ts_40 _ (List.mem_of_getElem? (i := 4) rfl))⟩
  · cases h
theorem w_acn : Cond.native arraycopyName ∈ TS := (ts_10 _ (List.mem_of_getElem? (i := 7) rfl))
theorem w_acs : Cond.static arraycopyName ∈ TS := (ts_10 _ (List.mem_of_getElem? (i := 8) rfl))
theorem w_sys : Cond.initialized "java/lang/System" ∈ TS := (ts_10 _ (List.mem_of_getElem? (i := 9) rfl))
theorem w_mth : Cond.initialized "java/lang/Math" ∈ TS := (ts_12 _ (List.mem_of_getElem? (i := 23) rfl))
theorem w_smax : Cond.static Lib.Math.max.name ∈ TS := (ts_17 _ (List.mem_of_getElem? (i := 10) rfl))
theorem w_cmax : Cond.code Lib.Math.max.name Lib.Math.max.code 2 (some .int) ∈ TS := (ts_17 _ (List.mem_of_getElem? (i := 11) rfl))
theorem w_smin : Cond.static Lib.Math.min.name ∈ TS := (ts_12 _ (List.mem_of_getElem? (i := 22) rfl))
theorem w_cmin : Cond.code Lib.Math.min.name Lib.Math.min.code 2 (some .int) ∈ TS := (ts_13 _ (List.mem_of_getElem? (i := 0) rfl))
theorem w_sabs : Cond.static Lib.Math.abs.name ∈ TS := (ts_17 _ (List.mem_of_getElem? (i := 16) rfl))
theorem w_cabs : Cond.code Lib.Math.abs.name Lib.Math.abs.code 1 (some .int) ∈ TS := (ts_17 _ (List.mem_of_getElem? (i := 17) rfl))
theorem w_oin : Cond.instanceMethod objectInit ∈ TS := (ts_1 _ (List.mem_of_getElem? (i := 11) rfl))
theorem w_oco : Cond.code objectInit ⟨#[0xb1]⟩ 1 none ∈ TS := (ts_1 _ (List.mem_of_getElem? (i := 12) rfl))
abbrev npM (y n : Nat) : Prop := (parseMethodDescriptor (mY y).desc).map (fun d => d.parameters.length) = some n
def SFe (c : Nat) (e : Nat × Nat × Nat) : Prop := e.2.1 < nMeth ∧ npM e.2.1 e.2.2 ∧ Cond.methodLink (cStr c) e.1 (mY e.2.1) ∈ TS ∧ Cond.static (mY e.2.1) ∈ TS
def gvW : List Cond := [Cond.methodLinkNest RX3 74 yX11_within "FrogBreath", Cond.methodLinkNest RX4 40 yX11_within "FrogBreath", Cond.methodLinkNest RX11 9 yX4_init "FrogBreath", Cond.methodLinkNest RX11 24 yX3_init "FrogBreath", Cond.methodLinkNest RX11 62 yX9_init "FrogBreath", Cond.castable RX0 RX5, Cond.castable RX0 RX1, Cond.castable RX0 RX8, Cond.castable RX1 RX8, Cond.castable RX2 RX8, Cond.castable RX5 RX1, Cond.castable RX5 RX8, Cond.castable RX6 RX8, Cond.castable RX7 RX6, Cond.castable RX7 RX8, Cond.castable RX10 RX7, Cond.castable RX10 RX6, Cond.castable RX10 RX8]
def NFe (c : Nat) (e : Nat × Nat × Nat) : Prop := e.2.1 < nMeth ∧ npM e.2.1 e.2.2 ∧ Cond.methodLinkNest (cStr c) e.1 (mY e.2.1) "FrogBreath" ∈ gvW ∧ Cond.static (mY e.2.1) ∈ TS
def IFe (c : Nat) (e : Nat × Nat × Nat) : Prop := e.2.1 < nMeth ∧ npM e.2.1 e.2.2 ∧ Cond.methodLink (cStr c) e.1 (mY e.2.1) ∈ TS ∧ Cond.instanceMethod (mY e.2.1) ∈ TS ∧ (mY e.2.1).name = "<init>" ∧ mT e.2.1 = none
def JFe (c : Nat) (e : Nat × Nat × Nat) : Prop := e.2.1 < nMeth ∧ npM e.2.1 e.2.2 ∧ Cond.methodLinkNest (cStr c) e.1 (mY e.2.1) "FrogBreath" ∈ gvW ∧ Cond.instanceMethod (mY e.2.1) ∈ TS ∧ (mY e.2.1).name = "<init>" ∧ mT e.2.1 = none
def PFe (c : Nat) (e : Nat × Nat × Nat) : Prop := e.2.1 < nMeth ∧ npM e.2.1 e.2.2 ∧ Cond.instanceMethod (mY e.2.1) ∈ TS ∧ (mY e.2.1).name ≠ "<init>" ∧ ∃ (xc sc : String), Cond.methodLink (cStr c) e.1 ⟨xc, (mY e.2.1).name, (mY e.2.1).desc⟩ ∈ TS ∧ Cond.sameMethod xc (mY e.2.1).cls (mY e.2.1).name (mY e.2.1).desc ∈ TS ∧ Cond.superclass (cStr c) sc ∈ TS ∧ sc = xc ∧ (sc = (mY e.2.1).cls ∨ (Cond.superclass sc (mY e.2.1).cls ∈ TS) ∨ ∃ s2, Cond.superclass sc s2 ∈ TS ∧ Cond.superclass s2 (mY e.2.1).cls ∈ TS)
def VFe (c i : Nat) (n : Nat) (e : Nat × Nat) : Prop := e.2 < nMeth ∧ npM e.2 n ∧ e.1 < 13 ∧ Cond.instanceMethod (mY e.2) ∈ TS ∧ ((Cond.methodLink (cStr c) i (mY e.2) ∈ TS ∧ Cond.selects (clC e.1) (mY e.2) (mY e.2) ∈ TS ∧ (mY e.2).cls = clC e.1) ∨
  ∃ (x : MethodName) (owner : String), (parseMethodDescriptor x.desc).map (fun d => d.parameters.length) = some n ∧ owner ≠ "java/lang/invoke/MethodHandle" ∧ owner ≠ "java/lang/invoke/VarHandle" ∧ Cond.methodLink (cStr c) i x ∈ TS ∧ Cond.sameMethod x.cls owner x.name x.desc ∈ TS ∧ Cond.selects (clC e.1) x (mY e.2) ∈ TS ∧ (mY e.2 = ⟨owner, x.name, x.desc⟩ ∨ (Cond.instanceMethod ⟨owner, x.name, x.desc⟩ ∈ TS ∧ ∃ b0 m0 r0, Cond.code ⟨owner, x.name, x.desc⟩ b0 m0 r0 ∈ TS)))
theorem sf_3_61 : SFe 3 (61, 12, 1) := ⟨by decide, by decide +kernel, (ts_13 _ (List.mem_of_getElem? (i := 15) rfl)), (ts_13 _ (List.mem_of_getElem? (i := 16) rfl))⟩
theorem sf_3_71 : SFe 3 (71, 16, 1) := ⟨by decide, by decide +kernel, (ts_14 _ (List.mem_of_getElem? (i := 7) rfl)), (ts_14 _ (List.mem_of_getElem? (i := 8) rfl))⟩
theorem sf_3_89 : SFe 3 (89, 22, 3) := ⟨by decide, by decide +kernel, (ts_18 _ (List.mem_of_getElem? (i := 11) rfl)), (ts_18 _ (List.mem_of_getElem? (i := 12) rfl))⟩
theorem sf_3 : ∀ e ∈ ([(61, 12, 1), (71, 16, 1), (89, 22, 3)] : List (Nat × Nat × Nat)), SFe 3 e := List.forall_mem_cons.mpr ⟨sf_3_61, List.forall_mem_cons.mpr ⟨sf_3_71, List.forall_mem_cons.mpr ⟨sf_3_89, fun _ h => absurd h List.not_mem_nil⟩⟩⟩
theorem sf_4_77 : SFe 4 (77, 33, 2) := ⟨by decide, by decide +kernel, (ts_17 _ (List.mem_of_getElem? (i := 12) rfl)), (ts_17 _ (List.mem_of_getElem? (i := 13) rfl))⟩
theorem sf_4_105 : SFe 4 (105, 42, 2) := ⟨by decide, by decide +kernel, (ts_21 _ (List.mem_of_getElem? (i := 5) rfl)), (ts_21 _ (List.mem_of_getElem? (i := 6) rfl))⟩
theorem sf_4_108 : SFe 4 (108, 246, 2) := ⟨by decide, by decide +kernel, (ts_21 _ (List.mem_of_getElem? (i := 8) rfl)), (ts_21 _ (List.mem_of_getElem? (i := 9) rfl))⟩
theorem sf_4 : ∀ e ∈ ([(77, 33, 2), (105, 42, 2), (108, 246, 2)] : List (Nat × Nat × Nat)), SFe 4 e := List.forall_mem_cons.mpr ⟨sf_4_77, List.forall_mem_cons.mpr ⟨sf_4_105, List.forall_mem_cons.mpr ⟨sf_4_108, fun _ h => absurd h List.not_mem_nil⟩⟩⟩
theorem sf_9_26 : SFe 9 (26, 248, 2) := ⟨by decide, by decide +kernel, (ts_49 _ (List.mem_of_getElem? (i := 18) rfl)), (ts_49 _ (List.mem_of_getElem? (i := 19) rfl))⟩
theorem sf_9 : ∀ e ∈ ([(26, 248, 2)] : List (Nat × Nat × Nat)), SFe 9 e := List.forall_mem_cons.mpr ⟨sf_9_26, fun _ h => absurd h List.not_mem_nil⟩
theorem sf_11_75 : SFe 11 (75, 142, 1) := ⟨by decide, by decide +kernel, (ts_7 _ (List.mem_of_getElem? (i := 3) rfl)), (ts_7 _ (List.mem_of_getElem? (i := 4) rfl))⟩
theorem sf_11_79 : SFe 11 (79, 141, 3) := ⟨by decide, by decide +kernel, (ts_5 _ (List.mem_of_getElem? (i := 6) rfl)), (ts_5 _ (List.mem_of_getElem? (i := 7) rfl))⟩
theorem sf_11_202 : SFe 11 (202, 249, 2) := ⟨by decide, by decide +kernel, (ts_27 _ (List.mem_of_getElem? (i := 6) rfl)), (ts_27 _ (List.mem_of_getElem? (i := 7) rfl))⟩
theorem sf_11_229 : SFe 11 (229, 247, 1) := ⟨by decide, by decide +kernel, (ts_29 _ (List.mem_of_getElem? (i := 12) rfl)), (ts_29 _ (List.mem_of_getElem? (i := 13) rfl))⟩
theorem sf_11_243 : SFe 11 (243, 33, 2) := ⟨by decide, by decide +kernel, (ts_30 _ (List.mem_of_getElem? (i := 13) rfl)), (ts_17 _ (List.mem_of_getElem? (i := 13) rfl))⟩
theorem sf_11_246 : SFe 11 (246, 105, 1) := ⟨by decide, by decide +kernel, (ts_31 _ (List.mem_of_getElem? (i := 3) rfl)), (ts_31 _ (List.mem_of_getElem? (i := 4) rfl))⟩
theorem sf_11_277 : SFe 11 (277, 114, 1) := ⟨by decide, by decide +kernel, (ts_34 _ (List.mem_of_getElem? (i := 2) rfl)), (ts_34 _ (List.mem_of_getElem? (i := 3) rfl))⟩
theorem sf_11_394 : SFe 11 (394, 139, 2) := ⟨by decide, by decide +kernel, (ts_52 _ (List.mem_of_getElem? (i := 6) rfl)), (ts_52 _ (List.mem_of_getElem? (i := 7) rfl))⟩
theorem sf_11 : ∀ e ∈ ([(75, 142, 1), (79, 141, 3), (202, 249, 2), (229, 247, 1), (243, 33, 2), (246, 105, 1), (277, 114, 1), (394, 139, 2)] : List (Nat × Nat × Nat)), SFe 11 e := List.forall_mem_cons.mpr ⟨sf_11_75, List.forall_mem_cons.mpr ⟨sf_11_79, List.forall_mem_cons.mpr ⟨sf_11_202, List.forall_mem_cons.mpr ⟨sf_11_229, List.forall_mem_cons.mpr ⟨sf_11_243, List.forall_mem_cons.mpr ⟨sf_11_246, List.forall_mem_cons.mpr ⟨sf_11_277, List.forall_mem_cons.mpr ⟨sf_11_394, fun _ h => absurd h List.not_mem_nil⟩⟩⟩⟩⟩⟩⟩⟩
theorem sf_12_104 : SFe 12 (104, 145, 3) := ⟨by decide, by decide +kernel, (ts_6 _ (List.mem_of_getElem? (i := 2) rfl)), (ts_6 _ (List.mem_of_getElem? (i := 3) rfl))⟩
theorem sf_12_111 : SFe 12 (111, 148, 1) := ⟨by decide, by decide +kernel, (ts_5 _ (List.mem_of_getElem? (i := 23) rfl)), (ts_6 _ (List.mem_of_getElem? (i := 0) rfl))⟩
theorem sf_12_122 : SFe 12 (122, 149, 1) := ⟨by decide, by decide +kernel, (ts_8 _ (List.mem_of_getElem? (i := 10) rfl)), (ts_8 _ (List.mem_of_getElem? (i := 11) rfl))⟩
theorem sf_12_178 : SFe 12 (178, 169, 1) := ⟨by decide, by decide +kernel, (ts_16 _ (List.mem_of_getElem? (i := 12) rfl)), (ts_16 _ (List.mem_of_getElem? (i := 13) rfl))⟩
theorem sf_12_219 : SFe 12 (219, 178, 3) := ⟨by decide, by decide +kernel, (ts_19 _ (List.mem_of_getElem? (i := 20) rfl)), (ts_19 _ (List.mem_of_getElem? (i := 21) rfl))⟩
theorem sf_12_234 : SFe 12 (234, 180, 2) := ⟨by decide, by decide +kernel, (ts_19 _ (List.mem_of_getElem? (i := 12) rfl)), (ts_19 _ (List.mem_of_getElem? (i := 13) rfl))⟩
theorem sf_12_255 : SFe 12 (255, 186, 2) := ⟨by decide, by decide +kernel, (ts_22 _ (List.mem_of_getElem? (i := 18) rfl)), (ts_22 _ (List.mem_of_getElem? (i := 19) rfl))⟩
theorem sf_12_305 : SFe 12 (305, 207, 2) := ⟨by decide, by decide +kernel, (ts_29 _ (List.mem_of_getElem? (i := 22) rfl)), (ts_29 _ (List.mem_of_getElem? (i := 23) rfl))⟩
theorem sf_12_308 : SFe 12 (308, 247, 1) := ⟨by decide, by decide +kernel, (ts_30 _ (List.mem_of_getElem? (i := 18) rfl)), (ts_29 _ (List.mem_of_getElem? (i := 13) rfl))⟩
theorem sf_12_350 : SFe 12 (350, 228, 1) := ⟨by decide, by decide +kernel, (ts_47 _ (List.mem_of_getElem? (i := 23) rfl)), (ts_48 _ (List.mem_of_getElem? (i := 0) rfl))⟩
theorem sf_12_368 : SFe 12 (368, 240, 2) := ⟨by decide, by decide +kernel, (ts_51 _ (List.mem_of_getElem? (i := 1) rfl)), (ts_51 _ (List.mem_of_getElem? (i := 2) rfl))⟩
theorem sf_12 : ∀ e ∈ ([(104, 145, 3), (111, 148, 1), (122, 149, 1), (178, 169, 1), (219, 178, 3), (234, 180, 2), (255, 186, 2), (305, 207, 2), (308, 247, 1), (350, 228, 1), (368, 240, 2)] : List (Nat × Nat × Nat)), SFe 12 e := List.forall_mem_cons.mpr ⟨sf_12_104, List.forall_mem_cons.mpr ⟨sf_12_111, List.forall_mem_cons.mpr ⟨sf_12_122, List.forall_mem_cons.mpr ⟨sf_12_178, List.forall_mem_cons.mpr ⟨sf_12_219, List.forall_mem_cons.mpr ⟨sf_12_234, List.forall_mem_cons.mpr ⟨sf_12_255, List.forall_mem_cons.mpr ⟨sf_12_305, List.forall_mem_cons.mpr ⟨sf_12_308, List.forall_mem_cons.mpr ⟨sf_12_350, List.forall_mem_cons.mpr ⟨sf_12_368, fun _ h => absurd h List.not_mem_nil⟩⟩⟩⟩⟩⟩⟩⟩⟩⟩⟩
theorem sf_ok {c i y n : Nat} (h : sT c i = some (y, n)) : SFe c (i, y, n) := by
  unfold sT at h
  split at h
  · exact sf_3 _ (lookup_mem h)
  · exact sf_4 _ (lookup_mem h)
  · exact sf_9 _ (lookup_mem h)
  · exact sf_11 _ (lookup_mem h)
  · exact sf_12 _ (lookup_mem h)
  · cases h
theorem nf_3_74 : NFe 3 (74, 141, 3) := ⟨by decide, by decide +kernel, List.mem_of_getElem? (i := 0) rfl, (ts_5 _ (List.mem_of_getElem? (i := 7) rfl))⟩
theorem nf_3 : ∀ e ∈ ([(74, 141, 3)] : List (Nat × Nat × Nat)), NFe 3 e := List.forall_mem_cons.mpr ⟨nf_3_74, fun _ h => absurd h List.not_mem_nil⟩
theorem nf_4_40 : NFe 4 (40, 141, 3) := ⟨by decide, by decide +kernel, List.mem_of_getElem? (i := 1) rfl, (ts_5 _ (List.mem_of_getElem? (i := 7) rfl))⟩
theorem nf_4 : ∀ e ∈ ([(40, 141, 3)] : List (Nat × Nat × Nat)), NFe 4 e := List.forall_mem_cons.mpr ⟨nf_4_40, fun _ h => absurd h List.not_mem_nil⟩
theorem nf_ok {c i y n : Nat} (h : nT c i = some (y, n)) : NFe c (i, y, n) := by
  unfold nT at h
  split at h
  · exact nf_3 _ (lookup_mem h)
  · exact nf_4 _ (lookup_mem h)
  · cases h
theorem if__0_1 : IFe 0 (1, 45, 3) := ⟨by decide, by decide +kernel, (ts_40 _ (List.mem_of_getElem? (i := 23) rfl)), (ts_40 _ (List.mem_of_getElem? (i := 13) rfl)), by decide +kernel, by decide +kernel⟩
theorem if__0 : ∀ e ∈ ([(1, 45, 3)] : List (Nat × Nat × Nat)), IFe 0 e := List.forall_mem_cons.mpr ⟨if__0_1, fun _ h => absurd h List.not_mem_nil⟩
theorem if__1_1 : IFe 1 (1, 52, 3) := ⟨by decide, by decide +kernel, (ts_40 _ (List.mem_of_getElem? (i := 11) rfl)), (ts_40 _ (List.mem_of_getElem? (i := 2) rfl)), by decide +kernel, by decide +kernel⟩
theorem if__1 : ∀ e ∈ ([(1, 52, 3)] : List (Nat × Nat × Nat)), IFe 1 e := List.forall_mem_cons.mpr ⟨if__1_1, fun _ h => absurd h List.not_mem_nil⟩
theorem if__2_1 : IFe 2 (1, 52, 3) := ⟨by decide, by decide +kernel, (ts_41 _ (List.mem_of_getElem? (i := 3) rfl)), (ts_40 _ (List.mem_of_getElem? (i := 2) rfl)), by decide +kernel, by decide +kernel⟩
theorem if__2 : ∀ e ∈ ([(1, 52, 3)] : List (Nat × Nat × Nat)), IFe 2 e := List.forall_mem_cons.mpr ⟨if__2_1, fun _ h => absurd h List.not_mem_nil⟩
theorem if__5_1 : IFe 5 (1, 3, 3) := ⟨by decide, by decide +kernel, (ts_40 _ (List.mem_of_getElem? (i := 15) rfl)), (ts_40 _ (List.mem_of_getElem? (i := 9) rfl)), by decide +kernel, by decide +kernel⟩
theorem if__5 : ∀ e ∈ ([(1, 3, 3)] : List (Nat × Nat × Nat)), IFe 5 e := List.forall_mem_cons.mpr ⟨if__5_1, fun _ h => absurd h List.not_mem_nil⟩
theorem if__6_1 : IFe 6 (1, 52, 3) := ⟨by decide, by decide +kernel, (ts_40 _ (List.mem_of_getElem? (i := 1) rfl)), (ts_40 _ (List.mem_of_getElem? (i := 2) rfl)), by decide +kernel, by decide +kernel⟩
theorem if__6 : ∀ e ∈ ([(1, 52, 3)] : List (Nat × Nat × Nat)), IFe 6 e := List.forall_mem_cons.mpr ⟨if__6_1, fun _ h => absurd h List.not_mem_nil⟩
theorem if__7_1 : IFe 7 (1, 48, 3) := ⟨by decide, by decide +kernel, (ts_40 _ (List.mem_of_getElem? (i := 19) rfl)), (ts_39 _ (List.mem_of_getElem? (i := 23) rfl)), by decide +kernel, by decide +kernel⟩
theorem if__7 : ∀ e ∈ ([(1, 48, 3)] : List (Nat × Nat × Nat)), IFe 7 e := List.forall_mem_cons.mpr ⟨if__7_1, fun _ h => absurd h List.not_mem_nil⟩
theorem if__10_1 : IFe 10 (1, 50, 3) := ⟨by decide, by decide +kernel, (ts_41 _ (List.mem_of_getElem? (i := 7) rfl)), (ts_40 _ (List.mem_of_getElem? (i := 17) rfl)), by decide +kernel, by decide +kernel⟩
theorem if__10 : ∀ e ∈ ([(1, 50, 3)] : List (Nat × Nat × Nat)), IFe 10 e := List.forall_mem_cons.mpr ⟨if__10_1, fun _ h => absurd h List.not_mem_nil⟩
theorem if__11_329 : IFe 11 (329, 48, 3) := ⟨by decide, by decide +kernel, (ts_39 _ (List.mem_of_getElem? (i := 22) rfl)), (ts_39 _ (List.mem_of_getElem? (i := 23) rfl)), by decide +kernel, by decide +kernel⟩
theorem if__11_334 : IFe 11 (334, 3, 3) := ⟨by decide, by decide +kernel, (ts_40 _ (List.mem_of_getElem? (i := 8) rfl)), (ts_40 _ (List.mem_of_getElem? (i := 9) rfl)), by decide +kernel, by decide +kernel⟩
theorem if__11_337 : IFe 11 (337, 45, 3) := ⟨by decide, by decide +kernel, (ts_40 _ (List.mem_of_getElem? (i := 12) rfl)), (ts_40 _ (List.mem_of_getElem? (i := 13) rfl)), by decide +kernel, by decide +kernel⟩
theorem if__11_340 : IFe 11 (340, 50, 3) := ⟨by decide, by decide +kernel, (ts_40 _ (List.mem_of_getElem? (i := 16) rfl)), (ts_40 _ (List.mem_of_getElem? (i := 17) rfl)), by decide +kernel, by decide +kernel⟩
theorem if__11_343 : IFe 11 (343, 1, 3) := ⟨by decide, by decide +kernel, (ts_40 _ (List.mem_of_getElem? (i := 20) rfl)), (ts_40 _ (List.mem_of_getElem? (i := 21) rfl)), by decide +kernel, by decide +kernel⟩
theorem if__11_346 : IFe 11 (346, 5, 3) := ⟨by decide, by decide +kernel, (ts_41 _ (List.mem_of_getElem? (i := 0) rfl)), (ts_41 _ (List.mem_of_getElem? (i := 1) rfl)), by decide +kernel, by decide +kernel⟩
theorem if__11_349 : IFe 11 (349, 67, 3) := ⟨by decide, by decide +kernel, (ts_41 _ (List.mem_of_getElem? (i := 4) rfl)), (ts_41 _ (List.mem_of_getElem? (i := 5) rfl)), by decide +kernel, by decide +kernel⟩
theorem if__11_350 : IFe 11 (350, 52, 3) := ⟨by decide, by decide +kernel, (ts_41 _ (List.mem_of_getElem? (i := 8) rfl)), (ts_40 _ (List.mem_of_getElem? (i := 2) rfl)), by decide +kernel, by decide +kernel⟩
theorem if__11 : ∀ e ∈ ([(329, 48, 3), (334, 3, 3), (337, 45, 3), (340, 50, 3), (343, 1, 3), (346, 5, 3), (349, 67, 3), (350, 52, 3)] : List (Nat × Nat × Nat)), IFe 11 e := List.forall_mem_cons.mpr ⟨if__11_329, List.forall_mem_cons.mpr ⟨if__11_334, List.forall_mem_cons.mpr ⟨if__11_337, List.forall_mem_cons.mpr ⟨if__11_340, List.forall_mem_cons.mpr ⟨if__11_343, List.forall_mem_cons.mpr ⟨if__11_346, List.forall_mem_cons.mpr ⟨if__11_349, List.forall_mem_cons.mpr ⟨if__11_350, fun _ h => absurd h List.not_mem_nil⟩⟩⟩⟩⟩⟩⟩⟩
theorem if__13_9 : IFe 13 (9, 70, 0) := ⟨by decide, by decide +kernel, (ts_1 _ (List.mem_of_getElem? (i := 7) rfl)), (ts_1 _ (List.mem_of_getElem? (i := 8) rfl)), by decide +kernel, by decide +kernel⟩
theorem if__13_12 : IFe 13 (12, 144, 0) := ⟨by decide, by decide +kernel, (ts_3 _ (List.mem_of_getElem? (i := 13) rfl)), (ts_3 _ (List.mem_of_getElem? (i := 14) rfl)), by decide +kernel, by decide +kernel⟩
theorem if__13 : ∀ e ∈ ([(9, 70, 0), (12, 144, 0)] : List (Nat × Nat × Nat)), IFe 13 e := List.forall_mem_cons.mpr ⟨if__13_9, List.forall_mem_cons.mpr ⟨if__13_12, fun _ h => absurd h List.not_mem_nil⟩⟩
theorem if__ok {c i y n : Nat} (h : iT c i = some (y, n)) : IFe c (i, y, n) := by
  unfold iT at h
  split at h
  · exact if__0 _ (lookup_mem h)
  · exact if__1 _ (lookup_mem h)
  · exact if__2 _ (lookup_mem h)
  · exact if__5 _ (lookup_mem h)
  · exact if__6 _ (lookup_mem h)
  · exact if__7 _ (lookup_mem h)
  · exact if__10 _ (lookup_mem h)
  · exact if__11 _ (lookup_mem h)
  · exact if__13 _ (lookup_mem h)
  · cases h
theorem jf_11_9 : JFe 11 (9, 23, 0) := ⟨by decide, by decide +kernel, List.mem_of_getElem? (i := 2) rfl, (ts_2 _ (List.mem_of_getElem? (i := 13) rfl)), by decide +kernel, by decide +kernel⟩
theorem jf_11_24 : JFe 11 (24, 7, 0) := ⟨by decide, by decide +kernel, List.mem_of_getElem? (i := 3) rfl, (ts_3 _ (List.mem_of_getElem? (i := 0) rfl)), by decide +kernel, by decide +kernel⟩
theorem jf_11_62 : JFe 11 (62, 58, 0) := ⟨by decide, by decide +kernel, List.mem_of_getElem? (i := 4) rfl, (ts_3 _ (List.mem_of_getElem? (i := 7) rfl)), by decide +kernel, by decide +kernel⟩
theorem jf_11 : ∀ e ∈ ([(9, 23, 0), (24, 7, 0), (62, 58, 0)] : List (Nat × Nat × Nat)), JFe 11 e := List.forall_mem_cons.mpr ⟨jf_11_9, List.forall_mem_cons.mpr ⟨jf_11_24, List.forall_mem_cons.mpr ⟨jf_11_62, fun _ h => absurd h List.not_mem_nil⟩⟩⟩
theorem jf_ok {c i y n : Nat} (h : jT c i = some (y, n)) : JFe c (i, y, n) := by
  unfold jT at h
  split at h
  · exact jf_11 _ (lookup_mem h)
  · cases h
theorem pf_0_13 : PFe 0 (13, 57, 1) := ⟨by decide, by decide +kernel, (ts_46 _ (List.mem_of_getElem? (i := 20) rfl)), by decide +kernel, "FrogBreath$Mill", RX5, (ts_E _ (List.mem_of_getElem? (i := 0) rfl)), (ts_E _ (List.mem_of_getElem? (i := 1) rfl)), (ts_E _ (List.mem_of_getElem? (i := 10) rfl)), rfl, Or.inr (Or.inr ⟨RX1, (ts_E _ (List.mem_of_getElem? (i := 13) rfl)), (ts_E _ (List.mem_of_getElem? (i := 11) rfl))⟩)⟩
theorem pf_0 : ∀ e ∈ ([(13, 57, 1)] : List (Nat × Nat × Nat)), PFe 0 e := List.forall_mem_cons.mpr ⟨pf_0_13, fun _ h => absurd h List.not_mem_nil⟩
theorem pf_1_13 : PFe 1 (13, 55, 1) := ⟨by decide, by decide +kernel, (ts_44 _ (List.mem_of_getElem? (i := 11) rfl)), by decide +kernel, "FrogBreath$Reed", RX8, (ts_44 _ (List.mem_of_getElem? (i := 9) rfl)), (ts_43 _ (List.mem_of_getElem? (i := 14) rfl)), (ts_E _ (List.mem_of_getElem? (i := 11) rfl)), rfl, Or.inl (by decide +kernel)⟩
theorem pf_1 : ∀ e ∈ ([(13, 55, 1)] : List (Nat × Nat × Nat)), PFe 1 e := List.forall_mem_cons.mpr ⟨pf_1_13, fun _ h => absurd h List.not_mem_nil⟩
theorem pf_2_13 : PFe 2 (13, 54, 1) := ⟨by decide, by decide +kernel, (ts_41 _ (List.mem_of_getElem? (i := 21) rfl)), by decide +kernel, "FrogBreath$Reed", RX8, (ts_42 _ (List.mem_of_getElem? (i := 20) rfl)), (ts_41 _ (List.mem_of_getElem? (i := 19) rfl)), (ts_E _ (List.mem_of_getElem? (i := 12) rfl)), rfl, Or.inl (by decide +kernel)⟩
theorem pf_2 : ∀ e ∈ ([(13, 54, 1)] : List (Nat × Nat × Nat)), PFe 2 e := List.forall_mem_cons.mpr ⟨pf_2_13, fun _ h => absurd h List.not_mem_nil⟩
theorem pf_5_13 : PFe 5 (13, 56, 1) := ⟨by decide, by decide +kernel, (ts_46 _ (List.mem_of_getElem? (i := 1) rfl)), by decide +kernel, "FrogBreath$Ditch", RX1, (ts_E _ (List.mem_of_getElem? (i := 2) rfl)), (ts_E _ (List.mem_of_getElem? (i := 3) rfl)), (ts_E _ (List.mem_of_getElem? (i := 13) rfl)), rfl, Or.inr (Or.inl (ts_E _ (List.mem_of_getElem? (i := 11) rfl)))⟩
theorem pf_5_17 : PFe 5 (17, 4, 1) := ⟨by decide, by decide +kernel, (ts_44 _ (List.mem_of_getElem? (i := 2) rfl)), by decide +kernel, "FrogBreath$Ditch", RX1, (ts_43 _ (List.mem_of_getElem? (i := 23) rfl)), (ts_44 _ (List.mem_of_getElem? (i := 0) rfl)), (ts_E _ (List.mem_of_getElem? (i := 13) rfl)), rfl, Or.inl (by decide +kernel)⟩
theorem pf_5 : ∀ e ∈ ([(13, 56, 1), (17, 4, 1)] : List (Nat × Nat × Nat)), PFe 5 e := List.forall_mem_cons.mpr ⟨pf_5_13, List.forall_mem_cons.mpr ⟨pf_5_17, fun _ h => absurd h List.not_mem_nil⟩⟩
theorem pf_6_13 : PFe 6 (13, 54, 1) := ⟨by decide, by decide +kernel, (ts_41 _ (List.mem_of_getElem? (i := 21) rfl)), by decide +kernel, "FrogBreath$Reed", RX8, (ts_43 _ (List.mem_of_getElem? (i := 7) rfl)), (ts_41 _ (List.mem_of_getElem? (i := 19) rfl)), (ts_E _ (List.mem_of_getElem? (i := 14) rfl)), rfl, Or.inl (by decide +kernel)⟩
theorem pf_6 : ∀ e ∈ ([(13, 54, 1)] : List (Nat × Nat × Nat)), PFe 6 e := List.forall_mem_cons.mpr ⟨pf_6_13, fun _ h => absurd h List.not_mem_nil⟩
theorem pf_7_13 : PFe 7 (13, 56, 1) := ⟨by decide, by decide +kernel, (ts_46 _ (List.mem_of_getElem? (i := 1) rfl)), by decide +kernel, "FrogBreath$Muslin", RX6, (ts_E _ (List.mem_of_getElem? (i := 4) rfl)), (ts_E _ (List.mem_of_getElem? (i := 5) rfl)), (ts_E _ (List.mem_of_getElem? (i := 15) rfl)), rfl, Or.inr (Or.inl (ts_E _ (List.mem_of_getElem? (i := 14) rfl)))⟩
theorem pf_7 : ∀ e ∈ ([(13, 56, 1)] : List (Nat × Nat × Nat)), PFe 7 e := List.forall_mem_cons.mpr ⟨pf_7_13, fun _ h => absurd h List.not_mem_nil⟩
theorem pf_10_13 : PFe 10 (13, 55, 1) := ⟨by decide, by decide +kernel, (ts_44 _ (List.mem_of_getElem? (i := 11) rfl)), by decide +kernel, "FrogBreath$Prince", RX7, (ts_E _ (List.mem_of_getElem? (i := 6) rfl)), (ts_E _ (List.mem_of_getElem? (i := 7) rfl)), (ts_E _ (List.mem_of_getElem? (i := 16) rfl)), rfl, Or.inr (Or.inr ⟨RX6, (ts_E _ (List.mem_of_getElem? (i := 15) rfl)), (ts_E _ (List.mem_of_getElem? (i := 14) rfl))⟩)⟩
theorem pf_10_20 : PFe 10 (20, 57, 1) := ⟨by decide, by decide +kernel, (ts_46 _ (List.mem_of_getElem? (i := 20) rfl)), by decide +kernel, "FrogBreath$Prince", RX7, (ts_E _ (List.mem_of_getElem? (i := 8) rfl)), (ts_E _ (List.mem_of_getElem? (i := 9) rfl)), (ts_E _ (List.mem_of_getElem? (i := 16) rfl)), rfl, Or.inr (Or.inr ⟨RX6, (ts_E _ (List.mem_of_getElem? (i := 15) rfl)), (ts_E _ (List.mem_of_getElem? (i := 14) rfl))⟩)⟩
theorem pf_10 : ∀ e ∈ ([(13, 55, 1), (20, 57, 1)] : List (Nat × Nat × Nat)), PFe 10 e := List.forall_mem_cons.mpr ⟨pf_10_13, List.forall_mem_cons.mpr ⟨pf_10_20, fun _ h => absurd h List.not_mem_nil⟩⟩
theorem pf_ok {c i y n : Nat} (h : pT c i = some (y, n)) : PFe c (i, y, n) := by
  unfold pT at h
  split at h
  · exact pf_0 _ (lookup_mem h)
  · exact pf_1 _ (lookup_mem h)
  · exact pf_2 _ (lookup_mem h)
  · exact pf_5 _ (lookup_mem h)
  · exact pf_6 _ (lookup_mem h)
  · exact pf_7 _ (lookup_mem h)
  · exact pf_10 _ (lookup_mem h)
  · cases h
theorem vf_0_7_0 : VFe 0 7 1 (0, 53) := ⟨by decide, by decide +kernel, by decide, (ts_42 _ (List.mem_of_getElem? (i := 2) rfl)), Or.inr ⟨⟨"FrogBreath$Clock", "begins", "(I)V"⟩, "FrogBreath$Reed", by decide +kernel, by decide +kernel, by decide +kernel, (ts_46 _ (List.mem_of_getElem? (i := 15) rfl)), (ts_46 _ (List.mem_of_getElem? (i := 16) rfl)), (ts_46 _ (List.mem_of_getElem? (i := 17) rfl)), Or.inl (by decide +kernel)⟩⟩
theorem vf_0_7 : ∀ e ∈ ([(0, 53)] : List (Nat × Nat)), VFe 0 7 1 e := List.forall_mem_cons.mpr ⟨vf_0_7_0, fun _ h => absurd h List.not_mem_nil⟩
theorem vf_1_7_0 : VFe 1 7 1 (0, 53) := ⟨by decide, by decide +kernel, by decide, (ts_42 _ (List.mem_of_getElem? (i := 2) rfl)), Or.inr ⟨⟨"FrogBreath$Ditch", "begins", "(I)V"⟩, "FrogBreath$Reed", by decide +kernel, by decide +kernel, by decide +kernel, (ts_44 _ (List.mem_of_getElem? (i := 4) rfl)), (ts_44 _ (List.mem_of_getElem? (i := 5) rfl)), (ts_44 _ (List.mem_of_getElem? (i := 6) rfl)), Or.inl (by decide +kernel)⟩⟩
theorem vf_1_7_1 : VFe 1 7 1 (1, 53) := ⟨by decide, by decide +kernel, by decide, (ts_42 _ (List.mem_of_getElem? (i := 2) rfl)), Or.inr ⟨⟨"FrogBreath$Ditch", "begins", "(I)V"⟩, "FrogBreath$Reed", by decide +kernel, by decide +kernel, by decide +kernel, (ts_44 _ (List.mem_of_getElem? (i := 4) rfl)), (ts_44 _ (List.mem_of_getElem? (i := 5) rfl)), (ts_44 _ (List.mem_of_getElem? (i := 7) rfl)), Or.inl (by decide +kernel)⟩⟩
theorem vf_1_7_5 : VFe 1 7 1 (5, 53) := ⟨by decide, by decide +kernel, by decide, (ts_42 _ (List.mem_of_getElem? (i := 2) rfl)), Or.inr ⟨⟨"FrogBreath$Ditch", "begins", "(I)V"⟩, "FrogBreath$Reed", by decide +kernel, by decide +kernel, by decide +kernel, (ts_44 _ (List.mem_of_getElem? (i := 4) rfl)), (ts_44 _ (List.mem_of_getElem? (i := 5) rfl)), (ts_44 _ (List.mem_of_getElem? (i := 8) rfl)), Or.inl (by decide +kernel)⟩⟩
theorem vf_1_7 : ∀ e ∈ ([(0, 53), (1, 53), (5, 53)] : List (Nat × Nat)), VFe 1 7 1 e := List.forall_mem_cons.mpr ⟨vf_1_7_0, List.forall_mem_cons.mpr ⟨vf_1_7_1, List.forall_mem_cons.mpr ⟨vf_1_7_5, fun _ h => absurd h List.not_mem_nil⟩⟩⟩
theorem vf_2_7_2 : VFe 2 7 1 (2, 53) := ⟨by decide, by decide +kernel, by decide, (ts_42 _ (List.mem_of_getElem? (i := 2) rfl)), Or.inr ⟨⟨"FrogBreath$Lamp", "begins", "(I)V"⟩, "FrogBreath$Reed", by decide +kernel, by decide +kernel, by decide +kernel, (ts_42 _ (List.mem_of_getElem? (i := 17) rfl)), (ts_42 _ (List.mem_of_getElem? (i := 18) rfl)), (ts_42 _ (List.mem_of_getElem? (i := 19) rfl)), Or.inl (by decide +kernel)⟩⟩
theorem vf_2_7 : ∀ e ∈ ([(2, 53)] : List (Nat × Nat)), VFe 2 7 1 e := List.forall_mem_cons.mpr ⟨vf_2_7_2, fun _ h => absurd h List.not_mem_nil⟩
theorem vf_3_43_3 : VFe 3 43 0 (3, 10) := ⟨by decide, by decide +kernel, by decide, (ts_13 _ (List.mem_of_getElem? (i := 5) rfl)), Or.inl ⟨(ts_13 _ (List.mem_of_getElem? (i := 4) rfl)), (ts_13 _ (List.mem_of_getElem? (i := 6) rfl)), by decide +kernel⟩⟩
theorem vf_3_43 : ∀ e ∈ ([(3, 10)] : List (Nat × Nat)), VFe 3 43 0 e := List.forall_mem_cons.mpr ⟨vf_3_43_3, fun _ h => absurd h List.not_mem_nil⟩
theorem vf_3_47_3 : VFe 3 47 1 (3, 17) := ⟨by decide, by decide +kernel, by decide, (ts_14 _ (List.mem_of_getElem? (i := 11) rfl)), Or.inl ⟨(ts_14 _ (List.mem_of_getElem? (i := 10) rfl)), (ts_14 _ (List.mem_of_getElem? (i := 12) rfl)), by decide +kernel⟩⟩
theorem vf_3_47 : ∀ e ∈ ([(3, 17)] : List (Nat × Nat)), VFe 3 47 1 e := List.forall_mem_cons.mpr ⟨vf_3_47_3, fun _ h => absurd h List.not_mem_nil⟩
theorem vf_3_51_3 : VFe 3 51 2 (3, 11) := ⟨by decide, by decide +kernel, by decide, (ts_13 _ (List.mem_of_getElem? (i := 9) rfl)), Or.inl ⟨(ts_13 _ (List.mem_of_getElem? (i := 8) rfl)), (ts_13 _ (List.mem_of_getElem? (i := 10) rfl)), by decide +kernel⟩⟩
theorem vf_3_51 : ∀ e ∈ ([(3, 11)] : List (Nat × Nat)), VFe 3 51 2 e := List.forall_mem_cons.mpr ⟨vf_3_51_3, fun _ h => absurd h List.not_mem_nil⟩
theorem vf_3_55_3 : VFe 3 55 2 (3, 18) := ⟨by decide, by decide +kernel, by decide, (ts_13 _ (List.mem_of_getElem? (i := 19) rfl)), Or.inl ⟨(ts_13 _ (List.mem_of_getElem? (i := 18) rfl)), (ts_13 _ (List.mem_of_getElem? (i := 20) rfl)), by decide +kernel⟩⟩
theorem vf_3_55 : ∀ e ∈ ([(3, 18)] : List (Nat × Nat)), VFe 3 55 2 e := List.forall_mem_cons.mpr ⟨vf_3_55_3, fun _ h => absurd h List.not_mem_nil⟩
theorem vf_3_58_3 : VFe 3 58 1 (3, 13) := ⟨by decide, by decide +kernel, by decide, (ts_13 _ (List.mem_of_getElem? (i := 13) rfl)), Or.inl ⟨(ts_13 _ (List.mem_of_getElem? (i := 12) rfl)), (ts_13 _ (List.mem_of_getElem? (i := 14) rfl)), by decide +kernel⟩⟩
theorem vf_3_58 : ∀ e ∈ ([(3, 13)] : List (Nat × Nat)), VFe 3 58 1 e := List.forall_mem_cons.mpr ⟨vf_3_58_3, fun _ h => absurd h List.not_mem_nil⟩
theorem vf_3_65_3 : VFe 3 65 0 (3, 15) := ⟨by decide, by decide +kernel, by decide, (ts_14 _ (List.mem_of_getElem? (i := 0) rfl)), Or.inl ⟨(ts_13 _ (List.mem_of_getElem? (i := 23) rfl)), (ts_14 _ (List.mem_of_getElem? (i := 1) rfl)), by decide +kernel⟩⟩
theorem vf_3_65 : ∀ e ∈ ([(3, 15)] : List (Nat × Nat)), VFe 3 65 0 e := List.forall_mem_cons.mpr ⟨vf_3_65_3, fun _ h => absurd h List.not_mem_nil⟩
theorem vf_3_68_3 : VFe 3 68 0 (3, 14) := ⟨by decide, by decide +kernel, by decide, (ts_14 _ (List.mem_of_getElem? (i := 4) rfl)), Or.inl ⟨(ts_14 _ (List.mem_of_getElem? (i := 3) rfl)), (ts_14 _ (List.mem_of_getElem? (i := 5) rfl)), by decide +kernel⟩⟩
theorem vf_3_68 : ∀ e ∈ ([(3, 14)] : List (Nat × Nat)), VFe 3 68 0 e := List.forall_mem_cons.mpr ⟨vf_3_68_3, fun _ h => absurd h List.not_mem_nil⟩
theorem vf_3_81_3 : VFe 3 81 1 (3, 20) := ⟨by decide, by decide +kernel, by decide, (ts_18 _ (List.mem_of_getElem? (i := 4) rfl)), Or.inl ⟨(ts_18 _ (List.mem_of_getElem? (i := 3) rfl)), (ts_18 _ (List.mem_of_getElem? (i := 5) rfl)), by decide +kernel⟩⟩
theorem vf_3_81 : ∀ e ∈ ([(3, 20)] : List (Nat × Nat)), VFe 3 81 1 e := List.forall_mem_cons.mpr ⟨vf_3_81_3, fun _ h => absurd h List.not_mem_nil⟩
theorem vf_3_85_3 : VFe 3 85 0 (3, 21) := ⟨by decide, by decide +kernel, by decide, (ts_18 _ (List.mem_of_getElem? (i := 8) rfl)), Or.inl ⟨(ts_18 _ (List.mem_of_getElem? (i := 7) rfl)), (ts_18 _ (List.mem_of_getElem? (i := 9) rfl)), by decide +kernel⟩⟩
theorem vf_3_85 : ∀ e ∈ ([(3, 21)] : List (Nat × Nat)), VFe 3 85 0 e := List.forall_mem_cons.mpr ⟨vf_3_85_3, fun _ h => absurd h List.not_mem_nil⟩
theorem vf_4_47_4 : VFe 4 47 1 (4, 24) := ⟨by decide, by decide +kernel, by decide, (ts_5 _ (List.mem_of_getElem? (i := 10) rfl)), Or.inl ⟨(ts_9 _ (List.mem_of_getElem? (i := 10) rfl)), (ts_5 _ (List.mem_of_getElem? (i := 11) rfl)), by decide +kernel⟩⟩
theorem vf_4_47 : ∀ e ∈ ([(4, 24)] : List (Nat × Nat)), VFe 4 47 1 e := List.forall_mem_cons.mpr ⟨vf_4_47_4, fun _ h => absurd h List.not_mem_nil⟩
theorem vf_4_51_4 : VFe 4 51 1 (4, 25) := ⟨by decide, by decide +kernel, by decide, (ts_9 _ (List.mem_of_getElem? (i := 12) rfl)), Or.inl ⟨(ts_9 _ (List.mem_of_getElem? (i := 11) rfl)), (ts_9 _ (List.mem_of_getElem? (i := 13) rfl)), by decide +kernel⟩⟩
theorem vf_4_51 : ∀ e ∈ ([(4, 25)] : List (Nat × Nat)), VFe 4 51 1 e := List.forall_mem_cons.mpr ⟨vf_4_51_4, fun _ h => absurd h List.not_mem_nil⟩
theorem vf_4_57_4 : VFe 4 57 2 (4, 28) := ⟨by decide, by decide +kernel, by decide, (ts_9 _ (List.mem_of_getElem? (i := 7) rfl)), Or.inl ⟨(ts_10 _ (List.mem_of_getElem? (i := 14) rfl)), (ts_9 _ (List.mem_of_getElem? (i := 8) rfl)), by decide +kernel⟩⟩
theorem vf_4_57 : ∀ e ∈ ([(4, 28)] : List (Nat × Nat)), VFe 4 57 2 e := List.forall_mem_cons.mpr ⟨vf_4_57_4, fun _ h => absurd h List.not_mem_nil⟩
theorem vf_4_67_4 : VFe 4 67 1 (4, 32) := ⟨by decide, by decide +kernel, by decide, (ts_20 _ (List.mem_of_getElem? (i := 17) rfl)), Or.inl ⟨(ts_20 _ (List.mem_of_getElem? (i := 16) rfl)), (ts_20 _ (List.mem_of_getElem? (i := 18) rfl)), by decide +kernel⟩⟩
theorem vf_4_67 : ∀ e ∈ ([(4, 32)] : List (Nat × Nat)), VFe 4 67 1 e := List.forall_mem_cons.mpr ⟨vf_4_67_4, fun _ h => absurd h List.not_mem_nil⟩
theorem vf_4_81_4 : VFe 4 81 1 (4, 38) := ⟨by decide, by decide +kernel, by decide, (ts_21 _ (List.mem_of_getElem? (i := 13) rfl)), Or.inl ⟨(ts_21 _ (List.mem_of_getElem? (i := 12) rfl)), (ts_21 _ (List.mem_of_getElem? (i := 14) rfl)), by decide +kernel⟩⟩
theorem vf_4_81 : ∀ e ∈ ([(4, 38)] : List (Nat × Nat)), VFe 4 81 1 e := List.forall_mem_cons.mpr ⟨vf_4_81_4, fun _ h => absurd h List.not_mem_nil⟩
theorem vf_4_85_3 : VFe 4 85 0 (3, 8) := ⟨by decide, by decide +kernel, by decide, (ts_17 _ (List.mem_of_getElem? (i := 19) rfl)), Or.inl ⟨(ts_17 _ (List.mem_of_getElem? (i := 18) rfl)), (ts_17 _ (List.mem_of_getElem? (i := 20) rfl)), by decide +kernel⟩⟩
theorem vf_4_85 : ∀ e ∈ ([(3, 8)] : List (Nat × Nat)), VFe 4 85 0 e := List.forall_mem_cons.mpr ⟨vf_4_85_3, fun _ h => absurd h List.not_mem_nil⟩
theorem vf_4_91_3 : VFe 4 91 6 (3, 19) := ⟨by decide, by decide +kernel, by decide, (ts_17 _ (List.mem_of_getElem? (i := 23) rfl)), Or.inl ⟨(ts_17 _ (List.mem_of_getElem? (i := 22) rfl)), (ts_18 _ (List.mem_of_getElem? (i := 0) rfl)), by decide +kernel⟩⟩
theorem vf_4_91 : ∀ e ∈ ([(3, 19)] : List (Nat × Nat)), VFe 4 91 6 e := List.forall_mem_cons.mpr ⟨vf_4_91_3, fun _ h => absurd h List.not_mem_nil⟩
theorem vf_4_101_4 : VFe 4 101 2 (4, 40) := ⟨by decide, by decide +kernel, by decide, (ts_17 _ (List.mem_of_getElem? (i := 5) rfl)), Or.inl ⟨(ts_21 _ (List.mem_of_getElem? (i := 4) rfl)), (ts_17 _ (List.mem_of_getElem? (i := 6) rfl)), by decide +kernel⟩⟩
theorem vf_4_101 : ∀ e ∈ ([(4, 40)] : List (Nat × Nat)), VFe 4 101 2 e := List.forall_mem_cons.mpr ⟨vf_4_101_4, fun _ h => absurd h List.not_mem_nil⟩
theorem vf_4_113_4 : VFe 4 113 2 (4, 41) := ⟨by decide, by decide +kernel, by decide, (ts_21 _ (List.mem_of_getElem? (i := 1) rfl)), Or.inl ⟨(ts_21 _ (List.mem_of_getElem? (i := 0) rfl)), (ts_21 _ (List.mem_of_getElem? (i := 2) rfl)), by decide +kernel⟩⟩
theorem vf_4_113 : ∀ e ∈ ([(4, 41)] : List (Nat × Nat)), VFe 4 113 2 e := List.forall_mem_cons.mpr ⟨vf_4_113_4, fun _ h => absurd h List.not_mem_nil⟩
theorem vf_4_116_4 : VFe 4 116 0 (4, 43) := ⟨by decide, by decide +kernel, by decide, (ts_21 _ (List.mem_of_getElem? (i := 17) rfl)), Or.inl ⟨(ts_21 _ (List.mem_of_getElem? (i := 16) rfl)), (ts_21 _ (List.mem_of_getElem? (i := 18) rfl)), by decide +kernel⟩⟩
theorem vf_4_116 : ∀ e ∈ ([(4, 43)] : List (Nat × Nat)), VFe 4 116 0 e := List.forall_mem_cons.mpr ⟨vf_4_116_4, fun _ h => absurd h List.not_mem_nil⟩
theorem vf_5_7_0 : VFe 5 7 1 (0, 53) := ⟨by decide, by decide +kernel, by decide, (ts_42 _ (List.mem_of_getElem? (i := 2) rfl)), Or.inr ⟨⟨"FrogBreath$Mill", "begins", "(I)V"⟩, "FrogBreath$Reed", by decide +kernel, by decide +kernel, by decide +kernel, (ts_43 _ (List.mem_of_getElem? (i := 19) rfl)), (ts_43 _ (List.mem_of_getElem? (i := 20) rfl)), (ts_43 _ (List.mem_of_getElem? (i := 21) rfl)), Or.inl (by decide +kernel)⟩⟩
theorem vf_5_7_5 : VFe 5 7 1 (5, 53) := ⟨by decide, by decide +kernel, by decide, (ts_42 _ (List.mem_of_getElem? (i := 2) rfl)), Or.inr ⟨⟨"FrogBreath$Mill", "begins", "(I)V"⟩, "FrogBreath$Reed", by decide +kernel, by decide +kernel, by decide +kernel, (ts_43 _ (List.mem_of_getElem? (i := 19) rfl)), (ts_43 _ (List.mem_of_getElem? (i := 20) rfl)), (ts_43 _ (List.mem_of_getElem? (i := 22) rfl)), Or.inl (by decide +kernel)⟩⟩
theorem vf_5_7 : ∀ e ∈ ([(0, 53), (5, 53)] : List (Nat × Nat)), VFe 5 7 1 e := List.forall_mem_cons.mpr ⟨vf_5_7_0, List.forall_mem_cons.mpr ⟨vf_5_7_5, fun _ h => absurd h List.not_mem_nil⟩⟩
theorem vf_6_7_6 : VFe 6 7 1 (6, 53) := ⟨by decide, by decide +kernel, by decide, (ts_42 _ (List.mem_of_getElem? (i := 2) rfl)), Or.inr ⟨⟨"FrogBreath$Muslin", "begins", "(I)V"⟩, "FrogBreath$Reed", by decide +kernel, by decide +kernel, by decide +kernel, (ts_43 _ (List.mem_of_getElem? (i := 2) rfl)), (ts_43 _ (List.mem_of_getElem? (i := 3) rfl)), (ts_43 _ (List.mem_of_getElem? (i := 4) rfl)), Or.inl (by decide +kernel)⟩⟩
theorem vf_6_7_7 : VFe 6 7 1 (7, 53) := ⟨by decide, by decide +kernel, by decide, (ts_42 _ (List.mem_of_getElem? (i := 2) rfl)), Or.inr ⟨⟨"FrogBreath$Muslin", "begins", "(I)V"⟩, "FrogBreath$Reed", by decide +kernel, by decide +kernel, by decide +kernel, (ts_43 _ (List.mem_of_getElem? (i := 2) rfl)), (ts_43 _ (List.mem_of_getElem? (i := 3) rfl)), (ts_43 _ (List.mem_of_getElem? (i := 5) rfl)), Or.inl (by decide +kernel)⟩⟩
theorem vf_6_7_10 : VFe 6 7 1 (10, 53) := ⟨by decide, by decide +kernel, by decide, (ts_42 _ (List.mem_of_getElem? (i := 2) rfl)), Or.inr ⟨⟨"FrogBreath$Muslin", "begins", "(I)V"⟩, "FrogBreath$Reed", by decide +kernel, by decide +kernel, by decide +kernel, (ts_43 _ (List.mem_of_getElem? (i := 2) rfl)), (ts_43 _ (List.mem_of_getElem? (i := 3) rfl)), (ts_43 _ (List.mem_of_getElem? (i := 6) rfl)), Or.inl (by decide +kernel)⟩⟩
theorem vf_6_7 : ∀ e ∈ ([(6, 53), (7, 53), (10, 53)] : List (Nat × Nat)), VFe 6 7 1 e := List.forall_mem_cons.mpr ⟨vf_6_7_6, List.forall_mem_cons.mpr ⟨vf_6_7_7, List.forall_mem_cons.mpr ⟨vf_6_7_10, fun _ h => absurd h List.not_mem_nil⟩⟩⟩
theorem vf_7_7_7 : VFe 7 7 1 (7, 53) := ⟨by decide, by decide +kernel, by decide, (ts_42 _ (List.mem_of_getElem? (i := 2) rfl)), Or.inr ⟨⟨"FrogBreath$Prince", "begins", "(I)V"⟩, "FrogBreath$Reed", by decide +kernel, by decide +kernel, by decide +kernel, (ts_45 _ (List.mem_of_getElem? (i := 9) rfl)), (ts_45 _ (List.mem_of_getElem? (i := 10) rfl)), (ts_45 _ (List.mem_of_getElem? (i := 11) rfl)), Or.inl (by decide +kernel)⟩⟩
theorem vf_7_7_10 : VFe 7 7 1 (10, 53) := ⟨by decide, by decide +kernel, by decide, (ts_42 _ (List.mem_of_getElem? (i := 2) rfl)), Or.inr ⟨⟨"FrogBreath$Prince", "begins", "(I)V"⟩, "FrogBreath$Reed", by decide +kernel, by decide +kernel, by decide +kernel, (ts_45 _ (List.mem_of_getElem? (i := 9) rfl)), (ts_45 _ (List.mem_of_getElem? (i := 10) rfl)), (ts_45 _ (List.mem_of_getElem? (i := 12) rfl)), Or.inl (by decide +kernel)⟩⟩
theorem vf_7_7 : ∀ e ∈ ([(7, 53), (10, 53)] : List (Nat × Nat)), VFe 7 7 1 e := List.forall_mem_cons.mpr ⟨vf_7_7_7, List.forall_mem_cons.mpr ⟨vf_7_7_10, fun _ h => absurd h List.not_mem_nil⟩⟩
theorem vf_7_17_7 : VFe 7 17 1 (7, 49) := ⟨by decide, by decide +kernel, by decide, (ts_43 _ (List.mem_of_getElem? (i := 0) rfl)), Or.inr ⟨⟨"FrogBreath$Prince", "lending", "(I)I"⟩, "FrogBreath$Muslin", by decide +kernel, by decide +kernel, by decide +kernel, (ts_45 _ (List.mem_of_getElem? (i := 13) rfl)), (ts_45 _ (List.mem_of_getElem? (i := 14) rfl)), (ts_45 _ (List.mem_of_getElem? (i := 15) rfl)), Or.inl (by decide +kernel)⟩⟩
theorem vf_7_17_10 : VFe 7 17 1 (10, 49) := ⟨by decide, by decide +kernel, by decide, (ts_43 _ (List.mem_of_getElem? (i := 0) rfl)), Or.inr ⟨⟨"FrogBreath$Prince", "lending", "(I)I"⟩, "FrogBreath$Muslin", by decide +kernel, by decide +kernel, by decide +kernel, (ts_45 _ (List.mem_of_getElem? (i := 13) rfl)), (ts_45 _ (List.mem_of_getElem? (i := 14) rfl)), (ts_45 _ (List.mem_of_getElem? (i := 16) rfl)), Or.inl (by decide +kernel)⟩⟩
theorem vf_7_17 : ∀ e ∈ ([(7, 49), (10, 49)] : List (Nat × Nat)), VFe 7 17 1 e := List.forall_mem_cons.mpr ⟨vf_7_17_7, List.forall_mem_cons.mpr ⟨vf_7_17_10, fun _ h => absurd h List.not_mem_nil⟩⟩
theorem vf_8_22_0 : VFe 8 22 1 (0, 53) := ⟨by decide, by decide +kernel, by decide, (ts_42 _ (List.mem_of_getElem? (i := 2) rfl)), Or.inr ⟨⟨"FrogBreath$Reed", "begins", "(I)V"⟩, "FrogBreath$Reed", by decide +kernel, by decide +kernel, by decide +kernel, (ts_41 _ (List.mem_of_getElem? (i := 23) rfl)), (ts_42 _ (List.mem_of_getElem? (i := 0) rfl)), (ts_42 _ (List.mem_of_getElem? (i := 1) rfl)), Or.inl (by decide +kernel)⟩⟩
theorem vf_8_22_1 : VFe 8 22 1 (1, 53) := ⟨by decide, by decide +kernel, by decide, (ts_42 _ (List.mem_of_getElem? (i := 2) rfl)), Or.inr ⟨⟨"FrogBreath$Reed", "begins", "(I)V"⟩, "FrogBreath$Reed", by decide +kernel, by decide +kernel, by decide +kernel, (ts_41 _ (List.mem_of_getElem? (i := 23) rfl)), (ts_42 _ (List.mem_of_getElem? (i := 0) rfl)), (ts_42 _ (List.mem_of_getElem? (i := 4) rfl)), Or.inl (by decide +kernel)⟩⟩
theorem vf_8_22_2 : VFe 8 22 1 (2, 53) := ⟨by decide, by decide +kernel, by decide, (ts_42 _ (List.mem_of_getElem? (i := 2) rfl)), Or.inr ⟨⟨"FrogBreath$Reed", "begins", "(I)V"⟩, "FrogBreath$Reed", by decide +kernel, by decide +kernel, by decide +kernel, (ts_41 _ (List.mem_of_getElem? (i := 23) rfl)), (ts_42 _ (List.mem_of_getElem? (i := 0) rfl)), (ts_42 _ (List.mem_of_getElem? (i := 5) rfl)), Or.inl (by decide +kernel)⟩⟩
theorem vf_8_22_5 : VFe 8 22 1 (5, 53) := ⟨by decide, by decide +kernel, by decide, (ts_42 _ (List.mem_of_getElem? (i := 2) rfl)), Or.inr ⟨⟨"FrogBreath$Reed", "begins", "(I)V"⟩, "FrogBreath$Reed", by decide +kernel, by decide +kernel, by decide +kernel, (ts_41 _ (List.mem_of_getElem? (i := 23) rfl)), (ts_42 _ (List.mem_of_getElem? (i := 0) rfl)), (ts_42 _ (List.mem_of_getElem? (i := 6) rfl)), Or.inl (by decide +kernel)⟩⟩
theorem vf_8_22_6 : VFe 8 22 1 (6, 53) := ⟨by decide, by decide +kernel, by decide, (ts_42 _ (List.mem_of_getElem? (i := 2) rfl)), Or.inr ⟨⟨"FrogBreath$Reed", "begins", "(I)V"⟩, "FrogBreath$Reed", by decide +kernel, by decide +kernel, by decide +kernel, (ts_41 _ (List.mem_of_getElem? (i := 23) rfl)), (ts_42 _ (List.mem_of_getElem? (i := 0) rfl)), (ts_42 _ (List.mem_of_getElem? (i := 7) rfl)), Or.inl (by decide +kernel)⟩⟩
theorem vf_8_22_7 : VFe 8 22 1 (7, 53) := ⟨by decide, by decide +kernel, by decide, (ts_42 _ (List.mem_of_getElem? (i := 2) rfl)), Or.inr ⟨⟨"FrogBreath$Reed", "begins", "(I)V"⟩, "FrogBreath$Reed", by decide +kernel, by decide +kernel, by decide +kernel, (ts_41 _ (List.mem_of_getElem? (i := 23) rfl)), (ts_42 _ (List.mem_of_getElem? (i := 0) rfl)), (ts_42 _ (List.mem_of_getElem? (i := 8) rfl)), Or.inl (by decide +kernel)⟩⟩
theorem vf_8_22_8 : VFe 8 22 1 (8, 53) := ⟨by decide, by decide +kernel, by decide, (ts_42 _ (List.mem_of_getElem? (i := 2) rfl)), Or.inl ⟨(ts_42 _ (List.mem_of_getElem? (i := 9) rfl)), (ts_42 _ (List.mem_of_getElem? (i := 10) rfl)), by decide +kernel⟩⟩
theorem vf_8_22_10 : VFe 8 22 1 (10, 53) := ⟨by decide, by decide +kernel, by decide, (ts_42 _ (List.mem_of_getElem? (i := 2) rfl)), Or.inr ⟨⟨"FrogBreath$Reed", "begins", "(I)V"⟩, "FrogBreath$Reed", by decide +kernel, by decide +kernel, by decide +kernel, (ts_41 _ (List.mem_of_getElem? (i := 23) rfl)), (ts_42 _ (List.mem_of_getElem? (i := 0) rfl)), (ts_42 _ (List.mem_of_getElem? (i := 11) rfl)), Or.inl (by decide +kernel)⟩⟩
theorem vf_8_22 : ∀ e ∈ ([(0, 53), (1, 53), (2, 53), (5, 53), (6, 53), (7, 53), (8, 53), (10, 53)] : List (Nat × Nat)), VFe 8 22 1 e := List.forall_mem_cons.mpr ⟨vf_8_22_0, List.forall_mem_cons.mpr ⟨vf_8_22_1, List.forall_mem_cons.mpr ⟨vf_8_22_2, List.forall_mem_cons.mpr ⟨vf_8_22_5, List.forall_mem_cons.mpr ⟨vf_8_22_6, List.forall_mem_cons.mpr ⟨vf_8_22_7, List.forall_mem_cons.mpr ⟨vf_8_22_8, List.forall_mem_cons.mpr ⟨vf_8_22_10, fun _ h => absurd h List.not_mem_nil⟩⟩⟩⟩⟩⟩⟩⟩
theorem vf_8_26_0 : VFe 8 26 1 (0, 54) := ⟨by decide, by decide +kernel, by decide, (ts_41 _ (List.mem_of_getElem? (i := 21) rfl)), Or.inr ⟨⟨"FrogBreath$Reed", "lending", "(I)I"⟩, "FrogBreath$Reed", by decide +kernel, by decide +kernel, by decide +kernel, (ts_44 _ (List.mem_of_getElem? (i := 13) rfl)), (ts_41 _ (List.mem_of_getElem? (i := 19) rfl)), (ts_41 _ (List.mem_of_getElem? (i := 20) rfl)), Or.inl (by decide +kernel)⟩⟩
theorem vf_8_26_1 : VFe 8 26 1 (1, 54) := ⟨by decide, by decide +kernel, by decide, (ts_41 _ (List.mem_of_getElem? (i := 21) rfl)), Or.inr ⟨⟨"FrogBreath$Reed", "lending", "(I)I"⟩, "FrogBreath$Reed", by decide +kernel, by decide +kernel, by decide +kernel, (ts_44 _ (List.mem_of_getElem? (i := 13) rfl)), (ts_41 _ (List.mem_of_getElem? (i := 19) rfl)), (ts_42 _ (List.mem_of_getElem? (i := 12) rfl)), Or.inl (by decide +kernel)⟩⟩
theorem vf_8_26_2 : VFe 8 26 1 (2, 6) := ⟨by decide, by decide +kernel, by decide, (ts_42 _ (List.mem_of_getElem? (i := 15) rfl)), Or.inr ⟨⟨"FrogBreath$Reed", "lending", "(I)I"⟩, "FrogBreath$Reed", by decide +kernel, by decide +kernel, by decide +kernel, (ts_44 _ (List.mem_of_getElem? (i := 13) rfl)), (ts_41 _ (List.mem_of_getElem? (i := 19) rfl)), (ts_42 _ (List.mem_of_getElem? (i := 14) rfl)), Or.inr ⟨(ts_42 _ (List.mem_of_getElem? (i := 13) rfl)), _, _, _, (ts_41 _ (List.mem_of_getElem? (i := 22) rfl))⟩⟩⟩
theorem vf_8_26_5 : VFe 8 26 1 (5, 54) := ⟨by decide, by decide +kernel, by decide, (ts_41 _ (List.mem_of_getElem? (i := 21) rfl)), Or.inr ⟨⟨"FrogBreath$Reed", "lending", "(I)I"⟩, "FrogBreath$Reed", by decide +kernel, by decide +kernel, by decide +kernel, (ts_44 _ (List.mem_of_getElem? (i := 13) rfl)), (ts_41 _ (List.mem_of_getElem? (i := 19) rfl)), (ts_42 _ (List.mem_of_getElem? (i := 22) rfl)), Or.inl (by decide +kernel)⟩⟩
theorem vf_8_26_6 : VFe 8 26 1 (6, 49) := ⟨by decide, by decide +kernel, by decide, (ts_43 _ (List.mem_of_getElem? (i := 0) rfl)), Or.inr ⟨⟨"FrogBreath$Reed", "lending", "(I)I"⟩, "FrogBreath$Reed", by decide +kernel, by decide +kernel, by decide +kernel, (ts_44 _ (List.mem_of_getElem? (i := 13) rfl)), (ts_41 _ (List.mem_of_getElem? (i := 19) rfl)), (ts_42 _ (List.mem_of_getElem? (i := 23) rfl)), Or.inr ⟨(ts_42 _ (List.mem_of_getElem? (i := 13) rfl)), _, _, _, (ts_41 _ (List.mem_of_getElem? (i := 22) rfl))⟩⟩⟩
theorem vf_8_26_7 : VFe 8 26 1 (7, 49) := ⟨by decide, by decide +kernel, by decide, (ts_43 _ (List.mem_of_getElem? (i := 0) rfl)), Or.inr ⟨⟨"FrogBreath$Reed", "lending", "(I)I"⟩, "FrogBreath$Reed", by decide +kernel, by decide +kernel, by decide +kernel, (ts_44 _ (List.mem_of_getElem? (i := 13) rfl)), (ts_41 _ (List.mem_of_getElem? (i := 19) rfl)), (ts_43 _ (List.mem_of_getElem? (i := 9) rfl)), Or.inr ⟨(ts_42 _ (List.mem_of_getElem? (i := 13) rfl)), _, _, _, (ts_41 _ (List.mem_of_getElem? (i := 22) rfl))⟩⟩⟩
theorem vf_8_26_8 : VFe 8 26 1 (8, 54) := ⟨by decide, by decide +kernel, by decide, (ts_41 _ (List.mem_of_getElem? (i := 21) rfl)), Or.inl ⟨(ts_44 _ (List.mem_of_getElem? (i := 14) rfl)), (ts_43 _ (List.mem_of_getElem? (i := 11) rfl)), by decide +kernel⟩⟩
theorem vf_8_26_10 : VFe 8 26 1 (10, 49) := ⟨by decide, by decide +kernel, by decide, (ts_43 _ (List.mem_of_getElem? (i := 0) rfl)), Or.inr ⟨⟨"FrogBreath$Reed", "lending", "(I)I"⟩, "FrogBreath$Reed", by decide +kernel, by decide +kernel, by decide +kernel, (ts_44 _ (List.mem_of_getElem? (i := 13) rfl)), (ts_41 _ (List.mem_of_getElem? (i := 19) rfl)), (ts_43 _ (List.mem_of_getElem? (i := 12) rfl)), Or.inr ⟨(ts_42 _ (List.mem_of_getElem? (i := 13) rfl)), _, _, _, (ts_41 _ (List.mem_of_getElem? (i := 22) rfl))⟩⟩⟩
theorem vf_8_26 : ∀ e ∈ ([(0, 54), (1, 54), (2, 6), (5, 54), (6, 49), (7, 49), (8, 54), (10, 49)] : List (Nat × Nat)), VFe 8 26 1 e := List.forall_mem_cons.mpr ⟨vf_8_26_0, List.forall_mem_cons.mpr ⟨vf_8_26_1, List.forall_mem_cons.mpr ⟨vf_8_26_2, List.forall_mem_cons.mpr ⟨vf_8_26_5, List.forall_mem_cons.mpr ⟨vf_8_26_6, List.forall_mem_cons.mpr ⟨vf_8_26_7, List.forall_mem_cons.mpr ⟨vf_8_26_8, List.forall_mem_cons.mpr ⟨vf_8_26_10, fun _ h => absurd h List.not_mem_nil⟩⟩⟩⟩⟩⟩⟩⟩
theorem vf_8_30_0 : VFe 8 30 1 (0, 47) := ⟨by decide, by decide +kernel, by decide, (ts_43 _ (List.mem_of_getElem? (i := 17) rfl)), Or.inr ⟨⟨"FrogBreath$Reed", "singing", "(I)I"⟩, "FrogBreath$Reed", by decide +kernel, by decide +kernel, by decide +kernel, (ts_46 _ (List.mem_of_getElem? (i := 21) rfl)), (ts_43 _ (List.mem_of_getElem? (i := 14) rfl)), (ts_43 _ (List.mem_of_getElem? (i := 16) rfl)), Or.inr ⟨(ts_43 _ (List.mem_of_getElem? (i := 15) rfl)), _, _, _, (ts_44 _ (List.mem_of_getElem? (i := 12) rfl))⟩⟩⟩
theorem vf_8_30_1 : VFe 8 30 1 (1, 4) := ⟨by decide, by decide +kernel, by decide, (ts_44 _ (List.mem_of_getElem? (i := 2) rfl)), Or.inr ⟨⟨"FrogBreath$Reed", "singing", "(I)I"⟩, "FrogBreath$Reed", by decide +kernel, by decide +kernel, by decide +kernel, (ts_46 _ (List.mem_of_getElem? (i := 21) rfl)), (ts_43 _ (List.mem_of_getElem? (i := 14) rfl)), (ts_44 _ (List.mem_of_getElem? (i := 15) rfl)), Or.inr ⟨(ts_43 _ (List.mem_of_getElem? (i := 15) rfl)), _, _, _, (ts_44 _ (List.mem_of_getElem? (i := 12) rfl))⟩⟩⟩
theorem vf_8_30_2 : VFe 8 30 1 (2, 55) := ⟨by decide, by decide +kernel, by decide, (ts_44 _ (List.mem_of_getElem? (i := 11) rfl)), Or.inr ⟨⟨"FrogBreath$Reed", "singing", "(I)I"⟩, "FrogBreath$Reed", by decide +kernel, by decide +kernel, by decide +kernel, (ts_46 _ (List.mem_of_getElem? (i := 21) rfl)), (ts_43 _ (List.mem_of_getElem? (i := 14) rfl)), (ts_44 _ (List.mem_of_getElem? (i := 16) rfl)), Or.inl (by decide +kernel)⟩⟩
theorem vf_8_30_5 : VFe 8 30 1 (5, 47) := ⟨by decide, by decide +kernel, by decide, (ts_43 _ (List.mem_of_getElem? (i := 17) rfl)), Or.inr ⟨⟨"FrogBreath$Reed", "singing", "(I)I"⟩, "FrogBreath$Reed", by decide +kernel, by decide +kernel, by decide +kernel, (ts_46 _ (List.mem_of_getElem? (i := 21) rfl)), (ts_43 _ (List.mem_of_getElem? (i := 14) rfl)), (ts_44 _ (List.mem_of_getElem? (i := 17) rfl)), Or.inr ⟨(ts_43 _ (List.mem_of_getElem? (i := 15) rfl)), _, _, _, (ts_44 _ (List.mem_of_getElem? (i := 12) rfl))⟩⟩⟩
theorem vf_8_30_6 : VFe 8 30 1 (6, 55) := ⟨by decide, by decide +kernel, by decide, (ts_44 _ (List.mem_of_getElem? (i := 11) rfl)), Or.inr ⟨⟨"FrogBreath$Reed", "singing", "(I)I"⟩, "FrogBreath$Reed", by decide +kernel, by decide +kernel, by decide +kernel, (ts_46 _ (List.mem_of_getElem? (i := 21) rfl)), (ts_43 _ (List.mem_of_getElem? (i := 14) rfl)), (ts_44 _ (List.mem_of_getElem? (i := 18) rfl)), Or.inl (by decide +kernel)⟩⟩
theorem vf_8_30_7 : VFe 8 30 1 (7, 55) := ⟨by decide, by decide +kernel, by decide, (ts_44 _ (List.mem_of_getElem? (i := 11) rfl)), Or.inr ⟨⟨"FrogBreath$Reed", "singing", "(I)I"⟩, "FrogBreath$Reed", by decide +kernel, by decide +kernel, by decide +kernel, (ts_46 _ (List.mem_of_getElem? (i := 21) rfl)), (ts_43 _ (List.mem_of_getElem? (i := 14) rfl)), (ts_44 _ (List.mem_of_getElem? (i := 19) rfl)), Or.inl (by decide +kernel)⟩⟩
theorem vf_8_30_8 : VFe 8 30 1 (8, 55) := ⟨by decide, by decide +kernel, by decide, (ts_44 _ (List.mem_of_getElem? (i := 11) rfl)), Or.inl ⟨(ts_46 _ (List.mem_of_getElem? (i := 22) rfl)), (ts_44 _ (List.mem_of_getElem? (i := 21) rfl)), by decide +kernel⟩⟩
theorem vf_8_30_10 : VFe 8 30 1 (10, 68) := ⟨by decide, by decide +kernel, by decide, (ts_44 _ (List.mem_of_getElem? (i := 23) rfl)), Or.inr ⟨⟨"FrogBreath$Reed", "singing", "(I)I"⟩, "FrogBreath$Reed", by decide +kernel, by decide +kernel, by decide +kernel, (ts_46 _ (List.mem_of_getElem? (i := 21) rfl)), (ts_43 _ (List.mem_of_getElem? (i := 14) rfl)), (ts_44 _ (List.mem_of_getElem? (i := 22) rfl)), Or.inr ⟨(ts_43 _ (List.mem_of_getElem? (i := 15) rfl)), _, _, _, (ts_44 _ (List.mem_of_getElem? (i := 12) rfl))⟩⟩⟩
theorem vf_8_30 : ∀ e ∈ ([(0, 47), (1, 4), (2, 55), (5, 47), (6, 55), (7, 55), (8, 55), (10, 68)] : List (Nat × Nat)), VFe 8 30 1 e := List.forall_mem_cons.mpr ⟨vf_8_30_0, List.forall_mem_cons.mpr ⟨vf_8_30_1, List.forall_mem_cons.mpr ⟨vf_8_30_2, List.forall_mem_cons.mpr ⟨vf_8_30_5, List.forall_mem_cons.mpr ⟨vf_8_30_6, List.forall_mem_cons.mpr ⟨vf_8_30_7, List.forall_mem_cons.mpr ⟨vf_8_30_8, List.forall_mem_cons.mpr ⟨vf_8_30_10, fun _ h => absurd h List.not_mem_nil⟩⟩⟩⟩⟩⟩⟩⟩
theorem vf_8_33_0 : VFe 8 33 1 (0, 46) := ⟨by decide, by decide +kernel, by decide, (ts_45 _ (List.mem_of_getElem? (i := 21) rfl)), Or.inr ⟨⟨"FrogBreath$Reed", "keeping", "(I)I"⟩, "FrogBreath$Reed", by decide +kernel, by decide +kernel, by decide +kernel, (ts_46 _ (List.mem_of_getElem? (i := 23) rfl)), (ts_45 _ (List.mem_of_getElem? (i := 18) rfl)), (ts_45 _ (List.mem_of_getElem? (i := 20) rfl)), Or.inr ⟨(ts_45 _ (List.mem_of_getElem? (i := 19) rfl)), _, _, _, (ts_45 _ (List.mem_of_getElem? (i := 23) rfl))⟩⟩⟩
theorem vf_8_33_1 : VFe 8 33 1 (1, 56) := ⟨by decide, by decide +kernel, by decide, (ts_46 _ (List.mem_of_getElem? (i := 1) rfl)), Or.inr ⟨⟨"FrogBreath$Reed", "keeping", "(I)I"⟩, "FrogBreath$Reed", by decide +kernel, by decide +kernel, by decide +kernel, (ts_46 _ (List.mem_of_getElem? (i := 23) rfl)), (ts_45 _ (List.mem_of_getElem? (i := 18) rfl)), (ts_46 _ (List.mem_of_getElem? (i := 0) rfl)), Or.inl (by decide +kernel)⟩⟩
theorem vf_8_33_2 : VFe 8 33 1 (2, 56) := ⟨by decide, by decide +kernel, by decide, (ts_46 _ (List.mem_of_getElem? (i := 1) rfl)), Or.inr ⟨⟨"FrogBreath$Reed", "keeping", "(I)I"⟩, "FrogBreath$Reed", by decide +kernel, by decide +kernel, by decide +kernel, (ts_46 _ (List.mem_of_getElem? (i := 23) rfl)), (ts_45 _ (List.mem_of_getElem? (i := 18) rfl)), (ts_46 _ (List.mem_of_getElem? (i := 2) rfl)), Or.inl (by decide +kernel)⟩⟩
theorem vf_8_33_5 : VFe 8 33 1 (5, 46) := ⟨by decide, by decide +kernel, by decide, (ts_45 _ (List.mem_of_getElem? (i := 21) rfl)), Or.inr ⟨⟨"FrogBreath$Reed", "keeping", "(I)I"⟩, "FrogBreath$Reed", by decide +kernel, by decide +kernel, by decide +kernel, (ts_46 _ (List.mem_of_getElem? (i := 23) rfl)), (ts_45 _ (List.mem_of_getElem? (i := 18) rfl)), (ts_46 _ (List.mem_of_getElem? (i := 3) rfl)), Or.inr ⟨(ts_45 _ (List.mem_of_getElem? (i := 19) rfl)), _, _, _, (ts_45 _ (List.mem_of_getElem? (i := 23) rfl))⟩⟩⟩
theorem vf_8_33_6 : VFe 8 33 1 (6, 56) := ⟨by decide, by decide +kernel, by decide, (ts_46 _ (List.mem_of_getElem? (i := 1) rfl)), Or.inr ⟨⟨"FrogBreath$Reed", "keeping", "(I)I"⟩, "FrogBreath$Reed", by decide +kernel, by decide +kernel, by decide +kernel, (ts_46 _ (List.mem_of_getElem? (i := 23) rfl)), (ts_45 _ (List.mem_of_getElem? (i := 18) rfl)), (ts_46 _ (List.mem_of_getElem? (i := 4) rfl)), Or.inl (by decide +kernel)⟩⟩
theorem vf_8_33_7 : VFe 8 33 1 (7, 51) := ⟨by decide, by decide +kernel, by decide, (ts_45 _ (List.mem_of_getElem? (i := 7) rfl)), Or.inr ⟨⟨"FrogBreath$Reed", "keeping", "(I)I"⟩, "FrogBreath$Reed", by decide +kernel, by decide +kernel, by decide +kernel, (ts_46 _ (List.mem_of_getElem? (i := 23) rfl)), (ts_45 _ (List.mem_of_getElem? (i := 18) rfl)), (ts_46 _ (List.mem_of_getElem? (i := 5) rfl)), Or.inr ⟨(ts_45 _ (List.mem_of_getElem? (i := 19) rfl)), _, _, _, (ts_45 _ (List.mem_of_getElem? (i := 23) rfl))⟩⟩⟩
theorem vf_8_33_8 : VFe 8 33 1 (8, 56) := ⟨by decide, by decide +kernel, by decide, (ts_46 _ (List.mem_of_getElem? (i := 1) rfl)), Or.inl ⟨(ts_47 _ (List.mem_of_getElem? (i := 0) rfl)), (ts_46 _ (List.mem_of_getElem? (i := 7) rfl)), by decide +kernel⟩⟩
theorem vf_8_33_10 : VFe 8 33 1 (10, 51) := ⟨by decide, by decide +kernel, by decide, (ts_45 _ (List.mem_of_getElem? (i := 7) rfl)), Or.inr ⟨⟨"FrogBreath$Reed", "keeping", "(I)I"⟩, "FrogBreath$Reed", by decide +kernel, by decide +kernel, by decide +kernel, (ts_46 _ (List.mem_of_getElem? (i := 23) rfl)), (ts_45 _ (List.mem_of_getElem? (i := 18) rfl)), (ts_46 _ (List.mem_of_getElem? (i := 8) rfl)), Or.inr ⟨(ts_45 _ (List.mem_of_getElem? (i := 19) rfl)), _, _, _, (ts_45 _ (List.mem_of_getElem? (i := 23) rfl))⟩⟩⟩
theorem vf_8_33 : ∀ e ∈ ([(0, 46), (1, 56), (2, 56), (5, 46), (6, 56), (7, 51), (8, 56), (10, 51)] : List (Nat × Nat)), VFe 8 33 1 e := List.forall_mem_cons.mpr ⟨vf_8_33_0, List.forall_mem_cons.mpr ⟨vf_8_33_1, List.forall_mem_cons.mpr ⟨vf_8_33_2, List.forall_mem_cons.mpr ⟨vf_8_33_5, List.forall_mem_cons.mpr ⟨vf_8_33_6, List.forall_mem_cons.mpr ⟨vf_8_33_7, List.forall_mem_cons.mpr ⟨vf_8_33_8, List.forall_mem_cons.mpr ⟨vf_8_33_10, fun _ h => absurd h List.not_mem_nil⟩⟩⟩⟩⟩⟩⟩⟩
theorem vf_9_32_9 : VFe 9 32 2 (9, 64) := ⟨by decide, by decide +kernel, by decide, (ts_7 _ (List.mem_of_getElem? (i := 16) rfl)), Or.inl ⟨(ts_8 _ (List.mem_of_getElem? (i := 4) rfl)), (ts_7 _ (List.mem_of_getElem? (i := 17) rfl)), by decide +kernel⟩⟩
theorem vf_9_32 : ∀ e ∈ ([(9, 64)] : List (Nat × Nat)), VFe 9 32 2 e := List.forall_mem_cons.mpr ⟨vf_9_32_9, fun _ h => absurd h List.not_mem_nil⟩
theorem vf_10_7_10 : VFe 10 7 1 (10, 53) := ⟨by decide, by decide +kernel, by decide, (ts_42 _ (List.mem_of_getElem? (i := 2) rfl)), Or.inr ⟨⟨"FrogBreath$Sigh", "begins", "(I)V"⟩, "FrogBreath$Reed", by decide +kernel, by decide +kernel, by decide +kernel, (ts_45 _ (List.mem_of_getElem? (i := 1) rfl)), (ts_45 _ (List.mem_of_getElem? (i := 2) rfl)), (ts_45 _ (List.mem_of_getElem? (i := 3) rfl)), Or.inl (by decide +kernel)⟩⟩
theorem vf_10_7 : ∀ e ∈ ([(10, 53)] : List (Nat × Nat)), VFe 10 7 1 e := List.forall_mem_cons.mpr ⟨vf_10_7_10, fun _ h => absurd h List.not_mem_nil⟩
theorem vf_10_17_10 : VFe 10 17 1 (10, 51) := ⟨by decide, by decide +kernel, by decide, (ts_45 _ (List.mem_of_getElem? (i := 7) rfl)), Or.inr ⟨⟨"FrogBreath$Sigh", "keeping", "(I)I"⟩, "FrogBreath$Prince", by decide +kernel, by decide +kernel, by decide +kernel, (ts_45 _ (List.mem_of_getElem? (i := 4) rfl)), (ts_45 _ (List.mem_of_getElem? (i := 5) rfl)), (ts_45 _ (List.mem_of_getElem? (i := 6) rfl)), Or.inl (by decide +kernel)⟩⟩
theorem vf_10_17 : ∀ e ∈ ([(10, 51)] : List (Nat × Nat)), VFe 10 17 1 e := List.forall_mem_cons.mpr ⟨vf_10_17_10, fun _ h => absurd h List.not_mem_nil⟩
theorem vf_11_63_11 : VFe 11 63 2 (11, 76) := ⟨by decide, by decide +kernel, by decide, (ts_5 _ (List.mem_of_getElem? (i := 3) rfl)), Or.inl ⟨(ts_5 _ (List.mem_of_getElem? (i := 2) rfl)), (ts_5 _ (List.mem_of_getElem? (i := 4) rfl)), by decide +kernel⟩⟩
theorem vf_11_63 : ∀ e ∈ ([(11, 76)] : List (Nat × Nat)), VFe 11 63 2 e := List.forall_mem_cons.mpr ⟨vf_11_63_11, fun _ h => absurd h List.not_mem_nil⟩
theorem vf_11_67_4 : VFe 11 67 1 (4, 26) := ⟨by decide, by decide +kernel, by decide, (ts_5 _ (List.mem_of_getElem? (i := 15) rfl)), Or.inl ⟨(ts_5 _ (List.mem_of_getElem? (i := 14) rfl)), (ts_5 _ (List.mem_of_getElem? (i := 16) rfl)), by decide +kernel⟩⟩
theorem vf_11_67 : ∀ e ∈ ([(4, 26)] : List (Nat × Nat)), VFe 11 67 1 e := List.forall_mem_cons.mpr ⟨vf_11_67_4, fun _ h => absurd h List.not_mem_nil⟩
theorem vf_11_71_4 : VFe 11 71 4 (4, 27) := ⟨by decide, by decide +kernel, by decide, (ts_6 _ (List.mem_of_getElem? (i := 10) rfl)), Or.inl ⟨(ts_6 _ (List.mem_of_getElem? (i := 9) rfl)), (ts_6 _ (List.mem_of_getElem? (i := 11) rfl)), by decide +kernel⟩⟩
theorem vf_11_71 : ∀ e ∈ ([(4, 27)] : List (Nat × Nat)), VFe 11 71 4 e := List.forall_mem_cons.mpr ⟨vf_11_71_4, fun _ h => absurd h List.not_mem_nil⟩
theorem vf_11_83_9 : VFe 11 83 0 (9, 59) := ⟨by decide, by decide +kernel, by decide, (ts_7 _ (List.mem_of_getElem? (i := 7) rfl)), Or.inl ⟨(ts_7 _ (List.mem_of_getElem? (i := 6) rfl)), (ts_7 _ (List.mem_of_getElem? (i := 8) rfl)), by decide +kernel⟩⟩
theorem vf_11_83 : ∀ e ∈ ([(9, 59)] : List (Nat × Nat)), VFe 11 83 0 e := List.forall_mem_cons.mpr ⟨vf_11_83_9, fun _ h => absurd h List.not_mem_nil⟩
theorem vf_11_87_9 : VFe 11 87 0 (9, 61) := ⟨by decide, by decide +kernel, by decide, (ts_7 _ (List.mem_of_getElem? (i := 12) rfl)), Or.inl ⟨(ts_7 _ (List.mem_of_getElem? (i := 11) rfl)), (ts_7 _ (List.mem_of_getElem? (i := 13) rfl)), by decide +kernel⟩⟩
theorem vf_11_87 : ∀ e ∈ ([(9, 61)] : List (Nat × Nat)), VFe 11 87 0 e := List.forall_mem_cons.mpr ⟨vf_11_87_9, fun _ h => absurd h List.not_mem_nil⟩
theorem vf_11_90_9 : VFe 11 90 2 (9, 64) := ⟨by decide, by decide +kernel, by decide, (ts_7 _ (List.mem_of_getElem? (i := 16) rfl)), Or.inl ⟨(ts_7 _ (List.mem_of_getElem? (i := 15) rfl)), (ts_7 _ (List.mem_of_getElem? (i := 17) rfl)), by decide +kernel⟩⟩
theorem vf_11_90 : ∀ e ∈ ([(9, 64)] : List (Nat × Nat)), VFe 11 90 2 e := List.forall_mem_cons.mpr ⟨vf_11_90_9, fun _ h => absurd h List.not_mem_nil⟩
theorem vf_11_93_11 : VFe 11 93 2 (11, 74) := ⟨by decide, by decide +kernel, by decide, (ts_7 _ (List.mem_of_getElem? (i := 21) rfl)), Or.inl ⟨(ts_7 _ (List.mem_of_getElem? (i := 20) rfl)), (ts_7 _ (List.mem_of_getElem? (i := 22) rfl)), by decide +kernel⟩⟩
theorem vf_11_93 : ∀ e ∈ ([(11, 74)] : List (Nat × Nat)), VFe 11 93 2 e := List.forall_mem_cons.mpr ⟨vf_11_93_11, fun _ h => absurd h List.not_mem_nil⟩
theorem vf_11_97_9 : VFe 11 97 1 (9, 65) := ⟨by decide, by decide +kernel, by decide, (ts_8 _ (List.mem_of_getElem? (i := 1) rfl)), Or.inl ⟨(ts_8 _ (List.mem_of_getElem? (i := 0) rfl)), (ts_8 _ (List.mem_of_getElem? (i := 2) rfl)), by decide +kernel⟩⟩
theorem vf_11_97 : ∀ e ∈ ([(9, 65)] : List (Nat × Nat)), VFe 11 97 1 e := List.forall_mem_cons.mpr ⟨vf_11_97_9, fun _ h => absurd h List.not_mem_nil⟩
theorem vf_11_101_4 : VFe 11 101 2 (4, 28) := ⟨by decide, by decide +kernel, by decide, (ts_9 _ (List.mem_of_getElem? (i := 7) rfl)), Or.inl ⟨(ts_9 _ (List.mem_of_getElem? (i := 6) rfl)), (ts_9 _ (List.mem_of_getElem? (i := 8) rfl)), by decide +kernel⟩⟩
theorem vf_11_101 : ∀ e ∈ ([(4, 28)] : List (Nat × Nat)), VFe 11 101 2 e := List.forall_mem_cons.mpr ⟨vf_11_101_4, fun _ h => absurd h List.not_mem_nil⟩
theorem vf_11_105_4 : VFe 11 105 2 (4, 29) := ⟨by decide, by decide +kernel, by decide, (ts_9 _ (List.mem_of_getElem? (i := 16) rfl)), Or.inl ⟨(ts_9 _ (List.mem_of_getElem? (i := 15) rfl)), (ts_9 _ (List.mem_of_getElem? (i := 17) rfl)), by decide +kernel⟩⟩
theorem vf_11_105 : ∀ e ∈ ([(4, 29)] : List (Nat × Nat)), VFe 11 105 2 e := List.forall_mem_cons.mpr ⟨vf_11_105_4, fun _ h => absurd h List.not_mem_nil⟩
theorem vf_11_109_11 : VFe 11 109 4 (11, 124) := ⟨by decide, by decide +kernel, by decide, (ts_9 _ (List.mem_of_getElem? (i := 21) rfl)), Or.inl ⟨(ts_9 _ (List.mem_of_getElem? (i := 20) rfl)), (ts_9 _ (List.mem_of_getElem? (i := 22) rfl)), by decide +kernel⟩⟩
theorem vf_11_109 : ∀ e ∈ ([(11, 124)] : List (Nat × Nat)), VFe 11 109 4 e := List.forall_mem_cons.mpr ⟨vf_11_109_11, fun _ h => absurd h List.not_mem_nil⟩
theorem vf_11_113_4 : VFe 11 113 3 (4, 30) := ⟨by decide, by decide +kernel, by decide, (ts_10 _ (List.mem_of_getElem? (i := 11) rfl)), Or.inl ⟨(ts_10 _ (List.mem_of_getElem? (i := 10) rfl)), (ts_10 _ (List.mem_of_getElem? (i := 12) rfl)), by decide +kernel⟩⟩
theorem vf_11_113 : ∀ e ∈ ([(4, 30)] : List (Nat × Nat)), VFe 11 113 3 e := List.forall_mem_cons.mpr ⟨vf_11_113_4, fun _ h => absurd h List.not_mem_nil⟩
theorem vf_11_117_4 : VFe 11 117 1 (4, 24) := ⟨by decide, by decide +kernel, by decide, (ts_5 _ (List.mem_of_getElem? (i := 10) rfl)), Or.inl ⟨(ts_5 _ (List.mem_of_getElem? (i := 9) rfl)), (ts_5 _ (List.mem_of_getElem? (i := 11) rfl)), by decide +kernel⟩⟩
theorem vf_11_117 : ∀ e ∈ ([(4, 24)] : List (Nat × Nat)), VFe 11 117 1 e := List.forall_mem_cons.mpr ⟨vf_11_117_4, fun _ h => absurd h List.not_mem_nil⟩
theorem vf_11_124_3 : VFe 11 124 2 (3, 9) := ⟨by decide, by decide +kernel, by decide, (ts_12 _ (List.mem_of_getElem? (i := 17) rfl)), Or.inl ⟨(ts_12 _ (List.mem_of_getElem? (i := 16) rfl)), (ts_12 _ (List.mem_of_getElem? (i := 18) rfl)), by decide +kernel⟩⟩
theorem vf_11_124 : ∀ e ∈ ([(3, 9)] : List (Nat × Nat)), VFe 11 124 2 e := List.forall_mem_cons.mpr ⟨vf_11_124_3, fun _ h => absurd h List.not_mem_nil⟩
theorem vf_11_128_4 : VFe 11 128 1 (4, 25) := ⟨by decide, by decide +kernel, by decide, (ts_9 _ (List.mem_of_getElem? (i := 12) rfl)), Or.inl ⟨(ts_17 _ (List.mem_of_getElem? (i := 3) rfl)), (ts_9 _ (List.mem_of_getElem? (i := 13) rfl)), by decide +kernel⟩⟩
theorem vf_11_128 : ∀ e ∈ ([(4, 25)] : List (Nat × Nat)), VFe 11 128 1 e := List.forall_mem_cons.mpr ⟨vf_11_128_4, fun _ h => absurd h List.not_mem_nil⟩
theorem vf_11_131_4 : VFe 11 131 2 (4, 40) := ⟨by decide, by decide +kernel, by decide, (ts_17 _ (List.mem_of_getElem? (i := 5) rfl)), Or.inl ⟨(ts_17 _ (List.mem_of_getElem? (i := 4) rfl)), (ts_17 _ (List.mem_of_getElem? (i := 6) rfl)), by decide +kernel⟩⟩
theorem vf_11_131 : ∀ e ∈ ([(4, 40)] : List (Nat × Nat)), VFe 11 131 2 e := List.forall_mem_cons.mpr ⟨vf_11_131_4, fun _ h => absurd h List.not_mem_nil⟩
theorem vf_11_135_11 : VFe 11 135 1 (11, 82) := ⟨by decide, by decide +kernel, by decide, (ts_20 _ (List.mem_of_getElem? (i := 8) rfl)), Or.inl ⟨(ts_20 _ (List.mem_of_getElem? (i := 7) rfl)), (ts_20 _ (List.mem_of_getElem? (i := 9) rfl)), by decide +kernel⟩⟩
theorem vf_11_135 : ∀ e ∈ ([(11, 82)] : List (Nat × Nat)), VFe 11 135 1 e := List.forall_mem_cons.mpr ⟨vf_11_135_11, fun _ h => absurd h List.not_mem_nil⟩
theorem vf_11_151_4 : VFe 11 151 1 (4, 31) := ⟨by decide, by decide +kernel, by decide, (ts_20 _ (List.mem_of_getElem? (i := 12) rfl)), Or.inl ⟨(ts_20 _ (List.mem_of_getElem? (i := 11) rfl)), (ts_20 _ (List.mem_of_getElem? (i := 13) rfl)), by decide +kernel⟩⟩
theorem vf_11_151 : ∀ e ∈ ([(4, 31)] : List (Nat × Nat)), VFe 11 151 1 e := List.forall_mem_cons.mpr ⟨vf_11_151_4, fun _ h => absurd h List.not_mem_nil⟩
theorem vf_11_155_4 : VFe 11 155 1 (4, 44) := ⟨by decide, by decide +kernel, by decide, (ts_20 _ (List.mem_of_getElem? (i := 21) rfl)), Or.inl ⟨(ts_20 _ (List.mem_of_getElem? (i := 20) rfl)), (ts_20 _ (List.mem_of_getElem? (i := 22) rfl)), by decide +kernel⟩⟩
theorem vf_11_155 : ∀ e ∈ ([(4, 44)] : List (Nat × Nat)), VFe 11 155 1 e := List.forall_mem_cons.mpr ⟨vf_11_155_4, fun _ h => absurd h List.not_mem_nil⟩
theorem vf_11_159_4 : VFe 11 159 0 (4, 35) := ⟨by decide, by decide +kernel, by decide, (ts_23 _ (List.mem_of_getElem? (i := 10) rfl)), Or.inl ⟨(ts_23 _ (List.mem_of_getElem? (i := 9) rfl)), (ts_23 _ (List.mem_of_getElem? (i := 11) rfl)), by decide +kernel⟩⟩
theorem vf_11_159 : ∀ e ∈ ([(4, 35)] : List (Nat × Nat)), VFe 11 159 0 e := List.forall_mem_cons.mpr ⟨vf_11_159_4, fun _ h => absurd h List.not_mem_nil⟩
theorem vf_11_163_4 : VFe 11 163 0 (4, 36) := ⟨by decide, by decide +kernel, by decide, (ts_23 _ (List.mem_of_getElem? (i := 14) rfl)), Or.inl ⟨(ts_23 _ (List.mem_of_getElem? (i := 13) rfl)), (ts_23 _ (List.mem_of_getElem? (i := 15) rfl)), by decide +kernel⟩⟩
theorem vf_11_163 : ∀ e ∈ ([(4, 36)] : List (Nat × Nat)), VFe 11 163 0 e := List.forall_mem_cons.mpr ⟨vf_11_163_4, fun _ h => absurd h List.not_mem_nil⟩
theorem vf_11_166_11 : VFe 11 166 1 (11, 143) := ⟨by decide, by decide +kernel, by decide, (ts_24 _ (List.mem_of_getElem? (i := 18) rfl)), Or.inl ⟨(ts_24 _ (List.mem_of_getElem? (i := 17) rfl)), (ts_24 _ (List.mem_of_getElem? (i := 19) rfl)), by decide +kernel⟩⟩
theorem vf_11_166 : ∀ e ∈ ([(11, 143)] : List (Nat × Nat)), VFe 11 166 1 e := List.forall_mem_cons.mpr ⟨vf_11_166_11, fun _ h => absurd h List.not_mem_nil⟩
theorem vf_11_169_11 : VFe 11 169 3 (11, 86) := ⟨by decide, by decide +kernel, by decide, (ts_24 _ (List.mem_of_getElem? (i := 22) rfl)), Or.inl ⟨(ts_24 _ (List.mem_of_getElem? (i := 21) rfl)), (ts_24 _ (List.mem_of_getElem? (i := 23) rfl)), by decide +kernel⟩⟩
theorem vf_11_169 : ∀ e ∈ ([(11, 86)] : List (Nat × Nat)), VFe 11 169 3 e := List.forall_mem_cons.mpr ⟨vf_11_169_11, fun _ h => absurd h List.not_mem_nil⟩
theorem vf_11_172_11 : VFe 11 172 1 (11, 87) := ⟨by decide, by decide +kernel, by decide, (ts_25 _ (List.mem_of_getElem? (i := 6) rfl)), Or.inl ⟨(ts_25 _ (List.mem_of_getElem? (i := 5) rfl)), (ts_25 _ (List.mem_of_getElem? (i := 7) rfl)), by decide +kernel⟩⟩
theorem vf_11_172 : ∀ e ∈ ([(11, 87)] : List (Nat × Nat)), VFe 11 172 1 e := List.forall_mem_cons.mpr ⟨vf_11_172_11, fun _ h => absurd h List.not_mem_nil⟩
theorem vf_11_175_11 : VFe 11 175 1 (11, 88) := ⟨by decide, by decide +kernel, by decide, (ts_25 _ (List.mem_of_getElem? (i := 12) rfl)), Or.inl ⟨(ts_25 _ (List.mem_of_getElem? (i := 11) rfl)), (ts_25 _ (List.mem_of_getElem? (i := 13) rfl)), by decide +kernel⟩⟩
theorem vf_11_175 : ∀ e ∈ ([(11, 88)] : List (Nat × Nat)), VFe 11 175 1 e := List.forall_mem_cons.mpr ⟨vf_11_175_11, fun _ h => absurd h List.not_mem_nil⟩
theorem vf_11_178_4 : VFe 11 178 3 (4, 37) := ⟨by decide, by decide +kernel, by decide, (ts_25 _ (List.mem_of_getElem? (i := 2) rfl)), Or.inl ⟨(ts_25 _ (List.mem_of_getElem? (i := 1) rfl)), (ts_25 _ (List.mem_of_getElem? (i := 3) rfl)), by decide +kernel⟩⟩
theorem vf_11_178 : ∀ e ∈ ([(4, 37)] : List (Nat × Nat)), VFe 11 178 3 e := List.forall_mem_cons.mpr ⟨vf_11_178_4, fun _ h => absurd h List.not_mem_nil⟩
theorem vf_11_181_4 : VFe 11 181 2 (4, 41) := ⟨by decide, by decide +kernel, by decide, (ts_21 _ (List.mem_of_getElem? (i := 1) rfl)), Or.inl ⟨(ts_25 _ (List.mem_of_getElem? (i := 9) rfl)), (ts_21 _ (List.mem_of_getElem? (i := 2) rfl)), by decide +kernel⟩⟩
theorem vf_11_181 : ∀ e ∈ ([(4, 41)] : List (Nat × Nat)), VFe 11 181 2 e := List.forall_mem_cons.mpr ⟨vf_11_181_4, fun _ h => absurd h List.not_mem_nil⟩
theorem vf_11_184_4 : VFe 11 184 0 (4, 43) := ⟨by decide, by decide +kernel, by decide, (ts_21 _ (List.mem_of_getElem? (i := 17) rfl)), Or.inl ⟨(ts_25 _ (List.mem_of_getElem? (i := 10) rfl)), (ts_21 _ (List.mem_of_getElem? (i := 18) rfl)), by decide +kernel⟩⟩
theorem vf_11_184 : ∀ e ∈ ([(4, 43)] : List (Nat × Nat)), VFe 11 184 0 e := List.forall_mem_cons.mpr ⟨vf_11_184_4, fun _ h => absurd h List.not_mem_nil⟩
theorem vf_11_190_11 : VFe 11 190 1 (11, 91) := ⟨by decide, by decide +kernel, by decide, (ts_26 _ (List.mem_of_getElem? (i := 21) rfl)), Or.inl ⟨(ts_26 _ (List.mem_of_getElem? (i := 20) rfl)), (ts_26 _ (List.mem_of_getElem? (i := 22) rfl)), by decide +kernel⟩⟩
theorem vf_11_190 : ∀ e ∈ ([(11, 91)] : List (Nat × Nat)), VFe 11 190 1 e := List.forall_mem_cons.mpr ⟨vf_11_190_11, fun _ h => absurd h List.not_mem_nil⟩
theorem vf_11_193_11 : VFe 11 193 0 (11, 92) := ⟨by decide, by decide +kernel, by decide, (ts_27 _ (List.mem_of_getElem? (i := 2) rfl)), Or.inl ⟨(ts_27 _ (List.mem_of_getElem? (i := 1) rfl)), (ts_27 _ (List.mem_of_getElem? (i := 3) rfl)), by decide +kernel⟩⟩
theorem vf_11_193 : ∀ e ∈ ([(11, 92)] : List (Nat × Nat)), VFe 11 193 0 e := List.forall_mem_cons.mpr ⟨vf_11_193_11, fun _ h => absurd h List.not_mem_nil⟩
theorem vf_11_196_11 : VFe 11 196 1 (11, 94) := ⟨by decide, by decide +kernel, by decide, (ts_27 _ (List.mem_of_getElem? (i := 15) rfl)), Or.inl ⟨(ts_27 _ (List.mem_of_getElem? (i := 14) rfl)), (ts_27 _ (List.mem_of_getElem? (i := 16) rfl)), by decide +kernel⟩⟩
theorem vf_11_196 : ∀ e ∈ ([(11, 94)] : List (Nat × Nat)), VFe 11 196 1 e := List.forall_mem_cons.mpr ⟨vf_11_196_11, fun _ h => absurd h List.not_mem_nil⟩
theorem vf_11_208_11 : VFe 11 208 3 (11, 93) := ⟨by decide, by decide +kernel, by decide, (ts_27 _ (List.mem_of_getElem? (i := 11) rfl)), Or.inl ⟨(ts_27 _ (List.mem_of_getElem? (i := 10) rfl)), (ts_27 _ (List.mem_of_getElem? (i := 12) rfl)), by decide +kernel⟩⟩
theorem vf_11_208 : ∀ e ∈ ([(11, 93)] : List (Nat × Nat)), VFe 11 208 3 e := List.forall_mem_cons.mpr ⟨vf_11_208_11, fun _ h => absurd h List.not_mem_nil⟩
theorem vf_11_217_11 : VFe 11 217 2 (11, 95) := ⟨by decide, by decide +kernel, by decide, (ts_27 _ (List.mem_of_getElem? (i := 19) rfl)), Or.inl ⟨(ts_27 _ (List.mem_of_getElem? (i := 18) rfl)), (ts_27 _ (List.mem_of_getElem? (i := 20) rfl)), by decide +kernel⟩⟩
theorem vf_11_217 : ∀ e ∈ ([(11, 95)] : List (Nat × Nat)), VFe 11 217 2 e := List.forall_mem_cons.mpr ⟨vf_11_217_11, fun _ h => absurd h List.not_mem_nil⟩
theorem vf_11_220_11 : VFe 11 220 2 (11, 97) := ⟨by decide, by decide +kernel, by decide, (ts_28 _ (List.mem_of_getElem? (i := 12) rfl)), Or.inl ⟨(ts_28 _ (List.mem_of_getElem? (i := 11) rfl)), (ts_28 _ (List.mem_of_getElem? (i := 13) rfl)), by decide +kernel⟩⟩
theorem vf_11_220 : ∀ e ∈ ([(11, 97)] : List (Nat × Nat)), VFe 11 220 2 e := List.forall_mem_cons.mpr ⟨vf_11_220_11, fun _ h => absurd h List.not_mem_nil⟩
theorem vf_11_223_11 : VFe 11 223 1 (11, 99) := ⟨by decide, by decide +kernel, by decide, (ts_29 _ (List.mem_of_getElem? (i := 4) rfl)), Or.inl ⟨(ts_29 _ (List.mem_of_getElem? (i := 3) rfl)), (ts_29 _ (List.mem_of_getElem? (i := 5) rfl)), by decide +kernel⟩⟩
theorem vf_11_223 : ∀ e ∈ ([(11, 99)] : List (Nat × Nat)), VFe 11 223 1 e := List.forall_mem_cons.mpr ⟨vf_11_223_11, fun _ h => absurd h List.not_mem_nil⟩
theorem vf_11_226_11 : VFe 11 226 2 (11, 100) := ⟨by decide, by decide +kernel, by decide, (ts_29 _ (List.mem_of_getElem? (i := 8) rfl)), Or.inl ⟨(ts_29 _ (List.mem_of_getElem? (i := 7) rfl)), (ts_29 _ (List.mem_of_getElem? (i := 9) rfl)), by decide +kernel⟩⟩
theorem vf_11_226 : ∀ e ∈ ([(11, 100)] : List (Nat × Nat)), VFe 11 226 2 e := List.forall_mem_cons.mpr ⟨vf_11_226_11, fun _ h => absurd h List.not_mem_nil⟩
theorem vf_11_237_11 : VFe 11 237 2 (11, 102) := ⟨by decide, by decide +kernel, by decide, (ts_30 _ (List.mem_of_getElem? (i := 6) rfl)), Or.inl ⟨(ts_30 _ (List.mem_of_getElem? (i := 5) rfl)), (ts_30 _ (List.mem_of_getElem? (i := 7) rfl)), by decide +kernel⟩⟩
theorem vf_11_237 : ∀ e ∈ ([(11, 102)] : List (Nat × Nat)), VFe 11 237 2 e := List.forall_mem_cons.mpr ⟨vf_11_237_11, fun _ h => absurd h List.not_mem_nil⟩
theorem vf_11_240_11 : VFe 11 240 3 (11, 103) := ⟨by decide, by decide +kernel, by decide, (ts_30 _ (List.mem_of_getElem? (i := 10) rfl)), Or.inl ⟨(ts_30 _ (List.mem_of_getElem? (i := 9) rfl)), (ts_30 _ (List.mem_of_getElem? (i := 11) rfl)), by decide +kernel⟩⟩
theorem vf_11_240 : ∀ e ∈ ([(11, 103)] : List (Nat × Nat)), VFe 11 240 3 e := List.forall_mem_cons.mpr ⟨vf_11_240_11, fun _ h => absurd h List.not_mem_nil⟩
theorem vf_11_250_11 : VFe 11 250 2 (11, 106) := ⟨by decide, by decide +kernel, by decide, (ts_31 _ (List.mem_of_getElem? (i := 7) rfl)), Or.inl ⟨(ts_31 _ (List.mem_of_getElem? (i := 6) rfl)), (ts_31 _ (List.mem_of_getElem? (i := 8) rfl)), by decide +kernel⟩⟩
theorem vf_11_250 : ∀ e ∈ ([(11, 106)] : List (Nat × Nat)), VFe 11 250 2 e := List.forall_mem_cons.mpr ⟨vf_11_250_11, fun _ h => absurd h List.not_mem_nil⟩
theorem vf_11_262_11 : VFe 11 262 2 (11, 108) := ⟨by decide, by decide +kernel, by decide, (ts_32 _ (List.mem_of_getElem? (i := 6) rfl)), Or.inl ⟨(ts_32 _ (List.mem_of_getElem? (i := 5) rfl)), (ts_32 _ (List.mem_of_getElem? (i := 7) rfl)), by decide +kernel⟩⟩
theorem vf_11_262 : ∀ e ∈ ([(11, 108)] : List (Nat × Nat)), VFe 11 262 2 e := List.forall_mem_cons.mpr ⟨vf_11_262_11, fun _ h => absurd h List.not_mem_nil⟩
theorem vf_11_265_11 : VFe 11 265 2 (11, 109) := ⟨by decide, by decide +kernel, by decide, (ts_32 _ (List.mem_of_getElem? (i := 10) rfl)), Or.inl ⟨(ts_32 _ (List.mem_of_getElem? (i := 9) rfl)), (ts_32 _ (List.mem_of_getElem? (i := 11) rfl)), by decide +kernel⟩⟩
theorem vf_11_265 : ∀ e ∈ ([(11, 109)] : List (Nat × Nat)), VFe 11 265 2 e := List.forall_mem_cons.mpr ⟨vf_11_265_11, fun _ h => absurd h List.not_mem_nil⟩
theorem vf_11_268_11 : VFe 11 268 2 (11, 111) := ⟨by decide, by decide +kernel, by decide, (ts_32 _ (List.mem_of_getElem? (i := 22) rfl)), Or.inl ⟨(ts_32 _ (List.mem_of_getElem? (i := 21) rfl)), (ts_32 _ (List.mem_of_getElem? (i := 23) rfl)), by decide +kernel⟩⟩
theorem vf_11_268 : ∀ e ∈ ([(11, 111)] : List (Nat × Nat)), VFe 11 268 2 e := List.forall_mem_cons.mpr ⟨vf_11_268_11, fun _ h => absurd h List.not_mem_nil⟩
theorem vf_11_271_4 : VFe 11 271 1 (4, 34) := ⟨by decide, by decide +kernel, by decide, (ts_33 _ (List.mem_of_getElem? (i := 10) rfl)), Or.inl ⟨(ts_33 _ (List.mem_of_getElem? (i := 9) rfl)), (ts_33 _ (List.mem_of_getElem? (i := 11) rfl)), by decide +kernel⟩⟩
theorem vf_11_271 : ∀ e ∈ ([(4, 34)] : List (Nat × Nat)), VFe 11 271 1 e := List.forall_mem_cons.mpr ⟨vf_11_271_4, fun _ h => absurd h List.not_mem_nil⟩
theorem vf_11_280_11 : VFe 11 280 5 (11, 115) := ⟨by decide, by decide +kernel, by decide, (ts_34 _ (List.mem_of_getElem? (i := 6) rfl)), Or.inl ⟨(ts_34 _ (List.mem_of_getElem? (i := 5) rfl)), (ts_34 _ (List.mem_of_getElem? (i := 7) rfl)), by decide +kernel⟩⟩
theorem vf_11_280 : ∀ e ∈ ([(11, 115)] : List (Nat × Nat)), VFe 11 280 5 e := List.forall_mem_cons.mpr ⟨vf_11_280_11, fun _ h => absurd h List.not_mem_nil⟩
theorem vf_11_284_11 : VFe 11 284 3 (11, 116) := ⟨by decide, by decide +kernel, by decide, (ts_34 _ (List.mem_of_getElem? (i := 10) rfl)), Or.inl ⟨(ts_34 _ (List.mem_of_getElem? (i := 9) rfl)), (ts_34 _ (List.mem_of_getElem? (i := 11) rfl)), by decide +kernel⟩⟩
theorem vf_11_284 : ∀ e ∈ ([(11, 116)] : List (Nat × Nat)), VFe 11 284 3 e := List.forall_mem_cons.mpr ⟨vf_11_284_11, fun _ h => absurd h List.not_mem_nil⟩
theorem vf_11_288_4 : VFe 11 288 2 (4, 39) := ⟨by decide, by decide +kernel, by decide, (ts_35 _ (List.mem_of_getElem? (i := 7) rfl)), Or.inl ⟨(ts_35 _ (List.mem_of_getElem? (i := 6) rfl)), (ts_35 _ (List.mem_of_getElem? (i := 8) rfl)), by decide +kernel⟩⟩
theorem vf_11_288 : ∀ e ∈ ([(4, 39)] : List (Nat × Nat)), VFe 11 288 2 e := List.forall_mem_cons.mpr ⟨vf_11_288_4, fun _ h => absurd h List.not_mem_nil⟩
theorem vf_11_295_4 : VFe 11 295 1 (4, 38) := ⟨by decide, by decide +kernel, by decide, (ts_21 _ (List.mem_of_getElem? (i := 13) rfl)), Or.inl ⟨(ts_36 _ (List.mem_of_getElem? (i := 12) rfl)), (ts_21 _ (List.mem_of_getElem? (i := 14) rfl)), by decide +kernel⟩⟩
theorem vf_11_295 : ∀ e ∈ ([(4, 38)] : List (Nat × Nat)), VFe 11 295 1 e := List.forall_mem_cons.mpr ⟨vf_11_295_4, fun _ h => absurd h List.not_mem_nil⟩
theorem vf_11_302_4 : VFe 11 302 1 (4, 32) := ⟨by decide, by decide +kernel, by decide, (ts_20 _ (List.mem_of_getElem? (i := 17) rfl)), Or.inl ⟨(ts_37 _ (List.mem_of_getElem? (i := 17) rfl)), (ts_20 _ (List.mem_of_getElem? (i := 18) rfl)), by decide +kernel⟩⟩
theorem vf_11_302 : ∀ e ∈ ([(4, 32)] : List (Nat × Nat)), VFe 11 302 1 e := List.forall_mem_cons.mpr ⟨vf_11_302_4, fun _ h => absurd h List.not_mem_nil⟩
theorem vf_11_308_11 : VFe 11 308 0 (11, 125) := ⟨by decide, by decide +kernel, by decide, (ts_10 _ (List.mem_of_getElem? (i := 3) rfl)), Or.inl ⟨(ts_10 _ (List.mem_of_getElem? (i := 2) rfl)), (ts_10 _ (List.mem_of_getElem? (i := 4) rfl)), by decide +kernel⟩⟩
theorem vf_11_308 : ∀ e ∈ ([(11, 125)] : List (Nat × Nat)), VFe 11 308 0 e := List.forall_mem_cons.mpr ⟨vf_11_308_11, fun _ h => absurd h List.not_mem_nil⟩
theorem vf_11_323_11 : VFe 11 323 2 (11, 129) := ⟨by decide, by decide +kernel, by decide, (ts_38 _ (List.mem_of_getElem? (i := 20) rfl)), Or.inl ⟨(ts_38 _ (List.mem_of_getElem? (i := 19) rfl)), (ts_38 _ (List.mem_of_getElem? (i := 21) rfl)), by decide +kernel⟩⟩
theorem vf_11_323 : ∀ e ∈ ([(11, 129)] : List (Nat × Nat)), VFe 11 323 2 e := List.forall_mem_cons.mpr ⟨vf_11_323_11, fun _ h => absurd h List.not_mem_nil⟩
theorem vf_11_351_0 : VFe 11 351 1 (0, 54) := ⟨by decide, by decide +kernel, by decide, (ts_41 _ (List.mem_of_getElem? (i := 21) rfl)), Or.inr ⟨⟨"FrogBreath$Reed", "lending", "(I)I"⟩, "FrogBreath$Reed", by decide +kernel, by decide +kernel, by decide +kernel, (ts_41 _ (List.mem_of_getElem? (i := 18) rfl)), (ts_41 _ (List.mem_of_getElem? (i := 19) rfl)), (ts_41 _ (List.mem_of_getElem? (i := 20) rfl)), Or.inl (by decide +kernel)⟩⟩
theorem vf_11_351_1 : VFe 11 351 1 (1, 54) := ⟨by decide, by decide +kernel, by decide, (ts_41 _ (List.mem_of_getElem? (i := 21) rfl)), Or.inr ⟨⟨"FrogBreath$Reed", "lending", "(I)I"⟩, "FrogBreath$Reed", by decide +kernel, by decide +kernel, by decide +kernel, (ts_41 _ (List.mem_of_getElem? (i := 18) rfl)), (ts_41 _ (List.mem_of_getElem? (i := 19) rfl)), (ts_42 _ (List.mem_of_getElem? (i := 12) rfl)), Or.inl (by decide +kernel)⟩⟩
theorem vf_11_351_2 : VFe 11 351 1 (2, 6) := ⟨by decide, by decide +kernel, by decide, (ts_42 _ (List.mem_of_getElem? (i := 15) rfl)), Or.inr ⟨⟨"FrogBreath$Reed", "lending", "(I)I"⟩, "FrogBreath$Reed", by decide +kernel, by decide +kernel, by decide +kernel, (ts_41 _ (List.mem_of_getElem? (i := 18) rfl)), (ts_41 _ (List.mem_of_getElem? (i := 19) rfl)), (ts_42 _ (List.mem_of_getElem? (i := 14) rfl)), Or.inr ⟨(ts_42 _ (List.mem_of_getElem? (i := 13) rfl)), _, _, _, (ts_41 _ (List.mem_of_getElem? (i := 22) rfl))⟩⟩⟩
theorem vf_11_351_5 : VFe 11 351 1 (5, 54) := ⟨by decide, by decide +kernel, by decide, (ts_41 _ (List.mem_of_getElem? (i := 21) rfl)), Or.inr ⟨⟨"FrogBreath$Reed", "lending", "(I)I"⟩, "FrogBreath$Reed", by decide +kernel, by decide +kernel, by decide +kernel, (ts_41 _ (List.mem_of_getElem? (i := 18) rfl)), (ts_41 _ (List.mem_of_getElem? (i := 19) rfl)), (ts_42 _ (List.mem_of_getElem? (i := 22) rfl)), Or.inl (by decide +kernel)⟩⟩
theorem vf_11_351_6 : VFe 11 351 1 (6, 49) := ⟨by decide, by decide +kernel, by decide, (ts_43 _ (List.mem_of_getElem? (i := 0) rfl)), Or.inr ⟨⟨"FrogBreath$Reed", "lending", "(I)I"⟩, "FrogBreath$Reed", by decide +kernel, by decide +kernel, by decide +kernel, (ts_41 _ (List.mem_of_getElem? (i := 18) rfl)), (ts_41 _ (List.mem_of_getElem? (i := 19) rfl)), (ts_42 _ (List.mem_of_getElem? (i := 23) rfl)), Or.inr ⟨(ts_42 _ (List.mem_of_getElem? (i := 13) rfl)), _, _, _, (ts_41 _ (List.mem_of_getElem? (i := 22) rfl))⟩⟩⟩
theorem vf_11_351_7 : VFe 11 351 1 (7, 49) := ⟨by decide, by decide +kernel, by decide, (ts_43 _ (List.mem_of_getElem? (i := 0) rfl)), Or.inr ⟨⟨"FrogBreath$Reed", "lending", "(I)I"⟩, "FrogBreath$Reed", by decide +kernel, by decide +kernel, by decide +kernel, (ts_41 _ (List.mem_of_getElem? (i := 18) rfl)), (ts_41 _ (List.mem_of_getElem? (i := 19) rfl)), (ts_43 _ (List.mem_of_getElem? (i := 9) rfl)), Or.inr ⟨(ts_42 _ (List.mem_of_getElem? (i := 13) rfl)), _, _, _, (ts_41 _ (List.mem_of_getElem? (i := 22) rfl))⟩⟩⟩
theorem vf_11_351_8 : VFe 11 351 1 (8, 54) := ⟨by decide, by decide +kernel, by decide, (ts_41 _ (List.mem_of_getElem? (i := 21) rfl)), Or.inl ⟨(ts_43 _ (List.mem_of_getElem? (i := 10) rfl)), (ts_43 _ (List.mem_of_getElem? (i := 11) rfl)), by decide +kernel⟩⟩
theorem vf_11_351_10 : VFe 11 351 1 (10, 49) := ⟨by decide, by decide +kernel, by decide, (ts_43 _ (List.mem_of_getElem? (i := 0) rfl)), Or.inr ⟨⟨"FrogBreath$Reed", "lending", "(I)I"⟩, "FrogBreath$Reed", by decide +kernel, by decide +kernel, by decide +kernel, (ts_41 _ (List.mem_of_getElem? (i := 18) rfl)), (ts_41 _ (List.mem_of_getElem? (i := 19) rfl)), (ts_43 _ (List.mem_of_getElem? (i := 12) rfl)), Or.inr ⟨(ts_42 _ (List.mem_of_getElem? (i := 13) rfl)), _, _, _, (ts_41 _ (List.mem_of_getElem? (i := 22) rfl))⟩⟩⟩
theorem vf_11_351 : ∀ e ∈ ([(0, 54), (1, 54), (2, 6), (5, 54), (6, 49), (7, 49), (8, 54), (10, 49)] : List (Nat × Nat)), VFe 11 351 1 e := List.forall_mem_cons.mpr ⟨vf_11_351_0, List.forall_mem_cons.mpr ⟨vf_11_351_1, List.forall_mem_cons.mpr ⟨vf_11_351_2, List.forall_mem_cons.mpr ⟨vf_11_351_5, List.forall_mem_cons.mpr ⟨vf_11_351_6, List.forall_mem_cons.mpr ⟨vf_11_351_7, List.forall_mem_cons.mpr ⟨vf_11_351_8, List.forall_mem_cons.mpr ⟨vf_11_351_10, fun _ h => absurd h List.not_mem_nil⟩⟩⟩⟩⟩⟩⟩⟩
theorem vf_11_354_0 : VFe 11 354 1 (0, 47) := ⟨by decide, by decide +kernel, by decide, (ts_43 _ (List.mem_of_getElem? (i := 17) rfl)), Or.inr ⟨⟨"FrogBreath$Reed", "singing", "(I)I"⟩, "FrogBreath$Reed", by decide +kernel, by decide +kernel, by decide +kernel, (ts_43 _ (List.mem_of_getElem? (i := 13) rfl)), (ts_43 _ (List.mem_of_getElem? (i := 14) rfl)), (ts_43 _ (List.mem_of_getElem? (i := 16) rfl)), Or.inr ⟨(ts_43 _ (List.mem_of_getElem? (i := 15) rfl)), _, _, _, (ts_44 _ (List.mem_of_getElem? (i := 12) rfl))⟩⟩⟩
theorem vf_11_354_1 : VFe 11 354 1 (1, 4) := ⟨by decide, by decide +kernel, by decide, (ts_44 _ (List.mem_of_getElem? (i := 2) rfl)), Or.inr ⟨⟨"FrogBreath$Reed", "singing", "(I)I"⟩, "FrogBreath$Reed", by decide +kernel, by decide +kernel, by decide +kernel, (ts_43 _ (List.mem_of_getElem? (i := 13) rfl)), (ts_43 _ (List.mem_of_getElem? (i := 14) rfl)), (ts_44 _ (List.mem_of_getElem? (i := 15) rfl)), Or.inr ⟨(ts_43 _ (List.mem_of_getElem? (i := 15) rfl)), _, _, _, (ts_44 _ (List.mem_of_getElem? (i := 12) rfl))⟩⟩⟩
theorem vf_11_354_2 : VFe 11 354 1 (2, 55) := ⟨by decide, by decide +kernel, by decide, (ts_44 _ (List.mem_of_getElem? (i := 11) rfl)), Or.inr ⟨⟨"FrogBreath$Reed", "singing", "(I)I"⟩, "FrogBreath$Reed", by decide +kernel, by decide +kernel, by decide +kernel, (ts_43 _ (List.mem_of_getElem? (i := 13) rfl)), (ts_43 _ (List.mem_of_getElem? (i := 14) rfl)), (ts_44 _ (List.mem_of_getElem? (i := 16) rfl)), Or.inl (by decide +kernel)⟩⟩
theorem vf_11_354_5 : VFe 11 354 1 (5, 47) := ⟨by decide, by decide +kernel, by decide, (ts_43 _ (List.mem_of_getElem? (i := 17) rfl)), Or.inr ⟨⟨"FrogBreath$Reed", "singing", "(I)I"⟩, "FrogBreath$Reed", by decide +kernel, by decide +kernel, by decide +kernel, (ts_43 _ (List.mem_of_getElem? (i := 13) rfl)), (ts_43 _ (List.mem_of_getElem? (i := 14) rfl)), (ts_44 _ (List.mem_of_getElem? (i := 17) rfl)), Or.inr ⟨(ts_43 _ (List.mem_of_getElem? (i := 15) rfl)), _, _, _, (ts_44 _ (List.mem_of_getElem? (i := 12) rfl))⟩⟩⟩
theorem vf_11_354_6 : VFe 11 354 1 (6, 55) := ⟨by decide, by decide +kernel, by decide, (ts_44 _ (List.mem_of_getElem? (i := 11) rfl)), Or.inr ⟨⟨"FrogBreath$Reed", "singing", "(I)I"⟩, "FrogBreath$Reed", by decide +kernel, by decide +kernel, by decide +kernel, (ts_43 _ (List.mem_of_getElem? (i := 13) rfl)), (ts_43 _ (List.mem_of_getElem? (i := 14) rfl)), (ts_44 _ (List.mem_of_getElem? (i := 18) rfl)), Or.inl (by decide +kernel)⟩⟩
theorem vf_11_354_7 : VFe 11 354 1 (7, 55) := ⟨by decide, by decide +kernel, by decide, (ts_44 _ (List.mem_of_getElem? (i := 11) rfl)), Or.inr ⟨⟨"FrogBreath$Reed", "singing", "(I)I"⟩, "FrogBreath$Reed", by decide +kernel, by decide +kernel, by decide +kernel, (ts_43 _ (List.mem_of_getElem? (i := 13) rfl)), (ts_43 _ (List.mem_of_getElem? (i := 14) rfl)), (ts_44 _ (List.mem_of_getElem? (i := 19) rfl)), Or.inl (by decide +kernel)⟩⟩
theorem vf_11_354_8 : VFe 11 354 1 (8, 55) := ⟨by decide, by decide +kernel, by decide, (ts_44 _ (List.mem_of_getElem? (i := 11) rfl)), Or.inl ⟨(ts_44 _ (List.mem_of_getElem? (i := 20) rfl)), (ts_44 _ (List.mem_of_getElem? (i := 21) rfl)), by decide +kernel⟩⟩
theorem vf_11_354_10 : VFe 11 354 1 (10, 68) := ⟨by decide, by decide +kernel, by decide, (ts_44 _ (List.mem_of_getElem? (i := 23) rfl)), Or.inr ⟨⟨"FrogBreath$Reed", "singing", "(I)I"⟩, "FrogBreath$Reed", by decide +kernel, by decide +kernel, by decide +kernel, (ts_43 _ (List.mem_of_getElem? (i := 13) rfl)), (ts_43 _ (List.mem_of_getElem? (i := 14) rfl)), (ts_44 _ (List.mem_of_getElem? (i := 22) rfl)), Or.inr ⟨(ts_43 _ (List.mem_of_getElem? (i := 15) rfl)), _, _, _, (ts_44 _ (List.mem_of_getElem? (i := 12) rfl))⟩⟩⟩
theorem vf_11_354 : ∀ e ∈ ([(0, 47), (1, 4), (2, 55), (5, 47), (6, 55), (7, 55), (8, 55), (10, 68)] : List (Nat × Nat)), VFe 11 354 1 e := List.forall_mem_cons.mpr ⟨vf_11_354_0, List.forall_mem_cons.mpr ⟨vf_11_354_1, List.forall_mem_cons.mpr ⟨vf_11_354_2, List.forall_mem_cons.mpr ⟨vf_11_354_5, List.forall_mem_cons.mpr ⟨vf_11_354_6, List.forall_mem_cons.mpr ⟨vf_11_354_7, List.forall_mem_cons.mpr ⟨vf_11_354_8, List.forall_mem_cons.mpr ⟨vf_11_354_10, fun _ h => absurd h List.not_mem_nil⟩⟩⟩⟩⟩⟩⟩⟩
theorem vf_11_357_0 : VFe 11 357 1 (0, 46) := ⟨by decide, by decide +kernel, by decide, (ts_45 _ (List.mem_of_getElem? (i := 21) rfl)), Or.inr ⟨⟨"FrogBreath$Reed", "keeping", "(I)I"⟩, "FrogBreath$Reed", by decide +kernel, by decide +kernel, by decide +kernel, (ts_45 _ (List.mem_of_getElem? (i := 17) rfl)), (ts_45 _ (List.mem_of_getElem? (i := 18) rfl)), (ts_45 _ (List.mem_of_getElem? (i := 20) rfl)), Or.inr ⟨(ts_45 _ (List.mem_of_getElem? (i := 19) rfl)), _, _, _, (ts_45 _ (List.mem_of_getElem? (i := 23) rfl))⟩⟩⟩
theorem vf_11_357_1 : VFe 11 357 1 (1, 56) := ⟨by decide, by decide +kernel, by decide, (ts_46 _ (List.mem_of_getElem? (i := 1) rfl)), Or.inr ⟨⟨"FrogBreath$Reed", "keeping", "(I)I"⟩, "FrogBreath$Reed", by decide +kernel, by decide +kernel, by decide +kernel, (ts_45 _ (List.mem_of_getElem? (i := 17) rfl)), (ts_45 _ (List.mem_of_getElem? (i := 18) rfl)), (ts_46 _ (List.mem_of_getElem? (i := 0) rfl)), Or.inl (by decide +kernel)⟩⟩
theorem vf_11_357_2 : VFe 11 357 1 (2, 56) := ⟨by decide, by decide +kernel, by decide, (ts_46 _ (List.mem_of_getElem? (i := 1) rfl)), Or.inr ⟨⟨"FrogBreath$Reed", "keeping", "(I)I"⟩, "FrogBreath$Reed", by decide +kernel, by decide +kernel, by decide +kernel, (ts_45 _ (List.mem_of_getElem? (i := 17) rfl)), (ts_45 _ (List.mem_of_getElem? (i := 18) rfl)), (ts_46 _ (List.mem_of_getElem? (i := 2) rfl)), Or.inl (by decide +kernel)⟩⟩
theorem vf_11_357_5 : VFe 11 357 1 (5, 46) := ⟨by decide, by decide +kernel, by decide, (ts_45 _ (List.mem_of_getElem? (i := 21) rfl)), Or.inr ⟨⟨"FrogBreath$Reed", "keeping", "(I)I"⟩, "FrogBreath$Reed", by decide +kernel, by decide +kernel, by decide +kernel, (ts_45 _ (List.mem_of_getElem? (i := 17) rfl)), (ts_45 _ (List.mem_of_getElem? (i := 18) rfl)), (ts_46 _ (List.mem_of_getElem? (i := 3) rfl)), Or.inr ⟨(ts_45 _ (List.mem_of_getElem? (i := 19) rfl)), _, _, _, (ts_45 _ (List.mem_of_getElem? (i := 23) rfl))⟩⟩⟩
theorem vf_11_357_6 : VFe 11 357 1 (6, 56) := ⟨by decide, by decide +kernel, by decide, (ts_46 _ (List.mem_of_getElem? (i := 1) rfl)), Or.inr ⟨⟨"FrogBreath$Reed", "keeping", "(I)I"⟩, "FrogBreath$Reed", by decide +kernel, by decide +kernel, by decide +kernel, (ts_45 _ (List.mem_of_getElem? (i := 17) rfl)), (ts_45 _ (List.mem_of_getElem? (i := 18) rfl)), (ts_46 _ (List.mem_of_getElem? (i := 4) rfl)), Or.inl (by decide +kernel)⟩⟩
theorem vf_11_357_7 : VFe 11 357 1 (7, 51) := ⟨by decide, by decide +kernel, by decide, (ts_45 _ (List.mem_of_getElem? (i := 7) rfl)), Or.inr ⟨⟨"FrogBreath$Reed", "keeping", "(I)I"⟩, "FrogBreath$Reed", by decide +kernel, by decide +kernel, by decide +kernel, (ts_45 _ (List.mem_of_getElem? (i := 17) rfl)), (ts_45 _ (List.mem_of_getElem? (i := 18) rfl)), (ts_46 _ (List.mem_of_getElem? (i := 5) rfl)), Or.inr ⟨(ts_45 _ (List.mem_of_getElem? (i := 19) rfl)), _, _, _, (ts_45 _ (List.mem_of_getElem? (i := 23) rfl))⟩⟩⟩
theorem vf_11_357_8 : VFe 11 357 1 (8, 56) := ⟨by decide, by decide +kernel, by decide, (ts_46 _ (List.mem_of_getElem? (i := 1) rfl)), Or.inl ⟨(ts_46 _ (List.mem_of_getElem? (i := 6) rfl)), (ts_46 _ (List.mem_of_getElem? (i := 7) rfl)), by decide +kernel⟩⟩
theorem vf_11_357_10 : VFe 11 357 1 (10, 51) := ⟨by decide, by decide +kernel, by decide, (ts_45 _ (List.mem_of_getElem? (i := 7) rfl)), Or.inr ⟨⟨"FrogBreath$Reed", "keeping", "(I)I"⟩, "FrogBreath$Reed", by decide +kernel, by decide +kernel, by decide +kernel, (ts_45 _ (List.mem_of_getElem? (i := 17) rfl)), (ts_45 _ (List.mem_of_getElem? (i := 18) rfl)), (ts_46 _ (List.mem_of_getElem? (i := 8) rfl)), Or.inr ⟨(ts_45 _ (List.mem_of_getElem? (i := 19) rfl)), _, _, _, (ts_45 _ (List.mem_of_getElem? (i := 23) rfl))⟩⟩⟩
theorem vf_11_357 : ∀ e ∈ ([(0, 46), (1, 56), (2, 56), (5, 46), (6, 56), (7, 51), (8, 56), (10, 51)] : List (Nat × Nat)), VFe 11 357 1 e := List.forall_mem_cons.mpr ⟨vf_11_357_0, List.forall_mem_cons.mpr ⟨vf_11_357_1, List.forall_mem_cons.mpr ⟨vf_11_357_2, List.forall_mem_cons.mpr ⟨vf_11_357_5, List.forall_mem_cons.mpr ⟨vf_11_357_6, List.forall_mem_cons.mpr ⟨vf_11_357_7, List.forall_mem_cons.mpr ⟨vf_11_357_8, List.forall_mem_cons.mpr ⟨vf_11_357_10, fun _ h => absurd h List.not_mem_nil⟩⟩⟩⟩⟩⟩⟩⟩
theorem vf_11_360_0 : VFe 11 360 1 (0, 2) := ⟨by decide, by decide +kernel, by decide, (ts_46 _ (List.mem_of_getElem? (i := 13) rfl)), Or.inr ⟨⟨"FrogBreath$Reed", "telling", "(I)I"⟩, "FrogBreath$Reed", by decide +kernel, by decide +kernel, by decide +kernel, (ts_46 _ (List.mem_of_getElem? (i := 9) rfl)), (ts_46 _ (List.mem_of_getElem? (i := 10) rfl)), (ts_46 _ (List.mem_of_getElem? (i := 12) rfl)), Or.inr ⟨(ts_46 _ (List.mem_of_getElem? (i := 11) rfl)), _, _, _, (ts_46 _ (List.mem_of_getElem? (i := 18) rfl))⟩⟩⟩
theorem vf_11_360_1 : VFe 11 360 1 (1, 57) := ⟨by decide, by decide +kernel, by decide, (ts_46 _ (List.mem_of_getElem? (i := 20) rfl)), Or.inr ⟨⟨"FrogBreath$Reed", "telling", "(I)I"⟩, "FrogBreath$Reed", by decide +kernel, by decide +kernel, by decide +kernel, (ts_46 _ (List.mem_of_getElem? (i := 9) rfl)), (ts_46 _ (List.mem_of_getElem? (i := 10) rfl)), (ts_46 _ (List.mem_of_getElem? (i := 19) rfl)), Or.inl (by decide +kernel)⟩⟩
theorem vf_11_360_2 : VFe 11 360 1 (2, 57) := ⟨by decide, by decide +kernel, by decide, (ts_46 _ (List.mem_of_getElem? (i := 20) rfl)), Or.inr ⟨⟨"FrogBreath$Reed", "telling", "(I)I"⟩, "FrogBreath$Reed", by decide +kernel, by decide +kernel, by decide +kernel, (ts_46 _ (List.mem_of_getElem? (i := 9) rfl)), (ts_46 _ (List.mem_of_getElem? (i := 10) rfl)), (ts_47 _ (List.mem_of_getElem? (i := 1) rfl)), Or.inl (by decide +kernel)⟩⟩
theorem vf_11_360_5 : VFe 11 360 1 (5, 57) := ⟨by decide, by decide +kernel, by decide, (ts_46 _ (List.mem_of_getElem? (i := 20) rfl)), Or.inr ⟨⟨"FrogBreath$Reed", "telling", "(I)I"⟩, "FrogBreath$Reed", by decide +kernel, by decide +kernel, by decide +kernel, (ts_46 _ (List.mem_of_getElem? (i := 9) rfl)), (ts_46 _ (List.mem_of_getElem? (i := 10) rfl)), (ts_47 _ (List.mem_of_getElem? (i := 2) rfl)), Or.inl (by decide +kernel)⟩⟩
theorem vf_11_360_6 : VFe 11 360 1 (6, 57) := ⟨by decide, by decide +kernel, by decide, (ts_46 _ (List.mem_of_getElem? (i := 20) rfl)), Or.inr ⟨⟨"FrogBreath$Reed", "telling", "(I)I"⟩, "FrogBreath$Reed", by decide +kernel, by decide +kernel, by decide +kernel, (ts_46 _ (List.mem_of_getElem? (i := 9) rfl)), (ts_46 _ (List.mem_of_getElem? (i := 10) rfl)), (ts_47 _ (List.mem_of_getElem? (i := 3) rfl)), Or.inl (by decide +kernel)⟩⟩
theorem vf_11_360_7 : VFe 11 360 1 (7, 57) := ⟨by decide, by decide +kernel, by decide, (ts_46 _ (List.mem_of_getElem? (i := 20) rfl)), Or.inr ⟨⟨"FrogBreath$Reed", "telling", "(I)I"⟩, "FrogBreath$Reed", by decide +kernel, by decide +kernel, by decide +kernel, (ts_46 _ (List.mem_of_getElem? (i := 9) rfl)), (ts_46 _ (List.mem_of_getElem? (i := 10) rfl)), (ts_47 _ (List.mem_of_getElem? (i := 4) rfl)), Or.inl (by decide +kernel)⟩⟩
theorem vf_11_360_8 : VFe 11 360 1 (8, 57) := ⟨by decide, by decide +kernel, by decide, (ts_46 _ (List.mem_of_getElem? (i := 20) rfl)), Or.inl ⟨(ts_47 _ (List.mem_of_getElem? (i := 5) rfl)), (ts_47 _ (List.mem_of_getElem? (i := 6) rfl)), by decide +kernel⟩⟩
theorem vf_11_360_10 : VFe 11 360 1 (10, 69) := ⟨by decide, by decide +kernel, by decide, (ts_47 _ (List.mem_of_getElem? (i := 8) rfl)), Or.inr ⟨⟨"FrogBreath$Reed", "telling", "(I)I"⟩, "FrogBreath$Reed", by decide +kernel, by decide +kernel, by decide +kernel, (ts_46 _ (List.mem_of_getElem? (i := 9) rfl)), (ts_46 _ (List.mem_of_getElem? (i := 10) rfl)), (ts_47 _ (List.mem_of_getElem? (i := 7) rfl)), Or.inr ⟨(ts_46 _ (List.mem_of_getElem? (i := 11) rfl)), _, _, _, (ts_46 _ (List.mem_of_getElem? (i := 18) rfl))⟩⟩⟩
theorem vf_11_360 : ∀ e ∈ ([(0, 2), (1, 57), (2, 57), (5, 57), (6, 57), (7, 57), (8, 57), (10, 69)] : List (Nat × Nat)), VFe 11 360 1 e := List.forall_mem_cons.mpr ⟨vf_11_360_0, List.forall_mem_cons.mpr ⟨vf_11_360_1, List.forall_mem_cons.mpr ⟨vf_11_360_2, List.forall_mem_cons.mpr ⟨vf_11_360_5, List.forall_mem_cons.mpr ⟨vf_11_360_6, List.forall_mem_cons.mpr ⟨vf_11_360_7, List.forall_mem_cons.mpr ⟨vf_11_360_8, List.forall_mem_cons.mpr ⟨vf_11_360_10, fun _ h => absurd h List.not_mem_nil⟩⟩⟩⟩⟩⟩⟩⟩
theorem vf_11_363_9 : VFe 11 363 1 (9, 62) := ⟨by decide, by decide +kernel, by decide, (ts_49 _ (List.mem_of_getElem? (i := 3) rfl)), Or.inl ⟨(ts_49 _ (List.mem_of_getElem? (i := 2) rfl)), (ts_49 _ (List.mem_of_getElem? (i := 4) rfl)), by decide +kernel⟩⟩
theorem vf_11_363 : ∀ e ∈ ([(9, 62)] : List (Nat × Nat)), VFe 11 363 1 e := List.forall_mem_cons.mpr ⟨vf_11_363_9, fun _ h => absurd h List.not_mem_nil⟩
theorem vf_11_367_9 : VFe 11 367 2 (9, 63) := ⟨by decide, by decide +kernel, by decide, (ts_49 _ (List.mem_of_getElem? (i := 15) rfl)), Or.inl ⟨(ts_49 _ (List.mem_of_getElem? (i := 14) rfl)), (ts_49 _ (List.mem_of_getElem? (i := 16) rfl)), by decide +kernel⟩⟩
theorem vf_11_367 : ∀ e ∈ ([(9, 63)] : List (Nat × Nat)), VFe 11 367 2 e := List.forall_mem_cons.mpr ⟨vf_11_367_9, fun _ h => absurd h List.not_mem_nil⟩
theorem vf_11_370_11 : VFe 11 370 2 (11, 136) := ⟨by decide, by decide +kernel, by decide, (ts_50 _ (List.mem_of_getElem? (i := 6) rfl)), Or.inl ⟨(ts_50 _ (List.mem_of_getElem? (i := 5) rfl)), (ts_50 _ (List.mem_of_getElem? (i := 7) rfl)), by decide +kernel⟩⟩
theorem vf_11_370 : ∀ e ∈ ([(11, 136)] : List (Nat × Nat)), VFe 11 370 2 e := List.forall_mem_cons.mpr ⟨vf_11_370_11, fun _ h => absurd h List.not_mem_nil⟩
theorem vf_11_373_9 : VFe 11 373 2 (9, 66) := ⟨by decide, by decide +kernel, by decide, (ts_50 _ (List.mem_of_getElem? (i := 14) rfl)), Or.inl ⟨(ts_50 _ (List.mem_of_getElem? (i := 13) rfl)), (ts_50 _ (List.mem_of_getElem? (i := 15) rfl)), by decide +kernel⟩⟩
theorem vf_11_373 : ∀ e ∈ ([(9, 66)] : List (Nat × Nat)), VFe 11 373 2 e := List.forall_mem_cons.mpr ⟨vf_11_373_9, fun _ h => absurd h List.not_mem_nil⟩
theorem vf_11_380_9 : VFe 11 380 0 (9, 60) := ⟨by decide, by decide +kernel, by decide, (ts_50 _ (List.mem_of_getElem? (i := 10) rfl)), Or.inl ⟨(ts_50 _ (List.mem_of_getElem? (i := 9) rfl)), (ts_50 _ (List.mem_of_getElem? (i := 11) rfl)), by decide +kernel⟩⟩
theorem vf_11_380 : ∀ e ∈ ([(9, 60)] : List (Nat × Nat)), VFe 11 380 0 e := List.forall_mem_cons.mpr ⟨vf_11_380_9, fun _ h => absurd h List.not_mem_nil⟩
theorem vf_12_115_12 : VFe 12 115 4 (12, 151) := ⟨by decide, by decide +kernel, by decide, (ts_6 _ (List.mem_of_getElem? (i := 20) rfl)), Or.inl ⟨(ts_6 _ (List.mem_of_getElem? (i := 19) rfl)), (ts_6 _ (List.mem_of_getElem? (i := 21) rfl)), by decide +kernel⟩⟩
theorem vf_12_115 : ∀ e ∈ ([(12, 151)] : List (Nat × Nat)), VFe 12 115 4 e := List.forall_mem_cons.mpr ⟨vf_12_115_12, fun _ h => absurd h List.not_mem_nil⟩
theorem vf_12_119_12 : VFe 12 119 1 (12, 146) := ⟨by decide, by decide +kernel, by decide, (ts_8 _ (List.mem_of_getElem? (i := 22) rfl)), Or.inl ⟨(ts_8 _ (List.mem_of_getElem? (i := 21) rfl)), (ts_8 _ (List.mem_of_getElem? (i := 23) rfl)), by decide +kernel⟩⟩
theorem vf_12_119 : ∀ e ∈ ([(12, 146)] : List (Nat × Nat)), VFe 12 119 1 e := List.forall_mem_cons.mpr ⟨vf_12_119_12, fun _ h => absurd h List.not_mem_nil⟩
theorem vf_12_127_12 : VFe 12 127 2 (12, 155) := ⟨by decide, by decide +kernel, by decide, (ts_8 _ (List.mem_of_getElem? (i := 14) rfl)), Or.inl ⟨(ts_8 _ (List.mem_of_getElem? (i := 13) rfl)), (ts_8 _ (List.mem_of_getElem? (i := 15) rfl)), by decide +kernel⟩⟩
theorem vf_12_127 : ∀ e ∈ ([(12, 155)] : List (Nat × Nat)), VFe 12 127 2 e := List.forall_mem_cons.mpr ⟨vf_12_127_12, fun _ h => absurd h List.not_mem_nil⟩
theorem vf_12_131_12 : VFe 12 131 1 (12, 153) := ⟨by decide, by decide +kernel, by decide, (ts_8 _ (List.mem_of_getElem? (i := 18) rfl)), Or.inl ⟨(ts_8 _ (List.mem_of_getElem? (i := 17) rfl)), (ts_8 _ (List.mem_of_getElem? (i := 19) rfl)), by decide +kernel⟩⟩
theorem vf_12_131 : ∀ e ∈ ([(12, 153)] : List (Nat × Nat)), VFe 12 131 1 e := List.forall_mem_cons.mpr ⟨vf_12_131_12, fun _ h => absurd h List.not_mem_nil⟩
theorem vf_12_134_12 : VFe 12 134 1 (12, 147) := ⟨by decide, by decide +kernel, by decide, (ts_11 _ (List.mem_of_getElem? (i := 3) rfl)), Or.inl ⟨(ts_11 _ (List.mem_of_getElem? (i := 2) rfl)), (ts_11 _ (List.mem_of_getElem? (i := 4) rfl)), by decide +kernel⟩⟩
theorem vf_12_134 : ∀ e ∈ ([(12, 147)] : List (Nat × Nat)), VFe 12 134 1 e := List.forall_mem_cons.mpr ⟨vf_12_134_12, fun _ h => absurd h List.not_mem_nil⟩
theorem vf_12_137_12 : VFe 12 137 2 (12, 156) := ⟨by decide, by decide +kernel, by decide, (ts_10 _ (List.mem_of_getElem? (i := 23) rfl)), Or.inl ⟨(ts_10 _ (List.mem_of_getElem? (i := 22) rfl)), (ts_11 _ (List.mem_of_getElem? (i := 0) rfl)), by decide +kernel⟩⟩
theorem vf_12_137 : ∀ e ∈ ([(12, 156)] : List (Nat × Nat)), VFe 12 137 2 e := List.forall_mem_cons.mpr ⟨vf_12_137_12, fun _ h => absurd h List.not_mem_nil⟩
theorem vf_12_141_12 : VFe 12 141 2 (12, 157) := ⟨by decide, by decide +kernel, by decide, (ts_11 _ (List.mem_of_getElem? (i := 7) rfl)), Or.inl ⟨(ts_11 _ (List.mem_of_getElem? (i := 6) rfl)), (ts_11 _ (List.mem_of_getElem? (i := 8) rfl)), by decide +kernel⟩⟩
theorem vf_12_141 : ∀ e ∈ ([(12, 157)] : List (Nat × Nat)), VFe 12 141 2 e := List.forall_mem_cons.mpr ⟨vf_12_141_12, fun _ h => absurd h List.not_mem_nil⟩
theorem vf_12_145_12 : VFe 12 145 2 (12, 158) := ⟨by decide, by decide +kernel, by decide, (ts_11 _ (List.mem_of_getElem? (i := 11) rfl)), Or.inl ⟨(ts_11 _ (List.mem_of_getElem? (i := 10) rfl)), (ts_11 _ (List.mem_of_getElem? (i := 12) rfl)), by decide +kernel⟩⟩
theorem vf_12_145 : ∀ e ∈ ([(12, 158)] : List (Nat × Nat)), VFe 12 145 2 e := List.forall_mem_cons.mpr ⟨vf_12_145_12, fun _ h => absurd h List.not_mem_nil⟩
theorem vf_12_148_12 : VFe 12 148 3 (12, 159) := ⟨by decide, by decide +kernel, by decide, (ts_11 _ (List.mem_of_getElem? (i := 15) rfl)), Or.inl ⟨(ts_11 _ (List.mem_of_getElem? (i := 14) rfl)), (ts_11 _ (List.mem_of_getElem? (i := 16) rfl)), by decide +kernel⟩⟩
theorem vf_12_148 : ∀ e ∈ ([(12, 159)] : List (Nat × Nat)), VFe 12 148 3 e := List.forall_mem_cons.mpr ⟨vf_12_148_12, fun _ h => absurd h List.not_mem_nil⟩
theorem vf_12_164_12 : VFe 12 164 0 (12, 165) := ⟨by decide, by decide +kernel, by decide, (ts_15 _ (List.mem_of_getElem? (i := 16) rfl)), Or.inl ⟨(ts_15 _ (List.mem_of_getElem? (i := 15) rfl)), (ts_15 _ (List.mem_of_getElem? (i := 17) rfl)), by decide +kernel⟩⟩
theorem vf_12_164 : ∀ e ∈ ([(12, 165)] : List (Nat × Nat)), VFe 12 164 0 e := List.forall_mem_cons.mpr ⟨vf_12_164_12, fun _ h => absurd h List.not_mem_nil⟩
theorem vf_12_171_12 : VFe 12 171 0 (12, 168) := ⟨by decide, by decide +kernel, by decide, (ts_16 _ (List.mem_of_getElem? (i := 9) rfl)), Or.inl ⟨(ts_16 _ (List.mem_of_getElem? (i := 8) rfl)), (ts_16 _ (List.mem_of_getElem? (i := 10) rfl)), by decide +kernel⟩⟩
theorem vf_12_171 : ∀ e ∈ ([(12, 168)] : List (Nat × Nat)), VFe 12 171 0 e := List.forall_mem_cons.mpr ⟨vf_12_171_12, fun _ h => absurd h List.not_mem_nil⟩
theorem vf_12_175_12 : VFe 12 175 1 (12, 167) := ⟨by decide, by decide +kernel, by decide, (ts_15 _ (List.mem_of_getElem? (i := 20) rfl)), Or.inl ⟨(ts_15 _ (List.mem_of_getElem? (i := 19) rfl)), (ts_15 _ (List.mem_of_getElem? (i := 21) rfl)), by decide +kernel⟩⟩
theorem vf_12_175 : ∀ e ∈ ([(12, 167)] : List (Nat × Nat)), VFe 12 175 1 e := List.forall_mem_cons.mpr ⟨vf_12_175_12, fun _ h => absurd h List.not_mem_nil⟩
theorem vf_12_185_12 : VFe 12 185 1 (12, 166) := ⟨by decide, by decide +kernel, by decide, (ts_15 _ (List.mem_of_getElem? (i := 12) rfl)), Or.inl ⟨(ts_15 _ (List.mem_of_getElem? (i := 11) rfl)), (ts_15 _ (List.mem_of_getElem? (i := 13) rfl)), by decide +kernel⟩⟩
theorem vf_12_185 : ∀ e ∈ ([(12, 166)] : List (Nat × Nat)), VFe 12 185 1 e := List.forall_mem_cons.mpr ⟨vf_12_185_12, fun _ h => absurd h List.not_mem_nil⟩
theorem vf_12_188_12 : VFe 12 188 0 (12, 170) := ⟨by decide, by decide +kernel, by decide, (ts_16 _ (List.mem_of_getElem? (i := 16) rfl)), Or.inl ⟨(ts_16 _ (List.mem_of_getElem? (i := 15) rfl)), (ts_16 _ (List.mem_of_getElem? (i := 17) rfl)), by decide +kernel⟩⟩
theorem vf_12_188 : ∀ e ∈ ([(12, 170)] : List (Nat × Nat)), VFe 12 188 0 e := List.forall_mem_cons.mpr ⟨vf_12_188_12, fun _ h => absurd h List.not_mem_nil⟩
theorem vf_12_191_12 : VFe 12 191 0 (12, 175) := ⟨by decide, by decide +kernel, by decide, (ts_15 _ (List.mem_of_getElem? (i := 5) rfl)), Or.inl ⟨(ts_15 _ (List.mem_of_getElem? (i := 4) rfl)), (ts_15 _ (List.mem_of_getElem? (i := 6) rfl)), by decide +kernel⟩⟩
theorem vf_12_191 : ∀ e ∈ ([(12, 175)] : List (Nat × Nat)), VFe 12 191 0 e := List.forall_mem_cons.mpr ⟨vf_12_191_12, fun _ h => absurd h List.not_mem_nil⟩
theorem vf_12_194_12 : VFe 12 194 0 (12, 171) := ⟨by decide, by decide +kernel, by decide, (ts_16 _ (List.mem_of_getElem? (i := 21) rfl)), Or.inl ⟨(ts_16 _ (List.mem_of_getElem? (i := 20) rfl)), (ts_16 _ (List.mem_of_getElem? (i := 22) rfl)), by decide +kernel⟩⟩
theorem vf_12_194 : ∀ e ∈ ([(12, 171)] : List (Nat × Nat)), VFe 12 194 0 e := List.forall_mem_cons.mpr ⟨vf_12_194_12, fun _ h => absurd h List.not_mem_nil⟩
theorem vf_12_197_12 : VFe 12 197 0 (12, 172) := ⟨by decide, by decide +kernel, by decide, (ts_16 _ (List.mem_of_getElem? (i := 5) rfl)), Or.inl ⟨(ts_16 _ (List.mem_of_getElem? (i := 4) rfl)), (ts_16 _ (List.mem_of_getElem? (i := 6) rfl)), by decide +kernel⟩⟩
theorem vf_12_197 : ∀ e ∈ ([(12, 172)] : List (Nat × Nat)), VFe 12 197 0 e := List.forall_mem_cons.mpr ⟨vf_12_197_12, fun _ h => absurd h List.not_mem_nil⟩
theorem vf_12_200_12 : VFe 12 200 0 (12, 173) := ⟨by decide, by decide +kernel, by decide, (ts_16 _ (List.mem_of_getElem? (i := 1) rfl)), Or.inl ⟨(ts_16 _ (List.mem_of_getElem? (i := 0) rfl)), (ts_16 _ (List.mem_of_getElem? (i := 2) rfl)), by decide +kernel⟩⟩
theorem vf_12_200 : ∀ e ∈ ([(12, 173)] : List (Nat × Nat)), VFe 12 200 0 e := List.forall_mem_cons.mpr ⟨vf_12_200_12, fun _ h => absurd h List.not_mem_nil⟩
theorem vf_12_203_12 : VFe 12 203 0 (12, 174) := ⟨by decide, by decide +kernel, by decide, (ts_15 _ (List.mem_of_getElem? (i := 9) rfl)), Or.inl ⟨(ts_15 _ (List.mem_of_getElem? (i := 8) rfl)), (ts_15 _ (List.mem_of_getElem? (i := 10) rfl)), by decide +kernel⟩⟩
theorem vf_12_203 : ∀ e ∈ ([(12, 174)] : List (Nat × Nat)), VFe 12 203 0 e := List.forall_mem_cons.mpr ⟨vf_12_203_12, fun _ h => absurd h List.not_mem_nil⟩
theorem vf_12_209_12 : VFe 12 209 0 (12, 176) := ⟨by decide, by decide +kernel, by decide, (ts_15 _ (List.mem_of_getElem? (i := 1) rfl)), Or.inl ⟨(ts_15 _ (List.mem_of_getElem? (i := 0) rfl)), (ts_15 _ (List.mem_of_getElem? (i := 2) rfl)), by decide +kernel⟩⟩
theorem vf_12_209 : ∀ e ∈ ([(12, 176)] : List (Nat × Nat)), VFe 12 209 0 e := List.forall_mem_cons.mpr ⟨vf_12_209_12, fun _ h => absurd h List.not_mem_nil⟩
theorem vf_12_228_12 : VFe 12 228 1 (12, 182) := ⟨by decide, by decide +kernel, by decide, (ts_19 _ (List.mem_of_getElem? (i := 9) rfl)), Or.inl ⟨(ts_19 _ (List.mem_of_getElem? (i := 8) rfl)), (ts_19 _ (List.mem_of_getElem? (i := 10) rfl)), by decide +kernel⟩⟩
theorem vf_12_228 : ∀ e ∈ ([(12, 182)] : List (Nat × Nat)), VFe 12 228 1 e := List.forall_mem_cons.mpr ⟨vf_12_228_12, fun _ h => absurd h List.not_mem_nil⟩
theorem vf_12_231_12 : VFe 12 231 1 (12, 181) := ⟨by decide, by decide +kernel, by decide, (ts_19 _ (List.mem_of_getElem? (i := 1) rfl)), Or.inl ⟨(ts_19 _ (List.mem_of_getElem? (i := 0) rfl)), (ts_19 _ (List.mem_of_getElem? (i := 2) rfl)), by decide +kernel⟩⟩
theorem vf_12_231 : ∀ e ∈ ([(12, 181)] : List (Nat × Nat)), VFe 12 231 1 e := List.forall_mem_cons.mpr ⟨vf_12_231_12, fun _ h => absurd h List.not_mem_nil⟩
theorem vf_12_237_12 : VFe 12 237 2 (12, 179) := ⟨by decide, by decide +kernel, by decide, (ts_19 _ (List.mem_of_getElem? (i := 17) rfl)), Or.inl ⟨(ts_19 _ (List.mem_of_getElem? (i := 16) rfl)), (ts_19 _ (List.mem_of_getElem? (i := 18) rfl)), by decide +kernel⟩⟩
theorem vf_12_237 : ∀ e ∈ ([(12, 179)] : List (Nat × Nat)), VFe 12 237 2 e := List.forall_mem_cons.mpr ⟨vf_12_237_12, fun _ h => absurd h List.not_mem_nil⟩
theorem vf_12_240_12 : VFe 12 240 1 (12, 183) := ⟨by decide, by decide +kernel, by decide, (ts_19 _ (List.mem_of_getElem? (i := 5) rfl)), Or.inl ⟨(ts_19 _ (List.mem_of_getElem? (i := 4) rfl)), (ts_19 _ (List.mem_of_getElem? (i := 6) rfl)), by decide +kernel⟩⟩
theorem vf_12_240 : ∀ e ∈ ([(12, 183)] : List (Nat × Nat)), VFe 12 240 1 e := List.forall_mem_cons.mpr ⟨vf_12_240_12, fun _ h => absurd h List.not_mem_nil⟩
theorem vf_12_249_12 : VFe 12 249 1 (12, 184) := ⟨by decide, by decide +kernel, by decide, (ts_18 _ (List.mem_of_getElem? (i := 19) rfl)), Or.inl ⟨(ts_18 _ (List.mem_of_getElem? (i := 18) rfl)), (ts_18 _ (List.mem_of_getElem? (i := 20) rfl)), by decide +kernel⟩⟩
theorem vf_12_249 : ∀ e ∈ ([(12, 184)] : List (Nat × Nat)), VFe 12 249 1 e := List.forall_mem_cons.mpr ⟨vf_12_249_12, fun _ h => absurd h List.not_mem_nil⟩
theorem vf_12_261_12 : VFe 12 261 1 (12, 187) := ⟨by decide, by decide +kernel, by decide, (ts_22 _ (List.mem_of_getElem? (i := 15) rfl)), Or.inl ⟨(ts_22 _ (List.mem_of_getElem? (i := 14) rfl)), (ts_22 _ (List.mem_of_getElem? (i := 16) rfl)), by decide +kernel⟩⟩
theorem vf_12_261 : ∀ e ∈ ([(12, 187)] : List (Nat × Nat)), VFe 12 261 1 e := List.forall_mem_cons.mpr ⟨vf_12_261_12, fun _ h => absurd h List.not_mem_nil⟩
theorem vf_12_265_12 : VFe 12 265 0 (12, 188) := ⟨by decide, by decide +kernel, by decide, (ts_22 _ (List.mem_of_getElem? (i := 9) rfl)), Or.inl ⟨(ts_22 _ (List.mem_of_getElem? (i := 8) rfl)), (ts_22 _ (List.mem_of_getElem? (i := 10) rfl)), by decide +kernel⟩⟩
theorem vf_12_265 : ∀ e ∈ ([(12, 188)] : List (Nat × Nat)), VFe 12 265 0 e := List.forall_mem_cons.mpr ⟨vf_12_265_12, fun _ h => absurd h List.not_mem_nil⟩
theorem vf_12_268_12 : VFe 12 268 3 (12, 191) := ⟨by decide, by decide +kernel, by decide, (ts_23 _ (List.mem_of_getElem? (i := 2) rfl)), Or.inl ⟨(ts_23 _ (List.mem_of_getElem? (i := 1) rfl)), (ts_23 _ (List.mem_of_getElem? (i := 3) rfl)), by decide +kernel⟩⟩
theorem vf_12_268 : ∀ e ∈ ([(12, 191)] : List (Nat × Nat)), VFe 12 268 3 e := List.forall_mem_cons.mpr ⟨vf_12_268_12, fun _ h => absurd h List.not_mem_nil⟩
theorem vf_12_272_12 : VFe 12 272 1 (12, 190) := ⟨by decide, by decide +kernel, by decide, (ts_22 _ (List.mem_of_getElem? (i := 1) rfl)), Or.inl ⟨(ts_22 _ (List.mem_of_getElem? (i := 0) rfl)), (ts_22 _ (List.mem_of_getElem? (i := 2) rfl)), by decide +kernel⟩⟩
theorem vf_12_272 : ∀ e ∈ ([(12, 190)] : List (Nat × Nat)), VFe 12 272 1 e := List.forall_mem_cons.mpr ⟨vf_12_272_12, fun _ h => absurd h List.not_mem_nil⟩
theorem vf_12_276_12 : VFe 12 276 1 (12, 189) := ⟨by decide, by decide +kernel, by decide, (ts_22 _ (List.mem_of_getElem? (i := 5) rfl)), Or.inl ⟨(ts_22 _ (List.mem_of_getElem? (i := 4) rfl)), (ts_22 _ (List.mem_of_getElem? (i := 6) rfl)), by decide +kernel⟩⟩
theorem vf_12_276 : ∀ e ∈ ([(12, 189)] : List (Nat × Nat)), VFe 12 276 1 e := List.forall_mem_cons.mpr ⟨vf_12_276_12, fun _ h => absurd h List.not_mem_nil⟩
theorem vf_12_279_12 : VFe 12 279 0 (12, 192) := ⟨by decide, by decide +kernel, by decide, (ts_22 _ (List.mem_of_getElem? (i := 22) rfl)), Or.inl ⟨(ts_22 _ (List.mem_of_getElem? (i := 21) rfl)), (ts_22 _ (List.mem_of_getElem? (i := 23) rfl)), by decide +kernel⟩⟩
theorem vf_12_279 : ∀ e ∈ ([(12, 192)] : List (Nat × Nat)), VFe 12 279 0 e := List.forall_mem_cons.mpr ⟨vf_12_279_12, fun _ h => absurd h List.not_mem_nil⟩
theorem vf_12_281_12 : VFe 12 281 0 (12, 193) := ⟨by decide, by decide +kernel, by decide, (ts_23 _ (List.mem_of_getElem? (i := 22) rfl)), Or.inl ⟨(ts_23 _ (List.mem_of_getElem? (i := 21) rfl)), (ts_23 _ (List.mem_of_getElem? (i := 23) rfl)), by decide +kernel⟩⟩
theorem vf_12_281 : ∀ e ∈ ([(12, 193)] : List (Nat × Nat)), VFe 12 281 0 e := List.forall_mem_cons.mpr ⟨vf_12_281_12, fun _ h => absurd h List.not_mem_nil⟩
theorem vf_12_284_12 : VFe 12 284 0 (12, 194) := ⟨by decide, by decide +kernel, by decide, (ts_24 _ (List.mem_of_getElem? (i := 2) rfl)), Or.inl ⟨(ts_24 _ (List.mem_of_getElem? (i := 1) rfl)), (ts_24 _ (List.mem_of_getElem? (i := 3) rfl)), by decide +kernel⟩⟩
theorem vf_12_284 : ∀ e ∈ ([(12, 194)] : List (Nat × Nat)), VFe 12 284 0 e := List.forall_mem_cons.mpr ⟨vf_12_284_12, fun _ h => absurd h List.not_mem_nil⟩
theorem vf_12_287_12 : VFe 12 287 1 (12, 198) := ⟨by decide, by decide +kernel, by decide, (ts_26 _ (List.mem_of_getElem? (i := 4) rfl)), Or.inl ⟨(ts_26 _ (List.mem_of_getElem? (i := 3) rfl)), (ts_26 _ (List.mem_of_getElem? (i := 5) rfl)), by decide +kernel⟩⟩
theorem vf_12_287 : ∀ e ∈ ([(12, 198)] : List (Nat × Nat)), VFe 12 287 1 e := List.forall_mem_cons.mpr ⟨vf_12_287_12, fun _ h => absurd h List.not_mem_nil⟩
theorem vf_12_290_12 : VFe 12 290 1 (12, 200) := ⟨by decide, by decide +kernel, by decide, (ts_25 _ (List.mem_of_getElem? (i := 20) rfl)), Or.inl ⟨(ts_25 _ (List.mem_of_getElem? (i := 19) rfl)), (ts_25 _ (List.mem_of_getElem? (i := 21) rfl)), by decide +kernel⟩⟩
theorem vf_12_290 : ∀ e ∈ ([(12, 200)] : List (Nat × Nat)), VFe 12 290 1 e := List.forall_mem_cons.mpr ⟨vf_12_290_12, fun _ h => absurd h List.not_mem_nil⟩
theorem vf_12_293_12 : VFe 12 293 3 (12, 199) := ⟨by decide, by decide +kernel, by decide, (ts_26 _ (List.mem_of_getElem? (i := 0) rfl)), Or.inl ⟨(ts_25 _ (List.mem_of_getElem? (i := 23) rfl)), (ts_26 _ (List.mem_of_getElem? (i := 1) rfl)), by decide +kernel⟩⟩
theorem vf_12_293 : ∀ e ∈ ([(12, 199)] : List (Nat × Nat)), VFe 12 293 3 e := List.forall_mem_cons.mpr ⟨vf_12_293_12, fun _ h => absurd h List.not_mem_nil⟩
theorem vf_12_299_12 : VFe 12 299 3 (12, 203) := ⟨by decide, by decide +kernel, by decide, (ts_28 _ (List.mem_of_getElem? (i := 4) rfl)), Or.inl ⟨(ts_28 _ (List.mem_of_getElem? (i := 3) rfl)), (ts_28 _ (List.mem_of_getElem? (i := 5) rfl)), by decide +kernel⟩⟩
theorem vf_12_299 : ∀ e ∈ ([(12, 203)] : List (Nat × Nat)), VFe 12 299 3 e := List.forall_mem_cons.mpr ⟨vf_12_299_12, fun _ h => absurd h List.not_mem_nil⟩
theorem vf_12_302_12 : VFe 12 302 3 (12, 205) := ⟨by decide, by decide +kernel, by decide, (ts_28 _ (List.mem_of_getElem? (i := 20) rfl)), Or.inl ⟨(ts_28 _ (List.mem_of_getElem? (i := 19) rfl)), (ts_28 _ (List.mem_of_getElem? (i := 21) rfl)), by decide +kernel⟩⟩
theorem vf_12_302 : ∀ e ∈ ([(12, 205)] : List (Nat × Nat)), VFe 12 302 3 e := List.forall_mem_cons.mpr ⟨vf_12_302_12, fun _ h => absurd h List.not_mem_nil⟩
theorem vf_12_313_12 : VFe 12 313 2 (12, 209) := ⟨by decide, by decide +kernel, by decide, (ts_30 _ (List.mem_of_getElem? (i := 20) rfl)), Or.inl ⟨(ts_30 _ (List.mem_of_getElem? (i := 19) rfl)), (ts_30 _ (List.mem_of_getElem? (i := 21) rfl)), by decide +kernel⟩⟩
theorem vf_12_313 : ∀ e ∈ ([(12, 209)] : List (Nat × Nat)), VFe 12 313 2 e := List.forall_mem_cons.mpr ⟨vf_12_313_12, fun _ h => absurd h List.not_mem_nil⟩
theorem vf_12_316_12 : VFe 12 316 1 (12, 211) := ⟨by decide, by decide +kernel, by decide, (ts_31 _ (List.mem_of_getElem? (i := 18) rfl)), Or.inl ⟨(ts_31 _ (List.mem_of_getElem? (i := 17) rfl)), (ts_31 _ (List.mem_of_getElem? (i := 19) rfl)), by decide +kernel⟩⟩
theorem vf_12_316 : ∀ e ∈ ([(12, 211)] : List (Nat × Nat)), VFe 12 316 1 e := List.forall_mem_cons.mpr ⟨vf_12_316_12, fun _ h => absurd h List.not_mem_nil⟩
theorem vf_12_319_12 : VFe 12 319 2 (12, 212) := ⟨by decide, by decide +kernel, by decide, (ts_31 _ (List.mem_of_getElem? (i := 22) rfl)), Or.inl ⟨(ts_31 _ (List.mem_of_getElem? (i := 21) rfl)), (ts_31 _ (List.mem_of_getElem? (i := 23) rfl)), by decide +kernel⟩⟩
theorem vf_12_319 : ∀ e ∈ ([(12, 212)] : List (Nat × Nat)), VFe 12 319 2 e := List.forall_mem_cons.mpr ⟨vf_12_319_12, fun _ h => absurd h List.not_mem_nil⟩
theorem vf_12_322_12 : VFe 12 322 1 (12, 216) := ⟨by decide, by decide +kernel, by decide, (ts_33 _ (List.mem_of_getElem? (i := 18) rfl)), Or.inl ⟨(ts_33 _ (List.mem_of_getElem? (i := 17) rfl)), (ts_33 _ (List.mem_of_getElem? (i := 19) rfl)), by decide +kernel⟩⟩
theorem vf_12_322 : ∀ e ∈ ([(12, 216)] : List (Nat × Nat)), VFe 12 322 1 e := List.forall_mem_cons.mpr ⟨vf_12_322_12, fun _ h => absurd h List.not_mem_nil⟩
theorem vf_12_325_12 : VFe 12 325 3 (12, 218) := ⟨by decide, by decide +kernel, by decide, (ts_34 _ (List.mem_of_getElem? (i := 18) rfl)), Or.inl ⟨(ts_34 _ (List.mem_of_getElem? (i := 17) rfl)), (ts_34 _ (List.mem_of_getElem? (i := 19) rfl)), by decide +kernel⟩⟩
theorem vf_12_325 : ∀ e ∈ ([(12, 218)] : List (Nat × Nat)), VFe 12 325 3 e := List.forall_mem_cons.mpr ⟨vf_12_325_12, fun _ h => absurd h List.not_mem_nil⟩
theorem vf_12_328_12 : VFe 12 328 3 (12, 219) := ⟨by decide, by decide +kernel, by decide, (ts_34 _ (List.mem_of_getElem? (i := 22) rfl)), Or.inl ⟨(ts_34 _ (List.mem_of_getElem? (i := 21) rfl)), (ts_34 _ (List.mem_of_getElem? (i := 23) rfl)), by decide +kernel⟩⟩
theorem vf_12_328 : ∀ e ∈ ([(12, 219)] : List (Nat × Nat)), VFe 12 328 3 e := List.forall_mem_cons.mpr ⟨vf_12_328_12, fun _ h => absurd h List.not_mem_nil⟩
theorem vf_12_344_12 : VFe 12 344 1 (12, 229) := ⟨by decide, by decide +kernel, by decide, (ts_47 _ (List.mem_of_getElem? (i := 20) rfl)), Or.inl ⟨(ts_47 _ (List.mem_of_getElem? (i := 19) rfl)), (ts_47 _ (List.mem_of_getElem? (i := 21) rfl)), by decide +kernel⟩⟩
theorem vf_12_344 : ∀ e ∈ ([(12, 229)] : List (Nat × Nat)), VFe 12 344 1 e := List.forall_mem_cons.mpr ⟨vf_12_344_12, fun _ h => absurd h List.not_mem_nil⟩
theorem vf_12_347_12 : VFe 12 347 3 (12, 230) := ⟨by decide, by decide +kernel, by decide, (ts_47 _ (List.mem_of_getElem? (i := 16) rfl)), Or.inl ⟨(ts_47 _ (List.mem_of_getElem? (i := 15) rfl)), (ts_47 _ (List.mem_of_getElem? (i := 17) rfl)), by decide +kernel⟩⟩
theorem vf_12_347 : ∀ e ∈ ([(12, 230)] : List (Nat × Nat)), VFe 12 347 3 e := List.forall_mem_cons.mpr ⟨vf_12_347_12, fun _ h => absurd h List.not_mem_nil⟩
theorem vf_12_353_12 : VFe 12 353 3 (12, 231) := ⟨by decide, by decide +kernel, by decide, (ts_48 _ (List.mem_of_getElem? (i := 3) rfl)), Or.inl ⟨(ts_48 _ (List.mem_of_getElem? (i := 2) rfl)), (ts_48 _ (List.mem_of_getElem? (i := 4) rfl)), by decide +kernel⟩⟩
theorem vf_12_353 : ∀ e ∈ ([(12, 231)] : List (Nat × Nat)), VFe 12 353 3 e := List.forall_mem_cons.mpr ⟨vf_12_353_12, fun _ h => absurd h List.not_mem_nil⟩
theorem vf_12_356_12 : VFe 12 356 3 (12, 232) := ⟨by decide, by decide +kernel, by decide, (ts_48 _ (List.mem_of_getElem? (i := 7) rfl)), Or.inl ⟨(ts_48 _ (List.mem_of_getElem? (i := 6) rfl)), (ts_48 _ (List.mem_of_getElem? (i := 8) rfl)), by decide +kernel⟩⟩
theorem vf_12_356 : ∀ e ∈ ([(12, 232)] : List (Nat × Nat)), VFe 12 356 3 e := List.forall_mem_cons.mpr ⟨vf_12_356_12, fun _ h => absurd h List.not_mem_nil⟩
theorem vf_12_359_12 : VFe 12 359 3 (12, 233) := ⟨by decide, by decide +kernel, by decide, (ts_48 _ (List.mem_of_getElem? (i := 11) rfl)), Or.inl ⟨(ts_48 _ (List.mem_of_getElem? (i := 10) rfl)), (ts_48 _ (List.mem_of_getElem? (i := 12) rfl)), by decide +kernel⟩⟩
theorem vf_12_359 : ∀ e ∈ ([(12, 233)] : List (Nat × Nat)), VFe 12 359 3 e := List.forall_mem_cons.mpr ⟨vf_12_359_12, fun _ h => absurd h List.not_mem_nil⟩
theorem vf_12_365_12 : VFe 12 365 1 (12, 239) := ⟨by decide, by decide +kernel, by decide, (ts_50 _ (List.mem_of_getElem? (i := 22) rfl)), Or.inl ⟨(ts_50 _ (List.mem_of_getElem? (i := 21) rfl)), (ts_50 _ (List.mem_of_getElem? (i := 23) rfl)), by decide +kernel⟩⟩
theorem vf_12_365 : ∀ e ∈ ([(12, 239)] : List (Nat × Nat)), VFe 12 365 1 e := List.forall_mem_cons.mpr ⟨vf_12_365_12, fun _ h => absurd h List.not_mem_nil⟩
theorem vf_13_13_11 : VFe 13 13 1 (11, 71) := ⟨by decide, by decide +kernel, by decide, (ts_4 _ (List.mem_of_getElem? (i := 23) rfl)), Or.inl ⟨(ts_4 _ (List.mem_of_getElem? (i := 22) rfl)), (ts_5 _ (List.mem_of_getElem? (i := 0) rfl)), by decide +kernel⟩⟩
theorem vf_13_13 : ∀ e ∈ ([(11, 71)] : List (Nat × Nat)), VFe 13 13 1 e := List.forall_mem_cons.mpr ⟨vf_13_13_11, fun _ h => absurd h List.not_mem_nil⟩
theorem vf_13_17_12 : VFe 13 17 1 (12, 150) := ⟨by decide, by decide +kernel, by decide, (ts_5 _ (List.mem_of_getElem? (i := 19) rfl)), Or.inl ⟨(ts_5 _ (List.mem_of_getElem? (i := 18) rfl)), (ts_5 _ (List.mem_of_getElem? (i := 20) rfl)), by decide +kernel⟩⟩
theorem vf_13_17 : ∀ e ∈ ([(12, 150)] : List (Nat × Nat)), VFe 13 17 1 e := List.forall_mem_cons.mpr ⟨vf_13_17_12, fun _ h => absurd h List.not_mem_nil⟩
theorem vf_13_18_11 : VFe 13 18 2 (11, 72) := ⟨by decide, by decide +kernel, by decide, (ts_6 _ (List.mem_of_getElem? (i := 6) rfl)), Or.inl ⟨(ts_6 _ (List.mem_of_getElem? (i := 5) rfl)), (ts_6 _ (List.mem_of_getElem? (i := 7) rfl)), by decide +kernel⟩⟩
theorem vf_13_18 : ∀ e ∈ ([(11, 72)] : List (Nat × Nat)), VFe 13 18 2 e := List.forall_mem_cons.mpr ⟨vf_13_18_11, fun _ h => absurd h List.not_mem_nil⟩
theorem vf_13_22_12 : VFe 13 22 2 (12, 152) := ⟨by decide, by decide +kernel, by decide, (ts_6 _ (List.mem_of_getElem? (i := 15) rfl)), Or.inl ⟨(ts_6 _ (List.mem_of_getElem? (i := 14) rfl)), (ts_6 _ (List.mem_of_getElem? (i := 16) rfl)), by decide +kernel⟩⟩
theorem vf_13_22 : ∀ e ∈ ([(12, 152)] : List (Nat × Nat)), VFe 13 22 2 e := List.forall_mem_cons.mpr ⟨vf_13_22_12, fun _ h => absurd h List.not_mem_nil⟩
theorem vf_13_23_11 : VFe 13 23 3 (11, 73) := ⟨by decide, by decide +kernel, by decide, (ts_7 _ (List.mem_of_getElem? (i := 0) rfl)), Or.inl ⟨(ts_6 _ (List.mem_of_getElem? (i := 23) rfl)), (ts_7 _ (List.mem_of_getElem? (i := 1) rfl)), by decide +kernel⟩⟩
theorem vf_13_23 : ∀ e ∈ ([(11, 73)] : List (Nat × Nat)), VFe 13 23 3 e := List.forall_mem_cons.mpr ⟨vf_13_23_11, fun _ h => absurd h List.not_mem_nil⟩
theorem vf_13_27_12 : VFe 13 27 3 (12, 154) := ⟨by decide, by decide +kernel, by decide, (ts_8 _ (List.mem_of_getElem? (i := 6) rfl)), Or.inl ⟨(ts_8 _ (List.mem_of_getElem? (i := 5) rfl)), (ts_8 _ (List.mem_of_getElem? (i := 7) rfl)), by decide +kernel⟩⟩
theorem vf_13_27 : ∀ e ∈ ([(12, 154)] : List (Nat × Nat)), VFe 13 27 3 e := List.forall_mem_cons.mpr ⟨vf_13_27_12, fun _ h => absurd h List.not_mem_nil⟩
theorem vf_13_28_11 : VFe 13 28 3 (11, 75) := ⟨by decide, by decide +kernel, by decide, (ts_9 _ (List.mem_of_getElem? (i := 2) rfl)), Or.inl ⟨(ts_9 _ (List.mem_of_getElem? (i := 1) rfl)), (ts_9 _ (List.mem_of_getElem? (i := 3) rfl)), by decide +kernel⟩⟩
theorem vf_13_28 : ∀ e ∈ ([(11, 75)] : List (Nat × Nat)), VFe 13 28 3 e := List.forall_mem_cons.mpr ⟨vf_13_28_11, fun _ h => absurd h List.not_mem_nil⟩
theorem vf_13_31_12 : VFe 13 31 3 (12, 160) := ⟨by decide, by decide +kernel, by decide, (ts_10 _ (List.mem_of_getElem? (i := 16) rfl)), Or.inl ⟨(ts_10 _ (List.mem_of_getElem? (i := 15) rfl)), (ts_10 _ (List.mem_of_getElem? (i := 17) rfl)), by decide +kernel⟩⟩
theorem vf_13_31 : ∀ e ∈ ([(12, 160)] : List (Nat × Nat)), VFe 13 31 3 e := List.forall_mem_cons.mpr ⟨vf_13_31_12, fun _ h => absurd h List.not_mem_nil⟩
theorem vf_13_32_11 : VFe 13 32 2 (11, 77) := ⟨by decide, by decide +kernel, by decide, (ts_11 _ (List.mem_of_getElem? (i := 19) rfl)), Or.inl ⟨(ts_11 _ (List.mem_of_getElem? (i := 18) rfl)), (ts_11 _ (List.mem_of_getElem? (i := 20) rfl)), by decide +kernel⟩⟩
theorem vf_13_32 : ∀ e ∈ ([(11, 77)] : List (Nat × Nat)), VFe 13 32 2 e := List.forall_mem_cons.mpr ⟨vf_13_32_11, fun _ h => absurd h List.not_mem_nil⟩
theorem vf_13_35_12 : VFe 13 35 2 (12, 161) := ⟨by decide, by decide +kernel, by decide, (ts_11 _ (List.mem_of_getElem? (i := 23) rfl)), Or.inl ⟨(ts_11 _ (List.mem_of_getElem? (i := 22) rfl)), (ts_12 _ (List.mem_of_getElem? (i := 0) rfl)), by decide +kernel⟩⟩
theorem vf_13_35 : ∀ e ∈ ([(12, 161)] : List (Nat × Nat)), VFe 13 35 2 e := List.forall_mem_cons.mpr ⟨vf_13_35_12, fun _ h => absurd h List.not_mem_nil⟩
theorem vf_13_36_11 : VFe 13 36 1 (11, 78) := ⟨by decide, by decide +kernel, by decide, (ts_12 _ (List.mem_of_getElem? (i := 3) rfl)), Or.inl ⟨(ts_12 _ (List.mem_of_getElem? (i := 2) rfl)), (ts_12 _ (List.mem_of_getElem? (i := 4) rfl)), by decide +kernel⟩⟩
theorem vf_13_36 : ∀ e ∈ ([(11, 78)] : List (Nat × Nat)), VFe 13 36 1 e := List.forall_mem_cons.mpr ⟨vf_13_36_11, fun _ h => absurd h List.not_mem_nil⟩
theorem vf_13_39_12 : VFe 13 39 1 (12, 164) := ⟨by decide, by decide +kernel, by decide, (ts_12 _ (List.mem_of_getElem? (i := 8) rfl)), Or.inl ⟨(ts_12 _ (List.mem_of_getElem? (i := 7) rfl)), (ts_12 _ (List.mem_of_getElem? (i := 9) rfl)), by decide +kernel⟩⟩
theorem vf_13_39 : ∀ e ∈ ([(12, 164)] : List (Nat × Nat)), VFe 13 39 1 e := List.forall_mem_cons.mpr ⟨vf_13_39_12, fun _ h => absurd h List.not_mem_nil⟩
theorem vf_13_40_11 : VFe 13 40 0 (11, 79) := ⟨by decide, by decide +kernel, by decide, (ts_12 _ (List.mem_of_getElem? (i := 13) rfl)), Or.inl ⟨(ts_12 _ (List.mem_of_getElem? (i := 12) rfl)), (ts_12 _ (List.mem_of_getElem? (i := 14) rfl)), by decide +kernel⟩⟩
theorem vf_13_40 : ∀ e ∈ ([(11, 79)] : List (Nat × Nat)), VFe 13 40 0 e := List.forall_mem_cons.mpr ⟨vf_13_40_11, fun _ h => absurd h List.not_mem_nil⟩
theorem vf_13_44_12 : VFe 13 44 0 (12, 177) := ⟨by decide, by decide +kernel, by decide, (ts_14 _ (List.mem_of_getElem? (i := 15) rfl)), Or.inl ⟨(ts_14 _ (List.mem_of_getElem? (i := 14) rfl)), (ts_14 _ (List.mem_of_getElem? (i := 16) rfl)), by decide +kernel⟩⟩
theorem vf_13_44 : ∀ e ∈ ([(12, 177)] : List (Nat × Nat)), VFe 13 44 0 e := List.forall_mem_cons.mpr ⟨vf_13_44_12, fun _ h => absurd h List.not_mem_nil⟩
theorem vf_13_45_11 : VFe 13 45 1 (11, 80) := ⟨by decide, by decide +kernel, by decide, (ts_17 _ (List.mem_of_getElem? (i := 0) rfl)), Or.inl ⟨(ts_16 _ (List.mem_of_getElem? (i := 23) rfl)), (ts_17 _ (List.mem_of_getElem? (i := 1) rfl)), by decide +kernel⟩⟩
theorem vf_13_45 : ∀ e ∈ ([(11, 80)] : List (Nat × Nat)), VFe 13 45 1 e := List.forall_mem_cons.mpr ⟨vf_13_45_11, fun _ h => absurd h List.not_mem_nil⟩
theorem vf_13_48_12 : VFe 13 48 1 (12, 185) := ⟨by decide, by decide +kernel, by decide, (ts_18 _ (List.mem_of_getElem? (i := 15) rfl)), Or.inl ⟨(ts_18 _ (List.mem_of_getElem? (i := 14) rfl)), (ts_18 _ (List.mem_of_getElem? (i := 16) rfl)), by decide +kernel⟩⟩
theorem vf_13_48 : ∀ e ∈ ([(12, 185)] : List (Nat × Nat)), VFe 13 48 1 e := List.forall_mem_cons.mpr ⟨vf_13_48_12, fun _ h => absurd h List.not_mem_nil⟩
theorem vf_13_49_11 : VFe 13 49 3 (11, 81) := ⟨by decide, by decide +kernel, by decide, (ts_20 _ (List.mem_of_getElem? (i := 0) rfl)), Or.inl ⟨(ts_19 _ (List.mem_of_getElem? (i := 23) rfl)), (ts_20 _ (List.mem_of_getElem? (i := 1) rfl)), by decide +kernel⟩⟩
theorem vf_13_49 : ∀ e ∈ ([(11, 81)] : List (Nat × Nat)), VFe 13 49 3 e := List.forall_mem_cons.mpr ⟨vf_13_49_11, fun _ h => absurd h List.not_mem_nil⟩
theorem vf_13_52_12 : VFe 13 52 3 (12, 195) := ⟨by decide, by decide +kernel, by decide, (ts_21 _ (List.mem_of_getElem? (i := 21) rfl)), Or.inl ⟨(ts_21 _ (List.mem_of_getElem? (i := 20) rfl)), (ts_21 _ (List.mem_of_getElem? (i := 22) rfl)), by decide +kernel⟩⟩
theorem vf_13_52 : ∀ e ∈ ([(12, 195)] : List (Nat × Nat)), VFe 13 52 3 e := List.forall_mem_cons.mpr ⟨vf_13_52_12, fun _ h => absurd h List.not_mem_nil⟩
theorem vf_13_53_11 : VFe 13 53 2 (11, 83) := ⟨by decide, by decide +kernel, by decide, (ts_23 _ (List.mem_of_getElem? (i := 6) rfl)), Or.inl ⟨(ts_23 _ (List.mem_of_getElem? (i := 5) rfl)), (ts_23 _ (List.mem_of_getElem? (i := 7) rfl)), by decide +kernel⟩⟩
theorem vf_13_53 : ∀ e ∈ ([(11, 83)] : List (Nat × Nat)), VFe 13 53 2 e := List.forall_mem_cons.mpr ⟨vf_13_53_11, fun _ h => absurd h List.not_mem_nil⟩
theorem vf_13_56_12 : VFe 13 56 2 (12, 196) := ⟨by decide, by decide +kernel, by decide, (ts_23 _ (List.mem_of_getElem? (i := 18) rfl)), Or.inl ⟨(ts_23 _ (List.mem_of_getElem? (i := 17) rfl)), (ts_23 _ (List.mem_of_getElem? (i := 19) rfl)), by decide +kernel⟩⟩
theorem vf_13_56 : ∀ e ∈ ([(12, 196)] : List (Nat × Nat)), VFe 13 56 2 e := List.forall_mem_cons.mpr ⟨vf_13_56_12, fun _ h => absurd h List.not_mem_nil⟩
theorem vf_13_57_11 : VFe 13 57 1 (11, 84) := ⟨by decide, by decide +kernel, by decide, (ts_24 _ (List.mem_of_getElem? (i := 6) rfl)), Or.inl ⟨(ts_24 _ (List.mem_of_getElem? (i := 5) rfl)), (ts_24 _ (List.mem_of_getElem? (i := 7) rfl)), by decide +kernel⟩⟩
theorem vf_13_57 : ∀ e ∈ ([(11, 84)] : List (Nat × Nat)), VFe 13 57 1 e := List.forall_mem_cons.mpr ⟨vf_13_57_11, fun _ h => absurd h List.not_mem_nil⟩
theorem vf_13_60_12 : VFe 13 60 1 (12, 197) := ⟨by decide, by decide +kernel, by decide, (ts_24 _ (List.mem_of_getElem? (i := 10) rfl)), Or.inl ⟨(ts_24 _ (List.mem_of_getElem? (i := 9) rfl)), (ts_24 _ (List.mem_of_getElem? (i := 11) rfl)), by decide +kernel⟩⟩
theorem vf_13_60 : ∀ e ∈ ([(12, 197)] : List (Nat × Nat)), VFe 13 60 1 e := List.forall_mem_cons.mpr ⟨vf_13_60_12, fun _ h => absurd h List.not_mem_nil⟩
theorem vf_13_61_11 : VFe 13 61 3 (11, 85) := ⟨by decide, by decide +kernel, by decide, (ts_24 _ (List.mem_of_getElem? (i := 14) rfl)), Or.inl ⟨(ts_24 _ (List.mem_of_getElem? (i := 13) rfl)), (ts_24 _ (List.mem_of_getElem? (i := 15) rfl)), by decide +kernel⟩⟩
theorem vf_13_61 : ∀ e ∈ ([(11, 85)] : List (Nat × Nat)), VFe 13 61 3 e := List.forall_mem_cons.mpr ⟨vf_13_61_11, fun _ h => absurd h List.not_mem_nil⟩
theorem vf_13_64_12 : VFe 13 64 3 (12, 201) := ⟨by decide, by decide +kernel, by decide, (ts_25 _ (List.mem_of_getElem? (i := 16) rfl)), Or.inl ⟨(ts_25 _ (List.mem_of_getElem? (i := 15) rfl)), (ts_25 _ (List.mem_of_getElem? (i := 17) rfl)), by decide +kernel⟩⟩
theorem vf_13_64 : ∀ e ∈ ([(12, 201)] : List (Nat × Nat)), VFe 13 64 3 e := List.forall_mem_cons.mpr ⟨vf_13_64_12, fun _ h => absurd h List.not_mem_nil⟩
theorem vf_13_65_11 : VFe 13 65 3 (11, 89) := ⟨by decide, by decide +kernel, by decide, (ts_26 _ (List.mem_of_getElem? (i := 8) rfl)), Or.inl ⟨(ts_26 _ (List.mem_of_getElem? (i := 7) rfl)), (ts_26 _ (List.mem_of_getElem? (i := 9) rfl)), by decide +kernel⟩⟩
theorem vf_13_65 : ∀ e ∈ ([(11, 89)] : List (Nat × Nat)), VFe 13 65 3 e := List.forall_mem_cons.mpr ⟨vf_13_65_11, fun _ h => absurd h List.not_mem_nil⟩
theorem vf_13_68_12 : VFe 13 68 3 (12, 202) := ⟨by decide, by decide +kernel, by decide, (ts_26 _ (List.mem_of_getElem? (i := 13) rfl)), Or.inl ⟨(ts_26 _ (List.mem_of_getElem? (i := 12) rfl)), (ts_26 _ (List.mem_of_getElem? (i := 14) rfl)), by decide +kernel⟩⟩
theorem vf_13_68 : ∀ e ∈ ([(12, 202)] : List (Nat × Nat)), VFe 13 68 3 e := List.forall_mem_cons.mpr ⟨vf_13_68_12, fun _ h => absurd h List.not_mem_nil⟩
theorem vf_13_69_11 : VFe 13 69 2 (11, 90) := ⟨by decide, by decide +kernel, by decide, (ts_26 _ (List.mem_of_getElem? (i := 17) rfl)), Or.inl ⟨(ts_26 _ (List.mem_of_getElem? (i := 16) rfl)), (ts_26 _ (List.mem_of_getElem? (i := 18) rfl)), by decide +kernel⟩⟩
theorem vf_13_69 : ∀ e ∈ ([(11, 90)] : List (Nat × Nat)), VFe 13 69 2 e := List.forall_mem_cons.mpr ⟨vf_13_69_11, fun _ h => absurd h List.not_mem_nil⟩
theorem vf_13_72_12 : VFe 13 72 2 (12, 204) := ⟨by decide, by decide +kernel, by decide, (ts_27 _ (List.mem_of_getElem? (i := 23) rfl)), Or.inl ⟨(ts_27 _ (List.mem_of_getElem? (i := 22) rfl)), (ts_28 _ (List.mem_of_getElem? (i := 0) rfl)), by decide +kernel⟩⟩
theorem vf_13_72 : ∀ e ∈ ([(12, 204)] : List (Nat × Nat)), VFe 13 72 2 e := List.forall_mem_cons.mpr ⟨vf_13_72_12, fun _ h => absurd h List.not_mem_nil⟩
theorem vf_13_73_11 : VFe 13 73 2 (11, 96) := ⟨by decide, by decide +kernel, by decide, (ts_28 _ (List.mem_of_getElem? (i := 8) rfl)), Or.inl ⟨(ts_28 _ (List.mem_of_getElem? (i := 7) rfl)), (ts_28 _ (List.mem_of_getElem? (i := 9) rfl)), by decide +kernel⟩⟩
theorem vf_13_73 : ∀ e ∈ ([(11, 96)] : List (Nat × Nat)), VFe 13 73 2 e := List.forall_mem_cons.mpr ⟨vf_13_73_11, fun _ h => absurd h List.not_mem_nil⟩
theorem vf_13_76_12 : VFe 13 76 2 (12, 206) := ⟨by decide, by decide +kernel, by decide, (ts_28 _ (List.mem_of_getElem? (i := 16) rfl)), Or.inl ⟨(ts_28 _ (List.mem_of_getElem? (i := 15) rfl)), (ts_28 _ (List.mem_of_getElem? (i := 17) rfl)), by decide +kernel⟩⟩
theorem vf_13_76 : ∀ e ∈ ([(12, 206)] : List (Nat × Nat)), VFe 13 76 2 e := List.forall_mem_cons.mpr ⟨vf_13_76_12, fun _ h => absurd h List.not_mem_nil⟩
theorem vf_13_77_11 : VFe 13 77 2 (11, 98) := ⟨by decide, by decide +kernel, by decide, (ts_29 _ (List.mem_of_getElem? (i := 0) rfl)), Or.inl ⟨(ts_28 _ (List.mem_of_getElem? (i := 23) rfl)), (ts_29 _ (List.mem_of_getElem? (i := 1) rfl)), by decide +kernel⟩⟩
theorem vf_13_77 : ∀ e ∈ ([(11, 98)] : List (Nat × Nat)), VFe 13 77 2 e := List.forall_mem_cons.mpr ⟨vf_13_77_11, fun _ h => absurd h List.not_mem_nil⟩
theorem vf_13_80_12 : VFe 13 80 2 (12, 208) := ⟨by decide, by decide +kernel, by decide, (ts_29 _ (List.mem_of_getElem? (i := 19) rfl)), Or.inl ⟨(ts_29 _ (List.mem_of_getElem? (i := 18) rfl)), (ts_29 _ (List.mem_of_getElem? (i := 20) rfl)), by decide +kernel⟩⟩
theorem vf_13_80 : ∀ e ∈ ([(12, 208)] : List (Nat × Nat)), VFe 13 80 2 e := List.forall_mem_cons.mpr ⟨vf_13_80_12, fun _ h => absurd h List.not_mem_nil⟩
theorem vf_13_81_11 : VFe 13 81 2 (11, 101) := ⟨by decide, by decide +kernel, by decide, (ts_30 _ (List.mem_of_getElem? (i := 2) rfl)), Or.inl ⟨(ts_30 _ (List.mem_of_getElem? (i := 1) rfl)), (ts_30 _ (List.mem_of_getElem? (i := 3) rfl)), by decide +kernel⟩⟩
theorem vf_13_81 : ∀ e ∈ ([(11, 101)] : List (Nat × Nat)), VFe 13 81 2 e := List.forall_mem_cons.mpr ⟨vf_13_81_11, fun _ h => absurd h List.not_mem_nil⟩
theorem vf_13_84_12 : VFe 13 84 2 (12, 210) := ⟨by decide, by decide +kernel, by decide, (ts_30 _ (List.mem_of_getElem? (i := 15) rfl)), Or.inl ⟨(ts_30 _ (List.mem_of_getElem? (i := 14) rfl)), (ts_30 _ (List.mem_of_getElem? (i := 16) rfl)), by decide +kernel⟩⟩
theorem vf_13_84 : ∀ e ∈ ([(12, 210)] : List (Nat × Nat)), VFe 13 84 2 e := List.forall_mem_cons.mpr ⟨vf_13_84_12, fun _ h => absurd h List.not_mem_nil⟩
theorem vf_13_85_11 : VFe 13 85 2 (11, 104) := ⟨by decide, by decide +kernel, by decide, (ts_31 _ (List.mem_of_getElem? (i := 0) rfl)), Or.inl ⟨(ts_30 _ (List.mem_of_getElem? (i := 23) rfl)), (ts_31 _ (List.mem_of_getElem? (i := 1) rfl)), by decide +kernel⟩⟩
theorem vf_13_85 : ∀ e ∈ ([(11, 104)] : List (Nat × Nat)), VFe 13 85 2 e := List.forall_mem_cons.mpr ⟨vf_13_85_11, fun _ h => absurd h List.not_mem_nil⟩
theorem vf_13_88_12 : VFe 13 88 2 (12, 213) := ⟨by decide, by decide +kernel, by decide, (ts_31 _ (List.mem_of_getElem? (i := 14) rfl)), Or.inl ⟨(ts_31 _ (List.mem_of_getElem? (i := 13) rfl)), (ts_31 _ (List.mem_of_getElem? (i := 15) rfl)), by decide +kernel⟩⟩
theorem vf_13_88 : ∀ e ∈ ([(12, 213)] : List (Nat × Nat)), VFe 13 88 2 e := List.forall_mem_cons.mpr ⟨vf_13_88_12, fun _ h => absurd h List.not_mem_nil⟩
theorem vf_13_89_11 : VFe 13 89 3 (11, 107) := ⟨by decide, by decide +kernel, by decide, (ts_32 _ (List.mem_of_getElem? (i := 2) rfl)), Or.inl ⟨(ts_32 _ (List.mem_of_getElem? (i := 1) rfl)), (ts_32 _ (List.mem_of_getElem? (i := 3) rfl)), by decide +kernel⟩⟩
theorem vf_13_89 : ∀ e ∈ ([(11, 107)] : List (Nat × Nat)), VFe 13 89 3 e := List.forall_mem_cons.mpr ⟨vf_13_89_11, fun _ h => absurd h List.not_mem_nil⟩
theorem vf_13_92_12 : VFe 13 92 3 (12, 214) := ⟨by decide, by decide +kernel, by decide, (ts_32 _ (List.mem_of_getElem? (i := 14) rfl)), Or.inl ⟨(ts_32 _ (List.mem_of_getElem? (i := 13) rfl)), (ts_32 _ (List.mem_of_getElem? (i := 15) rfl)), by decide +kernel⟩⟩
theorem vf_13_92 : ∀ e ∈ ([(12, 214)] : List (Nat × Nat)), VFe 13 92 3 e := List.forall_mem_cons.mpr ⟨vf_13_92_12, fun _ h => absurd h List.not_mem_nil⟩
theorem vf_13_93_11 : VFe 13 93 0 (11, 110) := ⟨by decide, by decide +kernel, by decide, (ts_32 _ (List.mem_of_getElem? (i := 18) rfl)), Or.inl ⟨(ts_32 _ (List.mem_of_getElem? (i := 17) rfl)), (ts_32 _ (List.mem_of_getElem? (i := 19) rfl)), by decide +kernel⟩⟩
theorem vf_13_93 : ∀ e ∈ ([(11, 110)] : List (Nat × Nat)), VFe 13 93 0 e := List.forall_mem_cons.mpr ⟨vf_13_93_11, fun _ h => absurd h List.not_mem_nil⟩
theorem vf_13_96_12 : VFe 13 96 0 (12, 215) := ⟨by decide, by decide +kernel, by decide, (ts_33 _ (List.mem_of_getElem? (i := 2) rfl)), Or.inl ⟨(ts_33 _ (List.mem_of_getElem? (i := 1) rfl)), (ts_33 _ (List.mem_of_getElem? (i := 3) rfl)), by decide +kernel⟩⟩
theorem vf_13_96 : ∀ e ∈ ([(12, 215)] : List (Nat × Nat)), VFe 13 96 0 e := List.forall_mem_cons.mpr ⟨vf_13_96_12, fun _ h => absurd h List.not_mem_nil⟩
theorem vf_13_97_11 : VFe 13 97 1 (11, 112) := ⟨by decide, by decide +kernel, by decide, (ts_33 _ (List.mem_of_getElem? (i := 6) rfl)), Or.inl ⟨(ts_33 _ (List.mem_of_getElem? (i := 5) rfl)), (ts_33 _ (List.mem_of_getElem? (i := 7) rfl)), by decide +kernel⟩⟩
theorem vf_13_97 : ∀ e ∈ ([(11, 112)] : List (Nat × Nat)), VFe 13 97 1 e := List.forall_mem_cons.mpr ⟨vf_13_97_11, fun _ h => absurd h List.not_mem_nil⟩
theorem vf_13_100_12 : VFe 13 100 1 (12, 217) := ⟨by decide, by decide +kernel, by decide, (ts_33 _ (List.mem_of_getElem? (i := 14) rfl)), Or.inl ⟨(ts_33 _ (List.mem_of_getElem? (i := 13) rfl)), (ts_33 _ (List.mem_of_getElem? (i := 15) rfl)), by decide +kernel⟩⟩
theorem vf_13_100 : ∀ e ∈ ([(12, 217)] : List (Nat × Nat)), VFe 13 100 1 e := List.forall_mem_cons.mpr ⟨vf_13_100_12, fun _ h => absurd h List.not_mem_nil⟩
theorem vf_13_101_11 : VFe 13 101 3 (11, 113) := ⟨by decide, by decide +kernel, by decide, (ts_33 _ (List.mem_of_getElem? (i := 22) rfl)), Or.inl ⟨(ts_33 _ (List.mem_of_getElem? (i := 21) rfl)), (ts_33 _ (List.mem_of_getElem? (i := 23) rfl)), by decide +kernel⟩⟩
theorem vf_13_101 : ∀ e ∈ ([(11, 113)] : List (Nat × Nat)), VFe 13 101 3 e := List.forall_mem_cons.mpr ⟨vf_13_101_11, fun _ h => absurd h List.not_mem_nil⟩
theorem vf_13_104_12 : VFe 13 104 3 (12, 220) := ⟨by decide, by decide +kernel, by decide, (ts_34 _ (List.mem_of_getElem? (i := 14) rfl)), Or.inl ⟨(ts_34 _ (List.mem_of_getElem? (i := 13) rfl)), (ts_34 _ (List.mem_of_getElem? (i := 15) rfl)), by decide +kernel⟩⟩
theorem vf_13_104 : ∀ e ∈ ([(12, 220)] : List (Nat × Nat)), VFe 13 104 3 e := List.forall_mem_cons.mpr ⟨vf_13_104_12, fun _ h => absurd h List.not_mem_nil⟩
theorem vf_13_105_11 : VFe 13 105 3 (11, 117) := ⟨by decide, by decide +kernel, by decide, (ts_35 _ (List.mem_of_getElem? (i := 2) rfl)), Or.inl ⟨(ts_35 _ (List.mem_of_getElem? (i := 1) rfl)), (ts_35 _ (List.mem_of_getElem? (i := 3) rfl)), by decide +kernel⟩⟩
theorem vf_13_105 : ∀ e ∈ ([(11, 117)] : List (Nat × Nat)), VFe 13 105 3 e := List.forall_mem_cons.mpr ⟨vf_13_105_11, fun _ h => absurd h List.not_mem_nil⟩
theorem vf_13_108_12 : VFe 13 108 3 (12, 221) := ⟨by decide, by decide +kernel, by decide, (ts_35 _ (List.mem_of_getElem? (i := 11) rfl)), Or.inl ⟨(ts_35 _ (List.mem_of_getElem? (i := 10) rfl)), (ts_35 _ (List.mem_of_getElem? (i := 12) rfl)), by decide +kernel⟩⟩
theorem vf_13_108 : ∀ e ∈ ([(12, 221)] : List (Nat × Nat)), VFe 13 108 3 e := List.forall_mem_cons.mpr ⟨vf_13_108_12, fun _ h => absurd h List.not_mem_nil⟩
theorem vf_13_109_11 : VFe 13 109 0 (11, 118) := ⟨by decide, by decide +kernel, by decide, (ts_35 _ (List.mem_of_getElem? (i := 16) rfl)), Or.inl ⟨(ts_35 _ (List.mem_of_getElem? (i := 15) rfl)), (ts_35 _ (List.mem_of_getElem? (i := 17) rfl)), by decide +kernel⟩⟩
theorem vf_13_109 : ∀ e ∈ ([(11, 118)] : List (Nat × Nat)), VFe 13 109 0 e := List.forall_mem_cons.mpr ⟨vf_13_109_11, fun _ h => absurd h List.not_mem_nil⟩
theorem vf_13_112_12 : VFe 13 112 0 (12, 222) := ⟨by decide, by decide +kernel, by decide, (ts_35 _ (List.mem_of_getElem? (i := 20) rfl)), Or.inl ⟨(ts_35 _ (List.mem_of_getElem? (i := 19) rfl)), (ts_35 _ (List.mem_of_getElem? (i := 21) rfl)), by decide +kernel⟩⟩
theorem vf_13_112 : ∀ e ∈ ([(12, 222)] : List (Nat × Nat)), VFe 13 112 0 e := List.forall_mem_cons.mpr ⟨vf_13_112_12, fun _ h => absurd h List.not_mem_nil⟩
theorem vf_13_113_11 : VFe 13 113 2 (11, 119) := ⟨by decide, by decide +kernel, by decide, (ts_36 _ (List.mem_of_getElem? (i := 0) rfl)), Or.inl ⟨(ts_35 _ (List.mem_of_getElem? (i := 23) rfl)), (ts_36 _ (List.mem_of_getElem? (i := 1) rfl)), by decide +kernel⟩⟩
theorem vf_13_113 : ∀ e ∈ ([(11, 119)] : List (Nat × Nat)), VFe 13 113 2 e := List.forall_mem_cons.mpr ⟨vf_13_113_11, fun _ h => absurd h List.not_mem_nil⟩
theorem vf_13_116_12 : VFe 13 116 2 (12, 223) := ⟨by decide, by decide +kernel, by decide, (ts_36 _ (List.mem_of_getElem? (i := 5) rfl)), Or.inl ⟨(ts_36 _ (List.mem_of_getElem? (i := 4) rfl)), (ts_36 _ (List.mem_of_getElem? (i := 6) rfl)), by decide +kernel⟩⟩
theorem vf_13_116 : ∀ e ∈ ([(12, 223)] : List (Nat × Nat)), VFe 13 116 2 e := List.forall_mem_cons.mpr ⟨vf_13_116_12, fun _ h => absurd h List.not_mem_nil⟩
theorem vf_13_117_11 : VFe 13 117 1 (11, 120) := ⟨by decide, by decide +kernel, by decide, (ts_36 _ (List.mem_of_getElem? (i := 9) rfl)), Or.inl ⟨(ts_36 _ (List.mem_of_getElem? (i := 8) rfl)), (ts_36 _ (List.mem_of_getElem? (i := 10) rfl)), by decide +kernel⟩⟩
theorem vf_13_117 : ∀ e ∈ ([(11, 120)] : List (Nat × Nat)), VFe 13 117 1 e := List.forall_mem_cons.mpr ⟨vf_13_117_11, fun _ h => absurd h List.not_mem_nil⟩
theorem vf_13_120_12 : VFe 13 120 1 (12, 224) := ⟨by decide, by decide +kernel, by decide, (ts_36 _ (List.mem_of_getElem? (i := 14) rfl)), Or.inl ⟨(ts_36 _ (List.mem_of_getElem? (i := 13) rfl)), (ts_36 _ (List.mem_of_getElem? (i := 15) rfl)), by decide +kernel⟩⟩
theorem vf_13_120 : ∀ e ∈ ([(12, 224)] : List (Nat × Nat)), VFe 13 120 1 e := List.forall_mem_cons.mpr ⟨vf_13_120_12, fun _ h => absurd h List.not_mem_nil⟩
theorem vf_13_121_11 : VFe 13 121 1 (11, 121) := ⟨by decide, by decide +kernel, by decide, (ts_36 _ (List.mem_of_getElem? (i := 18) rfl)), Or.inl ⟨(ts_36 _ (List.mem_of_getElem? (i := 17) rfl)), (ts_36 _ (List.mem_of_getElem? (i := 19) rfl)), by decide +kernel⟩⟩
theorem vf_13_121 : ∀ e ∈ ([(11, 121)] : List (Nat × Nat)), VFe 13 121 1 e := List.forall_mem_cons.mpr ⟨vf_13_121_11, fun _ h => absurd h List.not_mem_nil⟩
theorem vf_13_124_12 : VFe 13 124 1 (12, 225) := ⟨by decide, by decide +kernel, by decide, (ts_36 _ (List.mem_of_getElem? (i := 22) rfl)), Or.inl ⟨(ts_36 _ (List.mem_of_getElem? (i := 21) rfl)), (ts_36 _ (List.mem_of_getElem? (i := 23) rfl)), by decide +kernel⟩⟩
theorem vf_13_124 : ∀ e ∈ ([(12, 225)] : List (Nat × Nat)), VFe 13 124 1 e := List.forall_mem_cons.mpr ⟨vf_13_124_12, fun _ h => absurd h List.not_mem_nil⟩
theorem vf_13_125_11 : VFe 13 125 0 (11, 122) := ⟨by decide, by decide +kernel, by decide, (ts_37 _ (List.mem_of_getElem? (i := 2) rfl)), Or.inl ⟨(ts_37 _ (List.mem_of_getElem? (i := 1) rfl)), (ts_37 _ (List.mem_of_getElem? (i := 3) rfl)), by decide +kernel⟩⟩
theorem vf_13_125 : ∀ e ∈ ([(11, 122)] : List (Nat × Nat)), VFe 13 125 0 e := List.forall_mem_cons.mpr ⟨vf_13_125_11, fun _ h => absurd h List.not_mem_nil⟩
theorem vf_13_128_12 : VFe 13 128 0 (12, 226) := ⟨by decide, by decide +kernel, by decide, (ts_37 _ (List.mem_of_getElem? (i := 7) rfl)), Or.inl ⟨(ts_37 _ (List.mem_of_getElem? (i := 6) rfl)), (ts_37 _ (List.mem_of_getElem? (i := 8) rfl)), by decide +kernel⟩⟩
theorem vf_13_128 : ∀ e ∈ ([(12, 226)] : List (Nat × Nat)), VFe 13 128 0 e := List.forall_mem_cons.mpr ⟨vf_13_128_12, fun _ h => absurd h List.not_mem_nil⟩
theorem vf_13_129_11 : VFe 13 129 0 (11, 123) := ⟨by decide, by decide +kernel, by decide, (ts_37 _ (List.mem_of_getElem? (i := 14) rfl)), Or.inl ⟨(ts_37 _ (List.mem_of_getElem? (i := 13) rfl)), (ts_37 _ (List.mem_of_getElem? (i := 15) rfl)), by decide +kernel⟩⟩
theorem vf_13_129 : ∀ e ∈ ([(11, 123)] : List (Nat × Nat)), VFe 13 129 0 e := List.forall_mem_cons.mpr ⟨vf_13_129_11, fun _ h => absurd h List.not_mem_nil⟩
theorem vf_13_132_12 : VFe 13 132 0 (12, 227) := ⟨by decide, by decide +kernel, by decide, (ts_37 _ (List.mem_of_getElem? (i := 19) rfl)), Or.inl ⟨(ts_37 _ (List.mem_of_getElem? (i := 18) rfl)), (ts_37 _ (List.mem_of_getElem? (i := 20) rfl)), by decide +kernel⟩⟩
theorem vf_13_132 : ∀ e ∈ ([(12, 227)] : List (Nat × Nat)), VFe 13 132 0 e := List.forall_mem_cons.mpr ⟨vf_13_132_12, fun _ h => absurd h List.not_mem_nil⟩
theorem vf_13_133_11 : VFe 13 133 0 (11, 126) := ⟨by decide, by decide +kernel, by decide, (ts_37 _ (List.mem_of_getElem? (i := 23) rfl)), Or.inl ⟨(ts_37 _ (List.mem_of_getElem? (i := 22) rfl)), (ts_38 _ (List.mem_of_getElem? (i := 0) rfl)), by decide +kernel⟩⟩
theorem vf_13_133 : ∀ e ∈ ([(11, 126)] : List (Nat × Nat)), VFe 13 133 0 e := List.forall_mem_cons.mpr ⟨vf_13_133_11, fun _ h => absurd h List.not_mem_nil⟩
theorem vf_13_136_12 : VFe 13 136 0 (12, 162) := ⟨by decide, by decide +kernel, by decide, (ts_38 _ (List.mem_of_getElem? (i := 3) rfl)), Or.inl ⟨(ts_38 _ (List.mem_of_getElem? (i := 2) rfl)), (ts_38 _ (List.mem_of_getElem? (i := 4) rfl)), by decide +kernel⟩⟩
theorem vf_13_136 : ∀ e ∈ ([(12, 162)] : List (Nat × Nat)), VFe 13 136 0 e := List.forall_mem_cons.mpr ⟨vf_13_136_12, fun _ h => absurd h List.not_mem_nil⟩
theorem vf_13_137_11 : VFe 13 137 0 (11, 127) := ⟨by decide, by decide +kernel, by decide, (ts_38 _ (List.mem_of_getElem? (i := 7) rfl)), Or.inl ⟨(ts_38 _ (List.mem_of_getElem? (i := 6) rfl)), (ts_38 _ (List.mem_of_getElem? (i := 8) rfl)), by decide +kernel⟩⟩
theorem vf_13_137 : ∀ e ∈ ([(11, 127)] : List (Nat × Nat)), VFe 13 137 0 e := List.forall_mem_cons.mpr ⟨vf_13_137_11, fun _ h => absurd h List.not_mem_nil⟩
theorem vf_13_140_12 : VFe 13 140 0 (12, 163) := ⟨by decide, by decide +kernel, by decide, (ts_38 _ (List.mem_of_getElem? (i := 11) rfl)), Or.inl ⟨(ts_38 _ (List.mem_of_getElem? (i := 10) rfl)), (ts_38 _ (List.mem_of_getElem? (i := 12) rfl)), by decide +kernel⟩⟩
theorem vf_13_140 : ∀ e ∈ ([(12, 163)] : List (Nat × Nat)), VFe 13 140 0 e := List.forall_mem_cons.mpr ⟨vf_13_140_12, fun _ h => absurd h List.not_mem_nil⟩
theorem vf_13_141_11 : VFe 13 141 1 (11, 128) := ⟨by decide, by decide +kernel, by decide, (ts_38 _ (List.mem_of_getElem? (i := 15) rfl)), Or.inl ⟨(ts_38 _ (List.mem_of_getElem? (i := 14) rfl)), (ts_38 _ (List.mem_of_getElem? (i := 16) rfl)), by decide +kernel⟩⟩
theorem vf_13_141 : ∀ e ∈ ([(11, 128)] : List (Nat × Nat)), VFe 13 141 1 e := List.forall_mem_cons.mpr ⟨vf_13_141_11, fun _ h => absurd h List.not_mem_nil⟩
theorem vf_13_144_12 : VFe 13 144 1 (12, 234) := ⟨by decide, by decide +kernel, by decide, (ts_41 _ (List.mem_of_getElem? (i := 10) rfl)), Or.inl ⟨(ts_41 _ (List.mem_of_getElem? (i := 9) rfl)), (ts_41 _ (List.mem_of_getElem? (i := 11) rfl)), by decide +kernel⟩⟩
theorem vf_13_144 : ∀ e ∈ ([(12, 234)] : List (Nat × Nat)), VFe 13 144 1 e := List.forall_mem_cons.mpr ⟨vf_13_144_12, fun _ h => absurd h List.not_mem_nil⟩
theorem vf_13_145_11 : VFe 13 145 3 (11, 130) := ⟨by decide, by decide +kernel, by decide, (ts_41 _ (List.mem_of_getElem? (i := 15) rfl)), Or.inl ⟨(ts_41 _ (List.mem_of_getElem? (i := 14) rfl)), (ts_41 _ (List.mem_of_getElem? (i := 16) rfl)), by decide +kernel⟩⟩
theorem vf_13_145 : ∀ e ∈ ([(11, 130)] : List (Nat × Nat)), VFe 13 145 3 e := List.forall_mem_cons.mpr ⟨vf_13_145_11, fun _ h => absurd h List.not_mem_nil⟩
theorem vf_13_148_12 : VFe 13 148 3 (12, 235) := ⟨by decide, by decide +kernel, by decide, (ts_47 _ (List.mem_of_getElem? (i := 11) rfl)), Or.inl ⟨(ts_47 _ (List.mem_of_getElem? (i := 10) rfl)), (ts_47 _ (List.mem_of_getElem? (i := 12) rfl)), by decide +kernel⟩⟩
theorem vf_13_148 : ∀ e ∈ ([(12, 235)] : List (Nat × Nat)), VFe 13 148 3 e := List.forall_mem_cons.mpr ⟨vf_13_148_12, fun _ h => absurd h List.not_mem_nil⟩
theorem vf_13_149_11 : VFe 13 149 1 (11, 131) := ⟨by decide, by decide +kernel, by decide, (ts_48 _ (List.mem_of_getElem? (i := 15) rfl)), Or.inl ⟨(ts_48 _ (List.mem_of_getElem? (i := 14) rfl)), (ts_48 _ (List.mem_of_getElem? (i := 16) rfl)), by decide +kernel⟩⟩
theorem vf_13_149 : ∀ e ∈ ([(11, 131)] : List (Nat × Nat)), VFe 13 149 1 e := List.forall_mem_cons.mpr ⟨vf_13_149_11, fun _ h => absurd h List.not_mem_nil⟩
theorem vf_13_152_12 : VFe 13 152 1 (12, 236) := ⟨by decide, by decide +kernel, by decide, (ts_48 _ (List.mem_of_getElem? (i := 19) rfl)), Or.inl ⟨(ts_48 _ (List.mem_of_getElem? (i := 18) rfl)), (ts_48 _ (List.mem_of_getElem? (i := 20) rfl)), by decide +kernel⟩⟩
theorem vf_13_152 : ∀ e ∈ ([(12, 236)] : List (Nat × Nat)), VFe 13 152 1 e := List.forall_mem_cons.mpr ⟨vf_13_152_12, fun _ h => absurd h List.not_mem_nil⟩
theorem vf_13_153_11 : VFe 13 153 2 (11, 132) := ⟨by decide, by decide +kernel, by decide, (ts_48 _ (List.mem_of_getElem? (i := 23) rfl)), Or.inl ⟨(ts_48 _ (List.mem_of_getElem? (i := 22) rfl)), (ts_49 _ (List.mem_of_getElem? (i := 0) rfl)), by decide +kernel⟩⟩
theorem vf_13_153 : ∀ e ∈ ([(11, 132)] : List (Nat × Nat)), VFe 13 153 2 e := List.forall_mem_cons.mpr ⟨vf_13_153_11, fun _ h => absurd h List.not_mem_nil⟩
theorem vf_13_156_12 : VFe 13 156 2 (12, 237) := ⟨by decide, by decide +kernel, by decide, (ts_49 _ (List.mem_of_getElem? (i := 7) rfl)), Or.inl ⟨(ts_49 _ (List.mem_of_getElem? (i := 6) rfl)), (ts_49 _ (List.mem_of_getElem? (i := 8) rfl)), by decide +kernel⟩⟩
theorem vf_13_156 : ∀ e ∈ ([(12, 237)] : List (Nat × Nat)), VFe 13 156 2 e := List.forall_mem_cons.mpr ⟨vf_13_156_12, fun _ h => absurd h List.not_mem_nil⟩
theorem vf_13_157_11 : VFe 13 157 3 (11, 133) := ⟨by decide, by decide +kernel, by decide, (ts_49 _ (List.mem_of_getElem? (i := 11) rfl)), Or.inl ⟨(ts_49 _ (List.mem_of_getElem? (i := 10) rfl)), (ts_49 _ (List.mem_of_getElem? (i := 12) rfl)), by decide +kernel⟩⟩
theorem vf_13_157 : ∀ e ∈ ([(11, 133)] : List (Nat × Nat)), VFe 13 157 3 e := List.forall_mem_cons.mpr ⟨vf_13_157_11, fun _ h => absurd h List.not_mem_nil⟩
theorem vf_13_160_12 : VFe 13 160 3 (12, 238) := ⟨by decide, by decide +kernel, by decide, (ts_49 _ (List.mem_of_getElem? (i := 22) rfl)), Or.inl ⟨(ts_49 _ (List.mem_of_getElem? (i := 21) rfl)), (ts_49 _ (List.mem_of_getElem? (i := 23) rfl)), by decide +kernel⟩⟩
theorem vf_13_160 : ∀ e ∈ ([(12, 238)] : List (Nat × Nat)), VFe 13 160 3 e := List.forall_mem_cons.mpr ⟨vf_13_160_12, fun _ h => absurd h List.not_mem_nil⟩
theorem vf_13_163_11 : VFe 13 163 3 (11, 134) := ⟨by decide, by decide +kernel, by decide, (ts_50 _ (List.mem_of_getElem? (i := 2) rfl)), Or.inl ⟨(ts_50 _ (List.mem_of_getElem? (i := 1) rfl)), (ts_50 _ (List.mem_of_getElem? (i := 3) rfl)), by decide +kernel⟩⟩
theorem vf_13_163 : ∀ e ∈ ([(11, 134)] : List (Nat × Nat)), VFe 13 163 3 e := List.forall_mem_cons.mpr ⟨vf_13_163_11, fun _ h => absurd h List.not_mem_nil⟩
theorem vf_13_167_12 : VFe 13 167 3 (12, 241) := ⟨by decide, by decide +kernel, by decide, (ts_50 _ (List.mem_of_getElem? (i := 18) rfl)), Or.inl ⟨(ts_50 _ (List.mem_of_getElem? (i := 17) rfl)), (ts_50 _ (List.mem_of_getElem? (i := 19) rfl)), by decide +kernel⟩⟩
theorem vf_13_167 : ∀ e ∈ ([(12, 241)] : List (Nat × Nat)), VFe 13 167 3 e := List.forall_mem_cons.mpr ⟨vf_13_167_12, fun _ h => absurd h List.not_mem_nil⟩
theorem vf_13_168_11 : VFe 13 168 2 (11, 135) := ⟨by decide, by decide +kernel, by decide, (ts_51 _ (List.mem_of_getElem? (i := 5) rfl)), Or.inl ⟨(ts_51 _ (List.mem_of_getElem? (i := 4) rfl)), (ts_51 _ (List.mem_of_getElem? (i := 6) rfl)), by decide +kernel⟩⟩
theorem vf_13_168 : ∀ e ∈ ([(11, 135)] : List (Nat × Nat)), VFe 13 168 2 e := List.forall_mem_cons.mpr ⟨vf_13_168_11, fun _ h => absurd h List.not_mem_nil⟩
theorem vf_13_172_12 : VFe 13 172 2 (12, 242) := ⟨by decide, by decide +kernel, by decide, (ts_51 _ (List.mem_of_getElem? (i := 10) rfl)), Or.inl ⟨(ts_51 _ (List.mem_of_getElem? (i := 9) rfl)), (ts_51 _ (List.mem_of_getElem? (i := 11) rfl)), by decide +kernel⟩⟩
theorem vf_13_172 : ∀ e ∈ ([(12, 242)] : List (Nat × Nat)), VFe 13 172 2 e := List.forall_mem_cons.mpr ⟨vf_13_172_12, fun _ h => absurd h List.not_mem_nil⟩
theorem vf_13_173_11 : VFe 13 173 5 (11, 137) := ⟨by decide, by decide +kernel, by decide, (ts_51 _ (List.mem_of_getElem? (i := 15) rfl)), Or.inl ⟨(ts_51 _ (List.mem_of_getElem? (i := 14) rfl)), (ts_51 _ (List.mem_of_getElem? (i := 16) rfl)), by decide +kernel⟩⟩
theorem vf_13_173 : ∀ e ∈ ([(11, 137)] : List (Nat × Nat)), VFe 13 173 5 e := List.forall_mem_cons.mpr ⟨vf_13_173_11, fun _ h => absurd h List.not_mem_nil⟩
theorem vf_13_177_12 : VFe 13 177 5 (12, 243) := ⟨by decide, by decide +kernel, by decide, (ts_51 _ (List.mem_of_getElem? (i := 21) rfl)), Or.inl ⟨(ts_51 _ (List.mem_of_getElem? (i := 20) rfl)), (ts_51 _ (List.mem_of_getElem? (i := 22) rfl)), by decide +kernel⟩⟩
theorem vf_13_177 : ∀ e ∈ ([(12, 243)] : List (Nat × Nat)), VFe 13 177 5 e := List.forall_mem_cons.mpr ⟨vf_13_177_12, fun _ h => absurd h List.not_mem_nil⟩
theorem vf_13_178_11 : VFe 13 178 2 (11, 138) := ⟨by decide, by decide +kernel, by decide, (ts_52 _ (List.mem_of_getElem? (i := 1) rfl)), Or.inl ⟨(ts_52 _ (List.mem_of_getElem? (i := 0) rfl)), (ts_52 _ (List.mem_of_getElem? (i := 2) rfl)), by decide +kernel⟩⟩
theorem vf_13_178 : ∀ e ∈ ([(11, 138)] : List (Nat × Nat)), VFe 13 178 2 e := List.forall_mem_cons.mpr ⟨vf_13_178_11, fun _ h => absurd h List.not_mem_nil⟩
theorem vf_13_181_12 : VFe 13 181 2 (12, 244) := ⟨by decide, by decide +kernel, by decide, (ts_52 _ (List.mem_of_getElem? (i := 17) rfl)), Or.inl ⟨(ts_52 _ (List.mem_of_getElem? (i := 16) rfl)), (ts_52 _ (List.mem_of_getElem? (i := 18) rfl)), by decide +kernel⟩⟩
theorem vf_13_181 : ∀ e ∈ ([(12, 244)] : List (Nat × Nat)), VFe 13 181 2 e := List.forall_mem_cons.mpr ⟨vf_13_181_12, fun _ h => absurd h List.not_mem_nil⟩
theorem vf_13_182_11 : VFe 13 182 1 (11, 140) := ⟨by decide, by decide +kernel, by decide, (ts_52 _ (List.mem_of_getElem? (i := 21) rfl)), Or.inl ⟨(ts_52 _ (List.mem_of_getElem? (i := 20) rfl)), (ts_52 _ (List.mem_of_getElem? (i := 22) rfl)), by decide +kernel⟩⟩
theorem vf_13_182 : ∀ e ∈ ([(11, 140)] : List (Nat × Nat)), VFe 13 182 1 e := List.forall_mem_cons.mpr ⟨vf_13_182_11, fun _ h => absurd h List.not_mem_nil⟩
theorem vf_13_185_12 : VFe 13 185 1 (12, 245) := ⟨by decide, by decide +kernel, by decide, (ts_53 _ (List.mem_of_getElem? (i := 1) rfl)), Or.inl ⟨(ts_53 _ (List.mem_of_getElem? (i := 0) rfl)), (ts_53 _ (List.mem_of_getElem? (i := 2) rfl)), by decide +kernel⟩⟩
theorem vf_13_185 : ∀ e ∈ ([(12, 245)] : List (Nat × Nat)), VFe 13 185 1 e := List.forall_mem_cons.mpr ⟨vf_13_185_12, fun _ h => absurd h List.not_mem_nil⟩
theorem vf_ok {c i n ci y : Nat} (hn : vN c i = some n) (h : vT c i ci = some y) : VFe c i n (ci, y) := by
  unfold vT at h
  have h1 := lookup_mem h
  unfold vL at h1
  unfold vN at hn
  split at h1
  · have h2 := lookup_mem hn
    simp only [List.mem_cons, Prod.mk.injEq, List.not_mem_nil, or_false] at h2
    rcases h2 with ⟨rfl, rfl⟩
    · exact vf_0_7 _ h1
  · have h2 := lookup_mem hn
    simp only [List.mem_cons, Prod.mk.injEq, List.not_mem_nil, or_false] at h2
    rcases h2 with ⟨rfl, rfl⟩
    · exact vf_1_7 _ h1
  · have h2 := lookup_mem hn
    simp only [List.mem_cons, Prod.mk.injEq, List.not_mem_nil, or_false] at h2
    rcases h2 with ⟨rfl, rfl⟩
    · exact vf_2_7 _ h1
  · have h2 := lookup_mem hn
    simp only [List.mem_cons, Prod.mk.injEq, List.not_mem_nil, or_false] at h2
    rcases h2 with ⟨rfl, rfl⟩ | ⟨rfl, rfl⟩ | ⟨rfl, rfl⟩ | ⟨rfl, rfl⟩ | ⟨rfl, rfl⟩ | ⟨rfl, rfl⟩ | ⟨rfl, rfl⟩ | ⟨rfl, rfl⟩ | ⟨rfl, rfl⟩
    · exact vf_3_43 _ h1
    · exact vf_3_47 _ h1
    · exact vf_3_51 _ h1
    · exact vf_3_55 _ h1
    · exact vf_3_58 _ h1
    · exact vf_3_65 _ h1
    · exact vf_3_68 _ h1
    · exact vf_3_81 _ h1
    · exact vf_3_85 _ h1
  · have h2 := lookup_mem hn
    simp only [List.mem_cons, Prod.mk.injEq, List.not_mem_nil, or_false] at h2
    rcases h2 with ⟨rfl, rfl⟩ | ⟨rfl, rfl⟩ | ⟨rfl, rfl⟩ | ⟨rfl, rfl⟩ | ⟨rfl, rfl⟩ | ⟨rfl, rfl⟩ | ⟨rfl, rfl⟩ | ⟨rfl, rfl⟩ | ⟨rfl, rfl⟩ | ⟨rfl, rfl⟩
    · exact vf_4_47 _ h1
    · exact vf_4_51 _ h1
    · exact vf_4_57 _ h1
    · exact vf_4_67 _ h1
    · exact vf_4_81 _ h1
    · exact vf_4_85 _ h1
    · exact vf_4_91 _ h1
    · exact vf_4_101 _ h1
    · exact vf_4_113 _ h1
    · exact vf_4_116 _ h1
  · have h2 := lookup_mem hn
    simp only [List.mem_cons, Prod.mk.injEq, List.not_mem_nil, or_false] at h2
    rcases h2 with ⟨rfl, rfl⟩
    · exact vf_5_7 _ h1
  · have h2 := lookup_mem hn
    simp only [List.mem_cons, Prod.mk.injEq, List.not_mem_nil, or_false] at h2
    rcases h2 with ⟨rfl, rfl⟩
    · exact vf_6_7 _ h1
  · have h2 := lookup_mem hn
    simp only [List.mem_cons, Prod.mk.injEq, List.not_mem_nil, or_false] at h2
    rcases h2 with ⟨rfl, rfl⟩ | ⟨rfl, rfl⟩
    · exact vf_7_7 _ h1
    · exact vf_7_17 _ h1
  · have h2 := lookup_mem hn
    simp only [List.mem_cons, Prod.mk.injEq, List.not_mem_nil, or_false] at h2
    rcases h2 with ⟨rfl, rfl⟩ | ⟨rfl, rfl⟩ | ⟨rfl, rfl⟩ | ⟨rfl, rfl⟩
    · exact vf_8_22 _ h1
    · exact vf_8_26 _ h1
    · exact vf_8_30 _ h1
    · exact vf_8_33 _ h1
  · have h2 := lookup_mem hn
    simp only [List.mem_cons, Prod.mk.injEq, List.not_mem_nil, or_false] at h2
    rcases h2 with ⟨rfl, rfl⟩
    · exact vf_9_32 _ h1
  · have h2 := lookup_mem hn
    simp only [List.mem_cons, Prod.mk.injEq, List.not_mem_nil, or_false] at h2
    rcases h2 with ⟨rfl, rfl⟩ | ⟨rfl, rfl⟩
    · exact vf_10_7 _ h1
    · exact vf_10_17 _ h1
  · have h2 := lookup_mem hn
    simp only [List.mem_cons, Prod.mk.injEq, List.not_mem_nil, or_false] at h2
    rcases h2 with ⟨rfl, rfl⟩ | ⟨rfl, rfl⟩ | ⟨rfl, rfl⟩ | ⟨rfl, rfl⟩ | ⟨rfl, rfl⟩ | ⟨rfl, rfl⟩ | ⟨rfl, rfl⟩ | ⟨rfl, rfl⟩ | ⟨rfl, rfl⟩ | ⟨rfl, rfl⟩ | ⟨rfl, rfl⟩ | ⟨rfl, rfl⟩ | ⟨rfl, rfl⟩ | ⟨rfl, rfl⟩ | ⟨rfl, rfl⟩ | ⟨rfl, rfl⟩ | ⟨rfl, rfl⟩ | ⟨rfl, rfl⟩ | ⟨rfl, rfl⟩ | ⟨rfl, rfl⟩ | ⟨rfl, rfl⟩ | ⟨rfl, rfl⟩ | ⟨rfl, rfl⟩ | ⟨rfl, rfl⟩ | ⟨rfl, rfl⟩ | ⟨rfl, rfl⟩ | ⟨rfl, rfl⟩ | ⟨rfl, rfl⟩ | ⟨rfl, rfl⟩ | ⟨rfl, rfl⟩ | ⟨rfl, rfl⟩ | ⟨rfl, rfl⟩ | ⟨rfl, rfl⟩ | ⟨rfl, rfl⟩ | ⟨rfl, rfl⟩ | ⟨rfl, rfl⟩ | ⟨rfl, rfl⟩ | ⟨rfl, rfl⟩ | ⟨rfl, rfl⟩ | ⟨rfl, rfl⟩ | ⟨rfl, rfl⟩ | ⟨rfl, rfl⟩ | ⟨rfl, rfl⟩ | ⟨rfl, rfl⟩ | ⟨rfl, rfl⟩ | ⟨rfl, rfl⟩ | ⟨rfl, rfl⟩ | ⟨rfl, rfl⟩ | ⟨rfl, rfl⟩ | ⟨rfl, rfl⟩ | ⟨rfl, rfl⟩ | ⟨rfl, rfl⟩ | ⟨rfl, rfl⟩ | ⟨rfl, rfl⟩ | ⟨rfl, rfl⟩ | ⟨rfl, rfl⟩ | ⟨rfl, rfl⟩ | ⟨rfl, rfl⟩ | ⟨rfl, rfl⟩
    · exact vf_11_63 _ h1
    · exact vf_11_67 _ h1
    · exact vf_11_71 _ h1
    · exact vf_11_83 _ h1
    · exact vf_11_87 _ h1
    · exact vf_11_90 _ h1
    · exact vf_11_93 _ h1
    · exact vf_11_97 _ h1
    · exact vf_11_101 _ h1
    · exact vf_11_105 _ h1
    · exact vf_11_109 _ h1
    · exact vf_11_113 _ h1
    · exact vf_11_117 _ h1
    · exact vf_11_124 _ h1
    · exact vf_11_128 _ h1
    · exact vf_11_131 _ h1
    · exact vf_11_135 _ h1
    · exact vf_11_151 _ h1
    · exact vf_11_155 _ h1
    · exact vf_11_159 _ h1
    · exact vf_11_163 _ h1
    · exact vf_11_166 _ h1
    · exact vf_11_169 _ h1
    · exact vf_11_172 _ h1
    · exact vf_11_175 _ h1
    · exact vf_11_178 _ h1
    · exact vf_11_181 _ h1
    · exact vf_11_184 _ h1
    · exact vf_11_190 _ h1
    · exact vf_11_193 _ h1
    · exact vf_11_196 _ h1
    · exact vf_11_208 _ h1
    · exact vf_11_217 _ h1
    · exact vf_11_220 _ h1
    · exact vf_11_223 _ h1
    · exact vf_11_226 _ h1
    · exact vf_11_237 _ h1
    · exact vf_11_240 _ h1
    · exact vf_11_250 _ h1
    · exact vf_11_262 _ h1
    · exact vf_11_265 _ h1
    · exact vf_11_268 _ h1
    · exact vf_11_271 _ h1
    · exact vf_11_280 _ h1
    · exact vf_11_284 _ h1
    · exact vf_11_288 _ h1
    · exact vf_11_295 _ h1
    · exact vf_11_302 _ h1
    · exact vf_11_308 _ h1
    · exact vf_11_323 _ h1
    · exact vf_11_351 _ h1
    · exact vf_11_354 _ h1
    · exact vf_11_357 _ h1
    · exact vf_11_360 _ h1
    · exact vf_11_363 _ h1
    · exact vf_11_367 _ h1
    · exact vf_11_370 _ h1
    · exact vf_11_373 _ h1
    · exact vf_11_380 _ h1
  · have h2 := lookup_mem hn
    simp only [List.mem_cons, Prod.mk.injEq, List.not_mem_nil, or_false] at h2
    rcases h2 with ⟨rfl, rfl⟩ | ⟨rfl, rfl⟩ | ⟨rfl, rfl⟩ | ⟨rfl, rfl⟩ | ⟨rfl, rfl⟩ | ⟨rfl, rfl⟩ | ⟨rfl, rfl⟩ | ⟨rfl, rfl⟩ | ⟨rfl, rfl⟩ | ⟨rfl, rfl⟩ | ⟨rfl, rfl⟩ | ⟨rfl, rfl⟩ | ⟨rfl, rfl⟩ | ⟨rfl, rfl⟩ | ⟨rfl, rfl⟩ | ⟨rfl, rfl⟩ | ⟨rfl, rfl⟩ | ⟨rfl, rfl⟩ | ⟨rfl, rfl⟩ | ⟨rfl, rfl⟩ | ⟨rfl, rfl⟩ | ⟨rfl, rfl⟩ | ⟨rfl, rfl⟩ | ⟨rfl, rfl⟩ | ⟨rfl, rfl⟩ | ⟨rfl, rfl⟩ | ⟨rfl, rfl⟩ | ⟨rfl, rfl⟩ | ⟨rfl, rfl⟩ | ⟨rfl, rfl⟩ | ⟨rfl, rfl⟩ | ⟨rfl, rfl⟩ | ⟨rfl, rfl⟩ | ⟨rfl, rfl⟩ | ⟨rfl, rfl⟩ | ⟨rfl, rfl⟩ | ⟨rfl, rfl⟩ | ⟨rfl, rfl⟩ | ⟨rfl, rfl⟩ | ⟨rfl, rfl⟩ | ⟨rfl, rfl⟩ | ⟨rfl, rfl⟩ | ⟨rfl, rfl⟩ | ⟨rfl, rfl⟩ | ⟨rfl, rfl⟩ | ⟨rfl, rfl⟩ | ⟨rfl, rfl⟩ | ⟨rfl, rfl⟩ | ⟨rfl, rfl⟩ | ⟨rfl, rfl⟩
    · exact vf_12_115 _ h1
    · exact vf_12_119 _ h1
    · exact vf_12_127 _ h1
    · exact vf_12_131 _ h1
    · exact vf_12_134 _ h1
    · exact vf_12_137 _ h1
    · exact vf_12_141 _ h1
    · exact vf_12_145 _ h1
    · exact vf_12_148 _ h1
    · exact vf_12_164 _ h1
    · exact vf_12_171 _ h1
    · exact vf_12_175 _ h1
    · exact vf_12_185 _ h1
    · exact vf_12_188 _ h1
    · exact vf_12_191 _ h1
    · exact vf_12_194 _ h1
    · exact vf_12_197 _ h1
    · exact vf_12_200 _ h1
    · exact vf_12_203 _ h1
    · exact vf_12_209 _ h1
    · exact vf_12_228 _ h1
    · exact vf_12_231 _ h1
    · exact vf_12_237 _ h1
    · exact vf_12_240 _ h1
    · exact vf_12_249 _ h1
    · exact vf_12_261 _ h1
    · exact vf_12_265 _ h1
    · exact vf_12_268 _ h1
    · exact vf_12_272 _ h1
    · exact vf_12_276 _ h1
    · exact vf_12_279 _ h1
    · exact vf_12_281 _ h1
    · exact vf_12_284 _ h1
    · exact vf_12_287 _ h1
    · exact vf_12_290 _ h1
    · exact vf_12_293 _ h1
    · exact vf_12_299 _ h1
    · exact vf_12_302 _ h1
    · exact vf_12_313 _ h1
    · exact vf_12_316 _ h1
    · exact vf_12_319 _ h1
    · exact vf_12_322 _ h1
    · exact vf_12_325 _ h1
    · exact vf_12_328 _ h1
    · exact vf_12_344 _ h1
    · exact vf_12_347 _ h1
    · exact vf_12_353 _ h1
    · exact vf_12_356 _ h1
    · exact vf_12_359 _ h1
    · exact vf_12_365 _ h1
  · have h2 := lookup_mem hn
    simp only [List.mem_cons, Prod.mk.injEq, List.not_mem_nil, or_false] at h2
    rcases h2 with ⟨rfl, rfl⟩ | ⟨rfl, rfl⟩ | ⟨rfl, rfl⟩ | ⟨rfl, rfl⟩ | ⟨rfl, rfl⟩ | ⟨rfl, rfl⟩ | ⟨rfl, rfl⟩ | ⟨rfl, rfl⟩ | ⟨rfl, rfl⟩ | ⟨rfl, rfl⟩ | ⟨rfl, rfl⟩ | ⟨rfl, rfl⟩ | ⟨rfl, rfl⟩ | ⟨rfl, rfl⟩ | ⟨rfl, rfl⟩ | ⟨rfl, rfl⟩ | ⟨rfl, rfl⟩ | ⟨rfl, rfl⟩ | ⟨rfl, rfl⟩ | ⟨rfl, rfl⟩ | ⟨rfl, rfl⟩ | ⟨rfl, rfl⟩ | ⟨rfl, rfl⟩ | ⟨rfl, rfl⟩ | ⟨rfl, rfl⟩ | ⟨rfl, rfl⟩ | ⟨rfl, rfl⟩ | ⟨rfl, rfl⟩ | ⟨rfl, rfl⟩ | ⟨rfl, rfl⟩ | ⟨rfl, rfl⟩ | ⟨rfl, rfl⟩ | ⟨rfl, rfl⟩ | ⟨rfl, rfl⟩ | ⟨rfl, rfl⟩ | ⟨rfl, rfl⟩ | ⟨rfl, rfl⟩ | ⟨rfl, rfl⟩ | ⟨rfl, rfl⟩ | ⟨rfl, rfl⟩ | ⟨rfl, rfl⟩ | ⟨rfl, rfl⟩ | ⟨rfl, rfl⟩ | ⟨rfl, rfl⟩ | ⟨rfl, rfl⟩ | ⟨rfl, rfl⟩ | ⟨rfl, rfl⟩ | ⟨rfl, rfl⟩ | ⟨rfl, rfl⟩ | ⟨rfl, rfl⟩ | ⟨rfl, rfl⟩ | ⟨rfl, rfl⟩ | ⟨rfl, rfl⟩ | ⟨rfl, rfl⟩ | ⟨rfl, rfl⟩ | ⟨rfl, rfl⟩ | ⟨rfl, rfl⟩ | ⟨rfl, rfl⟩ | ⟨rfl, rfl⟩ | ⟨rfl, rfl⟩ | ⟨rfl, rfl⟩ | ⟨rfl, rfl⟩ | ⟨rfl, rfl⟩ | ⟨rfl, rfl⟩ | ⟨rfl, rfl⟩ | ⟨rfl, rfl⟩ | ⟨rfl, rfl⟩ | ⟨rfl, rfl⟩ | ⟨rfl, rfl⟩ | ⟨rfl, rfl⟩ | ⟨rfl, rfl⟩ | ⟨rfl, rfl⟩ | ⟨rfl, rfl⟩ | ⟨rfl, rfl⟩ | ⟨rfl, rfl⟩ | ⟨rfl, rfl⟩ | ⟨rfl, rfl⟩ | ⟨rfl, rfl⟩ | ⟨rfl, rfl⟩ | ⟨rfl, rfl⟩ | ⟨rfl, rfl⟩ | ⟨rfl, rfl⟩
    · exact vf_13_13 _ h1
    · exact vf_13_17 _ h1
    · exact vf_13_18 _ h1
    · exact vf_13_22 _ h1
    · exact vf_13_23 _ h1
    · exact vf_13_27 _ h1
    · exact vf_13_28 _ h1
    · exact vf_13_31 _ h1
    · exact vf_13_32 _ h1
    · exact vf_13_35 _ h1
    · exact vf_13_36 _ h1
    · exact vf_13_39 _ h1
    · exact vf_13_40 _ h1
    · exact vf_13_44 _ h1
    · exact vf_13_45 _ h1
    · exact vf_13_48 _ h1
    · exact vf_13_49 _ h1
    · exact vf_13_52 _ h1
    · exact vf_13_53 _ h1
    · exact vf_13_56 _ h1
    · exact vf_13_57 _ h1
    · exact vf_13_60 _ h1
    · exact vf_13_61 _ h1
    · exact vf_13_64 _ h1
    · exact vf_13_65 _ h1
    · exact vf_13_68 _ h1
    · exact vf_13_69 _ h1
    · exact vf_13_72 _ h1
    · exact vf_13_73 _ h1
    · exact vf_13_76 _ h1
    · exact vf_13_77 _ h1
    · exact vf_13_80 _ h1
    · exact vf_13_81 _ h1
    · exact vf_13_84 _ h1
    · exact vf_13_85 _ h1
    · exact vf_13_88 _ h1
    · exact vf_13_89 _ h1
    · exact vf_13_92 _ h1
    · exact vf_13_93 _ h1
    · exact vf_13_96 _ h1
    · exact vf_13_97 _ h1
    · exact vf_13_100 _ h1
    · exact vf_13_101 _ h1
    · exact vf_13_104 _ h1
    · exact vf_13_105 _ h1
    · exact vf_13_108 _ h1
    · exact vf_13_109 _ h1
    · exact vf_13_112 _ h1
    · exact vf_13_113 _ h1
    · exact vf_13_116 _ h1
    · exact vf_13_117 _ h1
    · exact vf_13_120 _ h1
    · exact vf_13_121 _ h1
    · exact vf_13_124 _ h1
    · exact vf_13_125 _ h1
    · exact vf_13_128 _ h1
    · exact vf_13_129 _ h1
    · exact vf_13_132 _ h1
    · exact vf_13_133 _ h1
    · exact vf_13_136 _ h1
    · exact vf_13_137 _ h1
    · exact vf_13_140 _ h1
    · exact vf_13_141 _ h1
    · exact vf_13_144 _ h1
    · exact vf_13_145 _ h1
    · exact vf_13_148 _ h1
    · exact vf_13_149 _ h1
    · exact vf_13_152 _ h1
    · exact vf_13_153 _ h1
    · exact vf_13_156 _ h1
    · exact vf_13_157 _ h1
    · exact vf_13_160 _ h1
    · exact vf_13_163 _ h1
    · exact vf_13_167 _ h1
    · exact vf_13_168 _ h1
    · exact vf_13_172 _ h1
    · exact vf_13_173 _ h1
    · exact vf_13_177 _ h1
    · exact vf_13_178 _ h1
    · exact vf_13_181 _ h1
    · exact vf_13_182 _ h1
    · exact vf_13_185 _ h1
  · cases h1
