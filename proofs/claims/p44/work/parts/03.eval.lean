/-! tables of the evaluator, by program out of the printed names (wip/p44/gen_tables.py) -/
theorem wl_1 : ∀ w ∈ wsL_law_r1, w ∈ wsL_law := fun _ h => List.mem_append_left _ (List.mem_append_left _ (List.mem_append_left _ (List.mem_append_left _ (List.mem_append_left _ (List.mem_append_left _ (List.mem_append_left _ (List.mem_append_left _ h)))))))
theorem wl_2 : ∀ w ∈ wsL_law_r2, w ∈ wsL_law := fun _ h => List.mem_append_left _ (List.mem_append_left _ (List.mem_append_left _ (List.mem_append_left _ (List.mem_append_left _ (List.mem_append_left _ (List.mem_append_left _ (List.mem_append_right _ (List.mem_append_left _ h))))))))
theorem wl_3 : ∀ w ∈ wsL_law_r3, w ∈ wsL_law := fun _ h => List.mem_append_left _ (List.mem_append_left _ (List.mem_append_left _ (List.mem_append_left _ (List.mem_append_left _ (List.mem_append_left _ (List.mem_append_left _ (List.mem_append_right _ (List.mem_append_right _ (List.mem_append_left _ h)))))))))
theorem wl_4 : ∀ w ∈ wsL_law_r4, w ∈ wsL_law := fun _ h => List.mem_append_left _ (List.mem_append_left _ (List.mem_append_left _ (List.mem_append_left _ (List.mem_append_left _ (List.mem_append_left _ (List.mem_append_left _ (List.mem_append_right _ (List.mem_append_right _ (List.mem_append_right _ (List.mem_append_left _ h))))))))))
theorem wl_5 : ∀ w ∈ wsL_law_r5, w ∈ wsL_law := fun _ h => List.mem_append_left _ (List.mem_append_left _ (List.mem_append_left _ (List.mem_append_left _ (List.mem_append_left _ (List.mem_append_left _ (List.mem_append_left _ (List.mem_append_right _ (List.mem_append_right _ (List.mem_append_right _ (List.mem_append_right _ (List.mem_append_left _ h)))))))))))
theorem wl_6 : ∀ w ∈ wsL_law_r6, w ∈ wsL_law := fun _ h => List.mem_append_left _ (List.mem_append_left _ (List.mem_append_left _ (List.mem_append_left _ (List.mem_append_left _ (List.mem_append_left _ (List.mem_append_left _ (List.mem_append_right _ (List.mem_append_right _ (List.mem_append_right _ (List.mem_append_right _ (List.mem_append_right _ (List.mem_append_left _ h))))))))))))
theorem wl_7 : ∀ w ∈ wsL_law_r7, w ∈ wsL_law := fun _ h => List.mem_append_left _ (List.mem_append_left _ (List.mem_append_left _ (List.mem_append_left _ (List.mem_append_left _ (List.mem_append_left _ (List.mem_append_left _ (List.mem_append_right _ (List.mem_append_right _ (List.mem_append_right _ (List.mem_append_right _ (List.mem_append_right _ (List.mem_append_right _ (List.mem_append_left _ h)))))))))))))
theorem wl_8 : ∀ w ∈ wsL_law_r8, w ∈ wsL_law := fun _ h => List.mem_append_left _ (List.mem_append_left _ (List.mem_append_left _ (List.mem_append_left _ (List.mem_append_left _ (List.mem_append_left _ (List.mem_append_left _ (List.mem_append_right _ (List.mem_append_right _ (List.mem_append_right _ (List.mem_append_right _ (List.mem_append_right _ (List.mem_append_right _ (List.mem_append_right _ (List.mem_append_left _ h))))))))))))))
theorem wl_9 : ∀ w ∈ wsL_law_r9, w ∈ wsL_law := fun _ h => List.mem_append_left _ (List.mem_append_left _ (List.mem_append_left _ (List.mem_append_left _ (List.mem_append_left _ (List.mem_append_left _ (List.mem_append_left _ (List.mem_append_right _ (List.mem_append_right _ (List.mem_append_right _ (List.mem_append_right _ (List.mem_append_right _ (List.mem_append_right _ (List.mem_append_right _ (List.mem_append_right _ (List.mem_append_left _ h)))))))))))))))
theorem wl_10 : ∀ w ∈ wsL_law_r10, w ∈ wsL_law := fun _ h => List.mem_append_left _ (List.mem_append_left _ (List.mem_append_left _ (List.mem_append_left _ (List.mem_append_left _ (List.mem_append_left _ (List.mem_append_left _ (List.mem_append_right _ (List.mem_append_right _ (List.mem_append_right _ (List.mem_append_right _ (List.mem_append_right _ (List.mem_append_right _ (List.mem_append_right _ (List.mem_append_right _ (List.mem_append_right _ (List.mem_append_left _ h))))))))))))))))
theorem wl_11 : ∀ w ∈ wsL_law_r11, w ∈ wsL_law := fun _ h => List.mem_append_left _ (List.mem_append_left _ (List.mem_append_left _ (List.mem_append_left _ (List.mem_append_left _ (List.mem_append_left _ (List.mem_append_left _ (List.mem_append_right _ (List.mem_append_right _ (List.mem_append_right _ (List.mem_append_right _ (List.mem_append_right _ (List.mem_append_right _ (List.mem_append_right _ (List.mem_append_right _ (List.mem_append_right _ (List.mem_append_right _ (List.mem_append_left _ h)))))))))))))))))
theorem wl_12 : ∀ w ∈ wsL_law_r12, w ∈ wsL_law := fun _ h => List.mem_append_left _ (List.mem_append_left _ (List.mem_append_left _ (List.mem_append_left _ (List.mem_append_left _ (List.mem_append_left _ (List.mem_append_left _ (List.mem_append_right _ (List.mem_append_right _ (List.mem_append_right _ (List.mem_append_right _ (List.mem_append_right _ (List.mem_append_right _ (List.mem_append_right _ (List.mem_append_right _ (List.mem_append_right _ (List.mem_append_right _ (List.mem_append_right _ (List.mem_append_left _ h))))))))))))))))))
theorem wl_13 : ∀ w ∈ wsL_law_r13, w ∈ wsL_law := fun _ h => List.mem_append_left _ (List.mem_append_left _ (List.mem_append_left _ (List.mem_append_left _ (List.mem_append_left _ (List.mem_append_left _ (List.mem_append_left _ (List.mem_append_right _ (List.mem_append_right _ (List.mem_append_right _ (List.mem_append_right _ (List.mem_append_right _ (List.mem_append_right _ (List.mem_append_right _ (List.mem_append_right _ (List.mem_append_right _ (List.mem_append_right _ (List.mem_append_right _ (List.mem_append_right _ (List.mem_append_left _ h)))))))))))))))))))
theorem wl_14 : ∀ w ∈ wsL_law_r14, w ∈ wsL_law := fun _ h => List.mem_append_left _ (List.mem_append_left _ (List.mem_append_left _ (List.mem_append_left _ (List.mem_append_left _ (List.mem_append_left _ (List.mem_append_left _ (List.mem_append_right _ (List.mem_append_right _ (List.mem_append_right _ (List.mem_append_right _ (List.mem_append_right _ (List.mem_append_right _ (List.mem_append_right _ (List.mem_append_right _ (List.mem_append_right _ (List.mem_append_right _ (List.mem_append_right _ (List.mem_append_right _ (List.mem_append_right _ (List.mem_append_left _ h))))))))))))))))))))
theorem wl_15 : ∀ w ∈ wsL_law_r15, w ∈ wsL_law := fun _ h => List.mem_append_left _ (List.mem_append_left _ (List.mem_append_left _ (List.mem_append_left _ (List.mem_append_left _ (List.mem_append_left _ (List.mem_append_left _ (List.mem_append_right _ (List.mem_append_right _ (List.mem_append_right _ (List.mem_append_right _ (List.mem_append_right _ (List.mem_append_right _ (List.mem_append_right _ (List.mem_append_right _ (List.mem_append_right _ (List.mem_append_right _ (List.mem_append_right _ (List.mem_append_right _ (List.mem_append_right _ (List.mem_append_right _ (List.mem_append_left _ h)))))))))))))))))))))
theorem wl_16 : ∀ w ∈ wsL_law_r16, w ∈ wsL_law := fun _ h => List.mem_append_left _ (List.mem_append_left _ (List.mem_append_left _ (List.mem_append_left _ (List.mem_append_left _ (List.mem_append_left _ (List.mem_append_left _ (List.mem_append_right _ (List.mem_append_right _ (List.mem_append_right _ (List.mem_append_right _ (List.mem_append_right _ (List.mem_append_right _ (List.mem_append_right _ (List.mem_append_right _ (List.mem_append_right _ (List.mem_append_right _ (List.mem_append_right _ (List.mem_append_right _ (List.mem_append_right _ (List.mem_append_right _ (List.mem_append_right _ (List.mem_append_left _ h))))))))))))))))))))))
theorem wl_17 : ∀ w ∈ wsL_law_r17, w ∈ wsL_law := fun _ h => List.mem_append_left _ (List.mem_append_left _ (List.mem_append_left _ (List.mem_append_left _ (List.mem_append_left _ (List.mem_append_left _ (List.mem_append_left _ (List.mem_append_right _ (List.mem_append_right _ (List.mem_append_right _ (List.mem_append_right _ (List.mem_append_right _ (List.mem_append_right _ (List.mem_append_right _ (List.mem_append_right _ (List.mem_append_right _ (List.mem_append_right _ (List.mem_append_right _ (List.mem_append_right _ (List.mem_append_right _ (List.mem_append_right _ (List.mem_append_right _ (List.mem_append_right _ (List.mem_append_left _ h)))))))))))))))))))))))
theorem wl_18 : ∀ w ∈ wsL_law_r18, w ∈ wsL_law := fun _ h => List.mem_append_left _ (List.mem_append_left _ (List.mem_append_left _ (List.mem_append_left _ (List.mem_append_left _ (List.mem_append_left _ (List.mem_append_left _ (List.mem_append_right _ (List.mem_append_right _ (List.mem_append_right _ (List.mem_append_right _ (List.mem_append_right _ (List.mem_append_right _ (List.mem_append_right _ (List.mem_append_right _ (List.mem_append_right _ (List.mem_append_right _ (List.mem_append_right _ (List.mem_append_right _ (List.mem_append_right _ (List.mem_append_right _ (List.mem_append_right _ (List.mem_append_right _ (List.mem_append_right _ (List.mem_append_left _ h))))))))))))))))))))))))
theorem wl_19 : ∀ w ∈ wsL_law_r19, w ∈ wsL_law := fun _ h => List.mem_append_left _ (List.mem_append_left _ (List.mem_append_left _ (List.mem_append_left _ (List.mem_append_left _ (List.mem_append_left _ (List.mem_append_left _ (List.mem_append_right _ (List.mem_append_right _ (List.mem_append_right _ (List.mem_append_right _ (List.mem_append_right _ (List.mem_append_right _ (List.mem_append_right _ (List.mem_append_right _ (List.mem_append_right _ (List.mem_append_right _ (List.mem_append_right _ (List.mem_append_right _ (List.mem_append_right _ (List.mem_append_right _ (List.mem_append_right _ (List.mem_append_right _ (List.mem_append_right _ (List.mem_append_right _ (List.mem_append_left _ h)))))))))))))))))))))))))
theorem wl_20 : ∀ w ∈ wsL_law_r20, w ∈ wsL_law := fun _ h => List.mem_append_left _ (List.mem_append_left _ (List.mem_append_left _ (List.mem_append_left _ (List.mem_append_left _ (List.mem_append_left _ (List.mem_append_left _ (List.mem_append_right _ (List.mem_append_right _ (List.mem_append_right _ (List.mem_append_right _ (List.mem_append_right _ (List.mem_append_right _ (List.mem_append_right _ (List.mem_append_right _ (List.mem_append_right _ (List.mem_append_right _ (List.mem_append_right _ (List.mem_append_right _ (List.mem_append_right _ (List.mem_append_right _ (List.mem_append_right _ (List.mem_append_right _ (List.mem_append_right _ (List.mem_append_right _ (List.mem_append_right _ (List.mem_append_left _ h))))))))))))))))))))))))))
theorem wl_21 : ∀ w ∈ wsL_law_r21, w ∈ wsL_law := fun _ h => List.mem_append_left _ (List.mem_append_left _ (List.mem_append_left _ (List.mem_append_left _ (List.mem_append_left _ (List.mem_append_left _ (List.mem_append_left _ (List.mem_append_right _ (List.mem_append_right _ (List.mem_append_right _ (List.mem_append_right _ (List.mem_append_right _ (List.mem_append_right _ (List.mem_append_right _ (List.mem_append_right _ (List.mem_append_right _ (List.mem_append_right _ (List.mem_append_right _ (List.mem_append_right _ (List.mem_append_right _ (List.mem_append_right _ (List.mem_append_right _ (List.mem_append_right _ (List.mem_append_right _ (List.mem_append_right _ (List.mem_append_right _ (List.mem_append_right _ (List.mem_append_left _ h)))))))))))))))))))))))))))
theorem wl_22 : ∀ w ∈ wsL_law_r22, w ∈ wsL_law := fun _ h => List.mem_append_left _ (List.mem_append_left _ (List.mem_append_left _ (List.mem_append_left _ (List.mem_append_left _ (List.mem_append_left _ (List.mem_append_left _ (List.mem_append_right _ (List.mem_append_right _ (List.mem_append_right _ (List.mem_append_right _ (List.mem_append_right _ (List.mem_append_right _ (List.mem_append_right _ (List.mem_append_right _ (List.mem_append_right _ (List.mem_append_right _ (List.mem_append_right _ (List.mem_append_right _ (List.mem_append_right _ (List.mem_append_right _ (List.mem_append_right _ (List.mem_append_right _ (List.mem_append_right _ (List.mem_append_right _ (List.mem_append_right _ (List.mem_append_right _ (List.mem_append_right _ (List.mem_append_left _ h))))))))))))))))))))))))))))
theorem wl_23 : ∀ w ∈ wsL_law_r23, w ∈ wsL_law := fun _ h => List.mem_append_left _ (List.mem_append_left _ (List.mem_append_left _ (List.mem_append_left _ (List.mem_append_left _ (List.mem_append_left _ (List.mem_append_left _ (List.mem_append_right _ (List.mem_append_right _ (List.mem_append_right _ (List.mem_append_right _ (List.mem_append_right _ (List.mem_append_right _ (List.mem_append_right _ (List.mem_append_right _ (List.mem_append_right _ (List.mem_append_right _ (List.mem_append_right _ (List.mem_append_right _ (List.mem_append_right _ (List.mem_append_right _ (List.mem_append_right _ (List.mem_append_right _ (List.mem_append_right _ (List.mem_append_right _ (List.mem_append_right _ (List.mem_append_right _ (List.mem_append_right _ (List.mem_append_right _ (List.mem_append_left _ h)))))))))))))))))))))))))))))
theorem wl_24 : ∀ w ∈ wsL_law_r24, w ∈ wsL_law := fun _ h => List.mem_append_left _ (List.mem_append_left _ (List.mem_append_left _ (List.mem_append_left _ (List.mem_append_left _ (List.mem_append_left _ (List.mem_append_left _ (List.mem_append_right _ (List.mem_append_right _ (List.mem_append_right _ (List.mem_append_right _ (List.mem_append_right _ (List.mem_append_right _ (List.mem_append_right _ (List.mem_append_right _ (List.mem_append_right _ (List.mem_append_right _ (List.mem_append_right _ (List.mem_append_right _ (List.mem_append_right _ (List.mem_append_right _ (List.mem_append_right _ (List.mem_append_right _ (List.mem_append_right _ (List.mem_append_right _ (List.mem_append_right _ (List.mem_append_right _ (List.mem_append_right _ (List.mem_append_right _ (List.mem_append_right _ (List.mem_append_left _ h))))))))))))))))))))))))))))))
theorem wl_25 : ∀ w ∈ wsL_law_r25, w ∈ wsL_law := fun _ h => List.mem_append_left _ (List.mem_append_left _ (List.mem_append_left _ (List.mem_append_left _ (List.mem_append_left _ (List.mem_append_left _ (List.mem_append_left _ (List.mem_append_right _ (List.mem_append_right _ (List.mem_append_right _ (List.mem_append_right _ (List.mem_append_right _ (List.mem_append_right _ (List.mem_append_right _ (List.mem_append_right _ (List.mem_append_right _ (List.mem_append_right _ (List.mem_append_right _ (List.mem_append_right _ (List.mem_append_right _ (List.mem_append_right _ (List.mem_append_right _ (List.mem_append_right _ (List.mem_append_right _ (List.mem_append_right _ (List.mem_append_right _ (List.mem_append_right _ (List.mem_append_right _ (List.mem_append_right _ (List.mem_append_right _ (List.mem_append_right _ (List.mem_append_left _ h)))))))))))))))))))))))))))))))
theorem wl_26 : ∀ w ∈ wsL_law_r26, w ∈ wsL_law := fun _ h => List.mem_append_left _ (List.mem_append_left _ (List.mem_append_left _ (List.mem_append_left _ (List.mem_append_left _ (List.mem_append_left _ (List.mem_append_left _ (List.mem_append_right _ (List.mem_append_right _ (List.mem_append_right _ (List.mem_append_right _ (List.mem_append_right _ (List.mem_append_right _ (List.mem_append_right _ (List.mem_append_right _ (List.mem_append_right _ (List.mem_append_right _ (List.mem_append_right _ (List.mem_append_right _ (List.mem_append_right _ (List.mem_append_right _ (List.mem_append_right _ (List.mem_append_right _ (List.mem_append_right _ (List.mem_append_right _ (List.mem_append_right _ (List.mem_append_right _ (List.mem_append_right _ (List.mem_append_right _ (List.mem_append_right _ (List.mem_append_right _ (List.mem_append_right _ (List.mem_append_left _ h))))))))))))))))))))))))))))))))
theorem wl_27 : ∀ w ∈ wsL_law_r27, w ∈ wsL_law := fun _ h => List.mem_append_left _ (List.mem_append_left _ (List.mem_append_left _ (List.mem_append_left _ (List.mem_append_left _ (List.mem_append_left _ (List.mem_append_left _ (List.mem_append_right _ (List.mem_append_right _ (List.mem_append_right _ (List.mem_append_right _ (List.mem_append_right _ (List.mem_append_right _ (List.mem_append_right _ (List.mem_append_right _ (List.mem_append_right _ (List.mem_append_right _ (List.mem_append_right _ (List.mem_append_right _ (List.mem_append_right _ (List.mem_append_right _ (List.mem_append_right _ (List.mem_append_right _ (List.mem_append_right _ (List.mem_append_right _ (List.mem_append_right _ (List.mem_append_right _ (List.mem_append_right _ (List.mem_append_right _ (List.mem_append_right _ (List.mem_append_right _ (List.mem_append_right _ (List.mem_append_right _ (List.mem_append_left _ h)))))))))))))))))))))))))))))))))
theorem wl_28 : ∀ w ∈ wsL_law_r28, w ∈ wsL_law := fun _ h => List.mem_append_left _ (List.mem_append_left _ (List.mem_append_left _ (List.mem_append_left _ (List.mem_append_left _ (List.mem_append_left _ (List.mem_append_left _ (List.mem_append_right _ (List.mem_append_right _ (List.mem_append_right _ (List.mem_append_right _ (List.mem_append_right _ (List.mem_append_right _ (List.mem_append_right _ (List.mem_append_right _ (List.mem_append_right _ (List.mem_append_right _ (List.mem_append_right _ (List.mem_append_right _ (List.mem_append_right _ (List.mem_append_right _ (List.mem_append_right _ (List.mem_append_right _ (List.mem_append_right _ (List.mem_append_right _ (List.mem_append_right _ (List.mem_append_right _ (List.mem_append_right _ (List.mem_append_right _ (List.mem_append_right _ (List.mem_append_right _ (List.mem_append_right _ (List.mem_append_right _ (List.mem_append_right _ (List.mem_append_left _ h))))))))))))))))))))))))))))))))))
theorem wl_29 : ∀ w ∈ wsL_law_r29, w ∈ wsL_law := fun _ h => List.mem_append_left _ (List.mem_append_left _ (List.mem_append_left _ (List.mem_append_left _ (List.mem_append_left _ (List.mem_append_left _ (List.mem_append_left _ (List.mem_append_right _ (List.mem_append_right _ (List.mem_append_right _ (List.mem_append_right _ (List.mem_append_right _ (List.mem_append_right _ (List.mem_append_right _ (List.mem_append_right _ (List.mem_append_right _ (List.mem_append_right _ (List.mem_append_right _ (List.mem_append_right _ (List.mem_append_right _ (List.mem_append_right _ (List.mem_append_right _ (List.mem_append_right _ (List.mem_append_right _ (List.mem_append_right _ (List.mem_append_right _ (List.mem_append_right _ (List.mem_append_right _ (List.mem_append_right _ (List.mem_append_right _ (List.mem_append_right _ (List.mem_append_right _ (List.mem_append_right _ (List.mem_append_right _ (List.mem_append_right _ (List.mem_append_left _ h)))))))))))))))))))))))))))))))))))
theorem wl_30 : ∀ w ∈ wsL_law_r30, w ∈ wsL_law := fun _ h => List.mem_append_left _ (List.mem_append_left _ (List.mem_append_left _ (List.mem_append_left _ (List.mem_append_left _ (List.mem_append_left _ (List.mem_append_left _ (List.mem_append_right _ (List.mem_append_right _ (List.mem_append_right _ (List.mem_append_right _ (List.mem_append_right _ (List.mem_append_right _ (List.mem_append_right _ (List.mem_append_right _ (List.mem_append_right _ (List.mem_append_right _ (List.mem_append_right _ (List.mem_append_right _ (List.mem_append_right _ (List.mem_append_right _ (List.mem_append_right _ (List.mem_append_right _ (List.mem_append_right _ (List.mem_append_right _ (List.mem_append_right _ (List.mem_append_right _ (List.mem_append_right _ (List.mem_append_right _ (List.mem_append_right _ (List.mem_append_right _ (List.mem_append_right _ (List.mem_append_right _ (List.mem_append_right _ (List.mem_append_right _ (List.mem_append_right _ (List.mem_append_left _ h))))))))))))))))))))))))))))))))))))
theorem wl_31 : ∀ w ∈ wsL_law_r31, w ∈ wsL_law := fun _ h => List.mem_append_left _ (List.mem_append_left _ (List.mem_append_left _ (List.mem_append_left _ (List.mem_append_left _ (List.mem_append_left _ (List.mem_append_left _ (List.mem_append_right _ (List.mem_append_right _ (List.mem_append_right _ (List.mem_append_right _ (List.mem_append_right _ (List.mem_append_right _ (List.mem_append_right _ (List.mem_append_right _ (List.mem_append_right _ (List.mem_append_right _ (List.mem_append_right _ (List.mem_append_right _ (List.mem_append_right _ (List.mem_append_right _ (List.mem_append_right _ (List.mem_append_right _ (List.mem_append_right _ (List.mem_append_right _ (List.mem_append_right _ (List.mem_append_right _ (List.mem_append_right _ (List.mem_append_right _ (List.mem_append_right _ (List.mem_append_right _ (List.mem_append_right _ (List.mem_append_right _ (List.mem_append_right _ (List.mem_append_right _ (List.mem_append_right _ (List.mem_append_right _ (List.mem_append_left _ h)))))))))))))))))))))))))))))))))))))
theorem wl_32 : ∀ w ∈ wsL_law_r32, w ∈ wsL_law := fun _ h => List.mem_append_left _ (List.mem_append_left _ (List.mem_append_left _ (List.mem_append_left _ (List.mem_append_left _ (List.mem_append_left _ (List.mem_append_left _ (List.mem_append_right _ (List.mem_append_right _ (List.mem_append_right _ (List.mem_append_right _ (List.mem_append_right _ (List.mem_append_right _ (List.mem_append_right _ (List.mem_append_right _ (List.mem_append_right _ (List.mem_append_right _ (List.mem_append_right _ (List.mem_append_right _ (List.mem_append_right _ (List.mem_append_right _ (List.mem_append_right _ (List.mem_append_right _ (List.mem_append_right _ (List.mem_append_right _ (List.mem_append_right _ (List.mem_append_right _ (List.mem_append_right _ (List.mem_append_right _ (List.mem_append_right _ (List.mem_append_right _ (List.mem_append_right _ (List.mem_append_right _ (List.mem_append_right _ (List.mem_append_right _ (List.mem_append_right _ (List.mem_append_right _ (List.mem_append_right _ (List.mem_append_left _ h))))))))))))))))))))))))))))))))))))))
theorem wl_33 : ∀ w ∈ wsL_law_r33, w ∈ wsL_law := fun _ h => List.mem_append_left _ (List.mem_append_left _ (List.mem_append_left _ (List.mem_append_left _ (List.mem_append_left _ (List.mem_append_left _ (List.mem_append_left _ (List.mem_append_right _ (List.mem_append_right _ (List.mem_append_right _ (List.mem_append_right _ (List.mem_append_right _ (List.mem_append_right _ (List.mem_append_right _ (List.mem_append_right _ (List.mem_append_right _ (List.mem_append_right _ (List.mem_append_right _ (List.mem_append_right _ (List.mem_append_right _ (List.mem_append_right _ (List.mem_append_right _ (List.mem_append_right _ (List.mem_append_right _ (List.mem_append_right _ (List.mem_append_right _ (List.mem_append_right _ (List.mem_append_right _ (List.mem_append_right _ (List.mem_append_right _ (List.mem_append_right _ (List.mem_append_right _ (List.mem_append_right _ (List.mem_append_right _ (List.mem_append_right _ (List.mem_append_right _ (List.mem_append_right _ (List.mem_append_right _ (List.mem_append_right _ (List.mem_append_left _ h)))))))))))))))))))))))))))))))))))))))
theorem wl_34 : ∀ w ∈ wsL_law_r34, w ∈ wsL_law := fun _ h => List.mem_append_left _ (List.mem_append_left _ (List.mem_append_left _ (List.mem_append_left _ (List.mem_append_left _ (List.mem_append_left _ (List.mem_append_left _ (List.mem_append_right _ (List.mem_append_right _ (List.mem_append_right _ (List.mem_append_right _ (List.mem_append_right _ (List.mem_append_right _ (List.mem_append_right _ (List.mem_append_right _ (List.mem_append_right _ (List.mem_append_right _ (List.mem_append_right _ (List.mem_append_right _ (List.mem_append_right _ (List.mem_append_right _ (List.mem_append_right _ (List.mem_append_right _ (List.mem_append_right _ (List.mem_append_right _ (List.mem_append_right _ (List.mem_append_right _ (List.mem_append_right _ (List.mem_append_right _ (List.mem_append_right _ (List.mem_append_right _ (List.mem_append_right _ (List.mem_append_right _ (List.mem_append_right _ (List.mem_append_right _ (List.mem_append_right _ (List.mem_append_right _ (List.mem_append_right _ (List.mem_append_right _ (List.mem_append_right _ (List.mem_append_left _ h))))))))))))))))))))))))))))))))))))))))
theorem wl_35 : ∀ w ∈ wsL_law_r35, w ∈ wsL_law := fun _ h => List.mem_append_left _ (List.mem_append_left _ (List.mem_append_left _ (List.mem_append_left _ (List.mem_append_left _ (List.mem_append_left _ (List.mem_append_left _ (List.mem_append_right _ (List.mem_append_right _ (List.mem_append_right _ (List.mem_append_right _ (List.mem_append_right _ (List.mem_append_right _ (List.mem_append_right _ (List.mem_append_right _ (List.mem_append_right _ (List.mem_append_right _ (List.mem_append_right _ (List.mem_append_right _ (List.mem_append_right _ (List.mem_append_right _ (List.mem_append_right _ (List.mem_append_right _ (List.mem_append_right _ (List.mem_append_right _ (List.mem_append_right _ (List.mem_append_right _ (List.mem_append_right _ (List.mem_append_right _ (List.mem_append_right _ (List.mem_append_right _ (List.mem_append_right _ (List.mem_append_right _ (List.mem_append_right _ (List.mem_append_right _ (List.mem_append_right _ (List.mem_append_right _ (List.mem_append_right _ (List.mem_append_right _ (List.mem_append_right _ (List.mem_append_right _ (List.mem_append_left _ h)))))))))))))))))))))))))))))))))))))))))
theorem wl_36 : ∀ w ∈ wsL_law_r36, w ∈ wsL_law := fun _ h => List.mem_append_left _ (List.mem_append_left _ (List.mem_append_left _ (List.mem_append_left _ (List.mem_append_left _ (List.mem_append_left _ (List.mem_append_left _ (List.mem_append_right _ (List.mem_append_right _ (List.mem_append_right _ (List.mem_append_right _ (List.mem_append_right _ (List.mem_append_right _ (List.mem_append_right _ (List.mem_append_right _ (List.mem_append_right _ (List.mem_append_right _ (List.mem_append_right _ (List.mem_append_right _ (List.mem_append_right _ (List.mem_append_right _ (List.mem_append_right _ (List.mem_append_right _ (List.mem_append_right _ (List.mem_append_right _ (List.mem_append_right _ (List.mem_append_right _ (List.mem_append_right _ (List.mem_append_right _ (List.mem_append_right _ (List.mem_append_right _ (List.mem_append_right _ (List.mem_append_right _ (List.mem_append_right _ (List.mem_append_right _ (List.mem_append_right _ (List.mem_append_right _ (List.mem_append_right _ (List.mem_append_right _ (List.mem_append_right _ (List.mem_append_right _ (List.mem_append_right _ (h))))))))))))))))))))))))))))))))))))))))))
def mTab_0 : List (MethodName × ByteArray × Nat × Option FieldType × Nat) := [(yL_law, cL_law, 19, (some .boolean), 13), (yX11_within, cX11_within, 3, (some .boolean), 11), (yX11_within, cX11_within, 3, (some .boolean), 11), (yX11_within, cX11_within, 3, (some .boolean), 11), (yX11_within, cX11_within, 3, (some .boolean), 11), (yX11_within, cX11_within, 3, (some .boolean), 11), (yX11_within, cX11_within, 3, (some .boolean), 11), (yX3_init, cX3_init, 1, none, 3), (yX3_isTold, cX3_isTold, 1, (some .boolean), 3), (yX3_read, cX3_read, 5, (some .int), 3), (yX3_line, cX3_line, 3, (some .boolean), 3), (yX3_joined, cX3_joined, 7, (some .boolean), 3), (yX3_levelOf, cX3_levelOf, 1, (some .int), 3), (yX3_operand, cX3_operand, 2, (some .boolean), 3), (yX3_number, cX3_number, 3, (some .boolean), 3), (yX3_isDigit, cX3_isDigit, 1, (some .boolean), 3)]
def mTab_1 : List (MethodName × ByteArray × Nat × Option FieldType × Nat) := [(yX3_nameOf, cX3_nameOf, 1, (some .int), 3), (yX3_takes, cX3_takes, 2, (some .boolean), 3), (yX3_add, cX3_add, 3, (some .boolean), 3), (yX3_worked, cX3_worked, 11, (some .int), 3), (yX3_push, cX3_push, 2, none, 3), (yX3_pop, cX3_pop, 1, (some .int), 3), (yX3_joinedBy, cX3_joinedBy, 3, (some .int), 3), (yX4_init, cX4_init, 1, none, 4), (yX4_hasGirl, cX4_hasGirl, 2, (some .boolean), 4), (yX4_hasFrog, cX4_hasFrog, 2, (some .boolean), 4), (yX4_addGirl, cX4_addGirl, 2, (some .int), 4), (yX4_addFrog, cX4_addFrog, 5, (some .int), 4), (yX4_hasNumber, cX4_hasNumber, 3, (some .boolean), 4), (yX4_numberOf, cX4_numberOf, 3, (some .int), 4), (yX4_become, cX4_become, 4, none, 4), (yX4_copy, cX4_copy, 2, none, 4)]
def mTab_2 : List (MethodName × ByteArray × Nat × Option FieldType × Nat) := [(yX4_layBack, cX4_layBack, 2, none, 4), (yX4_far, cX4_far, 2, (some .int), 4), (yX4_nearestTo, cX4_nearestTo, 5, (some .int), 4), (yX4_owing, cX4_owing, 3, (some .int), 4), (yX4_heldByAll, cX4_heldByAll, 3, (some .int), 4), (yX4_lend, cX4_lend, 4, none, 4), (yX4_owesNothing, cX4_owesNothing, 2, none, 4), (yX4_meetCart, cX4_meetCart, 3, none, 4), (yX4_lossOf, cX4_lossOf, 6, (some .int), 4), (yX4_passHourOf, cX4_passHourOf, 6, (some .int), 4), (yX4_nearer, cX4_nearer, 3, (some .int), 4), (yX4_endHour, cX4_endHour, 1, none, 4), (yX4_passHour, cX4_passHour, 4, (some .int), 4), (yX11_within, cX11_within, 3, (some .boolean), 11), (yX11_within, cX11_within, 3, (some .boolean), 11), (yX11_within, cX11_within, 3, (some .boolean), 11)]
def mTab_3 : List (MethodName × ByteArray × Nat × Option FieldType × Nat) := [(yX11_within, cX11_within, 3, (some .boolean), 11), (yX11_within, cX11_within, 3, (some .boolean), 11), (yX11_within, cX11_within, 3, (some .boolean), 11), (yX11_within, cX11_within, 3, (some .boolean), 11), (yX11_within, cX11_within, 3, (some .boolean), 11), (yX11_within, cX11_within, 3, (some .boolean), 11), (yX11_within, cX11_within, 3, (some .boolean), 11), (yX11_within, cX11_within, 3, (some .boolean), 11), (yX11_within, cX11_within, 3, (some .boolean), 11), (yX11_within, cX11_within, 3, (some .boolean), 11), (yX9_init, cX9_init, 1, none, 9), (yX9_isBare, cX9_isBare, 1, (some .boolean), 9), (yX9_isRow, cX9_isRow, 1, (some .boolean), 9), (yX9_isBytes, cX9_isBytes, 1, (some .boolean), 9), (yX9_hold, cX9_hold, 2, none, 9), (yX9_holdRow, cX9_holdRow, 3, none, 9)]
def mTab_4 : List (MethodName × ByteArray × Nat × Option FieldType × Nat) := [(yX9_hasPart, cX9_hasPart, 3, (some .boolean), 9), (yX9_at, cX9_at, 2, (some .long), 9), (yX9_become, cX9_become, 4, none, 9), (yX11_within, cX11_within, 3, (some .boolean), 11), (yX11_within, cX11_within, 3, (some .boolean), 11), (yX11_within, cX11_within, 3, (some .boolean), 11), (yX11_init, cX11_init, 2, none, 11), (yX11_girl, cX11_girl, 2, (some .int), 11), (yX11_frog, cX11_frog, 4, (some .int), 11), (yX11_within, cX11_within, 3, (some .boolean), 11), (yX11_within, cX11_within, 3, (some .boolean), 11), (yX11_mend, cX11_mend, 5, (some .int), 11), (yX11_mayBe, cX11_mayBe, 3, (some .boolean), 11), (yX11_of, cX11_of, 3, (some .int), 11), (yX11_feed, cX11_feed, 2, (some .int), 11), (yX11_law, cX11_law, 3, (some .int), 11)]
def mTab_5 : List (MethodName × ByteArray × Nat × Option FieldType × Nat) := [(yX11_loses, cX11_loses, 2, (some .int), 11), (yX11_later, cX11_later, 5, (some .int), 11), (yX11_thinkOn, cX11_thinkOn, 3, none, 11), (yX11_marsh, cX11_marsh, 3, (some .int), 11), (yX11_backWhen, cX11_backWhen, 4, (some .int), 11), (yX11_loan, cX11_loan, 4, (some .int), 11), (yX11_thinkLoan, cX11_thinkLoan, 4, none, 11), (yX11_givenBack, cX11_givenBack, 4, (some .int), 11), (yX11_hoursTillBack, cX11_hoursTillBack, 3, (some .int), 11), (yX11_best, cX11_best, 8, (some .int), 11), (yX11_dealt, cX11_dealt, 3, (some .int), 11), (yX11_thinkGains, cX11_thinkGains, 4, none, 11), (yX11_thinkMostBack, cX11_thinkMostBack, 5, none, 11), (yX11_backByLending, cX11_backByLending, 5, (some .int), 11), (yX11_frogDealtTo, cX11_frogDealtTo, 5, (some .int), 11), (yX11_firstBestFrog, cX11_firstBestFrog, 5, (some .int), 11)]
def mTab_6 : List (MethodName × ByteArray × Nat × Option FieldType × Nat) := [(yX11_least, cX11_least, 4, (some .int), 11), (yX11_heldBehind, cX11_heldBehind, 4, (some .int), 11), (yX11_bars, cX11_bars, 3, (some .int), 11), (yX11_nextTogether, cX11_nextTogether, 3, (some .int), 11), (yX11_beginningAt, cX11_beginningAt, 6, (some .int), 11), (yX11_stops, cX11_stops, 5, (some .int), 11), (yX11_allHeardFrom, cX11_allHeardFrom, 4, (some .boolean), 11), (yX11_isHeardFrom, cX11_isHeardFrom, 5, (some .boolean), 11), (yX11_judge, cX11_judge, 5, (some .int), 11), (yX11_bookRefusal, cX11_bookRefusal, 1, (some .int), 11), (yX11_firstNotSo, cX11_firstNotSo, 7, (some .int), 11), (yX11_fits, cX11_fits, 6, (some .int), 11), (yX11_keptBy, cX11_keptBy, 5, (some .int), 11), (yX11_whose, cX11_whose, 5, (some .int), 11), (yX11_alike, cX11_alike, 4, (some .int), 11), (yX11_holdAsMuch, cX11_holdAsMuch, 4, (some .boolean), 11)]
def mTab_7 : List (MethodName × ByteArray × Nat × Option FieldType × Nat) := [(yX11_ring, cX11_ring, 6, (some .int), 11), (yX11_byTurns, cX11_byTurns, 7, (some .int), 11), (yX11_lessTwo, cX11_lessTwo, 1, (some .int), 11), (yX11_turn, cX11_turn, 7, (some .int), 11), (yX11_backBy, cX11_backBy, 4, (some .int), 11), (yX11_drawn, cX11_drawn, 10, (some .int), 11), (yX11_hour, cX11_hour, 1, (some .int), 11), (yX11_lends, cX11_lends, 5, (some .int), 11), (yX11_over, cX11_over, 3, (some .int), 11), (yX11_led, cX11_led, 2, (some .int), 11), (yX11_image, cX11_image, 1, (some .int), 11), (yX11_back, cX11_back, 1, (some .int), 11), (yX11_noteChange, cX11_noteChange, 6, none, 11), (yX11_forgetOldestChange, cX11_forgetOldestChange, 2, none, 11), (yX11_undo, cX11_undo, 2, (some .int), 11), (yX11_within, cX11_within, 3, (some .boolean), 11)]
def mTab_8 : List (MethodName × ByteArray × Nat × Option FieldType × Nat) := [(yX11_within, cX11_within, 3, (some .boolean), 11), (yX11_within, cX11_within, 3, (some .boolean), 11), (yX11_within, cX11_within, 3, (some .boolean), 11), (yX11_within, cX11_within, 3, (some .boolean), 11), (yX11_keep, cX11_keep, 3, (some .int), 11), (yX11_row, cX11_row, 4, (some .int), 11), (yX11_put, cX11_put, 6, (some .int), 11), (yX11_within, cX11_within, 3, (some .boolean), 11), (yX11_elementRefusal, cX11_elementRefusal, 3, (some .int), 11), (yX11_within, cX11_within, 3, (some .boolean), 11), (yX11_within, cX11_within, 3, (some .boolean), 11), (yX11_within, cX11_within, 3, (some .boolean), 11), (yX11_count, cX11_count, 2, (some .int), 11), (yX11_within, cX11_within, 3, (some .boolean), 11), (yX11_isShelf, cX11_isShelf, 1, (some .boolean), 11), (yX11_isPair, cX11_isPair, 2, (some .boolean), 11)]
def mTab_9 : List (MethodName × ByteArray × Nat × Option FieldType × Nat) := [(yX11_within, cX11_within, 3, (some .boolean), 11), (yX11_within, cX11_within, 3, (some .boolean), 11), (yX11_within, cX11_within, 3, (some .boolean), 11), (yJ5_init_d00df, cJ5_init_d00df, 2, none, 14), (yJ5_length_8abf5, cJ5_length_8abf5, 1, (some .int), 14), (yJ5_ensureCapacityInternal_d00df, cJ5_ensureCapacityInternal_d00df, 3, none, 14), (yJ5_newCapacity_0f7a4, cJ5_newCapacity_0f7a4, 6, (some .int), 14), (yJ5_append_cf1ce, cJ5_append_cf1ce, 3, (some (.object "java/lang/AbstractStringBuilder")), 14), (yJ5_append_3fe6f, cJ5_append_3fe6f, 2, (some (.object "java/lang/AbstractStringBuilder")), 14), (yJ5_append_c97b9, cJ5_append_c97b9, 4, (some (.object "java/lang/AbstractStringBuilder")), 14), (yJ5_getValue_6d5f1, cJ5_getValue_6d5f1, 1, (some (.array .byte)), 14), (yJ5_isLatin1_aae02, cJ5_isLatin1_aae02, 1, (some .boolean), 14), (yJ5_inflateIfNeededFor_a7421, cJ5_inflateIfNeededFor_a7421, 2, none, 14), (yJ5_putStringAt_47b60, cJ5_putStringAt_47b60, 3, none, 14), (yJ6_getChars_ba4f3, cJ6_getChars_ba4f3, 7, (some .int), 16), (yJ6_stringSize_0f7a4, cJ6_stringSize_0f7a4, 4, (some .int), 16)]
def mTab_10 : List (MethodName × ByteArray × Nat × Option FieldType × Nat) := [(yJ0_init_81219, cJ0_init_81219, 2, none, 1), (yJ0_length_8abf5, cJ0_length_8abf5, 1, (some .int), 1), (yJ0_charAt_5068e, cJ0_charAt_5068e, 2, (some .char), 1), (yJ0_getBytes_840e7, cJ0_getBytes_840e7, 4, none, 1), (yJ0_init_db425, cJ0_init_db425, 5, none, 1), (yJ0_coder_7d493, cJ0_coder_7d493, 1, (some .byte), 1), (yJ0_isLatin1_aae02, cJ0_isLatin1_aae02, 1, (some .boolean), 1), (yJ0_checkIndex_df160, cJ0_checkIndex_df160, 2, none, 1), (yJ4_init_da8c8, cJ4_init_da8c8, 1, none, 0), (yJ4_append_15ec4, cJ4_append_15ec4, 2, (some (.object "java/lang/StringBuilder")), 0), (yJ4_append_cf468, cJ4_append_cf468, 2, (some (.object "java/lang/StringBuilder")), 0), (yJ4_append_bf812, cJ4_append_bf812, 2, (some (.object "java/lang/StringBuilder")), 0), (yJ4_toString_0e30d, cJ4_toString_0e30d, 1, (some (.object "java/lang/String")), 0), (yJ4_length_8abf5, cJ4_length_8abf5, 1, (some .int), 0), (yJ1_charAt_3b067, cJ1_charAt_3b067, 2, (some .char), 15), (yJ1_canEncode_fc78d, cJ1_canEncode_fc78d, 1, (some .boolean), 15)]
def mTab_11 : List (MethodName × ByteArray × Nat × Option FieldType × Nat) := [(yJ7_copyOf_9075b, cJ7_copyOf_9075b, 3, (some (.array .byte)), 17), (yJ7_checkLength_df160, cJ7_checkLength_df160, 2, none, 17), (yJ7_copyOfRange_39247, cJ7_copyOfRange_39247, 3, (some (.array .byte)), 17), (yJ7_copyOfRangeByte_39247, cJ7_copyOfRangeByte_39247, 5, (some (.array .byte)), 17), (yJ8_newLength_cabcc, cJ8_newLength_cabcc, 4, (some .int), 18), (yJ3_checkIndex_8e157, cJ3_checkIndex_8e157, 3, (some .int), 19), (yL_at, cL_at, 2, (some .int), 13), (yL_some, cL_some, 3, (some .int), 13), (yL_one, cL_one, 2, (some (.object "java/lang/String")), 13), (yL_says, cL_says, 5, (some (.object "java/lang/String")), 13), (yL_text, cL_text, 6, (some (.object "java/lang/String")), 13), (yL_world, cL_world, 11, none, 13), (yL_told, cL_told, 7, (some .long), 13), (yL_rest, cL_rest, 15, (some .boolean), 13), (yL_far, cL_far, 2, (some .int), 13), (yX11_within, cX11_within, 3, (some .boolean), 11)]
def mTab_12 : List (MethodName × ByteArray × Nat × Option FieldType × Nat) := [(yX11_within, cX11_within, 3, (some .boolean), 11), (yX11_within, cX11_within, 3, (some .boolean), 11), (yX11_within, cX11_within, 3, (some .boolean), 11), (yX11_within, cX11_within, 3, (some .boolean), 11), (yX11_within, cX11_within, 3, (some .boolean), 11), (yX11_within, cX11_within, 3, (some .boolean), 11), (yX11_within, cX11_within, 3, (some .boolean), 11), (yX11_within, cX11_within, 3, (some .boolean), 11), (yX11_within, cX11_within, 3, (some .boolean), 11), (yX11_within, cX11_within, 3, (some .boolean), 11), (yX11_within, cX11_within, 3, (some .boolean), 11), (yX11_within, cX11_within, 3, (some .boolean), 11), (yX11_within, cX11_within, 3, (some .boolean), 11), (yX11_within, cX11_within, 3, (some .boolean), 11), (yX11_within, cX11_within, 3, (some .boolean), 11), (yX11_within, cX11_within, 3, (some .boolean), 11)]
def mTab_13 : List (MethodName × ByteArray × Nat × Option FieldType × Nat) := [(yX11_within, cX11_within, 3, (some .boolean), 11), (yX11_within, cX11_within, 3, (some .boolean), 11), (yX11_within, cX11_within, 3, (some .boolean), 11), (yX11_within, cX11_within, 3, (some .boolean), 11), (yX11_within, cX11_within, 3, (some .boolean), 11), (yX11_within, cX11_within, 3, (some .boolean), 11), (yX11_within, cX11_within, 3, (some .boolean), 11), (yX11_within, cX11_within, 3, (some .boolean), 11), (yX11_within, cX11_within, 3, (some .boolean), 11), (yX11_within, cX11_within, 3, (some .boolean), 11), (yX11_within, cX11_within, 3, (some .boolean), 11), (yX11_within, cX11_within, 3, (some .boolean), 11), (yX11_within, cX11_within, 3, (some .boolean), 11), (yX11_within, cX11_within, 3, (some .boolean), 11), (yX11_within, cX11_within, 3, (some .boolean), 11), (yX11_within, cX11_within, 3, (some .boolean), 11)]
def mTab_14 : List (MethodName × ByteArray × Nat × Option FieldType × Nat) := [(yX11_within, cX11_within, 3, (some .boolean), 11), (yX11_within, cX11_within, 3, (some .boolean), 11), (yX11_within, cX11_within, 3, (some .boolean), 11), (yX11_within, cX11_within, 3, (some .boolean), 11), (yX11_within, cX11_within, 3, (some .boolean), 11), (yX11_within, cX11_within, 3, (some .boolean), 11), (yX11_within, cX11_within, 3, (some .boolean), 11), (yX11_within, cX11_within, 3, (some .boolean), 11), (yX11_within, cX11_within, 3, (some .boolean), 11), (yX11_within, cX11_within, 3, (some .boolean), 11), (yX11_within, cX11_within, 3, (some .boolean), 11), (yX11_within, cX11_within, 3, (some .boolean), 11), (yX11_within, cX11_within, 3, (some .boolean), 11), (yX11_within, cX11_within, 3, (some .boolean), 11), (yX11_within, cX11_within, 3, (some .boolean), 11), (yX11_within, cX11_within, 3, (some .boolean), 11)]
def mTab_15 : List (MethodName × ByteArray × Nat × Option FieldType × Nat) := [(yX11_within, cX11_within, 3, (some .boolean), 11), (yX11_within, cX11_within, 3, (some .boolean), 11), (yX11_within, cX11_within, 3, (some .boolean), 11), (yX11_within, cX11_within, 3, (some .boolean), 11), (yX11_within, cX11_within, 3, (some .boolean), 11), (yX11_within, cX11_within, 3, (some .boolean), 11), (yJ6_compare_7cf53, cJ6_compare_7cf53, 2, (some .int), 16), (yJ6_bitCount_0f7a4, cJ6_bitCount_0f7a4, 1, (some .int), 16), (yJ7_fill_d0a16, cJ7_fill_d0a16, 5, none, 17), (yJ7_fill_53178, cJ7_fill_53178, 4, none, 17)]
def mTabs : List (List (MethodName × ByteArray × Nat × Option FieldType × Nat)) := [mTab_0, mTab_1, mTab_2, mTab_3, mTab_4, mTab_5, mTab_6, mTab_7, mTab_8, mTab_9, mTab_10, mTab_11, mTab_12, mTab_13, mTab_14, mTab_15]
def mRow (y : Nat) : MethodName × ByteArray × Nat × Option FieldType × Nat := (mTabs.getD (y / 16) []).getD (y % 16) (yL_law, cL_law, 19, none, 13)
def mY (y : Nat) : MethodName := (mRow y).1
def mC (y : Nat) : ByteArray := (mRow y).2.1
def mL (y : Nat) : Nat := (mRow y).2.2.1
def mT (y : Nat) : Option FieldType := (mRow y).2.2.2.1
def mCl (y : Nat) : Nat := (mRow y).2.2.2.2
def cStr (c : Nat) : String := [RJ4, RJ0, RJ4, RX3, RX4, RJ4, RJ4, RJ4, RJ4, RX9, RJ4, RX11, RJ4, RL, RJ5, RJ1, RJ6, RJ7, RJ8, RJ3].getD c RL
def nMeth : Nat := 250
theorem mC_0 : mC 0 = cL_law := rfl
theorem mC_7 : mC 7 = cX3_init := rfl
theorem mC_8 : mC 8 = cX3_isTold := rfl
theorem mC_9 : mC 9 = cX3_read := rfl
theorem mC_10 : mC 10 = cX3_line := rfl
theorem mC_11 : mC 11 = cX3_joined := rfl
theorem mC_12 : mC 12 = cX3_levelOf := rfl
theorem mC_13 : mC 13 = cX3_operand := rfl
theorem mC_14 : mC 14 = cX3_number := rfl
theorem mC_15 : mC 15 = cX3_isDigit := rfl
theorem mC_16 : mC 16 = cX3_nameOf := rfl
theorem mC_17 : mC 17 = cX3_takes := rfl
theorem mC_18 : mC 18 = cX3_add := rfl
theorem mC_19 : mC 19 = cX3_worked := rfl
theorem mC_20 : mC 20 = cX3_push := rfl
theorem mC_21 : mC 21 = cX3_pop := rfl
theorem mC_22 : mC 22 = cX3_joinedBy := rfl
theorem mC_23 : mC 23 = cX4_init := rfl
theorem mC_24 : mC 24 = cX4_hasGirl := rfl
theorem mC_25 : mC 25 = cX4_hasFrog := rfl
theorem mC_26 : mC 26 = cX4_addGirl := rfl
theorem mC_27 : mC 27 = cX4_addFrog := rfl
theorem mC_28 : mC 28 = cX4_hasNumber := rfl
theorem mC_29 : mC 29 = cX4_numberOf := rfl
theorem mC_30 : mC 30 = cX4_become := rfl
theorem mC_31 : mC 31 = cX4_copy := rfl
theorem mC_32 : mC 32 = cX4_layBack := rfl
theorem mC_33 : mC 33 = cX4_far := rfl
theorem mC_34 : mC 34 = cX4_nearestTo := rfl
theorem mC_35 : mC 35 = cX4_owing := rfl
theorem mC_36 : mC 36 = cX4_heldByAll := rfl
theorem mC_37 : mC 37 = cX4_lend := rfl
theorem mC_38 : mC 38 = cX4_owesNothing := rfl
theorem mC_39 : mC 39 = cX4_meetCart := rfl
theorem mC_40 : mC 40 = cX4_lossOf := rfl
theorem mC_41 : mC 41 = cX4_passHourOf := rfl
theorem mC_42 : mC 42 = cX4_nearer := rfl
theorem mC_43 : mC 43 = cX4_endHour := rfl
theorem mC_44 : mC 44 = cX4_passHour := rfl
theorem mC_58 : mC 58 = cX9_init := rfl
theorem mC_59 : mC 59 = cX9_isBare := rfl
theorem mC_60 : mC 60 = cX9_isRow := rfl
theorem mC_61 : mC 61 = cX9_isBytes := rfl
theorem mC_62 : mC 62 = cX9_hold := rfl
theorem mC_63 : mC 63 = cX9_holdRow := rfl
theorem mC_64 : mC 64 = cX9_hasPart := rfl
theorem mC_65 : mC 65 = cX9_at := rfl
theorem mC_66 : mC 66 = cX9_become := rfl
theorem mC_70 : mC 70 = cX11_init := rfl
theorem mC_71 : mC 71 = cX11_girl := rfl
theorem mC_72 : mC 72 = cX11_frog := rfl
theorem mC_75 : mC 75 = cX11_mend := rfl
theorem mC_76 : mC 76 = cX11_mayBe := rfl
theorem mC_77 : mC 77 = cX11_of := rfl
theorem mC_78 : mC 78 = cX11_feed := rfl
theorem mC_79 : mC 79 = cX11_law := rfl
theorem mC_80 : mC 80 = cX11_loses := rfl
theorem mC_81 : mC 81 = cX11_later := rfl
theorem mC_82 : mC 82 = cX11_thinkOn := rfl
theorem mC_83 : mC 83 = cX11_marsh := rfl
theorem mC_84 : mC 84 = cX11_backWhen := rfl
theorem mC_85 : mC 85 = cX11_loan := rfl
theorem mC_86 : mC 86 = cX11_thinkLoan := rfl
theorem mC_87 : mC 87 = cX11_givenBack := rfl
theorem mC_88 : mC 88 = cX11_hoursTillBack := rfl
theorem mC_89 : mC 89 = cX11_best := rfl
theorem mC_90 : mC 90 = cX11_dealt := rfl
theorem mC_91 : mC 91 = cX11_thinkGains := rfl
theorem mC_92 : mC 92 = cX11_thinkMostBack := rfl
theorem mC_93 : mC 93 = cX11_backByLending := rfl
theorem mC_94 : mC 94 = cX11_frogDealtTo := rfl
theorem mC_95 : mC 95 = cX11_firstBestFrog := rfl
theorem mC_96 : mC 96 = cX11_least := rfl
theorem mC_97 : mC 97 = cX11_heldBehind := rfl
theorem mC_98 : mC 98 = cX11_bars := rfl
theorem mC_99 : mC 99 = cX11_nextTogether := rfl
theorem mC_100 : mC 100 = cX11_beginningAt := rfl
theorem mC_101 : mC 101 = cX11_stops := rfl
theorem mC_102 : mC 102 = cX11_allHeardFrom := rfl
theorem mC_103 : mC 103 = cX11_isHeardFrom := rfl
theorem mC_104 : mC 104 = cX11_judge := rfl
theorem mC_105 : mC 105 = cX11_bookRefusal := rfl
theorem mC_106 : mC 106 = cX11_firstNotSo := rfl
theorem mC_107 : mC 107 = cX11_fits := rfl
theorem mC_108 : mC 108 = cX11_keptBy := rfl
theorem mC_109 : mC 109 = cX11_whose := rfl
theorem mC_110 : mC 110 = cX11_alike := rfl
theorem mC_111 : mC 111 = cX11_holdAsMuch := rfl
theorem mC_112 : mC 112 = cX11_ring := rfl
theorem mC_113 : mC 113 = cX11_byTurns := rfl
theorem mC_114 : mC 114 = cX11_lessTwo := rfl
theorem mC_115 : mC 115 = cX11_turn := rfl
theorem mC_116 : mC 116 = cX11_backBy := rfl
theorem mC_117 : mC 117 = cX11_drawn := rfl
theorem mC_118 : mC 118 = cX11_hour := rfl
theorem mC_119 : mC 119 = cX11_lends := rfl
theorem mC_120 : mC 120 = cX11_over := rfl
theorem mC_121 : mC 121 = cX11_led := rfl
theorem mC_122 : mC 122 = cX11_image := rfl
theorem mC_123 : mC 123 = cX11_back := rfl
theorem mC_124 : mC 124 = cX11_noteChange := rfl
theorem mC_125 : mC 125 = cX11_forgetOldestChange := rfl
theorem mC_126 : mC 126 = cX11_undo := rfl
theorem mC_132 : mC 132 = cX11_keep := rfl
theorem mC_133 : mC 133 = cX11_row := rfl
theorem mC_134 : mC 134 = cX11_put := rfl
theorem mC_136 : mC 136 = cX11_elementRefusal := rfl
theorem mC_140 : mC 140 = cX11_count := rfl
theorem mC_141 : mC 141 = cX11_within := rfl
theorem mC_142 : mC 142 = cX11_isShelf := rfl
theorem mC_143 : mC 143 = cX11_isPair := rfl
theorem mC_147 : mC 147 = cJ5_init_d00df := rfl
theorem mC_148 : mC 148 = cJ5_length_8abf5 := rfl
theorem mC_149 : mC 149 = cJ5_ensureCapacityInternal_d00df := rfl
theorem mC_150 : mC 150 = cJ5_newCapacity_0f7a4 := rfl
theorem mC_151 : mC 151 = cJ5_append_cf1ce := rfl
theorem mC_152 : mC 152 = cJ5_append_3fe6f := rfl
theorem mC_153 : mC 153 = cJ5_append_c97b9 := rfl
theorem mC_154 : mC 154 = cJ5_getValue_6d5f1 := rfl
theorem mC_155 : mC 155 = cJ5_isLatin1_aae02 := rfl
theorem mC_156 : mC 156 = cJ5_inflateIfNeededFor_a7421 := rfl
theorem mC_157 : mC 157 = cJ5_putStringAt_47b60 := rfl
theorem mC_158 : mC 158 = cJ6_getChars_ba4f3 := rfl
theorem mC_159 : mC 159 = cJ6_stringSize_0f7a4 := rfl
theorem mC_160 : mC 160 = cJ0_init_81219 := rfl
theorem mC_161 : mC 161 = cJ0_length_8abf5 := rfl
theorem mC_162 : mC 162 = cJ0_charAt_5068e := rfl
theorem mC_163 : mC 163 = cJ0_getBytes_840e7 := rfl
theorem mC_164 : mC 164 = cJ0_init_db425 := rfl
theorem mC_165 : mC 165 = cJ0_coder_7d493 := rfl
theorem mC_166 : mC 166 = cJ0_isLatin1_aae02 := rfl
theorem mC_167 : mC 167 = cJ0_checkIndex_df160 := rfl
theorem mC_168 : mC 168 = cJ4_init_da8c8 := rfl
theorem mC_169 : mC 169 = cJ4_append_15ec4 := rfl
theorem mC_170 : mC 170 = cJ4_append_cf468 := rfl
theorem mC_171 : mC 171 = cJ4_append_bf812 := rfl
theorem mC_172 : mC 172 = cJ4_toString_0e30d := rfl
theorem mC_173 : mC 173 = cJ4_length_8abf5 := rfl
theorem mC_174 : mC 174 = cJ1_charAt_3b067 := rfl
theorem mC_175 : mC 175 = cJ1_canEncode_fc78d := rfl
theorem mC_176 : mC 176 = cJ7_copyOf_9075b := rfl
theorem mC_177 : mC 177 = cJ7_checkLength_df160 := rfl
theorem mC_178 : mC 178 = cJ7_copyOfRange_39247 := rfl
theorem mC_179 : mC 179 = cJ7_copyOfRangeByte_39247 := rfl
theorem mC_180 : mC 180 = cJ8_newLength_cabcc := rfl
theorem mC_181 : mC 181 = cJ3_checkIndex_8e157 := rfl
theorem mC_182 : mC 182 = cL_at := rfl
theorem mC_183 : mC 183 = cL_some := rfl
theorem mC_184 : mC 184 = cL_one := rfl
theorem mC_185 : mC 185 = cL_says := rfl
theorem mC_186 : mC 186 = cL_text := rfl
theorem mC_187 : mC 187 = cL_world := rfl
theorem mC_188 : mC 188 = cL_told := rfl
theorem mC_189 : mC 189 = cL_rest := rfl
theorem mC_190 : mC 190 = cL_far := rfl
theorem mC_246 : mC 246 = cJ6_compare_7cf53 := rfl
theorem mC_247 : mC 247 = cJ6_bitCount_0f7a4 := rfl
theorem mC_248 : mC 248 = cJ7_fill_d0a16 := rfl
theorem mC_249 : mC 249 = cJ7_fill_53178 := rfl
def fT_1 : List (Nat × Nat × Nat) := [(9, 1, 0), (15, 1, 1), (1048, 0, 2)]
def fT_3 : List (Nat × Nat × Nat) := [(11, 3, 0), (15, 3, 1), (18, 3, 2), (21, 3, 3), (24, 3, 4), (28, 3, 6), (37, 3, 7), (40, 3, 8), (78, 3, 5)]
def fT_4 : List (Nat × Nat × Nat) := [(9, 4, 0), (15, 4, 1), (18, 4, 2), (21, 4, 3), (24, 4, 4), (27, 4, 5), (30, 4, 6), (33, 4, 9), (37, 4, 7), (44, 4, 8), (54, 4, 10)]
def fT_9 : List (Nat × Nat × Nat) := [(9, 9, 0), (15, 9, 2), (19, 9, 1), (23, 9, 3)]
def fT_11 : List (Nat × Nat × Nat) := [(10, 11, 0), (16, 11, 1), (19, 11, 2), (25, 11, 4), (29, 11, 5), (32, 11, 6), (38, 11, 8), (41, 11, 11), (44, 11, 12), (49, 11, 13), (53, 11, 15), (58, 11, 16), (120, 11, 7), (139, 4, 5), (142, 4, 2), (145, 4, 4), (148, 4, 1), (187, 4, 8), (199, 4, 7), (234, 4, 3), (254, 9, 3), (274, 4, 9), (292, 4, 6), (298, 11, 3), (305, 11, 10), (311, 11, 9), (320, 11, 14)]
def fT_14 : List (Nat × Nat × Nat) := [(15, 0, 0), (22, 0, 1), (79, 0, 3)]
def fTab (c : Nat) : List (Nat × Nat × Nat) := match c with
  | 1 => fT_1
  | 3 => fT_3
  | 4 => fT_4
  | 9 => fT_9
  | 11 => fT_11
  | 14 => fT_14
  | _ => []
def fld (c i : Nat) : Option (Nat × Nat) := (fTab c).lookup i
def fRef (C0 k : Nat) : Bool := match C0 with
  | 0 => [0].contains k
  | 1 => [0].contains k
  | 2 => [0].contains k
  | 3 => [0, 1, 2, 3, 6].contains k
  | 4 => [0, 1, 2, 3, 4, 5, 6].contains k
  | 5 => [0].contains k
  | 6 => [0].contains k
  | 7 => [0].contains k
  | 8 => [0].contains k
  | 9 => [0, 1].contains k
  | 10 => [0].contains k
  | 11 => [0, 1, 2, 4, 5, 6, 8, 11, 12, 13, 15, 16].contains k
  | 12 => [0].contains k
  | _ => false
def fBool (C0 k : Nat) : Bool := match C0 with
  | 0 => [2].contains k
  | 1 => [3].contains k
  | 2 => [2].contains k
  | 3 => [].contains k
  | 4 => [].contains k
  | 5 => [2].contains k
  | 6 => [2].contains k
  | 7 => [2].contains k
  | 8 => [2].contains k
  | 9 => [].contains k
  | 10 => [2].contains k
  | 11 => [3].contains k
  | 12 => [2].contains k
  | _ => false
def fByte (C0 k : Nat) : Bool := match C0 with
  | 0 => [1].contains k
  | 1 => [1].contains k
  | 2 => [1].contains k
  | 3 => [].contains k
  | 4 => [].contains k
  | 5 => [1].contains k
  | 6 => [1].contains k
  | 7 => [1].contains k
  | 8 => [1].contains k
  | 9 => [].contains k
  | 10 => [1].contains k
  | 11 => [].contains k
  | 12 => [1].contains k
  | _ => false
def fFin (C0 k : Nat) : Bool := match C0 with
  | 0 => [].contains k
  | 1 => [0, 1].contains k
  | 2 => [].contains k
  | 3 => [0, 1, 2, 3].contains k
  | 4 => [0, 1, 2, 3, 4, 5, 6].contains k
  | 5 => [].contains k
  | 6 => [].contains k
  | 7 => [].contains k
  | 8 => [].contains k
  | 9 => [0].contains k
  | 10 => [].contains k
  | 11 => [0, 1, 2, 6, 8, 11, 12, 13, 15, 16].contains k
  | 12 => [].contains k
  | _ => false
def nSlots (C0 : Nat) : Nat := [4, 4, 4, 9, 11, 4, 4, 4, 4, 4, 4, 17, 4].getD C0 0
theorem fE_1_9 : fld 1 9 = some (1, 0) := rfl
theorem fE_1_15 : fld 1 15 = some (1, 1) := rfl
theorem fE_1_1048 : fld 1 1048 = some (0, 2) := rfl
theorem fE_3_11 : fld 3 11 = some (3, 0) := rfl
theorem fE_3_15 : fld 3 15 = some (3, 1) := rfl
theorem fE_3_18 : fld 3 18 = some (3, 2) := rfl
theorem fE_3_21 : fld 3 21 = some (3, 3) := rfl
theorem fE_3_24 : fld 3 24 = some (3, 4) := rfl
theorem fE_3_28 : fld 3 28 = some (3, 6) := rfl
theorem fE_3_37 : fld 3 37 = some (3, 7) := rfl
theorem fE_3_40 : fld 3 40 = some (3, 8) := rfl
theorem fE_3_78 : fld 3 78 = some (3, 5) := rfl
theorem fE_4_9 : fld 4 9 = some (4, 0) := rfl
theorem fE_4_15 : fld 4 15 = some (4, 1) := rfl
theorem fE_4_18 : fld 4 18 = some (4, 2) := rfl
theorem fE_4_21 : fld 4 21 = some (4, 3) := rfl
theorem fE_4_24 : fld 4 24 = some (4, 4) := rfl
theorem fE_4_27 : fld 4 27 = some (4, 5) := rfl
theorem fE_4_30 : fld 4 30 = some (4, 6) := rfl
theorem fE_4_33 : fld 4 33 = some (4, 9) := rfl
theorem fE_4_37 : fld 4 37 = some (4, 7) := rfl
theorem fE_4_44 : fld 4 44 = some (4, 8) := rfl
theorem fE_4_54 : fld 4 54 = some (4, 10) := rfl
theorem fE_9_9 : fld 9 9 = some (9, 0) := rfl
theorem fE_9_15 : fld 9 15 = some (9, 2) := rfl
theorem fE_9_19 : fld 9 19 = some (9, 1) := rfl
theorem fE_9_23 : fld 9 23 = some (9, 3) := rfl
theorem fE_11_10 : fld 11 10 = some (11, 0) := rfl
theorem fE_11_16 : fld 11 16 = some (11, 1) := rfl
theorem fE_11_19 : fld 11 19 = some (11, 2) := rfl
theorem fE_11_25 : fld 11 25 = some (11, 4) := rfl
theorem fE_11_29 : fld 11 29 = some (11, 5) := rfl
theorem fE_11_32 : fld 11 32 = some (11, 6) := rfl
theorem fE_11_38 : fld 11 38 = some (11, 8) := rfl
theorem fE_11_41 : fld 11 41 = some (11, 11) := rfl
theorem fE_11_44 : fld 11 44 = some (11, 12) := rfl
theorem fE_11_49 : fld 11 49 = some (11, 13) := rfl
theorem fE_11_53 : fld 11 53 = some (11, 15) := rfl
theorem fE_11_58 : fld 11 58 = some (11, 16) := rfl
theorem fE_11_120 : fld 11 120 = some (11, 7) := rfl
theorem fE_11_139 : fld 11 139 = some (4, 5) := rfl
theorem fE_11_142 : fld 11 142 = some (4, 2) := rfl
theorem fE_11_145 : fld 11 145 = some (4, 4) := rfl
theorem fE_11_148 : fld 11 148 = some (4, 1) := rfl
theorem fE_11_187 : fld 11 187 = some (4, 8) := rfl
theorem fE_11_199 : fld 11 199 = some (4, 7) := rfl
theorem fE_11_234 : fld 11 234 = some (4, 3) := rfl
theorem fE_11_254 : fld 11 254 = some (9, 3) := rfl
theorem fE_11_274 : fld 11 274 = some (4, 9) := rfl
theorem fE_11_292 : fld 11 292 = some (4, 6) := rfl
theorem fE_11_298 : fld 11 298 = some (11, 3) := rfl
theorem fE_11_305 : fld 11 305 = some (11, 10) := rfl
theorem fE_11_311 : fld 11 311 = some (11, 9) := rfl
theorem fE_11_320 : fld 11 320 = some (11, 14) := rfl
theorem fE_14_15 : fld 14 15 = some (0, 0) := rfl
theorem fE_14_22 : fld 14 22 = some (0, 1) := rfl
theorem fE_14_79 : fld 14 79 = some (0, 3) := rfl
def kI (c i : Nat) : Option Int32 := match c, i with
  | 13, 198 => some (-2000000000)
  | 14, 39 => some (2147483647)
  | 18, 200 => some (2147483639)
  | 11, 104 => some (-2000000000)
  | 16, 265 => some (1431655765)
  | 16, 266 => some (858993459)
  | 16, 267 => some (252645135)
  | 11, 287 => some (1103515245)
  | _, _ => none
def kL (c i : Nat) : Option Int64 := match c, i with
  | 13, 185 => some (100)
  | 13, 103 => some (7)
  | 13, 105 => some (31)
  | 11, 260 => some (100)
  | _, _ => none
def gsT (c i : Nat) : Option Nat := match c, i with
  | 14, 18 => some 0
  | 1, 1053 => some 3
  | 1, 38 => some 0
  | 16, 83 => some 1
  | 16, 87 => some 2
  | _, _ => none
def stT (c i : Nat) : Option Nat := match c, i with
  | 13, 16 => some 0
  | 13, 22 => some 1
  | 13, 40 => some 2
  | 13, 42 => some 3
  | 13, 48 => some 4
  | 13, 50 => some 5
  | 13, 52 => some 6
  | 13, 54 => some 7
  | 13, 56 => some 8
  | 13, 58 => some 9
  | 13, 60 => some 10
  | 13, 62 => some 11
  | 13, 72 => some 12
  | 13, 74 => some 13
  | 13, 76 => some 14
  | 13, 82 => some 15
  | _, _ => none
/-! calls: by class of the caller and place of its pool: the method and how many arguments. sT static, nT static of a nest mate, iT <init>, jT <init> of a nest mate, pT super; vT virtual by the kind of the receiver -/
def sT (c i : Nat) : Option (Nat × Nat) := match c with
  | 1 => List.lookup i [(54, 178, 3), (495, 174, 2), (1059, 181, 3)]
  | 3 => List.lookup i [(61, 12, 1), (71, 16, 1), (89, 22, 3)]
  | 4 => List.lookup i [(77, 33, 2), (105, 42, 2), (108, 246, 2)]
  | 9 => List.lookup i [(26, 248, 2)]
  | 11 => List.lookup i [(75, 142, 1), (79, 141, 3), (202, 249, 2), (229, 247, 1), (243, 33, 2), (246, 105, 1), (277, 114, 1)]
  | 13 => List.lookup i [(7, 183, 2), (44, 184, 1), (64, 182, 2), (68, 185, 2), (174, 186, 2), (178, 187, 4), (191, 188, 3), (213, 189, 5), (217, 247, 1), (222, 190, 2)]
  | 14 => List.lookup i [(108, 176, 2), (114, 180, 3), (191, 175, 1), (245, 159, 1), (248, 158, 3)]
  | 15 => List.lookup i [(9, 167, 2)]
  | 17 => List.lookup i [(339, 179, 3), (343, 177, 2)]
  | _ => none
def nT (c i : Nat) : Option (Nat × Nat) := match c with
  | 3 => List.lookup i [(74, 141, 3)]
  | 4 => List.lookup i [(40, 141, 3)]
  | _ => none
def iT (c i : Nat) : Option (Nat × Nat) := match c with
  | 0 => List.lookup i [(1, 147, 1), (137, 160, 1)]
  | 1 => List.lookup i [(489, 164, 2)]
  | 13 => List.lookup i [(15, 168, 0), (161, 70, 0)]
  | _ => none
def jT (c i : Nat) : Option (Nat × Nat) := match c with
  | 11 => List.lookup i [(9, 23, 0), (24, 7, 0), (62, 58, 0)]
  | _ => none
def pT (c i : Nat) : Option (Nat × Nat) := match c with
  | 0 => List.lookup i [(29, 151, 1), (50, 152, 1), (53, 153, 1), (343, 148, 0)]
  | _ => none
def vN (c i : Nat) : Option Nat := match c with
  | 1 => List.lookup i [(335, 0), (492, 0), (549, 0), (552, 0), (1047, 0)]
  | 3 => List.lookup i [(43, 0), (47, 1), (51, 2), (55, 2), (58, 1), (65, 0), (68, 0), (81, 1), (85, 0)]
  | 4 => List.lookup i [(47, 1), (51, 1), (57, 2), (67, 1), (81, 1), (85, 0), (91, 6), (101, 2), (113, 2), (116, 0)]
  | 9 => List.lookup i [(32, 2)]
  | 11 => List.lookup i [(63, 2), (67, 1), (71, 4), (83, 0), (87, 0), (90, 2), (97, 1), (101, 2), (105, 2), (109, 4), (113, 3), (117, 1), (124, 2), (128, 1), (131, 2), (135, 1), (151, 1), (155, 1), (159, 0), (163, 0), (166, 1), (169, 3), (172, 1), (175, 1), (178, 3), (181, 2), (184, 0), (190, 1), (193, 0), (196, 1), (208, 3), (217, 2), (220, 2), (223, 1), (226, 2), (237, 2), (240, 3), (250, 2), (262, 2), (265, 2), (268, 2), (271, 1), (280, 5), (284, 3), (288, 2), (295, 1), (302, 1), (308, 0), (363, 1), (367, 2), (370, 2), (373, 2), (380, 0)]
  | 13 => List.lookup i [(18, 1), (24, 1), (30, 1), (33, 0), (37, 1), (78, 0), (84, 3), (90, 1), (94, 2), (97, 1), (100, 0), (107, 2), (110, 3), (113, 3), (116, 2), (119, 1), (122, 3), (125, 2), (128, 1), (131, 1), (134, 2), (137, 3), (140, 3), (143, 2), (146, 2), (149, 2), (152, 0), (155, 3), (158, 1), (162, 0), (165, 0), (168, 0), (171, 1), (182, 3), (187, 3), (195, 1), (199, 2), (202, 2), (210, 0)]
  | 14 => List.lookup i [(32, 0), (40, 0), (83, 0), (100, 1), (104, 1), (208, 2), (397, 1), (399, 3)]
  | _ => none
def vL (c i : Nat) : List (Nat × Nat) := match c with
  | 1 => (List.lookup i [(335, [(1, 165)]), (492, [(1, 166)]), (549, [(0, 173)]), (552, [(0, 154)]), (1047, [(0, 155)])]).getD []
  | 3 => (List.lookup i [(43, [(3, 10)]), (47, [(3, 17)]), (51, [(3, 11)]), (55, [(3, 18)]), (58, [(3, 13)]), (65, [(3, 15)]), (68, [(3, 14)]), (81, [(3, 20)]), (85, [(3, 21)])]).getD []
  | 4 => (List.lookup i [(47, [(4, 24)]), (51, [(4, 25)]), (57, [(4, 28)]), (67, [(4, 32)]), (81, [(4, 38)]), (85, [(3, 8)]), (91, [(3, 19)]), (101, [(4, 40)]), (113, [(4, 41)]), (116, [(4, 43)])]).getD []
  | 9 => (List.lookup i [(32, [(9, 64)])]).getD []
  | 11 => (List.lookup i [(63, [(11, 76)]), (67, [(4, 26)]), (71, [(4, 27)]), (83, [(9, 59)]), (87, [(9, 61)]), (90, [(9, 64)]), (97, [(9, 65)]), (101, [(4, 28)]), (105, [(4, 29)]), (109, [(11, 124)]), (113, [(4, 30)]), (117, [(4, 24)]), (124, [(3, 9)]), (128, [(4, 25)]), (131, [(4, 40)]), (135, [(11, 82)]), (151, [(4, 31)]), (155, [(4, 44)]), (159, [(4, 35)]), (163, [(4, 36)]), (166, [(11, 143)]), (169, [(11, 86)]), (172, [(11, 87)]), (175, [(11, 88)]), (178, [(4, 37)]), (181, [(4, 41)]), (184, [(4, 43)]), (190, [(11, 91)]), (193, [(11, 92)]), (196, [(11, 94)]), (208, [(11, 93)]), (217, [(11, 95)]), (220, [(11, 97)]), (223, [(11, 99)]), (226, [(11, 100)]), (237, [(11, 102)]), (240, [(11, 103)]), (250, [(11, 106)]), (262, [(11, 108)]), (265, [(11, 109)]), (268, [(11, 111)]), (271, [(4, 34)]), (280, [(11, 115)]), (284, [(11, 116)]), (288, [(4, 39)]), (295, [(4, 38)]), (302, [(4, 32)]), (308, [(11, 125)]), (363, [(9, 62)]), (367, [(9, 63)]), (370, [(11, 136)]), (373, [(9, 66)]), (380, [(9, 60)])]).getD []
  | 13 => (List.lookup i [(18, [(0, 169)]), (24, [(1, 162)]), (30, [(0, 170)]), (33, [(0, 172)]), (37, [(0, 171)]), (78, [(1, 161)]), (84, [(11, 75)]), (90, [(11, 71)]), (94, [(11, 72)]), (97, [(11, 78)]), (100, [(11, 79)]), (107, [(11, 77)]), (110, [(11, 81)]), (113, [(11, 89)]), (116, [(11, 90)]), (119, [(11, 112)]), (122, [(11, 85)]), (125, [(11, 96)]), (128, [(11, 80)]), (131, [(11, 84)]), (134, [(11, 104)]), (137, [(11, 107)]), (140, [(11, 113)]), (143, [(11, 83)]), (146, [(11, 98)]), (149, [(11, 101)]), (152, [(11, 110)]), (155, [(11, 117)]), (158, [(11, 121)]), (162, [(11, 126)]), (165, [(11, 122)]), (168, [(11, 118)]), (171, [(11, 120)]), (182, [(11, 133)]), (187, [(11, 134)]), (195, [(11, 140)]), (199, [(11, 119)]), (202, [(11, 132)]), (210, [(11, 123)])]).getD []
  | 14 => (List.lookup i [(32, [(1, 161)]), (40, [(1, 165)]), (83, [(0, 155)]), (100, [(0, 149)]), (104, [(0, 150)]), (208, [(0, 157)]), (397, [(0, 156)]), (399, [(1, 163)])]).getD []
  | _ => []
def biS (c i : Nat) : Option Nat := match c, i with
  | 13, 205 => some 2
  | 4, 61 => some 0
  | 4, 95 => some 2
  | 4, 98 => some 1
  | 4, 71 => some 3
  | 18, 194 => some 1
  | 17, 304 => some 2
  | 17, 150 => some 0
  | 1, 212 => some 0
  | 11, 314 => some 0
  | 3, 31 => some 2
  | 11, 212 => some 1
  | 11, 257 => some 2
  | 13, 225 => some 1
  | 13, 228 => some 3
  | _, _ => none
def biI (c i : Nat) : Option Nat := match c, i with
  | 11, 1 => some 4
  | 4, 3 => some 4
  | 3, 3 => some 4
  | 9, 3 => some 4
  | 14, 3 => some 4
  | 1, 1 => some 4
  | _, _ => none
def nwT (c i : Nat) : Option Nat := match c, i with
  | 13, 85 => some 11
  | 11, 7 => some 4
  | 11, 22 => some 3
  | 11, 56 => some 9
  | 13, 13 => some 0
  | 0, 18 => some 1
  | _, _ => none
def anT (c i : Nat) : Option Nat := match c, i with
  | 11, 47 => some 15
  | 11, 56 => some 16
  | _, _ => none
def mnT (c i : Nat) : Bool := match c, i with
  | 11, 36 => true
  | _, _ => false
def ccT (c i : Nat) : Bool := match c, i with
  | 17, 311 => true
  | _, _ => false
def clT (c i : Nat) : Bool := match c, i with
  | 17, 310 => true
  | _, _ => false
def lenJ : List Nat := [0, 6, 1, 1, 10, 1, 2, 3, 2, 1, 1, 7, 1, 1, 9, 15]
def bytJ : List (List Int32) := [[], [98, 107, 100, 104, 103, 102], [33], [45], [43, 45, 42, 47, 37, 124, 38, 60, 61, 62], [40], [41, 42], [43, 50, 48], [33, 40], [60], [124], [61, 51, 41, 42, 51, 45, 104], [63], [59], [98, 47, 57, 43, 107, 45, 100, 42, 50], [103, 61, 49, 63, 98, 45, 57, 59, 104, 37, 55, 61, 54, 63, 52]]
def dgO : List Int32 := [48, 49, 50, 51, 52, 53, 54, 55, 56, 57, 48, 49, 50, 51, 52, 53, 54, 55, 56, 57, 48, 49, 50, 51, 52, 53, 54, 55, 56, 57, 48, 49, 50, 51, 52, 53, 54, 55, 56, 57, 48, 49, 50, 51, 52, 53, 54, 55, 56, 57, 48, 49, 50, 51, 52, 53, 54, 55, 56, 57, 48, 49, 50, 51, 52, 53, 54, 55, 56, 57, 48, 49, 50, 51, 52, 53, 54, 55, 56, 57, 48, 49, 50, 51, 52, 53, 54, 55, 56, 57, 48, 49, 50, 51, 52, 53, 54, 55, 56, 57]
def dgT : List Int32 := [48, 48, 48, 48, 48, 48, 48, 48, 48, 48, 49, 49, 49, 49, 49, 49, 49, 49, 49, 49, 50, 50, 50, 50, 50, 50, 50, 50, 50, 50, 51, 51, 51, 51, 51, 51, 51, 51, 51, 51, 52, 52, 52, 52, 52, 52, 52, 52, 52, 52, 53, 53, 53, 53, 53, 53, 53, 53, 53, 53, 54, 54, 54, 54, 54, 54, 54, 54, 54, 54, 55, 55, 55, 55, 55, 55, 55, 55, 55, 55, 56, 56, 56, 56, 56, 56, 56, 56, 56, 56, 57, 57, 57, 57, 57, 57, 57, 57, 57, 57]
/-! ===== the evaluator: a pure machine over numbered addresses ===== -/
/-- a pure value: an int, a reference (0: null), a long -/
abbrev PV : Type := Sum Int32 (Sum Nat Int64)
abbrev vi (x : Int32) : PV := Sum.inl x
abbrev vr (r : Nat) : PV := Sum.inr (Sum.inl r)
abbrev vl (x : Int64) : PV := Sum.inr (Sum.inr x)
/-- the places that a row of values takes -/
def szL : List PV → Nat
  | [] => 0
  | .inl _ :: r => szL r + 1
  | .inr (.inl _) :: r => szL r + 1
  | .inr (.inr _) :: r => szL r + 2
/-- a pure memory: ints, longs, references by address and place; kind and length by address; the next address; slots used -/
abbrev Mem : Type := (Nat → Nat → Int32) × (Nat → Nat → Int64) × (Nat → Nat → Nat) × (Nat → Nat) × (Nat → Nat) × Nat × Nat
def mI (M : Mem) (a i : Nat) : Int32 := M.1 a i
def mJ (M : Mem) (a i : Nat) : Int64 := M.2.1 a i
def mR (M : Mem) (a i : Nat) : Nat := M.2.2.1 a i
def mK (M : Mem) (a : Nat) : Nat := M.2.2.2.1 a
def mN (M : Mem) (a : Nat) : Nat := M.2.2.2.2.1 a
def mX (M : Mem) : Nat := M.2.2.2.2.2.1
def mS (M : Mem) : Nat := M.2.2.2.2.2.2
def up2 {α : Type} (f : Nat → Nat → α) (a i : Nat) (v : α) : Nat → Nat → α := fun b j => if b = a then (if j = i then v else f b j) else f b j
def up1 {α : Type} (f : Nat → α) (a : Nat) (v : α) : Nat → α := fun b => if b = a then v else f b
def sI (M : Mem) (a i : Nat) (v : Int32) : Mem := (up2 M.1 a i v, M.2)
def sJ (M : Mem) (a i : Nat) (v : Int64) : Mem := (M.1, up2 M.2.1 a i v, M.2.2)
def sR (M : Mem) (a i : Nat) (v : Nat) : Mem := (M.1, M.2.1, up2 M.2.2.1 a i v, M.2.2.2)
/-- row a from place dp on gets n elements of row b from sp on -/
def cpy {α : Type} (f : Nat → Nat → α) (b sp a dp n : Nat) : Nat → Nat → α := fun c j => if c = a then (if dp ≤ j ∧ j < dp + n then f b (sp + (j - dp)) else f c j) else f c j
def cI (M : Mem) (b sp a dp n : Nat) : Mem := (cpy M.1 b sp a dp n, M.2)
def cJ (M : Mem) (b sp a dp n : Nat) : Mem := (M.1, cpy M.2.1 b sp a dp n, M.2.2)
/-- a new cell of kind k, length n, at mX M; slots more are used -/
def nw (M : Mem) (k n slots : Nat) : Mem :=
  (fun b j => if b = mX M then 0 else M.1 b j, fun b j => if b = mX M then 0 else M.2.1 b j, fun b j => if b = mX M then 0 else M.2.2.1 b j,
   up1 M.2.2.2.1 (mX M) k, up1 M.2.2.2.2.1 (mX M) n, mX M + 1, mS M + slots)
/-- new int[n][k]: the outer row at mX M, the rows behind it -/
def nw2 (M : Mem) (n k : Nat) : Mem :=
  (fun b j => if mX M ≤ b ∧ b ≤ mX M + n then 0 else M.1 b j, fun b j => if mX M ≤ b ∧ b ≤ mX M + n then 0 else M.2.1 b j,
   fun b j => if mX M ≤ b ∧ b ≤ mX M + n then (if b = mX M then (if j < n then mX M + 1 + j else 0) else 0) else M.2.2.1 b j,
   fun b => if mX M ≤ b ∧ b ≤ mX M + n then (if b = mX M then 17 else 13) else M.2.2.2.1 b,
   fun b => if mX M ≤ b ∧ b ≤ mX M + n then (if b = mX M then n else k) else M.2.2.2.2.1 b, mX M + 1 + n, mS M + n + n * k)
/-- a place of a row -/
abbrev inb (i : Int32) (n : Nat) : Prop := ¬ i < 0 ∧ i.toNatClampNeg < n
abbrev ix (i : Int32) : Nat := i.toNatClampNeg
abbrev Loc1 : Type := List (Option PV)
abbrev St1 : Type := Nat × Loc1 × List PV × Mem
/-- the target of a jump -/
def tgt (pc : Nat) (off : Int) : Option Nat := if 0 ≤ (pc : Int) + off then some ((pc : Int) + off).toNat else none
def jmp (t : Option Nat) (ls : Loc1) (st : List PV) (M : Mem) : Option St1 := match t with
  | some q => some (q, ls, st, M)
  | none => none
def e_ld (k : Nat) (kd : Nat) (n pc : Nat) (ls : Loc1) (st : List PV) (M : Mem) : Option St1 := match ls[k]? with
  | some (some (.inl x)) => if kd = 0 then some (pc + n, ls, vi x :: st, M) else none
  | some (some (.inr (.inl r))) => if kd = 1 then some (pc + n, ls, vr r :: st, M) else none
  | some (some (.inr (.inr x))) => match ls[k + 1]? with
    | some none => if kd = 2 then some (pc + n, ls, vl x :: st, M) else none
    | _ => none
  | _ => none
def e_st (k : Nat) (kd : Nat) (n pc : Nat) (ls : Loc1) (st : List PV) (M : Mem) : Option St1 := match st with
  | .inl x :: r => if kd = 0 ∧ k < ls.length then some (pc + n, ls.set k (some (vi x)), r, M) else none
  | .inr (.inl x) :: r => if kd = 1 ∧ k < ls.length then some (pc + n, ls.set k (some (vr x)), r, M) else none
  | .inr (.inr x) :: r => if kd = 2 ∧ k + 1 < ls.length then some (pc + n, (ls.set k (some (vl x))).set (k + 1) none, r, M) else none
  | _ => none
def e_c (v : PV) (n pc : Nat) (ls : Loc1) (st : List PV) (M : Mem) : Option St1 := some (pc + n, ls, v :: st, M)
def e_b (f : Int32 → Int32 → Int32) (pc : Nat) (ls : Loc1) (st : List PV) (M : Mem) : Option St1 := match st with
  | .inl y :: .inl x :: r => some (pc + 1, ls, vi (f x y) :: r, M)
  | _ => none
def e_d (f : Int32 → Int32 → Int32) (pc : Nat) (ls : Loc1) (st : List PV) (M : Mem) : Option St1 := match st with
  | .inl y :: .inl x :: r => if y = 0 then none else some (pc + 1, ls, vi (f x y) :: r, M)
  | _ => none
def e_u (f : Int32 → Int32) (pc : Nat) (ls : Loc1) (st : List PV) (M : Mem) : Option St1 := match st with
  | .inl x :: r => some (pc + 1, ls, vi (f x) :: r, M)
  | _ => none
def e_lb (f : Int64 → Int64 → Int64) (pc : Nat) (ls : Loc1) (st : List PV) (M : Mem) : Option St1 := match st with
  | .inr (.inr y) :: .inr (.inr x) :: r => some (pc + 1, ls, vl (f x y) :: r, M)
  | _ => none
def lcmpV (x y : Int64) : Int32 := lg_cmp x y
def e_if (p : Int32 → Bool) (pc : Nat) (off : Int) (ls : Loc1) (st : List PV) (M : Mem) : Option St1 := match st, tgt pc off with
  | .inl x :: r, some q => if p x = true then some (q, ls, r, M) else some (pc + 3, ls, r, M)
  | _, _ => none
def e_ic (p : Int32 → Int32 → Bool) (pc : Nat) (off : Int) (ls : Loc1) (st : List PV) (M : Mem) : Option St1 := match st, tgt pc off with
  | .inl y :: .inl x :: r, some q => if p x y = true then some (q, ls, r, M) else some (pc + 3, ls, r, M)
  | _, _ => none
def c1 (c : Jvm.ClassFile.Cond) (x : Int32) : Bool := match c with
  | .eq => decide (x = 0) | .ne => !decide (x = 0) | .lt => decide (x < 0) | .ge => decide (0 ≤ x) | .gt => decide (0 < x) | .le => decide (x ≤ 0)
def c2 (c : Jvm.ClassFile.Cond) (x y : Int32) : Bool := match c with
  | .eq => decide (x = y) | .ne => !decide (x = y) | .lt => decide (x < y) | .ge => decide (y ≤ x) | .gt => decide (y < x) | .le => decide (x ≤ y)
/-- constants of the host stand from here on: a string i at kA + 2 i, its bytes behind it, the digits at kA + 40, kA + 41, a formatter at kA + 42 -/
abbrev kA : Nat := 1000000
/-- kinds: 13 int[], 14 long[], 15 Reed[], 16 Shelf[], 17 int[][], 18 byte[], 19 a constant byte[], 20 a constant String; the script is row 1 -/
abbrev okF (C0 ci : Nat) : Bool := ci == C0
abbrev okG (C0 ci : Nat) : Bool := ci == C0 || (C0 == 1 && ci == 20)
abbrev byV (x : Int32) : Int32 := x.toInt8.toInt32
def e_get (c i pc : Nat) (ls : Loc1) (st : List PV) (M : Mem) : Option St1 := match st, fld c i with
  | .inr (.inl r) :: st', some (C0, k) => if okG C0 (mK M r) = true then some (pc + 3, ls, (if fRef C0 k = true then vr (mR M r k) else vi (mI M r k)) :: st', M) else none
  | _, _ => none
def e_put (y c i pc : Nat) (ls : Loc1) (st : List PV) (M : Mem) : Option St1 := match st, fld c i with
  | .inl x :: .inr (.inl r) :: st', some (C0, k) => if (okF C0 (mK M r) && !fRef C0 k && (!fFin C0 k || ((mY y).name == "<init>" && C0 == c)) && (!fBool C0 k || x == 0 || x == 1) && (!fByte C0 k || byV x == x)) = true then some (pc + 3, ls, st', sI M r k x) else none
  | .inr (.inl q) :: .inr (.inl r) :: st', some (C0, k) => if (okF C0 (mK M r) && fRef C0 k && (!fFin C0 k || ((mY y).name == "<init>" && C0 == c))) = true then some (pc + 3, ls, st', sR M r k q) else none
  | _, _ => none
def e_iald (pc : Nat) (ls : Loc1) (st : List PV) (M : Mem) : Option St1 := match st with
  | .inl j :: .inr (.inl r) :: st' => if mK M r = 13 ∧ inb j (mN M r) then some (pc + 1, ls, vi (mI M r (ix j)) :: st', M) else none
  | _ => none
def e_iast (pc : Nat) (ls : Loc1) (st : List PV) (M : Mem) : Option St1 := match st with
  | .inl x :: .inl j :: .inr (.inl r) :: st' => if mK M r = 13 ∧ inb j (mN M r) ∧ r ≠ 1 then some (pc + 1, ls, st', sI M r (ix j) x) else none
  | _ => none
def e_lald (pc : Nat) (ls : Loc1) (st : List PV) (M : Mem) : Option St1 := match st with
  | .inl j :: .inr (.inl r) :: st' => if mK M r = 14 ∧ inb j (mN M r) ∧ r ≠ 1 then some (pc + 1, ls, vl (mJ M r (ix j)) :: st', M) else none
  | _ => none
def e_last (pc : Nat) (ls : Loc1) (st : List PV) (M : Mem) : Option St1 := match st with
  | .inr (.inr x) :: .inl j :: .inr (.inl r) :: st' => if mK M r = 14 ∧ inb j (mN M r) ∧ r ≠ 1 then some (pc + 1, ls, st', sJ M r (ix j) x) else none
  | _ => none
def e_aald (pc : Nat) (ls : Loc1) (st : List PV) (M : Mem) : Option St1 := match st with
  | .inl j :: .inr (.inl r) :: st' => if (mK M r = 15 ∨ mK M r = 16 ∨ mK M r = 17) ∧ inb j (mN M r) ∧ r ≠ 1 then some (pc + 1, ls, vr (mR M r (ix j)) :: st', M) else none
  | _ => none
/-- what may be put into a row of references -/
def okA (k ci : Nat) : Bool := k == 16 && ci == 9
def e_aast (pc : Nat) (ls : Loc1) (st : List PV) (M : Mem) : Option St1 := match st with
  | .inr (.inl q) :: .inl j :: .inr (.inl r) :: st' => if okA (mK M r) (mK M q) = true ∧ inb j (mN M r) ∧ r ≠ 1 ∧ q ≠ 1 then some (pc + 1, ls, st', sR M r (ix j) q) else none
  | _ => none
def e_alen (pc : Nat) (ls : Loc1) (st : List PV) (M : Mem) : Option St1 := match st with
  | .inr (.inl r) :: st' => if 13 ≤ mK M r ∧ mK M r ≤ 19 then some (pc + 1, ls, vi (Int32.ofNat (mN M r)) :: st', M) else none
  | _ => none
def e_new (c i pc : Nat) (ls : Loc1) (st : List PV) (M : Mem) : Option St1 := match nwT c i with
  | some k => some (pc + 3, ls, vr (mX M) :: st, nw M k 0 (nSlots k))
  | none => none
def e_nwa (at' : Jvm.ClassFile.ArrayType) (pc : Nat) (ls : Loc1) (st : List PV) (M : Mem) : Option St1 := match st, at' with
  | .inl n :: st', .int => if ¬ n < 0 ∧ ix n ≤ 100000 then some (pc + 2, ls, vr (mX M) :: st', nw M 13 (ix n) (ix n)) else none
  | .inl n :: st', .long => if ¬ n < 0 ∧ ix n ≤ 100000 then some (pc + 2, ls, vr (mX M) :: st', nw M 14 (ix n) (ix n)) else none
  | .inl n :: st', .byte => if ¬ n < 0 ∧ ix n ≤ 100000 then some (pc + 2, ls, vr (mX M) :: st', nw M 18 (ix n) (ix n)) else none
  | _, _ => none
def e_anw (c i pc : Nat) (ls : Loc1) (st : List PV) (M : Mem) : Option St1 := match st, anT c i with
  | .inl n :: st', some k => if ¬ n < 0 ∧ ix n ≤ 100000 then some (pc + 3, ls, vr (mX M) :: st', nw M k (ix n) (ix n)) else none
  | _, _ => none
def e_mnw (c i pc : Nat) (ls : Loc1) (st : List PV) (M : Mem) : Option St1 := match st with
  | .inl k :: .inl n :: st' => if mnT c i = true ∧ ¬ n < 0 ∧ ix n ≤ 100000 ∧ ¬ k < 0 ∧ ix k ≤ 100000 then some (pc + 4, ls, vr (mX M) :: st', nw2 M (ix n) (ix k)) else none
  | _ => none
def e_bald (pc : Nat) (ls : Loc1) (st : List PV) (M : Mem) : Option St1 := match st with
  | .inl j :: .inr (.inl r) :: st' => if (mK M r = 18 ∨ mK M r = 19) ∧ inb j (mN M r) then some (pc + 1, ls, vi (mI M r (ix j)) :: st', M) else none
  | _ => none
def e_bast (pc : Nat) (ls : Loc1) (st : List PV) (M : Mem) : Option St1 := match st with
  | .inl x :: .inl j :: .inr (.inl r) :: st' => if mK M r = 18 ∧ inb j (mN M r) then some (pc + 1, ls, st', sI M r (ix j) (byV x)) else none
  | _ => none
def e_gets (t : Option Nat) (pc : Nat) (ls : Loc1) (st : List PV) (M : Mem) : Option St1 := match t with
  | some 0 => some (pc + 3, ls, vi 1 :: st, M)
  | some 1 => some (pc + 3, ls, vr (kA + 40) :: st, M)
  | some 2 => some (pc + 3, ls, vr (kA + 41) :: st, M)
  | some 3 => some (pc + 3, ls, (if mI M (kA + 42) 0 = 0 then vr 0 else vr (kA + 42)) :: st, M)
  | _ => none
/-- a copy of row r, at mX M -/
def nwc (M : Mem) (r : Nat) : Mem := ((fun b j => if b = mX M then M.1 r j else M.1 b j), (nw M 18 (mN M r) (mN M r)).2)
def e_cln (b : Bool) (pc : Nat) (ls : Loc1) (st : List PV) (M : Mem) : Option St1 := match st with
  | .inr (.inl r) :: st' => if b = true ∧ mK M r = 18 ∧ szL st' ≤ 8 then some (pc + 3, ls, vr (mX M) :: st', nwc M r) else none
  | _ => none
def e_cast (b : Bool) (pc : Nat) (ls : Loc1) (st : List PV) (M : Mem) : Option St1 := match st with
  | .inr (.inl r) :: st' => if b = true ∧ mK M r = 18 then some (pc + 3, ls, vr r :: st', M) else none
  | _ => none
/-- natives and small static members of the host that are one step: 0 arraycopy, 1 max, 2 min, 3 abs; 4 Object.<init> -/
def e_bi (t pc : Nat) (ls : Loc1) (st : List PV) (M : Mem) : Option St1 := match t, st with
  | 0, .inl n :: .inl dp :: .inr (.inl a) :: .inl sp :: .inr (.inl b) :: r =>
    if ¬ sp < 0 ∧ ¬ dp < 0 ∧ ¬ n < 0 ∧ ix sp + ix n ≤ mN M b ∧ ix dp + ix n ≤ mN M a ∧ a ≠ 1 ∧ b ≠ 1 ∧ (mK M a = mK M b ∧ mK M a ≠ 19 ∨ mK M a = 18 ∧ mK M b = 19) ∧ szL r ≤ 8 then
      (if mK M b = 13 ∨ mK M b = 18 ∨ mK M b = 19 then some (pc + 3, ls, r, cI M b (ix sp) a (ix dp) (ix n)) else if mK M b = 14 then some (pc + 3, ls, r, cJ M b (ix sp) a (ix dp) (ix n)) else none)
    else none
  | 1, .inl y :: .inl x :: r => if szL r ≤ 8 then some (pc + 3, ls, vi (if x < y then y else x) :: r, M) else none
  | 2, .inl y :: .inl x :: r => if szL r ≤ 8 then some (pc + 3, ls, vi (if y < x then y else x) :: r, M) else none
  | 3, .inl x :: r => if szL r ≤ 8 then some (pc + 3, ls, vi (if 0 ≤ x then x else 0 - x) :: r, M) else none
  | 4, .inr (.inl q) :: r => if szL r ≤ 8 ∧ mK M q < 13 then some (pc + 3, ls, r, M) else none
  | _, _ => none
def swi (x : Int) (lo hi d : Int) (offs : Array Int) : Int := if x < lo ∨ hi < x then d else offs.getD (x - lo).toNat 0
def e_sw (lo hi d : Int) (offs : Array Int) (pc : Nat) (ls : Loc1) (st : List PV) (M : Mem) : Option St1 := match st with
  | .inl x :: r => if x.toInt < lo ∨ hi < x.toInt then jmp (tgt pc d) ls r M else match offs[(x.toInt - lo).toNat]? with
    | some o => jmp (tgt pc o) ls r M
    | none => none
  | _ => none
def e_lsw (d : Int) (ps : Array (Int × Int)) (pc : Nat) (ls : Loc1) (st : List PV) (M : Mem) : Option St1 := match st with
  | .inl x :: r => if (ps.toList.zip (ps.toList.drop 1)).all (fun (a, next) => a.1 < next.1) = true then jmp (tgt pc (Op.lookupswitch.offset ps.toList d x.toInt)) ls r M else none
  | _ => none
def e_stk (i : Nat) (pc : Nat) (ls : Loc1) (st : List PV) (M : Mem) : Option St1 := match i, st with
  | 0, .inl a :: r => some (pc + 1, ls, vi a :: vi a :: r, M)
  | 0, .inr (.inl a) :: r => some (pc + 1, ls, vr a :: vr a :: r, M)
  | 1, .inl _ :: r => some (pc + 1, ls, r, M)
  | 1, .inr (.inl _) :: r => some (pc + 1, ls, r, M)
  | 2, .inl a :: .inr (.inl b) :: r => some (pc + 1, ls, vi a :: vr b :: vi a :: r, M)
  | 3, .inl a :: .inr (.inl b) :: r => some (pc + 1, ls, vi a :: vr b :: vi a :: vr b :: r, M)
  | _, _ => none
def e_cv (i : Nat) (pc : Nat) (ls : Loc1) (st : List PV) (M : Mem) : Option St1 := match i, st with
  | 0, .inl a :: r => some (pc + 1, ls, vl a.toInt64 :: r, M)
  | 1, .inr (.inr a) :: r => some (pc + 1, ls, vi a.toInt32 :: r, M)
  | 2, .inr (.inr y) :: .inr (.inr x) :: r => some (pc + 1, ls, vi (lcmpV x y) :: r, M)
  | 3, .inl y :: .inr (.inr x) :: r => some (pc + 1, ls, vl (x <<< (y.toInt64 &&& 63)) :: r, M)
  | _, _ => none
def e_inc (k : Nat) (n : Int) (pc : Nat) (ls : Loc1) (st : List PV) (M : Mem) : Option St1 := match ls[k]? with
  | some (some (.inl x)) => some (pc + 3, ls.set k (some (vi (x + Int32.ofInt n))), st, M)
  | _ => none
def e_nul (b : Bool) (off : Int) (pc : Nat) (ls : Loc1) (st : List PV) (M : Mem) : Option St1 := match st, tgt pc off with
  | .inr (.inl r) :: st', some q => if (r == 0) = b then some (q, ls, st', M) else some (pc + 3, ls, st', M)
  | _, _ => none
def e_ldc (n : Nat) (v : Option Int32) (pc : Nat) (ls : Loc1) (st : List PV) (M : Mem) : Option St1 := match v with
  | some x => some (pc + n, ls, vi x :: st, M)
  | none => none
def e_ldcS (v : Option Int32) (s : Option Nat) (pc : Nat) (ls : Loc1) (st : List PV) (M : Mem) : Option St1 := match v, s with
  | some x, _ => some (pc + 2, ls, vi x :: st, M)
  | none, some i => some (pc + 2, ls, vr (kA + 2 * i) :: st, M)
  | none, none => none
def e_ldl (v : Option Int64) (pc : Nat) (ls : Loc1) (st : List PV) (M : Mem) : Option St1 := match v with
  | some x => some (pc + 3, ls, vl x :: st, M)
  | none => none
def e_call (t : Option Nat) (pc : Nat) (ls : Loc1) (st : List PV) (M : Mem) : Option St1 := match t with
  | some b => e_bi b pc ls st M
  | none => none
def ex (y c : Nat) (i : Instr) (n pc : Nat) (ls : Loc1) (st : List PV) (M : Mem) : Option St1 := match i with
  | .iconst k => e_c (vi (Int32.ofInt k)) 1 pc ls st M
  | .bipush k => e_c (vi (Int8.ofInt k).toInt32) 2 pc ls st M
  | .sipush k => e_c (vi (Int16.ofInt k).toInt32) 3 pc ls st M
  | .lconst k => e_c (vl (Int64.ofNat k)) 1 pc ls st M
  | .aconst_null => e_c (vr 0) 1 pc ls st M
  | .ldc k => e_ldcS (kI c k) (stT c k) pc ls st M
  | .ldc_w k => e_ldc 3 (kI c k) pc ls st M
  | .ldc2_w k => e_ldl (kL c k) pc ls st M
  | .iload_n k => e_ld k 0 1 pc ls st M
  | .iload k => e_ld k 0 2 pc ls st M
  | .aload_n k => e_ld k 1 1 pc ls st M
  | .aload k => e_ld k 1 2 pc ls st M
  | .lload_n k => e_ld k 2 1 pc ls st M
  | .lload k => e_ld k 2 2 pc ls st M
  | .istore_n k => e_st k 0 1 pc ls st M
  | .istore k => e_st k 0 2 pc ls st M
  | .astore_n k => e_st k 1 1 pc ls st M
  | .astore k => e_st k 1 2 pc ls st M
  | .lstore_n k => e_st k 2 1 pc ls st M
  | .lstore k => e_st k 2 2 pc ls st M
  | .iinc k m => e_inc k m pc ls st M
  | .iadd => e_b (fun x y => x + y) pc ls st M
  | .isub => e_b (fun x y => x - y) pc ls st M
  | .imul => e_b (fun x y => x * y) pc ls st M
  | .iand => e_b (fun x y => x &&& y) pc ls st M
  | .ior => e_b (fun x y => x ||| y) pc ls st M
  | .ixor => e_b (fun x y => x ^^^ y) pc ls st M
  | .ishl => e_b (fun x y => x <<< (y &&& 31)) pc ls st M
  | .ishr => e_b (fun x y => x >>> (y &&& 31)) pc ls st M
  | .iushr => e_b (fun x y => (x.toUInt32 >>> (y.toUInt32 &&& Int32.toUInt32 31)).toInt32) pc ls st M
  | .idiv => e_d (fun x y => x / y) pc ls st M
  | .irem => e_d (fun x y => x % y) pc ls st M
  | .ineg => e_u (fun x => -x) pc ls st M
  | .i2b => e_u (fun x => x.toInt8.toInt32) pc ls st M
  | .i2s => e_u (fun x => x.toInt16.toInt32) pc ls st M
  | .i2c => e_u (fun x => (x.toUInt32 % 65536).toInt32) pc ls st M
  | .i2l => e_cv 0 pc ls st M
  | .l2i => e_cv 1 pc ls st M
  | .lcmp => e_cv 2 pc ls st M
  | .lshl => e_cv 3 pc ls st M
  | .ladd => e_lb (fun x y => x + y) pc ls st M
  | .lmul => e_lb (fun x y => x * y) pc ls st M
  | .land => e_lb (fun x y => x &&& y) pc ls st M
  | .lor => e_lb (fun x y => x ||| y) pc ls st M
  | .dup => e_stk 0 pc ls st M
  | .pop => e_stk 1 pc ls st M
  | .dup_x1 => e_stk 2 pc ls st M
  | .dup2 => e_stk 3 pc ls st M
  | .ifCond k o => e_if (c1 k) pc o ls st M
  | .if_icmp k o => e_ic (c2 k) pc o ls st M
  | .goto o => jmp (tgt pc o) ls st M
  | .ifnull o => e_nul true o pc ls st M
  | .ifnonnull o => e_nul false o pc ls st M
  | .tableswitch d lo hi offs => e_sw lo hi d offs pc ls st M
  | .lookupswitch d ps => e_lsw d ps pc ls st M
  | .getfield k => e_get c k pc ls st M
  | .putfield k => e_put y c k pc ls st M
  | .iaload => e_iald pc ls st M
  | .baload => e_bald pc ls st M
  | .bastore => e_bast pc ls st M
  | .getstatic k => e_gets (gsT c k) pc ls st M
  | .checkcast k => e_cast (ccT c k) pc ls st M
  | .invokevirtual k => e_cln (clT c k) pc ls st M
  | .iastore => e_iast pc ls st M
  | .laload => e_lald pc ls st M
  | .lastore => e_last pc ls st M
  | .aaload => e_aald pc ls st M
  | .aastore => e_aast pc ls st M
  | .arraylength => e_alen pc ls st M
  | .new k => e_new c k pc ls st M
  | .newarray a => e_nwa a pc ls st M
  | .anewarray k => e_anw c k pc ls st M
  | .multianewarray k q => if q = 2 then e_mnw c k pc ls st M else none
  | .invokestatic k => e_call (biS c k) pc ls st M
  | .invokespecial k => e_call (biI c k) pc ls st M
  | _ => none
/-- the length that the decoder gives an instruction -/
def okN (i : Instr) (n : Nat) : Bool := match i with
  | .bipush _ => n == 2 | .iload _ => n == 2 | .aload _ => n == 2 | .lload _ => n == 2 | .istore _ => n == 2 | .astore _ => n == 2 | .lstore _ => n == 2 | .ldc _ => n == 2 | .newarray _ => n == 2
  | .sipush _ => n == 3 | .ldc_w _ => n == 3 | .ldc2_w _ => n == 3 | .iinc _ _ => n == 3 | .ifCond _ _ => n == 3 | .if_icmp _ _ => n == 3 | .goto _ => n == 3 | .ifnull _ => n == 3 | .ifnonnull _ => n == 3
  | .getfield _ => n == 3 | .putfield _ => n == 3 | .new _ => n == 3 | .anewarray _ => n == 3 | .getstatic _ => n == 3 | .checkcast _ => n == 3 | .invokestatic _ => n == 3 | .invokespecial _ => n == 3 | .invokevirtual _ => n == 3
  | .multianewarray _ _ => n == 4 | .tableswitch _ _ _ _ => true | .lookupswitch _ _ => true
  | _ => n == 1
