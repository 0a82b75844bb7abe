/-! tables of the evaluator, by program out of the printed names (wip/whole/gen_tables.py) -/
theorem wl_1 : ∀ w ∈ wsL_law_r1, w ∈ wsL_law := fun _ h => List.mem_append_left _ (List.mem_append_left _ (List.mem_append_left _ (List.mem_append_left _ (List.mem_append_left _ (List.mem_append_left _ (List.mem_append_left _ (List.mem_append_left _ (List.mem_append_left _ (List.mem_append_left _ (List.mem_append_left _ (List.mem_append_left _ (List.mem_append_left _ (List.mem_append_left _ (List.mem_append_left _ h))))))))))))))
theorem wl_2 : ∀ w ∈ wsL_law_r2, w ∈ wsL_law := fun _ h => List.mem_append_left _ (List.mem_append_left _ (List.mem_append_left _ (List.mem_append_left _ (List.mem_append_left _ (List.mem_append_left _ (List.mem_append_left _ (List.mem_append_left _ (List.mem_append_left _ (List.mem_append_left _ (List.mem_append_left _ (List.mem_append_left _ (List.mem_append_left _ (List.mem_append_left _ (List.mem_append_right _ (List.mem_append_left _ h)))))))))))))))
theorem wl_3 : ∀ w ∈ wsL_law_r3, w ∈ wsL_law := fun _ h => List.mem_append_left _ (List.mem_append_left _ (List.mem_append_left _ (List.mem_append_left _ (List.mem_append_left _ (List.mem_append_left _ (List.mem_append_left _ (List.mem_append_left _ (List.mem_append_left _ (List.mem_append_left _ (List.mem_append_left _ (List.mem_append_left _ (List.mem_append_left _ (List.mem_append_left _ (List.mem_append_right _ (List.mem_append_right _ (List.mem_append_left _ h))))))))))))))))
theorem wl_4 : ∀ w ∈ wsL_law_r4, w ∈ wsL_law := fun _ h => List.mem_append_left _ (List.mem_append_left _ (List.mem_append_left _ (List.mem_append_left _ (List.mem_append_left _ (List.mem_append_left _ (List.mem_append_left _ (List.mem_append_left _ (List.mem_append_left _ (List.mem_append_left _ (List.mem_append_left _ (List.mem_append_left _ (List.mem_append_left _ (List.mem_append_left _ (List.mem_append_right _ (List.mem_append_right _ (List.mem_append_right _ (List.mem_append_left _ h)))))))))))))))))
theorem wl_5 : ∀ w ∈ wsL_law_r5, w ∈ wsL_law := fun _ h => List.mem_append_left _ (List.mem_append_left _ (List.mem_append_left _ (List.mem_append_left _ (List.mem_append_left _ (List.mem_append_left _ (List.mem_append_left _ (List.mem_append_left _ (List.mem_append_left _ (List.mem_append_left _ (List.mem_append_left _ (List.mem_append_left _ (List.mem_append_left _ (List.mem_append_left _ (List.mem_append_right _ (List.mem_append_right _ (List.mem_append_right _ (List.mem_append_right _ (List.mem_append_left _ h))))))))))))))))))
theorem wl_6 : ∀ w ∈ wsL_law_r6, w ∈ wsL_law := fun _ h => List.mem_append_left _ (List.mem_append_left _ (List.mem_append_left _ (List.mem_append_left _ (List.mem_append_left _ (List.mem_append_left _ (List.mem_append_left _ (List.mem_append_left _ (List.mem_append_left _ (List.mem_append_left _ (List.mem_append_left _ (List.mem_append_left _ (List.mem_append_left _ (List.mem_append_left _ (List.mem_append_right _ (List.mem_append_right _ (List.mem_append_right _ (List.mem_append_right _ (List.mem_append_right _ (List.mem_append_left _ h)))))))))))))))))))
theorem wl_7 : ∀ w ∈ wsL_law_r7, w ∈ wsL_law := fun _ h => List.mem_append_left _ (List.mem_append_left _ (List.mem_append_left _ (List.mem_append_left _ (List.mem_append_left _ (List.mem_append_left _ (List.mem_append_left _ (List.mem_append_left _ (List.mem_append_left _ (List.mem_append_left _ (List.mem_append_left _ (List.mem_append_left _ (List.mem_append_left _ (List.mem_append_left _ (List.mem_append_right _ (List.mem_append_right _ (List.mem_append_right _ (List.mem_append_right _ (List.mem_append_right _ (List.mem_append_right _ (List.mem_append_left _ h))))))))))))))))))))
theorem wl_8 : ∀ w ∈ wsL_law_r8, w ∈ wsL_law := fun _ h => List.mem_append_left _ (List.mem_append_left _ (List.mem_append_left _ (List.mem_append_left _ (List.mem_append_left _ (List.mem_append_left _ (List.mem_append_left _ (List.mem_append_left _ (List.mem_append_left _ (List.mem_append_left _ (List.mem_append_left _ (List.mem_append_left _ (List.mem_append_left _ (List.mem_append_left _ (List.mem_append_right _ (List.mem_append_right _ (List.mem_append_right _ (List.mem_append_right _ (List.mem_append_right _ (List.mem_append_right _ (List.mem_append_right _ (List.mem_append_left _ h)))))))))))))))))))))
theorem wl_9 : ∀ w ∈ wsL_law_r9, w ∈ wsL_law := fun _ h => List.mem_append_left _ (List.mem_append_left _ (List.mem_append_left _ (List.mem_append_left _ (List.mem_append_left _ (List.mem_append_left _ (List.mem_append_left _ (List.mem_append_left _ (List.mem_append_left _ (List.mem_append_left _ (List.mem_append_left _ (List.mem_append_left _ (List.mem_append_left _ (List.mem_append_left _ (List.mem_append_right _ (List.mem_append_right _ (List.mem_append_right _ (List.mem_append_right _ (List.mem_append_right _ (List.mem_append_right _ (List.mem_append_right _ (List.mem_append_right _ (List.mem_append_left _ h))))))))))))))))))))))
theorem wl_10 : ∀ w ∈ wsL_law_r10, w ∈ wsL_law := fun _ h => List.mem_append_left _ (List.mem_append_left _ (List.mem_append_left _ (List.mem_append_left _ (List.mem_append_left _ (List.mem_append_left _ (List.mem_append_left _ (List.mem_append_left _ (List.mem_append_left _ (List.mem_append_left _ (List.mem_append_left _ (List.mem_append_left _ (List.mem_append_left _ (List.mem_append_left _ (List.mem_append_right _ (List.mem_append_right _ (List.mem_append_right _ (List.mem_append_right _ (List.mem_append_right _ (List.mem_append_right _ (List.mem_append_right _ (List.mem_append_right _ (List.mem_append_right _ (List.mem_append_left _ h)))))))))))))))))))))))
theorem wl_11 : ∀ w ∈ wsL_law_r11, w ∈ wsL_law := fun _ h => List.mem_append_left _ (List.mem_append_left _ (List.mem_append_left _ (List.mem_append_left _ (List.mem_append_left _ (List.mem_append_left _ (List.mem_append_left _ (List.mem_append_left _ (List.mem_append_left _ (List.mem_append_left _ (List.mem_append_left _ (List.mem_append_left _ (List.mem_append_left _ (List.mem_append_left _ (List.mem_append_right _ (List.mem_append_right _ (List.mem_append_right _ (List.mem_append_right _ (List.mem_append_right _ (List.mem_append_right _ (List.mem_append_right _ (List.mem_append_right _ (List.mem_append_right _ (List.mem_append_right _ (List.mem_append_left _ h))))))))))))))))))))))))
theorem wl_12 : ∀ w ∈ wsL_law_r12, w ∈ wsL_law := fun _ h => List.mem_append_left _ (List.mem_append_left _ (List.mem_append_left _ (List.mem_append_left _ (List.mem_append_left _ (List.mem_append_left _ (List.mem_append_left _ (List.mem_append_left _ (List.mem_append_left _ (List.mem_append_left _ (List.mem_append_left _ (List.mem_append_left _ (List.mem_append_left _ (List.mem_append_left _ (List.mem_append_right _ (List.mem_append_right _ (List.mem_append_right _ (List.mem_append_right _ (List.mem_append_right _ (List.mem_append_right _ (List.mem_append_right _ (List.mem_append_right _ (List.mem_append_right _ (List.mem_append_right _ (List.mem_append_right _ (List.mem_append_left _ h)))))))))))))))))))))))))
theorem wl_13 : ∀ w ∈ wsL_law_r13, w ∈ wsL_law := fun _ h => List.mem_append_left _ (List.mem_append_left _ (List.mem_append_left _ (List.mem_append_left _ (List.mem_append_left _ (List.mem_append_left _ (List.mem_append_left _ (List.mem_append_left _ (List.mem_append_left _ (List.mem_append_left _ (List.mem_append_left _ (List.mem_append_left _ (List.mem_append_left _ (List.mem_append_left _ (List.mem_append_right _ (List.mem_append_right _ (List.mem_append_right _ (List.mem_append_right _ (List.mem_append_right _ (List.mem_append_right _ (List.mem_append_right _ (List.mem_append_right _ (List.mem_append_right _ (List.mem_append_right _ (List.mem_append_right _ (List.mem_append_right _ (List.mem_append_left _ h))))))))))))))))))))))))))
theorem wl_14 : ∀ w ∈ wsL_law_r14, w ∈ wsL_law := fun _ h => List.mem_append_left _ (List.mem_append_left _ (List.mem_append_left _ (List.mem_append_left _ (List.mem_append_left _ (List.mem_append_left _ (List.mem_append_left _ (List.mem_append_left _ (List.mem_append_left _ (List.mem_append_left _ (List.mem_append_left _ (List.mem_append_left _ (List.mem_append_left _ (List.mem_append_left _ (List.mem_append_right _ (List.mem_append_right _ (List.mem_append_right _ (List.mem_append_right _ (List.mem_append_right _ (List.mem_append_right _ (List.mem_append_right _ (List.mem_append_right _ (List.mem_append_right _ (List.mem_append_right _ (List.mem_append_right _ (List.mem_append_right _ (List.mem_append_right _ (List.mem_append_left _ h)))))))))))))))))))))))))))
theorem wl_15 : ∀ w ∈ wsL_law_r15, w ∈ wsL_law := fun _ h => List.mem_append_left _ (List.mem_append_left _ (List.mem_append_left _ (List.mem_append_left _ (List.mem_append_left _ (List.mem_append_left _ (List.mem_append_left _ (List.mem_append_left _ (List.mem_append_left _ (List.mem_append_left _ (List.mem_append_left _ (List.mem_append_left _ (List.mem_append_left _ (List.mem_append_left _ (List.mem_append_right _ (List.mem_append_right _ (List.mem_append_right _ (List.mem_append_right _ (List.mem_append_right _ (List.mem_append_right _ (List.mem_append_right _ (List.mem_append_right _ (List.mem_append_right _ (List.mem_append_right _ (List.mem_append_right _ (List.mem_append_right _ (List.mem_append_right _ (List.mem_append_right _ (List.mem_append_left _ h))))))))))))))))))))))))))))
theorem wl_16 : ∀ w ∈ wsL_law_r16, w ∈ wsL_law := fun _ h => List.mem_append_left _ (List.mem_append_left _ (List.mem_append_left _ (List.mem_append_left _ (List.mem_append_left _ (List.mem_append_left _ (List.mem_append_left _ (List.mem_append_left _ (List.mem_append_left _ (List.mem_append_left _ (List.mem_append_left _ (List.mem_append_left _ (List.mem_append_left _ (List.mem_append_left _ (List.mem_append_right _ (List.mem_append_right _ (List.mem_append_right _ (List.mem_append_right _ (List.mem_append_right _ (List.mem_append_right _ (List.mem_append_right _ (List.mem_append_right _ (List.mem_append_right _ (List.mem_append_right _ (List.mem_append_right _ (List.mem_append_right _ (List.mem_append_right _ (List.mem_append_right _ (List.mem_append_right _ (List.mem_append_left _ h)))))))))))))))))))))))))))))
theorem wl_17 : ∀ w ∈ wsL_law_r17, w ∈ wsL_law := fun _ h => List.mem_append_left _ (List.mem_append_left _ (List.mem_append_left _ (List.mem_append_left _ (List.mem_append_left _ (List.mem_append_left _ (List.mem_append_left _ (List.mem_append_left _ (List.mem_append_left _ (List.mem_append_left _ (List.mem_append_left _ (List.mem_append_left _ (List.mem_append_left _ (List.mem_append_left _ (List.mem_append_right _ (List.mem_append_right _ (List.mem_append_right _ (List.mem_append_right _ (List.mem_append_right _ (List.mem_append_right _ (List.mem_append_right _ (List.mem_append_right _ (List.mem_append_right _ (List.mem_append_right _ (List.mem_append_right _ (List.mem_append_right _ (List.mem_append_right _ (List.mem_append_right _ (List.mem_append_right _ (List.mem_append_right _ (List.mem_append_left _ h))))))))))))))))))))))))))))))
theorem wl_18 : ∀ w ∈ wsL_law_r18, w ∈ wsL_law := fun _ h => List.mem_append_left _ (List.mem_append_left _ (List.mem_append_left _ (List.mem_append_left _ (List.mem_append_left _ (List.mem_append_left _ (List.mem_append_left _ (List.mem_append_left _ (List.mem_append_left _ (List.mem_append_left _ (List.mem_append_left _ (List.mem_append_left _ (List.mem_append_left _ (List.mem_append_left _ (List.mem_append_right _ (List.mem_append_right _ (List.mem_append_right _ (List.mem_append_right _ (List.mem_append_right _ (List.mem_append_right _ (List.mem_append_right _ (List.mem_append_right _ (List.mem_append_right _ (List.mem_append_right _ (List.mem_append_right _ (List.mem_append_right _ (List.mem_append_right _ (List.mem_append_right _ (List.mem_append_right _ (List.mem_append_right _ (List.mem_append_right _ (List.mem_append_left _ h)))))))))))))))))))))))))))))))
theorem wl_19 : ∀ w ∈ wsL_law_r19, w ∈ wsL_law := fun _ h => List.mem_append_left _ (List.mem_append_left _ (List.mem_append_left _ (List.mem_append_left _ (List.mem_append_left _ (List.mem_append_left _ (List.mem_append_left _ (List.mem_append_left _ (List.mem_append_left _ (List.mem_append_left _ (List.mem_append_left _ (List.mem_append_left _ (List.mem_append_left _ (List.mem_append_left _ (List.mem_append_right _ (List.mem_append_right _ (List.mem_append_right _ (List.mem_append_right _ (List.mem_append_right _ (List.mem_append_right _ (List.mem_append_right _ (List.mem_append_right _ (List.mem_append_right _ (List.mem_append_right _ (List.mem_append_right _ (List.mem_append_right _ (List.mem_append_right _ (List.mem_append_right _ (List.mem_append_right _ (List.mem_append_right _ (List.mem_append_right _ (List.mem_append_right _ (List.mem_append_left _ h))))))))))))))))))))))))))))))))
theorem wl_20 : ∀ w ∈ wsL_law_r20, w ∈ wsL_law := fun _ h => List.mem_append_left _ (List.mem_append_left _ (List.mem_append_left _ (List.mem_append_left _ (List.mem_append_left _ (List.mem_append_left _ (List.mem_append_left _ (List.mem_append_left _ (List.mem_append_left _ (List.mem_append_left _ (List.mem_append_left _ (List.mem_append_left _ (List.mem_append_left _ (List.mem_append_left _ (List.mem_append_right _ (List.mem_append_right _ (List.mem_append_right _ (List.mem_append_right _ (List.mem_append_right _ (List.mem_append_right _ (List.mem_append_right _ (List.mem_append_right _ (List.mem_append_right _ (List.mem_append_right _ (List.mem_append_right _ (List.mem_append_right _ (List.mem_append_right _ (List.mem_append_right _ (List.mem_append_right _ (List.mem_append_right _ (List.mem_append_right _ (List.mem_append_right _ (List.mem_append_right _ (List.mem_append_left _ h)))))))))))))))))))))))))))))))))
theorem wl_21 : ∀ w ∈ wsL_law_r21, w ∈ wsL_law := fun _ h => List.mem_append_left _ (List.mem_append_left _ (List.mem_append_left _ (List.mem_append_left _ (List.mem_append_left _ (List.mem_append_left _ (List.mem_append_left _ (List.mem_append_left _ (List.mem_append_left _ (List.mem_append_left _ (List.mem_append_left _ (List.mem_append_left _ (List.mem_append_left _ (List.mem_append_left _ (List.mem_append_right _ (List.mem_append_right _ (List.mem_append_right _ (List.mem_append_right _ (List.mem_append_right _ (List.mem_append_right _ (List.mem_append_right _ (List.mem_append_right _ (List.mem_append_right _ (List.mem_append_right _ (List.mem_append_right _ (List.mem_append_right _ (List.mem_append_right _ (List.mem_append_right _ (List.mem_append_right _ (List.mem_append_right _ (List.mem_append_right _ (List.mem_append_right _ (List.mem_append_right _ (List.mem_append_right _ (List.mem_append_left _ h))))))))))))))))))))))))))))))))))
theorem wl_22 : ∀ w ∈ wsL_law_r22, w ∈ wsL_law := fun _ h => List.mem_append_left _ (List.mem_append_left _ (List.mem_append_left _ (List.mem_append_left _ (List.mem_append_left _ (List.mem_append_left _ (List.mem_append_left _ (List.mem_append_left _ (List.mem_append_left _ (List.mem_append_left _ (List.mem_append_left _ (List.mem_append_left _ (List.mem_append_left _ (List.mem_append_left _ (List.mem_append_right _ (List.mem_append_right _ (List.mem_append_right _ (List.mem_append_right _ (List.mem_append_right _ (List.mem_append_right _ (List.mem_append_right _ (List.mem_append_right _ (List.mem_append_right _ (List.mem_append_right _ (List.mem_append_right _ (List.mem_append_right _ (List.mem_append_right _ (List.mem_append_right _ (List.mem_append_right _ (List.mem_append_right _ (List.mem_append_right _ (List.mem_append_right _ (List.mem_append_right _ (List.mem_append_right _ (List.mem_append_right _ (List.mem_append_left _ h)))))))))))))))))))))))))))))))))))
theorem wl_23 : ∀ w ∈ wsL_law_r23, w ∈ wsL_law := fun _ h => List.mem_append_left _ (List.mem_append_left _ (List.mem_append_left _ (List.mem_append_left _ (List.mem_append_left _ (List.mem_append_left _ (List.mem_append_left _ (List.mem_append_left _ (List.mem_append_left _ (List.mem_append_left _ (List.mem_append_left _ (List.mem_append_left _ (List.mem_append_left _ (List.mem_append_left _ (List.mem_append_right _ (List.mem_append_right _ (List.mem_append_right _ (List.mem_append_right _ (List.mem_append_right _ (List.mem_append_right _ (List.mem_append_right _ (List.mem_append_right _ (List.mem_append_right _ (List.mem_append_right _ (List.mem_append_right _ (List.mem_append_right _ (List.mem_append_right _ (List.mem_append_right _ (List.mem_append_right _ (List.mem_append_right _ (List.mem_append_right _ (List.mem_append_right _ (List.mem_append_right _ (List.mem_append_right _ (List.mem_append_right _ (List.mem_append_right _ (List.mem_append_left _ h))))))))))))))))))))))))))))))))))))
theorem wl_24 : ∀ w ∈ wsL_law_r24, w ∈ wsL_law := fun _ h => List.mem_append_left _ (List.mem_append_left _ (List.mem_append_left _ (List.mem_append_left _ (List.mem_append_left _ (List.mem_append_left _ (List.mem_append_left _ (List.mem_append_left _ (List.mem_append_left _ (List.mem_append_left _ (List.mem_append_left _ (List.mem_append_left _ (List.mem_append_left _ (List.mem_append_left _ (List.mem_append_right _ (List.mem_append_right _ (List.mem_append_right _ (List.mem_append_right _ (List.mem_append_right _ (List.mem_append_right _ (List.mem_append_right _ (List.mem_append_right _ (List.mem_append_right _ (List.mem_append_right _ (List.mem_append_right _ (List.mem_append_right _ (List.mem_append_right _ (List.mem_append_right _ (List.mem_append_right _ (List.mem_append_right _ (List.mem_append_right _ (List.mem_append_right _ (List.mem_append_right _ (List.mem_append_right _ (List.mem_append_right _ (List.mem_append_right _ (List.mem_append_right _ (List.mem_append_left _ h)))))))))))))))))))))))))))))))))))))
theorem wl_25 : ∀ w ∈ wsL_law_r25, w ∈ wsL_law := fun _ h => List.mem_append_left _ (List.mem_append_left _ (List.mem_append_left _ (List.mem_append_left _ (List.mem_append_left _ (List.mem_append_left _ (List.mem_append_left _ (List.mem_append_left _ (List.mem_append_left _ (List.mem_append_left _ (List.mem_append_left _ (List.mem_append_left _ (List.mem_append_left _ (List.mem_append_left _ (List.mem_append_right _ (List.mem_append_right _ (List.mem_append_right _ (List.mem_append_right _ (List.mem_append_right _ (List.mem_append_right _ (List.mem_append_right _ (List.mem_append_right _ (List.mem_append_right _ (List.mem_append_right _ (List.mem_append_right _ (List.mem_append_right _ (List.mem_append_right _ (List.mem_append_right _ (List.mem_append_right _ (List.mem_append_right _ (List.mem_append_right _ (List.mem_append_right _ (List.mem_append_right _ (List.mem_append_right _ (List.mem_append_right _ (List.mem_append_right _ (List.mem_append_right _ (List.mem_append_right _ (List.mem_append_left _ h))))))))))))))))))))))))))))))))))))))
theorem wl_26 : ∀ w ∈ wsL_law_r26, w ∈ wsL_law := fun _ h => List.mem_append_left _ (List.mem_append_left _ (List.mem_append_left _ (List.mem_append_left _ (List.mem_append_left _ (List.mem_append_left _ (List.mem_append_left _ (List.mem_append_left _ (List.mem_append_left _ (List.mem_append_left _ (List.mem_append_left _ (List.mem_append_left _ (List.mem_append_left _ (List.mem_append_left _ (List.mem_append_right _ (List.mem_append_right _ (List.mem_append_right _ (List.mem_append_right _ (List.mem_append_right _ (List.mem_append_right _ (List.mem_append_right _ (List.mem_append_right _ (List.mem_append_right _ (List.mem_append_right _ (List.mem_append_right _ (List.mem_append_right _ (List.mem_append_right _ (List.mem_append_right _ (List.mem_append_right _ (List.mem_append_right _ (List.mem_append_right _ (List.mem_append_right _ (List.mem_append_right _ (List.mem_append_right _ (List.mem_append_right _ (List.mem_append_right _ (List.mem_append_right _ (List.mem_append_right _ (List.mem_append_right _ (List.mem_append_left _ h)))))))))))))))))))))))))))))))))))))))
theorem wl_27 : ∀ w ∈ wsL_law_r27, w ∈ wsL_law := fun _ h => List.mem_append_left _ (List.mem_append_left _ (List.mem_append_left _ (List.mem_append_left _ (List.mem_append_left _ (List.mem_append_left _ (List.mem_append_left _ (List.mem_append_left _ (List.mem_append_left _ (List.mem_append_left _ (List.mem_append_left _ (List.mem_append_left _ (List.mem_append_left _ (List.mem_append_left _ (List.mem_append_right _ (List.mem_append_right _ (List.mem_append_right _ (List.mem_append_right _ (List.mem_append_right _ (List.mem_append_right _ (List.mem_append_right _ (List.mem_append_right _ (List.mem_append_right _ (List.mem_append_right _ (List.mem_append_right _ (List.mem_append_right _ (List.mem_append_right _ (List.mem_append_right _ (List.mem_append_right _ (List.mem_append_right _ (List.mem_append_right _ (List.mem_append_right _ (List.mem_append_right _ (List.mem_append_right _ (List.mem_append_right _ (List.mem_append_right _ (List.mem_append_right _ (List.mem_append_right _ (List.mem_append_right _ (List.mem_append_right _ (List.mem_append_left _ h))))))))))))))))))))))))))))))))))))))))
theorem wl_28 : ∀ w ∈ wsL_law_r28, w ∈ wsL_law := fun _ h => List.mem_append_left _ (List.mem_append_left _ (List.mem_append_left _ (List.mem_append_left _ (List.mem_append_left _ (List.mem_append_left _ (List.mem_append_left _ (List.mem_append_left _ (List.mem_append_left _ (List.mem_append_left _ (List.mem_append_left _ (List.mem_append_left _ (List.mem_append_left _ (List.mem_append_left _ (List.mem_append_right _ (List.mem_append_right _ (List.mem_append_right _ (List.mem_append_right _ (List.mem_append_right _ (List.mem_append_right _ (List.mem_append_right _ (List.mem_append_right _ (List.mem_append_right _ (List.mem_append_right _ (List.mem_append_right _ (List.mem_append_right _ (List.mem_append_right _ (List.mem_append_right _ (List.mem_append_right _ (List.mem_append_right _ (List.mem_append_right _ (List.mem_append_right _ (List.mem_append_right _ (List.mem_append_right _ (List.mem_append_right _ (List.mem_append_right _ (List.mem_append_right _ (List.mem_append_right _ (List.mem_append_right _ (List.mem_append_right _ (List.mem_append_right _ (List.mem_append_left _ h)))))))))))))))))))))))))))))))))))))))))
theorem wl_29 : ∀ w ∈ wsL_law_r29, w ∈ wsL_law := fun _ h => List.mem_append_left _ (List.mem_append_left _ (List.mem_append_left _ (List.mem_append_left _ (List.mem_append_left _ (List.mem_append_left _ (List.mem_append_left _ (List.mem_append_left _ (List.mem_append_left _ (List.mem_append_left _ (List.mem_append_left _ (List.mem_append_left _ (List.mem_append_left _ (List.mem_append_left _ (List.mem_append_right _ (List.mem_append_right _ (List.mem_append_right _ (List.mem_append_right _ (List.mem_append_right _ (List.mem_append_right _ (List.mem_append_right _ (List.mem_append_right _ (List.mem_append_right _ (List.mem_append_right _ (List.mem_append_right _ (List.mem_append_right _ (List.mem_append_right _ (List.mem_append_right _ (List.mem_append_right _ (List.mem_append_right _ (List.mem_append_right _ (List.mem_append_right _ (List.mem_append_right _ (List.mem_append_right _ (List.mem_append_right _ (List.mem_append_right _ (List.mem_append_right _ (List.mem_append_right _ (List.mem_append_right _ (List.mem_append_right _ (List.mem_append_right _ (List.mem_append_right _ (List.mem_append_left _ h))))))))))))))))))))))))))))))))))))))))))
theorem wl_30 : ∀ w ∈ wsL_law_r30, w ∈ wsL_law := fun _ h => List.mem_append_left _ (List.mem_append_left _ (List.mem_append_left _ (List.mem_append_left _ (List.mem_append_left _ (List.mem_append_left _ (List.mem_append_left _ (List.mem_append_left _ (List.mem_append_left _ (List.mem_append_left _ (List.mem_append_left _ (List.mem_append_left _ (List.mem_append_left _ (List.mem_append_left _ (List.mem_append_right _ (List.mem_append_right _ (List.mem_append_right _ (List.mem_append_right _ (List.mem_append_right _ (List.mem_append_right _ (List.mem_append_right _ (List.mem_append_right _ (List.mem_append_right _ (List.mem_append_right _ (List.mem_append_right _ (List.mem_append_right _ (List.mem_append_right _ (List.mem_append_right _ (List.mem_append_right _ (List.mem_append_right _ (List.mem_append_right _ (List.mem_append_right _ (List.mem_append_right _ (List.mem_append_right _ (List.mem_append_right _ (List.mem_append_right _ (List.mem_append_right _ (List.mem_append_right _ (List.mem_append_right _ (List.mem_append_right _ (List.mem_append_right _ (List.mem_append_right _ (List.mem_append_right _ (List.mem_append_left _ h)))))))))))))))))))))))))))))))))))))))))))
theorem wl_31 : ∀ w ∈ wsL_law_r31, w ∈ wsL_law := fun _ h => List.mem_append_left _ (List.mem_append_left _ (List.mem_append_left _ (List.mem_append_left _ (List.mem_append_left _ (List.mem_append_left _ (List.mem_append_left _ (List.mem_append_left _ (List.mem_append_left _ (List.mem_append_left _ (List.mem_append_left _ (List.mem_append_left _ (List.mem_append_left _ (List.mem_append_left _ (List.mem_append_right _ (List.mem_append_right _ (List.mem_append_right _ (List.mem_append_right _ (List.mem_append_right _ (List.mem_append_right _ (List.mem_append_right _ (List.mem_append_right _ (List.mem_append_right _ (List.mem_append_right _ (List.mem_append_right _ (List.mem_append_right _ (List.mem_append_right _ (List.mem_append_right _ (List.mem_append_right _ (List.mem_append_right _ (List.mem_append_right _ (List.mem_append_right _ (List.mem_append_right _ (List.mem_append_right _ (List.mem_append_right _ (List.mem_append_right _ (List.mem_append_right _ (List.mem_append_right _ (List.mem_append_right _ (List.mem_append_right _ (List.mem_append_right _ (List.mem_append_right _ (List.mem_append_right _ (List.mem_append_right _ (List.mem_append_left _ h))))))))))))))))))))))))))))))))))))))))))))
theorem wl_32 : ∀ w ∈ wsL_law_r32, w ∈ wsL_law := fun _ h => List.mem_append_left _ (List.mem_append_left _ (List.mem_append_left _ (List.mem_append_left _ (List.mem_append_left _ (List.mem_append_left _ (List.mem_append_left _ (List.mem_append_left _ (List.mem_append_left _ (List.mem_append_left _ (List.mem_append_left _ (List.mem_append_left _ (List.mem_append_left _ (List.mem_append_left _ (List.mem_append_right _ (List.mem_append_right _ (List.mem_append_right _ (List.mem_append_right _ (List.mem_append_right _ (List.mem_append_right _ (List.mem_append_right _ (List.mem_append_right _ (List.mem_append_right _ (List.mem_append_right _ (List.mem_append_right _ (List.mem_append_right _ (List.mem_append_right _ (List.mem_append_right _ (List.mem_append_right _ (List.mem_append_right _ (List.mem_append_right _ (List.mem_append_right _ (List.mem_append_right _ (List.mem_append_right _ (List.mem_append_right _ (List.mem_append_right _ (List.mem_append_right _ (List.mem_append_right _ (List.mem_append_right _ (List.mem_append_right _ (List.mem_append_right _ (List.mem_append_right _ (List.mem_append_right _ (List.mem_append_right _ (List.mem_append_right _ (List.mem_append_left _ h)))))))))))))))))))))))))))))))))))))))))))))
theorem wl_33 : ∀ w ∈ wsL_law_r33, w ∈ wsL_law := fun _ h => List.mem_append_left _ (List.mem_append_left _ (List.mem_append_left _ (List.mem_append_left _ (List.mem_append_left _ (List.mem_append_left _ (List.mem_append_left _ (List.mem_append_left _ (List.mem_append_left _ (List.mem_append_left _ (List.mem_append_left _ (List.mem_append_left _ (List.mem_append_left _ (List.mem_append_left _ (List.mem_append_right _ (List.mem_append_right _ (List.mem_append_right _ (List.mem_append_right _ (List.mem_append_right _ (List.mem_append_right _ (List.mem_append_right _ (List.mem_append_right _ (List.mem_append_right _ (List.mem_append_right _ (List.mem_append_right _ (List.mem_append_right _ (List.mem_append_right _ (List.mem_append_right _ (List.mem_append_right _ (List.mem_append_right _ (List.mem_append_right _ (List.mem_append_right _ (List.mem_append_right _ (List.mem_append_right _ (List.mem_append_right _ (List.mem_append_right _ (List.mem_append_right _ (List.mem_append_right _ (List.mem_append_right _ (List.mem_append_right _ (List.mem_append_right _ (List.mem_append_right _ (List.mem_append_right _ (List.mem_append_right _ (List.mem_append_right _ (List.mem_append_right _ (List.mem_append_left _ h))))))))))))))))))))))))))))))))))))))))))))))
theorem wl_34 : ∀ w ∈ wsL_law_r34, w ∈ wsL_law := fun _ h => List.mem_append_left _ (List.mem_append_left _ (List.mem_append_left _ (List.mem_append_left _ (List.mem_append_left _ (List.mem_append_left _ (List.mem_append_left _ (List.mem_append_left _ (List.mem_append_left _ (List.mem_append_left _ (List.mem_append_left _ (List.mem_append_left _ (List.mem_append_left _ (List.mem_append_left _ (List.mem_append_right _ (List.mem_append_right _ (List.mem_append_right _ (List.mem_append_right _ (List.mem_append_right _ (List.mem_append_right _ (List.mem_append_right _ (List.mem_append_right _ (List.mem_append_right _ (List.mem_append_right _ (List.mem_append_right _ (List.mem_append_right _ (List.mem_append_right _ (List.mem_append_right _ (List.mem_append_right _ (List.mem_append_right _ (List.mem_append_right _ (List.mem_append_right _ (List.mem_append_right _ (List.mem_append_right _ (List.mem_append_right _ (List.mem_append_right _ (List.mem_append_right _ (List.mem_append_right _ (List.mem_append_right _ (List.mem_append_right _ (List.mem_append_right _ (List.mem_append_right _ (List.mem_append_right _ (List.mem_append_right _ (List.mem_append_right _ (List.mem_append_right _ (List.mem_append_right _ (List.mem_append_left _ h)))))))))))))))))))))))))))))))))))))))))))))))
theorem wl_35 : ∀ w ∈ wsL_law_r35, w ∈ wsL_law := fun _ h => List.mem_append_left _ (List.mem_append_left _ (List.mem_append_left _ (List.mem_append_left _ (List.mem_append_left _ (List.mem_append_left _ (List.mem_append_left _ (List.mem_append_left _ (List.mem_append_left _ (List.mem_append_left _ (List.mem_append_left _ (List.mem_append_left _ (List.mem_append_left _ (List.mem_append_left _ (List.mem_append_right _ (List.mem_append_right _ (List.mem_append_right _ (List.mem_append_right _ (List.mem_append_right _ (List.mem_append_right _ (List.mem_append_right _ (List.mem_append_right _ (List.mem_append_right _ (List.mem_append_right _ (List.mem_append_right _ (List.mem_append_right _ (List.mem_append_right _ (List.mem_append_right _ (List.mem_append_right _ (List.mem_append_right _ (List.mem_append_right _ (List.mem_append_right _ (List.mem_append_right _ (List.mem_append_right _ (List.mem_append_right _ (List.mem_append_right _ (List.mem_append_right _ (List.mem_append_right _ (List.mem_append_right _ (List.mem_append_right _ (List.mem_append_right _ (List.mem_append_right _ (List.mem_append_right _ (List.mem_append_right _ (List.mem_append_right _ (List.mem_append_right _ (List.mem_append_right _ (List.mem_append_right _ (List.mem_append_left _ h))))))))))))))))))))))))))))))))))))))))))))))))
theorem wl_36 : ∀ w ∈ wsL_law_r36, w ∈ wsL_law := fun _ h => List.mem_append_left _ (List.mem_append_left _ (List.mem_append_left _ (List.mem_append_left _ (List.mem_append_left _ (List.mem_append_left _ (List.mem_append_left _ (List.mem_append_left _ (List.mem_append_left _ (List.mem_append_left _ (List.mem_append_left _ (List.mem_append_left _ (List.mem_append_left _ (List.mem_append_left _ (List.mem_append_right _ (List.mem_append_right _ (List.mem_append_right _ (List.mem_append_right _ (List.mem_append_right _ (List.mem_append_right _ (List.mem_append_right _ (List.mem_append_right _ (List.mem_append_right _ (List.mem_append_right _ (List.mem_append_right _ (List.mem_append_right _ (List.mem_append_right _ (List.mem_append_right _ (List.mem_append_right _ (List.mem_append_right _ (List.mem_append_right _ (List.mem_append_right _ (List.mem_append_right _ (List.mem_append_right _ (List.mem_append_right _ (List.mem_append_right _ (List.mem_append_right _ (List.mem_append_right _ (List.mem_append_right _ (List.mem_append_right _ (List.mem_append_right _ (List.mem_append_right _ (List.mem_append_right _ (List.mem_append_right _ (List.mem_append_right _ (List.mem_append_right _ (List.mem_append_right _ (List.mem_append_right _ (List.mem_append_right _ (List.mem_append_left _ h)))))))))))))))))))))))))))))))))))))))))))))))))
theorem wl_37 : ∀ w ∈ wsL_law_r37, w ∈ wsL_law := fun _ h => List.mem_append_left _ (List.mem_append_left _ (List.mem_append_left _ (List.mem_append_left _ (List.mem_append_left _ (List.mem_append_left _ (List.mem_append_left _ (List.mem_append_left _ (List.mem_append_left _ (List.mem_append_left _ (List.mem_append_left _ (List.mem_append_left _ (List.mem_append_left _ (List.mem_append_left _ (List.mem_append_right _ (List.mem_append_right _ (List.mem_append_right _ (List.mem_append_right _ (List.mem_append_right _ (List.mem_append_right _ (List.mem_append_right _ (List.mem_append_right _ (List.mem_append_right _ (List.mem_append_right _ (List.mem_append_right _ (List.mem_append_right _ (List.mem_append_right _ (List.mem_append_right _ (List.mem_append_right _ (List.mem_append_right _ (List.mem_append_right _ (List.mem_append_right _ (List.mem_append_right _ (List.mem_append_right _ (List.mem_append_right _ (List.mem_append_right _ (List.mem_append_right _ (List.mem_append_right _ (List.mem_append_right _ (List.mem_append_right _ (List.mem_append_right _ (List.mem_append_right _ (List.mem_append_right _ (List.mem_append_right _ (List.mem_append_right _ (List.mem_append_right _ (List.mem_append_right _ (List.mem_append_right _ (List.mem_append_right _ (List.mem_append_right _ (List.mem_append_left _ h))))))))))))))))))))))))))))))))))))))))))))))))))
theorem wl_38 : ∀ w ∈ wsL_law_r38, w ∈ wsL_law := fun _ h => List.mem_append_left _ (List.mem_append_left _ (List.mem_append_left _ (List.mem_append_left _ (List.mem_append_left _ (List.mem_append_left _ (List.mem_append_left _ (List.mem_append_left _ (List.mem_append_left _ (List.mem_append_left _ (List.mem_append_left _ (List.mem_append_left _ (List.mem_append_left _ (List.mem_append_left _ (List.mem_append_right _ (List.mem_append_right _ (List.mem_append_right _ (List.mem_append_right _ (List.mem_append_right _ (List.mem_append_right _ (List.mem_append_right _ (List.mem_append_right _ (List.mem_append_right _ (List.mem_append_right _ (List.mem_append_right _ (List.mem_append_right _ (List.mem_append_right _ (List.mem_append_right _ (List.mem_append_right _ (List.mem_append_right _ (List.mem_append_right _ (List.mem_append_right _ (List.mem_append_right _ (List.mem_append_right _ (List.mem_append_right _ (List.mem_append_right _ (List.mem_append_right _ (List.mem_append_right _ (List.mem_append_right _ (List.mem_append_right _ (List.mem_append_right _ (List.mem_append_right _ (List.mem_append_right _ (List.mem_append_right _ (List.mem_append_right _ (List.mem_append_right _ (List.mem_append_right _ (List.mem_append_right _ (List.mem_append_right _ (List.mem_append_right _ (List.mem_append_right _ (List.mem_append_left _ h)))))))))))))))))))))))))))))))))))))))))))))))))))
theorem wl_39 : ∀ w ∈ wsL_law_r39, w ∈ wsL_law := fun _ h => List.mem_append_left _ (List.mem_append_left _ (List.mem_append_left _ (List.mem_append_left _ (List.mem_append_left _ (List.mem_append_left _ (List.mem_append_left _ (List.mem_append_left _ (List.mem_append_left _ (List.mem_append_left _ (List.mem_append_left _ (List.mem_append_left _ (List.mem_append_left _ (List.mem_append_left _ (List.mem_append_right _ (List.mem_append_right _ (List.mem_append_right _ (List.mem_append_right _ (List.mem_append_right _ (List.mem_append_right _ (List.mem_append_right _ (List.mem_append_right _ (List.mem_append_right _ (List.mem_append_right _ (List.mem_append_right _ (List.mem_append_right _ (List.mem_append_right _ (List.mem_append_right _ (List.mem_append_right _ (List.mem_append_right _ (List.mem_append_right _ (List.mem_append_right _ (List.mem_append_right _ (List.mem_append_right _ (List.mem_append_right _ (List.mem_append_right _ (List.mem_append_right _ (List.mem_append_right _ (List.mem_append_right _ (List.mem_append_right _ (List.mem_append_right _ (List.mem_append_right _ (List.mem_append_right _ (List.mem_append_right _ (List.mem_append_right _ (List.mem_append_right _ (List.mem_append_right _ (List.mem_append_right _ (List.mem_append_right _ (List.mem_append_right _ (List.mem_append_right _ (List.mem_append_right _ (List.mem_append_left _ h))))))))))))))))))))))))))))))))))))))))))))))))))))
theorem wl_40 : ∀ w ∈ wsL_law_r40, w ∈ wsL_law := fun _ h => List.mem_append_left _ (List.mem_append_left _ (List.mem_append_left _ (List.mem_append_left _ (List.mem_append_left _ (List.mem_append_left _ (List.mem_append_left _ (List.mem_append_left _ (List.mem_append_left _ (List.mem_append_left _ (List.mem_append_left _ (List.mem_append_left _ (List.mem_append_left _ (List.mem_append_left _ (List.mem_append_right _ (List.mem_append_right _ (List.mem_append_right _ (List.mem_append_right _ (List.mem_append_right _ (List.mem_append_right _ (List.mem_append_right _ (List.mem_append_right _ (List.mem_append_right _ (List.mem_append_right _ (List.mem_append_right _ (List.mem_append_right _ (List.mem_append_right _ (List.mem_append_right _ (List.mem_append_right _ (List.mem_append_right _ (List.mem_append_right _ (List.mem_append_right _ (List.mem_append_right _ (List.mem_append_right _ (List.mem_append_right _ (List.mem_append_right _ (List.mem_append_right _ (List.mem_append_right _ (List.mem_append_right _ (List.mem_append_right _ (List.mem_append_right _ (List.mem_append_right _ (List.mem_append_right _ (List.mem_append_right _ (List.mem_append_right _ (List.mem_append_right _ (List.mem_append_right _ (List.mem_append_right _ (List.mem_append_right _ (List.mem_append_right _ (List.mem_append_right _ (List.mem_append_right _ (List.mem_append_right _ (List.mem_append_left _ h)))))))))))))))))))))))))))))))))))))))))))))))))))))
theorem wl_41 : ∀ w ∈ wsL_law_r41, w ∈ wsL_law := fun _ h => List.mem_append_left _ (List.mem_append_left _ (List.mem_append_left _ (List.mem_append_left _ (List.mem_append_left _ (List.mem_append_left _ (List.mem_append_left _ (List.mem_append_left _ (List.mem_append_left _ (List.mem_append_left _ (List.mem_append_left _ (List.mem_append_left _ (List.mem_append_left _ (List.mem_append_left _ (List.mem_append_right _ (List.mem_append_right _ (List.mem_append_right _ (List.mem_append_right _ (List.mem_append_right _ (List.mem_append_right _ (List.mem_append_right _ (List.mem_append_right _ (List.mem_append_right _ (List.mem_append_right _ (List.mem_append_right _ (List.mem_append_right _ (List.mem_append_right _ (List.mem_append_right _ (List.mem_append_right _ (List.mem_append_right _ (List.mem_append_right _ (List.mem_append_right _ (List.mem_append_right _ (List.mem_append_right _ (List.mem_append_right _ (List.mem_append_right _ (List.mem_append_right _ (List.mem_append_right _ (List.mem_append_right _ (List.mem_append_right _ (List.mem_append_right _ (List.mem_append_right _ (List.mem_append_right _ (List.mem_append_right _ (List.mem_append_right _ (List.mem_append_right _ (List.mem_append_right _ (List.mem_append_right _ (List.mem_append_right _ (List.mem_append_right _ (List.mem_append_right _ (List.mem_append_right _ (List.mem_append_right _ (List.mem_append_right _ (List.mem_append_left _ h))))))))))))))))))))))))))))))))))))))))))))))))))))))
theorem wl_42 : ∀ w ∈ wsL_law_r42, w ∈ wsL_law := fun _ h => List.mem_append_left _ (List.mem_append_left _ (List.mem_append_left _ (List.mem_append_left _ (List.mem_append_left _ (List.mem_append_left _ (List.mem_append_left _ (List.mem_append_left _ (List.mem_append_left _ (List.mem_append_left _ (List.mem_append_left _ (List.mem_append_left _ (List.mem_append_left _ (List.mem_append_left _ (List.mem_append_right _ (List.mem_append_right _ (List.mem_append_right _ (List.mem_append_right _ (List.mem_append_right _ (List.mem_append_right _ (List.mem_append_right _ (List.mem_append_right _ (List.mem_append_right _ (List.mem_append_right _ (List.mem_append_right _ (List.mem_append_right _ (List.mem_append_right _ (List.mem_append_right _ (List.mem_append_right _ (List.mem_append_right _ (List.mem_append_right _ (List.mem_append_right _ (List.mem_append_right _ (List.mem_append_right _ (List.mem_append_right _ (List.mem_append_right _ (List.mem_append_right _ (List.mem_append_right _ (List.mem_append_right _ (List.mem_append_right _ (List.mem_append_right _ (List.mem_append_right _ (List.mem_append_right _ (List.mem_append_right _ (List.mem_append_right _ (List.mem_append_right _ (List.mem_append_right _ (List.mem_append_right _ (List.mem_append_right _ (List.mem_append_right _ (List.mem_append_right _ (List.mem_append_right _ (List.mem_append_right _ (List.mem_append_right _ (List.mem_append_right _ (List.mem_append_left _ h)))))))))))))))))))))))))))))))))))))))))))))))))))))))
theorem wl_43 : ∀ w ∈ wsL_law_r43, w ∈ wsL_law := fun _ h => List.mem_append_left _ (List.mem_append_left _ (List.mem_append_left _ (List.mem_append_left _ (List.mem_append_left _ (List.mem_append_left _ (List.mem_append_left _ (List.mem_append_left _ (List.mem_append_left _ (List.mem_append_left _ (List.mem_append_left _ (List.mem_append_left _ (List.mem_append_left _ (List.mem_append_left _ (List.mem_append_right _ (List.mem_append_right _ (List.mem_append_right _ (List.mem_append_right _ (List.mem_append_right _ (List.mem_append_right _ (List.mem_append_right _ (List.mem_append_right _ (List.mem_append_right _ (List.mem_append_right _ (List.mem_append_right _ (List.mem_append_right _ (List.mem_append_right _ (List.mem_append_right _ (List.mem_append_right _ (List.mem_append_right _ (List.mem_append_right _ (List.mem_append_right _ (List.mem_append_right _ (List.mem_append_right _ (List.mem_append_right _ (List.mem_append_right _ (List.mem_append_right _ (List.mem_append_right _ (List.mem_append_right _ (List.mem_append_right _ (List.mem_append_right _ (List.mem_append_right _ (List.mem_append_right _ (List.mem_append_right _ (List.mem_append_right _ (List.mem_append_right _ (List.mem_append_right _ (List.mem_append_right _ (List.mem_append_right _ (List.mem_append_right _ (List.mem_append_right _ (List.mem_append_right _ (List.mem_append_right _ (List.mem_append_right _ (List.mem_append_right _ (List.mem_append_right _ (List.mem_append_left _ h))))))))))))))))))))))))))))))))))))))))))))))))))))))))
theorem wl_44 : ∀ w ∈ wsL_law_r44, w ∈ wsL_law := fun _ h => List.mem_append_left _ (List.mem_append_left _ (List.mem_append_left _ (List.mem_append_left _ (List.mem_append_left _ (List.mem_append_left _ (List.mem_append_left _ (List.mem_append_left _ (List.mem_append_left _ (List.mem_append_left _ (List.mem_append_left _ (List.mem_append_left _ (List.mem_append_left _ (List.mem_append_left _ (List.mem_append_right _ (List.mem_append_right _ (List.mem_append_right _ (List.mem_append_right _ (List.mem_append_right _ (List.mem_append_right _ (List.mem_append_right _ (List.mem_append_right _ (List.mem_append_right _ (List.mem_append_right _ (List.mem_append_right _ (List.mem_append_right _ (List.mem_append_right _ (List.mem_append_right _ (List.mem_append_right _ (List.mem_append_right _ (List.mem_append_right _ (List.mem_append_right _ (List.mem_append_right _ (List.mem_append_right _ (List.mem_append_right _ (List.mem_append_right _ (List.mem_append_right _ (List.mem_append_right _ (List.mem_append_right _ (List.mem_append_right _ (List.mem_append_right _ (List.mem_append_right _ (List.mem_append_right _ (List.mem_append_right _ (List.mem_append_right _ (List.mem_append_right _ (List.mem_append_right _ (List.mem_append_right _ (List.mem_append_right _ (List.mem_append_right _ (List.mem_append_right _ (List.mem_append_right _ (List.mem_append_right _ (List.mem_append_right _ (List.mem_append_right _ (List.mem_append_right _ (List.mem_append_right _ (List.mem_append_left _ h)))))))))))))))))))))))))))))))))))))))))))))))))))))))))
theorem wl_45 : ∀ w ∈ wsL_law_r45, w ∈ wsL_law := fun _ h => List.mem_append_left _ (List.mem_append_left _ (List.mem_append_left _ (List.mem_append_left _ (List.mem_append_left _ (List.mem_append_left _ (List.mem_append_left _ (List.mem_append_left _ (List.mem_append_left _ (List.mem_append_left _ (List.mem_append_left _ (List.mem_append_left _ (List.mem_append_left _ (List.mem_append_left _ (List.mem_append_right _ (List.mem_append_right _ (List.mem_append_right _ (List.mem_append_right _ (List.mem_append_right _ (List.mem_append_right _ (List.mem_append_right _ (List.mem_append_right _ (List.mem_append_right _ (List.mem_append_right _ (List.mem_append_right _ (List.mem_append_right _ (List.mem_append_right _ (List.mem_append_right _ (List.mem_append_right _ (List.mem_append_right _ (List.mem_append_right _ (List.mem_append_right _ (List.mem_append_right _ (List.mem_append_right _ (List.mem_append_right _ (List.mem_append_right _ (List.mem_append_right _ (List.mem_append_right _ (List.mem_append_right _ (List.mem_append_right _ (List.mem_append_right _ (List.mem_append_right _ (List.mem_append_right _ (List.mem_append_right _ (List.mem_append_right _ (List.mem_append_right _ (List.mem_append_right _ (List.mem_append_right _ (List.mem_append_right _ (List.mem_append_right _ (List.mem_append_right _ (List.mem_append_right _ (List.mem_append_right _ (List.mem_append_right _ (List.mem_append_right _ (List.mem_append_right _ (List.mem_append_right _ (List.mem_append_right _ (List.mem_append_left _ h))))))))))))))))))))))))))))))))))))))))))))))))))))))))))
theorem wl_46 : ∀ w ∈ wsL_law_r46, w ∈ wsL_law := fun _ h => List.mem_append_left _ (List.mem_append_left _ (List.mem_append_left _ (List.mem_append_left _ (List.mem_append_left _ (List.mem_append_left _ (List.mem_append_left _ (List.mem_append_left _ (List.mem_append_left _ (List.mem_append_left _ (List.mem_append_left _ (List.mem_append_left _ (List.mem_append_left _ (List.mem_append_left _ (List.mem_append_right _ (List.mem_append_right _ (List.mem_append_right _ (List.mem_append_right _ (List.mem_append_right _ (List.mem_append_right _ (List.mem_append_right _ (List.mem_append_right _ (List.mem_append_right _ (List.mem_append_right _ (List.mem_append_right _ (List.mem_append_right _ (List.mem_append_right _ (List.mem_append_right _ (List.mem_append_right _ (List.mem_append_right _ (List.mem_append_right _ (List.mem_append_right _ (List.mem_append_right _ (List.mem_append_right _ (List.mem_append_right _ (List.mem_append_right _ (List.mem_append_right _ (List.mem_append_right _ (List.mem_append_right _ (List.mem_append_right _ (List.mem_append_right _ (List.mem_append_right _ (List.mem_append_right _ (List.mem_append_right _ (List.mem_append_right _ (List.mem_append_right _ (List.mem_append_right _ (List.mem_append_right _ (List.mem_append_right _ (List.mem_append_right _ (List.mem_append_right _ (List.mem_append_right _ (List.mem_append_right _ (List.mem_append_right _ (List.mem_append_right _ (List.mem_append_right _ (List.mem_append_right _ (List.mem_append_right _ (List.mem_append_right _ (List.mem_append_left _ h)))))))))))))))))))))))))))))))))))))))))))))))))))))))))))
theorem wl_47 : ∀ w ∈ wsL_law_r47, w ∈ wsL_law := fun _ h => List.mem_append_left _ (List.mem_append_left _ (List.mem_append_left _ (List.mem_append_left _ (List.mem_append_left _ (List.mem_append_left _ (List.mem_append_left _ (List.mem_append_left _ (List.mem_append_left _ (List.mem_append_left _ (List.mem_append_left _ (List.mem_append_left _ (List.mem_append_left _ (List.mem_append_left _ (List.mem_append_right _ (List.mem_append_right _ (List.mem_append_right _ (List.mem_append_right _ (List.mem_append_right _ (List.mem_append_right _ (List.mem_append_right _ (List.mem_append_right _ (List.mem_append_right _ (List.mem_append_right _ (List.mem_append_right _ (List.mem_append_right _ (List.mem_append_right _ (List.mem_append_right _ (List.mem_append_right _ (List.mem_append_right _ (List.mem_append_right _ (List.mem_append_right _ (List.mem_append_right _ (List.mem_append_right _ (List.mem_append_right _ (List.mem_append_right _ (List.mem_append_right _ (List.mem_append_right _ (List.mem_append_right _ (List.mem_append_right _ (List.mem_append_right _ (List.mem_append_right _ (List.mem_append_right _ (List.mem_append_right _ (List.mem_append_right _ (List.mem_append_right _ (List.mem_append_right _ (List.mem_append_right _ (List.mem_append_right _ (List.mem_append_right _ (List.mem_append_right _ (List.mem_append_right _ (List.mem_append_right _ (List.mem_append_right _ (List.mem_append_right _ (List.mem_append_right _ (List.mem_append_right _ (List.mem_append_right _ (List.mem_append_right _ (List.mem_append_right _ (List.mem_append_left _ h))))))))))))))))))))))))))))))))))))))))))))))))))))))))))))
theorem wl_48 : ∀ w ∈ wsL_law_r48, w ∈ wsL_law := fun _ h => List.mem_append_left _ (List.mem_append_left _ (List.mem_append_left _ (List.mem_append_left _ (List.mem_append_left _ (List.mem_append_left _ (List.mem_append_left _ (List.mem_append_left _ (List.mem_append_left _ (List.mem_append_left _ (List.mem_append_left _ (List.mem_append_left _ (List.mem_append_left _ (List.mem_append_left _ (List.mem_append_right _ (List.mem_append_right _ (List.mem_append_right _ (List.mem_append_right _ (List.mem_append_right _ (List.mem_append_right _ (List.mem_append_right _ (List.mem_append_right _ (List.mem_append_right _ (List.mem_append_right _ (List.mem_append_right _ (List.mem_append_right _ (List.mem_append_right _ (List.mem_append_right _ (List.mem_append_right _ (List.mem_append_right _ (List.mem_append_right _ (List.mem_append_right _ (List.mem_append_right _ (List.mem_append_right _ (List.mem_append_right _ (List.mem_append_right _ (List.mem_append_right _ (List.mem_append_right _ (List.mem_append_right _ (List.mem_append_right _ (List.mem_append_right _ (List.mem_append_right _ (List.mem_append_right _ (List.mem_append_right _ (List.mem_append_right _ (List.mem_append_right _ (List.mem_append_right _ (List.mem_append_right _ (List.mem_append_right _ (List.mem_append_right _ (List.mem_append_right _ (List.mem_append_right _ (List.mem_append_right _ (List.mem_append_right _ (List.mem_append_right _ (List.mem_append_right _ (List.mem_append_right _ (List.mem_append_right _ (List.mem_append_right _ (List.mem_append_right _ (List.mem_append_right _ (List.mem_append_left _ h)))))))))))))))))))))))))))))))))))))))))))))))))))))))))))))
theorem wl_49 : ∀ w ∈ wsL_law_r49, w ∈ wsL_law := fun _ h => List.mem_append_left _ (List.mem_append_left _ (List.mem_append_left _ (List.mem_append_left _ (List.mem_append_left _ (List.mem_append_left _ (List.mem_append_left _ (List.mem_append_left _ (List.mem_append_left _ (List.mem_append_left _ (List.mem_append_left _ (List.mem_append_left _ (List.mem_append_left _ (List.mem_append_left _ (List.mem_append_right _ (List.mem_append_right _ (List.mem_append_right _ (List.mem_append_right _ (List.mem_append_right _ (List.mem_append_right _ (List.mem_append_right _ (List.mem_append_right _ (List.mem_append_right _ (List.mem_append_right _ (List.mem_append_right _ (List.mem_append_right _ (List.mem_append_right _ (List.mem_append_right _ (List.mem_append_right _ (List.mem_append_right _ (List.mem_append_right _ (List.mem_append_right _ (List.mem_append_right _ (List.mem_append_right _ (List.mem_append_right _ (List.mem_append_right _ (List.mem_append_right _ (List.mem_append_right _ (List.mem_append_right _ (List.mem_append_right _ (List.mem_append_right _ (List.mem_append_right _ (List.mem_append_right _ (List.mem_append_right _ (List.mem_append_right _ (List.mem_append_right _ (List.mem_append_right _ (List.mem_append_right _ (List.mem_append_right _ (List.mem_append_right _ (List.mem_append_right _ (List.mem_append_right _ (List.mem_append_right _ (List.mem_append_right _ (List.mem_append_right _ (List.mem_append_right _ (List.mem_append_right _ (List.mem_append_right _ (List.mem_append_right _ (List.mem_append_right _ (List.mem_append_right _ (List.mem_append_right _ (List.mem_append_left _ h))))))))))))))))))))))))))))))))))))))))))))))))))))))))))))))
theorem wl_50 : ∀ w ∈ wsL_law_r50, w ∈ wsL_law := fun _ h => List.mem_append_left _ (List.mem_append_left _ (List.mem_append_left _ (List.mem_append_left _ (List.mem_append_left _ (List.mem_append_left _ (List.mem_append_left _ (List.mem_append_left _ (List.mem_append_left _ (List.mem_append_left _ (List.mem_append_left _ (List.mem_append_left _ (List.mem_append_left _ (List.mem_append_left _ (List.mem_append_right _ (List.mem_append_right _ (List.mem_append_right _ (List.mem_append_right _ (List.mem_append_right _ (List.mem_append_right _ (List.mem_append_right _ (List.mem_append_right _ (List.mem_append_right _ (List.mem_append_right _ (List.mem_append_right _ (List.mem_append_right _ (List.mem_append_right _ (List.mem_append_right _ (List.mem_append_right _ (List.mem_append_right _ (List.mem_append_right _ (List.mem_append_right _ (List.mem_append_right _ (List.mem_append_right _ (List.mem_append_right _ (List.mem_append_right _ (List.mem_append_right _ (List.mem_append_right _ (List.mem_append_right _ (List.mem_append_right _ (List.mem_append_right _ (List.mem_append_right _ (List.mem_append_right _ (List.mem_append_right _ (List.mem_append_right _ (List.mem_append_right _ (List.mem_append_right _ (List.mem_append_right _ (List.mem_append_right _ (List.mem_append_right _ (List.mem_append_right _ (List.mem_append_right _ (List.mem_append_right _ (List.mem_append_right _ (List.mem_append_right _ (List.mem_append_right _ (List.mem_append_right _ (List.mem_append_right _ (List.mem_append_right _ (List.mem_append_right _ (List.mem_append_right _ (List.mem_append_right _ (List.mem_append_right _ (List.mem_append_left _ h)))))))))))))))))))))))))))))))))))))))))))))))))))))))))))))))
theorem wl_51 : ∀ w ∈ wsL_law_r51, w ∈ wsL_law := fun _ h => List.mem_append_left _ (List.mem_append_left _ (List.mem_append_left _ (List.mem_append_left _ (List.mem_append_left _ (List.mem_append_left _ (List.mem_append_left _ (List.mem_append_left _ (List.mem_append_left _ (List.mem_append_left _ (List.mem_append_left _ (List.mem_append_left _ (List.mem_append_left _ (List.mem_append_left _ (List.mem_append_right _ (List.mem_append_right _ (List.mem_append_right _ (List.mem_append_right _ (List.mem_append_right _ (List.mem_append_right _ (List.mem_append_right _ (List.mem_append_right _ (List.mem_append_right _ (List.mem_append_right _ (List.mem_append_right _ (List.mem_append_right _ (List.mem_append_right _ (List.mem_append_right _ (List.mem_append_right _ (List.mem_append_right _ (List.mem_append_right _ (List.mem_append_right _ (List.mem_append_right _ (List.mem_append_right _ (List.mem_append_right _ (List.mem_append_right _ (List.mem_append_right _ (List.mem_append_right _ (List.mem_append_right _ (List.mem_append_right _ (List.mem_append_right _ (List.mem_append_right _ (List.mem_append_right _ (List.mem_append_right _ (List.mem_append_right _ (List.mem_append_right _ (List.mem_append_right _ (List.mem_append_right _ (List.mem_append_right _ (List.mem_append_right _ (List.mem_append_right _ (List.mem_append_right _ (List.mem_append_right _ (List.mem_append_right _ (List.mem_append_right _ (List.mem_append_right _ (List.mem_append_right _ (List.mem_append_right _ (List.mem_append_right _ (List.mem_append_right _ (List.mem_append_right _ (List.mem_append_right _ (List.mem_append_right _ (List.mem_append_right _ (List.mem_append_left _ h))))))))))))))))))))))))))))))))))))))))))))))))))))))))))))))))
theorem wl_52 : ∀ w ∈ wsL_law_r52, w ∈ wsL_law := fun _ h => List.mem_append_left _ (List.mem_append_left _ (List.mem_append_left _ (List.mem_append_left _ (List.mem_append_left _ (List.mem_append_left _ (List.mem_append_left _ (List.mem_append_left _ (List.mem_append_left _ (List.mem_append_left _ (List.mem_append_left _ (List.mem_append_left _ (List.mem_append_left _ (List.mem_append_left _ (List.mem_append_right _ (List.mem_append_right _ (List.mem_append_right _ (List.mem_append_right _ (List.mem_append_right _ (List.mem_append_right _ (List.mem_append_right _ (List.mem_append_right _ (List.mem_append_right _ (List.mem_append_right _ (List.mem_append_right _ (List.mem_append_right _ (List.mem_append_right _ (List.mem_append_right _ (List.mem_append_right _ (List.mem_append_right _ (List.mem_append_right _ (List.mem_append_right _ (List.mem_append_right _ (List.mem_append_right _ (List.mem_append_right _ (List.mem_append_right _ (List.mem_append_right _ (List.mem_append_right _ (List.mem_append_right _ (List.mem_append_right _ (List.mem_append_right _ (List.mem_append_right _ (List.mem_append_right _ (List.mem_append_right _ (List.mem_append_right _ (List.mem_append_right _ (List.mem_append_right _ (List.mem_append_right _ (List.mem_append_right _ (List.mem_append_right _ (List.mem_append_right _ (List.mem_append_right _ (List.mem_append_right _ (List.mem_append_right _ (List.mem_append_right _ (List.mem_append_right _ (List.mem_append_right _ (List.mem_append_right _ (List.mem_append_right _ (List.mem_append_right _ (List.mem_append_right _ (List.mem_append_right _ (List.mem_append_right _ (List.mem_append_right _ (List.mem_append_right _ (List.mem_append_left _ h)))))))))))))))))))))))))))))))))))))))))))))))))))))))))))))))))
theorem wl_53 : ∀ w ∈ wsL_law_r53, w ∈ wsL_law := fun _ h => List.mem_append_left _ (List.mem_append_left _ (List.mem_append_left _ (List.mem_append_left _ (List.mem_append_left _ (List.mem_append_left _ (List.mem_append_left _ (List.mem_append_left _ (List.mem_append_left _ (List.mem_append_left _ (List.mem_append_left _ (List.mem_append_left _ (List.mem_append_left _ (List.mem_append_left _ (List.mem_append_right _ (List.mem_append_right _ (List.mem_append_right _ (List.mem_append_right _ (List.mem_append_right _ (List.mem_append_right _ (List.mem_append_right _ (List.mem_append_right _ (List.mem_append_right _ (List.mem_append_right _ (List.mem_append_right _ (List.mem_append_right _ (List.mem_append_right _ (List.mem_append_right _ (List.mem_append_right _ (List.mem_append_right _ (List.mem_append_right _ (List.mem_append_right _ (List.mem_append_right _ (List.mem_append_right _ (List.mem_append_right _ (List.mem_append_right _ (List.mem_append_right _ (List.mem_append_right _ (List.mem_append_right _ (List.mem_append_right _ (List.mem_append_right _ (List.mem_append_right _ (List.mem_append_right _ (List.mem_append_right _ (List.mem_append_right _ (List.mem_append_right _ (List.mem_append_right _ (List.mem_append_right _ (List.mem_append_right _ (List.mem_append_right _ (List.mem_append_right _ (List.mem_append_right _ (List.mem_append_right _ (List.mem_append_right _ (List.mem_append_right _ (List.mem_append_right _ (List.mem_append_right _ (List.mem_append_right _ (List.mem_append_right _ (List.mem_append_right _ (List.mem_append_right _ (List.mem_append_right _ (List.mem_append_right _ (List.mem_append_right _ (List.mem_append_right _ (List.mem_append_right _ (h))))))))))))))))))))))))))))))))))))))))))))))))))))))))))))))))))
def mTab_0 : List (MethodName × ByteArray × Nat × Option FieldType × Nat) := [(yL_law, cL_law, 4, (some .boolean), 13), (yX0_init, cX0_init, 4, none, 0), (yX0_telling, cX0_telling, 2, (some .int), 0), (yX1_init, cX1_init, 4, none, 1), (yX1_singing, cX1_singing, 2, (some .int), 1), (yX2_init, cX2_init, 4, none, 2), (yX2_lending, cX2_lending, 2, (some .int), 2), (yX3_init, cX3_init, 1, none, 3), (yX3_isTold, cX3_isTold, 1, (some .boolean), 3), (yX3_read, cX3_read, 5, (some .int), 3), (yX3_line, cX3_line, 3, (some .boolean), 3), (yX3_joined, cX3_joined, 7, (some .boolean), 3), (yX3_levelOf, cX3_levelOf, 1, (some .int), 3), (yX3_operand, cX3_operand, 2, (some .boolean), 3), (yX3_number, cX3_number, 3, (some .boolean), 3), (yX3_isDigit, cX3_isDigit, 1, (some .boolean), 3)]
def mTab_1 : List (MethodName × ByteArray × Nat × Option FieldType × Nat) := [(yX3_nameOf, cX3_nameOf, 1, (some .int), 3), (yX3_takes, cX3_takes, 2, (some .boolean), 3), (yX3_add, cX3_add, 3, (some .boolean), 3), (yX3_worked, cX3_worked, 11, (some .int), 3), (yX3_push, cX3_push, 2, none, 3), (yX3_pop, cX3_pop, 1, (some .int), 3), (yX3_joinedBy, cX3_joinedBy, 3, (some .int), 3), (yX4_init, cX4_init, 1, none, 4), (yX4_hasGirl, cX4_hasGirl, 2, (some .boolean), 4), (yX4_hasFrog, cX4_hasFrog, 2, (some .boolean), 4), (yX4_addGirl, cX4_addGirl, 2, (some .int), 4), (yX4_addFrog, cX4_addFrog, 5, (some .int), 4), (yX4_hasNumber, cX4_hasNumber, 3, (some .boolean), 4), (yX4_numberOf, cX4_numberOf, 3, (some .int), 4), (yX4_become, cX4_become, 4, none, 4), (yX4_copy, cX4_copy, 2, none, 4)]
def mTab_2 : List (MethodName × ByteArray × Nat × Option FieldType × Nat) := [(yX4_layBack, cX4_layBack, 2, none, 4), (yX4_far, cX4_far, 2, (some .int), 4), (yX4_nearestTo, cX4_nearestTo, 5, (some .int), 4), (yX4_owing, cX4_owing, 3, (some .int), 4), (yX4_heldByAll, cX4_heldByAll, 3, (some .int), 4), (yX4_lend, cX4_lend, 4, none, 4), (yX4_owesNothing, cX4_owesNothing, 2, none, 4), (yX4_meetCart, cX4_meetCart, 3, none, 4), (yX4_lossOf, cX4_lossOf, 6, (some .int), 4), (yX4_passHourOf, cX4_passHourOf, 6, (some .int), 4), (yX4_nearer, cX4_nearer, 3, (some .int), 4), (yX4_endHour, cX4_endHour, 1, none, 4), (yX4_passHour, cX4_passHour, 4, (some .int), 4), (yX5_init, cX5_init, 4, none, 5), (yX5_keeping, cX5_keeping, 2, (some .int), 5), (yX5_singing, cX5_singing, 2, (some .int), 5)]
def mTab_3 : List (MethodName × ByteArray × Nat × Option FieldType × Nat) := [(yX6_init, cX6_init, 4, none, 6), (yX6_lending, cX6_lending, 2, (some .int), 6), (yX7_init, cX7_init, 4, none, 7), (yX7_keeping, cX7_keeping, 2, (some .int), 7), (yX8_init, cX8_init, 4, none, 8), (yX8_begins, cX8_begins, 2, none, 8), (yX8_lending, cX8_lending, 2, (some .int), 8), (yX8_singing, cX8_singing, 2, (some .int), 8), (yX8_keeping, cX8_keeping, 2, (some .int), 8), (yX8_telling, cX8_telling, 2, (some .int), 8), (yX9_init, cX9_init, 1, none, 9), (yX9_isBare, cX9_isBare, 1, (some .boolean), 9), (yX9_isRow, cX9_isRow, 1, (some .boolean), 9), (yX9_isBytes, cX9_isBytes, 1, (some .boolean), 9), (yX9_hold, cX9_hold, 2, none, 9), (yX9_holdRow, cX9_holdRow, 3, none, 9)]
def mTab_4 : List (MethodName × ByteArray × Nat × Option FieldType × Nat) := [(yX9_hasPart, cX9_hasPart, 3, (some .boolean), 9), (yX9_at, cX9_at, 2, (some .long), 9), (yX9_become, cX9_become, 4, none, 9), (yX10_init, cX10_init, 4, none, 10), (yX10_singing, cX10_singing, 2, (some .int), 10), (yX10_telling, cX10_telling, 2, (some .int), 10), (yX11_init, cX11_init, 2, none, 11), (yX11_girl, cX11_girl, 2, (some .int), 11), (yX11_frog, cX11_frog, 4, (some .int), 11), (yX11_frogs, cX11_frogs, 7, (some .int), 11), (yX11_frogFromFour, cX11_frogFromFour, 8, (some .boolean), 11), (yX11_mend, cX11_mend, 5, (some .int), 11), (yX11_mayBe, cX11_mayBe, 3, (some .boolean), 11), (yX11_of, cX11_of, 3, (some .int), 11), (yX11_feed, cX11_feed, 2, (some .int), 11), (yX11_law, cX11_law, 3, (some .int), 11)]
def mTab_5 : List (MethodName × ByteArray × Nat × Option FieldType × Nat) := [(yX11_loses, cX11_loses, 2, (some .int), 11), (yX11_later, cX11_later, 5, (some .int), 11), (yX11_thinkOn, cX11_thinkOn, 3, none, 11), (yX11_marsh, cX11_marsh, 3, (some .int), 11), (yX11_backWhen, cX11_backWhen, 4, (some .int), 11), (yX11_loan, cX11_loan, 4, (some .int), 11), (yX11_thinkLoan, cX11_thinkLoan, 4, none, 11), (yX11_givenBack, cX11_givenBack, 4, (some .int), 11), (yX11_hoursTillBack, cX11_hoursTillBack, 3, (some .int), 11), (yX11_best, cX11_best, 8, (some .int), 11), (yX11_dealt, cX11_dealt, 3, (some .int), 11), (yX11_thinkGains, cX11_thinkGains, 4, none, 11), (yX11_thinkMostBack, cX11_thinkMostBack, 5, none, 11), (yX11_backByLending, cX11_backByLending, 5, (some .int), 11), (yX11_frogDealtTo, cX11_frogDealtTo, 5, (some .int), 11), (yX11_firstBestFrog, cX11_firstBestFrog, 5, (some .int), 11)]
def mTab_6 : List (MethodName × ByteArray × Nat × Option FieldType × Nat) := [(yX11_least, cX11_least, 4, (some .int), 11), (yX11_heldBehind, cX11_heldBehind, 4, (some .int), 11), (yX11_bars, cX11_bars, 3, (some .int), 11), (yX11_nextTogether, cX11_nextTogether, 3, (some .int), 11), (yX11_beginningAt, cX11_beginningAt, 6, (some .int), 11), (yX11_stops, cX11_stops, 5, (some .int), 11), (yX11_allHeardFrom, cX11_allHeardFrom, 4, (some .boolean), 11), (yX11_isHeardFrom, cX11_isHeardFrom, 5, (some .boolean), 11), (yX11_judge, cX11_judge, 5, (some .int), 11), (yX11_bookRefusal, cX11_bookRefusal, 1, (some .int), 11), (yX11_firstNotSo, cX11_firstNotSo, 7, (some .int), 11), (yX11_fits, cX11_fits, 6, (some .int), 11), (yX11_keptBy, cX11_keptBy, 5, (some .int), 11), (yX11_whose, cX11_whose, 5, (some .int), 11), (yX11_alike, cX11_alike, 4, (some .int), 11), (yX11_holdAsMuch, cX11_holdAsMuch, 4, (some .boolean), 11)]
def mTab_7 : List (MethodName × ByteArray × Nat × Option FieldType × Nat) := [(yX11_ring, cX11_ring, 6, (some .int), 11), (yX11_byTurns, cX11_byTurns, 7, (some .int), 11), (yX11_lessTwo, cX11_lessTwo, 1, (some .int), 11), (yX11_turn, cX11_turn, 7, (some .int), 11), (yX11_backBy, cX11_backBy, 4, (some .int), 11), (yX11_drawn, cX11_drawn, 10, (some .int), 11), (yX11_hour, cX11_hour, 1, (some .int), 11), (yX11_lends, cX11_lends, 5, (some .int), 11), (yX11_over, cX11_over, 3, (some .int), 11), (yX11_led, cX11_led, 2, (some .int), 11), (yX11_image, cX11_image, 1, (some .int), 11), (yX11_back, cX11_back, 1, (some .int), 11), (yX11_noteChange, cX11_noteChange, 6, none, 11), (yX11_forgetOldestChange, cX11_forgetOldestChange, 2, none, 11), (yX11_undo, cX11_undo, 2, (some .int), 11), (yX11_redo, cX11_redo, 2, (some .int), 11)]
def mTab_8 : List (MethodName × ByteArray × Nat × Option FieldType × Nat) := [(yX11_body, cX11_body, 2, (some .int), 11), (yX11_reedOf, cX11_reedOf, 3, (some (.object "FrogBreath$Reed")), 11), (yX11_act, cX11_act, 5, (some .int), 11), (yX11_trace, cX11_trace, 2, (some .int), 11), (yX11_keep, cX11_keep, 3, (some .int), 11), (yX11_row, cX11_row, 4, (some .int), 11), (yX11_put, cX11_put, 6, (some .int), 11), (yX11_element, cX11_element, 3, (some .long), 11), (yX11_elementRefusal, cX11_elementRefusal, 3, (some .int), 11), (yX11_shift, cX11_shift, 8, (some .int), 11), (yX11_taken, cX11_taken, 4, (some .int), 11), (yX11_isOfKind, cX11_isOfKind, 2, (some .boolean), 11), (yX11_count, cX11_count, 2, (some .int), 11), (yX11_within, cX11_within, 3, (some .boolean), 11), (yX11_isShelf, cX11_isShelf, 1, (some .boolean), 11), (yX11_isPair, cX11_isPair, 2, (some .boolean), 11)]
def mTab_9 : List (MethodName × ByteArray × Nat × Option FieldType × Nat) := [(yX12_init, cX12_init, 2, none, 12), (yX12_within, cX12_within, 3, (some .boolean), 12), (yX12_isGirl, cX12_isGirl, 2, (some .boolean), 12), (yX12_isFrog, cX12_isFrog, 2, (some .boolean), 12), (yX12_isPlace, cX12_isPlace, 1, (some .boolean), 12), (yX12_isShelf, cX12_isShelf, 1, (some .boolean), 12), (yX12_girl, cX12_girl, 2, (some .int), 12), (yX12_newFrog, cX12_newFrog, 5, (some .int), 12), (yX12_frog, cX12_frog, 3, (some .int), 12), (yX12_mayOwe, cX12_mayOwe, 2, (some .boolean), 12), (yX12_frogs, cX12_frogs, 9, (some .int), 12), (yX12_toldAt, cX12_toldAt, 3, (some .int), 12), (yX12_isOf, cX12_isOf, 3, (some .boolean), 12), (yX12_isFit, cX12_isFit, 3, (some .boolean), 12), (yX12_get, cX12_get, 3, (some .int), 12), (yX12_becomes, cX12_becomes, 4, none, 12)]
def mTab_10 : List (MethodName × ByteArray × Nat × Option FieldType × Nat) := [(yX12_mend, cX12_mend, 6, (some .int), 12), (yX12_of, cX12_of, 3, (some .int), 12), (yX12_undo, cX12_undo, 1, (some .int), 12), (yX12_redo, cX12_redo, 1, (some .int), 12), (yX12_feed, cX12_feed, 2, (some .int), 12), (yX12_sign, cX12_sign, 1, (some .int), 12), (yX12_is, cX12_is, 2, (some .boolean), 12), (yX12_codes, cX12_codes, 2, (some .boolean), 12), (yX12_isDigit, cX12_isDigit, 1, (some .boolean), 12), (yX12_nameOf, cX12_nameOf, 1, (some .int), 12), (yX12_isO, cX12_isO, 3, (some .boolean), 12), (yX12_isP, cX12_isP, 2, (some .boolean), 12), (yX12_isS, cX12_isS, 2, (some .boolean), 12), (yX12_isB, cX12_isB, 2, (some .boolean), 12), (yX12_isA, cX12_isA, 1, (some .boolean), 12), (yX12_isE, cX12_isE, 1, (some .boolean), 12)]
def mTab_11 : List (MethodName × ByteArray × Nat × Option FieldType × Nat) := [(yX12_isLine, cX12_isLine, 1, (some .boolean), 12), (yX12_law, cX12_law, 4, (some .int), 12), (yX12_both, cX12_both, 3, (some .int), 12), (yX12_worked, cX12_worked, 6, (some .int), 12), (yX12_apart, cX12_apart, 2, (some .int), 12), (yX12_owes, cX12_owes, 2, (some .int), 12), (yX12_held, cX12_held, 2, (some .int), 12), (yX12_byLaw, cX12_byLaw, 3, (some .int), 12), (yX12_losesBy, cX12_losesBy, 3, (some .int), 12), (yX12_loses, cX12_loses, 2, (some .int), 12), (yX12_nearer, cX12_nearer, 2, (some .int), 12), (yX12_goes, cX12_goes, 4, none, 12), (yX12_passes, cX12_passes, 2, none, 12), (yX12_goesOn, cX12_goesOn, 3, none, 12), (yX12_keeps, cX12_keeps, 3, none, 12), (yX12_laysBack, cX12_laysBack, 5, none, 12)]
def mTab_12 : List (MethodName × ByteArray × Nat × Option FieldType × Nat) := [(yX12_laysBack_, cX12_laysBack_, 1, none, 12), (yX12_owing, cX12_owing, 3, (some .int), 12), (yX12_allHeld, cX12_allHeld, 3, (some .int), 12), (yX12_later, cX12_later, 5, (some .int), 12), (yX12_marsh, cX12_marsh, 4, (some .int), 12), (yX12_backWhen, cX12_backWhen, 4, (some .int), 12), (yX12_gives, cX12_gives, 3, none, 12), (yX12_lent, cX12_lent, 6, none, 12), (yX12_isPair, cX12_isPair, 2, (some .boolean), 12), (yX12_loan, cX12_loan, 4, (some .int), 12), (yX12_best, cX12_best, 7, (some .int), 12), (yX12_deals, cX12_deals, 5, none, 12), (yX12_dealt, cX12_dealt, 5, (some .int), 12), (yX12_heldBehind, cX12_heldBehind, 6, (some .int), 12), (yX12_least, cX12_least, 4, (some .int), 12), (yX12_common, cX12_common, 5, (some .int), 12)]
def mTab_13 : List (MethodName × ByteArray × Nat × Option FieldType × Nat) := [(yX12_bars, cX12_bars, 6, (some .int), 12), (yX12_areNear, cX12_areNear, 6, (some .boolean), 12), (yX12_stops, cX12_stops, 5, (some .int), 12), (yX12_noBytes, cX12_noBytes, 2, (some .int), 12), (yX12_unlike, cX12_unlike, 5, (some .int), 12), (yX12_judge, cX12_judge, 4, (some .int), 12), (yX12_fits, cX12_fits, 9, (some .int), 12), (yX12_alike, cX12_alike, 6, (some .int), 12), (yX12_nearest, cX12_nearest, 4, (some .int), 12), (yX12_ring, cX12_ring, 5, (some .int), 12), (yX12_turnFrom, cX12_turnFrom, 6, (some .int), 12), (yX12_turnBy, cX12_turnBy, 7, (some .int), 12), (yX12_byTurns, cX12_byTurns, 6, (some .int), 12), (yX12_drawn, cX12_drawn, 8, (some .int), 12), (yX12_hour, cX12_hour, 2, (some .int), 12), (yX12_lends, cX12_lends, 3, (some .int), 12)]
def mTab_14 : List (MethodName × ByteArray × Nat × Option FieldType × Nat) := [(yX12_over, cX12_over, 3, (some .int), 12), (yX12_led, cX12_led, 2, (some .int), 12), (yX12_image, cX12_image, 2, (some .int), 12), (yX12_back, cX12_back, 2, (some .int), 12), (yX12_above, cX12_above, 1, (some .int), 12), (yX12_ran, cX12_ran, 2, none, 12), (yX12_lendsBy, cX12_lendsBy, 4, (some .int), 12), (yX12_singsBy, cX12_singsBy, 5, (some .int), 12), (yX12_keepsBy, cX12_keepsBy, 5, (some .int), 12), (yX12_tells, cX12_tells, 5, (some .int), 12), (yX12_body, cX12_body, 2, (some .int), 12), (yX12_act, cX12_act, 5, (some .int), 12), (yX12_trace, cX12_trace, 2, (some .int), 12), (yX12_keep, cX12_keep, 3, (some .int), 12), (yX12_row, cX12_row, 5, (some .int), 12), (yX12_isRow, cX12_isRow, 2, (some .boolean), 12)]
def mTab_15 : List (MethodName × ByteArray × Nat × Option FieldType × Nat) := [(yX12_kept, cX12_kept, 3, (some .long), 12), (yX12_put, cX12_put, 5, (some .int), 12), (yX12_element, cX12_element, 3, (some .long), 12), (yX12_shift, cX12_shift, 7, (some .int), 12), (yX12_taken, cX12_taken, 5, (some .int), 12), (yX12_count, cX12_count, 2, (some .int), 12), (yJ6_compare_7cf53, cJ6_compare_7cf53, 2, (some .int), 14), (yJ6_bitCount_0f7a4, cJ6_bitCount_0f7a4, 1, (some .int), 14), (yJ7_fill_d0a16, cJ7_fill_d0a16, 5, none, 16), (yJ7_fill_53178, cJ7_fill_53178, 4, none, 16)]
def mTabs : List (List (MethodName × ByteArray × Nat × Option FieldType × Nat)) := [mTab_0, mTab_1, mTab_2, mTab_3, mTab_4, mTab_5, mTab_6, mTab_7, mTab_8, mTab_9, mTab_10, mTab_11, mTab_12, mTab_13, mTab_14, mTab_15]
def mRow (y : Nat) : MethodName × ByteArray × Nat × Option FieldType × Nat := (mTabs.getD (y / 16) []).getD (y % 16) (yL_law, cL_law, 4, none, 13)
def mY (y : Nat) : MethodName := (mRow y).1
def mC (y : Nat) : ByteArray := (mRow y).2.1
def mL (y : Nat) : Nat := (mRow y).2.2.1
def mT (y : Nat) : Option FieldType := (mRow y).2.2.2.1
def mCl (y : Nat) : Nat := (mRow y).2.2.2.2
def cStr (c : Nat) : String := [RX0, RX1, RX2, RX3, RX4, RX5, RX6, RX7, RX8, RX9, RX10, RX11, RX12, RL, RJ6, RJ9, RJ7].getD c RL
def nMeth : Nat := 250
theorem mC_0 : mC 0 = cL_law := rfl
theorem mC_1 : mC 1 = cX0_init := rfl
theorem mC_2 : mC 2 = cX0_telling := rfl
theorem mC_3 : mC 3 = cX1_init := rfl
theorem mC_4 : mC 4 = cX1_singing := rfl
theorem mC_5 : mC 5 = cX2_init := rfl
theorem mC_6 : mC 6 = cX2_lending := rfl
theorem mC_7 : mC 7 = cX3_init := rfl
theorem mC_8 : mC 8 = cX3_isTold := rfl
theorem mC_9 : mC 9 = cX3_read := rfl
theorem mC_10 : mC 10 = cX3_line := rfl
theorem mC_11 : mC 11 = cX3_joined := rfl
theorem mC_12 : mC 12 = cX3_levelOf := rfl
theorem mC_13 : mC 13 = cX3_operand := rfl
theorem mC_14 : mC 14 = cX3_number := rfl
theorem mC_15 : mC 15 = cX3_isDigit := rfl
theorem mC_16 : mC 16 = cX3_nameOf := rfl
theorem mC_17 : mC 17 = cX3_takes := rfl
theorem mC_18 : mC 18 = cX3_add := rfl
theorem mC_19 : mC 19 = cX3_worked := rfl
theorem mC_20 : mC 20 = cX3_push := rfl
theorem mC_21 : mC 21 = cX3_pop := rfl
theorem mC_22 : mC 22 = cX3_joinedBy := rfl
theorem mC_23 : mC 23 = cX4_init := rfl
theorem mC_24 : mC 24 = cX4_hasGirl := rfl
theorem mC_25 : mC 25 = cX4_hasFrog := rfl
theorem mC_26 : mC 26 = cX4_addGirl := rfl
theorem mC_27 : mC 27 = cX4_addFrog := rfl
theorem mC_28 : mC 28 = cX4_hasNumber := rfl
theorem mC_29 : mC 29 = cX4_numberOf := rfl
theorem mC_30 : mC 30 = cX4_become := rfl
theorem mC_31 : mC 31 = cX4_copy := rfl
theorem mC_32 : mC 32 = cX4_layBack := rfl
theorem mC_33 : mC 33 = cX4_far := rfl
theorem mC_34 : mC 34 = cX4_nearestTo := rfl
theorem mC_35 : mC 35 = cX4_owing := rfl
theorem mC_36 : mC 36 = cX4_heldByAll := rfl
theorem mC_37 : mC 37 = cX4_lend := rfl
theorem mC_38 : mC 38 = cX4_owesNothing := rfl
theorem mC_39 : mC 39 = cX4_meetCart := rfl
theorem mC_40 : mC 40 = cX4_lossOf := rfl
theorem mC_41 : mC 41 = cX4_passHourOf := rfl
theorem mC_42 : mC 42 = cX4_nearer := rfl
theorem mC_43 : mC 43 = cX4_endHour := rfl
theorem mC_44 : mC 44 = cX4_passHour := rfl
theorem mC_45 : mC 45 = cX5_init := rfl
theorem mC_46 : mC 46 = cX5_keeping := rfl
theorem mC_47 : mC 47 = cX5_singing := rfl
theorem mC_48 : mC 48 = cX6_init := rfl
theorem mC_49 : mC 49 = cX6_lending := rfl
theorem mC_50 : mC 50 = cX7_init := rfl
theorem mC_51 : mC 51 = cX7_keeping := rfl
theorem mC_52 : mC 52 = cX8_init := rfl
theorem mC_53 : mC 53 = cX8_begins := rfl
theorem mC_54 : mC 54 = cX8_lending := rfl
theorem mC_55 : mC 55 = cX8_singing := rfl
theorem mC_56 : mC 56 = cX8_keeping := rfl
theorem mC_57 : mC 57 = cX8_telling := rfl
theorem mC_58 : mC 58 = cX9_init := rfl
theorem mC_59 : mC 59 = cX9_isBare := rfl
theorem mC_60 : mC 60 = cX9_isRow := rfl
theorem mC_61 : mC 61 = cX9_isBytes := rfl
theorem mC_62 : mC 62 = cX9_hold := rfl
theorem mC_63 : mC 63 = cX9_holdRow := rfl
theorem mC_64 : mC 64 = cX9_hasPart := rfl
theorem mC_65 : mC 65 = cX9_at := rfl
theorem mC_66 : mC 66 = cX9_become := rfl
theorem mC_67 : mC 67 = cX10_init := rfl
theorem mC_68 : mC 68 = cX10_singing := rfl
theorem mC_69 : mC 69 = cX10_telling := rfl
theorem mC_70 : mC 70 = cX11_init := rfl
theorem mC_71 : mC 71 = cX11_girl := rfl
theorem mC_72 : mC 72 = cX11_frog := rfl
theorem mC_73 : mC 73 = cX11_frogs := rfl
theorem mC_74 : mC 74 = cX11_frogFromFour := rfl
theorem mC_75 : mC 75 = cX11_mend := rfl
theorem mC_76 : mC 76 = cX11_mayBe := rfl
theorem mC_77 : mC 77 = cX11_of := rfl
theorem mC_78 : mC 78 = cX11_feed := rfl
theorem mC_79 : mC 79 = cX11_law := rfl
theorem mC_80 : mC 80 = cX11_loses := rfl
theorem mC_81 : mC 81 = cX11_later := rfl
theorem mC_82 : mC 82 = cX11_thinkOn := rfl
theorem mC_83 : mC 83 = cX11_marsh := rfl
theorem mC_84 : mC 84 = cX11_backWhen := rfl
theorem mC_85 : mC 85 = cX11_loan := rfl
theorem mC_86 : mC 86 = cX11_thinkLoan := rfl
theorem mC_87 : mC 87 = cX11_givenBack := rfl
theorem mC_88 : mC 88 = cX11_hoursTillBack := rfl
theorem mC_89 : mC 89 = cX11_best := rfl
theorem mC_90 : mC 90 = cX11_dealt := rfl
theorem mC_91 : mC 91 = cX11_thinkGains := rfl
theorem mC_92 : mC 92 = cX11_thinkMostBack := rfl
theorem mC_93 : mC 93 = cX11_backByLending := rfl
theorem mC_94 : mC 94 = cX11_frogDealtTo := rfl
theorem mC_95 : mC 95 = cX11_firstBestFrog := rfl
theorem mC_96 : mC 96 = cX11_least := rfl
theorem mC_97 : mC 97 = cX11_heldBehind := rfl
theorem mC_98 : mC 98 = cX11_bars := rfl
theorem mC_99 : mC 99 = cX11_nextTogether := rfl
theorem mC_100 : mC 100 = cX11_beginningAt := rfl
theorem mC_101 : mC 101 = cX11_stops := rfl
theorem mC_102 : mC 102 = cX11_allHeardFrom := rfl
theorem mC_103 : mC 103 = cX11_isHeardFrom := rfl
theorem mC_104 : mC 104 = cX11_judge := rfl
theorem mC_105 : mC 105 = cX11_bookRefusal := rfl
theorem mC_106 : mC 106 = cX11_firstNotSo := rfl
theorem mC_107 : mC 107 = cX11_fits := rfl
theorem mC_108 : mC 108 = cX11_keptBy := rfl
theorem mC_109 : mC 109 = cX11_whose := rfl
theorem mC_110 : mC 110 = cX11_alike := rfl
theorem mC_111 : mC 111 = cX11_holdAsMuch := rfl
theorem mC_112 : mC 112 = cX11_ring := rfl
theorem mC_113 : mC 113 = cX11_byTurns := rfl
theorem mC_114 : mC 114 = cX11_lessTwo := rfl
theorem mC_115 : mC 115 = cX11_turn := rfl
theorem mC_116 : mC 116 = cX11_backBy := rfl
theorem mC_117 : mC 117 = cX11_drawn := rfl
theorem mC_118 : mC 118 = cX11_hour := rfl
theorem mC_119 : mC 119 = cX11_lends := rfl
theorem mC_120 : mC 120 = cX11_over := rfl
theorem mC_121 : mC 121 = cX11_led := rfl
theorem mC_122 : mC 122 = cX11_image := rfl
theorem mC_123 : mC 123 = cX11_back := rfl
theorem mC_124 : mC 124 = cX11_noteChange := rfl
theorem mC_125 : mC 125 = cX11_forgetOldestChange := rfl
theorem mC_126 : mC 126 = cX11_undo := rfl
theorem mC_127 : mC 127 = cX11_redo := rfl
theorem mC_128 : mC 128 = cX11_body := rfl
theorem mC_129 : mC 129 = cX11_reedOf := rfl
theorem mC_130 : mC 130 = cX11_act := rfl
theorem mC_131 : mC 131 = cX11_trace := rfl
theorem mC_132 : mC 132 = cX11_keep := rfl
theorem mC_133 : mC 133 = cX11_row := rfl
theorem mC_134 : mC 134 = cX11_put := rfl
theorem mC_135 : mC 135 = cX11_element := rfl
theorem mC_136 : mC 136 = cX11_elementRefusal := rfl
theorem mC_137 : mC 137 = cX11_shift := rfl
theorem mC_138 : mC 138 = cX11_taken := rfl
theorem mC_139 : mC 139 = cX11_isOfKind := rfl
theorem mC_140 : mC 140 = cX11_count := rfl
theorem mC_141 : mC 141 = cX11_within := rfl
theorem mC_142 : mC 142 = cX11_isShelf := rfl
theorem mC_143 : mC 143 = cX11_isPair := rfl
theorem mC_144 : mC 144 = cX12_init := rfl
theorem mC_145 : mC 145 = cX12_within := rfl
theorem mC_146 : mC 146 = cX12_isGirl := rfl
theorem mC_147 : mC 147 = cX12_isFrog := rfl
theorem mC_148 : mC 148 = cX12_isPlace := rfl
theorem mC_149 : mC 149 = cX12_isShelf := rfl
theorem mC_150 : mC 150 = cX12_girl := rfl
theorem mC_151 : mC 151 = cX12_newFrog := rfl
theorem mC_152 : mC 152 = cX12_frog := rfl
theorem mC_153 : mC 153 = cX12_mayOwe := rfl
theorem mC_154 : mC 154 = cX12_frogs := rfl
theorem mC_155 : mC 155 = cX12_toldAt := rfl
theorem mC_156 : mC 156 = cX12_isOf := rfl
theorem mC_157 : mC 157 = cX12_isFit := rfl
theorem mC_158 : mC 158 = cX12_get := rfl
theorem mC_159 : mC 159 = cX12_becomes := rfl
theorem mC_160 : mC 160 = cX12_mend := rfl
theorem mC_161 : mC 161 = cX12_of := rfl
theorem mC_162 : mC 162 = cX12_undo := rfl
theorem mC_163 : mC 163 = cX12_redo := rfl
theorem mC_164 : mC 164 = cX12_feed := rfl
theorem mC_165 : mC 165 = cX12_sign := rfl
theorem mC_166 : mC 166 = cX12_is := rfl
theorem mC_167 : mC 167 = cX12_codes := rfl
theorem mC_168 : mC 168 = cX12_isDigit := rfl
theorem mC_169 : mC 169 = cX12_nameOf := rfl
theorem mC_170 : mC 170 = cX12_isO := rfl
theorem mC_171 : mC 171 = cX12_isP := rfl
theorem mC_172 : mC 172 = cX12_isS := rfl
theorem mC_173 : mC 173 = cX12_isB := rfl
theorem mC_174 : mC 174 = cX12_isA := rfl
theorem mC_175 : mC 175 = cX12_isE := rfl
theorem mC_176 : mC 176 = cX12_isLine := rfl
theorem mC_177 : mC 177 = cX12_law := rfl
theorem mC_178 : mC 178 = cX12_both := rfl
theorem mC_179 : mC 179 = cX12_worked := rfl
theorem mC_180 : mC 180 = cX12_apart := rfl
theorem mC_181 : mC 181 = cX12_owes := rfl
theorem mC_182 : mC 182 = cX12_held := rfl
theorem mC_183 : mC 183 = cX12_byLaw := rfl
theorem mC_184 : mC 184 = cX12_losesBy := rfl
theorem mC_185 : mC 185 = cX12_loses := rfl
theorem mC_186 : mC 186 = cX12_nearer := rfl
theorem mC_187 : mC 187 = cX12_goes := rfl
theorem mC_188 : mC 188 = cX12_passes := rfl
theorem mC_189 : mC 189 = cX12_goesOn := rfl
theorem mC_190 : mC 190 = cX12_keeps := rfl
theorem mC_191 : mC 191 = cX12_laysBack := rfl
theorem mC_192 : mC 192 = cX12_laysBack_ := rfl
theorem mC_193 : mC 193 = cX12_owing := rfl
theorem mC_194 : mC 194 = cX12_allHeld := rfl
theorem mC_195 : mC 195 = cX12_later := rfl
theorem mC_196 : mC 196 = cX12_marsh := rfl
theorem mC_197 : mC 197 = cX12_backWhen := rfl
theorem mC_198 : mC 198 = cX12_gives := rfl
theorem mC_199 : mC 199 = cX12_lent := rfl
theorem mC_200 : mC 200 = cX12_isPair := rfl
theorem mC_201 : mC 201 = cX12_loan := rfl
theorem mC_202 : mC 202 = cX12_best := rfl
theorem mC_203 : mC 203 = cX12_deals := rfl
theorem mC_204 : mC 204 = cX12_dealt := rfl
theorem mC_205 : mC 205 = cX12_heldBehind := rfl
theorem mC_206 : mC 206 = cX12_least := rfl
theorem mC_207 : mC 207 = cX12_common := rfl
theorem mC_208 : mC 208 = cX12_bars := rfl
theorem mC_209 : mC 209 = cX12_areNear := rfl
theorem mC_210 : mC 210 = cX12_stops := rfl
theorem mC_211 : mC 211 = cX12_noBytes := rfl
theorem mC_212 : mC 212 = cX12_unlike := rfl
theorem mC_213 : mC 213 = cX12_judge := rfl
theorem mC_214 : mC 214 = cX12_fits := rfl
theorem mC_215 : mC 215 = cX12_alike := rfl
theorem mC_216 : mC 216 = cX12_nearest := rfl
theorem mC_217 : mC 217 = cX12_ring := rfl
theorem mC_218 : mC 218 = cX12_turnFrom := rfl
theorem mC_219 : mC 219 = cX12_turnBy := rfl
theorem mC_220 : mC 220 = cX12_byTurns := rfl
theorem mC_221 : mC 221 = cX12_drawn := rfl
theorem mC_222 : mC 222 = cX12_hour := rfl
theorem mC_223 : mC 223 = cX12_lends := rfl
theorem mC_224 : mC 224 = cX12_over := rfl
theorem mC_225 : mC 225 = cX12_led := rfl
theorem mC_226 : mC 226 = cX12_image := rfl
theorem mC_227 : mC 227 = cX12_back := rfl
theorem mC_228 : mC 228 = cX12_above := rfl
theorem mC_229 : mC 229 = cX12_ran := rfl
theorem mC_230 : mC 230 = cX12_lendsBy := rfl
theorem mC_231 : mC 231 = cX12_singsBy := rfl
theorem mC_232 : mC 232 = cX12_keepsBy := rfl
theorem mC_233 : mC 233 = cX12_tells := rfl
theorem mC_234 : mC 234 = cX12_body := rfl
theorem mC_235 : mC 235 = cX12_act := rfl
theorem mC_236 : mC 236 = cX12_trace := rfl
theorem mC_237 : mC 237 = cX12_keep := rfl
theorem mC_238 : mC 238 = cX12_row := rfl
theorem mC_239 : mC 239 = cX12_isRow := rfl
theorem mC_240 : mC 240 = cX12_kept := rfl
theorem mC_241 : mC 241 = cX12_put := rfl
theorem mC_242 : mC 242 = cX12_element := rfl
theorem mC_243 : mC 243 = cX12_shift := rfl
theorem mC_244 : mC 244 = cX12_taken := rfl
theorem mC_245 : mC 245 = cX12_count := rfl
theorem mC_246 : mC 246 = cJ6_compare_7cf53 := rfl
theorem mC_247 : mC 247 = cJ6_bitCount_0f7a4 := rfl
theorem mC_248 : mC 248 = cJ7_fill_d0a16 := rfl
theorem mC_249 : mC 249 = cJ7_fill_53178 := rfl
def fT_3 : List (Nat × Nat × Nat) := [(11, 3, 0), (15, 3, 1), (18, 3, 2), (21, 3, 3), (24, 3, 4), (28, 3, 6), (37, 3, 7), (40, 3, 8), (78, 3, 5)]
def fT_4 : List (Nat × Nat × Nat) := [(9, 4, 0), (15, 4, 1), (18, 4, 2), (21, 4, 3), (24, 4, 4), (27, 4, 5), (30, 4, 6), (33, 4, 9), (37, 4, 7), (44, 4, 8), (54, 4, 10)]
def fT_8 : List (Nat × Nat × Nat) := [(9, 8, 0), (15, 8, 1), (18, 8, 2)]
def fT_9 : List (Nat × Nat × Nat) := [(9, 9, 0), (15, 9, 2), (19, 9, 1), (23, 9, 3)]
def fT_11 : List (Nat × Nat × Nat) := [(10, 11, 0), (16, 11, 1), (19, 11, 2), (25, 11, 4), (29, 11, 5), (32, 11, 6), (38, 11, 8), (41, 11, 11), (44, 11, 12), (49, 11, 13), (53, 11, 15), (58, 11, 16), (120, 11, 7), (139, 4, 5), (142, 4, 2), (145, 4, 4), (148, 4, 1), (187, 4, 8), (199, 4, 7), (234, 4, 3), (254, 9, 3), (274, 4, 9), (292, 4, 6), (298, 11, 3), (305, 11, 10), (311, 11, 9), (320, 11, 14), (383, 9, 2), (386, 9, 0), (390, 9, 1), (398, 8, 0)]
def fT_12 : List (Nat × Nat × Nat) := [(9, 12, 2), (15, 12, 3), (18, 12, 5), (21, 12, 8), (24, 12, 9), (27, 12, 10), (30, 12, 11), (33, 12, 16), (36, 12, 17), (39, 12, 18), (42, 12, 19), (45, 12, 20), (48, 12, 21), (51, 12, 22), (54, 12, 26), (57, 12, 27), (60, 12, 30), (63, 12, 32), (66, 12, 34), (69, 12, 35), (72, 12, 36), (75, 12, 37), (79, 12, 40), (82, 12, 41), (85, 12, 42), (88, 12, 43), (91, 12, 44), (94, 12, 45), (97, 12, 47), (100, 12, 0), (108, 12, 1), (152, 12, 29), (155, 12, 28), (158, 12, 4), (161, 12, 12), (168, 12, 14), (182, 12, 13), (206, 12, 15), (212, 12, 6), (216, 12, 7), (252, 12, 38), (258, 12, 39), (296, 12, 46), (332, 12, 23), (335, 12, 24), (338, 12, 25), (341, 12, 33), (362, 12, 31)]
def fTab (c : Nat) : List (Nat × Nat × Nat) := match c with
  | 3 => fT_3
  | 4 => fT_4
  | 8 => fT_8
  | 9 => fT_9
  | 11 => fT_11
  | 12 => fT_12
  | _ => []
def fld (c i : Nat) : Option (Nat × Nat) := (fTab c).lookup i
/-- whether slot k of class C0 holds a reference -/
def fRef (C0 k : Nat) : Bool := match C0 with
  | 0 => [2].contains k
  | 1 => [2].contains k
  | 2 => [2].contains k
  | 3 => [0, 1, 2, 3, 6].contains k
  | 4 => [0, 1, 2, 3, 4, 5, 6].contains k
  | 5 => [2].contains k
  | 6 => [2].contains k
  | 7 => [2].contains k
  | 8 => [2].contains k
  | 9 => [0, 1].contains k
  | 10 => [2].contains k
  | 11 => [0, 1, 2, 4, 5, 6, 8, 11, 12, 13, 15, 16].contains k
  | 12 => [2, 3, 5, 8, 9, 10, 11, 16, 17, 18, 19, 20, 21, 22, 26, 27, 30, 32, 34, 35, 36, 37, 40, 41, 42, 43, 44, 45, 47].contains k
  | _ => false
def fBool (C0 k : Nat) : Bool := match C0 with
  | 0 => [].contains k
  | 1 => [].contains k
  | 2 => [].contains k
  | 3 => [].contains k
  | 4 => [].contains k
  | 5 => [].contains k
  | 6 => [].contains k
  | 7 => [].contains k
  | 8 => [].contains k
  | 9 => [].contains k
  | 10 => [].contains k
  | 11 => [3].contains k
  | 12 => [6, 23].contains k
  | _ => false
def fFin (C0 k : Nat) : Bool := match C0 with
  | 0 => [0, 1, 2].contains k
  | 1 => [0, 1, 2].contains k
  | 2 => [0, 1, 2].contains k
  | 3 => [0, 1, 2, 3].contains k
  | 4 => [0, 1, 2, 3, 4, 5, 6].contains k
  | 5 => [0, 1, 2].contains k
  | 6 => [0, 1, 2].contains k
  | 7 => [0, 1, 2].contains k
  | 8 => [0, 1, 2].contains k
  | 9 => [0].contains k
  | 10 => [0, 1, 2].contains k
  | 11 => [0, 1, 2, 6, 8, 11, 12, 13, 15, 16].contains k
  | 12 => [2, 3, 5, 8, 9, 10, 11, 16, 17, 18, 19, 20, 21, 22, 26, 27, 30, 32, 34, 35, 36, 37, 40, 41, 42, 43, 44, 45, 47].contains k
  | _ => false
def nSlots (C0 : Nat) : Nat := [3, 3, 3, 9, 11, 3, 3, 3, 3, 4, 3, 17, 48].getD C0 0
def okF (C0 ci : Nat) : Bool := if C0 = 8 then [0, 1, 2, 5, 6, 7, 8, 10].contains ci else ci == C0
theorem fE_3_11 : fld 3 11 = some (3, 0) := rfl
theorem fE_3_15 : fld 3 15 = some (3, 1) := rfl
theorem fE_3_18 : fld 3 18 = some (3, 2) := rfl
theorem fE_3_21 : fld 3 21 = some (3, 3) := rfl
theorem fE_3_24 : fld 3 24 = some (3, 4) := rfl
theorem fE_3_28 : fld 3 28 = some (3, 6) := rfl
theorem fE_3_37 : fld 3 37 = some (3, 7) := rfl
theorem fE_3_40 : fld 3 40 = some (3, 8) := rfl
theorem fE_3_78 : fld 3 78 = some (3, 5) := rfl
theorem fE_4_9 : fld 4 9 = some (4, 0) := rfl
theorem fE_4_15 : fld 4 15 = some (4, 1) := rfl
theorem fE_4_18 : fld 4 18 = some (4, 2) := rfl
theorem fE_4_21 : fld 4 21 = some (4, 3) := rfl
theorem fE_4_24 : fld 4 24 = some (4, 4) := rfl
theorem fE_4_27 : fld 4 27 = some (4, 5) := rfl
theorem fE_4_30 : fld 4 30 = some (4, 6) := rfl
theorem fE_4_33 : fld 4 33 = some (4, 9) := rfl
theorem fE_4_37 : fld 4 37 = some (4, 7) := rfl
theorem fE_4_44 : fld 4 44 = some (4, 8) := rfl
theorem fE_4_54 : fld 4 54 = some (4, 10) := rfl
theorem fE_8_9 : fld 8 9 = some (8, 0) := rfl
theorem fE_8_15 : fld 8 15 = some (8, 1) := rfl
theorem fE_8_18 : fld 8 18 = some (8, 2) := rfl
theorem fE_9_9 : fld 9 9 = some (9, 0) := rfl
theorem fE_9_15 : fld 9 15 = some (9, 2) := rfl
theorem fE_9_19 : fld 9 19 = some (9, 1) := rfl
theorem fE_9_23 : fld 9 23 = some (9, 3) := rfl
theorem fE_11_10 : fld 11 10 = some (11, 0) := rfl
theorem fE_11_16 : fld 11 16 = some (11, 1) := rfl
theorem fE_11_19 : fld 11 19 = some (11, 2) := rfl
theorem fE_11_25 : fld 11 25 = some (11, 4) := rfl
theorem fE_11_29 : fld 11 29 = some (11, 5) := rfl
theorem fE_11_32 : fld 11 32 = some (11, 6) := rfl
theorem fE_11_38 : fld 11 38 = some (11, 8) := rfl
theorem fE_11_41 : fld 11 41 = some (11, 11) := rfl
theorem fE_11_44 : fld 11 44 = some (11, 12) := rfl
theorem fE_11_49 : fld 11 49 = some (11, 13) := rfl
theorem fE_11_53 : fld 11 53 = some (11, 15) := rfl
theorem fE_11_58 : fld 11 58 = some (11, 16) := rfl
theorem fE_11_120 : fld 11 120 = some (11, 7) := rfl
theorem fE_11_139 : fld 11 139 = some (4, 5) := rfl
theorem fE_11_142 : fld 11 142 = some (4, 2) := rfl
theorem fE_11_145 : fld 11 145 = some (4, 4) := rfl
theorem fE_11_148 : fld 11 148 = some (4, 1) := rfl
theorem fE_11_187 : fld 11 187 = some (4, 8) := rfl
theorem fE_11_199 : fld 11 199 = some (4, 7) := rfl
theorem fE_11_234 : fld 11 234 = some (4, 3) := rfl
theorem fE_11_254 : fld 11 254 = some (9, 3) := rfl
theorem fE_11_274 : fld 11 274 = some (4, 9) := rfl
theorem fE_11_292 : fld 11 292 = some (4, 6) := rfl
theorem fE_11_298 : fld 11 298 = some (11, 3) := rfl
theorem fE_11_305 : fld 11 305 = some (11, 10) := rfl
theorem fE_11_311 : fld 11 311 = some (11, 9) := rfl
theorem fE_11_320 : fld 11 320 = some (11, 14) := rfl
theorem fE_11_383 : fld 11 383 = some (9, 2) := rfl
theorem fE_11_386 : fld 11 386 = some (9, 0) := rfl
theorem fE_11_390 : fld 11 390 = some (9, 1) := rfl
theorem fE_11_398 : fld 11 398 = some (8, 0) := rfl
theorem fE_12_9 : fld 12 9 = some (12, 2) := rfl
theorem fE_12_15 : fld 12 15 = some (12, 3) := rfl
theorem fE_12_18 : fld 12 18 = some (12, 5) := rfl
theorem fE_12_21 : fld 12 21 = some (12, 8) := rfl
theorem fE_12_24 : fld 12 24 = some (12, 9) := rfl
theorem fE_12_27 : fld 12 27 = some (12, 10) := rfl
theorem fE_12_30 : fld 12 30 = some (12, 11) := rfl
theorem fE_12_33 : fld 12 33 = some (12, 16) := rfl
theorem fE_12_36 : fld 12 36 = some (12, 17) := rfl
theorem fE_12_39 : fld 12 39 = some (12, 18) := rfl
theorem fE_12_42 : fld 12 42 = some (12, 19) := rfl
theorem fE_12_45 : fld 12 45 = some (12, 20) := rfl
theorem fE_12_48 : fld 12 48 = some (12, 21) := rfl
theorem fE_12_51 : fld 12 51 = some (12, 22) := rfl
theorem fE_12_54 : fld 12 54 = some (12, 26) := rfl
theorem fE_12_57 : fld 12 57 = some (12, 27) := rfl
theorem fE_12_60 : fld 12 60 = some (12, 30) := rfl
theorem fE_12_63 : fld 12 63 = some (12, 32) := rfl
theorem fE_12_66 : fld 12 66 = some (12, 34) := rfl
theorem fE_12_69 : fld 12 69 = some (12, 35) := rfl
theorem fE_12_72 : fld 12 72 = some (12, 36) := rfl
theorem fE_12_75 : fld 12 75 = some (12, 37) := rfl
theorem fE_12_79 : fld 12 79 = some (12, 40) := rfl
theorem fE_12_82 : fld 12 82 = some (12, 41) := rfl
theorem fE_12_85 : fld 12 85 = some (12, 42) := rfl
theorem fE_12_88 : fld 12 88 = some (12, 43) := rfl
theorem fE_12_91 : fld 12 91 = some (12, 44) := rfl
theorem fE_12_94 : fld 12 94 = some (12, 45) := rfl
theorem fE_12_97 : fld 12 97 = some (12, 47) := rfl
theorem fE_12_100 : fld 12 100 = some (12, 0) := rfl
theorem fE_12_108 : fld 12 108 = some (12, 1) := rfl
theorem fE_12_152 : fld 12 152 = some (12, 29) := rfl
theorem fE_12_155 : fld 12 155 = some (12, 28) := rfl
theorem fE_12_158 : fld 12 158 = some (12, 4) := rfl
theorem fE_12_161 : fld 12 161 = some (12, 12) := rfl
theorem fE_12_168 : fld 12 168 = some (12, 14) := rfl
theorem fE_12_182 : fld 12 182 = some (12, 13) := rfl
theorem fE_12_206 : fld 12 206 = some (12, 15) := rfl
theorem fE_12_212 : fld 12 212 = some (12, 6) := rfl
theorem fE_12_216 : fld 12 216 = some (12, 7) := rfl
theorem fE_12_252 : fld 12 252 = some (12, 38) := rfl
theorem fE_12_258 : fld 12 258 = some (12, 39) := rfl
theorem fE_12_296 : fld 12 296 = some (12, 46) := rfl
theorem fE_12_332 : fld 12 332 = some (12, 23) := rfl
theorem fE_12_335 : fld 12 335 = some (12, 24) := rfl
theorem fE_12_338 : fld 12 338 = some (12, 25) := rfl
theorem fE_12_341 : fld 12 341 = some (12, 33) := rfl
theorem fE_12_362 : fld 12 362 = some (12, 31) := rfl
def kI (c i : Nat) : Option Int32 := match c, i with
  | 11, 104 => some (-2000000000)
  | 12, 144 => some (-2000000000)
  | 14, 265 => some (1431655765)
  | 14, 266 => some (858993459)
  | 14, 267 => some (252645135)
  | 11, 287 => some (1103515245)
  | 12, 331 => some (1103515245)
  | _, _ => none
def kL (c i : Nat) : Option Int64 := match c, i with
  | 13, 161 => some (4294967295)
  | 12, 125 => some (4)
  | 11, 260 => some (100)
  | 11, 378 => some (-9223372036854775808)
  | 12, 372 => some (-9223372036854775808)
  | _, _ => none
/-! calls: by class of the caller and place of its pool: the method and how many arguments. sT static, nT static of a nest mate, iT <init>, jT <init> of a nest mate, pT super; vT virtual by the class of the receiver -/
def sT (c i : Nat) : Option (Nat × Nat) := match c with
  | 3 => List.lookup i [(61, 12, 1), (71, 16, 1), (89, 22, 3)]
  | 4 => List.lookup i [(77, 33, 2), (105, 42, 2), (108, 246, 2)]
  | 9 => List.lookup i [(26, 248, 2)]
  | 11 => List.lookup i [(75, 142, 1), (79, 141, 3), (202, 249, 2), (229, 247, 1), (243, 33, 2), (246, 105, 1), (277, 114, 1), (394, 139, 2)]
  | 12 => List.lookup i [(104, 145, 3), (111, 148, 1), (122, 149, 1), (178, 169, 1), (219, 178, 3), (234, 180, 2), (255, 186, 2), (305, 207, 2), (308, 247, 1), (350, 228, 1), (368, 240, 2)]
  | _ => none
def nT (c i : Nat) : Option (Nat × Nat) := match c with
  | 3 => List.lookup i [(74, 141, 3)]
  | 4 => List.lookup i [(40, 141, 3)]
  | _ => none
def iT (c i : Nat) : Option (Nat × Nat) := match c with
  | 0 => List.lookup i [(1, 45, 3)]
  | 1 => List.lookup i [(1, 52, 3)]
  | 2 => List.lookup i [(1, 52, 3)]
  | 5 => List.lookup i [(1, 3, 3)]
  | 6 => List.lookup i [(1, 52, 3)]
  | 7 => List.lookup i [(1, 48, 3)]
  | 10 => List.lookup i [(1, 50, 3)]
  | 11 => List.lookup i [(329, 48, 3), (334, 3, 3), (337, 45, 3), (340, 50, 3), (343, 1, 3), (346, 5, 3), (349, 67, 3), (350, 52, 3)]
  | 13 => List.lookup i [(9, 70, 0), (12, 144, 0)]
  | _ => none
def jT (c i : Nat) : Option (Nat × Nat) := match c with
  | 11 => List.lookup i [(9, 23, 0), (24, 7, 0), (62, 58, 0)]
  | _ => none
def pT (c i : Nat) : Option (Nat × Nat) := match c with
  | 0 => List.lookup i [(13, 57, 1)]
  | 1 => List.lookup i [(13, 55, 1)]
  | 2 => List.lookup i [(13, 54, 1)]
  | 5 => List.lookup i [(13, 56, 1), (17, 4, 1)]
  | 6 => List.lookup i [(13, 54, 1)]
  | 7 => List.lookup i [(13, 56, 1)]
  | 10 => List.lookup i [(13, 55, 1), (20, 57, 1)]
  | _ => none
def vN (c i : Nat) : Option Nat := match c with
  | 0 => List.lookup i [(7, 1)]
  | 1 => List.lookup i [(7, 1)]
  | 2 => List.lookup i [(7, 1)]
  | 3 => List.lookup i [(43, 0), (47, 1), (51, 2), (55, 2), (58, 1), (65, 0), (68, 0), (81, 1), (85, 0)]
  | 4 => List.lookup i [(47, 1), (51, 1), (57, 2), (67, 1), (81, 1), (85, 0), (91, 6), (101, 2), (113, 2), (116, 0)]
  | 5 => List.lookup i [(7, 1)]
  | 6 => List.lookup i [(7, 1)]
  | 7 => List.lookup i [(7, 1), (17, 1)]
  | 8 => List.lookup i [(22, 1), (26, 1), (30, 1), (33, 1)]
  | 9 => List.lookup i [(32, 2)]
  | 10 => List.lookup i [(7, 1), (17, 1)]
  | 11 => List.lookup i [(63, 2), (67, 1), (71, 4), (83, 0), (87, 0), (90, 2), (93, 2), (97, 1), (101, 2), (105, 2), (109, 4), (113, 3), (117, 1), (124, 2), (128, 1), (131, 2), (135, 1), (151, 1), (155, 1), (159, 0), (163, 0), (166, 1), (169, 3), (172, 1), (175, 1), (178, 3), (181, 2), (184, 0), (190, 1), (193, 0), (196, 1), (208, 3), (217, 2), (220, 2), (223, 1), (226, 2), (237, 2), (240, 3), (250, 2), (262, 2), (265, 2), (268, 2), (271, 1), (280, 5), (284, 3), (288, 2), (295, 1), (302, 1), (308, 0), (323, 2), (351, 1), (354, 1), (357, 1), (360, 1), (363, 1), (367, 2), (370, 2), (373, 2), (380, 0)]
  | 12 => List.lookup i [(115, 4), (119, 1), (127, 2), (131, 1), (134, 1), (137, 2), (141, 2), (145, 2), (148, 3), (164, 0), (171, 0), (175, 1), (185, 1), (188, 0), (191, 0), (194, 0), (197, 0), (200, 0), (203, 0), (209, 0), (228, 1), (231, 1), (237, 2), (240, 1), (249, 1), (261, 1), (265, 0), (268, 3), (272, 1), (276, 1), (279, 0), (281, 0), (284, 0), (287, 1), (290, 1), (293, 3), (299, 3), (302, 3), (313, 2), (316, 1), (319, 2), (322, 1), (325, 3), (328, 3), (344, 1), (347, 3), (353, 3), (356, 3), (359, 3), (365, 1)]
  | 13 => List.lookup i [(13, 1), (17, 1), (18, 2), (22, 2), (23, 3), (27, 3), (28, 3), (31, 3), (32, 2), (35, 2), (36, 1), (39, 1), (40, 0), (44, 0), (45, 1), (48, 1), (49, 3), (52, 3), (53, 2), (56, 2), (57, 1), (60, 1), (61, 3), (64, 3), (65, 3), (68, 3), (69, 2), (72, 2), (73, 2), (76, 2), (77, 2), (80, 2), (81, 2), (84, 2), (85, 2), (88, 2), (89, 3), (92, 3), (93, 0), (96, 0), (97, 1), (100, 1), (101, 3), (104, 3), (105, 3), (108, 3), (109, 0), (112, 0), (113, 2), (116, 2), (117, 1), (120, 1), (121, 1), (124, 1), (125, 0), (128, 0), (129, 0), (132, 0), (133, 0), (136, 0), (137, 0), (140, 0), (141, 1), (144, 1), (145, 3), (148, 3), (149, 1), (152, 1), (153, 2), (156, 2), (157, 3), (160, 3), (163, 3), (167, 3), (168, 2), (172, 2), (173, 5), (177, 5), (178, 2), (181, 2), (182, 1), (185, 1)]
  | _ => none
def vL (c i : Nat) : List (Nat × Nat) := match c with
  | 0 => (List.lookup i [(7, [(0, 53)])]).getD []
  | 1 => (List.lookup i [(7, [(0, 53), (1, 53), (5, 53)])]).getD []
  | 2 => (List.lookup i [(7, [(2, 53)])]).getD []
  | 3 => (List.lookup i [(43, [(3, 10)]), (47, [(3, 17)]), (51, [(3, 11)]), (55, [(3, 18)]), (58, [(3, 13)]), (65, [(3, 15)]), (68, [(3, 14)]), (81, [(3, 20)]), (85, [(3, 21)])]).getD []
  | 4 => (List.lookup i [(47, [(4, 24)]), (51, [(4, 25)]), (57, [(4, 28)]), (67, [(4, 32)]), (81, [(4, 38)]), (85, [(3, 8)]), (91, [(3, 19)]), (101, [(4, 40)]), (113, [(4, 41)]), (116, [(4, 43)])]).getD []
  | 5 => (List.lookup i [(7, [(0, 53), (5, 53)])]).getD []
  | 6 => (List.lookup i [(7, [(6, 53), (7, 53), (10, 53)])]).getD []
  | 7 => (List.lookup i [(7, [(7, 53), (10, 53)]), (17, [(7, 49), (10, 49)])]).getD []
  | 8 => (List.lookup i [(22, [(0, 53), (1, 53), (2, 53), (5, 53), (6, 53), (7, 53), (8, 53), (10, 53)]), (26, [(0, 54), (1, 54), (2, 6), (5, 54), (6, 49), (7, 49), (8, 54), (10, 49)]), (30, [(0, 47), (1, 4), (2, 55), (5, 47), (6, 55), (7, 55), (8, 55), (10, 68)]), (33, [(0, 46), (1, 56), (2, 56), (5, 46), (6, 56), (7, 51), (8, 56), (10, 51)])]).getD []
  | 9 => (List.lookup i [(32, [(9, 64)])]).getD []
  | 10 => (List.lookup i [(7, [(10, 53)]), (17, [(10, 51)])]).getD []
  | 11 => (List.lookup i [(63, [(11, 76)]), (67, [(4, 26)]), (71, [(4, 27)]), (83, [(9, 59)]), (87, [(9, 61)]), (90, [(9, 64)]), (93, [(11, 74)]), (97, [(9, 65)]), (101, [(4, 28)]), (105, [(4, 29)]), (109, [(11, 124)]), (113, [(4, 30)]), (117, [(4, 24)]), (124, [(3, 9)]), (128, [(4, 25)]), (131, [(4, 40)]), (135, [(11, 82)]), (151, [(4, 31)]), (155, [(4, 44)]), (159, [(4, 35)]), (163, [(4, 36)]), (166, [(11, 143)]), (169, [(11, 86)]), (172, [(11, 87)]), (175, [(11, 88)]), (178, [(4, 37)]), (181, [(4, 41)]), (184, [(4, 43)]), (190, [(11, 91)]), (193, [(11, 92)]), (196, [(11, 94)]), (208, [(11, 93)]), (217, [(11, 95)]), (220, [(11, 97)]), (223, [(11, 99)]), (226, [(11, 100)]), (237, [(11, 102)]), (240, [(11, 103)]), (250, [(11, 106)]), (262, [(11, 108)]), (265, [(11, 109)]), (268, [(11, 111)]), (271, [(4, 34)]), (280, [(11, 115)]), (284, [(11, 116)]), (288, [(4, 39)]), (295, [(4, 38)]), (302, [(4, 32)]), (308, [(11, 125)]), (323, [(11, 129)]), (351, [(0, 54), (1, 54), (2, 6), (5, 54), (6, 49), (7, 49), (8, 54), (10, 49)]), (354, [(0, 47), (1, 4), (2, 55), (5, 47), (6, 55), (7, 55), (8, 55), (10, 68)]), (357, [(0, 46), (1, 56), (2, 56), (5, 46), (6, 56), (7, 51), (8, 56), (10, 51)]), (360, [(0, 2), (1, 57), (2, 57), (5, 57), (6, 57), (7, 57), (8, 57), (10, 69)]), (363, [(9, 62)]), (367, [(9, 63)]), (370, [(11, 136)]), (373, [(9, 66)]), (380, [(9, 60)])]).getD []
  | 12 => (List.lookup i [(115, [(12, 151)]), (119, [(12, 146)]), (127, [(12, 155)]), (131, [(12, 153)]), (134, [(12, 147)]), (137, [(12, 156)]), (141, [(12, 157)]), (145, [(12, 158)]), (148, [(12, 159)]), (164, [(12, 165)]), (171, [(12, 168)]), (175, [(12, 167)]), (185, [(12, 166)]), (188, [(12, 170)]), (191, [(12, 175)]), (194, [(12, 171)]), (197, [(12, 172)]), (200, [(12, 173)]), (203, [(12, 174)]), (209, [(12, 176)]), (228, [(12, 182)]), (231, [(12, 181)]), (237, [(12, 179)]), (240, [(12, 183)]), (249, [(12, 184)]), (261, [(12, 187)]), (265, [(12, 188)]), (268, [(12, 191)]), (272, [(12, 190)]), (276, [(12, 189)]), (279, [(12, 192)]), (281, [(12, 193)]), (284, [(12, 194)]), (287, [(12, 198)]), (290, [(12, 200)]), (293, [(12, 199)]), (299, [(12, 203)]), (302, [(12, 205)]), (313, [(12, 209)]), (316, [(12, 211)]), (319, [(12, 212)]), (322, [(12, 216)]), (325, [(12, 218)]), (328, [(12, 219)]), (344, [(12, 229)]), (347, [(12, 230)]), (353, [(12, 231)]), (356, [(12, 232)]), (359, [(12, 233)]), (365, [(12, 239)])]).getD []
  | 13 => (List.lookup i [(13, [(11, 71)]), (17, [(12, 150)]), (18, [(11, 72)]), (22, [(12, 152)]), (23, [(11, 73)]), (27, [(12, 154)]), (28, [(11, 75)]), (31, [(12, 160)]), (32, [(11, 77)]), (35, [(12, 161)]), (36, [(11, 78)]), (39, [(12, 164)]), (40, [(11, 79)]), (44, [(12, 177)]), (45, [(11, 80)]), (48, [(12, 185)]), (49, [(11, 81)]), (52, [(12, 195)]), (53, [(11, 83)]), (56, [(12, 196)]), (57, [(11, 84)]), (60, [(12, 197)]), (61, [(11, 85)]), (64, [(12, 201)]), (65, [(11, 89)]), (68, [(12, 202)]), (69, [(11, 90)]), (72, [(12, 204)]), (73, [(11, 96)]), (76, [(12, 206)]), (77, [(11, 98)]), (80, [(12, 208)]), (81, [(11, 101)]), (84, [(12, 210)]), (85, [(11, 104)]), (88, [(12, 213)]), (89, [(11, 107)]), (92, [(12, 214)]), (93, [(11, 110)]), (96, [(12, 215)]), (97, [(11, 112)]), (100, [(12, 217)]), (101, [(11, 113)]), (104, [(12, 220)]), (105, [(11, 117)]), (108, [(12, 221)]), (109, [(11, 118)]), (112, [(12, 222)]), (113, [(11, 119)]), (116, [(12, 223)]), (117, [(11, 120)]), (120, [(12, 224)]), (121, [(11, 121)]), (124, [(12, 225)]), (125, [(11, 122)]), (128, [(12, 226)]), (129, [(11, 123)]), (132, [(12, 227)]), (133, [(11, 126)]), (136, [(12, 162)]), (137, [(11, 127)]), (140, [(12, 163)]), (141, [(11, 128)]), (144, [(12, 234)]), (145, [(11, 130)]), (148, [(12, 235)]), (149, [(11, 131)]), (152, [(12, 236)]), (153, [(11, 132)]), (156, [(12, 237)]), (157, [(11, 133)]), (160, [(12, 238)]), (163, [(11, 134)]), (167, [(12, 241)]), (168, [(11, 135)]), (172, [(12, 242)]), (173, [(11, 137)]), (177, [(12, 243)]), (178, [(11, 138)]), (181, [(12, 244)]), (182, [(11, 140)]), (185, [(12, 245)])]).getD []
  | _ => []
def vT (c i ci : Nat) : Option Nat := (vL c i).lookup ci
def biS (c i : Nat) : Option Nat := match c, i with
  | 11, 314 => some 0
  | 3, 31 => some 2
  | 4, 95 => some 2
  | 4, 98 => some 1
  | 4, 71 => some 3
  | 12, 243 => some 2
  | 12, 246 => some 1
  | 12, 223 => some 3
  | 4, 61 => some 0
  | 11, 212 => some 1
  | 11, 257 => some 2
  | _, _ => none
def biI (c i : Nat) : Option Nat := match c, i with
  | 11, 1 => some 4
  | 4, 3 => some 4
  | 3, 3 => some 4
  | 9, 3 => some 4
  | 12, 3 => some 4
  | 8, 3 => some 4
  | _, _ => none
def nwT (c i : Nat) : Option Nat := match c, i with
  | 13, 7 => some 11
  | 13, 10 => some 12
  | 11, 7 => some 4
  | 11, 22 => some 3
  | 11, 47 => some 8
  | 11, 56 => some 9
  | 11, 327 => some 6
  | 11, 332 => some 1
  | 11, 335 => some 5
  | 11, 338 => some 7
  | 11, 341 => some 0
  | 11, 344 => some 2
  | 11, 347 => some 10
  | _, _ => none
def anT (c i : Nat) : Option Nat := match c, i with
  | 11, 47 => some 15
  | 11, 56 => some 16
  | _, _ => none
def mnT (c i : Nat) : Bool := match c, i with
  | 11, 36 => true
  | _, _ => false
def inT (c i : Nat) : Option Nat := match c, i with
  | 11, 327 => some 6
  | 11, 332 => some 1
  | 11, 335 => some 5
  | 11, 338 => some 7
  | 11, 341 => some 0
  | 11, 344 => some 2
  | 11, 347 => some 10
  | _, _ => none
/-- whether a reed's class ci is k or under it -/
def subK (ci k : Nat) : Bool := match ci with
  | 0 => [0, 5, 1, 8].contains k
  | 1 => [1, 8].contains k
  | 2 => [2, 8].contains k
  | 5 => [5, 1, 8].contains k
  | 6 => [6, 8].contains k
  | 7 => [7, 6, 8].contains k
  | 8 => [8].contains k
  | 10 => [10, 7, 6, 8].contains k
  | _ => false
/-! ===== the evaluator: a pure machine over numbered addresses ===== -/
/-- a pure value: an int, a reference (0: null), a long -/
abbrev PV : Type := Sum Int32 (Sum Nat Int64)
abbrev vi (x : Int32) : PV := Sum.inl x
abbrev vr (r : Nat) : PV := Sum.inr (Sum.inl r)
abbrev vl (x : Int64) : PV := Sum.inr (Sum.inr x)
/-- the places that a row of values takes -/
def szL : List PV → Nat
  | [] => 0
  | .inl _ :: r => szL r + 1
  | .inr (.inl _) :: r => szL r + 1
  | .inr (.inr _) :: r => szL r + 2
/-- a pure memory: ints, longs, references by address and place; kind and length by address; the next address; slots used -/
abbrev Mem : Type := (Nat → Nat → Int32) × (Nat → Nat → Int64) × (Nat → Nat → Nat) × (Nat → Nat) × (Nat → Nat) × Nat × Nat
def mI (M : Mem) (a i : Nat) : Int32 := M.1 a i
def mJ (M : Mem) (a i : Nat) : Int64 := M.2.1 a i
def mR (M : Mem) (a i : Nat) : Nat := M.2.2.1 a i
def mK (M : Mem) (a : Nat) : Nat := M.2.2.2.1 a
def mN (M : Mem) (a : Nat) : Nat := M.2.2.2.2.1 a
def mX (M : Mem) : Nat := M.2.2.2.2.2.1
def mS (M : Mem) : Nat := M.2.2.2.2.2.2
def up2 {α : Type} (f : Nat → Nat → α) (a i : Nat) (v : α) : Nat → Nat → α := fun b j => if b = a then (if j = i then v else f b j) else f b j
def up1 {α : Type} (f : Nat → α) (a : Nat) (v : α) : Nat → α := fun b => if b = a then v else f b
def sI (M : Mem) (a i : Nat) (v : Int32) : Mem := (up2 M.1 a i v, M.2)
def sJ (M : Mem) (a i : Nat) (v : Int64) : Mem := (M.1, up2 M.2.1 a i v, M.2.2)
def sR (M : Mem) (a i : Nat) (v : Nat) : Mem := (M.1, M.2.1, up2 M.2.2.1 a i v, M.2.2.2)
/-- row a from place dp on gets n elements of row b from sp on -/
def cpy {α : Type} (f : Nat → Nat → α) (b sp a dp n : Nat) : Nat → Nat → α := fun c j => if c = a then (if dp ≤ j ∧ j < dp + n then f b (sp + (j - dp)) else f c j) else f c j
def cI (M : Mem) (b sp a dp n : Nat) : Mem := (cpy M.1 b sp a dp n, M.2)
def cJ (M : Mem) (b sp a dp n : Nat) : Mem := (M.1, cpy M.2.1 b sp a dp n, M.2.2)
/-- a new cell of kind k, length n, at mX M; slots more are used -/
def nw (M : Mem) (k n slots : Nat) : Mem :=
  (fun b j => if b = mX M then 0 else M.1 b j, fun b j => if b = mX M then 0 else M.2.1 b j, fun b j => if b = mX M then 0 else M.2.2.1 b j,
   up1 M.2.2.2.1 (mX M) k, up1 M.2.2.2.2.1 (mX M) n, mX M + 1, mS M + slots)
/-- new int[n][k]: the outer row at mX M, the rows behind it -/
def nw2 (M : Mem) (n k : Nat) : Mem :=
  (fun b j => if mX M ≤ b ∧ b ≤ mX M + n then 0 else M.1 b j, fun b j => if mX M ≤ b ∧ b ≤ mX M + n then 0 else M.2.1 b j,
   fun b j => if mX M ≤ b ∧ b ≤ mX M + n then (if b = mX M then (if j < n then mX M + 1 + j else 0) else 0) else M.2.2.1 b j,
   fun b => if mX M ≤ b ∧ b ≤ mX M + n then (if b = mX M then 17 else 13) else M.2.2.2.1 b,
   fun b => if mX M ≤ b ∧ b ≤ mX M + n then (if b = mX M then n else k) else M.2.2.2.2.1 b, mX M + 1 + n, mS M + n + n * k)
/-- a place of a row -/
abbrev inb (i : Int32) (n : Nat) : Prop := ¬ i < 0 ∧ i.toNatClampNeg < n
abbrev ix (i : Int32) : Nat := i.toNatClampNeg
abbrev Loc1 : Type := List (Option PV)
abbrev St1 : Type := Nat × Loc1 × List PV × Mem
/-- the target of a jump -/
def tgt (pc : Nat) (off : Int) : Option Nat := if 0 ≤ (pc : Int) + off then some ((pc : Int) + off).toNat else none
def jmp (t : Option Nat) (ls : Loc1) (st : List PV) (M : Mem) : Option St1 := match t with
  | some q => some (q, ls, st, M)
  | none => none
def e_ld (k : Nat) (kd : Nat) (n pc : Nat) (ls : Loc1) (st : List PV) (M : Mem) : Option St1 := match ls[k]? with
  | some (some (.inl x)) => if kd = 0 then some (pc + n, ls, vi x :: st, M) else none
  | some (some (.inr (.inl r))) => if kd = 1 then some (pc + n, ls, vr r :: st, M) else none
  | some (some (.inr (.inr x))) => match ls[k + 1]? with
    | some none => if kd = 2 then some (pc + n, ls, vl x :: st, M) else none
    | _ => none
  | _ => none
def e_st (k : Nat) (kd : Nat) (n pc : Nat) (ls : Loc1) (st : List PV) (M : Mem) : Option St1 := match st with
  | .inl x :: r => if kd = 0 ∧ k < ls.length then some (pc + n, ls.set k (some (vi x)), r, M) else none
  | .inr (.inl x) :: r => if kd = 1 ∧ k < ls.length then some (pc + n, ls.set k (some (vr x)), r, M) else none
  | .inr (.inr x) :: r => if kd = 2 ∧ k + 1 < ls.length then some (pc + n, (ls.set k (some (vl x))).set (k + 1) none, r, M) else none
  | _ => none
def e_c (v : PV) (n pc : Nat) (ls : Loc1) (st : List PV) (M : Mem) : Option St1 := some (pc + n, ls, v :: st, M)
def e_b (f : Int32 → Int32 → Int32) (pc : Nat) (ls : Loc1) (st : List PV) (M : Mem) : Option St1 := match st with
  | .inl y :: .inl x :: r => some (pc + 1, ls, vi (f x y) :: r, M)
  | _ => none
def e_d (f : Int32 → Int32 → Int32) (pc : Nat) (ls : Loc1) (st : List PV) (M : Mem) : Option St1 := match st with
  | .inl y :: .inl x :: r => if y = 0 then none else some (pc + 1, ls, vi (f x y) :: r, M)
  | _ => none
def e_u (f : Int32 → Int32) (pc : Nat) (ls : Loc1) (st : List PV) (M : Mem) : Option St1 := match st with
  | .inl x :: r => some (pc + 1, ls, vi (f x) :: r, M)
  | _ => none
def e_lb (f : Int64 → Int64 → Int64) (pc : Nat) (ls : Loc1) (st : List PV) (M : Mem) : Option St1 := match st with
  | .inr (.inr y) :: .inr (.inr x) :: r => some (pc + 1, ls, vl (f x y) :: r, M)
  | _ => none
def lcmpV (x y : Int64) : Int32 := lg_cmp x y
def e_if (p : Int32 → Bool) (pc : Nat) (off : Int) (ls : Loc1) (st : List PV) (M : Mem) : Option St1 := match st, tgt pc off with
  | .inl x :: r, some q => if p x = true then some (q, ls, r, M) else some (pc + 3, ls, r, M)
  | _, _ => none
def e_ic (p : Int32 → Int32 → Bool) (pc : Nat) (off : Int) (ls : Loc1) (st : List PV) (M : Mem) : Option St1 := match st, tgt pc off with
  | .inl y :: .inl x :: r, some q => if p x y = true then some (q, ls, r, M) else some (pc + 3, ls, r, M)
  | _, _ => none
def c1 (c : Jvm.ClassFile.Cond) (x : Int32) : Bool := match c with
  | .eq => decide (x = 0) | .ne => !decide (x = 0) | .lt => decide (x < 0) | .ge => decide (0 ≤ x) | .gt => decide (0 < x) | .le => decide (x ≤ 0)
def c2 (c : Jvm.ClassFile.Cond) (x y : Int32) : Bool := match c with
  | .eq => decide (x = y) | .ne => !decide (x = y) | .lt => decide (x < y) | .ge => decide (y ≤ x) | .gt => decide (y < x) | .le => decide (x ≤ y)
/-- kinds: 13 int[], 14 long[], 15 Reed[], 16 Shelf[], 17 int[][]; the script is row 1 -/
def e_get (c i pc : Nat) (ls : Loc1) (st : List PV) (M : Mem) : Option St1 := match st, fld c i with
  | .inr (.inl r) :: st', some (C0, k) => if okF C0 (mK M r) = true then some (pc + 3, ls, (if fRef C0 k = true then vr (mR M r k) else vi (mI M r k)) :: st', M) else none
  | _, _ => none
def e_put (y c i pc : Nat) (ls : Loc1) (st : List PV) (M : Mem) : Option St1 := match st, fld c i with
  | .inl x :: .inr (.inl r) :: st', some (C0, k) => if (okF C0 (mK M r) && !fRef C0 k && (!fFin C0 k || ((mY y).name == "<init>" && C0 == c)) && (!fBool C0 k || x == 0 || x == 1)) = true then some (pc + 3, ls, st', sI M r k x) else none
  | .inr (.inl q) :: .inr (.inl r) :: st', some (C0, k) => if (okF C0 (mK M r) && fRef C0 k && (!fFin C0 k || ((mY y).name == "<init>" && C0 == c))) = true then some (pc + 3, ls, st', sR M r k q) else none
  | _, _ => none
def e_iald (y pc : Nat) (ls : Loc1) (st : List PV) (M : Mem) : Option St1 := match st with
  | .inl j :: .inr (.inl r) :: st' => if mK M r = 13 ∧ inb j (mN M r) ∧ (r = 1 → y = 0) then some (pc + 1, ls, vi (mI M r (ix j)) :: st', M) else none
  | _ => none
def e_iast (pc : Nat) (ls : Loc1) (st : List PV) (M : Mem) : Option St1 := match st with
  | .inl x :: .inl j :: .inr (.inl r) :: st' => if mK M r = 13 ∧ inb j (mN M r) ∧ r ≠ 1 then some (pc + 1, ls, st', sI M r (ix j) x) else none
  | _ => none
def e_lald (pc : Nat) (ls : Loc1) (st : List PV) (M : Mem) : Option St1 := match st with
  | .inl j :: .inr (.inl r) :: st' => if mK M r = 14 ∧ inb j (mN M r) ∧ r ≠ 1 then some (pc + 1, ls, vl (mJ M r (ix j)) :: st', M) else none
  | _ => none
def e_last (pc : Nat) (ls : Loc1) (st : List PV) (M : Mem) : Option St1 := match st with
  | .inr (.inr x) :: .inl j :: .inr (.inl r) :: st' => if mK M r = 14 ∧ inb j (mN M r) ∧ r ≠ 1 then some (pc + 1, ls, st', sJ M r (ix j) x) else none
  | _ => none
def e_aald (pc : Nat) (ls : Loc1) (st : List PV) (M : Mem) : Option St1 := match st with
  | .inl j :: .inr (.inl r) :: st' => if (mK M r = 15 ∨ mK M r = 16 ∨ mK M r = 17) ∧ inb j (mN M r) ∧ r ≠ 1 then some (pc + 1, ls, vr (mR M r (ix j)) :: st', M) else none
  | _ => none
/-- what may be put into a row of references -/
def okA (k ci : Nat) : Bool := (k == 15 && okF 8 ci) || (k == 16 && ci == 9)
def e_aast (pc : Nat) (ls : Loc1) (st : List PV) (M : Mem) : Option St1 := match st with
  | .inr (.inl q) :: .inl j :: .inr (.inl r) :: st' => if okA (mK M r) (mK M q) = true ∧ inb j (mN M r) ∧ r ≠ 1 ∧ q ≠ 1 then some (pc + 1, ls, st', sR M r (ix j) q) else none
  | _ => none
def e_alen (y pc : Nat) (ls : Loc1) (st : List PV) (M : Mem) : Option St1 := match st with
  | .inr (.inl r) :: st' => if 13 ≤ mK M r ∧ mK M r ≤ 17 ∧ (r = 1 → y = 0) then some (pc + 1, ls, vi (Int32.ofNat (mN M r)) :: st', M) else none
  | _ => none
def e_new (c i pc : Nat) (ls : Loc1) (st : List PV) (M : Mem) : Option St1 := match nwT c i with
  | some k => some (pc + 3, ls, vr (mX M) :: st, nw M k 0 (nSlots k))
  | none => none
def e_nwa (at' : Jvm.ClassFile.ArrayType) (pc : Nat) (ls : Loc1) (st : List PV) (M : Mem) : Option St1 := match st, at' with
  | .inl n :: st', .int => if ¬ n < 0 ∧ ix n ≤ 100000 then some (pc + 2, ls, vr (mX M) :: st', nw M 13 (ix n) (ix n)) else none
  | .inl n :: st', .long => if ¬ n < 0 ∧ ix n ≤ 100000 then some (pc + 2, ls, vr (mX M) :: st', nw M 14 (ix n) (ix n)) else none
  | _, _ => none
def e_anw (c i pc : Nat) (ls : Loc1) (st : List PV) (M : Mem) : Option St1 := match st, anT c i with
  | .inl n :: st', some k => if ¬ n < 0 ∧ ix n ≤ 100000 then some (pc + 3, ls, vr (mX M) :: st', nw M k (ix n) (ix n)) else none
  | _, _ => none
def e_mnw (c i pc : Nat) (ls : Loc1) (st : List PV) (M : Mem) : Option St1 := match st with
  | .inl k :: .inl n :: st' => if mnT c i = true ∧ ¬ n < 0 ∧ ix n ≤ 100000 ∧ ¬ k < 0 ∧ ix k ≤ 100000 then some (pc + 4, ls, vr (mX M) :: st', nw2 M (ix n) (ix k)) else none
  | _ => none
def e_inst (c i pc : Nat) (ls : Loc1) (st : List PV) (M : Mem) : Option St1 := match st, inT c i with
  | .inr (.inl r) :: st', some k => if r = 0 then some (pc + 3, ls, vi 0 :: st', M) else if okF 8 (mK M r) = true then some (pc + 3, ls, vi (if subK (mK M r) k = true then 1 else 0) :: st', M) else none
  | _, _ => none
/-- natives and small static members of the host that are one step: 0 arraycopy, 1 max, 2 min, 3 abs; 4 Object.<init> -/
def e_bi (t pc : Nat) (ls : Loc1) (st : List PV) (M : Mem) : Option St1 := match t, st with
  | 0, .inl n :: .inl dp :: .inr (.inl a) :: .inl sp :: .inr (.inl b) :: r =>
    if ¬ sp < 0 ∧ ¬ dp < 0 ∧ ¬ n < 0 ∧ ix sp + ix n ≤ mN M b ∧ ix dp + ix n ≤ mN M a ∧ a ≠ 1 ∧ b ≠ 1 ∧ mK M a = mK M b ∧ szL r ≤ 8 then
      (if mK M b = 13 then some (pc + 3, ls, r, cI M b (ix sp) a (ix dp) (ix n)) else if mK M b = 14 then some (pc + 3, ls, r, cJ M b (ix sp) a (ix dp) (ix n)) else none)
    else none
  | 1, .inl y :: .inl x :: r => if szL r ≤ 8 then some (pc + 3, ls, vi (if x < y then y else x) :: r, M) else none
  | 2, .inl y :: .inl x :: r => if szL r ≤ 8 then some (pc + 3, ls, vi (if y < x then y else x) :: r, M) else none
  | 3, .inl x :: r => if szL r ≤ 8 then some (pc + 3, ls, vi (if 0 ≤ x then x else 0 - x) :: r, M) else none
  | 4, .inr (.inl q) :: r => if szL r ≤ 8 ∧ mK M q < 13 then some (pc + 3, ls, r, M) else none
  | _, _ => none
def swi (x : Int) (lo hi d : Int) (offs : Array Int) : Int := if x < lo ∨ hi < x then d else offs.getD (x - lo).toNat 0
def e_sw (lo hi d : Int) (offs : Array Int) (pc : Nat) (ls : Loc1) (st : List PV) (M : Mem) : Option St1 := match st with
  | .inl x :: r => if x.toInt < lo ∨ hi < x.toInt then jmp (tgt pc d) ls r M else match offs[(x.toInt - lo).toNat]? with
    | some o => jmp (tgt pc o) ls r M
    | none => none
  | _ => none
def e_lsw (d : Int) (ps : Array (Int × Int)) (pc : Nat) (ls : Loc1) (st : List PV) (M : Mem) : Option St1 := match st with
  | .inl x :: r => if (ps.toList.zip (ps.toList.drop 1)).all (fun (a, next) => a.1 < next.1) = true then jmp (tgt pc (Op.lookupswitch.offset ps.toList d x.toInt)) ls r M else none
  | _ => none
def e_stk (i : Nat) (pc : Nat) (ls : Loc1) (st : List PV) (M : Mem) : Option St1 := match i, st with
  | 0, .inl a :: r => some (pc + 1, ls, vi a :: vi a :: r, M)
  | 0, .inr (.inl a) :: r => some (pc + 1, ls, vr a :: vr a :: r, M)
  | 1, .inl _ :: r => some (pc + 1, ls, r, M)
  | 1, .inr (.inl _) :: r => some (pc + 1, ls, r, M)
  | 2, .inl a :: .inr (.inl b) :: r => some (pc + 1, ls, vi a :: vr b :: vi a :: r, M)
  | 3, .inl a :: .inr (.inl b) :: r => some (pc + 1, ls, vi a :: vr b :: vi a :: vr b :: r, M)
  | _, _ => none
def e_cv (i : Nat) (pc : Nat) (ls : Loc1) (st : List PV) (M : Mem) : Option St1 := match i, st with
  | 0, .inl a :: r => some (pc + 1, ls, vl a.toInt64 :: r, M)
  | 1, .inr (.inr a) :: r => some (pc + 1, ls, vi a.toInt32 :: r, M)
  | 2, .inr (.inr y) :: .inr (.inr x) :: r => some (pc + 1, ls, vi (lcmpV x y) :: r, M)
  | 3, .inl y :: .inr (.inr x) :: r => some (pc + 1, ls, vl (x <<< (y.toInt64 &&& 63)) :: r, M)
  | _, _ => none
def e_inc (k : Nat) (n : Int) (pc : Nat) (ls : Loc1) (st : List PV) (M : Mem) : Option St1 := match ls[k]? with
  | some (some (.inl x)) => some (pc + 3, ls.set k (some (vi (x + Int32.ofInt n))), st, M)
  | _ => none
def e_nul (b : Bool) (off : Int) (pc : Nat) (ls : Loc1) (st : List PV) (M : Mem) : Option St1 := match st, tgt pc off with
  | .inr (.inl r) :: st', some q => if (r == 0) = b then some (q, ls, st', M) else some (pc + 3, ls, st', M)
  | _, _ => none
def e_ldc (n : Nat) (v : Option Int32) (pc : Nat) (ls : Loc1) (st : List PV) (M : Mem) : Option St1 := match v with
  | some x => some (pc + n, ls, vi x :: st, M)
  | none => none
def e_ldl (v : Option Int64) (pc : Nat) (ls : Loc1) (st : List PV) (M : Mem) : Option St1 := match v with
  | some x => some (pc + 3, ls, vl x :: st, M)
  | none => none
def e_call (t : Option Nat) (pc : Nat) (ls : Loc1) (st : List PV) (M : Mem) : Option St1 := match t with
  | some b => e_bi b pc ls st M
  | none => none
def ex (y c : Nat) (i : Instr) (n pc : Nat) (ls : Loc1) (st : List PV) (M : Mem) : Option St1 := match i with
  | .iconst k => e_c (vi (Int32.ofInt k)) 1 pc ls st M
  | .bipush k => e_c (vi (Int8.ofInt k).toInt32) 2 pc ls st M
  | .sipush k => e_c (vi (Int16.ofInt k).toInt32) 3 pc ls st M
  | .lconst k => e_c (vl (Int64.ofNat k)) 1 pc ls st M
  | .aconst_null => e_c (vr 0) 1 pc ls st M
  | .ldc k => e_ldc 2 (kI c k) pc ls st M
  | .ldc_w k => e_ldc 3 (kI c k) pc ls st M
  | .ldc2_w k => e_ldl (kL c k) pc ls st M
  | .iload_n k => e_ld k 0 1 pc ls st M
  | .iload k => e_ld k 0 2 pc ls st M
  | .aload_n k => e_ld k 1 1 pc ls st M
  | .aload k => e_ld k 1 2 pc ls st M
  | .lload_n k => e_ld k 2 1 pc ls st M
  | .lload k => e_ld k 2 2 pc ls st M
  | .istore_n k => e_st k 0 1 pc ls st M
  | .istore k => e_st k 0 2 pc ls st M
  | .astore_n k => e_st k 1 1 pc ls st M
  | .astore k => e_st k 1 2 pc ls st M
  | .lstore_n k => e_st k 2 1 pc ls st M
  | .lstore k => e_st k 2 2 pc ls st M
  | .iinc k m => e_inc k m pc ls st M
  | .iadd => e_b (fun x y => x + y) pc ls st M
  | .isub => e_b (fun x y => x - y) pc ls st M
  | .imul => e_b (fun x y => x * y) pc ls st M
  | .iand => e_b (fun x y => x &&& y) pc ls st M
  | .ior => e_b (fun x y => x ||| y) pc ls st M
  | .ixor => e_b (fun x y => x ^^^ y) pc ls st M
  | .ishl => e_b (fun x y => x <<< (y &&& 31)) pc ls st M
  | .ishr => e_b (fun x y => x >>> (y &&& 31)) pc ls st M
  | .iushr => e_b (fun x y => (x.toUInt32 >>> (y.toUInt32 &&& Int32.toUInt32 31)).toInt32) pc ls st M
  | .idiv => e_d (fun x y => x / y) pc ls st M
  | .irem => e_d (fun x y => x % y) pc ls st M
  | .ineg => e_u (fun x => -x) pc ls st M
  | .i2b => e_u (fun x => x.toInt8.toInt32) pc ls st M
  | .i2s => e_u (fun x => x.toInt16.toInt32) pc ls st M
  | .i2l => e_cv 0 pc ls st M
  | .l2i => e_cv 1 pc ls st M
  | .lcmp => e_cv 2 pc ls st M
  | .lshl => e_cv 3 pc ls st M
  | .ladd => e_lb (fun x y => x + y) pc ls st M
  | .lmul => e_lb (fun x y => x * y) pc ls st M
  | .land => e_lb (fun x y => x &&& y) pc ls st M
  | .lor => e_lb (fun x y => x ||| y) pc ls st M
  | .dup => e_stk 0 pc ls st M
  | .pop => e_stk 1 pc ls st M
  | .dup_x1 => e_stk 2 pc ls st M
  | .dup2 => e_stk 3 pc ls st M
  | .ifCond k o => e_if (c1 k) pc o ls st M
  | .if_icmp k o => e_ic (c2 k) pc o ls st M
  | .goto o => jmp (tgt pc o) ls st M
  | .ifnull o => e_nul true o pc ls st M
  | .ifnonnull o => e_nul false o pc ls st M
  | .tableswitch d lo hi offs => e_sw lo hi d offs pc ls st M
  | .lookupswitch d ps => e_lsw d ps pc ls st M
  | .getfield k => e_get c k pc ls st M
  | .putfield k => e_put y c k pc ls st M
  | .iaload => e_iald y pc ls st M
  | .iastore => e_iast pc ls st M
  | .laload => e_lald pc ls st M
  | .lastore => e_last pc ls st M
  | .aaload => e_aald pc ls st M
  | .aastore => e_aast pc ls st M
  | .arraylength => e_alen y pc ls st M
  | .new k => e_new c k pc ls st M
  | .newarray a => e_nwa a pc ls st M
  | .anewarray k => e_anw c k pc ls st M
  | .multianewarray k q => if q = 2 then e_mnw c k pc ls st M else none
  | .instanceof k => e_inst c k pc ls st M
  | .invokestatic k => e_call (biS c k) pc ls st M
  | .invokespecial k => e_call (biI c k) pc ls st M
  | _ => none
/-- the length that the decoder gives an instruction -/
def okN (i : Instr) (n : Nat) : Bool := match i with
  | .bipush _ => n == 2 | .iload _ => n == 2 | .aload _ => n == 2 | .lload _ => n == 2 | .istore _ => n == 2 | .astore _ => n == 2 | .lstore _ => n == 2 | .ldc _ => n == 2 | .newarray _ => n == 2
  | .sipush _ => n == 3 | .ldc_w _ => n == 3 | .ldc2_w _ => n == 3 | .iinc _ _ => n == 3 | .ifCond _ _ => n == 3 | .if_icmp _ _ => n == 3 | .goto _ => n == 3 | .ifnull _ => n == 3 | .ifnonnull _ => n == 3
  | .getfield _ => n == 3 | .putfield _ => n == 3 | .new _ => n == 3 | .anewarray _ => n == 3 | .instanceof _ => n == 3 | .invokestatic _ => n == 3 | .invokespecial _ => n == 3 | .invokevirtual _ => n == 3
  | .multianewarray _ _ => n == 4 | .tableswitch _ _ _ _ => true | .lookupswitch _ _ => true
  | _ => n == 1
