/-! ===== which keeping fits a book, of whose ===== -/
section FS
variable {d : Nat} {M : Mem} {h h0 h1 h2 : Hp} {j : Jp} {r : Rp} {E : EE} {l G F A s n : Nat} {W : LW} {b bt bm : BB} {Q : Option PV → Mem → Prop} {hd : Int32} {V : Nat → Int64}
theorem ng1 {i : Nat} (h : i < 2 ^ 31) : (nI i = -1) = False := by
  apply eq_false; intro hh; have := congrArg Int32.toInt hh; rw [nI_toInt h, im1] at this; omega
theorem c_ktL {f : Nat} (hs : s < 6) (hf : f < F) (C : CC G F l W b h0 r E) (Cs : ShC s hd n V h0 j r) : ∀ {k i : Nat} {a : Int32} {h : Hp}, i + k = 10 → Scr h0 h → (∀ h', Scr h0 h' → Q (some (vi (ftL W V f (min n 41) b 3 (nI i) k a))) (mm h' j r E)) →
    WP (d + 6) 108 5 [some (vr 2), some (vr (101 + 2 * s)), some (vi (nI f)), some (vi a), some (vi (nI i))] [] (mm h j r E) Q := by
  have hS := C.S
  have hF8 := C.F8
  have hf' : inb (nI f) 8 = True := eq_true (by rw [inb_n (by omega)]; omega)
  intro k
  induction k with
  | zero =>
    intro i a h hk sc hQ
    have : i = 10 := by omega
    subst this
    rw [k108_5]
    simp only [k108_0, k108_1, k108_2, k108_3, k108_7, k108_9, k108_12, k108_13, k108_16, k108_17, k108_20, k108_23, k108_24, k108_27, k108_30, k108_31, k108_33, k108_34, k108_35, k108_36, k108_37, k108_40, k108_42, k108_45, k108_46, k108_47, k108_49, k108_50, k108_51, k108_52, k108_55, k108_58, k108_59, mm_sI, mm_sJ, mm_sR, mm_cI, mm_cJ, mm_I, mm_J, mm_R, mm_K, mm_N, psh_s, psh_n, z_n, z_i, z_r, z_l, Nat.reduceAdd, Nat.reduceLeDiff, false_or, or_false, ne_eq, true_or, or_true, not_false_eq_true, Nat.reduceEqDiff, Nat.reduceLT, Nat.reduceLeDiff, Nat.reduceAdd, show (9 : Int32) < nI 10 by decide, if_true]
    exact hQ h sc
  | succ k ih =>
    intro i a h hk sc hQ
    have p1 : ((9 : Int32) < nI i) = False := by rw [← nn9, nLt (by decide) (by omega)]; apply eq_false; omega
    rw [k108_5]
    simp only [k108_0, k108_1, k108_2, k108_3, k108_7, k108_9, k108_12, k108_13, k108_16, k108_17, k108_20, k108_23, k108_24, k108_27, k108_30, k108_31, k108_33, k108_34, k108_35, k108_36, k108_37, k108_40, k108_42, k108_45, k108_46, k108_47, k108_49, k108_50, k108_51, k108_52, k108_55, k108_58, k108_59, mm_sI, mm_sJ, mm_sR, mm_cI, mm_cJ, mm_I, mm_J, mm_R, mm_K, mm_N, psh_s, psh_n, z_n, z_i, z_r, z_l, Nat.reduceAdd, Nat.reduceLeDiff, K2 hS, R2_0 hS, R2_1 hS, R2_2 hS, R2_6 hS, R2_8 hS, R2_11 hS, R2_12 hS, R2_13 hS, R2_15 hS, R2_16 hS, K3 hS, K11 hS, K19 hS, K27 hS, K32 hS, K37 hS, K98 hS, K99 hS, K100 hS, N37 hS, N98 hS, N99 hS, N100 hS, false_or, or_false, ne_eq, true_or, or_true, not_false_eq_true, Nat.reduceEqDiff, Nat.reduceLT, Nat.reduceLeDiff, Nat.reduceAdd, p1, if_false]
    refine WP.deep (d := d + 5) ?_ (by omega)
    refine t_copy C sc ?_
    intro h1 T
    simp only [k108_0, k108_1, k108_2, k108_3, k108_7, k108_9, k108_12, k108_13, k108_16, k108_17, k108_20, k108_23, k108_24, k108_27, k108_30, k108_31, k108_33, k108_34, k108_35, k108_36, k108_37, k108_40, k108_42, k108_45, k108_46, k108_47, k108_49, k108_50, k108_51, k108_52, k108_55, k108_58, k108_59, mm_sI, mm_sJ, mm_sR, mm_cI, mm_cJ, mm_I, mm_J, mm_R, mm_K, mm_N, psh_s, psh_n, z_n, z_i, z_r, z_l, Nat.reduceAdd, Nat.reduceLeDiff, K2 hS, R2_0 hS, R2_1 hS, R2_2 hS, R2_6 hS, R2_8 hS, R2_11 hS, R2_12 hS, R2_13 hS, R2_15 hS, R2_16 hS, K3 hS, K11 hS, K19 hS, K27 hS, K32 hS, K37 hS, K98 hS, K99 hS, K100 hS, N37 hS, N98 hS, N99 hS, N100 hS, R11_0 hS, R11_1 hS, R11_2 hS, R11_3 hS, R11_4 hS, R11_5 hS, R11_6 hS, K12 hS, K13 hS, K14 hS, K15 hS, K16 hS, K17 hS, K18 hS, N12 hS, N13 hS, N14 hS, N15 hS, N16 hS, N17 hS, N18 hS, false_or, or_false, ne_eq, true_or, or_true, not_false_eq_true, Nat.reduceEqDiff, Nat.reduceLT, Nat.reduceLeDiff, Nat.reduceAdd, hf', ix_n (show f < 2 ^ 31 by omega)]
    refine c_firstNotSo hs hf Cs (tt_set T (k := 3) (v := nI i) (by decide) hf (show inb (nI i) 10 by rw [inb_n (by omega)]; omega)) ?_
    intro h2 s2
    rw [ftL_s] at hQ
    simp only [ng1 (show i < 2 ^ 31 by omega), if_false] at hQ
    simp only [k108_0, k108_1, k108_2, k108_3, k108_7, k108_9, k108_12, k108_13, k108_16, k108_17, k108_20, k108_23, k108_24, k108_27, k108_30, k108_31, k108_33, k108_34, k108_35, k108_36, k108_37, k108_40, k108_42, k108_45, k108_46, k108_47, k108_49, k108_50, k108_51, k108_52, k108_55, k108_58, k108_59, mm_sI, mm_sJ, mm_sR, mm_cI, mm_cJ, mm_I, mm_J, mm_R, mm_K, mm_N, psh_s, psh_n, z_n, z_i, z_r, z_l, Nat.reduceAdd, Nat.reduceLeDiff, false_or, or_false, ne_eq, true_or, or_true, not_false_eq_true, Nat.reduceEqDiff, Nat.reduceLT, Nat.reduceLeDiff, Nat.reduceAdd, nS1]
    by_cases c : bkL W V f 0 (min n 41) (up2 b 3 f (nI i)) = -2
    · simp only [c, if_true, nS1] at hQ ⊢
      exact ih (by omega) s2 hQ
    · simp only [c, if_false, nS1] at hQ ⊢
      exact ih (by omega) s2 hQ
theorem c_whL {f : Nat} (hs : s < 6) (hf : f < F) (C : CC G F l W b h0 r E) (Cs : ShC s hd n V h0 j r) : ∀ {k i : Nat} {a : Int32} {h : Hp}, i + k = G → Scr h0 h → (∀ h', Scr h0 h' → Q (some (vi (ftL W V f (min n 41) b 4 (nI i) k a))) (mm h' j r E)) →
    WP (d + 6) 109 5 [some (vr 2), some (vr (101 + 2 * s)), some (vi (nI f)), some (vi a), some (vi (nI i))] [] (mm h j r E) Q := by
  have hS := C.S
  have hF8 := C.F8
  have hG8 := C.G8
  have hf' : inb (nI f) 8 = True := eq_true (by rw [inb_n (by omega)]; omega)
  intro k
  induction k with
  | zero =>
    intro i a h hk sc hQ
    have : i = G := by omega
    subst this
    rw [k109_5]
    simp only [k109_0, k109_1, k109_2, k109_3, k109_7, k109_8, k109_11, k109_14, k109_17, k109_18, k109_21, k109_22, k109_25, k109_28, k109_29, k109_32, k109_35, k109_36, k109_38, k109_39, k109_40, k109_41, k109_42, k109_45, k109_47, k109_50, k109_51, k109_53, k109_54, k109_57, k109_60, k109_63, k109_64, k109_66, k109_67, k109_68, k109_69, k109_72, k109_75, k109_76, mm_sI, mm_sJ, mm_sR, mm_cI, mm_cJ, mm_I, mm_J, mm_R, mm_K, mm_N, psh_s, psh_n, z_n, z_i, z_r, z_l, Nat.reduceAdd, Nat.reduceLeDiff, K2 hS, R2_0 hS, R2_1 hS, R2_2 hS, R2_6 hS, R2_8 hS, R2_11 hS, R2_12 hS, R2_13 hS, R2_15 hS, R2_16 hS, K3 hS, K11 hS, K19 hS, K27 hS, K32 hS, K37 hS, K98 hS, K99 hS, K100 hS, N37 hS, N98 hS, N99 hS, N100 hS, false_or, or_false, ne_eq, true_or, or_true, not_false_eq_true, Nat.reduceEqDiff, Nat.reduceLT, Nat.reduceLeDiff, Nat.reduceAdd, (C.fr sc).eG, Int32.le_refl, if_true]
    exact hQ h sc
  | succ k ih =>
    intro i a h hk sc hQ
    rw [k109_5]
    simp only [k109_0, k109_1, k109_2, k109_3, k109_7, k109_8, k109_11, k109_14, k109_17, k109_18, k109_21, k109_22, k109_25, k109_28, k109_29, k109_32, k109_35, k109_36, k109_38, k109_39, k109_40, k109_41, k109_42, k109_45, k109_47, k109_50, k109_51, k109_53, k109_54, k109_57, k109_60, k109_63, k109_64, k109_66, k109_67, k109_68, k109_69, k109_72, k109_75, k109_76, mm_sI, mm_sJ, mm_sR, mm_cI, mm_cJ, mm_I, mm_J, mm_R, mm_K, mm_N, psh_s, psh_n, z_n, z_i, z_r, z_l, Nat.reduceAdd, Nat.reduceLeDiff, K2 hS, R2_0 hS, R2_1 hS, R2_2 hS, R2_6 hS, R2_8 hS, R2_11 hS, R2_12 hS, R2_13 hS, R2_15 hS, R2_16 hS, K3 hS, K11 hS, K19 hS, K27 hS, K32 hS, K37 hS, K98 hS, K99 hS, K100 hS, N37 hS, N98 hS, N99 hS, N100 hS, false_or, or_false, ne_eq, true_or, or_true, not_false_eq_true, Nat.reduceEqDiff, Nat.reduceLT, Nat.reduceLeDiff, Nat.reduceAdd, (C.fr sc).eG, nLe (show G < 2 ^ 31 by omega) (show i < 2 ^ 31 by omega), show ¬ G ≤ i by omega, if_false]
    refine WP.deep (d := d + 5) ?_ (by omega)
    refine t_copy C sc ?_
    intro h1 T
    simp only [k109_0, k109_1, k109_2, k109_3, k109_7, k109_8, k109_11, k109_14, k109_17, k109_18, k109_21, k109_22, k109_25, k109_28, k109_29, k109_32, k109_35, k109_36, k109_38, k109_39, k109_40, k109_41, k109_42, k109_45, k109_47, k109_50, k109_51, k109_53, k109_54, k109_57, k109_60, k109_63, k109_64, k109_66, k109_67, k109_68, k109_69, k109_72, k109_75, k109_76, mm_sI, mm_sJ, mm_sR, mm_cI, mm_cJ, mm_I, mm_J, mm_R, mm_K, mm_N, psh_s, psh_n, z_n, z_i, z_r, z_l, Nat.reduceAdd, Nat.reduceLeDiff, K2 hS, R2_0 hS, R2_1 hS, R2_2 hS, R2_6 hS, R2_8 hS, R2_11 hS, R2_12 hS, R2_13 hS, R2_15 hS, R2_16 hS, K3 hS, K11 hS, K19 hS, K27 hS, K32 hS, K37 hS, K98 hS, K99 hS, K100 hS, N37 hS, N98 hS, N99 hS, N100 hS, R11_0 hS, R11_1 hS, R11_2 hS, R11_3 hS, R11_4 hS, R11_5 hS, R11_6 hS, K12 hS, K13 hS, K14 hS, K15 hS, K16 hS, K17 hS, K18 hS, N12 hS, N13 hS, N14 hS, N15 hS, N16 hS, N17 hS, N18 hS, false_or, or_false, ne_eq, true_or, or_true, not_false_eq_true, Nat.reduceEqDiff, Nat.reduceLT, Nat.reduceLeDiff, Nat.reduceAdd, hf', ix_n (show f < 2 ^ 31 by omega)]
    refine c_firstNotSo hs hf Cs (tt_set T (k := 4) (v := nI i) (by decide) hf (Or.inr (by rw [inb_n (by omega)]; omega))) ?_
    intro h2 s2
    rw [ftL_s] at hQ
    simp only [ng1 (show i < 2 ^ 31 by omega), if_false] at hQ
    simp only [k109_0, k109_1, k109_2, k109_3, k109_7, k109_8, k109_11, k109_14, k109_17, k109_18, k109_21, k109_22, k109_25, k109_28, k109_29, k109_32, k109_35, k109_36, k109_38, k109_39, k109_40, k109_41, k109_42, k109_45, k109_47, k109_50, k109_51, k109_53, k109_54, k109_57, k109_60, k109_63, k109_64, k109_66, k109_67, k109_68, k109_69, k109_72, k109_75, k109_76, mm_sI, mm_sJ, mm_sR, mm_cI, mm_cJ, mm_I, mm_J, mm_R, mm_K, mm_N, psh_s, psh_n, z_n, z_i, z_r, z_l, Nat.reduceAdd, Nat.reduceLeDiff, false_or, or_false, ne_eq, true_or, or_true, not_false_eq_true, Nat.reduceEqDiff, Nat.reduceLT, Nat.reduceLeDiff, Nat.reduceAdd, nS1, ng1 (show i < 2 ^ 31 by omega), if_false]
    by_cases c : bkL W V f 0 (min n 41) (up2 b 4 f (nI i)) = -2
    · simp only [c, if_true, nS1] at hQ ⊢
      exact ih (by omega) s2 hQ
    · simp only [c, if_false, nS1] at hQ ⊢
      exact ih (by omega) s2 hQ
theorem c_whose {f : Nat} (hs : s < 6) (hf : f < F) (C : CC G F l W b h r E) (Cs : ShC s hd n V h j r) (hQ : ∀ h', Scr h h' → Q (some (vi (ftL W V f (min n 41) b 4 (-1) (G + 1) 0))) (mm h' j r E)) :
    WP (d + 6) 109 0 [some (vr 2), some (vr (101 + 2 * s)), some (vi (nI f)), none, none] [] (mm h j r E) Q := by
  have hS := C.S
  have hF8 := C.F8
  have hG8 := C.G8
  have hf' : inb (nI f) 8 = True := eq_true (by rw [inb_n (by omega)]; omega)
  have p1 : (nI G ≤ -1) = False := by apply eq_false; rw [iLe, nI_toInt (by omega), im1]; omega
  simp only [k109_0, k109_1, k109_2, k109_3, k109_7, k109_8, k109_11, k109_14, k109_17, k109_18, k109_21, k109_22, k109_25, k109_28, k109_29, k109_32, k109_35, k109_36, k109_38, k109_39, k109_40, k109_41, k109_42, k109_45, k109_47, k109_50, k109_51, k109_53, k109_54, k109_57, k109_60, k109_63, k109_64, k109_66, k109_67, k109_68, k109_69, k109_72, k109_75, k109_76, mm_sI, mm_sJ, mm_sR, mm_cI, mm_cJ, mm_I, mm_J, mm_R, mm_K, mm_N, psh_s, psh_n, z_n, z_i, z_r, z_l, Nat.reduceAdd, Nat.reduceLeDiff, false_or, or_false, ne_eq, true_or, or_true, not_false_eq_true, Nat.reduceEqDiff, Nat.reduceLT, Nat.reduceLeDiff, Nat.reduceAdd]
  rw [k109_5]
  simp only [k109_0, k109_1, k109_2, k109_3, k109_7, k109_8, k109_11, k109_14, k109_17, k109_18, k109_21, k109_22, k109_25, k109_28, k109_29, k109_32, k109_35, k109_36, k109_38, k109_39, k109_40, k109_41, k109_42, k109_45, k109_47, k109_50, k109_51, k109_53, k109_54, k109_57, k109_60, k109_63, k109_64, k109_66, k109_67, k109_68, k109_69, k109_72, k109_75, k109_76, mm_sI, mm_sJ, mm_sR, mm_cI, mm_cJ, mm_I, mm_J, mm_R, mm_K, mm_N, psh_s, psh_n, z_n, z_i, z_r, z_l, Nat.reduceAdd, Nat.reduceLeDiff, K2 hS, R2_0 hS, R2_1 hS, R2_2 hS, R2_6 hS, R2_8 hS, R2_11 hS, R2_12 hS, R2_13 hS, R2_15 hS, R2_16 hS, K3 hS, K11 hS, K19 hS, K27 hS, K32 hS, K37 hS, K98 hS, K99 hS, K100 hS, N37 hS, N98 hS, N99 hS, N100 hS, false_or, or_false, ne_eq, true_or, or_true, not_false_eq_true, Nat.reduceEqDiff, Nat.reduceLT, Nat.reduceLeDiff, Nat.reduceAdd, C.eG, p1, if_false]
  refine WP.deep (d := d + 5) ?_ (by omega)
  refine t_copy C Scr.rf ?_
  intro h1 T
  simp only [k109_0, k109_1, k109_2, k109_3, k109_7, k109_8, k109_11, k109_14, k109_17, k109_18, k109_21, k109_22, k109_25, k109_28, k109_29, k109_32, k109_35, k109_36, k109_38, k109_39, k109_40, k109_41, k109_42, k109_45, k109_47, k109_50, k109_51, k109_53, k109_54, k109_57, k109_60, k109_63, k109_64, k109_66, k109_67, k109_68, k109_69, k109_72, k109_75, k109_76, mm_sI, mm_sJ, mm_sR, mm_cI, mm_cJ, mm_I, mm_J, mm_R, mm_K, mm_N, psh_s, psh_n, z_n, z_i, z_r, z_l, Nat.reduceAdd, Nat.reduceLeDiff, K2 hS, R2_0 hS, R2_1 hS, R2_2 hS, R2_6 hS, R2_8 hS, R2_11 hS, R2_12 hS, R2_13 hS, R2_15 hS, R2_16 hS, K3 hS, K11 hS, K19 hS, K27 hS, K32 hS, K37 hS, K98 hS, K99 hS, K100 hS, N37 hS, N98 hS, N99 hS, N100 hS, R11_0 hS, R11_1 hS, R11_2 hS, R11_3 hS, R11_4 hS, R11_5 hS, R11_6 hS, K12 hS, K13 hS, K14 hS, K15 hS, K16 hS, K17 hS, K18 hS, N12 hS, N13 hS, N14 hS, N15 hS, N16 hS, N17 hS, N18 hS, false_or, or_false, ne_eq, true_or, or_true, not_false_eq_true, Nat.reduceEqDiff, Nat.reduceLT, Nat.reduceLeDiff, Nat.reduceAdd, hf', ix_n (show f < 2 ^ 31 by omega)]
  refine c_firstNotSo hs hf Cs (tt_set T (k := 4) (v := -1) (by decide) hf (Or.inl rfl)) ?_
  intro h2 s2
  rw [ftL_s, if_pos rfl, show (1 : Int32) <<< ((8 : Int32) &&& 31) = 256 by decide, show (-1 : Int32) + 1 = nI 0 by decide] at hQ
  simp only [k109_0, k109_1, k109_2, k109_3, k109_7, k109_8, k109_11, k109_14, k109_17, k109_18, k109_21, k109_22, k109_25, k109_28, k109_29, k109_32, k109_35, k109_36, k109_38, k109_39, k109_40, k109_41, k109_42, k109_45, k109_47, k109_50, k109_51, k109_53, k109_54, k109_57, k109_60, k109_63, k109_64, k109_66, k109_67, k109_68, k109_69, k109_72, k109_75, k109_76, mm_sI, mm_sJ, mm_sR, mm_cI, mm_cJ, mm_I, mm_J, mm_R, mm_K, mm_N, psh_s, psh_n, z_n, z_i, z_r, z_l, Nat.reduceAdd, Nat.reduceLeDiff, false_or, or_false, ne_eq, true_or, or_true, not_false_eq_true, Nat.reduceEqDiff, Nat.reduceLT, Nat.reduceLeDiff, Nat.reduceAdd, if_true, show (-1 : Int32) + 1 = nI 0 by decide]
  by_cases c : bkL W V f 0 (min n 41) (up2 b 4 f (-1)) = -2
  · simp only [c, if_true] at hQ ⊢
    exact c_whL hs hf C Cs (by omega) s2 hQ
  · simp only [c, if_false] at hQ ⊢
    exact c_whL hs hf C Cs (by omega) s2 hQ
theorem c_fits {sh fr what : Int32} {HD : Nat → Int32} {N : Nat → Nat} {V : Nat → Nat → Int64} (C : CC G F l W b h r E) (Cs : ∀ s, s < 6 → ShC s (HD s) (N s) (V s) h j r) (hQ : ∀ h', Scr h h' → Q (some (vi (fitsA G F W b HD N V sh fr what))) (mm h' j r E)) :
    WP (d + 7) 107 0 [some (vr 2), some (vi sh), some (vi fr), some (vi what), none, none] [] (mm h j r E) Q := by
  have hS := C.S
  have h4 : b2i (0 ≤ what ∧ what ≤ 1) = b2i (inb what 2) := in_lit rfl (by decide)
  have hr := hQ h Scr.rf
  unfold fitsA at hQ hr
  simp only [k107_0, k107_1, k107_4, k107_7, k107_8, k107_11, k107_12, k107_15, k107_18, k107_19, k107_20, k107_21, k107_24, k107_27, k107_28, k107_29, k107_30, k107_33, k107_34, k107_35, k107_37, k107_39, k107_42, k107_44, k107_46, k107_49, k107_51, k107_52, k107_53, k107_56, k107_57, k107_59, k107_60, k107_63, k107_66, k107_67, k107_69, k107_70, k107_73, mm_sI, mm_sJ, mm_sR, mm_cI, mm_cJ, mm_I, mm_J, mm_R, mm_K, mm_N, psh_s, psh_n, z_n, z_i, z_r, z_l, Nat.reduceAdd, Nat.reduceLeDiff, K2 hS, R2_0 hS, R2_1 hS, R2_2 hS, R2_6 hS, R2_8 hS, R2_11 hS, R2_12 hS, R2_13 hS, R2_15 hS, R2_16 hS, K3 hS, K11 hS, K19 hS, K27 hS, K32 hS, K37 hS, K98 hS, K99 hS, K100 hS, N37 hS, N98 hS, N99 hS, N100 hS, false_or, or_false, ne_eq, true_or, or_true, not_false_eq_true, Nat.reduceEqDiff, Nat.reduceLT, Nat.reduceLeDiff, Nat.reduceAdd, s_isShelf, c_hasFrog C, s_within, h4, b2i_0]
  by_cases c1 : inb sh 6
  case neg => simp only [eq_false c1, not_false_eq_true, if_true, false_and, if_false] at hr ⊢; exact hr
  by_cases c2 : inb fr F
  case neg => simp only [eq_false c2, not_false_eq_true, if_true, false_and, and_false, if_false, eq_true c1, not_true_eq_false] at hr ⊢; exact hr
  by_cases c3 : inb what 2
  case neg => simp only [eq_false c3, not_false_eq_true, if_true, false_and, and_false, if_false, eq_true c1, eq_true c2, not_true_eq_false] at hr ⊢; exact hr
  obtain ⟨s, hs, rfl, _⟩ := inb_of c1
  obtain ⟨f, hf, rfl, hf2⟩ := inb_of c2
  have ex : ix (nI s) = s := ix_n (by omega)
  simp only [eq_true c1, eq_true c2, eq_true c3, not_true_eq_false, if_false, and_true, if_true, ex, ix_n hf2] at hQ hr
  simp only [k107_0, k107_1, k107_4, k107_7, k107_8, k107_11, k107_12, k107_15, k107_18, k107_19, k107_20, k107_21, k107_24, k107_27, k107_28, k107_29, k107_30, k107_33, k107_34, k107_35, k107_37, k107_39, k107_42, k107_44, k107_46, k107_49, k107_51, k107_52, k107_53, k107_56, k107_57, k107_59, k107_60, k107_63, k107_66, k107_67, k107_69, k107_70, k107_73, mm_sI, mm_sJ, mm_sR, mm_cI, mm_cJ, mm_I, mm_J, mm_R, mm_K, mm_N, psh_s, psh_n, z_n, z_i, z_r, z_l, Nat.reduceAdd, Nat.reduceLeDiff, K2 hS, R2_0 hS, R2_1 hS, R2_2 hS, R2_6 hS, R2_8 hS, R2_11 hS, R2_12 hS, R2_13 hS, R2_15 hS, R2_16 hS, K3 hS, K11 hS, K19 hS, K27 hS, K32 hS, K37 hS, K98 hS, K99 hS, K100 hS, N37 hS, N98 hS, N99 hS, N100 hS, false_or, or_false, ne_eq, true_or, or_true, not_false_eq_true, Nat.reduceEqDiff, Nat.reduceLT, Nat.reduceLeDiff, Nat.reduceAdd, eq_true c1, eq_true c2, eq_true c3, not_true_eq_false, if_false, if_true, ex, shR hS hs, s_bookRefusal hS hs (Cs s hs)]
  by_cases h1 : HD s = -1
  · simp only [h1, if_true] at hr
    simp only [h1, if_true, show ¬ ((-11 : Int32) = 0) by decide, if_false]; exact hr
  · by_cases h0 : HD s = 0
    · simp only [h0, if_true, show ¬ ((0 : Int32) = -1) by decide, if_false] at hQ ⊢
      by_cases c : what = 0
      · simp only [c, if_true] at hQ ⊢
        simp only [k108_0, k108_1, k108_2, k108_3, k108_7, k108_9, k108_12, k108_13, k108_16, k108_17, k108_20, k108_23, k108_24, k108_27, k108_30, k108_31, k108_33, k108_34, k108_35, k108_36, k108_37, k108_40, k108_42, k108_45, k108_46, k108_47, k108_49, k108_50, k108_51, k108_52, k108_55, k108_58, k108_59, mm_sI, mm_sJ, mm_sR, mm_cI, mm_cJ, mm_I, mm_J, mm_R, mm_K, mm_N, psh_s, psh_n, z_n, z_i, z_r, z_l, Nat.reduceAdd, Nat.reduceLeDiff, false_or, or_false, ne_eq, true_or, or_true, not_false_eq_true, Nat.reduceEqDiff, Nat.reduceLT, Nat.reduceLeDiff, Nat.reduceAdd]
        refine c_ktL hs hf C (Cs s hs) (i := 0) (k := 10) (by omega) Scr.rf ?_
        intro h' s'
        simp only [k107_0, k107_1, k107_4, k107_7, k107_8, k107_11, k107_12, k107_15, k107_18, k107_19, k107_20, k107_21, k107_24, k107_27, k107_28, k107_29, k107_30, k107_33, k107_34, k107_35, k107_37, k107_39, k107_42, k107_44, k107_46, k107_49, k107_51, k107_52, k107_53, k107_56, k107_57, k107_59, k107_60, k107_63, k107_66, k107_67, k107_69, k107_70, k107_73, mm_sI, mm_sJ, mm_sR, mm_cI, mm_cJ, mm_I, mm_J, mm_R, mm_K, mm_N, psh_s, psh_n, z_n, z_i, z_r, z_l, Nat.reduceAdd, Nat.reduceLeDiff, false_or, or_false, ne_eq, true_or, or_true, not_false_eq_true, Nat.reduceEqDiff, Nat.reduceLT, Nat.reduceLeDiff, Nat.reduceAdd]
        exact hQ h' s'
      · simp only [c, if_false] at hQ ⊢
        refine c_whose hs hf C (Cs s hs) ?_
        intro h' s'
        simp only [k107_0, k107_1, k107_4, k107_7, k107_8, k107_11, k107_12, k107_15, k107_18, k107_19, k107_20, k107_21, k107_24, k107_27, k107_28, k107_29, k107_30, k107_33, k107_34, k107_35, k107_37, k107_39, k107_42, k107_44, k107_46, k107_49, k107_51, k107_52, k107_53, k107_56, k107_57, k107_59, k107_60, k107_63, k107_66, k107_67, k107_69, k107_70, k107_73, mm_sI, mm_sJ, mm_sR, mm_cI, mm_cJ, mm_I, mm_J, mm_R, mm_K, mm_N, psh_s, psh_n, z_n, z_i, z_r, z_l, Nat.reduceAdd, Nat.reduceLeDiff, false_or, or_false, ne_eq, true_or, or_true, not_false_eq_true, Nat.reduceEqDiff, Nat.reduceLT, Nat.reduceLeDiff, Nat.reduceAdd]
        exact hQ h' s'
    · simp only [h1, h0, if_false] at hr
      simp only [h1, h0, if_false, show ¬ ((-12 : Int32) = 0) by decide]; exact hr
/-- one number is set, then worked with; set again -/
theorem Scr.st {i : Nat} {v w : Int32} (s : Scr (up2 h 114 i v) h1) : Scr (up2 h 114 i w) (up2 h1 114 i w) := by
  refine ⟨?_, ?_, ?_⟩
  · intro a ha
    have := s.1 a ha
    by_cases a4 : a = 114
    · subst a4
      funext x
      by_cases e : x = i
      · subst e; rw [up2_s, up2_s]
      · rw [up2_i e, up2_i e, this, up2_i e]
    · rw [up2_a a4, up2_a a4, this, up2_a a4]
  · intro x hx
    have := s.2.1 x hx
    rw [up2_a (by decide), up2_a (by decide)] at this
    rw [up2_a (by decide), up2_a (by decide), up2_a (by decide), up2_a (by decide)]; exact this
  · intro x p q t
    have := s.2.2 x p q t
    rw [up2_a (by decide)] at this
    rw [up2_a (by decide), up2_a (by decide)]; exact this
end FS
