/-! ===== which keeping fits a book, of whose ===== -/
section FS
variable {d : Nat} {M : Mem} {h h0 h1 h2 : Hp} {j : Jp} {r : Rp} {E : EE} {l G F A s n : Nat} {W : LW} {b bt bm : BB} {Q : Option PV → Mem → Prop} {hd : Int32} {V : Nat → Int64}
theorem ng1 {i : Nat} (h : i < 2 ^ 31) : (nI i = -1) = False := by
  apply eq_false; intro hh; have := congrArg Int32.toInt hh; rw [nI_toInt h, im1] at this; omega
theorem c_ktL {f : Nat} (hs : s < 6) (hf : f < F) (C : CC G F l W b h0 r E) (Cs : ShC s hd n V h0 j r) : ∀ {k i : Nat} {a : Int32} {h : Hp}, i + k = 10 → Scr h0 h → (∀ h', Scr h0 h' → Q (some (vi (ftL W V f (min n 41) b 3 (nI i) k a))) (mm h' j r E)) →
    WP (d + 6) 108 5 [some (vr 2), some (vr (101 + 2 * s)), some (vi (nI f)), some (vi a), some (vi (nI i))] [] (mm h j r E) Q := by
  have hS := C.S
  have hF8 := C.F8
  have hf' : inb (nI f) 8 = True := eq_true (by rw [inb_n (by omega)]; omega)
  intro k
  induction k with
  | zero =>
    intro i a h hk sc hQ
    have : i = 10 := by omega
    subst this
    rw [k108_5]
    simp only [k108_0, k108_1, k108_2, k108_3, k108_7, k108_9, k108_12, k108_13, k108_16, k108_17, k108_20, k108_23, k108_24, k108_27, k108_30, k108_31, k108_33, k108_34, k108_35, k108_36, k108_37, k108_40, k108_42, k108_45, k108_46, k108_47, k108_49, k108_50, k108_51, k108_52, k108_55, k108_58, k108_59, mm_sI, mm_sJ, mm_sR, mm_cI, mm_cJ, mm_I, mm_J, mm_R, mm_K, mm_N, psh_s, psh_n, z_n, z_i, z_r, z_l, Nat.reduceAdd, Nat.reduceLeDiff, false_or, or_false, ne_eq, true_or, or_true, not_false_eq_true, Nat.reduceEqDiff, Nat.reduceLT, Nat.reduceLeDiff, Nat.reduceAdd, show (9 : Int32) < nI 10 by decide, if_true]
    exact hQ h sc
  | succ k ih =>
    intro i a h hk sc hQ
    have p1 : ((9 : Int32) < nI i) = False := by rw [← nn9, nLt (by decide) (by omega)]; apply eq_false; omega
    rw [k108_5]
    simp only [k108_0, k108_1, k108_2, k108_3, k108_7, k108_9, k108_12, k108_13, k108_16, k108_17, k108_20, k108_23, k108_24, k108_27, k108_30, k108_31, k108_33, k108_34, k108_35, k108_36, k108_37, k108_40, k108_42, k108_45, k108_46, k108_47, k108_49, k108_50, k108_51, k108_52, k108_55, k108_58, k108_59, mm_sI, mm_sJ, mm_sR, mm_cI, mm_cJ, mm_I, mm_J, mm_R, mm_K, mm_N, psh_s, psh_n, z_n, z_i, z_r, z_l, Nat.reduceAdd, Nat.reduceLeDiff, K2 hS, R2_0 hS, R2_1 hS, R2_2 hS, R2_6 hS, R2_8 hS, R2_11 hS, R2_12 hS, R2_13 hS, R2_15 hS, R2_16 hS, K3 hS, K11 hS, K19 hS, K27 hS, K32 hS, K37 hS, K98 hS, K99 hS, K100 hS, N37 hS, N98 hS, N99 hS, N100 hS, false_or, or_false, ne_eq, true_or, or_true, not_false_eq_true, Nat.reduceEqDiff, Nat.reduceLT, Nat.reduceLeDiff, Nat.reduceAdd, p1, if_false]
    refine WP.deep (d := d + 5) ?_ (by omega)
    refine t_copy C sc ?_
    intro h1 T
    simp only [k108_0, k108_1, k108_2, k108_3, k108_7, k108_9, k108_12, k108_13, k108_16, k108_17, k108_20, k108_23, k108_24, k108_27, k108_30, k108_31, k108_33, k108_34, k108_35, k108_36, k108_37, k108_40, k108_42, k108_45, k108_46, k108_47, k108_49, k108_50, k108_51, k108_52, k108_55, k108_58, k108_59, mm_sI, mm_sJ, mm_sR, mm_cI, mm_cJ, mm_I, mm_J, mm_R, mm_K, mm_N, psh_s, psh_n, z_n, z_i, z_r, z_l, Nat.reduceAdd, Nat.reduceLeDiff, K2 hS, R2_0 hS, R2_1 hS, R2_2 hS, R2_6 hS, R2_8 hS, R2_11 hS, R2_12 hS, R2_13 hS, R2_15 hS, R2_16 hS, K3 hS, K11 hS, K19 hS, K27 hS, K32 hS, K37 hS, K98 hS, K99 hS, K100 hS, N37 hS, N98 hS, N99 hS, N100 hS, R11_0 hS, R11_1 hS, R11_2 hS, R11_3 hS, R11_4 hS, R11_5 hS, R11_6 hS, K12 hS, K13 hS, K14 hS, K15 hS, K16 hS, K17 hS, K18 hS, N12 hS, N13 hS, N14 hS, N15 hS, N16 hS, N17 hS, N18 hS, false_or, or_false, ne_eq, true_or, or_true, not_false_eq_true, Nat.reduceEqDiff, Nat.reduceLT, Nat.reduceLeDiff, Nat.reduceAdd, hf', ix_n (show f < 2 ^ 31 by omega)]
    refine c_firstNotSo hs hf Cs (tt_set T (k := 3) (v := nI i) (by decide) hf (show inb (nI i) 10 by rw [inb_n (by omega)]; omega)) ?_
    intro h2 s2
    rw [ftL_s] at hQ
    simp only [ng1 (show i < 2 ^ 31 by omega), if_false] at hQ
    simp only [k108_0, k108_1, k108_2, k108_3, k108_7, k108_9, k108_12, k108_13, k108_16, k108_17, k108_20, k108_23, k108_24, k108_27, k108_30, k108_31, k108_33, k108_34, k108_35, k108_36, k108_37, k108_40, k108_42, k108_45, k108_46, k108_47, k108_49, k108_50, k108_51, k108_52, k108_55, k108_58, k108_59, mm_sI, mm_sJ, mm_sR, mm_cI, mm_cJ, mm_I, mm_J, mm_R, mm_K, mm_N, psh_s, psh_n, z_n, z_i, z_r, z_l, Nat.reduceAdd, Nat.reduceLeDiff, false_or, or_false, ne_eq, true_or, or_true, not_false_eq_true, Nat.reduceEqDiff, Nat.reduceLT, Nat.reduceLeDiff, Nat.reduceAdd, nS1]
    by_cases c : bkL W V f 0 (min n 41) (up2 b 3 f (nI i)) = -2
    · simp only [c, if_true, nS1] at hQ ⊢
      exact ih (by omega) s2 hQ
    · simp only [c, if_false, nS1] at hQ ⊢
      exact ih (by omega) s2 hQ
theorem c_whL {f : Nat} (hs : s < 6) (hf : f < F) (C : CC G F l W b h0 r E) (Cs : ShC s hd n V h0 j r) : ∀ {k i : Nat} {a : Int32} {h : Hp}, i + k = G → Scr h0 h → (∀ h', Scr h0 h' → Q (some (vi (ftL W V f (min n 41) b 4 (nI i) k a))) (mm h' j r E)) →
    WP (d + 6) 109 5 [some (vr 2), some (vr (101 + 2 * s)), some (vi (nI f)), some (vi a), some (vi (nI i))] [] (mm h j r E) Q := by
  have hS := C.S
  have hF8 := C.F8
  have hG8 := C.G8
  have hf' : inb (nI f) 8 = True := eq_true (by rw [inb_n (by omega)]; omega)
  intro k
  induction k with
  | zero =>
    intro i a h hk sc hQ
    have : i = G := by omega
    subst this
    rw [k109_5]
    simp only [k109_0, k109_1, k109_2, k109_3, k109_7, k109_8, k109_11, k109_14, k109_17, k109_18, k109_21, k109_22, k109_25, k109_28, k109_29, k109_32, k109_35, k109_36, k109_38, k109_39, k109_40, k109_41, k109_42, k109_45, k109_47, k109_50, k109_51, k109_53, k109_54, k109_57, k109_60, k109_63, k109_64, k109_66, k109_67, k109_68, k109_69, k109_72, k109_75, k109_76, mm_sI, mm_sJ, mm_sR, mm_cI, mm_cJ, mm_I, mm_J, mm_R, mm_K, mm_N, psh_s, psh_n, z_n, z_i, z_r, z_l, Nat.reduceAdd, Nat.reduceLeDiff, K2 hS, R2_0 hS, R2_1 hS, R2_2 hS, R2_6 hS, R2_8 hS, R2_11 hS, R2_12 hS, R2_13 hS, R2_15 hS, R2_16 hS, K3 hS, K11 hS, K19 hS, K27 hS, K32 hS, K37 hS, K98 hS, K99 hS, K100 hS, N37 hS, N98 hS, N99 hS, N100 hS, false_or, or_false, ne_eq, true_or, or_true, not_false_eq_true, Nat.reduceEqDiff, Nat.reduceLT, Nat.reduceLeDiff, Nat.reduceAdd, (C.fr sc).eG, Int32.le_refl, if_true]
    exact hQ h sc
  | succ k ih =>
    intro i a h hk sc hQ
    rw [k109_5]
    simp only [k109_0, k109_1, k109_2, k109_3, k109_7, k109_8, k109_11, k109_14, k109_17, k109_18, k109_21, k109_22, k109_25, k109_28, k109_29, k109_32, k109_35, k109_36, k109_38, k109_39, k109_40, k109_41, k109_42, k109_45, k109_47, k109_50, k109_51, k109_53, k109_54, k109_57, k109_60, k109_63, k109_64, k109_66, k109_67, k109_68, k109_69, k109_72, k109_75, k109_76, mm_sI, mm_sJ, mm_sR, mm_cI, mm_cJ, mm_I, mm_J, mm_R, mm_K, mm_N, psh_s, psh_n, z_n, z_i, z_r, z_l, Nat.reduceAdd, Nat.reduceLeDiff, K2 hS, R2_0 hS, R2_1 hS, R2_2 hS, R2_6 hS, R2_8 hS, R2_11 hS, R2_12 hS, R2_13 hS, R2_15 hS, R2_16 hS, K3 hS, K11 hS, K19 hS, K27 hS, K32 hS, K37 hS, K98 hS, K99 hS, K100 hS, N37 hS, N98 hS, N99 hS, N100 hS, false_or, or_false, ne_eq, true_or, or_true, not_false_eq_true, Nat.reduceEqDiff, Nat.reduceLT, Nat.reduceLeDiff, Nat.reduceAdd, (C.fr sc).eG, nLe (show G < 2 ^ 31 by omega) (show i < 2 ^ 31 by omega), show ¬ G ≤ i by omega, if_false]
    refine WP.deep (d := d + 5) ?_ (by omega)
    refine t_copy C sc ?_
    intro h1 T
    simp only [k109_0, k109_1, k109_2, k109_3, k109_7, k109_8, k109_11, k109_14, k109_17, k109_18, k109_21, k109_22, k109_25, k109_28, k109_29, k109_32, k109_35, k109_36, k109_38, k109_39, k109_40, k109_41, k109_42, k109_45, k109_47, k109_50, k109_51, k109_53, k109_54, k109_57, k109_60, k109_63, k109_64, k109_66, k109_67, k109_68, k109_69, k109_72, k109_75, k109_76, mm_sI, mm_sJ, mm_sR, mm_cI, mm_cJ, mm_I, mm_J, mm_R, mm_K, mm_N, psh_s, psh_n, z_n, z_i, z_r, z_l, Nat.reduceAdd, Nat.reduceLeDiff, K2 hS, R2_0 hS, R2_1 hS, R2_2 hS, R2_6 hS, R2_8 hS, R2_11 hS, R2_12 hS, R2_13 hS, R2_15 hS, R2_16 hS, K3 hS, K11 hS, K19 hS, K27 hS, K32 hS, K37 hS, K98 hS, K99 hS, K100 hS, N37 hS, N98 hS, N99 hS, N100 hS, R11_0 hS, R11_1 hS, R11_2 hS, R11_3 hS, R11_4 hS, R11_5 hS, R11_6 hS, K12 hS, K13 hS, K14 hS, K15 hS, K16 hS, K17 hS, K18 hS, N12 hS, N13 hS, N14 hS, N15 hS, N16 hS, N17 hS, N18 hS, false_or, or_false, ne_eq, true_or, or_true, not_false_eq_true, Nat.reduceEqDiff, Nat.reduceLT, Nat.reduceLeDiff, Nat.reduceAdd, hf', ix_n (show f < 2 ^ 31 by omega)]
    refine c_firstNotSo hs hf Cs (tt_set T (k := 4) (v := nI i) (by decide) hf (Or.inr (by rw [inb_n (by omega)]; omega))) ?_
    intro h2 s2
    rw [ftL_s] at hQ
    simp only [ng1 (show i < 2 ^ 31 by omega), if_false] at hQ
    simp only [k109_0, k109_1, k109_2, k109_3, k109_7, k109_8, k109_11, k109_14, k109_17, k109_18, k109_21, k109_22, k109_25, k109_28, k109_29, k109_32, k109_35, k109_36, k109_38, k109_39, k109_40, k109_41, k109_42, k109_45, k109_47, k109_50, k109_51, k109_53, k109_54, k109_57, k109_60, k109_63, k109_64, k109_66, k109_67, k109_68, k109_69, k109_72, k109_75, k109_76, mm_sI, mm_sJ, mm_sR, mm_cI, mm_cJ, mm_I, mm_J, mm_R, mm_K, mm_N, psh_s, psh_n, z_n, z_i, z_r, z_l, Nat.reduceAdd, Nat.reduceLeDiff, false_or, or_false, ne_eq, true_or, or_true, not_false_eq_true, Nat.reduceEqDiff, Nat.reduceLT, Nat.reduceLeDiff, Nat.reduceAdd, nS1, ng1 (show i < 2 ^ 31 by omega), if_false]
    by_cases c : bkL W V f 0 (min n 41) (up2 b 4 f (nI i)) = -2
    · simp only [c, if_true, nS1] at hQ ⊢
      exact ih (by omega) s2 hQ
    · simp only [c, if_false, nS1] at hQ ⊢
      exact ih (by omega) s2 hQ
theorem c_whose {f : Nat} (hs : s < 6) (hf : f < F) (C : CC G F l W b h r E) (Cs : ShC s hd n V h j r) (hQ : ∀ h', Scr h h' → Q (some (vi (ftL W V f (min n 41) b 4 (-1) (G + 1) 0))) (mm h' j r E)) :
    WP (d + 6) 109 0 [some (vr 2), some (vr (101 + 2 * s)), some (vi (nI f)), none, none] [] (mm h j r E) Q := by
  have hS := C.S
  have hF8 := C.F8
  have hG8 := C.G8
  have hf' : inb (nI f) 8 = True := eq_true (by rw [inb_n (by omega)]; omega)
  have p1 : (nI G ≤ -1) = False := by apply eq_false; rw [iLe, nI_toInt (by omega), im1]; omega
  simp only [k109_0, k109_1, k109_2, k109_3, k109_7, k109_8, k109_11, k109_14, k109_17, k109_18, k109_21, k109_22, k109_25, k109_28, k109_29, k109_32, k109_35, k109_36, k109_38, k109_39, k109_40, k109_41, k109_42, k109_45, k109_47, k109_50, k109_51, k109_53, k109_54, k109_57, k109_60, k109_63, k109_64, k109_66, k109_67, k109_68, k109_69, k109_72, k109_75, k109_76, mm_sI, mm_sJ, mm_sR, mm_cI, mm_cJ, mm_I, mm_J, mm_R, mm_K, mm_N, psh_s, psh_n, z_n, z_i, z_r, z_l, Nat.reduceAdd, Nat.reduceLeDiff, false_or, or_false, ne_eq, true_or, or_true, not_false_eq_true, Nat.reduceEqDiff, Nat.reduceLT, Nat.reduceLeDiff, Nat.reduceAdd]
  rw [k109_5]
  simp only [k109_0, k109_1, k109_2, k109_3, k109_7, k109_8, k109_11, k109_14, k109_17, k109_18, k109_21, k109_22, k109_25, k109_28, k109_29, k109_32, k109_35, k109_36, k109_38, k109_39, k109_40, k109_41, k109_42, k109_45, k109_47, k109_50, k109_51, k109_53, k109_54, k109_57, k109_60, k109_63, k109_64, k109_66, k109_67, k109_68, k109_69, k109_72, k109_75, k109_76, mm_sI, mm_sJ, mm_sR, mm_cI, mm_cJ, mm_I, mm_J, mm_R, mm_K, mm_N, psh_s, psh_n, z_n, z_i, z_r, z_l, Nat.reduceAdd, Nat.reduceLeDiff, K2 hS, R2_0 hS, R2_1 hS, R2_2 hS, R2_6 hS, R2_8 hS, R2_11 hS, R2_12 hS, R2_13 hS, R2_15 hS, R2_16 hS, K3 hS, K11 hS, K19 hS, K27 hS, K32 hS, K37 hS, K98 hS, K99 hS, K100 hS, N37 hS, N98 hS, N99 hS, N100 hS, false_or, or_false, ne_eq, true_or, or_true, not_false_eq_true, Nat.reduceEqDiff, Nat.reduceLT, Nat.reduceLeDiff, Nat.reduceAdd, C.eG, p1, if_false]
  refine WP.deep (d := d + 5) ?_ (by omega)
  refine t_copy C Scr.rf ?_
  intro h1 T
  simp only [k109_0, k109_1, k109_2, k109_3, k109_7, k109_8, k109_11, k109_14, k109_17, k109_18, k109_21, k109_22, k109_25, k109_28, k109_29, k109_32, k109_35, k109_36, k109_38, k109_39, k109_40, k109_41, k109_42, k109_45, k109_47, k109_50, k109_51, k109_53, k109_54, k109_57, k109_60, k109_63, k109_64, k109_66, k109_67, k109_68, k109_69, k109_72, k109_75, k109_76, mm_sI, mm_sJ, mm_sR, mm_cI, mm_cJ, mm_I, mm_J, mm_R, mm_K, mm_N, psh_s, psh_n, z_n, z_i, z_r, z_l, Nat.reduceAdd, Nat.reduceLeDiff, K2 hS, R2_0 hS, R2_1 hS, R2_2 hS, R2_6 hS, R2_8 hS, R2_11 hS, R2_12 hS, R2_13 hS, R2_15 hS, R2_16 hS, K3 hS, K11 hS, K19 hS, K27 hS, K32 hS, K37 hS, K98 hS, K99 hS, K100 hS, N37 hS, N98 hS, N99 hS, N100 hS, R11_0 hS, R11_1 hS, R11_2 hS, R11_3 hS, R11_4 hS, R11_5 hS, R11_6 hS, K12 hS, K13 hS, K14 hS, K15 hS, K16 hS, K17 hS, K18 hS, N12 hS, N13 hS, N14 hS, N15 hS, N16 hS, N17 hS, N18 hS, false_or, or_false, ne_eq, true_or, or_true, not_false_eq_true, Nat.reduceEqDiff, Nat.reduceLT, Nat.reduceLeDiff, Nat.reduceAdd, hf', ix_n (show f < 2 ^ 31 by omega)]
  refine c_firstNotSo hs hf Cs (tt_set T (k := 4) (v := -1) (by decide) hf (Or.inl rfl)) ?_
  intro h2 s2
  rw [ftL_s, if_pos rfl, show (1 : Int32) <<< ((8 : Int32) &&& 31) = 256 by decide, show (-1 : Int32) + 1 = nI 0 by decide] at hQ
  simp only [k109_0, k109_1, k109_2, k109_3, k109_7, k109_8, k109_11, k109_14, k109_17, k109_18, k109_21, k109_22, k109_25, k109_28, k109_29, k109_32, k109_35, k109_36, k109_38, k109_39, k109_40, k109_41, k109_42, k109_45, k109_47, k109_50, k109_51, k109_53, k109_54, k109_57, k109_60, k109_63, k109_64, k109_66, k109_67, k109_68, k109_69, k109_72, k109_75, k109_76, mm_sI, mm_sJ, mm_sR, mm_cI, mm_cJ, mm_I, mm_J, mm_R, mm_K, mm_N, psh_s, psh_n, z_n, z_i, z_r, z_l, Nat.reduceAdd, Nat.reduceLeDiff, false_or, or_false, ne_eq, true_or, or_true, not_false_eq_true, Nat.reduceEqDiff, Nat.reduceLT, Nat.reduceLeDiff, Nat.reduceAdd, if_true, show (-1 : Int32) + 1 = nI 0 by decide]
  by_cases c : bkL W V f 0 (min n 41) (up2 b 4 f (-1)) = -2
  · simp only [c, if_true] at hQ ⊢
    exact c_whL hs hf C Cs (by omega) s2 hQ
  · simp only [c, if_false] at hQ ⊢
    exact c_whL hs hf C Cs (by omega) s2 hQ
theorem c_fits {sh fr what : Int32} {HD : Nat → Int32} {N : Nat → Nat} {V : Nat → Nat → Int64} (C : CC G F l W b h r E) (Cs : ∀ s, s < 6 → ShC s (HD s) (N s) (V s) h j r) (hQ : ∀ h', Scr h h' → Q (some (vi (fitsA G F W b HD N V sh fr what))) (mm h' j r E)) :
    WP (d + 7) 107 0 [some (vr 2), some (vi sh), some (vi fr), some (vi what), none, none] [] (mm h j r E) Q := by
  have hS := C.S
  have h4 : b2i (0 ≤ what ∧ what ≤ 1) = b2i (inb what 2) := in_lit rfl (by decide)
  have hr := hQ h Scr.rf
  unfold fitsA at hQ hr
  simp only [k107_0, k107_1, k107_4, k107_7, k107_8, k107_11, k107_12, k107_15, k107_18, k107_19, k107_20, k107_21, k107_24, k107_27, k107_28, k107_29, k107_30, k107_33, k107_34, k107_35, k107_37, k107_39, k107_42, k107_44, k107_46, k107_49, k107_51, k107_52, k107_53, k107_56, k107_57, k107_59, k107_60, k107_63, k107_66, k107_67, k107_69, k107_70, k107_73, mm_sI, mm_sJ, mm_sR, mm_cI, mm_cJ, mm_I, mm_J, mm_R, mm_K, mm_N, psh_s, psh_n, z_n, z_i, z_r, z_l, Nat.reduceAdd, Nat.reduceLeDiff, K2 hS, R2_0 hS, R2_1 hS, R2_2 hS, R2_6 hS, R2_8 hS, R2_11 hS, R2_12 hS, R2_13 hS, R2_15 hS, R2_16 hS, K3 hS, K11 hS, K19 hS, K27 hS, K32 hS, K37 hS, K98 hS, K99 hS, K100 hS, N37 hS, N98 hS, N99 hS, N100 hS, false_or, or_false, ne_eq, true_or, or_true, not_false_eq_true, Nat.reduceEqDiff, Nat.reduceLT, Nat.reduceLeDiff, Nat.reduceAdd, s_isShelf, c_hasFrog C, s_within, h4, b2i_0]
  by_cases c1 : inb sh 6
  case neg => simp only [eq_false c1, not_false_eq_true, if_true, false_and, if_false] at hr ⊢; exact hr
  by_cases c2 : inb fr F
  case neg => simp only [eq_false c2, not_false_eq_true, if_true, false_and, and_false, if_false, eq_true c1, not_true_eq_false] at hr ⊢; exact hr
  by_cases c3 : inb what 2
  case neg => simp only [eq_false c3, not_false_eq_true, if_true, false_and, and_false, if_false, eq_true c1, eq_true c2, not_true_eq_false] at hr ⊢; exact hr
  obtain ⟨s, hs, rfl, _⟩ := inb_of c1
  obtain ⟨f, hf, rfl, hf2⟩ := inb_of c2
  have ex : ix (nI s) = s := ix_n (by omega)
  simp only [eq_true c1, eq_true c2, eq_true c3, not_true_eq_false, if_false, and_true, if_true, ex, ix_n hf2] at hQ hr
  simp only [k107_0, k107_1, k107_4, k107_7, k107_8, k107_11, k107_12, k107_15, k107_18, k107_19, k107_20, k107_21, k107_24, k107_27, k107_28, k107_29, k107_30, k107_33, k107_34, k107_35, k107_37, k107_39, k107_42, k107_44, k107_46, k107_49, k107_51, k107_52, k107_53, k107_56, k107_57, k107_59, k107_60, k107_63, k107_66, k107_67, k107_69, k107_70, k107_73, mm_sI, mm_sJ, mm_sR, mm_cI, mm_cJ, mm_I, mm_J, mm_R, mm_K, mm_N, psh_s, psh_n, z_n, z_i, z_r, z_l, Nat.reduceAdd, Nat.reduceLeDiff, K2 hS, R2_0 hS, R2_1 hS, R2_2 hS, R2_6 hS, R2_8 hS, R2_11 hS, R2_12 hS, R2_13 hS, R2_15 hS, R2_16 hS, K3 hS, K11 hS, K19 hS, K27 hS, K32 hS, K37 hS, K98 hS, K99 hS, K100 hS, N37 hS, N98 hS, N99 hS, N100 hS, false_or, or_false, ne_eq, true_or, or_true, not_false_eq_true, Nat.reduceEqDiff, Nat.reduceLT, Nat.reduceLeDiff, Nat.reduceAdd, eq_true c1, eq_true c2, eq_true c3, not_true_eq_false, if_false, if_true, ex, shR hS hs, s_bookRefusal hS hs (Cs s hs)]
  by_cases h1 : HD s = -1
  · simp only [h1, if_true] at hr
    simp only [h1, if_true, show ¬ ((-11 : Int32) = 0) by decide, if_false]; exact hr
  · by_cases h0 : HD s = 0
    · simp only [h0, if_true, show ¬ ((0 : Int32) = -1) by decide, if_false] at hQ ⊢
      by_cases c : what = 0
      · simp only [c, if_true] at hQ ⊢
        simp only [k108_0, k108_1, k108_2, k108_3, k108_7, k108_9, k108_12, k108_13, k108_16, k108_17, k108_20, k108_23, k108_24, k108_27, k108_30, k108_31, k108_33, k108_34, k108_35, k108_36, k108_37, k108_40, k108_42, k108_45, k108_46, k108_47, k108_49, k108_50, k108_51, k108_52, k108_55, k108_58, k108_59, mm_sI, mm_sJ, mm_sR, mm_cI, mm_cJ, mm_I, mm_J, mm_R, mm_K, mm_N, psh_s, psh_n, z_n, z_i, z_r, z_l, Nat.reduceAdd, Nat.reduceLeDiff, false_or, or_false, ne_eq, true_or, or_true, not_false_eq_true, Nat.reduceEqDiff, Nat.reduceLT, Nat.reduceLeDiff, Nat.reduceAdd]
        refine c_ktL hs hf C (Cs s hs) (i := 0) (k := 10) (by omega) Scr.rf ?_
        intro h' s'
        simp only [k107_0, k107_1, k107_4, k107_7, k107_8, k107_11, k107_12, k107_15, k107_18, k107_19, k107_20, k107_21, k107_24, k107_27, k107_28, k107_29, k107_30, k107_33, k107_34, k107_35, k107_37, k107_39, k107_42, k107_44, k107_46, k107_49, k107_51, k107_52, k107_53, k107_56, k107_57, k107_59, k107_60, k107_63, k107_66, k107_67, k107_69, k107_70, k107_73, mm_sI, mm_sJ, mm_sR, mm_cI, mm_cJ, mm_I, mm_J, mm_R, mm_K, mm_N, psh_s, psh_n, z_n, z_i, z_r, z_l, Nat.reduceAdd, Nat.reduceLeDiff, false_or, or_false, ne_eq, true_or, or_true, not_false_eq_true, Nat.reduceEqDiff, Nat.reduceLT, Nat.reduceLeDiff, Nat.reduceAdd]
        exact hQ h' s'
      · simp only [c, if_false] at hQ ⊢
        refine c_whose hs hf C (Cs s hs) ?_
        intro h' s'
        simp only [k107_0, k107_1, k107_4, k107_7, k107_8, k107_11, k107_12, k107_15, k107_18, k107_19, k107_20, k107_21, k107_24, k107_27, k107_28, k107_29, k107_30, k107_33, k107_34, k107_35, k107_37, k107_39, k107_42, k107_44, k107_46, k107_49, k107_51, k107_52, k107_53, k107_56, k107_57, k107_59, k107_60, k107_63, k107_66, k107_67, k107_69, k107_70, k107_73, mm_sI, mm_sJ, mm_sR, mm_cI, mm_cJ, mm_I, mm_J, mm_R, mm_K, mm_N, psh_s, psh_n, z_n, z_i, z_r, z_l, Nat.reduceAdd, Nat.reduceLeDiff, false_or, or_false, ne_eq, true_or, or_true, not_false_eq_true, Nat.reduceEqDiff, Nat.reduceLT, Nat.reduceLeDiff, Nat.reduceAdd]
        exact hQ h' s'
    · simp only [h1, h0, if_false] at hr
      simp only [h1, h0, if_false, show ¬ ((-12 : Int32) = 0) by decide]; exact hr
theorem a8m {w : Nat} : (8 : Int32) * nI w = nI (8 * w) := by
  show nI 8 * nI w = _
  rw [nI, nI, nI, ← Int32.ofNat_mul]
theorem m_becomes {w f : Nat} {v : Int32} (hS : Sh r E) (hw : w < 6) (hf : f < 8) : WP d 159 0 [some (vr 113), some (vi (nI f)), some (vi (nI w)), some (vi v)] [] (mm h j r E) Q = Q none (mm (up2 h 114 (8 * w + f) v) j r E) := by
  have p1 : ((6 : Int32) ≤ nI w) = False := by rw [← nn6, nLe (by decide) (by omega)]; apply eq_false; omega
  have ea : nI (8 * w) + nI f = nI (8 * w + f) := nI_add _ _
  have hb : inb (nI (8 * w + f)) 48 = True := eq_true (by rw [inb_n (by omega)]; omega)
  simp only [k159_0, k159_1, k159_3, k159_6, k159_7, k159_10, k159_12, k159_13, k159_14, k159_15, k159_16, k159_17, k159_18, k159_21, k159_22, k159_25, k159_26, k159_28, k159_29, k159_30, k159_31, mm_sI, mm_sJ, mm_sR, mm_cI, mm_cJ, mm_I, mm_J, mm_R, mm_K, mm_N, psh_s, psh_n, z_n, z_i, z_r, z_l, Nat.reduceAdd, Nat.reduceLeDiff, K113 hS, R113_2 hS, R113_3 hS, R113_5 hS, R113_8 hS, R113_9 hS, R113_10 hS, R113_11 hS, R113_16 hS, R113_17 hS, R113_18 hS, R113_19 hS, R113_20 hS, R113_21 hS, R113_22 hS, R113_26 hS, R113_27 hS, R113_30 hS, R113_32 hS, R113_34 hS, R113_35 hS, R113_36 hS, R113_37 hS, R113_40 hS, R113_41 hS, R113_42 hS, R113_43 hS, R113_44 hS, R113_45 hS, R113_47 hS, K114 hS, K115 hS, K116 hS, K117 hS, K118 hS, K119 hS, K120 hS, K121 hS, K122 hS, K123 hS, K124 hS, K125 hS, K126 hS, K127 hS, K128 hS, K129 hS, K130 hS, K131 hS, K132 hS, K133 hS, K134 hS, K135 hS, K136 hS, K137 hS, K138 hS, K139 hS, K140 hS, K141 hS, K142 hS, N114 hS, N115 hS, N116 hS, N117 hS, N118 hS, N119 hS, N120 hS, N121 hS, N122 hS, N123 hS, N124 hS, N125 hS, N126 hS, N127 hS, N128 hS, N129 hS, N130 hS, N131 hS, N132 hS, N133 hS, N134 hS, N135 hS, N136 hS, N137 hS, N138 hS, N139 hS, N140 hS, N141 hS, N142 hS, false_or, or_false, ne_eq, true_or, or_true, not_false_eq_true, Nat.reduceEqDiff, Nat.reduceLT, Nat.reduceLeDiff, Nat.reduceAdd, p1, if_false, a8m, ea, hb, ix_n (show 8 * w + f < 2 ^ 31 by omega)]
theorem m_get {w f : Nat} (hS : Sh r E) (hw : w < 6) (hf : f < 8) : WP d 158 0 [some (vr 113), some (vi (nI f)), some (vi (nI w))] [] (mm h j r E) Q = Q (some (vi (h 114 (8 * w + f)))) (mm h j r E) := by
  have p1 : ((6 : Int32) ≤ nI w) = False := by rw [← nn6, nLe (by decide) (by omega)]; apply eq_false; omega
  have ea : nI (8 * w) + nI f = nI (8 * w + f) := nI_add _ _
  have hb : inb (nI (8 * w + f)) 48 = True := eq_true (by rw [inb_n (by omega)]; omega)
  simp only [k158_0, k158_1, k158_3, k158_6, k158_7, k158_10, k158_12, k158_13, k158_14, k158_15, k158_16, k158_17, k158_20, k158_21, k158_24, k158_25, k158_27, k158_28, k158_29, mm_sI, mm_sJ, mm_sR, mm_cI, mm_cJ, mm_I, mm_J, mm_R, mm_K, mm_N, psh_s, psh_n, z_n, z_i, z_r, z_l, Nat.reduceAdd, Nat.reduceLeDiff, K113 hS, R113_2 hS, R113_3 hS, R113_5 hS, R113_8 hS, R113_9 hS, R113_10 hS, R113_11 hS, R113_16 hS, R113_17 hS, R113_18 hS, R113_19 hS, R113_20 hS, R113_21 hS, R113_22 hS, R113_26 hS, R113_27 hS, R113_30 hS, R113_32 hS, R113_34 hS, R113_35 hS, R113_36 hS, R113_37 hS, R113_40 hS, R113_41 hS, R113_42 hS, R113_43 hS, R113_44 hS, R113_45 hS, R113_47 hS, K114 hS, K115 hS, K116 hS, K117 hS, K118 hS, K119 hS, K120 hS, K121 hS, K122 hS, K123 hS, K124 hS, K125 hS, K126 hS, K127 hS, K128 hS, K129 hS, K130 hS, K131 hS, K132 hS, K133 hS, K134 hS, K135 hS, K136 hS, K137 hS, K138 hS, K139 hS, K140 hS, K141 hS, K142 hS, N114 hS, N115 hS, N116 hS, N117 hS, N118 hS, N119 hS, N120 hS, N121 hS, N122 hS, N123 hS, N124 hS, N125 hS, N126 hS, N127 hS, N128 hS, N129 hS, N130 hS, N131 hS, N132 hS, N133 hS, N134 hS, N135 hS, N136 hS, N137 hS, N138 hS, N139 hS, N140 hS, N141 hS, N142 hS, false_or, or_false, ne_eq, true_or, or_true, not_false_eq_true, Nat.reduceEqDiff, Nat.reduceLT, Nat.reduceLeDiff, Nat.reduceAdd, p1, if_false, a8m, ea, hb, ix_n (show 8 * w + f < 2 ^ 31 by omega)]
/-- one number is set, then worked with; set again -/
theorem Scr.st {i : Nat} {v w : Int32} (s : Scr (up2 h 114 i v) h1) : Scr (up2 h 114 i w) (up2 h1 114 i w) := by
  refine ⟨?_, ?_, ?_⟩
  · intro a ha
    have := s.1 a ha
    by_cases a4 : a = 114
    · subst a4
      funext x
      by_cases e : x = i
      · subst e; rw [up2_s, up2_s]
      · rw [up2_i e, up2_i e, this, up2_i e]
    · rw [up2_a a4, up2_a a4, this, up2_a a4]
  · intro x hx
    have := s.2.1 x hx
    rw [up2_a (by decide), up2_a (by decide)] at this
    rw [up2_a (by decide), up2_a (by decide), up2_a (by decide), up2_a (by decide)]; exact this
  · intro x p q t
    have := s.2.2 x p q t
    rw [up2_a (by decide)] at this
    rw [up2_a (by decide), up2_a (by decide)]; exact this
theorem m_ftL {f w : Nat} {what had : Int32} (hs : s < 6) (hf : f < F) (hw : w = 3 ∨ w = 4) (what0 : what = if w = 3 then 0 else 1) (hhad : had = h0 114 (8 * w + f)) (D : DD G F W b h0 r E) (hV : ∀ i, i < 60 → -128 ≤ (V i).toInt ∧ (V i).toInt ≤ 127) (Cs : ShM s hd n V h0 j) (hn : n ≤ 60) {e4 : Option PV} :
    ∀ {k i : Nat} {a x : Int32} {h : Hp}, i + k = (if w = 3 then 10 else G) → Scr (up2 h0 114 (8 * w + f) x) h → (∀ h', Scr h0 h' → Q (some (vi (ftL W V f (min n 41) b w (nI i) k a))) (mm h' j r E)) →
    WP (d + 9) 214 69 [some (vr 113), some (vi (nI s)), some (vi (nI f)), some (vi what), e4, some (vi (nI w)), some (vi had), some (vi a), some (vi (nI i))] [] (mm h j r E) Q := by
  have hS := D.S
  have hF8 := D.F8
  have hG8 := D.G8
  have hw6 : w < 6 := by omega
  have fin : ∀ {a x : Int32} {h : Hp} {e : Option PV}, Scr (up2 h0 114 (8 * w + f) x) h → (∀ h', Scr h0 h' → Q (some (vi a)) (mm h' j r E)) → WP (d + 9) 214 133 [some (vr 113), some (vi (nI s)), some (vi (nI f)), some (vi what), e4, some (vi (nI w)), some (vi had), some (vi a), e] [] (mm h j r E) Q := by
    intro a x h e sc hQ
    simp only [k214_0, k214_1, k214_4, k214_7, k214_8, k214_9, k214_12, k214_15, k214_16, k214_17, k214_18, k214_21, k214_24, k214_25, k214_26, k214_27, k214_28, k214_31, k214_33, k214_35, k214_38, k214_40, k214_41, k214_42, k214_43, k214_44, k214_46, k214_47, k214_48, k214_50, k214_53, k214_55, k214_56, k214_58, k214_59, k214_62, k214_63, k214_66, k214_67, k214_71, k214_72, k214_75, k214_77, k214_80, k214_81, k214_84, k214_87, k214_88, k214_89, k214_91, k214_93, k214_96, k214_97, k214_98, k214_99, k214_102, k214_104, k214_107, k214_109, k214_110, k214_112, k214_113, k214_116, k214_118, k214_121, k214_123, k214_124, k214_125, k214_127, k214_130, k214_133, k214_134, k214_135, k214_137, k214_139, k214_142, k214_144, mm_sI, mm_sJ, mm_sR, mm_cI, mm_cJ, mm_I, mm_J, mm_R, mm_K, mm_N, psh_s, psh_n, z_n, z_i, z_r, z_l, Nat.reduceAdd, Nat.reduceLeDiff, K113 hS, R113_2 hS, R113_3 hS, R113_5 hS, R113_8 hS, R113_9 hS, R113_10 hS, R113_11 hS, R113_16 hS, R113_17 hS, R113_18 hS, R113_19 hS, R113_20 hS, R113_21 hS, R113_22 hS, R113_26 hS, R113_27 hS, R113_30 hS, R113_32 hS, R113_34 hS, R113_35 hS, R113_36 hS, R113_37 hS, R113_40 hS, R113_41 hS, R113_42 hS, R113_43 hS, R113_44 hS, R113_45 hS, R113_47 hS, K114 hS, K115 hS, K116 hS, K117 hS, K118 hS, K119 hS, K120 hS, K121 hS, K122 hS, K123 hS, K124 hS, K125 hS, K126 hS, K127 hS, K128 hS, K129 hS, K130 hS, K131 hS, K132 hS, K133 hS, K134 hS, K135 hS, K136 hS, K137 hS, K138 hS, K139 hS, K140 hS, K141 hS, K142 hS, N114 hS, N115 hS, N116 hS, N117 hS, N118 hS, N119 hS, N120 hS, N121 hS, N122 hS, N123 hS, N124 hS, N125 hS, N126 hS, N127 hS, N128 hS, N129 hS, N130 hS, N131 hS, N132 hS, N133 hS, N134 hS, N135 hS, N136 hS, N137 hS, N138 hS, N139 hS, N140 hS, N141 hS, N142 hS, false_or, or_false, ne_eq, true_or, or_true, not_false_eq_true, Nat.reduceEqDiff, Nat.reduceLT, Nat.reduceLeDiff, Nat.reduceAdd, m_becomes hS hw6 (show f < 8 by omega)]
    refine hQ _ ?_
    have := sc.st (w := had)
    rw [hhad, up2_id] at this
    rw [hhad]; exact this
  have e113 : ∀ {x : Int32} {h : Hp}, Scr (up2 h0 114 (8 * w + f) x) h → h 113 0 = nI G := by
    intro x h sc
    rw [sc.2.2 0 (by decide) (by decide) (by decide), up2_a (by decide)]; exact D.eG
  intro k
  induction k with
  | zero =>
    intro i a x h hk sc hQ
    rw [k214_69]
    rcases hw with rfl | rfl
    · rw [if_pos rfl] at what0 hk
      have : i = 10 := by omega
      subst this
      simp only [k214_0, k214_1, k214_4, k214_7, k214_8, k214_9, k214_12, k214_15, k214_16, k214_17, k214_18, k214_21, k214_24, k214_25, k214_26, k214_27, k214_28, k214_31, k214_33, k214_35, k214_38, k214_40, k214_41, k214_42, k214_43, k214_44, k214_46, k214_47, k214_48, k214_50, k214_53, k214_55, k214_56, k214_58, k214_59, k214_62, k214_63, k214_66, k214_67, k214_71, k214_72, k214_75, k214_77, k214_80, k214_81, k214_84, k214_87, k214_88, k214_89, k214_91, k214_93, k214_96, k214_97, k214_98, k214_99, k214_102, k214_104, k214_107, k214_109, k214_110, k214_112, k214_113, k214_116, k214_118, k214_121, k214_123, k214_124, k214_125, k214_127, k214_130, k214_134, k214_135, k214_137, k214_139, k214_142, k214_144, mm_sI, mm_sJ, mm_sR, mm_cI, mm_cJ, mm_I, mm_J, mm_R, mm_K, mm_N, psh_s, psh_n, z_n, z_i, z_r, z_l, Nat.reduceAdd, Nat.reduceLeDiff, K113 hS, R113_2 hS, R113_3 hS, R113_5 hS, R113_8 hS, R113_9 hS, R113_10 hS, R113_11 hS, R113_16 hS, R113_17 hS, R113_18 hS, R113_19 hS, R113_20 hS, R113_21 hS, R113_22 hS, R113_26 hS, R113_27 hS, R113_30 hS, R113_32 hS, R113_34 hS, R113_35 hS, R113_36 hS, R113_37 hS, R113_40 hS, R113_41 hS, R113_42 hS, R113_43 hS, R113_44 hS, R113_45 hS, R113_47 hS, K114 hS, K115 hS, K116 hS, K117 hS, K118 hS, K119 hS, K120 hS, K121 hS, K122 hS, K123 hS, K124 hS, K125 hS, K126 hS, K127 hS, K128 hS, K129 hS, K130 hS, K131 hS, K132 hS, K133 hS, K134 hS, K135 hS, K136 hS, K137 hS, K138 hS, K139 hS, K140 hS, K141 hS, K142 hS, N114 hS, N115 hS, N116 hS, N117 hS, N118 hS, N119 hS, N120 hS, N121 hS, N122 hS, N123 hS, N124 hS, N125 hS, N126 hS, N127 hS, N128 hS, N129 hS, N130 hS, N131 hS, N132 hS, N133 hS, N134 hS, N135 hS, N136 hS, N137 hS, N138 hS, N139 hS, N140 hS, N141 hS, N142 hS, false_or, or_false, ne_eq, true_or, or_true, not_false_eq_true, Nat.reduceEqDiff, Nat.reduceLT, Nat.reduceLeDiff, Nat.reduceAdd, what0, if_true, nn10, Int32.le_refl]
      simp only [what0, nn10] at fin
      exact fin sc hQ
    · rw [if_neg (by decide)] at what0 hk
      have : i = G := by omega
      subst this
      simp only [k214_0, k214_1, k214_4, k214_7, k214_8, k214_9, k214_12, k214_15, k214_16, k214_17, k214_18, k214_21, k214_24, k214_25, k214_26, k214_27, k214_28, k214_31, k214_33, k214_35, k214_38, k214_40, k214_41, k214_42, k214_43, k214_44, k214_46, k214_47, k214_48, k214_50, k214_53, k214_55, k214_56, k214_58, k214_59, k214_62, k214_63, k214_66, k214_67, k214_71, k214_72, k214_75, k214_77, k214_80, k214_81, k214_84, k214_87, k214_88, k214_89, k214_91, k214_93, k214_96, k214_97, k214_98, k214_99, k214_102, k214_104, k214_107, k214_109, k214_110, k214_112, k214_113, k214_116, k214_118, k214_121, k214_123, k214_124, k214_125, k214_127, k214_130, k214_134, k214_135, k214_137, k214_139, k214_142, k214_144, mm_sI, mm_sJ, mm_sR, mm_cI, mm_cJ, mm_I, mm_J, mm_R, mm_K, mm_N, psh_s, psh_n, z_n, z_i, z_r, z_l, Nat.reduceAdd, Nat.reduceLeDiff, K113 hS, R113_2 hS, R113_3 hS, R113_5 hS, R113_8 hS, R113_9 hS, R113_10 hS, R113_11 hS, R113_16 hS, R113_17 hS, R113_18 hS, R113_19 hS, R113_20 hS, R113_21 hS, R113_22 hS, R113_26 hS, R113_27 hS, R113_30 hS, R113_32 hS, R113_34 hS, R113_35 hS, R113_36 hS, R113_37 hS, R113_40 hS, R113_41 hS, R113_42 hS, R113_43 hS, R113_44 hS, R113_45 hS, R113_47 hS, K114 hS, K115 hS, K116 hS, K117 hS, K118 hS, K119 hS, K120 hS, K121 hS, K122 hS, K123 hS, K124 hS, K125 hS, K126 hS, K127 hS, K128 hS, K129 hS, K130 hS, K131 hS, K132 hS, K133 hS, K134 hS, K135 hS, K136 hS, K137 hS, K138 hS, K139 hS, K140 hS, K141 hS, K142 hS, N114 hS, N115 hS, N116 hS, N117 hS, N118 hS, N119 hS, N120 hS, N121 hS, N122 hS, N123 hS, N124 hS, N125 hS, N126 hS, N127 hS, N128 hS, N129 hS, N130 hS, N131 hS, N132 hS, N133 hS, N134 hS, N135 hS, N136 hS, N137 hS, N138 hS, N139 hS, N140 hS, N141 hS, N142 hS, false_or, or_false, ne_eq, true_or, or_true, not_false_eq_true, Nat.reduceEqDiff, Nat.reduceLT, Nat.reduceLeDiff, Nat.reduceAdd, what0, e10, if_false, if_true, e113 sc, Int32.le_refl]
      simp only [what0] at fin
      exact fin sc hQ
  | succ k ih =>
    intro i a x h hk sc hQ
    have hi : i < 2 ^ 31 := by split at hk <;> omega
    have step : WP (d + 9) 214 87 [some (vr 113), some (vi (nI s)), some (vi (nI f)), some (vi what), e4, some (vi (nI w)), some (vi had), some (vi a), some (vi (nI i))] [] (mm h j r E) Q := by
      simp only [k214_0, k214_1, k214_4, k214_7, k214_8, k214_9, k214_12, k214_15, k214_16, k214_17, k214_18, k214_21, k214_24, k214_25, k214_26, k214_27, k214_28, k214_31, k214_33, k214_35, k214_38, k214_40, k214_41, k214_42, k214_43, k214_44, k214_46, k214_47, k214_48, k214_50, k214_53, k214_55, k214_56, k214_58, k214_59, k214_62, k214_63, k214_66, k214_67, k214_71, k214_72, k214_75, k214_77, k214_80, k214_81, k214_84, k214_87, k214_88, k214_89, k214_91, k214_93, k214_96, k214_97, k214_98, k214_99, k214_102, k214_104, k214_107, k214_109, k214_110, k214_112, k214_113, k214_116, k214_118, k214_121, k214_123, k214_124, k214_125, k214_127, k214_130, k214_133, k214_134, k214_135, k214_137, k214_139, k214_142, k214_144, mm_sI, mm_sJ, mm_sR, mm_cI, mm_cJ, mm_I, mm_J, mm_R, mm_K, mm_N, psh_s, psh_n, z_n, z_i, z_r, z_l, Nat.reduceAdd, Nat.reduceLeDiff, K113 hS, R113_2 hS, R113_3 hS, R113_5 hS, R113_8 hS, R113_9 hS, R113_10 hS, R113_11 hS, R113_16 hS, R113_17 hS, R113_18 hS, R113_19 hS, R113_20 hS, R113_21 hS, R113_22 hS, R113_26 hS, R113_27 hS, R113_30 hS, R113_32 hS, R113_34 hS, R113_35 hS, R113_36 hS, R113_37 hS, R113_40 hS, R113_41 hS, R113_42 hS, R113_43 hS, R113_44 hS, R113_45 hS, R113_47 hS, K114 hS, K115 hS, K116 hS, K117 hS, K118 hS, K119 hS, K120 hS, K121 hS, K122 hS, K123 hS, K124 hS, K125 hS, K126 hS, K127 hS, K128 hS, K129 hS, K130 hS, K131 hS, K132 hS, K133 hS, K134 hS, K135 hS, K136 hS, K137 hS, K138 hS, K139 hS, K140 hS, K141 hS, K142 hS, N114 hS, N115 hS, N116 hS, N117 hS, N118 hS, N119 hS, N120 hS, N121 hS, N122 hS, N123 hS, N124 hS, N125 hS, N126 hS, N127 hS, N128 hS, N129 hS, N130 hS, N131 hS, N132 hS, N133 hS, N134 hS, N135 hS, N136 hS, N137 hS, N138 hS, N139 hS, N140 hS, N141 hS, N142 hS, false_or, or_false, ne_eq, true_or, or_true, not_false_eq_true, Nat.reduceEqDiff, Nat.reduceLT, Nat.reduceLeDiff, Nat.reduceAdd, m_becomes hS hw6 (show f < 8 by omega)]
      have s1 : Scr (up2 h0 114 (8 * w + f) (nI i)) (up2 h 114 (8 * w + f) (nI i)) := sc.st
      have hcut : f < cut G F w := by rcases hw with rfl | rfl <;> exact hf
      have hok : okc G w (nI i) := by
        rcases hw with rfl | rfl
        · show inb (nI i) 10; rw [inb_n hi]; rw [if_pos rfl] at hk; omega
        · refine Or.inr ?_; rw [inb_n hi]; rw [if_neg (by decide)] at hk; omega
      have D1 : DD G F W (up2 b w f (nI i)) (up2 h0 114 (8 * w + f) (nI i)) r E := D.ex (fun a p q => up2_a p) (by rw [bMw hG8 hF8 hw6 hcut, D.eb]) (D.w.up hok)
      have D2 := D1.sc s1
      have Cm : ShM s hd n V (up2 h 114 (8 * w + f) (nI i)) j := by
        refine ShM.fr ?_ s1
        unfold ShM at Cs ⊢; rw [up2_a (by decide), up2_a (by decide)]; exact Cs
      refine m_unlike hs hf hV Cm hn D2 ?_
      intro h2 s2
      rw [ftL_s] at hQ
      simp only [ng1 hi, if_false] at hQ
      simp only [k214_0, k214_1, k214_4, k214_7, k214_8, k214_9, k214_12, k214_15, k214_16, k214_17, k214_18, k214_21, k214_24, k214_25, k214_26, k214_27, k214_28, k214_31, k214_33, k214_35, k214_38, k214_40, k214_41, k214_42, k214_43, k214_44, k214_46, k214_47, k214_48, k214_50, k214_53, k214_55, k214_56, k214_58, k214_59, k214_62, k214_63, k214_66, k214_67, k214_71, k214_72, k214_75, k214_77, k214_80, k214_81, k214_84, k214_87, k214_88, k214_89, k214_91, k214_93, k214_96, k214_97, k214_98, k214_99, k214_102, k214_104, k214_107, k214_109, k214_110, k214_112, k214_113, k214_116, k214_118, k214_121, k214_123, k214_124, k214_125, k214_127, k214_130, k214_133, k214_134, k214_135, k214_137, k214_139, k214_142, k214_144, mm_sI, mm_sJ, mm_sR, mm_cI, mm_cJ, mm_I, mm_J, mm_R, mm_K, mm_N, psh_s, psh_n, z_n, z_i, z_r, z_l, Nat.reduceAdd, Nat.reduceLeDiff, K113 hS, R113_2 hS, R113_3 hS, R113_5 hS, R113_8 hS, R113_9 hS, R113_10 hS, R113_11 hS, R113_16 hS, R113_17 hS, R113_18 hS, R113_19 hS, R113_20 hS, R113_21 hS, R113_22 hS, R113_26 hS, R113_27 hS, R113_30 hS, R113_32 hS, R113_34 hS, R113_35 hS, R113_36 hS, R113_37 hS, R113_40 hS, R113_41 hS, R113_42 hS, R113_43 hS, R113_44 hS, R113_45 hS, R113_47 hS, K114 hS, K115 hS, K116 hS, K117 hS, K118 hS, K119 hS, K120 hS, K121 hS, K122 hS, K123 hS, K124 hS, K125 hS, K126 hS, K127 hS, K128 hS, K129 hS, K130 hS, K131 hS, K132 hS, K133 hS, K134 hS, K135 hS, K136 hS, K137 hS, K138 hS, K139 hS, K140 hS, K141 hS, K142 hS, N114 hS, N115 hS, N116 hS, N117 hS, N118 hS, N119 hS, N120 hS, N121 hS, N122 hS, N123 hS, N124 hS, N125 hS, N126 hS, N127 hS, N128 hS, N129 hS, N130 hS, N131 hS, N132 hS, N133 hS, N134 hS, N135 hS, N136 hS, N137 hS, N138 hS, N139 hS, N140 hS, N141 hS, N142 hS, false_or, or_false, ne_eq, true_or, or_true, not_false_eq_true, Nat.reduceEqDiff, Nat.reduceLT, Nat.reduceLeDiff, Nat.reduceAdd, ng1 hi, if_false, nS1]
      by_cases c : bkL W V f 0 (min n 41) (up2 b w f (nI i)) = -2
      · simp only [c, if_true, nS1] at hQ ⊢
        exact ih (by omega) (s1.tr s2) hQ
      · simp only [c, if_false, nS1] at hQ ⊢
        exact ih (by omega) (s1.tr s2) hQ
    rw [k214_69]
    rcases hw with rfl | rfl
    · rw [if_pos rfl] at what0 hk
      have p1 : ((10 : Int32) ≤ nI i) = False := by rw [← nn10, nLe (by decide) hi]; apply eq_false; omega
      simp only [k214_0, k214_1, k214_4, k214_7, k214_8, k214_9, k214_12, k214_15, k214_16, k214_17, k214_18, k214_21, k214_24, k214_25, k214_26, k214_27, k214_28, k214_31, k214_33, k214_35, k214_38, k214_40, k214_41, k214_42, k214_43, k214_44, k214_46, k214_47, k214_48, k214_50, k214_53, k214_55, k214_56, k214_58, k214_59, k214_62, k214_63, k214_66, k214_67, k214_71, k214_72, k214_75, k214_77, k214_80, k214_81, k214_84, k214_88, k214_89, k214_91, k214_93, k214_96, k214_97, k214_98, k214_99, k214_102, k214_104, k214_107, k214_109, k214_110, k214_112, k214_113, k214_116, k214_118, k214_121, k214_123, k214_124, k214_125, k214_127, k214_130, k214_133, k214_134, k214_135, k214_137, k214_139, k214_142, k214_144, mm_sI, mm_sJ, mm_sR, mm_cI, mm_cJ, mm_I, mm_J, mm_R, mm_K, mm_N, psh_s, psh_n, z_n, z_i, z_r, z_l, Nat.reduceAdd, Nat.reduceLeDiff, K113 hS, R113_2 hS, R113_3 hS, R113_5 hS, R113_8 hS, R113_9 hS, R113_10 hS, R113_11 hS, R113_16 hS, R113_17 hS, R113_18 hS, R113_19 hS, R113_20 hS, R113_21 hS, R113_22 hS, R113_26 hS, R113_27 hS, R113_30 hS, R113_32 hS, R113_34 hS, R113_35 hS, R113_36 hS, R113_37 hS, R113_40 hS, R113_41 hS, R113_42 hS, R113_43 hS, R113_44 hS, R113_45 hS, R113_47 hS, K114 hS, K115 hS, K116 hS, K117 hS, K118 hS, K119 hS, K120 hS, K121 hS, K122 hS, K123 hS, K124 hS, K125 hS, K126 hS, K127 hS, K128 hS, K129 hS, K130 hS, K131 hS, K132 hS, K133 hS, K134 hS, K135 hS, K136 hS, K137 hS, K138 hS, K139 hS, K140 hS, K141 hS, K142 hS, N114 hS, N115 hS, N116 hS, N117 hS, N118 hS, N119 hS, N120 hS, N121 hS, N122 hS, N123 hS, N124 hS, N125 hS, N126 hS, N127 hS, N128 hS, N129 hS, N130 hS, N131 hS, N132 hS, N133 hS, N134 hS, N135 hS, N136 hS, N137 hS, N138 hS, N139 hS, N140 hS, N141 hS, N142 hS, false_or, or_false, ne_eq, true_or, or_true, not_false_eq_true, Nat.reduceEqDiff, Nat.reduceLT, Nat.reduceLeDiff, Nat.reduceAdd, what0, if_true, p1, if_false]
      simp only [what0] at step
      exact step
    · rw [if_neg (by decide)] at what0 hk
      have p1 : (nI G ≤ nI i) = False := by rw [nLe (by omega) hi]; apply eq_false; omega
      simp only [k214_0, k214_1, k214_4, k214_7, k214_8, k214_9, k214_12, k214_15, k214_16, k214_17, k214_18, k214_21, k214_24, k214_25, k214_26, k214_27, k214_28, k214_31, k214_33, k214_35, k214_38, k214_40, k214_41, k214_42, k214_43, k214_44, k214_46, k214_47, k214_48, k214_50, k214_53, k214_55, k214_56, k214_58, k214_59, k214_62, k214_63, k214_66, k214_67, k214_71, k214_72, k214_75, k214_77, k214_80, k214_81, k214_84, k214_88, k214_89, k214_91, k214_93, k214_96, k214_97, k214_98, k214_99, k214_102, k214_104, k214_107, k214_109, k214_110, k214_112, k214_113, k214_116, k214_118, k214_121, k214_123, k214_124, k214_125, k214_127, k214_130, k214_133, k214_134, k214_135, k214_137, k214_139, k214_142, k214_144, mm_sI, mm_sJ, mm_sR, mm_cI, mm_cJ, mm_I, mm_J, mm_R, mm_K, mm_N, psh_s, psh_n, z_n, z_i, z_r, z_l, Nat.reduceAdd, Nat.reduceLeDiff, K113 hS, R113_2 hS, R113_3 hS, R113_5 hS, R113_8 hS, R113_9 hS, R113_10 hS, R113_11 hS, R113_16 hS, R113_17 hS, R113_18 hS, R113_19 hS, R113_20 hS, R113_21 hS, R113_22 hS, R113_26 hS, R113_27 hS, R113_30 hS, R113_32 hS, R113_34 hS, R113_35 hS, R113_36 hS, R113_37 hS, R113_40 hS, R113_41 hS, R113_42 hS, R113_43 hS, R113_44 hS, R113_45 hS, R113_47 hS, K114 hS, K115 hS, K116 hS, K117 hS, K118 hS, K119 hS, K120 hS, K121 hS, K122 hS, K123 hS, K124 hS, K125 hS, K126 hS, K127 hS, K128 hS, K129 hS, K130 hS, K131 hS, K132 hS, K133 hS, K134 hS, K135 hS, K136 hS, K137 hS, K138 hS, K139 hS, K140 hS, K141 hS, K142 hS, N114 hS, N115 hS, N116 hS, N117 hS, N118 hS, N119 hS, N120 hS, N121 hS, N122 hS, N123 hS, N124 hS, N125 hS, N126 hS, N127 hS, N128 hS, N129 hS, N130 hS, N131 hS, N132 hS, N133 hS, N134 hS, N135 hS, N136 hS, N137 hS, N138 hS, N139 hS, N140 hS, N141 hS, N142 hS, false_or, or_false, ne_eq, true_or, or_true, not_false_eq_true, Nat.reduceEqDiff, Nat.reduceLT, Nat.reduceLeDiff, Nat.reduceAdd, what0, e10, if_false, e113 sc, p1]
      simp only [what0] at step
      exact step
theorem m_fits {sh fr what : Int32} {HD : Nat → Int32} {N : Nat → Nat} {V : Nat → Nat → Int64} (D : DD G F W b h r E) (Cc : ∀ s, s < 6 → ShC s (HD s) (N s) (V s) h j r) (Cs : ∀ s, s < 6 → ShM s (HD s) (N s) (V s) h j) (hQ : ∀ h', Scr h h' → Q (some (vi (fitsA G F W b HD N V sh fr what))) (mm h' j r E)) :
    WP (d + 9) 214 0 [some (vr 113), some (vi sh), some (vi fr), some (vi what), none, none, none, none, none] [] (mm h j r E) Q := by
  have hS := D.S
  have hF8 := D.F8
  have hG8 := D.G8
  have h4 : b2i (0 ≤ what ∧ what ≤ 1) = b2i (inb what 2) := in_lit rfl (by decide)
  have hr := hQ h Scr.rf
  unfold fitsA at hQ hr
  simp only [k214_0, k214_1, k214_4, k214_7, k214_8, k214_9, k214_12, k214_15, k214_16, k214_17, k214_18, k214_21, k214_24, k214_25, k214_26, k214_27, k214_28, k214_31, k214_33, k214_35, k214_38, k214_40, k214_41, k214_42, k214_43, k214_44, k214_46, k214_47, k214_48, k214_50, k214_53, k214_55, k214_56, k214_58, k214_59, k214_62, k214_63, k214_66, k214_67, k214_71, k214_72, k214_75, k214_77, k214_80, k214_81, k214_84, k214_87, k214_88, k214_89, k214_91, k214_93, k214_96, k214_97, k214_98, k214_99, k214_102, k214_104, k214_107, k214_109, k214_110, k214_112, k214_113, k214_116, k214_118, k214_121, k214_123, k214_124, k214_125, k214_127, k214_130, k214_133, k214_134, k214_135, k214_137, k214_139, k214_142, k214_144, mm_sI, mm_sJ, mm_sR, mm_cI, mm_cJ, mm_I, mm_J, mm_R, mm_K, mm_N, psh_s, psh_n, z_n, z_i, z_r, z_l, Nat.reduceAdd, Nat.reduceLeDiff, K113 hS, R113_2 hS, R113_3 hS, R113_5 hS, R113_8 hS, R113_9 hS, R113_10 hS, R113_11 hS, R113_16 hS, R113_17 hS, R113_18 hS, R113_19 hS, R113_20 hS, R113_21 hS, R113_22 hS, R113_26 hS, R113_27 hS, R113_30 hS, R113_32 hS, R113_34 hS, R113_35 hS, R113_36 hS, R113_37 hS, R113_40 hS, R113_41 hS, R113_42 hS, R113_43 hS, R113_44 hS, R113_45 hS, R113_47 hS, K114 hS, K115 hS, K116 hS, K117 hS, K118 hS, K119 hS, K120 hS, K121 hS, K122 hS, K123 hS, K124 hS, K125 hS, K126 hS, K127 hS, K128 hS, K129 hS, K130 hS, K131 hS, K132 hS, K133 hS, K134 hS, K135 hS, K136 hS, K137 hS, K138 hS, K139 hS, K140 hS, K141 hS, K142 hS, N114 hS, N115 hS, N116 hS, N117 hS, N118 hS, N119 hS, N120 hS, N121 hS, N122 hS, N123 hS, N124 hS, N125 hS, N126 hS, N127 hS, N128 hS, N129 hS, N130 hS, N131 hS, N132 hS, N133 hS, N134 hS, N135 hS, N136 hS, N137 hS, N138 hS, N139 hS, N140 hS, N141 hS, N142 hS, false_or, or_false, ne_eq, true_or, or_true, not_false_eq_true, Nat.reduceEqDiff, Nat.reduceLT, Nat.reduceLeDiff, Nat.reduceAdd, m_isShelf, m_isFrog D.eF hS hF8, s_within', h4, b2i_0]
  by_cases c1 : inb sh 6
  case neg => simp only [eq_false c1, not_false_eq_true, if_true, false_and, if_false] at hr ⊢; exact hr
  by_cases c2 : inb fr F
  case neg => simp only [eq_false c2, not_false_eq_true, if_true, false_and, and_false, if_false, eq_true c1, not_true_eq_false] at hr ⊢; exact hr
  by_cases c3 : inb what 2
  case neg => simp only [eq_false c3, not_false_eq_true, if_true, false_and, and_false, if_false, eq_true c1, eq_true c2, not_true_eq_false] at hr ⊢; exact hr
  obtain ⟨s, hs, rfl, _⟩ := inb_of c1
  obtain ⟨f, hf, rfl, hf2⟩ := inb_of c2
  have hf8 : f < 8 := by omega
  have ex : ix (nI s) = s := ix_n (by omega)
  simp only [eq_true c1, eq_true c2, eq_true c3, not_true_eq_false, if_false, and_true, if_true, ex, ix_n hf2] at hQ hr
  simp only [k214_0, k214_1, k214_4, k214_7, k214_8, k214_9, k214_12, k214_15, k214_16, k214_17, k214_18, k214_21, k214_24, k214_25, k214_26, k214_27, k214_28, k214_31, k214_33, k214_35, k214_38, k214_40, k214_41, k214_42, k214_43, k214_44, k214_46, k214_47, k214_48, k214_50, k214_53, k214_55, k214_56, k214_58, k214_59, k214_62, k214_63, k214_66, k214_67, k214_71, k214_72, k214_75, k214_77, k214_80, k214_81, k214_84, k214_87, k214_88, k214_89, k214_91, k214_93, k214_96, k214_97, k214_98, k214_99, k214_102, k214_104, k214_107, k214_109, k214_110, k214_112, k214_113, k214_116, k214_118, k214_121, k214_123, k214_124, k214_125, k214_127, k214_130, k214_133, k214_134, k214_135, k214_137, k214_139, k214_142, k214_144, mm_sI, mm_sJ, mm_sR, mm_cI, mm_cJ, mm_I, mm_J, mm_R, mm_K, mm_N, psh_s, psh_n, z_n, z_i, z_r, z_l, Nat.reduceAdd, Nat.reduceLeDiff, K113 hS, R113_2 hS, R113_3 hS, R113_5 hS, R113_8 hS, R113_9 hS, R113_10 hS, R113_11 hS, R113_16 hS, R113_17 hS, R113_18 hS, R113_19 hS, R113_20 hS, R113_21 hS, R113_22 hS, R113_26 hS, R113_27 hS, R113_30 hS, R113_32 hS, R113_34 hS, R113_35 hS, R113_36 hS, R113_37 hS, R113_40 hS, R113_41 hS, R113_42 hS, R113_43 hS, R113_44 hS, R113_45 hS, R113_47 hS, K114 hS, K115 hS, K116 hS, K117 hS, K118 hS, K119 hS, K120 hS, K121 hS, K122 hS, K123 hS, K124 hS, K125 hS, K126 hS, K127 hS, K128 hS, K129 hS, K130 hS, K131 hS, K132 hS, K133 hS, K134 hS, K135 hS, K136 hS, K137 hS, K138 hS, K139 hS, K140 hS, K141 hS, K142 hS, N114 hS, N115 hS, N116 hS, N117 hS, N118 hS, N119 hS, N120 hS, N121 hS, N122 hS, N123 hS, N124 hS, N125 hS, N126 hS, N127 hS, N128 hS, N129 hS, N130 hS, N131 hS, N132 hS, N133 hS, N134 hS, N135 hS, N136 hS, N137 hS, N138 hS, N139 hS, N140 hS, N141 hS, N142 hS, false_or, or_false, ne_eq, true_or, or_true, not_false_eq_true, Nat.reduceEqDiff, Nat.reduceLT, Nat.reduceLeDiff, Nat.reduceAdd, eq_true c1, eq_true c2, eq_true c3, not_true_eq_false, if_false, if_true, m_noBytes hS hs (Cs s hs)]
  by_cases h1 : HD s = -1
  · simp only [h1, if_true] at hr
    simp only [h1, if_true, show ¬ ((0 : Int32) ≤ -11) by decide, if_false]; exact hr
  by_cases h0 : HD s = 0
  case neg =>
    simp only [h1, h0, if_false] at hr
    simp only [h1, h0, if_false, show ¬ ((0 : Int32) ≤ -12) by decide]; exact hr
  simp only [h0, if_true, show ¬ ((0 : Int32) = -1) by decide, if_false, Int32.le_refl] at hQ ⊢
  have hV := (Cc s hs).2.2.2.2.2.2.1 h0
  have hn := (Cc s hs).2.1
  obtain ⟨w, hw, rfl, _⟩ := inb_of c3
  match w, hw with
  | 0, _ =>
    simp only [nn0, if_true] at hQ
    simp only [nn0, if_true, show (3 : Int32) + 0 = nI 3 by decide, m_get hS (show 3 < 6 by decide) hf8]
    simp only [k214_0, k214_1, k214_4, k214_7, k214_8, k214_9, k214_12, k214_15, k214_16, k214_17, k214_18, k214_21, k214_24, k214_25, k214_26, k214_27, k214_28, k214_31, k214_33, k214_35, k214_38, k214_40, k214_41, k214_42, k214_43, k214_44, k214_46, k214_47, k214_48, k214_50, k214_53, k214_55, k214_56, k214_58, k214_59, k214_62, k214_63, k214_66, k214_67, k214_71, k214_72, k214_75, k214_77, k214_80, k214_81, k214_84, k214_87, k214_88, k214_89, k214_91, k214_93, k214_96, k214_97, k214_98, k214_99, k214_102, k214_104, k214_107, k214_109, k214_110, k214_112, k214_113, k214_116, k214_118, k214_121, k214_123, k214_124, k214_125, k214_127, k214_130, k214_133, k214_134, k214_135, k214_137, k214_139, k214_142, k214_144, mm_sI, mm_sJ, mm_sR, mm_cI, mm_cJ, mm_I, mm_J, mm_R, mm_K, mm_N, psh_s, psh_n, z_n, z_i, z_r, z_l, Nat.reduceAdd, Nat.reduceLeDiff, K113 hS, R113_2 hS, R113_3 hS, R113_5 hS, R113_8 hS, R113_9 hS, R113_10 hS, R113_11 hS, R113_16 hS, R113_17 hS, R113_18 hS, R113_19 hS, R113_20 hS, R113_21 hS, R113_22 hS, R113_26 hS, R113_27 hS, R113_30 hS, R113_32 hS, R113_34 hS, R113_35 hS, R113_36 hS, R113_37 hS, R113_40 hS, R113_41 hS, R113_42 hS, R113_43 hS, R113_44 hS, R113_45 hS, R113_47 hS, K114 hS, K115 hS, K116 hS, K117 hS, K118 hS, K119 hS, K120 hS, K121 hS, K122 hS, K123 hS, K124 hS, K125 hS, K126 hS, K127 hS, K128 hS, K129 hS, K130 hS, K131 hS, K132 hS, K133 hS, K134 hS, K135 hS, K136 hS, K137 hS, K138 hS, K139 hS, K140 hS, K141 hS, K142 hS, N114 hS, N115 hS, N116 hS, N117 hS, N118 hS, N119 hS, N120 hS, N121 hS, N122 hS, N123 hS, N124 hS, N125 hS, N126 hS, N127 hS, N128 hS, N129 hS, N130 hS, N131 hS, N132 hS, N133 hS, N134 hS, N135 hS, N136 hS, N137 hS, N138 hS, N139 hS, N140 hS, N141 hS, N142 hS, false_or, or_false, ne_eq, true_or, or_true, not_false_eq_true, Nat.reduceEqDiff, Nat.reduceLT, Nat.reduceLeDiff, Nat.reduceAdd, if_true]
    refine m_ftL (w := 3) (i := 0) (k := 10) (x := h 114 (8 * 3 + f)) hs hf (Or.inl rfl) rfl rfl D hV (Cs s hs) hn rfl ?_ hQ
    rw [up2_id]; exact Scr.rf
  | 1, _ =>
    simp only [nn1, e10, if_false] at hQ
    simp only [nn1, e10, if_false, show (3 : Int32) + 1 = nI 4 by decide, m_get hS (show 4 < 6 by decide) hf8]
    have p1 : (nI G ≤ -1) = False := by apply eq_false; rw [iLe, nI_toInt (by omega), im1]; omega
    simp only [k214_0, k214_1, k214_4, k214_7, k214_8, k214_9, k214_12, k214_15, k214_16, k214_17, k214_18, k214_21, k214_24, k214_25, k214_26, k214_27, k214_28, k214_31, k214_33, k214_35, k214_38, k214_40, k214_41, k214_42, k214_43, k214_44, k214_46, k214_47, k214_48, k214_50, k214_53, k214_55, k214_56, k214_58, k214_59, k214_62, k214_63, k214_66, k214_67, k214_71, k214_72, k214_75, k214_77, k214_80, k214_81, k214_84, k214_87, k214_88, k214_89, k214_91, k214_93, k214_96, k214_97, k214_98, k214_99, k214_102, k214_104, k214_107, k214_109, k214_110, k214_112, k214_113, k214_116, k214_118, k214_121, k214_123, k214_124, k214_125, k214_127, k214_130, k214_133, k214_134, k214_135, k214_137, k214_139, k214_142, k214_144, mm_sI, mm_sJ, mm_sR, mm_cI, mm_cJ, mm_I, mm_J, mm_R, mm_K, mm_N, psh_s, psh_n, z_n, z_i, z_r, z_l, Nat.reduceAdd, Nat.reduceLeDiff, K113 hS, R113_2 hS, R113_3 hS, R113_5 hS, R113_8 hS, R113_9 hS, R113_10 hS, R113_11 hS, R113_16 hS, R113_17 hS, R113_18 hS, R113_19 hS, R113_20 hS, R113_21 hS, R113_22 hS, R113_26 hS, R113_27 hS, R113_30 hS, R113_32 hS, R113_34 hS, R113_35 hS, R113_36 hS, R113_37 hS, R113_40 hS, R113_41 hS, R113_42 hS, R113_43 hS, R113_44 hS, R113_45 hS, R113_47 hS, K114 hS, K115 hS, K116 hS, K117 hS, K118 hS, K119 hS, K120 hS, K121 hS, K122 hS, K123 hS, K124 hS, K125 hS, K126 hS, K127 hS, K128 hS, K129 hS, K130 hS, K131 hS, K132 hS, K133 hS, K134 hS, K135 hS, K136 hS, K137 hS, K138 hS, K139 hS, K140 hS, K141 hS, K142 hS, N114 hS, N115 hS, N116 hS, N117 hS, N118 hS, N119 hS, N120 hS, N121 hS, N122 hS, N123 hS, N124 hS, N125 hS, N126 hS, N127 hS, N128 hS, N129 hS, N130 hS, N131 hS, N132 hS, N133 hS, N134 hS, N135 hS, N136 hS, N137 hS, N138 hS, N139 hS, N140 hS, N141 hS, N142 hS, false_or, or_false, ne_eq, true_or, or_true, not_false_eq_true, Nat.reduceEqDiff, Nat.reduceLT, Nat.reduceLeDiff, Nat.reduceAdd, e10, if_false]
    rw [k214_69]
    simp only [k214_0, k214_1, k214_4, k214_7, k214_8, k214_9, k214_12, k214_15, k214_16, k214_17, k214_18, k214_21, k214_24, k214_25, k214_26, k214_27, k214_28, k214_31, k214_33, k214_35, k214_38, k214_40, k214_41, k214_42, k214_43, k214_44, k214_46, k214_47, k214_48, k214_50, k214_53, k214_55, k214_56, k214_58, k214_59, k214_62, k214_63, k214_66, k214_67, k214_71, k214_72, k214_75, k214_77, k214_80, k214_81, k214_84, k214_87, k214_88, k214_89, k214_91, k214_93, k214_96, k214_97, k214_98, k214_99, k214_102, k214_104, k214_107, k214_109, k214_110, k214_112, k214_113, k214_116, k214_118, k214_121, k214_123, k214_124, k214_125, k214_127, k214_130, k214_133, k214_134, k214_135, k214_137, k214_139, k214_142, k214_144, mm_sI, mm_sJ, mm_sR, mm_cI, mm_cJ, mm_I, mm_J, mm_R, mm_K, mm_N, psh_s, psh_n, z_n, z_i, z_r, z_l, Nat.reduceAdd, Nat.reduceLeDiff, K113 hS, R113_2 hS, R113_3 hS, R113_5 hS, R113_8 hS, R113_9 hS, R113_10 hS, R113_11 hS, R113_16 hS, R113_17 hS, R113_18 hS, R113_19 hS, R113_20 hS, R113_21 hS, R113_22 hS, R113_26 hS, R113_27 hS, R113_30 hS, R113_32 hS, R113_34 hS, R113_35 hS, R113_36 hS, R113_37 hS, R113_40 hS, R113_41 hS, R113_42 hS, R113_43 hS, R113_44 hS, R113_45 hS, R113_47 hS, K114 hS, K115 hS, K116 hS, K117 hS, K118 hS, K119 hS, K120 hS, K121 hS, K122 hS, K123 hS, K124 hS, K125 hS, K126 hS, K127 hS, K128 hS, K129 hS, K130 hS, K131 hS, K132 hS, K133 hS, K134 hS, K135 hS, K136 hS, K137 hS, K138 hS, K139 hS, K140 hS, K141 hS, K142 hS, N114 hS, N115 hS, N116 hS, N117 hS, N118 hS, N119 hS, N120 hS, N121 hS, N122 hS, N123 hS, N124 hS, N125 hS, N126 hS, N127 hS, N128 hS, N129 hS, N130 hS, N131 hS, N132 hS, N133 hS, N134 hS, N135 hS, N136 hS, N137 hS, N138 hS, N139 hS, N140 hS, N141 hS, N142 hS, false_or, or_false, ne_eq, true_or, or_true, not_false_eq_true, Nat.reduceEqDiff, Nat.reduceLT, Nat.reduceLeDiff, Nat.reduceAdd, e10, if_false, D.eG, p1, m_becomes hS (show 4 < 6 by decide) hf8]
    have D1 : DD G F W (up2 b 4 f (-1)) (up2 h 114 (8 * 4 + f) (-1)) r E := D.ex (fun a p q => up2_a p) (by rw [bMw hG8 hF8 (by decide) (show f < cut G F 4 from hf), D.eb]) (D.w.up (k := 4) (Or.inl rfl))
    have Cm : ShM s 0 (N s) (V s) (up2 h 114 (8 * 4 + f) (-1)) j := by
      have := Cs s hs; rw [h0] at this
      unfold ShM at this ⊢; rw [up2_a (by decide), up2_a (by decide)]; exact this
    refine m_unlike hs hf hV Cm hn D1 ?_
    intro h2 s2
    rw [ftL_s, if_pos rfl, show (-1 : Int32) + 1 = nI 0 by decide] at hQ
    simp only [k214_0, k214_1, k214_4, k214_7, k214_8, k214_9, k214_12, k214_15, k214_16, k214_17, k214_18, k214_21, k214_24, k214_25, k214_26, k214_27, k214_28, k214_31, k214_33, k214_35, k214_38, k214_40, k214_41, k214_42, k214_43, k214_44, k214_46, k214_47, k214_48, k214_50, k214_53, k214_55, k214_56, k214_58, k214_59, k214_62, k214_63, k214_66, k214_67, k214_71, k214_72, k214_75, k214_77, k214_80, k214_81, k214_84, k214_87, k214_88, k214_89, k214_91, k214_93, k214_96, k214_97, k214_98, k214_99, k214_102, k214_104, k214_107, k214_109, k214_110, k214_112, k214_113, k214_116, k214_118, k214_121, k214_123, k214_124, k214_125, k214_127, k214_130, k214_133, k214_134, k214_135, k214_137, k214_139, k214_142, k214_144, mm_sI, mm_sJ, mm_sR, mm_cI, mm_cJ, mm_I, mm_J, mm_R, mm_K, mm_N, psh_s, psh_n, z_n, z_i, z_r, z_l, Nat.reduceAdd, Nat.reduceLeDiff, K113 hS, R113_2 hS, R113_3 hS, R113_5 hS, R113_8 hS, R113_9 hS, R113_10 hS, R113_11 hS, R113_16 hS, R113_17 hS, R113_18 hS, R113_19 hS, R113_20 hS, R113_21 hS, R113_22 hS, R113_26 hS, R113_27 hS, R113_30 hS, R113_32 hS, R113_34 hS, R113_35 hS, R113_36 hS, R113_37 hS, R113_40 hS, R113_41 hS, R113_42 hS, R113_43 hS, R113_44 hS, R113_45 hS, R113_47 hS, K114 hS, K115 hS, K116 hS, K117 hS, K118 hS, K119 hS, K120 hS, K121 hS, K122 hS, K123 hS, K124 hS, K125 hS, K126 hS, K127 hS, K128 hS, K129 hS, K130 hS, K131 hS, K132 hS, K133 hS, K134 hS, K135 hS, K136 hS, K137 hS, K138 hS, K139 hS, K140 hS, K141 hS, K142 hS, N114 hS, N115 hS, N116 hS, N117 hS, N118 hS, N119 hS, N120 hS, N121 hS, N122 hS, N123 hS, N124 hS, N125 hS, N126 hS, N127 hS, N128 hS, N129 hS, N130 hS, N131 hS, N132 hS, N133 hS, N134 hS, N135 hS, N136 hS, N137 hS, N138 hS, N139 hS, N140 hS, N141 hS, N142 hS, false_or, or_false, ne_eq, true_or, or_true, not_false_eq_true, Nat.reduceEqDiff, Nat.reduceLT, Nat.reduceLeDiff, Nat.reduceAdd, if_true, show (-1 : Int32) + 1 = nI 0 by decide]
    have Cs' : ShM s 0 (N s) (V s) h j := by have := Cs s hs; rw [h0] at this; exact this
    by_cases c : bkL W (V s) f 0 (min (N s) 41) (up2 b 4 f (-1)) = -2
    · simp only [c, if_true] at hQ ⊢
      exact m_ftL (w := 4) (i := 0) (k := G) (x := -1) hs hf (Or.inr rfl) rfl rfl D hV Cs' hn (by simp) s2 hQ
    · simp only [c, if_false] at hQ ⊢
      exact m_ftL (w := 4) (i := 0) (k := G) (x := -1) hs hf (Or.inr rfl) rfl rfl D hV Cs' hn (by simp) s2 hQ
  | w + 2, hw => omega
end FS
