/-! ===== the model's loans in thought ===== -/
section AN
variable {d : Nat} {M : Mem} {h h0 h1 h2 : Hp} {j : Jp} {r : Rp} {E : EE} {Q : Option PV → Mem → Prop} {G F A : Nat} {W : LW} {b bt : BB}
theorem end_4 {f : Nat} : endB b 4 f = b 4 f := by unfold endB; rw [up2_a (by decide)]
theorem end_5 {f : Nat} : endB b 5 f = b 5 f := by unfold endB; rw [up2_a (by decide)]
theorem one_4 {f : Nat} (h4 : b 4 f = -1) : oneB W f b 4 f = -1 := by unfold oneB; rw [end_4, go_no h4, h4]
theorem gv_no {f : Nat} (h4 : b 4 f = -1) : gvB W f b = -2 := by unfold gvB; rw [if_pos h4]
theorem gb_no {f : Nat} : ∀ {n : Nat} {b : BB}, b 4 f = -1 → gbA W f n b = -2 := by
  intro n
  induction n with
  | zero => intro b _; rfl
  | succ n ih => intro b h4; rw [gbA, gv_no h4, if_pos (by decide)]; exact ih (one_4 h4)
theorem ht_no {f : Nat} : ∀ {n m : Nat} {b : BB}, b 4 f = -1 → htA W f m n b = -2 := by
  intro n
  induction n with
  | zero => intro m b _; rfl
  | succ n ih => intro m b h4; rw [htA, gv_no h4, if_pos (by decide)]; exact ih (one_4 h4)
theorem it_no {f : Nat} : ∀ {n : Nat} {b : BB}, b 4 f = -1 → itOne W f n b 5 f = b 5 f := by
  intro n
  induction n with
  | zero => intro b _; rfl
  | succ n ih => intro b h4; rw [itOne, ih (one_4 h4)]; unfold oneB; rw [end_5, go_no h4]
/-- the hour's number, one frog alone -/
theorem m_one (D : DD G F W bt h r E) : FrG h (up2 h 115 1 ((h 115 1 + 1) % 12)) ∧ DD G F W (endB bt) (up2 h 115 1 ((h 115 1 + 1) % 12)) r E := by
  rw [D.vh, nxtM D.w.ah]; exact m_nxt D
theorem m_gvL {f : Nat} (hf : f < F) : ∀ {k i : Nat} {bt : BB} {h : Hp}, i + k = 25 → RR G F W 136 h0 bt h r E → bt 4 f ≠ -1 → h 138 0 = -2 → h 138 1 = -2 → (∀ h', Scr h0 h' → h' 138 0 = gbA W f k bt → h' 138 1 = htA W f i k bt → Q none (mm h' j r E)) →
    WP (d + 6) 198 36 [some (vr 113), some (vi (nI f)), some (vi (nI i))] [] (mm h j r E) Q := by
  have h120 : ((12 : Int32) = 0) = False := by simp
  intro k
  induction k with
  | zero =>
    intro i bt h hk R h4 c0 c1 hQ
    have hS := R.D.S
    have : i = 25 := by omega
    subst this
    rw [k198_36]
    simp only [k198_0, k198_1, k198_4, k198_5, k198_7, k198_8, k198_9, k198_12, k198_13, k198_15, k198_16, k198_17, k198_18, k198_21, k198_22, k198_25, k198_26, k198_27, k198_28, k198_31, k198_34, k198_35, k198_37, k198_39, k198_42, k198_43, k198_46, k198_47, k198_48, k198_50, k198_53, k198_54, k198_55, k198_58, k198_59, k198_62, k198_63, k198_64, k198_67, k198_68, k198_69, k198_70, k198_71, k198_73, k198_74, k198_75, k198_76, k198_77, k198_80, k198_81, k198_84, k198_85, k198_88, k198_89, k198_90, k198_91, k198_94, k198_97, k198_98, k198_101, mm_sI, mm_sJ, mm_sR, mm_cI, mm_cJ, mm_I, mm_J, mm_R, mm_K, mm_N, psh_s, psh_n, z_n, z_i, z_r, z_l, Nat.reduceAdd, Nat.reduceLeDiff, K113 hS, R113_2 hS, R113_3 hS, R113_5 hS, R113_8 hS, R113_9 hS, R113_10 hS, R113_11 hS, R113_16 hS, R113_17 hS, R113_18 hS, R113_19 hS, R113_20 hS, R113_21 hS, R113_22 hS, R113_26 hS, R113_27 hS, R113_30 hS, R113_32 hS, R113_34 hS, R113_35 hS, R113_36 hS, R113_37 hS, R113_40 hS, R113_41 hS, R113_42 hS, R113_43 hS, R113_44 hS, R113_45 hS, R113_47 hS, K114 hS, K115 hS, K116 hS, K117 hS, K118 hS, K119 hS, K120 hS, K121 hS, K122 hS, K123 hS, K124 hS, K125 hS, K126 hS, K127 hS, K128 hS, K129 hS, K130 hS, K131 hS, K132 hS, K133 hS, K134 hS, K135 hS, K136 hS, K137 hS, K138 hS, K139 hS, K140 hS, K141 hS, K142 hS, N114 hS, N115 hS, N116 hS, N117 hS, N118 hS, N119 hS, N120 hS, N121 hS, N122 hS, N123 hS, N124 hS, N125 hS, N126 hS, N127 hS, N128 hS, N129 hS, N130 hS, N131 hS, N132 hS, N133 hS, N134 hS, N135 hS, N136 hS, N137 hS, N138 hS, N139 hS, N140 hS, N141 hS, N142 hS, ne_eq, true_or, or_true, not_false_eq_true, Nat.reduceEqDiff, Nat.reduceLT, Nat.reduceLeDiff, Nat.reduceAdd, show (24 : Int32) < nI 25 by decide, if_true]
    refine WP.deep (d := d + 5) ?_ (by omega)
    refine r_laysW hS R ?_
    intro h' s e
    simp only [k198_0, k198_1, k198_4, k198_5, k198_7, k198_8, k198_9, k198_12, k198_13, k198_15, k198_16, k198_17, k198_18, k198_21, k198_22, k198_25, k198_26, k198_27, k198_28, k198_31, k198_34, k198_35, k198_37, k198_39, k198_42, k198_43, k198_46, k198_47, k198_48, k198_50, k198_53, k198_54, k198_55, k198_58, k198_59, k198_62, k198_63, k198_64, k198_67, k198_68, k198_69, k198_70, k198_71, k198_73, k198_74, k198_75, k198_76, k198_77, k198_80, k198_81, k198_84, k198_85, k198_88, k198_89, k198_90, k198_91, k198_94, k198_97, k198_98, k198_101, mm_sI, mm_sJ, mm_sR, mm_cI, mm_cJ, mm_I, mm_J, mm_R, mm_K, mm_N, psh_s, psh_n, z_n, z_i, z_r, z_l, Nat.reduceAdd, Nat.reduceLeDiff]
    exact hQ h' s (by rw [e, c0]; rfl) (by rw [e, c1]; rfl)
  | succ k ih =>
    intro i bt h hk R h4 c0 c1 hQ
    have hS := R.D.S
    have hF8 := R.D.F8
    have hf8 : f < 8 := by omega
    have hi : ((24 : Int32) < nI i) = False := by rw [← nn24, nLt (by omega) (by omega)]; apply eq_false; omega
    rw [k198_36]
    simp only [k198_0, k198_1, k198_4, k198_5, k198_7, k198_8, k198_9, k198_12, k198_13, k198_15, k198_16, k198_17, k198_18, k198_21, k198_22, k198_25, k198_26, k198_27, k198_28, k198_31, k198_34, k198_35, k198_37, k198_39, k198_42, k198_43, k198_46, k198_47, k198_48, k198_50, k198_53, k198_54, k198_55, k198_58, k198_59, k198_62, k198_63, k198_64, k198_67, k198_68, k198_69, k198_70, k198_71, k198_73, k198_74, k198_75, k198_76, k198_77, k198_80, k198_81, k198_84, k198_85, k198_88, k198_89, k198_90, k198_91, k198_94, k198_97, k198_98, k198_101, mm_sI, mm_sJ, mm_sR, mm_cI, mm_cJ, mm_I, mm_J, mm_R, mm_K, mm_N, psh_s, psh_n, z_n, z_i, z_r, z_l, Nat.reduceAdd, Nat.reduceLeDiff, K113 hS, R113_2 hS, R113_3 hS, R113_5 hS, R113_8 hS, R113_9 hS, R113_10 hS, R113_11 hS, R113_16 hS, R113_17 hS, R113_18 hS, R113_19 hS, R113_20 hS, R113_21 hS, R113_22 hS, R113_26 hS, R113_27 hS, R113_30 hS, R113_32 hS, R113_34 hS, R113_35 hS, R113_36 hS, R113_37 hS, R113_40 hS, R113_41 hS, R113_42 hS, R113_43 hS, R113_44 hS, R113_45 hS, R113_47 hS, K114 hS, K115 hS, K116 hS, K117 hS, K118 hS, K119 hS, K120 hS, K121 hS, K122 hS, K123 hS, K124 hS, K125 hS, K126 hS, K127 hS, K128 hS, K129 hS, K130 hS, K131 hS, K132 hS, K133 hS, K134 hS, K135 hS, K136 hS, K137 hS, K138 hS, K139 hS, K140 hS, K141 hS, K142 hS, N114 hS, N115 hS, N116 hS, N117 hS, N118 hS, N119 hS, N120 hS, N121 hS, N122 hS, N123 hS, N124 hS, N125 hS, N126 hS, N127 hS, N128 hS, N129 hS, N130 hS, N131 hS, N132 hS, N133 hS, N134 hS, N135 hS, N136 hS, N137 hS, N138 hS, N139 hS, N140 hS, N141 hS, N142 hS, inb_c0, ix_c0, inb_c1, ix_c1, inb_c2, ix_c2, inb_c3, ix_c3, inb_c4, ix_c4, inb_c5, ix_c5, inb_c6, ix_c6, inb_c7, ix_c7, inb_c8, ix_c8, inb_c32, ix_c32, ne_eq, true_or, or_true, not_false_eq_true, Nat.reduceEqDiff, Nat.reduceLT, Nat.reduceLeDiff, Nat.reduceAdd, hi, if_false, c1, if_true]
    refine m_goes R.D hf h4 ?_
    intro h1 fr D1 _ _ e0
    obtain ⟨fr2, D2⟩ := m_one D1
    have e38 : h1 138 1 = -2 := by rw [fr.2.2.2.2 1 (by decide)]; exact c1
    have R2 := (R.fr (Or.inl rfl) fr D1).fr (Or.inl rfl) fr2 D2
    have g4 := go_4 (W := W) (b := bt) (f := f)
    have hgv := gv_0 (W := W) R.D.w hf
    have hb1 := b1_bk (W := W) (b := bt) (f := f)
    simp only [k198_0, k198_1, k198_4, k198_5, k198_7, k198_8, k198_9, k198_12, k198_13, k198_15, k198_16, k198_17, k198_18, k198_21, k198_22, k198_25, k198_26, k198_27, k198_28, k198_31, k198_34, k198_35, k198_37, k198_39, k198_42, k198_43, k198_46, k198_47, k198_48, k198_50, k198_53, k198_54, k198_55, k198_58, k198_59, k198_62, k198_63, k198_64, k198_67, k198_68, k198_69, k198_70, k198_71, k198_73, k198_74, k198_75, k198_76, k198_77, k198_80, k198_81, k198_84, k198_85, k198_88, k198_89, k198_90, k198_91, k198_94, k198_97, k198_98, k198_101, mm_sI, mm_sJ, mm_sR, mm_cI, mm_cJ, mm_I, mm_J, mm_R, mm_K, mm_N, psh_s, psh_n, z_n, z_i, z_r, z_l, Nat.reduceAdd, Nat.reduceLeDiff, K113 hS, R113_2 hS, R113_3 hS, R113_5 hS, R113_8 hS, R113_9 hS, R113_10 hS, R113_11 hS, R113_16 hS, R113_17 hS, R113_18 hS, R113_19 hS, R113_20 hS, R113_21 hS, R113_22 hS, R113_26 hS, R113_27 hS, R113_30 hS, R113_32 hS, R113_34 hS, R113_35 hS, R113_36 hS, R113_37 hS, R113_40 hS, R113_41 hS, R113_42 hS, R113_43 hS, R113_44 hS, R113_45 hS, R113_47 hS, K114 hS, K115 hS, K116 hS, K117 hS, K118 hS, K119 hS, K120 hS, K121 hS, K122 hS, K123 hS, K124 hS, K125 hS, K126 hS, K127 hS, K128 hS, K129 hS, K130 hS, K131 hS, K132 hS, K133 hS, K134 hS, K135 hS, K136 hS, K137 hS, K138 hS, K139 hS, K140 hS, K141 hS, K142 hS, N114 hS, N115 hS, N116 hS, N117 hS, N118 hS, N119 hS, N120 hS, N121 hS, N122 hS, N123 hS, N124 hS, N125 hS, N126 hS, N127 hS, N128 hS, N129 hS, N130 hS, N131 hS, N132 hS, N133 hS, N134 hS, N135 hS, N136 hS, N137 hS, N138 hS, N139 hS, N140 hS, N141 hS, N142 hS, inb_c0, ix_c0, inb_c1, ix_c1, inb_c2, ix_c2, inb_c3, ix_c3, inb_c4, ix_c4, inb_c5, ix_c5, inb_c6, ix_c6, inb_c7, ix_c7, inb_c8, ix_c8, inb_c32, ix_c32, ne_eq, true_or, or_true, not_false_eq_true, Nat.reduceEqDiff, Nat.reduceLT, Nat.reduceLeDiff, Nat.reduceAdd, h120, m_owes hS hf8, D2.v4 hf, end_4]
    rw [g4]
    by_cases bk : bkB bt f
    · rw [if_pos bk]
      rw [hb1, if_pos bk, if_pos rfl] at e0
      have hneg : ¬ gvB W f bt < 0 := by rw [hgv]; exact fun hh => hh bk
      rw [gbA, htA, if_neg hneg, if_neg hneg] at hQ
      have hne : (nI i = -2) = False := by
        apply eq_false; intro hh; have := congrArg Int32.toInt hh; rw [nI_toInt (by omega), im2] at this; omega
      simp only [k198_0, k198_1, k198_4, k198_5, k198_7, k198_8, k198_9, k198_12, k198_13, k198_15, k198_16, k198_17, k198_18, k198_21, k198_22, k198_25, k198_26, k198_27, k198_28, k198_31, k198_34, k198_35, k198_37, k198_39, k198_42, k198_43, k198_46, k198_47, k198_48, k198_50, k198_53, k198_54, k198_55, k198_58, k198_59, k198_62, k198_63, k198_64, k198_67, k198_68, k198_69, k198_70, k198_71, k198_73, k198_74, k198_75, k198_76, k198_77, k198_80, k198_81, k198_84, k198_85, k198_88, k198_89, k198_90, k198_91, k198_94, k198_97, k198_98, k198_101, mm_sI, mm_sJ, mm_sR, mm_cI, mm_cJ, mm_I, mm_J, mm_R, mm_K, mm_N, psh_s, psh_n, z_n, z_i, z_r, z_l, Nat.reduceAdd, Nat.reduceLeDiff, K113 hS, R113_2 hS, R113_3 hS, R113_5 hS, R113_8 hS, R113_9 hS, R113_10 hS, R113_11 hS, R113_16 hS, R113_17 hS, R113_18 hS, R113_19 hS, R113_20 hS, R113_21 hS, R113_22 hS, R113_26 hS, R113_27 hS, R113_30 hS, R113_32 hS, R113_34 hS, R113_35 hS, R113_36 hS, R113_37 hS, R113_40 hS, R113_41 hS, R113_42 hS, R113_43 hS, R113_44 hS, R113_45 hS, R113_47 hS, K114 hS, K115 hS, K116 hS, K117 hS, K118 hS, K119 hS, K120 hS, K121 hS, K122 hS, K123 hS, K124 hS, K125 hS, K126 hS, K127 hS, K128 hS, K129 hS, K130 hS, K131 hS, K132 hS, K133 hS, K134 hS, K135 hS, K136 hS, K137 hS, K138 hS, K139 hS, K140 hS, K141 hS, K142 hS, N114 hS, N115 hS, N116 hS, N117 hS, N118 hS, N119 hS, N120 hS, N121 hS, N122 hS, N123 hS, N124 hS, N125 hS, N126 hS, N127 hS, N128 hS, N129 hS, N130 hS, N131 hS, N132 hS, N133 hS, N134 hS, N135 hS, N136 hS, N137 hS, N138 hS, N139 hS, N140 hS, N141 hS, N142 hS, inb_c0, ix_c0, inb_c1, ix_c1, inb_c2, ix_c2, inb_c3, ix_c3, inb_c4, ix_c4, inb_c5, ix_c5, inb_c6, ix_c6, inb_c7, ix_c7, inb_c8, ix_c8, inb_c32, ix_c32, ne_eq, true_or, or_true, not_false_eq_true, Nat.reduceEqDiff, Nat.reduceLT, Nat.reduceLeDiff, Nat.reduceAdd, if_true, up2_s, up2_ai, up2_i]
      rw [k198_36]
      have R3 : RR G F W 136 h0 (endB (goB W f bt)) (up2 (up2 h1 115 1 ((h1 115 1 + 1) % 12)) 138 1 (nI i)) r E := by
        have s3 : Scr (up2 h1 115 1 ((h1 115 1 + 1) % 12)) (up2 (up2 h1 115 1 ((h1 115 1 + 1) % 12)) 138 1 (nI i)) := Scr.rf.up (by unfold scrA; omega) (by decide) (by decide) (by decide)
        refine ⟨R2.1.tr (SG.ofS s3), ?_, D2.sc s3⟩
        have := R2.2.1
        unfold Kep; rw [up2_a (by decide)]; exact this
      have fin : ∀ (d : Nat), WP (d + 6) 198 97 [some (vr 113), some (vi (nI f)), some (vi (nI (i + 1)))] [] (mm (up2 (up2 h1 115 1 ((h1 115 1 + 1) % 12)) 138 1 (nI i)) j r E) Q := by
        intro d
        simp only [k198_0, k198_1, k198_4, k198_5, k198_7, k198_8, k198_9, k198_12, k198_13, k198_15, k198_16, k198_17, k198_18, k198_21, k198_22, k198_25, k198_26, k198_27, k198_28, k198_31, k198_34, k198_35, k198_37, k198_39, k198_42, k198_43, k198_46, k198_47, k198_48, k198_50, k198_53, k198_54, k198_55, k198_58, k198_59, k198_62, k198_63, k198_64, k198_67, k198_68, k198_69, k198_70, k198_71, k198_73, k198_74, k198_75, k198_76, k198_77, k198_80, k198_81, k198_84, k198_85, k198_88, k198_89, k198_90, k198_91, k198_94, k198_97, k198_98, k198_101, mm_sI, mm_sJ, mm_sR, mm_cI, mm_cJ, mm_I, mm_J, mm_R, mm_K, mm_N, psh_s, psh_n, z_n, z_i, z_r, z_l, Nat.reduceAdd, Nat.reduceLeDiff, K113 hS, R113_2 hS, R113_3 hS, R113_5 hS, R113_8 hS, R113_9 hS, R113_10 hS, R113_11 hS, R113_16 hS, R113_17 hS, R113_18 hS, R113_19 hS, R113_20 hS, R113_21 hS, R113_22 hS, R113_26 hS, R113_27 hS, R113_30 hS, R113_32 hS, R113_34 hS, R113_35 hS, R113_36 hS, R113_37 hS, R113_40 hS, R113_41 hS, R113_42 hS, R113_43 hS, R113_44 hS, R113_45 hS, R113_47 hS, K114 hS, K115 hS, K116 hS, K117 hS, K118 hS, K119 hS, K120 hS, K121 hS, K122 hS, K123 hS, K124 hS, K125 hS, K126 hS, K127 hS, K128 hS, K129 hS, K130 hS, K131 hS, K132 hS, K133 hS, K134 hS, K135 hS, K136 hS, K137 hS, K138 hS, K139 hS, K140 hS, K141 hS, K142 hS, N114 hS, N115 hS, N116 hS, N117 hS, N118 hS, N119 hS, N120 hS, N121 hS, N122 hS, N123 hS, N124 hS, N125 hS, N126 hS, N127 hS, N128 hS, N129 hS, N130 hS, N131 hS, N132 hS, N133 hS, N134 hS, N135 hS, N136 hS, N137 hS, N138 hS, N139 hS, N140 hS, N141 hS, N142 hS, ne_eq, true_or, or_true, not_false_eq_true, Nat.reduceEqDiff, Nat.reduceLT, Nat.reduceLeDiff, Nat.reduceAdd]
        refine WP.deep (d := d + 5) ?_ (by omega)
        refine r_laysW hS R3 ?_
        intro h' s e
        simp only [k198_0, k198_1, k198_4, k198_5, k198_7, k198_8, k198_9, k198_12, k198_13, k198_15, k198_16, k198_17, k198_18, k198_21, k198_22, k198_25, k198_26, k198_27, k198_28, k198_31, k198_34, k198_35, k198_37, k198_39, k198_42, k198_43, k198_46, k198_47, k198_48, k198_50, k198_53, k198_54, k198_55, k198_58, k198_59, k198_62, k198_63, k198_64, k198_67, k198_68, k198_69, k198_70, k198_71, k198_73, k198_74, k198_75, k198_76, k198_77, k198_80, k198_81, k198_84, k198_85, k198_88, k198_89, k198_90, k198_91, k198_94, k198_97, k198_98, k198_101, mm_sI, mm_sJ, mm_sR, mm_cI, mm_cJ, mm_I, mm_J, mm_R, mm_K, mm_N, psh_s, psh_n, z_n, z_i, z_r, z_l, Nat.reduceAdd, Nat.reduceLeDiff]
        exact hQ h' s (by rw [e, up2_i (by decide), up2_a (by decide)]; exact e0) (by rw [e, up2_s])
      by_cases c24 : (24 : Int32) < nI (i + 1)
      · simp only [k198_0, k198_1, k198_4, k198_5, k198_7, k198_8, k198_9, k198_12, k198_13, k198_15, k198_16, k198_17, k198_18, k198_21, k198_22, k198_25, k198_26, k198_27, k198_28, k198_31, k198_34, k198_35, k198_37, k198_39, k198_42, k198_43, k198_46, k198_47, k198_48, k198_50, k198_53, k198_54, k198_55, k198_58, k198_59, k198_62, k198_63, k198_64, k198_67, k198_68, k198_69, k198_70, k198_71, k198_73, k198_74, k198_75, k198_76, k198_77, k198_80, k198_81, k198_84, k198_85, k198_88, k198_89, k198_90, k198_91, k198_94, k198_98, k198_101, mm_sI, mm_sJ, mm_sR, mm_cI, mm_cJ, mm_I, mm_J, mm_R, mm_K, mm_N, psh_s, psh_n, z_n, z_i, z_r, z_l, Nat.reduceAdd, Nat.reduceLeDiff, K113 hS, R113_2 hS, R113_3 hS, R113_5 hS, R113_8 hS, R113_9 hS, R113_10 hS, R113_11 hS, R113_16 hS, R113_17 hS, R113_18 hS, R113_19 hS, R113_20 hS, R113_21 hS, R113_22 hS, R113_26 hS, R113_27 hS, R113_30 hS, R113_32 hS, R113_34 hS, R113_35 hS, R113_36 hS, R113_37 hS, R113_40 hS, R113_41 hS, R113_42 hS, R113_43 hS, R113_44 hS, R113_45 hS, R113_47 hS, K114 hS, K115 hS, K116 hS, K117 hS, K118 hS, K119 hS, K120 hS, K121 hS, K122 hS, K123 hS, K124 hS, K125 hS, K126 hS, K127 hS, K128 hS, K129 hS, K130 hS, K131 hS, K132 hS, K133 hS, K134 hS, K135 hS, K136 hS, K137 hS, K138 hS, K139 hS, K140 hS, K141 hS, K142 hS, N114 hS, N115 hS, N116 hS, N117 hS, N118 hS, N119 hS, N120 hS, N121 hS, N122 hS, N123 hS, N124 hS, N125 hS, N126 hS, N127 hS, N128 hS, N129 hS, N130 hS, N131 hS, N132 hS, N133 hS, N134 hS, N135 hS, N136 hS, N137 hS, N138 hS, N139 hS, N140 hS, N141 hS, N142 hS, inb_c0, ix_c0, inb_c1, ix_c1, inb_c2, ix_c2, inb_c3, ix_c3, inb_c4, ix_c4, inb_c5, ix_c5, inb_c6, ix_c6, inb_c7, ix_c7, inb_c8, ix_c8, inb_c32, ix_c32, ne_eq, true_or, or_true, not_false_eq_true, Nat.reduceEqDiff, Nat.reduceLT, Nat.reduceLeDiff, Nat.reduceAdd, nS1, c24, if_true]; exact fin d
      · simp only [k198_0, k198_1, k198_4, k198_5, k198_7, k198_8, k198_9, k198_12, k198_13, k198_15, k198_16, k198_17, k198_18, k198_21, k198_22, k198_25, k198_26, k198_27, k198_28, k198_31, k198_34, k198_35, k198_37, k198_39, k198_42, k198_43, k198_46, k198_47, k198_48, k198_50, k198_53, k198_54, k198_55, k198_58, k198_59, k198_62, k198_63, k198_64, k198_67, k198_68, k198_69, k198_70, k198_71, k198_73, k198_74, k198_75, k198_76, k198_77, k198_80, k198_81, k198_84, k198_85, k198_88, k198_89, k198_90, k198_91, k198_94, k198_98, k198_101, mm_sI, mm_sJ, mm_sR, mm_cI, mm_cJ, mm_I, mm_J, mm_R, mm_K, mm_N, psh_s, psh_n, z_n, z_i, z_r, z_l, Nat.reduceAdd, Nat.reduceLeDiff, K113 hS, R113_2 hS, R113_3 hS, R113_5 hS, R113_8 hS, R113_9 hS, R113_10 hS, R113_11 hS, R113_16 hS, R113_17 hS, R113_18 hS, R113_19 hS, R113_20 hS, R113_21 hS, R113_22 hS, R113_26 hS, R113_27 hS, R113_30 hS, R113_32 hS, R113_34 hS, R113_35 hS, R113_36 hS, R113_37 hS, R113_40 hS, R113_41 hS, R113_42 hS, R113_43 hS, R113_44 hS, R113_45 hS, R113_47 hS, K114 hS, K115 hS, K116 hS, K117 hS, K118 hS, K119 hS, K120 hS, K121 hS, K122 hS, K123 hS, K124 hS, K125 hS, K126 hS, K127 hS, K128 hS, K129 hS, K130 hS, K131 hS, K132 hS, K133 hS, K134 hS, K135 hS, K136 hS, K137 hS, K138 hS, K139 hS, K140 hS, K141 hS, K142 hS, N114 hS, N115 hS, N116 hS, N117 hS, N118 hS, N119 hS, N120 hS, N121 hS, N122 hS, N123 hS, N124 hS, N125 hS, N126 hS, N127 hS, N128 hS, N129 hS, N130 hS, N131 hS, N132 hS, N133 hS, N134 hS, N135 hS, N136 hS, N137 hS, N138 hS, N139 hS, N140 hS, N141 hS, N142 hS, inb_c0, ix_c0, inb_c1, ix_c1, inb_c2, ix_c2, inb_c3, ix_c3, inb_c4, ix_c4, inb_c5, ix_c5, inb_c6, ix_c6, inb_c7, ix_c7, inb_c8, ix_c8, inb_c32, ix_c32, ne_eq, true_or, or_true, not_false_eq_true, Nat.reduceEqDiff, Nat.reduceLT, Nat.reduceLeDiff, Nat.reduceAdd, nS1, c24, if_false, up2_s, hne]; exact fin d
    · rw [if_neg bk]
      rw [hb1, if_neg bk, if_neg (by decide)] at e0
      have hpos : gvB W f bt < 0 := by rw [hgv]; exact bk
      rw [gbA, htA, if_pos hpos, if_pos hpos] at hQ
      simp only [k198_0, k198_1, k198_4, k198_5, k198_7, k198_8, k198_9, k198_12, k198_13, k198_15, k198_16, k198_17, k198_18, k198_21, k198_22, k198_25, k198_26, k198_27, k198_28, k198_31, k198_34, k198_35, k198_37, k198_39, k198_42, k198_43, k198_46, k198_47, k198_48, k198_50, k198_53, k198_54, k198_55, k198_58, k198_59, k198_62, k198_63, k198_64, k198_67, k198_68, k198_69, k198_70, k198_71, k198_73, k198_74, k198_75, k198_76, k198_77, k198_80, k198_81, k198_84, k198_85, k198_88, k198_89, k198_90, k198_91, k198_94, k198_97, k198_98, k198_101, mm_sI, mm_sJ, mm_sR, mm_cI, mm_cJ, mm_I, mm_J, mm_R, mm_K, mm_N, psh_s, psh_n, z_n, z_i, z_r, z_l, Nat.reduceAdd, Nat.reduceLeDiff, K113 hS, R113_2 hS, R113_3 hS, R113_5 hS, R113_8 hS, R113_9 hS, R113_10 hS, R113_11 hS, R113_16 hS, R113_17 hS, R113_18 hS, R113_19 hS, R113_20 hS, R113_21 hS, R113_22 hS, R113_26 hS, R113_27 hS, R113_30 hS, R113_32 hS, R113_34 hS, R113_35 hS, R113_36 hS, R113_37 hS, R113_40 hS, R113_41 hS, R113_42 hS, R113_43 hS, R113_44 hS, R113_45 hS, R113_47 hS, K114 hS, K115 hS, K116 hS, K117 hS, K118 hS, K119 hS, K120 hS, K121 hS, K122 hS, K123 hS, K124 hS, K125 hS, K126 hS, K127 hS, K128 hS, K129 hS, K130 hS, K131 hS, K132 hS, K133 hS, K134 hS, K135 hS, K136 hS, K137 hS, K138 hS, K139 hS, K140 hS, K141 hS, K142 hS, N114 hS, N115 hS, N116 hS, N117 hS, N118 hS, N119 hS, N120 hS, N121 hS, N122 hS, N123 hS, N124 hS, N125 hS, N126 hS, N127 hS, N128 hS, N129 hS, N130 hS, N131 hS, N132 hS, N133 hS, N134 hS, N135 hS, N136 hS, N137 hS, N138 hS, N139 hS, N140 hS, N141 hS, N142 hS, inb_c0, ix_c0, inb_c1, ix_c1, inb_c2, ix_c2, inb_c3, ix_c3, inb_c4, ix_c4, inb_c5, ix_c5, inb_c6, ix_c6, inb_c7, ix_c7, inb_c8, ix_c8, inb_c32, ix_c32, ne_eq, true_or, or_true, not_false_eq_true, Nat.reduceEqDiff, Nat.reduceLT, Nat.reduceLeDiff, Nat.reduceAdd, h4, if_false, nS1]
      refine ih (by omega) R2 ?_ ?_ ?_ hQ
      · rw [end_4, g4, if_neg bk]; exact h4
      · rw [up2_a (by decide), e0]; exact c0
      · rw [up2_a (by decide)]; exact e38
theorem m_gives {f : Nat} (hf : f < F) (D : DD G F W b h r E) (hQ : ∀ h', Scr h h' → h' 138 0 = gbA W f 24 b → h' 138 1 = htA W f 1 24 b → Q none (mm h' j r E)) :
    WP (d + 6) 198 0 [some (vr 113), some (vi (nI f)), none] [] (mm h j r E) Q := by
  have hS := D.S
  have hF8 := D.F8
  have hf8 : f < 8 := by omega
  have s1 : Scr h (up2 (up2 h 138 0 (-2)) 138 1 (-2)) := (Scr.rf.up (by unfold scrA; omega) (by decide) (by decide) (by decide)).up (by unfold scrA; omega) (by decide) (by decide) (by decide)
  have D1 := D.sc s1
  simp only [k198_0, k198_1, k198_4, k198_5, k198_7, k198_8, k198_9, k198_12, k198_13, k198_15, k198_16, k198_17, k198_18, k198_21, k198_22, k198_25, k198_26, k198_27, k198_28, k198_31, k198_34, k198_35, k198_37, k198_39, k198_42, k198_43, k198_46, k198_47, k198_48, k198_50, k198_53, k198_54, k198_55, k198_58, k198_59, k198_62, k198_63, k198_64, k198_67, k198_68, k198_69, k198_70, k198_71, k198_73, k198_74, k198_75, k198_76, k198_77, k198_80, k198_81, k198_84, k198_85, k198_88, k198_89, k198_90, k198_91, k198_94, k198_97, k198_98, k198_101, mm_sI, mm_sJ, mm_sR, mm_cI, mm_cJ, mm_I, mm_J, mm_R, mm_K, mm_N, psh_s, psh_n, z_n, z_i, z_r, z_l, Nat.reduceAdd, Nat.reduceLeDiff, K113 hS, R113_2 hS, R113_3 hS, R113_5 hS, R113_8 hS, R113_9 hS, R113_10 hS, R113_11 hS, R113_16 hS, R113_17 hS, R113_18 hS, R113_19 hS, R113_20 hS, R113_21 hS, R113_22 hS, R113_26 hS, R113_27 hS, R113_30 hS, R113_32 hS, R113_34 hS, R113_35 hS, R113_36 hS, R113_37 hS, R113_40 hS, R113_41 hS, R113_42 hS, R113_43 hS, R113_44 hS, R113_45 hS, R113_47 hS, K114 hS, K115 hS, K116 hS, K117 hS, K118 hS, K119 hS, K120 hS, K121 hS, K122 hS, K123 hS, K124 hS, K125 hS, K126 hS, K127 hS, K128 hS, K129 hS, K130 hS, K131 hS, K132 hS, K133 hS, K134 hS, K135 hS, K136 hS, K137 hS, K138 hS, K139 hS, K140 hS, K141 hS, K142 hS, N114 hS, N115 hS, N116 hS, N117 hS, N118 hS, N119 hS, N120 hS, N121 hS, N122 hS, N123 hS, N124 hS, N125 hS, N126 hS, N127 hS, N128 hS, N129 hS, N130 hS, N131 hS, N132 hS, N133 hS, N134 hS, N135 hS, N136 hS, N137 hS, N138 hS, N139 hS, N140 hS, N141 hS, N142 hS, inb_c0, ix_c0, inb_c1, ix_c1, inb_c2, ix_c2, inb_c3, ix_c3, inb_c4, ix_c4, inb_c5, ix_c5, inb_c6, ix_c6, inb_c7, ix_c7, inb_c8, ix_c8, inb_c32, ix_c32, ne_eq, true_or, or_true, not_false_eq_true, Nat.reduceEqDiff, Nat.reduceLT, Nat.reduceLeDiff, Nat.reduceAdd, m_owes hS hf8, D1.v4 hf]
  by_cases c : b 4 f = -1
  · simp only [c, if_true]
    exact hQ _ s1 (by rw [up2_i (by decide), up2_s, gb_no c]) (by rw [up2_s, ht_no c])
  · simp only [c, if_false]
    refine r_keeps hS (Or.inl rfl) D1 ?_
    intro h2 R s2 e2
    simp only [k198_0, k198_1, k198_4, k198_5, k198_7, k198_8, k198_9, k198_12, k198_13, k198_15, k198_16, k198_17, k198_18, k198_21, k198_22, k198_25, k198_26, k198_27, k198_28, k198_31, k198_34, k198_35, k198_37, k198_39, k198_42, k198_43, k198_46, k198_47, k198_48, k198_50, k198_53, k198_54, k198_55, k198_58, k198_59, k198_62, k198_63, k198_64, k198_67, k198_68, k198_69, k198_70, k198_71, k198_73, k198_74, k198_75, k198_76, k198_77, k198_80, k198_81, k198_84, k198_85, k198_88, k198_89, k198_90, k198_91, k198_94, k198_97, k198_98, k198_101, mm_sI, mm_sJ, mm_sR, mm_cI, mm_cJ, mm_I, mm_J, mm_R, mm_K, mm_N, psh_s, psh_n, z_n, z_i, z_r, z_l, Nat.reduceAdd, Nat.reduceLeDiff, ne_eq, true_or, or_true, not_false_eq_true, Nat.reduceEqDiff, Nat.reduceLT, Nat.reduceLeDiff, Nat.reduceAdd]
    refine m_gvL hf (i := 1) (k := 24) (by omega) R c (by rw [e2, up2_i (by decide), up2_s]) (by rw [e2, up2_s]) ?_
    intro h' s a0 a1
    exact hQ h' (s1.tr s) a0 a1
/-- lent so in thought -/
theorem m_lendD {f : Nat} {g x : Int32} (D : DD G F W b h r E) (hf : f < F) (hg : inb g G) (hx : inb x 100) : DD G F W (lendB b f g x) (up2 (up2 h 114 (32 + f) g) 114 (40 + f) x) r E := by
  have hF8 := D.F8
  have fr : FrG h (up2 (up2 h 114 (32 + f) g) 114 (40 + f) x) := FrG.w114 (FrG.w114 FrG.rf (by omega)) (by omega)
  refine D.go fr ?_ ?_
  · rw [bMw5 D.G8 D.F8 hf, bMw4 D.G8 D.F8 hf, D.eb]; rfl
  · exact WF.up (D.w.up (k := 4) (Or.inr hg)) (k := 5) hx
theorem m_lent {f : Nat} {g x : Int32} (D : DD G F W b h r E) (hf : f < F) (hg : inb g G) (hx : inb x 100) (hQ : ∀ h', Scr h h' → h' 138 0 = gbA W f 24 (lendB b f g x) → h' 138 1 = htA W f 1 24 (lendB b f g x) → Q none (mm h' j r E)) :
    WP (d + 7) 199 0 [some (vr 113), some (vi g), some (vi (nI f)), some (vi x), none, none] [] (mm h j r E) Q := by
  have hS := D.S
  have hF8 := D.F8
  have hf8 : f < 8 := by omega
  have hi : ∀ c, c ≤ 40 → inb (nI (c + f)) 48 = True := fun c hc => eq_true (by rw [inb_n (by omega)]; omega)
  have hxx : ∀ c, c ≤ 40 → ix (nI (c + f)) = c + f := fun c hc => ix_n (by omega)
  simp only [k199_0, k199_1, k199_2, k199_5, k199_7, k199_8, k199_9, k199_12, k199_14, k199_15, k199_18, k199_20, k199_21, k199_22, k199_23, k199_24, k199_25, k199_28, k199_30, k199_31, k199_32, k199_33, k199_34, k199_35, k199_36, k199_39, k199_40, k199_43, k199_45, k199_46, k199_47, k199_49, k199_50, k199_51, k199_54, k199_56, k199_57, k199_58, k199_60, k199_61, mm_sI, mm_sJ, mm_sR, mm_cI, mm_cJ, mm_I, mm_J, mm_R, mm_K, mm_N, psh_s, psh_n, z_n, z_i, z_r, z_l, Nat.reduceAdd, Nat.reduceLeDiff, K113 hS, R113_2 hS, R113_3 hS, R113_5 hS, R113_8 hS, R113_9 hS, R113_10 hS, R113_11 hS, R113_16 hS, R113_17 hS, R113_18 hS, R113_19 hS, R113_20 hS, R113_21 hS, R113_22 hS, R113_26 hS, R113_27 hS, R113_30 hS, R113_32 hS, R113_34 hS, R113_35 hS, R113_36 hS, R113_37 hS, R113_40 hS, R113_41 hS, R113_42 hS, R113_43 hS, R113_44 hS, R113_45 hS, R113_47 hS, K114 hS, K115 hS, K116 hS, K117 hS, K118 hS, K119 hS, K120 hS, K121 hS, K122 hS, K123 hS, K124 hS, K125 hS, K126 hS, K127 hS, K128 hS, K129 hS, K130 hS, K131 hS, K132 hS, K133 hS, K134 hS, K135 hS, K136 hS, K137 hS, K138 hS, K139 hS, K140 hS, K141 hS, K142 hS, N114 hS, N115 hS, N116 hS, N117 hS, N118 hS, N119 hS, N120 hS, N121 hS, N122 hS, N123 hS, N124 hS, N125 hS, N126 hS, N127 hS, N128 hS, N129 hS, N130 hS, N131 hS, N132 hS, N133 hS, N134 hS, N135 hS, N136 hS, N137 hS, N138 hS, N139 hS, N140 hS, N141 hS, N142 hS, ne_eq, true_or, or_true, not_false_eq_true, Nat.reduceEqDiff, Nat.reduceLT, Nat.reduceLeDiff, Nat.reduceAdd, m_owes hS hf8, m_held hS hf8, a32, a40, hi, hxx]
  refine m_gives hf (m_lendD D hf hg hx) ?_
  intro h2 s c0 c1
  simp only [k199_0, k199_1, k199_2, k199_5, k199_7, k199_8, k199_9, k199_12, k199_14, k199_15, k199_18, k199_20, k199_21, k199_22, k199_23, k199_24, k199_25, k199_28, k199_30, k199_31, k199_32, k199_33, k199_34, k199_35, k199_36, k199_39, k199_40, k199_43, k199_45, k199_46, k199_47, k199_49, k199_50, k199_51, k199_54, k199_56, k199_57, k199_58, k199_60, k199_61, mm_sI, mm_sJ, mm_sR, mm_cI, mm_cJ, mm_I, mm_J, mm_R, mm_K, mm_N, psh_s, psh_n, z_n, z_i, z_r, z_l, Nat.reduceAdd, Nat.reduceLeDiff, K113 hS, R113_2 hS, R113_3 hS, R113_5 hS, R113_8 hS, R113_9 hS, R113_10 hS, R113_11 hS, R113_16 hS, R113_17 hS, R113_18 hS, R113_19 hS, R113_20 hS, R113_21 hS, R113_22 hS, R113_26 hS, R113_27 hS, R113_30 hS, R113_32 hS, R113_34 hS, R113_35 hS, R113_36 hS, R113_37 hS, R113_40 hS, R113_41 hS, R113_42 hS, R113_43 hS, R113_44 hS, R113_45 hS, R113_47 hS, K114 hS, K115 hS, K116 hS, K117 hS, K118 hS, K119 hS, K120 hS, K121 hS, K122 hS, K123 hS, K124 hS, K125 hS, K126 hS, K127 hS, K128 hS, K129 hS, K130 hS, K131 hS, K132 hS, K133 hS, K134 hS, K135 hS, K136 hS, K137 hS, K138 hS, K139 hS, K140 hS, K141 hS, K142 hS, N114 hS, N115 hS, N116 hS, N117 hS, N118 hS, N119 hS, N120 hS, N121 hS, N122 hS, N123 hS, N124 hS, N125 hS, N126 hS, N127 hS, N128 hS, N129 hS, N130 hS, N131 hS, N132 hS, N133 hS, N134 hS, N135 hS, N136 hS, N137 hS, N138 hS, N139 hS, N140 hS, N141 hS, N142 hS, ne_eq, true_or, or_true, not_false_eq_true, Nat.reduceEqDiff, Nat.reduceLT, Nat.reduceLeDiff, Nat.reduceAdd, a32, a40, hi, hxx]
  have z : (40 + f = 32 + f) = False := by apply eq_false; omega
  refine hQ _ ⟨?_, ?_, ?_⟩ (by rw [up2_a (by decide), up2_a (by decide)]; exact c0) (by rw [up2_a (by decide), up2_a (by decide)]; exact c1)
  · intro a ha
    have e := s.1 a ha
    by_cases a4 : a = 114
    · subst a4
      funext i
      rw [up2_e]
      split
      · rename_i hh; rw [hh]
      · rename_i n1
        rw [up2_e]
        split
        · rename_i hh; rw [hh]
        · rename_i n2
          rw [e, up2_i n1, up2_i n2]
    · rw [up2_a a4, up2_a a4, e, up2_a a4, up2_a a4]
  · intro i hi
    have := s.2.1 i hi
    rw [up2_a (by decide), up2_a (by decide)] at this
    rw [up2_a (by decide), up2_a (by decide), up2_a (by decide), up2_a (by decide)]; exact this
  · intro i p q t
    have := s.2.2 i p q t
    rw [up2_a (by decide), up2_a (by decide)] at this
    rw [up2_a (by decide), up2_a (by decide)]; exact this
theorem m_isPair {gf : Int32} (D : DD G F W b h r E) : WP (d + 2) 200 0 [some (vr 113), some (vi gf)] [] (mm h j r E) Q = Q (some (vi (b2i (pairP G F gf)))) (mm h j r E) := by
  have hS := D.S
  have hG8 := D.G8
  have hF8 := D.F8
  have t10 : ((10 : Int32) = 0) = False := by simp
  unfold pairP
  by_cases c0 : gf < 0
  · simp only [k200_0, k200_1, k200_4, k200_5, k200_6, k200_8, k200_9, k200_12, k200_15, k200_16, k200_17, k200_19, k200_20, k200_23, k200_26, k200_27, k200_30, k200_31, mm_sI, mm_sJ, mm_sR, mm_cI, mm_cJ, mm_I, mm_J, mm_R, mm_K, mm_N, psh_s, psh_n, z_n, z_i, z_r, z_l, Nat.reduceAdd, Nat.reduceLeDiff, K113 hS, R113_2 hS, R113_3 hS, R113_5 hS, R113_8 hS, R113_9 hS, R113_10 hS, R113_11 hS, R113_16 hS, R113_17 hS, R113_18 hS, R113_19 hS, R113_20 hS, R113_21 hS, R113_22 hS, R113_26 hS, R113_27 hS, R113_30 hS, R113_32 hS, R113_34 hS, R113_35 hS, R113_36 hS, R113_37 hS, R113_40 hS, R113_41 hS, R113_42 hS, R113_43 hS, R113_44 hS, R113_45 hS, R113_47 hS, K114 hS, K115 hS, K116 hS, K117 hS, K118 hS, K119 hS, K120 hS, K121 hS, K122 hS, K123 hS, K124 hS, K125 hS, K126 hS, K127 hS, K128 hS, K129 hS, K130 hS, K131 hS, K132 hS, K133 hS, K134 hS, K135 hS, K136 hS, K137 hS, K138 hS, K139 hS, K140 hS, K141 hS, K142 hS, N114 hS, N115 hS, N116 hS, N117 hS, N118 hS, N119 hS, N120 hS, N121 hS, N122 hS, N123 hS, N124 hS, N125 hS, N126 hS, N127 hS, N128 hS, N129 hS, N130 hS, N131 hS, N132 hS, N133 hS, N134 hS, N135 hS, N136 hS, N137 hS, N138 hS, N139 hS, N140 hS, N141 hS, N142 hS, ne_eq, true_or, or_true, not_false_eq_true, Nat.reduceEqDiff, Nat.reduceLT, Nat.reduceLeDiff, Nat.reduceAdd, c0, if_true, Int32.not_le.2 c0, false_and, b2i_f not_false, or_true, true_or]
  · simp only [k200_0, k200_1, k200_4, k200_5, k200_6, k200_8, k200_9, k200_12, k200_15, k200_16, k200_17, k200_19, k200_20, k200_23, k200_26, k200_27, k200_30, k200_31, mm_sI, mm_sJ, mm_sR, mm_cI, mm_cJ, mm_I, mm_J, mm_R, mm_K, mm_N, psh_s, psh_n, z_n, z_i, z_r, z_l, Nat.reduceAdd, Nat.reduceLeDiff, K113 hS, R113_2 hS, R113_3 hS, R113_5 hS, R113_8 hS, R113_9 hS, R113_10 hS, R113_11 hS, R113_16 hS, R113_17 hS, R113_18 hS, R113_19 hS, R113_20 hS, R113_21 hS, R113_22 hS, R113_26 hS, R113_27 hS, R113_30 hS, R113_32 hS, R113_34 hS, R113_35 hS, R113_36 hS, R113_37 hS, R113_40 hS, R113_41 hS, R113_42 hS, R113_43 hS, R113_44 hS, R113_45 hS, R113_47 hS, K114 hS, K115 hS, K116 hS, K117 hS, K118 hS, K119 hS, K120 hS, K121 hS, K122 hS, K123 hS, K124 hS, K125 hS, K126 hS, K127 hS, K128 hS, K129 hS, K130 hS, K131 hS, K132 hS, K133 hS, K134 hS, K135 hS, K136 hS, K137 hS, K138 hS, K139 hS, K140 hS, K141 hS, K142 hS, N114 hS, N115 hS, N116 hS, N117 hS, N118 hS, N119 hS, N120 hS, N121 hS, N122 hS, N123 hS, N124 hS, N125 hS, N126 hS, N127 hS, N128 hS, N129 hS, N130 hS, N131 hS, N132 hS, N133 hS, N134 hS, N135 hS, N136 hS, N137 hS, N138 hS, N139 hS, N140 hS, N141 hS, N142 hS, ne_eq, true_or, or_true, not_false_eq_true, Nat.reduceEqDiff, Nat.reduceLT, Nat.reduceLeDiff, Nat.reduceAdd, c0, if_false, Int32.not_lt.1 c0, true_and, t10, m_isGirl D.eG hS hG8, m_isFrog D.eF hS hF8, b2i_0]
    by_cases c1 : inb (gf / 10) G
    case neg => simp only [eq_false c1, not_false_eq_true, if_true, false_and, b2i_f not_false, or_true, true_or]
    by_cases c2 : inb (gf % 10) F
    case neg => simp only [eq_true c1, eq_false c2, not_false_eq_true, not_true_eq_false, if_true, if_false, and_false, b2i_f not_false, or_true, true_or]
    simp only [eq_true c1, eq_true c2, not_true_eq_false, if_false, and_true, b2i_t trivial, or_true, true_or]
theorem m_loan {gf x what : Int32} (D : DD G F W b h r E) (hQ : ∀ h', Scr h h' → Q (some (vi (loanA G F W b gf x what))) (mm h' j r E)) :
    WP (d + 8) 201 0 [some (vr 113), some (vi gf), some (vi x), some (vi what)] [] (mm h j r E) Q := by
  have hS := D.S
  have h4 : b2i (0 ≤ what ∧ what ≤ 1) = b2i (inb what 2) := in_lit rfl (by decide)
  have hr := hQ h Scr.rf
  have t10 : ((10 : Int32) = 0) = False := by simp
  unfold loanA at hQ hr
  simp only [k201_0, k201_1, k201_2, k201_5, k201_8, k201_9, k201_10, k201_12, k201_15, k201_18, k201_19, k201_20, k201_21, k201_24, k201_27, k201_28, k201_29, k201_30, k201_31, k201_33, k201_34, k201_35, k201_37, k201_38, k201_39, k201_42, k201_43, k201_46, k201_47, k201_48, mm_sI, mm_sJ, mm_sR, mm_cI, mm_cJ, mm_I, mm_J, mm_R, mm_K, mm_N, psh_s, psh_n, z_n, z_i, z_r, z_l, Nat.reduceAdd, Nat.reduceLeDiff, K113 hS, R113_2 hS, R113_3 hS, R113_5 hS, R113_8 hS, R113_9 hS, R113_10 hS, R113_11 hS, R113_16 hS, R113_17 hS, R113_18 hS, R113_19 hS, R113_20 hS, R113_21 hS, R113_22 hS, R113_26 hS, R113_27 hS, R113_30 hS, R113_32 hS, R113_34 hS, R113_35 hS, R113_36 hS, R113_37 hS, R113_40 hS, R113_41 hS, R113_42 hS, R113_43 hS, R113_44 hS, R113_45 hS, R113_47 hS, K114 hS, K115 hS, K116 hS, K117 hS, K118 hS, K119 hS, K120 hS, K121 hS, K122 hS, K123 hS, K124 hS, K125 hS, K126 hS, K127 hS, K128 hS, K129 hS, K130 hS, K131 hS, K132 hS, K133 hS, K134 hS, K135 hS, K136 hS, K137 hS, K138 hS, K139 hS, K140 hS, K141 hS, K142 hS, N114 hS, N115 hS, N116 hS, N117 hS, N118 hS, N119 hS, N120 hS, N121 hS, N122 hS, N123 hS, N124 hS, N125 hS, N126 hS, N127 hS, N128 hS, N129 hS, N130 hS, N131 hS, N132 hS, N133 hS, N134 hS, N135 hS, N136 hS, N137 hS, N138 hS, N139 hS, N140 hS, N141 hS, N142 hS, ne_eq, true_or, or_true, not_false_eq_true, Nat.reduceEqDiff, Nat.reduceLT, Nat.reduceLeDiff, Nat.reduceAdd, s_within', m_isPair D, h4, b2i_0, t10]
  by_cases c1 : pairP G F gf
  case neg => simp only [eq_false c1, not_false_eq_true, if_true, false_and, if_false] at hr ⊢; exact hr
  by_cases c2 : 1 ≤ x ∧ x ≤ 99
  case neg => simp only [eq_false c2, not_false_eq_true, if_true, false_and, and_false, if_false, eq_true c1, not_true_eq_false] at hr ⊢; exact hr
  by_cases c3 : inb what 2
  case neg => simp only [eq_false c3, not_false_eq_true, if_true, false_and, and_false, if_false, eq_true c1, eq_true c2, not_true_eq_false] at hr ⊢; exact hr
  simp only [eq_true c1, eq_true c2, eq_true c3, and_true, not_true_eq_false, if_false, if_true] at hQ ⊢
  obtain ⟨f, hf, ef, hf2⟩ := inb_of c1.2.2
  obtain ⟨w, hw, rfl, _⟩ := inb_of c3
  simp only [ef, ix_n hf2] at hQ ⊢
  refine m_lent D hf c1.2.1 (in_1_99 c2) ?_
  intro h' s e0 e1
  have hQ := hQ h' s
  match w, hw with
  | 0, _ =>
    simp only [nn0, if_true] at hQ
    simp only [k201_0, k201_1, k201_2, k201_5, k201_8, k201_9, k201_10, k201_12, k201_15, k201_18, k201_19, k201_20, k201_21, k201_24, k201_27, k201_28, k201_29, k201_30, k201_31, k201_33, k201_34, k201_35, k201_37, k201_38, k201_39, k201_42, k201_43, k201_46, k201_47, k201_48, mm_sI, mm_sJ, mm_sR, mm_cI, mm_cJ, mm_I, mm_J, mm_R, mm_K, mm_N, psh_s, psh_n, z_n, z_i, z_r, z_l, Nat.reduceAdd, Nat.reduceLeDiff, K113 hS, R113_2 hS, R113_3 hS, R113_5 hS, R113_8 hS, R113_9 hS, R113_10 hS, R113_11 hS, R113_16 hS, R113_17 hS, R113_18 hS, R113_19 hS, R113_20 hS, R113_21 hS, R113_22 hS, R113_26 hS, R113_27 hS, R113_30 hS, R113_32 hS, R113_34 hS, R113_35 hS, R113_36 hS, R113_37 hS, R113_40 hS, R113_41 hS, R113_42 hS, R113_43 hS, R113_44 hS, R113_45 hS, R113_47 hS, K114 hS, K115 hS, K116 hS, K117 hS, K118 hS, K119 hS, K120 hS, K121 hS, K122 hS, K123 hS, K124 hS, K125 hS, K126 hS, K127 hS, K128 hS, K129 hS, K130 hS, K131 hS, K132 hS, K133 hS, K134 hS, K135 hS, K136 hS, K137 hS, K138 hS, K139 hS, K140 hS, K141 hS, K142 hS, N114 hS, N115 hS, N116 hS, N117 hS, N118 hS, N119 hS, N120 hS, N121 hS, N122 hS, N123 hS, N124 hS, N125 hS, N126 hS, N127 hS, N128 hS, N129 hS, N130 hS, N131 hS, N132 hS, N133 hS, N134 hS, N135 hS, N136 hS, N137 hS, N138 hS, N139 hS, N140 hS, N141 hS, N142 hS, inb_c0, ix_c0, inb_c1, ix_c1, inb_c2, ix_c2, inb_c3, ix_c3, inb_c4, ix_c4, inb_c5, ix_c5, inb_c6, ix_c6, inb_c7, ix_c7, inb_c8, ix_c8, inb_c32, ix_c32, ne_eq, true_or, or_true, not_false_eq_true, Nat.reduceEqDiff, Nat.reduceLT, Nat.reduceLeDiff, Nat.reduceAdd, nn0, e0]
    exact hQ
  | 1, _ =>
    simp only [nn1, e10, if_false] at hQ
    simp only [k201_0, k201_1, k201_2, k201_5, k201_8, k201_9, k201_10, k201_12, k201_15, k201_18, k201_19, k201_20, k201_21, k201_24, k201_27, k201_28, k201_29, k201_30, k201_31, k201_33, k201_34, k201_35, k201_37, k201_38, k201_39, k201_42, k201_43, k201_46, k201_47, k201_48, mm_sI, mm_sJ, mm_sR, mm_cI, mm_cJ, mm_I, mm_J, mm_R, mm_K, mm_N, psh_s, psh_n, z_n, z_i, z_r, z_l, Nat.reduceAdd, Nat.reduceLeDiff, K113 hS, R113_2 hS, R113_3 hS, R113_5 hS, R113_8 hS, R113_9 hS, R113_10 hS, R113_11 hS, R113_16 hS, R113_17 hS, R113_18 hS, R113_19 hS, R113_20 hS, R113_21 hS, R113_22 hS, R113_26 hS, R113_27 hS, R113_30 hS, R113_32 hS, R113_34 hS, R113_35 hS, R113_36 hS, R113_37 hS, R113_40 hS, R113_41 hS, R113_42 hS, R113_43 hS, R113_44 hS, R113_45 hS, R113_47 hS, K114 hS, K115 hS, K116 hS, K117 hS, K118 hS, K119 hS, K120 hS, K121 hS, K122 hS, K123 hS, K124 hS, K125 hS, K126 hS, K127 hS, K128 hS, K129 hS, K130 hS, K131 hS, K132 hS, K133 hS, K134 hS, K135 hS, K136 hS, K137 hS, K138 hS, K139 hS, K140 hS, K141 hS, K142 hS, N114 hS, N115 hS, N116 hS, N117 hS, N118 hS, N119 hS, N120 hS, N121 hS, N122 hS, N123 hS, N124 hS, N125 hS, N126 hS, N127 hS, N128 hS, N129 hS, N130 hS, N131 hS, N132 hS, N133 hS, N134 hS, N135 hS, N136 hS, N137 hS, N138 hS, N139 hS, N140 hS, N141 hS, N142 hS, inb_c0, ix_c0, inb_c1, ix_c1, inb_c2, ix_c2, inb_c3, ix_c3, inb_c4, ix_c4, inb_c5, ix_c5, inb_c6, ix_c6, inb_c7, ix_c7, inb_c8, ix_c8, inb_c32, ix_c32, ne_eq, true_or, or_true, not_false_eq_true, Nat.reduceEqDiff, Nat.reduceLT, Nat.reduceLeDiff, Nat.reduceAdd, nn1, e1]
    exact hQ
  | w + 2, hw => omega
theorem m_bsL {g x : Int32} {what : Option PV} (D : DD G F W b h0 r E) (hg : inb g G) (hx : inb x 100) : ∀ {k f : Nat} {p q : Int32} {h : Hp}, f + k = F → Scr h0 h → (∀ h', Scr h0 h' → WP (d + 8) 202 89 [some (vr 113), some (vi g), some (vi x), what, some (vi (bsL W b g x f k (p, q)).1), some (vi (bsL W b g x f k (p, q)).2), some (vi (nI F))] [] (mm h' j r E) Q) →
    WP (d + 8) 202 40 [some (vr 113), some (vi g), some (vi x), what, some (vi p), some (vi q), some (vi (nI f))] [] (mm h j r E) Q := by
  have hF8 := D.F8
  have hS := D.S
  intro k
  induction k with
  | zero =>
    intro f p q h hk s hQ
    have : f = F := by omega
    subst this
    have hF := (D.sc s).eF
    rw [k202_40]
    simp only [k202_0, k202_1, k202_2, k202_5, k202_8, k202_9, k202_10, k202_12, k202_15, k202_18, k202_19, k202_20, k202_21, k202_24, k202_27, k202_28, k202_29, k202_31, k202_33, k202_35, k202_37, k202_38, k202_42, k202_43, k202_46, k202_49, k202_50, k202_51, k202_53, k202_54, k202_57, k202_58, k202_61, k202_62, k202_63, k202_65, k202_68, k202_71, k202_72, k202_75, k202_76, k202_77, k202_79, k202_81, k202_83, k202_86, k202_90, k202_93, k202_95, k202_98, k202_100, mm_sI, mm_sJ, mm_sR, mm_cI, mm_cJ, mm_I, mm_J, mm_R, mm_K, mm_N, psh_s, psh_n, z_n, z_i, z_r, z_l, Nat.reduceAdd, Nat.reduceLeDiff, K113 hS, R113_2 hS, R113_3 hS, R113_5 hS, R113_8 hS, R113_9 hS, R113_10 hS, R113_11 hS, R113_16 hS, R113_17 hS, R113_18 hS, R113_19 hS, R113_20 hS, R113_21 hS, R113_22 hS, R113_26 hS, R113_27 hS, R113_30 hS, R113_32 hS, R113_34 hS, R113_35 hS, R113_36 hS, R113_37 hS, R113_40 hS, R113_41 hS, R113_42 hS, R113_43 hS, R113_44 hS, R113_45 hS, R113_47 hS, K114 hS, K115 hS, K116 hS, K117 hS, K118 hS, K119 hS, K120 hS, K121 hS, K122 hS, K123 hS, K124 hS, K125 hS, K126 hS, K127 hS, K128 hS, K129 hS, K130 hS, K131 hS, K132 hS, K133 hS, K134 hS, K135 hS, K136 hS, K137 hS, K138 hS, K139 hS, K140 hS, K141 hS, K142 hS, N114 hS, N115 hS, N116 hS, N117 hS, N118 hS, N119 hS, N120 hS, N121 hS, N122 hS, N123 hS, N124 hS, N125 hS, N126 hS, N127 hS, N128 hS, N129 hS, N130 hS, N131 hS, N132 hS, N133 hS, N134 hS, N135 hS, N136 hS, N137 hS, N138 hS, N139 hS, N140 hS, N141 hS, N142 hS, ne_eq, true_or, or_true, not_false_eq_true, Nat.reduceEqDiff, Nat.reduceLT, Nat.reduceLeDiff, Nat.reduceAdd, hF, Int32.le_refl, if_true]
    exact hQ h s
  | succ k ih =>
    intro f p q h hk s hQ
    have hF := (D.sc s).eF
    have hfF : f < F := by omega
    rw [k202_40]
    simp only [k202_0, k202_1, k202_2, k202_5, k202_8, k202_9, k202_10, k202_12, k202_15, k202_18, k202_19, k202_20, k202_21, k202_24, k202_27, k202_28, k202_29, k202_31, k202_33, k202_35, k202_37, k202_38, k202_42, k202_43, k202_46, k202_49, k202_50, k202_51, k202_53, k202_54, k202_57, k202_58, k202_61, k202_62, k202_63, k202_65, k202_68, k202_71, k202_72, k202_75, k202_76, k202_77, k202_79, k202_81, k202_83, k202_86, k202_89, k202_90, k202_93, k202_95, k202_98, k202_100, mm_sI, mm_sJ, mm_sR, mm_cI, mm_cJ, mm_I, mm_J, mm_R, mm_K, mm_N, psh_s, psh_n, z_n, z_i, z_r, z_l, Nat.reduceAdd, Nat.reduceLeDiff, K113 hS, R113_2 hS, R113_3 hS, R113_5 hS, R113_8 hS, R113_9 hS, R113_10 hS, R113_11 hS, R113_16 hS, R113_17 hS, R113_18 hS, R113_19 hS, R113_20 hS, R113_21 hS, R113_22 hS, R113_26 hS, R113_27 hS, R113_30 hS, R113_32 hS, R113_34 hS, R113_35 hS, R113_36 hS, R113_37 hS, R113_40 hS, R113_41 hS, R113_42 hS, R113_43 hS, R113_44 hS, R113_45 hS, R113_47 hS, K114 hS, K115 hS, K116 hS, K117 hS, K118 hS, K119 hS, K120 hS, K121 hS, K122 hS, K123 hS, K124 hS, K125 hS, K126 hS, K127 hS, K128 hS, K129 hS, K130 hS, K131 hS, K132 hS, K133 hS, K134 hS, K135 hS, K136 hS, K137 hS, K138 hS, K139 hS, K140 hS, K141 hS, K142 hS, N114 hS, N115 hS, N116 hS, N117 hS, N118 hS, N119 hS, N120 hS, N121 hS, N122 hS, N123 hS, N124 hS, N125 hS, N126 hS, N127 hS, N128 hS, N129 hS, N130 hS, N131 hS, N132 hS, N133 hS, N134 hS, N135 hS, N136 hS, N137 hS, N138 hS, N139 hS, N140 hS, N141 hS, N142 hS, ne_eq, true_or, or_true, not_false_eq_true, Nat.reduceEqDiff, Nat.reduceLT, Nat.reduceLeDiff, Nat.reduceAdd, hF, nLe (show F < 2 ^ 31 by omega) (show f < 2 ^ 31 by omega), show ¬ F ≤ f by omega, if_false]
    refine m_lent (D.sc s) hfF hg hx ?_
    intro h' s2 e0 _
    simp only [k202_0, k202_1, k202_2, k202_5, k202_8, k202_9, k202_10, k202_12, k202_15, k202_18, k202_19, k202_20, k202_21, k202_24, k202_27, k202_28, k202_29, k202_31, k202_33, k202_35, k202_37, k202_38, k202_42, k202_43, k202_46, k202_49, k202_50, k202_51, k202_53, k202_54, k202_57, k202_58, k202_61, k202_62, k202_63, k202_65, k202_68, k202_71, k202_72, k202_75, k202_76, k202_77, k202_79, k202_81, k202_83, k202_86, k202_89, k202_90, k202_93, k202_95, k202_98, k202_100, mm_sI, mm_sJ, mm_sR, mm_cI, mm_cJ, mm_I, mm_J, mm_R, mm_K, mm_N, psh_s, psh_n, z_n, z_i, z_r, z_l, Nat.reduceAdd, Nat.reduceLeDiff, K113 hS, R113_2 hS, R113_3 hS, R113_5 hS, R113_8 hS, R113_9 hS, R113_10 hS, R113_11 hS, R113_16 hS, R113_17 hS, R113_18 hS, R113_19 hS, R113_20 hS, R113_21 hS, R113_22 hS, R113_26 hS, R113_27 hS, R113_30 hS, R113_32 hS, R113_34 hS, R113_35 hS, R113_36 hS, R113_37 hS, R113_40 hS, R113_41 hS, R113_42 hS, R113_43 hS, R113_44 hS, R113_45 hS, R113_47 hS, K114 hS, K115 hS, K116 hS, K117 hS, K118 hS, K119 hS, K120 hS, K121 hS, K122 hS, K123 hS, K124 hS, K125 hS, K126 hS, K127 hS, K128 hS, K129 hS, K130 hS, K131 hS, K132 hS, K133 hS, K134 hS, K135 hS, K136 hS, K137 hS, K138 hS, K139 hS, K140 hS, K141 hS, K142 hS, N114 hS, N115 hS, N116 hS, N117 hS, N118 hS, N119 hS, N120 hS, N121 hS, N122 hS, N123 hS, N124 hS, N125 hS, N126 hS, N127 hS, N128 hS, N129 hS, N130 hS, N131 hS, N132 hS, N133 hS, N134 hS, N135 hS, N136 hS, N137 hS, N138 hS, N139 hS, N140 hS, N141 hS, N142 hS, inb_c0, ix_c0, inb_c1, ix_c1, inb_c2, ix_c2, inb_c3, ix_c3, inb_c4, ix_c4, inb_c5, ix_c5, inb_c6, ix_c6, inb_c7, ix_c7, inb_c8, ix_c8, inb_c32, ix_c32, ne_eq, true_or, or_true, not_false_eq_true, Nat.reduceEqDiff, Nat.reduceLT, Nat.reduceLeDiff, Nat.reduceAdd, nS1, e0]
    unfold bsL at hQ
    simp only at hQ
    by_cases c : q < gbA W f 24 (lendB b f g x)
    · simp only [c, if_true, if_false] at hQ ⊢
      exact ih (by omega) (s.tr s2) hQ
    · simp only [c, if_true, if_false] at hQ ⊢
      exact ih (by omega) (s.tr s2) hQ
theorem m_best {g x what : Int32} (D : DD G F W b h r E) (hQ : ∀ h', Scr h h' → Q (some (vi (bestA G F W b g x what))) (mm h' j r E)) :
    WP (d + 8) 202 0 [some (vr 113), some (vi g), some (vi x), some (vi what), none, none, none] [] (mm h j r E) Q := by
  have hS := D.S
  have hG8 := D.G8
  have h4 : b2i (0 ≤ what ∧ what ≤ 1) = b2i (inb what 2) := in_lit rfl (by decide)
  have hr := hQ h Scr.rf
  unfold bestA at hQ hr
  simp only [k202_0, k202_1, k202_2, k202_5, k202_8, k202_9, k202_10, k202_12, k202_15, k202_18, k202_19, k202_20, k202_21, k202_24, k202_27, k202_28, k202_29, k202_31, k202_33, k202_35, k202_37, k202_38, k202_42, k202_43, k202_46, k202_49, k202_50, k202_51, k202_53, k202_54, k202_57, k202_58, k202_61, k202_62, k202_63, k202_65, k202_68, k202_71, k202_72, k202_75, k202_76, k202_77, k202_79, k202_81, k202_83, k202_86, k202_89, k202_90, k202_93, k202_95, k202_98, k202_100, mm_sI, mm_sJ, mm_sR, mm_cI, mm_cJ, mm_I, mm_J, mm_R, mm_K, mm_N, psh_s, psh_n, z_n, z_i, z_r, z_l, Nat.reduceAdd, Nat.reduceLeDiff, K113 hS, R113_2 hS, R113_3 hS, R113_5 hS, R113_8 hS, R113_9 hS, R113_10 hS, R113_11 hS, R113_16 hS, R113_17 hS, R113_18 hS, R113_19 hS, R113_20 hS, R113_21 hS, R113_22 hS, R113_26 hS, R113_27 hS, R113_30 hS, R113_32 hS, R113_34 hS, R113_35 hS, R113_36 hS, R113_37 hS, R113_40 hS, R113_41 hS, R113_42 hS, R113_43 hS, R113_44 hS, R113_45 hS, R113_47 hS, K114 hS, K115 hS, K116 hS, K117 hS, K118 hS, K119 hS, K120 hS, K121 hS, K122 hS, K123 hS, K124 hS, K125 hS, K126 hS, K127 hS, K128 hS, K129 hS, K130 hS, K131 hS, K132 hS, K133 hS, K134 hS, K135 hS, K136 hS, K137 hS, K138 hS, K139 hS, K140 hS, K141 hS, K142 hS, N114 hS, N115 hS, N116 hS, N117 hS, N118 hS, N119 hS, N120 hS, N121 hS, N122 hS, N123 hS, N124 hS, N125 hS, N126 hS, N127 hS, N128 hS, N129 hS, N130 hS, N131 hS, N132 hS, N133 hS, N134 hS, N135 hS, N136 hS, N137 hS, N138 hS, N139 hS, N140 hS, N141 hS, N142 hS, ne_eq, true_or, or_true, not_false_eq_true, Nat.reduceEqDiff, Nat.reduceLT, Nat.reduceLeDiff, Nat.reduceAdd, s_within', m_isGirl D.eG hS hG8, h4, b2i_0]
  by_cases c1 : inb g G
  case neg => simp only [eq_false c1, not_false_eq_true, if_true, false_and, if_false] at hr ⊢; exact hr
  by_cases c2 : 1 ≤ x ∧ x ≤ 99
  case neg => simp only [eq_false c2, not_false_eq_true, if_true, false_and, and_false, if_false, eq_true c1, not_true_eq_false] at hr ⊢; exact hr
  by_cases c3 : inb what 2
  case neg => simp only [eq_false c3, not_false_eq_true, if_true, false_and, and_false, if_false, eq_true c1, eq_true c2, not_true_eq_false] at hr ⊢; exact hr
  simp only [eq_true c1, eq_true c2, eq_true c3, and_true, not_true_eq_false, if_false, if_true] at hQ ⊢
  refine m_bsL D c1 (in_1_99 c2) (f := 0) (k := F) (by omega) Scr.rf ?_
  intro h' s
  have hQ := hQ h' s
  by_cases c : what = 0
  · simp only [c, if_true] at hQ
    simp only [k202_0, k202_1, k202_2, k202_5, k202_8, k202_9, k202_10, k202_12, k202_15, k202_18, k202_19, k202_20, k202_21, k202_24, k202_27, k202_28, k202_29, k202_31, k202_33, k202_35, k202_37, k202_38, k202_42, k202_43, k202_46, k202_49, k202_50, k202_51, k202_53, k202_54, k202_57, k202_58, k202_61, k202_62, k202_63, k202_65, k202_68, k202_71, k202_72, k202_75, k202_76, k202_77, k202_79, k202_81, k202_83, k202_86, k202_89, k202_90, k202_93, k202_95, k202_98, k202_100, mm_sI, mm_sJ, mm_sR, mm_cI, mm_cJ, mm_I, mm_J, mm_R, mm_K, mm_N, psh_s, psh_n, z_n, z_i, z_r, z_l, Nat.reduceAdd, Nat.reduceLeDiff, c, if_true]
    exact hQ
  · simp only [c, if_false] at hQ
    simp only [k202_0, k202_1, k202_2, k202_5, k202_8, k202_9, k202_10, k202_12, k202_15, k202_18, k202_19, k202_20, k202_21, k202_24, k202_27, k202_28, k202_29, k202_31, k202_33, k202_35, k202_37, k202_38, k202_42, k202_43, k202_46, k202_49, k202_50, k202_51, k202_53, k202_54, k202_57, k202_58, k202_61, k202_62, k202_63, k202_65, k202_68, k202_71, k202_72, k202_75, k202_76, k202_77, k202_79, k202_81, k202_83, k202_86, k202_89, k202_90, k202_93, k202_95, k202_98, k202_100, mm_sI, mm_sJ, mm_sR, mm_cI, mm_cJ, mm_I, mm_J, mm_R, mm_K, mm_N, psh_s, psh_n, z_n, z_i, z_r, z_l, Nat.reduceAdd, Nat.reduceLeDiff, c, if_false]
    exact hQ
theorem m_hbL {gf x : Option PV} {f : Nat} (hf : f < F) : ∀ {k i N : Nat} {bt : BB} {h : Hp}, N ≤ 40 → i + k = N → RR G F W 136 h0 bt h r E → (∀ h', Scr h0 h' → Q (some (vi (itOne W f k bt 5 f))) (mm h' j r E)) →
    WP (d + 6) 205 42 [some (vr 113), gf, x, some (vi (nI N)), some (vi (nI f)), some (vi (nI i))] [] (mm h j r E) Q := by
  have h120 : ((12 : Int32) = 0) = False := by simp
  have fin : ∀ (N : Nat) (bt : BB) (h : Hp) (e : Option PV), RR G F W 136 h0 bt h r E → (∀ h', Scr h0 h' → Q (some (vi (bt 5 f))) (mm h' j r E)) → WP (d + 6) 205 87 [some (vr 113), gf, x, some (vi (nI N)), some (vi (nI f)), e] [] (mm h j r E) Q := by
    intro N bt h e R hQ
    have hS := R.D.S
    have hF8 := R.D.F8
    simp only [k205_0, k205_1, k205_3, k205_4, k205_6, k205_7, k205_8, k205_11, k205_14, k205_15, k205_18, k205_20, k205_22, k205_23, k205_24, k205_26, k205_27, k205_28, k205_29, k205_32, k205_34, k205_36, k205_37, k205_38, k205_39, k205_40, k205_44, k205_45, k205_48, k205_49, k205_51, k205_54, k205_55, k205_58, k205_59, k205_61, k205_64, k205_65, k205_68, k205_69, k205_70, k205_73, k205_74, k205_75, k205_76, k205_77, k205_79, k205_80, k205_81, k205_84, k205_87, k205_88, k205_90, k205_93, k205_95, k205_96, k205_99, k205_101, mm_sI, mm_sJ, mm_sR, mm_cI, mm_cJ, mm_I, mm_J, mm_R, mm_K, mm_N, psh_s, psh_n, z_n, z_i, z_r, z_l, Nat.reduceAdd, Nat.reduceLeDiff, K113 hS, R113_2 hS, R113_3 hS, R113_5 hS, R113_8 hS, R113_9 hS, R113_10 hS, R113_11 hS, R113_16 hS, R113_17 hS, R113_18 hS, R113_19 hS, R113_20 hS, R113_21 hS, R113_22 hS, R113_26 hS, R113_27 hS, R113_30 hS, R113_32 hS, R113_34 hS, R113_35 hS, R113_36 hS, R113_37 hS, R113_40 hS, R113_41 hS, R113_42 hS, R113_43 hS, R113_44 hS, R113_45 hS, R113_47 hS, K114 hS, K115 hS, K116 hS, K117 hS, K118 hS, K119 hS, K120 hS, K121 hS, K122 hS, K123 hS, K124 hS, K125 hS, K126 hS, K127 hS, K128 hS, K129 hS, K130 hS, K131 hS, K132 hS, K133 hS, K134 hS, K135 hS, K136 hS, K137 hS, K138 hS, K139 hS, K140 hS, K141 hS, K142 hS, N114 hS, N115 hS, N116 hS, N117 hS, N118 hS, N119 hS, N120 hS, N121 hS, N122 hS, N123 hS, N124 hS, N125 hS, N126 hS, N127 hS, N128 hS, N129 hS, N130 hS, N131 hS, N132 hS, N133 hS, N134 hS, N135 hS, N136 hS, N137 hS, N138 hS, N139 hS, N140 hS, N141 hS, N142 hS, ne_eq, true_or, or_true, not_false_eq_true, Nat.reduceEqDiff, Nat.reduceLT, Nat.reduceLeDiff, Nat.reduceAdd, m_held hS (show f < 8 by omega), R.D.v5 hf]
    refine WP.deep (d := d + 5) ?_ (by omega)
    refine r_laysW hS R ?_
    intro h' s _
    simp only [k205_0, k205_1, k205_3, k205_4, k205_6, k205_7, k205_8, k205_11, k205_14, k205_15, k205_18, k205_20, k205_22, k205_23, k205_24, k205_26, k205_27, k205_28, k205_29, k205_32, k205_34, k205_36, k205_37, k205_38, k205_39, k205_40, k205_44, k205_45, k205_48, k205_49, k205_51, k205_54, k205_55, k205_58, k205_59, k205_61, k205_64, k205_65, k205_68, k205_69, k205_70, k205_73, k205_74, k205_75, k205_76, k205_77, k205_79, k205_80, k205_81, k205_84, k205_87, k205_88, k205_90, k205_93, k205_95, k205_96, k205_99, k205_101, mm_sI, mm_sJ, mm_sR, mm_cI, mm_cJ, mm_I, mm_J, mm_R, mm_K, mm_N, psh_s, psh_n, z_n, z_i, z_r, z_l, Nat.reduceAdd, Nat.reduceLeDiff]
    exact hQ h' s
  intro k
  induction k with
  | zero =>
    intro i N bt h hN hk R hQ
    have : i = N := by omega
    subst this
    rw [k205_42]
    simp only [k205_0, k205_1, k205_3, k205_4, k205_6, k205_7, k205_8, k205_11, k205_14, k205_15, k205_18, k205_20, k205_22, k205_23, k205_24, k205_26, k205_27, k205_28, k205_29, k205_32, k205_34, k205_36, k205_37, k205_38, k205_39, k205_40, k205_44, k205_45, k205_48, k205_49, k205_51, k205_54, k205_55, k205_58, k205_59, k205_61, k205_64, k205_65, k205_68, k205_69, k205_70, k205_73, k205_74, k205_75, k205_76, k205_77, k205_79, k205_80, k205_81, k205_84, k205_88, k205_90, k205_93, k205_95, k205_96, k205_99, k205_101, mm_sI, mm_sJ, mm_sR, mm_cI, mm_cJ, mm_I, mm_J, mm_R, mm_K, mm_N, psh_s, psh_n, z_n, z_i, z_r, z_l, Nat.reduceAdd, Nat.reduceLeDiff, ne_eq, true_or, or_true, not_false_eq_true, Nat.reduceEqDiff, Nat.reduceLT, Nat.reduceLeDiff, Nat.reduceAdd, Int32.le_refl, if_true]
    exact fin i bt h _ R hQ
  | succ k ih =>
    intro i N bt h hN hk R hQ
    have hS := R.D.S
    have hF8 := R.D.F8
    have hf8 : f < 8 := by omega
    rw [k205_42]
    simp only [k205_0, k205_1, k205_3, k205_4, k205_6, k205_7, k205_8, k205_11, k205_14, k205_15, k205_18, k205_20, k205_22, k205_23, k205_24, k205_26, k205_27, k205_28, k205_29, k205_32, k205_34, k205_36, k205_37, k205_38, k205_39, k205_40, k205_44, k205_45, k205_48, k205_49, k205_51, k205_54, k205_55, k205_58, k205_59, k205_61, k205_64, k205_65, k205_68, k205_69, k205_70, k205_73, k205_74, k205_75, k205_76, k205_77, k205_79, k205_80, k205_81, k205_84, k205_88, k205_90, k205_93, k205_95, k205_96, k205_99, k205_101, mm_sI, mm_sJ, mm_sR, mm_cI, mm_cJ, mm_I, mm_J, mm_R, mm_K, mm_N, psh_s, psh_n, z_n, z_i, z_r, z_l, Nat.reduceAdd, Nat.reduceLeDiff, K113 hS, R113_2 hS, R113_3 hS, R113_5 hS, R113_8 hS, R113_9 hS, R113_10 hS, R113_11 hS, R113_16 hS, R113_17 hS, R113_18 hS, R113_19 hS, R113_20 hS, R113_21 hS, R113_22 hS, R113_26 hS, R113_27 hS, R113_30 hS, R113_32 hS, R113_34 hS, R113_35 hS, R113_36 hS, R113_37 hS, R113_40 hS, R113_41 hS, R113_42 hS, R113_43 hS, R113_44 hS, R113_45 hS, R113_47 hS, K114 hS, K115 hS, K116 hS, K117 hS, K118 hS, K119 hS, K120 hS, K121 hS, K122 hS, K123 hS, K124 hS, K125 hS, K126 hS, K127 hS, K128 hS, K129 hS, K130 hS, K131 hS, K132 hS, K133 hS, K134 hS, K135 hS, K136 hS, K137 hS, K138 hS, K139 hS, K140 hS, K141 hS, K142 hS, N114 hS, N115 hS, N116 hS, N117 hS, N118 hS, N119 hS, N120 hS, N121 hS, N122 hS, N123 hS, N124 hS, N125 hS, N126 hS, N127 hS, N128 hS, N129 hS, N130 hS, N131 hS, N132 hS, N133 hS, N134 hS, N135 hS, N136 hS, N137 hS, N138 hS, N139 hS, N140 hS, N141 hS, N142 hS, ne_eq, true_or, or_true, not_false_eq_true, Nat.reduceEqDiff, Nat.reduceLT, Nat.reduceLeDiff, Nat.reduceAdd, nLe (show N < 2 ^ 31 by omega) (show i < 2 ^ 31 by omega), show ¬ N ≤ i by omega, if_false, m_owes hS hf8, R.D.v4 hf]
    by_cases c : bt 4 f = -1
    · simp only [c, if_true]
      rw [it_no c] at hQ
      exact fin N bt h _ R hQ
    · simp only [c, if_false]
      refine m_goes R.D hf c ?_
      intro h1 fr D1 _ _ _
      obtain ⟨fr2, D2⟩ := m_one D1
      have R2 := (R.fr (Or.inl rfl) fr D1).fr (Or.inl rfl) fr2 D2
      simp only [k205_0, k205_1, k205_3, k205_4, k205_6, k205_7, k205_8, k205_11, k205_14, k205_15, k205_18, k205_20, k205_22, k205_23, k205_24, k205_26, k205_27, k205_28, k205_29, k205_32, k205_34, k205_36, k205_37, k205_38, k205_39, k205_40, k205_44, k205_45, k205_48, k205_49, k205_51, k205_54, k205_55, k205_58, k205_59, k205_61, k205_64, k205_65, k205_68, k205_69, k205_70, k205_73, k205_74, k205_75, k205_76, k205_77, k205_79, k205_80, k205_81, k205_84, k205_88, k205_90, k205_93, k205_95, k205_96, k205_99, k205_101, mm_sI, mm_sJ, mm_sR, mm_cI, mm_cJ, mm_I, mm_J, mm_R, mm_K, mm_N, psh_s, psh_n, z_n, z_i, z_r, z_l, Nat.reduceAdd, Nat.reduceLeDiff, K113 hS, R113_2 hS, R113_3 hS, R113_5 hS, R113_8 hS, R113_9 hS, R113_10 hS, R113_11 hS, R113_16 hS, R113_17 hS, R113_18 hS, R113_19 hS, R113_20 hS, R113_21 hS, R113_22 hS, R113_26 hS, R113_27 hS, R113_30 hS, R113_32 hS, R113_34 hS, R113_35 hS, R113_36 hS, R113_37 hS, R113_40 hS, R113_41 hS, R113_42 hS, R113_43 hS, R113_44 hS, R113_45 hS, R113_47 hS, K114 hS, K115 hS, K116 hS, K117 hS, K118 hS, K119 hS, K120 hS, K121 hS, K122 hS, K123 hS, K124 hS, K125 hS, K126 hS, K127 hS, K128 hS, K129 hS, K130 hS, K131 hS, K132 hS, K133 hS, K134 hS, K135 hS, K136 hS, K137 hS, K138 hS, K139 hS, K140 hS, K141 hS, K142 hS, N114 hS, N115 hS, N116 hS, N117 hS, N118 hS, N119 hS, N120 hS, N121 hS, N122 hS, N123 hS, N124 hS, N125 hS, N126 hS, N127 hS, N128 hS, N129 hS, N130 hS, N131 hS, N132 hS, N133 hS, N134 hS, N135 hS, N136 hS, N137 hS, N138 hS, N139 hS, N140 hS, N141 hS, N142 hS, inb_c0, ix_c0, inb_c1, ix_c1, inb_c2, ix_c2, inb_c3, ix_c3, inb_c4, ix_c4, inb_c5, ix_c5, inb_c6, ix_c6, inb_c7, ix_c7, inb_c8, ix_c8, inb_c32, ix_c32, ne_eq, true_or, or_true, not_false_eq_true, Nat.reduceEqDiff, Nat.reduceLT, Nat.reduceLeDiff, Nat.reduceAdd, h120, nS1]
      exact ih hN (by omega) R2 hQ
theorem m_heldBehind {gf x : Int32} {f N : Nat} (D : DD G F W b h r E) (hp : pairP G F gf) (hf : f < F) (ef : gf % 10 = nI f) (hx : inb x 100) (hN : N ≤ 40) (hQ : ∀ h', Scr h h' → Q (some (vi (itOne W f N (lendB b f (gf / 10) x) 5 f))) (mm h' j r E)) :
    WP (d + 6) 205 0 [some (vr 113), some (vi gf), some (vi x), some (vi (nI N)), none, none] [] (mm h j r E) Q := by
  have hS := D.S
  have hF8 := D.F8
  have t10 : ((10 : Int32) = 0) = False := by simp
  have hi : ∀ c, c ≤ 40 → inb (nI (c + f)) 48 = True := fun c hc => eq_true (by rw [inb_n (by omega)]; omega)
  have hxx : ∀ c, c ≤ 40 → ix (nI (c + f)) = c + f := fun c hc => ix_n (by omega)
  simp only [k205_0, k205_1, k205_3, k205_4, k205_6, k205_7, k205_8, k205_11, k205_14, k205_15, k205_18, k205_20, k205_22, k205_23, k205_24, k205_26, k205_27, k205_28, k205_29, k205_32, k205_34, k205_36, k205_37, k205_38, k205_39, k205_40, k205_44, k205_45, k205_48, k205_49, k205_51, k205_54, k205_55, k205_58, k205_59, k205_61, k205_64, k205_65, k205_68, k205_69, k205_70, k205_73, k205_74, k205_75, k205_76, k205_77, k205_79, k205_80, k205_81, k205_84, k205_87, k205_88, k205_90, k205_93, k205_95, k205_96, k205_99, k205_101, mm_sI, mm_sJ, mm_sR, mm_cI, mm_cJ, mm_I, mm_J, mm_R, mm_K, mm_N, psh_s, psh_n, z_n, z_i, z_r, z_l, Nat.reduceAdd, Nat.reduceLeDiff, K113 hS, R113_2 hS, R113_3 hS, R113_5 hS, R113_8 hS, R113_9 hS, R113_10 hS, R113_11 hS, R113_16 hS, R113_17 hS, R113_18 hS, R113_19 hS, R113_20 hS, R113_21 hS, R113_22 hS, R113_26 hS, R113_27 hS, R113_30 hS, R113_32 hS, R113_34 hS, R113_35 hS, R113_36 hS, R113_37 hS, R113_40 hS, R113_41 hS, R113_42 hS, R113_43 hS, R113_44 hS, R113_45 hS, R113_47 hS, K114 hS, K115 hS, K116 hS, K117 hS, K118 hS, K119 hS, K120 hS, K121 hS, K122 hS, K123 hS, K124 hS, K125 hS, K126 hS, K127 hS, K128 hS, K129 hS, K130 hS, K131 hS, K132 hS, K133 hS, K134 hS, K135 hS, K136 hS, K137 hS, K138 hS, K139 hS, K140 hS, K141 hS, K142 hS, N114 hS, N115 hS, N116 hS, N117 hS, N118 hS, N119 hS, N120 hS, N121 hS, N122 hS, N123 hS, N124 hS, N125 hS, N126 hS, N127 hS, N128 hS, N129 hS, N130 hS, N131 hS, N132 hS, N133 hS, N134 hS, N135 hS, N136 hS, N137 hS, N138 hS, N139 hS, N140 hS, N141 hS, N142 hS, ne_eq, true_or, or_true, not_false_eq_true, Nat.reduceEqDiff, Nat.reduceLT, Nat.reduceLeDiff, Nat.reduceAdd, t10, ef]
  refine r_keeps hS (Or.inl rfl) D ?_
  intro h1 R _ _
  simp only [k205_0, k205_1, k205_3, k205_4, k205_6, k205_7, k205_8, k205_11, k205_14, k205_15, k205_18, k205_20, k205_22, k205_23, k205_24, k205_26, k205_27, k205_28, k205_29, k205_32, k205_34, k205_36, k205_37, k205_38, k205_39, k205_40, k205_44, k205_45, k205_48, k205_49, k205_51, k205_54, k205_55, k205_58, k205_59, k205_61, k205_64, k205_65, k205_68, k205_69, k205_70, k205_73, k205_74, k205_75, k205_76, k205_77, k205_79, k205_80, k205_81, k205_84, k205_87, k205_88, k205_90, k205_93, k205_95, k205_96, k205_99, k205_101, mm_sI, mm_sJ, mm_sR, mm_cI, mm_cJ, mm_I, mm_J, mm_R, mm_K, mm_N, psh_s, psh_n, z_n, z_i, z_r, z_l, Nat.reduceAdd, Nat.reduceLeDiff, K113 hS, R113_2 hS, R113_3 hS, R113_5 hS, R113_8 hS, R113_9 hS, R113_10 hS, R113_11 hS, R113_16 hS, R113_17 hS, R113_18 hS, R113_19 hS, R113_20 hS, R113_21 hS, R113_22 hS, R113_26 hS, R113_27 hS, R113_30 hS, R113_32 hS, R113_34 hS, R113_35 hS, R113_36 hS, R113_37 hS, R113_40 hS, R113_41 hS, R113_42 hS, R113_43 hS, R113_44 hS, R113_45 hS, R113_47 hS, K114 hS, K115 hS, K116 hS, K117 hS, K118 hS, K119 hS, K120 hS, K121 hS, K122 hS, K123 hS, K124 hS, K125 hS, K126 hS, K127 hS, K128 hS, K129 hS, K130 hS, K131 hS, K132 hS, K133 hS, K134 hS, K135 hS, K136 hS, K137 hS, K138 hS, K139 hS, K140 hS, K141 hS, K142 hS, N114 hS, N115 hS, N116 hS, N117 hS, N118 hS, N119 hS, N120 hS, N121 hS, N122 hS, N123 hS, N124 hS, N125 hS, N126 hS, N127 hS, N128 hS, N129 hS, N130 hS, N131 hS, N132 hS, N133 hS, N134 hS, N135 hS, N136 hS, N137 hS, N138 hS, N139 hS, N140 hS, N141 hS, N142 hS, ne_eq, true_or, or_true, not_false_eq_true, Nat.reduceEqDiff, Nat.reduceLT, Nat.reduceLeDiff, Nat.reduceAdd, t10, a32, a40, hi, hxx]
  refine m_hbL hf hN (i := 0) (by omega) (R.fr (Or.inl rfl) (FrG.w114 (FrG.w114 FrG.rf (by omega)) (by omega)) (m_lendD R.D hf hp.2.1 hx)) hQ
theorem m_lsL {gf nv : Int32} {f n : Nat} (D : DD G F W b h0 r E) (hp : pairP G F gf) (hf : f < F) (ef : gf % 10 = nI f) (en : nv / 10 = nI n) (hn : n ≤ 40) : ∀ {k x : Nat} {h : Hp}, x + k = 100 → Scr h0 h → (∀ h', Scr h0 h' → Q (some (vi (lsL W b (gf / 10) f n (nv % 10) x k))) (mm h' j r E)) →
    WP (d + 7) 206 25 [some (vr 113), some (vi gf), some (vi nv), some (vi (nI x))] [] (mm h j r E) Q := by
  have hS := D.S
  have t10 : ((10 : Int32) = 0) = False := by simp
  intro k
  induction k with
  | zero =>
    intro x h hk s hQ
    have : x = 100 := by omega
    subst this
    rw [k206_25]
    simp only [k206_0, k206_1, k206_2, k206_5, k206_8, k206_9, k206_12, k206_13, k206_15, k206_16, k206_18, k206_21, k206_22, k206_23, k206_24, k206_26, k206_28, k206_31, k206_32, k206_33, k206_34, k206_35, k206_37, k206_38, k206_41, k206_43, k206_44, k206_45, k206_47, k206_48, k206_51, k206_52, k206_53, k206_56, k206_59, k206_61, mm_sI, mm_sJ, mm_sR, mm_cI, mm_cJ, mm_I, mm_J, mm_R, mm_K, mm_N, psh_s, psh_n, z_n, z_i, z_r, z_l, Nat.reduceAdd, Nat.reduceLeDiff, ne_eq, true_or, or_true, not_false_eq_true, Nat.reduceEqDiff, Nat.reduceLT, Nat.reduceLeDiff, Nat.reduceAdd, show (99 : Int32) < nI 100 by decide, if_true]
    exact hQ h s
  | succ k ih =>
    intro x h hk s hQ
    have hi : ((99 : Int32) < nI x) = False := by rw [show (99 : Int32) = nI 99 from rfl, nLt (by omega) (by omega)]; apply eq_false; omega
    have hx : inb (nI x) 100 := by rw [inb_n (by omega)]; omega
    rw [k206_25]
    simp only [k206_0, k206_1, k206_2, k206_5, k206_8, k206_9, k206_12, k206_13, k206_15, k206_16, k206_18, k206_21, k206_22, k206_23, k206_24, k206_26, k206_28, k206_31, k206_32, k206_33, k206_34, k206_35, k206_37, k206_38, k206_41, k206_43, k206_44, k206_45, k206_47, k206_48, k206_51, k206_52, k206_53, k206_56, k206_59, k206_61, mm_sI, mm_sJ, mm_sR, mm_cI, mm_cJ, mm_I, mm_J, mm_R, mm_K, mm_N, psh_s, psh_n, z_n, z_i, z_r, z_l, Nat.reduceAdd, Nat.reduceLeDiff, K113 hS, R113_2 hS, R113_3 hS, R113_5 hS, R113_8 hS, R113_9 hS, R113_10 hS, R113_11 hS, R113_16 hS, R113_17 hS, R113_18 hS, R113_19 hS, R113_20 hS, R113_21 hS, R113_22 hS, R113_26 hS, R113_27 hS, R113_30 hS, R113_32 hS, R113_34 hS, R113_35 hS, R113_36 hS, R113_37 hS, R113_40 hS, R113_41 hS, R113_42 hS, R113_43 hS, R113_44 hS, R113_45 hS, R113_47 hS, K114 hS, K115 hS, K116 hS, K117 hS, K118 hS, K119 hS, K120 hS, K121 hS, K122 hS, K123 hS, K124 hS, K125 hS, K126 hS, K127 hS, K128 hS, K129 hS, K130 hS, K131 hS, K132 hS, K133 hS, K134 hS, K135 hS, K136 hS, K137 hS, K138 hS, K139 hS, K140 hS, K141 hS, K142 hS, N114 hS, N115 hS, N116 hS, N117 hS, N118 hS, N119 hS, N120 hS, N121 hS, N122 hS, N123 hS, N124 hS, N125 hS, N126 hS, N127 hS, N128 hS, N129 hS, N130 hS, N131 hS, N132 hS, N133 hS, N134 hS, N135 hS, N136 hS, N137 hS, N138 hS, N139 hS, N140 hS, N141 hS, N142 hS, ne_eq, true_or, or_true, not_false_eq_true, Nat.reduceEqDiff, Nat.reduceLT, Nat.reduceLeDiff, Nat.reduceAdd, hi, if_false, t10, en]
    refine m_heldBehind (D.sc s) hp hf ef hx hn ?_
    intro h' s2
    simp only [k206_0, k206_1, k206_2, k206_5, k206_8, k206_9, k206_12, k206_13, k206_15, k206_16, k206_18, k206_21, k206_22, k206_23, k206_24, k206_26, k206_28, k206_31, k206_32, k206_33, k206_34, k206_35, k206_37, k206_38, k206_41, k206_43, k206_44, k206_45, k206_47, k206_48, k206_51, k206_52, k206_53, k206_56, k206_59, k206_61, mm_sI, mm_sJ, mm_sR, mm_cI, mm_cJ, mm_I, mm_J, mm_R, mm_K, mm_N, psh_s, psh_n, z_n, z_i, z_r, z_l, Nat.reduceAdd, Nat.reduceLeDiff, K113 hS, R113_2 hS, R113_3 hS, R113_5 hS, R113_8 hS, R113_9 hS, R113_10 hS, R113_11 hS, R113_16 hS, R113_17 hS, R113_18 hS, R113_19 hS, R113_20 hS, R113_21 hS, R113_22 hS, R113_26 hS, R113_27 hS, R113_30 hS, R113_32 hS, R113_34 hS, R113_35 hS, R113_36 hS, R113_37 hS, R113_40 hS, R113_41 hS, R113_42 hS, R113_43 hS, R113_44 hS, R113_45 hS, R113_47 hS, K114 hS, K115 hS, K116 hS, K117 hS, K118 hS, K119 hS, K120 hS, K121 hS, K122 hS, K123 hS, K124 hS, K125 hS, K126 hS, K127 hS, K128 hS, K129 hS, K130 hS, K131 hS, K132 hS, K133 hS, K134 hS, K135 hS, K136 hS, K137 hS, K138 hS, K139 hS, K140 hS, K141 hS, K142 hS, N114 hS, N115 hS, N116 hS, N117 hS, N118 hS, N119 hS, N120 hS, N121 hS, N122 hS, N123 hS, N124 hS, N125 hS, N126 hS, N127 hS, N128 hS, N129 hS, N130 hS, N131 hS, N132 hS, N133 hS, N134 hS, N135 hS, N136 hS, N137 hS, N138 hS, N139 hS, N140 hS, N141 hS, N142 hS, ne_eq, true_or, or_true, not_false_eq_true, Nat.reduceEqDiff, Nat.reduceLT, Nat.reduceLeDiff, Nat.reduceAdd, t10, nS1]
    unfold lsL at hQ
    by_cases c : nv % 10 ≤ itOne W f n (lendB b f (gf / 10) (nI x)) 5 f / 10
    · simp only [c, if_true, Int32.not_lt.2 c, if_false] at hQ ⊢
      exact hQ h' (s.tr s2)
    · simp only [c, if_false, Int32.not_le.1 c, if_true] at hQ ⊢
      exact ih (by omega) (s.tr s2) hQ
theorem inb_210 {nv : Int32} : (¬ nv < 0 ∧ ¬ 20 < nv / 10) ↔ inb nv 210 := by
  constructor
  · rintro ⟨h1, h2⟩
    obtain ⟨k, hk, rfl⟩ := nI_of h1
    rw [show (10 : Int32) = nI 10 from rfl, nDiv hk (by decide), show (20 : Int32) = nI 20 from rfl, nLt (by decide) (by omega)] at h2
    rw [inb_n hk]; omega
  · intro h
    obtain ⟨k, hk, rfl, hk2⟩ := inb_of h
    refine ⟨h.1, ?_⟩
    rw [show (10 : Int32) = nI 10 from rfl, nDiv hk2 (by decide), show (20 : Int32) = nI 20 from rfl, nLt (by decide) (by omega)]; omega
theorem m_least {gf nv : Int32} (D : DD G F W b h r E) (hQ : ∀ h', Scr h h' → Q (some (vi (leastA G F W b gf nv))) (mm h' j r E)) :
    WP (d + 7) 206 0 [some (vr 113), some (vi gf), some (vi nv), none] [] (mm h j r E) Q := by
  have hS := D.S
  have hr := hQ h Scr.rf
  have t10 : ((10 : Int32) = 0) = False := by simp
  have hn := @inb_210 nv
  unfold leastA at hQ hr
  simp only [k206_0, k206_1, k206_2, k206_5, k206_8, k206_9, k206_12, k206_13, k206_15, k206_16, k206_18, k206_21, k206_22, k206_23, k206_24, k206_26, k206_28, k206_31, k206_32, k206_33, k206_34, k206_35, k206_37, k206_38, k206_41, k206_43, k206_44, k206_45, k206_47, k206_48, k206_51, k206_52, k206_53, k206_56, k206_59, k206_61, mm_sI, mm_sJ, mm_sR, mm_cI, mm_cJ, mm_I, mm_J, mm_R, mm_K, mm_N, psh_s, psh_n, z_n, z_i, z_r, z_l, Nat.reduceAdd, Nat.reduceLeDiff, K113 hS, R113_2 hS, R113_3 hS, R113_5 hS, R113_8 hS, R113_9 hS, R113_10 hS, R113_11 hS, R113_16 hS, R113_17 hS, R113_18 hS, R113_19 hS, R113_20 hS, R113_21 hS, R113_22 hS, R113_26 hS, R113_27 hS, R113_30 hS, R113_32 hS, R113_34 hS, R113_35 hS, R113_36 hS, R113_37 hS, R113_40 hS, R113_41 hS, R113_42 hS, R113_43 hS, R113_44 hS, R113_45 hS, R113_47 hS, K114 hS, K115 hS, K116 hS, K117 hS, K118 hS, K119 hS, K120 hS, K121 hS, K122 hS, K123 hS, K124 hS, K125 hS, K126 hS, K127 hS, K128 hS, K129 hS, K130 hS, K131 hS, K132 hS, K133 hS, K134 hS, K135 hS, K136 hS, K137 hS, K138 hS, K139 hS, K140 hS, K141 hS, K142 hS, N114 hS, N115 hS, N116 hS, N117 hS, N118 hS, N119 hS, N120 hS, N121 hS, N122 hS, N123 hS, N124 hS, N125 hS, N126 hS, N127 hS, N128 hS, N129 hS, N130 hS, N131 hS, N132 hS, N133 hS, N134 hS, N135 hS, N136 hS, N137 hS, N138 hS, N139 hS, N140 hS, N141 hS, N142 hS, ne_eq, true_or, or_true, not_false_eq_true, Nat.reduceEqDiff, Nat.reduceLT, Nat.reduceLeDiff, Nat.reduceAdd, m_isPair D, b2i_0, t10]
  by_cases c1 : pairP G F gf
  case neg => simp only [eq_false c1, not_false_eq_true, if_true, false_and, if_false] at hr ⊢; exact hr
  by_cases c2 : inb nv 210
  case neg =>
    simp only [eq_false c2, not_false_eq_true, if_true, false_and, and_false, if_false, eq_true c1, not_true_eq_false] at hr ⊢
    by_cases c3 : nv < 0
    · simp only [c3, if_true]; exact hr
    · have c4 : 20 < nv / 10 := Decidable.byContradiction fun hh => c2 (hn.1 ⟨c3, hh⟩)
      simp only [c3, Int32.not_le.2 c4, if_true, if_false]; exact hr
  have c3 := hn.2 c2
  simp only [eq_true c1, eq_true c2, and_true, not_true_eq_false, if_false, if_true, c3.1, Int32.not_lt.1 c3.2] at hQ ⊢
  obtain ⟨f, hf, ef, hf2⟩ := inb_of c1.2.2
  have en := inb_div c2 (by decide)
  have hn : ix (nv / 10) = ix nv / 10 := by rw [en, ix_n]; have := c2.2; show ix nv / 10 < 2 ^ 31; have : ix nv < 210 := c2.2; omega
  have hn2 : ix nv / 10 ≤ 40 := by have : ix nv < 210 := c2.2; omega
  rw [hn] at hQ
  simp only [ef, ix_n hf2] at hQ
  exact m_lsL D c1 hf ef en hn2 (x := 1) (k := 99) (by omega) Scr.rf hQ
end AN
