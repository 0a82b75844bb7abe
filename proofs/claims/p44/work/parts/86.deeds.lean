/-! ===== deeds of the object ===== -/
section OD
variable {d : Nat} {M : Mem} {h h0 h1 h2 : Hp} {j j1 j2 : Jp} {r r1 r2 : Rp} {E : EE} {l G F G' F' n : Nat} {W : LW} {b b' : BB} {Q : Option PV → Mem → Prop} {S : OS} {im : IMT} {cg : CGT} {sh : SHT} {tp : TPT}
theorem a_girl {p : Int32} (c1 : inb p 36) (c2 : oG S < 8) : Ans 71 [some (vr 2), some (vi p)] S (nI (oG S)) (mkS (oG S + 1) (oF S) (oW S) (up2 (up2 (oB S) 0 (oG S) p) 1 (oG S) 60) (oL S) (oI S) (oC S) (oS S) (oT S)) := by
  intro h j r E Q O hQ
  obtain ⟨⟨l, C⟩, o1, _⟩ := id O
  have hS := C.S
  have h35 : b2i (0 ≤ p ∧ p ≤ 35) = b2i (inb p 36) := b2i_c in_35
  have p1 : nI (oG S) < 8 := by rw [← nn8, nLt (by omega) (by decide)]; omega
  have hb : inb (nI (oG S)) 8 = True := eq_true (by rw [inb_n (by omega)]; omega)
  simp only [k71_0, k71_1, k71_2, k71_3, k71_6, k71_9, k71_10, k71_13, k71_14, k71_17, k71_20, k71_21, k76_0, k76_1c0, k76_1c1, k76_1c2, k76_1c3, k76_1c4, k76_1c5, k76_1c6, k76_1c7, k76_1, k76_48, k76_49, k76_50, k76_52, k76_55, k76_56, k76_57, k76_58, k76_60, k76_63, k76_64, k76_65, k76_66, k76_68, k76_71, k76_72, k76_73, k76_74, k76_77, k76_78, k76_81, k76_82, k76_85, k76_88, k76_89, k76_92, k76_93, k76_94, k76_95, k76_96, k76_98, k76_101, k76_102, k76_103, k26_0, k26_1, k26_4, k26_6, k26_9, k26_11, k26_12, k26_13, k26_16, k26_17, k26_20, k26_21, k26_22, k26_23, k26_26, k26_27, k26_30, k26_32, k26_33, k26_34, k26_34i, k26_35, k26_38, k26_39, k26_40, k26_43, k26_44, k26_47, k26_48, k26_49, mm_sI, mm_sJ, mm_sR, mm_cI, mm_cJ, mm_I, mm_J, mm_R, mm_K, mm_N, psh_s, psh_n, z_n, z_i, z_r, z_l, Nat.reduceAdd, Nat.reduceLeDiff, K2 hS, R2_0 hS, R2_1 hS, R2_2 hS, R2_6 hS, R2_8 hS, R2_11 hS, R2_12 hS, R2_13 hS, R2_15 hS, R2_16 hS, K3 hS, K11 hS, K19 hS, K27 hS, K32 hS, K37 hS, K98 hS, K99 hS, K100 hS, N37 hS, N98 hS, N99 hS, N100 hS, R3_0 hS, R3_1 hS, R3_2 hS, R3_3 hS, R3_4 hS, R3_5 hS, R3_6 hS, K4 hS, K5 hS, K6 hS, K7 hS, K8 hS, K9 hS, K10 hS, N4 hS, N5 hS, N6 hS, N7 hS, N8 hS, N9 hS, N10 hS, up2_s, up2_ai, up2_i, false_or, or_false, ne_eq, true_or, or_true, not_false_eq_true, Nat.reduceEqDiff, Nat.reduceLT, Nat.reduceLeDiff, Nat.reduceAdd, s_within, h35, b2i_01, b2i_t c1, e10, if_false, C.eG, p1, if_true, hb, ix_n (show oG S < 2 ^ 31 by omega), nS1, nSub (show oG S + 1 < 2 ^ 31 by omega)]
  have fc : FC h (up2 (up2 (up2 h 4 (oG S) p) 5 (oG S) 60) 3 7 (nI (oG S + 1))) := FC.up (FC.up (FC.up FC.rf (by decide)) (by decide)) (by decide)
  refine hQ _ _ _ (O.frC fc (C.mk fc ?_ ?_ (by omega) C.F8 ?_ (C.w.girl c1)) ?_ (by omega) (Nat.le_refl _)) fc.out
  · rw [up2_s]
  · rw [up2_i (by decide), up2_a (by decide), up2_a (by decide)]; exact C.eF
  · rw [bC_girl, C.eb]
  · intro i hi; rw [up2_a (by decide), up2_a (by decide), up2_a (by decide)]; exact o1 i hi
theorem a_girl_no {p : Int32} (c1 : ¬ inb p 36) : Ans 71 [some (vr 2), some (vi p)] S (-1) S := by
  intro h j r E Q O hQ
  obtain ⟨⟨l, C⟩, _⟩ := id O
  have hS := C.S
  have h35 : b2i (0 ≤ p ∧ p ≤ 35) = b2i (inb p 36) := b2i_c in_35
  simp only [k71_0, k71_1, k71_2, k71_3, k71_6, k71_9, k71_10, k71_13, k71_14, k71_17, k71_20, k71_21, k76_0, k76_1c0, k76_1c1, k76_1c2, k76_1c3, k76_1c4, k76_1c5, k76_1c6, k76_1c7, k76_1, k76_48, k76_49, k76_50, k76_52, k76_55, k76_56, k76_57, k76_58, k76_60, k76_63, k76_64, k76_65, k76_66, k76_68, k76_71, k76_72, k76_73, k76_74, k76_77, k76_78, k76_81, k76_82, k76_85, k76_88, k76_89, k76_92, k76_93, k76_94, k76_95, k76_96, k76_98, k76_101, k76_102, k76_103, mm_sI, mm_sJ, mm_sR, mm_cI, mm_cJ, mm_I, mm_J, mm_R, mm_K, mm_N, psh_s, psh_n, z_n, z_i, z_r, z_l, Nat.reduceAdd, Nat.reduceLeDiff, K2 hS, R2_0 hS, R2_1 hS, R2_2 hS, R2_6 hS, R2_8 hS, R2_11 hS, R2_12 hS, R2_13 hS, R2_15 hS, R2_16 hS, K3 hS, K11 hS, K19 hS, K27 hS, K32 hS, K37 hS, K98 hS, K99 hS, K100 hS, N37 hS, N98 hS, N99 hS, N100 hS, false_or, or_false, ne_eq, true_or, or_true, not_false_eq_true, Nat.reduceEqDiff, Nat.reduceLT, Nat.reduceLeDiff, Nat.reduceAdd, s_within, h35, b2i_01, b2i_f c1, if_true]; exact hQ h j r O Out.rf
theorem a_frog {p q : Int32} (c1 : inb p 36) (c2 : inb q 10) (c3 : oF S < 8) : Ans 72 [some (vr 2), some (vi p), some (vi q), none] S (nI (oF S)) (mkS (oG S) (oF S + 1) (oW S) (addF (oB S) (oF S) p q (-1) 0) (oL S) (oI S) (oC S) (oS S) (oT S)) := by
  intro h j r E Q O hQ
  obtain ⟨⟨l, C⟩, o1, _⟩ := id O
  have hS := C.S
  have h35 : b2i (0 ≤ p ∧ p ≤ 35) = b2i (inb p 36) := b2i_c in_35
  have h9 : b2i (0 ≤ q ∧ q ≤ 9) = b2i (inb q 10) := b2i_c in_9
  simp only [k72_0, k72_1, k72_2, k72_3, k72_6, k72_9, k72_10, k72_11, k72_12, k72_15, k72_18, k72_19, k72_22, k72_23, k72_24, k72_25, k72_28, k72_29, k72_32, k72_33, k72_34, k72_35, k72_36, k72_39, k72_42, k72_43, k76_0, k76_1c0, k76_1c1, k76_1c2, k76_1c3, k76_1c4, k76_1c5, k76_1c6, k76_1c7, k76_1, k76_48, k76_49, k76_50, k76_52, k76_55, k76_56, k76_57, k76_58, k76_60, k76_63, k76_64, k76_65, k76_66, k76_68, k76_71, k76_72, k76_73, k76_74, k76_77, k76_78, k76_81, k76_82, k76_85, k76_88, k76_89, k76_92, k76_93, k76_94, k76_95, k76_96, k76_98, k76_101, k76_102, k76_103, mm_sI, mm_sJ, mm_sR, mm_cI, mm_cJ, mm_I, mm_J, mm_R, mm_K, mm_N, psh_s, psh_n, z_n, z_i, z_r, z_l, Nat.reduceAdd, Nat.reduceLeDiff, K2 hS, R2_0 hS, R2_1 hS, R2_2 hS, R2_6 hS, R2_8 hS, R2_11 hS, R2_12 hS, R2_13 hS, R2_15 hS, R2_16 hS, K3 hS, K11 hS, K19 hS, K27 hS, K32 hS, K37 hS, K98 hS, K99 hS, K100 hS, N37 hS, N98 hS, N99 hS, N100 hS, false_or, or_false, ne_eq, true_or, or_true, not_false_eq_true, Nat.reduceEqDiff, Nat.reduceLT, Nat.reduceLeDiff, Nat.reduceAdd, s_within, h35, h9, b2i_01, b2i_t c1, b2i_t c2, e10, if_false]
  refine c_addFrog C c3 c1 c2 (Or.inl rfl) (by decide) ?_
  intro h1 f1 C1 l1
  simp only [k72_0, k72_1, k72_2, k72_3, k72_6, k72_9, k72_10, k72_11, k72_12, k72_15, k72_18, k72_19, k72_22, k72_23, k72_24, k72_25, k72_28, k72_29, k72_32, k72_33, k72_34, k72_35, k72_36, k72_39, k72_42, k72_43, mm_sI, mm_sJ, mm_sR, mm_cI, mm_cJ, mm_I, mm_J, mm_R, mm_K, mm_N, psh_s, psh_n, z_n, z_i, z_r, z_l, Nat.reduceAdd, Nat.reduceLeDiff, false_or, or_false, ne_eq, true_or, or_true, not_false_eq_true, Nat.reduceEqDiff, Nat.reduceLT, Nat.reduceLeDiff, Nat.reduceAdd]
  exact hQ h1 j r (O.frC f1 C1 (fun i hi => (l1 i).trans (o1 i hi)) (Nat.le_refl _) (by omega)) f1.out
theorem a_frog_no {p q : Int32} (c1 : inb p 36) (c2 : ¬ inb q 10) : Ans 72 [some (vr 2), some (vi p), some (vi q), none] S (-1) S := by
  intro h j r E Q O hQ
  obtain ⟨⟨l, C⟩, _⟩ := id O
  have hS := C.S
  have h35 : b2i (0 ≤ p ∧ p ≤ 35) = b2i (inb p 36) := b2i_c in_35
  have h9 : b2i (0 ≤ q ∧ q ≤ 9) = b2i (inb q 10) := b2i_c in_9
  simp only [k72_0, k72_1, k72_2, k72_3, k72_6, k72_9, k72_10, k72_11, k72_12, k72_15, k72_18, k72_19, k72_22, k72_23, k72_24, k72_25, k72_28, k72_29, k72_32, k72_33, k72_34, k72_35, k72_36, k72_39, k72_42, k72_43, k76_0, k76_1c0, k76_1c1, k76_1c2, k76_1c3, k76_1c4, k76_1c5, k76_1c6, k76_1c7, k76_1, k76_48, k76_49, k76_50, k76_52, k76_55, k76_56, k76_57, k76_58, k76_60, k76_63, k76_64, k76_65, k76_66, k76_68, k76_71, k76_72, k76_73, k76_74, k76_77, k76_78, k76_81, k76_82, k76_85, k76_88, k76_89, k76_92, k76_93, k76_94, k76_95, k76_96, k76_98, k76_101, k76_102, k76_103, mm_sI, mm_sJ, mm_sR, mm_cI, mm_cJ, mm_I, mm_J, mm_R, mm_K, mm_N, psh_s, psh_n, z_n, z_i, z_r, z_l, Nat.reduceAdd, Nat.reduceLeDiff, K2 hS, R2_0 hS, R2_1 hS, R2_2 hS, R2_6 hS, R2_8 hS, R2_11 hS, R2_12 hS, R2_13 hS, R2_15 hS, R2_16 hS, K3 hS, K11 hS, K19 hS, K27 hS, K32 hS, K37 hS, K98 hS, K99 hS, K100 hS, N37 hS, N98 hS, N99 hS, N100 hS, false_or, or_false, ne_eq, true_or, or_true, not_false_eq_true, Nat.reduceEqDiff, Nat.reduceLT, Nat.reduceLeDiff, Nat.reduceAdd, s_within, h35, h9, b2i_01, b2i_t c1, b2i_f c2, e10, if_false, if_true]; exact hQ h j r O Out.rf
theorem a_hour : Ans 118 [some (vr 2)] S (fK (oW S) 0 (oF S) (oB S)) (mkS (oG S) (oF S) (oW S) (hrB (oW S) (oF S) (oB S)) (ledH (oL S) (fL (oW S) 0 (oF S) (oB S)) (fK (oW S) 0 (oF S) (oB S))) (oI S) (oC S) (oS S) (oT S)) := by
  intro h j r E Q O hQ
  obtain ⟨⟨l, C⟩, o1, _⟩ := id O
  have hS := C.S
  have e4 := C.rl
  simp only [k118_0, k118_1, k118_4, k118_5, k118_8, k118_11, mm_sI, mm_sJ, mm_sR, mm_cI, mm_cJ, mm_I, mm_J, mm_R, mm_K, mm_N, psh_s, psh_n, z_n, z_i, z_r, z_l, Nat.reduceAdd, Nat.reduceLeDiff, K2 hS, R2_0 hS, R2_1 hS, R2_2 hS, R2_6 hS, R2_8 hS, R2_11 hS, R2_12 hS, R2_13 hS, R2_15 hS, R2_16 hS, K3 hS, K11 hS, K19 hS, K27 hS, K32 hS, K37 hS, K98 hS, K99 hS, K100 hS, N37 hS, N98 hS, N99 hS, N100 hS, false_or, or_false, ne_eq, true_or, or_true, not_false_eq_true, Nat.reduceEqDiff, Nat.reduceLT, Nat.reduceLeDiff, Nat.reduceAdd, e4]
  refine WP.deep (d := 54 + 5) ?_ (by omega)
  refine s_passHour hS C.H3 C.HL C.G8 C.F8 (by rcases C.il with h | h <;> omega) C.L C.eG C.eF (by rw [C.eb]; exact C.w) ?_
  intro h1 fr e1 e2
  rw [C.eb] at e1 e2 ⊢
  simp only [k118_0, k118_1, k118_4, k118_5, k118_8, k118_11, mm_sI, mm_sJ, mm_sR, mm_cI, mm_cJ, mm_I, mm_J, mm_R, mm_K, mm_N, psh_s, psh_n, z_n, z_i, z_r, z_l, Nat.reduceAdd, Nat.reduceLeDiff, false_or, or_false, ne_eq, true_or, or_true, not_false_eq_true, Nat.reduceEqDiff, Nat.reduceLT, Nat.reduceLeDiff, Nat.reduceAdd]
  have fc := FC.ofM C.il fr
  refine hQ h1 j r (O.frC fc (C.mk fc (by rw [fr.m7]; exact C.eG) (by rw [fr.m8]; exact C.eF) C.G8 C.F8 e1 C.w.hr) (fun i hi => ?_) (Nat.le_refl _) (Nat.le_refl _)) fc.out
  rw [show h1 10 = h1 (3 + 7) from rfl, e2]
  unfold ledH ledU
  match i, hi with
  | 0, _ => simp [up2, o1]
  | 1, _ => simp [up2, o1]
  | 2, _ => simp [up2, o1]
  | 3, _ => simp [up2, o1]
  | 4, _ => simp [up2, o1]
  | i + 5, hi => omega
/-- a loan given -/
def lentB (b : BB) (g f : Nat) (x : Int32) : BB := up2 (up2 (up2 b 1 g (b 1 g - x)) 4 f (nI g)) 5 f x
theorem a_lends {gf x : Int32} {g f : Nat} (c1 : pairP (oG S) (oF S) gf) (eg : gf / 10 = nI g) (ef : gf % 10 = nI f) (hg : g < oG S) (hf : f < oF S) (c2 : 1 ≤ x ∧ x ≤ 99) (c3 : oB S 4 f = -1) (c4 : x ≤ oB S 1 g) :
    Ans 119 [some (vr 2), some (vi gf), some (vi x), none, none] S (oB S 1 g - x) (mkS (oG S) (oF S) (oW S) (lentB (oB S) g f x) (fun i => if i = 1 then oL S 1 + 1 else oL S i) (oI S) (oC S) (oS S) (oT S)) := by
  have t10 : ((10 : Int32) = 0) = False := by simp
  intro h j r E Q O hQ
  obtain ⟨⟨l, C⟩, o1, _⟩ := id O
  have hS := C.S
  have hG8 := C.G8
  have hF8 := C.F8
  have hg2 : g < 2 ^ 31 := by omega
  have hf2 : f < 2 ^ 31 := by omega
  have hg8 : inb (nI g) 8 = True := eq_true (by rw [inb_n (by omega)]; omega)
  have hf8 : inb (nI f) 8 = True := eq_true (by rw [inb_n (by omega)]; omega)
  have xg : ix (nI g) = g := ix_n hg2
  have xf : ix (nI f) = f := ix_n hf2
  have w1 : WF (oG S) (oF S) (lentB (oB S) g f x) := by
    refine WF.up (WF.up (WF.up C.w (k := 1) ?_) (k := 4) (Or.inr (by rw [inb_n hg2]; exact hg))) (k := 5) (in_1_99 c2)
    show inb (oB S 1 g - x) 100
    have q1 := inb_i (C.w.a1 hg)
    have q2 := (iLe _ _).1 c4
    have q3 := inb_i (in_1_99 c2)
    rw [inbI, subI (by omega) (by omega)]; omega
  simp only [k119_0, k119_1, k119_2, k119_5, k119_8, k119_9, k119_10, k119_12, k119_15, k119_18, k119_19, k119_20, k119_21, k119_23, k119_24, k119_25, k119_26, k119_28, k119_29, k119_31, k119_32, k119_35, k119_38, k119_40, k119_41, k119_42, k119_45, k119_46, k119_49, k119_52, k119_53, k119_54, k119_55, k119_58, k119_60, k119_61, k119_62, k119_65, k119_66, k119_68, k119_69, k119_72, k119_73, k119_76, k119_79, k119_80, k119_81, k119_82, k119_83, k119_84, k119_85, k119_86, k119_89, k119_92, k119_93, k119_94, k119_95, k119_96, k119_97, k119_98, k119_99, k119_102, k119_105, k119_106, k119_107, mm_sI, mm_sJ, mm_sR, mm_cI, mm_cJ, mm_I, mm_J, mm_R, mm_K, mm_N, psh_s, psh_n, z_n, z_i, z_r, z_l, Nat.reduceAdd, Nat.reduceLeDiff, K2 hS, R2_0 hS, R2_1 hS, R2_2 hS, R2_6 hS, R2_8 hS, R2_11 hS, R2_12 hS, R2_13 hS, R2_15 hS, R2_16 hS, K3 hS, K11 hS, K19 hS, K27 hS, K32 hS, K37 hS, K98 hS, K99 hS, K100 hS, N37 hS, N98 hS, N99 hS, N100 hS, R3_0 hS, R3_1 hS, R3_2 hS, R3_3 hS, R3_4 hS, R3_5 hS, R3_6 hS, K4 hS, K5 hS, K6 hS, K7 hS, K8 hS, K9 hS, K10 hS, N4 hS, N5 hS, N6 hS, N7 hS, N8 hS, N9 hS, N10 hS, inb_c0, ix_c0, inb_c1, ix_c1, inb_c2, ix_c2, inb_c3, ix_c3, inb_c4, ix_c4, inb_c5, ix_c5, inb_c6, ix_c6, inb_c7, ix_c7, inb_c8, ix_c8, inb_c32, ix_c32, false_or, or_false, ne_eq, true_or, or_true, not_false_eq_true, Nat.reduceEqDiff, Nat.reduceLT, Nat.reduceLeDiff, Nat.reduceAdd, c_isPair C, s_within, b2i_t c1, b2i_t c2, e10, if_false, if_true, t10, eg, ef, hf8, xf, hg8, xg, c_v4 C hf, c_v1 C hg, c3, c4, s_lend C.H3 (show f < 8 by omega), up2_s, up2_ai, up2_i]
  have fc : FC h (up2 (up2 (up2 (up2 h (3 + 5) f (nI g)) (3 + 6) f x) 5 g (oB S 1 g - x)) 10 1 (h 10 1 + 1)) := FC.up (FC.up (FC.up (FC.up FC.rf (by decide)) (by decide)) (by decide)) (by decide)
  refine hQ _ _ _ (O.frC fc (C.mk fc ?_ ?_ C.G8 C.F8 ?_ w1) ?_ (Nat.le_refl _) (Nat.le_refl _)) fc.out
  · rw [up2_a (by decide), up2_a (by decide), up2_a (by decide), up2_a (by decide)]; exact C.eG
  · rw [up2_a (by decide), up2_a (by decide), up2_a (by decide), up2_a (by decide)]; exact C.eF
  · have q := @bCw7 (up2 (up2 (up2 h (3 + 5) f (nI g)) (3 + 6) f x) 5 g (oB S 1 g - x)) 3 1 (oG S) (oF S) (h 10 1 + 1)
    rw [show (3 + 7 : Nat) = 10 from rfl] at q
    rw [q]
    have q1 := @bCw1 (up2 (up2 h (3 + 5) f (nI g)) (3 + 6) f x) 3 g (oG S) (oF S) (oB S 1 g - x) hg
    rw [show (3 + 2 : Nat) = 5 from rfl] at q1
    rw [q1, bCw5 hf, bCw4 hf, C.eb]
    unfold lentB
    rw [up2_comm (show (5 : Nat) ≠ 1 by decide), up2_comm (show (4 : Nat) ≠ 1 by decide)]
  · intro i hi
    show _ = if i = 1 then oL S 1 + 1 else oL S i
    by_cases e : i = 1
    · subst e; rw [up2_s, if_pos rfl, o1 1 (by decide)]
    · rw [up2_i e, up2_a (by decide), up2_a (by decide), up2_a (by decide), if_neg e]; exact o1 i hi
theorem a_lends_no {gf x : Int32} (c1 : ¬ pairP (oG S) (oF S) gf) : Ans 119 [some (vr 2), some (vi gf), some (vi x), none, none] S (-1) S := by
  intro h j r E Q O hQ
  obtain ⟨⟨l, C⟩, _⟩ := id O
  have hS := C.S
  simp only [k119_0, k119_1, k119_2, k119_5, k119_8, k119_9, k119_10, k119_12, k119_15, k119_18, k119_19, k119_20, k119_21, k119_23, k119_24, k119_25, k119_26, k119_28, k119_29, k119_31, k119_32, k119_35, k119_38, k119_40, k119_41, k119_42, k119_45, k119_46, k119_49, k119_52, k119_53, k119_54, k119_55, k119_58, k119_60, k119_61, k119_62, k119_65, k119_66, k119_68, k119_69, k119_72, k119_73, k119_76, k119_79, k119_80, k119_81, k119_82, k119_83, k119_84, k119_85, k119_86, k119_89, k119_92, k119_93, k119_94, k119_95, k119_96, k119_97, k119_98, k119_99, k119_102, k119_105, k119_106, k119_107, mm_sI, mm_sJ, mm_sR, mm_cI, mm_cJ, mm_I, mm_J, mm_R, mm_K, mm_N, psh_s, psh_n, z_n, z_i, z_r, z_l, Nat.reduceAdd, Nat.reduceLeDiff, K2 hS, R2_0 hS, R2_1 hS, R2_2 hS, R2_6 hS, R2_8 hS, R2_11 hS, R2_12 hS, R2_13 hS, R2_15 hS, R2_16 hS, K3 hS, K11 hS, K19 hS, K27 hS, K32 hS, K37 hS, K98 hS, K99 hS, K100 hS, N37 hS, N98 hS, N99 hS, N100 hS, false_or, or_false, ne_eq, true_or, or_true, not_false_eq_true, Nat.reduceEqDiff, Nat.reduceLT, Nat.reduceLeDiff, Nat.reduceAdd, c_isPair C, b2i_f c1, if_true]; exact hQ h j r O Out.rf
theorem a_over {f : Nat} (hf : f < oF S) (c3 : oB S 4 f ≠ -1) : Ans 120 [some (vr 2), some (vi (nI f)), none] S (oB S 5 f) (mkS (oG S) (oF S) (oW S) (up2 (up2 (oB S) 4 f (-1)) 5 f 0) (fun i => if i = 4 then oL S 4 + 1 else oL S i) (oI S) (oC S) (oS S) (oT S)) := by
  intro h j r E Q O hQ
  obtain ⟨⟨l, C⟩, o1, _⟩ := id O
  have hS := C.S
  have hF8 := C.F8
  have c1 : inb (nI f) (oF S) := by rw [inb_n (by omega)]; exact hf
  have hf8 : inb (nI f) 8 = True := eq_true (by rw [inb_n (by omega)]; omega)
  have xf : ix (nI f) = f := ix_n (by omega)
  have w1 : WF (oG S) (oF S) (up2 (up2 (oB S) 4 f (-1)) 5 f 0) := WF.up (C.w.up (k := 4) (Or.inl rfl)) (k := 5) (inb_00 (by decide))
  simp only [k120_0, k120_1, k120_4, k120_5, k120_8, k120_11, k120_12, k120_13, k120_14, k120_17, k120_20, k120_21, k120_22, k120_23, k120_26, k120_28, k120_29, k120_30, k120_33, k120_36, k120_37, k120_38, k120_39, k120_40, k120_43, k120_44, k120_47, k120_48, k120_51, k120_54, k120_55, k120_56, k120_57, k120_58, k120_59, k120_60, k120_61, mm_sI, mm_sJ, mm_sR, mm_cI, mm_cJ, mm_I, mm_J, mm_R, mm_K, mm_N, psh_s, psh_n, z_n, z_i, z_r, z_l, Nat.reduceAdd, Nat.reduceLeDiff, K2 hS, R2_0 hS, R2_1 hS, R2_2 hS, R2_6 hS, R2_8 hS, R2_11 hS, R2_12 hS, R2_13 hS, R2_15 hS, R2_16 hS, K3 hS, K11 hS, K19 hS, K27 hS, K32 hS, K37 hS, K98 hS, K99 hS, K100 hS, N37 hS, N98 hS, N99 hS, N100 hS, R3_0 hS, R3_1 hS, R3_2 hS, R3_3 hS, R3_4 hS, R3_5 hS, R3_6 hS, K4 hS, K5 hS, K6 hS, K7 hS, K8 hS, K9 hS, K10 hS, N4 hS, N5 hS, N6 hS, N7 hS, N8 hS, N9 hS, N10 hS, inb_c0, ix_c0, inb_c1, ix_c1, inb_c2, ix_c2, inb_c3, ix_c3, inb_c4, ix_c4, inb_c5, ix_c5, inb_c6, ix_c6, inb_c7, ix_c7, inb_c8, ix_c8, inb_c32, ix_c32, false_or, or_false, ne_eq, true_or, or_true, not_false_eq_true, Nat.reduceEqDiff, Nat.reduceLT, Nat.reduceLeDiff, Nat.reduceAdd, c_hasFrog C, b2i_t c1, e10, if_false, if_true, hf8, xf, c_v4 C hf, c_v5 C hf, c3, s_owesNothing C.H3 (show f < 8 by omega), up2_s, up2_ai, up2_i]
  have fc : FC h (up2 (up2 (up2 h (3 + 5) f (-1)) (3 + 6) f 0) 10 4 (h 10 4 + 1)) := FC.up (FC.up (FC.up FC.rf (by decide)) (by decide)) (by decide)
  refine hQ _ _ _ (O.frC fc (C.mk fc ?_ ?_ C.G8 C.F8 ?_ w1) ?_ (Nat.le_refl _) (Nat.le_refl _)) fc.out
  · rw [up2_a (by decide), up2_a (by decide), up2_a (by decide)]; exact C.eG
  · rw [up2_a (by decide), up2_a (by decide), up2_a (by decide)]; exact C.eF
  · have q := @bCw7 (up2 (up2 h (3 + 5) f (-1)) (3 + 6) f 0) 3 4 (oG S) (oF S) (h 10 4 + 1)
    rw [show (3 + 7 : Nat) = 10 from rfl] at q
    rw [q, bCw5 hf, bCw4 hf, C.eb]
  · intro i hi
    show _ = if i = 4 then oL S 4 + 1 else oL S i
    by_cases e : i = 4
    · subst e; rw [up2_s, if_pos rfl, o1 4 (by decide)]
    · rw [up2_i e, up2_a (by decide), up2_a (by decide), if_neg e]; exact o1 i hi
theorem a_over_no {fr : Int32} (c1 : ¬ inb fr (oF S)) : Ans 120 [some (vr 2), some (vi fr), none] S (-1) S := by
  intro h j r E Q O hQ
  obtain ⟨⟨l, C⟩, _⟩ := id O
  have hS := C.S
  simp only [k120_0, k120_1, k120_4, k120_5, k120_8, k120_11, k120_12, k120_13, k120_14, k120_17, k120_20, k120_21, k120_22, k120_23, k120_26, k120_28, k120_29, k120_30, k120_33, k120_36, k120_37, k120_38, k120_39, k120_40, k120_43, k120_44, k120_47, k120_48, k120_51, k120_54, k120_55, k120_56, k120_57, k120_58, k120_59, k120_60, k120_61, mm_sI, mm_sJ, mm_sR, mm_cI, mm_cJ, mm_I, mm_J, mm_R, mm_K, mm_N, psh_s, psh_n, z_n, z_i, z_r, z_l, Nat.reduceAdd, Nat.reduceLeDiff, K2 hS, R2_0 hS, R2_1 hS, R2_2 hS, R2_6 hS, R2_8 hS, R2_11 hS, R2_12 hS, R2_13 hS, R2_15 hS, R2_16 hS, K3 hS, K11 hS, K19 hS, K27 hS, K32 hS, K37 hS, K98 hS, K99 hS, K100 hS, N37 hS, N98 hS, N99 hS, N100 hS, false_or, or_false, ne_eq, true_or, or_true, not_false_eq_true, Nat.reduceEqDiff, Nat.reduceLT, Nat.reduceLeDiff, Nat.reduceAdd, c_hasFrog C, b2i_f c1, if_true]; exact hQ h j r O Out.rf
theorem a_image : Ans 122 [some (vr 2)] S (oL S 0) (mkS (oG S) (oF S) (oW S) (oB S) (oL S) (some (oG S, oF S, oB S, oL S)) (oC S) (oS S) (oT S)) := by
  intro h j r E Q O hQ
  obtain ⟨⟨l, C⟩, o1, o2, o3, o4, o5⟩ := id O
  have hS := C.S
  have hG8 := C.G8
  have hF8 := C.F8
  have hl := C.il
  simp only [k122_0, k122_1, k122_4, k122_5, k122_8, k122_11, k122_12, k122_13, k122_16, k122_17, k122_20, k122_23, k122_24, k122_25, mm_sI, mm_sJ, mm_sR, mm_cI, mm_cJ, mm_I, mm_J, mm_R, mm_K, mm_N, psh_s, psh_n, z_n, z_i, z_r, z_l, Nat.reduceAdd, Nat.reduceLeDiff, K2 hS, R2_0 hS, R2_1 hS, R2_2 hS, R2_6 hS, R2_8 hS, R2_11 hS, R2_12 hS, R2_13 hS, R2_15 hS, R2_16 hS, K3 hS, K11 hS, K19 hS, K27 hS, K32 hS, K37 hS, K98 hS, K99 hS, K100 hS, N37 hS, N98 hS, N99 hS, N100 hS, false_or, or_false, ne_eq, true_or, or_true, not_false_eq_true, Nat.reduceEqDiff, Nat.reduceLT, Nat.reduceLeDiff, Nat.reduceAdd]
  refine WP.deep (d := 58 + 1) ?_ (by omega)
  refine s_copy (mar_of hS (Or.inr (Or.inr rfl))) C.H3 (Or.inl (by decide)) C.eG C.eF hG8 hF8 ?_
  intro h1 e hb h7 h8 hld
  have u1 : ∀ a, ¬ (19 ≤ a ∧ a ≤ 26) → h1 a = h a := e
  simp only [k122_0, k122_1, k122_4, k122_5, k122_8, k122_11, k122_12, k122_13, k122_16, k122_17, k122_20, k122_23, k122_24, k122_25, mm_sI, mm_sJ, mm_sR, mm_cI, mm_cJ, mm_I, mm_J, mm_R, mm_K, mm_N, psh_s, psh_n, z_n, z_i, z_r, z_l, Nat.reduceAdd, Nat.reduceLeDiff, K2 hS, R2_0 hS, R2_1 hS, R2_2 hS, R2_6 hS, R2_8 hS, R2_11 hS, R2_12 hS, R2_13 hS, R2_15 hS, R2_16 hS, K3 hS, K11 hS, K19 hS, K27 hS, K32 hS, K37 hS, K98 hS, K99 hS, K100 hS, N37 hS, N98 hS, N99 hS, N100 hS, R3_0 hS, R3_1 hS, R3_2 hS, R3_3 hS, R3_4 hS, R3_5 hS, R3_6 hS, K4 hS, K5 hS, K6 hS, K7 hS, K8 hS, K9 hS, K10 hS, N4 hS, N5 hS, N6 hS, N7 hS, N8 hS, N9 hS, N10 hS, inb_c0, ix_c0, inb_c1, ix_c1, inb_c2, ix_c2, inb_c3, ix_c3, inb_c4, ix_c4, inb_c5, ix_c5, inb_c6, ix_c6, inb_c7, ix_c7, inb_c8, ix_c8, inb_c32, ix_c32, false_or, or_false, ne_eq, true_or, or_true, not_false_eq_true, Nat.reduceEqDiff, Nat.reduceLT, Nat.reduceLeDiff, Nat.reduceAdd, up2_s, up2_ai, up2_i]
  have o : ∀ a, a ≠ 2 → ¬ (19 ≤ a ∧ a ≤ 26) → up2 h1 2 3 1 a = h a := fun a p q => by rw [up2_a p, u1 a q]
  have f2 : ∀ i, i ≠ 3 → up2 h1 2 3 1 2 i = h 2 i := fun i hi => by rw [up2_i hi, u1 2 (by decide)]
  have a0 : h1 10 0 = oL S 0 := by rw [u1 10 (by decide)]; exact o1 0 (by decide)
  rw [a0]
  have k19 : ∀ a, 19 ≤ a → a ≤ 26 → up2 h1 2 3 1 a = h1 a := fun a p q => up2_a (by omega)
  refine hQ _ j r ⟨⟨l, C.st (fun a p q => o a (by omega) (by omega)) ⟨o _ (by omega) (by omega), o _ (by omega) (by omega), by rw [o l (by omega) (by omega)]⟩⟩, fun i hi => ?_, ⟨up2_s, Nat.le_refl _, Nat.le_refl _, ?_, ?_, ?_, ?_, ?_, ?_, C.w⟩, o3.fr (Nat.le_refl _) (Nat.le_refl _) (f2 9 (by decide)) (f2 10 (by decide)) (fun a p q => o a (by omega) (by omega)), o4.fr (fun a p q => o a (by omega) (by omega)), o5.fr (f2 7 (by decide)) (o 37 (by decide) (by decide))⟩ (Out.of (fun a p => o a (by omega) (by omega)))
  · rw [o 10 (by decide) (by decide)]; exact o1 i hi
  · rw [k19 19 (by decide) (by decide)]; exact h7
  · rw [k19 19 (by decide) (by decide)]; exact h8
  · intro i hi
    rw [k19 21 (by decide) (by decide), ← C.eb, ← hb]; exact (bC1 (m := 19) hi).symm
  · intro i hi
    rw [k19 22 (by decide) (by decide), k19 24 (by decide) (by decide), k19 25 (by decide) (by decide), ← C.eb, ← hb]
    exact ⟨(bC2 (m := 19) hi).symm, (bC4 (m := 19) hi).symm, (bC5 (m := 19) hi).symm⟩
  · rw [k19 19 (by decide) (by decide), ← C.eb, ← hb]; exact (bCh (m := 19)).symm
  · intro i hi
    rw [k19 26 (by decide) (by decide), show (26 : Nat) = 19 + 7 from rfl, hld i hi]; exact o1 i hi
/-- the numbers with what an image kept -/
def backB (b b0 : BB) (G2 F2 : Nat) : BB := fun k i => if k = 1 ∧ i < G2 then b0 1 i else if k = 2 ∧ i < F2 then b0 2 i else if k = 4 ∧ i < F2 then b0 4 i else if k = 5 ∧ i < F2 then b0 5 i else if k = 6 ∧ i = 1 then b0 6 1 else b k i
theorem a_back {G2 F2 : Nat} {b0 : BB} {ld0 : Nat → Int32} (hi : oI S = some (G2, F2, b0, ld0)) : Ans 123 [some (vr 2)] S (ld0 0) (mkS (oG S) (oF S) (oW S) (backB (oB S) b0 G2 F2) ld0 (oI S) (oC S) (oS S) (oT S)) := by
  intro h j r E Q O hQ
  obtain ⟨⟨l, C⟩, o1, o2, o3, o4, o5⟩ := id O
  have hS := C.S
  have hG8 := C.G8
  have hF8 := C.F8
  rw [hi] at o2
  obtain ⟨n1, hG, hF, g1, g2, e1, e2, eh, el, w0⟩ := o2
  have eB : layB (oB S) h G2 F2 = backB (oB S) b0 G2 F2 := by
    funext k i
    unfold layB backB
    by_cases c1 : k = 1 ∧ i < G2
    · rw [if_pos c1, if_pos c1, e1 i c1.2]
    rw [if_neg c1, if_neg c1]
    by_cases c2 : k = 2 ∧ i < F2
    · rw [if_pos c2, if_pos c2, (e2 i c2.2).1]
    rw [if_neg c2, if_neg c2]
    by_cases c4 : k = 4 ∧ i < F2
    · rw [if_pos c4, if_pos c4, (e2 i c4.2).2.1]
    rw [if_neg c4, if_neg c4]
    by_cases c5 : k = 5 ∧ i < F2
    · rw [if_pos c5, if_pos c5, (e2 i c5.2).2.2]
    rw [if_neg c5, if_neg c5, eh]
  have w : WF (oG S) (oF S) (layB (oB S) h G2 F2) := WF.lay (h := h) C.w hG (fun i hi => by rw [e1 i hi]; exact w0.a1 hi) (fun i hi => by rw [(e2 i hi).1, (e2 i hi).2.1, (e2 i hi).2.2]; exact ⟨w0.a2 hi, w0.a4 hi, w0.a5 hi⟩) (by rw [eh]; exact w0.ah)
  simp only [k123_0, k123_1, k123_4, k123_7, k123_9, k123_10, k123_11, k123_14, k123_15, k123_18, k123_21, k123_22, k123_25, k123_28, k123_29, k123_30, mm_sI, mm_sJ, mm_sR, mm_cI, mm_cJ, mm_I, mm_J, mm_R, mm_K, mm_N, psh_s, psh_n, z_n, z_i, z_r, z_l, Nat.reduceAdd, Nat.reduceLeDiff, K2 hS, R2_0 hS, R2_1 hS, R2_2 hS, R2_6 hS, R2_8 hS, R2_11 hS, R2_12 hS, R2_13 hS, R2_15 hS, R2_16 hS, K3 hS, K11 hS, K19 hS, K27 hS, K32 hS, K37 hS, K98 hS, K99 hS, K100 hS, N37 hS, N98 hS, N99 hS, N100 hS, false_or, or_false, ne_eq, true_or, or_true, not_false_eq_true, Nat.reduceEqDiff, Nat.reduceLT, Nat.reduceLeDiff, Nat.reduceAdd, n1, e10, if_false]
  refine (s_layBack C.H3 (mar_of hS (Or.inr (Or.inr rfl))) (Or.inr (by decide)) g1 g2 (by omega) (by omega)).mpr ?_
  have o10 : ∀ i, i < 5 → layH h 19 3 G2 F2 10 i = ld0 i := by
    intro i hi; unfold layH
    rw [if_neg (by decide), if_neg (by decide), if_neg (by decide), if_neg (by decide), if_pos (by decide), if_pos hi]; exact el i hi
  simp only [k123_0, k123_1, k123_4, k123_7, k123_9, k123_10, k123_11, k123_14, k123_15, k123_18, k123_21, k123_22, k123_25, k123_28, k123_29, k123_30, mm_sI, mm_sJ, mm_sR, mm_cI, mm_cJ, mm_I, mm_J, mm_R, mm_K, mm_N, psh_s, psh_n, z_n, z_i, z_r, z_l, Nat.reduceAdd, Nat.reduceLeDiff, K2 hS, R2_0 hS, R2_1 hS, R2_2 hS, R2_6 hS, R2_8 hS, R2_11 hS, R2_12 hS, R2_13 hS, R2_15 hS, R2_16 hS, K3 hS, K11 hS, K19 hS, K27 hS, K32 hS, K37 hS, K98 hS, K99 hS, K100 hS, N37 hS, N98 hS, N99 hS, N100 hS, R3_0 hS, R3_1 hS, R3_2 hS, R3_3 hS, R3_4 hS, R3_5 hS, R3_6 hS, K4 hS, K5 hS, K6 hS, K7 hS, K8 hS, K9 hS, K10 hS, N4 hS, N5 hS, N6 hS, N7 hS, N8 hS, N9 hS, N10 hS, inb_c0, ix_c0, inb_c1, ix_c1, inb_c2, ix_c2, inb_c3, ix_c3, inb_c4, ix_c4, inb_c5, ix_c5, inb_c6, ix_c6, inb_c7, ix_c7, inb_c8, ix_c8, inb_c32, ix_c32, false_or, or_false, ne_eq, true_or, or_true, not_false_eq_true, Nat.reduceEqDiff, Nat.reduceLT, Nat.reduceLeDiff, Nat.reduceAdd, o10 0 (by decide)]
  have fc : FC h (layH h 19 3 G2 F2) := by
    refine ⟨fun a p q => ?_, fun i _ => ⟨?_, ?_⟩, fun i _ _ _ => ?_⟩
    · funext i; unfold layH
      rw [if_neg (by omega), if_neg (by omega), if_neg (by omega), if_neg (by omega), if_neg (by omega), if_neg (by omega)]
    · rfl
    · rfl
    · rfl
  refine hQ _ j r (O.frC fc (C.mk fc C.eG C.eF hG8 hF8 ?_ (by rw [← eB]; exact w)) o10 (Nat.le_refl _) (Nat.le_refl _)) fc.out
  rw [layB_C hG hF, C.eb, eB]
end OD
