/-! ===== deeds in the marsh: frogs, loans, hours ===== -/
def addF (b : BB) (F : Nat) (p k o v : Int32) : BB := up2 (up2 (up2 (up2 b 2 F p) 3 F k) 4 F o) 5 F v
section DF
variable {d : Nat} {M : Mem} {h h0 h1 h2 : Hp} {j : Jp} {r : Rp} {E : EE} {l G F A n G' F' : Nat} {W : LW} {b bt bm b' : BB} {Q : Option PV → Mem → Prop}
theorem bC_frog {p q o v : Int32} : bC (up2 (up2 (up2 (up2 (up2 h 6 F p) 7 F q) 8 F o) 9 F v) 3 8 (nI (F + 1))) 3 G (F + 1) = addF (bC h 3 G F) F p q o v := by
  unfold addF
  funext k i
  by_cases k2 : k = 2
  · subst k2
    by_cases e : i = F
    · subst e; simp [bC, up2, cut]
    · simp only [bC, up2, cut, e, if_true, if_false, show (2 : Nat) < 6 by decide, show ¬ (2 : Nat) < 2 by decide, show ((3 : Nat) + 1 + 2 = 6) by decide, show ¬ ((3 : Nat) + 1 + 2 = 7) by decide, show ¬ ((3 : Nat) + 1 + 2 = 8) by decide, show ¬ ((3 : Nat) + 1 + 2 = 9) by decide, show ¬ ((3 : Nat) + 1 + 2 = 3) by decide, show ¬ ((2 : Nat) = 3) by decide, show ¬ ((2 : Nat) = 4) by decide, show ¬ ((2 : Nat) = 5) by decide]
      by_cases c : i < F
      · rw [if_pos (by omega), if_pos c]
      · rw [if_neg (by omega), if_neg c]
  by_cases k3 : k = 3
  · subst k3
    by_cases e : i = F
    · subst e; simp [bC, up2, cut]
    · simp only [bC, up2, cut, e, if_true, if_false, show (3 : Nat) < 6 by decide, show ¬ (3 : Nat) < 2 by decide, show ((3 : Nat) + 1 + 3 = 7) by decide, show ¬ ((3 : Nat) + 1 + 3 = 6) by decide, show ¬ ((3 : Nat) + 1 + 3 = 8) by decide, show ¬ ((3 : Nat) + 1 + 3 = 9) by decide, show ¬ ((3 : Nat) + 1 + 3 = 3) by decide, show ¬ ((3 : Nat) = 2) by decide, show ¬ ((3 : Nat) = 4) by decide, show ¬ ((3 : Nat) = 5) by decide]
      by_cases c : i < F
      · rw [if_pos (by omega), if_pos c]
      · rw [if_neg (by omega), if_neg c]
  by_cases k4 : k = 4
  · subst k4
    by_cases e : i = F
    · subst e; simp [bC, up2, cut]
    · simp only [bC, up2, cut, e, if_true, if_false, show (4 : Nat) < 6 by decide, show ¬ (4 : Nat) < 2 by decide, show ((3 : Nat) + 1 + 4 = 8) by decide, show ¬ ((3 : Nat) + 1 + 4 = 6) by decide, show ¬ ((3 : Nat) + 1 + 4 = 7) by decide, show ¬ ((3 : Nat) + 1 + 4 = 9) by decide, show ¬ ((3 : Nat) + 1 + 4 = 3) by decide, show ¬ ((4 : Nat) = 2) by decide, show ¬ ((4 : Nat) = 3) by decide, show ¬ ((4 : Nat) = 5) by decide]
      by_cases c : i < F
      · rw [if_pos (by omega), if_pos c]
      · rw [if_neg (by omega), if_neg c]
  by_cases k5 : k = 5
  · subst k5
    by_cases e : i = F
    · subst e; simp [bC, up2, cut]
    · simp only [bC, up2, cut, e, if_true, if_false, show (5 : Nat) < 6 by decide, show ¬ (5 : Nat) < 2 by decide, show ((3 : Nat) + 1 + 5 = 9) by decide, show ¬ ((3 : Nat) + 1 + 5 = 6) by decide, show ¬ ((3 : Nat) + 1 + 5 = 7) by decide, show ¬ ((3 : Nat) + 1 + 5 = 8) by decide, show ¬ ((3 : Nat) + 1 + 5 = 3) by decide, show ¬ ((5 : Nat) = 2) by decide, show ¬ ((5 : Nat) = 3) by decide, show ¬ ((5 : Nat) = 4) by decide]
      by_cases c : i < F
      · rw [if_pos (by omega), if_pos c]
      · rw [if_neg (by omega), if_neg c]
  simp only [bC, up2, k2, k3, k4, k5, if_false]
  by_cases k6 : k < 6
  · have c2 : k < 2 := by omega
    simp only [k6, if_true, cut, c2, if_false, show ¬ (3 + 1 + k = 3) by omega, show ¬ (3 + 1 + k = 6) by omega, show ¬ (3 + 1 + k = 7) by omega, show ¬ (3 + 1 + k = 8) by omega, show ¬ (3 + 1 + k = 9) by omega]
  · simp only [k6, if_false, if_true, show ¬ ((9 : Nat) = 8) by decide, show ¬ ((10 : Nat) = 8) by decide, show ¬ ((3 : Nat) = 6) by decide, show ¬ ((3 : Nat) = 7) by decide, show ¬ ((3 : Nat) = 8) by decide, show ¬ ((3 : Nat) = 9) by decide]
theorem bM_frog {p q o v : Int32} (hG : G ≤ 8) (hF : F < 8) : bM (up2 (up2 (up2 (up2 (up2 h 114 (16 + F) p) 114 (24 + F) q) 114 (32 + F) o) 114 (40 + F) v) 113 1 (nI (F + 1))) G (F + 1) = addF (bM h G F) F p q o v := by
  unfold addF
  funext k i
  by_cases k2 : k = 2
  · subst k2
    by_cases e : i = F
    · subst e; simp [bM, up2, cut]; try omega
    · simp only [bM, up2, cut, e, if_true, if_false, show (2 : Nat) < 6 by decide, show ¬ (2 : Nat) < 2 by decide, show ¬ ((114 : Nat) = 113) by decide, show ¬ ((2 : Nat) = 3) by decide, show ¬ ((2 : Nat) = 4) by decide, show ¬ ((2 : Nat) = 5) by decide]
      by_cases c : i < F
      · rw [if_pos (by omega), if_pos c, if_neg (by omega), if_neg (by omega), if_neg (by omega), if_neg (by omega)]
      · rw [if_neg (by omega), if_neg c]
  by_cases k3 : k = 3
  · subst k3
    by_cases e : i = F
    · subst e; simp [bM, up2, cut]; try omega
    · simp only [bM, up2, cut, e, if_true, if_false, show (3 : Nat) < 6 by decide, show ¬ (3 : Nat) < 2 by decide, show ¬ ((114 : Nat) = 113) by decide, show ¬ ((3 : Nat) = 2) by decide, show ¬ ((3 : Nat) = 4) by decide, show ¬ ((3 : Nat) = 5) by decide]
      by_cases c : i < F
      · rw [if_pos (by omega), if_pos c, if_neg (by omega), if_neg (by omega), if_neg (by omega), if_neg (by omega)]
      · rw [if_neg (by omega), if_neg c]
  by_cases k4 : k = 4
  · subst k4
    by_cases e : i = F
    · subst e; simp [bM, up2, cut]; try omega
    · simp only [bM, up2, cut, e, if_true, if_false, show (4 : Nat) < 6 by decide, show ¬ (4 : Nat) < 2 by decide, show ¬ ((114 : Nat) = 113) by decide, show ¬ ((4 : Nat) = 2) by decide, show ¬ ((4 : Nat) = 3) by decide, show ¬ ((4 : Nat) = 5) by decide]
      by_cases c : i < F
      · rw [if_pos (by omega), if_pos c, if_neg (by omega), if_neg (by omega), if_neg (by omega), if_neg (by omega)]
      · rw [if_neg (by omega), if_neg c]
  by_cases k5 : k = 5
  · subst k5
    by_cases e : i = F
    · subst e; simp [bM, up2, cut]; try omega
    · simp only [bM, up2, cut, e, if_true, if_false, show (5 : Nat) < 6 by decide, show ¬ (5 : Nat) < 2 by decide, show ¬ ((114 : Nat) = 113) by decide, show ¬ ((5 : Nat) = 2) by decide, show ¬ ((5 : Nat) = 3) by decide, show ¬ ((5 : Nat) = 4) by decide]
      by_cases c : i < F
      · rw [if_pos (by omega), if_pos c, if_neg (by omega), if_neg (by omega), if_neg (by omega), if_neg (by omega)]
      · rw [if_neg (by omega), if_neg c]
  simp only [bM, up2, k2, k3, k4, k5, if_false]
  by_cases k6 : k < 6
  · have c2 : k < 2 := by omega
    simp only [k6, if_true, cut, c2, show ¬ ((114 : Nat) = 113) by decide, if_false]
    by_cases c : i < G
    · rw [if_pos c, if_pos c, if_neg (by omega), if_neg (by omega), if_neg (by omega), if_neg (by omega)]
    · rw [if_neg c, if_neg c]
  · simp only [k6, if_false, if_true, show ¬ ((115 : Nat) = 113) by decide, show ¬ ((115 : Nat) = 114) by decide]
theorem WF.frog {p q o v : Int32} (w : WF G F b) (hp : inb p 36) (hq : inb q 10) (ho : o = -1 ∨ inb o G) (hv : inb v 100) : WF G (F + 1) (addF b F p q o v) := by
  intro k i hk hi
  unfold addF
  simp only [up2]
  by_cases k5 : k = 5
  · subst k5
    have hi : i < F + 1 := hi
    by_cases e : i = F
    · simp only [e, if_true]; exact hv
    · simp only [e, if_true, if_false, show ¬ ((5 : Nat) = 2) by decide, show ¬ ((5 : Nat) = 3) by decide, show ¬ ((5 : Nat) = 4) by decide]
      exact w 5 i (by decide) (show i < F by omega)
  by_cases k4 : k = 4
  · subst k4
    have hi : i < F + 1 := hi
    by_cases e : i = F
    · simp only [e, if_true, if_false, show ¬ ((4 : Nat) = 5) by decide]; exact ho
    · simp only [e, if_true, if_false, show ¬ ((4 : Nat) = 2) by decide, show ¬ ((4 : Nat) = 3) by decide, show ¬ ((4 : Nat) = 5) by decide]
      exact w 4 i (by decide) (show i < F by omega)
  by_cases k3 : k = 3
  · subst k3
    have hi : i < F + 1 := hi
    by_cases e : i = F
    · simp only [e, if_true, if_false, show ¬ ((3 : Nat) = 4) by decide, show ¬ ((3 : Nat) = 5) by decide]; exact hq
    · simp only [e, if_true, if_false, show ¬ ((3 : Nat) = 2) by decide, show ¬ ((3 : Nat) = 4) by decide, show ¬ ((3 : Nat) = 5) by decide]
      exact w 3 i (by decide) (show i < F by omega)
  by_cases k2 : k = 2
  · subst k2
    have hi : i < F + 1 := hi
    by_cases e : i = F
    · simp only [e, if_true, if_false, show ¬ ((2 : Nat) = 3) by decide, show ¬ ((2 : Nat) = 4) by decide, show ¬ ((2 : Nat) = 5) by decide]; exact hp
    · simp only [e, if_true, if_false, show ¬ ((2 : Nat) = 3) by decide, show ¬ ((2 : Nat) = 4) by decide, show ¬ ((2 : Nat) = 5) by decide]
      exact w 2 i (by decide) (show i < F by omega)
  simp only [k2, k3, k4, k5, if_false]
  have hi : i < cutW G F k := by
    unfold cutW at hi ⊢
    split at hi
    · rw [if_pos ‹_›]; exact hi
    · rw [if_neg ‹_›]
      split at hi
      · omega
      · rw [if_neg ‹_›]; exact hi
  exact w k i hk hi
theorem c_addFrog {p q o v : Int32} (C : CC G F l W b h r E) (hF : F < 8) (hp : inb p 36) (hq : inb q 10) (ho : o = -1 ∨ inb o G) (hv : inb v 100) (hQ : ∀ h1, FC h h1 → CC G (F + 1) l W (addF b F p q o v) h1 r E → (∀ i, h1 10 i = h 10 i) → Q (some (vi (nI F))) (mm h1 j r E)) :
    WP d 27 0 [some (vr 3), some (vi p), some (vi q), some (vi o), some (vi v)] [] (mm h j r E) Q := by
  have hS := C.S
  have p1 : nI F < 8 := by rw [← nn8, nLt (by omega) (by decide)]; omega
  have hb : inb (nI F) 8 = True := eq_true (by rw [inb_n (by omega)]; omega)
  simp only [k27_0, k27_1, k27_4, k27_6, k27_9, k27_11, k27_12, k27_13, k27_16, k27_17, k27_20, k27_21, k27_22, k27_23, k27_26, k27_27, k27_30, k27_31, k27_32, k27_33, k27_36, k27_37, k27_40, k27_41, k27_42, k27_43, k27_46, k27_47, k27_50, k27_52, k27_53, k27_54, k27_54i, k27_55, k27_58, k27_59, k27_60, k27_63, k27_64, k27_67, k27_68, k27_69, mm_sI, mm_sJ, mm_sR, mm_cI, mm_cJ, mm_I, mm_J, mm_R, mm_K, mm_N, psh_s, psh_n, z_n, z_i, z_r, z_l, Nat.reduceAdd, Nat.reduceLeDiff, K2 hS, R2_0 hS, R2_1 hS, R2_2 hS, R2_6 hS, R2_8 hS, R2_11 hS, R2_12 hS, R2_13 hS, R2_15 hS, R2_16 hS, K3 hS, K11 hS, K19 hS, K27 hS, K32 hS, K37 hS, K98 hS, K99 hS, K100 hS, N37 hS, N98 hS, N99 hS, N100 hS, R3_0 hS, R3_1 hS, R3_2 hS, R3_3 hS, R3_4 hS, R3_5 hS, R3_6 hS, K4 hS, K5 hS, K6 hS, K7 hS, K8 hS, K9 hS, K10 hS, N4 hS, N5 hS, N6 hS, N7 hS, N8 hS, N9 hS, N10 hS, up2_s, up2_ai, up2_i, false_or, or_false, ne_eq, true_or, or_true, not_false_eq_true, Nat.reduceEqDiff, Nat.reduceLT, Nat.reduceLeDiff, Nat.reduceAdd, C.eF, p1, if_true, hb, ix_n (show F < 2 ^ 31 by omega), nS1, nSub (show F + 1 < 2 ^ 31 by omega)]
  have fc : FC h (up2 (up2 (up2 (up2 (up2 h 6 F p) 7 F q) 8 F o) 9 F v) 3 8 (nI (F + 1))) := FC.up (FC.up (FC.up (FC.up (FC.up FC.rf (by decide)) (by decide)) (by decide)) (by decide)) (by decide)
  refine hQ _ fc (C.mk fc ?_ ?_ C.G8 (by omega) ?_ (C.w.frog hp hq ho hv)) ?_
  · rw [up2_i (by decide), up2_a (by decide), up2_a (by decide), up2_a (by decide), up2_a (by decide)]; exact C.eG
  · rw [up2_s]
  · rw [bC_frog, C.eb]
  · intro i; rw [up2_a (by decide), up2_a (by decide), up2_a (by decide), up2_a (by decide), up2_a (by decide)]
theorem m_newFrog {p q o v : Int32} (D : DD G F W b h r E) (hF : F < 8) (hp : inb p 36) (hq : inb q 10) (ho : o = -1 ∨ inb o G) (hv : inb v 100) (hQ : ∀ h1, FM h h1 → DD G (F + 1) W (addF b F p q o v) h1 r E → (∀ i, h1 127 i = h 127 i) → Q (some (vi (nI F))) (mm h1 j r E)) :
    WP d 151 0 [some (vr 113), some (vi p), some (vi q), some (vi o), some (vi v)] [] (mm h j r E) Q := by
  have hS := D.S
  have hb : ∀ c, c ≤ 40 → inb (nI (c + F)) 48 = True := fun c hc => eq_true (by rw [inb_n (by omega)]; omega)
  have hx : ∀ c, c ≤ 40 → ix (nI (c + F)) = c + F := fun c hc => ix_n (by omega)
  simp only [k151_0, k151_1, k151_4, k151_6, k151_7, k151_10, k151_11, k151_12, k151_13, k151_14, k151_17, k151_19, k151_20, k151_23, k151_24, k151_25, k151_26, k151_27, k151_30, k151_32, k151_33, k151_36, k151_37, k151_38, k151_39, k151_40, k151_43, k151_45, k151_46, k151_49, k151_50, k151_52, k151_53, k151_54, k151_54i, k151_55, k151_58, k151_59, k151_60, k151_61, k151_64, mm_sI, mm_sJ, mm_sR, mm_cI, mm_cJ, mm_I, mm_J, mm_R, mm_K, mm_N, psh_s, psh_n, z_n, z_i, z_r, z_l, Nat.reduceAdd, Nat.reduceLeDiff, K113 hS, R113_2 hS, R113_3 hS, R113_5 hS, R113_8 hS, R113_9 hS, R113_10 hS, R113_11 hS, R113_16 hS, R113_17 hS, R113_18 hS, R113_19 hS, R113_20 hS, R113_21 hS, R113_22 hS, R113_26 hS, R113_27 hS, R113_30 hS, R113_32 hS, R113_34 hS, R113_35 hS, R113_36 hS, R113_37 hS, R113_40 hS, R113_41 hS, R113_42 hS, R113_43 hS, R113_44 hS, R113_45 hS, R113_47 hS, K114 hS, K115 hS, K116 hS, K117 hS, K118 hS, K119 hS, K120 hS, K121 hS, K122 hS, K123 hS, K124 hS, K125 hS, K126 hS, K127 hS, K128 hS, K129 hS, K130 hS, K131 hS, K132 hS, K133 hS, K134 hS, K135 hS, K136 hS, K137 hS, K138 hS, K139 hS, K140 hS, K141 hS, K142 hS, N114 hS, N115 hS, N116 hS, N117 hS, N118 hS, N119 hS, N120 hS, N121 hS, N122 hS, N123 hS, N124 hS, N125 hS, N126 hS, N127 hS, N128 hS, N129 hS, N130 hS, N131 hS, N132 hS, N133 hS, N134 hS, N135 hS, N136 hS, N137 hS, N138 hS, N139 hS, N140 hS, N141 hS, N142 hS, up2_s, up2_ai, up2_i, false_or, or_false, ne_eq, true_or, or_true, not_false_eq_true, Nat.reduceEqDiff, Nat.reduceLT, Nat.reduceLeDiff, Nat.reduceAdd, D.eF, a16, a24, a32, a40, hb, hx, nS1]
  have fm : FM h (up2 (up2 (up2 (up2 (up2 h 114 (16 + F) p) 114 (24 + F) q) 114 (32 + F) o) 114 (40 + F) v) 113 1 (nI (F + 1))) := FM.u0 (FM.up (FM.up (FM.up (FM.up FM.rf (by decide)) (by decide)) (by decide)) (by decide)) (Or.inr rfl)
  refine hQ _ fm (D.mk fm ?_ ?_ D.G8 (by omega) ?_ (D.w.frog hp hq ho hv)) ?_
  · rw [up2_i (by decide), up2_a (by decide), up2_a (by decide), up2_a (by decide), up2_a (by decide)]; exact D.eG
  · rw [up2_s]
  · rw [bM_frog D.G8 hF, D.eb]
  · intro i; rw [up2_a (by decide), up2_a (by decide), up2_a (by decide), up2_a (by decide), up2_a (by decide)]
theorem q_frog {p q : Int32} (I : Inv h j r E) : Both 60 72 152 [some (vr 2), some (vi p), some (vi q), none] [some (vr 113), some (vi p), some (vi q)] (mm h j r E) := by
  obtain ⟨G, F, l, W, b, C, D, _⟩ := id I
  have hS := C.S
  have hF8 := C.F8
  have h35 : b2i (0 ≤ p ∧ p ≤ 35) = b2i (inb p 36) := b2i_c in_35
  have h9 : b2i (0 ≤ q ∧ q ≤ 9) = b2i (inb q 10) := b2i_c in_9
  by_cases c1 : inb p 36
  case neg =>
    refine both_q (a := -1) I (fun Q hQ => ?_) (fun h1 s Q hQ => ?_)
    · simp only [k72_0, k72_1, k72_2, k72_3, k72_6, k72_9, k72_10, k72_11, k72_12, k72_15, k72_18, k72_19, k72_22, k72_23, k72_24, k72_25, k72_28, k72_29, k72_32, k72_33, k72_34, k72_35, k72_36, k72_39, k72_42, k72_43, k76_0, k76_1c0, k76_1c1, k76_1c2, k76_1c3, k76_1c4, k76_1c5, k76_1c6, k76_1c7, k76_1, k76_48, k76_49, k76_50, k76_52, k76_55, k76_56, k76_57, k76_58, k76_60, k76_63, k76_64, k76_65, k76_66, k76_68, k76_71, k76_72, k76_73, k76_74, k76_77, k76_78, k76_81, k76_82, k76_85, k76_88, k76_89, k76_92, k76_93, k76_94, k76_95, k76_96, k76_98, k76_101, k76_102, k76_103, mm_sI, mm_sJ, mm_sR, mm_cI, mm_cJ, mm_I, mm_J, mm_R, mm_K, mm_N, psh_s, psh_n, z_n, z_i, z_r, z_l, Nat.reduceAdd, Nat.reduceLeDiff, K2 hS, R2_0 hS, R2_1 hS, R2_2 hS, R2_6 hS, R2_8 hS, R2_11 hS, R2_12 hS, R2_13 hS, R2_15 hS, R2_16 hS, K3 hS, K11 hS, K19 hS, K27 hS, K32 hS, K37 hS, K98 hS, K99 hS, K100 hS, N37 hS, N98 hS, N99 hS, N100 hS, false_or, or_false, ne_eq, true_or, or_true, not_false_eq_true, Nat.reduceEqDiff, Nat.reduceLT, Nat.reduceLeDiff, Nat.reduceAdd, s_within, h35, b2i_01, b2i_f c1, if_true]; exact hQ h ScrD.rf
    · simp only [k152_0, k152_1, k152_4, k152_7, k152_8, k152_9, k152_11, k152_14, k152_17, k152_18, k152_19, k152_20, k152_23, k152_25, k152_28, k152_30, k152_33, k152_34, k152_35, k152_36, k152_37, k152_38, k152_41, k148_0, k148_1, k148_2, k148_4, k148_7, mm_sI, mm_sJ, mm_sR, mm_cI, mm_cJ, mm_I, mm_J, mm_R, mm_K, mm_N, psh_s, psh_n, z_n, z_i, z_r, z_l, Nat.reduceAdd, Nat.reduceLeDiff, K113 hS, R113_2 hS, R113_3 hS, R113_5 hS, R113_8 hS, R113_9 hS, R113_10 hS, R113_11 hS, R113_16 hS, R113_17 hS, R113_18 hS, R113_19 hS, R113_20 hS, R113_21 hS, R113_22 hS, R113_26 hS, R113_27 hS, R113_30 hS, R113_32 hS, R113_34 hS, R113_35 hS, R113_36 hS, R113_37 hS, R113_40 hS, R113_41 hS, R113_42 hS, R113_43 hS, R113_44 hS, R113_45 hS, R113_47 hS, K114 hS, K115 hS, K116 hS, K117 hS, K118 hS, K119 hS, K120 hS, K121 hS, K122 hS, K123 hS, K124 hS, K125 hS, K126 hS, K127 hS, K128 hS, K129 hS, K130 hS, K131 hS, K132 hS, K133 hS, K134 hS, K135 hS, K136 hS, K137 hS, K138 hS, K139 hS, K140 hS, K141 hS, K142 hS, N114 hS, N115 hS, N116 hS, N117 hS, N118 hS, N119 hS, N120 hS, N121 hS, N122 hS, N123 hS, N124 hS, N125 hS, N126 hS, N127 hS, N128 hS, N129 hS, N130 hS, N131 hS, N132 hS, N133 hS, N134 hS, N135 hS, N136 hS, N137 hS, N138 hS, N139 hS, N140 hS, N141 hS, N142 hS, false_or, or_false, ne_eq, true_or, or_true, not_false_eq_true, Nat.reduceEqDiff, Nat.reduceLT, Nat.reduceLeDiff, Nat.reduceAdd, s_within', h35, b2i_01, b2i_f c1, if_true]; exact hQ h1 ScrD.rf
  by_cases c2 : inb q 10
  case neg =>
    refine both_q (a := -1) I (fun Q hQ => ?_) (fun h1 s Q hQ => ?_)
    · simp only [k72_0, k72_1, k72_2, k72_3, k72_6, k72_9, k72_10, k72_11, k72_12, k72_15, k72_18, k72_19, k72_22, k72_23, k72_24, k72_25, k72_28, k72_29, k72_32, k72_33, k72_34, k72_35, k72_36, k72_39, k72_42, k72_43, k76_0, k76_1c0, k76_1c1, k76_1c2, k76_1c3, k76_1c4, k76_1c5, k76_1c6, k76_1c7, k76_1, k76_48, k76_49, k76_50, k76_52, k76_55, k76_56, k76_57, k76_58, k76_60, k76_63, k76_64, k76_65, k76_66, k76_68, k76_71, k76_72, k76_73, k76_74, k76_77, k76_78, k76_81, k76_82, k76_85, k76_88, k76_89, k76_92, k76_93, k76_94, k76_95, k76_96, k76_98, k76_101, k76_102, k76_103, mm_sI, mm_sJ, mm_sR, mm_cI, mm_cJ, mm_I, mm_J, mm_R, mm_K, mm_N, psh_s, psh_n, z_n, z_i, z_r, z_l, Nat.reduceAdd, Nat.reduceLeDiff, K2 hS, R2_0 hS, R2_1 hS, R2_2 hS, R2_6 hS, R2_8 hS, R2_11 hS, R2_12 hS, R2_13 hS, R2_15 hS, R2_16 hS, K3 hS, K11 hS, K19 hS, K27 hS, K32 hS, K37 hS, K98 hS, K99 hS, K100 hS, N37 hS, N98 hS, N99 hS, N100 hS, false_or, or_false, ne_eq, true_or, or_true, not_false_eq_true, Nat.reduceEqDiff, Nat.reduceLT, Nat.reduceLeDiff, Nat.reduceAdd, s_within, h35, h9, b2i_01, b2i_t c1, b2i_f c2, e10, if_false, if_true]; exact hQ h ScrD.rf
    · simp only [k152_0, k152_1, k152_4, k152_7, k152_8, k152_9, k152_11, k152_14, k152_17, k152_18, k152_19, k152_20, k152_23, k152_25, k152_28, k152_30, k152_33, k152_34, k152_35, k152_36, k152_37, k152_38, k152_41, k148_0, k148_1, k148_2, k148_4, k148_7, mm_sI, mm_sJ, mm_sR, mm_cI, mm_cJ, mm_I, mm_J, mm_R, mm_K, mm_N, psh_s, psh_n, z_n, z_i, z_r, z_l, Nat.reduceAdd, Nat.reduceLeDiff, K113 hS, R113_2 hS, R113_3 hS, R113_5 hS, R113_8 hS, R113_9 hS, R113_10 hS, R113_11 hS, R113_16 hS, R113_17 hS, R113_18 hS, R113_19 hS, R113_20 hS, R113_21 hS, R113_22 hS, R113_26 hS, R113_27 hS, R113_30 hS, R113_32 hS, R113_34 hS, R113_35 hS, R113_36 hS, R113_37 hS, R113_40 hS, R113_41 hS, R113_42 hS, R113_43 hS, R113_44 hS, R113_45 hS, R113_47 hS, K114 hS, K115 hS, K116 hS, K117 hS, K118 hS, K119 hS, K120 hS, K121 hS, K122 hS, K123 hS, K124 hS, K125 hS, K126 hS, K127 hS, K128 hS, K129 hS, K130 hS, K131 hS, K132 hS, K133 hS, K134 hS, K135 hS, K136 hS, K137 hS, K138 hS, K139 hS, K140 hS, K141 hS, K142 hS, N114 hS, N115 hS, N116 hS, N117 hS, N118 hS, N119 hS, N120 hS, N121 hS, N122 hS, N123 hS, N124 hS, N125 hS, N126 hS, N127 hS, N128 hS, N129 hS, N130 hS, N131 hS, N132 hS, N133 hS, N134 hS, N135 hS, N136 hS, N137 hS, N138 hS, N139 hS, N140 hS, N141 hS, N142 hS, false_or, or_false, ne_eq, true_or, or_true, not_false_eq_true, Nat.reduceEqDiff, Nat.reduceLT, Nat.reduceLeDiff, Nat.reduceAdd, s_within', h35, h9, b2i_01, b2i_t c1, b2i_f c2, e10, if_false, if_true]; exact hQ h1 ScrD.rf
  by_cases c3 : F = 8
  · subst c3
    refine both_q (a := -3) I (fun Q hQ => ?_) (fun h1 s Q hQ => ?_)
    · simp only [k72_0, k72_1, k72_2, k72_3, k72_6, k72_9, k72_10, k72_11, k72_12, k72_15, k72_18, k72_19, k72_22, k72_23, k72_24, k72_25, k72_28, k72_29, k72_32, k72_33, k72_34, k72_35, k72_36, k72_39, k72_42, k72_43, k76_0, k76_1c0, k76_1c1, k76_1c2, k76_1c3, k76_1c4, k76_1c5, k76_1c6, k76_1c7, k76_1, k76_48, k76_49, k76_50, k76_52, k76_55, k76_56, k76_57, k76_58, k76_60, k76_63, k76_64, k76_65, k76_66, k76_68, k76_71, k76_72, k76_73, k76_74, k76_77, k76_78, k76_81, k76_82, k76_85, k76_88, k76_89, k76_92, k76_93, k76_94, k76_95, k76_96, k76_98, k76_101, k76_102, k76_103, k27_0, k27_1, k27_4, k27_6, k27_9, k27_11, k27_12, k27_13, k27_16, k27_17, k27_20, k27_21, k27_22, k27_23, k27_26, k27_27, k27_30, k27_31, k27_32, k27_33, k27_36, k27_37, k27_40, k27_41, k27_42, k27_43, k27_46, k27_47, k27_50, k27_52, k27_53, k27_54, k27_54i, k27_55, k27_58, k27_59, k27_60, k27_63, k27_64, k27_67, k27_68, k27_69, mm_sI, mm_sJ, mm_sR, mm_cI, mm_cJ, mm_I, mm_J, mm_R, mm_K, mm_N, psh_s, psh_n, z_n, z_i, z_r, z_l, Nat.reduceAdd, Nat.reduceLeDiff, K2 hS, R2_0 hS, R2_1 hS, R2_2 hS, R2_6 hS, R2_8 hS, R2_11 hS, R2_12 hS, R2_13 hS, R2_15 hS, R2_16 hS, K3 hS, K11 hS, K19 hS, K27 hS, K32 hS, K37 hS, K98 hS, K99 hS, K100 hS, N37 hS, N98 hS, N99 hS, N100 hS, false_or, or_false, ne_eq, true_or, or_true, not_false_eq_true, Nat.reduceEqDiff, Nat.reduceLT, Nat.reduceLeDiff, Nat.reduceAdd, s_within, h35, h9, b2i_01, b2i_t c1, b2i_t c2, e10, if_false, C.eF, nn8, Int32.lt_irrefl]; exact hQ h ScrD.rf
    · simp only [k152_0, k152_1, k152_4, k152_7, k152_8, k152_9, k152_11, k152_14, k152_17, k152_18, k152_19, k152_20, k152_23, k152_25, k152_28, k152_30, k152_33, k152_34, k152_35, k152_36, k152_37, k152_38, k152_41, k148_0, k148_1, k148_2, k148_4, k148_7, mm_sI, mm_sJ, mm_sR, mm_cI, mm_cJ, mm_I, mm_J, mm_R, mm_K, mm_N, psh_s, psh_n, z_n, z_i, z_r, z_l, Nat.reduceAdd, Nat.reduceLeDiff, K113 hS, R113_2 hS, R113_3 hS, R113_5 hS, R113_8 hS, R113_9 hS, R113_10 hS, R113_11 hS, R113_16 hS, R113_17 hS, R113_18 hS, R113_19 hS, R113_20 hS, R113_21 hS, R113_22 hS, R113_26 hS, R113_27 hS, R113_30 hS, R113_32 hS, R113_34 hS, R113_35 hS, R113_36 hS, R113_37 hS, R113_40 hS, R113_41 hS, R113_42 hS, R113_43 hS, R113_44 hS, R113_45 hS, R113_47 hS, K114 hS, K115 hS, K116 hS, K117 hS, K118 hS, K119 hS, K120 hS, K121 hS, K122 hS, K123 hS, K124 hS, K125 hS, K126 hS, K127 hS, K128 hS, K129 hS, K130 hS, K131 hS, K132 hS, K133 hS, K134 hS, K135 hS, K136 hS, K137 hS, K138 hS, K139 hS, K140 hS, K141 hS, K142 hS, N114 hS, N115 hS, N116 hS, N117 hS, N118 hS, N119 hS, N120 hS, N121 hS, N122 hS, N123 hS, N124 hS, N125 hS, N126 hS, N127 hS, N128 hS, N129 hS, N130 hS, N131 hS, N132 hS, N133 hS, N134 hS, N135 hS, N136 hS, N137 hS, N138 hS, N139 hS, N140 hS, N141 hS, N142 hS, false_or, or_false, ne_eq, true_or, or_true, not_false_eq_true, Nat.reduceEqDiff, Nat.reduceLT, Nat.reduceLeDiff, Nat.reduceAdd, s_within', h35, h9, b2i_01, b2i_t c1, b2i_t c2, e10, if_false, (D.frD s).eF, nn8, if_true]; exact hQ h1 ScrD.rf
  · refine both_m I ?_
    intro G0 F0 l0 W0 b0 C0 D0 L0 _
    have eF : F0 = F := by have := C0.eF; rw [C.eF] at this; exact ((nI_eq (by have := C0.F8; omega) (by omega)).1 this.symm)
    subst eF
    refine ⟨G0, F0 + 1, addF b0 F0 p q (-1) 0, nI F0, h 10, Nat.le_refl _, by omega, ?_, ?_⟩
    · intro Q hQ
      simp only [k72_0, k72_1, k72_2, k72_3, k72_6, k72_9, k72_10, k72_11, k72_12, k72_15, k72_18, k72_19, k72_22, k72_23, k72_24, k72_25, k72_28, k72_29, k72_32, k72_33, k72_34, k72_35, k72_36, k72_39, k72_42, k72_43, k76_0, k76_1c0, k76_1c1, k76_1c2, k76_1c3, k76_1c4, k76_1c5, k76_1c6, k76_1c7, k76_1, k76_48, k76_49, k76_50, k76_52, k76_55, k76_56, k76_57, k76_58, k76_60, k76_63, k76_64, k76_65, k76_66, k76_68, k76_71, k76_72, k76_73, k76_74, k76_77, k76_78, k76_81, k76_82, k76_85, k76_88, k76_89, k76_92, k76_93, k76_94, k76_95, k76_96, k76_98, k76_101, k76_102, k76_103, mm_sI, mm_sJ, mm_sR, mm_cI, mm_cJ, mm_I, mm_J, mm_R, mm_K, mm_N, psh_s, psh_n, z_n, z_i, z_r, z_l, Nat.reduceAdd, Nat.reduceLeDiff, K2 hS, R2_0 hS, R2_1 hS, R2_2 hS, R2_6 hS, R2_8 hS, R2_11 hS, R2_12 hS, R2_13 hS, R2_15 hS, R2_16 hS, K3 hS, K11 hS, K19 hS, K27 hS, K32 hS, K37 hS, K98 hS, K99 hS, K100 hS, N37 hS, N98 hS, N99 hS, N100 hS, false_or, or_false, ne_eq, true_or, or_true, not_false_eq_true, Nat.reduceEqDiff, Nat.reduceLT, Nat.reduceLeDiff, Nat.reduceAdd, s_within, h35, h9, b2i_01, b2i_t c1, b2i_t c2, e10, if_false]
      refine c_addFrog C0 (by omega) c1 c2 (Or.inl rfl) (by decide) ?_
      intro h1 f1 C1 l1
      simp only [k72_0, k72_1, k72_2, k72_3, k72_6, k72_9, k72_10, k72_11, k72_12, k72_15, k72_18, k72_19, k72_22, k72_23, k72_24, k72_25, k72_28, k72_29, k72_32, k72_33, k72_34, k72_35, k72_36, k72_39, k72_42, k72_43, mm_sI, mm_sJ, mm_sR, mm_cI, mm_cJ, mm_I, mm_J, mm_R, mm_K, mm_N, psh_s, psh_n, z_n, z_i, z_r, z_l, Nat.reduceAdd, Nat.reduceLeDiff, false_or, or_false, ne_eq, true_or, or_true, not_false_eq_true, Nat.reduceEqDiff, Nat.reduceLT, Nat.reduceLeDiff, Nat.reduceAdd]
      exact hQ h1 f1 C1 (fun i _ => l1 i)
    · intro h1 f1 D1 Q hQ
      have p1 : (nI F0 = 8) = False := by rw [← nn8, nEq (by omega) (by decide)]; apply eq_false; omega
      simp only [k152_0, k152_1, k152_4, k152_7, k152_8, k152_9, k152_11, k152_14, k152_17, k152_18, k152_19, k152_20, k152_23, k152_25, k152_28, k152_30, k152_33, k152_34, k152_35, k152_36, k152_37, k152_38, k152_41, k148_0, k148_1, k148_2, k148_4, k148_7, mm_sI, mm_sJ, mm_sR, mm_cI, mm_cJ, mm_I, mm_J, mm_R, mm_K, mm_N, psh_s, psh_n, z_n, z_i, z_r, z_l, Nat.reduceAdd, Nat.reduceLeDiff, K113 hS, R113_2 hS, R113_3 hS, R113_5 hS, R113_8 hS, R113_9 hS, R113_10 hS, R113_11 hS, R113_16 hS, R113_17 hS, R113_18 hS, R113_19 hS, R113_20 hS, R113_21 hS, R113_22 hS, R113_26 hS, R113_27 hS, R113_30 hS, R113_32 hS, R113_34 hS, R113_35 hS, R113_36 hS, R113_37 hS, R113_40 hS, R113_41 hS, R113_42 hS, R113_43 hS, R113_44 hS, R113_45 hS, R113_47 hS, K114 hS, K115 hS, K116 hS, K117 hS, K118 hS, K119 hS, K120 hS, K121 hS, K122 hS, K123 hS, K124 hS, K125 hS, K126 hS, K127 hS, K128 hS, K129 hS, K130 hS, K131 hS, K132 hS, K133 hS, K134 hS, K135 hS, K136 hS, K137 hS, K138 hS, K139 hS, K140 hS, K141 hS, K142 hS, N114 hS, N115 hS, N116 hS, N117 hS, N118 hS, N119 hS, N120 hS, N121 hS, N122 hS, N123 hS, N124 hS, N125 hS, N126 hS, N127 hS, N128 hS, N129 hS, N130 hS, N131 hS, N132 hS, N133 hS, N134 hS, N135 hS, N136 hS, N137 hS, N138 hS, N139 hS, N140 hS, N141 hS, N142 hS, false_or, or_false, ne_eq, true_or, or_true, not_false_eq_true, Nat.reduceEqDiff, Nat.reduceLT, Nat.reduceLeDiff, Nat.reduceAdd, s_within', h35, h9, b2i_01, b2i_t c1, b2i_t c2, e10, if_false, D1.eF, p1]
      refine m_newFrog D1 (by omega) c1 c2 (Or.inl rfl) (by decide) ?_
      intro h2 f2 D2 l2
      simp only [k152_0, k152_1, k152_4, k152_7, k152_8, k152_9, k152_11, k152_14, k152_17, k152_18, k152_19, k152_20, k152_23, k152_25, k152_28, k152_30, k152_33, k152_34, k152_35, k152_36, k152_37, k152_38, k152_41, mm_sI, mm_sJ, mm_sR, mm_cI, mm_cJ, mm_I, mm_J, mm_R, mm_K, mm_N, psh_s, psh_n, z_n, z_i, z_r, z_l, Nat.reduceAdd, Nat.reduceLeDiff, false_or, or_false, ne_eq, true_or, or_true, not_false_eq_true, Nat.reduceEqDiff, Nat.reduceLT, Nat.reduceLeDiff, Nat.reduceAdd]
      refine hQ h2 f2 D2 (fun i hi => ?_)
      rw [l2 i, f1.1 127 (by unfold scrA; omega) (by omega)]; exact L0 i hi
end DF
