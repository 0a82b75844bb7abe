/-! ===== deeds in the marsh: frogs, loans, hours ===== -/
def addF (b : BB) (F : Nat) (p k o v : Int32) : BB := up2 (up2 (up2 (up2 b 2 F p) 3 F k) 4 F o) 5 F v
section DF
variable {d : Nat} {M : Mem} {h h0 h1 h2 : Hp} {j : Jp} {r : Rp} {E : EE} {l G F A n G' F' : Nat} {W : LW} {b bt bm b' : BB} {Q : Option PV → Mem → Prop}
theorem bC_frog {p q o v : Int32} : bC (up2 (up2 (up2 (up2 (up2 h 6 F p) 7 F q) 8 F o) 9 F v) 3 8 (nI (F + 1))) 3 G (F + 1) = addF (bC h 3 G F) F p q o v := by
  unfold addF
  funext k i
  by_cases k2 : k = 2
  · subst k2
    by_cases e : i = F
    · subst e; simp [bC, up2, cut]
    · simp only [bC, up2, cut, e, if_true, if_false, show (2 : Nat) < 6 by decide, show ¬ (2 : Nat) < 2 by decide, show ((3 : Nat) + 1 + 2 = 6) by decide, show ¬ ((3 : Nat) + 1 + 2 = 7) by decide, show ¬ ((3 : Nat) + 1 + 2 = 8) by decide, show ¬ ((3 : Nat) + 1 + 2 = 9) by decide, show ¬ ((3 : Nat) + 1 + 2 = 3) by decide, show ¬ ((2 : Nat) = 3) by decide, show ¬ ((2 : Nat) = 4) by decide, show ¬ ((2 : Nat) = 5) by decide]
      by_cases c : i < F
      · rw [if_pos (by omega), if_pos c]
      · rw [if_neg (by omega), if_neg c]
  by_cases k3 : k = 3
  · subst k3
    by_cases e : i = F
    · subst e; simp [bC, up2, cut]
    · simp only [bC, up2, cut, e, if_true, if_false, show (3 : Nat) < 6 by decide, show ¬ (3 : Nat) < 2 by decide, show ((3 : Nat) + 1 + 3 = 7) by decide, show ¬ ((3 : Nat) + 1 + 3 = 6) by decide, show ¬ ((3 : Nat) + 1 + 3 = 8) by decide, show ¬ ((3 : Nat) + 1 + 3 = 9) by decide, show ¬ ((3 : Nat) + 1 + 3 = 3) by decide, show ¬ ((3 : Nat) = 2) by decide, show ¬ ((3 : Nat) = 4) by decide, show ¬ ((3 : Nat) = 5) by decide]
      by_cases c : i < F
      · rw [if_pos (by omega), if_pos c]
      · rw [if_neg (by omega), if_neg c]
  by_cases k4 : k = 4
  · subst k4
    by_cases e : i = F
    · subst e; simp [bC, up2, cut]
    · simp only [bC, up2, cut, e, if_true, if_false, show (4 : Nat) < 6 by decide, show ¬ (4 : Nat) < 2 by decide, show ((3 : Nat) + 1 + 4 = 8) by decide, show ¬ ((3 : Nat) + 1 + 4 = 6) by decide, show ¬ ((3 : Nat) + 1 + 4 = 7) by decide, show ¬ ((3 : Nat) + 1 + 4 = 9) by decide, show ¬ ((3 : Nat) + 1 + 4 = 3) by decide, show ¬ ((4 : Nat) = 2) by decide, show ¬ ((4 : Nat) = 3) by decide, show ¬ ((4 : Nat) = 5) by decide]
      by_cases c : i < F
      · rw [if_pos (by omega), if_pos c]
      · rw [if_neg (by omega), if_neg c]
  by_cases k5 : k = 5
  · subst k5
    by_cases e : i = F
    · subst e; simp [bC, up2, cut]
    · simp only [bC, up2, cut, e, if_true, if_false, show (5 : Nat) < 6 by decide, show ¬ (5 : Nat) < 2 by decide, show ((3 : Nat) + 1 + 5 = 9) by decide, show ¬ ((3 : Nat) + 1 + 5 = 6) by decide, show ¬ ((3 : Nat) + 1 + 5 = 7) by decide, show ¬ ((3 : Nat) + 1 + 5 = 8) by decide, show ¬ ((3 : Nat) + 1 + 5 = 3) by decide, show ¬ ((5 : Nat) = 2) by decide, show ¬ ((5 : Nat) = 3) by decide, show ¬ ((5 : Nat) = 4) by decide]
      by_cases c : i < F
      · rw [if_pos (by omega), if_pos c]
      · rw [if_neg (by omega), if_neg c]
  simp only [bC, up2, k2, k3, k4, k5, if_false]
  by_cases k6 : k < 6
  · have c2 : k < 2 := by omega
    simp only [k6, if_true, cut, c2, if_false, show ¬ (3 + 1 + k = 3) by omega, show ¬ (3 + 1 + k = 6) by omega, show ¬ (3 + 1 + k = 7) by omega, show ¬ (3 + 1 + k = 8) by omega, show ¬ (3 + 1 + k = 9) by omega]
  · simp only [k6, if_false, if_true, show ¬ ((9 : Nat) = 8) by decide, show ¬ ((10 : Nat) = 8) by decide, show ¬ ((3 : Nat) = 6) by decide, show ¬ ((3 : Nat) = 7) by decide, show ¬ ((3 : Nat) = 8) by decide, show ¬ ((3 : Nat) = 9) by decide]
theorem WF.frog {p q o v : Int32} (w : WF G F b) (hp : inb p 36) (hq : inb q 10) (ho : o = -1 ∨ inb o G) (hv : inb v 100) : WF G (F + 1) (addF b F p q o v) := by
  intro k i hk hi
  unfold addF
  simp only [up2]
  by_cases k5 : k = 5
  · subst k5
    have hi : i < F + 1 := hi
    by_cases e : i = F
    · simp only [e, if_true]; exact hv
    · simp only [e, if_true, if_false, show ¬ ((5 : Nat) = 2) by decide, show ¬ ((5 : Nat) = 3) by decide, show ¬ ((5 : Nat) = 4) by decide]
      exact w 5 i (by decide) (show i < F by omega)
  by_cases k4 : k = 4
  · subst k4
    have hi : i < F + 1 := hi
    by_cases e : i = F
    · simp only [e, if_true, if_false, show ¬ ((4 : Nat) = 5) by decide]; exact ho
    · simp only [e, if_true, if_false, show ¬ ((4 : Nat) = 2) by decide, show ¬ ((4 : Nat) = 3) by decide, show ¬ ((4 : Nat) = 5) by decide]
      exact w 4 i (by decide) (show i < F by omega)
  by_cases k3 : k = 3
  · subst k3
    have hi : i < F + 1 := hi
    by_cases e : i = F
    · simp only [e, if_true, if_false, show ¬ ((3 : Nat) = 4) by decide, show ¬ ((3 : Nat) = 5) by decide]; exact hq
    · simp only [e, if_true, if_false, show ¬ ((3 : Nat) = 2) by decide, show ¬ ((3 : Nat) = 4) by decide, show ¬ ((3 : Nat) = 5) by decide]
      exact w 3 i (by decide) (show i < F by omega)
  by_cases k2 : k = 2
  · subst k2
    have hi : i < F + 1 := hi
    by_cases e : i = F
    · simp only [e, if_true, if_false, show ¬ ((2 : Nat) = 3) by decide, show ¬ ((2 : Nat) = 4) by decide, show ¬ ((2 : Nat) = 5) by decide]; exact hp
    · simp only [e, if_true, if_false, show ¬ ((2 : Nat) = 3) by decide, show ¬ ((2 : Nat) = 4) by decide, show ¬ ((2 : Nat) = 5) by decide]
      exact w 2 i (by decide) (show i < F by omega)
  simp only [k2, k3, k4, k5, if_false]
  have hi : i < cutW G F k := by
    unfold cutW at hi ⊢
    split at hi
    · rw [if_pos ‹_›]; exact hi
    · rw [if_neg ‹_›]
      split at hi
      · omega
      · rw [if_neg ‹_›]; exact hi
  exact w k i hk hi
theorem c_addFrog {p q o v : Int32} (C : CC G F l W b h r E) (hF : F < 8) (hp : inb p 36) (hq : inb q 10) (ho : o = -1 ∨ inb o G) (hv : inb v 100) (hQ : ∀ h1, FC h h1 → CC G (F + 1) l W (addF b F p q o v) h1 r E → (∀ i, h1 10 i = h 10 i) → Q (some (vi (nI F))) (mm h1 j r E)) :
    WP d 27 0 [some (vr 3), some (vi p), some (vi q), some (vi o), some (vi v)] [] (mm h j r E) Q := by
  have hS := C.S
  have p1 : nI F < 8 := by rw [← nn8, nLt (by omega) (by decide)]; omega
  have hb : inb (nI F) 8 = True := eq_true (by rw [inb_n (by omega)]; omega)
  simp only [k27_0, k27_1, k27_4, k27_6, k27_9, k27_11, k27_12, k27_13, k27_16, k27_17, k27_20, k27_21, k27_22, k27_23, k27_26, k27_27, k27_30, k27_31, k27_32, k27_33, k27_36, k27_37, k27_40, k27_41, k27_42, k27_43, k27_46, k27_47, k27_50, k27_52, k27_53, k27_54, k27_54i, k27_55, k27_58, k27_59, k27_60, k27_63, k27_64, k27_67, k27_68, k27_69, mm_sI, mm_sJ, mm_sR, mm_cI, mm_cJ, mm_I, mm_J, mm_R, mm_K, mm_N, psh_s, psh_n, z_n, z_i, z_r, z_l, Nat.reduceAdd, Nat.reduceLeDiff, K2 hS, R2_0 hS, R2_1 hS, R2_2 hS, R2_6 hS, R2_8 hS, R2_11 hS, R2_12 hS, R2_13 hS, R2_15 hS, R2_16 hS, K3 hS, K11 hS, K19 hS, K27 hS, K32 hS, K37 hS, K98 hS, K99 hS, K100 hS, N37 hS, N98 hS, N99 hS, N100 hS, R3_0 hS, R3_1 hS, R3_2 hS, R3_3 hS, R3_4 hS, R3_5 hS, R3_6 hS, K4 hS, K5 hS, K6 hS, K7 hS, K8 hS, K9 hS, K10 hS, N4 hS, N5 hS, N6 hS, N7 hS, N8 hS, N9 hS, N10 hS, up2_s, up2_ai, up2_i, false_or, or_false, ne_eq, true_or, or_true, not_false_eq_true, Nat.reduceEqDiff, Nat.reduceLT, Nat.reduceLeDiff, Nat.reduceAdd, C.eF, p1, if_true, hb, ix_n (show F < 2 ^ 31 by omega), nS1, nSub (show F + 1 < 2 ^ 31 by omega)]
  have fc : FC h (up2 (up2 (up2 (up2 (up2 h 6 F p) 7 F q) 8 F o) 9 F v) 3 8 (nI (F + 1))) := FC.up (FC.up (FC.up (FC.up (FC.up FC.rf (by decide)) (by decide)) (by decide)) (by decide)) (by decide)
  refine hQ _ fc (C.mk fc ?_ ?_ C.G8 (by omega) ?_ (C.w.frog hp hq ho hv)) ?_
  · rw [up2_i (by decide), up2_a (by decide), up2_a (by decide), up2_a (by decide), up2_a (by decide)]; exact C.eG
  · rw [up2_s]
  · rw [bC_frog, C.eb]
  · intro i; rw [up2_a (by decide), up2_a (by decide), up2_a (by decide), up2_a (by decide), up2_a (by decide)]
end DF
