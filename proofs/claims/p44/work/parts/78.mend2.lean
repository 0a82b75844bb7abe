/-! ===== a mending, noted ===== -/
def fgH : Nat → Nat → Hp → Hp
  | _, 0, h => h
  | i, k + 1, h => fgH (i + 1) k (cpy h (39 + (i + 1)) 0 (39 + i) 0 4)
theorem fgH_v : ∀ {k i : Nat} {h : Hp} {a x : Nat}, fgH i k h a x = if 39 + i ≤ a ∧ a < 39 + i + k ∧ x < 4 then h (a + 1) x else h a x := by
  intro k
  induction k with
  | zero => intro i h a x; rw [fgH, if_neg (by omega)]
  | succ k ih =>
    intro i h a x
    rw [fgH, ih, cpy_00, cpy_00]
    by_cases h1 : a = 39 + i
    · subst h1
      rw [if_neg (show ¬ (39 + (i + 1) ≤ 39 + i ∧ 39 + i < 39 + (i + 1) + k ∧ x < 4) by omega), if_pos rfl]
      by_cases h2 : x < 4
      · rw [if_pos h2, if_pos (by omega)]; rfl
      · rw [if_neg h2, if_neg (by omega)]
    · rw [if_neg h1]
      by_cases h3 : 39 + (i + 1) ≤ a ∧ a < 39 + (i + 1) + k ∧ x < 4
      · rw [if_pos h3, if_neg (by omega), if_pos (by omega)]
      · rw [if_neg h3, if_neg (by omega)]
/-- one forgotten, where there are forty -/
def mF (m : Nat) : Nat := if m = 40 then 39 else m
def dF (m : Nat) : Nat := if m = 40 then 1 else 0
section MN
variable {d : Nat} {M : Mem} {h h0 h1 h2 : Hp} {j : Jp} {r : Rp} {E : EE} {l G F A G' F' : Nat} {W : LW} {b bt bm b' : BB} {Q : Option PV → Mem → Prop}
theorem c_fgL (hS : Sh r E) : ∀ {k i : Nat} {h : Hp}, i + k = 39 → WP d 125 2 [some (vr 2), some (vi (nI (i + 1)))] [] (mm h j r E) Q = Q none (mm (up2 (fgH i k h) 2 10 39) j r E) := by
  intro k
  induction k with
  | zero =>
    intro i h hk
    have : i = 39 := by omega
    subst this
    rw [k125_2]
    simp only [k125_0, k125_1, k125_3, k125_5, k125_8, k125_9, k125_12, k125_13, k125_14, k125_15, k125_16, k125_19, k125_20, k125_21, k125_22, k125_23, k125_24, k125_25, k125_25l, k125_25b, k125_28, k125_31, k125_34, k125_35, k125_37, k125_40, mm_sI, mm_sJ, mm_sR, mm_cI, mm_cJ, mm_I, mm_J, mm_R, mm_K, mm_N, psh_s, psh_n, z_n, z_i, z_r, z_l, Nat.reduceAdd, Nat.reduceLeDiff, K2 hS, R2_0 hS, R2_1 hS, R2_2 hS, R2_6 hS, R2_8 hS, R2_11 hS, R2_12 hS, R2_13 hS, R2_15 hS, R2_16 hS, K3 hS, K11 hS, K19 hS, K27 hS, K32 hS, K37 hS, K98 hS, K99 hS, K100 hS, N37 hS, N98 hS, N99 hS, N100 hS, false_or, or_false, ne_eq, true_or, or_true, not_false_eq_true, Nat.reduceEqDiff, Nat.reduceLT, Nat.reduceLeDiff, Nat.reduceAdd, show nI (39 + 1) = 40 from rfl, Int32.le_refl, if_true]; rfl
  | succ k ih =>
    intro i h hk
    have p1 : ((40 : Int32) ≤ nI (i + 1)) = False := by rw [← nn40, nLe (by decide) (by omega)]; apply eq_false; omega
    obtain ⟨r1, r2, r3⟩ := chR hS (show i < 40 by omega)
    obtain ⟨r4, r5, r6⟩ := chR hS (show i + 1 < 40 by omega)
    have hb : inb (nI i) 40 = True := eq_true (by rw [inb_n (by omega)]; omega)
    have hb1 : inb (nI (i + 1)) 40 = True := eq_true (by rw [inb_n (by omega)]; omega)
    rw [k125_2]
    simp only [k125_0, k125_1, k125_3, k125_5, k125_8, k125_9, k125_12, k125_13, k125_14, k125_15, k125_16, k125_19, k125_20, k125_21, k125_22, k125_23, k125_24, k125_25, k125_25l, k125_25b, k125_28, k125_31, k125_34, k125_35, k125_37, k125_40, mm_sI, mm_sJ, mm_sR, mm_cI, mm_cJ, mm_I, mm_J, mm_R, mm_K, mm_N, psh_s, psh_n, z_n, z_i, z_r, z_l, Nat.reduceAdd, Nat.reduceLeDiff, K2 hS, R2_0 hS, R2_1 hS, R2_2 hS, R2_6 hS, R2_8 hS, R2_11 hS, R2_12 hS, R2_13 hS, R2_15 hS, R2_16 hS, K3 hS, K11 hS, K19 hS, K27 hS, K32 hS, K37 hS, K98 hS, K99 hS, K100 hS, N37 hS, N98 hS, N99 hS, N100 hS, false_or, or_false, ne_eq, true_or, or_true, not_false_eq_true, Nat.reduceEqDiff, Nat.reduceLT, Nat.reduceLeDiff, Nat.reduceAdd, p1, if_false, K38 hS, N38 hS, hb, hb1, ix_n (show i < 2 ^ 31 by omega), ix_n (show i + 1 < 2 ^ 31 by omega), nSub (show i + 1 < 2 ^ 31 by omega), r1, r2, r3, r4, r5, r6, cg1, Int32.lt_irrefl, show ¬ ((4 : Int32) < 0) by decide, ix_c0, ix_c4, Nat.zero_add, Nat.le_refl, true_and, and_true, not_false_eq_true, nS1]
    rw [ih (by omega)]; rfl
theorem c_noteChange {n w o v : Int32} {m : Nat} (hS : Sh r E) (hm : m ≤ 40) (em : h 2 10 = nI m) (hQ : ∀ h1, (∀ a, a ≠ 2 → ¬ (39 ≤ a ∧ a ≤ 78) → h1 a = h a) → (∀ i, i ≠ 9 → i ≠ 10 → h1 2 i = h 2 i) → h1 2 10 = nI (mF m + 1) → h1 2 9 = nI (mF m + 1) →
      (∀ i, i < mF m → ∀ c, c < 4 → h1 (39 + i) c = h (39 + i + dF m) c) → (h1 (39 + mF m) 0 = n ∧ h1 (39 + mF m) 1 = w ∧ h1 (39 + mF m) 2 = o ∧ h1 (39 + mF m) 3 = v) → Q none (mm h1 j r E)) :
    WP (d + 1) 124 0 [some (vr 2), some (vi n), some (vi w), some (vi o), some (vi v), none] [] (mm h j r E) Q := by
  have fin : ∀ (h0 : Hp) (m' : Nat), m' < 40 → h0 2 10 = nI m' → (∀ a, a ≠ 2 → ¬ (39 ≤ a ∧ a ≤ 78) → h0 a = h a) → (∀ i, i ≠ 9 → i ≠ 10 → h0 2 i = h 2 i) → (∀ i, i < m' → ∀ c, c < 4 → h0 (39 + i) c = h (39 + i + dF m) c) → m' = mF m → WP (d + 1) 124 13 [some (vr 2), some (vi n), some (vi w), some (vi o), some (vi v), none] [] (mm h0 j r E) Q := by
    intro h0 m' hm' e0 q1 q2 q3 q4
    subst q4
    obtain ⟨r1, r2, r3⟩ := chR hS hm'
    have hb : inb (nI (mF m)) 40 = True := eq_true (by rw [inb_n (by omega)]; omega)
    have z : ∀ c : Nat, (2 = 39 + c) = False := fun c => by apply eq_false; omega
    simp only [k124_0, k124_1, k124_4, k124_6, k124_9, k124_10, k124_13, k124_14, k124_17, k124_18, k124_21, k124_22, k124_24, k124_26, k124_27, k124_28, k124_29, k124_31, k124_32, k124_33, k124_34, k124_36, k124_37, k124_38, k124_39, k124_41, k124_42, k124_44, k124_45, k124_46, k124_46i, k124_47, k124_50, k124_51, k124_52, k124_55, k124_56, k124_57, k124_60, k124_63, mm_sI, mm_sJ, mm_sR, mm_cI, mm_cJ, mm_I, mm_J, mm_R, mm_K, mm_N, psh_s, psh_n, z_n, z_i, z_r, z_l, Nat.reduceAdd, Nat.reduceLeDiff, K2 hS, R2_0 hS, R2_1 hS, R2_2 hS, R2_6 hS, R2_8 hS, R2_11 hS, R2_12 hS, R2_13 hS, R2_15 hS, R2_16 hS, K3 hS, K11 hS, K19 hS, K27 hS, K32 hS, K37 hS, K98 hS, K99 hS, K100 hS, N37 hS, N98 hS, N99 hS, N100 hS, inb_c0, ix_c0, inb_c1, ix_c1, inb_c2, ix_c2, inb_c3, ix_c3, inb_c4, ix_c4, inb_c5, ix_c5, inb_c6, ix_c6, inb_c7, ix_c7, inb_c8, ix_c8, inb_c32, ix_c32, false_or, or_false, ne_eq, true_or, or_true, not_false_eq_true, Nat.reduceEqDiff, Nat.reduceLT, Nat.reduceLeDiff, Nat.reduceAdd, K38 hS, N38 hS, e0, hb, ix_n (show mF m < 2 ^ 31 by omega), r1, r2, r3, cg1, up2_s, up2_ai, up2_i, z, nS1]
    refine hQ _ ?_ ?_ ?_ ?_ ?_ ?_
    · intro a p q
      rw [up2_a p, up2_a p, up2_a (by omega), up2_a (by omega), up2_a (by omega), up2_a (by omega)]; exact q1 a p q
    · intro i p q
      rw [up2_i p, up2_i q, up2_a (by omega), up2_a (by omega), up2_a (by omega), up2_a (by omega)]; exact q2 i p q
    · rw [up2_i (by decide), up2_s]
    · rw [up2_s]
    · intro i hi c hc
      rw [up2_a (by omega), up2_a (by omega), up2_a (by omega), up2_a (by omega), up2_a (by omega), up2_a (by omega)]; exact q3 i hi c hc
    · refine ⟨?_, ?_, ?_, ?_⟩
      · rw [up2_a (by omega), up2_a (by omega), up2_i (by decide), up2_i (by decide), up2_i (by decide), up2_s]
      · rw [up2_a (by omega), up2_a (by omega), up2_i (by decide), up2_i (by decide), up2_s]
      · rw [up2_a (by omega), up2_a (by omega), up2_i (by decide), up2_s]
      · rw [up2_a (by omega), up2_a (by omega), up2_s]
  by_cases c : m = 40
  · have p1 : ¬ nI m < 40 := by rw [← nn40, nLt (by omega) (by decide)]; omega
    simp only [k124_0, k124_1, k124_4, k124_6, k124_9, k124_10, k124_14, k124_17, k124_18, k124_21, k124_22, k124_24, k124_26, k124_27, k124_28, k124_29, k124_31, k124_32, k124_33, k124_34, k124_36, k124_37, k124_38, k124_39, k124_41, k124_42, k124_44, k124_45, k124_46, k124_46i, k124_47, k124_50, k124_51, k124_52, k124_55, k124_56, k124_57, k124_60, k124_63, mm_sI, mm_sJ, mm_sR, mm_cI, mm_cJ, mm_I, mm_J, mm_R, mm_K, mm_N, psh_s, psh_n, z_n, z_i, z_r, z_l, Nat.reduceAdd, Nat.reduceLeDiff, K2 hS, R2_0 hS, R2_1 hS, R2_2 hS, R2_6 hS, R2_8 hS, R2_11 hS, R2_12 hS, R2_13 hS, R2_15 hS, R2_16 hS, K3 hS, K11 hS, K19 hS, K27 hS, K32 hS, K37 hS, K98 hS, K99 hS, K100 hS, N37 hS, N98 hS, N99 hS, N100 hS, false_or, or_false, ne_eq, true_or, or_true, not_false_eq_true, Nat.reduceEqDiff, Nat.reduceLT, Nat.reduceLeDiff, Nat.reduceAdd, em, p1, if_false]
    simp only [k125_0, k125_1, k125_3, k125_5, k125_8, k125_9, k125_12, k125_13, k125_14, k125_15, k125_16, k125_19, k125_20, k125_21, k125_22, k125_23, k125_24, k125_25, k125_25l, k125_25b, k125_28, k125_31, k125_34, k125_35, k125_37, k125_40, mm_sI, mm_sJ, mm_sR, mm_cI, mm_cJ, mm_I, mm_J, mm_R, mm_K, mm_N, psh_s, psh_n, z_n, z_i, z_r, z_l, Nat.reduceAdd, Nat.reduceLeDiff, false_or, or_false, ne_eq, true_or, or_true, not_false_eq_true, Nat.reduceEqDiff, Nat.reduceLT, Nat.reduceLeDiff, Nat.reduceAdd]
    rw [show (1 : Int32) = nI (0 + 1) from rfl, c_fgL hS (k := 39) (i := 0) (by omega)]
    simp only [k124_0, k124_1, k124_4, k124_6, k124_9, k124_10, k124_14, k124_17, k124_18, k124_21, k124_22, k124_24, k124_26, k124_27, k124_28, k124_29, k124_31, k124_32, k124_33, k124_34, k124_36, k124_37, k124_38, k124_39, k124_41, k124_42, k124_44, k124_45, k124_46, k124_46i, k124_47, k124_50, k124_51, k124_52, k124_55, k124_56, k124_57, k124_60, k124_63, mm_sI, mm_sJ, mm_sR, mm_cI, mm_cJ, mm_I, mm_J, mm_R, mm_K, mm_N, psh_s, psh_n, z_n, z_i, z_r, z_l, Nat.reduceAdd, Nat.reduceLeDiff, false_or, or_false, ne_eq, true_or, or_true, not_false_eq_true, Nat.reduceEqDiff, Nat.reduceLT, Nat.reduceLeDiff, Nat.reduceAdd]
    have e9 : mF m = 39 := by unfold mF; rw [if_pos c]
    have d9 : dF m = 1 := by unfold dF; rw [if_pos c]
    refine fin _ 39 (by decide) (by rw [up2_s]; rfl) ?_ ?_ ?_ e9.symm
    · intro a p q; rw [up2_a p]; funext x; rw [fgH_v, if_neg (by omega)]
    · intro i p q; rw [up2_i q, fgH_v, if_neg (by omega)]
    · intro i hi c hc; rw [up2_a (by omega), fgH_v, if_pos (by omega), d9]
  · have p1 : nI m < 40 := by rw [← nn40, nLt (by omega) (by decide)]; omega
    have e9 : mF m = m := by unfold mF; rw [if_neg c]
    have d9 : dF m = 0 := by unfold dF; rw [if_neg c]
    simp only [k124_0, k124_1, k124_4, k124_6, k124_9, k124_10, k124_14, k124_17, k124_18, k124_21, k124_22, k124_24, k124_26, k124_27, k124_28, k124_29, k124_31, k124_32, k124_33, k124_34, k124_36, k124_37, k124_38, k124_39, k124_41, k124_42, k124_44, k124_45, k124_46, k124_46i, k124_47, k124_50, k124_51, k124_52, k124_55, k124_56, k124_57, k124_60, k124_63, mm_sI, mm_sJ, mm_sR, mm_cI, mm_cJ, mm_I, mm_J, mm_R, mm_K, mm_N, psh_s, psh_n, z_n, z_i, z_r, z_l, Nat.reduceAdd, Nat.reduceLeDiff, K2 hS, R2_0 hS, R2_1 hS, R2_2 hS, R2_6 hS, R2_8 hS, R2_11 hS, R2_12 hS, R2_13 hS, R2_15 hS, R2_16 hS, K3 hS, K11 hS, K19 hS, K27 hS, K32 hS, K37 hS, K98 hS, K99 hS, K100 hS, N37 hS, N98 hS, N99 hS, N100 hS, false_or, or_false, ne_eq, true_or, or_true, not_false_eq_true, Nat.reduceEqDiff, Nat.reduceLT, Nat.reduceLeDiff, Nat.reduceAdd, em, p1, if_true]
    refine fin h m (by omega) em (fun _ _ _ => rfl) (fun _ _ _ => rfl) (fun i hi c hc => by rw [d9]; rfl) e9.symm
end MN
