/-! ===== the model keeps, lays back ===== -/
def lay1 (A : Nat) : Nat → Nat → Hp → Hp
  | _, 0, h => h
  | i, k + 1, h => lay1 A (i + 1) k (up2 h 114 (8 + i) (h A i))
def lay3 (A : Nat) : Nat → Nat → Hp → Hp
  | _, 0, h => h
  | i, k + 1, h => lay3 A (i + 1) k (up2 (up2 (up2 h 114 (16 + i) (h A (8 + i))) 114 (32 + i) (h A (16 + i))) 114 (40 + i) (h A (24 + i)))
def kepL (A : Nat) : Nat → Nat → Hp → Hp
  | _, 0, h => h
  | i, k + 1, h => kepL A (i + 1) k (up2 (up2 (up2 (up2 h A i (h 114 (8 + i))) A (8 + i) (h 114 (16 + i))) A (16 + i) (h 114 (32 + i))) A (24 + i) (h 114 (40 + i)))
/-- what is kept at A is what was at first -/
def Kep (h0 h : Hp) (A : Nat) : Prop := (∀ i, i < 8 → h A i = h0 114 (8 + i) ∧ h A (8 + i) = h0 114 (16 + i) ∧ h A (16 + i) = h0 114 (32 + i) ∧ h A (24 + i) = h0 114 (40 + i)) ∧ h A 32 = h0 115 1
/-- worked with, and hours run -/
def SG (h h' : Hp) : Prop := (∀ a, ¬ scrA a → a ≠ 114 → a ≠ 115 → h' a = h a) ∧ (∀ i, i ≠ 5 → h' 27 i = h 27 i ∧ h' 32 i = h 32 i) ∧ (∀ i, i ≠ 38 → i ≠ 39 → i ≠ 46 → h' 113 i = h 113 i) ∧ (∀ i, ¬ (8 ≤ i ∧ i < 24 ∨ 32 ≤ i ∧ i < 48) → h' 114 i = h 114 i) ∧ ∀ i, i ≠ 1 → h' 115 i = h 115 i
section KM
variable {d : Nat} {M : Mem} {h h0 h1 : Hp} {j : Jp} {r : Rp} {E : EE} {Q : Option PV → Mem → Prop} {G F A : Nat} {W : LW} {b bt : BB}
theorem lay1_v (hA : A ≠ 114) : ∀ {k i : Nat} {h : Hp} {a x : Nat}, lay1 A i k h a x = if a = 114 ∧ 8 + i ≤ x ∧ x < 8 + i + k then h A (x - 8) else h a x := by
  intro k
  induction k with
  | zero => intro i h a x; rw [lay1, if_neg (by omega)]
  | succ k ih =>
    intro i h a x
    rw [lay1, ih]
    simp only [up2, hA, if_false]
    by_cases h1 : a = 114
    · subst h1
      by_cases h2 : x = 8 + i
      · subst h2; simp
      · by_cases h3 : 8 + (i + 1) ≤ x ∧ x < 8 + (i + 1) + k
        · rw [if_pos ⟨rfl, h3⟩, if_pos (by omega)]
        · rw [if_neg (fun h => h3 h.2), if_pos rfl, if_neg h2, if_neg (by omega)]
    · simp [h1]
theorem lay3_v (hA : A ≠ 114) : ∀ {k i : Nat} {h : Hp} {a x : Nat}, i + k ≤ 8 → lay3 A i k h a x = if a = 114 ∧ 16 + i ≤ x ∧ x < 16 + i + k then h A (x - 8) else if a = 114 ∧ 32 + i ≤ x ∧ x < 32 + i + k then h A (x - 16) else if a = 114 ∧ 40 + i ≤ x ∧ x < 40 + i + k then h A (x - 16) else h a x := by
  intro k
  induction k with
  | zero => intro i h a x _; rw [lay3, if_neg (by omega), if_neg (by omega), if_neg (by omega)]
  | succ k ih =>
    intro i h a x hk
    rw [lay3, ih (by omega)]
    simp only [up2, hA, if_false]
    by_cases h1 : a = 114
    · subst h1
      simp only [true_and, if_true]
      by_cases e1 : x = 16 + i
      · subst e1
        rw [if_neg (by omega), if_neg (by omega), if_neg (by omega), if_neg (by omega), if_neg (by omega), if_pos rfl, if_pos (by omega)]
        congr 1; omega
      · by_cases e2 : x = 32 + i
        · subst e2
          rw [if_neg (by omega), if_neg (by omega), if_neg (by omega), if_neg (by omega), if_pos rfl, if_neg (by omega), if_pos (by omega)]
          congr 1; omega
        · by_cases e3 : x = 40 + i
          · subst e3
            rw [if_neg (by omega), if_neg (by omega), if_neg (by omega), if_pos rfl, if_neg (by omega), if_neg (by omega), if_pos (by omega)]
            congr 1; omega
          · rw [if_neg e3, if_neg e2, if_neg e1]
            by_cases b1 : 16 + (i + 1) ≤ x ∧ x < 16 + (i + 1) + k
            · rw [if_pos b1, if_pos (by omega)]
            · rw [if_neg b1, if_neg (show ¬ (16 + i ≤ x ∧ x < 16 + i + (k + 1)) by omega)]
              by_cases b2 : 32 + (i + 1) ≤ x ∧ x < 32 + (i + 1) + k
              · rw [if_pos b2, if_pos (by omega)]
              · rw [if_neg b2, if_neg (show ¬ (32 + i ≤ x ∧ x < 32 + i + (k + 1)) by omega)]
                by_cases b3 : 40 + (i + 1) ≤ x ∧ x < 40 + (i + 1) + k
                · rw [if_pos b3, if_pos (by omega)]
                · rw [if_neg b3, if_neg (show ¬ (40 + i ≤ x ∧ x < 40 + i + (k + 1)) by omega)]
    · simp [h1]
theorem kepL_v (hA : A ≠ 114) : ∀ {k i : Nat} {h : Hp} {a x : Nat}, i + k ≤ 8 → kepL A i k h a x = if a = A ∧ i ≤ x ∧ x < i + k then h 114 (x + 8) else if a = A ∧ 8 + i ≤ x ∧ x < 8 + i + k then h 114 (x + 8) else if a = A ∧ 16 + i ≤ x ∧ x < 16 + i + k then h 114 (x + 16) else if a = A ∧ 24 + i ≤ x ∧ x < 24 + i + k then h 114 (x + 16) else h a x := by
  intro k
  induction k with
  | zero => intro i h a x _; rw [kepL, if_neg (by omega), if_neg (by omega), if_neg (by omega), if_neg (by omega)]
  | succ k ih =>
    intro i h a x hk
    rw [kepL, ih (by omega)]
    simp only [up2, Ne.symm hA, if_false]
    by_cases h1 : a = A
    · subst h1
      simp only [true_and, if_true]
      by_cases e1 : x = i
      · subst e1
        rw [if_neg (by omega), if_neg (by omega), if_neg (by omega), if_neg (by omega), if_neg (by omega), if_neg (by omega), if_neg (by omega), if_pos rfl, if_pos (by omega)]
        congr 1; omega
      · by_cases e2 : x = 8 + i
        · subst e2
          rw [if_neg (by omega), if_neg (by omega), if_neg (by omega), if_neg (by omega), if_neg (by omega), if_neg (by omega), if_pos rfl, if_neg (by omega), if_pos (by omega)]
          congr 1; omega
        · by_cases e3 : x = 16 + i
          · subst e3
            rw [if_neg (by omega), if_neg (by omega), if_neg (by omega), if_neg (by omega), if_neg (by omega), if_pos rfl, if_neg (by omega), if_neg (by omega), if_pos (by omega)]
            congr 1; omega
          · by_cases e4 : x = 24 + i
            · subst e4
              rw [if_neg (by omega), if_neg (by omega), if_neg (by omega), if_neg (by omega), if_pos rfl, if_neg (by omega), if_neg (by omega), if_neg (by omega), if_pos (by omega)]
              congr 1; omega
            · rw [if_neg e4, if_neg e3, if_neg e2, if_neg e1]
              by_cases b0 : (i + 1) ≤ x ∧ x < (i + 1) + k
              · rw [if_pos b0, if_pos (by omega)]
              · rw [if_neg b0, if_neg (show ¬ (i ≤ x ∧ x < i + (k + 1)) by omega)]
                by_cases b1 : 8 + (i + 1) ≤ x ∧ x < 8 + (i + 1) + k
                · rw [if_pos b1, if_pos (by omega)]
                · rw [if_neg b1, if_neg (show ¬ (8 + i ≤ x ∧ x < 8 + i + (k + 1)) by omega)]
                  by_cases b2 : 16 + (i + 1) ≤ x ∧ x < 16 + (i + 1) + k
                  · rw [if_pos b2, if_pos (by omega)]
                  · rw [if_neg b2, if_neg (show ¬ (16 + i ≤ x ∧ x < 16 + i + (k + 1)) by omega)]
                    by_cases b3 : 24 + (i + 1) ≤ x ∧ x < 24 + (i + 1) + k
                    · rw [if_pos b3, if_pos (by omega)]
                    · rw [if_neg b3, if_neg (show ¬ (24 + i ≤ x ∧ x < 24 + i + (k + 1)) by omega)]
    · simp [h1]
theorem m_kepL (hS : Sh r E) (hA : E.1 A = 13) (hN : E.2.1 A = 33) (hA1 : A ≠ 1) (hA4 : A ≠ 114) : ∀ {k i : Nat} {h : Hp}, i + k = 8 →
    WP d 190 2 [some (vr 113), some (vr A), some (vi (nI i))] [] (mm h j r E) Q = WP d 190 71 [some (vr 113), some (vr A), some (vi 8)] [] (mm (kepL A i k h) j r E) Q := by
  have hA1' : (A = 1) = False := eq_false hA1
  have hA4' : (A = 114) = False := eq_false hA4
  have hA5' : (114 = A) = False := eq_false (Ne.symm hA4)
  intro k
  induction k with
  | zero =>
    intro i h hk
    have : i = 8 := by omega
    subst this
    rw [k190_2]
    simp only [k190_0, k190_1, k190_3, k190_5, k190_8, k190_9, k190_10, k190_11, k190_14, k190_16, k190_17, k190_18, k190_19, k190_20, k190_21, k190_23, k190_24, k190_25, k190_26, k190_29, k190_31, k190_32, k190_33, k190_34, k190_35, k190_36, k190_38, k190_39, k190_40, k190_41, k190_44, k190_46, k190_47, k190_48, k190_49, k190_50, k190_51, k190_53, k190_54, k190_55, k190_56, k190_59, k190_61, k190_62, k190_63, k190_64, k190_65, k190_68, k190_72, k190_74, k190_75, k190_78, k190_79, k190_80, k190_81, mm_sI, mm_sJ, mm_sR, mm_cI, mm_cJ, mm_I, mm_J, mm_R, mm_K, mm_N, psh_s, psh_n, z_n, z_i, z_r, z_l, Nat.reduceAdd, Nat.reduceLeDiff, ne_eq, true_or, or_true, not_false_eq_true, Nat.reduceEqDiff, Nat.reduceLT, Nat.reduceLeDiff, Nat.reduceAdd, nn8, Int32.le_refl, if_true]; rfl
  | succ k ih =>
    intro i h hk
    have hi8 : ((8 : Int32) ≤ nI i) = False := by rw [← nn8, nLe (by omega) (by omega)]; apply eq_false; omega
    have hb : ∀ c, c ≤ 40 → inb (nI (c + i)) 48 = True := fun c hc => eq_true (by rw [inb_n (by omega)]; omega)
    have hx : ∀ c, c ≤ 40 → ix (nI (c + i)) = c + i := fun c hc => ix_n (by omega)
    have hbA : ∀ c, c ≤ 24 → inb (nI (c + i)) 33 = True := fun c hc => eq_true (by rw [inb_n (by omega)]; omega)
    have hbA0 : inb (nI i) 33 = True := eq_true (by rw [inb_n (by omega)]; omega)
    have hx0 : ix (nI i) = i := ix_n (by omega)
    rw [k190_2]
    simp only [k190_0, k190_1, k190_3, k190_5, k190_8, k190_9, k190_10, k190_11, k190_14, k190_16, k190_17, k190_18, k190_19, k190_20, k190_21, k190_23, k190_24, k190_25, k190_26, k190_29, k190_31, k190_32, k190_33, k190_34, k190_35, k190_36, k190_38, k190_39, k190_40, k190_41, k190_44, k190_46, k190_47, k190_48, k190_49, k190_50, k190_51, k190_53, k190_54, k190_55, k190_56, k190_59, k190_61, k190_62, k190_63, k190_64, k190_65, k190_68, k190_72, k190_74, k190_75, k190_78, k190_79, k190_80, k190_81, mm_sI, mm_sJ, mm_sR, mm_cI, mm_cJ, mm_I, mm_J, mm_R, mm_K, mm_N, psh_s, psh_n, z_n, z_i, z_r, z_l, Nat.reduceAdd, Nat.reduceLeDiff, K113 hS, R113_2 hS, R113_3 hS, R113_5 hS, R113_8 hS, R113_9 hS, R113_10 hS, R113_11 hS, R113_16 hS, R113_17 hS, R113_18 hS, R113_19 hS, R113_20 hS, R113_21 hS, R113_22 hS, R113_26 hS, R113_27 hS, R113_30 hS, R113_32 hS, R113_34 hS, R113_35 hS, R113_36 hS, R113_37 hS, R113_40 hS, R113_41 hS, R113_42 hS, R113_43 hS, R113_44 hS, R113_45 hS, R113_47 hS, K114 hS, K115 hS, K116 hS, K117 hS, K118 hS, K119 hS, K120 hS, K121 hS, K122 hS, K123 hS, K124 hS, K125 hS, K126 hS, K127 hS, K128 hS, K129 hS, K130 hS, K131 hS, K132 hS, K133 hS, K134 hS, K135 hS, K136 hS, K137 hS, K138 hS, K139 hS, K140 hS, K141 hS, K142 hS, N114 hS, N115 hS, N116 hS, N117 hS, N118 hS, N119 hS, N120 hS, N121 hS, N122 hS, N123 hS, N124 hS, N125 hS, N126 hS, N127 hS, N128 hS, N129 hS, N130 hS, N131 hS, N132 hS, N133 hS, N134 hS, N135 hS, N136 hS, N137 hS, N138 hS, N139 hS, N140 hS, N141 hS, N142 hS, ne_eq, true_or, or_true, not_false_eq_true, Nat.reduceEqDiff, Nat.reduceLT, Nat.reduceLeDiff, Nat.reduceAdd, hi8, if_false, a8, a16, a24, a32, a40, hb, hx, hbA, hbA0, hx0, hN, hA, hA1', hA4', hA5', up2_ai, nS1]
    rw [ih (by omega)]
    rfl
theorem m_keeps (hS : Sh r E) (hA : E.1 A = 13) (hN : E.2.1 A = 33) (hA1 : A ≠ 1) (hA4 : A ≠ 114) (hA5 : A ≠ 115)
    (hQ : ∀ h', (∀ a, a ≠ A → h' a = h a) → (∀ i, 33 ≤ i → h' A i = h A i) → Kep h h' A → Q none (mm h' j r E)) :
    WP d 190 0 [some (vr 113), some (vr A), none] [] (mm h j r E) Q := by
  have hA1' : (A = 1) = False := eq_false hA1
  simp only [k190_0, k190_1, k190_3, k190_5, k190_8, k190_9, k190_10, k190_11, k190_14, k190_16, k190_17, k190_18, k190_19, k190_20, k190_21, k190_23, k190_24, k190_25, k190_26, k190_29, k190_31, k190_32, k190_33, k190_34, k190_35, k190_36, k190_38, k190_39, k190_40, k190_41, k190_44, k190_46, k190_47, k190_48, k190_49, k190_50, k190_51, k190_53, k190_54, k190_55, k190_56, k190_59, k190_61, k190_62, k190_63, k190_64, k190_65, k190_68, k190_71, k190_72, k190_74, k190_75, k190_78, k190_79, k190_80, k190_81, mm_sI, mm_sJ, mm_sR, mm_cI, mm_cJ, mm_I, mm_J, mm_R, mm_K, mm_N, psh_s, psh_n, z_n, z_i, z_r, z_l, Nat.reduceAdd, Nat.reduceLeDiff, ne_eq, true_or, or_true, not_false_eq_true, Nat.reduceEqDiff, Nat.reduceLT, Nat.reduceLeDiff, Nat.reduceAdd]
  rw [show (0 : Int32) = nI 0 from rfl, m_kepL hS hA hN hA1 hA4 (k := 8) (i := 0) rfl]
  simp only [k190_0, k190_1, k190_3, k190_5, k190_8, k190_9, k190_10, k190_11, k190_14, k190_16, k190_17, k190_18, k190_19, k190_20, k190_21, k190_23, k190_24, k190_25, k190_26, k190_29, k190_31, k190_32, k190_33, k190_34, k190_35, k190_36, k190_38, k190_39, k190_40, k190_41, k190_44, k190_46, k190_47, k190_48, k190_49, k190_50, k190_51, k190_53, k190_54, k190_55, k190_56, k190_59, k190_61, k190_62, k190_63, k190_64, k190_65, k190_68, k190_71, k190_72, k190_74, k190_75, k190_78, k190_79, k190_80, k190_81, mm_sI, mm_sJ, mm_sR, mm_cI, mm_cJ, mm_I, mm_J, mm_R, mm_K, mm_N, psh_s, psh_n, z_n, z_i, z_r, z_l, Nat.reduceAdd, Nat.reduceLeDiff, K113 hS, R113_2 hS, R113_3 hS, R113_5 hS, R113_8 hS, R113_9 hS, R113_10 hS, R113_11 hS, R113_16 hS, R113_17 hS, R113_18 hS, R113_19 hS, R113_20 hS, R113_21 hS, R113_22 hS, R113_26 hS, R113_27 hS, R113_30 hS, R113_32 hS, R113_34 hS, R113_35 hS, R113_36 hS, R113_37 hS, R113_40 hS, R113_41 hS, R113_42 hS, R113_43 hS, R113_44 hS, R113_45 hS, R113_47 hS, K114 hS, K115 hS, K116 hS, K117 hS, K118 hS, K119 hS, K120 hS, K121 hS, K122 hS, K123 hS, K124 hS, K125 hS, K126 hS, K127 hS, K128 hS, K129 hS, K130 hS, K131 hS, K132 hS, K133 hS, K134 hS, K135 hS, K136 hS, K137 hS, K138 hS, K139 hS, K140 hS, K141 hS, K142 hS, N114 hS, N115 hS, N116 hS, N117 hS, N118 hS, N119 hS, N120 hS, N121 hS, N122 hS, N123 hS, N124 hS, N125 hS, N126 hS, N127 hS, N128 hS, N129 hS, N130 hS, N131 hS, N132 hS, N133 hS, N134 hS, N135 hS, N136 hS, N137 hS, N138 hS, N139 hS, N140 hS, N141 hS, N142 hS, inb_c0, ix_c0, inb_c1, ix_c1, inb_c2, ix_c2, inb_c3, ix_c3, inb_c4, ix_c4, inb_c5, ix_c5, inb_c6, ix_c6, inb_c7, ix_c7, inb_c8, ix_c8, inb_c32, ix_c32, ne_eq, true_or, or_true, not_false_eq_true, Nat.reduceEqDiff, Nat.reduceLT, Nat.reduceLeDiff, Nat.reduceAdd, hA, hA1', hN]
  refine hQ _ ?_ ?_ ?_
  · intro a ha
    rw [up2_a ha]; funext x; rw [kepL_v hA4 (by decide)]; simp [ha]
  · intro i hi
    rw [up2_i (by omega), kepL_v hA4 (by decide), if_neg (by omega), if_neg (by omega), if_neg (by omega), if_neg (by omega)]
  · refine ⟨?_, ?_⟩
    · intro i hi
      refine ⟨?_, ?_, ?_, ?_⟩
      · rw [up2_i (by omega), kepL_v hA4 (by decide), if_pos (by omega)]; congr 1; omega
      · rw [up2_i (by omega), kepL_v hA4 (by decide), if_neg (by omega), if_pos (by omega)]; congr 1; omega
      · rw [up2_i (by omega), kepL_v hA4 (by decide), if_neg (by omega), if_neg (by omega), if_pos (by omega)]; congr 1; omega
      · rw [up2_i (by omega), kepL_v hA4 (by decide), if_neg (by omega), if_neg (by omega), if_neg (by omega), if_pos (by omega)]; congr 1; omega
    · rw [up2_s, kepL_v hA4 (by decide), if_neg (by omega), if_neg (by omega), if_neg (by omega), if_neg (by omega)]
theorem m_lay1 (hS : Sh r E) (hA : E.1 A = 13) (hN : E.2.1 A = 33) (hA1 : A ≠ 1) (hA4 : A ≠ 114) {m : Option PV} : ∀ {k i n : Nat} {h : Hp}, n ≤ 8 → i + k = n →
    WP d 191 3 [some (vr 113), some (vr A), some (vi (nI n)), m, some (vi (nI i))] [] (mm h j r E) Q = WP d 191 29 [some (vr 113), some (vr A), some (vi (nI n)), m, some (vi (nI n))] [] (mm (lay1 A i k h) j r E) Q := by
  have hA1' : (A = 1) = False := eq_false hA1
  intro k
  induction k with
  | zero =>
    intro i n h hn hk
    have : i = n := by omega
    subst this
    rw [k191_3]
    simp only [k191_0, k191_1, k191_5, k191_6, k191_9, k191_10, k191_13, k191_15, k191_17, k191_18, k191_19, k191_21, k191_22, k191_23, k191_26, k191_30, k191_34, k191_35, k191_38, k191_39, k191_42, k191_44, k191_46, k191_47, k191_48, k191_50, k191_52, k191_53, k191_54, k191_55, k191_56, k191_59, k191_61, k191_63, k191_64, k191_65, k191_67, k191_69, k191_70, k191_71, k191_72, k191_73, k191_76, k191_78, k191_80, k191_81, k191_82, k191_84, k191_86, k191_87, k191_88, k191_89, k191_92, k191_95, k191_96, k191_99, k191_100, k191_101, k191_103, k191_104, k191_105, mm_sI, mm_sJ, mm_sR, mm_cI, mm_cJ, mm_I, mm_J, mm_R, mm_K, mm_N, psh_s, psh_n, z_n, z_i, z_r, z_l, Nat.reduceAdd, Nat.reduceLeDiff, ne_eq, true_or, or_true, not_false_eq_true, Nat.reduceEqDiff, Nat.reduceLT, Nat.reduceLeDiff, Nat.reduceAdd, Int32.le_refl, if_true]; rfl
  | succ k ih =>
    intro i n h hn hk
    have hb : ∀ c, c ≤ 40 → inb (nI (c + i)) 48 = True := fun c hc => eq_true (by rw [inb_n (by omega)]; omega)
    have hx : ∀ c, c ≤ 40 → ix (nI (c + i)) = c + i := fun c hc => ix_n (by omega)
    have hbA0 : inb (nI i) 33 = True := eq_true (by rw [inb_n (by omega)]; omega)
    have hx0 : ix (nI i) = i := ix_n (by omega)
    rw [k191_3]
    simp only [k191_0, k191_1, k191_5, k191_6, k191_9, k191_10, k191_13, k191_15, k191_17, k191_18, k191_19, k191_21, k191_22, k191_23, k191_26, k191_30, k191_34, k191_35, k191_38, k191_39, k191_42, k191_44, k191_46, k191_47, k191_48, k191_50, k191_52, k191_53, k191_54, k191_55, k191_56, k191_59, k191_61, k191_63, k191_64, k191_65, k191_67, k191_69, k191_70, k191_71, k191_72, k191_73, k191_76, k191_78, k191_80, k191_81, k191_82, k191_84, k191_86, k191_87, k191_88, k191_89, k191_92, k191_95, k191_96, k191_99, k191_100, k191_101, k191_103, k191_104, k191_105, mm_sI, mm_sJ, mm_sR, mm_cI, mm_cJ, mm_I, mm_J, mm_R, mm_K, mm_N, psh_s, psh_n, z_n, z_i, z_r, z_l, Nat.reduceAdd, Nat.reduceLeDiff, K113 hS, R113_2 hS, R113_3 hS, R113_5 hS, R113_8 hS, R113_9 hS, R113_10 hS, R113_11 hS, R113_16 hS, R113_17 hS, R113_18 hS, R113_19 hS, R113_20 hS, R113_21 hS, R113_22 hS, R113_26 hS, R113_27 hS, R113_30 hS, R113_32 hS, R113_34 hS, R113_35 hS, R113_36 hS, R113_37 hS, R113_40 hS, R113_41 hS, R113_42 hS, R113_43 hS, R113_44 hS, R113_45 hS, R113_47 hS, K114 hS, K115 hS, K116 hS, K117 hS, K118 hS, K119 hS, K120 hS, K121 hS, K122 hS, K123 hS, K124 hS, K125 hS, K126 hS, K127 hS, K128 hS, K129 hS, K130 hS, K131 hS, K132 hS, K133 hS, K134 hS, K135 hS, K136 hS, K137 hS, K138 hS, K139 hS, K140 hS, K141 hS, K142 hS, N114 hS, N115 hS, N116 hS, N117 hS, N118 hS, N119 hS, N120 hS, N121 hS, N122 hS, N123 hS, N124 hS, N125 hS, N126 hS, N127 hS, N128 hS, N129 hS, N130 hS, N131 hS, N132 hS, N133 hS, N134 hS, N135 hS, N136 hS, N137 hS, N138 hS, N139 hS, N140 hS, N141 hS, N142 hS, ne_eq, true_or, or_true, not_false_eq_true, Nat.reduceEqDiff, Nat.reduceLT, Nat.reduceLeDiff, Nat.reduceAdd, nLe (show n < 2 ^ 31 by omega) (show i < 2 ^ 31 by omega), show ¬ n ≤ i by omega, if_false, a8, hb, hx, hbA0, hx0, hN, hA, hA1', nS1]
    rw [ih hn (by omega)]
    rfl
theorem m_lay3 (hS : Sh r E) (hA : E.1 A = 13) (hN : E.2.1 A = 33) (hA1 : A ≠ 1) (hA4 : A ≠ 114) {m : Option PV} : ∀ {k i n : Nat} {h : Hp}, n ≤ 8 → i + k = n →
    WP d 191 32 [some (vr 113), some (vr A), m, some (vi (nI n)), some (vi (nI i))] [] (mm h j r E) Q = WP d 191 95 [some (vr 113), some (vr A), m, some (vi (nI n)), some (vi (nI n))] [] (mm (lay3 A i k h) j r E) Q := by
  have hA1' : (A = 1) = False := eq_false hA1
  have hA4' : (A = 114) = False := eq_false hA4
  intro k
  induction k with
  | zero =>
    intro i n h hn hk
    have : i = n := by omega
    subst this
    rw [k191_32]
    simp only [k191_0, k191_1, k191_5, k191_6, k191_9, k191_10, k191_13, k191_15, k191_17, k191_18, k191_19, k191_21, k191_22, k191_23, k191_26, k191_29, k191_30, k191_34, k191_35, k191_38, k191_39, k191_42, k191_44, k191_46, k191_47, k191_48, k191_50, k191_52, k191_53, k191_54, k191_55, k191_56, k191_59, k191_61, k191_63, k191_64, k191_65, k191_67, k191_69, k191_70, k191_71, k191_72, k191_73, k191_76, k191_78, k191_80, k191_81, k191_82, k191_84, k191_86, k191_87, k191_88, k191_89, k191_92, k191_96, k191_99, k191_100, k191_101, k191_103, k191_104, k191_105, mm_sI, mm_sJ, mm_sR, mm_cI, mm_cJ, mm_I, mm_J, mm_R, mm_K, mm_N, psh_s, psh_n, z_n, z_i, z_r, z_l, Nat.reduceAdd, Nat.reduceLeDiff, ne_eq, true_or, or_true, not_false_eq_true, Nat.reduceEqDiff, Nat.reduceLT, Nat.reduceLeDiff, Nat.reduceAdd, Int32.le_refl, if_true]; rfl
  | succ k ih =>
    intro i n h hn hk
    have hb : ∀ c, c ≤ 40 → inb (nI (c + i)) 48 = True := fun c hc => eq_true (by rw [inb_n (by omega)]; omega)
    have hx : ∀ c, c ≤ 40 → ix (nI (c + i)) = c + i := fun c hc => ix_n (by omega)
    have hbA : ∀ c, c ≤ 24 → inb (nI (c + i)) 33 = True := fun c hc => eq_true (by rw [inb_n (by omega)]; omega)
    rw [k191_32]
    simp only [k191_0, k191_1, k191_5, k191_6, k191_9, k191_10, k191_13, k191_15, k191_17, k191_18, k191_19, k191_21, k191_22, k191_23, k191_26, k191_29, k191_30, k191_34, k191_35, k191_38, k191_39, k191_42, k191_44, k191_46, k191_47, k191_48, k191_50, k191_52, k191_53, k191_54, k191_55, k191_56, k191_59, k191_61, k191_63, k191_64, k191_65, k191_67, k191_69, k191_70, k191_71, k191_72, k191_73, k191_76, k191_78, k191_80, k191_81, k191_82, k191_84, k191_86, k191_87, k191_88, k191_89, k191_92, k191_96, k191_99, k191_100, k191_101, k191_103, k191_104, k191_105, mm_sI, mm_sJ, mm_sR, mm_cI, mm_cJ, mm_I, mm_J, mm_R, mm_K, mm_N, psh_s, psh_n, z_n, z_i, z_r, z_l, Nat.reduceAdd, Nat.reduceLeDiff, K113 hS, R113_2 hS, R113_3 hS, R113_5 hS, R113_8 hS, R113_9 hS, R113_10 hS, R113_11 hS, R113_16 hS, R113_17 hS, R113_18 hS, R113_19 hS, R113_20 hS, R113_21 hS, R113_22 hS, R113_26 hS, R113_27 hS, R113_30 hS, R113_32 hS, R113_34 hS, R113_35 hS, R113_36 hS, R113_37 hS, R113_40 hS, R113_41 hS, R113_42 hS, R113_43 hS, R113_44 hS, R113_45 hS, R113_47 hS, K114 hS, K115 hS, K116 hS, K117 hS, K118 hS, K119 hS, K120 hS, K121 hS, K122 hS, K123 hS, K124 hS, K125 hS, K126 hS, K127 hS, K128 hS, K129 hS, K130 hS, K131 hS, K132 hS, K133 hS, K134 hS, K135 hS, K136 hS, K137 hS, K138 hS, K139 hS, K140 hS, K141 hS, K142 hS, N114 hS, N115 hS, N116 hS, N117 hS, N118 hS, N119 hS, N120 hS, N121 hS, N122 hS, N123 hS, N124 hS, N125 hS, N126 hS, N127 hS, N128 hS, N129 hS, N130 hS, N131 hS, N132 hS, N133 hS, N134 hS, N135 hS, N136 hS, N137 hS, N138 hS, N139 hS, N140 hS, N141 hS, N142 hS, ne_eq, true_or, or_true, not_false_eq_true, Nat.reduceEqDiff, Nat.reduceLT, Nat.reduceLeDiff, Nat.reduceAdd, nLe (show n < 2 ^ 31 by omega) (show i < 2 ^ 31 by omega), show ¬ n ≤ i by omega, if_false, a8, a16, a24, a32, a40, hb, hx, hbA, hN, hA, hA1', hA4', up2_ai, nS1]
    rw [ih hn (by omega)]
    rfl
/-- what is laid back -/
def layM (h : Hp) (A n m : Nat) : Hp := up2 (lay3 A 0 m (lay1 A 0 n h)) 115 1 (h A 32)
theorem m_laysBack (hS : Sh r E) (hA : E.1 A = 13) (hN : E.2.1 A = 33) (hA1 : A ≠ 1) (hA4 : A ≠ 114) (hA5 : A ≠ 115) {n m : Nat} (hn : n ≤ 8) (hm : m ≤ 8) :
    WP d 191 0 [some (vr 113), some (vr A), some (vi (nI n)), some (vi (nI m)), none] [] (mm h j r E) Q = Q none (mm (layM h A n m) j r E) := by
  have hA1' : (A = 1) = False := eq_false hA1
  simp only [k191_0, k191_1, k191_5, k191_6, k191_9, k191_10, k191_13, k191_15, k191_17, k191_18, k191_19, k191_21, k191_22, k191_23, k191_26, k191_29, k191_30, k191_34, k191_35, k191_38, k191_39, k191_42, k191_44, k191_46, k191_47, k191_48, k191_50, k191_52, k191_53, k191_54, k191_55, k191_56, k191_59, k191_61, k191_63, k191_64, k191_65, k191_67, k191_69, k191_70, k191_71, k191_72, k191_73, k191_76, k191_78, k191_80, k191_81, k191_82, k191_84, k191_86, k191_87, k191_88, k191_89, k191_92, k191_95, k191_96, k191_99, k191_100, k191_101, k191_103, k191_104, k191_105, mm_sI, mm_sJ, mm_sR, mm_cI, mm_cJ, mm_I, mm_J, mm_R, mm_K, mm_N, psh_s, psh_n, z_n, z_i, z_r, z_l, Nat.reduceAdd, Nat.reduceLeDiff, ne_eq, true_or, or_true, not_false_eq_true, Nat.reduceEqDiff, Nat.reduceLT, Nat.reduceLeDiff, Nat.reduceAdd]
  rw [show (0 : Int32) = nI 0 from rfl, m_lay1 hS hA hN hA1 hA4 (k := n) (i := 0) hn (by omega)]
  simp only [k191_0, k191_1, k191_5, k191_6, k191_9, k191_10, k191_13, k191_15, k191_17, k191_18, k191_19, k191_21, k191_22, k191_23, k191_26, k191_29, k191_30, k191_34, k191_35, k191_38, k191_39, k191_42, k191_44, k191_46, k191_47, k191_48, k191_50, k191_52, k191_53, k191_54, k191_55, k191_56, k191_59, k191_61, k191_63, k191_64, k191_65, k191_67, k191_69, k191_70, k191_71, k191_72, k191_73, k191_76, k191_78, k191_80, k191_81, k191_82, k191_84, k191_86, k191_87, k191_88, k191_89, k191_92, k191_95, k191_96, k191_99, k191_100, k191_101, k191_103, k191_104, k191_105, mm_sI, mm_sJ, mm_sR, mm_cI, mm_cJ, mm_I, mm_J, mm_R, mm_K, mm_N, psh_s, psh_n, z_n, z_i, z_r, z_l, Nat.reduceAdd, Nat.reduceLeDiff, ne_eq, true_or, or_true, not_false_eq_true, Nat.reduceEqDiff, Nat.reduceLT, Nat.reduceLeDiff, Nat.reduceAdd]
  rw [show (0 : Int32) = nI 0 from rfl, m_lay3 hS hA hN hA1 hA4 (k := m) (i := 0) hm (by omega)]
  simp only [k191_0, k191_1, k191_5, k191_6, k191_9, k191_10, k191_13, k191_15, k191_17, k191_18, k191_19, k191_21, k191_22, k191_23, k191_26, k191_29, k191_30, k191_34, k191_35, k191_38, k191_39, k191_42, k191_44, k191_46, k191_47, k191_48, k191_50, k191_52, k191_53, k191_54, k191_55, k191_56, k191_59, k191_61, k191_63, k191_64, k191_65, k191_67, k191_69, k191_70, k191_71, k191_72, k191_73, k191_76, k191_78, k191_80, k191_81, k191_82, k191_84, k191_86, k191_87, k191_88, k191_89, k191_92, k191_95, k191_96, k191_99, k191_100, k191_101, k191_103, k191_104, k191_105, mm_sI, mm_sJ, mm_sR, mm_cI, mm_cJ, mm_I, mm_J, mm_R, mm_K, mm_N, psh_s, psh_n, z_n, z_i, z_r, z_l, Nat.reduceAdd, Nat.reduceLeDiff, K113 hS, R113_2 hS, R113_3 hS, R113_5 hS, R113_8 hS, R113_9 hS, R113_10 hS, R113_11 hS, R113_16 hS, R113_17 hS, R113_18 hS, R113_19 hS, R113_20 hS, R113_21 hS, R113_22 hS, R113_26 hS, R113_27 hS, R113_30 hS, R113_32 hS, R113_34 hS, R113_35 hS, R113_36 hS, R113_37 hS, R113_40 hS, R113_41 hS, R113_42 hS, R113_43 hS, R113_44 hS, R113_45 hS, R113_47 hS, K114 hS, K115 hS, K116 hS, K117 hS, K118 hS, K119 hS, K120 hS, K121 hS, K122 hS, K123 hS, K124 hS, K125 hS, K126 hS, K127 hS, K128 hS, K129 hS, K130 hS, K131 hS, K132 hS, K133 hS, K134 hS, K135 hS, K136 hS, K137 hS, K138 hS, K139 hS, K140 hS, K141 hS, K142 hS, N114 hS, N115 hS, N116 hS, N117 hS, N118 hS, N119 hS, N120 hS, N121 hS, N122 hS, N123 hS, N124 hS, N125 hS, N126 hS, N127 hS, N128 hS, N129 hS, N130 hS, N131 hS, N132 hS, N133 hS, N134 hS, N135 hS, N136 hS, N137 hS, N138 hS, N139 hS, N140 hS, N141 hS, N142 hS, inb_c0, ix_c0, inb_c1, ix_c1, inb_c2, ix_c2, inb_c3, ix_c3, inb_c4, ix_c4, inb_c5, ix_c5, inb_c6, ix_c6, inb_c7, ix_c7, inb_c8, ix_c8, inb_c32, ix_c32, ne_eq, true_or, or_true, not_false_eq_true, Nat.reduceEqDiff, Nat.reduceLT, Nat.reduceLeDiff, Nat.reduceAdd, hA, hA1', hN]
  unfold layM
  rw [lay3_v hA4 (by omega), if_neg (by omega), if_neg (by omega), if_neg (by omega), lay1_v hA4, if_neg (by omega)]
end KM
