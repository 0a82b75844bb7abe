/-! ===== bits; when all are back ===== -/
def bit (x : Int32) (i : Nat) : Bool := x.toBitVec.getLsbD i
theorem bit_or {x y : Int32} {i : Nat} : bit (x ||| y) i = (bit x i || bit y i) := by unfold bit; rw [Int32.toBitVec_or, BitVec.getLsbD_or]
theorem bit_and {x y : Int32} {i : Nat} : bit (x &&& y) i = (bit x i && bit y i) := by unfold bit; rw [Int32.toBitVec_and, BitVec.getLsbD_and]
theorem bit_0 {i : Nat} : bit 0 i = false := by unfold bit; simp
theorem bit_ext {x y : Int32} (h : ∀ i, i < 32 → bit x i = bit y i) : x = y := Int32.toBitVec_inj.1 (BitVec.eq_of_getLsbD_eq (fun i hi => h i hi))
theorem bit_1all : ∀ f : Fin 32, ∀ i : Fin 32, bit ((1 : Int32) <<< (nI f &&& 31)) i = decide (i.1 = f.1) := by decide +kernel
theorem bit_1 {f i : Nat} (hf : f < 32) (hi : i < 32) : bit ((1 : Int32) <<< (nI f &&& 31)) i = decide (i = f) := bit_1all ⟨f, hf⟩ ⟨i, hi⟩
theorem bit_255all : ∀ i : Fin 32, bit 255 i = decide (i.1 < 8) := by decide +kernel
theorem bit_255 {i : Nat} (hi : i < 32) : bit 255 i = decide (i < 8) := bit_255all ⟨i, hi⟩
theorem bit_n0 {x : Int32} {f : Nat} (hf : f < 32) : (x &&& ((1 : Int32) <<< (nI f &&& 31)) = 0) = (bit x f = false) := by
  apply propext; constructor
  · intro h
    have := congrArg (fun t => bit t f) h
    simp only [bit_and, bit_1 hf hf, bit_0, decide_true, Bool.and_true] at this; exact this
  · intro h
    refine bit_ext fun i hi => ?_
    rw [bit_and, bit_1 hf hi, bit_0]
    by_cases e : i = f
    · subst e; rw [h]; rfl
    · simp [e]
theorem ow_bit {b : BB} {i : Nat} (hi : i < 32) : ∀ {k f : Nat} {a : Int32}, f + k ≤ 32 → bit (owL b f k a) i = (bit a i || decide (f ≤ i ∧ i < f + k ∧ b 4 i ≠ -1)) := by
  intro k
  induction k with
  | zero => intro f a _; rw [owL, show decide (f ≤ i ∧ i < f + 0 ∧ b 4 i ≠ -1) = false from decide_eq_false (by omega)]; simp
  | succ k ih =>
    intro f a hk
    rw [owL, ih (by omega), bit_or]
    by_cases c : b 4 f = -1
    · rw [if_pos c, bit_0]
      by_cases e : i = f
      · subst e; simp [c]
      · by_cases e2 : f ≤ i ∧ i < f + (k + 1) ∧ b 4 i ≠ -1
        · rw [decide_eq_true e2, decide_eq_true (show f + 1 ≤ i ∧ i < f + 1 + k ∧ b 4 i ≠ -1 from ⟨by omega, by omega, e2.2.2⟩)]; simp
        · rw [decide_eq_false e2, decide_eq_false (fun h => e2 ⟨by omega, by omega, h.2.2⟩)]; simp
    · rw [if_neg c, bit_1 (by omega) hi]
      by_cases e : i = f
      · subst e
        rw [decide_eq_true (show i ≤ i ∧ i < i + (k + 1) ∧ b 4 i ≠ -1 from ⟨by omega, by omega, c⟩)]; simp
      · by_cases e2 : f ≤ i ∧ i < f + (k + 1) ∧ b 4 i ≠ -1
        · rw [decide_eq_true e2, decide_eq_true (show f + 1 ≤ i ∧ i < f + 1 + k ∧ b 4 i ≠ -1 from ⟨by omega, by omega, e2.2.2⟩)]; simp
        · rw [decide_eq_false e2, decide_eq_false (show ¬ (f + 1 ≤ i ∧ i < f + 1 + k ∧ b 4 i ≠ -1) from fun h => e2 ⟨by omega, by omega, h.2.2⟩)]; simp [e]
theorem owB_bit {b : BB} {F i : Nat} (hF : F ≤ 8) (hi : i < 32) : bit (owB F b) i = decide (i < F ∧ b 4 i ≠ -1) := by
  unfold owB; rw [ow_bit hi (by omega), bit_0, Bool.false_or]
  by_cases c : i < F ∧ b 4 i ≠ -1
  · rw [decide_eq_true c, decide_eq_true ⟨by omega, by omega, c.2⟩]
  · rw [decide_eq_false c, decide_eq_false (fun h => c ⟨by omega, h.2.2⟩)]
/-- the frog owes none: his bit is not there -/
theorem ow_one {b : BB} {F f : Nat} (hF : F ≤ 8) (hf : f < F) : (owB F b &&& ((1 : Int32) <<< (nI f &&& 31)) = 0) = (b 4 f = -1) := by
  rw [bit_n0 (by omega), owB_bit hF (by omega)]
  simp [hf]
theorem ow_all {b : BB} {F : Nat} (hF : F ≤ 8) : owB F b &&& 255 = owB F b := by
  refine bit_ext fun i hi => ?_
  rw [bit_and, bit_255 hi, owB_bit hF hi]
  by_cases c : i < 8
  · simp [c]
  · simp [c]; omega
section BW
variable {d : Nat} {M : Mem} {h h0 h1 h2 : Hp} {j : Jp} {r : Rp} {E : EE} {Q : Option PV → Mem → Prop} {G F A : Nat} {W : LW} {b bt : BB}
theorem m_bwFin {frog e : Option PV} {v : Int32} (R : RR G F W 136 h0 bt h r E) (hQ : ∀ h', Scr h0 h' → Q (some (vi v)) (mm h' j r E)) : WP (d + 8) 197 80 [some (vr 113), frog, some (vi v), e] [] (mm h j r E) Q := by
  have hS := R.D.S
  simp only [k197_0, k197_1, k197_2, k197_5, k197_6, k197_7, k197_10, k197_13, k197_14, k197_15, k197_16, k197_17, k197_20, k197_23, k197_25, k197_26, k197_27, k197_29, k197_31, k197_34, k197_35, k197_37, k197_40, k197_41, k197_44, k197_45, k197_48, k197_49, k197_50, k197_53, k197_54, k197_57, k197_60, k197_63, k197_64, k197_65, k197_68, k197_69, k197_72, k197_73, k197_74, k197_77, k197_80, k197_81, k197_84, k197_85, mm_sI, mm_sJ, mm_sR, mm_cI, mm_cJ, mm_I, mm_J, mm_R, mm_K, mm_N, psh_s, psh_n, z_n, z_i, z_r, z_l, Nat.reduceAdd, Nat.reduceLeDiff, K113 hS, R113_2 hS, R113_3 hS, R113_5 hS, R113_8 hS, R113_9 hS, R113_10 hS, R113_11 hS, R113_16 hS, R113_17 hS, R113_18 hS, R113_19 hS, R113_20 hS, R113_21 hS, R113_22 hS, R113_26 hS, R113_27 hS, R113_30 hS, R113_32 hS, R113_34 hS, R113_35 hS, R113_36 hS, R113_37 hS, R113_40 hS, R113_41 hS, R113_42 hS, R113_43 hS, R113_44 hS, R113_45 hS, R113_47 hS, K114 hS, K115 hS, K116 hS, K117 hS, K118 hS, K119 hS, K120 hS, K121 hS, K122 hS, K123 hS, K124 hS, K125 hS, K126 hS, K127 hS, K128 hS, K129 hS, K130 hS, K131 hS, K132 hS, K133 hS, K134 hS, K135 hS, K136 hS, K137 hS, K138 hS, K139 hS, K140 hS, K141 hS, K142 hS, N114 hS, N115 hS, N116 hS, N117 hS, N118 hS, N119 hS, N120 hS, N121 hS, N122 hS, N123 hS, N124 hS, N125 hS, N126 hS, N127 hS, N128 hS, N129 hS, N130 hS, N131 hS, N132 hS, N133 hS, N134 hS, N135 hS, N136 hS, N137 hS, N138 hS, N139 hS, N140 hS, N141 hS, N142 hS, ne_eq, true_or, or_true, not_false_eq_true, Nat.reduceEqDiff, Nat.reduceLT, Nat.reduceLeDiff, Nat.reduceAdd]
  refine WP.deep (d := d + 7) ?_ (by omega)
  refine r_laysW hS R ?_
  intro h' s _
  simp only [k197_0, k197_1, k197_2, k197_5, k197_6, k197_7, k197_10, k197_13, k197_14, k197_15, k197_16, k197_17, k197_20, k197_23, k197_25, k197_26, k197_27, k197_29, k197_31, k197_34, k197_35, k197_37, k197_40, k197_41, k197_44, k197_45, k197_48, k197_49, k197_50, k197_53, k197_54, k197_57, k197_60, k197_63, k197_64, k197_65, k197_68, k197_69, k197_72, k197_73, k197_74, k197_77, k197_80, k197_81, k197_84, k197_85, mm_sI, mm_sJ, mm_sR, mm_cI, mm_cJ, mm_I, mm_J, mm_R, mm_K, mm_N, psh_s, psh_n, z_n, z_i, z_r, z_l, Nat.reduceAdd, Nat.reduceLeDiff]
  exact hQ h' s
theorem bwL_s {w : Int32} {n k : Nat} : bwL F W w n (k + 1) b = if owB F b &&& w = 0 then nI n else bwL F W w (n + 1) k (hrB W F b) := rfl
/-- the question of one hour -/
theorem m_bwAsk {frog w : Int32} {i : Nat} (hi : i ≤ 40) (hw : w = (if frog = -1 then 255 else (1 : Int32) <<< (frog &&& 31))) (hf : frog = -1 ∨ inb frog F) (R : RR G F W 136 h0 bt h r E)
    (h1 : owB F bt &&& w = 0 → ∀ h', Scr h0 h' → Q (some (vi (nI i))) (mm h' j r E)) (h2 : owB F bt &&& w ≠ 0 → WP (d + 8) 197 28 [some (vr 113), some (vi frog), some (vi (-2)), some (vi (nI (i + 1)))] [] (mm h j r E) Q) :
    WP (d + 8) 197 48 [some (vr 113), some (vi frog), some (vi (-2)), some (vi (nI i))] [] (mm h j r E) Q := by
  have hS := R.D.S
  have hF8 := R.D.F8
  have hne : (nI i = -2) = False := by
    apply eq_false; intro hh; have := congrArg Int32.toInt hh; rw [nI_toInt (by omega), im2] at this; omega
  have found : owB F bt &&& w = 0 → WP (d + 8) 197 28 [some (vr 113), some (vi frog), some (vi (nI i)), some (vi (nI (i + 1)))] [] (mm h j r E) Q := by
    intro c
    rw [k197_28]
    simp only [k197_0, k197_1, k197_2, k197_5, k197_6, k197_7, k197_10, k197_13, k197_14, k197_15, k197_16, k197_17, k197_20, k197_23, k197_25, k197_26, k197_27, k197_29, k197_31, k197_34, k197_35, k197_37, k197_40, k197_41, k197_44, k197_45, k197_48, k197_49, k197_50, k197_53, k197_54, k197_57, k197_60, k197_63, k197_64, k197_65, k197_68, k197_69, k197_72, k197_73, k197_74, k197_77, k197_81, k197_84, k197_85, mm_sI, mm_sJ, mm_sR, mm_cI, mm_cJ, mm_I, mm_J, mm_R, mm_K, mm_N, psh_s, psh_n, z_n, z_i, z_r, z_l, Nat.reduceAdd, Nat.reduceLeDiff, K113 hS, R113_2 hS, R113_3 hS, R113_5 hS, R113_8 hS, R113_9 hS, R113_10 hS, R113_11 hS, R113_16 hS, R113_17 hS, R113_18 hS, R113_19 hS, R113_20 hS, R113_21 hS, R113_22 hS, R113_26 hS, R113_27 hS, R113_30 hS, R113_32 hS, R113_34 hS, R113_35 hS, R113_36 hS, R113_37 hS, R113_40 hS, R113_41 hS, R113_42 hS, R113_43 hS, R113_44 hS, R113_45 hS, R113_47 hS, K114 hS, K115 hS, K116 hS, K117 hS, K118 hS, K119 hS, K120 hS, K121 hS, K122 hS, K123 hS, K124 hS, K125 hS, K126 hS, K127 hS, K128 hS, K129 hS, K130 hS, K131 hS, K132 hS, K133 hS, K134 hS, K135 hS, K136 hS, K137 hS, K138 hS, K139 hS, K140 hS, K141 hS, K142 hS, N114 hS, N115 hS, N116 hS, N117 hS, N118 hS, N119 hS, N120 hS, N121 hS, N122 hS, N123 hS, N124 hS, N125 hS, N126 hS, N127 hS, N128 hS, N129 hS, N130 hS, N131 hS, N132 hS, N133 hS, N134 hS, N135 hS, N136 hS, N137 hS, N138 hS, N139 hS, N140 hS, N141 hS, N142 hS, ne_eq, true_or, or_true, not_false_eq_true, Nat.reduceEqDiff, Nat.reduceLT, Nat.reduceLeDiff, Nat.reduceAdd, hne, if_false]
    split
    · exact m_bwFin R (h1 c)
    · exact m_bwFin R (h1 c)
  by_cases cf : frog = -1
  · rw [if_pos cf] at hw
    subst hw
    rw [ow_all hF8] at h1 h2 found
    subst cf
    simp only [k197_0, k197_1, k197_2, k197_5, k197_6, k197_7, k197_10, k197_13, k197_14, k197_15, k197_16, k197_17, k197_20, k197_23, k197_25, k197_26, k197_27, k197_29, k197_31, k197_34, k197_35, k197_37, k197_40, k197_41, k197_44, k197_45, k197_48, k197_49, k197_50, k197_53, k197_54, k197_57, k197_60, k197_63, k197_64, k197_65, k197_68, k197_69, k197_72, k197_73, k197_74, k197_77, k197_80, k197_81, k197_84, k197_85, mm_sI, mm_sJ, mm_sR, mm_cI, mm_cJ, mm_I, mm_J, mm_R, mm_K, mm_N, psh_s, psh_n, z_n, z_i, z_r, z_l, Nat.reduceAdd, Nat.reduceLeDiff, K113 hS, R113_2 hS, R113_3 hS, R113_5 hS, R113_8 hS, R113_9 hS, R113_10 hS, R113_11 hS, R113_16 hS, R113_17 hS, R113_18 hS, R113_19 hS, R113_20 hS, R113_21 hS, R113_22 hS, R113_26 hS, R113_27 hS, R113_30 hS, R113_32 hS, R113_34 hS, R113_35 hS, R113_36 hS, R113_37 hS, R113_40 hS, R113_41 hS, R113_42 hS, R113_43 hS, R113_44 hS, R113_45 hS, R113_47 hS, K114 hS, K115 hS, K116 hS, K117 hS, K118 hS, K119 hS, K120 hS, K121 hS, K122 hS, K123 hS, K124 hS, K125 hS, K126 hS, K127 hS, K128 hS, K129 hS, K130 hS, K131 hS, K132 hS, K133 hS, K134 hS, K135 hS, K136 hS, K137 hS, K138 hS, K139 hS, K140 hS, K141 hS, K142 hS, N114 hS, N115 hS, N116 hS, N117 hS, N118 hS, N119 hS, N120 hS, N121 hS, N122 hS, N123 hS, N124 hS, N125 hS, N126 hS, N127 hS, N128 hS, N129 hS, N130 hS, N131 hS, N132 hS, N133 hS, N134 hS, N135 hS, N136 hS, N137 hS, N138 hS, N139 hS, N140 hS, N141 hS, N142 hS, ne_eq, true_or, or_true, not_false_eq_true, Nat.reduceEqDiff, Nat.reduceLT, Nat.reduceLeDiff, Nat.reduceAdd, if_true, m_owing R.D, nS1]
    by_cases c : owB F bt = 0
    · simp only [c, if_true]; exact found c
    · simp only [c, if_false]; exact h2 c
  · have hf := hf.resolve_left cf
    obtain ⟨f, hfF, rfl, hf2⟩ := inb_of hf
    rw [if_neg cf] at hw
    subst hw
    rw [ow_one hF8 hfF] at h1 found
    have h2' : bt 4 f ≠ -1 → _ := fun hh => h2 (by intro h3; rw [ow_one hF8 hfF] at h3; exact hh h3)
    simp only [k197_0, k197_1, k197_2, k197_5, k197_6, k197_7, k197_10, k197_13, k197_14, k197_15, k197_16, k197_17, k197_20, k197_23, k197_25, k197_26, k197_27, k197_29, k197_31, k197_34, k197_35, k197_37, k197_40, k197_41, k197_44, k197_45, k197_48, k197_49, k197_50, k197_53, k197_54, k197_57, k197_60, k197_63, k197_64, k197_65, k197_68, k197_69, k197_72, k197_73, k197_74, k197_77, k197_80, k197_81, k197_84, k197_85, mm_sI, mm_sJ, mm_sR, mm_cI, mm_cJ, mm_I, mm_J, mm_R, mm_K, mm_N, psh_s, psh_n, z_n, z_i, z_r, z_l, Nat.reduceAdd, Nat.reduceLeDiff, K113 hS, R113_2 hS, R113_3 hS, R113_5 hS, R113_8 hS, R113_9 hS, R113_10 hS, R113_11 hS, R113_16 hS, R113_17 hS, R113_18 hS, R113_19 hS, R113_20 hS, R113_21 hS, R113_22 hS, R113_26 hS, R113_27 hS, R113_30 hS, R113_32 hS, R113_34 hS, R113_35 hS, R113_36 hS, R113_37 hS, R113_40 hS, R113_41 hS, R113_42 hS, R113_43 hS, R113_44 hS, R113_45 hS, R113_47 hS, K114 hS, K115 hS, K116 hS, K117 hS, K118 hS, K119 hS, K120 hS, K121 hS, K122 hS, K123 hS, K124 hS, K125 hS, K126 hS, K127 hS, K128 hS, K129 hS, K130 hS, K131 hS, K132 hS, K133 hS, K134 hS, K135 hS, K136 hS, K137 hS, K138 hS, K139 hS, K140 hS, K141 hS, K142 hS, N114 hS, N115 hS, N116 hS, N117 hS, N118 hS, N119 hS, N120 hS, N121 hS, N122 hS, N123 hS, N124 hS, N125 hS, N126 hS, N127 hS, N128 hS, N129 hS, N130 hS, N131 hS, N132 hS, N133 hS, N134 hS, N135 hS, N136 hS, N137 hS, N138 hS, N139 hS, N140 hS, N141 hS, N142 hS, ne_eq, true_or, or_true, not_false_eq_true, Nat.reduceEqDiff, Nat.reduceLT, Nat.reduceLeDiff, Nat.reduceAdd, cf, if_false, m_owes hS (show f < 8 by omega), R.D.v4 hfF, nS1]
    by_cases c : bt 4 f = -1
    · simp only [c, if_true]; exact found c
    · simp only [c, if_false]; exact h2' c
theorem m_bwL {frog w : Int32} (hw : w = (if frog = -1 then 255 else (1 : Int32) <<< (frog &&& 31))) (hf : frog = -1 ∨ inb frog F) : ∀ {k i : Nat} {bt : BB} {h : Hp}, 1 ≤ i → i + k = 41 → RR G F W 136 h0 bt h r E → (∀ h', Scr h0 h' → Q (some (vi (bwL F W w i k (hrB W F bt)))) (mm h' j r E)) →
    WP (d + 8) 197 28 [some (vr 113), some (vi frog), some (vi (-2)), some (vi (nI i))] [] (mm h j r E) Q := by
  intro k
  induction k with
  | zero =>
    intro i bt h h1 hk R hQ
    have hS := R.D.S
    have : i = 41 := by omega
    subst this
    rw [k197_28]
    simp only [k197_0, k197_1, k197_2, k197_5, k197_6, k197_7, k197_10, k197_13, k197_14, k197_15, k197_16, k197_17, k197_20, k197_23, k197_25, k197_26, k197_27, k197_29, k197_31, k197_34, k197_35, k197_37, k197_40, k197_41, k197_44, k197_45, k197_48, k197_49, k197_50, k197_53, k197_54, k197_57, k197_60, k197_63, k197_64, k197_65, k197_68, k197_69, k197_72, k197_73, k197_74, k197_77, k197_81, k197_84, k197_85, mm_sI, mm_sJ, mm_sR, mm_cI, mm_cJ, mm_I, mm_J, mm_R, mm_K, mm_N, psh_s, psh_n, z_n, z_i, z_r, z_l, Nat.reduceAdd, Nat.reduceLeDiff, K113 hS, R113_2 hS, R113_3 hS, R113_5 hS, R113_8 hS, R113_9 hS, R113_10 hS, R113_11 hS, R113_16 hS, R113_17 hS, R113_18 hS, R113_19 hS, R113_20 hS, R113_21 hS, R113_22 hS, R113_26 hS, R113_27 hS, R113_30 hS, R113_32 hS, R113_34 hS, R113_35 hS, R113_36 hS, R113_37 hS, R113_40 hS, R113_41 hS, R113_42 hS, R113_43 hS, R113_44 hS, R113_45 hS, R113_47 hS, K114 hS, K115 hS, K116 hS, K117 hS, K118 hS, K119 hS, K120 hS, K121 hS, K122 hS, K123 hS, K124 hS, K125 hS, K126 hS, K127 hS, K128 hS, K129 hS, K130 hS, K131 hS, K132 hS, K133 hS, K134 hS, K135 hS, K136 hS, K137 hS, K138 hS, K139 hS, K140 hS, K141 hS, K142 hS, N114 hS, N115 hS, N116 hS, N117 hS, N118 hS, N119 hS, N120 hS, N121 hS, N122 hS, N123 hS, N124 hS, N125 hS, N126 hS, N127 hS, N128 hS, N129 hS, N130 hS, N131 hS, N132 hS, N133 hS, N134 hS, N135 hS, N136 hS, N137 hS, N138 hS, N139 hS, N140 hS, N141 hS, N142 hS, ne_eq, true_or, or_true, not_false_eq_true, Nat.reduceEqDiff, Nat.reduceLT, Nat.reduceLeDiff, Nat.reduceAdd, show (40 : Int32) < nI 41 by decide, if_true]
    exact m_bwFin R hQ
  | succ k ih =>
    intro i bt h h1 hk R hQ
    have hS := R.D.S
    have hi : ((40 : Int32) < nI i) = False := by rw [← nn40, nLt (by omega) (by omega)]; apply eq_false; omega
    have hi0 : (nI i ≤ 0) = False := by rw [← nn0, nLe (by omega) (by omega)]; apply eq_false; omega
    rw [bwL_s] at hQ
    rw [k197_28]
    simp only [k197_0, k197_1, k197_2, k197_5, k197_6, k197_7, k197_10, k197_13, k197_14, k197_15, k197_16, k197_17, k197_20, k197_23, k197_25, k197_26, k197_27, k197_29, k197_31, k197_34, k197_35, k197_37, k197_40, k197_41, k197_44, k197_45, k197_49, k197_50, k197_53, k197_54, k197_57, k197_60, k197_63, k197_64, k197_65, k197_68, k197_69, k197_72, k197_73, k197_74, k197_77, k197_80, k197_81, k197_84, k197_85, mm_sI, mm_sJ, mm_sR, mm_cI, mm_cJ, mm_I, mm_J, mm_R, mm_K, mm_N, psh_s, psh_n, z_n, z_i, z_r, z_l, Nat.reduceAdd, Nat.reduceLeDiff, K113 hS, R113_2 hS, R113_3 hS, R113_5 hS, R113_8 hS, R113_9 hS, R113_10 hS, R113_11 hS, R113_16 hS, R113_17 hS, R113_18 hS, R113_19 hS, R113_20 hS, R113_21 hS, R113_22 hS, R113_26 hS, R113_27 hS, R113_30 hS, R113_32 hS, R113_34 hS, R113_35 hS, R113_36 hS, R113_37 hS, R113_40 hS, R113_41 hS, R113_42 hS, R113_43 hS, R113_44 hS, R113_45 hS, R113_47 hS, K114 hS, K115 hS, K116 hS, K117 hS, K118 hS, K119 hS, K120 hS, K121 hS, K122 hS, K123 hS, K124 hS, K125 hS, K126 hS, K127 hS, K128 hS, K129 hS, K130 hS, K131 hS, K132 hS, K133 hS, K134 hS, K135 hS, K136 hS, K137 hS, K138 hS, K139 hS, K140 hS, K141 hS, K142 hS, N114 hS, N115 hS, N116 hS, N117 hS, N118 hS, N119 hS, N120 hS, N121 hS, N122 hS, N123 hS, N124 hS, N125 hS, N126 hS, N127 hS, N128 hS, N129 hS, N130 hS, N131 hS, N132 hS, N133 hS, N134 hS, N135 hS, N136 hS, N137 hS, N138 hS, N139 hS, N140 hS, N141 hS, N142 hS, ne_eq, true_or, or_true, not_false_eq_true, Nat.reduceEqDiff, Nat.reduceLT, Nat.reduceLeDiff, Nat.reduceAdd, hi, hi0, if_false, if_true]
    refine WP.deep (d := d + 7) ?_ (by omega)
    refine m_passes R.D ?_
    intro h2 fr D2 _ _
    simp only [k197_0, k197_1, k197_2, k197_5, k197_6, k197_7, k197_10, k197_13, k197_14, k197_15, k197_16, k197_17, k197_20, k197_23, k197_25, k197_26, k197_27, k197_29, k197_31, k197_34, k197_35, k197_37, k197_40, k197_41, k197_44, k197_45, k197_49, k197_50, k197_53, k197_54, k197_57, k197_60, k197_63, k197_64, k197_65, k197_68, k197_69, k197_72, k197_73, k197_74, k197_77, k197_80, k197_81, k197_84, k197_85, mm_sI, mm_sJ, mm_sR, mm_cI, mm_cJ, mm_I, mm_J, mm_R, mm_K, mm_N, psh_s, psh_n, z_n, z_i, z_r, z_l, Nat.reduceAdd, Nat.reduceLeDiff, K113 hS, R113_2 hS, R113_3 hS, R113_5 hS, R113_8 hS, R113_9 hS, R113_10 hS, R113_11 hS, R113_16 hS, R113_17 hS, R113_18 hS, R113_19 hS, R113_20 hS, R113_21 hS, R113_22 hS, R113_26 hS, R113_27 hS, R113_30 hS, R113_32 hS, R113_34 hS, R113_35 hS, R113_36 hS, R113_37 hS, R113_40 hS, R113_41 hS, R113_42 hS, R113_43 hS, R113_44 hS, R113_45 hS, R113_47 hS, K114 hS, K115 hS, K116 hS, K117 hS, K118 hS, K119 hS, K120 hS, K121 hS, K122 hS, K123 hS, K124 hS, K125 hS, K126 hS, K127 hS, K128 hS, K129 hS, K130 hS, K131 hS, K132 hS, K133 hS, K134 hS, K135 hS, K136 hS, K137 hS, K138 hS, K139 hS, K140 hS, K141 hS, K142 hS, N114 hS, N115 hS, N116 hS, N117 hS, N118 hS, N119 hS, N120 hS, N121 hS, N122 hS, N123 hS, N124 hS, N125 hS, N126 hS, N127 hS, N128 hS, N129 hS, N130 hS, N131 hS, N132 hS, N133 hS, N134 hS, N135 hS, N136 hS, N137 hS, N138 hS, N139 hS, N140 hS, N141 hS, N142 hS, ne_eq, true_or, or_true, not_false_eq_true, Nat.reduceEqDiff, Nat.reduceLT, Nat.reduceLeDiff, Nat.reduceAdd]
    have R2 := R.fr (Or.inl rfl) fr D2
    refine m_bwAsk (by omega) hw hf R2 ?_ ?_
    · intro c; rw [if_pos c] at hQ; exact hQ
    · intro c; rw [if_neg c] at hQ; exact ih (by omega) (by omega) R2 hQ
theorem m_backWhen {frog : Int32} (D : DD G F W b h r E) (hQ : ∀ h', Scr h h' → Q (some (vi (backWhenA F W b frog))) (mm h' j r E)) :
    WP (d + 8) 197 0 [some (vr 113), some (vi frog), none, none] [] (mm h j r E) Q := by
  have hS := D.S
  have hF8 := D.F8
  have hr := hQ h Scr.rf
  unfold backWhenA at hQ hr
  by_cases hf : frog = -1 ∨ inb frog F
  case neg =>
    rw [if_neg hf] at hr
    have c1 : ¬ frog = -1 := fun hh => hf (Or.inl hh)
    have c2 : ¬ inb frog F := fun hh => hf (Or.inr hh)
    simp only [k197_0, k197_1, k197_2, k197_5, k197_6, k197_7, k197_10, k197_13, k197_14, k197_15, k197_16, k197_17, k197_20, k197_23, k197_25, k197_26, k197_27, k197_29, k197_31, k197_34, k197_35, k197_37, k197_40, k197_41, k197_44, k197_45, k197_48, k197_49, k197_50, k197_53, k197_54, k197_57, k197_60, k197_63, k197_64, k197_65, k197_68, k197_69, k197_72, k197_73, k197_74, k197_77, k197_80, k197_81, k197_84, k197_85, mm_sI, mm_sJ, mm_sR, mm_cI, mm_cJ, mm_I, mm_J, mm_R, mm_K, mm_N, psh_s, psh_n, z_n, z_i, z_r, z_l, Nat.reduceAdd, Nat.reduceLeDiff, K113 hS, R113_2 hS, R113_3 hS, R113_5 hS, R113_8 hS, R113_9 hS, R113_10 hS, R113_11 hS, R113_16 hS, R113_17 hS, R113_18 hS, R113_19 hS, R113_20 hS, R113_21 hS, R113_22 hS, R113_26 hS, R113_27 hS, R113_30 hS, R113_32 hS, R113_34 hS, R113_35 hS, R113_36 hS, R113_37 hS, R113_40 hS, R113_41 hS, R113_42 hS, R113_43 hS, R113_44 hS, R113_45 hS, R113_47 hS, K114 hS, K115 hS, K116 hS, K117 hS, K118 hS, K119 hS, K120 hS, K121 hS, K122 hS, K123 hS, K124 hS, K125 hS, K126 hS, K127 hS, K128 hS, K129 hS, K130 hS, K131 hS, K132 hS, K133 hS, K134 hS, K135 hS, K136 hS, K137 hS, K138 hS, K139 hS, K140 hS, K141 hS, K142 hS, N114 hS, N115 hS, N116 hS, N117 hS, N118 hS, N119 hS, N120 hS, N121 hS, N122 hS, N123 hS, N124 hS, N125 hS, N126 hS, N127 hS, N128 hS, N129 hS, N130 hS, N131 hS, N132 hS, N133 hS, N134 hS, N135 hS, N136 hS, N137 hS, N138 hS, N139 hS, N140 hS, N141 hS, N142 hS, ne_eq, true_or, or_true, not_false_eq_true, Nat.reduceEqDiff, Nat.reduceLT, Nat.reduceLeDiff, Nat.reduceAdd, c1, if_false, m_isFrog D.eF hS hF8, b2i_0, eq_false c2, not_false_eq_true, if_true]
    exact hr
  simp only [if_pos hf] at hQ
  have start : WP (d + 8) 197 15 [some (vr 113), some (vi frog), none, none] [] (mm h j r E) Q := by
    simp only [k197_0, k197_1, k197_2, k197_5, k197_6, k197_7, k197_10, k197_13, k197_14, k197_15, k197_16, k197_17, k197_20, k197_23, k197_25, k197_26, k197_27, k197_29, k197_31, k197_34, k197_35, k197_37, k197_40, k197_41, k197_44, k197_45, k197_48, k197_49, k197_50, k197_53, k197_54, k197_57, k197_60, k197_63, k197_64, k197_65, k197_68, k197_69, k197_72, k197_73, k197_74, k197_77, k197_80, k197_81, k197_84, k197_85, mm_sI, mm_sJ, mm_sR, mm_cI, mm_cJ, mm_I, mm_J, mm_R, mm_K, mm_N, psh_s, psh_n, z_n, z_i, z_r, z_l, Nat.reduceAdd, Nat.reduceLeDiff, K113 hS, R113_2 hS, R113_3 hS, R113_5 hS, R113_8 hS, R113_9 hS, R113_10 hS, R113_11 hS, R113_16 hS, R113_17 hS, R113_18 hS, R113_19 hS, R113_20 hS, R113_21 hS, R113_22 hS, R113_26 hS, R113_27 hS, R113_30 hS, R113_32 hS, R113_34 hS, R113_35 hS, R113_36 hS, R113_37 hS, R113_40 hS, R113_41 hS, R113_42 hS, R113_43 hS, R113_44 hS, R113_45 hS, R113_47 hS, K114 hS, K115 hS, K116 hS, K117 hS, K118 hS, K119 hS, K120 hS, K121 hS, K122 hS, K123 hS, K124 hS, K125 hS, K126 hS, K127 hS, K128 hS, K129 hS, K130 hS, K131 hS, K132 hS, K133 hS, K134 hS, K135 hS, K136 hS, K137 hS, K138 hS, K139 hS, K140 hS, K141 hS, K142 hS, N114 hS, N115 hS, N116 hS, N117 hS, N118 hS, N119 hS, N120 hS, N121 hS, N122 hS, N123 hS, N124 hS, N125 hS, N126 hS, N127 hS, N128 hS, N129 hS, N130 hS, N131 hS, N132 hS, N133 hS, N134 hS, N135 hS, N136 hS, N137 hS, N138 hS, N139 hS, N140 hS, N141 hS, N142 hS, ne_eq, true_or, or_true, not_false_eq_true, Nat.reduceEqDiff, Nat.reduceLT, Nat.reduceLeDiff, Nat.reduceAdd]
    refine r_keeps hS (Or.inl rfl) D ?_
    intro h1 R _ _
    simp only [k197_0, k197_1, k197_2, k197_5, k197_6, k197_7, k197_10, k197_13, k197_14, k197_15, k197_16, k197_17, k197_20, k197_23, k197_25, k197_26, k197_27, k197_29, k197_31, k197_34, k197_35, k197_37, k197_40, k197_41, k197_44, k197_45, k197_48, k197_49, k197_50, k197_53, k197_54, k197_57, k197_60, k197_63, k197_64, k197_65, k197_68, k197_69, k197_72, k197_73, k197_74, k197_77, k197_80, k197_81, k197_84, k197_85, mm_sI, mm_sJ, mm_sR, mm_cI, mm_cJ, mm_I, mm_J, mm_R, mm_K, mm_N, psh_s, psh_n, z_n, z_i, z_r, z_l, Nat.reduceAdd, Nat.reduceLeDiff, ne_eq, true_or, or_true, not_false_eq_true, Nat.reduceEqDiff, Nat.reduceLT, Nat.reduceLeDiff, Nat.reduceAdd]
    rw [k197_28]
    simp only [k197_0, k197_1, k197_2, k197_5, k197_6, k197_7, k197_10, k197_13, k197_14, k197_15, k197_16, k197_17, k197_20, k197_23, k197_25, k197_26, k197_27, k197_29, k197_31, k197_34, k197_35, k197_37, k197_40, k197_41, k197_44, k197_45, k197_49, k197_50, k197_53, k197_54, k197_57, k197_60, k197_63, k197_64, k197_65, k197_68, k197_69, k197_72, k197_73, k197_74, k197_77, k197_80, k197_81, k197_84, k197_85, mm_sI, mm_sJ, mm_sR, mm_cI, mm_cJ, mm_I, mm_J, mm_R, mm_K, mm_N, psh_s, psh_n, z_n, z_i, z_r, z_l, Nat.reduceAdd, Nat.reduceLeDiff, ne_eq, true_or, or_true, not_false_eq_true, Nat.reduceEqDiff, Nat.reduceLT, Nat.reduceLeDiff, Nat.reduceAdd, show ¬ ((40 : Int32) < 0) by decide, Int32.le_refl, if_false, if_true]
    refine m_bwAsk (i := 0) (by omega) rfl hf R ?_ ?_
    · intro c; rw [bwL_s, if_pos c] at hQ; exact hQ
    · intro c; rw [bwL_s, if_neg c] at hQ; exact m_bwL rfl hf (i := 1) (k := 40) (by omega) (by omega) R hQ
  by_cases c1 : frog = -1
  · simp only [k197_0, k197_1, k197_2, k197_5, k197_6, k197_7, k197_10, k197_13, k197_14, k197_16, k197_17, k197_20, k197_23, k197_25, k197_26, k197_27, k197_29, k197_31, k197_34, k197_35, k197_37, k197_40, k197_41, k197_44, k197_45, k197_48, k197_49, k197_50, k197_53, k197_54, k197_57, k197_60, k197_63, k197_64, k197_65, k197_68, k197_69, k197_72, k197_73, k197_74, k197_77, k197_80, k197_81, k197_84, k197_85, mm_sI, mm_sJ, mm_sR, mm_cI, mm_cJ, mm_I, mm_J, mm_R, mm_K, mm_N, psh_s, psh_n, z_n, z_i, z_r, z_l, Nat.reduceAdd, Nat.reduceLeDiff, K113 hS, R113_2 hS, R113_3 hS, R113_5 hS, R113_8 hS, R113_9 hS, R113_10 hS, R113_11 hS, R113_16 hS, R113_17 hS, R113_18 hS, R113_19 hS, R113_20 hS, R113_21 hS, R113_22 hS, R113_26 hS, R113_27 hS, R113_30 hS, R113_32 hS, R113_34 hS, R113_35 hS, R113_36 hS, R113_37 hS, R113_40 hS, R113_41 hS, R113_42 hS, R113_43 hS, R113_44 hS, R113_45 hS, R113_47 hS, K114 hS, K115 hS, K116 hS, K117 hS, K118 hS, K119 hS, K120 hS, K121 hS, K122 hS, K123 hS, K124 hS, K125 hS, K126 hS, K127 hS, K128 hS, K129 hS, K130 hS, K131 hS, K132 hS, K133 hS, K134 hS, K135 hS, K136 hS, K137 hS, K138 hS, K139 hS, K140 hS, K141 hS, K142 hS, N114 hS, N115 hS, N116 hS, N117 hS, N118 hS, N119 hS, N120 hS, N121 hS, N122 hS, N123 hS, N124 hS, N125 hS, N126 hS, N127 hS, N128 hS, N129 hS, N130 hS, N131 hS, N132 hS, N133 hS, N134 hS, N135 hS, N136 hS, N137 hS, N138 hS, N139 hS, N140 hS, N141 hS, N142 hS, ne_eq, true_or, or_true, not_false_eq_true, Nat.reduceEqDiff, Nat.reduceLT, Nat.reduceLeDiff, Nat.reduceAdd, c1, if_true] at start ⊢; exact start
  · have c2 := hf.resolve_left c1
    simp only [k197_0, k197_1, k197_2, k197_5, k197_6, k197_7, k197_10, k197_13, k197_14, k197_16, k197_17, k197_20, k197_23, k197_25, k197_26, k197_27, k197_29, k197_31, k197_34, k197_35, k197_37, k197_40, k197_41, k197_44, k197_45, k197_48, k197_49, k197_50, k197_53, k197_54, k197_57, k197_60, k197_63, k197_64, k197_65, k197_68, k197_69, k197_72, k197_73, k197_74, k197_77, k197_80, k197_81, k197_84, k197_85, mm_sI, mm_sJ, mm_sR, mm_cI, mm_cJ, mm_I, mm_J, mm_R, mm_K, mm_N, psh_s, psh_n, z_n, z_i, z_r, z_l, Nat.reduceAdd, Nat.reduceLeDiff, K113 hS, R113_2 hS, R113_3 hS, R113_5 hS, R113_8 hS, R113_9 hS, R113_10 hS, R113_11 hS, R113_16 hS, R113_17 hS, R113_18 hS, R113_19 hS, R113_20 hS, R113_21 hS, R113_22 hS, R113_26 hS, R113_27 hS, R113_30 hS, R113_32 hS, R113_34 hS, R113_35 hS, R113_36 hS, R113_37 hS, R113_40 hS, R113_41 hS, R113_42 hS, R113_43 hS, R113_44 hS, R113_45 hS, R113_47 hS, K114 hS, K115 hS, K116 hS, K117 hS, K118 hS, K119 hS, K120 hS, K121 hS, K122 hS, K123 hS, K124 hS, K125 hS, K126 hS, K127 hS, K128 hS, K129 hS, K130 hS, K131 hS, K132 hS, K133 hS, K134 hS, K135 hS, K136 hS, K137 hS, K138 hS, K139 hS, K140 hS, K141 hS, K142 hS, N114 hS, N115 hS, N116 hS, N117 hS, N118 hS, N119 hS, N120 hS, N121 hS, N122 hS, N123 hS, N124 hS, N125 hS, N126 hS, N127 hS, N128 hS, N129 hS, N130 hS, N131 hS, N132 hS, N133 hS, N134 hS, N135 hS, N136 hS, N137 hS, N138 hS, N139 hS, N140 hS, N141 hS, N142 hS, ne_eq, true_or, or_true, not_false_eq_true, Nat.reduceEqDiff, Nat.reduceLT, Nat.reduceLeDiff, Nat.reduceAdd, c1, if_false, m_isFrog D.eF hS hF8, b2i_0, eq_true c2, not_true_eq_false]; exact start
end BW
