/-! ===== loans dealt: the model ===== -/
def FrX (h h' : Hp) : Prop := (∀ a, a ≠ 113 → a ≠ 140 → a ≠ 141 → h' a = h a) ∧ ∀ i, i ≠ 46 → h' 113 i = h 113 i
def cpD : Nat → Nat → Hp → Hp
  | _, 0, h => h
  | i, k + 1, h => cpD (i + 1) k (up2 h 141 i (h 140 i))
theorem cpD_v : ∀ {k i : Nat} {h : Hp} {c x : Nat}, cpD i k h c x = if c = 141 ∧ i ≤ x ∧ x < i + k then h 140 x else h c x := by
  intro k
  induction k with
  | zero => intro i h c x; rw [cpD, if_neg (by omega)]
  | succ k ih =>
    intro i h c x
    rw [cpD, ih]
    by_cases h1 : c = 141
    · subst h1
      rw [up2_a (show 140 ≠ 141 by decide)]
      by_cases h2 : x = i
      · subst h2; rw [if_neg (by omega), up2_s, if_pos (by omega)]
      · rw [up2_i h2]
        by_cases h3 : i + 1 ≤ x ∧ x < i + 1 + k
        · rw [if_pos ⟨rfl, h3⟩, if_pos (by omega)]
        · rw [if_neg (fun hh => h3 hh.2), if_neg (by omega)]
    · rw [if_neg (by omega), if_neg (by omega), up2_a h1]
section DM
variable {d : Nat} {M : Mem} {h h0 h1 h2 : Hp} {j : Jp} {r : Rp} {E : EE} {l G F A n : Nat} {W : LW} {b bt bm : BB} {w : Nat → Nat → Int32}
theorem FrX.rf : FrX h h := ⟨fun _ _ _ _ => rfl, fun _ _ => rfl⟩
theorem FrX.tr (a : FrX h h1) (c : FrX h1 h2) : FrX h h2 := ⟨fun x p q s => (c.1 x p q s).trans (a.1 x p q s), fun i hi => (c.2 i hi).trans (a.2 i hi)⟩
def Wh (w : Nat → Nat → Int32) (G F : Nat) (h : Hp) : Prop := ∀ g f, g < G → f < F → h 139 (8 * g + f) = w g f
/-- what a dealing from g on leaves -/
def ResD (w : Nat → Nat → Int32) (F k g t : Nat) (sum : Int32) (h h' : Hp) : Prop :=
  ((h 113 46).toInt < sum.toInt + (bD w F k g t).toInt → (h' 113 46).toInt = sum.toInt + (bD w F k g t).toInt ∧ (∀ i, i < g → h' 141 i = h 140 i) ∧ ∀ i, i < k → h' 141 (g + i) = nI (grF w F k g t i)) ∧
  (¬ (h 113 46).toInt < sum.toInt + (bD w F k g t).toInt → h' 113 46 = h 113 46 ∧ ∀ i, h' 141 i = h 141 i)
/-- so far, before frog f of girl g -/
def CurD (w : Nat → Nat → Int32) (F k g t f : Nat) (sum : Int32) (h hc : Hp) : Prop :=
  (hc 113 46 = h 113 46 ∧ (∀ i, hc 141 i = h 141 i) ∧ ∀ y, y < f → vlB (w g) t y = true → ¬ (h 113 46).toInt < sum.toInt + (dV (w g) (bD w F k (g + 1)) t y).toInt) ∨
  (∃ c, c < f ∧ vlB (w g) t c = true ∧ (h 113 46).toInt < sum.toInt + (dV (w g) (bD w F k (g + 1)) t c).toInt ∧ (∀ y, y < f → vlB (w g) t y = true → (dV (w g) (bD w F k (g + 1)) t y).toInt ≤ (dV (w g) (bD w F k (g + 1)) t c).toInt) ∧ (∀ y, y < c → vlB (w g) t y = true → (dV (w g) (bD w F k (g + 1)) t y).toInt < (dV (w g) (bD w F k (g + 1)) t c).toInt) ∧
    (hc 113 46).toInt = sum.toInt + (dV (w g) (bD w F k (g + 1)) t c).toInt ∧ (∀ i, i < g → hc 141 i = h 140 i) ∧ hc 141 g = nI c ∧ ∀ i, i < k → hc 141 (g + 1 + i) = nI (grF w F k (g + 1) (t ||| 2 ^ c) i))
theorem cur_skip {k g t f : Nat} {sum : Int32} {hc : Hp} (a : CurD w F k g t f sum h hc) (hn : ¬ vlB (w g) t f = true) : CurD w F k g t (f + 1) sum h hc := by
  rcases a with ⟨a1, a2, a3⟩ | ⟨c, a1, a2, a3, a4, a5, a6⟩
  · refine Or.inl ⟨a1, a2, fun y hy hv => ?_⟩
    by_cases e : y = f
    · subst e; exact absurd hv hn
    · exact a3 y (by omega) hv
  · refine Or.inr ⟨c, by omega, a2, a3, fun y hy hv => ?_, a5, a6⟩
    by_cases e : y = f
    · subst e; exact absurd hv hn
    · exact a4 y (by omega) hv
theorem cur_go {k g t f : Nat} {sum s2 : Int32} {hc h' : Hp} (a : CurD w F k g t f sum h hc) (hv : vlB (w g) t f = true) (hs : s2.toInt + (bD w F k (g + 1) (t ||| 2 ^ f)).toInt = sum.toInt + (dV (w g) (bD w F k (g + 1)) t f).toInt) (h140 : ∀ i, i < g → hc 140 i = h 140 i)
    (R : ResD w F k (g + 1) (t ||| 2 ^ f) s2 (up2 hc 140 g (nI f)) h') : CurD w F k g t (f + 1) sum h h' := by
  obtain ⟨R1, R2⟩ := R
  rw [hs, up2_a (show 113 ≠ 140 by decide), up2_a (show 141 ≠ 140 by decide)] at R2
  rw [hs, up2_a (show 113 ≠ 140 by decide)] at R1
  have cp : (∀ i, i < g + 1 → h' 141 i = up2 hc 140 g (nI f) 140 i) → (∀ i, i < g → h' 141 i = h 140 i) ∧ h' 141 g = nI f := by
    intro q
    refine ⟨fun i hi => ?_, ?_⟩
    · rw [q i (by omega), up2_i (by omega)]; exact h140 i hi
    · rw [q g (by omega), up2_s]
  rcases a with ⟨a1, a2, a3⟩ | ⟨c, a1, a2, a3, a4, a5, a6, a7, a8, a9⟩
  · rw [a1] at R1 R2
    by_cases imp : (h 113 46).toInt < sum.toInt + (dV (w g) (bD w F k (g + 1)) t f).toInt
    · obtain ⟨r1, r2, r3⟩ := R1 imp
      obtain ⟨r4, r5⟩ := cp r2
      refine Or.inr ⟨f, by omega, hv, imp, fun y hy hvy => ?_, fun y hy hvy => ?_, r1, r4, r5, r3⟩
      · by_cases e : y = f
        · subst e; exact Int.le_refl _
        · have := a3 y (by omega) hvy; omega
      · have := a3 y (by omega) hvy; omega
    · obtain ⟨r1, r2⟩ := R2 imp
      refine Or.inl ⟨r1, fun i => (r2 i).trans (a2 i), fun y hy hvy => ?_⟩
      by_cases e : y = f
      · subst e; exact imp
      · exact a3 y (by omega) hvy
  · rw [a6] at R1 R2
    by_cases imp : sum.toInt + (dV (w g) (bD w F k (g + 1)) t c).toInt < sum.toInt + (dV (w g) (bD w F k (g + 1)) t f).toInt
    · obtain ⟨r1, r2, r3⟩ := R1 imp
      obtain ⟨r4, r5⟩ := cp r2
      refine Or.inr ⟨f, by omega, hv, by omega, fun y hy hvy => ?_, fun y hy hvy => ?_, r1, r4, r5, r3⟩
      · by_cases e : y = f
        · subst e; exact Int.le_refl _
        · have := a4 y (by omega) hvy; omega
      · have := a4 y (by omega) hvy; omega
    · obtain ⟨r1, r2⟩ := R2 imp
      refine Or.inr ⟨c, by omega, a2, a3, fun y hy hvy => ?_, a5, by rw [r1]; exact a6, fun i hi => (r2 i).trans (a7 i hi), (r2 g).trans a8, fun i hi => (r2 _).trans (a9 i hi)⟩
      by_cases e : y = f
      · subst e; omega
      · exact a4 y (by omega) hvy
theorem cur_end {k g t : Nat} {sum : Int32} {hc h' : Hp} (hF8 : F ≤ 8) (hk : k ≤ 7) (hw : ∀ g f, (w g f).toInt ≤ 99) (a : CurD w F k g t F sum h hc) (h140 : ∀ i, i < g → hc 140 i = h 140 i) (R : ResD w F k (g + 1) t sum (up2 hc 140 g 9) h') : ResD w F (k + 1) g t sum h h' := by
  obtain ⟨R1, R2⟩ := R
  rw [up2_a (show 113 ≠ 140 by decide), up2_a (show 141 ≠ 140 by decide)] at R2
  rw [up2_a (show 113 ≠ 140 by decide)] at R1
  obtain ⟨m1, m2, m3⟩ := @bD_m w F hw k g t
  have bi := fun t => @bD_i w F hw k (by omega) (g + 1) t
  have dv := fun f => dV_i (wg := w g) (nx := bD w F k (g + 1)) (t := t) (f := f) (show k ≤ 8 by omega) (hw g) bi
  have bt := bi t
  have cp : (∀ i, i < g + 1 → h' 141 i = up2 hc 140 g 9 140 i) → (∀ i, i < g → h' 141 i = h 140 i) ∧ h' 141 g = 9 := by
    intro q
    refine ⟨fun i hi => ?_, ?_⟩
    · rw [q i (by omega), up2_i (by omega)]; exact h140 i hi
    · rw [q g (by omega), up2_s]
  -- the value of what is not there is 0
  have nv : ∀ y, ¬ vlB (w g) t y = true → (dV (w g) (bD w F k (g + 1)) t y).toInt = 0 := by intro y hy; unfold dV; rw [if_neg hy, i0]
  have none_ : (∀ y, y < F → vlB (w g) t y = true → (dV (w g) (bD w F k (g + 1)) t y).toInt < (bD w F k (g + 1) t).toInt) → (bD w F (k + 1) g t).toInt = (bD w F k (g + 1) t).toInt ∧ fbN (w g) (bD w F k (g + 1)) (bD w F (k + 1) g t) t 0 F = 9 := by
    intro q
    have e : (bD w F (k + 1) g t).toInt = (bD w F k (g + 1) t).toInt := by
      rcases m3 with e | ⟨y, hy, e⟩
      · rw [e]
      · by_cases hv : vlB (w g) t y = true
        · have := q y hy hv; rw [← e] at this; omega
        · have := nv y hv; rw [← e] at this; omega
    refine ⟨e, fbN_n (fun y _ hy hv he => ?_)⟩
    have := q y (by omega) hv
    rw [he] at this; omega
  have shift : ∀ (x : Nat), h' 141 g = nI x → (∀ i, i < k → h' 141 (g + 1 + i) = nI (grF w F k (g + 1) (nxT t x) i)) → fbN (w g) (bD w F k (g + 1)) (bD w F (k + 1) g t) t 0 F = x → ∀ i, i < k + 1 → h' 141 (g + i) = nI (grF w F (k + 1) g t i) := by
    intro x q1 q2 q3 i hi
    cases i with
    | zero => rw [Nat.add_zero, q1]; show nI x = nI (fbN _ _ _ _ _ _); rw [q3]
    | succ i =>
      rw [show g + (i + 1) = g + 1 + i by omega, q2 i (by omega)]
      show _ = nI (grF w F k (g + 1) (nxT t (fbN _ _ _ _ _ _)) i)
      rw [q3]
  rcases a with ⟨a1, a2, a3⟩ | ⟨c, a1, a2, a3, a4, a5, a6, a7, a8, a9⟩
  · rw [a1] at R1 R2
    by_cases imp : (h 113 46).toInt < sum.toInt + (bD w F k (g + 1) t).toInt
    · obtain ⟨r1, r2, r3⟩ := R1 imp
      obtain ⟨r4, r5⟩ := cp r2
      obtain ⟨e1, e2⟩ := none_ (fun y hy hv => by have := a3 y hy hv; omega)
      refine ⟨fun _ => ⟨by rw [r1, e1], r4, shift 9 r5 (fun i hi => r3 i hi) e2⟩, fun hn => by rw [e1] at hn; exact absurd imp hn⟩
    · obtain ⟨r1, r2⟩ := R2 imp
      refine ⟨fun hi => ?_, fun _ => ⟨r1, fun i => (r2 i).trans (a2 i)⟩⟩
      rcases m3 with e | ⟨y, hy, e⟩
      · rw [e] at hi; exact absurd hi imp
      · rw [e] at hi
        by_cases hv : vlB (w g) t y = true
        · exact absurd hi (a3 y hy hv)
        · rw [nv y hv] at hi; omega
  · rw [a6] at R1 R2
    by_cases imp : sum.toInt + (dV (w g) (bD w F k (g + 1)) t c).toInt < sum.toInt + (bD w F k (g + 1) t).toInt
    · obtain ⟨r1, r2, r3⟩ := R1 imp
      obtain ⟨r4, r5⟩ := cp r2
      obtain ⟨e1, e2⟩ := none_ (fun y hy hv => by have := a4 y hy hv; omega)
      refine ⟨fun _ => ⟨by rw [r1, e1], r4, shift 9 r5 (fun i hi => r3 i hi) e2⟩, fun hn => by rw [e1] at hn; omega⟩
    · obtain ⟨r1, r2⟩ := R2 imp
      have vc := m2 c a1
      have e1 : (bD w F (k + 1) g t).toInt = (dV (w g) (bD w F k (g + 1)) t c).toInt := by
        rcases m3 with e | ⟨y, hy, e⟩
        · rw [e] at vc ⊢; omega
        · by_cases hv : vlB (w g) t y = true
          · have := a4 y hy hv; rw [e] at vc ⊢; omega
          · have := nv y hv; have := (dv c).2.2 a2; rw [e] at vc ⊢; omega
      have e2 : fbN (w g) (bD w F k (g + 1)) (bD w F (k + 1) g t) t 0 F = c := by
        refine fbN_s a2 ((iEq _ _).2 e1.symm) (by omega) (by omega) (fun y _ hy hv he => ?_)
        have := a5 y hy hv
        rw [he] at this; omega
      refine ⟨fun _ => ⟨?_, fun i hi => (r2 i).trans (a7 i hi), ?_⟩, fun hn => by rw [e1] at hn; omega⟩
      · rw [r1, a6, e1]
      · refine shift c ((r2 g).trans a8) (fun i hi => ?_) e2
        unfold nxT; rw [if_neg (show ¬ c = 9 by omega), r2]; exact a9 i hi
theorem m_cpL {g t sum : Option PV} {Q : Option PV → Mem → Prop} (hS : Sh r E) : ∀ {k i : Nat} {h : Hp}, i + k = 8 → WP d 203 25 [some (vr 113), g, t, sum, some (vi (nI i))] [] (mm h j r E) Q = Q none (mm (cpD i k h) j r E) := by
  intro k
  induction k with
  | zero =>
    intro i h hk
    have : i = 8 := by omega
    subst this
    rw [k203_25]
    simp only [k203_1, k203_2, k203_5, k203_8, k203_9, k203_10, k203_13, k203_16, k203_17, k203_18, k203_19, k203_22, k203_23, k203_27, k203_29, k203_32, k203_33, k203_36, k203_38, k203_39, k203_42, k203_44, k203_45, k203_46, k203_49, k203_52, k203_53, k203_54, k203_58, k203_59, k203_62, k203_65, k203_66, k203_68, k203_69, k203_70, k203_71, k203_72, k203_75, k203_76, k203_79, k203_81, k203_82, k203_83, k203_85, k203_86, k203_87, k203_90, k203_93, k203_94, k203_97, k203_98, k203_100, k203_101, k203_102, k203_103, k203_104, k203_105, k203_106, k203_107, k203_109, k203_110, k203_111, k203_112, k203_113, k203_116, k203_118, k203_119, k203_120, k203_122, k203_123, k203_124, k203_125, k203_128, k203_131, k203_134, k203_135, k203_138, k203_139, k203_141, k203_142, k203_143, k203_144, k203_145, k203_146, k203_147, k203_148, k203_151, mm_sI, mm_sJ, mm_sR, mm_cI, mm_cJ, mm_I, mm_J, mm_R, mm_K, mm_N, psh_s, psh_n, z_n, z_i, z_r, z_l, Nat.reduceAdd, Nat.reduceLeDiff, K113 hS, R113_2 hS, R113_3 hS, R113_5 hS, R113_8 hS, R113_9 hS, R113_10 hS, R113_11 hS, R113_16 hS, R113_17 hS, R113_18 hS, R113_19 hS, R113_20 hS, R113_21 hS, R113_22 hS, R113_26 hS, R113_27 hS, R113_30 hS, R113_32 hS, R113_34 hS, R113_35 hS, R113_36 hS, R113_37 hS, R113_40 hS, R113_41 hS, R113_42 hS, R113_43 hS, R113_44 hS, R113_45 hS, R113_47 hS, K114 hS, K115 hS, K116 hS, K117 hS, K118 hS, K119 hS, K120 hS, K121 hS, K122 hS, K123 hS, K124 hS, K125 hS, K126 hS, K127 hS, K128 hS, K129 hS, K130 hS, K131 hS, K132 hS, K133 hS, K134 hS, K135 hS, K136 hS, K137 hS, K138 hS, K139 hS, K140 hS, K141 hS, K142 hS, N114 hS, N115 hS, N116 hS, N117 hS, N118 hS, N119 hS, N120 hS, N121 hS, N122 hS, N123 hS, N124 hS, N125 hS, N126 hS, N127 hS, N128 hS, N129 hS, N130 hS, N131 hS, N132 hS, N133 hS, N134 hS, N135 hS, N136 hS, N137 hS, N138 hS, N139 hS, N140 hS, N141 hS, N142 hS, false_or, or_false, ne_eq, true_or, or_true, not_false_eq_true, Nat.reduceEqDiff, Nat.reduceLT, Nat.reduceLeDiff, Nat.reduceAdd, nn8, Int32.le_refl, if_true]; rfl
  | succ k ih =>
    intro i h hk
    have p1 : ((8 : Int32) ≤ nI i) = False := by rw [← nn8, nLe (by decide) (by omega)]; apply eq_false; omega
    have hi : inb (nI i) 8 = True := eq_true (by rw [inb_n (by omega)]; omega)
    rw [k203_25]
    simp only [k203_1, k203_2, k203_5, k203_8, k203_9, k203_10, k203_13, k203_16, k203_17, k203_18, k203_19, k203_22, k203_23, k203_27, k203_29, k203_32, k203_33, k203_36, k203_38, k203_39, k203_42, k203_44, k203_45, k203_46, k203_49, k203_52, k203_53, k203_54, k203_58, k203_59, k203_62, k203_65, k203_66, k203_68, k203_69, k203_70, k203_71, k203_72, k203_75, k203_76, k203_79, k203_81, k203_82, k203_83, k203_85, k203_86, k203_87, k203_90, k203_93, k203_94, k203_97, k203_98, k203_100, k203_101, k203_102, k203_103, k203_104, k203_105, k203_106, k203_107, k203_109, k203_110, k203_111, k203_112, k203_113, k203_116, k203_118, k203_119, k203_120, k203_122, k203_123, k203_124, k203_125, k203_128, k203_131, k203_134, k203_135, k203_138, k203_139, k203_141, k203_142, k203_143, k203_144, k203_145, k203_146, k203_147, k203_148, k203_151, mm_sI, mm_sJ, mm_sR, mm_cI, mm_cJ, mm_I, mm_J, mm_R, mm_K, mm_N, psh_s, psh_n, z_n, z_i, z_r, z_l, Nat.reduceAdd, Nat.reduceLeDiff, K113 hS, R113_2 hS, R113_3 hS, R113_5 hS, R113_8 hS, R113_9 hS, R113_10 hS, R113_11 hS, R113_16 hS, R113_17 hS, R113_18 hS, R113_19 hS, R113_20 hS, R113_21 hS, R113_22 hS, R113_26 hS, R113_27 hS, R113_30 hS, R113_32 hS, R113_34 hS, R113_35 hS, R113_36 hS, R113_37 hS, R113_40 hS, R113_41 hS, R113_42 hS, R113_43 hS, R113_44 hS, R113_45 hS, R113_47 hS, K114 hS, K115 hS, K116 hS, K117 hS, K118 hS, K119 hS, K120 hS, K121 hS, K122 hS, K123 hS, K124 hS, K125 hS, K126 hS, K127 hS, K128 hS, K129 hS, K130 hS, K131 hS, K132 hS, K133 hS, K134 hS, K135 hS, K136 hS, K137 hS, K138 hS, K139 hS, K140 hS, K141 hS, K142 hS, N114 hS, N115 hS, N116 hS, N117 hS, N118 hS, N119 hS, N120 hS, N121 hS, N122 hS, N123 hS, N124 hS, N125 hS, N126 hS, N127 hS, N128 hS, N129 hS, N130 hS, N131 hS, N132 hS, N133 hS, N134 hS, N135 hS, N136 hS, N137 hS, N138 hS, N139 hS, N140 hS, N141 hS, N142 hS, false_or, or_false, ne_eq, true_or, or_true, not_false_eq_true, Nat.reduceEqDiff, Nat.reduceLT, Nat.reduceLeDiff, Nat.reduceAdd, p1, if_false, hi, ix_n (show i < 2 ^ 31 by omega), nS1]
    rw [ih (by omega)]; rfl
theorem m_deals (hS : Sh r E) (hG8 : G ≤ 8) (hF8 : F ≤ 8) (hw : ∀ g f, (w g f).toInt ≤ 99) : ∀ {k g t : Nat} {sum : Int32} {h : Hp} {e : Nat} {Q : Option PV → Mem → Prop}, g + k = G → t < 2 ^ F → 0 ≤ sum.toInt → sum.toInt ≤ 99 * g → k ≤ e → h 113 0 = nI G → h 113 1 = nI F → Wh w G F h →
    (∀ h', FrX h h' → (∀ i, i < g → h' 140 i = h 140 i) → ResD w F k g t sum h h' → Q none (mm h' j r E)) → WP e 203 0 [some (vr 113), some (vi (nI g)), some (vi (nI t)), some (vi sum), none] [] (mm h j r E) Q := by
  have tw := two_le hF8
  intro k
  induction k with
  | zero =>
    intro g t sum h e Q hk ht s0 s1 he hG hF hW hQ
    have : g = G := by omega
    subst this
    have bd : (bD w F 0 g t).toInt = 0 := rfl
    rw [k203_0]
    simp only [k203_1, k203_2, k203_5, k203_8, k203_9, k203_10, k203_13, k203_16, k203_17, k203_18, k203_19, k203_22, k203_23, k203_27, k203_29, k203_32, k203_33, k203_36, k203_38, k203_39, k203_42, k203_44, k203_45, k203_46, k203_49, k203_52, k203_53, k203_54, k203_58, k203_59, k203_62, k203_65, k203_66, k203_68, k203_69, k203_70, k203_71, k203_72, k203_75, k203_76, k203_79, k203_81, k203_82, k203_83, k203_85, k203_86, k203_87, k203_90, k203_93, k203_94, k203_97, k203_98, k203_100, k203_101, k203_102, k203_103, k203_104, k203_105, k203_106, k203_107, k203_109, k203_110, k203_111, k203_112, k203_113, k203_116, k203_118, k203_119, k203_120, k203_122, k203_123, k203_124, k203_125, k203_128, k203_131, k203_134, k203_135, k203_138, k203_139, k203_141, k203_142, k203_143, k203_144, k203_145, k203_146, k203_147, k203_148, k203_151, mm_sI, mm_sJ, mm_sR, mm_cI, mm_cJ, mm_I, mm_J, mm_R, mm_K, mm_N, psh_s, psh_n, z_n, z_i, z_r, z_l, Nat.reduceAdd, Nat.reduceLeDiff, K113 hS, R113_2 hS, R113_3 hS, R113_5 hS, R113_8 hS, R113_9 hS, R113_10 hS, R113_11 hS, R113_16 hS, R113_17 hS, R113_18 hS, R113_19 hS, R113_20 hS, R113_21 hS, R113_22 hS, R113_26 hS, R113_27 hS, R113_30 hS, R113_32 hS, R113_34 hS, R113_35 hS, R113_36 hS, R113_37 hS, R113_40 hS, R113_41 hS, R113_42 hS, R113_43 hS, R113_44 hS, R113_45 hS, R113_47 hS, K114 hS, K115 hS, K116 hS, K117 hS, K118 hS, K119 hS, K120 hS, K121 hS, K122 hS, K123 hS, K124 hS, K125 hS, K126 hS, K127 hS, K128 hS, K129 hS, K130 hS, K131 hS, K132 hS, K133 hS, K134 hS, K135 hS, K136 hS, K137 hS, K138 hS, K139 hS, K140 hS, K141 hS, K142 hS, N114 hS, N115 hS, N116 hS, N117 hS, N118 hS, N119 hS, N120 hS, N121 hS, N122 hS, N123 hS, N124 hS, N125 hS, N126 hS, N127 hS, N128 hS, N129 hS, N130 hS, N131 hS, N132 hS, N133 hS, N134 hS, N135 hS, N136 hS, N137 hS, N138 hS, N139 hS, N140 hS, N141 hS, N142 hS, false_or, or_false, ne_eq, true_or, or_true, not_false_eq_true, Nat.reduceEqDiff, Nat.reduceLT, Nat.reduceLeDiff, Nat.reduceAdd, hG, if_true]
    by_cases c : sum ≤ h 113 46
    · have c' := (iLe _ _).1 c
      rw [if_neg (Int32.not_lt.2 c)]
      refine hQ h FrX.rf (fun _ _ => rfl) ⟨fun hi => ?_, fun _ => ⟨rfl, fun _ => rfl⟩⟩
      rw [bd] at hi; omega
    · have c' : ¬ sum.toInt ≤ (h 113 46).toInt := fun hh => c ((iLe _ _).2 hh)
      rw [if_pos (Int32.not_le.1 c)]
      rw [show (0 : Int32) = nI 0 from rfl, m_cpL hS (k := 8) (i := 0) (by omega)]
      refine hQ _ ⟨?_, ?_⟩ ?_ ⟨fun _ => ⟨?_, ?_, ?_⟩, fun hn => ?_⟩
      · intro a p q s; funext x; rw [cpD_v, if_neg (by omega), up2_a p]
      · intro i hi; rw [cpD_v, if_neg (by omega), up2_i hi]
      · intro i _; rw [cpD_v, if_neg (by omega), up2_a (by decide)]
      · rw [cpD_v, if_neg (by omega), up2_s, bd]; omega
      · intro i hi; rw [cpD_v, if_pos (by omega), up2_a (by decide)]
      · intro i hi; omega
      · rw [bd] at hn; omega
  | succ k ih =>
    intro g t sum h e Q hk ht s0 s1 he hG hF hW hQ
    obtain ⟨d, rfl⟩ : ∃ d, e = d + 1 := ⟨e - 1, by omega⟩
    have hgG : (nI g = nI G) = False := by rw [nEq (by omega) (by omega)]; apply eq_false; omega
    have hg8 : inb (nI g) 8 = True := eq_true (by rw [inb_n (by omega)]; omega)
    have bi := fun t => @bD_i w F hw k (by omega) (g + 1) t
    have key : ∀ {n f : Nat} {hc : Hp}, f + n = F → FrX h hc → (∀ i, i < g → hc 140 i = h 140 i) → CurD w F k g t f sum h hc → WP (d + 1) 203 56 [some (vr 113), some (vi (nI g)), some (vi (nI t)), some (vi sum), some (vi (nI f))] [] (mm hc j r E) Q := by
      intro n
      induction n with
      | zero =>
        intro f hc hf fx h140 cu
        have : f = F := by omega
        subst this
        have hF' : hc 113 1 = nI f := by rw [fx.2 1 (by decide)]; exact hF
        rw [k203_56]
        simp only [k203_1, k203_2, k203_5, k203_8, k203_9, k203_10, k203_13, k203_16, k203_17, k203_18, k203_19, k203_22, k203_23, k203_27, k203_29, k203_32, k203_33, k203_36, k203_38, k203_39, k203_42, k203_44, k203_45, k203_46, k203_49, k203_52, k203_53, k203_54, k203_58, k203_59, k203_62, k203_65, k203_66, k203_68, k203_69, k203_70, k203_71, k203_72, k203_75, k203_76, k203_79, k203_81, k203_82, k203_83, k203_85, k203_86, k203_87, k203_90, k203_93, k203_94, k203_97, k203_98, k203_100, k203_101, k203_102, k203_103, k203_104, k203_105, k203_106, k203_107, k203_109, k203_110, k203_111, k203_112, k203_113, k203_116, k203_118, k203_119, k203_120, k203_122, k203_123, k203_124, k203_125, k203_128, k203_131, k203_134, k203_135, k203_138, k203_139, k203_141, k203_142, k203_143, k203_144, k203_145, k203_146, k203_147, k203_148, k203_151, mm_sI, mm_sJ, mm_sR, mm_cI, mm_cJ, mm_I, mm_J, mm_R, mm_K, mm_N, psh_s, psh_n, z_n, z_i, z_r, z_l, Nat.reduceAdd, Nat.reduceLeDiff, K113 hS, R113_2 hS, R113_3 hS, R113_5 hS, R113_8 hS, R113_9 hS, R113_10 hS, R113_11 hS, R113_16 hS, R113_17 hS, R113_18 hS, R113_19 hS, R113_20 hS, R113_21 hS, R113_22 hS, R113_26 hS, R113_27 hS, R113_30 hS, R113_32 hS, R113_34 hS, R113_35 hS, R113_36 hS, R113_37 hS, R113_40 hS, R113_41 hS, R113_42 hS, R113_43 hS, R113_44 hS, R113_45 hS, R113_47 hS, K114 hS, K115 hS, K116 hS, K117 hS, K118 hS, K119 hS, K120 hS, K121 hS, K122 hS, K123 hS, K124 hS, K125 hS, K126 hS, K127 hS, K128 hS, K129 hS, K130 hS, K131 hS, K132 hS, K133 hS, K134 hS, K135 hS, K136 hS, K137 hS, K138 hS, K139 hS, K140 hS, K141 hS, K142 hS, N114 hS, N115 hS, N116 hS, N117 hS, N118 hS, N119 hS, N120 hS, N121 hS, N122 hS, N123 hS, N124 hS, N125 hS, N126 hS, N127 hS, N128 hS, N129 hS, N130 hS, N131 hS, N132 hS, N133 hS, N134 hS, N135 hS, N136 hS, N137 hS, N138 hS, N139 hS, N140 hS, N141 hS, N142 hS, false_or, or_false, ne_eq, true_or, or_true, not_false_eq_true, Nat.reduceEqDiff, Nat.reduceLT, Nat.reduceLeDiff, Nat.reduceAdd, hF', Int32.le_refl, if_true, hg8, ix_n (show g < 2 ^ 31 by omega), nS1]
        have fx1 : FrX hc (up2 hc 140 g 9) := ⟨fun a p q s => by rw [up2_a q], fun i _ => by rw [up2_a (by decide)]⟩
        refine ih (g := g + 1) (e := d) (by omega) ht s0 (by omega) (by omega) (by rw [up2_a (by decide), fx.2 0 (by decide)]; exact hG) (by rw [up2_a (by decide)]; exact hF') ?_ ?_
        · intro a c ha hc'; rw [up2_a (by decide), fx.1 139 (by decide) (by decide) (by decide)]; exact hW a c ha hc'
        · intro h' fx2 h2 R
          simp only [k203_1, k203_2, k203_5, k203_8, k203_9, k203_10, k203_13, k203_16, k203_17, k203_18, k203_19, k203_22, k203_23, k203_27, k203_29, k203_32, k203_33, k203_36, k203_38, k203_39, k203_42, k203_44, k203_45, k203_46, k203_49, k203_52, k203_53, k203_54, k203_58, k203_59, k203_62, k203_65, k203_66, k203_68, k203_69, k203_70, k203_71, k203_72, k203_75, k203_76, k203_79, k203_81, k203_82, k203_83, k203_85, k203_86, k203_87, k203_90, k203_93, k203_94, k203_97, k203_98, k203_100, k203_101, k203_102, k203_103, k203_104, k203_105, k203_106, k203_107, k203_109, k203_110, k203_111, k203_112, k203_113, k203_116, k203_118, k203_119, k203_120, k203_122, k203_123, k203_124, k203_125, k203_128, k203_131, k203_134, k203_135, k203_138, k203_139, k203_141, k203_142, k203_143, k203_144, k203_145, k203_146, k203_147, k203_148, k203_151, mm_sI, mm_sJ, mm_sR, mm_cI, mm_cJ, mm_I, mm_J, mm_R, mm_K, mm_N, psh_s, psh_n, z_n, z_i, z_r, z_l, Nat.reduceAdd, Nat.reduceLeDiff, false_or, or_false, ne_eq, true_or, or_true, not_false_eq_true, Nat.reduceEqDiff, Nat.reduceLT, Nat.reduceLeDiff, Nat.reduceAdd]
          refine hQ h' (fx.tr (fx1.tr fx2)) (fun i hi => ?_) (cur_end hF8 (by omega) hw cu h140 R)
          rw [h2 i (by omega), up2_i (by omega)]; exact h140 i hi
      | succ n ihn =>
        intro f hc hf fx h140 cu
        have hfF : f < F := by omega
        have hF' : hc 113 1 = nI F := by rw [fx.2 1 (by decide)]; exact hF
        have ea : nI (8 * g) + nI f = nI (8 * g + f) := nI_add _ _
        have hb : inb (nI (8 * g + f)) 64 = True := eq_true (by rw [inb_n (by omega)]; omega)
        have ew : hc 139 (8 * g + f) = w g f := by rw [fx.1 139 (by decide) (by decide) (by decide)]; exact hW g f (by omega) hfF
        rw [k203_56]
        simp only [k203_1, k203_2, k203_5, k203_8, k203_9, k203_10, k203_13, k203_16, k203_17, k203_18, k203_19, k203_22, k203_23, k203_27, k203_29, k203_32, k203_33, k203_36, k203_38, k203_39, k203_42, k203_44, k203_45, k203_46, k203_49, k203_52, k203_53, k203_54, k203_58, k203_59, k203_62, k203_65, k203_66, k203_68, k203_69, k203_70, k203_71, k203_72, k203_75, k203_76, k203_79, k203_81, k203_82, k203_83, k203_85, k203_86, k203_87, k203_90, k203_93, k203_94, k203_97, k203_98, k203_100, k203_101, k203_102, k203_103, k203_104, k203_105, k203_106, k203_107, k203_109, k203_110, k203_111, k203_112, k203_113, k203_116, k203_118, k203_119, k203_120, k203_122, k203_123, k203_124, k203_125, k203_128, k203_131, k203_134, k203_135, k203_138, k203_139, k203_141, k203_142, k203_143, k203_144, k203_145, k203_146, k203_147, k203_148, k203_151, mm_sI, mm_sJ, mm_sR, mm_cI, mm_cJ, mm_I, mm_J, mm_R, mm_K, mm_N, psh_s, psh_n, z_n, z_i, z_r, z_l, Nat.reduceAdd, Nat.reduceLeDiff, K113 hS, R113_2 hS, R113_3 hS, R113_5 hS, R113_8 hS, R113_9 hS, R113_10 hS, R113_11 hS, R113_16 hS, R113_17 hS, R113_18 hS, R113_19 hS, R113_20 hS, R113_21 hS, R113_22 hS, R113_26 hS, R113_27 hS, R113_30 hS, R113_32 hS, R113_34 hS, R113_35 hS, R113_36 hS, R113_37 hS, R113_40 hS, R113_41 hS, R113_42 hS, R113_43 hS, R113_44 hS, R113_45 hS, R113_47 hS, K114 hS, K115 hS, K116 hS, K117 hS, K118 hS, K119 hS, K120 hS, K121 hS, K122 hS, K123 hS, K124 hS, K125 hS, K126 hS, K127 hS, K128 hS, K129 hS, K130 hS, K131 hS, K132 hS, K133 hS, K134 hS, K135 hS, K136 hS, K137 hS, K138 hS, K139 hS, K140 hS, K141 hS, K142 hS, N114 hS, N115 hS, N116 hS, N117 hS, N118 hS, N119 hS, N120 hS, N121 hS, N122 hS, N123 hS, N124 hS, N125 hS, N126 hS, N127 hS, N128 hS, N129 hS, N130 hS, N131 hS, N132 hS, N133 hS, N134 hS, N135 hS, N136 hS, N137 hS, N138 hS, N139 hS, N140 hS, N141 hS, N142 hS, false_or, or_false, ne_eq, true_or, or_true, not_false_eq_true, Nat.reduceEqDiff, Nat.reduceLT, Nat.reduceLeDiff, Nat.reduceAdd, hF', nLe (show F < 2 ^ 31 by omega) (show f < 2 ^ 31 by omega), show ¬ F ≤ f by omega, if_false, bit_sh (show t < 256 by omega) (show f < 8 by omega), a8m, ea, hb, ix_n (show 8 * g + f < 2 ^ 31 by omega), ew, hg8, ix_n (show g < 2 ^ 31 by omega), up2_ai, or_n (show t < 256 by omega) (show f < 8 by omega), nS1]
        cases c1 : bit (nI t) f with
        | true =>
          simp only [if_true]
          exact ihn (by omega) fx h140 (cur_skip cu (fun hv => by rw [vl_iff, c1] at hv; exact absurd hv.1 (by decide)))
        | false =>
          simp only [Bool.false_eq_true, if_false]
          by_cases c2 : 0 < w g f
          · have hv : vlB (w g) t f = true := vl_iff.2 ⟨c1, by have := (iLt _ _).1 c2; rwa [i0] at this⟩
            have dv := (dV_i (wg := w g) (nx := bD w F k (g + 1)) (t := t) (f := f) (show k ≤ 8 by omega) (hw g) bi).2.2 hv
            have w9 := hw g f
            have w0 := (vl_iff.1 hv).2
            have es : (sum + w g f).toInt = sum.toInt + (w g f).toInt := addI (by omega) (by omega)
            simp only [c2, if_true]
            have fx1 : FrX hc (up2 hc 140 g (nI f)) := ⟨fun a p q s => by rw [up2_a q], fun i _ => by rw [up2_a (by decide)]⟩
            refine ih (g := g + 1) (e := d) (by omega) (or_lt ht hfF) (by omega) (by omega) (by omega) (by rw [up2_a (by decide), fx.2 0 (by decide)]; exact hG) (by rw [up2_a (by decide)]; exact hF') ?_ ?_
            · intro a c ha hc'; rw [up2_a (by decide), fx.1 139 (by decide) (by decide) (by decide)]; exact hW a c ha hc'
            · intro h' fx2 h2 R
              simp only [k203_1, k203_2, k203_5, k203_8, k203_9, k203_10, k203_13, k203_16, k203_17, k203_18, k203_19, k203_22, k203_23, k203_27, k203_29, k203_32, k203_33, k203_36, k203_38, k203_39, k203_42, k203_44, k203_45, k203_46, k203_49, k203_52, k203_53, k203_54, k203_58, k203_59, k203_62, k203_65, k203_66, k203_68, k203_69, k203_70, k203_71, k203_72, k203_75, k203_76, k203_79, k203_81, k203_82, k203_83, k203_85, k203_86, k203_87, k203_90, k203_93, k203_94, k203_97, k203_98, k203_100, k203_101, k203_102, k203_103, k203_104, k203_105, k203_106, k203_107, k203_109, k203_110, k203_111, k203_112, k203_113, k203_116, k203_118, k203_119, k203_120, k203_122, k203_123, k203_124, k203_125, k203_128, k203_131, k203_134, k203_135, k203_138, k203_139, k203_141, k203_142, k203_143, k203_144, k203_145, k203_146, k203_147, k203_148, k203_151, mm_sI, mm_sJ, mm_sR, mm_cI, mm_cJ, mm_I, mm_J, mm_R, mm_K, mm_N, psh_s, psh_n, z_n, z_i, z_r, z_l, Nat.reduceAdd, Nat.reduceLeDiff, false_or, or_false, ne_eq, true_or, or_true, not_false_eq_true, Nat.reduceEqDiff, Nat.reduceLT, Nat.reduceLeDiff, Nat.reduceAdd, nS1]
              refine ihn (by omega) (fx.tr (fx1.tr fx2)) (fun i hi => ?_) (cur_go cu hv (by rw [es, dv.1]; omega) h140 R)
              rw [h2 i (by omega), up2_i (by omega)]; exact h140 i hi
          · simp only [c2, if_false]
            exact ihn (by omega) fx h140 (cur_skip cu (fun hv => by have := (vl_iff.1 hv).2; exact c2 ((iLt _ _).2 (by rw [i0]; exact this))))
    rw [k203_0]
    simp only [k203_1, k203_2, k203_5, k203_8, k203_9, k203_10, k203_13, k203_16, k203_17, k203_18, k203_19, k203_22, k203_23, k203_27, k203_29, k203_32, k203_33, k203_36, k203_38, k203_39, k203_42, k203_44, k203_45, k203_46, k203_49, k203_52, k203_53, k203_54, k203_58, k203_59, k203_62, k203_65, k203_66, k203_68, k203_69, k203_70, k203_71, k203_72, k203_75, k203_76, k203_79, k203_81, k203_82, k203_83, k203_85, k203_86, k203_87, k203_90, k203_93, k203_94, k203_97, k203_98, k203_100, k203_101, k203_102, k203_103, k203_104, k203_105, k203_106, k203_107, k203_109, k203_110, k203_111, k203_112, k203_113, k203_116, k203_118, k203_119, k203_120, k203_122, k203_123, k203_124, k203_125, k203_128, k203_131, k203_134, k203_135, k203_138, k203_139, k203_141, k203_142, k203_143, k203_144, k203_145, k203_146, k203_147, k203_148, k203_151, mm_sI, mm_sJ, mm_sR, mm_cI, mm_cJ, mm_I, mm_J, mm_R, mm_K, mm_N, psh_s, psh_n, z_n, z_i, z_r, z_l, Nat.reduceAdd, Nat.reduceLeDiff, K113 hS, R113_2 hS, R113_3 hS, R113_5 hS, R113_8 hS, R113_9 hS, R113_10 hS, R113_11 hS, R113_16 hS, R113_17 hS, R113_18 hS, R113_19 hS, R113_20 hS, R113_21 hS, R113_22 hS, R113_26 hS, R113_27 hS, R113_30 hS, R113_32 hS, R113_34 hS, R113_35 hS, R113_36 hS, R113_37 hS, R113_40 hS, R113_41 hS, R113_42 hS, R113_43 hS, R113_44 hS, R113_45 hS, R113_47 hS, K114 hS, K115 hS, K116 hS, K117 hS, K118 hS, K119 hS, K120 hS, K121 hS, K122 hS, K123 hS, K124 hS, K125 hS, K126 hS, K127 hS, K128 hS, K129 hS, K130 hS, K131 hS, K132 hS, K133 hS, K134 hS, K135 hS, K136 hS, K137 hS, K138 hS, K139 hS, K140 hS, K141 hS, K142 hS, N114 hS, N115 hS, N116 hS, N117 hS, N118 hS, N119 hS, N120 hS, N121 hS, N122 hS, N123 hS, N124 hS, N125 hS, N126 hS, N127 hS, N128 hS, N129 hS, N130 hS, N131 hS, N132 hS, N133 hS, N134 hS, N135 hS, N136 hS, N137 hS, N138 hS, N139 hS, N140 hS, N141 hS, N142 hS, false_or, or_false, ne_eq, true_or, or_true, not_false_eq_true, Nat.reduceEqDiff, Nat.reduceLT, Nat.reduceLeDiff, Nat.reduceAdd, hG, hgG, if_false]
    exact key (n := F) (f := 0) (by omega) FrX.rf (fun _ _ => rfl) (Or.inl ⟨rfl, fun _ => rfl, fun y hy => by omega⟩)
/-- what each loan brings, kept -/
theorem m_wo2 {x : Int32} {girl : Option PV} {g : Nat} {Q : Option PV → Mem → Prop} (hx : inb x 100) (hg : g < G) : ∀ {k f : Nat} {h : Hp}, f + k = F → DD G F W b h r E → ScrD h0 h → (∀ g' f', f' < F → (g' < g ∨ (g' = g ∧ f' < f)) → h 139 (8 * g' + f') = dealW G F W b x g' f') → (∀ h' e, DD G F W b h' r E → ScrD h0 h' → (∀ g' f', f' < F → g' < g + 1 → h' 139 (8 * g' + f') = dealW G F W b x g' f') → WP (d + 8) 204 79 [some (vr 113), some (vi x), girl, some (vi (nI g)), e] [] (mm h' j r E) Q) →
    WP (d + 8) 204 38 [some (vr 113), some (vi x), girl, some (vi (nI g)), some (vi (nI f))] [] (mm h j r E) Q := by
  intro k
  induction k with
  | zero =>
    intro f h hk D s hG hQ
    have hS := D.S
    have : f = F := by omega
    subst this
    rw [k204_38]
    simp only [k204_0, k204_1, k204_2, k204_4, k204_7, k204_10, k204_11, k204_12, k204_15, k204_16, k204_17, k204_20, k204_23, k204_24, k204_25, k204_26, k204_28, k204_29, k204_32, k204_35, k204_36, k204_40, k204_41, k204_44, k204_47, k204_48, k204_49, k204_51, k204_52, k204_55, k204_56, k204_59, k204_61, k204_62, k204_63, k204_65, k204_66, k204_67, k204_70, k204_71, k204_72, k204_73, k204_76, k204_82, k204_85, k204_86, k204_87, k204_90, k204_91, k204_92, k204_93, k204_94, k204_97, k204_98, k204_99, k204_102, k204_103, k204_106, k204_109, k204_110, k204_113, k204_114, k204_115, mm_sI, mm_sJ, mm_sR, mm_cI, mm_cJ, mm_I, mm_J, mm_R, mm_K, mm_N, psh_s, psh_n, z_n, z_i, z_r, z_l, Nat.reduceAdd, Nat.reduceLeDiff, K113 hS, R113_2 hS, R113_3 hS, R113_5 hS, R113_8 hS, R113_9 hS, R113_10 hS, R113_11 hS, R113_16 hS, R113_17 hS, R113_18 hS, R113_19 hS, R113_20 hS, R113_21 hS, R113_22 hS, R113_26 hS, R113_27 hS, R113_30 hS, R113_32 hS, R113_34 hS, R113_35 hS, R113_36 hS, R113_37 hS, R113_40 hS, R113_41 hS, R113_42 hS, R113_43 hS, R113_44 hS, R113_45 hS, R113_47 hS, K114 hS, K115 hS, K116 hS, K117 hS, K118 hS, K119 hS, K120 hS, K121 hS, K122 hS, K123 hS, K124 hS, K125 hS, K126 hS, K127 hS, K128 hS, K129 hS, K130 hS, K131 hS, K132 hS, K133 hS, K134 hS, K135 hS, K136 hS, K137 hS, K138 hS, K139 hS, K140 hS, K141 hS, K142 hS, N114 hS, N115 hS, N116 hS, N117 hS, N118 hS, N119 hS, N120 hS, N121 hS, N122 hS, N123 hS, N124 hS, N125 hS, N126 hS, N127 hS, N128 hS, N129 hS, N130 hS, N131 hS, N132 hS, N133 hS, N134 hS, N135 hS, N136 hS, N137 hS, N138 hS, N139 hS, N140 hS, N141 hS, N142 hS, false_or, or_false, ne_eq, true_or, or_true, not_false_eq_true, Nat.reduceEqDiff, Nat.reduceLT, Nat.reduceLeDiff, Nat.reduceAdd, D.eF, Int32.le_refl, if_true]
    exact hQ h _ D s (fun g' f' hf' hc => hG g' f' hf' (by omega))
  | succ k ih =>
    intro f h hk D s hG hQ
    have hS := D.S
    have hG8 := D.G8
    have hF8 := D.F8
    have hfF : f < F := by omega
    have ea : nI (8 * g) + nI f = nI (8 * g + f) := nI_add _ _
    have hb : inb (nI (8 * g + f)) 64 = True := eq_true (by rw [inb_n (by omega)]; omega)
    rw [k204_38]
    simp only [k204_0, k204_1, k204_2, k204_4, k204_7, k204_10, k204_11, k204_12, k204_15, k204_16, k204_17, k204_20, k204_23, k204_24, k204_25, k204_26, k204_28, k204_29, k204_32, k204_35, k204_36, k204_40, k204_41, k204_44, k204_47, k204_48, k204_49, k204_51, k204_52, k204_55, k204_56, k204_59, k204_61, k204_62, k204_63, k204_65, k204_66, k204_67, k204_70, k204_71, k204_72, k204_73, k204_76, k204_82, k204_85, k204_86, k204_87, k204_90, k204_91, k204_92, k204_93, k204_94, k204_97, k204_98, k204_99, k204_102, k204_103, k204_106, k204_109, k204_110, k204_113, k204_114, k204_115, mm_sI, mm_sJ, mm_sR, mm_cI, mm_cJ, mm_I, mm_J, mm_R, mm_K, mm_N, psh_s, psh_n, z_n, z_i, z_r, z_l, Nat.reduceAdd, Nat.reduceLeDiff, K113 hS, R113_2 hS, R113_3 hS, R113_5 hS, R113_8 hS, R113_9 hS, R113_10 hS, R113_11 hS, R113_16 hS, R113_17 hS, R113_18 hS, R113_19 hS, R113_20 hS, R113_21 hS, R113_22 hS, R113_26 hS, R113_27 hS, R113_30 hS, R113_32 hS, R113_34 hS, R113_35 hS, R113_36 hS, R113_37 hS, R113_40 hS, R113_41 hS, R113_42 hS, R113_43 hS, R113_44 hS, R113_45 hS, R113_47 hS, K114 hS, K115 hS, K116 hS, K117 hS, K118 hS, K119 hS, K120 hS, K121 hS, K122 hS, K123 hS, K124 hS, K125 hS, K126 hS, K127 hS, K128 hS, K129 hS, K130 hS, K131 hS, K132 hS, K133 hS, K134 hS, K135 hS, K136 hS, K137 hS, K138 hS, K139 hS, K140 hS, K141 hS, K142 hS, N114 hS, N115 hS, N116 hS, N117 hS, N118 hS, N119 hS, N120 hS, N121 hS, N122 hS, N123 hS, N124 hS, N125 hS, N126 hS, N127 hS, N128 hS, N129 hS, N130 hS, N131 hS, N132 hS, N133 hS, N134 hS, N135 hS, N136 hS, N137 hS, N138 hS, N139 hS, N140 hS, N141 hS, N142 hS, false_or, or_false, ne_eq, true_or, or_true, not_false_eq_true, Nat.reduceEqDiff, Nat.reduceLT, Nat.reduceLeDiff, Nat.reduceAdd, D.eF, nLe (show F < 2 ^ 31 by omega) (show f < 2 ^ 31 by omega), show ¬ F ≤ f by omega, if_false]
    refine WP.deep (d := d + 7) ?_ (by omega)
    refine m_lent D hfF (by rw [inb_n (by omega)]; exact hg) hx ?_
    intro h1 s1 e0 _
    have v : h1 138 0 = dealW G F W b x g f := by rw [e0, dealW_p hg hfF]
    simp only [k204_0, k204_1, k204_2, k204_4, k204_7, k204_10, k204_11, k204_12, k204_15, k204_16, k204_17, k204_20, k204_23, k204_24, k204_25, k204_26, k204_28, k204_29, k204_32, k204_35, k204_36, k204_40, k204_41, k204_44, k204_47, k204_48, k204_49, k204_51, k204_52, k204_55, k204_56, k204_59, k204_61, k204_62, k204_63, k204_65, k204_66, k204_67, k204_70, k204_71, k204_72, k204_73, k204_76, k204_82, k204_85, k204_86, k204_87, k204_90, k204_91, k204_92, k204_93, k204_94, k204_97, k204_98, k204_99, k204_102, k204_103, k204_106, k204_109, k204_110, k204_113, k204_114, k204_115, mm_sI, mm_sJ, mm_sR, mm_cI, mm_cJ, mm_I, mm_J, mm_R, mm_K, mm_N, psh_s, psh_n, z_n, z_i, z_r, z_l, Nat.reduceAdd, Nat.reduceLeDiff, K113 hS, R113_2 hS, R113_3 hS, R113_5 hS, R113_8 hS, R113_9 hS, R113_10 hS, R113_11 hS, R113_16 hS, R113_17 hS, R113_18 hS, R113_19 hS, R113_20 hS, R113_21 hS, R113_22 hS, R113_26 hS, R113_27 hS, R113_30 hS, R113_32 hS, R113_34 hS, R113_35 hS, R113_36 hS, R113_37 hS, R113_40 hS, R113_41 hS, R113_42 hS, R113_43 hS, R113_44 hS, R113_45 hS, R113_47 hS, K114 hS, K115 hS, K116 hS, K117 hS, K118 hS, K119 hS, K120 hS, K121 hS, K122 hS, K123 hS, K124 hS, K125 hS, K126 hS, K127 hS, K128 hS, K129 hS, K130 hS, K131 hS, K132 hS, K133 hS, K134 hS, K135 hS, K136 hS, K137 hS, K138 hS, K139 hS, K140 hS, K141 hS, K142 hS, N114 hS, N115 hS, N116 hS, N117 hS, N118 hS, N119 hS, N120 hS, N121 hS, N122 hS, N123 hS, N124 hS, N125 hS, N126 hS, N127 hS, N128 hS, N129 hS, N130 hS, N131 hS, N132 hS, N133 hS, N134 hS, N135 hS, N136 hS, N137 hS, N138 hS, N139 hS, N140 hS, N141 hS, N142 hS, inb_c0, ix_c0, inb_c1, ix_c1, inb_c2, ix_c2, inb_c3, ix_c3, inb_c4, ix_c4, inb_c5, ix_c5, inb_c6, ix_c6, inb_c7, ix_c7, inb_c8, ix_c8, inb_c32, ix_c32, false_or, or_false, ne_eq, true_or, or_true, not_false_eq_true, Nat.reduceEqDiff, Nat.reduceLT, Nat.reduceLeDiff, Nat.reduceAdd, a8m, ea, hb, ix_n (show 8 * g + f < 2 ^ 31 by omega), v, nS1]
    have sd : ScrD h (up2 h1 139 (8 * g + f) (dealW G F W b x g f)) := s1.D.up (by omega)
    refine ih (by omega) (D.frD sd) (s.tr sd) ?_ hQ
    intro g' f' hf' hc
    by_cases e : g' = g ∧ f' = f
    · rw [e.1, e.2, up2_s]
    · rw [up2_i (by omega), s1.1 139 (by unfold scrA; omega)]; exact hG g' f' hf' (by omega)
theorem m_wo1 {x : Int32} {girl : Option PV} {Q : Option PV → Mem → Prop} (hx : inb x 100) : ∀ {k g : Nat} {h : Hp} {e : Option PV}, g + k = G → DD G F W b h r E → ScrD h0 h → (∀ g' f', f' < F → g' < g → h 139 (8 * g' + f') = dealW G F W b x g' f') → (∀ h' e3 e4, DD G F W b h' r E → ScrD h0 h' → Wh (dealW G F W b x) G F h' → WP (d + 8) 204 85 [some (vr 113), some (vi x), girl, e3, e4] [] (mm h' j r E) Q) →
    WP (d + 8) 204 27 [some (vr 113), some (vi x), girl, some (vi (nI g)), e] [] (mm h j r E) Q := by
  intro k
  induction k with
  | zero =>
    intro g h e hk D s hG hQ
    have hS := D.S
    have : g = G := by omega
    subst this
    rw [k204_27]
    simp only [k204_0, k204_1, k204_2, k204_4, k204_7, k204_10, k204_11, k204_12, k204_15, k204_16, k204_17, k204_20, k204_23, k204_24, k204_25, k204_26, k204_28, k204_29, k204_32, k204_35, k204_36, k204_40, k204_41, k204_44, k204_47, k204_48, k204_49, k204_51, k204_52, k204_55, k204_56, k204_59, k204_61, k204_62, k204_63, k204_65, k204_66, k204_67, k204_70, k204_71, k204_72, k204_73, k204_76, k204_79, k204_82, k204_86, k204_87, k204_90, k204_91, k204_92, k204_93, k204_94, k204_97, k204_98, k204_99, k204_102, k204_103, k204_106, k204_109, k204_110, k204_113, k204_114, k204_115, mm_sI, mm_sJ, mm_sR, mm_cI, mm_cJ, mm_I, mm_J, mm_R, mm_K, mm_N, psh_s, psh_n, z_n, z_i, z_r, z_l, Nat.reduceAdd, Nat.reduceLeDiff, K113 hS, R113_2 hS, R113_3 hS, R113_5 hS, R113_8 hS, R113_9 hS, R113_10 hS, R113_11 hS, R113_16 hS, R113_17 hS, R113_18 hS, R113_19 hS, R113_20 hS, R113_21 hS, R113_22 hS, R113_26 hS, R113_27 hS, R113_30 hS, R113_32 hS, R113_34 hS, R113_35 hS, R113_36 hS, R113_37 hS, R113_40 hS, R113_41 hS, R113_42 hS, R113_43 hS, R113_44 hS, R113_45 hS, R113_47 hS, K114 hS, K115 hS, K116 hS, K117 hS, K118 hS, K119 hS, K120 hS, K121 hS, K122 hS, K123 hS, K124 hS, K125 hS, K126 hS, K127 hS, K128 hS, K129 hS, K130 hS, K131 hS, K132 hS, K133 hS, K134 hS, K135 hS, K136 hS, K137 hS, K138 hS, K139 hS, K140 hS, K141 hS, K142 hS, N114 hS, N115 hS, N116 hS, N117 hS, N118 hS, N119 hS, N120 hS, N121 hS, N122 hS, N123 hS, N124 hS, N125 hS, N126 hS, N127 hS, N128 hS, N129 hS, N130 hS, N131 hS, N132 hS, N133 hS, N134 hS, N135 hS, N136 hS, N137 hS, N138 hS, N139 hS, N140 hS, N141 hS, N142 hS, false_or, or_false, ne_eq, true_or, or_true, not_false_eq_true, Nat.reduceEqDiff, Nat.reduceLT, Nat.reduceLeDiff, Nat.reduceAdd, D.eG, Int32.le_refl, if_true]
    exact hQ h _ _ D s (fun a c ha hc => hG a c hc ha)
  | succ k ih =>
    intro g h e hk D s hG hQ
    have hS := D.S
    have hG8 := D.G8
    rw [k204_27]
    simp only [k204_0, k204_1, k204_2, k204_4, k204_7, k204_10, k204_11, k204_12, k204_15, k204_16, k204_17, k204_20, k204_23, k204_24, k204_25, k204_26, k204_28, k204_29, k204_32, k204_35, k204_36, k204_40, k204_41, k204_44, k204_47, k204_48, k204_49, k204_51, k204_52, k204_55, k204_56, k204_59, k204_61, k204_62, k204_63, k204_65, k204_66, k204_67, k204_70, k204_71, k204_72, k204_73, k204_76, k204_79, k204_82, k204_86, k204_87, k204_90, k204_91, k204_92, k204_93, k204_94, k204_97, k204_98, k204_99, k204_102, k204_103, k204_106, k204_109, k204_110, k204_113, k204_114, k204_115, mm_sI, mm_sJ, mm_sR, mm_cI, mm_cJ, mm_I, mm_J, mm_R, mm_K, mm_N, psh_s, psh_n, z_n, z_i, z_r, z_l, Nat.reduceAdd, Nat.reduceLeDiff, K113 hS, R113_2 hS, R113_3 hS, R113_5 hS, R113_8 hS, R113_9 hS, R113_10 hS, R113_11 hS, R113_16 hS, R113_17 hS, R113_18 hS, R113_19 hS, R113_20 hS, R113_21 hS, R113_22 hS, R113_26 hS, R113_27 hS, R113_30 hS, R113_32 hS, R113_34 hS, R113_35 hS, R113_36 hS, R113_37 hS, R113_40 hS, R113_41 hS, R113_42 hS, R113_43 hS, R113_44 hS, R113_45 hS, R113_47 hS, K114 hS, K115 hS, K116 hS, K117 hS, K118 hS, K119 hS, K120 hS, K121 hS, K122 hS, K123 hS, K124 hS, K125 hS, K126 hS, K127 hS, K128 hS, K129 hS, K130 hS, K131 hS, K132 hS, K133 hS, K134 hS, K135 hS, K136 hS, K137 hS, K138 hS, K139 hS, K140 hS, K141 hS, K142 hS, N114 hS, N115 hS, N116 hS, N117 hS, N118 hS, N119 hS, N120 hS, N121 hS, N122 hS, N123 hS, N124 hS, N125 hS, N126 hS, N127 hS, N128 hS, N129 hS, N130 hS, N131 hS, N132 hS, N133 hS, N134 hS, N135 hS, N136 hS, N137 hS, N138 hS, N139 hS, N140 hS, N141 hS, N142 hS, false_or, or_false, ne_eq, true_or, or_true, not_false_eq_true, Nat.reduceEqDiff, Nat.reduceLT, Nat.reduceLeDiff, Nat.reduceAdd, D.eG, nLe (show G < 2 ^ 31 by omega) (show g < 2 ^ 31 by omega), show ¬ G ≤ g by omega, if_false]
    refine m_wo2 hx (show g < G by omega) (k := F) (f := 0) (by omega) D s (fun g' f' hf' hc => hG g' f' hf' (by omega)) ?_
    intro h' e' D' s' hG'
    simp only [k204_0, k204_1, k204_2, k204_4, k204_7, k204_10, k204_11, k204_12, k204_15, k204_16, k204_17, k204_20, k204_23, k204_24, k204_25, k204_26, k204_28, k204_29, k204_32, k204_35, k204_36, k204_40, k204_41, k204_44, k204_47, k204_48, k204_49, k204_51, k204_52, k204_55, k204_56, k204_59, k204_61, k204_62, k204_63, k204_65, k204_66, k204_67, k204_70, k204_71, k204_72, k204_73, k204_76, k204_79, k204_82, k204_86, k204_87, k204_90, k204_91, k204_92, k204_93, k204_94, k204_97, k204_98, k204_99, k204_102, k204_103, k204_106, k204_109, k204_110, k204_113, k204_114, k204_115, mm_sI, mm_sJ, mm_sR, mm_cI, mm_cJ, mm_I, mm_J, mm_R, mm_K, mm_N, psh_s, psh_n, z_n, z_i, z_r, z_l, Nat.reduceAdd, Nat.reduceLeDiff, false_or, or_false, ne_eq, true_or, or_true, not_false_eq_true, Nat.reduceEqDiff, Nat.reduceLT, Nat.reduceLeDiff, Nat.reduceAdd, nS1]
    exact ih (by omega) D' s' hG' hQ
theorem m_dealt {x girl : Int32} {Q : Option PV → Mem → Prop} (D : DD G F W b h r E) (hQ : ∀ h', ScrD h h' → Q (some (vi (dealtA G F W b x girl))) (mm h' j r E)) : WP (d + 20) 204 0 [some (vr 113), some (vi x), some (vi girl), none, none] [] (mm h j r E) Q := by
  have hS := D.S
  have hG8 := D.G8
  have hF8 := D.F8
  have hr := hQ h ScrD.rf
  unfold dealtA at hQ hr
  have main : (1 ≤ x ∧ x ≤ 99) → (girl = -1 ∨ inb girl G) → (∀ h', ScrD h h' → Q (some (vi (if girl = -1 then bD (dealW G F W b x) F G 0 0 else nI (grF (dealW G F W b x) F G 0 0 (ix girl))))) (mm h' j r E)) → WP (d + 20) 204 25 [some (vr 113), some (vi x), some (vi girl), none, none] [] (mm h j r E) Q := by
    intro c1 c2 hQ
    have hw := dealW_i (W := W) (F := F) D.w (in_1_99 c1) hG8
    have tw := two_le hF8
    have b0 := @bD_i _ F hw G hG8 0 0
    simp only [k204_0, k204_1, k204_2, k204_4, k204_7, k204_10, k204_11, k204_12, k204_15, k204_16, k204_17, k204_20, k204_23, k204_24, k204_25, k204_26, k204_28, k204_29, k204_32, k204_35, k204_36, k204_40, k204_41, k204_44, k204_47, k204_48, k204_49, k204_51, k204_52, k204_55, k204_56, k204_59, k204_61, k204_62, k204_63, k204_65, k204_66, k204_67, k204_70, k204_71, k204_72, k204_73, k204_76, k204_79, k204_82, k204_85, k204_86, k204_87, k204_90, k204_91, k204_92, k204_93, k204_94, k204_97, k204_98, k204_99, k204_102, k204_103, k204_106, k204_109, k204_110, k204_113, k204_114, k204_115, mm_sI, mm_sJ, mm_sR, mm_cI, mm_cJ, mm_I, mm_J, mm_R, mm_K, mm_N, psh_s, psh_n, z_n, z_i, z_r, z_l, Nat.reduceAdd, Nat.reduceLeDiff, K113 hS, R113_2 hS, R113_3 hS, R113_5 hS, R113_8 hS, R113_9 hS, R113_10 hS, R113_11 hS, R113_16 hS, R113_17 hS, R113_18 hS, R113_19 hS, R113_20 hS, R113_21 hS, R113_22 hS, R113_26 hS, R113_27 hS, R113_30 hS, R113_32 hS, R113_34 hS, R113_35 hS, R113_36 hS, R113_37 hS, R113_40 hS, R113_41 hS, R113_42 hS, R113_43 hS, R113_44 hS, R113_45 hS, R113_47 hS, K114 hS, K115 hS, K116 hS, K117 hS, K118 hS, K119 hS, K120 hS, K121 hS, K122 hS, K123 hS, K124 hS, K125 hS, K126 hS, K127 hS, K128 hS, K129 hS, K130 hS, K131 hS, K132 hS, K133 hS, K134 hS, K135 hS, K136 hS, K137 hS, K138 hS, K139 hS, K140 hS, K141 hS, K142 hS, N114 hS, N115 hS, N116 hS, N117 hS, N118 hS, N119 hS, N120 hS, N121 hS, N122 hS, N123 hS, N124 hS, N125 hS, N126 hS, N127 hS, N128 hS, N129 hS, N130 hS, N131 hS, N132 hS, N133 hS, N134 hS, N135 hS, N136 hS, N137 hS, N138 hS, N139 hS, N140 hS, N141 hS, N142 hS, false_or, or_false, ne_eq, true_or, or_true, not_false_eq_true, Nat.reduceEqDiff, Nat.reduceLT, Nat.reduceLeDiff, Nat.reduceAdd]
    refine WP.deep (d := d + 12 + 8) ?_ (by omega)
    refine m_wo1 (in_1_99 c1) (k := G) (g := 0) (by omega) D ScrD.rf (fun g' f' _ hc => by omega) ?_
    intro h1 e3 e4 D1 s1 hW
    simp only [k204_0, k204_1, k204_2, k204_4, k204_7, k204_10, k204_11, k204_12, k204_15, k204_16, k204_17, k204_20, k204_23, k204_24, k204_25, k204_26, k204_28, k204_29, k204_32, k204_35, k204_36, k204_40, k204_41, k204_44, k204_47, k204_48, k204_49, k204_51, k204_52, k204_55, k204_56, k204_59, k204_61, k204_62, k204_63, k204_65, k204_66, k204_67, k204_70, k204_71, k204_72, k204_73, k204_76, k204_79, k204_82, k204_85, k204_86, k204_87, k204_90, k204_91, k204_92, k204_93, k204_94, k204_97, k204_98, k204_99, k204_102, k204_103, k204_106, k204_109, k204_110, k204_113, k204_114, k204_115, mm_sI, mm_sJ, mm_sR, mm_cI, mm_cJ, mm_I, mm_J, mm_R, mm_K, mm_N, psh_s, psh_n, z_n, z_i, z_r, z_l, Nat.reduceAdd, Nat.reduceLeDiff, K113 hS, R113_2 hS, R113_3 hS, R113_5 hS, R113_8 hS, R113_9 hS, R113_10 hS, R113_11 hS, R113_16 hS, R113_17 hS, R113_18 hS, R113_19 hS, R113_20 hS, R113_21 hS, R113_22 hS, R113_26 hS, R113_27 hS, R113_30 hS, R113_32 hS, R113_34 hS, R113_35 hS, R113_36 hS, R113_37 hS, R113_40 hS, R113_41 hS, R113_42 hS, R113_43 hS, R113_44 hS, R113_45 hS, R113_47 hS, K114 hS, K115 hS, K116 hS, K117 hS, K118 hS, K119 hS, K120 hS, K121 hS, K122 hS, K123 hS, K124 hS, K125 hS, K126 hS, K127 hS, K128 hS, K129 hS, K130 hS, K131 hS, K132 hS, K133 hS, K134 hS, K135 hS, K136 hS, K137 hS, K138 hS, K139 hS, K140 hS, K141 hS, K142 hS, N114 hS, N115 hS, N116 hS, N117 hS, N118 hS, N119 hS, N120 hS, N121 hS, N122 hS, N123 hS, N124 hS, N125 hS, N126 hS, N127 hS, N128 hS, N129 hS, N130 hS, N131 hS, N132 hS, N133 hS, N134 hS, N135 hS, N136 hS, N137 hS, N138 hS, N139 hS, N140 hS, N141 hS, N142 hS, false_or, or_false, ne_eq, true_or, or_true, not_false_eq_true, Nat.reduceEqDiff, Nat.reduceLT, Nat.reduceLeDiff, Nat.reduceAdd]
    refine m_deals (w := dealW G F W b x) (G := G) (F := F) hS hG8 hF8 hw (k := G) (g := 0) (t := 0) (by omega) (by omega) (by decide) (by decide) (by omega) (by rw [up2_i (by decide)]; exact D1.eG) (by rw [up2_i (by decide)]; exact D1.eF) (fun a c ha hc => by rw [up2_a (by decide)]; exact hW a c ha hc) ?_
    intro h2 fx _ R
    have sd : ScrD h1 h2 := by
      refine ⟨fun a p q t => ?_, fun i _ => ⟨?_, ?_⟩, fun i p q t => ?_⟩
      · rw [fx.1 a (by unfold scrA at p; omega) (by omega) (by omega), up2_a (by unfold scrA at p; omega)]
      · rw [fx.1 27 (by decide) (by decide) (by decide), up2_a (by decide)]
      · rw [fx.1 32 (by decide) (by decide) (by decide), up2_a (by decide)]
      · rw [fx.2 i t, up2_i t]
    have hQ := hQ h2 (s1.tr sd)
    rw [ResD, up2_s, im1, i0] at R
    obtain ⟨r1, _, r3⟩ := R.1 (by omega)
    rw [Int.zero_add] at r1
    by_cases c : girl = -1
    · rw [if_pos c] at hQ
      have e : h2 113 46 = bD (dealW G F W b x) F G 0 0 := (iEq _ _).2 r1
      simp only [k204_0, k204_1, k204_2, k204_4, k204_7, k204_10, k204_11, k204_12, k204_15, k204_16, k204_17, k204_20, k204_23, k204_24, k204_25, k204_26, k204_28, k204_29, k204_32, k204_35, k204_36, k204_40, k204_41, k204_44, k204_47, k204_48, k204_49, k204_51, k204_52, k204_55, k204_56, k204_59, k204_61, k204_62, k204_63, k204_65, k204_66, k204_67, k204_70, k204_71, k204_72, k204_73, k204_76, k204_79, k204_82, k204_85, k204_86, k204_87, k204_90, k204_91, k204_92, k204_93, k204_94, k204_97, k204_98, k204_99, k204_102, k204_103, k204_106, k204_109, k204_110, k204_113, k204_114, k204_115, mm_sI, mm_sJ, mm_sR, mm_cI, mm_cJ, mm_I, mm_J, mm_R, mm_K, mm_N, psh_s, psh_n, z_n, z_i, z_r, z_l, Nat.reduceAdd, Nat.reduceLeDiff, K113 hS, R113_2 hS, R113_3 hS, R113_5 hS, R113_8 hS, R113_9 hS, R113_10 hS, R113_11 hS, R113_16 hS, R113_17 hS, R113_18 hS, R113_19 hS, R113_20 hS, R113_21 hS, R113_22 hS, R113_26 hS, R113_27 hS, R113_30 hS, R113_32 hS, R113_34 hS, R113_35 hS, R113_36 hS, R113_37 hS, R113_40 hS, R113_41 hS, R113_42 hS, R113_43 hS, R113_44 hS, R113_45 hS, R113_47 hS, K114 hS, K115 hS, K116 hS, K117 hS, K118 hS, K119 hS, K120 hS, K121 hS, K122 hS, K123 hS, K124 hS, K125 hS, K126 hS, K127 hS, K128 hS, K129 hS, K130 hS, K131 hS, K132 hS, K133 hS, K134 hS, K135 hS, K136 hS, K137 hS, K138 hS, K139 hS, K140 hS, K141 hS, K142 hS, N114 hS, N115 hS, N116 hS, N117 hS, N118 hS, N119 hS, N120 hS, N121 hS, N122 hS, N123 hS, N124 hS, N125 hS, N126 hS, N127 hS, N128 hS, N129 hS, N130 hS, N131 hS, N132 hS, N133 hS, N134 hS, N135 hS, N136 hS, N137 hS, N138 hS, N139 hS, N140 hS, N141 hS, N142 hS, false_or, or_false, ne_eq, true_or, or_true, not_false_eq_true, Nat.reduceEqDiff, Nat.reduceLT, Nat.reduceLeDiff, Nat.reduceAdd, c, if_true, e]
      exact hQ
    · rw [if_neg c] at hQ
      obtain ⟨g, hg, rfl, hg2⟩ := inb_of (c2.resolve_left c)
      rw [ix_n hg2] at hQ
      have e := r3 g hg
      rw [Nat.zero_add] at e
      have hb : inb (nI g) 8 = True := eq_true (by rw [inb_n (by omega)]; omega)
      simp only [k204_0, k204_1, k204_2, k204_4, k204_7, k204_10, k204_11, k204_12, k204_15, k204_16, k204_17, k204_20, k204_23, k204_24, k204_25, k204_26, k204_28, k204_29, k204_32, k204_35, k204_36, k204_40, k204_41, k204_44, k204_47, k204_48, k204_49, k204_51, k204_52, k204_55, k204_56, k204_59, k204_61, k204_62, k204_63, k204_65, k204_66, k204_67, k204_70, k204_71, k204_72, k204_73, k204_76, k204_79, k204_82, k204_85, k204_86, k204_87, k204_90, k204_91, k204_92, k204_93, k204_94, k204_97, k204_98, k204_99, k204_102, k204_103, k204_106, k204_109, k204_110, k204_113, k204_114, k204_115, mm_sI, mm_sJ, mm_sR, mm_cI, mm_cJ, mm_I, mm_J, mm_R, mm_K, mm_N, psh_s, psh_n, z_n, z_i, z_r, z_l, Nat.reduceAdd, Nat.reduceLeDiff, K113 hS, R113_2 hS, R113_3 hS, R113_5 hS, R113_8 hS, R113_9 hS, R113_10 hS, R113_11 hS, R113_16 hS, R113_17 hS, R113_18 hS, R113_19 hS, R113_20 hS, R113_21 hS, R113_22 hS, R113_26 hS, R113_27 hS, R113_30 hS, R113_32 hS, R113_34 hS, R113_35 hS, R113_36 hS, R113_37 hS, R113_40 hS, R113_41 hS, R113_42 hS, R113_43 hS, R113_44 hS, R113_45 hS, R113_47 hS, K114 hS, K115 hS, K116 hS, K117 hS, K118 hS, K119 hS, K120 hS, K121 hS, K122 hS, K123 hS, K124 hS, K125 hS, K126 hS, K127 hS, K128 hS, K129 hS, K130 hS, K131 hS, K132 hS, K133 hS, K134 hS, K135 hS, K136 hS, K137 hS, K138 hS, K139 hS, K140 hS, K141 hS, K142 hS, N114 hS, N115 hS, N116 hS, N117 hS, N118 hS, N119 hS, N120 hS, N121 hS, N122 hS, N123 hS, N124 hS, N125 hS, N126 hS, N127 hS, N128 hS, N129 hS, N130 hS, N131 hS, N132 hS, N133 hS, N134 hS, N135 hS, N136 hS, N137 hS, N138 hS, N139 hS, N140 hS, N141 hS, N142 hS, false_or, or_false, ne_eq, true_or, or_true, not_false_eq_true, Nat.reduceEqDiff, Nat.reduceLT, Nat.reduceLeDiff, Nat.reduceAdd, c, if_false, hb, ix_n hg2, e]
      exact hQ
  simp only [k204_0, k204_1, k204_2, k204_4, k204_7, k204_10, k204_11, k204_12, k204_15, k204_16, k204_17, k204_20, k204_23, k204_24, k204_26, k204_28, k204_29, k204_32, k204_35, k204_36, k204_40, k204_41, k204_44, k204_47, k204_48, k204_49, k204_51, k204_52, k204_55, k204_56, k204_59, k204_61, k204_62, k204_63, k204_65, k204_66, k204_67, k204_70, k204_71, k204_72, k204_73, k204_76, k204_79, k204_82, k204_85, k204_86, k204_87, k204_90, k204_91, k204_92, k204_93, k204_94, k204_97, k204_98, k204_99, k204_102, k204_103, k204_106, k204_109, k204_110, k204_113, k204_114, k204_115, mm_sI, mm_sJ, mm_sR, mm_cI, mm_cJ, mm_I, mm_J, mm_R, mm_K, mm_N, psh_s, psh_n, z_n, z_i, z_r, z_l, Nat.reduceAdd, Nat.reduceLeDiff, K113 hS, R113_2 hS, R113_3 hS, R113_5 hS, R113_8 hS, R113_9 hS, R113_10 hS, R113_11 hS, R113_16 hS, R113_17 hS, R113_18 hS, R113_19 hS, R113_20 hS, R113_21 hS, R113_22 hS, R113_26 hS, R113_27 hS, R113_30 hS, R113_32 hS, R113_34 hS, R113_35 hS, R113_36 hS, R113_37 hS, R113_40 hS, R113_41 hS, R113_42 hS, R113_43 hS, R113_44 hS, R113_45 hS, R113_47 hS, K114 hS, K115 hS, K116 hS, K117 hS, K118 hS, K119 hS, K120 hS, K121 hS, K122 hS, K123 hS, K124 hS, K125 hS, K126 hS, K127 hS, K128 hS, K129 hS, K130 hS, K131 hS, K132 hS, K133 hS, K134 hS, K135 hS, K136 hS, K137 hS, K138 hS, K139 hS, K140 hS, K141 hS, K142 hS, N114 hS, N115 hS, N116 hS, N117 hS, N118 hS, N119 hS, N120 hS, N121 hS, N122 hS, N123 hS, N124 hS, N125 hS, N126 hS, N127 hS, N128 hS, N129 hS, N130 hS, N131 hS, N132 hS, N133 hS, N134 hS, N135 hS, N136 hS, N137 hS, N138 hS, N139 hS, N140 hS, N141 hS, N142 hS, false_or, or_false, ne_eq, true_or, or_true, not_false_eq_true, Nat.reduceEqDiff, Nat.reduceLT, Nat.reduceLeDiff, Nat.reduceAdd, s_within', b2i_0]
  by_cases c1 : 1 ≤ x ∧ x ≤ 99
  case neg => simp only [eq_false c1, not_false_eq_true, if_true, false_and, if_false] at hr ⊢; exact hr
  simp only [eq_true c1, not_true_eq_false, if_false, true_and] at hQ hr ⊢
  by_cases c : girl = -1
  · simp only [c, true_or, if_true] at hQ ⊢
    have := main c1 (Or.inl c)
    simp only [c, if_true] at this
    exact this hQ
  · simp only [c, false_or, if_false] at hQ hr
    simp only [k204_0, k204_1, k204_2, k204_4, k204_7, k204_10, k204_11, k204_12, k204_15, k204_16, k204_17, k204_20, k204_23, k204_24, k204_26, k204_28, k204_29, k204_32, k204_35, k204_36, k204_40, k204_41, k204_44, k204_47, k204_48, k204_49, k204_51, k204_52, k204_55, k204_56, k204_59, k204_61, k204_62, k204_63, k204_65, k204_66, k204_67, k204_70, k204_71, k204_72, k204_73, k204_76, k204_79, k204_82, k204_85, k204_86, k204_87, k204_90, k204_91, k204_92, k204_93, k204_94, k204_97, k204_98, k204_99, k204_102, k204_103, k204_106, k204_109, k204_110, k204_113, k204_114, k204_115, mm_sI, mm_sJ, mm_sR, mm_cI, mm_cJ, mm_I, mm_J, mm_R, mm_K, mm_N, psh_s, psh_n, z_n, z_i, z_r, z_l, Nat.reduceAdd, Nat.reduceLeDiff, K113 hS, R113_2 hS, R113_3 hS, R113_5 hS, R113_8 hS, R113_9 hS, R113_10 hS, R113_11 hS, R113_16 hS, R113_17 hS, R113_18 hS, R113_19 hS, R113_20 hS, R113_21 hS, R113_22 hS, R113_26 hS, R113_27 hS, R113_30 hS, R113_32 hS, R113_34 hS, R113_35 hS, R113_36 hS, R113_37 hS, R113_40 hS, R113_41 hS, R113_42 hS, R113_43 hS, R113_44 hS, R113_45 hS, R113_47 hS, K114 hS, K115 hS, K116 hS, K117 hS, K118 hS, K119 hS, K120 hS, K121 hS, K122 hS, K123 hS, K124 hS, K125 hS, K126 hS, K127 hS, K128 hS, K129 hS, K130 hS, K131 hS, K132 hS, K133 hS, K134 hS, K135 hS, K136 hS, K137 hS, K138 hS, K139 hS, K140 hS, K141 hS, K142 hS, N114 hS, N115 hS, N116 hS, N117 hS, N118 hS, N119 hS, N120 hS, N121 hS, N122 hS, N123 hS, N124 hS, N125 hS, N126 hS, N127 hS, N128 hS, N129 hS, N130 hS, N131 hS, N132 hS, N133 hS, N134 hS, N135 hS, N136 hS, N137 hS, N138 hS, N139 hS, N140 hS, N141 hS, N142 hS, false_or, or_false, ne_eq, true_or, or_true, not_false_eq_true, Nat.reduceEqDiff, Nat.reduceLT, Nat.reduceLeDiff, Nat.reduceAdd, c, if_false, m_isGirl D.eG hS hG8, b2i_0]
    by_cases c3 : inb girl G
    case neg => simp only [eq_false c3, not_false_eq_true, if_true, if_false] at hr ⊢; exact hr
    simp only [eq_true c3, not_true_eq_false, if_true, if_false] at hQ ⊢
    have := main c1 (Or.inr c3)
    simp only [c, if_false] at this
    exact this hQ
end DM
