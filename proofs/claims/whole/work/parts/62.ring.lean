/-! ===== rings ===== -/
/-- of more than n numbers below n, two are the same -/
theorem pigeon : ∀ (n : Nat) (g : Nat → Nat), (∀ i, i ≤ n → g i < n) → ∃ i k, i < k ∧ k ≤ n ∧ g i = g k := by
  intro n
  induction n with
  | zero => intro g h; exact absurd (h 0 (by omega)) (by omega)
  | succ n ih =>
    intro g h
    by_cases hx : ∃ i, i ≤ n ∧ g i = g (n + 1)
    · obtain ⟨i, hi, e⟩ := hx
      exact ⟨i, n + 1, by omega, by omega, e⟩
    · have hne : ∀ i, i ≤ n → g i ≠ g (n + 1) := fun i hi e => hx ⟨i, hi, e⟩
      -- the last value is moved to where n was
      obtain ⟨i, k, h1, h2, h3⟩ := ih (fun i => if g i = n then g (n + 1) else g i) (by
        intro i hi
        have a := h i (by omega)
        have c := h (n + 1) (by omega)
        have e := hne i hi
        show (if g i = n then g (n + 1) else g i) < n
        split
        · omega
        · omega)
      refine ⟨i, k, h1, by omega, ?_⟩
      have e1 := hne i (by omega)
      have e2 := hne k (by omega)
      have h3 : (if g i = n then g (n + 1) else g i) = (if g k = n then g (n + 1) else g k) := h3
      split at h3
      · split at h3
        · omega
        · exact absurd h3.symm e2
      · split at h3
        · exact absurd h3 e1
        · exact h3
def itf (f : Nat → Nat) : Nat → Nat → Nat
  | 0, x => x
  | n + 1, x => itf f n (f x)
theorem itf_add (f : Nat → Nat) : ∀ (a c x : Nat), itf f (a + c) x = itf f c (itf f a x) := by
  intro a
  induction a with
  | zero => intro c x; rw [Nat.zero_add]; rfl
  | succ a ih => intro c x; rw [show a + 1 + c = (a + c) + 1 by omega]; exact ih c (f x)
theorem itf_lt {f : Nat → Nat} {G : Nat} (hf : ∀ x, x < G → f x < G) : ∀ (n x : Nat), x < G → itf f n x < G := by
  intro n
  induction n with
  | zero => intro x h; exact h
  | succ n ih => intro x h; exact ih _ (hf x h)
/-- after as many steps as there are girls one is in a ring -/
theorem in_ring {f : Nat → Nat} {G x : Nat} (hf : ∀ x, x < G → f x < G) (hx : x < G) : ∃ p, 1 ≤ p ∧ p ≤ G ∧ itf f p (itf f G x) = itf f G x := by
  obtain ⟨i, k, h1, h2, h3⟩ := pigeon G (fun n => itf f n x) (fun n _ => itf_lt hf n x hx)
  refine ⟨k - i, by omega, by omega, ?_⟩
  have e1 : itf f G x = itf f (G - i) (itf f i x) := by rw [← itf_add]; congr 1; omega
  have e2 : itf f (G - i) (itf f k x) = itf f (k - i) (itf f (G - i) (itf f i x)) := by rw [← itf_add, ← itf_add, ← itf_add]; congr 1; omega
  have h3 : itf f i x = itf f k x := h3
  rw [e1, ← e2, h3]
/-- counted on until one is there again -/
def rgC (f : Nat → Nat) (g : Nat) : Nat → Nat → Nat → Nat
  | 0, _, c => c
  | k + 1, a, c => if a = g then c else rgC f g k (f a) (c + 1)
theorem rgC_end {f : Nat → Nat} {g : Nat} : ∀ {p k a c : Nat}, itf f p a = g → p ≤ k → p < k ∨ True → rgC f g k a c = rgC f g p a c := by
  intro p
  induction p with
  | zero =>
    intro k a c h _ _
    have h : a = g := h
    cases k with
    | zero => rfl
    | succ k => show (if a = g then c else _) = c; rw [if_pos h]
  | succ p ih =>
    intro k a c h hk _
    obtain ⟨k, rfl⟩ : ∃ k', k = k' + 1 := ⟨k - 1, by omega⟩
    rw [rgC, rgC]
    split
    · rfl
    · exact ih h (by omega) (Or.inr trivial)
def ringA (G : Nat) (b : BB) (girl : Int32) : Int32 :=
  if inb girl G then (if G < 2 then -2 else nI (rgC (nrB G b) (itf (nrB G b) G (ix girl)) G (nrB G b (itf (nrB G b) G (ix girl))) 1)) else -1
theorem nrL_lt {b : BB} {g G : Nat} : ∀ {k i c : Nat}, i + k = G → c < G → nrL b g i k c < G := by
  intro k
  induction k with
  | zero => intro i c _ h; exact h
  | succ k ih =>
    intro i c hk h
    rw [nrL]
    split
    · exact ih (by omega) (by omega)
    · exact ih (by omega) h
theorem nrB_lt {b : BB} {G : Nat} : ∀ x, x < G → nrB G b x < G := fun x hx => nrL_lt (by omega) hx
theorem rgC_le {f : Nat → Nat} {g : Nat} : ∀ {k a c : Nat}, rgC f g k a c ≤ c + k := by
  intro k
  induction k with
  | zero => intro a c; exact Nat.le_refl _
  | succ k ih => intro a c; rw [rgC]; split; omega; have := @ih (f a) (c + 1); omega
section RG
variable {d : Nat} {M : Mem} {h h0 h1 h2 : Hp} {j : Jp} {r : Rp} {E : EE} {l G F A s n : Nat} {W : LW} {b bt bm : BB} {Q : Option PV → Mem → Prop}
theorem c_near (C : CC G F l W b h r E) {g : Nat} (hg : g < G) : WP (d + 1) 34 0 [some (vr 3), some (vi (nI g)), none, none, none] [] (mm h j r E) Q = Q (some (vi (nI (nrB G b g)))) (mm h j r E) := by
  rw [s_nearestTo C.H3 C.G8 C.eG hg, C.eb]
theorem c_rg1 {gl : Option PV} (C : CC G F l W b h r E) {e4 e5 : Option PV} : ∀ {k i x : Nat}, i + k = G → x < G → WP (d + 2) 112 31 [some (vr 2), gl, some (vi (nI x)), some (vi (nI i)), e4, e5] [] (mm h j r E) Q = WP (d + 2) 112 57 [some (vr 2), gl, some (vi (nI (itf (nrB G b) k x))), some (vi (nI G)), e4, e5] [] (mm h j r E) Q := by
  have hS := C.S
  have hG8 := C.G8
  intro k
  induction k with
  | zero =>
    intro i x hk hx
    have : i = G := by omega
    subst this
    rw [k112_31]
    simp only [k112_0, k112_1, k112_4, k112_5, k112_8, k112_11, k112_12, k112_13, k112_14, k112_17, k112_20, k112_21, k112_24, k112_26, k112_27, k112_28, k112_29, k112_30, k112_32, k112_33, k112_36, k112_39, k112_42, k112_43, k112_46, k112_47, k112_50, k112_51, k112_54, k112_58, k112_59, k112_60, k112_63, k112_64, k112_67, k112_69, k112_70, k112_74, k112_75, k112_78, k112_81, k112_84, k112_86, k112_87, k112_90, k112_91, k112_94, k112_96, k112_99, k112_101, k112_104, k112_107, k112_110, k112_111, mm_sI, mm_sJ, mm_sR, mm_cI, mm_cJ, mm_I, mm_J, mm_R, mm_K, mm_N, psh_s, psh_n, z_n, z_i, z_r, z_l, Nat.reduceAdd, Nat.reduceLeDiff, K2 hS, R2_0 hS, R2_1 hS, R2_2 hS, R2_6 hS, R2_8 hS, R2_11 hS, R2_12 hS, R2_13 hS, R2_15 hS, R2_16 hS, K3 hS, K11 hS, K19 hS, K27 hS, K32 hS, K37 hS, K98 hS, K99 hS, K100 hS, N37 hS, N98 hS, N99 hS, N100 hS, false_or, or_false, ne_eq, true_or, or_true, not_false_eq_true, Nat.reduceEqDiff, Nat.reduceLT, Nat.reduceLeDiff, Nat.reduceAdd, C.eG, Int32.le_refl, if_true]; rfl
  | succ k ih =>
    intro i x hk hx
    rw [k112_31]
    simp only [k112_0, k112_1, k112_4, k112_5, k112_8, k112_11, k112_12, k112_13, k112_14, k112_17, k112_20, k112_21, k112_24, k112_26, k112_27, k112_28, k112_29, k112_30, k112_32, k112_33, k112_36, k112_39, k112_42, k112_43, k112_46, k112_47, k112_50, k112_51, k112_54, k112_58, k112_59, k112_60, k112_63, k112_64, k112_67, k112_69, k112_70, k112_74, k112_75, k112_78, k112_81, k112_84, k112_86, k112_87, k112_90, k112_91, k112_94, k112_96, k112_99, k112_101, k112_104, k112_107, k112_110, k112_111, mm_sI, mm_sJ, mm_sR, mm_cI, mm_cJ, mm_I, mm_J, mm_R, mm_K, mm_N, psh_s, psh_n, z_n, z_i, z_r, z_l, Nat.reduceAdd, Nat.reduceLeDiff, K2 hS, R2_0 hS, R2_1 hS, R2_2 hS, R2_6 hS, R2_8 hS, R2_11 hS, R2_12 hS, R2_13 hS, R2_15 hS, R2_16 hS, K3 hS, K11 hS, K19 hS, K27 hS, K32 hS, K37 hS, K98 hS, K99 hS, K100 hS, N37 hS, N98 hS, N99 hS, N100 hS, false_or, or_false, ne_eq, true_or, or_true, not_false_eq_true, Nat.reduceEqDiff, Nat.reduceLT, Nat.reduceLeDiff, Nat.reduceAdd, mk0 C.H3, C.eG, nLe (show G < 2 ^ 31 by omega) (show i < 2 ^ 31 by omega), show ¬ G ≤ i by omega, if_false, c_near C hx, nS1]
    rw [ih (by omega) (nrB_lt x hx)]; rfl
theorem c_rg2 {gl : Option PV} (C : CC G F l W b h r E) {g : Nat} (hg : g < G) : ∀ {k i a c : Nat}, i + k = G → a < G → c ≤ 1 + i → WP (d + 2) 112 72 [some (vr 2), gl, some (vi (nI g)), some (vi (nI c)), some (vi (nI a)), some (vi (nI i))] [] (mm h j r E) Q = Q (some (vi (nI (rgC (nrB G b) g k a c)))) (mm h j r E) := by
  have hS := C.S
  have hG8 := C.G8
  intro k
  induction k with
  | zero =>
    intro i a c hk ha hc
    have : i = G := by omega
    subst this
    rw [k112_72]
    simp only [k112_0, k112_1, k112_4, k112_5, k112_8, k112_11, k112_12, k112_13, k112_14, k112_17, k112_20, k112_21, k112_24, k112_26, k112_27, k112_28, k112_29, k112_30, k112_32, k112_33, k112_36, k112_39, k112_42, k112_43, k112_46, k112_47, k112_50, k112_51, k112_54, k112_57, k112_58, k112_59, k112_60, k112_63, k112_64, k112_67, k112_69, k112_70, k112_74, k112_75, k112_78, k112_81, k112_84, k112_86, k112_87, k112_90, k112_91, k112_94, k112_96, k112_99, k112_101, k112_104, k112_107, k112_110, k112_111, mm_sI, mm_sJ, mm_sR, mm_cI, mm_cJ, mm_I, mm_J, mm_R, mm_K, mm_N, psh_s, psh_n, z_n, z_i, z_r, z_l, Nat.reduceAdd, Nat.reduceLeDiff, K2 hS, R2_0 hS, R2_1 hS, R2_2 hS, R2_6 hS, R2_8 hS, R2_11 hS, R2_12 hS, R2_13 hS, R2_15 hS, R2_16 hS, K3 hS, K11 hS, K19 hS, K27 hS, K32 hS, K37 hS, K98 hS, K99 hS, K100 hS, N37 hS, N98 hS, N99 hS, N100 hS, false_or, or_false, ne_eq, true_or, or_true, not_false_eq_true, Nat.reduceEqDiff, Nat.reduceLT, Nat.reduceLeDiff, Nat.reduceAdd, C.eG, Int32.le_refl, if_true]; rfl
  | succ k ih =>
    intro i a c hk ha hc
    rw [k112_72]
    simp only [k112_0, k112_1, k112_4, k112_5, k112_8, k112_11, k112_12, k112_13, k112_14, k112_17, k112_20, k112_21, k112_24, k112_26, k112_27, k112_28, k112_29, k112_30, k112_32, k112_33, k112_36, k112_39, k112_42, k112_43, k112_46, k112_47, k112_50, k112_51, k112_54, k112_57, k112_58, k112_59, k112_60, k112_63, k112_64, k112_67, k112_69, k112_70, k112_74, k112_75, k112_78, k112_81, k112_84, k112_86, k112_87, k112_90, k112_91, k112_94, k112_96, k112_99, k112_101, k112_104, k112_107, k112_110, k112_111, mm_sI, mm_sJ, mm_sR, mm_cI, mm_cJ, mm_I, mm_J, mm_R, mm_K, mm_N, psh_s, psh_n, z_n, z_i, z_r, z_l, Nat.reduceAdd, Nat.reduceLeDiff, K2 hS, R2_0 hS, R2_1 hS, R2_2 hS, R2_6 hS, R2_8 hS, R2_11 hS, R2_12 hS, R2_13 hS, R2_15 hS, R2_16 hS, K3 hS, K11 hS, K19 hS, K27 hS, K32 hS, K37 hS, K98 hS, K99 hS, K100 hS, N37 hS, N98 hS, N99 hS, N100 hS, false_or, or_false, ne_eq, true_or, or_true, not_false_eq_true, Nat.reduceEqDiff, Nat.reduceLT, Nat.reduceLeDiff, Nat.reduceAdd, mk0 C.H3, C.eG, nLe (show G < 2 ^ 31 by omega) (show i < 2 ^ 31 by omega), show ¬ G ≤ i by omega, if_false, c_near C ha, nS1, nEq (show a < 2 ^ 31 by omega) (show g < 2 ^ 31 by omega)]
    rw [rgC]
    by_cases e : a = g
    · simp only [e, if_true]
    · simp only [e, if_false]
      exact ih (by omega) (nrB_lt a ha) (by omega)
theorem c_ring {girl : Int32} (C : CC G F l W b h r E) : WP (d + 2) 112 0 [some (vr 2), some (vi girl), none, none, none, none] [] (mm h j r E) Q = Q (some (vi (ringA G b girl))) (mm h j r E) := by
  have hS := C.S
  have hG8 := C.G8
  unfold ringA
  simp only [k112_0, k112_1, k112_4, k112_5, k112_8, k112_11, k112_12, k112_13, k112_14, k112_17, k112_20, k112_21, k112_24, k112_26, k112_27, k112_28, k112_29, k112_30, k112_32, k112_33, k112_36, k112_39, k112_42, k112_43, k112_46, k112_47, k112_50, k112_51, k112_54, k112_57, k112_58, k112_59, k112_60, k112_63, k112_64, k112_67, k112_69, k112_70, k112_74, k112_75, k112_78, k112_81, k112_84, k112_86, k112_87, k112_90, k112_91, k112_94, k112_96, k112_99, k112_101, k112_104, k112_107, k112_110, k112_111, mm_sI, mm_sJ, mm_sR, mm_cI, mm_cJ, mm_I, mm_J, mm_R, mm_K, mm_N, psh_s, psh_n, z_n, z_i, z_r, z_l, Nat.reduceAdd, Nat.reduceLeDiff, K2 hS, R2_0 hS, R2_1 hS, R2_2 hS, R2_6 hS, R2_8 hS, R2_11 hS, R2_12 hS, R2_13 hS, R2_15 hS, R2_16 hS, K3 hS, K11 hS, K19 hS, K27 hS, K32 hS, K37 hS, K98 hS, K99 hS, K100 hS, N37 hS, N98 hS, N99 hS, N100 hS, false_or, or_false, ne_eq, true_or, or_true, not_false_eq_true, Nat.reduceEqDiff, Nat.reduceLT, Nat.reduceLeDiff, Nat.reduceAdd, mk0 C.H3, c_hasGirl C, b2i_0]
  by_cases c1 : inb girl G
  case neg => simp only [eq_false c1, not_false_eq_true, if_true, if_false]
  simp only [eq_true c1, not_true_eq_false, if_false, if_true, C.eG]
  by_cases c2 : G < 2
  · have : ((2 : Int32) ≤ nI G) = False := by rw [← nn2, nLe (by decide) (by omega)]; apply eq_false; omega
    simp only [this, c2, if_false, if_true]
  · have : (2 : Int32) ≤ nI G := by rw [← nn2, nLe (by decide) (by omega)]; omega
    simp only [this, c2, if_false, if_true]
    obtain ⟨x, hx, rfl, hx2⟩ := inb_of c1
    have hz := itf_lt (G := G) (nrB_lt (b := b)) G x hx
    rw [ix_n hx2, show (0 : Int32) = nI 0 from rfl, c_rg1 C (k := G) (i := 0) (by omega) hx]
    simp only [k112_0, k112_1, k112_4, k112_5, k112_8, k112_11, k112_12, k112_13, k112_14, k112_17, k112_20, k112_21, k112_24, k112_26, k112_27, k112_28, k112_29, k112_30, k112_32, k112_33, k112_36, k112_39, k112_42, k112_43, k112_46, k112_47, k112_50, k112_51, k112_54, k112_57, k112_58, k112_59, k112_60, k112_63, k112_64, k112_67, k112_69, k112_70, k112_74, k112_75, k112_78, k112_81, k112_84, k112_86, k112_87, k112_90, k112_91, k112_94, k112_96, k112_99, k112_101, k112_104, k112_107, k112_110, k112_111, mm_sI, mm_sJ, mm_sR, mm_cI, mm_cJ, mm_I, mm_J, mm_R, mm_K, mm_N, psh_s, psh_n, z_n, z_i, z_r, z_l, Nat.reduceAdd, Nat.reduceLeDiff, K2 hS, R2_0 hS, R2_1 hS, R2_2 hS, R2_6 hS, R2_8 hS, R2_11 hS, R2_12 hS, R2_13 hS, R2_15 hS, R2_16 hS, K3 hS, K11 hS, K19 hS, K27 hS, K32 hS, K37 hS, K98 hS, K99 hS, K100 hS, N37 hS, N98 hS, N99 hS, N100 hS, false_or, or_false, ne_eq, true_or, or_true, not_false_eq_true, Nat.reduceEqDiff, Nat.reduceLT, Nat.reduceLeDiff, Nat.reduceAdd, mk0 C.H3, c_near C hz]
    rw [show (0 : Int32) = nI 0 from rfl, show (1 : Int32) = nI 1 from rfl, c_rg2 C hz (k := G) (i := 0) (by omega) (nrB_lt _ hz) (by omega)]
/-- the model's nearest: none as yet is -2 -/
def nrF (g c : Nat) : Int32 := if c = g then -2 else nI c
theorem m_nrL (D : DD G F W b h r E) {g : Nat} (hg : g < G) : ∀ {k i c : Nat}, i + k = G → c < G → WP (d + 1) 216 5 [some (vr 113), some (vi (nI g)), some (vi (nrF g c)), some (vi (nI i))] [] (mm h j r E) Q = Q (some (vi (nrF g (nrL b g i k c)))) (mm h j r E) := by
  have hS := D.S
  have hG8 := D.G8
  intro k
  induction k with
  | zero =>
    intro i c hk hc
    have : i = G := by omega
    subst this
    rw [k216_5]
    simp only [k216_0, k216_2, k216_3, k216_4, k216_6, k216_7, k216_10, k216_13, k216_14, k216_15, k216_18, k216_19, k216_21, k216_24, k216_25, k216_28, k216_29, k216_30, k216_31, k216_34, k216_35, k216_36, k216_39, k216_40, k216_43, k216_44, k216_45, k216_46, k216_49, k216_50, k216_51, k216_54, k216_57, k216_58, k216_59, k216_62, k216_65, k216_66, mm_sI, mm_sJ, mm_sR, mm_cI, mm_cJ, mm_I, mm_J, mm_R, mm_K, mm_N, psh_s, psh_n, z_n, z_i, z_r, z_l, Nat.reduceAdd, Nat.reduceLeDiff, K113 hS, R113_2 hS, R113_3 hS, R113_5 hS, R113_8 hS, R113_9 hS, R113_10 hS, R113_11 hS, R113_16 hS, R113_17 hS, R113_18 hS, R113_19 hS, R113_20 hS, R113_21 hS, R113_22 hS, R113_26 hS, R113_27 hS, R113_30 hS, R113_32 hS, R113_34 hS, R113_35 hS, R113_36 hS, R113_37 hS, R113_40 hS, R113_41 hS, R113_42 hS, R113_43 hS, R113_44 hS, R113_45 hS, R113_47 hS, K114 hS, K115 hS, K116 hS, K117 hS, K118 hS, K119 hS, K120 hS, K121 hS, K122 hS, K123 hS, K124 hS, K125 hS, K126 hS, K127 hS, K128 hS, K129 hS, K130 hS, K131 hS, K132 hS, K133 hS, K134 hS, K135 hS, K136 hS, K137 hS, K138 hS, K139 hS, K140 hS, K141 hS, K142 hS, N114 hS, N115 hS, N116 hS, N117 hS, N118 hS, N119 hS, N120 hS, N121 hS, N122 hS, N123 hS, N124 hS, N125 hS, N126 hS, N127 hS, N128 hS, N129 hS, N130 hS, N131 hS, N132 hS, N133 hS, N134 hS, N135 hS, N136 hS, N137 hS, N138 hS, N139 hS, N140 hS, N141 hS, N142 hS, false_or, or_false, ne_eq, true_or, or_true, not_false_eq_true, Nat.reduceEqDiff, Nat.reduceLT, Nat.reduceLeDiff, Nat.reduceAdd, D.eG, Int32.le_refl, if_true]; rfl
  | succ k ih =>
    intro i c hk hc
    have hiG : i < G := by omega
    have hb : ∀ n, n < G → inb (nI n) 48 = True := fun n hn => eq_true (by rw [inb_n (by omega)]; omega)
    have hx : ∀ n, n < G → ix (nI n) = n := fun n hn => ix_n (by omega)
    rw [k216_5, nrL]
    simp only [k216_0, k216_2, k216_3, k216_4, k216_6, k216_7, k216_10, k216_13, k216_14, k216_15, k216_18, k216_19, k216_21, k216_24, k216_25, k216_28, k216_29, k216_30, k216_31, k216_34, k216_35, k216_36, k216_39, k216_40, k216_43, k216_44, k216_45, k216_46, k216_49, k216_50, k216_51, k216_54, k216_57, k216_58, k216_59, k216_62, k216_65, k216_66, mm_sI, mm_sJ, mm_sR, mm_cI, mm_cJ, mm_I, mm_J, mm_R, mm_K, mm_N, psh_s, psh_n, z_n, z_i, z_r, z_l, Nat.reduceAdd, Nat.reduceLeDiff, K113 hS, R113_2 hS, R113_3 hS, R113_5 hS, R113_8 hS, R113_9 hS, R113_10 hS, R113_11 hS, R113_16 hS, R113_17 hS, R113_18 hS, R113_19 hS, R113_20 hS, R113_21 hS, R113_22 hS, R113_26 hS, R113_27 hS, R113_30 hS, R113_32 hS, R113_34 hS, R113_35 hS, R113_36 hS, R113_37 hS, R113_40 hS, R113_41 hS, R113_42 hS, R113_43 hS, R113_44 hS, R113_45 hS, R113_47 hS, K114 hS, K115 hS, K116 hS, K117 hS, K118 hS, K119 hS, K120 hS, K121 hS, K122 hS, K123 hS, K124 hS, K125 hS, K126 hS, K127 hS, K128 hS, K129 hS, K130 hS, K131 hS, K132 hS, K133 hS, K134 hS, K135 hS, K136 hS, K137 hS, K138 hS, K139 hS, K140 hS, K141 hS, K142 hS, N114 hS, N115 hS, N116 hS, N117 hS, N118 hS, N119 hS, N120 hS, N121 hS, N122 hS, N123 hS, N124 hS, N125 hS, N126 hS, N127 hS, N128 hS, N129 hS, N130 hS, N131 hS, N132 hS, N133 hS, N134 hS, N135 hS, N136 hS, N137 hS, N138 hS, N139 hS, N140 hS, N141 hS, N142 hS, false_or, or_false, ne_eq, true_or, or_true, not_false_eq_true, Nat.reduceEqDiff, Nat.reduceLT, Nat.reduceLeDiff, Nat.reduceAdd, D.eG, nLe (show G < 2 ^ 31 by omega) (show i < 2 ^ 31 by omega), show ¬ G ≤ i by omega, if_false, nEq (show i < 2 ^ 31 by omega) (show g < 2 ^ 31 by omega)]
    by_cases h1 : i = g
    · subst h1
      simp only [if_true, not_true_eq_false, false_and, if_false, nS1]
      exact ih (by omega) hc
    · have fi : nI i = nrF g i := by unfold nrF; rw [if_neg h1]
      simp only [h1, if_false, not_false_eq_true, true_and]
      by_cases h2 : c = g
      · have fc : nrF g c = -2 := by unfold nrF; rw [if_pos h2]
        rw [fc, if_pos rfl, if_pos (Or.inl h2)]
        simp only [nS1]
        rw [show some (vi (nI i)) = some (vi (nrF g i)) by rw [← fi]]
        exact ih (i := i + 1) (c := i) (by omega) hiG
      · have fc : nrF g c = nI c := by unfold nrF; rw [if_neg h2]
        simp only [k216_0, k216_2, k216_3, k216_4, k216_6, k216_7, k216_10, k216_13, k216_14, k216_15, k216_18, k216_19, k216_21, k216_24, k216_25, k216_28, k216_29, k216_30, k216_31, k216_34, k216_35, k216_36, k216_39, k216_40, k216_43, k216_44, k216_45, k216_46, k216_49, k216_50, k216_51, k216_54, k216_57, k216_58, k216_59, k216_62, k216_65, k216_66, mm_sI, mm_sJ, mm_sR, mm_cI, mm_cJ, mm_I, mm_J, mm_R, mm_K, mm_N, psh_s, psh_n, z_n, z_i, z_r, z_l, Nat.reduceAdd, Nat.reduceLeDiff, K113 hS, R113_2 hS, R113_3 hS, R113_5 hS, R113_8 hS, R113_9 hS, R113_10 hS, R113_11 hS, R113_16 hS, R113_17 hS, R113_18 hS, R113_19 hS, R113_20 hS, R113_21 hS, R113_22 hS, R113_26 hS, R113_27 hS, R113_30 hS, R113_32 hS, R113_34 hS, R113_35 hS, R113_36 hS, R113_37 hS, R113_40 hS, R113_41 hS, R113_42 hS, R113_43 hS, R113_44 hS, R113_45 hS, R113_47 hS, K114 hS, K115 hS, K116 hS, K117 hS, K118 hS, K119 hS, K120 hS, K121 hS, K122 hS, K123 hS, K124 hS, K125 hS, K126 hS, K127 hS, K128 hS, K129 hS, K130 hS, K131 hS, K132 hS, K133 hS, K134 hS, K135 hS, K136 hS, K137 hS, K138 hS, K139 hS, K140 hS, K141 hS, K142 hS, N114 hS, N115 hS, N116 hS, N117 hS, N118 hS, N119 hS, N120 hS, N121 hS, N122 hS, N123 hS, N124 hS, N125 hS, N126 hS, N127 hS, N128 hS, N129 hS, N130 hS, N131 hS, N132 hS, N133 hS, N134 hS, N135 hS, N136 hS, N137 hS, N138 hS, N139 hS, N140 hS, N141 hS, N142 hS, false_or, or_false, ne_eq, true_or, or_true, not_false_eq_true, Nat.reduceEqDiff, Nat.reduceLT, Nat.reduceLeDiff, Nat.reduceAdd, fc, ng2 (show c < 2 ^ 31 by omega), if_false, h2, false_or, hb i hiG, hb c hc, hb g hg, hx i hiG, hx c hc, hx g hg, D.v0 hiG, D.v0 hc, D.v0 hg, m_apart]
        by_cases h3 : farB (b 0 g) (b 0 i) < farB (b 0 g) (b 0 c)
        · simp only [h3, Int32.not_le.2 h3, if_true, if_false, nS1]
          rw [show some (vi (nI i)) = some (vi (nrF g i)) by rw [← fi]]
          exact ih (i := i + 1) (c := i) (by omega) hiG
        · simp only [h3, Int32.not_lt.1 h3, if_true, if_false, nS1]
          rw [← fc]
          exact ih (i := i + 1) (c := c) (by omega) hc
theorem nrL_ne {b : BB} {g : Nat} : ∀ {k i c : Nat}, (c ≠ g ∨ ∃ x, i ≤ x ∧ x < i + k ∧ x ≠ g) → nrL b g i k c ≠ g := by
  intro k
  induction k with
  | zero => intro i c h; rcases h with h | ⟨x, h1, h2, _⟩; exact h; omega
  | succ k ih =>
    intro i c h
    rw [nrL]
    by_cases hc : i ≠ g ∧ (c = g ∨ farB (b 0 g) (b 0 i) < farB (b 0 g) (b 0 c))
    · rw [if_pos hc]; exact ih (Or.inl hc.1)
    · rw [if_neg hc]
      by_cases c0 : c = g
      · have hi : i = g := Decidable.byContradiction fun hn => hc ⟨hn, Or.inl c0⟩
        rcases h with h | ⟨x, h1, h2, h3⟩
        · exact absurd c0 h
        · exact ih (Or.inr ⟨x, by omega, by omega, h3⟩)
      · exact ih (Or.inl c0)
theorem m_near (D : DD G F W b h r E) {g : Nat} (hg : g < G) (h2 : 2 ≤ G) : WP (d + 1) 216 0 [some (vr 113), some (vi (nI g)), none, none] [] (mm h j r E) Q = Q (some (vi (nI (nrB G b g)))) (mm h j r E) := by
  have hz : nrF g g = -2 := by unfold nrF; rw [if_pos rfl]
  have e : nrF g (nrL b g 0 G g) = nI (nrB G b g) := by
    have : nrL b g 0 G g ≠ g := nrL_ne (Or.inr (by by_cases h0 : g = 0; exact ⟨1, by omega, by omega, by omega⟩; exact ⟨0, by omega, by omega, by omega⟩))
    unfold nrF; rw [if_neg this]; rfl
  simp only [k216_0, k216_2, k216_3, k216_4, k216_6, k216_7, k216_10, k216_13, k216_14, k216_15, k216_18, k216_19, k216_21, k216_24, k216_25, k216_28, k216_29, k216_30, k216_31, k216_34, k216_35, k216_36, k216_39, k216_40, k216_43, k216_44, k216_45, k216_46, k216_49, k216_50, k216_51, k216_54, k216_57, k216_58, k216_59, k216_62, k216_65, k216_66, mm_sI, mm_sJ, mm_sR, mm_cI, mm_cJ, mm_I, mm_J, mm_R, mm_K, mm_N, psh_s, psh_n, z_n, z_i, z_r, z_l, Nat.reduceAdd, Nat.reduceLeDiff, false_or, or_false, ne_eq, true_or, or_true, not_false_eq_true, Nat.reduceEqDiff, Nat.reduceLT, Nat.reduceLeDiff, Nat.reduceAdd]
  rw [← hz, show (0 : Int32) = nI 0 from rfl, m_nrL D hg (k := G) (i := 0) (by omega) hg, e]
theorem m_rg1 {gl : Option PV} (D : DD G F W b h r E) (h2 : 2 ≤ G) {e4 : Option PV} : ∀ {k i x : Nat}, i + k = G → x < G → WP (d + 2) 217 25 [some (vr 113), gl, some (vi (nI x)), some (vi (nI i)), e4] [] (mm h j r E) Q = WP (d + 2) 217 45 [some (vr 113), gl, some (vi (nI (itf (nrB G b) k x))), some (vi (nI G)), e4] [] (mm h j r E) Q := by
  have hS := D.S
  have hG8 := D.G8
  intro k
  induction k with
  | zero =>
    intro i x hk hx
    have : i = G := by omega
    subst this
    rw [k217_25]
    simp only [k217_0, k217_1, k217_2, k217_5, k217_8, k217_9, k217_10, k217_11, k217_14, k217_15, k217_18, k217_20, k217_21, k217_22, k217_23, k217_24, k217_26, k217_27, k217_30, k217_33, k217_34, k217_35, k217_38, k217_39, k217_42, k217_46, k217_47, k217_48, k217_49, k217_52, k217_56, k217_57, k217_60, k217_63, k217_64, k217_66, k217_69, k217_71, k217_74, k217_75, mm_sI, mm_sJ, mm_sR, mm_cI, mm_cJ, mm_I, mm_J, mm_R, mm_K, mm_N, psh_s, psh_n, z_n, z_i, z_r, z_l, Nat.reduceAdd, Nat.reduceLeDiff, K113 hS, R113_2 hS, R113_3 hS, R113_5 hS, R113_8 hS, R113_9 hS, R113_10 hS, R113_11 hS, R113_16 hS, R113_17 hS, R113_18 hS, R113_19 hS, R113_20 hS, R113_21 hS, R113_22 hS, R113_26 hS, R113_27 hS, R113_30 hS, R113_32 hS, R113_34 hS, R113_35 hS, R113_36 hS, R113_37 hS, R113_40 hS, R113_41 hS, R113_42 hS, R113_43 hS, R113_44 hS, R113_45 hS, R113_47 hS, K114 hS, K115 hS, K116 hS, K117 hS, K118 hS, K119 hS, K120 hS, K121 hS, K122 hS, K123 hS, K124 hS, K125 hS, K126 hS, K127 hS, K128 hS, K129 hS, K130 hS, K131 hS, K132 hS, K133 hS, K134 hS, K135 hS, K136 hS, K137 hS, K138 hS, K139 hS, K140 hS, K141 hS, K142 hS, N114 hS, N115 hS, N116 hS, N117 hS, N118 hS, N119 hS, N120 hS, N121 hS, N122 hS, N123 hS, N124 hS, N125 hS, N126 hS, N127 hS, N128 hS, N129 hS, N130 hS, N131 hS, N132 hS, N133 hS, N134 hS, N135 hS, N136 hS, N137 hS, N138 hS, N139 hS, N140 hS, N141 hS, N142 hS, false_or, or_false, ne_eq, true_or, or_true, not_false_eq_true, Nat.reduceEqDiff, Nat.reduceLT, Nat.reduceLeDiff, Nat.reduceAdd, D.eG, Int32.le_refl, if_true]; rfl
  | succ k ih =>
    intro i x hk hx
    rw [k217_25]
    simp only [k217_0, k217_1, k217_2, k217_5, k217_8, k217_9, k217_10, k217_11, k217_14, k217_15, k217_18, k217_20, k217_21, k217_22, k217_23, k217_24, k217_26, k217_27, k217_30, k217_33, k217_34, k217_35, k217_38, k217_39, k217_42, k217_46, k217_47, k217_48, k217_49, k217_52, k217_56, k217_57, k217_60, k217_63, k217_64, k217_66, k217_69, k217_71, k217_74, k217_75, mm_sI, mm_sJ, mm_sR, mm_cI, mm_cJ, mm_I, mm_J, mm_R, mm_K, mm_N, psh_s, psh_n, z_n, z_i, z_r, z_l, Nat.reduceAdd, Nat.reduceLeDiff, K113 hS, R113_2 hS, R113_3 hS, R113_5 hS, R113_8 hS, R113_9 hS, R113_10 hS, R113_11 hS, R113_16 hS, R113_17 hS, R113_18 hS, R113_19 hS, R113_20 hS, R113_21 hS, R113_22 hS, R113_26 hS, R113_27 hS, R113_30 hS, R113_32 hS, R113_34 hS, R113_35 hS, R113_36 hS, R113_37 hS, R113_40 hS, R113_41 hS, R113_42 hS, R113_43 hS, R113_44 hS, R113_45 hS, R113_47 hS, K114 hS, K115 hS, K116 hS, K117 hS, K118 hS, K119 hS, K120 hS, K121 hS, K122 hS, K123 hS, K124 hS, K125 hS, K126 hS, K127 hS, K128 hS, K129 hS, K130 hS, K131 hS, K132 hS, K133 hS, K134 hS, K135 hS, K136 hS, K137 hS, K138 hS, K139 hS, K140 hS, K141 hS, K142 hS, N114 hS, N115 hS, N116 hS, N117 hS, N118 hS, N119 hS, N120 hS, N121 hS, N122 hS, N123 hS, N124 hS, N125 hS, N126 hS, N127 hS, N128 hS, N129 hS, N130 hS, N131 hS, N132 hS, N133 hS, N134 hS, N135 hS, N136 hS, N137 hS, N138 hS, N139 hS, N140 hS, N141 hS, N142 hS, false_or, or_false, ne_eq, true_or, or_true, not_false_eq_true, Nat.reduceEqDiff, Nat.reduceLT, Nat.reduceLeDiff, Nat.reduceAdd, D.eG, nLe (show G < 2 ^ 31 by omega) (show i < 2 ^ 31 by omega), show ¬ G ≤ i by omega, if_false, m_near D hx h2, nS1]
    rw [ih (by omega) (nrB_lt x hx)]; rfl
theorem m_rg2 {gl : Option PV} (D : DD G F W b h r E) (h2 : 2 ≤ G) {g : Nat} (hg : g < G) : ∀ {p a c : Nat}, itf (nrB G b) p a = g → a < G → c + p < 2 ^ 31 → WP (d + 2) 217 54 [some (vr 113), gl, some (vi (nI g)), some (vi (nI c)), some (vi (nI a))] [] (mm h j r E) Q = Q (some (vi (nI (rgC (nrB G b) g p a c)))) (mm h j r E) := by
  have hS := D.S
  have hG8 := D.G8
  intro p
  induction p with
  | zero =>
    intro a c hp ha hc
    have hp : a = g := hp
    subst hp
    rw [k217_54]
    simp only [k217_0, k217_1, k217_2, k217_5, k217_8, k217_9, k217_10, k217_11, k217_14, k217_15, k217_18, k217_20, k217_21, k217_22, k217_23, k217_24, k217_26, k217_27, k217_30, k217_33, k217_34, k217_35, k217_38, k217_39, k217_42, k217_45, k217_46, k217_47, k217_48, k217_49, k217_52, k217_56, k217_57, k217_60, k217_63, k217_64, k217_66, k217_69, k217_71, k217_74, k217_75, mm_sI, mm_sJ, mm_sR, mm_cI, mm_cJ, mm_I, mm_J, mm_R, mm_K, mm_N, psh_s, psh_n, z_n, z_i, z_r, z_l, Nat.reduceAdd, Nat.reduceLeDiff, K113 hS, R113_2 hS, R113_3 hS, R113_5 hS, R113_8 hS, R113_9 hS, R113_10 hS, R113_11 hS, R113_16 hS, R113_17 hS, R113_18 hS, R113_19 hS, R113_20 hS, R113_21 hS, R113_22 hS, R113_26 hS, R113_27 hS, R113_30 hS, R113_32 hS, R113_34 hS, R113_35 hS, R113_36 hS, R113_37 hS, R113_40 hS, R113_41 hS, R113_42 hS, R113_43 hS, R113_44 hS, R113_45 hS, R113_47 hS, K114 hS, K115 hS, K116 hS, K117 hS, K118 hS, K119 hS, K120 hS, K121 hS, K122 hS, K123 hS, K124 hS, K125 hS, K126 hS, K127 hS, K128 hS, K129 hS, K130 hS, K131 hS, K132 hS, K133 hS, K134 hS, K135 hS, K136 hS, K137 hS, K138 hS, K139 hS, K140 hS, K141 hS, K142 hS, N114 hS, N115 hS, N116 hS, N117 hS, N118 hS, N119 hS, N120 hS, N121 hS, N122 hS, N123 hS, N124 hS, N125 hS, N126 hS, N127 hS, N128 hS, N129 hS, N130 hS, N131 hS, N132 hS, N133 hS, N134 hS, N135 hS, N136 hS, N137 hS, N138 hS, N139 hS, N140 hS, N141 hS, N142 hS, false_or, or_false, ne_eq, true_or, or_true, not_false_eq_true, Nat.reduceEqDiff, Nat.reduceLT, Nat.reduceLeDiff, Nat.reduceAdd, if_true]; rfl
  | succ p ih =>
    intro a c hp ha hc
    rw [k217_54, rgC]
    simp only [k217_0, k217_1, k217_2, k217_5, k217_8, k217_9, k217_10, k217_11, k217_14, k217_15, k217_18, k217_20, k217_21, k217_22, k217_23, k217_24, k217_26, k217_27, k217_30, k217_33, k217_34, k217_35, k217_38, k217_39, k217_42, k217_45, k217_46, k217_47, k217_48, k217_49, k217_52, k217_56, k217_57, k217_60, k217_63, k217_64, k217_66, k217_69, k217_71, k217_74, k217_75, mm_sI, mm_sJ, mm_sR, mm_cI, mm_cJ, mm_I, mm_J, mm_R, mm_K, mm_N, psh_s, psh_n, z_n, z_i, z_r, z_l, Nat.reduceAdd, Nat.reduceLeDiff, K113 hS, R113_2 hS, R113_3 hS, R113_5 hS, R113_8 hS, R113_9 hS, R113_10 hS, R113_11 hS, R113_16 hS, R113_17 hS, R113_18 hS, R113_19 hS, R113_20 hS, R113_21 hS, R113_22 hS, R113_26 hS, R113_27 hS, R113_30 hS, R113_32 hS, R113_34 hS, R113_35 hS, R113_36 hS, R113_37 hS, R113_40 hS, R113_41 hS, R113_42 hS, R113_43 hS, R113_44 hS, R113_45 hS, R113_47 hS, K114 hS, K115 hS, K116 hS, K117 hS, K118 hS, K119 hS, K120 hS, K121 hS, K122 hS, K123 hS, K124 hS, K125 hS, K126 hS, K127 hS, K128 hS, K129 hS, K130 hS, K131 hS, K132 hS, K133 hS, K134 hS, K135 hS, K136 hS, K137 hS, K138 hS, K139 hS, K140 hS, K141 hS, K142 hS, N114 hS, N115 hS, N116 hS, N117 hS, N118 hS, N119 hS, N120 hS, N121 hS, N122 hS, N123 hS, N124 hS, N125 hS, N126 hS, N127 hS, N128 hS, N129 hS, N130 hS, N131 hS, N132 hS, N133 hS, N134 hS, N135 hS, N136 hS, N137 hS, N138 hS, N139 hS, N140 hS, N141 hS, N142 hS, false_or, or_false, ne_eq, true_or, or_true, not_false_eq_true, Nat.reduceEqDiff, Nat.reduceLT, Nat.reduceLeDiff, Nat.reduceAdd, nEq (show a < 2 ^ 31 by omega) (show g < 2 ^ 31 by omega)]
    by_cases e : a = g
    · simp only [e, if_true]
    · simp only [k217_0, k217_1, k217_2, k217_5, k217_8, k217_9, k217_10, k217_11, k217_14, k217_15, k217_18, k217_20, k217_21, k217_22, k217_23, k217_24, k217_26, k217_27, k217_30, k217_33, k217_34, k217_35, k217_38, k217_39, k217_42, k217_45, k217_46, k217_47, k217_48, k217_49, k217_52, k217_56, k217_57, k217_60, k217_63, k217_64, k217_66, k217_69, k217_71, k217_74, k217_75, mm_sI, mm_sJ, mm_sR, mm_cI, mm_cJ, mm_I, mm_J, mm_R, mm_K, mm_N, psh_s, psh_n, z_n, z_i, z_r, z_l, Nat.reduceAdd, Nat.reduceLeDiff, K113 hS, R113_2 hS, R113_3 hS, R113_5 hS, R113_8 hS, R113_9 hS, R113_10 hS, R113_11 hS, R113_16 hS, R113_17 hS, R113_18 hS, R113_19 hS, R113_20 hS, R113_21 hS, R113_22 hS, R113_26 hS, R113_27 hS, R113_30 hS, R113_32 hS, R113_34 hS, R113_35 hS, R113_36 hS, R113_37 hS, R113_40 hS, R113_41 hS, R113_42 hS, R113_43 hS, R113_44 hS, R113_45 hS, R113_47 hS, K114 hS, K115 hS, K116 hS, K117 hS, K118 hS, K119 hS, K120 hS, K121 hS, K122 hS, K123 hS, K124 hS, K125 hS, K126 hS, K127 hS, K128 hS, K129 hS, K130 hS, K131 hS, K132 hS, K133 hS, K134 hS, K135 hS, K136 hS, K137 hS, K138 hS, K139 hS, K140 hS, K141 hS, K142 hS, N114 hS, N115 hS, N116 hS, N117 hS, N118 hS, N119 hS, N120 hS, N121 hS, N122 hS, N123 hS, N124 hS, N125 hS, N126 hS, N127 hS, N128 hS, N129 hS, N130 hS, N131 hS, N132 hS, N133 hS, N134 hS, N135 hS, N136 hS, N137 hS, N138 hS, N139 hS, N140 hS, N141 hS, N142 hS, false_or, or_false, ne_eq, true_or, or_true, not_false_eq_true, Nat.reduceEqDiff, Nat.reduceLT, Nat.reduceLeDiff, Nat.reduceAdd, e, if_false, m_near D ha h2, nS1]
      exact ih (c := c + 1) hp (nrB_lt a ha) (by omega)
theorem m_ring {girl : Int32} (D : DD G F W b h r E) : WP (d + 2) 217 0 [some (vr 113), some (vi girl), none, none, none] [] (mm h j r E) Q = Q (some (vi (ringA G b girl))) (mm h j r E) := by
  have hS := D.S
  have hG8 := D.G8
  unfold ringA
  simp only [k217_0, k217_1, k217_2, k217_5, k217_8, k217_9, k217_10, k217_11, k217_14, k217_15, k217_18, k217_20, k217_21, k217_22, k217_23, k217_24, k217_26, k217_27, k217_30, k217_33, k217_34, k217_35, k217_38, k217_39, k217_42, k217_45, k217_46, k217_47, k217_48, k217_49, k217_52, k217_56, k217_57, k217_60, k217_63, k217_64, k217_66, k217_69, k217_71, k217_74, k217_75, mm_sI, mm_sJ, mm_sR, mm_cI, mm_cJ, mm_I, mm_J, mm_R, mm_K, mm_N, psh_s, psh_n, z_n, z_i, z_r, z_l, Nat.reduceAdd, Nat.reduceLeDiff, K113 hS, R113_2 hS, R113_3 hS, R113_5 hS, R113_8 hS, R113_9 hS, R113_10 hS, R113_11 hS, R113_16 hS, R113_17 hS, R113_18 hS, R113_19 hS, R113_20 hS, R113_21 hS, R113_22 hS, R113_26 hS, R113_27 hS, R113_30 hS, R113_32 hS, R113_34 hS, R113_35 hS, R113_36 hS, R113_37 hS, R113_40 hS, R113_41 hS, R113_42 hS, R113_43 hS, R113_44 hS, R113_45 hS, R113_47 hS, K114 hS, K115 hS, K116 hS, K117 hS, K118 hS, K119 hS, K120 hS, K121 hS, K122 hS, K123 hS, K124 hS, K125 hS, K126 hS, K127 hS, K128 hS, K129 hS, K130 hS, K131 hS, K132 hS, K133 hS, K134 hS, K135 hS, K136 hS, K137 hS, K138 hS, K139 hS, K140 hS, K141 hS, K142 hS, N114 hS, N115 hS, N116 hS, N117 hS, N118 hS, N119 hS, N120 hS, N121 hS, N122 hS, N123 hS, N124 hS, N125 hS, N126 hS, N127 hS, N128 hS, N129 hS, N130 hS, N131 hS, N132 hS, N133 hS, N134 hS, N135 hS, N136 hS, N137 hS, N138 hS, N139 hS, N140 hS, N141 hS, N142 hS, false_or, or_false, ne_eq, true_or, or_true, not_false_eq_true, Nat.reduceEqDiff, Nat.reduceLT, Nat.reduceLeDiff, Nat.reduceAdd, m_isGirl D.eG hS hG8, b2i_0]
  by_cases c1 : inb girl G
  case neg => simp only [eq_false c1, not_false_eq_true, if_true, if_false]
  obtain ⟨x, hx, rfl, hx2⟩ := inb_of c1
  simp only [eq_true c1, not_true_eq_false, if_false, if_true, D.eG]
  by_cases c2 : G < 2
  · have : nI G = 1 := by rw [show G = 1 by omega]; rfl
    simp only [this, c2, if_true]
  · have : (nI G = 1) = False := by rw [← nn1, nEq (by omega) (by decide)]; apply eq_false; omega
    have h2 : 2 ≤ G := by omega
    simp only [this, c2, if_false]
    have hz := itf_lt (G := G) (nrB_lt (b := b)) G x hx
    obtain ⟨p, p1, pG, ep⟩ := in_ring (nrB_lt (b := b) (G := G)) hx
    obtain ⟨p, rfl⟩ : ∃ q, p = q + 1 := ⟨p - 1, by omega⟩
    have ep' : itf (nrB G b) p (nrB G b (itf (nrB G b) G x)) = itf (nrB G b) G x := ep
    rw [ix_n hx2, show (0 : Int32) = nI 0 from rfl, m_rg1 D h2 (k := G) (i := 0) (by omega) hx]
    simp only [k217_0, k217_1, k217_2, k217_5, k217_8, k217_9, k217_10, k217_11, k217_14, k217_15, k217_18, k217_20, k217_21, k217_22, k217_23, k217_24, k217_26, k217_27, k217_30, k217_33, k217_34, k217_35, k217_38, k217_39, k217_42, k217_45, k217_46, k217_47, k217_48, k217_49, k217_52, k217_56, k217_57, k217_60, k217_63, k217_64, k217_66, k217_69, k217_71, k217_74, k217_75, mm_sI, mm_sJ, mm_sR, mm_cI, mm_cJ, mm_I, mm_J, mm_R, mm_K, mm_N, psh_s, psh_n, z_n, z_i, z_r, z_l, Nat.reduceAdd, Nat.reduceLeDiff, K113 hS, R113_2 hS, R113_3 hS, R113_5 hS, R113_8 hS, R113_9 hS, R113_10 hS, R113_11 hS, R113_16 hS, R113_17 hS, R113_18 hS, R113_19 hS, R113_20 hS, R113_21 hS, R113_22 hS, R113_26 hS, R113_27 hS, R113_30 hS, R113_32 hS, R113_34 hS, R113_35 hS, R113_36 hS, R113_37 hS, R113_40 hS, R113_41 hS, R113_42 hS, R113_43 hS, R113_44 hS, R113_45 hS, R113_47 hS, K114 hS, K115 hS, K116 hS, K117 hS, K118 hS, K119 hS, K120 hS, K121 hS, K122 hS, K123 hS, K124 hS, K125 hS, K126 hS, K127 hS, K128 hS, K129 hS, K130 hS, K131 hS, K132 hS, K133 hS, K134 hS, K135 hS, K136 hS, K137 hS, K138 hS, K139 hS, K140 hS, K141 hS, K142 hS, N114 hS, N115 hS, N116 hS, N117 hS, N118 hS, N119 hS, N120 hS, N121 hS, N122 hS, N123 hS, N124 hS, N125 hS, N126 hS, N127 hS, N128 hS, N129 hS, N130 hS, N131 hS, N132 hS, N133 hS, N134 hS, N135 hS, N136 hS, N137 hS, N138 hS, N139 hS, N140 hS, N141 hS, N142 hS, false_or, or_false, ne_eq, true_or, or_true, not_false_eq_true, Nat.reduceEqDiff, Nat.reduceLT, Nat.reduceLeDiff, Nat.reduceAdd, m_near D hz h2]
    rw [show (1 : Int32) = nI 1 from rfl, m_rg2 D h2 hz ep' (nrB_lt _ hz) (by omega), rgC_end (k := G) ep' (by omega) (Or.inr trivial)]
end RG
