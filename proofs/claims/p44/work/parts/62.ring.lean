/-! ===== rings ===== -/
def itf (f : Nat → Nat) : Nat → Nat → Nat
  | 0, x => x
  | n + 1, x => itf f n (f x)
theorem itf_lt {f : Nat → Nat} {G : Nat} (hf : ∀ x, x < G → f x < G) : ∀ (n x : Nat), x < G → itf f n x < G := by
  intro n
  induction n with
  | zero => intro x h; exact h
  | succ n ih => intro x h; exact ih _ (hf x h)
/-- counted on until one is there again -/
def rgC (f : Nat → Nat) (g : Nat) : Nat → Nat → Nat → Nat
  | 0, _, c => c
  | k + 1, a, c => if a = g then c else rgC f g k (f a) (c + 1)
def ringA (G : Nat) (b : BB) (girl : Int32) : Int32 :=
  if inb girl G then (if G < 2 then -2 else nI (rgC (nrB G b) (itf (nrB G b) G (ix girl)) G (nrB G b (itf (nrB G b) G (ix girl))) 1)) else -1
theorem nrL_lt {b : BB} {g G : Nat} : ∀ {k i c : Nat}, i + k = G → c < G → nrL b g i k c < G := by
  intro k
  induction k with
  | zero => intro i c _ h; exact h
  | succ k ih =>
    intro i c hk h
    rw [nrL]
    split
    · exact ih (by omega) (by omega)
    · exact ih (by omega) h
theorem nrB_lt {b : BB} {G : Nat} : ∀ x, x < G → nrB G b x < G := fun x hx => nrL_lt (by omega) hx
section RG
variable {d : Nat} {M : Mem} {h h0 h1 h2 : Hp} {j : Jp} {r : Rp} {E : EE} {l G F A s n : Nat} {W : LW} {b bt bm : BB} {Q : Option PV → Mem → Prop}
theorem c_near (C : CC G F l W b h r E) {g : Nat} (hg : g < G) : WP (d + 1) 34 0 [some (vr 3), some (vi (nI g)), none, none, none] [] (mm h j r E) Q = Q (some (vi (nI (nrB G b g)))) (mm h j r E) := by
  rw [s_nearestTo C.H3 C.G8 C.eG hg, C.eb]
theorem c_rg1 {gl : Option PV} (C : CC G F l W b h r E) {e4 e5 : Option PV} : ∀ {k i x : Nat}, i + k = G → x < G → WP (d + 2) 112 31 [some (vr 2), gl, some (vi (nI x)), some (vi (nI i)), e4, e5] [] (mm h j r E) Q = WP (d + 2) 112 57 [some (vr 2), gl, some (vi (nI (itf (nrB G b) k x))), some (vi (nI G)), e4, e5] [] (mm h j r E) Q := by
  have hS := C.S
  have hG8 := C.G8
  intro k
  induction k with
  | zero =>
    intro i x hk hx
    have : i = G := by omega
    subst this
    rw [k112_31]
    simp only [k112_0, k112_1, k112_4, k112_5, k112_8, k112_11, k112_12, k112_13, k112_14, k112_17, k112_20, k112_21, k112_24, k112_26, k112_27, k112_28, k112_29, k112_30, k112_32, k112_33, k112_36, k112_39, k112_42, k112_43, k112_46, k112_47, k112_50, k112_51, k112_54, k112_58, k112_59, k112_60, k112_63, k112_64, k112_67, k112_69, k112_70, k112_74, k112_75, k112_78, k112_81, k112_84, k112_86, k112_87, k112_90, k112_91, k112_94, k112_96, k112_99, k112_101, k112_104, k112_107, k112_110, k112_111, mm_sI, mm_sJ, mm_sR, mm_cI, mm_cJ, mm_I, mm_J, mm_R, mm_K, mm_N, psh_s, psh_n, z_n, z_i, z_r, z_l, Nat.reduceAdd, Nat.reduceLeDiff, K2 hS, R2_0 hS, R2_1 hS, R2_2 hS, R2_6 hS, R2_8 hS, R2_11 hS, R2_12 hS, R2_13 hS, R2_15 hS, R2_16 hS, K3 hS, K11 hS, K19 hS, K27 hS, K32 hS, K37 hS, K98 hS, K99 hS, K100 hS, N37 hS, N98 hS, N99 hS, N100 hS, false_or, or_false, ne_eq, true_or, or_true, not_false_eq_true, Nat.reduceEqDiff, Nat.reduceLT, Nat.reduceLeDiff, Nat.reduceAdd, C.eG, Int32.le_refl, if_true]; rfl
  | succ k ih =>
    intro i x hk hx
    rw [k112_31]
    simp only [k112_0, k112_1, k112_4, k112_5, k112_8, k112_11, k112_12, k112_13, k112_14, k112_17, k112_20, k112_21, k112_24, k112_26, k112_27, k112_28, k112_29, k112_30, k112_32, k112_33, k112_36, k112_39, k112_42, k112_43, k112_46, k112_47, k112_50, k112_51, k112_54, k112_58, k112_59, k112_60, k112_63, k112_64, k112_67, k112_69, k112_70, k112_74, k112_75, k112_78, k112_81, k112_84, k112_86, k112_87, k112_90, k112_91, k112_94, k112_96, k112_99, k112_101, k112_104, k112_107, k112_110, k112_111, mm_sI, mm_sJ, mm_sR, mm_cI, mm_cJ, mm_I, mm_J, mm_R, mm_K, mm_N, psh_s, psh_n, z_n, z_i, z_r, z_l, Nat.reduceAdd, Nat.reduceLeDiff, K2 hS, R2_0 hS, R2_1 hS, R2_2 hS, R2_6 hS, R2_8 hS, R2_11 hS, R2_12 hS, R2_13 hS, R2_15 hS, R2_16 hS, K3 hS, K11 hS, K19 hS, K27 hS, K32 hS, K37 hS, K98 hS, K99 hS, K100 hS, N37 hS, N98 hS, N99 hS, N100 hS, false_or, or_false, ne_eq, true_or, or_true, not_false_eq_true, Nat.reduceEqDiff, Nat.reduceLT, Nat.reduceLeDiff, Nat.reduceAdd, mk0 C.H3, C.eG, nLe (show G < 2 ^ 31 by omega) (show i < 2 ^ 31 by omega), show ¬ G ≤ i by omega, if_false, c_near C hx, nS1]
    rw [ih (by omega) (nrB_lt x hx)]; rfl
theorem c_rg2 {gl : Option PV} (C : CC G F l W b h r E) {g : Nat} (hg : g < G) : ∀ {k i a c : Nat}, i + k = G → a < G → c ≤ 1 + i → WP (d + 2) 112 72 [some (vr 2), gl, some (vi (nI g)), some (vi (nI c)), some (vi (nI a)), some (vi (nI i))] [] (mm h j r E) Q = Q (some (vi (nI (rgC (nrB G b) g k a c)))) (mm h j r E) := by
  have hS := C.S
  have hG8 := C.G8
  intro k
  induction k with
  | zero =>
    intro i a c hk ha hc
    have : i = G := by omega
    subst this
    rw [k112_72]
    simp only [k112_0, k112_1, k112_4, k112_5, k112_8, k112_11, k112_12, k112_13, k112_14, k112_17, k112_20, k112_21, k112_24, k112_26, k112_27, k112_28, k112_29, k112_30, k112_32, k112_33, k112_36, k112_39, k112_42, k112_43, k112_46, k112_47, k112_50, k112_51, k112_54, k112_57, k112_58, k112_59, k112_60, k112_63, k112_64, k112_67, k112_69, k112_70, k112_74, k112_75, k112_78, k112_81, k112_84, k112_86, k112_87, k112_90, k112_91, k112_94, k112_96, k112_99, k112_101, k112_104, k112_107, k112_110, k112_111, mm_sI, mm_sJ, mm_sR, mm_cI, mm_cJ, mm_I, mm_J, mm_R, mm_K, mm_N, psh_s, psh_n, z_n, z_i, z_r, z_l, Nat.reduceAdd, Nat.reduceLeDiff, K2 hS, R2_0 hS, R2_1 hS, R2_2 hS, R2_6 hS, R2_8 hS, R2_11 hS, R2_12 hS, R2_13 hS, R2_15 hS, R2_16 hS, K3 hS, K11 hS, K19 hS, K27 hS, K32 hS, K37 hS, K98 hS, K99 hS, K100 hS, N37 hS, N98 hS, N99 hS, N100 hS, false_or, or_false, ne_eq, true_or, or_true, not_false_eq_true, Nat.reduceEqDiff, Nat.reduceLT, Nat.reduceLeDiff, Nat.reduceAdd, C.eG, Int32.le_refl, if_true]; rfl
  | succ k ih =>
    intro i a c hk ha hc
    rw [k112_72]
    simp only [k112_0, k112_1, k112_4, k112_5, k112_8, k112_11, k112_12, k112_13, k112_14, k112_17, k112_20, k112_21, k112_24, k112_26, k112_27, k112_28, k112_29, k112_30, k112_32, k112_33, k112_36, k112_39, k112_42, k112_43, k112_46, k112_47, k112_50, k112_51, k112_54, k112_57, k112_58, k112_59, k112_60, k112_63, k112_64, k112_67, k112_69, k112_70, k112_74, k112_75, k112_78, k112_81, k112_84, k112_86, k112_87, k112_90, k112_91, k112_94, k112_96, k112_99, k112_101, k112_104, k112_107, k112_110, k112_111, mm_sI, mm_sJ, mm_sR, mm_cI, mm_cJ, mm_I, mm_J, mm_R, mm_K, mm_N, psh_s, psh_n, z_n, z_i, z_r, z_l, Nat.reduceAdd, Nat.reduceLeDiff, K2 hS, R2_0 hS, R2_1 hS, R2_2 hS, R2_6 hS, R2_8 hS, R2_11 hS, R2_12 hS, R2_13 hS, R2_15 hS, R2_16 hS, K3 hS, K11 hS, K19 hS, K27 hS, K32 hS, K37 hS, K98 hS, K99 hS, K100 hS, N37 hS, N98 hS, N99 hS, N100 hS, false_or, or_false, ne_eq, true_or, or_true, not_false_eq_true, Nat.reduceEqDiff, Nat.reduceLT, Nat.reduceLeDiff, Nat.reduceAdd, mk0 C.H3, C.eG, nLe (show G < 2 ^ 31 by omega) (show i < 2 ^ 31 by omega), show ¬ G ≤ i by omega, if_false, c_near C ha, nS1, nEq (show a < 2 ^ 31 by omega) (show g < 2 ^ 31 by omega)]
    rw [rgC]
    by_cases e : a = g
    · simp only [e, if_true]
    · simp only [e, if_false]
      exact ih (by omega) (nrB_lt a ha) (by omega)
theorem c_ring {girl : Int32} (C : CC G F l W b h r E) : WP (d + 2) 112 0 [some (vr 2), some (vi girl), none, none, none, none] [] (mm h j r E) Q = Q (some (vi (ringA G b girl))) (mm h j r E) := by
  have hS := C.S
  have hG8 := C.G8
  unfold ringA
  simp only [k112_0, k112_1, k112_4, k112_5, k112_8, k112_11, k112_12, k112_13, k112_14, k112_17, k112_20, k112_21, k112_24, k112_26, k112_27, k112_28, k112_29, k112_30, k112_32, k112_33, k112_36, k112_39, k112_42, k112_43, k112_46, k112_47, k112_50, k112_51, k112_54, k112_57, k112_58, k112_59, k112_60, k112_63, k112_64, k112_67, k112_69, k112_70, k112_74, k112_75, k112_78, k112_81, k112_84, k112_86, k112_87, k112_90, k112_91, k112_94, k112_96, k112_99, k112_101, k112_104, k112_107, k112_110, k112_111, mm_sI, mm_sJ, mm_sR, mm_cI, mm_cJ, mm_I, mm_J, mm_R, mm_K, mm_N, psh_s, psh_n, z_n, z_i, z_r, z_l, Nat.reduceAdd, Nat.reduceLeDiff, K2 hS, R2_0 hS, R2_1 hS, R2_2 hS, R2_6 hS, R2_8 hS, R2_11 hS, R2_12 hS, R2_13 hS, R2_15 hS, R2_16 hS, K3 hS, K11 hS, K19 hS, K27 hS, K32 hS, K37 hS, K98 hS, K99 hS, K100 hS, N37 hS, N98 hS, N99 hS, N100 hS, false_or, or_false, ne_eq, true_or, or_true, not_false_eq_true, Nat.reduceEqDiff, Nat.reduceLT, Nat.reduceLeDiff, Nat.reduceAdd, mk0 C.H3, c_hasGirl C, b2i_0]
  by_cases c1 : inb girl G
  case neg => simp only [eq_false c1, not_false_eq_true, if_true, if_false]
  simp only [eq_true c1, not_true_eq_false, if_false, if_true, C.eG]
  by_cases c2 : G < 2
  · have : ((2 : Int32) ≤ nI G) = False := by rw [← nn2, nLe (by decide) (by omega)]; apply eq_false; omega
    simp only [this, c2, if_false, if_true]
  · have : (2 : Int32) ≤ nI G := by rw [← nn2, nLe (by decide) (by omega)]; omega
    simp only [this, c2, if_false, if_true]
    obtain ⟨x, hx, rfl, hx2⟩ := inb_of c1
    have hz := itf_lt (G := G) (nrB_lt (b := b)) G x hx
    rw [ix_n hx2, show (0 : Int32) = nI 0 from rfl, c_rg1 C (k := G) (i := 0) (by omega) hx]
    simp only [k112_0, k112_1, k112_4, k112_5, k112_8, k112_11, k112_12, k112_13, k112_14, k112_17, k112_20, k112_21, k112_24, k112_26, k112_27, k112_28, k112_29, k112_30, k112_32, k112_33, k112_36, k112_39, k112_42, k112_43, k112_46, k112_47, k112_50, k112_51, k112_54, k112_57, k112_58, k112_59, k112_60, k112_63, k112_64, k112_67, k112_69, k112_70, k112_74, k112_75, k112_78, k112_81, k112_84, k112_86, k112_87, k112_90, k112_91, k112_94, k112_96, k112_99, k112_101, k112_104, k112_107, k112_110, k112_111, mm_sI, mm_sJ, mm_sR, mm_cI, mm_cJ, mm_I, mm_J, mm_R, mm_K, mm_N, psh_s, psh_n, z_n, z_i, z_r, z_l, Nat.reduceAdd, Nat.reduceLeDiff, K2 hS, R2_0 hS, R2_1 hS, R2_2 hS, R2_6 hS, R2_8 hS, R2_11 hS, R2_12 hS, R2_13 hS, R2_15 hS, R2_16 hS, K3 hS, K11 hS, K19 hS, K27 hS, K32 hS, K37 hS, K98 hS, K99 hS, K100 hS, N37 hS, N98 hS, N99 hS, N100 hS, false_or, or_false, ne_eq, true_or, or_true, not_false_eq_true, Nat.reduceEqDiff, Nat.reduceLT, Nat.reduceLeDiff, Nat.reduceAdd, mk0 C.H3, c_near C hz]
    rw [show (0 : Int32) = nI 0 from rfl, show (1 : Int32) = nI 1 from rfl, c_rg2 C hz (k := G) (i := 0) (by omega) (nrB_lt _ hz) (by omega)]
end RG
