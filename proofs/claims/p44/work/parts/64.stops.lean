/-! ===== the fewest stops ===== -/
def hr1 (b : BB) (x : Int32) (s : Int32) (f : Nat) : Nat → Nat → Bool
  | _, 0 => false
  | e, k + 1 => (bit s e && decide (farB (b 2 e) (b 2 f) ≤ x)) || hr1 b x s f (e + 1) k
def hrA (b : BB) (x : Int32) (s : Int32) (F : Nat) : Nat → Nat → Bool
  | _, 0 => true
  | f, k + 1 => hr1 b x s f 0 F && hrA b x s F (f + 1) k
def stC (P : Nat → Bool) : Nat → Nat → Nat → Nat
  | _, 0, c => c
  | s, k + 1, c => stC P (s + 1) k (if pcI (nI s) < pcI (nI c) ∧ P s = true then s else c)
def stopsA (F : Nat) (b : BB) (x what : Int32) : Int32 :=
  if inb x 11 ∧ inb what 2 then (if what = 0 then pcI (nI (stC (fun s => hrA b x (nI s) F 0 F) 0 (2 ^ F) (2 ^ F - 1))) else nI (stC (fun s => hrA b x (nI s) F 0 F) 0 (2 ^ F) (2 ^ F - 1))) else -1
theorem sh_all : ∀ F : Fin 9, (1 : Int32) <<< (nI F.1 &&& 31) = nI (2 ^ F.1) := by decide +kernel
theorem sh_n {F : Nat} (h : F ≤ 8) : (1 : Int32) <<< (nI F &&& 31) = nI (2 ^ F) := sh_all ⟨F, by omega⟩
theorem two_le {F : Nat} (h : F ≤ 8) : 1 ≤ 2 ^ F ∧ 2 ^ F ≤ 256 := ⟨Nat.one_le_two_pow, Nat.pow_le_pow_right (n := 2) (by decide) h⟩
section ST
variable {d : Nat} {M : Mem} {h h0 h1 h2 : Hp} {j : Jp} {r : Rp} {E : EE} {l G F A n : Nat} {W : LW} {b bt bm : BB} {Q : Option PV → Mem → Prop}
theorem c_hr1 {s x : Int32} {f : Nat} (C : CC G F l W b h r E) (hf : f < F) : ∀ {k e : Nat}, e + k = F → WP (d + 1) 103 3 [some (vr 2), some (vi s), some (vi (nI f)), some (vi x), some (vi (nI e))] [] (mm h j r E) Q = Q (some (vi (if hr1 b x s f e k then 1 else 0))) (mm h j r E) := by
  have hS := C.S
  have hF8 := C.F8
  have hb : ∀ n, n < F → inb (nI n) 8 = True := fun n hn => eq_true (by rw [inb_n (by omega)]; omega)
  have hx : ∀ n, n < F → ix (nI n) = n := fun n hn => ix_n (by omega)
  intro k
  induction k with
  | zero =>
    intro e hk
    have : e = F := by omega
    subst this
    rw [k103_3]
    simp only [k103_0, k103_1, k103_5, k103_6, k103_9, k103_12, k103_15, k103_16, k103_17, k103_19, k103_20, k103_21, k103_24, k103_25, k103_28, k103_31, k103_33, k103_34, k103_35, k103_38, k103_41, k103_42, k103_43, k103_46, k103_47, k103_50, k103_51, k103_52, k103_55, k103_58, k103_59, mm_sI, mm_sJ, mm_sR, mm_cI, mm_cJ, mm_I, mm_J, mm_R, mm_K, mm_N, psh_s, psh_n, z_n, z_i, z_r, z_l, Nat.reduceAdd, Nat.reduceLeDiff, K2 hS, R2_0 hS, R2_1 hS, R2_2 hS, R2_6 hS, R2_8 hS, R2_11 hS, R2_12 hS, R2_13 hS, R2_15 hS, R2_16 hS, K3 hS, K11 hS, K19 hS, K27 hS, K32 hS, K37 hS, K98 hS, K99 hS, K100 hS, N37 hS, N98 hS, N99 hS, N100 hS, false_or, or_false, ne_eq, true_or, or_true, not_false_eq_true, Nat.reduceEqDiff, Nat.reduceLT, Nat.reduceLeDiff, Nat.reduceAdd, C.eF, Int32.le_refl, if_true, hr1, Bool.false_eq_true, if_false]
  | succ k ih =>
    intro e hk
    have heF : e < F := by omega
    rw [k103_3, hr1]
    simp only [k103_0, k103_1, k103_5, k103_6, k103_9, k103_12, k103_15, k103_16, k103_17, k103_19, k103_20, k103_21, k103_24, k103_25, k103_28, k103_31, k103_33, k103_34, k103_35, k103_38, k103_41, k103_42, k103_43, k103_46, k103_47, k103_50, k103_51, k103_52, k103_55, k103_58, k103_59, mm_sI, mm_sJ, mm_sR, mm_cI, mm_cJ, mm_I, mm_J, mm_R, mm_K, mm_N, psh_s, psh_n, z_n, z_i, z_r, z_l, Nat.reduceAdd, Nat.reduceLeDiff, K2 hS, R2_0 hS, R2_1 hS, R2_2 hS, R2_6 hS, R2_8 hS, R2_11 hS, R2_12 hS, R2_13 hS, R2_15 hS, R2_16 hS, K3 hS, K11 hS, K19 hS, K27 hS, K32 hS, K37 hS, K98 hS, K99 hS, K100 hS, N37 hS, N98 hS, N99 hS, N100 hS, R3_0 hS, R3_1 hS, R3_2 hS, R3_3 hS, R3_4 hS, R3_5 hS, R3_6 hS, K4 hS, K5 hS, K6 hS, K7 hS, K8 hS, K9 hS, K10 hS, N4 hS, N5 hS, N6 hS, N7 hS, N8 hS, N9 hS, N10 hS, false_or, or_false, ne_eq, true_or, or_true, not_false_eq_true, Nat.reduceEqDiff, Nat.reduceLT, Nat.reduceLeDiff, Nat.reduceAdd, C.eF, nLe (show F < 2 ^ 31 by omega) (show e < 2 ^ 31 by omega), show ¬ F ≤ e by omega, if_false, bit_n0 (show e < 32 by omega), hb e heF, hb f hf, hx e heF, hx f hf, c_v2 C heF, c_v2 C hf, s_far, nS1]
    cases c1 : bit s e with
    | false => simp only [if_true, Bool.false_and, Bool.false_or]; exact ih (by omega)
    | true =>
      by_cases c2 : farB (b 2 e) (b 2 f) ≤ x
      · simp only [c2, Int32.not_lt.2 c2, if_false, decide_true, Bool.and_self, Bool.true_or, if_true, Bool.true_eq_false]
      · simp only [c2, Int32.not_le.1 c2, if_true, if_false, decide_false, Bool.and_false, Bool.false_or, Bool.true_eq_false]; exact ih (by omega)
theorem c_hrA {s x : Int32} (C : CC G F l W b h r E) : ∀ {k f : Nat}, f + k = F → WP (d + 2) 102 2 [some (vr 2), some (vi s), some (vi x), some (vi (nI f))] [] (mm h j r E) Q = Q (some (vi (if hrA b x s F f k then 1 else 0))) (mm h j r E) := by
  have hS := C.S
  have hF8 := C.F8
  intro k
  induction k with
  | zero =>
    intro f hk
    have : f = F := by omega
    subst this
    rw [k102_2]
    simp only [k102_0, k102_1, k102_3, k102_4, k102_7, k102_10, k102_13, k102_14, k102_15, k102_16, k102_17, k102_20, k102_23, k102_24, k102_25, k102_28, k102_31, k102_32, mm_sI, mm_sJ, mm_sR, mm_cI, mm_cJ, mm_I, mm_J, mm_R, mm_K, mm_N, psh_s, psh_n, z_n, z_i, z_r, z_l, Nat.reduceAdd, Nat.reduceLeDiff, K2 hS, R2_0 hS, R2_1 hS, R2_2 hS, R2_6 hS, R2_8 hS, R2_11 hS, R2_12 hS, R2_13 hS, R2_15 hS, R2_16 hS, K3 hS, K11 hS, K19 hS, K27 hS, K32 hS, K37 hS, K98 hS, K99 hS, K100 hS, N37 hS, N98 hS, N99 hS, N100 hS, false_or, or_false, ne_eq, true_or, or_true, not_false_eq_true, Nat.reduceEqDiff, Nat.reduceLT, Nat.reduceLeDiff, Nat.reduceAdd, C.eF, Int32.le_refl, if_true, hrA]
  | succ k ih =>
    intro f hk
    rw [k102_2, hrA]
    simp only [k102_0, k102_1, k102_3, k102_4, k102_7, k102_10, k102_13, k102_14, k102_15, k102_16, k102_17, k102_20, k102_23, k102_24, k102_25, k102_28, k102_31, k102_32, k103_0, k103_1, k103_5, k103_6, k103_9, k103_12, k103_15, k103_16, k103_17, k103_19, k103_20, k103_21, k103_24, k103_25, k103_28, k103_31, k103_33, k103_34, k103_35, k103_38, k103_41, k103_42, k103_43, k103_46, k103_47, k103_50, k103_51, k103_52, k103_55, k103_58, k103_59, mm_sI, mm_sJ, mm_sR, mm_cI, mm_cJ, mm_I, mm_J, mm_R, mm_K, mm_N, psh_s, psh_n, z_n, z_i, z_r, z_l, Nat.reduceAdd, Nat.reduceLeDiff, K2 hS, R2_0 hS, R2_1 hS, R2_2 hS, R2_6 hS, R2_8 hS, R2_11 hS, R2_12 hS, R2_13 hS, R2_15 hS, R2_16 hS, K3 hS, K11 hS, K19 hS, K27 hS, K32 hS, K37 hS, K98 hS, K99 hS, K100 hS, N37 hS, N98 hS, N99 hS, N100 hS, false_or, or_false, ne_eq, true_or, or_true, not_false_eq_true, Nat.reduceEqDiff, Nat.reduceLT, Nat.reduceLeDiff, Nat.reduceAdd, C.eF, nLe (show F < 2 ^ 31 by omega) (show f < 2 ^ 31 by omega), show ¬ F ≤ f by omega, if_false, show (0 : Int32) = nI 0 from rfl]
    rw [c_hr1 C (show f < F by omega) (k := F) (e := 0) (by omega)]
    simp only [k102_0, k102_1, k102_3, k102_4, k102_7, k102_10, k102_13, k102_14, k102_15, k102_16, k102_17, k102_20, k102_23, k102_24, k102_25, k102_28, k102_31, k102_32, mm_sI, mm_sJ, mm_sR, mm_cI, mm_cJ, mm_I, mm_J, mm_R, mm_K, mm_N, psh_s, psh_n, z_n, z_i, z_r, z_l, Nat.reduceAdd, Nat.reduceLeDiff, false_or, or_false, ne_eq, true_or, or_true, not_false_eq_true, Nat.reduceEqDiff, Nat.reduceLT, Nat.reduceLeDiff, Nat.reduceAdd]
    cases c1 : hr1 b x s f 0 F with
    | false => simp only [Bool.false_eq_true, if_false, if_true, Bool.false_and, nn0]
    | true => simp only [if_true, e10, if_false, Bool.true_and, nn0, nS1]; exact ih (by omega)
theorem c_heard {s x : Int32} (C : CC G F l W b h r E) : WP (d + 2) 102 0 [some (vr 2), some (vi s), some (vi x), none] [] (mm h j r E) Q = Q (some (vi (if hrA b x s F 0 F then 1 else 0))) (mm h j r E) := by
  simp only [k102_0, k102_1, k102_3, k102_4, k102_7, k102_10, k102_13, k102_14, k102_15, k102_16, k102_17, k102_20, k102_23, k102_24, k102_25, k102_28, k102_31, k102_32, mm_sI, mm_sJ, mm_sR, mm_cI, mm_cJ, mm_I, mm_J, mm_R, mm_K, mm_N, psh_s, psh_n, z_n, z_i, z_r, z_l, Nat.reduceAdd, Nat.reduceLeDiff, false_or, or_false, ne_eq, true_or, or_true, not_false_eq_true, Nat.reduceEqDiff, Nat.reduceLT, Nat.reduceLeDiff, Nat.reduceAdd]
  exact c_hrA C (f := 0) (k := F) (by omega)
theorem c_stL {x : Int32} {what : Option PV} (C : CC G F l W b h r E) : ∀ {k s c : Nat}, s + k = 2 ^ F → (∀ e, WP (d + 3) 101 81 [some (vr 2), some (vi x), what, some (vi (nI (stC (fun s => hrA b x (nI s) F 0 F) s k c))), e] [] (mm h j r E) Q) → WP (d + 3) 101 36 [some (vr 2), some (vi x), what, some (vi (nI c)), some (vi (nI s))] [] (mm h j r E) Q := by
  have hS := C.S
  have hF8 := C.F8
  have t := two_le hF8
  intro k
  induction k with
  | zero =>
    intro s c hk hQ
    rw [k101_36]
    simp only [k101_0, k101_1, k101_2, k101_4, k101_7, k101_10, k101_11, k101_12, k101_13, k101_16, k101_19, k101_20, k101_21, k101_22, k101_23, k101_26, k101_29, k101_30, k101_31, k101_32, k101_33, k101_34, k101_38, k101_39, k101_40, k101_43, k101_46, k101_47, k101_50, k101_52, k101_55, k101_56, k101_59, k101_62, k101_63, k101_65, k101_66, k101_69, k101_72, k101_74, k101_75, k101_78, k101_82, k101_85, k101_86, k101_89, k101_92, k101_93, mm_sI, mm_sJ, mm_sR, mm_cI, mm_cJ, mm_I, mm_J, mm_R, mm_K, mm_N, psh_s, psh_n, z_n, z_i, z_r, z_l, Nat.reduceAdd, Nat.reduceLeDiff, K2 hS, R2_0 hS, R2_1 hS, R2_2 hS, R2_6 hS, R2_8 hS, R2_11 hS, R2_12 hS, R2_13 hS, R2_15 hS, R2_16 hS, K3 hS, K11 hS, K19 hS, K27 hS, K32 hS, K37 hS, K98 hS, K99 hS, K100 hS, N37 hS, N98 hS, N99 hS, N100 hS, false_or, or_false, ne_eq, true_or, or_true, not_false_eq_true, Nat.reduceEqDiff, Nat.reduceLT, Nat.reduceLeDiff, Nat.reduceAdd, C.eF, sh_n hF8, show s = 2 ^ F by omega, Int32.le_refl, if_true]
    have := hQ (some (vi (nI (2 ^ F))))
    exact this
  | succ k ih =>
    intro s c hk hQ
    rw [k101_36]
    simp only [k101_0, k101_1, k101_2, k101_4, k101_7, k101_10, k101_11, k101_12, k101_13, k101_16, k101_19, k101_20, k101_21, k101_22, k101_23, k101_26, k101_29, k101_30, k101_31, k101_32, k101_33, k101_34, k101_38, k101_39, k101_40, k101_43, k101_46, k101_47, k101_50, k101_52, k101_55, k101_56, k101_59, k101_62, k101_63, k101_65, k101_66, k101_69, k101_72, k101_74, k101_75, k101_78, k101_82, k101_85, k101_86, k101_89, k101_92, k101_93, mm_sI, mm_sJ, mm_sR, mm_cI, mm_cJ, mm_I, mm_J, mm_R, mm_K, mm_N, psh_s, psh_n, z_n, z_i, z_r, z_l, Nat.reduceAdd, Nat.reduceLeDiff, K2 hS, R2_0 hS, R2_1 hS, R2_2 hS, R2_6 hS, R2_8 hS, R2_11 hS, R2_12 hS, R2_13 hS, R2_15 hS, R2_16 hS, K3 hS, K11 hS, K19 hS, K27 hS, K32 hS, K37 hS, K98 hS, K99 hS, K100 hS, N37 hS, N98 hS, N99 hS, N100 hS, false_or, or_false, ne_eq, true_or, or_true, not_false_eq_true, Nat.reduceEqDiff, Nat.reduceLT, Nat.reduceLeDiff, Nat.reduceAdd, C.eF, sh_n hF8, nLe (show 2 ^ F < 2 ^ 31 by omega) (show s < 2 ^ 31 by omega), show ¬ 2 ^ F ≤ s by omega, if_false, s_bitCount, c_heard C]
    rw [stC] at hQ
    by_cases q1 : pcI (nI s) < pcI (nI c)
    · rw [if_neg (Int32.not_le.2 q1)]
      cases q2 : hrA b x (nI s) F 0 F with
      | true =>
        rw [if_pos ⟨q1, q2⟩] at hQ
        simp only [if_true, e10, if_false, nS1]
        exact ih (by omega) hQ
      | false =>
        rw [if_neg (fun hh => by rw [q2] at hh; exact absurd hh.2 (by decide))] at hQ
        simp only [Bool.false_eq_true, if_true, if_false, nS1]
        exact ih (by omega) hQ
    · rw [if_pos (Int32.not_lt.1 q1)]
      rw [if_neg (fun hh => q1 hh.1)] at hQ
      simp only [nS1]
      exact ih (by omega) hQ
theorem c_stops {x what : Int32} (C : CC G F l W b h r E) : WP (d + 3) 101 0 [some (vr 2), some (vi x), some (vi what), none, none] [] (mm h j r E) Q = Q (some (vi (stopsA F b x what))) (mm h j r E) := by
  refine WP.fn ?_
  intro Q hQ
  have hS := C.S
  have hF8 := C.F8
  have t := two_le hF8
  have h11 : b2i (0 ≤ x ∧ x ≤ 10) = b2i (inb x 11) := in_lit rfl (by decide)
  have h4 : b2i (0 ≤ what ∧ what ≤ 1) = b2i (inb what 2) := in_lit rfl (by decide)
  unfold stopsA at hQ
  simp only [k101_0, k101_1, k101_2, k101_4, k101_7, k101_10, k101_11, k101_12, k101_13, k101_16, k101_19, k101_20, k101_21, k101_22, k101_23, k101_26, k101_29, k101_30, k101_31, k101_32, k101_33, k101_34, k101_38, k101_39, k101_40, k101_43, k101_46, k101_47, k101_50, k101_52, k101_55, k101_56, k101_59, k101_62, k101_63, k101_65, k101_66, k101_69, k101_72, k101_74, k101_75, k101_78, k101_81, k101_82, k101_85, k101_86, k101_89, k101_92, k101_93, mm_sI, mm_sJ, mm_sR, mm_cI, mm_cJ, mm_I, mm_J, mm_R, mm_K, mm_N, psh_s, psh_n, z_n, z_i, z_r, z_l, Nat.reduceAdd, Nat.reduceLeDiff, K2 hS, R2_0 hS, R2_1 hS, R2_2 hS, R2_6 hS, R2_8 hS, R2_11 hS, R2_12 hS, R2_13 hS, R2_15 hS, R2_16 hS, K3 hS, K11 hS, K19 hS, K27 hS, K32 hS, K37 hS, K98 hS, K99 hS, K100 hS, N37 hS, N98 hS, N99 hS, N100 hS, false_or, or_false, ne_eq, true_or, or_true, not_false_eq_true, Nat.reduceEqDiff, Nat.reduceLT, Nat.reduceLeDiff, Nat.reduceAdd, s_within, h11, h4, b2i_0]
  by_cases c1 : inb x 11
  case neg => simp only [eq_false c1, not_false_eq_true, if_true, false_and, if_false] at hQ ⊢; exact hQ
  by_cases c2 : inb what 2
  case neg => simp only [eq_false c2, not_false_eq_true, if_true, false_and, and_false, if_false, eq_true c1, not_true_eq_false] at hQ ⊢; exact hQ
  simp only [eq_true c1, eq_true c2, and_true, not_true_eq_false, if_false, if_true, C.eF, sh_n hF8] at hQ ⊢
  rw [show nI (2 ^ F) - 1 = nI (2 ^ F - 1) by rw [← nSub (show (2 ^ F - 1) + 1 < 2 ^ 31 by omega), show 2 ^ F - 1 + 1 = 2 ^ F by omega]]
  refine c_stL C (s := 0) (k := 2 ^ F) (by omega) ?_
  intro e
  by_cases c : what = 0
  · simp only [c, if_true] at hQ
    simp only [k101_0, k101_1, k101_2, k101_4, k101_7, k101_10, k101_11, k101_12, k101_13, k101_16, k101_19, k101_20, k101_21, k101_22, k101_23, k101_26, k101_29, k101_30, k101_31, k101_32, k101_33, k101_34, k101_38, k101_39, k101_40, k101_43, k101_46, k101_47, k101_50, k101_52, k101_55, k101_56, k101_59, k101_62, k101_63, k101_65, k101_66, k101_69, k101_72, k101_74, k101_75, k101_78, k101_81, k101_82, k101_85, k101_86, k101_89, k101_92, k101_93, mm_sI, mm_sJ, mm_sR, mm_cI, mm_cJ, mm_I, mm_J, mm_R, mm_K, mm_N, psh_s, psh_n, z_n, z_i, z_r, z_l, Nat.reduceAdd, Nat.reduceLeDiff, false_or, or_false, ne_eq, true_or, or_true, not_false_eq_true, Nat.reduceEqDiff, Nat.reduceLT, Nat.reduceLeDiff, Nat.reduceAdd, c, if_true, s_bitCount]; exact hQ
  · simp only [c, if_false] at hQ
    simp only [k101_0, k101_1, k101_2, k101_4, k101_7, k101_10, k101_11, k101_12, k101_13, k101_16, k101_19, k101_20, k101_21, k101_22, k101_23, k101_26, k101_29, k101_30, k101_31, k101_32, k101_33, k101_34, k101_38, k101_39, k101_40, k101_43, k101_46, k101_47, k101_50, k101_52, k101_55, k101_56, k101_59, k101_62, k101_63, k101_65, k101_66, k101_69, k101_72, k101_74, k101_75, k101_78, k101_81, k101_82, k101_85, k101_86, k101_89, k101_92, k101_93, mm_sI, mm_sJ, mm_sR, mm_cI, mm_cJ, mm_I, mm_J, mm_R, mm_K, mm_N, psh_s, psh_n, z_n, z_i, z_r, z_l, Nat.reduceAdd, Nat.reduceLeDiff, false_or, or_false, ne_eq, true_or, or_true, not_false_eq_true, Nat.reduceEqDiff, Nat.reduceLT, Nat.reduceLeDiff, Nat.reduceAdd, c, if_false]; exact hQ
end ST
