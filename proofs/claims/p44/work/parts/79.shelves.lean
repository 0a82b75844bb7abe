/-! ===== shelves changed ===== -/
def KV (hd : Int32) (v : Int64) : Int64 := if hd = 0 then v.toInt32.toInt8.toInt32.toInt64 else if hd = 1 then v.toInt32.toInt16.toInt32.toInt64 else if hd = 2 then v.toInt32.toInt64 else if hd = 3 then v else if v = 0 then 0 else 1
def refA (HD : Nat → Int32) (N : Nat → Nat) (s i : Int32) : Int32 := if inb s 6 then (if HD (ix s) = -1 then -11 else if inb (HD (ix s)) 5 then (if inb i (N (ix s)) then 0 else -13) else -12) else -1
section SV
variable {d : Nat} {M : Mem} {h h0 h1 h2 : Hp} {j j1 : Jp} {r r1 : Rp} {E : EE} {l G F A s n : Nat} {W : LW} {b bt bm : BB} {Q : Option PV → Mem → Prop} {hd : Int32} {V : Nat → Int64} {HD : Nat → Int32} {N : Nat → Nat} {VV : Nat → Nat → Int64}
theorem Sh.rr (hS : Sh r E) (e4 : r1 2 4 + r1 2 5 = r 2 4 + r 2 5) (e : ∀ t ∈ RfL, r1 t.1 t.2.1 = r t.1 t.2.1) : Sh r1 E := ⟨hS.1, fun t ht => (e t ht).trans (hS.2.1 t ht), hS.2.2.1, e4.trans hS.2.2.2⟩
theorem hd5 (C : ShC s hd n V h j r) (h5 : inb hd 5) : h (101 + 2 * s) 2 = hd ∧ r (101 + 2 * s) 1 = 0 := by
  obtain ⟨_, _, _, c4, c5, _⟩ := C
  rw [if_pos h5] at c4
  exact ⟨c4, c5.2 (by rw [iLt]; have := inb_i h5; rw [show (10 : Int32).toInt = 10 from rfl]; omega)⟩
theorem s_isBare (hS : Sh r E) (hs : s < 6) (C : ShC s hd n V h j r) : WP d 59 0 [some (vr (101 + 2 * s))] [] (mm h j r E) Q = Q (some (vi (b2i (hd = -1)))) (mm h j r E) := by
  obtain ⟨c1, c2, c3, c4, c5, c6, _⟩ := id C
  refine WP.fn ?_
  intro Q hQ
  by_cases h1 : hd = -1
  · rw [b2i_t h1] at hQ
    subst h1
    have r0 : r (101 + 2 * s) 1 = 0 := c5.2 (by decide)
    rw [if_neg (by decide)] at c4
    simp only [k59_0, k59_1, k59_4, k59_7, k59_8, k59_11, k59_14, k59_15, k59_18, k59_19, mm_sI, mm_sJ, mm_sR, mm_cI, mm_cJ, mm_I, mm_J, mm_R, mm_K, mm_N, psh_s, psh_n, z_n, z_i, z_r, z_l, Nat.reduceAdd, Nat.reduceLeDiff, false_or, or_false, ne_eq, true_or, or_true, not_false_eq_true, Nat.reduceEqDiff, Nat.reduceLT, Nat.reduceLeDiff, Nat.reduceAdd, shK hS hs, r0, if_true, c4, show ¬ ((0 : Int32) ≤ -1) by decide, if_false]
    exact hQ
  · rw [b2i_f h1] at hQ
    by_cases h5 : inb hd 5
    · obtain ⟨e1, e2⟩ := hd5 C h5
      have hp : (0 : Int32) ≤ hd := by rw [iLe, i0]; exact (inb_i h5).1
      simp only [k59_0, k59_1, k59_4, k59_7, k59_8, k59_11, k59_14, k59_15, k59_18, k59_19, mm_sI, mm_sJ, mm_sR, mm_cI, mm_cJ, mm_I, mm_J, mm_R, mm_K, mm_N, psh_s, psh_n, z_n, z_i, z_r, z_l, Nat.reduceAdd, Nat.reduceLeDiff, false_or, or_false, ne_eq, true_or, or_true, not_false_eq_true, Nat.reduceEqDiff, Nat.reduceLT, Nat.reduceLeDiff, Nat.reduceAdd, shK hS hs, e2, if_true, e1, hp]
      exact hQ
    · have h10 : 10 ≤ hd := (c6.resolve_left h1).resolve_left h5
      have rn : ¬ r (101 + 2 * s) 1 = 0 := fun hh => (Int32.not_lt.2 h10) (c5.1 hh)
      simp only [k59_0, k59_1, k59_4, k59_7, k59_8, k59_11, k59_14, k59_15, k59_18, k59_19, mm_sI, mm_sJ, mm_sR, mm_cI, mm_cJ, mm_I, mm_J, mm_R, mm_K, mm_N, psh_s, psh_n, z_n, z_i, z_r, z_l, Nat.reduceAdd, Nat.reduceLeDiff, false_or, or_false, ne_eq, true_or, or_true, not_false_eq_true, Nat.reduceEqDiff, Nat.reduceLT, Nat.reduceLeDiff, Nat.reduceAdd, shK hS hs, rn, if_false]
      exact hQ
theorem s_isRow (hS : Sh r E) (hs : s < 6) (C : ShC s hd n V h j r) : WP d 60 0 [some (vr (101 + 2 * s))] [] (mm h j r E) Q = Q (some (vi (b2i (inb hd 5)))) (mm h j r E) := by
  have c4 := C.2.2.2.1
  by_cases h5 : inb hd 5
  · rw [if_pos h5] at c4
    have hp : ¬ hd < 0 := h5.1
    rw [b2i_t h5]
    simp only [k60_0, k60_1, k60_4, k60_7, k60_8, k60_11, k60_12, mm_sI, mm_sJ, mm_sR, mm_cI, mm_cJ, mm_I, mm_J, mm_R, mm_K, mm_N, psh_s, psh_n, z_n, z_i, z_r, z_l, Nat.reduceAdd, Nat.reduceLeDiff, false_or, or_false, ne_eq, true_or, or_true, not_false_eq_true, Nat.reduceEqDiff, Nat.reduceLT, Nat.reduceLeDiff, Nat.reduceAdd, shK hS hs, c4, hp, if_false]
  · rw [if_neg h5] at c4
    rw [b2i_f h5]
    simp only [k60_0, k60_1, k60_4, k60_7, k60_8, k60_11, k60_12, mm_sI, mm_sJ, mm_sR, mm_cI, mm_cJ, mm_I, mm_J, mm_R, mm_K, mm_N, psh_s, psh_n, z_n, z_i, z_r, z_l, Nat.reduceAdd, Nat.reduceLeDiff, false_or, or_false, ne_eq, true_or, or_true, not_false_eq_true, Nat.reduceEqDiff, Nat.reduceLT, Nat.reduceLeDiff, Nat.reduceAdd, shK hS hs, c4, show ((-1 : Int32) < 0) by decide, if_true]
theorem c_elemRef {sh i : Int32} (hS : Sh r E) (Cs : ∀ s, s < 6 → ShC s (HD s) (N s) (VV s) h j r) : WP (d + 2) 136 0 [some (vr 2), some (vi sh), some (vi i)] [] (mm h j r E) Q = Q (some (vi (refA HD N sh i))) (mm h j r E) := by
  refine WP.fn ?_
  intro Q hQ
  unfold refA at hQ
  simp only [k136_0, k136_1, k136_4, k136_7, k136_8, k136_9, k136_10, k136_13, k136_14, k136_15, k136_18, k136_21, k136_23, k136_24, k136_25, k136_28, k136_29, k136_30, k136_33, k136_36, k136_38, k136_39, k136_40, k136_43, k136_44, k136_45, k136_46, k136_47, k136_50, k136_53, k136_54, k136_57, k136_59, mm_sI, mm_sJ, mm_sR, mm_cI, mm_cJ, mm_I, mm_J, mm_R, mm_K, mm_N, psh_s, psh_n, z_n, z_i, z_r, z_l, Nat.reduceAdd, Nat.reduceLeDiff, K2 hS, R2_0 hS, R2_1 hS, R2_2 hS, R2_6 hS, R2_8 hS, R2_11 hS, R2_12 hS, R2_13 hS, R2_15 hS, R2_16 hS, K3 hS, K11 hS, K19 hS, K27 hS, K32 hS, K37 hS, K98 hS, K99 hS, K100 hS, N37 hS, N98 hS, N99 hS, N100 hS, false_or, or_false, ne_eq, true_or, or_true, not_false_eq_true, Nat.reduceEqDiff, Nat.reduceLT, Nat.reduceLeDiff, Nat.reduceAdd, s_isShelf, b2i_0]
  by_cases c1 : inb sh 6
  case neg => simp only [eq_false c1, not_false_eq_true, if_true, if_false] at hQ ⊢; exact hQ
  obtain ⟨s, hs, rfl, _⟩ := inb_of c1
  have ex : ix (nI s) = s := ix_n (by omega)
  simp only [eq_true c1, if_true, ex] at hQ
  simp only [k136_0, k136_1, k136_4, k136_7, k136_8, k136_9, k136_10, k136_13, k136_14, k136_15, k136_18, k136_21, k136_23, k136_24, k136_25, k136_28, k136_29, k136_30, k136_33, k136_36, k136_38, k136_39, k136_40, k136_43, k136_44, k136_45, k136_46, k136_47, k136_50, k136_53, k136_54, k136_57, k136_59, mm_sI, mm_sJ, mm_sR, mm_cI, mm_cJ, mm_I, mm_J, mm_R, mm_K, mm_N, psh_s, psh_n, z_n, z_i, z_r, z_l, Nat.reduceAdd, Nat.reduceLeDiff, K2 hS, R2_0 hS, R2_1 hS, R2_2 hS, R2_6 hS, R2_8 hS, R2_11 hS, R2_12 hS, R2_13 hS, R2_15 hS, R2_16 hS, K3 hS, K11 hS, K19 hS, K27 hS, K32 hS, K37 hS, K98 hS, K99 hS, K100 hS, N37 hS, N98 hS, N99 hS, N100 hS, false_or, or_false, ne_eq, true_or, or_true, not_false_eq_true, Nat.reduceEqDiff, Nat.reduceLT, Nat.reduceLeDiff, Nat.reduceAdd, eq_true c1, not_true_eq_false, if_false, ex, shR hS hs, shK hS hs, s_isBare hS hs (Cs s hs), s_isRow hS hs (Cs s hs), b2i_0]
  by_cases h1 : HD s = -1
  · simp only [h1, if_true, not_true_eq_false, if_false] at hQ ⊢; exact hQ
  simp only [h1, if_false, not_false_eq_true, if_true] at hQ ⊢
  by_cases h5 : inb (HD s) 5
  · simp only [eq_true h5, not_true_eq_false, if_true, if_false] at hQ ⊢
    refine s_hasPart (shK hS hs) (Cs s hs).1 ?_ ?_
    · intro hp
      have hi := (part_1 (Cs s hs).2.1).1 hp
      rw [if_pos hi] at hQ
      simp only [k136_0, k136_1, k136_4, k136_7, k136_8, k136_9, k136_10, k136_13, k136_14, k136_15, k136_18, k136_21, k136_23, k136_24, k136_25, k136_28, k136_29, k136_30, k136_33, k136_36, k136_38, k136_39, k136_40, k136_43, k136_44, k136_45, k136_46, k136_47, k136_50, k136_53, k136_54, k136_57, k136_59, mm_sI, mm_sJ, mm_sR, mm_cI, mm_cJ, mm_I, mm_J, mm_R, mm_K, mm_N, psh_s, psh_n, z_n, z_i, z_r, z_l, Nat.reduceAdd, Nat.reduceLeDiff, false_or, or_false, ne_eq, true_or, or_true, not_false_eq_true, Nat.reduceEqDiff, Nat.reduceLT, Nat.reduceLeDiff, Nat.reduceAdd, e10, if_false]; exact hQ
    · intro hp
      have hi : ¬ inb i (N s) := fun hh => hp ((part_1 (Cs s hs).2.1).2 hh)
      rw [if_neg hi] at hQ
      simp only [k136_0, k136_1, k136_4, k136_7, k136_8, k136_9, k136_10, k136_13, k136_14, k136_15, k136_18, k136_21, k136_23, k136_24, k136_25, k136_28, k136_29, k136_30, k136_33, k136_36, k136_38, k136_39, k136_40, k136_43, k136_44, k136_45, k136_46, k136_47, k136_50, k136_53, k136_54, k136_57, k136_59, mm_sI, mm_sJ, mm_sR, mm_cI, mm_cJ, mm_I, mm_J, mm_R, mm_K, mm_N, psh_s, psh_n, z_n, z_i, z_r, z_l, Nat.reduceAdd, Nat.reduceLeDiff, false_or, or_false, ne_eq, true_or, or_true, not_false_eq_true, Nat.reduceEqDiff, Nat.reduceLT, Nat.reduceLeDiff, Nat.reduceAdd, if_true]; exact hQ
  · simp only [eq_false h5, not_false_eq_true, if_true, if_false] at hQ ⊢; exact hQ
theorem s_become {i : Nat} {v : Int64} (hS : Sh r E) (hs : s < 6) (C : ShC s hd n V h j r) (h5 : inb hd 5) (hi : i < 60) : WP d 66 0 [some (vr (101 + 2 * s)), some (vi (nI i)), some (vl v), none] [] (mm h j r E) Q = Q none (mm h (up2 j (102 + 2 * s) i (KV hd v)) r E) := by
  obtain ⟨e1, _⟩ := hd5 C h5
  have hb : inb (nI i) 60 = True := eq_true (by rw [inb_n (by omega)]; exact hi)
  obtain ⟨k, hk, rfl, _⟩ := inb_of h5
  unfold KV
  match k, hk with
  | 0, _ => simp only [k66_0, k66_1, k66_4c0, k66_4c1, k66_4c2, k66_4c3, k66_4, k66_36, k66_37, k66_40, k66_41, k66_42, k66_43, k66_44, k66_45, k66_46, k66_49, k66_50, k66_53, k66_54, k66_55, k66_56, k66_57, k66_58, k66_59, k66_62, k66_63, k66_66, k66_67, k66_68, k66_69, k66_70, k66_71, k66_74, k66_75, k66_78, k66_79, k66_80, k66_81, k66_84, k66_85, k66_88, k66_89, k66_90, k66_91, k66_92, k66_95, k66_96, k66_99, k66_100, k66_101, mm_sI, mm_sJ, mm_sR, mm_cI, mm_cJ, mm_I, mm_J, mm_R, mm_K, mm_N, psh_s, psh_n, z_n, z_i, z_r, z_l, Nat.reduceAdd, Nat.reduceLeDiff, false_or, or_false, ne_eq, true_or, or_true, not_false_eq_true, Nat.reduceEqDiff, Nat.reduceLT, Nat.reduceLeDiff, Nat.reduceAdd, nn0, shK hS hs, shE hS hs, shKe hS hs, shNe hS hs, sh2, hb, ix_n (show i < 2 ^ 31 by omega), e1, if_true]
  | 1, _ => simp only [k66_0, k66_1, k66_4c0, k66_4c1, k66_4c2, k66_4c3, k66_4, k66_36, k66_37, k66_40, k66_41, k66_42, k66_43, k66_44, k66_45, k66_46, k66_49, k66_50, k66_53, k66_54, k66_55, k66_56, k66_57, k66_58, k66_59, k66_62, k66_63, k66_66, k66_67, k66_68, k66_69, k66_70, k66_71, k66_74, k66_75, k66_78, k66_79, k66_80, k66_81, k66_84, k66_85, k66_88, k66_89, k66_90, k66_91, k66_92, k66_95, k66_96, k66_99, k66_100, k66_101, mm_sI, mm_sJ, mm_sR, mm_cI, mm_cJ, mm_I, mm_J, mm_R, mm_K, mm_N, psh_s, psh_n, z_n, z_i, z_r, z_l, Nat.reduceAdd, Nat.reduceLeDiff, false_or, or_false, ne_eq, true_or, or_true, not_false_eq_true, Nat.reduceEqDiff, Nat.reduceLT, Nat.reduceLeDiff, Nat.reduceAdd, nn1, shK hS hs, shE hS hs, shKe hS hs, shNe hS hs, sh2, hb, ix_n (show i < 2 ^ 31 by omega), e1, e10, if_true, if_false]
  | 2, _ => simp only [k66_0, k66_1, k66_4c0, k66_4c1, k66_4c2, k66_4c3, k66_4, k66_36, k66_37, k66_40, k66_41, k66_42, k66_43, k66_44, k66_45, k66_46, k66_49, k66_50, k66_53, k66_54, k66_55, k66_56, k66_57, k66_58, k66_59, k66_62, k66_63, k66_66, k66_67, k66_68, k66_69, k66_70, k66_71, k66_74, k66_75, k66_78, k66_79, k66_80, k66_81, k66_84, k66_85, k66_88, k66_89, k66_90, k66_91, k66_92, k66_95, k66_96, k66_99, k66_100, k66_101, mm_sI, mm_sJ, mm_sR, mm_cI, mm_cJ, mm_I, mm_J, mm_R, mm_K, mm_N, psh_s, psh_n, z_n, z_i, z_r, z_l, Nat.reduceAdd, Nat.reduceLeDiff, false_or, or_false, ne_eq, true_or, or_true, not_false_eq_true, Nat.reduceEqDiff, Nat.reduceLT, Nat.reduceLeDiff, Nat.reduceAdd, nn2, shK hS hs, shE hS hs, shKe hS hs, shNe hS hs, sh2, hb, ix_n (show i < 2 ^ 31 by omega), e1, show ((2 : Int32) = 0) = False by simp, show ((2 : Int32) = 1) = False by simp, if_true, if_false]
  | 3, _ => simp only [k66_0, k66_1, k66_4c0, k66_4c1, k66_4c2, k66_4c3, k66_4, k66_36, k66_37, k66_40, k66_41, k66_42, k66_43, k66_44, k66_45, k66_46, k66_49, k66_50, k66_53, k66_54, k66_55, k66_56, k66_57, k66_58, k66_59, k66_62, k66_63, k66_66, k66_67, k66_68, k66_69, k66_70, k66_71, k66_74, k66_75, k66_78, k66_79, k66_80, k66_81, k66_84, k66_85, k66_88, k66_89, k66_90, k66_91, k66_92, k66_95, k66_96, k66_99, k66_100, k66_101, mm_sI, mm_sJ, mm_sR, mm_cI, mm_cJ, mm_I, mm_J, mm_R, mm_K, mm_N, psh_s, psh_n, z_n, z_i, z_r, z_l, Nat.reduceAdd, Nat.reduceLeDiff, false_or, or_false, ne_eq, true_or, or_true, not_false_eq_true, Nat.reduceEqDiff, Nat.reduceLT, Nat.reduceLeDiff, Nat.reduceAdd, nn3, shK hS hs, shE hS hs, shKe hS hs, shNe hS hs, sh2, hb, ix_n (show i < 2 ^ 31 by omega), e1, show ((3 : Int32) = 0) = False by simp, show ((3 : Int32) = 1) = False by simp, show ((3 : Int32) = 2) = False by simp, if_true, if_false]
  | 4, _ =>
    have k4 : ((4 : Int32).toInt < 0 ∨ 3 < (4 : Int32).toInt) := by decide
    simp only [k66_0, k66_1, k66_4c0, k66_4c1, k66_4c2, k66_4c3, k66_4, k66_36, k66_37, k66_40, k66_41, k66_42, k66_43, k66_44, k66_45, k66_46, k66_49, k66_50, k66_53, k66_54, k66_55, k66_56, k66_57, k66_58, k66_59, k66_62, k66_63, k66_66, k66_67, k66_68, k66_69, k66_70, k66_71, k66_74, k66_75, k66_78, k66_79, k66_80, k66_81, k66_84, k66_85, k66_88, k66_89, k66_90, k66_91, k66_92, k66_95, k66_96, k66_99, k66_100, k66_101, mm_sI, mm_sJ, mm_sR, mm_cI, mm_cJ, mm_I, mm_J, mm_R, mm_K, mm_N, psh_s, psh_n, z_n, z_i, z_r, z_l, Nat.reduceAdd, Nat.reduceLeDiff, false_or, or_false, ne_eq, true_or, or_true, not_false_eq_true, Nat.reduceEqDiff, Nat.reduceLT, Nat.reduceLeDiff, Nat.reduceAdd, nn4, k66_4 k4, shK hS hs, shE hS hs, shKe hS hs, shNe hS hs, sh2, hb, ix_n (show i < 2 ^ 31 by omega), e1, show ((4 : Int32) = 0) = False by simp, show ((4 : Int32) = 1) = False by simp, show ((4 : Int32) = 2) = False by simp, show ((4 : Int32) = 3) = False by simp, if_false, lg0]
    by_cases c : v = 0
    · simp only [c, if_true]
    · simp only [c, if_false]
  | k + 5, hk => omega
theorem KV_b {v : Int64} : -128 ≤ (KV 0 v).toInt ∧ (KV 0 v).toInt ≤ 127 := by
  unfold KV
  rw [if_pos rfl, Int32.toInt_toInt64, Int8.toInt_toInt32]
  have h1 := Int8.toInt_lt v.toInt32.toInt8
  have h2 := Int8.le_toInt v.toInt32.toInt8
  omega
def putV (V : Nat → Nat → Int64) (s k : Nat) (x : Int64) : Nat → Nat → Int64 := fun s' i' => if s' = s ∧ i' = k then x else V s' i'
theorem putV_d {V : Nat → Nat → Int64} {s k s' i' : Nat} {x : Int64} : putV V s k x s' i' = if s' = s ∧ i' = k then x else V s' i' := rfl
end SV
