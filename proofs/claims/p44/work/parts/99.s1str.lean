/-! ===== builders: made, put behind, turned into strings ===== -/
section SU
variable {d : Nat} {M : Mem} {φ : Int32} {h h0 h1 h2 : Hp} {j j1 j2 : Jp} {r r1 r2 : Rp} {E E1 E2 : EE} {X Y a n m k c s c2 s2 : Nat} {Q : Option PV → Mem → Prop} {x : Int32}
theorem nwKx {t : Nat} : mK (nw (mm h j r E) k n t) E.2.2.1 = k := if_pos rfl
theorem byV0 : (byV 0 = 0) = True := eq_true (by decide)
/-- a builder is made -/
theorem j_newSB (h2 : 2 ≤ E.2.2.1) (hA : E.2.2.1 + 1 < kA) (hQ : ∀ h' j' r' E', Gr E.2.2.1 2 20 h h' j j' r r' E E' → SBd E.2.2.1 E.2.2.1 0 h' r' E' → Q none (mm h' j' r' E')) : WP (d + 2) 168 0 [some (vr E.2.2.1)] [] (nw (mm h j r E) 0 0 4) Q := by
  have k1 : (up1 E.1 E.2.2.1 0 E.2.2.1 < 13) = True := eq_true (by rw [up1_s]; decide)
  have k2 : up1 E.1 E.2.2.1 0 E.2.2.1 = 0 := up1_s
  have k3 : up1 (up1 E.1 E.2.2.1 0) (E.2.2.1 + 1) 18 E.2.2.1 = 0 := by rw [up1_n (by omega), up1_s]
  have p2 : ((16 : Int32) < 0) = False := eq_false (by decide)
  have p3 : ix (16 : Int32) = 16 := rfl
  have p4 : ((16 : Nat) ≤ 100000) = True := eq_true (by decide)
  rw [mm_nw]
  simp only [k168_0, k168_1, k168_3, k168_6, k147_0, k147_1, k147_4, k147_7, k147_10, k147_11, k147_12, k147_14, k147_17, k147_18, k147_19, k147_22, k147_25, k147_26, k147_30, k147_33, k147_34, k147_35, k147_38, mm_sI, mm_sJ, mm_sR, mm_cI, mm_cJ, mm_I, mm_J, mm_R, mm_K, mm_N, psh_s, psh_n, z_n, z_i, z_r, z_l, Nat.reduceAdd, Nat.reduceLeDiff, false_or, or_false, ne_eq, true_or, or_true, not_false_eq_true, Nat.reduceEqDiff, Nat.reduceLT, Nat.reduceLeDiff, Nat.reduceAdd, and_self, and_true, true_and, eq_self, k1, k2, e10, if_false, p2, p3, p4, mm_nw, mm_X, k3, byV0]
  have hz := kAv
  refine hQ _ _ _ _ ⟨by show E.2.2.1 ≤ E.2.2.1 + 1 + 1; omega, Nat.le_refl _, Nat.le_refl _, fun b hb => ?_⟩ ⟨h2, Nat.le_refl _, by show E.2.2.1 < E.2.2.1 + 1 + 1; omega, ?_, ?_, ?_, k3, up2_s, ?_, ?_, ?_, ?_⟩
  · have b1 : b ≠ E.2.2.1 := by omega
    have b2 : b ≠ E.2.2.1 + 1 := by omega
    exact ⟨by rw [up2_a b1, zr_n b2, zr_n b1], by rw [zr_n b2, zr_n b1], by rw [up2_a b1, zr_n b2, zr_n b1], by show up1 (up1 E.1 E.2.2.1 0) (E.2.2.1 + 1) 18 b = _; rw [up1_n b2, up1_n b1], by show up1 (up1 E.2.1 E.2.2.1 0) (E.2.2.1 + 1) 16 b = _; rw [up1_n b2, up1_n b1]⟩
  · rw [up2_s]; omega
  · rw [up2_s]; show E.2.2.1 + 1 < E.2.2.1 + 1 + 1; omega
  · rw [up2_s]; omega
  · rw [up2_i (by decide), zr_n (by omega)]; exact if_pos rfl
  · rw [up2_s]; exact up1_s
  · exact Nat.zero_le _
  · rw [up2_s]; show up1 (up1 E.2.1 E.2.2.1 0) (E.2.2.1 + 1) 16 (E.2.2.1 + 1) ≤ 402; rw [up1_s]; decide
theorem j_appS (B : SBd X a n h r E) (T : Str s m h r E) (hA : E.2.2.1 < kA) (hnm : n + m ≤ 200) (hQ : ∀ h' j' r' E', Gr X 1 402 h h' j j' r r' E E' → SBd X a (n + m) h' r' E' → Q (some (vr a)) (mm h' j' r' E')) : WP (d + 4) 169 0 [some (vr a), some (vr s)] [] (mm h j r E) Q := by
  have k0 : E.1 a = 0 := B.2.2.2.2.2.2.1
  have w2 : (2 ≤ a) = True := eq_true (by have := B.1; have := B.2.1; omega)
  simp only [k169_0, k169_1, k169_2, k169_5, k169_5i, k169_6, k169_7, mm_sI, mm_sJ, mm_sR, mm_cI, mm_cJ, mm_I, mm_J, mm_R, mm_K, mm_N, psh_s, psh_n, z_n, z_i, z_r, z_l, Nat.reduceAdd, Nat.reduceLeDiff, false_or, or_false, ne_eq, true_or, or_true, not_false_eq_true, Nat.reduceEqDiff, Nat.reduceLT, Nat.reduceLeDiff, Nat.reduceAdd, k0]
  refine j_app B T hA hnm ?_
  intro h1 j1 r1 E1 G1 B1
  simp only [k169_0, k169_1, k169_2, k169_5, k169_5i, k169_6, k169_7, mm_sI, mm_sJ, mm_sR, mm_cI, mm_cJ, mm_I, mm_J, mm_R, mm_K, mm_N, psh_s, psh_n, z_n, z_i, z_r, z_l, Nat.reduceAdd, Nat.reduceLeDiff, false_or, or_false, ne_eq, true_or, or_true, not_false_eq_true, Nat.reduceEqDiff, Nat.reduceLT, Nat.reduceLeDiff, Nat.reduceAdd, w2]
  exact hQ h1 j1 r1 E1 G1 B1
theorem s_isL (B : SBd X a n h r E) : WP d 155 0 [some (vr a)] [] (mm h j r E) Q = Q (some (vi 1)) (mm h j r E) := by
  obtain ⟨t0, t1, t2, t3, t4, t5, t6, t7, t8, t9, t10, t11⟩ := id B
  simp only [k155_0, k155_3, k155_6, k155_7, k155_10, k155_13, k155_14, k155_17, k155_18, mm_sI, mm_sJ, mm_sR, mm_cI, mm_cJ, mm_I, mm_J, mm_R, mm_K, mm_N, psh_s, psh_n, z_n, z_i, z_r, z_l, Nat.reduceAdd, Nat.reduceLeDiff, false_or, or_false, ne_eq, true_or, or_true, not_false_eq_true, Nat.reduceEqDiff, Nat.reduceLT, Nat.reduceLeDiff, Nat.reduceAdd, and_self, and_true, true_and, eq_self, t6, t7, e10, if_false, if_true]
theorem s_canE (hx : x ≤ 255) : WP d 175 0 [some (vi x)] [] M Q = Q (some (vi 1)) M := by
  have p : ((255 : Int32) < x) = False := eq_false (Int32.not_lt.2 hx)
  simp only [k175_0, k175_1, k175_4, k175_7, k175_8, k175_11, k175_12, mm_sI, mm_sJ, mm_sR, mm_cI, mm_cJ, mm_I, mm_J, mm_R, mm_K, mm_N, psh_s, psh_n, z_n, z_i, z_r, z_l, Nat.reduceAdd, Nat.reduceLeDiff, false_or, or_false, ne_eq, true_or, or_true, not_false_eq_true, Nat.reduceEqDiff, Nat.reduceLT, Nat.reduceLeDiff, Nat.reduceAdd, p, if_false]
theorem in255 (hx : inb x 256) : x ≤ 255 := by
  rw [iLe]; have := inb_i hx; rw [show (255 : Int32).toInt = 255 from rfl]; omega
/-- a byte put behind what a builder holds -/
theorem j_appC (B : SBd X a n h r E) (hx : inb x 256) (hA : E.2.2.1 < kA) (hn : n + 1 ≤ 200) (hQ : ∀ h' j' r' E', Gr X 1 402 h h' j j' r r' E E' → SBd X a (n + 1) h' r' E' → Q (some (vr a)) (mm h' j' r' E')) : WP (d + 4) 170 0 [some (vr a), some (vi x)] [] (mm h j r E) Q := by
  obtain ⟨t0, t1, t2, t3, t4, t5, t6, t7, t8, t9, t10, t11⟩ := id B
  have w2 : (2 ≤ a) = True := eq_true (by omega)
  simp only [k170_0, k170_1, k170_2, k170_5, k170_5i, k170_6, k170_7, k152_0, k152_1, k152_2, k152_5, k152_6, k152_7, k152_10, k152_11, k152_14, k152_17, k152_18, k152_21, k152_24, k152_25, k152_28, k152_29, k152_29i, k152_30, k152_33, k152_34, k152_35, k152_36, k152_39, k152_40, k152_41, k152_42, k152_45, k152_46, k152_49, k152_52, k152_56, k152_57, k152_60, k152_61, k152_61i, k152_62, k152_65, k152_66, k152_67, k152_68, k152_71, k152_75, k152_76, mm_sI, mm_sJ, mm_sR, mm_cI, mm_cJ, mm_I, mm_J, mm_R, mm_K, mm_N, psh_s, psh_n, z_n, z_i, z_r, z_l, Nat.reduceAdd, Nat.reduceLeDiff, false_or, or_false, ne_eq, true_or, or_true, not_false_eq_true, Nat.reduceEqDiff, Nat.reduceLT, Nat.reduceLeDiff, Nat.reduceAdd, and_self, and_true, true_and, eq_self, t6, t8, nS1]
  refine j_ens B hA hn ?_
  intro h1 j1 r1 E1 G1 B1 hc1 _
  obtain ⟨t0, t1, t2, t3, t4, t5, t6, t7, t8, t9, t10, t11⟩ := id B1
  have hb : inb (nI n) (E1.2.1 (r1 a 0)) := by rw [inb_n (by omega)]; omega
  have xn : ix (nI n) = n := ix_n (by omega)
  simp only [k170_0, k170_1, k170_2, k170_5, k170_5i, k170_6, k170_7, k152_0, k152_1, k152_2, k152_5, k152_6, k152_7, k152_10, k152_11, k152_14, k152_17, k152_18, k152_21, k152_24, k152_25, k152_28, k152_29, k152_29i, k152_30, k152_33, k152_34, k152_35, k152_36, k152_39, k152_40, k152_42, k152_45, k152_46, k152_49, k152_52, k152_56, k152_57, k152_60, k152_61, k152_61i, k152_62, k152_65, k152_66, k152_67, k152_68, k152_71, k152_75, k152_76, mm_sI, mm_sJ, mm_sR, mm_cI, mm_cJ, mm_I, mm_J, mm_R, mm_K, mm_N, psh_s, psh_n, z_n, z_i, z_r, z_l, Nat.reduceAdd, Nat.reduceLeDiff, false_or, or_false, ne_eq, true_or, or_true, not_false_eq_true, Nat.reduceEqDiff, Nat.reduceLT, Nat.reduceLeDiff, Nat.reduceAdd, and_self, and_true, true_and, eq_self, t6, t8, t9, s_isL B1, s_canE (in255 hx), e10, if_false, nS1]
  have c1 : mK (mm (up2 h1 a 3 (nI (n + 1))) j1 r1 E1) (r1 a 0) = 18 := t9
  have c2 : inb (nI n) (mN (mm (up2 h1 a 3 (nI (n + 1))) j1 r1 E1) (r1 a 0)) := hb
  rw [k152_41 c1 c2]
  simp only [k170_0, k170_1, k170_2, k170_5, k170_5i, k170_6, k170_7, k152_0, k152_1, k152_2, k152_5, k152_6, k152_7, k152_10, k152_11, k152_14, k152_17, k152_18, k152_21, k152_24, k152_25, k152_28, k152_29, k152_29i, k152_30, k152_33, k152_34, k152_35, k152_36, k152_39, k152_40, k152_42, k152_45, k152_46, k152_49, k152_52, k152_56, k152_57, k152_60, k152_61, k152_61i, k152_62, k152_65, k152_66, k152_67, k152_68, k152_71, k152_75, k152_76, mm_sI, mm_sJ, mm_sR, mm_cI, mm_cJ, mm_I, mm_J, mm_R, mm_K, mm_N, psh_s, psh_n, z_n, z_i, z_r, z_l, Nat.reduceAdd, Nat.reduceLeDiff, false_or, or_false, ne_eq, true_or, or_true, not_false_eq_true, Nat.reduceEqDiff, Nat.reduceLT, Nat.reduceLeDiff, Nat.reduceAdd, and_self, and_true, true_and, eq_self, xn, w2]
  refine hQ _ _ _ _ ?_ ⟨t0, t1, t2, t3, t4, t5, t6, ?_, ?_, t9, hc1, t11⟩
  · refine Gr.tr (c2 := 0) (s2 := 0) G1 ⟨Nat.le_refl _, Nat.le_refl _, Nat.le_refl _, fun b hb => ?_⟩
    have hz := kAv
    have hA1 : E1.2.2.1 ≤ kA := by have := G1.2.1; omega
    exact ⟨by rw [up2_a (by omega), up2_a (by omega)], rfl, rfl, rfl, rfl⟩
  · rw [up2_a (Ne.symm t5), up2_i (by decide)]; exact t7
  · rw [up2_a (Ne.symm t5), up2_s]
theorem mn10 {v : Nat} (hv : v < 100) : (-(nI v) ≤ (-10 : Int32)) = (10 ≤ v) := by
  rw [iLe, Int32.toInt_neg, nI_toInt (by omega), show (-10 : Int32).toInt = -10 from rfl, Int.bmod_eq_of_le (by omega) (by omega)]
  apply propext; omega
theorem mn100 {v : Nat} (hv : v < 100) : (-(nI v) ≤ (-100 : Int32)) = False := by
  rw [iLe, Int32.toInt_neg, nI_toInt (by omega), show (-100 : Int32).toInt = -100 from rfl, Int.bmod_eq_of_le (by omega) (by omega)]
  apply eq_false; omega
theorem mn100' {v : Nat} (hv : v < 100) : ((-100 : Int32) < -(nI v)) = True := by
  rw [iLt, show (-100 : Int32).toInt = -100 from rfl, Int32.toInt_neg, nI_toInt (by omega), Int.bmod_eq_of_le (by omega) (by omega)]
  apply eq_true; omega
theorem mn9 {v : Nat} (hv : v < 100) : ((-9 : Int32) ≤ -(nI v)) = (v ≤ 9) := by
  rw [iLe, show (-9 : Int32).toInt = -9 from rfl, Int32.toInt_neg, nI_toInt (by omega), Int.bmod_eq_of_le (by omega) (by omega)]
  apply propext; omega
def wid (v : Nat) : Nat := if 10 ≤ v then 2 else 1
theorem s_stringSize {v : Nat} (hv : v < 100) : WP d 159 0 [some (vi (nI v)), none, none, none] [] M Q = Q (some (vi (nI (wid v)))) M := by
  have p1 : (nI v < 0) = False := eq_false (nI_pos (by omega))
  have p2 : ((10 : Int32) ≤ 1) = False := eq_false (by decide)
  have p3 : ((10 : Int32) ≤ 2) = False := eq_false (by decide)
  have p4 : (10 : Int32) * -10 = -100 := by decide
  have p5 : (1 : Int32) + 1 = 2 := by decide
  have p6 : (1 : Int32) + 0 = 1 := by decide
  have p7 : (2 : Int32) + 0 = 2 := by decide
  unfold wid
  simp only [k159_0, k159_1, k159_2, k159_3, k159_6, k159_7, k159_8, k159_9, k159_10, k159_11, k159_13, k159_14, k159_15, k159_17, k159_19, k159_22, k159_23, k159_24, k159_27, k159_28, k159_29, k159_30, k159_31, k159_33, k159_34, k159_35, k159_36, k159_39, k159_42, k159_44, k159_45, k159_46, mm_sI, mm_sJ, mm_sR, mm_cI, mm_cJ, mm_I, mm_J, mm_R, mm_K, mm_N, psh_s, psh_n, z_n, z_i, z_r, z_l, Nat.reduceAdd, Nat.reduceLeDiff, false_or, or_false, ne_eq, true_or, or_true, not_false_eq_true, Nat.reduceEqDiff, Nat.reduceLT, Nat.reduceLeDiff, Nat.reduceAdd, p1, if_false]
  rw [k159_16]
  simp only [k159_0, k159_1, k159_2, k159_3, k159_6, k159_7, k159_8, k159_9, k159_10, k159_11, k159_13, k159_14, k159_15, k159_17, k159_19, k159_22, k159_23, k159_24, k159_27, k159_28, k159_29, k159_30, k159_31, k159_33, k159_34, k159_35, k159_36, k159_39, k159_42, k159_44, k159_45, k159_46, mm_sI, mm_sJ, mm_sR, mm_cI, mm_cJ, mm_I, mm_J, mm_R, mm_K, mm_N, psh_s, psh_n, z_n, z_i, z_r, z_l, Nat.reduceAdd, Nat.reduceLeDiff, false_or, or_false, ne_eq, true_or, or_true, not_false_eq_true, Nat.reduceEqDiff, Nat.reduceLT, Nat.reduceLeDiff, Nat.reduceAdd, p2, if_false]
  by_cases q : 10 ≤ v
  · rw [if_pos (show -nI v ≤ -10 by rw [mn10 hv]; exact q), if_pos q]
    simp only [k159_0, k159_1, k159_2, k159_3, k159_6, k159_7, k159_8, k159_9, k159_10, k159_11, k159_13, k159_14, k159_15, k159_17, k159_19, k159_22, k159_23, k159_24, k159_27, k159_28, k159_29, k159_30, k159_31, k159_33, k159_34, k159_35, k159_36, k159_39, k159_42, k159_44, k159_45, k159_46, mm_sI, mm_sJ, mm_sR, mm_cI, mm_cJ, mm_I, mm_J, mm_R, mm_K, mm_N, psh_s, psh_n, z_n, z_i, z_r, z_l, Nat.reduceAdd, Nat.reduceLeDiff, false_or, or_false, ne_eq, true_or, or_true, not_false_eq_true, Nat.reduceEqDiff, Nat.reduceLT, Nat.reduceLeDiff, Nat.reduceAdd, p4, p5]
    rw [k159_16]
    simp only [k159_0, k159_1, k159_2, k159_3, k159_6, k159_7, k159_8, k159_9, k159_10, k159_11, k159_13, k159_14, k159_15, k159_17, k159_19, k159_22, k159_23, k159_24, k159_27, k159_28, k159_29, k159_30, k159_31, k159_33, k159_34, k159_35, k159_36, k159_39, k159_42, k159_44, k159_45, k159_46, mm_sI, mm_sJ, mm_sR, mm_cI, mm_cJ, mm_I, mm_J, mm_R, mm_K, mm_N, psh_s, psh_n, z_n, z_i, z_r, z_l, Nat.reduceAdd, Nat.reduceLeDiff, false_or, or_false, ne_eq, true_or, or_true, not_false_eq_true, Nat.reduceEqDiff, Nat.reduceLT, Nat.reduceLeDiff, Nat.reduceAdd, p3, if_false]
    rw [if_neg (show ¬ -nI v ≤ -100 by rw [mn100 hv]; exact id)]
    simp only [k159_0, k159_1, k159_2, k159_3, k159_6, k159_7, k159_8, k159_9, k159_10, k159_11, k159_13, k159_14, k159_15, k159_17, k159_19, k159_22, k159_23, k159_24, k159_27, k159_28, k159_29, k159_30, k159_31, k159_33, k159_34, k159_35, k159_36, k159_39, k159_42, k159_44, k159_45, k159_46, mm_sI, mm_sJ, mm_sR, mm_cI, mm_cJ, mm_I, mm_J, mm_R, mm_K, mm_N, psh_s, psh_n, z_n, z_i, z_r, z_l, Nat.reduceAdd, Nat.reduceLeDiff, false_or, or_false, ne_eq, true_or, or_true, not_false_eq_true, Nat.reduceEqDiff, Nat.reduceLT, Nat.reduceLeDiff, Nat.reduceAdd, p7]; rfl
  · rw [if_neg (show ¬ -nI v ≤ -10 by rw [mn10 hv]; exact q), if_neg q]
    simp only [k159_0, k159_1, k159_2, k159_3, k159_6, k159_7, k159_8, k159_9, k159_10, k159_11, k159_13, k159_14, k159_15, k159_17, k159_19, k159_22, k159_23, k159_24, k159_27, k159_28, k159_29, k159_30, k159_31, k159_33, k159_34, k159_35, k159_36, k159_39, k159_42, k159_44, k159_45, k159_46, mm_sI, mm_sJ, mm_sR, mm_cI, mm_cJ, mm_I, mm_J, mm_R, mm_K, mm_N, psh_s, psh_n, z_n, z_i, z_r, z_l, Nat.reduceAdd, Nat.reduceLeDiff, false_or, or_false, ne_eq, true_or, or_true, not_false_eq_true, Nat.reduceEqDiff, Nat.reduceLT, Nat.reduceLeDiff, Nat.reduceAdd, p6]; rfl
theorem nPm {e : Nat} (h : e + 1 < 2 ^ 31) : nI (e + 1) + -1 = nI e := by
  rw [iEq, addI (by rw [nI_toInt h, show (-1 : Int32).toInt = -1 from rfl]; omega) (by rw [nI_toInt h, show (-1 : Int32).toInt = -1 from rfl]; omega), nI_toInt h, nI_toInt (by omega), show (-1 : Int32).toInt = -1 from rfl]; omega
/-- a small number's digits -/
theorem j_getChars {v e b len : Nat} (H : HCo φ h r E) (hv : v < 100) (he : wid v ≤ e) (hl : e ≤ len) (h4 : len ≤ 402) (hk : E.1 b = 18) (hn : E.2.1 b = len) (hb : b < kA) (hQ : ∀ h' y, (∀ c, c ≠ b → h' c = h c) → Q (some (vi y)) (mm h' j r E)) : WP d 158 0 [some (vi (nI v)), some (vi (nI e)), some (vr b), none, none, none, none] [] (mm h j r E) Q := by
  have g1 : E.1 1000040 = 19 := (H 40).1
  have g2 : E.2.1 1000040 = 100 := (H 40).2.1
  have g3 : E.1 1000041 = 19 := (H 41).1
  have g4 : E.2.1 1000041 = 100 := (H 41).2.1
  have p0 : ((0 : Int32) ≤ nI v) = True := eq_true (nI_pos' (by omega))
  have p1 : (nI v < 0) = False := eq_false (nI_pos (by omega))
  have p2 : ix (nI v) = v := ix_n (by omega)
  have p3 : inb (nI v) 100 = True := eq_true (by rw [inb_n (by omega)]; exact hv)
  have n2 : - - nI v = nI v := by rw [iEq]; simp
  have hz := kAv
  have b1 : (1000040 = b) = False := by apply eq_false; omega
  have b2 : (1000041 = b) = False := by apply eq_false; omega
  obtain ⟨e, rfl⟩ : ∃ e', e = e' + 1 := ⟨e - 1, by unfold wid at he; split at he <;> omega⟩
  have m1 : nI (e + 1) + -1 = nI e := nPm (by omega)
  have q1 : (nI e < 0) = False := eq_false (nI_pos (by omega))
  have q2 : ix (nI e) = e := ix_n (by omega)
  have q3 : inb (nI e) len = True := eq_true (by rw [inb_n (by omega)]; omega)
  by_cases c9 : v ≤ 9
  · simp only [k158_0, k158_1, k158_3, k158_4, k158_7, k158_8, k158_11, k158_12, k158_14, k158_16, k158_19, k158_20, k158_21, k158_23, k158_25, k158_28, k158_29, k158_31, k158_32, k158_33, k158_34, k158_36, k158_37, k158_38, k158_39, k158_41, k158_42, k158_43, k158_44, k158_47, k158_49, k158_52, k158_54, k158_55, k158_56, k158_57, k158_60, k158_62, k158_65, k158_67, k158_68, k158_69, k158_72, k158_73, k158_76, k158_78, k158_81, k158_82, k158_83, k158_84, k158_85, k158_86, k158_88, k158_91, k158_92, k158_95, k158_97, k158_100, k158_101, k158_102, k158_103, k158_104, k158_106, k158_109, k158_110, k158_113, k158_115, k158_117, k158_118, k158_120, mm_sI, mm_sJ, mm_sR, mm_cI, mm_cJ, mm_I, mm_J, mm_R, mm_K, mm_N, psh_s, psh_n, z_n, z_i, z_r, z_l, Nat.reduceAdd, Nat.reduceLeDiff, false_or, or_false, ne_eq, true_or, or_true, not_false_eq_true, Nat.reduceEqDiff, Nat.reduceLT, Nat.reduceLeDiff, Nat.reduceAdd, and_self, and_true, true_and, eq_self, p0, if_true, e10, if_false, mn100' hv, mn9 hv, c9]
    rw [k158_22]
    simp only [k158_0, k158_1, k158_3, k158_4, k158_7, k158_8, k158_11, k158_12, k158_14, k158_16, k158_19, k158_20, k158_21, k158_23, k158_25, k158_28, k158_29, k158_31, k158_32, k158_33, k158_34, k158_36, k158_37, k158_38, k158_39, k158_41, k158_42, k158_43, k158_44, k158_47, k158_49, k158_52, k158_54, k158_55, k158_56, k158_57, k158_60, k158_62, k158_65, k158_67, k158_68, k158_69, k158_72, k158_73, k158_76, k158_78, k158_81, k158_82, k158_83, k158_84, k158_85, k158_86, k158_88, k158_91, k158_92, k158_95, k158_97, k158_100, k158_101, k158_102, k158_103, k158_104, k158_106, k158_109, k158_110, k158_113, k158_115, k158_117, k158_118, k158_120, mm_sI, mm_sJ, mm_sR, mm_cI, mm_cJ, mm_I, mm_J, mm_R, mm_K, mm_N, psh_s, psh_n, z_n, z_i, z_r, z_l, Nat.reduceAdd, Nat.reduceLeDiff, false_or, or_false, ne_eq, true_or, or_true, not_false_eq_true, Nat.reduceEqDiff, Nat.reduceLT, Nat.reduceLeDiff, Nat.reduceAdd, and_self, and_true, true_and, eq_self, if_true, e10, if_false, mn100' hv, mn9 hv, c9, g1, g2, n2, p1, p2, p3, m1, hk, hn, q1, q2, q3]
    exact hQ _ _ (fun c hc => up2_a hc)
  · have hw : wid v = 2 := if_pos (by omega)
    obtain ⟨e, rfl⟩ : ∃ e', e = e' + 1 := ⟨e - 1, by omega⟩
    have m2 : nI (e + 1) + -1 = nI e := nPm (by omega)
    have r1 : (nI e < 0) = False := eq_false (nI_pos (by omega))
    have r2 : ix (nI e) = e := ix_n (by omega)
    have r3 : inb (nI e) len = True := eq_true (by rw [inb_n (by omega)]; omega)
    simp only [k158_0, k158_1, k158_3, k158_4, k158_7, k158_8, k158_11, k158_12, k158_14, k158_16, k158_19, k158_20, k158_21, k158_23, k158_25, k158_28, k158_29, k158_31, k158_32, k158_33, k158_34, k158_36, k158_37, k158_38, k158_39, k158_41, k158_42, k158_43, k158_44, k158_47, k158_49, k158_52, k158_54, k158_55, k158_56, k158_57, k158_60, k158_62, k158_65, k158_67, k158_68, k158_69, k158_72, k158_73, k158_76, k158_78, k158_81, k158_82, k158_83, k158_84, k158_85, k158_86, k158_88, k158_91, k158_92, k158_95, k158_97, k158_100, k158_101, k158_102, k158_103, k158_104, k158_106, k158_109, k158_110, k158_113, k158_115, k158_117, k158_118, k158_120, mm_sI, mm_sJ, mm_sR, mm_cI, mm_cJ, mm_I, mm_J, mm_R, mm_K, mm_N, psh_s, psh_n, z_n, z_i, z_r, z_l, Nat.reduceAdd, Nat.reduceLeDiff, false_or, or_false, ne_eq, true_or, or_true, not_false_eq_true, Nat.reduceEqDiff, Nat.reduceLT, Nat.reduceLeDiff, Nat.reduceAdd, and_self, and_true, true_and, eq_self, p0, if_true, e10, if_false, mn100' hv, mn9 hv, c9]
    rw [k158_22]
    simp only [k158_0, k158_1, k158_3, k158_4, k158_7, k158_8, k158_11, k158_12, k158_14, k158_16, k158_19, k158_20, k158_21, k158_23, k158_25, k158_28, k158_29, k158_31, k158_32, k158_33, k158_34, k158_36, k158_37, k158_38, k158_39, k158_41, k158_42, k158_43, k158_44, k158_47, k158_49, k158_52, k158_54, k158_55, k158_56, k158_57, k158_60, k158_62, k158_65, k158_67, k158_68, k158_69, k158_72, k158_73, k158_76, k158_78, k158_81, k158_82, k158_83, k158_84, k158_85, k158_86, k158_88, k158_91, k158_92, k158_95, k158_97, k158_100, k158_101, k158_102, k158_103, k158_104, k158_106, k158_109, k158_110, k158_113, k158_115, k158_117, k158_118, k158_120, mm_sI, mm_sJ, mm_sR, mm_cI, mm_cJ, mm_I, mm_J, mm_R, mm_K, mm_N, psh_s, psh_n, z_n, z_i, z_r, z_l, Nat.reduceAdd, Nat.reduceLeDiff, false_or, or_false, ne_eq, true_or, or_true, not_false_eq_true, Nat.reduceEqDiff, Nat.reduceLT, Nat.reduceLeDiff, Nat.reduceAdd, and_self, and_true, true_and, eq_self, if_true, e10, if_false, mn100' hv, mn9 hv, c9, g1, g2, g3, g4, n2, p1, p2, p3, m1, hk, hn, q1, q2, q3, m2, r1, r2, r3]
    exact hQ _ _ (fun c hc => by rw [up2_a hc, up2_a hc])
end SU
