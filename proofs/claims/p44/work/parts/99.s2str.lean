/-! ===== numbers put behind, strings out of builders, their bytes ===== -/
section SW
variable {d : Nat} {M : Mem} {φ : Int32} {h h0 h1 h2 : Hp} {j j1 j2 : Jp} {r r1 r2 : Rp} {E E1 E2 : EE} {X Y a n m k c s c2 s2 : Nat} {Q : Option PV → Mem → Prop} {x : Int32}
/-- a small number put behind what a builder holds -/
theorem j_appI {v : Nat} (H : HCo φ h r E) (B : SBd X a n h r E) (hv : v < 100) (hA : E.2.2.1 + 1 < kA) (hnm : n + 2 ≤ 200) (hQ : ∀ h' j' r' E', Gr X 1 402 h h' j j' r r' E E' → SBd X a (n + wid v) h' r' E' → Q (some (vr a)) (mm h' j' r' E')) : WP (d + 4) 171 0 [some (vr a), some (vi (nI v))] [] (mm h j r E) Q := by
  obtain ⟨t0, t1, t2, t3, t4, t5, t6, t7, t8, t9, t10, t11⟩ := id B
  have w2 : (2 ≤ a) = True := eq_true (by omega)
  have hw : wid v ≤ 2 := by unfold wid; split <;> omega
  have e1 : nI n + nI (wid v) = nI (n + wid v) := nI_add _ _
  simp only [k171_0, k171_1, k171_2, k171_5, k171_5i, k171_6, k171_7, k153_0, k153_1, k153_4, k153_5, k153_6, k153_7, k153_10, k153_11, k153_12, k153_13, k153_14, k153_17, k153_18, k153_21, k153_24, k153_25, k153_26, k153_27, k153_30, k153_33, k153_33i, k153_34, k153_37, k153_38, k153_39, k153_40, k153_41, k153_47, k153_47i, k153_48, k153_49, k153_50, k153_53, k153_54, mm_sI, mm_sJ, mm_sR, mm_cI, mm_cJ, mm_I, mm_J, mm_R, mm_K, mm_N, psh_s, psh_n, z_n, z_i, z_r, z_l, Nat.reduceAdd, Nat.reduceLeDiff, false_or, or_false, ne_eq, true_or, or_true, not_false_eq_true, Nat.reduceEqDiff, Nat.reduceLT, Nat.reduceLeDiff, Nat.reduceAdd, and_self, and_true, true_and, eq_self, t6, t8, s_stringSize hv, e1]
  refine j_ens B (by omega) (show n + wid v ≤ 200 by omega) ?_
  intro h1 j1 r1 E1 G1 B1 hc1 _
  obtain ⟨t0, t1, t2, t3, t4, t5, t6, t7, t8, t9, t10, t11⟩ := id B1
  simp only [k171_0, k171_1, k171_2, k171_5, k171_5i, k171_6, k171_7, k153_0, k153_1, k153_4, k153_5, k153_6, k153_7, k153_10, k153_11, k153_12, k153_13, k153_14, k153_17, k153_18, k153_21, k153_24, k153_25, k153_26, k153_27, k153_30, k153_33, k153_33i, k153_34, k153_37, k153_38, k153_39, k153_40, k153_41, k153_47, k153_47i, k153_48, k153_49, k153_50, k153_53, k153_54, mm_sI, mm_sJ, mm_sR, mm_cI, mm_cJ, mm_I, mm_J, mm_R, mm_K, mm_N, psh_s, psh_n, z_n, z_i, z_r, z_l, Nat.reduceAdd, Nat.reduceLeDiff, false_or, or_false, ne_eq, true_or, or_true, not_false_eq_true, Nat.reduceEqDiff, Nat.reduceLT, Nat.reduceLeDiff, Nat.reduceAdd, and_self, and_true, true_and, eq_self, t6, t8, s_isL B1, e10, if_false]
  have hA1 : E1.2.2.1 < kA := by have := G1.2.1; omega
  refine j_getChars (H.gr G1) hv (by omega) hc1 t11 t9 rfl (by omega) ?_
  intro h2 y e2
  have ha : h2 a = h1 a := e2 a (Ne.symm t5)
  simp only [k171_0, k171_1, k171_2, k171_5, k171_5i, k171_6, k171_7, k153_0, k153_1, k153_4, k153_5, k153_6, k153_7, k153_10, k153_11, k153_12, k153_13, k153_14, k153_17, k153_18, k153_21, k153_24, k153_25, k153_26, k153_27, k153_30, k153_33, k153_33i, k153_34, k153_37, k153_38, k153_39, k153_40, k153_41, k153_47, k153_47i, k153_48, k153_49, k153_50, k153_53, k153_54, mm_sI, mm_sJ, mm_sR, mm_cI, mm_cJ, mm_I, mm_J, mm_R, mm_K, mm_N, psh_s, psh_n, z_n, z_i, z_r, z_l, Nat.reduceAdd, Nat.reduceLeDiff, false_or, or_false, ne_eq, true_or, or_true, not_false_eq_true, Nat.reduceEqDiff, Nat.reduceLT, Nat.reduceLeDiff, Nat.reduceAdd, and_self, and_true, true_and, eq_self, t6, w2]
  refine hQ _ _ _ _ ?_ ⟨t0, t1, t2, t3, t4, t5, t6, ?_, up2_s, t9, hc1, t11⟩
  · refine Gr.tr (c2 := 0) (s2 := 0) G1 ⟨Nat.le_refl _, Nat.le_refl _, Nat.le_refl _, fun b hb => ?_⟩
    have hz := kAv
    exact ⟨by rw [up2_a (by omega), e2 b (by omega)], rfl, rfl, rfl, rfl⟩
  · rw [up2_i (by decide), ha]; exact t7
theorem s_count (B : SBd X a n h r E) : WP (d + 1) 173 0 [some (vr a)] [] (mm h j r E) Q = Q (some (vi (nI n))) (mm h j r E) := by
  obtain ⟨t0, t1, t2, t3, t4, t5, t6, t7, t8, t9, t10, t11⟩ := id B
  simp only [k173_0, k173_1, k173_4, k148_0, k148_1, k148_4, mm_sI, mm_sJ, mm_sR, mm_cI, mm_cJ, mm_I, mm_J, mm_R, mm_K, mm_N, psh_s, psh_n, z_n, z_i, z_r, z_l, Nat.reduceAdd, Nat.reduceLeDiff, false_or, or_false, ne_eq, true_or, or_true, not_false_eq_true, Nat.reduceEqDiff, Nat.reduceLT, Nat.reduceLeDiff, Nat.reduceAdd, and_self, and_true, true_and, eq_self, t6, t8]
/-- n bytes of a row, in a row of their own -/
theorem j_copyR {b : Nat} (hk8 : E.1 b = 18) (hn : E.2.1 b = c) (hc : n ≤ c) (hc4 : c ≤ 402) (hb1 : b ≠ 1) (hbX : b < E.2.2.1) (hX : 2 ≤ E.2.2.1) (hA : E.2.2.1 < kA) (hQ : ∀ h' j' r' E', Gr E.2.2.1 1 402 h h' j j' r r' E E' → E'.2.2.1 = E.2.2.1 + 1 → E'.1 E.2.2.1 = 18 → E'.2.1 E.2.2.1 = n → Q (some (vr E.2.2.1)) (mm h' j' r' E')) : WP (d + 2) 178 0 [some (vr b), some (vi 0), some (vi (nI n))] [] (mm h j r E) Q := by
  have w2 : (2 ≤ E.2.2.1) = True := eq_true hX
  have hz := kAv
  by_cases q : n = c
  · have p1 : (nI n = nI c) = True := eq_true (by rw [q])
    simp only [k178_0, k178_1, k178_4, k178_5, k178_6, k178_7, k178_10, k178_11, k178_12, k178_13, k178_16, k178_17, k178_18, k178_21, k178_24, mm_sI, mm_sJ, mm_sR, mm_cI, mm_cJ, mm_I, mm_J, mm_R, mm_K, mm_N, psh_s, psh_n, z_n, z_i, z_r, z_l, Nat.reduceAdd, Nat.reduceLeDiff, false_or, or_false, ne_eq, true_or, or_true, not_false_eq_true, Nat.reduceEqDiff, Nat.reduceLT, Nat.reduceLeDiff, Nat.reduceAdd, and_self, and_true, true_and, eq_self, if_true, hk8, hn, ofN, p1, mm_nwc, mm_X, w2, up1_s]
    refine hQ _ _ _ _ (mm_wr ?_ ?_ ?_) ?_ ?_ ?_
    · intro e he
      have e1 : e ≠ E.2.2.1 := by omega
      exact ⟨funext fun i => if_neg e1, zr_n e1, zr_n e1, up1_n e1, up1_n e1⟩
    · rfl
    · show E.2.2.2 + c ≤ _; omega
    · rfl
    · exact up1_s
    · show up1 E.2.1 E.2.2.1 c E.2.2.1 = n; rw [up1_s, q]
  · have p1 : (nI n = nI c) = False := by rw [nEq (by omega) (by omega)]; exact eq_false q
    have p2 : ((nI n) < 0) = False := eq_false (nI_pos (by omega))
    have p3 : ix (nI n) = n := ix_n (by omega)
    have p4 : (n ≤ 100000) = True := eq_true (by omega)
    have p5 : ((0 : Int32) ≤ nI n) = True := eq_true (nI_pos' (by omega))
    have p6 : nI n - 0 = nI n := by rw [show (0 : Int32) = nI 0 from rfl, nSb (by omega) (by omega)]; rfl
    have p7 : nI c - 0 = nI c := by rw [show (0 : Int32) = nI 0 from rfl, nSb (by omega) (by omega)]; rfl
    have e1 : (if nI n < nI c then nI n else nI c) = nI n := by rw [if_pos]; rw [nLt (by omega) (by omega)]; omega
    have k1 : up1 E.1 E.2.2.1 18 b = 18 := by rw [up1_n (by omega)]; exact hk8
    have k2 : up1 E.2.1 E.2.2.1 n b = c := by rw [up1_n (by omega)]; exact hn
    simp only [k178_0, k178_1, k178_4, k178_5, k178_6, k178_7, k178_10, k178_11, k178_12, k178_13, k178_16, k178_17, k178_18, k178_21, k178_24, k179_0, k179_1, k179_2, k179_5, k179_6, k179_7, k179_8, k179_9, k179_10, k179_12, k179_14, k179_15, k179_16, k179_18, k179_19, k179_20, k179_21, k179_22, k179_23, k179_24, k179_30, k179_32, k177_0, k177_1, k177_2, k177_8, k177_8i, k177_12, k177_12i, k177_16, k177_26, k177_37, mm_sI, mm_sJ, mm_sR, mm_cI, mm_cJ, mm_I, mm_J, mm_R, mm_K, mm_N, psh_s, psh_n, z_n, z_i, z_r, z_l, Nat.reduceAdd, Nat.reduceLeDiff, false_or, or_false, ne_eq, true_or, or_true, not_false_eq_true, Nat.reduceEqDiff, Nat.reduceLT, Nat.reduceLeDiff, Nat.reduceAdd, and_self, and_true, true_and, eq_self, if_true, if_false, hk8, hn, ofN, p1, p2, p3, p4, p5, p6, p7, e1, mm_nw, mm_X, k1, k2]
    have c0 : ¬ (0 : Int32) < 0 ∧ ¬ (0 : Int32) < 0 ∧ ¬ nI n < 0 ∧ ix 0 + ix (nI n) ≤ mN (mm (zr 0 h E.2.2.1) (zr 0 j E.2.2.1) (zr 0 r E.2.2.1) (up1 E.1 E.2.2.1 18, up1 E.2.1 E.2.2.1 n, E.2.2.1 + 1, E.2.2.2 + n)) b ∧ ix 0 + ix (nI n) ≤ mN (mm (zr 0 h E.2.2.1) (zr 0 j E.2.2.1) (zr 0 r E.2.2.1) (up1 E.1 E.2.2.1 18, up1 E.2.1 E.2.2.1 n, E.2.2.1 + 1, E.2.2.2 + n)) E.2.2.1 ∧ E.2.2.1 ≠ 1 ∧ b ≠ 1 := by
      refine ⟨by decide, by decide, nI_pos (by omega), ?_, ?_, by omega, hb1⟩
      · show 0 + ix (nI n) ≤ up1 E.2.1 E.2.2.1 n b; rw [p3, k2]; omega
      · show 0 + ix (nI n) ≤ up1 E.2.1 E.2.2.1 n E.2.2.1; rw [p3, up1_s]; omega
    have c1 : mK (mm (zr 0 h E.2.2.1) (zr 0 j E.2.2.1) (zr 0 r E.2.2.1) (up1 E.1 E.2.2.1 18, up1 E.2.1 E.2.2.1 n, E.2.2.1 + 1, E.2.2.2 + n)) E.2.2.1 = 18 := up1_s
    have c2 : mK (mm (zr 0 h E.2.2.1) (zr 0 j E.2.2.1) (zr 0 r E.2.2.1) (up1 E.1 E.2.2.1 18, up1 E.2.1 E.2.2.1 n, E.2.2.1 + 1, E.2.2.2 + n)) b = 18 ∨ mK (mm (zr 0 h E.2.2.1) (zr 0 j E.2.2.1) (zr 0 r E.2.2.1) (up1 E.1 E.2.2.1 18, up1 E.2.1 E.2.2.1 n, E.2.2.1 + 1, E.2.2.2 + n)) b = 19 := Or.inl k1
    rw [k179_27b (by rw [z_n]; decide) c0 c1 c2]
    simp only [k178_0, k178_1, k178_4, k178_5, k178_6, k178_7, k178_10, k178_11, k178_12, k178_13, k178_16, k178_17, k178_18, k178_21, k178_24, k179_0, k179_1, k179_2, k179_5, k179_6, k179_7, k179_8, k179_9, k179_10, k179_12, k179_14, k179_15, k179_16, k179_18, k179_19, k179_20, k179_21, k179_22, k179_23, k179_24, k179_30, k179_32, mm_sI, mm_sJ, mm_sR, mm_cI, mm_cJ, mm_I, mm_J, mm_R, mm_K, mm_N, psh_s, psh_n, z_n, z_i, z_r, z_l, Nat.reduceAdd, Nat.reduceLeDiff, false_or, or_false, ne_eq, true_or, or_true, not_false_eq_true, Nat.reduceEqDiff, Nat.reduceLT, Nat.reduceLeDiff, Nat.reduceAdd, and_self, and_true, true_and, eq_self, w2]
    refine hQ _ _ _ _ (mm_wr ?_ rfl ?_) rfl up1_s (up1_s (f := E.2.1) (a := E.2.2.1) (v := n))
    · intro e he
      have e1 : e ≠ E.2.2.1 := by omega
      exact ⟨by rw [cpy_n e1, zr_n e1], zr_n e1, zr_n e1, up1_n e1, up1_n e1⟩
    · show E.2.2.2 + n ≤ _; omega
/-- a string out of a builder -/
theorem j_toS (B : SBd X a n h r E) (hA : E.2.2.1 + 1 < kA) (hQ : ∀ h' j' r' E', Gr E.2.2.1 2 406 h h' j j' r r' E E' → Str E.2.2.1 n h' r' E' → Q (some (vr E.2.2.1)) (mm h' j' r' E')) : WP (d + 5) 172 0 [some (vr a)] [] (mm h j r E) Q := by
  obtain ⟨t0, t1, t2, t3, t4, t5, t6, t7, t8, t9, t10, t11⟩ := id B
  have hz := kAv
  have w2 : (2 ≤ E.2.2.1) = True := eq_true (by omega)
  have k1 : (up1 E.1 E.2.2.1 1 E.2.2.1 < 13) = True := eq_true (by rw [up1_s]; decide)
  have k2 : up1 E.1 E.2.2.1 1 E.2.2.1 = 1 := up1_s
  have g0 : Gr E.2.2.1 1 4 h (zr 0 h E.2.2.1) j (zr 0 j E.2.2.1) r (zr 0 r E.2.2.1) E (up1 E.1 E.2.2.1 1, up1 E.2.1 E.2.2.1 0, E.2.2.1 + 1, E.2.2.2 + 4) := by
    refine mm_wr ?_ rfl (Nat.le_refl _)
    intro e he
    have e1 : e ≠ E.2.2.1 := by omega
    exact ⟨zr_n e1, zr_n e1, zr_n e1, up1_n e1, up1_n e1⟩
  have B0 := B.gr g0
  obtain ⟨u0, u1, u2, u3, u4, u5, u6, u7, u8, u9, u10, u11⟩ := id B0
  have u6' : up1 E.1 E.2.2.1 1 a = 0 := u6
  have w3 : (2 ≤ zr 0 r E.2.2.1 a 0) = True := eq_true (by omega)
  simp only [k172_0, k172_3, k172_3i, k172_4, k172_5, k172_8, k160_0, k160_1, k160_2, k160_3, k160_6, k164_0, k164_1, k164_4, k164_5, k164_8, k164_9, k164_10, k164_13, k164_15, k164_16, k164_19, k164_22, k164_23, k164_24, k164_27, k164_28, k164_29, k164_30, k164_32, k164_35, k164_38, k164_41, k164_44, k164_47, k164_48, k164_51, k164_54, k164_55, k164_56, k164_57, k164_62, k164_65, k164_66, k164_67, k164_70, k164_75, k164_78, k164_79, k164_80, k164_81, k164_84, k164_85, k164_86, k164_87, k164_89, k164_90, k164_91, k164_94, k164_97, k154_0, k154_1, k154_4, mm_sI, mm_sJ, mm_sR, mm_cI, mm_cJ, mm_I, mm_J, mm_R, mm_K, mm_N, psh_s, psh_n, z_n, z_i, z_r, z_l, Nat.reduceAdd, Nat.reduceLeDiff, false_or, or_false, ne_eq, true_or, or_true, not_false_eq_true, Nat.reduceEqDiff, Nat.reduceLT, Nat.reduceLeDiff, Nat.reduceAdd, and_self, and_true, true_and, eq_self, mm_nw, mm_X, k1, k2, u6', w3, s_count B0, s_isL B0, e10, if_false, byV0]
  have c1 : (up1 E.1 E.2.2.1 1, up1 E.2.1 E.2.2.1 0, E.2.2.1 + 1, E.2.2.2 + 4).2.1 (zr 0 r E.2.2.1 a 0) ≤ 402 := u11
  refine j_copyR (c := (up1 E.1 E.2.2.1 1, up1 E.2.1 E.2.2.1 0, E.2.2.1 + 1, E.2.2.2 + 4).2.1 (zr 0 r E.2.2.1 a 0)) u9 rfl u10 u11 (by omega) u4 (by show 2 ≤ E.2.2.1 + 1; omega) (by show E.2.2.1 + 1 < kA; omega) ?_
  intro h1 j1 r1 E1 G1 x1 x2 x3
  obtain ⟨y1, y2, y3, y4⟩ := G1
  have y1 : E.2.2.1 + 1 ≤ E1.2.2.1 := y1
  have y2 : E1.2.2.1 ≤ E.2.2.1 + 1 + 1 := y2
  have y3 : E1.2.2.2 ≤ E.2.2.2 + 4 + 402 := y3
  have y4 : ∀ b, b < E.2.2.1 + 1 ∨ kA ≤ b → h1 b = up2 (zr 0 h E.2.2.1) E.2.2.1 1 0 b ∧ j1 b = zr 0 j E.2.2.1 b ∧ r1 b = zr 0 r E.2.2.1 b ∧ E1.1 b = up1 E.1 E.2.2.1 1 b ∧ E1.2.1 b = up1 E.2.1 E.2.2.1 0 b := y4
  have x1 : E1.2.2.1 = E.2.2.1 + 1 + 1 := x1
  have x2 : E1.1 (E.2.2.1 + 1) = 18 := x2
  have x3 : E1.2.1 (E.2.2.1 + 1) = n := x3
  obtain ⟨z1, z2, z3, z4, z5⟩ := y4 E.2.2.1 (Or.inl (by omega))
  have z4' : E1.1 E.2.2.1 = 1 := z4.trans k2
  simp only [k172_0, k172_3, k172_3i, k172_4, k172_5, k172_8, k160_0, k160_1, k160_2, k160_3, k160_6, k164_0, k164_1, k164_4, k164_5, k164_8, k164_9, k164_10, k164_13, k164_15, k164_16, k164_19, k164_22, k164_23, k164_24, k164_27, k164_28, k164_29, k164_30, k164_32, k164_35, k164_38, k164_41, k164_44, k164_47, k164_48, k164_51, k164_54, k164_55, k164_56, k164_57, k164_62, k164_65, k164_66, k164_67, k164_70, k164_75, k164_78, k164_79, k164_80, k164_81, k164_84, k164_85, k164_86, k164_87, k164_89, k164_90, k164_91, k164_94, k164_97, mm_sI, mm_sJ, mm_sR, mm_cI, mm_cJ, mm_I, mm_J, mm_R, mm_K, mm_N, psh_s, psh_n, z_n, z_i, z_r, z_l, Nat.reduceAdd, Nat.reduceLeDiff, false_or, or_false, ne_eq, true_or, or_true, not_false_eq_true, Nat.reduceEqDiff, Nat.reduceLT, Nat.reduceLeDiff, Nat.reduceAdd, and_self, and_true, true_and, eq_self, z4', w2]
  refine hQ _ _ _ _ ⟨by omega, by omega, by omega, fun b hb => ?_⟩ ⟨Or.inl z4', ?_, ?_, ?_, by omega, ?_, Or.inl (by omega), Or.inl ?_⟩
  · obtain ⟨p1, p2, p3, p4, p5⟩ := y4 b (by omega)
    have b1 : b ≠ E.2.2.1 := by omega
    exact ⟨by rw [p1, up2_a b1, zr_n b1], by rw [p2, zr_n b1], by rw [up2_a b1, p3, zr_n b1], by rw [p4, up1_n b1], by rw [p5, up1_n b1]⟩
  · rw [z1, up2_s]
  · rw [up2_s]; exact Or.inl x2
  · rw [up2_s]; exact x3
  · rw [up2_s]; omega
  · rw [up2_s]; omega
theorem i255 : ∀ k : Fin 256, ((nI k.1).toUInt32 % 65536).toInt32 = nI k.1 ∧ (nI k.1).toUInt32.toUInt16.toUInt32.toInt32 = nI k.1 := by decide +kernel
theorem and255 (x : Int32) : ∃ k, k < 256 ∧ x &&& 255 = nI k := by
  refine ⟨(x.toBitVec &&& 255#32).toNat, ?_, ?_⟩
  · rw [BitVec.toNat_and]
    exact Nat.lt_of_le_of_lt Nat.and_le_right (by decide)
  · apply Int32.toBitVec_inj.1
    rw [Int32.toBitVec_and]
    show x.toBitVec &&& 255#32 = BitVec.ofNat 32 (x.toBitVec &&& 255#32).toNat
    rw [BitVec.ofNat_toNat, BitVec.setWidth_eq]
/-- a byte of a string -/
theorem j_charAt {i : Nat} (T : Str s m h r E) (hi : i < m) (hm : m ≤ 402) (hQ : ∀ y, inb y 256 → Q (some (vi y)) (mm h j r E)) : WP (d + 3) 162 0 [some (vr s), some (vi (nI i))] [] (mm h j r E) Q := by
  obtain ⟨u1, u2, u3, u4, u5, u6, _⟩ := id T
  have g : okG 1 (E.1 s) = true := by rcases u1 with e | e <;> rw [e] <;> rfl
  have kd : ∀ {l0 l1 : Option PV} {st : List PV} {Q : Option PV → Mem → Prop}, szL st ≤ 8 → WP (d + 3) 162 1 [l0, l1] (vr s :: st) (mm h j r E) Q = WP (d + 2) 166 0 [some (vr s)] [] (mm h j r E) (fun v M' => WP (d + 3) 162 4 [l0, l1] (psh v st) M' Q) := fun hl => k162_1 (d := d + 2) hl T.kd
  have i166 : ∀ {e : Nat} {Q : Option PV → Mem → Prop}, WP e 166 0 [some (vr s)] [] (mm h j r E) Q = Q (some (vi 1)) (mm h j r E) := by
    intro e Q
    simp only [k166_0, k166_3, k166_6, k166_7, k166_10, k166_13, k166_14, k166_17, k166_18, mm_sI, mm_sJ, mm_sR, mm_cI, mm_cJ, mm_I, mm_J, mm_R, mm_K, mm_N, psh_s, psh_n, z_n, z_i, z_r, z_l, Nat.reduceAdd, Nat.reduceLeDiff, false_or, or_false, ne_eq, true_or, or_true, not_false_eq_true, Nat.reduceEqDiff, Nat.reduceLT, Nat.reduceLeDiff, Nat.reduceAdd, and_self, and_true, true_and, eq_self, g, u2, e10, if_false, if_true]
  have p1 : (nI i < 0) = False := eq_false (nI_pos (by omega))
  have p2 : (nI i < nI m) = True := eq_true (by rw [nLt (by omega) (by omega)]; exact hi)
  have p3 : ix (nI i) = i := ix_n (by omega)
  have g2 : (13 ≤ E.1 (r s 0)) = True := eq_true (by omega)
  have g7 : (E.1 (r s 0) ≤ 19) = True := eq_true (by omega)
  simp only [k162_0, k162_1, k162_4, k162_7, k162_8, k162_11, k162_12, k162_15, k162_16, k162_17, k162_20, k162_24, k174_0, k174_1, k174_2, k174_3, k174_6, k174_7, k174_9, k174_12, k174_13, k174_14, k167_0, k167_1, k167_2, k167_5, k167_8, k167_8i, k167_9, k181_0, k181_1, k181_4, k181_5, k181_6, k181_9, k181_10, k181_11, k181_16, k181_17, mm_sI, mm_sJ, mm_sR, mm_cI, mm_cJ, mm_I, mm_J, mm_R, mm_K, mm_N, psh_s, psh_n, z_n, z_i, z_r, z_l, Nat.reduceAdd, Nat.reduceLeDiff, false_or, or_false, ne_eq, true_or, or_true, not_false_eq_true, Nat.reduceEqDiff, Nat.reduceLT, Nat.reduceLeDiff, Nat.reduceAdd, and_self, and_true, true_and, eq_self, kd, i166, g, u2, u4, e10, if_false, if_true, g2, g7, ofN, p1, p2]
  have c2 : inb (nI i) (mN (mm h j r E) (r s 0)) := by
    show inb (nI i) (E.2.1 (r s 0)); rw [u4, inb_n (by omega)]; exact hi
  have c1 : mK (mm h j r E) (r s 0) = 18 ∨ mK (mm h j r E) (r s 0) = 19 := u3
  rw [k174_8 c1 c2]
  obtain ⟨k, hk, ek⟩ := and255 (h (r s 0) i)
  obtain ⟨q1, q2⟩ := i255 ⟨k, hk⟩
  simp only [k162_0, k162_1, k162_4, k162_7, k162_8, k162_11, k162_12, k162_15, k162_16, k162_17, k162_20, k162_24, k174_0, k174_1, k174_2, k174_3, k174_6, k174_7, k174_9, k174_12, k174_13, k174_14, mm_sI, mm_sJ, mm_sR, mm_cI, mm_cJ, mm_I, mm_J, mm_R, mm_K, mm_N, psh_s, psh_n, z_n, z_i, z_r, z_l, Nat.reduceAdd, Nat.reduceLeDiff, false_or, or_false, ne_eq, true_or, or_true, not_false_eq_true, Nat.reduceEqDiff, Nat.reduceLT, Nat.reduceLeDiff, Nat.reduceAdd, and_self, and_true, true_and, eq_self, p3, ek, q1, q2]
  exact hQ _ (by rw [inb_n (by omega)]; exact hk)
end SW
