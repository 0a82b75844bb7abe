/-! ===== back to the image ===== -/
section BK
variable {d : Nat} {M : Mem} {h h0 h1 h2 : Hp} {j : Jp} {r : Rp} {E : EE} {l G F A n G' F' : Nat} {W : LW} {b bt bm b' : BB} {Q : Option PV → Mem → Prop}
theorem lay3_o {i k c : Nat} (hA : A ≠ 114) (hc : c ≠ 114) (hk : i + k ≤ 8) : lay3 A i k h c = h c := by
  funext x; rw [lay3_v hA hk, if_neg (by omega), if_neg (by omega), if_neg (by omega)]
theorem layM_4 {n m x : Nat} (hA : A ≠ 114) (hm : m ≤ 8) : layM h A n m 114 x = if 16 ≤ x ∧ x < 16 + m then h A (x - 8) else if 32 ≤ x ∧ x < 32 + m then h A (x - 16) else if 40 ≤ x ∧ x < 40 + m then h A (x - 16) else if 8 ≤ x ∧ x < 8 + n then h A (x - 8) else h 114 x := by
  unfold layM
  rw [up2_a (by decide), lay3_v hA (by omega)]
  have e : ∀ y, lay1 A 0 n h A y = h A y := fun y => by rw [lay1_v hA, if_neg (by omega)]
  simp only [e, true_and, Nat.add_zero]
  rw [lay1_v hA]
  simp only [true_and, Nat.add_zero]
theorem layM_5 {n m x : Nat} (hA : A ≠ 114) (hm : m ≤ 8) : layM h A n m 115 x = if x = 1 then h A 32 else h 115 x := by
  unfold layM
  rw [up2_e, lay3_o hA (by decide) (by omega), lay1_v hA, if_neg (show ¬ (115 = 114 ∧ _) by omega)]
theorem layB_M {hs : Hp} {G2 F2 : Nat} (hG8 : G ≤ 8) (hF8 : F ≤ 8) (hG : G2 ≤ G) (hF : F2 ≤ F) (e1 : ∀ i, i < G2 → h 128 i = hs 21 i) (e2 : ∀ i, i < F2 → h 128 (8 + i) = hs 22 i ∧ h 128 (16 + i) = hs 24 i ∧ h 128 (24 + i) = hs 25 i) (eh : h 128 32 = hs 19 10) : bM (layM h 128 G2 F2) G F = layB (bM h G F) hs G2 F2 := by
  funext k i
  unfold layB
  by_cases k6 : k < 6
  · simp only [bM, k6, if_true]
    by_cases c : i < cut G F k
    · have c8 := cut8 (k := k) hG8 hF8
      simp only [c, if_true]
      rw [layM_4 (by decide) (by omega)]
      match k, k6 with
      | 0, _ =>
        rw [if_neg (by omega), if_neg (by omega), if_neg (by omega), if_neg (by omega)]; simp
      | 1, _ =>
        rw [if_neg (by omega), if_neg (by omega), if_neg (by omega)]
        by_cases q : i < G2
        · rw [if_pos (by omega), if_pos ⟨rfl, q⟩, show 8 * 1 + i - 8 = i by omega]; exact e1 i q
        · rw [if_neg (by omega), if_neg (by omega)]; simp
      | 2, _ =>
        by_cases q : i < F2
        · rw [if_pos (by omega), if_neg (by omega), if_pos ⟨rfl, q⟩, show 8 * 2 + i - 8 = 8 + i by omega]; exact (e2 i q).1
        · rw [if_neg (by omega), if_neg (by omega), if_neg (by omega), if_neg (by omega), if_neg (by omega), if_neg (by omega)]; simp
      | 3, _ =>
        rw [if_neg (by omega), if_neg (by omega), if_neg (by omega), if_neg (by omega)]; simp
      | 4, _ =>
        by_cases q : i < F2
        · rw [if_neg (by omega), if_pos (by omega), if_neg (by omega), if_neg (by omega), if_pos ⟨rfl, q⟩, show 8 * 4 + i - 16 = 16 + i by omega]; exact (e2 i q).2.1
        · rw [if_neg (by omega), if_neg (by omega), if_neg (by omega), if_neg (by omega), if_neg (by omega), if_neg (by omega), if_neg (by omega)]; simp
      | 5, _ =>
        by_cases q : i < F2
        · rw [if_neg (by omega), if_neg (by omega), if_pos (by omega), if_neg (by omega), if_neg (by omega), if_neg (by omega), if_pos ⟨rfl, q⟩, show 8 * 5 + i - 16 = 24 + i by omega]; exact (e2 i q).2.2
        · rw [if_neg (by omega), if_neg (by omega), if_neg (by omega), if_neg (by omega), if_neg (by omega), if_neg (by omega), if_neg (by omega), if_neg (by omega)]; simp
      | k + 6, k6 => omega
    · simp only [c, if_false]
      match k, k6 with
      | 0, _ => simp
      | 1, _ => have c : ¬ i < G := c; simp [show ¬ i < G2 by omega]
      | 2, _ => have c : ¬ i < F := c; simp [show ¬ i < F2 by omega]
      | 3, _ => simp
      | 4, _ => have c : ¬ i < F := c; simp [show ¬ i < F2 by omega]
      | 5, _ => have c : ¬ i < F := c; simp [show ¬ i < F2 by omega]
      | k + 6, k6 => omega
  · by_cases e6 : k = 6
    · subst e6
      have hF2 : F2 ≤ 8 := by omega
      by_cases i0 : i = 0
      · subst i0; simp [bM, layM_5 (show 128 ≠ 114 by decide) hF2]
      · by_cases i1 : i = 1
        · subst i1; simp [bM, layM_5 (show 128 ≠ 114 by decide) hF2]; exact eh
        · simp [bM, i0, i1]
    · simp [bM, k6, e6, show ¬ k = 1 by omega, show ¬ k = 2 by omega, show ¬ k = 4 by omega, show ¬ k = 5 by omega]
theorem q_back (I : Inv h j r E) : Both 60 123 227 [some (vr 2)] [some (vr 113), none] (mm h j r E) := by
  obtain ⟨G, F, l, W, b, C, D, i1, i2, _⟩ := id I
  have hS := C.S
  rcases i2 with ⟨n1, n2⟩ | ⟨n1, n2, _⟩
  · refine both_q (a := -5) I (fun Q hQ => ?_) (fun h1 s Q hQ => ?_)
    · simp only [k123_0, k123_1, k123_4, k123_7, k123_9, k123_10, k123_11, k123_14, k123_15, k123_18, k123_21, k123_22, k123_25, k123_28, k123_29, k123_30, mm_sI, mm_sJ, mm_sR, mm_cI, mm_cJ, mm_I, mm_J, mm_R, mm_K, mm_N, psh_s, psh_n, z_n, z_i, z_r, z_l, Nat.reduceAdd, Nat.reduceLeDiff, K2 hS, R2_0 hS, R2_1 hS, R2_2 hS, R2_6 hS, R2_8 hS, R2_11 hS, R2_12 hS, R2_13 hS, R2_15 hS, R2_16 hS, K3 hS, K11 hS, K19 hS, K27 hS, K32 hS, K37 hS, K98 hS, K99 hS, K100 hS, N37 hS, N98 hS, N99 hS, N100 hS, false_or, or_false, ne_eq, true_or, or_true, not_false_eq_true, Nat.reduceEqDiff, Nat.reduceLT, Nat.reduceLeDiff, Nat.reduceAdd, n1, if_true]; exact hQ h ScrD.rf
    · have e : h1 113 23 = 0 := by rw [s.2.2 23 (by decide) (by decide) (by decide)]; exact n2
      simp only [k227_0, k227_1, k227_4, k227_7, k227_9, k227_10, k227_11, k227_12, k227_15, k227_16, k227_19, k227_20, k227_23, k227_26, k227_27, k227_29, k227_30, k227_33, k227_34, k227_37, k227_38, k227_39, k227_42, k227_43, k227_44, k227_45, k227_48, k227_51, k227_52, k227_55, k227_56, k227_57, mm_sI, mm_sJ, mm_sR, mm_cI, mm_cJ, mm_I, mm_J, mm_R, mm_K, mm_N, psh_s, psh_n, z_n, z_i, z_r, z_l, Nat.reduceAdd, Nat.reduceLeDiff, K113 hS, R113_2 hS, R113_3 hS, R113_5 hS, R113_8 hS, R113_9 hS, R113_10 hS, R113_11 hS, R113_16 hS, R113_17 hS, R113_18 hS, R113_19 hS, R113_20 hS, R113_21 hS, R113_22 hS, R113_26 hS, R113_27 hS, R113_30 hS, R113_32 hS, R113_34 hS, R113_35 hS, R113_36 hS, R113_37 hS, R113_40 hS, R113_41 hS, R113_42 hS, R113_43 hS, R113_44 hS, R113_45 hS, R113_47 hS, K114 hS, K115 hS, K116 hS, K117 hS, K118 hS, K119 hS, K120 hS, K121 hS, K122 hS, K123 hS, K124 hS, K125 hS, K126 hS, K127 hS, K128 hS, K129 hS, K130 hS, K131 hS, K132 hS, K133 hS, K134 hS, K135 hS, K136 hS, K137 hS, K138 hS, K139 hS, K140 hS, K141 hS, K142 hS, N114 hS, N115 hS, N116 hS, N117 hS, N118 hS, N119 hS, N120 hS, N121 hS, N122 hS, N123 hS, N124 hS, N125 hS, N126 hS, N127 hS, N128 hS, N129 hS, N130 hS, N131 hS, N132 hS, N133 hS, N134 hS, N135 hS, N136 hS, N137 hS, N138 hS, N139 hS, N140 hS, N141 hS, N142 hS, false_or, or_false, ne_eq, true_or, or_true, not_false_eq_true, Nat.reduceEqDiff, Nat.reduceLT, Nat.reduceLeDiff, Nat.reduceAdd, e, if_true]; exact hQ h1 ScrD.rf
  · refine both_m I ?_
    intro G F l W b C D L Im
    have hG8 := C.G8
    have hF8 := C.F8
    rcases Im with ⟨m1, _⟩ | ⟨_, _, G2, F2, hG, hF, g1, g2, g3, g4, e1, e2, eh, ei, el⟩
    · rw [n1] at m1; exact absurd m1 (by decide)
    have w := WF.lay (h := h) C.w hG (fun i hi => (e1 i hi).2) (fun i hi => ⟨(e2 i hi).2.1, (e2 i hi).2.2.2.1, (e2 i hi).2.2.2.2.2⟩) ei
    refine ⟨G, F, layB b h G2 F2, h 26 0, h 26, Nat.le_refl _, Nat.le_refl _, ?_, ?_⟩
    · intro Q hQ
      simp only [k123_0, k123_1, k123_4, k123_7, k123_9, k123_10, k123_11, k123_14, k123_15, k123_18, k123_21, k123_22, k123_25, k123_28, k123_29, k123_30, mm_sI, mm_sJ, mm_sR, mm_cI, mm_cJ, mm_I, mm_J, mm_R, mm_K, mm_N, psh_s, psh_n, z_n, z_i, z_r, z_l, Nat.reduceAdd, Nat.reduceLeDiff, K2 hS, R2_0 hS, R2_1 hS, R2_2 hS, R2_6 hS, R2_8 hS, R2_11 hS, R2_12 hS, R2_13 hS, R2_15 hS, R2_16 hS, K3 hS, K11 hS, K19 hS, K27 hS, K32 hS, K37 hS, K98 hS, K99 hS, K100 hS, N37 hS, N98 hS, N99 hS, N100 hS, false_or, or_false, ne_eq, true_or, or_true, not_false_eq_true, Nat.reduceEqDiff, Nat.reduceLT, Nat.reduceLeDiff, Nat.reduceAdd, n1, e10, if_false]
      refine (s_layBack C.H3 (mar_of hS (Or.inr (Or.inr rfl))) (Or.inr (by decide)) g1 g2 (by omega) (by omega)).mpr ?_
      have o10 : ∀ i, i < 5 → layH h 19 3 G2 F2 10 i = h 26 i := by
        intro i hi; unfold layH
        rw [if_neg (by decide), if_neg (by decide), if_neg (by decide), if_neg (by decide), if_pos (by decide), if_pos hi]
      simp only [k123_0, k123_1, k123_4, k123_7, k123_9, k123_10, k123_11, k123_14, k123_15, k123_18, k123_21, k123_22, k123_25, k123_28, k123_29, k123_30, mm_sI, mm_sJ, mm_sR, mm_cI, mm_cJ, mm_I, mm_J, mm_R, mm_K, mm_N, psh_s, psh_n, z_n, z_i, z_r, z_l, Nat.reduceAdd, Nat.reduceLeDiff, K2 hS, R2_0 hS, R2_1 hS, R2_2 hS, R2_6 hS, R2_8 hS, R2_11 hS, R2_12 hS, R2_13 hS, R2_15 hS, R2_16 hS, K3 hS, K11 hS, K19 hS, K27 hS, K32 hS, K37 hS, K98 hS, K99 hS, K100 hS, N37 hS, N98 hS, N99 hS, N100 hS, R3_0 hS, R3_1 hS, R3_2 hS, R3_3 hS, R3_4 hS, R3_5 hS, R3_6 hS, K4 hS, K5 hS, K6 hS, K7 hS, K8 hS, K9 hS, K10 hS, N4 hS, N5 hS, N6 hS, N7 hS, N8 hS, N9 hS, N10 hS, inb_c0, ix_c0, inb_c1, ix_c1, inb_c2, ix_c2, inb_c3, ix_c3, inb_c4, ix_c4, inb_c5, ix_c5, inb_c6, ix_c6, inb_c7, ix_c7, inb_c8, ix_c8, inb_c32, ix_c32, false_or, or_false, ne_eq, true_or, or_true, not_false_eq_true, Nat.reduceEqDiff, Nat.reduceLT, Nat.reduceLeDiff, Nat.reduceAdd, o10 0 (by decide)]
      have fc : FC h (layH h 19 3 G2 F2) := by
        refine ⟨fun a p q => ?_, fun i _ => ⟨?_, ?_⟩, fun i _ _ _ => ?_⟩
        · funext i; unfold layH
          rw [if_neg (by omega), if_neg (by omega), if_neg (by omega), if_neg (by omega), if_neg (by omega), if_neg (by omega)]
        · rfl
        · rfl
        · rfl
      refine hQ _ fc (C.mk fc ?_ ?_ hG8 hF8 ?_ w) (fun i hi => o10 i hi)
      · exact C.eG
      · exact C.eF
      · rw [layB_C hG hF, C.eb]
    · intro h1 f1 D1 Q hQ
      have o : ∀ a, ¬ scrA a → ¬ (3 ≤ a ∧ a ≤ 10) → h1 a = h a := f1.1
      have m1 : h1 113 23 = 1 := by rw [f1.2.2 23 (by decide) (by decide) (by decide)]; assumption
      have m2 : h1 113 24 = nI G2 := by rw [f1.2.2 24 (by decide) (by decide) (by decide)]; exact g3
      have m3 : h1 113 25 = nI F2 := by rw [f1.2.2 25 (by decide) (by decide) (by decide)]; exact g4
      have o128 := o 128 (by unfold scrA; omega) (by omega)
      have o129 := o 129 (by unfold scrA; omega) (by omega)
      simp only [k227_0, k227_1, k227_4, k227_7, k227_9, k227_10, k227_11, k227_12, k227_15, k227_16, k227_19, k227_20, k227_23, k227_26, k227_27, k227_29, k227_30, k227_33, k227_34, k227_37, k227_38, k227_39, k227_42, k227_43, k227_44, k227_45, k227_48, k227_51, k227_52, k227_55, k227_56, k227_57, mm_sI, mm_sJ, mm_sR, mm_cI, mm_cJ, mm_I, mm_J, mm_R, mm_K, mm_N, psh_s, psh_n, z_n, z_i, z_r, z_l, Nat.reduceAdd, Nat.reduceLeDiff, K113 hS, R113_2 hS, R113_3 hS, R113_5 hS, R113_8 hS, R113_9 hS, R113_10 hS, R113_11 hS, R113_16 hS, R113_17 hS, R113_18 hS, R113_19 hS, R113_20 hS, R113_21 hS, R113_22 hS, R113_26 hS, R113_27 hS, R113_30 hS, R113_32 hS, R113_34 hS, R113_35 hS, R113_36 hS, R113_37 hS, R113_40 hS, R113_41 hS, R113_42 hS, R113_43 hS, R113_44 hS, R113_45 hS, R113_47 hS, K114 hS, K115 hS, K116 hS, K117 hS, K118 hS, K119 hS, K120 hS, K121 hS, K122 hS, K123 hS, K124 hS, K125 hS, K126 hS, K127 hS, K128 hS, K129 hS, K130 hS, K131 hS, K132 hS, K133 hS, K134 hS, K135 hS, K136 hS, K137 hS, K138 hS, K139 hS, K140 hS, K141 hS, K142 hS, N114 hS, N115 hS, N116 hS, N117 hS, N118 hS, N119 hS, N120 hS, N121 hS, N122 hS, N123 hS, N124 hS, N125 hS, N126 hS, N127 hS, N128 hS, N129 hS, N130 hS, N131 hS, N132 hS, N133 hS, N134 hS, N135 hS, N136 hS, N137 hS, N138 hS, N139 hS, N140 hS, N141 hS, N142 hS, false_or, or_false, ne_eq, true_or, or_true, not_false_eq_true, Nat.reduceEqDiff, Nat.reduceLT, Nat.reduceLeDiff, Nat.reduceAdd, m1, m2, m3, e10, if_false]
      rw [m_laysBack hS (K128 hS) (N128 hS) (by decide) (by decide) (by decide) (show G2 ≤ 8 by omega) (show F2 ≤ 8 by omega)]
      simp only [k227_0, k227_1, k227_4, k227_7, k227_9, k227_10, k227_11, k227_12, k227_15, k227_16, k227_19, k227_20, k227_23, k227_26, k227_27, k227_29, k227_30, k227_33, k227_34, k227_37, k227_38, k227_39, k227_42, k227_43, k227_44, k227_45, k227_48, k227_51, k227_52, k227_55, k227_56, k227_57, mm_sI, mm_sJ, mm_sR, mm_cI, mm_cJ, mm_I, mm_J, mm_R, mm_K, mm_N, psh_s, psh_n, z_n, z_i, z_r, z_l, Nat.reduceAdd, Nat.reduceLeDiff, false_or, or_false, ne_eq, true_or, or_true, not_false_eq_true, Nat.reduceEqDiff, Nat.reduceLT, Nat.reduceLeDiff, Nat.reduceAdd]
      rw [show (0 : Int32) = nI 0 from rfl, m_bkL2 hS (k := 5) (i := 0) (by omega)]
      have oM : ∀ a, a ≠ 114 → a ≠ 115 → layM h1 128 G2 F2 a = h1 a := fun a p q => layM_o (by decide) (by omega) p q
      have ov : ∀ i, i < 5 → cpA 127 129 0 5 (layM h1 128 G2 F2) 127 i = h 26 i := by
        intro i hi; rw [cpA_v (by decide), if_pos (by omega), oM 129 (by decide) (by decide), o129]; exact el i hi
      have oc : ∀ a, a ≠ 127 → cpA 127 129 0 5 (layM h1 128 G2 F2) a = layM h1 128 G2 F2 a := fun a ha => by funext x; rw [cpA_v (by decide), if_neg (by omega)]
      have fm : FM h1 (cpA 127 129 0 5 (layM h1 128 G2 F2)) := by
        refine ⟨fun a p q s t => ?_, fun i _ => ⟨?_, ?_⟩, fun i _ _ _ _ _ => ?_⟩
        · rw [oc a t, oM a q s]
        · rw [oc 27 (by decide), oM 27 (by decide) (by decide)]
        · rw [oc 32 (by decide), oM 32 (by decide) (by decide)]
        · rw [oc 113 (by decide), oM 113 (by decide) (by decide)]
      rw [ov 0 (by decide)]
      refine hQ _ fm (D1.mk fm ?_ ?_ hG8 hF8 ?_ w) ov
      · rw [oc 113 (by decide), oM 113 (by decide) (by decide)]; exact D1.eG
      · rw [oc 113 (by decide), oM 113 (by decide) (by decide)]; exact D1.eF
      · rw [bM_eq hG8 hF8 (h := layM h1 128 G2 F2) (fun i _ => by rw [oc 114 (by decide)]) (fun i _ => by rw [oc 115 (by decide)]), layB_M hG8 hF8 hG hF (fun i hi => by rw [o128]; exact (e1 i hi).1) (fun i hi => by rw [o128]; exact ⟨(e2 i hi).1, (e2 i hi).2.2.1, (e2 i hi).2.2.2.2.1⟩) (by rw [o128]; exact eh), D1.eb]
/-! ===== the tape ===== -/
theorem q_feed {x : Int32} (I : Inv h j r E) : Both 60 78 164 [some (vr 2), some (vi x)] [some (vr 113), some (vi x)] (mm h j r E) := by
  obtain ⟨G, F, l, W, b, C, D, i1, i2, i3, i4, i5, i6, i7⟩ := id I
  have hS := C.S
  have h255 : b2i (0 ≤ x ∧ x ≤ 255) = b2i (inb x 256) := b2i_c in_255
  obtain ⟨n, hn, t1, t2, t3⟩ := id i3
  by_cases c1 : inb x 256
  case neg =>
    refine both_q (a := -1) I (fun Q hQ => ?_) (fun h1 s Q hQ => ?_)
    · simp only [k78_0, k78_1, k78_2, k78_5, k78_8, k78_11, k78_12, k78_13, k78_14, k78_17, k78_19, k78_22, k78_24, k78_25, k78_26, k78_29, k78_30, k78_33, k78_34, k78_35, k78_36, k78_36i, k78_37, k78_40, k78_41, k78_42, k78_45, k78_46, k78_49, mm_sI, mm_sJ, mm_sR, mm_cI, mm_cJ, mm_I, mm_J, mm_R, mm_K, mm_N, psh_s, psh_n, z_n, z_i, z_r, z_l, Nat.reduceAdd, Nat.reduceLeDiff, K2 hS, R2_0 hS, R2_1 hS, R2_2 hS, R2_6 hS, R2_8 hS, R2_11 hS, R2_12 hS, R2_13 hS, R2_15 hS, R2_16 hS, K3 hS, K11 hS, K19 hS, K27 hS, K32 hS, K37 hS, K98 hS, K99 hS, K100 hS, N37 hS, N98 hS, N99 hS, N100 hS, false_or, or_false, ne_eq, true_or, or_true, not_false_eq_true, Nat.reduceEqDiff, Nat.reduceLT, Nat.reduceLeDiff, Nat.reduceAdd, s_within, h255, b2i_f c1, if_true]; exact hQ h ScrD.rf
    · simp only [k164_0, k164_1, k164_2, k164_5, k164_8, k164_11, k164_12, k164_13, k164_14, k164_17, k164_19, k164_22, k164_24, k164_25, k164_26, k164_29, k164_30, k164_30i, k164_31, k164_34, k164_35, k164_36, k164_37, k164_40, k164_41, k164_42, k164_43, k164_46, mm_sI, mm_sJ, mm_sR, mm_cI, mm_cJ, mm_I, mm_J, mm_R, mm_K, mm_N, psh_s, psh_n, z_n, z_i, z_r, z_l, Nat.reduceAdd, Nat.reduceLeDiff, K113 hS, R113_2 hS, R113_3 hS, R113_5 hS, R113_8 hS, R113_9 hS, R113_10 hS, R113_11 hS, R113_16 hS, R113_17 hS, R113_18 hS, R113_19 hS, R113_20 hS, R113_21 hS, R113_22 hS, R113_26 hS, R113_27 hS, R113_30 hS, R113_32 hS, R113_34 hS, R113_35 hS, R113_36 hS, R113_37 hS, R113_40 hS, R113_41 hS, R113_42 hS, R113_43 hS, R113_44 hS, R113_45 hS, R113_47 hS, K114 hS, K115 hS, K116 hS, K117 hS, K118 hS, K119 hS, K120 hS, K121 hS, K122 hS, K123 hS, K124 hS, K125 hS, K126 hS, K127 hS, K128 hS, K129 hS, K130 hS, K131 hS, K132 hS, K133 hS, K134 hS, K135 hS, K136 hS, K137 hS, K138 hS, K139 hS, K140 hS, K141 hS, K142 hS, N114 hS, N115 hS, N116 hS, N117 hS, N118 hS, N119 hS, N120 hS, N121 hS, N122 hS, N123 hS, N124 hS, N125 hS, N126 hS, N127 hS, N128 hS, N129 hS, N130 hS, N131 hS, N132 hS, N133 hS, N134 hS, N135 hS, N136 hS, N137 hS, N138 hS, N139 hS, N140 hS, N141 hS, N142 hS, false_or, or_false, ne_eq, true_or, or_true, not_false_eq_true, Nat.reduceEqDiff, Nat.reduceLT, Nat.reduceLeDiff, Nat.reduceAdd, s_within', h255, b2i_f c1, if_true]; exact hQ h1 ScrD.rf
  by_cases c2 : n = 120
  · subst c2
    refine both_q (a := -3) I (fun Q hQ => ?_) (fun h1 s Q hQ => ?_)
    · simp only [k78_0, k78_1, k78_2, k78_5, k78_8, k78_11, k78_12, k78_13, k78_14, k78_17, k78_19, k78_22, k78_24, k78_25, k78_26, k78_29, k78_30, k78_33, k78_34, k78_35, k78_36, k78_36i, k78_37, k78_40, k78_41, k78_42, k78_45, k78_46, k78_49, mm_sI, mm_sJ, mm_sR, mm_cI, mm_cJ, mm_I, mm_J, mm_R, mm_K, mm_N, psh_s, psh_n, z_n, z_i, z_r, z_l, Nat.reduceAdd, Nat.reduceLeDiff, K2 hS, R2_0 hS, R2_1 hS, R2_2 hS, R2_6 hS, R2_8 hS, R2_11 hS, R2_12 hS, R2_13 hS, R2_15 hS, R2_16 hS, K3 hS, K11 hS, K19 hS, K27 hS, K32 hS, K37 hS, K98 hS, K99 hS, K100 hS, N37 hS, N98 hS, N99 hS, N100 hS, false_or, or_false, ne_eq, true_or, or_true, not_false_eq_true, Nat.reduceEqDiff, Nat.reduceLT, Nat.reduceLeDiff, Nat.reduceAdd, s_within, h255, b2i_t c1, e10, if_false, t1, show ¬ (nI 120 < 120) by decide]; exact hQ h ScrD.rf
    · have e : h1 113 4 = nI 120 := by rw [s.2.2 4 (by decide) (by decide) (by decide)]; exact t2
      simp only [k164_0, k164_1, k164_2, k164_5, k164_8, k164_11, k164_12, k164_13, k164_14, k164_17, k164_19, k164_22, k164_24, k164_25, k164_26, k164_29, k164_30, k164_30i, k164_31, k164_34, k164_35, k164_36, k164_37, k164_40, k164_41, k164_42, k164_43, k164_46, mm_sI, mm_sJ, mm_sR, mm_cI, mm_cJ, mm_I, mm_J, mm_R, mm_K, mm_N, psh_s, psh_n, z_n, z_i, z_r, z_l, Nat.reduceAdd, Nat.reduceLeDiff, K113 hS, R113_2 hS, R113_3 hS, R113_5 hS, R113_8 hS, R113_9 hS, R113_10 hS, R113_11 hS, R113_16 hS, R113_17 hS, R113_18 hS, R113_19 hS, R113_20 hS, R113_21 hS, R113_22 hS, R113_26 hS, R113_27 hS, R113_30 hS, R113_32 hS, R113_34 hS, R113_35 hS, R113_36 hS, R113_37 hS, R113_40 hS, R113_41 hS, R113_42 hS, R113_43 hS, R113_44 hS, R113_45 hS, R113_47 hS, K114 hS, K115 hS, K116 hS, K117 hS, K118 hS, K119 hS, K120 hS, K121 hS, K122 hS, K123 hS, K124 hS, K125 hS, K126 hS, K127 hS, K128 hS, K129 hS, K130 hS, K131 hS, K132 hS, K133 hS, K134 hS, K135 hS, K136 hS, K137 hS, K138 hS, K139 hS, K140 hS, K141 hS, K142 hS, N114 hS, N115 hS, N116 hS, N117 hS, N118 hS, N119 hS, N120 hS, N121 hS, N122 hS, N123 hS, N124 hS, N125 hS, N126 hS, N127 hS, N128 hS, N129 hS, N130 hS, N131 hS, N132 hS, N133 hS, N134 hS, N135 hS, N136 hS, N137 hS, N138 hS, N139 hS, N140 hS, N141 hS, N142 hS, false_or, or_false, ne_eq, true_or, or_true, not_false_eq_true, Nat.reduceEqDiff, Nat.reduceLT, Nat.reduceLeDiff, Nat.reduceAdd, s_within', h255, b2i_t c1, e10, if_false, e, show nI 120 = 120 from rfl, if_true]; exact hQ h1 ScrD.rf
  · have p1 : nI n < 120 := by rw [show (120 : Int32) = nI 120 from rfl, nLt (by omega) (by decide)]; omega
    have p2 : (nI n = 120) = False := by rw [show (120 : Int32) = nI 120 from rfl, nEq (by omega) (by decide)]; apply eq_false; omega
    have hb : inb (nI n) 120 = True := eq_true (by rw [inb_n (by omega)]; omega)
    unfold Both
    simp only [k78_0, k78_1, k78_2, k78_5, k78_8, k78_11, k78_12, k78_13, k78_14, k78_17, k78_19, k78_22, k78_24, k78_25, k78_26, k78_29, k78_30, k78_33, k78_34, k78_35, k78_36, k78_36i, k78_37, k78_40, k78_41, k78_42, k78_45, k78_46, k78_49, k164_0, k164_1, k164_2, k164_5, k164_8, k164_11, k164_12, k164_13, k164_14, k164_17, k164_19, k164_22, k164_24, k164_25, k164_26, k164_29, k164_30, k164_30i, k164_31, k164_34, k164_35, k164_36, k164_37, k164_40, k164_41, k164_42, k164_43, k164_46, mm_sI, mm_sJ, mm_sR, mm_cI, mm_cJ, mm_I, mm_J, mm_R, mm_K, mm_N, psh_s, psh_n, z_n, z_i, z_r, z_l, Nat.reduceAdd, Nat.reduceLeDiff, K2 hS, R2_0 hS, R2_1 hS, R2_2 hS, R2_6 hS, R2_8 hS, R2_11 hS, R2_12 hS, R2_13 hS, R2_15 hS, R2_16 hS, K3 hS, K11 hS, K19 hS, K27 hS, K32 hS, K37 hS, K98 hS, K99 hS, K100 hS, N37 hS, N98 hS, N99 hS, N100 hS, K113 hS, R113_2 hS, R113_3 hS, R113_5 hS, R113_8 hS, R113_9 hS, R113_10 hS, R113_11 hS, R113_16 hS, R113_17 hS, R113_18 hS, R113_19 hS, R113_20 hS, R113_21 hS, R113_22 hS, R113_26 hS, R113_27 hS, R113_30 hS, R113_32 hS, R113_34 hS, R113_35 hS, R113_36 hS, R113_37 hS, R113_40 hS, R113_41 hS, R113_42 hS, R113_43 hS, R113_44 hS, R113_45 hS, R113_47 hS, K114 hS, K115 hS, K116 hS, K117 hS, K118 hS, K119 hS, K120 hS, K121 hS, K122 hS, K123 hS, K124 hS, K125 hS, K126 hS, K127 hS, K128 hS, K129 hS, K130 hS, K131 hS, K132 hS, K133 hS, K134 hS, K135 hS, K136 hS, K137 hS, K138 hS, K139 hS, K140 hS, K141 hS, K142 hS, N114 hS, N115 hS, N116 hS, N117 hS, N118 hS, N119 hS, N120 hS, N121 hS, N122 hS, N123 hS, N124 hS, N125 hS, N126 hS, N127 hS, N128 hS, N129 hS, N130 hS, N131 hS, N132 hS, N133 hS, N134 hS, N135 hS, N136 hS, N137 hS, N138 hS, N139 hS, N140 hS, N141 hS, N142 hS, up2_s, up2_ai, up2_i, false_or, or_false, ne_eq, true_or, or_true, not_false_eq_true, Nat.reduceEqDiff, Nat.reduceLT, Nat.reduceLeDiff, Nat.reduceAdd, s_within, s_within', h255, b2i_t c1, e10, if_false, if_true, t1, t2, p1, p2, hb, ix_n (show n < 2 ^ 31 by omega), nS1]
    have o : ∀ a, a ≠ 2 → a ≠ 37 → a ≠ 113 → a ≠ 116 → (up2 (up2 (up2 (up2 h 37 n x) 2 7 (nI (n + 1))) 113 4 (nI (n + 1))) 116 n x) a = h a := fun a p q s t => by rw [up2_a t, up2_a s, up2_a p, up2_a q]
    have f2 : ∀ i, i ≠ 7 → (up2 (up2 (up2 (up2 h 37 n x) 2 7 (nI (n + 1))) 113 4 (nI (n + 1))) 116 n x) 2 i = h 2 i := fun i hi => by rw [up2_a (by decide), up2_a (by decide), up2_i hi, up2_a (by decide)]
    have f3 : ∀ i, i ≠ 4 → (up2 (up2 (up2 (up2 h 37 n x) 2 7 (nI (n + 1))) 113 4 (nI (n + 1))) 116 n x) 113 i = h 113 i := fun i hi => by rw [up2_a (by decide), up2_i hi, up2_a (by decide), up2_a (by decide)]
    refine ⟨trivial, ⟨_, rfl⟩, _, j, r, E, rfl, G, F, l, W, b, C.st ?_ ⟨?_, ?_, ?_⟩, D.st ?_ ?_ ?_ ?_ ⟨?_, ?_, ?_, ?_, ?_, ?_⟩, ?_, ?_, ?_, ?_, ?_, ?_, ?_⟩
    · intro a p q; exact o a (by omega) (by omega) (by omega) (by omega)
    · exact o _ (by rcases C.il with h | h <;> omega) (by rcases C.il with h | h <;> omega) (by rcases C.il with h | h <;> omega) (by rcases C.il with h | h <;> omega)
    · exact o _ (by rcases C.il with h | h <;> omega) (by rcases C.il with h | h <;> omega) (by rcases C.il with h | h <;> omega) (by rcases C.il with h | h <;> omega)
    · rw [o l (by rcases C.il with h | h <;> omega) (by rcases C.il with h | h <;> omega) (by rcases C.il with h | h <;> omega) (by rcases C.il with h | h <;> omega)]
    · exact o _ (by decide) (by decide) (by decide) (by decide)
    · exact o _ (by decide) (by decide) (by decide) (by decide)
    · exact f3 _ (by decide)
    · exact f3 _ (by decide)
    · exact o _ (by decide) (by decide) (by decide) (by decide)
    · exact o _ (by decide) (by decide) (by decide) (by decide)
    · exact o _ (by decide) (by decide) (by decide) (by decide)
    · exact o _ (by decide) (by decide) (by decide) (by decide)
    · exact f3 _ (by decide)
    · exact f3 _ (by decide)
    · exact i1.fr (o _ (by decide) (by decide) (by decide) (by decide)) (o _ (by decide) (by decide) (by decide) (by decide))
    · exact i2.fr (f2 _ (by decide)) (f3 _ (by decide)) (f3 _ (by decide)) (f3 _ (by decide)) (fun a ha => o a (by omega) (by omega) (by omega) (by omega))
    · refine ⟨n + 1, by omega, ?_, ?_, ?_⟩
      · rw [up2_a (by decide), up2_a (by decide), up2_s]
      · rw [up2_a (by decide), up2_s]
      · intro i hi
        by_cases e : i = n
        · subst e
          rw [up2_s, up2_a (show 37 ≠ 116 by decide), up2_a (show 37 ≠ 113 by decide), up2_a (show 37 ≠ 2 by decide), up2_s]
          exact ⟨rfl, c1⟩
        · rw [up2_i e, up2_a (show 116 ≠ 113 by decide), up2_a (show 116 ≠ 2 by decide), up2_a (show 116 ≠ 37 by decide), up2_a (show 37 ≠ 116 by decide), up2_a (show 37 ≠ 113 by decide), up2_a (show 37 ≠ 2 by decide), up2_i e]
          exact t3 i (by omega)
    · exact i4.fr (f2 _ (by decide)) (f3 _ (by decide)) (f2 _ (by decide)) (f3 _ (by decide)) (fun a ha => o a (by omega) (by omega) (by omega) (by omega))
    · exact i5.fr (f2 _ (by decide)) (f3 _ (by decide)) (fun a ha => o a (by omega) (by omega) (by omega) (by omega))
    · exact i6.fr (o _ (by decide) (by decide) (by decide) (by decide)) (o _ (by decide) (by decide) (by decide) (by decide)) (f3 _ (by decide))
    · exact i7.fr (f2 _ (by decide)) (fun a ha => o a (by omega) (by omega) (by omega) (by omega))
end BK
