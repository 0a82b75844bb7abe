/-! ===== act ===== -/
section QA
variable {d : Nat} {M : Mem} {h h0 h1 h2 : Hp} {j j1 : Jp} {r r1 : Rp} {E E1 : EE} {l G F A s t n p k i a : Nat} {W : LW} {b bt bm : BB} {Q : Option PV → Mem → Prop} {hd v bo : Int32} {V : Nat → Int64} {HD : Nat → Int32} {N : Nat → Nat} {VV : Nat → Nat → Int64}
theorem q_act {bo w v : Int32} (I : Inv h j r E) : Both 60 130 235 [some (vr 2), some (vi bo), some (vi w), some (vi v), none] [some (vr 113), some (vi bo), some (vi w), some (vi v), none] (mm h j r E) := by
  obtain ⟨G, F, l, W, b, C, D, _, _, _, _, ⟨nb, nb50, b1, b2, b3, b4, bods⟩, _, HD, N, V, sc, sm, nb', n1, n2, n3⟩ := id I
  have hS := C.S
  have hw : b2i (0 ≤ bo ∧ bo ≤ nI nb - 1) = b2i (inb bo nb) := b2i_c (inb_w (by omega))
  have h3 : b2i (0 ≤ w ∧ w ≤ 3) = b2i (inb w 4) := b2i_c (inb_l rfl (by decide))
  have i0' : inb (0 : Int32) 25 = True := eq_true (inb_00 (by decide))
  have f2 : ∀ i, up2 h 99 0 0 2 i = h 2 i := fun i => by rw [up2_a (by decide)]
  have g1 : ∀ i, i ≠ 33 → up2 (tC [] h) 113 33 0 113 i = h 113 i := fun i hi => by rw [up2_i hi, tC_n (by decide)]
  have e31 : up2 (tC [] h) 113 33 0 113 31 = nI nb := by rw [g1 31 (by decide)]; exact b2
  unfold Both
  by_cases c1 : inb bo nb
  case neg =>
    simp only [k130_0, k130_1, k130_4, k130_5, k130_6, k130_7, k130_8, k130_9, k130_10, k130_13, k130_14, k130_15, k130_18, k130_21, k130_22, k130_25, k130_26, k130_27, k130_30, k130_31, k130_33, k130_35, k130_38, k130_39, k130_40, k130_41c0, k130_41c1, k130_41c2, k130_41c3, k130_41, k130_72, k130_74, k130_75v0, k130_75v1, k130_75v2, k130_75v5, k130_75v6, k130_75v7, k130_75v8, k130_75v10, k130_78, k130_79, k130_81, k130_82v0, k130_82v1, k130_82v2, k130_82v5, k130_82v6, k130_82v7, k130_82v8, k130_82v10, k130_85, k130_86, k130_88, k130_89v0, k130_89v1, k130_89v2, k130_89v5, k130_89v6, k130_89v7, k130_89v8, k130_89v10, k130_92, k130_93, k130_95, k130_96v0, k130_96v1, k130_96v2, k130_96v5, k130_96v6, k130_96v7, k130_96v8, k130_96v10, k130_99, k130_100, k130_101, mm_sI, mm_sJ, mm_sR, mm_cI, mm_cJ, mm_I, mm_J, mm_R, mm_K, mm_N, psh_s, psh_n, z_n, z_i, z_r, z_l, Nat.reduceAdd, Nat.reduceLeDiff, K2 hS, R2_0 hS, R2_1 hS, R2_2 hS, R2_6 hS, R2_8 hS, R2_11 hS, R2_12 hS, R2_13 hS, R2_15 hS, R2_16 hS, K3 hS, K11 hS, K19 hS, K27 hS, K32 hS, K37 hS, K98 hS, K99 hS, K100 hS, N37 hS, N98 hS, N99 hS, N100 hS, inb_c0, ix_c0, inb_c1, ix_c1, inb_c2, ix_c2, inb_c3, ix_c3, inb_c4, ix_c4, inb_c5, ix_c5, inb_c6, ix_c6, inb_c7, ix_c7, inb_c8, ix_c8, inb_c32, ix_c32, false_or, or_false, ne_eq, true_or, or_true, not_false_eq_true, Nat.reduceEqDiff, Nat.reduceLT, Nat.reduceLeDiff, Nat.reduceAdd, i0', f2, b1, s_within, hw, b2i_f c1, if_true]
    show WP 60 235 0 _ [] (mm (tC [] h) j r E) _
    simp only [k235_0, k235_1, k235_2, k235_5, k235_6, k235_7, k235_8, k235_11, k235_12, k235_13, k235_16, k235_19, k235_20, k235_21, k235_22, k235_25, k235_28, k235_29, k235_30, k235_31, k235_34, k235_35, k235_36, k235_38, k235_39, k235_42, k235_43, k235_44, k235_46, k235_47, k235_50, k235_53, k235_54, k235_55, k235_58, k235_59, k235_60, k235_62, k235_63, k235_66, k235_69, k235_70, k235_71, k235_74, k235_75, k235_76, k235_78, k235_79, k235_82, k235_85, k235_86, k235_87, k235_89, k235_90, k235_93, mm_sI, mm_sJ, mm_sR, mm_cI, mm_cJ, mm_I, mm_J, mm_R, mm_K, mm_N, psh_s, psh_n, z_n, z_i, z_r, z_l, Nat.reduceAdd, Nat.reduceLeDiff, K113 hS, R113_2 hS, R113_3 hS, R113_5 hS, R113_8 hS, R113_9 hS, R113_10 hS, R113_11 hS, R113_16 hS, R113_17 hS, R113_18 hS, R113_19 hS, R113_20 hS, R113_21 hS, R113_22 hS, R113_26 hS, R113_27 hS, R113_30 hS, R113_32 hS, R113_34 hS, R113_35 hS, R113_36 hS, R113_37 hS, R113_40 hS, R113_41 hS, R113_42 hS, R113_43 hS, R113_44 hS, R113_45 hS, R113_47 hS, K114 hS, K115 hS, K116 hS, K117 hS, K118 hS, K119 hS, K120 hS, K121 hS, K122 hS, K123 hS, K124 hS, K125 hS, K126 hS, K127 hS, K128 hS, K129 hS, K130 hS, K131 hS, K132 hS, K133 hS, K134 hS, K135 hS, K136 hS, K137 hS, K138 hS, K139 hS, K140 hS, K141 hS, K142 hS, N114 hS, N115 hS, N116 hS, N117 hS, N118 hS, N119 hS, N120 hS, N121 hS, N122 hS, N123 hS, N124 hS, N125 hS, N126 hS, N127 hS, N128 hS, N129 hS, N130 hS, N131 hS, N132 hS, N133 hS, N134 hS, N135 hS, N136 hS, N137 hS, N138 hS, N139 hS, N140 hS, N141 hS, N142 hS, false_or, or_false, ne_eq, true_or, or_true, not_false_eq_true, Nat.reduceEqDiff, Nat.reduceLT, Nat.reduceLeDiff, Nat.reduceAdd, e31, s_within', hw, b2i_f c1, if_true]
    exact ⟨trivial, ⟨_, rfl⟩, _, _, _, _, rfl, I.trc (cs := []) (by decide)⟩
  obtain ⟨i, hi, rfl, hi2⟩ := inb_of c1
  obtain ⟨r1, r2, x1, K, hK, k1, k2, k3⟩ := bods i hi
  have hb : inb (nI i) 50 = True := eq_true (by rw [inb_n (by omega)]; omega)
  have z1 : (143 + i = 0) = False := by apply eq_false; omega
  have z9 : (143 + i = 99) = False := by apply eq_false; omega
  have d31 : up2 h 113 33 0 113 31 = nI nb := by rw [up2_i (by decide)]; exact b2
  by_cases c2 : inb w 4
  case neg =>
    have nw : w.toInt < 0 ∨ 3 < w.toInt := by rw [inbI] at c2; omega
    simp only [k130_0, k130_1, k130_4, k130_5, k130_6, k130_7, k130_8, k130_9, k130_10, k130_13, k130_14, k130_15, k130_18, k130_21, k130_22, k130_25, k130_26, k130_27, k130_30, k130_31, k130_33, k130_35, k130_38, k130_39, k130_40, k130_41c0, k130_41c1, k130_41c2, k130_41c3, k130_41, k130_72, k130_74, k130_75v0, k130_75v1, k130_75v2, k130_75v5, k130_75v6, k130_75v7, k130_75v8, k130_75v10, k130_78, k130_79, k130_81, k130_82v0, k130_82v1, k130_82v2, k130_82v5, k130_82v6, k130_82v7, k130_82v8, k130_82v10, k130_85, k130_86, k130_88, k130_89v0, k130_89v1, k130_89v2, k130_89v5, k130_89v6, k130_89v7, k130_89v8, k130_89v10, k130_92, k130_93, k130_95, k130_96v0, k130_96v1, k130_96v2, k130_96v5, k130_96v6, k130_96v7, k130_96v8, k130_96v10, k130_99, k130_100, k130_101, mm_sI, mm_sJ, mm_sR, mm_cI, mm_cJ, mm_I, mm_J, mm_R, mm_K, mm_N, psh_s, psh_n, z_n, z_i, z_r, z_l, Nat.reduceAdd, Nat.reduceLeDiff, K2 hS, R2_0 hS, R2_1 hS, R2_2 hS, R2_6 hS, R2_8 hS, R2_11 hS, R2_12 hS, R2_13 hS, R2_15 hS, R2_16 hS, K3 hS, K11 hS, K19 hS, K27 hS, K32 hS, K37 hS, K98 hS, K99 hS, K100 hS, N37 hS, N98 hS, N99 hS, N100 hS, inb_c0, ix_c0, inb_c1, ix_c1, inb_c2, ix_c2, inb_c3, ix_c3, inb_c4, ix_c4, inb_c5, ix_c5, inb_c6, ix_c6, inb_c7, ix_c7, inb_c8, ix_c8, inb_c32, ix_c32, false_or, or_false, ne_eq, true_or, or_true, not_false_eq_true, Nat.reduceEqDiff, Nat.reduceLT, Nat.reduceLeDiff, Nat.reduceAdd, i0', f2, b1, s_within, hw, b2i_t c1, e10, if_false, hb, ix_n hi2, r1, z1, k130_41 nw]
    show WP 60 235 0 _ [] (mm (tC [] h) j r E) _
    simp only [k235_0, k235_1, k235_2, k235_5, k235_6, k235_7, k235_8, k235_11, k235_12, k235_13, k235_16, k235_19, k235_20, k235_21, k235_22, k235_25, k235_28, k235_29, k235_30, k235_31, k235_34, k235_35, k235_36, k235_38, k235_39, k235_42, k235_43, k235_44, k235_46, k235_47, k235_50, k235_53, k235_54, k235_55, k235_58, k235_59, k235_60, k235_62, k235_63, k235_66, k235_69, k235_70, k235_71, k235_74, k235_75, k235_76, k235_78, k235_79, k235_82, k235_85, k235_86, k235_87, k235_89, k235_90, k235_93, mm_sI, mm_sJ, mm_sR, mm_cI, mm_cJ, mm_I, mm_J, mm_R, mm_K, mm_N, psh_s, psh_n, z_n, z_i, z_r, z_l, Nat.reduceAdd, Nat.reduceLeDiff, K113 hS, R113_2 hS, R113_3 hS, R113_5 hS, R113_8 hS, R113_9 hS, R113_10 hS, R113_11 hS, R113_16 hS, R113_17 hS, R113_18 hS, R113_19 hS, R113_20 hS, R113_21 hS, R113_22 hS, R113_26 hS, R113_27 hS, R113_30 hS, R113_32 hS, R113_34 hS, R113_35 hS, R113_36 hS, R113_37 hS, R113_40 hS, R113_41 hS, R113_42 hS, R113_43 hS, R113_44 hS, R113_45 hS, R113_47 hS, K114 hS, K115 hS, K116 hS, K117 hS, K118 hS, K119 hS, K120 hS, K121 hS, K122 hS, K123 hS, K124 hS, K125 hS, K126 hS, K127 hS, K128 hS, K129 hS, K130 hS, K131 hS, K132 hS, K133 hS, K134 hS, K135 hS, K136 hS, K137 hS, K138 hS, K139 hS, K140 hS, K141 hS, K142 hS, N114 hS, N115 hS, N116 hS, N117 hS, N118 hS, N119 hS, N120 hS, N121 hS, N122 hS, N123 hS, N124 hS, N125 hS, N126 hS, N127 hS, N128 hS, N129 hS, N130 hS, N131 hS, N132 hS, N133 hS, N134 hS, N135 hS, N136 hS, N137 hS, N138 hS, N139 hS, N140 hS, N141 hS, N142 hS, false_or, or_false, ne_eq, true_or, or_true, not_false_eq_true, Nat.reduceEqDiff, Nat.reduceLT, Nat.reduceLeDiff, Nat.reduceAdd, e31, s_within', hw, b2i_t c1, e10, if_false, h3, b2i_f c2, if_true]
    exact ⟨trivial, ⟨_, rfl⟩, _, _, _, _, rfl, I.trc (cs := []) (by decide)⟩
  obtain ⟨w', hw4, rfl, _⟩ := inb_of c2
  simp only [k130_0, k130_1, k130_4, k130_5, k130_6, k130_7, k130_8, k130_9, k130_10, k130_13, k130_14, k130_15, k130_18, k130_21, k130_22, k130_25, k130_26, k130_27, k130_30, k130_31, k130_33, k130_35, k130_38, k130_39, k130_41c0, k130_41c1, k130_41c2, k130_41c3, k130_41, k130_72, k130_74, k130_75v0, k130_75v1, k130_75v2, k130_75v5, k130_75v6, k130_75v7, k130_75v8, k130_75v10, k130_78, k130_79, k130_81, k130_82v0, k130_82v1, k130_82v2, k130_82v5, k130_82v6, k130_82v7, k130_82v8, k130_82v10, k130_85, k130_86, k130_88, k130_89v0, k130_89v1, k130_89v2, k130_89v5, k130_89v6, k130_89v7, k130_89v8, k130_89v10, k130_92, k130_93, k130_95, k130_96v0, k130_96v1, k130_96v2, k130_96v5, k130_96v6, k130_96v7, k130_96v8, k130_96v10, k130_99, k130_100, k130_101, mm_sI, mm_sJ, mm_sR, mm_cI, mm_cJ, mm_I, mm_J, mm_R, mm_K, mm_N, psh_s, psh_n, z_n, z_i, z_r, z_l, Nat.reduceAdd, Nat.reduceLeDiff, K2 hS, R2_0 hS, R2_1 hS, R2_2 hS, R2_6 hS, R2_8 hS, R2_11 hS, R2_12 hS, R2_13 hS, R2_15 hS, R2_16 hS, K3 hS, K11 hS, K19 hS, K27 hS, K32 hS, K37 hS, K98 hS, K99 hS, K100 hS, N37 hS, N98 hS, N99 hS, N100 hS, inb_c0, ix_c0, inb_c1, ix_c1, inb_c2, ix_c2, inb_c3, ix_c3, inb_c4, ix_c4, inb_c5, ix_c5, inb_c6, ix_c6, inb_c7, ix_c7, inb_c8, ix_c8, inb_c32, ix_c32, false_or, or_false, ne_eq, true_or, or_true, not_false_eq_true, Nat.reduceEqDiff, Nat.reduceLT, Nat.reduceLeDiff, Nat.reduceAdd, i0', f2, b1, s_within, hw, b2i_t c1, e10, if_false, hb, ix_n hi2, r1, z1]
  show WP 60 130 40 _ [] (mm (tC [] h) j r E) _
  have fin : ∀ (a : Int32) (cs : List Int32), cs.length ≤ 1000 → some (vi a) = some (vi a) ∧ (∃ a', some (vi a) = some (vi a')) ∧ InvE (mm (tM cs (tC cs h)) j r E) := fun a cs hl => ⟨rfl, ⟨a, rfl⟩, _, _, _, _, rfl, I.trc hl⟩
  have go : ∀ (cs : List Int32) (a : Int32), cs.length ≤ 1000 → (∀ Q : Option PV → Mem → Prop, ∀ h1 : Hp, h1 131 i = nI K → WP 60 235 30 [some (vr 113), some (vi (nI i)), some (vi (nI w')), some (vi v), none] [] (mm (tM [] h1) j r E) Q = Q (some (vi a)) (mm (tM cs h1) j r E)) →
      WP 60 235 0 [some (vr 113), some (vi (nI i)), some (vi (nI w')), some (vi v), none] [] (mm (tC cs h) j r E) (fun v2 M2 => v2 = some (vi a) ∧ (∃ a', some (vi a) = some (vi a')) ∧ InvE M2) := by
    intro cs a hl hm
    have f1 : ∀ x, x ≠ 33 → up2 (tC cs h) 113 33 0 113 x = h 113 x := fun x hx => by rw [up2_i hx, tC_n (by decide)]
    have e31 : up2 (tC cs h) 113 33 0 113 31 = nI nb := by rw [f1 31 (by decide)]; exact b2
    simp only [k235_0, k235_1, k235_2, k235_5, k235_6, k235_7, k235_8, k235_11, k235_12, k235_13, k235_16, k235_19, k235_20, k235_21, k235_22, k235_25, k235_28, k235_29, k235_31, k235_34, k235_35, k235_36, k235_38, k235_39, k235_42, k235_43, k235_44, k235_46, k235_47, k235_50, k235_53, k235_54, k235_55, k235_58, k235_59, k235_60, k235_62, k235_63, k235_66, k235_69, k235_70, k235_71, k235_74, k235_75, k235_76, k235_78, k235_79, k235_82, k235_85, k235_86, k235_87, k235_89, k235_90, k235_93, mm_sI, mm_sJ, mm_sR, mm_cI, mm_cJ, mm_I, mm_J, mm_R, mm_K, mm_N, psh_s, psh_n, z_n, z_i, z_r, z_l, Nat.reduceAdd, Nat.reduceLeDiff, K113 hS, R113_2 hS, R113_3 hS, R113_5 hS, R113_8 hS, R113_9 hS, R113_10 hS, R113_11 hS, R113_16 hS, R113_17 hS, R113_18 hS, R113_19 hS, R113_20 hS, R113_21 hS, R113_22 hS, R113_26 hS, R113_27 hS, R113_30 hS, R113_32 hS, R113_34 hS, R113_35 hS, R113_36 hS, R113_37 hS, R113_40 hS, R113_41 hS, R113_42 hS, R113_43 hS, R113_44 hS, R113_45 hS, R113_47 hS, K114 hS, K115 hS, K116 hS, K117 hS, K118 hS, K119 hS, K120 hS, K121 hS, K122 hS, K123 hS, K124 hS, K125 hS, K126 hS, K127 hS, K128 hS, K129 hS, K130 hS, K131 hS, K132 hS, K133 hS, K134 hS, K135 hS, K136 hS, K137 hS, K138 hS, K139 hS, K140 hS, K141 hS, K142 hS, N114 hS, N115 hS, N116 hS, N117 hS, N118 hS, N119 hS, N120 hS, N121 hS, N122 hS, N123 hS, N124 hS, N125 hS, N126 hS, N127 hS, N128 hS, N129 hS, N130 hS, N131 hS, N132 hS, N133 hS, N134 hS, N135 hS, N136 hS, N137 hS, N138 hS, N139 hS, N140 hS, N141 hS, N142 hS, false_or, or_false, ne_eq, true_or, or_true, not_false_eq_true, Nat.reduceEqDiff, Nat.reduceLT, Nat.reduceLeDiff, Nat.reduceAdd, e31, s_within', hw, b2i_t c1, e10, if_false, h3, b2i_t c2]
    show WP 60 235 30 _ [] (mm (tM [] (tC cs h)) j r E) _
    rw [hm _ _ (by rw [tC_n (by decide)]; exact k1)]
    exact fin a cs hl
  match K, hK with
  | 0, _ =>
    match w', hw4 with
    | 0, _ => rw [show nI 0 = (0 : Int32) from rfl, c_a0_0 (d := 40) hS k3 r2 x1 z9]; exact go _ _ (by decide) (fun Q h1 hh => m_a0_0 (d := 40) hS hh (by omega))
    | 1, _ => rw [show nI 1 = (1 : Int32) from rfl, c_a0_1 (d := 40) hS k3 r2 x1 z9]; exact go _ _ (by decide) (fun Q h1 hh => m_a0_1 (d := 40) hS hh (by omega))
    | 2, _ => rw [show nI 2 = (2 : Int32) from rfl, c_a0_2 (d := 40) hS k3 r2 x1 z9]; exact go _ _ (by decide) (fun Q h1 hh => m_a0_2 (d := 40) hS hh (by omega))
    | 3, _ => rw [show nI 3 = (3 : Int32) from rfl, c_a0_3 (d := 40) hS k3 r2 x1 z9]; exact go _ _ (by decide) (fun Q h1 hh => m_a0_3 (d := 40) hS hh (by omega))
    | w + 4, hw => omega
  | 1, _ =>
    match w', hw4 with
    | 0, _ => rw [show nI 0 = (0 : Int32) from rfl, c_a1_0 (d := 40) hS k3 r2 x1 z9]; exact go _ _ (by decide) (fun Q h1 hh => m_a1_0 (d := 40) hS hh (by omega))
    | 1, _ => rw [show nI 1 = (1 : Int32) from rfl, c_a1_1 (d := 40) hS k3 r2 x1 z9]; exact go _ _ (by decide) (fun Q h1 hh => m_a1_1 (d := 40) hS hh (by omega))
    | 2, _ => rw [show nI 2 = (2 : Int32) from rfl, c_a1_2 (d := 40) hS k3 r2 x1 z9]; exact go _ _ (by decide) (fun Q h1 hh => m_a1_2 (d := 40) hS hh (by omega))
    | 3, _ => rw [show nI 3 = (3 : Int32) from rfl, c_a1_3 (d := 40) hS k3 r2 x1 z9]; exact go _ _ (by decide) (fun Q h1 hh => m_a1_3 (d := 40) hS hh (by omega))
    | w + 4, hw => omega
  | 2, _ =>
    match w', hw4 with
    | 0, _ => rw [show nI 0 = (0 : Int32) from rfl, c_a2_0 (d := 40) hS k3 r2 x1 z9]; exact go _ _ (by decide) (fun Q h1 hh => m_a2_0 (d := 40) hS hh (by omega))
    | 1, _ => rw [show nI 1 = (1 : Int32) from rfl, c_a2_1 (d := 40) hS k3 r2 x1 z9]; exact go _ _ (by decide) (fun Q h1 hh => m_a2_1 (d := 40) hS hh (by omega))
    | 2, _ => rw [show nI 2 = (2 : Int32) from rfl, c_a2_2 (d := 40) hS k3 r2 x1 z9]; exact go _ _ (by decide) (fun Q h1 hh => m_a2_2 (d := 40) hS hh (by omega))
    | 3, _ => rw [show nI 3 = (3 : Int32) from rfl, c_a2_3 (d := 40) hS k3 r2 x1 z9]; exact go _ _ (by decide) (fun Q h1 hh => m_a2_3 (d := 40) hS hh (by omega))
    | w + 4, hw => omega
  | 3, _ =>
    match w', hw4 with
    | 0, _ => rw [show nI 0 = (0 : Int32) from rfl, c_a3_0 (d := 40) hS k3 r2 x1 z9]; exact go _ _ (by decide) (fun Q h1 hh => m_a3_0 (d := 40) hS hh (by omega))
    | 1, _ => rw [show nI 1 = (1 : Int32) from rfl, c_a3_1 (d := 40) hS k3 r2 x1 z9]; exact go _ _ (by decide) (fun Q h1 hh => m_a3_1 (d := 40) hS hh (by omega))
    | 2, _ => rw [show nI 2 = (2 : Int32) from rfl, c_a3_2 (d := 40) hS k3 r2 x1 z9]; exact go _ _ (by decide) (fun Q h1 hh => m_a3_2 (d := 40) hS hh (by omega))
    | 3, _ => rw [show nI 3 = (3 : Int32) from rfl, c_a3_3 (d := 40) hS k3 r2 x1 z9]; exact go _ _ (by decide) (fun Q h1 hh => m_a3_3 (d := 40) hS hh (by omega))
    | w + 4, hw => omega
  | 4, _ =>
    match w', hw4 with
    | 0, _ => rw [show nI 0 = (0 : Int32) from rfl, c_a4_0 (d := 40) hS k3 r2 x1 z9]; exact go _ _ (by decide) (fun Q h1 hh => m_a4_0 (d := 40) hS hh (by omega))
    | 1, _ => rw [show nI 1 = (1 : Int32) from rfl, c_a4_1 (d := 40) hS k3 r2 x1 z9]; exact go _ _ (by decide) (fun Q h1 hh => m_a4_1 (d := 40) hS hh (by omega))
    | 2, _ => rw [show nI 2 = (2 : Int32) from rfl, c_a4_2 (d := 40) hS k3 r2 x1 z9]; exact go _ _ (by decide) (fun Q h1 hh => m_a4_2 (d := 40) hS hh (by omega))
    | 3, _ => rw [show nI 3 = (3 : Int32) from rfl, c_a4_3 (d := 40) hS k3 r2 x1 z9]; exact go _ _ (by decide) (fun Q h1 hh => m_a4_3 (d := 40) hS hh (by omega))
    | w + 4, hw => omega
  | 5, _ =>
    match w', hw4 with
    | 0, _ => rw [show nI 0 = (0 : Int32) from rfl, c_a5_0 (d := 40) hS k3 r2 x1 z9]; exact go _ _ (by decide) (fun Q h1 hh => m_a5_0 (d := 40) hS hh (by omega))
    | 1, _ => rw [show nI 1 = (1 : Int32) from rfl, c_a5_1 (d := 40) hS k3 r2 x1 z9]; exact go _ _ (by decide) (fun Q h1 hh => m_a5_1 (d := 40) hS hh (by omega))
    | 2, _ => rw [show nI 2 = (2 : Int32) from rfl, c_a5_2 (d := 40) hS k3 r2 x1 z9]; exact go _ _ (by decide) (fun Q h1 hh => m_a5_2 (d := 40) hS hh (by omega))
    | 3, _ => rw [show nI 3 = (3 : Int32) from rfl, c_a5_3 (d := 40) hS k3 r2 x1 z9]; exact go _ _ (by decide) (fun Q h1 hh => m_a5_3 (d := 40) hS hh (by omega))
    | w + 4, hw => omega
  | 6, _ =>
    match w', hw4 with
    | 0, _ => rw [show nI 0 = (0 : Int32) from rfl, c_a6_0 (d := 40) hS k3 r2 x1 z9]; exact go _ _ (by decide) (fun Q h1 hh => m_a6_0 (d := 40) hS hh (by omega))
    | 1, _ => rw [show nI 1 = (1 : Int32) from rfl, c_a6_1 (d := 40) hS k3 r2 x1 z9]; exact go _ _ (by decide) (fun Q h1 hh => m_a6_1 (d := 40) hS hh (by omega))
    | 2, _ => rw [show nI 2 = (2 : Int32) from rfl, c_a6_2 (d := 40) hS k3 r2 x1 z9]; exact go _ _ (by decide) (fun Q h1 hh => m_a6_2 (d := 40) hS hh (by omega))
    | 3, _ => rw [show nI 3 = (3 : Int32) from rfl, c_a6_3 (d := 40) hS k3 r2 x1 z9]; exact go _ _ (by decide) (fun Q h1 hh => m_a6_3 (d := 40) hS hh (by omega))
    | w + 4, hw => omega
  | 7, _ =>
    match w', hw4 with
    | 0, _ => rw [show nI 0 = (0 : Int32) from rfl, c_a7_0 (d := 40) hS k3 r2 x1 z9]; exact go _ _ (by decide) (fun Q h1 hh => m_a7_0 (d := 40) hS hh (by omega))
    | 1, _ => rw [show nI 1 = (1 : Int32) from rfl, c_a7_1 (d := 40) hS k3 r2 x1 z9]; exact go _ _ (by decide) (fun Q h1 hh => m_a7_1 (d := 40) hS hh (by omega))
    | 2, _ => rw [show nI 2 = (2 : Int32) from rfl, c_a7_2 (d := 40) hS k3 r2 x1 z9]; exact go _ _ (by decide) (fun Q h1 hh => m_a7_2 (d := 40) hS hh (by omega))
    | 3, _ => rw [show nI 3 = (3 : Int32) from rfl, c_a7_3 (d := 40) hS k3 r2 x1 z9]; exact go _ _ (by decide) (fun Q h1 hh => m_a7_3 (d := 40) hS hh (by omega))
    | w + 4, hw => omega
  | K + 8, hK => omega
end QA
