/-! ===== the model's hours ===== -/
/-- frogs back by it, as bits, run on -/
def cbL (W : LW) : Nat → Nat → BB → Int32 → Int32
  | _, 0, _, a => a
  | f, k + 1, b, a => cbL W (f + 1) k (goB W f b) (if b1B W f b = 1 then a ||| ((1 : Int32) <<< (nI f &&& 31)) else a)
theorem goB_d {W : LW} {f : Nat} {b : BB} : goB W f b = if b 4 f = -1 then b else if b 6 1 < b 6 0 then up2 b 5 f (b 5 f - lossB W b f)
  else if nearB (b 2 f) (b 0 (ix (b 4 f))) = b 0 (ix (b 4 f)) then
    up2 (up2 (up2 (up2 (up2 b 5 f (b 5 f - lossB W b f)) 2 f (nearB (b 2 f) (b 0 (ix (b 4 f))))) 1 (ix (b 4 f)) (imin 99 (b 1 (ix (b 4 f)) + (b 5 f - lossB W b f)))) 4 f (-1)) 5 f 0
  else up2 (up2 b 5 f (b 5 f - lossB W b f)) 2 f (nearB (b 2 f) (b 0 (ix (b 4 f)))) := rfl
theorem fL_s {W : LW} {f k : Nat} {b : BB} : fL W f (k + 1) b = lossB W b f + fL W (f + 1) k (goB W f b) := rfl
theorem fB_s {W : LW} {f k : Nat} {b : BB} : fB W f (k + 1) b = fB W (f + 1) k (goB W f b) := rfl
theorem fK_s {W : LW} {f k : Nat} {b : BB} : fK W f (k + 1) b = b1B W f b + fK W (f + 1) k (goB W f b) := rfl
theorem cbL_s {W : LW} {f k : Nat} {b : BB} {a : Int32} : cbL W f (k + 1) b a = cbL W (f + 1) k (goB W f b) (if b1B W f b = 1 then a ||| ((1 : Int32) <<< (nI f &&& 31)) else a) := rfl
section GM
variable {d : Nat} {M : Mem} {h h0 h1 : Hp} {j : Jp} {r : Rp} {E : EE} {Q : Option PV → Mem → Prop} {G F : Nat} {W : LW} {b bt : BB}
theorem m_goes {f : Nat} (D : DD G F W b h r E) (hf : f < F) (h4 : b 4 f ≠ -1) (hQ : ∀ h', FrG h h' → DD G F W (goB W f b) h' r E → h' 113 38 = h 113 38 + lossB W b f → h' 113 39 = (if b1B W f b = 1 then h 113 39 ||| ((1 : Int32) <<< (nI f &&& 31)) else h 113 39) → h' 138 0 = (if b1B W f b = 1 then gvB W f b else h 138 0) → Q none (mm h' j r E)) :
    WP (d + 5) 187 0 [some (vr 113), some (vi (nI f)), none, none] [] (mm h j r E) Q := by
  have hS := D.S
  have hF8 := D.F8
  have hG8 := D.G8
  have hf8 : f < 8 := by omega
  have hi : ∀ c, c ≤ 40 → inb (nI (c + f)) 48 = True := fun c hc => eq_true (by rw [inb_n (by omega)]; omega)
  have hx : ∀ c, c ≤ 40 → ix (nI (c + f)) = c + f := fun c hc => ix_n (by omega)
  have e4 := D.v4 hf
  have hg := (D.w.a4 hf).resolve_left h4
  obtain ⟨g, hgG, eg, _⟩ := inb_of hg
  have hw : WF G F (goB W f b) := D.w.go hf
  simp only [k187_0, k187_1, k187_2, k187_5, k187_6, k187_7, k187_8, k187_11, k187_12, k187_13, k187_13i, k187_14, k187_17, k187_18, k187_19, k187_22, k187_23, k187_26, k187_28, k187_29, k187_30, k187_31, k187_32, k187_33, k187_34, k187_35, k187_36, k187_39, k187_40, k187_41, k187_42, k187_45, k187_46, k187_47, k187_50, k187_51, k187_52, k187_55, k187_57, k187_58, k187_59, k187_60, k187_63, k187_65, k187_66, k187_67, k187_68, k187_69, k187_72, k187_73, k187_74, k187_77, k187_78, k187_79, k187_82, k187_84, k187_85, k187_86, k187_87, k187_88, k187_91, k187_92, k187_93, k187_96, k187_97, k187_98, k187_101, k187_103, k187_104, k187_105, k187_107, k187_108, k187_111, k187_113, k187_114, k187_115, k187_116, k187_117, k187_118, k187_121, k187_122, k187_125, k187_126, k187_127, k187_130, k187_131, k187_132, k187_133, k187_136, k187_137, k187_138, k187_141, k187_143, k187_144, k187_145, k187_146, k187_147, k187_148, k187_151, k187_153, k187_154, k187_155, k187_156, k187_157, k187_158, k187_158i, k187_159, k187_162, k187_163, k187_164, k187_165, k187_166, k187_169, mm_sI, mm_sJ, mm_sR, mm_cI, mm_cJ, mm_I, mm_J, mm_R, mm_K, mm_N, psh_s, psh_n, z_n, z_i, z_r, z_l, Nat.reduceAdd, Nat.reduceLeDiff, K113 hS, R113_2 hS, R113_3 hS, R113_5 hS, R113_8 hS, R113_9 hS, R113_10 hS, R113_11 hS, R113_16 hS, R113_17 hS, R113_18 hS, R113_19 hS, R113_20 hS, R113_21 hS, R113_22 hS, R113_26 hS, R113_27 hS, R113_30 hS, R113_32 hS, R113_34 hS, R113_35 hS, R113_36 hS, R113_37 hS, R113_40 hS, R113_41 hS, R113_42 hS, R113_43 hS, R113_44 hS, R113_45 hS, R113_47 hS, K114 hS, K115 hS, K116 hS, K117 hS, K118 hS, K119 hS, K120 hS, K121 hS, K122 hS, K123 hS, K124 hS, K125 hS, K126 hS, K127 hS, K128 hS, K129 hS, K130 hS, K131 hS, K132 hS, K133 hS, K134 hS, K135 hS, K136 hS, K137 hS, K138 hS, K139 hS, K140 hS, K141 hS, K142 hS, N114 hS, N115 hS, N116 hS, N117 hS, N118 hS, N119 hS, N120 hS, N121 hS, N122 hS, N123 hS, N124 hS, N125 hS, N126 hS, N127 hS, N128 hS, N129 hS, N130 hS, N131 hS, N132 hS, N133 hS, N134 hS, N135 hS, N136 hS, N137 hS, N138 hS, N139 hS, N140 hS, N141 hS, N142 hS, ne_eq, true_or, or_true, not_false_eq_true, Nat.reduceEqDiff, Nat.reduceLT, Nat.reduceLeDiff, Nat.reduceAdd, m_owes hS hf8, e4]
  refine m_losesBy D hf ?_
  intro h2 hs
  have a113 := hs 113 (by decide) (by decide)
  have a114 := hs 114 (by decide) (by decide)
  have a115 := hs 115 (by decide) (by decide)
  have a138 := hs 138 (by decide) (by decide)
  have hg48 : inb (nI g) 48 = True := eq_true (by rw [inb_n (by omega)]; omega)
  have hxg : ix (nI g) = g := ix_n (by omega)
  have hig : inb (nI (8 + g)) 48 = True := eq_true (by rw [inb_n (by omega)]; omega)
  have hx8 : ix (nI (8 + g)) = 8 + g := ix_n (by omega)
  have z1 : (16 + f = 40 + f) = False := by apply eq_false; omega
  have z2 : (g = 40 + f) = False := by apply eq_false; omega
  have z3 : (g = 16 + f) = False := by apply eq_false; omega
  have z4 : (8 + g = 40 + f) = False := by apply eq_false; omega
  have z5 : (8 + g = 16 + f) = False := by apply eq_false; omega
  have z6 : (40 + f = 16 + f) = False := by apply eq_false; omega
  have z7 : (40 + f = 8 + g) = False := by apply eq_false; omega
  have hn : nearM (b 2 f) (b 0 g) = nearB (b 2 f) (b 0 g) := nearM_B (D.w.a2 hf) (D.w.a0 hgG)
  have q2 : bM h2 G F = b := by rw [← D.eb]; exact bM_eq hG8 hF8 (fun i _ => by rw [a114]) (fun i _ => by rw [a115])
  have hb1 := b1_bk (W := W) (b := b) (f := f)
  have hgo := goB_d (W := W) (f := f) (b := b)
  simp only [k187_0, k187_1, k187_2, k187_5, k187_6, k187_7, k187_8, k187_11, k187_12, k187_13, k187_13i, k187_14, k187_17, k187_18, k187_19, k187_22, k187_23, k187_26, k187_28, k187_29, k187_30, k187_31, k187_32, k187_33, k187_34, k187_35, k187_36, k187_39, k187_40, k187_41, k187_42, k187_45, k187_46, k187_47, k187_50, k187_51, k187_52, k187_55, k187_57, k187_58, k187_59, k187_60, k187_63, k187_65, k187_66, k187_67, k187_68, k187_69, k187_72, k187_73, k187_74, k187_77, k187_78, k187_79, k187_82, k187_84, k187_85, k187_86, k187_87, k187_88, k187_91, k187_92, k187_93, k187_96, k187_97, k187_98, k187_101, k187_103, k187_104, k187_105, k187_107, k187_108, k187_111, k187_113, k187_114, k187_115, k187_116, k187_117, k187_118, k187_121, k187_122, k187_125, k187_126, k187_127, k187_130, k187_131, k187_132, k187_133, k187_136, k187_137, k187_138, k187_141, k187_143, k187_144, k187_145, k187_146, k187_147, k187_148, k187_151, k187_153, k187_154, k187_155, k187_156, k187_157, k187_158, k187_158i, k187_159, k187_162, k187_163, k187_164, k187_165, k187_166, k187_169, mm_sI, mm_sJ, mm_sR, mm_cI, mm_cJ, mm_I, mm_J, mm_R, mm_K, mm_N, psh_s, psh_n, z_n, z_i, z_r, z_l, Nat.reduceAdd, Nat.reduceLeDiff, K113 hS, R113_2 hS, R113_3 hS, R113_5 hS, R113_8 hS, R113_9 hS, R113_10 hS, R113_11 hS, R113_16 hS, R113_17 hS, R113_18 hS, R113_19 hS, R113_20 hS, R113_21 hS, R113_22 hS, R113_26 hS, R113_27 hS, R113_30 hS, R113_32 hS, R113_34 hS, R113_35 hS, R113_36 hS, R113_37 hS, R113_40 hS, R113_41 hS, R113_42 hS, R113_43 hS, R113_44 hS, R113_45 hS, R113_47 hS, K114 hS, K115 hS, K116 hS, K117 hS, K118 hS, K119 hS, K120 hS, K121 hS, K122 hS, K123 hS, K124 hS, K125 hS, K126 hS, K127 hS, K128 hS, K129 hS, K130 hS, K131 hS, K132 hS, K133 hS, K134 hS, K135 hS, K136 hS, K137 hS, K138 hS, K139 hS, K140 hS, K141 hS, K142 hS, N114 hS, N115 hS, N116 hS, N117 hS, N118 hS, N119 hS, N120 hS, N121 hS, N122 hS, N123 hS, N124 hS, N125 hS, N126 hS, N127 hS, N128 hS, N129 hS, N130 hS, N131 hS, N132 hS, N133 hS, N134 hS, N135 hS, N136 hS, N137 hS, N138 hS, N139 hS, N140 hS, N141 hS, N142 hS, ne_eq, true_or, or_true, not_false_eq_true, Nat.reduceEqDiff, Nat.reduceLT, Nat.reduceLeDiff, Nat.reduceAdd, inb_c0, ix_c0, inb_c1, ix_c1, inb_c2, ix_c2, inb_c3, ix_c3, inb_c4, ix_c4, inb_c5, ix_c5, inb_c6, ix_c6, inb_c7, ix_c7, inb_c8, ix_c8, inb_c32, ix_c32, up2_s, up2_ai, up2_i, a113, a114, a115, a138, a40, a16, hi, hx, D.v5 hf, D.v2 hf, D.vh, D.vt, eg, hg48, hxg, z1, z2, z3, z4, z5, z6, z7, m_nearer, D.v0 hgG, hn]
  have bas : FrG h (up2 (up2 h2 113 38 (h 113 38 + lossB W b f)) 114 (40 + f) (b 5 f - lossB W b f)) := FrG.w114 (FrG.w113 (FrG.ls FrG.rf hs) (Or.inl rfl)) (by omega)
  rw [if_neg h4, eg, hxg] at hgo
  by_cases c1 : b 6 1 < b 6 0
  · have c1' : ¬ b 6 0 ≤ b 6 1 := Int32.not_le.2 c1
    have eb : b1B W f b = 0 := by unfold b1B; rw [if_neg h4, if_pos c1]
    simp only [c1', if_false]
    rw [if_pos c1] at hgo
    have hb : bM (up2 (up2 h2 113 38 (h 113 38 + lossB W b f)) 114 (40 + f) (b 5 f - lossB W b f)) G F = goB W f b := by
      rw [bMw5 hG8 hF8 hf, bMwx (by decide) (by decide), q2]; exact hgo.symm
    refine hQ _ bas (D.go bas hb hw) ?_ ?_ ?_
    · simp only [up2_s, up2_ai, up2_i, ne_eq, true_or, or_true, not_false_eq_true, Nat.reduceEqDiff, Nat.reduceLT, Nat.reduceLeDiff, Nat.reduceAdd]
    · simp only [up2_s, up2_ai, up2_i, ne_eq, true_or, or_true, not_false_eq_true, Nat.reduceEqDiff, Nat.reduceLT, Nat.reduceLeDiff, Nat.reduceAdd, a113, eb, e01, if_false]
    · simp only [up2_s, up2_ai, up2_i, ne_eq, true_or, or_true, not_false_eq_true, Nat.reduceEqDiff, Nat.reduceLT, Nat.reduceLeDiff, Nat.reduceAdd, a138, eb, e01, if_false]
  · have c1' : b 6 0 ≤ b 6 1 := Int32.not_lt.1 c1
    simp only [c1', if_true]
    rw [if_neg c1] at hgo
    by_cases c2 : nearB (b 2 f) (b 0 g) = b 0 g
    · have eb : b1B W f b = 1 := by unfold b1B; rw [if_neg h4, if_neg c1, eg, hxg, if_pos c2]
      have ev : gvB W f b = b 5 f - lossB W b f := by unfold gvB; rw [if_neg h4, if_neg c1, eg, hxg, if_pos c2]
      have n1 := D.v1 hgG
      rw [if_pos c2] at hgo
      simp only [k187_0, k187_1, k187_2, k187_5, k187_6, k187_7, k187_8, k187_11, k187_12, k187_13, k187_13i, k187_14, k187_17, k187_18, k187_19, k187_22, k187_23, k187_26, k187_28, k187_29, k187_30, k187_31, k187_32, k187_33, k187_34, k187_35, k187_36, k187_39, k187_40, k187_41, k187_42, k187_45, k187_46, k187_47, k187_50, k187_51, k187_52, k187_55, k187_57, k187_58, k187_59, k187_60, k187_63, k187_65, k187_66, k187_67, k187_68, k187_69, k187_72, k187_73, k187_74, k187_77, k187_78, k187_79, k187_82, k187_84, k187_85, k187_86, k187_87, k187_88, k187_91, k187_92, k187_93, k187_96, k187_97, k187_98, k187_101, k187_103, k187_104, k187_105, k187_107, k187_108, k187_111, k187_113, k187_114, k187_115, k187_116, k187_117, k187_118, k187_121, k187_122, k187_125, k187_126, k187_127, k187_130, k187_131, k187_132, k187_133, k187_136, k187_137, k187_138, k187_141, k187_143, k187_144, k187_145, k187_146, k187_147, k187_148, k187_151, k187_153, k187_154, k187_155, k187_156, k187_157, k187_158, k187_158i, k187_159, k187_162, k187_163, k187_164, k187_165, k187_166, k187_169, mm_sI, mm_sJ, mm_sR, mm_cI, mm_cJ, mm_I, mm_J, mm_R, mm_K, mm_N, psh_s, psh_n, z_n, z_i, z_r, z_l, Nat.reduceAdd, Nat.reduceLeDiff, K113 hS, R113_2 hS, R113_3 hS, R113_5 hS, R113_8 hS, R113_9 hS, R113_10 hS, R113_11 hS, R113_16 hS, R113_17 hS, R113_18 hS, R113_19 hS, R113_20 hS, R113_21 hS, R113_22 hS, R113_26 hS, R113_27 hS, R113_30 hS, R113_32 hS, R113_34 hS, R113_35 hS, R113_36 hS, R113_37 hS, R113_40 hS, R113_41 hS, R113_42 hS, R113_43 hS, R113_44 hS, R113_45 hS, R113_47 hS, K114 hS, K115 hS, K116 hS, K117 hS, K118 hS, K119 hS, K120 hS, K121 hS, K122 hS, K123 hS, K124 hS, K125 hS, K126 hS, K127 hS, K128 hS, K129 hS, K130 hS, K131 hS, K132 hS, K133 hS, K134 hS, K135 hS, K136 hS, K137 hS, K138 hS, K139 hS, K140 hS, K141 hS, K142 hS, N114 hS, N115 hS, N116 hS, N117 hS, N118 hS, N119 hS, N120 hS, N121 hS, N122 hS, N123 hS, N124 hS, N125 hS, N126 hS, N127 hS, N128 hS, N129 hS, N130 hS, N131 hS, N132 hS, N133 hS, N134 hS, N135 hS, N136 hS, N137 hS, N138 hS, N139 hS, N140 hS, N141 hS, N142 hS, ne_eq, true_or, or_true, not_false_eq_true, Nat.reduceEqDiff, Nat.reduceLT, Nat.reduceLeDiff, Nat.reduceAdd, inb_c0, ix_c0, inb_c1, ix_c1, inb_c2, ix_c2, inb_c3, ix_c3, inb_c4, ix_c4, inb_c5, ix_c5, inb_c6, ix_c6, inb_c7, ix_c7, inb_c8, ix_c8, inb_c32, ix_c32, up2_s, up2_ai, up2_i, c2, if_true, a8, a32, a40, hi, hx, hig, hx8, a113, a114, z4, z5, z6, z7, n1, m_held hS hf8]
      have fr := FrG.w113 (FrG.w114 (FrG.w114 (FrG.w138 (FrG.w114 (FrG.w114 bas (i := 16 + f) (v := b 0 g) (by omega)) (i := 8 + g) (v := imin 99 (b 1 g + (b 5 f - lossB W b f))) (by omega)) (v := b 5 f - lossB W b f)) (i := 32 + f) (v := -1) (by omega)) (i := 40 + f) (v := 0) (by omega)) (i := 39) (v := h 113 39 ||| ((1 : Int32) <<< (nI f &&& 31))) (Or.inr rfl)
      refine hQ _ fr (D.go fr ?_ hw) ?_ ?_ ?_
      · rw [bMwx (by decide) (by decide), bMw5 hG8 hF8 hf, bMw4 hG8 hF8 hf, bMwx (by decide) (by decide), bMw1 hG8 hF8 hgG, bMw2 hG8 hF8 hf, bMw5 hG8 hF8 hf, bMwx (by decide) (by decide), q2, hgo, c2]; rfl
      · simp only [up2_s, up2_ai, up2_i, ne_eq, true_or, or_true, not_false_eq_true, Nat.reduceEqDiff, Nat.reduceLT, Nat.reduceLeDiff, Nat.reduceAdd]
      · simp only [up2_s, up2_ai, up2_i, ne_eq, true_or, or_true, not_false_eq_true, Nat.reduceEqDiff, Nat.reduceLT, Nat.reduceLeDiff, Nat.reduceAdd, eb, if_true]
      · simp only [up2_s, up2_ai, up2_i, ne_eq, true_or, or_true, not_false_eq_true, Nat.reduceEqDiff, Nat.reduceLT, Nat.reduceLeDiff, Nat.reduceAdd, eb, if_true, ev]
    · have eb : b1B W f b = 0 := by unfold b1B; rw [if_neg h4, if_neg c1, eg, hxg, if_neg c2]
      rw [if_neg c2] at hgo
      have fr := FrG.w114 bas (i := 16 + f) (v := nearB (b 2 f) (b 0 g)) (by omega)
      simp only [k187_0, k187_1, k187_2, k187_5, k187_6, k187_7, k187_8, k187_11, k187_12, k187_13, k187_13i, k187_14, k187_17, k187_18, k187_19, k187_22, k187_23, k187_26, k187_28, k187_29, k187_30, k187_31, k187_32, k187_33, k187_34, k187_35, k187_36, k187_39, k187_40, k187_41, k187_42, k187_45, k187_46, k187_47, k187_50, k187_51, k187_52, k187_55, k187_57, k187_58, k187_59, k187_60, k187_63, k187_65, k187_66, k187_67, k187_68, k187_69, k187_72, k187_73, k187_74, k187_77, k187_78, k187_79, k187_82, k187_84, k187_85, k187_86, k187_87, k187_88, k187_91, k187_92, k187_93, k187_96, k187_97, k187_98, k187_101, k187_103, k187_104, k187_105, k187_107, k187_108, k187_111, k187_113, k187_114, k187_115, k187_116, k187_117, k187_118, k187_121, k187_122, k187_125, k187_126, k187_127, k187_130, k187_131, k187_132, k187_133, k187_136, k187_137, k187_138, k187_141, k187_143, k187_144, k187_145, k187_146, k187_147, k187_148, k187_151, k187_153, k187_154, k187_155, k187_156, k187_157, k187_158, k187_158i, k187_159, k187_162, k187_163, k187_164, k187_165, k187_166, k187_169, mm_sI, mm_sJ, mm_sR, mm_cI, mm_cJ, mm_I, mm_J, mm_R, mm_K, mm_N, psh_s, psh_n, z_n, z_i, z_r, z_l, Nat.reduceAdd, Nat.reduceLeDiff, K113 hS, R113_2 hS, R113_3 hS, R113_5 hS, R113_8 hS, R113_9 hS, R113_10 hS, R113_11 hS, R113_16 hS, R113_17 hS, R113_18 hS, R113_19 hS, R113_20 hS, R113_21 hS, R113_22 hS, R113_26 hS, R113_27 hS, R113_30 hS, R113_32 hS, R113_34 hS, R113_35 hS, R113_36 hS, R113_37 hS, R113_40 hS, R113_41 hS, R113_42 hS, R113_43 hS, R113_44 hS, R113_45 hS, R113_47 hS, K114 hS, K115 hS, K116 hS, K117 hS, K118 hS, K119 hS, K120 hS, K121 hS, K122 hS, K123 hS, K124 hS, K125 hS, K126 hS, K127 hS, K128 hS, K129 hS, K130 hS, K131 hS, K132 hS, K133 hS, K134 hS, K135 hS, K136 hS, K137 hS, K138 hS, K139 hS, K140 hS, K141 hS, K142 hS, N114 hS, N115 hS, N116 hS, N117 hS, N118 hS, N119 hS, N120 hS, N121 hS, N122 hS, N123 hS, N124 hS, N125 hS, N126 hS, N127 hS, N128 hS, N129 hS, N130 hS, N131 hS, N132 hS, N133 hS, N134 hS, N135 hS, N136 hS, N137 hS, N138 hS, N139 hS, N140 hS, N141 hS, N142 hS, ne_eq, true_or, or_true, not_false_eq_true, Nat.reduceEqDiff, Nat.reduceLT, Nat.reduceLeDiff, Nat.reduceAdd, c2, if_false]
      refine hQ _ fr (D.go fr ?_ hw) ?_ ?_ ?_
      · rw [bMw2 hG8 hF8 hf, bMw5 hG8 hF8 hf, bMwx (by decide) (by decide), q2, hgo]
      · simp only [up2_s, up2_ai, up2_i, ne_eq, true_or, or_true, not_false_eq_true, Nat.reduceEqDiff, Nat.reduceLT, Nat.reduceLeDiff, Nat.reduceAdd]
      · simp only [up2_s, up2_ai, up2_i, ne_eq, true_or, or_true, not_false_eq_true, Nat.reduceEqDiff, Nat.reduceLT, Nat.reduceLeDiff, Nat.reduceAdd, a113, eb, e01, if_false]
      · simp only [up2_s, up2_ai, up2_i, ne_eq, true_or, or_true, not_false_eq_true, Nat.reduceEqDiff, Nat.reduceLT, Nat.reduceLeDiff, Nat.reduceAdd, a138, eb, e01, if_false]
/-- the hour's number goes on -/
theorem m_nxt (D : DD G F W b h r E) : FrG h (up2 h 115 1 (nxt (b 6 1))) ∧ DD G F W (endB b) (up2 h 115 1 (nxt (b 6 1))) r E := by
  have fr : FrG h (up2 h 115 1 (nxt (b 6 1))) := FrG.rf.w115
  exact ⟨fr, D.go fr (by rw [bMwh, D.eb]; rfl) D.w.en⟩
theorem go_no {f : Nat} (h4 : b 4 f = -1) : goB W f b = b := by unfold goB; rw [if_pos h4]
theorem m_passL : ∀ {k f : Nat} {h : Hp} {b : BB}, f + k = F → DD G F W b h r E →
    (∀ h', FrG h h' → DD G F W (endB (fB W f k b)) h' r E → h' 113 38 = h 113 38 + fL W f k b → h' 113 39 = cbL W f k b (h 113 39) → Q none (mm h' j r E)) →
    WP (d + 6) 188 12 [some (vr 113), some (vi (nI f))] [] (mm h j r E) Q := by
  have h120 : ((12 : Int32) = 0) = False := by simp
  intro k
  induction k with
  | zero =>
    intro f h b hk D hQ
    have : f = F := by omega
    subst this
    have hS := D.S
    obtain ⟨fr, D2⟩ := m_nxt D
    have := hQ _ fr D2 (by simp only [up2_s, up2_ai, up2_i, ne_eq, true_or, or_true, not_false_eq_true, Nat.reduceEqDiff, Nat.reduceLT, Nat.reduceLeDiff, Nat.reduceAdd, up2, if_false]; simp [fL]) (by simp only [up2, ne_eq, true_or, or_true, not_false_eq_true, Nat.reduceEqDiff, Nat.reduceLT, Nat.reduceLeDiff, Nat.reduceAdd, if_false]; rfl)
    rw [k188_12]
    simp only [k188_0, k188_1, k188_2, k188_5, k188_6, k188_7, k188_10, k188_11, k188_13, k188_14, k188_17, k188_20, k188_21, k188_22, k188_25, k188_26, k188_29, k188_30, k188_31, k188_34, k188_37, k188_40, k188_41, k188_44, k188_45, k188_46, k188_49, k188_50, k188_51, k188_52, k188_53, k188_55, k188_56, k188_57, mm_sI, mm_sJ, mm_sR, mm_cI, mm_cJ, mm_I, mm_J, mm_R, mm_K, mm_N, psh_s, psh_n, z_n, z_i, z_r, z_l, Nat.reduceAdd, Nat.reduceLeDiff, K113 hS, R113_2 hS, R113_3 hS, R113_5 hS, R113_8 hS, R113_9 hS, R113_10 hS, R113_11 hS, R113_16 hS, R113_17 hS, R113_18 hS, R113_19 hS, R113_20 hS, R113_21 hS, R113_22 hS, R113_26 hS, R113_27 hS, R113_30 hS, R113_32 hS, R113_34 hS, R113_35 hS, R113_36 hS, R113_37 hS, R113_40 hS, R113_41 hS, R113_42 hS, R113_43 hS, R113_44 hS, R113_45 hS, R113_47 hS, K114 hS, K115 hS, K116 hS, K117 hS, K118 hS, K119 hS, K120 hS, K121 hS, K122 hS, K123 hS, K124 hS, K125 hS, K126 hS, K127 hS, K128 hS, K129 hS, K130 hS, K131 hS, K132 hS, K133 hS, K134 hS, K135 hS, K136 hS, K137 hS, K138 hS, K139 hS, K140 hS, K141 hS, K142 hS, N114 hS, N115 hS, N116 hS, N117 hS, N118 hS, N119 hS, N120 hS, N121 hS, N122 hS, N123 hS, N124 hS, N125 hS, N126 hS, N127 hS, N128 hS, N129 hS, N130 hS, N131 hS, N132 hS, N133 hS, N134 hS, N135 hS, N136 hS, N137 hS, N138 hS, N139 hS, N140 hS, N141 hS, N142 hS, ne_eq, true_or, or_true, not_false_eq_true, Nat.reduceEqDiff, Nat.reduceLT, Nat.reduceLeDiff, Nat.reduceAdd, inb_c0, ix_c0, inb_c1, ix_c1, inb_c2, ix_c2, inb_c3, ix_c3, inb_c4, ix_c4, inb_c5, ix_c5, inb_c6, ix_c6, inb_c7, ix_c7, inb_c8, ix_c8, inb_c32, ix_c32, D.eF, D.vh, Int32.le_refl, if_true, h120, nxtM D.w.ah]
    exact this
  | succ k ih =>
    intro f h b hk D hQ
    have hS := D.S
    have hF8 := D.F8
    have hfF : f < F := by omega
    rw [k188_12]
    simp only [k188_0, k188_1, k188_2, k188_5, k188_6, k188_7, k188_10, k188_11, k188_13, k188_14, k188_17, k188_20, k188_21, k188_22, k188_25, k188_26, k188_29, k188_30, k188_31, k188_34, k188_37, k188_40, k188_41, k188_44, k188_45, k188_46, k188_49, k188_50, k188_51, k188_52, k188_53, k188_55, k188_56, k188_57, mm_sI, mm_sJ, mm_sR, mm_cI, mm_cJ, mm_I, mm_J, mm_R, mm_K, mm_N, psh_s, psh_n, z_n, z_i, z_r, z_l, Nat.reduceAdd, Nat.reduceLeDiff, K113 hS, R113_2 hS, R113_3 hS, R113_5 hS, R113_8 hS, R113_9 hS, R113_10 hS, R113_11 hS, R113_16 hS, R113_17 hS, R113_18 hS, R113_19 hS, R113_20 hS, R113_21 hS, R113_22 hS, R113_26 hS, R113_27 hS, R113_30 hS, R113_32 hS, R113_34 hS, R113_35 hS, R113_36 hS, R113_37 hS, R113_40 hS, R113_41 hS, R113_42 hS, R113_43 hS, R113_44 hS, R113_45 hS, R113_47 hS, K114 hS, K115 hS, K116 hS, K117 hS, K118 hS, K119 hS, K120 hS, K121 hS, K122 hS, K123 hS, K124 hS, K125 hS, K126 hS, K127 hS, K128 hS, K129 hS, K130 hS, K131 hS, K132 hS, K133 hS, K134 hS, K135 hS, K136 hS, K137 hS, K138 hS, K139 hS, K140 hS, K141 hS, K142 hS, N114 hS, N115 hS, N116 hS, N117 hS, N118 hS, N119 hS, N120 hS, N121 hS, N122 hS, N123 hS, N124 hS, N125 hS, N126 hS, N127 hS, N128 hS, N129 hS, N130 hS, N131 hS, N132 hS, N133 hS, N134 hS, N135 hS, N136 hS, N137 hS, N138 hS, N139 hS, N140 hS, N141 hS, N142 hS, ne_eq, true_or, or_true, not_false_eq_true, Nat.reduceEqDiff, Nat.reduceLT, Nat.reduceLeDiff, Nat.reduceAdd, inb_c0, ix_c0, inb_c1, ix_c1, inb_c2, ix_c2, inb_c3, ix_c3, inb_c4, ix_c4, inb_c5, ix_c5, inb_c6, ix_c6, inb_c7, ix_c7, inb_c8, ix_c8, inb_c32, ix_c32, D.eF, nLe (show F < 2 ^ 31 by omega) (show f < 2 ^ 31 by omega), show ¬ F ≤ f by omega, if_false, m_owes hS (show f < 8 by omega), D.v4 hfF]
    by_cases c : b 4 f = -1
    · simp only [c, if_true, nS1]
      have l0 : lossB W b f = 0 := by unfold lossB; rw [if_pos c]
      have b0 : b1B W f b = 0 := by unfold b1B; rw [if_pos c]
      refine ih (by omega) D ?_
      intro h' fr D2 e1 e2
      refine hQ h' fr ?_ ?_ ?_
      · rw [fB_s, go_no c]; exact D2
      · rw [e1, fL_s, go_no c, l0, Int32.zero_add]
      · rw [e2, cbL_s, go_no c, b0, if_neg (by decide)]
    · simp only [c, if_false]
      refine m_goes D hfF c ?_
      intro h1 fr D1 e1 e2 _
      simp only [k188_0, k188_1, k188_2, k188_5, k188_6, k188_7, k188_10, k188_11, k188_13, k188_14, k188_17, k188_20, k188_21, k188_22, k188_25, k188_26, k188_29, k188_30, k188_31, k188_34, k188_37, k188_40, k188_41, k188_44, k188_45, k188_46, k188_49, k188_50, k188_51, k188_52, k188_53, k188_55, k188_56, k188_57, mm_sI, mm_sJ, mm_sR, mm_cI, mm_cJ, mm_I, mm_J, mm_R, mm_K, mm_N, psh_s, psh_n, z_n, z_i, z_r, z_l, Nat.reduceAdd, Nat.reduceLeDiff, nS1]
      refine ih (by omega) D1 ?_
      intro h' fr' D2 e1' e2'
      refine hQ h' (fr.tr fr') D2 ?_ ?_
      · rw [e1', e1, fL_s, Int32.add_assoc]
      · rw [e2', e2]; rfl
theorem m_passes (D : DD G F W b h r E) (hQ : ∀ h', FrG h h' → DD G F W (hrB W F b) h' r E → h' 113 38 = fL W 0 F b → h' 113 39 = cbL W 0 F b 0 → Q none (mm h' j r E)) :
    WP (d + 6) 188 0 [some (vr 113), none] [] (mm h j r E) Q := by
  have hS := D.S
  have fr0 : FrG h (up2 (up2 h 113 38 0) 113 39 0) := FrG.w113 (FrG.w113 FrG.rf (Or.inl rfl)) (Or.inr rfl)
  have D0 : DD G F W b (up2 (up2 h 113 38 0) 113 39 0) r E := D.go fr0 (by rw [bMwx (by decide) (by decide), bMwx (by decide) (by decide), D.eb]) D.w
  simp only [k188_0, k188_1, k188_2, k188_5, k188_6, k188_7, k188_10, k188_11, k188_13, k188_14, k188_17, k188_20, k188_21, k188_22, k188_25, k188_26, k188_29, k188_30, k188_31, k188_34, k188_37, k188_40, k188_41, k188_44, k188_45, k188_46, k188_49, k188_50, k188_51, k188_52, k188_53, k188_55, k188_56, k188_57, mm_sI, mm_sJ, mm_sR, mm_cI, mm_cJ, mm_I, mm_J, mm_R, mm_K, mm_N, psh_s, psh_n, z_n, z_i, z_r, z_l, Nat.reduceAdd, Nat.reduceLeDiff, K113 hS, R113_2 hS, R113_3 hS, R113_5 hS, R113_8 hS, R113_9 hS, R113_10 hS, R113_11 hS, R113_16 hS, R113_17 hS, R113_18 hS, R113_19 hS, R113_20 hS, R113_21 hS, R113_22 hS, R113_26 hS, R113_27 hS, R113_30 hS, R113_32 hS, R113_34 hS, R113_35 hS, R113_36 hS, R113_37 hS, R113_40 hS, R113_41 hS, R113_42 hS, R113_43 hS, R113_44 hS, R113_45 hS, R113_47 hS, K114 hS, K115 hS, K116 hS, K117 hS, K118 hS, K119 hS, K120 hS, K121 hS, K122 hS, K123 hS, K124 hS, K125 hS, K126 hS, K127 hS, K128 hS, K129 hS, K130 hS, K131 hS, K132 hS, K133 hS, K134 hS, K135 hS, K136 hS, K137 hS, K138 hS, K139 hS, K140 hS, K141 hS, K142 hS, N114 hS, N115 hS, N116 hS, N117 hS, N118 hS, N119 hS, N120 hS, N121 hS, N122 hS, N123 hS, N124 hS, N125 hS, N126 hS, N127 hS, N128 hS, N129 hS, N130 hS, N131 hS, N132 hS, N133 hS, N134 hS, N135 hS, N136 hS, N137 hS, N138 hS, N139 hS, N140 hS, N141 hS, N142 hS, ne_eq, true_or, or_true, not_false_eq_true, Nat.reduceEqDiff, Nat.reduceLT, Nat.reduceLeDiff, Nat.reduceAdd]
  refine m_passL (f := 0) (k := F) (by omega) D0 ?_
  intro h' fr D' e1 e2
  refine hQ h' (fr0.tr fr) D' ?_ ?_
  · rw [e1]; simp [up2]
  · rw [e2]; simp [up2]
theorem m_goesOn : ∀ {k i N : Nat} {h : Hp} {b : BB}, N ≤ 40 → i + k = N → DD G F W b h r E → (∀ h', FrG h h' → DD G F W (itB W F k b) h' r E → Q none (mm h' j r E)) →
    WP (d + 7) 189 2 [some (vr 113), some (vi (nI N)), some (vi (nI i))] [] (mm h j r E) Q := by
  intro k
  induction k with
  | zero =>
    intro i N h b hN hk D hQ
    have : i = N := by omega
    subst this
    rw [k189_2]
    simp only [k189_0, k189_1, k189_3, k189_4, k189_7, k189_8, k189_11, k189_14, k189_17, mm_sI, mm_sJ, mm_sR, mm_cI, mm_cJ, mm_I, mm_J, mm_R, mm_K, mm_N, psh_s, psh_n, z_n, z_i, z_r, z_l, Nat.reduceAdd, Nat.reduceLeDiff, ne_eq, true_or, or_true, not_false_eq_true, Nat.reduceEqDiff, Nat.reduceLT, Nat.reduceLeDiff, Nat.reduceAdd, Int32.le_refl, if_true]
    exact hQ h FrG.rf D
  | succ k ih =>
    intro i N h b hN hk D hQ
    have hS := D.S
    rw [k189_2]
    simp only [k189_0, k189_1, k189_3, k189_4, k189_7, k189_8, k189_11, k189_14, k189_17, mm_sI, mm_sJ, mm_sR, mm_cI, mm_cJ, mm_I, mm_J, mm_R, mm_K, mm_N, psh_s, psh_n, z_n, z_i, z_r, z_l, Nat.reduceAdd, Nat.reduceLeDiff, K113 hS, R113_2 hS, R113_3 hS, R113_5 hS, R113_8 hS, R113_9 hS, R113_10 hS, R113_11 hS, R113_16 hS, R113_17 hS, R113_18 hS, R113_19 hS, R113_20 hS, R113_21 hS, R113_22 hS, R113_26 hS, R113_27 hS, R113_30 hS, R113_32 hS, R113_34 hS, R113_35 hS, R113_36 hS, R113_37 hS, R113_40 hS, R113_41 hS, R113_42 hS, R113_43 hS, R113_44 hS, R113_45 hS, R113_47 hS, K114 hS, K115 hS, K116 hS, K117 hS, K118 hS, K119 hS, K120 hS, K121 hS, K122 hS, K123 hS, K124 hS, K125 hS, K126 hS, K127 hS, K128 hS, K129 hS, K130 hS, K131 hS, K132 hS, K133 hS, K134 hS, K135 hS, K136 hS, K137 hS, K138 hS, K139 hS, K140 hS, K141 hS, K142 hS, N114 hS, N115 hS, N116 hS, N117 hS, N118 hS, N119 hS, N120 hS, N121 hS, N122 hS, N123 hS, N124 hS, N125 hS, N126 hS, N127 hS, N128 hS, N129 hS, N130 hS, N131 hS, N132 hS, N133 hS, N134 hS, N135 hS, N136 hS, N137 hS, N138 hS, N139 hS, N140 hS, N141 hS, N142 hS, ne_eq, true_or, or_true, not_false_eq_true, Nat.reduceEqDiff, Nat.reduceLT, Nat.reduceLeDiff, Nat.reduceAdd, nLe (show N < 2 ^ 31 by omega) (show i < 2 ^ 31 by omega), show ¬ N ≤ i by omega, if_false]
    refine m_passes D ?_
    intro h1 fr D1 _ _
    simp only [k189_0, k189_1, k189_3, k189_4, k189_7, k189_8, k189_11, k189_14, k189_17, mm_sI, mm_sJ, mm_sR, mm_cI, mm_cJ, mm_I, mm_J, mm_R, mm_K, mm_N, psh_s, psh_n, z_n, z_i, z_r, z_l, Nat.reduceAdd, Nat.reduceLeDiff, nS1]
    refine ih hN (by omega) D1 ?_
    intro h' fr' D2
    exact hQ h' (fr.tr fr') D2
end GM
