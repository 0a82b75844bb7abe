/-! ===== loans, run over, hours in deed ===== -/
theorem up2_comm {α : Type} {f : Nat → Nat → α} {a c i k : Nat} {v w : α} (h : a ≠ c) : up2 (up2 f a i v) c k w = up2 (up2 f c k w) a i v := by
  funext x y; simp only [up2]
  by_cases h1 : x = a
  · subst h1; simp [h]
  · by_cases h2 : x = c
    · simp [h1, h2, Ne.symm h]
    · simp [h1, h2]
theorem pc_or_all : ∀ f : Fin 8, ∀ s : Fin 256, s.1 < 2 ^ f.1 → pcI (nI (s.1 ||| 2 ^ f.1)) = pcI (nI s.1) + 1 := by decide +kernel
theorem or_lt2 {s f : Nat} (h : s < 2 ^ f) : s ||| 2 ^ f < 2 ^ (f + 1) := Nat.or_lt_two_pow (by rw [Nat.pow_succ]; omega) (Nat.pow_lt_pow_right (by decide) (by omega))
/-- those back, counted as bits -/
theorem cb_pc {W : LW} : ∀ {k f s : Nat} {b : BB}, f + k ≤ 8 → s < 2 ^ f → pcI (cbL W f k b (nI s)) = pcI (nI s) + fK W f k b := by
  intro k
  induction k with
  | zero => intro f s b _ _; rw [cbL, fK, Int32.add_zero]
  | succ k ih =>
    intro f s b hk hs
    have tw := two_le (F := f) (by omega)
    rw [cbL_s, fK_s]
    by_cases c : b1B W f b = 1
    · rw [if_pos c, or_n (by omega) (by omega), ih (by omega) (or_lt2 hs), pc_or_all ⟨f, by omega⟩ ⟨s, by omega⟩ hs, c, Int32.add_assoc]
    · rw [if_neg c]
      have c0 : b1B W f b = 0 := by
        rw [b1_bk] at c ⊢
        by_cases q : bkB b f
        · rw [if_pos q] at c; exact absurd rfl c
        · rw [if_neg q]
      rw [ih (by omega) (by rw [Nat.pow_succ]; omega), c0, Int32.zero_add]
section LD
variable {d : Nat} {M : Mem} {h h0 h1 h2 : Hp} {j : Jp} {r : Rp} {E : EE} {l G F A n G' F' : Nat} {W : LW} {b bt bm b' : BB} {Q : Option PV → Mem → Prop}
theorem inI_u {G1 G2 : Nat} {x : Int32} (a : x = nI G1) (c : x = nI G2) (h1 : G1 ≤ 8) (h2 : G2 ≤ 8) : G1 = G2 := (nI_eq (by omega) (by omega)).1 (a.symm.trans c)
theorem FC.ofM {h1 : Hp} (hl : l = 27 ∨ l = 32) (f : FrM 3 l h h1) : FC h h1 := by
  refine ⟨fun x p q => f.1 x (by omega) (by omega) (by unfold scrA at p; omega) (by unfold scrA at p; omega) (by unfold scrA at p; omega), fun i hi => ?_, fun i _ _ _ => by rw [f.1 113 (by omega) (by omega) (by omega) (by omega) (by omega)]⟩
  rcases hl with rfl | rfl
  · exact ⟨f.2.1 i hi, by rw [f.1 32 (by omega) (by omega) (by omega) (by omega) (by omega)]⟩
  · exact ⟨by rw [f.1 27 (by omega) (by omega) (by omega) (by omega) (by omega)], f.2.1 i hi⟩
theorem FM.ofG {h1 : Hp} (f : FrG h h1) : FM h h1 := by
  refine ⟨fun x p q t u => f.1 x (by unfold scrA at p; omega) q t (by unfold scrA at p; omega) (by unfold scrA at p; omega) (by unfold scrA at p; omega), fun i hi => ⟨by rw [f.1 27 (by decide) (by decide) (by decide) (by decide) (by decide) (by decide)], by rw [f.1 32 (by decide) (by decide) (by decide) (by decide) (by decide) (by decide)]⟩, fun i _ _ p q _ => f.2.1 i p q⟩
theorem FM.tr (a : FM h h1) (c : FM h1 h2) : FM h h2 := ⟨fun x p q s t => (c.1 x p q s t).trans (a.1 x p q s t), fun i hi => ⟨((c.2.1 i hi).1).trans (a.2.1 i hi).1, ((c.2.1 i hi).2).trans (a.2.1 i hi).2⟩, fun i p q s t u => (c.2.2 i p q s t u).trans (a.2.2 i p q s t u)⟩
theorem q_hour (I : Inv h j r E) : Both 60 118 222 [some (vr 2)] [some (vr 113), none] (mm h j r E) := by
  refine both_m I ?_
  intro G F l W b C D L _
  have hS := C.S
  have hF8 := C.F8
  have e4 := C.rl
  refine ⟨G, F, hrB W F b, fK W 0 F b, ledH (h 10) (fL W 0 F b) (fK W 0 F b), Nat.le_refl _, Nat.le_refl _, ?_, ?_⟩
  · intro Q hQ
    simp only [k118_0, k118_1, k118_4, k118_5, k118_8, k118_11, mm_sI, mm_sJ, mm_sR, mm_cI, mm_cJ, mm_I, mm_J, mm_R, mm_K, mm_N, psh_s, psh_n, z_n, z_i, z_r, z_l, Nat.reduceAdd, Nat.reduceLeDiff, K2 hS, R2_0 hS, R2_1 hS, R2_2 hS, R2_6 hS, R2_8 hS, R2_11 hS, R2_12 hS, R2_13 hS, R2_15 hS, R2_16 hS, K3 hS, K11 hS, K19 hS, K27 hS, K32 hS, K37 hS, K98 hS, K99 hS, K100 hS, N37 hS, N98 hS, N99 hS, N100 hS, false_or, or_false, ne_eq, true_or, or_true, not_false_eq_true, Nat.reduceEqDiff, Nat.reduceLT, Nat.reduceLeDiff, Nat.reduceAdd, e4]
    refine WP.deep (d := 54 + 5) ?_ (by omega)
    refine s_passHour hS C.H3 C.HL C.G8 C.F8 (by rcases C.il with h | h <;> omega) C.L C.eG C.eF (by rw [C.eb]; exact C.w) ?_
    intro h1 fr e1 e2
    rw [C.eb] at e1 e2 ⊢
    simp only [k118_0, k118_1, k118_4, k118_5, k118_8, k118_11, mm_sI, mm_sJ, mm_sR, mm_cI, mm_cJ, mm_I, mm_J, mm_R, mm_K, mm_N, psh_s, psh_n, z_n, z_i, z_r, z_l, Nat.reduceAdd, Nat.reduceLeDiff, false_or, or_false, ne_eq, true_or, or_true, not_false_eq_true, Nat.reduceEqDiff, Nat.reduceLT, Nat.reduceLeDiff, Nat.reduceAdd]
    have fc := FC.ofM C.il fr
    refine hQ h1 fc (C.mk fc (by rw [fr.m7]; exact C.eG) (by rw [fr.m8]; exact C.eF) C.G8 C.F8 e1 C.w.hr) (fun i _ => ?_)
    rw [show h1 10 = h1 (3 + 7) from rfl, e2]
  · intro h1 f1 D1 Q hQ
    simp only [k222_0, k222_1, k222_4, k222_5, k222_8, k222_11, k222_12, k222_13, k222_16, k222_17, k222_18, k222_19, k222_20, k222_21, k222_22, k222_23, k222_26, k222_27, k222_28, k222_29, k222_30, k222_33, k222_34, k222_35, k222_36, k222_39, k222_40, k222_41, k222_42, k222_43, k222_44, k222_45, k222_46, mm_sI, mm_sJ, mm_sR, mm_cI, mm_cJ, mm_I, mm_J, mm_R, mm_K, mm_N, psh_s, psh_n, z_n, z_i, z_r, z_l, Nat.reduceAdd, Nat.reduceLeDiff, K113 hS, R113_2 hS, R113_3 hS, R113_5 hS, R113_8 hS, R113_9 hS, R113_10 hS, R113_11 hS, R113_16 hS, R113_17 hS, R113_18 hS, R113_19 hS, R113_20 hS, R113_21 hS, R113_22 hS, R113_26 hS, R113_27 hS, R113_30 hS, R113_32 hS, R113_34 hS, R113_35 hS, R113_36 hS, R113_37 hS, R113_40 hS, R113_41 hS, R113_42 hS, R113_43 hS, R113_44 hS, R113_45 hS, R113_47 hS, K114 hS, K115 hS, K116 hS, K117 hS, K118 hS, K119 hS, K120 hS, K121 hS, K122 hS, K123 hS, K124 hS, K125 hS, K126 hS, K127 hS, K128 hS, K129 hS, K130 hS, K131 hS, K132 hS, K133 hS, K134 hS, K135 hS, K136 hS, K137 hS, K138 hS, K139 hS, K140 hS, K141 hS, K142 hS, N114 hS, N115 hS, N116 hS, N117 hS, N118 hS, N119 hS, N120 hS, N121 hS, N122 hS, N123 hS, N124 hS, N125 hS, N126 hS, N127 hS, N128 hS, N129 hS, N130 hS, N131 hS, N132 hS, N133 hS, N134 hS, N135 hS, N136 hS, N137 hS, N138 hS, N139 hS, N140 hS, N141 hS, N142 hS, false_or, or_false, ne_eq, true_or, or_true, not_false_eq_true, Nat.reduceEqDiff, Nat.reduceLT, Nat.reduceLeDiff, Nat.reduceAdd]
    refine WP.deep (d := 53 + 6) ?_ (by omega)
    refine m_passes D1 ?_
    intro h2 fr D2 e1 e2
    have em : pcI (h2 113 39) = fK W 0 F b := by
      rw [e2, show (0 : Int32) = nI 0 from rfl, cb_pc (by omega) (by decide)]
      show pcI 0 + _ = _
      rw [show pcI 0 = 0 by decide, Int32.zero_add]
    have o127 : h2 127 = h1 127 := fr.1 127 (by decide) (by decide) (by decide) (by decide) (by decide) (by decide)
    simp only [k222_0, k222_1, k222_4, k222_5, k222_8, k222_11, k222_12, k222_13, k222_16, k222_17, k222_18, k222_19, k222_20, k222_21, k222_22, k222_23, k222_26, k222_27, k222_28, k222_29, k222_30, k222_33, k222_34, k222_35, k222_36, k222_39, k222_40, k222_41, k222_42, k222_43, k222_44, k222_45, k222_46, mm_sI, mm_sJ, mm_sR, mm_cI, mm_cJ, mm_I, mm_J, mm_R, mm_K, mm_N, psh_s, psh_n, z_n, z_i, z_r, z_l, Nat.reduceAdd, Nat.reduceLeDiff, K113 hS, R113_2 hS, R113_3 hS, R113_5 hS, R113_8 hS, R113_9 hS, R113_10 hS, R113_11 hS, R113_16 hS, R113_17 hS, R113_18 hS, R113_19 hS, R113_20 hS, R113_21 hS, R113_22 hS, R113_26 hS, R113_27 hS, R113_30 hS, R113_32 hS, R113_34 hS, R113_35 hS, R113_36 hS, R113_37 hS, R113_40 hS, R113_41 hS, R113_42 hS, R113_43 hS, R113_44 hS, R113_45 hS, R113_47 hS, K114 hS, K115 hS, K116 hS, K117 hS, K118 hS, K119 hS, K120 hS, K121 hS, K122 hS, K123 hS, K124 hS, K125 hS, K126 hS, K127 hS, K128 hS, K129 hS, K130 hS, K131 hS, K132 hS, K133 hS, K134 hS, K135 hS, K136 hS, K137 hS, K138 hS, K139 hS, K140 hS, K141 hS, K142 hS, N114 hS, N115 hS, N116 hS, N117 hS, N118 hS, N119 hS, N120 hS, N121 hS, N122 hS, N123 hS, N124 hS, N125 hS, N126 hS, N127 hS, N128 hS, N129 hS, N130 hS, N131 hS, N132 hS, N133 hS, N134 hS, N135 hS, N136 hS, N137 hS, N138 hS, N139 hS, N140 hS, N141 hS, N142 hS, inb_c0, ix_c0, inb_c1, ix_c1, inb_c2, ix_c2, inb_c3, ix_c3, inb_c4, ix_c4, inb_c5, ix_c5, inb_c6, ix_c6, inb_c7, ix_c7, inb_c8, ix_c8, inb_c32, ix_c32, false_or, or_false, ne_eq, true_or, or_true, not_false_eq_true, Nat.reduceEqDiff, Nat.reduceLT, Nat.reduceLeDiff, Nat.reduceAdd, s_bitCount, em, up2_s, up2_ai, up2_i, e1]
    have fm : FM h1 (up2 (up2 (up2 h2 127 0 (h2 127 0 + 1)) 127 2 (h2 127 2 + fL W 0 F b)) 127 3 (h2 127 3 + fK W 0 F b)) := FM.up (FM.up (FM.up (FM.ofG fr) (by decide)) (by decide)) (by decide)
    refine hQ _ fm (D1.mk fm ?_ ?_ D.G8 D.F8 ?_ D2.w) ?_
    · rw [up2_a (by decide), up2_a (by decide), up2_a (by decide)]; exact D2.eG
    · rw [up2_a (by decide), up2_a (by decide), up2_a (by decide)]; exact D2.eF
    · rw [bMwx (by decide) (by decide), bMwx (by decide) (by decide), bMwx (by decide) (by decide), D2.eb]
    · intro i hi
      have l0 : ∀ i, i < 5 → h2 127 i = h 10 i := fun i hi => by rw [o127, f1.1 127 (by unfold scrA; omega) (by omega)]; exact L i hi
      unfold ledH ledU
      match i, hi with
      | 0, _ => simp [up2, l0]
      | 1, _ => simp [up2, l0]
      | 2, _ => simp [up2, l0]
      | 3, _ => simp [up2, l0]
      | 4, _ => simp [up2, l0]
      | i + 5, hi => omega
theorem q_lends {gf x : Int32} (I : Inv h j r E) : Both 60 119 223 [some (vr 2), some (vi gf), some (vi x), none, none] [some (vr 113), some (vi gf), some (vi x)] (mm h j r E) := by
  have t10 : ((10 : Int32) = 0) = False := by simp
  obtain ⟨G, F, l, W, b, C, D, L, _⟩ := id I
  have hS := C.S
  have hG8 := C.G8
  have hF8 := C.F8
  by_cases c1 : pairP G F gf
  case neg =>
    refine both_q (a := -1) I (fun Q hQ => ?_) (fun h1 s Q hQ => ?_)
    · simp only [k119_0, k119_1, k119_2, k119_5, k119_8, k119_9, k119_10, k119_12, k119_15, k119_18, k119_19, k119_20, k119_21, k119_23, k119_24, k119_25, k119_26, k119_28, k119_29, k119_31, k119_32, k119_35, k119_38, k119_40, k119_41, k119_42, k119_45, k119_46, k119_49, k119_52, k119_53, k119_54, k119_55, k119_58, k119_60, k119_61, k119_62, k119_65, k119_66, k119_68, k119_69, k119_72, k119_73, k119_76, k119_79, k119_80, k119_81, k119_82, k119_83, k119_84, k119_85, k119_86, k119_89, k119_92, k119_93, k119_94, k119_95, k119_96, k119_97, k119_98, k119_99, k119_102, k119_105, k119_106, k119_107, mm_sI, mm_sJ, mm_sR, mm_cI, mm_cJ, mm_I, mm_J, mm_R, mm_K, mm_N, psh_s, psh_n, z_n, z_i, z_r, z_l, Nat.reduceAdd, Nat.reduceLeDiff, K2 hS, R2_0 hS, R2_1 hS, R2_2 hS, R2_6 hS, R2_8 hS, R2_11 hS, R2_12 hS, R2_13 hS, R2_15 hS, R2_16 hS, K3 hS, K11 hS, K19 hS, K27 hS, K32 hS, K37 hS, K98 hS, K99 hS, K100 hS, N37 hS, N98 hS, N99 hS, N100 hS, false_or, or_false, ne_eq, true_or, or_true, not_false_eq_true, Nat.reduceEqDiff, Nat.reduceLT, Nat.reduceLeDiff, Nat.reduceAdd, c_isPair C, b2i_f c1, if_true]; exact hQ h ScrD.rf
    · simp only [k223_0, k223_1, k223_2, k223_5, k223_8, k223_9, k223_10, k223_12, k223_15, k223_18, k223_19, k223_20, k223_21, k223_22, k223_24, k223_25, k223_28, k223_29, k223_32, k223_33, k223_36, k223_38, k223_39, k223_41, k223_42, k223_43, k223_44, k223_45, k223_48, k223_50, k223_51, k223_52, k223_55, k223_57, k223_58, k223_60, k223_61, k223_62, k223_63, k223_64, k223_65, k223_66, k223_67, k223_68, k223_71, k223_73, k223_74, k223_76, k223_77, k223_78, k223_79, k223_81, k223_82, k223_83, k223_84, k223_87, k223_89, k223_90, k223_92, k223_93, k223_94, k223_95, k223_96, k223_97, k223_100, k223_101, k223_102, k223_103, k223_104, k223_105, k223_106, k223_107, k223_110, k223_112, k223_113, k223_115, k223_116, k223_117, k223_118, mm_sI, mm_sJ, mm_sR, mm_cI, mm_cJ, mm_I, mm_J, mm_R, mm_K, mm_N, psh_s, psh_n, z_n, z_i, z_r, z_l, Nat.reduceAdd, Nat.reduceLeDiff, K113 hS, R113_2 hS, R113_3 hS, R113_5 hS, R113_8 hS, R113_9 hS, R113_10 hS, R113_11 hS, R113_16 hS, R113_17 hS, R113_18 hS, R113_19 hS, R113_20 hS, R113_21 hS, R113_22 hS, R113_26 hS, R113_27 hS, R113_30 hS, R113_32 hS, R113_34 hS, R113_35 hS, R113_36 hS, R113_37 hS, R113_40 hS, R113_41 hS, R113_42 hS, R113_43 hS, R113_44 hS, R113_45 hS, R113_47 hS, K114 hS, K115 hS, K116 hS, K117 hS, K118 hS, K119 hS, K120 hS, K121 hS, K122 hS, K123 hS, K124 hS, K125 hS, K126 hS, K127 hS, K128 hS, K129 hS, K130 hS, K131 hS, K132 hS, K133 hS, K134 hS, K135 hS, K136 hS, K137 hS, K138 hS, K139 hS, K140 hS, K141 hS, K142 hS, N114 hS, N115 hS, N116 hS, N117 hS, N118 hS, N119 hS, N120 hS, N121 hS, N122 hS, N123 hS, N124 hS, N125 hS, N126 hS, N127 hS, N128 hS, N129 hS, N130 hS, N131 hS, N132 hS, N133 hS, N134 hS, N135 hS, N136 hS, N137 hS, N138 hS, N139 hS, N140 hS, N141 hS, N142 hS, false_or, or_false, ne_eq, true_or, or_true, not_false_eq_true, Nat.reduceEqDiff, Nat.reduceLT, Nat.reduceLeDiff, Nat.reduceAdd, m_isPair (D.frD s), b2i_f c1, if_true]; exact hQ h1 ScrD.rf
  by_cases c2 : 1 ≤ x ∧ x ≤ 99
  case neg =>
    refine both_q (a := -1) I (fun Q hQ => ?_) (fun h1 s Q hQ => ?_)
    · simp only [k119_0, k119_1, k119_2, k119_5, k119_8, k119_9, k119_10, k119_12, k119_15, k119_18, k119_19, k119_20, k119_21, k119_23, k119_24, k119_25, k119_26, k119_28, k119_29, k119_31, k119_32, k119_35, k119_38, k119_40, k119_41, k119_42, k119_45, k119_46, k119_49, k119_52, k119_53, k119_54, k119_55, k119_58, k119_60, k119_61, k119_62, k119_65, k119_66, k119_68, k119_69, k119_72, k119_73, k119_76, k119_79, k119_80, k119_81, k119_82, k119_83, k119_84, k119_85, k119_86, k119_89, k119_92, k119_93, k119_94, k119_95, k119_96, k119_97, k119_98, k119_99, k119_102, k119_105, k119_106, k119_107, mm_sI, mm_sJ, mm_sR, mm_cI, mm_cJ, mm_I, mm_J, mm_R, mm_K, mm_N, psh_s, psh_n, z_n, z_i, z_r, z_l, Nat.reduceAdd, Nat.reduceLeDiff, K2 hS, R2_0 hS, R2_1 hS, R2_2 hS, R2_6 hS, R2_8 hS, R2_11 hS, R2_12 hS, R2_13 hS, R2_15 hS, R2_16 hS, K3 hS, K11 hS, K19 hS, K27 hS, K32 hS, K37 hS, K98 hS, K99 hS, K100 hS, N37 hS, N98 hS, N99 hS, N100 hS, false_or, or_false, ne_eq, true_or, or_true, not_false_eq_true, Nat.reduceEqDiff, Nat.reduceLT, Nat.reduceLeDiff, Nat.reduceAdd, c_isPair C, s_within, b2i_t c1, b2i_f c2, e10, if_false, if_true]; exact hQ h ScrD.rf
    · simp only [k223_0, k223_1, k223_2, k223_5, k223_8, k223_9, k223_10, k223_12, k223_15, k223_18, k223_19, k223_20, k223_21, k223_22, k223_24, k223_25, k223_28, k223_29, k223_32, k223_33, k223_36, k223_38, k223_39, k223_41, k223_42, k223_43, k223_44, k223_45, k223_48, k223_50, k223_51, k223_52, k223_55, k223_57, k223_58, k223_60, k223_61, k223_62, k223_63, k223_64, k223_65, k223_66, k223_67, k223_68, k223_71, k223_73, k223_74, k223_76, k223_77, k223_78, k223_79, k223_81, k223_82, k223_83, k223_84, k223_87, k223_89, k223_90, k223_92, k223_93, k223_94, k223_95, k223_96, k223_97, k223_100, k223_101, k223_102, k223_103, k223_104, k223_105, k223_106, k223_107, k223_110, k223_112, k223_113, k223_115, k223_116, k223_117, k223_118, mm_sI, mm_sJ, mm_sR, mm_cI, mm_cJ, mm_I, mm_J, mm_R, mm_K, mm_N, psh_s, psh_n, z_n, z_i, z_r, z_l, Nat.reduceAdd, Nat.reduceLeDiff, K113 hS, R113_2 hS, R113_3 hS, R113_5 hS, R113_8 hS, R113_9 hS, R113_10 hS, R113_11 hS, R113_16 hS, R113_17 hS, R113_18 hS, R113_19 hS, R113_20 hS, R113_21 hS, R113_22 hS, R113_26 hS, R113_27 hS, R113_30 hS, R113_32 hS, R113_34 hS, R113_35 hS, R113_36 hS, R113_37 hS, R113_40 hS, R113_41 hS, R113_42 hS, R113_43 hS, R113_44 hS, R113_45 hS, R113_47 hS, K114 hS, K115 hS, K116 hS, K117 hS, K118 hS, K119 hS, K120 hS, K121 hS, K122 hS, K123 hS, K124 hS, K125 hS, K126 hS, K127 hS, K128 hS, K129 hS, K130 hS, K131 hS, K132 hS, K133 hS, K134 hS, K135 hS, K136 hS, K137 hS, K138 hS, K139 hS, K140 hS, K141 hS, K142 hS, N114 hS, N115 hS, N116 hS, N117 hS, N118 hS, N119 hS, N120 hS, N121 hS, N122 hS, N123 hS, N124 hS, N125 hS, N126 hS, N127 hS, N128 hS, N129 hS, N130 hS, N131 hS, N132 hS, N133 hS, N134 hS, N135 hS, N136 hS, N137 hS, N138 hS, N139 hS, N140 hS, N141 hS, N142 hS, false_or, or_false, ne_eq, true_or, or_true, not_false_eq_true, Nat.reduceEqDiff, Nat.reduceLT, Nat.reduceLeDiff, Nat.reduceAdd, m_isPair (D.frD s), s_within', b2i_t c1, b2i_f c2, e10, if_false, if_true]; exact hQ h1 ScrD.rf
  obtain ⟨g, hg, eg, hg2⟩ := inb_of c1.2.1
  obtain ⟨f, hf, ef, hf2⟩ := inb_of c1.2.2
  have hg8 : inb (nI g) 8 = True := eq_true (by rw [inb_n (by omega)]; omega)
  have hf8 : inb (nI f) 8 = True := eq_true (by rw [inb_n (by omega)]; omega)
  have xg : ix (nI g) = g := ix_n hg2
  have xf : ix (nI f) = f := ix_n hf2
  have hi : ∀ c, c ≤ 40 → inb (nI (c + f)) 48 = True := fun c hc => eq_true (by rw [inb_n (by omega)]; omega)
  have hx : ∀ c, c ≤ 40 → ix (nI (c + f)) = c + f := fun c hc => ix_n (by omega)
  have hi8 : inb (nI (8 + g)) 48 = True := eq_true (by rw [inb_n (by omega)]; omega)
  have hx8 : ix (nI (8 + g)) = 8 + g := ix_n (by omega)
  by_cases c3 : b 4 f = -1
  case neg =>
    refine both_q (a := -5) I (fun Q hQ => ?_) (fun h1 s Q hQ => ?_)
    · simp only [k119_0, k119_1, k119_2, k119_5, k119_8, k119_9, k119_10, k119_12, k119_15, k119_18, k119_19, k119_20, k119_21, k119_23, k119_24, k119_25, k119_26, k119_28, k119_29, k119_31, k119_32, k119_35, k119_38, k119_40, k119_41, k119_42, k119_45, k119_46, k119_49, k119_52, k119_53, k119_54, k119_55, k119_58, k119_60, k119_61, k119_62, k119_65, k119_66, k119_68, k119_69, k119_72, k119_73, k119_76, k119_79, k119_80, k119_81, k119_82, k119_83, k119_84, k119_85, k119_86, k119_89, k119_92, k119_93, k119_94, k119_95, k119_96, k119_97, k119_98, k119_99, k119_102, k119_105, k119_106, k119_107, mm_sI, mm_sJ, mm_sR, mm_cI, mm_cJ, mm_I, mm_J, mm_R, mm_K, mm_N, psh_s, psh_n, z_n, z_i, z_r, z_l, Nat.reduceAdd, Nat.reduceLeDiff, K2 hS, R2_0 hS, R2_1 hS, R2_2 hS, R2_6 hS, R2_8 hS, R2_11 hS, R2_12 hS, R2_13 hS, R2_15 hS, R2_16 hS, K3 hS, K11 hS, K19 hS, K27 hS, K32 hS, K37 hS, K98 hS, K99 hS, K100 hS, N37 hS, N98 hS, N99 hS, N100 hS, R3_0 hS, R3_1 hS, R3_2 hS, R3_3 hS, R3_4 hS, R3_5 hS, R3_6 hS, K4 hS, K5 hS, K6 hS, K7 hS, K8 hS, K9 hS, K10 hS, N4 hS, N5 hS, N6 hS, N7 hS, N8 hS, N9 hS, N10 hS, false_or, or_false, ne_eq, true_or, or_true, not_false_eq_true, Nat.reduceEqDiff, Nat.reduceLT, Nat.reduceLeDiff, Nat.reduceAdd, c_isPair C, s_within, b2i_t c1, b2i_t c2, e10, if_false, t10, eg, ef, hf8, xf, c_v4 C hf, c3]; exact hQ h ScrD.rf
    · simp only [k223_0, k223_1, k223_2, k223_5, k223_8, k223_9, k223_10, k223_12, k223_15, k223_18, k223_19, k223_20, k223_21, k223_22, k223_24, k223_25, k223_28, k223_29, k223_32, k223_33, k223_36, k223_38, k223_39, k223_41, k223_42, k223_43, k223_44, k223_45, k223_48, k223_50, k223_51, k223_52, k223_55, k223_57, k223_58, k223_60, k223_61, k223_62, k223_63, k223_64, k223_65, k223_66, k223_67, k223_68, k223_71, k223_73, k223_74, k223_76, k223_77, k223_78, k223_79, k223_81, k223_82, k223_83, k223_84, k223_87, k223_89, k223_90, k223_92, k223_93, k223_94, k223_95, k223_96, k223_97, k223_100, k223_101, k223_102, k223_103, k223_104, k223_105, k223_106, k223_107, k223_110, k223_112, k223_113, k223_115, k223_116, k223_117, k223_118, mm_sI, mm_sJ, mm_sR, mm_cI, mm_cJ, mm_I, mm_J, mm_R, mm_K, mm_N, psh_s, psh_n, z_n, z_i, z_r, z_l, Nat.reduceAdd, Nat.reduceLeDiff, K113 hS, R113_2 hS, R113_3 hS, R113_5 hS, R113_8 hS, R113_9 hS, R113_10 hS, R113_11 hS, R113_16 hS, R113_17 hS, R113_18 hS, R113_19 hS, R113_20 hS, R113_21 hS, R113_22 hS, R113_26 hS, R113_27 hS, R113_30 hS, R113_32 hS, R113_34 hS, R113_35 hS, R113_36 hS, R113_37 hS, R113_40 hS, R113_41 hS, R113_42 hS, R113_43 hS, R113_44 hS, R113_45 hS, R113_47 hS, K114 hS, K115 hS, K116 hS, K117 hS, K118 hS, K119 hS, K120 hS, K121 hS, K122 hS, K123 hS, K124 hS, K125 hS, K126 hS, K127 hS, K128 hS, K129 hS, K130 hS, K131 hS, K132 hS, K133 hS, K134 hS, K135 hS, K136 hS, K137 hS, K138 hS, K139 hS, K140 hS, K141 hS, K142 hS, N114 hS, N115 hS, N116 hS, N117 hS, N118 hS, N119 hS, N120 hS, N121 hS, N122 hS, N123 hS, N124 hS, N125 hS, N126 hS, N127 hS, N128 hS, N129 hS, N130 hS, N131 hS, N132 hS, N133 hS, N134 hS, N135 hS, N136 hS, N137 hS, N138 hS, N139 hS, N140 hS, N141 hS, N142 hS, false_or, or_false, ne_eq, true_or, or_true, not_false_eq_true, Nat.reduceEqDiff, Nat.reduceLT, Nat.reduceLeDiff, Nat.reduceAdd, m_isPair (D.frD s), s_within', b2i_t c1, b2i_t c2, e10, if_false, t10, eg, ef, m_owes hS (show f < 8 by omega), (D.frD s).v4 hf, c3]; exact hQ h1 ScrD.rf
  by_cases c4 : b 1 g < x
  · refine both_q (a := -5) I (fun Q hQ => ?_) (fun h1 s Q hQ => ?_)
    · simp only [k119_0, k119_1, k119_2, k119_5, k119_8, k119_9, k119_10, k119_12, k119_15, k119_18, k119_19, k119_20, k119_21, k119_23, k119_24, k119_25, k119_26, k119_28, k119_29, k119_31, k119_32, k119_35, k119_38, k119_40, k119_41, k119_42, k119_45, k119_46, k119_49, k119_52, k119_53, k119_54, k119_55, k119_58, k119_60, k119_61, k119_62, k119_65, k119_66, k119_68, k119_69, k119_72, k119_73, k119_76, k119_79, k119_80, k119_81, k119_82, k119_83, k119_84, k119_85, k119_86, k119_89, k119_92, k119_93, k119_94, k119_95, k119_96, k119_97, k119_98, k119_99, k119_102, k119_105, k119_106, k119_107, mm_sI, mm_sJ, mm_sR, mm_cI, mm_cJ, mm_I, mm_J, mm_R, mm_K, mm_N, psh_s, psh_n, z_n, z_i, z_r, z_l, Nat.reduceAdd, Nat.reduceLeDiff, K2 hS, R2_0 hS, R2_1 hS, R2_2 hS, R2_6 hS, R2_8 hS, R2_11 hS, R2_12 hS, R2_13 hS, R2_15 hS, R2_16 hS, K3 hS, K11 hS, K19 hS, K27 hS, K32 hS, K37 hS, K98 hS, K99 hS, K100 hS, N37 hS, N98 hS, N99 hS, N100 hS, R3_0 hS, R3_1 hS, R3_2 hS, R3_3 hS, R3_4 hS, R3_5 hS, R3_6 hS, K4 hS, K5 hS, K6 hS, K7 hS, K8 hS, K9 hS, K10 hS, N4 hS, N5 hS, N6 hS, N7 hS, N8 hS, N9 hS, N10 hS, false_or, or_false, ne_eq, true_or, or_true, not_false_eq_true, Nat.reduceEqDiff, Nat.reduceLT, Nat.reduceLeDiff, Nat.reduceAdd, c_isPair C, s_within, b2i_t c1, b2i_t c2, e10, if_false, if_true, t10, eg, ef, hf8, xf, hg8, xg, c_v4 C hf, c_v1 C hg, c3, Int32.not_le.2 c4]; exact hQ h ScrD.rf
    · simp only [k223_0, k223_1, k223_2, k223_5, k223_8, k223_9, k223_10, k223_12, k223_15, k223_18, k223_19, k223_20, k223_21, k223_22, k223_24, k223_25, k223_28, k223_29, k223_32, k223_33, k223_36, k223_38, k223_39, k223_41, k223_42, k223_43, k223_44, k223_45, k223_48, k223_50, k223_51, k223_52, k223_55, k223_57, k223_58, k223_60, k223_61, k223_62, k223_63, k223_64, k223_65, k223_66, k223_67, k223_68, k223_71, k223_73, k223_74, k223_76, k223_77, k223_78, k223_79, k223_81, k223_82, k223_83, k223_84, k223_87, k223_89, k223_90, k223_92, k223_93, k223_94, k223_95, k223_96, k223_97, k223_100, k223_101, k223_102, k223_103, k223_104, k223_105, k223_106, k223_107, k223_110, k223_112, k223_113, k223_115, k223_116, k223_117, k223_118, mm_sI, mm_sJ, mm_sR, mm_cI, mm_cJ, mm_I, mm_J, mm_R, mm_K, mm_N, psh_s, psh_n, z_n, z_i, z_r, z_l, Nat.reduceAdd, Nat.reduceLeDiff, K113 hS, R113_2 hS, R113_3 hS, R113_5 hS, R113_8 hS, R113_9 hS, R113_10 hS, R113_11 hS, R113_16 hS, R113_17 hS, R113_18 hS, R113_19 hS, R113_20 hS, R113_21 hS, R113_22 hS, R113_26 hS, R113_27 hS, R113_30 hS, R113_32 hS, R113_34 hS, R113_35 hS, R113_36 hS, R113_37 hS, R113_40 hS, R113_41 hS, R113_42 hS, R113_43 hS, R113_44 hS, R113_45 hS, R113_47 hS, K114 hS, K115 hS, K116 hS, K117 hS, K118 hS, K119 hS, K120 hS, K121 hS, K122 hS, K123 hS, K124 hS, K125 hS, K126 hS, K127 hS, K128 hS, K129 hS, K130 hS, K131 hS, K132 hS, K133 hS, K134 hS, K135 hS, K136 hS, K137 hS, K138 hS, K139 hS, K140 hS, K141 hS, K142 hS, N114 hS, N115 hS, N116 hS, N117 hS, N118 hS, N119 hS, N120 hS, N121 hS, N122 hS, N123 hS, N124 hS, N125 hS, N126 hS, N127 hS, N128 hS, N129 hS, N130 hS, N131 hS, N132 hS, N133 hS, N134 hS, N135 hS, N136 hS, N137 hS, N138 hS, N139 hS, N140 hS, N141 hS, N142 hS, false_or, or_false, ne_eq, true_or, or_true, not_false_eq_true, Nat.reduceEqDiff, Nat.reduceLT, Nat.reduceLeDiff, Nat.reduceAdd, m_isPair (D.frD s), s_within', b2i_t c1, b2i_t c2, e10, if_false, if_true, t10, eg, ef, m_owes hS (show f < 8 by omega), (D.frD s).v4 hf, a8, hi8, hx8, (D.frD s).v1 hg, c3, Int32.not_le.2 c4]; exact hQ h1 ScrD.rf
  · have c4' := Int32.not_lt.1 c4
    refine both_m I ?_
    intro G0 F0 l0 W0 b0 C0 D0 L0 _
    have eG : G0 = G := inI_u C0.eG C.eG C0.G8 C.G8
    have eF : F0 = F := inI_u C0.eF C.eF C0.F8 C.F8
    subst eG; subst eF
    have eb : b0 = b := by rw [← C0.eb, ← C.eb]
    subst eb
    have w1 : WF G0 F0 (up2 (up2 (up2 b0 1 g (b0 1 g - x)) 4 f (nI g)) 5 f x) := by
      refine WF.up (WF.up (WF.up C.w (k := 1) ?_) (k := 4) (Or.inr (by rw [inb_n hg2]; exact hg))) (k := 5) (in_1_99 c2)
      show inb (b0 1 g - x) 100
      have q1 := inb_i (C.w.a1 hg)
      have q2 := (iLe _ _).1 c4'
      have q3 := inb_i (in_1_99 c2)
      rw [inbI, subI (by omega) (by omega)]; omega
    refine ⟨G0, F0, up2 (up2 (up2 b0 1 g (b0 1 g - x)) 4 f (nI g)) 5 f x, b0 1 g - x, fun i => if i = 1 then h 10 1 + 1 else h 10 i, Nat.le_refl _, Nat.le_refl _, ?_, ?_⟩
    · intro Q hQ
      simp only [k119_0, k119_1, k119_2, k119_5, k119_8, k119_9, k119_10, k119_12, k119_15, k119_18, k119_19, k119_20, k119_21, k119_23, k119_24, k119_25, k119_26, k119_28, k119_29, k119_31, k119_32, k119_35, k119_38, k119_40, k119_41, k119_42, k119_45, k119_46, k119_49, k119_52, k119_53, k119_54, k119_55, k119_58, k119_60, k119_61, k119_62, k119_65, k119_66, k119_68, k119_69, k119_72, k119_73, k119_76, k119_79, k119_80, k119_81, k119_82, k119_83, k119_84, k119_85, k119_86, k119_89, k119_92, k119_93, k119_94, k119_95, k119_96, k119_97, k119_98, k119_99, k119_102, k119_105, k119_106, k119_107, mm_sI, mm_sJ, mm_sR, mm_cI, mm_cJ, mm_I, mm_J, mm_R, mm_K, mm_N, psh_s, psh_n, z_n, z_i, z_r, z_l, Nat.reduceAdd, Nat.reduceLeDiff, K2 hS, R2_0 hS, R2_1 hS, R2_2 hS, R2_6 hS, R2_8 hS, R2_11 hS, R2_12 hS, R2_13 hS, R2_15 hS, R2_16 hS, K3 hS, K11 hS, K19 hS, K27 hS, K32 hS, K37 hS, K98 hS, K99 hS, K100 hS, N37 hS, N98 hS, N99 hS, N100 hS, R3_0 hS, R3_1 hS, R3_2 hS, R3_3 hS, R3_4 hS, R3_5 hS, R3_6 hS, K4 hS, K5 hS, K6 hS, K7 hS, K8 hS, K9 hS, K10 hS, N4 hS, N5 hS, N6 hS, N7 hS, N8 hS, N9 hS, N10 hS, inb_c0, ix_c0, inb_c1, ix_c1, inb_c2, ix_c2, inb_c3, ix_c3, inb_c4, ix_c4, inb_c5, ix_c5, inb_c6, ix_c6, inb_c7, ix_c7, inb_c8, ix_c8, inb_c32, ix_c32, false_or, or_false, ne_eq, true_or, or_true, not_false_eq_true, Nat.reduceEqDiff, Nat.reduceLT, Nat.reduceLeDiff, Nat.reduceAdd, c_isPair C, s_within, b2i_t c1, b2i_t c2, e10, if_false, if_true, t10, eg, ef, hf8, xf, hg8, xg, c_v4 C hf, c_v1 C hg, c3, c4', s_lend C.H3 (show f < 8 by omega), up2_s, up2_ai, up2_i]
      have fc : FC h (up2 (up2 (up2 (up2 h (3 + 5) f (nI g)) (3 + 6) f x) 5 g (b0 1 g - x)) 10 1 (h 10 1 + 1)) := FC.up (FC.up (FC.up (FC.up FC.rf (by decide)) (by decide)) (by decide)) (by decide)
      refine hQ _ fc (C0.mk fc ?_ ?_ C.G8 C.F8 ?_ w1) ?_
      · rw [up2_a (by decide), up2_a (by decide), up2_a (by decide), up2_a (by decide)]; exact C.eG
      · rw [up2_a (by decide), up2_a (by decide), up2_a (by decide), up2_a (by decide)]; exact C.eF
      · have q := @bCw7 (up2 (up2 (up2 h (3 + 5) f (nI g)) (3 + 6) f x) 5 g (b0 1 g - x)) 3 1 G0 F0 (h 10 1 + 1)
        rw [show (3 + 7 : Nat) = 10 from rfl] at q
        rw [q]
        have q1 := @bCw1 (up2 (up2 h (3 + 5) f (nI g)) (3 + 6) f x) 3 g G0 F0 (b0 1 g - x) hg
        rw [show (3 + 2 : Nat) = 5 from rfl] at q1
        rw [q1, bCw5 hf, bCw4 hf, C.eb, up2_comm (show (5 : Nat) ≠ 1 by decide), up2_comm (show (4 : Nat) ≠ 1 by decide)]
      · intro i hi
        show _ = if i = 1 then h 10 1 + 1 else h 10 i
        by_cases e : i = 1
        · subst e; rw [up2_s, if_pos rfl]
        · rw [up2_i e, up2_a (by decide), up2_a (by decide), up2_a (by decide), if_neg e]
    · intro h1 f1 D1 Q hQ
      have o127 : ∀ i, i < 5 → h1 127 i = h 10 i := fun i hi => by rw [f1.1 127 (by unfold scrA; omega) (by omega)]; exact L i hi
      have z1 : (8 + g = 40 + f) = False := by apply eq_false; omega
      have z2 : (8 + g = 32 + f) = False := by apply eq_false; omega
      simp only [k223_0, k223_1, k223_2, k223_5, k223_8, k223_9, k223_10, k223_12, k223_15, k223_18, k223_19, k223_20, k223_21, k223_22, k223_24, k223_25, k223_28, k223_29, k223_32, k223_33, k223_36, k223_38, k223_39, k223_41, k223_42, k223_43, k223_44, k223_45, k223_48, k223_50, k223_51, k223_52, k223_55, k223_57, k223_58, k223_60, k223_61, k223_62, k223_63, k223_64, k223_65, k223_66, k223_67, k223_68, k223_71, k223_73, k223_74, k223_76, k223_77, k223_78, k223_79, k223_81, k223_82, k223_83, k223_84, k223_87, k223_89, k223_90, k223_92, k223_93, k223_94, k223_95, k223_96, k223_97, k223_100, k223_101, k223_102, k223_103, k223_104, k223_105, k223_106, k223_107, k223_110, k223_112, k223_113, k223_115, k223_116, k223_117, k223_118, mm_sI, mm_sJ, mm_sR, mm_cI, mm_cJ, mm_I, mm_J, mm_R, mm_K, mm_N, psh_s, psh_n, z_n, z_i, z_r, z_l, Nat.reduceAdd, Nat.reduceLeDiff, K113 hS, R113_2 hS, R113_3 hS, R113_5 hS, R113_8 hS, R113_9 hS, R113_10 hS, R113_11 hS, R113_16 hS, R113_17 hS, R113_18 hS, R113_19 hS, R113_20 hS, R113_21 hS, R113_22 hS, R113_26 hS, R113_27 hS, R113_30 hS, R113_32 hS, R113_34 hS, R113_35 hS, R113_36 hS, R113_37 hS, R113_40 hS, R113_41 hS, R113_42 hS, R113_43 hS, R113_44 hS, R113_45 hS, R113_47 hS, K114 hS, K115 hS, K116 hS, K117 hS, K118 hS, K119 hS, K120 hS, K121 hS, K122 hS, K123 hS, K124 hS, K125 hS, K126 hS, K127 hS, K128 hS, K129 hS, K130 hS, K131 hS, K132 hS, K133 hS, K134 hS, K135 hS, K136 hS, K137 hS, K138 hS, K139 hS, K140 hS, K141 hS, K142 hS, N114 hS, N115 hS, N116 hS, N117 hS, N118 hS, N119 hS, N120 hS, N121 hS, N122 hS, N123 hS, N124 hS, N125 hS, N126 hS, N127 hS, N128 hS, N129 hS, N130 hS, N131 hS, N132 hS, N133 hS, N134 hS, N135 hS, N136 hS, N137 hS, N138 hS, N139 hS, N140 hS, N141 hS, N142 hS, inb_c0, ix_c0, inb_c1, ix_c1, inb_c2, ix_c2, inb_c3, ix_c3, inb_c4, ix_c4, inb_c5, ix_c5, inb_c6, ix_c6, inb_c7, ix_c7, inb_c8, ix_c8, inb_c32, ix_c32, false_or, or_false, ne_eq, true_or, or_true, not_false_eq_true, Nat.reduceEqDiff, Nat.reduceLT, Nat.reduceLeDiff, Nat.reduceAdd, m_isPair D1, s_within', b2i_t c1, b2i_t c2, e10, if_false, if_true, t10, eg, ef, m_owes hS (show f < 8 by omega), D1.v4 hf, a8, a32, a40, hi, hx, hi8, hx8, D1.v1 hg, c3, c4', up2_s, up2_ai, up2_i, z1, z2]
      have fm : FM h1 (up2 (up2 (up2 (up2 h1 114 (8 + g) (b0 1 g - x)) 114 (32 + f) (nI g)) 114 (40 + f) x) 127 1 (h1 127 1 + 1)) := FM.up (FM.up (FM.up (FM.up FM.rf (by decide)) (by decide)) (by decide)) (by decide)
      refine hQ _ fm (D1.mk fm ?_ ?_ C.G8 C.F8 ?_ w1) ?_
      · rw [up2_a (by decide), up2_a (by decide), up2_a (by decide), up2_a (by decide)]; exact D1.eG
      · rw [up2_a (by decide), up2_a (by decide), up2_a (by decide), up2_a (by decide)]; exact D1.eF
      · rw [bMwx (by decide) (by decide), bMw5 hG8 hF8 hf, bMw4 hG8 hF8 hf, bMw1 hG8 hF8 hg, D1.eb]
      · intro i hi
        show _ = if i = 1 then h 10 1 + 1 else h 10 i
        by_cases e : i = 1
        · subst e; rw [up2_s, if_pos rfl, o127 1 (by decide)]
        · rw [up2_i e, up2_a (by decide), up2_a (by decide), up2_a (by decide), if_neg e]; exact o127 i hi
theorem q_over {fr : Int32} (I : Inv h j r E) : Both 60 120 224 [some (vr 2), some (vi fr), none] [some (vr 113), some (vi fr), none] (mm h j r E) := by
  obtain ⟨G, F, l, W, b, C, D, L, _⟩ := id I
  have hS := C.S
  have hG8 := C.G8
  have hF8 := C.F8
  by_cases c1 : inb fr F
  case neg =>
    refine both_q (a := -1) I (fun Q hQ => ?_) (fun h1 s Q hQ => ?_)
    · simp only [k120_0, k120_1, k120_4, k120_5, k120_8, k120_11, k120_12, k120_13, k120_14, k120_17, k120_20, k120_21, k120_22, k120_23, k120_26, k120_28, k120_29, k120_30, k120_33, k120_36, k120_37, k120_38, k120_39, k120_40, k120_43, k120_44, k120_47, k120_48, k120_51, k120_54, k120_55, k120_56, k120_57, k120_58, k120_59, k120_60, k120_61, mm_sI, mm_sJ, mm_sR, mm_cI, mm_cJ, mm_I, mm_J, mm_R, mm_K, mm_N, psh_s, psh_n, z_n, z_i, z_r, z_l, Nat.reduceAdd, Nat.reduceLeDiff, K2 hS, R2_0 hS, R2_1 hS, R2_2 hS, R2_6 hS, R2_8 hS, R2_11 hS, R2_12 hS, R2_13 hS, R2_15 hS, R2_16 hS, K3 hS, K11 hS, K19 hS, K27 hS, K32 hS, K37 hS, K98 hS, K99 hS, K100 hS, N37 hS, N98 hS, N99 hS, N100 hS, false_or, or_false, ne_eq, true_or, or_true, not_false_eq_true, Nat.reduceEqDiff, Nat.reduceLT, Nat.reduceLeDiff, Nat.reduceAdd, c_hasFrog C, b2i_f c1, if_true]; exact hQ h ScrD.rf
    · simp only [k224_0, k224_1, k224_2, k224_5, k224_8, k224_9, k224_10, k224_11, k224_12, k224_15, k224_16, k224_19, k224_21, k224_22, k224_23, k224_24, k224_27, k224_28, k224_29, k224_32, k224_34, k224_35, k224_36, k224_37, k224_38, k224_39, k224_42, k224_44, k224_45, k224_46, k224_47, k224_48, k224_49, k224_52, k224_53, k224_54, k224_55, k224_56, k224_57, k224_58, k224_59, mm_sI, mm_sJ, mm_sR, mm_cI, mm_cJ, mm_I, mm_J, mm_R, mm_K, mm_N, psh_s, psh_n, z_n, z_i, z_r, z_l, Nat.reduceAdd, Nat.reduceLeDiff, K113 hS, R113_2 hS, R113_3 hS, R113_5 hS, R113_8 hS, R113_9 hS, R113_10 hS, R113_11 hS, R113_16 hS, R113_17 hS, R113_18 hS, R113_19 hS, R113_20 hS, R113_21 hS, R113_22 hS, R113_26 hS, R113_27 hS, R113_30 hS, R113_32 hS, R113_34 hS, R113_35 hS, R113_36 hS, R113_37 hS, R113_40 hS, R113_41 hS, R113_42 hS, R113_43 hS, R113_44 hS, R113_45 hS, R113_47 hS, K114 hS, K115 hS, K116 hS, K117 hS, K118 hS, K119 hS, K120 hS, K121 hS, K122 hS, K123 hS, K124 hS, K125 hS, K126 hS, K127 hS, K128 hS, K129 hS, K130 hS, K131 hS, K132 hS, K133 hS, K134 hS, K135 hS, K136 hS, K137 hS, K138 hS, K139 hS, K140 hS, K141 hS, K142 hS, N114 hS, N115 hS, N116 hS, N117 hS, N118 hS, N119 hS, N120 hS, N121 hS, N122 hS, N123 hS, N124 hS, N125 hS, N126 hS, N127 hS, N128 hS, N129 hS, N130 hS, N131 hS, N132 hS, N133 hS, N134 hS, N135 hS, N136 hS, N137 hS, N138 hS, N139 hS, N140 hS, N141 hS, N142 hS, false_or, or_false, ne_eq, true_or, or_true, not_false_eq_true, Nat.reduceEqDiff, Nat.reduceLT, Nat.reduceLeDiff, Nat.reduceAdd, m_isFrog (D.frD s).eF hS hF8, b2i_f c1, if_true]; exact hQ h1 ScrD.rf
  obtain ⟨f, hf, rfl, hf2⟩ := inb_of c1
  have hf8 : inb (nI f) 8 = True := eq_true (by rw [inb_n (by omega)]; omega)
  have xf : ix (nI f) = f := ix_n hf2
  have hi : ∀ c, c ≤ 40 → inb (nI (c + f)) 48 = True := fun c hc => eq_true (by rw [inb_n (by omega)]; omega)
  have hx : ∀ c, c ≤ 40 → ix (nI (c + f)) = c + f := fun c hc => ix_n (by omega)
  by_cases c3 : b 4 f = -1
  · refine both_q (a := -5) I (fun Q hQ => ?_) (fun h1 s Q hQ => ?_)
    · simp only [k120_0, k120_1, k120_4, k120_5, k120_8, k120_11, k120_12, k120_13, k120_14, k120_17, k120_20, k120_21, k120_22, k120_23, k120_26, k120_28, k120_29, k120_30, k120_33, k120_36, k120_37, k120_38, k120_39, k120_40, k120_43, k120_44, k120_47, k120_48, k120_51, k120_54, k120_55, k120_56, k120_57, k120_58, k120_59, k120_60, k120_61, mm_sI, mm_sJ, mm_sR, mm_cI, mm_cJ, mm_I, mm_J, mm_R, mm_K, mm_N, psh_s, psh_n, z_n, z_i, z_r, z_l, Nat.reduceAdd, Nat.reduceLeDiff, K2 hS, R2_0 hS, R2_1 hS, R2_2 hS, R2_6 hS, R2_8 hS, R2_11 hS, R2_12 hS, R2_13 hS, R2_15 hS, R2_16 hS, K3 hS, K11 hS, K19 hS, K27 hS, K32 hS, K37 hS, K98 hS, K99 hS, K100 hS, N37 hS, N98 hS, N99 hS, N100 hS, R3_0 hS, R3_1 hS, R3_2 hS, R3_3 hS, R3_4 hS, R3_5 hS, R3_6 hS, K4 hS, K5 hS, K6 hS, K7 hS, K8 hS, K9 hS, K10 hS, N4 hS, N5 hS, N6 hS, N7 hS, N8 hS, N9 hS, N10 hS, false_or, or_false, ne_eq, true_or, or_true, not_false_eq_true, Nat.reduceEqDiff, Nat.reduceLT, Nat.reduceLeDiff, Nat.reduceAdd, c_hasFrog C, b2i_t c1, e10, if_false, if_true, hf8, xf, c_v4 C hf, c3]; exact hQ h ScrD.rf
    · simp only [k224_0, k224_1, k224_2, k224_5, k224_8, k224_9, k224_10, k224_11, k224_12, k224_15, k224_16, k224_19, k224_21, k224_22, k224_23, k224_24, k224_27, k224_28, k224_29, k224_32, k224_34, k224_35, k224_36, k224_37, k224_38, k224_39, k224_42, k224_44, k224_45, k224_46, k224_47, k224_48, k224_49, k224_52, k224_53, k224_54, k224_55, k224_56, k224_57, k224_58, k224_59, mm_sI, mm_sJ, mm_sR, mm_cI, mm_cJ, mm_I, mm_J, mm_R, mm_K, mm_N, psh_s, psh_n, z_n, z_i, z_r, z_l, Nat.reduceAdd, Nat.reduceLeDiff, K113 hS, R113_2 hS, R113_3 hS, R113_5 hS, R113_8 hS, R113_9 hS, R113_10 hS, R113_11 hS, R113_16 hS, R113_17 hS, R113_18 hS, R113_19 hS, R113_20 hS, R113_21 hS, R113_22 hS, R113_26 hS, R113_27 hS, R113_30 hS, R113_32 hS, R113_34 hS, R113_35 hS, R113_36 hS, R113_37 hS, R113_40 hS, R113_41 hS, R113_42 hS, R113_43 hS, R113_44 hS, R113_45 hS, R113_47 hS, K114 hS, K115 hS, K116 hS, K117 hS, K118 hS, K119 hS, K120 hS, K121 hS, K122 hS, K123 hS, K124 hS, K125 hS, K126 hS, K127 hS, K128 hS, K129 hS, K130 hS, K131 hS, K132 hS, K133 hS, K134 hS, K135 hS, K136 hS, K137 hS, K138 hS, K139 hS, K140 hS, K141 hS, K142 hS, N114 hS, N115 hS, N116 hS, N117 hS, N118 hS, N119 hS, N120 hS, N121 hS, N122 hS, N123 hS, N124 hS, N125 hS, N126 hS, N127 hS, N128 hS, N129 hS, N130 hS, N131 hS, N132 hS, N133 hS, N134 hS, N135 hS, N136 hS, N137 hS, N138 hS, N139 hS, N140 hS, N141 hS, N142 hS, false_or, or_false, ne_eq, true_or, or_true, not_false_eq_true, Nat.reduceEqDiff, Nat.reduceLT, Nat.reduceLeDiff, Nat.reduceAdd, m_isFrog (D.frD s).eF hS hF8, b2i_t c1, e10, if_false, if_true, m_owes hS (show f < 8 by omega), (D.frD s).v4 hf, c3]; exact hQ h1 ScrD.rf
  · refine both_m I ?_
    intro G0 F0 l0 W0 b0 C0 D0 L0 _
    have eG : G0 = G := inI_u C0.eG C.eG C0.G8 C.G8
    have eF : F0 = F := inI_u C0.eF C.eF C0.F8 C.F8
    subst eG; subst eF
    have eb : b0 = b := by rw [← C0.eb, ← C.eb]
    subst eb
    have w1 : WF G0 F0 (up2 (up2 b0 4 f (-1)) 5 f 0) := WF.up (C.w.up (k := 4) (Or.inl rfl)) (k := 5) (inb_00 (by decide))
    refine ⟨G0, F0, up2 (up2 b0 4 f (-1)) 5 f 0, b0 5 f, fun i => if i = 4 then h 10 4 + 1 else h 10 i, Nat.le_refl _, Nat.le_refl _, ?_, ?_⟩
    · intro Q hQ
      simp only [k120_0, k120_1, k120_4, k120_5, k120_8, k120_11, k120_12, k120_13, k120_14, k120_17, k120_20, k120_21, k120_22, k120_23, k120_26, k120_28, k120_29, k120_30, k120_33, k120_36, k120_37, k120_38, k120_39, k120_40, k120_43, k120_44, k120_47, k120_48, k120_51, k120_54, k120_55, k120_56, k120_57, k120_58, k120_59, k120_60, k120_61, mm_sI, mm_sJ, mm_sR, mm_cI, mm_cJ, mm_I, mm_J, mm_R, mm_K, mm_N, psh_s, psh_n, z_n, z_i, z_r, z_l, Nat.reduceAdd, Nat.reduceLeDiff, K2 hS, R2_0 hS, R2_1 hS, R2_2 hS, R2_6 hS, R2_8 hS, R2_11 hS, R2_12 hS, R2_13 hS, R2_15 hS, R2_16 hS, K3 hS, K11 hS, K19 hS, K27 hS, K32 hS, K37 hS, K98 hS, K99 hS, K100 hS, N37 hS, N98 hS, N99 hS, N100 hS, R3_0 hS, R3_1 hS, R3_2 hS, R3_3 hS, R3_4 hS, R3_5 hS, R3_6 hS, K4 hS, K5 hS, K6 hS, K7 hS, K8 hS, K9 hS, K10 hS, N4 hS, N5 hS, N6 hS, N7 hS, N8 hS, N9 hS, N10 hS, inb_c0, ix_c0, inb_c1, ix_c1, inb_c2, ix_c2, inb_c3, ix_c3, inb_c4, ix_c4, inb_c5, ix_c5, inb_c6, ix_c6, inb_c7, ix_c7, inb_c8, ix_c8, inb_c32, ix_c32, false_or, or_false, ne_eq, true_or, or_true, not_false_eq_true, Nat.reduceEqDiff, Nat.reduceLT, Nat.reduceLeDiff, Nat.reduceAdd, c_hasFrog C, b2i_t c1, e10, if_false, if_true, hf8, xf, c_v4 C hf, c_v5 C hf, c3, s_owesNothing C.H3 (show f < 8 by omega), up2_s, up2_ai, up2_i]
      have fc : FC h (up2 (up2 (up2 h (3 + 5) f (-1)) (3 + 6) f 0) 10 4 (h 10 4 + 1)) := FC.up (FC.up (FC.up FC.rf (by decide)) (by decide)) (by decide)
      refine hQ _ fc (C0.mk fc ?_ ?_ C.G8 C.F8 ?_ w1) ?_
      · rw [up2_a (by decide), up2_a (by decide), up2_a (by decide)]; exact C.eG
      · rw [up2_a (by decide), up2_a (by decide), up2_a (by decide)]; exact C.eF
      · have q := @bCw7 (up2 (up2 h (3 + 5) f (-1)) (3 + 6) f 0) 3 4 G0 F0 (h 10 4 + 1)
        rw [show (3 + 7 : Nat) = 10 from rfl] at q
        rw [q, bCw5 hf, bCw4 hf, C.eb]
      · intro i hi
        show _ = if i = 4 then h 10 4 + 1 else h 10 i
        by_cases e : i = 4
        · subst e; rw [up2_s, if_pos rfl]
        · rw [up2_i e, up2_a (by decide), up2_a (by decide), if_neg e]
    · intro h1 f1 D1 Q hQ
      have o127 : ∀ i, i < 5 → h1 127 i = h 10 i := fun i hi => by rw [f1.1 127 (by unfold scrA; omega) (by omega)]; exact L i hi
      simp only [k224_0, k224_1, k224_2, k224_5, k224_8, k224_9, k224_10, k224_11, k224_12, k224_15, k224_16, k224_19, k224_21, k224_22, k224_23, k224_24, k224_27, k224_28, k224_29, k224_32, k224_34, k224_35, k224_36, k224_37, k224_38, k224_39, k224_42, k224_44, k224_45, k224_46, k224_47, k224_48, k224_49, k224_52, k224_53, k224_54, k224_55, k224_56, k224_57, k224_58, k224_59, mm_sI, mm_sJ, mm_sR, mm_cI, mm_cJ, mm_I, mm_J, mm_R, mm_K, mm_N, psh_s, psh_n, z_n, z_i, z_r, z_l, Nat.reduceAdd, Nat.reduceLeDiff, K113 hS, R113_2 hS, R113_3 hS, R113_5 hS, R113_8 hS, R113_9 hS, R113_10 hS, R113_11 hS, R113_16 hS, R113_17 hS, R113_18 hS, R113_19 hS, R113_20 hS, R113_21 hS, R113_22 hS, R113_26 hS, R113_27 hS, R113_30 hS, R113_32 hS, R113_34 hS, R113_35 hS, R113_36 hS, R113_37 hS, R113_40 hS, R113_41 hS, R113_42 hS, R113_43 hS, R113_44 hS, R113_45 hS, R113_47 hS, K114 hS, K115 hS, K116 hS, K117 hS, K118 hS, K119 hS, K120 hS, K121 hS, K122 hS, K123 hS, K124 hS, K125 hS, K126 hS, K127 hS, K128 hS, K129 hS, K130 hS, K131 hS, K132 hS, K133 hS, K134 hS, K135 hS, K136 hS, K137 hS, K138 hS, K139 hS, K140 hS, K141 hS, K142 hS, N114 hS, N115 hS, N116 hS, N117 hS, N118 hS, N119 hS, N120 hS, N121 hS, N122 hS, N123 hS, N124 hS, N125 hS, N126 hS, N127 hS, N128 hS, N129 hS, N130 hS, N131 hS, N132 hS, N133 hS, N134 hS, N135 hS, N136 hS, N137 hS, N138 hS, N139 hS, N140 hS, N141 hS, N142 hS, inb_c0, ix_c0, inb_c1, ix_c1, inb_c2, ix_c2, inb_c3, ix_c3, inb_c4, ix_c4, inb_c5, ix_c5, inb_c6, ix_c6, inb_c7, ix_c7, inb_c8, ix_c8, inb_c32, ix_c32, false_or, or_false, ne_eq, true_or, or_true, not_false_eq_true, Nat.reduceEqDiff, Nat.reduceLT, Nat.reduceLeDiff, Nat.reduceAdd, m_isFrog D1.eF hS hF8, b2i_t c1, e10, if_false, if_true, m_owes hS (show f < 8 by omega), m_held hS (show f < 8 by omega), D1.v4 hf, D1.v5 hf, c3, a32, a40, hi, hx, up2_s, up2_ai, up2_i]
      have fm : FM h1 (up2 (up2 (up2 h1 114 (32 + f) (-1)) 114 (40 + f) 0) 127 4 (h1 127 4 + 1)) := FM.up (FM.up (FM.up FM.rf (by decide)) (by decide)) (by decide)
      refine hQ _ fm (D1.mk fm ?_ ?_ C.G8 C.F8 ?_ w1) ?_
      · rw [up2_a (by decide), up2_a (by decide), up2_a (by decide)]; exact D1.eG
      · rw [up2_a (by decide), up2_a (by decide), up2_a (by decide)]; exact D1.eF
      · rw [bMwx (by decide) (by decide), bMw5 hG8 hF8 hf, bMw4 hG8 hF8 hf, D1.eb]
      · intro i hi
        show _ = if i = 4 then h 10 4 + 1 else h 10 i
        by_cases e : i = 4
        · subst e; rw [up2_s, if_pos rfl, o127 4 (by decide)]
        · rw [up2_i e, up2_a (by decide), up2_a (by decide), if_neg e]; exact o127 i hi
end LD
