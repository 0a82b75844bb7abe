/-! ===== the image ===== -/
def layB (b : BB) (h : Hp) (G2 F2 : Nat) : BB := fun k i => if k = 1 ∧ i < G2 then h 21 i else if k = 2 ∧ i < F2 then h 22 i else if k = 4 ∧ i < F2 then h 24 i else if k = 5 ∧ i < F2 then h 25 i else if k = 6 ∧ i = 1 then h 19 10 else b k i
def cpA (A B : Nat) : Nat → Nat → Hp → Hp
  | _, 0, h => h
  | i, k + 1, h => cpA A B (i + 1) k (up2 h A i (h B i))
theorem cpA_v {A B : Nat} (hn : B ≠ A) : ∀ {k i : Nat} {h : Hp} {c x : Nat}, cpA A B i k h c x = if c = A ∧ i ≤ x ∧ x < i + k then h B x else h c x := by
  intro k
  induction k with
  | zero => intro i h c x; rw [cpA, if_neg (by omega)]
  | succ k ih =>
    intro i h c x
    rw [cpA, ih]
    by_cases h1 : c = A
    · subst h1
      rw [up2_a hn]
      by_cases h2 : x = i
      · subst h2; rw [if_neg (by omega), up2_s, if_pos (by omega)]
      · rw [up2_i h2]
        by_cases h3 : i + 1 ≤ x ∧ x < i + 1 + k
        · rw [if_pos ⟨rfl, h3⟩, if_pos (by omega)]
        · rw [if_neg (fun hh => h3 hh.2), if_neg (by omega)]
    · rw [if_neg (by omega), if_neg (by omega), up2_a h1]
section IM
variable {d : Nat} {M : Mem} {h h0 h1 h2 : Hp} {j : Jp} {r : Rp} {E : EE} {l G F A n G' F' : Nat} {W : LW} {b bt bm b' : BB} {Q : Option PV → Mem → Prop}
theorem CC.st (C : CC G F l W b h r E) (e : ∀ a, 3 ≤ a → a ≤ 10 → h1 a = h a) (f : Lfix l h h1) : CC G F l W b h1 r E := by
  refine ⟨C.1, C.2.1, C.2.2.1, by rw [e 3 (by omega) (by omega)]; exact C.eG, by rw [e 3 (by omega) (by omega)]; exact C.eF, C.G8, C.F8, C.L.fix f, ?_, C.w⟩
  rw [← C.eb]
  exact bC_eq (fun k hk i _ => by rw [e _ (by omega) (by omega)]) (by rw [e 3 (by omega) (by omega)]) (by rw [e 3 (by omega) (by omega)])
theorem DD.st (D : DD G F W b h r E) (e4 : h1 114 = h 114) (e5 : h1 115 = h 115) (g1 : h1 113 0 = h 113 0) (g2 : h1 113 1 = h 113 1) (f : Mfix h h1) : DD G F W b h1 r E := by
  refine ⟨D.S, g1.trans D.eG, g2.trans D.eF, D.G8, D.F8, D.L.fix f, ?_, D.w⟩
  rw [← D.eb]; exact bM_eq D.G8 D.F8 (fun i _ => by rw [e4]) (fun i _ => by rw [e5])
theorem m_imL {A B pc : Nat} (hS : Sh r E) : ∀ {k i : Nat} {h : Hp}, i + k = 5 → WP d 226 31 [some (vr 113), some (vi (nI i))] [] (mm h j r E) Q = Q (some (vi (cpA 129 127 i k h 127 0))) (mm (cpA 129 127 i k h) j r E) := by
  intro k
  induction k with
  | zero =>
    intro i h hk
    have : i = 5 := by omega
    subst this
    rw [k226_31]
    simp only [k226_0, k226_1, k226_2, k226_5, k226_6, k226_7, k226_10, k226_13, k226_14, k226_15, k226_18, k226_21, k226_22, k226_23, k226_26, k226_29, k226_30, k226_32, k226_33, k226_36, k226_37, k226_40, k226_41, k226_42, k226_45, k226_46, k226_47, k226_48, k226_51, k226_54, k226_55, k226_58, k226_59, k226_60, mm_sI, mm_sJ, mm_sR, mm_cI, mm_cJ, mm_I, mm_J, mm_R, mm_K, mm_N, psh_s, psh_n, z_n, z_i, z_r, z_l, Nat.reduceAdd, Nat.reduceLeDiff, K113 hS, R113_2 hS, R113_3 hS, R113_5 hS, R113_8 hS, R113_9 hS, R113_10 hS, R113_11 hS, R113_16 hS, R113_17 hS, R113_18 hS, R113_19 hS, R113_20 hS, R113_21 hS, R113_22 hS, R113_26 hS, R113_27 hS, R113_30 hS, R113_32 hS, R113_34 hS, R113_35 hS, R113_36 hS, R113_37 hS, R113_40 hS, R113_41 hS, R113_42 hS, R113_43 hS, R113_44 hS, R113_45 hS, R113_47 hS, K114 hS, K115 hS, K116 hS, K117 hS, K118 hS, K119 hS, K120 hS, K121 hS, K122 hS, K123 hS, K124 hS, K125 hS, K126 hS, K127 hS, K128 hS, K129 hS, K130 hS, K131 hS, K132 hS, K133 hS, K134 hS, K135 hS, K136 hS, K137 hS, K138 hS, K139 hS, K140 hS, K141 hS, K142 hS, N114 hS, N115 hS, N116 hS, N117 hS, N118 hS, N119 hS, N120 hS, N121 hS, N122 hS, N123 hS, N124 hS, N125 hS, N126 hS, N127 hS, N128 hS, N129 hS, N130 hS, N131 hS, N132 hS, N133 hS, N134 hS, N135 hS, N136 hS, N137 hS, N138 hS, N139 hS, N140 hS, N141 hS, N142 hS, inb_c0, ix_c0, inb_c1, ix_c1, inb_c2, ix_c2, inb_c3, ix_c3, inb_c4, ix_c4, inb_c5, ix_c5, inb_c6, ix_c6, inb_c7, ix_c7, inb_c8, ix_c8, inb_c32, ix_c32, false_or, or_false, ne_eq, true_or, or_true, not_false_eq_true, Nat.reduceEqDiff, Nat.reduceLT, Nat.reduceLeDiff, Nat.reduceAdd, nn5, Int32.le_refl, if_true]; rfl
  | succ k ih =>
    intro i h hk
    have p1 : ((5 : Int32) ≤ nI i) = False := by rw [← nn5, nLe (by decide) (by omega)]; apply eq_false; omega
    have hi : inb (nI i) 5 = True := eq_true (by rw [inb_n (by omega)]; omega)
    rw [k226_31]
    simp only [k226_0, k226_1, k226_2, k226_5, k226_6, k226_7, k226_10, k226_13, k226_14, k226_15, k226_18, k226_21, k226_22, k226_23, k226_26, k226_29, k226_30, k226_32, k226_33, k226_36, k226_37, k226_40, k226_41, k226_42, k226_45, k226_46, k226_47, k226_48, k226_51, k226_54, k226_55, k226_58, k226_59, k226_60, mm_sI, mm_sJ, mm_sR, mm_cI, mm_cJ, mm_I, mm_J, mm_R, mm_K, mm_N, psh_s, psh_n, z_n, z_i, z_r, z_l, Nat.reduceAdd, Nat.reduceLeDiff, K113 hS, R113_2 hS, R113_3 hS, R113_5 hS, R113_8 hS, R113_9 hS, R113_10 hS, R113_11 hS, R113_16 hS, R113_17 hS, R113_18 hS, R113_19 hS, R113_20 hS, R113_21 hS, R113_22 hS, R113_26 hS, R113_27 hS, R113_30 hS, R113_32 hS, R113_34 hS, R113_35 hS, R113_36 hS, R113_37 hS, R113_40 hS, R113_41 hS, R113_42 hS, R113_43 hS, R113_44 hS, R113_45 hS, R113_47 hS, K114 hS, K115 hS, K116 hS, K117 hS, K118 hS, K119 hS, K120 hS, K121 hS, K122 hS, K123 hS, K124 hS, K125 hS, K126 hS, K127 hS, K128 hS, K129 hS, K130 hS, K131 hS, K132 hS, K133 hS, K134 hS, K135 hS, K136 hS, K137 hS, K138 hS, K139 hS, K140 hS, K141 hS, K142 hS, N114 hS, N115 hS, N116 hS, N117 hS, N118 hS, N119 hS, N120 hS, N121 hS, N122 hS, N123 hS, N124 hS, N125 hS, N126 hS, N127 hS, N128 hS, N129 hS, N130 hS, N131 hS, N132 hS, N133 hS, N134 hS, N135 hS, N136 hS, N137 hS, N138 hS, N139 hS, N140 hS, N141 hS, N142 hS, false_or, or_false, ne_eq, true_or, or_true, not_false_eq_true, Nat.reduceEqDiff, Nat.reduceLT, Nat.reduceLeDiff, Nat.reduceAdd, p1, if_false, hi, ix_n (show i < 2 ^ 31 by omega), nS1]
    rw [ih (by omega)]; rfl
theorem m_bkL2 (hS : Sh r E) : ∀ {k i : Nat} {h : Hp}, i + k = 5 → WP d 227 28 [some (vr 113), some (vi (nI i))] [] (mm h j r E) Q = Q (some (vi (cpA 127 129 i k h 127 0))) (mm (cpA 127 129 i k h) j r E) := by
  intro k
  induction k with
  | zero =>
    intro i h hk
    have : i = 5 := by omega
    subst this
    rw [k227_28]
    simp only [k227_0, k227_1, k227_4, k227_7, k227_9, k227_10, k227_11, k227_12, k227_15, k227_16, k227_19, k227_20, k227_23, k227_26, k227_27, k227_29, k227_30, k227_33, k227_34, k227_37, k227_38, k227_39, k227_42, k227_43, k227_44, k227_45, k227_48, k227_51, k227_52, k227_55, k227_56, k227_57, mm_sI, mm_sJ, mm_sR, mm_cI, mm_cJ, mm_I, mm_J, mm_R, mm_K, mm_N, psh_s, psh_n, z_n, z_i, z_r, z_l, Nat.reduceAdd, Nat.reduceLeDiff, K113 hS, R113_2 hS, R113_3 hS, R113_5 hS, R113_8 hS, R113_9 hS, R113_10 hS, R113_11 hS, R113_16 hS, R113_17 hS, R113_18 hS, R113_19 hS, R113_20 hS, R113_21 hS, R113_22 hS, R113_26 hS, R113_27 hS, R113_30 hS, R113_32 hS, R113_34 hS, R113_35 hS, R113_36 hS, R113_37 hS, R113_40 hS, R113_41 hS, R113_42 hS, R113_43 hS, R113_44 hS, R113_45 hS, R113_47 hS, K114 hS, K115 hS, K116 hS, K117 hS, K118 hS, K119 hS, K120 hS, K121 hS, K122 hS, K123 hS, K124 hS, K125 hS, K126 hS, K127 hS, K128 hS, K129 hS, K130 hS, K131 hS, K132 hS, K133 hS, K134 hS, K135 hS, K136 hS, K137 hS, K138 hS, K139 hS, K140 hS, K141 hS, K142 hS, N114 hS, N115 hS, N116 hS, N117 hS, N118 hS, N119 hS, N120 hS, N121 hS, N122 hS, N123 hS, N124 hS, N125 hS, N126 hS, N127 hS, N128 hS, N129 hS, N130 hS, N131 hS, N132 hS, N133 hS, N134 hS, N135 hS, N136 hS, N137 hS, N138 hS, N139 hS, N140 hS, N141 hS, N142 hS, inb_c0, ix_c0, inb_c1, ix_c1, inb_c2, ix_c2, inb_c3, ix_c3, inb_c4, ix_c4, inb_c5, ix_c5, inb_c6, ix_c6, inb_c7, ix_c7, inb_c8, ix_c8, inb_c32, ix_c32, false_or, or_false, ne_eq, true_or, or_true, not_false_eq_true, Nat.reduceEqDiff, Nat.reduceLT, Nat.reduceLeDiff, Nat.reduceAdd, nn5, Int32.le_refl, if_true]; rfl
  | succ k ih =>
    intro i h hk
    have p1 : ((5 : Int32) ≤ nI i) = False := by rw [← nn5, nLe (by decide) (by omega)]; apply eq_false; omega
    have hi : inb (nI i) 5 = True := eq_true (by rw [inb_n (by omega)]; omega)
    rw [k227_28]
    simp only [k227_0, k227_1, k227_4, k227_7, k227_9, k227_10, k227_11, k227_12, k227_15, k227_16, k227_19, k227_20, k227_23, k227_26, k227_27, k227_29, k227_30, k227_33, k227_34, k227_37, k227_38, k227_39, k227_42, k227_43, k227_44, k227_45, k227_48, k227_51, k227_52, k227_55, k227_56, k227_57, mm_sI, mm_sJ, mm_sR, mm_cI, mm_cJ, mm_I, mm_J, mm_R, mm_K, mm_N, psh_s, psh_n, z_n, z_i, z_r, z_l, Nat.reduceAdd, Nat.reduceLeDiff, K113 hS, R113_2 hS, R113_3 hS, R113_5 hS, R113_8 hS, R113_9 hS, R113_10 hS, R113_11 hS, R113_16 hS, R113_17 hS, R113_18 hS, R113_19 hS, R113_20 hS, R113_21 hS, R113_22 hS, R113_26 hS, R113_27 hS, R113_30 hS, R113_32 hS, R113_34 hS, R113_35 hS, R113_36 hS, R113_37 hS, R113_40 hS, R113_41 hS, R113_42 hS, R113_43 hS, R113_44 hS, R113_45 hS, R113_47 hS, K114 hS, K115 hS, K116 hS, K117 hS, K118 hS, K119 hS, K120 hS, K121 hS, K122 hS, K123 hS, K124 hS, K125 hS, K126 hS, K127 hS, K128 hS, K129 hS, K130 hS, K131 hS, K132 hS, K133 hS, K134 hS, K135 hS, K136 hS, K137 hS, K138 hS, K139 hS, K140 hS, K141 hS, K142 hS, N114 hS, N115 hS, N116 hS, N117 hS, N118 hS, N119 hS, N120 hS, N121 hS, N122 hS, N123 hS, N124 hS, N125 hS, N126 hS, N127 hS, N128 hS, N129 hS, N130 hS, N131 hS, N132 hS, N133 hS, N134 hS, N135 hS, N136 hS, N137 hS, N138 hS, N139 hS, N140 hS, N141 hS, N142 hS, false_or, or_false, ne_eq, true_or, or_true, not_false_eq_true, Nat.reduceEqDiff, Nat.reduceLT, Nat.reduceLeDiff, Nat.reduceAdd, p1, if_false, hi, ix_n (show i < 2 ^ 31 by omega), nS1]
    rw [ih (by omega)]; rfl
theorem q_image (I : Inv h j r E) : Both 60 122 226 [some (vr 2)] [some (vr 113), none] (mm h j r E) := by
  obtain ⟨G, F, l, W, b, C, D, i1, i2, i3, i4, i5, i6, i7⟩ := id I
  have hS := C.S
  have hG8 := C.G8
  have hF8 := C.F8
  have hl := C.il
  unfold Both
  simp only [k122_0, k122_1, k122_4, k122_5, k122_8, k122_11, k122_12, k122_13, k122_16, k122_17, k122_20, k122_23, k122_24, k122_25, mm_sI, mm_sJ, mm_sR, mm_cI, mm_cJ, mm_I, mm_J, mm_R, mm_K, mm_N, psh_s, psh_n, z_n, z_i, z_r, z_l, Nat.reduceAdd, Nat.reduceLeDiff, K2 hS, R2_0 hS, R2_1 hS, R2_2 hS, R2_6 hS, R2_8 hS, R2_11 hS, R2_12 hS, R2_13 hS, R2_15 hS, R2_16 hS, K3 hS, K11 hS, K19 hS, K27 hS, K32 hS, K37 hS, K98 hS, K99 hS, K100 hS, N37 hS, N98 hS, N99 hS, N100 hS, false_or, or_false, ne_eq, true_or, or_true, not_false_eq_true, Nat.reduceEqDiff, Nat.reduceLT, Nat.reduceLeDiff, Nat.reduceAdd]
  refine WP.deep (d := 58 + 1) ?_ (by omega)
  refine s_copy (mar_of hS (Or.inr (Or.inr rfl))) C.H3 (Or.inl (by decide)) C.eG C.eF hG8 hF8 ?_
  intro h1 e hb h7 h8 hld
  have o1 : ∀ a, ¬ (19 ≤ a ∧ a ≤ 26) → h1 a = h a := e
  simp only [k122_0, k122_1, k122_4, k122_5, k122_8, k122_11, k122_12, k122_13, k122_16, k122_17, k122_20, k122_23, k122_24, k122_25, k226_0, k226_1, k226_2, k226_5, k226_6, k226_7, k226_10, k226_13, k226_14, k226_15, k226_18, k226_21, k226_22, k226_23, k226_26, k226_29, k226_30, k226_32, k226_33, k226_36, k226_37, k226_40, k226_41, k226_42, k226_45, k226_46, k226_47, k226_48, k226_51, k226_54, k226_55, k226_58, k226_59, k226_60, mm_sI, mm_sJ, mm_sR, mm_cI, mm_cJ, mm_I, mm_J, mm_R, mm_K, mm_N, psh_s, psh_n, z_n, z_i, z_r, z_l, Nat.reduceAdd, Nat.reduceLeDiff, K2 hS, R2_0 hS, R2_1 hS, R2_2 hS, R2_6 hS, R2_8 hS, R2_11 hS, R2_12 hS, R2_13 hS, R2_15 hS, R2_16 hS, K3 hS, K11 hS, K19 hS, K27 hS, K32 hS, K37 hS, K98 hS, K99 hS, K100 hS, N37 hS, N98 hS, N99 hS, N100 hS, R3_0 hS, R3_1 hS, R3_2 hS, R3_3 hS, R3_4 hS, R3_5 hS, R3_6 hS, K4 hS, K5 hS, K6 hS, K7 hS, K8 hS, K9 hS, K10 hS, N4 hS, N5 hS, N6 hS, N7 hS, N8 hS, N9 hS, N10 hS, K113 hS, R113_2 hS, R113_3 hS, R113_5 hS, R113_8 hS, R113_9 hS, R113_10 hS, R113_11 hS, R113_16 hS, R113_17 hS, R113_18 hS, R113_19 hS, R113_20 hS, R113_21 hS, R113_22 hS, R113_26 hS, R113_27 hS, R113_30 hS, R113_32 hS, R113_34 hS, R113_35 hS, R113_36 hS, R113_37 hS, R113_40 hS, R113_41 hS, R113_42 hS, R113_43 hS, R113_44 hS, R113_45 hS, R113_47 hS, K114 hS, K115 hS, K116 hS, K117 hS, K118 hS, K119 hS, K120 hS, K121 hS, K122 hS, K123 hS, K124 hS, K125 hS, K126 hS, K127 hS, K128 hS, K129 hS, K130 hS, K131 hS, K132 hS, K133 hS, K134 hS, K135 hS, K136 hS, K137 hS, K138 hS, K139 hS, K140 hS, K141 hS, K142 hS, N114 hS, N115 hS, N116 hS, N117 hS, N118 hS, N119 hS, N120 hS, N121 hS, N122 hS, N123 hS, N124 hS, N125 hS, N126 hS, N127 hS, N128 hS, N129 hS, N130 hS, N131 hS, N132 hS, N133 hS, N134 hS, N135 hS, N136 hS, N137 hS, N138 hS, N139 hS, N140 hS, N141 hS, N142 hS, inb_c0, ix_c0, inb_c1, ix_c1, inb_c2, ix_c2, inb_c3, ix_c3, inb_c4, ix_c4, inb_c5, ix_c5, inb_c6, ix_c6, inb_c7, ix_c7, inb_c8, ix_c8, inb_c32, ix_c32, false_or, or_false, ne_eq, true_or, or_true, not_false_eq_true, Nat.reduceEqDiff, Nat.reduceLT, Nat.reduceLeDiff, Nat.reduceAdd, up2_s, up2_ai, up2_i, up2_a]
  refine m_keeps hS (K128 hS) (N128 hS) (by decide) (by decide) (by decide) ?_
  intro h2 e2 _ kp
  simp only [k226_0, k226_1, k226_2, k226_5, k226_6, k226_7, k226_10, k226_13, k226_14, k226_15, k226_18, k226_21, k226_22, k226_23, k226_26, k226_29, k226_30, k226_32, k226_33, k226_36, k226_37, k226_40, k226_41, k226_42, k226_45, k226_46, k226_47, k226_48, k226_51, k226_54, k226_55, k226_58, k226_59, k226_60, mm_sI, mm_sJ, mm_sR, mm_cI, mm_cJ, mm_I, mm_J, mm_R, mm_K, mm_N, psh_s, psh_n, z_n, z_i, z_r, z_l, Nat.reduceAdd, Nat.reduceLeDiff, false_or, or_false, ne_eq, true_or, or_true, not_false_eq_true, Nat.reduceEqDiff, Nat.reduceLT, Nat.reduceLeDiff, Nat.reduceAdd]
  rw [show (0 : Int32) = nI 0 from rfl, m_imL (A := 0) (B := 0) (pc := 0) hS (k := 5) (i := 0) (by omega)]
  -- what stands where now
  have o2 : ∀ a, a ≠ 128 → h2 a = (up2 (up2 (up2 (up2 h1 2 3 1) 113 23 1) 113 24 (h1 113 0)) 113 25 (h1 113 1)) a := e2
  have o3 : ∀ a, a ≠ 129 → cpA 129 127 0 5 h2 a = h2 a := fun a ha => by funext x; rw [cpA_v (by decide), if_neg (by omega)]
  have o : ∀ a, a ≠ 2 → a ≠ 113 → a ≠ 128 → a ≠ 129 → ¬ (19 ≤ a ∧ a ≤ 26) → cpA 129 127 0 5 h2 a = h a := by
    intro a p q s t u
    rw [o3 a t, o2 a s, up2_a q, up2_a q, up2_a q, up2_a p, o1 a u]
  have o19 : ∀ a, 19 ≤ a → a ≤ 26 → cpA 129 127 0 5 h2 a = h1 a := by
    intro a p q
    rw [o3 a (by omega), o2 a (by omega), up2_a (by omega), up2_a (by omega), up2_a (by omega), up2_a (by omega)]
  have f2 : ∀ i, i ≠ 3 → cpA 129 127 0 5 h2 2 i = h 2 i := by
    intro i hi
    rw [o3 2 (by decide), o2 2 (by decide), up2_a (by decide), up2_a (by decide), up2_a (by decide), up2_i hi, o1 2 (by decide)]
  have f23 : cpA 129 127 0 5 h2 2 3 = 1 := by
    rw [o3 2 (by decide), o2 2 (by decide), up2_a (by decide), up2_a (by decide), up2_a (by decide), up2_s]
  have f3 : ∀ i, i ≠ 23 → i ≠ 24 → i ≠ 25 → cpA 129 127 0 5 h2 113 i = h 113 i := by
    intro i p q s
    rw [o3 113 (by decide), o2 113 (by decide), up2_i s, up2_i q, up2_i p, up2_a (by decide), o1 113 (by decide)]
  have f323 : cpA 129 127 0 5 h2 113 23 = 1 := by rw [o3 113 (by decide), o2 113 (by decide), up2_i (by decide), up2_i (by decide), up2_s]
  have f324 : cpA 129 127 0 5 h2 113 24 = nI G := by rw [o3 113 (by decide), o2 113 (by decide), up2_i (by decide), up2_s, o1 113 (by decide)]; exact D.eG
  have f325 : cpA 129 127 0 5 h2 113 25 = nI F := by rw [o3 113 (by decide), o2 113 (by decide), up2_s, o1 113 (by decide)]; exact D.eF
  have k114 : (up2 (up2 (up2 (up2 h1 2 3 1) 113 23 1) 113 24 (h1 113 0)) 113 25 (h1 113 1)) 114 = h 114 := by rw [up2_a (by decide), up2_a (by decide), up2_a (by decide), up2_a (by decide), o1 114 (by decide)]
  have k115 : (up2 (up2 (up2 (up2 h1 2 3 1) 113 23 1) 113 24 (h1 113 0)) 113 25 (h1 113 1)) 115 = h 115 := by rw [up2_a (by decide), up2_a (by decide), up2_a (by decide), up2_a (by decide), o1 115 (by decide)]
  have o128 : cpA 129 127 0 5 h2 128 = h2 128 := o3 128 (by decide)
  have a0 : cpA 129 127 0 5 h2 127 0 = h 127 0 := by rw [o 127 (by decide) (by decide) (by decide) (by decide) (by decide)]
  refine ⟨?_, ⟨_, rfl⟩, _, j, r, E, rfl, G, F, l, W, b, C.st ?_ ⟨?_, ?_, ?_⟩, D.st ?_ ?_ ?_ ?_ ⟨?_, ?_, ?_, ?_, ?_, ?_⟩, ?_, ?_, ?_, ?_, ?_, ?_, ?_⟩
  · rw [a0, i1 0 (by decide)]
    have : h1 10 0 = h 10 0 := by rw [o1 10 (by decide)]
    rw [← this]
  · intro a p q; exact o a (by omega) (by omega) (by omega) (by omega) (by omega)
  · exact o _ (by omega) (by omega) (by omega) (by omega) (by omega)
  · exact o _ (by omega) (by omega) (by omega) (by omega) (by omega)
  · rw [o l (by omega) (by omega) (by omega) (by omega) (by omega)]
  · exact o _ (by decide) (by decide) (by decide) (by decide) (by decide)
  · exact o _ (by decide) (by decide) (by decide) (by decide) (by decide)
  · exact f3 0 (by decide) (by decide) (by decide)
  · exact f3 1 (by decide) (by decide) (by decide)
  · exact o _ (by decide) (by decide) (by decide) (by decide) (by decide)
  · exact o _ (by decide) (by decide) (by decide) (by decide) (by decide)
  · exact o _ (by decide) (by decide) (by decide) (by decide) (by decide)
  · exact o _ (by decide) (by decide) (by decide) (by decide) (by decide)
  · exact f3 7 (by decide) (by decide) (by decide)
  · exact f3 6 (by decide) (by decide) (by decide)
  · exact i1.fr (o _ (by decide) (by decide) (by decide) (by decide) (by decide)) (o _ (by decide) (by decide) (by decide) (by decide) (by decide))
  · refine Or.inr ⟨f23, f323, G, F, Nat.le_refl _, Nat.le_refl _, ?_, ?_, f324, f325, ?_, ?_, ?_, ?_, ?_⟩
    · rw [o19 19 (by decide) (by decide)]; exact h7
    · rw [o19 19 (by decide) (by decide)]; exact h8
    · intro i hi
      have q1 : h1 21 i = b 1 i := by rw [← C.eb, ← hb]; exact (bC1 (m := 19) hi).symm
      rw [o128, (kp.1 i (by omega)).1, k114, D.v1 hi, o19 21 (by decide) (by decide), q1]
      exact ⟨rfl, D.w.a1 hi⟩
    · intro i hi
      have q2 : h1 22 i = b 2 i := by rw [← C.eb, ← hb]; exact (bC2 (m := 19) hi).symm
      have q4 : h1 24 i = b 4 i := by rw [← C.eb, ← hb]; exact (bC4 (m := 19) hi).symm
      have q5 : h1 25 i = b 5 i := by rw [← C.eb, ← hb]; exact (bC5 (m := 19) hi).symm
      obtain ⟨_, k2, k4, k5⟩ := kp.1 i (by omega)
      rw [o128, k2, k4, k5, k114, D.v2 hi, D.v4 hi, D.v5 hi, o19 22 (by decide) (by decide), o19 24 (by decide) (by decide), o19 25 (by decide) (by decide), q2, q4, q5]
      exact ⟨rfl, D.w.a2 hi, rfl, D.w.a4 hi, rfl, D.w.a5 hi⟩
    · have q : h1 19 10 = b 6 1 := by rw [← C.eb, ← hb]; exact (bCh (m := 19)).symm
      rw [o128, kp.2, k115, D.vh, o19 19 (by decide) (by decide), q]
    · have q : h1 19 10 = b 6 1 := by rw [← C.eb, ← hb]; exact (bCh (m := 19)).symm
      rw [o19 19 (by decide) (by decide), q]; exact D.w.ah
    · intro i hi
      rw [cpA_v (by decide), if_pos (by omega), o2 127 (by decide), up2_a (by decide), up2_a (by decide), up2_a (by decide), up2_a (by decide), o1 127 (by decide), i1 i hi, o19 26 (by decide) (by decide)]
      exact (hld i hi).symm
  · exact i3.fr (f2 7 (by decide)) (f3 4 (by decide) (by decide) (by decide)) (o _ (by decide) (by decide) (by decide) (by decide) (by decide)) (o _ (by decide) (by decide) (by decide) (by decide) (by decide))
  · exact i4.fr (f2 10 (by decide)) (f3 29 (by decide) (by decide) (by decide)) (f2 9 (by decide)) (f3 28 (by decide) (by decide) (by decide)) (fun a ha => o a (by omega) (by omega) (by omega) (by omega) (by omega))
  · exact i5.fr (f2 14 (by decide)) (f3 31 (by decide) (by decide) (by decide)) (fun a ha => o a (by omega) (by omega) (by omega) (by omega) (by omega))
  · exact i6.fr (o _ (by decide) (by decide) (by decide) (by decide) (by decide)) (o _ (by decide) (by decide) (by decide) (by decide) (by decide)) (f3 33 (by decide) (by decide) (by decide))
  · exact i7.fr (f2 14 (by decide)) (fun a ha => o a (by omega) (by omega) (by omega) (by omega) (by omega))
theorem layB_C {G2 F2 : Nat} (hG : G2 ≤ G) (hF : F2 ≤ F) : bC (layH h 19 3 G2 F2) 3 G F = layB (bC h 3 G F) h G2 F2 := by
  funext k i
  unfold layB
  by_cases k6 : k < 6
  · simp only [bC, k6, if_true]
    by_cases c : i < cut G F k
    · simp only [c, if_true]
      unfold layH
      match k, k6 with
      | 0, _ => simp
      | 1, _ => simp
      | 2, _ => simp
      | 3, _ => simp
      | 4, _ => simp
      | 5, _ => simp
      | k + 6, k6 => omega
    · simp only [c, if_false]
      match k, k6 with
      | 0, _ => simp
      | 1, _ => have c : ¬ i < G := c; simp [show ¬ i < G2 by omega]
      | 2, _ => have c : ¬ i < F := c; simp [show ¬ i < F2 by omega]
      | 3, _ => simp
      | 4, _ => have c : ¬ i < F := c; simp [show ¬ i < F2 by omega]
      | 5, _ => have c : ¬ i < F := c; simp [show ¬ i < F2 by omega]
      | k + 6, k6 => omega
  · by_cases e6 : k = 6
    · subst e6
      by_cases i0 : i = 0
      · subst i0; simp [bC, layH]
      · by_cases i1 : i = 1
        · subst i1; simp [bC, layH]
        · simp [bC, layH, i0, i1]
    · simp [bC, layH, k6, e6, show ¬ k = 1 by omega, show ¬ k = 2 by omega, show ¬ k = 4 by omega, show ¬ k = 5 by omega]
theorem WF.lay {G2 F2 : Nat} (w : WF G F b) (hG : G2 ≤ G) (a1 : ∀ i, i < G2 → inb (h 21 i) 100) (a2 : ∀ i, i < F2 → inb (h 22 i) 36 ∧ (h 24 i = -1 ∨ inb (h 24 i) G2) ∧ inb (h 25 i) 100) (ah : inb (h 19 10) 12) : WF G F (layB b h G2 F2) := by
  intro k i hk hi
  unfold layB
  by_cases c1 : k = 1 ∧ i < G2
  · rw [if_pos c1, c1.1]; exact a1 i c1.2
  rw [if_neg c1]
  by_cases c2 : k = 2 ∧ i < F2
  · rw [if_pos c2, c2.1]; exact (a2 i c2.2).1
  rw [if_neg c2]
  by_cases c4 : k = 4 ∧ i < F2
  · rw [if_pos c4, c4.1]
    rcases (a2 i c4.2).2.1 with q | q
    · exact Or.inl q
    · exact Or.inr (inb_mono q hG)
  rw [if_neg c4]
  by_cases c5 : k = 5 ∧ i < F2
  · rw [if_pos c5, c5.1]; exact (a2 i c5.2).2.2
  rw [if_neg c5]
  by_cases c6 : k = 6 ∧ i = 1
  · rw [if_pos c6, c6.1]; exact ah
  rw [if_neg c6]
  exact w k i hk hi
end IM
