/-! ===== rows made, bodies kept, what is taken ===== -/
def putF {α : Type} (f : Nat → α) (s : Nat) (x : α) : Nat → α := fun i => if i = s then x else f i
theorem putF_s {α : Type} {f : Nat → α} {s : Nat} {x : α} : putF f s x s = x := if_pos rfl
theorem putF_n {α : Type} {f : Nat → α} {s i : Nat} {x : α} (h : i ≠ s) : putF f s x i = f i := if_neg h
def filJ (a : Nat) (v : Int64) : Nat → Nat → Jp → Jp
  | _, 0, j => j
  | i, k + 1, j => filJ a v (i + 1) k (up2 j a i v)
theorem filJ_v {a : Nat} {v : Int64} : ∀ {k i : Nat} {j : Jp} {c x : Nat}, filJ a v i k j c x = if c = a ∧ i ≤ x ∧ x < i + k then v else j c x := by
  intro k
  induction k with
  | zero => intro i j c x; rw [filJ, if_neg (by omega)]
  | succ k ih =>
    intro i j c x
    rw [filJ, ih]
    by_cases h1 : c = a
    · subst h1
      by_cases h2 : x = i
      · subst h2; rw [if_neg (by omega), up2_s, if_pos (by omega)]
      · rw [up2_i h2]
        by_cases h3 : i + 1 ≤ x ∧ x < i + 1 + k
        · rw [if_pos ⟨rfl, h3⟩, if_pos (by omega)]
        · rw [if_neg (fun hh => h3 hh.2), if_neg (by omega)]
    · rw [if_neg (by omega), if_neg (by omega), up2_a h1]
def abv (k : Nat) : Nat := if k = 3 then 2 else if k = 4 then 1 else if k = 5 then 3 else if k = 7 then 4 else 0
def upF : Nat → Nat → Nat → Bool
  | 0, x, k => x == k
  | n + 1, x, k => if x = k then true else if x = 0 then false else upF n (abv x) k
section RW
variable {d : Nat} {M : Mem} {h h0 h1 h2 : Hp} {j j1 : Jp} {r r1 : Rp} {E : EE} {l G F A s n : Nat} {W : LW} {b bt bm : BB} {Q : Option PV → Mem → Prop} {hd : Int32} {V : Nat → Int64} {HD : Nat → Int32} {N : Nat → Nat} {VV : Nat → Nat → Int64}
theorem s_filJ {a L : Nat} {v : Int64} (hK : E.1 a = 14) (hN : E.2.1 a = L) (ha : a ≠ 1) (hL : L < 2 ^ 31) : ∀ {k i : Nat} {j : Jp}, i + k = L → WP d 248 6 [some (vr a), some (vl v), none, some (vi (nI i)), some (vi (nI L))] [] (mm h j r E) Q = Q none (mm h (filJ a v i k j) r E) := by
  have ha' : (a = 1) = False := eq_false ha
  intro k
  induction k with
  | zero =>
    intro i j hk
    have : i = L := by omega
    subst this
    rw [k248_6]
    simp only [k248_0, k248_1, k248_2, k248_4, k248_7, k248_9, k248_12, k248_13, k248_14, k248_15, k248_16, k248_19, k248_22, mm_sI, mm_sJ, mm_sR, mm_cI, mm_cJ, mm_I, mm_J, mm_R, mm_K, mm_N, psh_s, psh_n, z_n, z_i, z_r, z_l, Nat.reduceAdd, Nat.reduceLeDiff, false_or, or_false, ne_eq, true_or, or_true, not_false_eq_true, Nat.reduceEqDiff, Nat.reduceLT, Nat.reduceLeDiff, Nat.reduceAdd, Int32.le_refl, if_true]; rfl
  | succ k ih =>
    intro i j hk
    have hi : inb (nI i) L = True := eq_true (by rw [inb_n (by omega)]; omega)
    rw [k248_6]
    simp only [k248_0, k248_1, k248_2, k248_4, k248_7, k248_9, k248_12, k248_13, k248_14, k248_15, k248_16, k248_19, k248_22, mm_sI, mm_sJ, mm_sR, mm_cI, mm_cJ, mm_I, mm_J, mm_R, mm_K, mm_N, psh_s, psh_n, z_n, z_i, z_r, z_l, Nat.reduceAdd, Nat.reduceLeDiff, false_or, or_false, ne_eq, true_or, or_true, not_false_eq_true, Nat.reduceEqDiff, Nat.reduceLT, Nat.reduceLeDiff, Nat.reduceAdd, nLe (show L < 2 ^ 31 by omega) (show i < 2 ^ 31 by omega), show ¬ L ≤ i by omega, if_false, hK, hN, hi, ha', ix_n (show i < 2 ^ 31 by omega), nS1]
    rw [ih (by omega)]; rfl
theorem s_fillJ {a L : Nat} {v : Int64} (hK : E.1 a = 14) (hN : E.2.1 a = L) (ha : a ≠ 1) (hL : L < 2 ^ 31) : WP d 248 0 [some (vr a), some (vl v), none, none, none] [] (mm h j r E) Q = Q none (mm h (filJ a v 0 L j) r E) := by
  have ha' : (a = 1) = False := eq_false ha
  have hk : 13 ≤ E.1 a ∧ E.1 a ≤ 17 := by rw [hK]; decide
  have k3 := @k248_3 d (some (vr a)) (some (vl v)) none (some (vi 0)) none [] (mm h j r E) Q a hk ha
  simp only [k248_0, k248_1, k248_2, k248_4, k248_7, k248_9, k248_12, k248_13, k248_14, k248_15, k248_16, k248_19, k248_22, mm_sI, mm_sJ, mm_sR, mm_cI, mm_cJ, mm_I, mm_J, mm_R, mm_K, mm_N, psh_s, psh_n, z_n, z_i, z_r, z_l, Nat.reduceAdd, Nat.reduceLeDiff, false_or, or_false, ne_eq, true_or, or_true, not_false_eq_true, Nat.reduceEqDiff, Nat.reduceLT, Nat.reduceLeDiff, Nat.reduceAdd]
  rw [k3]
  simp only [k248_0, k248_1, k248_2, k248_4, k248_7, k248_9, k248_12, k248_13, k248_14, k248_15, k248_16, k248_19, k248_22, mm_sI, mm_sJ, mm_sR, mm_cI, mm_cJ, mm_I, mm_J, mm_R, mm_K, mm_N, psh_s, psh_n, z_n, z_i, z_r, z_l, Nat.reduceAdd, Nat.reduceLeDiff, false_or, or_false, ne_eq, true_or, or_true, not_false_eq_true, Nat.reduceEqDiff, Nat.reduceLT, Nat.reduceLeDiff, Nat.reduceAdd, hN]
  rw [show (0 : Int32) = nI 0 from rfl, show Int32.ofNat L = nI L from rfl, s_filJ hK hN ha hL (k := L) (i := 0) (by omega)]
theorem sh_rr (hS : Sh r E) {s v : Nat} (hs : s < 6) : Sh (up2 r (101 + 2 * s) 1 v) E := by
  refine hS.rr (by rw [up2_a (show 2 ≠ 101 + 2 * s by omega)]) (fun t ht => ?_)
  have q : ∀ t ∈ RfL, t.2.1 = 1 → t.1 ≤ 100 ∨ 113 ≤ t.1 := by decide +kernel
  rw [up2]
  by_cases e : t.1 = 101 + 2 * s
  · rw [if_pos e]
    by_cases e1 : t.2.1 = 1
    · have := q t ht e1; omega
    · rw [if_neg e1]
  · rw [if_neg e]
theorem m_rwL {s : Nat} {x1 x2 x3 : Option PV} (hS : Sh r E) (hs : s < 6) : ∀ {k i : Nat} {j : Jp}, i + k = 60 → WP d 238 48 [some (vr 113), some (vi (nI s)), x2, x3, some (vi (nI i))] [] (mm h j r E) Q = Q (some (vi 1)) (mm h (filJ 135 0 (60 * s + i) k j) r E) := by
  intro k
  induction k with
  | zero =>
    intro i j hk
    have : i = 60 := by omega
    subst this
    rw [k238_48]
    simp only [k238_0, k238_1, k238_4, k238_7, k238_8, k238_9, k238_10, k238_13, k238_16, k238_17, k238_19, k238_22, k238_23, k238_24, k238_25, k238_28, k238_30, k238_31, k238_32, k238_35, k238_36, k238_37, k238_38, k238_39, k238_42, k238_43, k238_44, k238_45, k238_46, k238_50, k238_52, k238_55, k238_56, k238_59, k238_61, k238_62, k238_63, k238_65, k238_66, k238_67, k238_68, k238_71, k238_74, k238_75, mm_sI, mm_sJ, mm_sR, mm_cI, mm_cJ, mm_I, mm_J, mm_R, mm_K, mm_N, psh_s, psh_n, z_n, z_i, z_r, z_l, Nat.reduceAdd, Nat.reduceLeDiff, false_or, or_false, ne_eq, true_or, or_true, not_false_eq_true, Nat.reduceEqDiff, Nat.reduceLT, Nat.reduceLeDiff, Nat.reduceAdd, show (60 : Int32) ≤ nI 60 by decide, if_true]; rfl
  | succ k ih =>
    intro i j hk
    have p1 : ((60 : Int32) ≤ nI i) = False := by rw [show (60 : Int32) = nI 60 from rfl, nLe (by decide) (by omega)]; apply eq_false; omega
    have hb : inb (nI (60 * s + i)) 360 = True := eq_true (by rw [inb_n (by omega)]; omega)
    have ea : nI (60 * s) + nI i = nI (60 * s + i) := nI_add _ _
    rw [k238_48]
    simp only [k238_0, k238_1, k238_4, k238_7, k238_8, k238_9, k238_10, k238_13, k238_16, k238_17, k238_19, k238_22, k238_23, k238_24, k238_25, k238_28, k238_30, k238_31, k238_32, k238_35, k238_36, k238_37, k238_38, k238_39, k238_42, k238_43, k238_44, k238_45, k238_46, k238_50, k238_52, k238_55, k238_56, k238_59, k238_61, k238_62, k238_63, k238_65, k238_66, k238_67, k238_68, k238_71, k238_74, k238_75, mm_sI, mm_sJ, mm_sR, mm_cI, mm_cJ, mm_I, mm_J, mm_R, mm_K, mm_N, psh_s, psh_n, z_n, z_i, z_r, z_l, Nat.reduceAdd, Nat.reduceLeDiff, K113 hS, R113_2 hS, R113_3 hS, R113_5 hS, R113_8 hS, R113_9 hS, R113_10 hS, R113_11 hS, R113_16 hS, R113_17 hS, R113_18 hS, R113_19 hS, R113_20 hS, R113_21 hS, R113_22 hS, R113_26 hS, R113_27 hS, R113_30 hS, R113_32 hS, R113_34 hS, R113_35 hS, R113_36 hS, R113_37 hS, R113_40 hS, R113_41 hS, R113_42 hS, R113_43 hS, R113_44 hS, R113_45 hS, R113_47 hS, K114 hS, K115 hS, K116 hS, K117 hS, K118 hS, K119 hS, K120 hS, K121 hS, K122 hS, K123 hS, K124 hS, K125 hS, K126 hS, K127 hS, K128 hS, K129 hS, K130 hS, K131 hS, K132 hS, K133 hS, K134 hS, K135 hS, K136 hS, K137 hS, K138 hS, K139 hS, K140 hS, K141 hS, K142 hS, N114 hS, N115 hS, N116 hS, N117 hS, N118 hS, N119 hS, N120 hS, N121 hS, N122 hS, N123 hS, N124 hS, N125 hS, N126 hS, N127 hS, N128 hS, N129 hS, N130 hS, N131 hS, N132 hS, N133 hS, N134 hS, N135 hS, N136 hS, N137 hS, N138 hS, N139 hS, N140 hS, N141 hS, N142 hS, false_or, or_false, ne_eq, true_or, or_true, not_false_eq_true, Nat.reduceEqDiff, Nat.reduceLT, Nat.reduceLeDiff, Nat.reduceAdd, p1, if_false, a60, ea, hb, ix_n (show 60 * s + i < 2 ^ 31 by omega), nS1]
    rw [ih (by omega)]; rfl
theorem q_row {sh so n : Int32} (I : Inv h j r E) : Both 60 133 238 [some (vr 2), some (vi sh), some (vi so), some (vi n)] [some (vr 113), some (vi sh), some (vi so), some (vi n), none] (mm h j r E) := by
  obtain ⟨G, F, l, W, b, C, D, _, _, _, _, _, _, HD, N, V, sc, sm, nb, n1, n2, n3⟩ := id I
  have hS := C.S
  have h5 : b2i (0 ≤ so ∧ so ≤ 4) = b2i (inb so 5) := b2i_c in_4
  by_cases c1 : inb sh 6
  case neg =>
    refine both_i (a := -1) I (fun Q hQ => ?_) (fun Q hQ => ?_)
    · simp only [k133_0, k133_1, k133_4, k133_7, k133_8, k133_9, k133_10, k133_13, k133_16, k133_17, k133_19, k133_22, k133_23, k133_24, k133_25, k133_28, k133_30, k133_31, k133_32, k133_35, k133_36, k133_37, k133_38, k133_39, k133_42, k133_43, mm_sI, mm_sJ, mm_sR, mm_cI, mm_cJ, mm_I, mm_J, mm_R, mm_K, mm_N, psh_s, psh_n, z_n, z_i, z_r, z_l, Nat.reduceAdd, Nat.reduceLeDiff, K2 hS, R2_0 hS, R2_1 hS, R2_2 hS, R2_6 hS, R2_8 hS, R2_11 hS, R2_12 hS, R2_13 hS, R2_15 hS, R2_16 hS, K3 hS, K11 hS, K19 hS, K27 hS, K32 hS, K37 hS, K98 hS, K99 hS, K100 hS, N37 hS, N98 hS, N99 hS, N100 hS, false_or, or_false, ne_eq, true_or, or_true, not_false_eq_true, Nat.reduceEqDiff, Nat.reduceLT, Nat.reduceLeDiff, Nat.reduceAdd, s_isShelf, b2i_f c1, if_true]; exact hQ
    · simp only [k238_0, k238_1, k238_4, k238_7, k238_8, k238_9, k238_10, k238_13, k238_16, k238_17, k238_19, k238_22, k238_23, k238_24, k238_25, k238_28, k238_30, k238_31, k238_32, k238_35, k238_36, k238_37, k238_38, k238_39, k238_42, k238_43, k238_44, k238_45, k238_46, k238_50, k238_52, k238_55, k238_56, k238_59, k238_61, k238_62, k238_63, k238_65, k238_66, k238_67, k238_68, k238_71, k238_74, k238_75, mm_sI, mm_sJ, mm_sR, mm_cI, mm_cJ, mm_I, mm_J, mm_R, mm_K, mm_N, psh_s, psh_n, z_n, z_i, z_r, z_l, Nat.reduceAdd, Nat.reduceLeDiff, K113 hS, R113_2 hS, R113_3 hS, R113_5 hS, R113_8 hS, R113_9 hS, R113_10 hS, R113_11 hS, R113_16 hS, R113_17 hS, R113_18 hS, R113_19 hS, R113_20 hS, R113_21 hS, R113_22 hS, R113_26 hS, R113_27 hS, R113_30 hS, R113_32 hS, R113_34 hS, R113_35 hS, R113_36 hS, R113_37 hS, R113_40 hS, R113_41 hS, R113_42 hS, R113_43 hS, R113_44 hS, R113_45 hS, R113_47 hS, K114 hS, K115 hS, K116 hS, K117 hS, K118 hS, K119 hS, K120 hS, K121 hS, K122 hS, K123 hS, K124 hS, K125 hS, K126 hS, K127 hS, K128 hS, K129 hS, K130 hS, K131 hS, K132 hS, K133 hS, K134 hS, K135 hS, K136 hS, K137 hS, K138 hS, K139 hS, K140 hS, K141 hS, K142 hS, N114 hS, N115 hS, N116 hS, N117 hS, N118 hS, N119 hS, N120 hS, N121 hS, N122 hS, N123 hS, N124 hS, N125 hS, N126 hS, N127 hS, N128 hS, N129 hS, N130 hS, N131 hS, N132 hS, N133 hS, N134 hS, N135 hS, N136 hS, N137 hS, N138 hS, N139 hS, N140 hS, N141 hS, N142 hS, false_or, or_false, ne_eq, true_or, or_true, not_false_eq_true, Nat.reduceEqDiff, Nat.reduceLT, Nat.reduceLeDiff, Nat.reduceAdd, m_isShelf, b2i_f c1, if_true]; exact hQ
  by_cases c2 : inb so 5
  case neg =>
    refine both_i (a := -1) I (fun Q hQ => ?_) (fun Q hQ => ?_)
    · simp only [k133_0, k133_1, k133_4, k133_7, k133_8, k133_9, k133_10, k133_13, k133_16, k133_17, k133_19, k133_22, k133_23, k133_24, k133_25, k133_28, k133_30, k133_31, k133_32, k133_35, k133_36, k133_37, k133_38, k133_39, k133_42, k133_43, mm_sI, mm_sJ, mm_sR, mm_cI, mm_cJ, mm_I, mm_J, mm_R, mm_K, mm_N, psh_s, psh_n, z_n, z_i, z_r, z_l, Nat.reduceAdd, Nat.reduceLeDiff, K2 hS, R2_0 hS, R2_1 hS, R2_2 hS, R2_6 hS, R2_8 hS, R2_11 hS, R2_12 hS, R2_13 hS, R2_15 hS, R2_16 hS, K3 hS, K11 hS, K19 hS, K27 hS, K32 hS, K37 hS, K98 hS, K99 hS, K100 hS, N37 hS, N98 hS, N99 hS, N100 hS, false_or, or_false, ne_eq, true_or, or_true, not_false_eq_true, Nat.reduceEqDiff, Nat.reduceLT, Nat.reduceLeDiff, Nat.reduceAdd, s_isShelf, b2i_t c1, e10, if_false, s_within, h5, b2i_f c2, if_true]; exact hQ
    · simp only [k238_0, k238_1, k238_4, k238_7, k238_8, k238_9, k238_10, k238_13, k238_16, k238_17, k238_19, k238_22, k238_23, k238_24, k238_25, k238_28, k238_30, k238_31, k238_32, k238_35, k238_36, k238_37, k238_38, k238_39, k238_42, k238_43, k238_44, k238_45, k238_46, k238_50, k238_52, k238_55, k238_56, k238_59, k238_61, k238_62, k238_63, k238_65, k238_66, k238_67, k238_68, k238_71, k238_74, k238_75, mm_sI, mm_sJ, mm_sR, mm_cI, mm_cJ, mm_I, mm_J, mm_R, mm_K, mm_N, psh_s, psh_n, z_n, z_i, z_r, z_l, Nat.reduceAdd, Nat.reduceLeDiff, K113 hS, R113_2 hS, R113_3 hS, R113_5 hS, R113_8 hS, R113_9 hS, R113_10 hS, R113_11 hS, R113_16 hS, R113_17 hS, R113_18 hS, R113_19 hS, R113_20 hS, R113_21 hS, R113_22 hS, R113_26 hS, R113_27 hS, R113_30 hS, R113_32 hS, R113_34 hS, R113_35 hS, R113_36 hS, R113_37 hS, R113_40 hS, R113_41 hS, R113_42 hS, R113_43 hS, R113_44 hS, R113_45 hS, R113_47 hS, K114 hS, K115 hS, K116 hS, K117 hS, K118 hS, K119 hS, K120 hS, K121 hS, K122 hS, K123 hS, K124 hS, K125 hS, K126 hS, K127 hS, K128 hS, K129 hS, K130 hS, K131 hS, K132 hS, K133 hS, K134 hS, K135 hS, K136 hS, K137 hS, K138 hS, K139 hS, K140 hS, K141 hS, K142 hS, N114 hS, N115 hS, N116 hS, N117 hS, N118 hS, N119 hS, N120 hS, N121 hS, N122 hS, N123 hS, N124 hS, N125 hS, N126 hS, N127 hS, N128 hS, N129 hS, N130 hS, N131 hS, N132 hS, N133 hS, N134 hS, N135 hS, N136 hS, N137 hS, N138 hS, N139 hS, N140 hS, N141 hS, N142 hS, false_or, or_false, ne_eq, true_or, or_true, not_false_eq_true, Nat.reduceEqDiff, Nat.reduceLT, Nat.reduceLeDiff, Nat.reduceAdd, m_isShelf, b2i_t c1, e10, if_false, s_within', h5, b2i_f c2, if_true]; exact hQ
  by_cases c3 : n ≤ 60
  case neg =>
    refine both_i (a := -1) I (fun Q hQ => ?_) (fun Q hQ => ?_)
    · simp only [k133_0, k133_1, k133_4, k133_7, k133_8, k133_9, k133_10, k133_13, k133_16, k133_17, k133_19, k133_22, k133_23, k133_24, k133_25, k133_28, k133_30, k133_31, k133_32, k133_35, k133_36, k133_37, k133_38, k133_39, k133_42, k133_43, mm_sI, mm_sJ, mm_sR, mm_cI, mm_cJ, mm_I, mm_J, mm_R, mm_K, mm_N, psh_s, psh_n, z_n, z_i, z_r, z_l, Nat.reduceAdd, Nat.reduceLeDiff, K2 hS, R2_0 hS, R2_1 hS, R2_2 hS, R2_6 hS, R2_8 hS, R2_11 hS, R2_12 hS, R2_13 hS, R2_15 hS, R2_16 hS, K3 hS, K11 hS, K19 hS, K27 hS, K32 hS, K37 hS, K98 hS, K99 hS, K100 hS, N37 hS, N98 hS, N99 hS, N100 hS, false_or, or_false, ne_eq, true_or, or_true, not_false_eq_true, Nat.reduceEqDiff, Nat.reduceLT, Nat.reduceLeDiff, Nat.reduceAdd, s_isShelf, b2i_t c1, e10, if_false, s_within, h5, b2i_t c2, c3]; exact hQ
    · simp only [k238_0, k238_1, k238_4, k238_7, k238_8, k238_9, k238_10, k238_13, k238_16, k238_17, k238_19, k238_22, k238_23, k238_24, k238_25, k238_28, k238_30, k238_31, k238_32, k238_35, k238_36, k238_37, k238_38, k238_39, k238_42, k238_43, k238_44, k238_45, k238_46, k238_50, k238_52, k238_55, k238_56, k238_59, k238_61, k238_62, k238_63, k238_65, k238_66, k238_67, k238_68, k238_71, k238_74, k238_75, mm_sI, mm_sJ, mm_sR, mm_cI, mm_cJ, mm_I, mm_J, mm_R, mm_K, mm_N, psh_s, psh_n, z_n, z_i, z_r, z_l, Nat.reduceAdd, Nat.reduceLeDiff, K113 hS, R113_2 hS, R113_3 hS, R113_5 hS, R113_8 hS, R113_9 hS, R113_10 hS, R113_11 hS, R113_16 hS, R113_17 hS, R113_18 hS, R113_19 hS, R113_20 hS, R113_21 hS, R113_22 hS, R113_26 hS, R113_27 hS, R113_30 hS, R113_32 hS, R113_34 hS, R113_35 hS, R113_36 hS, R113_37 hS, R113_40 hS, R113_41 hS, R113_42 hS, R113_43 hS, R113_44 hS, R113_45 hS, R113_47 hS, K114 hS, K115 hS, K116 hS, K117 hS, K118 hS, K119 hS, K120 hS, K121 hS, K122 hS, K123 hS, K124 hS, K125 hS, K126 hS, K127 hS, K128 hS, K129 hS, K130 hS, K131 hS, K132 hS, K133 hS, K134 hS, K135 hS, K136 hS, K137 hS, K138 hS, K139 hS, K140 hS, K141 hS, K142 hS, N114 hS, N115 hS, N116 hS, N117 hS, N118 hS, N119 hS, N120 hS, N121 hS, N122 hS, N123 hS, N124 hS, N125 hS, N126 hS, N127 hS, N128 hS, N129 hS, N130 hS, N131 hS, N132 hS, N133 hS, N134 hS, N135 hS, N136 hS, N137 hS, N138 hS, N139 hS, N140 hS, N141 hS, N142 hS, false_or, or_false, ne_eq, true_or, or_true, not_false_eq_true, Nat.reduceEqDiff, Nat.reduceLT, Nat.reduceLeDiff, Nat.reduceAdd, m_isShelf, b2i_t c1, e10, if_false, s_within', h5, b2i_t c2, c3]; exact hQ
  by_cases c4 : n < 0
  · have c4' := Int32.not_le.2 c4
    refine both_i (a := -14) I (fun Q hQ => ?_) (fun Q hQ => ?_)
    · simp only [k133_0, k133_1, k133_4, k133_7, k133_8, k133_9, k133_10, k133_13, k133_16, k133_17, k133_19, k133_22, k133_23, k133_24, k133_25, k133_28, k133_30, k133_31, k133_32, k133_35, k133_36, k133_37, k133_38, k133_39, k133_42, k133_43, mm_sI, mm_sJ, mm_sR, mm_cI, mm_cJ, mm_I, mm_J, mm_R, mm_K, mm_N, psh_s, psh_n, z_n, z_i, z_r, z_l, Nat.reduceAdd, Nat.reduceLeDiff, K2 hS, R2_0 hS, R2_1 hS, R2_2 hS, R2_6 hS, R2_8 hS, R2_11 hS, R2_12 hS, R2_13 hS, R2_15 hS, R2_16 hS, K3 hS, K11 hS, K19 hS, K27 hS, K32 hS, K37 hS, K98 hS, K99 hS, K100 hS, N37 hS, N98 hS, N99 hS, N100 hS, false_or, or_false, ne_eq, true_or, or_true, not_false_eq_true, Nat.reduceEqDiff, Nat.reduceLT, Nat.reduceLeDiff, Nat.reduceAdd, s_isShelf, b2i_t c1, e10, if_false, s_within, h5, b2i_t c2, c3, c4', if_true]; exact hQ
    · simp only [k238_0, k238_1, k238_4, k238_7, k238_8, k238_9, k238_10, k238_13, k238_16, k238_17, k238_19, k238_22, k238_23, k238_24, k238_25, k238_28, k238_30, k238_31, k238_32, k238_35, k238_36, k238_37, k238_38, k238_39, k238_42, k238_43, k238_44, k238_45, k238_46, k238_50, k238_52, k238_55, k238_56, k238_59, k238_61, k238_62, k238_63, k238_65, k238_66, k238_67, k238_68, k238_71, k238_74, k238_75, mm_sI, mm_sJ, mm_sR, mm_cI, mm_cJ, mm_I, mm_J, mm_R, mm_K, mm_N, psh_s, psh_n, z_n, z_i, z_r, z_l, Nat.reduceAdd, Nat.reduceLeDiff, K113 hS, R113_2 hS, R113_3 hS, R113_5 hS, R113_8 hS, R113_9 hS, R113_10 hS, R113_11 hS, R113_16 hS, R113_17 hS, R113_18 hS, R113_19 hS, R113_20 hS, R113_21 hS, R113_22 hS, R113_26 hS, R113_27 hS, R113_30 hS, R113_32 hS, R113_34 hS, R113_35 hS, R113_36 hS, R113_37 hS, R113_40 hS, R113_41 hS, R113_42 hS, R113_43 hS, R113_44 hS, R113_45 hS, R113_47 hS, K114 hS, K115 hS, K116 hS, K117 hS, K118 hS, K119 hS, K120 hS, K121 hS, K122 hS, K123 hS, K124 hS, K125 hS, K126 hS, K127 hS, K128 hS, K129 hS, K130 hS, K131 hS, K132 hS, K133 hS, K134 hS, K135 hS, K136 hS, K137 hS, K138 hS, K139 hS, K140 hS, K141 hS, K142 hS, N114 hS, N115 hS, N116 hS, N117 hS, N118 hS, N119 hS, N120 hS, N121 hS, N122 hS, N123 hS, N124 hS, N125 hS, N126 hS, N127 hS, N128 hS, N129 hS, N130 hS, N131 hS, N132 hS, N133 hS, N134 hS, N135 hS, N136 hS, N137 hS, N138 hS, N139 hS, N140 hS, N141 hS, N142 hS, false_or, or_false, ne_eq, true_or, or_true, not_false_eq_true, Nat.reduceEqDiff, Nat.reduceLT, Nat.reduceLeDiff, Nat.reduceAdd, m_isShelf, b2i_t c1, e10, if_false, s_within', h5, b2i_t c2, c3, c4', if_true]; exact hQ
  have c4' := Int32.not_lt.1 c4
  obtain ⟨s, hs, rfl, _⟩ := inb_of c1
  obtain ⟨m, hm, rfl⟩ := nI_of c4
  have hm60 : m ≤ 60 := by rw [show (60 : Int32) = nI 60 from rfl, nLe hm (by decide)] at c3; exact c3
  have ex : ix (nI s) = s := ix_n (by omega)
  have hb : inb (nI s) 6 = True := eq_true c1
  unfold Both
  simp only [k133_0, k133_1, k133_4, k133_7, k133_8, k133_9, k133_10, k133_13, k133_16, k133_17, k133_19, k133_22, k133_23, k133_24, k133_25, k133_28, k133_30, k133_31, k133_32, k133_35, k133_36, k133_37, k133_38, k133_39, k133_42, k133_43, k63_0, k63_1, k63_2, k63_5, k63_6, k63_7, k63_10, k63_11, k63_12, k63_15, k63_16, k63_19, k63_20, k63_23, mm_sI, mm_sJ, mm_sR, mm_cI, mm_cJ, mm_I, mm_J, mm_R, mm_K, mm_N, psh_s, psh_n, z_n, z_i, z_r, z_l, Nat.reduceAdd, Nat.reduceLeDiff, K2 hS, R2_0 hS, R2_1 hS, R2_2 hS, R2_6 hS, R2_8 hS, R2_11 hS, R2_12 hS, R2_13 hS, R2_15 hS, R2_16 hS, K3 hS, K11 hS, K19 hS, K27 hS, K32 hS, K37 hS, K98 hS, K99 hS, K100 hS, N37 hS, N98 hS, N99 hS, N100 hS, false_or, or_false, ne_eq, true_or, or_true, not_false_eq_true, Nat.reduceEqDiff, Nat.reduceLT, Nat.reduceLeDiff, Nat.reduceAdd, s_isShelf, b2i_t c1, e10, if_false, s_within, h5, b2i_t c2, c3, c4', if_true, hb, ex, shR hS hs, shK hS hs, up2_ai, shE hS hs, s_fillJ (shKe hS hs) (shNe hS hs) (show 102 + 2 * s ≠ 1 by omega) (show 60 < 2 ^ 31 by decide)]
  have hS1 := sh_rr hS (v := 0) hs
  have re : up2 r (101 + 2 * s) 1 0 (101 + 2 * s) 0 = 102 + 2 * s := by rw [up2_i (by decide)]; exact shE hS hs
  simp only [k133_0, k133_1, k133_4, k133_7, k133_8, k133_9, k133_10, k133_13, k133_16, k133_17, k133_19, k133_22, k133_23, k133_24, k133_25, k133_28, k133_30, k133_31, k133_32, k133_35, k133_36, k133_37, k133_38, k133_39, k133_42, k133_43, k63_0, k63_1, k63_2, k63_5, k63_6, k63_7, k63_10, k63_11, k63_12, k63_15, k63_16, k63_19, k63_20, k63_23, mm_sI, mm_sJ, mm_sR, mm_cI, mm_cJ, mm_I, mm_J, mm_R, mm_K, mm_N, psh_s, psh_n, z_n, z_i, z_r, z_l, Nat.reduceAdd, Nat.reduceLeDiff, K2 hS, R2_0 hS, R2_1 hS, R2_2 hS, R2_6 hS, R2_8 hS, R2_11 hS, R2_12 hS, R2_13 hS, R2_15 hS, R2_16 hS, K3 hS, K11 hS, K19 hS, K27 hS, K32 hS, K37 hS, K98 hS, K99 hS, K100 hS, N37 hS, N98 hS, N99 hS, N100 hS, false_or, or_false, ne_eq, true_or, or_true, not_false_eq_true, Nat.reduceEqDiff, Nat.reduceLT, Nat.reduceLeDiff, Nat.reduceAdd, re, s_fillJ (shKe hS hs) (shNe hS hs) (show 102 + 2 * s ≠ 1 by omega) (show 60 < 2 ^ 31 by decide)]
  have hS := hS1
  simp only [k238_0, k238_1, k238_4, k238_7, k238_8, k238_9, k238_10, k238_13, k238_16, k238_17, k238_19, k238_22, k238_23, k238_24, k238_25, k238_28, k238_30, k238_31, k238_32, k238_35, k238_36, k238_37, k238_38, k238_39, k238_42, k238_43, k238_44, k238_45, k238_46, k238_50, k238_52, k238_55, k238_56, k238_59, k238_61, k238_62, k238_63, k238_65, k238_66, k238_67, k238_68, k238_71, k238_74, k238_75, mm_sI, mm_sJ, mm_sR, mm_cI, mm_cJ, mm_I, mm_J, mm_R, mm_K, mm_N, psh_s, psh_n, z_n, z_i, z_r, z_l, Nat.reduceAdd, Nat.reduceLeDiff, K113 hS, R113_2 hS, R113_3 hS, R113_5 hS, R113_8 hS, R113_9 hS, R113_10 hS, R113_11 hS, R113_16 hS, R113_17 hS, R113_18 hS, R113_19 hS, R113_20 hS, R113_21 hS, R113_22 hS, R113_26 hS, R113_27 hS, R113_30 hS, R113_32 hS, R113_34 hS, R113_35 hS, R113_36 hS, R113_37 hS, R113_40 hS, R113_41 hS, R113_42 hS, R113_43 hS, R113_44 hS, R113_45 hS, R113_47 hS, K114 hS, K115 hS, K116 hS, K117 hS, K118 hS, K119 hS, K120 hS, K121 hS, K122 hS, K123 hS, K124 hS, K125 hS, K126 hS, K127 hS, K128 hS, K129 hS, K130 hS, K131 hS, K132 hS, K133 hS, K134 hS, K135 hS, K136 hS, K137 hS, K138 hS, K139 hS, K140 hS, K141 hS, K142 hS, N114 hS, N115 hS, N116 hS, N117 hS, N118 hS, N119 hS, N120 hS, N121 hS, N122 hS, N123 hS, N124 hS, N125 hS, N126 hS, N127 hS, N128 hS, N129 hS, N130 hS, N131 hS, N132 hS, N133 hS, N134 hS, N135 hS, N136 hS, N137 hS, N138 hS, N139 hS, N140 hS, N141 hS, N142 hS, false_or, or_false, ne_eq, true_or, or_true, not_false_eq_true, Nat.reduceEqDiff, Nat.reduceLT, Nat.reduceLeDiff, Nat.reduceAdd, m_isShelf, b2i_t c1, e10, if_false, s_within', h5, b2i_t c2, c3, c4', if_true, hb, ex]
  rw [show (0 : Int32) = nI 0 from rfl, m_rwL hS1 hs (x1 := none) (k := 60) (i := 0) (by omega)]
  refine ⟨rfl, ⟨_, rfl⟩, _, _, _, E, rfl, I.shv (fun a p q t => ?_) hS1 (by rw [up2_a (by omega)]) (fun a ha => up2_a (by omega)) ⟨putF HD s so, putF N s m, putF V s (fun _ => 0), ?_, ?_, nb, ?_, n2, ?_⟩⟩
  · rw [up2_a t, up2_a q, up2_a (by omega), up2_a (by omega)]
  · intro s' hs'
    obtain ⟨a1, a2, a3, a4, a5, a6, a7, a8⟩ := sc s' hs'
    by_cases e : s' = s
    · subst e
      refine ⟨?_, ?_, ?_, ?_, ?_, ?_, ?_, ?_⟩
      · rw [up2_a (by omega), up2_a (by omega), up2_s, putF_s]
      · rw [putF_s]; exact hm60
      · intro i hi; rw [filJ_v, if_neg (by omega), filJ_v, if_pos (by omega), putF_s]
      · rw [up2_a (by omega), up2_a (by omega), up2_i (by decide), up2_s, putF_s, if_pos c2]
      · rw [up2_s, putF_s]
        refine ⟨fun _ => ?_, fun _ => rfl⟩
        rw [iLt]; have := inb_i c2; rw [show (10 : Int32).toInt = 10 from rfl]; omega
      · rw [putF_s]; exact Or.inr (Or.inl c2)
      · intro _ i _; rw [putF_s]; decide
      · intro _; rw [putF_s]; exact c2
    · rw [putF_n e, putF_n e, putF_n e]
      refine ⟨?_, a2, ?_, ?_, ?_, a6, a7, a8⟩
      · rw [up2_a (by omega), up2_a (by omega), up2_a (by omega), up2_a (by omega)]; exact a1
      · intro i hi; rw [filJ_v, if_neg (by omega), filJ_v, if_neg (by omega)]; exact a3 i hi
      · rw [up2_a (by omega), up2_a (by omega), up2_a (by omega), up2_a (by omega)]; exact a4
      · rw [up2_a (by omega)]; exact a5
  · intro s' hs'
    obtain ⟨a1, a2, a3⟩ := sm s' hs'
    by_cases e : s' = s
    · subst e
      refine ⟨?_, ?_, fun i hi => ?_⟩
      · rw [up2_a (by decide), up2_s, putF_s]
      · rw [up2_s, putF_s]
      · rw [filJ_v, if_pos (by omega), putF_s]
    · rw [putF_n e, putF_n e, putF_n e]
      refine ⟨?_, ?_, fun i hi => ?_⟩
      · rw [up2_a (by decide), up2_i e, up2_a (by omega), up2_a (by omega)]; exact a1
      · rw [up2_i e, up2_a (by decide), up2_a (by omega), up2_a (by omega)]; exact a2
      · rw [filJ_v, if_neg (by omega), filJ_v, if_neg (by omega)]; exact a3 i hi
  · rw [up2_a (by decide), up2_a (by decide), up2_a (by omega), up2_a (by omega)]; exact n1
  · intro s' hs' h10
    by_cases e : s' = s
    · subst e
      rw [putF_s] at h10
      have := inb_i c2
      rw [iLe, show (10 : Int32).toInt = 10 from rfl] at h10; omega
    · rw [putF_n e] at h10 ⊢
      rw [up2_a (by omega)]; exact n3 s' hs' h10
end RW
