/-! ===== the model's books; which keeping, of whose ===== -/
section FT
variable {d : Nat} {M : Mem} {h h0 h1 h2 : Hp} {j : Jp} {r : Rp} {E : EE} {l G F A s n : Nat} {W : LW} {b bt bm : BB} {Q : Option PV → Mem → Prop} {hd : Int32} {V : Nat → Int64}
theorem ng2 {i : Nat} (h : i < 2 ^ 31) : (nI i = -2) = False := by
  apply eq_false; intro hh; have := congrArg Int32.toInt hh; rw [nI_toInt h, im2] at this; omega
theorem m_ukFin {e x y : Option PV} {v : Int32} (R : RR G F W 136 h0 bt h r E) (hQ : ∀ h', Scr h0 h' → Q (some (vi v)) (mm h' j r E)) : WP (d + 8) 212 83 [some (vr 113), x, y, some (vi v), e] [] (mm h j r E) Q := by
  have hS := R.D.S
  simp only [k212_0, k212_1, k212_2, k212_5, k212_8, k212_10, k212_11, k212_12, k212_16, k212_17, k212_20, k212_21, k212_22, k212_25, k212_27, k212_29, k212_32, k212_33, k212_35, k212_38, k212_40, k212_43, k212_44, k212_47, k212_48, k212_49, k212_51, k212_54, k212_56, k212_59, k212_60, k212_61, k212_63, k212_66, k212_67, k212_68, k212_71, k212_74, k212_76, k212_77, k212_80, k212_83, k212_84, k212_87, k212_88, mm_sI, mm_sJ, mm_sR, mm_cI, mm_cJ, mm_I, mm_J, mm_R, mm_K, mm_N, psh_s, psh_n, z_n, z_i, z_r, z_l, Nat.reduceAdd, Nat.reduceLeDiff, K113 hS, R113_2 hS, R113_3 hS, R113_5 hS, R113_8 hS, R113_9 hS, R113_10 hS, R113_11 hS, R113_16 hS, R113_17 hS, R113_18 hS, R113_19 hS, R113_20 hS, R113_21 hS, R113_22 hS, R113_26 hS, R113_27 hS, R113_30 hS, R113_32 hS, R113_34 hS, R113_35 hS, R113_36 hS, R113_37 hS, R113_40 hS, R113_41 hS, R113_42 hS, R113_43 hS, R113_44 hS, R113_45 hS, R113_47 hS, K114 hS, K115 hS, K116 hS, K117 hS, K118 hS, K119 hS, K120 hS, K121 hS, K122 hS, K123 hS, K124 hS, K125 hS, K126 hS, K127 hS, K128 hS, K129 hS, K130 hS, K131 hS, K132 hS, K133 hS, K134 hS, K135 hS, K136 hS, K137 hS, K138 hS, K139 hS, K140 hS, K141 hS, K142 hS, N114 hS, N115 hS, N116 hS, N117 hS, N118 hS, N119 hS, N120 hS, N121 hS, N122 hS, N123 hS, N124 hS, N125 hS, N126 hS, N127 hS, N128 hS, N129 hS, N130 hS, N131 hS, N132 hS, N133 hS, N134 hS, N135 hS, N136 hS, N137 hS, N138 hS, N139 hS, N140 hS, N141 hS, N142 hS, false_or, or_false, ne_eq, true_or, or_true, not_false_eq_true, Nat.reduceEqDiff, Nat.reduceLT, Nat.reduceLeDiff, Nat.reduceAdd]
  refine WP.deep (d := d + 7) ?_ (by omega)
  refine r_laysW hS R ?_
  intro h' s _
  simp only [k212_0, k212_1, k212_2, k212_5, k212_8, k212_10, k212_11, k212_12, k212_16, k212_17, k212_20, k212_21, k212_22, k212_25, k212_27, k212_29, k212_32, k212_33, k212_35, k212_38, k212_40, k212_43, k212_44, k212_47, k212_48, k212_49, k212_51, k212_54, k212_56, k212_59, k212_60, k212_61, k212_63, k212_66, k212_67, k212_68, k212_71, k212_74, k212_76, k212_77, k212_80, k212_83, k212_84, k212_87, k212_88, mm_sI, mm_sJ, mm_sR, mm_cI, mm_cJ, mm_I, mm_J, mm_R, mm_K, mm_N, psh_s, psh_n, z_n, z_i, z_r, z_l, Nat.reduceAdd, Nat.reduceLeDiff]
  exact hQ h' s
/-- the question of one hour of a book -/
theorem m_ukAsk {f i N : Nat} (hs : s < 6) (hf : f < F) (hiN : i < N) (hN : N = min n 41) (hV : ∀ i, i < 60 → -128 ≤ (V i).toInt ∧ (V i).toInt ≤ 127) (Cs : ShM s hd n V h0 j) (hn : n ≤ 60) (R : RR G F W 136 h0 bm h r E) (a : Ag f bm bt)
    (q1 : (V i ≠ 100 ∧ V i ≠ (bt 5 f).toInt64) → ∀ h', Scr h0 h' → Q (some (vi (nI i))) (mm h' j r E)) (q2 : ¬ (V i ≠ 100 ∧ V i ≠ (bt 5 f).toInt64) → WP (d + 8) 212 14 [some (vr 113), some (vi (nI s)), some (vi (nI f)), some (vi (-2)), some (vi (nI (i + 1)))] [] (mm h j r E) Q) :
    WP (d + 8) 212 47 [some (vr 113), some (vi (nI s)), some (vi (nI f)), some (vi (-2)), some (vi (nI i))] [] (mm h j r E) Q := by
  have hS := R.D.S
  have hF8 := R.D.F8
  have Cm := Cs.sg R.1
  have hvi := hV i (by omega)
  have found : (V i ≠ 100 ∧ V i ≠ (bt 5 f).toInt64) → WP (d + 8) 212 14 [some (vr 113), some (vi (nI s)), some (vi (nI f)), some (vi (nI i)), some (vi (nI (i + 1)))] [] (mm h j r E) Q := by
    intro c
    have hb6 : inb (nI s) 6 = True := eq_true (by rw [inb_n (by omega)]; exact hs)
    rw [k212_14]
    simp only [k212_0, k212_1, k212_2, k212_5, k212_8, k212_10, k212_11, k212_12, k212_16, k212_17, k212_20, k212_21, k212_22, k212_25, k212_27, k212_29, k212_32, k212_33, k212_35, k212_38, k212_40, k212_43, k212_44, k212_47, k212_48, k212_49, k212_51, k212_54, k212_56, k212_59, k212_60, k212_61, k212_63, k212_66, k212_67, k212_68, k212_71, k212_74, k212_76, k212_77, k212_80, k212_84, k212_87, k212_88, mm_sI, mm_sJ, mm_sR, mm_cI, mm_cJ, mm_I, mm_J, mm_R, mm_K, mm_N, psh_s, psh_n, z_n, z_i, z_r, z_l, Nat.reduceAdd, Nat.reduceLeDiff, K113 hS, R113_2 hS, R113_3 hS, R113_5 hS, R113_8 hS, R113_9 hS, R113_10 hS, R113_11 hS, R113_16 hS, R113_17 hS, R113_18 hS, R113_19 hS, R113_20 hS, R113_21 hS, R113_22 hS, R113_26 hS, R113_27 hS, R113_30 hS, R113_32 hS, R113_34 hS, R113_35 hS, R113_36 hS, R113_37 hS, R113_40 hS, R113_41 hS, R113_42 hS, R113_43 hS, R113_44 hS, R113_45 hS, R113_47 hS, K114 hS, K115 hS, K116 hS, K117 hS, K118 hS, K119 hS, K120 hS, K121 hS, K122 hS, K123 hS, K124 hS, K125 hS, K126 hS, K127 hS, K128 hS, K129 hS, K130 hS, K131 hS, K132 hS, K133 hS, K134 hS, K135 hS, K136 hS, K137 hS, K138 hS, K139 hS, K140 hS, K141 hS, K142 hS, N114 hS, N115 hS, N116 hS, N117 hS, N118 hS, N119 hS, N120 hS, N121 hS, N122 hS, N123 hS, N124 hS, N125 hS, N126 hS, N127 hS, N128 hS, N129 hS, N130 hS, N131 hS, N132 hS, N133 hS, N134 hS, N135 hS, N136 hS, N137 hS, N138 hS, N139 hS, N140 hS, N141 hS, N142 hS, false_or, or_false, ne_eq, true_or, or_true, not_false_eq_true, Nat.reduceEqDiff, Nat.reduceLT, Nat.reduceLeDiff, Nat.reduceAdd, hb6, ix_n (show s < 2 ^ 31 by omega), Cm.2.1, ng2 (show i < 2 ^ 31 by omega), if_false]
    split
    · exact m_ukFin R (q1 c)
    · split
      · exact m_ukFin R (q1 c)
      · exact m_ukFin R (q1 c)
  have e5 : bm 5 f = bt 5 f := a.2.2.2.2.2
  simp only [k212_0, k212_1, k212_2, k212_5, k212_8, k212_10, k212_11, k212_12, k212_16, k212_17, k212_20, k212_21, k212_22, k212_25, k212_27, k212_29, k212_32, k212_33, k212_35, k212_38, k212_40, k212_43, k212_44, k212_47, k212_48, k212_49, k212_51, k212_54, k212_56, k212_59, k212_60, k212_61, k212_63, k212_66, k212_67, k212_68, k212_71, k212_74, k212_76, k212_77, k212_80, k212_83, k212_84, k212_87, k212_88, mm_sI, mm_sJ, mm_sR, mm_cI, mm_cJ, mm_I, mm_J, mm_R, mm_K, mm_N, psh_s, psh_n, z_n, z_i, z_r, z_l, Nat.reduceAdd, Nat.reduceLeDiff, K113 hS, R113_2 hS, R113_3 hS, R113_5 hS, R113_8 hS, R113_9 hS, R113_10 hS, R113_11 hS, R113_16 hS, R113_17 hS, R113_18 hS, R113_19 hS, R113_20 hS, R113_21 hS, R113_22 hS, R113_26 hS, R113_27 hS, R113_30 hS, R113_32 hS, R113_34 hS, R113_35 hS, R113_36 hS, R113_37 hS, R113_40 hS, R113_41 hS, R113_42 hS, R113_43 hS, R113_44 hS, R113_45 hS, R113_47 hS, K114 hS, K115 hS, K116 hS, K117 hS, K118 hS, K119 hS, K120 hS, K121 hS, K122 hS, K123 hS, K124 hS, K125 hS, K126 hS, K127 hS, K128 hS, K129 hS, K130 hS, K131 hS, K132 hS, K133 hS, K134 hS, K135 hS, K136 hS, K137 hS, K138 hS, K139 hS, K140 hS, K141 hS, K142 hS, N114 hS, N115 hS, N116 hS, N117 hS, N118 hS, N119 hS, N120 hS, N121 hS, N122 hS, N123 hS, N124 hS, N125 hS, N126 hS, N127 hS, N128 hS, N129 hS, N130 hS, N131 hS, N132 hS, N133 hS, N134 hS, N135 hS, N136 hS, N137 hS, N138 hS, N139 hS, N140 hS, N141 hS, N142 hS, false_or, or_false, ne_eq, true_or, or_true, not_false_eq_true, Nat.reduceEqDiff, Nat.reduceLT, Nat.reduceLeDiff, Nat.reduceAdd, m_toldAt hS hs (show i < 60 by omega) Cm, nar_100 hvi, m_held hS (show f < 8 by omega), R.D.v5 hf, e5, nar_x hvi, nS1]
  by_cases c1 : V i = 100
  · simp only [c1, if_true]
    exact q2 (fun hh => hh.1 c1)
  · by_cases c2 : V i = (bt 5 f).toInt64
    · simp only [c1, c2, if_true, if_false]
      rw [← c2]
      simp only [c1, if_false]
      exact q2 (fun hh => hh.2 c2)
    · simp only [c1, c2, if_false]
      exact found ⟨c1, c2⟩
theorem m_ukL {f N : Nat} (hs : s < 6) (hf : f < F) (hN : N = min n 41) (hV : ∀ i, i < 60 → -128 ≤ (V i).toInt ∧ (V i).toInt ≤ 127) (Cs : ShM s hd n V h0 j) (hn : n ≤ 60) : ∀ {k i : Nat} {bm bt : BB} {h : Hp}, 1 ≤ i → i + k = N → RR G F W 136 h0 bm h r E → Ag f bm bt →
    (∀ h', Scr h0 h' → Q (some (vi (bkL W V f i k (oneB W f bt)))) (mm h' j r E)) → WP (d + 8) 212 14 [some (vr 113), some (vi (nI s)), some (vi (nI f)), some (vi (-2)), some (vi (nI i))] [] (mm h j r E) Q := by
  have hb6 : inb (nI s) 6 = True := eq_true (by rw [inb_n (by omega)]; exact hs)
  intro k
  induction k with
  | zero =>
    intro i bm bt h h1 hk R a hQ
    have hS := R.D.S
    have Cm := Cs.sg R.1
    have : i = N := by omega
    subst this
    rw [k212_14]
    simp only [k212_0, k212_1, k212_2, k212_5, k212_8, k212_10, k212_11, k212_12, k212_16, k212_17, k212_20, k212_21, k212_22, k212_25, k212_27, k212_29, k212_32, k212_33, k212_35, k212_38, k212_40, k212_43, k212_44, k212_47, k212_48, k212_49, k212_51, k212_54, k212_56, k212_59, k212_60, k212_61, k212_63, k212_66, k212_67, k212_68, k212_71, k212_74, k212_76, k212_77, k212_80, k212_84, k212_87, k212_88, mm_sI, mm_sJ, mm_sR, mm_cI, mm_cJ, mm_I, mm_J, mm_R, mm_K, mm_N, psh_s, psh_n, z_n, z_i, z_r, z_l, Nat.reduceAdd, Nat.reduceLeDiff, K113 hS, R113_2 hS, R113_3 hS, R113_5 hS, R113_8 hS, R113_9 hS, R113_10 hS, R113_11 hS, R113_16 hS, R113_17 hS, R113_18 hS, R113_19 hS, R113_20 hS, R113_21 hS, R113_22 hS, R113_26 hS, R113_27 hS, R113_30 hS, R113_32 hS, R113_34 hS, R113_35 hS, R113_36 hS, R113_37 hS, R113_40 hS, R113_41 hS, R113_42 hS, R113_43 hS, R113_44 hS, R113_45 hS, R113_47 hS, K114 hS, K115 hS, K116 hS, K117 hS, K118 hS, K119 hS, K120 hS, K121 hS, K122 hS, K123 hS, K124 hS, K125 hS, K126 hS, K127 hS, K128 hS, K129 hS, K130 hS, K131 hS, K132 hS, K133 hS, K134 hS, K135 hS, K136 hS, K137 hS, K138 hS, K139 hS, K140 hS, K141 hS, K142 hS, N114 hS, N115 hS, N116 hS, N117 hS, N118 hS, N119 hS, N120 hS, N121 hS, N122 hS, N123 hS, N124 hS, N125 hS, N126 hS, N127 hS, N128 hS, N129 hS, N130 hS, N131 hS, N132 hS, N133 hS, N134 hS, N135 hS, N136 hS, N137 hS, N138 hS, N139 hS, N140 hS, N141 hS, N142 hS, false_or, or_false, ne_eq, true_or, or_true, not_false_eq_true, Nat.reduceEqDiff, Nat.reduceLT, Nat.reduceLeDiff, Nat.reduceAdd, hb6, ix_n (show s < 2 ^ 31 by omega), Cm.2.1]
    by_cases c : nI n ≤ nI i
    · simp only [c, if_true]; exact m_ukFin R hQ
    · have c2 : (41 : Int32) ≤ nI i := by
        rw [nLe (by omega) (by omega)] at c
        rw [show (41 : Int32) = nI 41 from rfl, nLe (by decide) (by omega)]; omega
      simp only [c, c2, if_true, if_false]; exact m_ukFin R hQ
  | succ k ih =>
    intro i bm bt h h1 hk R a hQ
    have hS := R.D.S
    have Cm := Cs.sg R.1
    have p1 : (nI n ≤ nI i) = False := by rw [nLe (by omega) (by omega)]; apply eq_false; omega
    have p2 : ((41 : Int32) ≤ nI i) = False := by rw [show (41 : Int32) = nI 41 from rfl, nLe (by decide) (by omega)]; apply eq_false; omega
    have p3 : (nI i ≤ 0) = False := by rw [← nn0, nLe (by omega) (by omega)]; apply eq_false; omega
    rw [bkL_s] at hQ
    rw [k212_14]
    simp only [k212_0, k212_1, k212_2, k212_5, k212_8, k212_10, k212_11, k212_12, k212_16, k212_17, k212_20, k212_21, k212_22, k212_25, k212_27, k212_29, k212_32, k212_33, k212_35, k212_38, k212_40, k212_43, k212_44, k212_48, k212_49, k212_51, k212_54, k212_56, k212_59, k212_60, k212_61, k212_63, k212_66, k212_67, k212_68, k212_71, k212_74, k212_76, k212_77, k212_80, k212_83, k212_84, k212_87, k212_88, mm_sI, mm_sJ, mm_sR, mm_cI, mm_cJ, mm_I, mm_J, mm_R, mm_K, mm_N, psh_s, psh_n, z_n, z_i, z_r, z_l, Nat.reduceAdd, Nat.reduceLeDiff, K113 hS, R113_2 hS, R113_3 hS, R113_5 hS, R113_8 hS, R113_9 hS, R113_10 hS, R113_11 hS, R113_16 hS, R113_17 hS, R113_18 hS, R113_19 hS, R113_20 hS, R113_21 hS, R113_22 hS, R113_26 hS, R113_27 hS, R113_30 hS, R113_32 hS, R113_34 hS, R113_35 hS, R113_36 hS, R113_37 hS, R113_40 hS, R113_41 hS, R113_42 hS, R113_43 hS, R113_44 hS, R113_45 hS, R113_47 hS, K114 hS, K115 hS, K116 hS, K117 hS, K118 hS, K119 hS, K120 hS, K121 hS, K122 hS, K123 hS, K124 hS, K125 hS, K126 hS, K127 hS, K128 hS, K129 hS, K130 hS, K131 hS, K132 hS, K133 hS, K134 hS, K135 hS, K136 hS, K137 hS, K138 hS, K139 hS, K140 hS, K141 hS, K142 hS, N114 hS, N115 hS, N116 hS, N117 hS, N118 hS, N119 hS, N120 hS, N121 hS, N122 hS, N123 hS, N124 hS, N125 hS, N126 hS, N127 hS, N128 hS, N129 hS, N130 hS, N131 hS, N132 hS, N133 hS, N134 hS, N135 hS, N136 hS, N137 hS, N138 hS, N139 hS, N140 hS, N141 hS, N142 hS, false_or, or_false, ne_eq, true_or, or_true, not_false_eq_true, Nat.reduceEqDiff, Nat.reduceLT, Nat.reduceLeDiff, Nat.reduceAdd, hb6, ix_n (show s < 2 ^ 31 by omega), Cm.2.1, p1, p2, p3, if_true, if_false]
    refine WP.deep (d := d + 7) ?_ (by omega)
    refine m_passes R.D ?_
    intro h2 fr D2 _ _
    simp only [k212_0, k212_1, k212_2, k212_5, k212_8, k212_10, k212_11, k212_12, k212_16, k212_17, k212_20, k212_21, k212_22, k212_25, k212_27, k212_29, k212_32, k212_33, k212_35, k212_38, k212_40, k212_43, k212_44, k212_48, k212_49, k212_51, k212_54, k212_56, k212_59, k212_60, k212_61, k212_63, k212_66, k212_67, k212_68, k212_71, k212_74, k212_76, k212_77, k212_80, k212_83, k212_84, k212_87, k212_88, mm_sI, mm_sJ, mm_sR, mm_cI, mm_cJ, mm_I, mm_J, mm_R, mm_K, mm_N, psh_s, psh_n, z_n, z_i, z_r, z_l, Nat.reduceAdd, Nat.reduceLeDiff, false_or, or_false, ne_eq, true_or, or_true, not_false_eq_true, Nat.reduceEqDiff, Nat.reduceLT, Nat.reduceLeDiff, Nat.reduceAdd]
    have R2 := R.fr (Or.inl rfl) fr D2
    refine m_ukAsk hs hf (show i < N by omega) hN hV Cs hn R2 (ag_hr hf a) ?_ ?_
    · intro c; rw [if_pos c] at hQ; exact hQ
    · intro c; rw [if_neg c] at hQ; exact ih (by omega) (by omega) R2 (ag_hr hf a) hQ
theorem m_unlike {f : Nat} (hs : s < 6) (hf : f < F) (hV : ∀ i, i < 60 → -128 ≤ (V i).toInt ∧ (V i).toInt ≤ 127) (Cs : ShM s hd n V h j) (hn : n ≤ 60) (D : DD G F W b h r E)
    (hQ : ∀ h', Scr h h' → Q (some (vi (bkL W V f 0 (min n 41) b))) (mm h' j r E)) : WP (d + 8) 212 0 [some (vr 113), some (vi (nI s)), some (vi (nI f)), none, none] [] (mm h j r E) Q := by
  have hS := D.S
  have hb6 : inb (nI s) 6 = True := eq_true (by rw [inb_n (by omega)]; exact hs)
  simp only [k212_0, k212_1, k212_2, k212_5, k212_8, k212_10, k212_11, k212_12, k212_16, k212_17, k212_20, k212_21, k212_22, k212_25, k212_27, k212_29, k212_32, k212_33, k212_35, k212_38, k212_40, k212_43, k212_44, k212_47, k212_48, k212_49, k212_51, k212_54, k212_56, k212_59, k212_60, k212_61, k212_63, k212_66, k212_67, k212_68, k212_71, k212_74, k212_76, k212_77, k212_80, k212_83, k212_84, k212_87, k212_88, mm_sI, mm_sJ, mm_sR, mm_cI, mm_cJ, mm_I, mm_J, mm_R, mm_K, mm_N, psh_s, psh_n, z_n, z_i, z_r, z_l, Nat.reduceAdd, Nat.reduceLeDiff, K113 hS, R113_2 hS, R113_3 hS, R113_5 hS, R113_8 hS, R113_9 hS, R113_10 hS, R113_11 hS, R113_16 hS, R113_17 hS, R113_18 hS, R113_19 hS, R113_20 hS, R113_21 hS, R113_22 hS, R113_26 hS, R113_27 hS, R113_30 hS, R113_32 hS, R113_34 hS, R113_35 hS, R113_36 hS, R113_37 hS, R113_40 hS, R113_41 hS, R113_42 hS, R113_43 hS, R113_44 hS, R113_45 hS, R113_47 hS, K114 hS, K115 hS, K116 hS, K117 hS, K118 hS, K119 hS, K120 hS, K121 hS, K122 hS, K123 hS, K124 hS, K125 hS, K126 hS, K127 hS, K128 hS, K129 hS, K130 hS, K131 hS, K132 hS, K133 hS, K134 hS, K135 hS, K136 hS, K137 hS, K138 hS, K139 hS, K140 hS, K141 hS, K142 hS, N114 hS, N115 hS, N116 hS, N117 hS, N118 hS, N119 hS, N120 hS, N121 hS, N122 hS, N123 hS, N124 hS, N125 hS, N126 hS, N127 hS, N128 hS, N129 hS, N130 hS, N131 hS, N132 hS, N133 hS, N134 hS, N135 hS, N136 hS, N137 hS, N138 hS, N139 hS, N140 hS, N141 hS, N142 hS, false_or, or_false, ne_eq, true_or, or_true, not_false_eq_true, Nat.reduceEqDiff, Nat.reduceLT, Nat.reduceLeDiff, Nat.reduceAdd]
  refine r_keeps hS (Or.inl rfl) D ?_
  intro h1 R sc _
  have Cm := Cs.fr sc
  simp only [k212_0, k212_1, k212_2, k212_5, k212_8, k212_10, k212_11, k212_12, k212_16, k212_17, k212_20, k212_21, k212_22, k212_25, k212_27, k212_29, k212_32, k212_33, k212_35, k212_38, k212_40, k212_43, k212_44, k212_47, k212_48, k212_49, k212_51, k212_54, k212_56, k212_59, k212_60, k212_61, k212_63, k212_66, k212_67, k212_68, k212_71, k212_74, k212_76, k212_77, k212_80, k212_83, k212_84, k212_87, k212_88, mm_sI, mm_sJ, mm_sR, mm_cI, mm_cJ, mm_I, mm_J, mm_R, mm_K, mm_N, psh_s, psh_n, z_n, z_i, z_r, z_l, Nat.reduceAdd, Nat.reduceLeDiff, false_or, or_false, ne_eq, true_or, or_true, not_false_eq_true, Nat.reduceEqDiff, Nat.reduceLT, Nat.reduceLeDiff, Nat.reduceAdd]
  rw [k212_14]
  simp only [k212_0, k212_1, k212_2, k212_5, k212_8, k212_10, k212_11, k212_12, k212_16, k212_17, k212_20, k212_21, k212_22, k212_25, k212_27, k212_29, k212_32, k212_33, k212_35, k212_38, k212_40, k212_43, k212_44, k212_48, k212_49, k212_51, k212_54, k212_56, k212_59, k212_60, k212_61, k212_63, k212_66, k212_67, k212_68, k212_71, k212_74, k212_76, k212_77, k212_80, k212_84, k212_87, k212_88, mm_sI, mm_sJ, mm_sR, mm_cI, mm_cJ, mm_I, mm_J, mm_R, mm_K, mm_N, psh_s, psh_n, z_n, z_i, z_r, z_l, Nat.reduceAdd, Nat.reduceLeDiff, K113 hS, R113_2 hS, R113_3 hS, R113_5 hS, R113_8 hS, R113_9 hS, R113_10 hS, R113_11 hS, R113_16 hS, R113_17 hS, R113_18 hS, R113_19 hS, R113_20 hS, R113_21 hS, R113_22 hS, R113_26 hS, R113_27 hS, R113_30 hS, R113_32 hS, R113_34 hS, R113_35 hS, R113_36 hS, R113_37 hS, R113_40 hS, R113_41 hS, R113_42 hS, R113_43 hS, R113_44 hS, R113_45 hS, R113_47 hS, K114 hS, K115 hS, K116 hS, K117 hS, K118 hS, K119 hS, K120 hS, K121 hS, K122 hS, K123 hS, K124 hS, K125 hS, K126 hS, K127 hS, K128 hS, K129 hS, K130 hS, K131 hS, K132 hS, K133 hS, K134 hS, K135 hS, K136 hS, K137 hS, K138 hS, K139 hS, K140 hS, K141 hS, K142 hS, N114 hS, N115 hS, N116 hS, N117 hS, N118 hS, N119 hS, N120 hS, N121 hS, N122 hS, N123 hS, N124 hS, N125 hS, N126 hS, N127 hS, N128 hS, N129 hS, N130 hS, N131 hS, N132 hS, N133 hS, N134 hS, N135 hS, N136 hS, N137 hS, N138 hS, N139 hS, N140 hS, N141 hS, N142 hS, false_or, or_false, ne_eq, true_or, or_true, not_false_eq_true, Nat.reduceEqDiff, Nat.reduceLT, Nat.reduceLeDiff, Nat.reduceAdd, hb6, ix_n (show s < 2 ^ 31 by omega), Cm.2.1, if_true, show ¬ ((41 : Int32) ≤ 0) by decide, if_false, Int32.le_refl]
  by_cases h0n : n = 0
  · subst h0n
    simp only [nn0, Int32.le_refl, if_true]
    exact m_ukFin R hQ
  · have p1 : (nI n ≤ 0) = False := by rw [← nn0, nLe (by omega) (by omega)]; apply eq_false; omega
    obtain ⟨k, hk⟩ : ∃ k, min n 41 = k + 1 := ⟨min n 41 - 1, by omega⟩
    rw [hk, bkL_s] at hQ
    simp only [p1, if_false]
    refine m_ukAsk hs hf (i := 0) (N := min n 41) (by omega) rfl hV Cs hn R Ag.rf ?_ ?_
    · intro c; rw [if_pos c] at hQ; exact hQ
    · intro c; rw [if_neg c] at hQ; exact m_ukL hs hf (N := min n 41) rfl hV Cs hn (i := 1) (k := k) (by omega) (by omega) R Ag.rf hQ
theorem m_judge {sh fr : Int32} {HD : Nat → Int32} {N : Nat → Nat} {V : Nat → Nat → Int64} (D : DD G F W b h r E) (Cc : ∀ s, s < 6 → ShC s (HD s) (N s) (V s) h j r) (Cs : ∀ s, s < 6 → ShM s (HD s) (N s) (V s) h j) (hQ : ∀ h', Scr h h' → Q (some (vi (judgeA F W b HD N V sh fr))) (mm h' j r E)) :
    WP (d + 9) 213 0 [some (vr 113), some (vi sh), some (vi fr), none] [] (mm h j r E) Q := by
  have hS := D.S
  have hF8 := D.F8
  have hr := hQ h Scr.rf
  unfold judgeA at hQ hr
  simp only [k213_0, k213_1, k213_4, k213_7, k213_8, k213_9, k213_12, k213_15, k213_16, k213_17, k213_18, k213_19, k213_22, k213_23, k213_24, k213_27, k213_28, k213_31, k213_32, k213_33, k213_34, k213_37, mm_sI, mm_sJ, mm_sR, mm_cI, mm_cJ, mm_I, mm_J, mm_R, mm_K, mm_N, psh_s, psh_n, z_n, z_i, z_r, z_l, Nat.reduceAdd, Nat.reduceLeDiff, K113 hS, R113_2 hS, R113_3 hS, R113_5 hS, R113_8 hS, R113_9 hS, R113_10 hS, R113_11 hS, R113_16 hS, R113_17 hS, R113_18 hS, R113_19 hS, R113_20 hS, R113_21 hS, R113_22 hS, R113_26 hS, R113_27 hS, R113_30 hS, R113_32 hS, R113_34 hS, R113_35 hS, R113_36 hS, R113_37 hS, R113_40 hS, R113_41 hS, R113_42 hS, R113_43 hS, R113_44 hS, R113_45 hS, R113_47 hS, K114 hS, K115 hS, K116 hS, K117 hS, K118 hS, K119 hS, K120 hS, K121 hS, K122 hS, K123 hS, K124 hS, K125 hS, K126 hS, K127 hS, K128 hS, K129 hS, K130 hS, K131 hS, K132 hS, K133 hS, K134 hS, K135 hS, K136 hS, K137 hS, K138 hS, K139 hS, K140 hS, K141 hS, K142 hS, N114 hS, N115 hS, N116 hS, N117 hS, N118 hS, N119 hS, N120 hS, N121 hS, N122 hS, N123 hS, N124 hS, N125 hS, N126 hS, N127 hS, N128 hS, N129 hS, N130 hS, N131 hS, N132 hS, N133 hS, N134 hS, N135 hS, N136 hS, N137 hS, N138 hS, N139 hS, N140 hS, N141 hS, N142 hS, false_or, or_false, ne_eq, true_or, or_true, not_false_eq_true, Nat.reduceEqDiff, Nat.reduceLT, Nat.reduceLeDiff, Nat.reduceAdd, m_isShelf, m_isFrog D.eF hS hF8, b2i_0]
  by_cases c1 : inb sh 6
  case neg => simp only [eq_false c1, not_false_eq_true, if_true, false_and, if_false] at hr ⊢; exact hr
  by_cases c2 : inb fr F
  case neg => simp only [eq_false c2, not_false_eq_true, if_true, false_and, and_false, if_false, eq_true c1, not_true_eq_false] at hr ⊢; exact hr
  obtain ⟨s, hs, rfl, _⟩ := inb_of c1
  obtain ⟨f, hf, rfl, hf2⟩ := inb_of c2
  have ex : ix (nI s) = s := ix_n (by omega)
  simp only [eq_true c1, eq_true c2, not_true_eq_false, if_false, and_true, if_true, ex, ix_n hf2] at hQ hr
  simp only [k213_0, k213_1, k213_4, k213_7, k213_8, k213_9, k213_12, k213_15, k213_16, k213_17, k213_18, k213_19, k213_22, k213_23, k213_24, k213_27, k213_28, k213_31, k213_32, k213_33, k213_34, k213_37, mm_sI, mm_sJ, mm_sR, mm_cI, mm_cJ, mm_I, mm_J, mm_R, mm_K, mm_N, psh_s, psh_n, z_n, z_i, z_r, z_l, Nat.reduceAdd, Nat.reduceLeDiff, K113 hS, R113_2 hS, R113_3 hS, R113_5 hS, R113_8 hS, R113_9 hS, R113_10 hS, R113_11 hS, R113_16 hS, R113_17 hS, R113_18 hS, R113_19 hS, R113_20 hS, R113_21 hS, R113_22 hS, R113_26 hS, R113_27 hS, R113_30 hS, R113_32 hS, R113_34 hS, R113_35 hS, R113_36 hS, R113_37 hS, R113_40 hS, R113_41 hS, R113_42 hS, R113_43 hS, R113_44 hS, R113_45 hS, R113_47 hS, K114 hS, K115 hS, K116 hS, K117 hS, K118 hS, K119 hS, K120 hS, K121 hS, K122 hS, K123 hS, K124 hS, K125 hS, K126 hS, K127 hS, K128 hS, K129 hS, K130 hS, K131 hS, K132 hS, K133 hS, K134 hS, K135 hS, K136 hS, K137 hS, K138 hS, K139 hS, K140 hS, K141 hS, K142 hS, N114 hS, N115 hS, N116 hS, N117 hS, N118 hS, N119 hS, N120 hS, N121 hS, N122 hS, N123 hS, N124 hS, N125 hS, N126 hS, N127 hS, N128 hS, N129 hS, N130 hS, N131 hS, N132 hS, N133 hS, N134 hS, N135 hS, N136 hS, N137 hS, N138 hS, N139 hS, N140 hS, N141 hS, N142 hS, false_or, or_false, ne_eq, true_or, or_true, not_false_eq_true, Nat.reduceEqDiff, Nat.reduceLT, Nat.reduceLeDiff, Nat.reduceAdd, eq_true c1, eq_true c2, not_true_eq_false, if_false, if_true, m_noBytes hS hs (Cs s hs)]
  by_cases h1 : HD s = -1
  · simp only [h1, if_true] at hr
    simp only [h1, if_true, show ¬ ((0 : Int32) ≤ -11) by decide, if_false]; exact hr
  · by_cases h0 : HD s = 0
    · simp only [h0, if_true, show ¬ ((0 : Int32) = -1) by decide, if_false, Int32.le_refl] at hQ ⊢
      refine m_unlike hs hf ((Cc s hs).2.2.2.2.2.2.1 h0) (Cs s hs) (Cc s hs).2.1 D ?_
      intro h'' s'
      simp only [k213_0, k213_1, k213_4, k213_7, k213_8, k213_9, k213_12, k213_15, k213_16, k213_17, k213_18, k213_19, k213_22, k213_23, k213_24, k213_27, k213_28, k213_31, k213_32, k213_33, k213_34, k213_37, mm_sI, mm_sJ, mm_sR, mm_cI, mm_cJ, mm_I, mm_J, mm_R, mm_K, mm_N, psh_s, psh_n, z_n, z_i, z_r, z_l, Nat.reduceAdd, Nat.reduceLeDiff, false_or, or_false, ne_eq, true_or, or_true, not_false_eq_true, Nat.reduceEqDiff, Nat.reduceLT, Nat.reduceLeDiff, Nat.reduceAdd]
      exact hQ h'' s'
    · simp only [h1, h0, if_false] at hr
      simp only [h1, h0, if_false, show ¬ ((0 : Int32) ≤ -12) by decide]; exact hr
end FT
