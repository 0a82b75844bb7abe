/-! ===== the model's levels ===== -/
section LVM
variable {d D e : Nat} {M : Mem} {h h0 h1 h2 h3 : Hp} {j : Jp} {r : Rp} {E : EE} {n p k q o o2 lv K : Nat} {T : Nat → Int32} {Q : Option PV → Mem → Prop} {x a b v : Int32} {s s2 : PR} {t : Tk} {c c2 : List Tk} {z : Bool} {fn sub s0 s5 : Nat → PR}
theorem m_isPL (hJ : MC D n T 170 [none, none] o sub) (hs : ∀ q, PrI n q (sub q)) (he : D ≤ e) (h1e : 1 ≤ e) (X : XM n T h r E) (hpn : p ≤ n) (hkp : k ≤ p) : ∀ {m : Nat} {s : PR} {h1 : Hp} {x1 : Option PV}, n - s.2.1 < m → s.1 = true → MP k o s h h1 → PrI n p s →
    (∀ h', MP k o (lpR sub T n 4 m s) h h' → Q (some (vi (b2i ((lpR sub T n 4 m s).1 = true)))) (mm h' j r E)) → WP (e + 1) 171 9 [some (vr 113), x1] [] (mm h1 j r E) Q := by
  intro m
  induction m with
  | zero => intro s h1 x1 hm; omega
  | succ m ih =>
    intro s h1 x1 hm hs1 P I hQ
    have hS := X.S
    have n1 := X.n1
    have X1 := X.fr P.1
    obtain ⟨a1, a2, a3, a4⟩ := I
    have I : PrI n p s := ⟨a1, a2, a3, a4⟩
    have a3 := a3 hpn
    rw [m_opP X1 P.2.1 a3]
    by_cases c : levF (sgF T n s.2.1) = 4
    case neg =>
      rw [lpR_no c] at hQ
      have := hQ h1 P
      rw [b2i_t hs1] at this
      rw [if_neg c]
      simp only [k171_1, k171_4, k171_7, k171_8, k171_10, k171_13, k171_15, k171_18, k171_20, k171_23, k171_24, k171_27, k171_29, k171_32, k171_34, k171_37, k171_38, k171_41, k171_43, k171_46, k171_48, k171_51, k171_52, k171_53, k171_54, k171_57, k171_58, k171_59, k171_60, k171_60i, k171_61, k171_64, k171_65, k171_66, k171_69, k171_70, k171_73, k171_76, k171_77, k171_78, k171_79, k171_80, k171_83, k171_83i, k171_84, mm_sI, mm_sJ, mm_sR, mm_cI, mm_cJ, mm_I, mm_J, mm_R, mm_K, mm_N, psh_s, psh_n, z_n, z_i, z_r, z_l, Nat.reduceAdd, Nat.reduceLeDiff, false_or, or_false, ne_eq, true_or, or_true, not_false_eq_true, Nat.reduceEqDiff, Nat.reduceLT, Nat.reduceLeDiff, Nat.reduceAdd, show ((-1 : Int32) < 0) = True from eq_true (by decide), if_true, show ((0 : Int32) ≤ -1) = False from eq_false (by decide), if_false]
      exact this
    obtain ⟨cp, go⟩ := lpR_go (sub := sub) (K := m) hs1 (by decide) c
    rw [go] at hQ
    rw [if_pos c]
    obtain ⟨cn, ce⟩ := codP (x := sgF T n s.2.1) (by omega)
    generalize sgF T n s.2.1 = sg at *
    have cn' : (0 ≤ codF sg) = True := eq_true (Int32.not_lt.1 (fun hh => by rw [cn] at hh; exact hh))
    simp only [k171_1, k171_4, k171_7, k171_8, k171_10, k171_13, k171_15, k171_18, k171_20, k171_23, k171_24, k171_27, k171_29, k171_32, k171_34, k171_37, k171_38, k171_41, k171_43, k171_46, k171_48, k171_51, k171_52, k171_53, k171_54, k171_57, k171_58, k171_59, k171_60, k171_60i, k171_61, k171_64, k171_65, k171_66, k171_69, k171_70, k171_73, k171_76, k171_77, k171_78, k171_79, k171_80, k171_83, k171_83i, k171_84, mm_sI, mm_sJ, mm_sR, mm_cI, mm_cJ, mm_I, mm_J, mm_R, mm_K, mm_N, psh_s, psh_n, z_n, z_i, z_r, z_l, Nat.reduceAdd, Nat.reduceLeDiff, K113 hS, R113_2 hS, R113_3 hS, R113_5 hS, R113_8 hS, R113_9 hS, R113_10 hS, R113_11 hS, R113_16 hS, R113_17 hS, R113_18 hS, R113_19 hS, R113_20 hS, R113_21 hS, R113_22 hS, R113_26 hS, R113_27 hS, R113_30 hS, R113_32 hS, R113_34 hS, R113_35 hS, R113_36 hS, R113_37 hS, R113_40 hS, R113_41 hS, R113_42 hS, R113_43 hS, R113_44 hS, R113_45 hS, R113_47 hS, K114 hS, K115 hS, K116 hS, K117 hS, K118 hS, K119 hS, K120 hS, K121 hS, K122 hS, K123 hS, K124 hS, K125 hS, K126 hS, K127 hS, K128 hS, K129 hS, K130 hS, K131 hS, K132 hS, K133 hS, K134 hS, K135 hS, K136 hS, K137 hS, K138 hS, K139 hS, K140 hS, K141 hS, K142 hS, N114 hS, N115 hS, N116 hS, N117 hS, N118 hS, N119 hS, N120 hS, N121 hS, N122 hS, N123 hS, N124 hS, N125 hS, N126 hS, N127 hS, N128 hS, N129 hS, N130 hS, N131 hS, N132 hS, N133 hS, N134 hS, N135 hS, N136 hS, N137 hS, N138 hS, N139 hS, N140 hS, N141 hS, N142 hS, false_or, or_false, ne_eq, true_or, or_true, not_false_eq_true, Nat.reduceEqDiff, Nat.reduceLT, Nat.reduceLeDiff, Nat.reduceAdd, cn, cn', if_true, if_false, P.2.1, nS1]
    obtain ⟨q1, q2, q3, q4⟩ := hs (s.2.1 + 1)
    have I2 : PrI n p (apdR s sg (sub (s.2.1 + 1))) := I.apd cp ⟨q1, q2, q3, q4⟩
    have Pq : MP k o (true, s.2.1 + 1, s.2.2) h (up2 h1 113 12 (nI (s.2.1 + 1))) := P.pl
    refine hJ e (s.2.1 + 1) (k + s.2.2.length) (up2 h1 113 12 (nI (s.2.1 + 1))) j r E _ he (X.fr Pq.1) Pq.2.1 Pq.2.2.1 Pq.2.2.2.1 cp (by omega) ?_
    intro h3 P3
    have q3 := q3 cp
    have Pc : MP k o (true, (sub (s.2.1 + 1)).2.1, s.2.2 ++ (sub (s.2.1 + 1)).2.2) h h3 := MP.cat (s := (true, s.2.1 + 1, s.2.2)) Pq P3
    by_cases hs2 : (sub (s.2.1 + 1)).1 = true
    · have ea : apdR s sg (sub (s.2.1 + 1)) = (true, (sub (s.2.1 + 1)).2.1, s.2.2 ++ (sub (s.2.1 + 1)).2.2 ++ [(sg, 0)]) := by unfold apdR; rw [if_pos hs2, hs2]
      have hk3 : h3 113 14 = nI (k + (s.2.2 ++ (sub (s.2.1 + 1)).2.2).length) := Pc.2.2.2.1
      have hl3 : k + (s.2.2 ++ (sub (s.2.1 + 1)).2.2).length < 200 := by rw [List.length_append]; omega
      have Pa : MP k o (apdR s sg (sub (s.2.1 + 1))) h (moH (k + (s.2.2 ++ (sub (s.2.1 + 1)).2.2).length) (codF sg) h3) := by rw [ea]; exact Pc.co ce
      simp only [k171_1, k171_4, k171_7, k171_8, k171_10, k171_13, k171_15, k171_18, k171_20, k171_23, k171_24, k171_27, k171_29, k171_32, k171_34, k171_37, k171_38, k171_41, k171_43, k171_46, k171_48, k171_51, k171_52, k171_53, k171_54, k171_57, k171_58, k171_59, k171_60, k171_60i, k171_61, k171_64, k171_65, k171_66, k171_69, k171_70, k171_73, k171_76, k171_77, k171_78, k171_79, k171_80, k171_83, k171_83i, k171_84, mm_sI, mm_sJ, mm_sR, mm_cI, mm_cJ, mm_I, mm_J, mm_R, mm_K, mm_N, psh_s, psh_n, z_n, z_i, z_r, z_l, Nat.reduceAdd, Nat.reduceLeDiff, K113 hS, R113_2 hS, R113_3 hS, R113_5 hS, R113_8 hS, R113_9 hS, R113_10 hS, R113_11 hS, R113_16 hS, R113_17 hS, R113_18 hS, R113_19 hS, R113_20 hS, R113_21 hS, R113_22 hS, R113_26 hS, R113_27 hS, R113_30 hS, R113_32 hS, R113_34 hS, R113_35 hS, R113_36 hS, R113_37 hS, R113_40 hS, R113_41 hS, R113_42 hS, R113_43 hS, R113_44 hS, R113_45 hS, R113_47 hS, K114 hS, K115 hS, K116 hS, K117 hS, K118 hS, K119 hS, K120 hS, K121 hS, K122 hS, K123 hS, K124 hS, K125 hS, K126 hS, K127 hS, K128 hS, K129 hS, K130 hS, K131 hS, K132 hS, K133 hS, K134 hS, K135 hS, K136 hS, K137 hS, K138 hS, K139 hS, K140 hS, K141 hS, K142 hS, N114 hS, N115 hS, N116 hS, N117 hS, N118 hS, N119 hS, N120 hS, N121 hS, N122 hS, N123 hS, N124 hS, N125 hS, N126 hS, N127 hS, N128 hS, N129 hS, N130 hS, N131 hS, N132 hS, N133 hS, N134 hS, N135 hS, N136 hS, N137 hS, N138 hS, N139 hS, N140 hS, N141 hS, N142 hS, false_or, or_false, ne_eq, true_or, or_true, not_false_eq_true, Nat.reduceEqDiff, Nat.reduceLT, Nat.reduceLeDiff, Nat.reduceAdd, b2i_t hs2, e10, if_false, m_codes hS hk3 hl3]
      exact ih (by rw [ea]; show n - (sub (s.2.1 + 1)).2.1 < m; omega) (by rw [ea]) Pa I2 hQ
    · have hf : (sub (s.2.1 + 1)).1 = false := by cases hh : (sub (s.2.1 + 1)).1; rfl; exact absurd hh hs2
      have ea : apdR s sg (sub (s.2.1 + 1)) = (false, (sub (s.2.1 + 1)).2.1, s.2.2 ++ (sub (s.2.1 + 1)).2.2) := by unfold apdR; rw [if_neg hs2, hf]
      rw [lpR_f (by rw [ea]; exact Bool.false_ne_true), ea] at hQ
      simp only [k171_1, k171_4, k171_7, k171_8, k171_10, k171_13, k171_15, k171_18, k171_20, k171_23, k171_24, k171_27, k171_29, k171_32, k171_34, k171_37, k171_38, k171_41, k171_43, k171_46, k171_48, k171_51, k171_52, k171_53, k171_54, k171_57, k171_58, k171_59, k171_60, k171_60i, k171_61, k171_64, k171_65, k171_66, k171_69, k171_70, k171_73, k171_76, k171_77, k171_78, k171_79, k171_80, k171_83, k171_83i, k171_84, mm_sI, mm_sJ, mm_sR, mm_cI, mm_cJ, mm_I, mm_J, mm_R, mm_K, mm_N, psh_s, psh_n, z_n, z_i, z_r, z_l, Nat.reduceAdd, Nat.reduceLeDiff, K113 hS, R113_2 hS, R113_3 hS, R113_5 hS, R113_8 hS, R113_9 hS, R113_10 hS, R113_11 hS, R113_16 hS, R113_17 hS, R113_18 hS, R113_19 hS, R113_20 hS, R113_21 hS, R113_22 hS, R113_26 hS, R113_27 hS, R113_30 hS, R113_32 hS, R113_34 hS, R113_35 hS, R113_36 hS, R113_37 hS, R113_40 hS, R113_41 hS, R113_42 hS, R113_43 hS, R113_44 hS, R113_45 hS, R113_47 hS, K114 hS, K115 hS, K116 hS, K117 hS, K118 hS, K119 hS, K120 hS, K121 hS, K122 hS, K123 hS, K124 hS, K125 hS, K126 hS, K127 hS, K128 hS, K129 hS, K130 hS, K131 hS, K132 hS, K133 hS, K134 hS, K135 hS, K136 hS, K137 hS, K138 hS, K139 hS, K140 hS, K141 hS, K142 hS, N114 hS, N115 hS, N116 hS, N117 hS, N118 hS, N119 hS, N120 hS, N121 hS, N122 hS, N123 hS, N124 hS, N125 hS, N126 hS, N127 hS, N128 hS, N129 hS, N130 hS, N131 hS, N132 hS, N133 hS, N134 hS, N135 hS, N136 hS, N137 hS, N138 hS, N139 hS, N140 hS, N141 hS, N142 hS, false_or, or_false, ne_eq, true_or, or_true, not_false_eq_true, Nat.reduceEqDiff, Nat.reduceLT, Nat.reduceLeDiff, Nat.reduceAdd, b2i_f hs2, if_true]
      exact hQ h3 Pc
theorem m_isP (hJ : MC D n T 170 [none, none] o sub) (hs : ∀ q, PrI n q (sub q)) (hD : 1 ≤ D) : MC (D + 1) n T 171 [none] o (fun p => lpR sub T n 4 120 (sub p)) := by
  intro e p k h j r E Q he X hp ho hk hpn hkp hQ
  obtain ⟨e', rfl⟩ : ∃ e', e = e' + 1 := ⟨e - 1, by omega⟩
  have hS := X.S
  have n1 := X.n1
  rw [k171_0]
  simp only [k171_1, k171_4, k171_7, k171_8, k171_10, k171_13, k171_15, k171_18, k171_20, k171_23, k171_24, k171_27, k171_29, k171_32, k171_34, k171_37, k171_38, k171_41, k171_43, k171_46, k171_48, k171_51, k171_52, k171_53, k171_54, k171_57, k171_58, k171_59, k171_60, k171_60i, k171_61, k171_64, k171_65, k171_66, k171_69, k171_70, k171_73, k171_76, k171_77, k171_78, k171_79, k171_80, k171_83, k171_83i, k171_84, mm_sI, mm_sJ, mm_sR, mm_cI, mm_cJ, mm_I, mm_J, mm_R, mm_K, mm_N, psh_s, psh_n, z_n, z_i, z_r, z_l, Nat.reduceAdd, Nat.reduceLeDiff, K113 hS, R113_2 hS, R113_3 hS, R113_5 hS, R113_8 hS, R113_9 hS, R113_10 hS, R113_11 hS, R113_16 hS, R113_17 hS, R113_18 hS, R113_19 hS, R113_20 hS, R113_21 hS, R113_22 hS, R113_26 hS, R113_27 hS, R113_30 hS, R113_32 hS, R113_34 hS, R113_35 hS, R113_36 hS, R113_37 hS, R113_40 hS, R113_41 hS, R113_42 hS, R113_43 hS, R113_44 hS, R113_45 hS, R113_47 hS, K114 hS, K115 hS, K116 hS, K117 hS, K118 hS, K119 hS, K120 hS, K121 hS, K122 hS, K123 hS, K124 hS, K125 hS, K126 hS, K127 hS, K128 hS, K129 hS, K130 hS, K131 hS, K132 hS, K133 hS, K134 hS, K135 hS, K136 hS, K137 hS, K138 hS, K139 hS, K140 hS, K141 hS, K142 hS, N114 hS, N115 hS, N116 hS, N117 hS, N118 hS, N119 hS, N120 hS, N121 hS, N122 hS, N123 hS, N124 hS, N125 hS, N126 hS, N127 hS, N128 hS, N129 hS, N130 hS, N131 hS, N132 hS, N133 hS, N134 hS, N135 hS, N136 hS, N137 hS, N138 hS, N139 hS, N140 hS, N141 hS, N142 hS, false_or, or_false, ne_eq, true_or, or_true, not_false_eq_true, Nat.reduceEqDiff, Nat.reduceLT, Nat.reduceLeDiff, Nat.reduceAdd]
  refine hJ e' p k h j r E _ (by omega) X hp ho hk hpn hkp ?_
  intro h1 P
  by_cases c1 : (sub p).1 = true
  · simp only [k171_1, k171_4, k171_7, k171_8, k171_10, k171_13, k171_15, k171_18, k171_20, k171_23, k171_24, k171_27, k171_29, k171_32, k171_34, k171_37, k171_38, k171_41, k171_43, k171_46, k171_48, k171_51, k171_52, k171_53, k171_54, k171_57, k171_58, k171_59, k171_60, k171_60i, k171_61, k171_64, k171_65, k171_66, k171_69, k171_70, k171_73, k171_76, k171_77, k171_78, k171_79, k171_80, k171_83, k171_83i, k171_84, mm_sI, mm_sJ, mm_sR, mm_cI, mm_cJ, mm_I, mm_J, mm_R, mm_K, mm_N, psh_s, psh_n, z_n, z_i, z_r, z_l, Nat.reduceAdd, Nat.reduceLeDiff, K113 hS, R113_2 hS, R113_3 hS, R113_5 hS, R113_8 hS, R113_9 hS, R113_10 hS, R113_11 hS, R113_16 hS, R113_17 hS, R113_18 hS, R113_19 hS, R113_20 hS, R113_21 hS, R113_22 hS, R113_26 hS, R113_27 hS, R113_30 hS, R113_32 hS, R113_34 hS, R113_35 hS, R113_36 hS, R113_37 hS, R113_40 hS, R113_41 hS, R113_42 hS, R113_43 hS, R113_44 hS, R113_45 hS, R113_47 hS, K114 hS, K115 hS, K116 hS, K117 hS, K118 hS, K119 hS, K120 hS, K121 hS, K122 hS, K123 hS, K124 hS, K125 hS, K126 hS, K127 hS, K128 hS, K129 hS, K130 hS, K131 hS, K132 hS, K133 hS, K134 hS, K135 hS, K136 hS, K137 hS, K138 hS, K139 hS, K140 hS, K141 hS, K142 hS, N114 hS, N115 hS, N116 hS, N117 hS, N118 hS, N119 hS, N120 hS, N121 hS, N122 hS, N123 hS, N124 hS, N125 hS, N126 hS, N127 hS, N128 hS, N129 hS, N130 hS, N131 hS, N132 hS, N133 hS, N134 hS, N135 hS, N136 hS, N137 hS, N138 hS, N139 hS, N140 hS, N141 hS, N142 hS, false_or, or_false, ne_eq, true_or, or_true, not_false_eq_true, Nat.reduceEqDiff, Nat.reduceLT, Nat.reduceLeDiff, Nat.reduceAdd, b2i_t c1, e10, if_false]
    obtain ⟨a1, a2, a3, a4⟩ := hs p
    exact m_isPL hJ hs (by omega) (by omega) X hpn hkp (m := 120) (by have := a4 c1; omega) c1 P (hs p) hQ
  · rw [show (fun p => lpR sub T n 4 120 (sub p)) p = sub p from lpR_f c1] at hQ
    have := hQ h1 P
    rw [b2i_f c1] at this
    simp only [k171_1, k171_4, k171_7, k171_8, k171_10, k171_13, k171_15, k171_18, k171_20, k171_23, k171_24, k171_27, k171_29, k171_32, k171_34, k171_37, k171_38, k171_41, k171_43, k171_46, k171_48, k171_51, k171_52, k171_53, k171_54, k171_57, k171_58, k171_59, k171_60, k171_60i, k171_61, k171_64, k171_65, k171_66, k171_69, k171_70, k171_73, k171_76, k171_77, k171_78, k171_79, k171_80, k171_83, k171_83i, k171_84, mm_sI, mm_sJ, mm_sR, mm_cI, mm_cJ, mm_I, mm_J, mm_R, mm_K, mm_N, psh_s, psh_n, z_n, z_i, z_r, z_l, Nat.reduceAdd, Nat.reduceLeDiff, K113 hS, R113_2 hS, R113_3 hS, R113_5 hS, R113_8 hS, R113_9 hS, R113_10 hS, R113_11 hS, R113_16 hS, R113_17 hS, R113_18 hS, R113_19 hS, R113_20 hS, R113_21 hS, R113_22 hS, R113_26 hS, R113_27 hS, R113_30 hS, R113_32 hS, R113_34 hS, R113_35 hS, R113_36 hS, R113_37 hS, R113_40 hS, R113_41 hS, R113_42 hS, R113_43 hS, R113_44 hS, R113_45 hS, R113_47 hS, K114 hS, K115 hS, K116 hS, K117 hS, K118 hS, K119 hS, K120 hS, K121 hS, K122 hS, K123 hS, K124 hS, K125 hS, K126 hS, K127 hS, K128 hS, K129 hS, K130 hS, K131 hS, K132 hS, K133 hS, K134 hS, K135 hS, K136 hS, K137 hS, K138 hS, K139 hS, K140 hS, K141 hS, K142 hS, N114 hS, N115 hS, N116 hS, N117 hS, N118 hS, N119 hS, N120 hS, N121 hS, N122 hS, N123 hS, N124 hS, N125 hS, N126 hS, N127 hS, N128 hS, N129 hS, N130 hS, N131 hS, N132 hS, N133 hS, N134 hS, N135 hS, N136 hS, N137 hS, N138 hS, N139 hS, N140 hS, N141 hS, N142 hS, false_or, or_false, ne_eq, true_or, or_true, not_false_eq_true, Nat.reduceEqDiff, Nat.reduceLT, Nat.reduceLeDiff, Nat.reduceAdd, b2i_f c1, if_true]
    exact this
theorem m_isSL (hJ : MC D n T 171 [none] o sub) (hs : ∀ q, PrI n q (sub q)) (he : D ≤ e) (h1e : 1 ≤ e) (X : XM n T h r E) (hpn : p ≤ n) (hkp : k ≤ p) : ∀ {m : Nat} {s : PR} {h1 : Hp} {x1 : Option PV}, n - s.2.1 < m → s.1 = true → MP k o s h h1 → PrI n p s →
    (∀ h', MP k o (lpR sub T n 3 m s) h h' → Q (some (vi (b2i ((lpR sub T n 3 m s).1 = true)))) (mm h' j r E)) → WP (e + 1) 172 9 [some (vr 113), x1] [] (mm h1 j r E) Q := by
  intro m
  induction m with
  | zero => intro s h1 x1 hm; omega
  | succ m ih =>
    intro s h1 x1 hm hs1 P I hQ
    have hS := X.S
    have n1 := X.n1
    have X1 := X.fr P.1
    obtain ⟨a1, a2, a3, a4⟩ := I
    have I : PrI n p s := ⟨a1, a2, a3, a4⟩
    have a3 := a3 hpn
    rw [m_opS X1 P.2.1 a3]
    by_cases c : levF (sgF T n s.2.1) = 3
    case neg =>
      rw [lpR_no c] at hQ
      have := hQ h1 P
      rw [b2i_t hs1] at this
      rw [if_neg c]
      simp only [k172_1, k172_4, k172_7, k172_8, k172_10, k172_13, k172_15, k172_18, k172_20, k172_23, k172_24, k172_27, k172_29, k172_32, k172_34, k172_37, k172_38, k172_39, k172_40, k172_43, k172_44, k172_45, k172_46, k172_46i, k172_47, k172_50, k172_51, k172_52, k172_55, k172_56, k172_59, k172_62, k172_63, k172_64, k172_65, k172_66, k172_69, k172_69i, k172_70, mm_sI, mm_sJ, mm_sR, mm_cI, mm_cJ, mm_I, mm_J, mm_R, mm_K, mm_N, psh_s, psh_n, z_n, z_i, z_r, z_l, Nat.reduceAdd, Nat.reduceLeDiff, false_or, or_false, ne_eq, true_or, or_true, not_false_eq_true, Nat.reduceEqDiff, Nat.reduceLT, Nat.reduceLeDiff, Nat.reduceAdd, show ((-1 : Int32) < 0) = True from eq_true (by decide), if_true, show ((0 : Int32) ≤ -1) = False from eq_false (by decide), if_false]
      exact this
    obtain ⟨cp, go⟩ := lpR_go (sub := sub) (K := m) hs1 (by decide) c
    rw [go] at hQ
    rw [if_pos c]
    obtain ⟨cn, ce⟩ := codP (x := sgF T n s.2.1) (by omega)
    generalize sgF T n s.2.1 = sg at *
    have cn' : (0 ≤ codF sg) = True := eq_true (Int32.not_lt.1 (fun hh => by rw [cn] at hh; exact hh))
    simp only [k172_1, k172_4, k172_7, k172_8, k172_10, k172_13, k172_15, k172_18, k172_20, k172_23, k172_24, k172_27, k172_29, k172_32, k172_34, k172_37, k172_38, k172_39, k172_40, k172_43, k172_44, k172_45, k172_46, k172_46i, k172_47, k172_50, k172_51, k172_52, k172_55, k172_56, k172_59, k172_62, k172_63, k172_64, k172_65, k172_66, k172_69, k172_69i, k172_70, mm_sI, mm_sJ, mm_sR, mm_cI, mm_cJ, mm_I, mm_J, mm_R, mm_K, mm_N, psh_s, psh_n, z_n, z_i, z_r, z_l, Nat.reduceAdd, Nat.reduceLeDiff, K113 hS, R113_2 hS, R113_3 hS, R113_5 hS, R113_8 hS, R113_9 hS, R113_10 hS, R113_11 hS, R113_16 hS, R113_17 hS, R113_18 hS, R113_19 hS, R113_20 hS, R113_21 hS, R113_22 hS, R113_26 hS, R113_27 hS, R113_30 hS, R113_32 hS, R113_34 hS, R113_35 hS, R113_36 hS, R113_37 hS, R113_40 hS, R113_41 hS, R113_42 hS, R113_43 hS, R113_44 hS, R113_45 hS, R113_47 hS, K114 hS, K115 hS, K116 hS, K117 hS, K118 hS, K119 hS, K120 hS, K121 hS, K122 hS, K123 hS, K124 hS, K125 hS, K126 hS, K127 hS, K128 hS, K129 hS, K130 hS, K131 hS, K132 hS, K133 hS, K134 hS, K135 hS, K136 hS, K137 hS, K138 hS, K139 hS, K140 hS, K141 hS, K142 hS, N114 hS, N115 hS, N116 hS, N117 hS, N118 hS, N119 hS, N120 hS, N121 hS, N122 hS, N123 hS, N124 hS, N125 hS, N126 hS, N127 hS, N128 hS, N129 hS, N130 hS, N131 hS, N132 hS, N133 hS, N134 hS, N135 hS, N136 hS, N137 hS, N138 hS, N139 hS, N140 hS, N141 hS, N142 hS, false_or, or_false, ne_eq, true_or, or_true, not_false_eq_true, Nat.reduceEqDiff, Nat.reduceLT, Nat.reduceLeDiff, Nat.reduceAdd, cn, cn', if_true, if_false, P.2.1, nS1]
    obtain ⟨q1, q2, q3, q4⟩ := hs (s.2.1 + 1)
    have I2 : PrI n p (apdR s sg (sub (s.2.1 + 1))) := I.apd cp ⟨q1, q2, q3, q4⟩
    have Pq : MP k o (true, s.2.1 + 1, s.2.2) h (up2 h1 113 12 (nI (s.2.1 + 1))) := P.pl
    refine hJ e (s.2.1 + 1) (k + s.2.2.length) (up2 h1 113 12 (nI (s.2.1 + 1))) j r E _ he (X.fr Pq.1) Pq.2.1 Pq.2.2.1 Pq.2.2.2.1 cp (by omega) ?_
    intro h3 P3
    have q3 := q3 cp
    have Pc : MP k o (true, (sub (s.2.1 + 1)).2.1, s.2.2 ++ (sub (s.2.1 + 1)).2.2) h h3 := MP.cat (s := (true, s.2.1 + 1, s.2.2)) Pq P3
    by_cases hs2 : (sub (s.2.1 + 1)).1 = true
    · have ea : apdR s sg (sub (s.2.1 + 1)) = (true, (sub (s.2.1 + 1)).2.1, s.2.2 ++ (sub (s.2.1 + 1)).2.2 ++ [(sg, 0)]) := by unfold apdR; rw [if_pos hs2, hs2]
      have hk3 : h3 113 14 = nI (k + (s.2.2 ++ (sub (s.2.1 + 1)).2.2).length) := Pc.2.2.2.1
      have hl3 : k + (s.2.2 ++ (sub (s.2.1 + 1)).2.2).length < 200 := by rw [List.length_append]; omega
      have Pa : MP k o (apdR s sg (sub (s.2.1 + 1))) h (moH (k + (s.2.2 ++ (sub (s.2.1 + 1)).2.2).length) (codF sg) h3) := by rw [ea]; exact Pc.co ce
      simp only [k172_1, k172_4, k172_7, k172_8, k172_10, k172_13, k172_15, k172_18, k172_20, k172_23, k172_24, k172_27, k172_29, k172_32, k172_34, k172_37, k172_38, k172_39, k172_40, k172_43, k172_44, k172_45, k172_46, k172_46i, k172_47, k172_50, k172_51, k172_52, k172_55, k172_56, k172_59, k172_62, k172_63, k172_64, k172_65, k172_66, k172_69, k172_69i, k172_70, mm_sI, mm_sJ, mm_sR, mm_cI, mm_cJ, mm_I, mm_J, mm_R, mm_K, mm_N, psh_s, psh_n, z_n, z_i, z_r, z_l, Nat.reduceAdd, Nat.reduceLeDiff, K113 hS, R113_2 hS, R113_3 hS, R113_5 hS, R113_8 hS, R113_9 hS, R113_10 hS, R113_11 hS, R113_16 hS, R113_17 hS, R113_18 hS, R113_19 hS, R113_20 hS, R113_21 hS, R113_22 hS, R113_26 hS, R113_27 hS, R113_30 hS, R113_32 hS, R113_34 hS, R113_35 hS, R113_36 hS, R113_37 hS, R113_40 hS, R113_41 hS, R113_42 hS, R113_43 hS, R113_44 hS, R113_45 hS, R113_47 hS, K114 hS, K115 hS, K116 hS, K117 hS, K118 hS, K119 hS, K120 hS, K121 hS, K122 hS, K123 hS, K124 hS, K125 hS, K126 hS, K127 hS, K128 hS, K129 hS, K130 hS, K131 hS, K132 hS, K133 hS, K134 hS, K135 hS, K136 hS, K137 hS, K138 hS, K139 hS, K140 hS, K141 hS, K142 hS, N114 hS, N115 hS, N116 hS, N117 hS, N118 hS, N119 hS, N120 hS, N121 hS, N122 hS, N123 hS, N124 hS, N125 hS, N126 hS, N127 hS, N128 hS, N129 hS, N130 hS, N131 hS, N132 hS, N133 hS, N134 hS, N135 hS, N136 hS, N137 hS, N138 hS, N139 hS, N140 hS, N141 hS, N142 hS, false_or, or_false, ne_eq, true_or, or_true, not_false_eq_true, Nat.reduceEqDiff, Nat.reduceLT, Nat.reduceLeDiff, Nat.reduceAdd, b2i_t hs2, e10, if_false, m_codes hS hk3 hl3]
      exact ih (by rw [ea]; show n - (sub (s.2.1 + 1)).2.1 < m; omega) (by rw [ea]) Pa I2 hQ
    · have hf : (sub (s.2.1 + 1)).1 = false := by cases hh : (sub (s.2.1 + 1)).1; rfl; exact absurd hh hs2
      have ea : apdR s sg (sub (s.2.1 + 1)) = (false, (sub (s.2.1 + 1)).2.1, s.2.2 ++ (sub (s.2.1 + 1)).2.2) := by unfold apdR; rw [if_neg hs2, hf]
      rw [lpR_f (by rw [ea]; exact Bool.false_ne_true), ea] at hQ
      simp only [k172_1, k172_4, k172_7, k172_8, k172_10, k172_13, k172_15, k172_18, k172_20, k172_23, k172_24, k172_27, k172_29, k172_32, k172_34, k172_37, k172_38, k172_39, k172_40, k172_43, k172_44, k172_45, k172_46, k172_46i, k172_47, k172_50, k172_51, k172_52, k172_55, k172_56, k172_59, k172_62, k172_63, k172_64, k172_65, k172_66, k172_69, k172_69i, k172_70, mm_sI, mm_sJ, mm_sR, mm_cI, mm_cJ, mm_I, mm_J, mm_R, mm_K, mm_N, psh_s, psh_n, z_n, z_i, z_r, z_l, Nat.reduceAdd, Nat.reduceLeDiff, K113 hS, R113_2 hS, R113_3 hS, R113_5 hS, R113_8 hS, R113_9 hS, R113_10 hS, R113_11 hS, R113_16 hS, R113_17 hS, R113_18 hS, R113_19 hS, R113_20 hS, R113_21 hS, R113_22 hS, R113_26 hS, R113_27 hS, R113_30 hS, R113_32 hS, R113_34 hS, R113_35 hS, R113_36 hS, R113_37 hS, R113_40 hS, R113_41 hS, R113_42 hS, R113_43 hS, R113_44 hS, R113_45 hS, R113_47 hS, K114 hS, K115 hS, K116 hS, K117 hS, K118 hS, K119 hS, K120 hS, K121 hS, K122 hS, K123 hS, K124 hS, K125 hS, K126 hS, K127 hS, K128 hS, K129 hS, K130 hS, K131 hS, K132 hS, K133 hS, K134 hS, K135 hS, K136 hS, K137 hS, K138 hS, K139 hS, K140 hS, K141 hS, K142 hS, N114 hS, N115 hS, N116 hS, N117 hS, N118 hS, N119 hS, N120 hS, N121 hS, N122 hS, N123 hS, N124 hS, N125 hS, N126 hS, N127 hS, N128 hS, N129 hS, N130 hS, N131 hS, N132 hS, N133 hS, N134 hS, N135 hS, N136 hS, N137 hS, N138 hS, N139 hS, N140 hS, N141 hS, N142 hS, false_or, or_false, ne_eq, true_or, or_true, not_false_eq_true, Nat.reduceEqDiff, Nat.reduceLT, Nat.reduceLeDiff, Nat.reduceAdd, b2i_f hs2, if_true]
      exact hQ h3 Pc
theorem m_isS (hJ : MC D n T 171 [none] o sub) (hs : ∀ q, PrI n q (sub q)) (hD : 1 ≤ D) : MC (D + 1) n T 172 [none] o (fun p => lpR sub T n 3 120 (sub p)) := by
  intro e p k h j r E Q he X hp ho hk hpn hkp hQ
  obtain ⟨e', rfl⟩ : ∃ e', e = e' + 1 := ⟨e - 1, by omega⟩
  have hS := X.S
  have n1 := X.n1
  rw [k172_0]
  simp only [k172_1, k172_4, k172_7, k172_8, k172_10, k172_13, k172_15, k172_18, k172_20, k172_23, k172_24, k172_27, k172_29, k172_32, k172_34, k172_37, k172_38, k172_39, k172_40, k172_43, k172_44, k172_45, k172_46, k172_46i, k172_47, k172_50, k172_51, k172_52, k172_55, k172_56, k172_59, k172_62, k172_63, k172_64, k172_65, k172_66, k172_69, k172_69i, k172_70, mm_sI, mm_sJ, mm_sR, mm_cI, mm_cJ, mm_I, mm_J, mm_R, mm_K, mm_N, psh_s, psh_n, z_n, z_i, z_r, z_l, Nat.reduceAdd, Nat.reduceLeDiff, K113 hS, R113_2 hS, R113_3 hS, R113_5 hS, R113_8 hS, R113_9 hS, R113_10 hS, R113_11 hS, R113_16 hS, R113_17 hS, R113_18 hS, R113_19 hS, R113_20 hS, R113_21 hS, R113_22 hS, R113_26 hS, R113_27 hS, R113_30 hS, R113_32 hS, R113_34 hS, R113_35 hS, R113_36 hS, R113_37 hS, R113_40 hS, R113_41 hS, R113_42 hS, R113_43 hS, R113_44 hS, R113_45 hS, R113_47 hS, K114 hS, K115 hS, K116 hS, K117 hS, K118 hS, K119 hS, K120 hS, K121 hS, K122 hS, K123 hS, K124 hS, K125 hS, K126 hS, K127 hS, K128 hS, K129 hS, K130 hS, K131 hS, K132 hS, K133 hS, K134 hS, K135 hS, K136 hS, K137 hS, K138 hS, K139 hS, K140 hS, K141 hS, K142 hS, N114 hS, N115 hS, N116 hS, N117 hS, N118 hS, N119 hS, N120 hS, N121 hS, N122 hS, N123 hS, N124 hS, N125 hS, N126 hS, N127 hS, N128 hS, N129 hS, N130 hS, N131 hS, N132 hS, N133 hS, N134 hS, N135 hS, N136 hS, N137 hS, N138 hS, N139 hS, N140 hS, N141 hS, N142 hS, false_or, or_false, ne_eq, true_or, or_true, not_false_eq_true, Nat.reduceEqDiff, Nat.reduceLT, Nat.reduceLeDiff, Nat.reduceAdd]
  refine hJ e' p k h j r E _ (by omega) X hp ho hk hpn hkp ?_
  intro h1 P
  by_cases c1 : (sub p).1 = true
  · simp only [k172_1, k172_4, k172_7, k172_8, k172_10, k172_13, k172_15, k172_18, k172_20, k172_23, k172_24, k172_27, k172_29, k172_32, k172_34, k172_37, k172_38, k172_39, k172_40, k172_43, k172_44, k172_45, k172_46, k172_46i, k172_47, k172_50, k172_51, k172_52, k172_55, k172_56, k172_59, k172_62, k172_63, k172_64, k172_65, k172_66, k172_69, k172_69i, k172_70, mm_sI, mm_sJ, mm_sR, mm_cI, mm_cJ, mm_I, mm_J, mm_R, mm_K, mm_N, psh_s, psh_n, z_n, z_i, z_r, z_l, Nat.reduceAdd, Nat.reduceLeDiff, K113 hS, R113_2 hS, R113_3 hS, R113_5 hS, R113_8 hS, R113_9 hS, R113_10 hS, R113_11 hS, R113_16 hS, R113_17 hS, R113_18 hS, R113_19 hS, R113_20 hS, R113_21 hS, R113_22 hS, R113_26 hS, R113_27 hS, R113_30 hS, R113_32 hS, R113_34 hS, R113_35 hS, R113_36 hS, R113_37 hS, R113_40 hS, R113_41 hS, R113_42 hS, R113_43 hS, R113_44 hS, R113_45 hS, R113_47 hS, K114 hS, K115 hS, K116 hS, K117 hS, K118 hS, K119 hS, K120 hS, K121 hS, K122 hS, K123 hS, K124 hS, K125 hS, K126 hS, K127 hS, K128 hS, K129 hS, K130 hS, K131 hS, K132 hS, K133 hS, K134 hS, K135 hS, K136 hS, K137 hS, K138 hS, K139 hS, K140 hS, K141 hS, K142 hS, N114 hS, N115 hS, N116 hS, N117 hS, N118 hS, N119 hS, N120 hS, N121 hS, N122 hS, N123 hS, N124 hS, N125 hS, N126 hS, N127 hS, N128 hS, N129 hS, N130 hS, N131 hS, N132 hS, N133 hS, N134 hS, N135 hS, N136 hS, N137 hS, N138 hS, N139 hS, N140 hS, N141 hS, N142 hS, false_or, or_false, ne_eq, true_or, or_true, not_false_eq_true, Nat.reduceEqDiff, Nat.reduceLT, Nat.reduceLeDiff, Nat.reduceAdd, b2i_t c1, e10, if_false]
    obtain ⟨a1, a2, a3, a4⟩ := hs p
    exact m_isSL hJ hs (by omega) (by omega) X hpn hkp (m := 120) (by have := a4 c1; omega) c1 P (hs p) hQ
  · rw [show (fun p => lpR sub T n 3 120 (sub p)) p = sub p from lpR_f c1] at hQ
    have := hQ h1 P
    rw [b2i_f c1] at this
    simp only [k172_1, k172_4, k172_7, k172_8, k172_10, k172_13, k172_15, k172_18, k172_20, k172_23, k172_24, k172_27, k172_29, k172_32, k172_34, k172_37, k172_38, k172_39, k172_40, k172_43, k172_44, k172_45, k172_46, k172_46i, k172_47, k172_50, k172_51, k172_52, k172_55, k172_56, k172_59, k172_62, k172_63, k172_64, k172_65, k172_66, k172_69, k172_69i, k172_70, mm_sI, mm_sJ, mm_sR, mm_cI, mm_cJ, mm_I, mm_J, mm_R, mm_K, mm_N, psh_s, psh_n, z_n, z_i, z_r, z_l, Nat.reduceAdd, Nat.reduceLeDiff, K113 hS, R113_2 hS, R113_3 hS, R113_5 hS, R113_8 hS, R113_9 hS, R113_10 hS, R113_11 hS, R113_16 hS, R113_17 hS, R113_18 hS, R113_19 hS, R113_20 hS, R113_21 hS, R113_22 hS, R113_26 hS, R113_27 hS, R113_30 hS, R113_32 hS, R113_34 hS, R113_35 hS, R113_36 hS, R113_37 hS, R113_40 hS, R113_41 hS, R113_42 hS, R113_43 hS, R113_44 hS, R113_45 hS, R113_47 hS, K114 hS, K115 hS, K116 hS, K117 hS, K118 hS, K119 hS, K120 hS, K121 hS, K122 hS, K123 hS, K124 hS, K125 hS, K126 hS, K127 hS, K128 hS, K129 hS, K130 hS, K131 hS, K132 hS, K133 hS, K134 hS, K135 hS, K136 hS, K137 hS, K138 hS, K139 hS, K140 hS, K141 hS, K142 hS, N114 hS, N115 hS, N116 hS, N117 hS, N118 hS, N119 hS, N120 hS, N121 hS, N122 hS, N123 hS, N124 hS, N125 hS, N126 hS, N127 hS, N128 hS, N129 hS, N130 hS, N131 hS, N132 hS, N133 hS, N134 hS, N135 hS, N136 hS, N137 hS, N138 hS, N139 hS, N140 hS, N141 hS, N142 hS, false_or, or_false, ne_eq, true_or, or_true, not_false_eq_true, Nat.reduceEqDiff, Nat.reduceLT, Nat.reduceLeDiff, Nat.reduceAdd, b2i_f c1, if_true]
    exact this
theorem m_isB (hJ : MC D n T 172 [none] o sub) (hs : ∀ q, PrI n q (sub q)) (hD : 1 ≤ D) : MC (D + 1) n T 173 [none] o (fun p => lpR sub T n 2 1 (sub p)) := by
  intro e p k h j r E Q he X hp ho hk hpn hkp hQ
  obtain ⟨e', rfl⟩ : ∃ e', e = e' + 1 := ⟨e - 1, by omega⟩
  have hS := X.S
  have n1 := X.n1
  rw [k173_0]
  simp only [k173_1, k173_4, k173_7, k173_8, k173_10, k173_13, k173_15, k173_18, k173_20, k173_23, k173_24, k173_27, k173_29, k173_32, k173_34, k173_37, k173_38, k173_41, k173_43, k173_46, k173_48, k173_51, k173_52, k173_53, k173_54, k173_57, k173_58, k173_59, k173_60, k173_60i, k173_61, k173_64, k173_65, k173_66, k173_69, k173_70, k173_73, k173_76, k173_77, k173_78, k173_81, k173_84, k173_85, k173_88, k173_89, mm_sI, mm_sJ, mm_sR, mm_cI, mm_cJ, mm_I, mm_J, mm_R, mm_K, mm_N, psh_s, psh_n, z_n, z_i, z_r, z_l, Nat.reduceAdd, Nat.reduceLeDiff, K113 hS, R113_2 hS, R113_3 hS, R113_5 hS, R113_8 hS, R113_9 hS, R113_10 hS, R113_11 hS, R113_16 hS, R113_17 hS, R113_18 hS, R113_19 hS, R113_20 hS, R113_21 hS, R113_22 hS, R113_26 hS, R113_27 hS, R113_30 hS, R113_32 hS, R113_34 hS, R113_35 hS, R113_36 hS, R113_37 hS, R113_40 hS, R113_41 hS, R113_42 hS, R113_43 hS, R113_44 hS, R113_45 hS, R113_47 hS, K114 hS, K115 hS, K116 hS, K117 hS, K118 hS, K119 hS, K120 hS, K121 hS, K122 hS, K123 hS, K124 hS, K125 hS, K126 hS, K127 hS, K128 hS, K129 hS, K130 hS, K131 hS, K132 hS, K133 hS, K134 hS, K135 hS, K136 hS, K137 hS, K138 hS, K139 hS, K140 hS, K141 hS, K142 hS, N114 hS, N115 hS, N116 hS, N117 hS, N118 hS, N119 hS, N120 hS, N121 hS, N122 hS, N123 hS, N124 hS, N125 hS, N126 hS, N127 hS, N128 hS, N129 hS, N130 hS, N131 hS, N132 hS, N133 hS, N134 hS, N135 hS, N136 hS, N137 hS, N138 hS, N139 hS, N140 hS, N141 hS, N142 hS, false_or, or_false, ne_eq, true_or, or_true, not_false_eq_true, Nat.reduceEqDiff, Nat.reduceLT, Nat.reduceLeDiff, Nat.reduceAdd]
  refine hJ e' p k h j r E _ (by omega) X hp ho hk hpn hkp ?_
  intro h1 P
  by_cases c1 : (sub p).1 = true
  case neg =>
    rw [show (fun p => lpR sub T n 2 1 (sub p)) p = sub p from lpR_f c1] at hQ
    have := hQ h1 P
    rw [b2i_f c1] at this
    simp only [k173_1, k173_4, k173_7, k173_8, k173_10, k173_13, k173_15, k173_18, k173_20, k173_23, k173_24, k173_27, k173_29, k173_32, k173_34, k173_37, k173_38, k173_41, k173_43, k173_46, k173_48, k173_51, k173_52, k173_53, k173_54, k173_57, k173_58, k173_59, k173_60, k173_60i, k173_61, k173_64, k173_65, k173_66, k173_69, k173_70, k173_73, k173_76, k173_77, k173_78, k173_81, k173_84, k173_85, k173_88, k173_89, mm_sI, mm_sJ, mm_sR, mm_cI, mm_cJ, mm_I, mm_J, mm_R, mm_K, mm_N, psh_s, psh_n, z_n, z_i, z_r, z_l, Nat.reduceAdd, Nat.reduceLeDiff, K113 hS, R113_2 hS, R113_3 hS, R113_5 hS, R113_8 hS, R113_9 hS, R113_10 hS, R113_11 hS, R113_16 hS, R113_17 hS, R113_18 hS, R113_19 hS, R113_20 hS, R113_21 hS, R113_22 hS, R113_26 hS, R113_27 hS, R113_30 hS, R113_32 hS, R113_34 hS, R113_35 hS, R113_36 hS, R113_37 hS, R113_40 hS, R113_41 hS, R113_42 hS, R113_43 hS, R113_44 hS, R113_45 hS, R113_47 hS, K114 hS, K115 hS, K116 hS, K117 hS, K118 hS, K119 hS, K120 hS, K121 hS, K122 hS, K123 hS, K124 hS, K125 hS, K126 hS, K127 hS, K128 hS, K129 hS, K130 hS, K131 hS, K132 hS, K133 hS, K134 hS, K135 hS, K136 hS, K137 hS, K138 hS, K139 hS, K140 hS, K141 hS, K142 hS, N114 hS, N115 hS, N116 hS, N117 hS, N118 hS, N119 hS, N120 hS, N121 hS, N122 hS, N123 hS, N124 hS, N125 hS, N126 hS, N127 hS, N128 hS, N129 hS, N130 hS, N131 hS, N132 hS, N133 hS, N134 hS, N135 hS, N136 hS, N137 hS, N138 hS, N139 hS, N140 hS, N141 hS, N142 hS, false_or, or_false, ne_eq, true_or, or_true, not_false_eq_true, Nat.reduceEqDiff, Nat.reduceLT, Nat.reduceLeDiff, Nat.reduceAdd, b2i_f c1, if_true]
    exact this
  obtain ⟨a1, a2, a3, a4⟩ := hs p
  have a3 := a3 hpn
  have X1 := X.fr P.1
  have hQ : ∀ h', MP k o (lpR sub T n 2 1 (sub p)) h h' → Q (some (vi (b2i ((lpR sub T n 2 1 (sub p)).1 = true)))) (mm h' j r E) := hQ
  generalize sub p = s at *
  simp only [k173_1, k173_4, k173_7, k173_8, k173_10, k173_13, k173_15, k173_18, k173_20, k173_23, k173_24, k173_27, k173_29, k173_32, k173_34, k173_37, k173_38, k173_41, k173_43, k173_46, k173_48, k173_51, k173_52, k173_53, k173_54, k173_57, k173_58, k173_59, k173_60, k173_60i, k173_61, k173_64, k173_65, k173_66, k173_69, k173_70, k173_73, k173_76, k173_77, k173_78, k173_81, k173_84, k173_85, k173_88, k173_89, mm_sI, mm_sJ, mm_sR, mm_cI, mm_cJ, mm_I, mm_J, mm_R, mm_K, mm_N, psh_s, psh_n, z_n, z_i, z_r, z_l, Nat.reduceAdd, Nat.reduceLeDiff, K113 hS, R113_2 hS, R113_3 hS, R113_5 hS, R113_8 hS, R113_9 hS, R113_10 hS, R113_11 hS, R113_16 hS, R113_17 hS, R113_18 hS, R113_19 hS, R113_20 hS, R113_21 hS, R113_22 hS, R113_26 hS, R113_27 hS, R113_30 hS, R113_32 hS, R113_34 hS, R113_35 hS, R113_36 hS, R113_37 hS, R113_40 hS, R113_41 hS, R113_42 hS, R113_43 hS, R113_44 hS, R113_45 hS, R113_47 hS, K114 hS, K115 hS, K116 hS, K117 hS, K118 hS, K119 hS, K120 hS, K121 hS, K122 hS, K123 hS, K124 hS, K125 hS, K126 hS, K127 hS, K128 hS, K129 hS, K130 hS, K131 hS, K132 hS, K133 hS, K134 hS, K135 hS, K136 hS, K137 hS, K138 hS, K139 hS, K140 hS, K141 hS, K142 hS, N114 hS, N115 hS, N116 hS, N117 hS, N118 hS, N119 hS, N120 hS, N121 hS, N122 hS, N123 hS, N124 hS, N125 hS, N126 hS, N127 hS, N128 hS, N129 hS, N130 hS, N131 hS, N132 hS, N133 hS, N134 hS, N135 hS, N136 hS, N137 hS, N138 hS, N139 hS, N140 hS, N141 hS, N142 hS, false_or, or_false, ne_eq, true_or, or_true, not_false_eq_true, Nat.reduceEqDiff, Nat.reduceLT, Nat.reduceLeDiff, Nat.reduceAdd, b2i_t c1, e10, if_false, m_opB X1 P.2.1 a3]
  by_cases c : levF (sgF T n s.2.1) = 2
  case neg =>
    rw [lpR_no c] at hQ
    have := hQ h1 P
    rw [b2i_t c1] at this
    rw [if_neg c]
    simp only [k173_1, k173_4, k173_7, k173_8, k173_10, k173_13, k173_15, k173_18, k173_20, k173_23, k173_24, k173_27, k173_29, k173_32, k173_34, k173_37, k173_38, k173_41, k173_43, k173_46, k173_48, k173_51, k173_52, k173_53, k173_54, k173_57, k173_58, k173_59, k173_60, k173_60i, k173_61, k173_64, k173_65, k173_66, k173_69, k173_70, k173_73, k173_76, k173_77, k173_78, k173_81, k173_84, k173_85, k173_88, k173_89, mm_sI, mm_sJ, mm_sR, mm_cI, mm_cJ, mm_I, mm_J, mm_R, mm_K, mm_N, psh_s, psh_n, z_n, z_i, z_r, z_l, Nat.reduceAdd, Nat.reduceLeDiff, false_or, or_false, ne_eq, true_or, or_true, not_false_eq_true, Nat.reduceEqDiff, Nat.reduceLT, Nat.reduceLeDiff, Nat.reduceAdd, show ((-1 : Int32) < 0) = True from eq_true (by decide), if_true, show ((0 : Int32) ≤ -1) = False from eq_false (by decide), if_false]
    exact this
  obtain ⟨cp, go⟩ := lpR_go (sub := sub) (K := 0) c1 (by decide) c
  have go : lpR sub T n 2 1 s = apdR s (sgF T n s.2.1) (sub (s.2.1 + 1)) := go
  rw [go] at hQ
  rw [if_pos c]
  obtain ⟨cn, ce⟩ := codP (x := sgF T n s.2.1) (by omega)
  generalize sgF T n s.2.1 = sg at *
  have cn' : (0 ≤ codF sg) = True := eq_true (Int32.not_lt.1 (fun hh => by rw [cn] at hh; exact hh))
  have Pq : MP k o (true, s.2.1 + 1, s.2.2) h (up2 h1 113 12 (nI (s.2.1 + 1))) := P.pl
  simp only [k173_1, k173_4, k173_7, k173_8, k173_10, k173_13, k173_15, k173_18, k173_20, k173_23, k173_24, k173_27, k173_29, k173_32, k173_34, k173_37, k173_38, k173_41, k173_43, k173_46, k173_48, k173_51, k173_52, k173_53, k173_54, k173_57, k173_58, k173_59, k173_60, k173_60i, k173_61, k173_64, k173_65, k173_66, k173_69, k173_70, k173_73, k173_76, k173_77, k173_78, k173_81, k173_84, k173_85, k173_88, k173_89, mm_sI, mm_sJ, mm_sR, mm_cI, mm_cJ, mm_I, mm_J, mm_R, mm_K, mm_N, psh_s, psh_n, z_n, z_i, z_r, z_l, Nat.reduceAdd, Nat.reduceLeDiff, K113 hS, R113_2 hS, R113_3 hS, R113_5 hS, R113_8 hS, R113_9 hS, R113_10 hS, R113_11 hS, R113_16 hS, R113_17 hS, R113_18 hS, R113_19 hS, R113_20 hS, R113_21 hS, R113_22 hS, R113_26 hS, R113_27 hS, R113_30 hS, R113_32 hS, R113_34 hS, R113_35 hS, R113_36 hS, R113_37 hS, R113_40 hS, R113_41 hS, R113_42 hS, R113_43 hS, R113_44 hS, R113_45 hS, R113_47 hS, K114 hS, K115 hS, K116 hS, K117 hS, K118 hS, K119 hS, K120 hS, K121 hS, K122 hS, K123 hS, K124 hS, K125 hS, K126 hS, K127 hS, K128 hS, K129 hS, K130 hS, K131 hS, K132 hS, K133 hS, K134 hS, K135 hS, K136 hS, K137 hS, K138 hS, K139 hS, K140 hS, K141 hS, K142 hS, N114 hS, N115 hS, N116 hS, N117 hS, N118 hS, N119 hS, N120 hS, N121 hS, N122 hS, N123 hS, N124 hS, N125 hS, N126 hS, N127 hS, N128 hS, N129 hS, N130 hS, N131 hS, N132 hS, N133 hS, N134 hS, N135 hS, N136 hS, N137 hS, N138 hS, N139 hS, N140 hS, N141 hS, N142 hS, false_or, or_false, ne_eq, true_or, or_true, not_false_eq_true, Nat.reduceEqDiff, Nat.reduceLT, Nat.reduceLeDiff, Nat.reduceAdd, cn, cn', if_true, if_false, P.2.1, nS1]
  obtain ⟨q1, q2, q3, q4⟩ := hs (s.2.1 + 1)
  refine hJ e' (s.2.1 + 1) (k + s.2.2.length) (up2 h1 113 12 (nI (s.2.1 + 1))) j r E _ (by omega) (X.fr Pq.1) Pq.2.1 Pq.2.2.1 Pq.2.2.2.1 cp (by omega) ?_
  intro h3 P3
  have q3 := q3 cp
  have Pc : MP k o (true, (sub (s.2.1 + 1)).2.1, s.2.2 ++ (sub (s.2.1 + 1)).2.2) h h3 := MP.cat (s := (true, s.2.1 + 1, s.2.2)) Pq P3
  by_cases hs2 : (sub (s.2.1 + 1)).1 = true
  · have ea : apdR s sg (sub (s.2.1 + 1)) = (true, (sub (s.2.1 + 1)).2.1, s.2.2 ++ (sub (s.2.1 + 1)).2.2 ++ [(sg, 0)]) := by unfold apdR; rw [if_pos hs2, hs2]
    have hk3 : h3 113 14 = nI (k + (s.2.2 ++ (sub (s.2.1 + 1)).2.2).length) := Pc.2.2.2.1
    have hl3 : k + (s.2.2 ++ (sub (s.2.1 + 1)).2.2).length < 200 := by rw [List.length_append]; omega
    rw [ea] at hQ
    simp only [k173_1, k173_4, k173_7, k173_8, k173_10, k173_13, k173_15, k173_18, k173_20, k173_23, k173_24, k173_27, k173_29, k173_32, k173_34, k173_37, k173_38, k173_41, k173_43, k173_46, k173_48, k173_51, k173_52, k173_53, k173_54, k173_57, k173_58, k173_59, k173_60, k173_60i, k173_61, k173_64, k173_65, k173_66, k173_69, k173_70, k173_73, k173_76, k173_77, k173_78, k173_81, k173_84, k173_85, k173_88, k173_89, mm_sI, mm_sJ, mm_sR, mm_cI, mm_cJ, mm_I, mm_J, mm_R, mm_K, mm_N, psh_s, psh_n, z_n, z_i, z_r, z_l, Nat.reduceAdd, Nat.reduceLeDiff, K113 hS, R113_2 hS, R113_3 hS, R113_5 hS, R113_8 hS, R113_9 hS, R113_10 hS, R113_11 hS, R113_16 hS, R113_17 hS, R113_18 hS, R113_19 hS, R113_20 hS, R113_21 hS, R113_22 hS, R113_26 hS, R113_27 hS, R113_30 hS, R113_32 hS, R113_34 hS, R113_35 hS, R113_36 hS, R113_37 hS, R113_40 hS, R113_41 hS, R113_42 hS, R113_43 hS, R113_44 hS, R113_45 hS, R113_47 hS, K114 hS, K115 hS, K116 hS, K117 hS, K118 hS, K119 hS, K120 hS, K121 hS, K122 hS, K123 hS, K124 hS, K125 hS, K126 hS, K127 hS, K128 hS, K129 hS, K130 hS, K131 hS, K132 hS, K133 hS, K134 hS, K135 hS, K136 hS, K137 hS, K138 hS, K139 hS, K140 hS, K141 hS, K142 hS, N114 hS, N115 hS, N116 hS, N117 hS, N118 hS, N119 hS, N120 hS, N121 hS, N122 hS, N123 hS, N124 hS, N125 hS, N126 hS, N127 hS, N128 hS, N129 hS, N130 hS, N131 hS, N132 hS, N133 hS, N134 hS, N135 hS, N136 hS, N137 hS, N138 hS, N139 hS, N140 hS, N141 hS, N142 hS, false_or, or_false, ne_eq, true_or, or_true, not_false_eq_true, Nat.reduceEqDiff, Nat.reduceLT, Nat.reduceLeDiff, Nat.reduceAdd, b2i_t hs2, e10, if_false, m_codes hS hk3 hl3]
    exact hQ _ (Pc.co ce)
  · have hf : (sub (s.2.1 + 1)).1 = false := by cases hh : (sub (s.2.1 + 1)).1; rfl; exact absurd hh hs2
    have ea : apdR s sg (sub (s.2.1 + 1)) = (false, (sub (s.2.1 + 1)).2.1, s.2.2 ++ (sub (s.2.1 + 1)).2.2) := by unfold apdR; rw [if_neg hs2, hf]
    rw [ea] at hQ
    simp only [k173_1, k173_4, k173_7, k173_8, k173_10, k173_13, k173_15, k173_18, k173_20, k173_23, k173_24, k173_27, k173_29, k173_32, k173_34, k173_37, k173_38, k173_41, k173_43, k173_46, k173_48, k173_51, k173_52, k173_53, k173_54, k173_57, k173_58, k173_59, k173_60, k173_60i, k173_61, k173_64, k173_65, k173_66, k173_69, k173_70, k173_73, k173_76, k173_77, k173_78, k173_81, k173_84, k173_85, k173_88, k173_89, mm_sI, mm_sJ, mm_sR, mm_cI, mm_cJ, mm_I, mm_J, mm_R, mm_K, mm_N, psh_s, psh_n, z_n, z_i, z_r, z_l, Nat.reduceAdd, Nat.reduceLeDiff, K113 hS, R113_2 hS, R113_3 hS, R113_5 hS, R113_8 hS, R113_9 hS, R113_10 hS, R113_11 hS, R113_16 hS, R113_17 hS, R113_18 hS, R113_19 hS, R113_20 hS, R113_21 hS, R113_22 hS, R113_26 hS, R113_27 hS, R113_30 hS, R113_32 hS, R113_34 hS, R113_35 hS, R113_36 hS, R113_37 hS, R113_40 hS, R113_41 hS, R113_42 hS, R113_43 hS, R113_44 hS, R113_45 hS, R113_47 hS, K114 hS, K115 hS, K116 hS, K117 hS, K118 hS, K119 hS, K120 hS, K121 hS, K122 hS, K123 hS, K124 hS, K125 hS, K126 hS, K127 hS, K128 hS, K129 hS, K130 hS, K131 hS, K132 hS, K133 hS, K134 hS, K135 hS, K136 hS, K137 hS, K138 hS, K139 hS, K140 hS, K141 hS, K142 hS, N114 hS, N115 hS, N116 hS, N117 hS, N118 hS, N119 hS, N120 hS, N121 hS, N122 hS, N123 hS, N124 hS, N125 hS, N126 hS, N127 hS, N128 hS, N129 hS, N130 hS, N131 hS, N132 hS, N133 hS, N134 hS, N135 hS, N136 hS, N137 hS, N138 hS, N139 hS, N140 hS, N141 hS, N142 hS, false_or, or_false, ne_eq, true_or, or_true, not_false_eq_true, Nat.reduceEqDiff, Nat.reduceLT, Nat.reduceLeDiff, Nat.reduceAdd, b2i_f hs2, if_true]
    exact hQ h3 Pc
theorem m_isAL (hJ : MC D n T 173 [none] o sub) (hs : ∀ q, PrI n q (sub q)) (he : D ≤ e) (h1e : 1 ≤ e) (X : XM n T h r E) (hpn : p ≤ n) (hkp : k ≤ p) : ∀ {m : Nat} {s : PR} {h1 : Hp}, n - s.2.1 < m → s.1 = true → MP k o s h h1 → PrI n p s →
    (∀ h', MP k o (lpR sub T n 1 m s) h h' → Q (some (vi (b2i ((lpR sub T n 1 m s).1 = true)))) (mm h' j r E)) → WP (e + 1) 174 9 [some (vr 113)] [] (mm h1 j r E) Q := by
  obtain ⟨e', rfl⟩ : ∃ e', e = e' + 1 := ⟨e - 1, by omega⟩
  intro m
  induction m with
  | zero => intro s h1 hm; omega
  | succ m ih =>
    intro s h1 hm hs1 P I hQ
    have hS := X.S
    have n1 := X.n1
    have X1 := X.fr P.1
    obtain ⟨a1, a2, a3, a4⟩ := I
    have I : PrI n p s := ⟨a1, a2, a3, a4⟩
    have a3 := a3 hpn
    rw [k174_9]
    by_cases c : s.2.1 < n ∧ T s.2.1 = 38
    case neg =>
      have c' : ¬ levF (sgF T n s.2.1) = 1 := by
        intro hh
        have := lev1 hh
        rw [sgF_c (by decide)] at this; exact c this
      rw [lpR_no c'] at hQ
      have := hQ h1 P
      rw [b2i_t hs1] at this
      simp only [k174_1, k174_4, k174_7, k174_8, k174_10, k174_12, k174_15, k174_18, k174_19, k174_22, k174_25, k174_26, k174_27, k174_28, k174_30, k174_33, k174_33i, k174_34, k174_37, k174_38, mm_sI, mm_sJ, mm_sR, mm_cI, mm_cJ, mm_I, mm_J, mm_R, mm_K, mm_N, psh_s, psh_n, z_n, z_i, z_r, z_l, Nat.reduceAdd, Nat.reduceLeDiff, K113 hS, R113_2 hS, R113_3 hS, R113_5 hS, R113_8 hS, R113_9 hS, R113_10 hS, R113_11 hS, R113_16 hS, R113_17 hS, R113_18 hS, R113_19 hS, R113_20 hS, R113_21 hS, R113_22 hS, R113_26 hS, R113_27 hS, R113_30 hS, R113_32 hS, R113_34 hS, R113_35 hS, R113_36 hS, R113_37 hS, R113_40 hS, R113_41 hS, R113_42 hS, R113_43 hS, R113_44 hS, R113_45 hS, R113_47 hS, K114 hS, K115 hS, K116 hS, K117 hS, K118 hS, K119 hS, K120 hS, K121 hS, K122 hS, K123 hS, K124 hS, K125 hS, K126 hS, K127 hS, K128 hS, K129 hS, K130 hS, K131 hS, K132 hS, K133 hS, K134 hS, K135 hS, K136 hS, K137 hS, K138 hS, K139 hS, K140 hS, K141 hS, K142 hS, N114 hS, N115 hS, N116 hS, N117 hS, N118 hS, N119 hS, N120 hS, N121 hS, N122 hS, N123 hS, N124 hS, N125 hS, N126 hS, N127 hS, N128 hS, N129 hS, N130 hS, N131 hS, N132 hS, N133 hS, N134 hS, N135 hS, N136 hS, N137 hS, N138 hS, N139 hS, N140 hS, N141 hS, N142 hS, false_or, or_false, ne_eq, true_or, or_true, not_false_eq_true, Nat.reduceEqDiff, Nat.reduceLT, Nat.reduceLeDiff, Nat.reduceAdd, m_is X1 P.2.1 a3 (show (38 : Int32) ≠ -1 by decide), if_neg c, if_true]
      exact this
    have c' : levF (sgF T n s.2.1) = 1 := by rw [sgF_p c.1, c.2]; rfl
    obtain ⟨cp, go⟩ := lpR_go (sub := sub) (K := m) hs1 (by decide) c'
    rw [sgF_p cp, c.2] at go
    rw [go] at hQ
    have Pq : MP k o (true, s.2.1 + 1, s.2.2) h (up2 h1 113 12 (nI (s.2.1 + 1))) := P.pl
    simp only [k174_1, k174_4, k174_7, k174_8, k174_10, k174_12, k174_15, k174_18, k174_19, k174_22, k174_25, k174_26, k174_27, k174_28, k174_30, k174_33, k174_33i, k174_34, k174_37, k174_38, mm_sI, mm_sJ, mm_sR, mm_cI, mm_cJ, mm_I, mm_J, mm_R, mm_K, mm_N, psh_s, psh_n, z_n, z_i, z_r, z_l, Nat.reduceAdd, Nat.reduceLeDiff, K113 hS, R113_2 hS, R113_3 hS, R113_5 hS, R113_8 hS, R113_9 hS, R113_10 hS, R113_11 hS, R113_16 hS, R113_17 hS, R113_18 hS, R113_19 hS, R113_20 hS, R113_21 hS, R113_22 hS, R113_26 hS, R113_27 hS, R113_30 hS, R113_32 hS, R113_34 hS, R113_35 hS, R113_36 hS, R113_37 hS, R113_40 hS, R113_41 hS, R113_42 hS, R113_43 hS, R113_44 hS, R113_45 hS, R113_47 hS, K114 hS, K115 hS, K116 hS, K117 hS, K118 hS, K119 hS, K120 hS, K121 hS, K122 hS, K123 hS, K124 hS, K125 hS, K126 hS, K127 hS, K128 hS, K129 hS, K130 hS, K131 hS, K132 hS, K133 hS, K134 hS, K135 hS, K136 hS, K137 hS, K138 hS, K139 hS, K140 hS, K141 hS, K142 hS, N114 hS, N115 hS, N116 hS, N117 hS, N118 hS, N119 hS, N120 hS, N121 hS, N122 hS, N123 hS, N124 hS, N125 hS, N126 hS, N127 hS, N128 hS, N129 hS, N130 hS, N131 hS, N132 hS, N133 hS, N134 hS, N135 hS, N136 hS, N137 hS, N138 hS, N139 hS, N140 hS, N141 hS, N142 hS, false_or, or_false, ne_eq, true_or, or_true, not_false_eq_true, Nat.reduceEqDiff, Nat.reduceLT, Nat.reduceLeDiff, Nat.reduceAdd, m_is X1 P.2.1 a3 (show (38 : Int32) ≠ -1 by decide), if_pos c, e10, if_false]
    obtain ⟨q1, q2, q3, q4⟩ := hs (s.2.1 + 1)
    have I2 : PrI n p (apdR s 38 (sub (s.2.1 + 1))) := I.apd cp ⟨q1, q2, q3, q4⟩
    refine hJ (e' + 1) (s.2.1 + 1) (k + s.2.2.length) (up2 h1 113 12 (nI (s.2.1 + 1))) j r E _ he (X.fr Pq.1) Pq.2.1 Pq.2.2.1 Pq.2.2.2.1 cp (by omega) ?_
    intro h3 P3
    have q3 := q3 cp
    have Pc : MP k o (true, (sub (s.2.1 + 1)).2.1, s.2.2 ++ (sub (s.2.1 + 1)).2.2) h h3 := MP.cat (s := (true, s.2.1 + 1, s.2.2)) Pq P3
    by_cases hs2 : (sub (s.2.1 + 1)).1 = true
    · have ea : apdR s 38 (sub (s.2.1 + 1)) = (true, (sub (s.2.1 + 1)).2.1, s.2.2 ++ (sub (s.2.1 + 1)).2.2 ++ [(38, 0)]) := by unfold apdR; rw [if_pos hs2, hs2]
      have hk3 : h3 113 14 = nI (k + (s.2.2 ++ (sub (s.2.1 + 1)).2.2).length) := Pc.2.2.2.1
      have hl3 : k + (s.2.2 ++ (sub (s.2.1 + 1)).2.2).length < 200 := by rw [List.length_append]; omega
      have Pa : MP k o (apdR s 38 (sub (s.2.1 + 1))) h (moH (k + (s.2.2 ++ (sub (s.2.1 + 1)).2.2).length) 7 h3) := by rw [ea]; exact Pc.co rfl
      simp only [k174_1, k174_4, k174_7, k174_8, k174_10, k174_12, k174_15, k174_18, k174_19, k174_22, k174_25, k174_26, k174_27, k174_28, k174_30, k174_33, k174_33i, k174_34, k174_37, k174_38, mm_sI, mm_sJ, mm_sR, mm_cI, mm_cJ, mm_I, mm_J, mm_R, mm_K, mm_N, psh_s, psh_n, z_n, z_i, z_r, z_l, Nat.reduceAdd, Nat.reduceLeDiff, K113 hS, R113_2 hS, R113_3 hS, R113_5 hS, R113_8 hS, R113_9 hS, R113_10 hS, R113_11 hS, R113_16 hS, R113_17 hS, R113_18 hS, R113_19 hS, R113_20 hS, R113_21 hS, R113_22 hS, R113_26 hS, R113_27 hS, R113_30 hS, R113_32 hS, R113_34 hS, R113_35 hS, R113_36 hS, R113_37 hS, R113_40 hS, R113_41 hS, R113_42 hS, R113_43 hS, R113_44 hS, R113_45 hS, R113_47 hS, K114 hS, K115 hS, K116 hS, K117 hS, K118 hS, K119 hS, K120 hS, K121 hS, K122 hS, K123 hS, K124 hS, K125 hS, K126 hS, K127 hS, K128 hS, K129 hS, K130 hS, K131 hS, K132 hS, K133 hS, K134 hS, K135 hS, K136 hS, K137 hS, K138 hS, K139 hS, K140 hS, K141 hS, K142 hS, N114 hS, N115 hS, N116 hS, N117 hS, N118 hS, N119 hS, N120 hS, N121 hS, N122 hS, N123 hS, N124 hS, N125 hS, N126 hS, N127 hS, N128 hS, N129 hS, N130 hS, N131 hS, N132 hS, N133 hS, N134 hS, N135 hS, N136 hS, N137 hS, N138 hS, N139 hS, N140 hS, N141 hS, N142 hS, false_or, or_false, ne_eq, true_or, or_true, not_false_eq_true, Nat.reduceEqDiff, Nat.reduceLT, Nat.reduceLeDiff, Nat.reduceAdd, b2i_t hs2, e10, if_false, m_codes hS hk3 hl3]
      exact ih (by rw [ea]; show n - (sub (s.2.1 + 1)).2.1 < m; omega) (by rw [ea]) Pa I2 hQ
    · have hf : (sub (s.2.1 + 1)).1 = false := by cases hh : (sub (s.2.1 + 1)).1; rfl; exact absurd hh hs2
      have ea : apdR s 38 (sub (s.2.1 + 1)) = (false, (sub (s.2.1 + 1)).2.1, s.2.2 ++ (sub (s.2.1 + 1)).2.2) := by unfold apdR; rw [if_neg hs2, hf]
      rw [lpR_f (by rw [ea]; exact Bool.false_ne_true), ea] at hQ
      simp only [k174_1, k174_4, k174_7, k174_8, k174_10, k174_12, k174_15, k174_18, k174_19, k174_22, k174_25, k174_26, k174_27, k174_28, k174_30, k174_33, k174_33i, k174_34, k174_37, k174_38, mm_sI, mm_sJ, mm_sR, mm_cI, mm_cJ, mm_I, mm_J, mm_R, mm_K, mm_N, psh_s, psh_n, z_n, z_i, z_r, z_l, Nat.reduceAdd, Nat.reduceLeDiff, K113 hS, R113_2 hS, R113_3 hS, R113_5 hS, R113_8 hS, R113_9 hS, R113_10 hS, R113_11 hS, R113_16 hS, R113_17 hS, R113_18 hS, R113_19 hS, R113_20 hS, R113_21 hS, R113_22 hS, R113_26 hS, R113_27 hS, R113_30 hS, R113_32 hS, R113_34 hS, R113_35 hS, R113_36 hS, R113_37 hS, R113_40 hS, R113_41 hS, R113_42 hS, R113_43 hS, R113_44 hS, R113_45 hS, R113_47 hS, K114 hS, K115 hS, K116 hS, K117 hS, K118 hS, K119 hS, K120 hS, K121 hS, K122 hS, K123 hS, K124 hS, K125 hS, K126 hS, K127 hS, K128 hS, K129 hS, K130 hS, K131 hS, K132 hS, K133 hS, K134 hS, K135 hS, K136 hS, K137 hS, K138 hS, K139 hS, K140 hS, K141 hS, K142 hS, N114 hS, N115 hS, N116 hS, N117 hS, N118 hS, N119 hS, N120 hS, N121 hS, N122 hS, N123 hS, N124 hS, N125 hS, N126 hS, N127 hS, N128 hS, N129 hS, N130 hS, N131 hS, N132 hS, N133 hS, N134 hS, N135 hS, N136 hS, N137 hS, N138 hS, N139 hS, N140 hS, N141 hS, N142 hS, false_or, or_false, ne_eq, true_or, or_true, not_false_eq_true, Nat.reduceEqDiff, Nat.reduceLT, Nat.reduceLeDiff, Nat.reduceAdd, b2i_f hs2, if_true]
      exact hQ h3 Pc
theorem m_isA (hJ : MC D n T 173 [none] o sub) (hs : ∀ q, PrI n q (sub q)) (hD : 1 ≤ D) : MC (D + 1) n T 174 [] o (fun p => lpR sub T n 1 120 (sub p)) := by
  intro e p k h j r E Q he X hp ho hk hpn hkp hQ
  obtain ⟨e', rfl⟩ : ∃ e', e = e' + 1 := ⟨e - 1, by omega⟩
  have hS := X.S
  have n1 := X.n1
  rw [k174_0]
  simp only [k174_1, k174_4, k174_7, k174_8, k174_10, k174_12, k174_15, k174_18, k174_19, k174_22, k174_25, k174_26, k174_27, k174_28, k174_30, k174_33, k174_33i, k174_34, k174_37, k174_38, mm_sI, mm_sJ, mm_sR, mm_cI, mm_cJ, mm_I, mm_J, mm_R, mm_K, mm_N, psh_s, psh_n, z_n, z_i, z_r, z_l, Nat.reduceAdd, Nat.reduceLeDiff, K113 hS, R113_2 hS, R113_3 hS, R113_5 hS, R113_8 hS, R113_9 hS, R113_10 hS, R113_11 hS, R113_16 hS, R113_17 hS, R113_18 hS, R113_19 hS, R113_20 hS, R113_21 hS, R113_22 hS, R113_26 hS, R113_27 hS, R113_30 hS, R113_32 hS, R113_34 hS, R113_35 hS, R113_36 hS, R113_37 hS, R113_40 hS, R113_41 hS, R113_42 hS, R113_43 hS, R113_44 hS, R113_45 hS, R113_47 hS, K114 hS, K115 hS, K116 hS, K117 hS, K118 hS, K119 hS, K120 hS, K121 hS, K122 hS, K123 hS, K124 hS, K125 hS, K126 hS, K127 hS, K128 hS, K129 hS, K130 hS, K131 hS, K132 hS, K133 hS, K134 hS, K135 hS, K136 hS, K137 hS, K138 hS, K139 hS, K140 hS, K141 hS, K142 hS, N114 hS, N115 hS, N116 hS, N117 hS, N118 hS, N119 hS, N120 hS, N121 hS, N122 hS, N123 hS, N124 hS, N125 hS, N126 hS, N127 hS, N128 hS, N129 hS, N130 hS, N131 hS, N132 hS, N133 hS, N134 hS, N135 hS, N136 hS, N137 hS, N138 hS, N139 hS, N140 hS, N141 hS, N142 hS, false_or, or_false, ne_eq, true_or, or_true, not_false_eq_true, Nat.reduceEqDiff, Nat.reduceLT, Nat.reduceLeDiff, Nat.reduceAdd]
  refine hJ e' p k h j r E _ (by omega) X hp ho hk hpn hkp ?_
  intro h1 P
  by_cases c1 : (sub p).1 = true
  · simp only [k174_1, k174_4, k174_7, k174_8, k174_10, k174_12, k174_15, k174_18, k174_19, k174_22, k174_25, k174_26, k174_27, k174_28, k174_30, k174_33, k174_33i, k174_34, k174_37, k174_38, mm_sI, mm_sJ, mm_sR, mm_cI, mm_cJ, mm_I, mm_J, mm_R, mm_K, mm_N, psh_s, psh_n, z_n, z_i, z_r, z_l, Nat.reduceAdd, Nat.reduceLeDiff, K113 hS, R113_2 hS, R113_3 hS, R113_5 hS, R113_8 hS, R113_9 hS, R113_10 hS, R113_11 hS, R113_16 hS, R113_17 hS, R113_18 hS, R113_19 hS, R113_20 hS, R113_21 hS, R113_22 hS, R113_26 hS, R113_27 hS, R113_30 hS, R113_32 hS, R113_34 hS, R113_35 hS, R113_36 hS, R113_37 hS, R113_40 hS, R113_41 hS, R113_42 hS, R113_43 hS, R113_44 hS, R113_45 hS, R113_47 hS, K114 hS, K115 hS, K116 hS, K117 hS, K118 hS, K119 hS, K120 hS, K121 hS, K122 hS, K123 hS, K124 hS, K125 hS, K126 hS, K127 hS, K128 hS, K129 hS, K130 hS, K131 hS, K132 hS, K133 hS, K134 hS, K135 hS, K136 hS, K137 hS, K138 hS, K139 hS, K140 hS, K141 hS, K142 hS, N114 hS, N115 hS, N116 hS, N117 hS, N118 hS, N119 hS, N120 hS, N121 hS, N122 hS, N123 hS, N124 hS, N125 hS, N126 hS, N127 hS, N128 hS, N129 hS, N130 hS, N131 hS, N132 hS, N133 hS, N134 hS, N135 hS, N136 hS, N137 hS, N138 hS, N139 hS, N140 hS, N141 hS, N142 hS, false_or, or_false, ne_eq, true_or, or_true, not_false_eq_true, Nat.reduceEqDiff, Nat.reduceLT, Nat.reduceLeDiff, Nat.reduceAdd, b2i_t c1, e10, if_false]
    obtain ⟨a1, a2, a3, a4⟩ := hs p
    exact m_isAL hJ hs (by omega) (by omega) X hpn hkp (m := 120) (by have := a4 c1; omega) c1 P (hs p) hQ
  · rw [show (fun p => lpR sub T n 1 120 (sub p)) p = sub p from lpR_f c1] at hQ
    have := hQ h1 P
    rw [b2i_f c1] at this
    simp only [k174_1, k174_4, k174_7, k174_8, k174_10, k174_12, k174_15, k174_18, k174_19, k174_22, k174_25, k174_26, k174_27, k174_28, k174_30, k174_33, k174_33i, k174_34, k174_37, k174_38, mm_sI, mm_sJ, mm_sR, mm_cI, mm_cJ, mm_I, mm_J, mm_R, mm_K, mm_N, psh_s, psh_n, z_n, z_i, z_r, z_l, Nat.reduceAdd, Nat.reduceLeDiff, K113 hS, R113_2 hS, R113_3 hS, R113_5 hS, R113_8 hS, R113_9 hS, R113_10 hS, R113_11 hS, R113_16 hS, R113_17 hS, R113_18 hS, R113_19 hS, R113_20 hS, R113_21 hS, R113_22 hS, R113_26 hS, R113_27 hS, R113_30 hS, R113_32 hS, R113_34 hS, R113_35 hS, R113_36 hS, R113_37 hS, R113_40 hS, R113_41 hS, R113_42 hS, R113_43 hS, R113_44 hS, R113_45 hS, R113_47 hS, K114 hS, K115 hS, K116 hS, K117 hS, K118 hS, K119 hS, K120 hS, K121 hS, K122 hS, K123 hS, K124 hS, K125 hS, K126 hS, K127 hS, K128 hS, K129 hS, K130 hS, K131 hS, K132 hS, K133 hS, K134 hS, K135 hS, K136 hS, K137 hS, K138 hS, K139 hS, K140 hS, K141 hS, K142 hS, N114 hS, N115 hS, N116 hS, N117 hS, N118 hS, N119 hS, N120 hS, N121 hS, N122 hS, N123 hS, N124 hS, N125 hS, N126 hS, N127 hS, N128 hS, N129 hS, N130 hS, N131 hS, N132 hS, N133 hS, N134 hS, N135 hS, N136 hS, N137 hS, N138 hS, N139 hS, N140 hS, N141 hS, N142 hS, false_or, or_false, ne_eq, true_or, or_true, not_false_eq_true, Nat.reduceEqDiff, Nat.reduceLT, Nat.reduceLeDiff, Nat.reduceAdd, b2i_f c1, if_true]
    exact this
theorem m_isEL (hJ : MC D n T 174 [] o sub) (hs : ∀ q, PrI n q (sub q)) (he : D ≤ e) (h1e : 1 ≤ e) (X : XM n T h r E) (hpn : p ≤ n) (hkp : k ≤ p) : ∀ {m : Nat} {s : PR} {h1 : Hp}, n - s.2.1 < m → s.1 = true → MP k o s h h1 → PrI n p s →
    (∀ h', MP k o (lpR sub T n 0 m s) h h' → Q (some (vi (b2i ((lpR sub T n 0 m s).1 = true)))) (mm h' j r E)) → WP (e + 1) 175 9 [some (vr 113)] [] (mm h1 j r E) Q := by
  obtain ⟨e', rfl⟩ : ∃ e', e = e' + 1 := ⟨e - 1, by omega⟩
  intro m
  induction m with
  | zero => intro s h1 hm; omega
  | succ m ih =>
    intro s h1 hm hs1 P I hQ
    have hS := X.S
    have n1 := X.n1
    have X1 := X.fr P.1
    obtain ⟨a1, a2, a3, a4⟩ := I
    have I : PrI n p s := ⟨a1, a2, a3, a4⟩
    have a3 := a3 hpn
    rw [k175_9]
    by_cases c : s.2.1 < n ∧ T s.2.1 = 124
    case neg =>
      have c' : ¬ levF (sgF T n s.2.1) = 0 := by
        intro hh
        have := lev0 hh
        rw [sgF_c (by decide)] at this; exact c this
      rw [lpR_no c'] at hQ
      have := hQ h1 P
      rw [b2i_t hs1] at this
      simp only [k175_1, k175_4, k175_7, k175_8, k175_10, k175_12, k175_15, k175_18, k175_19, k175_22, k175_25, k175_26, k175_27, k175_28, k175_30, k175_33, k175_33i, k175_34, k175_37, k175_38, mm_sI, mm_sJ, mm_sR, mm_cI, mm_cJ, mm_I, mm_J, mm_R, mm_K, mm_N, psh_s, psh_n, z_n, z_i, z_r, z_l, Nat.reduceAdd, Nat.reduceLeDiff, K113 hS, R113_2 hS, R113_3 hS, R113_5 hS, R113_8 hS, R113_9 hS, R113_10 hS, R113_11 hS, R113_16 hS, R113_17 hS, R113_18 hS, R113_19 hS, R113_20 hS, R113_21 hS, R113_22 hS, R113_26 hS, R113_27 hS, R113_30 hS, R113_32 hS, R113_34 hS, R113_35 hS, R113_36 hS, R113_37 hS, R113_40 hS, R113_41 hS, R113_42 hS, R113_43 hS, R113_44 hS, R113_45 hS, R113_47 hS, K114 hS, K115 hS, K116 hS, K117 hS, K118 hS, K119 hS, K120 hS, K121 hS, K122 hS, K123 hS, K124 hS, K125 hS, K126 hS, K127 hS, K128 hS, K129 hS, K130 hS, K131 hS, K132 hS, K133 hS, K134 hS, K135 hS, K136 hS, K137 hS, K138 hS, K139 hS, K140 hS, K141 hS, K142 hS, N114 hS, N115 hS, N116 hS, N117 hS, N118 hS, N119 hS, N120 hS, N121 hS, N122 hS, N123 hS, N124 hS, N125 hS, N126 hS, N127 hS, N128 hS, N129 hS, N130 hS, N131 hS, N132 hS, N133 hS, N134 hS, N135 hS, N136 hS, N137 hS, N138 hS, N139 hS, N140 hS, N141 hS, N142 hS, false_or, or_false, ne_eq, true_or, or_true, not_false_eq_true, Nat.reduceEqDiff, Nat.reduceLT, Nat.reduceLeDiff, Nat.reduceAdd, m_is X1 P.2.1 a3 (show (124 : Int32) ≠ -1 by decide), if_neg c, if_true]
      exact this
    have c' : levF (sgF T n s.2.1) = 0 := by rw [sgF_p c.1, c.2]; rfl
    obtain ⟨cp, go⟩ := lpR_go (sub := sub) (K := m) hs1 (by decide) c'
    rw [sgF_p cp, c.2] at go
    rw [go] at hQ
    have Pq : MP k o (true, s.2.1 + 1, s.2.2) h (up2 h1 113 12 (nI (s.2.1 + 1))) := P.pl
    simp only [k175_1, k175_4, k175_7, k175_8, k175_10, k175_12, k175_15, k175_18, k175_19, k175_22, k175_25, k175_26, k175_27, k175_28, k175_30, k175_33, k175_33i, k175_34, k175_37, k175_38, mm_sI, mm_sJ, mm_sR, mm_cI, mm_cJ, mm_I, mm_J, mm_R, mm_K, mm_N, psh_s, psh_n, z_n, z_i, z_r, z_l, Nat.reduceAdd, Nat.reduceLeDiff, K113 hS, R113_2 hS, R113_3 hS, R113_5 hS, R113_8 hS, R113_9 hS, R113_10 hS, R113_11 hS, R113_16 hS, R113_17 hS, R113_18 hS, R113_19 hS, R113_20 hS, R113_21 hS, R113_22 hS, R113_26 hS, R113_27 hS, R113_30 hS, R113_32 hS, R113_34 hS, R113_35 hS, R113_36 hS, R113_37 hS, R113_40 hS, R113_41 hS, R113_42 hS, R113_43 hS, R113_44 hS, R113_45 hS, R113_47 hS, K114 hS, K115 hS, K116 hS, K117 hS, K118 hS, K119 hS, K120 hS, K121 hS, K122 hS, K123 hS, K124 hS, K125 hS, K126 hS, K127 hS, K128 hS, K129 hS, K130 hS, K131 hS, K132 hS, K133 hS, K134 hS, K135 hS, K136 hS, K137 hS, K138 hS, K139 hS, K140 hS, K141 hS, K142 hS, N114 hS, N115 hS, N116 hS, N117 hS, N118 hS, N119 hS, N120 hS, N121 hS, N122 hS, N123 hS, N124 hS, N125 hS, N126 hS, N127 hS, N128 hS, N129 hS, N130 hS, N131 hS, N132 hS, N133 hS, N134 hS, N135 hS, N136 hS, N137 hS, N138 hS, N139 hS, N140 hS, N141 hS, N142 hS, false_or, or_false, ne_eq, true_or, or_true, not_false_eq_true, Nat.reduceEqDiff, Nat.reduceLT, Nat.reduceLeDiff, Nat.reduceAdd, m_is X1 P.2.1 a3 (show (124 : Int32) ≠ -1 by decide), if_pos c, e10, if_false]
    obtain ⟨q1, q2, q3, q4⟩ := hs (s.2.1 + 1)
    have I2 : PrI n p (apdR s 124 (sub (s.2.1 + 1))) := I.apd cp ⟨q1, q2, q3, q4⟩
    refine hJ (e' + 1) (s.2.1 + 1) (k + s.2.2.length) (up2 h1 113 12 (nI (s.2.1 + 1))) j r E _ he (X.fr Pq.1) Pq.2.1 Pq.2.2.1 Pq.2.2.2.1 cp (by omega) ?_
    intro h3 P3
    have q3 := q3 cp
    have Pc : MP k o (true, (sub (s.2.1 + 1)).2.1, s.2.2 ++ (sub (s.2.1 + 1)).2.2) h h3 := MP.cat (s := (true, s.2.1 + 1, s.2.2)) Pq P3
    by_cases hs2 : (sub (s.2.1 + 1)).1 = true
    · have ea : apdR s 124 (sub (s.2.1 + 1)) = (true, (sub (s.2.1 + 1)).2.1, s.2.2 ++ (sub (s.2.1 + 1)).2.2 ++ [(124, 0)]) := by unfold apdR; rw [if_pos hs2, hs2]
      have hk3 : h3 113 14 = nI (k + (s.2.2 ++ (sub (s.2.1 + 1)).2.2).length) := Pc.2.2.2.1
      have hl3 : k + (s.2.2 ++ (sub (s.2.1 + 1)).2.2).length < 200 := by rw [List.length_append]; omega
      have Pa : MP k o (apdR s 124 (sub (s.2.1 + 1))) h (moH (k + (s.2.2 ++ (sub (s.2.1 + 1)).2.2).length) 6 h3) := by rw [ea]; exact Pc.co rfl
      simp only [k175_1, k175_4, k175_7, k175_8, k175_10, k175_12, k175_15, k175_18, k175_19, k175_22, k175_25, k175_26, k175_27, k175_28, k175_30, k175_33, k175_33i, k175_34, k175_37, k175_38, mm_sI, mm_sJ, mm_sR, mm_cI, mm_cJ, mm_I, mm_J, mm_R, mm_K, mm_N, psh_s, psh_n, z_n, z_i, z_r, z_l, Nat.reduceAdd, Nat.reduceLeDiff, K113 hS, R113_2 hS, R113_3 hS, R113_5 hS, R113_8 hS, R113_9 hS, R113_10 hS, R113_11 hS, R113_16 hS, R113_17 hS, R113_18 hS, R113_19 hS, R113_20 hS, R113_21 hS, R113_22 hS, R113_26 hS, R113_27 hS, R113_30 hS, R113_32 hS, R113_34 hS, R113_35 hS, R113_36 hS, R113_37 hS, R113_40 hS, R113_41 hS, R113_42 hS, R113_43 hS, R113_44 hS, R113_45 hS, R113_47 hS, K114 hS, K115 hS, K116 hS, K117 hS, K118 hS, K119 hS, K120 hS, K121 hS, K122 hS, K123 hS, K124 hS, K125 hS, K126 hS, K127 hS, K128 hS, K129 hS, K130 hS, K131 hS, K132 hS, K133 hS, K134 hS, K135 hS, K136 hS, K137 hS, K138 hS, K139 hS, K140 hS, K141 hS, K142 hS, N114 hS, N115 hS, N116 hS, N117 hS, N118 hS, N119 hS, N120 hS, N121 hS, N122 hS, N123 hS, N124 hS, N125 hS, N126 hS, N127 hS, N128 hS, N129 hS, N130 hS, N131 hS, N132 hS, N133 hS, N134 hS, N135 hS, N136 hS, N137 hS, N138 hS, N139 hS, N140 hS, N141 hS, N142 hS, false_or, or_false, ne_eq, true_or, or_true, not_false_eq_true, Nat.reduceEqDiff, Nat.reduceLT, Nat.reduceLeDiff, Nat.reduceAdd, b2i_t hs2, e10, if_false, m_codes hS hk3 hl3]
      exact ih (by rw [ea]; show n - (sub (s.2.1 + 1)).2.1 < m; omega) (by rw [ea]) Pa I2 hQ
    · have hf : (sub (s.2.1 + 1)).1 = false := by cases hh : (sub (s.2.1 + 1)).1; rfl; exact absurd hh hs2
      have ea : apdR s 124 (sub (s.2.1 + 1)) = (false, (sub (s.2.1 + 1)).2.1, s.2.2 ++ (sub (s.2.1 + 1)).2.2) := by unfold apdR; rw [if_neg hs2, hf]
      rw [lpR_f (by rw [ea]; exact Bool.false_ne_true), ea] at hQ
      simp only [k175_1, k175_4, k175_7, k175_8, k175_10, k175_12, k175_15, k175_18, k175_19, k175_22, k175_25, k175_26, k175_27, k175_28, k175_30, k175_33, k175_33i, k175_34, k175_37, k175_38, mm_sI, mm_sJ, mm_sR, mm_cI, mm_cJ, mm_I, mm_J, mm_R, mm_K, mm_N, psh_s, psh_n, z_n, z_i, z_r, z_l, Nat.reduceAdd, Nat.reduceLeDiff, K113 hS, R113_2 hS, R113_3 hS, R113_5 hS, R113_8 hS, R113_9 hS, R113_10 hS, R113_11 hS, R113_16 hS, R113_17 hS, R113_18 hS, R113_19 hS, R113_20 hS, R113_21 hS, R113_22 hS, R113_26 hS, R113_27 hS, R113_30 hS, R113_32 hS, R113_34 hS, R113_35 hS, R113_36 hS, R113_37 hS, R113_40 hS, R113_41 hS, R113_42 hS, R113_43 hS, R113_44 hS, R113_45 hS, R113_47 hS, K114 hS, K115 hS, K116 hS, K117 hS, K118 hS, K119 hS, K120 hS, K121 hS, K122 hS, K123 hS, K124 hS, K125 hS, K126 hS, K127 hS, K128 hS, K129 hS, K130 hS, K131 hS, K132 hS, K133 hS, K134 hS, K135 hS, K136 hS, K137 hS, K138 hS, K139 hS, K140 hS, K141 hS, K142 hS, N114 hS, N115 hS, N116 hS, N117 hS, N118 hS, N119 hS, N120 hS, N121 hS, N122 hS, N123 hS, N124 hS, N125 hS, N126 hS, N127 hS, N128 hS, N129 hS, N130 hS, N131 hS, N132 hS, N133 hS, N134 hS, N135 hS, N136 hS, N137 hS, N138 hS, N139 hS, N140 hS, N141 hS, N142 hS, false_or, or_false, ne_eq, true_or, or_true, not_false_eq_true, Nat.reduceEqDiff, Nat.reduceLT, Nat.reduceLeDiff, Nat.reduceAdd, b2i_f hs2, if_true]
      exact hQ h3 Pc
theorem m_isE (hJ : MC D n T 174 [] o sub) (hs : ∀ q, PrI n q (sub q)) (hD : 1 ≤ D) : MC (D + 1) n T 175 [] o (fun p => lpR sub T n 0 120 (sub p)) := by
  intro e p k h j r E Q he X hp ho hk hpn hkp hQ
  obtain ⟨e', rfl⟩ : ∃ e', e = e' + 1 := ⟨e - 1, by omega⟩
  have hS := X.S
  have n1 := X.n1
  rw [k175_0]
  simp only [k175_1, k175_4, k175_7, k175_8, k175_10, k175_12, k175_15, k175_18, k175_19, k175_22, k175_25, k175_26, k175_27, k175_28, k175_30, k175_33, k175_33i, k175_34, k175_37, k175_38, mm_sI, mm_sJ, mm_sR, mm_cI, mm_cJ, mm_I, mm_J, mm_R, mm_K, mm_N, psh_s, psh_n, z_n, z_i, z_r, z_l, Nat.reduceAdd, Nat.reduceLeDiff, K113 hS, R113_2 hS, R113_3 hS, R113_5 hS, R113_8 hS, R113_9 hS, R113_10 hS, R113_11 hS, R113_16 hS, R113_17 hS, R113_18 hS, R113_19 hS, R113_20 hS, R113_21 hS, R113_22 hS, R113_26 hS, R113_27 hS, R113_30 hS, R113_32 hS, R113_34 hS, R113_35 hS, R113_36 hS, R113_37 hS, R113_40 hS, R113_41 hS, R113_42 hS, R113_43 hS, R113_44 hS, R113_45 hS, R113_47 hS, K114 hS, K115 hS, K116 hS, K117 hS, K118 hS, K119 hS, K120 hS, K121 hS, K122 hS, K123 hS, K124 hS, K125 hS, K126 hS, K127 hS, K128 hS, K129 hS, K130 hS, K131 hS, K132 hS, K133 hS, K134 hS, K135 hS, K136 hS, K137 hS, K138 hS, K139 hS, K140 hS, K141 hS, K142 hS, N114 hS, N115 hS, N116 hS, N117 hS, N118 hS, N119 hS, N120 hS, N121 hS, N122 hS, N123 hS, N124 hS, N125 hS, N126 hS, N127 hS, N128 hS, N129 hS, N130 hS, N131 hS, N132 hS, N133 hS, N134 hS, N135 hS, N136 hS, N137 hS, N138 hS, N139 hS, N140 hS, N141 hS, N142 hS, false_or, or_false, ne_eq, true_or, or_true, not_false_eq_true, Nat.reduceEqDiff, Nat.reduceLT, Nat.reduceLeDiff, Nat.reduceAdd]
  refine hJ e' p k h j r E _ (by omega) X hp ho hk hpn hkp ?_
  intro h1 P
  by_cases c1 : (sub p).1 = true
  · simp only [k175_1, k175_4, k175_7, k175_8, k175_10, k175_12, k175_15, k175_18, k175_19, k175_22, k175_25, k175_26, k175_27, k175_28, k175_30, k175_33, k175_33i, k175_34, k175_37, k175_38, mm_sI, mm_sJ, mm_sR, mm_cI, mm_cJ, mm_I, mm_J, mm_R, mm_K, mm_N, psh_s, psh_n, z_n, z_i, z_r, z_l, Nat.reduceAdd, Nat.reduceLeDiff, K113 hS, R113_2 hS, R113_3 hS, R113_5 hS, R113_8 hS, R113_9 hS, R113_10 hS, R113_11 hS, R113_16 hS, R113_17 hS, R113_18 hS, R113_19 hS, R113_20 hS, R113_21 hS, R113_22 hS, R113_26 hS, R113_27 hS, R113_30 hS, R113_32 hS, R113_34 hS, R113_35 hS, R113_36 hS, R113_37 hS, R113_40 hS, R113_41 hS, R113_42 hS, R113_43 hS, R113_44 hS, R113_45 hS, R113_47 hS, K114 hS, K115 hS, K116 hS, K117 hS, K118 hS, K119 hS, K120 hS, K121 hS, K122 hS, K123 hS, K124 hS, K125 hS, K126 hS, K127 hS, K128 hS, K129 hS, K130 hS, K131 hS, K132 hS, K133 hS, K134 hS, K135 hS, K136 hS, K137 hS, K138 hS, K139 hS, K140 hS, K141 hS, K142 hS, N114 hS, N115 hS, N116 hS, N117 hS, N118 hS, N119 hS, N120 hS, N121 hS, N122 hS, N123 hS, N124 hS, N125 hS, N126 hS, N127 hS, N128 hS, N129 hS, N130 hS, N131 hS, N132 hS, N133 hS, N134 hS, N135 hS, N136 hS, N137 hS, N138 hS, N139 hS, N140 hS, N141 hS, N142 hS, false_or, or_false, ne_eq, true_or, or_true, not_false_eq_true, Nat.reduceEqDiff, Nat.reduceLT, Nat.reduceLeDiff, Nat.reduceAdd, b2i_t c1, e10, if_false]
    obtain ⟨a1, a2, a3, a4⟩ := hs p
    exact m_isEL hJ hs (by omega) (by omega) X hpn hkp (m := 120) (by have := a4 c1; omega) c1 P (hs p) hQ
  · rw [show (fun p => lpR sub T n 0 120 (sub p)) p = sub p from lpR_f c1] at hQ
    have := hQ h1 P
    rw [b2i_f c1] at this
    simp only [k175_1, k175_4, k175_7, k175_8, k175_10, k175_12, k175_15, k175_18, k175_19, k175_22, k175_25, k175_26, k175_27, k175_28, k175_30, k175_33, k175_33i, k175_34, k175_37, k175_38, mm_sI, mm_sJ, mm_sR, mm_cI, mm_cJ, mm_I, mm_J, mm_R, mm_K, mm_N, psh_s, psh_n, z_n, z_i, z_r, z_l, Nat.reduceAdd, Nat.reduceLeDiff, K113 hS, R113_2 hS, R113_3 hS, R113_5 hS, R113_8 hS, R113_9 hS, R113_10 hS, R113_11 hS, R113_16 hS, R113_17 hS, R113_18 hS, R113_19 hS, R113_20 hS, R113_21 hS, R113_22 hS, R113_26 hS, R113_27 hS, R113_30 hS, R113_32 hS, R113_34 hS, R113_35 hS, R113_36 hS, R113_37 hS, R113_40 hS, R113_41 hS, R113_42 hS, R113_43 hS, R113_44 hS, R113_45 hS, R113_47 hS, K114 hS, K115 hS, K116 hS, K117 hS, K118 hS, K119 hS, K120 hS, K121 hS, K122 hS, K123 hS, K124 hS, K125 hS, K126 hS, K127 hS, K128 hS, K129 hS, K130 hS, K131 hS, K132 hS, K133 hS, K134 hS, K135 hS, K136 hS, K137 hS, K138 hS, K139 hS, K140 hS, K141 hS, K142 hS, N114 hS, N115 hS, N116 hS, N117 hS, N118 hS, N119 hS, N120 hS, N121 hS, N122 hS, N123 hS, N124 hS, N125 hS, N126 hS, N127 hS, N128 hS, N129 hS, N130 hS, N131 hS, N132 hS, N133 hS, N134 hS, N135 hS, N136 hS, N137 hS, N138 hS, N139 hS, N140 hS, N141 hS, N142 hS, false_or, or_false, ne_eq, true_or, or_true, not_false_eq_true, Nat.reduceEqDiff, Nat.reduceLT, Nat.reduceLeDiff, Nat.reduceAdd, b2i_f c1, if_true]
    exact this
/-- all levels -/
theorem m_lev {m f : Nat} (hO : ∀ f, 6 * m + 1 ≤ f → MC (6 * m + 4) n T 170 [none, none] o (prs T n f 5 o)) (hf : 6 * m + 6 ≤ f) : MC (6 * m + 9) n T 175 [] o (prs T n f 0 o) := by
  obtain ⟨f, rfl⟩ : ∃ g, f = g + 5 := ⟨f - 5, by omega⟩
  have e4 : prs T n (f + 1) 4 o = fun p => lpR (prs T n f 5 o) T n 4 120 (prs T n f 5 o p) := rfl
  have e3 : prs T n (f + 2) 3 o = fun p => lpR (prs T n (f + 1) 4 o) T n 3 120 (prs T n (f + 1) 4 o p) := rfl
  have e2 : prs T n (f + 3) 2 o = fun p => lpR (prs T n (f + 2) 3 o) T n 2 1 (prs T n (f + 2) 3 o p) := rfl
  have e1 : prs T n (f + 4) 1 o = fun p => lpR (prs T n (f + 3) 2 o) T n 1 120 (prs T n (f + 3) 2 o p) := rfl
  have e0 : prs T n (f + 5) 0 o = fun p => lpR (prs T n (f + 4) 1 o) T n 0 120 (prs T n (f + 4) 1 o p) := rfl
  have g4 : MC (6 * m + 5) n T 171 [none] o (prs T n (f + 1) 4 o) := by rw [e4]; exact m_isP (hO f (by omega)) (fun q => prs_i) (by omega)
  have g3 : MC (6 * m + 6) n T 172 [none] o (prs T n (f + 2) 3 o) := by rw [e3]; exact m_isS g4 (fun q => prs_i) (by omega)
  have g2 : MC (6 * m + 7) n T 173 [none] o (prs T n (f + 3) 2 o) := by rw [e2]; exact m_isB g3 (fun q => prs_i) (by omega)
  have g1 : MC (6 * m + 8) n T 174 [] o (prs T n (f + 4) 1 o) := by rw [e1]; exact m_isA g2 (fun q => prs_i) (by omega)
  rw [e0]; exact m_isE g1 (fun q => prs_i) (by omega)
theorem mo_all : ∀ {m o f : Nat}, o + m = 6 → 6 * m + 1 ≤ f → MC (6 * m + 4) n T 170 [none, none] o (prs T n f 5 o) := by
  intro m
  induction m with
  | zero =>
    intro o f ho hf
    obtain ⟨f, rfl⟩ : ∃ g, f = g + 1 := ⟨f - 1, by omega⟩
    exact m_isO (D := 3) (by decide) (fun hh => absurd hh (by omega)) (fun hh => absurd hh (by omega)) (fun q => prs_i) (fun q => prs_i) (by omega)
  | succ m ih =>
    intro o f ho hf
    obtain ⟨f, rfl⟩ : ∃ g, f = g + 1 := ⟨f - 1, by omega⟩
    have e : prs T n (f + 1) 5 o = opR T n (prs T n f 0 (o + 1)) (prs T n f 5 (o + 1)) o := by funext p; rw [prs_s, if_neg (by omega)]
    rw [e]
    refine m_isO (D := 6 * m + 9) (by omega) (fun _ => m_lev (fun f hf => ih (by omega) hf) (by omega)) (fun _ => ?_) (fun q => prs_i) (fun q => prs_i) (by omega)
    intro e p k h j r E Q he
    exact ih (o := o + 1) (f := f) (by omega) (by omega) e p k h j r E Q (by omega)
theorem me_all (he : 45 ≤ e) (X : XM n T h r E) (hp : h 113 12 = nI p) (ho : h 113 13 = nI 0) (hk : h 113 14 = nI k) (hpn : p ≤ n) (hkp : k ≤ p) (hQ : ∀ h', MP k 0 (prs T n 42 0 0 p) h h' → Q (some (vi (b2i ((prs T n 42 0 0 p).1 = true)))) (mm h' j r E)) :
    WP e 175 0 [some (vr 113)] [] (mm h j r E) Q :=
  m_lev (m := 6) (o := 0) (f := 42) (fun f hf => mo_all (m := 6) (o := 0) rfl hf) (by decide) e p k h j r E Q he X hp ho hk hpn hkp hQ
end LVM
