/-! ===== the class: what signs join, operands ===== -/
def JC (D l n : Nat) (T : Nat → Int32) (lv o : Nat) (fn : Nat → PR) : Prop := ∀ (e p k : Nat) (h : Hp) (j : Jp) (r : Rp) (E : EE) (Q : Option PV → Mem → Prop), D ≤ e → XC l n T h r E → h l 8 = nI p → h l 4 = nI k → p ≤ n → k ≤ p →
  (∀ h', PP l k (fn p) h h' → Q (some (vi (b2i ((fn p).1 = true)))) (mm h' j r E)) → WP e 11 0 [some (vr l), some (vi (nI lv)), some (vi (nI o)), none, none, none, none] [] (mm h j r E) Q
def OC (D l n : Nat) (T : Nat → Int32) (o : Nat) (fn : Nat → PR) : Prop := ∀ (e p k : Nat) (h : Hp) (j : Jp) (r : Rp) (E : EE) (Q : Option PV → Mem → Prop), D ≤ e → XC l n T h r E → h l 8 = nI p → h l 4 = nI k → p ≤ n → k ≤ p →
  (∀ h', PP l k (fn p) h h' → Q (some (vi (b2i ((fn p).1 = true)))) (mm h' j r E)) → WP e 13 0 [some (vr l), some (vi (nI o))] [] (mm h j r E) Q
section JN
variable {d D e : Nat} {M : Mem} {h h0 h1 h2 h3 : Hp} {j : Jp} {r : Rp} {E : EE} {l n p k q o lv K : Nat} {T : Nat → Int32} {Q : Option PV → Mem → Prop} {x a b : Int32} {s s2 : PR} {c c2 : List Tk} {z : Bool} {fn sub s0 s5 : Nat → PR}
theorem levF_le : levF x ≤ 5 := by
  unfold levF; split; omega
  split; omega
  split; omega
  split; omega
  split; omega
  omega
theorem j5 (hO : OC D l n T o fn) : JC (D + 1) l n T 5 o fn := by
  intro e p k h j r E Q he X hp hk hpn hkp hQ
  obtain ⟨e', rfl⟩ : ∃ e', e = e' + 1 := ⟨e - 1, by omega⟩
  have HL := X.HL
  have c5 : (nI 5 < 5) = False := eq_false (by decide)
  rw [k11_0]
  simp only [k11_1, k11_2, k11_5, k11_6, k11_7, k11_10, k11_11, k11_12, k11_13, k11_14, k11_15, k11_16, k11_19, k11_20, k11_21, k11_22, k11_25, k11_26, k11_29, k11_31, k11_33, k11_34, k11_38, k11_40, k11_43, k11_44, k11_47, k11_48, k11_51, k11_52, k11_55, k11_58, k11_59, k11_62, k11_63, k11_66, k11_67, k11_70, k11_71, k11_74, k11_75, k11_78, k11_79, k11_82, k11_83, k11_85, k11_86, k11_86i, k11_87, k11_90, k11_91, k11_92, k11_95, k11_96, k11_97, k11_98, k11_99, k11_100, k11_103, k11_106, k11_107, k11_109, k11_110, k11_113, k11_116, k11_117, k11_120, k11_121, k11_122, k11_125, k11_128, k11_129, mm_sI, mm_sJ, mm_sR, mm_cI, mm_cJ, mm_I, mm_J, mm_R, mm_K, mm_N, psh_s, psh_n, z_n, z_i, z_r, z_l, Nat.reduceAdd, Nat.reduceLeDiff, false_or, or_false, ne_eq, true_or, or_true, not_false_eq_true, Nat.reduceEqDiff, Nat.reduceLT, Nat.reduceLeDiff, Nat.reduceAdd, lk0 HL, c5, if_false]
  refine hO e' p k h j r E _ (by omega) X hp hk hpn hkp ?_
  intro h' P
  simp only [k11_1, k11_2, k11_5, k11_6, k11_7, k11_10, k11_11, k11_12, k11_13, k11_14, k11_15, k11_16, k11_19, k11_20, k11_21, k11_22, k11_25, k11_26, k11_29, k11_31, k11_33, k11_34, k11_38, k11_40, k11_43, k11_44, k11_47, k11_48, k11_51, k11_52, k11_55, k11_58, k11_59, k11_62, k11_63, k11_66, k11_67, k11_70, k11_71, k11_74, k11_75, k11_78, k11_79, k11_82, k11_83, k11_85, k11_86, k11_86i, k11_87, k11_90, k11_91, k11_92, k11_95, k11_96, k11_97, k11_98, k11_99, k11_100, k11_103, k11_106, k11_107, k11_109, k11_110, k11_113, k11_116, k11_117, k11_120, k11_121, k11_122, k11_125, k11_128, k11_129, mm_sI, mm_sJ, mm_sR, mm_cI, mm_cJ, mm_I, mm_J, mm_R, mm_K, mm_N, psh_s, psh_n, z_n, z_i, z_r, z_l, Nat.reduceAdd, Nat.reduceLeDiff, b2i_01]
  exact hQ h' P
theorem j_lp (hJ : JC D l n T (lv + 1) o sub) (hs : ∀ q, PrI n q (sub q)) (hlv : lv < 5) (hK : K ≤ 120) (he : D ≤ e) (X : XC l n T h r E) (hpn : p ≤ n) (hkp : k ≤ p) : ∀ {m i : Nat} {s : PR} {h1 : Hp} {x6 : Option PV} {bz m0 i0 : Int32}, i + m = K → bz = b2i (s.1 = true) → m0 = nI K → i0 = nI i → PP l k s h h1 → PrI n p s →
    (∀ h', PP l k (lpR sub T n lv m s) h h' → Q (some (vi (b2i ((lpR sub T n lv m s).1 = true)))) (mm h' j r E)) → WP (e + 1) 11 36 [some (vr l), some (vi (nI lv)), some (vi (nI o)), some (vi bz), some (vi m0), some (vi i0), x6] [] (mm h1 j r E) Q := by
  intro m
  induction m with
  | zero =>
    intro i s h1 x6 bz m0 i0 hi hb hm0 hi0 P I hQ
    subst hm0 hi0
    have c0 : (nI K ≤ nI i) = True := by rw [nLe (by omega) (by omega)]; exact eq_true (by omega)
    have b1 : (bz = 0 ∨ bz = 1) = True := by rw [hb]; exact b2i_01
    rw [k11_36]
    simp only [k11_1, k11_2, k11_5, k11_6, k11_7, k11_10, k11_11, k11_12, k11_13, k11_14, k11_15, k11_16, k11_19, k11_20, k11_21, k11_22, k11_25, k11_26, k11_29, k11_31, k11_33, k11_34, k11_38, k11_40, k11_43, k11_44, k11_47, k11_48, k11_51, k11_52, k11_55, k11_58, k11_59, k11_62, k11_63, k11_66, k11_67, k11_70, k11_71, k11_74, k11_75, k11_78, k11_79, k11_82, k11_83, k11_85, k11_86, k11_86i, k11_87, k11_90, k11_91, k11_92, k11_95, k11_96, k11_97, k11_98, k11_99, k11_100, k11_103, k11_106, k11_107, k11_109, k11_110, k11_113, k11_116, k11_117, k11_120, k11_121, k11_122, k11_125, k11_128, k11_129, mm_sI, mm_sJ, mm_sR, mm_cI, mm_cJ, mm_I, mm_J, mm_R, mm_K, mm_N, psh_s, psh_n, z_n, z_i, z_r, z_l, Nat.reduceAdd, Nat.reduceLeDiff, false_or, or_false, ne_eq, true_or, or_true, not_false_eq_true, Nat.reduceEqDiff, Nat.reduceLT, Nat.reduceLeDiff, Nat.reduceAdd, c0, if_true, b1]
    rw [hb]; exact hQ h1 P
  | succ m ih =>
    intro i s h1 x6 bz m0 i0 hi hb hm0 hi0 P I hQ
    subst hm0 hi0
    have hS := X.S
    have HL := X.HL
    have n1 := X.n1
    have X1 := X.fr P.1
    have hp1 := P.2.1
    have hk1 := P.2.2.1
    obtain ⟨a1, a2, a3, a4⟩ := I
    have I : PrI n p s := ⟨a1, a2, a3, a4⟩
    have a3 := a3 hpn
    have c0 : (nI K ≤ nI i) = False := by rw [nLe (by omega) (by omega)]; exact eq_false (by omega)
    rw [k11_36]
    rw [lpR] at hQ
    by_cases hs1 : s.1 = true
    case neg =>
      rw [if_neg (fun hh => hs1 hh.1)] at hQ
      have hb : bz = 0 := by rw [hb, b2i_f hs1]
      subst hb
      simp only [k11_1, k11_2, k11_5, k11_6, k11_7, k11_10, k11_11, k11_12, k11_13, k11_14, k11_15, k11_16, k11_19, k11_20, k11_21, k11_22, k11_25, k11_26, k11_29, k11_31, k11_33, k11_34, k11_38, k11_40, k11_43, k11_44, k11_47, k11_48, k11_51, k11_52, k11_55, k11_58, k11_59, k11_62, k11_63, k11_66, k11_67, k11_70, k11_71, k11_74, k11_75, k11_78, k11_79, k11_82, k11_83, k11_85, k11_86, k11_86i, k11_87, k11_90, k11_91, k11_92, k11_95, k11_96, k11_97, k11_98, k11_99, k11_100, k11_103, k11_106, k11_107, k11_109, k11_110, k11_113, k11_116, k11_117, k11_120, k11_121, k11_122, k11_125, k11_128, k11_129, mm_sI, mm_sJ, mm_sR, mm_cI, mm_cJ, mm_I, mm_J, mm_R, mm_K, mm_N, psh_s, psh_n, z_n, z_i, z_r, z_l, Nat.reduceAdd, Nat.reduceLeDiff, false_or, or_false, ne_eq, true_or, or_true, not_false_eq_true, Nat.reduceEqDiff, Nat.reduceLT, Nat.reduceLeDiff, Nat.reduceAdd, c0, if_true, if_false]
      have := hQ h1 P
      rw [b2i_f hs1] at this; exact this
    have hb : bz = 1 := by rw [hb, b2i_t hs1]
    subst hb
    have fin : WP (e + 1) 11 128 [some (vr l), some (vi (nI lv)), some (vi (nI o)), some (vi 1), some (vi (nI K)), some (vi (nI i)), x6] [] (mm h1 j r E) Q = Q (some (vi 1)) (mm h1 j r E) := by
      simp only [k11_1, k11_2, k11_5, k11_6, k11_7, k11_10, k11_11, k11_12, k11_13, k11_14, k11_15, k11_16, k11_19, k11_20, k11_21, k11_22, k11_25, k11_26, k11_29, k11_31, k11_33, k11_34, k11_38, k11_40, k11_43, k11_44, k11_47, k11_48, k11_51, k11_52, k11_55, k11_58, k11_59, k11_62, k11_63, k11_66, k11_67, k11_70, k11_71, k11_74, k11_75, k11_78, k11_79, k11_82, k11_83, k11_85, k11_86, k11_86i, k11_87, k11_90, k11_91, k11_92, k11_95, k11_96, k11_97, k11_98, k11_99, k11_100, k11_103, k11_106, k11_107, k11_109, k11_110, k11_113, k11_116, k11_117, k11_120, k11_121, k11_122, k11_125, k11_128, k11_129, mm_sI, mm_sJ, mm_sR, mm_cI, mm_cJ, mm_I, mm_J, mm_R, mm_K, mm_N, psh_s, psh_n, z_n, z_i, z_r, z_l, Nat.reduceAdd, Nat.reduceLeDiff, false_or, or_false, ne_eq, true_or, or_true, not_false_eq_true, Nat.reduceEqDiff, Nat.reduceLT, Nat.reduceLeDiff, Nat.reduceAdd]
    by_cases c : s.2.1 < n
    case neg =>
      rw [if_neg (fun hh => c hh.2.1)] at hQ
      have c1 : (nI n ≤ nI s.2.1) = True := by rw [nLe (by omega) (by omega)]; exact eq_true (by omega)
      have := hQ h1 P
      rw [b2i_t hs1] at this
      simp only [k11_1, k11_2, k11_5, k11_6, k11_7, k11_10, k11_11, k11_12, k11_13, k11_14, k11_15, k11_16, k11_19, k11_20, k11_21, k11_22, k11_25, k11_26, k11_29, k11_31, k11_33, k11_34, k11_38, k11_40, k11_43, k11_44, k11_47, k11_48, k11_51, k11_52, k11_55, k11_58, k11_59, k11_62, k11_63, k11_66, k11_67, k11_70, k11_71, k11_74, k11_75, k11_78, k11_79, k11_82, k11_83, k11_85, k11_86, k11_86i, k11_87, k11_90, k11_91, k11_92, k11_95, k11_96, k11_97, k11_98, k11_99, k11_100, k11_103, k11_106, k11_107, k11_109, k11_110, k11_113, k11_116, k11_117, k11_120, k11_121, k11_122, k11_125, k11_128, k11_129, mm_sI, mm_sJ, mm_sR, mm_cI, mm_cJ, mm_I, mm_J, mm_R, mm_K, mm_N, psh_s, psh_n, z_n, z_i, z_r, z_l, Nat.reduceAdd, Nat.reduceLeDiff, false_or, or_false, ne_eq, true_or, or_true, not_false_eq_true, Nat.reduceEqDiff, Nat.reduceLT, Nat.reduceLeDiff, Nat.reduceAdd, c0, if_true, if_false, e10, lk0 HL, hp1, X1.ln, c1]
      exact this
    have c1 : (nI n ≤ nI s.2.1) = False := by rw [nLe (by omega) (by omega)]; exact eq_false (by omega)
    have hb : inb (nI s.2.1) 120 = True := eq_true (by rw [inb_n (by omega)]; omega)
    by_cases c2 : levF (T s.2.1) = lv
    case neg =>
      rw [if_neg (fun hh => c2 hh.2.2)] at hQ
      have lb := @levF_le (T s.2.1)
      have c3 : (nI (levF (T s.2.1)) = nI lv) = False := by rw [nEq (by omega) (by omega)]; exact eq_false c2
      have := hQ h1 P
      rw [b2i_t hs1] at this
      simp only [k11_1, k11_2, k11_5, k11_6, k11_7, k11_10, k11_11, k11_12, k11_13, k11_14, k11_15, k11_16, k11_19, k11_20, k11_21, k11_22, k11_25, k11_26, k11_29, k11_31, k11_33, k11_34, k11_38, k11_40, k11_43, k11_44, k11_47, k11_48, k11_51, k11_52, k11_55, k11_58, k11_59, k11_62, k11_63, k11_66, k11_67, k11_70, k11_71, k11_74, k11_75, k11_78, k11_79, k11_82, k11_83, k11_85, k11_86, k11_86i, k11_87, k11_90, k11_91, k11_92, k11_95, k11_96, k11_97, k11_98, k11_99, k11_100, k11_103, k11_106, k11_107, k11_109, k11_110, k11_113, k11_116, k11_117, k11_120, k11_121, k11_122, k11_125, k11_128, k11_129, mm_sI, mm_sJ, mm_sR, mm_cI, mm_cJ, mm_I, mm_J, mm_R, mm_K, mm_N, psh_s, psh_n, z_n, z_i, z_r, z_l, Nat.reduceAdd, Nat.reduceLeDiff, false_or, or_false, ne_eq, true_or, or_true, not_false_eq_true, Nat.reduceEqDiff, Nat.reduceLT, Nat.reduceLeDiff, Nat.reduceAdd, c0, if_false, e10, lk0 HL, hp1, X1.ln, c1, X1.r6, K37 hS, N37 hS, hb, ix_n (show s.2.1 < 2 ^ 31 by omega), X1.t c, s_levelOf, c3]
      exact this
    rw [if_pos ⟨hs1, c, c2⟩] at hQ
    have c3 : (nI (levF (T s.2.1)) = nI lv) = True := by rw [c2]; exact eq_self _
    simp only [k11_1, k11_2, k11_5, k11_6, k11_7, k11_10, k11_11, k11_12, k11_13, k11_14, k11_15, k11_16, k11_19, k11_20, k11_21, k11_22, k11_25, k11_26, k11_29, k11_31, k11_33, k11_34, k11_38, k11_40, k11_43, k11_44, k11_47, k11_48, k11_51, k11_52, k11_55, k11_58, k11_59, k11_62, k11_63, k11_66, k11_67, k11_70, k11_71, k11_74, k11_75, k11_78, k11_79, k11_82, k11_83, k11_85, k11_86, k11_86i, k11_87, k11_90, k11_91, k11_92, k11_95, k11_96, k11_97, k11_98, k11_99, k11_100, k11_103, k11_106, k11_107, k11_109, k11_110, k11_113, k11_116, k11_117, k11_120, k11_121, k11_122, k11_125, k11_128, k11_129, mm_sI, mm_sJ, mm_sR, mm_cI, mm_cJ, mm_I, mm_J, mm_R, mm_K, mm_N, psh_s, psh_n, z_n, z_i, z_r, z_l, Nat.reduceAdd, Nat.reduceLeDiff, false_or, or_false, ne_eq, true_or, or_true, not_false_eq_true, Nat.reduceEqDiff, Nat.reduceLT, Nat.reduceLeDiff, Nat.reduceAdd, c0, if_true, if_false, e10, lk0 HL, hp1, X1.ln, c1, X1.r6, K37 hS, N37 hS, hb, ix_n (show s.2.1 < 2 ^ 31 by omega), X1.t c, s_levelOf, c3, nS1]
    obtain ⟨q1, q2, q3, q4⟩ := hs (s.2.1 + 1)
    have I2 : PrI n p (apdR s (T s.2.1) (sub (s.2.1 + 1))) := I.apd c ⟨q1, q2, q3, q4⟩
    refine hJ e (s.2.1 + 1) (k + s.2.2.length) (up2 h1 l 8 (nI (s.2.1 + 1))) j r E _ he (X1.fr (k := 0) PF.pl) up2_s (by rw [up2_i (by decide)]; exact hk1) c (by omega) ?_
    intro h3 P3
    have q3 := q3 c
    have Pc : PP l k (true, (sub (s.2.1 + 1)).2.1, s.2.2 ++ (sub (s.2.1 + 1)).2.2) h h3 := PP.cat (s := (true, s.2.1 + 1, s.2.2)) P.pl P3
    have X3 := X.fr Pc.1
    by_cases hs2 : (sub (s.2.1 + 1)).1 = true
    · have ea : apdR s (T s.2.1) (sub (s.2.1 + 1)) = (true, (sub (s.2.1 + 1)).2.1, s.2.2 ++ (sub (s.2.1 + 1)).2.2 ++ [(T s.2.1, 0)]) := by unfold apdR; rw [if_pos hs2, hs2]
      have hk3 : h3 l 4 = nI (k + (s.2.2 ++ (sub (s.2.1 + 1)).2.2).length) := Pc.2.2.1
      have hl3 : k + (s.2.2 ++ (sub (s.2.1 + 1)).2.2).length ≤ 120 := by rw [List.length_append]; omega
      have Pa : PP l k (apdR s (T s.2.1) (sub (s.2.1 + 1))) h (adH l (k + (s.2.2 ++ (sub (s.2.1 + 1)).2.2).length) (T s.2.1) 0 h3) := by rw [ea]; exact Pc.ad
      simp only [k11_1, k11_2, k11_5, k11_6, k11_7, k11_10, k11_11, k11_12, k11_13, k11_14, k11_15, k11_16, k11_19, k11_20, k11_21, k11_22, k11_25, k11_26, k11_29, k11_31, k11_33, k11_34, k11_38, k11_40, k11_43, k11_44, k11_47, k11_48, k11_51, k11_52, k11_55, k11_58, k11_59, k11_62, k11_63, k11_66, k11_67, k11_70, k11_71, k11_74, k11_75, k11_78, k11_79, k11_82, k11_83, k11_85, k11_86, k11_86i, k11_87, k11_90, k11_91, k11_92, k11_95, k11_96, k11_97, k11_98, k11_99, k11_100, k11_103, k11_106, k11_107, k11_109, k11_110, k11_113, k11_116, k11_117, k11_120, k11_121, k11_122, k11_125, k11_128, k11_129, mm_sI, mm_sJ, mm_sR, mm_cI, mm_cJ, mm_I, mm_J, mm_R, mm_K, mm_N, psh_s, psh_n, z_n, z_i, z_r, z_l, Nat.reduceAdd, Nat.reduceLeDiff, false_or, or_false, ne_eq, true_or, or_true, not_false_eq_true, Nat.reduceEqDiff, Nat.reduceLT, Nat.reduceLeDiff, Nat.reduceAdd, b2i_t hs2, e10, if_false, if_true, lk0 HL, s_add X3 hk3 hl3, nS1]
      exact ih (by omega) (by rw [ea, b2i_t rfl]) rfl rfl Pa I2 hQ
    · have hf : (sub (s.2.1 + 1)).1 = false := by cases hh : (sub (s.2.1 + 1)).1; rfl; exact absurd hh hs2
      have ea : apdR s (T s.2.1) (sub (s.2.1 + 1)) = (false, (sub (s.2.1 + 1)).2.1, s.2.2 ++ (sub (s.2.1 + 1)).2.2) := by unfold apdR; rw [if_neg hs2, hf]
      have Pa : PP l k (apdR s (T s.2.1) (sub (s.2.1 + 1))) h h3 := by rw [ea]; exact Pc
      simp only [k11_1, k11_2, k11_5, k11_6, k11_7, k11_10, k11_11, k11_12, k11_13, k11_14, k11_15, k11_16, k11_19, k11_20, k11_21, k11_22, k11_25, k11_26, k11_29, k11_31, k11_33, k11_34, k11_38, k11_40, k11_43, k11_44, k11_47, k11_48, k11_51, k11_52, k11_55, k11_58, k11_59, k11_62, k11_63, k11_66, k11_67, k11_70, k11_71, k11_74, k11_75, k11_78, k11_79, k11_82, k11_83, k11_85, k11_86, k11_86i, k11_87, k11_90, k11_91, k11_92, k11_95, k11_96, k11_97, k11_98, k11_99, k11_100, k11_103, k11_106, k11_107, k11_109, k11_110, k11_113, k11_116, k11_117, k11_120, k11_121, k11_122, k11_125, k11_128, k11_129, mm_sI, mm_sJ, mm_sR, mm_cI, mm_cJ, mm_I, mm_J, mm_R, mm_K, mm_N, psh_s, psh_n, z_n, z_i, z_r, z_l, Nat.reduceAdd, Nat.reduceLeDiff, false_or, or_false, ne_eq, true_or, or_true, not_false_eq_true, Nat.reduceEqDiff, Nat.reduceLT, Nat.reduceLeDiff, Nat.reduceAdd, b2i_f hs2, if_true, lk0 HL, nS1]
      exact ih (by omega) (by rw [ea, b2i_f Bool.false_ne_true]) rfl rfl Pa I2 hQ
theorem j_st (hJ : JC D l n T (lv + 1) o sub) (hs : ∀ q, PrI n q (sub q)) (hlv : lv < 5) : JC (D + 1) l n T lv o (fun p => lpR sub T n lv (if lv = 2 then 1 else 120) (sub p)) := by
  intro e p k h j r E Q he X hp hk hpn hkp hQ
  obtain ⟨e', rfl⟩ : ∃ e', e = e' + 1 := ⟨e - 1, by omega⟩
  have HL := X.HL
  have c5 : (nI lv < 5) = True := by rw [show (5 : Int32) = nI 5 from rfl, nLt (by omega) (by decide)]; exact eq_true hlv
  rw [k11_0]
  simp only [k11_1, k11_2, k11_5, k11_6, k11_7, k11_10, k11_11, k11_12, k11_13, k11_14, k11_15, k11_16, k11_19, k11_20, k11_21, k11_22, k11_25, k11_26, k11_29, k11_31, k11_33, k11_34, k11_38, k11_40, k11_43, k11_44, k11_47, k11_48, k11_51, k11_52, k11_55, k11_58, k11_59, k11_62, k11_63, k11_66, k11_67, k11_70, k11_71, k11_74, k11_75, k11_78, k11_79, k11_82, k11_83, k11_85, k11_86, k11_86i, k11_87, k11_90, k11_91, k11_92, k11_95, k11_96, k11_97, k11_98, k11_99, k11_100, k11_103, k11_106, k11_107, k11_109, k11_110, k11_113, k11_116, k11_117, k11_120, k11_121, k11_122, k11_125, k11_128, k11_129, mm_sI, mm_sJ, mm_sR, mm_cI, mm_cJ, mm_I, mm_J, mm_R, mm_K, mm_N, psh_s, psh_n, z_n, z_i, z_r, z_l, Nat.reduceAdd, Nat.reduceLeDiff, false_or, or_false, ne_eq, true_or, or_true, not_false_eq_true, Nat.reduceEqDiff, Nat.reduceLT, Nat.reduceLeDiff, Nat.reduceAdd, lk0 HL, c5, if_true, nS1]
  refine hJ e' p k h j r E _ (by omega) X hp hk hpn hkp ?_
  intro h1 P
  by_cases c2 : lv = 2
  · have c3 : (nI lv = 2) = True := by rw [c2]; exact eq_true rfl
    simp only [k11_1, k11_2, k11_5, k11_6, k11_7, k11_10, k11_11, k11_12, k11_13, k11_14, k11_15, k11_16, k11_19, k11_20, k11_21, k11_22, k11_25, k11_26, k11_29, k11_31, k11_33, k11_34, k11_38, k11_40, k11_43, k11_44, k11_47, k11_48, k11_51, k11_52, k11_55, k11_58, k11_59, k11_62, k11_63, k11_66, k11_67, k11_70, k11_71, k11_74, k11_75, k11_78, k11_79, k11_82, k11_83, k11_85, k11_86, k11_86i, k11_87, k11_90, k11_91, k11_92, k11_95, k11_96, k11_97, k11_98, k11_99, k11_100, k11_103, k11_106, k11_107, k11_109, k11_110, k11_113, k11_116, k11_117, k11_120, k11_121, k11_122, k11_125, k11_128, k11_129, mm_sI, mm_sJ, mm_sR, mm_cI, mm_cJ, mm_I, mm_J, mm_R, mm_K, mm_N, psh_s, psh_n, z_n, z_i, z_r, z_l, Nat.reduceAdd, Nat.reduceLeDiff, false_or, or_false, ne_eq, true_or, or_true, not_false_eq_true, Nat.reduceEqDiff, Nat.reduceLT, Nat.reduceLeDiff, Nat.reduceAdd, c3, if_true]
    rw [if_pos c2] at hQ
    exact j_lp hJ hs hlv (K := 1) (by decide) (by omega) X hpn hkp (m := 1) (i := 0) rfl rfl rfl rfl P (hs p) hQ
  · have c3 : (nI lv = 2) = False := by rw [show (2 : Int32) = nI 2 from rfl, nEq (by omega) (by decide)]; exact eq_false c2
    simp only [k11_1, k11_2, k11_5, k11_6, k11_7, k11_10, k11_11, k11_12, k11_13, k11_14, k11_15, k11_16, k11_19, k11_20, k11_21, k11_22, k11_25, k11_26, k11_29, k11_31, k11_33, k11_34, k11_38, k11_40, k11_43, k11_44, k11_47, k11_48, k11_51, k11_52, k11_55, k11_58, k11_59, k11_62, k11_63, k11_66, k11_67, k11_70, k11_71, k11_74, k11_75, k11_78, k11_79, k11_82, k11_83, k11_85, k11_86, k11_86i, k11_87, k11_90, k11_91, k11_92, k11_95, k11_96, k11_97, k11_98, k11_99, k11_100, k11_103, k11_106, k11_107, k11_109, k11_110, k11_113, k11_116, k11_117, k11_120, k11_121, k11_122, k11_125, k11_128, k11_129, mm_sI, mm_sJ, mm_sR, mm_cI, mm_cJ, mm_I, mm_J, mm_R, mm_K, mm_N, psh_s, psh_n, z_n, z_i, z_r, z_l, Nat.reduceAdd, Nat.reduceLeDiff, false_or, or_false, ne_eq, true_or, or_true, not_false_eq_true, Nat.reduceEqDiff, Nat.reduceLT, Nat.reduceLeDiff, Nat.reduceAdd, c3, if_false]
    rw [if_neg c2] at hQ
    exact j_lp hJ hs hlv (K := 120) (by decide) (by omega) X hpn hkp (m := 120) (i := 0) rfl rfl rfl rfl P (hs p) hQ
theorem ad8 : adH l k a b h l 8 = h l 8 := by unfold adH; rw [up2_i (by decide), up2_a (by omega), up2_a (by omega)]
theorem o_st (h3 : 3 ≤ D) (h0 : o < 6 → JC D l n T 0 (o + 1) s0) (h5 : o < 6 → OC D l n T (o + 1) s5) (i0 : ∀ q, PrI n q (s0 q)) (i5 : ∀ q, PrI n q (s5 q)) (ho : o ≤ 6) : OC (D + 1) l n T o (opR T n s0 s5 o) := by
  intro e p k h j r E Q he X hp hk hpn hkp hQ
  obtain ⟨d, rfl⟩ : ∃ d, e = d + 4 := ⟨e - 4, by omega⟩
  have hS := X.S
  have HL := X.HL
  have n1 := X.n1
  have P0 : PP l k (false, p, []) h h := PP.nl hp hk
  rw [k13_0]
  by_cases c1 : p < n ∧ (48 ≤ T p ∧ T p ≤ 57)
  · have eo : opR T n s0 s5 o p = (true, (numF T n 4 0 p).2, [(35, (numF T n 4 0 p).1)]) := by unfold opR; rw [if_pos c1]
    rw [eo] at hQ
    simp only [k13_1, k13_4, k13_7, k13_8, k13_11, k13_12, k13_13, k13_16, k13_17, k13_20, k13_23, k13_24, k13_27, k13_28, k13_31, k13_32, k13_35, k13_38, k13_39, k13_41, k13_42, k13_45, k13_46, k13_49, k13_50, k13_53, k13_56, k13_56i, k13_57, k13_58, k13_58i, k13_59, k13_62, k13_63, k13_64, k13_67, k13_68, k13_69, k13_70, k13_72, k13_75, k13_76, k13_77, k13_78, k13_80, k13_83, k13_86, k13_87, k13_88, k13_89, k13_90, k13_91, k13_94, k13_97, k13_98, k13_100, k13_103, k13_106, k13_107, k13_110, k13_111, k13_112, k13_113, k13_115, k13_118, k13_121, k13_122, k13_123, k13_124, k13_125, k13_128, k13_131, k13_132, k13_134, k13_135, k13_138, k13_141, k13_142, k13_145, k13_146, k13_147, k13_148, k13_150, k13_153, k13_156, k13_157, k13_158, k13_159, k13_160, k13_163, k13_166, k13_167, k13_169, k13_170, k13_173, k13_176, k13_177, k13_180, k13_181, mm_sI, mm_sJ, mm_sR, mm_cI, mm_cJ, mm_I, mm_J, mm_R, mm_K, mm_N, psh_s, psh_n, z_n, z_i, z_r, z_l, Nat.reduceAdd, Nat.reduceLeDiff, false_or, or_false, ne_eq, true_or, or_true, not_false_eq_true, Nat.reduceEqDiff, Nat.reduceLT, Nat.reduceLeDiff, Nat.reduceAdd, lk0 HL, s_isDigit X hp hpn, b2i_t c1, e10, if_false, s_number X hp hk hpn (show k ≤ 120 by omega)]
    exact hQ _ (PP.ad (P0.pl (z := true)))
  by_cases c2 : p < n ∧ 0 ≤ namF (T p)
  · have eo : opR T n s0 s5 o p = (true, p + 1, [(110, namF (T p))]) := by unfold opR; rw [if_neg c1, if_pos c2]
    rw [eo] at hQ
    have c3 : (nI n ≤ nI p) = False := by rw [nLe (by omega) (by omega)]; exact eq_false (by omega)
    have hb : inb (nI p) 120 = True := eq_true (by rw [inb_n (by omega)]; omega)
    have c4 : (namF (T p) < 0) = False := eq_false (Int32.not_lt.2 c2.2)
    simp only [k13_1, k13_4, k13_7, k13_8, k13_11, k13_12, k13_13, k13_16, k13_17, k13_20, k13_23, k13_24, k13_27, k13_28, k13_31, k13_32, k13_35, k13_38, k13_39, k13_41, k13_42, k13_45, k13_46, k13_49, k13_50, k13_53, k13_56, k13_56i, k13_57, k13_58, k13_58i, k13_59, k13_62, k13_63, k13_64, k13_67, k13_68, k13_69, k13_70, k13_72, k13_75, k13_76, k13_77, k13_78, k13_80, k13_83, k13_86, k13_87, k13_88, k13_89, k13_90, k13_91, k13_94, k13_97, k13_98, k13_100, k13_103, k13_106, k13_107, k13_110, k13_111, k13_112, k13_113, k13_115, k13_118, k13_121, k13_122, k13_123, k13_124, k13_125, k13_128, k13_131, k13_132, k13_134, k13_135, k13_138, k13_141, k13_142, k13_145, k13_146, k13_147, k13_148, k13_150, k13_153, k13_156, k13_157, k13_158, k13_159, k13_160, k13_163, k13_166, k13_167, k13_169, k13_170, k13_173, k13_176, k13_177, k13_180, k13_181, mm_sI, mm_sJ, mm_sR, mm_cI, mm_cJ, mm_I, mm_J, mm_R, mm_K, mm_N, psh_s, psh_n, z_n, z_i, z_r, z_l, Nat.reduceAdd, Nat.reduceLeDiff, false_or, or_false, ne_eq, true_or, or_true, not_false_eq_true, Nat.reduceEqDiff, Nat.reduceLT, Nat.reduceLeDiff, Nat.reduceAdd, lk0 HL, s_isDigit X hp hpn, b2i_f c1, if_true, hp, X.ln, c3, if_false, X.r6, K37 hS, N37 hS, hb, ix_n (show p < 2 ^ 31 by omega), X.t c2.1, s_nameOf, c4, s_add X hk (show k ≤ 120 by omega), ad8, nS1]
    exact hQ _ ((PP.ad (z := true) P0).pl (z := true) (q := p + 1))
  have w : ∀ (hQ : o < 6 → WP (d + 4) 13 77 [some (vr l), some (vi (nI o))] [] (mm h j r E) Q) (hQ6 : 6 ≤ o → Q (some (vi 0)) (mm h j r E)), WP (d + 4) 13 69 [some (vr l), some (vi (nI o))] [] (mm h j r E) Q := by
    intro q1 q2
    by_cases c3 : 6 ≤ o
    · have c4 : (nI o < 6) = False := by rw [show (6 : Int32) = nI 6 from rfl, nLt (by omega) (by decide)]; exact eq_false (by omega)
      simp only [k13_1, k13_4, k13_7, k13_8, k13_11, k13_12, k13_13, k13_16, k13_17, k13_20, k13_23, k13_24, k13_27, k13_28, k13_31, k13_32, k13_35, k13_38, k13_39, k13_41, k13_42, k13_45, k13_46, k13_49, k13_50, k13_53, k13_56, k13_56i, k13_57, k13_58, k13_58i, k13_59, k13_62, k13_63, k13_64, k13_67, k13_68, k13_69, k13_70, k13_72, k13_75, k13_76, k13_78, k13_80, k13_83, k13_86, k13_87, k13_88, k13_89, k13_90, k13_91, k13_94, k13_97, k13_98, k13_100, k13_103, k13_106, k13_107, k13_110, k13_111, k13_112, k13_113, k13_115, k13_118, k13_121, k13_122, k13_123, k13_124, k13_125, k13_128, k13_131, k13_132, k13_134, k13_135, k13_138, k13_141, k13_142, k13_145, k13_146, k13_147, k13_148, k13_150, k13_153, k13_156, k13_157, k13_158, k13_159, k13_160, k13_163, k13_166, k13_167, k13_169, k13_170, k13_173, k13_176, k13_177, k13_180, k13_181, mm_sI, mm_sJ, mm_sR, mm_cI, mm_cJ, mm_I, mm_J, mm_R, mm_K, mm_N, psh_s, psh_n, z_n, z_i, z_r, z_l, Nat.reduceAdd, Nat.reduceLeDiff, false_or, or_false, ne_eq, true_or, or_true, not_false_eq_true, Nat.reduceEqDiff, Nat.reduceLT, Nat.reduceLeDiff, Nat.reduceAdd, c4, if_false]; exact q2 c3
    · have c4 : (nI o < 6) = True := by rw [show (6 : Int32) = nI 6 from rfl, nLt (by omega) (by decide)]; exact eq_true (by omega)
      simp only [k13_1, k13_4, k13_7, k13_8, k13_11, k13_12, k13_13, k13_16, k13_17, k13_20, k13_23, k13_24, k13_27, k13_28, k13_31, k13_32, k13_35, k13_38, k13_39, k13_41, k13_42, k13_45, k13_46, k13_49, k13_50, k13_53, k13_56, k13_56i, k13_57, k13_58, k13_58i, k13_59, k13_62, k13_63, k13_64, k13_67, k13_68, k13_69, k13_70, k13_72, k13_75, k13_76, k13_78, k13_80, k13_83, k13_86, k13_87, k13_88, k13_89, k13_90, k13_91, k13_94, k13_97, k13_98, k13_100, k13_103, k13_106, k13_107, k13_110, k13_111, k13_112, k13_113, k13_115, k13_118, k13_121, k13_122, k13_123, k13_124, k13_125, k13_128, k13_131, k13_132, k13_134, k13_135, k13_138, k13_141, k13_142, k13_145, k13_146, k13_147, k13_148, k13_150, k13_153, k13_156, k13_157, k13_158, k13_159, k13_160, k13_163, k13_166, k13_167, k13_169, k13_170, k13_173, k13_176, k13_177, k13_180, k13_181, mm_sI, mm_sJ, mm_sR, mm_cI, mm_cJ, mm_I, mm_J, mm_R, mm_K, mm_N, psh_s, psh_n, z_n, z_i, z_r, z_l, Nat.reduceAdd, Nat.reduceLeDiff, false_or, or_false, ne_eq, true_or, or_true, not_false_eq_true, Nat.reduceEqDiff, Nat.reduceLT, Nat.reduceLeDiff, Nat.reduceAdd, c4, if_true]; exact q1 (by omega)
  have v : ∀ (hQ : WP (d + 4) 13 69 [some (vr l), some (vi (nI o))] [] (mm h j r E) Q), WP (d + 4) 13 1 [some (vr l), some (vi (nI o))] [vr l] (mm h j r E) Q := by
    intro q1
    by_cases c3 : p < n
    · have c4 : (nI n ≤ nI p) = False := by rw [nLe (by omega) (by omega)]; exact eq_false (by omega)
      have hb : inb (nI p) 120 = True := eq_true (by rw [inb_n (by omega)]; omega)
      have c5 : (namF (T p) < 0) = True := eq_true (Int32.not_le.1 (fun hh => c2 ⟨c3, hh⟩))
      simp only [k13_1, k13_4, k13_7, k13_8, k13_11, k13_12, k13_13, k13_16, k13_17, k13_20, k13_23, k13_24, k13_27, k13_28, k13_31, k13_32, k13_35, k13_38, k13_39, k13_41, k13_42, k13_45, k13_46, k13_49, k13_50, k13_53, k13_56, k13_56i, k13_57, k13_58, k13_58i, k13_59, k13_62, k13_63, k13_64, k13_67, k13_68, k13_70, k13_72, k13_75, k13_76, k13_77, k13_78, k13_80, k13_83, k13_86, k13_87, k13_88, k13_89, k13_90, k13_91, k13_94, k13_97, k13_98, k13_100, k13_103, k13_106, k13_107, k13_110, k13_111, k13_112, k13_113, k13_115, k13_118, k13_121, k13_122, k13_123, k13_124, k13_125, k13_128, k13_131, k13_132, k13_134, k13_135, k13_138, k13_141, k13_142, k13_145, k13_146, k13_147, k13_148, k13_150, k13_153, k13_156, k13_157, k13_158, k13_159, k13_160, k13_163, k13_166, k13_167, k13_169, k13_170, k13_173, k13_176, k13_177, k13_180, k13_181, mm_sI, mm_sJ, mm_sR, mm_cI, mm_cJ, mm_I, mm_J, mm_R, mm_K, mm_N, psh_s, psh_n, z_n, z_i, z_r, z_l, Nat.reduceAdd, Nat.reduceLeDiff, false_or, or_false, ne_eq, true_or, or_true, not_false_eq_true, Nat.reduceEqDiff, Nat.reduceLT, Nat.reduceLeDiff, Nat.reduceAdd, lk0 HL, s_isDigit X hp hpn, b2i_f c1, if_true, hp, X.ln, c4, if_false, X.r6, K37 hS, N37 hS, hb, ix_n (show p < 2 ^ 31 by omega), X.t c3, s_nameOf, c5]
      exact q1
    · have c4 : (nI n ≤ nI p) = True := by rw [nLe (by omega) (by omega)]; exact eq_true (by omega)
      simp only [k13_1, k13_4, k13_7, k13_8, k13_11, k13_12, k13_13, k13_16, k13_17, k13_20, k13_23, k13_24, k13_27, k13_28, k13_31, k13_32, k13_35, k13_38, k13_39, k13_41, k13_42, k13_45, k13_46, k13_49, k13_50, k13_53, k13_56, k13_56i, k13_57, k13_58, k13_58i, k13_59, k13_62, k13_63, k13_64, k13_67, k13_68, k13_70, k13_72, k13_75, k13_76, k13_77, k13_78, k13_80, k13_83, k13_86, k13_87, k13_88, k13_89, k13_90, k13_91, k13_94, k13_97, k13_98, k13_100, k13_103, k13_106, k13_107, k13_110, k13_111, k13_112, k13_113, k13_115, k13_118, k13_121, k13_122, k13_123, k13_124, k13_125, k13_128, k13_131, k13_132, k13_134, k13_135, k13_138, k13_141, k13_142, k13_145, k13_146, k13_147, k13_148, k13_150, k13_153, k13_156, k13_157, k13_158, k13_159, k13_160, k13_163, k13_166, k13_167, k13_169, k13_170, k13_173, k13_176, k13_177, k13_180, k13_181, mm_sI, mm_sJ, mm_sR, mm_cI, mm_cJ, mm_I, mm_J, mm_R, mm_K, mm_N, psh_s, psh_n, z_n, z_i, z_r, z_l, Nat.reduceAdd, Nat.reduceLeDiff, false_or, or_false, ne_eq, true_or, or_true, not_false_eq_true, Nat.reduceEqDiff, Nat.reduceLT, Nat.reduceLeDiff, Nat.reduceAdd, lk0 HL, s_isDigit X hp hpn, b2i_f c1, if_true, hp, X.ln, c4]
      exact q1
  refine v (w ?_ ?_)
  case refine_2 =>
    intro c3
    have eo : opR T n s0 s5 o p = (false, p, []) := by unfold opR; rw [if_neg c1, if_neg c2, if_pos c3]
    rw [eo] at hQ
    exact hQ _ P0
  intro o6
  have c3 : ¬ 6 ≤ o := by omega
  have h0 := h0 o6
  have h5 := h5 o6
  have Xp := X.fr (k := 0) (PF.pl (h := h) (v := nI (p + 1)))
  have fp : PF l k h (up2 h l 8 (nI (p + 1))) := PF.pl
  have hk' : up2 h l 8 (nI (p + 1)) l 4 = nI k := by rw [up2_i (by decide)]; exact hk
  have e00 : (0 : Int32) = nI 0 := rfl
  by_cases c4 : p < n ∧ T p = 40
  · have eo : opR T n s0 s5 o p = cloR T n (s0 (p + 1)) := by unfold opR; rw [if_neg c1, if_neg c2, if_neg c3, if_pos c4]
    rw [eo] at hQ
    simp only [k13_1, k13_4, k13_7, k13_8, k13_11, k13_12, k13_13, k13_16, k13_17, k13_20, k13_23, k13_24, k13_27, k13_28, k13_31, k13_32, k13_35, k13_38, k13_39, k13_41, k13_42, k13_45, k13_46, k13_49, k13_50, k13_53, k13_56, k13_56i, k13_57, k13_58, k13_58i, k13_59, k13_62, k13_63, k13_64, k13_67, k13_68, k13_69, k13_70, k13_72, k13_75, k13_76, k13_77, k13_78, k13_80, k13_83, k13_86, k13_87, k13_88, k13_89, k13_90, k13_91, k13_94, k13_97, k13_98, k13_100, k13_103, k13_106, k13_107, k13_110, k13_111, k13_112, k13_113, k13_115, k13_118, k13_121, k13_122, k13_123, k13_124, k13_125, k13_128, k13_131, k13_132, k13_134, k13_135, k13_138, k13_141, k13_142, k13_145, k13_146, k13_147, k13_148, k13_150, k13_153, k13_156, k13_157, k13_158, k13_159, k13_160, k13_163, k13_166, k13_167, k13_169, k13_170, k13_173, k13_176, k13_177, k13_180, k13_181, mm_sI, mm_sJ, mm_sR, mm_cI, mm_cJ, mm_I, mm_J, mm_R, mm_K, mm_N, psh_s, psh_n, z_n, z_i, z_r, z_l, Nat.reduceAdd, Nat.reduceLeDiff, false_or, or_false, ne_eq, true_or, or_true, not_false_eq_true, Nat.reduceEqDiff, Nat.reduceLT, Nat.reduceLeDiff, Nat.reduceAdd, lk0 HL, s_takes X hp hpn, if_pos c4, e10, if_false, nS1]
    refine h0 (d + 3) (p + 1) k (up2 h l 8 (nI (p + 1))) j r E _ (by omega) Xp up2_s hk' c4.1 (by omega) ?_
    intro h2 P2
    have P2 := P2.fr fp
    obtain ⟨q1, q2, q3, q4⟩ := i0 (p + 1)
    have q3 := q3 c4.1
    have X2 := X.fr P2.1
    by_cases hs : (s0 (p + 1)).1 = true
    · by_cases c6 : (s0 (p + 1)).2.1 < n ∧ T (s0 (p + 1)).2.1 = 41
      · have ec : cloR T n (s0 (p + 1)) = (true, (s0 (p + 1)).2.1 + 1, (s0 (p + 1)).2.2) := by unfold cloR; rw [if_pos ⟨hs, c6⟩]
        rw [ec] at hQ
        simp only [k13_1, k13_4, k13_7, k13_8, k13_11, k13_12, k13_13, k13_16, k13_17, k13_20, k13_23, k13_24, k13_27, k13_28, k13_31, k13_32, k13_35, k13_38, k13_39, k13_41, k13_42, k13_45, k13_46, k13_49, k13_50, k13_53, k13_56, k13_56i, k13_57, k13_58, k13_58i, k13_59, k13_62, k13_63, k13_64, k13_67, k13_68, k13_69, k13_70, k13_72, k13_75, k13_76, k13_77, k13_78, k13_80, k13_83, k13_86, k13_87, k13_88, k13_89, k13_90, k13_91, k13_94, k13_97, k13_98, k13_100, k13_103, k13_106, k13_107, k13_110, k13_111, k13_112, k13_113, k13_115, k13_118, k13_121, k13_122, k13_123, k13_124, k13_125, k13_128, k13_131, k13_132, k13_134, k13_135, k13_138, k13_141, k13_142, k13_145, k13_146, k13_147, k13_148, k13_150, k13_153, k13_156, k13_157, k13_158, k13_159, k13_160, k13_163, k13_166, k13_167, k13_169, k13_170, k13_173, k13_176, k13_177, k13_180, k13_181, mm_sI, mm_sJ, mm_sR, mm_cI, mm_cJ, mm_I, mm_J, mm_R, mm_K, mm_N, psh_s, psh_n, z_n, z_i, z_r, z_l, Nat.reduceAdd, Nat.reduceLeDiff, false_or, or_false, ne_eq, true_or, or_true, not_false_eq_true, Nat.reduceEqDiff, Nat.reduceLT, Nat.reduceLeDiff, Nat.reduceAdd, b2i_t hs, e10, if_false, lk0 HL, s_takes X2 P2.2.1 q3, if_pos c6]
        exact hQ _ P2.pl
      · have ec : cloR T n (s0 (p + 1)) = (false, (s0 (p + 1)).2.1, (s0 (p + 1)).2.2) := by unfold cloR; rw [if_neg (fun hh => c6 hh.2)]
        rw [ec] at hQ
        simp only [k13_1, k13_4, k13_7, k13_8, k13_11, k13_12, k13_13, k13_16, k13_17, k13_20, k13_23, k13_24, k13_27, k13_28, k13_31, k13_32, k13_35, k13_38, k13_39, k13_41, k13_42, k13_45, k13_46, k13_49, k13_50, k13_53, k13_56, k13_56i, k13_57, k13_58, k13_58i, k13_59, k13_62, k13_63, k13_64, k13_67, k13_68, k13_69, k13_70, k13_72, k13_75, k13_76, k13_77, k13_78, k13_80, k13_83, k13_86, k13_87, k13_88, k13_89, k13_90, k13_91, k13_94, k13_97, k13_98, k13_100, k13_103, k13_106, k13_107, k13_110, k13_111, k13_112, k13_113, k13_115, k13_118, k13_121, k13_122, k13_123, k13_124, k13_125, k13_128, k13_131, k13_132, k13_134, k13_135, k13_138, k13_141, k13_142, k13_145, k13_146, k13_147, k13_148, k13_150, k13_153, k13_156, k13_157, k13_158, k13_159, k13_160, k13_163, k13_166, k13_167, k13_169, k13_170, k13_173, k13_176, k13_177, k13_180, k13_181, mm_sI, mm_sJ, mm_sR, mm_cI, mm_cJ, mm_I, mm_J, mm_R, mm_K, mm_N, psh_s, psh_n, z_n, z_i, z_r, z_l, Nat.reduceAdd, Nat.reduceLeDiff, false_or, or_false, ne_eq, true_or, or_true, not_false_eq_true, Nat.reduceEqDiff, Nat.reduceLT, Nat.reduceLeDiff, Nat.reduceAdd, b2i_t hs, e10, if_false, if_true, lk0 HL, s_takes X2 P2.2.1 q3, if_neg c6]
        exact hQ _ P2
    · have ec : cloR T n (s0 (p + 1)) = (false, (s0 (p + 1)).2.1, (s0 (p + 1)).2.2) := by unfold cloR; rw [if_neg (fun hh => hs hh.1)]
      rw [ec] at hQ
      simp only [k13_1, k13_4, k13_7, k13_8, k13_11, k13_12, k13_13, k13_16, k13_17, k13_20, k13_23, k13_24, k13_27, k13_28, k13_31, k13_32, k13_35, k13_38, k13_39, k13_41, k13_42, k13_45, k13_46, k13_49, k13_50, k13_53, k13_56, k13_56i, k13_57, k13_58, k13_58i, k13_59, k13_62, k13_63, k13_64, k13_67, k13_68, k13_69, k13_70, k13_72, k13_75, k13_76, k13_77, k13_78, k13_80, k13_83, k13_86, k13_87, k13_88, k13_89, k13_90, k13_91, k13_94, k13_97, k13_98, k13_100, k13_103, k13_106, k13_107, k13_110, k13_111, k13_112, k13_113, k13_115, k13_118, k13_121, k13_122, k13_123, k13_124, k13_125, k13_128, k13_131, k13_132, k13_134, k13_135, k13_138, k13_141, k13_142, k13_145, k13_146, k13_147, k13_148, k13_150, k13_153, k13_156, k13_157, k13_158, k13_159, k13_160, k13_163, k13_166, k13_167, k13_169, k13_170, k13_173, k13_176, k13_177, k13_180, k13_181, mm_sI, mm_sJ, mm_sR, mm_cI, mm_cJ, mm_I, mm_J, mm_R, mm_K, mm_N, psh_s, psh_n, z_n, z_i, z_r, z_l, Nat.reduceAdd, Nat.reduceLeDiff, false_or, or_false, ne_eq, true_or, or_true, not_false_eq_true, Nat.reduceEqDiff, Nat.reduceLT, Nat.reduceLeDiff, Nat.reduceAdd, b2i_f hs, if_true]
      exact hQ _ P2
  by_cases c5 : p < n ∧ T p = 33
  · have eo : opR T n s0 s5 o p = sfxR (33, 0) (s5 (p + 1)) := by unfold opR; rw [if_neg c1, if_neg c2, if_neg c3, if_neg c4, if_pos c5]
    rw [eo] at hQ
    simp only [k13_1, k13_4, k13_7, k13_8, k13_11, k13_12, k13_13, k13_16, k13_17, k13_20, k13_23, k13_24, k13_27, k13_28, k13_31, k13_32, k13_35, k13_38, k13_39, k13_41, k13_42, k13_45, k13_46, k13_49, k13_50, k13_53, k13_56, k13_56i, k13_57, k13_58, k13_58i, k13_59, k13_62, k13_63, k13_64, k13_67, k13_68, k13_69, k13_70, k13_72, k13_75, k13_76, k13_77, k13_78, k13_80, k13_83, k13_86, k13_87, k13_88, k13_89, k13_90, k13_91, k13_94, k13_97, k13_98, k13_100, k13_103, k13_106, k13_107, k13_110, k13_111, k13_112, k13_113, k13_115, k13_118, k13_121, k13_122, k13_123, k13_124, k13_125, k13_128, k13_131, k13_132, k13_134, k13_135, k13_138, k13_141, k13_142, k13_145, k13_146, k13_147, k13_148, k13_150, k13_153, k13_156, k13_157, k13_158, k13_159, k13_160, k13_163, k13_166, k13_167, k13_169, k13_170, k13_173, k13_176, k13_177, k13_180, k13_181, mm_sI, mm_sJ, mm_sR, mm_cI, mm_cJ, mm_I, mm_J, mm_R, mm_K, mm_N, psh_s, psh_n, z_n, z_i, z_r, z_l, Nat.reduceAdd, Nat.reduceLeDiff, false_or, or_false, ne_eq, true_or, or_true, not_false_eq_true, Nat.reduceEqDiff, Nat.reduceLT, Nat.reduceLeDiff, Nat.reduceAdd, lk0 HL, s_takes X hp hpn, if_neg c4, if_pos c5, e10, if_false, if_true, nS1]
    refine h5 (d + 3) (p + 1) k (up2 h l 8 (nI (p + 1))) j r E _ (by omega) Xp up2_s hk' c5.1 (by omega) ?_
    intro h2 P2
    have P2 := P2.fr fp
    obtain ⟨q1, q2, q3, q4⟩ := i5 (p + 1)
    have q3 := q3 c5.1
    have X2 := X.fr P2.1
    by_cases hs : (s5 (p + 1)).1 = true
    · have ec : sfxR (33, 0) (s5 (p + 1)) = (true, (s5 (p + 1)).2.1, (s5 (p + 1)).2.2 ++ [(33, 0)]) := by unfold sfxR; rw [if_pos hs]
      rw [ec] at hQ
      simp only [k13_1, k13_4, k13_7, k13_8, k13_11, k13_12, k13_13, k13_16, k13_17, k13_20, k13_23, k13_24, k13_27, k13_28, k13_31, k13_32, k13_35, k13_38, k13_39, k13_41, k13_42, k13_45, k13_46, k13_49, k13_50, k13_53, k13_56, k13_56i, k13_57, k13_58, k13_58i, k13_59, k13_62, k13_63, k13_64, k13_67, k13_68, k13_69, k13_70, k13_72, k13_75, k13_76, k13_77, k13_78, k13_80, k13_83, k13_86, k13_87, k13_88, k13_89, k13_90, k13_91, k13_94, k13_97, k13_98, k13_100, k13_103, k13_106, k13_107, k13_110, k13_111, k13_112, k13_113, k13_115, k13_118, k13_121, k13_122, k13_123, k13_124, k13_125, k13_128, k13_131, k13_132, k13_134, k13_135, k13_138, k13_141, k13_142, k13_145, k13_146, k13_147, k13_148, k13_150, k13_153, k13_156, k13_157, k13_158, k13_159, k13_160, k13_163, k13_166, k13_167, k13_169, k13_170, k13_173, k13_176, k13_177, k13_180, k13_181, mm_sI, mm_sJ, mm_sR, mm_cI, mm_cJ, mm_I, mm_J, mm_R, mm_K, mm_N, psh_s, psh_n, z_n, z_i, z_r, z_l, Nat.reduceAdd, Nat.reduceLeDiff, false_or, or_false, ne_eq, true_or, or_true, not_false_eq_true, Nat.reduceEqDiff, Nat.reduceLT, Nat.reduceLeDiff, Nat.reduceAdd, b2i_t hs, e10, if_false, lk0 HL, s_add X2 P2.2.2.1 (by omega)]
      exact hQ _ P2.ad
    · have ec : sfxR (33, 0) (s5 (p + 1)) = s5 (p + 1) := by unfold sfxR; rw [if_neg hs]
      rw [ec, b2i_f hs] at hQ
      simp only [k13_1, k13_4, k13_7, k13_8, k13_11, k13_12, k13_13, k13_16, k13_17, k13_20, k13_23, k13_24, k13_27, k13_28, k13_31, k13_32, k13_35, k13_38, k13_39, k13_41, k13_42, k13_45, k13_46, k13_49, k13_50, k13_53, k13_56, k13_56i, k13_57, k13_58, k13_58i, k13_59, k13_62, k13_63, k13_64, k13_67, k13_68, k13_69, k13_70, k13_72, k13_75, k13_76, k13_77, k13_78, k13_80, k13_83, k13_86, k13_87, k13_88, k13_89, k13_90, k13_91, k13_94, k13_97, k13_98, k13_100, k13_103, k13_106, k13_107, k13_110, k13_111, k13_112, k13_113, k13_115, k13_118, k13_121, k13_122, k13_123, k13_124, k13_125, k13_128, k13_131, k13_132, k13_134, k13_135, k13_138, k13_141, k13_142, k13_145, k13_146, k13_147, k13_148, k13_150, k13_153, k13_156, k13_157, k13_158, k13_159, k13_160, k13_163, k13_166, k13_167, k13_169, k13_170, k13_173, k13_176, k13_177, k13_180, k13_181, mm_sI, mm_sJ, mm_sR, mm_cI, mm_cJ, mm_I, mm_J, mm_R, mm_K, mm_N, psh_s, psh_n, z_n, z_i, z_r, z_l, Nat.reduceAdd, Nat.reduceLeDiff, false_or, or_false, ne_eq, true_or, or_true, not_false_eq_true, Nat.reduceEqDiff, Nat.reduceLT, Nat.reduceLeDiff, Nat.reduceAdd, b2i_f hs, if_true]
      exact hQ _ P2
  by_cases c6 : p < n ∧ T p = 45
  · have eo : opR T n s0 s5 o p = sfxR (126, 0) (s5 (p + 1)) := by unfold opR; rw [if_neg c1, if_neg c2, if_neg c3, if_neg c4, if_neg c5, if_pos c6]
    rw [eo] at hQ
    simp only [k13_1, k13_4, k13_7, k13_8, k13_11, k13_12, k13_13, k13_16, k13_17, k13_20, k13_23, k13_24, k13_27, k13_28, k13_31, k13_32, k13_35, k13_38, k13_39, k13_41, k13_42, k13_45, k13_46, k13_49, k13_50, k13_53, k13_56, k13_56i, k13_57, k13_58, k13_58i, k13_59, k13_62, k13_63, k13_64, k13_67, k13_68, k13_69, k13_70, k13_72, k13_75, k13_76, k13_77, k13_78, k13_80, k13_83, k13_86, k13_87, k13_88, k13_89, k13_90, k13_91, k13_94, k13_97, k13_98, k13_100, k13_103, k13_106, k13_107, k13_110, k13_111, k13_112, k13_113, k13_115, k13_118, k13_121, k13_122, k13_123, k13_124, k13_125, k13_128, k13_131, k13_132, k13_134, k13_135, k13_138, k13_141, k13_142, k13_145, k13_146, k13_147, k13_148, k13_150, k13_153, k13_156, k13_157, k13_158, k13_159, k13_160, k13_163, k13_166, k13_167, k13_169, k13_170, k13_173, k13_176, k13_177, k13_180, k13_181, mm_sI, mm_sJ, mm_sR, mm_cI, mm_cJ, mm_I, mm_J, mm_R, mm_K, mm_N, psh_s, psh_n, z_n, z_i, z_r, z_l, Nat.reduceAdd, Nat.reduceLeDiff, false_or, or_false, ne_eq, true_or, or_true, not_false_eq_true, Nat.reduceEqDiff, Nat.reduceLT, Nat.reduceLeDiff, Nat.reduceAdd, lk0 HL, s_takes X hp hpn, if_neg c4, if_neg c5, if_pos c6, e10, if_false, if_true, nS1]
    refine h5 (d + 3) (p + 1) k (up2 h l 8 (nI (p + 1))) j r E _ (by omega) Xp up2_s hk' c6.1 (by omega) ?_
    intro h2 P2
    have P2 := P2.fr fp
    obtain ⟨q1, q2, q3, q4⟩ := i5 (p + 1)
    have q3 := q3 c6.1
    have X2 := X.fr P2.1
    by_cases hs : (s5 (p + 1)).1 = true
    · have ec : sfxR (126, 0) (s5 (p + 1)) = (true, (s5 (p + 1)).2.1, (s5 (p + 1)).2.2 ++ [(126, 0)]) := by unfold sfxR; rw [if_pos hs]
      rw [ec] at hQ
      simp only [k13_1, k13_4, k13_7, k13_8, k13_11, k13_12, k13_13, k13_16, k13_17, k13_20, k13_23, k13_24, k13_27, k13_28, k13_31, k13_32, k13_35, k13_38, k13_39, k13_41, k13_42, k13_45, k13_46, k13_49, k13_50, k13_53, k13_56, k13_56i, k13_57, k13_58, k13_58i, k13_59, k13_62, k13_63, k13_64, k13_67, k13_68, k13_69, k13_70, k13_72, k13_75, k13_76, k13_77, k13_78, k13_80, k13_83, k13_86, k13_87, k13_88, k13_89, k13_90, k13_91, k13_94, k13_97, k13_98, k13_100, k13_103, k13_106, k13_107, k13_110, k13_111, k13_112, k13_113, k13_115, k13_118, k13_121, k13_122, k13_123, k13_124, k13_125, k13_128, k13_131, k13_132, k13_134, k13_135, k13_138, k13_141, k13_142, k13_145, k13_146, k13_147, k13_148, k13_150, k13_153, k13_156, k13_157, k13_158, k13_159, k13_160, k13_163, k13_166, k13_167, k13_169, k13_170, k13_173, k13_176, k13_177, k13_180, k13_181, mm_sI, mm_sJ, mm_sR, mm_cI, mm_cJ, mm_I, mm_J, mm_R, mm_K, mm_N, psh_s, psh_n, z_n, z_i, z_r, z_l, Nat.reduceAdd, Nat.reduceLeDiff, false_or, or_false, ne_eq, true_or, or_true, not_false_eq_true, Nat.reduceEqDiff, Nat.reduceLT, Nat.reduceLeDiff, Nat.reduceAdd, b2i_t hs, e10, if_false, lk0 HL, s_add X2 P2.2.2.1 (by omega)]
      exact hQ _ P2.ad
    · have ec : sfxR (126, 0) (s5 (p + 1)) = s5 (p + 1) := by unfold sfxR; rw [if_neg hs]
      rw [ec, b2i_f hs] at hQ
      simp only [k13_1, k13_4, k13_7, k13_8, k13_11, k13_12, k13_13, k13_16, k13_17, k13_20, k13_23, k13_24, k13_27, k13_28, k13_31, k13_32, k13_35, k13_38, k13_39, k13_41, k13_42, k13_45, k13_46, k13_49, k13_50, k13_53, k13_56, k13_56i, k13_57, k13_58, k13_58i, k13_59, k13_62, k13_63, k13_64, k13_67, k13_68, k13_69, k13_70, k13_72, k13_75, k13_76, k13_77, k13_78, k13_80, k13_83, k13_86, k13_87, k13_88, k13_89, k13_90, k13_91, k13_94, k13_97, k13_98, k13_100, k13_103, k13_106, k13_107, k13_110, k13_111, k13_112, k13_113, k13_115, k13_118, k13_121, k13_122, k13_123, k13_124, k13_125, k13_128, k13_131, k13_132, k13_134, k13_135, k13_138, k13_141, k13_142, k13_145, k13_146, k13_147, k13_148, k13_150, k13_153, k13_156, k13_157, k13_158, k13_159, k13_160, k13_163, k13_166, k13_167, k13_169, k13_170, k13_173, k13_176, k13_177, k13_180, k13_181, mm_sI, mm_sJ, mm_sR, mm_cI, mm_cJ, mm_I, mm_J, mm_R, mm_K, mm_N, psh_s, psh_n, z_n, z_i, z_r, z_l, Nat.reduceAdd, Nat.reduceLeDiff, false_or, or_false, ne_eq, true_or, or_true, not_false_eq_true, Nat.reduceEqDiff, Nat.reduceLT, Nat.reduceLeDiff, Nat.reduceAdd, b2i_f hs, if_true]
      exact hQ _ P2
  have eo : opR T n s0 s5 o p = (false, p, []) := by unfold opR; rw [if_neg c1, if_neg c2, if_neg c3, if_neg c4, if_neg c5, if_neg c6]
  rw [eo] at hQ
  simp only [k13_1, k13_4, k13_7, k13_8, k13_11, k13_12, k13_13, k13_16, k13_17, k13_20, k13_23, k13_24, k13_27, k13_28, k13_31, k13_32, k13_35, k13_38, k13_39, k13_41, k13_42, k13_45, k13_46, k13_49, k13_50, k13_53, k13_56, k13_56i, k13_57, k13_58, k13_58i, k13_59, k13_62, k13_63, k13_64, k13_67, k13_68, k13_69, k13_70, k13_72, k13_75, k13_76, k13_77, k13_78, k13_80, k13_83, k13_86, k13_87, k13_88, k13_89, k13_90, k13_91, k13_94, k13_97, k13_98, k13_100, k13_103, k13_106, k13_107, k13_110, k13_111, k13_112, k13_113, k13_115, k13_118, k13_121, k13_122, k13_123, k13_124, k13_125, k13_128, k13_131, k13_132, k13_134, k13_135, k13_138, k13_141, k13_142, k13_145, k13_146, k13_147, k13_148, k13_150, k13_153, k13_156, k13_157, k13_158, k13_159, k13_160, k13_163, k13_166, k13_167, k13_169, k13_170, k13_173, k13_176, k13_177, k13_180, k13_181, mm_sI, mm_sJ, mm_sR, mm_cI, mm_cJ, mm_I, mm_J, mm_R, mm_K, mm_N, psh_s, psh_n, z_n, z_i, z_r, z_l, Nat.reduceAdd, Nat.reduceLeDiff, false_or, or_false, ne_eq, true_or, or_true, not_false_eq_true, Nat.reduceEqDiff, Nat.reduceLT, Nat.reduceLeDiff, Nat.reduceAdd, lk0 HL, s_takes X hp hpn, if_neg c4, if_neg c5, if_neg c6, if_true]
  exact hQ _ P0
/-- all levels, as deep as may be open -/
theorem jo_all : ∀ {m o f : Nat}, o + m = 6 → (6 * m + 1 ≤ f → OC (7 * m + 4) l n T o (prs T n f 5 o)) ∧ ∀ {i lv : Nat}, lv + i = 5 → 6 * m + 1 + i ≤ f → JC (7 * m + 5 + i) l n T lv o (prs T n f lv o) := by
  intro m
  induction m with
  | zero =>
    intro o f ho
    have hO : ∀ f, 1 ≤ f → OC 4 l n T o (prs T n f 5 o) := by
      intro f hf
      obtain ⟨f, rfl⟩ : ∃ g, f = g + 1 := ⟨f - 1, by omega⟩
      exact o_st (D := 3) (by decide) (fun hh => absurd hh (by omega)) (fun hh => absurd hh (by omega)) (fun q => prs_i) (fun q => prs_i) (by omega)
    refine ⟨fun hf => hO f (by omega), ?_⟩
    intro i
    induction i generalizing f with
    | zero => intro lv hl hf; obtain rfl : lv = 5 := by omega
              exact j5 (hO f (by omega))
    | succ i ih =>
      intro lv hl hf
      obtain ⟨f, rfl⟩ : ∃ g, f = g + 1 := ⟨f - 1, by omega⟩
      have := j_st (ih (f := f) (lv := lv + 1) (by omega) (by omega)) (fun q => prs_i) (by omega)
      have e : prs T n (f + 1) lv o = fun p => lpR (prs T n f (lv + 1) o) T n lv (if lv = 2 then 1 else 120) (prs T n f (lv + 1) o p) := by funext p; rw [prs_s, if_pos (by omega)]
      rw [e]; exact this
  | succ m ihm =>
    intro o f ho
    have hO : ∀ f, 6 * (m + 1) + 1 ≤ f → OC (7 * (m + 1) + 4) l n T o (prs T n f 5 o) := by
      intro f hf
      obtain ⟨f, rfl⟩ : ∃ g, f = g + 1 := ⟨f - 1, by omega⟩
      have j0 : JC (7 * m + 5 + 5) l n T 0 (o + 1) (prs T n f 0 (o + 1)) := (ihm (o := o + 1) (f := f) (by omega)).2 (i := 5) (lv := 0) (by omega) (by omega)
      have o5 : OC (7 * m + 4) l n T (o + 1) (prs T n f 5 (o + 1)) := (ihm (o := o + 1) (f := f) (by omega)).1 (by omega)
      have e : prs T n (f + 1) 5 o = opR T n (prs T n f 0 (o + 1)) (prs T n f 5 (o + 1)) o := by funext p; rw [prs_s, if_neg (by omega)]
      rw [e]
      refine o_st (D := 7 * m + 10) (by omega) (fun _ => j0) (fun _ => ?_) (fun q => prs_i) (fun q => prs_i) (by omega)
      intro e p k h j r E Q he
      exact o5 e p k h j r E Q (by omega)
    refine ⟨fun hf => hO f (by omega), ?_⟩
    intro i
    induction i generalizing f with
    | zero => intro lv hl hf; obtain rfl : lv = 5 := by omega
              exact j5 (hO f (by omega))
    | succ i ih =>
      intro lv hl hf
      obtain ⟨f, rfl⟩ : ∃ g, f = g + 1 := ⟨f - 1, by omega⟩
      have := j_st (ih (f := f) (lv := lv + 1) (by omega) (by omega)) (fun q => prs_i) (by omega)
      have e : prs T n (f + 1) lv o = fun p => lpR (prs T n f (lv + 1) o) T n lv (if lv = 2 then 1 else 120) (prs T n f (lv + 1) o p) := by funext p; rw [prs_s, if_pos (by omega)]
      rw [e]; exact this
end JN
