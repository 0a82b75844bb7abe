/-! ===== small questions ===== -/
def losesA (F : Nat) (W : LW) (b : BB) (f : Int32) : Int32 := if inb f F then lossB W b (ix f) else -1
def gB (b : BB) (n w : Nat) : Int32 := if w < 6 then b w n else b 6 (w - 6)
def lim (G F w : Nat) : Nat := if w < 2 then G else if w < 6 then F else 1
theorem nor_t {p : Prop} : (¬ p ∨ p) = True := eq_true (Classical.em p).symm
section SM
variable {d : Nat} {M : Mem} {h h0 h1 h2 : Hp} {j : Jp} {r : Rp} {E : EE} {l G F A n : Nat} {W : LW} {b bt bm : BB} {Q : Option PV → Mem → Prop}
theorem Scr.ofL {h1 : Hp} (hl : l = 27 ∨ l = 32) (a : Lsc l h h1) : Scr h h1 := by
  refine ⟨fun x p => a.1 x (by unfold scrA at p; omega) (by unfold scrA at p; omega) (by unfold scrA at p; omega), fun i hi => ?_, fun i _ _ _ => by rw [a.1 113 (by omega) (by omega) (by omega)]⟩
  rcases hl with rfl | rfl
  · exact ⟨a.2 i hi, by rw [a.1 32 (by decide) (by decide) (by decide)]⟩
  · exact ⟨by rw [a.1 27 (by decide) (by decide) (by decide)], a.2 i hi⟩
theorem c_loses {f : Int32} (C : CC G F l W b h r E) (hQ : ∀ h', Scr h h' → Q (some (vi (losesA F W b f))) (mm h' j r E)) : WP (d + 4) 80 0 [some (vr 2), some (vi f)] [] (mm h j r E) Q := by
  have hS := C.S
  have e4 := C.rl
  have hr := hQ h Scr.rf
  unfold losesA at hQ hr
  simp only [k80_0, k80_1, k80_4, k80_5, k80_8, k80_11, k80_12, k80_15, k80_16, k80_17, k80_20, k80_23, k80_26, k80_27, mm_sI, mm_sJ, mm_sR, mm_cI, mm_cJ, mm_I, mm_J, mm_R, mm_K, mm_N, psh_s, psh_n, z_n, z_i, z_r, z_l, Nat.reduceAdd, Nat.reduceLeDiff, K2 hS, R2_0 hS, R2_1 hS, R2_2 hS, R2_6 hS, R2_8 hS, R2_11 hS, R2_12 hS, R2_13 hS, R2_15 hS, R2_16 hS, K3 hS, K11 hS, K19 hS, K27 hS, K32 hS, K37 hS, K98 hS, K99 hS, K100 hS, N37 hS, N98 hS, N99 hS, N100 hS, false_or, or_false, ne_eq, true_or, or_true, not_false_eq_true, Nat.reduceEqDiff, Nat.reduceLT, Nat.reduceLeDiff, Nat.reduceAdd, c_hasFrog C, b2i_0]
  by_cases c1 : inb f F
  case neg => simp only [eq_false c1, not_false_eq_true, if_true, if_false] at hr ⊢; exact hr
  simp only [eq_true c1, not_true_eq_false, if_false, if_true] at hQ ⊢
  obtain ⟨k, hk, rfl, hk2⟩ := inb_of c1
  rw [ix_n hk2] at hQ
  simp only [k80_0, k80_1, k80_4, k80_5, k80_8, k80_11, k80_12, k80_15, k80_16, k80_17, k80_20, k80_23, k80_26, k80_27, mm_sI, mm_sJ, mm_sR, mm_cI, mm_cJ, mm_I, mm_J, mm_R, mm_K, mm_N, psh_s, psh_n, z_n, z_i, z_r, z_l, Nat.reduceAdd, Nat.reduceLeDiff, K2 hS, R2_0 hS, R2_1 hS, R2_2 hS, R2_6 hS, R2_8 hS, R2_11 hS, R2_12 hS, R2_13 hS, R2_15 hS, R2_16 hS, K3 hS, K11 hS, K19 hS, K27 hS, K32 hS, K37 hS, K98 hS, K99 hS, K100 hS, N37 hS, N98 hS, N99 hS, N100 hS, false_or, or_false, ne_eq, true_or, or_true, not_false_eq_true, Nat.reduceEqDiff, Nat.reduceLT, Nat.reduceLeDiff, Nat.reduceAdd, e4]
  refine s_lossOf hS C.H3 C.HL C.L C.eG C.G8 C.F8 (by rcases C.il with h | h <;> omega) hk (by rw [C.eb]; exact C.w.a4 hk) ?_
  intro h1 s
  have := hQ h1 (Scr.ofL C.il s)
  simp only [k80_0, k80_1, k80_4, k80_5, k80_8, k80_11, k80_12, k80_15, k80_16, k80_17, k80_20, k80_23, k80_26, k80_27, mm_sI, mm_sJ, mm_sR, mm_cI, mm_cJ, mm_I, mm_J, mm_R, mm_K, mm_N, psh_s, psh_n, z_n, z_i, z_r, z_l, Nat.reduceAdd, Nat.reduceLeDiff, false_or, or_false, ne_eq, true_or, or_true, not_false_eq_true, Nat.reduceEqDiff, Nat.reduceLT, Nat.reduceLeDiff, Nat.reduceAdd]
  rw [C.eb]; exact this
/-- a number that is there -/
theorem isN_1 {n what : Int32} (h : isN G F n what ≠ 0) : ∃ n' w', n = nI n' ∧ what = nI w' ∧ w' ≤ 7 ∧ n' < lim G F w' ∧ n' < 2 ^ 31 := by
  rcases sw (n := 7) what with hs | ⟨k, hk, rfl⟩
  · exfalso
    have h2 : ∀ c, c ≤ 8 → ¬ inb what c := fun c hc hh => by have := inb_i hh; omega
    rw [isN, if_neg (h2 2 (by decide)), if_neg (h2 6 (by decide)), if_neg (h2 8 (by decide))] at h
    exact h rfl
  · rw [isN_n (by omega)] at h
    unfold lim
    by_cases k2 : k < 2
    · rw [if_pos k2] at h
      have : inb n G := Decidable.byContradiction fun hn => h (b2i_f hn)
      obtain ⟨m, hm, rfl, hm2⟩ := inb_of this
      exact ⟨m, k, rfl, rfl, hk, by rw [if_pos k2]; exact hm, hm2⟩
    · rw [if_neg k2] at h
      by_cases k6 : k < 6
      · rw [if_pos k6] at h
        have : inb n F := Decidable.byContradiction fun hn => h (b2i_f hn)
        obtain ⟨m, hm, rfl, hm2⟩ := inb_of this
        exact ⟨m, k, rfl, rfl, hk, by rw [if_neg k2, if_pos k6]; exact hm, hm2⟩
      · rw [if_neg k6, if_pos (by omega)] at h
        have : n = 0 := Decidable.byContradiction fun hn => h (b2i_f hn)
        exact ⟨0, k, this, rfl, hk, by rw [if_neg k2, if_neg k6]; decide, by decide⟩
theorem c_numberOf {n w : Nat} (C : CC G F l W b h r E) (hw : w ≤ 7) (hn : n < lim G F w) : WP d 29 0 [some (vr 3), some (vi (nI n)), some (vi (nI w))] [] (mm h j r E) Q = Q (some (vi (gB b n w))) (mm h j r E) := by
  have hS := C.S
  have hG8 := C.G8
  have hF8 := C.F8
  have n8 : n < 8 := by unfold lim at hn; split at hn; omega; split at hn <;> omega
  have hb : inb (nI n) 8 = True := eq_true (by rw [inb_n (by omega)]; omega)
  have hx : ix (nI n) = n := ix_n (by omega)
  unfold gB
  match w, hw with
  | 0, _ => have hn : n < G := hn; simp only [k29_0, k29_1c0, k29_1c1, k29_1c2, k29_1c3, k29_1c4, k29_1c5, k29_1c6, k29_1, k29_44, k29_45, k29_48, k29_49, k29_50, k29_51, k29_52, k29_55, k29_56, k29_57, k29_58, k29_59, k29_62, k29_63, k29_64, k29_65, k29_66, k29_69, k29_70, k29_71, k29_72, k29_73, k29_76, k29_77, k29_78, k29_79, k29_80, k29_83, k29_84, k29_85, k29_86, k29_87, k29_90, k29_91, k29_92, k29_95, mm_sI, mm_sJ, mm_sR, mm_cI, mm_cJ, mm_I, mm_J, mm_R, mm_K, mm_N, psh_s, psh_n, z_n, z_i, z_r, z_l, Nat.reduceAdd, Nat.reduceLeDiff, K2 hS, R2_0 hS, R2_1 hS, R2_2 hS, R2_6 hS, R2_8 hS, R2_11 hS, R2_12 hS, R2_13 hS, R2_15 hS, R2_16 hS, K3 hS, K11 hS, K19 hS, K27 hS, K32 hS, K37 hS, K98 hS, K99 hS, K100 hS, N37 hS, N98 hS, N99 hS, N100 hS, R3_0 hS, R3_1 hS, R3_2 hS, R3_3 hS, R3_4 hS, R3_5 hS, R3_6 hS, K4 hS, K5 hS, K6 hS, K7 hS, K8 hS, K9 hS, K10 hS, N4 hS, N5 hS, N6 hS, N7 hS, N8 hS, N9 hS, N10 hS, false_or, or_false, ne_eq, true_or, or_true, not_false_eq_true, Nat.reduceEqDiff, Nat.reduceLT, Nat.reduceLeDiff, Nat.reduceAdd, nn0, hb, hx, c_v0 C hn, if_true]
  | 1, _ => have hn : n < G := hn; simp only [k29_0, k29_1c0, k29_1c1, k29_1c2, k29_1c3, k29_1c4, k29_1c5, k29_1c6, k29_1, k29_44, k29_45, k29_48, k29_49, k29_50, k29_51, k29_52, k29_55, k29_56, k29_57, k29_58, k29_59, k29_62, k29_63, k29_64, k29_65, k29_66, k29_69, k29_70, k29_71, k29_72, k29_73, k29_76, k29_77, k29_78, k29_79, k29_80, k29_83, k29_84, k29_85, k29_86, k29_87, k29_90, k29_91, k29_92, k29_95, mm_sI, mm_sJ, mm_sR, mm_cI, mm_cJ, mm_I, mm_J, mm_R, mm_K, mm_N, psh_s, psh_n, z_n, z_i, z_r, z_l, Nat.reduceAdd, Nat.reduceLeDiff, K2 hS, R2_0 hS, R2_1 hS, R2_2 hS, R2_6 hS, R2_8 hS, R2_11 hS, R2_12 hS, R2_13 hS, R2_15 hS, R2_16 hS, K3 hS, K11 hS, K19 hS, K27 hS, K32 hS, K37 hS, K98 hS, K99 hS, K100 hS, N37 hS, N98 hS, N99 hS, N100 hS, R3_0 hS, R3_1 hS, R3_2 hS, R3_3 hS, R3_4 hS, R3_5 hS, R3_6 hS, K4 hS, K5 hS, K6 hS, K7 hS, K8 hS, K9 hS, K10 hS, N4 hS, N5 hS, N6 hS, N7 hS, N8 hS, N9 hS, N10 hS, false_or, or_false, ne_eq, true_or, or_true, not_false_eq_true, Nat.reduceEqDiff, Nat.reduceLT, Nat.reduceLeDiff, Nat.reduceAdd, nn1, hb, hx, c_v1 C hn, if_true]
  | 2, _ => have hn : n < F := hn; simp only [k29_0, k29_1c0, k29_1c1, k29_1c2, k29_1c3, k29_1c4, k29_1c5, k29_1c6, k29_1, k29_44, k29_45, k29_48, k29_49, k29_50, k29_51, k29_52, k29_55, k29_56, k29_57, k29_58, k29_59, k29_62, k29_63, k29_64, k29_65, k29_66, k29_69, k29_70, k29_71, k29_72, k29_73, k29_76, k29_77, k29_78, k29_79, k29_80, k29_83, k29_84, k29_85, k29_86, k29_87, k29_90, k29_91, k29_92, k29_95, mm_sI, mm_sJ, mm_sR, mm_cI, mm_cJ, mm_I, mm_J, mm_R, mm_K, mm_N, psh_s, psh_n, z_n, z_i, z_r, z_l, Nat.reduceAdd, Nat.reduceLeDiff, K2 hS, R2_0 hS, R2_1 hS, R2_2 hS, R2_6 hS, R2_8 hS, R2_11 hS, R2_12 hS, R2_13 hS, R2_15 hS, R2_16 hS, K3 hS, K11 hS, K19 hS, K27 hS, K32 hS, K37 hS, K98 hS, K99 hS, K100 hS, N37 hS, N98 hS, N99 hS, N100 hS, R3_0 hS, R3_1 hS, R3_2 hS, R3_3 hS, R3_4 hS, R3_5 hS, R3_6 hS, K4 hS, K5 hS, K6 hS, K7 hS, K8 hS, K9 hS, K10 hS, N4 hS, N5 hS, N6 hS, N7 hS, N8 hS, N9 hS, N10 hS, false_or, or_false, ne_eq, true_or, or_true, not_false_eq_true, Nat.reduceEqDiff, Nat.reduceLT, Nat.reduceLeDiff, Nat.reduceAdd, nn2, hb, hx, c_v2 C hn, if_true]
  | 3, _ => have hn : n < F := hn; simp only [k29_0, k29_1c0, k29_1c1, k29_1c2, k29_1c3, k29_1c4, k29_1c5, k29_1c6, k29_1, k29_44, k29_45, k29_48, k29_49, k29_50, k29_51, k29_52, k29_55, k29_56, k29_57, k29_58, k29_59, k29_62, k29_63, k29_64, k29_65, k29_66, k29_69, k29_70, k29_71, k29_72, k29_73, k29_76, k29_77, k29_78, k29_79, k29_80, k29_83, k29_84, k29_85, k29_86, k29_87, k29_90, k29_91, k29_92, k29_95, mm_sI, mm_sJ, mm_sR, mm_cI, mm_cJ, mm_I, mm_J, mm_R, mm_K, mm_N, psh_s, psh_n, z_n, z_i, z_r, z_l, Nat.reduceAdd, Nat.reduceLeDiff, K2 hS, R2_0 hS, R2_1 hS, R2_2 hS, R2_6 hS, R2_8 hS, R2_11 hS, R2_12 hS, R2_13 hS, R2_15 hS, R2_16 hS, K3 hS, K11 hS, K19 hS, K27 hS, K32 hS, K37 hS, K98 hS, K99 hS, K100 hS, N37 hS, N98 hS, N99 hS, N100 hS, R3_0 hS, R3_1 hS, R3_2 hS, R3_3 hS, R3_4 hS, R3_5 hS, R3_6 hS, K4 hS, K5 hS, K6 hS, K7 hS, K8 hS, K9 hS, K10 hS, N4 hS, N5 hS, N6 hS, N7 hS, N8 hS, N9 hS, N10 hS, false_or, or_false, ne_eq, true_or, or_true, not_false_eq_true, Nat.reduceEqDiff, Nat.reduceLT, Nat.reduceLeDiff, Nat.reduceAdd, nn3, hb, hx, c_v3 C hn, if_true]
  | 4, _ => have hn : n < F := hn; simp only [k29_0, k29_1c0, k29_1c1, k29_1c2, k29_1c3, k29_1c4, k29_1c5, k29_1c6, k29_1, k29_44, k29_45, k29_48, k29_49, k29_50, k29_51, k29_52, k29_55, k29_56, k29_57, k29_58, k29_59, k29_62, k29_63, k29_64, k29_65, k29_66, k29_69, k29_70, k29_71, k29_72, k29_73, k29_76, k29_77, k29_78, k29_79, k29_80, k29_83, k29_84, k29_85, k29_86, k29_87, k29_90, k29_91, k29_92, k29_95, mm_sI, mm_sJ, mm_sR, mm_cI, mm_cJ, mm_I, mm_J, mm_R, mm_K, mm_N, psh_s, psh_n, z_n, z_i, z_r, z_l, Nat.reduceAdd, Nat.reduceLeDiff, K2 hS, R2_0 hS, R2_1 hS, R2_2 hS, R2_6 hS, R2_8 hS, R2_11 hS, R2_12 hS, R2_13 hS, R2_15 hS, R2_16 hS, K3 hS, K11 hS, K19 hS, K27 hS, K32 hS, K37 hS, K98 hS, K99 hS, K100 hS, N37 hS, N98 hS, N99 hS, N100 hS, R3_0 hS, R3_1 hS, R3_2 hS, R3_3 hS, R3_4 hS, R3_5 hS, R3_6 hS, K4 hS, K5 hS, K6 hS, K7 hS, K8 hS, K9 hS, K10 hS, N4 hS, N5 hS, N6 hS, N7 hS, N8 hS, N9 hS, N10 hS, false_or, or_false, ne_eq, true_or, or_true, not_false_eq_true, Nat.reduceEqDiff, Nat.reduceLT, Nat.reduceLeDiff, Nat.reduceAdd, nn4, hb, hx, c_v4 C hn, if_true]
  | 5, _ => have hn : n < F := hn; simp only [k29_0, k29_1c0, k29_1c1, k29_1c2, k29_1c3, k29_1c4, k29_1c5, k29_1c6, k29_1, k29_44, k29_45, k29_48, k29_49, k29_50, k29_51, k29_52, k29_55, k29_56, k29_57, k29_58, k29_59, k29_62, k29_63, k29_64, k29_65, k29_66, k29_69, k29_70, k29_71, k29_72, k29_73, k29_76, k29_77, k29_78, k29_79, k29_80, k29_83, k29_84, k29_85, k29_86, k29_87, k29_90, k29_91, k29_92, k29_95, mm_sI, mm_sJ, mm_sR, mm_cI, mm_cJ, mm_I, mm_J, mm_R, mm_K, mm_N, psh_s, psh_n, z_n, z_i, z_r, z_l, Nat.reduceAdd, Nat.reduceLeDiff, K2 hS, R2_0 hS, R2_1 hS, R2_2 hS, R2_6 hS, R2_8 hS, R2_11 hS, R2_12 hS, R2_13 hS, R2_15 hS, R2_16 hS, K3 hS, K11 hS, K19 hS, K27 hS, K32 hS, K37 hS, K98 hS, K99 hS, K100 hS, N37 hS, N98 hS, N99 hS, N100 hS, R3_0 hS, R3_1 hS, R3_2 hS, R3_3 hS, R3_4 hS, R3_5 hS, R3_6 hS, K4 hS, K5 hS, K6 hS, K7 hS, K8 hS, K9 hS, K10 hS, N4 hS, N5 hS, N6 hS, N7 hS, N8 hS, N9 hS, N10 hS, false_or, or_false, ne_eq, true_or, or_true, not_false_eq_true, Nat.reduceEqDiff, Nat.reduceLT, Nat.reduceLeDiff, Nat.reduceAdd, nn5, hb, hx, c_v5 C hn, if_true]
  | 6, _ => simp only [k29_0, k29_1c0, k29_1c1, k29_1c2, k29_1c3, k29_1c4, k29_1c5, k29_1c6, k29_1, k29_44, k29_45, k29_48, k29_49, k29_50, k29_51, k29_52, k29_55, k29_56, k29_57, k29_58, k29_59, k29_62, k29_63, k29_64, k29_65, k29_66, k29_69, k29_70, k29_71, k29_72, k29_73, k29_76, k29_77, k29_78, k29_79, k29_80, k29_83, k29_84, k29_85, k29_86, k29_87, k29_90, k29_91, k29_92, k29_95, mm_sI, mm_sJ, mm_sR, mm_cI, mm_cJ, mm_I, mm_J, mm_R, mm_K, mm_N, psh_s, psh_n, z_n, z_i, z_r, z_l, Nat.reduceAdd, Nat.reduceLeDiff, K2 hS, R2_0 hS, R2_1 hS, R2_2 hS, R2_6 hS, R2_8 hS, R2_11 hS, R2_12 hS, R2_13 hS, R2_15 hS, R2_16 hS, K3 hS, K11 hS, K19 hS, K27 hS, K32 hS, K37 hS, K98 hS, K99 hS, K100 hS, N37 hS, N98 hS, N99 hS, N100 hS, R3_0 hS, R3_1 hS, R3_2 hS, R3_3 hS, R3_4 hS, R3_5 hS, R3_6 hS, K4 hS, K5 hS, K6 hS, K7 hS, K8 hS, K9 hS, K10 hS, N4 hS, N5 hS, N6 hS, N7 hS, N8 hS, N9 hS, N10 hS, false_or, or_false, ne_eq, true_or, or_true, not_false_eq_true, Nat.reduceEqDiff, Nat.reduceLT, Nat.reduceLeDiff, Nat.reduceAdd, nn6, hb, hx, c_vt C, Nat.lt_irrefl, if_false, Nat.sub_self]
  | 7, _ =>
    have k7 : ((7 : Int32).toInt < 0 ∨ 6 < (7 : Int32).toInt) := by decide
    simp only [k29_0, k29_1c0, k29_1c1, k29_1c2, k29_1c3, k29_1c4, k29_1c5, k29_1c6, k29_1, k29_44, k29_45, k29_48, k29_49, k29_50, k29_51, k29_52, k29_55, k29_56, k29_57, k29_58, k29_59, k29_62, k29_63, k29_64, k29_65, k29_66, k29_69, k29_70, k29_71, k29_72, k29_73, k29_76, k29_77, k29_78, k29_79, k29_80, k29_83, k29_84, k29_85, k29_86, k29_87, k29_90, k29_91, k29_92, k29_95, mm_sI, mm_sJ, mm_sR, mm_cI, mm_cJ, mm_I, mm_J, mm_R, mm_K, mm_N, psh_s, psh_n, z_n, z_i, z_r, z_l, Nat.reduceAdd, Nat.reduceLeDiff, K2 hS, R2_0 hS, R2_1 hS, R2_2 hS, R2_6 hS, R2_8 hS, R2_11 hS, R2_12 hS, R2_13 hS, R2_15 hS, R2_16 hS, K3 hS, K11 hS, K19 hS, K27 hS, K32 hS, K37 hS, K98 hS, K99 hS, K100 hS, N37 hS, N98 hS, N99 hS, N100 hS, R3_0 hS, R3_1 hS, R3_2 hS, R3_3 hS, R3_4 hS, R3_5 hS, R3_6 hS, K4 hS, K5 hS, K6 hS, K7 hS, K8 hS, K9 hS, K10 hS, N4 hS, N5 hS, N6 hS, N7 hS, N8 hS, N9 hS, N10 hS, false_or, or_false, ne_eq, true_or, or_true, not_false_eq_true, Nat.reduceEqDiff, Nat.reduceLT, Nat.reduceLeDiff, Nat.reduceAdd, nn7, k29_1 k7, hb, hx, c_vh C, show ¬ 7 < 6 by decide, if_false, show 7 - 6 = 1 by decide]
  | w + 8, hw => omega
def ofA (G F : Nat) (b : BB) (n what : Int32) : Int32 := if isN G F n what = 0 then -2000000000 else gB b (ix n) (ix what)
theorem c_hasNumber {n what : Int32} (C : CC G F l W b h r E) : WP (d + 2) 28 0 [some (vr 3), some (vi n), some (vi what)] [] (mm h j r E) Q = Q (some (vi (isN G F n what))) (mm h j r E) := s_hasNumber C.H3 C.G8 C.F8 C.eG C.eF
theorem c_of {n what : Int32} (C : CC G F l W b h r E) : WP (d + 3) 77 0 [some (vr 2), some (vi n), some (vi what)] [] (mm h j r E) Q = Q (some (vi (ofA G F b n what))) (mm h j r E) := by
  have hS := C.S
  unfold ofA
  simp only [k77_0, k77_1, k77_4, k77_5, k77_6, k77_9, k77_12, k77_13, k77_16, k77_17, k77_18, k77_21, k77_24, k77_26, mm_sI, mm_sJ, mm_sR, mm_cI, mm_cJ, mm_I, mm_J, mm_R, mm_K, mm_N, psh_s, psh_n, z_n, z_i, z_r, z_l, Nat.reduceAdd, Nat.reduceLeDiff, K2 hS, R2_0 hS, R2_1 hS, R2_2 hS, R2_6 hS, R2_8 hS, R2_11 hS, R2_12 hS, R2_13 hS, R2_15 hS, R2_16 hS, K3 hS, K11 hS, K19 hS, K27 hS, K32 hS, K37 hS, K98 hS, K99 hS, K100 hS, N37 hS, N98 hS, N99 hS, N100 hS, false_or, or_false, ne_eq, true_or, or_true, not_false_eq_true, Nat.reduceEqDiff, Nat.reduceLT, Nat.reduceLeDiff, Nat.reduceAdd, c_hasNumber C]
  by_cases c : isN G F n what = 0
  · simp only [c, if_true]
  · simp only [c, if_false]
    obtain ⟨n', w', rfl, rfl, hw, hn, h31⟩ := isN_1 c
    rw [ix_n h31, ix_n (by omega)]
    rw [c_numberOf C hw hn]
    simp only [k77_0, k77_1, k77_4, k77_5, k77_6, k77_9, k77_12, k77_13, k77_16, k77_17, k77_18, k77_21, k77_24, k77_26, mm_sI, mm_sJ, mm_sR, mm_cI, mm_cJ, mm_I, mm_J, mm_R, mm_K, mm_N, psh_s, psh_n, z_n, z_i, z_r, z_l, Nat.reduceAdd, Nat.reduceLeDiff, false_or, or_false, ne_eq, true_or, or_true, not_false_eq_true, Nat.reduceEqDiff, Nat.reduceLT, Nat.reduceLeDiff, Nat.reduceAdd]
end SM
