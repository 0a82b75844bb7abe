/-! ===== mending, undone and done again ===== -/
def sB (b : BB) (n w : Nat) (v : Int32) : BB := if w < 6 then up2 b w n v else up2 b 6 (w - 6) v
section MD2
variable {d : Nat} {M : Mem} {h h0 h1 h2 : Hp} {j : Jp} {r : Rp} {E : EE} {l G F A G' F' : Nat} {W : LW} {b bt bm b' : BB} {Q : Option PV → Mem → Prop}
theorem lim8 {n w : Nat} (hG8 : G ≤ 8) (hF8 : F ≤ 8) (hn : n < lim G F w) : n < 8 := by unfold lim at hn; split at hn; omega; split at hn <;> omega
theorem isN_t {n w : Nat} (hG8 : G ≤ 8) (hF8 : F ≤ 8) (hw : w ≤ 7) (hn : n < lim G F w) : isN G F (nI n) (nI w) = 1 := by
  have n8 := lim8 hG8 hF8 hn
  rw [isN_n (by omega)]
  unfold lim at hn
  by_cases w2 : w < 2
  · rw [if_pos w2] at hn ⊢; exact b2i_t (by rw [inb_n (by omega)]; exact hn)
  · rw [if_neg w2] at hn ⊢
    by_cases w6 : w < 6
    · rw [if_pos w6] at hn ⊢; exact b2i_t (by rw [inb_n (by omega)]; exact hn)
    · rw [if_neg w6] at hn ⊢
      rw [if_pos (by omega)]
      exact b2i_t (by rw [show n = 0 by omega]; rfl)
theorem WF.sB {n w : Nat} {v : Int32} (wf : WF G F b) (ho : okc G w v) : WF G F (sB b n w v) := by
  unfold _root_.Jvm.Pilot.CFrogBreathLaw_law_r9070_616874.sB
  split
  · exact wf.up ho
  · refine wf.up (k := 6) ?_
    unfold okc at ho ⊢
    rw [if_neg (by omega), if_neg (by omega), if_neg (by omega), if_neg (by omega), if_neg (by omega), if_neg (by omega)] at ho
    exact ho
theorem c_mayBe {w : Nat} {v : Int32} {Q : Option PV → Mem → Prop} (C : CC G F l W b h r E) (hw : w ≤ 7) (q1 : okc G w v → Q (some (vi 1)) (mm h j r E)) (q2 : ¬ okc G w v → Q (some (vi 0)) (mm h j r E)) : WP (d + 2) 76 0 [some (vr 2), some (vi (nI w)), some (vi v)] [] (mm h j r E) Q := by
  have hS := C.S
  have h35 : b2i (0 ≤ v ∧ v ≤ 35) = b2i (inb v 36) := b2i_c in_35
  have h9 : b2i (0 ≤ v ∧ v ≤ 9) = b2i (inb v 10) := b2i_c in_9
  have h99 : b2i (0 ≤ v ∧ v ≤ 99) = b2i (inb v 100) := b2i_c in_99
  have h11 : b2i (0 ≤ v ∧ v ≤ 11) = b2i (inb v 12) := b2i_c in_11
  have fin : ∀ n : Nat, (okc G w v ↔ inb v n) → Q (some (vi (b2i (inb v n)))) (mm h j r E) := by
    intro n e
    by_cases c : inb v n
    · rw [b2i_t c]; exact q1 (e.2 c)
    · rw [b2i_f c]; exact q2 (fun hh => c (e.1 hh))
  match w, hw with
  | 0, _ => simp only [k76_0, k76_1c0, k76_1c1, k76_1c2, k76_1c3, k76_1c4, k76_1c5, k76_1c6, k76_1c7, k76_1, k76_48, k76_49, k76_50, k76_52, k76_55, k76_56, k76_57, k76_58, k76_60, k76_63, k76_64, k76_65, k76_66, k76_68, k76_71, k76_72, k76_73, k76_74, k76_77, k76_78, k76_81, k76_82, k76_85, k76_88, k76_89, k76_92, k76_93, k76_94, k76_95, k76_96, k76_98, k76_101, k76_102, k76_103, mm_sI, mm_sJ, mm_sR, mm_cI, mm_cJ, mm_I, mm_J, mm_R, mm_K, mm_N, psh_s, psh_n, z_n, z_i, z_r, z_l, Nat.reduceAdd, Nat.reduceLeDiff, K2 hS, R2_0 hS, R2_1 hS, R2_2 hS, R2_6 hS, R2_8 hS, R2_11 hS, R2_12 hS, R2_13 hS, R2_15 hS, R2_16 hS, K3 hS, K11 hS, K19 hS, K27 hS, K32 hS, K37 hS, K98 hS, K99 hS, K100 hS, N37 hS, N98 hS, N99 hS, N100 hS, false_or, or_false, ne_eq, true_or, or_true, not_false_eq_true, Nat.reduceEqDiff, Nat.reduceLT, Nat.reduceLeDiff, Nat.reduceAdd, nn0, s_within, h35, b2i_01]; exact fin 36 Iff.rfl
  | 1, _ => simp only [k76_0, k76_1c0, k76_1c1, k76_1c2, k76_1c3, k76_1c4, k76_1c5, k76_1c6, k76_1c7, k76_1, k76_48, k76_49, k76_50, k76_52, k76_55, k76_56, k76_57, k76_58, k76_60, k76_63, k76_64, k76_65, k76_66, k76_68, k76_71, k76_72, k76_73, k76_74, k76_77, k76_78, k76_81, k76_82, k76_85, k76_88, k76_89, k76_92, k76_93, k76_94, k76_95, k76_96, k76_98, k76_101, k76_102, k76_103, mm_sI, mm_sJ, mm_sR, mm_cI, mm_cJ, mm_I, mm_J, mm_R, mm_K, mm_N, psh_s, psh_n, z_n, z_i, z_r, z_l, Nat.reduceAdd, Nat.reduceLeDiff, K2 hS, R2_0 hS, R2_1 hS, R2_2 hS, R2_6 hS, R2_8 hS, R2_11 hS, R2_12 hS, R2_13 hS, R2_15 hS, R2_16 hS, K3 hS, K11 hS, K19 hS, K27 hS, K32 hS, K37 hS, K98 hS, K99 hS, K100 hS, N37 hS, N98 hS, N99 hS, N100 hS, false_or, or_false, ne_eq, true_or, or_true, not_false_eq_true, Nat.reduceEqDiff, Nat.reduceLT, Nat.reduceLeDiff, Nat.reduceAdd, nn1, s_within, h99, b2i_01]; exact fin 100 Iff.rfl
  | 2, _ => simp only [k76_0, k76_1c0, k76_1c1, k76_1c2, k76_1c3, k76_1c4, k76_1c5, k76_1c6, k76_1c7, k76_1, k76_48, k76_49, k76_50, k76_52, k76_55, k76_56, k76_57, k76_58, k76_60, k76_63, k76_64, k76_65, k76_66, k76_68, k76_71, k76_72, k76_73, k76_74, k76_77, k76_78, k76_81, k76_82, k76_85, k76_88, k76_89, k76_92, k76_93, k76_94, k76_95, k76_96, k76_98, k76_101, k76_102, k76_103, mm_sI, mm_sJ, mm_sR, mm_cI, mm_cJ, mm_I, mm_J, mm_R, mm_K, mm_N, psh_s, psh_n, z_n, z_i, z_r, z_l, Nat.reduceAdd, Nat.reduceLeDiff, K2 hS, R2_0 hS, R2_1 hS, R2_2 hS, R2_6 hS, R2_8 hS, R2_11 hS, R2_12 hS, R2_13 hS, R2_15 hS, R2_16 hS, K3 hS, K11 hS, K19 hS, K27 hS, K32 hS, K37 hS, K98 hS, K99 hS, K100 hS, N37 hS, N98 hS, N99 hS, N100 hS, false_or, or_false, ne_eq, true_or, or_true, not_false_eq_true, Nat.reduceEqDiff, Nat.reduceLT, Nat.reduceLeDiff, Nat.reduceAdd, nn2, s_within, h35, b2i_01]; exact fin 36 Iff.rfl
  | 3, _ => simp only [k76_0, k76_1c0, k76_1c1, k76_1c2, k76_1c3, k76_1c4, k76_1c5, k76_1c6, k76_1c7, k76_1, k76_48, k76_49, k76_50, k76_52, k76_55, k76_56, k76_57, k76_58, k76_60, k76_63, k76_64, k76_65, k76_66, k76_68, k76_71, k76_72, k76_73, k76_74, k76_77, k76_78, k76_81, k76_82, k76_85, k76_88, k76_89, k76_92, k76_93, k76_94, k76_95, k76_96, k76_98, k76_101, k76_102, k76_103, mm_sI, mm_sJ, mm_sR, mm_cI, mm_cJ, mm_I, mm_J, mm_R, mm_K, mm_N, psh_s, psh_n, z_n, z_i, z_r, z_l, Nat.reduceAdd, Nat.reduceLeDiff, K2 hS, R2_0 hS, R2_1 hS, R2_2 hS, R2_6 hS, R2_8 hS, R2_11 hS, R2_12 hS, R2_13 hS, R2_15 hS, R2_16 hS, K3 hS, K11 hS, K19 hS, K27 hS, K32 hS, K37 hS, K98 hS, K99 hS, K100 hS, N37 hS, N98 hS, N99 hS, N100 hS, false_or, or_false, ne_eq, true_or, or_true, not_false_eq_true, Nat.reduceEqDiff, Nat.reduceLT, Nat.reduceLeDiff, Nat.reduceAdd, nn3, s_within, h9, b2i_01]; exact fin 10 Iff.rfl
  | 5, _ => simp only [k76_0, k76_1c0, k76_1c1, k76_1c2, k76_1c3, k76_1c4, k76_1c5, k76_1c6, k76_1c7, k76_1, k76_48, k76_49, k76_50, k76_52, k76_55, k76_56, k76_57, k76_58, k76_60, k76_63, k76_64, k76_65, k76_66, k76_68, k76_71, k76_72, k76_73, k76_74, k76_77, k76_78, k76_81, k76_82, k76_85, k76_88, k76_89, k76_92, k76_93, k76_94, k76_95, k76_96, k76_98, k76_101, k76_102, k76_103, mm_sI, mm_sJ, mm_sR, mm_cI, mm_cJ, mm_I, mm_J, mm_R, mm_K, mm_N, psh_s, psh_n, z_n, z_i, z_r, z_l, Nat.reduceAdd, Nat.reduceLeDiff, K2 hS, R2_0 hS, R2_1 hS, R2_2 hS, R2_6 hS, R2_8 hS, R2_11 hS, R2_12 hS, R2_13 hS, R2_15 hS, R2_16 hS, K3 hS, K11 hS, K19 hS, K27 hS, K32 hS, K37 hS, K98 hS, K99 hS, K100 hS, N37 hS, N98 hS, N99 hS, N100 hS, false_or, or_false, ne_eq, true_or, or_true, not_false_eq_true, Nat.reduceEqDiff, Nat.reduceLT, Nat.reduceLeDiff, Nat.reduceAdd, nn5, s_within, h99, b2i_01]; exact fin 100 Iff.rfl
  | 6, _ => simp only [k76_0, k76_1c0, k76_1c1, k76_1c2, k76_1c3, k76_1c4, k76_1c5, k76_1c6, k76_1c7, k76_1, k76_48, k76_49, k76_50, k76_52, k76_55, k76_56, k76_57, k76_58, k76_60, k76_63, k76_64, k76_65, k76_66, k76_68, k76_71, k76_72, k76_73, k76_74, k76_77, k76_78, k76_81, k76_82, k76_85, k76_88, k76_89, k76_92, k76_93, k76_94, k76_95, k76_96, k76_98, k76_101, k76_102, k76_103, mm_sI, mm_sJ, mm_sR, mm_cI, mm_cJ, mm_I, mm_J, mm_R, mm_K, mm_N, psh_s, psh_n, z_n, z_i, z_r, z_l, Nat.reduceAdd, Nat.reduceLeDiff, K2 hS, R2_0 hS, R2_1 hS, R2_2 hS, R2_6 hS, R2_8 hS, R2_11 hS, R2_12 hS, R2_13 hS, R2_15 hS, R2_16 hS, K3 hS, K11 hS, K19 hS, K27 hS, K32 hS, K37 hS, K98 hS, K99 hS, K100 hS, N37 hS, N98 hS, N99 hS, N100 hS, false_or, or_false, ne_eq, true_or, or_true, not_false_eq_true, Nat.reduceEqDiff, Nat.reduceLT, Nat.reduceLeDiff, Nat.reduceAdd, nn6, s_within, h11, b2i_01]; exact fin 12 Iff.rfl
  | 7, _ => simp only [k76_0, k76_1c0, k76_1c1, k76_1c2, k76_1c3, k76_1c4, k76_1c5, k76_1c6, k76_1c7, k76_1, k76_48, k76_49, k76_50, k76_52, k76_55, k76_56, k76_57, k76_58, k76_60, k76_63, k76_64, k76_65, k76_66, k76_68, k76_71, k76_72, k76_73, k76_74, k76_77, k76_78, k76_81, k76_82, k76_85, k76_88, k76_89, k76_92, k76_93, k76_94, k76_95, k76_96, k76_98, k76_101, k76_102, k76_103, mm_sI, mm_sJ, mm_sR, mm_cI, mm_cJ, mm_I, mm_J, mm_R, mm_K, mm_N, psh_s, psh_n, z_n, z_i, z_r, z_l, Nat.reduceAdd, Nat.reduceLeDiff, K2 hS, R2_0 hS, R2_1 hS, R2_2 hS, R2_6 hS, R2_8 hS, R2_11 hS, R2_12 hS, R2_13 hS, R2_15 hS, R2_16 hS, K3 hS, K11 hS, K19 hS, K27 hS, K32 hS, K37 hS, K98 hS, K99 hS, K100 hS, N37 hS, N98 hS, N99 hS, N100 hS, false_or, or_false, ne_eq, true_or, or_true, not_false_eq_true, Nat.reduceEqDiff, Nat.reduceLT, Nat.reduceLeDiff, Nat.reduceAdd, nn7, s_within, h11, b2i_01]; exact fin 12 Iff.rfl
  | 4, _ =>
    simp only [k76_0, k76_1c0, k76_1c1, k76_1c2, k76_1c3, k76_1c4, k76_1c5, k76_1c6, k76_1c7, k76_1, k76_48, k76_49, k76_50, k76_52, k76_55, k76_56, k76_57, k76_58, k76_60, k76_63, k76_64, k76_65, k76_66, k76_68, k76_71, k76_72, k76_73, k76_74, k76_77, k76_78, k76_81, k76_82, k76_85, k76_88, k76_89, k76_92, k76_93, k76_94, k76_95, k76_96, k76_98, k76_101, k76_102, k76_103, mm_sI, mm_sJ, mm_sR, mm_cI, mm_cJ, mm_I, mm_J, mm_R, mm_K, mm_N, psh_s, psh_n, z_n, z_i, z_r, z_l, Nat.reduceAdd, Nat.reduceLeDiff, K2 hS, R2_0 hS, R2_1 hS, R2_2 hS, R2_6 hS, R2_8 hS, R2_11 hS, R2_12 hS, R2_13 hS, R2_15 hS, R2_16 hS, K3 hS, K11 hS, K19 hS, K27 hS, K32 hS, K37 hS, K98 hS, K99 hS, K100 hS, N37 hS, N98 hS, N99 hS, N100 hS, false_or, or_false, ne_eq, true_or, or_true, not_false_eq_true, Nat.reduceEqDiff, Nat.reduceLT, Nat.reduceLeDiff, Nat.reduceAdd, nn4]
    by_cases c : v = -1
    · simp only [c, if_true]; exact q1 (Or.inl c)
    · simp only [c, if_false, mk0 C.H3, c_hasGirl C, b2i_0]
      simp only [k76_0, k76_1c0, k76_1c1, k76_1c2, k76_1c3, k76_1c4, k76_1c5, k76_1c6, k76_1c7, k76_1, k76_48, k76_49, k76_50, k76_52, k76_55, k76_56, k76_57, k76_58, k76_60, k76_63, k76_64, k76_65, k76_66, k76_68, k76_71, k76_72, k76_73, k76_74, k76_77, k76_78, k76_81, k76_82, k76_85, k76_88, k76_89, k76_92, k76_93, k76_94, k76_95, k76_96, k76_98, k76_101, k76_102, k76_103, mm_sI, mm_sJ, mm_sR, mm_cI, mm_cJ, mm_I, mm_J, mm_R, mm_K, mm_N, psh_s, psh_n, z_n, z_i, z_r, z_l, Nat.reduceAdd, Nat.reduceLeDiff, K2 hS, R2_0 hS, R2_1 hS, R2_2 hS, R2_6 hS, R2_8 hS, R2_11 hS, R2_12 hS, R2_13 hS, R2_15 hS, R2_16 hS, K3 hS, K11 hS, K19 hS, K27 hS, K32 hS, K37 hS, K98 hS, K99 hS, K100 hS, N37 hS, N98 hS, N99 hS, N100 hS, false_or, or_false, ne_eq, true_or, or_true, not_false_eq_true, Nat.reduceEqDiff, Nat.reduceLT, Nat.reduceLeDiff, Nat.reduceAdd, c_hasGirl C, b2i_0]
      by_cases c2 : inb v G
      · simp only [eq_true c2, not_true_eq_false, if_false]; exact q1 (Or.inr c2)
      · simp only [eq_false c2, not_false_eq_true, if_true]; exact q2 (fun hh => hh.elim c c2)
  | w + 8, hw => omega
theorem FC.of3 (e : ∀ a, ¬ (3 ≤ a ∧ a ≤ 9) → h1 a = h a) : FC h h1 := ⟨fun a _ q => e a (by omega), fun i _ => ⟨by rw [e 27 (by omega)], by rw [e 32 (by omega)]⟩, fun i _ _ _ => by rw [e 113 (by omega)]⟩
theorem c_become {n w : Nat} {v : Int32} (C : CC G F l W b h r E) (hw : w ≤ 7) (hn : n < lim G F w) (ho : okc G w v) (hQ : ∀ h1, (∀ a, ¬ (3 ≤ a ∧ a ≤ 9) → h1 a = h a) → CC G F l W (sB b n w v) h1 r E → Q none (mm h1 j r E)) :
    WP (d + 3) 30 0 [some (vr 3), some (vi (nI n)), some (vi (nI w)), some (vi v)] [] (mm h j r E) Q := by
  have hS := C.S
  have hG8 := C.G8
  have hF8 := C.F8
  have n8 := lim8 hG8 hF8 hn
  have hb : inb (nI n) 8 = True := eq_true (by rw [inb_n (by omega)]; omega)
  have hx : ix (nI n) = n := ix_n (by omega)
  have wf := C.w.sB (n := n) ho
  have go : ∀ h1, (∀ a, ¬ (3 ≤ a ∧ a ≤ 9) → h1 a = h a) → h1 3 7 = h 3 7 → h1 3 8 = h 3 8 → bC h1 3 G F = sB b n w v → Q none (mm h1 j r E) := fun h1 e g1 g2 g3 => hQ h1 e (C.mk (FC.of3 e) (g1.trans C.eG) (g2.trans C.eF) hG8 hF8 g3 wf)
  simp only [k30_0, k30_1, k30_2, k30_3, k30_6, k30_9, k30_10, k30_11c0, k30_11c1, k30_11c2, k30_11c3, k30_11c4, k30_11c5, k30_11c6, k30_11, k30_52, k30_53, k30_56, k30_57, k30_58, k30_59, k30_62, k30_63, k30_66, k30_67, k30_68, k30_69, k30_72, k30_73, k30_76, k30_77, k30_78, k30_79, k30_82, k30_83, k30_86, k30_87, k30_88, k30_89, k30_92, k30_93, k30_96, k30_97, k30_98, k30_99, k30_102, k30_103, k30_106, k30_107, k30_108, k30_109, k30_112, k30_113, k30_114, k30_117, k30_120, k30_121, k30_122, k30_125, mm_sI, mm_sJ, mm_sR, mm_cI, mm_cJ, mm_I, mm_J, mm_R, mm_K, mm_N, psh_s, psh_n, z_n, z_i, z_r, z_l, Nat.reduceAdd, Nat.reduceLeDiff, K2 hS, R2_0 hS, R2_1 hS, R2_2 hS, R2_6 hS, R2_8 hS, R2_11 hS, R2_12 hS, R2_13 hS, R2_15 hS, R2_16 hS, K3 hS, K11 hS, K19 hS, K27 hS, K32 hS, K37 hS, K98 hS, K99 hS, K100 hS, N37 hS, N98 hS, N99 hS, N100 hS, false_or, or_false, ne_eq, true_or, or_true, not_false_eq_true, Nat.reduceEqDiff, Nat.reduceLT, Nat.reduceLeDiff, Nat.reduceAdd, c_hasNumber C, isN_t hG8 hF8 hw hn, e10, if_false]
  match w, hw, hn, go with
  | 0, _, hn, go =>
    have hn' : n < G := hn
    simp only [k30_0, k30_1, k30_2, k30_3, k30_6, k30_9, k30_10, k30_11c0, k30_11c1, k30_11c2, k30_11c3, k30_11c4, k30_11c5, k30_11c6, k30_11, k30_52, k30_53, k30_56, k30_57, k30_58, k30_59, k30_62, k30_63, k30_66, k30_67, k30_68, k30_69, k30_72, k30_73, k30_76, k30_77, k30_78, k30_79, k30_82, k30_83, k30_86, k30_87, k30_88, k30_89, k30_92, k30_93, k30_96, k30_97, k30_98, k30_99, k30_102, k30_103, k30_106, k30_107, k30_108, k30_109, k30_112, k30_113, k30_114, k30_117, k30_120, k30_121, k30_122, k30_125, mm_sI, mm_sJ, mm_sR, mm_cI, mm_cJ, mm_I, mm_J, mm_R, mm_K, mm_N, psh_s, psh_n, z_n, z_i, z_r, z_l, Nat.reduceAdd, Nat.reduceLeDiff, K2 hS, R2_0 hS, R2_1 hS, R2_2 hS, R2_6 hS, R2_8 hS, R2_11 hS, R2_12 hS, R2_13 hS, R2_15 hS, R2_16 hS, K3 hS, K11 hS, K19 hS, K27 hS, K32 hS, K37 hS, K98 hS, K99 hS, K100 hS, N37 hS, N98 hS, N99 hS, N100 hS, R3_0 hS, R3_1 hS, R3_2 hS, R3_3 hS, R3_4 hS, R3_5 hS, R3_6 hS, K4 hS, K5 hS, K6 hS, K7 hS, K8 hS, K9 hS, K10 hS, N4 hS, N5 hS, N6 hS, N7 hS, N8 hS, N9 hS, N10 hS, false_or, or_false, ne_eq, true_or, or_true, not_false_eq_true, Nat.reduceEqDiff, Nat.reduceLT, Nat.reduceLeDiff, Nat.reduceAdd, nn0, hb, hx]
    refine go _ (fun a ha => by rw [up2_a (by omega)]) (by rw [up2_a (by decide)]) (by rw [up2_a (by decide)]) ?_
    have q := @bCw0 h 3 n G F v hn'
    rw [show (3 + 1 : Nat) = 4 from rfl] at q
    rw [q, C.eb]; rfl
  | 1, _, hn, go =>
    have hn' : n < G := hn
    simp only [k30_0, k30_1, k30_2, k30_3, k30_6, k30_9, k30_10, k30_11c0, k30_11c1, k30_11c2, k30_11c3, k30_11c4, k30_11c5, k30_11c6, k30_11, k30_52, k30_53, k30_56, k30_57, k30_58, k30_59, k30_62, k30_63, k30_66, k30_67, k30_68, k30_69, k30_72, k30_73, k30_76, k30_77, k30_78, k30_79, k30_82, k30_83, k30_86, k30_87, k30_88, k30_89, k30_92, k30_93, k30_96, k30_97, k30_98, k30_99, k30_102, k30_103, k30_106, k30_107, k30_108, k30_109, k30_112, k30_113, k30_114, k30_117, k30_120, k30_121, k30_122, k30_125, mm_sI, mm_sJ, mm_sR, mm_cI, mm_cJ, mm_I, mm_J, mm_R, mm_K, mm_N, psh_s, psh_n, z_n, z_i, z_r, z_l, Nat.reduceAdd, Nat.reduceLeDiff, K2 hS, R2_0 hS, R2_1 hS, R2_2 hS, R2_6 hS, R2_8 hS, R2_11 hS, R2_12 hS, R2_13 hS, R2_15 hS, R2_16 hS, K3 hS, K11 hS, K19 hS, K27 hS, K32 hS, K37 hS, K98 hS, K99 hS, K100 hS, N37 hS, N98 hS, N99 hS, N100 hS, R3_0 hS, R3_1 hS, R3_2 hS, R3_3 hS, R3_4 hS, R3_5 hS, R3_6 hS, K4 hS, K5 hS, K6 hS, K7 hS, K8 hS, K9 hS, K10 hS, N4 hS, N5 hS, N6 hS, N7 hS, N8 hS, N9 hS, N10 hS, false_or, or_false, ne_eq, true_or, or_true, not_false_eq_true, Nat.reduceEqDiff, Nat.reduceLT, Nat.reduceLeDiff, Nat.reduceAdd, nn1, hb, hx]
    refine go _ (fun a ha => by rw [up2_a (by omega)]) (by rw [up2_a (by decide)]) (by rw [up2_a (by decide)]) ?_
    have q := @bCw1 h 3 n G F v hn'
    rw [show (3 + 2 : Nat) = 5 from rfl] at q
    rw [q, C.eb]; rfl
  | 2, _, hn, go =>
    have hn' : n < F := hn
    simp only [k30_0, k30_1, k30_2, k30_3, k30_6, k30_9, k30_10, k30_11c0, k30_11c1, k30_11c2, k30_11c3, k30_11c4, k30_11c5, k30_11c6, k30_11, k30_52, k30_53, k30_56, k30_57, k30_58, k30_59, k30_62, k30_63, k30_66, k30_67, k30_68, k30_69, k30_72, k30_73, k30_76, k30_77, k30_78, k30_79, k30_82, k30_83, k30_86, k30_87, k30_88, k30_89, k30_92, k30_93, k30_96, k30_97, k30_98, k30_99, k30_102, k30_103, k30_106, k30_107, k30_108, k30_109, k30_112, k30_113, k30_114, k30_117, k30_120, k30_121, k30_122, k30_125, mm_sI, mm_sJ, mm_sR, mm_cI, mm_cJ, mm_I, mm_J, mm_R, mm_K, mm_N, psh_s, psh_n, z_n, z_i, z_r, z_l, Nat.reduceAdd, Nat.reduceLeDiff, K2 hS, R2_0 hS, R2_1 hS, R2_2 hS, R2_6 hS, R2_8 hS, R2_11 hS, R2_12 hS, R2_13 hS, R2_15 hS, R2_16 hS, K3 hS, K11 hS, K19 hS, K27 hS, K32 hS, K37 hS, K98 hS, K99 hS, K100 hS, N37 hS, N98 hS, N99 hS, N100 hS, R3_0 hS, R3_1 hS, R3_2 hS, R3_3 hS, R3_4 hS, R3_5 hS, R3_6 hS, K4 hS, K5 hS, K6 hS, K7 hS, K8 hS, K9 hS, K10 hS, N4 hS, N5 hS, N6 hS, N7 hS, N8 hS, N9 hS, N10 hS, false_or, or_false, ne_eq, true_or, or_true, not_false_eq_true, Nat.reduceEqDiff, Nat.reduceLT, Nat.reduceLeDiff, Nat.reduceAdd, nn2, hb, hx]
    refine go _ (fun a ha => by rw [up2_a (by omega)]) (by rw [up2_a (by decide)]) (by rw [up2_a (by decide)]) ?_
    have q := @bCw2 h 3 n G F v hn'
    rw [show (3 + 3 : Nat) = 6 from rfl] at q
    rw [q, C.eb]; rfl
  | 3, _, hn, go =>
    have hn' : n < F := hn
    simp only [k30_0, k30_1, k30_2, k30_3, k30_6, k30_9, k30_10, k30_11c0, k30_11c1, k30_11c2, k30_11c3, k30_11c4, k30_11c5, k30_11c6, k30_11, k30_52, k30_53, k30_56, k30_57, k30_58, k30_59, k30_62, k30_63, k30_66, k30_67, k30_68, k30_69, k30_72, k30_73, k30_76, k30_77, k30_78, k30_79, k30_82, k30_83, k30_86, k30_87, k30_88, k30_89, k30_92, k30_93, k30_96, k30_97, k30_98, k30_99, k30_102, k30_103, k30_106, k30_107, k30_108, k30_109, k30_112, k30_113, k30_114, k30_117, k30_120, k30_121, k30_122, k30_125, mm_sI, mm_sJ, mm_sR, mm_cI, mm_cJ, mm_I, mm_J, mm_R, mm_K, mm_N, psh_s, psh_n, z_n, z_i, z_r, z_l, Nat.reduceAdd, Nat.reduceLeDiff, K2 hS, R2_0 hS, R2_1 hS, R2_2 hS, R2_6 hS, R2_8 hS, R2_11 hS, R2_12 hS, R2_13 hS, R2_15 hS, R2_16 hS, K3 hS, K11 hS, K19 hS, K27 hS, K32 hS, K37 hS, K98 hS, K99 hS, K100 hS, N37 hS, N98 hS, N99 hS, N100 hS, R3_0 hS, R3_1 hS, R3_2 hS, R3_3 hS, R3_4 hS, R3_5 hS, R3_6 hS, K4 hS, K5 hS, K6 hS, K7 hS, K8 hS, K9 hS, K10 hS, N4 hS, N5 hS, N6 hS, N7 hS, N8 hS, N9 hS, N10 hS, false_or, or_false, ne_eq, true_or, or_true, not_false_eq_true, Nat.reduceEqDiff, Nat.reduceLT, Nat.reduceLeDiff, Nat.reduceAdd, nn3, hb, hx]
    refine go _ (fun a ha => by rw [up2_a (by omega)]) (by rw [up2_a (by decide)]) (by rw [up2_a (by decide)]) ?_
    have q := @bCw3 h 3 n G F v hn'
    rw [show (3 + 4 : Nat) = 7 from rfl] at q
    rw [q, C.eb]; rfl
  | 4, _, hn, go =>
    have hn' : n < F := hn
    simp only [k30_0, k30_1, k30_2, k30_3, k30_6, k30_9, k30_10, k30_11c0, k30_11c1, k30_11c2, k30_11c3, k30_11c4, k30_11c5, k30_11c6, k30_11, k30_52, k30_53, k30_56, k30_57, k30_58, k30_59, k30_62, k30_63, k30_66, k30_67, k30_68, k30_69, k30_72, k30_73, k30_76, k30_77, k30_78, k30_79, k30_82, k30_83, k30_86, k30_87, k30_88, k30_89, k30_92, k30_93, k30_96, k30_97, k30_98, k30_99, k30_102, k30_103, k30_106, k30_107, k30_108, k30_109, k30_112, k30_113, k30_114, k30_117, k30_120, k30_121, k30_122, k30_125, mm_sI, mm_sJ, mm_sR, mm_cI, mm_cJ, mm_I, mm_J, mm_R, mm_K, mm_N, psh_s, psh_n, z_n, z_i, z_r, z_l, Nat.reduceAdd, Nat.reduceLeDiff, K2 hS, R2_0 hS, R2_1 hS, R2_2 hS, R2_6 hS, R2_8 hS, R2_11 hS, R2_12 hS, R2_13 hS, R2_15 hS, R2_16 hS, K3 hS, K11 hS, K19 hS, K27 hS, K32 hS, K37 hS, K98 hS, K99 hS, K100 hS, N37 hS, N98 hS, N99 hS, N100 hS, R3_0 hS, R3_1 hS, R3_2 hS, R3_3 hS, R3_4 hS, R3_5 hS, R3_6 hS, K4 hS, K5 hS, K6 hS, K7 hS, K8 hS, K9 hS, K10 hS, N4 hS, N5 hS, N6 hS, N7 hS, N8 hS, N9 hS, N10 hS, false_or, or_false, ne_eq, true_or, or_true, not_false_eq_true, Nat.reduceEqDiff, Nat.reduceLT, Nat.reduceLeDiff, Nat.reduceAdd, nn4, hb, hx]
    refine go _ (fun a ha => by rw [up2_a (by omega)]) (by rw [up2_a (by decide)]) (by rw [up2_a (by decide)]) ?_
    have q := @bCw4 h 3 n G F v hn'
    rw [show (3 + 5 : Nat) = 8 from rfl] at q
    rw [q, C.eb]; rfl
  | 5, _, hn, go =>
    have hn' : n < F := hn
    simp only [k30_0, k30_1, k30_2, k30_3, k30_6, k30_9, k30_10, k30_11c0, k30_11c1, k30_11c2, k30_11c3, k30_11c4, k30_11c5, k30_11c6, k30_11, k30_52, k30_53, k30_56, k30_57, k30_58, k30_59, k30_62, k30_63, k30_66, k30_67, k30_68, k30_69, k30_72, k30_73, k30_76, k30_77, k30_78, k30_79, k30_82, k30_83, k30_86, k30_87, k30_88, k30_89, k30_92, k30_93, k30_96, k30_97, k30_98, k30_99, k30_102, k30_103, k30_106, k30_107, k30_108, k30_109, k30_112, k30_113, k30_114, k30_117, k30_120, k30_121, k30_122, k30_125, mm_sI, mm_sJ, mm_sR, mm_cI, mm_cJ, mm_I, mm_J, mm_R, mm_K, mm_N, psh_s, psh_n, z_n, z_i, z_r, z_l, Nat.reduceAdd, Nat.reduceLeDiff, K2 hS, R2_0 hS, R2_1 hS, R2_2 hS, R2_6 hS, R2_8 hS, R2_11 hS, R2_12 hS, R2_13 hS, R2_15 hS, R2_16 hS, K3 hS, K11 hS, K19 hS, K27 hS, K32 hS, K37 hS, K98 hS, K99 hS, K100 hS, N37 hS, N98 hS, N99 hS, N100 hS, R3_0 hS, R3_1 hS, R3_2 hS, R3_3 hS, R3_4 hS, R3_5 hS, R3_6 hS, K4 hS, K5 hS, K6 hS, K7 hS, K8 hS, K9 hS, K10 hS, N4 hS, N5 hS, N6 hS, N7 hS, N8 hS, N9 hS, N10 hS, false_or, or_false, ne_eq, true_or, or_true, not_false_eq_true, Nat.reduceEqDiff, Nat.reduceLT, Nat.reduceLeDiff, Nat.reduceAdd, nn5, hb, hx]
    refine go _ (fun a ha => by rw [up2_a (by omega)]) (by rw [up2_a (by decide)]) (by rw [up2_a (by decide)]) ?_
    have q := @bCw5 h 3 n G F v hn'
    rw [show (3 + 6 : Nat) = 9 from rfl] at q
    rw [q, C.eb]; rfl
  | 6, _, hn, go =>
    simp only [k30_0, k30_1, k30_2, k30_3, k30_6, k30_9, k30_10, k30_11c0, k30_11c1, k30_11c2, k30_11c3, k30_11c4, k30_11c5, k30_11c6, k30_11, k30_52, k30_53, k30_56, k30_57, k30_58, k30_59, k30_62, k30_63, k30_66, k30_67, k30_68, k30_69, k30_72, k30_73, k30_76, k30_77, k30_78, k30_79, k30_82, k30_83, k30_86, k30_87, k30_88, k30_89, k30_92, k30_93, k30_96, k30_97, k30_98, k30_99, k30_102, k30_103, k30_106, k30_107, k30_108, k30_109, k30_112, k30_113, k30_114, k30_117, k30_120, k30_121, k30_122, k30_125, mm_sI, mm_sJ, mm_sR, mm_cI, mm_cJ, mm_I, mm_J, mm_R, mm_K, mm_N, psh_s, psh_n, z_n, z_i, z_r, z_l, Nat.reduceAdd, Nat.reduceLeDiff, K2 hS, R2_0 hS, R2_1 hS, R2_2 hS, R2_6 hS, R2_8 hS, R2_11 hS, R2_12 hS, R2_13 hS, R2_15 hS, R2_16 hS, K3 hS, K11 hS, K19 hS, K27 hS, K32 hS, K37 hS, K98 hS, K99 hS, K100 hS, N37 hS, N98 hS, N99 hS, N100 hS, R3_0 hS, R3_1 hS, R3_2 hS, R3_3 hS, R3_4 hS, R3_5 hS, R3_6 hS, K4 hS, K5 hS, K6 hS, K7 hS, K8 hS, K9 hS, K10 hS, N4 hS, N5 hS, N6 hS, N7 hS, N8 hS, N9 hS, N10 hS, false_or, or_false, ne_eq, true_or, or_true, not_false_eq_true, Nat.reduceEqDiff, Nat.reduceLT, Nat.reduceLeDiff, Nat.reduceAdd, nn6]
    refine go _ (fun a ha => by rw [up2_a (by omega)]) (by rw [up2_i (by decide)]) (by rw [up2_i (by decide)]) ?_
    rw [bCwt, C.eb]; rfl
  | 7, _, hn, go =>
    have k7 : ((7 : Int32).toInt < 0 ∨ 6 < (7 : Int32).toInt) := by decide
    simp only [k30_0, k30_1, k30_2, k30_3, k30_6, k30_9, k30_10, k30_11c0, k30_11c1, k30_11c2, k30_11c3, k30_11c4, k30_11c5, k30_11c6, k30_11, k30_52, k30_53, k30_56, k30_57, k30_58, k30_59, k30_62, k30_63, k30_66, k30_67, k30_68, k30_69, k30_72, k30_73, k30_76, k30_77, k30_78, k30_79, k30_82, k30_83, k30_86, k30_87, k30_88, k30_89, k30_92, k30_93, k30_96, k30_97, k30_98, k30_99, k30_102, k30_103, k30_106, k30_107, k30_108, k30_109, k30_112, k30_113, k30_114, k30_117, k30_120, k30_121, k30_122, k30_125, mm_sI, mm_sJ, mm_sR, mm_cI, mm_cJ, mm_I, mm_J, mm_R, mm_K, mm_N, psh_s, psh_n, z_n, z_i, z_r, z_l, Nat.reduceAdd, Nat.reduceLeDiff, K2 hS, R2_0 hS, R2_1 hS, R2_2 hS, R2_6 hS, R2_8 hS, R2_11 hS, R2_12 hS, R2_13 hS, R2_15 hS, R2_16 hS, K3 hS, K11 hS, K19 hS, K27 hS, K32 hS, K37 hS, K98 hS, K99 hS, K100 hS, N37 hS, N98 hS, N99 hS, N100 hS, R3_0 hS, R3_1 hS, R3_2 hS, R3_3 hS, R3_4 hS, R3_5 hS, R3_6 hS, K4 hS, K5 hS, K6 hS, K7 hS, K8 hS, K9 hS, K10 hS, N4 hS, N5 hS, N6 hS, N7 hS, N8 hS, N9 hS, N10 hS, false_or, or_false, ne_eq, true_or, or_true, not_false_eq_true, Nat.reduceEqDiff, Nat.reduceLT, Nat.reduceLeDiff, Nat.reduceAdd, nn7, k30_11 k7]
    refine go _ (fun a ha => by rw [up2_a (by omega)]) (by rw [up2_i (by decide)]) (by rw [up2_i (by decide)]) ?_
    rw [bCwh, C.eb]; rfl
  | w + 8, hw, _, _ => omega
theorem chR (hS : Sh r E) {i : Nat} (hi : i < 40) : r 38 i = 39 + i ∧ E.1 (39 + i) = 13 ∧ E.2.1 (39 + i) = 4 := by
  match i, hi with
  | 0, _ => exact ⟨R38_0 hS, K39 hS, N39 hS⟩
  | 1, _ => exact ⟨R38_1 hS, K40 hS, N40 hS⟩
  | 2, _ => exact ⟨R38_2 hS, K41 hS, N41 hS⟩
  | 3, _ => exact ⟨R38_3 hS, K42 hS, N42 hS⟩
  | 4, _ => exact ⟨R38_4 hS, K43 hS, N43 hS⟩
  | 5, _ => exact ⟨R38_5 hS, K44 hS, N44 hS⟩
  | 6, _ => exact ⟨R38_6 hS, K45 hS, N45 hS⟩
  | 7, _ => exact ⟨R38_7 hS, K46 hS, N46 hS⟩
  | 8, _ => exact ⟨R38_8 hS, K47 hS, N47 hS⟩
  | 9, _ => exact ⟨R38_9 hS, K48 hS, N48 hS⟩
  | 10, _ => exact ⟨R38_10 hS, K49 hS, N49 hS⟩
  | 11, _ => exact ⟨R38_11 hS, K50 hS, N50 hS⟩
  | 12, _ => exact ⟨R38_12 hS, K51 hS, N51 hS⟩
  | 13, _ => exact ⟨R38_13 hS, K52 hS, N52 hS⟩
  | 14, _ => exact ⟨R38_14 hS, K53 hS, N53 hS⟩
  | 15, _ => exact ⟨R38_15 hS, K54 hS, N54 hS⟩
  | 16, _ => exact ⟨R38_16 hS, K55 hS, N55 hS⟩
  | 17, _ => exact ⟨R38_17 hS, K56 hS, N56 hS⟩
  | 18, _ => exact ⟨R38_18 hS, K57 hS, N57 hS⟩
  | 19, _ => exact ⟨R38_19 hS, K58 hS, N58 hS⟩
  | 20, _ => exact ⟨R38_20 hS, K59 hS, N59 hS⟩
  | 21, _ => exact ⟨R38_21 hS, K60 hS, N60 hS⟩
  | 22, _ => exact ⟨R38_22 hS, K61 hS, N61 hS⟩
  | 23, _ => exact ⟨R38_23 hS, K62 hS, N62 hS⟩
  | 24, _ => exact ⟨R38_24 hS, K63 hS, N63 hS⟩
  | 25, _ => exact ⟨R38_25 hS, K64 hS, N64 hS⟩
  | 26, _ => exact ⟨R38_26 hS, K65 hS, N65 hS⟩
  | 27, _ => exact ⟨R38_27 hS, K66 hS, N66 hS⟩
  | 28, _ => exact ⟨R38_28 hS, K67 hS, N67 hS⟩
  | 29, _ => exact ⟨R38_29 hS, K68 hS, N68 hS⟩
  | 30, _ => exact ⟨R38_30 hS, K69 hS, N69 hS⟩
  | 31, _ => exact ⟨R38_31 hS, K70 hS, N70 hS⟩
  | 32, _ => exact ⟨R38_32 hS, K71 hS, N71 hS⟩
  | 33, _ => exact ⟨R38_33 hS, K72 hS, N72 hS⟩
  | 34, _ => exact ⟨R38_34 hS, K73 hS, N73 hS⟩
  | 35, _ => exact ⟨R38_35 hS, K74 hS, N74 hS⟩
  | 36, _ => exact ⟨R38_36 hS, K75 hS, N75 hS⟩
  | 37, _ => exact ⟨R38_37 hS, K76 hS, N76 hS⟩
  | 38, _ => exact ⟨R38_38 hS, K77 hS, N77 hS⟩
  | 39, _ => exact ⟨R38_39 hS, K78 hS, N78 hS⟩
  | i + 40, hi => omega
theorem cg1 {i : Nat} : (39 + i = 1) = False := by apply eq_false; omega
end MD2
