/-! ===== the class's marsh ===== -/
def Lw (r : Rp) (E : EE) (l : Nat) : Prop := 2 ≤ l ∧ E.1 l = 3 ∧ (∀ i, i < 4 → r l i = l + 1 + i ∧ E.1 (l + 1 + i) = 13) ∧ (∀ i, i < 3 → E.2.1 (l + 1 + i) = 121) ∧ E.2.1 (l + 4) = 6
section LA
variable {r : Rp} {E : EE} {l : Nat}
theorem lk0 (H : Lw r E l) : E.1 l = 3 := H.2.1
theorem lr0 (H : Lw r E l) : r l 0 = l + 1 := (H.2.2.1 0 (by decide)).1
theorem lr1 (H : Lw r E l) : r l 1 = l + 2 := (H.2.2.1 1 (by decide)).1
theorem lr2 (H : Lw r E l) : r l 2 = l + 3 := (H.2.2.1 2 (by decide)).1
theorem lr3 (H : Lw r E l) : r l 3 = l + 4 := (H.2.2.1 3 (by decide)).1
theorem lk1 (H : Lw r E l) : E.1 (l + 1) = 13 := (H.2.2.1 0 (by decide)).2
theorem lk2 (H : Lw r E l) : E.1 (l + 2) = 13 := (H.2.2.1 1 (by decide)).2
theorem lk3 (H : Lw r E l) : E.1 (l + 3) = 13 := (H.2.2.1 2 (by decide)).2
theorem lk4 (H : Lw r E l) : E.1 (l + 4) = 13 := (H.2.2.1 3 (by decide)).2
theorem ln1 (H : Lw r E l) : E.2.1 (l + 1) = 121 := H.2.2.2.1 0 (by decide)
theorem ln2 (H : Lw r E l) : E.2.1 (l + 2) = 121 := H.2.2.2.1 1 (by decide)
theorem ln3 (H : Lw r E l) : E.2.1 (l + 3) = 121 := H.2.2.2.1 2 (by decide)
theorem ln4 (H : Lw r E l) : E.2.1 (l + 4) = 6 := H.2.2.2.2
theorem lne {k : Nat} (H : Lw r E l) : (l + k = 1) = False := by have := H.1; simp; omega
theorem lne0 (H : Lw r E l) : (l = 1) = False := by have := H.1; simp; omega
end LA
theorem lw_of {r : Rp} {E : EE} (hS : Sh r E) {l : Nat} (hl : l = 27 ∨ l = 32) : Lw r E l := by
  rcases hl with rfl | rfl <;> refine ⟨by decide, ?_, ?_, ?_, ?_⟩
  · exact K27 hS
  · intro i hi; match i, hi with
    | 0, _ => exact ⟨R27_0 hS, K28 hS⟩
    | 1, _ => exact ⟨R27_1 hS, K29 hS⟩
    | 2, _ => exact ⟨R27_2 hS, K30 hS⟩
    | 3, _ => exact ⟨R27_3 hS, K31 hS⟩
    | k + 4, h => omega
  · intro i hi; match i, hi with
    | 0, _ => exact N28 hS
    | 1, _ => exact N29 hS
    | 2, _ => exact N30 hS
    | k + 3, h => omega
  · exact N31 hS
  · exact K32 hS
  · intro i hi; match i, hi with
    | 0, _ => exact ⟨R32_0 hS, K33 hS⟩
    | 1, _ => exact ⟨R32_1 hS, K34 hS⟩
    | 2, _ => exact ⟨R32_2 hS, K35 hS⟩
    | 3, _ => exact ⟨R32_3 hS, K36 hS⟩
    | k + 4, h => omega
  · intro i hi; match i, hi with
    | 0, _ => exact N33 hS
    | 1, _ => exact N34 hS
    | 2, _ => exact N35 hS
    | k + 3, h => omega
  · exact N36 hS
/-- the law's text, as steps, is the same -/
def Lfix (l : Nat) (h h1 : Hp) : Prop := h1 (l + 1) = h (l + 1) ∧ h1 (l + 2) = h (l + 2) ∧ h1 l 4 = h l 4
/-- only the law's own rows for working have changed -/
def Lsc (l : Nat) (h h1 : Hp) : Prop := (∀ a, a ≠ l → a ≠ l + 3 → a ≠ l + 4 → h1 a = h a) ∧ ∀ i, i ≠ 5 → h1 l i = h l i
/-- what the law's steps give: in any memory that holds them -/
def LawC (l : Nat) (h : Hp) (W : LW) : Prop := ∀ (d : Nat) (j : Jp) (r : Rp) (E : EE) (Q : Option PV → Mem → Prop) (h1 : Hp) (b k dd hr g f : Int32), Sh r E → Lfix l h h1 →
  (∀ h2, Lsc l h1 h2 → Q (some (vi (W b k dd hr g f))) (mm h2 j r E)) → WP (d + 2) 19 0 [some (vr l), some (vi b), some (vi k), some (vi dd), some (vi hr), some (vi g), some (vi f), none, none, none, none] [] (mm h1 j r E) Q
def LC (l : Nat) (h : Hp) (W : LW) : Prop := if 0 < h l 4 then LawC l h W else W = fun _ k _ hr _ _ => k + hr / 4
theorem Lfix.rf {l : Nat} {h : Hp} : Lfix l h h := ⟨rfl, rfl, rfl⟩
theorem Lfix.tr {l : Nat} {h h1 h2 : Hp} (a : Lfix l h h1) (b : Lfix l h1 h2) : Lfix l h h2 := ⟨b.1.trans a.1, b.2.1.trans a.2.1, b.2.2.trans a.2.2⟩
theorem LawC.fix {l : Nat} {h h1 : Hp} {W : LW} (a : LawC l h W) (b : Lfix l h h1) : LawC l h1 W := fun d j r E Q h2 b1 k dd hr g f hS c hQ => a d j r E Q h2 b1 k dd hr g f hS (b.tr c) hQ
theorem LC.fix {l : Nat} {h h1 : Hp} {W : LW} (a : LC l h W) (b : Lfix l h h1) : LC l h1 W := by
  unfold LC at a ⊢; rw [b.2.2]; split at a
  · rw [if_pos ‹_›]; exact a.fix b
  · rw [if_neg ‹_›]; exact a
theorem mz1 {m : Nat} : (m = m + 1) = False := by simp
theorem my1 {m : Nat} : (m + 1 = m) = False := by simp
theorem mz2 {m : Nat} : (m = m + 2) = False := by simp
theorem my2 {m : Nat} : (m + 2 = m) = False := by simp
theorem mz3 {m : Nat} : (m = m + 3) = False := by simp
theorem my3 {m : Nat} : (m + 3 = m) = False := by simp
theorem mz4 {m : Nat} : (m = m + 4) = False := by simp
theorem my4 {m : Nat} : (m + 4 = m) = False := by simp
theorem mz5 {m : Nat} : (m = m + 5) = False := by simp
theorem my5 {m : Nat} : (m + 5 = m) = False := by simp
theorem mz6 {m : Nat} : (m = m + 6) = False := by simp
theorem my6 {m : Nat} : (m + 6 = m) = False := by simp
theorem mz7 {m : Nat} : (m = m + 7) = False := by simp
theorem my7 {m : Nat} : (m + 7 = m) = False := by simp
theorem mz8 {m : Nat} : (m = m + 8) = False := by simp
theorem my8 {m : Nat} : (m + 8 = m) = False := by simp
theorem mz9 {m : Nat} : (m = m + 9) = False := by simp
theorem my9 {m : Nat} : (m + 9 = m) = False := by simp
theorem mz10 {m : Nat} : (m = m + 10) = False := by simp
theorem my10 {m : Nat} : (m + 10 = m) = False := by simp
theorem mz11 {m : Nat} : (m = m + 11) = False := by simp
theorem my11 {m : Nat} : (m + 11 = m) = False := by simp
section MC
variable {d : Nat} {M : Mem} {h : Hp} {j : Jp} {r : Rp} {E : EE} {Q : Option PV → Mem → Prop} {m l G F : Nat}
theorem ne60 : ((6 : Int32) = 0) = False := by simp
theorem ne40 : ((4 : Int32) = 0) = False := by simp
theorem ne120 : ((12 : Int32) = 0) = False := by simp
theorem ne100 : ((10 : Int32) = 0) = False := by simp
theorem s_hasFrog {f : Int32} (H : Mar r E m) (hF : h m 8 = nI F) (hF8 : F ≤ 8) : WP (d + 1) 25 0 [some (vr m), some (vi f)] [] (mm h j r E) Q = Q (some (vi (b2i (inb f F)))) (mm h j r E) := by
  simp only [k25_0, k25_1, k25_2, k25_3, k25_6, k25_7, k25_8, k25_11, mm_sI, mm_sJ, mm_sR, mm_cI, mm_cJ, mm_I, mm_J, mm_R, mm_K, mm_N, psh_s, psh_n, z_n, z_i, z_r, z_l, Nat.reduceAdd, Nat.reduceLeDiff, s_within, mk0 H, hF, b2i_01, ne_eq, true_or, or_true, not_false_eq_true, Nat.reduceEqDiff, Nat.reduceLT, Nat.reduceLeDiff, Nat.reduceAdd]
  rw [b2i_c (inb_w (by omega))]
theorem s_far {p q : Int32} : WP d 33 0 [some (vi p), some (vi q)] [] M Q = Q (some (vi (farB p q))) M := by
  simp only [k33_0, k33_1, k33_3, k33_4, k33_5, k33_7, k33_8, k33_9, k33_12, k33_13, k33_15, k33_16, k33_17, k33_19, k33_20, k33_21, k33_24, k33_25, mm_sI, mm_sJ, mm_sR, mm_cI, mm_cJ, mm_I, mm_J, mm_R, mm_K, mm_N, psh_s, psh_n, z_n, z_i, z_r, z_l, Nat.reduceAdd, Nat.reduceLeDiff, ne60, ne_eq, true_or, or_true, not_false_eq_true, Nat.reduceEqDiff, Nat.reduceLT, Nat.reduceLeDiff, Nat.reduceAdd]; rfl
theorem s_compare {x y : Int32} : WP d 246 0 [some (vi x), some (vi y)] [] M Q = Q (some (vi (icmp x y))) M := by
  unfold icmp
  simp only [k246_0, k246_1, k246_2, k246_5, k246_6, k246_9, k246_10, k246_11, k246_14, k246_15, k246_18, k246_19, mm_sI, mm_sJ, mm_sR, mm_cI, mm_cJ, mm_I, mm_J, mm_R, mm_K, mm_N, psh_s, psh_n, z_n, z_i, z_r, z_l, Nat.reduceAdd, Nat.reduceLeDiff]
  by_cases h1 : x < y
  · simp only [h1, Int32.not_le.2 h1, if_true, if_false]
  · simp only [h1, Int32.not_lt.1 h1, if_true, if_false]
    split <;> rfl
theorem s_nearer {p q : Int32} : WP (d + 1) 42 0 [some (vi p), some (vi q), none] [] M Q = Q (some (vi (nearB p q))) M := by
  unfold nearB
  simp only [k42_0, k42_1, k42_3, k42_4, k42_5, k42_7, k42_8, k42_11, k42_12, k42_13, k42_16, k42_17, k42_18, k42_19, k42_22, k42_23, k42_25, k42_26, k42_28, k42_29, k42_30, k42_32, k42_33, k42_36, k42_37, k42_38, mm_sI, mm_sJ, mm_sR, mm_cI, mm_cJ, mm_I, mm_J, mm_R, mm_K, mm_N, psh_s, psh_n, z_n, z_i, z_r, z_l, Nat.reduceAdd, Nat.reduceLeDiff, ne60, ne_eq, true_or, or_true, not_false_eq_true, Nat.reduceEqDiff, Nat.reduceLT, Nat.reduceLeDiff, Nat.reduceAdd, s_compare]
  split <;> rfl
theorem s_isTold (HL : Lw r E l) : WP d 8 0 [some (vr l)] [] (mm h j r E) Q = Q (some (vi (b2i (0 < h l 4)))) (mm h j r E) := by
  unfold b2i
  simp only [k8_0, k8_1, k8_4, k8_7, k8_8, k8_11, k8_12, mm_sI, mm_sJ, mm_sR, mm_cI, mm_cJ, mm_I, mm_J, mm_R, mm_K, mm_N, psh_s, psh_n, z_n, z_i, z_r, z_l, Nat.reduceAdd, Nat.reduceLeDiff, ne_eq, true_or, or_true, not_false_eq_true, Nat.reduceEqDiff, Nat.reduceLT, Nat.reduceLeDiff, Nat.reduceAdd, lk0 HL]
  by_cases h1 : 0 < h l 4
  · simp [h1, Int32.not_le.2 h1, k8_12]
  · simp [h1, Int32.not_lt.1 h1, k8_12]
theorem s_lossOf {f : Nat} {W : LW} (hS : Sh r E) (H : Mar r E m) (HL : Lw r E l) (hL : LC l h W) (hG : h m 7 = nI G) (hG8 : G ≤ 8) (hF8 : F ≤ 8) (hml : m + 7 < l) (hf : f < F) (hw : bC h m G F 4 f = -1 ∨ inb (bC h m G F 4 f) G)
    (hQ : ∀ h', Lsc l h h' → Q (some (vi (lossB W (bC h m G F) f))) (mm h' j r E)) : WP (d + 3) 40 0 [some (vr m), some (vi (nI f)), some (vr l), none, none, none] [] (mm h j r E) Q := by
  have hf' : inb (nI f) 8 = True := eq_true (by rw [inb_n (by omega)]; omega)
  have hx : ix (nI f) = f := ix_n (by omega)
  rw [bC4 hf] at hw
  have hl0 : lossB W (bC h m G F) f = if h (m + 5) f = -1 then 0 else clampB (h (m + 6) f) (W (h (m + 6) f) (h (m + 4) f) (farB (h (m + 3) f) (bC h m G F 0 (ix (h (m + 5) f)))) (h m 10) (h (m + 5) f) (nI f)) := by
    unfold lossB; rw [bC4 hf, bC5 hf, bC3 hf, bC2 hf, bCh]
  rcases hw with hw | hw
  · have hn : ¬ inb (h (m + 5) f) G := by rw [hw]; intro hh; exact hh.1 (by decide)
    have := hQ h ⟨fun _ _ _ _ => rfl, fun _ _ => rfl⟩
    rw [hl0, if_pos hw] at this
    simp only [k40_0, k40_1, k40_4, k40_5, k40_6, k40_7, k40_8, k40_9, k40_12, k40_15, k40_16, k40_17, k40_18, k40_21, k40_22, k40_23, k40_24, k40_27, k40_28, k40_29, k40_32, k40_34, k40_35, k40_38, k40_41, k40_42, k40_43, k40_46, k40_47, k40_48, k40_49, k40_52, k40_53, k40_54, k40_56, k40_57, k40_60, k40_61, k40_62, k40_65, k40_68, k40_69, k40_72, k40_73, k40_74, k40_75, k40_78, k40_79, k40_80, k40_81, k40_83, k40_84, k40_87, k40_88, k40_89, k40_90, k40_92, k40_94, k40_97, k40_100, k40_103, mm_sI, mm_sJ, mm_sR, mm_cI, mm_cJ, mm_I, mm_J, mm_R, mm_K, mm_N, psh_s, psh_n, z_n, z_i, z_r, z_l, Nat.reduceAdd, Nat.reduceLeDiff, mk0 H, mr0 H, mr1 H, mr2 H, mr3 H, mr4 H, mr5 H, mr6 H, mk1 H, mk2 H, mk3 H, mk4 H, mk5 H, mk6 H, mk7 H, mn1 H, mn2 H, mn3 H, mn4 H, mn5 H, mn6 H, mn7 H, mne H, mne0 H, hf', hx, s_hasGirl H hG hG8, b2i_0, eq_false hn, ne_eq, true_or, or_true, not_false_eq_true, Nat.reduceEqDiff, Nat.reduceLT, Nat.reduceLeDiff, Nat.reduceAdd, if_true, not_false_eq_true]
    exact this
  · have hg8 : inb (h (m + 5) f) 8 := inb_mono hw hG8
    have hne : h (m + 5) f ≠ -1 := by intro hh; rw [hh] at hw; exact hw.1 (by decide)
    rw [if_neg hne, bC0 hw.2] at hl0
    rw [hl0] at hQ
    simp only [k40_0, k40_1, k40_4, k40_5, k40_6, k40_7, k40_8, k40_9, k40_12, k40_15, k40_16, k40_17, k40_18, k40_21, k40_22, k40_23, k40_24, k40_27, k40_28, k40_29, k40_32, k40_34, k40_35, k40_38, k40_41, k40_42, k40_43, k40_46, k40_47, k40_48, k40_49, k40_52, k40_53, k40_54, k40_56, k40_57, k40_60, k40_61, k40_62, k40_65, k40_68, k40_69, k40_72, k40_73, k40_74, k40_75, k40_78, k40_79, k40_80, k40_81, k40_83, k40_84, k40_87, k40_88, k40_89, k40_90, k40_92, k40_94, k40_97, k40_100, k40_103, mm_sI, mm_sJ, mm_sR, mm_cI, mm_cJ, mm_I, mm_J, mm_R, mm_K, mm_N, psh_s, psh_n, z_n, z_i, z_r, z_l, Nat.reduceAdd, Nat.reduceLeDiff, mk0 H, mr0 H, mr1 H, mr2 H, mr3 H, mr4 H, mr5 H, mr6 H, mk1 H, mk2 H, mk3 H, mk4 H, mk5 H, mk6 H, mk7 H, mn1 H, mn2 H, mn3 H, mn4 H, mn5 H, mn6 H, mn7 H, mne H, mne0 H, lk0 HL, hf', hx, s_hasGirl H hG hG8, b2i_0, eq_true hw, eq_true hg8, not_true_eq_false, if_false, ne_eq, true_or, or_true, not_false_eq_true, Nat.reduceEqDiff, Nat.reduceLT, Nat.reduceLeDiff, Nat.reduceAdd, s_far, s_isTold HL, ne40]
    unfold LC at hL
    by_cases ht : 0 < h l 4
    · rw [if_pos ht] at hL
      simp only [ht, not_true_eq_false, if_false]
      refine hL _ _ _ _ _ _ _ _ _ _ _ _ hS Lfix.rf ?_
      intro h2 hsc
      have e6 : h2 (m + 6) = h (m + 6) := hsc.1 _ (by omega) (by omega) (by omega)
      simp only [k40_0, k40_1, k40_4, k40_5, k40_6, k40_7, k40_8, k40_9, k40_12, k40_15, k40_16, k40_17, k40_18, k40_21, k40_22, k40_23, k40_24, k40_27, k40_28, k40_29, k40_32, k40_34, k40_35, k40_38, k40_41, k40_42, k40_43, k40_46, k40_47, k40_48, k40_49, k40_52, k40_53, k40_54, k40_56, k40_57, k40_60, k40_61, k40_62, k40_65, k40_68, k40_69, k40_72, k40_73, k40_74, k40_75, k40_78, k40_79, k40_80, k40_81, k40_83, k40_84, k40_87, k40_88, k40_89, k40_90, k40_92, k40_94, k40_97, k40_100, k40_103, mm_sI, mm_sJ, mm_sR, mm_cI, mm_cJ, mm_I, mm_J, mm_R, mm_K, mm_N, psh_s, psh_n, z_n, z_i, z_r, z_l, Nat.reduceAdd, Nat.reduceLeDiff, mk0 H, mr0 H, mr1 H, mr2 H, mr3 H, mr4 H, mr5 H, mr6 H, mk1 H, mk2 H, mk3 H, mk4 H, mk5 H, mk6 H, mk7 H, mn1 H, mn2 H, mn3 H, mn4 H, mn5 H, mn6 H, mn7 H, mne H, mne0 H, hf', hx, ne_eq, true_or, or_true, not_false_eq_true, Nat.reduceEqDiff, Nat.reduceLT, Nat.reduceLeDiff, Nat.reduceAdd, e6]
      exact hQ h2 hsc
    · rw [if_neg ht] at hL
      simp only [ht, not_false_eq_true, if_true]
      have := hQ h ⟨fun _ _ _ _ => rfl, fun _ _ => rfl⟩
      rw [hL] at this
      exact this
theorem s_lend {g x : Int32} {f : Nat} (H : Mar r E m) (hf : f < 8) : WP d 37 0 [some (vr m), some (vi g), some (vi (nI f)), some (vi x)] [] (mm h j r E) Q = Q none (mm (up2 (up2 h (m + 5) f g) (m + 6) f x) j r E) := by
  have hf' : inb (nI f) 8 = True := eq_true (by rw [inb_n (by omega)]; omega)
  have hx : ix (nI f) = f := ix_n (by omega)
  simp only [k37_0, k37_1, k37_4, k37_5, k37_6, k37_7, k37_8, k37_11, k37_12, k37_13, k37_14, mm_sI, mm_sJ, mm_sR, mm_cI, mm_cJ, mm_I, mm_J, mm_R, mm_K, mm_N, psh_s, psh_n, z_n, z_i, z_r, z_l, Nat.reduceAdd, Nat.reduceLeDiff, mk0 H, mr0 H, mr1 H, mr2 H, mr3 H, mr4 H, mr5 H, mr6 H, mk1 H, mk2 H, mk3 H, mk4 H, mk5 H, mk6 H, mk7 H, mn1 H, mn2 H, mn3 H, mn4 H, mn5 H, mn6 H, mn7 H, mne H, mne0 H, hf', hx, ne_eq, true_or, or_true, not_false_eq_true, Nat.reduceEqDiff, Nat.reduceLT, Nat.reduceLeDiff, Nat.reduceAdd]
theorem s_owesNothing {f : Nat} (H : Mar r E m) (hf : f < 8) : WP d 38 0 [some (vr m), some (vi (nI f))] [] (mm h j r E) Q = Q none (mm (up2 (up2 h (m + 5) f (-1)) (m + 6) f 0) j r E) := by
  have hf' : inb (nI f) 8 = True := eq_true (by rw [inb_n (by omega)]; omega)
  have hx : ix (nI f) = f := ix_n (by omega)
  simp only [k38_0, k38_1, k38_4, k38_5, k38_6, k38_7, k38_8, k38_11, k38_12, k38_13, k38_14, mm_sI, mm_sJ, mm_sR, mm_cI, mm_cJ, mm_I, mm_J, mm_R, mm_K, mm_N, psh_s, psh_n, z_n, z_i, z_r, z_l, Nat.reduceAdd, Nat.reduceLeDiff, mk0 H, mr0 H, mr1 H, mr2 H, mr3 H, mr4 H, mr5 H, mr6 H, mk1 H, mk2 H, mk3 H, mk4 H, mk5 H, mk6 H, mk7 H, mn1 H, mn2 H, mn3 H, mn4 H, mn5 H, mn6 H, mn7 H, mne H, mne0 H, hf', hx, ne_eq, true_or, or_true, not_false_eq_true, Nat.reduceEqDiff, Nat.reduceLT, Nat.reduceLeDiff, Nat.reduceAdd]
/-- what a marsh's hours may change -/
def FrM (m l : Nat) (h h' : Hp) : Prop := (∀ a, a ≠ m → ¬ (m < a ∧ a ≤ m + 7) → a ≠ l → a ≠ l + 3 → a ≠ l + 4 → h' a = h a) ∧ (∀ i, i ≠ 5 → h' l i = h l i) ∧ (∀ i, i ≠ 10 → h' m i = h m i)
theorem FrM.rf : FrM m l h h := ⟨fun _ _ _ _ _ _ => rfl, fun _ _ => rfl, fun _ _ => rfl⟩
theorem FrM.tr {h1 h2 : Hp} (a : FrM m l h h1) (b : FrM m l h1 h2) : FrM m l h h2 :=
  ⟨fun x p q s t u => (b.1 x p q s t u).trans (a.1 x p q s t u), fun i hi => (b.2.1 i hi).trans (a.2.1 i hi), fun i hi => (b.2.2 i hi).trans (a.2.2 i hi)⟩
theorem FrM.of {h1 : Hp} (hml : m + 7 < l) (a : Lsc l h h1) : FrM m l h h1 := ⟨fun x _ _ s t u => a.1 x s t u, a.2, fun i _ => by rw [a.1 m (by omega) (by omega) (by omega)]⟩
theorem FrM.up {h1 : Hp} {a i : Nat} {v : Int32} (hml : m + 7 < l) (b : FrM m l h h1) (ha : m < a ∧ a ≤ m + 7) : FrM m l h (up2 h1 a i v) := by
  refine ⟨fun x p q s t u => ?_, fun k hk => ?_, fun k hk => ?_⟩
  · rw [up2_a (by rintro rfl; exact q ha)]; exact b.1 x p q s t u
  · rw [up2_a (show l ≠ a by omega)]; exact b.2.1 k hk
  · rw [up2_a (show m ≠ a by omega)]; exact b.2.2 k hk
theorem FrM.uph {h1 : Hp} {v : Int32} (hml : m + 7 < l) (b : FrM m l h h1) : FrM m l h (up2 h1 m 10 v) := by
  refine ⟨fun x p q s t u => ?_, fun k hk => ?_, fun k hk => ?_⟩
  · rw [up2_a p]; exact b.1 x p q s t u
  · rw [up2_a (show l ≠ m by omega)]; exact b.2.1 k hk
  · rw [up2_i hk]; exact b.2.2 k hk
theorem FrM.lf {h' : Hp} (hml : m + 7 < l) (b : FrM m l h h') : Lfix l h h' := ⟨b.1 _ (by omega) (by omega) (by omega) (by omega) (by omega), b.1 _ (by omega) (by omega) (by omega) (by omega) (by omega), b.2.1 4 (by decide)⟩
theorem Lsc.bC {h1 : Hp} (hml : m + 7 < l) (a : Lsc l h h1) : bC h1 m G F = bC h m G F :=
  bC_eq (fun k hk i _ => by rw [a.1 (m + 1 + k) (by omega) (by omega) (by omega)]) (by rw [a.1 m (by omega) (by omega) (by omega)]) (by rw [a.1 m (by omega) (by omega) (by omega)])
/-- the book of a marsh: hours, loans, lost, backs, run over -/
def ledU (u : Nat → Int32) (lost back : Int32) : Nat → Int32 := fun i => if i = 2 then u 2 + lost else if i = 3 then u 3 + back else u i
theorem s_passHourOf {f : Nat} {W : LW} (hS : Sh r E) (H : Mar r E m) (HL : Lw r E l) (hL : LC l h W) (hG : h m 7 = nI G) (hG8 : G ≤ 8) (hF8 : F ≤ 8) (hml : m + 7 < l) (hf : f < F) (hw : bC h m G F 4 f = -1 ∨ inb (bC h m G F 4 f) G)
    (hQ : ∀ h', FrM m l h h' → bC h' m G F = goB W f (bC h m G F) → h' (m + 7) = ledU (h (m + 7)) (lossB W (bC h m G F) f) (b1B W f (bC h m G F)) → Q (some (vi (gvB W f (bC h m G F)))) (mm h' j r E)) : WP (d + 4) 41 0 [some (vr m), some (vi (nI f)), some (vr l), none, none, none] [] (mm h j r E) Q := by
  have hf' : inb (nI f) 8 = True := eq_true (by rw [inb_n (by omega)]; omega)
  have hx : ix (nI f) = f := ix_n (by omega)
  have hw0 := hw
  rw [bC4 hf] at hw
  have e4 : bC h m G F 4 f = h (m + 5) f := bC4 hf
  rcases hw with hw | hw
  · have hn : ¬ inb (h (m + 5) f) G := by rw [hw]; intro hh; exact hh.1 (by decide)
    have := hQ h FrM.rf (by unfold goB; rw [e4, if_pos hw]) (by
      have h1 : lossB W (bC h m G F) f = 0 := by unfold lossB; rw [e4, if_pos hw]
      have h2 : b1B W f (bC h m G F) = 0 := by unfold b1B; rw [e4, if_pos hw]
      funext i; rw [h1, h2]; unfold ledU
      split
      · rename_i h; subst h; simp
      · split
        · rename_i h; subst h; simp
        · rfl)
    rw [show gvB W f (bC h m G F) = -2 by unfold gvB; rw [e4, if_pos hw]] at this
    simp only [k41_0, k41_1, k41_4, k41_5, k41_6, k41_7, k41_8, k41_9, k41_12, k41_15, k41_17, k41_18, k41_19, k41_20, k41_21, k41_24, k41_26, k41_27, k41_30, k41_31, k41_32, k41_33, k41_35, k41_36, k41_37, k41_38, k41_41, k41_42, k41_43, k41_44, k41_46, k41_47, k41_48, k41_49, k41_52, k41_53, k41_56, k41_59, k41_61, k41_62, k41_63, k41_66, k41_67, k41_68, k41_71, k41_72, k41_73, k41_74, k41_77, k41_78, k41_79, k41_82, k41_83, k41_84, k41_87, k41_88, k41_89, k41_90, k41_93, k41_94, k41_95, k41_98, k41_100, k41_101, k41_102, k41_105, k41_106, k41_107, k41_109, k41_110, k41_113, k41_114, k41_116, k41_117, k41_120, k41_121, k41_122, k41_124, k41_125, k41_128, k41_129, k41_130, k41_131, k41_134, k41_135, k41_138, k41_139, k41_140, k41_141, k41_142, k41_143, k41_144, k41_146, mm_sI, mm_sJ, mm_sR, mm_cI, mm_cJ, mm_I, mm_J, mm_R, mm_K, mm_N, psh_s, psh_n, z_n, z_i, z_r, z_l, Nat.reduceAdd, Nat.reduceLeDiff, mk0 H, mr0 H, mr1 H, mr2 H, mr3 H, mr4 H, mr5 H, mr6 H, mk1 H, mk2 H, mk3 H, mk4 H, mk5 H, mk6 H, mk7 H, mn1 H, mn2 H, mn3 H, mn4 H, mn5 H, mn6 H, mn7 H, mne H, mne0 H, hf', hx, s_hasGirl H hG hG8, b2i_0, eq_false hn, ne_eq, true_or, or_true, not_false_eq_true, Nat.reduceEqDiff, Nat.reduceLT, Nat.reduceLeDiff, Nat.reduceAdd, if_true, not_false_eq_true]
    exact this
  · have hg8 : inb (h (m + 5) f) 8 := inb_mono hw hG8
    have hne : h (m + 5) f ≠ -1 := by intro hh; rw [hh] at hw; exact hw.1 (by decide)
    simp only [k41_0, k41_1, k41_4, k41_5, k41_6, k41_7, k41_8, k41_9, k41_12, k41_15, k41_17, k41_18, k41_19, k41_20, k41_21, k41_24, k41_26, k41_27, k41_30, k41_31, k41_32, k41_33, k41_35, k41_36, k41_37, k41_38, k41_41, k41_42, k41_43, k41_44, k41_46, k41_47, k41_48, k41_49, k41_52, k41_53, k41_56, k41_59, k41_61, k41_62, k41_63, k41_66, k41_67, k41_68, k41_71, k41_72, k41_73, k41_74, k41_77, k41_78, k41_79, k41_82, k41_83, k41_84, k41_87, k41_88, k41_89, k41_90, k41_93, k41_94, k41_95, k41_98, k41_100, k41_101, k41_102, k41_105, k41_106, k41_107, k41_109, k41_110, k41_113, k41_114, k41_116, k41_117, k41_120, k41_121, k41_122, k41_124, k41_125, k41_128, k41_129, k41_130, k41_131, k41_134, k41_135, k41_138, k41_139, k41_140, k41_141, k41_142, k41_143, k41_144, k41_146, mm_sI, mm_sJ, mm_sR, mm_cI, mm_cJ, mm_I, mm_J, mm_R, mm_K, mm_N, psh_s, psh_n, z_n, z_i, z_r, z_l, Nat.reduceAdd, Nat.reduceLeDiff, mk0 H, mr0 H, mr1 H, mr2 H, mr3 H, mr4 H, mr5 H, mr6 H, mk1 H, mk2 H, mk3 H, mk4 H, mk5 H, mk6 H, mk7 H, mn1 H, mn2 H, mn3 H, mn4 H, mn5 H, mn6 H, mn7 H, mne H, mne0 H, hf', hx, s_hasGirl H hG hG8, b2i_0, eq_true hw, not_true_eq_false, if_false, ne_eq, true_or, or_true, not_false_eq_true, Nat.reduceEqDiff, Nat.reduceLT, Nat.reduceLeDiff, Nat.reduceAdd]
    refine s_lossOf hS H HL hL hG hG8 hF8 hml hf hw0 ?_
    intro h2 hsc
    have ea : ∀ a, m ≤ a → a ≤ m + 7 → h2 a = h a := fun a h1 h3 => hsc.1 _ (by omega) (by omega) (by omega)
    have E1 := ea (m + 1) (by omega) (by omega)
    have E2 := ea (m + 2) (by omega) (by omega)
    have E3 := ea (m + 3) (by omega) (by omega)
    have E5 := ea (m + 5) (by omega) (by omega)
    have E6 := ea (m + 6) (by omega) (by omega)
    have E7 := ea (m + 7) (by omega) (by omega)
    have E0 := ea m (by omega) (by omega)
    have hb := Lsc.bC (G := G) (F := F) hml hsc
    simp only [k41_0, k41_1, k41_4, k41_5, k41_6, k41_7, k41_8, k41_9, k41_12, k41_15, k41_17, k41_18, k41_19, k41_20, k41_21, k41_24, k41_26, k41_27, k41_30, k41_31, k41_32, k41_33, k41_35, k41_36, k41_37, k41_38, k41_41, k41_42, k41_43, k41_44, k41_46, k41_47, k41_48, k41_49, k41_52, k41_53, k41_56, k41_59, k41_61, k41_62, k41_63, k41_66, k41_67, k41_68, k41_71, k41_72, k41_73, k41_74, k41_77, k41_78, k41_79, k41_82, k41_83, k41_84, k41_87, k41_88, k41_89, k41_90, k41_93, k41_94, k41_95, k41_98, k41_100, k41_101, k41_102, k41_105, k41_106, k41_107, k41_109, k41_110, k41_113, k41_114, k41_116, k41_117, k41_120, k41_121, k41_122, k41_124, k41_125, k41_128, k41_129, k41_130, k41_131, k41_134, k41_135, k41_138, k41_139, k41_140, k41_141, k41_142, k41_143, k41_144, k41_146, mm_sI, mm_sJ, mm_sR, mm_cI, mm_cJ, mm_I, mm_J, mm_R, mm_K, mm_N, psh_s, psh_n, z_n, z_i, z_r, z_l, Nat.reduceAdd, Nat.reduceLeDiff, mk0 H, mr0 H, mr1 H, mr2 H, mr3 H, mr4 H, mr5 H, mr6 H, mk1 H, mk2 H, mk3 H, mk4 H, mk5 H, mk6 H, mk7 H, mn1 H, mn2 H, mn3 H, mn4 H, mn5 H, mn6 H, mn7 H, mne H, mne0 H, inb_c0, ix_c0, inb_c1, ix_c1, inb_c2, ix_c2, inb_c3, ix_c3, inb_c4, ix_c4, inb_c5, ix_c5, inb_c6, ix_c6, inb_c7, ix_c7, inb_c8, ix_c8, inb_c32, ix_c32, hf', hx, eq_true hg8, ne_eq, true_or, or_true, not_false_eq_true, Nat.reduceEqDiff, Nat.reduceLT, Nat.reduceLeDiff, Nat.reduceAdd, s_nearer, s_owesNothing H (show f < 8 by omega), E1, E2, E3, E5, E6, E7, E0]
    simp only [up2_s, up2_ai, up2_i, mz1, my1, mz2, my2, mz3, my3, mz4, my4, mz5, my5, mz6, my6, mz7, my7, mz8, my8, mz9, my9, mz10, my10, mz11, my11, Nat.add_left_cancel_iff, ne_eq, true_or, or_true, not_false_eq_true, Nat.reduceEqDiff, Nat.reduceLT, Nat.reduceLeDiff, Nat.reduceAdd, E1, E2, E3, E5, E6, E7, E0]
    have e0 : bC h m G F 0 (ix (h (m + 5) f)) = h (m + 1) (ix (h (m + 5) f)) := bC0 hw.2
    have e1 : bC h m G F 1 (ix (h (m + 5) f)) = h (m + 2) (ix (h (m + 5) f)) := bC1 hw.2
    have e2 : bC h m G F 2 f = h (m + 3) f := bC2 hf
    have e5 : bC h m G F 5 f = h (m + 6) f := bC5 hf
    have et : bC h m G F 6 0 = h m 9 := bCt
    have eh : bC h m G F 6 1 = h m 10 := bCh
    unfold goB gvB b1B at hQ
    simp only [e4, e0, e1, e2, e5, et, eh, eq_false hne, if_false] at hQ
    by_cases c1 : h m 10 < h m 9
    · have c1' : ¬ h m 9 ≤ h m 10 := Int32.not_le.2 c1
      simp only [c1, c1', if_true, if_false] at hQ ⊢
      refine hQ _ (FrM.up hml (FrM.up hml (FrM.of hml hsc) ⟨by omega, by omega⟩) ⟨by omega, by omega⟩) ?_ ?_
      · simp only [bCw7, bCw5 hf, hb]
      · funext i; unfold ledU
        by_cases i2 : i = 2
        · subst i2; simp only [up2_s, up2_ai, up2_i, mz1, my1, mz2, my2, mz3, my3, mz4, my4, mz5, my5, mz6, my6, mz7, my7, mz8, my8, mz9, my9, mz10, my10, mz11, my11, Nat.add_left_cancel_iff, ne_eq, true_or, or_true, not_false_eq_true, Nat.reduceEqDiff, Nat.reduceLT, Nat.reduceLeDiff, Nat.reduceAdd, E7, if_true]
        · simp only [up2_s, up2_ai, up2_i, mz1, my1, mz2, my2, mz3, my3, mz4, my4, mz5, my5, mz6, my6, mz7, my7, mz8, my8, mz9, my9, mz10, my10, mz11, my11, Nat.add_left_cancel_iff, ne_eq, true_or, or_true, not_false_eq_true, Nat.reduceEqDiff, Nat.reduceLT, Nat.reduceLeDiff, Nat.reduceAdd, E7, i2, if_false]
          split
          · rename_i hh; subst hh; simp
          · rfl
    · have c1' : h m 9 ≤ h m 10 := Int32.not_lt.1 c1
      simp only [c1, c1', if_true, if_false] at hQ ⊢
      by_cases c2 : nearB (h (m + 3) f) (h (m + 1) (ix (h (m + 5) f))) = h (m + 1) (ix (h (m + 5) f))
      · simp only [c2, if_true] at hQ ⊢
        refine hQ _ (FrM.up hml (FrM.up hml (FrM.up hml (FrM.up hml (FrM.up hml (FrM.up hml (FrM.up hml (FrM.of hml hsc) ⟨by omega, by omega⟩) ⟨by omega, by omega⟩) ⟨by omega, by omega⟩) ⟨by omega, by omega⟩) ⟨by omega, by omega⟩) ⟨by omega, by omega⟩) ⟨by omega, by omega⟩) ?_ ?_
        · simp only [bCw7, bCw5 hf, bCw4 hf, bCw2 hf, bCw1 hw.2, hb]; rfl
        · funext i; unfold ledU
          by_cases i2 : i = 2
          · subst i2; simp only [up2_s, up2_ai, up2_i, mz1, my1, mz2, my2, mz3, my3, mz4, my4, mz5, my5, mz6, my6, mz7, my7, mz8, my8, mz9, my9, mz10, my10, mz11, my11, Nat.add_left_cancel_iff, ne_eq, true_or, or_true, not_false_eq_true, Nat.reduceEqDiff, Nat.reduceLT, Nat.reduceLeDiff, Nat.reduceAdd, E7, if_true]
          · by_cases i3 : i = 3
            · subst i3; simp only [up2_s, up2_ai, up2_i, mz1, my1, mz2, my2, mz3, my3, mz4, my4, mz5, my5, mz6, my6, mz7, my7, mz8, my8, mz9, my9, mz10, my10, mz11, my11, Nat.add_left_cancel_iff, ne_eq, true_or, or_true, not_false_eq_true, Nat.reduceEqDiff, Nat.reduceLT, Nat.reduceLeDiff, Nat.reduceAdd, E7, if_true, if_false]
            · simp only [up2_s, up2_ai, up2_i, mz1, my1, mz2, my2, mz3, my3, mz4, my4, mz5, my5, mz6, my6, mz7, my7, mz8, my8, mz9, my9, mz10, my10, mz11, my11, Nat.add_left_cancel_iff, ne_eq, true_or, or_true, not_false_eq_true, Nat.reduceEqDiff, Nat.reduceLT, Nat.reduceLeDiff, Nat.reduceAdd, E7, i2, i3, if_false]
      · simp only [c2, if_false] at hQ ⊢
        refine hQ _ (FrM.up hml (FrM.up hml (FrM.up hml (FrM.of hml hsc) ⟨by omega, by omega⟩) ⟨by omega, by omega⟩) ⟨by omega, by omega⟩) ?_ ?_
        · simp only [bCw7, bCw5 hf, bCw2 hf, hb]
        · funext i; unfold ledU
          by_cases i2 : i = 2
          · subst i2; simp only [up2_s, up2_ai, up2_i, mz1, my1, mz2, my2, mz3, my3, mz4, my4, mz5, my5, mz6, my6, mz7, my7, mz8, my8, mz9, my9, mz10, my10, mz11, my11, Nat.add_left_cancel_iff, ne_eq, true_or, or_true, not_false_eq_true, Nat.reduceEqDiff, Nat.reduceLT, Nat.reduceLeDiff, Nat.reduceAdd, E7, if_true]
          · simp only [up2_s, up2_ai, up2_i, mz1, my1, mz2, my2, mz3, my3, mz4, my4, mz5, my5, mz6, my6, mz7, my7, mz8, my8, mz9, my9, mz10, my10, mz11, my11, Nat.add_left_cancel_iff, ne_eq, true_or, or_true, not_false_eq_true, Nat.reduceEqDiff, Nat.reduceLT, Nat.reduceLeDiff, Nat.reduceAdd, E7, i2, if_false]
            split
            · rename_i hh; subst hh; simp
            · rfl
theorem s_endHour (H : Mar r E m) : WP d 43 0 [some (vr m)] [] (mm h j r E) Q = Q none (mm (up2 (up2 h m 10 (nxt (h m 10))) (m + 7) 0 (h (m + 7) 0 + 1)) j r E) := by
  simp only [k43_0, k43_1, k43_2, k43_5, k43_7, k43_10, k43_11, k43_14, k43_15, k43_16, k43_19, k43_20, k43_23, k43_24, k43_27, k43_28, k43_29, k43_30, k43_31, k43_32, k43_33, mm_sI, mm_sJ, mm_sR, mm_cI, mm_cJ, mm_I, mm_J, mm_R, mm_K, mm_N, psh_s, psh_n, z_n, z_i, z_r, z_l, Nat.reduceAdd, Nat.reduceLeDiff, mk0 H, mr0 H, mr1 H, mr2 H, mr3 H, mr4 H, mr5 H, mr6 H, mk1 H, mk2 H, mk3 H, mk4 H, mk5 H, mk6 H, mk7 H, mn1 H, mn2 H, mn3 H, mn4 H, mn5 H, mn6 H, mn7 H, mne H, mne0 H, ne_eq, true_or, or_true, not_false_eq_true, Nat.reduceEqDiff, Nat.reduceLT, Nat.reduceLeDiff, Nat.reduceAdd, inb_c0, ix_c0, inb_c1, ix_c1, inb_c2, ix_c2, inb_c3, ix_c3, inb_c4, ix_c4, inb_c5, ix_c5, inb_c6, ix_c6, inb_c7, ix_c7, inb_c8, ix_c8, inb_c32, ix_c32, up2_s, up2_ai, up2_i, mz1, my1, mz2, my2, mz3, my3, mz4, my4, mz5, my5, mz6, my6, mz7, my7, mz8, my8, mz9, my9, mz10, my10, mz11, my11, Nat.add_left_cancel_iff]
  unfold nxt
  by_cases c : h m 10 < 11
  · simp only [c, Int32.not_le.2 c, if_true, if_false]
  · simp only [c, Int32.not_lt.1 c, if_true, if_false]
end MC
