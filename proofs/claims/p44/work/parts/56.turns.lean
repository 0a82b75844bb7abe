/-! ===== prince and reed by turns ===== -/
def setTK (b : BB) (f : Nat) (two keeps : Int32) : BB := up2 (up2 b 6 0 two) 3 f keeps
def lessT (two : Int32) : Int32 := imax 0 (two - 1)
def moreK (k : Int32) : Int32 := imin 9 (k + 1)
def tnA (W : LW) (b : BB) (f : Nat) : Nat → Bool → Int32 → Int32 → Int32
  | 0, _, two, keeps => imax 0 (gbA W f 24 (setTK b f two keeps))
  | n + 1, true, two, keeps => imax (tnA W b f n false two keeps) (tnA W b f n false (lessT two) keeps)
  | n + 1, false, two, keeps => imin (tnA W b f n true two keeps) (tnA W b f n true two (moreK keeps))
def byTurnsA (F : Nat) (W : LW) (b : BB) (frog n what : Int32) : Int32 :=
  if inb frog F ∧ (1 ≤ n ∧ n ≤ 5) ∧ inb what 2 then
    (if what = 0 then imax (tnA W b (ix frog) (ix n - 1) false (b 6 0) (b 3 (ix frog))) (tnA W b (ix frog) (ix n - 1) false (lessT (b 6 0)) (b 3 (ix frog)))
     else if tnA W b (ix frog) (ix n - 1) false (b 6 0) (b 3 (ix frog)) < tnA W b (ix frog) (ix n - 1) false (lessT (b 6 0)) (b 3 (ix frog)) then 1 else 0) else -1
theorem imax_c {x y : Int32} : imax x y = imax y x := by rw [iEq, imax_i, imax_i]; omega
theorem i9 : (9 : Int32).toInt = 9 := rfl
theorem lessT_i {x : Int32} (h : inb x 12) : inb (lessT x) 12 := by
  have h1 := inb_i h
  unfold lessT; rw [inbI, imax_i, i0, subI (by rw [i1]; omega) (by rw [i1]; omega), i1]; omega
theorem moreK_i {x : Int32} (h : inb x 10) : inb (moreK x) 10 := by
  have h1 := inb_i h
  unfold moreK; rw [inbI, imin_i, i9, addI (by rw [i1]; omega) (by rw [i1]; omega), i1]; omega
theorem nSub {n : Nat} (h : n + 1 < 2 ^ 31) : nI (n + 1) - 1 = nI n := by
  rw [iEq, subI (by rw [nI_toInt h, i1]; omega) (by rw [nI_toInt h, i1]; omega), nI_toInt h, nI_toInt (by omega), i1]; omega
section TN
variable {d : Nat} {M : Mem} {h h0 h1 h2 : Hp} {j : Jp} {r : Rp} {E : EE} {l G F A : Nat} {W : LW} {b bt : BB}
theorem t_two {Q : Option PV → Mem → Prop} {v : Int32} (T : TT G F l W b bt h0 h r E) (hv : inb v 12) : TT G F l W b (up2 bt 6 0 v) h0 (up2 h 11 9 v) r E := by
  refine T.h11 ?_ ?_ ?_ ?_ (T.w.up (k := 6) hv)
  · intro a ha; rw [up2_a (show a ≠ 11 by omega)]
  · rw [up2_i (by decide)]; exact T.eG
  · rw [up2_i (by decide)]; exact T.eF
  · rw [bCwt, T.eb]
theorem c_backBy {Q : Option PV → Mem → Prop} {f : Nat} {two keeps : Int32} (C : CC G F l W b h0 r E) (s : Scr h0 h) (hf : f < F) (h2 : inb two 12) (hk : inb keeps 10) (hQ : ∀ h', Scr h0 h' → Q (some (vi (imax 0 (gbA W f 24 (setTK b f two keeps))))) (mm h' j r E)) :
    WP (d + 6) 116 0 [some (vr 2), some (vi (nI f)), some (vi two), some (vi keeps)] [] (mm h j r E) Q := by
  have hS := C.S
  have hF8 := C.F8
  have hf' : inb (nI f) 8 = True := eq_true (by rw [inb_n (by omega)]; omega)
  simp only [k116_0, k116_1, k116_4, k116_5, k116_8, k116_11, k116_12, k116_15, k116_16, k116_19, k116_20, k116_23, k116_26, k116_27, k116_28, k116_29, k116_30, k116_31, k116_32, k116_35, k116_38, mm_sI, mm_sJ, mm_sR, mm_cI, mm_cJ, mm_I, mm_J, mm_R, mm_K, mm_N, psh_s, psh_n, z_n, z_i, z_r, z_l, Nat.reduceAdd, Nat.reduceLeDiff, K2 hS, R2_0 hS, R2_1 hS, R2_2 hS, R2_6 hS, R2_8 hS, R2_11 hS, R2_12 hS, R2_13 hS, R2_15 hS, R2_16 hS, K3 hS, K11 hS, K19 hS, K27 hS, K32 hS, K37 hS, K98 hS, K99 hS, K100 hS, N37 hS, N98 hS, N99 hS, N100 hS, ne_eq, true_or, or_true, not_false_eq_true, Nat.reduceEqDiff, Nat.reduceLT, Nat.reduceLeDiff, Nat.reduceAdd]
  refine WP.deep (d := d + 5) ?_ (by omega)
  refine t_copy C s ?_
  intro h1 T
  simp only [k116_0, k116_1, k116_4, k116_5, k116_8, k116_11, k116_12, k116_15, k116_16, k116_19, k116_20, k116_23, k116_26, k116_27, k116_28, k116_29, k116_30, k116_31, k116_32, k116_35, k116_38, mm_sI, mm_sJ, mm_sR, mm_cI, mm_cJ, mm_I, mm_J, mm_R, mm_K, mm_N, psh_s, psh_n, z_n, z_i, z_r, z_l, Nat.reduceAdd, Nat.reduceLeDiff, K2 hS, R2_0 hS, R2_1 hS, R2_2 hS, R2_6 hS, R2_8 hS, R2_11 hS, R2_12 hS, R2_13 hS, R2_15 hS, R2_16 hS, K3 hS, K11 hS, K19 hS, K27 hS, K32 hS, K37 hS, K98 hS, K99 hS, K100 hS, N37 hS, N98 hS, N99 hS, N100 hS, R11_0 hS, R11_1 hS, R11_2 hS, R11_3 hS, R11_4 hS, R11_5 hS, R11_6 hS, K12 hS, K13 hS, K14 hS, K15 hS, K16 hS, K17 hS, K18 hS, N12 hS, N13 hS, N14 hS, N15 hS, N16 hS, N17 hS, N18 hS, ne_eq, true_or, or_true, not_false_eq_true, Nat.reduceEqDiff, Nat.reduceLT, Nat.reduceLeDiff, Nat.reduceAdd, hf', ix_n (show f < 2 ^ 31 by omega)]
  refine c_givenBack hf (tt_set (t_two (Q := Q) T h2) (k := 3) (by decide) hf hk) ?_
  intro h' s'
  simp only [k116_0, k116_1, k116_4, k116_5, k116_8, k116_11, k116_12, k116_15, k116_16, k116_19, k116_20, k116_23, k116_26, k116_27, k116_28, k116_29, k116_30, k116_31, k116_32, k116_35, k116_38, mm_sI, mm_sJ, mm_sR, mm_cI, mm_cJ, mm_I, mm_J, mm_R, mm_K, mm_N, psh_s, psh_n, z_n, z_i, z_r, z_l, Nat.reduceAdd, Nat.reduceLeDiff, ne_eq, true_or, or_true, not_false_eq_true, Nat.reduceEqDiff, Nat.reduceLT, Nat.reduceLeDiff, Nat.reduceAdd]
  exact hQ h' s'
theorem s_lessTwo {Q : Option PV → Mem → Prop} {x : Int32} : WP d 114 0 [some (vi x)] [] M Q = Q (some (vi (lessT x))) M := by
  simp only [k114_0, k114_1, k114_2, k114_3, k114_4, k114_7, mm_sI, mm_sJ, mm_sR, mm_cI, mm_cJ, mm_I, mm_J, mm_R, mm_K, mm_N, psh_s, psh_n, z_n, z_i, z_r, z_l, Nat.reduceAdd, Nat.reduceLeDiff, ne_eq, true_or, or_true, not_false_eq_true, Nat.reduceEqDiff, Nat.reduceLT, Nat.reduceLeDiff, Nat.reduceAdd]; rfl
theorem c_turn {f : Nat} (C : CC G F l W b h0 r E) (hf : f < F) : ∀ {n : Nat} {p : Bool} {two keeps : Int32} {h : Hp} {e : Nat} {Q : Option PV → Mem → Prop}, n ≤ 4 → n + 7 ≤ e → Scr h0 h → inb two 12 → inb keeps 10 →
    (∀ h', Scr h0 h' → Q (some (vi (tnA W b f n p two keeps))) (mm h' j r E)) → WP e 115 0 [some (vr 2), some (vi (nI f)), some (vi (nI n)), some (vi (if p then 1 else 0)), some (vi two), some (vi keeps), none] [] (mm h j r E) Q := by
  have hS := C.S
  intro n
  induction n with
  | zero =>
    intro p two keeps h e Q hn he s h2 hk hQ
    obtain ⟨d, rfl⟩ : ∃ d, e = d + 7 := ⟨e - 7, by omega⟩
    simp only [k115_0, k115_1, k115_4, k115_5, k115_6, k115_8, k115_10, k115_13, k115_14, k115_15, k115_16, k115_17, k115_18, k115_19, k115_20, k115_23, k115_24, k115_27, k115_28, k115_30, k115_32, k115_35, k115_37, k115_38, k115_41, k115_43, k115_44, k115_45, k115_46, k115_47, k115_48, k115_49, k115_51, k115_54, k115_56, k115_59, k115_62, k115_63, k115_65, k115_66, k115_67, k115_68, k115_69, k115_70, k115_71, k115_73, k115_75, k115_77, k115_78, k115_79, k115_82, k115_85, k115_88, mm_sI, mm_sJ, mm_sR, mm_cI, mm_cJ, mm_I, mm_J, mm_R, mm_K, mm_N, psh_s, psh_n, z_n, z_i, z_r, z_l, Nat.reduceAdd, Nat.reduceLeDiff, K2 hS, R2_0 hS, R2_1 hS, R2_2 hS, R2_6 hS, R2_8 hS, R2_11 hS, R2_12 hS, R2_13 hS, R2_15 hS, R2_16 hS, K3 hS, K11 hS, K19 hS, K27 hS, K32 hS, K37 hS, K98 hS, K99 hS, K100 hS, N37 hS, N98 hS, N99 hS, N100 hS, ne_eq, true_or, or_true, not_false_eq_true, Nat.reduceEqDiff, Nat.reduceLT, Nat.reduceLeDiff, Nat.reduceAdd, nn0, Int32.lt_irrefl, if_false]
    refine c_backBy C s hf h2 hk ?_
    intro h' s'
    simp only [k115_0, k115_1, k115_4, k115_5, k115_6, k115_8, k115_10, k115_13, k115_14, k115_15, k115_16, k115_17, k115_18, k115_19, k115_20, k115_23, k115_24, k115_27, k115_28, k115_30, k115_32, k115_35, k115_37, k115_38, k115_41, k115_43, k115_44, k115_45, k115_46, k115_47, k115_48, k115_49, k115_51, k115_54, k115_56, k115_59, k115_62, k115_63, k115_65, k115_66, k115_67, k115_68, k115_69, k115_70, k115_71, k115_73, k115_75, k115_77, k115_78, k115_79, k115_82, k115_85, k115_88, mm_sI, mm_sJ, mm_sR, mm_cI, mm_cJ, mm_I, mm_J, mm_R, mm_K, mm_N, psh_s, psh_n, z_n, z_i, z_r, z_l, Nat.reduceAdd, Nat.reduceLeDiff, ne_eq, true_or, or_true, not_false_eq_true, Nat.reduceEqDiff, Nat.reduceLT, Nat.reduceLeDiff, Nat.reduceAdd]
    exact hQ h' s'
  | succ n ih =>
    intro p two keeps h e Q hn he s h2 hk hQ
    obtain ⟨d, rfl⟩ : ∃ d, e = d + 1 := ⟨e - 1, by omega⟩
    have h0n : (0 : Int32) < nI (n + 1) := by rw [← nn0, nLt (by omega) (by omega)]; omega
    rw [k115_0]
    cases p with
    | true =>
      simp only [k115_1, k115_4, k115_5, k115_6, k115_8, k115_10, k115_13, k115_14, k115_15, k115_16, k115_17, k115_18, k115_19, k115_20, k115_23, k115_24, k115_27, k115_28, k115_30, k115_32, k115_35, k115_37, k115_38, k115_41, k115_43, k115_44, k115_45, k115_46, k115_47, k115_48, k115_49, k115_51, k115_54, k115_56, k115_59, k115_62, k115_63, k115_65, k115_66, k115_67, k115_68, k115_69, k115_70, k115_71, k115_73, k115_75, k115_77, k115_78, k115_79, k115_82, k115_85, k115_88, mm_sI, mm_sJ, mm_sR, mm_cI, mm_cJ, mm_I, mm_J, mm_R, mm_K, mm_N, psh_s, psh_n, z_n, z_i, z_r, z_l, Nat.reduceAdd, Nat.reduceLeDiff, K2 hS, R2_0 hS, R2_1 hS, R2_2 hS, R2_6 hS, R2_8 hS, R2_11 hS, R2_12 hS, R2_13 hS, R2_15 hS, R2_16 hS, K3 hS, K11 hS, K19 hS, K27 hS, K32 hS, K37 hS, K98 hS, K99 hS, K100 hS, N37 hS, N98 hS, N99 hS, N100 hS, ne_eq, true_or, or_true, not_false_eq_true, Nat.reduceEqDiff, Nat.reduceLT, Nat.reduceLeDiff, Nat.reduceAdd, h0n, if_true, if_false, nSub (show n + 1 < 2 ^ 31 by omega), e10]
      refine ih (p := false) (e := d) (by omega) (by omega) s h2 hk ?_
      intro h1 s1
      simp only [k115_1, k115_4, k115_5, k115_6, k115_8, k115_10, k115_13, k115_14, k115_15, k115_16, k115_17, k115_18, k115_19, k115_20, k115_23, k115_24, k115_27, k115_28, k115_30, k115_32, k115_35, k115_37, k115_38, k115_41, k115_43, k115_44, k115_45, k115_46, k115_47, k115_48, k115_49, k115_51, k115_54, k115_56, k115_59, k115_62, k115_63, k115_65, k115_66, k115_67, k115_68, k115_69, k115_70, k115_71, k115_73, k115_75, k115_77, k115_78, k115_79, k115_82, k115_85, k115_88, mm_sI, mm_sJ, mm_sR, mm_cI, mm_cJ, mm_I, mm_J, mm_R, mm_K, mm_N, psh_s, psh_n, z_n, z_i, z_r, z_l, Nat.reduceAdd, Nat.reduceLeDiff, K2 hS, R2_0 hS, R2_1 hS, R2_2 hS, R2_6 hS, R2_8 hS, R2_11 hS, R2_12 hS, R2_13 hS, R2_15 hS, R2_16 hS, K3 hS, K11 hS, K19 hS, K27 hS, K32 hS, K37 hS, K98 hS, K99 hS, K100 hS, N37 hS, N98 hS, N99 hS, N100 hS, ne_eq, true_or, or_true, not_false_eq_true, Nat.reduceEqDiff, Nat.reduceLT, Nat.reduceLeDiff, Nat.reduceAdd, nSub (show n + 1 < 2 ^ 31 by omega), e10, if_false]
      refine WP.deep (d := d) ?_ (by omega)
      rw [s_lessTwo]
      simp only [k115_1, k115_4, k115_5, k115_6, k115_8, k115_10, k115_13, k115_14, k115_15, k115_16, k115_17, k115_18, k115_19, k115_20, k115_23, k115_24, k115_27, k115_28, k115_30, k115_32, k115_35, k115_37, k115_38, k115_41, k115_43, k115_44, k115_45, k115_46, k115_47, k115_48, k115_49, k115_51, k115_54, k115_56, k115_59, k115_62, k115_63, k115_65, k115_66, k115_67, k115_68, k115_69, k115_70, k115_71, k115_73, k115_75, k115_77, k115_78, k115_79, k115_82, k115_85, k115_88, mm_sI, mm_sJ, mm_sR, mm_cI, mm_cJ, mm_I, mm_J, mm_R, mm_K, mm_N, psh_s, psh_n, z_n, z_i, z_r, z_l, Nat.reduceAdd, Nat.reduceLeDiff, K2 hS, R2_0 hS, R2_1 hS, R2_2 hS, R2_6 hS, R2_8 hS, R2_11 hS, R2_12 hS, R2_13 hS, R2_15 hS, R2_16 hS, K3 hS, K11 hS, K19 hS, K27 hS, K32 hS, K37 hS, K98 hS, K99 hS, K100 hS, N37 hS, N98 hS, N99 hS, N100 hS, ne_eq, true_or, or_true, not_false_eq_true, Nat.reduceEqDiff, Nat.reduceLT, Nat.reduceLeDiff, Nat.reduceAdd]
      refine ih (p := false) (e := d) (by omega) (by omega) s1 (lessT_i h2) hk ?_
      intro h' s'
      simp only [k115_1, k115_4, k115_5, k115_6, k115_8, k115_10, k115_13, k115_14, k115_15, k115_16, k115_17, k115_18, k115_19, k115_20, k115_23, k115_24, k115_27, k115_28, k115_30, k115_32, k115_35, k115_37, k115_38, k115_41, k115_43, k115_44, k115_45, k115_46, k115_47, k115_48, k115_49, k115_51, k115_54, k115_56, k115_59, k115_62, k115_63, k115_65, k115_66, k115_67, k115_68, k115_69, k115_70, k115_71, k115_73, k115_75, k115_77, k115_78, k115_79, k115_82, k115_85, k115_88, mm_sI, mm_sJ, mm_sR, mm_cI, mm_cJ, mm_I, mm_J, mm_R, mm_K, mm_N, psh_s, psh_n, z_n, z_i, z_r, z_l, Nat.reduceAdd, Nat.reduceLeDiff, ne_eq, true_or, or_true, not_false_eq_true, Nat.reduceEqDiff, Nat.reduceLT, Nat.reduceLeDiff, Nat.reduceAdd]
      exact hQ h' s'
    | false =>
      simp only [k115_1, k115_4, k115_5, k115_6, k115_8, k115_10, k115_13, k115_14, k115_15, k115_16, k115_17, k115_18, k115_19, k115_20, k115_23, k115_24, k115_27, k115_28, k115_30, k115_32, k115_35, k115_37, k115_38, k115_41, k115_43, k115_44, k115_45, k115_46, k115_47, k115_48, k115_49, k115_51, k115_54, k115_56, k115_59, k115_62, k115_63, k115_65, k115_66, k115_67, k115_68, k115_69, k115_70, k115_71, k115_73, k115_75, k115_77, k115_78, k115_79, k115_82, k115_85, k115_88, mm_sI, mm_sJ, mm_sR, mm_cI, mm_cJ, mm_I, mm_J, mm_R, mm_K, mm_N, psh_s, psh_n, z_n, z_i, z_r, z_l, Nat.reduceAdd, Nat.reduceLeDiff, K2 hS, R2_0 hS, R2_1 hS, R2_2 hS, R2_6 hS, R2_8 hS, R2_11 hS, R2_12 hS, R2_13 hS, R2_15 hS, R2_16 hS, K3 hS, K11 hS, K19 hS, K27 hS, K32 hS, K37 hS, K98 hS, K99 hS, K100 hS, N37 hS, N98 hS, N99 hS, N100 hS, ne_eq, true_or, or_true, not_false_eq_true, Nat.reduceEqDiff, Nat.reduceLT, Nat.reduceLeDiff, Nat.reduceAdd, h0n, if_true, if_false, nSub (show n + 1 < 2 ^ 31 by omega), Bool.false_eq_true]
      refine ih (p := true) (e := d) (by omega) (by omega) s h2 hk ?_
      intro h1 s1
      simp only [k115_1, k115_4, k115_5, k115_6, k115_8, k115_10, k115_13, k115_14, k115_15, k115_16, k115_17, k115_18, k115_19, k115_20, k115_23, k115_24, k115_27, k115_28, k115_30, k115_32, k115_35, k115_37, k115_38, k115_41, k115_43, k115_44, k115_45, k115_46, k115_47, k115_48, k115_49, k115_51, k115_54, k115_56, k115_59, k115_62, k115_63, k115_65, k115_66, k115_67, k115_68, k115_69, k115_70, k115_71, k115_73, k115_75, k115_77, k115_78, k115_79, k115_82, k115_85, k115_88, mm_sI, mm_sJ, mm_sR, mm_cI, mm_cJ, mm_I, mm_J, mm_R, mm_K, mm_N, psh_s, psh_n, z_n, z_i, z_r, z_l, Nat.reduceAdd, Nat.reduceLeDiff, K2 hS, R2_0 hS, R2_1 hS, R2_2 hS, R2_6 hS, R2_8 hS, R2_11 hS, R2_12 hS, R2_13 hS, R2_15 hS, R2_16 hS, K3 hS, K11 hS, K19 hS, K27 hS, K32 hS, K37 hS, K98 hS, K99 hS, K100 hS, N37 hS, N98 hS, N99 hS, N100 hS, ne_eq, true_or, or_true, not_false_eq_true, Nat.reduceEqDiff, Nat.reduceLT, Nat.reduceLeDiff, Nat.reduceAdd, nSub (show n + 1 < 2 ^ 31 by omega), if_true]
      refine ih (p := true) (e := d) (by omega) (by omega) s1 h2 (moreK_i hk) ?_
      intro h' s'
      simp only [k115_1, k115_4, k115_5, k115_6, k115_8, k115_10, k115_13, k115_14, k115_15, k115_16, k115_17, k115_18, k115_19, k115_20, k115_23, k115_24, k115_27, k115_28, k115_30, k115_32, k115_35, k115_37, k115_38, k115_41, k115_43, k115_44, k115_45, k115_46, k115_47, k115_48, k115_49, k115_51, k115_54, k115_56, k115_59, k115_62, k115_63, k115_65, k115_66, k115_67, k115_68, k115_69, k115_70, k115_71, k115_73, k115_75, k115_77, k115_78, k115_79, k115_82, k115_85, k115_88, mm_sI, mm_sJ, mm_sR, mm_cI, mm_cJ, mm_I, mm_J, mm_R, mm_K, mm_N, psh_s, psh_n, z_n, z_i, z_r, z_l, Nat.reduceAdd, Nat.reduceLeDiff, ne_eq, true_or, or_true, not_false_eq_true, Nat.reduceEqDiff, Nat.reduceLT, Nat.reduceLeDiff, Nat.reduceAdd]
      exact hQ h' s'
theorem c_byTurns {Q : Option PV → Mem → Prop} {frog n what : Int32} (C : CC G F l W b h r E) (hQ : ∀ h', Scr h h' → Q (some (vi (byTurnsA F W b frog n what))) (mm h' j r E)) :
    WP (d + 13) 113 0 [some (vr 2), some (vi frog), some (vi n), some (vi what), none, none, none] [] (mm h j r E) Q := by
  have hS := C.S
  have hF8 := C.F8
  have h4 : b2i (0 ≤ what ∧ what ≤ 1) = b2i (inb what 2) := in_lit rfl (by decide)
  have hr := hQ h Scr.rf
  unfold byTurnsA at hQ hr
  simp only [k113_0, k113_1, k113_4, k113_5, k113_8, k113_11, k113_12, k113_13, k113_14, k113_17, k113_20, k113_21, k113_22, k113_23, k113_26, k113_29, k113_30, k113_31, k113_32, k113_35, k113_38, k113_39, k113_40, k113_42, k113_43, k113_44, k113_45, k113_46, k113_47, k113_48, k113_49, k113_52, k113_55, k113_58, k113_60, k113_63, k113_65, k113_66, k113_67, k113_68, k113_69, k113_70, k113_71, k113_72, k113_75, k113_78, k113_80, k113_83, k113_85, k113_86, k113_87, k113_90, k113_92, k113_94, k113_97, k113_98, k113_101, k113_102, k113_103, k113_105, k113_107, k113_110, mm_sI, mm_sJ, mm_sR, mm_cI, mm_cJ, mm_I, mm_J, mm_R, mm_K, mm_N, psh_s, psh_n, z_n, z_i, z_r, z_l, Nat.reduceAdd, Nat.reduceLeDiff, K2 hS, R2_0 hS, R2_1 hS, R2_2 hS, R2_6 hS, R2_8 hS, R2_11 hS, R2_12 hS, R2_13 hS, R2_15 hS, R2_16 hS, K3 hS, K11 hS, K19 hS, K27 hS, K32 hS, K37 hS, K98 hS, K99 hS, K100 hS, N37 hS, N98 hS, N99 hS, N100 hS, ne_eq, true_or, or_true, not_false_eq_true, Nat.reduceEqDiff, Nat.reduceLT, Nat.reduceLeDiff, Nat.reduceAdd, s_within, c_hasFrog C, h4, b2i_0]
  by_cases c1 : inb frog F
  case neg => simp only [eq_false c1, not_false_eq_true, if_true, false_and, if_false] at hr ⊢; exact hr
  by_cases c2 : 1 ≤ n ∧ n ≤ 5
  case neg => simp only [eq_false c2, not_false_eq_true, if_true, false_and, and_false, if_false, eq_true c1, not_true_eq_false] at hr ⊢; exact hr
  by_cases c3 : inb what 2
  case neg => simp only [eq_false c3, not_false_eq_true, if_true, false_and, and_false, if_false, eq_true c1, eq_true c2, not_true_eq_false] at hr ⊢; exact hr
  simp only [eq_true c1, eq_true c2, eq_true c3, and_true, not_true_eq_false, if_false, if_true] at hQ ⊢
  obtain ⟨f, hf, rfl, hf2⟩ := inb_of c1
  have hf' : inb (nI f) 8 = True := eq_true (by rw [inb_n (by omega)]; omega)
  obtain ⟨k, hk, rfl⟩ : ∃ k, k ≤ 4 ∧ n = nI (k + 1) := by
    have q1 := (iLe _ _).1 c2.1
    have q2 := (iLe _ _).1 c2.2
    rw [i1] at q1
    rw [show (5 : Int32).toInt = 5 from rfl] at q2
    obtain ⟨k, hk, rfl⟩ := nI_of (x := n) (by rw [iLt, i0]; omega)
    rw [nI_toInt hk] at q1 q2
    exact ⟨k - 1, by omega, by rw [show k - 1 + 1 = k by omega]⟩
  rw [ix_n hf2, ix_n (show k + 1 < 2 ^ 31 by omega), Nat.add_sub_cancel] at hQ
  simp only [k113_0, k113_1, k113_4, k113_5, k113_8, k113_11, k113_12, k113_13, k113_14, k113_17, k113_20, k113_21, k113_22, k113_23, k113_26, k113_29, k113_30, k113_31, k113_32, k113_35, k113_38, k113_39, k113_40, k113_42, k113_43, k113_44, k113_45, k113_46, k113_47, k113_48, k113_49, k113_52, k113_55, k113_58, k113_60, k113_63, k113_65, k113_66, k113_67, k113_68, k113_69, k113_70, k113_71, k113_72, k113_75, k113_78, k113_80, k113_83, k113_85, k113_86, k113_87, k113_90, k113_92, k113_94, k113_97, k113_98, k113_101, k113_102, k113_103, k113_105, k113_107, k113_110, mm_sI, mm_sJ, mm_sR, mm_cI, mm_cJ, mm_I, mm_J, mm_R, mm_K, mm_N, psh_s, psh_n, z_n, z_i, z_r, z_l, Nat.reduceAdd, Nat.reduceLeDiff, K2 hS, R2_0 hS, R2_1 hS, R2_2 hS, R2_6 hS, R2_8 hS, R2_11 hS, R2_12 hS, R2_13 hS, R2_15 hS, R2_16 hS, K3 hS, K11 hS, K19 hS, K27 hS, K32 hS, K37 hS, K98 hS, K99 hS, K100 hS, N37 hS, N98 hS, N99 hS, N100 hS, R3_0 hS, R3_1 hS, R3_2 hS, R3_3 hS, R3_4 hS, R3_5 hS, R3_6 hS, K4 hS, K5 hS, K6 hS, K7 hS, K8 hS, K9 hS, K10 hS, N4 hS, N5 hS, N6 hS, N7 hS, N8 hS, N9 hS, N10 hS, ne_eq, true_or, or_true, not_false_eq_true, Nat.reduceEqDiff, Nat.reduceLT, Nat.reduceLeDiff, Nat.reduceAdd, hf', ix_n hf2, c_v3 C hf, c_vt C, nSub (show k + 1 < 2 ^ 31 by omega)]
  refine WP.deep (d := 0) ?_ (by omega)
  rw [s_lessTwo]
  simp only [k113_0, k113_1, k113_4, k113_5, k113_8, k113_11, k113_12, k113_13, k113_14, k113_17, k113_20, k113_21, k113_22, k113_23, k113_26, k113_29, k113_30, k113_31, k113_32, k113_35, k113_38, k113_39, k113_40, k113_42, k113_43, k113_44, k113_45, k113_46, k113_47, k113_48, k113_49, k113_52, k113_55, k113_58, k113_60, k113_63, k113_65, k113_66, k113_67, k113_68, k113_69, k113_70, k113_71, k113_72, k113_75, k113_78, k113_80, k113_83, k113_85, k113_86, k113_87, k113_90, k113_92, k113_94, k113_97, k113_98, k113_101, k113_102, k113_103, k113_105, k113_107, k113_110, mm_sI, mm_sJ, mm_sR, mm_cI, mm_cJ, mm_I, mm_J, mm_R, mm_K, mm_N, psh_s, psh_n, z_n, z_i, z_r, z_l, Nat.reduceAdd, Nat.reduceLeDiff, K2 hS, R2_0 hS, R2_1 hS, R2_2 hS, R2_6 hS, R2_8 hS, R2_11 hS, R2_12 hS, R2_13 hS, R2_15 hS, R2_16 hS, K3 hS, K11 hS, K19 hS, K27 hS, K32 hS, K37 hS, K98 hS, K99 hS, K100 hS, N37 hS, N98 hS, N99 hS, N100 hS, ne_eq, true_or, or_true, not_false_eq_true, Nat.reduceEqDiff, Nat.reduceLT, Nat.reduceLeDiff, Nat.reduceAdd]
  refine c_turn C hf (p := false) hk (by omega) Scr.rf (lessT_i C.w.at) (C.w.a3 hf) ?_
  intro h1 s1
  have C1 := C.fr s1
  simp only [k113_0, k113_1, k113_4, k113_5, k113_8, k113_11, k113_12, k113_13, k113_14, k113_17, k113_20, k113_21, k113_22, k113_23, k113_26, k113_29, k113_30, k113_31, k113_32, k113_35, k113_38, k113_39, k113_40, k113_42, k113_43, k113_44, k113_45, k113_46, k113_47, k113_48, k113_49, k113_52, k113_55, k113_58, k113_60, k113_63, k113_65, k113_66, k113_67, k113_68, k113_69, k113_70, k113_71, k113_72, k113_75, k113_78, k113_80, k113_83, k113_85, k113_86, k113_87, k113_90, k113_92, k113_94, k113_97, k113_98, k113_101, k113_102, k113_103, k113_105, k113_107, k113_110, mm_sI, mm_sJ, mm_sR, mm_cI, mm_cJ, mm_I, mm_J, mm_R, mm_K, mm_N, psh_s, psh_n, z_n, z_i, z_r, z_l, Nat.reduceAdd, Nat.reduceLeDiff, K2 hS, R2_0 hS, R2_1 hS, R2_2 hS, R2_6 hS, R2_8 hS, R2_11 hS, R2_12 hS, R2_13 hS, R2_15 hS, R2_16 hS, K3 hS, K11 hS, K19 hS, K27 hS, K32 hS, K37 hS, K98 hS, K99 hS, K100 hS, N37 hS, N98 hS, N99 hS, N100 hS, ne_eq, true_or, or_true, not_false_eq_true, Nat.reduceEqDiff, Nat.reduceLT, Nat.reduceLeDiff, Nat.reduceAdd, c_vt C1, nSub (show k + 1 < 2 ^ 31 by omega)]
  refine c_turn C hf (p := false) hk (by omega) s1 C.w.at (C.w.a3 hf) ?_
  intro h' s'
  have hQ := hQ h' s'
  obtain ⟨w, hw, rfl, _⟩ := inb_of c3
  match w, hw with
  | 0, _ =>
    simp only [nn0, if_true] at hQ
    simp only [k113_0, k113_1, k113_4, k113_5, k113_8, k113_11, k113_12, k113_13, k113_14, k113_17, k113_20, k113_21, k113_22, k113_23, k113_26, k113_29, k113_30, k113_31, k113_32, k113_35, k113_38, k113_39, k113_40, k113_42, k113_43, k113_44, k113_45, k113_46, k113_47, k113_48, k113_49, k113_52, k113_55, k113_58, k113_60, k113_63, k113_65, k113_66, k113_67, k113_68, k113_69, k113_70, k113_71, k113_72, k113_75, k113_78, k113_80, k113_83, k113_85, k113_86, k113_87, k113_90, k113_92, k113_94, k113_97, k113_98, k113_101, k113_102, k113_103, k113_105, k113_107, k113_110, mm_sI, mm_sJ, mm_sR, mm_cI, mm_cJ, mm_I, mm_J, mm_R, mm_K, mm_N, psh_s, psh_n, z_n, z_i, z_r, z_l, Nat.reduceAdd, Nat.reduceLeDiff, ne_eq, true_or, or_true, not_false_eq_true, Nat.reduceEqDiff, Nat.reduceLT, Nat.reduceLeDiff, Nat.reduceAdd, nn0, e01, if_false]
    rw [imax_c] at hQ; exact hQ
  | 1, _ =>
    simp only [nn1, e10, if_false] at hQ
    simp only [k113_0, k113_1, k113_4, k113_5, k113_8, k113_11, k113_12, k113_13, k113_14, k113_17, k113_20, k113_21, k113_22, k113_23, k113_26, k113_29, k113_30, k113_31, k113_32, k113_35, k113_38, k113_39, k113_40, k113_42, k113_43, k113_44, k113_45, k113_46, k113_47, k113_48, k113_49, k113_52, k113_55, k113_58, k113_60, k113_63, k113_65, k113_66, k113_67, k113_68, k113_69, k113_70, k113_71, k113_72, k113_75, k113_78, k113_80, k113_83, k113_85, k113_86, k113_87, k113_90, k113_92, k113_94, k113_97, k113_98, k113_101, k113_102, k113_103, k113_105, k113_107, k113_110, mm_sI, mm_sJ, mm_sR, mm_cI, mm_cJ, mm_I, mm_J, mm_R, mm_K, mm_N, psh_s, psh_n, z_n, z_i, z_r, z_l, Nat.reduceAdd, Nat.reduceLeDiff, ne_eq, true_or, or_true, not_false_eq_true, Nat.reduceEqDiff, Nat.reduceLT, Nat.reduceLeDiff, Nat.reduceAdd, nn1, if_true]
    by_cases c : tnA W b f k false (b 6 0) (b 3 f) < tnA W b f k false (lessT (b 6 0)) (b 3 f)
    · simp only [c, Int32.not_le.2 c, if_true, if_false] at hQ ⊢; exact hQ
    · simp only [c, Int32.not_lt.1 c, if_true, if_false] at hQ ⊢; exact hQ
  | w + 2, hw => omega
end TN
