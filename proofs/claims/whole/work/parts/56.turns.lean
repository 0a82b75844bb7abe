/-! ===== prince and reed by turns ===== -/
def setTK (b : BB) (f : Nat) (two keeps : Int32) : BB := up2 (up2 b 6 0 two) 3 f keeps
def lessT (two : Int32) : Int32 := imax 0 (two - 1)
def moreK (k : Int32) : Int32 := imin 9 (k + 1)
def tnA (W : LW) (b : BB) (f : Nat) : Nat → Bool → Int32 → Int32 → Int32
  | 0, _, two, keeps => imax 0 (gbA W f 24 (setTK b f two keeps))
  | n + 1, true, two, keeps => imax (tnA W b f n false two keeps) (tnA W b f n false (lessT two) keeps)
  | n + 1, false, two, keeps => imin (tnA W b f n true two keeps) (tnA W b f n true two (moreK keeps))
def byTurnsA (F : Nat) (W : LW) (b : BB) (frog n what : Int32) : Int32 :=
  if inb frog F ∧ (1 ≤ n ∧ n ≤ 5) ∧ inb what 2 then
    (if what = 0 then imax (tnA W b (ix frog) (ix n - 1) false (b 6 0) (b 3 (ix frog))) (tnA W b (ix frog) (ix n - 1) false (lessT (b 6 0)) (b 3 (ix frog)))
     else if tnA W b (ix frog) (ix n - 1) false (b 6 0) (b 3 (ix frog)) < tnA W b (ix frog) (ix n - 1) false (lessT (b 6 0)) (b 3 (ix frog)) then 1 else 0) else -1
theorem imax_c {x y : Int32} : imax x y = imax y x := by rw [iEq, imax_i, imax_i]; omega
theorem i9 : (9 : Int32).toInt = 9 := rfl
theorem lessT_i {x : Int32} (h : inb x 12) : inb (lessT x) 12 := by
  have h1 := inb_i h
  unfold lessT; rw [inbI, imax_i, i0, subI (by rw [i1]; omega) (by rw [i1]; omega), i1]; omega
theorem moreK_i {x : Int32} (h : inb x 10) : inb (moreK x) 10 := by
  have h1 := inb_i h
  unfold moreK; rw [inbI, imin_i, i9, addI (by rw [i1]; omega) (by rw [i1]; omega), i1]; omega
theorem nSub {n : Nat} (h : n + 1 < 2 ^ 31) : nI (n + 1) - 1 = nI n := by
  rw [iEq, subI (by rw [nI_toInt h, i1]; omega) (by rw [nI_toInt h, i1]; omega), nI_toInt h, nI_toInt (by omega), i1]; omega
section TN
variable {d : Nat} {M : Mem} {h h0 h1 h2 : Hp} {j : Jp} {r : Rp} {E : EE} {l G F A : Nat} {W : LW} {b bt : BB}
theorem WF.tk {f : Nat} {two keeps : Int32} (w : WF G F b) (h2 : inb two 12) (hk : inb keeps 10) : WF G F (setTK b f two keeps) := WF.up (WF.up w (k := 6) h2) (k := 3) hk
theorem t_two {Q : Option PV → Mem → Prop} {v : Int32} (T : TT G F l W b bt h0 h r E) (hv : inb v 12) : TT G F l W b (up2 bt 6 0 v) h0 (up2 h 11 9 v) r E := by
  refine T.h11 ?_ ?_ ?_ ?_ (T.w.up (k := 6) hv)
  · intro a ha; rw [up2_a (show a ≠ 11 by omega)]
  · rw [up2_i (by decide)]; exact T.eG
  · rw [up2_i (by decide)]; exact T.eF
  · rw [bCwt, T.eb]
theorem c_backBy {Q : Option PV → Mem → Prop} {f : Nat} {two keeps : Int32} (C : CC G F l W b h0 r E) (s : Scr h0 h) (hf : f < F) (h2 : inb two 12) (hk : inb keeps 10) (hQ : ∀ h', Scr h0 h' → Q (some (vi (imax 0 (gbA W f 24 (setTK b f two keeps))))) (mm h' j r E)) :
    WP (d + 6) 116 0 [some (vr 2), some (vi (nI f)), some (vi two), some (vi keeps)] [] (mm h j r E) Q := by
  have hS := C.S
  have hF8 := C.F8
  have hf' : inb (nI f) 8 = True := eq_true (by rw [inb_n (by omega)]; omega)
  simp only [k116_0, k116_1, k116_4, k116_5, k116_8, k116_11, k116_12, k116_15, k116_16, k116_19, k116_20, k116_23, k116_26, k116_27, k116_28, k116_29, k116_30, k116_31, k116_32, k116_35, k116_38, mm_sI, mm_sJ, mm_sR, mm_cI, mm_cJ, mm_I, mm_J, mm_R, mm_K, mm_N, psh_s, psh_n, z_n, z_i, z_r, z_l, Nat.reduceAdd, Nat.reduceLeDiff, K2 hS, R2_0 hS, R2_1 hS, R2_2 hS, R2_6 hS, R2_8 hS, R2_11 hS, R2_12 hS, R2_13 hS, R2_15 hS, R2_16 hS, K3 hS, K11 hS, K19 hS, K27 hS, K32 hS, K37 hS, K98 hS, K99 hS, K100 hS, N37 hS, N98 hS, N99 hS, N100 hS, ne_eq, true_or, or_true, not_false_eq_true, Nat.reduceEqDiff, Nat.reduceLT, Nat.reduceLeDiff, Nat.reduceAdd]
  refine WP.deep (d := d + 5) ?_ (by omega)
  refine t_copy C s ?_
  intro h1 T
  simp only [k116_0, k116_1, k116_4, k116_5, k116_8, k116_11, k116_12, k116_15, k116_16, k116_19, k116_20, k116_23, k116_26, k116_27, k116_28, k116_29, k116_30, k116_31, k116_32, k116_35, k116_38, mm_sI, mm_sJ, mm_sR, mm_cI, mm_cJ, mm_I, mm_J, mm_R, mm_K, mm_N, psh_s, psh_n, z_n, z_i, z_r, z_l, Nat.reduceAdd, Nat.reduceLeDiff, K2 hS, R2_0 hS, R2_1 hS, R2_2 hS, R2_6 hS, R2_8 hS, R2_11 hS, R2_12 hS, R2_13 hS, R2_15 hS, R2_16 hS, K3 hS, K11 hS, K19 hS, K27 hS, K32 hS, K37 hS, K98 hS, K99 hS, K100 hS, N37 hS, N98 hS, N99 hS, N100 hS, R11_0 hS, R11_1 hS, R11_2 hS, R11_3 hS, R11_4 hS, R11_5 hS, R11_6 hS, K12 hS, K13 hS, K14 hS, K15 hS, K16 hS, K17 hS, K18 hS, N12 hS, N13 hS, N14 hS, N15 hS, N16 hS, N17 hS, N18 hS, ne_eq, true_or, or_true, not_false_eq_true, Nat.reduceEqDiff, Nat.reduceLT, Nat.reduceLeDiff, Nat.reduceAdd, hf', ix_n (show f < 2 ^ 31 by omega)]
  refine c_givenBack hf (tt_set (t_two (Q := Q) T h2) (k := 3) (by decide) hf hk) ?_
  intro h' s'
  simp only [k116_0, k116_1, k116_4, k116_5, k116_8, k116_11, k116_12, k116_15, k116_16, k116_19, k116_20, k116_23, k116_26, k116_27, k116_28, k116_29, k116_30, k116_31, k116_32, k116_35, k116_38, mm_sI, mm_sJ, mm_sR, mm_cI, mm_cJ, mm_I, mm_J, mm_R, mm_K, mm_N, psh_s, psh_n, z_n, z_i, z_r, z_l, Nat.reduceAdd, Nat.reduceLeDiff, ne_eq, true_or, or_true, not_false_eq_true, Nat.reduceEqDiff, Nat.reduceLT, Nat.reduceLeDiff, Nat.reduceAdd]
  exact hQ h' s'
theorem s_lessTwo {Q : Option PV → Mem → Prop} {x : Int32} : WP d 114 0 [some (vi x)] [] M Q = Q (some (vi (lessT x))) M := by
  simp only [k114_0, k114_1, k114_2, k114_3, k114_4, k114_7, mm_sI, mm_sJ, mm_sR, mm_cI, mm_cJ, mm_I, mm_J, mm_R, mm_K, mm_N, psh_s, psh_n, z_n, z_i, z_r, z_l, Nat.reduceAdd, Nat.reduceLeDiff, ne_eq, true_or, or_true, not_false_eq_true, Nat.reduceEqDiff, Nat.reduceLT, Nat.reduceLeDiff, Nat.reduceAdd]; rfl
theorem c_turn {f : Nat} (C : CC G F l W b h0 r E) (hf : f < F) : ∀ {n : Nat} {p : Bool} {two keeps : Int32} {h : Hp} {e : Nat} {Q : Option PV → Mem → Prop}, n ≤ 4 → n + 7 ≤ e → Scr h0 h → inb two 12 → inb keeps 10 →
    (∀ h', Scr h0 h' → Q (some (vi (tnA W b f n p two keeps))) (mm h' j r E)) → WP e 115 0 [some (vr 2), some (vi (nI f)), some (vi (nI n)), some (vi (if p then 1 else 0)), some (vi two), some (vi keeps), none] [] (mm h j r E) Q := by
  have hS := C.S
  intro n
  induction n with
  | zero =>
    intro p two keeps h e Q hn he s h2 hk hQ
    obtain ⟨d, rfl⟩ : ∃ d, e = d + 7 := ⟨e - 7, by omega⟩
    simp only [k115_0, k115_1, k115_4, k115_5, k115_6, k115_8, k115_10, k115_13, k115_14, k115_15, k115_16, k115_17, k115_18, k115_19, k115_20, k115_23, k115_24, k115_27, k115_28, k115_30, k115_32, k115_35, k115_37, k115_38, k115_41, k115_43, k115_44, k115_45, k115_46, k115_47, k115_48, k115_49, k115_51, k115_54, k115_56, k115_59, k115_62, k115_63, k115_65, k115_66, k115_67, k115_68, k115_69, k115_70, k115_71, k115_73, k115_75, k115_77, k115_78, k115_79, k115_82, k115_85, k115_88, mm_sI, mm_sJ, mm_sR, mm_cI, mm_cJ, mm_I, mm_J, mm_R, mm_K, mm_N, psh_s, psh_n, z_n, z_i, z_r, z_l, Nat.reduceAdd, Nat.reduceLeDiff, K2 hS, R2_0 hS, R2_1 hS, R2_2 hS, R2_6 hS, R2_8 hS, R2_11 hS, R2_12 hS, R2_13 hS, R2_15 hS, R2_16 hS, K3 hS, K11 hS, K19 hS, K27 hS, K32 hS, K37 hS, K98 hS, K99 hS, K100 hS, N37 hS, N98 hS, N99 hS, N100 hS, ne_eq, true_or, or_true, not_false_eq_true, Nat.reduceEqDiff, Nat.reduceLT, Nat.reduceLeDiff, Nat.reduceAdd, nn0, Int32.lt_irrefl, if_false]
    refine c_backBy C s hf h2 hk ?_
    intro h' s'
    simp only [k115_0, k115_1, k115_4, k115_5, k115_6, k115_8, k115_10, k115_13, k115_14, k115_15, k115_16, k115_17, k115_18, k115_19, k115_20, k115_23, k115_24, k115_27, k115_28, k115_30, k115_32, k115_35, k115_37, k115_38, k115_41, k115_43, k115_44, k115_45, k115_46, k115_47, k115_48, k115_49, k115_51, k115_54, k115_56, k115_59, k115_62, k115_63, k115_65, k115_66, k115_67, k115_68, k115_69, k115_70, k115_71, k115_73, k115_75, k115_77, k115_78, k115_79, k115_82, k115_85, k115_88, mm_sI, mm_sJ, mm_sR, mm_cI, mm_cJ, mm_I, mm_J, mm_R, mm_K, mm_N, psh_s, psh_n, z_n, z_i, z_r, z_l, Nat.reduceAdd, Nat.reduceLeDiff, ne_eq, true_or, or_true, not_false_eq_true, Nat.reduceEqDiff, Nat.reduceLT, Nat.reduceLeDiff, Nat.reduceAdd]
    exact hQ h' s'
  | succ n ih =>
    intro p two keeps h e Q hn he s h2 hk hQ
    obtain ⟨d, rfl⟩ : ∃ d, e = d + 1 := ⟨e - 1, by omega⟩
    have h0n : (0 : Int32) < nI (n + 1) := by rw [← nn0, nLt (by omega) (by omega)]; omega
    rw [k115_0]
    cases p with
    | true =>
      simp only [k115_1, k115_4, k115_5, k115_6, k115_8, k115_10, k115_13, k115_14, k115_15, k115_16, k115_17, k115_18, k115_19, k115_20, k115_23, k115_24, k115_27, k115_28, k115_30, k115_32, k115_35, k115_37, k115_38, k115_41, k115_43, k115_44, k115_45, k115_46, k115_47, k115_48, k115_49, k115_51, k115_54, k115_56, k115_59, k115_62, k115_63, k115_65, k115_66, k115_67, k115_68, k115_69, k115_70, k115_71, k115_73, k115_75, k115_77, k115_78, k115_79, k115_82, k115_85, k115_88, mm_sI, mm_sJ, mm_sR, mm_cI, mm_cJ, mm_I, mm_J, mm_R, mm_K, mm_N, psh_s, psh_n, z_n, z_i, z_r, z_l, Nat.reduceAdd, Nat.reduceLeDiff, K2 hS, R2_0 hS, R2_1 hS, R2_2 hS, R2_6 hS, R2_8 hS, R2_11 hS, R2_12 hS, R2_13 hS, R2_15 hS, R2_16 hS, K3 hS, K11 hS, K19 hS, K27 hS, K32 hS, K37 hS, K98 hS, K99 hS, K100 hS, N37 hS, N98 hS, N99 hS, N100 hS, ne_eq, true_or, or_true, not_false_eq_true, Nat.reduceEqDiff, Nat.reduceLT, Nat.reduceLeDiff, Nat.reduceAdd, h0n, if_true, if_false, nSub (show n + 1 < 2 ^ 31 by omega), e10]
      refine ih (p := false) (e := d) (by omega) (by omega) s h2 hk ?_
      intro h1 s1
      simp only [k115_1, k115_4, k115_5, k115_6, k115_8, k115_10, k115_13, k115_14, k115_15, k115_16, k115_17, k115_18, k115_19, k115_20, k115_23, k115_24, k115_27, k115_28, k115_30, k115_32, k115_35, k115_37, k115_38, k115_41, k115_43, k115_44, k115_45, k115_46, k115_47, k115_48, k115_49, k115_51, k115_54, k115_56, k115_59, k115_62, k115_63, k115_65, k115_66, k115_67, k115_68, k115_69, k115_70, k115_71, k115_73, k115_75, k115_77, k115_78, k115_79, k115_82, k115_85, k115_88, mm_sI, mm_sJ, mm_sR, mm_cI, mm_cJ, mm_I, mm_J, mm_R, mm_K, mm_N, psh_s, psh_n, z_n, z_i, z_r, z_l, Nat.reduceAdd, Nat.reduceLeDiff, K2 hS, R2_0 hS, R2_1 hS, R2_2 hS, R2_6 hS, R2_8 hS, R2_11 hS, R2_12 hS, R2_13 hS, R2_15 hS, R2_16 hS, K3 hS, K11 hS, K19 hS, K27 hS, K32 hS, K37 hS, K98 hS, K99 hS, K100 hS, N37 hS, N98 hS, N99 hS, N100 hS, ne_eq, true_or, or_true, not_false_eq_true, Nat.reduceEqDiff, Nat.reduceLT, Nat.reduceLeDiff, Nat.reduceAdd, nSub (show n + 1 < 2 ^ 31 by omega), e10, if_false]
      refine WP.deep (d := d) ?_ (by omega)
      rw [s_lessTwo]
      simp only [k115_1, k115_4, k115_5, k115_6, k115_8, k115_10, k115_13, k115_14, k115_15, k115_16, k115_17, k115_18, k115_19, k115_20, k115_23, k115_24, k115_27, k115_28, k115_30, k115_32, k115_35, k115_37, k115_38, k115_41, k115_43, k115_44, k115_45, k115_46, k115_47, k115_48, k115_49, k115_51, k115_54, k115_56, k115_59, k115_62, k115_63, k115_65, k115_66, k115_67, k115_68, k115_69, k115_70, k115_71, k115_73, k115_75, k115_77, k115_78, k115_79, k115_82, k115_85, k115_88, mm_sI, mm_sJ, mm_sR, mm_cI, mm_cJ, mm_I, mm_J, mm_R, mm_K, mm_N, psh_s, psh_n, z_n, z_i, z_r, z_l, Nat.reduceAdd, Nat.reduceLeDiff, K2 hS, R2_0 hS, R2_1 hS, R2_2 hS, R2_6 hS, R2_8 hS, R2_11 hS, R2_12 hS, R2_13 hS, R2_15 hS, R2_16 hS, K3 hS, K11 hS, K19 hS, K27 hS, K32 hS, K37 hS, K98 hS, K99 hS, K100 hS, N37 hS, N98 hS, N99 hS, N100 hS, ne_eq, true_or, or_true, not_false_eq_true, Nat.reduceEqDiff, Nat.reduceLT, Nat.reduceLeDiff, Nat.reduceAdd]
      refine ih (p := false) (e := d) (by omega) (by omega) s1 (lessT_i h2) hk ?_
      intro h' s'
      simp only [k115_1, k115_4, k115_5, k115_6, k115_8, k115_10, k115_13, k115_14, k115_15, k115_16, k115_17, k115_18, k115_19, k115_20, k115_23, k115_24, k115_27, k115_28, k115_30, k115_32, k115_35, k115_37, k115_38, k115_41, k115_43, k115_44, k115_45, k115_46, k115_47, k115_48, k115_49, k115_51, k115_54, k115_56, k115_59, k115_62, k115_63, k115_65, k115_66, k115_67, k115_68, k115_69, k115_70, k115_71, k115_73, k115_75, k115_77, k115_78, k115_79, k115_82, k115_85, k115_88, mm_sI, mm_sJ, mm_sR, mm_cI, mm_cJ, mm_I, mm_J, mm_R, mm_K, mm_N, psh_s, psh_n, z_n, z_i, z_r, z_l, Nat.reduceAdd, Nat.reduceLeDiff, ne_eq, true_or, or_true, not_false_eq_true, Nat.reduceEqDiff, Nat.reduceLT, Nat.reduceLeDiff, Nat.reduceAdd]
      exact hQ h' s'
    | false =>
      simp only [k115_1, k115_4, k115_5, k115_6, k115_8, k115_10, k115_13, k115_14, k115_15, k115_16, k115_17, k115_18, k115_19, k115_20, k115_23, k115_24, k115_27, k115_28, k115_30, k115_32, k115_35, k115_37, k115_38, k115_41, k115_43, k115_44, k115_45, k115_46, k115_47, k115_48, k115_49, k115_51, k115_54, k115_56, k115_59, k115_62, k115_63, k115_65, k115_66, k115_67, k115_68, k115_69, k115_70, k115_71, k115_73, k115_75, k115_77, k115_78, k115_79, k115_82, k115_85, k115_88, mm_sI, mm_sJ, mm_sR, mm_cI, mm_cJ, mm_I, mm_J, mm_R, mm_K, mm_N, psh_s, psh_n, z_n, z_i, z_r, z_l, Nat.reduceAdd, Nat.reduceLeDiff, K2 hS, R2_0 hS, R2_1 hS, R2_2 hS, R2_6 hS, R2_8 hS, R2_11 hS, R2_12 hS, R2_13 hS, R2_15 hS, R2_16 hS, K3 hS, K11 hS, K19 hS, K27 hS, K32 hS, K37 hS, K98 hS, K99 hS, K100 hS, N37 hS, N98 hS, N99 hS, N100 hS, ne_eq, true_or, or_true, not_false_eq_true, Nat.reduceEqDiff, Nat.reduceLT, Nat.reduceLeDiff, Nat.reduceAdd, h0n, if_true, if_false, nSub (show n + 1 < 2 ^ 31 by omega), Bool.false_eq_true]
      refine ih (p := true) (e := d) (by omega) (by omega) s h2 hk ?_
      intro h1 s1
      simp only [k115_1, k115_4, k115_5, k115_6, k115_8, k115_10, k115_13, k115_14, k115_15, k115_16, k115_17, k115_18, k115_19, k115_20, k115_23, k115_24, k115_27, k115_28, k115_30, k115_32, k115_35, k115_37, k115_38, k115_41, k115_43, k115_44, k115_45, k115_46, k115_47, k115_48, k115_49, k115_51, k115_54, k115_56, k115_59, k115_62, k115_63, k115_65, k115_66, k115_67, k115_68, k115_69, k115_70, k115_71, k115_73, k115_75, k115_77, k115_78, k115_79, k115_82, k115_85, k115_88, mm_sI, mm_sJ, mm_sR, mm_cI, mm_cJ, mm_I, mm_J, mm_R, mm_K, mm_N, psh_s, psh_n, z_n, z_i, z_r, z_l, Nat.reduceAdd, Nat.reduceLeDiff, K2 hS, R2_0 hS, R2_1 hS, R2_2 hS, R2_6 hS, R2_8 hS, R2_11 hS, R2_12 hS, R2_13 hS, R2_15 hS, R2_16 hS, K3 hS, K11 hS, K19 hS, K27 hS, K32 hS, K37 hS, K98 hS, K99 hS, K100 hS, N37 hS, N98 hS, N99 hS, N100 hS, ne_eq, true_or, or_true, not_false_eq_true, Nat.reduceEqDiff, Nat.reduceLT, Nat.reduceLeDiff, Nat.reduceAdd, nSub (show n + 1 < 2 ^ 31 by omega), if_true]
      refine ih (p := true) (e := d) (by omega) (by omega) s1 h2 (moreK_i hk) ?_
      intro h' s'
      simp only [k115_1, k115_4, k115_5, k115_6, k115_8, k115_10, k115_13, k115_14, k115_15, k115_16, k115_17, k115_18, k115_19, k115_20, k115_23, k115_24, k115_27, k115_28, k115_30, k115_32, k115_35, k115_37, k115_38, k115_41, k115_43, k115_44, k115_45, k115_46, k115_47, k115_48, k115_49, k115_51, k115_54, k115_56, k115_59, k115_62, k115_63, k115_65, k115_66, k115_67, k115_68, k115_69, k115_70, k115_71, k115_73, k115_75, k115_77, k115_78, k115_79, k115_82, k115_85, k115_88, mm_sI, mm_sJ, mm_sR, mm_cI, mm_cJ, mm_I, mm_J, mm_R, mm_K, mm_N, psh_s, psh_n, z_n, z_i, z_r, z_l, Nat.reduceAdd, Nat.reduceLeDiff, ne_eq, true_or, or_true, not_false_eq_true, Nat.reduceEqDiff, Nat.reduceLT, Nat.reduceLeDiff, Nat.reduceAdd]
      exact hQ h' s'
theorem c_byTurns {Q : Option PV → Mem → Prop} {frog n what : Int32} (C : CC G F l W b h r E) (hQ : ∀ h', Scr h h' → Q (some (vi (byTurnsA F W b frog n what))) (mm h' j r E)) :
    WP (d + 13) 113 0 [some (vr 2), some (vi frog), some (vi n), some (vi what), none, none, none] [] (mm h j r E) Q := by
  have hS := C.S
  have hF8 := C.F8
  have h4 : b2i (0 ≤ what ∧ what ≤ 1) = b2i (inb what 2) := in_lit rfl (by decide)
  have hr := hQ h Scr.rf
  unfold byTurnsA at hQ hr
  simp only [k113_0, k113_1, k113_4, k113_5, k113_8, k113_11, k113_12, k113_13, k113_14, k113_17, k113_20, k113_21, k113_22, k113_23, k113_26, k113_29, k113_30, k113_31, k113_32, k113_35, k113_38, k113_39, k113_40, k113_42, k113_43, k113_44, k113_45, k113_46, k113_47, k113_48, k113_49, k113_52, k113_55, k113_58, k113_60, k113_63, k113_65, k113_66, k113_67, k113_68, k113_69, k113_70, k113_71, k113_72, k113_75, k113_78, k113_80, k113_83, k113_85, k113_86, k113_87, k113_90, k113_92, k113_94, k113_97, k113_98, k113_101, k113_102, k113_103, k113_105, k113_107, k113_110, mm_sI, mm_sJ, mm_sR, mm_cI, mm_cJ, mm_I, mm_J, mm_R, mm_K, mm_N, psh_s, psh_n, z_n, z_i, z_r, z_l, Nat.reduceAdd, Nat.reduceLeDiff, K2 hS, R2_0 hS, R2_1 hS, R2_2 hS, R2_6 hS, R2_8 hS, R2_11 hS, R2_12 hS, R2_13 hS, R2_15 hS, R2_16 hS, K3 hS, K11 hS, K19 hS, K27 hS, K32 hS, K37 hS, K98 hS, K99 hS, K100 hS, N37 hS, N98 hS, N99 hS, N100 hS, ne_eq, true_or, or_true, not_false_eq_true, Nat.reduceEqDiff, Nat.reduceLT, Nat.reduceLeDiff, Nat.reduceAdd, s_within, c_hasFrog C, h4, b2i_0]
  by_cases c1 : inb frog F
  case neg => simp only [eq_false c1, not_false_eq_true, if_true, false_and, if_false] at hr ⊢; exact hr
  by_cases c2 : 1 ≤ n ∧ n ≤ 5
  case neg => simp only [eq_false c2, not_false_eq_true, if_true, false_and, and_false, if_false, eq_true c1, not_true_eq_false] at hr ⊢; exact hr
  by_cases c3 : inb what 2
  case neg => simp only [eq_false c3, not_false_eq_true, if_true, false_and, and_false, if_false, eq_true c1, eq_true c2, not_true_eq_false] at hr ⊢; exact hr
  simp only [eq_true c1, eq_true c2, eq_true c3, and_true, not_true_eq_false, if_false, if_true] at hQ ⊢
  obtain ⟨f, hf, rfl, hf2⟩ := inb_of c1
  have hf' : inb (nI f) 8 = True := eq_true (by rw [inb_n (by omega)]; omega)
  obtain ⟨k, hk, rfl⟩ : ∃ k, k ≤ 4 ∧ n = nI (k + 1) := by
    have q1 := (iLe _ _).1 c2.1
    have q2 := (iLe _ _).1 c2.2
    rw [i1] at q1
    rw [show (5 : Int32).toInt = 5 from rfl] at q2
    obtain ⟨k, hk, rfl⟩ := nI_of (x := n) (by rw [iLt, i0]; omega)
    rw [nI_toInt hk] at q1 q2
    exact ⟨k - 1, by omega, by rw [show k - 1 + 1 = k by omega]⟩
  rw [ix_n hf2, ix_n (show k + 1 < 2 ^ 31 by omega), Nat.add_sub_cancel] at hQ
  simp only [k113_0, k113_1, k113_4, k113_5, k113_8, k113_11, k113_12, k113_13, k113_14, k113_17, k113_20, k113_21, k113_22, k113_23, k113_26, k113_29, k113_30, k113_31, k113_32, k113_35, k113_38, k113_39, k113_40, k113_42, k113_43, k113_44, k113_45, k113_46, k113_47, k113_48, k113_49, k113_52, k113_55, k113_58, k113_60, k113_63, k113_65, k113_66, k113_67, k113_68, k113_69, k113_70, k113_71, k113_72, k113_75, k113_78, k113_80, k113_83, k113_85, k113_86, k113_87, k113_90, k113_92, k113_94, k113_97, k113_98, k113_101, k113_102, k113_103, k113_105, k113_107, k113_110, mm_sI, mm_sJ, mm_sR, mm_cI, mm_cJ, mm_I, mm_J, mm_R, mm_K, mm_N, psh_s, psh_n, z_n, z_i, z_r, z_l, Nat.reduceAdd, Nat.reduceLeDiff, K2 hS, R2_0 hS, R2_1 hS, R2_2 hS, R2_6 hS, R2_8 hS, R2_11 hS, R2_12 hS, R2_13 hS, R2_15 hS, R2_16 hS, K3 hS, K11 hS, K19 hS, K27 hS, K32 hS, K37 hS, K98 hS, K99 hS, K100 hS, N37 hS, N98 hS, N99 hS, N100 hS, R3_0 hS, R3_1 hS, R3_2 hS, R3_3 hS, R3_4 hS, R3_5 hS, R3_6 hS, K4 hS, K5 hS, K6 hS, K7 hS, K8 hS, K9 hS, K10 hS, N4 hS, N5 hS, N6 hS, N7 hS, N8 hS, N9 hS, N10 hS, ne_eq, true_or, or_true, not_false_eq_true, Nat.reduceEqDiff, Nat.reduceLT, Nat.reduceLeDiff, Nat.reduceAdd, hf', ix_n hf2, c_v3 C hf, c_vt C, nSub (show k + 1 < 2 ^ 31 by omega)]
  refine WP.deep (d := 0) ?_ (by omega)
  rw [s_lessTwo]
  simp only [k113_0, k113_1, k113_4, k113_5, k113_8, k113_11, k113_12, k113_13, k113_14, k113_17, k113_20, k113_21, k113_22, k113_23, k113_26, k113_29, k113_30, k113_31, k113_32, k113_35, k113_38, k113_39, k113_40, k113_42, k113_43, k113_44, k113_45, k113_46, k113_47, k113_48, k113_49, k113_52, k113_55, k113_58, k113_60, k113_63, k113_65, k113_66, k113_67, k113_68, k113_69, k113_70, k113_71, k113_72, k113_75, k113_78, k113_80, k113_83, k113_85, k113_86, k113_87, k113_90, k113_92, k113_94, k113_97, k113_98, k113_101, k113_102, k113_103, k113_105, k113_107, k113_110, mm_sI, mm_sJ, mm_sR, mm_cI, mm_cJ, mm_I, mm_J, mm_R, mm_K, mm_N, psh_s, psh_n, z_n, z_i, z_r, z_l, Nat.reduceAdd, Nat.reduceLeDiff, K2 hS, R2_0 hS, R2_1 hS, R2_2 hS, R2_6 hS, R2_8 hS, R2_11 hS, R2_12 hS, R2_13 hS, R2_15 hS, R2_16 hS, K3 hS, K11 hS, K19 hS, K27 hS, K32 hS, K37 hS, K98 hS, K99 hS, K100 hS, N37 hS, N98 hS, N99 hS, N100 hS, ne_eq, true_or, or_true, not_false_eq_true, Nat.reduceEqDiff, Nat.reduceLT, Nat.reduceLeDiff, Nat.reduceAdd]
  refine c_turn C hf (p := false) hk (by omega) Scr.rf (lessT_i C.w.at) (C.w.a3 hf) ?_
  intro h1 s1
  have C1 := C.fr s1
  simp only [k113_0, k113_1, k113_4, k113_5, k113_8, k113_11, k113_12, k113_13, k113_14, k113_17, k113_20, k113_21, k113_22, k113_23, k113_26, k113_29, k113_30, k113_31, k113_32, k113_35, k113_38, k113_39, k113_40, k113_42, k113_43, k113_44, k113_45, k113_46, k113_47, k113_48, k113_49, k113_52, k113_55, k113_58, k113_60, k113_63, k113_65, k113_66, k113_67, k113_68, k113_69, k113_70, k113_71, k113_72, k113_75, k113_78, k113_80, k113_83, k113_85, k113_86, k113_87, k113_90, k113_92, k113_94, k113_97, k113_98, k113_101, k113_102, k113_103, k113_105, k113_107, k113_110, mm_sI, mm_sJ, mm_sR, mm_cI, mm_cJ, mm_I, mm_J, mm_R, mm_K, mm_N, psh_s, psh_n, z_n, z_i, z_r, z_l, Nat.reduceAdd, Nat.reduceLeDiff, K2 hS, R2_0 hS, R2_1 hS, R2_2 hS, R2_6 hS, R2_8 hS, R2_11 hS, R2_12 hS, R2_13 hS, R2_15 hS, R2_16 hS, K3 hS, K11 hS, K19 hS, K27 hS, K32 hS, K37 hS, K98 hS, K99 hS, K100 hS, N37 hS, N98 hS, N99 hS, N100 hS, ne_eq, true_or, or_true, not_false_eq_true, Nat.reduceEqDiff, Nat.reduceLT, Nat.reduceLeDiff, Nat.reduceAdd, c_vt C1, nSub (show k + 1 < 2 ^ 31 by omega)]
  refine c_turn C hf (p := false) hk (by omega) s1 C.w.at (C.w.a3 hf) ?_
  intro h' s'
  have hQ := hQ h' s'
  obtain ⟨w, hw, rfl, _⟩ := inb_of c3
  match w, hw with
  | 0, _ =>
    simp only [nn0, if_true] at hQ
    simp only [k113_0, k113_1, k113_4, k113_5, k113_8, k113_11, k113_12, k113_13, k113_14, k113_17, k113_20, k113_21, k113_22, k113_23, k113_26, k113_29, k113_30, k113_31, k113_32, k113_35, k113_38, k113_39, k113_40, k113_42, k113_43, k113_44, k113_45, k113_46, k113_47, k113_48, k113_49, k113_52, k113_55, k113_58, k113_60, k113_63, k113_65, k113_66, k113_67, k113_68, k113_69, k113_70, k113_71, k113_72, k113_75, k113_78, k113_80, k113_83, k113_85, k113_86, k113_87, k113_90, k113_92, k113_94, k113_97, k113_98, k113_101, k113_102, k113_103, k113_105, k113_107, k113_110, mm_sI, mm_sJ, mm_sR, mm_cI, mm_cJ, mm_I, mm_J, mm_R, mm_K, mm_N, psh_s, psh_n, z_n, z_i, z_r, z_l, Nat.reduceAdd, Nat.reduceLeDiff, ne_eq, true_or, or_true, not_false_eq_true, Nat.reduceEqDiff, Nat.reduceLT, Nat.reduceLeDiff, Nat.reduceAdd, nn0, e01, if_false]
    rw [imax_c] at hQ; exact hQ
  | 1, _ =>
    simp only [nn1, e10, if_false] at hQ
    simp only [k113_0, k113_1, k113_4, k113_5, k113_8, k113_11, k113_12, k113_13, k113_14, k113_17, k113_20, k113_21, k113_22, k113_23, k113_26, k113_29, k113_30, k113_31, k113_32, k113_35, k113_38, k113_39, k113_40, k113_42, k113_43, k113_44, k113_45, k113_46, k113_47, k113_48, k113_49, k113_52, k113_55, k113_58, k113_60, k113_63, k113_65, k113_66, k113_67, k113_68, k113_69, k113_70, k113_71, k113_72, k113_75, k113_78, k113_80, k113_83, k113_85, k113_86, k113_87, k113_90, k113_92, k113_94, k113_97, k113_98, k113_101, k113_102, k113_103, k113_105, k113_107, k113_110, mm_sI, mm_sJ, mm_sR, mm_cI, mm_cJ, mm_I, mm_J, mm_R, mm_K, mm_N, psh_s, psh_n, z_n, z_i, z_r, z_l, Nat.reduceAdd, Nat.reduceLeDiff, ne_eq, true_or, or_true, not_false_eq_true, Nat.reduceEqDiff, Nat.reduceLT, Nat.reduceLeDiff, Nat.reduceAdd, nn1, if_true]
    by_cases c : tnA W b f k false (b 6 0) (b 3 f) < tnA W b f k false (lessT (b 6 0)) (b 3 f)
    · simp only [c, Int32.not_le.2 c, if_true, if_false] at hQ ⊢; exact hQ
    · simp only [c, Int32.not_lt.1 c, if_true, if_false] at hQ ⊢; exact hQ
  | w + 2, hw => omega
theorem tk_t {f : Nat} {two keeps v : Int32} : up2 (setTK b f two keeps) 6 0 v = setTK b f v keeps := by
  funext a i; unfold setTK; simp only [up2]
  by_cases h3 : a = 3
  · subst h3; simp
  · by_cases h6 : a = 6
    · by_cases hi : i = 0 <;> simp [h6, hi]
    · simp [h3, h6]
theorem tk_k {f : Nat} {two keeps v : Int32} : up2 (setTK b f two keeps) 3 f v = setTK b f two v := by unfold setTK; rw [up2_uu]
theorem tk_self {f : Nat} : setTK b f (b 6 0) (b 3 f) = b := by
  unfold setTK
  rw [up2_id]; exact up2_id
theorem tk_60 {f : Nat} {two keeps : Int32} : setTK b f two keeps 6 0 = two := by unfold setTK; rw [up2_a (by decide), up2_s]
theorem tk_3f {f : Nat} {two keeps : Int32} : setTK b f two keeps 3 f = keeps := by unfold setTK; rw [up2_s]
theorem DD.ex (D : DD G F W b h r E) (e : ∀ a, a ≠ 114 → a ≠ 115 → h1 a = h a) (eb : bM h1 G F = bt) (w : WF G F bt) : DD G F W bt h1 r E := by
  have o := e 113 (by decide) (by decide)
  exact ⟨D.S, by rw [o]; exact D.eG, by rw [o]; exact D.eF, D.G8, D.F8, D.L.fix ⟨e _ (by decide) (by decide), e _ (by decide) (by decide), e _ (by decide) (by decide), e _ (by decide) (by decide), by rw [o], by rw [o]⟩, eb, w⟩
theorem Scr.res {h3 : Hp} (e1 : ∀ a, a ≠ 114 → a ≠ 115 → h1 a = h a) (s : Scr h1 h2) (e2 : ∀ a, a ≠ 114 → a ≠ 115 → h3 a = h2 a) (e4 : h3 114 = h 114) (e5 : h3 115 = h 115) : Scr h h3 := by
  refine ⟨?_, ?_, ?_⟩
  · intro a ha
    by_cases a4 : a = 114
    · rw [a4]; exact e4
    · by_cases a5 : a = 115
      · rw [a5]; exact e5
      · rw [e2 a a4 a5, s.1 a ha, e1 a a4 a5]
  · intro i hi
    have := s.2.1 i hi
    rw [e2 27 (by decide) (by decide), e2 32 (by decide) (by decide), this.1, this.2, e1 27 (by decide) (by decide), e1 32 (by decide) (by decide)]; exact ⟨rfl, rfl⟩
  · intro i p q t
    rw [e2 113 (by decide) (by decide), s.2.2 i p q t, e1 113 (by decide) (by decide)]
theorem m_turnBy {f i n : Nat} {two keeps : Int32} {e : Nat} {Q : Option PV → Mem → Prop} {k : Nat} (hi5 : i < 5) (hf : f < F) (h2 : inb two 12) (hk : inb keeps 10) (D : DD G F W (setTK b f two keeps) h r E) (w : WF G F b)
    (IH : ∀ {two keeps : Int32} {h : Hp} {Q : Option PV → Mem → Prop}, inb two 12 → inb keeps 10 → DD G F W (setTK b f two keeps) h r E → (∀ h', Scr h h' → Q (some (vi (tnA W b f k (decide ((i + 1) % 2 = 0)) two keeps))) (mm h' j r E)) →
      WP e 218 0 [some (vr 113), some (vi (nI (i + 1))), some (vi (nI n)), some (vi (nI f)), none, none] [] (mm h j r E) Q)
    (hQ : ∀ h', Scr h h' → Q (some (vi (if i % 2 = 0 then tnA W b f k false (lessT two) keeps else tnA W b f k true two (moreK keeps)))) (mm h' j r E)) :
    WP (e + 1) 219 0 [some (vr 113), some (vi (nI i)), some (vi (nI n)), some (vi (nI f)), none, none, none] [] (mm h j r E) Q := by
  have hS := D.S
  have hF8 := D.F8
  have hG8 := D.G8
  have hb : inb (nI (24 + f)) 48 = True := eq_true (by rw [inb_n (by omega)]; omega)
  have hx : ix (nI (24 + f)) = 24 + f := ix_n (by omega)
  have e2 : nI i % 2 = nI (i % 2) := nMod (by omega) (by decide)
  have t20 : ((2 : Int32) = 0) = False := by simp
  have z : (nI (i % 2) = 0) = (i % 2 = 0) := nEq (c := 0) (by omega) (by decide)
  have v3 : h 114 (24 + f) = keeps := by rw [D.v3 hf, tk_3f]
  have vt : h 115 0 = two := by rw [D.vt, tk_60]
  simp only [k219_0, k219_1, k219_4, k219_5, k219_6, k219_8, k219_9, k219_12, k219_14, k219_15, k219_16, k219_17, k219_19, k219_20, k219_21, k219_22, k219_25, k219_26, k219_29, k219_30, k219_31, k219_33, k219_34, k219_35, k219_38, k219_39, k219_42, k219_43, k219_46, k219_48, k219_49, k219_50, k219_52, k219_54, k219_55, k219_56, k219_59, k219_60, k219_61, k219_62, k219_63, k219_64, k219_65, k219_66, k219_69, k219_71, k219_72, k219_75, k219_76, k219_78, k219_79, k219_80, k219_83, k219_85, k219_86, k219_87, k219_89, k219_90, k219_92, mm_sI, mm_sJ, mm_sR, mm_cI, mm_cJ, mm_I, mm_J, mm_R, mm_K, mm_N, psh_s, psh_n, z_n, z_i, z_r, z_l, Nat.reduceAdd, Nat.reduceLeDiff, K113 hS, R113_2 hS, R113_3 hS, R113_5 hS, R113_8 hS, R113_9 hS, R113_10 hS, R113_11 hS, R113_16 hS, R113_17 hS, R113_18 hS, R113_19 hS, R113_20 hS, R113_21 hS, R113_22 hS, R113_26 hS, R113_27 hS, R113_30 hS, R113_32 hS, R113_34 hS, R113_35 hS, R113_36 hS, R113_37 hS, R113_40 hS, R113_41 hS, R113_42 hS, R113_43 hS, R113_44 hS, R113_45 hS, R113_47 hS, K114 hS, K115 hS, K116 hS, K117 hS, K118 hS, K119 hS, K120 hS, K121 hS, K122 hS, K123 hS, K124 hS, K125 hS, K126 hS, K127 hS, K128 hS, K129 hS, K130 hS, K131 hS, K132 hS, K133 hS, K134 hS, K135 hS, K136 hS, K137 hS, K138 hS, K139 hS, K140 hS, K141 hS, K142 hS, N114 hS, N115 hS, N116 hS, N117 hS, N118 hS, N119 hS, N120 hS, N121 hS, N122 hS, N123 hS, N124 hS, N125 hS, N126 hS, N127 hS, N128 hS, N129 hS, N130 hS, N131 hS, N132 hS, N133 hS, N134 hS, N135 hS, N136 hS, N137 hS, N138 hS, N139 hS, N140 hS, N141 hS, N142 hS, inb_c0, ix_c0, inb_c1, ix_c1, inb_c2, ix_c2, inb_c3, ix_c3, inb_c4, ix_c4, inb_c5, ix_c5, inb_c6, ix_c6, inb_c7, ix_c7, inb_c8, ix_c8, inb_c32, ix_c32, ne_eq, true_or, or_true, not_false_eq_true, Nat.reduceEqDiff, Nat.reduceLT, Nat.reduceLeDiff, Nat.reduceAdd, a24, hb, hx, vt, v3, e2, t20, z]
  by_cases c : i % 2 = 0
  · rw [if_pos c] at hQ
    simp only [c, if_true, nS1]
    have D1 : DD G F W (setTK b f (lessT two) keeps) (up2 h 115 0 (lessT two)) r E := D.ex (fun a p q => up2_a q) (by rw [bMwt, D.eb, tk_t]) (w.tk (lessT_i h2) hk)
    refine IH (lessT_i h2) hk D1 ?_
    intro h2' s
    rw [show decide ((i + 1) % 2 = 0) = false from decide_eq_false (by omega)]
    simp only [k219_0, k219_1, k219_4, k219_5, k219_6, k219_8, k219_9, k219_12, k219_14, k219_15, k219_16, k219_17, k219_19, k219_20, k219_21, k219_22, k219_25, k219_26, k219_29, k219_30, k219_31, k219_33, k219_34, k219_35, k219_38, k219_39, k219_42, k219_43, k219_46, k219_48, k219_49, k219_50, k219_52, k219_54, k219_55, k219_56, k219_59, k219_60, k219_61, k219_62, k219_63, k219_64, k219_65, k219_66, k219_69, k219_71, k219_72, k219_75, k219_76, k219_78, k219_79, k219_80, k219_83, k219_85, k219_86, k219_87, k219_89, k219_90, k219_92, mm_sI, mm_sJ, mm_sR, mm_cI, mm_cJ, mm_I, mm_J, mm_R, mm_K, mm_N, psh_s, psh_n, z_n, z_i, z_r, z_l, Nat.reduceAdd, Nat.reduceLeDiff, K113 hS, R113_2 hS, R113_3 hS, R113_5 hS, R113_8 hS, R113_9 hS, R113_10 hS, R113_11 hS, R113_16 hS, R113_17 hS, R113_18 hS, R113_19 hS, R113_20 hS, R113_21 hS, R113_22 hS, R113_26 hS, R113_27 hS, R113_30 hS, R113_32 hS, R113_34 hS, R113_35 hS, R113_36 hS, R113_37 hS, R113_40 hS, R113_41 hS, R113_42 hS, R113_43 hS, R113_44 hS, R113_45 hS, R113_47 hS, K114 hS, K115 hS, K116 hS, K117 hS, K118 hS, K119 hS, K120 hS, K121 hS, K122 hS, K123 hS, K124 hS, K125 hS, K126 hS, K127 hS, K128 hS, K129 hS, K130 hS, K131 hS, K132 hS, K133 hS, K134 hS, K135 hS, K136 hS, K137 hS, K138 hS, K139 hS, K140 hS, K141 hS, K142 hS, N114 hS, N115 hS, N116 hS, N117 hS, N118 hS, N119 hS, N120 hS, N121 hS, N122 hS, N123 hS, N124 hS, N125 hS, N126 hS, N127 hS, N128 hS, N129 hS, N130 hS, N131 hS, N132 hS, N133 hS, N134 hS, N135 hS, N136 hS, N137 hS, N138 hS, N139 hS, N140 hS, N141 hS, N142 hS, inb_c0, ix_c0, inb_c1, ix_c1, inb_c2, ix_c2, inb_c3, ix_c3, inb_c4, ix_c4, inb_c5, ix_c5, inb_c6, ix_c6, inb_c7, ix_c7, inb_c8, ix_c8, inb_c32, ix_c32, ne_eq, true_or, or_true, not_false_eq_true, Nat.reduceEqDiff, Nat.reduceLT, Nat.reduceLeDiff, Nat.reduceAdd, a24, hb, hx]
    refine hQ _ (Scr.res (fun a p q => up2_a q) s (fun a p q => by rw [up2_a p, up2_a q]) ?_ ?_)
    · rw [show up2 (up2 h2' 115 0 two) 114 (24 + f) keeps = up2 (up2 h2' 115 0 two) 114 (24 + f) (up2 h2' 115 0 two 114 (24 + f)) from ?_]
      · rw [up2_id, up2_a (by decide), s.1 114 (by unfold scrA; omega), up2_a (by decide)]
      · rw [up2_a (by decide), s.1 114 (by unfold scrA; omega), up2_a (by decide), v3]
    · rw [up2_a (by decide)]
      funext x
      by_cases x0 : x = 0
      · subst x0; rw [up2_s, vt]
      · rw [up2_i x0, s.1 115 (by unfold scrA; omega), up2_i x0]
  · rw [if_neg c] at hQ
    simp only [c, if_false, nS1]
    have D1 : DD G F W (setTK b f two (moreK keeps)) (up2 h 114 (24 + f) (moreK keeps)) r E := D.ex (fun a p q => up2_a p) (by rw [bMw3 hG8 hF8 hf, D.eb, tk_k]) (w.tk h2 (moreK_i hk))
    refine IH h2 (moreK_i hk) D1 ?_
    intro h2' s
    rw [show decide ((i + 1) % 2 = 0) = true from decide_eq_true (by omega)]
    simp only [k219_0, k219_1, k219_4, k219_5, k219_6, k219_8, k219_9, k219_12, k219_14, k219_15, k219_16, k219_17, k219_19, k219_20, k219_21, k219_22, k219_25, k219_26, k219_29, k219_30, k219_31, k219_33, k219_34, k219_35, k219_38, k219_39, k219_42, k219_43, k219_46, k219_48, k219_49, k219_50, k219_52, k219_54, k219_55, k219_56, k219_59, k219_60, k219_61, k219_62, k219_63, k219_64, k219_65, k219_66, k219_69, k219_71, k219_72, k219_75, k219_76, k219_78, k219_79, k219_80, k219_83, k219_85, k219_86, k219_87, k219_89, k219_90, k219_92, mm_sI, mm_sJ, mm_sR, mm_cI, mm_cJ, mm_I, mm_J, mm_R, mm_K, mm_N, psh_s, psh_n, z_n, z_i, z_r, z_l, Nat.reduceAdd, Nat.reduceLeDiff, K113 hS, R113_2 hS, R113_3 hS, R113_5 hS, R113_8 hS, R113_9 hS, R113_10 hS, R113_11 hS, R113_16 hS, R113_17 hS, R113_18 hS, R113_19 hS, R113_20 hS, R113_21 hS, R113_22 hS, R113_26 hS, R113_27 hS, R113_30 hS, R113_32 hS, R113_34 hS, R113_35 hS, R113_36 hS, R113_37 hS, R113_40 hS, R113_41 hS, R113_42 hS, R113_43 hS, R113_44 hS, R113_45 hS, R113_47 hS, K114 hS, K115 hS, K116 hS, K117 hS, K118 hS, K119 hS, K120 hS, K121 hS, K122 hS, K123 hS, K124 hS, K125 hS, K126 hS, K127 hS, K128 hS, K129 hS, K130 hS, K131 hS, K132 hS, K133 hS, K134 hS, K135 hS, K136 hS, K137 hS, K138 hS, K139 hS, K140 hS, K141 hS, K142 hS, N114 hS, N115 hS, N116 hS, N117 hS, N118 hS, N119 hS, N120 hS, N121 hS, N122 hS, N123 hS, N124 hS, N125 hS, N126 hS, N127 hS, N128 hS, N129 hS, N130 hS, N131 hS, N132 hS, N133 hS, N134 hS, N135 hS, N136 hS, N137 hS, N138 hS, N139 hS, N140 hS, N141 hS, N142 hS, inb_c0, ix_c0, inb_c1, ix_c1, inb_c2, ix_c2, inb_c3, ix_c3, inb_c4, ix_c4, inb_c5, ix_c5, inb_c6, ix_c6, inb_c7, ix_c7, inb_c8, ix_c8, inb_c32, ix_c32, ne_eq, true_or, or_true, not_false_eq_true, Nat.reduceEqDiff, Nat.reduceLT, Nat.reduceLeDiff, Nat.reduceAdd, a24, hb, hx]
    refine hQ _ (Scr.res (fun a p q => up2_a p) s (fun a p q => by rw [up2_a p, up2_a q]) ?_ ?_)
    · funext x
      by_cases x0 : x = 24 + f
      · subst x0; rw [up2_s, v3]
      · rw [up2_i x0, up2_a (by decide), s.1 114 (by unfold scrA; omega), up2_i x0]
    · rw [up2_a (by decide)]
      funext x
      by_cases x0 : x = 0
      · subst x0; rw [up2_s, vt]
      · rw [up2_i x0, s.1 115 (by unfold scrA; omega), up2_a (by decide)]
theorem m_turnFrom {f n : Nat} (hf : f < F) (hn : n ≤ 5) (w : WF G F b) : ∀ {k i : Nat} {two keeps : Int32} {h : Hp} {e : Nat} {Q : Option PV → Mem → Prop}, i + k = n → 2 * k + 7 ≤ e → inb two 12 → inb keeps 10 → DD G F W (setTK b f two keeps) h r E →
    (∀ h', Scr h h' → Q (some (vi (tnA W b f k (decide (i % 2 = 0)) two keeps))) (mm h' j r E)) → WP e 218 0 [some (vr 113), some (vi (nI i)), some (vi (nI n)), some (vi (nI f)), none, none] [] (mm h j r E) Q := by
  intro k
  induction k with
  | zero =>
    intro i two keeps h e Q hk he h2 hkk D hQ
    have hS := D.S
    have : i = n := by omega
    subst this
    obtain ⟨d, rfl⟩ : ∃ d, e = d + 7 := ⟨e - 7, by omega⟩
    simp only [k218_0, k218_1, k218_2, k218_5, k218_6, k218_7, k218_10, k218_11, k218_12, k218_15, k218_16, k218_17, k218_20, k218_21, k218_22, k218_23, k218_24, k218_25, k218_26, k218_27, k218_30, k218_32, k218_33, k218_34, k218_35, k218_36, k218_39, k218_41, k218_42, k218_43, k218_44, k218_47, k218_49, k218_51, k218_54, k218_57, k218_59, k218_61, k218_64, mm_sI, mm_sJ, mm_sR, mm_cI, mm_cJ, mm_I, mm_J, mm_R, mm_K, mm_N, psh_s, psh_n, z_n, z_i, z_r, z_l, Nat.reduceAdd, Nat.reduceLeDiff, K113 hS, R113_2 hS, R113_3 hS, R113_5 hS, R113_8 hS, R113_9 hS, R113_10 hS, R113_11 hS, R113_16 hS, R113_17 hS, R113_18 hS, R113_19 hS, R113_20 hS, R113_21 hS, R113_22 hS, R113_26 hS, R113_27 hS, R113_30 hS, R113_32 hS, R113_34 hS, R113_35 hS, R113_36 hS, R113_37 hS, R113_40 hS, R113_41 hS, R113_42 hS, R113_43 hS, R113_44 hS, R113_45 hS, R113_47 hS, K114 hS, K115 hS, K116 hS, K117 hS, K118 hS, K119 hS, K120 hS, K121 hS, K122 hS, K123 hS, K124 hS, K125 hS, K126 hS, K127 hS, K128 hS, K129 hS, K130 hS, K131 hS, K132 hS, K133 hS, K134 hS, K135 hS, K136 hS, K137 hS, K138 hS, K139 hS, K140 hS, K141 hS, K142 hS, N114 hS, N115 hS, N116 hS, N117 hS, N118 hS, N119 hS, N120 hS, N121 hS, N122 hS, N123 hS, N124 hS, N125 hS, N126 hS, N127 hS, N128 hS, N129 hS, N130 hS, N131 hS, N132 hS, N133 hS, N134 hS, N135 hS, N136 hS, N137 hS, N138 hS, N139 hS, N140 hS, N141 hS, N142 hS, ne_eq, true_or, or_true, not_false_eq_true, Nat.reduceEqDiff, Nat.reduceLT, Nat.reduceLeDiff, Nat.reduceAdd, if_true]
    refine m_gives hf D ?_
    intro h' s e0 _
    simp only [k218_0, k218_1, k218_2, k218_5, k218_6, k218_7, k218_10, k218_11, k218_12, k218_15, k218_16, k218_17, k218_20, k218_21, k218_22, k218_23, k218_24, k218_25, k218_26, k218_27, k218_30, k218_32, k218_33, k218_34, k218_35, k218_36, k218_39, k218_41, k218_42, k218_43, k218_44, k218_47, k218_49, k218_51, k218_54, k218_57, k218_59, k218_61, k218_64, mm_sI, mm_sJ, mm_sR, mm_cI, mm_cJ, mm_I, mm_J, mm_R, mm_K, mm_N, psh_s, psh_n, z_n, z_i, z_r, z_l, Nat.reduceAdd, Nat.reduceLeDiff, K113 hS, R113_2 hS, R113_3 hS, R113_5 hS, R113_8 hS, R113_9 hS, R113_10 hS, R113_11 hS, R113_16 hS, R113_17 hS, R113_18 hS, R113_19 hS, R113_20 hS, R113_21 hS, R113_22 hS, R113_26 hS, R113_27 hS, R113_30 hS, R113_32 hS, R113_34 hS, R113_35 hS, R113_36 hS, R113_37 hS, R113_40 hS, R113_41 hS, R113_42 hS, R113_43 hS, R113_44 hS, R113_45 hS, R113_47 hS, K114 hS, K115 hS, K116 hS, K117 hS, K118 hS, K119 hS, K120 hS, K121 hS, K122 hS, K123 hS, K124 hS, K125 hS, K126 hS, K127 hS, K128 hS, K129 hS, K130 hS, K131 hS, K132 hS, K133 hS, K134 hS, K135 hS, K136 hS, K137 hS, K138 hS, K139 hS, K140 hS, K141 hS, K142 hS, N114 hS, N115 hS, N116 hS, N117 hS, N118 hS, N119 hS, N120 hS, N121 hS, N122 hS, N123 hS, N124 hS, N125 hS, N126 hS, N127 hS, N128 hS, N129 hS, N130 hS, N131 hS, N132 hS, N133 hS, N134 hS, N135 hS, N136 hS, N137 hS, N138 hS, N139 hS, N140 hS, N141 hS, N142 hS, inb_c0, ix_c0, inb_c1, ix_c1, inb_c2, ix_c2, inb_c3, ix_c3, inb_c4, ix_c4, inb_c5, ix_c5, inb_c6, ix_c6, inb_c7, ix_c7, inb_c8, ix_c8, inb_c32, ix_c32, ne_eq, true_or, or_true, not_false_eq_true, Nat.reduceEqDiff, Nat.reduceLT, Nat.reduceLeDiff, Nat.reduceAdd, e0]
    exact hQ h' s
  | succ k ih =>
    intro i two keeps h e Q hk he h2 hkk D hQ
    have hS := D.S
    obtain ⟨d, rfl⟩ : ∃ d, e = d + 2 := ⟨e - 2, by omega⟩
    have hne : (nI i = nI n) = False := by rw [nEq (by omega) (by omega)]; apply eq_false; omega
    have e2 : nI i % 2 = nI (i % 2) := nMod (by omega) (by decide)
    have t20 : ((2 : Int32) = 0) = False := by simp
    have z : (nI (i % 2) = 0) = (i % 2 = 0) := nEq (c := 0) (by omega) (by decide)
    rw [k218_0]
    simp only [k218_1, k218_2, k218_5, k218_6, k218_7, k218_10, k218_11, k218_12, k218_15, k218_16, k218_17, k218_20, k218_21, k218_22, k218_23, k218_24, k218_25, k218_26, k218_27, k218_30, k218_32, k218_33, k218_34, k218_35, k218_36, k218_39, k218_41, k218_42, k218_43, k218_44, k218_47, k218_49, k218_51, k218_54, k218_57, k218_59, k218_61, k218_64, mm_sI, mm_sJ, mm_sR, mm_cI, mm_cJ, mm_I, mm_J, mm_R, mm_K, mm_N, psh_s, psh_n, z_n, z_i, z_r, z_l, Nat.reduceAdd, Nat.reduceLeDiff, K113 hS, R113_2 hS, R113_3 hS, R113_5 hS, R113_8 hS, R113_9 hS, R113_10 hS, R113_11 hS, R113_16 hS, R113_17 hS, R113_18 hS, R113_19 hS, R113_20 hS, R113_21 hS, R113_22 hS, R113_26 hS, R113_27 hS, R113_30 hS, R113_32 hS, R113_34 hS, R113_35 hS, R113_36 hS, R113_37 hS, R113_40 hS, R113_41 hS, R113_42 hS, R113_43 hS, R113_44 hS, R113_45 hS, R113_47 hS, K114 hS, K115 hS, K116 hS, K117 hS, K118 hS, K119 hS, K120 hS, K121 hS, K122 hS, K123 hS, K124 hS, K125 hS, K126 hS, K127 hS, K128 hS, K129 hS, K130 hS, K131 hS, K132 hS, K133 hS, K134 hS, K135 hS, K136 hS, K137 hS, K138 hS, K139 hS, K140 hS, K141 hS, K142 hS, N114 hS, N115 hS, N116 hS, N117 hS, N118 hS, N119 hS, N120 hS, N121 hS, N122 hS, N123 hS, N124 hS, N125 hS, N126 hS, N127 hS, N128 hS, N129 hS, N130 hS, N131 hS, N132 hS, N133 hS, N134 hS, N135 hS, N136 hS, N137 hS, N138 hS, N139 hS, N140 hS, N141 hS, N142 hS, ne_eq, true_or, or_true, not_false_eq_true, Nat.reduceEqDiff, Nat.reduceLT, Nat.reduceLeDiff, Nat.reduceAdd, hne, if_false, nS1]
    refine ih (i := i + 1) (e := d + 1) (by omega) (by omega) h2 hkk D ?_
    intro h1 s1
    simp only [k218_1, k218_2, k218_5, k218_6, k218_7, k218_10, k218_11, k218_12, k218_15, k218_16, k218_17, k218_20, k218_21, k218_22, k218_23, k218_24, k218_25, k218_26, k218_27, k218_30, k218_32, k218_33, k218_34, k218_35, k218_36, k218_39, k218_41, k218_42, k218_43, k218_44, k218_47, k218_49, k218_51, k218_54, k218_57, k218_59, k218_61, k218_64, mm_sI, mm_sJ, mm_sR, mm_cI, mm_cJ, mm_I, mm_J, mm_R, mm_K, mm_N, psh_s, psh_n, z_n, z_i, z_r, z_l, Nat.reduceAdd, Nat.reduceLeDiff, K113 hS, R113_2 hS, R113_3 hS, R113_5 hS, R113_8 hS, R113_9 hS, R113_10 hS, R113_11 hS, R113_16 hS, R113_17 hS, R113_18 hS, R113_19 hS, R113_20 hS, R113_21 hS, R113_22 hS, R113_26 hS, R113_27 hS, R113_30 hS, R113_32 hS, R113_34 hS, R113_35 hS, R113_36 hS, R113_37 hS, R113_40 hS, R113_41 hS, R113_42 hS, R113_43 hS, R113_44 hS, R113_45 hS, R113_47 hS, K114 hS, K115 hS, K116 hS, K117 hS, K118 hS, K119 hS, K120 hS, K121 hS, K122 hS, K123 hS, K124 hS, K125 hS, K126 hS, K127 hS, K128 hS, K129 hS, K130 hS, K131 hS, K132 hS, K133 hS, K134 hS, K135 hS, K136 hS, K137 hS, K138 hS, K139 hS, K140 hS, K141 hS, K142 hS, N114 hS, N115 hS, N116 hS, N117 hS, N118 hS, N119 hS, N120 hS, N121 hS, N122 hS, N123 hS, N124 hS, N125 hS, N126 hS, N127 hS, N128 hS, N129 hS, N130 hS, N131 hS, N132 hS, N133 hS, N134 hS, N135 hS, N136 hS, N137 hS, N138 hS, N139 hS, N140 hS, N141 hS, N142 hS, ne_eq, true_or, or_true, not_false_eq_true, Nat.reduceEqDiff, Nat.reduceLT, Nat.reduceLeDiff, Nat.reduceAdd]
    refine m_turnBy (k := k) (by omega) hf h2 hkk (D.sc s1) w (fun a b c hQ => ih (by omega) (by omega) a b c hQ) ?_
    intro h' s'
    have hQ := hQ h' (s1.tr s')
    simp only [k218_1, k218_2, k218_5, k218_6, k218_7, k218_10, k218_11, k218_12, k218_15, k218_16, k218_17, k218_20, k218_21, k218_22, k218_23, k218_24, k218_25, k218_26, k218_27, k218_30, k218_32, k218_33, k218_34, k218_35, k218_36, k218_39, k218_41, k218_42, k218_43, k218_44, k218_47, k218_49, k218_51, k218_54, k218_57, k218_59, k218_61, k218_64, mm_sI, mm_sJ, mm_sR, mm_cI, mm_cJ, mm_I, mm_J, mm_R, mm_K, mm_N, psh_s, psh_n, z_n, z_i, z_r, z_l, Nat.reduceAdd, Nat.reduceLeDiff, K113 hS, R113_2 hS, R113_3 hS, R113_5 hS, R113_8 hS, R113_9 hS, R113_10 hS, R113_11 hS, R113_16 hS, R113_17 hS, R113_18 hS, R113_19 hS, R113_20 hS, R113_21 hS, R113_22 hS, R113_26 hS, R113_27 hS, R113_30 hS, R113_32 hS, R113_34 hS, R113_35 hS, R113_36 hS, R113_37 hS, R113_40 hS, R113_41 hS, R113_42 hS, R113_43 hS, R113_44 hS, R113_45 hS, R113_47 hS, K114 hS, K115 hS, K116 hS, K117 hS, K118 hS, K119 hS, K120 hS, K121 hS, K122 hS, K123 hS, K124 hS, K125 hS, K126 hS, K127 hS, K128 hS, K129 hS, K130 hS, K131 hS, K132 hS, K133 hS, K134 hS, K135 hS, K136 hS, K137 hS, K138 hS, K139 hS, K140 hS, K141 hS, K142 hS, N114 hS, N115 hS, N116 hS, N117 hS, N118 hS, N119 hS, N120 hS, N121 hS, N122 hS, N123 hS, N124 hS, N125 hS, N126 hS, N127 hS, N128 hS, N129 hS, N130 hS, N131 hS, N132 hS, N133 hS, N134 hS, N135 hS, N136 hS, N137 hS, N138 hS, N139 hS, N140 hS, N141 hS, N142 hS, ne_eq, true_or, or_true, not_false_eq_true, Nat.reduceEqDiff, Nat.reduceLT, Nat.reduceLeDiff, Nat.reduceAdd, e2, t20, z]
    by_cases c : i % 2 = 0
    · rw [show decide ((i + 1) % 2 = 0) = false from decide_eq_false (by omega)]
      rw [show decide (i % 2 = 0) = true from decide_eq_true c] at hQ
      simp only [c, if_true]; exact hQ
    · rw [show decide ((i + 1) % 2 = 0) = true from decide_eq_true (by omega)]
      rw [show decide (i % 2 = 0) = false from decide_eq_false c] at hQ
      simp only [c, if_false]; exact hQ
theorem m_byTurns {Q : Option PV → Mem → Prop} {frog n what : Int32} (D : DD G F W b h r E) (hQ : ∀ h', Scr h h' → Q (some (vi (byTurnsA F W b frog n what))) (mm h' j r E)) :
    WP (d + 20) 220 0 [some (vr 113), some (vi frog), some (vi n), some (vi what), none, none] [] (mm h j r E) Q := by
  have hS := D.S
  have hF8 := D.F8
  have h4 : b2i (0 ≤ what ∧ what ≤ 1) = b2i (inb what 2) := in_lit rfl (by decide)
  have hr := hQ h Scr.rf
  unfold byTurnsA at hQ hr
  simp only [k220_0, k220_1, k220_2, k220_5, k220_8, k220_9, k220_10, k220_11, k220_14, k220_17, k220_18, k220_19, k220_20, k220_23, k220_26, k220_27, k220_28, k220_29, k220_30, k220_31, k220_32, k220_35, k220_37, k220_38, k220_39, k220_40, k220_41, k220_44, k220_46, k220_47, k220_50, k220_52, k220_54, k220_57, k220_60, k220_62, k220_64, k220_67, k220_68, k220_71, k220_72, mm_sI, mm_sJ, mm_sR, mm_cI, mm_cJ, mm_I, mm_J, mm_R, mm_K, mm_N, psh_s, psh_n, z_n, z_i, z_r, z_l, Nat.reduceAdd, Nat.reduceLeDiff, K113 hS, R113_2 hS, R113_3 hS, R113_5 hS, R113_8 hS, R113_9 hS, R113_10 hS, R113_11 hS, R113_16 hS, R113_17 hS, R113_18 hS, R113_19 hS, R113_20 hS, R113_21 hS, R113_22 hS, R113_26 hS, R113_27 hS, R113_30 hS, R113_32 hS, R113_34 hS, R113_35 hS, R113_36 hS, R113_37 hS, R113_40 hS, R113_41 hS, R113_42 hS, R113_43 hS, R113_44 hS, R113_45 hS, R113_47 hS, K114 hS, K115 hS, K116 hS, K117 hS, K118 hS, K119 hS, K120 hS, K121 hS, K122 hS, K123 hS, K124 hS, K125 hS, K126 hS, K127 hS, K128 hS, K129 hS, K130 hS, K131 hS, K132 hS, K133 hS, K134 hS, K135 hS, K136 hS, K137 hS, K138 hS, K139 hS, K140 hS, K141 hS, K142 hS, N114 hS, N115 hS, N116 hS, N117 hS, N118 hS, N119 hS, N120 hS, N121 hS, N122 hS, N123 hS, N124 hS, N125 hS, N126 hS, N127 hS, N128 hS, N129 hS, N130 hS, N131 hS, N132 hS, N133 hS, N134 hS, N135 hS, N136 hS, N137 hS, N138 hS, N139 hS, N140 hS, N141 hS, N142 hS, ne_eq, true_or, or_true, not_false_eq_true, Nat.reduceEqDiff, Nat.reduceLT, Nat.reduceLeDiff, Nat.reduceAdd, s_within', m_isFrog D.eF hS hF8, h4, b2i_0]
  by_cases c1 : inb frog F
  case neg => simp only [eq_false c1, not_false_eq_true, if_true, false_and, if_false] at hr ⊢; exact hr
  by_cases c2 : 1 ≤ n ∧ n ≤ 5
  case neg => simp only [eq_false c2, not_false_eq_true, if_true, false_and, and_false, if_false, eq_true c1, not_true_eq_false] at hr ⊢; exact hr
  by_cases c3 : inb what 2
  case neg => simp only [eq_false c3, not_false_eq_true, if_true, false_and, and_false, if_false, eq_true c1, eq_true c2, not_true_eq_false] at hr ⊢; exact hr
  simp only [eq_true c1, eq_true c2, eq_true c3, and_true, not_true_eq_false, if_false, if_true] at hQ ⊢
  obtain ⟨f, hf, rfl, hf2⟩ := inb_of c1
  obtain ⟨k, hk, rfl⟩ : ∃ k, k ≤ 4 ∧ n = nI (k + 1) := by
    have q1 := (iLe _ _).1 c2.1
    have q2 := (iLe _ _).1 c2.2
    rw [i1] at q1
    rw [show (5 : Int32).toInt = 5 from rfl] at q2
    obtain ⟨k, hk, rfl⟩ := nI_of (x := n) (by rw [iLt, i0]; omega)
    rw [nI_toInt hk] at q1 q2
    exact ⟨k - 1, by omega, by rw [show k - 1 + 1 = k by omega]⟩
  rw [ix_n hf2, ix_n (show k + 1 < 2 ^ 31 by omega), Nat.add_sub_cancel] at hQ
  have Dk : DD G F W (setTK b f (b 6 0) (b 3 f)) h r E := by rw [tk_self]; exact D
  refine m_turnFrom hf (by omega) D.w (i := 1) (k := k) (by omega) (by omega) D.w.at (D.w.a3 hf) Dk ?_
  intro h1 s1
  simp only [k220_0, k220_1, k220_2, k220_5, k220_8, k220_9, k220_10, k220_11, k220_14, k220_17, k220_18, k220_19, k220_20, k220_23, k220_26, k220_27, k220_28, k220_29, k220_30, k220_31, k220_32, k220_35, k220_37, k220_38, k220_39, k220_40, k220_41, k220_44, k220_46, k220_47, k220_50, k220_52, k220_54, k220_57, k220_60, k220_62, k220_64, k220_67, k220_68, k220_71, k220_72, mm_sI, mm_sJ, mm_sR, mm_cI, mm_cJ, mm_I, mm_J, mm_R, mm_K, mm_N, psh_s, psh_n, z_n, z_i, z_r, z_l, Nat.reduceAdd, Nat.reduceLeDiff, K113 hS, R113_2 hS, R113_3 hS, R113_5 hS, R113_8 hS, R113_9 hS, R113_10 hS, R113_11 hS, R113_16 hS, R113_17 hS, R113_18 hS, R113_19 hS, R113_20 hS, R113_21 hS, R113_22 hS, R113_26 hS, R113_27 hS, R113_30 hS, R113_32 hS, R113_34 hS, R113_35 hS, R113_36 hS, R113_37 hS, R113_40 hS, R113_41 hS, R113_42 hS, R113_43 hS, R113_44 hS, R113_45 hS, R113_47 hS, K114 hS, K115 hS, K116 hS, K117 hS, K118 hS, K119 hS, K120 hS, K121 hS, K122 hS, K123 hS, K124 hS, K125 hS, K126 hS, K127 hS, K128 hS, K129 hS, K130 hS, K131 hS, K132 hS, K133 hS, K134 hS, K135 hS, K136 hS, K137 hS, K138 hS, K139 hS, K140 hS, K141 hS, K142 hS, N114 hS, N115 hS, N116 hS, N117 hS, N118 hS, N119 hS, N120 hS, N121 hS, N122 hS, N123 hS, N124 hS, N125 hS, N126 hS, N127 hS, N128 hS, N129 hS, N130 hS, N131 hS, N132 hS, N133 hS, N134 hS, N135 hS, N136 hS, N137 hS, N138 hS, N139 hS, N140 hS, N141 hS, N142 hS, ne_eq, true_or, or_true, not_false_eq_true, Nat.reduceEqDiff, Nat.reduceLT, Nat.reduceLeDiff, Nat.reduceAdd]
  refine m_turnBy (i := 0) (k := k) (by omega) hf D.w.at (D.w.a3 hf) (Dk.sc s1) D.w (fun a b c hQ => m_turnFrom hf (by omega) D.w (i := 1) (k := k) (by omega) (by omega) a b c hQ) ?_
  intro h' s'
  have hQ := hQ h' (s1.tr s')
  obtain ⟨w, hw, rfl, _⟩ := inb_of c3
  match w, hw with
  | 0, _ =>
    simp only [nn0, if_true] at hQ
    simp only [k220_0, k220_1, k220_2, k220_5, k220_8, k220_9, k220_10, k220_11, k220_14, k220_17, k220_18, k220_19, k220_20, k220_23, k220_26, k220_27, k220_28, k220_29, k220_30, k220_31, k220_32, k220_35, k220_37, k220_38, k220_39, k220_40, k220_41, k220_44, k220_46, k220_47, k220_50, k220_52, k220_54, k220_57, k220_60, k220_62, k220_64, k220_67, k220_68, k220_71, k220_72, mm_sI, mm_sJ, mm_sR, mm_cI, mm_cJ, mm_I, mm_J, mm_R, mm_K, mm_N, psh_s, psh_n, z_n, z_i, z_r, z_l, Nat.reduceAdd, Nat.reduceLeDiff, ne_eq, true_or, or_true, not_false_eq_true, Nat.reduceEqDiff, Nat.reduceLT, Nat.reduceLeDiff, Nat.reduceAdd, nn0, if_true]
    exact hQ
  | 1, _ =>
    simp only [nn1, e10, if_false] at hQ
    simp only [k220_0, k220_1, k220_2, k220_5, k220_8, k220_9, k220_10, k220_11, k220_14, k220_17, k220_18, k220_19, k220_20, k220_23, k220_26, k220_27, k220_28, k220_29, k220_30, k220_31, k220_32, k220_35, k220_37, k220_38, k220_39, k220_40, k220_41, k220_44, k220_46, k220_47, k220_50, k220_52, k220_54, k220_57, k220_60, k220_62, k220_64, k220_67, k220_68, k220_71, k220_72, mm_sI, mm_sJ, mm_sR, mm_cI, mm_cJ, mm_I, mm_J, mm_R, mm_K, mm_N, psh_s, psh_n, z_n, z_i, z_r, z_l, Nat.reduceAdd, Nat.reduceLeDiff, ne_eq, true_or, or_true, not_false_eq_true, Nat.reduceEqDiff, Nat.reduceLT, Nat.reduceLeDiff, Nat.reduceAdd, nn1, e10, if_false]
    by_cases c : tnA W b f k false (b 6 0) (b 3 f) < tnA W b f k false (lessT (b 6 0)) (b 3 f)
    · simp only [c, if_true] at hQ
      rw [if_neg]
      · exact hQ
      · exact Int32.not_le.2 c
    · simp only [c, if_false] at hQ
      rw [if_pos]
      · exact hQ
      · exact Int32.not_lt.1 c
  | w + 2, hw => omega
end TN
