/-! ===== one frog's hours apart from the others' ===== -/
def Ag (f : Nat) (b b' : BB) : Prop := b 0 = b' 0 ∧ b 6 = b' 6 ∧ b 2 f = b' 2 f ∧ b 3 f = b' 3 f ∧ b 4 f = b' 4 f ∧ b 5 f = b' 5 f
section AGS
variable {f g F : Nat} {W : LW} {b b' b2 : BB}
theorem Ag.rf : Ag f b b := ⟨rfl, rfl, rfl, rfl, rfl, rfl⟩
theorem Ag.tr (a : Ag f b b') (c : Ag f b' b2) : Ag f b b2 := ⟨a.1.trans c.1, a.2.1.trans c.2.1, a.2.2.1.trans c.2.2.1, a.2.2.2.1.trans c.2.2.2.1, a.2.2.2.2.1.trans c.2.2.2.2.1, a.2.2.2.2.2.trans c.2.2.2.2.2⟩
theorem ag_loss (a : Ag f b b') : lossB W b f = lossB W b' f := by
  obtain ⟨e0, e6, e2, e3, e4, e5⟩ := a
  unfold lossB; rw [e0, e6, e2, e3, e4, e5]
theorem ag_go (a : Ag f b b') : Ag f (goB W f b) (goB W f b') := by
  have el := ag_loss (W := W) a
  obtain ⟨e0, e6, e2, e3, e4, e5⟩ := a
  rw [goB_d, goB_d, e4, e6, e2, e0, e5, el]
  split
  · exact ⟨e0, e6, e2, e3, e4, e5⟩
  · split
    · refine ⟨?_, ?_, ?_, ?_, ?_, ?_⟩ <;> simp [up2_a, up2_s, up2_i, e0, e6, e2, e3, e4]
    · split
      · refine ⟨?_, ?_, ?_, ?_, ?_, ?_⟩ <;> simp [up2_a, up2_s, up2_i, e0, e6, e3]
      · refine ⟨?_, ?_, ?_, ?_, ?_, ?_⟩ <;> simp [up2_a, up2_s, up2_i, e0, e6, e3, e4]
theorem ag_ot (h : g ≠ f) : Ag f (goB W g b) b := by
  have h' := Ne.symm h
  rw [goB_d]
  split
  · exact Ag.rf
  · split
    · refine ⟨?_, ?_, ?_, ?_, ?_, ?_⟩ <;> simp [up2_a, up2_s, up2_i, h']
    · split
      · refine ⟨?_, ?_, ?_, ?_, ?_, ?_⟩ <;> simp [up2_a, up2_s, up2_i, h']
      · refine ⟨?_, ?_, ?_, ?_, ?_, ?_⟩ <;> simp [up2_a, up2_s, up2_i, h']
theorem ag_end (a : Ag f b b') : Ag f (endB b) (endB b') := by
  obtain ⟨e0, e6, e2, e3, e4, e5⟩ := a
  unfold endB
  refine ⟨?_, ?_, ?_, ?_, ?_, ?_⟩
  · rw [up2_a (by decide), up2_a (by decide)]; exact e0
  · funext x; rw [up2_e, up2_e, e6]
  · rw [up2_a (by decide), up2_a (by decide)]; exact e2
  · rw [up2_a (by decide), up2_a (by decide)]; exact e3
  · rw [up2_a (by decide), up2_a (by decide)]; exact e4
  · rw [up2_a (by decide), up2_a (by decide)]; exact e5
theorem ag_f1 : ∀ {k i : Nat} {b : BB}, (∀ x, i ≤ x → x < i + k → x ≠ f) → Ag f (fB W i k b) b := by
  intro k
  induction k with
  | zero => intro i b _; exact Ag.rf
  | succ k ih => intro i b h; exact (ih (fun x p q => h x (by omega) (by omega))).tr (ag_ot (h i (by omega) (by omega)))
theorem ag_f2 : ∀ {k i : Nat} {b b' : BB}, i ≤ f → f < i + k → Ag f b b' → Ag f (fB W i k b) (goB W f b') := by
  intro k
  induction k with
  | zero => intro i b b' h1 h2; omega
  | succ k ih =>
    intro i b b' h1 h2 a
    rw [fB_s]
    by_cases e : i = f
    · subst e; exact (ag_f1 (fun x p q => by omega)).tr (ag_go a)
    · exact ih (by omega) (by omega) ((ag_ot e).tr a)
/-- all frogs' hour is this frog's own -/
theorem ag_hr (hf : f < F) (a : Ag f b b') : Ag f (hrB W F b) (oneB W f b') := ag_end (ag_f2 (by omega) (by omega) a)
end AGS
/-! ===== books ===== -/
def bkL (W : LW) (V : Nat → Int64) (f : Nat) : Nat → Nat → BB → Int32
  | _, 0, _ => -2
  | i, k + 1, b => if V i ≠ 100 ∧ V i ≠ (b 5 f).toInt64 then nI i else bkL W V f (i + 1) k (oneB W f b)
def ftL (W : LW) (V : Nat → Int64) (f n : Nat) (b : BB) (row : Nat) : Int32 → Nat → Int32 → Int32
  | _, 0, a => a
  | v, k + 1, a => ftL W V f n b row (v + 1) k (if bkL W V f 0 n (up2 b row f v) = -2 then a ||| ((1 : Int32) <<< ((if v = -1 then 8 else v) &&& 31)) else a)
def judgeA (F : Nat) (W : LW) (b : BB) (HD : Nat → Int32) (N : Nat → Nat) (V : Nat → Nat → Int64) (s f : Int32) : Int32 :=
  if inb s 6 ∧ inb f F then (if HD (ix s) = -1 then -11 else if HD (ix s) = 0 then bkL W (V (ix s)) (ix f) 0 (min (N (ix s)) 41) b else -12) else -1
def fitsA (G F : Nat) (W : LW) (b : BB) (HD : Nat → Int32) (N : Nat → Nat) (V : Nat → Nat → Int64) (s f what : Int32) : Int32 :=
  if inb s 6 ∧ inb f F ∧ inb what 2 then (if HD (ix s) = -1 then -11 else if HD (ix s) = 0 then
    (if what = 0 then ftL W (V (ix s)) (ix f) (min (N (ix s)) 41) b 3 0 10 0 else ftL W (V (ix s)) (ix f) (min (N (ix s)) 41) b 4 (-1) (G + 1) 0) else -12) else -1
theorem bkL_s {W : LW} {V : Nat → Int64} {f i k : Nat} {b : BB} : bkL W V f i (k + 1) b = if V i ≠ 100 ∧ V i ≠ (b 5 f).toInt64 then nI i else bkL W V f (i + 1) k (oneB W f b) := rfl
theorem ftL_s {W : LW} {V : Nat → Int64} {f n row k : Nat} {b : BB} {v a : Int32} : ftL W V f n b row v (k + 1) a = ftL W V f n b row (v + 1) k (if bkL W V f 0 n (up2 b row f v) = -2 then a ||| ((1 : Int32) <<< ((if v = -1 then 8 else v) &&& 31)) else a) := rfl
theorem lg0 {x y : Int64} : (lg_cmp x y = 0) = (x = y) := by
  unfold lg_cmp
  apply propext
  simp only [gt_iff_lt, Int64.lt_iff_toInt_lt, ← Int64.toInt_inj]
  by_cases h1 : y.toInt < x.toInt
  · rw [if_pos h1]
    constructor
    · intro h; exact absurd h (by decide)
    · intro h; omega
  · rw [if_neg h1]
    by_cases h2 : x.toInt = y.toInt
    · rw [if_pos h2]; simp [h2]
    · rw [if_neg h2]
      constructor
      · intro h; exact absurd h (by decide)
      · intro h; exact absurd h h2
section BKS
variable {d : Nat} {M : Mem} {h h0 h1 h2 : Hp} {j : Jp} {r : Rp} {E : EE} {l G F A s n : Nat} {W : LW} {b bt : BB} {Q : Option PV → Mem → Prop} {hd : Int32} {V : Nat → Int64}
theorem ShC.fr (C : ShC s hd n V h j r) (hs : s < 6) (e : Scr h h1) : ShC s hd n V h1 j r := by
  unfold ShC at C ⊢; rw [e.1 (101 + 2 * s) (by unfold scrA; omega)]; exact C
theorem c_bkL {f : Nat} (hs : s < 6) (hf : f < F) (Cs : ShC s hd n V h0 j r) : ∀ {k i N : Nat} {bt : BB} {h : Hp} {x y : Option PV}, N ≤ 41 → N ≤ n → i + k = N → TT G F l W b bt h0 h r E → (∀ h', Scr h0 h' → Q (some (vi (bkL W V f i k bt))) (mm h' j r E)) →
    WP (d + 5) 106 13 [some (vr 2), some (vr (101 + 2 * s)), some (vi (nI f)), some (vi (nI N)), some (vi (nI i)), x, y] [] (mm h j r E) Q := by
  intro k
  induction k with
  | zero =>
    intro i N bt h x y hN hn hk T hQ
    have : i = N := by omega
    subst this
    rw [k106_13]
    simp only [k106_0, k106_1, k106_4, k106_6, k106_9, k106_10, k106_11, k106_15, k106_16, k106_19, k106_20, k106_22, k106_25, k106_27, k106_29, k106_32, k106_33, k106_36, k106_38, k106_39, k106_42, k106_45, k106_46, k106_47, k106_48, k106_49, k106_52, k106_54, k106_55, k106_56, k106_59, k106_60, k106_61, k106_64, k106_67, k106_67i, k106_68, k106_69, k106_72, k106_75, k106_78, k106_81, k106_83, mm_sI, mm_sJ, mm_sR, mm_cI, mm_cJ, mm_I, mm_J, mm_R, mm_K, mm_N, psh_s, psh_n, z_n, z_i, z_r, z_l, Nat.reduceAdd, Nat.reduceLeDiff, false_or, or_false, ne_eq, true_or, or_true, not_false_eq_true, Nat.reduceEqDiff, Nat.reduceLT, Nat.reduceLeDiff, Nat.reduceAdd, Int32.le_refl, if_true]
    exact hQ h T.s
  | succ k ih =>
    intro i N bt h x y hN hn hk T hQ
    have hS := T.C.S
    have e4 := T.C.rl
    have hF8 := T.C.F8
    have Cs' := Cs.fr hs T.s
    have hin : inb (nI i) n = True := eq_true (by rw [inb_n (by omega)]; omega)
    have hf' : inb (nI f) 8 = True := eq_true (by rw [inb_n (by omega)]; omega)
    rw [k106_13]
    simp only [k106_0, k106_1, k106_4, k106_6, k106_9, k106_10, k106_11, k106_15, k106_16, k106_19, k106_20, k106_22, k106_25, k106_27, k106_29, k106_32, k106_33, k106_36, k106_38, k106_39, k106_42, k106_45, k106_46, k106_47, k106_48, k106_49, k106_52, k106_54, k106_55, k106_56, k106_59, k106_60, k106_61, k106_64, k106_67, k106_67i, k106_68, k106_69, k106_72, k106_75, k106_78, k106_81, k106_83, mm_sI, mm_sJ, mm_sR, mm_cI, mm_cJ, mm_I, mm_J, mm_R, mm_K, mm_N, psh_s, psh_n, z_n, z_i, z_r, z_l, Nat.reduceAdd, Nat.reduceLeDiff, K2 hS, R2_0 hS, R2_1 hS, R2_2 hS, R2_6 hS, R2_8 hS, R2_11 hS, R2_12 hS, R2_13 hS, R2_15 hS, R2_16 hS, K3 hS, K11 hS, K19 hS, K27 hS, K32 hS, K37 hS, K98 hS, K99 hS, K100 hS, N37 hS, N98 hS, N99 hS, N100 hS, false_or, or_false, ne_eq, true_or, or_true, not_false_eq_true, Nat.reduceEqDiff, Nat.reduceLT, Nat.reduceLeDiff, Nat.reduceAdd, nLe (show N < 2 ^ 31 by omega) (show i < 2 ^ 31 by omega), show ¬ N ≤ i by omega, if_false, shK hS hs, s_at hS hs Cs', hin, if_true, ix_n (show i < 2 ^ 31 by omega), lg0, R11_0 hS, R11_1 hS, R11_2 hS, R11_3 hS, R11_4 hS, R11_5 hS, R11_6 hS, K12 hS, K13 hS, K14 hS, K15 hS, K16 hS, K17 hS, K18 hS, N12 hS, N13 hS, N14 hS, N15 hS, N16 hS, N17 hS, N18 hS, hf', ix_n (show f < 2 ^ 31 by omega), t_v5 T hf, e4]
    rw [bkL_s] at hQ
    have go : (∀ h', Scr h0 h' → Q (some (vi (bkL W V f (i + 1) k (oneB W f bt)))) (mm h' j r E)) → WP (d + 4) 41 0 [some (vr 11), some (vi (nI f)), some (vr l), none, none, none] [] (mm h j r E) (fun v M' => WP (d + 5) 106 67 [some (vr 2), some (vr (101 + 2 * s)), some (vi (nI f)), some (vi (nI N)), some (vi (nI i)), some (vl (V i)), none] (psh v []) M' Q) := by
      intro hQ
      refine t_passOf T hf ?_
      intro h' T'
      simp only [k106_0, k106_1, k106_4, k106_6, k106_9, k106_10, k106_11, k106_15, k106_16, k106_19, k106_20, k106_22, k106_25, k106_27, k106_29, k106_32, k106_33, k106_36, k106_38, k106_39, k106_42, k106_45, k106_46, k106_47, k106_48, k106_49, k106_52, k106_54, k106_55, k106_56, k106_59, k106_60, k106_61, k106_64, k106_67, k106_67i, k106_68, k106_69, k106_72, k106_75, k106_78, k106_81, k106_83, mm_sI, mm_sJ, mm_sR, mm_cI, mm_cJ, mm_I, mm_J, mm_R, mm_K, mm_N, psh_s, psh_n, z_n, z_i, z_r, z_l, Nat.reduceAdd, Nat.reduceLeDiff, K2 hS, R2_0 hS, R2_1 hS, R2_2 hS, R2_6 hS, R2_8 hS, R2_11 hS, R2_12 hS, R2_13 hS, R2_15 hS, R2_16 hS, K3 hS, K11 hS, K19 hS, K27 hS, K32 hS, K37 hS, K98 hS, K99 hS, K100 hS, N37 hS, N98 hS, N99 hS, N100 hS, false_or, or_false, ne_eq, true_or, or_true, not_false_eq_true, Nat.reduceEqDiff, Nat.reduceLT, Nat.reduceLeDiff, Nat.reduceAdd]
      refine WP.deep (d := d) ?_ (by omega)
      refine t_end T' ?_
      intro h'' T''
      simp only [k106_0, k106_1, k106_4, k106_6, k106_9, k106_10, k106_11, k106_15, k106_16, k106_19, k106_20, k106_22, k106_25, k106_27, k106_29, k106_32, k106_33, k106_36, k106_38, k106_39, k106_42, k106_45, k106_46, k106_47, k106_48, k106_49, k106_52, k106_54, k106_55, k106_56, k106_59, k106_60, k106_61, k106_64, k106_67, k106_67i, k106_68, k106_69, k106_72, k106_75, k106_78, k106_81, k106_83, mm_sI, mm_sJ, mm_sR, mm_cI, mm_cJ, mm_I, mm_J, mm_R, mm_K, mm_N, psh_s, psh_n, z_n, z_i, z_r, z_l, Nat.reduceAdd, Nat.reduceLeDiff, false_or, or_false, ne_eq, true_or, or_true, not_false_eq_true, Nat.reduceEqDiff, Nat.reduceLT, Nat.reduceLeDiff, Nat.reduceAdd, nS1]
      refine WP.deep (d := d + 5) ?_ (by omega)
      exact ih hN hn (by omega) T'' hQ
    by_cases c1 : V i = 100
    · rw [if_pos c1]
      rw [if_neg (fun hh => hh.1 c1)] at hQ
      exact go hQ
    · by_cases c2 : V i = (bt 5 f).toInt64
      · rw [if_neg c1, if_pos c2]
        rw [if_neg (fun hh => hh.2 c2)] at hQ
        exact go hQ
      · rw [if_neg c1, if_neg c2]
        rw [if_pos ⟨c1, c2⟩] at hQ
        exact hQ h T.s
theorem c_firstNotSo {f : Nat} (hs : s < 6) (hf : f < F) (Cs : ShC s hd n V h0 j r) (T : TT G F l W b bt h0 h r E) (hQ : ∀ h', Scr h0 h' → Q (some (vi (bkL W V f 0 (min n 41) bt))) (mm h' j r E)) :
    WP (d + 5) 106 0 [some (vr 2), some (vr (101 + 2 * s)), some (vi (nI f)), none, none, none, none] [] (mm h j r E) Q := by
  have hS := T.C.S
  have Cs' := Cs.fr hs T.s
  have hn := Cs'.2.1
  have em : (if (41 : Int32) < nI n then 41 else nI n) = nI (min n 41) := by
    rw [show (41 : Int32) = nI 41 from rfl]
    by_cases c : 41 < n
    · rw [if_pos (by rw [nLt (by decide) (by omega)]; exact c), Nat.min_eq_right (by omega)]
    · rw [if_neg (by rw [nLt (by decide) (by omega)]; exact c), Nat.min_eq_left (by omega)]
  simp only [k106_0, k106_1, k106_4, k106_6, k106_9, k106_10, k106_11, k106_15, k106_16, k106_19, k106_20, k106_22, k106_25, k106_27, k106_29, k106_32, k106_33, k106_36, k106_38, k106_39, k106_42, k106_45, k106_46, k106_47, k106_48, k106_49, k106_52, k106_54, k106_55, k106_56, k106_59, k106_60, k106_61, k106_64, k106_67, k106_67i, k106_68, k106_69, k106_72, k106_75, k106_78, k106_81, k106_83, mm_sI, mm_sJ, mm_sR, mm_cI, mm_cJ, mm_I, mm_J, mm_R, mm_K, mm_N, psh_s, psh_n, z_n, z_i, z_r, z_l, Nat.reduceAdd, Nat.reduceLeDiff, K2 hS, R2_0 hS, R2_1 hS, R2_2 hS, R2_6 hS, R2_8 hS, R2_11 hS, R2_12 hS, R2_13 hS, R2_15 hS, R2_16 hS, K3 hS, K11 hS, K19 hS, K27 hS, K32 hS, K37 hS, K98 hS, K99 hS, K100 hS, N37 hS, N98 hS, N99 hS, N100 hS, false_or, or_false, ne_eq, true_or, or_true, not_false_eq_true, Nat.reduceEqDiff, Nat.reduceLT, Nat.reduceLeDiff, Nat.reduceAdd, shK hS hs, Cs'.1, em]
  exact c_bkL hs hf Cs (i := 0) (k := min n 41) (N := min n 41) (by omega) (by omega) (by omega) T hQ
theorem c_judge {sh fr : Int32} {HD : Nat → Int32} {N : Nat → Nat} {V : Nat → Nat → Int64} (C : CC G F l W b h r E) (Cs : ∀ s, s < 6 → ShC s (HD s) (N s) (V s) h j r) (hQ : ∀ h', Scr h h' → Q (some (vi (judgeA F W b HD N V sh fr))) (mm h' j r E)) :
    WP (d + 6) 104 0 [some (vr 2), some (vi sh), some (vi fr), none, none] [] (mm h j r E) Q := by
  have hS := C.S
  have hr := hQ h Scr.rf
  unfold judgeA at hQ hr
  simp only [k104_0, k104_1, k104_4, k104_7, k104_8, k104_11, k104_12, k104_15, k104_18, k104_19, k104_20, k104_21, k104_24, k104_25, k104_26, k104_27, k104_28, k104_31, k104_33, k104_35, k104_38, k104_40, k104_41, k104_42, k104_45, k104_46, k104_49, k104_52, k104_53, k104_54, k104_55, k104_58, mm_sI, mm_sJ, mm_sR, mm_cI, mm_cJ, mm_I, mm_J, mm_R, mm_K, mm_N, psh_s, psh_n, z_n, z_i, z_r, z_l, Nat.reduceAdd, Nat.reduceLeDiff, K2 hS, R2_0 hS, R2_1 hS, R2_2 hS, R2_6 hS, R2_8 hS, R2_11 hS, R2_12 hS, R2_13 hS, R2_15 hS, R2_16 hS, K3 hS, K11 hS, K19 hS, K27 hS, K32 hS, K37 hS, K98 hS, K99 hS, K100 hS, N37 hS, N98 hS, N99 hS, N100 hS, false_or, or_false, ne_eq, true_or, or_true, not_false_eq_true, Nat.reduceEqDiff, Nat.reduceLT, Nat.reduceLeDiff, Nat.reduceAdd, s_isShelf, c_hasFrog C, b2i_0]
  by_cases c1 : inb sh 6
  case neg => simp only [eq_false c1, not_false_eq_true, if_true, false_and, if_false] at hr ⊢; exact hr
  by_cases c2 : inb fr F
  case neg => simp only [eq_false c2, not_false_eq_true, if_true, false_and, and_false, if_false, eq_true c1, not_true_eq_false] at hr ⊢; exact hr
  obtain ⟨s, hs, rfl, _⟩ := inb_of c1
  obtain ⟨f, hf, rfl, hf2⟩ := inb_of c2
  have ex : ix (nI s) = s := ix_n (by omega)
  simp only [eq_true c1, eq_true c2, not_true_eq_false, if_false, and_true, if_true, ex, ix_n hf2] at hQ hr
  simp only [k104_0, k104_1, k104_4, k104_7, k104_8, k104_11, k104_12, k104_15, k104_18, k104_19, k104_20, k104_21, k104_24, k104_25, k104_26, k104_27, k104_28, k104_31, k104_33, k104_35, k104_38, k104_40, k104_41, k104_42, k104_45, k104_46, k104_49, k104_52, k104_53, k104_54, k104_55, k104_58, mm_sI, mm_sJ, mm_sR, mm_cI, mm_cJ, mm_I, mm_J, mm_R, mm_K, mm_N, psh_s, psh_n, z_n, z_i, z_r, z_l, Nat.reduceAdd, Nat.reduceLeDiff, K2 hS, R2_0 hS, R2_1 hS, R2_2 hS, R2_6 hS, R2_8 hS, R2_11 hS, R2_12 hS, R2_13 hS, R2_15 hS, R2_16 hS, K3 hS, K11 hS, K19 hS, K27 hS, K32 hS, K37 hS, K98 hS, K99 hS, K100 hS, N37 hS, N98 hS, N99 hS, N100 hS, false_or, or_false, ne_eq, true_or, or_true, not_false_eq_true, Nat.reduceEqDiff, Nat.reduceLT, Nat.reduceLeDiff, Nat.reduceAdd, eq_true c1, eq_true c2, not_true_eq_false, if_false, if_true, ex, shR hS hs, s_bookRefusal hS hs (Cs s hs)]
  by_cases h1 : HD s = -1
  · simp only [h1, if_true] at hr
    simp only [h1, if_true, show ¬ ((-11 : Int32) = 0) by decide, if_false]; exact hr
  · by_cases h0 : HD s = 0
    · simp only [h0, if_true, show ¬ ((0 : Int32) = -1) by decide, if_false] at hQ ⊢
      refine WP.deep (d := d + 5) ?_ (by omega)
      refine t_copy C Scr.rf ?_
      intro h' T
      simp only [k104_0, k104_1, k104_4, k104_7, k104_8, k104_11, k104_12, k104_15, k104_18, k104_19, k104_20, k104_21, k104_24, k104_25, k104_26, k104_27, k104_28, k104_31, k104_33, k104_35, k104_38, k104_40, k104_41, k104_42, k104_45, k104_46, k104_49, k104_52, k104_53, k104_54, k104_55, k104_58, mm_sI, mm_sJ, mm_sR, mm_cI, mm_cJ, mm_I, mm_J, mm_R, mm_K, mm_N, psh_s, psh_n, z_n, z_i, z_r, z_l, Nat.reduceAdd, Nat.reduceLeDiff, K2 hS, R2_0 hS, R2_1 hS, R2_2 hS, R2_6 hS, R2_8 hS, R2_11 hS, R2_12 hS, R2_13 hS, R2_15 hS, R2_16 hS, K3 hS, K11 hS, K19 hS, K27 hS, K32 hS, K37 hS, K98 hS, K99 hS, K100 hS, N37 hS, N98 hS, N99 hS, N100 hS, false_or, or_false, ne_eq, true_or, or_true, not_false_eq_true, Nat.reduceEqDiff, Nat.reduceLT, Nat.reduceLeDiff, Nat.reduceAdd]
      refine c_firstNotSo hs hf (Cs s hs) T ?_
      intro h'' s'
      simp only [k104_0, k104_1, k104_4, k104_7, k104_8, k104_11, k104_12, k104_15, k104_18, k104_19, k104_20, k104_21, k104_24, k104_25, k104_26, k104_27, k104_28, k104_31, k104_33, k104_35, k104_38, k104_40, k104_41, k104_42, k104_45, k104_46, k104_49, k104_52, k104_53, k104_54, k104_55, k104_58, mm_sI, mm_sJ, mm_sR, mm_cI, mm_cJ, mm_I, mm_J, mm_R, mm_K, mm_N, psh_s, psh_n, z_n, z_i, z_r, z_l, Nat.reduceAdd, Nat.reduceLeDiff, false_or, or_false, ne_eq, true_or, or_true, not_false_eq_true, Nat.reduceEqDiff, Nat.reduceLT, Nat.reduceLeDiff, Nat.reduceAdd]
      exact hQ h'' s'
    · simp only [h1, h0, if_false] at hr
      simp only [h1, h0, if_false, show ¬ ((-12 : Int32) = 0) by decide]; exact hr
end BKS
