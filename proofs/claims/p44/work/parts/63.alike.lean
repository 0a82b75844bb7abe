/-! ===== frogs that hold as much ===== -/
/-- as much in each of these hours -/
def sameL (W : LW) (F f g : Nat) : Nat → BB → Prop
  | 0, b => b 5 f = b 5 g
  | k + 1, b => b 5 f = b 5 g ∧ sameL W F f g k (hrB W F b)
def same (W : LW) (F f g : Nat) (b : BB) : Bool := (List.range 13).all fun n => itB W F n b 5 f == itB W F n b 5 g
def row1 (p : Nat → Bool) : Nat → Nat → Nat
  | _, 0 => 0
  | i, k + 1 => (if p i then 1 else 0) + row1 p (i + 1) k
/-- class: pairs f < g by f; model: by the greater -/
def prC (p : Nat → Nat → Bool) (F : Nat) : Nat → Nat → Nat
  | _, 0 => 0
  | f, k + 1 => row1 (p f) (f + 1) k + prC p F (f + 1) k
def prM (p : Nat → Nat → Bool) : Nat → Nat → Nat
  | _, 0 => 0
  | f, k + 1 => row1 (p f) 0 f + prM p (f + 1) k
theorem row1_add {p : Nat → Bool} : ∀ {a i c : Nat}, row1 p i (a + c) = row1 p i a + row1 p (i + a) c := by
  intro a
  induction a with
  | zero => intro i c; rw [Nat.zero_add, row1, Nat.zero_add, Nat.add_zero]
  | succ a ih => intro i c; rw [show a + 1 + c = (a + c) + 1 by omega, row1, row1, ih, show i + 1 + a = i + (a + 1) by omega]; omega
theorem prM_add {p : Nat → Nat → Bool} : ∀ {a f c : Nat}, prM p f (a + c) = prM p f a + prM p (f + a) c := by
  intro a
  induction a with
  | zero => intro f c; rw [Nat.zero_add, prM, Nat.zero_add, Nat.add_zero]
  | succ a ih => intro f c; rw [show a + 1 + c = (a + c) + 1 by omega, prM, prM, ih, show f + 1 + a = f + (a + 1) by omega]; omega
/-- one more frog: for all from f on -/
theorem prC_one {p : Nat → Nat → Bool} {F F' : Nat} (sy : ∀ a c, p a c = p c a) : ∀ {k f : Nat}, prC p F' f (k + 1) = prC p F f k + row1 (fun x => p (f + k) x) f k := by
  intro k
  induction k with
  | zero => intro f; rw [prC, prC, row1, row1, prC]
  | succ k ih =>
    intro f
    rw [show prC p F' f (k + 1 + 1) = row1 (p f) (f + 1) (k + 1) + prC p F' (f + 1) (k + 1) from rfl, show prC p F f (k + 1) = row1 (p f) (f + 1) k + prC p F (f + 1) k from rfl, ih, row1_add (a := k) (c := 1)]
    rw [show row1 (fun x => p (f + (k + 1)) x) f (k + 1) = (if p (f + (k + 1)) f then 1 else 0) + row1 (fun x => p (f + (k + 1)) x) (f + 1) k from rfl]
    rw [show f + 1 + k = f + (k + 1) by omega, sy (f + (k + 1)) f]
    rw [show row1 (p f) (f + (k + 1)) 1 = (if p f (f + (k + 1)) then 1 else 0) + 0 from rfl]
    omega
theorem pr_eq {p : Nat → Nat → Bool} (sy : ∀ a c, p a c = p c a) : ∀ {F : Nat}, prC p F 0 F = prM p 0 F := by
  have h : ∀ {k F F' : Nat}, prC p F 0 k = prC p F' 0 k := by
    have h2 : ∀ {k f F F' : Nat}, prC p F f k = prC p F' f k := by
      intro k
      induction k with
      | zero => intro f F F'; rfl
      | succ k ih => intro f F F'; rw [prC, prC, ih]
    intro k F F'; exact h2
  intro F
  induction F with
  | zero => rfl
  | succ F ih =>
    rw [prC_one (F := F) sy, prM_add (a := F) (c := 1), Nat.zero_add, ih, show prM p F 1 = row1 (p F) 0 F + 0 from rfl, Nat.add_zero]
theorem row1_le {p : Nat → Bool} : ∀ {k i : Nat}, row1 p i k ≤ k := by
  intro k
  induction k with
  | zero => intro i; exact Nat.le_refl _
  | succ k ih => intro i; rw [row1]; have := @ih (i + 1); split <;> omega
theorem same_sy {W : LW} {F f g : Nat} {b : BB} : same W F f g b = same W F g f b := by
  unfold same
  congr 1
  funext n
  exact Bool.beq_comm
theorem same_L {W : LW} {F f g : Nat} {b : BB} : same W F f g b = true ↔ sameL W F f g 12 b := by
  unfold same
  have gen : ∀ (k : Nat) (b : BB), ((List.range (k + 1)).all fun n => itB W F n b 5 f == itB W F n b 5 g) = true ↔ sameL W F f g k b := by
    intro k
    induction k with
    | zero => intro b; rw [sameL]; simp [itB]
    | succ k ih =>
      intro b
      rw [sameL, ← ih, List.range_succ_eq_map]
      simp only [List.all_cons, List.all_map, Bool.and_eq_true, beq_iff_eq]
      rfl
  exact gen 12 b
def alikeA (F : Nat) (W : LW) (b : BB) : Int32 := nI (prM (fun f g => same W F f g b) 0 F)
theorem sameL_s {W : LW} {F f g k : Nat} {b : BB} : sameL W F f g (k + 1) b = (b 5 f = b 5 g ∧ sameL W F f g k (hrB W F b)) := rfl
section AL
variable {d : Nat} {M : Mem} {h h0 h1 h2 : Hp} {j : Jp} {r : Rp} {E : EE} {l G F A s n : Nat} {W : LW} {b bt bm : BB} {Q : Option PV → Mem → Prop}
/-- both alone as all -/
theorem ag_two {f g : Nat} (hf : f < F) (hg : g < F) (hn : f ≠ g) (a : Ag f bm bt) (c : Ag g bm bt) : Ag f (hrB W F bm) (endB (goB W g (goB W f bt))) ∧ Ag g (hrB W F bm) (endB (goB W g (goB W f bt))) := by
  constructor
  · refine (ag_hr hf a).tr (ag_end ?_)
    obtain ⟨e0, e6, e2, e3, e4, e5⟩ := ag_ot (W := W) (b := goB W f bt) (Ne.symm hn)
    exact ⟨e0.symm, e6.symm, e2.symm, e3.symm, e4.symm, e5.symm⟩
  · refine (ag_hr hg c).tr (ag_end (ag_go ?_))
    obtain ⟨e0, e6, e2, e3, e4, e5⟩ := ag_ot (W := W) (b := bt) hn
    exact ⟨e0.symm, e6.symm, e2.symm, e3.symm, e4.symm, e5.symm⟩
theorem c_hmL {f g : Nat} (hf : f < F) (hg : g < F) (hn : f ≠ g) : ∀ {k i : Nat} {bm bt : BB} {h : Hp}, i + k = 12 → Ag f bm bt → Ag g bm bt → TT G F l W b bt h0 h r E → (sameL W F f g k bm → ∀ h', Scr h0 h' → Q (some (vi 1)) (mm h' j r E)) → (¬ sameL W F f g k bm → ∀ h', Scr h0 h' → Q (some (vi 0)) (mm h' j r E)) →
    WP (d + 5) 111 13 [some (vr 2), some (vi (nI f)), some (vi (nI g)), some (vi (nI i))] [] (mm h j r E) Q := by
  intro k
  induction k with
  | zero =>
    intro i bm bt h hk a c T q1 q2
    have hS := T.C.S
    have hF8 := T.C.F8
    have hf' : inb (nI f) 8 = True := eq_true (by rw [inb_n (by omega)]; omega)
    have hg' : inb (nI g) 8 = True := eq_true (by rw [inb_n (by omega)]; omega)
    have : i = 12 := by omega
    subst this
    have ef : bm 5 f = bt 5 f := a.2.2.2.2.2
    have eg : bm 5 g = bt 5 g := c.2.2.2.2.2
    rw [sameL, ef, eg] at q1 q2
    rw [k111_13]
    simp only [k111_0, k111_1, k111_4, k111_5, k111_8, k111_11, k111_12, k111_14, k111_16, k111_19, k111_20, k111_23, k111_26, k111_27, k111_28, k111_29, k111_32, k111_35, k111_36, k111_37, k111_40, k111_41, k111_42, k111_43, k111_46, k111_47, k111_48, k111_51, k111_54, k111_54i, k111_55, k111_56, k111_59, k111_60, k111_61, k111_64, k111_67, k111_67i, k111_68, k111_69, k111_72, k111_75, k111_78, k111_81, k111_82, k111_85, k111_88, k111_89, k111_90, k111_91, k111_94, k111_97, k111_98, k111_99, k111_102, k111_103, k111_106, k111_107, mm_sI, mm_sJ, mm_sR, mm_cI, mm_cJ, mm_I, mm_J, mm_R, mm_K, mm_N, psh_s, psh_n, z_n, z_i, z_r, z_l, Nat.reduceAdd, Nat.reduceLeDiff, K2 hS, R2_0 hS, R2_1 hS, R2_2 hS, R2_6 hS, R2_8 hS, R2_11 hS, R2_12 hS, R2_13 hS, R2_15 hS, R2_16 hS, K3 hS, K11 hS, K19 hS, K27 hS, K32 hS, K37 hS, K98 hS, K99 hS, K100 hS, N37 hS, N98 hS, N99 hS, N100 hS, R11_0 hS, R11_1 hS, R11_2 hS, R11_3 hS, R11_4 hS, R11_5 hS, R11_6 hS, K12 hS, K13 hS, K14 hS, K15 hS, K16 hS, K17 hS, K18 hS, N12 hS, N13 hS, N14 hS, N15 hS, N16 hS, N17 hS, N18 hS, false_or, or_false, ne_eq, true_or, or_true, not_false_eq_true, Nat.reduceEqDiff, Nat.reduceLT, Nat.reduceLeDiff, Nat.reduceAdd, nn12, Int32.le_refl, if_true, hf', hg', ix_n (show f < 2 ^ 31 by omega), ix_n (show g < 2 ^ 31 by omega), t_v5 T hf, t_v5 T hg]
    by_cases e : bt 5 f = bt 5 g
    · simp only [e, if_true]; exact q1 e h T.s
    · simp only [e, if_false]; exact q2 e h T.s
  | succ k ih =>
    intro i bm bt h hk a c T q1 q2
    have hS := T.C.S
    have e4 := T.C.rl
    have hF8 := T.C.F8
    have hf' : inb (nI f) 8 = True := eq_true (by rw [inb_n (by omega)]; omega)
    have hg' : inb (nI g) 8 = True := eq_true (by rw [inb_n (by omega)]; omega)
    have p1 : ((12 : Int32) ≤ nI i) = False := by rw [← nn12, nLe (by decide) (by omega)]; apply eq_false; omega
    have ef : bm 5 f = bt 5 f := a.2.2.2.2.2
    have eg : bm 5 g = bt 5 g := c.2.2.2.2.2
    rw [sameL_s, ef, eg] at q1 q2
    rw [k111_13]
    simp only [k111_0, k111_1, k111_4, k111_5, k111_8, k111_11, k111_12, k111_14, k111_16, k111_19, k111_20, k111_23, k111_26, k111_27, k111_28, k111_29, k111_32, k111_35, k111_36, k111_37, k111_40, k111_41, k111_42, k111_43, k111_46, k111_47, k111_48, k111_51, k111_54, k111_54i, k111_55, k111_56, k111_59, k111_60, k111_61, k111_64, k111_67, k111_67i, k111_68, k111_69, k111_72, k111_75, k111_78, k111_81, k111_82, k111_85, k111_88, k111_89, k111_90, k111_91, k111_94, k111_97, k111_98, k111_99, k111_102, k111_103, k111_106, k111_107, mm_sI, mm_sJ, mm_sR, mm_cI, mm_cJ, mm_I, mm_J, mm_R, mm_K, mm_N, psh_s, psh_n, z_n, z_i, z_r, z_l, Nat.reduceAdd, Nat.reduceLeDiff, K2 hS, R2_0 hS, R2_1 hS, R2_2 hS, R2_6 hS, R2_8 hS, R2_11 hS, R2_12 hS, R2_13 hS, R2_15 hS, R2_16 hS, K3 hS, K11 hS, K19 hS, K27 hS, K32 hS, K37 hS, K98 hS, K99 hS, K100 hS, N37 hS, N98 hS, N99 hS, N100 hS, R11_0 hS, R11_1 hS, R11_2 hS, R11_3 hS, R11_4 hS, R11_5 hS, R11_6 hS, K12 hS, K13 hS, K14 hS, K15 hS, K16 hS, K17 hS, K18 hS, N12 hS, N13 hS, N14 hS, N15 hS, N16 hS, N17 hS, N18 hS, false_or, or_false, ne_eq, true_or, or_true, not_false_eq_true, Nat.reduceEqDiff, Nat.reduceLT, Nat.reduceLeDiff, Nat.reduceAdd, p1, if_false, hf', hg', ix_n (show f < 2 ^ 31 by omega), ix_n (show g < 2 ^ 31 by omega), t_v5 T hf, t_v5 T hg, e4]
    by_cases e : bt 5 f = bt 5 g
    · simp only [e, if_true]
      refine t_passOf T hf ?_
      intro h1 T1
      simp only [k111_0, k111_1, k111_4, k111_5, k111_8, k111_11, k111_12, k111_14, k111_16, k111_19, k111_20, k111_23, k111_26, k111_27, k111_28, k111_29, k111_32, k111_35, k111_36, k111_37, k111_40, k111_41, k111_42, k111_43, k111_46, k111_47, k111_48, k111_51, k111_54, k111_54i, k111_55, k111_56, k111_59, k111_60, k111_61, k111_64, k111_67, k111_67i, k111_68, k111_69, k111_72, k111_75, k111_78, k111_81, k111_82, k111_85, k111_88, k111_89, k111_90, k111_91, k111_94, k111_97, k111_98, k111_99, k111_102, k111_103, k111_106, k111_107, mm_sI, mm_sJ, mm_sR, mm_cI, mm_cJ, mm_I, mm_J, mm_R, mm_K, mm_N, psh_s, psh_n, z_n, z_i, z_r, z_l, Nat.reduceAdd, Nat.reduceLeDiff, K2 hS, R2_0 hS, R2_1 hS, R2_2 hS, R2_6 hS, R2_8 hS, R2_11 hS, R2_12 hS, R2_13 hS, R2_15 hS, R2_16 hS, K3 hS, K11 hS, K19 hS, K27 hS, K32 hS, K37 hS, K98 hS, K99 hS, K100 hS, N37 hS, N98 hS, N99 hS, N100 hS, false_or, or_false, ne_eq, true_or, or_true, not_false_eq_true, Nat.reduceEqDiff, Nat.reduceLT, Nat.reduceLeDiff, Nat.reduceAdd, e4]
      refine t_passOf T1 hg ?_
      intro h2 T2
      simp only [k111_0, k111_1, k111_4, k111_5, k111_8, k111_11, k111_12, k111_14, k111_16, k111_19, k111_20, k111_23, k111_26, k111_27, k111_28, k111_29, k111_32, k111_35, k111_36, k111_37, k111_40, k111_41, k111_42, k111_43, k111_46, k111_47, k111_48, k111_51, k111_54, k111_54i, k111_55, k111_56, k111_59, k111_60, k111_61, k111_64, k111_67, k111_67i, k111_68, k111_69, k111_72, k111_75, k111_78, k111_81, k111_82, k111_85, k111_88, k111_89, k111_90, k111_91, k111_94, k111_97, k111_98, k111_99, k111_102, k111_103, k111_106, k111_107, mm_sI, mm_sJ, mm_sR, mm_cI, mm_cJ, mm_I, mm_J, mm_R, mm_K, mm_N, psh_s, psh_n, z_n, z_i, z_r, z_l, Nat.reduceAdd, Nat.reduceLeDiff, K2 hS, R2_0 hS, R2_1 hS, R2_2 hS, R2_6 hS, R2_8 hS, R2_11 hS, R2_12 hS, R2_13 hS, R2_15 hS, R2_16 hS, K3 hS, K11 hS, K19 hS, K27 hS, K32 hS, K37 hS, K98 hS, K99 hS, K100 hS, N37 hS, N98 hS, N99 hS, N100 hS, false_or, or_false, ne_eq, true_or, or_true, not_false_eq_true, Nat.reduceEqDiff, Nat.reduceLT, Nat.reduceLeDiff, Nat.reduceAdd]
      refine WP.deep (d := d) ?_ (by omega)
      refine t_end T2 ?_
      intro h3 T3
      simp only [k111_0, k111_1, k111_4, k111_5, k111_8, k111_11, k111_12, k111_14, k111_16, k111_19, k111_20, k111_23, k111_26, k111_27, k111_28, k111_29, k111_32, k111_35, k111_36, k111_37, k111_40, k111_41, k111_42, k111_43, k111_46, k111_47, k111_48, k111_51, k111_54, k111_54i, k111_55, k111_56, k111_59, k111_60, k111_61, k111_64, k111_67, k111_67i, k111_68, k111_69, k111_72, k111_75, k111_78, k111_81, k111_82, k111_85, k111_88, k111_89, k111_90, k111_91, k111_94, k111_97, k111_98, k111_99, k111_102, k111_103, k111_106, k111_107, mm_sI, mm_sJ, mm_sR, mm_cI, mm_cJ, mm_I, mm_J, mm_R, mm_K, mm_N, psh_s, psh_n, z_n, z_i, z_r, z_l, Nat.reduceAdd, Nat.reduceLeDiff, false_or, or_false, ne_eq, true_or, or_true, not_false_eq_true, Nat.reduceEqDiff, Nat.reduceLT, Nat.reduceLeDiff, Nat.reduceAdd, nS1]
      refine WP.deep (d := d + 5) ?_ (by omega)
      have ag := ag_two (W := W) hf hg hn a c
      exact ih (by omega) ag.1 ag.2 T3 (fun hh => q1 ⟨e, hh⟩) (fun hh => q2 (fun h' => hh h'.2))
    · simp only [e, if_false]; exact q2 (fun hh => e hh.1) h T.s
theorem c_holdAsMuch {f g : Nat} (hf : f < F) (hg : g < F) (hn : f ≠ g) (C : CC G F l W b h0 r E) (s : Scr h0 h) (hQ : ∀ h', Scr h0 h' → Q (some (vi (if same W F f g b then 1 else 0))) (mm h' j r E)) :
    WP (d + 5) 111 0 [some (vr 2), some (vi (nI f)), some (vi (nI g)), none] [] (mm h j r E) Q := by
  have hS := C.S
  simp only [k111_0, k111_1, k111_4, k111_5, k111_8, k111_11, k111_12, k111_14, k111_16, k111_19, k111_20, k111_23, k111_26, k111_27, k111_28, k111_29, k111_32, k111_35, k111_36, k111_37, k111_40, k111_41, k111_42, k111_43, k111_46, k111_47, k111_48, k111_51, k111_54, k111_54i, k111_55, k111_56, k111_59, k111_60, k111_61, k111_64, k111_67, k111_67i, k111_68, k111_69, k111_72, k111_75, k111_78, k111_81, k111_82, k111_85, k111_88, k111_89, k111_90, k111_91, k111_94, k111_97, k111_98, k111_99, k111_102, k111_103, k111_106, k111_107, mm_sI, mm_sJ, mm_sR, mm_cI, mm_cJ, mm_I, mm_J, mm_R, mm_K, mm_N, psh_s, psh_n, z_n, z_i, z_r, z_l, Nat.reduceAdd, Nat.reduceLeDiff, K2 hS, R2_0 hS, R2_1 hS, R2_2 hS, R2_6 hS, R2_8 hS, R2_11 hS, R2_12 hS, R2_13 hS, R2_15 hS, R2_16 hS, K3 hS, K11 hS, K19 hS, K27 hS, K32 hS, K37 hS, K98 hS, K99 hS, K100 hS, N37 hS, N98 hS, N99 hS, N100 hS, false_or, or_false, ne_eq, true_or, or_true, not_false_eq_true, Nat.reduceEqDiff, Nat.reduceLT, Nat.reduceLeDiff, Nat.reduceAdd]
  refine WP.deep (d := d + 4) ?_ (by omega)
  refine t_copy C s ?_
  intro h1 T
  simp only [k111_0, k111_1, k111_4, k111_5, k111_8, k111_11, k111_12, k111_14, k111_16, k111_19, k111_20, k111_23, k111_26, k111_27, k111_28, k111_29, k111_32, k111_35, k111_36, k111_37, k111_40, k111_41, k111_42, k111_43, k111_46, k111_47, k111_48, k111_51, k111_54, k111_54i, k111_55, k111_56, k111_59, k111_60, k111_61, k111_64, k111_67, k111_67i, k111_68, k111_69, k111_72, k111_75, k111_78, k111_81, k111_82, k111_85, k111_88, k111_89, k111_90, k111_91, k111_94, k111_97, k111_98, k111_99, k111_102, k111_103, k111_106, k111_107, mm_sI, mm_sJ, mm_sR, mm_cI, mm_cJ, mm_I, mm_J, mm_R, mm_K, mm_N, psh_s, psh_n, z_n, z_i, z_r, z_l, Nat.reduceAdd, Nat.reduceLeDiff, false_or, or_false, ne_eq, true_or, or_true, not_false_eq_true, Nat.reduceEqDiff, Nat.reduceLT, Nat.reduceLeDiff, Nat.reduceAdd]
  refine c_hmL hf hg hn (i := 0) (k := 12) (by omega) Ag.rf Ag.rf T ?_ ?_
  · intro hs h' s'; rw [if_pos (same_L.2 hs)] at hQ; exact hQ h' s'
  · intro hs h' s'; rw [if_neg (fun hh => hs (same_L.1 hh))] at hQ; exact hQ h' s'
theorem c_al2 {f : Nat} (hf : f < F) (C : CC G F l W b h0 r E) : ∀ {k g a : Nat} {h : Hp}, g + k = F → f < g → a + k < 2 ^ 31 → Scr h0 h → (∀ h', Scr h0 h' → WP (d + 6) 110 53 [some (vr 2), some (vi (nI (a + row1 (fun x => same W F f x b) g k))), some (vi (nI f)), some (vi (nI F))] [] (mm h' j r E) Q) →
    WP (d + 6) 110 19 [some (vr 2), some (vi (nI a)), some (vi (nI f)), some (vi (nI g))] [] (mm h j r E) Q := by
  have hS := C.S
  have hF8 := C.F8
  intro k
  induction k with
  | zero =>
    intro g a h hk hfg ha s hQ
    have : g = F := by omega
    subst this
    rw [k110_19]
    simp only [k110_0, k110_1, k110_2, k110_3, k110_5, k110_6, k110_9, k110_12, k110_15, k110_16, k110_17, k110_18, k110_20, k110_21, k110_24, k110_27, k110_30, k110_31, k110_32, k110_33, k110_34, k110_37, k110_40, k110_41, k110_44, k110_45, k110_46, k110_47, k110_50, k110_56, k110_59, k110_60, mm_sI, mm_sJ, mm_sR, mm_cI, mm_cJ, mm_I, mm_J, mm_R, mm_K, mm_N, psh_s, psh_n, z_n, z_i, z_r, z_l, Nat.reduceAdd, Nat.reduceLeDiff, K2 hS, R2_0 hS, R2_1 hS, R2_2 hS, R2_6 hS, R2_8 hS, R2_11 hS, R2_12 hS, R2_13 hS, R2_15 hS, R2_16 hS, K3 hS, K11 hS, K19 hS, K27 hS, K32 hS, K37 hS, K98 hS, K99 hS, K100 hS, N37 hS, N98 hS, N99 hS, N100 hS, false_or, or_false, ne_eq, true_or, or_true, not_false_eq_true, Nat.reduceEqDiff, Nat.reduceLT, Nat.reduceLeDiff, Nat.reduceAdd, (C.fr s).eF, Int32.le_refl, if_true]
    exact hQ h s
  | succ k ih =>
    intro g a h hk hfg ha s hQ
    rw [k110_19]
    simp only [k110_0, k110_1, k110_2, k110_3, k110_5, k110_6, k110_9, k110_12, k110_15, k110_16, k110_17, k110_18, k110_20, k110_21, k110_24, k110_27, k110_30, k110_31, k110_32, k110_33, k110_34, k110_37, k110_40, k110_41, k110_44, k110_45, k110_46, k110_47, k110_50, k110_56, k110_59, k110_60, mm_sI, mm_sJ, mm_sR, mm_cI, mm_cJ, mm_I, mm_J, mm_R, mm_K, mm_N, psh_s, psh_n, z_n, z_i, z_r, z_l, Nat.reduceAdd, Nat.reduceLeDiff, K2 hS, R2_0 hS, R2_1 hS, R2_2 hS, R2_6 hS, R2_8 hS, R2_11 hS, R2_12 hS, R2_13 hS, R2_15 hS, R2_16 hS, K3 hS, K11 hS, K19 hS, K27 hS, K32 hS, K37 hS, K98 hS, K99 hS, K100 hS, N37 hS, N98 hS, N99 hS, N100 hS, false_or, or_false, ne_eq, true_or, or_true, not_false_eq_true, Nat.reduceEqDiff, Nat.reduceLT, Nat.reduceLeDiff, Nat.reduceAdd, (C.fr s).eF, nLe (show F < 2 ^ 31 by omega) (show g < 2 ^ 31 by omega), show ¬ F ≤ g by omega, if_false]
    refine c_holdAsMuch hf (show g < F by omega) (by omega) C s ?_
    intro h1 s1
    rw [row1] at hQ
    by_cases c : same W F f g b = true
    · rw [if_pos c] at hQ ⊢
      simp only [k110_0, k110_1, k110_2, k110_3, k110_5, k110_6, k110_9, k110_12, k110_15, k110_16, k110_17, k110_18, k110_20, k110_21, k110_24, k110_27, k110_30, k110_31, k110_32, k110_33, k110_34, k110_37, k110_40, k110_41, k110_44, k110_45, k110_46, k110_47, k110_50, k110_56, k110_59, k110_60, mm_sI, mm_sJ, mm_sR, mm_cI, mm_cJ, mm_I, mm_J, mm_R, mm_K, mm_N, psh_s, psh_n, z_n, z_i, z_r, z_l, Nat.reduceAdd, Nat.reduceLeDiff, false_or, or_false, ne_eq, true_or, or_true, not_false_eq_true, Nat.reduceEqDiff, Nat.reduceLT, Nat.reduceLeDiff, Nat.reduceAdd, e10, if_false, nS1]
      refine ih (by omega) (by omega) (by omega) s1 ?_
      intro h' s'; have := hQ h' s'; rw [← Nat.add_assoc] at this; exact this
    · rw [if_neg c] at hQ ⊢
      simp only [k110_0, k110_1, k110_2, k110_3, k110_5, k110_6, k110_9, k110_12, k110_15, k110_16, k110_17, k110_18, k110_20, k110_21, k110_24, k110_27, k110_30, k110_31, k110_32, k110_33, k110_34, k110_37, k110_40, k110_41, k110_44, k110_45, k110_46, k110_47, k110_50, k110_56, k110_59, k110_60, mm_sI, mm_sJ, mm_sR, mm_cI, mm_cJ, mm_I, mm_J, mm_R, mm_K, mm_N, psh_s, psh_n, z_n, z_i, z_r, z_l, Nat.reduceAdd, Nat.reduceLeDiff, false_or, or_false, ne_eq, true_or, or_true, not_false_eq_true, Nat.reduceEqDiff, Nat.reduceLT, Nat.reduceLeDiff, Nat.reduceAdd, if_true, Int32.add_zero, nS1]
      refine ih (by omega) (by omega) (by omega) s1 ?_
      intro h' s'; have := hQ h' s'; rw [Nat.zero_add] at this; exact this
theorem c_al1 (C : CC G F l W b h0 r E) : ∀ {k f a : Nat} {h : Hp} {e : Option PV}, f + k = F → a + 64 * k < 2 ^ 31 → Scr h0 h → (∀ h', Scr h0 h' → Q (some (vi (nI (a + prC (fun f g => same W F f g b) F f k)))) (mm h' j r E)) →
    WP (d + 6) 110 4 [some (vr 2), some (vi (nI a)), some (vi (nI f)), e] [] (mm h j r E) Q := by
  have hS := C.S
  have hF8 := C.F8
  intro k
  induction k with
  | zero =>
    intro f a h e hk ha s hQ
    have : f = F := by omega
    subst this
    rw [k110_4]
    simp only [k110_0, k110_1, k110_2, k110_3, k110_5, k110_6, k110_9, k110_12, k110_15, k110_16, k110_17, k110_18, k110_20, k110_21, k110_24, k110_27, k110_30, k110_31, k110_32, k110_33, k110_34, k110_37, k110_40, k110_41, k110_44, k110_45, k110_46, k110_47, k110_50, k110_53, k110_56, k110_59, k110_60, mm_sI, mm_sJ, mm_sR, mm_cI, mm_cJ, mm_I, mm_J, mm_R, mm_K, mm_N, psh_s, psh_n, z_n, z_i, z_r, z_l, Nat.reduceAdd, Nat.reduceLeDiff, K2 hS, R2_0 hS, R2_1 hS, R2_2 hS, R2_6 hS, R2_8 hS, R2_11 hS, R2_12 hS, R2_13 hS, R2_15 hS, R2_16 hS, K3 hS, K11 hS, K19 hS, K27 hS, K32 hS, K37 hS, K98 hS, K99 hS, K100 hS, N37 hS, N98 hS, N99 hS, N100 hS, false_or, or_false, ne_eq, true_or, or_true, not_false_eq_true, Nat.reduceEqDiff, Nat.reduceLT, Nat.reduceLeDiff, Nat.reduceAdd, (C.fr s).eF, Int32.le_refl, if_true]
    exact hQ h s
  | succ k ih =>
    intro f a h e hk ha s hQ
    rw [k110_4]
    simp only [k110_0, k110_1, k110_2, k110_3, k110_5, k110_6, k110_9, k110_12, k110_15, k110_16, k110_17, k110_18, k110_20, k110_21, k110_24, k110_27, k110_30, k110_31, k110_32, k110_33, k110_34, k110_37, k110_40, k110_41, k110_44, k110_45, k110_46, k110_47, k110_50, k110_53, k110_56, k110_59, k110_60, mm_sI, mm_sJ, mm_sR, mm_cI, mm_cJ, mm_I, mm_J, mm_R, mm_K, mm_N, psh_s, psh_n, z_n, z_i, z_r, z_l, Nat.reduceAdd, Nat.reduceLeDiff, K2 hS, R2_0 hS, R2_1 hS, R2_2 hS, R2_6 hS, R2_8 hS, R2_11 hS, R2_12 hS, R2_13 hS, R2_15 hS, R2_16 hS, K3 hS, K11 hS, K19 hS, K27 hS, K32 hS, K37 hS, K98 hS, K99 hS, K100 hS, N37 hS, N98 hS, N99 hS, N100 hS, false_or, or_false, ne_eq, true_or, or_true, not_false_eq_true, Nat.reduceEqDiff, Nat.reduceLT, Nat.reduceLeDiff, Nat.reduceAdd, (C.fr s).eF, nLe (show F < 2 ^ 31 by omega) (show f < 2 ^ 31 by omega), show ¬ F ≤ f by omega, if_false, nS1]
    refine c_al2 (show f < F by omega) C (k := k) (g := f + 1) (by omega) (by omega) (by omega) s ?_
    intro h1 s1
    simp only [k110_0, k110_1, k110_2, k110_3, k110_5, k110_6, k110_9, k110_12, k110_15, k110_16, k110_17, k110_18, k110_20, k110_21, k110_24, k110_27, k110_30, k110_31, k110_32, k110_33, k110_34, k110_37, k110_40, k110_41, k110_44, k110_45, k110_46, k110_47, k110_50, k110_53, k110_56, k110_59, k110_60, mm_sI, mm_sJ, mm_sR, mm_cI, mm_cJ, mm_I, mm_J, mm_R, mm_K, mm_N, psh_s, psh_n, z_n, z_i, z_r, z_l, Nat.reduceAdd, Nat.reduceLeDiff, false_or, or_false, ne_eq, true_or, or_true, not_false_eq_true, Nat.reduceEqDiff, Nat.reduceLT, Nat.reduceLeDiff, Nat.reduceAdd, nS1]
    have := @row1_le (fun x => same W F f x b) k (f + 1)
    refine ih (by omega) (by omega) s1 ?_
    intro h' s'; have := hQ h' s'; rw [prC, ← Nat.add_assoc] at this; exact this
theorem c_alike (C : CC G F l W b h r E) (hQ : ∀ h', Scr h h' → Q (some (vi (alikeA F W b))) (mm h' j r E)) : WP (d + 6) 110 0 [some (vr 2), none, none, none] [] (mm h j r E) Q := by
  have hF8 := C.F8
  simp only [k110_0, k110_1, k110_2, k110_3, k110_5, k110_6, k110_9, k110_12, k110_15, k110_16, k110_17, k110_18, k110_20, k110_21, k110_24, k110_27, k110_30, k110_31, k110_32, k110_33, k110_34, k110_37, k110_40, k110_41, k110_44, k110_45, k110_46, k110_47, k110_50, k110_53, k110_56, k110_59, k110_60, mm_sI, mm_sJ, mm_sR, mm_cI, mm_cJ, mm_I, mm_J, mm_R, mm_K, mm_N, psh_s, psh_n, z_n, z_i, z_r, z_l, Nat.reduceAdd, Nat.reduceLeDiff, false_or, or_false, ne_eq, true_or, or_true, not_false_eq_true, Nat.reduceEqDiff, Nat.reduceLT, Nat.reduceLeDiff, Nat.reduceAdd]
  refine c_al1 C (k := F) (f := 0) (a := 0) (by omega) (by omega) Scr.rf ?_
  intro h' s'
  have := hQ h' s'
  unfold alikeA at this
  rw [Nat.zero_add, pr_eq (fun a c => same_sy)]; exact this
end AL
