/-! ===== the class's answers about hours in thought ===== -/
def itOne (W : LW) (f : Nat) : Nat → BB → BB
  | 0, b => b
  | n + 1, b => itOne W f n (oneB W f b)
def gbA (W : LW) (f : Nat) : Nat → BB → Int32
  | 0, _ => -2
  | n + 1, b => if gvB W f b < 0 then gbA W f n (oneB W f b) else gvB W f b
def htA (W : LW) (f : Nat) : Nat → Nat → BB → Int32
  | _, 0, _ => -2
  | n, k + 1, b => if gvB W f b < 0 then htA W f (n + 1) k (oneB W f b) else nI n
def lendB (b : BB) (f : Nat) (g x : Int32) : BB := up2 (up2 b 4 f g) 5 f x
abbrev pairP (G F : Nat) (gf : Int32) : Prop := 0 ≤ gf ∧ inb (gf / 10) G ∧ inb (gf % 10) F
def laterA (G F : Nat) (W : LW) (b : BB) (n number what : Int32) : Int32 :=
  if inb n 41 ∧ inb what 4 ∧ inb number (if what = 3 then G else F) then
    (if what = 0 then itB W F (ix n) b 5 (ix number) else if what = 1 then itB W F (ix n) b 2 (ix number) else if what = 2 then itB W F (ix n) b 4 (ix number) else itB W F (ix n) b 1 (ix number)) else -2000000000
def marshA (F : Nat) (W : LW) (b : BB) (n what : Int32) : Int32 :=
  if inb n 41 ∧ inb what 2 then (if what = 0 then owB F (itB W F (ix n) b) else hdB F (itB W F (ix n) b)) else -1
def bwL (F : Nat) (W : LW) (wanted : Int32) : Nat → Nat → BB → Int32
  | _, 0, _ => -2
  | n, k + 1, b => if owB F b &&& wanted = 0 then nI n else bwL F W wanted (n + 1) k (hrB W F b)
def backWhenA (F : Nat) (W : LW) (b : BB) (frog : Int32) : Int32 :=
  if frog = -1 ∨ inb frog F then bwL F W (if frog = -1 then 255 else (1 : Int32) <<< (frog &&& 31)) 0 41 b else -1
def loanA (G F : Nat) (W : LW) (b : BB) (gf x what : Int32) : Int32 :=
  if pairP G F gf ∧ (1 ≤ x ∧ x ≤ 99) ∧ inb what 2 then (if what = 0 then gbA W (ix (gf % 10)) 24 (lendB b (ix (gf % 10)) (gf / 10) x) else htA W (ix (gf % 10)) 1 24 (lendB b (ix (gf % 10)) (gf / 10) x)) else -1
def bsL (W : LW) (b : BB) (g x : Int32) : Nat → Nat → Int32 × Int32 → Int32 × Int32
  | _, 0, p => p
  | f, k + 1, p => bsL W b g x (f + 1) k (if p.2 < gbA W f 24 (lendB b f g x) then (nI f, gbA W f 24 (lendB b f g x)) else p)
def bestA (G F : Nat) (W : LW) (b : BB) (g x what : Int32) : Int32 :=
  if inb g G ∧ (1 ≤ x ∧ x ≤ 99) ∧ inb what 2 then (if what = 0 then (bsL W b g x 0 F (-2, -2)).1 else (bsL W b g x 0 F (-2, -2)).2) else -1
def lsL (W : LW) (b : BB) (g : Int32) (f n : Nat) (v : Int32) : Nat → Nat → Int32
  | _, 0 => -2
  | x, k + 1 => if v ≤ itOne W f n (lendB b f g (nI x)) 5 f / 10 then nI x else lsL W b g f n v (x + 1) k
def leastA (G F : Nat) (W : LW) (b : BB) (gf nv : Int32) : Int32 :=
  if pairP G F gf ∧ inb nv 210 then lsL W b (gf / 10) (ix (gf % 10)) (ix (nv / 10)) (nv % 10) 1 99 else -1
theorem in_lit {x : Int32} {hi : Int32} {n : Nat} (hy : hi = nI n) (hn : n < 2 ^ 31 - 1) : b2i (0 ≤ x ∧ x ≤ hi) = b2i (inb x (n + 1)) := b2i_c (inb_l hy hn)
section KA
variable {d : Nat} {M : Mem} {h h0 h1 : Hp} {j : Jp} {r : Rp} {E : EE} {Q : Option PV → Mem → Prop} {l G F : Nat} {W : LW} {b bt : BB}
theorem c_thinkL (e : r 2 1 = 11) : ∀ {k i N : Nat} {bt : BB} {h : Hp}, N ≤ 40 → i + k = N → TT G F l W b bt h0 h r E → (∀ h', TT G F l W b (itB W F k bt) h0 h' r E → Q none (mm h' j r E)) →
    WP (d + 6) 82 13 [some (vr 2), some (vi (nI N)), some (vi (nI i))] [] (mm h j r E) Q := by
  intro k
  induction k with
  | zero =>
    intro i N bt h hN hk T hQ
    have : i = N := by omega
    subst this
    rw [k82_13]
    simp only [k82_0, k82_1, k82_4, k82_5, k82_8, k82_11, k82_12, k82_14, k82_15, k82_18, k82_19, k82_22, k82_23, k82_26, k82_29, k82_29i, k82_30, k82_33, k82_36, mm_sI, mm_sJ, mm_sR, mm_cI, mm_cJ, mm_I, mm_J, mm_R, mm_K, mm_N, psh_s, psh_n, z_n, z_i, z_r, z_l, Nat.reduceAdd, Nat.reduceLeDiff, ne_eq, true_or, or_true, not_false_eq_true, Nat.reduceEqDiff, Nat.reduceLT, Nat.reduceLeDiff, Nat.reduceAdd, Int32.le_refl, if_true]
    exact hQ h T
  | succ k ih =>
    intro i N bt h hN hk T hQ
    have hS := T.C.S
    have e4 := T.C.rl
    rw [k82_13]
    simp only [k82_0, k82_1, k82_4, k82_5, k82_8, k82_11, k82_12, k82_14, k82_15, k82_18, k82_19, k82_22, k82_23, k82_26, k82_29, k82_29i, k82_30, k82_33, k82_36, mm_sI, mm_sJ, mm_sR, mm_cI, mm_cJ, mm_I, mm_J, mm_R, mm_K, mm_N, psh_s, psh_n, z_n, z_i, z_r, z_l, Nat.reduceAdd, Nat.reduceLeDiff, K2 hS, R2_0 hS, R2_1 hS, R2_2 hS, R2_6 hS, R2_8 hS, R2_11 hS, R2_12 hS, R2_13 hS, R2_15 hS, R2_16 hS, K3 hS, K11 hS, K19 hS, K27 hS, K32 hS, K37 hS, K98 hS, K99 hS, K100 hS, N37 hS, N98 hS, N99 hS, N100 hS, ne_eq, true_or, or_true, not_false_eq_true, Nat.reduceEqDiff, Nat.reduceLT, Nat.reduceLeDiff, Nat.reduceAdd, nLe (show N < 2 ^ 31 by omega) (show i < 2 ^ 31 by omega), show ¬ N ≤ i by omega, if_false, e4, mk0 T.C.H11]
    refine t_pass T ?_
    intro h' T'
    simp only [k82_0, k82_1, k82_4, k82_5, k82_8, k82_11, k82_12, k82_14, k82_15, k82_18, k82_19, k82_22, k82_23, k82_26, k82_29, k82_29i, k82_30, k82_33, k82_36, mm_sI, mm_sJ, mm_sR, mm_cI, mm_cJ, mm_I, mm_J, mm_R, mm_K, mm_N, psh_s, psh_n, z_n, z_i, z_r, z_l, Nat.reduceAdd, Nat.reduceLeDiff, nS1]
    exact ih hN (by omega) T' hQ
theorem c_thinkOn {N : Nat} (C : CC G F l W b h0 r E) (s : Scr h0 h) (hN : N ≤ 40) (hQ : ∀ h', TT G F l W b (itB W F N b) h0 h' r E → Q none (mm h' j r E)) :
    WP (d + 6) 82 0 [some (vr 2), some (vi (nI N)), none] [] (mm h j r E) Q := by
  have hS := C.S
  simp only [k82_0, k82_1, k82_4, k82_5, k82_8, k82_11, k82_12, k82_14, k82_15, k82_18, k82_19, k82_22, k82_23, k82_26, k82_29, k82_29i, k82_30, k82_33, k82_36, mm_sI, mm_sJ, mm_sR, mm_cI, mm_cJ, mm_I, mm_J, mm_R, mm_K, mm_N, psh_s, psh_n, z_n, z_i, z_r, z_l, Nat.reduceAdd, Nat.reduceLeDiff, K2 hS, R2_0 hS, R2_1 hS, R2_2 hS, R2_6 hS, R2_8 hS, R2_11 hS, R2_12 hS, R2_13 hS, R2_15 hS, R2_16 hS, K3 hS, K11 hS, K19 hS, K27 hS, K32 hS, K37 hS, K98 hS, K99 hS, K100 hS, N37 hS, N98 hS, N99 hS, N100 hS, ne_eq, true_or, or_true, not_false_eq_true, Nat.reduceEqDiff, Nat.reduceLT, Nat.reduceLeDiff, Nat.reduceAdd, mk0 C.H11]
  refine t_copy C s ?_
  intro h' T
  simp only [k82_0, k82_1, k82_4, k82_5, k82_8, k82_11, k82_12, k82_14, k82_15, k82_18, k82_19, k82_22, k82_23, k82_26, k82_29, k82_29i, k82_30, k82_33, k82_36, mm_sI, mm_sJ, mm_sR, mm_cI, mm_cJ, mm_I, mm_J, mm_R, mm_K, mm_N, psh_s, psh_n, z_n, z_i, z_r, z_l, Nat.reduceAdd, Nat.reduceLeDiff, ne_eq, true_or, or_true, not_false_eq_true, Nat.reduceEqDiff, Nat.reduceLT, Nat.reduceLeDiff, Nat.reduceAdd]
  exact c_thinkL (R2_1 hS) hN (i := 0) (by omega) T hQ
theorem c_later {n number what : Int32} (C : CC G F l W b h r E) (hQ : ∀ h', Scr h h' → Q (some (vi (laterA G F W b n number what))) (mm h' j r E)) :
    WP (d + 7) 81 0 [some (vr 2), some (vi n), some (vi number), some (vi what), none] [] (mm h j r E) Q := by
  have hS := C.S
  have hG8 := C.G8
  have hF8 := C.F8
  have h41 : b2i (0 ≤ n ∧ n ≤ 40) = b2i (inb n 41) := in_lit rfl (by decide)
  have h4 : b2i (0 ≤ what ∧ what ≤ 3) = b2i (inb what 4) := in_lit rfl (by decide)
  have hr := hQ h Scr.rf
  unfold laterA at hQ hr
  have pre : WP (d + 7) 81 26 [some (vr 2), some (vi n), some (vi number), some (vi what), some (vi (b2i (inb number (if what = 3 then G else F))))] [] (mm h j r E) Q := by
    simp only [k81_0, k81_1, k81_2, k81_5, k81_6, k81_9, k81_10, k81_13, k81_16, k81_17, k81_20, k81_21, k81_24, k81_26, k81_27, k81_28, k81_30, k81_33, k81_36, k81_37, k81_38, k81_39, k81_42, k81_45, k81_47, k81_50, k81_52, k81_53, k81_54, k81_55, k81_58, k81_59c0, k81_59c1, k81_59c2, k81_59, k81_84, k81_85, k81_88, k81_91, k81_92, k81_93, k81_94, k81_95, k81_98, k81_101, k81_102, k81_103, k81_104, k81_105, k81_108, k81_111, k81_112, k81_113, k81_114, k81_115, k81_118, k81_121, k81_122, k81_123, mm_sI, mm_sJ, mm_sR, mm_cI, mm_cJ, mm_I, mm_J, mm_R, mm_K, mm_N, psh_s, psh_n, z_n, z_i, z_r, z_l, Nat.reduceAdd, Nat.reduceLeDiff, K2 hS, R2_0 hS, R2_1 hS, R2_2 hS, R2_6 hS, R2_8 hS, R2_11 hS, R2_12 hS, R2_13 hS, R2_15 hS, R2_16 hS, K3 hS, K11 hS, K19 hS, K27 hS, K32 hS, K37 hS, K98 hS, K99 hS, K100 hS, N37 hS, N98 hS, N99 hS, N100 hS, ne_eq, true_or, or_true, not_false_eq_true, Nat.reduceEqDiff, Nat.reduceLT, Nat.reduceLeDiff, Nat.reduceAdd, s_within, h41, h4, b2i_0]
    by_cases c1 : inb n 41
    case neg => simp only [eq_false c1, not_false_eq_true, if_true, false_and, if_false] at hr ⊢; exact hr
    by_cases c2 : inb what 4
    case neg => simp only [eq_false c2, not_false_eq_true, if_true, false_and, and_false, if_false, eq_true c1, not_true_eq_false] at hr ⊢; exact hr
    by_cases c3 : inb number (if what = 3 then G else F)
    case neg => simp only [eq_false c3, not_false_eq_true, if_true, false_and, and_false, if_false, eq_true c1, eq_true c2, not_true_eq_false] at hr ⊢; exact hr
    simp only [eq_true c1, eq_true c2, eq_true c3, and_true, not_true_eq_false, if_false, if_true] at hQ ⊢
    obtain ⟨N, hN, rfl, _⟩ := inb_of c1
    obtain ⟨u, hu, rfl, hu2⟩ := inb_of c3
    rw [ix_n (by omega), ix_n hu2] at hQ
    refine c_thinkOn C Scr.rf (by omega) ?_
    intro h' T
    have h8 : inb (nI u) 8 = True := eq_true (by rw [inb_n hu2]; split at hu <;> omega)
    have ex : ix (nI u) = u := ix_n hu2
    obtain ⟨w, hw, rfl, _⟩ := inb_of c2
    have hQ := hQ h' T.s
    match w, hw with
    | 0, _ =>
      simp only [nn0, show ((0 : Int32) = 3) = False by simp, if_false, if_true] at hu hQ
      simp only [k81_0, k81_1, k81_2, k81_5, k81_6, k81_9, k81_10, k81_13, k81_16, k81_17, k81_20, k81_21, k81_24, k81_26, k81_27, k81_28, k81_30, k81_33, k81_36, k81_37, k81_38, k81_39, k81_42, k81_45, k81_47, k81_50, k81_52, k81_53, k81_54, k81_55, k81_58, k81_59c0, k81_59c1, k81_59c2, k81_59, k81_84, k81_85, k81_88, k81_91, k81_92, k81_93, k81_94, k81_95, k81_98, k81_101, k81_102, k81_103, k81_104, k81_105, k81_108, k81_111, k81_112, k81_113, k81_114, k81_115, k81_118, k81_121, k81_122, k81_123, mm_sI, mm_sJ, mm_sR, mm_cI, mm_cJ, mm_I, mm_J, mm_R, mm_K, mm_N, psh_s, psh_n, z_n, z_i, z_r, z_l, Nat.reduceAdd, Nat.reduceLeDiff, K2 hS, R2_0 hS, R2_1 hS, R2_2 hS, R2_6 hS, R2_8 hS, R2_11 hS, R2_12 hS, R2_13 hS, R2_15 hS, R2_16 hS, K3 hS, K11 hS, K19 hS, K27 hS, K32 hS, K37 hS, K98 hS, K99 hS, K100 hS, N37 hS, N98 hS, N99 hS, N100 hS, ne_eq, true_or, or_true, not_false_eq_true, Nat.reduceEqDiff, Nat.reduceLT, Nat.reduceLeDiff, Nat.reduceAdd, nn0, R11_0 hS, R11_1 hS, R11_2 hS, R11_3 hS, R11_4 hS, R11_5 hS, R11_6 hS, K12 hS, K13 hS, K14 hS, K15 hS, K16 hS, K17 hS, K18 hS, N12 hS, N13 hS, N14 hS, N15 hS, N16 hS, N17 hS, N18 hS, h8, ex, t_v5 T hu]
      exact hQ
    | 1, _ =>
      simp only [nn1, show ((1 : Int32) = 3) = False by simp, show ((1 : Int32) = 0) = False by simp, if_false, if_true] at hu hQ
      simp only [k81_0, k81_1, k81_2, k81_5, k81_6, k81_9, k81_10, k81_13, k81_16, k81_17, k81_20, k81_21, k81_24, k81_26, k81_27, k81_28, k81_30, k81_33, k81_36, k81_37, k81_38, k81_39, k81_42, k81_45, k81_47, k81_50, k81_52, k81_53, k81_54, k81_55, k81_58, k81_59c0, k81_59c1, k81_59c2, k81_59, k81_84, k81_85, k81_88, k81_91, k81_92, k81_93, k81_94, k81_95, k81_98, k81_101, k81_102, k81_103, k81_104, k81_105, k81_108, k81_111, k81_112, k81_113, k81_114, k81_115, k81_118, k81_121, k81_122, k81_123, mm_sI, mm_sJ, mm_sR, mm_cI, mm_cJ, mm_I, mm_J, mm_R, mm_K, mm_N, psh_s, psh_n, z_n, z_i, z_r, z_l, Nat.reduceAdd, Nat.reduceLeDiff, K2 hS, R2_0 hS, R2_1 hS, R2_2 hS, R2_6 hS, R2_8 hS, R2_11 hS, R2_12 hS, R2_13 hS, R2_15 hS, R2_16 hS, K3 hS, K11 hS, K19 hS, K27 hS, K32 hS, K37 hS, K98 hS, K99 hS, K100 hS, N37 hS, N98 hS, N99 hS, N100 hS, ne_eq, true_or, or_true, not_false_eq_true, Nat.reduceEqDiff, Nat.reduceLT, Nat.reduceLeDiff, Nat.reduceAdd, nn1, R11_0 hS, R11_1 hS, R11_2 hS, R11_3 hS, R11_4 hS, R11_5 hS, R11_6 hS, K12 hS, K13 hS, K14 hS, K15 hS, K16 hS, K17 hS, K18 hS, N12 hS, N13 hS, N14 hS, N15 hS, N16 hS, N17 hS, N18 hS, h8, ex, t_v2 T hu]
      exact hQ
    | 2, _ =>
      simp only [nn2, show ((2 : Int32) = 3) = False by simp, show ((2 : Int32) = 0) = False by simp, show ((2 : Int32) = 1) = False by simp, if_false, if_true] at hu hQ
      simp only [k81_0, k81_1, k81_2, k81_5, k81_6, k81_9, k81_10, k81_13, k81_16, k81_17, k81_20, k81_21, k81_24, k81_26, k81_27, k81_28, k81_30, k81_33, k81_36, k81_37, k81_38, k81_39, k81_42, k81_45, k81_47, k81_50, k81_52, k81_53, k81_54, k81_55, k81_58, k81_59c0, k81_59c1, k81_59c2, k81_59, k81_84, k81_85, k81_88, k81_91, k81_92, k81_93, k81_94, k81_95, k81_98, k81_101, k81_102, k81_103, k81_104, k81_105, k81_108, k81_111, k81_112, k81_113, k81_114, k81_115, k81_118, k81_121, k81_122, k81_123, mm_sI, mm_sJ, mm_sR, mm_cI, mm_cJ, mm_I, mm_J, mm_R, mm_K, mm_N, psh_s, psh_n, z_n, z_i, z_r, z_l, Nat.reduceAdd, Nat.reduceLeDiff, K2 hS, R2_0 hS, R2_1 hS, R2_2 hS, R2_6 hS, R2_8 hS, R2_11 hS, R2_12 hS, R2_13 hS, R2_15 hS, R2_16 hS, K3 hS, K11 hS, K19 hS, K27 hS, K32 hS, K37 hS, K98 hS, K99 hS, K100 hS, N37 hS, N98 hS, N99 hS, N100 hS, ne_eq, true_or, or_true, not_false_eq_true, Nat.reduceEqDiff, Nat.reduceLT, Nat.reduceLeDiff, Nat.reduceAdd, nn2, R11_0 hS, R11_1 hS, R11_2 hS, R11_3 hS, R11_4 hS, R11_5 hS, R11_6 hS, K12 hS, K13 hS, K14 hS, K15 hS, K16 hS, K17 hS, K18 hS, N12 hS, N13 hS, N14 hS, N15 hS, N16 hS, N17 hS, N18 hS, h8, ex, t_v4 T hu]
      exact hQ
    | 3, _ =>
      simp only [nn3, show ((3 : Int32) = 2) = False by simp, show ((3 : Int32) = 0) = False by simp, show ((3 : Int32) = 1) = False by simp, if_false, if_true] at hu hQ
      have k3 : ((3 : Int32).toInt < 0 ∨ 2 < (3 : Int32).toInt) := by decide
      simp only [k81_0, k81_1, k81_2, k81_5, k81_6, k81_9, k81_10, k81_13, k81_16, k81_17, k81_20, k81_21, k81_24, k81_26, k81_27, k81_28, k81_30, k81_33, k81_36, k81_37, k81_38, k81_39, k81_42, k81_45, k81_47, k81_50, k81_52, k81_53, k81_54, k81_55, k81_58, k81_59c0, k81_59c1, k81_59c2, k81_59, k81_84, k81_85, k81_88, k81_91, k81_92, k81_93, k81_94, k81_95, k81_98, k81_101, k81_102, k81_103, k81_104, k81_105, k81_108, k81_111, k81_112, k81_113, k81_114, k81_115, k81_118, k81_121, k81_122, k81_123, mm_sI, mm_sJ, mm_sR, mm_cI, mm_cJ, mm_I, mm_J, mm_R, mm_K, mm_N, psh_s, psh_n, z_n, z_i, z_r, z_l, Nat.reduceAdd, Nat.reduceLeDiff, K2 hS, R2_0 hS, R2_1 hS, R2_2 hS, R2_6 hS, R2_8 hS, R2_11 hS, R2_12 hS, R2_13 hS, R2_15 hS, R2_16 hS, K3 hS, K11 hS, K19 hS, K27 hS, K32 hS, K37 hS, K98 hS, K99 hS, K100 hS, N37 hS, N98 hS, N99 hS, N100 hS, ne_eq, true_or, or_true, not_false_eq_true, Nat.reduceEqDiff, Nat.reduceLT, Nat.reduceLeDiff, Nat.reduceAdd, nn3, k81_59 k3, R11_0 hS, R11_1 hS, R11_2 hS, R11_3 hS, R11_4 hS, R11_5 hS, R11_6 hS, K12 hS, K13 hS, K14 hS, K15 hS, K16 hS, K17 hS, K18 hS, N12 hS, N13 hS, N14 hS, N15 hS, N16 hS, N17 hS, N18 hS, h8, ex, t_v1 T hu]
      exact hQ
    | w + 4, hw => omega
  simp only [k81_0, k81_1, k81_2, k81_5, k81_6, k81_9, k81_10, k81_13, k81_16, k81_17, k81_20, k81_21, k81_24, k81_27, k81_28, k81_30, k81_33, k81_36, k81_37, k81_38, k81_39, k81_42, k81_45, k81_47, k81_50, k81_52, k81_53, k81_54, k81_55, k81_58, k81_59c0, k81_59c1, k81_59c2, k81_59, k81_84, k81_85, k81_88, k81_91, k81_92, k81_93, k81_94, k81_95, k81_98, k81_101, k81_102, k81_103, k81_104, k81_105, k81_108, k81_111, k81_112, k81_113, k81_114, k81_115, k81_118, k81_121, k81_122, k81_123, mm_sI, mm_sJ, mm_sR, mm_cI, mm_cJ, mm_I, mm_J, mm_R, mm_K, mm_N, psh_s, psh_n, z_n, z_i, z_r, z_l, Nat.reduceAdd, Nat.reduceLeDiff, K2 hS, R2_0 hS, R2_1 hS, R2_2 hS, R2_6 hS, R2_8 hS, R2_11 hS, R2_12 hS, R2_13 hS, R2_15 hS, R2_16 hS, K3 hS, K11 hS, K19 hS, K27 hS, K32 hS, K37 hS, K98 hS, K99 hS, K100 hS, N37 hS, N98 hS, N99 hS, N100 hS, ne_eq, true_or, or_true, not_false_eq_true, Nat.reduceEqDiff, Nat.reduceLT, Nat.reduceLeDiff, Nat.reduceAdd, mk0 C.H3, c_hasGirl C, c_hasFrog C]
  by_cases c : what = 3
  · simp only [c, if_true] at pre ⊢; exact pre
  · simp only [c, if_false] at pre ⊢; exact pre
theorem c_marsh {n what : Int32} (C : CC G F l W b h r E) (hQ : ∀ h', Scr h h' → Q (some (vi (marshA F W b n what))) (mm h' j r E)) :
    WP (d + 7) 83 0 [some (vr 2), some (vi n), some (vi what)] [] (mm h j r E) Q := by
  have hS := C.S
  have h41 : b2i (0 ≤ n ∧ n ≤ 40) = b2i (inb n 41) := in_lit rfl (by decide)
  have h4 : b2i (0 ≤ what ∧ what ≤ 1) = b2i (inb what 2) := in_lit rfl (by decide)
  have hr := hQ h Scr.rf
  unfold marshA at hQ hr
  simp only [k83_0, k83_1, k83_2, k83_4, k83_7, k83_10, k83_11, k83_12, k83_13, k83_16, k83_19, k83_20, k83_21, k83_22, k83_23, k83_26, k83_27, k83_30, k83_31, k83_34, k83_37, k83_40, k83_41, k83_44, k83_47, mm_sI, mm_sJ, mm_sR, mm_cI, mm_cJ, mm_I, mm_J, mm_R, mm_K, mm_N, psh_s, psh_n, z_n, z_i, z_r, z_l, Nat.reduceAdd, Nat.reduceLeDiff, K2 hS, R2_0 hS, R2_1 hS, R2_2 hS, R2_6 hS, R2_8 hS, R2_11 hS, R2_12 hS, R2_13 hS, R2_15 hS, R2_16 hS, K3 hS, K11 hS, K19 hS, K27 hS, K32 hS, K37 hS, K98 hS, K99 hS, K100 hS, N37 hS, N98 hS, N99 hS, N100 hS, ne_eq, true_or, or_true, not_false_eq_true, Nat.reduceEqDiff, Nat.reduceLT, Nat.reduceLeDiff, Nat.reduceAdd, s_within, h41, h4, b2i_0]
  by_cases c1 : inb n 41
  case neg => simp only [eq_false c1, not_false_eq_true, if_true, false_and, if_false] at hr ⊢; exact hr
  by_cases c2 : inb what 2
  case neg => simp only [eq_false c2, not_false_eq_true, if_true, false_and, and_false, if_false, eq_true c1, not_true_eq_false] at hr ⊢; exact hr
  simp only [eq_true c1, eq_true c2, and_true, not_true_eq_false, if_false, if_true] at hQ ⊢
  obtain ⟨N, hN, rfl, _⟩ := inb_of c1
  rw [ix_n (by omega)] at hQ
  refine c_thinkOn C Scr.rf (by omega) ?_
  intro h' T
  have hQ := hQ h' T.s
  simp only [k83_0, k83_1, k83_2, k83_4, k83_7, k83_10, k83_11, k83_12, k83_13, k83_16, k83_19, k83_20, k83_21, k83_22, k83_23, k83_26, k83_27, k83_30, k83_31, k83_34, k83_37, k83_40, k83_41, k83_44, k83_47, mm_sI, mm_sJ, mm_sR, mm_cI, mm_cJ, mm_I, mm_J, mm_R, mm_K, mm_N, psh_s, psh_n, z_n, z_i, z_r, z_l, Nat.reduceAdd, Nat.reduceLeDiff, K2 hS, R2_0 hS, R2_1 hS, R2_2 hS, R2_6 hS, R2_8 hS, R2_11 hS, R2_12 hS, R2_13 hS, R2_15 hS, R2_16 hS, K3 hS, K11 hS, K19 hS, K27 hS, K32 hS, K37 hS, K98 hS, K99 hS, K100 hS, N37 hS, N98 hS, N99 hS, N100 hS, ne_eq, true_or, or_true, not_false_eq_true, Nat.reduceEqDiff, Nat.reduceLT, Nat.reduceLeDiff, Nat.reduceAdd, mk0 T.C.H11, t_owing T, t_held T]
  by_cases c : what = 0
  · simp only [c, if_true] at hQ ⊢; exact hQ
  · simp only [c, if_false] at hQ ⊢; exact hQ
theorem c_bwL {x' : Option PV} {w : Int32} : ∀ {k i : Nat} {bt : BB} {h : Hp}, i + k = 41 → TT G F l W b bt h0 h r E → (∀ h', Scr h0 h' → Q (some (vi (bwL F W w i k bt))) (mm h' j r E)) →
    WP (d + 6) 84 46 [some (vr 2), x', some (vi w), some (vi (nI i))] [] (mm h j r E) Q := by
  intro k
  induction k with
  | zero =>
    intro i bt h hk T hQ
    have : i = 41 := by omega
    subst this
    rw [k84_46]
    simp only [k84_0, k84_1, k84_2, k84_5, k84_6, k84_9, k84_10, k84_13, k84_16, k84_17, k84_18, k84_19, k84_20, k84_23, k84_26, k84_29, k84_30, k84_31, k84_32, k84_33, k84_34, k84_37, k84_38, k84_41, k84_44, k84_45, k84_47, k84_49, k84_52, k84_53, k84_56, k84_59, k84_60, k84_61, k84_64, k84_65, k84_66, k84_67, k84_70, k84_71, k84_74, k84_77, k84_77i, k84_78, k84_81, k84_84, k84_86, mm_sI, mm_sJ, mm_sR, mm_cI, mm_cJ, mm_I, mm_J, mm_R, mm_K, mm_N, psh_s, psh_n, z_n, z_i, z_r, z_l, Nat.reduceAdd, Nat.reduceLeDiff, ne_eq, true_or, or_true, not_false_eq_true, Nat.reduceEqDiff, Nat.reduceLT, Nat.reduceLeDiff, Nat.reduceAdd, show (40 : Int32) < nI 41 by decide, if_true]
    exact hQ h T.s
  | succ k ih =>
    intro i bt h hk T hQ
    have hS := T.C.S
    have e4 := T.C.rl
    have hi : ((40 : Int32) < nI i) = False := by rw [← nn40, nLt (by omega) (by omega)]; apply eq_false; omega
    rw [k84_46]
    unfold bwL at hQ
    simp only [k84_0, k84_1, k84_2, k84_5, k84_6, k84_9, k84_10, k84_13, k84_16, k84_17, k84_18, k84_19, k84_20, k84_23, k84_26, k84_29, k84_30, k84_31, k84_32, k84_33, k84_34, k84_37, k84_38, k84_41, k84_44, k84_45, k84_47, k84_49, k84_52, k84_53, k84_56, k84_59, k84_60, k84_61, k84_64, k84_65, k84_66, k84_67, k84_70, k84_71, k84_74, k84_77, k84_77i, k84_78, k84_81, k84_84, k84_86, mm_sI, mm_sJ, mm_sR, mm_cI, mm_cJ, mm_I, mm_J, mm_R, mm_K, mm_N, psh_s, psh_n, z_n, z_i, z_r, z_l, Nat.reduceAdd, Nat.reduceLeDiff, K2 hS, R2_0 hS, R2_1 hS, R2_2 hS, R2_6 hS, R2_8 hS, R2_11 hS, R2_12 hS, R2_13 hS, R2_15 hS, R2_16 hS, K3 hS, K11 hS, K19 hS, K27 hS, K32 hS, K37 hS, K98 hS, K99 hS, K100 hS, N37 hS, N98 hS, N99 hS, N100 hS, ne_eq, true_or, or_true, not_false_eq_true, Nat.reduceEqDiff, Nat.reduceLT, Nat.reduceLeDiff, Nat.reduceAdd, hi, if_false, e4, mk0 T.C.H11, t_owing T]
    by_cases c : owB F bt &&& w = 0
    · simp only [c, if_true] at hQ ⊢; exact hQ h T.s
    · simp only [c, if_false] at hQ ⊢
      refine t_pass T ?_
      intro h' T'
      simp only [k84_0, k84_1, k84_2, k84_5, k84_6, k84_9, k84_10, k84_13, k84_16, k84_17, k84_18, k84_19, k84_20, k84_23, k84_26, k84_29, k84_30, k84_31, k84_32, k84_33, k84_34, k84_37, k84_38, k84_41, k84_44, k84_45, k84_47, k84_49, k84_52, k84_53, k84_56, k84_59, k84_60, k84_61, k84_64, k84_65, k84_66, k84_67, k84_70, k84_71, k84_74, k84_77, k84_77i, k84_78, k84_81, k84_84, k84_86, mm_sI, mm_sJ, mm_sR, mm_cI, mm_cJ, mm_I, mm_J, mm_R, mm_K, mm_N, psh_s, psh_n, z_n, z_i, z_r, z_l, Nat.reduceAdd, Nat.reduceLeDiff, nS1]
      exact ih (by omega) T' hQ
theorem c_backWhen {frog : Int32} (C : CC G F l W b h r E) (hQ : ∀ h', Scr h h' → Q (some (vi (backWhenA F W b frog))) (mm h' j r E)) :
    WP (d + 7) 84 0 [some (vr 2), some (vi frog), none, none] [] (mm h j r E) Q := by
  have hS := C.S
  have e4 := C.rl
  have hr := hQ h Scr.rf
  unfold backWhenA at hQ hr
  by_cases c : frog = -1
  · subst c
    simp only [true_or, if_true] at hQ
    simp only [k84_0, k84_1, k84_2, k84_5, k84_6, k84_9, k84_10, k84_13, k84_16, k84_17, k84_18, k84_19, k84_20, k84_23, k84_26, k84_29, k84_30, k84_31, k84_32, k84_33, k84_34, k84_37, k84_38, k84_41, k84_44, k84_45, k84_47, k84_49, k84_52, k84_53, k84_56, k84_59, k84_60, k84_61, k84_64, k84_65, k84_66, k84_67, k84_70, k84_71, k84_74, k84_77, k84_77i, k84_78, k84_81, k84_84, k84_86, mm_sI, mm_sJ, mm_sR, mm_cI, mm_cJ, mm_I, mm_J, mm_R, mm_K, mm_N, psh_s, psh_n, z_n, z_i, z_r, z_l, Nat.reduceAdd, Nat.reduceLeDiff, K2 hS, R2_0 hS, R2_1 hS, R2_2 hS, R2_6 hS, R2_8 hS, R2_11 hS, R2_12 hS, R2_13 hS, R2_15 hS, R2_16 hS, K3 hS, K11 hS, K19 hS, K27 hS, K32 hS, K37 hS, K98 hS, K99 hS, K100 hS, N37 hS, N98 hS, N99 hS, N100 hS, ne_eq, true_or, or_true, not_false_eq_true, Nat.reduceEqDiff, Nat.reduceLT, Nat.reduceLeDiff, Nat.reduceAdd, if_true, mk0 C.H11]
    refine WP.deep (d := d + 6) ?_ (by omega)
    refine t_copy C Scr.rf ?_
    intro h' T
    simp only [k84_0, k84_1, k84_2, k84_5, k84_6, k84_9, k84_10, k84_13, k84_16, k84_17, k84_18, k84_19, k84_20, k84_23, k84_26, k84_29, k84_30, k84_31, k84_32, k84_33, k84_34, k84_37, k84_38, k84_41, k84_44, k84_45, k84_47, k84_49, k84_52, k84_53, k84_56, k84_59, k84_60, k84_61, k84_64, k84_65, k84_66, k84_67, k84_70, k84_71, k84_74, k84_77, k84_77i, k84_78, k84_81, k84_84, k84_86, mm_sI, mm_sJ, mm_sR, mm_cI, mm_cJ, mm_I, mm_J, mm_R, mm_K, mm_N, psh_s, psh_n, z_n, z_i, z_r, z_l, Nat.reduceAdd, Nat.reduceLeDiff, ne_eq, true_or, or_true, not_false_eq_true, Nat.reduceEqDiff, Nat.reduceLT, Nat.reduceLeDiff, Nat.reduceAdd]
    exact c_bwL (i := 0) (k := 41) (by omega) T hQ
  · simp only [c, false_or, if_false] at hQ hr
    simp only [k84_0, k84_1, k84_2, k84_5, k84_6, k84_9, k84_10, k84_13, k84_16, k84_17, k84_18, k84_19, k84_20, k84_23, k84_26, k84_29, k84_30, k84_31, k84_32, k84_33, k84_34, k84_37, k84_38, k84_41, k84_44, k84_45, k84_47, k84_49, k84_52, k84_53, k84_56, k84_59, k84_60, k84_61, k84_64, k84_65, k84_66, k84_67, k84_70, k84_71, k84_74, k84_77, k84_77i, k84_78, k84_81, k84_84, k84_86, mm_sI, mm_sJ, mm_sR, mm_cI, mm_cJ, mm_I, mm_J, mm_R, mm_K, mm_N, psh_s, psh_n, z_n, z_i, z_r, z_l, Nat.reduceAdd, Nat.reduceLeDiff, K2 hS, R2_0 hS, R2_1 hS, R2_2 hS, R2_6 hS, R2_8 hS, R2_11 hS, R2_12 hS, R2_13 hS, R2_15 hS, R2_16 hS, K3 hS, K11 hS, K19 hS, K27 hS, K32 hS, K37 hS, K98 hS, K99 hS, K100 hS, N37 hS, N98 hS, N99 hS, N100 hS, ne_eq, true_or, or_true, not_false_eq_true, Nat.reduceEqDiff, Nat.reduceLT, Nat.reduceLeDiff, Nat.reduceAdd, c, if_false, c_hasFrog C, b2i_0, mk0 C.H3]
    by_cases c2 : inb frog F
    case neg => simp only [eq_false c2, not_false_eq_true, if_true, if_false] at hr ⊢; exact hr
    simp only [eq_true c2, not_true_eq_false, if_true, if_false] at hQ ⊢
    refine WP.deep (d := d + 6) ?_ (by omega)
    refine t_copy C Scr.rf ?_
    intro h' T
    simp only [k84_0, k84_1, k84_2, k84_5, k84_6, k84_9, k84_10, k84_13, k84_16, k84_17, k84_18, k84_19, k84_20, k84_23, k84_26, k84_29, k84_30, k84_31, k84_32, k84_33, k84_34, k84_37, k84_38, k84_41, k84_44, k84_45, k84_47, k84_49, k84_52, k84_53, k84_56, k84_59, k84_60, k84_61, k84_64, k84_65, k84_66, k84_67, k84_70, k84_71, k84_74, k84_77, k84_77i, k84_78, k84_81, k84_84, k84_86, mm_sI, mm_sJ, mm_sR, mm_cI, mm_cJ, mm_I, mm_J, mm_R, mm_K, mm_N, psh_s, psh_n, z_n, z_i, z_r, z_l, Nat.reduceAdd, Nat.reduceLeDiff, ne_eq, true_or, or_true, not_false_eq_true, Nat.reduceEqDiff, Nat.reduceLT, Nat.reduceLeDiff, Nat.reduceAdd]
    exact c_bwL (i := 0) (k := 41) (by omega) T hQ
theorem c_isPair {gf : Int32} (C : CC G F l W b h r E) : WP (d + 2) 143 0 [some (vr 2), some (vi gf)] [] (mm h j r E) Q = Q (some (vi (b2i (pairP G F gf)))) (mm h j r E) := by
  have hS := C.S
  have t10 : ((10 : Int32) = 0) = False := by simp
  unfold pairP
  by_cases c0 : gf < 0
  · simp only [k143_0, k143_1, k143_4, k143_5, k143_8, k143_9, k143_11, k143_12, k143_15, k143_18, k143_19, k143_22, k143_23, k143_25, k143_26, k143_29, k143_32, k143_33, k143_36, k143_37, mm_sI, mm_sJ, mm_sR, mm_cI, mm_cJ, mm_I, mm_J, mm_R, mm_K, mm_N, psh_s, psh_n, z_n, z_i, z_r, z_l, Nat.reduceAdd, Nat.reduceLeDiff, K2 hS, R2_0 hS, R2_1 hS, R2_2 hS, R2_6 hS, R2_8 hS, R2_11 hS, R2_12 hS, R2_13 hS, R2_15 hS, R2_16 hS, K3 hS, K11 hS, K19 hS, K27 hS, K32 hS, K37 hS, K98 hS, K99 hS, K100 hS, N37 hS, N98 hS, N99 hS, N100 hS, ne_eq, true_or, or_true, not_false_eq_true, Nat.reduceEqDiff, Nat.reduceLT, Nat.reduceLeDiff, Nat.reduceAdd, c0, if_true, Int32.not_le.2 c0, false_and, b2i_f not_false, or_true, true_or]
  · simp only [k143_0, k143_1, k143_4, k143_5, k143_8, k143_9, k143_11, k143_12, k143_15, k143_18, k143_19, k143_22, k143_23, k143_25, k143_26, k143_29, k143_32, k143_33, k143_36, k143_37, mm_sI, mm_sJ, mm_sR, mm_cI, mm_cJ, mm_I, mm_J, mm_R, mm_K, mm_N, psh_s, psh_n, z_n, z_i, z_r, z_l, Nat.reduceAdd, Nat.reduceLeDiff, K2 hS, R2_0 hS, R2_1 hS, R2_2 hS, R2_6 hS, R2_8 hS, R2_11 hS, R2_12 hS, R2_13 hS, R2_15 hS, R2_16 hS, K3 hS, K11 hS, K19 hS, K27 hS, K32 hS, K37 hS, K98 hS, K99 hS, K100 hS, N37 hS, N98 hS, N99 hS, N100 hS, ne_eq, true_or, or_true, not_false_eq_true, Nat.reduceEqDiff, Nat.reduceLT, Nat.reduceLeDiff, Nat.reduceAdd, c0, if_false, Int32.not_lt.1 c0, true_and, t10, mk0 C.H3, c_hasGirl C, c_hasFrog C, b2i_0]
    by_cases c1 : inb (gf / 10) G
    case neg => simp only [eq_false c1, not_false_eq_true, if_true, false_and, b2i_f not_false, or_true, true_or]
    by_cases c2 : inb (gf % 10) F
    case neg => simp only [eq_true c1, eq_false c2, not_false_eq_true, not_true_eq_false, if_true, if_false, and_false, b2i_f not_false, or_true, true_or]
    simp only [eq_true c1, eq_true c2, not_true_eq_false, if_false, and_true, b2i_t trivial, or_true, true_or]
theorem c_thinkLoan {g x : Int32} {f : Nat} (C : CC G F l W b h0 r E) (s : Scr h0 h) (hf : f < F) (hg : inb g G) (hx : inb x 100) (hQ : ∀ h', TT G F l W b (lendB b f g x) h0 h' r E → Q none (mm h' j r E)) :
    WP (d + 2) 86 0 [some (vr 2), some (vi g), some (vi (nI f)), some (vi x)] [] (mm h j r E) Q := by
  have hS := C.S
  simp only [k86_0, k86_1, k86_4, k86_5, k86_8, k86_11, k86_12, k86_15, k86_16, k86_17, k86_18, k86_21, mm_sI, mm_sJ, mm_sR, mm_cI, mm_cJ, mm_I, mm_J, mm_R, mm_K, mm_N, psh_s, psh_n, z_n, z_i, z_r, z_l, Nat.reduceAdd, Nat.reduceLeDiff, K2 hS, R2_0 hS, R2_1 hS, R2_2 hS, R2_6 hS, R2_8 hS, R2_11 hS, R2_12 hS, R2_13 hS, R2_15 hS, R2_16 hS, K3 hS, K11 hS, K19 hS, K27 hS, K32 hS, K37 hS, K98 hS, K99 hS, K100 hS, N37 hS, N98 hS, N99 hS, N100 hS, ne_eq, true_or, or_true, not_false_eq_true, Nat.reduceEqDiff, Nat.reduceLT, Nat.reduceLeDiff, Nat.reduceAdd, mk0 C.H11]
  refine t_copy C s ?_
  intro h' T
  simp only [k86_0, k86_1, k86_4, k86_5, k86_8, k86_11, k86_12, k86_15, k86_16, k86_17, k86_18, k86_21, mm_sI, mm_sJ, mm_sR, mm_cI, mm_cJ, mm_I, mm_J, mm_R, mm_K, mm_N, psh_s, psh_n, z_n, z_i, z_r, z_l, Nat.reduceAdd, Nat.reduceLeDiff, K2 hS, R2_0 hS, R2_1 hS, R2_2 hS, R2_6 hS, R2_8 hS, R2_11 hS, R2_12 hS, R2_13 hS, R2_15 hS, R2_16 hS, K3 hS, K11 hS, K19 hS, K27 hS, K32 hS, K37 hS, K98 hS, K99 hS, K100 hS, N37 hS, N98 hS, N99 hS, N100 hS, ne_eq, true_or, or_true, not_false_eq_true, Nat.reduceEqDiff, Nat.reduceLT, Nat.reduceLeDiff, Nat.reduceAdd, mk0 C.H11]
  refine WP.deep (d := d) ?_ (by omega)
  refine t_lend T hf hg hx ?_
  intro h'' T2
  simp only [k86_0, k86_1, k86_4, k86_5, k86_8, k86_11, k86_12, k86_15, k86_16, k86_17, k86_18, k86_21, mm_sI, mm_sJ, mm_sR, mm_cI, mm_cJ, mm_I, mm_J, mm_R, mm_K, mm_N, psh_s, psh_n, z_n, z_i, z_r, z_l, Nat.reduceAdd, Nat.reduceLeDiff]
  exact hQ h'' T2
theorem c_gbL {f : Nat} (hf : f < F) : ∀ {k i : Nat} {bt : BB} {h : Hp}, i + k = 24 → TT G F l W b bt h0 h r E → (∀ h', Scr h0 h' → Q (some (vi (gbA W f k bt))) (mm h' j r E)) →
    WP (d + 5) 87 5 [some (vr 2), some (vi (nI f)), some (vi (-2)), some (vi (nI i))] [] (mm h j r E) Q := by
  have h20 : ((0 : Int32) ≤ -2) = False := by simp
  intro k
  induction k with
  | zero =>
    intro i bt h hk T hQ
    have : i = 24 := by omega
    subst this
    have := hQ h T.s
    rw [k87_5]
    simp only [k87_0, k87_2, k87_3, k87_4, k87_6, k87_8, k87_11, k87_12, k87_15, k87_16, k87_19, k87_20, k87_21, k87_24, k87_27, k87_28, k87_29, k87_32, k87_35, k87_38, k87_41, k87_42, k87_45, k87_47, k87_50, k87_51, mm_sI, mm_sJ, mm_sR, mm_cI, mm_cJ, mm_I, mm_J, mm_R, mm_K, mm_N, psh_s, psh_n, z_n, z_i, z_r, z_l, Nat.reduceAdd, Nat.reduceLeDiff, ne_eq, true_or, or_true, not_false_eq_true, Nat.reduceEqDiff, Nat.reduceLT, Nat.reduceLeDiff, Nat.reduceAdd, nn24, Int32.le_refl, if_true, h20, if_false]
    exact this
  | succ k ih =>
    intro i bt h hk T hQ
    have hS := T.C.S
    have e4 := T.C.rl
    have hi : ((24 : Int32) ≤ nI i) = False := by rw [← nn24, nLe (by omega) (by omega)]; apply eq_false; omega
    rw [k87_5]
    simp only [k87_0, k87_2, k87_3, k87_4, k87_6, k87_8, k87_11, k87_12, k87_15, k87_16, k87_19, k87_20, k87_21, k87_24, k87_27, k87_28, k87_29, k87_32, k87_35, k87_38, k87_41, k87_42, k87_45, k87_47, k87_50, k87_51, mm_sI, mm_sJ, mm_sR, mm_cI, mm_cJ, mm_I, mm_J, mm_R, mm_K, mm_N, psh_s, psh_n, z_n, z_i, z_r, z_l, Nat.reduceAdd, Nat.reduceLeDiff, K2 hS, R2_0 hS, R2_1 hS, R2_2 hS, R2_6 hS, R2_8 hS, R2_11 hS, R2_12 hS, R2_13 hS, R2_15 hS, R2_16 hS, K3 hS, K11 hS, K19 hS, K27 hS, K32 hS, K37 hS, K98 hS, K99 hS, K100 hS, N37 hS, N98 hS, N99 hS, N100 hS, ne_eq, true_or, or_true, not_false_eq_true, Nat.reduceEqDiff, Nat.reduceLT, Nat.reduceLeDiff, Nat.reduceAdd, hi, if_false, h20, e4, mk0 T.C.H11]
    refine t_passOf T hf ?_
    intro h' T'
    simp only [k87_0, k87_2, k87_3, k87_4, k87_6, k87_8, k87_11, k87_12, k87_15, k87_16, k87_19, k87_20, k87_21, k87_24, k87_27, k87_28, k87_29, k87_32, k87_35, k87_38, k87_41, k87_42, k87_45, k87_47, k87_50, k87_51, mm_sI, mm_sJ, mm_sR, mm_cI, mm_cJ, mm_I, mm_J, mm_R, mm_K, mm_N, psh_s, psh_n, z_n, z_i, z_r, z_l, Nat.reduceAdd, Nat.reduceLeDiff, K2 hS, R2_0 hS, R2_1 hS, R2_2 hS, R2_6 hS, R2_8 hS, R2_11 hS, R2_12 hS, R2_13 hS, R2_15 hS, R2_16 hS, K3 hS, K11 hS, K19 hS, K27 hS, K32 hS, K37 hS, K98 hS, K99 hS, K100 hS, N37 hS, N98 hS, N99 hS, N100 hS, ne_eq, true_or, or_true, not_false_eq_true, Nat.reduceEqDiff, Nat.reduceLT, Nat.reduceLeDiff, Nat.reduceAdd, mk0 T.C.H11]
    refine t_end T' ?_
    intro h'' T''
    simp only [k87_0, k87_2, k87_3, k87_4, k87_6, k87_8, k87_11, k87_12, k87_15, k87_16, k87_19, k87_20, k87_21, k87_24, k87_27, k87_28, k87_29, k87_32, k87_35, k87_38, k87_41, k87_42, k87_45, k87_47, k87_50, k87_51, mm_sI, mm_sJ, mm_sR, mm_cI, mm_cJ, mm_I, mm_J, mm_R, mm_K, mm_N, psh_s, psh_n, z_n, z_i, z_r, z_l, Nat.reduceAdd, Nat.reduceLeDiff, nS1]
    unfold gbA at hQ
    by_cases c : gvB W f bt < 0
    · have e2 : gvB W f bt = -2 := by
        have := gv_0 (W := W) T.w hf
        rw [this] at c
        unfold gvB
        unfold bkB at c
        by_cases h4 : bt 4 f = -1
        · simp [h4]
        · by_cases h6 : bt 6 1 < bt 6 0
          · simp [h4, h6]
          · simp only [ne_eq, h4, not_false_eq_true, h6, true_and] at c
            simp [h4, h6, c]
      simp only [c, if_true] at hQ
      rw [e2]
      exact ih (by omega) T'' hQ
    · simp only [c, if_false] at hQ
      have c' := Int32.not_lt.1 c
      have := hQ h'' T''.s
      rw [k87_5]
      by_cases c3 : (24 : Int32) ≤ nI (i + 1)
      · simp only [k87_0, k87_2, k87_3, k87_4, k87_6, k87_8, k87_11, k87_12, k87_15, k87_16, k87_19, k87_20, k87_21, k87_24, k87_27, k87_28, k87_29, k87_32, k87_35, k87_38, k87_41, k87_42, k87_45, k87_47, k87_50, k87_51, mm_sI, mm_sJ, mm_sR, mm_cI, mm_cJ, mm_I, mm_J, mm_R, mm_K, mm_N, psh_s, psh_n, z_n, z_i, z_r, z_l, Nat.reduceAdd, Nat.reduceLeDiff, ne_eq, true_or, or_true, not_false_eq_true, Nat.reduceEqDiff, Nat.reduceLT, Nat.reduceLeDiff, Nat.reduceAdd, c3, if_true, c']; exact this
      · simp only [k87_0, k87_2, k87_3, k87_4, k87_6, k87_8, k87_11, k87_12, k87_15, k87_16, k87_19, k87_20, k87_21, k87_24, k87_27, k87_28, k87_29, k87_32, k87_35, k87_38, k87_41, k87_42, k87_45, k87_47, k87_50, k87_51, mm_sI, mm_sJ, mm_sR, mm_cI, mm_cJ, mm_I, mm_J, mm_R, mm_K, mm_N, psh_s, psh_n, z_n, z_i, z_r, z_l, Nat.reduceAdd, Nat.reduceLeDiff, ne_eq, true_or, or_true, not_false_eq_true, Nat.reduceEqDiff, Nat.reduceLT, Nat.reduceLeDiff, Nat.reduceAdd, c3, if_true, if_false, c']; exact this
theorem c_givenBack {f : Nat} (hf : f < F) (T : TT G F l W b bt h0 h r E) (hQ : ∀ h', Scr h0 h' → Q (some (vi (gbA W f 24 bt))) (mm h' j r E)) :
    WP (d + 5) 87 0 [some (vr 2), some (vi (nI f)), none, none] [] (mm h j r E) Q := by
  simp only [k87_0, k87_2, k87_3, k87_4, k87_6, k87_8, k87_11, k87_12, k87_15, k87_16, k87_19, k87_20, k87_21, k87_24, k87_27, k87_28, k87_29, k87_32, k87_35, k87_38, k87_41, k87_42, k87_45, k87_47, k87_50, k87_51, mm_sI, mm_sJ, mm_sR, mm_cI, mm_cJ, mm_I, mm_J, mm_R, mm_K, mm_N, psh_s, psh_n, z_n, z_i, z_r, z_l, Nat.reduceAdd, Nat.reduceLeDiff, ne_eq, true_or, or_true, not_false_eq_true, Nat.reduceEqDiff, Nat.reduceLT, Nat.reduceLeDiff, Nat.reduceAdd]
  exact c_gbL hf (i := 0) (k := 24) (by omega) T hQ
theorem c_htL {f : Nat} (hf : f < F) : ∀ {k i : Nat} {bt : BB} {h : Hp}, i + k = 25 → TT G F l W b bt h0 h r E → (∀ h', Scr h0 h' → Q (some (vi (htA W f i k bt))) (mm h' j r E)) →
    WP (d + 5) 88 2 [some (vr 2), some (vi (nI f)), some (vi (nI i))] [] (mm h j r E) Q := by
  intro k
  induction k with
  | zero =>
    intro i bt h hk T hQ
    have : i = 25 := by omega
    subst this
    have := hQ h T.s
    rw [k88_2]
    simp only [k88_0, k88_1, k88_3, k88_5, k88_8, k88_9, k88_12, k88_13, k88_14, k88_17, k88_20, k88_23, k88_24, k88_25, k88_26, k88_29, k88_32, k88_35, k88_38, k88_40, mm_sI, mm_sJ, mm_sR, mm_cI, mm_cJ, mm_I, mm_J, mm_R, mm_K, mm_N, psh_s, psh_n, z_n, z_i, z_r, z_l, Nat.reduceAdd, Nat.reduceLeDiff, ne_eq, true_or, or_true, not_false_eq_true, Nat.reduceEqDiff, Nat.reduceLT, Nat.reduceLeDiff, Nat.reduceAdd, show (24 : Int32) < nI 25 by decide, if_true]
    exact this
  | succ k ih =>
    intro i bt h hk T hQ
    have hS := T.C.S
    have e4 := T.C.rl
    have hi : ((24 : Int32) < nI i) = False := by rw [← nn24, nLt (by omega) (by omega)]; apply eq_false; omega
    rw [k88_2]
    simp only [k88_0, k88_1, k88_3, k88_5, k88_8, k88_9, k88_12, k88_13, k88_14, k88_17, k88_20, k88_23, k88_24, k88_25, k88_26, k88_29, k88_32, k88_35, k88_38, k88_40, mm_sI, mm_sJ, mm_sR, mm_cI, mm_cJ, mm_I, mm_J, mm_R, mm_K, mm_N, psh_s, psh_n, z_n, z_i, z_r, z_l, Nat.reduceAdd, Nat.reduceLeDiff, K2 hS, R2_0 hS, R2_1 hS, R2_2 hS, R2_6 hS, R2_8 hS, R2_11 hS, R2_12 hS, R2_13 hS, R2_15 hS, R2_16 hS, K3 hS, K11 hS, K19 hS, K27 hS, K32 hS, K37 hS, K98 hS, K99 hS, K100 hS, N37 hS, N98 hS, N99 hS, N100 hS, ne_eq, true_or, or_true, not_false_eq_true, Nat.reduceEqDiff, Nat.reduceLT, Nat.reduceLeDiff, Nat.reduceAdd, hi, if_false, e4, mk0 T.C.H11]
    refine t_passOf T hf ?_
    intro h' T'
    unfold htA at hQ
    by_cases c : gvB W f bt < 0
    · simp only [c, if_true] at hQ
      simp only [k88_0, k88_1, k88_3, k88_5, k88_8, k88_9, k88_12, k88_13, k88_14, k88_17, k88_20, k88_23, k88_24, k88_25, k88_26, k88_29, k88_32, k88_35, k88_38, k88_40, mm_sI, mm_sJ, mm_sR, mm_cI, mm_cJ, mm_I, mm_J, mm_R, mm_K, mm_N, psh_s, psh_n, z_n, z_i, z_r, z_l, Nat.reduceAdd, Nat.reduceLeDiff, K2 hS, R2_0 hS, R2_1 hS, R2_2 hS, R2_6 hS, R2_8 hS, R2_11 hS, R2_12 hS, R2_13 hS, R2_15 hS, R2_16 hS, K3 hS, K11 hS, K19 hS, K27 hS, K32 hS, K37 hS, K98 hS, K99 hS, K100 hS, N37 hS, N98 hS, N99 hS, N100 hS, ne_eq, true_or, or_true, not_false_eq_true, Nat.reduceEqDiff, Nat.reduceLT, Nat.reduceLeDiff, Nat.reduceAdd, c, if_true, mk0 T.C.H11]
      refine t_end T' ?_
      intro h'' T''
      simp only [k88_0, k88_1, k88_3, k88_5, k88_8, k88_9, k88_12, k88_13, k88_14, k88_17, k88_20, k88_23, k88_24, k88_25, k88_26, k88_29, k88_32, k88_35, k88_38, k88_40, mm_sI, mm_sJ, mm_sR, mm_cI, mm_cJ, mm_I, mm_J, mm_R, mm_K, mm_N, psh_s, psh_n, z_n, z_i, z_r, z_l, Nat.reduceAdd, Nat.reduceLeDiff, nS1]
      exact ih (by omega) T'' hQ
    · simp only [c, if_false] at hQ
      simp only [k88_0, k88_1, k88_3, k88_5, k88_8, k88_9, k88_12, k88_13, k88_14, k88_17, k88_20, k88_23, k88_24, k88_25, k88_26, k88_29, k88_32, k88_35, k88_38, k88_40, mm_sI, mm_sJ, mm_sR, mm_cI, mm_cJ, mm_I, mm_J, mm_R, mm_K, mm_N, psh_s, psh_n, z_n, z_i, z_r, z_l, Nat.reduceAdd, Nat.reduceLeDiff, K2 hS, R2_0 hS, R2_1 hS, R2_2 hS, R2_6 hS, R2_8 hS, R2_11 hS, R2_12 hS, R2_13 hS, R2_15 hS, R2_16 hS, K3 hS, K11 hS, K19 hS, K27 hS, K32 hS, K37 hS, K98 hS, K99 hS, K100 hS, N37 hS, N98 hS, N99 hS, N100 hS, ne_eq, true_or, or_true, not_false_eq_true, Nat.reduceEqDiff, Nat.reduceLT, Nat.reduceLeDiff, Nat.reduceAdd, c, if_false]
      exact hQ h' T'.s
theorem c_hoursTillBack {f : Nat} (hf : f < F) (T : TT G F l W b bt h0 h r E) (hQ : ∀ h', Scr h0 h' → Q (some (vi (htA W f 1 24 bt))) (mm h' j r E)) :
    WP (d + 5) 88 0 [some (vr 2), some (vi (nI f)), none] [] (mm h j r E) Q := by
  simp only [k88_0, k88_1, k88_3, k88_5, k88_8, k88_9, k88_12, k88_13, k88_14, k88_17, k88_20, k88_23, k88_24, k88_25, k88_26, k88_29, k88_32, k88_35, k88_38, k88_40, mm_sI, mm_sJ, mm_sR, mm_cI, mm_cJ, mm_I, mm_J, mm_R, mm_K, mm_N, psh_s, psh_n, z_n, z_i, z_r, z_l, Nat.reduceAdd, Nat.reduceLeDiff, ne_eq, true_or, or_true, not_false_eq_true, Nat.reduceEqDiff, Nat.reduceLT, Nat.reduceLeDiff, Nat.reduceAdd]
  exact c_htL hf (i := 1) (k := 24) (by omega) T hQ
theorem in_1_99 {x : Int32} (h : 1 ≤ x ∧ x ≤ 99) : inb x 100 := by
  rw [← in_99]; refine ⟨?_, h.2⟩
  have := (iLe _ _).1 h.1; rw [iLe]; rw [i1] at this; rw [i0]; omega
theorem c_loan {gf x what : Int32} (C : CC G F l W b h r E) (hQ : ∀ h', Scr h h' → Q (some (vi (loanA G F W b gf x what))) (mm h' j r E)) :
    WP (d + 6) 85 0 [some (vr 2), some (vi gf), some (vi x), some (vi what)] [] (mm h j r E) Q := by
  have hS := C.S
  have h4 : b2i (0 ≤ what ∧ what ≤ 1) = b2i (inb what 2) := in_lit rfl (by decide)
  have hr := hQ h Scr.rf
  have t10 : ((10 : Int32) = 0) = False := by simp
  unfold loanA at hQ hr
  simp only [k85_0, k85_1, k85_2, k85_5, k85_8, k85_9, k85_10, k85_12, k85_15, k85_18, k85_19, k85_20, k85_21, k85_24, k85_27, k85_28, k85_29, k85_30, k85_31, k85_33, k85_34, k85_35, k85_37, k85_38, k85_39, k85_42, k85_43, k85_46, k85_47, k85_48, k85_50, k85_51, k85_54, k85_57, k85_58, k85_59, k85_61, k85_62, k85_65, mm_sI, mm_sJ, mm_sR, mm_cI, mm_cJ, mm_I, mm_J, mm_R, mm_K, mm_N, psh_s, psh_n, z_n, z_i, z_r, z_l, Nat.reduceAdd, Nat.reduceLeDiff, K2 hS, R2_0 hS, R2_1 hS, R2_2 hS, R2_6 hS, R2_8 hS, R2_11 hS, R2_12 hS, R2_13 hS, R2_15 hS, R2_16 hS, K3 hS, K11 hS, K19 hS, K27 hS, K32 hS, K37 hS, K98 hS, K99 hS, K100 hS, N37 hS, N98 hS, N99 hS, N100 hS, ne_eq, true_or, or_true, not_false_eq_true, Nat.reduceEqDiff, Nat.reduceLT, Nat.reduceLeDiff, Nat.reduceAdd, s_within, c_isPair C, h4, b2i_0, t10]
  by_cases c1 : pairP G F gf
  case neg => simp only [eq_false c1, not_false_eq_true, if_true, false_and, if_false] at hr ⊢; exact hr
  by_cases c2 : 1 ≤ x ∧ x ≤ 99
  case neg => simp only [eq_false c2, not_false_eq_true, if_true, false_and, and_false, if_false, eq_true c1, not_true_eq_false] at hr ⊢; exact hr
  by_cases c3 : inb what 2
  case neg => simp only [eq_false c3, not_false_eq_true, if_true, false_and, and_false, if_false, eq_true c1, eq_true c2, not_true_eq_false] at hr ⊢; exact hr
  simp only [eq_true c1, eq_true c2, eq_true c3, and_true, not_true_eq_false, if_false, if_true] at hQ ⊢
  obtain ⟨f, hf, ef, hf2⟩ := inb_of c1.2.2
  simp only [ef, ix_n hf2] at hQ ⊢
  refine WP.deep (d := d + 2) ?_ (by omega)
  refine c_thinkLoan C Scr.rf hf c1.2.1 (in_1_99 c2) ?_
  intro h' T
  by_cases c : what = 0
  · simp only [c, if_true] at hQ
    simp only [k85_0, k85_1, k85_2, k85_5, k85_8, k85_9, k85_10, k85_12, k85_15, k85_18, k85_19, k85_20, k85_21, k85_24, k85_27, k85_28, k85_29, k85_30, k85_31, k85_33, k85_34, k85_35, k85_37, k85_38, k85_39, k85_42, k85_43, k85_46, k85_47, k85_48, k85_50, k85_51, k85_54, k85_57, k85_58, k85_59, k85_61, k85_62, k85_65, mm_sI, mm_sJ, mm_sR, mm_cI, mm_cJ, mm_I, mm_J, mm_R, mm_K, mm_N, psh_s, psh_n, z_n, z_i, z_r, z_l, Nat.reduceAdd, Nat.reduceLeDiff, K2 hS, R2_0 hS, R2_1 hS, R2_2 hS, R2_6 hS, R2_8 hS, R2_11 hS, R2_12 hS, R2_13 hS, R2_15 hS, R2_16 hS, K3 hS, K11 hS, K19 hS, K27 hS, K32 hS, K37 hS, K98 hS, K99 hS, K100 hS, N37 hS, N98 hS, N99 hS, N100 hS, ne_eq, true_or, or_true, not_false_eq_true, Nat.reduceEqDiff, Nat.reduceLT, Nat.reduceLeDiff, Nat.reduceAdd, t10, ef, c, if_true]
    refine c_givenBack hf T ?_
    intro h'' s
    simp only [k85_0, k85_1, k85_2, k85_5, k85_8, k85_9, k85_10, k85_12, k85_15, k85_18, k85_19, k85_20, k85_21, k85_24, k85_27, k85_28, k85_29, k85_30, k85_31, k85_33, k85_34, k85_35, k85_37, k85_38, k85_39, k85_42, k85_43, k85_46, k85_47, k85_48, k85_50, k85_51, k85_54, k85_57, k85_58, k85_59, k85_61, k85_62, k85_65, mm_sI, mm_sJ, mm_sR, mm_cI, mm_cJ, mm_I, mm_J, mm_R, mm_K, mm_N, psh_s, psh_n, z_n, z_i, z_r, z_l, Nat.reduceAdd, Nat.reduceLeDiff]
    exact hQ h'' s
  · simp only [c, if_false] at hQ
    simp only [k85_0, k85_1, k85_2, k85_5, k85_8, k85_9, k85_10, k85_12, k85_15, k85_18, k85_19, k85_20, k85_21, k85_24, k85_27, k85_28, k85_29, k85_30, k85_31, k85_33, k85_34, k85_35, k85_37, k85_38, k85_39, k85_42, k85_43, k85_46, k85_47, k85_48, k85_50, k85_51, k85_54, k85_57, k85_58, k85_59, k85_61, k85_62, k85_65, mm_sI, mm_sJ, mm_sR, mm_cI, mm_cJ, mm_I, mm_J, mm_R, mm_K, mm_N, psh_s, psh_n, z_n, z_i, z_r, z_l, Nat.reduceAdd, Nat.reduceLeDiff, K2 hS, R2_0 hS, R2_1 hS, R2_2 hS, R2_6 hS, R2_8 hS, R2_11 hS, R2_12 hS, R2_13 hS, R2_15 hS, R2_16 hS, K3 hS, K11 hS, K19 hS, K27 hS, K32 hS, K37 hS, K98 hS, K99 hS, K100 hS, N37 hS, N98 hS, N99 hS, N100 hS, ne_eq, true_or, or_true, not_false_eq_true, Nat.reduceEqDiff, Nat.reduceLT, Nat.reduceLeDiff, Nat.reduceAdd, t10, ef, c, if_false]
    refine c_hoursTillBack hf T ?_
    intro h'' s
    simp only [k85_0, k85_1, k85_2, k85_5, k85_8, k85_9, k85_10, k85_12, k85_15, k85_18, k85_19, k85_20, k85_21, k85_24, k85_27, k85_28, k85_29, k85_30, k85_31, k85_33, k85_34, k85_35, k85_37, k85_38, k85_39, k85_42, k85_43, k85_46, k85_47, k85_48, k85_50, k85_51, k85_54, k85_57, k85_58, k85_59, k85_61, k85_62, k85_65, mm_sI, mm_sJ, mm_sR, mm_cI, mm_cJ, mm_I, mm_J, mm_R, mm_K, mm_N, psh_s, psh_n, z_n, z_i, z_r, z_l, Nat.reduceAdd, Nat.reduceLeDiff]
    exact hQ h'' s
theorem c_bsL {g x : Int32} {what : Option PV} (C : CC G F l W b h0 r E) (hg : inb g G) (hx : inb x 100) : ∀ {k f : Nat} {p q : Int32} {e : Option PV} {h : Hp}, f + k = F → Scr h0 h → (∀ h' q', Scr h0 h' → WP (d + 6) 89 92 [some (vr 2), some (vi g), some (vi x), what, some (vi (bsL W b g x f k (p, q)).1), some (vi (bsL W b g x f k (p, q)).2), some (vi (nI F)), q'] [] (mm h' j r E) Q) →
    WP (d + 6) 89 43 [some (vr 2), some (vi g), some (vi x), what, some (vi p), some (vi q), some (vi (nI f)), e] [] (mm h j r E) Q := by
  have hF8 := C.F8
  have hS := C.S
  intro k
  induction k with
  | zero =>
    intro f p q e h hk s hQ
    have : f = F := by omega
    subst this
    have hF := (C.fr s).eF
    rw [k89_43]
    simp only [k89_0, k89_1, k89_4, k89_5, k89_8, k89_11, k89_12, k89_13, k89_15, k89_18, k89_21, k89_22, k89_23, k89_24, k89_27, k89_30, k89_31, k89_32, k89_34, k89_36, k89_38, k89_40, k89_41, k89_45, k89_46, k89_49, k89_52, k89_55, k89_56, k89_57, k89_59, k89_60, k89_63, k89_64, k89_66, k89_69, k89_71, k89_73, k89_75, k89_78, k89_80, k89_82, k89_84, k89_86, k89_89, k89_93, k89_96, k89_98, k89_101, k89_103, mm_sI, mm_sJ, mm_sR, mm_cI, mm_cJ, mm_I, mm_J, mm_R, mm_K, mm_N, psh_s, psh_n, z_n, z_i, z_r, z_l, Nat.reduceAdd, Nat.reduceLeDiff, K2 hS, R2_0 hS, R2_1 hS, R2_2 hS, R2_6 hS, R2_8 hS, R2_11 hS, R2_12 hS, R2_13 hS, R2_15 hS, R2_16 hS, K3 hS, K11 hS, K19 hS, K27 hS, K32 hS, K37 hS, K98 hS, K99 hS, K100 hS, N37 hS, N98 hS, N99 hS, N100 hS, ne_eq, true_or, or_true, not_false_eq_true, Nat.reduceEqDiff, Nat.reduceLT, Nat.reduceLeDiff, Nat.reduceAdd, mk0 C.H3, hF, Int32.le_refl, if_true]
    exact hQ h e s
  | succ k ih =>
    intro f p q e h hk s hQ
    have hF := (C.fr s).eF
    have hfF : f < F := by omega
    rw [k89_43]
    simp only [k89_0, k89_1, k89_4, k89_5, k89_8, k89_11, k89_12, k89_13, k89_15, k89_18, k89_21, k89_22, k89_23, k89_24, k89_27, k89_30, k89_31, k89_32, k89_34, k89_36, k89_38, k89_40, k89_41, k89_45, k89_46, k89_49, k89_52, k89_55, k89_56, k89_57, k89_59, k89_60, k89_63, k89_64, k89_66, k89_69, k89_71, k89_73, k89_75, k89_78, k89_80, k89_82, k89_84, k89_86, k89_89, k89_92, k89_93, k89_96, k89_98, k89_101, k89_103, mm_sI, mm_sJ, mm_sR, mm_cI, mm_cJ, mm_I, mm_J, mm_R, mm_K, mm_N, psh_s, psh_n, z_n, z_i, z_r, z_l, Nat.reduceAdd, Nat.reduceLeDiff, K2 hS, R2_0 hS, R2_1 hS, R2_2 hS, R2_6 hS, R2_8 hS, R2_11 hS, R2_12 hS, R2_13 hS, R2_15 hS, R2_16 hS, K3 hS, K11 hS, K19 hS, K27 hS, K32 hS, K37 hS, K98 hS, K99 hS, K100 hS, N37 hS, N98 hS, N99 hS, N100 hS, ne_eq, true_or, or_true, not_false_eq_true, Nat.reduceEqDiff, Nat.reduceLT, Nat.reduceLeDiff, Nat.reduceAdd, mk0 C.H3, hF, nLe (show F < 2 ^ 31 by omega) (show f < 2 ^ 31 by omega), show ¬ F ≤ f by omega, if_false]
    refine WP.deep (d := d + 2) ?_ (by omega)
    refine c_thinkLoan C s hfF hg hx ?_
    intro h' T
    simp only [k89_0, k89_1, k89_4, k89_5, k89_8, k89_11, k89_12, k89_13, k89_15, k89_18, k89_21, k89_22, k89_23, k89_24, k89_27, k89_30, k89_31, k89_32, k89_34, k89_36, k89_38, k89_40, k89_41, k89_45, k89_46, k89_49, k89_52, k89_55, k89_56, k89_57, k89_59, k89_60, k89_63, k89_64, k89_66, k89_69, k89_71, k89_73, k89_75, k89_78, k89_80, k89_82, k89_84, k89_86, k89_89, k89_92, k89_93, k89_96, k89_98, k89_101, k89_103, mm_sI, mm_sJ, mm_sR, mm_cI, mm_cJ, mm_I, mm_J, mm_R, mm_K, mm_N, psh_s, psh_n, z_n, z_i, z_r, z_l, Nat.reduceAdd, Nat.reduceLeDiff, K2 hS, R2_0 hS, R2_1 hS, R2_2 hS, R2_6 hS, R2_8 hS, R2_11 hS, R2_12 hS, R2_13 hS, R2_15 hS, R2_16 hS, K3 hS, K11 hS, K19 hS, K27 hS, K32 hS, K37 hS, K98 hS, K99 hS, K100 hS, N37 hS, N98 hS, N99 hS, N100 hS, ne_eq, true_or, or_true, not_false_eq_true, Nat.reduceEqDiff, Nat.reduceLT, Nat.reduceLeDiff, Nat.reduceAdd]
    refine c_givenBack hfF T ?_
    intro h'' s2
    simp only [k89_0, k89_1, k89_4, k89_5, k89_8, k89_11, k89_12, k89_13, k89_15, k89_18, k89_21, k89_22, k89_23, k89_24, k89_27, k89_30, k89_31, k89_32, k89_34, k89_36, k89_38, k89_40, k89_41, k89_45, k89_46, k89_49, k89_52, k89_55, k89_56, k89_57, k89_59, k89_60, k89_63, k89_64, k89_66, k89_69, k89_71, k89_73, k89_75, k89_78, k89_80, k89_82, k89_84, k89_86, k89_89, k89_92, k89_93, k89_96, k89_98, k89_101, k89_103, mm_sI, mm_sJ, mm_sR, mm_cI, mm_cJ, mm_I, mm_J, mm_R, mm_K, mm_N, psh_s, psh_n, z_n, z_i, z_r, z_l, Nat.reduceAdd, Nat.reduceLeDiff, K2 hS, R2_0 hS, R2_1 hS, R2_2 hS, R2_6 hS, R2_8 hS, R2_11 hS, R2_12 hS, R2_13 hS, R2_15 hS, R2_16 hS, K3 hS, K11 hS, K19 hS, K27 hS, K32 hS, K37 hS, K98 hS, K99 hS, K100 hS, N37 hS, N98 hS, N99 hS, N100 hS, ne_eq, true_or, or_true, not_false_eq_true, Nat.reduceEqDiff, Nat.reduceLT, Nat.reduceLeDiff, Nat.reduceAdd, nS1]
    unfold bsL at hQ
    simp only at hQ
    by_cases c : q < gbA W f 24 (lendB b f g x)
    · simp only [c, if_true, Int32.not_le.2 c, if_false] at hQ ⊢
      exact ih (by omega) s2 hQ
    · simp only [c, if_true, Int32.not_lt.1 c, if_false] at hQ ⊢
      exact ih (by omega) s2 hQ
theorem c_best {g x what : Int32} (C : CC G F l W b h r E) (hQ : ∀ h', Scr h h' → Q (some (vi (bestA G F W b g x what))) (mm h' j r E)) :
    WP (d + 6) 89 0 [some (vr 2), some (vi g), some (vi x), some (vi what), none, none, none, none] [] (mm h j r E) Q := by
  have hS := C.S
  have h4 : b2i (0 ≤ what ∧ what ≤ 1) = b2i (inb what 2) := in_lit rfl (by decide)
  have hr := hQ h Scr.rf
  unfold bestA at hQ hr
  simp only [k89_0, k89_1, k89_4, k89_5, k89_8, k89_11, k89_12, k89_13, k89_15, k89_18, k89_21, k89_22, k89_23, k89_24, k89_27, k89_30, k89_31, k89_32, k89_34, k89_36, k89_38, k89_40, k89_41, k89_45, k89_46, k89_49, k89_52, k89_55, k89_56, k89_57, k89_59, k89_60, k89_63, k89_64, k89_66, k89_69, k89_71, k89_73, k89_75, k89_78, k89_80, k89_82, k89_84, k89_86, k89_89, k89_92, k89_93, k89_96, k89_98, k89_101, k89_103, mm_sI, mm_sJ, mm_sR, mm_cI, mm_cJ, mm_I, mm_J, mm_R, mm_K, mm_N, psh_s, psh_n, z_n, z_i, z_r, z_l, Nat.reduceAdd, Nat.reduceLeDiff, K2 hS, R2_0 hS, R2_1 hS, R2_2 hS, R2_6 hS, R2_8 hS, R2_11 hS, R2_12 hS, R2_13 hS, R2_15 hS, R2_16 hS, K3 hS, K11 hS, K19 hS, K27 hS, K32 hS, K37 hS, K98 hS, K99 hS, K100 hS, N37 hS, N98 hS, N99 hS, N100 hS, ne_eq, true_or, or_true, not_false_eq_true, Nat.reduceEqDiff, Nat.reduceLT, Nat.reduceLeDiff, Nat.reduceAdd, s_within, c_hasGirl C, mk0 C.H3, h4, b2i_0]
  by_cases c1 : inb g G
  case neg => simp only [eq_false c1, not_false_eq_true, if_true, false_and, if_false] at hr ⊢; exact hr
  by_cases c2 : 1 ≤ x ∧ x ≤ 99
  case neg => simp only [eq_false c2, not_false_eq_true, if_true, false_and, and_false, if_false, eq_true c1, not_true_eq_false] at hr ⊢; exact hr
  by_cases c3 : inb what 2
  case neg => simp only [eq_false c3, not_false_eq_true, if_true, false_and, and_false, if_false, eq_true c1, eq_true c2, not_true_eq_false] at hr ⊢; exact hr
  simp only [eq_true c1, eq_true c2, eq_true c3, and_true, not_true_eq_false, if_false, if_true] at hQ ⊢
  refine c_bsL C c1 (in_1_99 c2) (f := 0) (k := F) (by omega) Scr.rf ?_
  intro h' q' s
  have hQ := hQ h' s
  by_cases c : what = 0
  · simp only [c, if_true] at hQ
    simp only [k89_0, k89_1, k89_4, k89_5, k89_8, k89_11, k89_12, k89_13, k89_15, k89_18, k89_21, k89_22, k89_23, k89_24, k89_27, k89_30, k89_31, k89_32, k89_34, k89_36, k89_38, k89_40, k89_41, k89_45, k89_46, k89_49, k89_52, k89_55, k89_56, k89_57, k89_59, k89_60, k89_63, k89_64, k89_66, k89_69, k89_71, k89_73, k89_75, k89_78, k89_80, k89_82, k89_84, k89_86, k89_89, k89_92, k89_93, k89_96, k89_98, k89_101, k89_103, mm_sI, mm_sJ, mm_sR, mm_cI, mm_cJ, mm_I, mm_J, mm_R, mm_K, mm_N, psh_s, psh_n, z_n, z_i, z_r, z_l, Nat.reduceAdd, Nat.reduceLeDiff, c, if_true]
    exact hQ
  · simp only [c, if_false] at hQ
    simp only [k89_0, k89_1, k89_4, k89_5, k89_8, k89_11, k89_12, k89_13, k89_15, k89_18, k89_21, k89_22, k89_23, k89_24, k89_27, k89_30, k89_31, k89_32, k89_34, k89_36, k89_38, k89_40, k89_41, k89_45, k89_46, k89_49, k89_52, k89_55, k89_56, k89_57, k89_59, k89_60, k89_63, k89_64, k89_66, k89_69, k89_71, k89_73, k89_75, k89_78, k89_80, k89_82, k89_84, k89_86, k89_89, k89_92, k89_93, k89_96, k89_98, k89_101, k89_103, mm_sI, mm_sJ, mm_sR, mm_cI, mm_cJ, mm_I, mm_J, mm_R, mm_K, mm_N, psh_s, psh_n, z_n, z_i, z_r, z_l, Nat.reduceAdd, Nat.reduceLeDiff, c, if_false]
    exact hQ
theorem c_hbL {f : Nat} (hf : f < F) : ∀ {k i N : Nat} {bt : BB} {h : Hp}, N ≤ 40 → i + k = N → TT G F l W b bt h0 h r E → (∀ h', Scr h0 h' → Q (some (vi (itOne W f k bt 5 f))) (mm h' j r E)) →
    WP (d + 5) 97 2 [some (vr 2), some (vi (nI f)), some (vi (nI N)), some (vi (nI i))] [] (mm h j r E) Q := by
  intro k
  induction k with
  | zero =>
    intro i N bt h hN hk T hQ
    have hS := T.C.S
    have hF8 := T.C.F8
    have : i = N := by omega
    subst this
    have hf' : inb (nI f) 8 = True := eq_true (by rw [inb_n (by omega)]; omega)
    rw [k97_2]
    simp only [k97_0, k97_1, k97_3, k97_4, k97_7, k97_8, k97_11, k97_12, k97_13, k97_16, k97_19, k97_19i, k97_20, k97_21, k97_24, k97_27, k97_30, k97_33, k97_34, k97_37, k97_40, k97_41, k97_42, mm_sI, mm_sJ, mm_sR, mm_cI, mm_cJ, mm_I, mm_J, mm_R, mm_K, mm_N, psh_s, psh_n, z_n, z_i, z_r, z_l, Nat.reduceAdd, Nat.reduceLeDiff, K2 hS, R2_0 hS, R2_1 hS, R2_2 hS, R2_6 hS, R2_8 hS, R2_11 hS, R2_12 hS, R2_13 hS, R2_15 hS, R2_16 hS, K3 hS, K11 hS, K19 hS, K27 hS, K32 hS, K37 hS, K98 hS, K99 hS, K100 hS, N37 hS, N98 hS, N99 hS, N100 hS, ne_eq, true_or, or_true, not_false_eq_true, Nat.reduceEqDiff, Nat.reduceLT, Nat.reduceLeDiff, Nat.reduceAdd, Int32.le_refl, if_true, R11_0 hS, R11_1 hS, R11_2 hS, R11_3 hS, R11_4 hS, R11_5 hS, R11_6 hS, K12 hS, K13 hS, K14 hS, K15 hS, K16 hS, K17 hS, K18 hS, N12 hS, N13 hS, N14 hS, N15 hS, N16 hS, N17 hS, N18 hS, hf', ix_n (show f < 2 ^ 31 by omega), t_v5 T hf]
    exact hQ h T.s
  | succ k ih =>
    intro i N bt h hN hk T hQ
    have hS := T.C.S
    have e4 := T.C.rl
    rw [k97_2]
    simp only [k97_0, k97_1, k97_3, k97_4, k97_7, k97_8, k97_11, k97_12, k97_13, k97_16, k97_19, k97_19i, k97_20, k97_21, k97_24, k97_27, k97_30, k97_33, k97_34, k97_37, k97_40, k97_41, k97_42, mm_sI, mm_sJ, mm_sR, mm_cI, mm_cJ, mm_I, mm_J, mm_R, mm_K, mm_N, psh_s, psh_n, z_n, z_i, z_r, z_l, Nat.reduceAdd, Nat.reduceLeDiff, K2 hS, R2_0 hS, R2_1 hS, R2_2 hS, R2_6 hS, R2_8 hS, R2_11 hS, R2_12 hS, R2_13 hS, R2_15 hS, R2_16 hS, K3 hS, K11 hS, K19 hS, K27 hS, K32 hS, K37 hS, K98 hS, K99 hS, K100 hS, N37 hS, N98 hS, N99 hS, N100 hS, ne_eq, true_or, or_true, not_false_eq_true, Nat.reduceEqDiff, Nat.reduceLT, Nat.reduceLeDiff, Nat.reduceAdd, nLe (show N < 2 ^ 31 by omega) (show i < 2 ^ 31 by omega), show ¬ N ≤ i by omega, if_false, e4, mk0 T.C.H11]
    refine t_passOf T hf ?_
    intro h' T'
    simp only [k97_0, k97_1, k97_3, k97_4, k97_7, k97_8, k97_11, k97_12, k97_13, k97_16, k97_19, k97_19i, k97_20, k97_21, k97_24, k97_27, k97_30, k97_33, k97_34, k97_37, k97_40, k97_41, k97_42, mm_sI, mm_sJ, mm_sR, mm_cI, mm_cJ, mm_I, mm_J, mm_R, mm_K, mm_N, psh_s, psh_n, z_n, z_i, z_r, z_l, Nat.reduceAdd, Nat.reduceLeDiff, K2 hS, R2_0 hS, R2_1 hS, R2_2 hS, R2_6 hS, R2_8 hS, R2_11 hS, R2_12 hS, R2_13 hS, R2_15 hS, R2_16 hS, K3 hS, K11 hS, K19 hS, K27 hS, K32 hS, K37 hS, K98 hS, K99 hS, K100 hS, N37 hS, N98 hS, N99 hS, N100 hS, ne_eq, true_or, or_true, not_false_eq_true, Nat.reduceEqDiff, Nat.reduceLT, Nat.reduceLeDiff, Nat.reduceAdd, mk0 T.C.H11]
    refine t_end T' ?_
    intro h'' T''
    simp only [k97_0, k97_1, k97_3, k97_4, k97_7, k97_8, k97_11, k97_12, k97_13, k97_16, k97_19, k97_19i, k97_20, k97_21, k97_24, k97_27, k97_30, k97_33, k97_34, k97_37, k97_40, k97_41, k97_42, mm_sI, mm_sJ, mm_sR, mm_cI, mm_cJ, mm_I, mm_J, mm_R, mm_K, mm_N, psh_s, psh_n, z_n, z_i, z_r, z_l, Nat.reduceAdd, Nat.reduceLeDiff, nS1]
    exact ih hN (by omega) T'' hQ
theorem c_heldBehind {f N : Nat} (hf : f < F) (hN : N ≤ 40) (T : TT G F l W b bt h0 h r E) (hQ : ∀ h', Scr h0 h' → Q (some (vi (itOne W f N bt 5 f))) (mm h' j r E)) :
    WP (d + 5) 97 0 [some (vr 2), some (vi (nI f)), some (vi (nI N)), none] [] (mm h j r E) Q := by
  simp only [k97_0, k97_1, k97_3, k97_4, k97_7, k97_8, k97_11, k97_12, k97_13, k97_16, k97_19, k97_19i, k97_20, k97_21, k97_24, k97_27, k97_30, k97_33, k97_34, k97_37, k97_40, k97_41, k97_42, mm_sI, mm_sJ, mm_sR, mm_cI, mm_cJ, mm_I, mm_J, mm_R, mm_K, mm_N, psh_s, psh_n, z_n, z_i, z_r, z_l, Nat.reduceAdd, Nat.reduceLeDiff, ne_eq, true_or, or_true, not_false_eq_true, Nat.reduceEqDiff, Nat.reduceLT, Nat.reduceLeDiff, Nat.reduceAdd]
  exact c_hbL hf hN (i := 0) (by omega) T hQ
theorem c_lsL {gf nv : Int32} {f n : Nat} (C : CC G F l W b h0 r E) (hp : pairP G F gf) (hf : f < F) (ef : gf % 10 = nI f) (en : nv / 10 = nI n) (hn : n ≤ 40) : ∀ {k x : Nat} {h : Hp}, x + k = 100 → Scr h0 h → (∀ h', Scr h0 h' → Q (some (vi (lsL W b (gf / 10) f n (nv % 10) x k))) (mm h' j r E)) →
    WP (d + 6) 96 23 [some (vr 2), some (vi gf), some (vi nv), some (vi (nI x))] [] (mm h j r E) Q := by
  have hS := C.S
  have t10 : ((10 : Int32) = 0) = False := by simp
  intro k
  induction k with
  | zero =>
    intro x h hk s hQ
    have : x = 100 := by omega
    subst this
    rw [k96_23]
    simp only [k96_0, k96_1, k96_2, k96_5, k96_8, k96_9, k96_10, k96_13, k96_16, k96_19, k96_20, k96_21, k96_22, k96_24, k96_26, k96_29, k96_30, k96_31, k96_33, k96_34, k96_35, k96_37, k96_38, k96_39, k96_42, k96_43, k96_44, k96_46, k96_47, k96_48, k96_50, k96_51, k96_54, k96_56, k96_57, k96_58, k96_60, k96_61, k96_64, k96_65, k96_66, k96_69, k96_72, k96_74, mm_sI, mm_sJ, mm_sR, mm_cI, mm_cJ, mm_I, mm_J, mm_R, mm_K, mm_N, psh_s, psh_n, z_n, z_i, z_r, z_l, Nat.reduceAdd, Nat.reduceLeDiff, ne_eq, true_or, or_true, not_false_eq_true, Nat.reduceEqDiff, Nat.reduceLT, Nat.reduceLeDiff, Nat.reduceAdd, show (99 : Int32) < nI 100 by decide, if_true]
    exact hQ h s
  | succ k ih =>
    intro x h hk s hQ
    have hi : ((99 : Int32) < nI x) = False := by rw [show (99 : Int32) = nI 99 from rfl, nLt (by omega) (by omega)]; apply eq_false; omega
    have hx : inb (nI x) 100 := by rw [inb_n (by omega)]; omega
    rw [k96_23]
    simp only [k96_0, k96_1, k96_2, k96_5, k96_8, k96_9, k96_10, k96_13, k96_16, k96_19, k96_20, k96_21, k96_22, k96_24, k96_26, k96_29, k96_30, k96_31, k96_33, k96_34, k96_35, k96_37, k96_38, k96_39, k96_42, k96_43, k96_44, k96_46, k96_47, k96_48, k96_50, k96_51, k96_54, k96_56, k96_57, k96_58, k96_60, k96_61, k96_64, k96_65, k96_66, k96_69, k96_72, k96_74, mm_sI, mm_sJ, mm_sR, mm_cI, mm_cJ, mm_I, mm_J, mm_R, mm_K, mm_N, psh_s, psh_n, z_n, z_i, z_r, z_l, Nat.reduceAdd, Nat.reduceLeDiff, K2 hS, R2_0 hS, R2_1 hS, R2_2 hS, R2_6 hS, R2_8 hS, R2_11 hS, R2_12 hS, R2_13 hS, R2_15 hS, R2_16 hS, K3 hS, K11 hS, K19 hS, K27 hS, K32 hS, K37 hS, K98 hS, K99 hS, K100 hS, N37 hS, N98 hS, N99 hS, N100 hS, ne_eq, true_or, or_true, not_false_eq_true, Nat.reduceEqDiff, Nat.reduceLT, Nat.reduceLeDiff, Nat.reduceAdd, hi, if_false, t10, ef]
    refine WP.deep (d := d + 2) ?_ (by omega)
    refine c_thinkLoan C s hf hp.2.1 hx ?_
    intro h' T
    simp only [k96_0, k96_1, k96_2, k96_5, k96_8, k96_9, k96_10, k96_13, k96_16, k96_19, k96_20, k96_21, k96_22, k96_24, k96_26, k96_29, k96_30, k96_31, k96_33, k96_34, k96_35, k96_37, k96_38, k96_39, k96_42, k96_43, k96_44, k96_46, k96_47, k96_48, k96_50, k96_51, k96_54, k96_56, k96_57, k96_58, k96_60, k96_61, k96_64, k96_65, k96_66, k96_69, k96_72, k96_74, mm_sI, mm_sJ, mm_sR, mm_cI, mm_cJ, mm_I, mm_J, mm_R, mm_K, mm_N, psh_s, psh_n, z_n, z_i, z_r, z_l, Nat.reduceAdd, Nat.reduceLeDiff, K2 hS, R2_0 hS, R2_1 hS, R2_2 hS, R2_6 hS, R2_8 hS, R2_11 hS, R2_12 hS, R2_13 hS, R2_15 hS, R2_16 hS, K3 hS, K11 hS, K19 hS, K27 hS, K32 hS, K37 hS, K98 hS, K99 hS, K100 hS, N37 hS, N98 hS, N99 hS, N100 hS, ne_eq, true_or, or_true, not_false_eq_true, Nat.reduceEqDiff, Nat.reduceLT, Nat.reduceLeDiff, Nat.reduceAdd, t10, ef, en]
    refine c_heldBehind hf hn T ?_
    intro h'' s2
    simp only [k96_0, k96_1, k96_2, k96_5, k96_8, k96_9, k96_10, k96_13, k96_16, k96_19, k96_20, k96_21, k96_22, k96_24, k96_26, k96_29, k96_30, k96_31, k96_33, k96_34, k96_35, k96_37, k96_38, k96_39, k96_42, k96_43, k96_44, k96_46, k96_47, k96_48, k96_50, k96_51, k96_54, k96_56, k96_57, k96_58, k96_60, k96_61, k96_64, k96_65, k96_66, k96_69, k96_72, k96_74, mm_sI, mm_sJ, mm_sR, mm_cI, mm_cJ, mm_I, mm_J, mm_R, mm_K, mm_N, psh_s, psh_n, z_n, z_i, z_r, z_l, Nat.reduceAdd, Nat.reduceLeDiff, K2 hS, R2_0 hS, R2_1 hS, R2_2 hS, R2_6 hS, R2_8 hS, R2_11 hS, R2_12 hS, R2_13 hS, R2_15 hS, R2_16 hS, K3 hS, K11 hS, K19 hS, K27 hS, K32 hS, K37 hS, K98 hS, K99 hS, K100 hS, N37 hS, N98 hS, N99 hS, N100 hS, ne_eq, true_or, or_true, not_false_eq_true, Nat.reduceEqDiff, Nat.reduceLT, Nat.reduceLeDiff, Nat.reduceAdd, t10, nS1]
    unfold lsL at hQ
    by_cases c : nv % 10 ≤ itOne W f n (lendB b f (gf / 10) (nI x)) 5 f / 10
    · simp only [c, if_true, Int32.not_lt.2 c, if_false] at hQ ⊢
      exact hQ h'' s2
    · simp only [c, if_false, Int32.not_le.1 c, if_true] at hQ ⊢
      exact ih (by omega) s2 hQ
theorem inb_div {x : Int32} {n : Nat} (h : inb x n) (hn : n < 2 ^ 31) : x / 10 = nI (ix x / 10) := by
  obtain ⟨k, hk, rfl, hk2⟩ := inb_of h
  rw [ix_n hk2]
  exact nDiv (show k < 2 ^ 31 by omega) (show 10 < 2 ^ 31 by decide)
theorem c_least {gf nv : Int32} (C : CC G F l W b h r E) (hQ : ∀ h', Scr h h' → Q (some (vi (leastA G F W b gf nv))) (mm h' j r E)) :
    WP (d + 6) 96 0 [some (vr 2), some (vi gf), some (vi nv), none] [] (mm h j r E) Q := by
  have hS := C.S
  have h4 : b2i (0 ≤ nv ∧ nv ≤ 209) = b2i (inb nv 210) := in_lit rfl (by decide)
  have hr := hQ h Scr.rf
  unfold leastA at hQ hr
  simp only [k96_0, k96_1, k96_2, k96_5, k96_8, k96_9, k96_10, k96_13, k96_16, k96_19, k96_20, k96_21, k96_22, k96_24, k96_26, k96_29, k96_30, k96_31, k96_33, k96_34, k96_35, k96_37, k96_38, k96_39, k96_42, k96_43, k96_44, k96_46, k96_47, k96_48, k96_50, k96_51, k96_54, k96_56, k96_57, k96_58, k96_60, k96_61, k96_64, k96_65, k96_66, k96_69, k96_72, k96_74, mm_sI, mm_sJ, mm_sR, mm_cI, mm_cJ, mm_I, mm_J, mm_R, mm_K, mm_N, psh_s, psh_n, z_n, z_i, z_r, z_l, Nat.reduceAdd, Nat.reduceLeDiff, K2 hS, R2_0 hS, R2_1 hS, R2_2 hS, R2_6 hS, R2_8 hS, R2_11 hS, R2_12 hS, R2_13 hS, R2_15 hS, R2_16 hS, K3 hS, K11 hS, K19 hS, K27 hS, K32 hS, K37 hS, K98 hS, K99 hS, K100 hS, N37 hS, N98 hS, N99 hS, N100 hS, ne_eq, true_or, or_true, not_false_eq_true, Nat.reduceEqDiff, Nat.reduceLT, Nat.reduceLeDiff, Nat.reduceAdd, s_within, c_isPair C, h4, b2i_0]
  by_cases c1 : pairP G F gf
  case neg => simp only [eq_false c1, not_false_eq_true, if_true, false_and, if_false] at hr ⊢; exact hr
  by_cases c2 : inb nv 210
  case neg => simp only [eq_false c2, not_false_eq_true, if_true, false_and, and_false, if_false, eq_true c1, not_true_eq_false] at hr ⊢; exact hr
  simp only [eq_true c1, eq_true c2, and_true, not_true_eq_false, if_false, if_true] at hQ ⊢
  obtain ⟨f, hf, ef, hf2⟩ := inb_of c1.2.2
  have en := inb_div c2 (by decide)
  have hn : ix (nv / 10) = ix nv / 10 := by rw [en, ix_n]; have := c2.2; show ix nv / 10 < 2 ^ 31; have : ix nv < 210 := c2.2; omega
  have hn2 : ix nv / 10 ≤ 40 := by have : ix nv < 210 := c2.2; omega
  rw [hn] at hQ
  simp only [ef, ix_n hf2] at hQ
  exact c_lsL C c1 hf ef en hn2 (x := 1) (k := 99) (by omega) Scr.rf hQ
end KA
