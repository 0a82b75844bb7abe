/-! ===== lines, the whole text ===== -/
abbrev LN : Type := List Tk × List Tk
abbrev LR : Type := Bool × Nat × LN
abbrev TR : Type := Bool × Nat × List LN
def lnQ (T : Nat → Int32) (n : Nat) (E0 : Nat → PR) (s : PR) : LR :=
  if s.1 = true then (if s.2.1 < n ∧ T s.2.1 = 63 then (if (E0 (s.2.1 + 1)).1 = true then (true, (E0 (s.2.1 + 1)).2.1, s.2.2, (E0 (s.2.1 + 1)).2.2) else (false, (E0 (s.2.1 + 1)).2.1, [], [])) else (true, s.2.1, [], s.2.2)) else (false, s.2.1, [], [])
def lnR (T : Nat → Int32) (n p : Nat) : LR := lnQ T n (prs T n 42 0 0) (prs T n 42 0 0 p)
def nxR (s : TR) (x : LR) : TR := (x.1, x.2.1, if x.1 = true then s.2.2 ++ [x.2.2] else s.2.2)
def lsR (T : Nat → Int32) (n : Nat) : Nat → TR → TR
  | 0, s => s
  | m + 1, s => if s.1 = true ∧ s.2.1 < n ∧ T s.2.1 = 59 then lsR T n m (nxR s (lnR T n (s.2.1 + 1))) else s
def txR (T : Nat → Int32) (n : Nat) : TR := lsR T n 119 (nxR (true, 0, []) (lnR T n 0))
/-- a line as steps; all lines -/
def lnC (k : Nat) (x : LN) : List Tk := if x.1.length = 0 then x.2 ++ [(59, 0)] else x.1 ++ [(63, nI (k + x.1.length + x.2.length + 2))] ++ x.2 ++ [(59, 0)]
def ccF : Nat → List LN → List Tk
  | _, [] => []
  | k, x :: y => lnC k x ++ ccF (k + (lnC k x).length) y
def LnI (n p : Nat) (s : LR) : Prop := p ≤ s.2.1 ∧ (p ≤ n → s.2.1 ≤ n) ∧ (s.1 = true → p + s.2.2.1.length + s.2.2.2.length + (if s.2.2.1.length = 0 then 0 else 1) ≤ s.2.1 ∧ 1 ≤ s.2.2.2.length)
section TX2
variable {d D e : Nat} {M : Mem} {h h0 h1 h2 h3 : Hp} {j : Jp} {r : Rp} {E : EE} {l n p k q o lv K m : Nat} {T : Nat → Int32} {Q : Option PV → Mem → Prop} {x a b : Int32} {s s2 : PR} {c c2 : List Tk} {z : Bool} {fn sub s0 s5 : Nat → PR} {y : LN} {ys : List LN}
theorem lnC_n {x : LN} : (lnC k x).length = x.1.length + x.2.length + (if x.1.length = 0 then 1 else 2) := by
  unfold lnC; split
  · rw [List.length_append, List.length_singleton]; omega
  · rw [List.length_append, List.length_append, List.length_append, List.length_singleton, List.length_singleton]; omega
theorem ccF_app : ∀ {ys : List LN} {k : Nat}, ccF k (ys ++ [y]) = ccF k ys ++ lnC (k + (ccF k ys).length) y := by
  intro ys
  induction ys with
  | nil => intro k; show lnC k y ++ [] = _; rw [List.append_nil]; rfl
  | cons x ys ih =>
    intro k
    show lnC k x ++ ccF (k + (lnC k x).length) (ys ++ [y]) = (lnC k x ++ ccF (k + (lnC k x).length) ys) ++ lnC (k + (lnC k x ++ ccF (k + (lnC k x).length) ys).length) y
    rw [ih, List.append_assoc, List.length_append, Nat.add_assoc]
theorem lnR_i : LnI n p (lnR T n p) := by
  unfold lnR lnQ
  obtain ⟨a1, a2, a3, a4⟩ := @prs_i T n 42 0 0 p
  generalize prs T n 42 0 0 p = s at *
  by_cases h1 : s.1 = true
  · rw [if_pos h1]
    by_cases h2 : s.2.1 < n ∧ T s.2.1 = 63
    · rw [if_pos h2]
      obtain ⟨b1, b2, b3, b4⟩ := @prs_i T n 42 0 0 (s.2.1 + 1)
      generalize prs T n 42 0 0 (s.2.1 + 1) = s2 at *
      have a4 := a4 h1
      by_cases h3 : s2.1 = true
      · rw [if_pos h3]
        refine ⟨by show p ≤ s2.2.1; omega, fun _ => b3 (by omega), fun _ => ⟨?_, b4 h3⟩⟩
        show p + s.2.2.length + s2.2.2.length + (if s.2.2.length = 0 then 0 else 1) ≤ s2.2.1
        rw [if_neg (by omega)]; omega
      · rw [if_neg h3]
        exact ⟨by show p ≤ s2.2.1; omega, fun _ => b3 (by omega), fun hh => absurd hh Bool.false_ne_true⟩
    · rw [if_neg h2]
      refine ⟨a1, a3, fun _ => ⟨?_, a4 h1⟩⟩
      show p + 0 + s.2.2.length + (if 0 = 0 then 0 else 1) ≤ s.2.1
      rw [if_pos rfl]; omega
  · rw [if_neg h1]
    exact ⟨a1, a3, fun hh => absurd hh Bool.false_ne_true⟩
theorem j_all (he : 52 ≤ e) (X : XC l n T h r E) (hp : h l 8 = nI p) (hk : h l 4 = nI k) (hpn : p ≤ n) (hkp : k ≤ p) (hQ : ∀ h', PP l k (prs T n 42 0 0 p) h h' → Q (some (vi (b2i ((prs T n 42 0 0 p).1 = true)))) (mm h' j r E)) :
    WP e 11 0 [some (vr l), some (vi 0), some (vi 0), none, none, none, none] [] (mm h j r E) Q :=
  (jo_all (m := 6) (o := 0) (f := 42) rfl).2 (i := 5) (lv := 0) rfl (by decide) e p k h j r E Q he X hp hk hpn hkp hQ
theorem c_line (he : 52 ≤ e) (X : XC l n T h r E) (hp : h l 8 = nI p) (hk : h l 4 = nI k) (hpn : p ≤ n) (hkp : k ≤ p)
    (hQ : ∀ h', PF l k h h' → h' l 8 = nI (lnR T n p).2.1 → ((lnR T n p).1 = true → h' l 4 = nI (k + (lnC k (lnR T n p).2.2).length) ∧ hc h' l k (lnC k (lnR T n p).2.2)) → Q (some (vi (b2i ((lnR T n p).1 = true)))) (mm h' j r E)) :
    WP (e + 1) 10 0 [some (vr l), none, none] [] (mm h j r E) Q := by
  have hS := X.S
  have HL := X.HL
  have n1 := X.n1
  have el : lnR T n p = lnQ T n (prs T n 42 0 0) (prs T n 42 0 0 p) := rfl
  rw [el] at hQ
  simp only [k10_0, k10_1, k10_2, k10_3, k10_6, k10_7, k10_8, k10_11, k10_12, k10_14, k10_17, k10_20, k10_21, k10_24, k10_25, k10_26, k10_28, k10_29, k10_32, k10_35, k10_36, k10_37, k10_38, k10_41, k10_44, k10_45, k10_47, k10_48, k10_51, k10_54, k10_55, k10_58, k10_59, k10_60, k10_61, k10_64, k10_65, k10_68, k10_69, k10_70, k10_73, k10_74, k10_75, k10_76, k10_77, k10_80, k10_81, k10_83, k10_84, k10_87, k10_90, k10_91, k10_94, k10_95, mm_sI, mm_sJ, mm_sR, mm_cI, mm_cJ, mm_I, mm_J, mm_R, mm_K, mm_N, psh_s, psh_n, z_n, z_i, z_r, z_l, Nat.reduceAdd, Nat.reduceLeDiff, false_or, or_false, ne_eq, true_or, or_true, not_false_eq_true, Nat.reduceEqDiff, Nat.reduceLT, Nat.reduceLeDiff, Nat.reduceAdd, lk0 HL]
  refine j_all he X hp hk hpn hkp ?_
  intro h1 P
  obtain ⟨a1, a2, a3, a4⟩ := @prs_i T n 42 0 0 p
  generalize prs T n 42 0 0 p = s at *
  have a3 := a3 hpn
  have X1 := X.fr P.1
  by_cases c1 : s.1 = true
  case neg =>
    have e1 : lnQ T n (prs T n 42 0 0) s = (false, s.2.1, [], []) := by unfold lnQ; rw [if_neg c1]
    rw [e1] at hQ
    simp only [k10_0, k10_1, k10_2, k10_3, k10_6, k10_7, k10_8, k10_11, k10_12, k10_14, k10_17, k10_20, k10_21, k10_24, k10_25, k10_26, k10_28, k10_29, k10_32, k10_35, k10_36, k10_37, k10_38, k10_41, k10_44, k10_45, k10_47, k10_48, k10_51, k10_54, k10_55, k10_58, k10_59, k10_60, k10_61, k10_64, k10_65, k10_68, k10_69, k10_70, k10_73, k10_74, k10_75, k10_76, k10_77, k10_80, k10_81, k10_83, k10_84, k10_87, k10_90, k10_91, k10_94, k10_95, mm_sI, mm_sJ, mm_sR, mm_cI, mm_cJ, mm_I, mm_J, mm_R, mm_K, mm_N, psh_s, psh_n, z_n, z_i, z_r, z_l, Nat.reduceAdd, Nat.reduceLeDiff, false_or, or_false, ne_eq, true_or, or_true, not_false_eq_true, Nat.reduceEqDiff, Nat.reduceLT, Nat.reduceLeDiff, Nat.reduceAdd, b2i_f c1, if_true]
    exact hQ _ P.1 P.2.1 (fun hh => absurd hh Bool.false_ne_true)
  by_cases c2 : s.2.1 < n ∧ T s.2.1 = 63
  case neg =>
    have e1 : lnQ T n (prs T n 42 0 0) s = (true, s.2.1, [], s.2.2) := by unfold lnQ; rw [if_pos c1, if_neg c2]
    rw [e1] at hQ
    simp only [k10_0, k10_1, k10_2, k10_3, k10_6, k10_7, k10_8, k10_11, k10_12, k10_14, k10_17, k10_20, k10_21, k10_24, k10_25, k10_26, k10_28, k10_29, k10_32, k10_35, k10_36, k10_37, k10_38, k10_41, k10_44, k10_45, k10_47, k10_48, k10_51, k10_54, k10_55, k10_58, k10_59, k10_60, k10_61, k10_64, k10_65, k10_68, k10_69, k10_70, k10_73, k10_74, k10_75, k10_76, k10_77, k10_80, k10_81, k10_83, k10_84, k10_87, k10_90, k10_91, k10_94, k10_95, mm_sI, mm_sJ, mm_sR, mm_cI, mm_cJ, mm_I, mm_J, mm_R, mm_K, mm_N, psh_s, psh_n, z_n, z_i, z_r, z_l, Nat.reduceAdd, Nat.reduceLeDiff, false_or, or_false, ne_eq, true_or, or_true, not_false_eq_true, Nat.reduceEqDiff, Nat.reduceLT, Nat.reduceLeDiff, Nat.reduceAdd, b2i_t c1, e10, if_false, if_true, lk0 HL, s_takes X1 P.2.1 a3, if_neg c2, s_add X1 P.2.2.1 (show k + s.2.2.length ≤ 120 by omega)]
    have Pa : PP l k (true, s.2.1, s.2.2 ++ [(59, 0)]) h (adH l (k + s.2.2.length) 59 0 h1) := P.ad
    exact hQ _ Pa.1 Pa.2.1 (fun _ => ⟨Pa.2.2.1, Pa.2.2.2⟩)
  have Xq := X1.fr (k := 0) (PF.pl (h := h1) (v := nI (s.2.1 + 1)))
  have Pq : PP l k (true, s.2.1 + 1, s.2.2) h (up2 h1 l 8 (nI (s.2.1 + 1))) := P.pl
  have a4 := a4 c1
  simp only [k10_0, k10_1, k10_2, k10_3, k10_6, k10_7, k10_8, k10_11, k10_12, k10_14, k10_17, k10_20, k10_21, k10_24, k10_25, k10_26, k10_28, k10_29, k10_32, k10_35, k10_36, k10_37, k10_38, k10_41, k10_44, k10_45, k10_47, k10_48, k10_51, k10_54, k10_55, k10_58, k10_59, k10_60, k10_61, k10_64, k10_65, k10_68, k10_69, k10_70, k10_73, k10_74, k10_75, k10_76, k10_77, k10_80, k10_81, k10_83, k10_84, k10_87, k10_90, k10_91, k10_94, k10_95, mm_sI, mm_sJ, mm_sR, mm_cI, mm_cJ, mm_I, mm_J, mm_R, mm_K, mm_N, psh_s, psh_n, z_n, z_i, z_r, z_l, Nat.reduceAdd, Nat.reduceLeDiff, false_or, or_false, ne_eq, true_or, or_true, not_false_eq_true, Nat.reduceEqDiff, Nat.reduceLT, Nat.reduceLeDiff, Nat.reduceAdd, b2i_t c1, e10, if_false, if_true, lk0 HL, s_takes X1 P.2.1 a3, if_pos c2, Pq.2.2.1, s_add Xq Pq.2.2.1 (show k + s.2.2.length ≤ 120 by omega)]
  have Pa : PP l k (true, s.2.1 + 1, s.2.2 ++ [(63, 0)]) h (adH l (k + s.2.2.length) 63 0 (up2 h1 l 8 (nI (s.2.1 + 1)))) := Pq.ad
  have ln : (s.2.2 ++ [((63 : Int32), (0 : Int32))]).length = s.2.2.length + 1 := by rw [List.length_append, List.length_singleton]
  have Xa := X.fr Pa.1
  refine j_all he Xa Pa.2.1 (k := k + s.2.2.length + 1) (by have := Pa.2.2.1; rw [show ((true, s.2.1 + 1, s.2.2 ++ [((63 : Int32), (0 : Int32))]) : PR).2.2.length = s.2.2.length + 1 from ln, ← Nat.add_assoc] at this; exact this) (by show s.2.1 + 1 ≤ n; omega) (by show _ ≤ s.2.1 + 1; omega) ?_
  intro h2 P2
  have P2 : PP l (k + (s.2.2 ++ [((63 : Int32), (0 : Int32))]).length) (prs T n 42 0 0 (s.2.1 + 1)) (adH l (k + s.2.2.length) 63 0 (up2 h1 l 8 (nI (s.2.1 + 1)))) h2 := by rw [ln, ← Nat.add_assoc]; exact P2
  obtain ⟨b1, b2, b3, b4⟩ := @prs_i T n 42 0 0 (s.2.1 + 1)
  have e2 : lnQ T n (prs T n 42 0 0) s = if (prs T n 42 0 0 (s.2.1 + 1)).1 = true then (true, (prs T n 42 0 0 (s.2.1 + 1)).2.1, s.2.2, (prs T n 42 0 0 (s.2.1 + 1)).2.2) else (false, (prs T n 42 0 0 (s.2.1 + 1)).2.1, [], []) := by unfold lnQ; rw [if_pos c1, if_pos c2]
  rw [e2] at hQ
  show WP _ _ _ _ _ _ _
  generalize prs T n 42 0 0 (s.2.1 + 1) = s2 at *
  have b3 := b3 (by omega)
  have Pc : PP l k (true, s2.2.1, s.2.2 ++ [(63, 0)] ++ s2.2.2) h h2 := PP.cat Pa P2
  by_cases c3 : s2.1 = true
  case neg =>
    rw [if_neg c3] at hQ
    simp only [k10_0, k10_1, k10_2, k10_3, k10_6, k10_7, k10_8, k10_11, k10_12, k10_14, k10_17, k10_20, k10_21, k10_24, k10_25, k10_26, k10_28, k10_29, k10_32, k10_35, k10_36, k10_37, k10_38, k10_41, k10_44, k10_45, k10_47, k10_48, k10_51, k10_54, k10_55, k10_58, k10_59, k10_60, k10_61, k10_64, k10_65, k10_68, k10_69, k10_70, k10_73, k10_74, k10_75, k10_76, k10_77, k10_80, k10_81, k10_83, k10_84, k10_87, k10_90, k10_91, k10_94, k10_95, mm_sI, mm_sJ, mm_sR, mm_cI, mm_cJ, mm_I, mm_J, mm_R, mm_K, mm_N, psh_s, psh_n, z_n, z_i, z_r, z_l, Nat.reduceAdd, Nat.reduceLeDiff, false_or, or_false, ne_eq, true_or, or_true, not_false_eq_true, Nat.reduceEqDiff, Nat.reduceLT, Nat.reduceLeDiff, Nat.reduceAdd, b2i_f c3, if_true]
    exact hQ _ Pc.1 Pc.2.1 (fun hh => absurd hh Bool.false_ne_true)
  rw [if_pos c3] at hQ
  have b4 := b4 c3
  have lnn2 : (s.2.2 ++ [((63 : Int32), (0 : Int32))] ++ s2.2.2).length = s.2.2.length + 1 + s2.2.2.length := by rw [List.length_append, ln]
  have hk2 : h2 l 4 = nI (k + s.2.2.length + 1 + s2.2.2.length) := by have := Pc.2.2.1; rw [show ((true, s2.2.1, s.2.2 ++ [((63 : Int32), (0 : Int32))] ++ s2.2.2) : PR).2.2.length = s.2.2.length + 1 + s2.2.2.length from lnn2] at this; rw [this]; congr 1; omega
  have X2 := X.fr Pc.1
  have Pd : PP l k (true, s2.2.1, s.2.2 ++ [(63, 0)] ++ s2.2.2 ++ [(59, 0)]) h (adH l (k + s.2.2.length + 1 + s2.2.2.length) 59 0 h2) := by
    have := Pc.ad (z := true) (a := 59) (b := 0)
    rw [show k + ((true, s2.2.1, s.2.2 ++ [((63 : Int32), (0 : Int32))] ++ s2.2.2) : PR).2.2.length = k + s.2.2.length + 1 + s2.2.2.length by rw [show ((true, s2.2.1, s.2.2 ++ [((63 : Int32), (0 : Int32))] ++ s2.2.2) : PR).2.2.length = s.2.2.length + 1 + s2.2.2.length from lnn2]; omega] at this
    exact this
  have hb : inb (nI (k + s.2.2.length)) 121 = True := eq_true (by rw [inb_n (by omega)]; omega)
  have ad4 : adH l (k + s.2.2.length + 1 + s2.2.2.length) 59 0 h2 l 4 = nI (k + s.2.2.length + 1 + s2.2.2.length + 1) := by unfold adH; exact up2_s
  simp only [k10_0, k10_1, k10_2, k10_3, k10_6, k10_7, k10_8, k10_11, k10_12, k10_14, k10_17, k10_20, k10_21, k10_24, k10_25, k10_26, k10_28, k10_29, k10_32, k10_35, k10_36, k10_37, k10_38, k10_41, k10_44, k10_45, k10_47, k10_48, k10_51, k10_54, k10_55, k10_58, k10_59, k10_60, k10_61, k10_64, k10_65, k10_68, k10_69, k10_70, k10_73, k10_74, k10_75, k10_76, k10_77, k10_80, k10_81, k10_83, k10_84, k10_87, k10_90, k10_91, k10_94, k10_95, mm_sI, mm_sJ, mm_sR, mm_cI, mm_cJ, mm_I, mm_J, mm_R, mm_K, mm_N, psh_s, psh_n, z_n, z_i, z_r, z_l, Nat.reduceAdd, Nat.reduceLeDiff, false_or, or_false, ne_eq, true_or, or_true, not_false_eq_true, Nat.reduceEqDiff, Nat.reduceLT, Nat.reduceLeDiff, Nat.reduceAdd, lk0 HL, lr0 HL, lr1 HL, lr2 HL, lr3 HL, lk1 HL, lk2 HL, lk3 HL, lk4 HL, ln1 HL, ln2 HL, ln3 HL, ln4 HL, lne HL, lne0 HL, b2i_t c3, e10, if_false, if_true, s_add X2 hk2 (show k + s.2.2.length + 1 + s2.2.2.length ≤ 120 by omega), hb, ix_n (show k + s.2.2.length < 2 ^ 31 by omega), ad4]
  generalize adH l (k + s.2.2.length + 1 + s2.2.2.length) 59 0 h2 = h4 at *
  have el : lnC k (s.2.2, s2.2.2) = s.2.2 ++ [(63, nI (k + s.2.2.length + s2.2.2.length + 2))] ++ s2.2.2 ++ [(59, 0)] := by unfold lnC; rw [if_neg (by show ¬ s.2.2.length = 0; omega)]
  refine hQ _ ?_ ?_ (fun _ => ⟨?_, ?_⟩)
  · refine ⟨fun a q1 q2 q3 => by rw [up2_a q3]; exact Pd.1.1 a q1 q2 q3, fun i q1 q2 => by rw [up2_a (by omega)]; exact Pd.1.2.1 i q1 q2, fun i hi => ?_⟩
    rw [up2_a (by omega), up2_i (by omega)]; exact Pd.1.2.2 i hi
  · rw [up2_a (by omega)]; exact Pd.2.1
  · rw [up2_a (by omega), ad4, lnC_n]
    show _ = nI (k + (s.2.2.length + s2.2.2.length + if s.2.2.length = 0 then 1 else 2))
    rw [if_neg (by omega)]; congr 1; omega
  · show hc _ l k (lnC k (s.2.2, s2.2.2))
    rw [el]
    have hd := Pd.2.2.2
    have hd : hc h4 l k (s.2.2 ++ [(63, 0)] ++ s2.2.2 ++ [(59, 0)]) := hd
    rw [List.append_assoc, List.append_assoc, hc_app] at hd
    rw [List.append_assoc, List.append_assoc, hc_app]
    obtain ⟨g1, g2, g3, g4⟩ := hd
    refine ⟨hc_fr g1 ?_, ?_, ?_, hc_fr g4 ?_⟩
    · intro i _ hi; rw [up2_a (by omega), up2_i (by omega)]; exact ⟨rfl, rfl⟩
    · rw [up2_a (by omega)]; exact g2
    · rw [up2_s]; show nI _ = nI _; congr 1; omega
    · intro i hi _; rw [up2_a (by omega), up2_i (by omega)]; exact ⟨rfl, rfl⟩
/-- how far the class has read -/
def RS (l : Nat) (h h1 : Hp) (s : TR) : Prop := PF l 0 h h1 ∧ h1 l 8 = nI s.2.1 ∧ (s.1 = true → h1 l 4 = nI (ccF 0 s.2.2).length ∧ hc h1 l 0 (ccF 0 s.2.2) ∧ (ccF 0 s.2.2).length ≤ s.2.1 + 1)
def goodR (T : Nat → Int32) (n : Nat) : Prop := (txR T n).1 = true ∧ (txR T n).2.1 = n
theorem rs_nx {s : TR} (R : RS l h h1 s) (hs : s.1 = true) (hq : (ccF 0 s.2.2).length ≤ q) (f : PF l (ccF 0 s.2.2).length h1 h2) (h8 : h2 l 8 = nI (lnR T n q).2.1) (hk : (lnR T n q).1 = true → h2 l 4 = nI ((ccF 0 s.2.2).length + (lnC (ccF 0 s.2.2).length (lnR T n q).2.2).length) ∧ hc h2 l (ccF 0 s.2.2).length (lnC (ccF 0 s.2.2).length (lnR T n q).2.2)) : RS l h h2 (nxR s (lnR T n q)) := by
  refine ⟨R.1.tr (f.lo (by omega)), h8, fun hh => ?_⟩
  have hh : (lnR T n q).1 = true := hh
  obtain ⟨k1, k2⟩ := hk hh
  obtain ⟨r1, r2, r3⟩ := R.2.2 hs
  obtain ⟨b1, b2, b3⟩ := @lnR_i n q T
  obtain ⟨b3, b4⟩ := b3 hh
  unfold nxR
  show h2 l 4 = nI (ccF 0 (if (lnR T n q).1 = true then s.2.2 ++ [(lnR T n q).2.2] else s.2.2)).length ∧ hc h2 l 0 (ccF 0 (if (lnR T n q).1 = true then s.2.2 ++ [(lnR T n q).2.2] else s.2.2)) ∧ (ccF 0 (if (lnR T n q).1 = true then s.2.2 ++ [(lnR T n q).2.2] else s.2.2)).length ≤ (lnR T n q).2.1 + 1
  rw [if_pos hh, ccF_app, Nat.zero_add, List.length_append]
  refine ⟨k1, hc_app.2 ⟨hc_fr r2 (fun i _ hi => f.2.2 i (by omega)), by rw [Nat.zero_add]; exact k2⟩, ?_⟩
  rw [lnC_n]
  split at b3 <;> split <;> omega
theorem c_rdL (he : 52 ≤ e) (X : XC l n T h r E) {l1 l2 : Option PV} : ∀ {m i : Nat} {s : TR} {h1 : Hp} {bz i0 : Int32}, i + m = 120 → bz = b2i (s.1 = true) → i0 = nI i → RS l h h1 s → s.2.1 ≤ n →
    (∀ h', RS l h h' (lsR T n m s) → (lsR T n m s).2.1 ≤ n → Q (some (vi (if (lsR T n m s).1 = true ∧ (lsR T n m s).2.1 = n then -1 else nI (lsR T n m s).2.1))) (mm h' j r E)) →
    WP (e + 2) 9 33 [some (vr l), l1, l2, some (vi bz), some (vi i0)] [] (mm h1 j r E) Q := by
  intro m
  have hS := X.S
  have HL := X.HL
  have n1 := X.n1
  have fin : ∀ {s : TR} {h1 : Hp} {bz i0 : Int32}, bz = b2i (s.1 = true) → RS l h h1 s → s.2.1 ≤ n → (∀ h', RS l h h' s → s.2.1 ≤ n → Q (some (vi (if s.1 = true ∧ s.2.1 = n then -1 else nI s.2.1))) (mm h' j r E)) → WP (e + 2) 9 64 [some (vr l), l1, l2, some (vi bz), some (vi i0)] [] (mm h1 j r E) Q := by
    intro s h1 bz i0 hb R hsn hQ
    have := hQ h1 R hsn
    have X1 := X.fr R.1
    by_cases hs : s.1 = true
    · have hb : bz = 1 := by rw [hb, b2i_t hs]
      subst hb
      by_cases c : s.2.1 = n
      · rw [if_pos ⟨hs, c⟩] at this
        have c1 : (nI s.2.1 = nI n) = True := by rw [c]; exact eq_self _
        simp only [k9_0, k9_1, k9_2, k9_5, k9_6, k9_7, k9_8, k9_9, k9_12, k9_15, k9_16, k9_17, k9_20, k9_21, k9_22, k9_25, k9_26, k9_29, k9_30, k9_31, k9_35, k9_37, k9_40, k9_41, k9_44, k9_45, k9_47, k9_50, k9_53, k9_54, k9_57, k9_58, k9_61, k9_64, k9_65, k9_68, k9_69, k9_72, k9_73, k9_76, k9_79, k9_80, k9_83, k9_84, k9_87, mm_sI, mm_sJ, mm_sR, mm_cI, mm_cJ, mm_I, mm_J, mm_R, mm_K, mm_N, psh_s, psh_n, z_n, z_i, z_r, z_l, Nat.reduceAdd, Nat.reduceLeDiff, false_or, or_false, ne_eq, true_or, or_true, not_false_eq_true, Nat.reduceEqDiff, Nat.reduceLT, Nat.reduceLeDiff, Nat.reduceAdd, e10, if_false, if_true, lk0 HL, R.2.1, X1.ln, c1]; exact this
      · rw [if_neg (fun hh => c hh.2)] at this
        have c1 : (nI s.2.1 = nI n) = False := by rw [nEq (by omega) (by omega)]; exact eq_false c
        simp only [k9_0, k9_1, k9_2, k9_5, k9_6, k9_7, k9_8, k9_9, k9_12, k9_15, k9_16, k9_17, k9_20, k9_21, k9_22, k9_25, k9_26, k9_29, k9_30, k9_31, k9_35, k9_37, k9_40, k9_41, k9_44, k9_45, k9_47, k9_50, k9_53, k9_54, k9_57, k9_58, k9_61, k9_64, k9_65, k9_68, k9_69, k9_72, k9_73, k9_76, k9_79, k9_80, k9_83, k9_84, k9_87, mm_sI, mm_sJ, mm_sR, mm_cI, mm_cJ, mm_I, mm_J, mm_R, mm_K, mm_N, psh_s, psh_n, z_n, z_i, z_r, z_l, Nat.reduceAdd, Nat.reduceLeDiff, false_or, or_false, ne_eq, true_or, or_true, not_false_eq_true, Nat.reduceEqDiff, Nat.reduceLT, Nat.reduceLeDiff, Nat.reduceAdd, e10, if_false, if_true, lk0 HL, R.2.1, X1.ln, c1]; exact this
    · have hb : bz = 0 := by rw [hb, b2i_f hs]
      subst hb
      rw [if_neg (fun hh => hs hh.1)] at this
      simp only [k9_0, k9_1, k9_2, k9_5, k9_6, k9_7, k9_8, k9_9, k9_12, k9_15, k9_16, k9_17, k9_20, k9_21, k9_22, k9_25, k9_26, k9_29, k9_30, k9_31, k9_35, k9_37, k9_40, k9_41, k9_44, k9_45, k9_47, k9_50, k9_53, k9_54, k9_57, k9_58, k9_61, k9_64, k9_65, k9_68, k9_69, k9_72, k9_73, k9_76, k9_79, k9_80, k9_83, k9_84, k9_87, mm_sI, mm_sJ, mm_sR, mm_cI, mm_cJ, mm_I, mm_J, mm_R, mm_K, mm_N, psh_s, psh_n, z_n, z_i, z_r, z_l, Nat.reduceAdd, Nat.reduceLeDiff, false_or, or_false, ne_eq, true_or, or_true, not_false_eq_true, Nat.reduceEqDiff, Nat.reduceLT, Nat.reduceLeDiff, Nat.reduceAdd, if_true, lk0 HL, R.2.1]; exact this
  induction m with
  | zero =>
    intro i s h1 bz i0 hi hb hi0 R hsn hQ
    subst hi0
    have c0 : ((120 : Int32) ≤ nI i) = True := by rw [show (120 : Int32) = nI 120 from rfl, nLe (by omega) (by omega)]; exact eq_true (by omega)
    rw [k9_33]
    simp only [k9_0, k9_1, k9_2, k9_5, k9_6, k9_7, k9_8, k9_9, k9_12, k9_15, k9_16, k9_17, k9_20, k9_21, k9_22, k9_25, k9_26, k9_29, k9_30, k9_31, k9_35, k9_37, k9_40, k9_41, k9_44, k9_45, k9_47, k9_50, k9_53, k9_54, k9_57, k9_58, k9_61, k9_65, k9_68, k9_69, k9_72, k9_73, k9_76, k9_79, k9_80, k9_83, k9_84, k9_87, mm_sI, mm_sJ, mm_sR, mm_cI, mm_cJ, mm_I, mm_J, mm_R, mm_K, mm_N, psh_s, psh_n, z_n, z_i, z_r, z_l, Nat.reduceAdd, Nat.reduceLeDiff, false_or, or_false, ne_eq, true_or, or_true, not_false_eq_true, Nat.reduceEqDiff, Nat.reduceLT, Nat.reduceLeDiff, Nat.reduceAdd, c0, if_true]
    exact fin hb R hsn hQ
  | succ m ih =>
    intro i s h1 bz i0 hi hb hi0 R hsn hQ
    subst hi0
    have X1 := X.fr R.1
    have c0 : ((120 : Int32) ≤ nI i) = False := by rw [show (120 : Int32) = nI 120 from rfl, nLe (by omega) (by omega)]; exact eq_false (by omega)
    rw [lsR] at hQ
    rw [k9_33]
    by_cases hs : s.1 = true
    case neg =>
      rw [if_neg (fun hh => hs hh.1)] at hQ
      have hb0 : (bz = 0) = True := by rw [hb, b2i_f hs]; exact eq_self _
      simp only [k9_0, k9_1, k9_2, k9_5, k9_6, k9_7, k9_8, k9_9, k9_12, k9_15, k9_16, k9_17, k9_20, k9_21, k9_22, k9_25, k9_26, k9_29, k9_30, k9_31, k9_35, k9_37, k9_40, k9_41, k9_44, k9_45, k9_47, k9_50, k9_53, k9_54, k9_57, k9_58, k9_61, k9_65, k9_68, k9_69, k9_72, k9_73, k9_76, k9_79, k9_80, k9_83, k9_84, k9_87, mm_sI, mm_sJ, mm_sR, mm_cI, mm_cJ, mm_I, mm_J, mm_R, mm_K, mm_N, psh_s, psh_n, z_n, z_i, z_r, z_l, Nat.reduceAdd, Nat.reduceLeDiff, false_or, or_false, ne_eq, true_or, or_true, not_false_eq_true, Nat.reduceEqDiff, Nat.reduceLT, Nat.reduceLeDiff, Nat.reduceAdd, c0, if_false, hb0, if_true]
      exact fin hb R hsn hQ
    have hb0 : (bz = 0) = False := by rw [hb, b2i_t hs]; exact e10
    by_cases c : s.2.1 < n ∧ T s.2.1 = 59
    case neg =>
      rw [if_neg (fun hh => c hh.2)] at hQ
      simp only [k9_0, k9_1, k9_2, k9_5, k9_6, k9_7, k9_8, k9_9, k9_12, k9_15, k9_16, k9_17, k9_20, k9_21, k9_22, k9_25, k9_26, k9_29, k9_30, k9_31, k9_35, k9_37, k9_40, k9_41, k9_44, k9_45, k9_47, k9_50, k9_53, k9_54, k9_57, k9_58, k9_61, k9_65, k9_68, k9_69, k9_72, k9_73, k9_76, k9_79, k9_80, k9_83, k9_84, k9_87, mm_sI, mm_sJ, mm_sR, mm_cI, mm_cJ, mm_I, mm_J, mm_R, mm_K, mm_N, psh_s, psh_n, z_n, z_i, z_r, z_l, Nat.reduceAdd, Nat.reduceLeDiff, false_or, or_false, ne_eq, true_or, or_true, not_false_eq_true, Nat.reduceEqDiff, Nat.reduceLT, Nat.reduceLeDiff, Nat.reduceAdd, c0, if_false, hb0, lk0 HL, s_takes X1 R.2.1 hsn, if_neg c, if_true]
      exact fin hb R hsn hQ
    rw [if_pos ⟨hs, c⟩] at hQ
    obtain ⟨r1, r2, r3⟩ := R.2.2 hs
    simp only [k9_0, k9_1, k9_2, k9_5, k9_6, k9_7, k9_8, k9_9, k9_12, k9_15, k9_16, k9_17, k9_20, k9_21, k9_22, k9_25, k9_26, k9_29, k9_30, k9_31, k9_35, k9_37, k9_40, k9_41, k9_44, k9_45, k9_47, k9_50, k9_53, k9_54, k9_57, k9_58, k9_61, k9_65, k9_68, k9_69, k9_72, k9_73, k9_76, k9_79, k9_80, k9_83, k9_84, k9_87, mm_sI, mm_sJ, mm_sR, mm_cI, mm_cJ, mm_I, mm_J, mm_R, mm_K, mm_N, psh_s, psh_n, z_n, z_i, z_r, z_l, Nat.reduceAdd, Nat.reduceLeDiff, false_or, or_false, ne_eq, true_or, or_true, not_false_eq_true, Nat.reduceEqDiff, Nat.reduceLT, Nat.reduceLeDiff, Nat.reduceAdd, c0, if_false, hb0, lk0 HL, s_takes X1 R.2.1 hsn, if_pos c, e10]
    refine c_line he (X1.fr (k := (ccF 0 s.2.2).length) PF.pl) up2_s (k := (ccF 0 s.2.2).length) (by rw [up2_i (by decide)]; exact r1) c.1 (by omega) ?_
    intro h3 f3 h8 hk3
    obtain ⟨b1, b2, b3⟩ := @lnR_i n (s.2.1 + 1) T
    simp only [k9_0, k9_1, k9_2, k9_5, k9_6, k9_7, k9_8, k9_9, k9_12, k9_15, k9_16, k9_17, k9_20, k9_21, k9_22, k9_25, k9_26, k9_29, k9_30, k9_31, k9_35, k9_37, k9_40, k9_41, k9_44, k9_45, k9_47, k9_50, k9_53, k9_54, k9_57, k9_58, k9_61, k9_65, k9_68, k9_69, k9_72, k9_73, k9_76, k9_79, k9_80, k9_83, k9_84, k9_87, mm_sI, mm_sJ, mm_sR, mm_cI, mm_cJ, mm_I, mm_J, mm_R, mm_K, mm_N, psh_s, psh_n, z_n, z_i, z_r, z_l, Nat.reduceAdd, Nat.reduceLeDiff, false_or, or_false, ne_eq, true_or, or_true, not_false_eq_true, Nat.reduceEqDiff, Nat.reduceLT, Nat.reduceLeDiff, Nat.reduceAdd, nS1]
    refine ih (by omega) rfl rfl (rs_nx R hs (by omega) ((PF.pl (k := (ccF 0 s.2.2).length)).tr f3) h8 hk3) (b2 c.1) hQ
theorem c_read (he : 52 ≤ e) (hS : Sh r E) (hl : l = 27 ∨ l = 32) (hn : n ≤ 120) (hT : ∀ i, i < n → h 37 i = T i)
    (hQ : ∀ h', (∀ a, a ≠ l → a ≠ l + 1 → a ≠ l + 2 → h' a = h a) → (∀ i, i ≠ 4 → i ≠ 7 → i ≠ 8 → h' l i = h l i) → (goodR T n → h' l 4 = nI (ccF 0 (txR T n).2.2).length ∧ hc h' l 0 (ccF 0 (txR T n).2.2) ∧ (ccF 0 (txR T n).2.2).length ≤ 121) → (txR T n).2.1 ≤ n →
      Q (some (vi (if (txR T n).1 = true ∧ (txR T n).2.1 = n then -1 else nI (txR T n).2.1))) (mm h' j (up2 r l 6 37) E)) :
    WP (e + 2) 9 0 [some (vr l), some (vr 37), some (vi (nI n)), none, none] [] (mm h j r E) Q := by
  have HL := lw_of hS hl
  have hS1 : Sh (up2 r l 6 37) E := by
    refine hS.rr (by rw [up2_a (by omega)]) (fun t ht => ?_)
    have q : ∀ t ∈ RfL, t.2.1 ≠ 6 ∨ (t.1 ≠ 27 ∧ t.1 ≠ 32) := by decide +kernel
    rcases q t ht with h | h
    · rw [up2]; split
      · rename_i hh; first | rfl | rw [if_neg h]
      · rfl
    · rw [up2_a (by omega)]
  have HL1 := lw_of hS1 hl
  have c1 : (if Int32.ofNat 120 < nI n then Int32.ofNat 120 else nI n) = nI n := by
    exact if_neg (by rw [show Int32.ofNat 120 = nI 120 from rfl, nLt (by omega) (by omega)]; omega)
  have X : XC l n T (up2 (up2 (up2 h l 7 (nI n)) l 8 0) l 4 0) (up2 r l 6 37) E := by
    refine ⟨hS1, hl, up2_s, hn, ?_, fun i hi => ?_⟩
    · rw [up2_i (by decide), up2_i (by decide), up2_s]
    · rw [up2_a (by omega), up2_a (by omega), up2_a (by omega)]; exact hT i hi
  have k37 : 13 ≤ E.1 37 ∧ E.1 37 ≤ 17 := by rw [K37 hS]; decide
  simp only [k9_0, k9_1, k9_2, k9_5, k9_6, k9_7, k9_8, k9_9, k9_12, k9_15, k9_16, k9_17, k9_20, k9_21, k9_22, k9_25, k9_26, k9_29, k9_30, k9_31, k9_35, k9_37, k9_40, k9_41, k9_44, k9_45, k9_47, k9_50, k9_53, k9_54, k9_57, k9_58, k9_61, k9_64, k9_65, k9_68, k9_69, k9_72, k9_73, k9_76, k9_79, k9_80, k9_83, k9_84, k9_87, mm_sI, mm_sJ, mm_sR, mm_cI, mm_cJ, mm_I, mm_J, mm_R, mm_K, mm_N, psh_s, psh_n, z_n, z_i, z_r, z_l, Nat.reduceAdd, Nat.reduceLeDiff, false_or, or_false, ne_eq, true_or, or_true, not_false_eq_true, Nat.reduceEqDiff, Nat.reduceLT, Nat.reduceLeDiff, Nat.reduceAdd, lk0 HL, lr0 HL, lr1 HL, lr2 HL, lr3 HL, lk1 HL, lk2 HL, lk3 HL, lk4 HL, ln1 HL, ln2 HL, ln3 HL, ln4 HL, lne HL, lne0 HL, K37 hS, N37 hS, Nat.reduceLeDiff, and_self, c1, e10]
  refine c_line he X (p := 0) (k := 0) ?_ ?_ (by omega) (by omega) ?_
  · rw [up2_i (by decide), up2_s]; rfl
  · rw [up2_s]; rfl
  intro h1 f1 h8 hk
  simp only [k9_0, k9_1, k9_2, k9_5, k9_6, k9_7, k9_8, k9_9, k9_12, k9_15, k9_16, k9_17, k9_20, k9_21, k9_22, k9_25, k9_26, k9_29, k9_30, k9_31, k9_35, k9_37, k9_40, k9_41, k9_44, k9_45, k9_47, k9_50, k9_53, k9_54, k9_57, k9_58, k9_61, k9_64, k9_65, k9_68, k9_69, k9_72, k9_73, k9_76, k9_79, k9_80, k9_83, k9_84, k9_87, mm_sI, mm_sJ, mm_sR, mm_cI, mm_cJ, mm_I, mm_J, mm_R, mm_K, mm_N, psh_s, psh_n, z_n, z_i, z_r, z_l, Nat.reduceAdd, Nat.reduceLeDiff, false_or, or_false, ne_eq, true_or, or_true, not_false_eq_true, Nat.reduceEqDiff, Nat.reduceLT, Nat.reduceLeDiff, Nat.reduceAdd]
  obtain ⟨b1, b2, b3⟩ := @lnR_i n 0 T
  have R0 : RS l (up2 (up2 (up2 h l 7 (nI n)) l 8 0) l 4 0) (up2 (up2 (up2 h l 7 (nI n)) l 8 0) l 4 0) (true, 0, []) := ⟨PF.rf, by rw [up2_i (by decide), up2_s]; rfl, fun _ => ⟨by rw [up2_s]; rfl, trivial, Nat.zero_le _⟩⟩
  have R1 := rs_nx (T := T) (n := n) (q := 0) R0 rfl (Nat.zero_le _) f1 h8 (by rw [show (ccF 0 ((true, 0, []) : TR).2.2).length = 0 from rfl]; exact hk)
  refine c_rdL he X (m := 119) (i := 1) rfl rfl rfl R1 (b2 (Nat.zero_le _)) ?_
  intro h2 R2 hs2
  refine hQ h2 ?_ ?_ ?_ hs2
  · intro a q1 q2 q3; rw [R2.1.1 a q1 q2 q3, up2_a q1, up2_a q1, up2_a q1]
  · intro i q1 q2 q3; rw [R2.1.2.1 i q1 q3, up2_i q1, up2_i q3, up2_i q2]
  · intro g
    obtain ⟨r1, r2, r3⟩ := R2.2.2 g.1
    have hs2 : (txR T n).2.1 ≤ n := hs2
    exact ⟨r1, r2, Nat.le_trans r3 (by show (txR T n).2.1 + 1 ≤ 121; omega)⟩
end TX2
