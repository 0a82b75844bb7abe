/-! ===== the model reads lines, the whole text ===== -/
def mLn (h : Hp) (A S Z C : Nat) : Nat → Nat → List LN → Prop
  | _, _, [] => True
  | i, k, y :: ys => h A i = nI k ∧ h S i = nI (k + y.1.length) ∧ h Z i = nI (k + y.1.length + y.2.length) ∧ mc h C k (y.1 ++ y.2) ∧ mLn h A S Z C (i + 1) (k + y.1.length + y.2.length) ys
def szF : List LN → Nat
  | [] => 0
  | y :: ys => y.1.length + y.2.length + szF ys
def LF (i k : Nat) (h h1 : Hp) : Prop := (∀ a, a ≠ 113 → ¬ (121 ≤ a ∧ a ≤ 124) → h1 a = h a) ∧ (∀ m, ¬ (12 ≤ m ∧ m ≤ 15) → h1 113 m = h 113 m) ∧ (∀ m, m < i → h1 121 m = h 121 m ∧ h1 122 m = h 122 m ∧ h1 123 m = h 123 m) ∧ ∀ m, m < k → h1 124 m = h 124 m
def MS (h h1 : Hp) (s : TR) : Prop := LF 0 0 h h1 ∧ h1 113 12 = nI s.2.1 ∧ h1 113 13 = nI 0 ∧ (s.1 = true → h1 113 14 = nI (szF s.2.2) ∧ h1 113 15 = nI s.2.2.length ∧ mLn h1 121 122 123 124 0 0 s.2.2 ∧ szF s.2.2 + s.2.2.length ≤ s.2.1 + 1 ∧ s.2.2.length ≤ szF s.2.2)
section LM
variable {d D e : Nat} {M : Mem} {h h0 h1 h2 h3 : Hp} {j : Jp} {r : Rp} {E : EE} {n p k q o o2 lv K i m A S Z C A' S' Z' C' : Nat} {T : Nat → Int32} {Q : Option PV → Mem → Prop} {x a b v : Int32} {s s2 : PR} {t : Tk} {c c2 : List Tk} {z : Bool} {y : LN} {ys : List LN}
theorem mLn_app : ∀ {ys : List LN} {i k : Nat}, mLn h A S Z C i k (ys ++ [y]) ↔ mLn h A S Z C i k ys ∧ mLn h A S Z C (i + ys.length) (k + szF ys) [y] := by
  intro ys
  induction ys with
  | nil => intro i k; exact ⟨fun h => ⟨trivial, h⟩, fun h => h.2⟩
  | cons w ys ih =>
    intro i k
    have e1 : i + (w :: ys).length = i + 1 + ys.length := by rw [List.length_cons]; omega
    have e2 : k + szF (w :: ys) = k + w.1.length + w.2.length + szF ys := by rw [szF]; omega
    rw [e1, e2]
    constructor
    · intro ⟨a1, a2, a3, a4, a5⟩
      have := ih.1 a5
      exact ⟨⟨a1, a2, a3, a4, this.1⟩, this.2⟩
    · intro ⟨⟨a1, a2, a3, a4, a5⟩, a6⟩
      exact ⟨a1, a2, a3, a4, ih.2 ⟨a5, a6⟩⟩
theorem szF_app : ∀ {ys : List LN}, szF (ys ++ [y]) = szF ys + y.1.length + y.2.length := by
  intro ys
  induction ys with
  | nil => show y.1.length + y.2.length + 0 = 0 + y.1.length + y.2.length; omega
  | cons w ys ih => rw [List.cons_append, szF, szF, ih]; omega
theorem mLn_fr : ∀ {ys : List LN} {i k : Nat}, mLn h A S Z C i k ys → (∀ m, i ≤ m → m < i + ys.length → h1 A' m = h A m ∧ h1 S' m = h S m ∧ h1 Z' m = h Z m) → (∀ m, k ≤ m → m < k + szF ys → h1 C' m = h C m) → mLn h1 A' S' Z' C' i k ys := by
  intro ys
  induction ys with
  | nil => intro i k _ _ _; trivial
  | cons w ys ih =>
    intro i k ⟨a1, a2, a3, a4, a5⟩ e1 e2
    rw [List.length_cons] at e1
    rw [szF] at e2
    obtain ⟨b1, b2, b3⟩ := e1 i (by omega) (by omega)
    refine ⟨b1.trans a1, b2.trans a2, b3.trans a3, mc_fr a4 (fun m h1 h2 => e2 m h1 (by rw [List.length_append] at h2; omega)), ih a5 (fun m h1 h2 => e1 m (by omega) (by omega)) (fun m h1 h2 => e2 m (by omega) (by omega))⟩
theorem up2_kk {α : Type} {f : Nat → Nat → α} {w : Nat} {v : α} {c m i : Nat} (hm : m ≠ i) : up2 f w i v c m = f c m := by simp [up2, hm]
theorem LF.rf : LF i k h h := ⟨fun _ _ _ => rfl, fun _ _ => rfl, fun _ _ => ⟨rfl, rfl, rfl⟩, fun _ _ => rfl⟩
theorem LF.tr (a : LF i k h h1) (b : LF i k h1 h2) : LF i k h h2 := ⟨fun x p q => (b.1 x p q).trans (a.1 x p q), fun i p => (b.2.1 i p).trans (a.2.1 i p), fun i p => ⟨(b.2.2.1 i p).1.trans (a.2.2.1 i p).1, (b.2.2.1 i p).2.1.trans (a.2.2.1 i p).2.1, (b.2.2.1 i p).2.2.trans (a.2.2.1 i p).2.2⟩, fun i p => (b.2.2.2 i p).trans (a.2.2.2 i p)⟩
theorem LF.lo (a : LF i k h h1) (hi : m ≤ i) (hk : q ≤ k) : LF m q h h1 := ⟨a.1, a.2.1, fun x p => a.2.2.1 x (by omega), fun x p => a.2.2.2 x (by omega)⟩
theorem LF.mf (a : MG k h h1) (hk : q ≤ k) : LF i q h h1 := ⟨fun x p s => a.1 x p (by omega), fun m p => a.2.1 m (by omega) (by omega) (by omega), fun m _ => by rw [a.1 121 (by decide) (by decide), a.1 122 (by decide) (by decide), a.1 123 (by decide) (by decide)]; exact ⟨rfl, rfl, rfl⟩, fun m p => a.2.2 m (by omega)⟩
theorem LF.r3 {w : Nat} (hw : w = 121 ∨ w = 122 ∨ w = 123) : LF i k h (up2 h w i v) := by
  refine ⟨fun x p s => up2_a (by omega), fun m _ => by rw [up2_a (by omega)], fun m hm => ⟨?_, ?_, ?_⟩, fun m _ => by rw [up2_a (by omega)]⟩
  · rw [up2_kk (by omega)]
  · rw [up2_kk (by omega)]
  · rw [up2_kk (by omega)]
theorem LF.f (hm : 12 ≤ m ∧ m ≤ 15) : LF i k h (up2 h 113 m v) := ⟨fun x p s => up2_a p, fun w p => up2_i (by omega), fun w _ => by rw [up2_a (by decide), up2_a (by decide), up2_a (by decide)]; exact ⟨rfl, rfl, rfl⟩, fun w _ => by rw [up2_a (by decide)]⟩
theorem XM.lf (X : XM n T h r E) (f : LF i k h h1) : XM n T h1 r E := ⟨X.1, X.2.1, by rw [f.2.1 4 (by decide)]; exact X.ln, fun w hw => by rw [f.1 116 (by decide) (by decide)]; exact X.tt hw⟩
theorem m_line (he : 45 ≤ e) (X : XM n T h r E) (hp : h 113 12 = nI p) (ho : h 113 13 = nI 0) (hk : h 113 14 = nI k) (hi : h 113 15 = nI i) (hpn : p ≤ n) (hkp : k ≤ p) (hi60 : i ≤ 60)
    (hQ : ∀ h', LF i k h h' → h' 113 12 = nI (lnR T n p).2.1 → h' 113 13 = nI 0 → ((lnR T n p).1 = true → h' 113 14 = nI (k + (lnR T n p).2.2.1.length + (lnR T n p).2.2.2.length) ∧ h' 113 15 = nI (i + 1) ∧ mLn h' 121 122 123 124 i k [(lnR T n p).2.2]) → Q (some (vi (b2i ((lnR T n p).1 = true)))) (mm h' j r E)) :
    WP (e + 1) 176 0 [some (vr 113)] [] (mm h j r E) Q := by
  obtain ⟨e', rfl⟩ : ∃ e', e = e' + 1 := ⟨e - 1, by omega⟩
  have hS := X.S
  have n1 := X.n1
  have el : lnR T n p = lnQ T n (prs T n 42 0 0) (prs T n 42 0 0 p) := rfl
  rw [el] at hQ
  have hb : inb (nI i) 61 = True := eq_true (by rw [inb_n (by omega)]; omega)
  have hxi : ix (nI i) = i := ix_n (by omega)
  have n63 : (63 : Int32) ≠ -1 := by decide
  simp only [k176_0, k176_1, k176_4, k176_5, k176_8, k176_9, k176_12, k176_13, k176_14, k176_17, k176_20, k176_21, k176_22, k176_23, k176_26, k176_27, k176_30, k176_31, k176_34, k176_35, k176_38, k176_39, k176_40, k176_41, k176_43, k176_46, k176_49, k176_50, k176_53, k176_54, k176_57, k176_58, k176_61, k176_62, k176_63, k176_66, k176_69, k176_70, k176_71, k176_72, k176_75, k176_76, k176_76i, k176_77, k176_80, k176_81, k176_82, k176_83, k176_86, k176_87, k176_90, k176_91, k176_92, mm_sI, mm_sJ, mm_sR, mm_cI, mm_cJ, mm_I, mm_J, mm_R, mm_K, mm_N, psh_s, psh_n, z_n, z_i, z_r, z_l, Nat.reduceAdd, Nat.reduceLeDiff, K113 hS, R113_2 hS, R113_3 hS, R113_5 hS, R113_8 hS, R113_9 hS, R113_10 hS, R113_11 hS, R113_16 hS, R113_17 hS, R113_18 hS, R113_19 hS, R113_20 hS, R113_21 hS, R113_22 hS, R113_26 hS, R113_27 hS, R113_30 hS, R113_32 hS, R113_34 hS, R113_35 hS, R113_36 hS, R113_37 hS, R113_40 hS, R113_41 hS, R113_42 hS, R113_43 hS, R113_44 hS, R113_45 hS, R113_47 hS, K114 hS, K115 hS, K116 hS, K117 hS, K118 hS, K119 hS, K120 hS, K121 hS, K122 hS, K123 hS, K124 hS, K125 hS, K126 hS, K127 hS, K128 hS, K129 hS, K130 hS, K131 hS, K132 hS, K133 hS, K134 hS, K135 hS, K136 hS, K137 hS, K138 hS, K139 hS, K140 hS, K141 hS, K142 hS, N114 hS, N115 hS, N116 hS, N117 hS, N118 hS, N119 hS, N120 hS, N121 hS, N122 hS, N123 hS, N124 hS, N125 hS, N126 hS, N127 hS, N128 hS, N129 hS, N130 hS, N131 hS, N132 hS, N133 hS, N134 hS, N135 hS, N136 hS, N137 hS, N138 hS, N139 hS, N140 hS, N141 hS, N142 hS, false_or, or_false, ne_eq, true_or, or_true, not_false_eq_true, Nat.reduceEqDiff, Nat.reduceLT, Nat.reduceLeDiff, Nat.reduceAdd, hi, hk, hb, hxi]
  have F1 : LF i k h (up2 h 121 i (nI k)) := LF.r3 (Or.inl rfl)
  refine me_all he (X.lf F1) (by rw [up2_a (by decide)]; exact hp) (by rw [up2_a (by decide)]; exact ho) (k := k) (by rw [up2_a (by decide)]; exact hk) hpn hkp ?_
  intro h1 P
  obtain ⟨a1, a2, a3, a4⟩ := @prs_i T n 42 0 0 p
  generalize prs T n 42 0 0 p = s at *
  have a3 := a3 hpn
  have F2 : LF i k h h1 := F1.tr (LF.mf P.1 (Nat.le_refl _))
  have X1 := X.lf F2
  have i1 : h1 113 15 = nI i := by rw [P.1.2.1 15 (by decide) (by decide) (by decide), up2_a (by decide)]; exact hi
  have k1 : h1 121 i = nI k := by rw [P.1.1 121 (by decide) (by decide)]; exact up2_s
  by_cases c1 : s.1 = true
  case neg =>
    have e1 : lnQ T n (prs T n 42 0 0) s = (false, s.2.1, [], []) := by unfold lnQ; rw [if_neg c1]
    rw [e1] at hQ
    simp only [k176_0, k176_1, k176_4, k176_5, k176_8, k176_9, k176_12, k176_13, k176_14, k176_17, k176_20, k176_21, k176_22, k176_23, k176_26, k176_27, k176_30, k176_31, k176_34, k176_35, k176_38, k176_39, k176_40, k176_41, k176_43, k176_46, k176_49, k176_50, k176_53, k176_54, k176_57, k176_58, k176_61, k176_62, k176_63, k176_66, k176_69, k176_70, k176_71, k176_72, k176_75, k176_76, k176_76i, k176_77, k176_80, k176_81, k176_82, k176_83, k176_86, k176_87, k176_90, k176_91, k176_92, mm_sI, mm_sJ, mm_sR, mm_cI, mm_cJ, mm_I, mm_J, mm_R, mm_K, mm_N, psh_s, psh_n, z_n, z_i, z_r, z_l, Nat.reduceAdd, Nat.reduceLeDiff, K113 hS, R113_2 hS, R113_3 hS, R113_5 hS, R113_8 hS, R113_9 hS, R113_10 hS, R113_11 hS, R113_16 hS, R113_17 hS, R113_18 hS, R113_19 hS, R113_20 hS, R113_21 hS, R113_22 hS, R113_26 hS, R113_27 hS, R113_30 hS, R113_32 hS, R113_34 hS, R113_35 hS, R113_36 hS, R113_37 hS, R113_40 hS, R113_41 hS, R113_42 hS, R113_43 hS, R113_44 hS, R113_45 hS, R113_47 hS, K114 hS, K115 hS, K116 hS, K117 hS, K118 hS, K119 hS, K120 hS, K121 hS, K122 hS, K123 hS, K124 hS, K125 hS, K126 hS, K127 hS, K128 hS, K129 hS, K130 hS, K131 hS, K132 hS, K133 hS, K134 hS, K135 hS, K136 hS, K137 hS, K138 hS, K139 hS, K140 hS, K141 hS, K142 hS, N114 hS, N115 hS, N116 hS, N117 hS, N118 hS, N119 hS, N120 hS, N121 hS, N122 hS, N123 hS, N124 hS, N125 hS, N126 hS, N127 hS, N128 hS, N129 hS, N130 hS, N131 hS, N132 hS, N133 hS, N134 hS, N135 hS, N136 hS, N137 hS, N138 hS, N139 hS, N140 hS, N141 hS, N142 hS, false_or, or_false, ne_eq, true_or, or_true, not_false_eq_true, Nat.reduceEqDiff, Nat.reduceLT, Nat.reduceLeDiff, Nat.reduceAdd, b2i_f c1, if_true]
    exact hQ _ F2 P.2.1 P.2.2.1 (fun hh => absurd hh Bool.false_ne_true)
  have a4 := a4 c1
  have F3 : LF i k h (up2 h1 122 i (nI k)) := F2.tr (LF.r3 (Or.inr (Or.inl rfl)))
  have X3 := X.lf F3
  have p3 : up2 h1 122 i (nI k) 113 12 = nI s.2.1 := by rw [up2_a (by decide)]; exact P.2.1
  have i3 : up2 h1 122 i (nI k) 113 15 = nI i := by rw [up2_a (by decide)]; exact i1
  by_cases c2 : s.2.1 < n ∧ T s.2.1 = 63
  case neg =>
    have e1 : lnQ T n (prs T n 42 0 0) s = (true, s.2.1, [], s.2.2) := by unfold lnQ; rw [if_pos c1, if_neg c2]
    rw [e1] at hQ
    have k3 : up2 h1 122 i (nI k) 113 14 = nI (k + s.2.2.length) := by rw [up2_a (by decide)]; exact P.2.2.2.1
    have k4 : ∀ v, up2 (up2 h1 122 i (nI k)) 113 15 v 113 14 = nI (k + s.2.2.length) := fun v => by rw [up2_i (by decide)]; exact k3
    simp only [k176_0, k176_1, k176_4, k176_5, k176_8, k176_9, k176_12, k176_13, k176_14, k176_17, k176_20, k176_21, k176_22, k176_23, k176_26, k176_27, k176_30, k176_31, k176_34, k176_35, k176_38, k176_39, k176_40, k176_41, k176_43, k176_46, k176_49, k176_50, k176_53, k176_54, k176_57, k176_58, k176_61, k176_62, k176_63, k176_66, k176_69, k176_70, k176_71, k176_72, k176_75, k176_76, k176_76i, k176_77, k176_80, k176_81, k176_82, k176_83, k176_86, k176_87, k176_90, k176_91, k176_92, mm_sI, mm_sJ, mm_sR, mm_cI, mm_cJ, mm_I, mm_J, mm_R, mm_K, mm_N, psh_s, psh_n, z_n, z_i, z_r, z_l, Nat.reduceAdd, Nat.reduceLeDiff, K113 hS, R113_2 hS, R113_3 hS, R113_5 hS, R113_8 hS, R113_9 hS, R113_10 hS, R113_11 hS, R113_16 hS, R113_17 hS, R113_18 hS, R113_19 hS, R113_20 hS, R113_21 hS, R113_22 hS, R113_26 hS, R113_27 hS, R113_30 hS, R113_32 hS, R113_34 hS, R113_35 hS, R113_36 hS, R113_37 hS, R113_40 hS, R113_41 hS, R113_42 hS, R113_43 hS, R113_44 hS, R113_45 hS, R113_47 hS, K114 hS, K115 hS, K116 hS, K117 hS, K118 hS, K119 hS, K120 hS, K121 hS, K122 hS, K123 hS, K124 hS, K125 hS, K126 hS, K127 hS, K128 hS, K129 hS, K130 hS, K131 hS, K132 hS, K133 hS, K134 hS, K135 hS, K136 hS, K137 hS, K138 hS, K139 hS, K140 hS, K141 hS, K142 hS, N114 hS, N115 hS, N116 hS, N117 hS, N118 hS, N119 hS, N120 hS, N121 hS, N122 hS, N123 hS, N124 hS, N125 hS, N126 hS, N127 hS, N128 hS, N129 hS, N130 hS, N131 hS, N132 hS, N133 hS, N134 hS, N135 hS, N136 hS, N137 hS, N138 hS, N139 hS, N140 hS, N141 hS, N142 hS, false_or, or_false, ne_eq, true_or, or_true, not_false_eq_true, Nat.reduceEqDiff, Nat.reduceLT, Nat.reduceLeDiff, Nat.reduceAdd, b2i_t c1, e10, if_false, if_true, i1, hb, hxi, k1, m_is X3 p3 a3 n63, if_neg c2, i3, k4, nS1]
    refine hQ _ (F3.tr ((LF.f (m := 15) (by decide)).tr (LF.r3 (Or.inr (Or.inr rfl))))) ?_ ?_ (fun _ => ⟨?_, ?_, ?_, ?_, ?_, ?_, trivial⟩)
    · rw [up2_a (by decide), up2_i (by decide)]; exact p3
    · rw [up2_a (by decide), up2_i (by decide), up2_a (by decide)]; exact P.2.2.1
    · rw [up2_a (by decide)]; exact k4 _
    · rw [up2_a (by decide), up2_s]
    · rw [up2_a (by decide), up2_a (by decide), up2_a (by decide)]; exact k1
    · rw [up2_a (by decide), up2_a (by decide), up2_s]; rfl
    · rw [up2_s]; rfl
    · exact mc_fr P.2.2.2.2 (fun m _ _ => by rw [up2_a (by decide), up2_a (by decide), up2_a (by decide)])
  have e2 : lnQ T n (prs T n 42 0 0) s = if (prs T n 42 0 0 (s.2.1 + 1)).1 = true then (true, (prs T n 42 0 0 (s.2.1 + 1)).2.1, s.2.2, (prs T n 42 0 0 (s.2.1 + 1)).2.2) else (false, (prs T n 42 0 0 (s.2.1 + 1)).2.1, [], []) := by unfold lnQ; rw [if_pos c1, if_pos c2]
  rw [e2] at hQ
  have i4 : up2 (up2 h1 122 i (nI k)) 113 12 (nI (s.2.1 + 1)) 113 15 = nI i := by rw [up2_i (by decide)]; exact i3
  have k4 : up2 (up2 h1 122 i (nI k)) 113 12 (nI (s.2.1 + 1)) 113 14 = nI (k + s.2.2.length) := by rw [up2_i (by decide), up2_a (by decide)]; exact P.2.2.2.1
  simp only [k176_0, k176_1, k176_4, k176_5, k176_8, k176_9, k176_12, k176_13, k176_14, k176_17, k176_20, k176_21, k176_22, k176_23, k176_26, k176_27, k176_30, k176_31, k176_34, k176_35, k176_38, k176_39, k176_40, k176_41, k176_43, k176_46, k176_49, k176_50, k176_53, k176_54, k176_57, k176_58, k176_61, k176_62, k176_63, k176_66, k176_69, k176_70, k176_71, k176_72, k176_75, k176_76, k176_76i, k176_77, k176_80, k176_81, k176_82, k176_83, k176_86, k176_87, k176_90, k176_91, k176_92, mm_sI, mm_sJ, mm_sR, mm_cI, mm_cJ, mm_I, mm_J, mm_R, mm_K, mm_N, psh_s, psh_n, z_n, z_i, z_r, z_l, Nat.reduceAdd, Nat.reduceLeDiff, K113 hS, R113_2 hS, R113_3 hS, R113_5 hS, R113_8 hS, R113_9 hS, R113_10 hS, R113_11 hS, R113_16 hS, R113_17 hS, R113_18 hS, R113_19 hS, R113_20 hS, R113_21 hS, R113_22 hS, R113_26 hS, R113_27 hS, R113_30 hS, R113_32 hS, R113_34 hS, R113_35 hS, R113_36 hS, R113_37 hS, R113_40 hS, R113_41 hS, R113_42 hS, R113_43 hS, R113_44 hS, R113_45 hS, R113_47 hS, K114 hS, K115 hS, K116 hS, K117 hS, K118 hS, K119 hS, K120 hS, K121 hS, K122 hS, K123 hS, K124 hS, K125 hS, K126 hS, K127 hS, K128 hS, K129 hS, K130 hS, K131 hS, K132 hS, K133 hS, K134 hS, K135 hS, K136 hS, K137 hS, K138 hS, K139 hS, K140 hS, K141 hS, K142 hS, N114 hS, N115 hS, N116 hS, N117 hS, N118 hS, N119 hS, N120 hS, N121 hS, N122 hS, N123 hS, N124 hS, N125 hS, N126 hS, N127 hS, N128 hS, N129 hS, N130 hS, N131 hS, N132 hS, N133 hS, N134 hS, N135 hS, N136 hS, N137 hS, N138 hS, N139 hS, N140 hS, N141 hS, N142 hS, false_or, or_false, ne_eq, true_or, or_true, not_false_eq_true, Nat.reduceEqDiff, Nat.reduceLT, Nat.reduceLeDiff, Nat.reduceAdd, b2i_t c1, e10, if_false, i1, hb, hxi, k1, m_is X3 p3 a3 n63, if_pos c2, i4, k4]
  have F5 : LF i k h (up2 (up2 (up2 h1 122 i (nI k)) 113 12 (nI (s.2.1 + 1))) 122 i (nI (k + s.2.2.length))) := F3.tr ((LF.f (m := 12) (by decide)).tr (LF.r3 (Or.inr (Or.inl rfl))))
  have o5 : up2 (up2 (up2 h1 122 i (nI k)) 113 12 (nI (s.2.1 + 1))) 122 i (nI (k + s.2.2.length)) 113 13 = nI 0 := by rw [up2_a (by decide), up2_i (by decide), up2_a (by decide)]; exact P.2.2.1
  have m5 : mc (up2 (up2 (up2 h1 122 i (nI k)) 113 12 (nI (s.2.1 + 1))) 122 i (nI (k + s.2.2.length))) 124 k s.2.2 := mc_fr P.2.2.2.2 (fun m _ _ => by rw [up2_a (by decide), up2_a (by decide), up2_a (by decide)])
  have k5 : up2 (up2 (up2 h1 122 i (nI k)) 113 12 (nI (s.2.1 + 1))) 122 i (nI (k + s.2.2.length)) 121 i = nI k := by rw [up2_a (by decide), up2_a (by decide), up2_a (by decide)]; exact k1
  refine me_all he (X.lf F5) (by rw [up2_a (by decide), up2_s]) o5 (k := k + s.2.2.length) (by rw [up2_a (by decide)]; exact k4) (by omega) (by omega) ?_
  intro h2 P2
  have s5 : up2 (up2 (up2 h1 122 i (nI k)) 113 12 (nI (s.2.1 + 1))) 122 i (nI (k + s.2.2.length)) 122 i = nI (k + s.2.2.length) := up2_s
  have i5 : up2 (up2 (up2 h1 122 i (nI k)) 113 12 (nI (s.2.1 + 1))) 122 i (nI (k + s.2.2.length)) 113 15 = nI i := by rw [up2_a (by decide)]; exact i4
  obtain ⟨b1, b2, b3, b4⟩ := @prs_i T n 42 0 0 (s.2.1 + 1)
  generalize up2 (up2 (up2 h1 122 i (nI k)) 113 12 (nI (s.2.1 + 1))) 122 i (nI (k + s.2.2.length)) = h5 at *
  generalize prs T n 42 0 0 (s.2.1 + 1) = s2 at *
  have b3 := b3 (by omega)
  have F6 : LF i k h h2 := F5.tr (LF.mf P2.1 (by omega))
  have i6 : h2 113 15 = nI i := by rw [P2.1.2.1 15 (by decide) (by decide) (by decide)]; exact i5
  by_cases c3 : s2.1 = true
  case neg =>
    rw [if_neg c3] at hQ
    simp only [k176_0, k176_1, k176_4, k176_5, k176_8, k176_9, k176_12, k176_13, k176_14, k176_17, k176_20, k176_21, k176_22, k176_23, k176_26, k176_27, k176_30, k176_31, k176_34, k176_35, k176_38, k176_39, k176_40, k176_41, k176_43, k176_46, k176_49, k176_50, k176_53, k176_54, k176_57, k176_58, k176_61, k176_62, k176_63, k176_66, k176_69, k176_70, k176_71, k176_72, k176_75, k176_76, k176_76i, k176_77, k176_80, k176_81, k176_82, k176_83, k176_86, k176_87, k176_90, k176_91, k176_92, mm_sI, mm_sJ, mm_sR, mm_cI, mm_cJ, mm_I, mm_J, mm_R, mm_K, mm_N, psh_s, psh_n, z_n, z_i, z_r, z_l, Nat.reduceAdd, Nat.reduceLeDiff, K113 hS, R113_2 hS, R113_3 hS, R113_5 hS, R113_8 hS, R113_9 hS, R113_10 hS, R113_11 hS, R113_16 hS, R113_17 hS, R113_18 hS, R113_19 hS, R113_20 hS, R113_21 hS, R113_22 hS, R113_26 hS, R113_27 hS, R113_30 hS, R113_32 hS, R113_34 hS, R113_35 hS, R113_36 hS, R113_37 hS, R113_40 hS, R113_41 hS, R113_42 hS, R113_43 hS, R113_44 hS, R113_45 hS, R113_47 hS, K114 hS, K115 hS, K116 hS, K117 hS, K118 hS, K119 hS, K120 hS, K121 hS, K122 hS, K123 hS, K124 hS, K125 hS, K126 hS, K127 hS, K128 hS, K129 hS, K130 hS, K131 hS, K132 hS, K133 hS, K134 hS, K135 hS, K136 hS, K137 hS, K138 hS, K139 hS, K140 hS, K141 hS, K142 hS, N114 hS, N115 hS, N116 hS, N117 hS, N118 hS, N119 hS, N120 hS, N121 hS, N122 hS, N123 hS, N124 hS, N125 hS, N126 hS, N127 hS, N128 hS, N129 hS, N130 hS, N131 hS, N132 hS, N133 hS, N134 hS, N135 hS, N136 hS, N137 hS, N138 hS, N139 hS, N140 hS, N141 hS, N142 hS, false_or, or_false, ne_eq, true_or, or_true, not_false_eq_true, Nat.reduceEqDiff, Nat.reduceLT, Nat.reduceLeDiff, Nat.reduceAdd, b2i_f c3, if_true]
    exact hQ _ F6 P2.2.1 P2.2.2.1 (fun hh => absurd hh Bool.false_ne_true)
  rw [if_pos c3] at hQ
  have k6 : ∀ v, up2 h2 113 15 v 113 14 = nI (k + s.2.2.length + s2.2.2.length) := fun v => by rw [up2_i (by decide)]; exact P2.2.2.2.1
  simp only [k176_0, k176_1, k176_4, k176_5, k176_8, k176_9, k176_12, k176_13, k176_14, k176_17, k176_20, k176_21, k176_22, k176_23, k176_26, k176_27, k176_30, k176_31, k176_34, k176_35, k176_38, k176_39, k176_40, k176_41, k176_43, k176_46, k176_49, k176_50, k176_53, k176_54, k176_57, k176_58, k176_61, k176_62, k176_63, k176_66, k176_69, k176_70, k176_71, k176_72, k176_75, k176_76, k176_76i, k176_77, k176_80, k176_81, k176_82, k176_83, k176_86, k176_87, k176_90, k176_91, k176_92, mm_sI, mm_sJ, mm_sR, mm_cI, mm_cJ, mm_I, mm_J, mm_R, mm_K, mm_N, psh_s, psh_n, z_n, z_i, z_r, z_l, Nat.reduceAdd, Nat.reduceLeDiff, K113 hS, R113_2 hS, R113_3 hS, R113_5 hS, R113_8 hS, R113_9 hS, R113_10 hS, R113_11 hS, R113_16 hS, R113_17 hS, R113_18 hS, R113_19 hS, R113_20 hS, R113_21 hS, R113_22 hS, R113_26 hS, R113_27 hS, R113_30 hS, R113_32 hS, R113_34 hS, R113_35 hS, R113_36 hS, R113_37 hS, R113_40 hS, R113_41 hS, R113_42 hS, R113_43 hS, R113_44 hS, R113_45 hS, R113_47 hS, K114 hS, K115 hS, K116 hS, K117 hS, K118 hS, K119 hS, K120 hS, K121 hS, K122 hS, K123 hS, K124 hS, K125 hS, K126 hS, K127 hS, K128 hS, K129 hS, K130 hS, K131 hS, K132 hS, K133 hS, K134 hS, K135 hS, K136 hS, K137 hS, K138 hS, K139 hS, K140 hS, K141 hS, K142 hS, N114 hS, N115 hS, N116 hS, N117 hS, N118 hS, N119 hS, N120 hS, N121 hS, N122 hS, N123 hS, N124 hS, N125 hS, N126 hS, N127 hS, N128 hS, N129 hS, N130 hS, N131 hS, N132 hS, N133 hS, N134 hS, N135 hS, N136 hS, N137 hS, N138 hS, N139 hS, N140 hS, N141 hS, N142 hS, false_or, or_false, ne_eq, true_or, or_true, not_false_eq_true, Nat.reduceEqDiff, Nat.reduceLT, Nat.reduceLeDiff, Nat.reduceAdd, b2i_t c3, e10, if_false, i6, hb, hxi, k6, nS1]
  refine hQ _ (F6.tr ((LF.f (m := 15) (by decide)).tr (LF.r3 (Or.inr (Or.inr rfl))))) ?_ ?_ (fun _ => ⟨?_, ?_, ?_, ?_, ?_, ?_, trivial⟩)
  · rw [up2_a (by decide), up2_i (by decide)]; exact P2.2.1
  · rw [up2_a (by decide), up2_i (by decide)]; exact P2.2.2.1
  · rw [up2_a (by decide)]; exact k6 _
  · rw [up2_a (by decide), up2_s]
  · rw [up2_a (by decide), up2_a (by decide), P2.1.1 121 (by decide) (by decide)]; exact k5
  · rw [up2_a (by decide), up2_a (by decide), P2.1.1 122 (by decide) (by decide)]; exact s5
  · rw [up2_s]
  · show mc _ 124 k (s.2.2 ++ s2.2.2)
    refine mc_app.2 ⟨mc_fr m5 (fun m _ hm => ?_), mc_fr P2.2.2.2.2 (fun m _ _ => ?_)⟩
    · rw [up2_a (by decide), up2_a (by decide)]; exact P2.1.2.2 m hm
    · rw [up2_a (by decide), up2_a (by decide)]
theorem ms_nx {s : TR} (R : MS h h1 s) (hs : s.1 = true) (hq : s.2.1 + 1 = q ∨ s.2.2 = []) (f : LF s.2.2.length (szF s.2.2) h1 h2) (h12 : h2 113 12 = nI (lnR T n q).2.1) (h13 : h2 113 13 = nI 0) (hk : (lnR T n q).1 = true → h2 113 14 = nI (szF s.2.2 + (lnR T n q).2.2.1.length + (lnR T n q).2.2.2.length) ∧ h2 113 15 = nI (s.2.2.length + 1) ∧ mLn h2 121 122 123 124 s.2.2.length (szF s.2.2) [(lnR T n q).2.2]) : MS h h2 (nxR s (lnR T n q)) := by
  refine ⟨R.1.tr (f.lo (by omega) (by omega)), h12, h13, fun hh => ?_⟩
  have hh : (lnR T n q).1 = true := hh
  obtain ⟨k1, k2, k3⟩ := hk hh
  obtain ⟨r1, r2, r3, r4, r5⟩ := R.2.2.2 hs
  obtain ⟨b1, b2, b3⟩ := @lnR_i n q T
  obtain ⟨b3, b4⟩ := b3 hh
  unfold nxR
  show h2 113 14 = nI (szF (if (lnR T n q).1 = true then s.2.2 ++ [(lnR T n q).2.2] else s.2.2)) ∧ h2 113 15 = nI (if (lnR T n q).1 = true then s.2.2 ++ [(lnR T n q).2.2] else s.2.2).length ∧ mLn h2 121 122 123 124 0 0 (if (lnR T n q).1 = true then s.2.2 ++ [(lnR T n q).2.2] else s.2.2) ∧ szF (if (lnR T n q).1 = true then s.2.2 ++ [(lnR T n q).2.2] else s.2.2) + (if (lnR T n q).1 = true then s.2.2 ++ [(lnR T n q).2.2] else s.2.2).length ≤ (lnR T n q).2.1 + 1 ∧ (if (lnR T n q).1 = true then s.2.2 ++ [(lnR T n q).2.2] else s.2.2).length ≤ szF (if (lnR T n q).1 = true then s.2.2 ++ [(lnR T n q).2.2] else s.2.2)
  rw [if_pos hh, szF_app, List.length_append, List.length_singleton]
  have e0 : szF s.2.2 + s.2.2.length ≤ q := by
    rcases hq with hq | hq
    · omega
    · rw [hq]; exact Nat.zero_le _
  refine ⟨k1, k2, mLn_app.2 ⟨mLn_fr r3 (fun m _ hm => ?_) (fun m _ hm => ?_), by rw [Nat.zero_add, Nat.zero_add]; exact k3⟩, ?_, ?_⟩
  · exact f.2.2.1 m (by omega)
  · exact f.2.2.2 m (by omega)
  · split at b3 <;> omega
  · omega
theorem lsR_f {s : TR} (h : ¬ s.1 = true) : lsR T n m s = s := by
  cases m with
  | zero => rfl
  | succ m => rw [lsR, if_neg (fun hh => h hh.1)]
theorem lsR_no {s : TR} (h : ¬ (s.2.1 < n ∧ T s.2.1 = 59)) : lsR T n m s = s := by
  cases m with
  | zero => rfl
  | succ m => rw [lsR, if_neg (fun hh => h hh.2)]
theorem m_rdL (he : 45 ≤ e) (X : XM n T h r E) {l2 l3 : Option PV} : ∀ {m : Nat} {s : TR} {h1 : Hp} {bz : Int32}, n - s.2.1 < m → bz = b2i (s.1 = true) → MS h h1 s → s.2.1 ≤ n →
    (∀ h' bz, bz = b2i ((lsR T n m s).1 = true) → MS h h' (lsR T n m s) → (lsR T n m s).2.1 ≤ n → WP (e + 2) 177 46 [some (vr 113), some (vi bz), l2, l3] [] (mm h' j r E) Q) →
    WP (e + 2) 177 25 [some (vr 113), some (vi bz), l2, l3] [] (mm h1 j r E) Q := by
  have hS := X.S
  have n1 := X.n1
  have n59 : (59 : Int32) ≠ -1 := by decide
  intro m
  induction m with
  | zero => intro s h1 bz hm; omega
  | succ m ih =>
    intro s h1 bz hm hb R hsn hQ
    have X1 := X.lf R.1
    rw [k177_25]
    by_cases hs : s.1 = true
    case neg =>
      have hb0 : (bz = 0) = True := by rw [hb, b2i_f hs]; exact eq_self _
      rw [lsR_f hs] at hQ
      simp only [k177_0, k177_1, k177_2, k177_5, k177_6, k177_7, k177_10, k177_11, k177_12, k177_15, k177_16, k177_17, k177_20, k177_21, k177_24, k177_26, k177_29, k177_30, k177_32, k177_35, k177_38, k177_39, k177_42, k177_43, k177_47, k177_50, k177_51, k177_54, k177_55, k177_58, k177_61, k177_62, k177_65, k177_66, k177_67, k177_68, k177_69, k177_72, k177_73, k177_76, k177_78, k177_79, k177_82, k177_83, k177_84, k177_85, k177_86, k177_89, k177_90, k177_91, k177_94, k177_97, k177_98, k177_100, k177_101, k177_104, k177_107, k177_108, k177_111, k177_112, k177_113, k177_116, k177_117, k177_118, k177_119, k177_120, k177_123, k177_124, k177_125, k177_128, k177_129, k177_130, k177_131, k177_132, k177_135, k177_136, k177_137, k177_140, k177_141, k177_142, k177_143, k177_146, k177_149, k177_150, k177_152, k177_153, k177_156, k177_159, k177_160, k177_163, k177_164, k177_165, k177_168, k177_169, k177_170, k177_171, k177_174, k177_177, k177_178, mm_sI, mm_sJ, mm_sR, mm_cI, mm_cJ, mm_I, mm_J, mm_R, mm_K, mm_N, psh_s, psh_n, z_n, z_i, z_r, z_l, Nat.reduceAdd, Nat.reduceLeDiff, K113 hS, R113_2 hS, R113_3 hS, R113_5 hS, R113_8 hS, R113_9 hS, R113_10 hS, R113_11 hS, R113_16 hS, R113_17 hS, R113_18 hS, R113_19 hS, R113_20 hS, R113_21 hS, R113_22 hS, R113_26 hS, R113_27 hS, R113_30 hS, R113_32 hS, R113_34 hS, R113_35 hS, R113_36 hS, R113_37 hS, R113_40 hS, R113_41 hS, R113_42 hS, R113_43 hS, R113_44 hS, R113_45 hS, R113_47 hS, K114 hS, K115 hS, K116 hS, K117 hS, K118 hS, K119 hS, K120 hS, K121 hS, K122 hS, K123 hS, K124 hS, K125 hS, K126 hS, K127 hS, K128 hS, K129 hS, K130 hS, K131 hS, K132 hS, K133 hS, K134 hS, K135 hS, K136 hS, K137 hS, K138 hS, K139 hS, K140 hS, K141 hS, K142 hS, N114 hS, N115 hS, N116 hS, N117 hS, N118 hS, N119 hS, N120 hS, N121 hS, N122 hS, N123 hS, N124 hS, N125 hS, N126 hS, N127 hS, N128 hS, N129 hS, N130 hS, N131 hS, N132 hS, N133 hS, N134 hS, N135 hS, N136 hS, N137 hS, N138 hS, N139 hS, N140 hS, N141 hS, N142 hS, false_or, or_false, ne_eq, true_or, or_true, not_false_eq_true, Nat.reduceEqDiff, Nat.reduceLT, Nat.reduceLeDiff, Nat.reduceAdd, hb0, if_true]
      exact hQ h1 bz hb R hsn
    have hb0 : (bz = 0) = False := by rw [hb, b2i_t hs]; exact e10
    by_cases c : s.2.1 < n ∧ T s.2.1 = 59
    case neg =>
      rw [lsR_no c] at hQ
      simp only [k177_0, k177_1, k177_2, k177_5, k177_6, k177_7, k177_10, k177_11, k177_12, k177_15, k177_16, k177_17, k177_20, k177_21, k177_24, k177_26, k177_29, k177_30, k177_32, k177_35, k177_38, k177_39, k177_42, k177_43, k177_47, k177_50, k177_51, k177_54, k177_55, k177_58, k177_61, k177_62, k177_65, k177_66, k177_67, k177_68, k177_69, k177_72, k177_73, k177_76, k177_78, k177_79, k177_82, k177_83, k177_84, k177_85, k177_86, k177_89, k177_90, k177_91, k177_94, k177_97, k177_98, k177_100, k177_101, k177_104, k177_107, k177_108, k177_111, k177_112, k177_113, k177_116, k177_117, k177_118, k177_119, k177_120, k177_123, k177_124, k177_125, k177_128, k177_129, k177_130, k177_131, k177_132, k177_135, k177_136, k177_137, k177_140, k177_141, k177_142, k177_143, k177_146, k177_149, k177_150, k177_152, k177_153, k177_156, k177_159, k177_160, k177_163, k177_164, k177_165, k177_168, k177_169, k177_170, k177_171, k177_174, k177_177, k177_178, mm_sI, mm_sJ, mm_sR, mm_cI, mm_cJ, mm_I, mm_J, mm_R, mm_K, mm_N, psh_s, psh_n, z_n, z_i, z_r, z_l, Nat.reduceAdd, Nat.reduceLeDiff, K113 hS, R113_2 hS, R113_3 hS, R113_5 hS, R113_8 hS, R113_9 hS, R113_10 hS, R113_11 hS, R113_16 hS, R113_17 hS, R113_18 hS, R113_19 hS, R113_20 hS, R113_21 hS, R113_22 hS, R113_26 hS, R113_27 hS, R113_30 hS, R113_32 hS, R113_34 hS, R113_35 hS, R113_36 hS, R113_37 hS, R113_40 hS, R113_41 hS, R113_42 hS, R113_43 hS, R113_44 hS, R113_45 hS, R113_47 hS, K114 hS, K115 hS, K116 hS, K117 hS, K118 hS, K119 hS, K120 hS, K121 hS, K122 hS, K123 hS, K124 hS, K125 hS, K126 hS, K127 hS, K128 hS, K129 hS, K130 hS, K131 hS, K132 hS, K133 hS, K134 hS, K135 hS, K136 hS, K137 hS, K138 hS, K139 hS, K140 hS, K141 hS, K142 hS, N114 hS, N115 hS, N116 hS, N117 hS, N118 hS, N119 hS, N120 hS, N121 hS, N122 hS, N123 hS, N124 hS, N125 hS, N126 hS, N127 hS, N128 hS, N129 hS, N130 hS, N131 hS, N132 hS, N133 hS, N134 hS, N135 hS, N136 hS, N137 hS, N138 hS, N139 hS, N140 hS, N141 hS, N142 hS, false_or, or_false, ne_eq, true_or, or_true, not_false_eq_true, Nat.reduceEqDiff, Nat.reduceLT, Nat.reduceLeDiff, Nat.reduceAdd, hb0, if_false, m_is X1 R.2.1 hsn n59, if_neg c, if_true]
      exact hQ h1 bz hb R hsn
    rw [lsR, if_pos ⟨hs, c⟩] at hQ
    obtain ⟨r1, r2, r3, r4, r5⟩ := R.2.2.2 hs
    simp only [k177_0, k177_1, k177_2, k177_5, k177_6, k177_7, k177_10, k177_11, k177_12, k177_15, k177_16, k177_17, k177_20, k177_21, k177_24, k177_26, k177_29, k177_30, k177_32, k177_35, k177_38, k177_39, k177_42, k177_43, k177_47, k177_50, k177_51, k177_54, k177_55, k177_58, k177_61, k177_62, k177_65, k177_66, k177_67, k177_68, k177_69, k177_72, k177_73, k177_76, k177_78, k177_79, k177_82, k177_83, k177_84, k177_85, k177_86, k177_89, k177_90, k177_91, k177_94, k177_97, k177_98, k177_100, k177_101, k177_104, k177_107, k177_108, k177_111, k177_112, k177_113, k177_116, k177_117, k177_118, k177_119, k177_120, k177_123, k177_124, k177_125, k177_128, k177_129, k177_130, k177_131, k177_132, k177_135, k177_136, k177_137, k177_140, k177_141, k177_142, k177_143, k177_146, k177_149, k177_150, k177_152, k177_153, k177_156, k177_159, k177_160, k177_163, k177_164, k177_165, k177_168, k177_169, k177_170, k177_171, k177_174, k177_177, k177_178, mm_sI, mm_sJ, mm_sR, mm_cI, mm_cJ, mm_I, mm_J, mm_R, mm_K, mm_N, psh_s, psh_n, z_n, z_i, z_r, z_l, Nat.reduceAdd, Nat.reduceLeDiff, K113 hS, R113_2 hS, R113_3 hS, R113_5 hS, R113_8 hS, R113_9 hS, R113_10 hS, R113_11 hS, R113_16 hS, R113_17 hS, R113_18 hS, R113_19 hS, R113_20 hS, R113_21 hS, R113_22 hS, R113_26 hS, R113_27 hS, R113_30 hS, R113_32 hS, R113_34 hS, R113_35 hS, R113_36 hS, R113_37 hS, R113_40 hS, R113_41 hS, R113_42 hS, R113_43 hS, R113_44 hS, R113_45 hS, R113_47 hS, K114 hS, K115 hS, K116 hS, K117 hS, K118 hS, K119 hS, K120 hS, K121 hS, K122 hS, K123 hS, K124 hS, K125 hS, K126 hS, K127 hS, K128 hS, K129 hS, K130 hS, K131 hS, K132 hS, K133 hS, K134 hS, K135 hS, K136 hS, K137 hS, K138 hS, K139 hS, K140 hS, K141 hS, K142 hS, N114 hS, N115 hS, N116 hS, N117 hS, N118 hS, N119 hS, N120 hS, N121 hS, N122 hS, N123 hS, N124 hS, N125 hS, N126 hS, N127 hS, N128 hS, N129 hS, N130 hS, N131 hS, N132 hS, N133 hS, N134 hS, N135 hS, N136 hS, N137 hS, N138 hS, N139 hS, N140 hS, N141 hS, N142 hS, false_or, or_false, ne_eq, true_or, or_true, not_false_eq_true, Nat.reduceEqDiff, Nat.reduceLT, Nat.reduceLeDiff, Nat.reduceAdd, hb0, if_false, m_is X1 R.2.1 hsn n59, if_pos c, e10]
    have f1 : LF s.2.2.length (szF s.2.2) h1 (up2 h1 113 12 (nI (s.2.1 + 1))) := LF.f (m := 12) (by decide)
    refine m_line he (X1.lf f1) up2_s (by rw [up2_i (by decide)]; exact R.2.2.1) (k := szF s.2.2) (by rw [up2_i (by decide)]; exact r1) (i := s.2.2.length) (by rw [up2_i (by decide)]; exact r2) c.1 (by omega) (by omega) ?_
    intro h3 f3 h12 h13 hk3
    obtain ⟨b1, b2, b3⟩ := @lnR_i n (s.2.1 + 1) T
    simp only [k177_0, k177_1, k177_2, k177_5, k177_6, k177_7, k177_10, k177_11, k177_12, k177_15, k177_16, k177_17, k177_20, k177_21, k177_24, k177_26, k177_29, k177_30, k177_32, k177_35, k177_38, k177_39, k177_42, k177_43, k177_47, k177_50, k177_51, k177_54, k177_55, k177_58, k177_61, k177_62, k177_65, k177_66, k177_67, k177_68, k177_69, k177_72, k177_73, k177_76, k177_78, k177_79, k177_82, k177_83, k177_84, k177_85, k177_86, k177_89, k177_90, k177_91, k177_94, k177_97, k177_98, k177_100, k177_101, k177_104, k177_107, k177_108, k177_111, k177_112, k177_113, k177_116, k177_117, k177_118, k177_119, k177_120, k177_123, k177_124, k177_125, k177_128, k177_129, k177_130, k177_131, k177_132, k177_135, k177_136, k177_137, k177_140, k177_141, k177_142, k177_143, k177_146, k177_149, k177_150, k177_152, k177_153, k177_156, k177_159, k177_160, k177_163, k177_164, k177_165, k177_168, k177_169, k177_170, k177_171, k177_174, k177_177, k177_178, mm_sI, mm_sJ, mm_sR, mm_cI, mm_cJ, mm_I, mm_J, mm_R, mm_K, mm_N, psh_s, psh_n, z_n, z_i, z_r, z_l, Nat.reduceAdd, Nat.reduceLeDiff, K113 hS, R113_2 hS, R113_3 hS, R113_5 hS, R113_8 hS, R113_9 hS, R113_10 hS, R113_11 hS, R113_16 hS, R113_17 hS, R113_18 hS, R113_19 hS, R113_20 hS, R113_21 hS, R113_22 hS, R113_26 hS, R113_27 hS, R113_30 hS, R113_32 hS, R113_34 hS, R113_35 hS, R113_36 hS, R113_37 hS, R113_40 hS, R113_41 hS, R113_42 hS, R113_43 hS, R113_44 hS, R113_45 hS, R113_47 hS, K114 hS, K115 hS, K116 hS, K117 hS, K118 hS, K119 hS, K120 hS, K121 hS, K122 hS, K123 hS, K124 hS, K125 hS, K126 hS, K127 hS, K128 hS, K129 hS, K130 hS, K131 hS, K132 hS, K133 hS, K134 hS, K135 hS, K136 hS, K137 hS, K138 hS, K139 hS, K140 hS, K141 hS, K142 hS, N114 hS, N115 hS, N116 hS, N117 hS, N118 hS, N119 hS, N120 hS, N121 hS, N122 hS, N123 hS, N124 hS, N125 hS, N126 hS, N127 hS, N128 hS, N129 hS, N130 hS, N131 hS, N132 hS, N133 hS, N134 hS, N135 hS, N136 hS, N137 hS, N138 hS, N139 hS, N140 hS, N141 hS, N142 hS, false_or, or_false, ne_eq, true_or, or_true, not_false_eq_true, Nat.reduceEqDiff, Nat.reduceLT, Nat.reduceLeDiff, Nat.reduceAdd]
    exact ih (by show n - (lnR T n (s.2.1 + 1)).2.1 < m; omega) rfl (ms_nx R hs (Or.inl rfl) (f1.tr f3) h12 h13 hk3) (b2 c.1) hQ
/-- what reading and copying may change -/
def MW (h h1 : Hp) : Prop := (∀ a, a ≠ 113 → ¬ (117 ≤ a ∧ a ≤ 124) → h1 a = h a) ∧ ∀ m, m ≠ 4 → m ≠ 6 → m ≠ 7 → ¬ (12 ≤ m ∧ m ≤ 15) → h1 113 m = h 113 m
theorem m_cpA (hS : Sh r E) {l1 l2 : Option PV} (hL : h 113 7 = nI K) (hK : K ≤ 60) : ∀ {m i : Nat} {h1 : Hp}, i + m = K → (∀ a, a ≠ 117 → a ≠ 118 → a ≠ 119 → h1 a = h a) → (∀ w, w < i → h1 117 w = h 121 w ∧ h1 118 w = h 122 w ∧ h1 119 w = h 123 w) →
    (∀ h', (∀ a, a ≠ 117 → a ≠ 118 → a ≠ 119 → h' a = h a) → (∀ w, w < K → h' 117 w = h 121 w ∧ h' 118 w = h 122 w ∧ h' 119 w = h 123 w) → WP d 177 149 [some (vr 113), l1, l2, some (vi (nI K))] [] (mm h' j r E) Q) →
    WP d 177 99 [some (vr 113), l1, l2, some (vi (nI i))] [] (mm h1 j r E) Q := by
  intro m
  induction m with
  | zero =>
    intro i h1 hi f1 f2 hQ
    have : i = K := by omega
    subst this
    have e1 : h1 113 7 = nI i := by rw [f1 113 (by decide) (by decide) (by decide)]; exact hL
    rw [k177_99]
    simp only [k177_0, k177_1, k177_2, k177_5, k177_6, k177_7, k177_10, k177_11, k177_12, k177_15, k177_16, k177_17, k177_20, k177_21, k177_24, k177_26, k177_29, k177_30, k177_32, k177_35, k177_38, k177_39, k177_42, k177_43, k177_46, k177_47, k177_50, k177_51, k177_54, k177_55, k177_58, k177_61, k177_62, k177_65, k177_66, k177_67, k177_68, k177_69, k177_72, k177_73, k177_76, k177_78, k177_79, k177_82, k177_83, k177_84, k177_85, k177_86, k177_89, k177_90, k177_91, k177_94, k177_97, k177_98, k177_100, k177_101, k177_104, k177_107, k177_108, k177_111, k177_112, k177_113, k177_116, k177_117, k177_118, k177_119, k177_120, k177_123, k177_124, k177_125, k177_128, k177_129, k177_130, k177_131, k177_132, k177_135, k177_136, k177_137, k177_140, k177_141, k177_142, k177_143, k177_146, k177_150, k177_152, k177_153, k177_156, k177_159, k177_160, k177_163, k177_164, k177_165, k177_168, k177_169, k177_170, k177_171, k177_174, k177_177, k177_178, mm_sI, mm_sJ, mm_sR, mm_cI, mm_cJ, mm_I, mm_J, mm_R, mm_K, mm_N, psh_s, psh_n, z_n, z_i, z_r, z_l, Nat.reduceAdd, Nat.reduceLeDiff, K113 hS, R113_2 hS, R113_3 hS, R113_5 hS, R113_8 hS, R113_9 hS, R113_10 hS, R113_11 hS, R113_16 hS, R113_17 hS, R113_18 hS, R113_19 hS, R113_20 hS, R113_21 hS, R113_22 hS, R113_26 hS, R113_27 hS, R113_30 hS, R113_32 hS, R113_34 hS, R113_35 hS, R113_36 hS, R113_37 hS, R113_40 hS, R113_41 hS, R113_42 hS, R113_43 hS, R113_44 hS, R113_45 hS, R113_47 hS, K114 hS, K115 hS, K116 hS, K117 hS, K118 hS, K119 hS, K120 hS, K121 hS, K122 hS, K123 hS, K124 hS, K125 hS, K126 hS, K127 hS, K128 hS, K129 hS, K130 hS, K131 hS, K132 hS, K133 hS, K134 hS, K135 hS, K136 hS, K137 hS, K138 hS, K139 hS, K140 hS, K141 hS, K142 hS, N114 hS, N115 hS, N116 hS, N117 hS, N118 hS, N119 hS, N120 hS, N121 hS, N122 hS, N123 hS, N124 hS, N125 hS, N126 hS, N127 hS, N128 hS, N129 hS, N130 hS, N131 hS, N132 hS, N133 hS, N134 hS, N135 hS, N136 hS, N137 hS, N138 hS, N139 hS, N140 hS, N141 hS, N142 hS, false_or, or_false, ne_eq, true_or, or_true, not_false_eq_true, Nat.reduceEqDiff, Nat.reduceLT, Nat.reduceLeDiff, Nat.reduceAdd, e1, Int32.le_refl, if_true]
    exact hQ h1 f1 f2
  | succ m ih =>
    intro i h1 hi f1 f2 hQ
    have e1 : h1 113 7 = nI K := by rw [f1 113 (by decide) (by decide) (by decide)]; exact hL
    have c1 : (nI K ≤ nI i) = False := by rw [nLe (by omega) (by omega)]; exact eq_false (by omega)
    have hb : inb (nI i) 60 = True := eq_true (by rw [inb_n (by omega)]; omega)
    have hb1 : inb (nI i) 61 = True := eq_true (by rw [inb_n (by omega)]; omega)
    rw [k177_99]
    simp only [k177_0, k177_1, k177_2, k177_5, k177_6, k177_7, k177_10, k177_11, k177_12, k177_15, k177_16, k177_17, k177_20, k177_21, k177_24, k177_26, k177_29, k177_30, k177_32, k177_35, k177_38, k177_39, k177_42, k177_43, k177_46, k177_47, k177_50, k177_51, k177_54, k177_55, k177_58, k177_61, k177_62, k177_65, k177_66, k177_67, k177_68, k177_69, k177_72, k177_73, k177_76, k177_78, k177_79, k177_82, k177_83, k177_84, k177_85, k177_86, k177_89, k177_90, k177_91, k177_94, k177_97, k177_98, k177_100, k177_101, k177_104, k177_107, k177_108, k177_111, k177_112, k177_113, k177_116, k177_117, k177_118, k177_119, k177_120, k177_123, k177_124, k177_125, k177_128, k177_129, k177_130, k177_131, k177_132, k177_135, k177_136, k177_137, k177_140, k177_141, k177_142, k177_143, k177_146, k177_150, k177_152, k177_153, k177_156, k177_159, k177_160, k177_163, k177_164, k177_165, k177_168, k177_169, k177_170, k177_171, k177_174, k177_177, k177_178, mm_sI, mm_sJ, mm_sR, mm_cI, mm_cJ, mm_I, mm_J, mm_R, mm_K, mm_N, psh_s, psh_n, z_n, z_i, z_r, z_l, Nat.reduceAdd, Nat.reduceLeDiff, K113 hS, R113_2 hS, R113_3 hS, R113_5 hS, R113_8 hS, R113_9 hS, R113_10 hS, R113_11 hS, R113_16 hS, R113_17 hS, R113_18 hS, R113_19 hS, R113_20 hS, R113_21 hS, R113_22 hS, R113_26 hS, R113_27 hS, R113_30 hS, R113_32 hS, R113_34 hS, R113_35 hS, R113_36 hS, R113_37 hS, R113_40 hS, R113_41 hS, R113_42 hS, R113_43 hS, R113_44 hS, R113_45 hS, R113_47 hS, K114 hS, K115 hS, K116 hS, K117 hS, K118 hS, K119 hS, K120 hS, K121 hS, K122 hS, K123 hS, K124 hS, K125 hS, K126 hS, K127 hS, K128 hS, K129 hS, K130 hS, K131 hS, K132 hS, K133 hS, K134 hS, K135 hS, K136 hS, K137 hS, K138 hS, K139 hS, K140 hS, K141 hS, K142 hS, N114 hS, N115 hS, N116 hS, N117 hS, N118 hS, N119 hS, N120 hS, N121 hS, N122 hS, N123 hS, N124 hS, N125 hS, N126 hS, N127 hS, N128 hS, N129 hS, N130 hS, N131 hS, N132 hS, N133 hS, N134 hS, N135 hS, N136 hS, N137 hS, N138 hS, N139 hS, N140 hS, N141 hS, N142 hS, false_or, or_false, ne_eq, true_or, or_true, not_false_eq_true, Nat.reduceEqDiff, Nat.reduceLT, Nat.reduceLeDiff, Nat.reduceAdd, e1, c1, if_false, hb, hb1, ix_n (show i < 2 ^ 31 by omega), nS1, up2_a (show 122 ≠ 117 by decide), up2_a (show 123 ≠ 117 by decide), up2_a (show 123 ≠ 118 by decide), f1 121 (by decide) (by decide) (by decide), f1 122 (by decide) (by decide) (by decide), f1 123 (by decide) (by decide) (by decide)]
    refine ih (by omega) (fun a p q s => by rw [up2_a s, up2_a q, up2_a p]; exact f1 a p q s) (fun w hw => ?_) hQ
    by_cases c : w = i
    · subst c
      refine ⟨?_, ?_, ?_⟩
      · rw [up2_a (by decide), up2_a (by decide), up2_s]
      · rw [up2_a (by decide), up2_s]
      · rw [up2_s]
    · obtain ⟨g1, g2, g3⟩ := f2 w (by omega)
      refine ⟨?_, ?_, ?_⟩
      · rw [up2_a (by decide), up2_a (by decide), up2_i c]; exact g1
      · rw [up2_a (by decide), up2_i c, up2_a (by decide)]; exact g2
      · rw [up2_i c, up2_a (by decide), up2_a (by decide)]; exact g3
theorem m_cdL (hS : Sh r E) {l1 l2 : Option PV} (hL : h 113 14 = nI K) (hK : K ≤ 200) : ∀ {m i : Nat} {h1 : Hp}, i + m = K → (∀ a, a ≠ 120 → h1 a = h a) → (∀ w, w < i → h1 120 w = h 124 w) →
    (∀ h', (∀ a, a ≠ 120 → h' a = h a) → (∀ w, w < K → h' 120 w = h 124 w) → Q (some (vi 1)) (mm h' j r E)) →
    WP d 177 151 [some (vr 113), l1, l2, some (vi (nI i))] [] (mm h1 j r E) Q := by
  intro m
  induction m with
  | zero =>
    intro i h1 hi f1 f2 hQ
    have : i = K := by omega
    subst this
    have e1 : h1 113 14 = nI i := by rw [f1 113 (by decide)]; exact hL
    rw [k177_151]
    simp only [k177_0, k177_1, k177_2, k177_5, k177_6, k177_7, k177_10, k177_11, k177_12, k177_15, k177_16, k177_17, k177_20, k177_21, k177_24, k177_26, k177_29, k177_30, k177_32, k177_35, k177_38, k177_39, k177_42, k177_43, k177_46, k177_47, k177_50, k177_51, k177_54, k177_55, k177_58, k177_61, k177_62, k177_65, k177_66, k177_67, k177_68, k177_69, k177_72, k177_73, k177_76, k177_78, k177_79, k177_82, k177_83, k177_84, k177_85, k177_86, k177_89, k177_90, k177_91, k177_94, k177_97, k177_98, k177_100, k177_101, k177_104, k177_107, k177_108, k177_111, k177_112, k177_113, k177_116, k177_117, k177_118, k177_119, k177_120, k177_123, k177_124, k177_125, k177_128, k177_129, k177_130, k177_131, k177_132, k177_135, k177_136, k177_137, k177_140, k177_141, k177_142, k177_143, k177_146, k177_149, k177_150, k177_152, k177_153, k177_156, k177_159, k177_160, k177_163, k177_164, k177_165, k177_168, k177_169, k177_170, k177_171, k177_174, k177_177, k177_178, mm_sI, mm_sJ, mm_sR, mm_cI, mm_cJ, mm_I, mm_J, mm_R, mm_K, mm_N, psh_s, psh_n, z_n, z_i, z_r, z_l, Nat.reduceAdd, Nat.reduceLeDiff, K113 hS, R113_2 hS, R113_3 hS, R113_5 hS, R113_8 hS, R113_9 hS, R113_10 hS, R113_11 hS, R113_16 hS, R113_17 hS, R113_18 hS, R113_19 hS, R113_20 hS, R113_21 hS, R113_22 hS, R113_26 hS, R113_27 hS, R113_30 hS, R113_32 hS, R113_34 hS, R113_35 hS, R113_36 hS, R113_37 hS, R113_40 hS, R113_41 hS, R113_42 hS, R113_43 hS, R113_44 hS, R113_45 hS, R113_47 hS, K114 hS, K115 hS, K116 hS, K117 hS, K118 hS, K119 hS, K120 hS, K121 hS, K122 hS, K123 hS, K124 hS, K125 hS, K126 hS, K127 hS, K128 hS, K129 hS, K130 hS, K131 hS, K132 hS, K133 hS, K134 hS, K135 hS, K136 hS, K137 hS, K138 hS, K139 hS, K140 hS, K141 hS, K142 hS, N114 hS, N115 hS, N116 hS, N117 hS, N118 hS, N119 hS, N120 hS, N121 hS, N122 hS, N123 hS, N124 hS, N125 hS, N126 hS, N127 hS, N128 hS, N129 hS, N130 hS, N131 hS, N132 hS, N133 hS, N134 hS, N135 hS, N136 hS, N137 hS, N138 hS, N139 hS, N140 hS, N141 hS, N142 hS, false_or, or_false, ne_eq, true_or, or_true, not_false_eq_true, Nat.reduceEqDiff, Nat.reduceLT, Nat.reduceLeDiff, Nat.reduceAdd, e1, Int32.le_refl, if_true]
    exact hQ h1 f1 f2
  | succ m ih =>
    intro i h1 hi f1 f2 hQ
    have e1 : h1 113 14 = nI K := by rw [f1 113 (by decide)]; exact hL
    have c1 : (nI K ≤ nI i) = False := by rw [nLe (by omega) (by omega)]; exact eq_false (by omega)
    have hb : inb (nI i) 200 = True := eq_true (by rw [inb_n (by omega)]; omega)
    rw [k177_151]
    simp only [k177_0, k177_1, k177_2, k177_5, k177_6, k177_7, k177_10, k177_11, k177_12, k177_15, k177_16, k177_17, k177_20, k177_21, k177_24, k177_26, k177_29, k177_30, k177_32, k177_35, k177_38, k177_39, k177_42, k177_43, k177_46, k177_47, k177_50, k177_51, k177_54, k177_55, k177_58, k177_61, k177_62, k177_65, k177_66, k177_67, k177_68, k177_69, k177_72, k177_73, k177_76, k177_78, k177_79, k177_82, k177_83, k177_84, k177_85, k177_86, k177_89, k177_90, k177_91, k177_94, k177_97, k177_98, k177_100, k177_101, k177_104, k177_107, k177_108, k177_111, k177_112, k177_113, k177_116, k177_117, k177_118, k177_119, k177_120, k177_123, k177_124, k177_125, k177_128, k177_129, k177_130, k177_131, k177_132, k177_135, k177_136, k177_137, k177_140, k177_141, k177_142, k177_143, k177_146, k177_149, k177_150, k177_152, k177_153, k177_156, k177_159, k177_160, k177_163, k177_164, k177_165, k177_168, k177_169, k177_170, k177_171, k177_174, k177_177, k177_178, mm_sI, mm_sJ, mm_sR, mm_cI, mm_cJ, mm_I, mm_J, mm_R, mm_K, mm_N, psh_s, psh_n, z_n, z_i, z_r, z_l, Nat.reduceAdd, Nat.reduceLeDiff, K113 hS, R113_2 hS, R113_3 hS, R113_5 hS, R113_8 hS, R113_9 hS, R113_10 hS, R113_11 hS, R113_16 hS, R113_17 hS, R113_18 hS, R113_19 hS, R113_20 hS, R113_21 hS, R113_22 hS, R113_26 hS, R113_27 hS, R113_30 hS, R113_32 hS, R113_34 hS, R113_35 hS, R113_36 hS, R113_37 hS, R113_40 hS, R113_41 hS, R113_42 hS, R113_43 hS, R113_44 hS, R113_45 hS, R113_47 hS, K114 hS, K115 hS, K116 hS, K117 hS, K118 hS, K119 hS, K120 hS, K121 hS, K122 hS, K123 hS, K124 hS, K125 hS, K126 hS, K127 hS, K128 hS, K129 hS, K130 hS, K131 hS, K132 hS, K133 hS, K134 hS, K135 hS, K136 hS, K137 hS, K138 hS, K139 hS, K140 hS, K141 hS, K142 hS, N114 hS, N115 hS, N116 hS, N117 hS, N118 hS, N119 hS, N120 hS, N121 hS, N122 hS, N123 hS, N124 hS, N125 hS, N126 hS, N127 hS, N128 hS, N129 hS, N130 hS, N131 hS, N132 hS, N133 hS, N134 hS, N135 hS, N136 hS, N137 hS, N138 hS, N139 hS, N140 hS, N141 hS, N142 hS, false_or, or_false, ne_eq, true_or, or_true, not_false_eq_true, Nat.reduceEqDiff, Nat.reduceLT, Nat.reduceLeDiff, Nat.reduceAdd, e1, c1, if_false, hb, ix_n (show i < 2 ^ 31 by omega), nS1, f1 124 (by decide)]
    refine ih (by omega) (fun a p => by rw [up2_a p]; exact f1 a p) (fun w hw => ?_) hQ
    by_cases c : w = i
    · subst c; rw [up2_s]
    · rw [up2_i c]; exact f2 w (by omega)
theorem m_law (he : 45 ≤ e) (X : XM n T h r E) (hQ : ∀ h', MW h h' → h' 113 4 = 0 → (goodR T n → h' 113 6 = 1 ∧ h' 113 7 = nI (txR T n).2.2.length ∧ mLn h' 117 118 119 120 0 0 (txR T n).2.2 ∧ (txR T n).2.2.length ≤ 60 ∧ szF (txR T n).2.2 ≤ 121) → (¬ goodR T n → h' 117 = h 117 ∧ h' 118 = h 118 ∧ h' 119 = h 119 ∧ h' 120 = h 120 ∧ h' 113 6 = h 113 6 ∧ h' 113 7 = h 113 7) →
      Q (some (vi (if (txR T n).1 = true ∧ (txR T n).2.1 = n then 1 else -100 - nI (txR T n).2.1))) (mm h' j r E)) :
    WP (e + 2) 177 0 [some (vr 113), none, none, none] [] (mm h j r E) Q := by
  have hS := X.S
  have n1 := X.n1
  simp only [k177_0, k177_1, k177_2, k177_5, k177_6, k177_7, k177_10, k177_11, k177_12, k177_15, k177_16, k177_17, k177_20, k177_21, k177_24, k177_26, k177_29, k177_30, k177_32, k177_35, k177_38, k177_39, k177_42, k177_43, k177_46, k177_47, k177_50, k177_51, k177_54, k177_55, k177_58, k177_61, k177_62, k177_65, k177_66, k177_67, k177_68, k177_69, k177_72, k177_73, k177_76, k177_78, k177_79, k177_82, k177_83, k177_84, k177_85, k177_86, k177_89, k177_90, k177_91, k177_94, k177_97, k177_98, k177_100, k177_101, k177_104, k177_107, k177_108, k177_111, k177_112, k177_113, k177_116, k177_117, k177_118, k177_119, k177_120, k177_123, k177_124, k177_125, k177_128, k177_129, k177_130, k177_131, k177_132, k177_135, k177_136, k177_137, k177_140, k177_141, k177_142, k177_143, k177_146, k177_149, k177_150, k177_152, k177_153, k177_156, k177_159, k177_160, k177_163, k177_164, k177_165, k177_168, k177_169, k177_170, k177_171, k177_174, k177_177, k177_178, mm_sI, mm_sJ, mm_sR, mm_cI, mm_cJ, mm_I, mm_J, mm_R, mm_K, mm_N, psh_s, psh_n, z_n, z_i, z_r, z_l, Nat.reduceAdd, Nat.reduceLeDiff, K113 hS, R113_2 hS, R113_3 hS, R113_5 hS, R113_8 hS, R113_9 hS, R113_10 hS, R113_11 hS, R113_16 hS, R113_17 hS, R113_18 hS, R113_19 hS, R113_20 hS, R113_21 hS, R113_22 hS, R113_26 hS, R113_27 hS, R113_30 hS, R113_32 hS, R113_34 hS, R113_35 hS, R113_36 hS, R113_37 hS, R113_40 hS, R113_41 hS, R113_42 hS, R113_43 hS, R113_44 hS, R113_45 hS, R113_47 hS, K114 hS, K115 hS, K116 hS, K117 hS, K118 hS, K119 hS, K120 hS, K121 hS, K122 hS, K123 hS, K124 hS, K125 hS, K126 hS, K127 hS, K128 hS, K129 hS, K130 hS, K131 hS, K132 hS, K133 hS, K134 hS, K135 hS, K136 hS, K137 hS, K138 hS, K139 hS, K140 hS, K141 hS, K142 hS, N114 hS, N115 hS, N116 hS, N117 hS, N118 hS, N119 hS, N120 hS, N121 hS, N122 hS, N123 hS, N124 hS, N125 hS, N126 hS, N127 hS, N128 hS, N129 hS, N130 hS, N131 hS, N132 hS, N133 hS, N134 hS, N135 hS, N136 hS, N137 hS, N138 hS, N139 hS, N140 hS, N141 hS, N142 hS, false_or, or_false, ne_eq, true_or, or_true, not_false_eq_true, Nat.reduceEqDiff, Nat.reduceLT, Nat.reduceLeDiff, Nat.reduceAdd]
  have f0 : ∀ {i k}, LF i k h (up2 (up2 (up2 (up2 h 113 12 0) 113 13 0) 113 14 0) 113 15 0) := (LF.f (m := 12) (by decide)).tr ((LF.f (m := 13) (by decide)).tr ((LF.f (m := 14) (by decide)).tr (LF.f (m := 15) (by decide))))
  have g12 : up2 (up2 (up2 (up2 h 113 12 0) 113 13 0) 113 14 0) 113 15 0 113 12 = nI 0 := by rw [up2_i (by decide), up2_i (by decide), up2_i (by decide), up2_s]; rfl
  have g13 : up2 (up2 (up2 (up2 h 113 12 0) 113 13 0) 113 14 0) 113 15 0 113 13 = nI 0 := by rw [up2_i (by decide), up2_i (by decide), up2_s]; rfl
  have g14 : up2 (up2 (up2 (up2 h 113 12 0) 113 13 0) 113 14 0) 113 15 0 113 14 = nI 0 := by rw [up2_i (by decide), up2_s]; rfl
  have g15 : up2 (up2 (up2 (up2 h 113 12 0) 113 13 0) 113 14 0) 113 15 0 113 15 = nI 0 := by rw [up2_s]; rfl
  generalize up2 (up2 (up2 (up2 h 113 12 0) 113 13 0) 113 14 0) 113 15 0 = h1 at *
  have X1 := X.lf (f0 (i := 0) (k := 0))
  refine m_line he X1 (p := 0) (k := 0) (i := 0) g12 g13 g14 g15 (Nat.zero_le _) (Nat.le_refl _) (by decide) ?_
  intro h2 f2 h12 h13 hk
  simp only [k177_0, k177_1, k177_2, k177_5, k177_6, k177_7, k177_10, k177_11, k177_12, k177_15, k177_16, k177_17, k177_20, k177_21, k177_24, k177_26, k177_29, k177_30, k177_32, k177_35, k177_38, k177_39, k177_42, k177_43, k177_46, k177_47, k177_50, k177_51, k177_54, k177_55, k177_58, k177_61, k177_62, k177_65, k177_66, k177_67, k177_68, k177_69, k177_72, k177_73, k177_76, k177_78, k177_79, k177_82, k177_83, k177_84, k177_85, k177_86, k177_89, k177_90, k177_91, k177_94, k177_97, k177_98, k177_100, k177_101, k177_104, k177_107, k177_108, k177_111, k177_112, k177_113, k177_116, k177_117, k177_118, k177_119, k177_120, k177_123, k177_124, k177_125, k177_128, k177_129, k177_130, k177_131, k177_132, k177_135, k177_136, k177_137, k177_140, k177_141, k177_142, k177_143, k177_146, k177_149, k177_150, k177_152, k177_153, k177_156, k177_159, k177_160, k177_163, k177_164, k177_165, k177_168, k177_169, k177_170, k177_171, k177_174, k177_177, k177_178, mm_sI, mm_sJ, mm_sR, mm_cI, mm_cJ, mm_I, mm_J, mm_R, mm_K, mm_N, psh_s, psh_n, z_n, z_i, z_r, z_l, Nat.reduceAdd, Nat.reduceLeDiff, K113 hS, R113_2 hS, R113_3 hS, R113_5 hS, R113_8 hS, R113_9 hS, R113_10 hS, R113_11 hS, R113_16 hS, R113_17 hS, R113_18 hS, R113_19 hS, R113_20 hS, R113_21 hS, R113_22 hS, R113_26 hS, R113_27 hS, R113_30 hS, R113_32 hS, R113_34 hS, R113_35 hS, R113_36 hS, R113_37 hS, R113_40 hS, R113_41 hS, R113_42 hS, R113_43 hS, R113_44 hS, R113_45 hS, R113_47 hS, K114 hS, K115 hS, K116 hS, K117 hS, K118 hS, K119 hS, K120 hS, K121 hS, K122 hS, K123 hS, K124 hS, K125 hS, K126 hS, K127 hS, K128 hS, K129 hS, K130 hS, K131 hS, K132 hS, K133 hS, K134 hS, K135 hS, K136 hS, K137 hS, K138 hS, K139 hS, K140 hS, K141 hS, K142 hS, N114 hS, N115 hS, N116 hS, N117 hS, N118 hS, N119 hS, N120 hS, N121 hS, N122 hS, N123 hS, N124 hS, N125 hS, N126 hS, N127 hS, N128 hS, N129 hS, N130 hS, N131 hS, N132 hS, N133 hS, N134 hS, N135 hS, N136 hS, N137 hS, N138 hS, N139 hS, N140 hS, N141 hS, N142 hS, false_or, or_false, ne_eq, true_or, or_true, not_false_eq_true, Nat.reduceEqDiff, Nat.reduceLT, Nat.reduceLeDiff, Nat.reduceAdd]
  obtain ⟨b1, b2, b3⟩ := @lnR_i n 0 T
  have R0 : MS h h1 (true, 0, []) := ⟨f0, g12, g13, fun _ => ⟨g14, g15, trivial, Nat.zero_le _, Nat.le_refl _⟩⟩
  have R1 : MS h h2 (nxR (true, 0, []) (lnR T n 0)) := ms_nx (T := T) (n := n) (q := 0) R0 rfl (Or.inr rfl) f2 h12 h13 (fun hh => by
    obtain ⟨k1, k2, k3⟩ := hk hh
    exact ⟨k1, k2, k3⟩)
  have key : ∀ h' bz, bz = b2i ((txR T n).1 = true) → MS h h' (txR T n) → (txR T n).2.1 ≤ n → WP (e + 2) 177 46 [some (vr 113), some (vi bz), none, none] [] (mm h' j r E) Q := by
    intro h3 bz hb R hsn
    have X3 := X.lf R.1
    have p4 : ∀ v, up2 h3 113 4 v 113 12 = nI (txR T n).2.1 := fun v => by rw [up2_i (by decide)]; exact R.2.1
    by_cases hs : (txR T n).1 = true
    case neg =>
      have hb : bz = 0 := by rw [hb, b2i_f hs]
      subst hb
      have := hQ (up2 h3 113 4 0) ⟨fun a p q => by rw [up2_a p]; exact R.1.1 a p (by omega), fun m p q s t => by rw [up2_i p]; exact R.1.2.1 m t⟩ up2_s (fun g => absurd g.1 hs) (fun _ => ?_)
      · rw [if_neg (fun hh => hs hh.1)] at this
        simp only [k177_0, k177_1, k177_2, k177_5, k177_6, k177_7, k177_10, k177_11, k177_12, k177_15, k177_16, k177_17, k177_20, k177_21, k177_24, k177_26, k177_29, k177_30, k177_32, k177_35, k177_38, k177_39, k177_42, k177_43, k177_46, k177_47, k177_50, k177_51, k177_54, k177_55, k177_58, k177_61, k177_62, k177_65, k177_66, k177_67, k177_68, k177_69, k177_72, k177_73, k177_76, k177_78, k177_79, k177_82, k177_83, k177_84, k177_85, k177_86, k177_89, k177_90, k177_91, k177_94, k177_97, k177_98, k177_100, k177_101, k177_104, k177_107, k177_108, k177_111, k177_112, k177_113, k177_116, k177_117, k177_118, k177_119, k177_120, k177_123, k177_124, k177_125, k177_128, k177_129, k177_130, k177_131, k177_132, k177_135, k177_136, k177_137, k177_140, k177_141, k177_142, k177_143, k177_146, k177_149, k177_150, k177_152, k177_153, k177_156, k177_159, k177_160, k177_163, k177_164, k177_165, k177_168, k177_169, k177_170, k177_171, k177_174, k177_177, k177_178, mm_sI, mm_sJ, mm_sR, mm_cI, mm_cJ, mm_I, mm_J, mm_R, mm_K, mm_N, psh_s, psh_n, z_n, z_i, z_r, z_l, Nat.reduceAdd, Nat.reduceLeDiff, K113 hS, R113_2 hS, R113_3 hS, R113_5 hS, R113_8 hS, R113_9 hS, R113_10 hS, R113_11 hS, R113_16 hS, R113_17 hS, R113_18 hS, R113_19 hS, R113_20 hS, R113_21 hS, R113_22 hS, R113_26 hS, R113_27 hS, R113_30 hS, R113_32 hS, R113_34 hS, R113_35 hS, R113_36 hS, R113_37 hS, R113_40 hS, R113_41 hS, R113_42 hS, R113_43 hS, R113_44 hS, R113_45 hS, R113_47 hS, K114 hS, K115 hS, K116 hS, K117 hS, K118 hS, K119 hS, K120 hS, K121 hS, K122 hS, K123 hS, K124 hS, K125 hS, K126 hS, K127 hS, K128 hS, K129 hS, K130 hS, K131 hS, K132 hS, K133 hS, K134 hS, K135 hS, K136 hS, K137 hS, K138 hS, K139 hS, K140 hS, K141 hS, K142 hS, N114 hS, N115 hS, N116 hS, N117 hS, N118 hS, N119 hS, N120 hS, N121 hS, N122 hS, N123 hS, N124 hS, N125 hS, N126 hS, N127 hS, N128 hS, N129 hS, N130 hS, N131 hS, N132 hS, N133 hS, N134 hS, N135 hS, N136 hS, N137 hS, N138 hS, N139 hS, N140 hS, N141 hS, N142 hS, false_or, or_false, ne_eq, true_or, or_true, not_false_eq_true, Nat.reduceEqDiff, Nat.reduceLT, Nat.reduceLeDiff, Nat.reduceAdd, if_true, p4]; exact this
      · rw [up2_a (by decide), up2_a (by decide), up2_a (by decide), up2_a (by decide), up2_i (by decide), up2_i (by decide)]
        exact ⟨R.1.1 _ (by decide) (by decide), R.1.1 _ (by decide) (by decide), R.1.1 _ (by decide) (by decide), R.1.1 _ (by decide) (by decide), R.1.2.1 _ (by decide), R.1.2.1 _ (by decide)⟩
    have hb : bz = 1 := by rw [hb, b2i_t hs]
    subst hb
    by_cases c : (txR T n).2.1 = n
    case neg =>
      have c1 : (nI (txR T n).2.1 = nI n) = False := by rw [nEq (by omega) (by omega)]; exact eq_false c
      have := hQ (up2 h3 113 4 0) ⟨fun a p q => by rw [up2_a p]; exact R.1.1 a p (by omega), fun m p q s t => by rw [up2_i p]; exact R.1.2.1 m t⟩ up2_s (fun g => absurd g.2 c) (fun _ => ?_)
      · rw [if_neg (fun hh => c hh.2)] at this
        simp only [k177_0, k177_1, k177_2, k177_5, k177_6, k177_7, k177_10, k177_11, k177_12, k177_15, k177_16, k177_17, k177_20, k177_21, k177_24, k177_26, k177_29, k177_30, k177_32, k177_35, k177_38, k177_39, k177_42, k177_43, k177_46, k177_47, k177_50, k177_51, k177_54, k177_55, k177_58, k177_61, k177_62, k177_65, k177_66, k177_67, k177_68, k177_69, k177_72, k177_73, k177_76, k177_78, k177_79, k177_82, k177_83, k177_84, k177_85, k177_86, k177_89, k177_90, k177_91, k177_94, k177_97, k177_98, k177_100, k177_101, k177_104, k177_107, k177_108, k177_111, k177_112, k177_113, k177_116, k177_117, k177_118, k177_119, k177_120, k177_123, k177_124, k177_125, k177_128, k177_129, k177_130, k177_131, k177_132, k177_135, k177_136, k177_137, k177_140, k177_141, k177_142, k177_143, k177_146, k177_149, k177_150, k177_152, k177_153, k177_156, k177_159, k177_160, k177_163, k177_164, k177_165, k177_168, k177_169, k177_170, k177_171, k177_174, k177_177, k177_178, mm_sI, mm_sJ, mm_sR, mm_cI, mm_cJ, mm_I, mm_J, mm_R, mm_K, mm_N, psh_s, psh_n, z_n, z_i, z_r, z_l, Nat.reduceAdd, Nat.reduceLeDiff, K113 hS, R113_2 hS, R113_3 hS, R113_5 hS, R113_8 hS, R113_9 hS, R113_10 hS, R113_11 hS, R113_16 hS, R113_17 hS, R113_18 hS, R113_19 hS, R113_20 hS, R113_21 hS, R113_22 hS, R113_26 hS, R113_27 hS, R113_30 hS, R113_32 hS, R113_34 hS, R113_35 hS, R113_36 hS, R113_37 hS, R113_40 hS, R113_41 hS, R113_42 hS, R113_43 hS, R113_44 hS, R113_45 hS, R113_47 hS, K114 hS, K115 hS, K116 hS, K117 hS, K118 hS, K119 hS, K120 hS, K121 hS, K122 hS, K123 hS, K124 hS, K125 hS, K126 hS, K127 hS, K128 hS, K129 hS, K130 hS, K131 hS, K132 hS, K133 hS, K134 hS, K135 hS, K136 hS, K137 hS, K138 hS, K139 hS, K140 hS, K141 hS, K142 hS, N114 hS, N115 hS, N116 hS, N117 hS, N118 hS, N119 hS, N120 hS, N121 hS, N122 hS, N123 hS, N124 hS, N125 hS, N126 hS, N127 hS, N128 hS, N129 hS, N130 hS, N131 hS, N132 hS, N133 hS, N134 hS, N135 hS, N136 hS, N137 hS, N138 hS, N139 hS, N140 hS, N141 hS, N142 hS, false_or, or_false, ne_eq, true_or, or_true, not_false_eq_true, Nat.reduceEqDiff, Nat.reduceLT, Nat.reduceLeDiff, Nat.reduceAdd, e10, if_true, if_false, R.2.1, X3.ln, c1, p4]; exact this
      · rw [up2_a (by decide), up2_a (by decide), up2_a (by decide), up2_a (by decide), up2_i (by decide), up2_i (by decide)]
        exact ⟨R.1.1 _ (by decide) (by decide), R.1.1 _ (by decide) (by decide), R.1.1 _ (by decide) (by decide), R.1.1 _ (by decide) (by decide), R.1.2.1 _ (by decide), R.1.2.1 _ (by decide)⟩
    have c1 : (nI (txR T n).2.1 = nI n) = True := by rw [c]; exact eq_self _
    obtain ⟨r1, r2, r3, r4, r5⟩ := R.2.2.2 hs
    have p15 : up2 (up2 h3 113 4 0) 113 6 1 113 15 = nI (txR T n).2.2.length := by rw [up2_i (by decide), up2_i (by decide)]; exact r2
    simp only [k177_0, k177_1, k177_2, k177_5, k177_6, k177_7, k177_10, k177_11, k177_12, k177_15, k177_16, k177_17, k177_20, k177_21, k177_24, k177_26, k177_29, k177_30, k177_32, k177_35, k177_38, k177_39, k177_42, k177_43, k177_46, k177_47, k177_50, k177_51, k177_54, k177_55, k177_58, k177_61, k177_62, k177_65, k177_66, k177_67, k177_68, k177_69, k177_72, k177_73, k177_76, k177_78, k177_79, k177_82, k177_83, k177_84, k177_85, k177_86, k177_89, k177_90, k177_91, k177_94, k177_97, k177_98, k177_100, k177_101, k177_104, k177_107, k177_108, k177_111, k177_112, k177_113, k177_116, k177_117, k177_118, k177_119, k177_120, k177_123, k177_124, k177_125, k177_128, k177_129, k177_130, k177_131, k177_132, k177_135, k177_136, k177_137, k177_140, k177_141, k177_142, k177_143, k177_146, k177_149, k177_150, k177_152, k177_153, k177_156, k177_159, k177_160, k177_163, k177_164, k177_165, k177_168, k177_169, k177_170, k177_171, k177_174, k177_177, k177_178, mm_sI, mm_sJ, mm_sR, mm_cI, mm_cJ, mm_I, mm_J, mm_R, mm_K, mm_N, psh_s, psh_n, z_n, z_i, z_r, z_l, Nat.reduceAdd, Nat.reduceLeDiff, K113 hS, R113_2 hS, R113_3 hS, R113_5 hS, R113_8 hS, R113_9 hS, R113_10 hS, R113_11 hS, R113_16 hS, R113_17 hS, R113_18 hS, R113_19 hS, R113_20 hS, R113_21 hS, R113_22 hS, R113_26 hS, R113_27 hS, R113_30 hS, R113_32 hS, R113_34 hS, R113_35 hS, R113_36 hS, R113_37 hS, R113_40 hS, R113_41 hS, R113_42 hS, R113_43 hS, R113_44 hS, R113_45 hS, R113_47 hS, K114 hS, K115 hS, K116 hS, K117 hS, K118 hS, K119 hS, K120 hS, K121 hS, K122 hS, K123 hS, K124 hS, K125 hS, K126 hS, K127 hS, K128 hS, K129 hS, K130 hS, K131 hS, K132 hS, K133 hS, K134 hS, K135 hS, K136 hS, K137 hS, K138 hS, K139 hS, K140 hS, K141 hS, K142 hS, N114 hS, N115 hS, N116 hS, N117 hS, N118 hS, N119 hS, N120 hS, N121 hS, N122 hS, N123 hS, N124 hS, N125 hS, N126 hS, N127 hS, N128 hS, N129 hS, N130 hS, N131 hS, N132 hS, N133 hS, N134 hS, N135 hS, N136 hS, N137 hS, N138 hS, N139 hS, N140 hS, N141 hS, N142 hS, false_or, or_false, ne_eq, true_or, or_true, not_false_eq_true, Nat.reduceEqDiff, Nat.reduceLT, Nat.reduceLeDiff, Nat.reduceAdd, e10, if_true, if_false, R.2.1, X3.ln, c1, p15]
    refine m_cpA (d := e + 2) hS (h := up2 (up2 (up2 h3 113 4 0) 113 6 1) 113 7 (nI (txR T n).2.2.length)) (K := (txR T n).2.2.length) up2_s (by omega) (m := (txR T n).2.2.length) (i := 0) (by omega) (fun _ _ _ _ => rfl) (fun w hw => absurd hw (Nat.not_lt_zero _)) ?_
    intro h4 f4 g4
    simp only [k177_0, k177_1, k177_2, k177_5, k177_6, k177_7, k177_10, k177_11, k177_12, k177_15, k177_16, k177_17, k177_20, k177_21, k177_24, k177_26, k177_29, k177_30, k177_32, k177_35, k177_38, k177_39, k177_42, k177_43, k177_46, k177_47, k177_50, k177_51, k177_54, k177_55, k177_58, k177_61, k177_62, k177_65, k177_66, k177_67, k177_68, k177_69, k177_72, k177_73, k177_76, k177_78, k177_79, k177_82, k177_83, k177_84, k177_85, k177_86, k177_89, k177_90, k177_91, k177_94, k177_97, k177_98, k177_100, k177_101, k177_104, k177_107, k177_108, k177_111, k177_112, k177_113, k177_116, k177_117, k177_118, k177_119, k177_120, k177_123, k177_124, k177_125, k177_128, k177_129, k177_130, k177_131, k177_132, k177_135, k177_136, k177_137, k177_140, k177_141, k177_142, k177_143, k177_146, k177_149, k177_150, k177_152, k177_153, k177_156, k177_159, k177_160, k177_163, k177_164, k177_165, k177_168, k177_169, k177_170, k177_171, k177_174, k177_177, k177_178, mm_sI, mm_sJ, mm_sR, mm_cI, mm_cJ, mm_I, mm_J, mm_R, mm_K, mm_N, psh_s, psh_n, z_n, z_i, z_r, z_l, Nat.reduceAdd, Nat.reduceLeDiff, K113 hS, R113_2 hS, R113_3 hS, R113_5 hS, R113_8 hS, R113_9 hS, R113_10 hS, R113_11 hS, R113_16 hS, R113_17 hS, R113_18 hS, R113_19 hS, R113_20 hS, R113_21 hS, R113_22 hS, R113_26 hS, R113_27 hS, R113_30 hS, R113_32 hS, R113_34 hS, R113_35 hS, R113_36 hS, R113_37 hS, R113_40 hS, R113_41 hS, R113_42 hS, R113_43 hS, R113_44 hS, R113_45 hS, R113_47 hS, K114 hS, K115 hS, K116 hS, K117 hS, K118 hS, K119 hS, K120 hS, K121 hS, K122 hS, K123 hS, K124 hS, K125 hS, K126 hS, K127 hS, K128 hS, K129 hS, K130 hS, K131 hS, K132 hS, K133 hS, K134 hS, K135 hS, K136 hS, K137 hS, K138 hS, K139 hS, K140 hS, K141 hS, K142 hS, N114 hS, N115 hS, N116 hS, N117 hS, N118 hS, N119 hS, N120 hS, N121 hS, N122 hS, N123 hS, N124 hS, N125 hS, N126 hS, N127 hS, N128 hS, N129 hS, N130 hS, N131 hS, N132 hS, N133 hS, N134 hS, N135 hS, N136 hS, N137 hS, N138 hS, N139 hS, N140 hS, N141 hS, N142 hS, false_or, or_false, ne_eq, true_or, or_true, not_false_eq_true, Nat.reduceEqDiff, Nat.reduceLT, Nat.reduceLeDiff, Nat.reduceAdd]
    have q14 : h4 113 14 = nI (szF (txR T n).2.2) := by rw [f4 113 (by decide) (by decide) (by decide), up2_i (by decide), up2_i (by decide), up2_i (by decide)]; exact r1
    refine m_cdL (d := e + 2) hS (h := h4) (K := szF (txR T n).2.2) q14 (by omega) (m := szF (txR T n).2.2) (i := 0) (by omega) (fun _ _ => rfl) (fun w hw => absurd hw (Nat.not_lt_zero _)) ?_
    intro h5 f5 g5
    have x113 : h5 113 = up2 (up2 (up2 h3 113 4 0) 113 6 1) 113 7 (nI (txR T n).2.2.length) 113 := by rw [f5 113 (by decide), f4 113 (by decide) (by decide) (by decide)]
    have := hQ h5 ⟨fun a p q => ?_, fun m p q s t => ?_⟩ ?_ (fun _ => ⟨?_, ?_, ?_, by omega, by omega⟩) (fun g => absurd ⟨hs, c⟩ g)
    · rw [if_pos ⟨hs, c⟩] at this; exact this
    · rw [f5 a (by omega), f4 a (by omega) (by omega) (by omega), up2_a p, up2_a p, up2_a p]; exact R.1.1 a p (by omega)
    · rw [x113, up2_i s, up2_i q, up2_i p]; exact R.1.2.1 m t
    · rw [x113, up2_i (by decide), up2_i (by decide), up2_s]
    · rw [x113, up2_i (by decide), up2_s]
    · rw [x113, up2_s]
    · refine mLn_fr r3 (fun m _ hm => ?_) (fun m _ hm => ?_)
      · obtain ⟨y1, y2, y3⟩ := g4 m (by omega)
        rw [up2_a (by decide), up2_a (by decide), up2_a (by decide)] at y1 y2 y3
        rw [f5 117 (by decide), f5 118 (by decide), f5 119 (by decide)]; exact ⟨y1, y2, y3⟩
      · rw [g5 m (by omega), f4 124 (by decide) (by decide) (by decide), up2_a (by decide), up2_a (by decide), up2_a (by decide)]
  have hl : ∀ {m m' : Nat} {s : TR}, n - s.2.1 < 2 * m → n - s.2.1 < 2 * m' → lsR T n m s = lsR T n m' s := by
    intro m
    induction m with
    | zero => intro m' s hm; omega
    | succ m ih =>
      intro m' s hm hm'
      cases m' with
      | zero => omega
      | succ m' =>
        rw [lsR, lsR]
        by_cases cc : s.1 = true ∧ s.2.1 < n ∧ T s.2.1 = 59
        · rw [if_pos cc, if_pos cc]
          obtain ⟨b1, b2, b3⟩ := @lnR_i n (s.2.1 + 1) T
          by_cases ok : (lnR T n (s.2.1 + 1)).1 = true
          · obtain ⟨c1, c2⟩ := b3 ok
            have c3 : s.2.1 + 1 + 1 ≤ (lnR T n (s.2.1 + 1)).2.1 := by split at c1 <;> omega
            exact ih (by show n - (lnR T n (s.2.1 + 1)).2.1 < 2 * m; omega) (by show n - (lnR T n (s.2.1 + 1)).2.1 < 2 * m'; omega)
          · rw [lsR_f (show ¬ (nxR s (lnR T n (s.2.1 + 1))).1 = true from ok), lsR_f (show ¬ (nxR s (lnR T n (s.2.1 + 1))).1 = true from ok)]
        · rw [if_neg cc, if_neg cc]
  by_cases hs0 : (lnR T n 0).1 = true
  · obtain ⟨c1, c2⟩ := b3 hs0
    have em : lsR T n 121 (nxR (true, 0, []) (lnR T n 0)) = txR T n := hl (by show n - (lnR T n 0).2.1 < 2 * 121; omega) (by show n - (lnR T n 0).2.1 < 2 * 119; omega)
    refine m_rdL he X (m := 121) (by show n - (lnR T n 0).2.1 < 121; omega) rfl R1 (b2 (Nat.zero_le _)) ?_
    rw [em]; exact key
  · have em : ∀ m, lsR T n m (nxR (true, 0, []) (lnR T n 0)) = txR T n := fun m => by
      unfold txR
      rw [lsR_f (show ¬ (nxR (true, 0, []) (lnR T n 0)).1 = true from hs0), lsR_f (show ¬ (nxR (true, 0, []) (lnR T n 0)).1 = true from hs0)]
    refine m_rdL he X (m := n + 1) (by omega) rfl R1 (b2 (Nat.zero_le _)) ?_
    rw [em]; exact key
end LM
