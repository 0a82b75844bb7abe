/-! ===== the model's answers about hours in thought ===== -/
/-- running: from h0 on, with what A keeps, the numbers b -/
def RR (G F : Nat) (W : LW) (A : Nat) (h0 : Hp) (b : BB) (h : Hp) (r : Rp) (E : EE) : Prop := SG h0 h ∧ Kep h0 h A ∧ DD G F W b h r E
section AM
variable {d : Nat} {M : Mem} {h h0 h1 h2 : Hp} {j : Jp} {r : Rp} {E : EE} {Q : Option PV → Mem → Prop} {G F A : Nat} {W : LW} {b bt : BB}
theorem SG.rf : SG h h := ⟨fun _ _ _ _ => rfl, fun _ _ => ⟨rfl, rfl⟩, fun _ _ _ _ => rfl, fun _ _ => rfl, fun _ _ => rfl⟩
theorem SG.tr (a : SG h h1) (c : SG h1 h2) : SG h h2 := ⟨fun x p q s => (c.1 x p q s).trans (a.1 x p q s), fun i hi => ⟨((c.2.1 i hi).1).trans (a.2.1 i hi).1, ((c.2.1 i hi).2).trans (a.2.1 i hi).2⟩, fun i p q s => (c.2.2.1 i p q s).trans (a.2.2.1 i p q s), fun i p => (c.2.2.2.1 i p).trans (a.2.2.2.1 i p), fun i p => (c.2.2.2.2 i p).trans (a.2.2.2.2 i p)⟩
theorem SG.ofS (s : Scr h h1) : SG h h1 := ⟨fun x p _ _ => s.1 x p, s.2.1, s.2.2, fun i _ => by rw [s.1 114 (by unfold scrA; omega)], fun i _ => by rw [s.1 115 (by unfold scrA; omega)]⟩
theorem SG.ofG (a : FrG h h1) : SG h h1 := by
  refine ⟨fun x p q s => ?_, fun i hi => ⟨?_, ?_⟩, fun i p q s => a.2.1 i p q, a.2.2.1, a.2.2.2.1⟩
  · unfold scrA at p; exact a.1 x (by omega) q s (by omega) (by omega) (by omega)
  · rw [a.1 27 (by decide) (by decide) (by decide) (by decide) (by decide) (by decide)]
  · rw [a.1 32 (by decide) (by decide) (by decide) (by decide) (by decide) (by decide)]
theorem Kep.fr (k : Kep h0 h A) (a : FrG h h1) (hA : A = 136 ∨ A = 137) : Kep h0 h1 A := by
  have e := a.1 A (by omega) (by omega) (by omega) (by omega) (by omega) (by omega)
  unfold Kep; rw [e]; exact k
theorem RR.fr (R : RR G F W A h0 b h r E) (hA : A = 136 ∨ A = 137) (a : FrG h h1) (D : DD G F W bt h1 r E) : RR G F W A h0 bt h1 r E := ⟨R.1.tr (SG.ofG a), R.2.1.fr a hA, D⟩
theorem RR.D (R : RR G F W A h0 b h r E) : DD G F W b h r E := R.2.2
theorem DD.sc (D : DD G F W b h r E) (s : Scr h h1) : DD G F W b h1 r E := by
  have e4 := s.1 114 (by unfold scrA; omega)
  have e5 := s.1 115 (by unfold scrA; omega)
  have o : ∀ a, ¬ scrA a → h1 a = h a := s.1
  refine ⟨D.S, (s.2.2 0 (by decide) (by decide) (by decide)).trans D.eG, (s.2.2 1 (by decide) (by decide) (by decide)).trans D.eF, D.G8, D.F8, D.L.fix ⟨o _ (by unfold scrA; omega), o _ (by unfold scrA; omega), o _ (by unfold scrA; omega), o _ (by unfold scrA; omega), s.2.2 7 (by decide) (by decide) (by decide), s.2.2 6 (by decide) (by decide) (by decide)⟩, ?_, D.w⟩
  rw [← D.eb]; exact bM_eq D.G8 D.F8 (fun i _ => by rw [e4]) (fun i _ => by rw [e5])
theorem r_keeps (hS : Sh r E) (hA : A = 136 ∨ A = 137) (D : DD G F W b h r E) (hQ : ∀ h', RR G F W A h b h' r E → Scr h h' → h' 138 = h 138 → Q none (mm h' j r E)) : WP d 190 0 [some (vr 113), some (vr A), none] [] (mm h j r E) Q := by
  have hK : E.1 A = 13 := by rcases hA with rfl | rfl; exact K136 hS; exact K137 hS
  have hN : E.2.1 A = 33 := by rcases hA with rfl | rfl; exact N136 hS; exact N137 hS
  refine m_keeps hS hK hN (by omega) (by omega) (by omega) ?_
  intro h' e _ k
  have s : Scr h h' := ⟨fun x p => e x (by unfold scrA at p; omega), fun i _ => ⟨by rw [e 27 (by omega)], by rw [e 32 (by omega)]⟩, fun i _ _ _ => by rw [e 113 (by omega)]⟩
  exact hQ h' ⟨SG.ofS s, k, D.sc s⟩ s (e 138 (by omega))
theorem layM_o {n m a : Nat} (hA4 : A ≠ 114) (hm : m ≤ 8) (h4 : a ≠ 114) (h5 : a ≠ 115) : layM h A n m a = h a := by
  funext i; unfold layM; rw [up2_a h5, lay3_v hA4 (by omega), if_neg (by omega), if_neg (by omega), if_neg (by omega), lay1_v hA4, if_neg (by omega)]
theorem r_lays2 (hS : Sh r E) (hA : A = 136 ∨ A = 137) (R : RR G F W A h0 b h r E) (hQ : ∀ h', Scr h0 h' → (∀ a, a ≠ 114 → a ≠ 115 → h' a = h a) → Q none (mm h' j r E)) : WP d 191 0 [some (vr 113), some (vr A), some (vi 8), some (vi 8), none] [] (mm h j r E) Q := by
  have hK : E.1 A = 13 := by rcases hA with rfl | rfl; exact K136 hS; exact K137 hS
  have hN : E.2.1 A = 33 := by rcases hA with rfl | rfl; exact N136 hS; exact N137 hS
  obtain ⟨s, ⟨k, k5⟩, D⟩ := R
  rw [show (8 : Int32) = nI 8 from rfl, m_laysBack hS hK hN (by omega) (by omega) (by omega) (Nat.le_refl 8) (Nat.le_refl 8)]
  have o : ∀ a, a ≠ 114 → a ≠ 115 → layM h A 8 8 a = h a := fun a p q => layM_o (by omega) (by decide) p q
  refine hQ _ ⟨?_, ?_, ?_⟩ o
  · intro a ha
    by_cases a4 : a = 114
    · subst a4
      funext i
      unfold layM
      rw [up2_a (by decide), lay3_v (by omega) (by decide)]
      simp only [true_and, Nat.add_zero]
      by_cases b1 : 16 ≤ i ∧ i < 24
      · rw [if_pos (by omega), lay1_v (by omega), if_neg (by omega)]
        have := (k (i - 16) (by omega)).2.1
        rw [show 8 + (i - 16) = i - 8 by omega, show 16 + (i - 16) = i by omega] at this; exact this
      · rw [if_neg (by omega)]
        by_cases b2 : 32 ≤ i ∧ i < 40
        · rw [if_pos (by omega), lay1_v (by omega), if_neg (by omega)]
          have := (k (i - 32) (by omega)).2.2.1
          rw [show 16 + (i - 32) = i - 16 by omega, show 32 + (i - 32) = i by omega] at this; exact this
        · rw [if_neg (by omega)]
          by_cases b3 : 40 ≤ i ∧ i < 48
          · rw [if_pos (by omega), lay1_v (by omega), if_neg (by omega)]
            have := (k (i - 40) (by omega)).2.2.2
            rw [show 24 + (i - 40) = i - 16 by omega, show 40 + (i - 40) = i by omega] at this; exact this
          · rw [if_neg (by omega), lay1_v (by omega)]
            by_cases b0 : 8 ≤ i ∧ i < 16
            · rw [if_pos (by omega)]
              have := (k (i - 8) (by omega)).1
              rw [show 8 + (i - 8) = i by omega] at this; exact this
            · rw [if_neg (by omega)]
              exact s.2.2.2.1 i (by omega)
    · by_cases a5 : a = 115
      · subst a5
        funext i
        unfold layM
        by_cases i1 : i = 1
        · subst i1; rw [up2_s]; exact k5
        · rw [up2_i i1, lay3_v (by omega) (by decide), if_neg (by omega), if_neg (by omega), if_neg (by omega), lay1_v (by omega), if_neg (by omega)]
          exact s.2.2.2.2 i i1
      · rw [o a a4 a5]; exact s.1 a ha a4 a5
  · intro i hi
    rw [o 27 (by decide) (by decide), o 32 (by decide) (by decide)]; exact s.2.1 i hi
  · intro i p q t
    rw [o 113 (by decide) (by decide)]; exact s.2.2.1 i p q t
theorem r_lays (hS : Sh r E) (hA : A = 136 ∨ A = 137) (R : RR G F W A h0 b h r E) (hQ : ∀ h', Scr h0 h' → h' 138 = h 138 → Q none (mm h' j r E)) : WP d 191 0 [some (vr 113), some (vr A), some (vi 8), some (vi 8), none] [] (mm h j r E) Q :=
  r_lays2 hS hA R (fun h' s o => hQ h' s (o 138 (by decide) (by decide)))
theorem r_laysW (hS : Sh r E) (R : RR G F W 136 h0 b h r E) (hQ : ∀ h', Scr h0 h' → h' 138 = h 138 → Q none (mm h' j r E)) : WP (d + 1) 192 0 [some (vr 113)] [] (mm h j r E) Q := by
  simp only [k192_0, k192_1, k192_2, k192_5, k192_7, k192_9, k192_12, mm_sI, mm_sJ, mm_sR, mm_cI, mm_cJ, mm_I, mm_J, mm_R, mm_K, mm_N, psh_s, psh_n, z_n, z_i, z_r, z_l, Nat.reduceAdd, Nat.reduceLeDiff, K113 hS, R113_2 hS, R113_3 hS, R113_5 hS, R113_8 hS, R113_9 hS, R113_10 hS, R113_11 hS, R113_16 hS, R113_17 hS, R113_18 hS, R113_19 hS, R113_20 hS, R113_21 hS, R113_22 hS, R113_26 hS, R113_27 hS, R113_30 hS, R113_32 hS, R113_34 hS, R113_35 hS, R113_36 hS, R113_37 hS, R113_40 hS, R113_41 hS, R113_42 hS, R113_43 hS, R113_44 hS, R113_45 hS, R113_47 hS, K114 hS, K115 hS, K116 hS, K117 hS, K118 hS, K119 hS, K120 hS, K121 hS, K122 hS, K123 hS, K124 hS, K125 hS, K126 hS, K127 hS, K128 hS, K129 hS, K130 hS, K131 hS, K132 hS, K133 hS, K134 hS, K135 hS, K136 hS, K137 hS, K138 hS, K139 hS, K140 hS, K141 hS, K142 hS, N114 hS, N115 hS, N116 hS, N117 hS, N118 hS, N119 hS, N120 hS, N121 hS, N122 hS, N123 hS, N124 hS, N125 hS, N126 hS, N127 hS, N128 hS, N129 hS, N130 hS, N131 hS, N132 hS, N133 hS, N134 hS, N135 hS, N136 hS, N137 hS, N138 hS, N139 hS, N140 hS, N141 hS, N142 hS, ne_eq, true_or, or_true, not_false_eq_true, Nat.reduceEqDiff, Nat.reduceLT, Nat.reduceLeDiff, Nat.reduceAdd]
  refine r_lays hS (Or.inl rfl) R ?_
  intro h' s e
  simp only [k192_0, k192_1, k192_2, k192_5, k192_7, k192_9, k192_12, mm_sI, mm_sJ, mm_sR, mm_cI, mm_cJ, mm_I, mm_J, mm_R, mm_K, mm_N, psh_s, psh_n, z_n, z_i, z_r, z_l, Nat.reduceAdd, Nat.reduceLeDiff]
  exact hQ h' s e
theorem r_laysH (hS : Sh r E) (R : RR G F W 136 h0 b h r E) (hQ : ∀ h', Scr h0 h' → h' 142 = h 142 → Q none (mm h' j r E)) : WP (d + 1) 192 0 [some (vr 113)] [] (mm h j r E) Q := by
  simp only [k192_0, k192_1, k192_2, k192_5, k192_7, k192_9, k192_12, mm_sI, mm_sJ, mm_sR, mm_cI, mm_cJ, mm_I, mm_J, mm_R, mm_K, mm_N, psh_s, psh_n, z_n, z_i, z_r, z_l, Nat.reduceAdd, Nat.reduceLeDiff, K113 hS, R113_2 hS, R113_3 hS, R113_5 hS, R113_8 hS, R113_9 hS, R113_10 hS, R113_11 hS, R113_16 hS, R113_17 hS, R113_18 hS, R113_19 hS, R113_20 hS, R113_21 hS, R113_22 hS, R113_26 hS, R113_27 hS, R113_30 hS, R113_32 hS, R113_34 hS, R113_35 hS, R113_36 hS, R113_37 hS, R113_40 hS, R113_41 hS, R113_42 hS, R113_43 hS, R113_44 hS, R113_45 hS, R113_47 hS, K114 hS, K115 hS, K116 hS, K117 hS, K118 hS, K119 hS, K120 hS, K121 hS, K122 hS, K123 hS, K124 hS, K125 hS, K126 hS, K127 hS, K128 hS, K129 hS, K130 hS, K131 hS, K132 hS, K133 hS, K134 hS, K135 hS, K136 hS, K137 hS, K138 hS, K139 hS, K140 hS, K141 hS, K142 hS, N114 hS, N115 hS, N116 hS, N117 hS, N118 hS, N119 hS, N120 hS, N121 hS, N122 hS, N123 hS, N124 hS, N125 hS, N126 hS, N127 hS, N128 hS, N129 hS, N130 hS, N131 hS, N132 hS, N133 hS, N134 hS, N135 hS, N136 hS, N137 hS, N138 hS, N139 hS, N140 hS, N141 hS, N142 hS, ne_eq, true_or, or_true, not_false_eq_true, Nat.reduceEqDiff, Nat.reduceLT, Nat.reduceLeDiff, Nat.reduceAdd]
  refine r_lays2 hS (Or.inl rfl) R ?_
  intro h' s e
  simp only [k192_0, k192_1, k192_2, k192_5, k192_7, k192_9, k192_12, mm_sI, mm_sJ, mm_sR, mm_cI, mm_cJ, mm_I, mm_J, mm_R, mm_K, mm_N, psh_s, psh_n, z_n, z_i, z_r, z_l, Nat.reduceAdd, Nat.reduceLeDiff]
  exact hQ h' s (e 142 (by decide) (by decide))
theorem m_owL (D : DD G F W b h r E) : ∀ {k f : Nat} {a : Int32}, f + k = F → WP (d + 1) 193 4 [some (vr 113), some (vi a), some (vi (nI f))] [] (mm h j r E) Q = Q (some (vi (owL b f k a))) (mm h j r E) := by
  have hS := D.S
  have hF8 := D.F8
  intro k
  induction k with
  | zero =>
    intro f a hk
    have : f = F := by omega
    subst this
    rw [k193_4]
    simp only [k193_0, k193_1, k193_2, k193_3, k193_5, k193_6, k193_9, k193_12, k193_13, k193_14, k193_17, k193_18, k193_21, k193_22, k193_23, k193_24, k193_25, k193_26, k193_27, k193_30, k193_33, k193_34, mm_sI, mm_sJ, mm_sR, mm_cI, mm_cJ, mm_I, mm_J, mm_R, mm_K, mm_N, psh_s, psh_n, z_n, z_i, z_r, z_l, Nat.reduceAdd, Nat.reduceLeDiff, K113 hS, R113_2 hS, R113_3 hS, R113_5 hS, R113_8 hS, R113_9 hS, R113_10 hS, R113_11 hS, R113_16 hS, R113_17 hS, R113_18 hS, R113_19 hS, R113_20 hS, R113_21 hS, R113_22 hS, R113_26 hS, R113_27 hS, R113_30 hS, R113_32 hS, R113_34 hS, R113_35 hS, R113_36 hS, R113_37 hS, R113_40 hS, R113_41 hS, R113_42 hS, R113_43 hS, R113_44 hS, R113_45 hS, R113_47 hS, K114 hS, K115 hS, K116 hS, K117 hS, K118 hS, K119 hS, K120 hS, K121 hS, K122 hS, K123 hS, K124 hS, K125 hS, K126 hS, K127 hS, K128 hS, K129 hS, K130 hS, K131 hS, K132 hS, K133 hS, K134 hS, K135 hS, K136 hS, K137 hS, K138 hS, K139 hS, K140 hS, K141 hS, K142 hS, N114 hS, N115 hS, N116 hS, N117 hS, N118 hS, N119 hS, N120 hS, N121 hS, N122 hS, N123 hS, N124 hS, N125 hS, N126 hS, N127 hS, N128 hS, N129 hS, N130 hS, N131 hS, N132 hS, N133 hS, N134 hS, N135 hS, N136 hS, N137 hS, N138 hS, N139 hS, N140 hS, N141 hS, N142 hS, ne_eq, true_or, or_true, not_false_eq_true, Nat.reduceEqDiff, Nat.reduceLT, Nat.reduceLeDiff, Nat.reduceAdd, D.eF, Int32.le_refl, if_true, owL]
  | succ k ih =>
    intro f a hk
    have hfF : f < F := by omega
    rw [k193_4]
    simp only [k193_0, k193_1, k193_2, k193_3, k193_5, k193_6, k193_9, k193_12, k193_13, k193_14, k193_17, k193_18, k193_21, k193_22, k193_23, k193_24, k193_25, k193_26, k193_27, k193_30, k193_33, k193_34, mm_sI, mm_sJ, mm_sR, mm_cI, mm_cJ, mm_I, mm_J, mm_R, mm_K, mm_N, psh_s, psh_n, z_n, z_i, z_r, z_l, Nat.reduceAdd, Nat.reduceLeDiff, K113 hS, R113_2 hS, R113_3 hS, R113_5 hS, R113_8 hS, R113_9 hS, R113_10 hS, R113_11 hS, R113_16 hS, R113_17 hS, R113_18 hS, R113_19 hS, R113_20 hS, R113_21 hS, R113_22 hS, R113_26 hS, R113_27 hS, R113_30 hS, R113_32 hS, R113_34 hS, R113_35 hS, R113_36 hS, R113_37 hS, R113_40 hS, R113_41 hS, R113_42 hS, R113_43 hS, R113_44 hS, R113_45 hS, R113_47 hS, K114 hS, K115 hS, K116 hS, K117 hS, K118 hS, K119 hS, K120 hS, K121 hS, K122 hS, K123 hS, K124 hS, K125 hS, K126 hS, K127 hS, K128 hS, K129 hS, K130 hS, K131 hS, K132 hS, K133 hS, K134 hS, K135 hS, K136 hS, K137 hS, K138 hS, K139 hS, K140 hS, K141 hS, K142 hS, N114 hS, N115 hS, N116 hS, N117 hS, N118 hS, N119 hS, N120 hS, N121 hS, N122 hS, N123 hS, N124 hS, N125 hS, N126 hS, N127 hS, N128 hS, N129 hS, N130 hS, N131 hS, N132 hS, N133 hS, N134 hS, N135 hS, N136 hS, N137 hS, N138 hS, N139 hS, N140 hS, N141 hS, N142 hS, ne_eq, true_or, or_true, not_false_eq_true, Nat.reduceEqDiff, Nat.reduceLT, Nat.reduceLeDiff, Nat.reduceAdd, D.eF, nLe (show F < 2 ^ 31 by omega) (show f < 2 ^ 31 by omega), show ¬ F ≤ f by omega, if_false, m_owes hS (show f < 8 by omega), D.v4 hfF, nS1]
    rw [owL]
    by_cases c : b 4 f = -1
    · simp only [c, if_true, Int32.or_zero]; exact ih (by omega)
    · simp only [c, if_false]; exact ih (by omega)
theorem m_owing (D : DD G F W b h r E) : WP (d + 1) 193 0 [some (vr 113), none, none] [] (mm h j r E) Q = Q (some (vi (owB F b))) (mm h j r E) := by
  simp only [k193_0, k193_1, k193_2, k193_3, k193_5, k193_6, k193_9, k193_12, k193_13, k193_14, k193_17, k193_18, k193_21, k193_22, k193_23, k193_24, k193_25, k193_26, k193_27, k193_30, k193_33, k193_34, ne_eq, true_or, or_true, not_false_eq_true, Nat.reduceEqDiff, Nat.reduceLT, Nat.reduceLeDiff, Nat.reduceAdd]
  exact m_owL D (f := 0) (by omega)
theorem m_hdL (D : DD G F W b h r E) : ∀ {k f : Nat} {a : Int32}, f + k = F → WP (d + 1) 194 4 [some (vr 113), some (vi a), some (vi (nI f))] [] (mm h j r E) Q = Q (some (vi (hdL b f k a))) (mm h j r E) := by
  have hS := D.S
  have hF8 := D.F8
  intro k
  induction k with
  | zero =>
    intro f a hk
    have : f = F := by omega
    subst this
    rw [k194_4]
    simp only [k194_0, k194_1, k194_2, k194_3, k194_5, k194_6, k194_9, k194_12, k194_13, k194_14, k194_15, k194_18, k194_19, k194_20, k194_23, k194_26, k194_27, mm_sI, mm_sJ, mm_sR, mm_cI, mm_cJ, mm_I, mm_J, mm_R, mm_K, mm_N, psh_s, psh_n, z_n, z_i, z_r, z_l, Nat.reduceAdd, Nat.reduceLeDiff, K113 hS, R113_2 hS, R113_3 hS, R113_5 hS, R113_8 hS, R113_9 hS, R113_10 hS, R113_11 hS, R113_16 hS, R113_17 hS, R113_18 hS, R113_19 hS, R113_20 hS, R113_21 hS, R113_22 hS, R113_26 hS, R113_27 hS, R113_30 hS, R113_32 hS, R113_34 hS, R113_35 hS, R113_36 hS, R113_37 hS, R113_40 hS, R113_41 hS, R113_42 hS, R113_43 hS, R113_44 hS, R113_45 hS, R113_47 hS, K114 hS, K115 hS, K116 hS, K117 hS, K118 hS, K119 hS, K120 hS, K121 hS, K122 hS, K123 hS, K124 hS, K125 hS, K126 hS, K127 hS, K128 hS, K129 hS, K130 hS, K131 hS, K132 hS, K133 hS, K134 hS, K135 hS, K136 hS, K137 hS, K138 hS, K139 hS, K140 hS, K141 hS, K142 hS, N114 hS, N115 hS, N116 hS, N117 hS, N118 hS, N119 hS, N120 hS, N121 hS, N122 hS, N123 hS, N124 hS, N125 hS, N126 hS, N127 hS, N128 hS, N129 hS, N130 hS, N131 hS, N132 hS, N133 hS, N134 hS, N135 hS, N136 hS, N137 hS, N138 hS, N139 hS, N140 hS, N141 hS, N142 hS, ne_eq, true_or, or_true, not_false_eq_true, Nat.reduceEqDiff, Nat.reduceLT, Nat.reduceLeDiff, Nat.reduceAdd, D.eF, Int32.le_refl, if_true, hdL]
  | succ k ih =>
    intro f a hk
    have hfF : f < F := by omega
    rw [k194_4]
    simp only [k194_0, k194_1, k194_2, k194_3, k194_5, k194_6, k194_9, k194_12, k194_13, k194_14, k194_15, k194_18, k194_19, k194_20, k194_23, k194_26, k194_27, mm_sI, mm_sJ, mm_sR, mm_cI, mm_cJ, mm_I, mm_J, mm_R, mm_K, mm_N, psh_s, psh_n, z_n, z_i, z_r, z_l, Nat.reduceAdd, Nat.reduceLeDiff, K113 hS, R113_2 hS, R113_3 hS, R113_5 hS, R113_8 hS, R113_9 hS, R113_10 hS, R113_11 hS, R113_16 hS, R113_17 hS, R113_18 hS, R113_19 hS, R113_20 hS, R113_21 hS, R113_22 hS, R113_26 hS, R113_27 hS, R113_30 hS, R113_32 hS, R113_34 hS, R113_35 hS, R113_36 hS, R113_37 hS, R113_40 hS, R113_41 hS, R113_42 hS, R113_43 hS, R113_44 hS, R113_45 hS, R113_47 hS, K114 hS, K115 hS, K116 hS, K117 hS, K118 hS, K119 hS, K120 hS, K121 hS, K122 hS, K123 hS, K124 hS, K125 hS, K126 hS, K127 hS, K128 hS, K129 hS, K130 hS, K131 hS, K132 hS, K133 hS, K134 hS, K135 hS, K136 hS, K137 hS, K138 hS, K139 hS, K140 hS, K141 hS, K142 hS, N114 hS, N115 hS, N116 hS, N117 hS, N118 hS, N119 hS, N120 hS, N121 hS, N122 hS, N123 hS, N124 hS, N125 hS, N126 hS, N127 hS, N128 hS, N129 hS, N130 hS, N131 hS, N132 hS, N133 hS, N134 hS, N135 hS, N136 hS, N137 hS, N138 hS, N139 hS, N140 hS, N141 hS, N142 hS, ne_eq, true_or, or_true, not_false_eq_true, Nat.reduceEqDiff, Nat.reduceLT, Nat.reduceLeDiff, Nat.reduceAdd, D.eF, nLe (show F < 2 ^ 31 by omega) (show f < 2 ^ 31 by omega), show ¬ F ≤ f by omega, if_false, m_held hS (show f < 8 by omega), D.v5 hfF, nS1]
    rw [hdL]
    exact ih (by omega)
theorem m_allHeld (D : DD G F W b h r E) : WP (d + 1) 194 0 [some (vr 113), none, none] [] (mm h j r E) Q = Q (some (vi (hdB F b))) (mm h j r E) := by
  simp only [k194_0, k194_1, k194_2, k194_3, k194_5, k194_6, k194_9, k194_12, k194_13, k194_14, k194_15, k194_18, k194_19, k194_20, k194_23, k194_26, k194_27, ne_eq, true_or, or_true, not_false_eq_true, Nat.reduceEqDiff, Nat.reduceLT, Nat.reduceLeDiff, Nat.reduceAdd]
  exact m_hdL D (f := 0) (by omega)
theorem mgoesOn {N : Nat} (R : RR G F W 136 h0 b h r E) (hN : N ≤ 40) (hQ : ∀ h', RR G F W 136 h0 (itB W F N b) h' r E → Q none (mm h' j r E)) : WP (d + 7) 189 0 [some (vr 113), some (vi (nI N)), none] [] (mm h j r E) Q := by
  simp only [k189_0, k189_1, k189_3, k189_4, k189_7, k189_8, k189_11, k189_14, k189_17, ne_eq, true_or, or_true, not_false_eq_true, Nat.reduceEqDiff, Nat.reduceLT, Nat.reduceLeDiff, Nat.reduceAdd]
  refine m_goesOn hN (i := 0) (k := N) (by omega) R.D ?_
  intro h' fr D
  exact hQ h' (R.fr (Or.inl rfl) fr D)
theorem m_later {n number what : Int32} (D : DD G F W b h r E) (hQ : ∀ h', Scr h h' → Q (some (vi (laterA G F W b n number what))) (mm h' j r E)) :
    WP (d + 8) 195 0 [some (vr 113), some (vi n), some (vi number), some (vi what), none] [] (mm h j r E) Q := by
  have hS := D.S
  have hG8 := D.G8
  have hF8 := D.F8
  have h41 : b2i (0 ≤ n ∧ n ≤ 40) = b2i (inb n 41) := in_lit rfl (by decide)
  have h4 : b2i (0 ≤ what ∧ what ≤ 3) = b2i (inb what 4) := in_lit rfl (by decide)
  have hr := hQ h Scr.rf
  unfold laterA at hQ hr
  have post : ∀ u, u < (if what = 3 then G else F) → number = nI u → inb n 41 → inb what 4 → (∀ h', Scr h h' → Q (some (vi (if what = 0 then itB W F (ix n) b 5 (ix number) else if what = 1 then itB W F (ix n) b 2 (ix number) else if what = 2 then itB W F (ix n) b 4 (ix number) else itB W F (ix n) b 1 (ix number)))) (mm h' j r E)) → WP (d + 8) 195 46 [some (vr 113), some (vi n), some (vi number), some (vi what), none] [] (mm h j r E) Q := by
    intro u hu en c1 c2 hQ
    subst en
    obtain ⟨N, hN, rfl, _⟩ := inb_of c1
    have hu8 : u < 8 := by split at hu <;> omega
    have ex : ix (nI u) = u := ix_n (by omega)
    have hi : ∀ c, c ≤ 40 → inb (nI (c + u)) 48 = True := fun c hc => eq_true (by rw [inb_n (by omega)]; omega)
    have hx : ∀ c, c ≤ 40 → ix (nI (c + u)) = c + u := fun c hc => ix_n (by omega)
    rw [ix_n (by omega), ex] at hQ
    simp only [k195_0, k195_1, k195_2, k195_4, k195_7, k195_10, k195_11, k195_12, k195_13, k195_16, k195_19, k195_20, k195_21, k195_24, k195_25, k195_26, k195_29, k195_32, k195_35, k195_36, k195_37, k195_40, k195_43, k195_45, k195_46, k195_47, k195_48, k195_51, k195_54, k195_55, k195_56, k195_59, k195_60, k195_63, k195_64, k195_65, k195_68, k195_71, k195_72, k195_73, k195_76, k195_77, k195_80, k195_82, k195_83, k195_84, k195_85, k195_88, k195_89, k195_90, k195_93, k195_94, k195_95, k195_98, k195_101, k195_102, k195_105, k195_107, k195_108, k195_109, k195_110, k195_112, k195_113, k195_116, k195_118, mm_sI, mm_sJ, mm_sR, mm_cI, mm_cJ, mm_I, mm_J, mm_R, mm_K, mm_N, psh_s, psh_n, z_n, z_i, z_r, z_l, Nat.reduceAdd, Nat.reduceLeDiff, K113 hS, R113_2 hS, R113_3 hS, R113_5 hS, R113_8 hS, R113_9 hS, R113_10 hS, R113_11 hS, R113_16 hS, R113_17 hS, R113_18 hS, R113_19 hS, R113_20 hS, R113_21 hS, R113_22 hS, R113_26 hS, R113_27 hS, R113_30 hS, R113_32 hS, R113_34 hS, R113_35 hS, R113_36 hS, R113_37 hS, R113_40 hS, R113_41 hS, R113_42 hS, R113_43 hS, R113_44 hS, R113_45 hS, R113_47 hS, K114 hS, K115 hS, K116 hS, K117 hS, K118 hS, K119 hS, K120 hS, K121 hS, K122 hS, K123 hS, K124 hS, K125 hS, K126 hS, K127 hS, K128 hS, K129 hS, K130 hS, K131 hS, K132 hS, K133 hS, K134 hS, K135 hS, K136 hS, K137 hS, K138 hS, K139 hS, K140 hS, K141 hS, K142 hS, N114 hS, N115 hS, N116 hS, N117 hS, N118 hS, N119 hS, N120 hS, N121 hS, N122 hS, N123 hS, N124 hS, N125 hS, N126 hS, N127 hS, N128 hS, N129 hS, N130 hS, N131 hS, N132 hS, N133 hS, N134 hS, N135 hS, N136 hS, N137 hS, N138 hS, N139 hS, N140 hS, N141 hS, N142 hS, ne_eq, true_or, or_true, not_false_eq_true, Nat.reduceEqDiff, Nat.reduceLT, Nat.reduceLeDiff, Nat.reduceAdd]
    refine r_keeps hS (Or.inl rfl) D ?_
    intro h1 R _ _
    simp only [k195_0, k195_1, k195_2, k195_4, k195_7, k195_10, k195_11, k195_12, k195_13, k195_16, k195_19, k195_20, k195_21, k195_24, k195_25, k195_26, k195_29, k195_32, k195_35, k195_36, k195_37, k195_40, k195_43, k195_45, k195_46, k195_47, k195_48, k195_51, k195_54, k195_55, k195_56, k195_59, k195_60, k195_63, k195_64, k195_65, k195_68, k195_71, k195_72, k195_73, k195_76, k195_77, k195_80, k195_82, k195_83, k195_84, k195_85, k195_88, k195_89, k195_90, k195_93, k195_94, k195_95, k195_98, k195_101, k195_102, k195_105, k195_107, k195_108, k195_109, k195_110, k195_112, k195_113, k195_116, k195_118, mm_sI, mm_sJ, mm_sR, mm_cI, mm_cJ, mm_I, mm_J, mm_R, mm_K, mm_N, psh_s, psh_n, z_n, z_i, z_r, z_l, Nat.reduceAdd, Nat.reduceLeDiff, K113 hS, R113_2 hS, R113_3 hS, R113_5 hS, R113_8 hS, R113_9 hS, R113_10 hS, R113_11 hS, R113_16 hS, R113_17 hS, R113_18 hS, R113_19 hS, R113_20 hS, R113_21 hS, R113_22 hS, R113_26 hS, R113_27 hS, R113_30 hS, R113_32 hS, R113_34 hS, R113_35 hS, R113_36 hS, R113_37 hS, R113_40 hS, R113_41 hS, R113_42 hS, R113_43 hS, R113_44 hS, R113_45 hS, R113_47 hS, K114 hS, K115 hS, K116 hS, K117 hS, K118 hS, K119 hS, K120 hS, K121 hS, K122 hS, K123 hS, K124 hS, K125 hS, K126 hS, K127 hS, K128 hS, K129 hS, K130 hS, K131 hS, K132 hS, K133 hS, K134 hS, K135 hS, K136 hS, K137 hS, K138 hS, K139 hS, K140 hS, K141 hS, K142 hS, N114 hS, N115 hS, N116 hS, N117 hS, N118 hS, N119 hS, N120 hS, N121 hS, N122 hS, N123 hS, N124 hS, N125 hS, N126 hS, N127 hS, N128 hS, N129 hS, N130 hS, N131 hS, N132 hS, N133 hS, N134 hS, N135 hS, N136 hS, N137 hS, N138 hS, N139 hS, N140 hS, N141 hS, N142 hS, ne_eq, true_or, or_true, not_false_eq_true, Nat.reduceEqDiff, Nat.reduceLT, Nat.reduceLeDiff, Nat.reduceAdd]
    refine mgoesOn R (by omega) ?_
    intro h2 R2
    simp only [k195_0, k195_1, k195_2, k195_4, k195_7, k195_10, k195_11, k195_12, k195_13, k195_16, k195_19, k195_20, k195_21, k195_24, k195_25, k195_26, k195_29, k195_32, k195_35, k195_36, k195_37, k195_40, k195_43, k195_45, k195_46, k195_47, k195_48, k195_51, k195_54, k195_55, k195_56, k195_59, k195_60, k195_63, k195_64, k195_65, k195_68, k195_71, k195_72, k195_73, k195_76, k195_77, k195_80, k195_82, k195_83, k195_84, k195_85, k195_88, k195_89, k195_90, k195_93, k195_94, k195_95, k195_98, k195_101, k195_102, k195_105, k195_107, k195_108, k195_109, k195_110, k195_112, k195_113, k195_116, k195_118, mm_sI, mm_sJ, mm_sR, mm_cI, mm_cJ, mm_I, mm_J, mm_R, mm_K, mm_N, psh_s, psh_n, z_n, z_i, z_r, z_l, Nat.reduceAdd, Nat.reduceLeDiff, K113 hS, R113_2 hS, R113_3 hS, R113_5 hS, R113_8 hS, R113_9 hS, R113_10 hS, R113_11 hS, R113_16 hS, R113_17 hS, R113_18 hS, R113_19 hS, R113_20 hS, R113_21 hS, R113_22 hS, R113_26 hS, R113_27 hS, R113_30 hS, R113_32 hS, R113_34 hS, R113_35 hS, R113_36 hS, R113_37 hS, R113_40 hS, R113_41 hS, R113_42 hS, R113_43 hS, R113_44 hS, R113_45 hS, R113_47 hS, K114 hS, K115 hS, K116 hS, K117 hS, K118 hS, K119 hS, K120 hS, K121 hS, K122 hS, K123 hS, K124 hS, K125 hS, K126 hS, K127 hS, K128 hS, K129 hS, K130 hS, K131 hS, K132 hS, K133 hS, K134 hS, K135 hS, K136 hS, K137 hS, K138 hS, K139 hS, K140 hS, K141 hS, K142 hS, N114 hS, N115 hS, N116 hS, N117 hS, N118 hS, N119 hS, N120 hS, N121 hS, N122 hS, N123 hS, N124 hS, N125 hS, N126 hS, N127 hS, N128 hS, N129 hS, N130 hS, N131 hS, N132 hS, N133 hS, N134 hS, N135 hS, N136 hS, N137 hS, N138 hS, N139 hS, N140 hS, N141 hS, N142 hS, ne_eq, true_or, or_true, not_false_eq_true, Nat.reduceEqDiff, Nat.reduceLT, Nat.reduceLeDiff, Nat.reduceAdd, m_held hS hu8, m_owes hS hu8, a16, a8, hi, hx]
    obtain ⟨w, hw, rfl, _⟩ := inb_of c2
    match w, hw with
    | 0, _ =>
      simp only [nn0, show ((0 : Int32) = 3) = False by simp, if_false, if_true] at hu hQ ⊢
      refine r_laysW hS R2 ?_
      intro h3 s _
      have := hQ h3 s
      simp only [k195_0, k195_1, k195_2, k195_4, k195_7, k195_10, k195_11, k195_12, k195_13, k195_16, k195_19, k195_20, k195_21, k195_24, k195_25, k195_26, k195_29, k195_32, k195_35, k195_36, k195_37, k195_40, k195_43, k195_45, k195_46, k195_47, k195_48, k195_51, k195_54, k195_55, k195_56, k195_59, k195_60, k195_63, k195_64, k195_65, k195_68, k195_71, k195_72, k195_73, k195_76, k195_77, k195_80, k195_82, k195_83, k195_84, k195_85, k195_88, k195_89, k195_90, k195_93, k195_94, k195_95, k195_98, k195_101, k195_102, k195_105, k195_107, k195_108, k195_109, k195_110, k195_112, k195_113, k195_116, k195_118, mm_sI, mm_sJ, mm_sR, mm_cI, mm_cJ, mm_I, mm_J, mm_R, mm_K, mm_N, psh_s, psh_n, z_n, z_i, z_r, z_l, Nat.reduceAdd, Nat.reduceLeDiff]
      rw [R2.D.v5 hu]; exact this
    | 1, _ =>
      simp only [nn1, show ((1 : Int32) = 3) = False by simp, e10, if_false, if_true] at hu hQ ⊢
      refine r_laysW hS R2 ?_
      intro h3 s _
      have := hQ h3 s
      simp only [k195_0, k195_1, k195_2, k195_4, k195_7, k195_10, k195_11, k195_12, k195_13, k195_16, k195_19, k195_20, k195_21, k195_24, k195_25, k195_26, k195_29, k195_32, k195_35, k195_36, k195_37, k195_40, k195_43, k195_45, k195_46, k195_47, k195_48, k195_51, k195_54, k195_55, k195_56, k195_59, k195_60, k195_63, k195_64, k195_65, k195_68, k195_71, k195_72, k195_73, k195_76, k195_77, k195_80, k195_82, k195_83, k195_84, k195_85, k195_88, k195_89, k195_90, k195_93, k195_94, k195_95, k195_98, k195_101, k195_102, k195_105, k195_107, k195_108, k195_109, k195_110, k195_112, k195_113, k195_116, k195_118, mm_sI, mm_sJ, mm_sR, mm_cI, mm_cJ, mm_I, mm_J, mm_R, mm_K, mm_N, psh_s, psh_n, z_n, z_i, z_r, z_l, Nat.reduceAdd, Nat.reduceLeDiff]
      rw [R2.D.v2 hu]; exact this
    | 2, _ =>
      simp only [nn2, show ((2 : Int32) = 3) = False by simp, show ((2 : Int32) = 0) = False by simp, show ((2 : Int32) = 1) = False by simp, if_false, if_true] at hu hQ ⊢
      refine r_laysW hS R2 ?_
      intro h3 s _
      have := hQ h3 s
      simp only [k195_0, k195_1, k195_2, k195_4, k195_7, k195_10, k195_11, k195_12, k195_13, k195_16, k195_19, k195_20, k195_21, k195_24, k195_25, k195_26, k195_29, k195_32, k195_35, k195_36, k195_37, k195_40, k195_43, k195_45, k195_46, k195_47, k195_48, k195_51, k195_54, k195_55, k195_56, k195_59, k195_60, k195_63, k195_64, k195_65, k195_68, k195_71, k195_72, k195_73, k195_76, k195_77, k195_80, k195_82, k195_83, k195_84, k195_85, k195_88, k195_89, k195_90, k195_93, k195_94, k195_95, k195_98, k195_101, k195_102, k195_105, k195_107, k195_108, k195_109, k195_110, k195_112, k195_113, k195_116, k195_118, mm_sI, mm_sJ, mm_sR, mm_cI, mm_cJ, mm_I, mm_J, mm_R, mm_K, mm_N, psh_s, psh_n, z_n, z_i, z_r, z_l, Nat.reduceAdd, Nat.reduceLeDiff]
      rw [R2.D.v4 hu]; exact this
    | 3, _ =>
      simp only [nn3, show ((3 : Int32) = 2) = False by simp, show ((3 : Int32) = 0) = False by simp, show ((3 : Int32) = 1) = False by simp, if_false, if_true] at hu hQ ⊢
      refine r_laysW hS R2 ?_
      intro h3 s _
      have := hQ h3 s
      simp only [k195_0, k195_1, k195_2, k195_4, k195_7, k195_10, k195_11, k195_12, k195_13, k195_16, k195_19, k195_20, k195_21, k195_24, k195_25, k195_26, k195_29, k195_32, k195_35, k195_36, k195_37, k195_40, k195_43, k195_45, k195_46, k195_47, k195_48, k195_51, k195_54, k195_55, k195_56, k195_59, k195_60, k195_63, k195_64, k195_65, k195_68, k195_71, k195_72, k195_73, k195_76, k195_77, k195_80, k195_82, k195_83, k195_84, k195_85, k195_88, k195_89, k195_90, k195_93, k195_94, k195_95, k195_98, k195_101, k195_102, k195_105, k195_107, k195_108, k195_109, k195_110, k195_112, k195_113, k195_116, k195_118, mm_sI, mm_sJ, mm_sR, mm_cI, mm_cJ, mm_I, mm_J, mm_R, mm_K, mm_N, psh_s, psh_n, z_n, z_i, z_r, z_l, Nat.reduceAdd, Nat.reduceLeDiff]
      rw [R2.D.v1 hu]; exact this
    | w + 4, hw => omega
  simp only [k195_0, k195_1, k195_2, k195_4, k195_7, k195_10, k195_11, k195_12, k195_13, k195_16, k195_19, k195_20, k195_21, k195_24, k195_25, k195_26, k195_29, k195_32, k195_35, k195_36, k195_37, k195_40, k195_43, k195_45, k195_47, k195_48, k195_51, k195_54, k195_55, k195_56, k195_59, k195_60, k195_63, k195_64, k195_65, k195_68, k195_71, k195_72, k195_73, k195_76, k195_77, k195_80, k195_82, k195_83, k195_84, k195_85, k195_88, k195_89, k195_90, k195_93, k195_94, k195_95, k195_98, k195_101, k195_102, k195_105, k195_107, k195_108, k195_109, k195_110, k195_112, k195_113, k195_116, k195_118, mm_sI, mm_sJ, mm_sR, mm_cI, mm_cJ, mm_I, mm_J, mm_R, mm_K, mm_N, psh_s, psh_n, z_n, z_i, z_r, z_l, Nat.reduceAdd, Nat.reduceLeDiff, K113 hS, R113_2 hS, R113_3 hS, R113_5 hS, R113_8 hS, R113_9 hS, R113_10 hS, R113_11 hS, R113_16 hS, R113_17 hS, R113_18 hS, R113_19 hS, R113_20 hS, R113_21 hS, R113_22 hS, R113_26 hS, R113_27 hS, R113_30 hS, R113_32 hS, R113_34 hS, R113_35 hS, R113_36 hS, R113_37 hS, R113_40 hS, R113_41 hS, R113_42 hS, R113_43 hS, R113_44 hS, R113_45 hS, R113_47 hS, K114 hS, K115 hS, K116 hS, K117 hS, K118 hS, K119 hS, K120 hS, K121 hS, K122 hS, K123 hS, K124 hS, K125 hS, K126 hS, K127 hS, K128 hS, K129 hS, K130 hS, K131 hS, K132 hS, K133 hS, K134 hS, K135 hS, K136 hS, K137 hS, K138 hS, K139 hS, K140 hS, K141 hS, K142 hS, N114 hS, N115 hS, N116 hS, N117 hS, N118 hS, N119 hS, N120 hS, N121 hS, N122 hS, N123 hS, N124 hS, N125 hS, N126 hS, N127 hS, N128 hS, N129 hS, N130 hS, N131 hS, N132 hS, N133 hS, N134 hS, N135 hS, N136 hS, N137 hS, N138 hS, N139 hS, N140 hS, N141 hS, N142 hS, ne_eq, true_or, or_true, not_false_eq_true, Nat.reduceEqDiff, Nat.reduceLT, Nat.reduceLeDiff, Nat.reduceAdd, s_within', h41, h4, b2i_0, m_isGirl D.eG hS hG8, m_isFrog D.eF hS hF8]
  by_cases c1 : inb n 41
  case neg => simp only [eq_false c1, not_false_eq_true, if_true, false_and, if_false] at hr ⊢; exact hr
  by_cases c2 : inb what 4
  case neg => simp only [eq_false c2, not_false_eq_true, if_true, false_and, and_false, if_false, eq_true c1, not_true_eq_false] at hr ⊢; exact hr
  by_cases c : what = 3
  · simp only [c, if_true] at hQ hr post
    subst c
    by_cases c3 : inb number G
    case neg => simp only [eq_false c3, not_false_eq_true, if_true, false_and, and_false, if_false, eq_true c1, eq_true c2, not_true_eq_false] at hr ⊢; exact hr
    simp only [eq_true c1, eq_true c2, eq_true c3, and_true, not_true_eq_false, if_false, if_true] at hQ ⊢
    obtain ⟨u, hu, eu, _⟩ := inb_of c3
    exact post u hu eu c1 c2 hQ
  · simp only [c, if_false] at hQ hr post
    by_cases c3 : inb number F
    case neg => simp only [eq_false c3, not_false_eq_true, if_true, false_and, and_false, if_false, eq_true c1, eq_true c2, c, not_true_eq_false] at hr ⊢; exact hr
    simp only [eq_true c1, eq_true c2, eq_true c3, and_true, not_true_eq_false, if_false, if_true, c] at hQ ⊢
    obtain ⟨u, hu, eu, _⟩ := inb_of c3
    exact post u hu eu c1 c2 hQ
theorem m_marsh {n what : Int32} (D : DD G F W b h r E) (hQ : ∀ h', Scr h h' → Q (some (vi (marshA F W b n what))) (mm h' j r E)) :
    WP (d + 8) 196 0 [some (vr 113), some (vi n), some (vi what), none] [] (mm h j r E) Q := by
  have hS := D.S
  have h41 : b2i (0 ≤ n ∧ n ≤ 40) = b2i (inb n 41) := in_lit rfl (by decide)
  have h4 : b2i (0 ≤ what ∧ what ≤ 1) = b2i (inb what 2) := in_lit rfl (by decide)
  have hr := hQ h Scr.rf
  unfold marshA at hQ hr
  simp only [k196_0, k196_1, k196_2, k196_4, k196_7, k196_10, k196_11, k196_12, k196_13, k196_16, k196_19, k196_20, k196_21, k196_22, k196_23, k196_26, k196_29, k196_30, k196_31, k196_34, k196_35, k196_38, k196_39, k196_42, k196_45, k196_46, k196_49, k196_50, k196_51, k196_54, k196_55, mm_sI, mm_sJ, mm_sR, mm_cI, mm_cJ, mm_I, mm_J, mm_R, mm_K, mm_N, psh_s, psh_n, z_n, z_i, z_r, z_l, Nat.reduceAdd, Nat.reduceLeDiff, K113 hS, R113_2 hS, R113_3 hS, R113_5 hS, R113_8 hS, R113_9 hS, R113_10 hS, R113_11 hS, R113_16 hS, R113_17 hS, R113_18 hS, R113_19 hS, R113_20 hS, R113_21 hS, R113_22 hS, R113_26 hS, R113_27 hS, R113_30 hS, R113_32 hS, R113_34 hS, R113_35 hS, R113_36 hS, R113_37 hS, R113_40 hS, R113_41 hS, R113_42 hS, R113_43 hS, R113_44 hS, R113_45 hS, R113_47 hS, K114 hS, K115 hS, K116 hS, K117 hS, K118 hS, K119 hS, K120 hS, K121 hS, K122 hS, K123 hS, K124 hS, K125 hS, K126 hS, K127 hS, K128 hS, K129 hS, K130 hS, K131 hS, K132 hS, K133 hS, K134 hS, K135 hS, K136 hS, K137 hS, K138 hS, K139 hS, K140 hS, K141 hS, K142 hS, N114 hS, N115 hS, N116 hS, N117 hS, N118 hS, N119 hS, N120 hS, N121 hS, N122 hS, N123 hS, N124 hS, N125 hS, N126 hS, N127 hS, N128 hS, N129 hS, N130 hS, N131 hS, N132 hS, N133 hS, N134 hS, N135 hS, N136 hS, N137 hS, N138 hS, N139 hS, N140 hS, N141 hS, N142 hS, ne_eq, true_or, or_true, not_false_eq_true, Nat.reduceEqDiff, Nat.reduceLT, Nat.reduceLeDiff, Nat.reduceAdd, s_within', h41, h4, b2i_0]
  by_cases c1 : inb n 41
  case neg => simp only [eq_false c1, not_false_eq_true, if_true, false_and, if_false] at hr ⊢; exact hr
  by_cases c2 : inb what 2
  case neg => simp only [eq_false c2, not_false_eq_true, if_true, false_and, and_false, if_false, eq_true c1, not_true_eq_false] at hr ⊢; exact hr
  simp only [eq_true c1, eq_true c2, and_true, not_true_eq_false, if_false, if_true] at hQ ⊢
  obtain ⟨N, hN, rfl, _⟩ := inb_of c1
  rw [ix_n (by omega)] at hQ
  refine r_keeps hS (Or.inl rfl) D ?_
  intro h1 R _ _
  simp only [k196_0, k196_1, k196_2, k196_4, k196_7, k196_10, k196_11, k196_12, k196_13, k196_16, k196_19, k196_20, k196_21, k196_22, k196_23, k196_26, k196_29, k196_30, k196_31, k196_34, k196_35, k196_38, k196_39, k196_42, k196_45, k196_46, k196_49, k196_50, k196_51, k196_54, k196_55, mm_sI, mm_sJ, mm_sR, mm_cI, mm_cJ, mm_I, mm_J, mm_R, mm_K, mm_N, psh_s, psh_n, z_n, z_i, z_r, z_l, Nat.reduceAdd, Nat.reduceLeDiff, K113 hS, R113_2 hS, R113_3 hS, R113_5 hS, R113_8 hS, R113_9 hS, R113_10 hS, R113_11 hS, R113_16 hS, R113_17 hS, R113_18 hS, R113_19 hS, R113_20 hS, R113_21 hS, R113_22 hS, R113_26 hS, R113_27 hS, R113_30 hS, R113_32 hS, R113_34 hS, R113_35 hS, R113_36 hS, R113_37 hS, R113_40 hS, R113_41 hS, R113_42 hS, R113_43 hS, R113_44 hS, R113_45 hS, R113_47 hS, K114 hS, K115 hS, K116 hS, K117 hS, K118 hS, K119 hS, K120 hS, K121 hS, K122 hS, K123 hS, K124 hS, K125 hS, K126 hS, K127 hS, K128 hS, K129 hS, K130 hS, K131 hS, K132 hS, K133 hS, K134 hS, K135 hS, K136 hS, K137 hS, K138 hS, K139 hS, K140 hS, K141 hS, K142 hS, N114 hS, N115 hS, N116 hS, N117 hS, N118 hS, N119 hS, N120 hS, N121 hS, N122 hS, N123 hS, N124 hS, N125 hS, N126 hS, N127 hS, N128 hS, N129 hS, N130 hS, N131 hS, N132 hS, N133 hS, N134 hS, N135 hS, N136 hS, N137 hS, N138 hS, N139 hS, N140 hS, N141 hS, N142 hS, ne_eq, true_or, or_true, not_false_eq_true, Nat.reduceEqDiff, Nat.reduceLT, Nat.reduceLeDiff, Nat.reduceAdd]
  refine mgoesOn R (by omega) ?_
  intro h2 R2
  simp only [k196_0, k196_1, k196_2, k196_4, k196_7, k196_10, k196_11, k196_12, k196_13, k196_16, k196_19, k196_20, k196_21, k196_22, k196_23, k196_26, k196_29, k196_30, k196_31, k196_34, k196_35, k196_38, k196_39, k196_42, k196_45, k196_46, k196_49, k196_50, k196_51, k196_54, k196_55, mm_sI, mm_sJ, mm_sR, mm_cI, mm_cJ, mm_I, mm_J, mm_R, mm_K, mm_N, psh_s, psh_n, z_n, z_i, z_r, z_l, Nat.reduceAdd, Nat.reduceLeDiff, K113 hS, R113_2 hS, R113_3 hS, R113_5 hS, R113_8 hS, R113_9 hS, R113_10 hS, R113_11 hS, R113_16 hS, R113_17 hS, R113_18 hS, R113_19 hS, R113_20 hS, R113_21 hS, R113_22 hS, R113_26 hS, R113_27 hS, R113_30 hS, R113_32 hS, R113_34 hS, R113_35 hS, R113_36 hS, R113_37 hS, R113_40 hS, R113_41 hS, R113_42 hS, R113_43 hS, R113_44 hS, R113_45 hS, R113_47 hS, K114 hS, K115 hS, K116 hS, K117 hS, K118 hS, K119 hS, K120 hS, K121 hS, K122 hS, K123 hS, K124 hS, K125 hS, K126 hS, K127 hS, K128 hS, K129 hS, K130 hS, K131 hS, K132 hS, K133 hS, K134 hS, K135 hS, K136 hS, K137 hS, K138 hS, K139 hS, K140 hS, K141 hS, K142 hS, N114 hS, N115 hS, N116 hS, N117 hS, N118 hS, N119 hS, N120 hS, N121 hS, N122 hS, N123 hS, N124 hS, N125 hS, N126 hS, N127 hS, N128 hS, N129 hS, N130 hS, N131 hS, N132 hS, N133 hS, N134 hS, N135 hS, N136 hS, N137 hS, N138 hS, N139 hS, N140 hS, N141 hS, N142 hS, ne_eq, true_or, or_true, not_false_eq_true, Nat.reduceEqDiff, Nat.reduceLT, Nat.reduceLeDiff, Nat.reduceAdd, m_owing R2.D, m_allHeld R2.D]
  by_cases c : what = 0
  · simp only [c, if_true] at hQ ⊢
    refine r_laysW hS R2 ?_
    intro h3 s _
    simp only [k196_0, k196_1, k196_2, k196_4, k196_7, k196_10, k196_11, k196_12, k196_13, k196_16, k196_19, k196_20, k196_21, k196_22, k196_23, k196_26, k196_29, k196_30, k196_31, k196_34, k196_35, k196_38, k196_39, k196_42, k196_45, k196_46, k196_49, k196_50, k196_51, k196_54, k196_55, mm_sI, mm_sJ, mm_sR, mm_cI, mm_cJ, mm_I, mm_J, mm_R, mm_K, mm_N, psh_s, psh_n, z_n, z_i, z_r, z_l, Nat.reduceAdd, Nat.reduceLeDiff]
    exact hQ h3 s
  · simp only [c, if_false] at hQ ⊢
    refine r_laysW hS R2 ?_
    intro h3 s _
    simp only [k196_0, k196_1, k196_2, k196_4, k196_7, k196_10, k196_11, k196_12, k196_13, k196_16, k196_19, k196_20, k196_21, k196_22, k196_23, k196_26, k196_29, k196_30, k196_31, k196_34, k196_35, k196_38, k196_39, k196_42, k196_45, k196_46, k196_49, k196_50, k196_51, k196_54, k196_55, mm_sI, mm_sJ, mm_sR, mm_cI, mm_cJ, mm_I, mm_J, mm_R, mm_K, mm_N, psh_s, psh_n, z_n, z_i, z_r, z_l, Nat.reduceAdd, Nat.reduceLeDiff]
    exact hQ h3 s
end AM
