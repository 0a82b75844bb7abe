/-! ===== the law is told ===== -/
section OL
variable {d : Nat} {M : Mem} {h h0 h1 h2 : Hp} {j j1 j2 : Jp} {r r1 r2 : Rp} {E : EE} {l l1 G F n : Nat} {W W1 : LW} {b : BB} {Q : Option PV → Mem → Prop} {S : OS}
theorem ObS.lw (O : ObS S h j r E) {tp : TPT} (o : ∀ a, a ≠ 2 → ¬ (27 ≤ a ∧ a ≤ 36) → h1 a = h a) (o2 : ∀ i, i ≠ 7 → h1 2 i = h 2 i)
    (orr : ∀ a, a ≠ 2 → a ≠ 27 → a ≠ 32 → r1 a = r a) (hS1 : Sh r1 E) (z1 : h1 2 7 = 0) (w1 : r1 2 4 = l1) (w2 : l1 = 27 ∨ l1 = 32) (w3 : LC l1 h1 W1) (ht : tp.1 = 0) : ObS (mkS (oG S) (oF S) W1 (oB S) (oL S) (oI S) (oC S) (oS S) tp) h1 j r1 E := by
  obtain ⟨⟨l, C⟩, i1, i2, i3, i4, i5⟩ := O
  have o' : ∀ a, (3 ≤ a ∧ a ≤ 26) ∨ 37 ≤ a → h1 a = h a := fun a ha => o a (by omega) (by omega)
  have C1 : CC (oG S) (oF S) l1 W1 (oB S) h1 r1 E := by
    refine ⟨hS1, w1, w2, ?_, ?_, C.G8, C.F8, w3, ?_, C.w⟩
    · rw [o' 3 (by omega)]; exact C.eG
    · rw [o' 3 (by omega)]; exact C.eF
    · rw [← C.eb]
      exact bC_eq (fun k hk i _ => by rw [o' _ (by omega)]) (by rw [o' 3 (by omega)]) (by rw [o' 3 (by omega)])
  refine ⟨⟨l1, C1⟩, fun i hi => ?_, i2.fr (Nat.le_refl _) (Nat.le_refl _) (o2 3 (by decide)) (fun a p q => o' a (by omega)), i3.fr (Nat.le_refl _) (Nat.le_refl _) (o2 9 (by decide)) (o2 10 (by decide)) (fun a p q => o' a (by omega)), fun s hs => ?_, ⟨?_, ?_, fun i hi => ?_⟩⟩
  · rw [o' 10 (by omega)]; exact i1 i hi
  · have := i4 s hs
    unfold ShC at this ⊢
    rw [o' (101 + 2 * s) (by omega), orr (101 + 2 * s) (by omega) (by omega) (by omega)]; exact this
  · show tp.1 ≤ 120; omega
  · show h1 2 7 = nI tp.1; rw [ht]; exact z1
  · have hi : i < tp.1 := hi
    omega
theorem a_law_good (hg : goodR (oT S).2 (oT S).1) : Ans 79 [some (vr 2), none, none] S 1 (mkS (oG S) (oF S) (lwF (txR (oT S).2 (oT S).1).2.2) (oB S) (oL S) (oI S) (oC S) (oS S) (0, (oT S).2)) := by
  intro h j r E Q O hQ
  obtain ⟨⟨l, C⟩, i1, i2, i3, i4, n120, t1, t3⟩ := id O
  have hS := C.S
  have hl := C.il
  have r4 := C.rl
  have r45 := hS.2.2.2
  obtain ⟨m, hm⟩ : ∃ m, m = r 2 5 := ⟨_, rfl⟩
  have hml : m = 27 ∨ m = 32 := by omega
  have hne : m + l = 59 := by omega
  have HLm := lw_of hS hml
  simp only [k79_0, k79_1, k79_4, k79_5, k79_8, k79_9, k79_12, k79_15, k79_16, k79_17, k79_18, k79_21, k79_22, k79_25, k79_27, k79_28, k79_29, k79_30, k79_31, k79_34, k79_35, k79_36, k79_37, k79_40, k79_43, k79_44, k79_45, k79_48, k79_49, mm_sI, mm_sJ, mm_sR, mm_cI, mm_cJ, mm_I, mm_J, mm_R, mm_K, mm_N, psh_s, psh_n, z_n, z_i, z_r, z_l, Nat.reduceAdd, Nat.reduceLeDiff, K2 hS, R2_0 hS, R2_1 hS, R2_2 hS, R2_6 hS, R2_8 hS, R2_11 hS, R2_12 hS, R2_13 hS, R2_15 hS, R2_16 hS, K3 hS, K11 hS, K19 hS, K27 hS, K32 hS, K37 hS, K98 hS, K99 hS, K100 hS, N37 hS, N98 hS, N99 hS, N100 hS, false_or, or_false, ne_eq, true_or, or_true, not_false_eq_true, Nat.reduceEqDiff, Nat.reduceLT, Nat.reduceLeDiff, Nat.reduceAdd, ← hm, lk0 HLm, t1]
  refine c_read (e := 57) (T := (oT S).2) (by decide) hS hml n120 (fun i hi => (t3 i hi).1) ?_
  intro h1 f1 f2 g1 g2
  have S6 := sh_r6 hS hml
  obtain ⟨g3, g4, g5⟩ := g1 hg
  have r6 : up2 r m 6 37 2 4 = l := by rw [up2_a (by omega)]; exact r4
  have r65 : up2 r m 6 37 2 5 = m := by rw [up2_a (by omega)]; exact hm.symm
  have S7 : Sh (up2 (up2 (up2 r m 6 37) 2 4 m) 2 5 l) E := sh_45 S6 hne
  have r67 : up2 (up2 r m 6 37) 2 4 m 2 5 = m := by rw [up2_i (by decide)]; exact r65
  have hg' : (txR (oT S).2 (oT S).1).1 = true ∧ (txR (oT S).2 (oT S).1).2.1 = (oT S).1 := hg
  rw [if_pos hg']
  have c1 : ((-1 : Int32) < 0) = True := eq_true (by decide)
  have c2 : ((0 : Int32) ≤ -1) = False := eq_false (by decide)
  simp only [k79_0, k79_1, k79_4, k79_5, k79_8, k79_9, k79_12, k79_15, k79_16, k79_17, k79_18, k79_21, k79_22, k79_25, k79_27, k79_28, k79_29, k79_30, k79_31, k79_34, k79_35, k79_36, k79_37, k79_40, k79_43, k79_44, k79_45, k79_48, k79_49, mm_sI, mm_sJ, mm_sR, mm_cI, mm_cJ, mm_I, mm_J, mm_R, mm_K, mm_N, psh_s, psh_n, z_n, z_i, z_r, z_l, Nat.reduceAdd, Nat.reduceLeDiff, false_or, or_false, ne_eq, true_or, or_true, not_false_eq_true, Nat.reduceEqDiff, Nat.reduceLT, Nat.reduceLeDiff, Nat.reduceAdd, c1, c2, if_true, if_false, K2 hS, r6, r65]
  refine hQ _ j _ (O.lw (l1 := m) ?_ ?_ ?_ S7 ?_ ?_ hml ?_ rfl) ?_
  · intro a q1 q2; rw [up2_a q1]; exact f1 a (by omega) (by omega) (by omega)
  · intro i hi; rw [up2_i hi, f1 2 (by omega) (by omega) (by omega)]
  · intro a q1 q2 q3; rw [up2_a q1, up2_a q1, up2_a (by omega)]
  · rw [up2_s]
  · rw [up2_i (by decide), up2_s]
  · have hst : (up2 h1 2 7 0) m 4 = nI (ccF 0 (txR (oT S).2 (oT S).1).2.2).length := by rw [up2_a (by omega)]; exact g3
    unfold LC
    have hpos : 0 < (ccF 0 (txR (oT S).2 (oT S).1).2.2).length := ccF_pos (txR_ne hg.1)
    rw [if_pos (by rw [hst, show (0 : Int32) = nI 0 from rfl, nLt (by decide) (by omega)]; exact hpos)]
    exact c_lawC hml txR_g (hc_fr g4 (fun i _ _ => by rw [up2_a (by omega), up2_a (by omega)]; exact ⟨rfl, rfl⟩)) hst g5
  · intro a p
    exact ⟨by rw [up2_a (by omega)]; exact f1 a (by omega) (by omega) (by omega), rfl, by rw [up2_a (by omega), up2_a (by omega), up2_a (by omega)]⟩
theorem a_law_bad (hg : ¬ goodR (oT S).2 (oT S).1) : Ans 79 [some (vr 2), none, none] S (-100 - nI (txR (oT S).2 (oT S).1).2.1) (mkS (oG S) (oF S) (oW S) (oB S) (oL S) (oI S) (oC S) (oS S) (0, (oT S).2)) := by
  intro h j r E Q O hQ
  obtain ⟨⟨l, C⟩, i1, i2, i3, i4, n120, t1, t3⟩ := id O
  have hS := C.S
  have hl := C.il
  have r4 := C.rl
  have r45 := hS.2.2.2
  obtain ⟨m, hm⟩ : ∃ m, m = r 2 5 := ⟨_, rfl⟩
  have hml : m = 27 ∨ m = 32 := by omega
  have hne : m + l = 59 := by omega
  have HLm := lw_of hS hml
  simp only [k79_0, k79_1, k79_4, k79_5, k79_8, k79_9, k79_12, k79_15, k79_16, k79_17, k79_18, k79_21, k79_22, k79_25, k79_27, k79_28, k79_29, k79_30, k79_31, k79_34, k79_35, k79_36, k79_37, k79_40, k79_43, k79_44, k79_45, k79_48, k79_49, mm_sI, mm_sJ, mm_sR, mm_cI, mm_cJ, mm_I, mm_J, mm_R, mm_K, mm_N, psh_s, psh_n, z_n, z_i, z_r, z_l, Nat.reduceAdd, Nat.reduceLeDiff, K2 hS, R2_0 hS, R2_1 hS, R2_2 hS, R2_6 hS, R2_8 hS, R2_11 hS, R2_12 hS, R2_13 hS, R2_15 hS, R2_16 hS, K3 hS, K11 hS, K19 hS, K27 hS, K32 hS, K37 hS, K98 hS, K99 hS, K100 hS, N37 hS, N98 hS, N99 hS, N100 hS, false_or, or_false, ne_eq, true_or, or_true, not_false_eq_true, Nat.reduceEqDiff, Nat.reduceLT, Nat.reduceLeDiff, Nat.reduceAdd, ← hm, lk0 HLm, t1]
  refine c_read (e := 57) (T := (oT S).2) (by decide) hS hml n120 (fun i hi => (t3 i hi).1) ?_
  intro h1 f1 f2 g1 g2
  have S6 := sh_r6 hS hml
  have hg' : ¬ ((txR (oT S).2 (oT S).1).1 = true ∧ (txR (oT S).2 (oT S).1).2.1 = (oT S).1) := hg
  rw [if_neg hg']
  have p0 : (0 : Int32) ≤ nI (txR (oT S).2 (oT S).1).2.1 := nI_pos' (by omega)
  have c1 : (nI (txR (oT S).2 (oT S).1).2.1 < 0) = False := eq_false (Int32.not_lt.2 p0)
  simp only [k79_0, k79_1, k79_4, k79_5, k79_8, k79_9, k79_12, k79_15, k79_16, k79_17, k79_18, k79_21, k79_22, k79_25, k79_27, k79_28, k79_29, k79_30, k79_31, k79_34, k79_35, k79_36, k79_37, k79_40, k79_43, k79_44, k79_45, k79_48, k79_49, mm_sI, mm_sJ, mm_sR, mm_cI, mm_cJ, mm_I, mm_J, mm_R, mm_K, mm_N, psh_s, psh_n, z_n, z_i, z_r, z_l, Nat.reduceAdd, Nat.reduceLeDiff, false_or, or_false, ne_eq, true_or, or_true, not_false_eq_true, Nat.reduceEqDiff, Nat.reduceLT, Nat.reduceLeDiff, Nat.reduceAdd, c1, if_false, eq_true p0, if_true, K2 hS]
  have fl : ∀ a, a = l ∨ a = l + 1 ∨ a = l + 2 → up2 h1 2 7 0 a = h a := fun a ha => by rw [up2_a (by omega)]; exact f1 a (by omega) (by omega) (by omega)
  refine hQ _ j _ (O.lw (l1 := l) ?_ ?_ ?_ S6 ?_ ?_ hl (C.L.fix ⟨fl _ (by omega), fl _ (by omega), by rw [fl l (by omega)]⟩) rfl) ?_
  · intro a q1 q2; rw [up2_a q1]; exact f1 a (by omega) (by omega) (by omega)
  · intro i hi; rw [up2_i hi, f1 2 (by omega) (by omega) (by omega)]
  · intro a q1 q2 q3; rw [up2_a (by omega)]
  · rw [up2_s]
  · rw [up2_a (by omega)]; exact r4
  · intro a p
    exact ⟨by rw [up2_a (by omega)]; exact f1 a (by omega) (by omega) (by omega), rfl, by rw [up2_a (by omega)]⟩
theorem open_bad {T0 : Nat → Int32} : (txR (fun i => if i = 0 then 40 else T0 i) 1).1 = false ∧ (txR (fun i => if i = 0 then 40 else T0 i) 1).2.1 = 1 := ⟨rfl, rfl⟩
end OL
