/-! ===== the law is told ===== -/
section LQ
variable {d : Nat} {M : Mem} {h h0 h1 h2 : Hp} {j j1 : Jp} {r r1 : Rp} {E E1 : EE} {l l1 G F n : Nat} {W W1 : LW} {b : BB} {Q : Option PV → Mem → Prop} {T : Nat → Int32}
/-- another law stands, the tape is empty -/
theorem Inv.lw (I : Inv h j r E) (o : ∀ a, a ≠ 2 → a ≠ 113 → ¬ (27 ≤ a ∧ a ≤ 36) → ¬ (117 ≤ a ∧ a ≤ 124) → h1 a = h a) (o2 : ∀ i, i ≠ 7 → h1 2 i = h 2 i) (o3 : ∀ m, m ≠ 4 → m ≠ 6 → m ≠ 7 → ¬ (12 ≤ m ∧ m ≤ 15) → h1 113 m = h 113 m)
    (orr : ∀ a, a ≠ 2 → a ≠ 27 → a ≠ 32 → r1 a = r a) (hS1 : Sh r1 E) (z1 : h1 2 7 = 0) (z2 : h1 113 4 = 0) (hw : ∀ G F l W b, CC G F l W b h r E → DD G F W b h r E → ∃ l1 W1, r1 2 4 = l1 ∧ (l1 = 27 ∨ l1 = 32) ∧ LC l1 h1 W1 ∧ LM h1 W1) : Inv h1 j r1 E := by
  obtain ⟨G, F, l, W, b, C, D, i1, i2, i3, i4, i5, i6, HD, N, V, sc, sm, nb, n1, n2, n3⟩ := I
  obtain ⟨l1, W1, w1, w2, w3, w4⟩ := hw G F l W b C D
  have o' : ∀ a, (3 ≤ a ∧ a ≤ 26) ∨ (37 ≤ a ∧ a ≤ 112) ∨ (114 ≤ a ∧ a ≤ 116) ∨ 125 ≤ a → h1 a = h a := fun a ha => o a (by omega) (by omega) (by omega) (by omega)
  have C1 : CC G F l1 W1 b h1 r1 E := by
    refine ⟨hS1, w1, w2, ?_, ?_, C.G8, C.F8, w3, ?_, C.w⟩
    · rw [o' 3 (by omega)]; exact C.eG
    · rw [o' 3 (by omega)]; exact C.eF
    · rw [← C.eb]
      exact bC_eq (fun k hk i _ => by rw [o' _ (by omega)]) (by rw [o' 3 (by omega)]) (by rw [o' 3 (by omega)])
  have D1 : DD G F W1 b h1 r1 E := by
    refine ⟨hS1, (o3 0 (by decide) (by decide) (by decide) (by decide)).trans D.eG, (o3 1 (by decide) (by decide) (by decide) (by decide)).trans D.eF, D.G8, D.F8, w4, ?_, D.w⟩
    rw [← D.eb]; exact bM_eq D.G8 D.F8 (fun i _ => by rw [o' 114 (by omega)]) (fun i _ => by rw [o' 115 (by omega)])
  have e3 : ∀ m, m = 0 ∨ m = 1 ∨ 16 ≤ m → h1 113 m = h 113 m := fun m hm => o3 m (by omega) (by omega) (by omega) (by omega)
  refine ⟨G, F, l1, W1, b, C1, D1, i1.fr (o' _ (by omega)) (o' _ (by omega)), ?_, ?_, ?_, ?_, ?_, HD, N, V, ?_, ?_, nb, ?_, n2, ?_⟩
  · exact i2.fr (o2 _ (by decide)) (e3 _ (by omega)) (e3 _ (by omega)) (e3 _ (by omega)) (fun a ha => o' a (by omega))
  · exact ⟨0, by decide, z1, z2, fun i hi => absurd hi (Nat.not_lt_zero _)⟩
  · exact i4.fr (o2 _ (by decide)) (e3 _ (by omega)) (o2 _ (by decide)) (e3 _ (by omega)) (fun a ha => o' a (by omega))
  · obtain ⟨nb, b0, b1, b2, b3, b4, b5⟩ := i5.fr (h1 := h1) (o2 _ (by decide)) (e3 _ (by omega)) (fun a ha => o' a (by omega))
    refine ⟨nb, b0, b1, b2, b3, b4, fun i hi => ?_⟩
    rw [orr 98 (by decide) (by decide) (by decide), orr (143 + i) (by omega) (by omega) (by omega)]; exact b5 i hi
  · exact i6.fr (o' _ (by omega)) (o' _ (by omega)) (e3 _ (by omega))
  · intro s hs
    have := sc s hs
    unfold ShC at this ⊢
    rw [o' (101 + 2 * s) (by omega), orr (101 + 2 * s) (by omega) (by omega) (by omega)]; exact this
  · intro s hs
    have := sm s hs
    unfold ShM at this ⊢; rw [o' 133 (by omega), o' 134 (by omega)]; exact this
  · rw [o2 14 (by decide)]; exact n1
  · intro s hs h10
    rw [orr (101 + 2 * s) (by omega) (by omega) (by omega)]; exact n3 s hs h10
theorem sh_r6 (hS : Sh r E) {m : Nat} (hm : m = 27 ∨ m = 32) : Sh (up2 r m 6 37) E := by
  refine hS.rr (by rw [up2_a (by omega)]) (fun t ht => ?_)
  have q : ∀ t ∈ RfL, t.2.1 ≠ 6 ∨ (t.1 ≠ 27 ∧ t.1 ≠ 32) := by decide +kernel
  rcases q t ht with h | h
  · rw [up2]; split
    · rename_i hh; first | rfl | rw [if_neg h]
    · rfl
  · rw [up2_a (by omega)]
theorem sh_45 (hS : Sh r E) {p q : Nat} (hpq : p + q = 59) : Sh (up2 (up2 r 2 4 p) 2 5 q) E := by
  refine hS.rr ?_ (fun t ht => ?_)
  · rw [up2_i (by decide), up2_s, up2_s, hpq]; exact hS.2.2.2.symm
  · have e : ∀ t ∈ RfL, t.1 ≠ 2 ∨ (t.2.1 ≠ 4 ∧ t.2.1 ≠ 5) := by decide +kernel
    rcases e t ht with h | h
    · rw [up2_a h, up2_a h]
    · by_cases h2 : t.1 = 2
      · rw [h2, up2_i h.2, up2_i h.1]
      · rw [up2_a h2, up2_a h2]
theorem ccF_pos {ys : List LN} (h : 0 < ys.length) : 0 < (ccF 0 ys).length := by
  cases ys with
  | nil => exact absurd h (Nat.lt_irrefl _)
  | cons y ys =>
    rw [ccF, List.length_append, lnC_n]
    split <;> omega
theorem nxR_ne {s : TR} {x : LR} (h : (nxR s x).1 = true) : 0 < (nxR s x).2.2.length := by
  have h : x.1 = true := h
  unfold nxR
  show 0 < (if x.1 = true then s.2.2 ++ [x.2.2] else s.2.2).length
  rw [if_pos h, List.length_append, List.length_singleton]; omega
theorem lsR_ne {m : Nat} : ∀ {s : TR}, (s.1 = true → 0 < s.2.2.length) → (lsR T n m s).1 = true → 0 < (lsR T n m s).2.2.length := by
  induction m with
  | zero => intro s a h; exact a h
  | succ m ih =>
    intro s a
    rw [lsR]; split
    · exact ih (fun h => nxR_ne h)
    · exact a
theorem txR_ne (h : (txR T n).1 = true) : 0 < (txR T n).2.2.length := lsR_ne (fun h => nxR_ne h) h
theorem q_law (I : Inv h j r E) : Both 60 79 177 [some (vr 2), none, none] [some (vr 113), none, none, none] (mm h j r E) := by
  obtain ⟨G, F, l, W, b, C, D, _, _, ⟨n, n120, t1, t2, t3⟩, _⟩ := id I
  have hS := C.S
  have hl := C.il
  have r4 := C.rl
  have r45 := hS.2.2.2
  obtain ⟨m, hm⟩ : ∃ m, m = r 2 5 := ⟨_, rfl⟩
  have hml : m = 27 ∨ m = 32 := by omega
  have hne : m + l = 59 := by omega
  have HLm := lw_of hS hml
  unfold Both
  simp only [k79_0, k79_1, k79_4, k79_5, k79_8, k79_9, k79_12, k79_15, k79_16, k79_17, k79_18, k79_21, k79_22, k79_25, k79_27, k79_28, k79_29, k79_30, k79_31, k79_34, k79_35, k79_36, k79_37, k79_40, k79_43, k79_44, k79_45, k79_48, k79_49, mm_sI, mm_sJ, mm_sR, mm_cI, mm_cJ, mm_I, mm_J, mm_R, mm_K, mm_N, psh_s, psh_n, z_n, z_i, z_r, z_l, Nat.reduceAdd, Nat.reduceLeDiff, K2 hS, R2_0 hS, R2_1 hS, R2_2 hS, R2_6 hS, R2_8 hS, R2_11 hS, R2_12 hS, R2_13 hS, R2_15 hS, R2_16 hS, K3 hS, K11 hS, K19 hS, K27 hS, K32 hS, K37 hS, K98 hS, K99 hS, K100 hS, N37 hS, N98 hS, N99 hS, N100 hS, false_or, or_false, ne_eq, true_or, or_true, not_false_eq_true, Nat.reduceEqDiff, Nat.reduceLT, Nat.reduceLeDiff, Nat.reduceAdd, ← hm, lk0 HLm, t1]
  refine c_read (e := 57) (T := h 37) (by decide) hS hml n120 (fun _ _ => rfl) ?_
  intro h1 f1 f2 g1 g2
  have S6 := sh_r6 hS hml
  have hS0 := hS
  -- what the model does
  have XMh : ∀ h2 : Hp, h2 116 = h 116 → h2 113 4 = h 113 4 → ∀ r2, Sh r2 E → XM n (h 37) h2 r2 E := fun h2 e1 e2 r2 hr => ⟨hr, n120, by rw [e2]; exact t2, fun i hi => by rw [e1]; exact (t3 i hi).1⟩
  have p113 : h1 113 = h 113 := f1 113 (by omega) (by omega) (by omega)
  have p116 : h1 116 = h 116 := f1 116 (by omega) (by omega) (by omega)
  by_cases hg : goodR (h 37) n
  · obtain ⟨g3, g4, g5⟩ := g1 hg
    have r6 : up2 r m 6 37 2 4 = l := by rw [up2_a (by omega)]; exact r4
    have r65 : up2 r m 6 37 2 5 = m := by rw [up2_a (by omega)]; exact hm.symm
    have S7 : Sh (up2 (up2 (up2 r m 6 37) 2 4 m) 2 5 l) E := sh_45 S6 hne
    have r67 : up2 (up2 r m 6 37) 2 4 m 2 5 = m := by rw [up2_i (by decide)]; exact r65
    have hg' : (txR (h 37) n).1 = true ∧ (txR (h 37) n).2.1 = n := hg
    rw [if_pos hg']
    have c1 : ((-1 : Int32) < 0) = True := eq_true (by decide)
    have c2 : ((0 : Int32) ≤ -1) = False := eq_false (by decide)
    simp only [k79_0, k79_1, k79_4, k79_5, k79_8, k79_9, k79_12, k79_15, k79_16, k79_17, k79_18, k79_21, k79_22, k79_25, k79_27, k79_28, k79_29, k79_30, k79_31, k79_34, k79_35, k79_36, k79_37, k79_40, k79_43, k79_44, k79_45, k79_48, k79_49, mm_sI, mm_sJ, mm_sR, mm_cI, mm_cJ, mm_I, mm_J, mm_R, mm_K, mm_N, psh_s, psh_n, z_n, z_i, z_r, z_l, Nat.reduceAdd, Nat.reduceLeDiff, false_or, or_false, ne_eq, true_or, or_true, not_false_eq_true, Nat.reduceEqDiff, Nat.reduceLT, Nat.reduceLeDiff, Nat.reduceAdd, c1, c2, if_true, if_false, K2 hS, r6, r65]
    refine m_law (e := 58) (T := h 37) (by decide) (XMh _ (by rw [up2_a (by decide)]; exact p116) (by rw [up2_a (by decide), p113]) _ S7) ?_
    intro h3 w1 w2 w3 w4
    obtain ⟨v1, v2, v3, v4, v5⟩ := w3 hg
    rw [if_pos hg']
    have fa : ∀ a, a ≠ 2 → a ≠ 113 → ¬ (117 ≤ a ∧ a ≤ 124) → h3 a = h1 a := fun a q1 q2 q3 => by rw [w1.1 a q2 q3, up2_a q1]
    refine ⟨rfl, ⟨_, rfl⟩, h3, j, _, E, rfl, I.lw ?_ ?_ ?_ ?_ S7 ?_ w2 ?_⟩
    · intro a q1 q2 q3 q4; rw [fa a q1 q2 q4]; exact f1 a (by omega) (by omega) (by omega)
    · intro i hi; rw [w1.1 2 (by decide) (by decide), up2_i hi, f1 2 (by omega) (by omega) (by omega)]
    · intro i q1 q2 q3 q4; rw [w1.2 i q1 q2 q3 q4, up2_a (by decide), p113]
    · intro a q1 q2 q3; rw [up2_a q1, up2_a q1, up2_a (by omega)]
    · rw [w1.1 2 (by decide) (by decide), up2_s]
    · intro G F l' W b C D
      have hst : h3 m 4 = nI (ccF 0 (txR (h 37) n).2.2).length := by rw [fa m (by omega) (by omega) (by omega)]; exact g3
      refine ⟨m, lwF (txR (h 37) n).2.2, ?_, hml, ?_, ?_⟩
      · rw [up2_i (by decide), up2_s]
      · unfold LC
        have hpos : 0 < (ccF 0 (txR (h 37) n).2.2).length := ccF_pos (txR_ne hg.1)
        rw [if_pos (by rw [hst, show (0 : Int32) = nI 0 from rfl, nLt (by decide) (by omega)]; exact hpos)]
        exact c_lawC hml txR_g (hc_fr g4 (fun i _ _ => by rw [fa (m + 1) (by omega) (by omega) (by omega), fa (m + 2) (by omega) (by omega) (by omega)]; exact ⟨rfl, rfl⟩)) hst g5
      · unfold LM
        rw [if_neg (by rw [v1]; decide)]
        exact m_lawM txR_g v3 v2 v4 (by omega)
  · have hS := S6
    have hg' : ¬ ((txR (h 37) n).1 = true ∧ (txR (h 37) n).2.1 = n) := hg
    rw [if_neg hg']
    have p0 : (0 : Int32) ≤ nI (txR (h 37) n).2.1 := nI_pos' (by omega)
    have c1 : (nI (txR (h 37) n).2.1 < 0) = False := eq_false (Int32.not_lt.2 p0)
    simp only [k79_0, k79_1, k79_4, k79_5, k79_8, k79_9, k79_12, k79_15, k79_16, k79_17, k79_18, k79_21, k79_22, k79_25, k79_27, k79_28, k79_29, k79_30, k79_31, k79_34, k79_35, k79_36, k79_37, k79_40, k79_43, k79_44, k79_45, k79_48, k79_49, mm_sI, mm_sJ, mm_sR, mm_cI, mm_cJ, mm_I, mm_J, mm_R, mm_K, mm_N, psh_s, psh_n, z_n, z_i, z_r, z_l, Nat.reduceAdd, Nat.reduceLeDiff, false_or, or_false, ne_eq, true_or, or_true, not_false_eq_true, Nat.reduceEqDiff, Nat.reduceLT, Nat.reduceLeDiff, Nat.reduceAdd, c1, if_false, eq_true p0, if_true, K2 hS]
    refine m_law (e := 58) (T := h 37) (by decide) (XMh _ (by rw [up2_a (by decide)]; exact p116) (by rw [up2_a (by decide), p113]) _ S6) ?_
    intro h3 w1 w2 w3 w4
    rw [if_neg hg']
    obtain ⟨y1, y2, y3, y4, y5, y6⟩ := w4 hg
    have fa : ∀ a, a ≠ 2 → a ≠ 113 → ¬ (117 ≤ a ∧ a ≤ 124) → h3 a = h1 a := fun a q1 q2 q3 => by rw [w1.1 a q2 q3, up2_a q1]
    refine ⟨rfl, ⟨_, rfl⟩, h3, j, _, E, rfl, I.lw ?_ ?_ ?_ ?_ S6 ?_ w2 ?_⟩
    · intro a q1 q2 q3 q4; rw [fa a q1 q2 q4]; exact f1 a (by omega) (by omega) (by omega)
    · intro i hi; rw [w1.1 2 (by decide) (by decide), up2_i hi, f1 2 (by omega) (by omega) (by omega)]
    · intro i q1 q2 q3 q4; rw [w1.2 i q1 q2 q3 q4, up2_a (by decide), p113]
    · intro a q1 q2 q3; rw [up2_a (by omega)]
    · rw [w1.1 2 (by decide) (by decide), up2_s]
    · intro G2 F2 l' W2 b2 C2 D2
      have el : l' = l := C2.rl.symm.trans r4
      subst el
      have fl : ∀ a, a = l' ∨ a = l' + 1 ∨ a = l' + 2 → h3 a = h a := fun a ha => by rw [fa a (by omega) (by omega) (by omega)]; exact f1 a (by omega) (by omega) (by omega)
      refine ⟨l', W2, ?_, hl, ?_, ?_⟩
      · rw [up2_a (by omega)]; exact r4
      · refine C2.L.fix ⟨fl _ (by omega), fl _ (by omega), by rw [fl l' (by omega)]⟩
      · refine D2.L.fix ⟨?_, ?_, ?_, ?_, ?_, ?_⟩
        · rw [y1, up2_a (by decide)]; exact f1 117 (by omega) (by omega) (by omega)
        · rw [y2, up2_a (by decide)]; exact f1 118 (by omega) (by omega) (by omega)
        · rw [y3, up2_a (by decide)]; exact f1 119 (by omega) (by omega) (by omega)
        · rw [y4, up2_a (by decide)]; exact f1 120 (by omega) (by omega) (by omega)
        · rw [y6, up2_a (by decide), p113]
        · rw [y5, up2_a (by decide), p113]
end LQ
