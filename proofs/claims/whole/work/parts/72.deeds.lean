/-! ===== deeds in the marsh ===== -/
def FC (h h1 : Hp) : Prop := (∀ a, ¬ scrA a → ¬ (3 ≤ a ∧ a ≤ 10) → h1 a = h a) ∧ (∀ i, i ≠ 5 → h1 27 i = h 27 i ∧ h1 32 i = h 32 i) ∧ ∀ i, i ≠ 38 → i ≠ 39 → i ≠ 46 → h1 113 i = h 113 i
def FM (h h1 : Hp) : Prop := (∀ a, ¬ scrA a → a ≠ 114 → a ≠ 115 → a ≠ 127 → h1 a = h a) ∧ (∀ i, i ≠ 5 → h1 27 i = h 27 i ∧ h1 32 i = h 32 i) ∧ ∀ i, i ≠ 0 → i ≠ 1 → i ≠ 38 → i ≠ 39 → i ≠ 46 → h1 113 i = h 113 i
section DE
variable {d : Nat} {M : Mem} {h h0 h1 h2 : Hp} {j : Jp} {r : Rp} {E : EE} {l G F A n G' F' : Nat} {W : LW} {b bt bm b' : BB} {Q : Option PV → Mem → Prop}
theorem FC.rf : FC h h := ⟨fun _ _ _ => rfl, fun _ _ => ⟨rfl, rfl⟩, fun _ _ _ _ => rfl⟩
theorem FM.rf : FM h h := ⟨fun _ _ _ _ _ => rfl, fun _ _ => ⟨rfl, rfl⟩, fun _ _ _ _ _ _ => rfl⟩
theorem FC.up {a i : Nat} {v : Int32} (s : FC h h1) (ha : 3 ≤ a ∧ a ≤ 10) : FC h (up2 h1 a i v) :=
  ⟨fun x p q => by rw [up2_a (show x ≠ a by omega)]; exact s.1 x p q, fun k hk => by rw [up2_a (show 27 ≠ a by omega), up2_a (show 32 ≠ a by omega)]; exact s.2.1 k hk, fun k p q t => by rw [up2_a (show 113 ≠ a by omega)]; exact s.2.2 k p q t⟩
theorem FM.up {a i : Nat} {v : Int32} (s : FM h h1) (ha : a = 114 ∨ a = 115 ∨ a = 127) : FM h (up2 h1 a i v) :=
  ⟨fun x p q t u => by rw [up2_a (show x ≠ a by omega)]; exact s.1 x p q t u, fun k hk => by rw [up2_a (show 27 ≠ a by omega), up2_a (show 32 ≠ a by omega)]; exact s.2.1 k hk, fun k p q t u w => by rw [up2_a (show 113 ≠ a by omega)]; exact s.2.2 k p q t u w⟩
theorem FM.u0 {i : Nat} {v : Int32} (s : FM h h1) (hi : i = 0 ∨ i = 1) : FM h (up2 h1 113 i v) :=
  ⟨fun x p q t u => by rw [up2_a (show x ≠ 113 by unfold scrA at p; omega)]; exact s.1 x p q t u, fun k hk => by rw [up2_a (by decide), up2_a (by decide)]; exact s.2.1 k hk, fun k p q t u w => by rw [up2_i (by omega)]; exact s.2.2 k p q t u w⟩
theorem CC.mk (C : CC G F l W b h r E) (f : FC h h1) (g1 : h1 3 7 = nI G') (g2 : h1 3 8 = nI F') (g3 : G' ≤ 8) (g4 : F' ≤ 8) (eb : bC h1 3 G' F' = b') (w : WF G' F' b') : CC G' F' l W b' h1 r E := by
  refine ⟨C.1, C.2.1, C.2.2.1, g1, g2, g3, g4, C.L.fix ⟨?_, ?_, ?_⟩, eb, w⟩
  · exact f.1 _ (by unfold scrA; rcases C.il with h | h <;> omega) (by rcases C.il with h | h <;> omega)
  · exact f.1 _ (by unfold scrA; rcases C.il with h | h <;> omega) (by rcases C.il with h | h <;> omega)
  · rcases C.il with rfl | rfl
    · exact (f.2.1 4 (by decide)).1
    · exact (f.2.1 4 (by decide)).2
theorem DD.frC (D : DD G F W b h r E) (f : FC h h1) : DD G F W b h1 r E := by
  have o : ∀ a, ¬ scrA a → ¬ (3 ≤ a ∧ a ≤ 10) → h1 a = h a := f.1
  refine ⟨D.S, (f.2.2 0 (by decide) (by decide) (by decide)).trans D.eG, (f.2.2 1 (by decide) (by decide) (by decide)).trans D.eF, D.G8, D.F8, D.L.fix ⟨o _ (by unfold scrA; omega) (by omega), o _ (by unfold scrA; omega) (by omega), o _ (by unfold scrA; omega) (by omega), o _ (by unfold scrA; omega) (by omega), f.2.2 7 (by decide) (by decide) (by decide), f.2.2 6 (by decide) (by decide) (by decide)⟩, ?_, D.w⟩
  rw [← D.eb]; exact bM_eq D.G8 D.F8 (fun i _ => by rw [o 114 (by unfold scrA; omega) (by omega)]) (fun i _ => by rw [o 115 (by unfold scrA; omega) (by omega)])
theorem CC.frM (C : CC G F l W b h r E) (f : FM h h1) : CC G F l W b h1 r E := by
  have s3 : ∀ a, 3 ≤ a → a ≤ 10 → h1 a = h a := fun a p q => f.1 a (by unfold scrA; omega) (by omega) (by omega) (by omega)
  refine ⟨C.1, C.2.1, C.2.2.1, ?_, ?_, C.G8, C.F8, C.L.fix ⟨?_, ?_, ?_⟩, ?_, C.w⟩
  · rw [s3 3 (by omega) (by omega)]; exact C.eG
  · rw [s3 3 (by omega) (by omega)]; exact C.eF
  · exact f.1 _ (by unfold scrA; rcases C.il with h | h <;> omega) (by rcases C.il with h | h <;> omega) (by rcases C.il with h | h <;> omega) (by rcases C.il with h | h <;> omega)
  · exact f.1 _ (by unfold scrA; rcases C.il with h | h <;> omega) (by rcases C.il with h | h <;> omega) (by rcases C.il with h | h <;> omega) (by rcases C.il with h | h <;> omega)
  · rcases C.il with rfl | rfl
    · exact (f.2.1 4 (by decide)).1
    · exact (f.2.1 4 (by decide)).2
  · rw [← C.eb]
    exact bC_eq (fun k hk i _ => by rw [s3 _ (by omega) (by omega)]) (by rw [s3 3 (by omega) (by omega)]) (by rw [s3 3 (by omega) (by omega)])
theorem DD.mk (D : DD G F W b h r E) (f : FM h h1) (g1 : h1 113 0 = nI G') (g2 : h1 113 1 = nI F') (g3 : G' ≤ 8) (g4 : F' ≤ 8) (eb : bM h1 G' F' = b') (w : WF G' F' b') : DD G' F' W b' h1 r E := by
  have o : ∀ a, ¬ scrA a → a ≠ 114 → a ≠ 115 → a ≠ 127 → h1 a = h a := f.1
  exact ⟨D.S, g1, g2, g3, g4, D.L.fix ⟨o _ (by unfold scrA; omega) (by decide) (by decide) (by decide), o _ (by unfold scrA; omega) (by decide) (by decide) (by decide), o _ (by unfold scrA; omega) (by decide) (by decide) (by decide), o _ (by unfold scrA; omega) (by decide) (by decide) (by decide), f.2.2 7 (by decide) (by decide) (by decide) (by decide) (by decide), f.2.2 6 (by decide) (by decide) (by decide) (by decide) (by decide)⟩, eb, w⟩
theorem okc_mono {k : Nat} {v : Int32} (h : okc G k v) (hG : G ≤ G') : okc G' k v := by
  unfold okc at h ⊢
  by_cases c : k = 4
  · rw [if_pos c] at h ⊢; rcases h with h | h; exact Or.inl h; exact Or.inr (inb_mono h hG)
  · rw [if_neg c] at h ⊢; exact h
theorem ImgI.mono (I : ImgI G F h) (hG : G ≤ G') (hF : F ≤ F') : ImgI G' F' h := by
  rcases I with h | ⟨a, c, G2, F2, g1, g2, k⟩
  · exact Or.inl h
  · exact Or.inr ⟨a, c, G2, F2, by omega, by omega, k⟩
theorem ChgI.mono (I : ChgI G F h) (hG : G ≤ G') (hF : F ≤ F') : ChgI G' F' h := by
  obtain ⟨m, K, a1, a2, a3, a4, a5, a6, a7⟩ := I
  refine ⟨m, K, a1, a2, a3, a4, a5, a6, fun i hi => ?_⟩
  obtain ⟨c1, n', w', e1, e2, w7, nl, o1, o2⟩ := a7 i hi
  refine ⟨c1, n', w', e1, e2, w7, ?_, okc_mono o1 hG, okc_mono o2 hG⟩
  split at nl <;> rename_i q
  · rw [if_pos q]; omega
  · rw [if_neg q]
    split at nl <;> rename_i q2
    · rw [if_pos q2]; omega
    · rw [if_neg q2]; omega
/-- a deed in the marsh, on both sides -/
theorem both_m {e yc ym : Nat} {ac am : Loc1} (I : Inv h j r E) (hx : ∀ G F l W b, CC G F l W b h r E → DD G F W b h r E → LedI h → ImgI G F h → ∃ G' F' b' a, ∃ ld : Nat → Int32, G ≤ G' ∧ F ≤ F' ∧
      (∀ Q : Option PV → Mem → Prop, (∀ h1, FC h h1 → CC G' F' l W b' h1 r E → (∀ i, i < 5 → h1 10 i = ld i) → Q (some (vi a)) (mm h1 j r E)) → WP e yc 0 ac [] (mm h j r E) Q) ∧
      (∀ h1, FC h h1 → DD G F W b h1 r E → ∀ Q : Option PV → Mem → Prop, (∀ h2, FM h1 h2 → DD G' F' W b' h2 r E → (∀ i, i < 5 → h2 127 i = ld i) → Q (some (vi a)) (mm h2 j r E)) → WP e ym 0 am [] (mm h1 j r E) Q)) : Both e yc ym ac am (mm h j r E) := by
  obtain ⟨G, F, l, W, b, C, D, i1, i2, i3, i4, i5, i6, i7⟩ := id I
  obtain ⟨G', F', b', a, ld, hG, hF, hc, hm⟩ := hx G F l W b C D i1 i2
  unfold Both
  refine hc _ ?_
  intro h1 f1 C1 l1
  refine hm h1 f1 (D.frC f1) _ ?_
  intro h2 f2 D2 l2
  refine ⟨rfl, ⟨a, rfl⟩, h2, j, r, E, rfl, G', F', l, W, b', C1.frM f2, D2, ?_, ?_, ?_, ?_, ?_, ?_, ?_⟩
  · intro i hi
    rw [l2 i hi, f2.1 10 (by unfold scrA; omega) (by decide) (by decide) (by decide), l1 i hi]
  all_goals
    have o : ∀ a, ¬ scrA a → ¬ (3 ≤ a ∧ a ≤ 10) → a ≠ 114 → a ≠ 115 → a ≠ 127 → h2 a = h a := fun a p q t u v => (f2.1 a p t u v).trans (f1.1 a p q)
    have m : ∀ i, i ≠ 0 → i ≠ 1 → i ≠ 38 → i ≠ 39 → i ≠ 46 → h2 113 i = h 113 i := fun i p q t u v => (f2.2.2 i p q t u v).trans (f1.2.2 i t u v)
    have o2 : h2 2 = h 2 := o 2 (by unfold scrA; omega) (by omega) (by decide) (by decide) (by decide)
  · exact (i2.fr (by rw [o2]) (m _ (by decide) (by decide) (by decide) (by decide) (by decide)) (m _ (by decide) (by decide) (by decide) (by decide) (by decide)) (m _ (by decide) (by decide) (by decide) (by decide) (by decide)) (fun a ha => o a (by unfold scrA; omega) (by omega) (by omega) (by omega) (by omega))).mono hG hF
  · exact i3.fr (by rw [o2]) (m _ (by decide) (by decide) (by decide) (by decide) (by decide)) (o _ (by unfold scrA; omega) (by omega) (by decide) (by decide) (by decide)) (o _ (by unfold scrA; omega) (by omega) (by decide) (by decide) (by decide))
  · exact (i4.fr (by rw [o2]) (m _ (by decide) (by decide) (by decide) (by decide) (by decide)) (by rw [o2]) (m _ (by decide) (by decide) (by decide) (by decide) (by decide)) (fun a ha => o a (by unfold scrA; omega) (by omega) (by omega) (by omega) (by omega))).mono hG hF
  · exact i5.fr (by rw [o2]) (m _ (by decide) (by decide) (by decide) (by decide) (by decide)) (fun a ha => o a (by unfold scrA; omega) (by omega) (by omega) (by omega) (by omega))
  · exact i6.fr (o _ (by unfold scrA; omega) (by omega) (by decide) (by decide) (by decide)) (o _ (by unfold scrA; omega) (by omega) (by decide) (by decide) (by decide)) (m _ (by decide) (by decide) (by decide) (by decide) (by decide))
  · exact i7.fr (by rw [o2]) (fun a ha => o a (by unfold scrA; omega) (by omega) (by omega) (by omega) (by omega))
/-- one girl more -/
theorem bC_girl {p : Int32} : bC (up2 (up2 (up2 h 4 G p) 5 G 60) 3 7 (nI (G + 1))) 3 (G + 1) F = up2 (up2 (bC h 3 G F) 0 G p) 1 G 60 := by
  funext k i
  by_cases k0 : k = 0
  · subst k0
    by_cases e : i = G
    · subst e; simp [bC, up2, cut]
    · simp only [bC, up2, cut, e, if_true, if_false, show (0 : Nat) < 6 by decide, show (0 : Nat) < 2 by decide, show ¬ ((3 : Nat) + 1 + 0 = 3) by decide, show ¬ ((3 : Nat) + 1 + 0 = 5) by decide, show ((3 : Nat) + 1 + 0 = 4) by decide, show ¬ ((0 : Nat) = 1) by decide]
      by_cases c : i < G
      · rw [if_pos (by omega), if_pos c]
      · rw [if_neg (by omega), if_neg c]
  · by_cases k1 : k = 1
    · subst k1
      by_cases e : i = G
      · subst e; simp [bC, up2, cut]
      · simp only [bC, up2, cut, e, if_true, if_false, show (1 : Nat) < 6 by decide, show (1 : Nat) < 2 by decide, show ¬ ((3 : Nat) + 1 + 1 = 3) by decide, show ((3 : Nat) + 1 + 1 = 5) by decide, show ¬ ((3 : Nat) + 1 + 1 = 4) by decide, show ¬ ((1 : Nat) = 0) by decide]
        by_cases c : i < G
        · rw [if_pos (by omega), if_pos c]
        · rw [if_neg (by omega), if_neg c]
    · simp only [bC, up2, k0, k1, if_false]
      by_cases k6 : k < 6
      · have c2 : ¬ k < 2 := by omega
        simp only [k6, if_true, cut, c2, if_false, show ¬ (3 + 1 + k = 3) by omega, show ¬ (3 + 1 + k = 5) by omega, show ¬ (3 + 1 + k = 4) by omega]
      · simp only [k6, if_false, if_true, show ¬ ((9 : Nat) = 7) by decide, show ¬ ((10 : Nat) = 7) by decide, show ¬ ((3 : Nat) = 5) by decide, show ¬ ((3 : Nat) = 4) by decide]
theorem bM_girl {p : Int32} (hG : G < 8) : bM (up2 (up2 (up2 h 114 G p) 114 (8 + G) 60) 113 0 (nI (G + 1))) (G + 1) F = up2 (up2 (bM h G F) 0 G p) 1 G 60 := by
  funext k i
  by_cases k0 : k = 0
  · subst k0
    by_cases e : i = G
    · subst e; simp [bM, up2, cut]
    · simp only [bM, up2, cut, e, if_true, if_false, show (0 : Nat) < 6 by decide, show (0 : Nat) < 2 by decide, show ¬ ((114 : Nat) = 113) by decide, Nat.mul_zero, Nat.zero_add, show ¬ ((0 : Nat) = 1) by decide]
      by_cases c : i < G
      · rw [if_pos (by omega), if_pos c, if_neg (by omega)]
      · rw [if_neg (by omega), if_neg c]
  · by_cases k1 : k = 1
    · subst k1
      by_cases e : i = G
      · subst e; simp [bM, up2, cut]
      · simp only [bM, up2, cut, e, if_true, if_false, show (1 : Nat) < 6 by decide, show (1 : Nat) < 2 by decide, show ¬ ((114 : Nat) = 113) by decide, Nat.mul_one, show ¬ ((1 : Nat) = 0) by decide]
        by_cases c : i < G
        · rw [if_pos (by omega), if_pos c, if_neg (by omega), if_neg (by omega)]
        · rw [if_neg (by omega), if_neg c]
    · simp only [bM, up2, k0, k1, if_false]
      by_cases k6 : k < 6
      · have c2 : ¬ k < 2 := by omega
        simp only [k6, if_true, cut, c2, if_false, show ¬ ((114 : Nat) = 113) by decide]
        by_cases c : i < F
        · rw [if_pos c, if_pos c, if_neg (by omega), if_neg (by omega)]
        · rw [if_neg c, if_neg c]
      · simp only [k6, if_false, if_true, show ¬ ((115 : Nat) = 113) by decide, show ¬ ((115 : Nat) = 114) by decide]
theorem WF.girl {p : Int32} (w : WF G F b) (hp : inb p 36) : WF (G + 1) F (up2 (up2 b 0 G p) 1 G 60) := by
  intro k i hk hi
  simp only [up2]
  by_cases k1 : k = 1
  · subst k1
    by_cases e : i = G
    · simp only [e, if_true]; show inb 60 100; decide
    · simp only [e, if_true, if_false, show ¬ ((1 : Nat) = 0) by decide]
      have hi : i < G + 1 := hi
      exact okc_mono (w 1 i (by decide) (show i < G by omega)) (by omega)
  · by_cases k0 : k = 0
    · subst k0
      by_cases e : i = G
      · simp only [e, if_true, show ¬ ((0 : Nat) = 1) by decide, if_false]; exact hp
      · simp only [e, if_true, if_false, show ¬ ((0 : Nat) = 1) by decide]
        have hi : i < G + 1 := hi
        exact okc_mono (w 0 i (by decide) (show i < G by omega)) (by omega)
    · simp only [k0, k1, if_false]
      have hi : i < cutW G F k := by
        unfold cutW at hi ⊢
        rw [if_neg (by omega)] at hi ⊢; exact hi
      exact okc_mono (w k i hk hi) (by omega)
theorem q_girl {p : Int32} (I : Inv h j r E) : Both 60 71 150 [some (vr 2), some (vi p)] [some (vr 113), some (vi p)] (mm h j r E) := by
  obtain ⟨G, F, l, W, b, C, D, _⟩ := id I
  have hS := C.S
  have hG8 := C.G8
  have h35 : b2i (0 ≤ p ∧ p ≤ 35) = b2i (inb p 36) := b2i_c in_35
  by_cases c1 : inb p 36
  case neg =>
    refine both_q (a := -1) I (fun Q hQ => ?_) (fun h1 s Q hQ => ?_)
    · simp only [k71_0, k71_1, k71_2, k71_3, k71_6, k71_9, k71_10, k71_13, k71_14, k71_17, k71_20, k71_21, k76_0, k76_1c0, k76_1c1, k76_1c2, k76_1c3, k76_1c4, k76_1c5, k76_1c6, k76_1c7, k76_1, k76_48, k76_49, k76_50, k76_52, k76_55, k76_56, k76_57, k76_58, k76_60, k76_63, k76_64, k76_65, k76_66, k76_68, k76_71, k76_72, k76_73, k76_74, k76_77, k76_78, k76_81, k76_82, k76_85, k76_88, k76_89, k76_92, k76_93, k76_94, k76_95, k76_96, k76_98, k76_101, k76_102, k76_103, mm_sI, mm_sJ, mm_sR, mm_cI, mm_cJ, mm_I, mm_J, mm_R, mm_K, mm_N, psh_s, psh_n, z_n, z_i, z_r, z_l, Nat.reduceAdd, Nat.reduceLeDiff, K2 hS, R2_0 hS, R2_1 hS, R2_2 hS, R2_6 hS, R2_8 hS, R2_11 hS, R2_12 hS, R2_13 hS, R2_15 hS, R2_16 hS, K3 hS, K11 hS, K19 hS, K27 hS, K32 hS, K37 hS, K98 hS, K99 hS, K100 hS, N37 hS, N98 hS, N99 hS, N100 hS, false_or, or_false, ne_eq, true_or, or_true, not_false_eq_true, Nat.reduceEqDiff, Nat.reduceLT, Nat.reduceLeDiff, Nat.reduceAdd, s_within, h35, b2i_01, b2i_f c1, if_true]; exact hQ h ScrD.rf
    · simp only [k150_0, k150_1, k150_4, k150_7, k150_8, k150_9, k150_10, k150_13, k150_15, k150_18, k150_20, k150_21, k150_22, k150_25, k150_26, k150_29, k150_30, k150_31, k150_32, k150_35, k150_37, k150_38, k150_41, k150_42, k150_44, k150_45, k150_46, k150_46i, k150_47, k150_50, k150_51, k150_52, k150_53, k150_56, k148_0, k148_1, k148_2, k148_4, k148_7, mm_sI, mm_sJ, mm_sR, mm_cI, mm_cJ, mm_I, mm_J, mm_R, mm_K, mm_N, psh_s, psh_n, z_n, z_i, z_r, z_l, Nat.reduceAdd, Nat.reduceLeDiff, K113 hS, R113_2 hS, R113_3 hS, R113_5 hS, R113_8 hS, R113_9 hS, R113_10 hS, R113_11 hS, R113_16 hS, R113_17 hS, R113_18 hS, R113_19 hS, R113_20 hS, R113_21 hS, R113_22 hS, R113_26 hS, R113_27 hS, R113_30 hS, R113_32 hS, R113_34 hS, R113_35 hS, R113_36 hS, R113_37 hS, R113_40 hS, R113_41 hS, R113_42 hS, R113_43 hS, R113_44 hS, R113_45 hS, R113_47 hS, K114 hS, K115 hS, K116 hS, K117 hS, K118 hS, K119 hS, K120 hS, K121 hS, K122 hS, K123 hS, K124 hS, K125 hS, K126 hS, K127 hS, K128 hS, K129 hS, K130 hS, K131 hS, K132 hS, K133 hS, K134 hS, K135 hS, K136 hS, K137 hS, K138 hS, K139 hS, K140 hS, K141 hS, K142 hS, N114 hS, N115 hS, N116 hS, N117 hS, N118 hS, N119 hS, N120 hS, N121 hS, N122 hS, N123 hS, N124 hS, N125 hS, N126 hS, N127 hS, N128 hS, N129 hS, N130 hS, N131 hS, N132 hS, N133 hS, N134 hS, N135 hS, N136 hS, N137 hS, N138 hS, N139 hS, N140 hS, N141 hS, N142 hS, false_or, or_false, ne_eq, true_or, or_true, not_false_eq_true, Nat.reduceEqDiff, Nat.reduceLT, Nat.reduceLeDiff, Nat.reduceAdd, s_within', h35, b2i_01, b2i_f c1, if_true]; exact hQ h1 ScrD.rf
  by_cases c2 : G = 8
  · subst c2
    refine both_q (a := -3) I (fun Q hQ => ?_) (fun h1 s Q hQ => ?_)
    · simp only [k71_0, k71_1, k71_2, k71_3, k71_6, k71_9, k71_10, k71_13, k71_14, k71_17, k71_20, k71_21, k76_0, k76_1c0, k76_1c1, k76_1c2, k76_1c3, k76_1c4, k76_1c5, k76_1c6, k76_1c7, k76_1, k76_48, k76_49, k76_50, k76_52, k76_55, k76_56, k76_57, k76_58, k76_60, k76_63, k76_64, k76_65, k76_66, k76_68, k76_71, k76_72, k76_73, k76_74, k76_77, k76_78, k76_81, k76_82, k76_85, k76_88, k76_89, k76_92, k76_93, k76_94, k76_95, k76_96, k76_98, k76_101, k76_102, k76_103, k26_0, k26_1, k26_4, k26_6, k26_9, k26_11, k26_12, k26_13, k26_16, k26_17, k26_20, k26_21, k26_22, k26_23, k26_26, k26_27, k26_30, k26_32, k26_33, k26_34, k26_34i, k26_35, k26_38, k26_39, k26_40, k26_43, k26_44, k26_47, k26_48, k26_49, mm_sI, mm_sJ, mm_sR, mm_cI, mm_cJ, mm_I, mm_J, mm_R, mm_K, mm_N, psh_s, psh_n, z_n, z_i, z_r, z_l, Nat.reduceAdd, Nat.reduceLeDiff, K2 hS, R2_0 hS, R2_1 hS, R2_2 hS, R2_6 hS, R2_8 hS, R2_11 hS, R2_12 hS, R2_13 hS, R2_15 hS, R2_16 hS, K3 hS, K11 hS, K19 hS, K27 hS, K32 hS, K37 hS, K98 hS, K99 hS, K100 hS, N37 hS, N98 hS, N99 hS, N100 hS, false_or, or_false, ne_eq, true_or, or_true, not_false_eq_true, Nat.reduceEqDiff, Nat.reduceLT, Nat.reduceLeDiff, Nat.reduceAdd, s_within, h35, b2i_01, b2i_t c1, e10, if_false, C.eG, nn8, Int32.lt_irrefl]; exact hQ h ScrD.rf
    · simp only [k150_0, k150_1, k150_4, k150_7, k150_8, k150_9, k150_10, k150_13, k150_15, k150_18, k150_20, k150_21, k150_22, k150_25, k150_26, k150_29, k150_30, k150_31, k150_32, k150_35, k150_37, k150_38, k150_41, k150_42, k150_44, k150_45, k150_46, k150_46i, k150_47, k150_50, k150_51, k150_52, k150_53, k150_56, k148_0, k148_1, k148_2, k148_4, k148_7, mm_sI, mm_sJ, mm_sR, mm_cI, mm_cJ, mm_I, mm_J, mm_R, mm_K, mm_N, psh_s, psh_n, z_n, z_i, z_r, z_l, Nat.reduceAdd, Nat.reduceLeDiff, K113 hS, R113_2 hS, R113_3 hS, R113_5 hS, R113_8 hS, R113_9 hS, R113_10 hS, R113_11 hS, R113_16 hS, R113_17 hS, R113_18 hS, R113_19 hS, R113_20 hS, R113_21 hS, R113_22 hS, R113_26 hS, R113_27 hS, R113_30 hS, R113_32 hS, R113_34 hS, R113_35 hS, R113_36 hS, R113_37 hS, R113_40 hS, R113_41 hS, R113_42 hS, R113_43 hS, R113_44 hS, R113_45 hS, R113_47 hS, K114 hS, K115 hS, K116 hS, K117 hS, K118 hS, K119 hS, K120 hS, K121 hS, K122 hS, K123 hS, K124 hS, K125 hS, K126 hS, K127 hS, K128 hS, K129 hS, K130 hS, K131 hS, K132 hS, K133 hS, K134 hS, K135 hS, K136 hS, K137 hS, K138 hS, K139 hS, K140 hS, K141 hS, K142 hS, N114 hS, N115 hS, N116 hS, N117 hS, N118 hS, N119 hS, N120 hS, N121 hS, N122 hS, N123 hS, N124 hS, N125 hS, N126 hS, N127 hS, N128 hS, N129 hS, N130 hS, N131 hS, N132 hS, N133 hS, N134 hS, N135 hS, N136 hS, N137 hS, N138 hS, N139 hS, N140 hS, N141 hS, N142 hS, false_or, or_false, ne_eq, true_or, or_true, not_false_eq_true, Nat.reduceEqDiff, Nat.reduceLT, Nat.reduceLeDiff, Nat.reduceAdd, s_within', h35, b2i_01, b2i_t c1, e10, if_false, (D.frD s).eG, nn8, if_true]; exact hQ h1 ScrD.rf
  · refine both_m I ?_
    intro G0 F0 l0 W0 b0 C0 D0 L0 _
    have eG : G0 = G := by have := C0.eG; rw [C.eG] at this; exact ((nI_eq (by have := C0.G8; omega) (by omega)).1 this.symm)
    subst eG
    refine ⟨G0 + 1, F0, up2 (up2 b0 0 G0 p) 1 G0 60, nI G0, h 10, by omega, Nat.le_refl _, ?_, ?_⟩
    · intro Q hQ
      have p1 : nI G0 < 8 := by rw [← nn8, nLt (by omega) (by decide)]; omega
      have hb : inb (nI G0) 8 = True := eq_true (by rw [inb_n (by omega)]; omega)
      simp only [k71_0, k71_1, k71_2, k71_3, k71_6, k71_9, k71_10, k71_13, k71_14, k71_17, k71_20, k71_21, k76_0, k76_1c0, k76_1c1, k76_1c2, k76_1c3, k76_1c4, k76_1c5, k76_1c6, k76_1c7, k76_1, k76_48, k76_49, k76_50, k76_52, k76_55, k76_56, k76_57, k76_58, k76_60, k76_63, k76_64, k76_65, k76_66, k76_68, k76_71, k76_72, k76_73, k76_74, k76_77, k76_78, k76_81, k76_82, k76_85, k76_88, k76_89, k76_92, k76_93, k76_94, k76_95, k76_96, k76_98, k76_101, k76_102, k76_103, k26_0, k26_1, k26_4, k26_6, k26_9, k26_11, k26_12, k26_13, k26_16, k26_17, k26_20, k26_21, k26_22, k26_23, k26_26, k26_27, k26_30, k26_32, k26_33, k26_34, k26_34i, k26_35, k26_38, k26_39, k26_40, k26_43, k26_44, k26_47, k26_48, k26_49, mm_sI, mm_sJ, mm_sR, mm_cI, mm_cJ, mm_I, mm_J, mm_R, mm_K, mm_N, psh_s, psh_n, z_n, z_i, z_r, z_l, Nat.reduceAdd, Nat.reduceLeDiff, K2 hS, R2_0 hS, R2_1 hS, R2_2 hS, R2_6 hS, R2_8 hS, R2_11 hS, R2_12 hS, R2_13 hS, R2_15 hS, R2_16 hS, K3 hS, K11 hS, K19 hS, K27 hS, K32 hS, K37 hS, K98 hS, K99 hS, K100 hS, N37 hS, N98 hS, N99 hS, N100 hS, R3_0 hS, R3_1 hS, R3_2 hS, R3_3 hS, R3_4 hS, R3_5 hS, R3_6 hS, K4 hS, K5 hS, K6 hS, K7 hS, K8 hS, K9 hS, K10 hS, N4 hS, N5 hS, N6 hS, N7 hS, N8 hS, N9 hS, N10 hS, up2_s, up2_ai, up2_i, false_or, or_false, ne_eq, true_or, or_true, not_false_eq_true, Nat.reduceEqDiff, Nat.reduceLT, Nat.reduceLeDiff, Nat.reduceAdd, s_within, h35, b2i_01, b2i_t c1, e10, if_false, C0.eG, p1, if_true, hb, ix_n (show G0 < 2 ^ 31 by omega), nS1, nSub (show G0 + 1 < 2 ^ 31 by omega)]
      refine hQ _ (FC.up (FC.up (FC.up FC.rf (by decide)) (by decide)) (by decide)) (C0.mk (FC.up (FC.up (FC.up FC.rf (by decide)) (by decide)) (by decide)) ?_ ?_ (by omega) C0.F8 ?_ (C0.w.girl c1)) ?_
      · rw [up2_s]
      · rw [up2_i (by decide), up2_a (by decide), up2_a (by decide)]; exact C0.eF
      · rw [bC_girl, C0.eb]
      · intro i _; rw [up2_a (by decide), up2_a (by decide), up2_a (by decide)]
    · intro h1 f1 D1 Q hQ
      have p1 : (nI G0 = 8) = False := by rw [← nn8, nEq (by omega) (by decide)]; apply eq_false; omega
      have hb : inb (nI G0) 48 = True := eq_true (by rw [inb_n (by omega)]; omega)
      have hb2 : inb (nI (8 + G0)) 48 = True := eq_true (by rw [inb_n (by omega)]; omega)
      simp only [k150_0, k150_1, k150_4, k150_7, k150_8, k150_9, k150_10, k150_13, k150_15, k150_18, k150_20, k150_21, k150_22, k150_25, k150_26, k150_29, k150_30, k150_31, k150_32, k150_35, k150_37, k150_38, k150_41, k150_42, k150_44, k150_45, k150_46, k150_46i, k150_47, k150_50, k150_51, k150_52, k150_53, k150_56, k148_0, k148_1, k148_2, k148_4, k148_7, mm_sI, mm_sJ, mm_sR, mm_cI, mm_cJ, mm_I, mm_J, mm_R, mm_K, mm_N, psh_s, psh_n, z_n, z_i, z_r, z_l, Nat.reduceAdd, Nat.reduceLeDiff, K113 hS, R113_2 hS, R113_3 hS, R113_5 hS, R113_8 hS, R113_9 hS, R113_10 hS, R113_11 hS, R113_16 hS, R113_17 hS, R113_18 hS, R113_19 hS, R113_20 hS, R113_21 hS, R113_22 hS, R113_26 hS, R113_27 hS, R113_30 hS, R113_32 hS, R113_34 hS, R113_35 hS, R113_36 hS, R113_37 hS, R113_40 hS, R113_41 hS, R113_42 hS, R113_43 hS, R113_44 hS, R113_45 hS, R113_47 hS, K114 hS, K115 hS, K116 hS, K117 hS, K118 hS, K119 hS, K120 hS, K121 hS, K122 hS, K123 hS, K124 hS, K125 hS, K126 hS, K127 hS, K128 hS, K129 hS, K130 hS, K131 hS, K132 hS, K133 hS, K134 hS, K135 hS, K136 hS, K137 hS, K138 hS, K139 hS, K140 hS, K141 hS, K142 hS, N114 hS, N115 hS, N116 hS, N117 hS, N118 hS, N119 hS, N120 hS, N121 hS, N122 hS, N123 hS, N124 hS, N125 hS, N126 hS, N127 hS, N128 hS, N129 hS, N130 hS, N131 hS, N132 hS, N133 hS, N134 hS, N135 hS, N136 hS, N137 hS, N138 hS, N139 hS, N140 hS, N141 hS, N142 hS, up2_s, up2_ai, up2_i, false_or, or_false, ne_eq, true_or, or_true, not_false_eq_true, Nat.reduceEqDiff, Nat.reduceLT, Nat.reduceLeDiff, Nat.reduceAdd, s_within', h35, b2i_01, b2i_t c1, e10, if_false, D1.eG, p1, hb, hb2, a8, ix_n (show G0 < 2 ^ 31 by omega), ix_n (show 8 + G0 < 2 ^ 31 by omega), nS1]
      have fm : FM h1 (up2 (up2 (up2 h1 114 G0 p) 114 (8 + G0) 60) 113 0 (nI (G0 + 1))) := FM.u0 (FM.up (FM.up FM.rf (by decide)) (by decide)) (Or.inl rfl)
      refine hQ _ fm (D1.mk fm ?_ ?_ (by omega) D1.F8 ?_ (D1.w.girl c1)) ?_
      · rw [up2_s]
      · rw [up2_i (by decide), up2_a (by decide), up2_a (by decide)]; exact D1.eF
      · rw [bM_girl (by omega), D1.eb]
      · intro i hi; rw [up2_a (by decide), up2_a (by decide), up2_a (by decide), f1.1 127 (by unfold scrA; omega) (by omega)]; exact L0 i hi
end DE
