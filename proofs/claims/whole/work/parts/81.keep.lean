/-! ===== bodies kept, what is taken ===== -/
section KP
variable {d : Nat} {M : Mem} {h h0 h1 h2 : Hp} {j j1 : Jp} {r r1 : Rp} {E : EE} {l G F A s n : Nat} {W : LW} {b bt bm : BB} {Q : Option PV → Mem → Prop} {hd : Int32} {V : Nat → Int64} {HD : Nat → Int32} {N : Nat → Nat} {VV : Nat → Nat → Int64}
theorem b_in {x : Int32} {nb : Nat} (hn : nb ≤ 50) : (-1 ≤ x ∧ x ≤ nI nb - 1) ↔ (x = -1 ∨ inb x nb) := by
  rw [iLe, iLe, im1, subI (by rw [nI_toInt (by omega), i1]; omega) (by rw [nI_toInt (by omega), i1]; omega), nI_toInt (by omega), i1, inbI, iEq, im1]; omega
theorem q_keep {sh bo : Int32} (I : Inv h j r E) : Both 60 132 237 [some (vr 2), some (vi sh), some (vi bo)] [some (vr 113), some (vi sh), some (vi bo)] (mm h j r E) := by
  obtain ⟨G, F, l, W, b, C, D, _, _, _, _, ⟨nb, nb50, b1, b2, b3, b4, bods⟩, _, HD, N, V, sc, sm, nb', n1, n2, n3⟩ := id I
  have hS := C.S
  have enb : nb' = nb := (nI_eq (by omega) (by omega)).1 (n1.symm.trans b1)
  subst enb
  by_cases c1 : inb sh 6
  case neg =>
    refine both_i (a := -1) I (fun Q hQ => ?_) (fun Q hQ => ?_)
    · simp only [k132_0, k132_1, k132_4, k132_7, k132_8, k132_9, k132_10, k132_13, k132_14, k132_15, k132_18, k132_21, k132_22, k132_23, k132_24, k132_27, k132_28, k132_29, k132_30, k132_31, k132_34, k132_35, k132_38, k132_39, k132_42, k132_43, k132_44, k132_47, k132_48, mm_sI, mm_sJ, mm_sR, mm_cI, mm_cJ, mm_I, mm_J, mm_R, mm_K, mm_N, psh_s, psh_n, z_n, z_i, z_r, z_l, Nat.reduceAdd, Nat.reduceLeDiff, K2 hS, R2_0 hS, R2_1 hS, R2_2 hS, R2_6 hS, R2_8 hS, R2_11 hS, R2_12 hS, R2_13 hS, R2_15 hS, R2_16 hS, K3 hS, K11 hS, K19 hS, K27 hS, K32 hS, K37 hS, K98 hS, K99 hS, K100 hS, N37 hS, N98 hS, N99 hS, N100 hS, false_or, or_false, ne_eq, true_or, or_true, not_false_eq_true, Nat.reduceEqDiff, Nat.reduceLT, Nat.reduceLeDiff, Nat.reduceAdd, s_isShelf, b2i_f c1, if_true]; exact hQ
    · simp only [k237_0, k237_1, k237_4, k237_7, k237_8, k237_9, k237_10, k237_13, k237_14, k237_15, k237_18, k237_21, k237_22, k237_23, k237_24, k237_27, k237_28, k237_29, k237_32, k237_33, k237_36, k237_38, k237_39, k237_40, k237_41, k237_42, k237_45, k237_46, k237_47, k237_48, k237_49, mm_sI, mm_sJ, mm_sR, mm_cI, mm_cJ, mm_I, mm_J, mm_R, mm_K, mm_N, psh_s, psh_n, z_n, z_i, z_r, z_l, Nat.reduceAdd, Nat.reduceLeDiff, K113 hS, R113_2 hS, R113_3 hS, R113_5 hS, R113_8 hS, R113_9 hS, R113_10 hS, R113_11 hS, R113_16 hS, R113_17 hS, R113_18 hS, R113_19 hS, R113_20 hS, R113_21 hS, R113_22 hS, R113_26 hS, R113_27 hS, R113_30 hS, R113_32 hS, R113_34 hS, R113_35 hS, R113_36 hS, R113_37 hS, R113_40 hS, R113_41 hS, R113_42 hS, R113_43 hS, R113_44 hS, R113_45 hS, R113_47 hS, K114 hS, K115 hS, K116 hS, K117 hS, K118 hS, K119 hS, K120 hS, K121 hS, K122 hS, K123 hS, K124 hS, K125 hS, K126 hS, K127 hS, K128 hS, K129 hS, K130 hS, K131 hS, K132 hS, K133 hS, K134 hS, K135 hS, K136 hS, K137 hS, K138 hS, K139 hS, K140 hS, K141 hS, K142 hS, N114 hS, N115 hS, N116 hS, N117 hS, N118 hS, N119 hS, N120 hS, N121 hS, N122 hS, N123 hS, N124 hS, N125 hS, N126 hS, N127 hS, N128 hS, N129 hS, N130 hS, N131 hS, N132 hS, N133 hS, N134 hS, N135 hS, N136 hS, N137 hS, N138 hS, N139 hS, N140 hS, N141 hS, N142 hS, false_or, or_false, ne_eq, true_or, or_true, not_false_eq_true, Nat.reduceEqDiff, Nat.reduceLT, Nat.reduceLeDiff, Nat.reduceAdd, m_isShelf, b2i_f c1, if_true]; exact hQ
  by_cases c2 : -1 ≤ bo ∧ bo ≤ nI nb' - 1
  case neg =>
    refine both_i (a := -1) I (fun Q hQ => ?_) (fun Q hQ => ?_)
    · simp only [k132_0, k132_1, k132_4, k132_7, k132_8, k132_9, k132_10, k132_13, k132_14, k132_15, k132_18, k132_21, k132_22, k132_23, k132_24, k132_27, k132_28, k132_29, k132_30, k132_31, k132_34, k132_35, k132_38, k132_39, k132_42, k132_43, k132_44, k132_47, k132_48, mm_sI, mm_sJ, mm_sR, mm_cI, mm_cJ, mm_I, mm_J, mm_R, mm_K, mm_N, psh_s, psh_n, z_n, z_i, z_r, z_l, Nat.reduceAdd, Nat.reduceLeDiff, K2 hS, R2_0 hS, R2_1 hS, R2_2 hS, R2_6 hS, R2_8 hS, R2_11 hS, R2_12 hS, R2_13 hS, R2_15 hS, R2_16 hS, K3 hS, K11 hS, K19 hS, K27 hS, K32 hS, K37 hS, K98 hS, K99 hS, K100 hS, N37 hS, N98 hS, N99 hS, N100 hS, false_or, or_false, ne_eq, true_or, or_true, not_false_eq_true, Nat.reduceEqDiff, Nat.reduceLT, Nat.reduceLeDiff, Nat.reduceAdd, s_isShelf, b2i_t c1, e10, if_false, s_within, b1, b2i_f c2, if_true]; exact hQ
    · simp only [k237_0, k237_1, k237_4, k237_7, k237_8, k237_9, k237_10, k237_13, k237_14, k237_15, k237_18, k237_21, k237_22, k237_23, k237_24, k237_27, k237_28, k237_29, k237_32, k237_33, k237_36, k237_38, k237_39, k237_40, k237_41, k237_42, k237_45, k237_46, k237_47, k237_48, k237_49, mm_sI, mm_sJ, mm_sR, mm_cI, mm_cJ, mm_I, mm_J, mm_R, mm_K, mm_N, psh_s, psh_n, z_n, z_i, z_r, z_l, Nat.reduceAdd, Nat.reduceLeDiff, K113 hS, R113_2 hS, R113_3 hS, R113_5 hS, R113_8 hS, R113_9 hS, R113_10 hS, R113_11 hS, R113_16 hS, R113_17 hS, R113_18 hS, R113_19 hS, R113_20 hS, R113_21 hS, R113_22 hS, R113_26 hS, R113_27 hS, R113_30 hS, R113_32 hS, R113_34 hS, R113_35 hS, R113_36 hS, R113_37 hS, R113_40 hS, R113_41 hS, R113_42 hS, R113_43 hS, R113_44 hS, R113_45 hS, R113_47 hS, K114 hS, K115 hS, K116 hS, K117 hS, K118 hS, K119 hS, K120 hS, K121 hS, K122 hS, K123 hS, K124 hS, K125 hS, K126 hS, K127 hS, K128 hS, K129 hS, K130 hS, K131 hS, K132 hS, K133 hS, K134 hS, K135 hS, K136 hS, K137 hS, K138 hS, K139 hS, K140 hS, K141 hS, K142 hS, N114 hS, N115 hS, N116 hS, N117 hS, N118 hS, N119 hS, N120 hS, N121 hS, N122 hS, N123 hS, N124 hS, N125 hS, N126 hS, N127 hS, N128 hS, N129 hS, N130 hS, N131 hS, N132 hS, N133 hS, N134 hS, N135 hS, N136 hS, N137 hS, N138 hS, N139 hS, N140 hS, N141 hS, N142 hS, false_or, or_false, ne_eq, true_or, or_true, not_false_eq_true, Nat.reduceEqDiff, Nat.reduceLT, Nat.reduceLeDiff, Nat.reduceAdd, m_isShelf, b2i_t c1, e10, if_false, s_within', b2, b2i_f c2, if_true]; exact hQ
  obtain ⟨s, hs, rfl, _⟩ := inb_of c1
  have ex : ix (nI s) = s := ix_n (by omega)
  have hb : inb (nI s) 6 = True := eq_true c1
  -- what is held now: hd, v
  have fin : ∀ (hd : Int32) (v : Nat), (v = 0 ↔ hd < 10) → (hd = -1 ∨ 10 ≤ hd) → (10 ≤ hd → ∃ i, i < nb' ∧ hd = nI (10 + i) ∧ v = 143 + i) → InvE (mm (up2 (up2 (up2 (up2 h (101 + 2 * s) 2 (-1)) (101 + 2 * s) 3 0) 133 s hd) 134 s 0) j (up2 r (101 + 2 * s) 1 v) E) := by
    intro hd v hv hk hi
    have n5 : ¬ inb hd 5 := by
      intro h5
      have := inb_i h5
      rcases hk with rfl | hk
      · exact h5.1 (by decide)
      · rw [iLe, show (10 : Int32).toInt = 10 from rfl] at hk; omega
    refine ⟨_, _, _, E, rfl, I.shv (fun a p q t => ?_) (sh_rr hS hs) (by rw [up2_a (by omega)]) (fun a ha => up2_a (by omega)) ⟨putF HD s hd, putF N s 0, V, ?_, ?_, nb', ?_, n2, ?_⟩⟩
    · rw [up2_a t, up2_a q, up2_a (by omega), up2_a (by omega)]
    · intro s' hs'
      obtain ⟨a1, a2, a3, a4, a5, a6, a7, a8⟩ := sc s' hs'
      by_cases e : s' = s
      · subst e
        refine ⟨?_, ?_, a3, ?_, ?_, ?_, ?_, ?_⟩
        · rw [up2_a (by omega), up2_a (by omega), up2_s, putF_s]; rfl
        · rw [putF_s]; omega
        · rw [up2_a (by omega), up2_a (by omega), up2_i (by decide), up2_s, putF_s, if_neg n5]
        · rw [up2_s, putF_s]; exact hv
        · rw [putF_s]; rcases hk with hk | hk; exact Or.inl hk; exact Or.inr (Or.inr hk)
        · intro h0 i hi
          rw [putF_s] at h0
          exact absurd (by rw [h0]; exact inb_00 (by decide)) n5
        · intro h0; rw [putF_s] at h0; exact absurd rfl h0
      · rw [putF_n e, putF_n e]
        refine ⟨?_, a2, a3, ?_, ?_, a6, a7, a8⟩
        · rw [up2_a (by omega), up2_a (by omega), up2_a (by omega), up2_a (by omega)]; exact a1
        · rw [up2_a (by omega), up2_a (by omega), up2_a (by omega), up2_a (by omega)]; exact a4
        · rw [up2_a (by omega)]; exact a5
    · intro s' hs'
      obtain ⟨a1, a2, a3⟩ := sm s' hs'
      by_cases e : s' = s
      · subst e
        refine ⟨?_, ?_, a3⟩
        · rw [up2_a (by decide), up2_s, putF_s]
        · rw [up2_s, putF_s]; rfl
      · rw [putF_n e, putF_n e]
        refine ⟨?_, ?_, a3⟩
        · rw [up2_a (by decide), up2_i e, up2_a (by omega), up2_a (by omega)]; exact a1
        · rw [up2_i e, up2_a (by decide), up2_a (by omega), up2_a (by omega)]; exact a2
    · rw [up2_a (by decide), up2_a (by decide), up2_a (by omega), up2_a (by omega)]; exact n1
    · intro s' hs' h10
      by_cases e : s' = s
      · subst e
        rw [putF_s] at h10 ⊢
        rw [up2_s]; exact hi h10
      · rw [putF_n e] at h10 ⊢
        rw [up2_a (by omega)]; exact n3 s' hs' h10
  have f1 : ∀ (x y : Int32) (i : Nat), up2 (up2 h (101 + 2 * s) 2 x) (101 + 2 * s) 3 y 113 i = h 113 i := fun x y i => by rw [up2_a (by omega), up2_a (by omega)]
  have f2 : ∀ (x i : Nat), up2 r (101 + 2 * s) 1 x 113 i = r 113 i := fun x i => by rw [up2_a (by omega)]
  unfold Both
  rcases (b_in nb50).1 c2 with rfl | cb
  · have key := fin (-1) 0 ⟨fun _ => by decide, fun _ => rfl⟩ (Or.inl rfl) (fun h10 => absurd h10 (by decide))
    simp only [k132_0, k132_1, k132_4, k132_7, k132_8, k132_9, k132_10, k132_13, k132_14, k132_15, k132_18, k132_21, k132_22, k132_23, k132_24, k132_27, k132_28, k132_29, k132_30, k132_31, k132_34, k132_35, k132_38, k132_39, k132_42, k132_43, k132_44, k132_47, k132_48, k62_0, k62_1, k62_2, k62_5, k62_6, k62_7, k62_10, k62_11, k62_12, k62_15, k237_0, k237_1, k237_4, k237_7, k237_8, k237_9, k237_10, k237_13, k237_14, k237_15, k237_18, k237_21, k237_22, k237_23, k237_24, k237_27, k237_28, k237_29, k237_32, k237_33, k237_36, k237_38, k237_39, k237_40, k237_41, k237_42, k237_45, k237_46, k237_47, k237_48, k237_49, mm_sI, mm_sJ, mm_sR, mm_cI, mm_cJ, mm_I, mm_J, mm_R, mm_K, mm_N, psh_s, psh_n, z_n, z_i, z_r, z_l, Nat.reduceAdd, Nat.reduceLeDiff, K2 hS, R2_0 hS, R2_1 hS, R2_2 hS, R2_6 hS, R2_8 hS, R2_11 hS, R2_12 hS, R2_13 hS, R2_15 hS, R2_16 hS, K3 hS, K11 hS, K19 hS, K27 hS, K32 hS, K37 hS, K98 hS, K99 hS, K100 hS, N37 hS, N98 hS, N99 hS, N100 hS, K113 hS, R113_2 hS, R113_3 hS, R113_5 hS, R113_8 hS, R113_9 hS, R113_10 hS, R113_11 hS, R113_16 hS, R113_17 hS, R113_18 hS, R113_19 hS, R113_20 hS, R113_21 hS, R113_22 hS, R113_26 hS, R113_27 hS, R113_30 hS, R113_32 hS, R113_34 hS, R113_35 hS, R113_36 hS, R113_37 hS, R113_40 hS, R113_41 hS, R113_42 hS, R113_43 hS, R113_44 hS, R113_45 hS, R113_47 hS, K114 hS, K115 hS, K116 hS, K117 hS, K118 hS, K119 hS, K120 hS, K121 hS, K122 hS, K123 hS, K124 hS, K125 hS, K126 hS, K127 hS, K128 hS, K129 hS, K130 hS, K131 hS, K132 hS, K133 hS, K134 hS, K135 hS, K136 hS, K137 hS, K138 hS, K139 hS, K140 hS, K141 hS, K142 hS, N114 hS, N115 hS, N116 hS, N117 hS, N118 hS, N119 hS, N120 hS, N121 hS, N122 hS, N123 hS, N124 hS, N125 hS, N126 hS, N127 hS, N128 hS, N129 hS, N130 hS, N131 hS, N132 hS, N133 hS, N134 hS, N135 hS, N136 hS, N137 hS, N138 hS, N139 hS, N140 hS, N141 hS, N142 hS, false_or, or_false, ne_eq, true_or, or_true, not_false_eq_true, Nat.reduceEqDiff, Nat.reduceLT, Nat.reduceLeDiff, Nat.reduceAdd, s_isShelf, m_isShelf, b2i_t c1, e10, f1, f2, if_false, if_true, s_within, s_within', b1, b2, b2i_t c2, hb, ex, shR hS hs, shK hS hs, show ¬ ((0 : Int32) ≤ -1) by decide, up2_ai, f1, f2]
    exact ⟨trivial, ⟨_, rfl⟩, key⟩
  · obtain ⟨k, hk, rfl, hk2⟩ := inb_of cb
    have hkb : inb (nI k) 50 = True := eq_true (by rw [inb_n (by omega)]; omega)
    obtain ⟨r1, _⟩ := bods k hk
    have ea : (10 : Int32) + nI k = nI (10 + k) := nI_add 10 k
    have h10 : (10 : Int32) ≤ nI (10 + k) := by rw [show (10 : Int32) = nI 10 from rfl, nLe (by decide) (by omega)]; omega
    have key := fin (nI (10 + k)) (143 + k) ⟨fun hh => by omega, fun hh => absurd hh (Int32.not_lt.2 h10)⟩ (Or.inr h10) (fun _ => ⟨k, hk, rfl, rfl⟩)
    have p0 : (0 : Int32) ≤ nI k := nI_pos' (by omega)
    simp only [k132_0, k132_1, k132_4, k132_7, k132_8, k132_9, k132_10, k132_13, k132_14, k132_15, k132_18, k132_21, k132_22, k132_23, k132_24, k132_27, k132_28, k132_29, k132_30, k132_31, k132_34, k132_35, k132_38, k132_39, k132_42, k132_43, k132_44, k132_47, k132_48, k62_0, k62_1, k62_2, k62_5, k62_6, k62_7, k62_10, k62_11, k62_12, k62_15, k237_0, k237_1, k237_4, k237_7, k237_8, k237_9, k237_10, k237_13, k237_14, k237_15, k237_18, k237_21, k237_22, k237_23, k237_24, k237_27, k237_28, k237_29, k237_32, k237_33, k237_36, k237_38, k237_39, k237_40, k237_41, k237_42, k237_45, k237_46, k237_47, k237_48, k237_49, mm_sI, mm_sJ, mm_sR, mm_cI, mm_cJ, mm_I, mm_J, mm_R, mm_K, mm_N, psh_s, psh_n, z_n, z_i, z_r, z_l, Nat.reduceAdd, Nat.reduceLeDiff, K2 hS, R2_0 hS, R2_1 hS, R2_2 hS, R2_6 hS, R2_8 hS, R2_11 hS, R2_12 hS, R2_13 hS, R2_15 hS, R2_16 hS, K3 hS, K11 hS, K19 hS, K27 hS, K32 hS, K37 hS, K98 hS, K99 hS, K100 hS, N37 hS, N98 hS, N99 hS, N100 hS, K113 hS, R113_2 hS, R113_3 hS, R113_5 hS, R113_8 hS, R113_9 hS, R113_10 hS, R113_11 hS, R113_16 hS, R113_17 hS, R113_18 hS, R113_19 hS, R113_20 hS, R113_21 hS, R113_22 hS, R113_26 hS, R113_27 hS, R113_30 hS, R113_32 hS, R113_34 hS, R113_35 hS, R113_36 hS, R113_37 hS, R113_40 hS, R113_41 hS, R113_42 hS, R113_43 hS, R113_44 hS, R113_45 hS, R113_47 hS, K114 hS, K115 hS, K116 hS, K117 hS, K118 hS, K119 hS, K120 hS, K121 hS, K122 hS, K123 hS, K124 hS, K125 hS, K126 hS, K127 hS, K128 hS, K129 hS, K130 hS, K131 hS, K132 hS, K133 hS, K134 hS, K135 hS, K136 hS, K137 hS, K138 hS, K139 hS, K140 hS, K141 hS, K142 hS, N114 hS, N115 hS, N116 hS, N117 hS, N118 hS, N119 hS, N120 hS, N121 hS, N122 hS, N123 hS, N124 hS, N125 hS, N126 hS, N127 hS, N128 hS, N129 hS, N130 hS, N131 hS, N132 hS, N133 hS, N134 hS, N135 hS, N136 hS, N137 hS, N138 hS, N139 hS, N140 hS, N141 hS, N142 hS, false_or, or_false, ne_eq, true_or, or_true, not_false_eq_true, Nat.reduceEqDiff, Nat.reduceLT, Nat.reduceLeDiff, Nat.reduceAdd, s_isShelf, m_isShelf, b2i_t c1, e10, f1, f2, if_false, if_true, s_within, s_within', b1, b2, b2i_t c2, hb, ex, shR hS hs, shK hS hs, ng1 hk2, hkb, ix_n hk2, r1, p0, ea, up2_ai, f1, f2]
    exact ⟨trivial, ⟨_, rfl⟩, key⟩
end KP
