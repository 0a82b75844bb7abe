/-! ===== mended, undone, shelves, the tape ===== -/
section OE
variable {d : Nat} {M : Mem} {h h0 h1 h2 : Hp} {j j1 j2 : Jp} {r r1 r2 : Rp} {E : EE} {l G F G' F' n : Nat} {W : LW} {b b' : BB} {Q : Option PV → Mem → Prop} {S : OS} {im : IMT} {cg : CGT} {sh : SHT} {tp : TPT}
theorem a_mend_no {n what v : Int32} (c1 : isN (oG S) (oF S) n what = 0) : Ans 75 [some (vr 2), some (vi n), some (vi what), some (vi v), none] S (-2000000000) S := by
  intro h j r E Q O hQ
  obtain ⟨⟨l, C⟩, _⟩ := id O
  have hS := C.S
  simp only [k75_0, k75_1, k75_4, k75_5, k75_6, k75_9, k75_12, k75_13, k75_14, k75_15, k75_18, k75_21, k75_23, k75_24, k75_25, k75_28, k75_29, k75_30, k75_33, k75_35, k75_37, k75_38, k75_41, k75_42, k75_43, k75_44, k75_46, k75_47, k75_50, k75_51, k75_54, k75_55, k75_56, k75_57, k75_60, k75_62, mm_sI, mm_sJ, mm_sR, mm_cI, mm_cJ, mm_I, mm_J, mm_R, mm_K, mm_N, psh_s, psh_n, z_n, z_i, z_r, z_l, Nat.reduceAdd, Nat.reduceLeDiff, K2 hS, R2_0 hS, R2_1 hS, R2_2 hS, R2_6 hS, R2_8 hS, R2_11 hS, R2_12 hS, R2_13 hS, R2_15 hS, R2_16 hS, K3 hS, K11 hS, K19 hS, K27 hS, K32 hS, K37 hS, K98 hS, K99 hS, K100 hS, N37 hS, N98 hS, N99 hS, N100 hS, false_or, or_false, ne_eq, true_or, or_true, not_false_eq_true, Nat.reduceEqDiff, Nat.reduceLT, Nat.reduceLeDiff, Nat.reduceAdd, c_hasNumber C, c1, if_true]; exact hQ h j r O Out.rf
theorem a_mend_bad {n' w' : Nat} {v : Int32} (w7 : w' ≤ 7) (nl : n' < lim (oG S) (oF S) w') (c2 : ¬ okc (oG S) w' v) : Ans 75 [some (vr 2), some (vi (nI n')), some (vi (nI w')), some (vi v), none] S (-2000000000) S := by
  intro h j r E Q O hQ
  obtain ⟨⟨l, C⟩, _⟩ := id O
  have hS := C.S
  have c1 : ¬ isN (oG S) (oF S) (nI n') (nI w') = 0 := by rw [isN_t C.G8 C.F8 w7 nl]; decide
  simp only [k75_0, k75_1, k75_4, k75_5, k75_6, k75_9, k75_12, k75_13, k75_14, k75_15, k75_18, k75_21, k75_23, k75_24, k75_25, k75_28, k75_29, k75_30, k75_33, k75_35, k75_37, k75_38, k75_41, k75_42, k75_43, k75_44, k75_46, k75_47, k75_50, k75_51, k75_54, k75_55, k75_56, k75_57, k75_60, k75_62, mm_sI, mm_sJ, mm_sR, mm_cI, mm_cJ, mm_I, mm_J, mm_R, mm_K, mm_N, psh_s, psh_n, z_n, z_i, z_r, z_l, Nat.reduceAdd, Nat.reduceLeDiff, K2 hS, R2_0 hS, R2_1 hS, R2_2 hS, R2_6 hS, R2_8 hS, R2_11 hS, R2_12 hS, R2_13 hS, R2_15 hS, R2_16 hS, K3 hS, K11 hS, K19 hS, K27 hS, K32 hS, K37 hS, K98 hS, K99 hS, K100 hS, N37 hS, N98 hS, N99 hS, N100 hS, false_or, or_false, ne_eq, true_or, or_true, not_false_eq_true, Nat.reduceEqDiff, Nat.reduceLT, Nat.reduceLeDiff, Nat.reduceAdd, c_hasNumber C, c1, if_false]
  refine WP.deep (d := 57 + 2) ?_ (by omega)
  refine c_mayBe C w7 (fun hh => absurd hh c2) (fun _ => ?_)
  simp only [k75_0, k75_1, k75_4, k75_5, k75_6, k75_9, k75_12, k75_13, k75_14, k75_15, k75_18, k75_21, k75_23, k75_24, k75_25, k75_28, k75_29, k75_30, k75_33, k75_35, k75_37, k75_38, k75_41, k75_42, k75_43, k75_44, k75_46, k75_47, k75_50, k75_51, k75_54, k75_55, k75_56, k75_57, k75_60, k75_62, mm_sI, mm_sJ, mm_sR, mm_cI, mm_cJ, mm_I, mm_J, mm_R, mm_K, mm_N, psh_s, psh_n, z_n, z_i, z_r, z_l, Nat.reduceAdd, Nat.reduceLeDiff, K2 hS, R2_0 hS, R2_1 hS, R2_2 hS, R2_6 hS, R2_8 hS, R2_11 hS, R2_12 hS, R2_13 hS, R2_15 hS, R2_16 hS, K3 hS, K11 hS, K19 hS, K27 hS, K32 hS, K37 hS, K98 hS, K99 hS, K100 hS, N37 hS, N98 hS, N99 hS, N100 hS, false_or, or_false, ne_eq, true_or, or_true, not_false_eq_true, Nat.reduceEqDiff, Nat.reduceLT, Nat.reduceLeDiff, Nat.reduceAdd, if_true]; exact hQ h j r O Out.rf
theorem a_mend_same {n' w' : Nat} {v : Int32} (w7 : w' ≤ 7) (nl : n' < lim (oG S) (oF S) w') (c2 : okc (oG S) w' v) (c3 : gB (oB S) n' w' = v) : Ans 75 [some (vr 2), some (vi (nI n')), some (vi (nI w')), some (vi v), none] S v S := by
  intro h j r E Q O hQ
  obtain ⟨⟨l, C⟩, _⟩ := id O
  have hS := C.S
  have c1 : ¬ isN (oG S) (oF S) (nI n') (nI w') = 0 := by rw [isN_t C.G8 C.F8 w7 nl]; decide
  simp only [k75_0, k75_1, k75_4, k75_5, k75_6, k75_9, k75_12, k75_13, k75_14, k75_15, k75_18, k75_21, k75_23, k75_24, k75_25, k75_28, k75_29, k75_30, k75_33, k75_35, k75_37, k75_38, k75_41, k75_42, k75_43, k75_44, k75_46, k75_47, k75_50, k75_51, k75_54, k75_55, k75_56, k75_57, k75_60, k75_62, mm_sI, mm_sJ, mm_sR, mm_cI, mm_cJ, mm_I, mm_J, mm_R, mm_K, mm_N, psh_s, psh_n, z_n, z_i, z_r, z_l, Nat.reduceAdd, Nat.reduceLeDiff, K2 hS, R2_0 hS, R2_1 hS, R2_2 hS, R2_6 hS, R2_8 hS, R2_11 hS, R2_12 hS, R2_13 hS, R2_15 hS, R2_16 hS, K3 hS, K11 hS, K19 hS, K27 hS, K32 hS, K37 hS, K98 hS, K99 hS, K100 hS, N37 hS, N98 hS, N99 hS, N100 hS, false_or, or_false, ne_eq, true_or, or_true, not_false_eq_true, Nat.reduceEqDiff, Nat.reduceLT, Nat.reduceLeDiff, Nat.reduceAdd, c_hasNumber C, c1, if_false]
  refine WP.deep (d := 57 + 2) ?_ (by omega)
  refine c_mayBe C w7 (fun _ => ?_) (fun hh => absurd c2 hh)
  simp only [k75_0, k75_1, k75_4, k75_5, k75_6, k75_9, k75_12, k75_13, k75_14, k75_15, k75_18, k75_21, k75_23, k75_24, k75_25, k75_28, k75_29, k75_30, k75_33, k75_35, k75_37, k75_38, k75_41, k75_42, k75_43, k75_44, k75_46, k75_47, k75_50, k75_51, k75_54, k75_55, k75_56, k75_57, k75_60, k75_62, mm_sI, mm_sJ, mm_sR, mm_cI, mm_cJ, mm_I, mm_J, mm_R, mm_K, mm_N, psh_s, psh_n, z_n, z_i, z_r, z_l, Nat.reduceAdd, Nat.reduceLeDiff, K2 hS, R2_0 hS, R2_1 hS, R2_2 hS, R2_6 hS, R2_8 hS, R2_11 hS, R2_12 hS, R2_13 hS, R2_15 hS, R2_16 hS, K3 hS, K11 hS, K19 hS, K27 hS, K32 hS, K37 hS, K98 hS, K99 hS, K100 hS, N37 hS, N98 hS, N99 hS, N100 hS, false_or, or_false, ne_eq, true_or, or_true, not_false_eq_true, Nat.reduceEqDiff, Nat.reduceLT, Nat.reduceLeDiff, Nat.reduceAdd, e10, if_false, c_numberOf C w7 nl, c3, if_true]; exact hQ h j r O Out.rf
/-- a change noted behind the others -/
def noteC (cg : CGT) (n w : Nat) (o : Int32) : CGT := (mF cg.1 + 1, mF cg.1 + 1, fun i => if i = mF cg.1 then (n, w, o) else cg.2.2 (i + dF cg.1))
theorem gB_ok {n' w' : Nat} (w : WF G F b) (w7 : w' ≤ 7) (nl : n' < lim G F w') : okc G w' (gB b n' w') := by
  have hc : w' < 6 → n' < cutW G F w' := by
    intro w6; unfold lim at nl; unfold cutW
    by_cases w2 : w' < 2
    · rw [if_pos w2] at nl ⊢; exact nl
    · rw [if_neg w2, if_pos w6] at nl ⊢; exact nl
  unfold gB
  by_cases w6 : w' < 6
  · rw [if_pos w6]; exact w w' n' (by omega) (hc w6)
  · rw [if_neg w6]
    have q := w 6 (w' - 6) (by decide) (show w' - 6 < 2 by omega)
    have e : w' = 6 ∨ w' = 7 := by omega
    rcases e with rfl | rfl
    · exact q
    · exact q
theorem a_mend {n' w' : Nat} {v : Int32} (w7 : w' ≤ 7) (nl : n' < lim (oG S) (oF S) w') (c2 : okc (oG S) w' v) (c3 : gB (oB S) n' w' ≠ v) :
    Ans 75 [some (vr 2), some (vi (nI n')), some (vi (nI w')), some (vi v), none] S (gB (oB S) n' w') (mkS (oG S) (oF S) (oW S) (sB (oB S) n' w' v) (oL S) (oI S) (noteC (oC S) n' w' (gB (oB S) n' w')) (oS S) (oT S)) := by
  intro h j r E Q O hQ
  obtain ⟨⟨l, C⟩, o1, o2, o3, o4, o5⟩ := id O
  have hS := C.S
  have c1 : ¬ isN (oG S) (oF S) (nI n') (nI w') = 0 := by rw [isN_t C.G8 C.F8 w7 nl]; decide
  have og := gB_ok C.w w7 nl
  obtain ⟨mK, K40, e1, e3, rows⟩ := id o3
  simp only [k75_0, k75_1, k75_4, k75_5, k75_6, k75_9, k75_12, k75_13, k75_14, k75_15, k75_18, k75_21, k75_23, k75_24, k75_25, k75_28, k75_29, k75_30, k75_33, k75_35, k75_37, k75_38, k75_41, k75_42, k75_43, k75_44, k75_46, k75_47, k75_50, k75_51, k75_54, k75_55, k75_56, k75_57, k75_60, k75_62, mm_sI, mm_sJ, mm_sR, mm_cI, mm_cJ, mm_I, mm_J, mm_R, mm_K, mm_N, psh_s, psh_n, z_n, z_i, z_r, z_l, Nat.reduceAdd, Nat.reduceLeDiff, K2 hS, R2_0 hS, R2_1 hS, R2_2 hS, R2_6 hS, R2_8 hS, R2_11 hS, R2_12 hS, R2_13 hS, R2_15 hS, R2_16 hS, K3 hS, K11 hS, K19 hS, K27 hS, K32 hS, K37 hS, K98 hS, K99 hS, K100 hS, N37 hS, N98 hS, N99 hS, N100 hS, false_or, or_false, ne_eq, true_or, or_true, not_false_eq_true, Nat.reduceEqDiff, Nat.reduceLT, Nat.reduceLeDiff, Nat.reduceAdd, c_hasNumber C, c1, if_false]
  refine WP.deep (d := 57 + 2) ?_ (by omega)
  refine c_mayBe C w7 (fun _ => ?_) (fun hh => absurd c2 hh)
  simp only [k75_0, k75_1, k75_4, k75_5, k75_6, k75_9, k75_12, k75_13, k75_14, k75_15, k75_18, k75_21, k75_23, k75_24, k75_25, k75_28, k75_29, k75_30, k75_33, k75_35, k75_37, k75_38, k75_41, k75_42, k75_43, k75_44, k75_46, k75_47, k75_50, k75_51, k75_54, k75_55, k75_56, k75_57, k75_60, k75_62, mm_sI, mm_sJ, mm_sR, mm_cI, mm_cJ, mm_I, mm_J, mm_R, mm_K, mm_N, psh_s, psh_n, z_n, z_i, z_r, z_l, Nat.reduceAdd, Nat.reduceLeDiff, K2 hS, R2_0 hS, R2_1 hS, R2_2 hS, R2_6 hS, R2_8 hS, R2_11 hS, R2_12 hS, R2_13 hS, R2_15 hS, R2_16 hS, K3 hS, K11 hS, K19 hS, K27 hS, K32 hS, K37 hS, K98 hS, K99 hS, K100 hS, N37 hS, N98 hS, N99 hS, N100 hS, false_or, or_false, ne_eq, true_or, or_true, not_false_eq_true, Nat.reduceEqDiff, Nat.reduceLT, Nat.reduceLeDiff, Nat.reduceAdd, e10, if_false, c_numberOf C w7 nl, c3]
  refine WP.deep (d := 57 + 1) ?_ (by omega)
  refine c_noteChange hS (show (oC S).1 ≤ 40 by omega) e1 ?_
  intro h1 u1 f1 g1 g2 rw1 nw1
  have l3 : ∀ a, 3 ≤ a → a ≤ 10 → h1 a = h a := fun a p q => u1 a (by omega) (by omega)
  have Cn : CC (oG S) (oF S) l (oW S) (oB S) h1 r E := C.st l3 ⟨u1 _ (by rcases C.il with h | h <;> omega) (by rcases C.il with h | h <;> omega), u1 _ (by rcases C.il with h | h <;> omega) (by rcases C.il with h | h <;> omega), by rw [u1 l (by rcases C.il with h | h <;> omega) (by rcases C.il with h | h <;> omega)]⟩
  simp only [k75_0, k75_1, k75_4, k75_5, k75_6, k75_9, k75_12, k75_13, k75_14, k75_15, k75_18, k75_21, k75_23, k75_24, k75_25, k75_28, k75_29, k75_30, k75_33, k75_35, k75_37, k75_38, k75_41, k75_42, k75_43, k75_44, k75_46, k75_47, k75_50, k75_51, k75_54, k75_55, k75_56, k75_57, k75_60, k75_62, mm_sI, mm_sJ, mm_sR, mm_cI, mm_cJ, mm_I, mm_J, mm_R, mm_K, mm_N, psh_s, psh_n, z_n, z_i, z_r, z_l, Nat.reduceAdd, Nat.reduceLeDiff, K2 hS, R2_0 hS, R2_1 hS, R2_2 hS, R2_6 hS, R2_8 hS, R2_11 hS, R2_12 hS, R2_13 hS, R2_15 hS, R2_16 hS, K3 hS, K11 hS, K19 hS, K27 hS, K32 hS, K37 hS, K98 hS, K99 hS, K100 hS, N37 hS, N98 hS, N99 hS, N100 hS, false_or, or_false, ne_eq, true_or, or_true, not_false_eq_true, Nat.reduceEqDiff, Nat.reduceLT, Nat.reduceLeDiff, Nat.reduceAdd]
  refine WP.deep (d := 56 + 3) ?_ (by omega)
  refine c_become Cn w7 nl c2 ?_
  intro h2 u2 C2
  simp only [k75_0, k75_1, k75_4, k75_5, k75_6, k75_9, k75_12, k75_13, k75_14, k75_15, k75_18, k75_21, k75_23, k75_24, k75_25, k75_28, k75_29, k75_30, k75_33, k75_35, k75_37, k75_38, k75_41, k75_42, k75_43, k75_44, k75_46, k75_47, k75_50, k75_51, k75_54, k75_55, k75_56, k75_57, k75_60, k75_62, mm_sI, mm_sJ, mm_sR, mm_cI, mm_cJ, mm_I, mm_J, mm_R, mm_K, mm_N, psh_s, psh_n, z_n, z_i, z_r, z_l, Nat.reduceAdd, Nat.reduceLeDiff, K2 hS, R2_0 hS, R2_1 hS, R2_2 hS, R2_6 hS, R2_8 hS, R2_11 hS, R2_12 hS, R2_13 hS, R2_15 hS, R2_16 hS, K3 hS, K11 hS, K19 hS, K27 hS, K32 hS, K37 hS, K98 hS, K99 hS, K100 hS, N37 hS, N98 hS, N99 hS, N100 hS, false_or, or_false, ne_eq, true_or, or_true, not_false_eq_true, Nat.reduceEqDiff, Nat.reduceLT, Nat.reduceLeDiff, Nat.reduceAdd]
  have oc : ∀ a, a ≠ 2 → ¬ (3 ≤ a ∧ a ≤ 9) → ¬ (39 ≤ a ∧ a ≤ 78) → h2 a = h a := fun a p q s => by rw [u2 a q, u1 a p s]
  have k2 : h2 2 = h1 2 := u2 2 (by omega)
  have hm39 : mF (oC S).1 ≤ 39 := by unfold mF; split <;> omega
  refine hQ h2 j r ⟨⟨l, C2⟩, fun i hi => ?_, o2.fr (Nat.le_refl _) (Nat.le_refl _) (by rw [k2]; exact f1 3 (by decide) (by decide)) (fun a p q => oc a (by omega) (by omega) (by omega)), ⟨Nat.le_refl _, ?_, ?_, ?_, ?_⟩, o4.fr (fun a p q => oc a (by omega) (by omega) (by omega)), o5.fr (by rw [k2]; exact f1 7 (by decide) (by decide)) (oc 37 (by decide) (by omega) (by omega))⟩ (Out.of (fun a p => oc a (by omega) (by omega) (by omega)))
  · rw [oc 10 (by decide) (by omega) (by omega)]; exact o1 i hi
  · show mF (oC S).1 + 1 ≤ 40; omega
  · rw [k2]; exact g1
  · rw [k2]; exact g2
  · intro i hi
    have hi : i < mF (oC S).1 + 1 := hi
    rw [u2 (39 + i) (by omega)]
    by_cases e : i = mF (oC S).1
    · subst e
      have ee : (noteC (oC S) n' w' (gB (oB S) n' w')).2.2 (mF (oC S).1) = (n', w', gB (oB S) n' w') := if_pos rfl
      rw [ee]
      exact ⟨nw1.1, nw1.2.1, nw1.2.2.1, w7, nl, og⟩
    · have hi2 : i < mF (oC S).1 := by omega
      have ee : (noteC (oC S) n' w' (gB (oB S) n' w')).2.2 i = (oC S).2.2 (i + dF (oC S).1) := if_neg e
      rw [ee]
      have hr : i + dF (oC S).1 < (oC S).2.1 := by unfold mF at hi2; unfold dF; split at hi2 <;> rename_i q <;> simp only [q, if_true, if_false] <;> omega
      have q := rw1 i hi2
      rw [q 0 (by decide), q 1 (by decide), q 2 (by decide), Nat.add_assoc]
      exact rows (i + dF (oC S).1) hr
theorem a_undo0 (hc : (oC S).1 = 0) : Ans 126 [some (vr 2), none] S (-5) S := by
  intro h j r E Q O hQ
  obtain ⟨⟨l, C⟩, o1, o2, o3, o4, o5⟩ := id O
  have hS := C.S
  have e1 := o3.2.2.1
  rw [hc] at e1
  simp only [k126_0, k126_1, k126_4, k126_7, k126_9, k126_10, k126_11, k126_11i, k126_12, k126_15, k126_16, k126_17, k126_20, k126_21, k126_24, k126_25, k126_28, k126_29, k126_30, k126_31, k126_34, k126_35, k126_36, k126_37, k126_38, k126_39, k126_40, k126_41, k126_42, k126_43, k126_46, k126_47, k126_50, mm_sI, mm_sJ, mm_sR, mm_cI, mm_cJ, mm_I, mm_J, mm_R, mm_K, mm_N, psh_s, psh_n, z_n, z_i, z_r, z_l, Nat.reduceAdd, Nat.reduceLeDiff, K2 hS, R2_0 hS, R2_1 hS, R2_2 hS, R2_6 hS, R2_8 hS, R2_11 hS, R2_12 hS, R2_13 hS, R2_15 hS, R2_16 hS, K3 hS, K11 hS, K19 hS, K27 hS, K32 hS, K37 hS, K98 hS, K99 hS, K100 hS, N37 hS, N98 hS, N99 hS, N100 hS, false_or, or_false, ne_eq, true_or, or_true, not_false_eq_true, Nat.reduceEqDiff, Nat.reduceLT, Nat.reduceLeDiff, Nat.reduceAdd, e1, nn0, Int32.lt_irrefl, if_false]; exact hQ h j r O Out.rf
theorem a_undo {m K : Nat} {R : Nat → Nat × Nat × Int32} (hc : oC S = (m + 1, K, R)) : Ans 126 [some (vr 2), none] S (nI m) (mkS (oG S) (oF S) (oW S) (sB (oB S) (R m).1 (R m).2.1 (R m).2.2) (oL S) (oI S) (m, K, R) (oS S) (oT S)) := by
  intro h j r E Q O hQ
  obtain ⟨⟨l, C⟩, o1, o2, o3, o4, o5⟩ := id O
  have hS := C.S
  rw [hc] at o3
  obtain ⟨mK, K40, e1, e3, rows⟩ := id o3
  have mK : m + 1 ≤ K := mK
  have K40 : K ≤ 40 := K40
  have e1 : h 2 10 = nI (m + 1) := e1
  have p1 : (0 : Int32) < nI (m + 1) := by rw [← nn0, nLt (by decide) (by omega)]; omega
  obtain ⟨r1, r2, r3⟩ := chR hS (show m < 40 by omega)
  have hb : inb (nI m) 40 = True := eq_true (by rw [inb_n (by omega)]; omega)
  have hx : ix (nI m) = m := ix_n (by omega)
  obtain ⟨en, ew, eo, w7, nl, oo⟩ := rows m (by show m < K; omega)
  have en : h (39 + m) 0 = nI (R m).1 := en
  have ew : h (39 + m) 1 = nI (R m).2.1 := ew
  have eo : h (39 + m) 2 = (R m).2.2 := eo
  have f0 : up2 h 2 10 (nI m) (39 + m) = h (39 + m) := up2_a (by omega)
  have Cu : CC (oG S) (oF S) l (oW S) (oB S) (up2 h 2 10 (nI m)) r E := C.st (fun a p q => up2_a (by omega)) ⟨up2_a (by rcases C.il with h | h <;> omega), up2_a (by rcases C.il with h | h <;> omega), by rw [up2_a (by rcases C.il with h | h <;> omega)]⟩
  simp only [k126_0, k126_1, k126_4, k126_7, k126_9, k126_10, k126_11, k126_11i, k126_12, k126_15, k126_16, k126_17, k126_20, k126_21, k126_24, k126_25, k126_28, k126_29, k126_30, k126_31, k126_34, k126_35, k126_36, k126_37, k126_38, k126_39, k126_40, k126_41, k126_42, k126_43, k126_46, k126_47, k126_50, mm_sI, mm_sJ, mm_sR, mm_cI, mm_cJ, mm_I, mm_J, mm_R, mm_K, mm_N, psh_s, psh_n, z_n, z_i, z_r, z_l, Nat.reduceAdd, Nat.reduceLeDiff, K2 hS, R2_0 hS, R2_1 hS, R2_2 hS, R2_6 hS, R2_8 hS, R2_11 hS, R2_12 hS, R2_13 hS, R2_15 hS, R2_16 hS, K3 hS, K11 hS, K19 hS, K27 hS, K32 hS, K37 hS, K98 hS, K99 hS, K100 hS, N37 hS, N98 hS, N99 hS, N100 hS, inb_c0, ix_c0, inb_c1, ix_c1, inb_c2, ix_c2, inb_c3, ix_c3, inb_c4, ix_c4, inb_c5, ix_c5, inb_c6, ix_c6, inb_c7, ix_c7, inb_c8, ix_c8, inb_c32, ix_c32, false_or, or_false, ne_eq, true_or, or_true, not_false_eq_true, Nat.reduceEqDiff, Nat.reduceLT, Nat.reduceLeDiff, Nat.reduceAdd, e1, p1, if_true, nSub (show m + 1 < 2 ^ 31 by omega), up2_s, up2_ai, up2_i, hb, hx, K38 hS, N38 hS, r1, r2, r3, cg1, f0, en, ew, eo]
  refine WP.deep (d := 56 + 3) ?_ (by omega)
  refine c_become Cu w7 nl oo ?_
  intro h1 u1 C1
  have g2 : h1 2 = up2 h 2 10 (nI m) 2 := u1 2 (by omega)
  have oc : ∀ a, a ≠ 2 → ¬ (3 ≤ a ∧ a ≤ 9) → h1 a = h a := fun a p q => by rw [u1 a q, up2_a p]
  simp only [k126_0, k126_1, k126_4, k126_7, k126_9, k126_10, k126_11, k126_11i, k126_12, k126_15, k126_16, k126_17, k126_20, k126_21, k126_24, k126_25, k126_28, k126_29, k126_30, k126_31, k126_34, k126_35, k126_36, k126_37, k126_38, k126_39, k126_40, k126_41, k126_42, k126_43, k126_46, k126_47, k126_50, mm_sI, mm_sJ, mm_sR, mm_cI, mm_cJ, mm_I, mm_J, mm_R, mm_K, mm_N, psh_s, psh_n, z_n, z_i, z_r, z_l, Nat.reduceAdd, Nat.reduceLeDiff, K2 hS, R2_0 hS, R2_1 hS, R2_2 hS, R2_6 hS, R2_8 hS, R2_11 hS, R2_12 hS, R2_13 hS, R2_15 hS, R2_16 hS, K3 hS, K11 hS, K19 hS, K27 hS, K32 hS, K37 hS, K98 hS, K99 hS, K100 hS, N37 hS, N98 hS, N99 hS, N100 hS, false_or, or_false, ne_eq, true_or, or_true, not_false_eq_true, Nat.reduceEqDiff, Nat.reduceLT, Nat.reduceLeDiff, Nat.reduceAdd, g2, up2_s, up2_ai, up2_i]
  have f2 : ∀ i, i ≠ 10 → h1 2 i = h 2 i := fun i hi => by rw [g2, up2_i hi]
  refine hQ h1 j r ⟨⟨l, C1⟩, fun i hi => ?_, o2.fr (Nat.le_refl _) (Nat.le_refl _) (f2 3 (by decide)) (fun a p q => oc a (by omega) (by omega)), ⟨?_, K40, ?_, ?_, ?_⟩, o4.fr (fun a p q => oc a (by omega) (by omega)), o5.fr (f2 7 (by decide)) (oc 37 (by decide) (by omega))⟩ (Out.of (fun a p => oc a (by omega) (by omega)))
  · rw [oc 10 (by decide) (by omega)]; exact o1 i hi
  · show m ≤ K; omega
  · rw [g2, up2_s]
  · rw [f2 9 (by decide)]; exact e3
  · intro i hi
    rw [oc (39 + i) (by omega) (by omega)]; exact rows i hi
/-- the frame of what a shelf becomes -/
theorem ObS.shv (O : ObS S h j r E) (o : ∀ a, ¬ (101 ≤ a ∧ a ≤ 112) → h1 a = h a) (hS1 : Sh r1 E) (r24 : r1 2 4 = r 2 4) {sh' : SHT} (hv : ShO sh' h1 j1 r1) : ObS (mkS (oG S) (oF S) (oW S) (oB S) (oL S) (oI S) (oC S) sh' (oT S)) h1 j1 r1 E := by
  obtain ⟨⟨l, C⟩, o1, o2, o3, o4, o5⟩ := O
  have C1 : CC (oG S) (oF S) l (oW S) (oB S) h1 r1 E := by
    have := C.st (h1 := h1) (fun a p q => o a (by omega)) ⟨o _ (by rcases C.il with h | h <;> omega), o _ (by rcases C.il with h | h <;> omega), by rw [o l (by rcases C.il with h | h <;> omega)]⟩
    exact ⟨hS1, r24.trans this.2.1, this.2.2⟩
  have e2 := o 2 (by decide)
  refine ⟨⟨l, C1⟩, fun i hi => ?_, o2.fr (Nat.le_refl _) (Nat.le_refl _) (by rw [e2]) (fun a p q => o a (by omega)), o3.fr (Nat.le_refl _) (Nat.le_refl _) (by rw [e2]) (by rw [e2]) (fun a p q => o a (by omega)), hv, o5.fr (by rw [e2]) (o 37 (by decide))⟩
  rw [o 10 (by decide)]; exact o1 i hi
theorem a_row_no {sh so n : Int32} (c1 : inb sh 6) (c2 : ¬ inb so 5) : Ans 133 [some (vr 2), some (vi sh), some (vi so), some (vi n)] S (-1) S := by
  intro h j r E Q O hQ
  obtain ⟨⟨l, C⟩, _⟩ := id O
  have hS := C.S
  have h5 : b2i (0 ≤ so ∧ so ≤ 4) = b2i (inb so 5) := b2i_c in_4
  simp only [k133_0, k133_1, k133_4, k133_7, k133_8, k133_9, k133_10, k133_13, k133_16, k133_17, k133_19, k133_22, k133_23, k133_24, k133_25, k133_28, k133_30, k133_31, k133_32, k133_35, k133_36, k133_37, k133_38, k133_39, k133_42, k133_43, mm_sI, mm_sJ, mm_sR, mm_cI, mm_cJ, mm_I, mm_J, mm_R, mm_K, mm_N, psh_s, psh_n, z_n, z_i, z_r, z_l, Nat.reduceAdd, Nat.reduceLeDiff, K2 hS, R2_0 hS, R2_1 hS, R2_2 hS, R2_6 hS, R2_8 hS, R2_11 hS, R2_12 hS, R2_13 hS, R2_15 hS, R2_16 hS, K3 hS, K11 hS, K19 hS, K27 hS, K32 hS, K37 hS, K98 hS, K99 hS, K100 hS, N37 hS, N98 hS, N99 hS, N100 hS, false_or, or_false, ne_eq, true_or, or_true, not_false_eq_true, Nat.reduceEqDiff, Nat.reduceLT, Nat.reduceLeDiff, Nat.reduceAdd, s_isShelf, b2i_t c1, e10, if_false, s_within, h5, b2i_f c2, if_true]; exact hQ h j r O Out.rf
theorem a_keep_no {sh bo : Int32} (c1 : ¬ inb sh 6) : Ans 132 [some (vr 2), some (vi sh), some (vi bo)] S (-1) S := by
  intro h j r E Q O hQ
  obtain ⟨⟨l, C⟩, _⟩ := id O
  have hS := C.S
  simp only [k132_0, k132_1, k132_4, k132_7, k132_8, k132_9, k132_10, k132_13, k132_14, k132_15, k132_18, k132_21, k132_22, k132_23, k132_24, k132_27, k132_28, k132_29, k132_30, k132_31, k132_34, k132_35, k132_38, k132_39, k132_42, k132_43, k132_44, k132_47, k132_48, mm_sI, mm_sJ, mm_sR, mm_cI, mm_cJ, mm_I, mm_J, mm_R, mm_K, mm_N, psh_s, psh_n, z_n, z_i, z_r, z_l, Nat.reduceAdd, Nat.reduceLeDiff, K2 hS, R2_0 hS, R2_1 hS, R2_2 hS, R2_6 hS, R2_8 hS, R2_11 hS, R2_12 hS, R2_13 hS, R2_15 hS, R2_16 hS, K3 hS, K11 hS, K19 hS, K27 hS, K32 hS, K37 hS, K98 hS, K99 hS, K100 hS, N37 hS, N98 hS, N99 hS, N100 hS, false_or, or_false, ne_eq, true_or, or_true, not_false_eq_true, Nat.reduceEqDiff, Nat.reduceLT, Nat.reduceLeDiff, Nat.reduceAdd, s_isShelf, b2i_f c1, if_true]; exact hQ h j r O Out.rf
theorem a_row {s m : Nat} {so : Int32} (hs : s < 6) (c2 : inb so 5) (hm60 : m ≤ 60) : Ans 133 [some (vr 2), some (vi (nI s)), some (vi so), some (vi (nI m))] S 1 (mkS (oG S) (oF S) (oW S) (oB S) (oL S) (oI S) (oC S) (putF (oS S) s (so, m, fun _ => 0)) (oT S)) := by
  intro h j r E Q O hQ
  obtain ⟨⟨l, C⟩, o1, o2, o3, sc, o5⟩ := id O
  have hS := C.S
  have h5 : b2i (0 ≤ so ∧ so ≤ 4) = b2i (inb so 5) := b2i_c in_4
  have c1 : inb (nI s) 6 := by rw [inb_n (by omega)]; exact hs
  have c3 : nI m ≤ 60 := by rw [show (60 : Int32) = nI 60 from rfl, nLe (by omega) (by decide)]; exact hm60
  have c4' : (0 : Int32) ≤ nI m := nI_pos' (by omega)
  have ex : ix (nI s) = s := ix_n (by omega)
  have hb : inb (nI s) 6 = True := eq_true c1
  simp only [k133_0, k133_1, k133_4, k133_7, k133_8, k133_9, k133_10, k133_13, k133_16, k133_17, k133_19, k133_22, k133_23, k133_24, k133_25, k133_28, k133_30, k133_31, k133_32, k133_35, k133_36, k133_37, k133_38, k133_39, k133_42, k133_43, k63_0, k63_1, k63_2, k63_5, k63_6, k63_7, k63_10, k63_11, k63_12, k63_15, k63_16, k63_19, k63_20, k63_23, mm_sI, mm_sJ, mm_sR, mm_cI, mm_cJ, mm_I, mm_J, mm_R, mm_K, mm_N, psh_s, psh_n, z_n, z_i, z_r, z_l, Nat.reduceAdd, Nat.reduceLeDiff, K2 hS, R2_0 hS, R2_1 hS, R2_2 hS, R2_6 hS, R2_8 hS, R2_11 hS, R2_12 hS, R2_13 hS, R2_15 hS, R2_16 hS, K3 hS, K11 hS, K19 hS, K27 hS, K32 hS, K37 hS, K98 hS, K99 hS, K100 hS, N37 hS, N98 hS, N99 hS, N100 hS, false_or, or_false, ne_eq, true_or, or_true, not_false_eq_true, Nat.reduceEqDiff, Nat.reduceLT, Nat.reduceLeDiff, Nat.reduceAdd, s_isShelf, b2i_t c1, e10, if_false, s_within, h5, b2i_t c2, c3, c4', if_true, hb, ex, shR hS hs, shK hS hs, up2_ai, shE hS hs, s_fillJ (shKe hS hs) (shNe hS hs) (show 102 + 2 * s ≠ 1 by omega) (show 60 < 2 ^ 31 by decide)]
  have hS1 := sh_rr hS (v := 0) hs
  have re : up2 r (101 + 2 * s) 1 0 (101 + 2 * s) 0 = 102 + 2 * s := by rw [up2_i (by decide)]; exact shE hS hs
  simp only [k133_0, k133_1, k133_4, k133_7, k133_8, k133_9, k133_10, k133_13, k133_16, k133_17, k133_19, k133_22, k133_23, k133_24, k133_25, k133_28, k133_30, k133_31, k133_32, k133_35, k133_36, k133_37, k133_38, k133_39, k133_42, k133_43, k63_0, k63_1, k63_2, k63_5, k63_6, k63_7, k63_10, k63_11, k63_12, k63_15, k63_16, k63_19, k63_20, k63_23, mm_sI, mm_sJ, mm_sR, mm_cI, mm_cJ, mm_I, mm_J, mm_R, mm_K, mm_N, psh_s, psh_n, z_n, z_i, z_r, z_l, Nat.reduceAdd, Nat.reduceLeDiff, K2 hS, R2_0 hS, R2_1 hS, R2_2 hS, R2_6 hS, R2_8 hS, R2_11 hS, R2_12 hS, R2_13 hS, R2_15 hS, R2_16 hS, K3 hS, K11 hS, K19 hS, K27 hS, K32 hS, K37 hS, K98 hS, K99 hS, K100 hS, N37 hS, N98 hS, N99 hS, N100 hS, false_or, or_false, ne_eq, true_or, or_true, not_false_eq_true, Nat.reduceEqDiff, Nat.reduceLT, Nat.reduceLeDiff, Nat.reduceAdd, re, s_fillJ (shKe hS hs) (shNe hS hs) (show 102 + 2 * s ≠ 1 by omega) (show 60 < 2 ^ 31 by decide)]
  refine hQ _ _ _ (O.shv (fun a q => ?_) hS1 (by rw [up2_a (by omega)]) ?_) ?_
  · rw [up2_a (by omega), up2_a (by omega)]
  · intro s' hs'
    obtain ⟨a1, a2, a3, a4, a5, a6, a7, a8⟩ := sc s' hs'
    by_cases e : s' = s
    · subst e
      rw [putF_s]
      refine ⟨?_, hm60, ?_, ?_, ?_, Or.inr (Or.inl c2), ?_, fun _ => c2⟩
      · rw [up2_s]
      · intro i hi; rw [filJ_v, if_pos (by omega)]
      · rw [up2_i (by decide), up2_s, if_pos c2]
      · rw [up2_s]
        refine ⟨fun _ => ?_, fun _ => rfl⟩
        show so < 10
        rw [iLt]; have := inb_i c2; rw [show (10 : Int32).toInt = 10 from rfl]; omega
      · intro _ i _; show -128 ≤ (0 : Int64).toInt ∧ (0 : Int64).toInt ≤ 127; decide
    · rw [putF_n e]
      refine ⟨?_, a2, ?_, ?_, ?_, a6, a7, a8⟩
      · rw [up2_a (by omega), up2_a (by omega)]; exact a1
      · intro i hi; rw [filJ_v, if_neg (by omega)]; exact a3 i hi
      · rw [up2_a (by omega), up2_a (by omega)]; exact a4
      · rw [up2_a (by omega)]; exact a5
  · intro a p
    refine ⟨by rw [up2_a (by omega), up2_a (by omega)], ?_, by rw [up2_a (by omega)]⟩
    funext i; rw [filJ_v, if_neg (by omega)]
/-- one number of a row becomes another -/
def putS (sh : SHT) (s k : Nat) (v : Int64) : SHT := putF sh s ((sh s).1, (sh s).2.1, fun i => if i = k then KV (sh s).1 v else (sh s).2.2 i)
theorem a_put {s k : Nat} {v : Int64} (hs : s < 6) (h5 : inb (oS S s).1 5) (hk : k < (oS S s).2.1) : Ans 134 [some (vr 2), some (vi (nI s)), some (vi (nI k)), some (vl v), none, none] S 1 (mkS (oG S) (oF S) (oW S) (oB S) (oL S) (oI S) (oC S) (putS (oS S) s k v) (oT S)) := by
  intro h j r E Q O hQ
  obtain ⟨⟨l, C⟩, o1, o2, o3, sc, o5⟩ := id O
  have hS := C.S
  have hn60 := (sc s hs).2.1
  have c1 : inb (nI s) 6 := by rw [inb_n (by omega)]; exact hs
  have ex : ix (nI s) = s := ix_n (by omega)
  have hb : inb (nI s) 6 = True := eq_true c1
  have h1 : ¬ (oS S s).1 = -1 := by intro hh; rw [hh] at h5; exact absurd h5 (by decide)
  have c2 : inb (nI k) (oS S s).2.1 := by rw [inb_n (by omega)]; exact hk
  have rf : refA (fun s => (oS S s).1) (fun s => (oS S s).2.1) (nI s) (nI k) = 0 := by unfold refA; rw [if_pos c1, ex, if_neg h1, if_pos h5, if_pos c2]
  have hk60 : k < 60 := by omega
  have sc' : ∀ s, s < 6 → ShC s ((fun s => (oS S s).1) s) ((fun s => (oS S s).2.1) s) ((fun s => (oS S s).2.2) s) h j r := sc
  simp only [k134_0, k134_1, k134_2, k134_3, k134_6, k134_8, k134_10, k134_13, k134_15, k134_16, k134_17, k134_20, k134_21, k134_22, k134_23, k134_24, k134_27, k134_28, mm_sI, mm_sJ, mm_sR, mm_cI, mm_cJ, mm_I, mm_J, mm_R, mm_K, mm_N, psh_s, psh_n, z_n, z_i, z_r, z_l, Nat.reduceAdd, Nat.reduceLeDiff, K2 hS, R2_0 hS, R2_1 hS, R2_2 hS, R2_6 hS, R2_8 hS, R2_11 hS, R2_12 hS, R2_13 hS, R2_15 hS, R2_16 hS, K3 hS, K11 hS, K19 hS, K27 hS, K32 hS, K37 hS, K98 hS, K99 hS, K100 hS, N37 hS, N98 hS, N99 hS, N100 hS, false_or, or_false, ne_eq, true_or, or_true, not_false_eq_true, Nat.reduceEqDiff, Nat.reduceLT, Nat.reduceLeDiff, Nat.reduceAdd, c_elemRef hS sc', rf, if_true, hb, ex, shR hS hs, shK hS hs, s_become hS hs (sc s hs) h5 hk60]
  refine hQ _ _ _ (O.shv (fun _ _ => rfl) hS rfl ?_) ?_
  · intro s' hs'
    obtain ⟨a1, a2, a3, a4, a5, a6, a7, a8⟩ := sc s' hs'
    unfold putS
    by_cases e : s' = s
    · subst e
      rw [putF_s]
      refine ⟨a1, a2, fun i hi => ?_, a4, a5, a6, fun h0 i hi => ?_, a8⟩
      · show _ = if i = k then KV (oS S s').1 v else (oS S s').2.2 i
        by_cases e2 : i = k
        · subst e2; rw [up2_s, if_pos rfl]
        · rw [up2_i e2, if_neg e2]; exact a3 i hi
      · show -128 ≤ (if i = k then KV (oS S s').1 v else (oS S s').2.2 i).toInt ∧ (if i = k then KV (oS S s').1 v else (oS S s').2.2 i).toInt ≤ 127
        have h0 : (oS S s').1 = 0 := h0
        by_cases e2 : i = k
        · rw [if_pos e2, h0]; exact KV_b
        · rw [if_neg e2]; exact a7 h0 i hi
    · rw [putF_n e]
      refine ⟨a1, a2, fun i hi => ?_, a4, a5, a6, a7, a8⟩
      rw [up2_a (by omega)]; exact a3 i hi
  · intro a p
    exact ⟨rfl, up2_a (by omega), rfl⟩
theorem a_feed {x : Int32} (c1 : inb x 256) (c2 : (oT S).1 < 120) : Ans 78 [some (vr 2), some (vi x)] S (nI ((oT S).1 + 1)) (mkS (oG S) (oF S) (oW S) (oB S) (oL S) (oI S) (oC S) (oS S) ((oT S).1 + 1, fun i => if i = (oT S).1 then x else (oT S).2 i)) := by
  intro h j r E Q O hQ
  obtain ⟨⟨l, C⟩, o1, o2, o3, o4, n120, t1, t3⟩ := id O
  have hS := C.S
  have h255 : b2i (0 ≤ x ∧ x ≤ 255) = b2i (inb x 256) := b2i_c in_255
  have p1 : nI (oT S).1 < 120 := by rw [show (120 : Int32) = nI 120 from rfl, nLt (by omega) (by decide)]; omega
  have hb : inb (nI (oT S).1) 120 = True := eq_true (by rw [inb_n (by omega)]; omega)
  simp only [k78_0, k78_1, k78_2, k78_5, k78_8, k78_11, k78_12, k78_13, k78_14, k78_17, k78_19, k78_22, k78_24, k78_25, k78_26, k78_29, k78_30, k78_33, k78_34, k78_35, k78_36, k78_36i, k78_37, k78_40, k78_41, k78_42, k78_45, k78_46, k78_49, mm_sI, mm_sJ, mm_sR, mm_cI, mm_cJ, mm_I, mm_J, mm_R, mm_K, mm_N, psh_s, psh_n, z_n, z_i, z_r, z_l, Nat.reduceAdd, Nat.reduceLeDiff, K2 hS, R2_0 hS, R2_1 hS, R2_2 hS, R2_6 hS, R2_8 hS, R2_11 hS, R2_12 hS, R2_13 hS, R2_15 hS, R2_16 hS, K3 hS, K11 hS, K19 hS, K27 hS, K32 hS, K37 hS, K98 hS, K99 hS, K100 hS, N37 hS, N98 hS, N99 hS, N100 hS, up2_s, up2_ai, up2_i, false_or, or_false, ne_eq, true_or, or_true, not_false_eq_true, Nat.reduceEqDiff, Nat.reduceLT, Nat.reduceLeDiff, Nat.reduceAdd, s_within, h255, b2i_t c1, e10, if_false, if_true, t1, p1, hb, ix_n (show (oT S).1 < 2 ^ 31 by omega), nS1]
  have o : ∀ a, a ≠ 2 → a ≠ 37 → (up2 (up2 h 37 (oT S).1 x) 2 7 (nI ((oT S).1 + 1))) a = h a := fun a p q => by rw [up2_a p, up2_a q]
  have f2 : ∀ i, i ≠ 7 → (up2 (up2 h 37 (oT S).1 x) 2 7 (nI ((oT S).1 + 1))) 2 i = h 2 i := fun i hi => by rw [up2_i hi, up2_a (by decide)]
  refine hQ _ j r ⟨⟨l, C.st (fun a p q => o a (by omega) (by omega)) ⟨o _ (by rcases C.il with h | h <;> omega) (by rcases C.il with h | h <;> omega), o _ (by rcases C.il with h | h <;> omega) (by rcases C.il with h | h <;> omega), by rw [o l (by rcases C.il with h | h <;> omega) (by rcases C.il with h | h <;> omega)]⟩⟩, fun i hi => ?_, o2.fr (Nat.le_refl _) (Nat.le_refl _) (f2 3 (by decide)) (fun a p q => o a (by omega) (by omega)), o3.fr (Nat.le_refl _) (Nat.le_refl _) (f2 9 (by decide)) (f2 10 (by decide)) (fun a p q => o a (by omega) (by omega)), o4.fr (fun a p q => o a (by omega) (by omega)), ⟨?_, ?_, ?_⟩⟩ (Out.of (fun a p => o a (by omega) (by omega)))
  · rw [o 10 (by decide) (by decide)]; exact o1 i hi
  · show (oT S).1 + 1 ≤ 120; omega
  · rw [up2_s]
  · intro i hi
    have hi : i < (oT S).1 + 1 := hi
    show _ = (if i = (oT S).1 then x else (oT S).2 i) ∧ inb (if i = (oT S).1 then x else (oT S).2 i) 256
    rw [up2_a (show 37 ≠ 2 by decide)]
    by_cases e : i = (oT S).1
    · rw [if_pos e, e, up2_s]; exact ⟨rfl, c1⟩
    · rw [if_neg e, up2_i e]; exact t3 i (by omega)
theorem a_feed_no {x : Int32} (c1 : ¬ inb x 256) : Ans 78 [some (vr 2), some (vi x)] S (-1) S := by
  intro h j r E Q O hQ
  obtain ⟨⟨l, C⟩, _⟩ := id O
  have hS := C.S
  have h255 : b2i (0 ≤ x ∧ x ≤ 255) = b2i (inb x 256) := b2i_c in_255
  simp only [k78_0, k78_1, k78_2, k78_5, k78_8, k78_11, k78_12, k78_13, k78_14, k78_17, k78_19, k78_22, k78_24, k78_25, k78_26, k78_29, k78_30, k78_33, k78_34, k78_35, k78_36, k78_36i, k78_37, k78_40, k78_41, k78_42, k78_45, k78_46, k78_49, mm_sI, mm_sJ, mm_sR, mm_cI, mm_cJ, mm_I, mm_J, mm_R, mm_K, mm_N, psh_s, psh_n, z_n, z_i, z_r, z_l, Nat.reduceAdd, Nat.reduceLeDiff, K2 hS, R2_0 hS, R2_1 hS, R2_2 hS, R2_6 hS, R2_8 hS, R2_11 hS, R2_12 hS, R2_13 hS, R2_15 hS, R2_16 hS, K3 hS, K11 hS, K19 hS, K27 hS, K32 hS, K37 hS, K98 hS, K99 hS, K100 hS, N37 hS, N98 hS, N99 hS, N100 hS, false_or, or_false, ne_eq, true_or, or_true, not_false_eq_true, Nat.reduceEqDiff, Nat.reduceLT, Nat.reduceLeDiff, Nat.reduceAdd, s_within, h255, b2i_f c1, if_true]; exact hQ h j r O Out.rf
end OE
