/-! ===== loans dealt: the class ===== -/
section DC
variable {d : Nat} {M : Mem} {h h0 h1 h2 : Hp} {j : Jp} {r : Rp} {E : EE} {l G F A n : Nat} {W : LW} {b bt bm : BB} {Q : Option PV → Mem → Prop} {w : Nat → Nat → Int32}
theorem gR (hS : Sh r E) {g : Nat} (hg : g < 8) : r 79 g = 80 + g ∧ E.1 (80 + g) = 13 ∧ E.2.1 (80 + g) = 8 := by
  match g, hg with
  | 0, _ => exact ⟨R79_0 hS, K80 hS, N80 hS⟩
  | 1, _ => exact ⟨R79_1 hS, K81 hS, N81 hS⟩
  | 2, _ => exact ⟨R79_2 hS, K82 hS, N82 hS⟩
  | 3, _ => exact ⟨R79_3 hS, K83 hS, N83 hS⟩
  | 4, _ => exact ⟨R79_4 hS, K84 hS, N84 hS⟩
  | 5, _ => exact ⟨R79_5 hS, K85 hS, N85 hS⟩
  | 6, _ => exact ⟨R79_6 hS, K86 hS, N86 hS⟩
  | 7, _ => exact ⟨R79_7 hS, K87 hS, N87 hS⟩
  | g + 8, hg => omega
theorem mR9 (hS : Sh r E) {g : Nat} (hg : g < 9) : r 88 g = 89 + g ∧ E.1 (89 + g) = 13 ∧ E.2.1 (89 + g) = 256 := by
  match g, hg with
  | 0, _ => exact ⟨R88_0 hS, K89 hS, N89 hS⟩
  | 1, _ => exact ⟨R88_1 hS, K90 hS, N90 hS⟩
  | 2, _ => exact ⟨R88_2 hS, K91 hS, N91 hS⟩
  | 3, _ => exact ⟨R88_3 hS, K92 hS, N92 hS⟩
  | 4, _ => exact ⟨R88_4 hS, K93 hS, N93 hS⟩
  | 5, _ => exact ⟨R88_5 hS, K94 hS, N94 hS⟩
  | 6, _ => exact ⟨R88_6 hS, K95 hS, N95 hS⟩
  | 7, _ => exact ⟨R88_7 hS, K96 hS, N96 hS⟩
  | 8, _ => exact ⟨R88_8 hS, K97 hS, N97 hS⟩
  | g + 9, hg => omega
theorem g1 {g : Nat} : (80 + g = 1) = False := by apply eq_false; omega
theorem g2 {g : Nat} : (89 + g = 1) = False := by apply eq_false; omega
/-- gains so far: girls before g, and her frogs before f -/
def Gn (w : Nat → Nat → Int32) (F : Nat) (h : Hp) (g f : Nat) : Prop := ∀ g' f', f' < F → (g' < g ∨ (g' = g ∧ f' < f)) → h (80 + g') f' = w g' f'
theorem c_gn2 {x : Int32} {g : Nat} (hx : inb x 100) (hg : g < G) : ∀ {k f : Nat} {h : Hp}, f + k = F → CC G F l W b h r E → ScrD h0 h → Gn (dealW G F W b x) F h g f → (∀ h' e, CC G F l W b h' r E → ScrD h0 h' → Gn (dealW G F W b x) F h' g F → WP (d + 6) 91 52 [some (vr 2), some (vi x), some (vi (nI g)), e] [] (mm h' j r E) Q) →
    WP (d + 6) 91 15 [some (vr 2), some (vi x), some (vi (nI g)), some (vi (nI f))] [] (mm h j r E) Q := by
  intro k
  induction k with
  | zero =>
    intro f h hk C s hG hQ
    have hS := C.S
    have : f = F := by omega
    subst this
    rw [k91_15]
    simp only [k91_0, k91_1, k91_3, k91_4, k91_7, k91_10, k91_13, k91_14, k91_16, k91_17, k91_20, k91_23, k91_26, k91_27, k91_28, k91_29, k91_30, k91_33, k91_34, k91_37, k91_38, k91_39, k91_40, k91_41, k91_42, k91_45, k91_46, k91_49, k91_55, k91_58, mm_sI, mm_sJ, mm_sR, mm_cI, mm_cJ, mm_I, mm_J, mm_R, mm_K, mm_N, psh_s, psh_n, z_n, z_i, z_r, z_l, Nat.reduceAdd, Nat.reduceLeDiff, K2 hS, R2_0 hS, R2_1 hS, R2_2 hS, R2_6 hS, R2_8 hS, R2_11 hS, R2_12 hS, R2_13 hS, R2_15 hS, R2_16 hS, K3 hS, K11 hS, K19 hS, K27 hS, K32 hS, K37 hS, K98 hS, K99 hS, K100 hS, N37 hS, N98 hS, N99 hS, N100 hS, false_or, or_false, ne_eq, true_or, or_true, not_false_eq_true, Nat.reduceEqDiff, Nat.reduceLT, Nat.reduceLeDiff, Nat.reduceAdd, C.eF, Int32.le_refl, if_true]
    exact hQ h _ C s hG
  | succ k ih =>
    intro f h hk C s hG hQ
    have hS := C.S
    have hG8 := C.G8
    have hF8 := C.F8
    have hfF : f < F := by omega
    obtain ⟨r1, r2, r3⟩ := gR hS (show g < 8 by omega)
    have hg8 : inb (nI g) 8 = True := eq_true (by rw [inb_n (by omega)]; omega)
    have hf8 : inb (nI f) 8 = True := eq_true (by rw [inb_n (by omega)]; omega)
    rw [k91_15]
    simp only [k91_0, k91_1, k91_3, k91_4, k91_7, k91_10, k91_13, k91_14, k91_16, k91_17, k91_20, k91_23, k91_26, k91_27, k91_28, k91_29, k91_30, k91_33, k91_34, k91_37, k91_38, k91_39, k91_40, k91_41, k91_42, k91_45, k91_46, k91_49, k91_55, k91_58, mm_sI, mm_sJ, mm_sR, mm_cI, mm_cJ, mm_I, mm_J, mm_R, mm_K, mm_N, psh_s, psh_n, z_n, z_i, z_r, z_l, Nat.reduceAdd, Nat.reduceLeDiff, K2 hS, R2_0 hS, R2_1 hS, R2_2 hS, R2_6 hS, R2_8 hS, R2_11 hS, R2_12 hS, R2_13 hS, R2_15 hS, R2_16 hS, K3 hS, K11 hS, K19 hS, K27 hS, K32 hS, K37 hS, K98 hS, K99 hS, K100 hS, N37 hS, N98 hS, N99 hS, N100 hS, false_or, or_false, ne_eq, true_or, or_true, not_false_eq_true, Nat.reduceEqDiff, Nat.reduceLT, Nat.reduceLeDiff, Nat.reduceAdd, C.eF, nLe (show F < 2 ^ 31 by omega) (show f < 2 ^ 31 by omega), show ¬ F ≤ f by omega, if_false]
    refine WP.deep (d := d + 2) ?_ (by omega)
    refine c_thinkLoan C Scr.rf hfF (by rw [inb_n (by omega)]; exact hg) hx ?_
    intro h1 T
    simp only [k91_0, k91_1, k91_3, k91_4, k91_7, k91_10, k91_13, k91_14, k91_16, k91_17, k91_20, k91_23, k91_26, k91_27, k91_28, k91_29, k91_30, k91_33, k91_34, k91_37, k91_38, k91_39, k91_40, k91_41, k91_42, k91_45, k91_46, k91_49, k91_55, k91_58, mm_sI, mm_sJ, mm_sR, mm_cI, mm_cJ, mm_I, mm_J, mm_R, mm_K, mm_N, psh_s, psh_n, z_n, z_i, z_r, z_l, Nat.reduceAdd, Nat.reduceLeDiff, K2 hS, R2_0 hS, R2_1 hS, R2_2 hS, R2_6 hS, R2_8 hS, R2_11 hS, R2_12 hS, R2_13 hS, R2_15 hS, R2_16 hS, K3 hS, K11 hS, K19 hS, K27 hS, K32 hS, K37 hS, K98 hS, K99 hS, K100 hS, N37 hS, N98 hS, N99 hS, N100 hS, false_or, or_false, ne_eq, true_or, or_true, not_false_eq_true, Nat.reduceEqDiff, Nat.reduceLT, Nat.reduceLeDiff, Nat.reduceAdd, K79 hS, N79 hS, hg8, ix_n (show g < 2 ^ 31 by omega), r1]
    refine c_givenBack hfF T ?_
    intro h2 s2
    have v : gbA W f 24 (lendB b f (nI g) x) = dealW G F W b x g f := (dealW_p hg hfF).symm
    simp only [k91_0, k91_1, k91_3, k91_4, k91_7, k91_10, k91_13, k91_14, k91_16, k91_17, k91_20, k91_23, k91_26, k91_27, k91_28, k91_29, k91_30, k91_33, k91_34, k91_37, k91_38, k91_39, k91_40, k91_41, k91_42, k91_45, k91_46, k91_49, k91_55, k91_58, mm_sI, mm_sJ, mm_sR, mm_cI, mm_cJ, mm_I, mm_J, mm_R, mm_K, mm_N, psh_s, psh_n, z_n, z_i, z_r, z_l, Nat.reduceAdd, Nat.reduceLeDiff, K2 hS, R2_0 hS, R2_1 hS, R2_2 hS, R2_6 hS, R2_8 hS, R2_11 hS, R2_12 hS, R2_13 hS, R2_15 hS, R2_16 hS, K3 hS, K11 hS, K19 hS, K27 hS, K32 hS, K37 hS, K98 hS, K99 hS, K100 hS, N37 hS, N98 hS, N99 hS, N100 hS, false_or, or_false, ne_eq, true_or, or_true, not_false_eq_true, Nat.reduceEqDiff, Nat.reduceLT, Nat.reduceLeDiff, Nat.reduceAdd, r2, r3, g1, hf8, ix_n (show f < 2 ^ 31 by omega), nS1, v]
    have sd : ScrD h (up2 h2 (80 + g) f (dealW G F W b x g f)) := s2.D.up (by omega)
    refine ih (by omega) (C.frD sd) (s.tr sd) ?_ hQ
    intro g' f' hf' hc
    by_cases e : g' = g ∧ f' = f
    · rw [e.1, e.2, up2_s]
    · have : up2 h2 (80 + g) f (dealW G F W b x g f) (80 + g') f' = h2 (80 + g') f' := by
        rw [up2]; split
        · split
          · exact absurd ⟨by omega, ‹_›⟩ e
          · rfl
        · rfl
      rw [this]
      by_cases c80 : g' ≤ 17
      · rw [s2.a (by unfold scrA; omega)]; exact hG g' f' hf' (by omega)
      · exact absurd hc (by omega)
theorem c_gn1 {x : Int32} (hx : inb x 100) : ∀ {k g : Nat} {h : Hp} {e : Option PV}, g + k = G → CC G F l W b h r E → ScrD h0 h → Gn (dealW G F W b x) F h g 0 → (∀ h', CC G F l W b h' r E → ScrD h0 h' → Gn (dealW G F W b x) F h' G 0 → Q none (mm h' j r E)) →
    WP (d + 6) 91 2 [some (vr 2), some (vi x), some (vi (nI g)), e] [] (mm h j r E) Q := by
  intro k
  induction k with
  | zero =>
    intro g h e hk C s hG hQ
    have hS := C.S
    have : g = G := by omega
    subst this
    rw [k91_2]
    simp only [k91_0, k91_1, k91_3, k91_4, k91_7, k91_10, k91_13, k91_14, k91_16, k91_17, k91_20, k91_23, k91_26, k91_27, k91_28, k91_29, k91_30, k91_33, k91_34, k91_37, k91_38, k91_39, k91_40, k91_41, k91_42, k91_45, k91_46, k91_49, k91_52, k91_55, k91_58, mm_sI, mm_sJ, mm_sR, mm_cI, mm_cJ, mm_I, mm_J, mm_R, mm_K, mm_N, psh_s, psh_n, z_n, z_i, z_r, z_l, Nat.reduceAdd, Nat.reduceLeDiff, K2 hS, R2_0 hS, R2_1 hS, R2_2 hS, R2_6 hS, R2_8 hS, R2_11 hS, R2_12 hS, R2_13 hS, R2_15 hS, R2_16 hS, K3 hS, K11 hS, K19 hS, K27 hS, K32 hS, K37 hS, K98 hS, K99 hS, K100 hS, N37 hS, N98 hS, N99 hS, N100 hS, false_or, or_false, ne_eq, true_or, or_true, not_false_eq_true, Nat.reduceEqDiff, Nat.reduceLT, Nat.reduceLeDiff, Nat.reduceAdd, C.eG, Int32.le_refl, if_true]
    exact hQ h C s hG
  | succ k ih =>
    intro g h e hk C s hG hQ
    have hS := C.S
    have hG8 := C.G8
    rw [k91_2]
    simp only [k91_0, k91_1, k91_3, k91_4, k91_7, k91_10, k91_13, k91_14, k91_16, k91_17, k91_20, k91_23, k91_26, k91_27, k91_28, k91_29, k91_30, k91_33, k91_34, k91_37, k91_38, k91_39, k91_40, k91_41, k91_42, k91_45, k91_46, k91_49, k91_52, k91_55, k91_58, mm_sI, mm_sJ, mm_sR, mm_cI, mm_cJ, mm_I, mm_J, mm_R, mm_K, mm_N, psh_s, psh_n, z_n, z_i, z_r, z_l, Nat.reduceAdd, Nat.reduceLeDiff, K2 hS, R2_0 hS, R2_1 hS, R2_2 hS, R2_6 hS, R2_8 hS, R2_11 hS, R2_12 hS, R2_13 hS, R2_15 hS, R2_16 hS, K3 hS, K11 hS, K19 hS, K27 hS, K32 hS, K37 hS, K98 hS, K99 hS, K100 hS, N37 hS, N98 hS, N99 hS, N100 hS, false_or, or_false, ne_eq, true_or, or_true, not_false_eq_true, Nat.reduceEqDiff, Nat.reduceLT, Nat.reduceLeDiff, Nat.reduceAdd, C.eG, nLe (show G < 2 ^ 31 by omega) (show g < 2 ^ 31 by omega), show ¬ G ≤ g by omega, if_false]
    refine c_gn2 hx (show g < G by omega) (k := F) (f := 0) (by omega) C s hG ?_
    intro h' e' C' s' hG'
    simp only [k91_0, k91_1, k91_3, k91_4, k91_7, k91_10, k91_13, k91_14, k91_16, k91_17, k91_20, k91_23, k91_26, k91_27, k91_28, k91_29, k91_30, k91_33, k91_34, k91_37, k91_38, k91_39, k91_40, k91_41, k91_42, k91_45, k91_46, k91_49, k91_52, k91_55, k91_58, mm_sI, mm_sJ, mm_sR, mm_cI, mm_cJ, mm_I, mm_J, mm_R, mm_K, mm_N, psh_s, psh_n, z_n, z_i, z_r, z_l, Nat.reduceAdd, Nat.reduceLeDiff, false_or, or_false, ne_eq, true_or, or_true, not_false_eq_true, Nat.reduceEqDiff, Nat.reduceLT, Nat.reduceLeDiff, Nat.reduceAdd, nS1]
    refine ih (by omega) C' s' ?_ hQ
    intro g' f' hf' hc
    refine hG' g' f' hf' ?_
    rcases hc with hc | hc
    · by_cases e : g' = g
      · exact Or.inr ⟨e, hf'⟩
      · exact Or.inl (by omega)
    · omega
theorem c_thinkGains {x : Int32} (hx : inb x 100) (C : CC G F l W b h r E) (hQ : ∀ h', CC G F l W b h' r E → ScrD h h' → Gn (dealW G F W b x) F h' G 0 → Q none (mm h' j r E)) : WP (d + 6) 91 0 [some (vr 2), some (vi x), none, none] [] (mm h j r E) Q := by
  simp only [k91_0, k91_1, k91_3, k91_4, k91_7, k91_10, k91_13, k91_14, k91_16, k91_17, k91_20, k91_23, k91_26, k91_27, k91_28, k91_29, k91_30, k91_33, k91_34, k91_37, k91_38, k91_39, k91_40, k91_41, k91_42, k91_45, k91_46, k91_49, k91_52, k91_55, k91_58, mm_sI, mm_sJ, mm_sR, mm_cI, mm_cJ, mm_I, mm_J, mm_R, mm_K, mm_N, psh_s, psh_n, z_n, z_i, z_r, z_l, Nat.reduceAdd, Nat.reduceLeDiff, false_or, or_false, ne_eq, true_or, or_true, not_false_eq_true, Nat.reduceEqDiff, Nat.reduceLT, Nat.reduceLeDiff, Nat.reduceAdd]
  exact c_gn1 hx (k := G) (g := 0) (by omega) C ScrD.rf (fun g' f' _ hc => by omega) hQ
/-- a row filled -/
def filH (a : Nat) (v : Int32) : Nat → Nat → Hp → Hp
  | _, 0, h => h
  | i, k + 1, h => filH a v (i + 1) k (up2 h a i v)
theorem filH_v {a : Nat} {v : Int32} : ∀ {k i : Nat} {h : Hp} {c x : Nat}, filH a v i k h c x = if c = a ∧ i ≤ x ∧ x < i + k then v else h c x := by
  intro k
  induction k with
  | zero => intro i h c x; rw [filH, if_neg (by omega)]
  | succ k ih =>
    intro i h c x
    rw [filH, ih]
    by_cases h1 : c = a
    · subst h1
      by_cases h2 : x = i
      · subst h2; rw [if_neg (by omega), up2_s, if_pos (by omega)]
      · rw [up2_i h2]
        by_cases h3 : i + 1 ≤ x ∧ x < i + 1 + k
        · rw [if_pos ⟨rfl, h3⟩, if_pos (by omega)]
        · rw [if_neg (fun hh => h3 hh.2), if_neg (by omega)]
    · rw [if_neg (by omega), if_neg (by omega), up2_a h1]
theorem s_filL {a L : Nat} {v : Int32} (hK : E.1 a = 13) (hN : E.2.1 a = L) (ha : a ≠ 1) (hL : L < 2 ^ 31) : ∀ {k i : Nat} {h : Hp}, i + k = L → WP d 249 5 [some (vr a), some (vi v), some (vi (nI i)), some (vi (nI L))] [] (mm h j r E) Q = Q none (mm (filH a v i k h) j r E) := by
  have ha' : (a = 1) = False := eq_false ha
  intro k
  induction k with
  | zero =>
    intro i h hk
    have : i = L := by omega
    subst this
    rw [k249_5]
    simp only [k249_0, k249_1, k249_2, k249_3, k249_4, k249_6, k249_7, k249_10, k249_11, k249_12, k249_13, k249_14, k249_17, k249_20, mm_sI, mm_sJ, mm_sR, mm_cI, mm_cJ, mm_I, mm_J, mm_R, mm_K, mm_N, psh_s, psh_n, z_n, z_i, z_r, z_l, Nat.reduceAdd, Nat.reduceLeDiff, false_or, or_false, ne_eq, true_or, or_true, not_false_eq_true, Nat.reduceEqDiff, Nat.reduceLT, Nat.reduceLeDiff, Nat.reduceAdd, Int32.le_refl, if_true]; rfl
  | succ k ih =>
    intro i h hk
    have hi : inb (nI i) L = True := eq_true (by rw [inb_n (by omega)]; omega)
    rw [k249_5]
    simp only [k249_0, k249_1, k249_2, k249_3, k249_4, k249_6, k249_7, k249_10, k249_11, k249_12, k249_13, k249_14, k249_17, k249_20, mm_sI, mm_sJ, mm_sR, mm_cI, mm_cJ, mm_I, mm_J, mm_R, mm_K, mm_N, psh_s, psh_n, z_n, z_i, z_r, z_l, Nat.reduceAdd, Nat.reduceLeDiff, false_or, or_false, ne_eq, true_or, or_true, not_false_eq_true, Nat.reduceEqDiff, Nat.reduceLT, Nat.reduceLeDiff, Nat.reduceAdd, nLe (show L < 2 ^ 31 by omega) (show i < 2 ^ 31 by omega), show ¬ L ≤ i by omega, if_false, hK, hN, hi, ha', ix_n (show i < 2 ^ 31 by omega), nS1]
    rw [ih (by omega)]; rfl
theorem s_fill {a L : Nat} {v : Int32} (hK : E.1 a = 13) (hN : E.2.1 a = L) (ha : a ≠ 1) (hL : L < 2 ^ 31) : WP d 249 0 [some (vr a), some (vi v), none, none] [] (mm h j r E) Q = Q none (mm (filH a v 0 L h) j r E) := by
  have ha' : (a = 1) = False := eq_false ha
  have hk : 13 ≤ E.1 a ∧ E.1 a ≤ 19 := by rw [hK]; decide
  have k3 := @k249_3 d (some (vr a)) (some (vi v)) (some (vi 0)) none [] (mm h j r E) Q a hk
  simp only [k249_0, k249_1, k249_2, k249_4, k249_6, k249_7, k249_10, k249_11, k249_12, k249_13, k249_14, k249_17, k249_20, mm_sI, mm_sJ, mm_sR, mm_cI, mm_cJ, mm_I, mm_J, mm_R, mm_K, mm_N, psh_s, psh_n, z_n, z_i, z_r, z_l, Nat.reduceAdd, Nat.reduceLeDiff, false_or, or_false, ne_eq, true_or, or_true, not_false_eq_true, Nat.reduceEqDiff, Nat.reduceLT, Nat.reduceLeDiff, Nat.reduceAdd]
  rw [k3]
  simp only [k249_0, k249_1, k249_2, k249_4, k249_6, k249_7, k249_10, k249_11, k249_12, k249_13, k249_14, k249_17, k249_20, mm_sI, mm_sJ, mm_sR, mm_cI, mm_cJ, mm_I, mm_J, mm_R, mm_K, mm_N, psh_s, psh_n, z_n, z_i, z_r, z_l, Nat.reduceAdd, Nat.reduceLeDiff, false_or, or_false, ne_eq, true_or, or_true, not_false_eq_true, Nat.reduceEqDiff, Nat.reduceLT, Nat.reduceLeDiff, Nat.reduceAdd, hN]
  rw [show (0 : Int32) = nI 0 from rfl, show Int32.ofNat L = nI L from rfl, s_filL hK hN ha hL (k := L) (i := 0) (by omega)]
/-- what comes back by one loan -/
theorem c_backBy1 {g f t : Nat} {wg nx : Nat → Int32} (C : CC G F l W b h r E) (hg : g < G) (hf : f < F) (ht : t < 2 ^ F) (e1 : h (80 + g) f = wg f) (e2 : ∀ t, t < 2 ^ F → h (89 + (g + 1)) t = nx t) :
    WP d 93 0 [some (vr 2), some (vi (nI g)), some (vi (nI f)), some (vi (nI t)), none] [] (mm h j r E) Q = Q (some (vi (dV wg nx t f))) (mm h j r E) := by
  have hS := C.S
  have hG8 := C.G8
  have hF8 := C.F8
  have tw := two_le hF8
  have ol := or_lt ht hf
  obtain ⟨r1, r2, r3⟩ := gR hS (show g < 8 by omega)
  obtain ⟨r4, r5, r6⟩ := mR9 hS (show g + 1 < 9 by omega)
  have hg8 : inb (nI g) 8 = True := eq_true (by rw [inb_n (by omega)]; omega)
  have hg9 : inb (nI (g + 1)) 9 = True := eq_true (by rw [inb_n (by omega)]; omega)
  have hf8 : inb (nI f) 8 = True := eq_true (by rw [inb_n (by omega)]; omega)
  have ht8 : inb (nI (t ||| 2 ^ f)) 256 = True := eq_true (by rw [inb_n (by omega)]; omega)
  simp only [k93_0, k93_1, k93_2, k93_3, k93_4, k93_5, k93_8, k93_9, k93_12, k93_13, k93_14, k93_15, k93_16, k93_19, k93_20, k93_23, k93_24, k93_26, k93_28, k93_31, k93_32, k93_35, k93_36, k93_37, k93_38, k93_39, k93_40, k93_43, k93_44, k93_45, k93_46, k93_47, k93_48, k93_49, k93_50, k93_51, k93_52, k93_53, k93_54, k93_57, k93_58, mm_sI, mm_sJ, mm_sR, mm_cI, mm_cJ, mm_I, mm_J, mm_R, mm_K, mm_N, psh_s, psh_n, z_n, z_i, z_r, z_l, Nat.reduceAdd, Nat.reduceLeDiff, K2 hS, R2_0 hS, R2_1 hS, R2_2 hS, R2_6 hS, R2_8 hS, R2_11 hS, R2_12 hS, R2_13 hS, R2_15 hS, R2_16 hS, K3 hS, K11 hS, K19 hS, K27 hS, K32 hS, K37 hS, K98 hS, K99 hS, K100 hS, N37 hS, N98 hS, N99 hS, N100 hS, false_or, or_false, ne_eq, true_or, or_true, not_false_eq_true, Nat.reduceEqDiff, Nat.reduceLT, Nat.reduceLeDiff, Nat.reduceAdd, bit_n0 (show f < 32 by omega), K79 hS, N79 hS, hg8, ix_n (show g < 2 ^ 31 by omega), r1, r2, r3, g1, hf8, ix_n (show f < 2 ^ 31 by omega), e1, K88 hS, N88 hS, nS1, hg9, ix_n (show g + 1 < 2 ^ 31 by omega), r4, r5, r6, g2, or_n (show t < 256 by omega) (show f < 8 by omega), ht8, ix_n (show t ||| 2 ^ f < 2 ^ 31 by omega), e2 _ ol]
  unfold dV vlB
  cases c1 : bit (nI t) f with
  | true => simp only [Bool.true_eq_false, if_false, Bool.not_true, Bool.false_and, Bool.false_eq_true, if_true]
  | false =>
    by_cases c2 : 0 < wg f
    · simp only [if_true, Int32.not_le.2 c2, if_false, e10, Bool.not_false, decide_eq_true c2, Bool.and_self]
    · simp only [if_true, Int32.not_lt.1 c2, if_false, Bool.not_false, decide_eq_false c2, Bool.and_false, Bool.false_eq_true]
def Mb (w : Nat → Nat → Int32) (G F : Nat) (h : Hp) (g : Nat) : Prop := ∀ g', g ≤ g' → g' ≤ G → ∀ t, t < 2 ^ F → h (89 + g') t = bD w F (G - g') g' t
theorem c_mb3 {g t : Nat} {wg nx : Nat → Int32} (hg : g < G) (ht : t < 2 ^ F) (C : CC G F l W b h r E) (e1 : ∀ f, f < F → h (80 + g) f = wg f) (e2 : ∀ t, t < 2 ^ F → h (89 + (g + 1)) t = nx t) : ∀ {k f : Nat} {m : Int32}, f + k = F → WP (d + 1) 92 59 [some (vr 2), some (vi (nI g)), some (vi (nI t)), some (vi m), some (vi (nI f))] [] (mm h j r E) Q = WP (d + 1) 92 90 [some (vr 2), some (vi (nI g)), some (vi (nI t)), some (vi (dpL wg nx t f k m)), some (vi (nI F))] [] (mm h j r E) Q := by
  have hS := C.S
  have hF8 := C.F8
  intro k
  induction k with
  | zero =>
    intro f m hk
    have : f = F := by omega
    subst this
    rw [k92_59]
    simp only [k92_0, k92_1, k92_4, k92_5, k92_8, k92_11, k92_12, k92_13, k92_16, k92_17, k92_20, k92_23, k92_24, k92_25, k92_27, k92_30, k92_31, k92_33, k92_34, k92_35, k92_38, k92_41, k92_42, k92_45, k92_46, k92_49, k92_50, k92_51, k92_52, k92_53, k92_54, k92_55, k92_56, k92_57, k92_61, k92_62, k92_65, k92_68, k92_71, k92_72, k92_73, k92_74, k92_76, k92_77, k92_80, k92_83, k92_84, k92_87, k92_91, k92_94, k92_95, k92_96, k92_97, k92_98, k92_99, k92_102, k92_105, k92_108, k92_111, mm_sI, mm_sJ, mm_sR, mm_cI, mm_cJ, mm_I, mm_J, mm_R, mm_K, mm_N, psh_s, psh_n, z_n, z_i, z_r, z_l, Nat.reduceAdd, Nat.reduceLeDiff, K2 hS, R2_0 hS, R2_1 hS, R2_2 hS, R2_6 hS, R2_8 hS, R2_11 hS, R2_12 hS, R2_13 hS, R2_15 hS, R2_16 hS, K3 hS, K11 hS, K19 hS, K27 hS, K32 hS, K37 hS, K98 hS, K99 hS, K100 hS, N37 hS, N98 hS, N99 hS, N100 hS, false_or, or_false, ne_eq, true_or, or_true, not_false_eq_true, Nat.reduceEqDiff, Nat.reduceLT, Nat.reduceLeDiff, Nat.reduceAdd, C.eF, Int32.le_refl, if_true]; rfl
  | succ k ih =>
    intro f m hk
    have hfF : f < F := by omega
    rw [k92_59]
    simp only [k92_0, k92_1, k92_4, k92_5, k92_8, k92_11, k92_12, k92_13, k92_16, k92_17, k92_20, k92_23, k92_24, k92_25, k92_27, k92_30, k92_31, k92_33, k92_34, k92_35, k92_38, k92_41, k92_42, k92_45, k92_46, k92_49, k92_50, k92_51, k92_52, k92_53, k92_54, k92_55, k92_56, k92_57, k92_61, k92_62, k92_65, k92_68, k92_71, k92_72, k92_73, k92_74, k92_76, k92_77, k92_80, k92_83, k92_84, k92_87, k92_91, k92_94, k92_95, k92_96, k92_97, k92_98, k92_99, k92_102, k92_105, k92_108, k92_111, mm_sI, mm_sJ, mm_sR, mm_cI, mm_cJ, mm_I, mm_J, mm_R, mm_K, mm_N, psh_s, psh_n, z_n, z_i, z_r, z_l, Nat.reduceAdd, Nat.reduceLeDiff, K2 hS, R2_0 hS, R2_1 hS, R2_2 hS, R2_6 hS, R2_8 hS, R2_11 hS, R2_12 hS, R2_13 hS, R2_15 hS, R2_16 hS, K3 hS, K11 hS, K19 hS, K27 hS, K32 hS, K37 hS, K98 hS, K99 hS, K100 hS, N37 hS, N98 hS, N99 hS, N100 hS, false_or, or_false, ne_eq, true_or, or_true, not_false_eq_true, Nat.reduceEqDiff, Nat.reduceLT, Nat.reduceLeDiff, Nat.reduceAdd, C.eF, nLe (show F < 2 ^ 31 by omega) (show f < 2 ^ 31 by omega), show ¬ F ≤ f by omega, if_false, c_backBy1 C hg hfF ht (e1 f hfF) e2, nS1]
    exact ih (by omega)
theorem c_mb2 {g : Nat} (hg : g < G) : ∀ {k t : Nat} {h : Hp} {e3 e4 : Option PV}, t + k = 2 ^ F → CC G F l W b h r E → ScrD h0 h → Gn w F h G 0 → Mb w G F h (g + 1) → (∀ t', t' < t → h (89 + g) t' = bD w F (G - g) g t') → (∀ h' e2 e3 e4, CC G F l W b h' r E → ScrD h0 h' → Gn w F h' G 0 → Mb w G F h' g → WP (d + 1) 92 105 [some (vr 2), some (vi (nI g)), e2, e3, e4] [] (mm h' j r E) Q) →
    WP (d + 1) 92 32 [some (vr 2), some (vi (nI g)), some (vi (nI t)), e3, e4] [] (mm h j r E) Q := by
  intro k
  induction k with
  | zero =>
    intro t h e3 e4 hk C s hG hM ht hQ
    have hS := C.S
    have hF8 := C.F8
    rw [k92_32]
    simp only [k92_0, k92_1, k92_4, k92_5, k92_8, k92_11, k92_12, k92_13, k92_16, k92_17, k92_20, k92_23, k92_24, k92_25, k92_27, k92_30, k92_31, k92_33, k92_34, k92_35, k92_38, k92_41, k92_42, k92_45, k92_46, k92_49, k92_50, k92_51, k92_52, k92_53, k92_54, k92_55, k92_56, k92_57, k92_61, k92_62, k92_65, k92_68, k92_71, k92_72, k92_73, k92_74, k92_76, k92_77, k92_80, k92_83, k92_84, k92_87, k92_90, k92_91, k92_94, k92_95, k92_96, k92_97, k92_98, k92_99, k92_102, k92_108, k92_111, mm_sI, mm_sJ, mm_sR, mm_cI, mm_cJ, mm_I, mm_J, mm_R, mm_K, mm_N, psh_s, psh_n, z_n, z_i, z_r, z_l, Nat.reduceAdd, Nat.reduceLeDiff, K2 hS, R2_0 hS, R2_1 hS, R2_2 hS, R2_6 hS, R2_8 hS, R2_11 hS, R2_12 hS, R2_13 hS, R2_15 hS, R2_16 hS, K3 hS, K11 hS, K19 hS, K27 hS, K32 hS, K37 hS, K98 hS, K99 hS, K100 hS, N37 hS, N98 hS, N99 hS, N100 hS, false_or, or_false, ne_eq, true_or, or_true, not_false_eq_true, Nat.reduceEqDiff, Nat.reduceLT, Nat.reduceLeDiff, Nat.reduceAdd, C.eF, sh_n hF8, show t = 2 ^ F by omega, Int32.le_refl, if_true]
    refine hQ h _ _ _ C s hG ?_
    intro g' h1 h2 t' ht'
    by_cases e : g' = g
    · subst e; exact ht t' (by omega)
    · exact hM g' (by omega) h2 t' ht'
  | succ k ih =>
    intro t h e3 e4 hk C s hG hM ht hQ
    have hS := C.S
    have hF8 := C.F8
    have hG8 := C.G8
    have tw := two_le hF8
    obtain ⟨r4, r5, r6⟩ := mR9 hS (show g + 1 < 9 by omega)
    obtain ⟨r7, r8, r9⟩ := mR9 hS (show g < 9 by omega)
    have hg9 : inb (nI g) 9 = True := eq_true (by rw [inb_n (by omega)]; omega)
    have hg9' : inb (nI (g + 1)) 9 = True := eq_true (by rw [inb_n (by omega)]; omega)
    have ht8 : inb (nI t) 256 = True := eq_true (by rw [inb_n (by omega)]; omega)
    obtain ⟨n, hn⟩ : ∃ n, G - g = n + 1 := ⟨G - g - 1, by omega⟩
    have e2 : ∀ t, t < 2 ^ F → h (89 + (g + 1)) t = bD w F n (g + 1) t := fun t ht => by rw [hM (g + 1) (by omega) (by omega) t ht, show G - (g + 1) = n by omega]
    rw [k92_32]
    simp only [k92_0, k92_1, k92_4, k92_5, k92_8, k92_11, k92_12, k92_13, k92_16, k92_17, k92_20, k92_23, k92_24, k92_25, k92_27, k92_30, k92_31, k92_33, k92_34, k92_35, k92_38, k92_41, k92_42, k92_45, k92_46, k92_49, k92_50, k92_51, k92_52, k92_53, k92_54, k92_55, k92_56, k92_57, k92_61, k92_62, k92_65, k92_68, k92_71, k92_72, k92_73, k92_74, k92_76, k92_77, k92_80, k92_83, k92_84, k92_87, k92_90, k92_91, k92_94, k92_95, k92_96, k92_97, k92_98, k92_99, k92_102, k92_108, k92_111, mm_sI, mm_sJ, mm_sR, mm_cI, mm_cJ, mm_I, mm_J, mm_R, mm_K, mm_N, psh_s, psh_n, z_n, z_i, z_r, z_l, Nat.reduceAdd, Nat.reduceLeDiff, K2 hS, R2_0 hS, R2_1 hS, R2_2 hS, R2_6 hS, R2_8 hS, R2_11 hS, R2_12 hS, R2_13 hS, R2_15 hS, R2_16 hS, K3 hS, K11 hS, K19 hS, K27 hS, K32 hS, K37 hS, K98 hS, K99 hS, K100 hS, N37 hS, N98 hS, N99 hS, N100 hS, false_or, or_false, ne_eq, true_or, or_true, not_false_eq_true, Nat.reduceEqDiff, Nat.reduceLT, Nat.reduceLeDiff, Nat.reduceAdd, C.eF, sh_n hF8, nLe (show 2 ^ F < 2 ^ 31 by omega) (show t < 2 ^ 31 by omega), show ¬ 2 ^ F ≤ t by omega, if_false, K88 hS, N88 hS, nS1, hg9', ix_n (show g + 1 < 2 ^ 31 by omega), r4, r5, r6, g2, ht8, ix_n (show t < 2 ^ 31 by omega), e2 t (by omega)]
    rw [show (0 : Int32) = nI 0 from rfl, c_mb3 (wg := w g) (nx := bD w F n (g + 1)) hg (by omega) C (fun f hf => hG g f hf (Or.inl hg)) e2 (k := F) (f := 0) (by omega)]
    simp only [k92_0, k92_1, k92_4, k92_5, k92_8, k92_11, k92_12, k92_13, k92_16, k92_17, k92_20, k92_23, k92_24, k92_25, k92_27, k92_30, k92_31, k92_33, k92_34, k92_35, k92_38, k92_41, k92_42, k92_45, k92_46, k92_49, k92_50, k92_51, k92_52, k92_53, k92_54, k92_55, k92_56, k92_57, k92_61, k92_62, k92_65, k92_68, k92_71, k92_72, k92_73, k92_74, k92_76, k92_77, k92_80, k92_83, k92_84, k92_87, k92_90, k92_91, k92_94, k92_95, k92_96, k92_97, k92_98, k92_99, k92_102, k92_108, k92_111, mm_sI, mm_sJ, mm_sR, mm_cI, mm_cJ, mm_I, mm_J, mm_R, mm_K, mm_N, psh_s, psh_n, z_n, z_i, z_r, z_l, Nat.reduceAdd, Nat.reduceLeDiff, K2 hS, R2_0 hS, R2_1 hS, R2_2 hS, R2_6 hS, R2_8 hS, R2_11 hS, R2_12 hS, R2_13 hS, R2_15 hS, R2_16 hS, K3 hS, K11 hS, K19 hS, K27 hS, K32 hS, K37 hS, K98 hS, K99 hS, K100 hS, N37 hS, N98 hS, N99 hS, N100 hS, false_or, or_false, ne_eq, true_or, or_true, not_false_eq_true, Nat.reduceEqDiff, Nat.reduceLT, Nat.reduceLeDiff, Nat.reduceAdd, K88 hS, N88 hS, hg9, ix_n (show g < 2 ^ 31 by omega), r7, r8, r9, g2, ht8, ix_n (show t < 2 ^ 31 by omega), nS1]
    have vb : dpL (w g) (bD w F n (g + 1)) t 0 F (bD w F n (g + 1) t) = bD w F (G - g) g t := by rw [hn]; rfl
    rw [vb]
    have sd : ScrD h (up2 h (89 + g) t (bD w F (G - g) g t)) := ScrD.rf.up (by omega)
    refine ih (by omega) (C.frD sd) (s.tr sd) ?_ ?_ ?_ hQ
    · intro g' f' hf' hc
      rw [up2_a (show 80 + g' ≠ 89 + g by omega)]; exact hG g' f' hf' hc
    · intro g' h1 h2 t' ht'
      rw [up2_a (show 89 + g' ≠ 89 + g by omega)]; exact hM g' h1 h2 t' ht'
    · intro t' ht'
      by_cases e : t' = t
      · subst e; rw [up2_s]
      · rw [up2_i e]; exact ht t' (by omega)
theorem c_mb1 : ∀ {g : Nat} {h : Hp} {e2 e3 e4 : Option PV}, g ≤ G → CC G F l W b h r E → ScrD h0 h → Gn w F h G 0 → Mb w G F h g → (∀ h', CC G F l W b h' r E → ScrD h0 h' → Gn w F h' G 0 → Mb w G F h' 0 → Q none (mm h' j r E)) →
    WP (d + 1) 92 26 [some (vr 2), some (vi (nI g - 1)), e2, e3, e4] [] (mm h j r E) Q := by
  intro g
  induction g with
  | zero =>
    intro h e2 e3 e4 hg C s hG hM hQ
    have hS := C.S
    rw [k92_26]
    simp only [k92_0, k92_1, k92_4, k92_5, k92_8, k92_11, k92_12, k92_13, k92_16, k92_17, k92_20, k92_23, k92_24, k92_25, k92_27, k92_30, k92_31, k92_33, k92_34, k92_35, k92_38, k92_41, k92_42, k92_45, k92_46, k92_49, k92_50, k92_51, k92_52, k92_53, k92_54, k92_55, k92_56, k92_57, k92_61, k92_62, k92_65, k92_68, k92_71, k92_72, k92_73, k92_74, k92_76, k92_77, k92_80, k92_83, k92_84, k92_87, k92_90, k92_91, k92_94, k92_95, k92_96, k92_97, k92_98, k92_99, k92_102, k92_105, k92_108, k92_111, mm_sI, mm_sJ, mm_sR, mm_cI, mm_cJ, mm_I, mm_J, mm_R, mm_K, mm_N, psh_s, psh_n, z_n, z_i, z_r, z_l, Nat.reduceAdd, Nat.reduceLeDiff, false_or, or_false, ne_eq, true_or, or_true, not_false_eq_true, Nat.reduceEqDiff, Nat.reduceLT, Nat.reduceLeDiff, Nat.reduceAdd, show (nI 0 - 1 : Int32) < 0 by decide, if_true]
    exact hQ h C s hG hM
  | succ g ih =>
    intro h e2 e3 e4 hg C s hG hM hQ
    have hS := C.S
    have hG8 := C.G8
    have p0 : (nI g < 0) = False := eq_false (nI_pos (by omega))
    have e1 : nI g + -1 = nI g - 1 := by rw [Int32.sub_eq_add_neg]
    rw [nSub (show g + 1 < 2 ^ 31 by omega), k92_26]
    simp only [k92_0, k92_1, k92_4, k92_5, k92_8, k92_11, k92_12, k92_13, k92_16, k92_17, k92_20, k92_23, k92_24, k92_25, k92_27, k92_30, k92_31, k92_33, k92_34, k92_35, k92_38, k92_41, k92_42, k92_45, k92_46, k92_49, k92_50, k92_51, k92_52, k92_53, k92_54, k92_55, k92_56, k92_57, k92_61, k92_62, k92_65, k92_68, k92_71, k92_72, k92_73, k92_74, k92_76, k92_77, k92_80, k92_83, k92_84, k92_87, k92_90, k92_91, k92_94, k92_95, k92_96, k92_97, k92_98, k92_99, k92_102, k92_105, k92_108, k92_111, mm_sI, mm_sJ, mm_sR, mm_cI, mm_cJ, mm_I, mm_J, mm_R, mm_K, mm_N, psh_s, psh_n, z_n, z_i, z_r, z_l, Nat.reduceAdd, Nat.reduceLeDiff, false_or, or_false, ne_eq, true_or, or_true, not_false_eq_true, Nat.reduceEqDiff, Nat.reduceLT, Nat.reduceLeDiff, Nat.reduceAdd, p0, if_false]
    refine c_mb2 (show g < G by omega) (k := 2 ^ F) (t := 0) (by omega) C s hG hM (fun t' ht' => by omega) ?_
    intro h' e2 e3 e4 C' s' hG' hM'
    simp only [k92_0, k92_1, k92_4, k92_5, k92_8, k92_11, k92_12, k92_13, k92_16, k92_17, k92_20, k92_23, k92_24, k92_25, k92_27, k92_30, k92_31, k92_33, k92_34, k92_35, k92_38, k92_41, k92_42, k92_45, k92_46, k92_49, k92_50, k92_51, k92_52, k92_53, k92_54, k92_55, k92_56, k92_57, k92_61, k92_62, k92_65, k92_68, k92_71, k92_72, k92_73, k92_74, k92_76, k92_77, k92_80, k92_83, k92_84, k92_87, k92_90, k92_91, k92_94, k92_95, k92_96, k92_97, k92_98, k92_99, k92_102, k92_105, k92_108, k92_111, mm_sI, mm_sJ, mm_sR, mm_cI, mm_cJ, mm_I, mm_J, mm_R, mm_K, mm_N, psh_s, psh_n, z_n, z_i, z_r, z_l, Nat.reduceAdd, Nat.reduceLeDiff, false_or, or_false, ne_eq, true_or, or_true, not_false_eq_true, Nat.reduceEqDiff, Nat.reduceLT, Nat.reduceLeDiff, Nat.reduceAdd, e1]
    exact ih (by omega) C' s' hG' hM' hQ
theorem c_thinkMost (C : CC G F l W b h r E) (hG : Gn w F h G 0) (hQ : ∀ h', CC G F l W b h' r E → ScrD h h' → Gn w F h' G 0 → Mb w G F h' 0 → Q none (mm h' j r E)) : WP (d + 1) 92 0 [some (vr 2), none, none, none, none] [] (mm h j r E) Q := by
  have hS := C.S
  have hG8 := C.G8
  have hF8 := C.F8
  have tw := two_le hF8
  obtain ⟨r7, r8, r9⟩ := mR9 hS (show G < 9 by omega)
  have hg9 : inb (nI G) 9 = True := eq_true (by rw [inb_n (by omega)]; omega)
  have sd : ScrD h (filH (89 + G) 0 0 256 h) := by
    refine ⟨fun a p q t => ?_, fun i _ => ⟨?_, ?_⟩, fun i _ _ _ => ?_⟩
    · funext x; rw [filH_v, if_neg (by omega)]
    · rw [filH_v, if_neg (by omega)]
    · rw [filH_v, if_neg (by omega)]
    · rw [filH_v, if_neg (by omega)]
  have C2 := C.frD sd
  simp only [k92_0, k92_1, k92_4, k92_5, k92_8, k92_11, k92_12, k92_13, k92_16, k92_17, k92_20, k92_23, k92_24, k92_25, k92_27, k92_30, k92_31, k92_33, k92_34, k92_35, k92_38, k92_41, k92_42, k92_45, k92_46, k92_49, k92_50, k92_51, k92_52, k92_53, k92_54, k92_55, k92_56, k92_57, k92_61, k92_62, k92_65, k92_68, k92_71, k92_72, k92_73, k92_74, k92_76, k92_77, k92_80, k92_83, k92_84, k92_87, k92_90, k92_91, k92_94, k92_95, k92_96, k92_97, k92_98, k92_99, k92_102, k92_105, k92_108, k92_111, mm_sI, mm_sJ, mm_sR, mm_cI, mm_cJ, mm_I, mm_J, mm_R, mm_K, mm_N, psh_s, psh_n, z_n, z_i, z_r, z_l, Nat.reduceAdd, Nat.reduceLeDiff, K2 hS, R2_0 hS, R2_1 hS, R2_2 hS, R2_6 hS, R2_8 hS, R2_11 hS, R2_12 hS, R2_13 hS, R2_15 hS, R2_16 hS, K3 hS, K11 hS, K19 hS, K27 hS, K32 hS, K37 hS, K98 hS, K99 hS, K100 hS, N37 hS, N98 hS, N99 hS, N100 hS, false_or, or_false, ne_eq, true_or, or_true, not_false_eq_true, Nat.reduceEqDiff, Nat.reduceLT, Nat.reduceLeDiff, Nat.reduceAdd, K88 hS, N88 hS, C.eG, hg9, ix_n (show G < 2 ^ 31 by omega), r7, s_fill r8 r9 (show 89 + G ≠ 1 by omega) (show 256 < 2 ^ 31 by decide)]
  simp only [C2.eG]
  refine c_mb1 (g := G) (Nat.le_refl _) C2 sd ?_ ?_ hQ
  · intro g' f' hf' hc
    rw [filH_v, if_neg (by omega)]; exact hG g' f' hf' hc
  · intro g' h1 h2 t ht
    have : g' = G := by omega
    subst this
    rw [filH_v, if_pos ⟨rfl, by omega, by omega⟩, Nat.sub_self]; rfl
theorem c_fbL {g t : Nat} {wg nx : Nat → Int32} {V : Int32} (hg : g < G) (ht : t < 2 ^ F) (C : CC G F l W b h r E) (e1 : ∀ f, f < F → h (80 + g) f = wg f) (e2 : ∀ t, t < 2 ^ F → h (89 + (g + 1)) t = nx t) (hV : h (89 + g) t = V) (hp : ∀ f, vlB wg t f = true → 0 < (dV wg nx t f).toInt) : ∀ {k f : Nat} {e : Option PV}, f + k = F → WP (d + 1) 95 2 [some (vr 2), some (vi (nI g)), some (vi (nI t)), some (vi (nI f)), e] [] (mm h j r E) Q = Q (some (vi (nI (fbN wg nx V t f k)))) (mm h j r E) := by
  have hS := C.S
  have hF8 := C.F8
  have hG8 := C.G8
  have tw := two_le hF8
  obtain ⟨r7, r8, r9⟩ := mR9 hS (show g < 9 by omega)
  have hg9 : inb (nI g) 9 = True := eq_true (by rw [inb_n (by omega)]; omega)
  have ht8 : inb (nI t) 256 = True := eq_true (by rw [inb_n (by omega)]; omega)
  intro k
  induction k with
  | zero =>
    intro f e hk
    have : f = F := by omega
    subst this
    rw [k95_2]
    simp only [k95_0, k95_1, k95_3, k95_4, k95_7, k95_10, k95_13, k95_14, k95_15, k95_16, k95_17, k95_20, k95_22, k95_24, k95_27, k95_29, k95_30, k95_33, k95_34, k95_35, k95_36, k95_37, k95_40, k95_41, k95_42, k95_45, k95_48, k95_50, mm_sI, mm_sJ, mm_sR, mm_cI, mm_cJ, mm_I, mm_J, mm_R, mm_K, mm_N, psh_s, psh_n, z_n, z_i, z_r, z_l, Nat.reduceAdd, Nat.reduceLeDiff, K2 hS, R2_0 hS, R2_1 hS, R2_2 hS, R2_6 hS, R2_8 hS, R2_11 hS, R2_12 hS, R2_13 hS, R2_15 hS, R2_16 hS, K3 hS, K11 hS, K19 hS, K27 hS, K32 hS, K37 hS, K98 hS, K99 hS, K100 hS, N37 hS, N98 hS, N99 hS, N100 hS, false_or, or_false, ne_eq, true_or, or_true, not_false_eq_true, Nat.reduceEqDiff, Nat.reduceLT, Nat.reduceLeDiff, Nat.reduceAdd, C.eF, Int32.le_refl, if_true]; rfl
  | succ k ih =>
    intro f e hk
    have hfF : f < F := by omega
    rw [k95_2]
    simp only [k95_0, k95_1, k95_3, k95_4, k95_7, k95_10, k95_13, k95_14, k95_15, k95_16, k95_17, k95_20, k95_22, k95_24, k95_27, k95_29, k95_30, k95_33, k95_34, k95_35, k95_36, k95_37, k95_40, k95_41, k95_42, k95_45, k95_48, k95_50, mm_sI, mm_sJ, mm_sR, mm_cI, mm_cJ, mm_I, mm_J, mm_R, mm_K, mm_N, psh_s, psh_n, z_n, z_i, z_r, z_l, Nat.reduceAdd, Nat.reduceLeDiff, K2 hS, R2_0 hS, R2_1 hS, R2_2 hS, R2_6 hS, R2_8 hS, R2_11 hS, R2_12 hS, R2_13 hS, R2_15 hS, R2_16 hS, K3 hS, K11 hS, K19 hS, K27 hS, K32 hS, K37 hS, K98 hS, K99 hS, K100 hS, N37 hS, N98 hS, N99 hS, N100 hS, false_or, or_false, ne_eq, true_or, or_true, not_false_eq_true, Nat.reduceEqDiff, Nat.reduceLT, Nat.reduceLeDiff, Nat.reduceAdd, C.eF, nLe (show F < 2 ^ 31 by omega) (show f < 2 ^ 31 by omega), show ¬ F ≤ f by omega, if_false, c_backBy1 C hg hfF ht (e1 f hfF) e2, K88 hS, N88 hS, hg9, ix_n (show g < 2 ^ 31 by omega), r7, r8, r9, g2, ht8, ix_n (show t < 2 ^ 31 by omega), hV, nS1]
    rw [fbN]
    by_cases c1 : vlB wg t f = true
    · have q : ¬ dV wg nx t f ≤ 0 := by rw [iLe, i0]; have := hp f c1; omega
      rw [if_neg q]
      by_cases c2 : dV wg nx t f = V
      · rw [if_pos c2, if_pos ⟨c1, c2⟩]
      · rw [if_neg c2, if_neg (fun hh => c2 hh.2)]; exact ih (by omega)
    · have q : dV wg nx t f = 0 := by unfold dV; rw [if_neg c1]
      rw [q, if_pos (Int32.le_refl 0), if_neg (fun hh => c1 hh.1)]; exact ih (by omega)
theorem nxT_lt {t f : Nat} (ht : t < 2 ^ F) (hf : f = 9 ∨ f < F) : nxT t f < 2 ^ F := by
  unfold nxT; split
  · exact ht
  · exact or_lt ht (by omega)
theorem c_fdL {girl : Nat} (hw : ∀ g f, (w g f).toInt ≤ 99) (hgG : girl < G) (C : CC G F l W b h r E) (hG : Gn w F h G 0) (hM : Mb w G F h 0) : ∀ {i g t : Nat} {e : Option PV}, g + i = girl → t < 2 ^ F → WP (d + 2) 94 8 [some (vr 2), some (vi (nI girl)), some (vi (nI t)), e, some (vi (nI g))] [] (mm h j r E) Q = Q (some (vi (nI (grF w F (G - g) g t i)))) (mm h j r E) := by
  have hS := C.S
  have hF8 := C.F8
  have hG8 := C.G8
  have tw := two_le hF8
  have e91 : (nI 9 = 9) = True := eq_true rfl
  have st : ∀ g t, g ≤ girl → t < 2 ^ F → ∀ {d : Nat} {Q : Option PV → Mem → Prop}, WP (d + 1) 95 0 [some (vr 2), some (vi (nI g)), some (vi (nI t)), none, none] [] (mm h j r E) Q = Q (some (vi (nI (grF w F (G - g) g t 0)))) (mm h j r E) := by
    intro g t hg ht d Q
    obtain ⟨n, hn⟩ : ∃ n, G - g = n + 1 := ⟨G - g - 1, by omega⟩
    have hb := fun t => @bD_i w F hw n (by omega) (g + 1) t
    simp only [k95_0, k95_1, k95_3, k95_4, k95_7, k95_10, k95_13, k95_14, k95_15, k95_16, k95_17, k95_20, k95_22, k95_24, k95_27, k95_29, k95_30, k95_33, k95_34, k95_35, k95_36, k95_37, k95_40, k95_41, k95_42, k95_45, k95_48, k95_50, mm_sI, mm_sJ, mm_sR, mm_cI, mm_cJ, mm_I, mm_J, mm_R, mm_K, mm_N, psh_s, psh_n, z_n, z_i, z_r, z_l, Nat.reduceAdd, Nat.reduceLeDiff, false_or, or_false, ne_eq, true_or, or_true, not_false_eq_true, Nat.reduceEqDiff, Nat.reduceLT, Nat.reduceLeDiff, Nat.reduceAdd]
    rw [show (0 : Int32) = nI 0 from rfl, c_fbL (wg := w g) (nx := bD w F n (g + 1)) (V := bD w F (n + 1) g t) (show g < G by omega) ht C (fun f hf => hG g f hf (Or.inl (by omega))) (fun t ht => by rw [hM (g + 1) (by omega) (by omega) t ht, show G - (g + 1) = n by omega]) (by rw [hM g (by omega) (by omega) t ht, hn]) (fun f hv => ((dV_i (show n ≤ 8 by omega) (hw g) hb).2.2 hv).2) (k := F) (f := 0) (by omega), hn]
    rfl
  intro i
  induction i with
  | zero =>
    intro g t e hk ht
    have : g = girl := by omega
    subst this
    have hr : grF w F (G - g) g t 0 < 2 ^ 31 := by
      obtain ⟨n, hn⟩ : ∃ n, G - g = n + 1 := ⟨G - g - 1, by omega⟩
      rw [hn]
      have := @fbN_r (w g) (bD w F n (g + 1)) (bD w F (n + 1) g t) t F 0
      show fbN _ _ _ _ _ _ < _
      omega
    rw [k94_8]
    simp only [k94_0, k94_1, k94_2, k94_4, k94_5, k94_6, k94_10, k94_11, k94_14, k94_15, k94_17, k94_18, k94_21, k94_22, k94_23, k94_25, k94_28, k94_29, k94_32, k94_33, k94_34, k94_35, k94_36, k94_37, k94_38, k94_41, k94_44, k94_45, mm_sI, mm_sJ, mm_sR, mm_cI, mm_cJ, mm_I, mm_J, mm_R, mm_K, mm_N, psh_s, psh_n, z_n, z_i, z_r, z_l, Nat.reduceAdd, Nat.reduceLeDiff, K2 hS, R2_0 hS, R2_1 hS, R2_2 hS, R2_6 hS, R2_8 hS, R2_11 hS, R2_12 hS, R2_13 hS, R2_15 hS, R2_16 hS, K3 hS, K11 hS, K19 hS, K27 hS, K32 hS, K37 hS, K98 hS, K99 hS, K100 hS, N37 hS, N98 hS, N99 hS, N100 hS, false_or, or_false, ne_eq, true_or, or_true, not_false_eq_true, Nat.reduceEqDiff, Nat.reduceLT, Nat.reduceLeDiff, Nat.reduceAdd, Int32.lt_irrefl, if_false, st g t (Nat.le_refl _) ht, nS1]
    rw [k94_8]
    have q : (nI g < nI (g + 1)) = True := by rw [nLt (by omega) (by omega)]; apply eq_true; omega
    split <;> first | (simp only [q, if_true]; done) | (rw [k94_8]; simp only [k94_0, k94_1, k94_2, k94_4, k94_5, k94_6, k94_10, k94_11, k94_14, k94_15, k94_17, k94_18, k94_21, k94_22, k94_23, k94_25, k94_28, k94_29, k94_32, k94_33, k94_34, k94_35, k94_36, k94_37, k94_38, k94_41, k94_44, k94_45, mm_sI, mm_sJ, mm_sR, mm_cI, mm_cJ, mm_I, mm_J, mm_R, mm_K, mm_N, psh_s, psh_n, z_n, z_i, z_r, z_l, Nat.reduceAdd, Nat.reduceLeDiff, K2 hS, R2_0 hS, R2_1 hS, R2_2 hS, R2_6 hS, R2_8 hS, R2_11 hS, R2_12 hS, R2_13 hS, R2_15 hS, R2_16 hS, K3 hS, K11 hS, K19 hS, K27 hS, K32 hS, K37 hS, K98 hS, K99 hS, K100 hS, N37 hS, N98 hS, N99 hS, N100 hS, false_or, or_false, ne_eq, true_or, or_true, not_false_eq_true, Nat.reduceEqDiff, Nat.reduceLT, Nat.reduceLeDiff, Nat.reduceAdd, nS1, q, if_true]; done) | (simp only [k94_0, k94_1, k94_2, k94_4, k94_5, k94_6, k94_10, k94_11, k94_14, k94_15, k94_17, k94_18, k94_21, k94_22, k94_23, k94_25, k94_28, k94_29, k94_32, k94_33, k94_34, k94_35, k94_36, k94_37, k94_38, k94_41, k94_44, k94_45, mm_sI, mm_sJ, mm_sR, mm_cI, mm_cJ, mm_I, mm_J, mm_R, mm_K, mm_N, psh_s, psh_n, z_n, z_i, z_r, z_l, Nat.reduceAdd, Nat.reduceLeDiff, K2 hS, R2_0 hS, R2_1 hS, R2_2 hS, R2_6 hS, R2_8 hS, R2_11 hS, R2_12 hS, R2_13 hS, R2_15 hS, R2_16 hS, K3 hS, K11 hS, K19 hS, K27 hS, K32 hS, K37 hS, K98 hS, K99 hS, K100 hS, N37 hS, N98 hS, N99 hS, N100 hS, false_or, or_false, ne_eq, true_or, or_true, not_false_eq_true, Nat.reduceEqDiff, Nat.reduceLT, Nat.reduceLeDiff, Nat.reduceAdd, nS1, q, if_true]; done)
  | succ i ih =>
    intro g t e hk ht
    have q : (nI girl < nI g) = False := by rw [nLt (by omega) (by omega)]; apply eq_false; omega
    obtain ⟨n, hn⟩ : ∃ n, G - g = n + 1 := ⟨G - g - 1, by omega⟩
    have fr := @fbN_r (w g) (bD w F n (g + 1)) (bD w F (n + 1) g t) t F 0
    have ef : grF w F (n + 1) g t 0 = fbN (w g) (bD w F n (g + 1)) (bD w F (n + 1) g t) t 0 F := rfl
    have es : grF w F (n + 1) g t (i + 1) = grF w F n (g + 1) (nxT t (fbN (w g) (bD w F n (g + 1)) (bD w F (n + 1) g t) t 0 F)) i := rfl
    have p9 : (nI (fbN (w g) (bD w F n (g + 1)) (bD w F (n + 1) g t) t 0 F) = 9) = (fbN (w g) (bD w F n (g + 1)) (bD w F (n + 1) g t) t 0 F = 9) := nEq (c := 9) (by omega) (by decide)
    rw [k94_8]
    simp only [k94_0, k94_1, k94_2, k94_4, k94_5, k94_6, k94_10, k94_11, k94_14, k94_15, k94_17, k94_18, k94_21, k94_22, k94_23, k94_25, k94_28, k94_29, k94_32, k94_33, k94_34, k94_35, k94_36, k94_37, k94_38, k94_41, k94_44, k94_45, mm_sI, mm_sJ, mm_sR, mm_cI, mm_cJ, mm_I, mm_J, mm_R, mm_K, mm_N, psh_s, psh_n, z_n, z_i, z_r, z_l, Nat.reduceAdd, Nat.reduceLeDiff, K2 hS, R2_0 hS, R2_1 hS, R2_2 hS, R2_6 hS, R2_8 hS, R2_11 hS, R2_12 hS, R2_13 hS, R2_15 hS, R2_16 hS, K3 hS, K11 hS, K19 hS, K27 hS, K32 hS, K37 hS, K98 hS, K99 hS, K100 hS, N37 hS, N98 hS, N99 hS, N100 hS, false_or, or_false, ne_eq, true_or, or_true, not_false_eq_true, Nat.reduceEqDiff, Nat.reduceLT, Nat.reduceLeDiff, Nat.reduceAdd, q, if_false, st g t (by omega) ht, hn, ef, es, p9, nS1]
    have hx := nxT_lt (F := F) (t := t) (f := fbN (w g) (bD w F n (g + 1)) (bD w F (n + 1) g t) t 0 F) ht (by omega)
    have ih' := @ih (g + 1) (nxT t (fbN (w g) (bD w F n (g + 1)) (bD w F (n + 1) g t) t 0 F)) (some (vi (nI (fbN (w g) (bD w F n (g + 1)) (bD w F (n + 1) g t) t 0 F)))) (by omega) hx
    rw [show G - (g + 1) = n by omega] at ih'
    rw [← ih']
    by_cases c : fbN (w g) (bD w F n (g + 1)) (bD w F (n + 1) g t) t 0 F = 9
    · rw [if_pos c]; unfold nxT; rw [if_pos c]
    · rw [if_neg c]
      have hf : fbN (w g) (bD w F n (g + 1)) (bD w F (n + 1) g t) t 0 F < 8 := by omega
      rw [or_n (show t < 256 by omega) hf]; unfold nxT; rw [if_neg c]
theorem c_dealt {x girl : Int32} (C : CC G F l W b h r E) (hQ : ∀ h', ScrD h h' → Q (some (vi (dealtA G F W b x girl))) (mm h' j r E)) : WP (d + 7) 90 0 [some (vr 2), some (vi x), some (vi girl)] [] (mm h j r E) Q := by
  have hS := C.S
  have hG8 := C.G8
  have hF8 := C.F8
  have hr := hQ h ScrD.rf
  unfold dealtA at hQ hr
  have main : (1 ≤ x ∧ x ≤ 99) → (girl = -1 ∨ inb girl G) → (∀ h', ScrD h h' → Q (some (vi (if girl = -1 then bD (dealW G F W b x) F G 0 0 else nI (grF (dealW G F W b x) F G 0 0 (ix girl))))) (mm h' j r E)) → WP (d + 7) 90 28 [some (vr 2), some (vi x), some (vi girl)] [] (mm h j r E) Q := by
    intro c1 c2 hQ
    have hw := dealW_i (W := W) (F := F) C.w (in_1_99 c1) hG8
    have tw := two_le hF8
    simp only [k90_0, k90_1, k90_2, k90_4, k90_7, k90_10, k90_11, k90_12, k90_15, k90_16, k90_19, k90_20, k90_23, k90_26, k90_27, k90_28, k90_29, k90_30, k90_33, k90_34, k90_37, k90_38, k90_39, k90_42, k90_43, k90_46, k90_47, k90_48, k90_49, k90_50, k90_53, k90_54, k90_55, k90_58, mm_sI, mm_sJ, mm_sR, mm_cI, mm_cJ, mm_I, mm_J, mm_R, mm_K, mm_N, psh_s, psh_n, z_n, z_i, z_r, z_l, Nat.reduceAdd, Nat.reduceLeDiff, K2 hS, R2_0 hS, R2_1 hS, R2_2 hS, R2_6 hS, R2_8 hS, R2_11 hS, R2_12 hS, R2_13 hS, R2_15 hS, R2_16 hS, K3 hS, K11 hS, K19 hS, K27 hS, K32 hS, K37 hS, K98 hS, K99 hS, K100 hS, N37 hS, N98 hS, N99 hS, N100 hS, false_or, or_false, ne_eq, true_or, or_true, not_false_eq_true, Nat.reduceEqDiff, Nat.reduceLT, Nat.reduceLeDiff, Nat.reduceAdd]
    refine c_thinkGains (in_1_99 c1) C ?_
    intro h1 C1 s1 hG
    simp only [k90_0, k90_1, k90_2, k90_4, k90_7, k90_10, k90_11, k90_12, k90_15, k90_16, k90_19, k90_20, k90_23, k90_26, k90_27, k90_28, k90_29, k90_30, k90_33, k90_34, k90_37, k90_38, k90_39, k90_42, k90_43, k90_46, k90_47, k90_48, k90_49, k90_50, k90_53, k90_54, k90_55, k90_58, mm_sI, mm_sJ, mm_sR, mm_cI, mm_cJ, mm_I, mm_J, mm_R, mm_K, mm_N, psh_s, psh_n, z_n, z_i, z_r, z_l, Nat.reduceAdd, Nat.reduceLeDiff, K2 hS, R2_0 hS, R2_1 hS, R2_2 hS, R2_6 hS, R2_8 hS, R2_11 hS, R2_12 hS, R2_13 hS, R2_15 hS, R2_16 hS, K3 hS, K11 hS, K19 hS, K27 hS, K32 hS, K37 hS, K98 hS, K99 hS, K100 hS, N37 hS, N98 hS, N99 hS, N100 hS, false_or, or_false, ne_eq, true_or, or_true, not_false_eq_true, Nat.reduceEqDiff, Nat.reduceLT, Nat.reduceLeDiff, Nat.reduceAdd]
    refine WP.deep (d := d + 1) ?_ (by omega)
    refine c_thinkMost C1 hG ?_
    intro h2 C2 s2 hG2 hM2
    by_cases c : girl = -1
    · obtain ⟨r7, r8, r9⟩ := mR9 hS (show 0 < 9 by omega)
      have hQ := hQ h2 (s1.tr s2)
      rw [if_pos c] at hQ
      have e0 := hM2 0 (Nat.le_refl _) (by omega) 0 (by omega)
      simp only [k90_0, k90_1, k90_2, k90_4, k90_7, k90_10, k90_11, k90_12, k90_15, k90_16, k90_19, k90_20, k90_23, k90_26, k90_27, k90_28, k90_29, k90_30, k90_33, k90_34, k90_37, k90_38, k90_39, k90_42, k90_43, k90_46, k90_47, k90_48, k90_49, k90_50, k90_53, k90_54, k90_55, k90_58, mm_sI, mm_sJ, mm_sR, mm_cI, mm_cJ, mm_I, mm_J, mm_R, mm_K, mm_N, psh_s, psh_n, z_n, z_i, z_r, z_l, Nat.reduceAdd, Nat.reduceLeDiff, K2 hS, R2_0 hS, R2_1 hS, R2_2 hS, R2_6 hS, R2_8 hS, R2_11 hS, R2_12 hS, R2_13 hS, R2_15 hS, R2_16 hS, K3 hS, K11 hS, K19 hS, K27 hS, K32 hS, K37 hS, K98 hS, K99 hS, K100 hS, N37 hS, N98 hS, N99 hS, N100 hS, inb_c0, ix_c0, inb_c1, ix_c1, inb_c2, ix_c2, inb_c3, ix_c3, inb_c4, ix_c4, inb_c5, ix_c5, inb_c6, ix_c6, inb_c7, ix_c7, inb_c8, ix_c8, inb_c32, ix_c32, false_or, or_false, ne_eq, true_or, or_true, not_false_eq_true, Nat.reduceEqDiff, Nat.reduceLT, Nat.reduceLeDiff, Nat.reduceAdd, c, if_true, K88 hS, N88 hS, r7, r8, r9, e0]
      exact hQ
    · have hQ := hQ h2 (s1.tr s2)
      rw [if_neg c] at hQ
      obtain ⟨g, hg, rfl, hg2⟩ := inb_of (c2.resolve_left c)
      rw [ix_n hg2] at hQ
      simp only [k90_0, k90_1, k90_2, k90_4, k90_7, k90_10, k90_11, k90_12, k90_15, k90_16, k90_19, k90_20, k90_23, k90_26, k90_27, k90_28, k90_29, k90_30, k90_33, k90_34, k90_37, k90_38, k90_39, k90_42, k90_43, k90_46, k90_47, k90_48, k90_49, k90_50, k90_53, k90_54, k90_55, k90_58, k94_0, k94_1, k94_2, k94_4, k94_5, k94_6, k94_10, k94_11, k94_14, k94_15, k94_17, k94_18, k94_21, k94_22, k94_23, k94_25, k94_28, k94_29, k94_32, k94_33, k94_34, k94_35, k94_36, k94_37, k94_38, k94_41, k94_44, k94_45, mm_sI, mm_sJ, mm_sR, mm_cI, mm_cJ, mm_I, mm_J, mm_R, mm_K, mm_N, psh_s, psh_n, z_n, z_i, z_r, z_l, Nat.reduceAdd, Nat.reduceLeDiff, K2 hS, R2_0 hS, R2_1 hS, R2_2 hS, R2_6 hS, R2_8 hS, R2_11 hS, R2_12 hS, R2_13 hS, R2_15 hS, R2_16 hS, K3 hS, K11 hS, K19 hS, K27 hS, K32 hS, K37 hS, K98 hS, K99 hS, K100 hS, N37 hS, N98 hS, N99 hS, N100 hS, false_or, or_false, ne_eq, true_or, or_true, not_false_eq_true, Nat.reduceEqDiff, Nat.reduceLT, Nat.reduceLeDiff, Nat.reduceAdd, c, if_false]
      refine WP.deep (d := 2) ?_ (by omega)
      rw [show (0 : Int32) = nI 0 from rfl, c_fdL hw hg C2 hG2 hM2 (i := g) (g := 0) (t := 0) (by omega) (by omega)]
      simp only [k90_0, k90_1, k90_2, k90_4, k90_7, k90_10, k90_11, k90_12, k90_15, k90_16, k90_19, k90_20, k90_23, k90_26, k90_27, k90_28, k90_29, k90_30, k90_33, k90_34, k90_37, k90_38, k90_39, k90_42, k90_43, k90_46, k90_47, k90_48, k90_49, k90_50, k90_53, k90_54, k90_55, k90_58, mm_sI, mm_sJ, mm_sR, mm_cI, mm_cJ, mm_I, mm_J, mm_R, mm_K, mm_N, psh_s, psh_n, z_n, z_i, z_r, z_l, Nat.reduceAdd, Nat.reduceLeDiff, false_or, or_false, ne_eq, true_or, or_true, not_false_eq_true, Nat.reduceEqDiff, Nat.reduceLT, Nat.reduceLeDiff, Nat.reduceAdd]
      exact hQ
  simp only [k90_0, k90_1, k90_2, k90_4, k90_7, k90_10, k90_11, k90_12, k90_15, k90_16, k90_19, k90_20, k90_23, k90_26, k90_27, k90_29, k90_30, k90_33, k90_34, k90_37, k90_38, k90_39, k90_42, k90_43, k90_46, k90_47, k90_48, k90_49, k90_50, k90_53, k90_54, k90_55, k90_58, mm_sI, mm_sJ, mm_sR, mm_cI, mm_cJ, mm_I, mm_J, mm_R, mm_K, mm_N, psh_s, psh_n, z_n, z_i, z_r, z_l, Nat.reduceAdd, Nat.reduceLeDiff, K2 hS, R2_0 hS, R2_1 hS, R2_2 hS, R2_6 hS, R2_8 hS, R2_11 hS, R2_12 hS, R2_13 hS, R2_15 hS, R2_16 hS, K3 hS, K11 hS, K19 hS, K27 hS, K32 hS, K37 hS, K98 hS, K99 hS, K100 hS, N37 hS, N98 hS, N99 hS, N100 hS, false_or, or_false, ne_eq, true_or, or_true, not_false_eq_true, Nat.reduceEqDiff, Nat.reduceLT, Nat.reduceLeDiff, Nat.reduceAdd, s_within, b2i_0]
  by_cases c1 : 1 ≤ x ∧ x ≤ 99
  case neg => simp only [eq_false c1, not_false_eq_true, if_true, false_and, if_false] at hr ⊢; exact hr
  simp only [eq_true c1, not_true_eq_false, if_false, true_and] at hQ hr ⊢
  by_cases c : girl = -1
  · simp only [c, true_or, if_true] at hQ ⊢
    have := main c1 (Or.inl c)
    simp only [c, if_true] at this
    exact this hQ
  · simp only [c, false_or, if_false] at hQ hr
    simp only [k90_0, k90_1, k90_2, k90_4, k90_7, k90_10, k90_11, k90_12, k90_15, k90_16, k90_19, k90_20, k90_23, k90_26, k90_27, k90_29, k90_30, k90_33, k90_34, k90_37, k90_38, k90_39, k90_42, k90_43, k90_46, k90_47, k90_48, k90_49, k90_50, k90_53, k90_54, k90_55, k90_58, mm_sI, mm_sJ, mm_sR, mm_cI, mm_cJ, mm_I, mm_J, mm_R, mm_K, mm_N, psh_s, psh_n, z_n, z_i, z_r, z_l, Nat.reduceAdd, Nat.reduceLeDiff, K2 hS, R2_0 hS, R2_1 hS, R2_2 hS, R2_6 hS, R2_8 hS, R2_11 hS, R2_12 hS, R2_13 hS, R2_15 hS, R2_16 hS, K3 hS, K11 hS, K19 hS, K27 hS, K32 hS, K37 hS, K98 hS, K99 hS, K100 hS, N37 hS, N98 hS, N99 hS, N100 hS, false_or, or_false, ne_eq, true_or, or_true, not_false_eq_true, Nat.reduceEqDiff, Nat.reduceLT, Nat.reduceLeDiff, Nat.reduceAdd, c, if_false, c_hasGirl C, b2i_0]
    by_cases c3 : inb girl G
    case neg => simp only [eq_false c3, not_false_eq_true, if_true, if_false] at hr ⊢; exact hr
    simp only [eq_true c3, not_true_eq_false, if_true, if_false] at hQ ⊢
    have := main c1 (Or.inr c3)
    simp only [c, if_false] at this
    exact this hQ
end DC
