/-! ===== the class's marsh: copies, sums, girls, frogs, numbers ===== -/
/-- the frogs that owe, as bits -/
def owL (b : BB) : Nat → Nat → Int32 → Int32
  | _, 0, a => a
  | f, k + 1, a => owL b (f + 1) k (a ||| (if b 4 f = -1 then 0 else (1 : Int32) <<< (nI f &&& 31)))
def owB (F : Nat) (b : BB) : Int32 := owL b 0 F 0
def hdL (b : BB) : Nat → Nat → Int32 → Int32
  | _, 0, a => a
  | f, k + 1, a => hdL b (f + 1) k (a + b 5 f)
def hdB (F : Nat) (b : BB) : Int32 := hdL b 0 F 0
/-- the girl nearest to one, other than her -/
def nrL (b : BB) (g : Nat) : Nat → Nat → Nat → Nat
  | _, 0, c => c
  | i, k + 1, c => nrL b g (i + 1) k (if i ≠ g ∧ (c = g ∨ farB (b 0 g) (b 0 i) < farB (b 0 g) (b 0 c)) then i else c)
def nrB (G : Nat) (b : BB) (g : Nat) : Nat := nrL b g 0 G g
def isN (G F : Nat) (n what : Int32) : Int32 := if inb what 2 then b2i (inb n G) else if inb what 6 then b2i (inb n F) else if inb what 8 then b2i (n = 0) else 0
def getB (b : BB) (n what : Int32) : Int32 := if inb what 6 then b (ix what) (ix n) else b 6 (ix what - 6)
def setB (b : BB) (n what v : Int32) : BB := if inb what 6 then up2 b (ix what) (ix n) v else up2 b 6 (ix what - 6) v
/-- what one cart does -/
def ctB (F : Nat) (b : BB) (z carts : Int32) : BB := if 0 < F ∧ (z.toUInt32 >>> (Int32.toUInt32 16 &&& Int32.toUInt32 31)).toInt32 % 100 < carts then
  up2 (up2 b 4 (ix ((z.toUInt32 >>> (Int32.toUInt32 8 &&& Int32.toUInt32 31)).toInt32 % nI F)) (-1)) 5 (ix ((z.toUInt32 >>> (Int32.toUInt32 8 &&& Int32.toUInt32 31)).toInt32 % nI F)) 0 else b
theorem isN_n {G F k : Nat} {n : Int32} (hk : k < 2 ^ 31) : isN G F n (nI k) = if k < 2 then b2i (inb n G) else if k < 6 then b2i (inb n F) else if k < 8 then b2i (n = 0) else 0 := by
  unfold isN; simp only [inb_n hk]
theorem sw {n : Nat} (x : Int32) : (x.toInt < 0 ∨ (n : Int) < x.toInt) ∨ ∃ k, k ≤ n ∧ x = nI k := by
  by_cases h : x.toInt < 0 ∨ (n : Int) < x.toInt
  · exact Or.inl h
  · refine Or.inr ⟨ix x, ?_, ?_⟩
    · have := @ixI x; omega
    · refine inb_nI (n := n + 1) ?_
      rw [inbI]; omega
section ME
variable {d : Nat} {M : Mem} {h : Hp} {j : Jp} {r : Rp} {E : EE} {Q : Option PV → Mem → Prop} {m l G F : Nat} {W : LW}
theorem s_copy {x : Nat} (H : Mar r E m) (H2 : Mar r E x) (hd : x + 7 < m ∨ m + 7 < x) (hG : h x 7 = nI G) (hF : h x 8 = nI F) (hG8 : G ≤ 8) (hF8 : F ≤ 8)
    (hQ : ∀ h', (∀ a, ¬ (m ≤ a ∧ a ≤ m + 7) → h' a = h a) → bC h' m G F = bC h x G F → h' m 7 = nI G → h' m 8 = nI F → (∀ i, i < 5 → h' (m + 7) i = h (x + 7) i) → Q none (mm h' j r E)) :
    WP (d + 1) 31 0 [some (vr m), some (vr x)] [] (mm h j r E) Q := by
  have hz : ∀ c, c ≤ 7 → ∀ e, e ≤ 7 → (x + c = m + e) = False := fun c hc e he => by apply eq_false; omega
  have hz0 : ∀ e, e ≤ 7 → (x = m + e) = False := fun e he => by apply eq_false; omega
  have hzm : (x = m) = False := by apply eq_false; omega
  have hzc : ∀ c, c ≤ 7 → (x + c = m) = False := fun c hc => by apply eq_false; omega
  have n8 : (8 : Int32) < 0 ↔ False := by decide
  simp only [k31_0, k31_1, k31_2, k31_5, k31_8, k31_9, k31_10, k31_13, k31_16, k31_17, k31_18, k31_21, k31_24, k31_25, k31_28, k31_29, k31_30, k31_33, k31_34, k31_36, k31_36l, k31_36b, k31_39, k31_40, k31_43, k31_44, k31_45, k31_48, k31_49, k31_51, k31_51l, k31_51b, k31_54, k31_55, k31_56, k31_59, mm_sI, mm_sJ, mm_sR, mm_cI, mm_cJ, mm_I, mm_J, mm_R, mm_K, mm_N, psh_s, psh_n, z_n, z_i, z_r, z_l, Nat.reduceAdd, Nat.reduceLeDiff, mk0 H, mr0 H, mr1 H, mr2 H, mr3 H, mr4 H, mr5 H, mr6 H, mk1 H, mk2 H, mk3 H, mk4 H, mk5 H, mk6 H, mk7 H, mn1 H, mn2 H, mn3 H, mn4 H, mn5 H, mn6 H, mn7 H, mne H, mne0 H, mk0 H2, mr0 H2, mr3 H2, mk1 H2, mk4 H2, mn1 H2, mn4 H2, mne H2, mne0 H2, ne_eq, true_or, or_true, not_false_eq_true, Nat.reduceEqDiff, Nat.reduceLT, Nat.reduceLeDiff, Nat.reduceAdd, ix_c0, ix_c8, cpy_00, n8, Int32.lt_irrefl, not_false_eq_true, true_and, and_true, Nat.zero_add, Nat.le_refl, if_false, up2_s, up2_ai, up2_i, up2_a, mz1, my1, mz2, my2, mz3, my3, mz4, my4, mz5, my5, mz6, my6, mz7, my7, mz8, my8, mz9, my9, mz10, my10, mz11, my11, Nat.add_left_cancel_iff, hz, hz0, hzm, hzc]
  refine (s_layBack H H2 hd (G2 := G) (F2 := F) ?_ ?_ hG8 hF8).mpr ?_
  · simp only [cpy_00, up2, hz, hz0, hzm, hzc, ne_eq, true_or, or_true, not_false_eq_true, Nat.reduceEqDiff, Nat.reduceLT, Nat.reduceLeDiff, Nat.reduceAdd, if_false]; exact hG
  · simp only [cpy_00, up2, hz, hz0, hzm, hzc, ne_eq, true_or, or_true, not_false_eq_true, Nat.reduceEqDiff, Nat.reduceLT, Nat.reduceLeDiff, Nat.reduceAdd, if_false]; exact hF
  simp only [k31_0, k31_1, k31_2, k31_5, k31_8, k31_9, k31_10, k31_13, k31_16, k31_17, k31_18, k31_21, k31_24, k31_25, k31_28, k31_29, k31_30, k31_33, k31_34, k31_36, k31_36l, k31_36b, k31_39, k31_40, k31_43, k31_44, k31_45, k31_48, k31_49, k31_51, k31_51l, k31_51b, k31_54, k31_55, k31_56, k31_59, mm_sI, mm_sJ, mm_sR, mm_cI, mm_cJ, mm_I, mm_J, mm_R, mm_K, mm_N, psh_s, psh_n, z_n, z_i, z_r, z_l, Nat.reduceAdd, Nat.reduceLeDiff]
  refine hQ _ ?_ ?_ ?_ ?_ ?_
  · intro a ha
    have q : ∀ c, c ≤ 7 → (a = m + c) = False := fun c hc => by apply eq_false; omega
    have q0 : (a = m) = False := by apply eq_false; omega
    funext i
    simp only [layH, cpy_00, up2, q, q0, ne_eq, true_or, or_true, not_false_eq_true, Nat.reduceEqDiff, Nat.reduceLT, Nat.reduceLeDiff, Nat.reduceAdd, if_false]
  · refine bC_eq ?_ ?_ ?_
    · intro k hk i hi
      have h8 := cut8 (k := k) hG8 hF8
      have h8' : i < 8 := by omega
      match k, hk with
      | 0, _ => simp only [layH, cpy_00, up2, hz, hz0, hzm, hzc, h8', mz1, my1, mz2, my2, mz3, my3, mz4, my4, mz5, my5, mz6, my6, mz7, my7, mz8, my8, mz9, my9, mz10, my10, mz11, my11, Nat.add_left_cancel_iff, ne_eq, true_or, or_true, not_false_eq_true, Nat.reduceEqDiff, Nat.reduceLT, Nat.reduceLeDiff, Nat.reduceAdd, if_false, if_true]
      | 1, _ => have hi : i < G := hi
                simp only [layH, cpy_00, up2, hz, hz0, hzm, hzc, hi, mz1, my1, mz2, my2, mz3, my3, mz4, my4, mz5, my5, mz6, my6, mz7, my7, mz8, my8, mz9, my9, mz10, my10, mz11, my11, Nat.add_left_cancel_iff, ne_eq, true_or, or_true, not_false_eq_true, Nat.reduceEqDiff, Nat.reduceLT, Nat.reduceLeDiff, Nat.reduceAdd, if_false, if_true]
      | 2, _ => have hi : i < F := hi
                simp only [layH, cpy_00, up2, hz, hz0, hzm, hzc, hi, mz1, my1, mz2, my2, mz3, my3, mz4, my4, mz5, my5, mz6, my6, mz7, my7, mz8, my8, mz9, my9, mz10, my10, mz11, my11, Nat.add_left_cancel_iff, ne_eq, true_or, or_true, not_false_eq_true, Nat.reduceEqDiff, Nat.reduceLT, Nat.reduceLeDiff, Nat.reduceAdd, if_false, if_true]
      | 3, _ => simp only [layH, cpy_00, up2, hz, hz0, hzm, hzc, h8', mz1, my1, mz2, my2, mz3, my3, mz4, my4, mz5, my5, mz6, my6, mz7, my7, mz8, my8, mz9, my9, mz10, my10, mz11, my11, Nat.add_left_cancel_iff, ne_eq, true_or, or_true, not_false_eq_true, Nat.reduceEqDiff, Nat.reduceLT, Nat.reduceLeDiff, Nat.reduceAdd, if_false, if_true]
      | 4, _ => have hi : i < F := hi
                simp only [layH, cpy_00, up2, hz, hz0, hzm, hzc, hi, mz1, my1, mz2, my2, mz3, my3, mz4, my4, mz5, my5, mz6, my6, mz7, my7, mz8, my8, mz9, my9, mz10, my10, mz11, my11, Nat.add_left_cancel_iff, ne_eq, true_or, or_true, not_false_eq_true, Nat.reduceEqDiff, Nat.reduceLT, Nat.reduceLeDiff, Nat.reduceAdd, if_false, if_true]
      | 5, _ => have hi : i < F := hi
                simp only [layH, cpy_00, up2, hz, hz0, hzm, hzc, hi, mz1, my1, mz2, my2, mz3, my3, mz4, my4, mz5, my5, mz6, my6, mz7, my7, mz8, my8, mz9, my9, mz10, my10, mz11, my11, Nat.add_left_cancel_iff, ne_eq, true_or, or_true, not_false_eq_true, Nat.reduceEqDiff, Nat.reduceLT, Nat.reduceLeDiff, Nat.reduceAdd, if_false, if_true]
      | k + 6, hk => omega
    · simp only [layH, cpy_00, up2, hz, hz0, hzm, hzc, mz1, my1, mz2, my2, mz3, my3, mz4, my4, mz5, my5, mz6, my6, mz7, my7, mz8, my8, mz9, my9, mz10, my10, mz11, my11, Nat.add_left_cancel_iff, ne_eq, true_or, or_true, not_false_eq_true, Nat.reduceEqDiff, Nat.reduceLT, Nat.reduceLeDiff, Nat.reduceAdd, if_false, if_true]
    · simp only [layH, cpy_00, up2, hz, hz0, hzm, hzc, mz1, my1, mz2, my2, mz3, my3, mz4, my4, mz5, my5, mz6, my6, mz7, my7, mz8, my8, mz9, my9, mz10, my10, mz11, my11, Nat.add_left_cancel_iff, ne_eq, true_or, or_true, not_false_eq_true, Nat.reduceEqDiff, Nat.reduceLT, Nat.reduceLeDiff, Nat.reduceAdd, if_false, if_true]
  · simp only [layH, cpy_00, up2, hz, hz0, hzm, hzc, mz1, my1, mz2, my2, mz3, my3, mz4, my4, mz5, my5, mz6, my6, mz7, my7, mz8, my8, mz9, my9, mz10, my10, mz11, my11, Nat.add_left_cancel_iff, ne_eq, true_or, or_true, not_false_eq_true, Nat.reduceEqDiff, Nat.reduceLT, Nat.reduceLeDiff, Nat.reduceAdd, if_false, if_true]; exact hG
  · simp only [layH, cpy_00, up2, hz, hz0, hzm, hzc, mz1, my1, mz2, my2, mz3, my3, mz4, my4, mz5, my5, mz6, my6, mz7, my7, mz8, my8, mz9, my9, mz10, my10, mz11, my11, Nat.add_left_cancel_iff, ne_eq, true_or, or_true, not_false_eq_true, Nat.reduceEqDiff, Nat.reduceLT, Nat.reduceLeDiff, Nat.reduceAdd, if_false, if_true]; exact hF
  · intro i hi
    simp only [layH, cpy_00, up2, hz, hz0, hzm, hzc, hi, mz1, my1, mz2, my2, mz3, my3, mz4, my4, mz5, my5, mz6, my6, mz7, my7, mz8, my8, mz9, my9, mz10, my10, mz11, my11, Nat.add_left_cancel_iff, ne_eq, true_or, or_true, not_false_eq_true, Nat.reduceEqDiff, Nat.reduceLT, Nat.reduceLeDiff, Nat.reduceAdd, if_false, if_true]
theorem s_owingL (H : Mar r E m) (hG8 : G ≤ 8) (hF8 : F ≤ 8) (hG : h m 7 = nI G) (hF : h m 8 = nI F) (hw : WF G F (bC h m G F)) : ∀ {k f : Nat} {a : Int32}, f + k = F →
    WP (d + 2) 35 4 [some (vr m), some (vi a), some (vi (nI f))] [] (mm h j r E) Q = Q (some (vi (owL (bC h m G F) f k a))) (mm h j r E) := by
  intro k
  induction k with
  | zero =>
    intro f a hk
    have : f = F := by omega
    subst this
    rw [k35_4]
    simp only [k35_0, k35_1, k35_2, k35_3, k35_5, k35_6, k35_9, k35_12, k35_13, k35_14, k35_15, k35_18, k35_19, k35_20, k35_23, k35_26, k35_27, k35_28, k35_29, k35_32, k35_33, k35_34, k35_35, k35_38, k35_41, k35_42, mm_sI, mm_sJ, mm_sR, mm_cI, mm_cJ, mm_I, mm_J, mm_R, mm_K, mm_N, psh_s, psh_n, z_n, z_i, z_r, z_l, Nat.reduceAdd, Nat.reduceLeDiff, mk0 H, mr0 H, mr1 H, mr2 H, mr3 H, mr4 H, mr5 H, mr6 H, mk1 H, mk2 H, mk3 H, mk4 H, mk5 H, mk6 H, mk7 H, mn1 H, mn2 H, mn3 H, mn4 H, mn5 H, mn6 H, mn7 H, mne H, mne0 H, ne_eq, true_or, or_true, not_false_eq_true, Nat.reduceEqDiff, Nat.reduceLT, Nat.reduceLeDiff, Nat.reduceAdd, hF, Int32.le_refl, if_true, owL]
  | succ k ih =>
    intro f a hk
    have hfF : f < F := by omega
    have hf' : inb (nI f) 8 = True := eq_true (by rw [inb_n (by omega)]; omega)
    have hx : ix (nI f) = f := ix_n (by omega)
    have e4 : bC h m G F 4 f = h (m + 5) f := bC4 hfF
    rw [k35_4]
    simp only [k35_0, k35_1, k35_2, k35_3, k35_5, k35_6, k35_9, k35_12, k35_13, k35_14, k35_15, k35_18, k35_19, k35_20, k35_23, k35_26, k35_27, k35_28, k35_29, k35_32, k35_33, k35_34, k35_35, k35_38, k35_41, k35_42, mm_sI, mm_sJ, mm_sR, mm_cI, mm_cJ, mm_I, mm_J, mm_R, mm_K, mm_N, psh_s, psh_n, z_n, z_i, z_r, z_l, Nat.reduceAdd, Nat.reduceLeDiff, mk0 H, mr0 H, mr1 H, mr2 H, mr3 H, mr4 H, mr5 H, mr6 H, mk1 H, mk2 H, mk3 H, mk4 H, mk5 H, mk6 H, mk7 H, mn1 H, mn2 H, mn3 H, mn4 H, mn5 H, mn6 H, mn7 H, mne H, mne0 H, ne_eq, true_or, or_true, not_false_eq_true, Nat.reduceEqDiff, Nat.reduceLT, Nat.reduceLeDiff, Nat.reduceAdd, hF, nLe (show F < 2 ^ 31 by omega) (show f < 2 ^ 31 by omega), show ¬ F ≤ f by omega, if_false, hf', hx, s_hasGirl H hG hG8, b2i_0]
    rw [owL, e4]
    rcases hw.a4 hfF with h4 | h4
    · rw [e4] at h4
      have hn : ¬ inb (h (m + 5) f) G := by rw [h4]; intro hh; exact hh.1 (by decide)
      simp only [eq_false hn, not_false_eq_true, if_true, h4, nS1]
      exact ih (by omega)
    · rw [e4] at h4
      have hne : h (m + 5) f ≠ -1 := by intro hh; rw [hh] at h4; exact h4.1 (by decide)
      simp only [eq_true h4, not_true_eq_false, if_false, hne, nS1]
      exact ih (by omega)
theorem s_owing (H : Mar r E m) (hG8 : G ≤ 8) (hF8 : F ≤ 8) (hG : h m 7 = nI G) (hF : h m 8 = nI F) (hw : WF G F (bC h m G F)) :
    WP (d + 2) 35 0 [some (vr m), none, none] [] (mm h j r E) Q = Q (some (vi (owB F (bC h m G F)))) (mm h j r E) := by
  simp only [k35_0, k35_1, k35_2, k35_3, k35_5, k35_6, k35_9, k35_12, k35_13, k35_14, k35_15, k35_18, k35_19, k35_20, k35_23, k35_26, k35_27, k35_28, k35_29, k35_32, k35_33, k35_34, k35_35, k35_38, k35_41, k35_42, ne_eq, true_or, or_true, not_false_eq_true, Nat.reduceEqDiff, Nat.reduceLT, Nat.reduceLeDiff, Nat.reduceAdd]
  exact s_owingL H hG8 hF8 hG hF hw (f := 0) (by omega)
theorem s_heldL (H : Mar r E m) (hF8 : F ≤ 8) (hF : h m 8 = nI F) : ∀ {k f : Nat} {a : Int32}, f + k = F →
    WP d 36 4 [some (vr m), some (vi a), some (vi (nI f))] [] (mm h j r E) Q = Q (some (vi (hdL (bC h m G F) f k a))) (mm h j r E) := by
  intro k
  induction k with
  | zero =>
    intro f a hk
    have : f = F := by omega
    subst this
    rw [k36_4]
    simp only [k36_0, k36_1, k36_2, k36_3, k36_5, k36_6, k36_9, k36_12, k36_13, k36_14, k36_17, k36_18, k36_19, k36_20, k36_21, k36_24, k36_27, k36_28, mm_sI, mm_sJ, mm_sR, mm_cI, mm_cJ, mm_I, mm_J, mm_R, mm_K, mm_N, psh_s, psh_n, z_n, z_i, z_r, z_l, Nat.reduceAdd, Nat.reduceLeDiff, mk0 H, mr0 H, mr1 H, mr2 H, mr3 H, mr4 H, mr5 H, mr6 H, mk1 H, mk2 H, mk3 H, mk4 H, mk5 H, mk6 H, mk7 H, mn1 H, mn2 H, mn3 H, mn4 H, mn5 H, mn6 H, mn7 H, mne H, mne0 H, ne_eq, true_or, or_true, not_false_eq_true, Nat.reduceEqDiff, Nat.reduceLT, Nat.reduceLeDiff, Nat.reduceAdd, hF, Int32.le_refl, if_true, hdL]
  | succ k ih =>
    intro f a hk
    have hfF : f < F := by omega
    have hf' : inb (nI f) 8 = True := eq_true (by rw [inb_n (by omega)]; omega)
    have hx : ix (nI f) = f := ix_n (by omega)
    have e5 : bC h m G F 5 f = h (m + 6) f := bC5 hfF
    rw [k36_4]
    simp only [k36_0, k36_1, k36_2, k36_3, k36_5, k36_6, k36_9, k36_12, k36_13, k36_14, k36_17, k36_18, k36_19, k36_20, k36_21, k36_24, k36_27, k36_28, mm_sI, mm_sJ, mm_sR, mm_cI, mm_cJ, mm_I, mm_J, mm_R, mm_K, mm_N, psh_s, psh_n, z_n, z_i, z_r, z_l, Nat.reduceAdd, Nat.reduceLeDiff, mk0 H, mr0 H, mr1 H, mr2 H, mr3 H, mr4 H, mr5 H, mr6 H, mk1 H, mk2 H, mk3 H, mk4 H, mk5 H, mk6 H, mk7 H, mn1 H, mn2 H, mn3 H, mn4 H, mn5 H, mn6 H, mn7 H, mne H, mne0 H, ne_eq, true_or, or_true, not_false_eq_true, Nat.reduceEqDiff, Nat.reduceLT, Nat.reduceLeDiff, Nat.reduceAdd, hF, nLe (show F < 2 ^ 31 by omega) (show f < 2 ^ 31 by omega), show ¬ F ≤ f by omega, if_false, hf', hx, nS1]
    rw [hdL, e5]
    exact ih (by omega)
theorem s_heldByAll (H : Mar r E m) (hF8 : F ≤ 8) (hF : h m 8 = nI F) :
    WP d 36 0 [some (vr m), none, none] [] (mm h j r E) Q = Q (some (vi (hdB F (bC h m G F)))) (mm h j r E) := by
  simp only [k36_0, k36_1, k36_2, k36_3, k36_5, k36_6, k36_9, k36_12, k36_13, k36_14, k36_17, k36_18, k36_19, k36_20, k36_21, k36_24, k36_27, k36_28, ne_eq, true_or, or_true, not_false_eq_true, Nat.reduceEqDiff, Nat.reduceLT, Nat.reduceLeDiff, Nat.reduceAdd]
  exact s_heldL H hF8 hF (f := 0) (by omega)
theorem s_nearL (H : Mar r E m) (hG8 : G ≤ 8) (hG : h m 7 = nI G) {g : Nat} (hg : g < G) : ∀ {k i c : Nat} {e : Option PV}, i + k = G → c < G →
    WP (d + 1) 34 4 [some (vr m), some (vi (nI g)), some (vi (nI c)), some (vi (nI i)), e] [] (mm h j r E) Q = Q (some (vi (nI (nrL (bC h m G F) g i k c)))) (mm h j r E) := by
  intro k
  induction k with
  | zero =>
    intro i c e hk hc
    have : i = G := by omega
    subst this
    rw [k34_4]
    simp only [k34_0, k34_1, k34_2, k34_3, k34_5, k34_6, k34_9, k34_12, k34_13, k34_14, k34_17, k34_18, k34_21, k34_22, k34_23, k34_24, k34_27, k34_28, k34_29, k34_32, k34_33, k34_36, k34_37, k34_38, k34_39, k34_42, k34_43, k34_44, k34_47, k34_50, k34_51, k34_54, k34_55, k34_57, k34_58, k34_59, k34_62, k34_64, k34_67, k34_68, k34_69, k34_72, k34_75, k34_76, mm_sI, mm_sJ, mm_sR, mm_cI, mm_cJ, mm_I, mm_J, mm_R, mm_K, mm_N, psh_s, psh_n, z_n, z_i, z_r, z_l, Nat.reduceAdd, Nat.reduceLeDiff, mk0 H, mr0 H, mr1 H, mr2 H, mr3 H, mr4 H, mr5 H, mr6 H, mk1 H, mk2 H, mk3 H, mk4 H, mk5 H, mk6 H, mk7 H, mn1 H, mn2 H, mn3 H, mn4 H, mn5 H, mn6 H, mn7 H, mne H, mne0 H, ne_eq, true_or, or_true, not_false_eq_true, Nat.reduceEqDiff, Nat.reduceLT, Nat.reduceLeDiff, Nat.reduceAdd, hG, Int32.le_refl, if_true, nrL]
  | succ k ih =>
    intro i c e hk hc
    have hiG : i < G := by omega
    have hb : ∀ n, n < G → inb (nI n) 8 = True := fun n hn => eq_true (by rw [inb_n (by omega)]; omega)
    have hi := hb i hiG
    have hc' := hb c hc
    have hg' := hb g hg
    have xi : ix (nI i) = i := ix_n (by omega)
    have xc : ix (nI c) = c := ix_n (by omega)
    have xg : ix (nI g) = g := ix_n (by omega)
    have ei : bC h m G F 0 i = h (m + 1) i := bC0 hiG
    have ec : bC h m G F 0 c = h (m + 1) c := bC0 hc
    have eg : bC h m G F 0 g = h (m + 1) g := bC0 hg
    have n1 : (nI c = nI g) = (c = g) := nEq (by omega) (by omega)
    have n2 : (nI i = nI g) = (i = g) := nEq (by omega) (by omega)
    rw [k34_4]
    simp only [k34_0, k34_1, k34_2, k34_3, k34_5, k34_6, k34_9, k34_12, k34_13, k34_14, k34_17, k34_18, k34_21, k34_22, k34_23, k34_24, k34_27, k34_28, k34_29, k34_32, k34_33, k34_36, k34_37, k34_38, k34_39, k34_42, k34_43, k34_44, k34_47, k34_50, k34_51, k34_54, k34_55, k34_57, k34_58, k34_59, k34_62, k34_64, k34_67, k34_68, k34_69, k34_72, k34_75, k34_76, mm_sI, mm_sJ, mm_sR, mm_cI, mm_cJ, mm_I, mm_J, mm_R, mm_K, mm_N, psh_s, psh_n, z_n, z_i, z_r, z_l, Nat.reduceAdd, Nat.reduceLeDiff, mk0 H, mr0 H, mr1 H, mr2 H, mr3 H, mr4 H, mr5 H, mr6 H, mk1 H, mk2 H, mk3 H, mk4 H, mk5 H, mk6 H, mk7 H, mn1 H, mn2 H, mn3 H, mn4 H, mn5 H, mn6 H, mn7 H, mne H, mne0 H, ne_eq, true_or, or_true, not_false_eq_true, Nat.reduceEqDiff, Nat.reduceLT, Nat.reduceLeDiff, Nat.reduceAdd, hG, nLe (show G < 2 ^ 31 by omega) (show i < 2 ^ 31 by omega), show ¬ G ≤ i by omega, if_false, hi, hc', hg', xi, xc, xg, s_far, n1, n2]
    rw [nrL, ei, ec, eg]
    by_cases h1 : i = g
    · subst h1
      simp only [if_true, ne_eq, not_true_eq_false, false_and, if_false]
      by_cases h2 : c = i
      · simp only [h2, if_true, nS1]; exact ih (by omega) (by omega)
      · simp only [h2, if_false]
        split <;> (simp only [nS1]; exact ih (by omega) hc)
    · simp only [h1, if_false, ne_eq, not_false_eq_true, true_and]
      by_cases h2 : c = g
      · simp only [h2, if_true, true_or, nS1, e10, if_false]; exact ih (by omega) hiG
      · by_cases h3 : farB (h (m + 1) g) (h (m + 1) i) < farB (h (m + 1) g) (h (m + 1) c)
        · have h3' := Int32.not_le.2 h3
          simp only [h2, h3, h3', if_false, or_true, if_true, nS1, e10]; exact ih (by omega) hiG
        · have h3' := Int32.not_lt.1 h3
          simp only [h2, h3, h3', if_false, or_false, if_true, nS1]; exact ih (by omega) hc
theorem s_nearestTo (H : Mar r E m) (hG8 : G ≤ 8) (hG : h m 7 = nI G) {g : Nat} (hg : g < G) :
    WP (d + 1) 34 0 [some (vr m), some (vi (nI g)), none, none, none] [] (mm h j r E) Q = Q (some (vi (nI (nrB G (bC h m G F) g)))) (mm h j r E) := by
  simp only [k34_0, k34_1, k34_2, k34_3, k34_5, k34_6, k34_9, k34_12, k34_13, k34_14, k34_17, k34_18, k34_21, k34_22, k34_23, k34_24, k34_27, k34_28, k34_29, k34_32, k34_33, k34_36, k34_37, k34_38, k34_39, k34_42, k34_43, k34_44, k34_47, k34_50, k34_51, k34_54, k34_55, k34_57, k34_58, k34_59, k34_62, k34_64, k34_67, k34_68, k34_69, k34_72, k34_75, k34_76, ne_eq, true_or, or_true, not_false_eq_true, Nat.reduceEqDiff, Nat.reduceLT, Nat.reduceLeDiff, Nat.reduceAdd]
  exact s_nearL H hG8 hG hg (i := 0) (by omega) hg
theorem s_hasNumber {n what : Int32} (H : Mar r E m) (hG8 : G ≤ 8) (hF8 : F ≤ 8) (hG : h m 7 = nI G) (hF : h m 8 = nI F) :
    WP (d + 2) 28 0 [some (vr m), some (vi n), some (vi what)] [] (mm h j r E) Q = Q (some (vi (isN G F n what))) (mm h j r E) := by
  have u01 : ∀ (p q : Prop) [Decidable p] [Decidable q], (if p then b2i q else (0 : Int32)) = b2i (p ∧ q) := fun p q _ _ => by by_cases hp : p <;> by_cases hq : q <;> simp [b2i, hp, hq]
  rcases sw (n := 7) what with hs | ⟨k, hk, rfl⟩
  · have h2 : ∀ c, c ≤ 8 → ¬ inb what c := fun c hc hh => by have := inb_i hh; omega
    simp only [k28_0, k28_1c0, k28_1c1, k28_1c2, k28_1c3, k28_1c4, k28_1c5, k28_1c6, k28_1c7, k28_1, k28_48, k28_49, k28_50, k28_53, k28_54, k28_55, k28_56, k28_59, k28_60, k28_61, k28_64, k28_65, k28_68, k28_69, k28_70, k28_71, mm_sI, mm_sJ, mm_sR, mm_cI, mm_cJ, mm_I, mm_J, mm_R, mm_K, mm_N, psh_s, psh_n, z_n, z_i, z_r, z_l, Nat.reduceAdd, Nat.reduceLeDiff, k28_1 hs, ne_eq, true_or, or_true, not_false_eq_true, Nat.reduceEqDiff, Nat.reduceLT, Nat.reduceLeDiff, Nat.reduceAdd, or_true, true_or]
    rw [isN, if_neg (h2 2 (by decide)), if_neg (h2 6 (by decide)), if_neg (h2 8 (by decide))]
  · rw [isN_n (by omega)]
    match k, hk with
    | 0, _ => simp only [k28_0, k28_1c0, k28_1c1, k28_1c2, k28_1c3, k28_1c4, k28_1c5, k28_1c6, k28_1c7, k28_1, k28_48, k28_49, k28_50, k28_53, k28_54, k28_55, k28_56, k28_59, k28_60, k28_61, k28_64, k28_65, k28_68, k28_69, k28_70, k28_71, mm_sI, mm_sJ, mm_sR, mm_cI, mm_cJ, mm_I, mm_J, mm_R, mm_K, mm_N, psh_s, psh_n, z_n, z_i, z_r, z_l, Nat.reduceAdd, Nat.reduceLeDiff, mk0 H, nn0, s_hasGirl H hG hG8, ne_eq, true_or, or_true, not_false_eq_true, Nat.reduceEqDiff, Nat.reduceLT, Nat.reduceLeDiff, Nat.reduceAdd, b2i_01, if_true]
    | 1, _ => simp only [k28_0, k28_1c0, k28_1c1, k28_1c2, k28_1c3, k28_1c4, k28_1c5, k28_1c6, k28_1c7, k28_1, k28_48, k28_49, k28_50, k28_53, k28_54, k28_55, k28_56, k28_59, k28_60, k28_61, k28_64, k28_65, k28_68, k28_69, k28_70, k28_71, mm_sI, mm_sJ, mm_sR, mm_cI, mm_cJ, mm_I, mm_J, mm_R, mm_K, mm_N, psh_s, psh_n, z_n, z_i, z_r, z_l, Nat.reduceAdd, Nat.reduceLeDiff, mk0 H, nn1, s_hasGirl H hG hG8, ne_eq, true_or, or_true, not_false_eq_true, Nat.reduceEqDiff, Nat.reduceLT, Nat.reduceLeDiff, Nat.reduceAdd, b2i_01, if_true]
    | 2, _ => simp only [k28_0, k28_1c0, k28_1c1, k28_1c2, k28_1c3, k28_1c4, k28_1c5, k28_1c6, k28_1c7, k28_1, k28_48, k28_49, k28_50, k28_53, k28_54, k28_55, k28_56, k28_59, k28_60, k28_61, k28_64, k28_65, k28_68, k28_69, k28_70, k28_71, mm_sI, mm_sJ, mm_sR, mm_cI, mm_cJ, mm_I, mm_J, mm_R, mm_K, mm_N, psh_s, psh_n, z_n, z_i, z_r, z_l, Nat.reduceAdd, Nat.reduceLeDiff, mk0 H, nn2, s_hasFrog H hF hF8, ne_eq, true_or, or_true, not_false_eq_true, Nat.reduceEqDiff, Nat.reduceLT, Nat.reduceLeDiff, Nat.reduceAdd, b2i_01, if_true]; simp
    | 3, _ => simp only [k28_0, k28_1c0, k28_1c1, k28_1c2, k28_1c3, k28_1c4, k28_1c5, k28_1c6, k28_1c7, k28_1, k28_48, k28_49, k28_50, k28_53, k28_54, k28_55, k28_56, k28_59, k28_60, k28_61, k28_64, k28_65, k28_68, k28_69, k28_70, k28_71, mm_sI, mm_sJ, mm_sR, mm_cI, mm_cJ, mm_I, mm_J, mm_R, mm_K, mm_N, psh_s, psh_n, z_n, z_i, z_r, z_l, Nat.reduceAdd, Nat.reduceLeDiff, mk0 H, nn3, s_hasFrog H hF hF8, ne_eq, true_or, or_true, not_false_eq_true, Nat.reduceEqDiff, Nat.reduceLT, Nat.reduceLeDiff, Nat.reduceAdd, b2i_01, if_true]; simp
    | 4, _ => simp only [k28_0, k28_1c0, k28_1c1, k28_1c2, k28_1c3, k28_1c4, k28_1c5, k28_1c6, k28_1c7, k28_1, k28_48, k28_49, k28_50, k28_53, k28_54, k28_55, k28_56, k28_59, k28_60, k28_61, k28_64, k28_65, k28_68, k28_69, k28_70, k28_71, mm_sI, mm_sJ, mm_sR, mm_cI, mm_cJ, mm_I, mm_J, mm_R, mm_K, mm_N, psh_s, psh_n, z_n, z_i, z_r, z_l, Nat.reduceAdd, Nat.reduceLeDiff, mk0 H, nn4, s_hasFrog H hF hF8, ne_eq, true_or, or_true, not_false_eq_true, Nat.reduceEqDiff, Nat.reduceLT, Nat.reduceLeDiff, Nat.reduceAdd, b2i_01, if_true]; simp
    | 5, _ => simp only [k28_0, k28_1c0, k28_1c1, k28_1c2, k28_1c3, k28_1c4, k28_1c5, k28_1c6, k28_1c7, k28_1, k28_48, k28_49, k28_50, k28_53, k28_54, k28_55, k28_56, k28_59, k28_60, k28_61, k28_64, k28_65, k28_68, k28_69, k28_70, k28_71, mm_sI, mm_sJ, mm_sR, mm_cI, mm_cJ, mm_I, mm_J, mm_R, mm_K, mm_N, psh_s, psh_n, z_n, z_i, z_r, z_l, Nat.reduceAdd, Nat.reduceLeDiff, mk0 H, nn5, s_hasFrog H hF hF8, ne_eq, true_or, or_true, not_false_eq_true, Nat.reduceEqDiff, Nat.reduceLT, Nat.reduceLeDiff, Nat.reduceAdd, b2i_01, if_true]; simp
    | 6, _ => simp only [k28_0, k28_1c0, k28_1c1, k28_1c2, k28_1c3, k28_1c4, k28_1c5, k28_1c6, k28_1c7, k28_1, k28_48, k28_49, k28_50, k28_53, k28_54, k28_55, k28_56, k28_59, k28_60, k28_61, k28_64, k28_65, k28_68, k28_69, k28_70, k28_71, mm_sI, mm_sJ, mm_sR, mm_cI, mm_cJ, mm_I, mm_J, mm_R, mm_K, mm_N, psh_s, psh_n, z_n, z_i, z_r, z_l, Nat.reduceAdd, Nat.reduceLeDiff, mk0 H, nn6, ne_eq, true_or, or_true, not_false_eq_true, Nat.reduceEqDiff, Nat.reduceLT, Nat.reduceLeDiff, Nat.reduceAdd]; by_cases h0 : n = 0 <;> simp [h0, b2i, k28_69]
    | 7, _ => simp only [k28_0, k28_1c0, k28_1c1, k28_1c2, k28_1c3, k28_1c4, k28_1c5, k28_1c6, k28_1c7, k28_1, k28_48, k28_49, k28_50, k28_53, k28_54, k28_55, k28_56, k28_59, k28_60, k28_61, k28_64, k28_65, k28_68, k28_69, k28_70, k28_71, mm_sI, mm_sJ, mm_sR, mm_cI, mm_cJ, mm_I, mm_J, mm_R, mm_K, mm_N, psh_s, psh_n, z_n, z_i, z_r, z_l, Nat.reduceAdd, Nat.reduceLeDiff, mk0 H, nn7, ne_eq, true_or, or_true, not_false_eq_true, Nat.reduceEqDiff, Nat.reduceLT, Nat.reduceLeDiff, Nat.reduceAdd]; by_cases h0 : n = 0 <;> simp [h0, b2i, k28_69]
    | k + 8, hk => omega
end ME
