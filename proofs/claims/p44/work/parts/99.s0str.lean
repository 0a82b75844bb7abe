/-! ===== strings, as the law makes them ===== -/
def HCo (φ : Int32) (h : Hp) (r : Rp) (E : EE) : Prop := ∀ o, E.1 (kA + o) = mKc o ∧ E.2.1 (kA + o) = mNc o ∧ (∀ j, h (kA + o) j = mIc φ o j) ∧ ∀ j, r (kA + o) j = mRc o j
/-- what lies before X, and the host's, is as it was; some cells more, some slots more -/
def Gr (X c s : Nat) (h h' : Hp) (j j' : Jp) (r r' : Rp) (E E' : EE) : Prop := E.2.2.1 ≤ E'.2.2.1 ∧ E'.2.2.1 ≤ E.2.2.1 + c ∧ E'.2.2.2 ≤ E.2.2.2 + s ∧ ∀ a, a < X ∨ kA ≤ a → h' a = h a ∧ j' a = j a ∧ r' a = r a ∧ E'.1 a = E.1 a ∧ E'.2.1 a = E.2.1 a
/-- a builder with n bytes -/
def SBd (X a n : Nat) (h : Hp) (r : Rp) (E : EE) : Prop := 2 ≤ X ∧ X ≤ a ∧ a < E.2.2.1 ∧ X ≤ r a 0 ∧ r a 0 < E.2.2.1 ∧ r a 0 ≠ a ∧ E.1 a = 0 ∧ h a 1 = 0 ∧ h a 3 = nI n ∧ E.1 (r a 0) = 18 ∧ n ≤ E.2.1 (r a 0) ∧ E.2.1 (r a 0) ≤ 402
/-- a string of n bytes -/
def Str (a n : Nat) (h : Hp) (r : Rp) (E : EE) : Prop := (E.1 a = 1 ∨ E.1 a = 20) ∧ h a 1 = 0 ∧ (E.1 (r a 0) = 18 ∨ E.1 (r a 0) = 19) ∧ E.2.1 (r a 0) = n ∧ 2 ≤ a ∧ 2 ≤ r a 0 ∧ (a < E.2.2.1 ∨ kA ≤ a) ∧ (r a 0 < E.2.2.1 ∨ kA ≤ r a 0)
section ST
variable {d : Nat} {M : Mem} {φ : Int32} {h h0 h1 h2 : Hp} {j j1 j2 : Jp} {r r1 r2 : Rp} {E E1 E2 : EE} {X Y a n m k c s c2 s2 : Nat} {Q : Option PV → Mem → Prop} {x : Int32}
theorem kAv : kA = 1000000 := rfl
theorem Gr.rf : Gr X 0 0 h h j j r r E E := ⟨Nat.le_refl _, Nat.le_refl _, Nat.le_refl _, fun _ _ => ⟨rfl, rfl, rfl, rfl, rfl⟩⟩
theorem Gr.tr (a : Gr X c s h h1 j j1 r r1 E E1) (b : Gr X c2 s2 h1 h2 j1 j2 r1 r2 E1 E2) : Gr X (c + c2) (s + s2) h h2 j j2 r r2 E E2 := by
  obtain ⟨a1, a2, a3, a4⟩ := a
  obtain ⟨b1, b2, b3, b4⟩ := b
  refine ⟨by omega, by omega, by omega, fun x p => ?_⟩
  obtain ⟨p1, p2, p3, p4, p5⟩ := a4 x p
  obtain ⟨q1, q2, q3, q4, q5⟩ := b4 x p
  exact ⟨q1.trans p1, q2.trans p2, q3.trans p3, q4.trans p4, q5.trans p5⟩
theorem Gr.le (a : Gr X c s h h1 j j1 r r1 E E1) (hc : c ≤ c2) (hs : s ≤ s2) (hX : Y ≤ X) : Gr Y c2 s2 h h1 j j1 r r1 E E1 := by
  obtain ⟨a1, a2, a3, a4⟩ := a
  exact ⟨a1, by omega, by omega, fun x p => a4 x (by omega)⟩
theorem HCo.gr (H : HCo φ h r E) (g : Gr X c s h h1 j j1 r r1 E E1) : HCo φ h1 r1 E1 := by
  intro o
  obtain ⟨q1, q2, q3, q4, q5⟩ := g.2.2.2 (kA + o) (Or.inr (Nat.le_add_right _ _))
  obtain ⟨p1, p2, p3, p4⟩ := H o
  exact ⟨q4.trans p1, q5.trans p2, fun i => by rw [q1]; exact p3 i, fun i => by rw [q3]; exact p4 i⟩
theorem Str.gr (T : Str a n h r E) (g : Gr E.2.2.1 c s h h1 j j1 r r1 E E1) : Str a n h1 r1 E1 := by
  obtain ⟨t1, t2, t3, t4, t5, t6, t7, t8⟩ := T
  obtain ⟨q1, q2, q3, q4, q5⟩ := g.2.2.2 a t7
  rw [← q3] at t3 t4 t6 t8
  obtain ⟨p1, p2, p3, p4, p5⟩ := g.2.2.2 (r1 a 0) t8
  have := g.1
  exact ⟨by rw [q4]; exact t1, by rw [q1]; exact t2, by rw [p4]; exact t3, by rw [p5]; exact t4, t5, t6, by omega, by omega⟩
/-- a builder is kept by what grows behind it -/
theorem SBd.gr (T : SBd X a n h r E) (g : Gr E.2.2.1 c s h h1 j j1 r r1 E E1) : SBd X a n h1 r1 E1 := by
  obtain ⟨t0, t1, t2, t3, t4, t5, t6, t7, t8, t9, t10, t11⟩ := T
  obtain ⟨q1, q2, q3, q4, q5⟩ := g.2.2.2 a (Or.inl t2)
  rw [← q3] at t3 t4 t5 t9 t10 t11
  obtain ⟨p1, p2, p3, p4, p5⟩ := g.2.2.2 (r1 a 0) (Or.inl t4)
  have := g.1
  exact ⟨t0, t1, by omega, t3, by omega, t5, by rw [q4]; exact t6, by rw [q1]; exact t7, by rw [q1]; exact t8, by rw [p4]; exact t9, by rw [p5]; exact t10, by rw [p5]; exact t11⟩
/-- the host's strings -/
theorem HCo.str (H : HCo φ h r E) {i : Nat} (hi : i < 16) : Str (kA + 2 * i) (lenJ.getD i 0) h r E := by
  obtain ⟨p1, p2, p3, p4⟩ := H (2 * i)
  obtain ⟨q1, q2, q3, q4⟩ := H (2 * i + 1)
  have e0 : r (kA + 2 * i) 0 = kA + (2 * i + 1) := by
    rw [p4]; unfold mRc; rw [if_pos ⟨by omega, by omega, rfl⟩]; rfl
  have k1 : mKc (2 * i) = 20 := by unfold mKc; rw [if_pos (by omega), if_pos (by omega)]
  have k2 : mKc (2 * i + 1) = 19 := by unfold mKc; rw [if_pos (by omega), if_neg (by omega)]
  have n2 : mNc (2 * i + 1) = lenJ.getD i 0 := by unfold mNc; rw [if_pos (by omega), if_neg (by omega), show (2 * i + 1) / 2 = i by omega]
  have i1 : mIc φ (2 * i) 1 = 0 := by unfold mIc; rw [if_pos (by omega), if_pos (by omega)]
  have := kAv
  refine ⟨Or.inr (p1.trans k1), (p3 1).trans i1, ?_, ?_, by omega, ?_, Or.inr (by omega), Or.inr ?_⟩
  · rw [e0]; exact Or.inr (q1.trans k2)
  · rw [e0]; exact q2.trans n2
  · rw [e0]; omega
  · rw [e0]; omega
theorem shl0 : x <<< ((0 : Int32) &&& 31) = x := by simp
theorem shr0 : x >>> ((0 : Int32) &&& 31) = x := by simp
theorem ofN : Int32.ofNat n = nI n := rfl
theorem nSb (h : k ≤ n) (hn : n < 2 ^ 31) : nI n - nI k = nI (n - k) := by
  rw [iEq, subI (by rw [nI_toInt hn, nI_toInt (by omega)]; omega) (by rw [nI_toInt hn, nI_toInt (by omega)]; omega), nI_toInt hn, nI_toInt (by omega), nI_toInt (by omega)]; omega
theorem nDl (hk : k < 2 ^ 30) (hn : n < 2 ^ 30) : (nI k - nI n ≤ 0) = (k ≤ n) := by
  rw [iLe, i0, subI (by rw [nI_toInt (by omega), nI_toInt (by omega)]; omega) (by rw [nI_toInt (by omega), nI_toInt (by omega)]; omega), nI_toInt (by omega), nI_toInt (by omega)]
  apply propext; omega
theorem mm_nwc : nwc (mm h j r E) a = mm (fun b i => if b = E.2.2.1 then h a i else h b i) (zr 0 j E.2.2.1) (zr 0 r E.2.2.1) (up1 E.1 E.2.2.1 18, up1 E.2.1 E.2.2.1 (E.2.1 a), E.2.2.1 + 1, E.2.2.2 + E.2.1 a) := rfl
theorem cpy_n {α : Type} {f : Nat → Nat → α} {b sp dp q e : Nat} (h : e ≠ a) : cpy f b sp a dp q e = f e := by funext i; exact if_neg h
theorem ib0 : (inb 0 n) = (0 < n) := inb_c0
def growC (c k : Nat) : Nat := c + max (k - c) (c + 2)
theorem j_newLength (hc : c ≤ 1000) (hk : k ≤ 1000) (hck : c < k) : WP d 180 0 [some (vi (nI c)), some (vi (nI (k - c))), some (vi (nI (c + 2))), none] [] M Q = Q (some (vi (nI (growC c k)))) M := by
  have e1 : (if nI (k - c) < nI (c + 2) then nI (c + 2) else nI (k - c)) = nI (max (k - c) (c + 2)) := by
    by_cases q : k - c < c + 2
    · rw [if_pos (by rw [nLt (by omega) (by omega)]; exact q), Nat.max_eq_right (by omega)]
    · rw [if_neg (by rw [nLt (by omega) (by omega)]; exact q), Nat.max_eq_left (by omega)]
  have e2 : nI c + nI (max (k - c) (c + 2)) = nI (growC c k) := nI_add _ _
  have hg : growC c k < 4000 := by unfold growC; omega
  have hg0 : 0 < growC c k := by unfold growC; omega
  have p1 : (nI (growC c k) ≤ 0) = False := by rw [show (0 : Int32) = nI 0 from rfl, nLe (by omega) (by decide)]; apply eq_false; omega
  have p2 : ((2147483639 : Int32) < nI (growC c k)) = False := by rw [show (2147483639 : Int32) = nI 2147483639 from rfl, nLt (by decide) (by omega)]; apply eq_false; omega
  simp only [k180_0, k180_1, k180_2, k180_3, k180_6, k180_7, k180_8, k180_9, k180_10, k180_13, k180_14, k180_16, k180_19, k180_20, k180_21, k180_22, k180_26, mm_sI, mm_sJ, mm_sR, mm_cI, mm_cJ, mm_I, mm_J, mm_R, mm_K, mm_N, psh_s, psh_n, z_n, z_i, z_r, z_l, Nat.reduceAdd, Nat.reduceLeDiff, false_or, or_false, ne_eq, true_or, or_true, not_false_eq_true, Nat.reduceEqDiff, Nat.reduceLT, Nat.reduceLeDiff, Nat.reduceAdd, e1, e2, p1, p2, if_false]
theorem j_newCapacity (h0 : E.1 a = 0) (h1 : h a 1 = 0) (hk8 : E.1 (r a 0) = 18) (hn : E.2.1 (r a 0) = c) (hc : c ≤ 1000) (hk : k ≤ 1000) (hck : c < k) : WP (d + 1) 150 0 [some (vr a), some (vi (nI k)), none, none, none, none] [] (mm h j r E) Q = Q (some (vi (nI (growC c k)))) (mm h j r E) := by
  have e1 : nI k - nI c = nI (k - c) := nSb (by omega) (by omega)
  have e2 : (2 : Int32) <<< ((0 : Int32) &&& 31) = nI 2 := rfl
  have e3 : nI c + nI 2 = nI (c + 2) := nI_add _ _
  have hg : growC c k < 4000 := by unfold growC; omega
  have p1 : (nI (growC c k) = 2147483647) = False := by rw [show (2147483647 : Int32) = nI 2147483647 from rfl, nEq (by omega) (by decide)]; apply eq_false; omega
  simp only [k150_0, k150_1, k150_4, k150_5, k150_6, k150_7, k150_8, k150_11, k150_12, k150_13, k150_14, k150_15, k150_16, k150_18, k150_19, k150_21, k150_22, k150_23, k150_24, k150_27, k150_28, k150_29, k150_32, k150_34, k150_36, k150_38, k150_44, k150_44i, k150_51, k150_53, k150_54, k150_57, k150_58, mm_sI, mm_sJ, mm_sR, mm_cI, mm_cJ, mm_I, mm_J, mm_R, mm_K, mm_N, psh_s, psh_n, z_n, z_i, z_r, z_l, Nat.reduceAdd, Nat.reduceLeDiff, false_or, or_false, ne_eq, true_or, or_true, not_false_eq_true, Nat.reduceEqDiff, Nat.reduceLT, Nat.reduceLeDiff, Nat.reduceAdd, and_self, and_true, true_and, eq_self, h0, h1, hk8, hn, ofN, shl0, shr0, e1, e2, e3, j_newLength hc hk hck, p1, if_false]
theorem mm_wr {h' : Hp} {j' : Jp} {r' : Rp} {E' : EE} (f : ∀ b, b < X ∨ kA ≤ b → h' b = h b ∧ j' b = j b ∧ r' b = r b ∧ E'.1 b = E.1 b ∧ E'.2.1 b = E.2.1 b) (e1 : E'.2.2.1 = E.2.2.1 + c) (e2 : E'.2.2.2 ≤ E.2.2.2 + s) : Gr X c s h h' j j' r r' E E' := ⟨by omega, by omega, e2, f⟩
theorem j_copyOf {b : Nat} (hk8 : E.1 b = 18) (hn : E.2.1 b = c) (hc : c < m) (hm : m ≤ 1000) (hb1 : b ≠ 1) (hbX : b ≠ E.2.2.1) (hX : 2 ≤ E.2.2.1) : WP (d + 1) 176 0 [some (vr b), some (vi (nI m)), none] [] (mm h j r E) Q = Q (some (vr E.2.2.1)) (mm (cpy (zr 0 h E.2.2.1) b 0 E.2.2.1 0 c) (zr 0 j E.2.2.1) (zr 0 r E.2.2.1) (up1 E.1 E.2.2.1 18, up1 E.2.1 E.2.2.1 m, E.2.2.1 + 1, E.2.2.2 + m)) := by
  have p1 : (nI m = nI c) = False := by rw [nEq (by omega) (by omega)]; apply eq_false; omega
  have p2 : ((nI m) < 0) = False := eq_false (nI_pos (by omega))
  have p3 : ix (nI m) = m := ix_n (by omega)
  have e1 : (if nI m < nI c then nI m else nI c) = nI c := by rw [if_neg]; rw [nLt (by omega) (by omega)]; omega
  have p4 : (m ≤ 100000) = True := eq_true (by omega)
  have p5 : ((nI c) < 0) = False := eq_false (nI_pos (by omega))
  have p6 : ix (nI c) = c := ix_n (by omega)
  have p7 : (c ≤ m) = True := eq_true (by omega)
  have p8 : (b = 1) = False := eq_false hb1
  have p9 : (E.2.2.1 = 1) = False := eq_false (by omega)
  have p10 : (2 ≤ E.2.2.1) = True := eq_true hX
  have k1 : up1 E.1 E.2.2.1 18 b = 18 := by rw [up1_n hbX]; exact hk8
  have k2 : up1 E.2.1 E.2.2.1 m b = c := by rw [up1_n hbX]; exact hn
  simp only [k176_0, k176_1, k176_2, k176_3, k176_6, k176_7, k176_10, k176_13, k176_14, k176_15, k176_17, k176_18, k176_19, k176_20, k176_21, k176_22, k176_23, k176_24, k176_25, k176_28, k176_28l, k176_28b, k176_31, k176_32, mm_sI, mm_sJ, mm_sR, mm_cI, mm_cJ, mm_I, mm_J, mm_R, mm_K, mm_N, psh_s, psh_n, z_n, z_i, z_r, z_l, Nat.reduceAdd, Nat.reduceLeDiff, false_or, or_false, ne_eq, true_or, or_true, not_false_eq_true, Nat.reduceEqDiff, Nat.reduceLT, Nat.reduceLeDiff, Nat.reduceAdd, and_self, and_true, true_and, eq_self, hk8, hn, ofN, p1, if_false, mm_nw, mm_X, p2, p3, p4, e1, p5, p6, p7, p8, p9, k1, k2, up1_s, Int32.lt_irrefl, ix_c0, Nat.zero_add, Nat.le_refl, p10]
theorem j_ens (B : SBd X a n h r E) (hA : E.2.2.1 < kA) (hk : k ≤ 200) (hQ : ∀ h' j' r' E', Gr X 1 402 h h' j j' r r' E E' → SBd X a n h' r' E' → k ≤ E'.2.1 (r' a 0) → (∀ s m, Str s m h r E → Str s m h' r' E') → Q none (mm h' j' r' E')) : WP (d + 2) 149 0 [some (vr a), some (vi (nI k)), none] [] (mm h j r E) Q := by
  obtain ⟨t0, t1, t2, t3, t4, t5, t6, t7, t8, t9, t10, t11⟩ := id B
  obtain ⟨c, hc⟩ : ∃ c, E.2.1 (r a 0) = c := ⟨_, rfl⟩
  have hc402 : c ≤ 402 := by omega
  by_cases q : k ≤ c
  · have p1 : (nI k - nI c ≤ 0) = True := eq_true (by rw [nDl (by omega) (by omega)]; exact q)
    simp only [k149_0, k149_1, k149_4, k149_5, k149_6, k149_9, k149_10, k149_11, k149_12, k149_13, k149_14, k149_17, k149_18, k149_19, k149_22, k149_23, k149_24, k149_27, k149_28, k149_31, k149_32, k149_35, k149_38, mm_sI, mm_sJ, mm_sR, mm_cI, mm_cJ, mm_I, mm_J, mm_R, mm_K, mm_N, psh_s, psh_n, z_n, z_i, z_r, z_l, Nat.reduceAdd, Nat.reduceLeDiff, false_or, or_false, ne_eq, true_or, or_true, not_false_eq_true, Nat.reduceEqDiff, Nat.reduceLT, Nat.reduceLeDiff, Nat.reduceAdd, and_self, and_true, true_and, eq_self, t6, t7, t9, hc, ofN, shr0, p1, if_true]
    exact hQ h j r E (Gr.rf.le (by omega) (by omega) (Nat.le_refl _)) B (by omega) (fun _ _ h => h)
  · have p1 : (nI k - nI c ≤ 0) = False := eq_false (by rw [nDl (by omega) (by omega)]; exact q)
    have hg : growC c k ≤ 402 := by unfold growC; omega
    have hg2 : c < growC c k := by unfold growC; omega
    have hg3 : k ≤ growC c k := by unfold growC; omega
    have kx : up1 E.1 E.2.2.1 18 a = 0 := by rw [up1_n (by omega)]; exact t6
    simp only [k149_0, k149_1, k149_4, k149_5, k149_6, k149_9, k149_10, k149_11, k149_12, k149_13, k149_14, k149_17, k149_18, k149_19, k149_22, k149_23, k149_24, k149_27, k149_28, k149_31, k149_32, k149_35, k149_38, mm_sI, mm_sJ, mm_sR, mm_cI, mm_cJ, mm_I, mm_J, mm_R, mm_K, mm_N, psh_s, psh_n, z_n, z_i, z_r, z_l, Nat.reduceAdd, Nat.reduceLeDiff, false_or, or_false, ne_eq, true_or, or_true, not_false_eq_true, Nat.reduceEqDiff, Nat.reduceLT, Nat.reduceLeDiff, Nat.reduceAdd, and_self, and_true, true_and, eq_self, t6, t7, t9, hc, ofN, shr0, shl0, p1, if_false, j_newCapacity t6 t7 t9 hc (show c ≤ 1000 by omega) (show k ≤ 1000 by omega) (show c < k by omega), j_copyOf t9 hc hg2 (show growC c k ≤ 1000 by omega) (show r a 0 ≠ 1 by omega) (show r a 0 ≠ E.2.2.1 by omega) (show 2 ≤ E.2.2.1 by omega), kx]
    have ra : up2 (zr 0 r E.2.2.1) a 0 E.2.2.1 a 0 = E.2.2.1 := up2_s
    have hh : ∀ b, b ≠ E.2.2.1 → cpy (zr 0 h E.2.2.1) (r a 0) 0 E.2.2.1 0 c b = h b := fun b hb => by rw [cpy_n hb, zr_n hb]
    have rr : ∀ b, b ≠ E.2.2.1 → b ≠ a → up2 (zr 0 r E.2.2.1) a 0 E.2.2.1 b = r b := fun b hb ha => by rw [up2_a ha, zr_n hb]
    refine hQ _ _ _ _ (mm_wr ?_ ?_ ?_) ⟨t0, t1, ?_, ?_, ?_, ?_, ?_, ?_, ?_, ?_, ?_, ?_⟩ ?_ ?_
    · intro b hb
      have hz := kAv
      have b1 : b ≠ E.2.2.1 := by omega
      exact ⟨hh b b1, zr_n b1, rr b b1 (by omega), up1_n b1, up1_n b1⟩
    · rfl
    · show E.2.2.2 + growC c k ≤ _; omega
    · show a < E.2.2.1 + 1; omega
    · rw [ra]; omega
    · rw [ra]; show E.2.2.1 < E.2.2.1 + 1; omega
    · rw [ra]; omega
    · exact kx
    · rw [hh a (by omega)]; exact t7
    · rw [hh a (by omega)]; exact t8
    · rw [ra]; exact up1_s
    · rw [ra]; show n ≤ up1 E.2.1 E.2.2.1 (growC c k) E.2.2.1; rw [up1_s]; omega
    · rw [ra]; show up1 E.2.1 E.2.2.1 (growC c k) E.2.2.1 ≤ 402; rw [up1_s]; exact hg
    · rw [ra]; show k ≤ up1 E.2.1 E.2.2.1 (growC c k) E.2.2.1; rw [up1_s]; exact hg3
    · intro s m ⟨u1, u2, u3, u4, u5, u6, u7, u8⟩
      have hz := kAv
      have s1 : s ≠ E.2.2.1 := by omega
      have s2 : s ≠ a := by rintro rfl; omega
      have s3 : r s 0 ≠ E.2.2.1 := by omega
      have e0 := congrFun (rr s s1 s2) 0
      refine ⟨?_, by rw [hh s s1]; exact u2, ?_, ?_, u5, by rw [e0]; exact u6, ?_, ?_⟩
      · show up1 E.1 E.2.2.1 18 s = 1 ∨ up1 E.1 E.2.2.1 18 s = 20; rw [up1_n s1]; exact u1
      · rw [e0]; show up1 E.1 E.2.2.1 18 (r s 0) = 18 ∨ up1 E.1 E.2.2.1 18 (r s 0) = 19; rw [up1_n s3]; exact u3
      · rw [e0]; show up1 E.2.1 E.2.2.1 (growC c k) (r s 0) = m; rw [up1_n s3]; exact u4
      · show s < E.2.2.1 + 1 ∨ kA ≤ s; omega
      · rw [e0]; show r s 0 < E.2.2.1 + 1 ∨ kA ≤ r s 0; omega
theorem Str.kd (T : Str s m h r E) : mK (mm h j r E) s = 1 ∨ mK (mm h j r E) s = 20 ∧ 1 = 1 := T.1.imp id (fun h => ⟨h, rfl⟩)
theorem ks161_6 {l0 : Option PV} {st : List PV} (T : Str s m h r E) (hl : szL st ≤ 8) : WP (d + 1) 161 6 [l0] (vr s :: st) (mm h j r E) Q = WP d 165 0 [some (vr s)] [] (mm h j r E) (fun v M' => WP (d + 1) 161 9 [l0] (psh v st) M' Q) := k161_6 hl T.kd
theorem ks163_1 {l0 l1 l2 l3 : Option PV} {st : List PV} (T : Str s m h r E) (hl : szL st ≤ 8) : WP (d + 1) 163 1 [l0, l1, l2, l3] (vr s :: st) (mm h j r E) Q = WP d 165 0 [some (vr s)] [] (mm h j r E) (fun v M' => WP (d + 1) 163 4 [l0, l1, l2, l3] (psh v st) M' Q) := k163_1 hl T.kd
theorem ks156_11 {l0 l1 : Option PV} {st : List PV} (T : Str s m h r E) (hl : szL st ≤ 8) : WP (d + 1) 156 11 [l0, l1] (vr s :: st) (mm h j r E) Q = WP d 165 0 [some (vr s)] [] (mm h j r E) (fun v M' => WP (d + 1) 156 14 [l0, l1] (psh v st) M' Q) := k156_11 hl T.kd
theorem ks151_10 {l0 l1 l2 : Option PV} {st : List PV} (T : Str s m h r E) (hl : szL st ≤ 8) : WP (d + 1) 151 10 [l0, l1, l2] (vr s :: st) (mm h j r E) Q = WP d 161 0 [some (vr s)] [] (mm h j r E) (fun v M' => WP (d + 1) 151 13 [l0, l1, l2] (psh v st) M' Q) := k151_10 hl T.kd
theorem ks157_15 {l0 l1 l2 : Option PV} {b : Nat} {x y : Int32} {st : List PV} (T : Str s m h r E) (hl : szL st ≤ 8) : WP (d + 1) 157 15 [l0, l1, l2] (vi y :: vi x :: vr b :: vr s :: st) (mm h j r E) Q = WP d 163 0 [some (vr s), some (vr b), some (vi x), some (vi y)] [] (mm h j r E) (fun v M' => WP (d + 1) 157 18 [l0, l1, l2] (psh v st) M' Q) := k157_15 hl T.kd
theorem s_coder (T : Str s m h r E) : WP d 165 0 [some (vr s)] [] (mm h j r E) Q = Q (some (vi 0)) (mm h j r E) := by
  obtain ⟨u1, u2, _⟩ := T
  have g : okG 1 (E.1 s) = true := by rcases u1 with e | e <;> rw [e] <;> rfl
  have b : byV 0 = 0 := by decide
  simp only [k165_0, k165_3, k165_6, k165_7, k165_10, k165_13, k165_14, mm_sI, mm_sJ, mm_sR, mm_cI, mm_cJ, mm_I, mm_J, mm_R, mm_K, mm_N, psh_s, psh_n, z_n, z_i, z_r, z_l, Nat.reduceAdd, Nat.reduceLeDiff, false_or, or_false, ne_eq, true_or, or_true, not_false_eq_true, Nat.reduceEqDiff, Nat.reduceLT, Nat.reduceLeDiff, Nat.reduceAdd, and_self, and_true, true_and, eq_self, g, u2, e10, if_false, b]
theorem s_length (T : Str s m h r E) : WP (d + 1) 161 0 [some (vr s)] [] (mm h j r E) Q = Q (some (vi (nI m))) (mm h j r E) := by
  obtain ⟨u1, u2, u3, u4, _⟩ := id T
  have g : okG 1 (E.1 s) = true := by rcases u1 with e | e <;> rw [e] <;> rfl
  have g2 : (13 ≤ E.1 (r s 0)) = True := eq_true (by omega)
  have g7 : (E.1 (r s 0) ≤ 19) = True := eq_true (by omega)
  simp only [k161_0, k161_1, k161_4, k161_5, k161_6, k161_9, k161_10, mm_sI, mm_sJ, mm_sR, mm_cI, mm_cJ, mm_I, mm_J, mm_R, mm_K, mm_N, psh_s, psh_n, z_n, z_i, z_r, z_l, Nat.reduceAdd, Nat.reduceLeDiff, false_or, or_false, ne_eq, true_or, or_true, not_false_eq_true, Nat.reduceEqDiff, Nat.reduceLT, Nat.reduceLeDiff, Nat.reduceAdd, and_self, and_true, true_and, eq_self, g, g2, g7, ks161_6 T, u4, s_coder T, shr0, ofN]
theorem j_getBytes {b e : Nat} (T : Str s m h r E) (hb : E.1 b = 18) (hl : E.2.1 b = e) (hn : n + m ≤ e) (he : e ≤ 1000) (hb1 : b ≠ 1) : WP (d + 1) 163 0 [some (vr s), some (vr b), some (vi (nI n)), some (vi 0)] [] (mm h j r E) Q = Q none (mm (cpy h (r s 0) 0 b n m) j r E) := by
  obtain ⟨u1, u2, u3, u4, u5, u6, _⟩ := id T
  have g : okG 1 (E.1 s) = true := by rcases u1 with e | e <;> rw [e] <;> rfl
  have g2 : (13 ≤ E.1 (r s 0)) = True := eq_true (by omega)
  have g7 : (E.1 (r s 0) ≤ 19) = True := eq_true (by omega)
  have g4 : (E.1 (r s 0) = 18 ∨ E.1 (r s 0) = 19) = True := eq_true u3
  have g5 : E.1 (r s 0) ≠ 13 := by omega
  have g6 : E.1 (r s 0) ≠ 14 := by omega
  have p2 : ((nI n) < 0) = False := eq_false (nI_pos (by omega))
  have p3 : ((nI m) < 0) = False := eq_false (nI_pos (by omega))
  have p4 : ix (nI m) = m := ix_n (by omega)
  have p5 : ix (nI n) = n := ix_n (by omega)
  have p6 : (n + m ≤ e) = True := eq_true hn
  have p8 : (b = 1) = False := eq_false hb1
  have p9 : (r s 0 = 1) = False := eq_false (by omega)
  simp only [k163_0, k163_1, k163_4, k163_5, k163_8, k163_9, k163_12, k163_13, k163_14, k163_15, k163_16, k163_17, k163_18, k163_21, k163_25, k163_28, k163_29, k163_32, k163_33, k163_34, k163_35, k163_36, k163_39, k163_43, mm_sI, mm_sJ, mm_sR, mm_cI, mm_cJ, mm_I, mm_J, mm_R, mm_K, mm_N, psh_s, psh_n, z_n, z_i, z_r, z_l, Nat.reduceAdd, Nat.reduceLeDiff, false_or, or_false, ne_eq, true_or, or_true, not_false_eq_true, Nat.reduceEqDiff, Nat.reduceLT, Nat.reduceLeDiff, Nat.reduceAdd, and_self, and_true, true_and, eq_self, g, g2, g7, ks163_1 T, u4, hb, hl, s_coder T, shl0, ofN, if_true]
  have c1 : ¬ (0 : Int32) < 0 ∧ ¬ nI n < 0 ∧ ¬ nI m < 0 ∧ ix 0 + ix (nI m) ≤ mN (mm h j r E) (r s 0) ∧ ix (nI n) + ix (nI m) ≤ mN (mm h j r E) b ∧ b ≠ 1 ∧ r s 0 ≠ 1 := by
    refine ⟨by decide, nI_pos (by omega), nI_pos (by omega), ?_, ?_, hb1, by omega⟩
    · show 0 + ix (nI m) ≤ E.2.1 (r s 0); rw [p4, u4]; omega
    · show ix (nI n) + ix (nI m) ≤ E.2.1 b; rw [p4, p5, hl]; exact hn
  rw [k163_22b (by rw [z_n]; decide) c1 hb u3]
  simp only [k163_0, k163_1, k163_4, k163_5, k163_8, k163_9, k163_12, k163_13, k163_14, k163_15, k163_16, k163_17, k163_18, k163_21, k163_25, k163_28, k163_29, k163_32, k163_33, k163_34, k163_35, k163_36, k163_39, k163_43, mm_sI, mm_sJ, mm_sR, mm_cI, mm_cJ, mm_I, mm_J, mm_R, mm_K, mm_N, psh_s, psh_n, z_n, z_i, z_r, z_l, Nat.reduceAdd, Nat.reduceLeDiff, ix_c0, p4, p5]
theorem j_put (B : SBd X a n h r E) (T : Str s m h r E) (hn : n + m ≤ E.2.1 (r a 0)) : WP (d + 2) 157 0 [some (vr a), some (vi (nI n)), some (vr s)] [] (mm h j r E) Q = Q none (mm (cpy h (r s 0) 0 (r a 0) n m) j r E) := by
  obtain ⟨t0, t1, t2, t3, t4, t5, t6, t7, t8, t9, t10, t11⟩ := id B
  obtain ⟨u1, u2, u3, u4, u5, u6, _⟩ := id T
  simp only [k157_0, k157_1, k157_2, k157_5, k157_6, k157_7, k157_10, k157_11, k157_12, k157_15, k157_18, k156_0, k156_3, k156_6, k156_7, k156_10, k156_11, k156_14, k156_17, k156_21, mm_sI, mm_sJ, mm_sR, mm_cI, mm_cJ, mm_I, mm_J, mm_R, mm_K, mm_N, psh_s, psh_n, z_n, z_i, z_r, z_l, Nat.reduceAdd, Nat.reduceLeDiff, false_or, or_false, ne_eq, true_or, or_true, not_false_eq_true, Nat.reduceEqDiff, Nat.reduceLT, Nat.reduceLeDiff, Nat.reduceAdd, and_self, and_true, true_and, eq_self, ks156_11 T, ks157_15 T, t6, t7, s_coder T, e10, if_true, if_false, j_getBytes T t9 rfl hn (show E.2.1 (r a 0) ≤ 1000 by omega) (show r a 0 ≠ 1 by omega)]
/-- a text put behind what a builder holds -/
theorem j_app (B : SBd X a n h r E) (T : Str s m h r E) (hA : E.2.2.1 < kA) (hnm : n + m ≤ 200) (hQ : ∀ h' j' r' E', Gr X 1 402 h h' j j' r r' E E' → SBd X a (n + m) h' r' E' → Q (some (vr a)) (mm h' j' r' E')) : WP (d + 3) 151 0 [some (vr a), some (vr s), none] [] (mm h j r E) Q := by
  obtain ⟨t0, t1, t2, t3, t4, t5, t6, t7, t8, t9, t10, t11⟩ := id B
  obtain ⟨u1, u2, u3, u4, u5, u6, _⟩ := id T
  have s0 : (s = 0) = False := eq_false (by omega)
  have e1 : nI n + nI m = nI (n + m) := nI_add _ _
  simp only [k151_0, k151_1, k151_4, k151_8, k151_9, k151_10, k151_13, k151_14, k151_15, k151_16, k151_19, k151_20, k151_21, k151_24, k151_25, k151_26, k151_29, k151_30, k151_33, k151_34, k151_34i, k151_35, k151_38, k151_39, k151_40, k151_43, k151_44, mm_sI, mm_sJ, mm_sR, mm_cI, mm_cJ, mm_I, mm_J, mm_R, mm_K, mm_N, psh_s, psh_n, z_n, z_i, z_r, z_l, Nat.reduceAdd, Nat.reduceLeDiff, false_or, or_false, ne_eq, true_or, or_true, not_false_eq_true, Nat.reduceEqDiff, Nat.reduceLT, Nat.reduceLeDiff, Nat.reduceAdd, and_self, and_true, true_and, eq_self, s0, if_false, ks151_10 T, s_length T, t6, t8, e1]
  refine j_ens B hA hnm ?_
  intro h1 j1 r1 E1 G1 B1 hc1 K1
  have T1 := K1 s m T
  obtain ⟨t0, t1, t2, t3, t4, t5, t6, t7, t8, t9, t10, t11⟩ := id B1
  have hh : cpy h1 (r1 s 0) 0 (r1 a 0) n m a = h1 a := cpy_n (Ne.symm t5)
  have w2 : (2 ≤ a) = True := eq_true (by omega)
  simp only [k151_0, k151_1, k151_4, k151_8, k151_9, k151_10, k151_13, k151_14, k151_15, k151_16, k151_19, k151_20, k151_21, k151_24, k151_25, k151_26, k151_29, k151_30, k151_33, k151_34, k151_34i, k151_35, k151_38, k151_39, k151_40, k151_43, k151_44, mm_sI, mm_sJ, mm_sR, mm_cI, mm_cJ, mm_I, mm_J, mm_R, mm_K, mm_N, psh_s, psh_n, z_n, z_i, z_r, z_l, Nat.reduceAdd, Nat.reduceLeDiff, false_or, or_false, ne_eq, true_or, or_true, not_false_eq_true, Nat.reduceEqDiff, Nat.reduceLT, Nat.reduceLeDiff, Nat.reduceAdd, t6, t8, j_put B1 T1 hc1, hh, e1, w2]
  refine hQ _ _ _ _ ?_ ?_
  · refine Gr.tr (c2 := 0) (s2 := 0) G1 ⟨Nat.le_refl _, Nat.le_refl _, Nat.le_refl _, fun b hb => ?_⟩
    have hz := kAv
    have hA1 : E1.2.2.1 ≤ kA := by have := G1.2.1; omega
    exact ⟨by rw [up2_a (by omega), cpy_n (by omega)], rfl, rfl, rfl, rfl⟩
  · refine ⟨t0, t1, t2, t3, t4, t5, t6, ?_, up2_s, t9, hc1, t11⟩
    rw [up2_i (by decide), hh]; exact t7
end ST
