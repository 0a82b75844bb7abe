/-! ===== the model's marsh ===== -/
/-- the model's law is the same -/
def Mfix (h h1 : Hp) : Prop := h1 117 = h 117 ∧ h1 118 = h 118 ∧ h1 119 = h 119 ∧ h1 120 = h 120 ∧ h1 113 7 = h 113 7 ∧ h1 113 6 = h 113 6
def LawM (h : Hp) (W : LW) : Prop := ∀ (d : Nat) (j : Jp) (r : Rp) (E : EE) (Q : Option PV → Mem → Prop) (h1 : Hp) (f : Int32), Sh r E → Mfix h h1 →
  (∀ h2, (∀ a, a ≠ 125 → h2 a = h1 a) → Q (some (vi (W (h1 126 0) (h1 126 1) (h1 126 2) (h1 126 3) (h1 126 4) (h1 126 5)))) (mm h2 j r E)) → WP (d + 3) 183 84 [some (vr 113), some (vi f), none] [] (mm h1 j r E) Q
def LM (h : Hp) (W : LW) : Prop := if h 113 6 = 0 then W = fun _ k _ hr _ _ => k + hr / 4 else LawM h W
theorem Mfix.tr {h h1 h2 : Hp} (a : Mfix h h1) (b : Mfix h1 h2) : Mfix h h2 := ⟨b.1.trans a.1, b.2.1.trans a.2.1, b.2.2.1.trans a.2.2.1, b.2.2.2.1.trans a.2.2.2.1, b.2.2.2.2.1.trans a.2.2.2.2.1, b.2.2.2.2.2.trans a.2.2.2.2.2⟩
theorem Mfix.rf {h : Hp} : Mfix h h := ⟨rfl, rfl, rfl, rfl, rfl, rfl⟩
theorem LawM.fix {h h1 : Hp} {W : LW} (a : LawM h W) (b : Mfix h h1) : LawM h1 W := fun d j r E Q h2 f hS c hQ => a d j r E Q h2 f hS (b.tr c) hQ
theorem LM.fix {h h1 : Hp} {W : LW} (a : LM h W) (b : Mfix h h1) : LM h1 W := by
  unfold LM at a ⊢; rw [b.2.2.2.2.2]; split at a
  · rw [if_pos ‹_›]; exact a
  · rw [if_neg ‹_›]; exact a.fix b
/-- the model's numbers now -/
def DD (G F : Nat) (W : LW) (b : BB) (h : Hp) (r : Rp) (E : EE) : Prop := Sh r E ∧ h 113 0 = nI G ∧ h 113 1 = nI F ∧ G ≤ 8 ∧ F ≤ 8 ∧ LM h W ∧ bM h G F = b ∧ WF G F b
/-- what an hour of the model's may change -/
def FrG (h h' : Hp) : Prop := (∀ a, a ≠ 113 → a ≠ 114 → a ≠ 115 → a ≠ 125 → a ≠ 126 → a ≠ 138 → h' a = h a) ∧ (∀ i, i ≠ 38 → i ≠ 39 → h' 113 i = h 113 i) ∧ (∀ i, ¬ (8 ≤ i ∧ i < 24 ∨ 32 ≤ i ∧ i < 48) → h' 114 i = h 114 i) ∧ (∀ i, i ≠ 1 → h' 115 i = h 115 i) ∧ ∀ i, i ≠ 0 → h' 138 i = h 138 i
def nearM (p q : Int32) : Int32 := if p % 6 = q % 6 then (if p < q then p + 6 else if q < p then p - 6 else p) else if p % 6 < q % 6 then p + 1 else p - 1
theorem nearM_all : ∀ a : Fin 36, ∀ c : Fin 36, nearM (nI a) (nI c) = nearB (nI a) (nI c) := by decide +kernel
theorem nearM_B {p q : Int32} (hp : inb p 36) (hq : inb q 36) : nearM p q = nearB p q := by
  obtain ⟨a, ha, rfl, _⟩ := inb_of hp
  obtain ⟨c, hc, rfl, _⟩ := inb_of hq
  exact nearM_all ⟨a, ha⟩ ⟨c, hc⟩
theorem nxtM {x : Int32} (h : inb x 12) : (x + 1) % 12 = nxt x := by
  obtain ⟨k, hk, rfl, _⟩ := inb_of h
  have : ∀ c : Fin 12, (nI c + 1) % 12 = nxt (nI c) := by decide +kernel
  exact this ⟨k, hk⟩
theorem a8 {f : Nat} : (8 : Int32) + nI f = nI (8 + f) := nI_add 8 f
theorem a16 {f : Nat} : (16 : Int32) + nI f = nI (16 + f) := nI_add 16 f
theorem a24 {f : Nat} : (24 : Int32) + nI f = nI (24 + f) := nI_add 24 f
theorem a32 {f : Nat} : (32 : Int32) + nI f = nI (32 + f) := nI_add 32 f
theorem a40 {f : Nat} : (40 : Int32) + nI f = nI (40 + f) := nI_add 40 f
section LFM
variable {d : Nat} {M : Mem} {h h0 h1 : Hp} {j : Jp} {r : Rp} {E : EE} {Q : Option PV → Mem → Prop} {G F : Nat} {W : LW} {b bt : BB}
theorem DD.S (D : DD G F W b h r E) : Sh r E := D.1
theorem DD.eG (D : DD G F W b h r E) : h 113 0 = nI G := D.2.1
theorem DD.eF (D : DD G F W b h r E) : h 113 1 = nI F := D.2.2.1
theorem DD.G8 (D : DD G F W b h r E) : G ≤ 8 := D.2.2.2.1
theorem DD.F8 (D : DD G F W b h r E) : F ≤ 8 := D.2.2.2.2.1
theorem DD.L (D : DD G F W b h r E) : LM h W := D.2.2.2.2.2.1
theorem DD.eb (D : DD G F W b h r E) : bM h G F = b := D.2.2.2.2.2.2.1
theorem DD.w (D : DD G F W b h r E) : WF G F b := D.2.2.2.2.2.2.2
theorem DD.v0 (D : DD G F W b h r E) {i : Nat} (hi : i < G) : h 114 i = b 0 i := by rw [← D.eb]; exact (bM0 hi).symm
theorem DD.v1 (D : DD G F W b h r E) {i : Nat} (hi : i < G) : h 114 (8 + i) = b 1 i := by rw [← D.eb]; exact (bM1 hi).symm
theorem DD.v2 (D : DD G F W b h r E) {i : Nat} (hi : i < F) : h 114 (16 + i) = b 2 i := by rw [← D.eb]; exact (bM2 hi).symm
theorem DD.v3 (D : DD G F W b h r E) {i : Nat} (hi : i < F) : h 114 (24 + i) = b 3 i := by rw [← D.eb]; exact (bM3 hi).symm
theorem DD.v4 (D : DD G F W b h r E) {i : Nat} (hi : i < F) : h 114 (32 + i) = b 4 i := by rw [← D.eb]; exact (bM4 hi).symm
theorem DD.v5 (D : DD G F W b h r E) {i : Nat} (hi : i < F) : h 114 (40 + i) = b 5 i := by rw [← D.eb]; exact (bM5 hi).symm
theorem DD.vt (D : DD G F W b h r E) : h 115 0 = b 6 0 := by rw [← D.eb]; exact bMt.symm
theorem DD.vh (D : DD G F W b h r E) : h 115 1 = b 6 1 := by rw [← D.eb]; exact bMh.symm
theorem FrG.rf : FrG h h := ⟨fun _ _ _ _ _ _ _ => rfl, fun _ _ _ => rfl, fun _ _ => rfl, fun _ _ => rfl, fun _ _ => rfl⟩
theorem FrG.tr {h2 : Hp} (a : FrG h h1) (c : FrG h1 h2) : FrG h h2 := ⟨fun x p q s t u v => (c.1 x p q s t u v).trans (a.1 x p q s t u v), fun i p q => (c.2.1 i p q).trans (a.2.1 i p q), fun i p => (c.2.2.1 i p).trans (a.2.2.1 i p), fun i p => (c.2.2.2.1 i p).trans (a.2.2.2.1 i p), fun i p => (c.2.2.2.2 i p).trans (a.2.2.2.2 i p)⟩
theorem FrG.w114 {i : Nat} {v : Int32} (a : FrG h h1) (hi : 8 ≤ i ∧ i < 24 ∨ 32 ≤ i ∧ i < 48) : FrG h (up2 h1 114 i v) :=
  ⟨fun x p q s t u w => by rw [up2_a q]; exact a.1 x p q s t u w, fun k p q => by rw [up2_a (by decide)]; exact a.2.1 k p q, fun k p => by rw [up2_i (by rintro rfl; exact p hi)]; exact a.2.2.1 k p, fun k p => by rw [up2_a (by decide)]; exact a.2.2.2.1 k p, fun k p => by rw [up2_a (by decide)]; exact a.2.2.2.2 k p⟩
theorem FrG.w115 {v : Int32} (a : FrG h h1) : FrG h (up2 h1 115 1 v) :=
  ⟨fun x p q s t u w => by rw [up2_a s]; exact a.1 x p q s t u w, fun k p q => by rw [up2_a (by decide)]; exact a.2.1 k p q, fun k p => by rw [up2_a (by decide)]; exact a.2.2.1 k p, fun k p => by rw [up2_i p]; exact a.2.2.2.1 k p, fun k p => by rw [up2_a (by decide)]; exact a.2.2.2.2 k p⟩
theorem FrG.w138 {v : Int32} (a : FrG h h1) : FrG h (up2 h1 138 0 v) :=
  ⟨fun x p q s t u w => by rw [up2_a w]; exact a.1 x p q s t u w, fun k p q => by rw [up2_a (by decide)]; exact a.2.1 k p q, fun k p => by rw [up2_a (by decide)]; exact a.2.2.1 k p, fun k p => by rw [up2_a (by decide)]; exact a.2.2.2.1 k p, fun k p => by rw [up2_i p]; exact a.2.2.2.2 k p⟩
theorem FrG.w113 {i : Nat} {v : Int32} (a : FrG h h1) (hi : i = 38 ∨ i = 39) : FrG h (up2 h1 113 i v) :=
  ⟨fun x p q s t u w => by rw [up2_a p]; exact a.1 x p q s t u w, fun k p q => by rw [up2_i (by omega)]; exact a.2.1 k p q, fun k p => by rw [up2_a (by decide)]; exact a.2.2.1 k p, fun k p => by rw [up2_a (by decide)]; exact a.2.2.2.1 k p, fun k p => by rw [up2_a (by decide)]; exact a.2.2.2.2 k p⟩
theorem FrG.ls {h2 : Hp} (a : FrG h h1) (e : ∀ x, x ≠ 125 → x ≠ 126 → h2 x = h1 x) : FrG h h2 :=
  ⟨fun x p q s t u v => (e x t u).trans (a.1 x p q s t u v), fun i p q => by rw [e 113 (by decide) (by decide)]; exact a.2.1 i p q, fun i p => by rw [e 114 (by decide) (by decide)]; exact a.2.2.1 i p, fun i p => by rw [e 115 (by decide) (by decide)]; exact a.2.2.2.1 i p, fun i p => by rw [e 138 (by decide) (by decide)]; exact a.2.2.2.2 i p⟩
theorem FrG.mf (a : FrG h h1) : Mfix h h1 := ⟨a.1 _ (by decide) (by decide) (by decide) (by decide) (by decide) (by decide), a.1 _ (by decide) (by decide) (by decide) (by decide) (by decide) (by decide), a.1 _ (by decide) (by decide) (by decide) (by decide) (by decide) (by decide), a.1 _ (by decide) (by decide) (by decide) (by decide) (by decide) (by decide), a.2.1 7 (by decide) (by decide), a.2.1 6 (by decide) (by decide)⟩
theorem DD.go (D : DD G F W b h r E) (a : FrG h h1) (e : bM h1 G F = bt) (w : WF G F bt) : DD G F W bt h1 r E := ⟨D.S, (a.2.1 0 (by decide) (by decide)).trans D.eG, (a.2.1 1 (by decide) (by decide)).trans D.eF, D.G8, D.F8, D.L.fix a.mf, e, w⟩
theorem m_isGirl {g : Int32} (hG : h 113 0 = nI G) (hS : Sh r E) (hG8 : G ≤ 8) : WP (d + 1) 146 0 [some (vr 113), some (vi g)] [] (mm h j r E) Q = Q (some (vi (b2i (inb g G)))) (mm h j r E) := by
  simp only [k146_0, k146_1, k146_2, k146_3, k146_6, k146_7, k146_8, k146_11, mm_sI, mm_sJ, mm_sR, mm_cI, mm_cJ, mm_I, mm_J, mm_R, mm_K, mm_N, psh_s, psh_n, z_n, z_i, z_r, z_l, Nat.reduceAdd, Nat.reduceLeDiff, s_within', K113 hS, hG, b2i_01, ne_eq, true_or, or_true, not_false_eq_true, Nat.reduceEqDiff, Nat.reduceLT, Nat.reduceLeDiff, Nat.reduceAdd]
  rw [b2i_c (inb_w (by omega))]
theorem m_isFrog {f : Int32} (hF : h 113 1 = nI F) (hS : Sh r E) (hF8 : F ≤ 8) : WP (d + 1) 147 0 [some (vr 113), some (vi f)] [] (mm h j r E) Q = Q (some (vi (b2i (inb f F)))) (mm h j r E) := by
  simp only [k147_0, k147_1, k147_2, k147_3, k147_6, k147_7, k147_8, k147_11, mm_sI, mm_sJ, mm_sR, mm_cI, mm_cJ, mm_I, mm_J, mm_R, mm_K, mm_N, psh_s, psh_n, z_n, z_i, z_r, z_l, Nat.reduceAdd, Nat.reduceLeDiff, s_within', K113 hS, hF, b2i_01, ne_eq, true_or, or_true, not_false_eq_true, Nat.reduceEqDiff, Nat.reduceLT, Nat.reduceLeDiff, Nat.reduceAdd]
  rw [b2i_c (inb_w (by omega))]
theorem m_apart {p q : Int32} : WP d 180 0 [some (vi p), some (vi q)] [] M Q = Q (some (vi (farB p q))) M := by
  simp only [k180_0, k180_1, k180_3, k180_4, k180_5, k180_7, k180_8, k180_9, k180_12, k180_13, k180_15, k180_16, k180_17, k180_19, k180_20, k180_21, k180_24, k180_25, mm_sI, mm_sJ, mm_sR, mm_cI, mm_cJ, mm_I, mm_J, mm_R, mm_K, mm_N, psh_s, psh_n, z_n, z_i, z_r, z_l, Nat.reduceAdd, Nat.reduceLeDiff, ne60, ne_eq, true_or, or_true, not_false_eq_true, Nat.reduceEqDiff, Nat.reduceLT, Nat.reduceLeDiff, Nat.reduceAdd]; rfl
theorem m_nearer {p q : Int32} : WP d 186 0 [some (vi p), some (vi q)] [] M Q = Q (some (vi (nearM p q))) M := by
  simp only [k186_0, k186_1, k186_3, k186_4, k186_5, k186_7, k186_8, k186_11, k186_12, k186_14, k186_15, k186_16, k186_18, k186_19, k186_22, k186_23, k186_24, k186_25, k186_28, k186_29, k186_30, k186_31, k186_32, k186_33, k186_34, k186_37, k186_38, k186_40, k186_41, k186_44, k186_45, k186_46, k186_49, k186_50, k186_52, k186_53, k186_56, k186_57, mm_sI, mm_sJ, mm_sR, mm_cI, mm_cJ, mm_I, mm_J, mm_R, mm_K, mm_N, psh_s, psh_n, z_n, z_i, z_r, z_l, Nat.reduceAdd, Nat.reduceLeDiff, ne60, ne_eq, true_or, or_true, not_false_eq_true, Nat.reduceEqDiff, Nat.reduceLT, Nat.reduceLeDiff, Nat.reduceAdd]
  unfold nearM
  by_cases h1 : p % 6 = q % 6
  · simp only [h1, if_true]
    by_cases h2 : p < q
    · simp only [h2, if_true, Int32.not_le.2 h2, if_false]
    · by_cases h3 : q < p
      · simp only [h2, h3, if_true, if_false, Int32.not_lt.1 h2, Int32.not_le.2 h3]
      · simp only [h2, h3, if_true, if_false, Int32.not_lt.1 h2, Int32.not_lt.1 h3]
  · simp only [h1, if_false]
    by_cases h2 : p % 6 < q % 6
    · simp only [h2, if_true, Int32.not_le.2 h2, if_false]
    · simp only [h2, if_true, Int32.not_lt.1 h2, if_false]
theorem m_owes {f : Nat} (hS : Sh r E) (hf : f < 8) : WP d 181 0 [some (vr 113), some (vi (nI f))] [] (mm h j r E) Q = Q (some (vi (h 114 (32 + f)))) (mm h j r E) := by
  have hi : inb (nI (32 + f)) 48 = True := eq_true (by rw [inb_n (by omega)]; omega)
  have hx : ix (nI (32 + f)) = 32 + f := ix_n (by omega)
  simp only [k181_0, k181_1, k181_4, k181_6, k181_7, k181_8, k181_9, mm_sI, mm_sJ, mm_sR, mm_cI, mm_cJ, mm_I, mm_J, mm_R, mm_K, mm_N, psh_s, psh_n, z_n, z_i, z_r, z_l, Nat.reduceAdd, Nat.reduceLeDiff, K113 hS, R113_2 hS, K114 hS, N114 hS, ne_eq, true_or, or_true, not_false_eq_true, Nat.reduceEqDiff, Nat.reduceLT, Nat.reduceLeDiff, Nat.reduceAdd, a32, hi, hx]
theorem m_held {f : Nat} (hS : Sh r E) (hf : f < 8) : WP d 182 0 [some (vr 113), some (vi (nI f))] [] (mm h j r E) Q = Q (some (vi (h 114 (40 + f)))) (mm h j r E) := by
  have hi : inb (nI (40 + f)) 48 = True := eq_true (by rw [inb_n (by omega)]; omega)
  have hx : ix (nI (40 + f)) = 40 + f := ix_n (by omega)
  simp only [k182_0, k182_1, k182_4, k182_6, k182_7, k182_8, k182_9, mm_sI, mm_sJ, mm_sR, mm_cI, mm_cJ, mm_I, mm_J, mm_R, mm_K, mm_N, psh_s, psh_n, z_n, z_i, z_r, z_l, Nat.reduceAdd, Nat.reduceLeDiff, K113 hS, R113_2 hS, K114 hS, N114 hS, ne_eq, true_or, or_true, not_false_eq_true, Nat.reduceEqDiff, Nat.reduceLT, Nat.reduceLeDiff, Nat.reduceAdd, a40, hi, hx]
/-- what his girl's law takes of him -/
theorem m_losesBy {f : Nat} (D : DD G F W b h r E) (hf : f < F) (hQ : ∀ h', (∀ x, x ≠ 125 → x ≠ 126 → h' x = h x) → Q (some (vi (lossB W b f))) (mm h' j r E)) :
    WP (d + 4) 184 0 [some (vr 113), some (vi (nI f)), none] [] (mm h j r E) Q := by
  have hS := D.S
  have hF8 := D.F8
  have hG8 := D.G8
  have hf8 : f < 8 := by omega
  have hi : ∀ c, c ≤ 40 → inb (nI (c + f)) 48 = True := fun c hc => eq_true (by rw [inb_n (by omega)]; omega)
  have hx : ∀ c, c ≤ 40 → ix (nI (c + f)) = c + f := fun c hc => ix_n (by omega)
  have e4 := D.v4 hf
  have e5 := D.v5 hf
  have h40 : ((4 : Int32) = 0) = False := by simp
  have h50 := (inb_i (D.w.a5 hf)).1
  simp only [k184_0, k184_1, k184_2, k184_5, k184_6, k184_9, k184_10, k184_11, k184_12, k184_15, k184_18, k184_19, k184_20, k184_23, k184_26, k184_27, k184_30, k184_32, k184_33, k184_34, k184_35, k184_36, k184_39, k184_40, k184_41, k184_42, k184_43, k184_44, k184_45, k184_46, k184_48, k184_49, k184_50, k184_53, k184_56, k184_57, k184_60, k184_63, mm_sI, mm_sJ, mm_sR, mm_cI, mm_cJ, mm_I, mm_J, mm_R, mm_K, mm_N, psh_s, psh_n, z_n, z_i, z_r, z_l, Nat.reduceAdd, Nat.reduceLeDiff, K113 hS, R113_2 hS, R113_3 hS, R113_5 hS, R113_8 hS, R113_9 hS, R113_10 hS, R113_11 hS, R113_16 hS, R113_17 hS, R113_18 hS, R113_19 hS, R113_20 hS, R113_21 hS, R113_22 hS, R113_26 hS, R113_27 hS, R113_30 hS, R113_32 hS, R113_34 hS, R113_35 hS, R113_36 hS, R113_37 hS, R113_40 hS, R113_41 hS, R113_42 hS, R113_43 hS, R113_44 hS, R113_45 hS, R113_47 hS, K114 hS, K115 hS, K116 hS, K117 hS, K118 hS, K119 hS, K120 hS, K121 hS, K122 hS, K123 hS, K124 hS, K125 hS, K126 hS, K127 hS, K128 hS, K129 hS, K130 hS, K131 hS, K132 hS, K133 hS, K134 hS, K135 hS, K136 hS, K137 hS, K138 hS, K139 hS, K140 hS, K141 hS, K142 hS, N114 hS, N115 hS, N116 hS, N117 hS, N118 hS, N119 hS, N120 hS, N121 hS, N122 hS, N123 hS, N124 hS, N125 hS, N126 hS, N127 hS, N128 hS, N129 hS, N130 hS, N131 hS, N132 hS, N133 hS, N134 hS, N135 hS, N136 hS, N137 hS, N138 hS, N139 hS, N140 hS, N141 hS, N142 hS, ne_eq, true_or, or_true, not_false_eq_true, Nat.reduceEqDiff, Nat.reduceLT, Nat.reduceLeDiff, Nat.reduceAdd, m_owes hS hf8, e4]
  by_cases c4 : b 4 f = -1
  · have := hQ h (fun _ _ _ => rfl)
    rw [show lossB W b f = 0 by unfold lossB; rw [if_pos c4]] at this
    simp only [c4, if_true]; exact this
  have hg := (D.w.a4 hf).resolve_left c4
  have hlo : lossB W b f = clampB (b 5 f) (W (b 5 f) (b 3 f) (farB (b 2 f) (b 0 (ix (b 4 f)))) (b 6 1) (b 4 f) (nI f)) := by unfold lossB; rw [if_neg c4]
  simp only [c4, if_false]
  have hL := D.L
  unfold LM at hL
  by_cases ht : h 113 6 = 0
  · rw [if_pos ht] at hL
    simp only [k184_0, k184_1, k184_2, k184_5, k184_6, k184_9, k184_10, k184_11, k184_12, k184_15, k184_18, k184_19, k184_20, k184_23, k184_26, k184_27, k184_30, k184_32, k184_33, k184_34, k184_35, k184_36, k184_39, k184_40, k184_41, k184_42, k184_43, k184_44, k184_45, k184_46, k184_48, k184_49, k184_50, k184_53, k184_56, k184_57, k184_60, k184_63, mm_sI, mm_sJ, mm_sR, mm_cI, mm_cJ, mm_I, mm_J, mm_R, mm_K, mm_N, psh_s, psh_n, z_n, z_i, z_r, z_l, Nat.reduceAdd, Nat.reduceLeDiff, K113 hS, R113_2 hS, R113_3 hS, R113_5 hS, R113_8 hS, R113_9 hS, R113_10 hS, R113_11 hS, R113_16 hS, R113_17 hS, R113_18 hS, R113_19 hS, R113_20 hS, R113_21 hS, R113_22 hS, R113_26 hS, R113_27 hS, R113_30 hS, R113_32 hS, R113_34 hS, R113_35 hS, R113_36 hS, R113_37 hS, R113_40 hS, R113_41 hS, R113_42 hS, R113_43 hS, R113_44 hS, R113_45 hS, R113_47 hS, K114 hS, K115 hS, K116 hS, K117 hS, K118 hS, K119 hS, K120 hS, K121 hS, K122 hS, K123 hS, K124 hS, K125 hS, K126 hS, K127 hS, K128 hS, K129 hS, K130 hS, K131 hS, K132 hS, K133 hS, K134 hS, K135 hS, K136 hS, K137 hS, K138 hS, K139 hS, K140 hS, K141 hS, K142 hS, N114 hS, N115 hS, N116 hS, N117 hS, N118 hS, N119 hS, N120 hS, N121 hS, N122 hS, N123 hS, N124 hS, N125 hS, N126 hS, N127 hS, N128 hS, N129 hS, N130 hS, N131 hS, N132 hS, N133 hS, N134 hS, N135 hS, N136 hS, N137 hS, N138 hS, N139 hS, N140 hS, N141 hS, N142 hS, ht, if_true, a24, hi, hx, h40, m_held hS hf8, D.v3 hf, D.vh, e5, inb_c0, ix_c0, inb_c1, ix_c1, inb_c2, ix_c2, inb_c3, ix_c3, inb_c4, ix_c4, inb_c5, ix_c5, inb_c6, ix_c6, inb_c7, ix_c7, inb_c8, ix_c8, inb_c32, ix_c32, ne_eq, true_or, or_true, not_false_eq_true, Nat.reduceEqDiff, Nat.reduceLT, Nat.reduceLeDiff, Nat.reduceAdd]
    have := hQ h (fun _ _ _ => rfl)
    rw [hlo, hL, ← clamp_m h50] at this
    exact this
  · rw [if_neg ht] at hL
    simp only [ht, if_false]
    obtain ⟨g, hgG, eg, _⟩ := inb_of hg
    have hg48 : inb (nI g) 48 = True := eq_true (by rw [inb_n (by omega)]; omega)
    have hxg : ix (nI g) = g := ix_n (by omega)
    simp only [k183_0, k183_1, k183_4, k183_5, k183_6, k183_7, k183_10, k183_11, k183_12, k183_15, k183_16, k183_17, k183_20, k183_22, k183_23, k183_24, k183_25, k183_26, k183_27, k183_30, k183_31, k183_32, k183_35, k183_37, k183_38, k183_39, k183_40, k183_41, k183_44, k183_45, k183_46, k183_49, k183_50, k183_53, k183_54, k183_55, k183_58, k183_59, k183_60, k183_63, k183_64, k183_65, k183_66, k183_67, k183_70, k183_71, k183_72, k183_73, k183_76, k183_77, k183_78, k183_81, k183_82, k183_83, k183_85, k183_87, k183_88, k183_91, k183_94, k183_95, k183_98, k183_99, k183_100, k183_101, k183_104, k183_105, k183_106, k183_109, k183_110, k183_111, k183_114, k183_115, k183_116, k183_117, k183_120, k183_121, k183_122, k183_125, k183_128, k183_131, k183_132, k183_133, k183_136, k183_137, k183_138, k183_139, k183_142, k183_143, k183_144, k183_147, k183_148, k183_151, k183_154, k183_155, mm_sI, mm_sJ, mm_sR, mm_cI, mm_cJ, mm_I, mm_J, mm_R, mm_K, mm_N, psh_s, psh_n, z_n, z_i, z_r, z_l, Nat.reduceAdd, Nat.reduceLeDiff, K113 hS, R113_2 hS, R113_3 hS, R113_5 hS, R113_8 hS, R113_9 hS, R113_10 hS, R113_11 hS, R113_16 hS, R113_17 hS, R113_18 hS, R113_19 hS, R113_20 hS, R113_21 hS, R113_22 hS, R113_26 hS, R113_27 hS, R113_30 hS, R113_32 hS, R113_34 hS, R113_35 hS, R113_36 hS, R113_37 hS, R113_40 hS, R113_41 hS, R113_42 hS, R113_43 hS, R113_44 hS, R113_45 hS, R113_47 hS, K114 hS, K115 hS, K116 hS, K117 hS, K118 hS, K119 hS, K120 hS, K121 hS, K122 hS, K123 hS, K124 hS, K125 hS, K126 hS, K127 hS, K128 hS, K129 hS, K130 hS, K131 hS, K132 hS, K133 hS, K134 hS, K135 hS, K136 hS, K137 hS, K138 hS, K139 hS, K140 hS, K141 hS, K142 hS, N114 hS, N115 hS, N116 hS, N117 hS, N118 hS, N119 hS, N120 hS, N121 hS, N122 hS, N123 hS, N124 hS, N125 hS, N126 hS, N127 hS, N128 hS, N129 hS, N130 hS, N131 hS, N132 hS, N133 hS, N134 hS, N135 hS, N136 hS, N137 hS, N138 hS, N139 hS, N140 hS, N141 hS, N142 hS, ne_eq, true_or, or_true, not_false_eq_true, Nat.reduceEqDiff, Nat.reduceLT, Nat.reduceLeDiff, Nat.reduceAdd, inb_c0, ix_c0, inb_c1, ix_c1, inb_c2, ix_c2, inb_c3, ix_c3, inb_c4, ix_c4, inb_c5, ix_c5, inb_c6, ix_c6, inb_c7, ix_c7, inb_c8, ix_c8, inb_c32, ix_c32, up2_s, up2_ai, up2_i, m_owes hS hf8, m_held hS hf8, a24, a16, hi, hx, e4, e5, eg, hg48, hxg, m_apart, D.v3 hf, D.v2 hf, D.vh, D.v0 hgG]
    refine hL _ _ _ _ _ _ _ hS ⟨rfl, rfl, rfl, rfl, rfl, rfl⟩ ?_
    intro h2 hs
    have ea : ∀ x, x ≠ 125 → x ≠ 126 → h2 x = h x := by
      intro x p q
      rw [hs x p, up2_a q, up2_a q, up2_a q, up2_a q, up2_a q, up2_a q]
    simp only [k184_0, k184_1, k184_2, k184_5, k184_6, k184_9, k184_10, k184_11, k184_12, k184_15, k184_18, k184_19, k184_20, k184_23, k184_26, k184_27, k184_30, k184_32, k184_33, k184_34, k184_35, k184_36, k184_39, k184_40, k184_41, k184_42, k184_43, k184_44, k184_45, k184_46, k184_48, k184_49, k184_50, k184_53, k184_56, k184_57, k184_60, k184_63, mm_sI, mm_sJ, mm_sR, mm_cI, mm_cJ, mm_I, mm_J, mm_R, mm_K, mm_N, psh_s, psh_n, z_n, z_i, z_r, z_l, Nat.reduceAdd, Nat.reduceLeDiff, K113 hS, R113_2 hS, R113_3 hS, R113_5 hS, R113_8 hS, R113_9 hS, R113_10 hS, R113_11 hS, R113_16 hS, R113_17 hS, R113_18 hS, R113_19 hS, R113_20 hS, R113_21 hS, R113_22 hS, R113_26 hS, R113_27 hS, R113_30 hS, R113_32 hS, R113_34 hS, R113_35 hS, R113_36 hS, R113_37 hS, R113_40 hS, R113_41 hS, R113_42 hS, R113_43 hS, R113_44 hS, R113_45 hS, R113_47 hS, K114 hS, K115 hS, K116 hS, K117 hS, K118 hS, K119 hS, K120 hS, K121 hS, K122 hS, K123 hS, K124 hS, K125 hS, K126 hS, K127 hS, K128 hS, K129 hS, K130 hS, K131 hS, K132 hS, K133 hS, K134 hS, K135 hS, K136 hS, K137 hS, K138 hS, K139 hS, K140 hS, K141 hS, K142 hS, N114 hS, N115 hS, N116 hS, N117 hS, N118 hS, N119 hS, N120 hS, N121 hS, N122 hS, N123 hS, N124 hS, N125 hS, N126 hS, N127 hS, N128 hS, N129 hS, N130 hS, N131 hS, N132 hS, N133 hS, N134 hS, N135 hS, N136 hS, N137 hS, N138 hS, N139 hS, N140 hS, N141 hS, N142 hS, ne_eq, true_or, or_true, not_false_eq_true, Nat.reduceEqDiff, Nat.reduceLT, Nat.reduceLeDiff, Nat.reduceAdd, up2_s, up2_ai, up2_i, m_held hS hf8, ea 114 (by decide) (by decide), e5]
    have := hQ h2 ea
    rw [hlo, ← clamp_m h50, eg, hxg] at this
    exact this
end LFM
