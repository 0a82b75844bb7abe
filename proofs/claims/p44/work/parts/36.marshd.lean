/-! ===== the class's marsh: hours of all, copies, sums ===== -/
section MD
variable {d : Nat} {M : Mem} {h : Hp} {j : Jp} {r : Rp} {E : EE} {Q : Option PV → Mem → Prop} {m l G F : Nat} {W : LW}
theorem nS1 {k : Nat} : nI k + 1 = nI (k + 1) := nI_add k 1
theorem nLt {a c : Nat} (ha : a < 2 ^ 31) (hc : c < 2 ^ 31) : (nI a < nI c) = (a < c) := by
  rw [iLt, nI_toInt ha, nI_toInt hc]; simp
theorem nLe {a c : Nat} (ha : a < 2 ^ 31) (hc : c < 2 ^ 31) : (nI a ≤ nI c) = (a ≤ c) := by
  rw [iLe, nI_toInt ha, nI_toInt hc]; simp
theorem nEq {a c : Nat} (ha : a < 2 ^ 31) (hc : c < 2 ^ 31) : (nI a = nI c) = (a = c) := propext (nI_eq ha hc)
theorem e10 : ((1 : Int32) = 0) = False := by simp
theorem e01 : ((0 : Int32) = 1) = False := by simp
theorem nDiv {a c : Nat} (ha : a < 2 ^ 31) (hc : c < 2 ^ 31) : nI a / nI c = nI (a / c) := by
  have h1 : a / c ≤ a := Nat.div_le_self a c
  rw [iEq, Int32.toInt_div, nI_toInt ha, nI_toInt hc, nI_toInt (by omega), Int.tdiv_eq_ediv_of_nonneg (by omega), ← Int.natCast_ediv]
  generalize a / c = q at h1 ⊢
  exact Int.bmod_eq_of_le (by omega) (by omega)
theorem nMod {a c : Nat} (ha : a < 2 ^ 31) (hc : c < 2 ^ 31) : nI a % nI c = nI (a % c) := by
  have h1 : a % c ≤ a := Nat.mod_le a c
  rw [iEq, Int32.toInt_mod, nI_toInt ha, nI_toInt hc, nI_toInt (by omega), Int.tmod_eq_emod_of_nonneg (by omega), ← Int.natCast_emod]
theorem ledU_0 {u : Nat → Int32} : ledU u 0 0 = u := by
  funext i; unfold ledU; split
  · rename_i h; subst h; simp
  · split
    · rename_i h; subst h; simp
    · rfl
theorem ledU_u {u : Nat → Int32} {a b c e : Int32} : ledU (ledU u a b) c e = ledU u (a + c) (b + e) := by
  funext i; unfold ledU
  by_cases h2 : i = 2
  · simp [h2, Int32.add_assoc]
  · by_cases h3 : i = 3
    · simp [h3, Int32.add_assoc]
    · simp [h2, h3]
/-- the book after an hour of all -/
def ledH (u : Nat → Int32) (lost back : Int32) : Nat → Int32 := fun i => if i = 0 then u 0 + 1 else ledU u lost back i
theorem FrM.m7 {h1 : Hp} (b : FrM m l h h1) : h1 m 7 = h m 7 := b.2.2 7 (by decide)
theorem FrM.m8 {h1 : Hp} (b : FrM m l h h1) : h1 m 8 = h m 8 := b.2.2 8 (by decide)
theorem s_passLoop (hS : Sh r E) (H : Mar r E m) (HL : Lw r E l) (hG8 : G ≤ 8) (hF8 : F ≤ 8) (hml : m + 7 < l) : ∀ {k f : Nat} {h : Hp} {a : Int32}, f + k = F → LC l h W → h m 7 = nI G → h m 8 = nI F → WF G F (bC h m G F) →
    (∀ h', FrM m l h h' → bC h' m G F = endB (fB W f k (bC h m G F)) → h' (m + 7) = ledH (h (m + 7)) (fL W f k (bC h m G F)) (fK W f k (bC h m G F)) → Q (some (vi (a + fK W f k (bC h m G F)))) (mm h' j r E)) → WP (d + 5) 44 4 [some (vr m), some (vr l), some (vi a), some (vi (nI f))] [] (mm h j r E) Q := by
  intro k
  induction k with
  | zero =>
    intro f h a hk hL hG hF hw hQ
    have : f = F := by omega
    subst this
    rw [k44_4]
    simp only [k44_0, k44_1, k44_2, k44_3, k44_5, k44_6, k44_9, k44_12, k44_13, k44_14, k44_15, k44_16, k44_19, k44_22, k44_23, k44_26, k44_27, k44_28, k44_29, k44_32, k44_35, k44_36, k44_39, k44_40, mm_sI, mm_sJ, mm_sR, mm_cI, mm_cJ, mm_I, mm_J, mm_R, mm_K, mm_N, psh_s, psh_n, z_n, z_i, z_r, z_l, Nat.reduceAdd, Nat.reduceLeDiff, mk0 H, mr0 H, mr1 H, mr2 H, mr3 H, mr4 H, mr5 H, mr6 H, mk1 H, mk2 H, mk3 H, mk4 H, mk5 H, mk6 H, mk7 H, mn1 H, mn2 H, mn3 H, mn4 H, mn5 H, mn6 H, mn7 H, mne H, mne0 H, ne_eq, true_or, or_true, not_false_eq_true, Nat.reduceEqDiff, Nat.reduceLT, Nat.reduceLeDiff, Nat.reduceAdd, hF, Int32.le_refl, if_true, s_endHour H]
    have := hQ _ (FrM.up hml (FrM.uph hml FrM.rf) (a := m + 7) (i := 0) (v := h (m + 7) 0 + 1) ⟨by omega, by omega⟩) (by rw [bCw7, bCwh]; unfold endB fB; rw [bCh]) (by
      funext i; unfold ledH fL fK
      by_cases h0 : i = 0
      · subst h0; simp [up2]
      · simp [up2, h0, ledU_0])
    simpa [fK] using this
  | succ k ih =>
    intro f h a hk hL hG hF hw hQ
    have hfF : f < F := by omega
    rw [k44_4]
    simp only [k44_0, k44_1, k44_2, k44_3, k44_5, k44_6, k44_9, k44_12, k44_13, k44_14, k44_15, k44_16, k44_19, k44_22, k44_23, k44_26, k44_27, k44_28, k44_29, k44_32, k44_35, k44_36, k44_39, k44_40, mm_sI, mm_sJ, mm_sR, mm_cI, mm_cJ, mm_I, mm_J, mm_R, mm_K, mm_N, psh_s, psh_n, z_n, z_i, z_r, z_l, Nat.reduceAdd, Nat.reduceLeDiff, mk0 H, mr0 H, mr1 H, mr2 H, mr3 H, mr4 H, mr5 H, mr6 H, mk1 H, mk2 H, mk3 H, mk4 H, mk5 H, mk6 H, mk7 H, mn1 H, mn2 H, mn3 H, mn4 H, mn5 H, mn6 H, mn7 H, mne H, mne0 H, ne_eq, true_or, or_true, not_false_eq_true, Nat.reduceEqDiff, Nat.reduceLT, Nat.reduceLeDiff, Nat.reduceAdd, hF, nLe (show F < 2 ^ 31 by omega) (show f < 2 ^ 31 by omega), show ¬ F ≤ f by omega, if_false]
    refine s_passHourOf hS H HL hL hG hG8 hF8 hml hfF (hw.a4 hfF) ?_
    intro h1 fr hb hl
    have hg := gv_0 (W := W) hw hfF
    have hb1 := b1_bk (W := W) (b := bC h m G F) (f := f)
    have key : WP (d + 5) 44 4 [some (vr m), some (vr l), some (vi (a + b1B W f (bC h m G F))), some (vi (nI (f + 1)))] [] (mm h1 j r E) Q := by
      refine ih (f := f + 1) (by omega) (hL.fix (fr.lf hml)) (by rw [fr.m7, hG]) (by rw [fr.m8, hF]) (by rw [hb]; exact hw.go hfF) ?_
      intro h2 fr2 hb2 hl2
      have := hQ h2 (fr.tr fr2) (by rw [hb2, hb]; rfl) (by
        rw [hl2, hb, hl]
        funext i; unfold ledH
        by_cases h0 : i = 0
        · subst h0; simp [ledU]
        · simp only [h0, if_false, ledU_u]; rfl)
      rw [hb]
      simpa [fK, Int32.add_assoc] using this
    simp only [k44_0, k44_1, k44_2, k44_3, k44_5, k44_6, k44_9, k44_12, k44_13, k44_14, k44_15, k44_16, k44_19, k44_22, k44_23, k44_26, k44_27, k44_28, k44_29, k44_32, k44_35, k44_36, k44_39, k44_40, mm_sI, mm_sJ, mm_sR, mm_cI, mm_cJ, mm_I, mm_J, mm_R, mm_K, mm_N, psh_s, psh_n, z_n, z_i, z_r, z_l, Nat.reduceAdd, Nat.reduceLeDiff, ne_eq, true_or, or_true, not_false_eq_true, Nat.reduceEqDiff, Nat.reduceLT, Nat.reduceLeDiff, Nat.reduceAdd, hg]
    by_cases hbk : bkB (bC h m G F) f
    · simp only [eq_true hbk, not_true_eq_false, if_false, nS1]
      rw [hb1, if_pos hbk] at key; exact key
    · simp only [eq_false hbk, not_false_eq_true, if_true, nS1]
      rw [hb1, if_neg hbk] at key; exact key
theorem s_passHour (hS : Sh r E) (H : Mar r E m) (HL : Lw r E l) (hG8 : G ≤ 8) (hF8 : F ≤ 8) (hml : m + 7 < l) (hL : LC l h W) (hG : h m 7 = nI G) (hF : h m 8 = nI F) (hw : WF G F (bC h m G F))
    (hQ : ∀ h', FrM m l h h' → bC h' m G F = hrB W F (bC h m G F) → h' (m + 7) = ledH (h (m + 7)) (fL W 0 F (bC h m G F)) (fK W 0 F (bC h m G F)) → Q (some (vi (fK W 0 F (bC h m G F)))) (mm h' j r E)) :
    WP (d + 5) 44 0 [some (vr m), some (vr l), none, none] [] (mm h j r E) Q := by
  simp only [k44_0, k44_1, k44_2, k44_3, k44_5, k44_6, k44_9, k44_12, k44_13, k44_14, k44_15, k44_16, k44_19, k44_22, k44_23, k44_26, k44_27, k44_28, k44_29, k44_32, k44_35, k44_36, k44_39, k44_40, ne_eq, true_or, or_true, not_false_eq_true, Nat.reduceEqDiff, Nat.reduceLT, Nat.reduceLeDiff, Nat.reduceAdd]
  refine s_passLoop hS H HL hG8 hF8 hml (f := 0) (k := F) (by omega) hL hG hF hw ?_
  intro h' a b c
  have := hQ h' a b c
  simpa using this
theorem cpy_00 {α : Type} {f : Nat → Nat → α} {b a n c i : Nat} : cpy f b 0 a 0 n c i = if c = a then (if i < n then f b i else f c i) else f c i := by
  simp [cpy]
/-- what an image lays back -/
def layH (h : Hp) (x m G2 F2 : Nat) : Hp := fun a i => if a = m + 2 then (if i < G2 then h (x + 2) i else h a i) else if a = m + 3 then (if i < F2 then h (x + 3) i else h a i) else if a = m + 5 then (if i < F2 then h (x + 5) i else h a i)
  else if a = m + 6 then (if i < F2 then h (x + 6) i else h a i) else if a = m + 7 then (if i < 5 then h (x + 7) i else h a i) else if a = m then (if i = 10 then h x 10 else h a i) else h a i
theorem s_layBack {x G2 F2 : Nat} (H : Mar r E m) (H2 : Mar r E x) (hd : x + 7 < m ∨ m + 7 < x) (hG : h x 7 = nI G2) (hF : h x 8 = nI F2) (hG8 : G2 ≤ 8) (hF8 : F2 ≤ 8) :
    WP d 32 0 [some (vr m), some (vr x)] [] (mm h j r E) Q = Q none (mm (layH h x m G2 F2) j r E) := by
  have e1 : ix (nI G2) = G2 := ix_n (by omega)
  have e2 : ix (nI F2) = F2 := ix_n (by omega)
  have p1 : (nI G2 < 0) = False := eq_false (nI_pos (by omega))
  have p2 : (nI F2 < 0) = False := eq_false (nI_pos (by omega))
  have hz : ∀ c, c ≤ 7 → ∀ e, e ≤ 7 → (x + c = m + e) = False := fun c hc e he => by apply eq_false; omega
  have hz0 : ∀ e, e ≤ 7 → (x = m + e) = False := fun e he => by apply eq_false; omega
  have hzm : (x = m) = False := by apply eq_false; omega
  have hzc : ∀ c, c ≤ 7 → (x + c = m) = False := fun c hc => by apply eq_false; omega
  have i0' : (5 : Int32) = nI 5 := rfl
  simp only [k32_0, k32_1, k32_4, k32_5, k32_6, k32_9, k32_10, k32_11, k32_14, k32_14l, k32_14b, k32_17, k32_18, k32_21, k32_22, k32_23, k32_26, k32_27, k32_28, k32_31, k32_31l, k32_31b, k32_34, k32_35, k32_38, k32_39, k32_40, k32_43, k32_44, k32_45, k32_48, k32_48l, k32_48b, k32_51, k32_52, k32_55, k32_56, k32_57, k32_60, k32_61, k32_62, k32_65, k32_65l, k32_65b, k32_68, k32_69, k32_72, k32_73, k32_74, k32_77, k32_78, k32_79, k32_79l, k32_79b, k32_82, k32_83, k32_84, k32_87, k32_90, mm_sI, mm_sJ, mm_sR, mm_cI, mm_cJ, mm_I, mm_J, mm_R, mm_K, mm_N, psh_s, psh_n, z_n, z_i, z_r, z_l, Nat.reduceAdd, Nat.reduceLeDiff, mk0 H, mr0 H, mr1 H, mr2 H, mr3 H, mr4 H, mr5 H, mr6 H, mk1 H, mk2 H, mk3 H, mk4 H, mk5 H, mk6 H, mk7 H, mn1 H, mn2 H, mn3 H, mn4 H, mn5 H, mn6 H, mn7 H, mne H, mne0 H, mk0 H2, mr1 H2, mr2 H2, mr4 H2, mr5 H2, mr6 H2, mk2 H2, mk3 H2, mk5 H2, mk6 H2, mk7 H2, mn2 H2, mn3 H2, mn5 H2, mn6 H2, mn7 H2, mne H2, mne0 H2, ne_eq, true_or, or_true, not_false_eq_true, Nat.reduceEqDiff, Nat.reduceLT, Nat.reduceLeDiff, Nat.reduceAdd, ix_c0, ix_c5, cpy_00, hG, hF, e1, e2, p1, p2, Int32.lt_irrefl, not_false_eq_true, true_and, and_true, Nat.zero_add, hG8, hF8, hz, hz0, hzm, hzc, if_false, if_true, Nat.le_refl, Nat.reduceLeDiff, mz1, my1, mz2, my2, mz3, my3, mz4, my4, mz5, my5, mz6, my6, mz7, my7, mz8, my8, mz9, my9, mz10, my10, mz11, my11, Nat.add_left_cancel_iff, show (5 : Int32) < 0 ↔ False from by decide]
  refine congrArg (Q none) (congrArg (fun t => mm t j r E) ?_)
  funext a i
  simp only [layH, cpy_00, up2, hz, hz0, hzm, hzc, mz1, my1, mz2, my2, mz3, my3, mz4, my4, mz5, my5, mz6, my6, mz7, my7, mz8, my8, mz9, my9, mz10, my10, mz11, my11, Nat.add_left_cancel_iff, ne_eq, true_or, or_true, not_false_eq_true, Nat.reduceEqDiff, Nat.reduceLT, Nat.reduceLeDiff, Nat.reduceAdd, if_false, if_true]
  by_cases c2 : a = m + 2
  · simp [c2]
  · by_cases c3 : a = m + 3
    · simp [c3]
    · by_cases c5 : a = m + 5
      · simp [c5]
      · by_cases c6 : a = m + 6
        · simp [c6]
        · by_cases c7 : a = m + 7
          · simp [c7]
          · by_cases c0 : a = m
            · simp [c0]
            · simp [c2, c3, c5, c6, c7, c0]
end MD
