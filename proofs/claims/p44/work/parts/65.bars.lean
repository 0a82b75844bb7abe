/-! ===== bars ===== -/
def barN (b : BB) (f : Nat) : Nat := ix (b 3 f) + 1
def bgP (b : BB) (s : Int32) (n : Nat) (f : Nat) : Bool := bit s f && decide (n % barN b f = 0)
def lcF (b : BB) (s : Int32) : Nat → Nat → Nat → Nat
  | _, 0, a => a
  | f, k + 1, a => lcF b s (f + 1) k (if bit s f = true then Nat.lcm a (barN b f) else a)
def ntL (good : Nat → Bool) : Nat → Nat → Nat
  | _, 0 => 2520
  | n, k + 1 => if good n = true then n else ntL good (n + 1) k
def barsA (F : Nat) (b : BB) (s n : Int32) : Int32 :=
  if inb s (2 ^ F) ∧ (-1 ≤ n ∧ n ≤ 9999) then (if n = -1 then nI (lcF b s 0 F 1) else nI (row1 (bgP b s (ix n)) 0 F)) else -1
theorem ntL_e {good : Nat → Bool} {L : Nat} (h1 : 1 ≤ L) (h2 : L ≤ 2520) (hg : ∀ n, good n = decide (L ∣ n)) : ∀ {k n : Nat}, n + k = 2520 → 1 ≤ n → n ≤ L → ntL good n k = L := by
  intro k
  induction k with
  | zero => intro n hk _ hl; rw [ntL]; omega
  | succ k ih =>
    intro n hk hn hl
    rw [ntL, hg n]
    by_cases c : L ∣ n
    · rw [decide_eq_true c, if_pos rfl]
      have := Nat.le_of_dvd (by omega) c
      omega
    · rw [decide_eq_false c, if_neg (by decide)]
      have : n ≠ L := fun e => c (e ▸ Nat.dvd_refl n)
      exact ih (by omega) (by omega) (by omega)
theorem bar_i {b : BB} {f G F : Nat} (w : WF G F b) (hf : f < F) : 1 ≤ barN b f ∧ barN b f ≤ 10 ∧ b 3 f + 1 = nI (barN b f) := by
  have h := w.a3 hf
  have h2 : ix (b 3 f) < 10 := h.2
  refine ⟨by unfold barN; omega, by unfold barN; omega, ?_⟩
  unfold barN
  rw [← nS1, ← inb_nI h]
theorem bar_dvd {n : Nat} (h1 : 1 ≤ n) (h2 : n ≤ 10) : n ∣ 2520 := by
  have : ∀ k : Fin 11, 1 ≤ k.1 → 2520 % k.1 = 0 := by decide
  exact Nat.dvd_of_mod_eq_zero (this ⟨n, by omega⟩ h1)
theorem lcF_i {b : BB} {s : Int32} {G F : Nat} (w : WF G F b) : ∀ {k f a : Nat}, f + k ≤ F → a ∣ 2520 → 1 ≤ a → lcF b s f k a ∣ 2520 ∧ 1 ≤ lcF b s f k a := by
  intro k
  induction k with
  | zero => intro f a _ h1 h2; exact ⟨h1, h2⟩
  | succ k ih =>
    intro f a hk h1 h2
    rw [lcF]
    have hb := bar_i w (show f < F by omega)
    split
    · exact ih (by omega) (Nat.lcm_dvd h1 (bar_dvd hb.1 hb.2.1)) (Nat.lcm_pos (by omega) (by omega))
    · exact ih (by omega) h1 h2
theorem lcF_d {b : BB} {s : Int32} {n : Nat} : ∀ {k f a : Nat}, lcF b s f k a ∣ n ↔ (a ∣ n ∧ ∀ x, f ≤ x → x < f + k → bit s x = true → barN b x ∣ n) := by
  intro k
  induction k with
  | zero => intro f a; rw [lcF]; exact ⟨fun h => ⟨h, fun x h1 h2 => by omega⟩, fun h => h.1⟩
  | succ k ih =>
    intro f a
    rw [lcF, ih]
    by_cases c : bit s f = true
    · rw [if_pos c]
      constructor
      · intro h
        refine ⟨Nat.dvd_trans (Nat.dvd_lcm_left _ _) h.1, fun x h1 h2 hb => ?_⟩
        by_cases e : x = f
        · subst e; exact Nat.dvd_trans (Nat.dvd_lcm_right _ _) h.1
        · exact h.2 x (by omega) (by omega) hb
      · intro h
        exact ⟨Nat.lcm_dvd h.1 (h.2 f (by omega) (by omega) c), fun x h1 h2 hb => h.2 x (by omega) (by omega) hb⟩
    · rw [if_neg c]
      constructor
      · intro h
        refine ⟨h.1, fun x h1 h2 hb => ?_⟩
        by_cases e : x = f
        · subst e; exact absurd hb c
        · exact h.2 x (by omega) (by omega) hb
      · intro h
        exact ⟨h.1, fun x h1 h2 hb => h.2 x (by omega) (by omega) hb⟩
/-- as many begin as are told: each of them begins -/
theorem bg_all {b : BB} {s : Int32} {n : Nat} : ∀ {k f : Nat}, row1 (bgP b s n) f k ≤ row1 (bit s) f k ∧ (row1 (bgP b s n) f k = row1 (bit s) f k ↔ ∀ x, f ≤ x → x < f + k → bit s x = true → barN b x ∣ n) := by
  intro k
  induction k with
  | zero => intro f; exact ⟨Nat.le_refl _, fun _ x h1 h2 => by omega, fun _ => rfl⟩
  | succ k ih =>
    intro f
    obtain ⟨i1, i2⟩ := @ih (f + 1)
    rw [row1, row1]
    have hp : bgP b s n f = true ↔ (bit s f = true ∧ barN b f ∣ n) := by
      unfold bgP; rw [Bool.and_eq_true, decide_eq_true_iff, Nat.dvd_iff_mod_eq_zero]
    by_cases c : bit s f = true
    · rw [if_pos c]
      by_cases c2 : barN b f ∣ n
      · rw [if_pos (hp.2 ⟨c, c2⟩)]
        refine ⟨by omega, ?_⟩
        rw [show (1 + row1 (bgP b s n) (f + 1) k = 1 + row1 (bit s) (f + 1) k) ↔ row1 (bgP b s n) (f + 1) k = row1 (bit s) (f + 1) k by omega, i2]
        constructor
        · intro h x h1 h2 hb
          by_cases e : x = f
          · subst e; exact c2
          · exact h x (by omega) (by omega) hb
        · intro h x h1 h2 hb; exact h x (by omega) (by omega) hb
      · rw [if_neg (fun h => c2 (hp.1 h).2)]
        refine ⟨by omega, ?_⟩
        constructor
        · intro h; omega
        · intro h; exact absurd (h f (by omega) (by omega) c) c2
    · rw [if_neg c, if_neg (fun h => c (hp.1 h).1)]
      refine ⟨by omega, ?_⟩
      rw [show (0 + row1 (bgP b s n) (f + 1) k = 0 + row1 (bit s) (f + 1) k) ↔ row1 (bgP b s n) (f + 1) k = row1 (bit s) (f + 1) k by omega, i2]
      constructor
      · intro h x h1 h2 hb
        by_cases e : x = f
        · subst e; exact absurd hb c
        · exact h x (by omega) (by omega) hb
      · intro h x h1 h2 hb; exact h x (by omega) (by omega) hb
theorem pc_row_all : ∀ F : Fin 9, ∀ s : Fin 256, s.1 < 2 ^ F.1 → pcI (nI s.1) = nI (row1 (bit (nI s.1)) 0 F.1) := by decide +kernel
/-- the first beat on which all begin -/
theorem nt_lc {b : BB} {s G F : Nat} (w : WF G F b) : ntL (fun n => row1 (bgP b (nI s) n) 0 F == row1 (bit (nI s)) 0 F) 1 2519 = lcF b (nI s) 0 F 1 := by
  have h := lcF_i (s := nI s) w (k := F) (f := 0) (a := 1) (by omega) (by decide) (by decide)
  refine ntL_e h.2 (Nat.le_of_dvd (by decide) h.1) ?_ (by omega) (by omega) h.2
  intro n
  have e := (bg_all (b := b) (s := nI s) (n := n) (k := F) (f := 0)).2
  by_cases c : lcF b (nI s) 0 F 1 ∣ n
  · rw [decide_eq_true c]
    exact beq_iff_eq.2 (e.2 ((lcF_d.1 c).2))
  · rw [decide_eq_false c]
    refine beq_eq_false_iff_ne.2 (fun hh => c (lcF_d.2 ⟨Nat.one_dvd n, e.1 hh⟩))
theorem nMul {a c : Nat} : nI a * nI c = nI (a * c) := by
  rw [nI, nI, nI, ← Int32.ofNat_mul]
section BA
variable {d : Nat} {M : Mem} {h h0 h1 h2 : Hp} {j : Jp} {r : Rp} {E : EE} {l G F A n : Nat} {W : LW} {b bt bm : BB} {Q : Option PV → Mem → Prop}
theorem c_bgL {s : Int32} {n : Nat} (hn : n < 2 ^ 31) (C : CC G F l W b h r E) : ∀ {k f a : Nat} {e : Option PV}, f + k = F → WP d 100 5 [some (vr 2), some (vi (nI n)), some (vi s), some (vi (nI a)), some (vi (nI f)), e] [] (mm h j r E) Q = Q (some (vi (nI (a + row1 (bgP b s n) f k)))) (mm h j r E) := by
  have hS := C.S
  have hF8 := C.F8
  intro k
  induction k with
  | zero =>
    intro f a e hk
    have : f = F := by omega
    subst this
    rw [k100_5]
    simp only [k100_0, k100_1, k100_2, k100_3, k100_7, k100_8, k100_11, k100_14, k100_17, k100_18, k100_21, k100_24, k100_26, k100_27, k100_28, k100_29, k100_31, k100_32, k100_33, k100_35, k100_36, k100_37, k100_40, k100_42, k100_45, k100_46, k100_48, k100_49, k100_52, k100_55, k100_58, k100_61, k100_62, mm_sI, mm_sJ, mm_sR, mm_cI, mm_cJ, mm_I, mm_J, mm_R, mm_K, mm_N, psh_s, psh_n, z_n, z_i, z_r, z_l, Nat.reduceAdd, Nat.reduceLeDiff, K2 hS, R2_0 hS, R2_1 hS, R2_2 hS, R2_6 hS, R2_8 hS, R2_11 hS, R2_12 hS, R2_13 hS, R2_15 hS, R2_16 hS, K3 hS, K11 hS, K19 hS, K27 hS, K32 hS, K37 hS, K98 hS, K99 hS, K100 hS, N37 hS, N98 hS, N99 hS, N100 hS, false_or, or_false, ne_eq, true_or, or_true, not_false_eq_true, Nat.reduceEqDiff, Nat.reduceLT, Nat.reduceLeDiff, Nat.reduceAdd, C.eF, Int32.le_refl, if_true, row1, Nat.add_zero]
  | succ k ih =>
    intro f a e hk
    have hfF : f < F := by omega
    have hb8 : inb (nI f) 8 = True := eq_true (by rw [inb_n (by omega)]; omega)
    have hb := bar_i C.w hfF
    have p1 : (nI (barN b f) ≤ 0) = False := by rw [← nn0, nLe (by omega) (by omega)]; apply eq_false; omega
    have p2 : (nI (barN b f) = 0) = False := by rw [← nn0, nEq (by omega) (by omega)]; apply eq_false; omega
    have em : nI n % nI (barN b f) = nI (n % barN b f) := nMod hn (by omega)
    have ml : n % barN b f < 2 ^ 31 := by have := Nat.mod_le n (barN b f); omega
    have p3 : (nI (n % barN b f) = 0) = (n % barN b f = 0) := nEq (c := 0) ml (by decide)
    rw [k100_5]
    simp only [k100_0, k100_1, k100_2, k100_3, k100_7, k100_8, k100_11, k100_14, k100_17, k100_18, k100_21, k100_24, k100_26, k100_27, k100_28, k100_29, k100_31, k100_32, k100_33, k100_35, k100_36, k100_37, k100_40, k100_42, k100_45, k100_46, k100_48, k100_49, k100_52, k100_55, k100_58, k100_61, k100_62, mm_sI, mm_sJ, mm_sR, mm_cI, mm_cJ, mm_I, mm_J, mm_R, mm_K, mm_N, psh_s, psh_n, z_n, z_i, z_r, z_l, Nat.reduceAdd, Nat.reduceLeDiff, K2 hS, R2_0 hS, R2_1 hS, R2_2 hS, R2_6 hS, R2_8 hS, R2_11 hS, R2_12 hS, R2_13 hS, R2_15 hS, R2_16 hS, K3 hS, K11 hS, K19 hS, K27 hS, K32 hS, K37 hS, K98 hS, K99 hS, K100 hS, N37 hS, N98 hS, N99 hS, N100 hS, R3_0 hS, R3_1 hS, R3_2 hS, R3_3 hS, R3_4 hS, R3_5 hS, R3_6 hS, K4 hS, K5 hS, K6 hS, K7 hS, K8 hS, K9 hS, K10 hS, N4 hS, N5 hS, N6 hS, N7 hS, N8 hS, N9 hS, N10 hS, false_or, or_false, ne_eq, true_or, or_true, not_false_eq_true, Nat.reduceEqDiff, Nat.reduceLT, Nat.reduceLeDiff, Nat.reduceAdd, C.eF, nLe (show F < 2 ^ 31 by omega) (show f < 2 ^ 31 by omega), show ¬ F ≤ f by omega, if_false, bit_n0 (show f < 32 by omega), hb8, ix_n (show f < 2 ^ 31 by omega), c_v3 C hfF, hb.2.2, p1, p2, em, p3, nS1]
    rw [row1]
    unfold bgP
    cases c1 : bit s f with
    | false =>
      simp only [if_true, Bool.false_and, Bool.false_eq_true, if_false, Nat.zero_add]
      rw [ih (by omega)]; rfl
    | true =>
      by_cases c2 : n % barN b f = 0
      · simp only [c2, if_true, if_false, Bool.true_and, decide_true, Bool.true_eq_false]
        rw [ih (by omega), ← Nat.add_assoc]; rfl
      · simp only [c2, if_false, Bool.true_and, decide_false, Bool.true_eq_false, Bool.false_eq_true, Nat.zero_add]
        rw [ih (by omega)]; rfl
theorem c_begin {s : Int32} {n : Nat} (hn : n < 2 ^ 31) (C : CC G F l W b h r E) : WP d 100 0 [some (vr 2), some (vi (nI n)), some (vi s), none, none, none] [] (mm h j r E) Q = Q (some (vi (nI (row1 (bgP b s n) 0 F)))) (mm h j r E) := by
  simp only [k100_0, k100_1, k100_2, k100_3, k100_7, k100_8, k100_11, k100_14, k100_17, k100_18, k100_21, k100_24, k100_26, k100_27, k100_28, k100_29, k100_31, k100_32, k100_33, k100_35, k100_36, k100_37, k100_40, k100_42, k100_45, k100_46, k100_48, k100_49, k100_52, k100_55, k100_58, k100_61, k100_62, mm_sI, mm_sJ, mm_sR, mm_cI, mm_cJ, mm_I, mm_J, mm_R, mm_K, mm_N, psh_s, psh_n, z_n, z_i, z_r, z_l, Nat.reduceAdd, Nat.reduceLeDiff, false_or, or_false, ne_eq, true_or, or_true, not_false_eq_true, Nat.reduceEqDiff, Nat.reduceLT, Nat.reduceLeDiff, Nat.reduceAdd]
  rw [show (0 : Int32) = nI 0 from rfl, c_bgL hn C (k := F) (f := 0) (by omega), Nat.zero_add]
theorem c_ntL {s : Nat} (hs : s < 2 ^ F) (C : CC G F l W b h r E) : ∀ {k n : Nat}, n + k = 2520 → WP (d + 1) 99 2 [some (vr 2), some (vi (nI s)), some (vi (nI n))] [] (mm h j r E) Q = Q (some (vi (nI (ntL (fun n => row1 (bgP b (nI s) n) 0 F == row1 (bit (nI s)) 0 F) n k)))) (mm h j r E) := by
  have hS := C.S
  have hF8 := C.F8
  have t := two_le hF8
  have pe := pc_row_all ⟨F, by omega⟩ ⟨s, by omega⟩ hs
  intro k
  induction k with
  | zero =>
    intro n hk
    have : n = 2520 := by omega
    subst this
    rw [k99_2]
    simp only [k99_0, k99_1, k99_3, k99_6, k99_9, k99_10, k99_11, k99_12, k99_15, k99_16, k99_19, k99_22, k99_23, k99_24, k99_27, k99_30, k99_33, mm_sI, mm_sJ, mm_sR, mm_cI, mm_cJ, mm_I, mm_J, mm_R, mm_K, mm_N, psh_s, psh_n, z_n, z_i, z_r, z_l, Nat.reduceAdd, Nat.reduceLeDiff, K2 hS, R2_0 hS, R2_1 hS, R2_2 hS, R2_6 hS, R2_8 hS, R2_11 hS, R2_12 hS, R2_13 hS, R2_15 hS, R2_16 hS, K3 hS, K11 hS, K19 hS, K27 hS, K32 hS, K37 hS, K98 hS, K99 hS, K100 hS, N37 hS, N98 hS, N99 hS, N100 hS, false_or, or_false, ne_eq, true_or, or_true, not_false_eq_true, Nat.reduceEqDiff, Nat.reduceLT, Nat.reduceLeDiff, Nat.reduceAdd, show (2520 : Int32) ≤ nI 2520 by decide, if_true]; rfl
  | succ k ih =>
    intro n hk
    have p1 : ((2520 : Int32) ≤ nI n) = False := by rw [show (2520 : Int32) = nI 2520 from rfl, nLe (by decide) (by omega)]; apply eq_false; omega
    have r1 := @row1_le (bgP b (nI s) n) F 0
    have r2 := @row1_le (bit (nI s)) F 0
    rw [k99_2]
    simp only [k99_0, k99_1, k99_3, k99_6, k99_9, k99_10, k99_11, k99_12, k99_15, k99_16, k99_19, k99_22, k99_23, k99_24, k99_27, k99_30, k99_33, mm_sI, mm_sJ, mm_sR, mm_cI, mm_cJ, mm_I, mm_J, mm_R, mm_K, mm_N, psh_s, psh_n, z_n, z_i, z_r, z_l, Nat.reduceAdd, Nat.reduceLeDiff, K2 hS, R2_0 hS, R2_1 hS, R2_2 hS, R2_6 hS, R2_8 hS, R2_11 hS, R2_12 hS, R2_13 hS, R2_15 hS, R2_16 hS, K3 hS, K11 hS, K19 hS, K27 hS, K32 hS, K37 hS, K98 hS, K99 hS, K100 hS, N37 hS, N98 hS, N99 hS, N100 hS, false_or, or_false, ne_eq, true_or, or_true, not_false_eq_true, Nat.reduceEqDiff, Nat.reduceLT, Nat.reduceLeDiff, Nat.reduceAdd, p1, if_false, c_begin (show n < 2 ^ 31 by omega) C, s_bitCount, pe, nEq (show row1 (bgP b (nI s) n) 0 F < 2 ^ 31 by omega) (show row1 (bit (nI s)) 0 F < 2 ^ 31 by omega), nS1]
    rw [ntL]
    by_cases c : row1 (bgP b (nI s) n) 0 F = row1 (bit (nI s)) 0 F
    · rw [if_pos c, if_pos (beq_iff_eq.2 c)]
    · rw [if_neg c, if_neg (fun hh => c (beq_iff_eq.1 hh)), ih (by omega)]
theorem c_bars {fr n : Int32} (C : CC G F l W b h r E) : WP (d + 2) 98 0 [some (vr 2), some (vi fr), some (vi n)] [] (mm h j r E) Q = Q (some (vi (barsA F b fr n))) (mm h j r E) := by
  refine WP.fn ?_
  intro Q hQ
  have hS := C.S
  have hF8 := C.F8
  have t := two_le hF8
  unfold barsA at hQ
  have hw : (b2i (0 ≤ fr ∧ fr ≤ nI (2 ^ F) - 1)) = b2i (inb fr (2 ^ F)) := b2i_c (inb_w (by omega))
  simp only [k98_0, k98_1, k98_2, k98_3, k98_4, k98_7, k98_10, k98_11, k98_12, k98_13, k98_16, k98_19, k98_20, k98_21, k98_24, k98_27, k98_30, k98_31, k98_32, k98_33, k98_34, k98_37, k98_38, k98_39, k98_42, k98_45, k98_46, k98_47, k98_48, k98_51, mm_sI, mm_sJ, mm_sR, mm_cI, mm_cJ, mm_I, mm_J, mm_R, mm_K, mm_N, psh_s, psh_n, z_n, z_i, z_r, z_l, Nat.reduceAdd, Nat.reduceLeDiff, K2 hS, R2_0 hS, R2_1 hS, R2_2 hS, R2_6 hS, R2_8 hS, R2_11 hS, R2_12 hS, R2_13 hS, R2_15 hS, R2_16 hS, K3 hS, K11 hS, K19 hS, K27 hS, K32 hS, K37 hS, K98 hS, K99 hS, K100 hS, N37 hS, N98 hS, N99 hS, N100 hS, false_or, or_false, ne_eq, true_or, or_true, not_false_eq_true, Nat.reduceEqDiff, Nat.reduceLT, Nat.reduceLeDiff, Nat.reduceAdd, s_within, C.eF, sh_n hF8, hw, b2i_0]
  by_cases c1 : inb fr (2 ^ F)
  case neg => simp only [eq_false c1, not_false_eq_true, if_true, false_and, if_false] at hQ ⊢; exact hQ
  by_cases c2 : -1 ≤ n ∧ n ≤ 9999
  case neg => simp only [eq_false c2, not_false_eq_true, if_true, false_and, and_false, if_false, eq_true c1, not_true_eq_false] at hQ ⊢; exact hQ
  simp only [eq_true c1, eq_true c2, and_true, not_true_eq_false, if_false, if_true] at hQ ⊢
  obtain ⟨s, hs, rfl, _⟩ := inb_of c1
  by_cases c : n = -1
  · simp only [c, if_true] at hQ ⊢
    simp only [k99_0, k99_1, k99_3, k99_6, k99_9, k99_10, k99_11, k99_12, k99_15, k99_16, k99_19, k99_22, k99_23, k99_24, k99_27, k99_30, k99_33, mm_sI, mm_sJ, mm_sR, mm_cI, mm_cJ, mm_I, mm_J, mm_R, mm_K, mm_N, psh_s, psh_n, z_n, z_i, z_r, z_l, Nat.reduceAdd, Nat.reduceLeDiff, false_or, or_false, ne_eq, true_or, or_true, not_false_eq_true, Nat.reduceEqDiff, Nat.reduceLT, Nat.reduceLeDiff, Nat.reduceAdd]
    rw [show (1 : Int32) = nI 1 from rfl, c_ntL hs C (k := 2519) (n := 1) (by omega), nt_lc C.w]
    simp only [k98_0, k98_1, k98_2, k98_3, k98_4, k98_7, k98_10, k98_11, k98_12, k98_13, k98_16, k98_19, k98_20, k98_21, k98_24, k98_27, k98_30, k98_31, k98_32, k98_33, k98_34, k98_37, k98_38, k98_39, k98_42, k98_45, k98_46, k98_47, k98_48, k98_51, mm_sI, mm_sJ, mm_sR, mm_cI, mm_cJ, mm_I, mm_J, mm_R, mm_K, mm_N, psh_s, psh_n, z_n, z_i, z_r, z_l, Nat.reduceAdd, Nat.reduceLeDiff, false_or, or_false, ne_eq, true_or, or_true, not_false_eq_true, Nat.reduceEqDiff, Nat.reduceLT, Nat.reduceLeDiff, Nat.reduceAdd]
    exact hQ
  · simp only [c, if_false] at hQ ⊢
    obtain ⟨m, hm, rfl⟩ : ∃ m, m < 2 ^ 31 ∧ n = nI m := nI_of (by
      rw [iLt, i0]
      have q := (iLe _ _).1 c2.1
      have q2 : n.toInt ≠ -1 := fun hh => c ((iEq _ _).2 (by rw [hh, im1]))
      rw [im1] at q; omega)
    rw [ix_n hm] at hQ
    rw [c_begin hm C]
    simp only [k98_0, k98_1, k98_2, k98_3, k98_4, k98_7, k98_10, k98_11, k98_12, k98_13, k98_16, k98_19, k98_20, k98_21, k98_24, k98_27, k98_30, k98_31, k98_32, k98_33, k98_34, k98_37, k98_38, k98_39, k98_42, k98_45, k98_46, k98_47, k98_48, k98_51, mm_sI, mm_sJ, mm_sR, mm_cI, mm_cJ, mm_I, mm_J, mm_R, mm_K, mm_N, psh_s, psh_n, z_n, z_i, z_r, z_l, Nat.reduceAdd, Nat.reduceLeDiff, false_or, or_false, ne_eq, true_or, or_true, not_false_eq_true, Nat.reduceEqDiff, Nat.reduceLT, Nat.reduceLeDiff, Nat.reduceAdd]
    exact hQ
end BA
