/-! ===== rows made, bodies kept, what is taken ===== -/
def putF {α : Type} (f : Nat → α) (s : Nat) (x : α) : Nat → α := fun i => if i = s then x else f i
theorem putF_s {α : Type} {f : Nat → α} {s : Nat} {x : α} : putF f s x s = x := if_pos rfl
theorem putF_n {α : Type} {f : Nat → α} {s i : Nat} {x : α} (h : i ≠ s) : putF f s x i = f i := if_neg h
def filJ (a : Nat) (v : Int64) : Nat → Nat → Jp → Jp
  | _, 0, j => j
  | i, k + 1, j => filJ a v (i + 1) k (up2 j a i v)
theorem filJ_v {a : Nat} {v : Int64} : ∀ {k i : Nat} {j : Jp} {c x : Nat}, filJ a v i k j c x = if c = a ∧ i ≤ x ∧ x < i + k then v else j c x := by
  intro k
  induction k with
  | zero => intro i j c x; rw [filJ, if_neg (by omega)]
  | succ k ih =>
    intro i j c x
    rw [filJ, ih]
    by_cases h1 : c = a
    · subst h1
      by_cases h2 : x = i
      · subst h2; rw [if_neg (by omega), up2_s, if_pos (by omega)]
      · rw [up2_i h2]
        by_cases h3 : i + 1 ≤ x ∧ x < i + 1 + k
        · rw [if_pos ⟨rfl, h3⟩, if_pos (by omega)]
        · rw [if_neg (fun hh => h3 hh.2), if_neg (by omega)]
    · rw [if_neg (by omega), if_neg (by omega), up2_a h1]
section RW
variable {d : Nat} {M : Mem} {h h0 h1 h2 : Hp} {j j1 : Jp} {r r1 : Rp} {E : EE} {l G F A s n : Nat} {W : LW} {b bt bm : BB} {Q : Option PV → Mem → Prop} {hd : Int32} {V : Nat → Int64} {HD : Nat → Int32} {N : Nat → Nat} {VV : Nat → Nat → Int64}
theorem s_filJ {a L : Nat} {v : Int64} (hK : E.1 a = 14) (hN : E.2.1 a = L) (ha : a ≠ 1) (hL : L < 2 ^ 31) : ∀ {k i : Nat} {j : Jp}, i + k = L → WP d 248 6 [some (vr a), some (vl v), none, some (vi (nI i)), some (vi (nI L))] [] (mm h j r E) Q = Q none (mm h (filJ a v i k j) r E) := by
  have ha' : (a = 1) = False := eq_false ha
  intro k
  induction k with
  | zero =>
    intro i j hk
    have : i = L := by omega
    subst this
    rw [k248_6]
    simp only [k248_0, k248_1, k248_2, k248_4, k248_7, k248_9, k248_12, k248_13, k248_14, k248_15, k248_16, k248_19, k248_22, mm_sI, mm_sJ, mm_sR, mm_cI, mm_cJ, mm_I, mm_J, mm_R, mm_K, mm_N, psh_s, psh_n, z_n, z_i, z_r, z_l, Nat.reduceAdd, Nat.reduceLeDiff, false_or, or_false, ne_eq, true_or, or_true, not_false_eq_true, Nat.reduceEqDiff, Nat.reduceLT, Nat.reduceLeDiff, Nat.reduceAdd, Int32.le_refl, if_true]; rfl
  | succ k ih =>
    intro i j hk
    have hi : inb (nI i) L = True := eq_true (by rw [inb_n (by omega)]; omega)
    rw [k248_6]
    simp only [k248_0, k248_1, k248_2, k248_4, k248_7, k248_9, k248_12, k248_13, k248_14, k248_15, k248_16, k248_19, k248_22, mm_sI, mm_sJ, mm_sR, mm_cI, mm_cJ, mm_I, mm_J, mm_R, mm_K, mm_N, psh_s, psh_n, z_n, z_i, z_r, z_l, Nat.reduceAdd, Nat.reduceLeDiff, false_or, or_false, ne_eq, true_or, or_true, not_false_eq_true, Nat.reduceEqDiff, Nat.reduceLT, Nat.reduceLeDiff, Nat.reduceAdd, nLe (show L < 2 ^ 31 by omega) (show i < 2 ^ 31 by omega), show ¬ L ≤ i by omega, if_false, hK, hN, hi, ha', ix_n (show i < 2 ^ 31 by omega), nS1]
    rw [ih (by omega)]; rfl
theorem s_fillJ {a L : Nat} {v : Int64} (hK : E.1 a = 14) (hN : E.2.1 a = L) (ha : a ≠ 1) (hL : L < 2 ^ 31) : WP d 248 0 [some (vr a), some (vl v), none, none, none] [] (mm h j r E) Q = Q none (mm h (filJ a v 0 L j) r E) := by
  have ha' : (a = 1) = False := eq_false ha
  have hk : 13 ≤ E.1 a ∧ E.1 a ≤ 19 := by rw [hK]; decide
  have k3 := @k248_3 d (some (vr a)) (some (vl v)) none (some (vi 0)) none [] (mm h j r E) Q a hk
  simp only [k248_0, k248_1, k248_2, k248_4, k248_7, k248_9, k248_12, k248_13, k248_14, k248_15, k248_16, k248_19, k248_22, mm_sI, mm_sJ, mm_sR, mm_cI, mm_cJ, mm_I, mm_J, mm_R, mm_K, mm_N, psh_s, psh_n, z_n, z_i, z_r, z_l, Nat.reduceAdd, Nat.reduceLeDiff, false_or, or_false, ne_eq, true_or, or_true, not_false_eq_true, Nat.reduceEqDiff, Nat.reduceLT, Nat.reduceLeDiff, Nat.reduceAdd]
  rw [k3]
  simp only [k248_0, k248_1, k248_2, k248_4, k248_7, k248_9, k248_12, k248_13, k248_14, k248_15, k248_16, k248_19, k248_22, mm_sI, mm_sJ, mm_sR, mm_cI, mm_cJ, mm_I, mm_J, mm_R, mm_K, mm_N, psh_s, psh_n, z_n, z_i, z_r, z_l, Nat.reduceAdd, Nat.reduceLeDiff, false_or, or_false, ne_eq, true_or, or_true, not_false_eq_true, Nat.reduceEqDiff, Nat.reduceLT, Nat.reduceLeDiff, Nat.reduceAdd, hN]
  rw [show (0 : Int32) = nI 0 from rfl, show Int32.ofNat L = nI L from rfl, s_filJ hK hN ha hL (k := L) (i := 0) (by omega)]
theorem sh_rr (hS : Sh r E) {s v : Nat} (hs : s < 6) : Sh (up2 r (101 + 2 * s) 1 v) E := by
  refine hS.rr (by rw [up2_a (show 2 ≠ 101 + 2 * s by omega)]) (fun t ht => ?_)
  have q : ∀ t ∈ RfL, t.2.1 = 1 → t.1 ≤ 100 ∨ 113 ≤ t.1 := by decide +kernel
  rw [up2]
  by_cases e : t.1 = 101 + 2 * s
  · rw [if_pos e]
    by_cases e1 : t.2.1 = 1
    · have := q t ht e1; omega
    · rw [if_neg e1]
  · rw [if_neg e]
end RW
