/-! ===== shelves: what both hold ===== -/
/-- what shelf s of the class holds: hd as the model tells it, n elements V; nobody: -1, a row: its sort, a body: 10 more -/
def ShC (s : Nat) (hd : Int32) (n : Nat) (V : Nat → Int64) (h : Hp) (j : Jp) (r : Rp) : Prop :=
  h (101 + 2 * s) 3 = nI n ∧ n ≤ 60 ∧ (∀ i, i < 60 → j (102 + 2 * s) i = V i) ∧ h (101 + 2 * s) 2 = (if inb hd 5 then hd else -1) ∧ (r (101 + 2 * s) 1 = 0 ↔ hd < 10) ∧ (hd = -1 ∨ inb hd 5 ∨ 10 ≤ hd) ∧ (hd = 0 → ∀ i, i < 60 → -128 ≤ (V i).toInt ∧ (V i).toInt ≤ 127) ∧ (n ≠ 0 → inb hd 5)
theorem run_det {f f2 d y pc : Nat} {ls : Loc1} {st : List PV} {M : Mem} {a a2 : Option PV × Mem} (h1 : run f d y pc ls st M = some a) (h2 : run f2 d y pc ls st M = some a2) : a = a2 := by
  have e1 := run_le h1 (Nat.le_max_left f f2)
  have e2 := run_le h2 (Nat.le_max_right f f2)
  rw [e1] at e2
  exact Option.some.inj e2
/-- the evaluator is a function -/
theorem WP.fn {d y pc : Nat} {ls : Loc1} {st : List PV} {M M' : Mem} {v : Option PV} {Q : Option PV → Mem → Prop} (key : ∀ Q : Option PV → Mem → Prop, Q v M' → WP d y pc ls st M Q) : WP d y pc ls st M Q = Q v M' := by
  apply propext
  constructor
  · intro hw
    obtain ⟨f, a, hrun, hq⟩ := hw
    obtain ⟨f2, a2, hrun2, hq2⟩ := key (fun w N => w = v ∧ N = M') ⟨rfl, rfl⟩
    have e := run_det hrun hrun2
    subst e
    rw [hq2.1, hq2.2] at hq; exact hq
  · exact key Q
section SHS
variable {d : Nat} {M : Mem} {h h0 h1 h2 : Hp} {j : Jp} {r : Rp} {E : EE} {l G F A s n : Nat} {W : LW} {b bt : BB} {Q : Option PV → Mem → Prop} {hd : Int32} {V : Nat → Int64}
theorem shR (hS : Sh r E) (hs : s < 6) : r 100 s = 101 + 2 * s := by
  match s, hs with
  | 0, _ => exact R100_0 hS
  | 1, _ => exact R100_1 hS
  | 2, _ => exact R100_2 hS
  | 3, _ => exact R100_3 hS
  | 4, _ => exact R100_4 hS
  | 5, _ => exact R100_5 hS
  | s + 6, hs => omega
theorem shK (hS : Sh r E) (hs : s < 6) : E.1 (101 + 2 * s) = 9 := by
  match s, hs with
  | 0, _ => exact K101 hS
  | 1, _ => exact K103 hS
  | 2, _ => exact K105 hS
  | 3, _ => exact K107 hS
  | 4, _ => exact K109 hS
  | 5, _ => exact K111 hS
  | s + 6, hs => omega
theorem shE (hS : Sh r E) (hs : s < 6) : r (101 + 2 * s) 0 = 102 + 2 * s := by
  match s, hs with
  | 0, _ => exact R101_0 hS
  | 1, _ => exact R103_0 hS
  | 2, _ => exact R105_0 hS
  | 3, _ => exact R107_0 hS
  | 4, _ => exact R109_0 hS
  | 5, _ => exact R111_0 hS
  | s + 6, hs => omega
theorem shKe (hS : Sh r E) (hs : s < 6) : E.1 (102 + 2 * s) = 14 := by
  match s, hs with
  | 0, _ => exact K102 hS
  | 1, _ => exact K104 hS
  | 2, _ => exact K106 hS
  | 3, _ => exact K108 hS
  | 4, _ => exact K110 hS
  | 5, _ => exact K112 hS
  | s + 6, hs => omega
theorem shNe (hS : Sh r E) (hs : s < 6) : E.2.1 (102 + 2 * s) = 60 := by
  match s, hs with
  | 0, _ => exact N102 hS
  | 1, _ => exact N104 hS
  | 2, _ => exact N106 hS
  | 3, _ => exact N108 hS
  | 4, _ => exact N110 hS
  | 5, _ => exact N112 hS
  | s + 6, hs => omega
theorem sh2 : (102 + 2 * s = 1) = False := by apply eq_false; omega
theorem s_isShelf {x : Int32} : WP (d + 1) 142 0 [some (vi x)] [] M Q = Q (some (vi (b2i (inb x 6)))) M := by
  simp only [k142_0, k142_1, k142_2, k142_3, k142_6, mm_sI, mm_sJ, mm_sR, mm_cI, mm_cJ, mm_I, mm_J, mm_R, mm_K, mm_N, psh_s, psh_n, z_n, z_i, z_r, z_l, Nat.reduceAdd, Nat.reduceLeDiff, s_within, b2i_01]
  rw [b2i_c in_5]
/-- part of k from i on -/
def partP (n : Nat) (i k : Int32) : Prop := 0 ≤ k ∧ 0 ≤ i ∧ i ≤ nI n - k
theorem s_hasPart {a : Nat} {i k : Int32} (hK : E.1 a = 9) (hn : h a 3 = nI n) {Q : Option PV → Mem → Prop} (h1 : partP n i k → Q (some (vi 1)) (mm h j r E)) (h2 : ¬ partP n i k → Q (some (vi 0)) (mm h j r E)) :
    WP d 64 0 [some (vr a), some (vi i), some (vi k)] [] (mm h j r E) Q := by
  unfold partP at h1 h2
  simp only [k64_0, k64_1, k64_4, k64_5, k64_8, k64_9, k64_10, k64_13, k64_14, k64_15, k64_18, k64_19, k64_22, k64_23, mm_sI, mm_sJ, mm_sR, mm_cI, mm_cJ, mm_I, mm_J, mm_R, mm_K, mm_N, psh_s, psh_n, z_n, z_i, z_r, z_l, Nat.reduceAdd, Nat.reduceLeDiff, false_or, or_false, ne_eq, true_or, or_true, not_false_eq_true, Nat.reduceEqDiff, Nat.reduceLT, Nat.reduceLeDiff, Nat.reduceAdd, hK, hn]
  by_cases c1 : k < 0
  · simp only [c1, if_true]; exact h2 (fun hh => (Int32.not_le.2 c1) hh.1)
  simp only [c1, if_false]
  by_cases c2 : i < 0
  · simp only [c2, if_true]; exact h2 (fun hh => (Int32.not_le.2 c2) hh.2.1)
  simp only [c2, if_false]
  by_cases c3 : nI n - k < i
  · simp only [c3, if_true]; exact h2 (fun hh => (Int32.not_le.2 c3) hh.2.2)
  · simp only [c3, if_false]; exact h1 ⟨Int32.not_lt.1 c1, Int32.not_lt.1 c2, Int32.not_lt.1 c3⟩
theorem part_1 {i : Int32} (hn : n ≤ 60) : partP n i 1 ↔ inb i n := by
  unfold partP
  constructor
  · rintro ⟨_, h1, h2⟩; exact (inb_w (by omega)).1 ⟨h1, h2⟩
  · intro hh
    have := (inb_w (by omega)).2 hh
    exact ⟨by decide, this.1, this.2⟩
/-- an element as it is read -/
theorem s_at {i : Int32} (hS : Sh r E) (hs : s < 6) (C : ShC s hd n V h j r) : WP (d + 1) 65 0 [some (vr (101 + 2 * s)), some (vi i)] [] (mm h j r E) Q = Q (some (vl (if inb i n then V (ix i) else 0))) (mm h j r E) := by
  obtain ⟨c1, c2, c3, _⟩ := C
  refine WP.fn ?_
  intro Q hQ
  simp only [k65_0, k65_1, k65_2, k65_3, k65_6, k65_9, k65_10, k65_13, k65_14, k65_15, k65_18, k65_19, mm_sI, mm_sJ, mm_sR, mm_cI, mm_cJ, mm_I, mm_J, mm_R, mm_K, mm_N, psh_s, psh_n, z_n, z_i, z_r, z_l, Nat.reduceAdd, Nat.reduceLeDiff, false_or, or_false, ne_eq, true_or, or_true, not_false_eq_true, Nat.reduceEqDiff, Nat.reduceLT, Nat.reduceLeDiff, Nat.reduceAdd, shK hS hs]
  refine s_hasPart (shK hS hs) c1 ?_ ?_
  · intro hp
    have hi := (part_1 c2).1 hp
    rw [if_pos hi] at hQ
    have h60 : inb i 60 = True := eq_true (inb_mono hi c2)
    have hl : ix i < 60 := by have : ix i < n := hi.2; omega
    simp only [k65_0, k65_1, k65_2, k65_3, k65_6, k65_9, k65_10, k65_13, k65_14, k65_15, k65_18, k65_19, mm_sI, mm_sJ, mm_sR, mm_cI, mm_cJ, mm_I, mm_J, mm_R, mm_K, mm_N, psh_s, psh_n, z_n, z_i, z_r, z_l, Nat.reduceAdd, Nat.reduceLeDiff, false_or, or_false, ne_eq, true_or, or_true, not_false_eq_true, Nat.reduceEqDiff, Nat.reduceLT, Nat.reduceLeDiff, Nat.reduceAdd, shK hS hs, shE hS hs, shKe hS hs, shNe hS hs, sh2, h60, e10, if_false, c3 (ix i) hl]
    exact hQ
  · intro hp
    have hi : ¬ inb i n := fun hh => hp ((part_1 c2).2 hh)
    rw [if_neg hi] at hQ
    simp only [k65_0, k65_1, k65_2, k65_3, k65_6, k65_9, k65_10, k65_13, k65_14, k65_15, k65_18, k65_19, mm_sI, mm_sJ, mm_sR, mm_cI, mm_cJ, mm_I, mm_J, mm_R, mm_K, mm_N, psh_s, psh_n, z_n, z_i, z_r, z_l, Nat.reduceAdd, Nat.reduceLeDiff, false_or, or_false, ne_eq, true_or, or_true, not_false_eq_true, Nat.reduceEqDiff, Nat.reduceLT, Nat.reduceLeDiff, Nat.reduceAdd, if_true]
    exact hQ
/-- a book is refused, or read -/
theorem s_bookRefusal (hS : Sh r E) (hs : s < 6) (C : ShC s hd n V h j r) : WP (d + 1) 105 0 [some (vr (101 + 2 * s))] [] (mm h j r E) Q = Q (some (vi (if hd = -1 then -11 else if hd = 0 then 0 else -12))) (mm h j r E) := by
  obtain ⟨c1, c2, c3, c4, c5, c6, _⟩ := C
  refine WP.fn ?_
  intro Q hQ
  by_cases h1 : hd = -1
  · subst h1
    have r0 : r (101 + 2 * s) 1 = 0 := c5.2 (by decide)
    rw [if_neg (by decide)] at c4
    rw [if_pos rfl] at hQ
    simp only [k105_0, k105_1, k105_4, k105_7, k105_9, k105_10, k105_11, k105_14, k105_17, k105_18, k105_21, k105_23, k59_0, k59_1, k59_4, k59_7, k59_8, k59_11, k59_14, k59_15, k59_18, k59_19, mm_sI, mm_sJ, mm_sR, mm_cI, mm_cJ, mm_I, mm_J, mm_R, mm_K, mm_N, psh_s, psh_n, z_n, z_i, z_r, z_l, Nat.reduceAdd, Nat.reduceLeDiff, false_or, or_false, ne_eq, true_or, or_true, not_false_eq_true, Nat.reduceEqDiff, Nat.reduceLT, Nat.reduceLeDiff, Nat.reduceAdd, shK hS hs, r0, if_true, c4, show ¬ ((0 : Int32) ≤ -1) by decide, if_false, e10]
    exact hQ
  · rw [if_neg h1] at hQ
    by_cases h5 : inb hd 5
    · have r0 : r (101 + 2 * s) 1 = 0 := c5.2 (by rw [iLt]; have := inb_i h5; rw [show (10 : Int32).toInt = 10 from rfl]; omega)
      rw [if_pos h5] at c4
      have hp : (0 : Int32) ≤ hd := by rw [iLe, i0]; exact (inb_i h5).1
      simp only [k105_0, k105_1, k105_4, k105_7, k105_9, k105_10, k105_11, k105_14, k105_17, k105_18, k105_21, k105_23, k59_0, k59_1, k59_4, k59_7, k59_8, k59_11, k59_14, k59_15, k59_18, k59_19, k61_0, k61_1, k61_4, k61_7, k61_8, k61_11, k61_12, mm_sI, mm_sJ, mm_sR, mm_cI, mm_cJ, mm_I, mm_J, mm_R, mm_K, mm_N, psh_s, psh_n, z_n, z_i, z_r, z_l, Nat.reduceAdd, Nat.reduceLeDiff, false_or, or_false, ne_eq, true_or, or_true, not_false_eq_true, Nat.reduceEqDiff, Nat.reduceLT, Nat.reduceLeDiff, Nat.reduceAdd, shK hS hs, r0, if_true, c4, hp]
      by_cases h0 : hd = 0
      · simp only [h0, if_true] at hQ ⊢
        first | exact hQ | (simp only [k105_0, k105_1, k105_4, k105_7, k105_9, k105_10, k105_11, k105_14, k105_17, k105_18, k105_21, k105_23, mm_sI, mm_sJ, mm_sR, mm_cI, mm_cJ, mm_I, mm_J, mm_R, mm_K, mm_N, psh_s, psh_n, z_n, z_i, z_r, z_l, Nat.reduceAdd, Nat.reduceLeDiff, e10, if_false]; exact hQ)
      · simp only [h0, if_false] at hQ ⊢
        first | exact hQ | (simp only [k105_0, k105_1, k105_4, k105_7, k105_9, k105_10, k105_11, k105_14, k105_17, k105_18, k105_21, k105_23, mm_sI, mm_sJ, mm_sR, mm_cI, mm_cJ, mm_I, mm_J, mm_R, mm_K, mm_N, psh_s, psh_n, z_n, z_i, z_r, z_l, Nat.reduceAdd, Nat.reduceLeDiff, if_true]; exact hQ)
    · have h10 : 10 ≤ hd := (c6.resolve_left h1).resolve_left h5
      have rn : ¬ r (101 + 2 * s) 1 = 0 := fun hh => (Int32.not_lt.2 h10) (c5.1 hh)
      have h0 : ¬ hd = 0 := by intro hh; subst hh; exact absurd h10 (by decide)
      rw [if_neg h5] at c4
      rw [if_neg h0] at hQ
      simp only [k105_0, k105_1, k105_4, k105_7, k105_9, k105_10, k105_11, k105_14, k105_17, k105_18, k105_21, k105_23, k59_0, k59_1, k59_4, k59_7, k59_8, k59_11, k59_14, k59_15, k59_18, k59_19, k61_0, k61_1, k61_4, k61_7, k61_8, k61_11, k61_12, mm_sI, mm_sJ, mm_sR, mm_cI, mm_cJ, mm_I, mm_J, mm_R, mm_K, mm_N, psh_s, psh_n, z_n, z_i, z_r, z_l, Nat.reduceAdd, Nat.reduceLeDiff, false_or, or_false, ne_eq, true_or, or_true, not_false_eq_true, Nat.reduceEqDiff, Nat.reduceLT, Nat.reduceLeDiff, Nat.reduceAdd, shK hS hs, rn, if_true, if_false, c4, show ¬ ((-1 : Int32) = 0) by decide]
      exact hQ
end SHS
