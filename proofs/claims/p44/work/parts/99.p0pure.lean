/-! ===== what an hour does to a frog; when he is back ===== -/
section PU
variable {W : LW} {F G f g n k i : Nat} {b b' : BB} {u : Int32}
theorem it_S : ∀ {n : Nat} {b : BB}, itB W F (n + 1) b = hrB W F (itB W F n b) := by
  intro n
  induction n with
  | zero => intro b; rfl
  | succ n ih => intro b; exact ih (b := hrB W F b)
theorem go_0 : goB W f b 0 = b 0 := by
  unfold goB
  split
  · rfl
  · split
    · rw [up2_a (by decide)]
    · split
      · rw [up2_a (by decide), up2_a (by decide), up2_a (by decide), up2_a (by decide), up2_a (by decide)]
      · rw [up2_a (by decide), up2_a (by decide)]
theorem go_5 : goB W f b 5 f = if bkB b f then 0 else if b 4 f = -1 then b 5 f else b 5 f - lossB W b f := by
  unfold goB
  by_cases c1 : b 4 f = -1
  · have : ¬ bkB b f := fun h => h.1 c1
    rw [if_pos c1, if_neg this, if_pos c1]
  rw [if_neg c1]
  by_cases c2 : b 6 1 < b 6 0
  · have : ¬ bkB b f := fun h => h.2.1 c2
    rw [if_pos c2, if_neg this, if_neg c1, up2_s]
  rw [if_neg c2]
  by_cases c3 : nearB (b 2 f) (b 0 (ix (b 4 f))) = b 0 (ix (b 4 f))
  · have : bkB b f := ⟨c1, c2, c3⟩
    rw [if_pos c3, if_pos this, up2_s]
  · have : ¬ bkB b f := fun h => c3 h.2.2
    rw [if_neg c3, if_neg this, if_neg c1, up2_a (by decide), up2_s]
theorem go_2 (h : bkB b f) : goB W f b 2 f = b 0 (ix (b 4 f)) := by
  unfold goB
  rw [if_neg h.1, if_neg h.2.1, if_pos h.2.2, up2_a (by decide), up2_a (by decide), up2_a (by decide), up2_s]; exact h.2.2
theorem hr_0 (hf : f < F) : hrB W F b 0 = b 0 := by
  have a := ag_hr (W := W) (b := b) hf Ag.rf
  rw [a.1]
  show up2 (goB W f b) 6 1 (nxt (goB W f b 6 1)) 0 = b 0
  rw [up2_a (by decide), go_0]
theorem hr_4 (hf : f < F) : hrB W F b 4 f = if bkB b f then -1 else b 4 f := by
  have a := ag_hr (W := W) (b := b) hf Ag.rf
  rw [a.2.2.2.2.1]
  show up2 (goB W f b) 6 1 (nxt (goB W f b 6 1)) 4 f = _
  rw [up2_a (by decide), go_4]
theorem hr_5 (hf : f < F) : hrB W F b 5 f = if bkB b f then 0 else if b 4 f = -1 then b 5 f else b 5 f - lossB W b f := by
  have a := ag_hr (W := W) (b := b) hf Ag.rf
  rw [a.2.2.2.2.2]
  show up2 (goB W f b) 6 1 (nxt (goB W f b 6 1)) 5 f = _
  rw [up2_a (by decide), go_5]
theorem hr_2 (hf : f < F) (h : bkB b f) : hrB W F b 2 f = b 0 (ix (b 4 f)) := by
  have a := ag_hr (W := W) (b := b) hf Ag.rf
  rw [a.2.2.1]
  show up2 (goB W f b) 6 1 (nxt (goB W f b 6 1)) 2 f = _
  rw [up2_a (by decide), go_2 h]
/-- what is held never grows -/
theorem hr_le (w : WF G F b) (hf : f < F) : hrB W F b 5 f ≤ b 5 f := by
  have h5 := inb_i (w.a5 hf)
  rw [hr_5 hf, iLe]
  split
  · rw [i0]; exact h5.1
  · split
    · exact Int.le_refl _
    · obtain ⟨l1, l2⟩ := loss_i (W := W) h5.1
      rw [subI (by omega) (by omega)]; omega
theorem it_le (w : WF G F b) (hf : f < F) : itB W F (n + 1) b 5 f ≤ itB W F n b 5 f := by
  rw [it_S]; exact hr_le w.it hf
theorem it_0 (hf : f < F) : ∀ {n : Nat}, itB W F n b 0 = b 0 := by
  intro n
  induction n with
  | zero => rfl
  | succ n ih => rw [it_S, hr_0 hf, ih]
/-- he owes the same girl, or none -/
theorem it_4 (hf : f < F) : ∀ {n : Nat}, itB W F n b 4 f = b 4 f ∨ itB W F n b 4 f = -1 := by
  intro n
  induction n with
  | zero => exact Or.inl rfl
  | succ n ih =>
    rw [it_S, hr_4 hf]
    split
    · exact Or.inr rfl
    · exact ih
/-- in the hour he is back he holds nothing and sits at her home -/
theorem it_back (hf : f < F) (h1 : itB W F n b 4 f ≠ -1) (h2 : itB W F (n + 1) b 4 f = -1) : itB W F (n + 1) b 5 f = 0 ∧ itB W F (n + 1) b 2 f = b 0 (ix (b 4 f)) := by
  have e4 := (it_4 (W := W) (b := b) hf (n := n)).resolve_right h1
  rw [it_S, hr_4 hf] at h2
  have bk : bkB (itB W F n b) f := by
    refine Decidable.byContradiction fun c => ?_
    rw [if_neg c] at h2; exact h1 h2
  rw [it_S, hr_5 hf, if_pos bk, hr_2 hf bk, it_0 hf, e4]
  exact ⟨rfl, rfl⟩
/-- bits of what is owed -/
theorem owL_bit (h8 : f < 32) : ∀ {k i : Nat} {a : Int32}, i + k ≤ 32 → bit (owL b i k a) f = (bit a f || decide (i ≤ f ∧ f < i + k ∧ b 4 f ≠ -1)) := by
  intro k
  induction k with
  | zero =>
    intro i a _
    have : ¬ (i ≤ f ∧ f < i + 0 ∧ b 4 f ≠ -1) := by omega
    rw [owL, decide_eq_false this, Bool.or_false]
  | succ k ih =>
    intro i a hk
    rw [owL, ih (by omega)]
    have eo : bit (a ||| (if b 4 i = -1 then 0 else (1 : Int32) <<< (nI i &&& 31))) f = (bit a f || decide (f = i ∧ b 4 i ≠ -1)) := by
      have : ∀ x y : Int32, bit (x ||| y) f = (bit x f || bit y f) := fun x y => by unfold bit; rw [Int32.toBitVec_or, BitVec.getLsbD_or]
      rw [this]
      by_cases c : b 4 i = -1
      · rw [if_pos c, bit_0, decide_eq_false (fun hh => hh.2 c)]
      · rw [if_neg c, bit_1 (by omega) h8]
        congr 1
        exact decide_eq_decide.2 ⟨fun h => ⟨h, c⟩, fun h => h.1⟩
    rw [eo, Bool.or_assoc]
    congr 1
    by_cases c : f = i
    · subst c
      by_cases c2 : b 4 f = -1
      · rw [decide_eq_false (fun hh => hh.2 c2), decide_eq_false (fun hh => hh.2.2 c2), decide_eq_false (fun hh => hh.2.2 c2)]; rfl
      · rw [decide_eq_true (⟨rfl, c2⟩ : f = f ∧ b 4 f ≠ -1), decide_eq_true (⟨Nat.le_refl _, by omega, c2⟩ : f ≤ f ∧ f < f + (k + 1) ∧ b 4 f ≠ -1)]; rfl
    · rw [decide_eq_false (fun hh => c hh.1), Bool.false_or]
      exact decide_eq_decide.2 ⟨fun h => ⟨by omega, by omega, h.2.2⟩, fun h => ⟨by omega, by omega, h.2.2⟩⟩
theorem ow_bit (hf : f < F) (h8 : F ≤ 8) : (owB F b &&& ((1 : Int32) <<< (nI f &&& 31)) = 0) = (b 4 f = -1) := by
  rw [bit_n0 (by omega)]
  unfold owB
  rw [owL_bit (by omega) (by omega), bit_0, Bool.false_or]
  apply propext
  rw [decide_eq_false_iff_not]
  constructor
  · intro h; exact Decidable.byContradiction fun c => h ⟨by omega, by omega, c⟩
  · intro h hh; exact hh.2.2 h
/-- when he is back: the first hour in which he owes none -/
theorem bw_spec (hf : f < F) (h8 : F ≤ 8) : ∀ {k n : Nat} {b : BB}, (∃ m, m < k ∧ bwL F W ((1 : Int32) <<< (nI f &&& 31)) n k b = nI (n + m) ∧ itB W F m b 4 f = -1 ∧ ∀ i, i < m → itB W F i b 4 f ≠ -1) ∨ (bwL F W ((1 : Int32) <<< (nI f &&& 31)) n k b = -2 ∧ ∀ i, i < k → itB W F i b 4 f ≠ -1) := by
  intro k
  induction k with
  | zero => intro n b; exact Or.inr ⟨rfl, fun i hi => absurd hi (Nat.not_lt_zero _)⟩
  | succ k ih =>
    intro n b
    rw [bwL]
    by_cases c : b 4 f = -1
    · left
      refine ⟨0, by omega, ?_, c, fun i hi => absurd hi (Nat.not_lt_zero _)⟩
      rw [if_pos (by rw [ow_bit hf h8]; exact c)]; rfl
    · rw [if_neg (by rw [ow_bit hf h8]; exact c)]
      rcases ih (n := n + 1) (b := hrB W F b) with ⟨m, hm, e, z1, z2⟩ | ⟨e, z⟩
      · left
        refine ⟨m + 1, by omega, by rw [e, show n + 1 + m = n + (m + 1) by omega], z1, fun i hi => ?_⟩
        cases i with
        | zero => exact c
        | succ i => exact z2 i (by omega)
      · right
        refine ⟨e, fun i hi => ?_⟩
        cases i with
        | zero => exact c
        | succ i => exact z i (by omega)
end PU
