/-! ===== the rest of the law: who comes back in an hour; pure ===== -/
section Y0
variable {d : Nat} {M : Mem} {φ : Int32} {h h0 h1 h2 : Hp} {j j1 j2 : Jp} {r r1 r2 : Rp} {E : EE} {n m k s L t G F f g q : Nat} {Q : Option PV → Mem → Prop} {x v : Int32} {xs : Nat → Int32} {S S' : OS} {a : Int64} {W : LW} {b : BB} {l6 l7 l8 l9 l10 l11 l12 l13 l14 : Option PV}
theorem nAnd {a c : Nat} : nI a &&& nI c = nI (a &&& c) := by
  rw [← Int32.toBitVec_inj, Int32.toBitVec_and]
  exact (BitVec.ofNat_and).symm
theorem com_all : ∀ u : Fin 256, (nI u.1 ^^^ -1) &&& nI 255 = nI (255 ^^^ u.1) := by decide +kernel
theorem low_all : ∀ u : Fin 256, nI u.1 = nI u.1 &&& nI 255 := by decide +kernel
theorem and_com (hs : s < 256) (ht : t < 256) : nI s &&& (nI t ^^^ -1) = nI (s &&& (255 ^^^ t)) := by
  rw [← nAnd, ← com_all ⟨t, ht⟩, Int32.and_comm (nI t ^^^ -1), ← Int32.and_assoc, ← low_all ⟨s, hs⟩]
theorem btb_all : ∀ t : Fin 256, ∀ f : Fin 8, bit (nI t.1) f.1 = t.1.testBit f.1 := by decide +kernel
theorem t255 : ∀ f : Fin 8, (255 : Nat).testBit f.1 = true := by decide
/-- the bits of owB -/
theorem owB_n (F8 : F ≤ 8) : ∃ s, s < 256 ∧ owB F b = nI s ∧ ∀ f, f < 8 → s.testBit f = decide (f < F ∧ b 4 f ≠ -1) := by
  have hl : ∀ {k i t : Nat}, i + k ≤ 8 → t < 256 → ∃ s, s < 256 ∧ owL b i k (nI t) = nI s := by
    intro k
    induction k with
    | zero => intro i t _ ht; exact ⟨t, ht, rfl⟩
    | succ k ih =>
      intro i t hk ht
      rw [owL]
      by_cases c : b 4 i = -1
      · rw [if_pos c, Int32.or_zero]; exact ih (by omega) ht
      · rw [if_neg c, or_n ht (by omega)]
        exact ih (by omega) (Nat.or_lt_two_pow (n := 8) ht (Nat.pow_lt_pow_right (by decide) (by omega)))
  obtain ⟨s, hs, es⟩ := @hl F 0 0 (by omega) (by decide)
  have es : owB F b = nI s := es
  refine ⟨s, hs, es, fun f hf => ?_⟩
  rw [← btb_all ⟨s, hs⟩ ⟨f, hf⟩]
  show bit (nI s) f = _
  rw [← es]
  unfold owB
  rw [owL_bit (by omega) (by omega), bit_0, Bool.false_or]
  congr 1
  apply propext
  constructor
  · rintro ⟨_, h2, h3⟩; exact ⟨by omega, h3⟩
  · rintro ⟨h1, h2⟩; exact ⟨Nat.zero_le _, by omega, h2⟩
theorem row1_congr {p q : Nat → Bool} : ∀ {k i : Nat}, (∀ x, i ≤ x → x < i + k → p x = q x) → row1 p i k = row1 q i k := by
  intro k
  induction k with
  | zero => intro i _; rfl
  | succ k ih =>
    intro i h
    rw [row1, row1, h i (Nat.le_refl _) (by omega), ih (fun x h1 h2 => h x (by omega) (by omega))]
theorem b1_v : b1B W f b = if bkB b f then 1 else 0 := by
  unfold b1B
  by_cases c1 : b 4 f = -1
  · have : ¬ bkB b f := fun h => h.1 c1
    rw [if_pos c1, if_neg this]
  rw [if_neg c1]
  by_cases c2 : b 6 1 < b 6 0
  · have : ¬ bkB b f := fun h => h.2.1 c2
    rw [if_pos c2, if_neg this]
  rw [if_neg c2]
  by_cases c3 : nearB (b 2 f) (b 0 (ix (b 4 f))) = b 0 (ix (b 4 f))
  · have : bkB b f := ⟨c1, c2, c3⟩
    rw [if_pos c3, if_pos this]
  · have : ¬ bkB b f := fun h => c3 h.2.2
    rw [if_neg c3, if_neg this]
theorem fK_row : ∀ {k f : Nat} {b : BB}, f + k ≤ 8 → fK W f k b = nI (row1 (fun x => decide (bkB b x)) f k) := by
  intro k
  induction k with
  | zero => intro f b _; rfl
  | succ k ih =>
    intro f b hk
    have e : row1 (fun x => decide (bkB (goB W f b) x)) (f + 1) k = row1 (fun x => decide (bkB b x)) (f + 1) k := row1_congr (fun x h1 h2 => by
      have := ag_bk (ag_ot (W := W) (b := b) (g := f) (f := x) (by omega))
      exact decide_eq_decide.2 this)
    rw [fK, ih (by omega), e, row1, b1_v]
    by_cases c : bkB b f
    · rw [if_pos c, if_pos (decide_eq_true c)]; exact nI_add 1 _
    · rw [if_neg c, if_neg (by rw [decide_eq_false c]; decide)]; exact nI_add 0 _
/-- who owes and will not: he comes back -/
theorem came_n (F8 : F ≤ 8) : pcI (owB F b &&& (owB F (hrB W F b) ^^^ -1)) = fK W 0 F b := by
  obtain ⟨s, hs, es, bs⟩ := owB_n (b := b) F8
  obtain ⟨t, ht, et, bt⟩ := owB_n (b := hrB W F b) F8
  have hd : s &&& (255 ^^^ t) < 256 := Nat.and_lt_two_pow (n := 8) _ (Nat.xor_lt_two_pow (by decide) ht)
  rw [es, et, and_com hs ht, pc_row_all ⟨8, by decide⟩ ⟨_, hd⟩ hd, fK_row (by omega)]
  show nI (row1 (bit (nI (s &&& (255 ^^^ t)))) 0 8) = _
  rw [show (8 : Nat) = F + (8 - F) by omega, row1_add]
  have z : row1 (bit (nI (s &&& (255 ^^^ t)))) (0 + F) (8 - F) = 0 := by
    have e : row1 (bit (nI (s &&& (255 ^^^ t)))) (0 + F) (8 - F) = row1 (fun _ => false) (0 + F) (8 - F) := row1_congr (fun x h1 h2 => by
      rw [btb_all ⟨_, hd⟩ ⟨x, by omega⟩]
      show (s &&& (255 ^^^ t)).testBit x = false
      rw [Nat.testBit_and, bs x (by omega), decide_eq_false (by omega), Bool.false_and])
    rw [e]
    have : ∀ {k i : Nat}, row1 (fun _ => false) i k = 0 := by
      intro k
      induction k with
      | zero => intro i; rfl
      | succ k ih => intro i; rw [row1, ih]; rfl
    exact this
  rw [z, Nat.add_zero]
  congr 1
  refine row1_congr (fun x h1 h2 => ?_)
  have hx : x < F := by omega
  rw [btb_all ⟨_, hd⟩ ⟨x, by omega⟩]
  show (s &&& (255 ^^^ t)).testBit x = decide (bkB b x)
  rw [Nat.testBit_and, Nat.testBit_xor, bs x (by omega), bt x (by omega), t255 ⟨x, by omega⟩, hr_4 hx]
  by_cases c : bkB b x
  · rw [if_pos c, decide_eq_true (show x < F ∧ b 4 x ≠ -1 from ⟨hx, c.1⟩), decide_eq_false (fun h => h.2 rfl), decide_eq_true c]; rfl
  · rw [if_neg c, decide_eq_false c]
    by_cases c4 : b 4 x = -1
    · rw [decide_eq_false (fun h : x < F ∧ b 4 x ≠ -1 => h.2 c4)]; rfl
    · rw [decide_eq_true (show x < F ∧ b 4 x ≠ -1 from ⟨hx, c4⟩)]; rfl
end Y0
