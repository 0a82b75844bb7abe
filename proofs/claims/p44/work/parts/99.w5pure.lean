/-! ===== loans dealt: once each, together the most ===== -/
def dTs (w : Nat → Nat → Int32) (F : Nat) : Nat → Nat → Nat → Nat → Nat
  | _, _, t, 0 => t
  | 0, _, t, _ + 1 => t
  | k + 1, g, t, i + 1 => dTs w F k (g + 1) (nxT t (fbN (w g) (bD w F k (g + 1)) (bD w F (k + 1) g t) t 0 F)) i
section PW5
variable {w : Nat → Nat → Int32} {F G g t k i f : Nat}
theorem fbN_s {wg : Nat → Int32} {nx : Nat → Int32} {V : Int32} : ∀ {k f : Nat}, (fbN wg nx V t f k = 9 ∧ ∀ x, f ≤ x → x < f + k → ¬ (vlB wg t x = true ∧ dV wg nx t x = V)) ∨ (f ≤ fbN wg nx V t f k ∧ fbN wg nx V t f k < f + k ∧ vlB wg t (fbN wg nx V t f k) = true ∧ dV wg nx t (fbN wg nx V t f k) = V) := by
  intro k
  induction k with
  | zero => intro f; exact Or.inl ⟨rfl, fun x h1 h2 => by omega⟩
  | succ k ih =>
    intro f
    rw [fbN]
    by_cases c : vlB wg t f = true ∧ dV wg nx t f = V
    · rw [if_pos c]; exact Or.inr ⟨Nat.le_refl _, by omega, c.1, c.2⟩
    · rw [if_neg c]
      rcases ih (f := f + 1) with ⟨h1, h2⟩ | ⟨h1, h2, h3, h4⟩
      · left
        refine ⟨h1, fun x p q => ?_⟩
        by_cases e : x = f
        · rw [e]; exact c
        · exact h2 x (by omega) (by omega)
      · exact Or.inr ⟨by omega, by omega, h3, h4⟩
/-- who gets nothing changes nothing; who gets one adds what he brings -/
theorem bD_step (hw : ∀ g f, (w g f).toInt ≤ 99) (hk : k + 1 ≤ 8) (hF : F ≤ 8) : (fbN (w g) (bD w F k (g + 1)) (bD w F (k + 1) g t) t 0 F = 9 ∧ bD w F (k + 1) g t = bD w F k (g + 1) t) ∨ (fbN (w g) (bD w F k (g + 1)) (bD w F (k + 1) g t) t 0 F < F ∧ bit (nI t) (fbN (w g) (bD w F k (g + 1)) (bD w F (k + 1) g t) t 0 F) = false ∧ 0 < (w g (fbN (w g) (bD w F k (g + 1)) (bD w F (k + 1) g t) t 0 F)).toInt ∧
    bD w F (k + 1) g t = w g (fbN (w g) (bD w F k (g + 1)) (bD w F (k + 1) g t) t 0 F) + bD w F k (g + 1) (t ||| 2 ^ (fbN (w g) (bD w F k (g + 1)) (bD w F (k + 1) g t) t 0 F))) := by
  rcases @fbN_s t (w g) (bD w F k (g + 1)) (bD w F (k + 1) g t) F 0 with ⟨h1, h2⟩ | ⟨h1, h2, h3, h4⟩
  · left
    refine ⟨h1, ?_⟩
    obtain ⟨a, c, e⟩ := @dpL_i (w g) (bD w F k (g + 1)) t F 0 (bD w F k (g + 1) t)
    have em : bD w F (k + 1) g t = dpL (w g) (bD w F k (g + 1)) t 0 F (bD w F k (g + 1) t) := by rw [bD]
    rw [← em] at a e
    rcases e with e | ⟨x, p, q, e⟩
    · exact e
    · have nx := h2 x p q
      by_cases v : vlB (w g) t x = true
      · exact absurd ⟨v, e.symm⟩ nx
      · have z : dV (w g) (bD w F k (g + 1)) t x = 0 := by unfold dV; rw [if_neg v]
        rw [z] at e
        have b0 := (bD_i (F := F) hw (k := k) (by omega) (g := g + 1) (t := t)).1
        rw [e, i0] at a
        rw [e, iEq, i0]; omega
  · right
    have h2 : fbN (w g) (bD w F k (g + 1)) (bD w F (k + 1) g t) t 0 F < F := by omega
    obtain ⟨v1, v2⟩ := vl_iff.1 h3
    refine ⟨h2, v1, v2, ?_⟩
    have := h4
    unfold dV at this
    rw [if_pos h3] at this
    exact this.symm
theorem grF_s : ∀ {k g t i : Nat}, i < k → grF w F k g t i = fbN (w (g + i)) (bD w F (k - i - 1) (g + i + 1)) (bD w F (k - i) (g + i) (dTs w F k g t i)) (dTs w F k g t i) 0 F ∧ dTs w F k g t (i + 1) = nxT (dTs w F k g t i) (grF w F k g t i) := by
  intro k
  induction k with
  | zero => intro g t i h; exact absurd h (Nat.not_lt_zero _)
  | succ k ih =>
    intro g t i h
    cases i with
    | zero => refine ⟨rfl, ?_⟩; cases k <;> rfl
    | succ i =>
      obtain ⟨e1, e2⟩ := ih (g := g + 1) (t := nxT t (fbN (w g) (bD w F k (g + 1)) (bD w F (k + 1) g t) t 0 F)) (i := i) (by omega)
      have a1 : g + 1 + i = g + (i + 1) := by omega
      have a2 : k - i - 1 = k + 1 - (i + 1) - 1 := by omega
      have a3 : k - i = k + 1 - (i + 1) := by omega
      rw [a1, a2, a3] at e1
      refine ⟨?_, e2⟩
      rw [grF]; exact e1
end PW5
