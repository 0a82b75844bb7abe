/-! ===== the rest of the law: what hours change, and what comes back ===== -/
/-- as before, but where an image lays back -/
def Els (n m : Nat) (b b' : BB) : Prop := ∀ k i, ¬ ((k = 1 ∧ i < n) ∨ ((k = 2 ∨ k = 4 ∨ k = 5) ∧ i < m) ∨ (k = 6 ∧ i = 1)) → b k i = b' k i
section Y1
variable {d : Nat} {M : Mem} {φ : Int32} {h h0 h1 h2 : Hp} {j j1 j2 : Jp} {r r1 r2 : Rp} {E : EE} {n m k s L t G F f g q : Nat} {Q : Option PV → Mem → Prop} {x v : Int32} {xs : Nat → Int32} {S S' : OS} {a : Int64} {W : LW} {b : BB} {l6 l7 l8 l9 l10 l11 l12 l13 l14 : Option PV}
variable {b' b2 : BB}
theorem Els.rf : Els n m b b := fun _ _ _ => rfl
theorem Els.tr (c : Els n m b b') (e : Els n m b' b2) : Els n m b b2 := fun k i h => (c k i h).trans (e k i h)
theorem Els.up {p q : Nat} (c : Els n m b b') (hp : (p = 1 ∧ q < n) ∨ ((p = 2 ∨ p = 4 ∨ p = 5) ∧ q < m) ∨ (p = 6 ∧ q = 1)) : Els n m (up2 b p q v) b' := by
  intro k i h
  have hne : ¬ (k = p ∧ i = q) := fun hh => h (by rw [hh.1, hh.2]; exact hp)
  have : up2 b p q v k i = b k i := by
    by_cases e : k = p
    · subst e; exact up2_i (fun hh => hne ⟨rfl, hh⟩)
    · rw [up2_a e]
  rw [this]; exact c k i h
theorem Els.back (c : Els n m b b') : backB b b' n m = b' := by
  funext k i
  unfold backB
  by_cases c1 : k = 1 ∧ i < n
  · rw [if_pos c1, c1.1]
  rw [if_neg c1]
  by_cases c2 : k = 2 ∧ i < m
  · rw [if_pos c2, c2.1]
  rw [if_neg c2]
  by_cases c4 : k = 4 ∧ i < m
  · rw [if_pos c4, c4.1]
  rw [if_neg c4]
  by_cases c5 : k = 5 ∧ i < m
  · rw [if_pos c5, c5.1]
  rw [if_neg c5]
  by_cases c6 : k = 6 ∧ i = 1
  · rw [if_pos c6, c6.1, c6.2]
  rw [if_neg c6]
  exact c k i (by omega)
theorem Els.go (w : WF n m b) (hf : f < m) (c : Els n m b b') : Els n m (goB W f b) b' := by
  have r5 : ((5 = 1 ∧ f < n) ∨ ((5 = 2 ∨ 5 = 4 ∨ 5 = 5) ∧ f < m) ∨ (5 = 6 ∧ f = 1)) := by omega
  have r2 : ((2 = 1 ∧ f < n) ∨ ((2 = 2 ∨ 2 = 4 ∨ 2 = 5) ∧ f < m) ∨ (2 = 6 ∧ f = 1)) := by omega
  have r4 : ((4 = 1 ∧ f < n) ∨ ((4 = 2 ∨ 4 = 4 ∨ 4 = 5) ∧ f < m) ∨ (4 = 6 ∧ f = 1)) := by omega
  unfold goB
  by_cases c4 : b 4 f = -1
  · rw [if_pos c4]; exact c
  rw [if_neg c4]
  have hg := ((w.a4 hf).resolve_left c4).2
  have r1 : ((1 = 1 ∧ ix (b 4 f) < n) ∨ ((1 = 2 ∨ 1 = 4 ∨ 1 = 5) ∧ ix (b 4 f) < m) ∨ (1 = 6 ∧ ix (b 4 f) = 1)) := Or.inl ⟨rfl, hg⟩
  split
  · exact c.up r5
  · split
    · exact ((((c.up r5).up r2).up r1).up r4).up r5
    · exact (c.up r5).up r2
theorem Els.fB : ∀ {k f : Nat} {b : BB}, f + k ≤ m → WF n m b → Els n m b b' → Els n m (fB W f k b) b' := by
  intro k
  induction k with
  | zero => intro f b _ _ c; exact c
  | succ k ih =>
    intro f b hk w c
    rw [fB_s]
    exact ih (by omega) (w.go (by omega)) (c.go w (by omega))
theorem Els.hr (w : WF n m b) (c : Els n m b b') : Els n m (hrB W m b) b' := by
  unfold hrB endB
  exact (Els.fB (by omega) w c).up (by omega)
theorem Els.wf (w : WF n m b) (c : Els n m b b') : Els n m b b' := c
/-- what all lose, each by himself -/
theorem fL_ag : ∀ {k f : Nat} {b b' : BB}, (∀ x, f ≤ x → x < f + k → Ag x b b') → fL W f k b = fL W f k b' := by
  intro k
  induction k with
  | zero => intro f b b' _; rfl
  | succ k ih =>
    intro f b b' h
    rw [fL, fL, ag_loss (h f (Nat.le_refl _) (by omega))]
    rw [ih (fun x h1 h2 => ((ag_ot (W := W) (b := b) (g := f) (f := x) (by omega)).tr (h x (by omega) (by omega))).tr (by
      have := ag_ot (W := W) (b := b') (g := f) (f := x) (by omega)
      obtain ⟨a1, a2, a3, a4, a5, a6⟩ := this
      exact ⟨a1.symm, a2.symm, a3.symm, a4.symm, a5.symm, a6.symm⟩))]
theorem fL_s {k f : Nat} : fL W f (k + 1) b = lossB W b f + fL W (f + 1) k b := by
  rw [fL, fL_ag (b' := b) (fun x h1 h2 => ag_ot (by omega))]
end Y1
