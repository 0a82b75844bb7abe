/-! ===== deeds in the marsh ===== -/
def FC (h h1 : Hp) : Prop := (∀ a, ¬ scrA a → ¬ (3 ≤ a ∧ a ≤ 10) → h1 a = h a) ∧ (∀ i, i ≠ 5 → h1 27 i = h 27 i ∧ h1 32 i = h 32 i) ∧ ∀ i, i ≠ 38 → i ≠ 39 → i ≠ 46 → h1 113 i = h 113 i
section DE
variable {d : Nat} {M : Mem} {h h0 h1 h2 : Hp} {j : Jp} {r : Rp} {E : EE} {l G F A n G' F' : Nat} {W : LW} {b bt bm b' : BB} {Q : Option PV → Mem → Prop}
theorem FC.rf : FC h h := ⟨fun _ _ _ => rfl, fun _ _ => ⟨rfl, rfl⟩, fun _ _ _ _ => rfl⟩
theorem FC.up {a i : Nat} {v : Int32} (s : FC h h1) (ha : 3 ≤ a ∧ a ≤ 10) : FC h (up2 h1 a i v) :=
  ⟨fun x p q => by rw [up2_a (show x ≠ a by omega)]; exact s.1 x p q, fun k hk => by rw [up2_a (show 27 ≠ a by omega), up2_a (show 32 ≠ a by omega)]; exact s.2.1 k hk, fun k p q t => by rw [up2_a (show 113 ≠ a by omega)]; exact s.2.2 k p q t⟩
theorem CC.mk (C : CC G F l W b h r E) (f : FC h h1) (g1 : h1 3 7 = nI G') (g2 : h1 3 8 = nI F') (g3 : G' ≤ 8) (g4 : F' ≤ 8) (eb : bC h1 3 G' F' = b') (w : WF G' F' b') : CC G' F' l W b' h1 r E := by
  refine ⟨C.1, C.2.1, C.2.2.1, g1, g2, g3, g4, C.L.fix ⟨?_, ?_, ?_⟩, eb, w⟩
  · exact f.1 _ (by unfold scrA; rcases C.il with h | h <;> omega) (by rcases C.il with h | h <;> omega)
  · exact f.1 _ (by unfold scrA; rcases C.il with h | h <;> omega) (by rcases C.il with h | h <;> omega)
  · rcases C.il with rfl | rfl
    · exact (f.2.1 4 (by decide)).1
    · exact (f.2.1 4 (by decide)).2
theorem okc_mono {k : Nat} {v : Int32} (h : okc G k v) (hG : G ≤ G') : okc G' k v := by
  unfold okc at h ⊢
  by_cases c : k = 4
  · rw [if_pos c] at h ⊢; rcases h with h | h; exact Or.inl h; exact Or.inr (inb_mono h hG)
  · rw [if_neg c] at h ⊢; exact h
/-- one girl more -/
theorem bC_girl {p : Int32} : bC (up2 (up2 (up2 h 4 G p) 5 G 60) 3 7 (nI (G + 1))) 3 (G + 1) F = up2 (up2 (bC h 3 G F) 0 G p) 1 G 60 := by
  funext k i
  by_cases k0 : k = 0
  · subst k0
    by_cases e : i = G
    · subst e; simp [bC, up2, cut]
    · simp only [bC, up2, cut, e, if_true, if_false, show (0 : Nat) < 6 by decide, show (0 : Nat) < 2 by decide, show ¬ ((3 : Nat) + 1 + 0 = 3) by decide, show ¬ ((3 : Nat) + 1 + 0 = 5) by decide, show ((3 : Nat) + 1 + 0 = 4) by decide, show ¬ ((0 : Nat) = 1) by decide]
      by_cases c : i < G
      · rw [if_pos (by omega), if_pos c]
      · rw [if_neg (by omega), if_neg c]
  · by_cases k1 : k = 1
    · subst k1
      by_cases e : i = G
      · subst e; simp [bC, up2, cut]
      · simp only [bC, up2, cut, e, if_true, if_false, show (1 : Nat) < 6 by decide, show (1 : Nat) < 2 by decide, show ¬ ((3 : Nat) + 1 + 1 = 3) by decide, show ((3 : Nat) + 1 + 1 = 5) by decide, show ¬ ((3 : Nat) + 1 + 1 = 4) by decide, show ¬ ((1 : Nat) = 0) by decide]
        by_cases c : i < G
        · rw [if_pos (by omega), if_pos c]
        · rw [if_neg (by omega), if_neg c]
    · simp only [bC, up2, k0, k1, if_false]
      by_cases k6 : k < 6
      · have c2 : ¬ k < 2 := by omega
        simp only [k6, if_true, cut, c2, if_false, show ¬ (3 + 1 + k = 3) by omega, show ¬ (3 + 1 + k = 5) by omega, show ¬ (3 + 1 + k = 4) by omega]
      · simp only [k6, if_false, if_true, show ¬ ((9 : Nat) = 7) by decide, show ¬ ((10 : Nat) = 7) by decide, show ¬ ((3 : Nat) = 5) by decide, show ¬ ((3 : Nat) = 4) by decide]
theorem WF.girl {p : Int32} (w : WF G F b) (hp : inb p 36) : WF (G + 1) F (up2 (up2 b 0 G p) 1 G 60) := by
  intro k i hk hi
  simp only [up2]
  by_cases k1 : k = 1
  · subst k1
    by_cases e : i = G
    · simp only [e, if_true]; show inb 60 100; decide
    · simp only [e, if_true, if_false, show ¬ ((1 : Nat) = 0) by decide]
      have hi : i < G + 1 := hi
      exact okc_mono (w 1 i (by decide) (show i < G by omega)) (by omega)
  · by_cases k0 : k = 0
    · subst k0
      by_cases e : i = G
      · simp only [e, if_true, show ¬ ((0 : Nat) = 1) by decide, if_false]; exact hp
      · simp only [e, if_true, if_false, show ¬ ((0 : Nat) = 1) by decide]
        have hi : i < G + 1 := hi
        exact okc_mono (w 0 i (by decide) (show i < G by omega)) (by omega)
    · simp only [k0, k1, if_false]
      have hi : i < cutW G F k := by
        unfold cutW at hi ⊢
        rw [if_neg (by omega)] at hi ⊢; exact hi
      exact okc_mono (w k i hk hi) (by omega)
end DE
