/-! ===== the image ===== -/
def layB (b : BB) (h : Hp) (G2 F2 : Nat) : BB := fun k i => if k = 1 ∧ i < G2 then h 21 i else if k = 2 ∧ i < F2 then h 22 i else if k = 4 ∧ i < F2 then h 24 i else if k = 5 ∧ i < F2 then h 25 i else if k = 6 ∧ i = 1 then h 19 10 else b k i
section IM
variable {d : Nat} {M : Mem} {h h0 h1 h2 : Hp} {j : Jp} {r : Rp} {E : EE} {l G F A n G' F' : Nat} {W : LW} {b bt bm b' : BB} {Q : Option PV → Mem → Prop}
theorem CC.st (C : CC G F l W b h r E) (e : ∀ a, 3 ≤ a → a ≤ 10 → h1 a = h a) (f : Lfix l h h1) : CC G F l W b h1 r E := by
  refine ⟨C.1, C.2.1, C.2.2.1, by rw [e 3 (by omega) (by omega)]; exact C.eG, by rw [e 3 (by omega) (by omega)]; exact C.eF, C.G8, C.F8, C.L.fix f, ?_, C.w⟩
  rw [← C.eb]
  exact bC_eq (fun k hk i _ => by rw [e _ (by omega) (by omega)]) (by rw [e 3 (by omega) (by omega)]) (by rw [e 3 (by omega) (by omega)])
theorem layB_C {G2 F2 : Nat} (hG : G2 ≤ G) (hF : F2 ≤ F) : bC (layH h 19 3 G2 F2) 3 G F = layB (bC h 3 G F) h G2 F2 := by
  funext k i
  unfold layB
  by_cases k6 : k < 6
  · simp only [bC, k6, if_true]
    by_cases c : i < cut G F k
    · simp only [c, if_true]
      unfold layH
      match k, k6 with
      | 0, _ => simp
      | 1, _ => simp
      | 2, _ => simp
      | 3, _ => simp
      | 4, _ => simp
      | 5, _ => simp
      | k + 6, k6 => omega
    · simp only [c, if_false]
      match k, k6 with
      | 0, _ => simp
      | 1, _ => have c : ¬ i < G := c; simp [show ¬ i < G2 by omega]
      | 2, _ => have c : ¬ i < F := c; simp [show ¬ i < F2 by omega]
      | 3, _ => simp
      | 4, _ => have c : ¬ i < F := c; simp [show ¬ i < F2 by omega]
      | 5, _ => have c : ¬ i < F := c; simp [show ¬ i < F2 by omega]
      | k + 6, k6 => omega
  · by_cases e6 : k = 6
    · subst e6
      by_cases i0 : i = 0
      · subst i0; simp [bC, layH]
      · by_cases i1 : i = 1
        · subst i1; simp [bC, layH]
        · simp [bC, layH, i0, i1]
    · simp [bC, layH, k6, e6, show ¬ k = 1 by omega, show ¬ k = 2 by omega, show ¬ k = 4 by omega, show ¬ k = 5 by omega]
theorem WF.lay {G2 F2 : Nat} (w : WF G F b) (hG : G2 ≤ G) (a1 : ∀ i, i < G2 → inb (h 21 i) 100) (a2 : ∀ i, i < F2 → inb (h 22 i) 36 ∧ (h 24 i = -1 ∨ inb (h 24 i) G2) ∧ inb (h 25 i) 100) (ah : inb (h 19 10) 12) : WF G F (layB b h G2 F2) := by
  intro k i hk hi
  unfold layB
  by_cases c1 : k = 1 ∧ i < G2
  · rw [if_pos c1, c1.1]; exact a1 i c1.2
  rw [if_neg c1]
  by_cases c2 : k = 2 ∧ i < F2
  · rw [if_pos c2, c2.1]; exact (a2 i c2.2).1
  rw [if_neg c2]
  by_cases c4 : k = 4 ∧ i < F2
  · rw [if_pos c4, c4.1]
    rcases (a2 i c4.2).2.1 with q | q
    · exact Or.inl q
    · exact Or.inr (inb_mono q hG)
  rw [if_neg c4]
  by_cases c5 : k = 5 ∧ i < F2
  · rw [if_pos c5, c5.1]; exact (a2 i c5.2).2.2
  rw [if_neg c5]
  by_cases c6 : k = 6 ∧ i = 1
  · rw [if_pos c6, c6.1]; exact ah
  rw [if_neg c6]
  exact w k i hk hi
end IM
