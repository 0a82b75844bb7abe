/-! ===== loans, run over, hours in deed ===== -/
theorem up2_comm {α : Type} {f : Nat → Nat → α} {a c i k : Nat} {v w : α} (h : a ≠ c) : up2 (up2 f a i v) c k w = up2 (up2 f c k w) a i v := by
  funext x y; simp only [up2]
  by_cases h1 : x = a
  · subst h1; simp [h]
  · by_cases h2 : x = c
    · simp [h1, h2, Ne.symm h]
    · simp [h1, h2]
section LD
variable {d : Nat} {M : Mem} {h h0 h1 h2 : Hp} {j : Jp} {r : Rp} {E : EE} {l G F A n G' F' : Nat} {W : LW} {b bt bm b' : BB} {Q : Option PV → Mem → Prop}
theorem inI_u {G1 G2 : Nat} {x : Int32} (a : x = nI G1) (c : x = nI G2) (h1 : G1 ≤ 8) (h2 : G2 ≤ 8) : G1 = G2 := (nI_eq (by omega) (by omega)).1 (a.symm.trans c)
theorem FC.ofM {h1 : Hp} (hl : l = 27 ∨ l = 32) (f : FrM 3 l h h1) : FC h h1 := by
  refine ⟨fun x p q => f.1 x (by omega) (by omega) (by unfold scrA at p; omega) (by unfold scrA at p; omega) (by unfold scrA at p; omega), fun i hi => ?_, fun i _ _ _ => by rw [f.1 113 (by omega) (by omega) (by omega) (by omega) (by omega)]⟩
  rcases hl with rfl | rfl
  · exact ⟨f.2.1 i hi, by rw [f.1 32 (by omega) (by omega) (by omega) (by omega) (by omega)]⟩
  · exact ⟨by rw [f.1 27 (by omega) (by omega) (by omega) (by omega) (by omega)], f.2.1 i hi⟩
end LD
