/-! ===== bits; when all are back ===== -/
def bit (x : Int32) (i : Nat) : Bool := x.toBitVec.getLsbD i
theorem bit_and {x y : Int32} {i : Nat} : bit (x &&& y) i = (bit x i && bit y i) := by unfold bit; rw [Int32.toBitVec_and, BitVec.getLsbD_and]
theorem bit_0 {i : Nat} : bit 0 i = false := by unfold bit; simp
theorem bit_ext {x y : Int32} (h : ∀ i, i < 32 → bit x i = bit y i) : x = y := Int32.toBitVec_inj.1 (BitVec.eq_of_getLsbD_eq (fun i hi => h i hi))
theorem bit_1all : ∀ f : Fin 32, ∀ i : Fin 32, bit ((1 : Int32) <<< (nI f &&& 31)) i = decide (i.1 = f.1) := by decide +kernel
theorem bit_1 {f i : Nat} (hf : f < 32) (hi : i < 32) : bit ((1 : Int32) <<< (nI f &&& 31)) i = decide (i = f) := bit_1all ⟨f, hf⟩ ⟨i, hi⟩
theorem bit_n0 {x : Int32} {f : Nat} (hf : f < 32) : (x &&& ((1 : Int32) <<< (nI f &&& 31)) = 0) = (bit x f = false) := by
  apply propext; constructor
  · intro h
    have := congrArg (fun t => bit t f) h
    simp only [bit_and, bit_1 hf hf, bit_0, decide_true, Bool.and_true] at this; exact this
  · intro h
    refine bit_ext fun i hi => ?_
    rw [bit_and, bit_1 hf hi, bit_0]
    by_cases e : i = f
    · subst e; rw [h]; rfl
    · simp [e]
section BW
variable {d : Nat} {M : Mem} {h h0 h1 h2 : Hp} {j : Jp} {r : Rp} {E : EE} {Q : Option PV → Mem → Prop} {G F A : Nat} {W : LW} {b bt : BB}
end BW
