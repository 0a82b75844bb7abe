/-! ===== what holds between calls ===== -/
section IV
variable {d : Nat} {M : Mem} {h h0 h1 h2 : Hp} {j : Jp} {r : Rp} {E : EE} {l G F A n : Nat} {W : LW} {b bt bm : BB} {Q : Option PV → Mem → Prop}
theorem WP.deep' {e y pc : Nat} {ls : Loc1} {st : List PV} {M : Mem} {Q : Option PV → Mem → Prop} (n : Nat) (hn : n ≤ e) (h : ∀ d, n + d = e → WP (d + n) y pc ls st M Q) : WP e y pc ls st M Q := by
  have := h (e - n) (by omega)
  rwa [show e - n + n = e by omega] at this
theorem ShC.frD {s n : Nat} {hd : Int32} {V : Nat → Int64} (C : ShC s hd n V h j r) (hs : s < 6) (e : ScrD h h1) : ShC s hd n V h1 j r := by
  unfold ShC at C ⊢; rw [e.1 (101 + 2 * s) (by unfold scrA; omega) (by omega) (by omega)]; exact C
end IV
