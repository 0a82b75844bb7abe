/-! ===== the law is told ===== -/
section LQ
variable {d : Nat} {M : Mem} {h h0 h1 h2 : Hp} {j j1 : Jp} {r r1 : Rp} {E E1 : EE} {l l1 G F n : Nat} {W W1 : LW} {b : BB} {Q : Option PV → Mem → Prop} {T : Nat → Int32}
theorem sh_r6 (hS : Sh r E) {m : Nat} (hm : m = 27 ∨ m = 32) : Sh (up2 r m 6 37) E := by
  refine hS.rr (by rw [up2_a (by omega)]) (fun t ht => ?_)
  have q : ∀ t ∈ RfL, t.2.1 ≠ 6 ∨ (t.1 ≠ 27 ∧ t.1 ≠ 32) := by decide +kernel
  rcases q t ht with h | h
  · rw [up2]; split
    · rename_i hh; first | rfl | rw [if_neg h]
    · rfl
  · rw [up2_a (by omega)]
theorem sh_45 (hS : Sh r E) {p q : Nat} (hpq : p + q = 59) : Sh (up2 (up2 r 2 4 p) 2 5 q) E := by
  refine hS.rr ?_ (fun t ht => ?_)
  · rw [up2_i (by decide), up2_s, up2_s, hpq]; exact hS.2.2.2.symm
  · have e : ∀ t ∈ RfL, t.1 ≠ 2 ∨ (t.2.1 ≠ 4 ∧ t.2.1 ≠ 5) := by decide +kernel
    rcases e t ht with h | h
    · rw [up2_a h, up2_a h]
    · by_cases h2 : t.1 = 2
      · rw [h2, up2_i h.2, up2_i h.1]
      · rw [up2_a h2, up2_a h2]
theorem ccF_pos {ys : List LN} (h : 0 < ys.length) : 0 < (ccF 0 ys).length := by
  cases ys with
  | nil => exact absurd h (Nat.lt_irrefl _)
  | cons y ys =>
    rw [ccF, List.length_append, lnC_n]
    split <;> omega
theorem nxR_ne {s : TR} {x : LR} (h : (nxR s x).1 = true) : 0 < (nxR s x).2.2.length := by
  have h : x.1 = true := h
  unfold nxR
  show 0 < (if x.1 = true then s.2.2 ++ [x.2.2] else s.2.2).length
  rw [if_pos h, List.length_append, List.length_singleton]; omega
theorem lsR_ne {m : Nat} : ∀ {s : TR}, (s.1 = true → 0 < s.2.2.length) → (lsR T n m s).1 = true → 0 < (lsR T n m s).2.2.length := by
  induction m with
  | zero => intro s a h; exact a h
  | succ m ih =>
    intro s a
    rw [lsR]; split
    · exact ih (fun h => nxR_ne h)
    · exact a
theorem txR_ne (h : (txR T n).1 = true) : 0 < (txR T n).2.2.length := lsR_ne (fun h => nxR_ne h) h
end LQ
