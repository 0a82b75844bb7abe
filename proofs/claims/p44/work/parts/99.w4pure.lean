/-! ===== a loan in thought: what comes back, and when ===== -/
section PV4
variable {W : LW} {F G f g n k i m : Nat} {b b' b2 : BB} {u x : Int32}
theorem gv_v (h : ¬ gvB W f b < 0) (w : WF G F b) (hf : f < F) : gvB W f b = b 5 f - lossB W b f ∧ bkB b f := by
  rw [gv_0 w hf] at h
  have h := Decidable.not_not.1 h
  refine ⟨?_, h⟩
  unfold gvB
  rw [if_neg h.1, if_neg h.2.1, if_pos h.2.2]
theorem gv_n (h : gvB W f b < 0) (w : WF G F b) (hf : f < F) : ¬ bkB b f := by rw [gv_0 w hf] at h; exact h
theorem gv_m2 (w : WF G F b) (hf : f < F) (h : gvB W f b < 0) : gvB W f b = -2 := by
  have c := gv_n h w hf
  unfold gvB
  by_cases c1 : b 4 f = -1
  · rw [if_pos c1]
  rw [if_neg c1]
  by_cases c2 : b 6 1 < b 6 0
  · rw [if_pos c2]
  rw [if_neg c2, if_neg (fun h3 => c ⟨c1, c2, h3⟩)]
theorem one_4 : oneB W f b 4 f = if bkB b f then -1 else b 4 f := by
  show up2 (goB W f b) 6 1 (nxt (goB W f b 6 1)) 4 f = _
  rw [up2_a (by decide), go_4]
theorem one_5 : oneB W f b 5 f = if bkB b f then 0 else if b 4 f = -1 then b 5 f else b 5 f - lossB W b f := by
  show up2 (goB W f b) 6 1 (nxt (goB W f b 6 1)) 5 f = _
  rw [up2_a (by decide), go_5]
theorem one_le (w : WF G F b) (hf : f < F) : (oneB W f b 5 f).toInt ≤ (b 5 f).toInt := by
  have h5 := inb_i (w.a5 hf)
  rw [one_5]
  split
  · rw [i0]; exact h5.1
  · split
    · exact Int.le_refl _
    · obtain ⟨l1, l2⟩ := loss_i (W := W) h5.1
      rw [subI (by omega) (by omega)]; omega
/-- what comes back and after how many hours, together -/
theorem gb_ht (hf : f < F) : ∀ {k i : Nat} {b : BB}, WF G F b → (∃ m, m < k ∧ htA W f i k b = nI (i + m) ∧ 0 ≤ (gbA W f k b).toInt ∧ (gbA W f k b).toInt ≤ (b 5 f).toInt ∧ (∀ q, q < m → ¬ bkB (itOne W f q b) f) ∧ bkB (itOne W f m b) f) ∨ (htA W f i k b = -2 ∧ gbA W f k b = -2 ∧ ∀ q, q < k → ¬ bkB (itOne W f q b) f) := by
  intro k
  induction k with
  | zero => intro i b w; exact Or.inr ⟨rfl, rfl, fun q hq => absurd hq (Nat.not_lt_zero _)⟩
  | succ k ih =>
    intro i b w
    rw [htA, gbA]
    by_cases c : gvB W f b < 0
    · rw [if_pos c, if_pos c]
      have nb := gv_n c w hf
      rcases ih (i := i + 1) (b := oneB W f b) (w.one hf) with ⟨m, hm, e1, e2, e3, e4, e5⟩ | ⟨e1, e2, e3⟩
      · left
        refine ⟨m + 1, by omega, by rw [e1, show i + 1 + m = i + (m + 1) by omega], e2, ?_, fun q hq => ?_, e5⟩
        · have := one_le (W := W) w hf; omega
        · cases q with
          | zero => exact nb
          | succ q => exact e4 q (by omega)
      · right
        refine ⟨e1, e2, fun q hq => ?_⟩
        cases q with
        | zero => exact nb
        | succ q => exact e3 q (by omega)
    · rw [if_neg c, if_neg c]
      obtain ⟨v, bk⟩ := gv_v c w hf
      left
      have h5 := inb_i (w.a5 hf)
      obtain ⟨l1, l2⟩ := loss_i (W := W) h5.1
      refine ⟨0, by omega, rfl, ?_, ?_, fun q hq => absurd hq (Nat.not_lt_zero _), bk⟩
      · rw [v, subI (by omega) (by omega)]; omega
      · rw [v, subI (by omega) (by omega)]; omega
/-- the frog alone goes as all go -/
theorem it_ag (hf : f < F) : ∀ {n : Nat} {b b' : BB}, Ag f b b' → Ag f (itB W F n b) (itOne W f n b') := by
  intro n
  induction n with
  | zero => intro b b' a; exact a
  | succ n ih => intro b b' a; exact ih (ag_hr hf a)
theorem ag_bk (a : Ag f b b') : bkB b f ↔ bkB b' f := by
  obtain ⟨a1, a2, a3, a4, a5, a6⟩ := a
  unfold bkB
  rw [a1, a2, a3, a5]
theorem itO_S : ∀ {n : Nat} {b : BB}, itOne W f (n + 1) b = oneB W f (itOne W f n b) := by
  intro n
  induction n with
  | zero => intro b; rfl
  | succ n ih => intro b; exact ih (b := oneB W f b)
/-- as long as he is not back he owes her -/
theorem itO_4 : ∀ {m : Nat}, (∀ q, q < m → ¬ bkB (itOne W f q b) f) → itOne W f m b 4 f = b 4 f := by
  intro m
  induction m with
  | zero => intro _; rfl
  | succ m ih =>
    intro h
    rw [itO_S, one_4, if_neg (h m (by omega))]
    exact ih (fun q hq => h q (by omega))
theorem WF.lendB (w : WF G F b) (hg : g < G) (hG : G ≤ 8) (hx : inb x 100) : WF G F (lendB b f (nI g) x) :=
  WF.up (w.up (k := 4) (Or.inr (by rw [inb_n (by omega)]; exact hg))) (k := 5) hx
theorem lend_4 : lendB b f u x 4 f = u := by unfold lendB; rw [up2_a (by decide), up2_s]
theorem lend_5 : lendB b f u x 5 f = x := by unfold lendB; rw [up2_s]
/-- the best: as none brings more -/
theorem bs_spec {gb : Nat → Int32} (hgb : ∀ f, gb f = gbA W f 24 (lendB b f u x)) : ∀ {k f : Nat} {p : Int32 × Int32}, f + k ≤ 8 → (p = (-2, -2) ∨ ∃ q, q < f ∧ p = (nI q, gb q) ∧ 0 ≤ gb q) → (∀ q, q < f → gb q ≤ p.2) → (∀ q, q < f + k → gb q = -2 ∨ 0 ≤ gb q) →
    (bsL W b u x f k p = (-2, -2) ∨ ∃ q, q < f + k ∧ bsL W b u x f k p = (nI q, gb q) ∧ 0 ≤ gb q) ∧ ∀ q, q < f + k → gb q ≤ (bsL W b u x f k p).2 := by
  intro k
  induction k with
  | zero => intro f p _ h1 h2 _; exact ⟨h1, h2⟩
  | succ k ih =>
    intro f p hk h1 h2 h3
    rw [bsL, ← hgb f]
    by_cases c : p.2 < gb f
    · rw [if_pos c]
      have e0 : 0 ≤ gb f := by
        rcases h3 f (by omega) with h | h
        · exfalso
          rw [h] at c
          rcases h1 with h1 | ⟨q, hq, h1, h4⟩
          · rw [h1] at c; exact absurd c (by decide)
          · rw [h1] at c
            rw [iLt, im2] at c; rw [iLe, i0] at h4
            have c : (gb q).toInt < -2 := c
            omega
        · exact h
      have := ih (f := f + 1) (p := (nI f, gb f)) (by omega) (Or.inr ⟨f, by omega, rfl, e0⟩) (fun q hq => ?_) (fun q hq => h3 q (by omega))
      · rw [show f + (k + 1) = f + 1 + k by omega]; exact this
      · by_cases e : q = f
        · rw [e]; exact Int32.le_refl _
        · have h4 := h2 q (by omega)
          show gb q ≤ gb f
          rw [iLe] at h4 ⊢; rw [iLt] at c; omega
    · rw [if_neg c]
      have := ih (f := f + 1) (p := p) (by omega) (h1.imp id (fun ⟨q, hq, e⟩ => ⟨q, by omega, e⟩)) (fun q hq => ?_) (fun q hq => h3 q (by omega))
      · rw [show f + (k + 1) = f + 1 + k by omega]; exact this
      · by_cases e : q = f
        · rw [e]; exact Int32.not_lt.1 c
        · exact h2 q (by omega)
end PV4
