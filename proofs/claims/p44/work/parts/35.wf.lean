/-! ===== what a marsh's numbers stay within ===== -/
def okc (G k : Nat) (v : Int32) : Prop := if k = 4 then v = -1 ∨ inb v G else inb v (if k = 0 then 36 else if k = 1 then 100 else if k = 2 then 36 else if k = 3 then 10 else if k = 5 then 100 else 12)
def cutW (G F k : Nat) : Nat := if k < 2 then G else if k < 6 then F else 2
def WF (G F : Nat) (b : BB) : Prop := ∀ k i, k ≤ 6 → i < cutW G F k → okc G k (b k i)
section WFS
variable {G F f g : Nat} {b : BB} {v : Int32} {W : LW}
theorem WF.a0 (h : WF G F b) (hg : g < G) : inb (b 0 g) 36 := h 0 g (by decide) hg
theorem WF.a1 (h : WF G F b) (hg : g < G) : inb (b 1 g) 100 := h 1 g (by decide) hg
theorem WF.a2 (h : WF G F b) (hf : f < F) : inb (b 2 f) 36 := h 2 f (by decide) hf
theorem WF.a3 (h : WF G F b) (hf : f < F) : inb (b 3 f) 10 := h 3 f (by decide) hf
theorem WF.a4 (h : WF G F b) (hf : f < F) : b 4 f = -1 ∨ inb (b 4 f) G := h 4 f (by decide) hf
theorem WF.a5 (h : WF G F b) (hf : f < F) : inb (b 5 f) 100 := h 5 f (by decide) hf
theorem WF.at (h : WF G F b) : inb (b 6 0) 12 := h 6 0 (by decide) (show 0 < 2 by decide)
theorem WF.ah (h : WF G F b) : inb (b 6 1) 12 := h 6 1 (by decide) (show 1 < 2 by decide)
theorem WF.up {k i : Nat} (h : WF G F b) (hv : okc G k v) : WF G F (up2 b k i v) := by
  intro c a hc ha
  simp only [up2]
  by_cases h1 : c = k
  · subst h1; by_cases h2 : a = i
    · simp only [h2, if_true]; exact hv
    · simp only [h2, if_true, if_false]; exact h _ _ hc ha
  · simp only [h1, if_false]; exact h _ _ hc ha
theorem inb_i {x : Int32} {n : Nat} (h : inb x n) : 0 ≤ x.toInt ∧ x.toInt < n := inbI.1 h
theorem i20 : (20 : Int32).toInt = 20 := rfl
theorem i99 : (99 : Int32).toInt = 99 := rfl
theorem i11 : (11 : Int32).toInt = 11 := rfl
theorem im1 : (-1 : Int32).toInt = -1 := rfl
theorem im2 : (-2 : Int32).toInt = -2 := rfl
theorem imin_i {x y : Int32} : (imin x y).toInt = min x.toInt y.toInt := by
  unfold imin; split
  · rename_i h; have := (iLt _ _).1 h; omega
  · rename_i h; have : ¬ y.toInt < x.toInt := fun h' => h ((iLt _ _).2 h'); omega
theorem imax_i {x y : Int32} : (imax x y).toInt = max x.toInt y.toInt := by
  unfold imax; split
  · rename_i h; have := (iLt _ _).1 h; omega
  · rename_i h; have : ¬ x.toInt < y.toInt := fun h' => h ((iLt _ _).2 h'); omega
theorem clamp_i {x y : Int32} : (clampB x y).toInt = min x.toInt (max 0 (min 20 y.toInt)) := by
  unfold clampB; rw [imin_i, imax_i, imin_i, i0, i20]
/-- both ways of limiting a loss -/
theorem clamp_m {x y : Int32} (h : 0 ≤ x.toInt) : imax 0 (imin (imin 20 x) y) = clampB x y := by
  rw [iEq, clamp_i, imax_i, imin_i, imin_i, i0, i20]; omega
theorem loss_i (h : 0 ≤ (b 5 f).toInt) : 0 ≤ (lossB W b f).toInt ∧ (lossB W b f).toInt ≤ (b 5 f).toInt := by
  unfold lossB; split
  · rw [i0]; omega
  · rw [clamp_i]; omega
theorem rest_i (h : inb (b 5 f) 100) : inb (b 5 f - lossB W b f) 100 := by
  have h1 := inb_i h
  have h2 := loss_i (W := W) h1.1
  rw [inbI, subI (by omega) (by omega)]; omega
theorem breath_i {x y : Int32} (hx : inb x 100) (hy : inb y 100) : inb (imin 99 (x + y)) 100 := by
  have h1 := inb_i hx
  have h2 := inb_i hy
  rw [inbI, imin_i, i99, addI (by omega) (by omega)]; omega
theorem near_all : ∀ a : Fin 36, ∀ c : Fin 36, inb (nearB (nI a) (nI c)) 36 := by decide +kernel
theorem near_i {p q : Int32} (hp : inb p 36) (hq : inb q 36) : inb (nearB p q) 36 := by
  obtain ⟨a, ha, rfl, _⟩ := inb_of hp
  obtain ⟨c, hc, rfl, _⟩ := inb_of hq
  exact near_all ⟨a, ha⟩ ⟨c, hc⟩
theorem nxt_i {x : Int32} (h : inb x 12) : inb (nxt x) 12 := by
  have h1 := inb_i h
  unfold nxt; split
  · rename_i h2; have h3 := (iLt _ _).1 h2
    rw [i11] at h3
    rw [inbI, addI (by rw [i1]; omega) (by rw [i1]; omega), i1]; omega
  · rw [inbI, i0]; omega
theorem inb_00 {n : Nat} (h : 0 < n) : inb 0 n := by rw [inb_c0]; exact h
theorem WF.go (h : WF G F b) (hf : f < F) : WF G F (goB W f b) := by
  unfold goB
  split
  · exact h
  · rename_i h4
    have hg : inb (b 4 f) G := (h.a4 hf).resolve_left h4
    have hr := rest_i (W := W) (h.a5 hf)
    split
    · exact h.up hr
    · split
      · refine WF.up (WF.up (WF.up (WF.up (WF.up h ?_) ?_) ?_) ?_) ?_
        · exact hr
        · exact near_i (h.a2 hf) (h.a0 hg.2)
        · exact breath_i (h.a1 hg.2) hr
        · exact Or.inl rfl
        · exact inb_00 (by decide)
      · refine WF.up (WF.up h ?_) ?_
        · exact hr
        · exact near_i (h.a2 hf) (h.a0 hg.2)
theorem WF.en (h : WF G F b) : WF G F (endB b) := h.up (nxt_i h.ah)
theorem WF.fr (h : WF G F b) : ∀ {k f : Nat}, f + k ≤ F → WF G F (fB W f k b) := by
  intro k
  induction k generalizing b with
  | zero => intro f _; exact h
  | succ k ih => intro f hk; exact ih (h.go (by omega)) (by omega)
theorem WF.hr (h : WF G F b) : WF G F (hrB W F b) := (h.fr (by omega)).en
theorem WF.it (h : WF G F b) : ∀ {n : Nat}, WF G F (itB W F n b) := by
  intro n
  induction n generalizing b with
  | zero => exact h
  | succ n ih => exact ih h.hr
theorem WF.one (h : WF G F b) (hf : f < F) : WF G F (oneB W f b) := (h.go hf).en
/-- nothing given is below 0 -/
theorem gv_0 (h : WF G F b) (hf : f < F) : (gvB W f b < 0) = ¬ bkB b f := by
  have hr := rest_i (W := W) (h.a5 hf)
  have h0 : ¬ (b 5 f - lossB W b f < 0) := hr.1
  have h2 : (-2 : Int32) < 0 := by decide
  unfold gvB bkB
  by_cases h4 : b 4 f = -1
  · simp [h4]
  · by_cases h6 : b 6 1 < b 6 0
    · simp [h4, h6]
    · by_cases h7 : nearB (b 2 f) (b 0 (ix (b 4 f))) = b 0 (ix (b 4 f))
      · simp [h4, h6, h7, h0]
      · simp [h4, h6, h7]
theorem b1_bk : b1B W f b = if bkB b f then 1 else 0 := by
  unfold b1B bkB
  by_cases h4 : b 4 f = -1
  · simp [h4]
  · by_cases h6 : b 6 1 < b 6 0
    · simp [h4, h6]
    · by_cases h7 : nearB (b 2 f) (b 0 (ix (b 4 f))) = b 0 (ix (b 4 f))
      · simp [h4, h6, h7]
      · simp [h4, h6, h7]
/-- he owes none now: where he was back, or owed none -/
theorem go_4 : goB W f b 4 f = if bkB b f then -1 else b 4 f := by
  unfold goB bkB
  by_cases h4 : b 4 f = -1
  · simp [h4]
  · by_cases h6 : b 6 1 < b 6 0
    · simp [h4, h6, up2]
    · by_cases h7 : nearB (b 2 f) (b 0 (ix (b 4 f))) = b 0 (ix (b 4 f))
      · simp [h4, h6, h7, up2]
      · simp [h4, h6, h7, up2]
theorem WF_of {h : Hp} {m : Nat} (h0 : ∀ k, k < 6 → ∀ i, i < cut G F k → okc G k (h (m + 1 + k) i)) (ht : inb (h m 9) 12) (hh : inb (h m 10) 12) : WF G F (bC h m G F) := by
  intro k i hk hi
  by_cases h6 : k < 6
  · have hc : i < cut G F k := by unfold cutW at hi; unfold cut; by_cases h2 : k < 2 <;> simp only [h2, h6, if_true, if_false] at hi ⊢ <;> exact hi
    have := h0 k h6 i hc
    simp only [bC, h6, hc, if_true]; exact this
  · have : k = 6 := by omega
    subst this
    have hi2 : i < 2 := hi
    match i, hi2 with
    | 0, _ => rw [bCt]; exact ht
    | 1, _ => rw [bCh]; exact hh
end WFS
theorem nn0 : nI 0 = 0 := rfl
theorem nn1 : nI 1 = 1 := rfl
theorem nn2 : nI 2 = 2 := rfl
theorem nn3 : nI 3 = 3 := rfl
theorem nn4 : nI 4 = 4 := rfl
theorem nn5 : nI 5 = 5 := rfl
theorem nn6 : nI 6 = 6 := rfl
theorem nn7 : nI 7 = 7 := rfl
theorem nn8 : nI 8 = 8 := rfl
theorem nn9 : nI 9 = 9 := rfl
theorem nn10 : nI 10 = 10 := rfl
theorem nn11 : nI 11 = 11 := rfl
theorem nn12 : nI 12 = 12 := rfl
theorem nn13 : nI 13 = 13 := rfl
theorem nn14 : nI 14 = 14 := rfl
theorem nn15 : nI 15 = 15 := rfl
theorem nn16 : nI 16 = 16 := rfl
theorem nn17 : nI 17 = 17 := rfl
theorem nn18 : nI 18 = 18 := rfl
theorem nn19 : nI 19 = 19 := rfl
theorem nn20 : nI 20 = 20 := rfl
theorem nn21 : nI 21 = 21 := rfl
theorem nn22 : nI 22 = 22 := rfl
theorem nn23 : nI 23 = 23 := rfl
theorem nn24 : nI 24 = 24 := rfl
theorem nn25 : nI 25 = 25 := rfl
theorem nn26 : nI 26 = 26 := rfl
theorem nn27 : nI 27 = 27 := rfl
theorem nn28 : nI 28 = 28 := rfl
theorem nn29 : nI 29 = 29 := rfl
theorem nn30 : nI 30 = 30 := rfl
theorem nn31 : nI 31 = 31 := rfl
theorem nn32 : nI 32 = 32 := rfl
theorem nn33 : nI 33 = 33 := rfl
theorem nn34 : nI 34 = 34 := rfl
theorem nn35 : nI 35 = 35 := rfl
theorem nn36 : nI 36 = 36 := rfl
theorem nn37 : nI 37 = 37 := rfl
theorem nn38 : nI 38 = 38 := rfl
theorem nn39 : nI 39 = 39 := rfl
theorem nn40 : nI 40 = 40 := rfl
