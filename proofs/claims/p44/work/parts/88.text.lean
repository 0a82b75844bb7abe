/-! ===== the law's text, read and worked ===== -/
abbrev Tk : Type := Int32 × Int32
abbrev PR : Type := Bool × Nat × List Tk
def levF (x : Int32) : Nat := if x = 124 then 0 else if x = 38 then 1 else if x = 60 ∨ x = 61 ∨ x = 62 then 2 else if x = 43 ∨ x = 45 then 3 else if x = 42 ∨ x = 47 ∨ x = 37 then 4 else 5
def namF (x : Int32) : Int32 := if x = 98 then 0 else if x = 107 then 1 else if x = 100 then 2 else if x = 104 then 3 else if x = 103 then 4 else if x = 102 then 5 else -1
/-- what a sign joins -/
def opF (s a b : Int32) : Int32 := if s = 124 then (if a ≠ 0 ∨ b ≠ 0 then 1 else 0) else if s = 38 then (if a ≠ 0 ∧ b ≠ 0 then 1 else 0) else if s = 60 then (if a < b then 1 else 0) else if s = 61 then (if a = b then 1 else 0) else if s = 62 then (if b < a then 1 else 0) else
  if s = 43 then a + b else if s = 45 then a - b else if s = 42 then a * b else if s = 47 then (if b = 0 then 0 else a / b) else (if b = 0 then 0 else a % b)
def numF (T : Nat → Int32) (n : Nat) : Nat → Int32 → Nat → Int32 × Nat
  | 0, v, p => (v, p)
  | k + 1, v, p => if p < n ∧ (48 ≤ T p ∧ T p ≤ 57) then numF T n k (v * 10 + T p - 48) (p + 1) else (v, p)
def apdR (s : PR) (x : Int32) (s2 : PR) : PR := (s2.1, s2.2.1, if s2.1 = true then s.2.2 ++ s2.2.2 ++ [(x, 0)] else s.2.2 ++ s2.2.2)
def lpR (sub : Nat → PR) (T : Nat → Int32) (n lv : Nat) : Nat → PR → PR
  | 0, s => s
  | k + 1, s => if s.1 = true ∧ s.2.1 < n ∧ levF (T s.2.1) = lv then lpR sub T n lv k (apdR s (T s.2.1) (sub (s.2.1 + 1))) else s
def sfxR (t : Tk) (s : PR) : PR := if s.1 = true then (true, s.2.1, s.2.2 ++ [t]) else s
def cloR (T : Nat → Int32) (n : Nat) (s : PR) : PR := if s.1 = true ∧ s.2.1 < n ∧ T s.2.1 = 41 then (true, s.2.1 + 1, s.2.2) else (false, s.2.1, s.2.2)
def opR (T : Nat → Int32) (n : Nat) (s0 s5 : Nat → PR) (o p : Nat) : PR :=
  if p < n ∧ (48 ≤ T p ∧ T p ≤ 57) then (true, (numF T n 4 0 p).2, [(35, (numF T n 4 0 p).1)])
  else if p < n ∧ 0 ≤ namF (T p) then (true, p + 1, [(110, namF (T p))])
  else if 6 ≤ o then (false, p, [])
  else if p < n ∧ T p = 40 then cloR T n (s0 (p + 1))
  else if p < n ∧ T p = 33 then sfxR (33, 0) (s5 (p + 1))
  else if p < n ∧ T p = 45 then sfxR (126, 0) (s5 (p + 1))
  else (false, p, [])
def prs (T : Nat → Int32) (n : Nat) : Nat → (Nat → Nat → Nat → PR)
  | 0 => fun _ _ p => (false, p, [])
  | f + 1 => fun lv o p => if lv < 5 then lpR (prs T n f (lv + 1) o) T n lv (if lv = 2 then 1 else 120) (prs T n f (lv + 1) o p) else opR T n (prs T n f 0 (o + 1)) (prs T n f 5 (o + 1)) o p
theorem prs_s {T : Nat → Int32} {n f lv o p : Nat} : prs T n (f + 1) lv o p = if lv < 5 then lpR (prs T n f (lv + 1) o) T n lv (if lv = 2 then 1 else 120) (prs T n f (lv + 1) o p) else opR T n (prs T n f 0 (o + 1)) (prs T n f 5 (o + 1)) o p := rfl
theorem prs_0 {T : Nat → Int32} {n lv o p : Nat} : prs T n 0 lv o p = (false, p, []) := rfl
section TX
variable {T : Nat → Int32} {n f lv o p k m : Nat} {v x : Int32} {s s2 : PR} {c c2 : List Tk}
/-- a reading from p on: it goes on, no more steps than signs, not beyond the end -/
def PrI (n p : Nat) (s : PR) : Prop := p ≤ s.2.1 ∧ p + s.2.2.length ≤ s.2.1 ∧ (p ≤ n → s.2.1 ≤ n) ∧ (s.1 = true → 1 ≤ s.2.2.length)
theorem numF_p : ∀ {k : Nat} {v : Int32} {p : Nat}, p ≤ (numF T n k v p).2 ∧ (p ≤ n → (numF T n k v p).2 ≤ n) := by
  intro k
  induction k with
  | zero => intro v p; exact ⟨Nat.le_refl _, id⟩
  | succ k ih =>
    intro v p
    rw [numF]
    by_cases c : p < n ∧ (48 ≤ T p ∧ T p ≤ 57)
    · rw [if_pos c]
      have := @ih (v * 10 + T p - 48) (p + 1)
      exact ⟨by omega, fun _ => this.2 (by omega)⟩
    · rw [if_neg c]; exact ⟨Nat.le_refl _, id⟩
theorem numF_s (c : p < n ∧ (48 ≤ T p ∧ T p ≤ 57)) : p + 1 ≤ (numF T n (k + 1) v p).2 := by
  rw [numF, if_pos c]; exact numF_p.1
theorem numF_v : ∀ {k : Nat} {m : Nat} {p : Nat}, m * 10 ^ k + 10 ^ k ≤ 10000 → ∃ m', m' < 10000 ∧ (numF T n k (nI m) p).1 = nI m' := by
  intro k
  induction k with
  | zero => intro m p h; exact ⟨m, by omega, rfl⟩
  | succ k ih =>
    intro m p h
    have e : 10 ^ (k + 1) = 10 * 10 ^ k := by rw [Nat.pow_succ]; omega
    have e1 : 1 ≤ 10 ^ k := Nat.pow_pos (by decide)
    rw [numF]
    by_cases c : p < n ∧ (48 ≤ T p ∧ T p ≤ 57)
    · rw [if_pos c]
      obtain ⟨_, c1, c2⟩ := c
      rw [iLe] at c1 c2
      rw [show (48 : Int32).toInt = 48 from rfl] at c1
      rw [show (57 : Int32).toInt = 57 from rfl] at c2
      have hm : m < 10000 := by
        have : m * 1 ≤ m * 10 ^ (k + 1) := Nat.mul_le_mul_left m (by omega)
        omega
      obtain ⟨dg, hd⟩ : ∃ dg : Nat, (T p).toInt = 48 + dg := ⟨((T p).toInt - 48).toNat, by omega⟩
      have q1 : T p = nI (48 + dg) := by rw [iEq, nI_toInt (by omega), hd]; omega
      have q2 : nI m * 10 + T p - 48 = nI (m * 10 + dg) := by
        rw [q1, show (10 : Int32) = nI 10 from rfl, nMul, nI_add, show m * 10 + (48 + dg) = (m * 10 + dg) + 48 by omega, ← nI_add]
        exact Int32.add_sub_cancel _ _
      rw [q2]
      refine ih ?_
      have : (m * 10 + dg) * 10 ^ k = m * 10 * 10 ^ k + dg * 10 ^ k := Nat.add_mul _ _ _
      have h3 : m * 10 * 10 ^ k = m * (10 * 10 ^ k) := Nat.mul_assoc _ _ _
      have h4 : dg * 10 ^ k ≤ 9 * 10 ^ k := Nat.mul_le_mul_right _ (by omega)
      rw [e] at h; omega
    · rw [if_neg c]
      refine ⟨m, ?_, rfl⟩
      have : m * 1 ≤ m * 10 ^ (k + 1) := Nat.mul_le_mul_left m (by omega)
      omega
theorem PrI.apd (a : PrI n p s) (hn : s.2.1 < n) (b : PrI n (s.2.1 + 1) s2) : PrI n p (apdR s x s2) := by
  obtain ⟨a1, a2, a3, a4⟩ := a
  obtain ⟨b1, b2, b3, b4⟩ := b
  unfold apdR
  refine ⟨by show p ≤ s2.2.1; omega, ?_, fun _ => b3 (by omega), ?_⟩
  · show p + (if s2.1 = true then s.2.2 ++ s2.2.2 ++ [(x, 0)] else s.2.2 ++ s2.2.2).length ≤ s2.2.1
    split
    · rw [List.length_append, List.length_append, List.length_singleton]; omega
    · rw [List.length_append]; omega
  · intro h
    show 1 ≤ (if s2.1 = true then s.2.2 ++ s2.2.2 ++ [(x, 0)] else s.2.2 ++ s2.2.2).length
    rw [if_pos h, List.length_append, List.length_singleton]; omega
theorem PrI.lp {sub : Nat → PR} (hs : ∀ q, PrI n q (sub q)) : ∀ {k : Nat} {s : PR}, PrI n p s → PrI n p (lpR sub T n lv k s) := by
  intro k
  induction k with
  | zero => intro s a; exact a
  | succ k ih =>
    intro s a
    rw [lpR]
    by_cases c : s.1 = true ∧ s.2.1 < n ∧ levF (T s.2.1) = lv
    · rw [if_pos c]; exact ih (a.apd c.2.1 (hs _))
    · rw [if_neg c]; exact a
theorem PrI.op {s0 s5 : Nat → PR} (h0 : ∀ q, PrI n q (s0 q)) (h5 : ∀ q, PrI n q (s5 q)) : PrI n p (opR T n s0 s5 o p) := by
  have sf : ∀ t, p < n → PrI n p (sfxR t (s5 (p + 1))) := by
    intro t hp
    obtain ⟨b1, b2, b3, b4⟩ := h5 (p + 1)
    unfold sfxR
    split
    · refine ⟨by show p ≤ (s5 (p + 1)).2.1; omega, ?_, fun _ => b3 (by omega), fun _ => ?_⟩
      · show p + ((s5 (p + 1)).2.2 ++ [t]).length ≤ (s5 (p + 1)).2.1
        rw [List.length_append, List.length_singleton]; omega
      · show 1 ≤ ((s5 (p + 1)).2.2 ++ [t]).length
        rw [List.length_append, List.length_singleton]; omega
    · exact ⟨by omega, by omega, fun _ => b3 (by omega), b4⟩
  unfold opR
  by_cases c1 : p < n ∧ (48 ≤ T p ∧ T p ≤ 57)
  · rw [if_pos c1]
    have e1 : p + 1 ≤ (numF T n 4 0 p).2 := numF_s (k := 3) (v := 0) c1
    refine ⟨by show p ≤ (numF T n 4 0 p).2; omega, by show p + 1 ≤ (numF T n 4 0 p).2; exact e1, numF_p.2, fun _ => Nat.le_refl 1⟩
  rw [if_neg c1]
  by_cases c2 : p < n ∧ 0 ≤ namF (T p)
  · rw [if_pos c2]; exact ⟨Nat.le_succ p, Nat.le_refl (p + 1), fun _ => c2.1, fun _ => Nat.le_refl 1⟩
  rw [if_neg c2]
  have no : PrI n p (false, p, []) := ⟨Nat.le_refl p, Nat.le_refl p, id, fun h => absurd h Bool.false_ne_true⟩
  by_cases c3 : 6 ≤ o
  · rw [if_pos c3]; exact no
  rw [if_neg c3]
  by_cases c4 : p < n ∧ T p = 40
  · rw [if_pos c4]
    obtain ⟨b1, b2, b3, b4⟩ := h0 (p + 1)
    unfold cloR
    split
    · rename_i c
      exact ⟨by show p ≤ (s0 (p + 1)).2.1 + 1; omega, by show p + (s0 (p + 1)).2.2.length ≤ (s0 (p + 1)).2.1 + 1; omega, fun _ => c.2.1, fun _ => b4 c.1⟩
    · exact ⟨by show p ≤ (s0 (p + 1)).2.1; omega, by show p + (s0 (p + 1)).2.2.length ≤ (s0 (p + 1)).2.1; omega, fun _ => b3 (by omega), fun h => absurd h Bool.false_ne_true⟩
  rw [if_neg c4]
  by_cases c5 : p < n ∧ T p = 33
  · rw [if_pos c5]; exact sf _ c5.1
  rw [if_neg c5]
  by_cases c6 : p < n ∧ T p = 45
  · rw [if_pos c6]; exact sf _ c6.1
  rw [if_neg c6]; exact no
theorem prs_i : ∀ {f lv o p : Nat}, PrI n p (prs T n f lv o p) := by
  intro f
  induction f with
  | zero => intro lv o p; exact ⟨Nat.le_refl p, Nat.le_refl p, id, fun h => absurd h Bool.false_ne_true⟩
  | succ f ih =>
    intro lv o p
    rw [prs_s]
    split
    · exact PrI.lp (fun q => ih) ih
    · exact PrI.op (fun q => ih) (fun q => ih)
/-- steps that put one value upon the stack -/
def Gd (c : List Tk) (v : (Nat → Int32) → Int32) : Prop := ∀ P : List Tk → ((Nat → Int32) → Int32) → Prop,
  (∀ m, m < 10000 → P [(35, nI m)] (fun _ => nI m)) → (∀ k, k < 6 → P [(110, nI k)] (fun nm => nm k)) → (∀ c v, P c v → P (c ++ [(33, 0)]) (fun nm => if v nm = 0 then 1 else 0)) → (∀ c v, P c v → P (c ++ [(126, 0)]) (fun nm => -(v nm))) →
  (∀ c v c2 v2 s, P c v → P c2 v2 → levF s < 5 → P (c ++ c2 ++ [(s, 0)]) (fun nm => opF s (v nm) (v2 nm))) → P c v
theorem Gd.num {m : Nat} (h : m < 10000) : Gd [(35, nI m)] (fun _ => nI m) := fun _ h1 _ _ _ _ => h1 m h
theorem Gd.name {k : Nat} (h : k < 6) : Gd [(110, nI k)] (fun nm => nm k) := fun _ _ h2 _ _ _ => h2 k h
theorem Gd.non {v : (Nat → Int32) → Int32} (g : Gd c v) : Gd (c ++ [(33, 0)]) (fun nm => if v nm = 0 then 1 else 0) := fun P h1 h2 h3 h4 h5 => h3 _ _ (g P h1 h2 h3 h4 h5)
theorem Gd.neg {v : (Nat → Int32) → Int32} (g : Gd c v) : Gd (c ++ [(126, 0)]) (fun nm => -(v nm)) := fun P h1 h2 h3 h4 h5 => h4 _ _ (g P h1 h2 h3 h4 h5)
theorem Gd.bin {v v2 : (Nat → Int32) → Int32} {s : Int32} (g : Gd c v) (g2 : Gd c2 v2) (h : levF s < 5) : Gd (c ++ c2 ++ [(s, 0)]) (fun nm => opF s (v nm) (v2 nm)) := fun P h1 h2 h3 h4 h5 => h5 _ _ _ _ _ (g P h1 h2 h3 h4 h5) (g2 P h1 h2 h3 h4 h5) h
theorem Gd.lp {sub : Nat → PR} (hl : lv < 5) (hs : ∀ q, (sub q).1 = true → ∃ v, Gd (sub q).2.2 v) : ∀ {k : Nat} {s : PR}, (s.1 = true → ∃ v, Gd s.2.2 v) → (lpR sub T n lv k s).1 = true → ∃ v, Gd (lpR sub T n lv k s).2.2 v := by
  intro k
  induction k with
  | zero => intro s a h; exact a h
  | succ k ih =>
    intro s a
    rw [lpR]
    by_cases c : s.1 = true ∧ s.2.1 < n ∧ levF (T s.2.1) = lv
    · rw [if_pos c]
      refine ih ?_
      intro h
      obtain ⟨v, g⟩ := a c.1
      have h' : (sub (s.2.1 + 1)).1 = true := h
      obtain ⟨v2, g2⟩ := hs _ h'
      unfold apdR
      show ∃ v, Gd (if (sub (s.2.1 + 1)).1 = true then s.2.2 ++ (sub (s.2.1 + 1)).2.2 ++ [(T s.2.1, 0)] else s.2.2 ++ (sub (s.2.1 + 1)).2.2) v
      rw [if_pos h']
      exact ⟨_, g.bin g2 (by rw [c.2.2]; exact hl)⟩
    · rw [if_neg c]; exact a
theorem namF_k (h : 0 ≤ namF x) : ∃ k, k < 6 ∧ namF x = nI k := by
  unfold namF at h ⊢
  split; exact ⟨0, by decide, rfl⟩
  rename_i a1; rw [if_neg a1] at h
  split; exact ⟨1, by decide, rfl⟩
  rename_i a1; rw [if_neg a1] at h
  split; exact ⟨2, by decide, rfl⟩
  rename_i a1; rw [if_neg a1] at h
  split; exact ⟨3, by decide, rfl⟩
  rename_i a1; rw [if_neg a1] at h
  split; exact ⟨4, by decide, rfl⟩
  rename_i a1; rw [if_neg a1] at h
  split; exact ⟨5, by decide, rfl⟩
  rename_i a1; rw [if_neg a1] at h
  exact absurd h (by decide)
theorem Gd.op {s0 s5 : Nat → PR} (h0 : ∀ q, (s0 q).1 = true → ∃ v, Gd (s0 q).2.2 v) (h5 : ∀ q, (s5 q).1 = true → ∃ v, Gd (s5 q).2.2 v) : (opR T n s0 s5 o p).1 = true → ∃ v, Gd (opR T n s0 s5 o p).2.2 v := by
  unfold opR
  by_cases c1 : p < n ∧ (48 ≤ T p ∧ T p ≤ 57)
  · rw [if_pos c1]
    intro _
    obtain ⟨m, hm, e⟩ := numF_v (T := T) (n := n) (k := 4) (m := 0) (p := p) (by decide)
    have e : (numF T n 4 0 p).1 = nI m := e
    show ∃ v, Gd [(35, (numF T n 4 0 p).1)] v
    rw [e]; exact ⟨_, Gd.num hm⟩
  rw [if_neg c1]
  by_cases c2 : p < n ∧ 0 ≤ namF (T p)
  · rw [if_pos c2]
    intro _
    obtain ⟨k, hk, e⟩ := namF_k c2.2
    show ∃ v, Gd [(110, namF (T p))] v
    rw [e]; exact ⟨_, Gd.name hk⟩
  rw [if_neg c2]
  by_cases c3 : 6 ≤ o
  · rw [if_pos c3]; intro h; exact absurd h Bool.false_ne_true
  rw [if_neg c3]
  by_cases c4 : p < n ∧ T p = 40
  · rw [if_pos c4]
    unfold cloR
    split
    · rename_i c; intro _; exact h0 _ c.1
    · intro h; exact absurd h Bool.false_ne_true
  rw [if_neg c4]
  by_cases c5 : p < n ∧ T p = 33
  · rw [if_pos c5]; unfold sfxR
    split
    · rename_i c; intro _
      obtain ⟨v, g⟩ := h5 _ c
      exact ⟨_, g.non⟩
    · rename_i c; intro h; exact absurd h c
  rw [if_neg c5]
  by_cases c6 : p < n ∧ T p = 45
  · rw [if_pos c6]; unfold sfxR
    split
    · rename_i c; intro _
      obtain ⟨v, g⟩ := h5 _ c
      exact ⟨_, g.neg⟩
    · rename_i c; intro h; exact absurd h c
  rw [if_neg c6]; intro h; exact absurd h Bool.false_ne_true
theorem prs_g : ∀ {f lv o p : Nat}, (prs T n f lv o p).1 = true → ∃ v, Gd (prs T n f lv o p).2.2 v := by
  intro f
  induction f with
  | zero => intro lv o p h; rw [prs_0] at h; exact absurd h Bool.false_ne_true
  | succ f ih =>
    intro lv o p
    rw [prs_s]
    by_cases c : lv < 5
    · rw [if_pos c]; exact Gd.lp c (fun q => ih) ih
    · rw [if_neg c]; exact Gd.op (fun q => ih) (fun q => ih)
end TX
