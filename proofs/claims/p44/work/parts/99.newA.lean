/-! ===== the constructors (gen_new.py) ===== -/
def zr {α : Type} (z : α) (f : Nat → Nat → α) (x : Nat) : Nat → Nat → α := fun b i => if b = x then z else f b i
theorem zr_n {α : Type} {z : α} {f : Nat → Nat → α} {x b : Nat} (h : b ≠ x) : zr z f x b = f b := by funext i; exact if_neg h
theorem mm_nw {h : Hp} {j : Jp} {r : Rp} {E : EE} {k n s : Nat} : nw (mm h j r E) k n s = mm (zr 0 h E.2.2.1) (zr 0 j E.2.2.1) (zr 0 r E.2.2.1) (up1 E.1 E.2.2.1 k, up1 E.2.1 E.2.2.1 n, E.2.2.1 + 1, E.2.2.2 + s) := rfl
theorem up1_s {α : Type} {f : Nat → α} {a : Nat} {v : α} : up1 f a v a = v := if_pos rfl
theorem up1_n {α : Type} {f : Nat → α} {a x : Nat} {v : α} (h : x ≠ a) : up1 f a v x = f x := if_neg h
abbrev FB : Type := Hp × Jp × Rp × (Nat → Nat) × (Nat → Nat)
/-- what lies elsewhere is as in f -/
def FrB (f : FB) (h : Hp) (j : Jp) (r : Rp) (E : EE) : Prop := ∀ a, a < 2 ∨ 113 ≤ a → h a = f.1 a ∧ j a = f.2.1 a ∧ r a = f.2.2.1 a ∧ E.1 a = f.2.2.2.1 a ∧ E.2.1 a = f.2.2.2.2 a
/-- a row of what lies where, the latest first -/
def PL {α : Type} (z : α) : List (Nat × Nat × α) → Nat → Nat → α
  | [], _, _ => z
  | t :: l, a, i => if a = t.1 ∧ i = t.2.1 then t.2.2 else PL z l a i
def GM (f : FB) (X S : Nat) (l : List (Nat × Nat × Nat)) (hl : List (Nat × Nat × Int32)) (h : Hp) (j : Jp) (r : Rp) (E : EE) : Prop :=
  E.2.2.1 = X ∧ E.2.2.2 = S ∧ (2 ≤ X ∧ X ≤ 113) ∧ (∀ t ∈ l, t.1 < X) ∧ (∀ t ∈ hl, t.1 < X) ∧ (∀ a, 2 ≤ a → a < X → E.1 a = KdL.getD a 99 ∧ E.2.1 a = LnL.getD a 0 ∧ (∀ i, h a i = PL 0 hl a i) ∧ (∀ i, r a i = PL 0 l a i) ∧ ∀ i, j a i = 0) ∧ FrB f h j r E
section GMS
variable {f : FB} {d y pc X S a i k n s q : Nat} {l : List (Nat × Nat × Nat)} {hl : List (Nat × Nat × Int32)} {h : Hp} {j : Jp} {r : Rp} {E : EE} {Q : Option PV → Mem → Prop} {ls : Loc1} {st : List PV} {v : Int32}
theorem PL_z {α : Type} {z : α} : ∀ {l : List (Nat × Nat × α)}, (∀ t ∈ l, t.1 ≠ a) → PL z l a i = z := by
  intro l
  induction l with
  | nil => intro _; rfl
  | cons t l ih =>
    intro h
    rw [PL, if_neg (fun hh => h t (List.mem_cons_self ..) hh.1.symm)]
    exact ih (fun u hu => h u (List.mem_cons_of_mem _ hu))
theorem PL_up {α : Type} {z v : α} {l : List (Nat × Nat × α)} {f : Nat → Nat → α} {b c : Nat} (h : f b c = PL z l b c) : up2 f a i v b c = PL z ((a, i, v) :: l) b c := by
  rw [PL, up2]
  by_cases h1 : b = a
  · by_cases h2 : c = i
    · rw [if_pos h1, if_pos h2, if_pos ⟨h1, h2⟩]
    · rw [if_pos h1, if_neg h2, if_neg (fun hh => h2 hh.2)]; exact h
  · rw [if_neg h1, if_neg (fun hh => h1 hh.1)]; exact h
theorem GM.kd (G : GM f X S l hl h j r E) (h2 : 2 ≤ a) (hX : a < X) (e : KdL.getD a 99 = k) : mK (mm h j r E) a = k := ((G.2.2.2.2.2.1 a h2 hX).1).trans e
theorem GM.klt (G : GM f X S l hl h j r E) (h2 : 2 ≤ a) (hX : a < X) (e : KdL.getD a 99 < 13) : mK (mm h j r E) a < 13 := by rw [G.kd h2 hX rfl]; exact e
theorem GM.lgt (G : GM f X S l hl h j r E) (h2 : 2 ≤ a) (hX : a < X) (e : LnL.getD a 0 = k) : mN (mm h j r E) a = k := ((G.2.2.2.2.2.1 a h2 hX).2.1).trans e
theorem GM.rf (G : GM f X S l hl h j r E) (h2 : 2 ≤ a) (hX : a < X) (e : PL 0 l a i = k) : mR (mm h j r E) a i = k := ((G.2.2.2.2.2.1 a h2 hX).2.2.2.1 i).trans e
theorem GM.mX (G : GM f X S l hl h j r E) : mX (mm h j r E) = X := G.1
theorem GM.ok (G : GM f X S l hl h j r E) (h2 : 2 ≤ a) (hX : a < X) (g2 : 2 ≤ q) (gX : q < X) (e : okA (KdL.getD a 99) (KdL.getD q 99) = true) : okA (mK (mm h j r E) a) (mK (mm h j r E) q) = true := by rw [G.kd h2 hX rfl, G.kd g2 gX rfl]; exact e
theorem GM.ib (G : GM f X S l hl h j r E) (h2 : 2 ≤ a) (hX : a < X) (e : inb v (LnL.getD a 0)) : inb v (mN (mm h j r E) a) := by rw [G.lgt h2 hX rfl]; exact e
theorem gm_nw (G : GM f X S l hl h j r E) (hk : KdL.getD X 99 = k) (hn : LnL.getD X 0 = n) (hQ : ∀ h j r E, GM f (X + 1) (S + s) l hl h j r E → WP d y pc ls st (mm h j r E) Q) (hx : X < 113 := by decide) : WP d y pc ls st (nw (mm h j r E) k n s) Q := by
  rw [mm_nw]
  obtain ⟨g1, g2, g0, g3, g4, g5, g6⟩ := G
  refine hQ _ _ _ _ ⟨by show E.2.2.1 + 1 = _; omega, by show E.2.2.2 + s = _; omega, ⟨by omega, by omega⟩, fun t ht => by have := g3 t ht; omega, fun t ht => by have := g4 t ht; omega, fun a h2 hX => ?_, ?_⟩
  · by_cases e : a = X
    · subst e
      refine ⟨?_, ?_, fun i => ?_, fun i => ?_, fun i => ?_⟩
      · show up1 E.1 E.2.2.1 k a = _; rw [g1, up1_s, hk]
      · show up1 E.2.1 E.2.2.1 n a = _; rw [g1, up1_s, hn]
      · rw [g1, PL_z (fun t ht => by have := g4 t ht; omega)]; exact if_pos rfl
      · rw [g1, PL_z (fun t ht => by have := g3 t ht; omega)]; exact if_pos rfl
      · rw [g1]; exact if_pos rfl
    · obtain ⟨q1, q2, q3, q4, q5⟩ := g5 a h2 (by omega)
      refine ⟨?_, ?_, fun i => ?_, fun i => ?_, fun i => ?_⟩
      · show up1 E.1 E.2.2.1 k a = _; rw [g1, up1_n e]; exact q1
      · show up1 E.2.1 E.2.2.1 n a = _; rw [g1, up1_n e]; exact q2
      · rw [g1, zr_n e]; exact q3 i
      · rw [g1, zr_n e]; exact q4 i
      · rw [g1, zr_n e]; exact q5 i
  · intro b hb
    obtain ⟨q1, q2, q3, q4, q5⟩ := g6 b hb
    have hbx : b ≠ X := by omega
    refine ⟨?_, ?_, ?_, ?_, ?_⟩
    · rw [g1, zr_n hbx]; exact q1
    · rw [g1, zr_n hbx]; exact q2
    · rw [g1, zr_n hbx]; exact q3
    · show up1 E.1 E.2.2.1 k b = _; rw [g1, up1_n hbx]; exact q4
    · show up1 E.2.1 E.2.2.1 n b = _; rw [g1, up1_n hbx]; exact q5
theorem mnl_in {X n : Nat} {t : Nat × Nat × Nat} (h : t ∈ (List.range n).map (fun c => (X, c, X + 1 + c))) : t.1 = X := by
  obtain ⟨c, _, rfl⟩ := List.mem_map.1 h; rfl
theorem PL_app {l' : List (Nat × Nat × Nat)} : ∀ {l : List (Nat × Nat × Nat)}, (∀ t ∈ l, t.1 ≠ a) → PL 0 (l ++ l') a i = PL 0 l' a i := by
  intro l
  induction l with
  | nil => intro _; rfl
  | cons t l ih =>
    intro h
    rw [List.cons_append, PL, if_neg (fun hh => h t (List.mem_cons_self ..) hh.1.symm)]
    exact ih (fun u hu => h u (List.mem_cons_of_mem _ hu))
theorem PL_mn {X c : Nat} {l' : List (Nat × Nat × Nat)} (hz : PL 0 l' X c = 0) : ∀ {n : Nat}, PL 0 ((List.range n).map (fun c => (X, c, X + 1 + c)) ++ l') X c = if c < n then X + 1 + c else 0 := by
  intro n
  have key : ∀ {xs : List Nat}, PL 0 (xs.map (fun c => (X, c, X + 1 + c)) ++ l') X c = if c ∈ xs then X + 1 + c else 0 := by
    intro xs
    induction xs with
    | nil => rw [List.map_nil, List.nil_append, hz, if_neg List.not_mem_nil]
    | cons x xs ih =>
      rw [List.map_cons, List.cons_append, PL]
      by_cases e : c = x
      · subst e; rw [if_pos ⟨rfl, rfl⟩, if_pos (List.mem_cons_self ..)]
      · rw [if_neg (fun hh => e hh.2), ih]
        by_cases m : c ∈ xs
        · rw [if_pos m, if_pos (List.mem_cons_of_mem _ m)]
        · rw [if_neg m, if_neg (fun hh => by rcases List.mem_cons.1 hh with hh | hh; exact e hh; exact m hh)]
  rw [key]
  by_cases m : c < n
  · rw [if_pos (List.mem_range.2 m), if_pos m]
  · rw [if_neg (fun hh => m (List.mem_range.1 hh)), if_neg m]
theorem gm_nw2 (G : GM f X S l hl h j r E) (hk : KdL.getD X 99 = 17) (hn : LnL.getD X 0 = n) (hk2 : ∀ c, c < n → KdL.getD (X + 1 + c) 99 = 13 ∧ LnL.getD (X + 1 + c) 0 = k) (hQ : ∀ h j r E, GM f (X + 1 + n) (S + n + n * k) ((List.range n).map (fun c => (X, c, X + 1 + c)) ++ l) hl h j r E → WP d y pc ls st (mm h j r E) Q) (hx : X + n < 113 := by decide) : WP d y pc ls st (nw2 (mm h j r E) n k) Q := by
  obtain ⟨g1, g2, g0, g3, g4, g5, g6⟩ := G
  rw [mm_eta (nw2 (mm h j r E) n k)]
  have ex : Jvm.Pilot.CFrogBreathLaw_law_r9070_616874.mX (mm h j r E) = X := g1
  refine hQ _ _ _ _ ⟨by show mX (mm h j r E) + 1 + n = _; rw [ex], by show E.2.2.2 + n + n * k = _; rw [g2], ⟨by omega, by omega⟩, fun t ht => ?_, fun t ht => by have := g4 t ht; omega, fun a h2 hX => ?_, ?_⟩
  · rcases List.mem_append.1 ht with ht | ht
    · have := mnl_in ht; omega
    · have := g3 t ht; omega
  · by_cases e : X ≤ a
    · have ei : X ≤ a ∧ a ≤ X + n := ⟨e, by omega⟩
      refine ⟨?_, ?_, fun i => ?_, fun i => ?_, fun i => ?_⟩
      · show (if mX (mm h j r E) ≤ a ∧ a ≤ mX (mm h j r E) + n then (if a = mX (mm h j r E) then 17 else 13) else E.1 a) = _
        rw [ex, if_pos ei]
        by_cases e2 : a = X
        · rw [if_pos e2, e2, hk]
        · rw [if_neg e2]; have := (hk2 (a - X - 1) (by omega)).1; rw [show X + 1 + (a - X - 1) = a by omega] at this; exact this.symm
      · show (if mX (mm h j r E) ≤ a ∧ a ≤ mX (mm h j r E) + n then (if a = mX (mm h j r E) then n else k) else E.2.1 a) = _
        rw [ex, if_pos ei]
        by_cases e2 : a = X
        · rw [if_pos e2, e2, hn]
        · rw [if_neg e2]; have := (hk2 (a - X - 1) (by omega)).2; rw [show X + 1 + (a - X - 1) = a by omega] at this; exact this.symm
      · rw [PL_z (fun t ht => by have := g4 t ht; omega)]
        show (if mX (mm h j r E) ≤ a ∧ a ≤ mX (mm h j r E) + n then 0 else h a i) = _
        rw [ex, if_pos ei]
      · show (if mX (mm h j r E) ≤ a ∧ a ≤ mX (mm h j r E) + n then (if a = mX (mm h j r E) then (if i < n then mX (mm h j r E) + 1 + i else 0) else 0) else r a i) = _
        rw [ex, if_pos ei]
        by_cases e2 : a = X
        · rw [if_pos e2, e2, PL_mn (PL_z (fun t ht => by have := g3 t ht; omega))]
        · rw [if_neg e2, PL_app (fun t ht => by have := mnl_in ht; omega), PL_z (fun t ht => by have := g3 t ht; omega)]
      · show (if mX (mm h j r E) ≤ a ∧ a ≤ mX (mm h j r E) + n then 0 else j a i) = _
        rw [ex, if_pos ei]
    · obtain ⟨q1, q2, q3, q4, q5⟩ := g5 a h2 (by omega)
      have ei : ¬ (X ≤ a ∧ a ≤ X + n) := fun hh => e hh.1
      refine ⟨?_, ?_, fun i => ?_, fun i => ?_, fun i => ?_⟩
      · show (if mX (mm h j r E) ≤ a ∧ a ≤ mX (mm h j r E) + n then (if a = mX (mm h j r E) then 17 else 13) else E.1 a) = _
        rw [ex, if_neg ei]; exact q1
      · show (if mX (mm h j r E) ≤ a ∧ a ≤ mX (mm h j r E) + n then (if a = mX (mm h j r E) then n else k) else E.2.1 a) = _
        rw [ex, if_neg ei]; exact q2
      · show (if mX (mm h j r E) ≤ a ∧ a ≤ mX (mm h j r E) + n then 0 else h a i) = _
        rw [ex, if_neg ei]; exact q3 i
      · show (if mX (mm h j r E) ≤ a ∧ a ≤ mX (mm h j r E) + n then (if a = mX (mm h j r E) then (if i < n then mX (mm h j r E) + 1 + i else 0) else 0) else r a i) = _
        rw [ex, if_neg ei, PL_app (fun t ht => by have := mnl_in ht; omega)]; exact q4 i
      · show (if mX (mm h j r E) ≤ a ∧ a ≤ mX (mm h j r E) + n then 0 else j a i) = _
        rw [ex, if_neg ei]; exact q5 i
  · intro b hb
    obtain ⟨q1, q2, q3, q4, q5⟩ := g6 b hb
    have ei : ¬ (X ≤ b ∧ b ≤ X + n) := by omega
    refine ⟨funext fun i => ?_, funext fun i => ?_, funext fun i => ?_, ?_, ?_⟩
    · show (if mX (mm h j r E) ≤ b ∧ b ≤ mX (mm h j r E) + n then 0 else h b i) = _
      rw [ex, if_neg ei, q1]
    · show (if mX (mm h j r E) ≤ b ∧ b ≤ mX (mm h j r E) + n then 0 else j b i) = _
      rw [ex, if_neg ei, q2]
    · show (if mX (mm h j r E) ≤ b ∧ b ≤ mX (mm h j r E) + n then (if b = mX (mm h j r E) then (if i < n then mX (mm h j r E) + 1 + i else 0) else 0) else r b i) = _
      rw [ex, if_neg ei, q3]
    · show (if mX (mm h j r E) ≤ b ∧ b ≤ mX (mm h j r E) + n then (if b = mX (mm h j r E) then 17 else 13) else E.1 b) = _
      rw [ex, if_neg ei]; exact q4
    · show (if mX (mm h j r E) ≤ b ∧ b ≤ mX (mm h j r E) + n then (if b = mX (mm h j r E) then n else k) else E.2.1 b) = _
      rw [ex, if_neg ei]; exact q5
theorem gm_sR (G : GM f X S l hl h j r E) (ha : a < X) (hQ : ∀ r, GM f X S ((a, i, k) :: l) hl h j r E → WP d y pc ls st (mm h j r E) Q) (ha2 : 2 ≤ a := by decide) : WP d y pc ls st (sR (mm h j r E) a i k) Q := by
  obtain ⟨g1, g2, g0, g3, g4, g5, g6⟩ := G
  refine hQ _ ⟨g1, g2, g0, fun t ht => ?_, g4, fun b h2 hX => ?_, fun b hb => by obtain ⟨q1, q2, q3, q4, q5⟩ := g6 b hb; exact ⟨q1, q2, by rw [up2_a (by omega)]; exact q3, q4, q5⟩⟩
  · rcases List.mem_cons.1 ht with ht | ht
    · rw [ht]; exact ha
    · exact g3 t ht
  · obtain ⟨q1, q2, q3, q4, q5⟩ := g5 b h2 hX
    exact ⟨q1, q2, q3, fun c => PL_up (q4 c), q5⟩
theorem gm_sI (G : GM f X S l hl h j r E) (ha : a < X) (hQ : ∀ h, GM f X S l ((a, i, v) :: hl) h j r E → WP d y pc ls st (mm h j r E) Q) (ha2 : 2 ≤ a := by decide) : WP d y pc ls st (sI (mm h j r E) a i v) Q := by
  obtain ⟨g1, g2, g0, g3, g4, g5, g6⟩ := G
  refine hQ _ ⟨g1, g2, g0, g3, fun t ht => ?_, fun b h2 hX => ?_, fun b hb => by obtain ⟨q1, q2, q3, q4, q5⟩ := g6 b hb; exact ⟨by rw [up2_a (by omega)]; exact q1, q2, q3, q4, q5⟩⟩
  · rcases List.mem_cons.1 ht with ht | ht
    · rw [ht]; exact ha
    · exact g4 t ht
  · obtain ⟨q1, q2, q3, q4, q5⟩ := g5 b h2 hX
    exact ⟨q1, q2, fun c => PL_up (q3 c), q4, q5⟩
end GMS
