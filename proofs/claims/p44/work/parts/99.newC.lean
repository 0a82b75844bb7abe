/-! ===== the object is new ===== -/
/-- a new object -/
def S00 : OS := mkS 0 0 (fun _ k _ hr _ _ => k + hr / 4) (fun k i => if k = 6 ∧ i = 0 then 5 else 0) (fun _ => 0) none (0, 0, fun _ => (0, 0, 0)) (fun _ => (-1, 0, fun _ => 0)) (0, fun _ => 0)
section NC
variable {f : FB} {d : Nat} {h : Hp} {j : Jp} {r : Rp} {E : EE} {Q : Option PV → Mem → Prop}
theorem new70 (G : GM f 3 17 [] [] h j r E) (hQ : ∀ h j r E, GM f 113 4135 rl_70_4e ih_70_4e h j r E → Q none (mm h j r E)) : WP (d + 1) 70 0 [some (vr 2), none] [] (mm h j r E) Q :=
  n70_0 G (fun _ _ _ _ G => n70_1 G (fun _ _ _ _ G => n70_2 G (fun _ _ _ _ G => n70_3 G (fun _ _ _ _ G => n70_4 G hQ))))
theorem gm_ob (G : GM f 113 4135 rl_70_4e ih_70_4e h j r E) : ObS S00 h j r E ∧ E.2.2.1 = 113 ∧ E.2.2.2 = 4135 ∧ FrB f h j r E := by
  obtain ⟨g1, g2, _, _, _, g5, g6⟩ := G
  have gh : ∀ a i (v : Int32), 2 ≤ a → a < 113 → PL 0 ih_70_4e a i = v → h a i = v := fun a i v p q e => ((g5 a p q).2.2.1 i).trans e
  have gr : ∀ a i v, 2 ≤ a → a < 113 → PL 0 rl_70_4e a i = v → r a i = v := fun a i v p q e => ((g5 a p q).2.2.2.1 i).trans e
  have gj : ∀ a i, 2 ≤ a → a < 113 → j a i = 0 := fun a i p q => (g5 a p q).2.2.2.2 i
  have hS : Sh r E := by
    refine ⟨fun a ha h2 => ⟨(g5 a h2 ha).1, (g5 a h2 ha).2.1⟩, fun t ht => ?_, by omega, ?_⟩
    · have q : ∀ t ∈ RfL, 2 ≤ t.1 ∧ t.1 < 113 ∧ PL 0 rl_70_4e t.1 t.2.1 = t.2.2 := by decide +kernel
      obtain ⟨q1, q2, q3⟩ := q t ht
      exact gr _ _ _ q1 q2 q3
    · rw [gr 2 4 27 (by decide) (by decide) (by decide +kernel), gr 2 5 32 (by decide) (by decide) (by decide +kernel)]
  have h39 : h 3 9 = 5 := gh 3 9 5 (by decide) (by decide) (by decide +kernel)
  have h310 : h 3 10 = 0 := gh 3 10 0 (by decide) (by decide) (by decide +kernel)
  have eb : bC h 3 0 0 = oB S00 := by
    funext k i
    show bC h 3 0 0 k i = if k = 6 ∧ i = 0 then 5 else 0
    unfold bC
    by_cases k6 : k < 6
    · have : cut 0 0 k = 0 := by unfold cut; split <;> rfl
      rw [if_pos k6, this, if_neg (Nat.not_lt_zero _), if_neg (show ¬ (k = 6 ∧ i = 0) by omega)]
    · rw [if_neg k6]
      by_cases e6 : k = 6
      · subst e6
        by_cases i0 : i = 0
        · subst i0; simp [h39]
        · simp [h310, i0]
      · rw [if_neg e6, if_neg (show ¬ (k = 6 ∧ i = 0) from fun hh => e6 hh.1)]
  have wf : WF 0 0 (oB S00) := by
    intro k i hk hi
    unfold cutW at hi
    by_cases e : k = 6
    · subst e
      show inb (if (6 : Nat) = 6 ∧ i = 0 then (5 : Int32) else 0) 12
      split <;> decide
    · exfalso
      split at hi
      · omega
      · rw [if_pos (by omega)] at hi; omega
  have C : CC 0 0 27 (fun _ k _ hr _ _ => k + hr / 4) (oB S00) h r E := by
    refine ⟨hS, gr 2 4 27 (by decide) (by decide) (by decide +kernel), Or.inl rfl, gh 3 7 0 (by decide) (by decide) (by decide +kernel), gh 3 8 0 (by decide) (by decide) (by decide +kernel), by decide, by decide, ?_, eb, wf⟩
    unfold LC
    rw [gh 27 4 0 (by decide) (by decide) (by decide +kernel), if_neg (by decide)]
  refine ⟨⟨⟨27, C⟩, fun i hi => ?_, ?_, ⟨Nat.le_refl _, by decide, ?_, ?_, fun i hi => absurd hi (Nat.not_lt_zero _)⟩, fun s hs => ?_, ⟨by decide, ?_, fun i hi => absurd hi (Nat.not_lt_zero _)⟩⟩, g1, g2, g6⟩
  · have q : ∀ i, i < 5 → PL (0 : Int32) ih_70_4e 10 i = 0 := by decide +kernel
    exact gh 10 i 0 (by decide) (by decide) (q i hi)
  · exact gh 2 3 0 (by decide) (by decide) (by decide +kernel)
  · exact gh 2 10 0 (by decide) (by decide) (by decide +kernel)
  · exact gh 2 9 0 (by decide) (by decide) (by decide +kernel)
  · have q1 : ∀ s, s < 6 → PL (0 : Int32) ih_70_4e (101 + 2 * s) 3 = 0 := by decide +kernel
    have q2 : ∀ s, s < 6 → PL (0 : Int32) ih_70_4e (101 + 2 * s) 2 = -1 := by decide +kernel
    have q3 : ∀ s, s < 6 → PL 0 rl_70_4e (101 + 2 * s) 1 = 0 := by decide +kernel
    refine ⟨gh _ 3 0 (by omega) (by omega) (q1 s hs), Nat.zero_le _, fun i _ => gj _ i (by omega) (by omega), ?_, ?_, Or.inl rfl, fun h0 => absurd (show (-1 : Int32) = 0 from h0) (by decide), fun h0 => absurd rfl h0⟩
    · show h (101 + 2 * s) 2 = if inb (-1) 5 then -1 else -1
      rw [if_neg (by decide)]; exact gh _ 2 (-1) (by omega) (by omega) (q2 s hs)
    · exact ⟨fun _ => show (-1 : Int32) < 10 by decide, fun _ => gr _ 1 0 (by omega) (by omega) (q3 s hs)⟩
  · exact gh 2 7 0 (by decide) (by decide) (by decide +kernel)
/-- what stands elsewhere at first -/
def fB0 (φ : Int32) (L : Nat) (xs : Nat → Int32) : FB := ((M0 φ L xs).1, (M0 φ L xs).2.1, (M0 φ L xs).2.2.1, (M0 φ L xs).2.2.2.1, (M0 φ L xs).2.2.2.2.1)
theorem gm_0 {φ : Int32} {L : Nat} {xs : Nat → Int32} : GM (fB0 φ L xs) 2 0 [] [] (M0 φ L xs).1 (M0 φ L xs).2.1 (M0 φ L xs).2.2.1 (M0 φ L xs).2.2.2 := ⟨rfl, rfl, ⟨Nat.le_refl _, by decide⟩, fun t ht => absurd ht List.not_mem_nil, fun t ht => absurd ht List.not_mem_nil, fun a h2 hX => absurd hX (by omega), fun a _ => ⟨rfl, rfl, rfl, rfl, rfl⟩⟩
/-- a new object stands at 2, over what the law is given -/
theorem new_ob {φ : Int32} {L : Nat} {xs : Nat → Int32} (hQ : ∀ h j r E, ObS S00 h j r E → E.2.2.1 = 113 → E.2.2.2 = 4135 → FrB (fB0 φ L xs) h j r E → Q none (mm h j r E)) : WP (d + 1) 70 0 [some (vr 2), none] [] (nw (M0 φ L xs) 11 0 17) Q := by
  rw [mm_eta (M0 φ L xs)]
  refine gm_nw gm_0 rfl rfl ?_
  intro h j r E G
  refine new70 G ?_
  intro h j r E G
  obtain ⟨a, b, c, e⟩ := gm_ob G
  exact hQ h j r E a b c e
end NC
