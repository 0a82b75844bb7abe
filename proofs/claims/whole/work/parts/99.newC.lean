/-! ===== both are new ===== -/
section NC
variable {d : Nat} {h : Hp} {j : Jp} {r : Rp} {E : EE} {Q : Option PV → Mem → Prop}
theorem new70 (G : GM 3 17 [] [] h j r E) (hQ : ∀ h j r E, GM 113 4135 rl_70_4e ih_70_4e h j r E → Q none (mm h j r E)) : WP (d + 1) 70 0 [some (vr 2), none] [] (mm h j r E) Q :=
  n70_0 G (fun _ _ _ _ G => n70_1 G (fun _ _ _ _ G => n70_2 G (fun _ _ _ _ G => n70_3 G (fun _ _ _ _ G => n70_4 G hQ))))
theorem new144 (G : GM 114 4183 rl_144_5 ih_144_5 h j r E) (hQ : ∀ h j r E, GM 143 6223 rl_144_7e ih_144_7e h j r E → Q none (mm h j r E)) : WP (d + 1) 144 0 [some (vr 113), none] [] (mm h j r E) Q :=
  n144_5 G (fun _ _ _ _ G => n144_6 G (fun _ _ _ _ G => n144_7 G hQ))
theorem gm_inv (G : GM 143 6223 rl_144_7e ih_144_7e h j r E) : Inv h j r E := by
  obtain ⟨g1, g2, _, _, _, g5, g6⟩ := G
  have gh : ∀ a i (v : Int32), 2 ≤ a → a < 143 → PL 0 ih_144_7e a i = v → h a i = v := fun a i v p q e => ((g5 a p q).2.2.1 i).trans e
  have gr : ∀ a i v, 2 ≤ a → a < 143 → PL 0 rl_144_7e a i = v → r a i = v := fun a i v p q e => ((g5 a p q).2.2.2.1 i).trans e
  have gj : ∀ a i, 2 ≤ a → a < 143 → j a i = 0 := fun a i p q => (g5 a p q).2.2.2.2 i
  have hS : Sh r E := by
    refine ⟨fun a ha h2 => ⟨(g5 a h2 ha).1, (g5 a h2 ha).2.1⟩, fun t ht => ?_, by omega, ?_⟩
    · have q : ∀ t ∈ RfL, 2 ≤ t.1 ∧ t.1 < 143 ∧ PL 0 rl_144_7e t.1 t.2.1 = t.2.2 := by decide +kernel
      obtain ⟨q1, q2, q3⟩ := q t ht
      exact gr _ _ _ q1 q2 q3
    · rw [gr 2 4 27 (by decide) (by decide) (by decide +kernel), gr 2 5 32 (by decide) (by decide) (by decide +kernel)]
  have h39 : h 3 9 = 5 := gh 3 9 5 (by decide) (by decide) (by decide +kernel)
  have h310 : h 3 10 = 0 := gh 3 10 0 (by decide) (by decide) (by decide +kernel)
  have w6 : ∀ i, i < 2 → okc 0 6 (bC h 3 0 0 6 i) := by
    intro i hi
    match i, hi with
    | 0, _ =>
      show inb (bC h 3 0 0 6 0) 12
      rw [bCt, h39]; decide
    | 1, _ =>
      show inb (bC h 3 0 0 6 1) 12
      rw [bCh, h310]; decide
    | i + 2, hi => omega
  have wf : WF 0 0 (bC h 3 0 0) := by
    intro k i hk hi
    unfold cutW at hi
    by_cases e : k = 6
    · subst e; exact w6 i hi
    · exfalso
      split at hi
      · omega
      · rw [if_pos (by omega)] at hi; omega
  have eb : bM h 0 0 = bC h 3 0 0 := by
    funext k i
    unfold bM bC
    by_cases k6 : k < 6
    · rw [if_pos k6, if_pos k6]
      have : cut 0 0 k = 0 := by unfold cut; split <;> rfl
      rw [this, if_neg (Nat.not_lt_zero _), if_neg (Nat.not_lt_zero _)]
    · rw [if_neg k6, if_neg k6]
      rw [h39, h310, gh 115 0 5 (by decide) (by decide) (by decide +kernel), gh 115 1 0 (by decide) (by decide) (by decide +kernel)]
  have C : CC 0 0 27 (fun _ k _ hr _ _ => k + hr / 4) (bC h 3 0 0) h r E := by
    refine ⟨hS, gr 2 4 27 (by decide) (by decide) (by decide +kernel), Or.inl rfl, gh 3 7 0 (by decide) (by decide) (by decide +kernel), gh 3 8 0 (by decide) (by decide) (by decide +kernel), by decide, by decide, ?_, rfl, wf⟩
    unfold LC
    rw [gh 27 4 0 (by decide) (by decide) (by decide +kernel), if_neg (by decide)]
  have D : DD 0 0 (fun _ k _ hr _ _ => k + hr / 4) (bC h 3 0 0) h r E := by
    refine ⟨hS, gh 113 0 0 (by decide) (by decide) (by decide +kernel), gh 113 1 0 (by decide) (by decide) (by decide +kernel), by decide, by decide, ?_, eb, wf⟩
    unfold LM
    rw [gh 113 6 0 (by decide) (by decide) (by decide +kernel), if_pos rfl]
  refine ⟨0, 0, 27, _, _, C, D, ?_, ?_, ?_, ?_, ?_, ?_, ?_⟩
  · intro i hi
    have q : ∀ i, i < 5 → PL (0 : Int32) ih_144_7e 127 i = PL 0 ih_144_7e 10 i := by decide +kernel
    rw [gh 127 i _ (by decide) (by decide) rfl, gh 10 i _ (by decide) (by decide) rfl]; exact q i hi
  · exact Or.inl ⟨gh 2 3 0 (by decide) (by decide) (by decide +kernel), gh 113 23 0 (by decide) (by decide) (by decide +kernel)⟩
  · exact ⟨0, by decide, gh 2 7 0 (by decide) (by decide) (by decide +kernel), gh 113 4 0 (by decide) (by decide) (by decide +kernel), fun i hi => absurd hi (Nat.not_lt_zero _)⟩
  · exact ⟨0, 0, Nat.le_refl _, by decide, gh 2 10 0 (by decide) (by decide) (by decide +kernel), gh 113 29 0 (by decide) (by decide) (by decide +kernel), gh 2 9 0 (by decide) (by decide) (by decide +kernel), gh 113 28 0 (by decide) (by decide) (by decide +kernel), fun i hi => absurd hi (Nat.not_lt_zero _)⟩
  · exact ⟨0, by decide, gh 2 14 0 (by decide) (by decide) (by decide +kernel), gh 113 31 0 (by decide) (by decide) (by decide +kernel), g1, by omega, fun i hi => absurd hi (Nat.not_lt_zero _)⟩
  · exact ⟨0, by decide, gh 99 0 0 (by decide) (by decide) (by decide +kernel), gh 113 33 0 (by decide) (by decide) (by decide +kernel), fun i _ hi => absurd hi (Nat.not_lt_zero _)⟩
  · refine ⟨fun _ => -1, fun _ => 0, fun _ _ => 0, fun s hs => ?_, fun s hs => ?_, 0, gh 2 14 0 (by decide) (by decide) (by decide +kernel), by decide, fun s hs h10 => absurd (show (10 : Int32) ≤ -1 from h10) (by decide)⟩
    · have q1 : ∀ s, s < 6 → PL (0 : Int32) ih_144_7e (101 + 2 * s) 3 = 0 := by decide +kernel
      have q2 : ∀ s, s < 6 → PL (0 : Int32) ih_144_7e (101 + 2 * s) 2 = -1 := by decide +kernel
      have q3 : ∀ s, s < 6 → PL 0 rl_144_7e (101 + 2 * s) 1 = 0 := by decide +kernel
      refine ⟨gh _ 3 0 (by omega) (by omega) (q1 s hs), Nat.zero_le _, fun i _ => gj _ i (by omega) (by omega), ?_, ?_, Or.inl rfl, fun h0 => absurd (show (-1 : Int32) = 0 from h0) (by decide), fun h0 => absurd rfl h0⟩
      · show h (101 + 2 * s) 2 = if inb (-1) 5 then -1 else -1
        rw [if_neg (by decide)]; exact gh _ 2 (-1) (by omega) (by omega) (q2 s hs)
      · exact ⟨fun _ => show (-1 : Int32) < 10 by decide, fun _ => gr _ 1 0 (by omega) (by omega) (q3 s hs)⟩
    · have q1 : ∀ s, s < 6 → PL (0 : Int32) ih_144_7e 133 s = -1 := by decide +kernel
      have q2 : ∀ s, s < 6 → PL (0 : Int32) ih_144_7e 134 s = 0 := by decide +kernel
      exact ⟨gh 133 s (-1) (by decide) (by decide) (q1 s hs), gh 134 s 0 (by decide) (by decide) (q2 s hs), fun i _ => gj 135 _ (by decide) (by decide)⟩
/-- the whole script -/
theorem law_all {L : Nat} {xs : Nat → Int32} (hL : L ≤ 3072) : WP 1500 0 0 [some (vr 1), none, none, none] [] (M0 L xs) (fun v M' => v = some (vi 1) ∧ mX M' ≤ 600002 ∧ mS M' ≤ 7302250) := by
  rw [k0_0, show mX (M0 L xs) = 2 from rfl, k0_3, mm_eta (M0 L xs)]
  have G0 : GM 2 0 [] [] (M0 L xs).1 (M0 L xs).2.1 (M0 L xs).2.2.1 (M0 L xs).2.2.2 := ⟨rfl, rfl, Nat.le_refl _, fun t ht => absurd ht List.not_mem_nil, fun t ht => absurd ht List.not_mem_nil, fun a h2 hX => absurd hX (by omega), rfl⟩
  have S0 : mN (nw (mm (M0 L xs).1 (M0 L xs).2.1 (M0 L xs).2.2.1 (M0 L xs).2.2.2) 11 0 17) 1 = L := rfl
  have T0 : mK (nw (mm (M0 L xs).1 (M0 L xs).2.1 (M0 L xs).2.2.1 (M0 L xs).2.2.2) 11 0 17) 1 = 13 := rfl
  have X0 : 2 ≤ mX (nw (mm (M0 L xs).1 (M0 L xs).2.1 (M0 L xs).2.2.1 (M0 L xs).2.2.2) 11 0 17) := by show 2 ≤ 3; decide
  rw [k0_4 (d := 1499) (by decide) (by show 11 < 13; decide)]
  refine WP.mono (WP.sc (Q := fun v M' => v = none ∧ ∃ h j r E, M' = mm h j r E ∧ GM 113 4135 rl_70_4e ih_70_4e h j r E) (gm_nw (k := 11) (n := 0) (s := 17) G0 rfl rfl (fun _ _ _ _ G => new70 (d := 1498) G (fun h j r E G => ⟨rfl, h, j, r, E, rfl, G⟩))) T0 X0) ?_
  intro v M1 ⟨⟨e1, h, j, r, E, e2, G⟩, s1⟩
  subst e1 e2
  have S1 : mN (mm h j r E) 1 = L := s1.2.2.1.trans S0
  simp only [psh_n]
  rw [k0_7, k0_8, G.mX]
  have S2 : mN (nw (mm h j r E) 12 0 48) 1 = L := by
    show up1 E.2.1 E.2.2.1 0 1 = L
    rw [G.1, up1_n (by decide)]; exact S1
  have T2 : mK (nw (mm h j r E) 12 0 48) 1 = 13 := by
    show up1 E.1 E.2.2.1 12 1 = 13
    rw [G.1, up1_n (by decide)]; exact G.2.2.2.2.2.2
  have X2 : 2 ≤ mX (nw (mm h j r E) 12 0 48) := by show 2 ≤ E.2.2.1 + 1; rw [G.1]; decide
  have K2' : mK (nw (mm h j r E) 12 0 48) 113 < 13 := by
    show up1 E.1 E.2.2.1 12 113 < 13
    rw [G.1, up1_s]; decide
  rw [k0_11, k0_12 (d := 1499) (by decide) K2']
  refine WP.mono (WP.sc (Q := fun v M' => v = none ∧ ∃ h j r E, M' = mm h j r E ∧ GM 143 6223 rl_144_7e ih_144_7e h j r E) (gm_nw (k := 12) (n := 0) (s := 48) G rfl rfl (fun _ _ _ _ G => new144 (d := 1498) G (fun h j r E G => ⟨rfl, h, j, r, E, rfl, G⟩))) T2 X2) ?_
  intro v M1 ⟨⟨e1, h, j, r, E, e2, G⟩, s1⟩
  subst e1 e2
  simp only [psh_n]
  rw [k0_15, k0_16, k0_17]
  exact lawL (d := 1499) (by decide) hL (fun M' q1 q2 => ⟨rfl, q1, q2⟩) (m := 513) (i := 0) (by omega) (by decide) ⟨h, j, r, E, rfl, gm_inv G⟩ ⟨(s1.2.1 1 (by omega)).trans T2, s1.2.2.1.trans S2⟩
end NC
