/-! ===== the rest of the law: stops, rings, pairs; pure ===== -/
section X1
variable {d : Nat} {M : Mem} {φ : Int32} {h h0 h1 h2 : Hp} {j j1 j2 : Jp} {r r1 r2 : Rp} {E : EE} {n m k s L t G F f g q : Nat} {Q : Option PV → Mem → Prop} {x v : Int32} {xs : Nat → Int32} {S S' : OS} {a : Int64} {W : LW} {b : BB} {l6 l7 l8 l9 l10 l11 l12 l13 l14 : Option PV}
theorem of_2 (hG : G ≤ 8) (hF : F ≤ 8) (hf : f < F) : ofA G F b (nI f) 2 = b 2 f := of_v (w := 2) (by decide) hG hF hf
theorem row1_pos {p : Nat → Bool} : ∀ {k i x : Nat}, i ≤ x → x < i + k → p x = true → 0 < row1 p i k := by
  intro k
  induction k with
  | zero => intro i x h1 h2; omega
  | succ k ih =>
    intro i x h1 h2 hp
    rw [row1]
    by_cases e : x = i
    · subst e; rw [if_pos hp]; omega
    · have := ih (i := i + 1) (by omega) (by omega) hp; omega
theorem hr1_row {x sv : Int32} : ∀ {k e : Nat}, hr1 b x sv f e k = true ↔ 0 < row1 (fun e => bit sv e && decide (farB (b 2 e) (b 2 f) ≤ x)) e k := by
  intro k
  induction k with
  | zero => intro e; rw [hr1, row1]; exact ⟨fun h => absurd h (by decide), fun h => absurd h (by omega)⟩
  | succ k ih =>
    intro e
    rw [hr1, row1, Bool.or_eq_true, ih]
    cases (bit sv e && decide (farB (b 2 e) (b 2 f) ≤ x)) with
    | true => simp only [if_true, true_or, true_iff]; omega
    | false => simp only [Bool.false_eq_true, if_false, false_or]; omega
theorem hr1_ex {x sv : Int32} : ∀ {k e : Nat}, hr1 b x sv f e k = true ↔ ∃ y, e ≤ y ∧ y < e + k ∧ bit sv y = true ∧ farB (b 2 y) (b 2 f) ≤ x := by
  intro k
  induction k with
  | zero => intro e; rw [hr1]; exact ⟨fun h => absurd h (by decide), fun ⟨y, h1, h2, _⟩ => by omega⟩
  | succ k ih =>
    intro e
    rw [hr1, Bool.or_eq_true, ih, Bool.and_eq_true, decide_eq_true_iff]
    constructor
    · rintro (⟨h1, h2⟩ | ⟨y, h1, h2, h3⟩)
      · exact ⟨e, Nat.le_refl _, by omega, h1, h2⟩
      · exact ⟨y, by omega, by omega, h3⟩
    · rintro ⟨y, h1, h2, h3⟩
      by_cases q : y = e
      · subst q; exact Or.inl h3
      · exact Or.inr ⟨y, by omega, by omega, h3⟩
theorem hrA_all {x sv : Int32} : ∀ {k f : Nat}, hrA b x sv F f k = true ↔ ∀ y, f ≤ y → y < f + k → hr1 b x sv y 0 F = true := by
  intro k
  induction k with
  | zero => intro f; rw [hrA]; exact ⟨fun _ y h1 h2 => by omega, fun _ => rfl⟩
  | succ k ih =>
    intro f
    rw [hrA, Bool.and_eq_true, ih]
    constructor
    · rintro ⟨h1, h2⟩ y h3 h4
      by_cases q : y = f
      · subst q; exact h1
      · exact h2 y (by omega) (by omega)
    · intro h; exact ⟨h f (by omega) (by omega), fun y h1 h2 => h y (by omega) (by omega)⟩
theorem stC_spec {P : Nat → Bool} : ∀ {k s c : Nat}, (stC P s k c = c ∨ (s ≤ stC P s k c ∧ stC P s k c < s + k ∧ P (stC P s k c) = true)) ∧ pcI (nI (stC P s k c)) ≤ pcI (nI c) ∧ ∀ t, s ≤ t → t < s + k → P t = true → pcI (nI (stC P s k c)) ≤ pcI (nI t) := by
  intro k
  induction k with
  | zero => intro s c; exact ⟨Or.inl rfl, Int32.le_refl _, fun t h1 h2 => by omega⟩
  | succ k ih =>
    intro s c
    rw [stC]
    obtain ⟨i1, i2, i3⟩ := @ih (s + 1) (if pcI (nI s) < pcI (nI c) ∧ P s = true then s else c)
    by_cases q : pcI (nI s) < pcI (nI c) ∧ P s = true
    · rw [if_pos q] at i1 i2 i3 ⊢
      refine ⟨?_, Int32.le_trans i2 (Int32.le_of_lt q.1), ?_⟩
      · rcases i1 with i1 | ⟨h1, h2, h3⟩
        · right; rw [i1]; exact ⟨Nat.le_refl _, by omega, q.2⟩
        · exact Or.inr ⟨by omega, by omega, h3⟩
      · intro t h1 h2 h3
        by_cases e : t = s
        · subst e; exact i2
        · exact i3 t (by omega) (by omega) h3
    · rw [if_neg q] at i1 i2 i3 ⊢
      refine ⟨?_, i2, ?_⟩
      · rcases i1 with i1 | ⟨h1, h2, h3⟩
        · exact Or.inl i1
        · exact Or.inr ⟨by omega, by omega, h3⟩
      · intro t h1 h2 h3
        by_cases e : t = s
        · subst e
          exact Int32.le_trans i2 (Int32.not_lt.1 (fun hh => q ⟨hh, h3⟩))
        · exact i3 t (by omega) (by omega) h3
def stW (F : Nat) (b : BB) (x : Int32) : Nat := stC (fun s => hrA b x (nI s) F 0 F) 0 (2 ^ F) (2 ^ F - 1)
theorem far_all : ∀ p q : Fin 36, farB (nI p.1) (nI q.1) ≤ 10 ∧ farB (nI p.1) (nI p.1) = 0 := by decide +kernel
theorem full_bit : ∀ F : Fin 9, ∀ e : Fin 8, e.1 < F.1 → bit (nI (2 ^ F.1 - 1)) e.1 = true := by decide +kernel
theorem one_bit : bit (nI 1) 0 = true := by decide
theorem stW_spec (w : WF G F b) (F8 : F ≤ 8) (hx : 0 ≤ x) : stW F b x < 2 ^ F ∧ hrA b x (nI (stW F b x)) F 0 F = true ∧ ∀ t, t < 2 ^ F → hrA b x (nI t) F 0 F = true → pcI (nI (stW F b x)) ≤ pcI (nI t) := by
  have t := two_le F8
  obtain ⟨i1, i2, i3⟩ := @stC_spec (fun s => hrA b x (nI s) F 0 F) (2 ^ F) 0 (2 ^ F - 1)
  have full : hrA b x (nI (2 ^ F - 1)) F 0 F = true := by
    refine hrA_all.2 (fun y _ hy => hr1_ex.2 ⟨y, by omega, by omega, full_bit ⟨F, by omega⟩ ⟨y, by omega⟩ (by show y < F; omega), ?_⟩)
    obtain ⟨p, hp, ep, _⟩ := inb_of (w.a2 (show y < F by omega))
    rw [ep, (far_all ⟨p, hp⟩ ⟨p, hp⟩).2]; exact hx
  refine ⟨?_, ?_, fun t ht hp => i3 t (by omega) (by omega) hp⟩
  · show stC _ _ _ _ < _
    rcases i1 with i1 | ⟨h1, h2, h3⟩
    · rw [i1]; omega
    · omega
  · show hrA b x (nI (stC _ _ _ _)) F 0 F = true
    rcases i1 with i1 | ⟨h1, h2, h3⟩
    · rw [i1]; exact full
    · exact h3
/-- farther hears more -/
theorem hrA_mono {x y sv : Int32} (h : x ≤ y) (hp : hrA b x sv F 0 F = true) : hrA b y sv F 0 F = true := by
  refine hrA_all.2 (fun z h1 h2 => ?_)
  obtain ⟨e, q1, q2, q3, q4⟩ := hr1_ex.1 (hrA_all.1 hp z h1 h2)
  exact hr1_ex.2 ⟨e, q1, q2, q3, Int32.le_trans q4 h⟩
theorem stW_mono {y : Int32} (w : WF G F b) (F8 : F ≤ 8) (hx : 0 ≤ x) (h : x ≤ y) : pcI (nI (stW F b y)) ≤ pcI (nI (stW F b x)) := by
  obtain ⟨a1, a2, a3⟩ := stW_spec w F8 hx
  obtain ⟨c1, c2, c3⟩ := stW_spec w F8 (Int32.le_trans hx h)
  exact c3 _ a1 (hrA_mono h a2)
theorem stW_10 (w : WF G F b) (F8 : F ≤ 8) : pcI (nI (stW F b 10)) ≤ 1 := by
  obtain ⟨c1, c2, c3⟩ := stW_spec w F8 (show (0 : Int32) ≤ 10 by decide)
  by_cases q : F = 0
  · subst q
    have : stW 0 b 10 = 0 := by omega
    rw [this]; decide
  · have t : 2 ≤ 2 ^ F := Nat.pow_le_pow_right (n := 2) (i := 1) (by decide) (by omega)
    refine c3 1 (by omega) (hrA_all.2 (fun y _ hy => hr1_ex.2 ⟨0, by omega, by omega, one_bit, ?_⟩))
    obtain ⟨p, hp, ep, _⟩ := inb_of (w.a2 (show y < F by omega))
    obtain ⟨z, hz, ez, _⟩ := inb_of (w.a2 (show 0 < F by omega))
    rw [ep, ez]; exact (far_all ⟨z, hz⟩ ⟨p, hp⟩).1
theorem stW_0 (w : WF G F b) (F8 : F ≤ 8) (hx : 0 ≤ x) : pcI (nI (stW F b x)) = 0 ↔ F = 0 := by
  obtain ⟨c1, c2, c3⟩ := stW_spec w F8 hx
  have t := two_le F8
  rw [pc_row_all ⟨F, by omega⟩ ⟨stW F b x, by omega⟩ c1]
  show nI (row1 (bit (nI (stW F b x))) 0 F) = 0 ↔ F = 0
  have r := @row1_le (bit (nI (stW F b x))) F 0
  rw [iEq, nI_toInt (by omega), i0]
  constructor
  · intro h
    apply Classical.byContradiction
    intro q
    obtain ⟨e, q1, q2, q3, q4⟩ := hr1_ex.1 (hrA_all.1 c2 0 (by omega) (by omega))
    have := row1_pos (p := bit (nI (stW F b x))) (k := F) (i := 0) (x := e) (by omega) (by omega) q3
    omega
  · intro h; subst h; omega
theorem st_0 (hx : inb x 11) : stopsA F b x 0 = pcI (nI (stW F b x)) := by unfold stopsA; rw [if_pos ⟨hx, by decide⟩, if_pos rfl]; rfl
theorem st_1 (hx : inb x 11) : stopsA F b x 1 = nI (stW F b x) := by unfold stopsA; rw [if_pos ⟨hx, by decide⟩, if_neg (by decide)]; rfl
/-! rings -/
theorem itf_add {f : Nat → Nat} : ∀ {p q x : Nat}, itf f (p + q) x = itf f q (itf f p x) := by
  intro p
  induction p with
  | zero => intro q x; rw [Nat.zero_add]; rfl
  | succ p ih => intro q x; rw [show p + 1 + q = (p + q) + 1 by omega]; exact ih
theorem pigeon : ∀ {G : Nat} {z : Nat → Nat}, (∀ i, i ≤ G → z i < G) → ∃ i j, i < j ∧ j ≤ G ∧ z i = z j := by
  intro G
  induction G with
  | zero => intro z h; exact absurd (h 0 (Nat.le_refl _)) (by omega)
  | succ G ih =>
    intro z h
    by_cases c : ∃ i, i ≤ G ∧ z i = z (G + 1)
    · obtain ⟨i, h1, h2⟩ := c; exact ⟨i, G + 1, by omega, Nat.le_refl _, h2⟩
    · have hn : ∀ i, i ≤ G → z i ≠ z (G + 1) := fun i h1 h2 => c ⟨i, h1, h2⟩
      have hl := h (G + 1) (Nat.le_refl _)
      obtain ⟨i, j, h1, h2, h3⟩ := ih (z := fun i => if z i = G then z (G + 1) else z i) (fun i hi => by
        have a := h i (by omega)
        have c := hn i hi
        show (if z i = G then z (G + 1) else z i) < G
        by_cases e : z i = G
        · rw [if_pos e]; omega
        · rw [if_neg e]; omega)
      refine ⟨i, j, h1, by omega, ?_⟩
      have ni := hn i (by omega)
      have nj := hn j h2
      have h3 : (if z i = G then z (G + 1) else z i) = (if z j = G then z (G + 1) else z j) := h3
      by_cases e1 : z i = G
      · by_cases e2 : z j = G
        · omega
        · rw [if_pos e1, if_neg e2] at h3; omega
      · by_cases e2 : z j = G
        · rw [if_neg e1, if_pos e2] at h3; omega
        · rw [if_neg e1, if_neg e2] at h3; exact h3
theorem rgC_spec {f : Nat → Nat} : ∀ {k p a c : Nat}, p < k → itf f p a = g → rgC f g k a c ≤ c + p ∧ c ≤ rgC f g k a c := by
  intro k
  induction k with
  | zero => intro p a c h; omega
  | succ k ih =>
    intro p a c hp h
    rw [rgC]
    by_cases e : a = g
    · rw [if_pos e]; omega
    · rw [if_neg e]
      cases p with
      | zero => exact absurd h e
      | succ p =>
        have := @ih p (f a) (c + 1) (by omega) h
        omega
theorem nrL_ne {b : BB} {g : Nat} : ∀ {k i c : Nat}, (c ≠ g ∨ ∃ t, i ≤ t ∧ t < i + k ∧ t ≠ g) → nrL b g i k c ≠ g := by
  intro k
  induction k with
  | zero => rintro i c (h | ⟨t, h1, h2, _⟩); exact h; omega
  | succ k ih =>
    intro i c h
    rw [nrL]
    refine ih ?_
    by_cases q : i ≠ g ∧ (c = g ∨ farB (b 0 g) (b 0 i) < farB (b 0 g) (b 0 c))
    · rw [if_pos q]; exact Or.inl q.1
    · rw [if_neg q]
      by_cases e : c = g
      · rcases h with h | ⟨t, h1, h2, h3⟩
        · exact absurd e h
        · right
          refine ⟨t, ?_, by omega, h3⟩
          rcases Nat.lt_or_ge i t with h4 | h4
          · exact h4
          · have : i = t := by omega
            subst this
            exact absurd ⟨h3, Or.inl e⟩ q
      · exact Or.inl e
theorem cyc_ex {f : Nat → Nat} (hf : ∀ x, x < G → f x < G) (hg : g < G) : ∃ p, p < G ∧ itf f (p + 1) (itf f G g) = itf f G g := by
  obtain ⟨i, j, h1, h2, h3⟩ := pigeon (z := fun i => itf f i g) (G := G) (fun i _ => itf_lt hf i g hg)
  have h3 : itf f i g = itf f j g := h3
  refine ⟨j - i - 1, by omega, ?_⟩
  rw [← itf_add, show G + (j - i - 1 + 1) = j + (G - i) by omega, itf_add, ← h3, ← itf_add, show i + (G - i) = G by omega]
theorem rg_cyc {f : Nat → Nat} {y : Nat} (ne : f y ≠ y) (hG : 1 ≤ G) : (∃ p, p < G ∧ itf f (p + 1) y = y) → 2 ≤ rgC f y G (f y) 1 ∧ rgC f y G (f y) 1 ≤ G := by
  rintro ⟨p, hp, cyc⟩
  have cyc : itf f p (f y) = y := cyc
  obtain ⟨K, rfl⟩ : ∃ K, G = K + 1 := ⟨G - 1, by omega⟩
  rw [rgC, if_neg ne]
  cases p with
  | zero => exact absurd cyc ne
  | succ p =>
    have cyc : itf f p (f (f y)) = y := cyc
    have := rgC_spec (f := f) (g := y) (k := K) (p := p) (a := f (f y)) (c := 1 + 1) (by omega) cyc
    omega
theorem ring_spec (G2 : 2 ≤ G) (hg : g < G) : ∃ z, 2 ≤ z ∧ z ≤ G ∧ rgC (nrB G b) (itf (nrB G b) G g) G (nrB G b (itf (nrB G b) G g)) 1 = z := by
  have cy := cyc_ex (G := G) (g := g) (f := nrB G b) (nrB_lt (b := b)) hg
  obtain ⟨y, ey⟩ : ∃ y, itf (nrB G b) G g = y := ⟨_, rfl⟩
  rw [ey] at cy ⊢
  have ne : nrB G b y ≠ y := by
    refine nrL_ne (Or.inr ?_)
    by_cases q : y = 0
    · exact ⟨1, by omega, by omega, by omega⟩
    · exact ⟨0, by omega, by omega, by omega⟩
  have := rg_cyc ne (by omega) cy
  exact ⟨_, this.1, this.2, rfl⟩
theorem prM_le {p : Nat → Nat → Bool} : ∀ {F : Nat}, 2 * prM p 0 F + F ≤ F * F := by
  intro F
  induction F with
  | zero => show 2 * 0 + 0 ≤ _; omega
  | succ F ih =>
    rw [prM_add (a := F) (c := 1), Nat.zero_add, show prM p F 1 = row1 (p F) 0 F + 0 from rfl]
    have r := @row1_le (p F) F 0
    have e : (F + 1) * (F + 1) = F * F + 2 * F + 1 := by rw [Nat.add_mul, Nat.mul_add]; omega
    omega
theorem tri_all : ∀ m : Fin 9, nI m.1 * (nI m.1 - 1) / 2 = nI (m.1 * (m.1 - 1) / 2) := by decide +kernel
theorem al_spec (F8 : F ≤ 8) : ∃ z, alikeA F W b = nI z ∧ z ≤ F * (F - 1) / 2 := by
  refine ⟨_, rfl, ?_⟩
  have := @prM_le (fun f g => same W F f g b) F
  have c : F = 0 ∨ F = 1 ∨ F = 2 ∨ F = 3 ∨ F = 4 ∨ F = 5 ∨ F = 6 ∨ F = 7 ∨ F = 8 := by omega
  rcases c with c | c | c | c | c | c | c | c | c <;> subst c <;> omega
end X1
