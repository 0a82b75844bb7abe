/-! ===== the rest of the law: books, by turns; pure ===== -/
section X4
variable {d : Nat} {M : Mem} {φ : Int32} {h h0 h1 h2 : Hp} {j j1 j2 : Jp} {r r1 r2 : Rp} {E : EE} {n m k s L t G F f g q : Nat} {Q : Option PV → Mem → Prop} {x v : Int32} {xs : Nat → Int32} {S S' : OS} {a : Int64} {W : LW} {b : BB} {l6 l7 l8 l9 l10 l11 l12 l13 l14 : Option PV}
theorem or_all2 : ∀ t : Fin 1024, ∀ f : Fin 10, nI t.1 ||| ((1 : Int32) <<< (nI f.1 &&& 31)) = nI (t.1 ||| 2 ^ f.1) := by decide +kernel
theorem tb_all : ∀ t : Fin 1024, ∀ f : Fin 10, t.1.testBit f.1 = true → ¬ nI t.1 >>> (nI f.1 &&& 31) &&& 1 = 0 := by decide +kernel
theorem KV_all : ∀ q : Fin 101, KV 0 (nI q.1).toInt64 = (nI q.1).toInt64 := by decide +kernel
theorem bk_ok {V : Nat → Int64} : ∀ {k i : Nat} {b : BB}, (∀ q, q < k → V (i + q) = 100 ∨ V (i + q) = (itOne W f q b 5 f).toInt64) → bkL W V f i k b = -2 := by
  intro k
  induction k with
  | zero => intro i b _; rfl
  | succ k ih =>
    intro i b h
    have h0 := h 0 (by omega)
    rw [bkL_s, if_neg (fun c => by rcases h0 with h0 | h0; exact c.1 h0; exact c.2 h0)]
    refine ih (fun q hq => ?_)
    have := h (q + 1) (by omega)
    rw [show i + (q + 1) = i + 1 + q by omega] at this
    exact this
/-- what fits stands in the answer's bits -/
theorem ft_go {V : Nat → Int64} {N row : Nat} : ∀ {k p t : Nat}, p + k ≤ 10 → t < 1024 → ∃ t', ftL W V f N b row (nI p) k (nI t) = nI t' ∧ t' < 1024 ∧ (∀ u, t.testBit u = true → t'.testBit u = true) ∧ ∀ u, p ≤ u → u < p + k → bkL W V f 0 N (up2 b row f (nI u)) = -2 → t'.testBit u = true := by
  intro k
  induction k with
  | zero => intro p t _ ht; exact ⟨t, rfl, ht, fun u h => h, fun u h1 h2 => by omega⟩
  | succ k ih =>
    intro p t hk ht
    rw [ftL_s, nS1]
    have n1 : ¬ nI p = -1 := by rw [iEq, nI_toInt (by omega), im1]; omega
    rw [if_neg n1, or_all2 ⟨t, ht⟩ ⟨p, by omega⟩]
    by_cases c : bkL W V f 0 N (up2 b row f (nI p)) = -2
    · rw [if_pos c]
      obtain ⟨t', e1, e2, e3, e4⟩ := @ih (p + 1) (t ||| 2 ^ p) (by omega) (Nat.or_lt_two_pow (n := 10) ht (Nat.pow_lt_pow_right (by decide) (by omega)))
      refine ⟨t', e1, e2, fun u hu => e3 u (by rw [Nat.testBit_or, hu]; rfl), fun u h1 h2 h3 => ?_⟩
      by_cases q : u = p
      · subst q; exact e3 u (by rw [Nat.testBit_or, Nat.testBit_two_pow_self]; exact Bool.or_true _)
      · exact e4 u (by omega) (by omega) h3
    · rw [if_neg c]
      obtain ⟨t', e1, e2, e3, e4⟩ := @ih (p + 1) t (by omega) ht
      refine ⟨t', e1, e2, e3, fun u h1 h2 h3 => ?_⟩
      by_cases q : u = p
      · subst q; exact absurd h3 c
      · exact e4 u (by omega) (by omega) h3
/-- what he keeps fits -/
theorem ft_0 {V : Nat → Int64} {N : Nat} (w : WF G F b) (hf : f < F) (h : bkL W V f 0 N b = -2) : ¬ ftL W V f N b 3 0 10 0 >>> (b 3 f &&& 31) &&& 1 = 0 := by
  obtain ⟨t, e1, e2, _, e4⟩ := ft_go (W := W) (b := b) (f := f) (V := V) (N := N) (row := 3) (k := 10) (p := 0) (t := 0) (by omega) (by decide)
  have e1 : ftL W V f N b 3 0 10 0 = nI t := e1
  obtain ⟨u, hu, eu, _⟩ := inb_of (w.a3 hf)
  rw [e1, eu]
  exact tb_all ⟨t, e2⟩ ⟨u, hu⟩ (e4 u (by omega) (by omega) (by rw [← eu, up2_id]; exact h))
/-- whom he owes fits -/
theorem ft_1 {V : Nat → Int64} {N : Nat} (w : WF G F b) (G8 : G ≤ 8) (hf : f < F) (h : bkL W V f 0 N b = -2) : ¬ ftL W V f N b 4 (-1) (G + 1) 0 >>> ((if b 4 f = -1 then (8 : Int32) else b 4 f) &&& 31) &&& 1 = 0 := by
  rw [ftL_s, if_pos rfl, show (-1 : Int32) + 1 = nI 0 from by decide]
  by_cases c : b 4 f = -1
  · have e : up2 b 4 f (-1) = b := by rw [← c]; exact up2_id
    rw [e, if_pos h, if_pos c]
    obtain ⟨t, e1, e2, e3, _⟩ := ft_go (W := W) (b := b) (f := f) (V := V) (N := N) (row := 4) (k := G) (p := 0) (t := 256) (by omega) (by decide)
    rw [show (0 : Int32) ||| (1 : Int32) <<< ((8 : Int32) &&& 31) = nI 256 from by decide, e1]
    exact tb_all ⟨t, e2⟩ ⟨8, by decide⟩ (e3 8 (by decide))
  · rw [if_neg c]
    obtain ⟨u, hu, eu, _⟩ := inb_of ((w.a4 hf).resolve_left c)
    have go : ∀ t0, t0 < 1024 → ¬ ftL W V f N b 4 (nI 0) G (nI t0) >>> (b 4 f &&& 31) &&& 1 = 0 := by
      intro t0 h0
      obtain ⟨t, e1, e2, _, e4⟩ := ft_go (W := W) (b := b) (f := f) (V := V) (N := N) (row := 4) (k := G) (p := 0) (t := t0) (by omega) h0
      rw [e1, eu]
      exact tb_all ⟨t, e2⟩ ⟨u, by omega⟩ (e4 u (by omega) (by omega) (by rw [← eu, up2_id]; exact h))
    by_cases c2 : bkL W V f 0 N (up2 b 4 f (-1)) = -2
    · rw [if_pos c2, show (0 : Int32) ||| (1 : Int32) <<< ((8 : Int32) &&& 31) = nI 256 from by decide]; exact go 256 (by decide)
    · rw [if_neg c2]; exact go 0 (by decide)
/-! by turns -/
theorem tn_0 {bo : Bool} {t k : Int32} : tnA W b f 0 bo t k = imax 0 (gbA W f 24 (setTK b f t k)) := rfl
theorem tn_t {n : Nat} {t k : Int32} : tnA W b f (n + 1) true t k = imax (tnA W b f n false t k) (tnA W b f n false (lessT t) k) := rfl
theorem tn_f {n : Nat} {t k : Int32} : tnA W b f (n + 1) false t k = imin (tnA W b f n true t k) (tnA W b f n true t (moreK k)) := rfl
theorem tn_21 {t k : Int32} : (tnA W b f 1 false t k).toInt ≤ (tnA W b f 0 false t k).toInt := by
  rw [tn_f, imin_i, show tnA W b f 0 true t k = tnA W b f 0 false t k from rfl]; omega
theorem tn_32 {t k : Int32} : (tnA W b f 1 false t k).toInt ≤ (tnA W b f 2 false t k).toInt := by
  rw [tn_f, tn_f, imin_i, imin_i, tn_t, tn_t, imax_i, imax_i, show tnA W b f 0 true t k = tnA W b f 0 false t k from rfl, show tnA W b f 0 true t (moreK k) = tnA W b f 0 false t (moreK k) from rfl]; omega
theorem by_v (hf : f < F) (hF : F ≤ 8) {n : Nat} (h1 : 1 ≤ n) (h5 : n ≤ 5) : byTurnsA F W b (nI f) (nI n) 0 = imax (tnA W b f (n - 1) false (b 6 0) (b 3 f)) (tnA W b f (n - 1) false (lessT (b 6 0)) (b 3 f)) := by
  unfold byTurnsA
  rw [if_pos ⟨by rw [inb_n (by omega)]; exact hf, by rw [show (1 : Int32) = nI 1 from rfl, show (5 : Int32) = nI 5 from rfl, nLe (by omega) (by omega), nLe (by omega) (by omega)]; exact ⟨h1, h5⟩, by decide⟩, if_pos rfl, ix_n (by omega), ix_n (by omega)]
theorem by_0 (hf : f < F) (hF : F ≤ 8) {n : Nat} (h1 : 1 ≤ n) (h5 : n ≤ 5) : 0 ≤ (tnA W b f 0 false (b 6 0) (b 3 f)).toInt := by
  rw [tn_0, imax_i, i0]; omega
theorem gb_n : ∀ {k : Nat} {b : BB}, b 4 f = -1 → gbA W f k b = -2 := by
  intro k
  induction k with
  | zero => intro b _; rfl
  | succ k ih =>
    intro b h
    have e : gvB W f b = -2 := by unfold gvB; rw [if_pos h]
    rw [gbA, e, if_pos (by decide)]
    refine ih ?_
    rw [one_4, if_neg (fun c => c.1 h)]; exact h
theorem tn_n (h : b 4 f = -1) : ∀ {n : Nat} {bo : Bool} {t k : Int32}, tnA W b f n bo t k = 0 := by
  intro n
  induction n with
  | zero =>
    intro bo t k
    rw [tn_0, gb_n (by unfold setTK; rw [up2_a (by decide), up2_a (by decide)]; exact h)]; decide
  | succ n ih =>
    intro bo t k
    cases bo with
    | true => rw [tn_t, ih, ih]; decide
    | false => rw [tn_f, ih, ih]; decide
theorem set_id : setTK b f (b 6 0) (b 3 f) = b := by
  unfold setTK
  rw [up2_id, up2_id]
theorem lend_id (h : b 4 f = x) : lendB b f x (b 5 f) = b := by
  unfold lendB
  rw [← h, up2_id, up2_id]
end X4
