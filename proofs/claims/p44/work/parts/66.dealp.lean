/-! ===== loans dealt: the most that comes back ===== -/
def vlB (wg : Nat → Int32) (t f : Nat) : Bool := !(bit (nI t) f) && decide (0 < wg f)
def dV (wg : Nat → Int32) (nx : Nat → Int32) (t f : Nat) : Int32 := if vlB wg t f = true then wg f + nx (t ||| 2 ^ f) else 0
def dpL (wg : Nat → Int32) (nx : Nat → Int32) (t : Nat) : Nat → Nat → Int32 → Int32
  | _, 0, m => m
  | f, k + 1, m => dpL wg nx t (f + 1) k (imax m (dV wg nx t f))
def bD (w : Nat → Nat → Int32) (F : Nat) : Nat → Nat → Nat → Int32
  | 0, _, _ => 0
  | k + 1, g, t => dpL (w g) (bD w F k (g + 1)) t 0 F (bD w F k (g + 1) t)
def fbN (wg : Nat → Int32) (nx : Nat → Int32) (V : Int32) (t : Nat) : Nat → Nat → Nat
  | _, 0 => 9
  | f, k + 1 => if vlB wg t f = true ∧ dV wg nx t f = V then f else fbN wg nx V t (f + 1) k
def nxT (t f : Nat) : Nat := if f = 9 then t else t ||| 2 ^ f
def grF (w : Nat → Nat → Int32) (F : Nat) : Nat → Nat → Nat → Nat → Nat
  | 0, _, _, _ => 9
  | k + 1, g, t, 0 => fbN (w g) (bD w F k (g + 1)) (bD w F (k + 1) g t) t 0 F
  | k + 1, g, t, i + 1 => grF w F k (g + 1) (nxT t (fbN (w g) (bD w F k (g + 1)) (bD w F (k + 1) g t) t 0 F)) i
theorem vl_iff {wg : Nat → Int32} {t f : Nat} : vlB wg t f = true ↔ (bit (nI t) f = false ∧ 0 < (wg f).toInt) := by
  unfold vlB
  rw [Bool.and_eq_true, decide_eq_true_iff, iLt, i0, Bool.not_eq_true']
theorem or_all : ∀ t : Fin 256, ∀ f : Fin 8, nI t.1 ||| ((1 : Int32) <<< (nI f.1 &&& 31)) = nI (t.1 ||| 2 ^ f.1) := by decide +kernel
theorem or_n {t f : Nat} (ht : t < 256) (hf : f < 8) : nI t ||| ((1 : Int32) <<< (nI f &&& 31)) = nI (t ||| 2 ^ f) := or_all ⟨t, ht⟩ ⟨f, hf⟩
theorem or_lt {t f F : Nat} (ht : t < 2 ^ F) (hf : f < F) : t ||| 2 ^ f < 2 ^ F := Nat.or_lt_two_pow ht (Nat.pow_lt_pow_right (by decide) hf)
theorem dpL_i {wg : Nat → Int32} {nx : Nat → Int32} {t : Nat} : ∀ {k f : Nat} {m : Int32}, m.toInt ≤ (dpL wg nx t f k m).toInt ∧ (∀ x, f ≤ x → x < f + k → (dV wg nx t x).toInt ≤ (dpL wg nx t f k m).toInt) ∧ (dpL wg nx t f k m = m ∨ ∃ x, f ≤ x ∧ x < f + k ∧ dpL wg nx t f k m = dV wg nx t x) := by
  intro k
  induction k with
  | zero => intro f m; exact ⟨Int.le_refl _, fun x h1 h2 => by omega, Or.inl rfl⟩
  | succ k ih =>
    intro f m
    rw [dpL]
    obtain ⟨a, c, e⟩ := @ih (f + 1) (imax m (dV wg nx t f))
    rw [imax_i] at a
    refine ⟨by omega, ?_, ?_⟩
    · intro x h1 h2
      by_cases hx : x = f
      · subst hx; omega
      · exact c x (by omega) (by omega)
    · rcases e with e | ⟨x, h1, h2, h3⟩
      · rw [e]
        unfold imax
        split
        · exact Or.inr ⟨f, by omega, by omega, rfl⟩
        · exact Or.inl rfl
      · exact Or.inr ⟨x, by omega, by omega, h3⟩
section DP
variable {w : Nat → Nat → Int32} {F G : Nat}
theorem dV_i {wg : Nat → Int32} {nx : Nat → Int32} {t f k : Nat} (hk : k ≤ 8) (hw : ∀ f, (wg f).toInt ≤ 99) (hn : ∀ t, 0 ≤ (nx t).toInt ∧ (nx t).toInt ≤ 99 * k) : 0 ≤ (dV wg nx t f).toInt ∧ (dV wg nx t f).toInt ≤ 99 * (k + 1) ∧ (vlB wg t f = true → (dV wg nx t f).toInt = (wg f).toInt + (nx (t ||| 2 ^ f)).toInt ∧ 0 < (dV wg nx t f).toInt) := by
  have h1 := hw f
  have h2 := hn (t ||| 2 ^ f)
  unfold dV
  by_cases c : vlB wg t f = true
  · rw [if_pos c]
    have c2 := (vl_iff.1 c).2
    rw [addI (by omega) (by omega)]
    refine ⟨by omega, by omega, fun _ => ⟨rfl, by omega⟩⟩
  · rw [if_neg c, i0]
    exact ⟨by omega, by omega, fun h => absurd h c⟩
theorem bD_i (hw : ∀ g f, (w g f).toInt ≤ 99) : ∀ {k : Nat}, k ≤ 8 → ∀ {g t : Nat}, 0 ≤ (bD w F k g t).toInt ∧ (bD w F k g t).toInt ≤ 99 * k := by
  intro k
  induction k with
  | zero => intro _ g t; rw [bD, i0]; omega
  | succ k ih =>
    intro hk g t
    have i1 := fun t => @ih (by omega) (g + 1) t
    have d1 := fun f => dV_i (wg := w g) (t := t) (f := f) (show k ≤ 8 by omega) (hw g) i1
    rw [bD]
    obtain ⟨a, c, e⟩ := @dpL_i (w g) (bD w F k (g + 1)) t F 0 (bD w F k (g + 1) t)
    have := i1 t
    rcases e with e | ⟨x, _, _, e⟩
    · rw [e]; omega
    · rw [e]; have := d1 x; omega
theorem fbN_r {wg : Nat → Int32} {nx : Nat → Int32} {V : Int32} {t : Nat} : ∀ {k f : Nat}, fbN wg nx V t f k = 9 ∨ (f ≤ fbN wg nx V t f k ∧ fbN wg nx V t f k < f + k) := by
  intro k
  induction k with
  | zero => intro f; exact Or.inl rfl
  | succ k ih =>
    intro f
    rw [fbN]
    split
    · exact Or.inr ⟨by omega, by omega⟩
    · rcases @ih (f + 1) with h | h
      · exact Or.inl h
      · exact Or.inr ⟨by omega, by omega⟩
end DP
def dealW (G F : Nat) (W : LW) (b : BB) (x : Int32) (g f : Nat) : Int32 := if g < G ∧ f < F then gbA W f 24 (lendB b f (nI g) x) else 0
def dealtA (G F : Nat) (W : LW) (b : BB) (x girl : Int32) : Int32 :=
  if (1 ≤ x ∧ x ≤ 99) ∧ (girl = -1 ∨ inb girl G) then (if girl = -1 then bD (dealW G F W b x) F G 0 0 else nI (grF (dealW G F W b x) F G 0 0 (ix girl))) else -1
theorem gb_le {W : LW} {G F f : Nat} (hf : f < F) : ∀ {n : Nat} {b : BB}, WF G F b → (gbA W f n b).toInt ≤ 99 := by
  intro n
  induction n with
  | zero => intro b _; rw [gbA, im2]; decide
  | succ n ih =>
    intro b w
    rw [gbA]
    split
    · exact ih (w.one hf)
    · rename_i h
      have hr := inb_i (rest_i (W := W) (w.a5 hf))
      unfold gvB
      split
      · rw [im2]; decide
      · split
        · rw [im2]; decide
        · split
          · omega
          · rw [im2]; decide
theorem dealW_i {W : LW} {b : BB} {x : Int32} {G F : Nat} (w : WF G F b) (hx : inb x 100) (hG : G ≤ 8) : ∀ g f, (dealW G F W b x g f).toInt ≤ 99 := by
  intro g f
  unfold dealW
  split
  · rename_i h
    exact gb_le h.2 (WF.up (w.up (k := 4) (Or.inr (by rw [inb_n (by omega)]; exact h.1))) (k := 5) hx)
  · rw [i0]; decide
theorem dealW_p {W : LW} {b : BB} {x : Int32} {G F g f : Nat} (hg : g < G) (hf : f < F) : dealW G F W b x g f = gbA W f 24 (lendB b f (nI g) x) := by unfold dealW; rw [if_pos ⟨hg, hf⟩]
/-! frames of a dealing -/
def ScrD (h h' : Hp) : Prop := (∀ a, ¬ scrA a → ¬ (80 ≤ a ∧ a ≤ 97) → ¬ (2 ≤ a ∧ a ≤ 1) → h' a = h a) ∧ (∀ i, i ≠ 5 → h' 27 i = h 27 i ∧ h' 32 i = h 32 i) ∧ ∀ i, i ≠ 38 → i ≠ 39 → i ≠ 46 → h' 113 i = h 113 i
section SD
variable {h h1 h2 : Hp} {r : Rp} {E : EE} {l G F : Nat} {W : LW} {b : BB}
theorem ScrD.rf : ScrD h h := ⟨fun _ _ _ _ => rfl, fun _ _ => ⟨rfl, rfl⟩, fun _ _ _ _ => rfl⟩
theorem ScrD.tr (a : ScrD h h1) (c : ScrD h1 h2) : ScrD h h2 := ⟨fun x p q s => (c.1 x p q s).trans (a.1 x p q s), fun i hi => ⟨((c.2.1 i hi).1).trans (a.2.1 i hi).1, ((c.2.1 i hi).2).trans (a.2.1 i hi).2⟩, fun i p q s => (c.2.2 i p q s).trans (a.2.2 i p q s)⟩
theorem Scr.D (s : Scr h h1) : ScrD h h1 := ⟨fun a p _ _ => s.1 a p, s.2.1, s.2.2⟩
theorem ScrD.up {a i : Nat} {v : Int32} (s : ScrD h h1) (ha : (80 ≤ a ∧ a ≤ 97) ∨ (2 ≤ a ∧ a ≤ 1)) : ScrD h (up2 h1 a i v) :=
  ⟨fun x p q t => by rw [up2_a (show x ≠ a by omega)]; exact s.1 x p q t, fun k hk => by rw [up2_a (show 27 ≠ a by omega), up2_a (show 32 ≠ a by omega)]; exact s.2.1 k hk, fun k p q t => by rw [up2_a (show 113 ≠ a by omega)]; exact s.2.2 k p q t⟩
theorem CC.frD (C : CC G F l W b h r E) (s : ScrD h h1) : CC G F l W b h1 r E := by
  have s3 : ∀ a, 3 ≤ a → a ≤ 10 → h1 a = h a := fun a p q => s.1 a (by unfold scrA; omega) (by omega) (by omega)
  refine ⟨C.1, C.2.1, C.2.2.1, ?_, ?_, C.G8, C.F8, ?_, ?_, C.w⟩
  · rw [s3 3 (by omega) (by omega)]; exact C.eG
  · rw [s3 3 (by omega) (by omega)]; exact C.eF
  · refine C.L.fix ⟨?_, ?_, ?_⟩
    · exact s.1 _ (by unfold scrA; rcases C.il with h | h <;> omega) (by rcases C.il with h | h <;> omega) (by rcases C.il with h | h <;> omega)
    · exact s.1 _ (by unfold scrA; rcases C.il with h | h <;> omega) (by rcases C.il with h | h <;> omega) (by rcases C.il with h | h <;> omega)
    · rcases C.il with rfl | rfl
      · exact (s.2.1 4 (by decide)).1
      · exact (s.2.1 4 (by decide)).2
  · rw [← C.eb]
    exact bC_eq (fun k hk i _ => by rw [s3 _ (by omega) (by omega)]) (by rw [s3 3 (by omega) (by omega)]) (by rw [s3 3 (by omega) (by omega)])
end SD
