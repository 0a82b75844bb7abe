/-! ===== a marsh in thought: rows 0 girls' places, 1 breath, 2 frogs' places, 3 keeps, 4 owes, 5 held, 6 (two, hour) ===== -/
abbrev BB : Type := Nat → Nat → Int32
abbrev LW : Type := Int32 → Int32 → Int32 → Int32 → Int32 → Int32 → Int32
/-- as many girls, frogs are there -/
def cut (G F k : Nat) : Nat := if k < 2 then G else F
def bC (h : Hp) (m G F : Nat) : BB := fun k i => if k < 6 then (if i < cut G F k then h (m + 1 + k) i else 0) else if k = 6 then (if i = 0 then h m 9 else if i = 1 then h m 10 else 0) else 0
def bM (h : Hp) (G F : Nat) : BB := fun k i => if k < 6 then (if i < cut G F k then h 114 (8 * k + i) else 0) else if k = 6 then (if i = 0 then h 115 0 else if i = 1 then h 115 1 else 0) else 0
section BV
variable {h : Hp} {m i G F : Nat} {v : Int32}
theorem cut0 : cut G F 0 = G := rfl
theorem cut1 : cut G F 1 = G := rfl
theorem cut2 : cut G F 2 = F := rfl
theorem cut3 : cut G F 3 = F := rfl
theorem cut4 : cut G F 4 = F := rfl
theorem cut5 : cut G F 5 = F := rfl
theorem cut8 {k : Nat} (hG : G ≤ 8) (hF : F ≤ 8) : cut G F k ≤ 8 := by unfold cut; split <;> omega
theorem bC0 (hi : i < G) : bC h m G F 0 i = h (m + 1) i := by show (if i < G then h (m + 1) i else 0) = _; rw [if_pos hi]
theorem bC1 (hi : i < G) : bC h m G F 1 i = h (m + 2) i := by show (if i < G then h (m + 2) i else 0) = _; rw [if_pos hi]
theorem bC2 (hi : i < F) : bC h m G F 2 i = h (m + 3) i := by show (if i < F then h (m + 3) i else 0) = _; rw [if_pos hi]
theorem bC3 (hi : i < F) : bC h m G F 3 i = h (m + 4) i := by show (if i < F then h (m + 4) i else 0) = _; rw [if_pos hi]
theorem bC4 (hi : i < F) : bC h m G F 4 i = h (m + 5) i := by show (if i < F then h (m + 5) i else 0) = _; rw [if_pos hi]
theorem bC5 (hi : i < F) : bC h m G F 5 i = h (m + 6) i := by show (if i < F then h (m + 6) i else 0) = _; rw [if_pos hi]
theorem bCt : bC h m G F 6 0 = h m 9 := by simp [bC]
theorem bCh : bC h m G F 6 1 = h m 10 := by simp [bC]
theorem bCw {k : Nat} (hk : k < 6) (hi : i < cut G F k) : bC (up2 h (m + 1 + k) i v) m G F = up2 (bC h m G F) k i v := by
  funext a b
  by_cases ha : a < 6
  · simp only [bC, up2, ha, if_true]
    by_cases h1 : a = k
    · subst h1
      by_cases h2 : b = i
      · subst h2; simp [hi]
      · simp [h2]
    · simp only [if_neg h1, if_neg (show ¬ m + 1 + a = m + 1 + k by omega)]
  · simp only [bC, up2, ha, if_false, if_neg (show ¬ a = k by omega), if_neg (show ¬ m = m + 1 + k by omega)]
theorem bCw0 (hi : i < G) : bC (up2 h (m + 1) i v) m G F = up2 (bC h m G F) 0 i v := bCw (k := 0) (by decide) hi
theorem bCw1 (hi : i < G) : bC (up2 h (m + 2) i v) m G F = up2 (bC h m G F) 1 i v := bCw (k := 1) (by decide) hi
theorem bCw2 (hi : i < F) : bC (up2 h (m + 3) i v) m G F = up2 (bC h m G F) 2 i v := bCw (k := 2) (by decide) hi
theorem bCw3 (hi : i < F) : bC (up2 h (m + 4) i v) m G F = up2 (bC h m G F) 3 i v := bCw (k := 3) (by decide) hi
theorem bCw4 (hi : i < F) : bC (up2 h (m + 5) i v) m G F = up2 (bC h m G F) 4 i v := bCw (k := 4) (by decide) hi
theorem bCw5 (hi : i < F) : bC (up2 h (m + 6) i v) m G F = up2 (bC h m G F) 5 i v := bCw (k := 5) (by decide) hi
theorem bCwt : bC (up2 h m 9 v) m G F = up2 (bC h m G F) 6 0 v := by
  funext a b
  by_cases ha : a < 6
  · simp only [bC, up2, ha, if_true, if_neg (show ¬ a = 6 by omega), if_neg (show ¬ m + 1 + a = m by omega)]
  · by_cases h1 : a = 6
    · subst h1; by_cases hb : b = 0
      · subst hb; simp [bC, up2]
      · by_cases hb1 : b = 1
        · subst hb1; simp [bC, up2]
        · simp [bC, up2, hb, hb1]
    · simp [bC, up2, ha, h1]
theorem bCwh : bC (up2 h m 10 v) m G F = up2 (bC h m G F) 6 1 v := by
  funext a b
  by_cases ha : a < 6
  · simp only [bC, up2, ha, if_true, if_neg (show ¬ a = 6 by omega), if_neg (show ¬ m + 1 + a = m by omega)]
  · by_cases h1 : a = 6
    · subst h1; by_cases hb : b = 0
      · subst hb; simp [bC, up2]
      · by_cases hb1 : b = 1
        · subst hb1; simp [bC, up2]
        · simp [bC, up2, hb, hb1]
    · simp [bC, up2, ha, h1]
theorem bCw7 : bC (up2 h (m + 7) i v) m G F = bC h m G F := by
  funext a b
  by_cases ha : a < 6
  · simp only [bC, up2, ha, if_true, if_neg (show ¬ m + 1 + a = m + 7 by omega)]
  · simp only [bC, up2, ha, if_false, if_neg (show ¬ m = m + 7 by omega)]
theorem bCwx {a : Nat} (ha : ¬ (m ≤ a ∧ a ≤ m + 6)) : bC (up2 h a i v) m G F = bC h m G F := by
  funext c b
  by_cases hc : c < 6
  · simp only [bC, up2, hc, if_true, if_neg (show ¬ m + 1 + c = a by omega)]
  · simp only [bC, up2, hc, if_false, if_neg (show ¬ m = a by omega)]
/-- a marsh is its cells -/
theorem bC_eq {h' : Hp} {m' : Nat} (h0 : ∀ k, k < 6 → ∀ i, i < cut G F k → h' (m' + 1 + k) i = h (m + 1 + k) i) (h9 : h' m' 9 = h m 9) (h10 : h' m' 10 = h m 10) : bC h' m' G F = bC h m G F := by
  funext a b
  by_cases ha : a < 6
  · by_cases hb : b < cut G F a
    · simp only [bC, ha, hb, if_true]; exact h0 a ha b hb
    · simp only [bC, ha, hb, if_true, if_false]
  · simp only [bC, ha, if_false, h9, h10]
theorem bM0 (hi : i < G) : bM h G F 0 i = h 114 i := by show (if i < G then h 114 (8 * 0 + i) else 0) = _; rw [if_pos hi, Nat.mul_zero, Nat.zero_add]
theorem bM1 (hi : i < G) : bM h G F 1 i = h 114 (8 + i) := by show (if i < G then h 114 (8 + i) else 0) = _; rw [if_pos hi]
theorem bM2 (hi : i < F) : bM h G F 2 i = h 114 (16 + i) := by show (if i < F then h 114 (16 + i) else 0) = _; rw [if_pos hi]
theorem bM3 (hi : i < F) : bM h G F 3 i = h 114 (24 + i) := by show (if i < F then h 114 (24 + i) else 0) = _; rw [if_pos hi]
theorem bM4 (hi : i < F) : bM h G F 4 i = h 114 (32 + i) := by show (if i < F then h 114 (32 + i) else 0) = _; rw [if_pos hi]
theorem bM5 (hi : i < F) : bM h G F 5 i = h 114 (40 + i) := by show (if i < F then h 114 (40 + i) else 0) = _; rw [if_pos hi]
theorem bMt : bM h G F 6 0 = h 115 0 := by simp [bM]
theorem bMh : bM h G F 6 1 = h 115 1 := by simp [bM]
theorem bMw {k : Nat} (hG : G ≤ 8) (hF : F ≤ 8) (hk : k < 6) (hi : i < cut G F k) : bM (up2 h 114 (8 * k + i) v) G F = up2 (bM h G F) k i v := by
  funext a b
  have c1 := cut8 (k := k) hG hF
  have c2 := cut8 (k := a) hG hF
  by_cases ha : a < 6
  · by_cases hb : b < cut G F a
    · simp only [bM, up2, ha, hb, if_true]
      by_cases h1 : a = k
      · subst h1
        by_cases h2 : b = i
        · subst h2; simp
        · rw [if_pos rfl, if_neg h2, if_neg (by omega)]
      · rw [if_neg h1, if_neg (by omega)]
    · simp only [bM, up2, ha, hb, if_true, if_false]
      by_cases h1 : a = k
      · subst h1; rw [if_pos rfl, if_neg (by omega)]
      · rw [if_neg h1]
  · simp only [bM, up2, ha, if_false]
    rw [if_neg (show ¬ a = k by omega)]
    simp
theorem bMw0 (hG : G ≤ 8) (hF : F ≤ 8) (hi : i < G) : bM (up2 h 114 i v) G F = up2 (bM h G F) 0 i v := by have := bMw (h := h) (v := v) (k := 0) hG hF (by decide) hi; simpa using this
theorem bMw1 (hG : G ≤ 8) (hF : F ≤ 8) (hi : i < G) : bM (up2 h 114 (8 + i) v) G F = up2 (bM h G F) 1 i v := bMw (k := 1) hG hF (by decide) hi
theorem bMw2 (hG : G ≤ 8) (hF : F ≤ 8) (hi : i < F) : bM (up2 h 114 (16 + i) v) G F = up2 (bM h G F) 2 i v := bMw (k := 2) hG hF (by decide) hi
theorem bMw3 (hG : G ≤ 8) (hF : F ≤ 8) (hi : i < F) : bM (up2 h 114 (24 + i) v) G F = up2 (bM h G F) 3 i v := bMw (k := 3) hG hF (by decide) hi
theorem bMw4 (hG : G ≤ 8) (hF : F ≤ 8) (hi : i < F) : bM (up2 h 114 (32 + i) v) G F = up2 (bM h G F) 4 i v := bMw (k := 4) hG hF (by decide) hi
theorem bMw5 (hG : G ≤ 8) (hF : F ≤ 8) (hi : i < F) : bM (up2 h 114 (40 + i) v) G F = up2 (bM h G F) 5 i v := bMw (k := 5) hG hF (by decide) hi
theorem bMwt : bM (up2 h 115 0 v) G F = up2 (bM h G F) 6 0 v := by
  funext a b
  by_cases ha : a < 6
  · simp [bM, up2, ha, show ¬ a = 6 by omega]
  · by_cases h1 : a = 6
    · subst h1; by_cases hb : b = 0
      · subst hb; simp [bM, up2]
      · simp [bM, up2, hb]
    · simp [bM, up2, ha, h1]
theorem bMwh : bM (up2 h 115 1 v) G F = up2 (bM h G F) 6 1 v := by
  funext a b
  by_cases ha : a < 6
  · simp [bM, up2, ha, show ¬ a = 6 by omega]
  · by_cases h1 : a = 6
    · subst h1; by_cases hb : b = 1
      · subst hb; simp [bM, up2]
      · by_cases hb0 : b = 0
        · subst hb0; simp [bM, up2]
        · simp [bM, up2, hb, hb0]
    · simp [bM, up2, ha, h1]
theorem bMwx {a : Nat} (h4 : a ≠ 114) (h5 : a ≠ 115) : bM (up2 h a i v) G F = bM h G F := by
  funext c b
  simp only [bM, up2, if_neg (Ne.symm h4), if_neg (Ne.symm h5)]
theorem bM_eq {h' : Hp} (hG : G ≤ 8) (hF : F ≤ 8) (h0 : ∀ i, i < 48 → h' 114 i = h 114 i) (h1 : ∀ i, i < 2 → h' 115 i = h 115 i) : bM h' G F = bM h G F := by
  funext a b
  have c2 := cut8 (k := a) hG hF
  by_cases ha : a < 6
  · by_cases hb : b < cut G F a
    · simp only [bM, ha, hb, if_true]; exact h0 _ (by omega)
    · simp only [bM, ha, hb, if_true, if_false]
  · simp only [bM, ha, if_false, h1 0 (by decide), h1 1 (by decide)]
end BV
/-! what an hour does -/
def iabs (x : Int32) : Int32 := if 0 ≤ x then x else 0 - x
def imin (x y : Int32) : Int32 := if y < x then y else x
def imax (x y : Int32) : Int32 := if x < y then y else x
def farB (p q : Int32) : Int32 := iabs (p / 6 - q / 6) + iabs (p % 6 - q % 6)
def icmp (x y : Int32) : Int32 := if x < y then -1 else if x = y then 0 else 1
def nearB (p q : Int32) : Int32 := if icmp (q % 6) (p % 6) = 0 then p + 6 * icmp (q / 6) (p / 6) else p + icmp (q % 6) (p % 6)
def clampB (held told : Int32) : Int32 := imin held (imax 0 (imin 20 told))
def lossB (W : LW) (b : BB) (f : Nat) : Int32 := if b 4 f = -1 then 0 else clampB (b 5 f) (W (b 5 f) (b 3 f) (farB (b 2 f) (b 0 (ix (b 4 f)))) (b 6 1) (b 4 f) (nI f))
/-- he is back by this hour -/
abbrev bkB (b : BB) (f : Nat) : Prop := b 4 f ≠ -1 ∧ ¬ b 6 1 < b 6 0 ∧ nearB (b 2 f) (b 0 (ix (b 4 f))) = b 0 (ix (b 4 f))
def goB (W : LW) (f : Nat) (b : BB) : BB := if b 4 f = -1 then b else if b 6 1 < b 6 0 then up2 b 5 f (b 5 f - lossB W b f)
  else if nearB (b 2 f) (b 0 (ix (b 4 f))) = b 0 (ix (b 4 f)) then
    up2 (up2 (up2 (up2 (up2 b 5 f (b 5 f - lossB W b f)) 2 f (nearB (b 2 f) (b 0 (ix (b 4 f))))) 1 (ix (b 4 f)) (imin 99 (b 1 (ix (b 4 f)) + (b 5 f - lossB W b f)))) 4 f (-1)) 5 f 0
  else up2 (up2 b 5 f (b 5 f - lossB W b f)) 2 f (nearB (b 2 f) (b 0 (ix (b 4 f))))
def gvB (W : LW) (f : Nat) (b : BB) : Int32 := if b 4 f = -1 then -2 else if b 6 1 < b 6 0 then -2 else if nearB (b 2 f) (b 0 (ix (b 4 f))) = b 0 (ix (b 4 f)) then b 5 f - lossB W b f else -2
def nxt (x : Int32) : Int32 := if x < 11 then x + 1 else 0
def endB (b : BB) : BB := up2 b 6 1 (nxt (b 6 1))
/-- frogs f, f+1 .. (k of them) -/
def fB (W : LW) : Nat → Nat → BB → BB
  | _, 0, b => b
  | f, k + 1, b => fB W (f + 1) k (goB W f b)
def fL (W : LW) : Nat → Nat → BB → Int32
  | _, 0, _ => 0
  | f, k + 1, b => lossB W b f + fL W (f + 1) k (goB W f b)
def b1B (W : LW) (f : Nat) (b : BB) : Int32 := if b 4 f = -1 then 0 else if b 6 1 < b 6 0 then 0 else if nearB (b 2 f) (b 0 (ix (b 4 f))) = b 0 (ix (b 4 f)) then 1 else 0
def fK (W : LW) : Nat → Nat → BB → Int32
  | _, 0, _ => 0
  | f, k + 1, b => b1B W f b + fK W (f + 1) k (goB W f b)
def hrB (W : LW) (F : Nat) (b : BB) : BB := endB (fB W 0 F b)
def itB (W : LW) (F : Nat) : Nat → BB → BB
  | 0, b => b
  | n + 1, b => itB W F n (hrB W F b)
def oneB (W : LW) (f : Nat) (b : BB) : BB := endB (goB W f b)
