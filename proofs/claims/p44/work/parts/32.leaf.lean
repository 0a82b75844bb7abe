/-! ===== marshes: their cells ===== -/
def Mar (r : Rp) (E : EE) (m : Nat) : Prop := 2 ≤ m ∧ E.1 m = 4 ∧ (∀ i, i < 7 → r m i = m + 1 + i ∧ E.1 (m + 1 + i) = 13) ∧ (∀ i, i < 6 → E.2.1 (m + 1 + i) = 8) ∧ E.2.1 (m + 7) = 5
section MA
variable {r : Rp} {E : EE} {m : Nat}
theorem mk0 (H : Mar r E m) : E.1 m = 4 := H.2.1
theorem mr0 (H : Mar r E m) : r m 0 = m + 1 := (H.2.2.1 0 (by decide)).1
theorem mr1 (H : Mar r E m) : r m 1 = m + 2 := (H.2.2.1 1 (by decide)).1
theorem mr2 (H : Mar r E m) : r m 2 = m + 3 := (H.2.2.1 2 (by decide)).1
theorem mr3 (H : Mar r E m) : r m 3 = m + 4 := (H.2.2.1 3 (by decide)).1
theorem mr4 (H : Mar r E m) : r m 4 = m + 5 := (H.2.2.1 4 (by decide)).1
theorem mr5 (H : Mar r E m) : r m 5 = m + 6 := (H.2.2.1 5 (by decide)).1
theorem mr6 (H : Mar r E m) : r m 6 = m + 7 := (H.2.2.1 6 (by decide)).1
theorem mk1 (H : Mar r E m) : E.1 (m + 1) = 13 := (H.2.2.1 0 (by decide)).2
theorem mk2 (H : Mar r E m) : E.1 (m + 2) = 13 := (H.2.2.1 1 (by decide)).2
theorem mk3 (H : Mar r E m) : E.1 (m + 3) = 13 := (H.2.2.1 2 (by decide)).2
theorem mk4 (H : Mar r E m) : E.1 (m + 4) = 13 := (H.2.2.1 3 (by decide)).2
theorem mk5 (H : Mar r E m) : E.1 (m + 5) = 13 := (H.2.2.1 4 (by decide)).2
theorem mk6 (H : Mar r E m) : E.1 (m + 6) = 13 := (H.2.2.1 5 (by decide)).2
theorem mk7 (H : Mar r E m) : E.1 (m + 7) = 13 := (H.2.2.1 6 (by decide)).2
theorem mn1 (H : Mar r E m) : E.2.1 (m + 1) = 8 := H.2.2.2.1 0 (by decide)
theorem mn2 (H : Mar r E m) : E.2.1 (m + 2) = 8 := H.2.2.2.1 1 (by decide)
theorem mn3 (H : Mar r E m) : E.2.1 (m + 3) = 8 := H.2.2.2.1 2 (by decide)
theorem mn4 (H : Mar r E m) : E.2.1 (m + 4) = 8 := H.2.2.2.1 3 (by decide)
theorem mn5 (H : Mar r E m) : E.2.1 (m + 5) = 8 := H.2.2.2.1 4 (by decide)
theorem mn6 (H : Mar r E m) : E.2.1 (m + 6) = 8 := H.2.2.2.1 5 (by decide)
theorem mn7 (H : Mar r E m) : E.2.1 (m + 7) = 5 := H.2.2.2.2
theorem mne {k : Nat} (H : Mar r E m) : (m + k = 1) = False := by have := H.1; simp; omega
theorem mne0 (H : Mar r E m) : (m = 1) = False := by have := H.1; simp; omega
end MA
theorem mar_of {r : Rp} {E : EE} (hS : Sh r E) {m : Nat} (hm : m = 3 ∨ m = 11 ∨ m = 19) : Mar r E m := by
  rcases hm with rfl | rfl | rfl <;> refine ⟨by decide, ?_, ?_, ?_, ?_⟩
  · exact K3 hS
  · intro i hi; match i, hi with
    | 0, _ => exact ⟨R3_0 hS, K4 hS⟩
    | 1, _ => exact ⟨R3_1 hS, K5 hS⟩
    | 2, _ => exact ⟨R3_2 hS, K6 hS⟩
    | 3, _ => exact ⟨R3_3 hS, K7 hS⟩
    | 4, _ => exact ⟨R3_4 hS, K8 hS⟩
    | 5, _ => exact ⟨R3_5 hS, K9 hS⟩
    | 6, _ => exact ⟨R3_6 hS, K10 hS⟩
    | k + 7, h => omega
  · intro i hi; match i, hi with
    | 0, _ => exact N4 hS
    | 1, _ => exact N5 hS
    | 2, _ => exact N6 hS
    | 3, _ => exact N7 hS
    | 4, _ => exact N8 hS
    | 5, _ => exact N9 hS
    | k + 6, h => omega
  · exact N10 hS
  · exact K11 hS
  · intro i hi; match i, hi with
    | 0, _ => exact ⟨R11_0 hS, K12 hS⟩
    | 1, _ => exact ⟨R11_1 hS, K13 hS⟩
    | 2, _ => exact ⟨R11_2 hS, K14 hS⟩
    | 3, _ => exact ⟨R11_3 hS, K15 hS⟩
    | 4, _ => exact ⟨R11_4 hS, K16 hS⟩
    | 5, _ => exact ⟨R11_5 hS, K17 hS⟩
    | 6, _ => exact ⟨R11_6 hS, K18 hS⟩
    | k + 7, h => omega
  · intro i hi; match i, hi with
    | 0, _ => exact N12 hS
    | 1, _ => exact N13 hS
    | 2, _ => exact N14 hS
    | 3, _ => exact N15 hS
    | 4, _ => exact N16 hS
    | 5, _ => exact N17 hS
    | k + 6, h => omega
  · exact N18 hS
  · exact K19 hS
  · intro i hi; match i, hi with
    | 0, _ => exact ⟨R19_0 hS, K20 hS⟩
    | 1, _ => exact ⟨R19_1 hS, K21 hS⟩
    | 2, _ => exact ⟨R19_2 hS, K22 hS⟩
    | 3, _ => exact ⟨R19_3 hS, K23 hS⟩
    | 4, _ => exact ⟨R19_4 hS, K24 hS⟩
    | 5, _ => exact ⟨R19_5 hS, K25 hS⟩
    | 6, _ => exact ⟨R19_6 hS, K26 hS⟩
    | k + 7, h => omega
  · intro i hi; match i, hi with
    | 0, _ => exact N20 hS
    | 1, _ => exact N21 hS
    | 2, _ => exact N22 hS
    | 3, _ => exact N23 hS
    | 4, _ => exact N24 hS
    | 5, _ => exact N25 hS
    | k + 6, h => omega
  · exact N26 hS
/-! ===== small methods ===== -/
section LF
variable {d : Nat} {M : Mem} {h : Hp} {j : Jp} {r : Rp} {E : EE} {Q : Option PV → Mem → Prop}
theorem s_within {v lo hi : Int32} : WP d 141 0 [some (vi v), some (vi lo), some (vi hi)] [] M Q = Q (some (vi (b2i (lo ≤ v ∧ v ≤ hi)))) M := by
  simp only [k141_0, k141_1, k141_2, k141_5, k141_6, k141_7, k141_10, k141_11, k141_14, k141_15]
  by_cases h1 : v < lo <;> by_cases h2 : hi < v <;> simp [h1, h2, b2i, Int32.not_lt.1, Int32.not_le.2, k141_15]
theorem s_hasGirl {m : Nat} {g : Int32} {G : Nat} (H : Mar r E m) (hG : h m 7 = nI G) (hG8 : G ≤ 8) : WP (d + 1) 24 0 [some (vr m), some (vi g)] [] (mm h j r E) Q = Q (some (vi (b2i (inb g G)))) (mm h j r E) := by
  simp only [k24_0, k24_1, k24_2, k24_3, k24_6, k24_7, k24_8, k24_11, mm_sI, mm_sJ, mm_sR, mm_cI, mm_cJ, mm_I, mm_J, mm_R, mm_K, mm_N, psh_s, psh_n, z_n, z_i, z_r, z_l, Nat.reduceAdd, Nat.reduceLeDiff, s_within, mk0 H, hG, b2i_01, ne_eq, true_or, or_true, not_false_eq_true, Nat.reduceEqDiff, Nat.reduceLT, Nat.reduceLeDiff, Nat.reduceAdd]
  rw [b2i_c (inb_w (by omega))]
end LF
