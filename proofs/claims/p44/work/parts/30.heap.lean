/-! ===== memories as four pieces; small facts ===== -/
abbrev Hp : Type := Nat → Nat → Int32
abbrev Jp : Type := Nat → Nat → Int64
abbrev Rp : Type := Nat → Nat → Nat
abbrev EE : Type := (Nat → Nat) × (Nat → Nat) × Nat × Nat
def mm (h : Hp) (j : Jp) (r : Rp) (E : EE) : Mem := (h, j, r, E)
theorem mm_eta (M : Mem) : M = mm M.1 M.2.1 M.2.2.1 M.2.2.2 := rfl
section MM
variable {h : Hp} {j : Jp} {r : Rp} {E : EE} {a i b sp dp n : Nat}
theorem mm_sI {v : Int32} : sI (mm h j r E) a i v = mm (up2 h a i v) j r E := rfl
theorem mm_sJ {v : Int64} : sJ (mm h j r E) a i v = mm h (up2 j a i v) r E := rfl
theorem mm_sR {v : Nat} : sR (mm h j r E) a i v = mm h j (up2 r a i v) E := rfl
theorem mm_cI : cI (mm h j r E) b sp a dp n = mm (cpy h b sp a dp n) j r E := rfl
theorem mm_cJ : cJ (mm h j r E) b sp a dp n = mm h (cpy j b sp a dp n) r E := rfl
theorem mm_I : mI (mm h j r E) a i = h a i := rfl
theorem mm_J : mJ (mm h j r E) a i = j a i := rfl
theorem mm_R : mR (mm h j r E) a i = r a i := rfl
theorem mm_K : mK (mm h j r E) a = E.1 a := rfl
theorem mm_N : mN (mm h j r E) a = E.2.1 a := rfl
theorem mm_X : mX (mm h j r E) = E.2.2.1 := rfl
theorem mm_S : mS (mm h j r E) = E.2.2.2 := rfl
theorem psh_s {v : PV} {st : List PV} : psh (some v) st = v :: st := rfl
theorem psh_n {st : List PV} : psh none st = st := rfl
/-- reading what was written -/
theorem up2_s {α : Type} {f : Nat → Nat → α} {v : α} : up2 f a i v a i = v := by simp [up2]
theorem up2_a {α : Type} {f : Nat → Nat → α} {v : α} {c : Nat} (hc : c ≠ a) : up2 f a i v c = f c := by funext k; simp [up2, hc]
theorem up2_i {α : Type} {f : Nat → Nat → α} {v : α} {k : Nat} (hk : k ≠ i) : up2 f a i v a k = f a k := by simp [up2, hk]
theorem up2_ai {α : Type} {f : Nat → Nat → α} {v : α} {c k : Nat} (hc : c ≠ a) : up2 f a i v c k = f c k := by simp [up2, hc]
theorem up2_e {α : Type} {f : Nat → Nat → α} {v : α} {k : Nat} : up2 f a i v a k = if k = i then v else f a k := by simp [up2]
theorem up2_uu {α : Type} {f : Nat → Nat → α} {v w : α} : up2 (up2 f a i v) a i w = up2 f a i w := by
  funext c k; simp only [up2]
  by_cases h1 : c = a
  · by_cases h2 : k = i <;> simp [h1, h2]
  · simp [h1]
theorem up2_id {α : Type} {f : Nat → Nat → α} : up2 f a i (f a i) = f := by
  funext c k; simp only [up2]; split
  · rename_i h; subst h; split
    · rename_i h; subst h; rfl
    · rfl
  · rfl
end MM
/-- the answer of a boolean -/
def b2i (p : Prop) [Decidable p] : Int32 := if p then 1 else 0
section B2
theorem b2i_01 {p : Prop} [Decidable p] : (b2i p = 0 ∨ b2i p = 1) = True := by unfold b2i; split <;> simp
theorem b2i_0 {p : Prop} [Decidable p] : (b2i p = 0) = ¬ p := by unfold b2i; split <;> simp_all
theorem b2i_1 {p : Prop} [Decidable p] : (b2i p = 1) = p := by unfold b2i; split <;> simp_all
theorem b2i_t {p : Prop} [Decidable p] (h : p) : b2i p = 1 := if_pos h
theorem b2i_f {p : Prop} [Decidable p] (h : ¬ p) : b2i p = 0 := if_neg h
theorem b2i_c {p q : Prop} [Decidable p] [Decidable q] (h : p ↔ q) : b2i p = b2i q := by unfold b2i; simp [h]
end B2
theorem if_Q {p : Prop} [Decidable p] {α : Type} {Q : α → Prop} {a b : α} : (if p then Q a else Q b) = Q (if p then a else b) := by split <;> rfl
theorem z_n : szL [] = 0 := by rw [szL]
theorem z_i {x : Int32} {st : List PV} : szL (vi x :: st) = szL st + 1 := by rw [szL]
theorem z_r {x : Nat} {st : List PV} : szL (vr x :: st) = szL st + 1 := by rw [szL]
theorem z_l {x : Int64} {st : List PV} : szL (vl x :: st) = szL st + 2 := by rw [szL]
/-! numbers -/
theorem iLt (a b : Int32) : a < b ↔ a.toInt < b.toInt := Int32.lt_iff_toInt_lt
theorem iLe (a b : Int32) : a ≤ b ↔ a.toInt ≤ b.toInt := Int32.le_iff_toInt_le
theorem iEq (a b : Int32) : a = b ↔ a.toInt = b.toInt := Int32.toInt_inj.symm
theorem iNn {x : Int32} {j : Nat} (h : x = nI j) (hj : j < 2 ^ 31) : x.toInt = j := by subst h; exact nI_toInt hj
theorem lit (n : Nat) : (OfNat.ofNat n : Int32) = nI n := rfl
theorem ix_n {k : Nat} (h : k < 2 ^ 31) : ix (nI k) = k := nI_clamp h
theorem inb_n {k n : Nat} (h : k < 2 ^ 31) : inb (nI k) n = (k < n) := by
  show (¬ nI k < 0 ∧ (nI k).toNatClampNeg < n) = _
  rw [nI_clamp h]; simp [nI_pos h]
theorem inb_of {x : Int32} {n : Nat} (h : inb x n) : ∃ k, k < n ∧ x = nI k ∧ k < 2 ^ 31 := by
  obtain ⟨k, h1, rfl⟩ := nI_of h.1
  refine ⟨k, ?_, rfl, h1⟩
  have := h.2; rwa [nI_clamp h1] at this
theorem inb_nI {x : Int32} {n : Nat} (h : inb x n) : x = nI (ix x) := by
  obtain ⟨k, _, rfl, h1⟩ := inb_of h
  rw [ix_n h1]
theorem inb_mono {x : Int32} {n m : Nat} (h : inb x n) (hm : n ≤ m) : inb x m := ⟨h.1, Nat.lt_of_lt_of_le h.2 hm⟩
theorem subI {x y : Int32} (h1 : -2147483648 ≤ x.toInt - y.toInt) (h2 : x.toInt - y.toInt < 2147483648) : (x - y).toInt = x.toInt - y.toInt := by
  rw [Int32.toInt_sub]; exact Int.bmod_eq_of_le (by omega) (by omega)
theorem addI {x y : Int32} (h1 : -2147483648 ≤ x.toInt + y.toInt) (h2 : x.toInt + y.toInt < 2147483648) : (x + y).toInt = x.toInt + y.toInt := by
  rw [Int32.toInt_add]; exact Int.bmod_eq_of_le (by omega) (by omega)
theorem toI_lt (x : Int32) : x.toInt < 2147483648 := by have := Int32.toInt_lt x; omega
theorem toI_ge (x : Int32) : -2147483648 ≤ x.toInt := by have := Int32.le_toInt x; omega
theorem i0 : (0 : Int32).toInt = 0 := rfl
theorem i1 : (1 : Int32).toInt = 1 := rfl
theorem ixI {x : Int32} : (ix x : Int) = max x.toInt 0 := by
  by_cases h : x < 0
  · have h' := (iLt _ _).1 h
    rw [i0] at h'
    have : ix x = 0 := by show x.toInt.toNat = 0; omega
    rw [this]; omega
  · obtain ⟨k, h1, rfl⟩ := nI_of h
    rw [ix_n h1, nI_toInt h1]; omega
theorem inbI {x : Int32} {n : Nat} : inb x n ↔ 0 ≤ x.toInt ∧ x.toInt < n := by
  have := @ixI x
  rw [inb, iLt, i0]; constructor
  · rintro ⟨h1, h2⟩; have h2 : ix x < n := h2; omega
  · rintro ⟨h1, h2⟩; refine ⟨by omega, ?_⟩; show ix x < n; omega
/-- between 0 and one less -/
theorem inb_w {x : Int32} {n : Nat} (hn : n < 2 ^ 31) : (0 ≤ x ∧ x ≤ nI n - 1) ↔ inb x n := by
  rw [inbI, iLe, iLe, i0, subI (by rw [nI_toInt hn, i1]; omega) (by rw [nI_toInt hn, i1]; omega), nI_toInt hn, i1]; omega
theorem inb_l {x y : Int32} {n : Nat} (hy : y = nI n) (hn : n < 2 ^ 31 - 1) : (0 ≤ x ∧ x ≤ y) ↔ inb x (n + 1) := by
  rw [inbI, iLe, iLe, i0, iNn hy (by omega)]; omega
theorem in_5 {x : Int32} : (0 ≤ x ∧ x ≤ 5) ↔ inb x 6 := inb_l rfl (by decide)
theorem in_35 {x : Int32} : (0 ≤ x ∧ x ≤ 35) ↔ inb x 36 := inb_l rfl (by decide)
theorem in_99 {x : Int32} : (0 ≤ x ∧ x ≤ 99) ↔ inb x 100 := inb_l rfl (by decide)
theorem in_9 {x : Int32} : (0 ≤ x ∧ x ≤ 9) ↔ inb x 10 := inb_l rfl (by decide)
theorem in_11 {x : Int32} : (0 ≤ x ∧ x ≤ 11) ↔ inb x 12 := inb_l rfl (by decide)
theorem in_255 {x : Int32} : (0 ≤ x ∧ x ≤ 255) ↔ inb x 256 := inb_l rfl (by decide)
theorem in_7 {x : Int32} : (0 ≤ x ∧ x ≤ 7) ↔ inb x 8 := inb_l rfl (by decide)
theorem in_4 {x : Int32} : (0 ≤ x ∧ x ≤ 4) ↔ inb x 5 := inb_l rfl (by decide)
/-- nothing but the depth has grown -/
theorem run_d {f : Nat} : ∀ {d y pc : Nat} {ls : Loc1} {st : List PV} {M : Mem} {a : Option PV × Mem}, run f d y pc ls st M = some a → run f (d + 1) y pc ls st M = some a := by
  induction f with
  | zero => intro d y pc ls st M a h; simp [run] at h
  | succ f ih =>
    intro d y pc ls st M a h
    unfold run at h ⊢
    cases hd : decode (mC y) pc with
    | error e => rw [hd] at h; simp at h
    | ok w =>
      obtain ⟨i, n⟩ := w
      rw [hd] at h
      simp only at h ⊢
      by_cases hn : okN i n = true
      case neg => rw [if_neg hn] at h; simp at h
      rw [if_pos hn] at h ⊢
      cases hf : fin (mT y) i st with
      | some v => rw [hf] at h; exact h
      | none =>
        rw [hf] at h
        simp only at h ⊢
        cases hc : cal (mCl y) i st M with
        | some t =>
          obtain ⟨y', as, rest⟩ := t
          rw [hc] at h
          simp only at h ⊢
          cases d with
          | zero => simp at h
          | succ d' =>
            simp only at h ⊢
            cases hr : run f d' y' 0 (ent (mL y') as) [] M with
            | none => rw [hr] at h; simp at h
            | some q =>
              rw [hr] at h
              rw [ih hr]
              exact ih h
        | none =>
          rw [hc] at h
          simp only at h ⊢
          cases he : ex y (mCl y) i n pc ls st M with
          | none => rw [he] at h; simp at h
          | some q =>
            obtain ⟨a1, b1, c1, e1⟩ := q
            rw [he] at h
            exact ih h
theorem WP.deep {d e y pc : Nat} {ls : Loc1} {st : List PV} {M : Mem} {Q : Option PV → Mem → Prop} (h : WP d y pc ls st M Q) (hl : d ≤ e) : WP e y pc ls st M Q := by
  induction hl with
  | refl => exact h
  | step _ ih => obtain ⟨f, a, h1, h2⟩ := ih; exact ⟨f, a, run_d h1, h2⟩
/-! literal places -/
theorem inb_c0 {n : Nat} : inb 0 n = (0 < n) := inb_n (k := 0) (by decide)
theorem ix_c0 : ix 0 = 0 := rfl
theorem inb_c1 {n : Nat} : inb 1 n = (1 < n) := inb_n (k := 1) (by decide)
theorem ix_c1 : ix 1 = 1 := rfl
theorem inb_c2 {n : Nat} : inb 2 n = (2 < n) := inb_n (k := 2) (by decide)
theorem ix_c2 : ix 2 = 2 := rfl
theorem inb_c3 {n : Nat} : inb 3 n = (3 < n) := inb_n (k := 3) (by decide)
theorem ix_c3 : ix 3 = 3 := rfl
theorem inb_c4 {n : Nat} : inb 4 n = (4 < n) := inb_n (k := 4) (by decide)
theorem ix_c4 : ix 4 = 4 := rfl
theorem inb_c5 {n : Nat} : inb 5 n = (5 < n) := inb_n (k := 5) (by decide)
theorem ix_c5 : ix 5 = 5 := rfl
theorem inb_c6 {n : Nat} : inb 6 n = (6 < n) := inb_n (k := 6) (by decide)
theorem ix_c6 : ix 6 = 6 := rfl
theorem inb_c7 {n : Nat} : inb 7 n = (7 < n) := inb_n (k := 7) (by decide)
theorem ix_c7 : ix 7 = 7 := rfl
theorem inb_c8 {n : Nat} : inb 8 n = (8 < n) := inb_n (k := 8) (by decide)
theorem ix_c8 : ix 8 = 8 := rfl
theorem inb_c32 {n : Nat} : inb 32 n = (32 < n) := inb_n (k := 32) (by decide)
theorem ix_c32 : ix 32 = 32 := rfl
