/-! ===== runs of the evaluator, and what they answer ===== -/
def pop : Nat → List PV → List PV → Option (List PV × List PV)
  | 0, acc, st => some (acc, st)
  | n + 1, acc, x :: st => pop n (x :: acc) st
  | _ + 1, _, [] => none
def entL : List PV → Loc1
  | [] => []
  | .inl x :: r => some (vi x) :: entL r
  | .inr (.inl x) :: r => some (vr x) :: entL r
  | .inr (.inr x) :: r => some (vl x) :: none :: entL r
def ent (n : Nat) (as : List PV) : Loc1 := entL as ++ List.replicate (n - (entL as).length) none
def psh (v : Option PV) (st : List PV) : List PV := match v with
  | some x => x :: st
  | none => st
def fitC (y : Nat) (as rest : List PV) : Option (Nat × List PV × List PV) := if szL rest ≤ 8 ∧ (entL as).length ≤ mL y ∧ y ≠ 0 then some (y, as, rest) else none
def calS (t : Option (Nat × Nat)) (st : List PV) : Option (Nat × List PV × List PV) := match t with
  | some (y, n) => match pop n [] st with
    | some (as, rest) => fitC y as rest
    | none => none
  | none => none
/-- with a receiver below the arguments; ok: what its kind must be -/
def calP (t : Option (Nat × Nat)) (ok : Nat → Bool) (st : List PV) (M : Mem) : Option (Nat × List PV × List PV) := match t with
  | some (y, n) => match pop n [] st with
    | some (as, .inr (.inl r) :: rest) => if ok (mK M r) = true then fitC y (vr r :: as) rest else none
    | _ => none
  | none => none
/-- the method by the kind of the receiver: a constant String is a String -/
def vT (c i ci : Nat) : Option Nat := (vL c i).lookup (if ci = 20 then 1 else ci)
def calV (t : Option Nat) (sel : Nat → Option Nat) (st : List PV) (M : Mem) : Option (Nat × List PV × List PV) := match t with
  | some n => match pop n [] st with
    | some (as, .inr (.inl r) :: rest) => match sel (mK M r) with
      | some y => fitC y (vr r :: as) rest
      | none => none
    | _ => none
  | none => none
def cal (c : Nat) (i : Instr) (st : List PV) (M : Mem) : Option (Nat × List PV × List PV) := match i with
  | .invokestatic k => match calS (sT c k) st with
    | some t => some t
    | none => calS (nT c k) st
  | .invokespecial k => match calP (iT c k) (fun k => Nat.blt k 13) st M with
    | some t => some t
    | none => match calP (jT c k) (fun k => Nat.blt k 13) st M with
      | some t => some t
      | none => calP (pT c k) (fun k => Nat.beq k 0) st M
  | .invokevirtual k => calV (vN c k) (vT c k) st M
  | _ => none
def fin (t : Option FieldType) (i : Instr) (st : List PV) : Option (Option PV) := match i, st with
  | .ireturn, [.inl x] => match t with
    | some .int => some (some (vi x))
    | some .boolean => if x = 0 ∨ x = 1 then some (some (vi x)) else none
    | some .byte => if byV x = x then some (some (vi x)) else none
    | some .char => if x.toUInt32.toUInt16.toUInt32.toInt32 = x then some (some (vi x)) else none
    | _ => none
  | .lreturn, [.inr (.inr x)] => match t with
    | some .long => some (some (vl x))
    | _ => none
  | .areturn, [.inr (.inl r)] => match t with
    | some (.object _) => if r < 2 then none else some (some (vr r))
    | some (.array _) => if r < 2 then none else some (some (vr r))
    | _ => none
  | .return_, [] => match t with
    | none => some none
    | _ => none
  | _, _ => none
def run : Nat → Nat → Nat → Nat → Loc1 → List PV → Mem → Option (Option PV × Mem)
  | 0, _, _, _, _, _, _ => none
  | f + 1, d, y, pc, ls, st, M => match decode (mC y) pc with
    | .ok (i, n) => if okN i n = true then match fin (mT y) i st with
      | some v => some (v, M)
      | none => match cal (mCl y) i st M with
        | some (y', as, rest) => match d with
          | 0 => none
          | d' + 1 => match run f d' y' 0 (ent (mL y') as) [] M with
            | some (v, M') => run f (d' + 1) y (pc + 3) ls (psh v rest) M'
            | none => none
        | none => match ex y (mCl y) i n pc ls st M with
          | some (pc', ls', st', M') => run f d y pc' ls' st' M'
          | none => none
      else none
    | .error _ => none
theorem run_succ : ∀ (f d y pc : Nat) (ls : Loc1) (st : List PV) (M : Mem) (r : Option PV × Mem), run f d y pc ls st M = some r → run (f + 1) d y pc ls st M = some r := by
  intro f
  induction f with
  | zero => intro d y pc ls st M r h; simp [run] at h
  | succ f ih =>
    intro d y pc ls st M r h
    unfold run at h ⊢
    cases hd : decode (mC y) pc with
    | error e => rw [hd] at h; simp at h
    | ok w =>
      obtain ⟨i, n⟩ := w
      rw [hd] at h
      simp only at h ⊢
      by_cases hn : okN i n = true
      case neg => rw [if_neg hn] at h; simp at h
      rw [if_pos hn] at h ⊢
      cases hf : fin (mT y) i st with
      | some v => rw [hf] at h; exact h
      | none =>
        rw [hf] at h
        simp only at h ⊢
        cases hc : cal (mCl y) i st M with
        | some t =>
          obtain ⟨y', as, rest⟩ := t
          rw [hc] at h
          simp only at h ⊢
          cases d with
          | zero => exact h
          | succ d' =>
            simp only at h ⊢
            cases hr : run f d' y' 0 (ent (mL y') as) [] M with
            | none => rw [hr] at h; simp at h
            | some q =>
              rw [hr] at h
              rw [ih _ _ _ _ _ _ _ hr]
              exact ih _ _ _ _ _ _ _ h
        | none =>
          rw [hc] at h
          simp only at h ⊢
          cases he : ex y (mCl y) i n pc ls st M with
          | none => rw [he] at h; simp at h
          | some q =>
            obtain ⟨a, b, c, e⟩ := q
            rw [he] at h
            exact ih _ _ _ _ _ _ _ h
theorem run_le {f g d y pc : Nat} {ls : Loc1} {st : List PV} {M : Mem} {r : Option PV × Mem} (h : run f d y pc ls st M = some r) (hl : f ≤ g) : run g d y pc ls st M = some r := by
  induction hl with
  | refl => exact h
  | step _ ih => exact run_succ _ _ _ _ _ _ _ _ ih
/-- the run from here ends, with an answer and a memory of Q -/
def WP (d y pc : Nat) (ls : Loc1) (st : List PV) (M : Mem) (Q : Option PV → Mem → Prop) : Prop := ∃ (f : Nat) (r : Option PV × Mem), run f d y pc ls st M = some r ∧ Q r.1 r.2
theorem WP.mono {d y pc : Nat} {ls : Loc1} {st : List PV} {M : Mem} {Q Q' : Option PV → Mem → Prop} (h : WP d y pc ls st M Q) (hq : ∀ v M', Q v M' → Q' v M') : WP d y pc ls st M Q' := by
  obtain ⟨f, r, h1, h2⟩ := h
  exact ⟨f, r, h1, hq _ _ h2⟩
section WPL
variable {d y pc n : Nat} {ls : Loc1} {st : List PV} {M : Mem} {Q : Option PV → Mem → Prop} {cc : ByteArray} {i : Instr}
theorem w_fin {v : Option PV} (hc : mC y = cc) (hd : decode cc pc = .ok (i, n)) (hn : okN i n = true) (hf : fin (mT y) i st = some v) : WP d y pc ls st M Q = Q v M := by
  subst hc
  apply propext
  constructor
  · rintro ⟨f, r, h, hq⟩
    cases f with
    | zero => simp [run] at h
    | succ f =>
      unfold run at h
      rw [hd] at h
      simp only [hn, hf, if_true] at h
      cases h
      exact hq
  · intro hq
    refine ⟨1, (v, M), ?_, hq⟩
    unfold run
    rw [hd]
    simp only [hn, hf, if_true]
theorem w_ex {pc' : Nat} {ls' : Loc1} {st' : List PV} {M' : Mem} (hc : mC y = cc) (hd : decode cc pc = .ok (i, n)) (hn : okN i n = true) (hf : fin (mT y) i st = none) (hl : cal (mCl y) i st M = none) (he : ex y (mCl y) i n pc ls st M = some (pc', ls', st', M')) :
    WP d y pc ls st M Q = WP d y pc' ls' st' M' Q := by
  subst hc
  apply propext
  constructor
  · rintro ⟨f, r, h, hq⟩
    cases f with
    | zero => simp [run] at h
    | succ f =>
      unfold run at h
      rw [hd] at h
      simp only [hn, hf, hl, he, if_true] at h
      exact ⟨f, r, h, hq⟩
  · rintro ⟨f, r, h, hq⟩
    refine ⟨f + 1, r, ?_, hq⟩
    unfold run
    rw [hd]
    simp only [hn, hf, hl, he, if_true]
    exact h
theorem w_call {y' : Nat} {as rest : List PV} (hc : mC y = cc) (hd : decode cc pc = .ok (i, n)) (hn : okN i n = true) (hf : fin (mT y) i st = none) (hl : cal (mCl y) i st M = some (y', as, rest)) :
    WP (d + 1) y pc ls st M Q = WP d y' 0 (ent (mL y') as) [] M (fun v M' => WP (d + 1) y (pc + 3) ls (psh v rest) M' Q) := by
  subst hc
  apply propext
  constructor
  · rintro ⟨f, r, h, hq⟩
    cases f with
    | zero => simp [run] at h
    | succ f =>
      unfold run at h
      rw [hd] at h
      simp only [hn, hf, hl, if_true] at h
      cases hr : run f d y' 0 (ent (mL y') as) [] M with
      | none => rw [hr] at h; simp at h
      | some q =>
        rw [hr] at h
        exact ⟨f, q, hr, f, r, h, hq⟩
  · rintro ⟨f, q, hr, g, r, h, hq⟩
    refine ⟨max f g + 1, r, ?_, hq⟩
    unfold run
    rw [hd]
    simp only [hn, hf, hl, if_true, run_le hr (Nat.le_max_left f g)]
    exact run_le h (Nat.le_max_right f g)
end WPL
/-- instructions that neither call nor return -/
def simple (i : Instr) : Bool := match i with
  | .ireturn => false | .lreturn => false | .areturn => false | .return_ => false
  | .invokestatic _ => false | .invokespecial _ => false | .invokevirtual _ => false
  | _ => true
theorem simple_fin {t : Option FieldType} {i : Instr} {st : List PV} (h : simple i = true) : fin t i st = none := by
  cases i <;> first | rfl | (simp [simple] at h)
theorem simple_cal {c : Nat} {i : Instr} {st : List PV} {M : Mem} (h : simple i = true) : cal c i st M = none := by
  cases i <;> first | rfl | (simp [simple] at h)
section WPR
variable {d y pc n : Nat} {ls : Loc1} {st : List PV} {M : Mem} {Q : Option PV → Mem → Prop} {cc : ByteArray} {i : Instr}
/-- one instruction that neither calls nor returns -/
theorem w1 {pc' : Nat} {ls' : Loc1} {st' : List PV} {M' : Mem} (hc : mC y = cc) (hd : decode cc pc = .ok (i, n)) (hs : simple i = true) (he : ex y (mCl y) i n pc ls st M = some (pc', ls', st', M')) (hn : okN i n = true := by rfl) :
    WP d y pc ls st M Q = WP d y pc' ls' st' M' Q := w_ex hc hd hn (simple_fin hs) (simple_cal hs) he
theorem w_if_eq {x : Int32} {off : Int} {t : Nat} (hc : mC y = cc) (hd : decode cc pc = .ok (.ifCond .eq off, 3)) (ht : tgt pc off = some t) : WP d y pc ls (vi x :: st) M Q = if x = 0 then WP d y t ls st M Q else WP d y (pc + 3) ls st M Q := by
  split
  · rename_i h; exact w1 hc hd rfl (by simp [ex, e_if, c1, h, ht])
  · rename_i h; exact w1 hc hd rfl (by simp [ex, e_if, c1, h, ht])
theorem w_if_ne {x : Int32} {off : Int} {t : Nat} (hc : mC y = cc) (hd : decode cc pc = .ok (.ifCond .ne off, 3)) (ht : tgt pc off = some t) : WP d y pc ls (vi x :: st) M Q = if x = 0 then WP d y (pc + 3) ls st M Q else WP d y t ls st M Q := by
  split
  · rename_i h; exact w1 hc hd rfl (by simp [ex, e_if, c1, h, ht])
  · rename_i h; exact w1 hc hd rfl (by simp [ex, e_if, c1, h, ht])
theorem w_if_lt {x : Int32} {off : Int} {t : Nat} (hc : mC y = cc) (hd : decode cc pc = .ok (.ifCond .lt off, 3)) (ht : tgt pc off = some t) : WP d y pc ls (vi x :: st) M Q = if x < 0 then WP d y t ls st M Q else WP d y (pc + 3) ls st M Q := by
  split
  · rename_i h; exact w1 hc hd rfl (by simp [ex, e_if, c1, h, ht])
  · rename_i h; exact w1 hc hd rfl (by simp only [ex, e_if, c1, h, ht, decide_false]; rfl)
theorem w_if_ge {x : Int32} {off : Int} {t : Nat} (hc : mC y = cc) (hd : decode cc pc = .ok (.ifCond .ge off, 3)) (ht : tgt pc off = some t) : WP d y pc ls (vi x :: st) M Q = if 0 ≤ x then WP d y t ls st M Q else WP d y (pc + 3) ls st M Q := by
  split
  · rename_i h; exact w1 hc hd rfl (by simp [ex, e_if, c1, h, ht])
  · rename_i h; exact w1 hc hd rfl (by simp only [ex, e_if, c1, h, ht, decide_false]; rfl)
theorem w_if_gt {x : Int32} {off : Int} {t : Nat} (hc : mC y = cc) (hd : decode cc pc = .ok (.ifCond .gt off, 3)) (ht : tgt pc off = some t) : WP d y pc ls (vi x :: st) M Q = if 0 < x then WP d y t ls st M Q else WP d y (pc + 3) ls st M Q := by
  split
  · rename_i h; exact w1 hc hd rfl (by simp [ex, e_if, c1, h, ht])
  · rename_i h; exact w1 hc hd rfl (by simp only [ex, e_if, c1, h, ht, decide_false]; rfl)
theorem w_if_le {x : Int32} {off : Int} {t : Nat} (hc : mC y = cc) (hd : decode cc pc = .ok (.ifCond .le off, 3)) (ht : tgt pc off = some t) : WP d y pc ls (vi x :: st) M Q = if x ≤ 0 then WP d y t ls st M Q else WP d y (pc + 3) ls st M Q := by
  split
  · rename_i h; exact w1 hc hd rfl (by simp [ex, e_if, c1, h, ht])
  · rename_i h; exact w1 hc hd rfl (by simp only [ex, e_if, c1, h, ht, decide_false]; rfl)
theorem w_ic_eq {a b : Int32} {off : Int} {t : Nat} (hc : mC y = cc) (hd : decode cc pc = .ok (.if_icmp .eq off, 3)) (ht : tgt pc off = some t) : WP d y pc ls (vi b :: vi a :: st) M Q = if a = b then WP d y t ls st M Q else WP d y (pc + 3) ls st M Q := by
  split
  · rename_i h; exact w1 hc hd rfl (by simp [ex, e_ic, c2, h, ht])
  · rename_i h; exact w1 hc hd rfl (by simp [ex, e_ic, c2, h, ht])
theorem w_ic_ne {a b : Int32} {off : Int} {t : Nat} (hc : mC y = cc) (hd : decode cc pc = .ok (.if_icmp .ne off, 3)) (ht : tgt pc off = some t) : WP d y pc ls (vi b :: vi a :: st) M Q = if a = b then WP d y (pc + 3) ls st M Q else WP d y t ls st M Q := by
  split
  · rename_i h; exact w1 hc hd rfl (by simp [ex, e_ic, c2, h, ht])
  · rename_i h; exact w1 hc hd rfl (by simp [ex, e_ic, c2, h, ht])
theorem w_ic_lt {a b : Int32} {off : Int} {t : Nat} (hc : mC y = cc) (hd : decode cc pc = .ok (.if_icmp .lt off, 3)) (ht : tgt pc off = some t) : WP d y pc ls (vi b :: vi a :: st) M Q = if a < b then WP d y t ls st M Q else WP d y (pc + 3) ls st M Q := by
  split
  · rename_i h; exact w1 hc hd rfl (by simp [ex, e_ic, c2, h, ht])
  · rename_i h; exact w1 hc hd rfl (by simp only [ex, e_ic, c2, h, ht, decide_false]; rfl)
theorem w_ic_ge {a b : Int32} {off : Int} {t : Nat} (hc : mC y = cc) (hd : decode cc pc = .ok (.if_icmp .ge off, 3)) (ht : tgt pc off = some t) : WP d y pc ls (vi b :: vi a :: st) M Q = if b ≤ a then WP d y t ls st M Q else WP d y (pc + 3) ls st M Q := by
  split
  · rename_i h; exact w1 hc hd rfl (by simp [ex, e_ic, c2, h, ht])
  · rename_i h; exact w1 hc hd rfl (by simp only [ex, e_ic, c2, h, ht, decide_false]; rfl)
theorem w_ic_gt {a b : Int32} {off : Int} {t : Nat} (hc : mC y = cc) (hd : decode cc pc = .ok (.if_icmp .gt off, 3)) (ht : tgt pc off = some t) : WP d y pc ls (vi b :: vi a :: st) M Q = if b < a then WP d y t ls st M Q else WP d y (pc + 3) ls st M Q := by
  split
  · rename_i h; exact w1 hc hd rfl (by simp [ex, e_ic, c2, h, ht])
  · rename_i h; exact w1 hc hd rfl (by simp only [ex, e_ic, c2, h, ht, decide_false]; rfl)
theorem w_ic_le {a b : Int32} {off : Int} {t : Nat} (hc : mC y = cc) (hd : decode cc pc = .ok (.if_icmp .le off, 3)) (ht : tgt pc off = some t) : WP d y pc ls (vi b :: vi a :: st) M Q = if a ≤ b then WP d y t ls st M Q else WP d y (pc + 3) ls st M Q := by
  split
  · rename_i h; exact w1 hc hd rfl (by simp [ex, e_ic, c2, h, ht])
  · rename_i h; exact w1 hc hd rfl (by simp only [ex, e_ic, c2, h, ht, decide_false]; rfl)
theorem w_null {r : Nat} {off : Int} {t : Nat} (hc : mC y = cc) (hd : decode cc pc = .ok (.ifnull off, 3)) (ht : tgt pc off = some t) : WP d y pc ls (vr r :: st) M Q = if r = 0 then WP d y t ls st M Q else WP d y (pc + 3) ls st M Q := by
  split
  · rename_i h; exact w1 hc hd rfl (by simp [ex, e_nul, h, ht])
  · rename_i h; exact w1 hc hd rfl (by simp [ex, e_nul, h, ht])
theorem w_nonnull {r : Nat} {off : Int} {t : Nat} (hc : mC y = cc) (hd : decode cc pc = .ok (.ifnonnull off, 3)) (ht : tgt pc off = some t) : WP d y pc ls (vr r :: st) M Q = if r = 0 then WP d y (pc + 3) ls st M Q else WP d y t ls st M Q := by
  split
  · rename_i h; exact w1 hc hd rfl (by simp [ex, e_nul, h, ht])
  · rename_i h; exact w1 hc hd rfl (by simp [ex, e_nul, h, ht])
theorem w_div {a b : Int32} (hc : mC y = cc) (hd : decode cc pc = .ok (.idiv, 1)) (hb : b ≠ 0) : WP d y pc ls (vi b :: vi a :: st) M Q = WP d y (pc + 1) ls (vi (a / b) :: st) M Q :=
  w1 hc hd rfl (by simp [ex, e_d, hb])
theorem w_rem {a b : Int32} (hc : mC y = cc) (hd : decode cc pc = .ok (.irem, 1)) (hb : b ≠ 0) : WP d y pc ls (vi b :: vi a :: st) M Q = WP d y (pc + 1) ls (vi (a % b) :: st) M Q :=
  w1 hc hd rfl (by simp [ex, e_d, hb])
theorem w_get {r C0 k i : Nat} (hc : mC y = cc) (hd : decode cc pc = .ok (.getfield i, 3)) (hf : fld (mCl y) i = some (C0, k)) (hr : fRef C0 k = false) (hk : okG C0 (mK M r) = true) : WP d y pc ls (vr r :: st) M Q = WP d y (pc + 3) ls (vi (mI M r k) :: st) M Q :=
  w1 hc hd rfl (by simp only [ex, e_get, hf, hr, if_pos hk]; rfl)
theorem w_getr {r C0 k i : Nat} (hc : mC y = cc) (hd : decode cc pc = .ok (.getfield i, 3)) (hf : fld (mCl y) i = some (C0, k)) (hr : fRef C0 k = true) (hk : okG C0 (mK M r) = true) : WP d y pc ls (vr r :: st) M Q = WP d y (pc + 3) ls (vr (mR M r k) :: st) M Q :=
  w1 hc hd rfl (by simp only [ex, e_get, hf, hr, if_pos hk]; rfl)
theorem w_put {r C0 k i : Nat} {x : Int32} (hc : mC y = cc) (hd : decode cc pc = .ok (.putfield i, 3)) (hf : fld (mCl y) i = some (C0, k)) (hr : (!fRef C0 k && (!fFin C0 k || ((mY y).name == "<init>" && C0 == mCl y)) && !fBool C0 k && !fByte C0 k) = true) (hk : okF C0 (mK M r) = true) :
    WP d y pc ls (vi x :: vr r :: st) M Q = WP d y (pc + 3) ls st (sI M r k x) Q :=
  w1 hc hd rfl (by
    simp only [Bool.and_eq_true] at hr
    have h1 : (okF C0 (mK M r) && !fRef C0 k && (!fFin C0 k || ((mY y).name == "<init>" && C0 == mCl y)) && (!fBool C0 k || x == 0 || x == 1) && (!fByte C0 k || byV x == x)) = true := by
      simp only [Bool.and_eq_true, Bool.or_eq_true]
      exact ⟨⟨⟨⟨hk, hr.1.1.1⟩, by simpa only [Bool.or_eq_true, Bool.and_eq_true] using hr.1.1.2⟩, Or.inl (Or.inl hr.1.2)⟩, Or.inl hr.2⟩
    simp only [ex, e_put, hf, if_pos h1])
theorem w_putb {r C0 k i : Nat} {x : Int32} (hc : mC y = cc) (hd : decode cc pc = .ok (.putfield i, 3)) (hf : fld (mCl y) i = some (C0, k)) (hr : (!fRef C0 k && (!fFin C0 k || ((mY y).name == "<init>" && C0 == mCl y)) && !fByte C0 k) = true) (hk : okF C0 (mK M r) = true) (hx : x = 0 ∨ x = 1) :
    WP d y pc ls (vi x :: vr r :: st) M Q = WP d y (pc + 3) ls st (sI M r k x) Q :=
  w1 hc hd rfl (by
    simp only [Bool.and_eq_true] at hr
    have h1 : (okF C0 (mK M r) && !fRef C0 k && (!fFin C0 k || ((mY y).name == "<init>" && C0 == mCl y)) && (!fBool C0 k || x == 0 || x == 1) && (!fByte C0 k || byV x == x)) = true := by
      simp only [Bool.and_eq_true, Bool.or_eq_true]
      refine ⟨⟨⟨⟨hk, hr.1.1⟩, by simpa only [Bool.or_eq_true, Bool.and_eq_true] using hr.1.2⟩, ?_⟩, Or.inl hr.2⟩
      rcases hx with rfl | rfl
      · exact Or.inl (Or.inr rfl)
      · exact Or.inr rfl
    simp only [ex, e_put, hf, if_pos h1])
theorem w_putB {r C0 k i : Nat} {x : Int32} (hc : mC y = cc) (hd : decode cc pc = .ok (.putfield i, 3)) (hf : fld (mCl y) i = some (C0, k)) (hr : (!fRef C0 k && (!fFin C0 k || ((mY y).name == "<init>" && C0 == mCl y)) && !fBool C0 k) = true) (hk : okF C0 (mK M r) = true) (hx : byV x = x) :
    WP d y pc ls (vi x :: vr r :: st) M Q = WP d y (pc + 3) ls st (sI M r k x) Q :=
  w1 hc hd rfl (by
    simp only [Bool.and_eq_true] at hr
    have h1 : (okF C0 (mK M r) && !fRef C0 k && (!fFin C0 k || ((mY y).name == "<init>" && C0 == mCl y)) && (!fBool C0 k || x == 0 || x == 1) && (!fByte C0 k || byV x == x)) = true := by
      simp only [Bool.and_eq_true, Bool.or_eq_true]
      exact ⟨⟨⟨⟨hk, hr.1.1⟩, by simpa only [Bool.or_eq_true, Bool.and_eq_true] using hr.1.2⟩, Or.inl (Or.inl hr.2)⟩, Or.inr (beq_iff_eq.mpr hx)⟩
    simp only [ex, e_put, hf, if_pos h1])
theorem w_putr {r C0 k i q : Nat} (hc : mC y = cc) (hd : decode cc pc = .ok (.putfield i, 3)) (hf : fld (mCl y) i = some (C0, k)) (hr : (fRef C0 k && (!fFin C0 k || ((mY y).name == "<init>" && C0 == mCl y))) = true) (hk : okF C0 (mK M r) = true) :
    WP d y pc ls (vr q :: vr r :: st) M Q = WP d y (pc + 3) ls st (sR M r k q) Q :=
  w1 hc hd rfl (by
    simp only [Bool.and_eq_true] at hr
    have h1 : (okF C0 (mK M r) && fRef C0 k && (!fFin C0 k || ((mY y).name == "<init>" && C0 == mCl y))) = true := by
      simp only [Bool.and_eq_true]
      exact ⟨⟨hk, hr.1⟩, hr.2⟩
    simp only [ex, e_put, hf, if_pos h1])
theorem w_iald {r : Nat} {j : Int32} (hc : mC y = cc) (hd : decode cc pc = .ok (.iaload, 1)) (hk : mK M r = 13) (hj : inb j (mN M r)) : WP d y pc ls (vi j :: vr r :: st) M Q = WP d y (pc + 1) ls (vi (mI M r (ix j)) :: st) M Q :=
  w1 hc hd rfl (by simp only [ex, e_iald, if_pos (And.intro hk hj)])
theorem w_bald {r : Nat} {j : Int32} (hc : mC y = cc) (hd : decode cc pc = .ok (.baload, 1)) (hk : mK M r = 18 ∨ mK M r = 19) (hj : inb j (mN M r)) : WP d y pc ls (vi j :: vr r :: st) M Q = WP d y (pc + 1) ls (vi (mI M r (ix j)) :: st) M Q :=
  w1 hc hd rfl (by simp only [ex, e_bald, if_pos (And.intro hk hj)])
theorem w_bast {r : Nat} {j x : Int32} (hc : mC y = cc) (hd : decode cc pc = .ok (.bastore, 1)) (hk : mK M r = 18) (hj : inb j (mN M r)) : WP d y pc ls (vi x :: vi j :: vr r :: st) M Q = WP d y (pc + 1) ls st (sI M r (ix j) (byV x)) Q :=
  w1 hc hd rfl (by simp only [ex, e_bast, if_pos (And.intro hk hj)])
theorem w_cast {r k : Nat} (hc : mC y = cc) (hd : decode cc pc = .ok (.checkcast k, 3)) (ht : ccT (mCl y) k = true) (hk : mK M r = 18) : WP d y pc ls (vr r :: st) M Q = WP d y (pc + 3) ls (vr r :: st) M Q :=
  w1 hc hd rfl (by simp only [ex, e_cast, ht, hk, and_self, if_true])
theorem w_cln {r k : Nat} (hc : mC y = cc) (hd : decode cc pc = .ok (.invokevirtual k, 3)) (hn : vN (mCl y) k = none) (ht : clT (mCl y) k = true) (hk : mK M r = 18) (hl : szL st ≤ 8) : WP d y pc ls (vr r :: st) M Q = WP d y (pc + 3) ls (vr (mX M) :: st) (nwc M r) Q :=
  w_ex hc hd rfl rfl (by simp only [cal, calV, hn]) (by simp only [ex, e_cln, ht, hk, hl, and_self, if_true])
theorem w_ldcs {k i : Nat} (hc : mC y = cc) (hd : decode cc pc = .ok (.ldc k, 2)) (hi : kI (mCl y) k = none) (hs : stT (mCl y) k = some i) : WP d y pc ls st M Q = WP d y (pc + 2) ls (vr (kA + 2 * i) :: st) M Q :=
  w1 hc hd rfl (by simp only [ex, e_ldcS, hi, hs])
theorem w_gets0 {k : Nat} (hc : mC y = cc) (hd : decode cc pc = .ok (.getstatic k, 3)) (hs : gsT (mCl y) k = some 0) : WP d y pc ls st M Q = WP d y (pc + 3) ls (vi 1 :: st) M Q :=
  w1 hc hd rfl (by simp only [ex, e_gets, hs])
theorem w_gets1 {k : Nat} (hc : mC y = cc) (hd : decode cc pc = .ok (.getstatic k, 3)) (hs : gsT (mCl y) k = some 1) : WP d y pc ls st M Q = WP d y (pc + 3) ls (vr (kA + 40) :: st) M Q :=
  w1 hc hd rfl (by simp only [ex, e_gets, hs])
theorem w_gets2 {k : Nat} (hc : mC y = cc) (hd : decode cc pc = .ok (.getstatic k, 3)) (hs : gsT (mCl y) k = some 2) : WP d y pc ls st M Q = WP d y (pc + 3) ls (vr (kA + 41) :: st) M Q :=
  w1 hc hd rfl (by simp only [ex, e_gets, hs])
theorem w_gets3 {k : Nat} (hc : mC y = cc) (hd : decode cc pc = .ok (.getstatic k, 3)) (hs : gsT (mCl y) k = some 3) : WP d y pc ls st M Q = WP d y (pc + 3) ls (vr (if mI M (kA + 42) 0 = 0 then 0 else kA + 42) :: st) M Q :=
  w1 hc hd rfl (by simp only [ex, e_gets, hs]; split <;> rfl)
theorem w_iast {r : Nat} {j x : Int32} (hc : mC y = cc) (hd : decode cc pc = .ok (.iastore, 1)) (hk : mK M r = 13) (hj : inb j (mN M r)) (h1 : r ≠ 1) : WP d y pc ls (vi x :: vi j :: vr r :: st) M Q = WP d y (pc + 1) ls st (sI M r (ix j) x) Q :=
  w1 hc hd rfl (by simp only [ex, e_iast, if_pos (And.intro hk (And.intro hj h1))])
theorem w_lald {r : Nat} {j : Int32} (hc : mC y = cc) (hd : decode cc pc = .ok (.laload, 1)) (hk : mK M r = 14) (hj : inb j (mN M r)) (h1 : r ≠ 1) : WP d y pc ls (vi j :: vr r :: st) M Q = WP d y (pc + 1) ls (vl (mJ M r (ix j)) :: st) M Q :=
  w1 hc hd rfl (by simp only [ex, e_lald, if_pos (And.intro hk (And.intro hj h1))])
theorem w_last {r : Nat} {j : Int32} {x : Int64} (hc : mC y = cc) (hd : decode cc pc = .ok (.lastore, 1)) (hk : mK M r = 14) (hj : inb j (mN M r)) (h1 : r ≠ 1) : WP d y pc ls (vl x :: vi j :: vr r :: st) M Q = WP d y (pc + 1) ls st (sJ M r (ix j) x) Q :=
  w1 hc hd rfl (by simp only [ex, e_last, if_pos (And.intro hk (And.intro hj h1))])
theorem w_aald {r : Nat} {j : Int32} (hc : mC y = cc) (hd : decode cc pc = .ok (.aaload, 1)) (hk : mK M r = 15 ∨ mK M r = 16 ∨ mK M r = 17) (hj : inb j (mN M r)) (h1 : r ≠ 1) : WP d y pc ls (vi j :: vr r :: st) M Q = WP d y (pc + 1) ls (vr (mR M r (ix j)) :: st) M Q :=
  w1 hc hd rfl (by simp only [ex, e_aald, if_pos (And.intro hk (And.intro hj h1))])
theorem w_aast {r q : Nat} {j : Int32} (hc : mC y = cc) (hd : decode cc pc = .ok (.aastore, 1)) (hk : okA (mK M r) (mK M q) = true) (hj : inb j (mN M r)) (h1 : r ≠ 1) (h2 : q ≠ 1) : WP d y pc ls (vr q :: vi j :: vr r :: st) M Q = WP d y (pc + 1) ls st (sR M r (ix j) q) Q :=
  w1 hc hd rfl (by simp only [ex, e_aast, if_pos (And.intro hk (And.intro hj (And.intro h1 h2)))])
theorem w_alen {r : Nat} (hc : mC y = cc) (hd : decode cc pc = .ok (.arraylength, 1)) (hk : 13 ≤ mK M r ∧ mK M r ≤ 19) : WP d y pc ls (vr r :: st) M Q = WP d y (pc + 1) ls (vi (Int32.ofNat (mN M r)) :: st) M Q :=
  w1 hc hd rfl (by simp only [ex, e_alen, if_pos hk])
end WPR
