/-! ===== nothing that runs writes into the script ===== -/
def Sc (M M' : Mem) : Prop := (∀ j, mI M' 1 j = mI M 1 j) ∧ (∀ a, a < mX M → mK M' a = mK M a) ∧ mN M' 1 = mN M 1 ∧ mX M ≤ mX M'
section SCR
variable {y c pc n i r a b sp dp k s d : Nat} {ls : Loc1} {st : List PV} {M M1 M2 : Mem} {t : St1}
theorem Sc.rf : Sc M M := ⟨fun _ => rfl, fun _ _ => rfl, rfl, Nat.le_refl _⟩
theorem Sc.tr (p : Sc M M1) (q : Sc M1 M2) : Sc M M2 := ⟨fun j => (q.1 j).trans (p.1 j), fun a ha => (q.2.1 a (Nat.lt_of_lt_of_le ha p.2.2.2)).trans (p.2.1 a ha), q.2.2.1.trans p.2.2.1, Nat.le_trans p.2.2.2 q.2.2.2⟩
theorem Sc.sI {v : Int32} (h : r ≠ 1) : Sc M (sI M r i v) := ⟨fun j => by show up2 M.1 r i v 1 j = M.1 1 j; rw [up2_a (Ne.symm h)], fun _ _ => rfl, rfl, Nat.le_refl _⟩
theorem Sc.sJ {v : Int64} : Sc M (sJ M r i v) := ⟨fun _ => rfl, fun _ _ => rfl, rfl, Nat.le_refl _⟩
theorem Sc.sR {v : Nat} : Sc M (sR M r i v) := ⟨fun _ => rfl, fun _ _ => rfl, rfl, Nat.le_refl _⟩
theorem Sc.cI (h : a ≠ 1) : Sc M (cI M b sp a dp n) := ⟨fun j => by show cpy M.1 b sp a dp n 1 j = M.1 1 j; unfold cpy; rw [if_neg (Ne.symm h)], fun _ _ => rfl, rfl, Nat.le_refl _⟩
theorem Sc.cJ : Sc M (cJ M b sp a dp n) := ⟨fun _ => rfl, fun _ _ => rfl, rfl, Nat.le_refl _⟩
theorem Sc.nw (h : 2 ≤ mX M) : Sc M (nw M k n s) := ⟨fun j => if_neg (by omega), fun a ha => if_neg (by omega), if_neg (by omega), Nat.le_succ _⟩
theorem Sc.nw2 (h : 2 ≤ mX M) : Sc M (nw2 M n k) := ⟨fun j => if_neg (by omega), fun a ha => if_neg (by omega), if_neg (by omega), by show mX M ≤ mX M + 1 + n; omega⟩
theorem okF13 {C0 : Nat} (h : okF C0 13 = true) : C0 = 13 := by
  unfold okF at h
  split at h
  · exact absurd h (by decide)
  · rw [beq_iff_eq] at h; exact h.symm
theorem lk_of : ∀ {l : List (Nat × Nat × Nat)} {i : Nat} {q : Nat × Nat}, l.lookup i = some q → (i, q) ∈ l := by
  intro l
  induction l with
  | nil => intro i q h; cases h
  | cons t l ih =>
    intro i q h
    obtain ⟨t1, t2⟩ := t
    rw [List.lookup] at h
    split at h
    · rename_i e; cases h
      rw [beq_iff_eq] at e; subst e; exact List.mem_cons_self ..
    · exact List.mem_cons_of_mem _ (ih h)
theorem fld_13 {C0 : Nat} (h : fld c i = some (C0, k)) : C0 ≠ 13 := by
  have h1 := lk_of h
  unfold fTab at h1
  have q3 : ∀ t ∈ fT_3, t.2.1 ≠ 13 := by decide +kernel
  have q4 : ∀ t ∈ fT_4, t.2.1 ≠ 13 := by decide +kernel
  have q8 : ∀ t ∈ fT_8, t.2.1 ≠ 13 := by decide +kernel
  have q9 : ∀ t ∈ fT_9, t.2.1 ≠ 13 := by decide +kernel
  have q11 : ∀ t ∈ fT_11, t.2.1 ≠ 13 := by decide +kernel
  have q12 : ∀ t ∈ fT_12, t.2.1 ≠ 13 := by decide +kernel
  split at h1
  · exact q3 _ h1
  · exact q4 _ h1
  · exact q8 _ h1
  · exact q9 _ h1
  · exact q11 _ h1
  · exact q12 _ h1
  · cases h1
theorem put_1 (he : e_put y c i pc ls st M = some t) (hk : mK M 1 = 13) : Sc M t.2.2.2 := by
  unfold e_put at he
  split at he
  · rename_i C0 k hf
    split at he
    · rename_i hc
      cases he
      refine Sc.sI ?_
      rintro rfl
      rw [hk] at hc
      have h1 : okF C0 13 = true := by
        revert hc; cases okF C0 13 <;> simp
      exact fld_13 hf (okF13 h1)
    · cases he
  · split at he
    · cases he; exact Sc.sR
    · cases he
  · cases he
theorem iast_1 (he : e_iast pc ls st M = some t) : Sc M t.2.2.2 := by
  unfold e_iast at he
  split at he
  · split at he
    · rename_i hc; cases he; exact Sc.sI hc.2.2
    · cases he
  · cases he
theorem bi_1 {u : Nat} (he : e_bi u pc ls st M = some t) : Sc M t.2.2.2 := by
  unfold e_bi at he
  split at he
  · split at he
    · rename_i hc
      split at he
      · cases he; exact Sc.cI hc.2.2.2.2.2.1
      · split at he
        · cases he; exact Sc.cJ
        · cases he
    · cases he
  · split at he
    · cases he; exact Sc.rf
    · cases he
  · split at he
    · cases he; exact Sc.rf
    · cases he
  · split at he
    · cases he; exact Sc.rf
    · cases he
  · split at he
    · cases he; exact Sc.rf
    · cases he
  · cases he
theorem call_1 {u : Option Nat} (he : e_call u pc ls st M = some t) : Sc M t.2.2.2 := by
  unfold e_call at he
  split at he
  · exact bi_1 he
  · cases he
set_option maxHeartbeats 4000000 in
theorem ex_1 {i : Instr} (he : ex y c i n pc ls st M = some t) (hk : mK M 1 = 13) (hX : 2 ≤ mX M) : Sc M t.2.2.2 := by
  cases i <;> simp only [ex] at he <;> (try (cases he; done)) <;>
    (first
      | exact put_1 he hk
      | exact iast_1 he
      | exact call_1 he
      | (simp only [e_c, e_ldc, e_ldl, e_ld, e_st, e_inc, e_b, e_d, e_u, e_cv, e_lb, e_stk, e_if, e_ic, jmp, e_nul, e_sw, e_lsw, e_get, e_iald, e_lald, e_last, e_aald, e_aast, e_alen, e_new, e_nwa, e_anw, e_mnw, e_inst] at he
         repeat' (split at he)
         all_goals first
           | (cases he; done)
           | (cases he; exact Sc.rf)
           | (cases he; exact Sc.nw hX)
           | (cases he; exact Sc.nw2 hX)
           | (cases he; exact Sc.sJ)
           | (cases he; exact Sc.sR)))
theorem run_1 : ∀ (f d y pc : Nat) (ls : Loc1) (st : List PV) (M : Mem) (r : Option PV × Mem), run f d y pc ls st M = some r → mK M 1 = 13 → 2 ≤ mX M → Sc M r.2 := by
  intro f
  induction f with
  | zero => intro d y pc ls st M r h; simp [run] at h
  | succ f ih =>
    intro d y pc ls st M r h hk hX
    unfold run at h
    split at h
    · rename_i i n hd
      split at h
      · split at h
        · cases h; exact Sc.rf
        · split at h
          · split at h
            · cases h
            · split at h
              · rename_i v M1 h1
                have a := ih _ _ _ _ _ _ _ h1 hk hX
                have b := ih _ _ _ _ _ _ _ h ((a.2.1 1 (by omega)).trans hk) (Nat.le_trans hX (run_mono _ _ _ _ _ _ _ _ h1).1)
                exact a.tr b
              · cases h
          · split at h
            · rename_i he
              have a := ex_1 he hk hX
              have b := ih _ _ _ _ _ _ _ h ((a.2.1 1 (by omega)).trans hk) (Nat.le_trans hX (ex_mono he).1)
              exact a.tr b
            · cases h
      · cases h
    · cases h
theorem WP.sc {Q : Option PV → Mem → Prop} (h : WP d y pc ls st M Q) (hk : mK M 1 = 13) (hX : 2 ≤ mX M) : WP d y pc ls st M (fun v M' => Q v M' ∧ Sc M M') := by
  obtain ⟨f, r, h1, h2⟩ := h
  exact ⟨f, r, h1, h2, run_1 _ _ _ _ _ _ _ _ h1 hk hX⟩
end SCR
