/-! ===== runs of the law's body up to a place; the claim's start out of the evaluator's answers ===== -/
/-- the law's own frame up to the place 'stop', with nothing on its stack -/
def runT (y stop : Nat) : Nat → Nat → Nat → Loc1 → List PV → Mem → Option (Loc1 × Mem)
  | 0, _, _, _, _, _ => none
  | f + 1, d, pc, ls, st, M => if pc = stop ∧ st.isEmpty = true then some (ls, M) else match decode (mC y) pc with
    | .ok (i, n) => if okN i n = true then match cal (mCl y) i st M with
        | some (y', as, rest) => match d with
          | 0 => none
          | d' + 1 => match run f d' y' 0 (ent (mL y') as) [] M with
            | some (v, M') => runT y stop f (d' + 1) (pc + 3) ls (psh v rest) M'
            | none => none
        | none => match ex y (mCl y) i n pc ls st M with
          | some (pc', ls', st', M') => runT y stop f d pc' ls' st' M'
          | none => none
      else none
    | .error _ => none
theorem runT_succ : ∀ (y stop f d pc : Nat) (ls : Loc1) (st : List PV) (M : Mem) (r : Loc1 × Mem), runT y stop f d pc ls st M = some r → runT y stop (f + 1) d pc ls st M = some r := by
  intro y stop f
  induction f with
  | zero => intro d pc ls st M r h; simp [runT] at h
  | succ f ih =>
    intro d pc ls st M r h
    unfold runT at h ⊢
    by_cases hs : pc = stop ∧ st.isEmpty = true
    · rw [if_pos hs] at h ⊢; exact h
    rw [if_neg hs] at h ⊢
    cases hd : decode (mC y) pc with
    | error e => rw [hd] at h; simp at h
    | ok w =>
      obtain ⟨i, n⟩ := w
      rw [hd] at h
      simp only at h ⊢
      by_cases hn : okN i n = true
      case neg => rw [if_neg hn] at h; simp at h
      rw [if_pos hn] at h ⊢
      cases hc : cal (mCl y) i st M with
      | some t =>
        obtain ⟨y', as, rest⟩ := t
        rw [hc] at h
        simp only at h ⊢
        cases d with
        | zero => exact h
        | succ d' =>
          simp only at h ⊢
          cases hr : run f d' y' 0 (ent (mL y') as) [] M with
          | none => rw [hr] at h; simp at h
          | some q =>
            rw [hr] at h
            rw [run_succ _ _ _ _ _ _ _ _ hr]
            exact ih _ _ _ _ _ _ h
      | none =>
        rw [hc] at h
        simp only at h ⊢
        cases he : ex y (mCl y) i n pc ls st M with
        | none => rw [he] at h; simp at h
        | some q =>
          obtain ⟨a, b, c, e⟩ := q
          rw [he] at h
          exact ih _ _ _ _ _ _ h
theorem runT_le {y stop f g d pc : Nat} {ls : Loc1} {st : List PV} {M : Mem} {r : Loc1 × Mem} (h : runT y stop f d pc ls st M = some r) (hl : f ≤ g) : runT y stop g d pc ls st M = some r := by
  induction hl with
  | refl => exact h
  | step _ ih => exact runT_succ _ _ _ _ _ _ _ _ _ ih
def WPT (y stop d pc : Nat) (ls : Loc1) (st : List PV) (M : Mem) (Q : Loc1 → Mem → Prop) : Prop := ∃ (f : Nat) (r : Loc1 × Mem), runT y stop f d pc ls st M = some r ∧ Q r.1 r.2
section WT
variable {y stop d pc n : Nat} {ls : Loc1} {st : List PV} {M : Mem} {Q : Loc1 → Mem → Prop} {cc : ByteArray} {i : Instr}
theorem t_stop (hq : Q ls M) : WPT y stop d stop ls [] M Q := ⟨1, (ls, M), by unfold runT; rw [if_pos ⟨rfl, rfl⟩], hq⟩
theorem t_ex {pc' : Nat} {ls' : Loc1} {st' : List PV} {M' : Mem} (hc : mC y = cc) (hne : pc ≠ stop) (hd : decode cc pc = .ok (i, n)) (hn : okN i n = true) (hl : cal (mCl y) i st M = none) (he : ex y (mCl y) i n pc ls st M = some (pc', ls', st', M')) (h : WPT y stop d pc' ls' st' M' Q) : WPT y stop d pc ls st M Q := by
  subst hc
  obtain ⟨f, r, h1, h2⟩ := h
  refine ⟨f + 1, r, ?_, h2⟩
  unfold runT
  rw [if_neg (fun hh => hne hh.1), hd]
  simp only [hn, hl, he, if_true]
  exact h1
theorem t_call {y' : Nat} {as rest : List PV} (hc : mC y = cc) (hne : pc ≠ stop) (hd : decode cc pc = .ok (i, n)) (hn : okN i n = true) (hl : cal (mCl y) i st M = some (y', as, rest)) (h : WP d y' 0 (ent (mL y') as) [] M (fun v M' => WPT y stop (d + 1) (pc + 3) ls (psh v rest) M' Q)) : WPT y stop (d + 1) pc ls st M Q := by
  subst hc
  obtain ⟨f, q, hr, g, r, h1, h2⟩ := h
  refine ⟨max f g + 1, r, ?_, h2⟩
  unfold runT
  rw [if_neg (fun hh => hne hh.1), hd]
  simp only [hn, hl, if_true, run_le hr (Nat.le_max_left f g)]
  exact runT_le h1 (Nat.le_max_right f g)
end WT
theorem runT_mono : ∀ (y stop f d pc : Nat) (ls : Loc1) (st : List PV) (M : Mem) (r : Loc1 × Mem), runT y stop f d pc ls st M = some r → mX M ≤ mX r.2 ∧ mS M ≤ mS r.2 := by
  intro y stop f
  induction f with
  | zero => intro d pc ls st M r h; simp [runT] at h
  | succ f ih =>
    intro d pc ls st M r h
    unfold runT at h
    split at h
    · cases h; exact ⟨Nat.le_refl _, Nat.le_refl _⟩
    · split at h
      · split at h
        · split at h
          · split at h
            · cases h
            · split at h
              · rename_i v M1 h1
                have a := run_mono _ _ _ _ _ _ _ _ h1
                have b := ih _ _ _ _ _ _ h
                exact ⟨Nat.le_trans a.1 b.1, Nat.le_trans a.2 b.2⟩
              · cases h
          · split at h
            · rename_i he
              have a := ex_mono he
              have b := ih _ _ _ _ _ _ h
              exact ⟨Nat.le_trans a.1 b.1, Nat.le_trans a.2 b.2⟩
            · cases h
        · cases h
      · cases h
theorem runT_ok : ∀ (stop f d pc : Nat) (ls : Loc1) (st : List PV) (M : Mem) (ls' : Loc1) (M' : Mem), runT 0 stop f d pc ls st M = some (ls', M') →
    ∀ {p : Program} {l : Launch} {e : Env} {R : Room} {s : State} {m : MethodId} {args : Array Value} {below : List Frame} {meth : Method} {c : Code} {H : Heap} {locs : List Loc} {cells slots : Nat} {Q : State → Prop} {π : Par} {L : Nat} {xs : Nat → Int32} {D : va_G} {cA : Nat → ClassId} {La : Array Slot},
    At1 p s m args meth c R 0 π L xs D cA M H locs cells slots La ls → d + 1 ≤ R.frames → 40 * (d + 1) ≤ R.locals → cells + (mX M' - mX M) ≤ R.cells ∧ slots + (mS M' - mS M) ≤ R.slots → mX M' ≤ kA →
    (∀ (H' : Heap) (locs' : List Loc) (La' : Array Slot), At1 p s m args meth c R 0 π L xs D cA M' H' locs' (cells + (mX M' - mX M)) (slots + (mS M' - mS M)) La' ls' →
      W p l e R s m args below meth c H' locs' (cells + (mX M' - mX M)) (slots + (mS M' - mS M)) Q (F0 m stop La' [])) →
    W p l e R s m args below meth c H locs cells slots Q (F0 m pc La (st.map (rv π))) := by
  intro stop f
  induction f with
  | zero => intro d pc ls st M ls' M' h; simp [runT] at h
  | succ f IH =>
    intro d pc ls st M ls' M' h p l e R s m args below meth c H locs cells slots Q π L xs D cA La A hfr hlo hroom hka hst
    unfold runT at h
    split at h
    · rename_i hs
      cases h
      have he : st = [] := List.isEmpty_iff.mp hs.2
      subst he
      have := hst H locs La (by simpa using A)
      rw [hs.1]
      simpa using this
    · split at h
      · rename_i i n hd
        split at h
        · rename_i hn
          split at h
          · rename_i y' as rest hcal
            split at h
            · cases h
            · rename_i d'
              split at h
              · rename_i v1 M1 hr1
                have hm1 := run_mono _ _ _ _ _ _ _ _ hr1
                have hm2 := runT_mono _ _ _ _ _ _ _ _ _ h
                simp only at hm1 hm2
                refine call_sound A hd hn hcal (v1 := v1) (M1 := M1) (mc := mX M1 - mX M) (ms := mS M1 - mS M) (d' := d') (fun h1 h2 h3 => met_of (run_ok f) hr1 h1 h2 h3 (by omega)) hfr hlo ⟨by omega, by omega⟩ (fun H1 locs1 hrel1 hS1 => ?_)
                have hA1 : At1 p s m args meth c R 0 π L xs D cA M1 H1 locs1 (cells + (mX M1 - mX M)) (slots + (mS M1 - mS M)) La ls := by
                  obtain ⟨hF, hrel, hS, hl, hcs, h1, h2⟩ := A
                  refine ⟨hF, hrel1, hS1, hl, ?_, h1, h2⟩
                  have := hrel.2.2.1.1
                  omega
                refine IH (d' + 1) (pc + 3) ls (psh v1 rest) M1 ls' M' h hA1 hfr hlo ⟨by omega, by omega⟩ hka ?_
                intro H' locs' La' hA'
                rw [show cells + (mX M1 - mX M) + (mX M' - mX M1) = cells + (mX M' - mX M) by omega, show slots + (mS M1 - mS M) + (mS M' - mS M1) = slots + (mS M' - mS M) by omega] at hA' ⊢
                exact hst H' locs' La' hA'
              · cases h
          · rename_i hcal
            split at h
            · rename_i pc' ls1 st1 M1 he
              have hm1 := ex_mono he
              have hm2 := runT_mono _ _ _ _ _ _ _ _ _ h
              simp only at hm1 hm2
              refine ex_sound A (by decide +kernel) hd hn he (by show mX M1 ≤ kA; omega) ⟨by show cells + (mX M1 - mX M) ≤ _; omega, by show slots + (mS M1 - mS M) ≤ _; omega⟩ (fun H1 locs1 La1 hrel1 hS1 hl1 => ?_)
              have hA1 : At1 p s m args meth c R 0 π L xs D cA M1 H1 locs1 (cells + (mX M1 - mX M)) (slots + (mS M1 - mS M)) La1 ls1 := by
                obtain ⟨hF, hrel, hS, hl, hcs, h1, h2⟩ := A
                refine ⟨hF, hrel1, hS1, hl1, ?_, h1, h2⟩
                have := hrel.2.2.1.1
                omega
              show W p l e R s m args below meth c H1 locs1 (cells + (mX M1 - mX M)) (slots + (mS M1 - mS M)) Q (F0 m pc' La1 (st1.map (rv π)))
              refine IH d pc' ls1 st1 M1 ls' M' h hA1 hfr hlo ⟨by omega, by omega⟩ hka ?_
              intro H' locs' La' hA'
              rw [show cells + (mX M1 - mX M) + (mX M' - mX M1) = cells + (mX M' - mX M) by omega, show slots + (mS M1 - mS M) + (mS M' - mS M1) = slots + (mS M' - mS M) by omega] at hA' ⊢
              exact hst H' locs' La' hA'
            · cases h
        · cases h
      · cases h
/-! ===== what holds at first ===== -/
def M0 (φ : Int32) (L : Nat) (xs : Nat → Int32) : Mem :=
  (fun a j => if a = 1 then xs j else if kA ≤ a then mIc φ (a - kA) j else 0, fun _ _ => 0, fun a j => if kA ≤ a then mRc (a - kA) j else 0, fun a => if a = 1 then 13 else if kA ≤ a then mKc (a - kA) else 99, fun a => if a = 1 then L else if kA ≤ a then mNc (a - kA) else 0, 2, 0)
def L0 : Loc1 := some (vr 1) :: List.replicate 18 none
theorem mKc_ge : ∀ o, 19 ≤ mKc o := by
  intro o
  unfold mKc
  split
  · split <;> omega
  · split <;> omega
theorem M0_co {φ : Int32} {L : Nat} {xs : Nat → Int32} : CoM φ (M0 φ L xs) := by
  refine ⟨fun o => ⟨?_, ?_, fun j => ?_, fun j => ?_⟩, fun r hr => ?_⟩
  · show (if kA + o = 1 then 13 else if kA ≤ kA + o then mKc (kA + o - kA) else 99) = _
    rw [if_neg (show ¬ kA + o = 1 by have : kA = 1000000 := rfl; omega), if_pos (Nat.le_add_right _ _), Nat.add_sub_cancel_left]
  · show (if kA + o = 1 then L else if kA ≤ kA + o then mNc (kA + o - kA) else 0) = _
    rw [if_neg (show ¬ kA + o = 1 by have : kA = 1000000 := rfl; omega), if_pos (Nat.le_add_right _ _), Nat.add_sub_cancel_left]
  · show (if kA + o = 1 then xs j else if kA ≤ kA + o then mIc φ (kA + o - kA) j else 0) = _
    rw [if_neg (show ¬ kA + o = 1 by have : kA = 1000000 := rfl; omega), if_pos (Nat.le_add_right _ _), Nat.add_sub_cancel_left]
  · show (if kA ≤ kA + o then mRc (kA + o - kA) j else 0) = _
    rw [if_pos (Nat.le_add_right _ _), Nat.add_sub_cancel_left]
  · have e : mK (M0 φ L xs) r = if r = 1 then 13 else if kA ≤ r then mKc (r - kA) else 99 := rfl
    rw [e] at hr
    by_cases h : kA ≤ r
    · exact h
    · rw [if_neg h] at hr
      split at hr <;> omega
theorem M0_kind {φ : Int32} {L : Nat} {xs : Nat → Int32} {r : Nat} (h : mK (M0 φ L xs) r ≤ 18) : r = 1 := by
  have e : mK (M0 φ L xs) r = if r = 1 then 13 else if kA ≤ r then mKc (r - kA) else 99 := rfl
  rw [e] at h
  by_cases h1 : r = 1
  · exact h1
  · rw [if_neg h1] at h
    split at h
    · have := mKc_ge (r - kA); omega
    · omega
theorem rel_M0 {π : Par} {D : va_G} {cA : Nat → ClassId} {L : Nat} {xs : Nat → Int32} {H : Heap} (hP : va_P D vwCl (pG π) H) (hH : H.size = pE π) (hG : GaM π) : Rel π D cA L xs (M0 (pF π) L xs) H := by
  refine ⟨?_, by rw [hH]; rfl, ⟨Nat.le_refl _, by show 2 ≤ kA; decide⟩, fun r hr => ?_, rfl, rfl, fun j => rfl, M0_co, fun r hr j => ?_, hG⟩
  · have : wsM π cA (M0 (pF π) L xs) = [] := rfl
    rw [this, List.append_nil]; exact hP
  · have := M0_kind hr
    subst this
    exact ⟨Nat.le_refl _, by show 1 < 2; omega⟩
  · have := M0_kind (by omega : mK (M0 (pF π) L xs) r ≤ 18)
    subst this
    have : mK (M0 (pF π) L xs) 1 = 13 := rfl
    omega
/-- what is behind is used no more: the next piece of the law begins with a memory of its own -/
def nextP (π : Par) (cA : Nat → ClassId) (M : Mem) : Par := (pK π, pB π, pA π, pE π + (mX M - 2), pG π ++ wsM π cA M, pF π)
theorem LSt_L0 {π π' : Par} {n : Nat} {La : Array Slot} (hB : pB π' = pB π) (h : LSt π n La L0) : LSt π' n La L0 := by
  obtain ⟨lv, h1, h2, h3⟩ := h
  refine ⟨lv, h1, h2, fun i v hi hl => ?_⟩
  have hv : v = vr 1 := by
    unfold L0 at hi
    cases i with
    | zero => simp at hi; exact hi.symm
    | succ i =>
      rw [List.getElem?_cons_succ, List.getElem?_replicate] at hi
      split at hi <;> cases hi
  subst hv
  have := h3 i (vr 1) hi hl
  have e : rv π' (vr 1) = rv π (vr 1) := by
    show va_rf (some (pB π')) = va_rf (some (pB π)); rw [hB]
  rw [e]; exact this
theorem at_next {p : Program} {R : Room} {s : State} {m : MethodId} {args : Array Value} {meth : Method} {c : Code} {H : Heap} {locs : List Loc} {cells slots : Nat} {π : Par} {L : Nat} {xs : Nat → Int32} {D : va_G} {cA : Nat → ClassId} {M : Mem} {La : Array Slot} (A : At1 p s m args meth c R 0 π L xs D cA M H locs cells slots La L0) :
    At1 p s m args meth c R 0 (nextP π cA M) L xs D cA (M0 (pF π) L xs) H locs cells slots La L0 := by
  obtain ⟨⟨hx, hb, hml, hts, hown, hK, hgv, hks, hini, hbase⟩, hrel, hS, hl, hcs, h1, h2⟩ := A
  refine ⟨⟨hx, hb, hml, hts, hown, hK, hgv, hks, hini, hbase⟩, ?_, hS, LSt_L0 (π := π) rfl hl, ?_, h1, h2⟩
  · refine rel_M0 (π := nextP π cA M) hrel.1 hrel.2.1 ⟨?_, fun j x hx => ws_at hrel.2.2.2.2.2.2.2.2.2 hx⟩
    show pE π + (mX M - 2) = pA π + (pG π ++ wsM π cA M).length
    rw [ws_len, hrel.2.2.2.2.2.2.2.2.2.1]; omega
  · show s.heap.size + cells = pE π + (mX M - 2) + (2 - 2)
    omega
