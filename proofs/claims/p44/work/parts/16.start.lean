/-! ===== the claim's start, out of the evaluator's answer ===== -/
theorem gv_neg : ∀ a, a ∈ [0, 1, 2, 5, 6, 7, 8, 10] → ∀ k, k ∈ [0, 1, 2, 5, 6, 7, 10] → subK a k = false → Jvm.Cond.not (Jvm.Cond.castable (clC a) (clC k)) ∈ flatC (Jvm.Cond.and given_1 narrow_1) := by decide +kernel
theorem gv_in : ∀ w ∈ gvW, w ∈ lw_tbl := by decide +kernel
theorem ao_in8 : Jvm.Cond.arrayOver (.object RX8) ∈ lw_tbl := by decide +kernel
theorem ao_in9 : Jvm.Cond.arrayOver (.object RX9) ∈ lw_tbl := by decide +kernel
theorem ao_inI : Jvm.Cond.arrayOver (.array .int) ∈ lw_tbl := by decide +kernel
def M0 (L : Nat) (xs : Nat → Int32) : Mem := (fun a j => if a = 1 then xs j else 0, fun _ _ => 0, fun _ _ => 0, fun a => if a = 1 then 13 else 99, fun a => if a = 1 then L else 0, 2, 0)
theorem ao_cls {s : State} {C : String} (h : (Jvm.Cond.arrayOver (.object C)).before #[] s = true) : ∃ c : ClassId, ArrOfT s c (.object C) ∧ va_RA s c (.object C) := by
  obtain ⟨comp, c, k, h1, h2, h3, h4, h5⟩ := Cond.arrayOver_spec h
  exact ⟨c, fun N z => ⟨(fun q hq => by cases hq), k, h3, comp, h4⟩, k, comp, h3, h4, h1, h5⟩
theorem ao_clsI {s : State} (h : (Jvm.Cond.arrayOver (.array .int)).before #[] s = true) : ∃ c : ClassId, ArrOfT s c (.array .int) ∧ va_RA s c (.array .int) := by
  obtain ⟨comp, c, k, h1, h2, h3, h4, h5⟩ := arrayOverA_spec h
  exact ⟨c, fun N z => ⟨(fun q hq => by cases hq), k, h3, comp, h4⟩, h5⟩
theorem ac_cls {s : State} {args : Array Value} {t : FieldType} (h : (Jvm.Cond.arrayClass t).before args s = true) (ho : ∀ C, t ≠ .object C) : ∃ c : ClassId, ArrOfT s c t ∧ va_RA s c t := by
  obtain ⟨c, k, comp, h1, h2, h3⟩ := Cond.arrayClass_spec h
  refine ⟨c, fun N z => ⟨(fun q hq => by cases hq), k, h2, comp, h3⟩, ?_⟩
  cases t <;> first | exact h1 | exact absurd rfl (ho _)
theorem tab_in {w : Jvm.Cond} {s : State} {b : Nat} (hts : ∀ w ∈ lw_tbl, w.before #[Value.ref b] s = true) (h : w ∈ lw_tbl) : w.before #[Value.ref b] s = true := hts w h
set_option maxHeartbeats 4000000 in
theorem start_of (hEv : ∀ (L : Nat) (xs : Nat → Int32), L ≤ 3072 → ∃ (f : Nat) (M' : Mem), run f 1500 0 0 [some (vr 1), none, none, none] [] (M0 L xs) = some (some (vi 1), M') ∧ mX M' ≤ 600002 ∧ mS M' ≤ 7302250)
    {p : Program} {e : Env} {s : State} {m : MethodId} {below : List Frame} {meth : Method} {c : Code} (l : Launch) {b L : Nat} {xs : Nat → Int32} (hL : L ≤ 3072) (C0 : lw_At p s m meth c b L xs) : W p l e room_1 s m #[Value.ref b] below meth c s.heap [] 0 0 (lw_Z below #[Value.ref b] s) (entryFrame m ([Value.ref b] : List Value).toArray 4) := by
  obtain ⟨hx, hb, hr, hml, hown, hts0, hX, hbl, hlocks, hgv0⟩ := id C0
  have hts : ∀ w ∈ TS, w.before #[Value.ref b] s = true := fun w hw => hts0 w (ts_in w hw).1
  obtain ⟨c0, iS0, hKn0⟩ := u_known (C := RX0) (T := TX0) (N := 3) (n := 3) hts ts_wsX00 (hts _ (nwT_w0))
  obtain ⟨c1, iS1, hKn1⟩ := u_known (C := RX1) (T := TX1) (N := 3) (n := 3) hts ts_wsX10 (hts _ (nwT_w1))
  obtain ⟨c2, iS2, hKn2⟩ := u_known (C := RX2) (T := TX2) (N := 3) (n := 3) hts ts_wsX20 (hts _ (nwT_w2))
  obtain ⟨c3, iS3, hKn3⟩ := u_known (C := RX3) (T := TX3) (N := 9) (n := 9) hts ts_wsX30 (hts _ (nwT_w3))
  obtain ⟨c4, iS4, hKn4⟩ := u_known (C := RX4) (T := TX4) (N := 11) (n := 11) hts ts_wsX40 (hts _ (nwT_w4))
  obtain ⟨c5, iS5, hKn5⟩ := u_known (C := RX5) (T := TX5) (N := 3) (n := 3) hts ts_wsX50 (hts _ (nwT_w5))
  obtain ⟨c6, iS6, hKn6⟩ := u_known (C := RX6) (T := TX6) (N := 3) (n := 3) hts ts_wsX60 (hts _ (nwT_w6))
  obtain ⟨c7, iS7, hKn7⟩ := u_known (C := RX7) (T := TX7) (N := 3) (n := 3) hts ts_wsX70 (hts _ (nwT_w7))
  obtain ⟨c8, iS8, hKn8⟩ := u_known (C := RX8) (T := TX8) (N := 3) (n := 3) hts ts_wsX80 (hts _ (nwT_w8))
  obtain ⟨c9, iS9, hKn9⟩ := u_known (C := RX9) (T := TX9) (N := 4) (n := 4) hts ts_wsX90 (hts _ (nwT_w9))
  obtain ⟨c10, iS10, hKn10⟩ := u_known (C := RX10) (T := TX10) (N := 3) (n := 3) hts ts_wsX100 (hts _ (nwT_w10))
  obtain ⟨c11, iS11, hKn11⟩ := u_known (C := RX11) (T := TX11) (N := 17) (n := 17) hts ts_wsX110 (hts _ (nwT_w11))
  obtain ⟨c12, iS12, hKn12⟩ := u_known (C := RX12) (T := TX12) (N := 48) (n := 48) hts ts_wsX120 (hts _ (nwT_w12))
  let dC : Nat → ClassId := fun k => [c0, c1, c2, c3, c4, c5, c6, c7, c8, c9, c10, c11, c12].getD k c0
  let dI : Nat → Nat → Nat := fun k => [iS0, iS1, iS2, iS3, iS4, iS5, iS6, iS7, iS8, iS9, iS10, iS11, iS12].getD k iS0
  have hKc : ∀ (k : Nat) (q : vw_C), vwCl[k]? = some q → u_Kn s q.1 q.2.1 q.2.2 (dC k) (dI k) := by
    intro k q hq
    match k, hq with
    | 0, hq => cases hq; exact hKn0
    | 1, hq => cases hq; exact hKn1
    | 2, hq => cases hq; exact hKn2
    | 3, hq => cases hq; exact hKn3
    | 4, hq => cases hq; exact hKn4
    | 5, hq => cases hq; exact hKn5
    | 6, hq => cases hq; exact hKn6
    | 7, hq => cases hq; exact hKn7
    | 8, hq => cases hq; exact hKn8
    | 9, hq => cases hq; exact hKn9
    | 10, hq => cases hq; exact hKn10
    | 11, hq => cases hq; exact hKn11
    | 12, hq => cases hq; exact hKn12
    | k + 13, hq => simp [vwCl] at hq
  have hao8 : va_AO RX8 s := va_AO.of (hts0 _ ao_in8)
  have hao9 : va_AO RX9 s := va_AO.of (hts0 _ ao_in9)
  have haoI : (Jvm.Cond.arrayOver (.array .int)).before #[] s = true := hts0 _ ao_inI
  obtain ⟨k13, hk13⟩ := ac_cls (hts _ ac_int) (fun C h => by cases h)
  obtain ⟨k14, hk14⟩ := ac_cls (hts _ ac_long) (fun C h => by cases h)
  obtain ⟨k15, hk15⟩ := ao_cls hao8
  obtain ⟨k16, hk16⟩ := ao_cls hao9
  obtain ⟨k17, hk17⟩ := ao_clsI haoI
  let cA : Nat → ClassId := fun k => [k13, k14, k15, k16, k17].getD (k - 13) k13
  have hK : va_K (dC, dI) vwCl (tysM cA) s := by
    refine ⟨hKc, fun k q hq => ?_⟩
    match k, hq with
    | 0, hq => cases hq; exact hk13
    | 1, hq => cases hq; exact hk14
    | 2, hq => cases hq; exact hk15
    | 3, hq => cases hq; exact hk16
    | 4, hq => cases hq; exact hk17
    | k + 5, hq => simp [tysM] at hq
  have hGV : GV s := by
    refine ⟨fun w hw => ?_, fun a ha k hk hs => va_Nc.of (flat_of_before _ hgv0 _ (gv_neg a ha k hk hs)), hao8, hao9, haoI⟩
    have h1 := hts0 w (gv_in w hw)
    rcases gvW_form w hw with ⟨a, i, x, hh, rfl⟩ | ⟨C, T, rfl⟩
    · exact va_Nw.of rfl h1
    · exact va_Nw.of rfl h1
  obtain ⟨f, M', hrun, hmx, hms⟩ := hEv L xs hL
  have hP0 : va_P (dC, dI) vwCl (wsM b s.heap.size cA (M0 L xs)) s.heap := fun k q h => by
    have : wsM b s.heap.size cA (M0 L xs) = [] := rfl
    rw [this] at h; simp at h
  have hrel : Rel b s.heap.size (dC, dI) cA L xs (M0 L xs) s.heap := by
    refine ⟨hP0, rfl, Nat.le_refl _, fun r hr => ?_, rfl, rfl, fun j => rfl⟩
    have : mK (M0 L xs) r = if r = 1 then 13 else 99 := rfl
    rw [this] at hr
    split at hr
    · rename_i h; subst h; exact ⟨Nat.le_refl _, by show 1 < 2; omega⟩
    · omega
  rw [lg_entry_eq]
  have hl : LSt b s.heap.size 4 ((lg_sl [Value.ref b] ++ List.replicate (4 - (lg_sl [Value.ref b]).length) Slot.unset).toArray) [some (vr 1), none, none, none] := LSt.entry b s.heap.size (as := [vr 1]) (n := 4) (by decide)
  have hA : At1 p s m #[Value.ref b] meth c room_1 0 b s.heap.size L xs (dC, dI) cA (M0 L xs) s.heap [] 0 0 ((lg_sl [Value.ref b] ++ List.replicate (4 - (lg_sl [Value.ref b]).length) Slot.unset).toArray) [some (vr 1), none, none, none] :=
    ⟨⟨hx, hb, hml, hts, hown, hK, hGV, fun _ => ⟨hX, hbl, hbl⟩, fun h => absurd h (by decide +kernel), Nat.le_refl _⟩, hrel, va_S.rf, hl, rfl, by decide, by decide⟩
  refine run_ok f 1500 0 0 _ [] (M0 L xs) (some (vi 1)) M' hrun rfl hA (by decide) (by decide) ⟨by show 0 + (mX M' - 2) ≤ 600000; omega, by show 0 + (mS M' - 0) ≤ 7302250; omega⟩ ?_
  intro i n pc' st' H' locs' La' hd hn hf hrel' hS'
  have hd : decode code pc' = .ok (i, n) := hd
  unfold fin at hf
  have hfin : i = .ireturn ∧ st' = [vi 1] := by
    split at hf
    · rename_i x
      split at hf
      · cases hf; exact ⟨rfl, rfl⟩
      · split at hf
        · cases hf; exact ⟨rfl, rfl⟩
        · cases hf
      · cases hf
    · split at hf <;> cases hf
    · split at hf
      · split at hf <;> cases hf
      · cases hf
    · split at hf <;> cases hf
    · cases hf
  obtain ⟨rfl, rfl⟩ := hfin
  simp only [okN, beq_iff_eq] at hn
  subst hn
  refine va_forget (fun q hq => hS'.2.2 q hq) (W.widen (k := 600000) (n := 7302250) (by show 0 + (mX M' - 2) ≤ 600000; omega) (by show 0 + (mS M' - 0) ≤ 7302250; omega) ?_)
  exact lw_ret hx hb hr hlocks hd
