def segP (k : Nat) : Nat := [0, 15, 28, 41, 56, 73, 90].getD k 0
set_option maxHeartbeats 4000000 in
theorem segs {φ : Int32} {L : Nat} {xs : Nat → Int32} (hEv : (∀ k, k < 6 → ∃ (f : Nat) (M' : Mem), runT 0 (segP (k + 1)) f 1500 (segP k) L0 [] (M0 φ L xs) = some (L0, M') ∧ mX M' ≤ 120 ∧ mS M' ≤ 10000) ∧ ∃ (f : Nat) (M' : Mem), run f 1500 0 (segP 6) L0 [] (M0 φ L xs) = some (some (vi 1), M') ∧ mX M' ≤ 20000 ∧ mS M' ≤ 200000)
    {p : Program} {l : Launch} {e : Env} {s : State} {m : MethodId} {below : List Frame} {meth : Method} {c : Code} {b : Nat} {D : va_G} {cA : Nat → ClassId} (hx : p.tables.exec = Jvm.exec) (hb : c.code = code) (hr : meth.sig.returnType = ret) (hlocks : meth.locks = false) :
    ∀ (n : Nat), n ≤ 6 → ∀ {H : Heap} {locs : List Loc} {cells slots : Nat} {π : Par} {La : Array Slot}, pF π = φ → pA π = s.heap.size → At1 p s m #[Value.ref b] meth c room_1 0 π L xs D cA (M0 φ L xs) H locs cells slots La L0 → cells + 118 * n + 20000 ≤ room_1.cells → slots + 10000 * n + 200000 ≤ room_1.slots →
      W p l e room_1 s m #[Value.ref b] below meth c H locs cells slots (lw_Z below #[Value.ref b] s) (F0 m (segP (6 - n)) La []) := by
  have hkA : kA = 1000000 := rfl
  intro n
  induction n with
  | zero =>
    intro _ H locs cells slots π La hφ hA0 A hc hs
    obtain ⟨f, M', hrun, hmx, hms⟩ := hEv.2
    refine run_ok f 1500 0 (segP 6) L0 [] (M0 φ L xs) (some (vi 1)) M' hrun (by decide +kernel) A (by show 1500 + 1 ≤ 2048; omega) (by show 40 * (1500 + 1) ≤ 84000; omega) ⟨by show cells + (mX M' - 2) ≤ room_1.cells; omega, by show slots + (mS M' - 0) ≤ room_1.slots; omega⟩ (by omega) ?_
    intro i n pc' st' H' locs' La' hd hn hf hrel' hS'
    have hd : decode code pc' = .ok (i, n) := hd
    unfold fin at hf
    have hT : mT 0 = some .boolean := rfl
    rw [hT] at hf
    have hfin : i = .ireturn ∧ st' = [vi 1] := by
      split at hf
      · rename_i x
        simp only at hf
        split at hf
        · cases hf; exact ⟨rfl, rfl⟩
        · cases hf
      all_goals cases hf
    obtain ⟨rfl, rfl⟩ := hfin
    simp only [okN, beq_iff_eq] at hn
    subst hn
    refine va_forget (fun q hq => by have := hS'.2.2 q hq; rw [hA0] at this; exact this) (W.widen (k := room_1.cells) (n := room_1.slots) (by show cells + (mX M' - 2) ≤ room_1.cells; omega) (by show slots + (mS M' - 0) ≤ room_1.slots; omega) ?_)
    exact lw_ret hx hb hr hlocks hd
  | succ n ih =>
    intro hn H locs cells slots π La hφ hA0 A hc hs
    obtain ⟨f, M', hrun, hmx, hms⟩ := hEv.1 (6 - (n + 1)) (by omega)
    rw [show 6 - (n + 1) + 1 = 6 - n by omega] at hrun
    refine runT_ok _ f 1500 _ L0 [] (M0 φ L xs) L0 M' hrun A (by show 1500 + 1 ≤ 2048; omega) (by show 40 * (1500 + 1) ≤ 84000; omega) ⟨by show cells + (mX M' - 2) ≤ room_1.cells; omega, by show slots + (mS M' - 0) ≤ room_1.slots; omega⟩ (by omega) ?_
    intro H' locs' La' A'
    have A2 := at_next A'
    rw [hφ] at A2
    exact ih (by omega) (π := nextP π cA M') hφ hA0 A2 (by show cells + (mX M' - 2) + _ + _ ≤ _; omega) (by show slots + (mS M' - 0) + _ + _ ≤ _; omega)
set_option maxHeartbeats 4000000 in
theorem start_of (hEv : ∀ (φ : Int32) (L : Nat) (xs : Nat → Int32), L ≤ 260 → (∀ k, k < 6 → ∃ (f : Nat) (M' : Mem), runT 0 (segP (k + 1)) f 1500 (segP k) L0 [] (M0 φ L xs) = some (L0, M') ∧ mX M' ≤ 120 ∧ mS M' ≤ 10000) ∧ ∃ (f : Nat) (M' : Mem), run f 1500 0 (segP 6) L0 [] (M0 φ L xs) = some (some (vi 1), M') ∧ mX M' ≤ 20000 ∧ mS M' ≤ 200000)
    {p : Program} {e : Env} {s : State} {m : MethodId} {below : List Frame} {meth : Method} {c : Code} (l : Launch) {b L : Nat} {xs : Nat → Int32} (hL : L ≤ 260) (C0 : lw_At p s m meth c b L xs) : W p l e room_1 s m #[Value.ref b] below meth c s.heap [] 0 0 (lw_Z below #[Value.ref b] s) (entryFrame m ([Value.ref b] : List Value).toArray 19) := by
  obtain ⟨hx, hb, hr, hml, hown, hts0, hX, hbl, hlocks, hgv0⟩ := id C0
  have htb := tb2_ok hts0
  have hts : ∀ w ∈ TS, w.before #[Value.ref b] s = true := fun w hw => htb w (ts_in w hw).1
  obtain ⟨κ, φ, hks⟩ := ks_start hX hbl hts0 hgv0
  obtain ⟨c0, iS0, hKn0⟩ := u_known (C := RJ4) (T := TJ4) (N := 4) (n := 4) hts ts_wsJ40 (hts _ (nwT_w0))
  obtain ⟨c1, iS1, hKn1⟩ := u_known (C := RJ0) (T := TJ0) (N := 4) (n := 4) hts ts_wsJ00 (hts _ (nwT_w1))
  obtain ⟨c3, iS3, hKn3⟩ := u_known (C := RX3) (T := TX3) (N := 9) (n := 9) hts ts_wsX30 (hts _ (nwT_w3))
  obtain ⟨c4, iS4, hKn4⟩ := u_known (C := RX4) (T := TX4) (N := 11) (n := 11) hts ts_wsX40 (hts _ (nwT_w4))
  obtain ⟨c9, iS9, hKn9⟩ := u_known (C := RX9) (T := TX9) (N := 4) (n := 4) hts ts_wsX90 (hts _ (nwT_w9))
  obtain ⟨c11, iS11, hKn11⟩ := u_known (C := RX11) (T := TX11) (N := 17) (n := 17) hts ts_wsX110 (hts _ (nwT_w11))
  let dC : Nat → ClassId := fun k => [c0, c1, c0, c3, c4, c0, c0, c0, c0, c9, c0, c11, c0].getD k c0
  let dI : Nat → Nat → Nat := fun k => [iS0, iS1, iS0, iS3, iS4, iS0, iS0, iS0, iS0, iS9, iS0, iS11, iS0].getD k iS0
  have hKc : ∀ (k : Nat) (q : vw_C), vwCl[k]? = some q → u_Kn s q.1 q.2.1 q.2.2 (dC k) (dI k) := by
    intro k q hq
    match k, hq with
    | 0, hq => cases hq; exact hKn0
    | 1, hq => cases hq; exact hKn1
    | 2, hq => cases hq; exact hKn0
    | 3, hq => cases hq; exact hKn3
    | 4, hq => cases hq; exact hKn4
    | 5, hq => cases hq; exact hKn0
    | 6, hq => cases hq; exact hKn0
    | 7, hq => cases hq; exact hKn0
    | 8, hq => cases hq; exact hKn0
    | 9, hq => cases hq; exact hKn9
    | 10, hq => cases hq; exact hKn0
    | 11, hq => cases hq; exact hKn11
    | 12, hq => cases hq; exact hKn0
    | k + 13, hq => simp [vwCl] at hq
  have hao8 : va_AO RX8 s := va_AO.of (hts0 _ ao_in8)
  have hao9 : va_AO RX9 s := va_AO.of (hts0 _ ao_in9)
  have haoI : (Jvm.Cond.arrayOver (.array .int)).before #[] s = true := hts0 _ ao_inI
  obtain ⟨k13, hk13⟩ := ac_cls (hts _ ac_int) (fun C h => by cases h)
  obtain ⟨k14, hk14⟩ := ac_cls (hts _ ac_long) (fun C h => by cases h)
  obtain ⟨k15, hk15⟩ := ao_cls hao8
  obtain ⟨k16, hk16⟩ := ao_cls hao9
  obtain ⟨k17, hk17⟩ := ao_clsI haoI
  obtain ⟨k18, hk18⟩ := ac_cls (hts _ ac_byte) (fun C h => by cases h)
  let cA : Nat → ClassId := fun k => [k13, k14, k15, k16, k17, k18].getD (k - 13) k13
  have hK : va_K (dC, dI) vwCl (tysM cA) s := by
    refine ⟨hKc, fun k q hq => ?_⟩
    match k, hq with
    | 0, hq => cases hq; exact hk13
    | 1, hq => cases hq; exact hk14
    | 2, hq => cases hq; exact hk15
    | 3, hq => cases hq; exact hk16
    | 4, hq => cases hq; exact hk17
    | 5, hq => cases hq; exact hk18
    | k + 6, hq => simp [tysM] at hq
  have hGV : GV s := by
    refine ⟨fun w hw => ?_, hao8, hao9, haoI⟩
    have h1 := hts0 w (gv_in w hw)
    rcases gvW_form w hw with ⟨a, i, x, hh, rfl⟩ | ⟨C, T, rfl⟩
    · exact va_Nw.of rfl h1
    · exact va_Nw.of rfl h1
  have hrel : Rel (κ, b, s.heap.size, s.heap.size, [], φ) (dC, dI) cA L xs (M0 φ L xs) s.heap :=
    rel_M0 (π := (κ, b, s.heap.size, s.heap.size, [], φ)) (fun k q h => by simp [pG] at h) rfl ⟨rfl, fun j x hx => by simp [pG] at hx⟩
  rw [lg_entry_eq]
  have hl : LSt (κ, b, s.heap.size, s.heap.size, [], φ) 19 ((lg_sl [Value.ref b] ++ List.replicate (19 - (lg_sl [Value.ref b]).length) Slot.unset).toArray) L0 := LSt.entry (κ, b, s.heap.size, s.heap.size, [], φ) (as := [vr 1]) (n := 19) (by decide)
  have hA : At1 p s m #[Value.ref b] meth c room_1 0 (κ, b, s.heap.size, s.heap.size, [], φ) L xs (dC, dI) cA (M0 φ L xs) s.heap [] 0 0 ((lg_sl [Value.ref b] ++ List.replicate (19 - (lg_sl [Value.ref b]).length) Slot.unset).toArray) L0 :=
    ⟨⟨hx, hb, hml, hts, hown, hK, hGV, hks, fun h => absurd h (by decide +kernel), Nat.le_refl _⟩, hrel, va_S.rf, hl, rfl, by decide, by decide⟩
  exact segs (hEv φ L xs hL) hx hb hr hlocks 6 (Nat.le_refl _) rfl rfl hA (by decide) (by decide)
