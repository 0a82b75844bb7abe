/-! ===== the evaluator's instructions, third part: new cells, statics, texts, host members ===== -/
section Ops3
variable {p : Program} {l : Launch} {e : Env} {R : Room} {s : State} {m : MethodId} {args : Array Value} {below : List Frame} {meth : Method} {c : Code} {H : Heap} {locs : List Loc} {cells slots : Nat} {Q : State → Prop}
variable {π : Par} {L : Nat} {xs : Nat → Int32} {D : va_G} {cA : Nat → ClassId} {y pc n : Nat} {La : Array Slot} {ls : Loc1} {st : List PV} {M : Mem} {t : St1}
theorem nw_K {k nn sl : Nat} : mK (nw M k nn sl) (mX M) = k := by simp [mK, nw, up1]
theorem nw_N {k nn sl : Nat} : mN (nw M k nn sl) (mX M) = nn := by simp [mN, nw, up1]
theorem nw_I {k nn sl : Nat} : mI (nw M k nn sl) (mX M) = fun _ => 0 := funext fun i => by simp [mI, nw]
theorem nw_J {k nn sl : Nat} : mJ (nw M k nn sl) (mX M) = fun _ => 0 := funext fun i => by simp [mJ, nw]
theorem nw_R {k nn sl : Nat} : mR (nw M k nn sl) (mX M) = fun _ => 0 := funext fun i => by simp [mR, nw]
/-- behind a making: the address is the next one -/
theorem made (A : At1 p s m args meth c R y π L xs D cA M H locs cells slots La ls) {M' : Mem} {sl q : Nat} {pc' : Nat} {st' : List PV} {e1 : va_E} {H1 : Heap} (hX : mX M' = mX M + 1) (hSl : mS M' = mS M + sl) (hka : mX M' ≤ kA)
    (hK : ∀ r, r ≠ mX M → mK M' r = mK M r) (hN : ∀ r, r ≠ mX M → mN M' r = mN M r) (hI : ∀ r, r ≠ mX M → mI M' r = mI M r) (hJ : ∀ r, r ≠ mX M → mJ M' r = mJ M r) (hR : ∀ r, r ≠ mX M → mR M' r = mR M r) (hk : mK M' (mX M) ≤ 18) (hB : mK M' (mX M) = 18 → ∀ j, byV (mI M' (mX M) j) = mI M' (mX M) j)
    (he : cellE π cA M' (mX M) = e1)
    (hP1 : va_P D vwCl ((pG π ++ wsM π cA M) ++ [(q, e1)]) H1) (hD1 : va_D (fun q => pA π ≤ q) ((pG π ++ wsM π cA M) ++ [(q, e1)])) (hS1 : va_S (fun q => pA π ≤ q) s.heap H1 locs)
    (K : KK p l e R s m args below meth c cells slots Q y π L xs D cA M (pc', ls, vr (mX M) :: st', M')) : W p l e R s m args below meth c H1 locs (cells + 1) (slots + sl) Q (F0 m pc' La (.ref q :: st'.map (rv π))) := by
  obtain ⟨-, ⟨hP, -, ⟨hm2, hmk⟩, hkr, hsk, hsn, hsx, hco, hby, hga⟩, -, hl, hcs, -, -⟩ := id A
  intro T hT X
  have hsz : H1.size ≤ s.heap.size + (cells + 1) := by have := X.heapSize; rw [hT] at this; exact this
  have hlen : (pG π ++ wsM π cA M).length = (pG π).length + (mX M - 2) := ws_len
  have hlast : ((pG π ++ wsM π cA M) ++ [(q, e1)])[(pG π).length + (mX M - 2)]? = some (q, e1) := by rw [List.getElem?_append_right (by omega), hlen]; simp
  have hq1 : q < H1.size := (hP1 _ _ hlast).lt
  have hq2 : pA π ≤ q := hD1.2 _ _ hlast
  have hpe := hga.1
  have hq3 : ∀ j, j < (pG π).length + (mX M - 2) → q ≠ pA π + j := by
    intro j hj heq
    have h0 : j < (pG π ++ wsM π cA M).length := by rw [hlen]; exact hj
    have h1 : (pG π ++ wsM π cA M)[j]? = some ((pG π ++ wsM π cA M)[j]) := List.getElem?_eq_getElem h0
    have h2 := ws_at hga h1
    have h3 : ((pG π ++ wsM π cA M) ++ [(q, e1)])[j]? = some ((pG π ++ wsM π cA M)[j]) := by rw [List.getElem?_append_left h0]; exact h1
    have := hD1.1 _ _ _ _ h3 hlast (by rw [h2, heq])
    omega
  have hq : q = pE π + (mX M - 2) := by
    rcases Nat.lt_or_ge q (pE π + (mX M - 2)) with h | h
    · exact absurd (show q = pA π + (q - pA π) by omega) (hq3 (q - pA π) (by omega))
    · omega
  subst hq
  have hoc : ∀ r, r ≠ mX M → cellE π cA M' r = cellE π cA M r := by
    intro r hr
    have e6 : fvE π M' (mK M r) r = fvE π M (mK M r) r := funext fun i => by unfold fvE; rw [hI r hr, hR r hr]
    unfold cellE
    rw [hK r hr, e6, hN r hr, hI r hr, hJ r hr, hR r hr]
  have hws := ws_push (π := π) (cA := cA) (M := M) (M' := M') hm2 hX (fun q _ h => hoc q (by omega))
  rw [he] at hws
  rw [← hws] at hP1
  have hco' : CoM (pF π) M' := by
    refine ⟨fun o => ?_, fun r hr => ?_⟩
    · obtain ⟨c1, c2, c3, c4⟩ := hco.1 o
      have hne : kA + o ≠ mX M := by omega
      exact ⟨by rw [hK _ hne]; exact c1, by rw [hN _ hne]; exact c2, fun j => by rw [hI _ hne]; exact c3 j, fun j => by rw [hR _ hne]; exact c4 j⟩
    · by_cases hrm : r = mX M
      · rw [hrm] at hr; omega
      · rw [hK r hrm] at hr; exact hco.2 r hr
  have hby' : ByM M' := by
    intro r hr j
    by_cases hrm : r = mX M
    · rw [hrm] at hr ⊢; exact hB hr j
    · rw [hK r hrm] at hr; rw [hI r hrm]; exact hby r hr j
  have hrel : Rel π D cA L xs M' H1 := by
    refine ⟨hP1, by rw [hX]; omega, ⟨by rw [hX]; omega, hka⟩, fun r hr => ?_, by rw [hK 1 (by omega)]; exact hsk, by rw [hN 1 (by omega)]; exact hsn, fun j => by rw [hI 1 (by omega)]; exact hsx j, hco', hby', hga⟩
    rw [hX]
    by_cases hrm : r = mX M
    · omega
    · rw [hK r hrm] at hr
      have := hkr r hr
      omega
  have := K H1 locs La hrel hS1 hl
  have e1 : mX M' - mX M = 1 := by omega
  have e2 : mS M' - mS M = sl := by omega
  simp only [e1, e2, List.map_cons, rv_ref hm2 (show mX M < kA by omega)] at this
  exact this T hT X
section NW
theorem nwK {k nn sl r : Nat} (h : r ≠ mX M) : mK (nw M k nn sl) r = mK M r := by simp [mK, nw, up1, h]
theorem nwN {k nn sl r : Nat} (h : r ≠ mX M) : mN (nw M k nn sl) r = mN M r := by simp [mN, nw, up1, h]
theorem nwI {k nn sl r : Nat} (h : r ≠ mX M) : mI (nw M k nn sl) r = mI M r := funext fun i => by simp [mI, nw, h]
theorem nwJ {k nn sl r : Nat} (h : r ≠ mX M) : mJ (nw M k nn sl) r = mJ M r := funext fun i => by simp [mJ, nw, h]
theorem nwR {k nn sl r : Nat} (h : r ≠ mX M) : mR (nw M k nn sl) r = mR M r := funext fun i => by simp [mR, nw, h]
theorem nwcI {b r : Nat} (h : r ≠ mX M) : mI (nwc M b) r = mI M r := funext fun i => by simp [mI, nwc, h]
theorem nwcIm {b : Nat} : mI (nwc M b) (mX M) = mI M b := funext fun i => by simp [mI, nwc]
end NW
theorem byV_0 : byV 0 = 0 := by decide
theorem so_new {i : Nat} (A : At1 p s m args meth c R y π L xs D cA M H locs cells slots La ls) (hd : decode (mC y) pc = .ok (.new i, 3))
    (he : e_new (mCl y) i pc ls st M = some t) (hka : mX t.2.2.2 ≤ kA) (hroom : cells + (mX t.2.2.2 - mX M) ≤ R.cells ∧ slots + (mS t.2.2.2 - mS M) ≤ R.slots) (K : KK p l e R s m args below meth c cells slots Q y π L xs D cA M t) : W p l e R s m args below meth c H locs cells slots Q (F0 m pc La (st.map (rv π))) := by
  obtain ⟨⟨hx, hb, -, hts, hown, hK, -, -, -, hbase⟩, hrel, hS, -, -, -⟩ := id A
  have hga := hrel.2.2.2.2.2.2.2.2.2
  unfold e_new at he
  split at he
  · rename_i k hk
    cases he
    obtain ⟨h13, hcl, hin, hini⟩ := nwT_ok hk
    obtain ⟨hvc, hws, hty, -, -⟩ := clf k h13
    have e1 : mX (nw M k 0 (nSlots k)) - mX M = 1 := by show mX M + 1 - mX M = 1; omega
    have e2 : mS (nw M k 0 (nSlots k)) - mS M = nSlots k := by show mS M + nSlots k - mS M = nSlots k; omega
    simp only [e1, e2] at hroom
    refine va_new hx hb hts (fun w hw => hws w hw) (clY k) hty hown (hts _ hcl) (hts _ hin) (hts _ hini) hK hrel.1 (ws_D hga) hS (fun q h => Nat.le_trans hbase h) hvc (fs := (List.range (nSlots k)).map (fvE π (nw M k 0 (nSlots k)) k (mX M))) (fun j hj => ?_) hroom.1 hroom.2 hd (fun q H1 hP1 hD1 hS1 => ?_)
    · obtain ⟨hs1, hs2, hs3, hs4⟩ := slotF k h13 j hj
      have : vp_V ((List.range (nSlots k)).map (fvE π (nw M k 0 (nSlots k)) k (mX M))) j = fvE π (nw M k 0 (nSlots k)) k (mX M) j := by simp [vp_V, List.getD, hj]
      rw [this]
      unfold fvE
      rw [nw_R, nw_I]
      cases hr : fRef k j
      · cases hB : fBool k j
        · cases hB2 : fByte k j
          · rw [hs2 hr hB hB2]; rfl
          · rw [hs4 hr hB2]; rfl
        · rw [hs3 hr hB]; rfl
      · have := hs1 hr
        cases ht : clY k j <;> rw [ht] at this <;> simp [refTy] at this <;> rfl
    · refine made A (M' := nw M k 0 (nSlots k)) rfl rfl hka (fun _ h => nwK h) (fun _ h => nwN h) (fun _ h => nwI h) (fun _ h => nwJ h) (fun _ h => nwR h) (by rw [nw_K]; omega) (fun h => by rw [nw_K] at h; omega) ?_ hP1 hD1 hS1 K
      unfold cellE
      rw [nw_K, if_pos h13]
  · cases he
theorem so_nwa {a : ArrayType} (A : At1 p s m args meth c R y π L xs D cA M H locs cells slots La ls) (hd : decode (mC y) pc = .ok (.newarray a, 2))
    (he : e_nwa a pc ls st M = some t) (hka : mX t.2.2.2 ≤ kA) (hroom : cells + (mX t.2.2.2 - mX M) ≤ R.cells ∧ slots + (mS t.2.2.2 - mS M) ≤ R.slots) (K : KK p l e R s m args below meth c cells slots Q y π L xs D cA M t) : W p l e R s m args below meth c H locs cells slots Q (F0 m pc La (st.map (rv π))) := by
  obtain ⟨⟨hx, hb, -, hts, hown, hK, -, -, -, hbase⟩, hrel, hS, -, -, -⟩ := id A
  have hga := hrel.2.2.2.2.2.2.2.2.2
  unfold e_nwa at he
  split at he
  · rename_i n' st'
    split at he
    · rename_i hn
      cases he
      have e1 : mX (nw M 13 (ix n') (ix n')) - mX M = 1 := by show mX M + 1 - mX M = 1; omega
      have e2 : mS (nw M 13 (ix n') (ix n')) - mS M = ix n' := by show mS M + ix n' - mS M = ix n'; omega
      simp only [e1, e2] at hroom
      refine va_newa (atype := .int) (ty := .int) hx hb (hts _ ac_int) rfl hK hrel.1 (ws_D hga) hS (fun q h => Nat.le_trans hbase h) (a0 := (ix n', .inl (fun _ => 0))) (fun cA => rfl) hn.1 rfl (by show ix n' * 4 ≤ 536870912; have := hn.2; omega) hroom.1 hroom.2 hd (fun q cA' H1 hK1 hP1 hD1 hS1 => ?_)
      have h1 := (hK1.2 6 (cA', .int) rfl).2
      have h2 := (hK1.2 0 (cA 13, .int) rfl).2
      have hc : cA' = cA 13 := Option.some.inj ((show s.vm.findClass _ = some cA' from h1).symm.trans h2)
      subst hc
      refine made A (M' := nw M 13 (ix n') (ix n')) rfl rfl hka (fun _ h => nwK h) (fun _ h => nwN h) (fun _ h => nwI h) (fun _ h => nwJ h) (fun _ h => nwR h) (by rw [nw_K]; omega) (fun h => by rw [nw_K] at h; omega) ?_ hP1 hD1 hS1 K
      rw [cell13 nw_K, nw_N, nw_I]
    · cases he
  · rename_i n' st'
    split at he
    · rename_i hn
      cases he
      have e1 : mX (nw M 14 (ix n') (ix n')) - mX M = 1 := by show mX M + 1 - mX M = 1; omega
      have e2 : mS (nw M 14 (ix n') (ix n')) - mS M = ix n' := by show mS M + ix n' - mS M = ix n'; omega
      simp only [e1, e2] at hroom
      refine va_newa (atype := .long) (ty := .long) hx hb (hts _ ac_long) rfl hK hrel.1 (ws_D hga) hS (fun q h => Nat.le_trans hbase h) (a0 := (ix n', .inr (.inl (fun _ => 0)))) (fun cA => rfl) hn.1 rfl (by show ix n' * 8 ≤ 536870912; have := hn.2; omega) hroom.1 hroom.2 hd (fun q cA' H1 hK1 hP1 hD1 hS1 => ?_)
      have h1 := (hK1.2 6 (cA', .long) rfl).2
      have h2 := (hK1.2 1 (cA 14, .long) rfl).2
      have hc : cA' = cA 14 := Option.some.inj ((show s.vm.findClass _ = some cA' from h1).symm.trans h2)
      subst hc
      refine made A (M' := nw M 14 (ix n') (ix n')) rfl rfl hka (fun _ h => nwK h) (fun _ h => nwN h) (fun _ h => nwI h) (fun _ h => nwJ h) (fun _ h => nwR h) (by rw [nw_K]; omega) (fun h => by rw [nw_K] at h; omega) ?_ hP1 hD1 hS1 K
      rw [cell14 nw_K, nw_N, nw_J]
    · cases he
  · rename_i n' st'
    split at he
    · rename_i hn
      cases he
      have e1 : mX (nw M 18 (ix n') (ix n')) - mX M = 1 := by show mX M + 1 - mX M = 1; omega
      have e2 : mS (nw M 18 (ix n') (ix n')) - mS M = ix n' := by show mS M + ix n' - mS M = ix n'; omega
      simp only [e1, e2] at hroom
      refine va_newa (atype := .byte) (ty := .byte) hx hb (hts _ ac_byte) rfl hK hrel.1 (ws_D hga) hS (fun q h => Nat.le_trans hbase h) (a0 := (ix n', .inl (fun _ => 0))) (fun cA => rfl) hn.1 rfl (by show ix n' * 1 ≤ 536870912; have := hn.2; omega) hroom.1 hroom.2 hd (fun q cA' H1 hK1 hP1 hD1 hS1 => ?_)
      have h1 := (hK1.2 6 (cA', .byte) rfl).2
      have h2 := (hK1.2 5 (cA 18, .byte) rfl).2
      have hc : cA' = cA 18 := Option.some.inj ((show s.vm.findClass _ = some cA' from h1).symm.trans h2)
      subst hc
      refine made A (M' := nw M 18 (ix n') (ix n')) rfl rfl hka (fun _ h => nwK h) (fun _ h => nwN h) (fun _ h => nwI h) (fun _ h => nwJ h) (fun _ h => nwR h) (by rw [nw_K]; omega) (fun h j => by rw [nw_I]; exact byV_0) ?_ hP1 hD1 hS1 K
      rw [cell18 nw_K, nw_N, nw_I]
    · cases he
  · cases he
theorem so_anw {i : Nat} (A : At1 p s m args meth c R y π L xs D cA M H locs cells slots La ls) (hd : decode (mC y) pc = .ok (.anewarray i, 3))
    (he : e_anw (mCl y) i pc ls st M = some t) (hka : mX t.2.2.2 ≤ kA) (hroom : cells + (mX t.2.2.2 - mX M) ≤ R.cells ∧ slots + (mS t.2.2.2 - mS M) ≤ R.slots) (K : KK p l e R s m args below meth c cells slots Q y π L xs D cA M t) : W p l e R s m args below meth c H locs cells slots Q (F0 m pc La (st.map (rv π))) := by
  obtain ⟨⟨hx, hb, -, hts, hown, hK, hgv, -, -, hbase⟩, hrel, hS, -, -, -⟩ := id A
  have hga := hrel.2.2.2.2.2.2.2.2.2
  unfold e_anw at he
  split at he
  · rename_i n' st' k hk
    split at he
    · rename_i hn
      cases he
      have e1 : mX (nw M k (ix n') (ix n')) - mX M = 1 := by show mX M + 1 - mX M = 1; omega
      have e2 : mS (nw M k (ix n') (ix n')) - mS M = ix n' := by show mS M + ix n' - mS M = ix n'; omega
      simp only [e1, e2] at hroom
      rcases anT_ok hk with ⟨rfl, hcl⟩ | ⟨rfl, hcl⟩
      · refine va_newq (C := RX8) hx hb hown (hts _ hcl) hgv.2.1 hK hrel.1 (ws_D hga) hS (fun q h => Nat.le_trans hbase h) hn.1 rfl (by have := hn.2; show ix n' * 4 ≤ 536870912; omega) hroom.1 hroom.2 hd (fun q cA' H1 hK1 hP1 hD1 hS1 => ?_)
        obtain ⟨_, _, _, _, _, h1⟩ := (hK1.2 6 (cA', .object RX8) rfl).2
        obtain ⟨_, _, _, _, _, h2⟩ := (hK1.2 2 (cA 15, .object RX8) rfl).2
        have hc : cA' = cA 15 := Option.some.inj (h1.symm.trans h2)
        subst hc
        refine made A (M' := nw M 15 (ix n') (ix n')) rfl rfl hka (fun _ h => nwK h) (fun _ h => nwN h) (fun _ h => nwI h) (fun _ h => nwJ h) (fun _ h => nwR h) (by rw [nw_K]; omega) (fun h => by rw [nw_K] at h; omega) ?_ hP1 hD1 hS1 K
        rw [cellQ nw_K (by omega) (by omega), nw_N, nw_R]; rfl
      · refine va_newq (C := RX9) hx hb hown (hts _ hcl) hgv.2.2.1 hK hrel.1 (ws_D hga) hS (fun q h => Nat.le_trans hbase h) hn.1 rfl (by have := hn.2; show ix n' * 4 ≤ 536870912; omega) hroom.1 hroom.2 hd (fun q cA' H1 hK1 hP1 hD1 hS1 => ?_)
        obtain ⟨_, _, _, _, _, h1⟩ := (hK1.2 6 (cA', .object RX9) rfl).2
        obtain ⟨_, _, _, _, _, h2⟩ := (hK1.2 3 (cA 16, .object RX9) rfl).2
        have hc : cA' = cA 16 := Option.some.inj (h1.symm.trans h2)
        subst hc
        refine made A (M' := nw M 16 (ix n') (ix n')) rfl rfl hka (fun _ h => nwK h) (fun _ h => nwN h) (fun _ h => nwI h) (fun _ h => nwJ h) (fun _ h => nwR h) (by rw [nw_K]; omega) (fun h => by rw [nw_K] at h; omega) ?_ hP1 hD1 hS1 K
        rw [cellQ nw_K (by omega) (by omega), nw_N, nw_R]; rfl
    · cases he
  · cases he
theorem so_gets {k : Nat} (A : At1 p s m args meth c R y π L xs D cA M H locs cells slots La ls) (hd : decode (mC y) pc = .ok (.getstatic k, 3))
    (he : e_gets (gsT (mCl y) k) pc ls st M = some t) (K : KK p l e R s m args below meth c cells slots Q y π L xs D cA M t) : W p l e R s m args below meth c H locs cells slots Q (F0 m pc La (st.map (rv π))) := by
  obtain ⟨⟨hx, hb, -, hts, hown, hK, -, hks, -, -⟩, hrel, hS, -, -, -⟩ := id A
  obtain ⟨-, -, -, -, z0, z1, z2, z3, -⟩ := hks
  cases hg : gsT (mCl y) k with
  | none => rw [hg] at he; unfold e_gets at he; cases he
  | some t0 =>
    rw [hg] at he
    rcases gs_ok hg with ⟨rfl, hl⟩ | ⟨rfl, hl⟩ | ⟨rfl, hl⟩ | ⟨rfl, hl⟩
    · unfold e_gets at he; cases he
      exact va_gets hx hb z0 hS hown (hts _ hl) (fun x h => h) hd (K.stay A)
    · unfold e_gets at he; cases he
      have := K.stay A
      rw [List.map_cons, rv_k] at this
      exact va_gets hx hb z1 hS hown (hts _ hl) (fun x h => h) hd this
    · unfold e_gets at he; cases he
      have := K.stay A
      rw [List.map_cons, rv_k] at this
      exact va_gets hx hb z2 hS hown (hts _ hl) (fun x h => h) hd this
    · unfold e_gets at he; cases he
      refine va_gets hx hb z3 hS hown (hts _ hl) (fun x h => h) hd ?_
      have hf : mI M (kA + 42) 0 = pF π := (hrel.2.2.2.2.2.2.2.1.1 42).2.2.1 0
      have := K.stay A
      rw [hf] at this
      refine cast ?_ this
      by_cases h0 : pF π = 0
      · rw [if_pos h0, if_pos h0]; rfl
      · rw [if_neg h0, if_neg h0, List.map_cons, rv_k]; rfl
theorem so_ldcS {k : Nat} (A : At1 p s m args meth c R y π L xs D cA M H locs cells slots La ls) (hd : decode (mC y) pc = .ok (.ldc k, 2))
    (he : e_ldcS (kI (mCl y) k) (stT (mCl y) k) pc ls st M = some t) (K : KK p l e R s m args below meth c cells slots Q y π L xs D cA M t) : W p l e R s m args below meth c H locs cells slots Q (F0 m pc La (st.map (rv π))) := by
  obtain ⟨⟨hx, hb, -, hts, hown, hK, -, hks, -, -⟩, hrel, hS, -, -, -⟩ := id A
  cases hv : kI (mCl y) k with
  | some v =>
    rw [hv] at he
    unfold e_ldcS at he
    cases he
    exact lv_ldc hx hb hown (hts _ (kI_ok hv)) hd (K.stay A)
  | none =>
    cases hs : stT (mCl y) k with
    | none => rw [hv, hs] at he; unfold e_ldcS at he; cases he
    | some i =>
      rw [hv, hs] at he
      unfold e_ldcS at he
      cases he
      obtain ⟨h13, h16, hk⟩ := st_ok hs
      rw [h13] at hown
      have hown : s.vm.findClass RL = some m.cls := hown
      have := K.stay A
      rw [List.map_cons, rv_k] at this
      subst hk
      exact va_ldcS hx hb hown (hks.2.2.2.2.2.2.2.2 i h16) hd this
theorem so_cast {k : Nat} (A : At1 p s m args meth c R y π L xs D cA M H locs cells slots La ls) (hd : decode (mC y) pc = .ok (.checkcast k, 3))
    (he : e_cast (ccT (mCl y) k) pc ls st M = some t) (K : KK p l e R s m args below meth c cells slots Q y π L xs D cA M t) : W p l e R s m args below meth c H locs cells slots Q (F0 m pc La (st.map (rv π))) := by
  obtain ⟨⟨hx, hb, -, hts, hown, hK, -, -, -, -⟩, hrel, hS, -, -, -⟩ := id A
  unfold e_cast at he
  split at he
  · rename_i r st'
    split at he
    · rename_i hc
      cases he
      obtain ⟨hcc, hk⟩ := hc
      show W p l e R s m args below meth c H locs cells slots Q (F0 m pc La (rv π (vr r) :: st'.map (rv π)))
      obtain ⟨h2, hrx, hrk⟩ := rel_addr hrel (r := r) (by omega) (fun h => by have := hrel.2.2.2.2.1; rw [h] at hk; omega)
      have hg := ws_get (π := π) (cA := cA) h2 hrx
      rw [cell18 hk] at hg
      have := K.stay A
      rw [List.map_cons, rv_ref h2 hrk] at this
      rw [rv_ref h2 hrk]
      exact va_castA hx hb hown (hts _ (cc_ok hcc)) hrel.1 (pL π r) hg (hK.2 5 (cA 18, .byte) rfl).2 hd this
    · cases he
  · cases he
theorem byV_all : (∀ l ∈ bytJ, ∀ b ∈ l, byV b = b) ∧ (∀ b ∈ dgO, byV b = b) ∧ ∀ b ∈ dgT, byV b = b := by decide +kernel
theorem byV_getD {l : List Int32} (h : ∀ b ∈ l, byV b = b) (j : Nat) : byV (l.getD j 0) = l.getD j 0 := by
  by_cases hj : j < l.length
  · have e : l.getD j 0 = l[j] := by simp [List.getD, hj]
    rw [e]; exact h _ (List.getElem_mem hj)
  · have e : l.getD j 0 = 0 := by simp [List.getD, Nat.not_lt.mp hj]
    rw [e]; exact byV_0
theorem const_byV (hrel : Rel π D cA L xs M H) {r : Nat} (hk : mK M r = 19) (j : Nat) : byV (mI M r j) = mI M r j := by
  obtain ⟨o, rfl⟩ := kA_of (hrel.2.2.2.2.2.2.2.1.2 r (Or.inl hk))
  obtain ⟨c1, c2, c3, c4⟩ := hrel.2.2.2.2.2.2.2.1.1 o
  rw [c3 j]
  unfold mIc
  rw [c1] at hk
  unfold mKc at hk
  by_cases h32 : o < 32
  · rw [if_pos h32] at hk ⊢
    split
    · exact byV_0
    · refine byV_getD ?_ j
      by_cases hi : o / 2 < bytJ.length
      · have e : bytJ.getD (o / 2) [] = bytJ[o / 2] := by simp [List.getD, hi]
        rw [e]; exact byV_all.1 _ (List.getElem_mem hi)
      · have e : bytJ.getD (o / 2) [] = [] := by simp [List.getD, Nat.not_lt.mp hi]
        rw [e]; intro b hb; exact absurd hb List.not_mem_nil
  · rw [if_neg h32] at hk ⊢
    by_cases h40 : o = 40
    · rw [if_pos h40]; exact byV_getD byV_all.2.1 j
    · by_cases h41 : o = 41
      · rw [if_neg h40, if_pos h41]; exact byV_getD byV_all.2.2 j
      · rw [if_neg (by omega)] at hk; omega
theorem gv_clone : Cond.castable "[B" "java/lang/Cloneable" ∈ gvW := by decide +kernel
theorem cat_sum (st : List PV) : ((st.map (rv π)).map fun v => v.category).sum ≤ szL st := by
  induction st with
  | nil => simp
  | cons v r ih =>
    have h := rv_cat π v
    rcases v with x | x | x <;> simp only [List.map_cons, List.sum_cons, szL] <;> simp only at h <;> omega
theorem so_cln {k : Nat} (A : At1 p s m args meth c R y π L xs D cA M H locs cells slots La ls) (hd : decode (mC y) pc = .ok (.invokevirtual k, 3))
    (he : e_cln (clT (mCl y) k) pc ls st M = some t) (hka : mX t.2.2.2 ≤ kA) (hroom : cells + (mX t.2.2.2 - mX M) ≤ R.cells ∧ slots + (mS t.2.2.2 - mS M) ≤ R.slots) (K : KK p l e R s m args below meth c cells slots Q y π L xs D cA M t) : W p l e R s m args below meth c H locs cells slots Q (F0 m pc La (st.map (rv π))) := by
  obtain ⟨⟨hx, hb, hml, hts, hown, hK, hgv, -, -, hbase⟩, hrel, hS, hl, hcs, hfr, hlo⟩ := id A
  have hga := hrel.2.2.2.2.2.2.2.2.2
  have hby := hrel.2.2.2.2.2.2.2.2.1
  have hml' : c.maxLocals = La.size := by rw [hml, hl.size]
  unfold e_cln at he
  split at he
  · rename_i r st'
    split at he
    · rename_i hc
      cases he
      obtain ⟨hcc, hk, hlen⟩ := hc
      have hcs2 := cat_sum (π := π) st'
      have e1 : mX (nwc M r) - mX M = 1 := by show mX M + 1 - mX M = 1; omega
      have e2 : mS (nwc M r) - mS M = mN M r := by show mS M + mN M r - mS M = _; omega
      simp only [e1, e2] at hroom
      show W p l e R s m args below meth c H locs cells slots Q (F0 m pc La (rv π (vr r) :: st'.map (rv π)))
      obtain ⟨h2, hrx, hrk⟩ := rel_addr hrel (r := r) (by omega) (fun h => by have := hrel.2.2.2.2.1; rw [h] at hk; omega)
      have hg := ws_get (π := π) (cA := cA) h2 hrx
      rw [cell18 hk] at hg
      rw [rv_ref h2 hrk]
      refine va_clone (ad := "[B") hx hb hml' hown (hts _ (cln_ok hcc)) (hts _ w_cls) (hts _ w_cln2) (hts _ w_cli) (hts _ w_clx) (hgv.1 _ gv_clone) hK hrel.1 (ws_D hga) hS (fun q h => Nat.le_trans hbase h) (pL π r) 5 hg rfl (hK.2 5 (cA 18, .byte) rfl).2 (fun i v hv => ?_) hfr (by omega) hroom.1 hroom.2 hd (fun q H1 hK1 hP1 hD1 hS1 => ?_)
      · rw [vp_cell_i] at hv
        have hlt : i < mN M r := by
          have := (Array.getElem?_eq_some_iff.mp hv).1
          rwa [arrV_size] at this
        rw [arrV_read _ _ hlt] at hv
        cases hv
        exact fits_b (hby r hk i)
      · have hK0 : mK (nwc M r) (mX M) = 18 := nw_K
        have hN0 : mN (nwc M r) (mX M) = mN M r := nw_N
        refine made A (M' := nwc M r) rfl rfl hka (fun _ h => nwK h) (fun _ h => nwN h) (fun _ h => nwcI h) (fun _ h => nwJ h) (fun _ h => nwR h) (by rw [hK0]; omega) (fun _ j => by rw [nwcIm]; exact hby r hk j) ?_ hP1 hD1 hS1 K
        rw [cell18 hK0, hN0, nwcIm]
    · cases he
  · cases he
theorem so_bi {k tb : Nat} (A : At1 p s m args meth c R y π L xs D cA M H locs cells slots La ls) (hd : decode (mC y) pc = .ok (.invokestatic k, 3)) (hbi : biS (mCl y) k = some tb)
    (he : e_bi tb pc ls st M = some t) (hroom : cells ≤ R.cells ∧ slots ≤ R.slots) (K : KK p l e R s m args below meth c cells slots Q y π L xs D cA M t) : W p l e R s m args below meth c H locs cells slots Q (F0 m pc La (st.map (rv π))) := by
  obtain ⟨⟨hx, hb, hml, hts, hown, hK, hgv, hks, -, hbase⟩, hrel, hS, hl, hcs, hfr, hlo⟩ := id A
  have hga := hrel.2.2.2.2.2.2.2.2.2
  have hby := hrel.2.2.2.2.2.2.2.2.1
  obtain ⟨ht4, hlink⟩ := biS_ok hbi
  have hml' : c.maxLocals = La.size := by rw [hml, hl.size]
  unfold e_bi at he
  split at he
  · rename_i t0 st0 n' dp a sp b' r
    split at he
    · rename_i hc
      obtain ⟨h1, h2, h3, h4, h5, ha1, hb1, hkk, hlen⟩ := hc
      have hcs2 := cat_sum (π := π) r
      have hlw : ((r.map (rv π)).map fun v => v.category).sum + (nativeFrameWords "java/lang/System" "arraycopy" 5 + 11) ≤ R.locals := by
        have : nativeFrameWords "java/lang/System" "arraycopy" 5 = 7 := by decide
        rw [this]; omega
      show W p l e R s m args below meth c H locs cells slots Q (F0 m pc La (.int n' :: .int dp :: rv π (vr a) :: .int sp :: rv π (vr b') :: r.map (rv π)))
      have hoI : ∀ q, q ≠ a → mI (cI M b' (ix sp) a (ix dp) (ix n')) q = mI M q := fun q hq => funext fun i => by simp [mI, cI, cpy, hq]
      have hoC : ∀ q, q ≠ a → cellE π cA (cI M b' (ix sp) a (ix dp) (ix n')) q = cellE π cA M q := by
        intro q hq
        have e3 : fvE π (cI M b' (ix sp) a (ix dp) (ix n')) (mK M q) q = fvE π M (mK M q) q := funext fun i => by unfold fvE; rw [hoI q hq]; rfl
        unfold cellE
        rw [show mK (cI M b' (ix sp) a (ix dp) (ix n')) q = mK M q from rfl, e3, hoI q hq]; rfl
      have hcp : mI (cI M b' (ix sp) a (ix dp) (ix n')) a = va_cpy (mI M b') (mI M a) sp.toNatClampNeg dp.toNatClampNeg n'.toNatClampNeg := by
        funext i
        simp [mI, cI, cpy, va_cpy]
      have hbc : mK M a = 18 → (∀ j, byV (mI M b' j) = mI M b' j) → ∀ j, byV (mI (cI M b' (ix sp) a (ix dp) (ix n')) a j) = mI (cI M b' (ix sp) a (ix dp) (ix n')) a j := by
        intro hka hbb j
        simp only [mI, cI, cpy, if_true]
        split
        · exact hbb _
        · exact hby a hka j
      split at he
      · rename_i hk3
        cases he
        rcases hk3 with hk13 | hk18 | hk19
        · have hka : mK M a = 13 := by omega
          obtain ⟨ha2, hax, hak⟩ := rel_addr hrel (r := a) (by omega) ha1
          obtain ⟨hb2, hbx, hbk⟩ := rel_addr hrel (r := b') (by omega) hb1
          rw [rv_ref ha2 hak, rv_ref hb2 hbk]
          have hga1 := ws_get (π := π) (cA := cA) ha2 hax
          have hgb := ws_get (π := π) (cA := cA) hb2 hbx
          rw [cell13 hka] at hga1
          rw [cell13 hk13] at hgb
          refine va_copyi hx hb hml' hown (hts _ hlink) (hts _ w_acn) (hts _ w_acs) (hts _ w_sys) hK hrel.1 (ws_D hga) hS (pL π b') (pL π a) 0 0 hgb hga1 (ty := .int) rfl rfl rfl h1 h2 h3 h4 h5 (fun i _ => rfl) hfr hlw hd (fun H1 locs1 hP1 _ hS1 => ?_)
          refine stored (M' := cI M b' (ix sp) a (ix dp) (ix n')) A ha2 hax rfl rfl (fun _ => rfl) (fun _ => rfl) hoI (fun _ _ => rfl) (fun h => by omega) ?_ hoC hP1 hS1 K
          rw [cell13 (show mK (cI M b' (ix sp) a (ix dp) (ix n')) a = 13 from hka), hcp]; rfl
        · have hka : mK M a = 18 := by omega
          obtain ⟨ha2, hax, hak⟩ := rel_addr hrel (r := a) (by omega) ha1
          obtain ⟨hb2, hbx, hbk⟩ := rel_addr hrel (r := b') (by omega) hb1
          rw [rv_ref ha2 hak, rv_ref hb2 hbk]
          have hga1 := ws_get (π := π) (cA := cA) ha2 hax
          have hgb := ws_get (π := π) (cA := cA) hb2 hbx
          rw [cell18 hka] at hga1
          rw [cell18 hk18] at hgb
          refine va_copyi hx hb hml' hown (hts _ hlink) (hts _ w_acn) (hts _ w_acs) (hts _ w_sys) hK hrel.1 (ws_D hga) hS (pL π b') (pL π a) 5 5 hgb hga1 (ty := .byte) rfl rfl rfl h1 h2 h3 h4 h5 (fun i _ => fits_b (hby b' hk18 _)) hfr hlw hd (fun H1 locs1 hP1 _ hS1 => ?_)
          refine stored (M' := cI M b' (ix sp) a (ix dp) (ix n')) A ha2 hax rfl rfl (fun _ => rfl) (fun _ => rfl) hoI (fun _ _ => rfl) (fun h => hbc h (hby b' hk18)) ?_ hoC hP1 hS1 K
          rw [cell18 (show mK (cI M b' (ix sp) a (ix dp) (ix n')) a = 18 from hka), hcp]; rfl
        · have hka : mK M a = 18 := by omega
          obtain ⟨ha2, hax, hak⟩ := rel_addr hrel (r := a) (by omega) ha1
          obtain ⟨o, f, rfl, hT, hf⟩ := const_bytes hrel hks hk19
          rw [rv_ref ha2 hak, rv_k]
          have hga1 := ws_get (π := π) (cA := cA) ha2 hax
          rw [cell18 hka] at hga1
          have hfe : mI M (kA + o) = f := funext hf
          refine vk_copyt hx hb hml' hown (hts _ hlink) (hts _ w_acn) (hts _ w_acs) (hts _ w_sys) hK hrel.1 (ws_D hga) hS hT (pL π a) 5 hga1 rfl h1 h2 h3 h4 h5 (fun i _ => ?_) hfr hlw hd (fun H1 locs1 hP1 _ hS1 => ?_)
          · rw [← hf]; exact fits_b (const_byV hrel hk19 _)
          · refine stored (M' := cI M (kA + o) (ix sp) a (ix dp) (ix n')) A ha2 hax rfl rfl (fun _ => rfl) (fun _ => rfl) hoI (fun _ _ => rfl) (fun h => hbc h (fun j => const_byV hrel hk19 j)) ?_ hoC hP1 hS1 K
            rw [cell18 (show mK (cI M (kA + o) (ix sp) a (ix dp) (ix n')) a = 18 from hka), hcp, hfe]; rfl
      · rename_i hk3
        split at he
        · rename_i hk14
          cases he
          have hka : mK M a = 14 := by omega
          obtain ⟨ha2, hax, hak⟩ := rel_addr hrel (r := a) (by omega) ha1
          obtain ⟨hb2, hbx, hbk⟩ := rel_addr hrel (r := b') (by omega) hb1
          rw [rv_ref ha2 hak, rv_ref hb2 hbk]
          have hga1 := ws_get (π := π) (cA := cA) ha2 hax
          have hgb := ws_get (π := π) (cA := cA) hb2 hbx
          rw [cell14 hka] at hga1
          rw [cell14 hk14] at hgb
          refine va_copyl hx hb hml' hown (hts _ hlink) (hts _ w_acn) (hts _ w_acs) (hts _ w_sys) hK hrel.1 (ws_D hga) hS (pL π b') (pL π a) 1 1 hgb hga1 (ty := .long) rfl rfl rfl h1 h2 h3 h4 h5 (fun i _ => rfl) hfr hlw hd (fun H1 locs1 hP1 _ hS1 => ?_)
          refine stored (M' := cJ M b' (ix sp) a (ix dp) (ix n')) A ha2 hax rfl rfl (fun _ => rfl) (fun _ => rfl) (fun _ _ => rfl) (fun _ _ => rfl) (fun h => by omega) ?_ ?_ hP1 hS1 K
          · rw [cell14 (show mK (cJ M b' (ix sp) a (ix dp) (ix n')) a = 14 from hka)]
            have e : mJ (cJ M b' (ix sp) a (ix dp) (ix n')) a = va_cpy (mJ M b') (mJ M a) sp.toNatClampNeg dp.toNatClampNeg n'.toNatClampNeg := by
              funext i
              simp [mJ, cJ, cpy, va_cpy]
            rw [e]; rfl
          · intro q hq
            have e2 : mJ (cJ M b' (ix sp) a (ix dp) (ix n')) q = mJ M q := funext fun i => by simp [mJ, cJ, cpy, hq]
            unfold cellE
            rw [show mK (cJ M b' (ix sp) a (ix dp) (ix n')) q = mK M q from rfl, e2]; rfl
        · cases he
    · cases he
  · rename_i t0 st0 y' x r
    split at he
    · rename_i hlen
      cases he
      have hcs2 := cat_sum (π := π) r
      exact va_mmax hx hb hml' hown (hts _ hlink) (hts _ w_smax) (hts _ w_mth) (hts _ w_cmax) hfr (by omega) hroom.1 hroom.2 hd (K.stay A)
    · cases he
  · rename_i t0 st0 y' x r
    split at he
    · rename_i hlen
      cases he
      have hcs2 := cat_sum (π := π) r
      exact va_mmin hx hb hml' hown (hts _ hlink) (hts _ w_smin) (hts _ w_mth) (hts _ w_cmin) hfr (by omega) hroom.1 hroom.2 hd (K.stay A)
    · cases he
  · rename_i t0 st0 x r
    split at he
    · rename_i hlen
      cases he
      have hcs2 := cat_sum (π := π) r
      exact va_mabs hx hb hml' hown (hts _ hlink) (hts _ w_sabs) (hts _ w_mth) (hts _ w_cabs) hfr (by omega) hroom.1 hroom.2 hd (K.stay A)
    · cases he
  · omega
  · cases he
theorem so_oi {k tb : Nat} (A : At1 p s m args meth c R y π L xs D cA M H locs cells slots La ls) (hd : decode (mC y) pc = .ok (.invokespecial k, 3)) (hbi : biI (mCl y) k = some tb)
    (he : e_bi tb pc ls st M = some t) (K : KK p l e R s m args below meth c cells slots Q y π L xs D cA M t) : W p l e R s m args below meth c H locs cells slots Q (F0 m pc La (st.map (rv π))) := by
  obtain ⟨⟨hx, hb, hml, hts, hown, hK, hgv, -, -, hbase⟩, hrel, hS, hl, hcs, hfr, hlo⟩ := id A
  obtain ⟨rfl, hlink⟩ := biI_ok hbi
  unfold e_bi at he
  split at he
  · omega
  · omega
  · omega
  · omega
  · rename_i t0 st0 q r _
    split at he
    · rename_i hc
      cases he
      obtain ⟨hlen, hq⟩ := hc
      obtain ⟨hq2, hqx, hqk⟩ := rel_obj hrel hq
      have hcs2 := cat_sum (π := π) r
      show W p l e R s m args below meth c H locs cells slots Q (F0 m pc La (rv π (vr q) :: r.map (rv π)))
      rw [rv_ref hq2 hqk]
      refine W.objInit hx hb hown (hts _ hlink) (hts _ w_oin) (hts _ w_oco) rfl (by show La.size = _; rw [hl.size, hml]) rfl hd hfr ?_ (K.stay A)
      have := lv_room (m := m) (pc := pc) (ls := La) (rest := .ref (pE π + (q - 2)) :: r.map (rv π)) (st := r.map (rv π)) (by omega)
      omega
    · cases he
  · cases he
end Ops3
