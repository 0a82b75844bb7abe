/-! ===== the evaluator's instructions, third part: new cells, kinds, host members, switches, the rest ===== -/
theorem mem_sup : ∀ k, k ∈ [0, 1, 2, 5, 6, 7, 10] → k ∈ [0, 1, 2, 5, 6, 7, 8, 10] := by decide
theorem sub8 : ∀ k, k ∈ [0, 1, 2, 5, 6, 7, 10] → subK 8 k = true → k = 8 := by decide
section Ops3
variable {p : Program} {l : Launch} {e : Env} {R : Room} {s : State} {m : MethodId} {args : Array Value} {below : List Frame} {meth : Method} {c : Code} {H : Heap} {locs : List Loc} {cells slots : Nat} {Q : State → Prop}
variable {π : Par} {L : Nat} {xs : Nat → Int32} {D : va_G} {cA : Nat → ClassId} {y pc n : Nat} {La : Array Slot} {ls : Loc1} {st : List PV} {M : Mem} {t : St1}
theorem nw_old {k nn sl : Nat} {q : Nat} (hq : q < mX M) : cellE π cA (nw M k nn sl) q = cellE π cA M q := by
  have e1 : mI (nw M k nn sl) q = mI M q := funext fun i => by simp [mI, nw, Nat.ne_of_lt hq]
  have e2 : mJ (nw M k nn sl) q = mJ M q := funext fun i => by simp [mJ, nw, Nat.ne_of_lt hq]
  have e3 : mR (nw M k nn sl) q = mR M q := funext fun i => by simp [mR, nw, Nat.ne_of_lt hq]
  have e4 : mK (nw M k nn sl) q = mK M q := by simp [mK, nw, up1, Nat.ne_of_lt hq]
  have e5 : mN (nw M k nn sl) q = mN M q := by simp [mN, nw, up1, Nat.ne_of_lt hq]
  have e6 : fvE π (nw M k nn sl) (mK M q) q = fvE π M (mK M q) q := funext fun i => by unfold fvE; rw [e1, e3]
  unfold cellE
  rw [e4, e5, e6, e1, e2, e3]
theorem nw_K {k nn sl : Nat} : mK (nw M k nn sl) (mX M) = k := by simp [mK, nw, up1]
theorem nw_N {k nn sl : Nat} : mN (nw M k nn sl) (mX M) = nn := by simp [mN, nw, up1]
theorem nw_I {k nn sl : Nat} : mI (nw M k nn sl) (mX M) = fun _ => 0 := funext fun i => by simp [mI, nw]
theorem nw_J {k nn sl : Nat} : mJ (nw M k nn sl) (mX M) = fun _ => 0 := funext fun i => by simp [mJ, nw]
theorem nw_R {k nn sl : Nat} : mR (nw M k nn sl) (mX M) = fun _ => 0 := funext fun i => by simp [mR, nw]
/-- behind a making: the address is the next one -/
theorem made (A : At1 p s m args meth c R y π L xs D cA M H locs cells slots La ls) {k nn sl q : Nat} {pc' : Nat} {st' : List PV} {e1 : va_E} {H1 : Heap} (hk : k ≤ 17)
    (he : cellE π cA (nw M k nn sl) (mX M) = e1)
    (hP1 : va_P D vwCl ((pG π ++ wsM π cA M) ++ [(q, e1)]) H1) (hD1 : va_D (fun q => pA π ≤ q) ((pG π ++ wsM π cA M) ++ [(q, e1)])) (hS1 : va_S (fun q => pA π ≤ q) s.heap H1 locs)
    (K : KK p l e R s m args below meth c cells slots Q y π L xs D cA M (pc', ls, vr (mX M) :: st', nw M k nn sl)) : W p l e R s m args below meth c H1 locs (cells + 1) (slots + sl) Q (F0 m pc' La (.ref q :: st'.map (rv π))) := by
  obtain ⟨-, ⟨hP, -, hm2, hkr, hsk, hsn, hsx⟩, -, hl, hcs, -, -⟩ := id A
  intro T hT X
  have hsz : H1.size ≤ s.heap.size + (cells + 1) := by have := X.heapSize; rw [hT] at this; exact this
  have hlen : (pG π ++ wsM π cA M).length = mX M - 2 := ws_len
  have hlast : ((pG π ++ wsM π cA M) ++ [(q, e1)])[mX M - 2]? = some (q, e1) := by rw [List.getElem?_append_right (by omega), hlen]; simp
  have hq1 : q < H1.size := (hP1 _ _ hlast).lt
  have hq2 : base ≤ q := hD1.2 _ _ hlast
  have hq3 : ∀ j, j < mX M - 2 → q ≠ base + j := by
    intro j hj heq
    have h1 : ((pG π ++ wsM π cA M) ++ [(q, e1)])[j]? = some (base + j, cellE π cA M (j + 2)) := by
      rw [List.getElem?_append_left (by omega)]
      have := ws_get (π := π) (cA := cA) (M := M) (r := j + 2) (by omega) (by omega)
      simpa using this
    have := hD1.1 _ _ _ _ h1 hlast heq.symm
    omega
  have hq : q = pE π + (mX M - 2) := by
    rcases Nat.lt_or_ge q (pE π + (mX M - 2)) with h | h
    · exact absurd (show q = pE π + (q - base) by omega) (hq3 (q - base) (by omega))
    · omega
  subst hq
  have hX : mX (nw M k nn sl) = mX M + 1 := rfl
  have hws := ws_push (π := π) (cA := cA) (M := M) (M' := nw M k nn sl) hm2 hX (fun q _ h => nw_old h)
  rw [he] at hws
  rw [← hws] at hP1
  have h1m : (1 : Nat) ≠ mX M := by omega
  have hrel : Rel π D cA L xs (nw M k nn sl) H1 := by
    refine ⟨hP1, by rw [hX]; omega, by rw [hX]; omega, fun r hr => ?_, ?_, ?_, fun j => ?_⟩
    · rw [hX]
      by_cases hrm : r = mX M
      · omega
      · have : mK (nw M k nn sl) r = mK M r := by simp [mK, nw, up1, hrm]
        rw [this] at hr
        have := hkr r hr
        omega
    · rw [show mK (nw M k nn sl) 1 = mK M 1 by simp [mK, nw, up1, h1m]]; exact hsk
    · rw [show mN (nw M k nn sl) 1 = mN M 1 by simp [mN, nw, up1, h1m]]; exact hsn
    · rw [show mI (nw M k nn sl) 1 j = mI M 1 j by simp [mI, nw, h1m]]; exact hsx j
  have := K H1 locs La hrel hS1 hl
  have e1 : mX (nw M k nn sl) - mX M = 1 := by rw [hX]; omega
  have e2 : mS (nw M k nn sl) - mS M = sl := by show mS M + sl - mS M = sl; omega
  simp only [e1, e2, List.map_cons, rv_ref hm2] at this
  exact this T hT X
theorem so_new {i : Nat} (A : At1 p s m args meth c R y π L xs D cA M H locs cells slots La ls) (hd : decode (mC y) pc = .ok (.new i, 3))
    (he : e_new (mCl y) i pc ls st M = some t) (hroom : cells + (mX t.2.2.2 - mX M) ≤ R.cells ∧ slots + (mS t.2.2.2 - mS M) ≤ R.slots) (K : KK p l e R s m args below meth c cells slots Q y π L xs D cA M t) : W p l e R s m args below meth c H locs cells slots Q (F0 m pc La (st.map (rv π))) := by
  obtain ⟨⟨hx, hb, -, hts, hown, hK, -, -, -, hbase⟩, hrel, hS, -, -, -⟩ := id A
  unfold e_new at he
  split at he
  · rename_i k hk
    cases he
    obtain ⟨h13, hcl, hin, hini⟩ := nwT_ok hk
    obtain ⟨hvc, hws, hty, -, -⟩ := clf k h13
    have e1 : mX (nw M k 0 (nSlots k)) - mX M = 1 := by show mX M + 1 - mX M = 1; omega
    have e2 : mS (nw M k 0 (nSlots k)) - mS M = nSlots k := by show mS M + nSlots k - mS M = nSlots k; omega
    simp only [e1, e2] at hroom
    refine va_new hx hb hts (fun w hw => hws w hw) (clY k) hty hown (hts _ hcl) (hts _ hin) (hts _ hini) hK hrel.1 ws_D hS (fun q h => Nat.le_trans hbase h) hvc (fs := (List.range (nSlots k)).map (fvE π (nw M k 0 (nSlots k)) k (mX M))) (fun j hj => ?_) hroom.1 hroom.2 hd (fun q H1 hP1 hD1 hS1 => ?_)
    · obtain ⟨hs1, hs2, hs3⟩ := slotF k h13 j hj
      have : vp_V ((List.range (nSlots k)).map (fvE π (nw M k 0 (nSlots k)) k (mX M))) j = fvE π (nw M k 0 (nSlots k)) k (mX M) j := by simp [vp_V, List.getD, hj]
      rw [this]
      unfold fvE
      rw [nw_R, nw_I]
      cases hr : fRef k j
      · cases hB : fBool k j
        · rw [hs2 hr hB]; rfl
        · rw [hs3 hr hB]; rfl
      · have := hs1 hr
        cases ht : clY k j <;> rw [ht] at this <;> simp [refTy] at this <;> rfl
    · refine made A (k := k) (nn := 0) (by omega) ?_ hP1 hD1 hS1 K
      unfold cellE
      rw [nw_K, if_pos h13]
  · cases he
theorem so_nwa {a : ArrayType} (A : At1 p s m args meth c R y π L xs D cA M H locs cells slots La ls) (hd : decode (mC y) pc = .ok (.newarray a, 2))
    (he : e_nwa a pc ls st M = some t) (hroom : cells + (mX t.2.2.2 - mX M) ≤ R.cells ∧ slots + (mS t.2.2.2 - mS M) ≤ R.slots) (K : KK p l e R s m args below meth c cells slots Q y π L xs D cA M t) : W p l e R s m args below meth c H locs cells slots Q (F0 m pc La (st.map (rv π))) := by
  obtain ⟨⟨hx, hb, -, hts, hown, hK, -, -, -, hbase⟩, hrel, hS, -, -, -⟩ := id A
  unfold e_nwa at he
  split at he
  · rename_i n' st'
    split at he
    · rename_i hn
      cases he
      have e1 : mX (nw M 13 (ix n') (ix n')) - mX M = 1 := by show mX M + 1 - mX M = 1; omega
      have e2 : mS (nw M 13 (ix n') (ix n')) - mS M = ix n' := by show mS M + ix n' - mS M = ix n'; omega
      simp only [e1, e2] at hroom
      refine va_newa (atype := .int) (ty := .int) hx hb (hts _ ac_int) rfl hK hrel.1 ws_D hS (fun q h => Nat.le_trans hbase h) (a0 := (ix n', .inl (fun _ => 0))) (fun cA => rfl) hn.1 rfl (by show ix n' * 4 ≤ 536870912; have := hn.2; omega) hroom.1 hroom.2 hd (fun q cA' H1 hK1 hP1 hD1 hS1 => ?_)
      have h1 := (hK1.2 5 (cA', .int) rfl).2
      have h2 := (hK1.2 0 (cA 13, .int) rfl).2
      have hc : cA' = cA 13 := Option.some.inj ((show s.vm.findClass _ = some cA' from h1).symm.trans h2)
      subst hc
      refine made A (k := 13) (nn := ix n') (by omega) ?_ hP1 hD1 hS1 K
      rw [cell13 nw_K, nw_N, nw_I]
    · cases he
  · rename_i n' st'
    split at he
    · rename_i hn
      cases he
      have e1 : mX (nw M 14 (ix n') (ix n')) - mX M = 1 := by show mX M + 1 - mX M = 1; omega
      have e2 : mS (nw M 14 (ix n') (ix n')) - mS M = ix n' := by show mS M + ix n' - mS M = ix n'; omega
      simp only [e1, e2] at hroom
      refine va_newa (atype := .long) (ty := .long) hx hb (hts _ ac_long) rfl hK hrel.1 ws_D hS (fun q h => Nat.le_trans hbase h) (a0 := (ix n', .inr (.inl (fun _ => 0)))) (fun cA => rfl) hn.1 rfl (by show ix n' * 8 ≤ 536870912; have := hn.2; omega) hroom.1 hroom.2 hd (fun q cA' H1 hK1 hP1 hD1 hS1 => ?_)
      have h1 := (hK1.2 5 (cA', .long) rfl).2
      have h2 := (hK1.2 1 (cA 14, .long) rfl).2
      have hc : cA' = cA 14 := Option.some.inj ((show s.vm.findClass _ = some cA' from h1).symm.trans h2)
      subst hc
      refine made A (k := 14) (nn := ix n') (by omega) ?_ hP1 hD1 hS1 K
      rw [cell14 nw_K, nw_N, nw_J]
    · cases he
  · cases he
theorem so_anw {i : Nat} (A : At1 p s m args meth c R y π L xs D cA M H locs cells slots La ls) (hd : decode (mC y) pc = .ok (.anewarray i, 3))
    (he : e_anw (mCl y) i pc ls st M = some t) (hroom : cells + (mX t.2.2.2 - mX M) ≤ R.cells ∧ slots + (mS t.2.2.2 - mS M) ≤ R.slots) (K : KK p l e R s m args below meth c cells slots Q y π L xs D cA M t) : W p l e R s m args below meth c H locs cells slots Q (F0 m pc La (st.map (rv π))) := by
  obtain ⟨⟨hx, hb, -, hts, hown, hK, hgv, -, -, hbase⟩, hrel, hS, -, -, -⟩ := id A
  unfold e_anw at he
  split at he
  · rename_i n' st' k hk
    split at he
    · rename_i hn
      cases he
      have e1 : mX (nw M k (ix n') (ix n')) - mX M = 1 := by show mX M + 1 - mX M = 1; omega
      have e2 : mS (nw M k (ix n') (ix n')) - mS M = ix n' := by show mS M + ix n' - mS M = ix n'; omega
      simp only [e1, e2] at hroom
      rcases anT_ok hk with ⟨rfl, hcl⟩ | ⟨rfl, hcl⟩
      · refine va_newq (C := RX8) hx hb hown (hts _ hcl) hgv.2.2.1 hK hrel.1 ws_D hS (fun q h => Nat.le_trans hbase h) hn.1 rfl (by have := hn.2; show ix n' * 4 ≤ 536870912; omega) hroom.1 hroom.2 hd (fun q cA' H1 hK1 hP1 hD1 hS1 => ?_)
        obtain ⟨_, _, _, _, _, h1⟩ := (hK1.2 5 (cA', .object RX8) rfl).2
        obtain ⟨_, _, _, _, _, h2⟩ := (hK1.2 2 (cA 15, .object RX8) rfl).2
        have hc : cA' = cA 15 := Option.some.inj (h1.symm.trans h2)
        subst hc
        refine made A (k := 15) (nn := ix n') (by omega) ?_ hP1 hD1 hS1 K
        rw [cellQ nw_K (by omega), nw_N, nw_R]; rfl
      · refine va_newq (C := RX9) hx hb hown (hts _ hcl) hgv.2.2.2.1 hK hrel.1 ws_D hS (fun q h => Nat.le_trans hbase h) hn.1 rfl (by have := hn.2; show ix n' * 4 ≤ 536870912; omega) hroom.1 hroom.2 hd (fun q cA' H1 hK1 hP1 hD1 hS1 => ?_)
        obtain ⟨_, _, _, _, _, h1⟩ := (hK1.2 5 (cA', .object RX9) rfl).2
        obtain ⟨_, _, _, _, _, h2⟩ := (hK1.2 3 (cA 16, .object RX9) rfl).2
        have hc : cA' = cA 16 := Option.some.inj (h1.symm.trans h2)
        subst hc
        refine made A (k := 16) (nn := ix n') (by omega) ?_ hP1 hD1 hS1 K
        rw [cellQ nw_K (by omega), nw_N, nw_R]; rfl
    · cases he
  · cases he
theorem so_inst {i : Nat} (A : At1 p s m args meth c R y π L xs D cA M H locs cells slots La ls) (hd : decode (mC y) pc = .ok (.instanceof i, 3))
    (rnull : ∀ rest : List Value, W p l e R s m args below meth c H locs cells slots Q (F0 m (pc + 3) La (.int 0 :: rest)) → W p l e R s m args below meth c H locs cells slots Q (F0 m pc La (.null :: rest)))
    (he : e_inst (mCl y) i pc ls st M = some t) (K : KK p l e R s m args below meth c cells slots Q y π L xs D cA M t) : W p l e R s m args below meth c H locs cells slots Q (F0 m pc La (st.map (rv π))) := by
  obtain ⟨⟨hx, hb, -, hts, hown, hK, hgv, -, -, hbase⟩, hrel, hS, -, -, -⟩ := id A
  unfold e_inst at he
  split at he
  · rename_i r st' k hk
    split at he
    · rename_i h0
      cases he
      subst h0
      exact rnull _ (K.stay A)
    · split at he
      · rename_i hok
        cases he
        obtain ⟨hkm, hlink⟩ := inT_ok hk
        have h13 := okF_lt (by omega) hok
        obtain ⟨h2, hrx⟩ := rel_obj hrel h13
        obtain ⟨hcl, -, -, -, -⟩ := clf _ h13
        have hg := ws_get (π := π) (cA := cA) h2 hrx
        unfold cellE at hg
        rw [if_pos h13] at hg
        show W p l e R s m args below meth c H locs cells slots Q (F0 m pc La (rv π (vr r) :: st'.map (rv π)))
        rw [rv_ref h2]
        have hrc := va_recv hK hrel.1 hcl hg
        have hK2 := K.stay A
        by_cases hsub : subK (mK M r) k = true
        · rw [show (vi (if subK (mK M r) k = true then 1 else 0) :: st').map (rv π) = .int 1 :: st'.map (rv π) by simp [rv, hsub]] at hK2
          by_cases hself : mK M r = k
          · subst hself
            exact va_instS hx hb hown (hts _ hlink) (hK.1 _ _ hcl).2 hrc hd hK2
          · have hcast := hgv.1 _ (gv_cast (mK M r) (okF8 hok) k (mem_sup k hkm) (fun h => by rw [h] at hsub; exact sub8 k hkm hsub) (by rw [hsub]; rfl) hself)
            exact va_instY hx hb hown (hts _ hlink) hcast hrc hd hK2
        · rw [show (vi (if subK (mK M r) k = true then 1 else 0) :: st').map (rv π) = .int 0 :: st'.map (rv π) by simp [rv, hsub]] at hK2
          exact va_instNo hx hb hown (hts _ hlink) (hgv.2.1 _ (okF8 hok) _ hkm (by simpa using hsub)) hrc hd hK2
      · cases he
  · cases he
theorem cat_sum (st : List PV) : ((st.map (rv π)).map fun v => v.category).sum ≤ szL st := by
  induction st with
  | nil => simp
  | cons v r ih =>
    have h := rv_cat π v
    rcases v with x | x | x <;> simp only [List.map_cons, List.sum_cons, szL] <;> simp only at h <;> omega
theorem so_bi {k tb : Nat} (A : At1 p s m args meth c R y π L xs D cA M H locs cells slots La ls) (hd : decode (mC y) pc = .ok (.invokestatic k, 3)) (hbi : biS (mCl y) k = some tb)
    (he : e_bi tb pc ls st M = some t) (hroom : cells ≤ R.cells ∧ slots ≤ R.slots) (K : KK p l e R s m args below meth c cells slots Q y π L xs D cA M t) : W p l e R s m args below meth c H locs cells slots Q (F0 m pc La (st.map (rv π))) := by
  obtain ⟨⟨hx, hb, hml, hts, hown, hK, hgv, -, -, hbase⟩, hrel, hS, hl, hcs, hfr, hlo⟩ := id A
  obtain ⟨ht4, hlink⟩ := biS_ok hbi
  have hml' : c.maxLocals = La.size := by rw [hml, hl.size]
  unfold e_bi at he
  split at he
  · rename_i t0 st0 n' dp a sp b' r
    split at he
    · rename_i hc
      obtain ⟨h1, h2, h3, h4, h5, ha1, hb1, hkk, hlen⟩ := hc
      have hcs2 := cat_sum (π := π) r
      have hlw : ((r.map (rv π)).map fun v => v.category).sum + (nativeFrameWords "java/lang/System" "arraycopy" 5 + 11) ≤ R.locals := by
        have : nativeFrameWords "java/lang/System" "arraycopy" 5 = 7 := by decide
        rw [this]; omega
      show W p l e R s m args below meth c H locs cells slots Q (F0 m pc La (.int n' :: .int dp :: rv π (vr a) :: .int sp :: rv π (vr b') :: r.map (rv π)))
      split at he
      · rename_i hk13
        cases he
        have hka : mK M a = 13 := by rw [hkk, hk13]
        obtain ⟨ha2, hax⟩ := rel_addr hrel (r := a) (by omega) ha1
        obtain ⟨hb2, hbx⟩ := rel_addr hrel (r := b') (by omega) hb1
        rw [rv_ref ha2, rv_ref hb2]
        have hga := ws_get (π := π) (cA := cA) ha2 hax
        have hgb := ws_get (π := π) (cA := cA) hb2 hbx
        rw [cell13 hka] at hga
        rw [cell13 hk13] at hgb
        refine va_copyi hx hb hml' hown (hts _ hlink) (hts _ w_acn) (hts _ w_acs) (hts _ w_sys) hK hrel.1 ws_D hS (b' - 2) (a - 2) 0 0 hgb hga (ty := .int) rfl rfl rfl h1 h2 h3 h4 h5 (fun i _ => rfl) hfr hlw hd (fun H1 locs1 hP1 _ hS1 => ?_)
        refine stored (M' := cI M b' (ix sp) a (ix dp) (ix n')) A ha2 hax rfl rfl (fun _ => rfl) rfl (fun i => by simp [mI, cI, cpy, Ne.symm ha1]) ?_ ?_ hP1 hS1 K
        · rw [cell13 (show mK (cI M b' (ix sp) a (ix dp) (ix n')) a = 13 from hka)]
          have e : mI (cI M b' (ix sp) a (ix dp) (ix n')) a = va_cpy (mI M b') (mI M a) sp.toNatClampNeg dp.toNatClampNeg n'.toNatClampNeg := by
            funext i
            simp [mI, cI, cpy, va_cpy]
          rw [e]; rfl
        · intro q hq
          have e2 : mI (cI M b' (ix sp) a (ix dp) (ix n')) q = mI M q := funext fun i => by simp [mI, cI, cpy, hq]
          have e3 : fvE π (cI M b' (ix sp) a (ix dp) (ix n')) (mK M q) q = fvE π M (mK M q) q := funext fun i => by unfold fvE; rw [e2]; rfl
          unfold cellE
          rw [show mK (cI M b' (ix sp) a (ix dp) (ix n')) q = mK M q from rfl, e3, e2]; rfl
      · split at he
        · rename_i hk14
          cases he
          have hka : mK M a = 14 := by rw [hkk, hk14]
          obtain ⟨ha2, hax⟩ := rel_addr hrel (r := a) (by omega) ha1
          obtain ⟨hb2, hbx⟩ := rel_addr hrel (r := b') (by omega) hb1
          rw [rv_ref ha2, rv_ref hb2]
          have hga := ws_get (π := π) (cA := cA) ha2 hax
          have hgb := ws_get (π := π) (cA := cA) hb2 hbx
          rw [cell14 hka] at hga
          rw [cell14 hk14] at hgb
          refine va_copyl hx hb hml' hown (hts _ hlink) (hts _ w_acn) (hts _ w_acs) (hts _ w_sys) hK hrel.1 ws_D hS (b' - 2) (a - 2) 1 1 hgb hga (ty := .long) rfl rfl rfl h1 h2 h3 h4 h5 (fun i _ => rfl) hfr hlw hd (fun H1 locs1 hP1 _ hS1 => ?_)
          refine stored (M' := cJ M b' (ix sp) a (ix dp) (ix n')) A ha2 hax rfl rfl (fun _ => rfl) rfl (fun i => rfl) ?_ ?_ hP1 hS1 K
          · rw [cell14 (show mK (cJ M b' (ix sp) a (ix dp) (ix n')) a = 14 from hka)]
            have e : mJ (cJ M b' (ix sp) a (ix dp) (ix n')) a = va_cpy (mJ M b') (mJ M a) sp.toNatClampNeg dp.toNatClampNeg n'.toNatClampNeg := by
              funext i
              simp [mJ, cJ, cpy, va_cpy]
            rw [e]; rfl
          · intro q hq
            have e2 : mJ (cJ M b' (ix sp) a (ix dp) (ix n')) q = mJ M q := funext fun i => by simp [mJ, cJ, cpy, hq]
            unfold cellE
            rw [show mK (cJ M b' (ix sp) a (ix dp) (ix n')) q = mK M q from rfl, e2]; rfl
        · cases he
    · cases he
  · rename_i t0 st0 y' x r
    split at he
    · rename_i hlen
      cases he
      have hcs2 := cat_sum (π := π) r
      exact va_mmax hx hb hml' hown (hts _ hlink) (hts _ w_smax) (hts _ w_mth) (hts _ w_cmax) hfr (by omega) hroom.1 hroom.2 hd (K.stay A)
    · cases he
  · rename_i t0 st0 y' x r
    split at he
    · rename_i hlen
      cases he
      have hcs2 := cat_sum (π := π) r
      exact va_mmin hx hb hml' hown (hts _ hlink) (hts _ w_smin) (hts _ w_mth) (hts _ w_cmin) hfr (by omega) hroom.1 hroom.2 hd (K.stay A)
    · cases he
  · rename_i t0 st0 x r
    split at he
    · rename_i hlen
      cases he
      have hcs2 := cat_sum (π := π) r
      exact va_mabs hx hb hml' hown (hts _ hlink) (hts _ w_sabs) (hts _ w_mth) (hts _ w_cabs) hfr (by omega) hroom.1 hroom.2 hd (K.stay A)
    · cases he
  · omega
  · cases he
theorem so_oi {k tb : Nat} (A : At1 p s m args meth c R y π L xs D cA M H locs cells slots La ls) (hd : decode (mC y) pc = .ok (.invokespecial k, 3)) (hbi : biI (mCl y) k = some tb)
    (he : e_bi tb pc ls st M = some t) (K : KK p l e R s m args below meth c cells slots Q y π L xs D cA M t) : W p l e R s m args below meth c H locs cells slots Q (F0 m pc La (st.map (rv π))) := by
  obtain ⟨⟨hx, hb, hml, hts, hown, hK, hgv, -, -, hbase⟩, hrel, hS, hl, hcs, hfr, hlo⟩ := id A
  obtain ⟨rfl, hlink⟩ := biI_ok hbi
  unfold e_bi at he
  split at he
  · omega
  · omega
  · omega
  · omega
  · rename_i t0 st0 q r _
    split at he
    · rename_i hc
      cases he
      obtain ⟨hlen, hq⟩ := hc
      obtain ⟨hq2, hqx⟩ := rel_obj hrel hq
      have hcs2 := cat_sum (π := π) r
      show W p l e R s m args below meth c H locs cells slots Q (F0 m pc La (rv π (vr q) :: r.map (rv π)))
      rw [rv_ref hq2]
      refine W.objInit hx hb hown (hts _ hlink) (hts _ w_oin) (hts _ w_oco) rfl (by show La.size = _; rw [hl.size, hml]) rfl hd hfr ?_ (K.stay A)
      have := lv_room (m := m) (pc := pc) (ls := La) (rest := .ref (pE π + (q - 2)) :: r.map (rv π)) (st := r.map (rv π)) (by omega)
      omega
    · cases he
  · cases he
end Ops3
