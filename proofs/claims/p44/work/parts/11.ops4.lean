/-! ===== the evaluator's instructions, last part, and all of them together ===== -/
section Ops4
variable {p : Program} {l : Launch} {e : Env} {R : Room} {s : State} {m : MethodId} {args : Array Value} {below : List Frame} {meth : Method} {c : Code} {H : Heap} {locs : List Loc} {cells slots : Nat} {Q : State → Prop}
variable {π : Par} {L : Nat} {xs : Nat → Int32} {D : va_G} {cA : Nat → ClassId} {y pc n : Nat} {La : Array Slot} {ls : Loc1} {st : List PV} {M : Mem} {t : St1}
theorem so_mnw {i : Nat} (A : At1 p s m args meth c R y π L xs D cA M H locs cells slots La ls) (hd : decode (mC y) pc = .ok (.multianewarray i 2, 4))
    (he : e_mnw (mCl y) i pc ls st M = some t) (hka : mX t.2.2.2 ≤ kA) (hroom : cells + (mX t.2.2.2 - mX M) ≤ R.cells ∧ slots + (mS t.2.2.2 - mS M) ≤ R.slots) (K : KK p l e R s m args below meth c cells slots Q y π L xs D cA M t) : W p l e R s m args below meth c H locs cells slots Q (F0 m pc La (st.map (rv π))) := by
  obtain ⟨⟨hx, hb, -, hts, hown, hK, hgv, -, -, hbase⟩, ⟨hP, hHs, ⟨hm2, hmk⟩, hkr, hsk, hsn, hsx, hco, hby, hga⟩, hS, hl, hcs, -, -⟩ := id A
  unfold e_mnw at he
  split at he
  · rename_i k' n' st'
    split at he
    · rename_i hc
      cases he
      obtain ⟨hmn, hn, hn2, hk, hk2⟩ := hc
      have e1 : mX (nw2 M (ix n') (ix k')) - mX M = 1 + ix n' := by show mX M + 1 + ix n' - mX M = _; omega
      have e2 : mS (nw2 M (ix n') (ix k')) - mS M = ix n' + ix n' * ix k' := by show mS M + ix n' + ix n' * ix k' - mS M = _; omega
      simp only [e1, e2] at hroom
      have hcy := (hK.2 0 (cA 13, .int) rfl).2
      refine e_mna hx hb hown (hts _ (mnT_ok hmn)) hgv.2.2.2 (hts _ ac_int) (cy := cA 13) hcy hK hP hS (z := (ix k', .inl (fun _ => 0))) hn hk rfl rfl (by show ix n' * 4 ≤ _; omega) (by show ix k' * 4 ≤ _; omega) (by show ix k' ≤ _; omega) rfl rfl hroom.1 hroom.2 (fun c => ?_) hd (fun cA' H1 hK1 hP1 hS1 hz1 => ?_)
      · rw [vp_cell_i]
        unfold Jvm.Free.Multi.innerC
        rw [arrV_new]; rfl
      · have h1 := (hK1.2 6 (cA', .array .int) rfl).2
        have h2 := (hK1.2 4 (cA 17, .array .int) rfl).2
        have hcA : cA' = cA 17 := Option.some.inj ((show s.vm.findClass _ = some cA' from h1).symm.trans h2)
        subst hcA
        have hXX : mX (nw2 M (ix n') (ix k')) = mX M + 1 + ix n' := rfl
        have hka2 : mX M + 1 + ix n' ≤ kA := hka
        have nK : ∀ r, ¬ (mX M ≤ r ∧ r ≤ mX M + ix n') → mK (nw2 M (ix n') (ix k')) r = mK M r := fun r ho => by simp only [mK, nw2]; rw [if_neg ho]
        have nN : ∀ r, ¬ (mX M ≤ r ∧ r ≤ mX M + ix n') → mN (nw2 M (ix n') (ix k')) r = mN M r := fun r ho => by simp only [mN, nw2]; rw [if_neg ho]
        have nII : ∀ r, ¬ (mX M ≤ r ∧ r ≤ mX M + ix n') → mI (nw2 M (ix n') (ix k')) r = mI M r := fun r ho => funext fun i => by simp only [mI, nw2]; rw [if_neg ho]
        have nJ : ∀ r, ¬ (mX M ≤ r ∧ r ≤ mX M + ix n') → mJ (nw2 M (ix n') (ix k')) r = mJ M r := fun r ho => funext fun i => by simp only [mJ, nw2]; rw [if_neg ho]
        have nR : ∀ r, ¬ (mX M ≤ r ∧ r ≤ mX M + ix n') → mR (nw2 M (ix n') (ix k')) r = mR M r := fun r ho => funext fun i => by simp only [mR, nw2]; rw [if_neg ho]
        have kin : ∀ r, (mX M ≤ r ∧ r ≤ mX M + ix n') → mK (nw2 M (ix n') (ix k')) r = 17 ∨ mK (nw2 M (ix n') (ix k')) r = 13 := fun r hin => by
          simp only [mK, nw2]; rw [if_pos hin]
          split
          · exact Or.inl rfl
          · exact Or.inr rfl
        have hco' : CoM (pF π) (nw2 M (ix n') (ix k')) := by
          refine ⟨fun o => ?_, fun r hr => ?_⟩
          · obtain ⟨c1, c2, c3, c4⟩ := hco.1 o
            have ho : ¬ (mX M ≤ kA + o ∧ kA + o ≤ mX M + ix n') := by omega
            exact ⟨by rw [nK _ ho]; exact c1, by rw [nN _ ho]; exact c2, fun j => by rw [nII _ ho]; exact c3 j, fun j => by rw [nR _ ho]; exact c4 j⟩
          · by_cases hin : mX M ≤ r ∧ r ≤ mX M + ix n'
            · have := kin r hin; omega
            · rw [nK r hin] at hr; exact hco.2 r hr
        have hby' : ByM (nw2 M (ix n') (ix k')) := by
          intro r hr j
          by_cases hin : mX M ≤ r ∧ r ≤ mX M + ix n'
          · have := kin r hin; omega
          · rw [nK r hin] at hr; rw [nII r hin]; exact hby r hr j
        have hrel : Rel π D cA L xs (nw2 M (ix n') (ix k')) H1 := by
          have h1m : ¬ (mX M ≤ 1 ∧ 1 ≤ mX M + ix n') := by omega
          refine ⟨?_, by rw [hXX, hz1, hHs]; show _ + _ + ix n' = _; omega, ⟨by rw [hXX]; omega, hka⟩, fun r hr => ?_, by rw [nK 1 h1m]; exact hsk, by rw [nN 1 h1m]; exact hsn, fun j => by rw [nII 1 h1m]; exact hsx j, hco', hby', hga⟩
          · refine cast ?_ hP1
            congr 1
            rw [List.append_assoc, List.append_assoc]
            congr 1
            unfold wsM
            rw [hXX, show mX M + 1 + ix n' - 2 = (mX M - 2) + (1 + ix n') by omega, List.range_add, List.map_append, Nat.add_comm 1 (ix n'), List.range_succ_eq_map]
            simp only [List.map_cons, List.map_map, List.append_assoc, List.singleton_append]
            congr 1
            · apply List.map_congr_left
              intro j hj
              have := List.mem_range.mp hj
              have ho : ¬ (mX M ≤ j + 2 ∧ j + 2 ≤ mX M + ix n') := by omega
              have e6 : fvE π (nw2 M (ix n') (ix k')) (mK M (j + 2)) (j + 2) = fvE π M (mK M (j + 2)) (j + 2) := funext fun i => by unfold fvE; rw [nII _ ho, nR _ ho]
              congr 1
              unfold cellE
              rw [nK _ ho, nN _ ho, e6, nII _ ho, nJ _ ho, nR _ ho]
            · congr 1
              · have hin : mX M ≤ mX M ∧ mX M ≤ mX M + ix n' := by omega
                have hK0 : mK (nw2 M (ix n') (ix k')) (mX M) = 17 := by simp only [mK, nw2]; rw [if_pos hin, if_pos trivial]
                have hN0 : mN (nw2 M (ix n') (ix k')) (mX M) = ix n' := by simp only [mN, nw2]; rw [if_pos hin, if_pos trivial]
                have hR0 : (fun j => ro π (mR (nw2 M (ix n') (ix k')) (mX M) j)) = fun i => if i < ix n' then some (H.size + 1 + i) else none := by
                  funext j
                  simp only [mR, nw2]
                  rw [if_pos hin, if_pos trivial]
                  split
                  · rw [ro_some (by omega) (by omega), hHs]; congr 1; omega
                  · rfl
                rw [show mX M - 2 + 0 + 2 = mX M by omega, cellQ hK0 (by omega) (by omega), hN0, hR0, hHs]; rfl
              · apply List.map_congr_left
                intro j hj
                have hj : j < ix n' := List.mem_range.mp hj
                have hin : mX M ≤ mX M - 2 + (j + 1) + 2 ∧ mX M - 2 + (j + 1) + 2 ≤ mX M + ix n' := by omega
                have hne : ¬ mX M - 2 + (j + 1) + 2 = mX M := by omega
                have hK0 : mK (nw2 M (ix n') (ix k')) (mX M - 2 + (j + 1) + 2) = 13 := by simp only [mK, nw2]; rw [if_pos hin, if_neg hne]
                have hN0 : mN (nw2 M (ix n') (ix k')) (mX M - 2 + (j + 1) + 2) = ix k' := by simp only [mN, nw2]; rw [if_pos hin, if_neg hne]
                have hI0 : mI (nw2 M (ix n') (ix k')) (mX M - 2 + (j + 1) + 2) = fun _ => 0 := funext fun i => by simp only [mI, nw2]; rw [if_pos hin]
                simp only [Function.comp]
                rw [show Nat.succ j = j + 1 from rfl, cell13 hK0, hN0, hI0, hHs]
                congr 1; omega
          · rw [hXX]
            by_cases hin : mX M ≤ r ∧ r ≤ mX M + ix n'
            · omega
            · rw [nK r hin] at hr
              have := hkr r hr
              omega
        have := K H1 locs La hrel hS1 hl
        simp only [e1, e2, List.map_cons, rv_ref hm2 (show mX M < kA by omega)] at this
        rw [hHs]
        simpa [Nat.add_assoc] using this
    · cases he
  · cases he
theorem so_sw {d lo hi : Int} {offs : Array Int} (A : At1 p s m args meth c R y π L xs D cA M H locs cells slots La ls) (hd : decode (mC y) pc = .ok (.tableswitch d lo hi offs, n))
    (he : e_sw lo hi d offs pc ls st M = some t) (K : KK p l e R s m args below meth c cells slots Q y π L xs D cA M t) : W p l e R s m args below meth c H locs cells slots Q (F0 m pc La (st.map (rv π))) := by
  obtain ⟨⟨hx, hb, -⟩, -⟩ := id A
  unfold e_sw at he
  split at he
  · rename_i x r
    split at he
    · rename_i ho
      obtain ⟨q, hq, rfl⟩ := jmp_ok he
      exact lv_tableOut hx hb hd ho hq (K.stay A)
    · rename_i ho
      split at he
      · rename_i o hoo
        obtain ⟨q, hq, rfl⟩ := jmp_ok he
        exact lv_tableIn hx hb hd (fun h => ho (Or.inl h)) (fun h => ho (Or.inr h)) hoo hq (K.stay A)
      · cases he
  · cases he
theorem so_lsw {d : Int} {ps : Array (Int × Int)} (A : At1 p s m args meth c R y π L xs D cA M H locs cells slots La ls) (hd : decode (mC y) pc = .ok (.lookupswitch d ps, n))
    (he : e_lsw d ps pc ls st M = some t) (K : KK p l e R s m args below meth c cells slots Q y π L xs D cA M t) : W p l e R s m args below meth c H locs cells slots Q (F0 m pc La (st.map (rv π))) := by
  obtain ⟨⟨hx, hb, -⟩, -⟩ := id A
  unfold e_lsw at he
  split at he
  · rename_i x r
    split at he
    · rename_i ho
      obtain ⟨q, hq, rfl⟩ := jmp_ok he
      exact lv_lookup hx hb hd ho rfl hq (K.stay A)
    · cases he
  · cases he
theorem vrf_cat (r : Option Nat) : (va_rf r).category = 1 := by cases r <;> rfl
theorem so_dup (A : At1 p s m args meth c R y π L xs D cA M H locs cells slots La ls) (hd : decode (mC y) pc = .ok (.dup, 1))
    (he : e_stk 0 pc ls st M = some t) (K : KK p l e R s m args below meth c cells slots Q y π L xs D cA M t) : W p l e R s m args below meth c H locs cells slots Q (F0 m pc La (st.map (rv π))) := by
  obtain ⟨⟨hx, hb, -⟩, -⟩ := id A
  unfold e_stk at he
  split at he <;> rename_i hi
  · cases he; exact lv_dup hx hb hd rfl (K.stay A)
  · cases he; exact lv_dup hx hb hd (by show (va_rf _).category = 1; exact vrf_cat _) (K.stay A)
  all_goals first | omega | cases he
theorem so_pop (A : At1 p s m args meth c R y π L xs D cA M H locs cells slots La ls) (hd : decode (mC y) pc = .ok (.pop, 1))
    (he : e_stk 1 pc ls st M = some t) (K : KK p l e R s m args below meth c cells slots Q y π L xs D cA M t) : W p l e R s m args below meth c H locs cells slots Q (F0 m pc La (st.map (rv π))) := by
  obtain ⟨⟨hx, hb, -⟩, -⟩ := id A
  unfold e_stk at he
  split at he <;> rename_i hi
  · omega
  · omega
  · cases he; exact lv_pop hx hb hd (va := .int _) rfl (K.stay A)
  · cases he; exact lv_pop hx hb hd (va := va_rf _) (vrf_cat _) (K.stay A)
  all_goals first | omega | cases he
theorem so_dupx (A : At1 p s m args meth c R y π L xs D cA M H locs cells slots La ls) (hd : decode (mC y) pc = .ok (.dup_x1, 1))
    (he : e_stk 2 pc ls st M = some t) (K : KK p l e R s m args below meth c cells slots Q y π L xs D cA M t) : W p l e R s m args below meth c H locs cells slots Q (F0 m pc La (st.map (rv π))) := by
  obtain ⟨⟨hx, hb, -⟩, -⟩ := id A
  unfold e_stk at he
  split at he <;> rename_i hi
  · omega
  · omega
  · omega
  · omega
  · cases he; exact lv_dup_x1 hx hb hd (va := .int _) (vb := va_rf _) rfl (vrf_cat _) (K.stay A)
  all_goals first | omega | cases he
theorem so_dup2 (A : At1 p s m args meth c R y π L xs D cA M H locs cells slots La ls) (hd : decode (mC y) pc = .ok (.dup2, 1))
    (he : e_stk 3 pc ls st M = some t) (K : KK p l e R s m args below meth c cells slots Q y π L xs D cA M t) : W p l e R s m args below meth c H locs cells slots Q (F0 m pc La (st.map (rv π))) := by
  obtain ⟨⟨hx, hb, -⟩, -⟩ := id A
  unfold e_stk at he
  split at he <;> rename_i hi
  · omega
  · omega
  · omega
  · omega
  · omega
  · cases he; exact lv_dup2_11 hx hb hd (va := .int _) (vb := va_rf _) rfl (vrf_cat _) (K.stay A)
  · cases he
theorem so_cv {k : Nat} (A : At1 p s m args meth c R y π L xs D cA M H locs cells slots La ls)
    (r0 : k = 0 → ∀ (a : Int32) (rest : List Value), W p l e R s m args below meth c H locs cells slots Q (F0 m (pc + 1) La (.long a.toInt64 :: rest)) → W p l e R s m args below meth c H locs cells slots Q (F0 m pc La (.int a :: rest)))
    (r1 : k = 1 → ∀ (a : Int64) (rest : List Value), W p l e R s m args below meth c H locs cells slots Q (F0 m (pc + 1) La (.int a.toInt32 :: rest)) → W p l e R s m args below meth c H locs cells slots Q (F0 m pc La (.long a :: rest)))
    (r2 : k = 2 → ∀ (x y' : Int64) (rest : List Value), W p l e R s m args below meth c H locs cells slots Q (F0 m (pc + 1) La (.int (lg_cmp x y') :: rest)) → W p l e R s m args below meth c H locs cells slots Q (F0 m pc La (.long y' :: .long x :: rest)))
    (r3 : k = 3 → ∀ (x : Int64) (y' : Int32) (rest : List Value), W p l e R s m args below meth c H locs cells slots Q (F0 m (pc + 1) La (.long (x <<< (y'.toInt64 &&& 63)) :: rest)) → W p l e R s m args below meth c H locs cells slots Q (F0 m pc La (.int y' :: .long x :: rest)))
    (he : e_cv k pc ls st M = some t) (K : KK p l e R s m args below meth c cells slots Q y π L xs D cA M t) : W p l e R s m args below meth c H locs cells slots Q (F0 m pc La (st.map (rv π))) := by
  unfold e_cv at he
  split at he
  · cases he; exact r0 rfl _ _ (K.stay A)
  · cases he; exact r1 rfl _ _ (K.stay A)
  · cases he; exact r2 rfl _ _ _ (K.stay A)
  · cases he; exact r3 rfl _ _ _ (K.stay A)
  · cases he
theorem so_inc {k : Nat} {z : Int} (A : At1 p s m args meth c R y π L xs D cA M H locs cells slots La ls) (hd : decode (mC y) pc = .ok (.iinc k z, 3))
    (he : e_inc k z pc ls st M = some t) (K : KK p l e R s m args below meth c cells slots Q y π L xs D cA M t) : W p l e R s m args below meth c H locs cells slots Q (F0 m pc La (st.map (rv π))) := by
  obtain ⟨⟨hx, hb, -⟩, -⟩ := id A
  unfold e_inc at he
  obtain ⟨lv, h1, hlen, h3⟩ := A.2.2.2.1
  split at he
  · rename_i x hk
    cases he
    have hkn : k < mL y := by rw [← hlen]; exact (List.getElem?_eq_some_iff.mp hk).1
    have hm := h3 k (vi x) hk (fun ⟨x, hx⟩ => by cases hx)
    obtain ⟨j, hj⟩ := List.getElem?_of_mem hm
    exact lv_iinc (k := j) hx hb hd h1 hj rfl hkn rfl (fun La' h' => K.same A (LSt.put1 (v := vi _) hlen h3 hkn rfl h'))
  · cases he
theorem so_nul {o : Int} {bb : Bool} (A : At1 p s m args meth c R y π L xs D cA M H locs cells slots La ls)
    (row : ∀ (r : Option Nat) (rest : List Value) (q : Nat), (pc : Int) + o = (q : Int) → (r.isNone = bb → W p l e R s m args below meth c H locs cells slots Q (F0 m q La rest)) → (¬ r.isNone = bb → W p l e R s m args below meth c H locs cells slots Q (F0 m (pc + 3) La rest)) → W p l e R s m args below meth c H locs cells slots Q (F0 m pc La (va_rf r :: rest)))
    (he : e_nul bb o pc ls st M = some t) (K : KK p l e R s m args below meth c cells slots Q y π L xs D cA M t) : W p l e R s m args below meth c H locs cells slots Q (F0 m pc La (st.map (rv π))) := by
  unfold e_nul at he
  split at he
  · rename_i r st' q hq
    have hr : (ro π r).isNone = (r == 0) := by
      unfold ro
      by_cases h : r = 0
      · rw [if_pos h, h]; rfl
      · rw [if_neg h]; simp [h]
    refine row _ _ _ (tgt_ok hq) (fun hx => ?_) (fun hx => ?_)
    · rw [hr] at hx; rw [if_pos hx] at he; cases he; exact K.stay A
    · rw [hr] at hx; rw [if_neg hx] at he; cases he; exact K.stay A
  · cases he
theorem ex_sound {i : Instr} (A : At1 p s m args meth c R y π L xs D cA M H locs cells slots La ls) (hcn : cStr (mCl y) = (mY y).cls) (hd : decode (mC y) pc = .ok (i, n)) (hn : okN i n = true)
    (he : ex y (mCl y) i n pc ls st M = some t) (hka : mX t.2.2.2 ≤ kA) (hroom : cells + (mX t.2.2.2 - mX M) ≤ R.cells ∧ slots + (mS t.2.2.2 - mS M) ≤ R.slots) (K : KK p l e R s m args below meth c cells slots Q y π L xs D cA M t) : W p l e R s m args below meth c H locs cells slots Q (F0 m pc La (st.map (rv π))) := by
  obtain ⟨⟨hx, hb, hml, hts, hown, hK, hgv, -, -, hbase⟩, hrel, hS, hl, hcs, hfr, hlo⟩ := id A
  have hroom0 : cells ≤ R.cells ∧ slots ≤ R.slots := by omega
  cases i <;> simp only [ex] at he <;> (try (cases he; done)) <;> simp only [okN, beq_iff_eq] at hn <;> (try subst hn)
  case iconst k => exact so_c A (fun k => lv_iconst hx hb hd rfl k) he K
  case bipush k => exact so_c A (fun k => lv_bipush hx hb hd rfl k) he K
  case sipush k => exact so_c A (fun k => lv_sipush hx hb hd rfl k) he K
  case lconst k => exact so_c A (fun k => lv_lconst hx hb hd rfl k) he K
  case aconst_null => exact so_c A (fun k => lv_null hx hb hd k) he K
  case ldc k => exact so_ldcS A hd he K
  case ldc_w k =>
    unfold e_ldc at he
    split at he
    · rename_i v hv
      cases he
      exact lv_ldcw hx hb hown (hts _ (kI_ok hv)) hd (K.stay A)
    · cases he
  case ldc2_w k =>
    unfold e_ldl at he
    split at he
    · rename_i v hv
      cases he
      exact lv_ldc2 hx hb hown (hts _ (kL_ok hv)) hd (K.stay A)
    · cases he
  case iload_n k => exact so_ld A (fun _ x h k => lv_iload_n hx hb hd rfl h k) (fun h => by omega) (fun h => by omega) he K
  case iload k => exact so_ld A (fun _ x h k => lv_iload hx hb hd h k) (fun h => by omega) (fun h => by omega) he K
  case aload_n k => exact so_ld A (fun h => by omega) (fun _ r h k => by
    cases r
    · exact lv_aload_nN hx hb hd rfl h k
    · exact lv_aload_n hx hb hd rfl h k) (fun h => by omega) he K
  case aload k => exact so_ld A (fun h => by omega) (fun _ r h k => by
    cases r
    · exact lv_aloadN hx hb hd h k
    · exact lv_aload hx hb hd h k) (fun h => by omega) he K
  case lload_n k => exact so_ld A (fun h => by omega) (fun h => by omega) (fun _ x h k => lv_lload_n hx hb hd rfl h k) he K
  case lload k => exact so_ld A (fun h => by omega) (fun h => by omega) (fun _ x h k => lv_lload hx hb hd h k) he K
  case istore_n k => exact so_st A (fun _ x rest lv h hk kk => lv_istore_n hx hb hd rfl h hk rfl kk) (fun h => by omega) (fun h => by omega) he K
  case istore k => exact so_st A (fun _ x rest lv h hk kk => lv_istore hx hb hd h hk rfl kk) (fun h => by omega) (fun h => by omega) he K
  case astore_n k => exact so_st A (fun h => by omega) (fun _ r rest lv h hk kk => by
    cases r
    · exact lv_astore_nN hx hb hd rfl h hk rfl kk
    · exact lv_astore_n hx hb hd rfl h hk rfl kk) (fun h => by omega) he K
  case astore k => exact so_st A (fun h => by omega) (fun _ r rest lv h hk kk => by
    cases r
    · exact lv_astoreN hx hb hd h hk rfl kk
    · exact lv_astore hx hb hd h hk rfl kk) (fun h => by omega) he K
  case lstore_n k => exact so_st A (fun h => by omega) (fun h => by omega) (fun _ x rest lv h hk kk => lv_lstore_n hx hb hd rfl h hk rfl kk) he K
  case lstore k => exact so_st A (fun h => by omega) (fun h => by omega) (fun _ x rest lv h hk kk => lv_lstore hx hb hd h hk rfl kk) he K
  case iinc k z => exact so_inc A hd he K
  case iadd => exact so_b A (fun x y rest k => lv_iadd hx hb hd k) he K
  case isub => exact so_b A (fun x y rest k => lv_isub hx hb hd k) he K
  case imul => exact so_b A (fun x y rest k => lv_imul hx hb hd k) he K
  case iand => exact so_b A (fun x y rest k => lv_iand hx hb hd k) he K
  case ior => exact so_b A (fun x y rest k => lv_ior hx hb hd k) he K
  case ixor => exact so_b A (fun x y rest k => lv_ixor hx hb hd k) he K
  case ishl => exact so_b A (fun x y rest k => lv_ishl hx hb hd k) he K
  case ishr => exact so_b A (fun x y rest k => lv_ishr hx hb hd k) he K
  case iushr => exact so_b A (fun x y rest k => lv_iushr hx hb hd rfl k) he K
  case idiv => exact so_d A (fun x y rest h k => lv_idiv hx hb hd h k) he K
  case irem => exact so_d A (fun x y rest h k => lv_irem hx hb hd h (by rw [irem_eq]; exact k)) he K
  case ineg => exact so_u A (fun x rest k => lv_ineg hx hb hd k) he K
  case i2b => exact so_u A (fun x rest k => lv_i2b hx hb hd rfl k) he K
  case i2s => exact so_u A (fun x rest k => lv_i2s hx hb hd rfl k) he K
  case i2c => exact so_u A (fun x rest k => lv_i2c hx hb hd rfl k) he K
  case i2l => exact so_cv A (fun _ a rest k => lv_i2l hx hb hd rfl k) (fun h => by omega) (fun h => by omega) (fun h => by omega) he K
  case l2i => exact so_cv A (fun h => by omega) (fun _ a rest k => lv_l2i hx hb hd rfl k) (fun h => by omega) (fun h => by omega) he K
  case lcmp => exact so_cv A (fun h => by omega) (fun h => by omega) (fun _ x y rest k => W.lcmp hx hb hd k) (fun h => by omega) he K
  case lshl => exact so_cv A (fun h => by omega) (fun h => by omega) (fun h => by omega) (fun _ x y rest k => lv_lshl hx hb hd rfl k) he K
  case ladd => exact so_lb A (fun x y rest k => lv_ladd hx hb hd k) he K
  case lmul => exact so_lb A (fun x y rest k => lv_lmul hx hb hd k) he K
  case land => exact so_lb A (fun x y rest k => lv_land hx hb hd k) he K
  case lor => exact so_lb A (fun x y rest k => lv_lor hx hb hd k) he K
  case dup => exact so_dup A hd he K
  case pop => exact so_pop A hd he K
  case dup_x1 => exact so_dupx A hd he K
  case dup2 => exact so_dup2 A hd he K
  case ifCond k o =>
    cases k
    · exact so_if A (fun x rest q hq k1 k2 => lv_if_eq hx hb hd hq (fun h => k1 (by simp [c1, h])) (fun h => k2 (by simp [c1, h]))) he K
    · exact so_if A (fun x rest q hq k1 k2 => lv_if_ne hx hb hd hq (fun h => k1 (by simp [c1, h])) (fun h => k2 (by simp [c1, h]))) he K
    · exact so_if A (fun x rest q hq k1 k2 => lv_if_lt hx hb hd hq (fun h => k1 (by simp [c1, h])) (fun h => k2 (by simp only [c1, h, decide_false]))) he K
    · exact so_if A (fun x rest q hq k1 k2 => lv_if_ge hx hb hd hq (fun h => k1 (by simp [c1, h])) (fun h => k2 (by simp only [c1, h, decide_false]))) he K
    · exact so_if A (fun x rest q hq k1 k2 => lv_if_gt hx hb hd hq (fun h => k1 (by simp [c1, h])) (fun h => k2 (by simp only [c1, h, decide_false]))) he K
    · exact so_if A (fun x rest q hq k1 k2 => lv_if_le hx hb hd hq (fun h => k1 (by simp [c1, h])) (fun h => k2 (by simp only [c1, h, decide_false]))) he K
  case if_icmp k o =>
    cases k
    · exact so_ic A (fun x y rest q hq k1 k2 => lv_icmp_eq hx hb hd hq (fun h => k1 (by simp [c2, h])) (fun h => k2 (by simp [c2, h]))) he K
    · exact so_ic A (fun x y rest q hq k1 k2 => lv_icmp_ne hx hb hd hq (fun h => k1 (by simp [c2, h])) (fun h => k2 (by simp [c2, h]))) he K
    · exact so_ic A (fun x y rest q hq k1 k2 => lv_icmp_lt hx hb hd hq (fun h => k1 (by simp [c2, h])) (fun h => k2 (by simp only [c2, h, decide_false]))) he K
    · exact so_ic A (fun x y rest q hq k1 k2 => lv_icmp_ge hx hb hd hq (fun h => k1 (by simp [c2, h])) (fun h => k2 (by simp only [c2, h, decide_false]))) he K
    · exact so_ic A (fun x y rest q hq k1 k2 => lv_icmp_gt hx hb hd hq (fun h => k1 (by simp [c2, h])) (fun h => k2 (by simp only [c2, h, decide_false]))) he K
    · exact so_ic A (fun x y rest q hq k1 k2 => lv_icmp_le hx hb hd hq (fun h => k1 (by simp [c2, h])) (fun h => k2 (by simp only [c2, h, decide_false]))) he K
  case goto o =>
    obtain ⟨q, hq, rfl⟩ := jmp_ok he
    exact lv_goto hx hb hd hq (K.stay A)
  case ifnull o => exact so_nul A (fun r rest q hq k1 k2 => by
    cases r
    · exact lv_ifnullN hx hb hd hq (k1 rfl)
    · exact lv_ifnull hx hb hd (k2 (by simp))) he K
  case ifnonnull o => exact so_nul A (fun r rest q hq k1 k2 => by
    cases r
    · exact lv_ifnonnullN hx hb hd (k2 (by simp))
    · exact lv_ifnonnull hx hb hd hq (k1 rfl)) he K
  case tableswitch d lo hi offs => exact so_sw A hd he K
  case lookupswitch d ps => exact so_lsw A hd he K
  case getfield k => exact so_get A hd he K
  case putfield k => exact so_put A hd hcn he K
  case iaload => exact so_iald A hd he K
  case baload => exact so_bald A hd he K
  case bastore => exact so_bast A hd he K
  case getstatic k => exact so_gets A hd he K
  case checkcast k => exact so_cast A hd he K
  case invokevirtual k => exact so_cln A hd he hka hroom K
  case iastore => exact so_iast A hd he K
  case laload => exact so_lald A hd he K
  case lastore => exact so_last A hd he K
  case aaload => exact so_aald A hd he K
  case aastore => exact so_aast A hd he K
  case arraylength => exact so_alen A hd he K
  case new k => exact so_new A hd he hka hroom K
  case newarray a => exact so_nwa A hd he hka hroom K
  case anewarray k => exact so_anw A hd he hka hroom K
  case multianewarray k q =>
    split at he
    · rename_i hq
      subst hq
      exact so_mnw A hd he hka hroom K
    · cases he
  case invokestatic k =>
    unfold e_call at he
    split at he
    · rename_i tb hb'
      exact so_bi A hd hb' he hroom0 K
    · cases he
  case invokespecial k =>
    unfold e_call at he
    split at he
    · rename_i tb hb'
      exact so_oi A hd hb' he K
    · cases he
end Ops4
