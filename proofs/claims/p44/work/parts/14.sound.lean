/-! ===== a run of the evaluator is a run of the machine ===== -/
section Sound
variable {p : Program} {l : Launch} {e : Env} {R : Room} {s : State} {m : MethodId} {args : Array Value} {below : List Frame} {meth : Method} {c : Code} {H : Heap} {locs : List Loc} {cells slots : Nat} {Q : State → Prop}
variable {π : Par} {L : Nat} {xs : Nat → Int32} {D : va_G} {cA : Nat → ClassId} {y pc n : Nat} {La : Array Slot} {ls : Loc1} {st : List PV} {M : Mem}
theorem met_self {yy : Nat} (hmf : MF yy) : GoodIn TS (wY yy) := ts_self (fun w hw => by
    rcases List.mem_cons.mp hw with rfl | hw
    · exact hmf.1
    · exact hw)
theorem fitC_ok {yy : Nat} {as rest as' rest' : List PV} {y' : Nat} (h : fitC yy as rest = some (y', as', rest')) : y' = yy ∧ as' = as ∧ rest' = rest ∧ szL rest ≤ 8 ∧ (entL as).length ≤ mL yy ∧ yy ≠ 0 := by
  unfold fitC at h
  split at h
  · rename_i hc
    cases h
    exact ⟨rfl, rfl, rfl, hc.1, hc.2.1, hc.2.2⟩
  · cases h
/-- every call of the evaluator -/
theorem call_sound {i : Instr} {yy d' mc ms : Nat} {as rest : List PV} {v1 : Option PV} {M1 : Mem}
    (A : At1 p s m args meth c R y π L xs D cA M H locs cells slots La ls) (hd : decode (mC y) pc = .ok (i, n)) (hn : okN i n = true) (hcal : cal (mCl y) i st M = some (yy, as, rest))
    (hM : yy < nMeth → yy ≠ 0 → (entL as).length ≤ mL yy → Met l (mY yy) (wY yy) (rmD d' mc ms) (PcE π L xs D cA M as) (QcE π L xs D cA v1 M1) mc ms (fun q => pA π ≤ q))
    (hfr : d' + 2 ≤ R.frames) (hlo : 40 * (d' + 2) ≤ R.locals) (hf : cells + mc ≤ R.cells ∧ slots + ms ≤ R.slots)
    (kk : ∀ (H1 : Heap) (locs1 : List Loc), Rel π D cA L xs M1 H1 → va_S (fun q => pA π ≤ q) s.heap H1 locs1 → W p l e R s m args below meth c H1 locs1 (cells + mc) (slots + ms) Q (F0 m (pc + 3) La ((psh v1 rest).map (rv π)))) :
    W p l e R s m args below meth c H locs cells slots Q (F0 m pc La (st.map (rv π))) := by
  obtain ⟨⟨hx, hb, hml, hts, hown, hK, hgv, hks, -, hbase⟩, hrel, hS, hl, hcs, -, -⟩ := id A
  have hPre : ∀ U : State, U.heap = H → s.WarmedH U.vm → PcE π L xs D cA M as (as.map (rv π)).toArray U := fun U hU hW => ⟨rfl, by rw [hU]; exact hrel, va_K.moved hW.alike hK, GV.warm hW hgv, by rw [hU]; exact KS.warm hW (hks.kept hS.1 hS.2.1)⟩
  have hsz : (F0 m pc La (st.map (rv π))).locals.size = mL y := hl.size
  have hfix : CallFix p m c (mC y) (mL y) s args TS (cStr (mCl y)) := ⟨hx, hb, hml, hown, hts⟩
  have hroomL : ∀ yy, MF yy → (rmD d' mc ms).frames + 1 ≤ R.frames ∧ 8 + (mL yy + 11) + (rmD d' mc ms).locals ≤ R.locals := fun yy hmf => by
    have h21 : mL yy ≤ 21 := hmf.2.2.2.1
    exact ⟨hfr, by show 8 + (mL yy + 11) + 40 * (d' + 1) ≤ R.locals; omega⟩
  have hrw : ∀ rest : List PV, szL rest ≤ 8 → 2 * (F0 m pc La (st.map (rv π))).monitorRoom + ((rest.map (rv π)).map fun v => v.category).sum ≤ 8 := fun rest h => by
    have := cat_sum (π := π) rest
    exact lv_room (by omega)
  cases i <;> simp only [cal] at hcal <;> (try (cases hcal; done)) <;> simp only [okN, beq_iff_eq] at hn <;> subst hn
  case invokestatic k =>
    have hS1 : (calS (sT (mCl y) k) st = some (yy, as, rest)) ∨ (calS (nT (mCl y) k) st = some (yy, as, rest)) := by
      split at hcal
      · rename_i h; exact Or.inl (h.trans hcal)
      · exact Or.inr hcal
    rcases hS1 with hc | hc
    · unfold calS at hc
      split at hc
      · rename_i y1 n1 ht
        split at hc
        · rename_i as1 rest1 hpop
          obtain ⟨rfl, rfl, rfl, hlen, hent, h0⟩ := fitC_ok hc
          obtain ⟨hlt, hnp, hlink, hstat⟩ := sf_ok ht
          simp only at hlt hnp hlink hstat
          have hmf := mf_of _ hlt h0
          obtain ⟨bs, e1, e2, e3⟩ := pop_spec _ _ _ _ _ hpop
          rw [List.append_nil] at e1
          subst e1
          refine after_call A (va_runS (As := as.map (rv π)) (rest := rest.map (rv π)) hfix (hM hlt h0 hent) (va_cwS n1 hts (ts_self (fun w hw => ?_)) rfl rfl rfl ⟨hmf.2.2.2.2.2.1, hmf.2.2.2.2.2.2, hnp⟩ (hroomL _ hmf)) ⟨PcE.blind, hPre⟩ rfl (by rw [List.length_map]; exact e2) hsz (by rw [e3, List.map_append, List.map_reverse]) (hrw _ hlen) hd hf) kk
          simp only [va_wsS, List.cons_append, List.nil_append, List.mem_cons] at hw
          rcases hw with rfl | rfl | rfl | rfl | hw
          · exact hlink
          · exact hstat
          · exact hmf.2.1
          · exact hmf.1
          · exact hw
        · cases hc
      · cases hc
    · unfold calS at hc
      split at hc
      · rename_i y1 n1 ht
        split at hc
        · rename_i as1 rest1 hpop
          obtain ⟨rfl, rfl, rfl, hlen, hent, h0⟩ := fitC_ok hc
          obtain ⟨hlt, hnp, hlink, hstat⟩ := nf_ok ht
          simp only at hlt hnp hlink hstat
          have hmf := mf_of _ hlt h0
          obtain ⟨bs, e1, e2, e3⟩ := pop_spec _ _ _ _ _ hpop
          rw [List.append_nil] at e1
          subst e1
          exact after_call A (va_runSN (As := as.map (rv π)) (rest := rest.map (rv π)) (host := "FrogBreath") hfix (hM hlt h0 hent) ⟨va_cnB n1 hts (met_self hmf) rfl rfl rfl (hgv.1 _ hlink) (hts _ hmf.2.1) ⟨hmf.2.2.2.2.2.1, hmf.2.2.2.2.2.2, hnp⟩ (hroomL _ hmf), hts _ hstat, trivial⟩ ⟨PcE.blind, hPre⟩ rfl (by rw [List.length_map]; exact e2) hsz (by rw [e3, List.map_append, List.map_reverse]) (hrw _ hlen) hd hf) kk
        · cases hc
      · cases hc
  case invokespecial k =>
    have hS1 : (calP (iT (mCl y) k) (fun k => Nat.blt k 13) st M = some (yy, as, rest)) ∨ (calP (jT (mCl y) k) (fun k => Nat.blt k 13) st M = some (yy, as, rest)) ∨ (calP (pT (mCl y) k) (fun k => Nat.beq k 0) st M = some (yy, as, rest)) := by
      split at hcal
      · rename_i h; exact Or.inl (h.trans hcal)
      · split at hcal
        · rename_i h; exact Or.inr (Or.inl (h.trans hcal))
        · exact Or.inr (Or.inr hcal)
    rcases hS1 with hc | hc | hc
    · unfold calP at hc
      split at hc
      · rename_i y1 n1 ht
        split at hc
        · rename_i as1 r rest1 hpop
          split at hc
          · rename_i hok
            obtain ⟨rfl, rfl, rfl, hlen, hent, h0⟩ := fitC_ok hc
            obtain ⟨hlt, hnp, hlink, hinst, hname, hret⟩ := if__ok ht
            simp only at hlt hnp hlink hinst hname hret
            have hmf := mf_of _ hlt h0
            obtain ⟨bs, e1, e2, e3⟩ := pop_spec _ _ _ _ _ hpop
            rw [List.append_nil] at e1
            subst e1
            have hkr : mK M r < 13 := Nat.le_of_ble_eq_true hok
            obtain ⟨hr2, hrx, hrk⟩ := rel_obj hrel hkr
            have hav : (vr r :: as1).map (rv π) = .ref (pE π + (r - 2)) :: as1.map (rv π) := by rw [List.map_cons, rv_ref hr2 hrk]
            rw [hav] at hPre
            have hM := hM hlt h0 hent
            unfold wY at hM
            rw [hret] at hM
            refine after_call A (va_runI (b := pE π + (r - 2)) (As := as1.map (rv π)) (rest := rest.map (rv π)) hfix hM (cwI n1 hts (by have := met_self hmf; unfold wY at this; rw [hret] at this; exact this) rfl rfl rfl (hts _ hmf.2.1) (hts _ hlink) (hts _ hinst) hname ⟨hmf.2.2.2.2.2.1, hmf.2.2.2.2.2.2, hnp⟩ (hroomL _ hmf)) ⟨PcE.blind, hPre⟩ rfl (by rw [List.length_map]; exact e2) hsz (by rw [e3, List.map_append, List.map_reverse, List.map_cons, rv_ref hr2 hrk]) (hrw _ hlen) hd hf) kk
          · cases hc
        · cases hc
      · cases hc
    · unfold calP at hc
      split at hc
      · rename_i y1 n1 ht
        split at hc
        · rename_i as1 r rest1 hpop
          split at hc
          · rename_i hok
            obtain ⟨rfl, rfl, rfl, hlen, hent, h0⟩ := fitC_ok hc
            obtain ⟨hlt, hnp, hlink, hinst, hname, hret⟩ := jf_ok ht
            simp only at hlt hnp hlink hinst hname hret
            have hmf := mf_of _ hlt h0
            obtain ⟨bs, e1, e2, e3⟩ := pop_spec _ _ _ _ _ hpop
            rw [List.append_nil] at e1
            subst e1
            have hkr : mK M r < 13 := Nat.le_of_ble_eq_true hok
            obtain ⟨hr2, hrx, hrk⟩ := rel_obj hrel hkr
            have hav : (vr r :: as1).map (rv π) = .ref (pE π + (r - 2)) :: as1.map (rv π) := by rw [List.map_cons, rv_ref hr2 hrk]
            rw [hav] at hPre
            have hM := hM hlt h0 hent
            unfold wY at hM
            rw [hret] at hM
            refine after_call A (va_runIN (b := pE π + (r - 2)) (As := as1.map (rv π)) (rest := rest.map (rv π)) (host := "FrogBreath") hfix hM ⟨va_cnB n1 hts (by have := met_self hmf; unfold wY at this; rw [hret] at this; exact this) rfl rfl rfl (hgv.1 _ hlink) (hts _ hmf.2.1) ⟨hmf.2.2.2.2.2.1, hmf.2.2.2.2.2.2, hnp⟩ (hroomL _ hmf), hname, hts _ hinst⟩ ⟨PcE.blind, hPre⟩ rfl (by rw [List.length_map]; exact e2) hsz (by rw [e3, List.map_append, List.map_reverse, List.map_cons, rv_ref hr2 hrk]) (hrw _ hlen) hd hf) kk
          · cases hc
        · cases hc
      · cases hc
    · unfold calP at hc
      split at hc
      · rename_i y1 n1 ht
        split at hc
        · rename_i as1 r rest1 hpop
          split at hc
          · rename_i hok
            obtain ⟨rfl, rfl, rfl, hlen, hent, h0⟩ := fitC_ok hc
            obtain ⟨hc0, hlt, hnp, hno, hlink, hsame, hsup, hinst⟩ := pf_ok ht
            simp only at hlt hnp hno hlink hsame hsup hinst
            have hmf := mf_of _ hlt h0
            obtain ⟨bs, e1, e2, e3⟩ := pop_spec _ _ _ _ _ hpop
            rw [List.append_nil] at e1
            subst e1
            have hk0 : mK M r = 0 := Nat.eq_of_beq_eq_true hok
            obtain ⟨hr2, hrx, hrk⟩ := rel_obj hrel (r := r) (by omega)
            obtain ⟨hcl, -, -, -, -⟩ := clf 0 (by decide)
            have hg := ws_get (π := π) (cA := cA) hr2 hrx
            unfold cellE at hg
            rw [if_pos (by omega), hk0] at hg
            have hrecv := va_recv hK hrel.1 hcl hg
            have hav : (vr r :: as1).map (rv π) = .ref (pE π + (r - 2)) :: as1.map (rv π) := by rw [List.map_cons, rv_ref hr2 hrk]
            rw [hav] at hPre
            have hcw : va_CS R s args (cStr (mCl y)) k (mY yy) (mC yy) (mL yy) (mT yy) (wY yy) (rmD d' mc ms) mc ms n1 := by
              refine va_cwSU n1 hts (ts_self (fun w hw => ?_)) rfl rfl rfl ⟨hno, hnp⟩ (hroomL _ hmf)
              simp only [va_wsSU, List.cons_append, List.nil_append, List.mem_cons] at hw
              rcases hw with rfl | rfl | rfl | rfl | rfl | rfl | hw
              · exact hlink
              · exact hsame
              · exact hsup
              · exact hinst
              · exact hmf.2.1
              · exact hmf.1
              · exact hw
            refine after_call A (va_runSU (C := clC 0) (b := pE π + (r - 2)) (As := as1.map (rv π)) (rest := rest.map (rv π)) (hK.1 0 _ hcl).2 hfix (hM hlt h0 hent) hcw ⟨PcE.blind, hrecv, hPre⟩ rfl (by rw [List.length_map]; exact e2) hsz (by rw [e3, List.map_append, List.map_reverse, List.map_cons, rv_ref hr2 hrk]) (hrw _ hlen) hd hf) kk
          · cases hc
        · cases hc
      · cases hc
  case invokevirtual k =>
    unfold calV at hcal
    split at hcal
    · rename_i n1 hn1
      split at hcal
      · rename_i as1 r rest1 hpop
        split at hcal
        · rename_i y1 ht
          obtain ⟨rfl, rfl, rfl, hlen, hent, h0⟩ := fitC_ok hcal
          obtain ⟨hlt, hnp, hkr, hinst, hcase⟩ := vf_ok hn1 ht
          simp only at hlt hnp hkr hinst hcase
          have hmf := mf_of _ hlt h0
          obtain ⟨bs, e1, e2, e3⟩ := pop_spec _ _ _ _ _ hpop
          rw [List.append_nil] at e1
          subst e1
          obtain ⟨ad, hre, hrecv⟩ : ∃ ad : Nat, rv π (vr r) = .ref ad ∧ ∃ cell : Cell, H[ad]? = some cell ∧ cell.vm.isStatics = false ∧ s.vm.findClass (clC (if mK M r = 20 then 1 else mK M r)) = some cell.cls := by
            by_cases h20 : mK M r = 20
            · rw [if_pos h20]
              obtain ⟨o, rfl⟩ := kA_of (hrel.2.2.2.2.2.2.2.1.2 r (Or.inr h20))
              obtain ⟨c1, -⟩ := hrel.2.2.2.2.2.2.2.1.1 o
              rw [c1] at h20
              unfold mKc at h20
              have h32 : o < 32 := by
                by_cases h : o < 32
                · exact h
                · rw [if_neg h] at h20; split at h20 <;> omega
              rw [if_pos h32] at h20
              have h2 : o % 2 = 0 := by
                by_cases h : o % 2 = 0
                · exact h
                · rw [if_neg h] at h20; omega
              obtain ⟨i, rfl⟩ : ∃ i, o = 2 * i := ⟨o / 2, by omega⟩
              exact ⟨pK π (2 * i), rv_k, vk_recv (adK := fun i => pK π (2 * i)) (i := i) hks.2.1 (by omega) hS⟩
            · rw [if_neg h20] at hkr ⊢
              obtain ⟨hr2, hrx, hrk⟩ := rel_obj hrel hkr
              obtain ⟨hcl, -, -, -, -⟩ := clf _ hkr
              have hg := ws_get (π := π) (cA := cA) hr2 hrx
              unfold cellE at hg
              rw [if_pos hkr] at hg
              exact ⟨_, rv_ref hr2 hrk, va_recv hK hrel.1 hcl hg⟩
          have hav : (vr r :: as1).map (rv π) = .ref ad :: as1.map (rv π) := by rw [List.map_cons, hre]
          rw [hav] at hPre
          have hstk : (F0 m pc La (st.map (rv π))).stack = (as1.map (rv π)).reverse ++ .ref ad :: rest.map (rv π) := by
            show st.map (rv π) = _
            rw [e3, List.map_append, List.map_reverse, List.map_cons, hre]
          rcases hcase with ⟨hlink, hsel, hcc⟩ | ⟨x, owner, hnx, ho1, ho2, hlink, hsame, hsel, hcase2⟩
          · refine after_call A (va_runV (C := clC (if mK M r = 20 then 1 else mK M r)) (b := ad) (As := as1.map (rv π)) (rest := rest.map (rv π)) hfix (hM hlt h0 hent) (cwV n1 hts (ts_self (fun w hw => ?_)) rfl rfl rfl ⟨hcc, hmf.2.2.2.2.2.1, hmf.2.2.2.2.2.2, hnp⟩ (hroomL _ hmf)) ⟨PcE.blind, hrecv, hPre⟩ rfl (by rw [List.length_map]; exact e2) hsz hstk (hrw _ hlen) hd hf) kk
            simp only [wsV, List.cons_append, List.nil_append, List.mem_cons] at hw
            rcases hw with rfl | rfl | rfl | rfl | rfl | hw
            · exact hlink
            · exact hinst
            · exact hsel
            · rw [← hcc]; exact hmf.2.1
            · exact hmf.1
            · exact hw
          · have hcw : va_CU R s args (cStr (mCl y)) (clC (if mK M r = 20 then 1 else mK M r)) owner k x (mY yy) (mC yy) (mL yy) (mT yy) (wY yy) (rmD d' mc ms) mc ms n1 := by
              rcases hcase2 with hyx | ⟨hin2, b0, m0, r0, hcode0⟩
              · refine va_cwU n1 hts (ts_self (fun w hw => ?_)) rfl rfl rfl hyx ⟨ho1, ho2, hnx⟩ (hroomL _ hmf)
                simp only [va_wsU, List.cons_append, List.nil_append, List.mem_cons] at hw
                rcases hw with rfl | rfl | rfl | rfl | rfl | rfl | hw
                · exact hlink
                · exact hsame
                · exact hsel
                · exact hinst
                · exact hmf.2.1
                · exact hmf.1
                · exact hw
              · refine va_cwO n1 hts (ts_self (fun w hw => ?_)) rfl rfl rfl hcode0 ⟨ho1, ho2, hnx⟩ (hroomL _ hmf)
                simp only [va_wsO, List.cons_append, List.nil_append, List.mem_cons] at hw
                rcases hw with rfl | rfl | rfl | rfl | rfl | rfl | rfl | hw
                · exact hlink
                · exact hsame
                · exact hin2
                · exact hsel
                · exact hinst
                · exact hmf.2.1
                · exact hmf.1
                · exact hw
            exact after_call A (va_runU (b := ad) (As := as1.map (rv π)) (rest := rest.map (rv π)) hfix (hM hlt h0 hent) hcw ⟨PcE.blind, hrecv, hPre⟩ rfl (by rw [List.length_map]; exact e2) hsz hstk (hrw _ hlen) hd hf) kk
        · cases hcal
      · cases hcal
    · cases hcal
end Sound
