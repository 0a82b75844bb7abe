/-! ===== calls, and the whole run ===== -/
section Calls1
variable {p : Program} {l : Launch} {e : Env} {R : Room} {s : State} {m : MethodId} {args : Array Value} {below : List Frame} {meth : Method} {c : Code} {H : Heap} {locs : List Loc} {cells slots : Nat} {Q : State → Prop}
variable {π : Par} {L : Nat} {xs : Nat → Int32} {D : va_G} {cA : Nat → ClassId} {y pc n : Nat} {La : Array Slot} {ls : Loc1} {st : List PV} {M : Mem}
/-- behind a call -/
theorem after_call {v1 : Option PV} {M1 : Mem} {mc ms : Nat} {rest : List PV} {a : Array Value} {st0 : List Value} (A : At1 p s m args meth c R y π L xs D cA M H locs cells slots La ls)
    (hr : va_Run p l e R s m args below meth c H locs cells slots mc ms (F0 m pc La st0) (rest.map (rv π)) (QcE π L xs D cA v1 M1 a) (fun q => pA π ≤ q))
    (kk : ∀ (H1 : Heap) (locs1 : List Loc), Rel π D cA L xs M1 H1 → va_S (fun q => pA π ≤ q) s.heap H1 locs1 → W p l e R s m args below meth c H1 locs1 (cells + mc) (slots + ms) Q (F0 m (pc + 3) La ((psh v1 rest).map (rv π)))) :
    W p l e R s m args below meth c H locs cells slots Q (F0 m pc La st0) := by
  obtain ⟨-, hrel, hS, -, -, -, -⟩ := id A
  match v1, hr, kk with
  | none, hr, kk => exact va_callv (a := a) hr hS (fun q _ h => h) (fun q h => h) (fun _ t H1 locs1 ht _ _ hB _ _ hS1 => kk H1 locs1 (by rw [← ht]; exact hB) hS1)
  | some (.inl x), hr, kk => exact va_calli (a := a) hr hS (fun q _ h => h) (fun q h => h) (fun r _ t H1 locs1 ht _ hp hB _ _ hS1 => by
      have hp : r = x := hp
      subst hp; exact kk H1 locs1 (by rw [← ht]; exact hB) hS1)
  | some (.inr (.inl x)), hr, kk => exact va_callr (a := a) hr hS (fun q _ h => h) (fun q h => h) (fun _ r t H1 locs1 ht _ _ hB _ _ hS1 => by
      obtain ⟨h2, h3, h4⟩ := hB
      have := kk H1 locs1 (by rw [← ht]; exact h4) hS1
      rw [show (psh (some (vr x)) rest).map (rv π) = .ref r :: rest.map (rv π) by simp only [psh, List.map_cons, rv_ref h2, h3]] at this
      exact this)
  | some (.inr (.inr x)), hr, kk => exact va_calll (a := a) hr hS (fun q _ h => h) (fun q h => h) (fun r _ t H1 locs1 ht _ hp hB _ _ hS1 => by
      have hp : r = x := hp
      subst hp; exact kk H1 locs1 (by rw [← ht]; exact hB) hS1)
theorem sub_step {vm : Vm} {a t q : ClassId} {k : Class} {N : Nat} (hk : vm.classes[a]? = some k) (hs : k.super = some q) (h : vm.isSubclassAux N q t = true) : vm.isSubclassAux (N + 1) a t = true := by
  unfold Vm.isSubclassAux
  rw [hk]
  simp only [hs, h, Bool.or_true]
theorem sub_refl {vm : Vm} {t : ClassId} {N : Nat} : vm.isSubclassAux (N + 1) t t = true := by
  unfold Vm.isSubclassAux; simp
/-- a super call, the member found above the class that is named -/
theorem call_super {yy : Nat} {i : Nat} {as rest : List PV} {r nA d' mc ms : Nat} {Pc : Array Value → State → Prop} {Qc : Array Value → State → Outcome → State → Prop} {sc xc : String} {st0 : List Value}
    (A : At1 p s m args meth c R y π L xs D cA M H locs cells slots La ls) (hM : Met l (mY yy) (wY yy) (rmD d' mc ms) Pc Qc mc ms (fun q => pA π ≤ q)) (hmf : MF yy)
    (hfr : d' + 2 ≤ R.frames) (hlo : 40 * (d' + 2) ≤ R.locals) (hf : cells + mc ≤ R.cells ∧ slots + ms ≤ R.slots) (hd : decode (mC y) pc = .ok (.invokespecial i, 3))
    (hnp : npM yy nA) (hinst : Jvm.Cond.instanceMethod (mY yy) ∈ TS) (hno : (mY yy).name ≠ "<init>") (hlink : Jvm.Cond.methodLink (cStr (mCl y)) i ⟨xc, (mY yy).name, (mY yy).desc⟩ ∈ TS) (hsame : Jvm.Cond.sameMethod xc (mY yy).cls (mY yy).name (mY yy).desc ∈ TS)
    (hsup : Jvm.Cond.superclass (cStr (mCl y)) sc ∈ TS) (hxs : sc = xc) (hchain : sc = (mY yy).cls ∨ (Jvm.Cond.superclass sc (mY yy).cls ∈ TS) ∨ ∃ s2, Jvm.Cond.superclass sc s2 ∈ TS ∧ Jvm.Cond.superclass s2 (mY yy).cls ∈ TS)
    (hb1 : FrameBlind Pc) (hPc : ∀ U : State, U.heap = H → s.WarmedH U.vm → Pc (Value.ref (pE π + (r - 2)) :: as.map (rv π)).toArray U)
    (hk : mK M r < 13) (hn : as.length = nA) (hlen : szL rest ≤ 8) (hst : st0 = (as.map (rv π)).reverse ++ .ref (pE π + (r - 2)) :: rest.map (rv π)) :
    va_Run p l e R s m args below meth c H locs cells slots mc ms (F0 m pc La st0) (rest.map (rv π)) (Qc (Value.ref (pE π + (r - 2)) :: as.map (rv π)).toArray) (fun q => pA π ≤ q) := by
  obtain ⟨⟨hx, hb, hml, hts, hown, hK, hgv, -, -, hbase⟩, hrel, hS, hl, hcs, -, -⟩ := id A
  obtain ⟨hcode, hini, -, hmL, -, -, -⟩ := hmf
  have hmL : mL yy ≤ 21 := hmL
  have hG : GoodIn TS (wY yy) := ts_self (fun w hw => by
    rcases List.mem_cons.mp hw with rfl | hw
    · exact hcode
    · exact hw)
  have hBk : Back l R p e below s args (mY yy) 3 8 (PreOf R mc ms Pc) (PostOf Qc mc ms (fun q => pA π ≤ q)) :=
    back_of (bytes := mC yy) (maxL := mL yy) (ret := mT yy) hM hb1 rfl rfl hfr (by show 8 + (mL yy + 11) + 40 * (d' + 1) ≤ R.locals; omega) (pay_in hts hG) List.mem_cons_self (fun a' U hW => word_at hW (ts_in _ hini).2 (hts _ hini))
  obtain ⟨hr2, hrx⟩ := rel_obj hrel hk
  obtain ⟨hcl, -, -, -, -⟩ := clf _ hk
  have hg := ws_get (π := π) (cA := cA) hr2 hrx
  unfold cellE at hg
  rw [if_pos hk] at hg
  obtain ⟨cellB, hcB, hoB, hclB⟩ := va_recv hK hrel.1 hcl hg
  obtain ⟨hfc, kB, hkB, -⟩ := (hK.1 _ _ hcl).2
  have hkB2 : s.vm.classes[cellB.cls]? = some kB := by
    have := hfc.symm.trans hclB
    rw [← Option.some.inj this]; exact hkB
  have hcs2 := cat_sum (π := π) rest
  intro T hT X
  obtain ⟨mk, methM, hnamed, hmethM, hstM, habM⟩ := Cond.instanceMethod_spec (hts _ hinst)
  obtain ⟨methM', cM, hmethM', -, -, -, -, -, -, hsigM⟩ := Cond.code_spec hnamed (hts _ hcode)
  cases hmethM.symm.trans hmethM'
  obtain ⟨ps, dk, kp, hps, hdk, hkp, hsuper, -, -, hnid⟩ := Cond.superclass_spec hown (hts _ hsup)
  have hmkc : s.vm.findClass (mY yy).cls = some mk.cls := findClass_of_methodNamed hnamed
  have hsub : s.vm.isSubclass ps mk.cls = true := by
    unfold Vm.isSubclass
    rcases hchain with hc | hc | ⟨s2, hc1, hc2⟩
    · rw [hc, hmkc] at hps
      cases hps
      exact sub_refl
    · obtain ⟨p2, k2, kp2, h1, h2, h3, h4, -, -, -⟩ := Cond.superclass_spec hps (hts _ hc)
      cases hmkc.symm.trans h1
      have hlt : ps < s.vm.classes.size := (Array.getElem?_eq_some_iff.mp h2).1
      have hpos : 0 < s.vm.classes.size := Nat.lt_of_le_of_lt (Nat.zero_le _) hlt
      obtain ⟨N, hN⟩ : ∃ N, s.vm.classes.size = N + 1 := ⟨s.vm.classes.size - 1, by clear hlt; omega⟩
      rw [hN]
      exact sub_step h2 h4 sub_refl
    · obtain ⟨p2, k2, kp2, h1, h2, h3, h4, -, -, -⟩ := Cond.superclass_spec hps (hts _ hc1)
      obtain ⟨p3, k3, kp3, h5, h6, h7, h8, -, -, -⟩ := Cond.superclass_spec h1 (hts _ hc2)
      cases hmkc.symm.trans h5
      have hlt : ps < s.vm.classes.size := (Array.getElem?_eq_some_iff.mp h2).1
      have hlt2 : p2 < s.vm.classes.size := (Array.getElem?_eq_some_iff.mp h6).1
      have hlt3 : mk.cls < s.vm.classes.size := (Array.getElem?_eq_some_iff.mp h7).1
      by_cases hone : s.vm.classes.size = 1
      · rw [hone] at hlt hlt3
        have : ps = mk.cls := (Nat.lt_one_iff.mp hlt).trans (Nat.lt_one_iff.mp hlt3).symm
        rw [this]; exact sub_refl
      · have hpos : 0 < s.vm.classes.size := Nat.lt_of_le_of_lt (Nat.zero_le _) hlt
        obtain ⟨N, hN⟩ : ∃ N, s.vm.classes.size = N + 2 := ⟨s.vm.classes.size - 2, by clear hlt hlt2 hlt3; omega⟩
        rw [hN]
        exact sub_step h2 h4 (sub_step h6 h8 sub_refl)
  have hn0 : s.methodNamed? ⟨(mY yy).cls, (mY yy).name, (mY yy).desc⟩ = some mk := hnamed
  have hlen2 : ∀ sig, parseMethodDescriptor (mY yy).desc = some sig → (as.map (rv π)).length = sig.parameters.length := fun sig hs => by
    have h2 : (parseMethodDescriptor (mY yy).desc).map (fun d => d.parameters.length) = some nA := hnp
    rw [hs] at h2
    rw [List.length_map, hn]
    exact (Option.some.inj h2).symm
  obtain ⟨vm₁, X₁, hstep₁⟩ := X.invokespecialUp (x := ⟨xc, (mY yy).name, (mY yy).desc⟩) (owner := (mY yy).cls) hx hown (hts _ hlink) (hts _ hsame) hn0 hmethM hstM habM hno hdk hnid (by rw [← hxs]; exact hps) hsuper hsub (a := pE π + (r - 2)) (cell := cellB) (by rw [hT]; exact hcB)
    (fun z h => by rw [h] at hoB; cases hoB) hkB2 (g := F0 m pc La st0) rfl (argsL := as.map (rv π)) (rest := rest.map (rv π)) (hlen2 _ hsigM) hst (by rw [hb]; exact hd)
  obtain ⟨v, ⟨U', l2, c2, s2⟩, X', ⟨g', mk', t, L', e1, e2, hq, h1, hL, h2, h3⟩, hsteps⟩ := hBk m meth c ⟨T.setVm vm₁, locs, cells, slots⟩ (F0 m pc La (rest.map (rv π))) (.invokespecial i) mk (Value.ref (pE π + (r - 2)) :: as.map (rv π)).toArray X₁ rfl (by show La.size = _; rw [hl.size, hml]) (by rw [hb]; exact hd) (lv_room (st := rest.map (rv π)) (by omega)) (X₁.named hnamed) ⟨hf.1, hf.2, hPc (T.setVm vm₁) hT X₁.warmed⟩
  dsimp only [Pt.U, Pt.locs, Pt.cells, Pt.slots] at X' e1 e2 h1 h2 h3 hsteps
  subst h1; subst h2; subst h3
  exact ⟨v, (T.setVm vm₁).calling g' mk' (Value.ref (pE π + (r - 2)) :: as.map (rv π)).toArray, t, U', L', hT, X', hL, e1, e2, hq, fun target h => hstep₁ _ (by rw [doInvoke_state]; exact hsteps.trans h)⟩
end Calls1
