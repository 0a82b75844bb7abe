/-! ===== the run, by induction; a method's contract out of it ===== -/
/-- what the evaluator's run is worth, for runs of fuel f -/
def RunOk (f : Nat) : Prop :=
  ∀ (d y pc : Nat) (ls : Loc1) (st : List PV) (M : Mem) (v : Option PV) (M' : Mem), run f d y pc ls st M = some (v, M') → cStr (mCl y) = (mY y).cls →
  ∀ {p : Program} {l : Launch} {e : Env} {R : Room} {s : State} {m : MethodId} {args : Array Value} {below : List Frame} {meth : Method} {c : Code} {H : Heap} {locs : List Loc} {cells slots : Nat} {Q : State → Prop} {π : Par} {L : Nat} {xs : Nat → Int32} {D : va_G} {cA : Nat → ClassId} {La : Array Slot},
    At1 p s m args meth c R y π L xs D cA M H locs cells slots La ls → d + 1 ≤ R.frames → 40 * (d + 1) ≤ R.locals → cells + (mX M' - mX M) ≤ R.cells ∧ slots + (mS M' - mS M) ≤ R.slots → mX M' ≤ kA →
    (∀ (i : Instr) (n pc' : Nat) (st' : List PV) (H' : Heap) (locs' : List Loc) (La' : Array Slot), decode (mC y) pc' = .ok (i, n) → okN i n = true → fin (mT y) i st' = some v → Rel π D cA L xs M' H' → va_S (fun q => pA π ≤ q) s.heap H' locs' →
      W p l e R s m args below meth c H' locs' (cells + (mX M' - mX M)) (slots + (mS M' - mS M)) Q (F0 m pc' La' (st'.map (rv π)))) →
    W p l e R s m args below meth c H locs cells slots Q (F0 m pc La (st.map (rv π)))
theorem mq_fin {p : Program} {l : Launch} {e : Env} {R : Room} {s : State} {m : MethodId} {args : Array Value} {below : List Frame} {meth : Method} {c : Code} {H' : Heap} {locs' : List Loc} {cells slots : Nat} {π : Par} {L : Nat} {xs : Nat → Int32} {D : va_G} {cA : Nat → ClassId} {La' : Array Slot} {y pc' n : Nat} {i : Instr} {st' : List PV} {v : Option PV} {M' : Mem}
    (hx : p.tables.exec = Jvm.exec) (hb : c.code = mC y) (hr : meth.sig.returnType = mT y) (hlocks : meth.locks = false) (hsz : pA π ≤ s.heap.size)
    (hd : decode (mC y) pc' = .ok (i, n)) (hn : okN i n = true) (hf : fin (mT y) i st' = some v) (hrel : Rel π D cA L xs M' H') (hS : va_S (fun q => pA π ≤ q) s.heap H' locs') :
    W p l e R s m args below meth c H' locs' cells slots (MQ below (QcE π L xs D cA v M') args s cells slots (fun q => pA π ≤ q)) (F0 m pc' La' (st'.map (rv π))) := by
  have hF : ∀ t : State, t.heap = H' → va_F (fun q => pA π ≤ q) s t := fun t ht => ⟨by rw [ht]; exact hS.1, fun q h1 h2 => by rw [ht]; exact hS.2.1 q h1 h2⟩
  have hR : ∀ t : State, t.heap = H' → Rel π D cA L xs M' t.heap := fun t ht => by rw [ht]; exact hrel
  unfold fin at hf
  split at hf
  · rename_i x
    simp only [okN, beq_iff_eq] at hn
    subst hn
    split at hf
    · rename_i ht
      cases hf
      exact W.iret hx hb (by rw [hr, ht]) (fun t ht _ => ⟨⟨x, (), rfl, rfl, hR t ht⟩, hF t ht⟩) hS.2.2 hd hlocks
    · rename_i ht
      split at hf
      · rename_i h01
        cases hf
        exact W.zret hx hb (by rw [hr, ht]) (by rcases h01 with rfl | rfl <;> rfl) (fun t ht _ => ⟨⟨x, (), rfl, rfl, hR t ht⟩, hF t ht⟩) hS.2.2 hd hlocks
      · cases hf
    · rename_i ht
      split at hf
      · rename_i h01
        cases hf
        exact W.zret hx hb (by rw [hr, ht]) (by exact congrArg Value.int h01) (fun t ht _ => ⟨⟨x, (), rfl, rfl, hR t ht⟩, hF t ht⟩) hS.2.2 hd hlocks
      · cases hf
    · rename_i ht
      split at hf
      · rename_i h01
        cases hf
        exact W.zret hx hb (by rw [hr, ht]) (by exact congrArg Value.int h01) (fun t ht _ => ⟨⟨x, (), rfl, rfl, hR t ht⟩, hF t ht⟩) hS.2.2 hd hlocks
      · cases hf
    · cases hf
  · rename_i x
    simp only [okN, beq_iff_eq] at hn
    subst hn
    split at hf
    · rename_i ht
      cases hf
      exact W.lret hx hb (by rw [hr, ht]) (fun t ht _ => ⟨⟨x, (), rfl, rfl, hR t ht⟩, hF t ht⟩) hS.2.2 hd hlocks
    · cases hf
  · rename_i r
    simp only [okN, beq_iff_eq] at hn
    subst hn
    split at hf
    · rename_i nn ht
      split at hf
      · cases hf
      · rename_i h2
        cases hf
        have hr2 : 2 ≤ r := by omega
        show W p l e R s m args below meth c H' locs' cells slots _ (F0 m pc' La' [rv π (vr r)])
        rw [rv_ne hr2]
        exact W.aret hx hb (by rw [hr, ht]) (Or.inl ⟨nn, rfl⟩) (Or.inr ⟨_, rfl⟩) (fun t ht _ => ⟨⟨(), ra π r, rfl, trivial, hr2, rfl, hR t ht⟩, hF t ht⟩) hS.2.2 hd hlocks
    · rename_i nn ht
      split at hf
      · cases hf
      · rename_i h2
        cases hf
        have hr2 : 2 ≤ r := by omega
        show W p l e R s m args below meth c H' locs' cells slots _ (F0 m pc' La' [rv π (vr r)])
        rw [rv_ne hr2]
        exact W.aret hx hb (by rw [hr, ht]) (Or.inr ⟨nn, rfl⟩) (Or.inr ⟨_, rfl⟩) (fun t ht _ => ⟨⟨(), ra π r, rfl, trivial, hr2, rfl, hR t ht⟩, hF t ht⟩) hS.2.2 hd hlocks
    · cases hf
  · simp only [okN, beq_iff_eq] at hn
    subst hn
    split at hf
    · rename_i ht
      cases hf
      exact W.vret hx hb (by rw [hr, ht]) (fun t ht _ => ⟨⟨(), rfl, trivial, hR t ht⟩, hF t ht⟩) hS.2.2 hd hlocks
    · cases hf
  · cases hf
theorem met_of {f : Nat} (IH : RunOk f) {l : Launch} {d y : Nat} {as : List PV} {M M' : Mem} {v : Option PV} {π : Par} {L : Nat} {xs : Nat → Int32} {D : va_G} {cA : Nat → ClassId} (h : run f d y 0 (ent (mL y) as) [] M = some (v, M')) (hy : y < nMeth) (h0 : y ≠ 0) (hlen : (entL as).length ≤ mL y) (hka : mX M' ≤ kA) :
    Met l (mY y) (wY y) (rmD d (mX M' - mX M) (mS M' - mS M)) (PcE π L xs D cA M as) (QcE π L xs D cA v M') (mX M' - mX M) (mS M' - mS M) (fun q => pA π ≤ q) := by
  have hmf := mf_of y hy h0
  refine Met.ofW (cc := mC y) (maxL := mL y) (ret := mT y) hmf.2.2.1 rfl ?_
  intro p e s m args below meth c s₁ B hml hv
  obtain ⟨rfl, hrel, hK, hgv, hks⟩ := hv
  have hts := atoms_spec (ws := wY y) B.pre
  have hcn : cStr (mCl y) = (mY y).cls := hmf.2.2.2.2.1
  have hown : s.vm.findClass (mY y).cls = some m.cls := findClass_of_methodNamed B.named
  have hname : meth.name = (mY y).name := (name_of_methodNamed B.named B.method).1
  have hsz : pA π ≤ s.heap.size := by have := hrel.2.2.2.2.2.2.2.2.2.1; rw [hrel.2.1]; omega
  rw [lg_entry_eq]
  have hA : At1 p s m ((as.map (rv π)).toArray) meth c (rmD d (mX M' - mX M) (mS M' - mS M)) y π L xs D cA M s.heap [] 0 0 ((lg_sl (as.map (rv π)) ++ List.replicate (mL y - (lg_sl (as.map (rv π))).length) Slot.unset).toArray) (ent (mL y) as) :=
    ⟨⟨B.exec, B.bytes, hml, fun w hw => hts w (List.mem_cons_of_mem _ hw), by rw [hcn]; exact hown, hK, hgv, hks, fun h => by rw [hname, h], hsz⟩, hrel, va_S.rf, LSt.entry π hlen, by rw [hrel.2.1]; rfl, by show 1 ≤ d + 1; omega, by show 40 ≤ 40 * (d + 1); omega⟩
  refine IH d y 0 _ [] M v M' h hcn hA (Nat.le_refl _) (Nat.le_refl _) ⟨by show 0 + _ ≤ mX M' - mX M; omega, by show 0 + _ ≤ mS M' - mS M; omega⟩ hka ?_
  intro i n pc' st' H' locs' La' hd hn hf hrel' hS'
  rw [Nat.zero_add, Nat.zero_add]
  exact mq_fin B.exec B.bytes B.returns B.notSynchronized hsz hd hn hf hrel' hS'
theorem run_ok : ∀ f, RunOk f := by
  intro f
  induction f with
  | zero => intro d y pc ls st M v M' h; simp [run] at h
  | succ f IH =>
    intro d y pc ls st M v M' h hcn p l e R s m args below meth c H locs cells slots Q π L xs D cA La A hfr hlo hroom hka hret
    unfold run at h
    split at h
    · rename_i i n hd
      split at h
      · rename_i hn
        split at h
        · rename_i v1 hf
          cases h
          have := hret i n pc st H locs La hd hn hf A.2.1 A.2.2.1
          simpa using this
        · rename_i hf
          split at h
          · rename_i y' as rest hcal
            split at h
            · cases h
            · rename_i d'
              split at h
              · rename_i v1 M1 hr1
                have hm1 := run_mono _ _ _ _ _ _ _ _ hr1
                have hm2 := run_mono _ _ _ _ _ _ _ _ h
                simp only at hm1 hm2
                refine call_sound A hd hn hcal (v1 := v1) (M1 := M1) (mc := mX M1 - mX M) (ms := mS M1 - mS M) (d' := d') (fun h1 h2 h3 => met_of IH hr1 h1 h2 h3 (by omega)) hfr hlo ⟨by omega, by omega⟩ (fun H1 locs1 hrel1 hS1 => ?_)
                have hA1 : At1 p s m args meth c R y π L xs D cA M1 H1 locs1 (cells + (mX M1 - mX M)) (slots + (mS M1 - mS M)) La ls := by
                  obtain ⟨hF, hrel, hS, hl, hcs, h1, h2⟩ := A
                  refine ⟨hF, hrel1, hS1, hl, ?_, h1, h2⟩
                  have := hrel.2.2.1.1
                  omega
                refine IH (d' + 1) y (pc + 3) ls (psh v1 rest) M1 v M' h hcn hA1 hfr hlo ⟨by omega, by omega⟩ hka ?_
                intro i n pc' st' H' locs' La' hd hn hf hrel' hS'
                have := hret i n pc' st' H' locs' La' hd hn hf hrel' hS'
                rw [show cells + (mX M1 - mX M) + (mX M' - mX M1) = cells + (mX M' - mX M) by omega, show slots + (mS M1 - mS M) + (mS M' - mS M1) = slots + (mS M' - mS M) by omega]
                exact this
              · cases h
          · rename_i hcal
            split at h
            · rename_i pc' ls' st' M1 he
              have hm1 := ex_mono he
              have hm2 := run_mono _ _ _ _ _ _ _ _ h
              simp only at hm1 hm2
              refine ex_sound A hcn hd hn he (by show mX M1 ≤ kA; omega) ⟨by show cells + (mX M1 - mX M) ≤ _; omega, by show slots + (mS M1 - mS M) ≤ _; omega⟩ (fun H1 locs1 La1 hrel1 hS1 hl1 => ?_)
              have hA1 : At1 p s m args meth c R y π L xs D cA M1 H1 locs1 (cells + (mX M1 - mX M)) (slots + (mS M1 - mS M)) La1 ls' := by
                obtain ⟨hF, hrel, hS, hl, hcs, h1, h2⟩ := A
                refine ⟨hF, hrel1, hS1, hl1, ?_, h1, h2⟩
                have := hrel.2.2.1.1
                omega
              show W p l e R s m args below meth c H1 locs1 (cells + (mX M1 - mX M)) (slots + (mS M1 - mS M)) Q (F0 m pc' La1 (st'.map (rv π)))
              refine IH d y pc' ls' st' M1 v M' h hcn hA1 hfr hlo ⟨by omega, by omega⟩ hka ?_
              intro i n pc' st' H' locs' La' hd hn hf hrel' hS'
              have := hret i n pc' st' H' locs' La' hd hn hf hrel' hS'
              rw [show cells + (mX M1 - mX M) + (mX M' - mX M1) = cells + (mX M' - mX M) by omega, show slots + (mS M1 - mS M) + (mS M' - mS M1) = slots + (mS M' - mS M) by omega]
              exact this
            · cases h
      · cases h
    · cases h
