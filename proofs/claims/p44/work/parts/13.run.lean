/-! ===== calls, and the whole run ===== -/
section Calls1
variable {p : Program} {l : Launch} {e : Env} {R : Room} {s : State} {m : MethodId} {args : Array Value} {below : List Frame} {meth : Method} {c : Code} {H : Heap} {locs : List Loc} {cells slots : Nat} {Q : State → Prop}
variable {π : Par} {L : Nat} {xs : Nat → Int32} {D : va_G} {cA : Nat → ClassId} {y pc n : Nat} {La : Array Slot} {ls : Loc1} {st : List PV} {M : Mem}
/-- behind a call -/
theorem after_call {v1 : Option PV} {M1 : Mem} {mc ms : Nat} {rest : List PV} {a : Array Value} {st0 : List Value} (A : At1 p s m args meth c R y π L xs D cA M H locs cells slots La ls)
    (hr : va_Run p l e R s m args below meth c H locs cells slots mc ms (F0 m pc La st0) (rest.map (rv π)) (QcE π L xs D cA v1 M1 a) (fun q => pA π ≤ q))
    (kk : ∀ (H1 : Heap) (locs1 : List Loc), Rel π D cA L xs M1 H1 → va_S (fun q => pA π ≤ q) s.heap H1 locs1 → W p l e R s m args below meth c H1 locs1 (cells + mc) (slots + ms) Q (F0 m (pc + 3) La ((psh v1 rest).map (rv π)))) :
    W p l e R s m args below meth c H locs cells slots Q (F0 m pc La st0) := by
  obtain ⟨-, hrel, hS, -, -, -, -⟩ := id A
  match v1, hr, kk with
  | none, hr, kk => exact va_callv (a := a) hr hS (fun q _ h => h) (fun q h => h) (fun _ t H1 locs1 ht _ _ hB _ _ hS1 => kk H1 locs1 (by rw [← ht]; exact hB) hS1)
  | some (.inl x), hr, kk => exact va_calli (a := a) hr hS (fun q _ h => h) (fun q h => h) (fun r _ t H1 locs1 ht _ hp hB _ _ hS1 => by
      have hp : r = x := hp
      subst hp; exact kk H1 locs1 (by rw [← ht]; exact hB) hS1)
  | some (.inr (.inl x)), hr, kk => exact va_callr (a := a) hr hS (fun q _ h => h) (fun q h => h) (fun _ r t H1 locs1 ht _ _ hB _ _ hS1 => by
      obtain ⟨h2, h3, h4⟩ := hB
      have := kk H1 locs1 (by rw [← ht]; exact h4) hS1
      rw [show (psh (some (vr x)) rest).map (rv π) = .ref r :: rest.map (rv π) by simp only [psh, List.map_cons, rv_ne h2, h3]] at this
      exact this)
  | some (.inr (.inr x)), hr, kk => exact va_calll (a := a) hr hS (fun q _ h => h) (fun q h => h) (fun r _ t H1 locs1 ht _ hp hB _ _ hS1 => by
      have hp : r = x := hp
      subst hp; exact kk H1 locs1 (by rw [← ht]; exact hB) hS1)
end Calls1
