/-! ===== the world of the law ===== -/
/-- what lies elsewhere, the row of numbers left out -/
def FW (bA : Nat) (h h' : Hp) (j j' : Jp) (r r' : Rp) : Prop := ∀ a, a < 2 ∨ (113 ≤ a ∧ a ≠ bA) → h' a = h a ∧ j' a = j a ∧ r' a = r a
def WIn (g f tn : Nat) (S : OS) : Prop := oG S = g ∧ oF S = f ∧ oI S = none ∧ (∀ i, oL S i = 0) ∧ (oT S).1 = tn
def SameM (S S' : OS) : Prop := oG S' = oG S ∧ oF S' = oF S ∧ oW S' = oW S ∧ oL S' = oL S ∧ oI S' = oI S ∧ oS S' = oS S ∧ oT S' = oT S
section WO
variable {d : Nat} {M : Mem} {φ : Int32} {h h0 h1 h2 : Hp} {j j1 j2 : Jp} {r r1 r2 : Rp} {E : EE} {bA n m k s L t mt : Nat} {Q : Option PV → Mem → Prop} {x v : Int32} {xs : Nat → Int32} {S S' : OS}
theorem FW.rf : FW bA h h j j r r := fun _ _ => ⟨rfl, rfl, rfl⟩
theorem FW.tr (a : FW bA h h1 j j1 r r1) (c : FW bA h1 h2 j1 j2 r1 r2) : FW bA h h2 j j2 r r2 := fun x p => ⟨(c x p).1.trans (a x p).1, (c x p).2.1.trans (a x p).2.1, (c x p).2.2.trans (a x p).2.2⟩
theorem Out.fw (o : Out h h1 j j1 r r1) : FW bA h h1 j j1 r r1 := fun a p => o a (by omega)
theorem FW.st {i : Nat} {w : Int32} (hb : 113 ≤ bA) : FW bA h (up2 h bA i w) j j r r := fun a p => ⟨up2_a (by omega), rfl, rfl⟩
theorem mend_any {n what v : Int32} : ∃ a S', Ans 75 [some (vr 2), some (vi n), some (vi what), some (vi v), none] S a S' ∧ SameM S S' := by
  by_cases c1 : isN (oG S) (oF S) n what = 0
  · exact ⟨_, S, a_mend_no c1, rfl, rfl, rfl, rfl, rfl, rfl, rfl⟩
  obtain ⟨n', w', rfl, rfl, w7, nl, n31⟩ := isN_1 c1
  by_cases c2 : okc (oG S) w' v
  case neg => exact ⟨_, S, a_mend_bad w7 nl c2, rfl, rfl, rfl, rfl, rfl, rfl, rfl⟩
  by_cases c3 : gB (oB S) n' w' = v
  · exact ⟨_, S, a_mend_same w7 nl c2 c3, rfl, rfl, rfl, rfl, rfl, rfl, rfl⟩
  · exact ⟨_, _, a_mend w7 nl c2 c3, rfl, rfl, rfl, rfl, rfl, rfl, rfl⟩
theorem SameM.w {g f tn : Nat} (e : SameM S S') (I : WIn g f tn S) : WIn g f tn S' := by
  obtain ⟨e1, e2, e3, e4, e5, e6, e7⟩ := e
  obtain ⟨i1, i2, i3, i4, i5⟩ := I
  exact ⟨e1.trans i1, e2.trans i2, e5.trans i3, fun i => by rw [e4]; exact i4 i, by rw [e7]; exact i5⟩
theorem kdF : ∀ a : Fin 113, 2 ≤ a.1 → KdL.getD a.1 99 ≠ 1 ∧ KdL.getD a.1 99 ≠ 20 ∧ KdL.getD a.1 99 ≠ 18 ∧ KdL.getD a.1 99 ≠ 19 := by decide +kernel
theorem Str.far (T : Str s m h r E) (hS : Sh r1 E) (hb : E.1 bA = 13) : 113 ≤ s ∧ s ≠ bA ∧ 113 ≤ r s 0 ∧ r s 0 ≠ bA := by
  obtain ⟨u1, u2, u3, u4, u5, u6, u7, u8⟩ := T
  refine ⟨?_, ?_, ?_, ?_⟩
  · refine Nat.not_lt.1 (fun hh => ?_)
    have q := kdF ⟨s, hh⟩ u5
    have e := (hS.1 s hh u5).1
    rw [e] at u1
    rcases u1 with u1 | u1
    · exact q.1 u1
    · exact q.2.1 u1
  · rintro rfl; omega
  · refine Nat.not_lt.1 (fun hh => ?_)
    have q := kdF ⟨r s 0, hh⟩ u6
    have e := (hS.1 (r s 0) hh u6).1
    rw [e] at u3
    rcases u3 with u3 | u3
    · exact q.2.2.1 u3
    · exact q.2.2.2 u3
  · intro e; rw [e] at u3; omega
theorem ObS.sh (O : ObS S h j r E) : Sh r E := by
  obtain ⟨⟨l, C⟩, _⟩ := O
  exact C.S
theorem Str.fw (T : Str s m h r E) (hS : Sh r2 E) (hb : E.1 bA = 13) (f : FW bA h h1 j j1 r r1) : Str s m h1 r1 E := by
  obtain ⟨f1, f2, f3, f4⟩ := T.far hS hb
  obtain ⟨u1, u2, u3, u4, u5, u6, u7, u8⟩ := T
  obtain ⟨q1, q2, q3⟩ := f s (Or.inr ⟨f1, f2⟩)
  rw [← q3] at u3 u4 u6 u8
  exact ⟨u1, by rw [q1]; exact u2, u3, u4, u5, u6, u7, u8⟩
theorem Scp.fw (C : Scp L xs h E) (f : FW bA h h1 j j1 r r1) : Scp L xs h1 E := by
  obtain ⟨c1, c2, c3, c4⟩ := C
  exact ⟨c1, c2, c3, fun i => by rw [(f 1 (Or.inl (by decide))).1]; exact c4 i⟩
theorem rfLo : ∀ t ∈ RfL, 2 ≤ t.1 ∧ t.1 < 113 := by decide +kernel
/-- the object is there as long as its own cells are as they were -/
theorem ObS.low {E1 : EE} (O : ObS S h j r E) (e : ∀ a, 2 ≤ a → a < 113 → h1 a = h a ∧ j1 a = j a ∧ r1 a = r a ∧ E1.1 a = E.1 a ∧ E1.2.1 a = E.2.1 a) (hX : 113 ≤ E1.2.2.1) : ObS S h1 j1 r1 E1 := by
  obtain ⟨⟨l, C⟩, o1, o2, o3, o4, o5⟩ := O
  have eh : ∀ a, 2 ≤ a → a < 113 → h1 a = h a := fun a p q => (e a p q).1
  have er : ∀ a, 2 ≤ a → a < 113 → r1 a = r a := fun a p q => (e a p q).2.2.1
  have e2 := eh 2 (by decide) (by decide)
  have hS := C.S
  have S1 : Sh r1 E1 := by
    refine ⟨fun a ha h2 => ⟨((e a h2 ha).2.2.2.1).trans (hS.1 a ha h2).1, ((e a h2 ha).2.2.2.2).trans (hS.1 a ha h2).2⟩, fun t ht => ?_, hX, ?_⟩
    · obtain ⟨q1, q2⟩ := rfLo t ht
      rw [er t.1 q1 q2]; exact hS.2.1 t ht
    · rw [er 2 (by decide) (by decide)]; exact hS.2.2.2
  have C1 : CC (oG S) (oF S) l (oW S) (oB S) h1 r1 E1 := by
    refine ⟨S1, by rw [er 2 (by decide) (by decide)]; exact C.rl, C.il, ?_, ?_, C.G8, C.F8, C.L.fix ⟨eh _ (by rcases C.il with h | h <;> omega) (by rcases C.il with h | h <;> omega), eh _ (by rcases C.il with h | h <;> omega) (by rcases C.il with h | h <;> omega), by rw [eh l (by rcases C.il with h | h <;> omega) (by rcases C.il with h | h <;> omega)]⟩, ?_, C.w⟩
    · rw [eh 3 (by decide) (by decide)]; exact C.eG
    · rw [eh 3 (by decide) (by decide)]; exact C.eF
    · rw [← C.eb]
      exact bC_eq (fun k hk i _ => by rw [eh _ (by omega) (by omega)]) (by rw [eh 3 (by decide) (by decide)]) (by rw [eh 3 (by decide) (by decide)])
  refine ⟨⟨l, C1⟩, fun i hi => by rw [eh 10 (by decide) (by decide)]; exact o1 i hi, o2.fr (Nat.le_refl _) (Nat.le_refl _) (by rw [e2]) (fun a p q => eh a (by omega) (by omega)), o3.fr (Nat.le_refl _) (Nat.le_refl _) (by rw [e2]) (by rw [e2]) (fun a p q => eh a (by omega) (by omega)), fun s hs => ?_, o5.fr (by rw [e2]) (eh 37 (by decide) (by decide))⟩
  have := o4 s hs
  unfold ShC at this ⊢
  rw [eh (101 + 2 * s) (by omega) (by omega), (e (102 + 2 * s) (by omega) (by omega)).2.1, er (101 + 2 * s) (by omega) (by omega)]; exact this
/-- a store into the row of numbers -/
theorem ObS.st {i : Nat} {w : Int32} (O : ObS S h j r E) (hb : 113 ≤ bA) (hX : 113 ≤ E.2.2.1) : ObS S (up2 h bA i w) j r E := O.low (fun a _ q => ⟨up2_a (by omega), rfl, rfl, rfl, rfl⟩) hX
end WO
