/-! ===== the class: its frame, its thought ===== -/
def scrA (a : Nat) : Prop := (11 ≤ a ∧ a ≤ 18) ∨ a = 27 ∨ a = 30 ∨ a = 31 ∨ a = 32 ∨ a = 35 ∨ a = 36
/-- only what is worked with has changed -/
def Scr (h h' : Hp) : Prop := (∀ a, ¬ scrA a → h' a = h a) ∧ (∀ i, i ≠ 5 → h' 27 i = h 27 i ∧ h' 32 i = h 32 i) ∧ ∀ i, i ≠ 38 → i ≠ 39 → i ≠ 46 → h' 113 i = h 113 i
theorem Scr.rf {h : Hp} : Scr h h := ⟨fun _ _ => rfl, fun _ _ => ⟨rfl, rfl⟩, fun _ _ _ _ => rfl⟩
theorem Scr.tr {h h1 h2 : Hp} (a : Scr h h1) (b : Scr h1 h2) : Scr h h2 := ⟨fun x hx => (b.1 x hx).trans (a.1 x hx), fun i hi => ⟨((b.2.1 i hi).1).trans (a.2.1 i hi).1, ((b.2.1 i hi).2).trans (a.2.1 i hi).2⟩, fun i p q s => (b.2.2 i p q s).trans (a.2.2 i p q s)⟩
theorem Scr.a {h h1 : Hp} {a : Nat} (s : Scr h h1) (ha : ¬ scrA a) : h1 a = h a := s.1 a ha
theorem Scr.up {h h1 : Hp} {a i : Nat} {v : Int32} (s : Scr h h1) (ha : scrA a) (h7 : a ≠ 27) (h2 : a ≠ 32) (h3 : a ≠ 113) : Scr h (up2 h1 a i v) :=
  ⟨fun x hx => by rw [up2_a (show x ≠ a by rintro rfl; exact hx ha)]; exact s.1 x hx, fun k hk => by rw [up2_a (Ne.symm h7), up2_a (Ne.symm h2)]; exact s.2.1 k hk, fun k p q t => by rw [up2_a (Ne.symm h3)]; exact s.2.2 k p q t⟩
theorem Scr.m {h h1 h2 : Hp} {m : Nat} (s : Scr h h1) (hm : m = 11) (e : ∀ a, ¬ (m ≤ a ∧ a ≤ m + 7) → h2 a = h1 a) : Scr h h2 := by
  subst hm
  refine ⟨fun x hx => ?_, fun i hi => ?_, fun i p q t => ?_⟩
  · rw [e x (by unfold scrA at hx; omega)]; exact s.1 x hx
  · rw [e 27 (by omega), e 32 (by omega)]; exact s.2.1 i hi
  · rw [e 113 (by omega)]; exact s.2.2 i p q t
theorem FrM.scr {h h1 h2 : Hp} {l : Nat} (s : Scr h h1) (hl : l = 27 ∨ l = 32) (f : FrM 11 l h1 h2) : Scr h h2 := by
  refine ⟨fun x hx => ?_, fun i hi => ?_, fun i p q t => ?_⟩
  · unfold scrA at hx
    rw [f.1 x (by omega) (by omega) (by omega) (by omega) (by omega)]; exact s.1 x (by unfold scrA; omega)
  · rcases hl with rfl | rfl
    · refine ⟨(f.2.1 i hi).trans (s.2.1 i hi).1, ?_⟩
      rw [f.1 32 (by omega) (by omega) (by omega) (by omega) (by omega)]; exact (s.2.1 i hi).2
    · refine ⟨?_, (f.2.1 i hi).trans (s.2.1 i hi).2⟩
      rw [f.1 27 (by omega) (by omega) (by omega) (by omega) (by omega)]; exact (s.2.1 i hi).1
  · rw [f.1 113 (by omega) (by omega) (by omega) (by omega) (by omega)]; exact s.2.2 i p q t
/-- the class's marsh, law in deed -/
def CC (G F l : Nat) (W : LW) (b : BB) (h : Hp) (r : Rp) (E : EE) : Prop := Sh r E ∧ r 2 4 = l ∧ (l = 27 ∨ l = 32) ∧ h 3 7 = nI G ∧ h 3 8 = nI F ∧ G ≤ 8 ∧ F ≤ 8 ∧ LC l h W ∧ bC h 3 G F = b ∧ WF G F b
section CCS
variable {d : Nat} {M : Mem} {h h0 h1 : Hp} {j : Jp} {r : Rp} {E : EE} {Q : Option PV → Mem → Prop} {l G F : Nat} {W : LW} {b bt : BB}
theorem CC.S (C : CC G F l W b h r E) : Sh r E := C.1
theorem CC.rl (C : CC G F l W b h r E) : r 2 4 = l := C.2.1
theorem CC.il (C : CC G F l W b h r E) : l = 27 ∨ l = 32 := C.2.2.1
theorem CC.eG (C : CC G F l W b h r E) : h 3 7 = nI G := C.2.2.2.1
theorem CC.eF (C : CC G F l W b h r E) : h 3 8 = nI F := C.2.2.2.2.1
theorem CC.G8 (C : CC G F l W b h r E) : G ≤ 8 := C.2.2.2.2.2.1
theorem CC.F8 (C : CC G F l W b h r E) : F ≤ 8 := C.2.2.2.2.2.2.1
theorem CC.L (C : CC G F l W b h r E) : LC l h W := C.2.2.2.2.2.2.2.1
theorem CC.eb (C : CC G F l W b h r E) : bC h 3 G F = b := C.2.2.2.2.2.2.2.2.1
theorem CC.w (C : CC G F l W b h r E) : WF G F b := C.2.2.2.2.2.2.2.2.2
theorem CC.H3 (C : CC G F l W b h r E) : Mar r E 3 := mar_of C.S (Or.inl rfl)
theorem CC.H11 (C : CC G F l W b h r E) : Mar r E 11 := mar_of C.S (Or.inr (Or.inl rfl))
theorem CC.HL (C : CC G F l W b h r E) : Lw r E l := lw_of C.S C.il
theorem CC.fr (C : CC G F l W b h r E) (s : Scr h h1) : CC G F l W b h1 r E := by
  have s3 : ∀ a, 3 ≤ a → a ≤ 10 → h1 a = h a := fun a p q => s.1 a (by unfold scrA; omega)
  refine ⟨C.1, C.2.1, C.2.2.1, ?_, ?_, C.G8, C.F8, ?_, ?_, C.w⟩
  · rw [s3 3 (by omega) (by omega)]; exact C.eG
  · rw [s3 3 (by omega) (by omega)]; exact C.eF
  · refine C.L.fix ⟨?_, ?_, ?_⟩
    · exact s.1 _ (by unfold scrA; rcases C.il with h | h <;> omega)
    · exact s.1 _ (by unfold scrA; rcases C.il with h | h <;> omega)
    · rcases C.il with rfl | rfl
      · exact (s.2.1 4 (by decide)).1
      · exact (s.2.1 4 (by decide)).2
  · rw [← C.eb]
    exact bC_eq (fun k hk i _ => by rw [s3 _ (by omega) (by omega)]) (by rw [s3 3 (by omega) (by omega)]) (by rw [s3 3 (by omega) (by omega)])
/-- the thought holds bt -/
def TT (G F l : Nat) (W : LW) (b bt : BB) (h0 h : Hp) (r : Rp) (E : EE) : Prop := Scr h0 h ∧ CC G F l W b h r E ∧ bC h 11 G F = bt ∧ h 11 7 = nI G ∧ h 11 8 = nI F ∧ WF G F bt
theorem TT.s (T : TT G F l W b bt h0 h r E) : Scr h0 h := T.1
theorem TT.C (T : TT G F l W b bt h0 h r E) : CC G F l W b h r E := T.2.1
theorem TT.eb (T : TT G F l W b bt h0 h r E) : bC h 11 G F = bt := T.2.2.1
theorem TT.eG (T : TT G F l W b bt h0 h r E) : h 11 7 = nI G := T.2.2.2.1
theorem TT.eF (T : TT G F l W b bt h0 h r E) : h 11 8 = nI F := T.2.2.2.2.1
theorem TT.w (T : TT G F l W b bt h0 h r E) : WF G F bt := T.2.2.2.2.2
theorem TT.h11 {h1 : Hp} (T : TT G F l W b bt h0 h r E) (e : ∀ a, ¬ (11 ≤ a ∧ a ≤ 18) → h1 a = h a) (e7 : h1 11 7 = nI G) (e8 : h1 11 8 = nI F) {b2 : BB} (hb : bC h1 11 G F = b2) (hw : WF G F b2) : TT G F l W b b2 h0 h1 r E :=
  ⟨T.s.m rfl e, T.C.fr (Scr.rf.m rfl e), hb, e7, e8, hw⟩
theorem t_copy (C : CC G F l W b h0 r E) (s : Scr h0 h) (hQ : ∀ h', TT G F l W b b h0 h' r E → Q none (mm h' j r E)) : WP (d + 1) 31 0 [some (vr 11), some (vr 3)] [] (mm h j r E) Q := by
  have C1 := C.fr s
  refine s_copy C.H11 C.H3 (Or.inl (by decide)) C1.eG C1.eF C.G8 C.F8 ?_
  intro h' e hb h7 h8 _
  exact hQ h' ⟨s.m rfl e, C1.fr (Scr.rf.m rfl e), by rw [hb, C1.eb], h7, h8, C.w⟩
theorem t_pass (T : TT G F l W b bt h0 h r E) (hQ : ∀ h', TT G F l W b (hrB W F bt) h0 h' r E → Q (some (vi (fK W 0 F bt))) (mm h' j r E)) : WP (d + 5) 44 0 [some (vr 11), some (vr l), none, none] [] (mm h j r E) Q := by
  have hb := T.eb
  refine s_passHour T.C.S T.C.H11 T.C.HL T.C.G8 T.C.F8 (by rcases T.C.il with h | h <;> omega) T.C.L T.eG T.eF (by rw [hb]; exact T.w) ?_
  intro h' fr e1 _
  rw [hb] at e1 ⊢
  exact hQ h' ⟨FrM.scr T.s T.C.il fr, T.C.fr (FrM.scr Scr.rf T.C.il fr), e1, by rw [fr.m7]; exact T.eG, by rw [fr.m8]; exact T.eF, T.w.hr⟩
theorem t_passOf (T : TT G F l W b bt h0 h r E) {f : Nat} (hf : f < F) (hQ : ∀ h', TT G F l W b (goB W f bt) h0 h' r E → Q (some (vi (gvB W f bt))) (mm h' j r E)) : WP (d + 4) 41 0 [some (vr 11), some (vi (nI f)), some (vr l), none, none, none] [] (mm h j r E) Q := by
  have hb := T.eb
  have hF8 := T.C.F8
  refine s_passHourOf T.C.S T.C.H11 T.C.HL T.C.L T.eG T.C.G8 hF8 (by rcases T.C.il with h | h <;> omega) hf (by rw [hb]; exact T.w.a4 hf) ?_
  intro h' fr e1 _
  rw [hb] at e1 ⊢
  exact hQ h' ⟨FrM.scr T.s T.C.il fr, T.C.fr (FrM.scr Scr.rf T.C.il fr), e1, by rw [fr.m7]; exact T.eG, by rw [fr.m8]; exact T.eF, T.w.go hf⟩
theorem t_end (T : TT G F l W b bt h0 h r E) (hQ : ∀ h', TT G F l W b (endB bt) h0 h' r E → Q none (mm h' j r E)) : WP d 43 0 [some (vr 11)] [] (mm h j r E) Q := by
  rw [s_endHour T.C.H11]
  refine hQ _ (T.h11 ?_ ?_ ?_ ?_ T.w.en)
  · intro a ha; rw [up2_a (show a ≠ 11 + 7 by omega), up2_a (show a ≠ 11 by omega)]
  · simp only [up2, Nat.reduceEqDiff, if_true, if_false, Nat.reduceAdd]; exact T.eG
  · simp only [up2, Nat.reduceEqDiff, if_true, if_false, Nat.reduceAdd]; exact T.eF
  · rw [bCw7, bCwh, T.eb]; unfold endB; rw [← T.eb, bCh]
theorem tt_set {k i : Nat} {v : Int32} (T : TT G F l W b bt h0 h r E) (hk : k < 6) (hi : i < cut G F k) (hv : okc G k v) : TT G F l W b (up2 bt k i v) h0 (up2 h (11 + 1 + k) i v) r E := by
  refine T.h11 ?_ ?_ ?_ ?_ (T.w.up hv)
  · intro a ha; rw [up2_a (show a ≠ 11 + 1 + k by omega)]
  · rw [up2_a (by omega)]; exact T.eG
  · rw [up2_a (by omega)]; exact T.eF
  · rw [bCw hk hi, T.eb]
theorem t_lend (T : TT G F l W b bt h0 h r E) {f : Nat} {g x : Int32} (hf : f < F) (hg : inb g G) (hx : inb x 100) (hQ : ∀ h', TT G F l W b (up2 (up2 bt 4 f g) 5 f x) h0 h' r E → Q none (mm h' j r E)) : WP d 37 0 [some (vr 11), some (vi g), some (vi (nI f)), some (vi x)] [] (mm h j r E) Q := by
  have hF8 := T.C.F8
  rw [s_lend T.C.H11 (show f < 8 by omega)]
  exact hQ _ (tt_set (tt_set T (k := 4) (by decide) hf (Or.inr hg)) (k := 5) (by decide) hf hx)
theorem t_owes (T : TT G F l W b bt h0 h r E) {f : Nat} (hf : f < F) (hQ : ∀ h', TT G F l W b (up2 (up2 bt 4 f (-1)) 5 f 0) h0 h' r E → Q none (mm h' j r E)) : WP d 38 0 [some (vr 11), some (vi (nI f))] [] (mm h j r E) Q := by
  have hF8 := T.C.F8
  rw [s_owesNothing T.C.H11 (show f < 8 by omega)]
  exact hQ _ (tt_set (tt_set T (k := 4) (by decide) hf (Or.inl rfl)) (k := 5) (by decide) hf (inb_00 (by decide)))
theorem t_owing (T : TT G F l W b bt h0 h r E) : WP (d + 2) 35 0 [some (vr 11), none, none] [] (mm h j r E) Q = Q (some (vi (owB F bt))) (mm h j r E) := by
  rw [s_owing T.C.H11 T.C.G8 T.C.F8 T.eG T.eF (by rw [T.eb]; exact T.w), T.eb]
theorem t_held (T : TT G F l W b bt h0 h r E) : WP d 36 0 [some (vr 11), none, none] [] (mm h j r E) Q = Q (some (vi (hdB F bt))) (mm h j r E) := by
  rw [s_heldByAll T.C.H11 T.C.F8 T.eF, T.eb]
theorem t_v0 (T : TT G F l W b bt h0 h r E) {i : Nat} (hi : i < G) : h 12 i = bt 0 i := by rw [← T.eb]; exact (bC0 hi).symm
theorem t_v1 (T : TT G F l W b bt h0 h r E) {i : Nat} (hi : i < G) : h 13 i = bt 1 i := by rw [← T.eb]; exact (bC1 hi).symm
theorem t_v2 (T : TT G F l W b bt h0 h r E) {i : Nat} (hi : i < F) : h 14 i = bt 2 i := by rw [← T.eb]; exact (bC2 hi).symm
theorem t_v3 (T : TT G F l W b bt h0 h r E) {i : Nat} (hi : i < F) : h 15 i = bt 3 i := by rw [← T.eb]; exact (bC3 hi).symm
theorem t_v4 (T : TT G F l W b bt h0 h r E) {i : Nat} (hi : i < F) : h 16 i = bt 4 i := by rw [← T.eb]; exact (bC4 hi).symm
theorem t_v5 (T : TT G F l W b bt h0 h r E) {i : Nat} (hi : i < F) : h 17 i = bt 5 i := by rw [← T.eb]; exact (bC5 hi).symm
theorem c_v0 (C : CC G F l W b h r E) {i : Nat} (hi : i < G) : h 4 i = b 0 i := by rw [← C.eb]; exact (bC0 hi).symm
theorem c_v1 (C : CC G F l W b h r E) {i : Nat} (hi : i < G) : h 5 i = b 1 i := by rw [← C.eb]; exact (bC1 hi).symm
theorem c_v2 (C : CC G F l W b h r E) {i : Nat} (hi : i < F) : h 6 i = b 2 i := by rw [← C.eb]; exact (bC2 hi).symm
theorem c_v3 (C : CC G F l W b h r E) {i : Nat} (hi : i < F) : h 7 i = b 3 i := by rw [← C.eb]; exact (bC3 hi).symm
theorem c_v4 (C : CC G F l W b h r E) {i : Nat} (hi : i < F) : h 8 i = b 4 i := by rw [← C.eb]; exact (bC4 hi).symm
theorem c_v5 (C : CC G F l W b h r E) {i : Nat} (hi : i < F) : h 9 i = b 5 i := by rw [← C.eb]; exact (bC5 hi).symm
theorem c_vt (C : CC G F l W b h r E) : h 3 9 = b 6 0 := by rw [← C.eb]; exact bCt.symm
theorem c_vh (C : CC G F l W b h r E) : h 3 10 = b 6 1 := by rw [← C.eb]; exact bCh.symm
theorem c_hasGirl (C : CC G F l W b h r E) {g : Int32} : WP (d + 1) 24 0 [some (vr 3), some (vi g)] [] (mm h j r E) Q = Q (some (vi (b2i (inb g G)))) (mm h j r E) := s_hasGirl C.H3 C.eG C.G8
theorem c_hasFrog (C : CC G F l W b h r E) {f : Int32} : WP (d + 1) 25 0 [some (vr 3), some (vi f)] [] (mm h j r E) Q = Q (some (vi (b2i (inb f F)))) (mm h j r E) := s_hasFrog C.H3 C.eF C.F8
/-- he owes a girl that is there -/
theorem owes_i (w : WF G F b) {f : Nat} (hf : f < F) : inb (b 4 f) G ↔ b 4 f ≠ -1 := by
  constructor
  · intro h e; rw [e] at h; exact h.1 (by decide)
  · intro h; exact (w.a4 hf).resolve_left h
end CCS
