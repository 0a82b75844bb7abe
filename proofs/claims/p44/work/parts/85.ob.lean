/-! ===== the object, as the law sees it ===== -/
abbrev IMT : Type := Option (Nat × Nat × BB × (Nat → Int32))
abbrev CGT : Type := Nat × Nat × (Nat → Nat × Nat × Int32)
abbrev SHT : Type := Nat → Int32 × Nat × (Nat → Int64)
abbrev TPT : Type := Nat × (Nat → Int32)
abbrev OS : Type := Nat × Nat × LW × BB × (Nat → Int32) × IMT × CGT × SHT × TPT
abbrev oG (S : OS) : Nat := S.1
abbrev oF (S : OS) : Nat := S.2.1
abbrev oW (S : OS) : LW := S.2.2.1
abbrev oB (S : OS) : BB := S.2.2.2.1
abbrev oL (S : OS) : Nat → Int32 := S.2.2.2.2.1
abbrev oI (S : OS) : IMT := S.2.2.2.2.2.1
abbrev oC (S : OS) : CGT := S.2.2.2.2.2.2.1
abbrev oS (S : OS) : SHT := S.2.2.2.2.2.2.2.1
abbrev oT (S : OS) : TPT := S.2.2.2.2.2.2.2.2
abbrev mkS (G F : Nat) (W : LW) (b : BB) (ld : Nat → Int32) (im : IMT) (cg : CGT) (sh : SHT) (tp : TPT) : OS := (G, F, W, b, ld, im, cg, sh, tp)
def ImO (G F : Nat) (im : IMT) (h : Hp) : Prop := match im with
  | none => h 2 3 = 0
  | some (G2, F2, b0, ld0) => h 2 3 = 1 ∧ G2 ≤ G ∧ F2 ≤ F ∧ h 19 7 = nI G2 ∧ h 19 8 = nI F2 ∧ (∀ i, i < G2 → h 21 i = b0 1 i) ∧ (∀ i, i < F2 → h 22 i = b0 2 i ∧ h 24 i = b0 4 i ∧ h 25 i = b0 5 i) ∧ h 19 10 = b0 6 1 ∧ (∀ i, i < 5 → h 26 i = ld0 i) ∧ WF G2 F2 b0
def ChO (G F : Nat) (cg : CGT) (h : Hp) : Prop := cg.1 ≤ cg.2.1 ∧ cg.2.1 ≤ 40 ∧ h 2 10 = nI cg.1 ∧ h 2 9 = nI cg.2.1 ∧ ∀ i, i < cg.2.1 → h (39 + i) 0 = nI (cg.2.2 i).1 ∧ h (39 + i) 1 = nI (cg.2.2 i).2.1 ∧ h (39 + i) 2 = (cg.2.2 i).2.2 ∧ (cg.2.2 i).2.1 ≤ 7 ∧ (cg.2.2 i).1 < lim G F (cg.2.2 i).2.1 ∧ okc G (cg.2.2 i).2.1 (cg.2.2 i).2.2
def TpO (tp : TPT) (h : Hp) : Prop := tp.1 ≤ 120 ∧ h 2 7 = nI tp.1 ∧ ∀ i, i < tp.1 → h 37 i = tp.2 i ∧ inb (tp.2 i) 256
def ShO (sh : SHT) (h : Hp) (j : Jp) (r : Rp) : Prop := ∀ s, s < 6 → ShC s (sh s).1 (sh s).2.1 (sh s).2.2 h j r
def ObS (S : OS) (h : Hp) (j : Jp) (r : Rp) (E : EE) : Prop := (∃ l, CC (oG S) (oF S) l (oW S) (oB S) h r E) ∧ (∀ i, i < 5 → h 10 i = oL S i) ∧ ImO (oG S) (oF S) (oI S) h ∧ ChO (oG S) (oF S) (oC S) h ∧ ShO (oS S) h j r ∧ TpO (oT S) h
/-- what lies elsewhere is as it was -/
def Out (h h' : Hp) (j j' : Jp) (r r' : Rp) : Prop := ∀ a, a < 2 ∨ 113 ≤ a → h' a = h a ∧ j' a = j a ∧ r' a = r a
/-- a call's answer, and what becomes of the object -/
def Ans (y : Nat) (ls : Loc1) (S : OS) (a : Int32) (S' : OS) : Prop := ∀ (h : Hp) (j : Jp) (r : Rp) (E : EE) (Q : Option PV → Mem → Prop), ObS S h j r E → (∀ h' j' r', ObS S' h' j' r' E → Out h h' j j' r r' → Q (some (vi a)) (mm h' j' r' E)) → WP 60 y 0 ls [] (mm h j r E) Q
section OB
variable {d : Nat} {M : Mem} {h h0 h1 h2 : Hp} {j j1 j2 : Jp} {r r1 r2 : Rp} {E : EE} {l G F G' F' n : Nat} {W : LW} {b b' : BB} {Q : Option PV → Mem → Prop} {S : OS} {im : IMT} {cg : CGT} {sh : SHT} {tp : TPT}
theorem Out.rf : Out h h j j r r := fun _ _ => ⟨rfl, rfl, rfl⟩
theorem Out.tr (a : Out h h1 j j1 r r1) (c : Out h1 h2 j1 j2 r1 r2) : Out h h2 j j2 r r2 := fun x p => ⟨(c x p).1.trans (a x p).1, (c x p).2.1.trans (a x p).2.1, (c x p).2.2.trans (a x p).2.2⟩
theorem ScrD.out (s : ScrD h h1) : Out h h1 j j r r := fun a p => ⟨s.1 a (by unfold scrA; omega) (by omega) (by omega), rfl, rfl⟩
theorem FC.out (s : FC h h1) : Out h h1 j j r r := fun a p => ⟨s.1 a (by unfold scrA; omega) (by omega), rfl, rfl⟩
theorem Out.of (e : ∀ a, a < 2 ∨ 113 ≤ a → h1 a = h a) : Out h h1 j j r r := fun a p => ⟨e a p, rfl, rfl⟩
theorem lim_mono {w : Nat} (h : n < lim G F w) (hG : G ≤ G') (hF : F ≤ F') : n < lim G' F' w := by
  unfold lim at h ⊢
  by_cases q : w < 2
  · rw [if_pos q] at h ⊢; omega
  · rw [if_neg q] at h ⊢
    by_cases q2 : w < 6
    · rw [if_pos q2] at h ⊢; omega
    · rw [if_neg q2] at h ⊢; exact h
theorem ImO.fr (I : ImO G F im h) (hG : G ≤ G') (hF : F ≤ F') (e2 : h1 2 3 = h 2 3) (e : ∀ a, 19 ≤ a → a ≤ 26 → h1 a = h a) : ImO G' F' im h1 := by
  unfold ImO at I ⊢
  match im, I with
  | none, I => exact e2.trans I
  | some (G2, F2, b0, ld0), ⟨a1, a2, a3, a4, a5, a6, a7, a8, a9, a10⟩ =>
    refine ⟨e2.trans a1, by omega, by omega, ?_, ?_, ?_, ?_, ?_, ?_, a10⟩
    · rw [e 19 (by omega) (by omega)]; exact a4
    · rw [e 19 (by omega) (by omega)]; exact a5
    · intro i hi; rw [e 21 (by omega) (by omega)]; exact a6 i hi
    · intro i hi; rw [e 22 (by omega) (by omega), e 24 (by omega) (by omega), e 25 (by omega) (by omega)]; exact a7 i hi
    · rw [e 19 (by omega) (by omega)]; exact a8
    · intro i hi; rw [e 26 (by omega) (by omega)]; exact a9 i hi
theorem ChO.fr (I : ChO G F cg h) (hG : G ≤ G') (hF : F ≤ F') (e9 : h1 2 9 = h 2 9) (e10 : h1 2 10 = h 2 10) (e : ∀ a, 39 ≤ a → a ≤ 78 → h1 a = h a) : ChO G' F' cg h1 := by
  obtain ⟨a1, a2, a3, a4, a5⟩ := I
  refine ⟨a1, a2, by rw [e10, a3], by rw [e9, a4], fun i hi => ?_⟩
  obtain ⟨c1, c2, c3, c4, c5, c6⟩ := a5 i hi
  rw [e (39 + i) (by omega) (by omega)]
  exact ⟨c1, c2, c3, c4, lim_mono c5 hG hF, okc_mono c6 hG⟩
theorem TpO.fr (I : TpO tp h) (e7 : h1 2 7 = h 2 7) (e : h1 37 = h 37) : TpO tp h1 := by
  obtain ⟨a1, a2, a3⟩ := I
  exact ⟨a1, by rw [e7, a2], fun i hi => by rw [e]; exact a3 i hi⟩
theorem ShO.fr (I : ShO sh h j r) (e : ∀ a, 101 ≤ a → a ≤ 112 → h1 a = h a) : ShO sh h1 j r := by
  intro s hs
  have := I s hs
  unfold ShC at this ⊢; rw [e (101 + 2 * s) (by omega) (by omega)]; exact this
/-- the frame of what is asked -/
theorem ObS.frD (O : ObS S h j r E) (s : ScrD h h1) : ObS S h1 j r E := by
  obtain ⟨⟨l, C⟩, o1, o2, o3, o4, o5⟩ := O
  have o : ∀ a, ¬ scrA a → ¬ (80 ≤ a ∧ a ≤ 97) → h1 a = h a := fun a p q => s.1 a p q (by omega)
  have e2 : h1 2 = h 2 := o 2 (by unfold scrA; omega) (by omega)
  refine ⟨⟨l, C.frD s⟩, fun i hi => ?_, o2.fr (Nat.le_refl _) (Nat.le_refl _) (by rw [e2]) (fun a p q => o a (by unfold scrA; omega) (by omega)), o3.fr (Nat.le_refl _) (Nat.le_refl _) (by rw [e2]) (by rw [e2]) (fun a p q => o a (by unfold scrA; omega) (by omega)), o4.fr (fun a p q => o a (by unfold scrA; omega) (by omega)), o5.fr (by rw [e2]) (o 37 (by unfold scrA; omega) (by omega))⟩
  rw [o 10 (by unfold scrA; omega) (by omega)]; exact o1 i hi
/-- the frame of a deed in the marsh -/
theorem ObS.frC (O : ObS S h j r E) (f : FC h h1) {ld' : Nat → Int32} {l' : Nat} (C : CC G' F' l' (oW S) b' h1 r E) (hl : ∀ i, i < 5 → h1 10 i = ld' i) (hG : oG S ≤ G') (hF : oF S ≤ F') : ObS (mkS G' F' (oW S) b' ld' (oI S) (oC S) (oS S) (oT S)) h1 j r E := by
  obtain ⟨⟨l, C0⟩, o1, o2, o3, o4, o5⟩ := O
  have o : ∀ a, ¬ scrA a → ¬ (3 ≤ a ∧ a ≤ 10) → h1 a = h a := f.1
  have e2 : h1 2 = h 2 := o 2 (by unfold scrA; omega) (by omega)
  exact ⟨⟨l', C⟩, hl, o2.fr hG hF (by rw [e2]) (fun a p q => o a (by unfold scrA; omega) (by omega)), o3.fr hG hF (by rw [e2]) (by rw [e2]) (fun a p q => o a (by unfold scrA; omega) (by omega)), o4.fr (fun a p q => o a (by unfold scrA; omega) (by omega)), o5.fr (by rw [e2]) (o 37 (by unfold scrA; omega) (by omega))⟩
theorem ans_r {y : Nat} {ls : Loc1} {a : Int32} (hc : ∀ (l : Nat) (h : Hp) (j : Jp) (r : Rp) (E : EE) (Q : Option PV → Mem → Prop), CC (oG S) (oF S) l (oW S) (oB S) h r E → ShO (oS S) h j r → (∀ h', ScrD h h' → Q (some (vi a)) (mm h' j r E)) → WP 60 y 0 ls [] (mm h j r E) Q) : Ans y ls S a S := by
  intro h j r E Q O hQ
  obtain ⟨⟨l, C⟩, o1, o2, o3, o4, o5⟩ := id O
  exact hc l h j r E Q C o4 (fun h' s => hQ h' j r (O.frD s) s.out)
theorem a_later {n number what : Int32} : Ans 81 [some (vr 2), some (vi n), some (vi number), some (vi what), none] S (laterA (oG S) (oF S) (oW S) (oB S) n number what) S := ans_r (fun _ _ _ _ _ _ C _ hQ => c_later (d := 53) C (fun h' s => hQ h' s.D))
theorem a_marsh {n what : Int32} : Ans 83 [some (vr 2), some (vi n), some (vi what)] S (marshA (oF S) (oW S) (oB S) n what) S := ans_r (fun _ _ _ _ _ _ C _ hQ => c_marsh (d := 53) C (fun h' s => hQ h' s.D))
theorem a_backWhen {f : Int32} : Ans 84 [some (vr 2), some (vi f), none, none] S (backWhenA (oF S) (oW S) (oB S) f) S := ans_r (fun _ _ _ _ _ _ C _ hQ => c_backWhen (d := 53) C (fun h' s => hQ h' s.D))
theorem a_loan {gf x what : Int32} : Ans 85 [some (vr 2), some (vi gf), some (vi x), some (vi what)] S (loanA (oG S) (oF S) (oW S) (oB S) gf x what) S := ans_r (fun _ _ _ _ _ _ C _ hQ => c_loan (d := 54) C (fun h' s => hQ h' s.D))
theorem a_best {g x what : Int32} : Ans 89 [some (vr 2), some (vi g), some (vi x), some (vi what), none, none, none, none] S (bestA (oG S) (oF S) (oW S) (oB S) g x what) S := ans_r (fun _ _ _ _ _ _ C _ hQ => c_best (d := 54) C (fun h' s => hQ h' s.D))
theorem a_dealt {x g : Int32} : Ans 90 [some (vr 2), some (vi x), some (vi g)] S (dealtA (oG S) (oF S) (oW S) (oB S) x g) S := ans_r (fun _ _ _ _ _ _ C _ hQ => c_dealt (d := 53) C hQ)
theorem a_least {gf nv : Int32} : Ans 96 [some (vr 2), some (vi gf), some (vi nv), none] S (leastA (oG S) (oF S) (oW S) (oB S) gf nv) S := ans_r (fun _ _ _ _ _ _ C _ hQ => c_least (d := 54) C (fun h' s => hQ h' s.D))
theorem a_bars {f n : Int32} : Ans 98 [some (vr 2), some (vi f), some (vi n)] S (barsA (oF S) (oB S) f n) S := ans_r (fun _ h _ _ _ _ C _ hQ => (c_bars (d := 58) C).mpr (hQ h ScrD.rf))
theorem a_stops {x what : Int32} : Ans 101 [some (vr 2), some (vi x), some (vi what), none, none] S (stopsA (oF S) (oB S) x what) S := ans_r (fun _ h _ _ _ _ C _ hQ => (c_stops (d := 57) C).mpr (hQ h ScrD.rf))
theorem a_judge {s f : Int32} : Ans 104 [some (vr 2), some (vi s), some (vi f), none, none] S (judgeA (oF S) (oW S) (oB S) (fun s => (oS S s).1) (fun s => (oS S s).2.1) (fun s => (oS S s).2.2) s f) S := ans_r (fun _ _ _ _ _ _ C I hQ => c_judge (d := 54) C I (fun h' s => hQ h' s.D))
theorem a_fits {s f what : Int32} : Ans 107 [some (vr 2), some (vi s), some (vi f), some (vi what), none, none] S (fitsA (oG S) (oF S) (oW S) (oB S) (fun s => (oS S s).1) (fun s => (oS S s).2.1) (fun s => (oS S s).2.2) s f what) S := ans_r (fun _ _ _ _ _ _ C I hQ => c_fits (d := 53) C I (fun h' s => hQ h' s.D))
theorem a_alike : Ans 110 [some (vr 2), none, none, none] S (alikeA (oF S) (oW S) (oB S)) S := ans_r (fun _ _ _ _ _ _ C _ hQ => c_alike (d := 54) C (fun h' s => hQ h' s.D))
theorem a_ring {g : Int32} : Ans 112 [some (vr 2), some (vi g), none, none, none, none] S (ringA (oG S) (oB S) g) S := ans_r (fun _ h _ _ _ _ C _ hQ => (c_ring (d := 58) C).mpr (hQ h ScrD.rf))
theorem a_byTurns {f n what : Int32} : Ans 113 [some (vr 2), some (vi f), some (vi n), some (vi what), none, none, none] S (byTurnsA (oF S) (oW S) (oB S) f n what) S := ans_r (fun _ _ _ _ _ _ C _ hQ => c_byTurns (d := 47) C (fun h' s => hQ h' s.D))
theorem a_drawn {s n g : Int32} : Ans 117 [some (vr 2), some (vi s), some (vi n), some (vi g), none, none, none, none, none, none] S (drawnA (oG S) (oF S) (oW S) (oB S) s n g) S := ans_r (fun _ _ _ _ _ _ C _ hQ => c_drawn (d := 53) C (fun h' s => hQ h' s.D))
theorem a_loses {f : Int32} : Ans 80 [some (vr 2), some (vi f)] S (losesA (oF S) (oW S) (oB S) f) S := ans_r (fun _ _ _ _ _ _ C _ hQ => c_loses (d := 56) C (fun h' s => hQ h' s.D))
theorem a_of {n what : Int32} : Ans 77 [some (vr 2), some (vi n), some (vi what)] S (ofA (oG S) (oF S) (oB S) n what) S := ans_r (fun _ h _ _ _ _ C _ hQ => (c_of (d := 57) C).mpr (hQ h ScrD.rf))
theorem a_led {what : Int32} (c : inb what 5) : Ans 121 [some (vr 2), some (vi what)] S (oL S (ix what)) S := by
  intro h j r E Q O hQ
  obtain ⟨⟨l, C⟩, o1, _⟩ := id O
  have hS := C.S
  have h5 : b2i (0 ≤ what ∧ what ≤ 4) = b2i (inb what 5) := b2i_c in_4
  have hQ := hQ h j r O Out.rf
  rw [← o1 _ c.2] at hQ
  simp only [k121_0, k121_1, k121_2, k121_3, k121_6, k121_9, k121_10, k121_13, k121_16, k121_17, k121_18, k121_21, k121_22, mm_sI, mm_sJ, mm_sR, mm_cI, mm_cJ, mm_I, mm_J, mm_R, mm_K, mm_N, psh_s, psh_n, z_n, z_i, z_r, z_l, Nat.reduceAdd, Nat.reduceLeDiff, K2 hS, R2_0 hS, R2_1 hS, R2_2 hS, R2_6 hS, R2_8 hS, R2_11 hS, R2_12 hS, R2_13 hS, R2_15 hS, R2_16 hS, K3 hS, K11 hS, K19 hS, K27 hS, K32 hS, K37 hS, K98 hS, K99 hS, K100 hS, N37 hS, N98 hS, N99 hS, N100 hS, R3_0 hS, R3_1 hS, R3_2 hS, R3_3 hS, R3_4 hS, R3_5 hS, R3_6 hS, K4 hS, K5 hS, K6 hS, K7 hS, K8 hS, K9 hS, K10 hS, N4 hS, N5 hS, N6 hS, N7 hS, N8 hS, N9 hS, N10 hS, false_or, or_false, ne_eq, true_or, or_true, not_false_eq_true, Nat.reduceEqDiff, Nat.reduceLT, Nat.reduceLeDiff, Nat.reduceAdd, s_within, h5, b2i_0, eq_true c, not_true_eq_false, if_false]; exact hQ
theorem a_count3 : Ans 140 [some (vr 2), some (vi 3)] S (nI (oC S).1) S := by
  intro h j r E Q O hQ
  obtain ⟨⟨l, C⟩, o1, o2, o3, _⟩ := id O
  have hS := C.S
  have hQ := hQ h j r O Out.rf
  rw [← o3.2.2.1] at hQ
  simp only [k140_0, k140_1c0, k140_1c1, k140_1c2, k140_1c3, k140_1c4, k140_1c5, k140_1, k140_40, k140_41, k140_44, k140_47, k140_48, k140_49, k140_52, k140_55, k140_56, k140_57, k140_60, k140_61, k140_62, k140_65, k140_66, k140_67, k140_70, k140_71, k140_72, k140_75, k140_76, k140_77, k140_78, k140_79, mm_sI, mm_sJ, mm_sR, mm_cI, mm_cJ, mm_I, mm_J, mm_R, mm_K, mm_N, psh_s, psh_n, z_n, z_i, z_r, z_l, Nat.reduceAdd, Nat.reduceLeDiff, K2 hS, R2_0 hS, R2_1 hS, R2_2 hS, R2_6 hS, R2_8 hS, R2_11 hS, R2_12 hS, R2_13 hS, R2_15 hS, R2_16 hS, K3 hS, K11 hS, K19 hS, K27 hS, K32 hS, K37 hS, K98 hS, K99 hS, K100 hS, N37 hS, N98 hS, N99 hS, N100 hS, false_or, or_false, ne_eq, true_or, or_true, not_false_eq_true, Nat.reduceEqDiff, Nat.reduceLT, Nat.reduceLeDiff, Nat.reduceAdd]; exact hQ
end OB
