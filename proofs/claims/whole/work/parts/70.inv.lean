/-! ===== what holds between calls ===== -/
def LedI (h : Hp) : Prop := ∀ i, i < 5 → h 127 i = h 10 i
def ImgI (G F : Nat) (h : Hp) : Prop := (h 2 3 = 0 ∧ h 113 23 = 0) ∨ (h 2 3 = 1 ∧ h 113 23 = 1 ∧ ∃ G2 F2, G2 ≤ G ∧ F2 ≤ F ∧ h 19 7 = nI G2 ∧ h 19 8 = nI F2 ∧ h 113 24 = nI G2 ∧ h 113 25 = nI F2 ∧
  (∀ i, i < G2 → h 128 i = h 21 i ∧ inb (h 21 i) 100) ∧ (∀ i, i < F2 → h 128 (8 + i) = h 22 i ∧ inb (h 22 i) 36 ∧ h 128 (16 + i) = h 24 i ∧ (h 24 i = -1 ∨ inb (h 24 i) G2) ∧ h 128 (24 + i) = h 25 i ∧ inb (h 25 i) 100) ∧
  h 128 32 = h 19 10 ∧ inb (h 19 10) 12 ∧ ∀ i, i < 5 → h 129 i = h 26 i)
def TapI (h : Hp) : Prop := ∃ n, n ≤ 120 ∧ h 2 7 = nI n ∧ h 113 4 = nI n ∧ ∀ i, i < n → h 116 i = h 37 i ∧ inb (h 37 i) 256
def ChgOk (G F : Nat) (n w o v : Int32) : Prop := ∃ n' w', n = nI n' ∧ w = nI w' ∧ w' ≤ 7 ∧ n' < (if w' < 2 then G else if w' < 6 then F else 1) ∧ okc G w' o ∧ okc G w' v
def ChgI (G F : Nat) (h : Hp) : Prop := ∃ m K, m ≤ K ∧ K ≤ 40 ∧ h 2 10 = nI m ∧ h 113 29 = nI m ∧ h 2 9 = nI K ∧ h 113 28 = nI K ∧ ∀ i, i < K → (∀ c, c < 4 → h 130 (4 * i + c) = h (39 + i) c) ∧ ChgOk G F (h (39 + i) 0) (h (39 + i) 1) (h (39 + i) 2) (h (39 + i) 3)
/-- the classes of the eight kinds -/
def kcl (k : Nat) : Nat := if k = 0 then 8 else if k = 1 then 6 else if k = 2 then 1 else if k = 3 then 5 else if k = 4 then 7 else if k = 5 then 0 else if k = 6 then 2 else 10
def BodI (h : Hp) (r : Rp) (E : EE) : Prop := ∃ nb, nb ≤ 50 ∧ h 2 14 = nI nb ∧ h 113 31 = nI nb ∧ E.2.2.1 = 143 + nb ∧ E.2.2.2 ≤ 10000 + 3 * nb ∧
  ∀ i, i < nb → r 98 i = 143 + i ∧ r (143 + i) 2 = 99 ∧ h (143 + i) 1 = nI i ∧ ∃ k, k < 8 ∧ h 131 i = nI k ∧ h (143 + i) 0 = nI k ∧ E.1 (143 + i) = kcl k
def TrcI (h : Hp) : Prop := ∃ c, c ≤ 1000 ∧ h 99 0 = nI c ∧ h 113 33 = nI c ∧ ∀ i, i < 24 → i < c → h 132 i = h 99 (1 + i)
def ShvI (h : Hp) (j : Jp) (r : Rp) : Prop := ∃ (HD : Nat → Int32) (N : Nat → Nat) (V : Nat → Nat → Int64), (∀ s, s < 6 → ShC s (HD s) (N s) (V s) h j r) ∧ (∀ s, s < 6 → ShM s (HD s) (N s) (V s) h j) ∧
  ∃ nb, h 2 14 = nI nb ∧ nb ≤ 50 ∧ ∀ s, s < 6 → 10 ≤ HD s → ∃ i, i < nb ∧ HD s = nI (10 + i) ∧ r (101 + 2 * s) 1 = 143 + i
def Inv (h : Hp) (j : Jp) (r : Rp) (E : EE) : Prop := ∃ G F l W b, CC G F l W b h r E ∧ DD G F W b h r E ∧ LedI h ∧ ImgI G F h ∧ TapI h ∧ ChgI G F h ∧ BodI h r E ∧ TrcI h ∧ ShvI h j r
section IV
variable {d : Nat} {M : Mem} {h h0 h1 h2 : Hp} {j : Jp} {r : Rp} {E : EE} {l G F A n : Nat} {W : LW} {b bt bm : BB} {Q : Option PV → Mem → Prop}
theorem LedI.fr (I : LedI h) (e1 : h1 127 = h 127) (e2 : h1 10 = h 10) : LedI h1 := by unfold LedI at I ⊢; rw [e1, e2]; exact I
theorem ImgI.fr (I : ImgI G F h) (e2 : h1 2 3 = h 2 3) (e3 : h1 113 23 = h 113 23) (e4 : h1 113 24 = h 113 24) (e5 : h1 113 25 = h 113 25) (e : ∀ a, (19 ≤ a ∧ a ≤ 26) ∨ a = 128 ∨ a = 129 → h1 a = h a) : ImgI G F h1 := by
  unfold ImgI at I ⊢
  rw [e2, e3, e4, e5, e 19 (by omega), e 21 (by omega), e 22 (by omega), e 24 (by omega), e 25 (by omega), e 26 (by omega), e 128 (by omega), e 129 (by omega)]; exact I
theorem TapI.fr (I : TapI h) (e2 : h1 2 7 = h 2 7) (e3 : h1 113 4 = h 113 4) (e4 : h1 116 = h 116) (e5 : h1 37 = h 37) : TapI h1 := by
  unfold TapI at I ⊢; rw [e2, e3, e4, e5]; exact I
theorem ChgI.fr (I : ChgI G F h) (e2 : h1 2 10 = h 2 10) (e3 : h1 113 29 = h 113 29) (e4 : h1 2 9 = h 2 9) (e5 : h1 113 28 = h 113 28) (e : ∀ a, (39 ≤ a ∧ a ≤ 78) ∨ a = 130 → h1 a = h a) : ChgI G F h1 := by
  obtain ⟨m, K, a1, a2, a3, a4, a5, a6, a7⟩ := I
  refine ⟨m, K, a1, a2, by rw [e2, a3], by rw [e3, a4], by rw [e4, a5], by rw [e5, a6], ?_⟩
  intro i hi
  rw [e (39 + i) (by omega), e 130 (by omega)]; exact a7 i hi
theorem BodI.fr (I : BodI h r E) (e2 : h1 2 14 = h 2 14) (e3 : h1 113 31 = h 113 31) (e : ∀ a, 143 ≤ a ∨ a = 131 → h1 a = h a) : BodI h1 r E := by
  obtain ⟨nb, a1, a2, a3, a4, a5, a6⟩ := I
  refine ⟨nb, a1, by rw [e2, a2], by rw [e3, a3], a4, a5, ?_⟩
  intro i hi
  rw [e (143 + i) (by omega), e 131 (by omega)]; exact a6 i hi
theorem TrcI.fr (I : TrcI h) (e1 : h1 99 = h 99) (e2 : h1 132 = h 132) (e3 : h1 113 33 = h 113 33) : TrcI h1 := by
  unfold TrcI at I ⊢; rw [e1, e2, e3]; exact I
theorem ShvI.fr (I : ShvI h j r) (e2 : h1 2 14 = h 2 14) (e : ∀ a, (101 ≤ a ∧ a ≤ 112) ∨ a = 133 ∨ a = 134 → h1 a = h a) : ShvI h1 j r := by
  obtain ⟨HD, N, V, c, m, nb, n1, n2, n3⟩ := I
  refine ⟨HD, N, V, ?_, ?_, nb, by rw [e2, n1], n2, n3⟩
  · intro s hs
    have := c s hs
    unfold ShC at this ⊢; rw [e (101 + 2 * s) (by omega)]; exact this
  · intro s hs
    have := m s hs
    unfold ShM at this ⊢; rw [e 133 (by omega), e 134 (by omega)]; exact this
theorem Inv.frD (I : Inv h j r E) (s : ScrD h h1) : Inv h1 j r E := by
  obtain ⟨G, F, l, W, b, C, D, i1, i2, i3, i4, i5, i6, i7⟩ := I
  have o : ∀ a, ¬ scrA a → ¬ (80 ≤ a ∧ a ≤ 97) → ¬ (139 ≤ a ∧ a ≤ 141) → h1 a = h a := s.1
  have o2 : h1 2 = h 2 := o 2 (by unfold scrA; omega) (by omega) (by omega)
  have m := fun i (p : i ≠ 38) (q : i ≠ 39) (t : i ≠ 46) => s.2.2 i p q t
  refine ⟨G, F, l, W, b, C.frD s, D.frD s, i1.fr (o _ (by unfold scrA; omega) (by omega) (by omega)) (o _ (by unfold scrA; omega) (by omega) (by omega)), ?_, ?_, ?_, ?_, ?_, ?_⟩
  · exact i2.fr (by rw [o2]) (m _ (by decide) (by decide) (by decide)) (m _ (by decide) (by decide) (by decide)) (m _ (by decide) (by decide) (by decide)) (fun a ha => o a (by unfold scrA; omega) (by omega) (by omega))
  · exact i3.fr (by rw [o2]) (m _ (by decide) (by decide) (by decide)) (o _ (by unfold scrA; omega) (by omega) (by omega)) (o _ (by unfold scrA; omega) (by omega) (by omega))
  · exact i4.fr (by rw [o2]) (m _ (by decide) (by decide) (by decide)) (by rw [o2]) (m _ (by decide) (by decide) (by decide)) (fun a ha => o a (by unfold scrA; omega) (by omega) (by omega))
  · exact i5.fr (by rw [o2]) (m _ (by decide) (by decide) (by decide)) (fun a ha => o a (by unfold scrA; omega) (by omega) (by omega))
  · exact i6.fr (o _ (by unfold scrA; omega) (by omega) (by omega)) (o _ (by unfold scrA; omega) (by omega) (by omega)) (m _ (by decide) (by decide) (by decide))
  · exact i7.fr (by rw [o2]) (fun a ha => o a (by unfold scrA; omega) (by omega) (by omega))
def InvE (M : Mem) : Prop := ∃ h j r E, M = mm h j r E ∧ Inv h j r E
/-- both answer so, and what holds between calls holds on -/
def Both (e yc ym : Nat) (ac am : Loc1) (M : Mem) : Prop := WP e yc 0 ac [] M (fun v M1 => WP e ym 0 am [] M1 (fun v2 M2 => v2 = v ∧ (∃ a, v = some (vi a)) ∧ InvE M2))
theorem both_q {e yc ym : Nat} {ac am : Loc1} {a : Int32} (I : Inv h j r E) (hc : ∀ Q : Option PV → Mem → Prop, (∀ h', ScrD h h' → Q (some (vi a)) (mm h' j r E)) → WP e yc 0 ac [] (mm h j r E) Q)
    (hm : ∀ h1, ScrD h h1 → ∀ Q : Option PV → Mem → Prop, (∀ h', ScrD h1 h' → Q (some (vi a)) (mm h' j r E)) → WP e ym 0 am [] (mm h1 j r E) Q) : Both e yc ym ac am (mm h j r E) := by
  unfold Both
  refine hc _ ?_
  intro h1 s1
  refine hm h1 s1 _ ?_
  intro h2 s2
  exact ⟨rfl, ⟨a, rfl⟩, h2, j, r, E, rfl, I.frD (s1.tr s2)⟩
theorem WP.deep' {e y pc : Nat} {ls : Loc1} {st : List PV} {M : Mem} {Q : Option PV → Mem → Prop} (n : Nat) (hn : n ≤ e) (h : ∀ d, n + d = e → WP (d + n) y pc ls st M Q) : WP e y pc ls st M Q := by
  have := h (e - n) (by omega)
  rwa [show e - n + n = e by omega] at this
theorem q_later {n number what : Int32} (I : Inv h j r E) : Both 60 81 195 [some (vr 2), some (vi n), some (vi number), some (vi what), none] [some (vr 113), some (vi n), some (vi number), some (vi what), none] (mm h j r E) := by
  obtain ⟨G, F, l, W, b, C, D, _⟩ := id I
  exact both_q I (fun Q hQ => c_later (d := 53) C (fun h' s => hQ h' s.D)) (fun h1 s Q hQ => m_later (d := 52) (D.frD s) (fun h' s => hQ h' s.D))
theorem q_marsh {n what : Int32} (I : Inv h j r E) : Both 60 83 196 [some (vr 2), some (vi n), some (vi what)] [some (vr 113), some (vi n), some (vi what), none] (mm h j r E) := by
  obtain ⟨G, F, l, W, b, C, D, _⟩ := id I
  exact both_q I (fun Q hQ => c_marsh (d := 53) C (fun h' s => hQ h' s.D)) (fun h1 s Q hQ => m_marsh (d := 52) (D.frD s) (fun h' s => hQ h' s.D))
theorem q_backWhen {f : Int32} (I : Inv h j r E) : Both 60 84 197 [some (vr 2), some (vi f), none, none] [some (vr 113), some (vi f), none, none] (mm h j r E) := by
  obtain ⟨G, F, l, W, b, C, D, _⟩ := id I
  exact both_q I (fun Q hQ => c_backWhen (d := 53) C (fun h' s => hQ h' s.D)) (fun h1 s Q hQ => m_backWhen (d := 52) (D.frD s) (fun h' s => hQ h' s.D))
theorem q_loan {gf x what : Int32} (I : Inv h j r E) : Both 60 85 201 [some (vr 2), some (vi gf), some (vi x), some (vi what)] [some (vr 113), some (vi gf), some (vi x), some (vi what)] (mm h j r E) := by
  obtain ⟨G, F, l, W, b, C, D, _⟩ := id I
  exact both_q I (fun Q hQ => c_loan (d := 54) C (fun h' s => hQ h' s.D)) (fun h1 s Q hQ => m_loan (d := 52) (D.frD s) (fun h' s => hQ h' s.D))
theorem q_best {g x what : Int32} (I : Inv h j r E) : Both 60 89 202 [some (vr 2), some (vi g), some (vi x), some (vi what), none, none, none, none] [some (vr 113), some (vi g), some (vi x), some (vi what), none, none, none] (mm h j r E) := by
  obtain ⟨G, F, l, W, b, C, D, _⟩ := id I
  exact both_q I (fun Q hQ => c_best (d := 54) C (fun h' s => hQ h' s.D)) (fun h1 s Q hQ => m_best (d := 52) (D.frD s) (fun h' s => hQ h' s.D))
theorem q_dealt {x g : Int32} (I : Inv h j r E) : Both 60 90 204 [some (vr 2), some (vi x), some (vi g)] [some (vr 113), some (vi x), some (vi g), none, none] (mm h j r E) := by
  obtain ⟨G, F, l, W, b, C, D, _⟩ := id I
  exact both_q I (fun Q hQ => c_dealt (d := 53) C hQ) (fun h1 s Q hQ => m_dealt (d := 40) (D.frD s) hQ)
theorem q_least {gf nv : Int32} (I : Inv h j r E) : Both 60 96 206 [some (vr 2), some (vi gf), some (vi nv), none] [some (vr 113), some (vi gf), some (vi nv), none] (mm h j r E) := by
  obtain ⟨G, F, l, W, b, C, D, _⟩ := id I
  exact both_q I (fun Q hQ => c_least (d := 54) C (fun h' s => hQ h' s.D)) (fun h1 s Q hQ => m_least (d := 53) (D.frD s) (fun h' s => hQ h' s.D))
theorem q_bars {f n : Int32} (I : Inv h j r E) : Both 60 98 208 [some (vr 2), some (vi f), some (vi n)] [some (vr 113), some (vi f), some (vi n), none, none, none] (mm h j r E) := by
  obtain ⟨G, F, l, W, b, C, D, _⟩ := id I
  exact both_q I (fun Q hQ => (c_bars (d := 58) C).mpr (hQ h ScrD.rf)) (fun h1 s Q hQ => (m_bars (d := 59) (D.frD s)).mpr (hQ h1 ScrD.rf))
theorem q_stops {x what : Int32} (I : Inv h j r E) : Both 60 101 210 [some (vr 2), some (vi x), some (vi what), none, none] [some (vr 113), some (vi x), some (vi what), none, none] (mm h j r E) := by
  obtain ⟨G, F, l, W, b, C, D, _⟩ := id I
  exact both_q I (fun Q hQ => (c_stops (d := 57) C).mpr (hQ h ScrD.rf)) (fun h1 s Q hQ => (m_stops (d := 58) (D.frD s)).mpr (hQ h1 ScrD.rf))
theorem ShC.frD {s n : Nat} {hd : Int32} {V : Nat → Int64} (C : ShC s hd n V h j r) (hs : s < 6) (e : ScrD h h1) : ShC s hd n V h1 j r := by
  unfold ShC at C ⊢; rw [e.1 (101 + 2 * s) (by unfold scrA; omega) (by omega) (by omega)]; exact C
theorem ShM.frD {s n : Nat} {hd : Int32} {V : Nat → Int64} (C : ShM s hd n V h j) (e : ScrD h h1) : ShM s hd n V h1 j := by
  unfold ShM at C ⊢; rw [e.1 133 (by unfold scrA; omega) (by omega) (by omega), e.1 134 (by unfold scrA; omega) (by omega) (by omega)]; exact C
theorem q_judge {s f : Int32} (I : Inv h j r E) : Both 60 104 213 [some (vr 2), some (vi s), some (vi f), none, none] [some (vr 113), some (vi s), some (vi f), none] (mm h j r E) := by
  obtain ⟨G, F, l, W, b, C, D, _, _, _, _, _, _, HD, N, V, sc, sm, _⟩ := id I
  exact both_q I (fun Q hQ => c_judge (d := 54) C sc (fun h' s => hQ h' s.D)) (fun h1 s Q hQ => m_judge (d := 51) (D.frD s) (fun x hx => (sc x hx).frD hx s) (fun x hx => (sm x hx).frD s) (fun h' s => hQ h' s.D))
theorem q_fits {s f what : Int32} (I : Inv h j r E) : Both 60 107 214 [some (vr 2), some (vi s), some (vi f), some (vi what), none, none] [some (vr 113), some (vi s), some (vi f), some (vi what), none, none, none, none, none] (mm h j r E) := by
  obtain ⟨G, F, l, W, b, C, D, _, _, _, _, _, _, HD, N, V, sc, sm, _⟩ := id I
  exact both_q I (fun Q hQ => c_fits (d := 53) C sc (fun h' s => hQ h' s.D)) (fun h1 s Q hQ => m_fits (d := 51) (D.frD s) (fun x hx => (sc x hx).frD hx s) (fun x hx => (sm x hx).frD s) (fun h' s => hQ h' s.D))
theorem q_alike (I : Inv h j r E) : Both 60 110 215 [some (vr 2), none, none, none] [some (vr 113), none, none, none, none, none] (mm h j r E) := by
  obtain ⟨G, F, l, W, b, C, D, _⟩ := id I
  exact both_q I (fun Q hQ => c_alike (d := 54) C (fun h' s => hQ h' s.D)) (fun h1 s Q hQ => m_alike (d := 52) (D.frD s) (fun h' s => hQ h' s.D))
theorem q_ring {g : Int32} (I : Inv h j r E) : Both 60 112 217 [some (vr 2), some (vi g), none, none, none, none] [some (vr 113), some (vi g), none, none, none] (mm h j r E) := by
  obtain ⟨G, F, l, W, b, C, D, _⟩ := id I
  exact both_q I (fun Q hQ => (c_ring (d := 58) C).mpr (hQ h ScrD.rf)) (fun h1 s Q hQ => (m_ring (d := 58) (D.frD s)).mpr (hQ h1 ScrD.rf))
theorem q_byTurns {f n what : Int32} (I : Inv h j r E) : Both 60 113 220 [some (vr 2), some (vi f), some (vi n), some (vi what), none, none, none] [some (vr 113), some (vi f), some (vi n), some (vi what), none, none] (mm h j r E) := by
  obtain ⟨G, F, l, W, b, C, D, _⟩ := id I
  exact both_q I (fun Q hQ => c_byTurns (d := 47) C (fun h' s => hQ h' s.D)) (fun h1 s Q hQ => m_byTurns (d := 40) (D.frD s) (fun h' s => hQ h' s.D))
theorem q_drawn {s n g : Int32} (I : Inv h j r E) : Both 60 117 221 [some (vr 2), some (vi s), some (vi n), some (vi g), none, none, none, none, none, none] [some (vr 113), some (vi s), some (vi n), some (vi g), none, none, none, none] (mm h j r E) := by
  obtain ⟨G, F, l, W, b, C, D, _⟩ := id I
  exact both_q I (fun Q hQ => c_drawn (d := 53) C (fun h' s => hQ h' s.D)) (fun h1 s Q hQ => m_drawn (d := 53) (D.frD s) (fun h' s => hQ h' s.D))
end IV
