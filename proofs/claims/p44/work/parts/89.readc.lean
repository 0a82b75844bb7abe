/-! ===== the class reads the law's text ===== -/
def XC (l n : Nat) (T : Nat → Int32) (h : Hp) (r : Rp) (E : EE) : Prop := Sh r E ∧ (l = 27 ∨ l = 32) ∧ r l 6 = 37 ∧ n ≤ 120 ∧ h l 7 = nI n ∧ ∀ i, i < n → h 37 i = T i
/-- steps lie from k on -/
def hc (h : Hp) (l : Nat) : Nat → List Tk → Prop
  | _, [] => True
  | k, t :: c => h (l + 1) k = t.1 ∧ h (l + 2) k = t.2 ∧ hc h l (k + 1) c
/-- nothing but the place, and steps from k on, has changed -/
def PF (l k : Nat) (h h1 : Hp) : Prop := (∀ a, a ≠ l → a ≠ l + 1 → a ≠ l + 2 → h1 a = h a) ∧ (∀ i, i ≠ 4 → i ≠ 8 → h1 l i = h l i) ∧ ∀ i, i < k → h1 (l + 1) i = h (l + 1) i ∧ h1 (l + 2) i = h (l + 2) i
def PP (l k : Nat) (s : PR) (h h1 : Hp) : Prop := PF l k h h1 ∧ h1 l 8 = nI s.2.1 ∧ h1 l 4 = nI (k + s.2.2.length) ∧ hc h1 l k s.2.2
def adH (l k : Nat) (a b : Int32) (h : Hp) : Hp := up2 (up2 (up2 h (l + 1) k a) (l + 2) k b) l 4 (nI (k + 1))
section RC
variable {d D : Nat} {M : Mem} {h h0 h1 h2 h3 : Hp} {j : Jp} {r : Rp} {E : EE} {l n p k q o lv : Nat} {T : Nat → Int32} {Q : Option PV → Mem → Prop} {x a b : Int32} {s s2 : PR} {c c2 : List Tk} {z : Bool}
theorem hc_app : ∀ {c : List Tk} {k : Nat}, hc h l k (c ++ c2) ↔ hc h l k c ∧ hc h l (k + c.length) c2 := by
  intro c
  induction c with
  | nil => intro k; rw [List.nil_append, List.length_nil, Nat.add_zero]; exact ⟨fun h => ⟨trivial, h⟩, fun h => h.2⟩
  | cons t c ih =>
    intro k
    rw [List.cons_append, List.length_cons, show k + (c.length + 1) = k + 1 + c.length by omega]
    constructor
    · intro ⟨a1, a2, a3⟩
      have := ih.1 a3
      exact ⟨⟨a1, a2, this.1⟩, this.2⟩
    · intro ⟨⟨a1, a2, a3⟩, a4⟩
      exact ⟨a1, a2, ih.2 ⟨a3, a4⟩⟩
theorem hc_fr : ∀ {c : List Tk} {k : Nat}, hc h l k c → (∀ i, k ≤ i → i < k + c.length → h1 (l + 1) i = h (l + 1) i ∧ h1 (l + 2) i = h (l + 2) i) → hc h1 l k c := by
  intro c
  induction c with
  | nil => intro k _ _; trivial
  | cons t c ih =>
    intro k ⟨a1, a2, a3⟩ e
    rw [List.length_cons] at e
    refine ⟨?_, ?_, ih a3 (fun i h1 h2 => e i (by omega) (by omega))⟩
    · rw [(e k (by omega) (by omega)).1]; exact a1
    · rw [(e k (by omega) (by omega)).2]; exact a2
theorem PF.rf : PF l k h h := ⟨fun _ _ _ _ => rfl, fun _ _ _ => rfl, fun _ _ => ⟨rfl, rfl⟩⟩
theorem PF.tr (a : PF l k h h1) (b : PF l k h1 h2) : PF l k h h2 :=
  ⟨fun x p q s => (b.1 x p q s).trans (a.1 x p q s), fun i p q => (b.2.1 i p q).trans (a.2.1 i p q), fun i p => ⟨(b.2.2 i p).1.trans (a.2.2 i p).1, (b.2.2 i p).2.trans (a.2.2 i p).2⟩⟩
theorem PF.lo {m : Nat} (a : PF l k h h1) (hm : m ≤ k) : PF l m h h1 := ⟨a.1, a.2.1, fun i hi => a.2.2 i (by omega)⟩
theorem PF.pl {v : Int32} : PF l k h (up2 h l 8 v) := ⟨fun x p q s => up2_a p, fun i p q => up2_i q, fun i _ => ⟨by rw [up2_a (by omega)], by rw [up2_a (by omega)]⟩⟩
theorem PF.ad (hk : k ≤ q) : PF l k h (adH l q a b h) := by
  unfold adH
  refine ⟨fun x p q s => by rw [up2_a p, up2_a s, up2_a q], fun i p q => by rw [up2_i p, up2_a (by omega), up2_a (by omega)], fun i hi => ⟨?_, ?_⟩⟩
  · rw [up2_a (by omega), up2_a (by omega), up2_i (by omega)]
  · rw [up2_a (by omega), up2_i (by omega), up2_a (by omega)]
theorem PP.nl (h8 : h l 8 = nI p) (h4 : h l 4 = nI k) : PP l k (z, p, []) h h := ⟨PF.rf, h8, h4, trivial⟩
theorem PP.fr (f : PF l k h h1) (P : PP l k s h1 h2) : PP l k s h h2 := ⟨f.tr P.1, P.2⟩
theorem PP.pl (P : PP l k s h h1) : PP l k (z, q, s.2.2) h (up2 h1 l 8 (nI q)) := by
  refine ⟨P.1.tr PF.pl, up2_s, ?_, ?_⟩
  · rw [up2_i (by decide)]; exact P.2.2.1
  · exact hc_fr P.2.2.2 (fun i _ _ => ⟨by rw [up2_a (by omega)], by rw [up2_a (by omega)]⟩)
theorem PP.ad (P : PP l k s h h1) : PP l k (z, s.2.1, s.2.2 ++ [(a, b)]) h (adH l (k + s.2.2.length) a b h1) := by
  refine ⟨P.1.tr (PF.ad (by omega)), ?_, ?_, ?_⟩
  · unfold adH; rw [up2_i (by decide), up2_a (by omega), up2_a (by omega)]; exact P.2.1
  · unfold adH; rw [up2_s, List.length_append, List.length_singleton, Nat.add_assoc]
  · refine hc_app.2 ⟨hc_fr P.2.2.2 ?_, ?_, ?_, trivial⟩
    · intro i _ hi; unfold adH
      rw [up2_a (by omega), up2_a (by omega), up2_i (by omega), up2_a (by omega), up2_i (by omega), up2_a (by omega)]; exact ⟨rfl, rfl⟩
    · unfold adH; rw [up2_a (by omega), up2_a (by omega), up2_s]
    · unfold adH; rw [up2_a (by omega), up2_s]
theorem PP.cat (P : PP l k s h h1) (P2 : PP l (k + s.2.2.length) s2 h1 h2) : PP l k (z, s2.2.1, s.2.2 ++ s2.2.2) h h2 := by
  refine ⟨P.1.tr (P2.1.lo (by omega)), P2.2.1, ?_, ?_⟩
  · rw [List.length_append, ← Nat.add_assoc]; exact P2.2.2.1
  · exact hc_app.2 ⟨hc_fr P.2.2.2 (fun i _ hi => P2.1.2.2 i hi), P2.2.2.2⟩
theorem XC.S (X : XC l n T h r E) : Sh r E := X.1
theorem XC.il (X : XC l n T h r E) : l = 27 ∨ l = 32 := X.2.1
theorem XC.HL (X : XC l n T h r E) : Lw r E l := lw_of X.1 X.2.1
theorem XC.r6 (X : XC l n T h r E) : r l 6 = 37 := X.2.2.1
theorem XC.n1 (X : XC l n T h r E) : n ≤ 120 := X.2.2.2.1
theorem XC.ln (X : XC l n T h r E) : h l 7 = nI n := X.2.2.2.2.1
theorem XC.t (X : XC l n T h r E) (hp : p < n) : h 37 p = T p := X.2.2.2.2.2 p hp
theorem XC.fr (X : XC l n T h r E) (f : PF l k h h1) : XC l n T h1 r E := by
  refine ⟨X.1, X.2.1, X.2.2.1, X.2.2.2.1, ?_, fun i hi => ?_⟩
  · rw [f.2.1 7 (by decide) (by decide)]; exact X.ln
  · have hl := X.il
    rw [f.1 37 (by omega) (by omega) (by omega)]; exact X.t hi
theorem s_levelOf : WP d 12 0 [some (vi x)] [] M Q = Q (some (vi (nI (levF x)))) M := by
  by_cases c1 : x = 124
  · subst c1; simp only [k12_0, k12_1c37, k12_1c38, k12_1c42, k12_1c43, k12_1c45, k12_1c47, k12_1c60, k12_1c61, k12_1c62, k12_1c124, k12_1, k12_92, k12_93, k12_94, k12_95, k12_96, k12_97, k12_98, k12_99, k12_100, k12_101, k12_102, k12_103, mm_sI, mm_sJ, mm_sR, mm_cI, mm_cJ, mm_I, mm_J, mm_R, mm_K, mm_N, psh_s, psh_n, z_n, z_i, z_r, z_l, Nat.reduceAdd, Nat.reduceLeDiff]; rfl
  by_cases c2 : x = 38
  · subst c2; simp only [k12_0, k12_1c37, k12_1c38, k12_1c42, k12_1c43, k12_1c45, k12_1c47, k12_1c60, k12_1c61, k12_1c62, k12_1c124, k12_1, k12_92, k12_93, k12_94, k12_95, k12_96, k12_97, k12_98, k12_99, k12_100, k12_101, k12_102, k12_103, mm_sI, mm_sJ, mm_sR, mm_cI, mm_cJ, mm_I, mm_J, mm_R, mm_K, mm_N, psh_s, psh_n, z_n, z_i, z_r, z_l, Nat.reduceAdd, Nat.reduceLeDiff]; rfl
  by_cases c3 : x = 60
  · subst c3; simp only [k12_0, k12_1c37, k12_1c38, k12_1c42, k12_1c43, k12_1c45, k12_1c47, k12_1c60, k12_1c61, k12_1c62, k12_1c124, k12_1, k12_92, k12_93, k12_94, k12_95, k12_96, k12_97, k12_98, k12_99, k12_100, k12_101, k12_102, k12_103, mm_sI, mm_sJ, mm_sR, mm_cI, mm_cJ, mm_I, mm_J, mm_R, mm_K, mm_N, psh_s, psh_n, z_n, z_i, z_r, z_l, Nat.reduceAdd, Nat.reduceLeDiff]; rfl
  by_cases c4 : x = 61
  · subst c4; simp only [k12_0, k12_1c37, k12_1c38, k12_1c42, k12_1c43, k12_1c45, k12_1c47, k12_1c60, k12_1c61, k12_1c62, k12_1c124, k12_1, k12_92, k12_93, k12_94, k12_95, k12_96, k12_97, k12_98, k12_99, k12_100, k12_101, k12_102, k12_103, mm_sI, mm_sJ, mm_sR, mm_cI, mm_cJ, mm_I, mm_J, mm_R, mm_K, mm_N, psh_s, psh_n, z_n, z_i, z_r, z_l, Nat.reduceAdd, Nat.reduceLeDiff]; rfl
  by_cases c5 : x = 62
  · subst c5; simp only [k12_0, k12_1c37, k12_1c38, k12_1c42, k12_1c43, k12_1c45, k12_1c47, k12_1c60, k12_1c61, k12_1c62, k12_1c124, k12_1, k12_92, k12_93, k12_94, k12_95, k12_96, k12_97, k12_98, k12_99, k12_100, k12_101, k12_102, k12_103, mm_sI, mm_sJ, mm_sR, mm_cI, mm_cJ, mm_I, mm_J, mm_R, mm_K, mm_N, psh_s, psh_n, z_n, z_i, z_r, z_l, Nat.reduceAdd, Nat.reduceLeDiff]; rfl
  by_cases c6 : x = 43
  · subst c6; simp only [k12_0, k12_1c37, k12_1c38, k12_1c42, k12_1c43, k12_1c45, k12_1c47, k12_1c60, k12_1c61, k12_1c62, k12_1c124, k12_1, k12_92, k12_93, k12_94, k12_95, k12_96, k12_97, k12_98, k12_99, k12_100, k12_101, k12_102, k12_103, mm_sI, mm_sJ, mm_sR, mm_cI, mm_cJ, mm_I, mm_J, mm_R, mm_K, mm_N, psh_s, psh_n, z_n, z_i, z_r, z_l, Nat.reduceAdd, Nat.reduceLeDiff]; rfl
  by_cases c7 : x = 45
  · subst c7; simp only [k12_0, k12_1c37, k12_1c38, k12_1c42, k12_1c43, k12_1c45, k12_1c47, k12_1c60, k12_1c61, k12_1c62, k12_1c124, k12_1, k12_92, k12_93, k12_94, k12_95, k12_96, k12_97, k12_98, k12_99, k12_100, k12_101, k12_102, k12_103, mm_sI, mm_sJ, mm_sR, mm_cI, mm_cJ, mm_I, mm_J, mm_R, mm_K, mm_N, psh_s, psh_n, z_n, z_i, z_r, z_l, Nat.reduceAdd, Nat.reduceLeDiff]; rfl
  by_cases c8 : x = 42
  · subst c8; simp only [k12_0, k12_1c37, k12_1c38, k12_1c42, k12_1c43, k12_1c45, k12_1c47, k12_1c60, k12_1c61, k12_1c62, k12_1c124, k12_1, k12_92, k12_93, k12_94, k12_95, k12_96, k12_97, k12_98, k12_99, k12_100, k12_101, k12_102, k12_103, mm_sI, mm_sJ, mm_sR, mm_cI, mm_cJ, mm_I, mm_J, mm_R, mm_K, mm_N, psh_s, psh_n, z_n, z_i, z_r, z_l, Nat.reduceAdd, Nat.reduceLeDiff]; rfl
  by_cases c9 : x = 47
  · subst c9; simp only [k12_0, k12_1c37, k12_1c38, k12_1c42, k12_1c43, k12_1c45, k12_1c47, k12_1c60, k12_1c61, k12_1c62, k12_1c124, k12_1, k12_92, k12_93, k12_94, k12_95, k12_96, k12_97, k12_98, k12_99, k12_100, k12_101, k12_102, k12_103, mm_sI, mm_sJ, mm_sR, mm_cI, mm_cJ, mm_I, mm_J, mm_R, mm_K, mm_N, psh_s, psh_n, z_n, z_i, z_r, z_l, Nat.reduceAdd, Nat.reduceLeDiff]; rfl
  by_cases c10 : x = 37
  · subst c10; simp only [k12_0, k12_1c37, k12_1c38, k12_1c42, k12_1c43, k12_1c45, k12_1c47, k12_1c60, k12_1c61, k12_1c62, k12_1c124, k12_1, k12_92, k12_93, k12_94, k12_95, k12_96, k12_97, k12_98, k12_99, k12_100, k12_101, k12_102, k12_103, mm_sI, mm_sJ, mm_sR, mm_cI, mm_cJ, mm_I, mm_J, mm_R, mm_K, mm_N, psh_s, psh_n, z_n, z_i, z_r, z_l, Nat.reduceAdd, Nat.reduceLeDiff]; rfl
  have e : levF x = 5 := by unfold levF; simp only [c1, c2, c3, c4, c5, c6, c7, c8, c9, c10, or_false, if_false]
  simp only [k12_0, k12_92, k12_93, k12_94, k12_95, k12_96, k12_97, k12_98, k12_99, k12_100, k12_101, k12_102, k12_103, k12_1 c10 c2 c8 c6 c7 c9 c3 c4 c5 c1, mm_sI, mm_sJ, mm_sR, mm_cI, mm_cJ, mm_I, mm_J, mm_R, mm_K, mm_N, psh_s, psh_n, z_n, z_i, z_r, z_l, Nat.reduceAdd, Nat.reduceLeDiff, e]; rfl
theorem i98 : (98 : Int32).toInt = 98 := rfl
theorem i100 : (100 : Int32).toInt = 100 := rfl
theorem i101 : (101 : Int32).toInt = 101 := rfl
theorem i102 : (102 : Int32).toInt = 102 := rfl
theorem i103 : (103 : Int32).toInt = 103 := rfl
theorem i104 : (104 : Int32).toInt = 104 := rfl
theorem i105 : (105 : Int32).toInt = 105 := rfl
theorem i106 : (106 : Int32).toInt = 106 := rfl
theorem i107 : (107 : Int32).toInt = 107 := rfl
theorem s_nameOf : WP d 16 0 [some (vi x)] [] M Q = Q (some (vi (namF x))) M := by
  by_cases c1 : x = 98
  · subst c1; simp only [k16_0, k16_1c98, k16_1c99, k16_1c100, k16_1c101, k16_1c102, k16_1c103, k16_1c104, k16_1c105, k16_1c106, k16_1c107, k16_1, k16_56, k16_57, k16_58, k16_59, k16_60, k16_61, k16_62, k16_63, k16_64, k16_65, k16_66, k16_67, k16_68, k16_69, mm_sI, mm_sJ, mm_sR, mm_cI, mm_cJ, mm_I, mm_J, mm_R, mm_K, mm_N, psh_s, psh_n, z_n, z_i, z_r, z_l, Nat.reduceAdd, Nat.reduceLeDiff]; rfl
  by_cases c2 : x = 99
  · subst c2; simp only [k16_0, k16_1c98, k16_1c99, k16_1c100, k16_1c101, k16_1c102, k16_1c103, k16_1c104, k16_1c105, k16_1c106, k16_1c107, k16_1, k16_56, k16_57, k16_58, k16_59, k16_60, k16_61, k16_62, k16_63, k16_64, k16_65, k16_66, k16_67, k16_68, k16_69, mm_sI, mm_sJ, mm_sR, mm_cI, mm_cJ, mm_I, mm_J, mm_R, mm_K, mm_N, psh_s, psh_n, z_n, z_i, z_r, z_l, Nat.reduceAdd, Nat.reduceLeDiff]; rfl
  by_cases c3 : x = 100
  · subst c3; simp only [k16_0, k16_1c98, k16_1c99, k16_1c100, k16_1c101, k16_1c102, k16_1c103, k16_1c104, k16_1c105, k16_1c106, k16_1c107, k16_1, k16_56, k16_57, k16_58, k16_59, k16_60, k16_61, k16_62, k16_63, k16_64, k16_65, k16_66, k16_67, k16_68, k16_69, mm_sI, mm_sJ, mm_sR, mm_cI, mm_cJ, mm_I, mm_J, mm_R, mm_K, mm_N, psh_s, psh_n, z_n, z_i, z_r, z_l, Nat.reduceAdd, Nat.reduceLeDiff]; rfl
  by_cases c4 : x = 101
  · subst c4; simp only [k16_0, k16_1c98, k16_1c99, k16_1c100, k16_1c101, k16_1c102, k16_1c103, k16_1c104, k16_1c105, k16_1c106, k16_1c107, k16_1, k16_56, k16_57, k16_58, k16_59, k16_60, k16_61, k16_62, k16_63, k16_64, k16_65, k16_66, k16_67, k16_68, k16_69, mm_sI, mm_sJ, mm_sR, mm_cI, mm_cJ, mm_I, mm_J, mm_R, mm_K, mm_N, psh_s, psh_n, z_n, z_i, z_r, z_l, Nat.reduceAdd, Nat.reduceLeDiff]; rfl
  by_cases c5 : x = 102
  · subst c5; simp only [k16_0, k16_1c98, k16_1c99, k16_1c100, k16_1c101, k16_1c102, k16_1c103, k16_1c104, k16_1c105, k16_1c106, k16_1c107, k16_1, k16_56, k16_57, k16_58, k16_59, k16_60, k16_61, k16_62, k16_63, k16_64, k16_65, k16_66, k16_67, k16_68, k16_69, mm_sI, mm_sJ, mm_sR, mm_cI, mm_cJ, mm_I, mm_J, mm_R, mm_K, mm_N, psh_s, psh_n, z_n, z_i, z_r, z_l, Nat.reduceAdd, Nat.reduceLeDiff]; rfl
  by_cases c6 : x = 103
  · subst c6; simp only [k16_0, k16_1c98, k16_1c99, k16_1c100, k16_1c101, k16_1c102, k16_1c103, k16_1c104, k16_1c105, k16_1c106, k16_1c107, k16_1, k16_56, k16_57, k16_58, k16_59, k16_60, k16_61, k16_62, k16_63, k16_64, k16_65, k16_66, k16_67, k16_68, k16_69, mm_sI, mm_sJ, mm_sR, mm_cI, mm_cJ, mm_I, mm_J, mm_R, mm_K, mm_N, psh_s, psh_n, z_n, z_i, z_r, z_l, Nat.reduceAdd, Nat.reduceLeDiff]; rfl
  by_cases c7 : x = 104
  · subst c7; simp only [k16_0, k16_1c98, k16_1c99, k16_1c100, k16_1c101, k16_1c102, k16_1c103, k16_1c104, k16_1c105, k16_1c106, k16_1c107, k16_1, k16_56, k16_57, k16_58, k16_59, k16_60, k16_61, k16_62, k16_63, k16_64, k16_65, k16_66, k16_67, k16_68, k16_69, mm_sI, mm_sJ, mm_sR, mm_cI, mm_cJ, mm_I, mm_J, mm_R, mm_K, mm_N, psh_s, psh_n, z_n, z_i, z_r, z_l, Nat.reduceAdd, Nat.reduceLeDiff]; rfl
  by_cases c8 : x = 105
  · subst c8; simp only [k16_0, k16_1c98, k16_1c99, k16_1c100, k16_1c101, k16_1c102, k16_1c103, k16_1c104, k16_1c105, k16_1c106, k16_1c107, k16_1, k16_56, k16_57, k16_58, k16_59, k16_60, k16_61, k16_62, k16_63, k16_64, k16_65, k16_66, k16_67, k16_68, k16_69, mm_sI, mm_sJ, mm_sR, mm_cI, mm_cJ, mm_I, mm_J, mm_R, mm_K, mm_N, psh_s, psh_n, z_n, z_i, z_r, z_l, Nat.reduceAdd, Nat.reduceLeDiff]; rfl
  by_cases c9 : x = 106
  · subst c9; simp only [k16_0, k16_1c98, k16_1c99, k16_1c100, k16_1c101, k16_1c102, k16_1c103, k16_1c104, k16_1c105, k16_1c106, k16_1c107, k16_1, k16_56, k16_57, k16_58, k16_59, k16_60, k16_61, k16_62, k16_63, k16_64, k16_65, k16_66, k16_67, k16_68, k16_69, mm_sI, mm_sJ, mm_sR, mm_cI, mm_cJ, mm_I, mm_J, mm_R, mm_K, mm_N, psh_s, psh_n, z_n, z_i, z_r, z_l, Nat.reduceAdd, Nat.reduceLeDiff]; rfl
  by_cases c10 : x = 107
  · subst c10; simp only [k16_0, k16_1c98, k16_1c99, k16_1c100, k16_1c101, k16_1c102, k16_1c103, k16_1c104, k16_1c105, k16_1c106, k16_1c107, k16_1, k16_56, k16_57, k16_58, k16_59, k16_60, k16_61, k16_62, k16_63, k16_64, k16_65, k16_66, k16_67, k16_68, k16_69, mm_sI, mm_sJ, mm_sR, mm_cI, mm_cJ, mm_I, mm_J, mm_R, mm_K, mm_N, psh_s, psh_n, z_n, z_i, z_r, z_l, Nat.reduceAdd, Nat.reduceLeDiff]; rfl
  have e : namF x = -1 := by unfold namF; simp only [c1, c3, c5, c6, c7, c10, if_false]
  have o : x.toInt < 98 ∨ 107 < x.toInt := by
    rw [iEq, i98] at c1; rw [iEq, i99] at c2; rw [iEq, i100] at c3; rw [iEq, i101] at c4; rw [iEq, i102] at c5
    rw [iEq, i103] at c6; rw [iEq, i104] at c7; rw [iEq, i105] at c8; rw [iEq, i106] at c9; rw [iEq, i107] at c10
    omega
  simp only [k16_0, k16_56, k16_57, k16_58, k16_59, k16_60, k16_61, k16_62, k16_63, k16_64, k16_65, k16_66, k16_67, k16_68, k16_69, k16_1 o, mm_sI, mm_sJ, mm_sR, mm_cI, mm_cJ, mm_I, mm_J, mm_R, mm_K, mm_N, psh_s, psh_n, z_n, z_i, z_r, z_l, Nat.reduceAdd, Nat.reduceLeDiff, e]
theorem s_isDigit (X : XC l n T h r E) (hp : h l 8 = nI p) (hpn : p ≤ n) : WP (d + 1) 15 0 [some (vr l)] [] (mm h j r E) Q = Q (some (vi (b2i (p < n ∧ (48 ≤ T p ∧ T p ≤ 57))))) (mm h j r E) := by
  have hS := X.S
  have HL := X.HL
  have n1 := X.n1
  by_cases c : p < n
  · have c1 : (nI n ≤ nI p) = False := by rw [nLe (by omega) (by omega)]; exact eq_false (by omega)
    have hb : inb (nI p) 120 = True := eq_true (by rw [inb_n (by omega)]; omega)
    simp only [k15_0, k15_1, k15_4, k15_5, k15_8, k15_11, k15_12, k15_15, k15_16, k15_19, k15_20, k15_22, k15_24, k15_27, k15_30, k15_31, k15_34, k15_35, mm_sI, mm_sJ, mm_sR, mm_cI, mm_cJ, mm_I, mm_J, mm_R, mm_K, mm_N, psh_s, psh_n, z_n, z_i, z_r, z_l, Nat.reduceAdd, Nat.reduceLeDiff, false_or, or_false, ne_eq, true_or, or_true, not_false_eq_true, Nat.reduceEqDiff, Nat.reduceLT, Nat.reduceLeDiff, Nat.reduceAdd, lk0 HL, hp, X.ln, c1, if_false, X.r6, K37 hS, N37 hS, hb, ix_n (show p < 2 ^ 31 by omega), X.t c, s_within, b2i_0]
    by_cases c2 : 48 ≤ T p ∧ T p ≤ 57
    · rw [b2i_t (p := p < n ∧ (48 ≤ T p ∧ T p ≤ 57)) ⟨c, c2⟩]
      simp only [eq_true c2, not_true_eq_false, if_false]
    · rw [b2i_f (p := p < n ∧ (48 ≤ T p ∧ T p ≤ 57)) (fun hh => c2 hh.2)]
      simp only [eq_false c2, not_false_eq_true, if_true]
  · have c1 : (nI n ≤ nI p) = True := by rw [nLe (by omega) (by omega)]; exact eq_true (by omega)
    rw [b2i_f (p := p < n ∧ (48 ≤ T p ∧ T p ≤ 57)) (fun hh => c hh.1)]
    simp only [k15_0, k15_1, k15_4, k15_5, k15_8, k15_11, k15_12, k15_15, k15_16, k15_19, k15_20, k15_22, k15_24, k15_27, k15_30, k15_31, k15_34, k15_35, mm_sI, mm_sJ, mm_sR, mm_cI, mm_cJ, mm_I, mm_J, mm_R, mm_K, mm_N, psh_s, psh_n, z_n, z_i, z_r, z_l, Nat.reduceAdd, Nat.reduceLeDiff, false_or, or_false, ne_eq, true_or, or_true, not_false_eq_true, Nat.reduceEqDiff, Nat.reduceLT, Nat.reduceLeDiff, Nat.reduceAdd, lk0 HL, hp, X.ln, c1, if_true]
theorem s_takes (X : XC l n T h r E) (hp : h l 8 = nI p) (hpn : p ≤ n) : WP d 17 0 [some (vr l), some (vi x)] [] (mm h j r E) Q = if p < n ∧ T p = x then Q (some (vi 1)) (mm (up2 h l 8 (nI (p + 1))) j r E) else Q (some (vi 0)) (mm h j r E) := by
  have hS := X.S
  have HL := X.HL
  have n1 := X.n1
  by_cases c : p < n
  · have c1 : (nI n ≤ nI p) = False := by rw [nLe (by omega) (by omega)]; exact eq_false (by omega)
    have hb : inb (nI p) 120 = True := eq_true (by rw [inb_n (by omega)]; omega)
    by_cases c2 : T p = x
    · rw [if_pos ⟨c, c2⟩]
      simp only [k17_0, k17_1, k17_4, k17_5, k17_8, k17_11, k17_12, k17_15, k17_16, k17_19, k17_20, k17_21, k17_24, k17_25, k17_26, k17_27, k17_27i, k17_28, k17_31, k17_32, k17_33, k17_36, k17_37, mm_sI, mm_sJ, mm_sR, mm_cI, mm_cJ, mm_I, mm_J, mm_R, mm_K, mm_N, psh_s, psh_n, z_n, z_i, z_r, z_l, Nat.reduceAdd, Nat.reduceLeDiff, false_or, or_false, ne_eq, true_or, or_true, not_false_eq_true, Nat.reduceEqDiff, Nat.reduceLT, Nat.reduceLeDiff, Nat.reduceAdd, lk0 HL, hp, X.ln, c1, if_false, X.r6, K37 hS, N37 hS, hb, ix_n (show p < 2 ^ 31 by omega), X.t c, c2, if_true, nS1]
    · rw [if_neg (fun hh => c2 hh.2)]
      simp only [k17_0, k17_1, k17_4, k17_5, k17_8, k17_11, k17_12, k17_15, k17_16, k17_19, k17_20, k17_21, k17_24, k17_25, k17_26, k17_27, k17_27i, k17_28, k17_31, k17_32, k17_33, k17_36, k17_37, mm_sI, mm_sJ, mm_sR, mm_cI, mm_cJ, mm_I, mm_J, mm_R, mm_K, mm_N, psh_s, psh_n, z_n, z_i, z_r, z_l, Nat.reduceAdd, Nat.reduceLeDiff, false_or, or_false, ne_eq, true_or, or_true, not_false_eq_true, Nat.reduceEqDiff, Nat.reduceLT, Nat.reduceLeDiff, Nat.reduceAdd, lk0 HL, hp, X.ln, c1, if_false, X.r6, K37 hS, N37 hS, hb, ix_n (show p < 2 ^ 31 by omega), X.t c, c2]
  · have c1 : (nI n ≤ nI p) = True := by rw [nLe (by omega) (by omega)]; exact eq_true (by omega)
    rw [if_neg (fun hh => c hh.1)]
    simp only [k17_0, k17_1, k17_4, k17_5, k17_8, k17_11, k17_12, k17_15, k17_16, k17_19, k17_20, k17_21, k17_24, k17_25, k17_26, k17_27, k17_27i, k17_28, k17_31, k17_32, k17_33, k17_36, k17_37, mm_sI, mm_sJ, mm_sR, mm_cI, mm_cJ, mm_I, mm_J, mm_R, mm_K, mm_N, psh_s, psh_n, z_n, z_i, z_r, z_l, Nat.reduceAdd, Nat.reduceLeDiff, false_or, or_false, ne_eq, true_or, or_true, not_false_eq_true, Nat.reduceEqDiff, Nat.reduceLT, Nat.reduceLeDiff, Nat.reduceAdd, lk0 HL, hp, X.ln, c1, if_true]
theorem s_add (X : XC l n T h r E) (hk : h l 4 = nI k) (hk1 : k ≤ 120) : WP d 18 0 [some (vr l), some (vi a), some (vi b)] [] (mm h j r E) Q = Q (some (vi 1)) (mm (adH l k a b h) j r E) := by
  have hS := X.S
  have HL := X.HL
  have c1 : (nI k < 121) = True := by rw [show (121 : Int32) = nI 121 from rfl, nLt (by omega) (by omega)]; exact eq_true (by omega)
  have hb : inb (nI k) 121 = True := eq_true (by rw [inb_n (by omega)]; omega)
  unfold adH
  simp only [k18_0, k18_1, k18_4, k18_6, k18_9, k18_10, k18_11, k18_12, k18_15, k18_16, k18_19, k18_20, k18_21, k18_22, k18_25, k18_26, k18_29, k18_30, k18_31, k18_32, k18_32i, k18_33, k18_36, k18_37, k18_38, k18_41, k18_42, mm_sI, mm_sJ, mm_sR, mm_cI, mm_cJ, mm_I, mm_J, mm_R, mm_K, mm_N, psh_s, psh_n, z_n, z_i, z_r, z_l, Nat.reduceAdd, Nat.reduceLeDiff, false_or, or_false, ne_eq, true_or, or_true, not_false_eq_true, Nat.reduceEqDiff, Nat.reduceLT, Nat.reduceLeDiff, Nat.reduceAdd, lk0 HL, lr0 HL, lr1 HL, lr2 HL, lr3 HL, lk1 HL, lk2 HL, lk3 HL, lk4 HL, ln1 HL, ln2 HL, ln3 HL, ln4 HL, lne HL, lne0 HL, hk, c1, if_true, hb, ix_n (show k < 2 ^ 31 by omega), nS1, up2_s, up2_ai, up2_i, mz1, my1, mz2, my2, mz3, my3, mz4, my4, mz5, my5, mz6, my6, mz7, my7, mz8, my8, mz9, my9, mz10, my10, mz11, my11, Nat.add_left_cancel_iff]
theorem s_numL (hk1 : k ≤ 120) : ∀ {m i p : Nat} {v : Int32} {h : Hp}, i + m = 4 → XC l n T h r E → h l 8 = nI p → h l 4 = nI k → p ≤ n →
    WP (d + 2) 14 4 [some (vr l), some (vi v), some (vi (nI i))] [] (mm h j r E) Q = Q (some (vi 1)) (mm (adH l k 35 (numF T n m v p).1 (up2 h l 8 (nI (numF T n m v p).2))) j r E) := by
  intro m
  induction m with
  | zero =>
    intro i p v h hi X hp hk hpn
    have HL := X.HL
    have : i = 4 := by omega
    subst this
    rw [k14_4]
    have X1 : XC l n T (up2 h l 8 (nI p)) r E := X.fr (k := 0) PF.pl
    have e : up2 h l 8 (nI p) = h := by rw [← hp]; exact up2_id
    simp only [k14_0, k14_1, k14_2, k14_3, k14_5, k14_6, k14_9, k14_10, k14_13, k14_16, k14_17, k14_19, k14_20, k14_21, k14_24, k14_25, k14_28, k14_29, k14_30, k14_32, k14_33, k14_34, k14_35, k14_35i, k14_36, k14_39, k14_40, k14_41, k14_44, k14_47, k14_50, k14_51, k14_53, k14_54, k14_57, mm_sI, mm_sJ, mm_sR, mm_cI, mm_cJ, mm_I, mm_J, mm_R, mm_K, mm_N, psh_s, psh_n, z_n, z_i, z_r, z_l, Nat.reduceAdd, Nat.reduceLeDiff, false_or, or_false, ne_eq, true_or, or_true, not_false_eq_true, Nat.reduceEqDiff, Nat.reduceLT, Nat.reduceLeDiff, Nat.reduceAdd, lk0 HL, nn4, Int32.le_refl, if_true, s_add X hk hk1]
    show _ = Q (some (vi 1)) (mm (adH l k 35 v (up2 h l 8 (nI p))) j r E)
    rw [e]
  | succ m ih =>
    intro i p v h hi X hp hk hpn
    have hS := X.S
    have HL := X.HL
    have n1 := X.n1
    have c0 : (4 ≤ nI i) = False := by rw [show (4 : Int32) = nI 4 from rfl, nLe (by omega) (by omega)]; exact eq_false (by omega)
    rw [k14_4, numF]
    by_cases c : p < n ∧ (48 ≤ T p ∧ T p ≤ 57)
    · rw [if_pos c]
      have hb : inb (nI p) 120 = True := eq_true (by rw [inb_n (by omega)]; omega)
      simp only [k14_0, k14_1, k14_2, k14_3, k14_5, k14_6, k14_9, k14_10, k14_13, k14_16, k14_17, k14_19, k14_20, k14_21, k14_24, k14_25, k14_28, k14_29, k14_30, k14_32, k14_33, k14_34, k14_35, k14_35i, k14_36, k14_39, k14_40, k14_41, k14_44, k14_47, k14_50, k14_51, k14_53, k14_54, k14_57, mm_sI, mm_sJ, mm_sR, mm_cI, mm_cJ, mm_I, mm_J, mm_R, mm_K, mm_N, psh_s, psh_n, z_n, z_i, z_r, z_l, Nat.reduceAdd, Nat.reduceLeDiff, false_or, or_false, ne_eq, true_or, or_true, not_false_eq_true, Nat.reduceEqDiff, Nat.reduceLT, Nat.reduceLeDiff, Nat.reduceAdd, lk0 HL, c0, if_false, s_isDigit X hp hpn, b2i_t c, e10, X.r6, K37 hS, N37 hS, hb, ix_n (show p < 2 ^ 31 by omega), X.t c.1, hp, nS1]
      rw [ih (by omega) (X.fr (k := 0) PF.pl) up2_s (by rw [up2_i (by decide)]; exact hk) (by omega), up2_uu]
    · rw [if_neg c]
      have e : up2 h l 8 (nI p) = h := by rw [← hp]; exact up2_id
      simp only [k14_0, k14_1, k14_2, k14_3, k14_5, k14_6, k14_9, k14_10, k14_13, k14_16, k14_17, k14_19, k14_20, k14_21, k14_24, k14_25, k14_28, k14_29, k14_30, k14_32, k14_33, k14_34, k14_35, k14_35i, k14_36, k14_39, k14_40, k14_41, k14_44, k14_47, k14_50, k14_51, k14_53, k14_54, k14_57, mm_sI, mm_sJ, mm_sR, mm_cI, mm_cJ, mm_I, mm_J, mm_R, mm_K, mm_N, psh_s, psh_n, z_n, z_i, z_r, z_l, Nat.reduceAdd, Nat.reduceLeDiff, false_or, or_false, ne_eq, true_or, or_true, not_false_eq_true, Nat.reduceEqDiff, Nat.reduceLT, Nat.reduceLeDiff, Nat.reduceAdd, lk0 HL, c0, if_false, s_isDigit X hp hpn, b2i_f c, if_true, s_add X hk hk1]
      rw [e]
theorem s_number (X : XC l n T h r E) (hp : h l 8 = nI p) (hk : h l 4 = nI k) (hpn : p ≤ n) (hk1 : k ≤ 120) : WP (d + 2) 14 0 [some (vr l), none, none] [] (mm h j r E) Q = Q (some (vi 1)) (mm (adH l k 35 (numF T n 4 0 p).1 (up2 h l 8 (nI (numF T n 4 0 p).2))) j r E) := by
  simp only [k14_0, k14_1, k14_2, k14_3, k14_5, k14_6, k14_9, k14_10, k14_13, k14_16, k14_17, k14_19, k14_20, k14_21, k14_24, k14_25, k14_28, k14_29, k14_30, k14_32, k14_33, k14_34, k14_35, k14_35i, k14_36, k14_39, k14_40, k14_41, k14_44, k14_47, k14_50, k14_51, k14_53, k14_54, k14_57, mm_sI, mm_sJ, mm_sR, mm_cI, mm_cJ, mm_I, mm_J, mm_R, mm_K, mm_N, psh_s, psh_n, z_n, z_i, z_r, z_l, Nat.reduceAdd, Nat.reduceLeDiff, false_or, or_false, ne_eq, true_or, or_true, not_false_eq_true, Nat.reduceEqDiff, Nat.reduceLT, Nat.reduceLeDiff, Nat.reduceAdd]
  exact s_numL (i := 0) hk1 rfl X hp hk hpn
end RC
