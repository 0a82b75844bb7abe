/-! ===== the class works the law ===== -/
noncomputable def valF (c : List Tk) : (Nat → Int32) → Int32 := Classical.epsilon (fun v => Gd c v)
noncomputable def lnW : List LN → (Nat → Int32) → Int32
  | [], _ => 0
  | y :: ys, nm => if y.1.length ≠ 0 ∧ valF y.1 nm = 0 then lnW ys nm else valF y.2 nm
def LnG (ys : List LN) : Prop := ∀ y, y ∈ ys → (y.1.length ≠ 0 → ∃ v, Gd y.1 v) ∧ ∃ v, Gd y.2 v
def nm6 (b k d h g f : Int32) : Nat → Int32 := fun i => if i = 0 then b else if i = 1 then k else if i = 2 then d else if i = 3 then h else if i = 4 then g else f
noncomputable def lwF (ys : List LN) : LW := fun b k d h g f => lnW ys (nm6 b k d h g f)
/-- only the stack from tp on, and its top, has changed -/
def SF (l tp : Nat) (h h1 : Hp) : Prop := (∀ a, a ≠ l → a ≠ l + 3 → h1 a = h a) ∧ (∀ i, i ≠ 5 → h1 l i = h l i) ∧ ∀ i, i < tp → h1 (l + 3) i = h (l + 3) i
def CR (l : Nat) (nm : Nat → Int32) (c : List Tk) (v : (Nat → Int32) → Int32) : Prop := 1 ≤ c.length ∧ ∀ (d pp tp x S : Nat) (h : Hp) (j : Jp) (r : Rp) (E : EE) (Q : Option PV → Mem → Prop) (o1 o2 o3 o4 o5 o6 u9 u10 : Option PV),
  Sh r E → (l = 27 ∨ l = 32) → (∀ i, i < 6 → h (l + 4) i = nm i) → hc h l pp c → h l 4 = nI S → pp + c.length ≤ S → S ≤ 121 → x ≤ pp → h l 5 = nI tp → tp + c.length ≤ 121 →
  (∀ h' u9' u10', SF l tp h h' → h' (l + 3) tp = v nm → h' l 5 = nI (tp + 1) → WP (d + 1) 19 56 [some (vr l), o1, o2, o3, o4, o5, o6, some (vi (nI x)), some (vi (nI (pp + c.length))), u9', u10'] [] (mm h' j r E) Q) →
  WP (d + 1) 19 56 [some (vr l), o1, o2, o3, o4, o5, o6, some (vi (nI x)), some (vi (nI pp)), u9, u10] [] (mm h j r E) Q
section WKC
variable {d D e : Nat} {M : Mem} {h h0 h1 h2 h3 : Hp} {j : Jp} {r : Rp} {E : EE} {l n p k q o lv K m tp S : Nat} {T nm : Nat → Int32} {Q : Option PV → Mem → Prop} {x a b s v z : Int32} {c c2 : List Tk} {ys : List LN}
theorem valF_g (h : ∃ v, Gd c v) : Gd c (valF c) := Classical.epsilon_spec h
theorem SF.rf : SF l tp h h := ⟨fun _ _ _ => rfl, fun _ _ => rfl, fun _ _ => rfl⟩
theorem SF.tr (a : SF l tp h h1) (b : SF l tp h1 h2) : SF l tp h h2 := ⟨fun x p q => (b.1 x p q).trans (a.1 x p q), fun i p => (b.2.1 i p).trans (a.2.1 i p), fun i p => (b.2.2 i p).trans (a.2.2 i p)⟩
theorem SF.lo (a : SF l q h h1) (hq : tp ≤ q) : SF l tp h h1 := ⟨a.1, a.2.1, fun i hi => a.2.2 i (by omega)⟩
theorem SF.pop : SF l tp h (up2 h l 5 z) := ⟨fun x p q => up2_a p, fun i p => up2_i p, fun i _ => by rw [up2_a (by omega)]⟩
theorem SF.push (hq : tp ≤ q) : SF l tp h (up2 (up2 h (l + 3) q v) l 5 z) := ⟨fun x p s => by rw [up2_a p, up2_a s], fun i p => by rw [up2_i p, up2_a (by omega)], fun i hi => by rw [up2_a (by omega), up2_i (by omega)]⟩
theorem SF.hc (a : SF l tp h h1) (hh : hc h l k c) : hc h1 l k c := hc_fr hh (fun i _ _ => by rw [a.1 (l + 1) (by omega) (by omega), a.1 (l + 2) (by omega) (by omega)]; exact ⟨rfl, rfl⟩)
theorem SF.nms (a : SF l tp h h1) (hh : ∀ i, i < 6 → h (l + 4) i = nm i) : ∀ i, i < 6 → h1 (l + 4) i = nm i := fun i hi => by rw [a.1 (l + 4) (by omega) (by omega)]; exact hh i hi
theorem s_push (HL : Lw r E l) (h5 : h l 5 = nI tp) (ht : tp < 121) : WP d 20 0 [some (vr l), some (vi v)] [] (mm h j r E) Q = Q none (mm (up2 (up2 h (l + 3) tp v) l 5 (nI (tp + 1))) j r E) := by
  have c1 : ((121 : Int32) ≤ nI tp) = False := by rw [show (121 : Int32) = nI 121 from rfl, nLe (by omega) (by omega)]; exact eq_false (by omega)
  have hb : inb (nI tp) 121 = True := eq_true (by rw [inb_n (by omega)]; omega)
  simp only [k20_0, k20_1, k20_4, k20_6, k20_9, k20_10, k20_13, k20_14, k20_17, k20_18, k20_19, k20_20, k20_20i, k20_21, k20_24, k20_25, k20_26, k20_29, mm_sI, mm_sJ, mm_sR, mm_cI, mm_cJ, mm_I, mm_J, mm_R, mm_K, mm_N, psh_s, psh_n, z_n, z_i, z_r, z_l, Nat.reduceAdd, Nat.reduceLeDiff, false_or, or_false, ne_eq, true_or, or_true, not_false_eq_true, Nat.reduceEqDiff, Nat.reduceLT, Nat.reduceLeDiff, Nat.reduceAdd, lk0 HL, lr0 HL, lr1 HL, lr2 HL, lr3 HL, lk1 HL, lk2 HL, lk3 HL, lk4 HL, ln1 HL, ln2 HL, ln3 HL, ln4 HL, lne HL, lne0 HL, h5, c1, if_false, hb, ix_n (show tp < 2 ^ 31 by omega), nS1, up2_s, up2_ai, up2_i, mz1, my1, mz2, my2, mz3, my3, mz4, my4, mz5, my5, mz6, my6, mz7, my7, mz8, my8, mz9, my9, mz10, my10, mz11, my11, Nat.add_left_cancel_iff]
theorem s_pop (HL : Lw r E l) (h5 : h l 5 = nI (tp + 1)) (ht : tp < 121) : WP d 21 0 [some (vr l)] [] (mm h j r E) Q = Q (some (vi (h (l + 3) tp))) (mm (up2 h l 5 (nI tp)) j r E) := by
  have c1 : ((0 : Int32) < nI (tp + 1)) = True := by rw [show (0 : Int32) = nI 0 from rfl, nLt (by omega) (by omega)]; exact eq_true (by omega)
  have hb : inb (nI tp) 121 = True := eq_true (by rw [inb_n (by omega)]; omega)
  have es : nI (tp + 1) - 1 = nI tp := by rw [← nS1]; exact Int32.add_sub_cancel _ _
  simp only [k21_0, k21_1, k21_4, k21_7, k21_8, k21_9, k21_10, k21_10i, k21_11, k21_14, k21_15, k21_16, k21_19, k21_20, k21_23, k21_24, k21_27, k21_28, mm_sI, mm_sJ, mm_sR, mm_cI, mm_cJ, mm_I, mm_J, mm_R, mm_K, mm_N, psh_s, psh_n, z_n, z_i, z_r, z_l, Nat.reduceAdd, Nat.reduceLeDiff, false_or, or_false, ne_eq, true_or, or_true, not_false_eq_true, Nat.reduceEqDiff, Nat.reduceLT, Nat.reduceLeDiff, Nat.reduceAdd, lk0 HL, lr0 HL, lr1 HL, lr2 HL, lr3 HL, lk1 HL, lk2 HL, lk3 HL, lk4 HL, ln1 HL, ln2 HL, ln3 HL, ln4 HL, lne HL, lne0 HL, h5, c1, if_true, es, hb, ix_n (show tp < 2 ^ 31 by omega), up2_s, up2_ai, up2_i, mz1, my1, mz2, my2, mz3, my3, mz4, my4, mz5, my5, mz6, my6, mz7, my7, mz8, my8, mz9, my9, mz10, my10, mz11, my11, Nat.add_left_cancel_iff]
theorem levC (h : levF s < 5) : s = 124 ∨ s = 38 ∨ s = 60 ∨ s = 61 ∨ s = 62 ∨ s = 43 ∨ s = 45 ∨ s = 42 ∨ s = 47 ∨ s = 37 := by
  unfold levF at h
  split at h; exact Or.inl ‹_›
  split at h; exact Or.inr (Or.inl ‹_›)
  split at h
  · rename_i hh; rcases hh with h | h | h
    · exact Or.inr (Or.inr (Or.inl h))
    · exact Or.inr (Or.inr (Or.inr (Or.inl h)))
    · exact Or.inr (Or.inr (Or.inr (Or.inr (Or.inl h))))
  split at h
  · rename_i hh; rcases hh with h | h
    · exact Or.inr (Or.inr (Or.inr (Or.inr (Or.inr (Or.inl h)))))
    · exact Or.inr (Or.inr (Or.inr (Or.inr (Or.inr (Or.inr (Or.inl h))))))
  split at h
  · rename_i hh; rcases hh with h | h | h
    · exact Or.inr (Or.inr (Or.inr (Or.inr (Or.inr (Or.inr (Or.inr (Or.inl h)))))))
    · exact Or.inr (Or.inr (Or.inr (Or.inr (Or.inr (Or.inr (Or.inr (Or.inr (Or.inl h))))))))
    · exact Or.inr (Or.inr (Or.inr (Or.inr (Or.inr (Or.inr (Or.inr (Or.inr (Or.inr h))))))))
  omega
theorem op124 : opF 124 a b = if a ≠ 0 ∨ b ≠ 0 then 1 else 0 := rfl
theorem op38 : opF 38 a b = if a ≠ 0 ∧ b ≠ 0 then 1 else 0 := rfl
theorem op60 : opF 60 a b = if a < b then 1 else 0 := rfl
theorem op61 : opF 61 a b = if a = b then 1 else 0 := rfl
theorem op62 : opF 62 a b = if b < a then 1 else 0 := rfl
theorem op43 : opF 43 a b = a + b := rfl
theorem op45 : opF 45 a b = a - b := rfl
theorem op42 : opF 42 a b = a * b := rfl
theorem op47 : opF 47 a b = if b = 0 then 0 else a / b := rfl
theorem op37 : opF 37 a b = if b = 0 then 0 else a % b := rfl
theorem s_joinedBy (h : levF s < 5) : WP d 22 0 [some (vi s), some (vi a), some (vi b)] [] M Q = Q (some (vi (opF s a b))) M := by
  rcases levC h with rfl | rfl | rfl | rfl | rfl | rfl | rfl | rfl | rfl | rfl
  · rw [op124]; simp only [k22_0, k22_1c38, k22_1c42, k22_1c43, k22_1c45, k22_1c47, k22_1c60, k22_1c61, k22_1c62, k22_1c124, k22_1, k22_84, k22_85, k22_88, k22_89, k22_92, k22_93, k22_96, k22_97, k22_98, k22_99, k22_102, k22_103, k22_106, k22_107, k22_110, k22_111, k22_112, k22_113, k22_114, k22_117, k22_118, k22_121, k22_122, k22_123, k22_124, k22_125, k22_128, k22_129, k22_132, k22_133, k22_134, k22_135, k22_136, k22_139, k22_140, k22_143, k22_144, k22_145, k22_146, k22_147, k22_148, k22_149, k22_150, k22_151, k22_152, k22_153, k22_154, k22_155, k22_156, k22_157, k22_158, k22_161, k22_162, k22_165, k22_166, k22_167, k22_168, k22_169, k22_170, k22_173, k22_174, k22_177, k22_178, k22_179, k22_180, mm_sI, mm_sJ, mm_sR, mm_cI, mm_cJ, mm_I, mm_J, mm_R, mm_K, mm_N, psh_s, psh_n, z_n, z_i, z_r, z_l, Nat.reduceAdd, Nat.reduceLeDiff]
    by_cases c1 : a = 0 <;> by_cases c2 : b = 0 <;> simp only [c1, c2, if_true, if_false, ne_eq, not_true_eq_false, not_false_eq_true, or_true, true_or, or_false, or_self]
  · rw [op38]; simp only [k22_0, k22_1c38, k22_1c42, k22_1c43, k22_1c45, k22_1c47, k22_1c60, k22_1c61, k22_1c62, k22_1c124, k22_1, k22_84, k22_85, k22_88, k22_89, k22_92, k22_93, k22_96, k22_97, k22_98, k22_99, k22_102, k22_103, k22_106, k22_107, k22_110, k22_111, k22_112, k22_113, k22_114, k22_117, k22_118, k22_121, k22_122, k22_123, k22_124, k22_125, k22_128, k22_129, k22_132, k22_133, k22_134, k22_135, k22_136, k22_139, k22_140, k22_143, k22_144, k22_145, k22_146, k22_147, k22_148, k22_149, k22_150, k22_151, k22_152, k22_153, k22_154, k22_155, k22_156, k22_157, k22_158, k22_161, k22_162, k22_165, k22_166, k22_167, k22_168, k22_169, k22_170, k22_173, k22_174, k22_177, k22_178, k22_179, k22_180, mm_sI, mm_sJ, mm_sR, mm_cI, mm_cJ, mm_I, mm_J, mm_R, mm_K, mm_N, psh_s, psh_n, z_n, z_i, z_r, z_l, Nat.reduceAdd, Nat.reduceLeDiff]
    by_cases c1 : a = 0 <;> by_cases c2 : b = 0 <;> simp only [c1, c2, if_true, if_false, ne_eq, not_true_eq_false, not_false_eq_true, and_true, true_and, and_false, false_and, and_self]
  · rw [op60]; simp only [k22_0, k22_1c38, k22_1c42, k22_1c43, k22_1c45, k22_1c47, k22_1c60, k22_1c61, k22_1c62, k22_1c124, k22_1, k22_84, k22_85, k22_88, k22_89, k22_92, k22_93, k22_96, k22_97, k22_98, k22_99, k22_102, k22_103, k22_106, k22_107, k22_110, k22_111, k22_112, k22_113, k22_114, k22_117, k22_118, k22_121, k22_122, k22_123, k22_124, k22_125, k22_128, k22_129, k22_132, k22_133, k22_134, k22_135, k22_136, k22_139, k22_140, k22_143, k22_144, k22_145, k22_146, k22_147, k22_148, k22_149, k22_150, k22_151, k22_152, k22_153, k22_154, k22_155, k22_156, k22_157, k22_158, k22_161, k22_162, k22_165, k22_166, k22_167, k22_168, k22_169, k22_170, k22_173, k22_174, k22_177, k22_178, k22_179, k22_180, mm_sI, mm_sJ, mm_sR, mm_cI, mm_cJ, mm_I, mm_J, mm_R, mm_K, mm_N, psh_s, psh_n, z_n, z_i, z_r, z_l, Nat.reduceAdd, Nat.reduceLeDiff]
    by_cases c1 : a < b
    · simp only [c1, Int32.not_le.2 c1, if_true, if_false]
    · simp only [c1, Int32.not_lt.1 c1, if_true, if_false]
  · rw [op61]; simp only [k22_0, k22_1c38, k22_1c42, k22_1c43, k22_1c45, k22_1c47, k22_1c60, k22_1c61, k22_1c62, k22_1c124, k22_1, k22_84, k22_85, k22_88, k22_89, k22_92, k22_93, k22_96, k22_97, k22_98, k22_99, k22_102, k22_103, k22_106, k22_107, k22_110, k22_111, k22_112, k22_113, k22_114, k22_117, k22_118, k22_121, k22_122, k22_123, k22_124, k22_125, k22_128, k22_129, k22_132, k22_133, k22_134, k22_135, k22_136, k22_139, k22_140, k22_143, k22_144, k22_145, k22_146, k22_147, k22_148, k22_149, k22_150, k22_151, k22_152, k22_153, k22_154, k22_155, k22_156, k22_157, k22_158, k22_161, k22_162, k22_165, k22_166, k22_167, k22_168, k22_169, k22_170, k22_173, k22_174, k22_177, k22_178, k22_179, k22_180, mm_sI, mm_sJ, mm_sR, mm_cI, mm_cJ, mm_I, mm_J, mm_R, mm_K, mm_N, psh_s, psh_n, z_n, z_i, z_r, z_l, Nat.reduceAdd, Nat.reduceLeDiff]
    by_cases c1 : a = b
    · simp only [c1, if_true]
    · simp only [c1, if_false]
  · rw [op62]; simp only [k22_0, k22_1c38, k22_1c42, k22_1c43, k22_1c45, k22_1c47, k22_1c60, k22_1c61, k22_1c62, k22_1c124, k22_1, k22_84, k22_85, k22_88, k22_89, k22_92, k22_93, k22_96, k22_97, k22_98, k22_99, k22_102, k22_103, k22_106, k22_107, k22_110, k22_111, k22_112, k22_113, k22_114, k22_117, k22_118, k22_121, k22_122, k22_123, k22_124, k22_125, k22_128, k22_129, k22_132, k22_133, k22_134, k22_135, k22_136, k22_139, k22_140, k22_143, k22_144, k22_145, k22_146, k22_147, k22_148, k22_149, k22_150, k22_151, k22_152, k22_153, k22_154, k22_155, k22_156, k22_157, k22_158, k22_161, k22_162, k22_165, k22_166, k22_167, k22_168, k22_169, k22_170, k22_173, k22_174, k22_177, k22_178, k22_179, k22_180, mm_sI, mm_sJ, mm_sR, mm_cI, mm_cJ, mm_I, mm_J, mm_R, mm_K, mm_N, psh_s, psh_n, z_n, z_i, z_r, z_l, Nat.reduceAdd, Nat.reduceLeDiff]
    by_cases c1 : b < a
    · simp only [c1, Int32.not_le.2 c1, if_true, if_false]
    · simp only [c1, Int32.not_lt.1 c1, if_true, if_false]
  · rw [op43]; simp only [k22_0, k22_1c38, k22_1c42, k22_1c43, k22_1c45, k22_1c47, k22_1c60, k22_1c61, k22_1c62, k22_1c124, k22_1, k22_84, k22_85, k22_88, k22_89, k22_92, k22_93, k22_96, k22_97, k22_98, k22_99, k22_102, k22_103, k22_106, k22_107, k22_110, k22_111, k22_112, k22_113, k22_114, k22_117, k22_118, k22_121, k22_122, k22_123, k22_124, k22_125, k22_128, k22_129, k22_132, k22_133, k22_134, k22_135, k22_136, k22_139, k22_140, k22_143, k22_144, k22_145, k22_146, k22_147, k22_148, k22_149, k22_150, k22_151, k22_152, k22_153, k22_154, k22_155, k22_156, k22_157, k22_158, k22_161, k22_162, k22_165, k22_166, k22_167, k22_168, k22_169, k22_170, k22_173, k22_174, k22_177, k22_178, k22_179, k22_180, mm_sI, mm_sJ, mm_sR, mm_cI, mm_cJ, mm_I, mm_J, mm_R, mm_K, mm_N, psh_s, psh_n, z_n, z_i, z_r, z_l, Nat.reduceAdd, Nat.reduceLeDiff]
  · rw [op45]; simp only [k22_0, k22_1c38, k22_1c42, k22_1c43, k22_1c45, k22_1c47, k22_1c60, k22_1c61, k22_1c62, k22_1c124, k22_1, k22_84, k22_85, k22_88, k22_89, k22_92, k22_93, k22_96, k22_97, k22_98, k22_99, k22_102, k22_103, k22_106, k22_107, k22_110, k22_111, k22_112, k22_113, k22_114, k22_117, k22_118, k22_121, k22_122, k22_123, k22_124, k22_125, k22_128, k22_129, k22_132, k22_133, k22_134, k22_135, k22_136, k22_139, k22_140, k22_143, k22_144, k22_145, k22_146, k22_147, k22_148, k22_149, k22_150, k22_151, k22_152, k22_153, k22_154, k22_155, k22_156, k22_157, k22_158, k22_161, k22_162, k22_165, k22_166, k22_167, k22_168, k22_169, k22_170, k22_173, k22_174, k22_177, k22_178, k22_179, k22_180, mm_sI, mm_sJ, mm_sR, mm_cI, mm_cJ, mm_I, mm_J, mm_R, mm_K, mm_N, psh_s, psh_n, z_n, z_i, z_r, z_l, Nat.reduceAdd, Nat.reduceLeDiff]
  · rw [op42]; simp only [k22_0, k22_1c38, k22_1c42, k22_1c43, k22_1c45, k22_1c47, k22_1c60, k22_1c61, k22_1c62, k22_1c124, k22_1, k22_84, k22_85, k22_88, k22_89, k22_92, k22_93, k22_96, k22_97, k22_98, k22_99, k22_102, k22_103, k22_106, k22_107, k22_110, k22_111, k22_112, k22_113, k22_114, k22_117, k22_118, k22_121, k22_122, k22_123, k22_124, k22_125, k22_128, k22_129, k22_132, k22_133, k22_134, k22_135, k22_136, k22_139, k22_140, k22_143, k22_144, k22_145, k22_146, k22_147, k22_148, k22_149, k22_150, k22_151, k22_152, k22_153, k22_154, k22_155, k22_156, k22_157, k22_158, k22_161, k22_162, k22_165, k22_166, k22_167, k22_168, k22_169, k22_170, k22_173, k22_174, k22_177, k22_178, k22_179, k22_180, mm_sI, mm_sJ, mm_sR, mm_cI, mm_cJ, mm_I, mm_J, mm_R, mm_K, mm_N, psh_s, psh_n, z_n, z_i, z_r, z_l, Nat.reduceAdd, Nat.reduceLeDiff]
  · rw [op47]; simp only [k22_0, k22_1c38, k22_1c42, k22_1c43, k22_1c45, k22_1c47, k22_1c60, k22_1c61, k22_1c62, k22_1c124, k22_1, k22_84, k22_85, k22_88, k22_89, k22_92, k22_93, k22_96, k22_97, k22_98, k22_99, k22_102, k22_103, k22_106, k22_107, k22_110, k22_111, k22_112, k22_113, k22_114, k22_117, k22_118, k22_121, k22_122, k22_123, k22_124, k22_125, k22_128, k22_129, k22_132, k22_133, k22_134, k22_135, k22_136, k22_139, k22_140, k22_143, k22_144, k22_145, k22_146, k22_147, k22_148, k22_149, k22_150, k22_151, k22_152, k22_153, k22_154, k22_155, k22_156, k22_157, k22_158, k22_161, k22_162, k22_165, k22_166, k22_168, k22_169, k22_170, k22_173, k22_174, k22_177, k22_178, k22_179, k22_180, mm_sI, mm_sJ, mm_sR, mm_cI, mm_cJ, mm_I, mm_J, mm_R, mm_K, mm_N, psh_s, psh_n, z_n, z_i, z_r, z_l, Nat.reduceAdd, Nat.reduceLeDiff]
    by_cases c1 : b = 0
    · simp only [c1, if_true]
    · simp only [c1, if_false, k22_167 c1, k22_0, k22_1c38, k22_1c42, k22_1c43, k22_1c45, k22_1c47, k22_1c60, k22_1c61, k22_1c62, k22_1c124, k22_1, k22_84, k22_85, k22_88, k22_89, k22_92, k22_93, k22_96, k22_97, k22_98, k22_99, k22_102, k22_103, k22_106, k22_107, k22_110, k22_111, k22_112, k22_113, k22_114, k22_117, k22_118, k22_121, k22_122, k22_123, k22_124, k22_125, k22_128, k22_129, k22_132, k22_133, k22_134, k22_135, k22_136, k22_139, k22_140, k22_143, k22_144, k22_145, k22_146, k22_147, k22_148, k22_149, k22_150, k22_151, k22_152, k22_153, k22_154, k22_155, k22_156, k22_157, k22_158, k22_161, k22_162, k22_165, k22_166, k22_168, k22_169, k22_170, k22_173, k22_174, k22_177, k22_178, k22_179, k22_180]
  · rw [op37]; simp only [k22_0, k22_84, k22_85, k22_88, k22_89, k22_92, k22_93, k22_96, k22_97, k22_98, k22_99, k22_102, k22_103, k22_106, k22_107, k22_110, k22_111, k22_112, k22_113, k22_114, k22_117, k22_118, k22_121, k22_122, k22_123, k22_124, k22_125, k22_128, k22_129, k22_132, k22_133, k22_134, k22_135, k22_136, k22_139, k22_140, k22_143, k22_144, k22_145, k22_146, k22_147, k22_148, k22_149, k22_150, k22_151, k22_152, k22_153, k22_154, k22_155, k22_156, k22_157, k22_158, k22_161, k22_162, k22_165, k22_166, k22_167, k22_168, k22_169, k22_170, k22_173, k22_174, k22_177, k22_178, k22_180, k22_1 (x := 37) (by decide) (by decide) (by decide) (by decide) (by decide) (by decide) (by decide) (by decide) (by decide), mm_sI, mm_sJ, mm_sR, mm_cI, mm_cJ, mm_I, mm_J, mm_R, mm_K, mm_N, psh_s, psh_n, z_n, z_i, z_r, z_l, Nat.reduceAdd, Nat.reduceLeDiff]
    by_cases c1 : b = 0
    · simp only [c1, if_true]
    · simp only [c1, if_false, k22_179 c1, k22_0, k22_1c38, k22_1c42, k22_1c43, k22_1c45, k22_1c47, k22_1c60, k22_1c61, k22_1c62, k22_1c124, k22_1, k22_84, k22_85, k22_88, k22_89, k22_92, k22_93, k22_96, k22_97, k22_98, k22_99, k22_102, k22_103, k22_106, k22_107, k22_110, k22_111, k22_112, k22_113, k22_114, k22_117, k22_118, k22_121, k22_122, k22_123, k22_124, k22_125, k22_128, k22_129, k22_132, k22_133, k22_134, k22_135, k22_136, k22_139, k22_140, k22_143, k22_144, k22_145, k22_146, k22_147, k22_148, k22_149, k22_150, k22_151, k22_152, k22_153, k22_154, k22_155, k22_156, k22_157, k22_158, k22_161, k22_162, k22_165, k22_166, k22_167, k22_168, k22_169, k22_170, k22_173, k22_174, k22_177, k22_178, k22_180]
theorem levN (h : levF s < 5) : s ≠ 33 ∧ s ≠ 35 ∧ s ≠ 59 ∧ s ≠ 63 ∧ s ≠ 110 ∧ s ≠ 126 := by
  rcases levC h with rfl | rfl | rfl | rfl | rfl | rfl | rfl | rfl | rfl | rfl <;> decide
theorem cr_num (hm : m < 10000) : CR l nm [(35, nI m)] (fun _ => nI m) := by
  refine ⟨Nat.le_refl 1, ?_⟩
  intro d pp tp x S h j r E Q o1 o2 o3 o4 o5 o6 u9 u10 hS hl hn ⟨a1, a2, _⟩ h4 hpS hS1 hx h5 ht hQ
  have HL := lw_of hS hl
  have hps : pp + 1 ≤ S := hpS
  have hts : tp + 1 ≤ 121 := ht
  have a1 : h (l + 1) pp = 35 := a1
  have a2 : h (l + 2) pp = nI m := a2
  have c1 : (nI S ≤ nI pp) = False := by rw [nLe (by omega) (by omega)]; exact eq_false (by omega)
  have c2 : (nI x ≤ nI pp) = True := by rw [nLe (by omega) (by omega)]; exact eq_true hx
  have hb : inb (nI pp) 121 = True := eq_true (by rw [inb_n (by omega)]; omega)
  have hxp : ix (nI pp) = pp := ix_n (by omega)
  rw [k19_56]
  simp only [k19_0, k19_1, k19_4, k19_5, k19_6, k19_7, k19_8, k19_11, k19_12, k19_13, k19_14, k19_15, k19_18, k19_19, k19_20, k19_21, k19_22, k19_25, k19_26, k19_28, k19_29, k19_30, k19_33, k19_34, k19_36, k19_37, k19_38, k19_41, k19_42, k19_44, k19_45, k19_46, k19_47, k19_50, k19_51, k19_53, k19_54, k19_58, k19_59, k19_62, k19_65, k19_67, k19_69, k19_72, k19_75, k19_76, k19_79, k19_81, k19_82, k19_84, k19_86c33, k19_86c35, k19_86c59, k19_86c63, k19_86c110, k19_86c126, k19_86, k19_144, k19_145, k19_146, k19_149, k19_151, k19_152, k19_155, k19_158, k19_159, k19_160, k19_163, k19_165, k19_166, k19_167, k19_168, k19_171, k19_174, k19_175, k19_178, k19_179, k19_182, k19_184, k19_185, k19_186, k19_189, k19_190, k19_193, k19_196, k19_197, k19_200, k19_201, k19_202, k19_205, k19_208, k19_209, k19_212, k19_214, k19_215, k19_218, k19_219, k19_221, k19_224, k19_225, k19_226, k19_229, k19_232, k19_233, k19_236, k19_237, k19_240, k19_243, k19_244, k19_245, k19_248, k19_249, k19_252, k19_255, k19_256, k19_259, k19_261, k19_262, k19_264, k19_265, k19_268, k19_270, k19_273, k19_276, k19_279, k19_282, k19_283, mm_sI, mm_sJ, mm_sR, mm_cI, mm_cJ, mm_I, mm_J, mm_R, mm_K, mm_N, psh_s, psh_n, z_n, z_i, z_r, z_l, Nat.reduceAdd, Nat.reduceLeDiff, false_or, or_false, ne_eq, true_or, or_true, not_false_eq_true, Nat.reduceEqDiff, Nat.reduceLT, Nat.reduceLeDiff, Nat.reduceAdd, lk0 HL, lr0 HL, lr1 HL, lr2 HL, lr3 HL, lk1 HL, lk2 HL, lk3 HL, lk4 HL, ln1 HL, ln2 HL, ln3 HL, ln4 HL, lne HL, lne0 HL, h4, c1, c2, if_false, if_true, hb, hxp, a1, a2, s_push HL h5 (by omega), nS1]
  exact hQ _ _ _ (SF.push (Nat.le_refl _)) (by rw [up2_a (by omega), up2_s]) up2_s
theorem cr_nam (hk : k < 6) : CR l nm [(110, nI k)] (fun nm => nm k) := by
  refine ⟨Nat.le_refl 1, ?_⟩
  intro d pp tp x S h j r E Q o1 o2 o3 o4 o5 o6 u9 u10 hS hl hn ⟨a1, a2, _⟩ h4 hpS hS1 hx h5 ht hQ
  have HL := lw_of hS hl
  have hps : pp + 1 ≤ S := hpS
  have hts : tp + 1 ≤ 121 := ht
  have a1 : h (l + 1) pp = 110 := a1
  have a2 : h (l + 2) pp = nI k := a2
  have c1 : (nI S ≤ nI pp) = False := by rw [nLe (by omega) (by omega)]; exact eq_false (by omega)
  have c2 : (nI x ≤ nI pp) = True := by rw [nLe (by omega) (by omega)]; exact eq_true hx
  have hb : inb (nI pp) 121 = True := eq_true (by rw [inb_n (by omega)]; omega)
  have hxp : ix (nI pp) = pp := ix_n (by omega)
  have hbk : inb (nI k) 6 = True := eq_true (by rw [inb_n (by omega)]; exact hk)
  have hxk : ix (nI k) = k := ix_n (by omega)
  have b5 : b2i (0 ≤ nI k ∧ nI k ≤ 5) = 1 := by rw [b2i_c in_5]; exact b2i_t (by rw [inb_n (by omega)]; exact hk)
  rw [k19_56]
  simp only [k19_0, k19_1, k19_4, k19_5, k19_6, k19_7, k19_8, k19_11, k19_12, k19_13, k19_14, k19_15, k19_18, k19_19, k19_20, k19_21, k19_22, k19_25, k19_26, k19_28, k19_29, k19_30, k19_33, k19_34, k19_36, k19_37, k19_38, k19_41, k19_42, k19_44, k19_45, k19_46, k19_47, k19_50, k19_51, k19_53, k19_54, k19_58, k19_59, k19_62, k19_65, k19_67, k19_69, k19_72, k19_75, k19_76, k19_79, k19_81, k19_82, k19_84, k19_86c33, k19_86c35, k19_86c59, k19_86c63, k19_86c110, k19_86c126, k19_86, k19_144, k19_145, k19_146, k19_149, k19_151, k19_152, k19_155, k19_158, k19_159, k19_160, k19_163, k19_165, k19_166, k19_167, k19_168, k19_171, k19_174, k19_175, k19_178, k19_179, k19_182, k19_184, k19_185, k19_186, k19_189, k19_190, k19_193, k19_196, k19_197, k19_200, k19_201, k19_202, k19_205, k19_208, k19_209, k19_212, k19_214, k19_215, k19_218, k19_219, k19_221, k19_224, k19_225, k19_226, k19_229, k19_232, k19_233, k19_236, k19_237, k19_240, k19_243, k19_244, k19_245, k19_248, k19_249, k19_252, k19_255, k19_256, k19_259, k19_261, k19_262, k19_264, k19_265, k19_268, k19_270, k19_273, k19_276, k19_279, k19_282, k19_283, mm_sI, mm_sJ, mm_sR, mm_cI, mm_cJ, mm_I, mm_J, mm_R, mm_K, mm_N, psh_s, psh_n, z_n, z_i, z_r, z_l, Nat.reduceAdd, Nat.reduceLeDiff, false_or, or_false, ne_eq, true_or, or_true, not_false_eq_true, Nat.reduceEqDiff, Nat.reduceLT, Nat.reduceLeDiff, Nat.reduceAdd, lk0 HL, lr0 HL, lr1 HL, lr2 HL, lr3 HL, lk1 HL, lk2 HL, lk3 HL, lk4 HL, ln1 HL, ln2 HL, ln3 HL, ln4 HL, lne HL, lne0 HL, h4, c1, c2, if_false, if_true, hb, hxp, a1, a2, s_within, b5, e10, hbk, hxk, hn k hk, s_push HL h5 (by omega), nS1]
  exact hQ _ _ _ (SF.push (Nat.le_refl _)) (by rw [up2_a (by omega), up2_s]) up2_s
theorem cr_non {v : (Nat → Int32) → Int32} (g : CR l nm c v) : CR l nm (c ++ [(33, 0)]) (fun nm => if v nm = 0 then 1 else 0) := by
  refine ⟨by rw [List.length_append, List.length_singleton]; omega, ?_⟩
  intro d pp tp x S h j r E Q o1 o2 o3 o4 o5 o6 u9 u10 hS hl hn hcc h4 hpS hS1 hx h5 ht hQ
  have HL := lw_of hS hl
  rw [List.length_append, List.length_singleton] at hpS ht hQ
  obtain ⟨g1, g2, _⟩ := hc_app.1 hcc
  refine g.2 d pp tp x S h j r E Q o1 o2 o3 o4 o5 o6 u9 u10 hS hl hn g1 h4 (by omega) hS1 hx h5 (by omega) ?_
  intro h1 u9 u10 f1 ev h5
  have a1 : h1 (l + 1) (pp + c.length) = 33 := by rw [f1.1 (l + 1) (by omega) (by omega)]; exact g2
  have h4 : h1 l 4 = nI S := by rw [f1.2.1 4 (by decide)]; exact h4
  have c1 : (nI S ≤ nI (pp + c.length)) = False := by rw [nLe (by omega) (by omega)]; exact eq_false (by omega)
  have c2 : (nI x ≤ nI (pp + c.length)) = True := by rw [nLe (by omega) (by omega)]; exact eq_true (by omega)
  have hb : inb (nI (pp + c.length)) 121 = True := eq_true (by rw [inb_n (by omega)]; omega)
  have hxp : ix (nI (pp + c.length)) = pp + c.length := ix_n (by omega)
  rw [k19_56]
  by_cases cz : v nm = 0
  · have := hQ (up2 (up2 (up2 h1 l 5 (nI tp)) (l + 3) tp 1) l 5 (nI (tp + 1))) (some (vi 33)) u10 (f1.tr (SF.pop.tr (SF.push (Nat.le_refl _)))) (by show _ = (if v nm = 0 then (1 : Int32) else 0); rw [if_pos cz, up2_a (by omega), up2_s]) up2_s
    simp only [k19_0, k19_1, k19_4, k19_5, k19_6, k19_7, k19_8, k19_11, k19_12, k19_13, k19_14, k19_15, k19_18, k19_19, k19_20, k19_21, k19_22, k19_25, k19_26, k19_28, k19_29, k19_30, k19_33, k19_34, k19_36, k19_37, k19_38, k19_41, k19_42, k19_44, k19_45, k19_46, k19_47, k19_50, k19_51, k19_53, k19_54, k19_58, k19_59, k19_62, k19_65, k19_67, k19_69, k19_72, k19_75, k19_76, k19_79, k19_81, k19_82, k19_84, k19_86c33, k19_86c35, k19_86c59, k19_86c63, k19_86c110, k19_86c126, k19_86, k19_144, k19_145, k19_146, k19_149, k19_151, k19_152, k19_155, k19_158, k19_159, k19_160, k19_163, k19_165, k19_166, k19_167, k19_168, k19_171, k19_174, k19_175, k19_178, k19_179, k19_182, k19_184, k19_185, k19_186, k19_189, k19_190, k19_193, k19_196, k19_197, k19_200, k19_201, k19_202, k19_205, k19_208, k19_209, k19_212, k19_214, k19_215, k19_218, k19_219, k19_221, k19_224, k19_225, k19_226, k19_229, k19_232, k19_233, k19_236, k19_237, k19_240, k19_243, k19_244, k19_245, k19_248, k19_249, k19_252, k19_255, k19_256, k19_259, k19_261, k19_262, k19_264, k19_265, k19_268, k19_270, k19_273, k19_276, k19_279, k19_282, k19_283, mm_sI, mm_sJ, mm_sR, mm_cI, mm_cJ, mm_I, mm_J, mm_R, mm_K, mm_N, psh_s, psh_n, z_n, z_i, z_r, z_l, Nat.reduceAdd, Nat.reduceLeDiff, false_or, or_false, ne_eq, true_or, or_true, not_false_eq_true, Nat.reduceEqDiff, Nat.reduceLT, Nat.reduceLeDiff, Nat.reduceAdd, lk0 HL, lr0 HL, lr1 HL, lr2 HL, lr3 HL, lk1 HL, lk2 HL, lk3 HL, lk4 HL, ln1 HL, ln2 HL, ln3 HL, ln4 HL, lne HL, lne0 HL, h4, c1, c2, if_false, if_true, hb, hxp, a1, s_pop HL h5 (by omega), ev, cz, s_push HL (show up2 h1 l 5 (nI tp) l 5 = nI tp from up2_s) (by omega), nS1]
    exact this
  · have := hQ (up2 (up2 (up2 h1 l 5 (nI tp)) (l + 3) tp 0) l 5 (nI (tp + 1))) (some (vi 33)) u10 (f1.tr (SF.pop.tr (SF.push (Nat.le_refl _)))) (by show _ = (if v nm = 0 then (1 : Int32) else 0); rw [if_neg cz, up2_a (by omega), up2_s]) up2_s
    simp only [k19_0, k19_1, k19_4, k19_5, k19_6, k19_7, k19_8, k19_11, k19_12, k19_13, k19_14, k19_15, k19_18, k19_19, k19_20, k19_21, k19_22, k19_25, k19_26, k19_28, k19_29, k19_30, k19_33, k19_34, k19_36, k19_37, k19_38, k19_41, k19_42, k19_44, k19_45, k19_46, k19_47, k19_50, k19_51, k19_53, k19_54, k19_58, k19_59, k19_62, k19_65, k19_67, k19_69, k19_72, k19_75, k19_76, k19_79, k19_81, k19_82, k19_84, k19_86c33, k19_86c35, k19_86c59, k19_86c63, k19_86c110, k19_86c126, k19_86, k19_144, k19_145, k19_146, k19_149, k19_151, k19_152, k19_155, k19_158, k19_159, k19_160, k19_163, k19_165, k19_166, k19_167, k19_168, k19_171, k19_174, k19_175, k19_178, k19_179, k19_182, k19_184, k19_185, k19_186, k19_189, k19_190, k19_193, k19_196, k19_197, k19_200, k19_201, k19_202, k19_205, k19_208, k19_209, k19_212, k19_214, k19_215, k19_218, k19_219, k19_221, k19_224, k19_225, k19_226, k19_229, k19_232, k19_233, k19_236, k19_237, k19_240, k19_243, k19_244, k19_245, k19_248, k19_249, k19_252, k19_255, k19_256, k19_259, k19_261, k19_262, k19_264, k19_265, k19_268, k19_270, k19_273, k19_276, k19_279, k19_282, k19_283, mm_sI, mm_sJ, mm_sR, mm_cI, mm_cJ, mm_I, mm_J, mm_R, mm_K, mm_N, psh_s, psh_n, z_n, z_i, z_r, z_l, Nat.reduceAdd, Nat.reduceLeDiff, false_or, or_false, ne_eq, true_or, or_true, not_false_eq_true, Nat.reduceEqDiff, Nat.reduceLT, Nat.reduceLeDiff, Nat.reduceAdd, lk0 HL, lr0 HL, lr1 HL, lr2 HL, lr3 HL, lk1 HL, lk2 HL, lk3 HL, lk4 HL, ln1 HL, ln2 HL, ln3 HL, ln4 HL, lne HL, lne0 HL, h4, c1, c2, if_false, if_true, hb, hxp, a1, s_pop HL h5 (by omega), ev, cz, s_push HL (show up2 h1 l 5 (nI tp) l 5 = nI tp from up2_s) (by omega), nS1]
    exact this
theorem cr_neg {v : (Nat → Int32) → Int32} (g : CR l nm c v) : CR l nm (c ++ [(126, 0)]) (fun nm => -(v nm)) := by
  refine ⟨by rw [List.length_append, List.length_singleton]; omega, ?_⟩
  intro d pp tp x S h j r E Q o1 o2 o3 o4 o5 o6 u9 u10 hS hl hn hcc h4 hpS hS1 hx h5 ht hQ
  have HL := lw_of hS hl
  rw [List.length_append, List.length_singleton] at hpS ht hQ
  obtain ⟨g1, g2, _⟩ := hc_app.1 hcc
  refine g.2 d pp tp x S h j r E Q o1 o2 o3 o4 o5 o6 u9 u10 hS hl hn g1 h4 (by omega) hS1 hx h5 (by omega) ?_
  intro h1 u9 u10 f1 ev h5
  have a1 : h1 (l + 1) (pp + c.length) = 126 := by rw [f1.1 (l + 1) (by omega) (by omega)]; exact g2
  have h4 : h1 l 4 = nI S := by rw [f1.2.1 4 (by decide)]; exact h4
  have c1 : (nI S ≤ nI (pp + c.length)) = False := by rw [nLe (by omega) (by omega)]; exact eq_false (by omega)
  have c2 : (nI x ≤ nI (pp + c.length)) = True := by rw [nLe (by omega) (by omega)]; exact eq_true (by omega)
  have hb : inb (nI (pp + c.length)) 121 = True := eq_true (by rw [inb_n (by omega)]; omega)
  have hxp : ix (nI (pp + c.length)) = pp + c.length := ix_n (by omega)
  rw [k19_56]
  simp only [k19_0, k19_1, k19_4, k19_5, k19_6, k19_7, k19_8, k19_11, k19_12, k19_13, k19_14, k19_15, k19_18, k19_19, k19_20, k19_21, k19_22, k19_25, k19_26, k19_28, k19_29, k19_30, k19_33, k19_34, k19_36, k19_37, k19_38, k19_41, k19_42, k19_44, k19_45, k19_46, k19_47, k19_50, k19_51, k19_53, k19_54, k19_58, k19_59, k19_62, k19_65, k19_67, k19_69, k19_72, k19_75, k19_76, k19_79, k19_81, k19_82, k19_84, k19_86c33, k19_86c35, k19_86c59, k19_86c63, k19_86c110, k19_86c126, k19_86, k19_144, k19_145, k19_146, k19_149, k19_151, k19_152, k19_155, k19_158, k19_159, k19_160, k19_163, k19_165, k19_166, k19_167, k19_168, k19_171, k19_174, k19_175, k19_178, k19_179, k19_182, k19_184, k19_185, k19_186, k19_189, k19_190, k19_193, k19_196, k19_197, k19_200, k19_201, k19_202, k19_205, k19_208, k19_209, k19_212, k19_214, k19_215, k19_218, k19_219, k19_221, k19_224, k19_225, k19_226, k19_229, k19_232, k19_233, k19_236, k19_237, k19_240, k19_243, k19_244, k19_245, k19_248, k19_249, k19_252, k19_255, k19_256, k19_259, k19_261, k19_262, k19_264, k19_265, k19_268, k19_270, k19_273, k19_276, k19_279, k19_282, k19_283, mm_sI, mm_sJ, mm_sR, mm_cI, mm_cJ, mm_I, mm_J, mm_R, mm_K, mm_N, psh_s, psh_n, z_n, z_i, z_r, z_l, Nat.reduceAdd, Nat.reduceLeDiff, false_or, or_false, ne_eq, true_or, or_true, not_false_eq_true, Nat.reduceEqDiff, Nat.reduceLT, Nat.reduceLeDiff, Nat.reduceAdd, lk0 HL, lr0 HL, lr1 HL, lr2 HL, lr3 HL, lk1 HL, lk2 HL, lk3 HL, lk4 HL, ln1 HL, ln2 HL, ln3 HL, ln4 HL, lne HL, lne0 HL, h4, c1, c2, if_false, if_true, hb, hxp, a1, s_pop HL h5 (by omega), ev, s_push HL (show up2 h1 l 5 (nI tp) l 5 = nI tp from up2_s) (by omega), nS1]
  exact hQ _ _ _ (f1.tr (SF.pop.tr (SF.push (Nat.le_refl _)))) (by rw [up2_a (by omega), up2_s]) up2_s
theorem cr_bin {v v2 : (Nat → Int32) → Int32} (g : CR l nm c v) (g' : CR l nm c2 v2) (hs : levF s < 5) : CR l nm (c ++ c2 ++ [(s, 0)]) (fun nm => opF s (v nm) (v2 nm)) := by
  refine ⟨by rw [List.length_append, List.length_singleton]; omega, ?_⟩
  have ng := g.1
  have ng' := g'.1
  intro d pp tp x S h j r E Q o1 o2 o3 o4 o5 o6 u9 u10 hS hl hn hcc h4 hpS hS1 hx h5 ht hQ
  have HL := lw_of hS hl
  rw [List.length_append, List.length_append, List.length_singleton] at hpS ht hQ
  rw [List.append_assoc] at hcc
  obtain ⟨g1, g2⟩ := hc_app.1 hcc
  obtain ⟨g2, g3, _⟩ := hc_app.1 g2
  refine g.2 d pp tp x S h j r E Q o1 o2 o3 o4 o5 o6 u9 u10 hS hl hn g1 h4 (by omega) hS1 hx h5 (by omega) ?_
  intro h1 u9 u10 f1 ev h5
  have h4 : h1 l 4 = nI S := by rw [f1.2.1 4 (by decide)]; exact h4
  have hn := f1.nms hn
  have g2 := f1.hc g2
  have g3 : h1 (l + 1) (pp + c.length + c2.length) = s := by rw [f1.1 (l + 1) (by omega) (by omega)]; exact g3
  refine g'.2 d (pp + c.length) (tp + 1) x S h1 j r E Q o1 o2 o3 o4 o5 o6 u9 u10 hS hl hn g2 h4 (by omega) hS1 (by omega) h5 (by omega) ?_
  intro h2 u9 u10 f2 ev2 h5
  have h4 : h2 l 4 = nI S := by rw [f2.2.1 4 (by decide)]; exact h4
  have a1 : h2 (l + 1) (pp + c.length + c2.length) = s := by rw [f2.1 (l + 1) (by omega) (by omega)]; exact g3
  have ev : up2 h2 l 5 (nI (tp + 1)) (l + 3) tp = v nm := by rw [up2_a (by omega), f2.2.2 tp (by omega)]; exact ev
  have c1 : (nI S ≤ nI (pp + c.length + c2.length)) = False := by rw [nLe (by omega) (by omega)]; exact eq_false (by omega)
  have cx : (nI x ≤ nI (pp + c.length + c2.length)) = True := by rw [nLe (by omega) (by omega)]; exact eq_true (by omega)
  have hb : inb (nI (pp + c.length + c2.length)) 121 = True := eq_true (by rw [inb_n (by omega)]; omega)
  have hxp : ix (nI (pp + c.length + c2.length)) = pp + c.length + c2.length := ix_n (by omega)
  obtain ⟨s1, s2, s3, s4, s5, s6⟩ := levN hs
  rw [k19_56]
  have fin := hQ (up2 (up2 (up2 (up2 h2 l 5 (nI (tp + 1))) l 5 (nI tp)) (l + 3) tp (opF s (v nm) (v2 nm))) l 5 (nI (tp + 1))) (some (vi s)) (some (vi (v2 nm))) (f1.tr ((f2.lo (by omega)).tr (SF.pop.tr (SF.pop.tr (SF.push (Nat.le_refl _)))))) (by rw [up2_a (by omega), up2_s]) up2_s
  rw [show pp + (c.length + c2.length + 1) = pp + c.length + c2.length + 1 by omega] at fin
  simp only [k19_0, k19_1, k19_4, k19_5, k19_6, k19_7, k19_8, k19_11, k19_12, k19_13, k19_14, k19_15, k19_18, k19_19, k19_20, k19_21, k19_22, k19_25, k19_26, k19_28, k19_29, k19_30, k19_33, k19_34, k19_36, k19_37, k19_38, k19_41, k19_42, k19_44, k19_45, k19_46, k19_47, k19_50, k19_51, k19_53, k19_54, k19_58, k19_59, k19_62, k19_65, k19_67, k19_69, k19_72, k19_75, k19_76, k19_79, k19_81, k19_82, k19_84, k19_144, k19_145, k19_146, k19_149, k19_151, k19_152, k19_155, k19_158, k19_159, k19_160, k19_163, k19_165, k19_166, k19_167, k19_168, k19_171, k19_174, k19_175, k19_178, k19_179, k19_182, k19_184, k19_185, k19_186, k19_189, k19_190, k19_193, k19_196, k19_197, k19_200, k19_201, k19_202, k19_205, k19_208, k19_209, k19_212, k19_214, k19_215, k19_218, k19_219, k19_221, k19_224, k19_225, k19_226, k19_229, k19_232, k19_233, k19_236, k19_237, k19_240, k19_243, k19_244, k19_245, k19_248, k19_249, k19_252, k19_255, k19_256, k19_259, k19_261, k19_262, k19_264, k19_265, k19_268, k19_270, k19_273, k19_276, k19_279, k19_282, k19_283, k19_86 s1 s2 s3 s4 s5 s6, mm_sI, mm_sJ, mm_sR, mm_cI, mm_cJ, mm_I, mm_J, mm_R, mm_K, mm_N, psh_s, psh_n, z_n, z_i, z_r, z_l, Nat.reduceAdd, Nat.reduceLeDiff, false_or, or_false, ne_eq, true_or, or_true, not_false_eq_true, Nat.reduceEqDiff, Nat.reduceLT, Nat.reduceLeDiff, Nat.reduceAdd, lk0 HL, lr0 HL, lr1 HL, lr2 HL, lr3 HL, lk1 HL, lk2 HL, lk3 HL, lk4 HL, ln1 HL, ln2 HL, ln3 HL, ln4 HL, lne HL, lne0 HL, h4, c1, cx, if_false, if_true, hb, hxp, a1, s_pop HL h5 (show tp + 1 < 121 by omega), ev2, s_pop HL (show up2 h2 l 5 (nI (tp + 1)) l 5 = nI (tp + 1) from up2_s) (by omega), ev, s_joinedBy hs, s_push HL (show up2 (up2 h2 l 5 (nI (tp + 1))) l 5 (nI tp) l 5 = nI tp from up2_s) (by omega), nS1]
  exact fin
theorem cr_all {v : (Nat → Int32) → Int32} (g : Gd c v) : CR l nm c v := g (CR l nm) (fun _ h => cr_num h) (fun _ h => cr_nam h) (fun _ _ h => cr_non h) (fun _ _ h => cr_neg h) (fun _ _ _ _ _ h h2 hs => cr_bin h h2 hs)
theorem c_sk {X : Nat} {o1 o2 o3 o4 o5 o6 u9 u10 : Option PV} (HL : Lw r E l) (h4 : h l 4 = nI S) (hXS : X ≤ S) (hS1 : S ≤ 121) : ∀ {m pp : Nat}, pp + m = X →
    WP d 19 56 [some (vr l), o1, o2, o3, o4, o5, o6, some (vi (nI X)), some (vi (nI X)), u9, u10] [] (mm h j r E) Q → WP d 19 56 [some (vr l), o1, o2, o3, o4, o5, o6, some (vi (nI X)), some (vi (nI pp)), u9, u10] [] (mm h j r E) Q := by
  intro m
  induction m with
  | zero => intro pp hp hw; have : pp = X := by omega
            subst this; exact hw
  | succ m ih =>
    intro pp hp hw
    have c1 : (nI S ≤ nI pp) = False := by rw [nLe (by omega) (by omega)]; exact eq_false (by omega)
    have c2 : (nI X ≤ nI pp) = False := by rw [nLe (by omega) (by omega)]; exact eq_false (by omega)
    rw [k19_56]
    simp only [k19_0, k19_1, k19_4, k19_5, k19_6, k19_7, k19_8, k19_11, k19_12, k19_13, k19_14, k19_15, k19_18, k19_19, k19_20, k19_21, k19_22, k19_25, k19_26, k19_28, k19_29, k19_30, k19_33, k19_34, k19_36, k19_37, k19_38, k19_41, k19_42, k19_44, k19_45, k19_46, k19_47, k19_50, k19_51, k19_53, k19_54, k19_58, k19_59, k19_62, k19_65, k19_67, k19_69, k19_72, k19_75, k19_76, k19_79, k19_81, k19_82, k19_84, k19_86c33, k19_86c35, k19_86c59, k19_86c63, k19_86c110, k19_86c126, k19_86, k19_144, k19_145, k19_146, k19_149, k19_151, k19_152, k19_155, k19_158, k19_159, k19_160, k19_163, k19_165, k19_166, k19_167, k19_168, k19_171, k19_174, k19_175, k19_178, k19_179, k19_182, k19_184, k19_185, k19_186, k19_189, k19_190, k19_193, k19_196, k19_197, k19_200, k19_201, k19_202, k19_205, k19_208, k19_209, k19_212, k19_214, k19_215, k19_218, k19_219, k19_221, k19_224, k19_225, k19_226, k19_229, k19_232, k19_233, k19_236, k19_237, k19_240, k19_243, k19_244, k19_245, k19_248, k19_249, k19_252, k19_255, k19_256, k19_259, k19_261, k19_262, k19_264, k19_265, k19_268, k19_270, k19_273, k19_276, k19_279, k19_282, k19_283, mm_sI, mm_sJ, mm_sR, mm_cI, mm_cJ, mm_I, mm_J, mm_R, mm_K, mm_N, psh_s, psh_n, z_n, z_i, z_r, z_l, Nat.reduceAdd, Nat.reduceLeDiff, false_or, or_false, ne_eq, true_or, or_true, not_false_eq_true, Nat.reduceEqDiff, Nat.reduceLT, Nat.reduceLeDiff, Nat.reduceAdd, lk0 HL, lr0 HL, lr1 HL, lr2 HL, lr3 HL, lk1 HL, lk2 HL, lk3 HL, lk4 HL, ln1 HL, ln2 HL, ln3 HL, ln4 HL, lne HL, lne0 HL, h4, c1, c2, if_false, nS1]
    exact ih (by omega) hw
theorem c_lnL {o1 o2 o3 o4 o5 o6 : Option PV} (hS : Sh r E) (hl : l = 27 ∨ l = 32) : ∀ {ys : List LN} {pp x S : Nat} {h : Hp} {u9 u10 : Option PV}, LnG ys → hc h l pp (ccF pp ys) → h l 4 = nI S → pp + (ccF pp ys).length = S → S ≤ 121 → x ≤ pp → h l 5 = nI 0 → (∀ i, i < 6 → h (l + 4) i = nm i) →
    (∀ h', SF l 0 h h' → Q (some (vi (lnW ys nm))) (mm h' j r E)) → WP (d + 1) 19 56 [some (vr l), o1, o2, o3, o4, o5, o6, some (vi (nI x)), some (vi (nI pp)), u9, u10] [] (mm h j r E) Q := by
  have HL := lw_of hS hl
  intro ys
  induction ys with
  | nil =>
    intro pp x S h u9 u10 _ _ h4 hpS hS1 hx h5 hn hQ
    have hpS : pp + 0 = S := hpS
    have c1 : (nI S ≤ nI pp) = True := by rw [nLe (by omega) (by omega)]; exact eq_true (by omega)
    rw [k19_56]
    simp only [k19_0, k19_1, k19_4, k19_5, k19_6, k19_7, k19_8, k19_11, k19_12, k19_13, k19_14, k19_15, k19_18, k19_19, k19_20, k19_21, k19_22, k19_25, k19_26, k19_28, k19_29, k19_30, k19_33, k19_34, k19_36, k19_37, k19_38, k19_41, k19_42, k19_44, k19_45, k19_46, k19_47, k19_50, k19_51, k19_53, k19_54, k19_58, k19_59, k19_62, k19_65, k19_67, k19_69, k19_72, k19_75, k19_76, k19_79, k19_81, k19_82, k19_84, k19_86c33, k19_86c35, k19_86c59, k19_86c63, k19_86c110, k19_86c126, k19_86, k19_144, k19_145, k19_146, k19_149, k19_151, k19_152, k19_155, k19_158, k19_159, k19_160, k19_163, k19_165, k19_166, k19_167, k19_168, k19_171, k19_174, k19_175, k19_178, k19_179, k19_182, k19_184, k19_185, k19_186, k19_189, k19_190, k19_193, k19_196, k19_197, k19_200, k19_201, k19_202, k19_205, k19_208, k19_209, k19_212, k19_214, k19_215, k19_218, k19_219, k19_221, k19_224, k19_225, k19_226, k19_229, k19_232, k19_233, k19_236, k19_237, k19_240, k19_243, k19_244, k19_245, k19_248, k19_249, k19_252, k19_255, k19_256, k19_259, k19_261, k19_262, k19_264, k19_265, k19_268, k19_270, k19_273, k19_276, k19_279, k19_282, k19_283, mm_sI, mm_sJ, mm_sR, mm_cI, mm_cJ, mm_I, mm_J, mm_R, mm_K, mm_N, psh_s, psh_n, z_n, z_i, z_r, z_l, Nat.reduceAdd, Nat.reduceLeDiff, false_or, or_false, ne_eq, true_or, or_true, not_false_eq_true, Nat.reduceEqDiff, Nat.reduceLT, Nat.reduceLeDiff, Nat.reduceAdd, lk0 HL, lr0 HL, lr1 HL, lr2 HL, lr3 HL, lk1 HL, lk2 HL, lk3 HL, lk4 HL, ln1 HL, ln2 HL, ln3 HL, ln4 HL, lne HL, lne0 HL, h4, c1, if_true]
    exact hQ h SF.rf
  | cons y ys ih =>
    intro pp x S h u9 u10 hg hcc h4 hpS hS1 hx h5 hn hQ
    obtain ⟨⟨ga, gs⟩, hg2⟩ : ((y.1.length ≠ 0 → ∃ v, Gd y.1 v) ∧ ∃ v, Gd y.2 v) ∧ LnG ys := ⟨hg y (List.mem_cons_self ..), fun z hz => hg z (List.mem_cons_of_mem _ hz)⟩
    have hcc : hc h l pp (lnC pp y ++ ccF (pp + (lnC pp y).length) ys) := hcc
    have hpS : pp + (lnC pp y ++ ccF (pp + (lnC pp y).length) ys).length = S := hpS
    rw [List.length_append, lnC_n] at hpS
    obtain ⟨q1, q2⟩ := hc_app.1 hcc
    -- the end of a line
    have fin : ∀ {x pp2 : Nat} {h2 : Hp} {u9 u10 : Option PV}, h2 (l + 1) pp2 = 59 → h2 l 4 = nI S → pp2 < S → x ≤ pp2 → h2 l 5 = nI 1 → h2 (l + 3) 0 = valF y.2 nm → SF l 0 h h2 → (y.1.length ≠ 0 ∧ valF y.1 nm = 0) = False →
        WP (d + 1) 19 56 [some (vr l), o1, o2, o3, o4, o5, o6, some (vi (nI x)), some (vi (nI pp2)), u9, u10] [] (mm h2 j r E) Q := by
      intro x pp2 h2 u9 u10 a1 h4 hpp hxp h5 ev f2 hc1
      have c1 : (nI S ≤ nI pp2) = False := by rw [nLe (by omega) (by omega)]; exact eq_false (by omega)
      have c2 : (nI x ≤ nI pp2) = True := by rw [nLe (by omega) (by omega)]; exact eq_true (by omega)
      have hb : inb (nI pp2) 121 = True := eq_true (by rw [inb_n (by omega)]; omega)
      have := hQ (up2 h2 l 5 (nI 0)) (f2.tr SF.pop)
      rw [lnW, if_neg (fun hh => by rw [hc1] at hh; exact hh)] at this
      rw [k19_56]
      simp only [k19_0, k19_1, k19_4, k19_5, k19_6, k19_7, k19_8, k19_11, k19_12, k19_13, k19_14, k19_15, k19_18, k19_19, k19_20, k19_21, k19_22, k19_25, k19_26, k19_28, k19_29, k19_30, k19_33, k19_34, k19_36, k19_37, k19_38, k19_41, k19_42, k19_44, k19_45, k19_46, k19_47, k19_50, k19_51, k19_53, k19_54, k19_58, k19_59, k19_62, k19_65, k19_67, k19_69, k19_72, k19_75, k19_76, k19_79, k19_81, k19_82, k19_84, k19_86c33, k19_86c35, k19_86c59, k19_86c63, k19_86c110, k19_86c126, k19_86, k19_144, k19_145, k19_146, k19_149, k19_151, k19_152, k19_155, k19_158, k19_159, k19_160, k19_163, k19_165, k19_166, k19_167, k19_168, k19_171, k19_174, k19_175, k19_178, k19_179, k19_182, k19_184, k19_185, k19_186, k19_189, k19_190, k19_193, k19_196, k19_197, k19_200, k19_201, k19_202, k19_205, k19_208, k19_209, k19_212, k19_214, k19_215, k19_218, k19_219, k19_221, k19_224, k19_225, k19_226, k19_229, k19_232, k19_233, k19_236, k19_237, k19_240, k19_243, k19_244, k19_245, k19_248, k19_249, k19_252, k19_255, k19_256, k19_259, k19_261, k19_262, k19_264, k19_265, k19_268, k19_270, k19_273, k19_276, k19_279, k19_282, k19_283, mm_sI, mm_sJ, mm_sR, mm_cI, mm_cJ, mm_I, mm_J, mm_R, mm_K, mm_N, psh_s, psh_n, z_n, z_i, z_r, z_l, Nat.reduceAdd, Nat.reduceLeDiff, false_or, or_false, ne_eq, true_or, or_true, not_false_eq_true, Nat.reduceEqDiff, Nat.reduceLT, Nat.reduceLeDiff, Nat.reduceAdd, lk0 HL, lr0 HL, lr1 HL, lr2 HL, lr3 HL, lk1 HL, lk2 HL, lk3 HL, lk4 HL, ln1 HL, ln2 HL, ln3 HL, ln4 HL, lne HL, lne0 HL, h4, c1, c2, if_false, if_true, hb, ix_n (show pp2 < 2 ^ 31 by omega), a1, s_pop HL (tp := 0) h5 (by omega), ev]
      exact this
    by_cases cy : y.1.length = 0
    · have el : lnC pp y = y.2 ++ [(59, 0)] := by unfold lnC; rw [if_pos cy]
      rw [el] at q1
      rw [if_pos cy] at hpS
      obtain ⟨e1, e2, _⟩ := hc_app.1 q1
      refine (cr_all (valF_g gs)).2 d pp 0 x S h j r E Q o1 o2 o3 o4 o5 o6 u9 u10 hS hl hn e1 h4 (by omega) hS1 hx h5 (by omega) ?_
      intro h2 u9 u10 f2 ev h5
      refine fin ?_ ?_ (by omega) (by omega) h5 ev f2 (eq_false (fun hh => hh.1 cy))
      · rw [f2.1 (l + 1) (by omega) (by omega)]; exact e2
      · rw [f2.2.1 4 (by decide)]; exact h4
    · have el : lnC pp y = y.1 ++ [(63, nI (pp + y.1.length + y.2.length + 2))] ++ y.2 ++ [(59, 0)] := by unfold lnC; rw [if_neg cy]
      rw [el, List.append_assoc, List.append_assoc] at q1
      rw [if_neg cy] at hpS
      obtain ⟨e1, e2, e3, e4⟩ := hc_app.1 q1
      have e4 : hc h l (pp + y.1.length + 1) (y.2 ++ [(59, 0)]) := e4
      obtain ⟨e4, e5, _⟩ := hc_app.1 e4
      refine (cr_all (valF_g (ga cy))).2 d pp 0 x S h j r E Q o1 o2 o3 o4 o5 o6 u9 u10 hS hl hn e1 h4 (by omega) hS1 hx h5 (by omega) ?_
      intro h2 u9 u10 f2 ev h5
      have h4 : h2 l 4 = nI S := by rw [f2.2.1 4 (by decide)]; exact h4
      have a1 : h2 (l + 1) (pp + y.1.length) = 63 := by rw [f2.1 (l + 1) (by omega) (by omega)]; exact e2
      have a2 : up2 h2 l 5 (nI 0) (l + 2) (pp + y.1.length) = nI (pp + y.1.length + y.2.length + 2) := by rw [up2_a (by omega), f2.1 (l + 2) (by omega) (by omega)]; exact e3
      have c1 : (nI S ≤ nI (pp + y.1.length)) = False := by rw [nLe (by omega) (by omega)]; exact eq_false (by omega)
      have c2 : (nI x ≤ nI (pp + y.1.length)) = True := by rw [nLe (by omega) (by omega)]; exact eq_true (by omega)
      have hb : inb (nI (pp + y.1.length)) 121 = True := eq_true (by rw [inb_n (by omega)]; omega)
      have f3 : SF l 0 h (up2 h2 l 5 (nI 0)) := f2.tr SF.pop
      have h43 : up2 h2 l 5 (nI 0) l 4 = nI S := by rw [up2_i (by decide)]; exact h4
      rw [k19_56]
      by_cases cz : valF y.1 nm = 0
      · simp only [k19_0, k19_1, k19_4, k19_5, k19_6, k19_7, k19_8, k19_11, k19_12, k19_13, k19_14, k19_15, k19_18, k19_19, k19_20, k19_21, k19_22, k19_25, k19_26, k19_28, k19_29, k19_30, k19_33, k19_34, k19_36, k19_37, k19_38, k19_41, k19_42, k19_44, k19_45, k19_46, k19_47, k19_50, k19_51, k19_53, k19_54, k19_58, k19_59, k19_62, k19_65, k19_67, k19_69, k19_72, k19_75, k19_76, k19_79, k19_81, k19_82, k19_84, k19_86c33, k19_86c35, k19_86c59, k19_86c63, k19_86c110, k19_86c126, k19_86, k19_144, k19_145, k19_146, k19_149, k19_151, k19_152, k19_155, k19_158, k19_159, k19_160, k19_163, k19_165, k19_166, k19_167, k19_168, k19_171, k19_174, k19_175, k19_178, k19_179, k19_182, k19_184, k19_185, k19_186, k19_189, k19_190, k19_193, k19_196, k19_197, k19_200, k19_201, k19_202, k19_205, k19_208, k19_209, k19_212, k19_214, k19_215, k19_218, k19_219, k19_221, k19_224, k19_225, k19_226, k19_229, k19_232, k19_233, k19_236, k19_237, k19_240, k19_243, k19_244, k19_245, k19_248, k19_249, k19_252, k19_255, k19_256, k19_259, k19_261, k19_262, k19_264, k19_265, k19_268, k19_270, k19_273, k19_276, k19_279, k19_282, k19_283, mm_sI, mm_sJ, mm_sR, mm_cI, mm_cJ, mm_I, mm_J, mm_R, mm_K, mm_N, psh_s, psh_n, z_n, z_i, z_r, z_l, Nat.reduceAdd, Nat.reduceLeDiff, false_or, or_false, ne_eq, true_or, or_true, not_false_eq_true, Nat.reduceEqDiff, Nat.reduceLT, Nat.reduceLeDiff, Nat.reduceAdd, lk0 HL, lr0 HL, lr1 HL, lr2 HL, lr3 HL, lk1 HL, lk2 HL, lk3 HL, lk4 HL, ln1 HL, ln2 HL, ln3 HL, ln4 HL, lne HL, lne0 HL, h4, c1, c2, if_false, if_true, hb, ix_n (show pp + y.1.length < 2 ^ 31 by omega), a1, s_pop HL (tp := 0) h5 (by omega), ev, cz, a2, nS1]
        refine c_sk HL h43 (X := pp + y.1.length + y.2.length + 2) (by omega) hS1 (m := y.2.length + 1) (by omega) ?_
        have lc : pp + (lnC pp y).length = pp + y.1.length + y.2.length + 2 := by rw [lnC_n, if_neg cy]; omega
        rw [lc] at q2
        have hpS : pp + y.1.length + y.2.length + 2 + (ccF (pp + y.1.length + y.2.length + 2) ys).length = S := by rw [show pp + (y.1.length + y.2.length + 2) = pp + y.1.length + y.2.length + 2 by omega] at hpS; omega
        refine ih hg2 (f3.hc q2) h43 (by omega) hS1 (Nat.le_refl _) up2_s (f3.nms hn) ?_
        intro h4 f4
        have := hQ h4 (f3.tr f4)
        rw [lnW, if_pos ⟨cy, cz⟩] at this; exact this
      · simp only [k19_0, k19_1, k19_4, k19_5, k19_6, k19_7, k19_8, k19_11, k19_12, k19_13, k19_14, k19_15, k19_18, k19_19, k19_20, k19_21, k19_22, k19_25, k19_26, k19_28, k19_29, k19_30, k19_33, k19_34, k19_36, k19_37, k19_38, k19_41, k19_42, k19_44, k19_45, k19_46, k19_47, k19_50, k19_51, k19_53, k19_54, k19_58, k19_59, k19_62, k19_65, k19_67, k19_69, k19_72, k19_75, k19_76, k19_79, k19_81, k19_82, k19_84, k19_86c33, k19_86c35, k19_86c59, k19_86c63, k19_86c110, k19_86c126, k19_86, k19_144, k19_145, k19_146, k19_149, k19_151, k19_152, k19_155, k19_158, k19_159, k19_160, k19_163, k19_165, k19_166, k19_167, k19_168, k19_171, k19_174, k19_175, k19_178, k19_179, k19_182, k19_184, k19_185, k19_186, k19_189, k19_190, k19_193, k19_196, k19_197, k19_200, k19_201, k19_202, k19_205, k19_208, k19_209, k19_212, k19_214, k19_215, k19_218, k19_219, k19_221, k19_224, k19_225, k19_226, k19_229, k19_232, k19_233, k19_236, k19_237, k19_240, k19_243, k19_244, k19_245, k19_248, k19_249, k19_252, k19_255, k19_256, k19_259, k19_261, k19_262, k19_264, k19_265, k19_268, k19_270, k19_273, k19_276, k19_279, k19_282, k19_283, mm_sI, mm_sJ, mm_sR, mm_cI, mm_cJ, mm_I, mm_J, mm_R, mm_K, mm_N, psh_s, psh_n, z_n, z_i, z_r, z_l, Nat.reduceAdd, Nat.reduceLeDiff, false_or, or_false, ne_eq, true_or, or_true, not_false_eq_true, Nat.reduceEqDiff, Nat.reduceLT, Nat.reduceLeDiff, Nat.reduceAdd, lk0 HL, lr0 HL, lr1 HL, lr2 HL, lr3 HL, lk1 HL, lk2 HL, lk3 HL, lk4 HL, ln1 HL, ln2 HL, ln3 HL, ln4 HL, lne HL, lne0 HL, h4, c1, c2, if_false, if_true, hb, ix_n (show pp + y.1.length < 2 ^ 31 by omega), a1, s_pop HL (tp := 0) h5 (by omega), ev, cz, nS1]
        refine (cr_all (valF_g gs)).2 d (pp + y.1.length + 1) 0 0 S (up2 h2 l 5 (nI 0)) j r E Q o1 o2 o3 o4 o5 o6 _ _ hS hl (f3.nms hn) (f3.hc e4) h43 (by omega) hS1 (by omega) up2_s (by omega) ?_
        intro h4 u9 u10 f4 ev4 h5
        have f5 := f3.tr f4
        refine fin ?_ ?_ (by omega) (by omega) h5 ev4 f5 (eq_false (fun hh => cz hh.2))
        · rw [f5.1 (l + 1) (by omega) (by omega)]; exact e5
        · rw [f4.2.1 4 (by decide)]; exact h43
theorem c_lawC (hl : l = 27 ∨ l = 32) (hg : LnG ys) (hcc : hc h l 0 (ccF 0 ys)) (h4 : h l 4 = nI (ccF 0 ys).length) (hS1 : (ccF 0 ys).length ≤ 121) : LawC l h (lwF ys) := by
  intro d j r E Q h1 b k dd hr g f hS lf hQ
  have HL := lw_of hS hl
  have h41 : h1 l 4 = nI (ccF 0 ys).length := by rw [lf.2.2]; exact h4
  have hc1 : hc h1 l 0 (ccF 0 ys) := hc_fr hcc (fun i _ _ => by rw [lf.1, lf.2.1]; exact ⟨rfl, rfl⟩)
  simp only [k19_0, k19_1, k19_4, k19_5, k19_6, k19_7, k19_8, k19_11, k19_12, k19_13, k19_14, k19_15, k19_18, k19_19, k19_20, k19_21, k19_22, k19_25, k19_26, k19_28, k19_29, k19_30, k19_33, k19_34, k19_36, k19_37, k19_38, k19_41, k19_42, k19_44, k19_45, k19_46, k19_47, k19_50, k19_51, k19_53, k19_54, k19_58, k19_59, k19_62, k19_65, k19_67, k19_69, k19_72, k19_75, k19_76, k19_79, k19_81, k19_82, k19_84, k19_86c33, k19_86c35, k19_86c59, k19_86c63, k19_86c110, k19_86c126, k19_86, k19_144, k19_145, k19_146, k19_149, k19_151, k19_152, k19_155, k19_158, k19_159, k19_160, k19_163, k19_165, k19_166, k19_167, k19_168, k19_171, k19_174, k19_175, k19_178, k19_179, k19_182, k19_184, k19_185, k19_186, k19_189, k19_190, k19_193, k19_196, k19_197, k19_200, k19_201, k19_202, k19_205, k19_208, k19_209, k19_212, k19_214, k19_215, k19_218, k19_219, k19_221, k19_224, k19_225, k19_226, k19_229, k19_232, k19_233, k19_236, k19_237, k19_240, k19_243, k19_244, k19_245, k19_248, k19_249, k19_252, k19_255, k19_256, k19_259, k19_261, k19_262, k19_264, k19_265, k19_268, k19_270, k19_273, k19_276, k19_279, k19_282, k19_283, mm_sI, mm_sJ, mm_sR, mm_cI, mm_cJ, mm_I, mm_J, mm_R, mm_K, mm_N, psh_s, psh_n, z_n, z_i, z_r, z_l, Nat.reduceAdd, Nat.reduceLeDiff, false_or, or_false, ne_eq, true_or, or_true, not_false_eq_true, Nat.reduceEqDiff, Nat.reduceLT, Nat.reduceLeDiff, Nat.reduceAdd, lk0 HL, lr0 HL, lr1 HL, lr2 HL, lr3 HL, lk1 HL, lk2 HL, lk3 HL, lk4 HL, ln1 HL, ln2 HL, ln3 HL, ln4 HL, lne HL, lne0 HL, inb_c0, ix_c0, inb_c1, ix_c1, inb_c2, ix_c2, inb_c3, ix_c3, inb_c4, ix_c4, inb_c5, ix_c5, inb_c6, ix_c6, inb_c7, ix_c7, inb_c8, ix_c8, inb_c32, ix_c32]
  refine c_lnL (d := d + 1) (nm := nm6 b k dd hr g f) hS hl (ys := ys) (pp := 0) (x := 0) (S := (ccF 0 ys).length) hg ?_ ?_ (by omega) hS1 (Nat.le_refl _) up2_s ?_ ?_
  · refine hc_fr hc1 (fun i _ _ => ⟨?_, ?_⟩)
    · rw [up2_a (by omega), up2_a (by omega), up2_a (by omega), up2_a (by omega), up2_a (by omega), up2_a (by omega), up2_a (by omega)]
    · rw [up2_a (by omega), up2_a (by omega), up2_a (by omega), up2_a (by omega), up2_a (by omega), up2_a (by omega), up2_a (by omega)]
  · rw [up2_i (by decide), up2_a (by omega), up2_a (by omega), up2_a (by omega), up2_a (by omega), up2_a (by omega), up2_a (by omega)]; exact h41
  · intro i hi
    rw [up2_a (by omega)]
    unfold nm6
    match i, hi with
    | 0, _ => simp only [up2_s, up2_ai, up2_i, false_or, or_false, ne_eq, true_or, or_true, not_false_eq_true, Nat.reduceEqDiff, Nat.reduceLT, Nat.reduceLeDiff, Nat.reduceAdd, up2, Nat.reduceEqDiff, if_true, if_false]
    | 1, _ => simp only [up2_s, up2_ai, up2_i, false_or, or_false, ne_eq, true_or, or_true, not_false_eq_true, Nat.reduceEqDiff, Nat.reduceLT, Nat.reduceLeDiff, Nat.reduceAdd, up2, Nat.reduceEqDiff, if_true, if_false]
    | 2, _ => simp only [up2_s, up2_ai, up2_i, false_or, or_false, ne_eq, true_or, or_true, not_false_eq_true, Nat.reduceEqDiff, Nat.reduceLT, Nat.reduceLeDiff, Nat.reduceAdd, up2, Nat.reduceEqDiff, if_true, if_false]
    | 3, _ => simp only [up2_s, up2_ai, up2_i, false_or, or_false, ne_eq, true_or, or_true, not_false_eq_true, Nat.reduceEqDiff, Nat.reduceLT, Nat.reduceLeDiff, Nat.reduceAdd, up2, Nat.reduceEqDiff, if_true, if_false]
    | 4, _ => simp only [up2_s, up2_ai, up2_i, false_or, or_false, ne_eq, true_or, or_true, not_false_eq_true, Nat.reduceEqDiff, Nat.reduceLT, Nat.reduceLeDiff, Nat.reduceAdd, up2, Nat.reduceEqDiff, if_true, if_false]
    | 5, _ => simp only [up2_s, up2_ai, up2_i, false_or, or_false, ne_eq, true_or, or_true, not_false_eq_true, Nat.reduceEqDiff, Nat.reduceLT, Nat.reduceLeDiff, Nat.reduceAdd, up2, Nat.reduceEqDiff, if_true, if_false]
    | i + 6, hi => omega
  · intro h2 f2
    refine hQ h2 ⟨fun a p q s => ?_, fun i hi => ?_⟩
    · rw [f2.1 a p q, up2_a p, up2_a s, up2_a s, up2_a s, up2_a s, up2_a s, up2_a s]
    · rw [f2.2.1 i hi, up2_i hi, up2_a (by omega), up2_a (by omega), up2_a (by omega), up2_a (by omega), up2_a (by omega), up2_a (by omega)]
/-- what was read can be worked -/
theorem lnR_g (h : (lnR T n p).1 = true) : ((lnR T n p).2.2.1.length ≠ 0 → ∃ v, Gd (lnR T n p).2.2.1 v) ∧ ∃ v, Gd (lnR T n p).2.2.2 v := by
  unfold lnR lnQ at h ⊢
  have g := @prs_g T n 42 0 0 p
  generalize prs T n 42 0 0 p = s at *
  by_cases h1 : s.1 = true
  · rw [if_pos h1] at h ⊢
    by_cases h2 : s.2.1 < n ∧ T s.2.1 = 63
    · rw [if_pos h2] at h ⊢
      have g2 := @prs_g T n 42 0 0 (s.2.1 + 1)
      generalize prs T n 42 0 0 (s.2.1 + 1) = s2 at *
      by_cases h3 : s2.1 = true
      · rw [if_pos h3]; exact ⟨fun _ => g h1, g2 h3⟩
      · rw [if_neg h3] at h; exact absurd h Bool.false_ne_true
    · rw [if_neg h2]; exact ⟨fun hh => absurd rfl hh, g h1⟩
  · rw [if_neg h1] at h; exact absurd h Bool.false_ne_true
theorem nxR_g {s : TR} (hs : LnG s.2.2) : LnG (nxR s (lnR T n p)).2.2 := by
  unfold nxR
  show LnG (if (lnR T n p).1 = true then s.2.2 ++ [(lnR T n p).2.2] else s.2.2)
  by_cases h : (lnR T n p).1 = true
  · rw [if_pos h]
    intro y hy
    rcases List.mem_append.1 hy with hy | hy
    · exact hs y hy
    · rw [List.mem_singleton.1 hy]; exact lnR_g h
  · rw [if_neg h]; exact hs
theorem lsR_g : ∀ {m : Nat} {s : TR}, LnG s.2.2 → LnG (lsR T n m s).2.2 := by
  intro m
  induction m with
  | zero => intro s hs; exact hs
  | succ m ih =>
    intro s hs
    rw [lsR]; split
    · exact ih (nxR_g hs)
    · exact hs
theorem txR_g : LnG (txR T n).2.2 := lsR_g (nxR_g (fun y hy => absurd hy (List.not_mem_nil)))
end WKC
