/-! ===== the fewest stops ===== -/
def hr1 (b : BB) (x : Int32) (s : Int32) (f : Nat) : Nat → Nat → Bool
  | _, 0 => false
  | e, k + 1 => (bit s e && decide (farB (b 2 e) (b 2 f) ≤ x)) || hr1 b x s f (e + 1) k
def hrA (b : BB) (x : Int32) (s : Int32) (F : Nat) : Nat → Nat → Bool
  | _, 0 => true
  | f, k + 1 => hr1 b x s f 0 F && hrA b x s F (f + 1) k
def stC (P : Nat → Bool) : Nat → Nat → Nat → Nat
  | _, 0, c => c
  | s, k + 1, c => stC P (s + 1) k (if pcI (nI s) < pcI (nI c) ∧ P s = true then s else c)
def stM (P : Nat → Bool) : Nat → Nat → Nat
  | 0, c => c
  | s + 1, c => stM P s (if pcI (nI s) ≤ pcI (nI c) ∧ P s = true then s else c)
def bestS (P : Nat → Bool) (N c : Nat) : Prop := P c = true ∧ c < N ∧ ∀ t, t < N → P t = true → (pcI (nI c)).toInt ≤ (pcI (nI t)).toInt ∧ (t < c → (pcI (nI c)).toInt < (pcI (nI t)).toInt)
theorem bestS_u {P : Nat → Bool} {N a c : Nat} (h1 : bestS P N a) (h2 : bestS P N c) : a = c := by
  obtain ⟨p1, l1, q1⟩ := h1
  obtain ⟨p2, l2, q2⟩ := h2
  have u := q1 c l2 p2
  have v := q2 a l1 p1
  rcases Nat.lt_trichotomy a c with h | h | h
  · have := v.2 h; omega
  · exact h
  · have := u.2 h; omega
theorem pc_full_all : ∀ F : Fin 9, ∀ t : Fin 256, t.1 < 2 ^ F.1 - 1 → (pcI (nI t.1)).toInt < (pcI (nI (2 ^ F.1 - 1))).toInt := by decide +kernel
theorem stC_b {P : Nat → Bool} {N full : Nat} (hf : full < N) (hN : N = full + 1) (hq : ∀ t, t < full → (pcI (nI t)).toInt < (pcI (nI full)).toInt) : ∀ {k s c : Nat}, s + k = N → P c = true → c < N → (c < s ∨ c = full) →
    (∀ t, t < s → P t = true → (pcI (nI c)).toInt ≤ (pcI (nI t)).toInt ∧ (t < c → (pcI (nI c)).toInt < (pcI (nI t)).toInt)) → bestS P N (stC P s k c) := by
  intro k
  induction k with
  | zero => intro s c hk p l _ h; exact ⟨p, l, fun t ht => h t (by omega)⟩
  | succ k ih =>
    intro s c hk p l hc h
    rw [stC]
    by_cases q : pcI (nI s) < pcI (nI c) ∧ P s = true
    · rw [if_pos q]
      have q1 := (iLt _ _).1 q.1
      refine ih (by omega) q.2 (by omega) (Or.inl (by omega)) ?_
      intro t ht pt
      by_cases e : t = s
      · subst e; exact ⟨Int.le_refl _, fun hh => by omega⟩
      · have := (h t (by omega) pt).1
        exact ⟨by omega, fun _ => by omega⟩
    · rw [if_neg q]
      refine ih (by omega) p l (by omega) ?_
      intro t ht pt
      by_cases e : t = s
      · subst e
        have q2 : ¬ (pcI (nI t)).toInt < (pcI (nI c)).toInt := fun hh => q ⟨(iLt _ _).2 hh, pt⟩
        refine ⟨by omega, fun hh => ?_⟩
        have : c = full := by omega
        subst this
        have := hq t hh
        omega
      · exact h t (by omega) pt
theorem stM_b {P : Nat → Bool} {N : Nat} : ∀ {s c : Nat}, P c = true → c < N → (∀ t, s ≤ t → t < N → P t = true → (pcI (nI c)).toInt ≤ (pcI (nI t)).toInt ∧ (t < c → (pcI (nI c)).toInt < (pcI (nI t)).toInt)) → s ≤ N → bestS P N (stM P s c) := by
  intro s
  induction s with
  | zero => intro c p l h _; exact ⟨p, l, fun t ht => h t (by omega) ht⟩
  | succ s ih =>
    intro c p l h hs
    rw [stM]
    by_cases q : pcI (nI s) ≤ pcI (nI c) ∧ P s = true
    · rw [if_pos q]
      have q1 := (iLe _ _).1 q.1
      refine ih q.2 (by omega) ?_ (by omega)
      intro t ht tN pt
      by_cases e : t = s
      · subst e; exact ⟨Int.le_refl _, fun hh => by omega⟩
      · have := (h t (by omega) tN pt).1
        exact ⟨by omega, fun hh => by omega⟩
    · rw [if_neg q]
      refine ih p l ?_ (by omega)
      intro t ht tN pt
      by_cases e : t = s
      · subst e
        have q2 : ¬ (pcI (nI t)).toInt ≤ (pcI (nI c)).toInt := fun hh => q ⟨(iLe _ _).2 hh, pt⟩
        exact ⟨by omega, fun _ => by omega⟩
      · exact h t (by omega) tN pt
def stopsA (F : Nat) (b : BB) (x what : Int32) : Int32 :=
  if inb x 11 ∧ inb what 2 then (if what = 0 then pcI (nI (stC (fun s => hrA b x (nI s) F 0 F) 0 (2 ^ F) (2 ^ F - 1))) else nI (stC (fun s => hrA b x (nI s) F 0 F) 0 (2 ^ F) (2 ^ F - 1))) else -1
theorem sh_all : ∀ F : Fin 9, (1 : Int32) <<< (nI F.1 &&& 31) = nI (2 ^ F.1) := by decide +kernel
theorem sh_n {F : Nat} (h : F ≤ 8) : (1 : Int32) <<< (nI F &&& 31) = nI (2 ^ F) := sh_all ⟨F, by omega⟩
theorem two_le {F : Nat} (h : F ≤ 8) : 1 ≤ 2 ^ F ∧ 2 ^ F ≤ 256 := ⟨Nat.one_le_two_pow, Nat.pow_le_pow_right (n := 2) (by decide) h⟩
theorem bit_fullall : ∀ F : Fin 9, ∀ e : Fin 8, e.1 < F.1 → bit (nI (2 ^ F.1 - 1)) e.1 = true := by decide +kernel
theorem bit_shall : ∀ s : Fin 256, ∀ e : Fin 8, ((nI s.1 >>> (nI e.1 &&& 31)) &&& 1 = 1) = (bit (nI s.1) e.1 = true) := by
  have h : ∀ s : Fin 256, ∀ e : Fin 8, decide ((nI s.1 >>> (nI e.1 &&& 31)) &&& 1 = 1) = bit (nI s.1) e.1 := by decide +kernel
  intro s e
  have := h s e
  rw [← this]; simp
theorem bit_sh {s e : Nat} (hs : s < 256) (he : e < 8) : ((nI s >>> (nI e &&& 31)) &&& 1 = 1) = (bit (nI s) e = true) := bit_shall ⟨s, hs⟩ ⟨e, he⟩
theorem bit_sh0all : ∀ s : Fin 256, ∀ e : Fin 8, ((nI s.1 >>> (nI e.1 &&& 31)) &&& 1 = 0) = (bit (nI s.1) e.1 = false) := by
  have h : ∀ s : Fin 256, ∀ e : Fin 8, decide ((nI s.1 >>> (nI e.1 &&& 31)) &&& 1 = 0) = !bit (nI s.1) e.1 := by decide +kernel
  intro s e
  have := h s e
  rw [← Bool.not_eq_true', ← this]; simp
theorem bit_sh0 {s e : Nat} (hs : s < 256) (he : e < 8) : ((nI s >>> (nI e &&& 31)) &&& 1 = 0) = (bit (nI s) e = false) := bit_sh0all ⟨s, hs⟩ ⟨e, he⟩
theorem hr1_full {b : BB} {x : Int32} {F f : Nat} (hx : inb x 11) (hF : F ≤ 8) (w : inb (b 2 f) 36) (hf : f < F) : ∀ {k e : Nat}, e ≤ f → f < e + k → e + k ≤ F → hr1 b x (nI (2 ^ F - 1)) f e k = true := by
  intro k
  induction k with
  | zero => intro e h1 h2 _; omega
  | succ k ih =>
    intro e h1 h2 h3
    rw [hr1]
    by_cases c : e = f
    · subst c
      have h0 : farB (b 2 e) (b 2 e) = 0 := by
        have : ∀ a : Fin 36, farB (nI a.1) (nI a.1) = 0 := by decide +kernel
        obtain ⟨a, ha, ea, _⟩ := inb_of w
        rw [ea]; exact this ⟨a, ha⟩
      rw [bit_fullall ⟨F, by omega⟩ ⟨e, by omega⟩ hf, h0, decide_eq_true (show (0 : Int32) ≤ x by rw [iLe, i0]; exact (inb_i hx).1)]; rfl
    · rw [ih (by omega) (by omega) (by omega), Bool.or_true]
theorem hrA_full {b : BB} {x : Int32} {F G : Nat} (hx : inb x 11) (hF : F ≤ 8) (w : WF G F b) : ∀ {k f : Nat}, f + k = F → hrA b x (nI (2 ^ F - 1)) F f k = true := by
  intro k
  induction k with
  | zero => intro f _; rfl
  | succ k ih => intro f hk; rw [hrA, hr1_full hx hF (w.a2 (show f < F by omega)) (by omega) (by omega) (by omega) (by omega), ih (by omega)]; rfl
theorem st_eq {b : BB} {x : Int32} {F G : Nat} (hx : inb x 11) (hF : F ≤ 8) (w : WF G F b) : stC (fun s => hrA b x (nI s) F 0 F) 0 (2 ^ F) (2 ^ F - 1) = stM (fun s => hrA b x (nI s) F 0 F) (2 ^ F) (2 ^ F - 1) := by
  have t := two_le hF
  have pf : (fun s => hrA b x (nI s) F 0 F) (2 ^ F - 1) = true := hrA_full hx hF w (by omega)
  refine bestS_u (N := 2 ^ F) (stC_b (full := 2 ^ F - 1) (by omega) (by omega) ?_ (by omega) pf (by omega) (Or.inr rfl) (fun t ht => by omega)) (stM_b pf (by omega) (fun t ht hn => by omega) (by omega))
  intro t ht
  exact pc_full_all ⟨F, by omega⟩ ⟨t, by omega⟩ ht
section ST
variable {d : Nat} {M : Mem} {h h0 h1 h2 : Hp} {j : Jp} {r : Rp} {E : EE} {l G F A n : Nat} {W : LW} {b bt bm : BB} {Q : Option PV → Mem → Prop}
theorem c_hr1 {s x : Int32} {f : Nat} (C : CC G F l W b h r E) (hf : f < F) : ∀ {k e : Nat}, e + k = F → WP (d + 1) 103 3 [some (vr 2), some (vi s), some (vi (nI f)), some (vi x), some (vi (nI e))] [] (mm h j r E) Q = Q (some (vi (if hr1 b x s f e k then 1 else 0))) (mm h j r E) := by
  have hS := C.S
  have hF8 := C.F8
  have hb : ∀ n, n < F → inb (nI n) 8 = True := fun n hn => eq_true (by rw [inb_n (by omega)]; omega)
  have hx : ∀ n, n < F → ix (nI n) = n := fun n hn => ix_n (by omega)
  intro k
  induction k with
  | zero =>
    intro e hk
    have : e = F := by omega
    subst this
    rw [k103_3]
    simp only [k103_0, k103_1, k103_5, k103_6, k103_9, k103_12, k103_15, k103_16, k103_17, k103_19, k103_20, k103_21, k103_24, k103_25, k103_28, k103_31, k103_33, k103_34, k103_35, k103_38, k103_41, k103_42, k103_43, k103_46, k103_47, k103_50, k103_51, k103_52, k103_55, k103_58, k103_59, mm_sI, mm_sJ, mm_sR, mm_cI, mm_cJ, mm_I, mm_J, mm_R, mm_K, mm_N, psh_s, psh_n, z_n, z_i, z_r, z_l, Nat.reduceAdd, Nat.reduceLeDiff, K2 hS, R2_0 hS, R2_1 hS, R2_2 hS, R2_6 hS, R2_8 hS, R2_11 hS, R2_12 hS, R2_13 hS, R2_15 hS, R2_16 hS, K3 hS, K11 hS, K19 hS, K27 hS, K32 hS, K37 hS, K98 hS, K99 hS, K100 hS, N37 hS, N98 hS, N99 hS, N100 hS, false_or, or_false, ne_eq, true_or, or_true, not_false_eq_true, Nat.reduceEqDiff, Nat.reduceLT, Nat.reduceLeDiff, Nat.reduceAdd, C.eF, Int32.le_refl, if_true, hr1, Bool.false_eq_true, if_false]
  | succ k ih =>
    intro e hk
    have heF : e < F := by omega
    rw [k103_3, hr1]
    simp only [k103_0, k103_1, k103_5, k103_6, k103_9, k103_12, k103_15, k103_16, k103_17, k103_19, k103_20, k103_21, k103_24, k103_25, k103_28, k103_31, k103_33, k103_34, k103_35, k103_38, k103_41, k103_42, k103_43, k103_46, k103_47, k103_50, k103_51, k103_52, k103_55, k103_58, k103_59, mm_sI, mm_sJ, mm_sR, mm_cI, mm_cJ, mm_I, mm_J, mm_R, mm_K, mm_N, psh_s, psh_n, z_n, z_i, z_r, z_l, Nat.reduceAdd, Nat.reduceLeDiff, K2 hS, R2_0 hS, R2_1 hS, R2_2 hS, R2_6 hS, R2_8 hS, R2_11 hS, R2_12 hS, R2_13 hS, R2_15 hS, R2_16 hS, K3 hS, K11 hS, K19 hS, K27 hS, K32 hS, K37 hS, K98 hS, K99 hS, K100 hS, N37 hS, N98 hS, N99 hS, N100 hS, R3_0 hS, R3_1 hS, R3_2 hS, R3_3 hS, R3_4 hS, R3_5 hS, R3_6 hS, K4 hS, K5 hS, K6 hS, K7 hS, K8 hS, K9 hS, K10 hS, N4 hS, N5 hS, N6 hS, N7 hS, N8 hS, N9 hS, N10 hS, false_or, or_false, ne_eq, true_or, or_true, not_false_eq_true, Nat.reduceEqDiff, Nat.reduceLT, Nat.reduceLeDiff, Nat.reduceAdd, C.eF, nLe (show F < 2 ^ 31 by omega) (show e < 2 ^ 31 by omega), show ¬ F ≤ e by omega, if_false, bit_n0 (show e < 32 by omega), hb e heF, hb f hf, hx e heF, hx f hf, c_v2 C heF, c_v2 C hf, s_far, nS1]
    cases c1 : bit s e with
    | false => simp only [if_true, Bool.false_and, Bool.false_or]; exact ih (by omega)
    | true =>
      by_cases c2 : farB (b 2 e) (b 2 f) ≤ x
      · simp only [c2, Int32.not_lt.2 c2, if_false, decide_true, Bool.and_self, Bool.true_or, if_true, Bool.true_eq_false]
      · simp only [c2, Int32.not_le.1 c2, if_true, if_false, decide_false, Bool.and_false, Bool.false_or, Bool.true_eq_false]; exact ih (by omega)
theorem c_hrA {s x : Int32} (C : CC G F l W b h r E) : ∀ {k f : Nat}, f + k = F → WP (d + 2) 102 2 [some (vr 2), some (vi s), some (vi x), some (vi (nI f))] [] (mm h j r E) Q = Q (some (vi (if hrA b x s F f k then 1 else 0))) (mm h j r E) := by
  have hS := C.S
  have hF8 := C.F8
  intro k
  induction k with
  | zero =>
    intro f hk
    have : f = F := by omega
    subst this
    rw [k102_2]
    simp only [k102_0, k102_1, k102_3, k102_4, k102_7, k102_10, k102_13, k102_14, k102_15, k102_16, k102_17, k102_20, k102_23, k102_24, k102_25, k102_28, k102_31, k102_32, mm_sI, mm_sJ, mm_sR, mm_cI, mm_cJ, mm_I, mm_J, mm_R, mm_K, mm_N, psh_s, psh_n, z_n, z_i, z_r, z_l, Nat.reduceAdd, Nat.reduceLeDiff, K2 hS, R2_0 hS, R2_1 hS, R2_2 hS, R2_6 hS, R2_8 hS, R2_11 hS, R2_12 hS, R2_13 hS, R2_15 hS, R2_16 hS, K3 hS, K11 hS, K19 hS, K27 hS, K32 hS, K37 hS, K98 hS, K99 hS, K100 hS, N37 hS, N98 hS, N99 hS, N100 hS, false_or, or_false, ne_eq, true_or, or_true, not_false_eq_true, Nat.reduceEqDiff, Nat.reduceLT, Nat.reduceLeDiff, Nat.reduceAdd, C.eF, Int32.le_refl, if_true, hrA]
  | succ k ih =>
    intro f hk
    rw [k102_2, hrA]
    simp only [k102_0, k102_1, k102_3, k102_4, k102_7, k102_10, k102_13, k102_14, k102_15, k102_16, k102_17, k102_20, k102_23, k102_24, k102_25, k102_28, k102_31, k102_32, k103_0, k103_1, k103_5, k103_6, k103_9, k103_12, k103_15, k103_16, k103_17, k103_19, k103_20, k103_21, k103_24, k103_25, k103_28, k103_31, k103_33, k103_34, k103_35, k103_38, k103_41, k103_42, k103_43, k103_46, k103_47, k103_50, k103_51, k103_52, k103_55, k103_58, k103_59, mm_sI, mm_sJ, mm_sR, mm_cI, mm_cJ, mm_I, mm_J, mm_R, mm_K, mm_N, psh_s, psh_n, z_n, z_i, z_r, z_l, Nat.reduceAdd, Nat.reduceLeDiff, K2 hS, R2_0 hS, R2_1 hS, R2_2 hS, R2_6 hS, R2_8 hS, R2_11 hS, R2_12 hS, R2_13 hS, R2_15 hS, R2_16 hS, K3 hS, K11 hS, K19 hS, K27 hS, K32 hS, K37 hS, K98 hS, K99 hS, K100 hS, N37 hS, N98 hS, N99 hS, N100 hS, false_or, or_false, ne_eq, true_or, or_true, not_false_eq_true, Nat.reduceEqDiff, Nat.reduceLT, Nat.reduceLeDiff, Nat.reduceAdd, C.eF, nLe (show F < 2 ^ 31 by omega) (show f < 2 ^ 31 by omega), show ¬ F ≤ f by omega, if_false, show (0 : Int32) = nI 0 from rfl]
    rw [c_hr1 C (show f < F by omega) (k := F) (e := 0) (by omega)]
    simp only [k102_0, k102_1, k102_3, k102_4, k102_7, k102_10, k102_13, k102_14, k102_15, k102_16, k102_17, k102_20, k102_23, k102_24, k102_25, k102_28, k102_31, k102_32, mm_sI, mm_sJ, mm_sR, mm_cI, mm_cJ, mm_I, mm_J, mm_R, mm_K, mm_N, psh_s, psh_n, z_n, z_i, z_r, z_l, Nat.reduceAdd, Nat.reduceLeDiff, false_or, or_false, ne_eq, true_or, or_true, not_false_eq_true, Nat.reduceEqDiff, Nat.reduceLT, Nat.reduceLeDiff, Nat.reduceAdd]
    cases c1 : hr1 b x s f 0 F with
    | false => simp only [Bool.false_eq_true, if_false, if_true, Bool.false_and, nn0]
    | true => simp only [if_true, e10, if_false, Bool.true_and, nn0, nS1]; exact ih (by omega)
theorem c_heard {s x : Int32} (C : CC G F l W b h r E) : WP (d + 2) 102 0 [some (vr 2), some (vi s), some (vi x), none] [] (mm h j r E) Q = Q (some (vi (if hrA b x s F 0 F then 1 else 0))) (mm h j r E) := by
  simp only [k102_0, k102_1, k102_3, k102_4, k102_7, k102_10, k102_13, k102_14, k102_15, k102_16, k102_17, k102_20, k102_23, k102_24, k102_25, k102_28, k102_31, k102_32, mm_sI, mm_sJ, mm_sR, mm_cI, mm_cJ, mm_I, mm_J, mm_R, mm_K, mm_N, psh_s, psh_n, z_n, z_i, z_r, z_l, Nat.reduceAdd, Nat.reduceLeDiff, false_or, or_false, ne_eq, true_or, or_true, not_false_eq_true, Nat.reduceEqDiff, Nat.reduceLT, Nat.reduceLeDiff, Nat.reduceAdd]
  exact c_hrA C (f := 0) (k := F) (by omega)
theorem c_stL {x : Int32} {what : Option PV} (C : CC G F l W b h r E) : ∀ {k s c : Nat}, s + k = 2 ^ F → (∀ e, WP (d + 3) 101 81 [some (vr 2), some (vi x), what, some (vi (nI (stC (fun s => hrA b x (nI s) F 0 F) s k c))), e] [] (mm h j r E) Q) → WP (d + 3) 101 36 [some (vr 2), some (vi x), what, some (vi (nI c)), some (vi (nI s))] [] (mm h j r E) Q := by
  have hS := C.S
  have hF8 := C.F8
  have t := two_le hF8
  intro k
  induction k with
  | zero =>
    intro s c hk hQ
    rw [k101_36]
    simp only [k101_0, k101_1, k101_2, k101_4, k101_7, k101_10, k101_11, k101_12, k101_13, k101_16, k101_19, k101_20, k101_21, k101_22, k101_23, k101_26, k101_29, k101_30, k101_31, k101_32, k101_33, k101_34, k101_38, k101_39, k101_40, k101_43, k101_46, k101_47, k101_50, k101_52, k101_55, k101_56, k101_59, k101_62, k101_63, k101_65, k101_66, k101_69, k101_72, k101_74, k101_75, k101_78, k101_82, k101_85, k101_86, k101_89, k101_92, k101_93, mm_sI, mm_sJ, mm_sR, mm_cI, mm_cJ, mm_I, mm_J, mm_R, mm_K, mm_N, psh_s, psh_n, z_n, z_i, z_r, z_l, Nat.reduceAdd, Nat.reduceLeDiff, K2 hS, R2_0 hS, R2_1 hS, R2_2 hS, R2_6 hS, R2_8 hS, R2_11 hS, R2_12 hS, R2_13 hS, R2_15 hS, R2_16 hS, K3 hS, K11 hS, K19 hS, K27 hS, K32 hS, K37 hS, K98 hS, K99 hS, K100 hS, N37 hS, N98 hS, N99 hS, N100 hS, false_or, or_false, ne_eq, true_or, or_true, not_false_eq_true, Nat.reduceEqDiff, Nat.reduceLT, Nat.reduceLeDiff, Nat.reduceAdd, C.eF, sh_n hF8, show s = 2 ^ F by omega, Int32.le_refl, if_true]
    have := hQ (some (vi (nI (2 ^ F))))
    exact this
  | succ k ih =>
    intro s c hk hQ
    rw [k101_36]
    simp only [k101_0, k101_1, k101_2, k101_4, k101_7, k101_10, k101_11, k101_12, k101_13, k101_16, k101_19, k101_20, k101_21, k101_22, k101_23, k101_26, k101_29, k101_30, k101_31, k101_32, k101_33, k101_34, k101_38, k101_39, k101_40, k101_43, k101_46, k101_47, k101_50, k101_52, k101_55, k101_56, k101_59, k101_62, k101_63, k101_65, k101_66, k101_69, k101_72, k101_74, k101_75, k101_78, k101_82, k101_85, k101_86, k101_89, k101_92, k101_93, mm_sI, mm_sJ, mm_sR, mm_cI, mm_cJ, mm_I, mm_J, mm_R, mm_K, mm_N, psh_s, psh_n, z_n, z_i, z_r, z_l, Nat.reduceAdd, Nat.reduceLeDiff, K2 hS, R2_0 hS, R2_1 hS, R2_2 hS, R2_6 hS, R2_8 hS, R2_11 hS, R2_12 hS, R2_13 hS, R2_15 hS, R2_16 hS, K3 hS, K11 hS, K19 hS, K27 hS, K32 hS, K37 hS, K98 hS, K99 hS, K100 hS, N37 hS, N98 hS, N99 hS, N100 hS, false_or, or_false, ne_eq, true_or, or_true, not_false_eq_true, Nat.reduceEqDiff, Nat.reduceLT, Nat.reduceLeDiff, Nat.reduceAdd, C.eF, sh_n hF8, nLe (show 2 ^ F < 2 ^ 31 by omega) (show s < 2 ^ 31 by omega), show ¬ 2 ^ F ≤ s by omega, if_false, s_bitCount, c_heard C]
    rw [stC] at hQ
    by_cases q1 : pcI (nI s) < pcI (nI c)
    · rw [if_neg (Int32.not_le.2 q1)]
      cases q2 : hrA b x (nI s) F 0 F with
      | true =>
        rw [if_pos ⟨q1, q2⟩] at hQ
        simp only [if_true, e10, if_false, nS1]
        exact ih (by omega) hQ
      | false =>
        rw [if_neg (fun hh => by rw [q2] at hh; exact absurd hh.2 (by decide))] at hQ
        simp only [Bool.false_eq_true, if_true, if_false, nS1]
        exact ih (by omega) hQ
    · rw [if_pos (Int32.not_lt.1 q1)]
      rw [if_neg (fun hh => q1 hh.1)] at hQ
      simp only [nS1]
      exact ih (by omega) hQ
theorem c_stops {x what : Int32} (C : CC G F l W b h r E) : WP (d + 3) 101 0 [some (vr 2), some (vi x), some (vi what), none, none] [] (mm h j r E) Q = Q (some (vi (stopsA F b x what))) (mm h j r E) := by
  refine WP.fn ?_
  intro Q hQ
  have hS := C.S
  have hF8 := C.F8
  have t := two_le hF8
  have h11 : b2i (0 ≤ x ∧ x ≤ 10) = b2i (inb x 11) := in_lit rfl (by decide)
  have h4 : b2i (0 ≤ what ∧ what ≤ 1) = b2i (inb what 2) := in_lit rfl (by decide)
  unfold stopsA at hQ
  simp only [k101_0, k101_1, k101_2, k101_4, k101_7, k101_10, k101_11, k101_12, k101_13, k101_16, k101_19, k101_20, k101_21, k101_22, k101_23, k101_26, k101_29, k101_30, k101_31, k101_32, k101_33, k101_34, k101_38, k101_39, k101_40, k101_43, k101_46, k101_47, k101_50, k101_52, k101_55, k101_56, k101_59, k101_62, k101_63, k101_65, k101_66, k101_69, k101_72, k101_74, k101_75, k101_78, k101_81, k101_82, k101_85, k101_86, k101_89, k101_92, k101_93, mm_sI, mm_sJ, mm_sR, mm_cI, mm_cJ, mm_I, mm_J, mm_R, mm_K, mm_N, psh_s, psh_n, z_n, z_i, z_r, z_l, Nat.reduceAdd, Nat.reduceLeDiff, K2 hS, R2_0 hS, R2_1 hS, R2_2 hS, R2_6 hS, R2_8 hS, R2_11 hS, R2_12 hS, R2_13 hS, R2_15 hS, R2_16 hS, K3 hS, K11 hS, K19 hS, K27 hS, K32 hS, K37 hS, K98 hS, K99 hS, K100 hS, N37 hS, N98 hS, N99 hS, N100 hS, false_or, or_false, ne_eq, true_or, or_true, not_false_eq_true, Nat.reduceEqDiff, Nat.reduceLT, Nat.reduceLeDiff, Nat.reduceAdd, s_within, h11, h4, b2i_0]
  by_cases c1 : inb x 11
  case neg => simp only [eq_false c1, not_false_eq_true, if_true, false_and, if_false] at hQ ⊢; exact hQ
  by_cases c2 : inb what 2
  case neg => simp only [eq_false c2, not_false_eq_true, if_true, false_and, and_false, if_false, eq_true c1, not_true_eq_false] at hQ ⊢; exact hQ
  simp only [eq_true c1, eq_true c2, and_true, not_true_eq_false, if_false, if_true, C.eF, sh_n hF8] at hQ ⊢
  rw [show nI (2 ^ F) - 1 = nI (2 ^ F - 1) by rw [← nSub (show (2 ^ F - 1) + 1 < 2 ^ 31 by omega), show 2 ^ F - 1 + 1 = 2 ^ F by omega]]
  refine c_stL C (s := 0) (k := 2 ^ F) (by omega) ?_
  intro e
  by_cases c : what = 0
  · simp only [c, if_true] at hQ
    simp only [k101_0, k101_1, k101_2, k101_4, k101_7, k101_10, k101_11, k101_12, k101_13, k101_16, k101_19, k101_20, k101_21, k101_22, k101_23, k101_26, k101_29, k101_30, k101_31, k101_32, k101_33, k101_34, k101_38, k101_39, k101_40, k101_43, k101_46, k101_47, k101_50, k101_52, k101_55, k101_56, k101_59, k101_62, k101_63, k101_65, k101_66, k101_69, k101_72, k101_74, k101_75, k101_78, k101_81, k101_82, k101_85, k101_86, k101_89, k101_92, k101_93, mm_sI, mm_sJ, mm_sR, mm_cI, mm_cJ, mm_I, mm_J, mm_R, mm_K, mm_N, psh_s, psh_n, z_n, z_i, z_r, z_l, Nat.reduceAdd, Nat.reduceLeDiff, false_or, or_false, ne_eq, true_or, or_true, not_false_eq_true, Nat.reduceEqDiff, Nat.reduceLT, Nat.reduceLeDiff, Nat.reduceAdd, c, if_true, s_bitCount]; exact hQ
  · simp only [c, if_false] at hQ
    simp only [k101_0, k101_1, k101_2, k101_4, k101_7, k101_10, k101_11, k101_12, k101_13, k101_16, k101_19, k101_20, k101_21, k101_22, k101_23, k101_26, k101_29, k101_30, k101_31, k101_32, k101_33, k101_34, k101_38, k101_39, k101_40, k101_43, k101_46, k101_47, k101_50, k101_52, k101_55, k101_56, k101_59, k101_62, k101_63, k101_65, k101_66, k101_69, k101_72, k101_74, k101_75, k101_78, k101_81, k101_82, k101_85, k101_86, k101_89, k101_92, k101_93, mm_sI, mm_sJ, mm_sR, mm_cI, mm_cJ, mm_I, mm_J, mm_R, mm_K, mm_N, psh_s, psh_n, z_n, z_i, z_r, z_l, Nat.reduceAdd, Nat.reduceLeDiff, false_or, or_false, ne_eq, true_or, or_true, not_false_eq_true, Nat.reduceEqDiff, Nat.reduceLT, Nat.reduceLeDiff, Nat.reduceAdd, c, if_false]; exact hQ
theorem m_hr1 {s f : Nat} {x : Int32} (D : DD G F W b h r E) (hs : s < 256) (hf : f < F) : ∀ {k e : Nat} {z : Bool}, e + k = F → (∀ z' e', z' = (z || hr1 b x (nI s) f e k) → WP (d + 1) 209 70 [some (vr 113), some (vi (nI s)), some (vi x), some (vi (nI f)), some (vi (if z' then 1 else 0)), e'] [] (mm h j r E) Q) →
    WP (d + 1) 209 16 [some (vr 113), some (vi (nI s)), some (vi x), some (vi (nI f)), some (vi (if z then 1 else 0)), some (vi (nI e))] [] (mm h j r E) Q := by
  have hS := D.S
  have hF8 := D.F8
  have hb : ∀ n, n < F → inb (nI (16 + n)) 48 = True := fun n hn => eq_true (by rw [inb_n (by omega)]; omega)
  have hx : ∀ n, n < F → ix (nI (16 + n)) = 16 + n := fun n hn => ix_n (by omega)
  intro k
  induction k with
  | zero =>
    intro e z hk hQ
    have : e = F := by omega
    subst this
    rw [k209_16]
    simp only [k209_0, k209_1, k209_3, k209_4, k209_7, k209_10, k209_11, k209_13, k209_14, k209_18, k209_19, k209_22, k209_25, k209_26, k209_28, k209_29, k209_30, k209_31, k209_32, k209_35, k209_36, k209_39, k209_41, k209_43, k209_44, k209_45, k209_46, k209_49, k209_51, k209_52, k209_53, k209_54, k209_57, k209_58, k209_61, k209_62, k209_64, k209_67, k209_72, k209_75, k209_76, k209_77, k209_80, k209_83, k209_84, mm_sI, mm_sJ, mm_sR, mm_cI, mm_cJ, mm_I, mm_J, mm_R, mm_K, mm_N, psh_s, psh_n, z_n, z_i, z_r, z_l, Nat.reduceAdd, Nat.reduceLeDiff, K113 hS, R113_2 hS, R113_3 hS, R113_5 hS, R113_8 hS, R113_9 hS, R113_10 hS, R113_11 hS, R113_16 hS, R113_17 hS, R113_18 hS, R113_19 hS, R113_20 hS, R113_21 hS, R113_22 hS, R113_26 hS, R113_27 hS, R113_30 hS, R113_32 hS, R113_34 hS, R113_35 hS, R113_36 hS, R113_37 hS, R113_40 hS, R113_41 hS, R113_42 hS, R113_43 hS, R113_44 hS, R113_45 hS, R113_47 hS, K114 hS, K115 hS, K116 hS, K117 hS, K118 hS, K119 hS, K120 hS, K121 hS, K122 hS, K123 hS, K124 hS, K125 hS, K126 hS, K127 hS, K128 hS, K129 hS, K130 hS, K131 hS, K132 hS, K133 hS, K134 hS, K135 hS, K136 hS, K137 hS, K138 hS, K139 hS, K140 hS, K141 hS, K142 hS, N114 hS, N115 hS, N116 hS, N117 hS, N118 hS, N119 hS, N120 hS, N121 hS, N122 hS, N123 hS, N124 hS, N125 hS, N126 hS, N127 hS, N128 hS, N129 hS, N130 hS, N131 hS, N132 hS, N133 hS, N134 hS, N135 hS, N136 hS, N137 hS, N138 hS, N139 hS, N140 hS, N141 hS, N142 hS, false_or, or_false, ne_eq, true_or, or_true, not_false_eq_true, Nat.reduceEqDiff, Nat.reduceLT, Nat.reduceLeDiff, Nat.reduceAdd, D.eF, Int32.le_refl, if_true]
    exact hQ z _ (by rw [hr1, Bool.or_false])
  | succ k ih =>
    intro e z hk hQ
    have heF : e < F := by omega
    rw [hr1] at hQ
    rw [k209_16]
    simp only [k209_0, k209_1, k209_3, k209_4, k209_7, k209_10, k209_11, k209_13, k209_14, k209_18, k209_19, k209_22, k209_25, k209_26, k209_28, k209_29, k209_30, k209_31, k209_32, k209_35, k209_36, k209_39, k209_41, k209_43, k209_44, k209_45, k209_46, k209_49, k209_51, k209_52, k209_53, k209_54, k209_57, k209_58, k209_61, k209_62, k209_64, k209_67, k209_72, k209_75, k209_76, k209_77, k209_80, k209_83, k209_84, mm_sI, mm_sJ, mm_sR, mm_cI, mm_cJ, mm_I, mm_J, mm_R, mm_K, mm_N, psh_s, psh_n, z_n, z_i, z_r, z_l, Nat.reduceAdd, Nat.reduceLeDiff, K113 hS, R113_2 hS, R113_3 hS, R113_5 hS, R113_8 hS, R113_9 hS, R113_10 hS, R113_11 hS, R113_16 hS, R113_17 hS, R113_18 hS, R113_19 hS, R113_20 hS, R113_21 hS, R113_22 hS, R113_26 hS, R113_27 hS, R113_30 hS, R113_32 hS, R113_34 hS, R113_35 hS, R113_36 hS, R113_37 hS, R113_40 hS, R113_41 hS, R113_42 hS, R113_43 hS, R113_44 hS, R113_45 hS, R113_47 hS, K114 hS, K115 hS, K116 hS, K117 hS, K118 hS, K119 hS, K120 hS, K121 hS, K122 hS, K123 hS, K124 hS, K125 hS, K126 hS, K127 hS, K128 hS, K129 hS, K130 hS, K131 hS, K132 hS, K133 hS, K134 hS, K135 hS, K136 hS, K137 hS, K138 hS, K139 hS, K140 hS, K141 hS, K142 hS, N114 hS, N115 hS, N116 hS, N117 hS, N118 hS, N119 hS, N120 hS, N121 hS, N122 hS, N123 hS, N124 hS, N125 hS, N126 hS, N127 hS, N128 hS, N129 hS, N130 hS, N131 hS, N132 hS, N133 hS, N134 hS, N135 hS, N136 hS, N137 hS, N138 hS, N139 hS, N140 hS, N141 hS, N142 hS, false_or, or_false, ne_eq, true_or, or_true, not_false_eq_true, Nat.reduceEqDiff, Nat.reduceLT, Nat.reduceLeDiff, Nat.reduceAdd, D.eF, nLe (show F < 2 ^ 31 by omega) (show e < 2 ^ 31 by omega), show ¬ F ≤ e by omega, if_false, bit_sh hs (show e < 8 by omega), a16, hb e heF, hb f hf, hx e heF, hx f hf, D.v2 heF, D.v2 hf, m_apart, nS1]
    cases c1 : bit (nI s) e with
    | false =>
      simp only [Bool.false_eq_true, if_false]
      refine ih (z := z) (by omega) ?_
      intro z' e' hz; refine hQ z' e' ?_; rw [hz, c1]; simp
    | true =>
      by_cases c2 : farB (b 2 e) (b 2 f) ≤ x
      · simp only [if_true, Int32.not_lt.2 c2, if_false]
        refine ih (z := true) (by omega) ?_
        intro z' e' hz; refine hQ z' e' ?_; rw [hz, c1, decide_eq_true c2]; simp
      · simp only [if_true, Int32.not_le.1 c2]
        refine ih (z := z) (by omega) ?_
        intro z' e' hz; refine hQ z' e' ?_; rw [hz, c1, decide_eq_false c2]; simp
theorem m_hrA {s : Nat} {x : Int32} (D : DD G F W b h r E) (hs : s < 256) : ∀ {k f : Nat} {e4 e5 : Option PV}, f + k = F → Q (some (vi (if hrA b x (nI s) F f k then 1 else 0))) (mm h j r E) → WP (d + 1) 209 2 [some (vr 113), some (vi (nI s)), some (vi x), some (vi (nI f)), e4, e5] [] (mm h j r E) Q := by
  have hS := D.S
  have hF8 := D.F8
  intro k
  induction k with
  | zero =>
    intro f e4 e5 hk hQ
    have : f = F := by omega
    subst this
    rw [k209_2]
    rw [hrA] at hQ
    simp only [k209_0, k209_1, k209_3, k209_4, k209_7, k209_10, k209_11, k209_13, k209_14, k209_18, k209_19, k209_22, k209_25, k209_26, k209_28, k209_29, k209_30, k209_31, k209_32, k209_35, k209_36, k209_39, k209_41, k209_43, k209_44, k209_45, k209_46, k209_49, k209_51, k209_52, k209_53, k209_54, k209_57, k209_58, k209_61, k209_62, k209_64, k209_67, k209_70, k209_72, k209_75, k209_76, k209_77, k209_80, k209_83, k209_84, mm_sI, mm_sJ, mm_sR, mm_cI, mm_cJ, mm_I, mm_J, mm_R, mm_K, mm_N, psh_s, psh_n, z_n, z_i, z_r, z_l, Nat.reduceAdd, Nat.reduceLeDiff, K113 hS, R113_2 hS, R113_3 hS, R113_5 hS, R113_8 hS, R113_9 hS, R113_10 hS, R113_11 hS, R113_16 hS, R113_17 hS, R113_18 hS, R113_19 hS, R113_20 hS, R113_21 hS, R113_22 hS, R113_26 hS, R113_27 hS, R113_30 hS, R113_32 hS, R113_34 hS, R113_35 hS, R113_36 hS, R113_37 hS, R113_40 hS, R113_41 hS, R113_42 hS, R113_43 hS, R113_44 hS, R113_45 hS, R113_47 hS, K114 hS, K115 hS, K116 hS, K117 hS, K118 hS, K119 hS, K120 hS, K121 hS, K122 hS, K123 hS, K124 hS, K125 hS, K126 hS, K127 hS, K128 hS, K129 hS, K130 hS, K131 hS, K132 hS, K133 hS, K134 hS, K135 hS, K136 hS, K137 hS, K138 hS, K139 hS, K140 hS, K141 hS, K142 hS, N114 hS, N115 hS, N116 hS, N117 hS, N118 hS, N119 hS, N120 hS, N121 hS, N122 hS, N123 hS, N124 hS, N125 hS, N126 hS, N127 hS, N128 hS, N129 hS, N130 hS, N131 hS, N132 hS, N133 hS, N134 hS, N135 hS, N136 hS, N137 hS, N138 hS, N139 hS, N140 hS, N141 hS, N142 hS, false_or, or_false, ne_eq, true_or, or_true, not_false_eq_true, Nat.reduceEqDiff, Nat.reduceLT, Nat.reduceLeDiff, Nat.reduceAdd, D.eF, Int32.le_refl, if_true]
    exact hQ
  | succ k ih =>
    intro f e4 e5 hk hQ
    rw [k209_2]
    rw [hrA] at hQ
    simp only [k209_0, k209_1, k209_3, k209_4, k209_7, k209_10, k209_11, k209_13, k209_14, k209_18, k209_19, k209_22, k209_25, k209_26, k209_28, k209_29, k209_30, k209_31, k209_32, k209_35, k209_36, k209_39, k209_41, k209_43, k209_44, k209_45, k209_46, k209_49, k209_51, k209_52, k209_53, k209_54, k209_57, k209_58, k209_61, k209_62, k209_64, k209_67, k209_70, k209_72, k209_75, k209_76, k209_77, k209_80, k209_83, k209_84, mm_sI, mm_sJ, mm_sR, mm_cI, mm_cJ, mm_I, mm_J, mm_R, mm_K, mm_N, psh_s, psh_n, z_n, z_i, z_r, z_l, Nat.reduceAdd, Nat.reduceLeDiff, K113 hS, R113_2 hS, R113_3 hS, R113_5 hS, R113_8 hS, R113_9 hS, R113_10 hS, R113_11 hS, R113_16 hS, R113_17 hS, R113_18 hS, R113_19 hS, R113_20 hS, R113_21 hS, R113_22 hS, R113_26 hS, R113_27 hS, R113_30 hS, R113_32 hS, R113_34 hS, R113_35 hS, R113_36 hS, R113_37 hS, R113_40 hS, R113_41 hS, R113_42 hS, R113_43 hS, R113_44 hS, R113_45 hS, R113_47 hS, K114 hS, K115 hS, K116 hS, K117 hS, K118 hS, K119 hS, K120 hS, K121 hS, K122 hS, K123 hS, K124 hS, K125 hS, K126 hS, K127 hS, K128 hS, K129 hS, K130 hS, K131 hS, K132 hS, K133 hS, K134 hS, K135 hS, K136 hS, K137 hS, K138 hS, K139 hS, K140 hS, K141 hS, K142 hS, N114 hS, N115 hS, N116 hS, N117 hS, N118 hS, N119 hS, N120 hS, N121 hS, N122 hS, N123 hS, N124 hS, N125 hS, N126 hS, N127 hS, N128 hS, N129 hS, N130 hS, N131 hS, N132 hS, N133 hS, N134 hS, N135 hS, N136 hS, N137 hS, N138 hS, N139 hS, N140 hS, N141 hS, N142 hS, false_or, or_false, ne_eq, true_or, or_true, not_false_eq_true, Nat.reduceEqDiff, Nat.reduceLT, Nat.reduceLeDiff, Nat.reduceAdd, D.eF, nLe (show F < 2 ^ 31 by omega) (show f < 2 ^ 31 by omega), show ¬ F ≤ f by omega, if_false]
    refine m_hr1 D hs (show f < F by omega) (z := false) (e := 0) (k := F) (by omega) ?_
    intro z' e' hz
    rw [Bool.false_or] at hz
    subst hz
    simp only [k209_0, k209_1, k209_3, k209_4, k209_7, k209_10, k209_11, k209_13, k209_14, k209_18, k209_19, k209_22, k209_25, k209_26, k209_28, k209_29, k209_30, k209_31, k209_32, k209_35, k209_36, k209_39, k209_41, k209_43, k209_44, k209_45, k209_46, k209_49, k209_51, k209_52, k209_53, k209_54, k209_57, k209_58, k209_61, k209_62, k209_64, k209_67, k209_70, k209_72, k209_75, k209_76, k209_77, k209_80, k209_83, k209_84, mm_sI, mm_sJ, mm_sR, mm_cI, mm_cJ, mm_I, mm_J, mm_R, mm_K, mm_N, psh_s, psh_n, z_n, z_i, z_r, z_l, Nat.reduceAdd, Nat.reduceLeDiff, false_or, or_false, ne_eq, true_or, or_true, not_false_eq_true, Nat.reduceEqDiff, Nat.reduceLT, Nat.reduceLeDiff, Nat.reduceAdd]
    cases c1 : hr1 b x (nI s) f 0 F with
    | false =>
      rw [c1, Bool.false_and] at hQ
      simp only [Bool.false_eq_true, if_false, if_true] at hQ ⊢; exact hQ
    | true =>
      rw [c1, Bool.true_and] at hQ
      simp only [if_true, e10, if_false, nS1]; exact ih (by omega) hQ
theorem m_near2 {s : Nat} {x : Int32} (D : DD G F W b h r E) (hs : s < 256) : WP (d + 1) 209 0 [some (vr 113), some (vi (nI s)), some (vi x), none, none, none] [] (mm h j r E) Q = Q (some (vi (if hrA b x (nI s) F 0 F then 1 else 0))) (mm h j r E) := by
  refine WP.fn ?_
  intro Q hQ
  simp only [k209_0, k209_1, k209_3, k209_4, k209_7, k209_10, k209_11, k209_13, k209_14, k209_18, k209_19, k209_22, k209_25, k209_26, k209_28, k209_29, k209_30, k209_31, k209_32, k209_35, k209_36, k209_39, k209_41, k209_43, k209_44, k209_45, k209_46, k209_49, k209_51, k209_52, k209_53, k209_54, k209_57, k209_58, k209_61, k209_62, k209_64, k209_67, k209_70, k209_72, k209_75, k209_76, k209_77, k209_80, k209_83, k209_84, mm_sI, mm_sJ, mm_sR, mm_cI, mm_cJ, mm_I, mm_J, mm_R, mm_K, mm_N, psh_s, psh_n, z_n, z_i, z_r, z_l, Nat.reduceAdd, Nat.reduceLeDiff, false_or, or_false, ne_eq, true_or, or_true, not_false_eq_true, Nat.reduceEqDiff, Nat.reduceLT, Nat.reduceLeDiff, Nat.reduceAdd]
  exact m_hrA D hs (f := 0) (k := F) (by omega) hQ
theorem m_stL {x : Int32} {what : Option PV} (D : DD G F W b h r E) : ∀ {s c : Nat}, s ≤ 2 ^ F → (∀ e, WP (d + 2) 210 69 [some (vr 113), some (vi x), what, some (vi (nI (stM (fun s => hrA b x (nI s) F 0 F) s c))), e] [] (mm h j r E) Q) → WP (d + 2) 210 33 [some (vr 113), some (vi x), what, some (vi (nI c)), some (vi (nI s - 1))] [] (mm h j r E) Q := by
  have hS := D.S
  have hF8 := D.F8
  have t := two_le hF8
  intro s
  induction s with
  | zero =>
    intro c hk hQ
    rw [k210_33]
    simp only [k210_0, k210_1, k210_2, k210_4, k210_7, k210_10, k210_11, k210_12, k210_13, k210_16, k210_19, k210_20, k210_21, k210_22, k210_23, k210_26, k210_27, k210_28, k210_29, k210_30, k210_31, k210_35, k210_38, k210_40, k210_43, k210_44, k210_47, k210_50, k210_51, k210_53, k210_54, k210_57, k210_60, k210_62, k210_63, k210_66, k210_70, k210_73, k210_74, k210_77, k210_80, k210_81, mm_sI, mm_sJ, mm_sR, mm_cI, mm_cJ, mm_I, mm_J, mm_R, mm_K, mm_N, psh_s, psh_n, z_n, z_i, z_r, z_l, Nat.reduceAdd, Nat.reduceLeDiff, false_or, or_false, ne_eq, true_or, or_true, not_false_eq_true, Nat.reduceEqDiff, Nat.reduceLT, Nat.reduceLeDiff, Nat.reduceAdd, show (nI 0 - 1 : Int32) < 0 by decide, if_true]
    exact hQ _
  | succ s ih =>
    intro c hk hQ
    rw [nSub (show s + 1 < 2 ^ 31 by omega), k210_33]
    have p0 : (nI s < 0) = False := eq_false (nI_pos (by omega))
    have e1 : nI s + -1 = nI s - 1 := by rw [Int32.sub_eq_add_neg]
    simp only [k210_0, k210_1, k210_2, k210_4, k210_7, k210_10, k210_11, k210_12, k210_13, k210_16, k210_19, k210_20, k210_21, k210_22, k210_23, k210_26, k210_27, k210_28, k210_29, k210_30, k210_31, k210_35, k210_38, k210_40, k210_43, k210_44, k210_47, k210_50, k210_51, k210_53, k210_54, k210_57, k210_60, k210_62, k210_63, k210_66, k210_70, k210_73, k210_74, k210_77, k210_80, k210_81, mm_sI, mm_sJ, mm_sR, mm_cI, mm_cJ, mm_I, mm_J, mm_R, mm_K, mm_N, psh_s, psh_n, z_n, z_i, z_r, z_l, Nat.reduceAdd, Nat.reduceLeDiff, K113 hS, R113_2 hS, R113_3 hS, R113_5 hS, R113_8 hS, R113_9 hS, R113_10 hS, R113_11 hS, R113_16 hS, R113_17 hS, R113_18 hS, R113_19 hS, R113_20 hS, R113_21 hS, R113_22 hS, R113_26 hS, R113_27 hS, R113_30 hS, R113_32 hS, R113_34 hS, R113_35 hS, R113_36 hS, R113_37 hS, R113_40 hS, R113_41 hS, R113_42 hS, R113_43 hS, R113_44 hS, R113_45 hS, R113_47 hS, K114 hS, K115 hS, K116 hS, K117 hS, K118 hS, K119 hS, K120 hS, K121 hS, K122 hS, K123 hS, K124 hS, K125 hS, K126 hS, K127 hS, K128 hS, K129 hS, K130 hS, K131 hS, K132 hS, K133 hS, K134 hS, K135 hS, K136 hS, K137 hS, K138 hS, K139 hS, K140 hS, K141 hS, K142 hS, N114 hS, N115 hS, N116 hS, N117 hS, N118 hS, N119 hS, N120 hS, N121 hS, N122 hS, N123 hS, N124 hS, N125 hS, N126 hS, N127 hS, N128 hS, N129 hS, N130 hS, N131 hS, N132 hS, N133 hS, N134 hS, N135 hS, N136 hS, N137 hS, N138 hS, N139 hS, N140 hS, N141 hS, N142 hS, false_or, or_false, ne_eq, true_or, or_true, not_false_eq_true, Nat.reduceEqDiff, Nat.reduceLT, Nat.reduceLeDiff, Nat.reduceAdd, p0, if_false, s_bitCount, m_near2 D (show s < 256 by omega), e1]
    rw [stM] at hQ
    by_cases q1 : pcI (nI s) ≤ pcI (nI c)
    · rw [if_neg (Int32.not_lt.2 q1)]
      cases q2 : hrA b x (nI s) F 0 F with
      | true =>
        rw [if_pos ⟨q1, q2⟩] at hQ
        simp only [if_true, e10, if_false]
        exact ih (by omega) hQ
      | false =>
        rw [if_neg (fun hh => by rw [q2] at hh; exact absurd hh.2 (by decide))] at hQ
        simp only [Bool.false_eq_true, if_true, if_false]
        exact ih (by omega) hQ
    · rw [if_pos (Int32.not_le.1 q1)]
      rw [if_neg (fun hh => q1 hh.1)] at hQ
      exact ih (by omega) hQ
theorem m_stops {x what : Int32} (D : DD G F W b h r E) : WP (d + 2) 210 0 [some (vr 113), some (vi x), some (vi what), none, none] [] (mm h j r E) Q = Q (some (vi (stopsA F b x what))) (mm h j r E) := by
  refine WP.fn ?_
  intro Q hQ
  have hS := D.S
  have hF8 := D.F8
  have t := two_le hF8
  have h11 : b2i (0 ≤ x ∧ x ≤ 10) = b2i (inb x 11) := in_lit rfl (by decide)
  have h4 : b2i (0 ≤ what ∧ what ≤ 1) = b2i (inb what 2) := in_lit rfl (by decide)
  unfold stopsA at hQ
  simp only [k210_0, k210_1, k210_2, k210_4, k210_7, k210_10, k210_11, k210_12, k210_13, k210_16, k210_19, k210_20, k210_21, k210_22, k210_23, k210_26, k210_27, k210_28, k210_29, k210_30, k210_31, k210_35, k210_38, k210_40, k210_43, k210_44, k210_47, k210_50, k210_51, k210_53, k210_54, k210_57, k210_60, k210_62, k210_63, k210_66, k210_69, k210_70, k210_73, k210_74, k210_77, k210_80, k210_81, mm_sI, mm_sJ, mm_sR, mm_cI, mm_cJ, mm_I, mm_J, mm_R, mm_K, mm_N, psh_s, psh_n, z_n, z_i, z_r, z_l, Nat.reduceAdd, Nat.reduceLeDiff, K113 hS, R113_2 hS, R113_3 hS, R113_5 hS, R113_8 hS, R113_9 hS, R113_10 hS, R113_11 hS, R113_16 hS, R113_17 hS, R113_18 hS, R113_19 hS, R113_20 hS, R113_21 hS, R113_22 hS, R113_26 hS, R113_27 hS, R113_30 hS, R113_32 hS, R113_34 hS, R113_35 hS, R113_36 hS, R113_37 hS, R113_40 hS, R113_41 hS, R113_42 hS, R113_43 hS, R113_44 hS, R113_45 hS, R113_47 hS, K114 hS, K115 hS, K116 hS, K117 hS, K118 hS, K119 hS, K120 hS, K121 hS, K122 hS, K123 hS, K124 hS, K125 hS, K126 hS, K127 hS, K128 hS, K129 hS, K130 hS, K131 hS, K132 hS, K133 hS, K134 hS, K135 hS, K136 hS, K137 hS, K138 hS, K139 hS, K140 hS, K141 hS, K142 hS, N114 hS, N115 hS, N116 hS, N117 hS, N118 hS, N119 hS, N120 hS, N121 hS, N122 hS, N123 hS, N124 hS, N125 hS, N126 hS, N127 hS, N128 hS, N129 hS, N130 hS, N131 hS, N132 hS, N133 hS, N134 hS, N135 hS, N136 hS, N137 hS, N138 hS, N139 hS, N140 hS, N141 hS, N142 hS, false_or, or_false, ne_eq, true_or, or_true, not_false_eq_true, Nat.reduceEqDiff, Nat.reduceLT, Nat.reduceLeDiff, Nat.reduceAdd, s_within', h11, h4, b2i_0]
  by_cases c1 : inb x 11
  case neg => simp only [eq_false c1, not_false_eq_true, if_true, false_and, if_false] at hQ ⊢; exact hQ
  by_cases c2 : inb what 2
  case neg => simp only [eq_false c2, not_false_eq_true, if_true, false_and, and_false, if_false, eq_true c1, not_true_eq_false] at hQ ⊢; exact hQ
  rw [st_eq c1 hF8 D.w] at hQ
  simp only [eq_true c1, eq_true c2, and_true, not_true_eq_false, if_false, if_true, D.eF, sh_n hF8] at hQ ⊢
  have e2 : nI (2 ^ F) - 1 = nI (2 ^ F - 1) := by rw [← nSub (show (2 ^ F - 1) + 1 < 2 ^ 31 by omega), show 2 ^ F - 1 + 1 = 2 ^ F by omega]
  have := m_stL (d := d) (j := j) (Q := Q) (x := x) (what := some (vi what)) D (s := 2 ^ F) (c := 2 ^ F - 1) (Nat.le_refl _) ?_
  · rw [e2] at this ⊢; exact this
  intro e
  by_cases c : what = 0
  · simp only [c, if_true] at hQ
    simp only [k210_0, k210_1, k210_2, k210_4, k210_7, k210_10, k210_11, k210_12, k210_13, k210_16, k210_19, k210_20, k210_21, k210_22, k210_23, k210_26, k210_27, k210_28, k210_29, k210_30, k210_31, k210_35, k210_38, k210_40, k210_43, k210_44, k210_47, k210_50, k210_51, k210_53, k210_54, k210_57, k210_60, k210_62, k210_63, k210_66, k210_69, k210_70, k210_73, k210_74, k210_77, k210_80, k210_81, mm_sI, mm_sJ, mm_sR, mm_cI, mm_cJ, mm_I, mm_J, mm_R, mm_K, mm_N, psh_s, psh_n, z_n, z_i, z_r, z_l, Nat.reduceAdd, Nat.reduceLeDiff, false_or, or_false, ne_eq, true_or, or_true, not_false_eq_true, Nat.reduceEqDiff, Nat.reduceLT, Nat.reduceLeDiff, Nat.reduceAdd, c, if_true, s_bitCount]; exact hQ
  · simp only [c, if_false] at hQ
    simp only [k210_0, k210_1, k210_2, k210_4, k210_7, k210_10, k210_11, k210_12, k210_13, k210_16, k210_19, k210_20, k210_21, k210_22, k210_23, k210_26, k210_27, k210_28, k210_29, k210_30, k210_31, k210_35, k210_38, k210_40, k210_43, k210_44, k210_47, k210_50, k210_51, k210_53, k210_54, k210_57, k210_60, k210_62, k210_63, k210_66, k210_69, k210_70, k210_73, k210_74, k210_77, k210_80, k210_81, mm_sI, mm_sJ, mm_sR, mm_cI, mm_cJ, mm_I, mm_J, mm_R, mm_K, mm_N, psh_s, psh_n, z_n, z_i, z_r, z_l, Nat.reduceAdd, Nat.reduceLeDiff, false_or, or_false, ne_eq, true_or, or_true, not_false_eq_true, Nat.reduceEqDiff, Nat.reduceLT, Nat.reduceLeDiff, Nat.reduceAdd, c, if_false]; exact hQ
end ST
