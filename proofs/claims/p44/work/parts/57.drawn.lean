/-! ===== nights by draws ===== -/
def ush (x y : Int32) : Int32 := (x.toUInt32 >>> (y.toUInt32 &&& Int32.toUInt32 31)).toInt32
/-- how many bits: as it is counted -/
def pcI (x : Int32) : Int32 :=
  let a := x - (ush x 1 &&& 1431655765)
  let b := (a &&& 858993459) + (ush a 2 &&& 858993459)
  let c := (b + ush b 4) &&& 252645135
  let e := c + ush c 8
  let f := e + ush e 16
  f &&& 63
def zN (z : Int32) : Int32 := z * 1103515245 + 12345
def drH (W : LW) (F : Nat) (carts : Int32) (zf : Int32 → Int32) : Nat → Int32 × BB → Int32 × BB
  | 0, p => p
  | k + 1, p => drH W F carts zf k (zf p.1, hrB W F (ctB F p.2 (zf p.1) carts))
def drS (F : Nat) (girl : Int32) (b : BB) : Int32 := if girl = -1 then pcI (owB F b) else b 1 (ix girl)
def drJ (W : LW) (F : Nat) (carts girl : Int32) (hours : Nat) (b : BB) : Nat → Int32 → Int32 → Int32
  | 0, _, sum => sum
  | k + 1, z, sum => drJ W F carts girl hours b k (drH W F carts zN hours (z, b)).1 (sum + drS F girl (drH W F carts zN hours (z, b)).2)
def drawnA (G F : Nat) (W : LW) (b : BB) (seed nmc girl : Int32) : Int32 :=
  if (1 ≤ nmc / 10000 ∧ nmc / 10000 ≤ 30) ∧ (1 ≤ nmc / 100 % 100 ∧ nmc / 100 % 100 ≤ 40) ∧ (girl = -1 ∨ inb girl G) then
    drJ W F (nmc % 100) girl (ix (nmc / 100 % 100)) b (ix (nmc / 10000)) seed 0 else -1
theorem s_bitCount {d : Nat} {M : Mem} {Q : Option PV → Mem → Prop} {x : Int32} : WP d 247 0 [some (vi x)] [] M Q = Q (some (vi (pcI x))) M := by
  simp only [k247_0, k247_1, k247_2, k247_3, k247_4, k247_7, k247_8, k247_9, k247_10, k247_11, k247_14, k247_15, k247_16, k247_17, k247_18, k247_21, k247_22, k247_23, k247_24, k247_25, k247_26, k247_27, k247_28, k247_29, k247_32, k247_33, k247_34, k247_35, k247_36, k247_38, k247_39, k247_40, k247_41, k247_42, k247_43, k247_45, k247_46, k247_47, k247_48, k247_49, k247_51, k247_52, mm_sI, mm_sJ, mm_sR, mm_cI, mm_cJ, mm_I, mm_J, mm_R, mm_K, mm_N, psh_s, psh_n, z_n, z_i, z_r, z_l, Nat.reduceAdd, Nat.reduceLeDiff]; rfl
theorem u_nI (u : UInt32) : u.toInt32 = nI u.toNat := by
  rw [← Int32.toBitVec_inj]
  show u.toBitVec = BitVec.ofNat 32 u.toBitVec.toNat
  rw [BitVec.ofNat_toNat, BitVec.setWidth_eq]
theorem ush_8 {z : Int32} : ∃ q, q < 2 ^ 24 ∧ ush z 8 = nI q := by
  refine ⟨(z.toUInt32 >>> (Int32.toUInt32 8 &&& Int32.toUInt32 31)).toNat, ?_, u_nI _⟩
  have h : (Int32.toUInt32 8 &&& Int32.toUInt32 31) = 8 := by decide
  rw [h, UInt32.toNat_shiftRight]
  have h2 := z.toUInt32.toNat_lt
  rw [show (8 : UInt32).toNat % 32 = 8 from rfl, Nat.shiftRight_eq_div_pow]
  omega
theorem zN_d {z : Int32} : z * 1103515245 + 12345 = zN z := by rw [zN]
theorem cart_i {z : Int32} {F : Nat} (h0 : 0 < F) (h8 : F ≤ 8) : ∃ q, q < F ∧ ush z 8 % nI F = nI q := by
  obtain ⟨q, hq, e⟩ := @ush_8 z
  exact ⟨q % F, Nat.mod_lt _ h0, by rw [e, nMod (by omega) (by omega)]⟩
theorem ct_d {F : Nat} {b : BB} {z carts : Int32} : ctB F b z carts = if 0 < F ∧ ush z 16 % 100 < carts then up2 (up2 b 4 (ix (ush z 8 % nI F)) (-1)) 5 (ix (ush z 8 % nI F)) 0 else b := rfl
theorem range_i {x : Int32} {a c : Nat} (ha : 1 ≤ a) (hc : c < 2 ^ 31) (h : nI a ≤ x ∧ x ≤ nI c) (hac : a < 2 ^ 31) : ∃ k, a ≤ k ∧ k ≤ c ∧ x = nI k := by
  have q1 := (iLe _ _).1 h.1
  have q2 := (iLe _ _).1 h.2
  rw [nI_toInt hac] at q1
  rw [nI_toInt hc] at q2
  obtain ⟨k, hk, rfl⟩ := nI_of (x := x) (by rw [iLt, i0]; omega)
  rw [nI_toInt hk] at q1 q2
  exact ⟨k, by omega, by omega, rfl⟩
section DW
variable {d : Nat} {M : Mem} {h h0 h1 h2 : Hp} {j : Jp} {r : Rp} {E : EE} {l G F A : Nat} {W : LW} {b bt : BB} {Q : Option PV → Mem → Prop}
theorem t_meet {z carts : Int32} (T : TT G F l W b bt h0 h r E) (hQ : ∀ h', TT G F l W b (ctB F bt z carts) h0 h' r E → Q none (mm h' j r E)) : WP (d + 1) 39 0 [some (vr 11), some (vi z), some (vi carts)] [] (mm h j r E) Q := by
  have hS := T.C.S
  have hF8 := T.C.F8
  have t100 : ((100 : Int32) = 0) = False := by simp
  rw [ct_d] at hQ
  by_cases c0 : F = 0
  · subst c0
    rw [if_neg (by omega)] at hQ
    simp only [k39_0, k39_1, k39_4, k39_7, k39_8, k39_10, k39_11, k39_13, k39_14, k39_15, k39_18, k39_19, k39_20, k39_22, k39_23, k39_24, k39_27, k39_28, k39_31, mm_sI, mm_sJ, mm_sR, mm_cI, mm_cJ, mm_I, mm_J, mm_R, mm_K, mm_N, psh_s, psh_n, z_n, z_i, z_r, z_l, Nat.reduceAdd, Nat.reduceLeDiff, K2 hS, R2_0 hS, R2_1 hS, R2_2 hS, R2_6 hS, R2_8 hS, R2_11 hS, R2_12 hS, R2_13 hS, R2_15 hS, R2_16 hS, K3 hS, K11 hS, K19 hS, K27 hS, K32 hS, K37 hS, K98 hS, K99 hS, K100 hS, N37 hS, N98 hS, N99 hS, N100 hS, ne_eq, true_or, or_true, not_false_eq_true, Nat.reduceEqDiff, Nat.reduceLT, Nat.reduceLeDiff, Nat.reduceAdd, T.eF, nn0, Int32.le_refl, if_true]
    exact hQ h T
  · have hF0 : (nI F ≤ 0) = False := by rw [← nn0, nLe (by omega) (by omega)]; apply eq_false; omega
    have hFz : (nI F = 0) = False := by rw [← nn0, nEq (by omega) (by omega)]; apply eq_false; omega
    simp only [k39_0, k39_1, k39_4, k39_7, k39_8, k39_10, k39_11, k39_13, k39_14, k39_15, k39_18, k39_19, k39_20, k39_22, k39_23, k39_24, k39_27, k39_28, k39_31, mm_sI, mm_sJ, mm_sR, mm_cI, mm_cJ, mm_I, mm_J, mm_R, mm_K, mm_N, psh_s, psh_n, z_n, z_i, z_r, z_l, Nat.reduceAdd, Nat.reduceLeDiff, K2 hS, R2_0 hS, R2_1 hS, R2_2 hS, R2_6 hS, R2_8 hS, R2_11 hS, R2_12 hS, R2_13 hS, R2_15 hS, R2_16 hS, K3 hS, K11 hS, K19 hS, K27 hS, K32 hS, K37 hS, K98 hS, K99 hS, K100 hS, N37 hS, N98 hS, N99 hS, N100 hS, ne_eq, true_or, or_true, not_false_eq_true, Nat.reduceEqDiff, Nat.reduceLT, Nat.reduceLeDiff, Nat.reduceAdd, T.eF, hF0, hFz, t100, if_false]
    by_cases c1 : ush z 16 % 100 < carts
    · rw [if_pos ⟨by omega, c1⟩] at hQ
      obtain ⟨q, hq, eq⟩ := cart_i (z := z) (show 0 < F by omega) hF8
      rw [eq, ix_n (by omega)] at hQ
      rw [if_neg (show ¬ carts ≤ (z.toUInt32 >>> (Int32.toUInt32 16 &&& Int32.toUInt32 31)).toInt32 % 100 from Int32.not_le.2 c1)]
      rw [show (z.toUInt32 >>> (Int32.toUInt32 8 &&& Int32.toUInt32 31)).toInt32 % nI F = nI q from eq]
      refine t_owes T hq ?_
      intro h' T'
      simp only [k39_0, k39_1, k39_4, k39_7, k39_8, k39_10, k39_11, k39_13, k39_14, k39_15, k39_18, k39_19, k39_20, k39_22, k39_23, k39_24, k39_27, k39_28, k39_31, mm_sI, mm_sJ, mm_sR, mm_cI, mm_cJ, mm_I, mm_J, mm_R, mm_K, mm_N, psh_s, psh_n, z_n, z_i, z_r, z_l, Nat.reduceAdd, Nat.reduceLeDiff]
      exact hQ h' T'
    · rw [if_neg (fun hh => c1 hh.2)] at hQ
      rw [if_pos (show carts ≤ (z.toUInt32 >>> (Int32.toUInt32 16 &&& Int32.toUInt32 31)).toInt32 % 100 from Int32.not_lt.1 c1)]
      exact hQ h T
theorem drH_s {carts : Int32} {k : Nat} {z : Int32} {zf : Int32 → Int32} : drH W F carts zf (k + 1) (z, b) = drH W F carts zf k (zf z, hrB W F (ctB F b (zf z) carts)) := by rw [drH]
theorem c_drH {girl sm jn : Option PV} {n5 : Option PV} {seed : Option PV} {x : Int32} : ∀ {k i N : Nat} {z : Int32} {bt : BB} {h : Hp}, N ≤ 40 → i + k = N → TT G F l W b bt h0 h r E →
    (∀ h' e, TT G F l W b (drH W F (x % 100) zN k (z, bt)).2 h0 h' r E → WP (d + 7) 117 147 [some (vr 2), seed, some (vi x), girl, some (vi (nI N)), n5, some (vi (drH W F (x % 100) zN k (z, bt)).1), sm, jn, e] [] (mm h' j r E) Q) →
    WP (d + 7) 117 97 [some (vr 2), seed, some (vi x), girl, some (vi (nI N)), n5, some (vi z), sm, jn, some (vi (nI i))] [] (mm h j r E) Q := by
  have t100 : ((100 : Int32) = 0) = False := by simp
  intro k
  induction k with
  | zero =>
    intro i N z bt h hN hk T hQ
    have : i = N := by omega
    subst this
    rw [k117_97]
    simp only [k117_0, k117_1, k117_3, k117_4, k117_6, k117_7, k117_9, k117_10, k117_13, k117_14, k117_15, k117_17, k117_20, k117_23, k117_25, k117_26, k117_28, k117_31, k117_34, k117_35, k117_38, k117_39, k117_41, k117_43, k117_46, k117_47, k117_48, k117_51, k117_52, k117_55, k117_56, k117_59, k117_62, k117_63, k117_64, k117_65, k117_67, k117_68, k117_70, k117_71, k117_75, k117_76, k117_79, k117_80, k117_83, k117_84, k117_87, k117_88, k117_91, k117_94, k117_95, k117_99, k117_101, k117_104, k117_106, k117_109, k117_110, k117_113, k117_114, k117_116, k117_117, k117_120, k117_122, k117_123, k117_125, k117_126, k117_129, k117_130, k117_133, k117_134, k117_137, k117_140, k117_140i, k117_141, k117_144, k117_149, k117_150, k117_151, k117_154, k117_155, k117_158, k117_161, k117_164, k117_167, k117_168, k117_171, k117_174, k117_175, k117_176, k117_177, k117_179, k117_182, k117_185, k117_187, mm_sI, mm_sJ, mm_sR, mm_cI, mm_cJ, mm_I, mm_J, mm_R, mm_K, mm_N, psh_s, psh_n, z_n, z_i, z_r, z_l, Nat.reduceAdd, Nat.reduceLeDiff, ne_eq, true_or, or_true, not_false_eq_true, Nat.reduceEqDiff, Nat.reduceLT, Nat.reduceLeDiff, Nat.reduceAdd, Int32.le_refl, if_true]
    exact hQ h _ T
  | succ k ih =>
    intro i N z bt h hN hk T hQ
    have hS := T.C.S
    have e4 := T.C.rl
    rw [k117_97]
    simp only [k117_0, k117_1, k117_3, k117_4, k117_6, k117_7, k117_9, k117_10, k117_13, k117_14, k117_15, k117_17, k117_20, k117_23, k117_25, k117_26, k117_28, k117_31, k117_34, k117_35, k117_38, k117_39, k117_41, k117_43, k117_46, k117_47, k117_48, k117_51, k117_52, k117_55, k117_56, k117_59, k117_62, k117_63, k117_64, k117_65, k117_67, k117_68, k117_70, k117_71, k117_75, k117_76, k117_79, k117_80, k117_83, k117_84, k117_87, k117_88, k117_91, k117_94, k117_95, k117_99, k117_101, k117_104, k117_106, k117_109, k117_110, k117_113, k117_114, k117_116, k117_117, k117_120, k117_122, k117_123, k117_125, k117_126, k117_129, k117_130, k117_133, k117_134, k117_137, k117_140, k117_140i, k117_141, k117_144, k117_149, k117_150, k117_151, k117_154, k117_155, k117_158, k117_161, k117_164, k117_167, k117_168, k117_171, k117_174, k117_175, k117_176, k117_177, k117_179, k117_182, k117_185, k117_187, mm_sI, mm_sJ, mm_sR, mm_cI, mm_cJ, mm_I, mm_J, mm_R, mm_K, mm_N, psh_s, psh_n, z_n, z_i, z_r, z_l, Nat.reduceAdd, Nat.reduceLeDiff, K2 hS, R2_0 hS, R2_1 hS, R2_2 hS, R2_6 hS, R2_8 hS, R2_11 hS, R2_12 hS, R2_13 hS, R2_15 hS, R2_16 hS, K3 hS, K11 hS, K19 hS, K27 hS, K32 hS, K37 hS, K98 hS, K99 hS, K100 hS, N37 hS, N98 hS, N99 hS, N100 hS, ne_eq, true_or, or_true, not_false_eq_true, Nat.reduceEqDiff, Nat.reduceLT, Nat.reduceLeDiff, Nat.reduceAdd, nLe (show N < 2 ^ 31 by omega) (show i < 2 ^ 31 by omega), show ¬ N ≤ i by omega, if_false, t100, zN_d]
    simp only [drH_s] at hQ
    refine WP.deep (d := d + 1) ?_ (by omega)
    refine t_meet T ?_
    intro h1 T1
    simp only [k117_0, k117_1, k117_3, k117_4, k117_6, k117_7, k117_9, k117_10, k117_13, k117_14, k117_15, k117_17, k117_20, k117_23, k117_25, k117_26, k117_28, k117_31, k117_34, k117_35, k117_38, k117_39, k117_41, k117_43, k117_46, k117_47, k117_48, k117_51, k117_52, k117_55, k117_56, k117_59, k117_62, k117_63, k117_64, k117_65, k117_67, k117_68, k117_70, k117_71, k117_75, k117_76, k117_79, k117_80, k117_83, k117_84, k117_87, k117_88, k117_91, k117_94, k117_95, k117_99, k117_101, k117_104, k117_106, k117_109, k117_110, k117_113, k117_114, k117_116, k117_117, k117_120, k117_122, k117_123, k117_125, k117_126, k117_129, k117_130, k117_133, k117_134, k117_137, k117_140, k117_140i, k117_141, k117_144, k117_149, k117_150, k117_151, k117_154, k117_155, k117_158, k117_161, k117_164, k117_167, k117_168, k117_171, k117_174, k117_175, k117_176, k117_177, k117_179, k117_182, k117_185, k117_187, mm_sI, mm_sJ, mm_sR, mm_cI, mm_cJ, mm_I, mm_J, mm_R, mm_K, mm_N, psh_s, psh_n, z_n, z_i, z_r, z_l, Nat.reduceAdd, Nat.reduceLeDiff, K2 hS, R2_0 hS, R2_1 hS, R2_2 hS, R2_6 hS, R2_8 hS, R2_11 hS, R2_12 hS, R2_13 hS, R2_15 hS, R2_16 hS, K3 hS, K11 hS, K19 hS, K27 hS, K32 hS, K37 hS, K98 hS, K99 hS, K100 hS, N37 hS, N98 hS, N99 hS, N100 hS, ne_eq, true_or, or_true, not_false_eq_true, Nat.reduceEqDiff, Nat.reduceLT, Nat.reduceLeDiff, Nat.reduceAdd, e4]
    refine WP.deep (d := d + 5) ?_ (by omega)
    refine t_pass T1 ?_
    intro h2 T2
    simp only [k117_0, k117_1, k117_3, k117_4, k117_6, k117_7, k117_9, k117_10, k117_13, k117_14, k117_15, k117_17, k117_20, k117_23, k117_25, k117_26, k117_28, k117_31, k117_34, k117_35, k117_38, k117_39, k117_41, k117_43, k117_46, k117_47, k117_48, k117_51, k117_52, k117_55, k117_56, k117_59, k117_62, k117_63, k117_64, k117_65, k117_67, k117_68, k117_70, k117_71, k117_75, k117_76, k117_79, k117_80, k117_83, k117_84, k117_87, k117_88, k117_91, k117_94, k117_95, k117_99, k117_101, k117_104, k117_106, k117_109, k117_110, k117_113, k117_114, k117_116, k117_117, k117_120, k117_122, k117_123, k117_125, k117_126, k117_129, k117_130, k117_133, k117_134, k117_137, k117_140, k117_140i, k117_141, k117_144, k117_149, k117_150, k117_151, k117_154, k117_155, k117_158, k117_161, k117_164, k117_167, k117_168, k117_171, k117_174, k117_175, k117_176, k117_177, k117_179, k117_182, k117_185, k117_187, mm_sI, mm_sJ, mm_sR, mm_cI, mm_cJ, mm_I, mm_J, mm_R, mm_K, mm_N, psh_s, psh_n, z_n, z_i, z_r, z_l, Nat.reduceAdd, Nat.reduceLeDiff, nS1]
    exact ih hN (by omega) T2 hQ
theorem drJ_s {carts girl : Int32} {hours k : Nat} {z sum : Int32} : drJ W F carts girl hours b (k + 1) z sum = drJ W F carts girl hours b k (drH W F carts zN hours (z, b)).1 (sum + drS F girl (drH W F carts zN hours (z, b)).2) := rfl
theorem c_drJ {n5 seed : Option PV} {x girl : Int32} {H J : Nat} (C : CC G F l W b h0 r E) (hH : H ≤ 40) (hJ : J ≤ 30) (eJ : x / 10000 = nI J) (hg : girl = -1 ∨ inb girl G) : ∀ {k i : Nat} {z sm : Int32} {h : Hp} {e : Option PV}, i + k = J → Scr h0 h →
    (∀ h', Scr h0 h' → Q (some (vi (drJ W F (x % 100) girl H b k z sm))) (mm h' j r E)) →
    WP (d + 7) 117 73 [some (vr 2), seed, some (vi x), some (vi girl), some (vi (nI H)), n5, some (vi z), some (vi sm), some (vi (nI i)), e] [] (mm h j r E) Q := by
  have t10000 : ((10000 : Int32) = 0) = False := by simp
  have hS := C.S
  intro k
  induction k with
  | zero =>
    intro i z sm h e hk s hQ
    have : i = J := by omega
    subst this
    rw [k117_73]
    simp only [k117_0, k117_1, k117_3, k117_4, k117_6, k117_7, k117_9, k117_10, k117_13, k117_14, k117_15, k117_17, k117_20, k117_23, k117_25, k117_26, k117_28, k117_31, k117_34, k117_35, k117_38, k117_39, k117_41, k117_43, k117_46, k117_47, k117_48, k117_51, k117_52, k117_55, k117_56, k117_59, k117_62, k117_63, k117_64, k117_65, k117_67, k117_68, k117_70, k117_71, k117_75, k117_76, k117_79, k117_80, k117_83, k117_84, k117_87, k117_88, k117_91, k117_94, k117_95, k117_99, k117_101, k117_104, k117_106, k117_109, k117_110, k117_113, k117_114, k117_116, k117_117, k117_120, k117_122, k117_123, k117_125, k117_126, k117_129, k117_130, k117_133, k117_134, k117_137, k117_140, k117_140i, k117_141, k117_144, k117_147, k117_149, k117_150, k117_151, k117_154, k117_155, k117_158, k117_161, k117_164, k117_167, k117_168, k117_171, k117_174, k117_175, k117_176, k117_177, k117_179, k117_182, k117_185, k117_187, mm_sI, mm_sJ, mm_sR, mm_cI, mm_cJ, mm_I, mm_J, mm_R, mm_K, mm_N, psh_s, psh_n, z_n, z_i, z_r, z_l, Nat.reduceAdd, Nat.reduceLeDiff, ne_eq, true_or, or_true, not_false_eq_true, Nat.reduceEqDiff, Nat.reduceLT, Nat.reduceLeDiff, Nat.reduceAdd, t10000, eJ, Int32.le_refl, if_true]
    exact hQ h s
  | succ k ih =>
    intro i z sm h e hk s hQ
    rw [k117_73]
    simp only [k117_0, k117_1, k117_3, k117_4, k117_6, k117_7, k117_9, k117_10, k117_13, k117_14, k117_15, k117_17, k117_20, k117_23, k117_25, k117_26, k117_28, k117_31, k117_34, k117_35, k117_38, k117_39, k117_41, k117_43, k117_46, k117_47, k117_48, k117_51, k117_52, k117_55, k117_56, k117_59, k117_62, k117_63, k117_64, k117_65, k117_67, k117_68, k117_70, k117_71, k117_75, k117_76, k117_79, k117_80, k117_83, k117_84, k117_87, k117_88, k117_91, k117_94, k117_95, k117_99, k117_101, k117_104, k117_106, k117_109, k117_110, k117_113, k117_114, k117_116, k117_117, k117_120, k117_122, k117_123, k117_125, k117_126, k117_129, k117_130, k117_133, k117_134, k117_137, k117_140, k117_140i, k117_141, k117_144, k117_147, k117_149, k117_150, k117_151, k117_154, k117_155, k117_158, k117_161, k117_164, k117_167, k117_168, k117_171, k117_174, k117_175, k117_176, k117_177, k117_179, k117_182, k117_185, k117_187, mm_sI, mm_sJ, mm_sR, mm_cI, mm_cJ, mm_I, mm_J, mm_R, mm_K, mm_N, psh_s, psh_n, z_n, z_i, z_r, z_l, Nat.reduceAdd, Nat.reduceLeDiff, K2 hS, R2_0 hS, R2_1 hS, R2_2 hS, R2_6 hS, R2_8 hS, R2_11 hS, R2_12 hS, R2_13 hS, R2_15 hS, R2_16 hS, K3 hS, K11 hS, K19 hS, K27 hS, K32 hS, K37 hS, K98 hS, K99 hS, K100 hS, N37 hS, N98 hS, N99 hS, N100 hS, ne_eq, true_or, or_true, not_false_eq_true, Nat.reduceEqDiff, Nat.reduceLT, Nat.reduceLeDiff, Nat.reduceAdd, t10000, eJ, nLe (show J < 2 ^ 31 by omega) (show i < 2 ^ 31 by omega), show ¬ J ≤ i by omega, if_false]
    refine WP.deep (d := d + 6) ?_ (by omega)
    refine t_copy C s ?_
    intro h1 T
    simp only [k117_0, k117_1, k117_3, k117_4, k117_6, k117_7, k117_9, k117_10, k117_13, k117_14, k117_15, k117_17, k117_20, k117_23, k117_25, k117_26, k117_28, k117_31, k117_34, k117_35, k117_38, k117_39, k117_41, k117_43, k117_46, k117_47, k117_48, k117_51, k117_52, k117_55, k117_56, k117_59, k117_62, k117_63, k117_64, k117_65, k117_67, k117_68, k117_70, k117_71, k117_75, k117_76, k117_79, k117_80, k117_83, k117_84, k117_87, k117_88, k117_91, k117_94, k117_95, k117_99, k117_101, k117_104, k117_106, k117_109, k117_110, k117_113, k117_114, k117_116, k117_117, k117_120, k117_122, k117_123, k117_125, k117_126, k117_129, k117_130, k117_133, k117_134, k117_137, k117_140, k117_140i, k117_141, k117_144, k117_147, k117_149, k117_150, k117_151, k117_154, k117_155, k117_158, k117_161, k117_164, k117_167, k117_168, k117_171, k117_174, k117_175, k117_176, k117_177, k117_179, k117_182, k117_185, k117_187, mm_sI, mm_sJ, mm_sR, mm_cI, mm_cJ, mm_I, mm_J, mm_R, mm_K, mm_N, psh_s, psh_n, z_n, z_i, z_r, z_l, Nat.reduceAdd, Nat.reduceLeDiff, ne_eq, true_or, or_true, not_false_eq_true, Nat.reduceEqDiff, Nat.reduceLT, Nat.reduceLeDiff, Nat.reduceAdd]
    refine c_drH hH (i := 0) (k := H) (by omega) T ?_
    intro h2 e2 T2
    rw [drJ_s] at hQ
    by_cases cg : girl = -1
    · subst cg
      simp only [k117_0, k117_1, k117_3, k117_4, k117_6, k117_7, k117_9, k117_10, k117_13, k117_14, k117_15, k117_17, k117_20, k117_23, k117_25, k117_26, k117_28, k117_31, k117_34, k117_35, k117_38, k117_39, k117_41, k117_43, k117_46, k117_47, k117_48, k117_51, k117_52, k117_55, k117_56, k117_59, k117_62, k117_63, k117_64, k117_65, k117_67, k117_68, k117_70, k117_71, k117_75, k117_76, k117_79, k117_80, k117_83, k117_84, k117_87, k117_88, k117_91, k117_94, k117_95, k117_99, k117_101, k117_104, k117_106, k117_109, k117_110, k117_113, k117_114, k117_116, k117_117, k117_120, k117_122, k117_123, k117_125, k117_126, k117_129, k117_130, k117_133, k117_134, k117_137, k117_140, k117_140i, k117_141, k117_144, k117_147, k117_149, k117_150, k117_151, k117_154, k117_155, k117_158, k117_161, k117_164, k117_167, k117_168, k117_171, k117_174, k117_175, k117_176, k117_177, k117_179, k117_182, k117_185, k117_187, mm_sI, mm_sJ, mm_sR, mm_cI, mm_cJ, mm_I, mm_J, mm_R, mm_K, mm_N, psh_s, psh_n, z_n, z_i, z_r, z_l, Nat.reduceAdd, Nat.reduceLeDiff, K2 hS, R2_0 hS, R2_1 hS, R2_2 hS, R2_6 hS, R2_8 hS, R2_11 hS, R2_12 hS, R2_13 hS, R2_15 hS, R2_16 hS, K3 hS, K11 hS, K19 hS, K27 hS, K32 hS, K37 hS, K98 hS, K99 hS, K100 hS, N37 hS, N98 hS, N99 hS, N100 hS, ne_eq, true_or, or_true, not_false_eq_true, Nat.reduceEqDiff, Nat.reduceLT, Nat.reduceLeDiff, Nat.reduceAdd, if_true, t_owing T2, s_bitCount, nS1]
      exact ih (by omega) T2.s hQ
    · have hg2 := hg.resolve_left cg
      obtain ⟨g, hgG, eg, _⟩ := inb_of hg2
      have hG8 := C.G8
      have hb : inb girl 8 = True := eq_true (inb_mono hg2 hG8)
      have ev := t_v1 T2 hgG
      have hx : ix girl = g := by rw [eg]; exact ix_n (by omega)
      have es : drS F girl (drH W F (x % 100) zN H (z, b)).2 = (drH W F (x % 100) zN H (z, b)).2 1 g := by unfold drS; rw [if_neg cg, hx]
      rw [es] at hQ
      simp only [k117_0, k117_1, k117_3, k117_4, k117_6, k117_7, k117_9, k117_10, k117_13, k117_14, k117_15, k117_17, k117_20, k117_23, k117_25, k117_26, k117_28, k117_31, k117_34, k117_35, k117_38, k117_39, k117_41, k117_43, k117_46, k117_47, k117_48, k117_51, k117_52, k117_55, k117_56, k117_59, k117_62, k117_63, k117_64, k117_65, k117_67, k117_68, k117_70, k117_71, k117_75, k117_76, k117_79, k117_80, k117_83, k117_84, k117_87, k117_88, k117_91, k117_94, k117_95, k117_99, k117_101, k117_104, k117_106, k117_109, k117_110, k117_113, k117_114, k117_116, k117_117, k117_120, k117_122, k117_123, k117_125, k117_126, k117_129, k117_130, k117_133, k117_134, k117_137, k117_140, k117_140i, k117_141, k117_144, k117_147, k117_149, k117_150, k117_151, k117_154, k117_155, k117_158, k117_161, k117_164, k117_167, k117_168, k117_171, k117_174, k117_175, k117_176, k117_177, k117_179, k117_182, k117_185, k117_187, mm_sI, mm_sJ, mm_sR, mm_cI, mm_cJ, mm_I, mm_J, mm_R, mm_K, mm_N, psh_s, psh_n, z_n, z_i, z_r, z_l, Nat.reduceAdd, Nat.reduceLeDiff, K2 hS, R2_0 hS, R2_1 hS, R2_2 hS, R2_6 hS, R2_8 hS, R2_11 hS, R2_12 hS, R2_13 hS, R2_15 hS, R2_16 hS, K3 hS, K11 hS, K19 hS, K27 hS, K32 hS, K37 hS, K98 hS, K99 hS, K100 hS, N37 hS, N98 hS, N99 hS, N100 hS, R11_0 hS, R11_1 hS, R11_2 hS, R11_3 hS, R11_4 hS, R11_5 hS, R11_6 hS, K12 hS, K13 hS, K14 hS, K15 hS, K16 hS, K17 hS, K18 hS, N12 hS, N13 hS, N14 hS, N15 hS, N16 hS, N17 hS, N18 hS, ne_eq, true_or, or_true, not_false_eq_true, Nat.reduceEqDiff, Nat.reduceLT, Nat.reduceLeDiff, Nat.reduceAdd, cg, if_false, hb, hx, ev, nS1]
      exact ih (by omega) T2.s hQ
theorem c_drawn {seed nmc girl : Int32} (C : CC G F l W b h r E) (hQ : ∀ h', Scr h h' → Q (some (vi (drawnA G F W b seed nmc girl))) (mm h' j r E)) :
    WP (d + 7) 117 0 [some (vr 2), some (vi seed), some (vi nmc), some (vi girl), none, none, none, none, none, none] [] (mm h j r E) Q := by
  have hS := C.S
  have t100 : ((100 : Int32) = 0) = False := by simp
  have t10000 : ((10000 : Int32) = 0) = False := by simp
  have hr := hQ h Scr.rf
  unfold drawnA at hQ hr
  simp only [k117_0, k117_1, k117_3, k117_4, k117_6, k117_7, k117_9, k117_10, k117_13, k117_14, k117_15, k117_17, k117_20, k117_23, k117_25, k117_26, k117_28, k117_31, k117_34, k117_35, k117_38, k117_39, k117_41, k117_43, k117_46, k117_47, k117_48, k117_51, k117_52, k117_55, k117_56, k117_59, k117_62, k117_63, k117_64, k117_65, k117_67, k117_68, k117_70, k117_71, k117_75, k117_76, k117_79, k117_80, k117_83, k117_84, k117_87, k117_88, k117_91, k117_94, k117_95, k117_99, k117_101, k117_104, k117_106, k117_109, k117_110, k117_113, k117_114, k117_116, k117_117, k117_120, k117_122, k117_123, k117_125, k117_126, k117_129, k117_130, k117_133, k117_134, k117_137, k117_140, k117_140i, k117_141, k117_144, k117_147, k117_149, k117_150, k117_151, k117_154, k117_155, k117_158, k117_161, k117_164, k117_167, k117_168, k117_171, k117_174, k117_175, k117_176, k117_177, k117_179, k117_182, k117_185, k117_187, mm_sI, mm_sJ, mm_sR, mm_cI, mm_cJ, mm_I, mm_J, mm_R, mm_K, mm_N, psh_s, psh_n, z_n, z_i, z_r, z_l, Nat.reduceAdd, Nat.reduceLeDiff, K2 hS, R2_0 hS, R2_1 hS, R2_2 hS, R2_6 hS, R2_8 hS, R2_11 hS, R2_12 hS, R2_13 hS, R2_15 hS, R2_16 hS, K3 hS, K11 hS, K19 hS, K27 hS, K32 hS, K37 hS, K98 hS, K99 hS, K100 hS, N37 hS, N98 hS, N99 hS, N100 hS, ne_eq, true_or, or_true, not_false_eq_true, Nat.reduceEqDiff, Nat.reduceLT, Nat.reduceLeDiff, Nat.reduceAdd, s_within, b2i_0, t100, t10000]
  by_cases c1 : 1 ≤ nmc / 10000 ∧ nmc / 10000 ≤ 30
  case neg => simp only [eq_false c1, not_false_eq_true, if_true, false_and, if_false] at hr ⊢; exact hr
  by_cases c2 : 1 ≤ nmc / 100 % 100 ∧ nmc / 100 % 100 ≤ 40
  case neg => simp only [eq_false c2, not_false_eq_true, if_true, false_and, and_false, if_false, eq_true c1, not_true_eq_false] at hr ⊢; exact hr
  simp only [eq_true c1, eq_true c2, not_true_eq_false, if_false, true_and, e10] at hQ hr ⊢
  obtain ⟨J, _, hJ, eJ⟩ := range_i (a := 1) (c := 30) (by decide) (by decide) c1 (by decide)
  obtain ⟨H, _, hH, eH⟩ := range_i (a := 1) (c := 40) (by decide) (by decide) c2 (by decide)
  simp only [eJ, eH, ix_n (show J < 2 ^ 31 by omega), ix_n (show H < 2 ^ 31 by omega)] at hQ ⊢
  by_cases cg : girl = -1
  · simp only [cg, true_or, if_true] at hQ ⊢
    exact c_drJ C hH hJ eJ (Or.inl rfl) (i := 0) (k := J) (by omega) Scr.rf hQ
  · simp only [cg, false_or] at hQ hr
    simp only [k117_0, k117_1, k117_3, k117_4, k117_6, k117_7, k117_9, k117_10, k117_13, k117_14, k117_15, k117_17, k117_20, k117_23, k117_25, k117_26, k117_28, k117_31, k117_34, k117_35, k117_38, k117_39, k117_41, k117_43, k117_46, k117_47, k117_48, k117_51, k117_52, k117_55, k117_56, k117_59, k117_62, k117_63, k117_64, k117_65, k117_67, k117_68, k117_70, k117_71, k117_75, k117_76, k117_79, k117_80, k117_83, k117_84, k117_87, k117_88, k117_91, k117_94, k117_95, k117_99, k117_101, k117_104, k117_106, k117_109, k117_110, k117_113, k117_114, k117_116, k117_117, k117_120, k117_122, k117_123, k117_125, k117_126, k117_129, k117_130, k117_133, k117_134, k117_137, k117_140, k117_140i, k117_141, k117_144, k117_147, k117_149, k117_150, k117_151, k117_154, k117_155, k117_158, k117_161, k117_164, k117_167, k117_168, k117_171, k117_174, k117_175, k117_176, k117_177, k117_179, k117_182, k117_185, k117_187, mm_sI, mm_sJ, mm_sR, mm_cI, mm_cJ, mm_I, mm_J, mm_R, mm_K, mm_N, psh_s, psh_n, z_n, z_i, z_r, z_l, Nat.reduceAdd, Nat.reduceLeDiff, K2 hS, R2_0 hS, R2_1 hS, R2_2 hS, R2_6 hS, R2_8 hS, R2_11 hS, R2_12 hS, R2_13 hS, R2_15 hS, R2_16 hS, K3 hS, K11 hS, K19 hS, K27 hS, K32 hS, K37 hS, K98 hS, K99 hS, K100 hS, N37 hS, N98 hS, N99 hS, N100 hS, ne_eq, true_or, or_true, not_false_eq_true, Nat.reduceEqDiff, Nat.reduceLT, Nat.reduceLeDiff, Nat.reduceAdd, cg, if_false, c_hasGirl C, b2i_0]
    by_cases c3 : inb girl G
    case neg => simp only [eq_false c3, not_false_eq_true, if_true, if_false] at hr ⊢; exact hr
    simp only [eq_true c3, not_true_eq_false, if_true, if_false] at hQ ⊢
    exact c_drJ C hH hJ eJ (Or.inr c3) (i := 0) (k := J) (by omega) Scr.rf hQ
end DW
