/-- the script lies -/
def Scp (L : Nat) (M : Mem) : Prop := mK M 1 = 13 ∧ mN M 1 = L
theorem Scp.go {M M1 : Mem} {L : Nat} (S : Scp L M) (hX : 2 ≤ mX M) (s : Sc M M1) : Scp L M1 := ⟨(s.2.1 1 (by omega)).trans S.1, s.2.2.1.trans S.2⟩
theorem WP.val {d y pc : Nat} {ls : Loc1} {st : List PV} {M : Mem} {Q : Option PV → Mem → Prop} {P : Prop} (h : WP d y pc ls st M Q) (hq : ∀ v M', Q v M' → P) : P := by
  obtain ⟨f, r, _, h2⟩ := h; exact hq _ _ h2
theorem InvE.ks {M : Mem} (I : InvE M) : mK M 2 = 11 ∧ mK M 113 = 12 ∧ 143 ≤ mX M ∧ mX M ≤ 193 ∧ mS M ≤ 10150 := by
  obtain ⟨h, j, r, E, rfl, G, F, l, W, b, C, D, _, _, _, _, ⟨nb, b0, _, _, b3, b4, _⟩, _⟩ := I
  exact ⟨K2 C.S, K113 C.S, C.S.2.2.1, by show E.2.2.1 ≤ 193; omega, by show E.2.2.2 ≤ 10150; omega⟩
theorem nIc {i c L : Nat} (h : i + 6 ≤ L) (hL : L ≤ 3072) (hc : c ≤ 5) : inb (nI i + nI c) L = True := by
  rw [nI_add, inb_n (by omega)]; exact eq_true (by omega)
theorem lcmp0 {a : Int64} : lg_cmp a a = 0 := by
  unfold lg_cmp
  rw [if_neg (Int64.lt_irrefl), if_pos rfl]
/-! ===== the script's calls (gen_law.py) ===== -/
section GA
variable {d i L : Nat} {M : Mem} {Q : Option PV → Mem → Prop}
theorem g_girl (hd : 60 ≤ d) (I : InvE M) (S : Scp L M) (hi : i + 6 ≤ L) (hL : L ≤ 3072) (nx : ∀ M', InvE M' → Scp L M' → WP (d + 1) 0 1496 [some (vr 1), some (vr 2), some (vr 113), some (vi (nI i))] [] M' Q) : WP (d + 1) 0 212 [some (vr 1), some (vr 2), some (vr 113), some (vi (nI i))] [] M Q := by
  obtain ⟨c2, c113, hX, _, _⟩ := I.ks
  have s1 := S.1
  have s2 := S.2
  have b1 : inb (nI i + 1) L = True := nIc (c := 1) hi hL (by decide)
  obtain ⟨h, j, r, E, eM, I⟩ := I
  simp only [k0_212, k0_213, k0_214, k0_215, k0_216, k0_217, k0_218, k0_221, k0_222, k0_223, k0_224, k0_225, k0_226, k0_227, k0_230, k0_233, k0_234, psh_s, psh_n, z_n, z_i, z_r, z_l, Nat.reduceAdd, Nat.reduceLeDiff, s1, s2, c2, b1]
  rw [eM]
  refine WP.mono (WP.sc (WP.deep (q_girl I) hd) (by rw [← eM]; exact s1) (by rw [← eM]; omega)) ?_
  rw [← eM]
  intro v1 M1 ⟨B, f1⟩
  obtain ⟨a, rfl⟩ : ∃ a, v1 = some (vi a) := WP.val B (fun _ _ h => h.2.1)
  have S1 := S.go (by omega) f1
  have c113' := (f1.2.1 113 (by omega)).trans c113
  have t1 := S1.1
  have t2 := S1.2
  have t3 := f1.1
  simp only [k0_212, k0_213, k0_214, k0_215, k0_216, k0_217, k0_218, k0_221, k0_222, k0_223, k0_224, k0_225, k0_226, k0_227, k0_230, k0_233, k0_234, psh_s, psh_n, z_n, z_i, z_r, z_l, Nat.reduceAdd, Nat.reduceLeDiff, t1, t2, t3, c113', b1]
  refine WP.mono (WP.sc (WP.deep B hd) t1 (Nat.le_trans (by omega) f1.2.2.2)) ?_
  intro v2 M2 ⟨⟨e2, _, I2⟩, f2⟩
  subst e2
  simp only [k0_212, k0_213, k0_214, k0_215, k0_216, k0_217, k0_218, k0_221, k0_222, k0_223, k0_224, k0_225, k0_226, k0_227, k0_230, k0_233, k0_234, psh_s, psh_n, eq_self, if_true]
  exact nx M2 I2 (S1.go (Nat.le_trans (by omega) f1.2.2.2) f2)
theorem g_frog (hd : 60 ≤ d) (I : InvE M) (S : Scp L M) (hi : i + 6 ≤ L) (hL : L ≤ 3072) (nx : ∀ M', InvE M' → Scp L M' → WP (d + 1) 0 1496 [some (vr 1), some (vr 2), some (vr 113), some (vi (nI i))] [] M' Q) : WP (d + 1) 0 235 [some (vr 1), some (vr 2), some (vr 113), some (vi (nI i))] [] M Q := by
  obtain ⟨c2, c113, hX, _, _⟩ := I.ks
  have s1 := S.1
  have s2 := S.2
  have b1 : inb (nI i + 1) L = True := nIc (c := 1) hi hL (by decide)
  have b2 : inb (nI i + 2) L = True := nIc (c := 2) hi hL (by decide)
  obtain ⟨h, j, r, E, eM, I⟩ := I
  simp only [k0_235, k0_236, k0_237, k0_238, k0_239, k0_240, k0_241, k0_242, k0_243, k0_244, k0_245, k0_246, k0_249, k0_250, k0_251, k0_252, k0_253, k0_254, k0_255, k0_256, k0_257, k0_258, k0_259, k0_260, k0_263, k0_266, k0_267, psh_s, psh_n, z_n, z_i, z_r, z_l, Nat.reduceAdd, Nat.reduceLeDiff, s1, s2, c2, b1, b2]
  rw [eM]
  refine WP.mono (WP.sc (WP.deep (q_frog I) hd) (by rw [← eM]; exact s1) (by rw [← eM]; omega)) ?_
  rw [← eM]
  intro v1 M1 ⟨B, f1⟩
  obtain ⟨a, rfl⟩ : ∃ a, v1 = some (vi a) := WP.val B (fun _ _ h => h.2.1)
  have S1 := S.go (by omega) f1
  have c113' := (f1.2.1 113 (by omega)).trans c113
  have t1 := S1.1
  have t2 := S1.2
  have t3 := f1.1
  simp only [k0_235, k0_236, k0_237, k0_238, k0_239, k0_240, k0_241, k0_242, k0_243, k0_244, k0_245, k0_246, k0_249, k0_250, k0_251, k0_252, k0_253, k0_254, k0_255, k0_256, k0_257, k0_258, k0_259, k0_260, k0_263, k0_266, k0_267, psh_s, psh_n, z_n, z_i, z_r, z_l, Nat.reduceAdd, Nat.reduceLeDiff, t1, t2, t3, c113', b1, b2]
  refine WP.mono (WP.sc (WP.deep B hd) t1 (Nat.le_trans (by omega) f1.2.2.2)) ?_
  intro v2 M2 ⟨⟨e2, _, I2⟩, f2⟩
  subst e2
  simp only [k0_235, k0_236, k0_237, k0_238, k0_239, k0_240, k0_241, k0_242, k0_243, k0_244, k0_245, k0_246, k0_249, k0_250, k0_251, k0_252, k0_253, k0_254, k0_255, k0_256, k0_257, k0_258, k0_259, k0_260, k0_263, k0_266, k0_267, psh_s, psh_n, eq_self, if_true]
  exact nx M2 I2 (S1.go (Nat.le_trans (by omega) f1.2.2.2) f2)
theorem g_frogs (hd : 60 ≤ d) (I : InvE M) (S : Scp L M) (hi : i + 6 ≤ L) (hL : L ≤ 3072) (nx : ∀ M', InvE M' → Scp L M' → WP (d + 1) 0 1496 [some (vr 1), some (vr 2), some (vr 113), some (vi (nI i))] [] M' Q) : WP (d + 1) 0 268 [some (vr 1), some (vr 2), some (vr 113), some (vi (nI i))] [] M Q := by
  obtain ⟨c2, c113, hX, _, _⟩ := I.ks
  have s1 := S.1
  have s2 := S.2
  have b1 : inb (nI i + 1) L = True := nIc (c := 1) hi hL (by decide)
  have b2 : inb (nI i + 2) L = True := nIc (c := 2) hi hL (by decide)
  have b3 : inb (nI i + 3) L = True := nIc (c := 3) hi hL (by decide)
  obtain ⟨h, j, r, E, eM, I⟩ := I
  simp only [k0_268, k0_269, k0_270, k0_271, k0_272, k0_273, k0_274, k0_275, k0_276, k0_277, k0_278, k0_279, k0_280, k0_281, k0_282, k0_283, k0_284, k0_287, k0_288, k0_289, k0_290, k0_291, k0_292, k0_293, k0_294, k0_295, k0_296, k0_297, k0_298, k0_299, k0_300, k0_301, k0_302, k0_303, k0_306, k0_309, k0_310, psh_s, psh_n, z_n, z_i, z_r, z_l, Nat.reduceAdd, Nat.reduceLeDiff, s1, s2, c2, b1, b2, b3]
  rw [eM]
  refine WP.mono (WP.sc (WP.deep (q_frogs I) hd) (by rw [← eM]; exact s1) (by rw [← eM]; omega)) ?_
  rw [← eM]
  intro v1 M1 ⟨B, f1⟩
  obtain ⟨a, rfl⟩ : ∃ a, v1 = some (vi a) := WP.val B (fun _ _ h => h.2.1)
  have S1 := S.go (by omega) f1
  have c113' := (f1.2.1 113 (by omega)).trans c113
  have t1 := S1.1
  have t2 := S1.2
  have t3 := f1.1
  simp only [k0_268, k0_269, k0_270, k0_271, k0_272, k0_273, k0_274, k0_275, k0_276, k0_277, k0_278, k0_279, k0_280, k0_281, k0_282, k0_283, k0_284, k0_287, k0_288, k0_289, k0_290, k0_291, k0_292, k0_293, k0_294, k0_295, k0_296, k0_297, k0_298, k0_299, k0_300, k0_301, k0_302, k0_303, k0_306, k0_309, k0_310, psh_s, psh_n, z_n, z_i, z_r, z_l, Nat.reduceAdd, Nat.reduceLeDiff, t1, t2, t3, c113', b1, b2, b3]
  refine WP.mono (WP.sc (WP.deep B hd) t1 (Nat.le_trans (by omega) f1.2.2.2)) ?_
  intro v2 M2 ⟨⟨e2, _, I2⟩, f2⟩
  subst e2
  simp only [k0_268, k0_269, k0_270, k0_271, k0_272, k0_273, k0_274, k0_275, k0_276, k0_277, k0_278, k0_279, k0_280, k0_281, k0_282, k0_283, k0_284, k0_287, k0_288, k0_289, k0_290, k0_291, k0_292, k0_293, k0_294, k0_295, k0_296, k0_297, k0_298, k0_299, k0_300, k0_301, k0_302, k0_303, k0_306, k0_309, k0_310, psh_s, psh_n, eq_self, if_true]
  exact nx M2 I2 (S1.go (Nat.le_trans (by omega) f1.2.2.2) f2)
theorem g_mend (hd : 60 ≤ d) (I : InvE M) (S : Scp L M) (hi : i + 6 ≤ L) (hL : L ≤ 3072) (nx : ∀ M', InvE M' → Scp L M' → WP (d + 1) 0 1496 [some (vr 1), some (vr 2), some (vr 113), some (vi (nI i))] [] M' Q) : WP (d + 1) 0 311 [some (vr 1), some (vr 2), some (vr 113), some (vi (nI i))] [] M Q := by
  obtain ⟨c2, c113, hX, _, _⟩ := I.ks
  have s1 := S.1
  have s2 := S.2
  have b1 : inb (nI i + 1) L = True := nIc (c := 1) hi hL (by decide)
  have b2 : inb (nI i + 2) L = True := nIc (c := 2) hi hL (by decide)
  have b3 : inb (nI i + 3) L = True := nIc (c := 3) hi hL (by decide)
  obtain ⟨h, j, r, E, eM, I⟩ := I
  simp only [k0_311, k0_312, k0_313, k0_314, k0_315, k0_316, k0_317, k0_318, k0_319, k0_320, k0_321, k0_322, k0_323, k0_324, k0_325, k0_326, k0_327, k0_330, k0_331, k0_332, k0_333, k0_334, k0_335, k0_336, k0_337, k0_338, k0_339, k0_340, k0_341, k0_342, k0_343, k0_344, k0_345, k0_346, k0_349, k0_352, k0_353, psh_s, psh_n, z_n, z_i, z_r, z_l, Nat.reduceAdd, Nat.reduceLeDiff, s1, s2, c2, b1, b2, b3]
  rw [eM]
  refine WP.mono (WP.sc (WP.deep (q_mend I) hd) (by rw [← eM]; exact s1) (by rw [← eM]; omega)) ?_
  rw [← eM]
  intro v1 M1 ⟨B, f1⟩
  obtain ⟨a, rfl⟩ : ∃ a, v1 = some (vi a) := WP.val B (fun _ _ h => h.2.1)
  have S1 := S.go (by omega) f1
  have c113' := (f1.2.1 113 (by omega)).trans c113
  have t1 := S1.1
  have t2 := S1.2
  have t3 := f1.1
  simp only [k0_311, k0_312, k0_313, k0_314, k0_315, k0_316, k0_317, k0_318, k0_319, k0_320, k0_321, k0_322, k0_323, k0_324, k0_325, k0_326, k0_327, k0_330, k0_331, k0_332, k0_333, k0_334, k0_335, k0_336, k0_337, k0_338, k0_339, k0_340, k0_341, k0_342, k0_343, k0_344, k0_345, k0_346, k0_349, k0_352, k0_353, psh_s, psh_n, z_n, z_i, z_r, z_l, Nat.reduceAdd, Nat.reduceLeDiff, t1, t2, t3, c113', b1, b2, b3]
  refine WP.mono (WP.sc (WP.deep B hd) t1 (Nat.le_trans (by omega) f1.2.2.2)) ?_
  intro v2 M2 ⟨⟨e2, _, I2⟩, f2⟩
  subst e2
  simp only [k0_311, k0_312, k0_313, k0_314, k0_315, k0_316, k0_317, k0_318, k0_319, k0_320, k0_321, k0_322, k0_323, k0_324, k0_325, k0_326, k0_327, k0_330, k0_331, k0_332, k0_333, k0_334, k0_335, k0_336, k0_337, k0_338, k0_339, k0_340, k0_341, k0_342, k0_343, k0_344, k0_345, k0_346, k0_349, k0_352, k0_353, psh_s, psh_n, eq_self, if_true]
  exact nx M2 I2 (S1.go (Nat.le_trans (by omega) f1.2.2.2) f2)
theorem g_of (hd : 60 ≤ d) (I : InvE M) (S : Scp L M) (hi : i + 6 ≤ L) (hL : L ≤ 3072) (nx : ∀ M', InvE M' → Scp L M' → WP (d + 1) 0 1496 [some (vr 1), some (vr 2), some (vr 113), some (vi (nI i))] [] M' Q) : WP (d + 1) 0 354 [some (vr 1), some (vr 2), some (vr 113), some (vi (nI i))] [] M Q := by
  obtain ⟨c2, c113, hX, _, _⟩ := I.ks
  have s1 := S.1
  have s2 := S.2
  have b1 : inb (nI i + 1) L = True := nIc (c := 1) hi hL (by decide)
  have b2 : inb (nI i + 2) L = True := nIc (c := 2) hi hL (by decide)
  obtain ⟨h, j, r, E, eM, I⟩ := I
  simp only [k0_354, k0_355, k0_356, k0_357, k0_358, k0_359, k0_360, k0_361, k0_362, k0_363, k0_364, k0_365, k0_368, k0_369, k0_370, k0_371, k0_372, k0_373, k0_374, k0_375, k0_376, k0_377, k0_378, k0_379, k0_382, k0_385, k0_386, psh_s, psh_n, z_n, z_i, z_r, z_l, Nat.reduceAdd, Nat.reduceLeDiff, s1, s2, c2, b1, b2]
  rw [eM]
  refine WP.mono (WP.sc (WP.deep (q_of I) hd) (by rw [← eM]; exact s1) (by rw [← eM]; omega)) ?_
  rw [← eM]
  intro v1 M1 ⟨B, f1⟩
  obtain ⟨a, rfl⟩ : ∃ a, v1 = some (vi a) := WP.val B (fun _ _ h => h.2.1)
  have S1 := S.go (by omega) f1
  have c113' := (f1.2.1 113 (by omega)).trans c113
  have t1 := S1.1
  have t2 := S1.2
  have t3 := f1.1
  simp only [k0_354, k0_355, k0_356, k0_357, k0_358, k0_359, k0_360, k0_361, k0_362, k0_363, k0_364, k0_365, k0_368, k0_369, k0_370, k0_371, k0_372, k0_373, k0_374, k0_375, k0_376, k0_377, k0_378, k0_379, k0_382, k0_385, k0_386, psh_s, psh_n, z_n, z_i, z_r, z_l, Nat.reduceAdd, Nat.reduceLeDiff, t1, t2, t3, c113', b1, b2]
  refine WP.mono (WP.sc (WP.deep B hd) t1 (Nat.le_trans (by omega) f1.2.2.2)) ?_
  intro v2 M2 ⟨⟨e2, _, I2⟩, f2⟩
  subst e2
  simp only [k0_354, k0_355, k0_356, k0_357, k0_358, k0_359, k0_360, k0_361, k0_362, k0_363, k0_364, k0_365, k0_368, k0_369, k0_370, k0_371, k0_372, k0_373, k0_374, k0_375, k0_376, k0_377, k0_378, k0_379, k0_382, k0_385, k0_386, psh_s, psh_n, eq_self, if_true]
  exact nx M2 I2 (S1.go (Nat.le_trans (by omega) f1.2.2.2) f2)
theorem g_feed (hd : 60 ≤ d) (I : InvE M) (S : Scp L M) (hi : i + 6 ≤ L) (hL : L ≤ 3072) (nx : ∀ M', InvE M' → Scp L M' → WP (d + 1) 0 1496 [some (vr 1), some (vr 2), some (vr 113), some (vi (nI i))] [] M' Q) : WP (d + 1) 0 387 [some (vr 1), some (vr 2), some (vr 113), some (vi (nI i))] [] M Q := by
  obtain ⟨c2, c113, hX, _, _⟩ := I.ks
  have s1 := S.1
  have s2 := S.2
  have b1 : inb (nI i + 1) L = True := nIc (c := 1) hi hL (by decide)
  obtain ⟨h, j, r, E, eM, I⟩ := I
  simp only [k0_387, k0_388, k0_389, k0_390, k0_391, k0_392, k0_393, k0_396, k0_397, k0_398, k0_399, k0_400, k0_401, k0_402, k0_405, k0_408, k0_409, psh_s, psh_n, z_n, z_i, z_r, z_l, Nat.reduceAdd, Nat.reduceLeDiff, s1, s2, c2, b1]
  rw [eM]
  refine WP.mono (WP.sc (WP.deep (q_feed I) hd) (by rw [← eM]; exact s1) (by rw [← eM]; omega)) ?_
  rw [← eM]
  intro v1 M1 ⟨B, f1⟩
  obtain ⟨a, rfl⟩ : ∃ a, v1 = some (vi a) := WP.val B (fun _ _ h => h.2.1)
  have S1 := S.go (by omega) f1
  have c113' := (f1.2.1 113 (by omega)).trans c113
  have t1 := S1.1
  have t2 := S1.2
  have t3 := f1.1
  simp only [k0_387, k0_388, k0_389, k0_390, k0_391, k0_392, k0_393, k0_396, k0_397, k0_398, k0_399, k0_400, k0_401, k0_402, k0_405, k0_408, k0_409, psh_s, psh_n, z_n, z_i, z_r, z_l, Nat.reduceAdd, Nat.reduceLeDiff, t1, t2, t3, c113', b1]
  refine WP.mono (WP.sc (WP.deep B hd) t1 (Nat.le_trans (by omega) f1.2.2.2)) ?_
  intro v2 M2 ⟨⟨e2, _, I2⟩, f2⟩
  subst e2
  simp only [k0_387, k0_388, k0_389, k0_390, k0_391, k0_392, k0_393, k0_396, k0_397, k0_398, k0_399, k0_400, k0_401, k0_402, k0_405, k0_408, k0_409, psh_s, psh_n, eq_self, if_true]
  exact nx M2 I2 (S1.go (Nat.le_trans (by omega) f1.2.2.2) f2)
theorem g_law (hd : 60 ≤ d) (I : InvE M) (S : Scp L M) (hi : i + 6 ≤ L) (hL : L ≤ 3072) (nx : ∀ M', InvE M' → Scp L M' → WP (d + 1) 0 1496 [some (vr 1), some (vr 2), some (vr 113), some (vi (nI i))] [] M' Q) : WP (d + 1) 0 410 [some (vr 1), some (vr 2), some (vr 113), some (vi (nI i))] [] M Q := by
  obtain ⟨c2, c113, hX, _, _⟩ := I.ks
  have s1 := S.1
  have s2 := S.2
  obtain ⟨h, j, r, E, eM, I⟩ := I
  simp only [k0_410, k0_411, k0_414, k0_415, k0_418, k0_421, k0_422, psh_s, psh_n, z_n, z_i, z_r, z_l, Nat.reduceAdd, Nat.reduceLeDiff, s1, s2, c2]
  rw [eM]
  refine WP.mono (WP.sc (WP.deep (q_law I) hd) (by rw [← eM]; exact s1) (by rw [← eM]; omega)) ?_
  rw [← eM]
  intro v1 M1 ⟨B, f1⟩
  obtain ⟨a, rfl⟩ : ∃ a, v1 = some (vi a) := WP.val B (fun _ _ h => h.2.1)
  have S1 := S.go (by omega) f1
  have c113' := (f1.2.1 113 (by omega)).trans c113
  have t1 := S1.1
  have t2 := S1.2
  have t3 := f1.1
  simp only [k0_410, k0_411, k0_414, k0_415, k0_418, k0_421, k0_422, psh_s, psh_n, z_n, z_i, z_r, z_l, Nat.reduceAdd, Nat.reduceLeDiff, t1, t2, t3, c113']
  refine WP.mono (WP.sc (WP.deep B hd) t1 (Nat.le_trans (by omega) f1.2.2.2)) ?_
  intro v2 M2 ⟨⟨e2, _, I2⟩, f2⟩
  subst e2
  simp only [k0_410, k0_411, k0_414, k0_415, k0_418, k0_421, k0_422, psh_s, psh_n, eq_self, if_true]
  exact nx M2 I2 (S1.go (Nat.le_trans (by omega) f1.2.2.2) f2)
theorem g_loses (hd : 60 ≤ d) (I : InvE M) (S : Scp L M) (hi : i + 6 ≤ L) (hL : L ≤ 3072) (nx : ∀ M', InvE M' → Scp L M' → WP (d + 1) 0 1496 [some (vr 1), some (vr 2), some (vr 113), some (vi (nI i))] [] M' Q) : WP (d + 1) 0 423 [some (vr 1), some (vr 2), some (vr 113), some (vi (nI i))] [] M Q := by
  obtain ⟨c2, c113, hX, _, _⟩ := I.ks
  have s1 := S.1
  have s2 := S.2
  have b1 : inb (nI i + 1) L = True := nIc (c := 1) hi hL (by decide)
  obtain ⟨h, j, r, E, eM, I⟩ := I
  simp only [k0_423, k0_424, k0_425, k0_426, k0_427, k0_428, k0_429, k0_432, k0_433, k0_434, k0_435, k0_436, k0_437, k0_438, k0_441, k0_444, k0_445, psh_s, psh_n, z_n, z_i, z_r, z_l, Nat.reduceAdd, Nat.reduceLeDiff, s1, s2, c2, b1]
  rw [eM]
  refine WP.mono (WP.sc (WP.deep (q_loses I) hd) (by rw [← eM]; exact s1) (by rw [← eM]; omega)) ?_
  rw [← eM]
  intro v1 M1 ⟨B, f1⟩
  obtain ⟨a, rfl⟩ : ∃ a, v1 = some (vi a) := WP.val B (fun _ _ h => h.2.1)
  have S1 := S.go (by omega) f1
  have c113' := (f1.2.1 113 (by omega)).trans c113
  have t1 := S1.1
  have t2 := S1.2
  have t3 := f1.1
  simp only [k0_423, k0_424, k0_425, k0_426, k0_427, k0_428, k0_429, k0_432, k0_433, k0_434, k0_435, k0_436, k0_437, k0_438, k0_441, k0_444, k0_445, psh_s, psh_n, z_n, z_i, z_r, z_l, Nat.reduceAdd, Nat.reduceLeDiff, t1, t2, t3, c113', b1]
  refine WP.mono (WP.sc (WP.deep B hd) t1 (Nat.le_trans (by omega) f1.2.2.2)) ?_
  intro v2 M2 ⟨⟨e2, _, I2⟩, f2⟩
  subst e2
  simp only [k0_423, k0_424, k0_425, k0_426, k0_427, k0_428, k0_429, k0_432, k0_433, k0_434, k0_435, k0_436, k0_437, k0_438, k0_441, k0_444, k0_445, psh_s, psh_n, eq_self, if_true]
  exact nx M2 I2 (S1.go (Nat.le_trans (by omega) f1.2.2.2) f2)
theorem g_later (hd : 60 ≤ d) (I : InvE M) (S : Scp L M) (hi : i + 6 ≤ L) (hL : L ≤ 3072) (nx : ∀ M', InvE M' → Scp L M' → WP (d + 1) 0 1496 [some (vr 1), some (vr 2), some (vr 113), some (vi (nI i))] [] M' Q) : WP (d + 1) 0 446 [some (vr 1), some (vr 2), some (vr 113), some (vi (nI i))] [] M Q := by
  obtain ⟨c2, c113, hX, _, _⟩ := I.ks
  have s1 := S.1
  have s2 := S.2
  have b1 : inb (nI i + 1) L = True := nIc (c := 1) hi hL (by decide)
  have b2 : inb (nI i + 2) L = True := nIc (c := 2) hi hL (by decide)
  have b3 : inb (nI i + 3) L = True := nIc (c := 3) hi hL (by decide)
  obtain ⟨h, j, r, E, eM, I⟩ := I
  simp only [k0_446, k0_447, k0_448, k0_449, k0_450, k0_451, k0_452, k0_453, k0_454, k0_455, k0_456, k0_457, k0_458, k0_459, k0_460, k0_461, k0_462, k0_465, k0_466, k0_467, k0_468, k0_469, k0_470, k0_471, k0_472, k0_473, k0_474, k0_475, k0_476, k0_477, k0_478, k0_479, k0_480, k0_481, k0_484, k0_487, k0_488, psh_s, psh_n, z_n, z_i, z_r, z_l, Nat.reduceAdd, Nat.reduceLeDiff, s1, s2, c2, b1, b2, b3]
  rw [eM]
  refine WP.mono (WP.sc (WP.deep (q_later I) hd) (by rw [← eM]; exact s1) (by rw [← eM]; omega)) ?_
  rw [← eM]
  intro v1 M1 ⟨B, f1⟩
  obtain ⟨a, rfl⟩ : ∃ a, v1 = some (vi a) := WP.val B (fun _ _ h => h.2.1)
  have S1 := S.go (by omega) f1
  have c113' := (f1.2.1 113 (by omega)).trans c113
  have t1 := S1.1
  have t2 := S1.2
  have t3 := f1.1
  simp only [k0_446, k0_447, k0_448, k0_449, k0_450, k0_451, k0_452, k0_453, k0_454, k0_455, k0_456, k0_457, k0_458, k0_459, k0_460, k0_461, k0_462, k0_465, k0_466, k0_467, k0_468, k0_469, k0_470, k0_471, k0_472, k0_473, k0_474, k0_475, k0_476, k0_477, k0_478, k0_479, k0_480, k0_481, k0_484, k0_487, k0_488, psh_s, psh_n, z_n, z_i, z_r, z_l, Nat.reduceAdd, Nat.reduceLeDiff, t1, t2, t3, c113', b1, b2, b3]
  refine WP.mono (WP.sc (WP.deep B hd) t1 (Nat.le_trans (by omega) f1.2.2.2)) ?_
  intro v2 M2 ⟨⟨e2, _, I2⟩, f2⟩
  subst e2
  simp only [k0_446, k0_447, k0_448, k0_449, k0_450, k0_451, k0_452, k0_453, k0_454, k0_455, k0_456, k0_457, k0_458, k0_459, k0_460, k0_461, k0_462, k0_465, k0_466, k0_467, k0_468, k0_469, k0_470, k0_471, k0_472, k0_473, k0_474, k0_475, k0_476, k0_477, k0_478, k0_479, k0_480, k0_481, k0_484, k0_487, k0_488, psh_s, psh_n, eq_self, if_true]
  exact nx M2 I2 (S1.go (Nat.le_trans (by omega) f1.2.2.2) f2)
theorem g_marsh (hd : 60 ≤ d) (I : InvE M) (S : Scp L M) (hi : i + 6 ≤ L) (hL : L ≤ 3072) (nx : ∀ M', InvE M' → Scp L M' → WP (d + 1) 0 1496 [some (vr 1), some (vr 2), some (vr 113), some (vi (nI i))] [] M' Q) : WP (d + 1) 0 489 [some (vr 1), some (vr 2), some (vr 113), some (vi (nI i))] [] M Q := by
  obtain ⟨c2, c113, hX, _, _⟩ := I.ks
  have s1 := S.1
  have s2 := S.2
  have b1 : inb (nI i + 1) L = True := nIc (c := 1) hi hL (by decide)
  have b2 : inb (nI i + 2) L = True := nIc (c := 2) hi hL (by decide)
  obtain ⟨h, j, r, E, eM, I⟩ := I
  simp only [k0_489, k0_490, k0_491, k0_492, k0_493, k0_494, k0_495, k0_496, k0_497, k0_498, k0_499, k0_500, k0_503, k0_504, k0_505, k0_506, k0_507, k0_508, k0_509, k0_510, k0_511, k0_512, k0_513, k0_514, k0_517, k0_520, k0_521, psh_s, psh_n, z_n, z_i, z_r, z_l, Nat.reduceAdd, Nat.reduceLeDiff, s1, s2, c2, b1, b2]
  rw [eM]
  refine WP.mono (WP.sc (WP.deep (q_marsh I) hd) (by rw [← eM]; exact s1) (by rw [← eM]; omega)) ?_
  rw [← eM]
  intro v1 M1 ⟨B, f1⟩
  obtain ⟨a, rfl⟩ : ∃ a, v1 = some (vi a) := WP.val B (fun _ _ h => h.2.1)
  have S1 := S.go (by omega) f1
  have c113' := (f1.2.1 113 (by omega)).trans c113
  have t1 := S1.1
  have t2 := S1.2
  have t3 := f1.1
  simp only [k0_489, k0_490, k0_491, k0_492, k0_493, k0_494, k0_495, k0_496, k0_497, k0_498, k0_499, k0_500, k0_503, k0_504, k0_505, k0_506, k0_507, k0_508, k0_509, k0_510, k0_511, k0_512, k0_513, k0_514, k0_517, k0_520, k0_521, psh_s, psh_n, z_n, z_i, z_r, z_l, Nat.reduceAdd, Nat.reduceLeDiff, t1, t2, t3, c113', b1, b2]
  refine WP.mono (WP.sc (WP.deep B hd) t1 (Nat.le_trans (by omega) f1.2.2.2)) ?_
  intro v2 M2 ⟨⟨e2, _, I2⟩, f2⟩
  subst e2
  simp only [k0_489, k0_490, k0_491, k0_492, k0_493, k0_494, k0_495, k0_496, k0_497, k0_498, k0_499, k0_500, k0_503, k0_504, k0_505, k0_506, k0_507, k0_508, k0_509, k0_510, k0_511, k0_512, k0_513, k0_514, k0_517, k0_520, k0_521, psh_s, psh_n, eq_self, if_true]
  exact nx M2 I2 (S1.go (Nat.le_trans (by omega) f1.2.2.2) f2)
theorem g_backWhen (hd : 60 ≤ d) (I : InvE M) (S : Scp L M) (hi : i + 6 ≤ L) (hL : L ≤ 3072) (nx : ∀ M', InvE M' → Scp L M' → WP (d + 1) 0 1496 [some (vr 1), some (vr 2), some (vr 113), some (vi (nI i))] [] M' Q) : WP (d + 1) 0 522 [some (vr 1), some (vr 2), some (vr 113), some (vi (nI i))] [] M Q := by
  obtain ⟨c2, c113, hX, _, _⟩ := I.ks
  have s1 := S.1
  have s2 := S.2
  have b1 : inb (nI i + 1) L = True := nIc (c := 1) hi hL (by decide)
  obtain ⟨h, j, r, E, eM, I⟩ := I
  simp only [k0_522, k0_523, k0_524, k0_525, k0_526, k0_527, k0_528, k0_531, k0_532, k0_533, k0_534, k0_535, k0_536, k0_537, k0_540, k0_543, k0_544, psh_s, psh_n, z_n, z_i, z_r, z_l, Nat.reduceAdd, Nat.reduceLeDiff, s1, s2, c2, b1]
  rw [eM]
  refine WP.mono (WP.sc (WP.deep (q_backWhen I) hd) (by rw [← eM]; exact s1) (by rw [← eM]; omega)) ?_
  rw [← eM]
  intro v1 M1 ⟨B, f1⟩
  obtain ⟨a, rfl⟩ : ∃ a, v1 = some (vi a) := WP.val B (fun _ _ h => h.2.1)
  have S1 := S.go (by omega) f1
  have c113' := (f1.2.1 113 (by omega)).trans c113
  have t1 := S1.1
  have t2 := S1.2
  have t3 := f1.1
  simp only [k0_522, k0_523, k0_524, k0_525, k0_526, k0_527, k0_528, k0_531, k0_532, k0_533, k0_534, k0_535, k0_536, k0_537, k0_540, k0_543, k0_544, psh_s, psh_n, z_n, z_i, z_r, z_l, Nat.reduceAdd, Nat.reduceLeDiff, t1, t2, t3, c113', b1]
  refine WP.mono (WP.sc (WP.deep B hd) t1 (Nat.le_trans (by omega) f1.2.2.2)) ?_
  intro v2 M2 ⟨⟨e2, _, I2⟩, f2⟩
  subst e2
  simp only [k0_522, k0_523, k0_524, k0_525, k0_526, k0_527, k0_528, k0_531, k0_532, k0_533, k0_534, k0_535, k0_536, k0_537, k0_540, k0_543, k0_544, psh_s, psh_n, eq_self, if_true]
  exact nx M2 I2 (S1.go (Nat.le_trans (by omega) f1.2.2.2) f2)
theorem g_loan (hd : 60 ≤ d) (I : InvE M) (S : Scp L M) (hi : i + 6 ≤ L) (hL : L ≤ 3072) (nx : ∀ M', InvE M' → Scp L M' → WP (d + 1) 0 1496 [some (vr 1), some (vr 2), some (vr 113), some (vi (nI i))] [] M' Q) : WP (d + 1) 0 545 [some (vr 1), some (vr 2), some (vr 113), some (vi (nI i))] [] M Q := by
  obtain ⟨c2, c113, hX, _, _⟩ := I.ks
  have s1 := S.1
  have s2 := S.2
  have b1 : inb (nI i + 1) L = True := nIc (c := 1) hi hL (by decide)
  have b2 : inb (nI i + 2) L = True := nIc (c := 2) hi hL (by decide)
  have b3 : inb (nI i + 3) L = True := nIc (c := 3) hi hL (by decide)
  obtain ⟨h, j, r, E, eM, I⟩ := I
  simp only [k0_545, k0_546, k0_547, k0_548, k0_549, k0_550, k0_551, k0_552, k0_553, k0_554, k0_555, k0_556, k0_557, k0_558, k0_559, k0_560, k0_561, k0_564, k0_565, k0_566, k0_567, k0_568, k0_569, k0_570, k0_571, k0_572, k0_573, k0_574, k0_575, k0_576, k0_577, k0_578, k0_579, k0_580, k0_583, k0_586, k0_587, psh_s, psh_n, z_n, z_i, z_r, z_l, Nat.reduceAdd, Nat.reduceLeDiff, s1, s2, c2, b1, b2, b3]
  rw [eM]
  refine WP.mono (WP.sc (WP.deep (q_loan I) hd) (by rw [← eM]; exact s1) (by rw [← eM]; omega)) ?_
  rw [← eM]
  intro v1 M1 ⟨B, f1⟩
  obtain ⟨a, rfl⟩ : ∃ a, v1 = some (vi a) := WP.val B (fun _ _ h => h.2.1)
  have S1 := S.go (by omega) f1
  have c113' := (f1.2.1 113 (by omega)).trans c113
  have t1 := S1.1
  have t2 := S1.2
  have t3 := f1.1
  simp only [k0_545, k0_546, k0_547, k0_548, k0_549, k0_550, k0_551, k0_552, k0_553, k0_554, k0_555, k0_556, k0_557, k0_558, k0_559, k0_560, k0_561, k0_564, k0_565, k0_566, k0_567, k0_568, k0_569, k0_570, k0_571, k0_572, k0_573, k0_574, k0_575, k0_576, k0_577, k0_578, k0_579, k0_580, k0_583, k0_586, k0_587, psh_s, psh_n, z_n, z_i, z_r, z_l, Nat.reduceAdd, Nat.reduceLeDiff, t1, t2, t3, c113', b1, b2, b3]
  refine WP.mono (WP.sc (WP.deep B hd) t1 (Nat.le_trans (by omega) f1.2.2.2)) ?_
  intro v2 M2 ⟨⟨e2, _, I2⟩, f2⟩
  subst e2
  simp only [k0_545, k0_546, k0_547, k0_548, k0_549, k0_550, k0_551, k0_552, k0_553, k0_554, k0_555, k0_556, k0_557, k0_558, k0_559, k0_560, k0_561, k0_564, k0_565, k0_566, k0_567, k0_568, k0_569, k0_570, k0_571, k0_572, k0_573, k0_574, k0_575, k0_576, k0_577, k0_578, k0_579, k0_580, k0_583, k0_586, k0_587, psh_s, psh_n, eq_self, if_true]
  exact nx M2 I2 (S1.go (Nat.le_trans (by omega) f1.2.2.2) f2)
theorem g_best (hd : 60 ≤ d) (I : InvE M) (S : Scp L M) (hi : i + 6 ≤ L) (hL : L ≤ 3072) (nx : ∀ M', InvE M' → Scp L M' → WP (d + 1) 0 1496 [some (vr 1), some (vr 2), some (vr 113), some (vi (nI i))] [] M' Q) : WP (d + 1) 0 588 [some (vr 1), some (vr 2), some (vr 113), some (vi (nI i))] [] M Q := by
  obtain ⟨c2, c113, hX, _, _⟩ := I.ks
  have s1 := S.1
  have s2 := S.2
  have b1 : inb (nI i + 1) L = True := nIc (c := 1) hi hL (by decide)
  have b2 : inb (nI i + 2) L = True := nIc (c := 2) hi hL (by decide)
  have b3 : inb (nI i + 3) L = True := nIc (c := 3) hi hL (by decide)
  obtain ⟨h, j, r, E, eM, I⟩ := I
  simp only [k0_588, k0_589, k0_590, k0_591, k0_592, k0_593, k0_594, k0_595, k0_596, k0_597, k0_598, k0_599, k0_600, k0_601, k0_602, k0_603, k0_604, k0_607, k0_608, k0_609, k0_610, k0_611, k0_612, k0_613, k0_614, k0_615, k0_616, k0_617, k0_618, k0_619, k0_620, k0_621, k0_622, k0_623, k0_626, k0_629, k0_630, psh_s, psh_n, z_n, z_i, z_r, z_l, Nat.reduceAdd, Nat.reduceLeDiff, s1, s2, c2, b1, b2, b3]
  rw [eM]
  refine WP.mono (WP.sc (WP.deep (q_best I) hd) (by rw [← eM]; exact s1) (by rw [← eM]; omega)) ?_
  rw [← eM]
  intro v1 M1 ⟨B, f1⟩
  obtain ⟨a, rfl⟩ : ∃ a, v1 = some (vi a) := WP.val B (fun _ _ h => h.2.1)
  have S1 := S.go (by omega) f1
  have c113' := (f1.2.1 113 (by omega)).trans c113
  have t1 := S1.1
  have t2 := S1.2
  have t3 := f1.1
  simp only [k0_588, k0_589, k0_590, k0_591, k0_592, k0_593, k0_594, k0_595, k0_596, k0_597, k0_598, k0_599, k0_600, k0_601, k0_602, k0_603, k0_604, k0_607, k0_608, k0_609, k0_610, k0_611, k0_612, k0_613, k0_614, k0_615, k0_616, k0_617, k0_618, k0_619, k0_620, k0_621, k0_622, k0_623, k0_626, k0_629, k0_630, psh_s, psh_n, z_n, z_i, z_r, z_l, Nat.reduceAdd, Nat.reduceLeDiff, t1, t2, t3, c113', b1, b2, b3]
  refine WP.mono (WP.sc (WP.deep B hd) t1 (Nat.le_trans (by omega) f1.2.2.2)) ?_
  intro v2 M2 ⟨⟨e2, _, I2⟩, f2⟩
  subst e2
  simp only [k0_588, k0_589, k0_590, k0_591, k0_592, k0_593, k0_594, k0_595, k0_596, k0_597, k0_598, k0_599, k0_600, k0_601, k0_602, k0_603, k0_604, k0_607, k0_608, k0_609, k0_610, k0_611, k0_612, k0_613, k0_614, k0_615, k0_616, k0_617, k0_618, k0_619, k0_620, k0_621, k0_622, k0_623, k0_626, k0_629, k0_630, psh_s, psh_n, eq_self, if_true]
  exact nx M2 I2 (S1.go (Nat.le_trans (by omega) f1.2.2.2) f2)
theorem g_dealt (hd : 60 ≤ d) (I : InvE M) (S : Scp L M) (hi : i + 6 ≤ L) (hL : L ≤ 3072) (nx : ∀ M', InvE M' → Scp L M' → WP (d + 1) 0 1496 [some (vr 1), some (vr 2), some (vr 113), some (vi (nI i))] [] M' Q) : WP (d + 1) 0 631 [some (vr 1), some (vr 2), some (vr 113), some (vi (nI i))] [] M Q := by
  obtain ⟨c2, c113, hX, _, _⟩ := I.ks
  have s1 := S.1
  have s2 := S.2
  have b1 : inb (nI i + 1) L = True := nIc (c := 1) hi hL (by decide)
  have b2 : inb (nI i + 2) L = True := nIc (c := 2) hi hL (by decide)
  obtain ⟨h, j, r, E, eM, I⟩ := I
  simp only [k0_631, k0_632, k0_633, k0_634, k0_635, k0_636, k0_637, k0_638, k0_639, k0_640, k0_641, k0_642, k0_645, k0_646, k0_647, k0_648, k0_649, k0_650, k0_651, k0_652, k0_653, k0_654, k0_655, k0_656, k0_659, k0_662, k0_663, psh_s, psh_n, z_n, z_i, z_r, z_l, Nat.reduceAdd, Nat.reduceLeDiff, s1, s2, c2, b1, b2]
  rw [eM]
  refine WP.mono (WP.sc (WP.deep (q_dealt I) hd) (by rw [← eM]; exact s1) (by rw [← eM]; omega)) ?_
  rw [← eM]
  intro v1 M1 ⟨B, f1⟩
  obtain ⟨a, rfl⟩ : ∃ a, v1 = some (vi a) := WP.val B (fun _ _ h => h.2.1)
  have S1 := S.go (by omega) f1
  have c113' := (f1.2.1 113 (by omega)).trans c113
  have t1 := S1.1
  have t2 := S1.2
  have t3 := f1.1
  simp only [k0_631, k0_632, k0_633, k0_634, k0_635, k0_636, k0_637, k0_638, k0_639, k0_640, k0_641, k0_642, k0_645, k0_646, k0_647, k0_648, k0_649, k0_650, k0_651, k0_652, k0_653, k0_654, k0_655, k0_656, k0_659, k0_662, k0_663, psh_s, psh_n, z_n, z_i, z_r, z_l, Nat.reduceAdd, Nat.reduceLeDiff, t1, t2, t3, c113', b1, b2]
  refine WP.mono (WP.sc (WP.deep B hd) t1 (Nat.le_trans (by omega) f1.2.2.2)) ?_
  intro v2 M2 ⟨⟨e2, _, I2⟩, f2⟩
  subst e2
  simp only [k0_631, k0_632, k0_633, k0_634, k0_635, k0_636, k0_637, k0_638, k0_639, k0_640, k0_641, k0_642, k0_645, k0_646, k0_647, k0_648, k0_649, k0_650, k0_651, k0_652, k0_653, k0_654, k0_655, k0_656, k0_659, k0_662, k0_663, psh_s, psh_n, eq_self, if_true]
  exact nx M2 I2 (S1.go (Nat.le_trans (by omega) f1.2.2.2) f2)
end GA
