/-! ===== a constructor, piece 7 (gen_new.py) ===== -/
def rl_144_7 : List (Nat × Nat × Nat) := [(113, 37, 135), (113, 36, 134), (113, 35, 133), (113, 34, 132), (113, 32, 131), (113, 30, 130), (113, 27, 129), (113, 26, 128), (113, 22, 127), (113, 21, 126), (113, 20, 125), (113, 19, 124), (113, 18, 123), (113, 17, 122), (113, 16, 121), (113, 11, 120), (113, 10, 119), (113, 9, 118), (113, 8, 117), (113, 5, 116), (113, 3, 115), (113, 2, 114), (100, 5, 111), (111, 0, 112), (100, 4, 109), (109, 0, 110), (100, 3, 107), (107, 0, 108), (100, 2, 105), (105, 0, 106), (100, 1, 103), (103, 0, 104), (100, 0, 101), (101, 0, 102), (2, 16, 100), (2, 15, 99), (2, 13, 98), (2, 12, 88)] ++ ((List.range 9).map (fun c => (88, c, 88 + 1 + c)) ++ ([(2, 11, 79)] ++ ((List.range 8).map (fun c => (79, c, 79 + 1 + c)) ++ ([(2, 8, 38)] ++ ((List.range 40).map (fun c => (38, c, 38 + 1 + c)) ++ ([(2, 6, 37), (2, 5, 32), (32, 3, 36), (32, 2, 35), (32, 1, 34), (32, 0, 33), (2, 4, 27), (27, 3, 31), (27, 2, 30), (27, 1, 29), (27, 0, 28), (2, 2, 19), (19, 6, 26), (19, 5, 25), (19, 4, 24), (19, 3, 23), (19, 2, 22), (19, 1, 21), (19, 0, 20), (2, 1, 11), (11, 6, 18), (11, 5, 17), (11, 4, 16), (11, 3, 15), (11, 2, 14), (11, 1, 13), (11, 0, 12), (2, 0, 3), (3, 6, 10), (3, 5, 9), (3, 4, 8), (3, 3, 7), (3, 2, 6), (3, 1, 5), (3, 0, 4)]))))))
def ih_144_7 : List (Nat × Nat × Int32) := [(111, 2, -1), (109, 2, -1), (107, 2, -1), (105, 2, -1), (103, 2, -1), (101, 2, -1), (19, 9, 5), (11, 9, 5), (3, 9, 5)]
def rl_144_7e : List (Nat × Nat × Nat) := [(113, 47, 142), (113, 45, 141), (113, 44, 140), (113, 43, 139), (113, 42, 138), (113, 41, 137), (113, 40, 136), (113, 37, 135), (113, 36, 134), (113, 35, 133), (113, 34, 132), (113, 32, 131), (113, 30, 130), (113, 27, 129), (113, 26, 128), (113, 22, 127), (113, 21, 126), (113, 20, 125), (113, 19, 124), (113, 18, 123), (113, 17, 122), (113, 16, 121), (113, 11, 120), (113, 10, 119), (113, 9, 118), (113, 8, 117), (113, 5, 116), (113, 3, 115), (113, 2, 114), (100, 5, 111), (111, 0, 112), (100, 4, 109), (109, 0, 110), (100, 3, 107), (107, 0, 108), (100, 2, 105), (105, 0, 106), (100, 1, 103), (103, 0, 104), (100, 0, 101), (101, 0, 102), (2, 16, 100), (2, 15, 99), (2, 13, 98), (2, 12, 88)] ++ ((List.range 9).map (fun c => (88, c, 88 + 1 + c)) ++ ([(2, 11, 79)] ++ ((List.range 8).map (fun c => (79, c, 79 + 1 + c)) ++ ([(2, 8, 38)] ++ ((List.range 40).map (fun c => (38, c, 38 + 1 + c)) ++ ([(2, 6, 37), (2, 5, 32), (32, 3, 36), (32, 2, 35), (32, 1, 34), (32, 0, 33), (2, 4, 27), (27, 3, 31), (27, 2, 30), (27, 1, 29), (27, 0, 28), (2, 2, 19), (19, 6, 26), (19, 5, 25), (19, 4, 24), (19, 3, 23), (19, 2, 22), (19, 1, 21), (19, 0, 20), (2, 1, 11), (11, 6, 18), (11, 5, 17), (11, 4, 16), (11, 3, 15), (11, 2, 14), (11, 1, 13), (11, 0, 12), (2, 0, 3), (3, 6, 10), (3, 5, 9), (3, 4, 8), (3, 3, 7), (3, 2, 6), (3, 1, 5), (3, 0, 4)]))))))
def ih_144_7e : List (Nat × Nat × Int32) := [(133, 5, -1), (133, 4, -1), (133, 3, -1), (133, 2, -1), (133, 1, -1), (133, 0, -1), (115, 0, 5), (111, 2, -1), (109, 2, -1), (107, 2, -1), (105, 2, -1), (103, 2, -1), (101, 2, -1), (19, 9, 5), (11, 9, 5), (3, 9, 5)]
set_option maxRecDepth 20000 in
theorem n144_7 {d : Nat} {h : Hp} {j : Jp} {r : Rp} {E : EE} {Q : Option PV → Mem → Prop} (G : GM 136 5971 rl_144_7 ih_144_7 h j r E) (hQ : ∀ h j r E, GM 143 6223 rl_144_7e ih_144_7e h j r E → Q none (mm h j r E)) : WP (d + 1) 144 182 [some (vr 113), none] [] (mm h j r E) Q := by
  rw [k144_182, k144_183, k144_185 (by decide), show ix (33 : Int32) = 33 from rfl, G.mX]
  refine gm_nw G rfl rfl ?_
  intro h j r E G
  rw [k144_187 (G.kd (a := 113) (by decide) (by decide) (k := 12) rfl)]
  refine gm_sR G (by decide) ?_
  intro r G
  rw [k144_190, k144_191, k144_193 (by decide), show ix (33 : Int32) = 33 from rfl, G.mX]
  refine gm_nw G rfl rfl ?_
  intro h j r E G
  rw [k144_195 (G.kd (a := 113) (by decide) (by decide) (k := 12) rfl)]
  refine gm_sR G (by decide) ?_
  intro r G
  rw [k144_198, k144_199, k144_200 (by decide), show ix (2 : Int32) = 2 from rfl, G.mX]
  refine gm_nw G rfl rfl ?_
  intro h j r E G
  rw [k144_202 (G.kd (a := 113) (by decide) (by decide) (k := 12) rfl)]
  refine gm_sR G (by decide) ?_
  intro r G
  rw [k144_205, k144_206, k144_208 (by decide), show ix (64 : Int32) = 64 from rfl, G.mX]
  refine gm_nw G rfl rfl ?_
  intro h j r E G
  rw [k144_210 (G.kd (a := 113) (by decide) (by decide) (k := 12) rfl)]
  refine gm_sR G (by decide) ?_
  intro r G
  rw [k144_213, k144_214, k144_216 (by decide), show ix (8 : Int32) = 8 from rfl, G.mX]
  refine gm_nw G rfl rfl ?_
  intro h j r E G
  rw [k144_218 (G.kd (a := 113) (by decide) (by decide) (k := 12) rfl)]
  refine gm_sR G (by decide) ?_
  intro r G
  rw [k144_221, k144_222, k144_224 (by decide), show ix (8 : Int32) = 8 from rfl, G.mX]
  refine gm_nw G rfl rfl ?_
  intro h j r E G
  rw [k144_226 (G.kd (a := 113) (by decide) (by decide) (k := 12) rfl)]
  refine gm_sR G (by decide) ?_
  intro r G
  rw [k144_229, k144_230, k144_232 (by decide), show ix (104 : Int32) = 104 from rfl, G.mX]
  refine gm_nw G rfl rfl ?_
  intro h j r E G
  rw [k144_234 (G.kd (a := 113) (by decide) (by decide) (k := 12) rfl)]
  refine gm_sR G (by decide) ?_
  intro r G
  rw [k144_237, k144_238 (G.kd (a := 113) (by decide) (by decide) (k := 12) rfl), G.rf (a := 113) (i := 3) (k := 115) (by decide) (by decide) (by decide +kernel), k144_241, k144_242, k144_243 (G.kd (a := 115) (by decide) (by decide) (k := 13) rfl) (G.ib (a := 115) (by decide) (by decide) (by decide)) (by decide), show ix (0 : Int32) = 0 from rfl]
  refine gm_sI G (by decide) ?_
  intro h G
  rw [k144_244, k144_245, k144_246, k144_247, k144_249, if_neg (by decide), k144_252, k144_253 (G.kd (a := 113) (by decide) (by decide) (k := 12) rfl), G.rf (a := 113) (i := 35) (k := 133) (by decide) (by decide) (by decide +kernel), k144_256, k144_257, k144_258 (G.kd (a := 133) (by decide) (by decide) (k := 13) rfl) (G.ib (a := 133) (by decide) (by decide) (by decide)) (by decide), show ix (0 : Int32) = 0 from rfl]
  refine gm_sI G (by decide) ?_
  intro h G
  rw [k144_259, show (0 : Int32) + 1 = 1 from rfl, k144_262, k144_246, k144_247, k144_249, if_neg (by decide), k144_252, k144_253 (G.kd (a := 113) (by decide) (by decide) (k := 12) rfl), G.rf (a := 113) (i := 35) (k := 133) (by decide) (by decide) (by decide +kernel), k144_256, k144_257, k144_258 (G.kd (a := 133) (by decide) (by decide) (k := 13) rfl) (G.ib (a := 133) (by decide) (by decide) (by decide)) (by decide), show ix (1 : Int32) = 1 from rfl]
  refine gm_sI G (by decide) ?_
  intro h G
  rw [k144_259, show (1 : Int32) + 1 = 2 from rfl, k144_262, k144_246, k144_247, k144_249, if_neg (by decide), k144_252, k144_253 (G.kd (a := 113) (by decide) (by decide) (k := 12) rfl), G.rf (a := 113) (i := 35) (k := 133) (by decide) (by decide) (by decide +kernel), k144_256, k144_257, k144_258 (G.kd (a := 133) (by decide) (by decide) (k := 13) rfl) (G.ib (a := 133) (by decide) (by decide) (by decide)) (by decide), show ix (2 : Int32) = 2 from rfl]
  refine gm_sI G (by decide) ?_
  intro h G
  rw [k144_259, show (2 : Int32) + 1 = 3 from rfl, k144_262, k144_246, k144_247, k144_249, if_neg (by decide), k144_252, k144_253 (G.kd (a := 113) (by decide) (by decide) (k := 12) rfl), G.rf (a := 113) (i := 35) (k := 133) (by decide) (by decide) (by decide +kernel), k144_256, k144_257, k144_258 (G.kd (a := 133) (by decide) (by decide) (k := 13) rfl) (G.ib (a := 133) (by decide) (by decide) (by decide)) (by decide), show ix (3 : Int32) = 3 from rfl]
  refine gm_sI G (by decide) ?_
  intro h G
  rw [k144_259, show (3 : Int32) + 1 = 4 from rfl, k144_262, k144_246, k144_247, k144_249, if_neg (by decide), k144_252, k144_253 (G.kd (a := 113) (by decide) (by decide) (k := 12) rfl), G.rf (a := 113) (i := 35) (k := 133) (by decide) (by decide) (by decide +kernel), k144_256, k144_257, k144_258 (G.kd (a := 133) (by decide) (by decide) (k := 13) rfl) (G.ib (a := 133) (by decide) (by decide) (by decide)) (by decide), show ix (4 : Int32) = 4 from rfl]
  refine gm_sI G (by decide) ?_
  intro h G
  rw [k144_259, show (4 : Int32) + 1 = 5 from rfl, k144_262, k144_246, k144_247, k144_249, if_neg (by decide), k144_252, k144_253 (G.kd (a := 113) (by decide) (by decide) (k := 12) rfl), G.rf (a := 113) (i := 35) (k := 133) (by decide) (by decide) (by decide +kernel), k144_256, k144_257, k144_258 (G.kd (a := 133) (by decide) (by decide) (k := 13) rfl) (G.ib (a := 133) (by decide) (by decide) (by decide)) (by decide), show ix (5 : Int32) = 5 from rfl]
  refine gm_sI G (by decide) ?_
  intro h G
  rw [k144_259, show (5 : Int32) + 1 = 6 from rfl, k144_262, k144_246, k144_247, k144_249, if_pos (by decide), k144_265]
  exact hQ _ _ _ _ G
