/-! ===== a constructor, piece 6 (gen_new.py) ===== -/
def rl_144_6 : List (Nat × Nat × Nat) := [(113, 19, 124), (113, 18, 123), (113, 17, 122), (113, 16, 121), (113, 11, 120), (113, 10, 119), (113, 9, 118), (113, 8, 117), (113, 5, 116), (113, 3, 115), (113, 2, 114), (100, 5, 111), (111, 0, 112), (100, 4, 109), (109, 0, 110), (100, 3, 107), (107, 0, 108), (100, 2, 105), (105, 0, 106), (100, 1, 103), (103, 0, 104), (100, 0, 101), (101, 0, 102), (2, 16, 100), (2, 15, 99), (2, 13, 98), (2, 12, 88)] ++ ((List.range 9).map (fun c => (88, c, 88 + 1 + c)) ++ ([(2, 11, 79)] ++ ((List.range 8).map (fun c => (79, c, 79 + 1 + c)) ++ ([(2, 8, 38)] ++ ((List.range 40).map (fun c => (38, c, 38 + 1 + c)) ++ ([(2, 6, 37), (2, 5, 32), (32, 3, 36), (32, 2, 35), (32, 1, 34), (32, 0, 33), (2, 4, 27), (27, 3, 31), (27, 2, 30), (27, 1, 29), (27, 0, 28), (2, 2, 19), (19, 6, 26), (19, 5, 25), (19, 4, 24), (19, 3, 23), (19, 2, 22), (19, 1, 21), (19, 0, 20), (2, 1, 11), (11, 6, 18), (11, 5, 17), (11, 4, 16), (11, 3, 15), (11, 2, 14), (11, 1, 13), (11, 0, 12), (2, 0, 3), (3, 6, 10), (3, 5, 9), (3, 4, 8), (3, 3, 7), (3, 2, 6), (3, 1, 5), (3, 0, 4)]))))))
def ih_144_6 : List (Nat × Nat × Int32) := [(111, 2, -1), (109, 2, -1), (107, 2, -1), (105, 2, -1), (103, 2, -1), (101, 2, -1), (19, 9, 5), (11, 9, 5), (3, 9, 5)]
def rl_144_6e : List (Nat × Nat × Nat) := [(113, 37, 135), (113, 36, 134), (113, 35, 133), (113, 34, 132), (113, 32, 131), (113, 30, 130), (113, 27, 129), (113, 26, 128), (113, 22, 127), (113, 21, 126), (113, 20, 125), (113, 19, 124), (113, 18, 123), (113, 17, 122), (113, 16, 121), (113, 11, 120), (113, 10, 119), (113, 9, 118), (113, 8, 117), (113, 5, 116), (113, 3, 115), (113, 2, 114), (100, 5, 111), (111, 0, 112), (100, 4, 109), (109, 0, 110), (100, 3, 107), (107, 0, 108), (100, 2, 105), (105, 0, 106), (100, 1, 103), (103, 0, 104), (100, 0, 101), (101, 0, 102), (2, 16, 100), (2, 15, 99), (2, 13, 98), (2, 12, 88)] ++ ((List.range 9).map (fun c => (88, c, 88 + 1 + c)) ++ ([(2, 11, 79)] ++ ((List.range 8).map (fun c => (79, c, 79 + 1 + c)) ++ ([(2, 8, 38)] ++ ((List.range 40).map (fun c => (38, c, 38 + 1 + c)) ++ ([(2, 6, 37), (2, 5, 32), (32, 3, 36), (32, 2, 35), (32, 1, 34), (32, 0, 33), (2, 4, 27), (27, 3, 31), (27, 2, 30), (27, 1, 29), (27, 0, 28), (2, 2, 19), (19, 6, 26), (19, 5, 25), (19, 4, 24), (19, 3, 23), (19, 2, 22), (19, 1, 21), (19, 0, 20), (2, 1, 11), (11, 6, 18), (11, 5, 17), (11, 4, 16), (11, 3, 15), (11, 2, 14), (11, 1, 13), (11, 0, 12), (2, 0, 3), (3, 6, 10), (3, 5, 9), (3, 4, 8), (3, 3, 7), (3, 2, 6), (3, 1, 5), (3, 0, 4)]))))))
def ih_144_6e : List (Nat × Nat × Int32) := [(111, 2, -1), (109, 2, -1), (107, 2, -1), (105, 2, -1), (103, 2, -1), (101, 2, -1), (19, 9, 5), (11, 9, 5), (3, 9, 5)]
set_option maxRecDepth 20000 in
theorem n144_6 {d : Nat} {h : Hp} {j : Jp} {r : Rp} {E : EE} {Q : Option PV → Mem → Prop} (G : GM 125 5116 rl_144_6 ih_144_6 h j r E) (hQ : ∀ h j r E, GM 136 5971 rl_144_6e ih_144_6e h j r E → WP (d + 1) 144 182 [some (vr 113), none] [] (mm h j r E) Q) : WP (d + 1) 144 93 [some (vr 113), none] [] (mm h j r E) Q := by
  rw [k144_93, k144_94, k144_97 (by decide), show ix (200 : Int32) = 200 from rfl, G.mX]
  refine gm_nw G rfl rfl ?_
  intro h j r E G
  rw [k144_99 (G.kd (a := 113) (by decide) (by decide) (k := 12) rfl)]
  refine gm_sR G (by decide) ?_
  intro r G
  rw [k144_102, k144_103, k144_105 (by decide), show ix (6 : Int32) = 6 from rfl, G.mX]
  refine gm_nw G rfl rfl ?_
  intro h j r E G
  rw [k144_107 (G.kd (a := 113) (by decide) (by decide) (k := 12) rfl)]
  refine gm_sR G (by decide) ?_
  intro r G
  rw [k144_110, k144_111, k144_112 (by decide), show ix (5 : Int32) = 5 from rfl, G.mX]
  refine gm_nw G rfl rfl ?_
  intro h j r E G
  rw [k144_114 (G.kd (a := 113) (by decide) (by decide) (k := 12) rfl)]
  refine gm_sR G (by decide) ?_
  intro r G
  rw [k144_117, k144_118, k144_120 (by decide), show ix (33 : Int32) = 33 from rfl, G.mX]
  refine gm_nw G rfl rfl ?_
  intro h j r E G
  rw [k144_122 (G.kd (a := 113) (by decide) (by decide) (k := 12) rfl)]
  refine gm_sR G (by decide) ?_
  intro r G
  rw [k144_125, k144_126, k144_127 (by decide), show ix (5 : Int32) = 5 from rfl, G.mX]
  refine gm_nw G rfl rfl ?_
  intro h j r E G
  rw [k144_129 (G.kd (a := 113) (by decide) (by decide) (k := 12) rfl)]
  refine gm_sR G (by decide) ?_
  intro r G
  rw [k144_132, k144_133, k144_136 (by decide), show ix (160 : Int32) = 160 from rfl, G.mX]
  refine gm_nw G rfl rfl ?_
  intro h j r E G
  rw [k144_138 (G.kd (a := 113) (by decide) (by decide) (k := 12) rfl)]
  refine gm_sR G (by decide) ?_
  intro r G
  rw [k144_141, k144_142, k144_144 (by decide), show ix (50 : Int32) = 50 from rfl, G.mX]
  refine gm_nw G rfl rfl ?_
  intro h j r E G
  rw [k144_146 (G.kd (a := 113) (by decide) (by decide) (k := 12) rfl)]
  refine gm_sR G (by decide) ?_
  intro r G
  rw [k144_149, k144_150, k144_152 (by decide), show ix (24 : Int32) = 24 from rfl, G.mX]
  refine gm_nw G rfl rfl ?_
  intro h j r E G
  rw [k144_154 (G.kd (a := 113) (by decide) (by decide) (k := 12) rfl)]
  refine gm_sR G (by decide) ?_
  intro r G
  rw [k144_157, k144_158, k144_160 (by decide), show ix (6 : Int32) = 6 from rfl, G.mX]
  refine gm_nw G rfl rfl ?_
  intro h j r E G
  rw [k144_162 (G.kd (a := 113) (by decide) (by decide) (k := 12) rfl)]
  refine gm_sR G (by decide) ?_
  intro r G
  rw [k144_165, k144_166, k144_168 (by decide), show ix (6 : Int32) = 6 from rfl, G.mX]
  refine gm_nw G rfl rfl ?_
  intro h j r E G
  rw [k144_170 (G.kd (a := 113) (by decide) (by decide) (k := 12) rfl)]
  refine gm_sR G (by decide) ?_
  intro r G
  rw [k144_173, k144_174, k144_177 (by decide), show ix (360 : Int32) = 360 from rfl, G.mX]
  refine gm_nw G rfl rfl ?_
  intro h j r E G
  rw [k144_179 (G.kd (a := 113) (by decide) (by decide) (k := 12) rfl)]
  refine gm_sR G (by decide) ?_
  intro r G
  exact hQ _ _ _ _ G
