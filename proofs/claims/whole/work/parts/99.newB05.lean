/-! ===== a constructor, piece 5 (gen_new.py) ===== -/
def rl_144_5 : List (Nat × Nat × Nat) := [(100, 5, 111), (111, 0, 112), (100, 4, 109), (109, 0, 110), (100, 3, 107), (107, 0, 108), (100, 2, 105), (105, 0, 106), (100, 1, 103), (103, 0, 104), (100, 0, 101), (101, 0, 102), (2, 16, 100), (2, 15, 99), (2, 13, 98), (2, 12, 88)] ++ ((List.range 9).map (fun c => (88, c, 88 + 1 + c)) ++ ([(2, 11, 79)] ++ ((List.range 8).map (fun c => (79, c, 79 + 1 + c)) ++ ([(2, 8, 38)] ++ ((List.range 40).map (fun c => (38, c, 38 + 1 + c)) ++ ([(2, 6, 37), (2, 5, 32), (32, 3, 36), (32, 2, 35), (32, 1, 34), (32, 0, 33), (2, 4, 27), (27, 3, 31), (27, 2, 30), (27, 1, 29), (27, 0, 28), (2, 2, 19), (19, 6, 26), (19, 5, 25), (19, 4, 24), (19, 3, 23), (19, 2, 22), (19, 1, 21), (19, 0, 20), (2, 1, 11), (11, 6, 18), (11, 5, 17), (11, 4, 16), (11, 3, 15), (11, 2, 14), (11, 1, 13), (11, 0, 12), (2, 0, 3), (3, 6, 10), (3, 5, 9), (3, 4, 8), (3, 3, 7), (3, 2, 6), (3, 1, 5), (3, 0, 4)]))))))
def ih_144_5 : List (Nat × Nat × Int32) := [(111, 2, -1), (109, 2, -1), (107, 2, -1), (105, 2, -1), (103, 2, -1), (101, 2, -1), (19, 9, 5), (11, 9, 5), (3, 9, 5)]
def rl_144_5e : List (Nat × Nat × Nat) := [(113, 19, 124), (113, 18, 123), (113, 17, 122), (113, 16, 121), (113, 11, 120), (113, 10, 119), (113, 9, 118), (113, 8, 117), (113, 5, 116), (113, 3, 115), (113, 2, 114), (100, 5, 111), (111, 0, 112), (100, 4, 109), (109, 0, 110), (100, 3, 107), (107, 0, 108), (100, 2, 105), (105, 0, 106), (100, 1, 103), (103, 0, 104), (100, 0, 101), (101, 0, 102), (2, 16, 100), (2, 15, 99), (2, 13, 98), (2, 12, 88)] ++ ((List.range 9).map (fun c => (88, c, 88 + 1 + c)) ++ ([(2, 11, 79)] ++ ((List.range 8).map (fun c => (79, c, 79 + 1 + c)) ++ ([(2, 8, 38)] ++ ((List.range 40).map (fun c => (38, c, 38 + 1 + c)) ++ ([(2, 6, 37), (2, 5, 32), (32, 3, 36), (32, 2, 35), (32, 1, 34), (32, 0, 33), (2, 4, 27), (27, 3, 31), (27, 2, 30), (27, 1, 29), (27, 0, 28), (2, 2, 19), (19, 6, 26), (19, 5, 25), (19, 4, 24), (19, 3, 23), (19, 2, 22), (19, 1, 21), (19, 0, 20), (2, 1, 11), (11, 6, 18), (11, 5, 17), (11, 4, 16), (11, 3, 15), (11, 2, 14), (11, 1, 13), (11, 0, 12), (2, 0, 3), (3, 6, 10), (3, 5, 9), (3, 4, 8), (3, 3, 7), (3, 2, 6), (3, 1, 5), (3, 0, 4)]))))))
def ih_144_5e : List (Nat × Nat × Int32) := [(111, 2, -1), (109, 2, -1), (107, 2, -1), (105, 2, -1), (103, 2, -1), (101, 2, -1), (19, 9, 5), (11, 9, 5), (3, 9, 5)]
set_option maxRecDepth 20000 in
theorem n144_5 {d : Nat} {h : Hp} {j : Jp} {r : Rp} {E : EE} {Q : Option PV → Mem → Prop} (G : GM 114 4183 rl_144_5 ih_144_5 h j r E) (hQ : ∀ h j r E, GM 125 5116 rl_144_5e ih_144_5e h j r E → WP (d + 1) 144 93 [some (vr 113), none] [] (mm h j r E) Q) : WP (d + 1) 144 0 [some (vr 113), none] [] (mm h j r E) Q := by
  rw [k144_0, k144_1 (by decide) (G.klt (a := 113) (by decide) (by decide) (by decide)), k144_4, k144_5, k144_7 (by decide), show ix (48 : Int32) = 48 from rfl, G.mX]
  refine gm_nw G rfl rfl ?_
  intro h j r E G
  rw [k144_9 (G.kd (a := 113) (by decide) (by decide) (k := 12) rfl)]
  refine gm_sR G (by decide) ?_
  intro r G
  rw [k144_12, k144_13, k144_14 (by decide), show ix (2 : Int32) = 2 from rfl, G.mX]
  refine gm_nw G rfl rfl ?_
  intro h j r E G
  rw [k144_16 (G.kd (a := 113) (by decide) (by decide) (k := 12) rfl)]
  refine gm_sR G (by decide) ?_
  intro r G
  rw [k144_19, k144_20, k144_22 (by decide), show ix (120 : Int32) = 120 from rfl, G.mX]
  refine gm_nw G rfl rfl ?_
  intro h j r E G
  rw [k144_24 (G.kd (a := 113) (by decide) (by decide) (k := 12) rfl)]
  refine gm_sR G (by decide) ?_
  intro r G
  rw [k144_27, k144_28, k144_30 (by decide), show ix (60 : Int32) = 60 from rfl, G.mX]
  refine gm_nw G rfl rfl ?_
  intro h j r E G
  rw [k144_32 (G.kd (a := 113) (by decide) (by decide) (k := 12) rfl)]
  refine gm_sR G (by decide) ?_
  intro r G
  rw [k144_35, k144_36, k144_38 (by decide), show ix (60 : Int32) = 60 from rfl, G.mX]
  refine gm_nw G rfl rfl ?_
  intro h j r E G
  rw [k144_40 (G.kd (a := 113) (by decide) (by decide) (k := 12) rfl)]
  refine gm_sR G (by decide) ?_
  intro r G
  rw [k144_43, k144_44, k144_46 (by decide), show ix (60 : Int32) = 60 from rfl, G.mX]
  refine gm_nw G rfl rfl ?_
  intro h j r E G
  rw [k144_48 (G.kd (a := 113) (by decide) (by decide) (k := 12) rfl)]
  refine gm_sR G (by decide) ?_
  intro r G
  rw [k144_51, k144_52, k144_55 (by decide), show ix (200 : Int32) = 200 from rfl, G.mX]
  refine gm_nw G rfl rfl ?_
  intro h j r E G
  rw [k144_57 (G.kd (a := 113) (by decide) (by decide) (k := 12) rfl)]
  refine gm_sR G (by decide) ?_
  intro r G
  rw [k144_60, k144_61, k144_63 (by decide), show ix (61 : Int32) = 61 from rfl, G.mX]
  refine gm_nw G rfl rfl ?_
  intro h j r E G
  rw [k144_65 (G.kd (a := 113) (by decide) (by decide) (k := 12) rfl)]
  refine gm_sR G (by decide) ?_
  intro r G
  rw [k144_68, k144_69, k144_71 (by decide), show ix (61 : Int32) = 61 from rfl, G.mX]
  refine gm_nw G rfl rfl ?_
  intro h j r E G
  rw [k144_73 (G.kd (a := 113) (by decide) (by decide) (k := 12) rfl)]
  refine gm_sR G (by decide) ?_
  intro r G
  rw [k144_76, k144_77, k144_79 (by decide), show ix (61 : Int32) = 61 from rfl, G.mX]
  refine gm_nw G rfl rfl ?_
  intro h j r E G
  rw [k144_81 (G.kd (a := 113) (by decide) (by decide) (k := 12) rfl)]
  refine gm_sR G (by decide) ?_
  intro r G
  rw [k144_84, k144_85, k144_88 (by decide), show ix (200 : Int32) = 200 from rfl, G.mX]
  refine gm_nw G rfl rfl ?_
  intro h j r E G
  rw [k144_90 (G.kd (a := 113) (by decide) (by decide) (k := 12) rfl)]
  refine gm_sR G (by decide) ?_
  intro r G
  exact hQ _ _ _ _ G
