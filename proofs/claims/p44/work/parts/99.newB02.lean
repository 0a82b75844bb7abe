/-! ===== a constructor, piece 2 (gen_new.py) ===== -/
def rl_70_2 : List (Nat × Nat × Nat) := [(2, 4, 27), (27, 3, 31), (27, 2, 30), (27, 1, 29), (27, 0, 28), (2, 2, 19), (19, 6, 26), (19, 5, 25), (19, 4, 24), (19, 3, 23), (19, 2, 22), (19, 1, 21), (19, 0, 20), (2, 1, 11), (11, 6, 18), (11, 5, 17), (11, 4, 16), (11, 3, 15), (11, 2, 14), (11, 1, 13), (11, 0, 12), (2, 0, 3), (3, 6, 10), (3, 5, 9), (3, 4, 8), (3, 3, 7), (3, 2, 6), (3, 1, 5), (3, 0, 4)]
def ih_70_2 : List (Nat × Nat × Int32) := [(19, 9, 5), (11, 9, 5), (3, 9, 5)]
def rl_70_2e : List (Nat × Nat × Nat) := [(2, 13, 98), (2, 12, 88)] ++ ((List.range 9).map (fun c => (88, c, 88 + 1 + c)) ++ ([(2, 11, 79)] ++ ((List.range 8).map (fun c => (79, c, 79 + 1 + c)) ++ ([(2, 8, 38)] ++ ((List.range 40).map (fun c => (38, c, 38 + 1 + c)) ++ ([(2, 6, 37), (2, 5, 32), (32, 3, 36), (32, 2, 35), (32, 1, 34), (32, 0, 33), (2, 4, 27), (27, 3, 31), (27, 2, 30), (27, 1, 29), (27, 0, 28), (2, 2, 19), (19, 6, 26), (19, 5, 25), (19, 4, 24), (19, 3, 23), (19, 2, 22), (19, 1, 21), (19, 0, 20), (2, 1, 11), (11, 6, 18), (11, 5, 17), (11, 4, 16), (11, 3, 15), (11, 2, 14), (11, 1, 13), (11, 0, 12), (2, 0, 3), (3, 6, 10), (3, 5, 9), (3, 4, 8), (3, 3, 7), (3, 2, 6), (3, 1, 5), (3, 0, 4)]))))))
def ih_70_2e : List (Nat × Nat × Int32) := [(19, 9, 5), (11, 9, 5), (3, 9, 5)]
set_option maxRecDepth 20000 in
theorem n70_2 {f : FB} {d : Nat} {h : Hp} {j : Jp} {r : Rp} {E : EE} {Q : Option PV → Mem → Prop} (G : GM f 32 587 rl_70_2 ih_70_2 h j r E) (hQ : ∀ h j r E, GM f 99 3720 rl_70_2e ih_70_2e h j r E → WP (d + 1) 70 112 [some (vr 2), none] [] (mm h j r E) Q) : WP (d + 1) 70 48 [some (vr 2), none] [] (mm h j r E) Q := by
  rw [k70_48, k70_49, G.mX]
  refine gm_nw G rfl rfl ?_
  intro h j r E G
  rw [k70_52, k70_53 (by decide) (G.klt (a := 32) (by decide) (by decide) (by decide)), k7_0, k7_1 (by decide) (G.klt (a := 32) (by decide) (by decide) (by decide)), k7_4, k7_5, k7_7 (by decide), show ix (121 : Int32) = 121 from rfl, G.mX]
  refine gm_nw G rfl rfl ?_
  intro h j r E G
  rw [k7_9 (G.kd (a := 32) (by decide) (by decide) (k := 3) rfl)]
  refine gm_sR G (by decide) ?_
  intro r G
  rw [k7_12, k7_13, k7_15 (by decide), show ix (121 : Int32) = 121 from rfl, G.mX]
  refine gm_nw G rfl rfl ?_
  intro h j r E G
  rw [k7_17 (G.kd (a := 32) (by decide) (by decide) (k := 3) rfl)]
  refine gm_sR G (by decide) ?_
  intro r G
  rw [k7_20, k7_21, k7_23 (by decide), show ix (121 : Int32) = 121 from rfl, G.mX]
  refine gm_nw G rfl rfl ?_
  intro h j r E G
  rw [k7_25 (G.kd (a := 32) (by decide) (by decide) (k := 3) rfl)]
  refine gm_sR G (by decide) ?_
  intro r G
  rw [k7_28, k7_29, k7_31 (by decide), show ix (6 : Int32) = 6 from rfl, G.mX]
  refine gm_nw G rfl rfl ?_
  intro h j r E G
  rw [k7_33 (G.kd (a := 32) (by decide) (by decide) (k := 3) rfl)]
  refine gm_sR G (by decide) ?_
  intro r G
  rw [k7_36]
  simp only [psh_n]
  rw [k70_56 (G.kd (a := 2) (by decide) (by decide) (k := 11) rfl)]
  refine gm_sR G (by decide) ?_
  intro r G
  rw [k70_59, k70_60, k70_62 (by decide), show ix (120 : Int32) = 120 from rfl, G.mX]
  refine gm_nw G rfl rfl ?_
  intro h j r E G
  rw [k70_64 (G.kd (a := 2) (by decide) (by decide) (k := 11) rfl)]
  refine gm_sR G (by decide) ?_
  intro r G
  rw [k70_67, k70_68, k70_70, k70_71 (by decide) (by decide), show ix (40 : Int32) = 40 from rfl, show ix (4 : Int32) = 4 from rfl, G.mX]
  refine gm_nw2 G rfl rfl (by decide +kernel) ?_
  intro h j r E G
  rw [k70_75 (G.kd (a := 2) (by decide) (by decide) (k := 11) rfl)]
  refine gm_sR G (by decide) ?_
  intro r G
  rw [k70_78, k70_79, k70_81, k70_83 (by decide) (by decide), show ix (8 : Int32) = 8 from rfl, G.mX]
  refine gm_nw2 G rfl rfl (by decide +kernel) ?_
  intro h j r E G
  rw [k70_87 (G.kd (a := 2) (by decide) (by decide) (k := 11) rfl)]
  refine gm_sR G (by decide) ?_
  intro r G
  rw [k70_90, k70_91, k70_93, k70_96 (by decide) (by decide), show ix (9 : Int32) = 9 from rfl, show ix (256 : Int32) = 256 from rfl, G.mX]
  refine gm_nw2 G rfl rfl (by decide +kernel) ?_
  intro h j r E G
  rw [k70_100 (G.kd (a := 2) (by decide) (by decide) (k := 11) rfl)]
  refine gm_sR G (by decide) ?_
  intro r G
  rw [k70_103, k70_104, k70_106 (by decide), show ix (50 : Int32) = 50 from rfl, G.mX]
  refine gm_nw G rfl rfl ?_
  intro h j r E G
  rw [k70_109 (G.kd (a := 2) (by decide) (by decide) (k := 11) rfl)]
  refine gm_sR G (by decide) ?_
  intro r G
  exact hQ _ _ _ _ G
