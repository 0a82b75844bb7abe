/-! ===== a constructor, piece 4 (gen_new.py) ===== -/
def rl_70_4 : List (Nat × Nat × Nat) := [(100, 3, 107), (107, 0, 108), (100, 2, 105), (105, 0, 106), (100, 1, 103), (103, 0, 104), (100, 0, 101), (101, 0, 102), (2, 16, 100), (2, 15, 99), (2, 13, 98), (2, 12, 88)] ++ ((List.range 9).map (fun c => (88, c, 88 + 1 + c)) ++ ([(2, 11, 79)] ++ ((List.range 8).map (fun c => (79, c, 79 + 1 + c)) ++ ([(2, 8, 38)] ++ ((List.range 40).map (fun c => (38, c, 38 + 1 + c)) ++ ([(2, 6, 37), (2, 5, 32), (32, 3, 36), (32, 2, 35), (32, 1, 34), (32, 0, 33), (2, 4, 27), (27, 3, 31), (27, 2, 30), (27, 1, 29), (27, 0, 28), (2, 2, 19), (19, 6, 26), (19, 5, 25), (19, 4, 24), (19, 3, 23), (19, 2, 22), (19, 1, 21), (19, 0, 20), (2, 1, 11), (11, 6, 18), (11, 5, 17), (11, 4, 16), (11, 3, 15), (11, 2, 14), (11, 1, 13), (11, 0, 12), (2, 0, 3), (3, 6, 10), (3, 5, 9), (3, 4, 8), (3, 3, 7), (3, 2, 6), (3, 1, 5), (3, 0, 4)]))))))
def ih_70_4 : List (Nat × Nat × Int32) := [(107, 2, -1), (105, 2, -1), (103, 2, -1), (101, 2, -1), (19, 9, 5), (11, 9, 5), (3, 9, 5)]
def rl_70_4e : List (Nat × Nat × Nat) := [(100, 5, 111), (111, 0, 112), (100, 4, 109), (109, 0, 110), (100, 3, 107), (107, 0, 108), (100, 2, 105), (105, 0, 106), (100, 1, 103), (103, 0, 104), (100, 0, 101), (101, 0, 102), (2, 16, 100), (2, 15, 99), (2, 13, 98), (2, 12, 88)] ++ ((List.range 9).map (fun c => (88, c, 88 + 1 + c)) ++ ([(2, 11, 79)] ++ ((List.range 8).map (fun c => (79, c, 79 + 1 + c)) ++ ([(2, 8, 38)] ++ ((List.range 40).map (fun c => (38, c, 38 + 1 + c)) ++ ([(2, 6, 37), (2, 5, 32), (32, 3, 36), (32, 2, 35), (32, 1, 34), (32, 0, 33), (2, 4, 27), (27, 3, 31), (27, 2, 30), (27, 1, 29), (27, 0, 28), (2, 2, 19), (19, 6, 26), (19, 5, 25), (19, 4, 24), (19, 3, 23), (19, 2, 22), (19, 1, 21), (19, 0, 20), (2, 1, 11), (11, 6, 18), (11, 5, 17), (11, 4, 16), (11, 3, 15), (11, 2, 14), (11, 1, 13), (11, 0, 12), (2, 0, 3), (3, 6, 10), (3, 5, 9), (3, 4, 8), (3, 3, 7), (3, 2, 6), (3, 1, 5), (3, 0, 4)]))))))
def ih_70_4e : List (Nat × Nat × Int32) := [(111, 2, -1), (109, 2, -1), (107, 2, -1), (105, 2, -1), (103, 2, -1), (101, 2, -1), (19, 9, 5), (11, 9, 5), (3, 9, 5)]
set_option maxRecDepth 20000 in
theorem n70_4 {f : FB} {d : Nat} {h : Hp} {j : Jp} {r : Rp} {E : EE} {Q : Option PV → Mem → Prop} (G : GM f 109 4007 rl_70_4 ih_70_4 h j r E) (hQ : ∀ h j r E, GM f 113 4135 rl_70_4e ih_70_4e h j r E → Q none (mm h j r E)) : WP (d + 1) 70 150 [some (vr 2), some (vi 3)] [] (mm h j r E) Q := by
  rw [k70_150, show (3 : Int32) + 1 = 4 from rfl, k70_153, k70_131, k70_132, k70_134, if_neg (by decide), k70_137, k70_138 (G.kd (a := 2) (by decide) (by decide) (k := 11) rfl), G.rf (a := 2) (i := 16) (k := 100) (by decide) (by decide) (by decide +kernel), k70_141, k70_142, G.mX]
  refine gm_nw G rfl rfl ?_
  intro h j r E G
  rw [k70_145, k70_146 (by decide) (G.klt (a := 109) (by decide) (by decide) (by decide)), k58_0, k58_1 (by decide) (G.klt (a := 109) (by decide) (by decide) (by decide)), k58_4, k58_5, k58_7 (by decide), show ix (60 : Int32) = 60 from rfl, G.mX]
  refine gm_nw G rfl rfl ?_
  intro h j r E G
  rw [k58_9 (G.kd (a := 109) (by decide) (by decide) (k := 9) rfl)]
  refine gm_sR G (by decide) ?_
  intro r G
  rw [k58_12, k58_13, k58_14 (G.kd (a := 109) (by decide) (by decide) (k := 9) rfl)]
  refine gm_sI G (by decide) ?_
  intro h G
  rw [k58_17]
  simp only [psh_n]
  rw [k70_149 (G.ok (a := 100) (q := 109) (by decide) (by decide) (by decide) (by decide) rfl) (G.ib (a := 100) (by decide) (by decide) (by decide)) (by decide) (by decide), show ix (4 : Int32) = 4 from rfl]
  refine gm_sR G (by decide) ?_
  intro r G
  rw [k70_150, show (4 : Int32) + 1 = 5 from rfl, k70_153, k70_131, k70_132, k70_134, if_neg (by decide), k70_137, k70_138 (G.kd (a := 2) (by decide) (by decide) (k := 11) rfl), G.rf (a := 2) (i := 16) (k := 100) (by decide) (by decide) (by decide +kernel), k70_141, k70_142, G.mX]
  refine gm_nw G rfl rfl ?_
  intro h j r E G
  rw [k70_145, k70_146 (by decide) (G.klt (a := 111) (by decide) (by decide) (by decide)), k58_0, k58_1 (by decide) (G.klt (a := 111) (by decide) (by decide) (by decide)), k58_4, k58_5, k58_7 (by decide), show ix (60 : Int32) = 60 from rfl, G.mX]
  refine gm_nw G rfl rfl ?_
  intro h j r E G
  rw [k58_9 (G.kd (a := 111) (by decide) (by decide) (k := 9) rfl)]
  refine gm_sR G (by decide) ?_
  intro r G
  rw [k58_12, k58_13, k58_14 (G.kd (a := 111) (by decide) (by decide) (k := 9) rfl)]
  refine gm_sI G (by decide) ?_
  intro h G
  rw [k58_17]
  simp only [psh_n]
  rw [k70_149 (G.ok (a := 100) (q := 111) (by decide) (by decide) (by decide) (by decide) rfl) (G.ib (a := 100) (by decide) (by decide) (by decide)) (by decide) (by decide), show ix (5 : Int32) = 5 from rfl]
  refine gm_sR G (by decide) ?_
  intro r G
  rw [k70_150, show (5 : Int32) + 1 = 6 from rfl, k70_153, k70_131, k70_132, k70_134, if_pos (by decide), k70_156]
  exact hQ _ _ _ _ G
