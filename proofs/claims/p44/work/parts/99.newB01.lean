/-! ===== a constructor, piece 1 (gen_new.py) ===== -/
def rl_70_1 : List (Nat × Nat × Nat) := [(2, 1, 11), (11, 6, 18), (11, 5, 17), (11, 4, 16), (11, 3, 15), (11, 2, 14), (11, 1, 13), (11, 0, 12), (2, 0, 3), (3, 6, 10), (3, 5, 9), (3, 4, 8), (3, 3, 7), (3, 2, 6), (3, 1, 5), (3, 0, 4)]
def ih_70_1 : List (Nat × Nat × Int32) := [(11, 9, 5), (3, 9, 5)]
def rl_70_1e : List (Nat × Nat × Nat) := [(2, 4, 27), (27, 3, 31), (27, 2, 30), (27, 1, 29), (27, 0, 28), (2, 2, 19), (19, 6, 26), (19, 5, 25), (19, 4, 24), (19, 3, 23), (19, 2, 22), (19, 1, 21), (19, 0, 20), (2, 1, 11), (11, 6, 18), (11, 5, 17), (11, 4, 16), (11, 3, 15), (11, 2, 14), (11, 1, 13), (11, 0, 12), (2, 0, 3), (3, 6, 10), (3, 5, 9), (3, 4, 8), (3, 3, 7), (3, 2, 6), (3, 1, 5), (3, 0, 4)]
def ih_70_1e : List (Nat × Nat × Int32) := [(19, 9, 5), (11, 9, 5), (3, 9, 5)]
set_option maxRecDepth 20000 in
theorem n70_1 {f : FB} {d : Nat} {h : Hp} {j : Jp} {r : Rp} {E : EE} {Q : Option PV → Mem → Prop} (G : GM f 19 145 rl_70_1 ih_70_1 h j r E) (hQ : ∀ h j r E, GM f 32 587 rl_70_1e ih_70_1e h j r E → WP (d + 1) 70 48 [some (vr 2), none] [] (mm h j r E) Q) : WP (d + 1) 70 26 [some (vr 2), none] [] (mm h j r E) Q := by
  rw [k70_26, k70_27, G.mX]
  refine gm_nw G rfl rfl ?_
  intro h j r E G
  rw [k70_30, k70_31 (by decide) (G.klt (a := 19) (by decide) (by decide) (by decide)), k23_0, k23_1 (by decide) (G.klt (a := 19) (by decide) (by decide) (by decide)), k23_4, k23_5, k23_7 (by decide), show ix (8 : Int32) = 8 from rfl, G.mX]
  refine gm_nw G rfl rfl ?_
  intro h j r E G
  rw [k23_9 (G.kd (a := 19) (by decide) (by decide) (k := 4) rfl)]
  refine gm_sR G (by decide) ?_
  intro r G
  rw [k23_12, k23_13, k23_15 (by decide), show ix (8 : Int32) = 8 from rfl, G.mX]
  refine gm_nw G rfl rfl ?_
  intro h j r E G
  rw [k23_17 (G.kd (a := 19) (by decide) (by decide) (k := 4) rfl)]
  refine gm_sR G (by decide) ?_
  intro r G
  rw [k23_20, k23_21, k23_23 (by decide), show ix (8 : Int32) = 8 from rfl, G.mX]
  refine gm_nw G rfl rfl ?_
  intro h j r E G
  rw [k23_25 (G.kd (a := 19) (by decide) (by decide) (k := 4) rfl)]
  refine gm_sR G (by decide) ?_
  intro r G
  rw [k23_28, k23_29, k23_31 (by decide), show ix (8 : Int32) = 8 from rfl, G.mX]
  refine gm_nw G rfl rfl ?_
  intro h j r E G
  rw [k23_33 (G.kd (a := 19) (by decide) (by decide) (k := 4) rfl)]
  refine gm_sR G (by decide) ?_
  intro r G
  rw [k23_36, k23_37, k23_39 (by decide), show ix (8 : Int32) = 8 from rfl, G.mX]
  refine gm_nw G rfl rfl ?_
  intro h j r E G
  rw [k23_41 (G.kd (a := 19) (by decide) (by decide) (k := 4) rfl)]
  refine gm_sR G (by decide) ?_
  intro r G
  rw [k23_44, k23_45, k23_47 (by decide), show ix (8 : Int32) = 8 from rfl, G.mX]
  refine gm_nw G rfl rfl ?_
  intro h j r E G
  rw [k23_49 (G.kd (a := 19) (by decide) (by decide) (k := 4) rfl)]
  refine gm_sR G (by decide) ?_
  intro r G
  rw [k23_52, k23_53, k23_54 (by decide), show ix (5 : Int32) = 5 from rfl, G.mX]
  refine gm_nw G rfl rfl ?_
  intro h j r E G
  rw [k23_56 (G.kd (a := 19) (by decide) (by decide) (k := 4) rfl)]
  refine gm_sR G (by decide) ?_
  intro r G
  rw [k23_59, k23_60, k23_61 (G.kd (a := 19) (by decide) (by decide) (k := 4) rfl)]
  refine gm_sI G (by decide) ?_
  intro h G
  rw [k23_64]
  simp only [psh_n]
  rw [k70_34 (G.kd (a := 2) (by decide) (by decide) (k := 11) rfl)]
  refine gm_sR G (by decide) ?_
  intro r G
  rw [k70_37, k70_38, G.mX]
  refine gm_nw G rfl rfl ?_
  intro h j r E G
  rw [k70_41, k70_42 (by decide) (G.klt (a := 27) (by decide) (by decide) (by decide)), k7_0, k7_1 (by decide) (G.klt (a := 27) (by decide) (by decide) (by decide)), k7_4, k7_5, k7_7 (by decide), show ix (121 : Int32) = 121 from rfl, G.mX]
  refine gm_nw G rfl rfl ?_
  intro h j r E G
  rw [k7_9 (G.kd (a := 27) (by decide) (by decide) (k := 3) rfl)]
  refine gm_sR G (by decide) ?_
  intro r G
  rw [k7_12, k7_13, k7_15 (by decide), show ix (121 : Int32) = 121 from rfl, G.mX]
  refine gm_nw G rfl rfl ?_
  intro h j r E G
  rw [k7_17 (G.kd (a := 27) (by decide) (by decide) (k := 3) rfl)]
  refine gm_sR G (by decide) ?_
  intro r G
  rw [k7_20, k7_21, k7_23 (by decide), show ix (121 : Int32) = 121 from rfl, G.mX]
  refine gm_nw G rfl rfl ?_
  intro h j r E G
  rw [k7_25 (G.kd (a := 27) (by decide) (by decide) (k := 3) rfl)]
  refine gm_sR G (by decide) ?_
  intro r G
  rw [k7_28, k7_29, k7_31 (by decide), show ix (6 : Int32) = 6 from rfl, G.mX]
  refine gm_nw G rfl rfl ?_
  intro h j r E G
  rw [k7_33 (G.kd (a := 27) (by decide) (by decide) (k := 3) rfl)]
  refine gm_sR G (by decide) ?_
  intro r G
  rw [k7_36]
  simp only [psh_n]
  rw [k70_45 (G.kd (a := 2) (by decide) (by decide) (k := 11) rfl)]
  refine gm_sR G (by decide) ?_
  intro r G
  exact hQ _ _ _ _ G
