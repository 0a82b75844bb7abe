/-! ===== a constructor, piece 0 (gen_new.py) ===== -/
def rl_70_0 : List (Nat × Nat × Nat) := []
def ih_70_0 : List (Nat × Nat × Int32) := []
def rl_70_0e : List (Nat × Nat × Nat) := [(2, 1, 11), (11, 6, 18), (11, 5, 17), (11, 4, 16), (11, 3, 15), (11, 2, 14), (11, 1, 13), (11, 0, 12), (2, 0, 3), (3, 6, 10), (3, 5, 9), (3, 4, 8), (3, 3, 7), (3, 2, 6), (3, 1, 5), (3, 0, 4)]
def ih_70_0e : List (Nat × Nat × Int32) := [(11, 9, 5), (3, 9, 5)]
set_option maxRecDepth 20000 in
theorem n70_0 {f : FB} {d : Nat} {h : Hp} {j : Jp} {r : Rp} {E : EE} {Q : Option PV → Mem → Prop} (G : GM f 3 17 rl_70_0 ih_70_0 h j r E) (hQ : ∀ h j r E, GM f 19 145 rl_70_0e ih_70_0e h j r E → WP (d + 1) 70 26 [some (vr 2), none] [] (mm h j r E) Q) : WP (d + 1) 70 0 [some (vr 2), none] [] (mm h j r E) Q := by
  rw [k70_0, k70_1 (by decide) (G.klt (a := 2) (by decide) (by decide) (by decide)), k70_4, k70_5, G.mX]
  refine gm_nw G rfl rfl ?_
  intro h j r E G
  rw [k70_8, k70_9 (by decide) (G.klt (a := 3) (by decide) (by decide) (by decide)), k23_0, k23_1 (by decide) (G.klt (a := 3) (by decide) (by decide) (by decide)), k23_4, k23_5, k23_7 (by decide), show ix (8 : Int32) = 8 from rfl, G.mX]
  refine gm_nw G rfl rfl ?_
  intro h j r E G
  rw [k23_9 (G.kd (a := 3) (by decide) (by decide) (k := 4) rfl)]
  refine gm_sR G (by decide) ?_
  intro r G
  rw [k23_12, k23_13, k23_15 (by decide), show ix (8 : Int32) = 8 from rfl, G.mX]
  refine gm_nw G rfl rfl ?_
  intro h j r E G
  rw [k23_17 (G.kd (a := 3) (by decide) (by decide) (k := 4) rfl)]
  refine gm_sR G (by decide) ?_
  intro r G
  rw [k23_20, k23_21, k23_23 (by decide), show ix (8 : Int32) = 8 from rfl, G.mX]
  refine gm_nw G rfl rfl ?_
  intro h j r E G
  rw [k23_25 (G.kd (a := 3) (by decide) (by decide) (k := 4) rfl)]
  refine gm_sR G (by decide) ?_
  intro r G
  rw [k23_28, k23_29, k23_31 (by decide), show ix (8 : Int32) = 8 from rfl, G.mX]
  refine gm_nw G rfl rfl ?_
  intro h j r E G
  rw [k23_33 (G.kd (a := 3) (by decide) (by decide) (k := 4) rfl)]
  refine gm_sR G (by decide) ?_
  intro r G
  rw [k23_36, k23_37, k23_39 (by decide), show ix (8 : Int32) = 8 from rfl, G.mX]
  refine gm_nw G rfl rfl ?_
  intro h j r E G
  rw [k23_41 (G.kd (a := 3) (by decide) (by decide) (k := 4) rfl)]
  refine gm_sR G (by decide) ?_
  intro r G
  rw [k23_44, k23_45, k23_47 (by decide), show ix (8 : Int32) = 8 from rfl, G.mX]
  refine gm_nw G rfl rfl ?_
  intro h j r E G
  rw [k23_49 (G.kd (a := 3) (by decide) (by decide) (k := 4) rfl)]
  refine gm_sR G (by decide) ?_
  intro r G
  rw [k23_52, k23_53, k23_54 (by decide), show ix (5 : Int32) = 5 from rfl, G.mX]
  refine gm_nw G rfl rfl ?_
  intro h j r E G
  rw [k23_56 (G.kd (a := 3) (by decide) (by decide) (k := 4) rfl)]
  refine gm_sR G (by decide) ?_
  intro r G
  rw [k23_59, k23_60, k23_61 (G.kd (a := 3) (by decide) (by decide) (k := 4) rfl)]
  refine gm_sI G (by decide) ?_
  intro h G
  rw [k23_64]
  simp only [psh_n]
  rw [k70_12 (G.kd (a := 2) (by decide) (by decide) (k := 11) rfl)]
  refine gm_sR G (by decide) ?_
  intro r G
  rw [k70_15, k70_16, G.mX]
  refine gm_nw G rfl rfl ?_
  intro h j r E G
  rw [k70_19, k70_20 (by decide) (G.klt (a := 11) (by decide) (by decide) (by decide)), k23_0, k23_1 (by decide) (G.klt (a := 11) (by decide) (by decide) (by decide)), k23_4, k23_5, k23_7 (by decide), show ix (8 : Int32) = 8 from rfl, G.mX]
  refine gm_nw G rfl rfl ?_
  intro h j r E G
  rw [k23_9 (G.kd (a := 11) (by decide) (by decide) (k := 4) rfl)]
  refine gm_sR G (by decide) ?_
  intro r G
  rw [k23_12, k23_13, k23_15 (by decide), show ix (8 : Int32) = 8 from rfl, G.mX]
  refine gm_nw G rfl rfl ?_
  intro h j r E G
  rw [k23_17 (G.kd (a := 11) (by decide) (by decide) (k := 4) rfl)]
  refine gm_sR G (by decide) ?_
  intro r G
  rw [k23_20, k23_21, k23_23 (by decide), show ix (8 : Int32) = 8 from rfl, G.mX]
  refine gm_nw G rfl rfl ?_
  intro h j r E G
  rw [k23_25 (G.kd (a := 11) (by decide) (by decide) (k := 4) rfl)]
  refine gm_sR G (by decide) ?_
  intro r G
  rw [k23_28, k23_29, k23_31 (by decide), show ix (8 : Int32) = 8 from rfl, G.mX]
  refine gm_nw G rfl rfl ?_
  intro h j r E G
  rw [k23_33 (G.kd (a := 11) (by decide) (by decide) (k := 4) rfl)]
  refine gm_sR G (by decide) ?_
  intro r G
  rw [k23_36, k23_37, k23_39 (by decide), show ix (8 : Int32) = 8 from rfl, G.mX]
  refine gm_nw G rfl rfl ?_
  intro h j r E G
  rw [k23_41 (G.kd (a := 11) (by decide) (by decide) (k := 4) rfl)]
  refine gm_sR G (by decide) ?_
  intro r G
  rw [k23_44, k23_45, k23_47 (by decide), show ix (8 : Int32) = 8 from rfl, G.mX]
  refine gm_nw G rfl rfl ?_
  intro h j r E G
  rw [k23_49 (G.kd (a := 11) (by decide) (by decide) (k := 4) rfl)]
  refine gm_sR G (by decide) ?_
  intro r G
  rw [k23_52, k23_53, k23_54 (by decide), show ix (5 : Int32) = 5 from rfl, G.mX]
  refine gm_nw G rfl rfl ?_
  intro h j r E G
  rw [k23_56 (G.kd (a := 11) (by decide) (by decide) (k := 4) rfl)]
  refine gm_sR G (by decide) ?_
  intro r G
  rw [k23_59, k23_60, k23_61 (G.kd (a := 11) (by decide) (by decide) (k := 4) rfl)]
  refine gm_sI G (by decide) ?_
  intro h G
  rw [k23_64]
  simp only [psh_n]
  rw [k70_23 (G.kd (a := 2) (by decide) (by decide) (k := 11) rfl)]
  refine gm_sR G (by decide) ?_
  intro r G
  exact hQ _ _ _ _ G
