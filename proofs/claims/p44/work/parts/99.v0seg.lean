/-! ===== the law's first line (gen_seg.py) ===== -/
theorem cal_v {c k nn ci yy r : Nat} {as rest st : List PV} {M : Mem} (hv : vN c k = some nn) (hp : pop nn [] st = some (as, vr r :: rest)) (hk : mK M r = ci) (ht : vT c k ci = some yy) (hf : fitC yy (vr r :: as) rest = some (yy, vr r :: as, rest)) : cal c (.invokevirtual k) st M = some (yy, vr r :: as, rest) := by
  simp only [cal, calV, hv, hp, hk, ht, hf]
section SE
variable {φ : Int32} {L : Nat} {xs : Nat → Int32}
def SegQ (ls : Loc1) (M : Mem) : Prop := ls = L0 ∧ mX M ≤ 120 ∧ mS M ≤ 10000
theorem seg0 : WPT 0 15 1500 0 L0 [] (M0 φ L xs) SegQ := by
  refine t_ex (i := .new 85) (n := 3) mC_0 (by decide) d0_0 rfl rfl (show ex 0 (mCl 0) (.new 85) 3 0 L0 [] (M0 φ L xs) = some (3, L0, [vr 2], (nw (M0 φ L xs) 11 0 17)) from rfl) ?_
  refine t_ex (i := .dup) (n := 1) mC_0 (by decide) d0_3 rfl rfl (show ex 0 (mCl 0) (.dup) 1 3 L0 [vr 2] (nw (M0 φ L xs) 11 0 17) = some (4, L0, [vr 2, vr 2], (nw (M0 φ L xs) 11 0 17)) from rfl) ?_
  refine t_call (d := 1499) (i := .invokespecial 161) (n := 3) (y' := 70) (as := [vr 2]) (rest := [vr 2]) mC_0 (by decide) d0_4 rfl (show cal (mCl 0) (.invokespecial 161) [vr 2, vr 2] (nw (M0 φ L xs) 11 0 17) = some (70, [vr 2], [vr 2]) from rfl) ?_
  show WP (1498 + 1) 70 0 [some (vr 2), none] [] (nw (M0 φ L xs) 11 0 17) _
  refine new_ob ?_
  intro h j r E O e1 e2 fb
  simp only [psh_n]
  refine t_call (d := 1499) (i := .invokevirtual 162) (n := 3) (y' := 126) (as := vr 2 :: []) (rest := []) mC_0 (by decide) d0_7 rfl (cal_v (c := mCl 0) (k := 162) (ci := 11) (as := []) (rest := []) rfl rfl O.k2 rfl rfl) ?_
  refine (a_undo0 (S := S00) rfl).go O ?_ (by decide)
  intro h1 j1 r1 O1 p1
  simp only [psh_s]
  refine t_ex (i := .bipush (-5)) (n := 2) mC_0 (by decide) d0_10 rfl rfl (show ex 0 (mCl 0) (.bipush (-5)) 2 10 L0 [vi (-5)] (mm h1 j1 r1 E) = some (12, L0, [vi (-5), vi (-5)], (mm h1 j1 r1 E)) from rfl) ?_
  refine t_ex (i := .if_icmp .ne 76) (n := 3) mC_0 (by decide) d0_12 rfl rfl (show ex 0 (mCl 0) (.if_icmp .ne 76) 3 12 L0 [vi (-5), vi (-5)] (mm h1 j1 r1 E) = some (15, L0, [], (mm h1 j1 r1 E)) from rfl) ?_
  exact t_stop ⟨rfl, by show E.2.2.1 ≤ 120; omega, by show E.2.2.2 ≤ 10000; omega⟩
theorem seg1 : WPT 0 28 1500 15 L0 [] (M0 φ L xs) SegQ := by
  refine t_ex (i := .new 85) (n := 3) mC_0 (by decide) d0_15 rfl rfl (show ex 0 (mCl 0) (.new 85) 3 15 L0 [] (M0 φ L xs) = some (18, L0, [vr 2], (nw (M0 φ L xs) 11 0 17)) from rfl) ?_
  refine t_ex (i := .dup) (n := 1) mC_0 (by decide) d0_18 rfl rfl (show ex 0 (mCl 0) (.dup) 1 18 L0 [vr 2] (nw (M0 φ L xs) 11 0 17) = some (19, L0, [vr 2, vr 2], (nw (M0 φ L xs) 11 0 17)) from rfl) ?_
  refine t_call (d := 1499) (i := .invokespecial 161) (n := 3) (y' := 70) (as := [vr 2]) (rest := [vr 2]) mC_0 (by decide) d0_19 rfl (show cal (mCl 0) (.invokespecial 161) [vr 2, vr 2] (nw (M0 φ L xs) 11 0 17) = some (70, [vr 2], [vr 2]) from rfl) ?_
  show WP (1498 + 1) 70 0 [some (vr 2), none] [] (nw (M0 φ L xs) 11 0 17) _
  refine new_ob ?_
  intro h j r E O e1 e2 fb
  simp only [psh_n]
  refine t_call (d := 1499) (i := .invokevirtual 165) (n := 3) (y' := 122) (as := vr 2 :: []) (rest := []) mC_0 (by decide) d0_22 rfl (cal_v (c := mCl 0) (k := 165) (ci := 11) (as := []) (rest := []) rfl rfl O.k2 rfl rfl) ?_
  refine (a_image (S := S00)).go O ?_ (by decide)
  intro h1 j1 r1 O1 p1
  simp only [psh_s]
  refine t_ex (i := .ifCond .ne 63) (n := 3) mC_0 (by decide) d0_25 rfl rfl (show ex 0 (mCl 0) (.ifCond .ne 63) 3 25 L0 [vi 0] (mm h1 j1 r1 E) = some (28, L0, [], (mm h1 j1 r1 E)) from rfl) ?_
  exact t_stop ⟨rfl, by show E.2.2.1 ≤ 120; omega, by show E.2.2.2 ≤ 10000; omega⟩
theorem seg2 : WPT 0 41 1500 28 L0 [] (M0 φ L xs) SegQ := by
  refine t_ex (i := .new 85) (n := 3) mC_0 (by decide) d0_28 rfl rfl (show ex 0 (mCl 0) (.new 85) 3 28 L0 [] (M0 φ L xs) = some (31, L0, [vr 2], (nw (M0 φ L xs) 11 0 17)) from rfl) ?_
  refine t_ex (i := .dup) (n := 1) mC_0 (by decide) d0_31 rfl rfl (show ex 0 (mCl 0) (.dup) 1 31 L0 [vr 2] (nw (M0 φ L xs) 11 0 17) = some (32, L0, [vr 2, vr 2], (nw (M0 φ L xs) 11 0 17)) from rfl) ?_
  refine t_call (d := 1499) (i := .invokespecial 161) (n := 3) (y' := 70) (as := [vr 2]) (rest := [vr 2]) mC_0 (by decide) d0_32 rfl (show cal (mCl 0) (.invokespecial 161) [vr 2, vr 2] (nw (M0 φ L xs) 11 0 17) = some (70, [vr 2], [vr 2]) from rfl) ?_
  show WP (1498 + 1) 70 0 [some (vr 2), none] [] (nw (M0 φ L xs) 11 0 17) _
  refine new_ob ?_
  intro h j r E O e1 e2 fb
  simp only [psh_n]
  refine t_call (d := 1499) (i := .invokevirtual 168) (n := 3) (y' := 118) (as := vr 2 :: []) (rest := []) mC_0 (by decide) d0_35 rfl (cal_v (c := mCl 0) (k := 168) (ci := 11) (as := []) (rest := []) rfl rfl O.k2 rfl rfl) ?_
  refine (a_hour (S := S00)).go O ?_ (by decide)
  intro h1 j1 r1 O1 p1
  simp only [psh_s]
  refine t_ex (i := .ifCond .ne 50) (n := 3) mC_0 (by decide) d0_38 rfl rfl (show ex 0 (mCl 0) (.ifCond .ne 50) 3 38 L0 [vi 0] (mm h1 j1 r1 E) = some (41, L0, [], (mm h1 j1 r1 E)) from rfl) ?_
  exact t_stop ⟨rfl, by show E.2.2.1 ≤ 120; omega, by show E.2.2.2 ≤ 10000; omega⟩
theorem seg3 : WPT 0 56 1500 41 L0 [] (M0 φ L xs) SegQ := by
  refine t_ex (i := .new 85) (n := 3) mC_0 (by decide) d0_41 rfl rfl (show ex 0 (mCl 0) (.new 85) 3 41 L0 [] (M0 φ L xs) = some (44, L0, [vr 2], (nw (M0 φ L xs) 11 0 17)) from rfl) ?_
  refine t_ex (i := .dup) (n := 1) mC_0 (by decide) d0_44 rfl rfl (show ex 0 (mCl 0) (.dup) 1 44 L0 [vr 2] (nw (M0 φ L xs) 11 0 17) = some (45, L0, [vr 2, vr 2], (nw (M0 φ L xs) 11 0 17)) from rfl) ?_
  refine t_call (d := 1499) (i := .invokespecial 161) (n := 3) (y' := 70) (as := [vr 2]) (rest := [vr 2]) mC_0 (by decide) d0_45 rfl (show cal (mCl 0) (.invokespecial 161) [vr 2, vr 2] (nw (M0 φ L xs) 11 0 17) = some (70, [vr 2], [vr 2]) from rfl) ?_
  show WP (1498 + 1) 70 0 [some (vr 2), none] [] (nw (M0 φ L xs) 11 0 17) _
  refine new_ob ?_
  intro h j r E O e1 e2 fb
  simp only [psh_n]
  refine t_ex (i := .bipush 35) (n := 2) mC_0 (by decide) d0_48 rfl rfl (show ex 0 (mCl 0) (.bipush 35) 2 48 L0 [vr 2] (mm h j r E) = some (50, L0, [vi 35, vr 2], (mm h j r E)) from rfl) ?_
  refine t_call (d := 1499) (i := .invokevirtual 90) (n := 3) (y' := 71) (as := vr 2 :: [vi 35]) (rest := []) mC_0 (by decide) d0_50 rfl (cal_v (c := mCl 0) (k := 90) (ci := 11) (as := [vi 35]) (rest := []) rfl rfl O.k2 rfl rfl) ?_
  refine (a_girl (S := S00) (p := 35) (by decide) (by decide)).go O ?_ (by decide)
  intro h1 j1 r1 O1 p1
  simp only [psh_s]
  refine t_ex (i := .ifCond .ne 35) (n := 3) mC_0 (by decide) d0_53 rfl rfl (show ex 0 (mCl 0) (.ifCond .ne 35) 3 53 L0 [vi 0] (mm h1 j1 r1 E) = some (56, L0, [], (mm h1 j1 r1 E)) from rfl) ?_
  exact t_stop ⟨rfl, by show E.2.2.1 ≤ 120; omega, by show E.2.2.2 ≤ 10000; omega⟩
theorem seg4 : WPT 0 73 1500 56 L0 [] (M0 φ L xs) SegQ := by
  refine t_ex (i := .new 85) (n := 3) mC_0 (by decide) d0_56 rfl rfl (show ex 0 (mCl 0) (.new 85) 3 56 L0 [] (M0 φ L xs) = some (59, L0, [vr 2], (nw (M0 φ L xs) 11 0 17)) from rfl) ?_
  refine t_ex (i := .dup) (n := 1) mC_0 (by decide) d0_59 rfl rfl (show ex 0 (mCl 0) (.dup) 1 59 L0 [vr 2] (nw (M0 φ L xs) 11 0 17) = some (60, L0, [vr 2, vr 2], (nw (M0 φ L xs) 11 0 17)) from rfl) ?_
  refine t_call (d := 1499) (i := .invokespecial 161) (n := 3) (y' := 70) (as := [vr 2]) (rest := [vr 2]) mC_0 (by decide) d0_60 rfl (show cal (mCl 0) (.invokespecial 161) [vr 2, vr 2] (nw (M0 φ L xs) 11 0 17) = some (70, [vr 2], [vr 2]) from rfl) ?_
  show WP (1498 + 1) 70 0 [some (vr 2), none] [] (nw (M0 φ L xs) 11 0 17) _
  refine new_ob ?_
  intro h j r E O e1 e2 fb
  simp only [psh_n]
  refine t_ex (i := .bipush 35) (n := 2) mC_0 (by decide) d0_63 rfl rfl (show ex 0 (mCl 0) (.bipush 35) 2 63 L0 [vr 2] (mm h j r E) = some (65, L0, [vi 35, vr 2], (mm h j r E)) from rfl) ?_
  refine t_ex (i := .bipush 9) (n := 2) mC_0 (by decide) d0_65 rfl rfl (show ex 0 (mCl 0) (.bipush 9) 2 65 L0 [vi 35, vr 2] (mm h j r E) = some (67, L0, [vi 9, vi 35, vr 2], (mm h j r E)) from rfl) ?_
  refine t_call (d := 1499) (i := .invokevirtual 94) (n := 3) (y' := 72) (as := vr 2 :: [vi 35, vi 9]) (rest := []) mC_0 (by decide) d0_67 rfl (cal_v (c := mCl 0) (k := 94) (ci := 11) (as := [vi 35, vi 9]) (rest := []) rfl rfl O.k2 rfl rfl) ?_
  refine (a_frog (S := S00) (p := 35) (q := 9) (by decide) (by decide) (by decide)).go O ?_ (by decide)
  intro h1 j1 r1 O1 p1
  simp only [psh_s]
  refine t_ex (i := .ifCond .ne 18) (n := 3) mC_0 (by decide) d0_70 rfl rfl (show ex 0 (mCl 0) (.ifCond .ne 18) 3 70 L0 [vi 0] (mm h1 j1 r1 E) = some (73, L0, [], (mm h1 j1 r1 E)) from rfl) ?_
  exact t_stop ⟨rfl, by show E.2.2.1 ≤ 120; omega, by show E.2.2.2 ≤ 10000; omega⟩
theorem seg5 : WPT 0 90 1500 73 L0 [] (M0 φ L xs) SegQ := by
  refine t_ex (i := .new 85) (n := 3) mC_0 (by decide) d0_73 rfl rfl (show ex 0 (mCl 0) (.new 85) 3 73 L0 [] (M0 φ L xs) = some (76, L0, [vr 2], (nw (M0 φ L xs) 11 0 17)) from rfl) ?_
  refine t_ex (i := .dup) (n := 1) mC_0 (by decide) d0_76 rfl rfl (show ex 0 (mCl 0) (.dup) 1 76 L0 [vr 2] (nw (M0 φ L xs) 11 0 17) = some (77, L0, [vr 2, vr 2], (nw (M0 φ L xs) 11 0 17)) from rfl) ?_
  refine t_call (d := 1499) (i := .invokespecial 161) (n := 3) (y' := 70) (as := [vr 2]) (rest := [vr 2]) mC_0 (by decide) d0_77 rfl (show cal (mCl 0) (.invokespecial 161) [vr 2, vr 2] (nw (M0 φ L xs) 11 0 17) = some (70, [vr 2], [vr 2]) from rfl) ?_
  show WP (1498 + 1) 70 0 [some (vr 2), none] [] (nw (M0 φ L xs) 11 0 17) _
  refine new_ob ?_
  intro h j r E O e1 e2 fb
  simp only [psh_n]
  refine t_ex (i := .iconst 0) (n := 1) mC_0 (by decide) d0_80 rfl rfl (show ex 0 (mCl 0) (.iconst 0) 1 80 L0 [vr 2] (mm h j r E) = some (81, L0, [vi 0, vr 2], (mm h j r E)) from rfl) ?_
  refine t_call (d := 1499) (i := .invokevirtual 171) (n := 3) (y' := 120) (as := vr 2 :: [vi 0]) (rest := []) mC_0 (by decide) d0_81 rfl (cal_v (c := mCl 0) (k := 171) (ci := 11) (as := [vi 0]) (rest := []) rfl rfl O.k2 rfl rfl) ?_
  refine (a_over_no (S := S00) (fr := 0) (by decide)).go O ?_ (by decide)
  intro h1 j1 r1 O1 p1
  simp only [psh_s]
  refine t_ex (i := .iconst (-1)) (n := 1) mC_0 (by decide) d0_84 rfl rfl (show ex 0 (mCl 0) (.iconst (-1)) 1 84 L0 [vi (-1)] (mm h1 j1 r1 E) = some (85, L0, [vi (-1), vi (-1)], (mm h1 j1 r1 E)) from rfl) ?_
  refine t_ex (i := .if_icmp .eq 5) (n := 3) mC_0 (by decide) d0_85 rfl rfl (show ex 0 (mCl 0) (.if_icmp .eq 5) 3 85 L0 [vi (-1), vi (-1)] (mm h1 j1 r1 E) = some (90, L0, [], (mm h1 j1 r1 E)) from rfl) ?_
  exact t_stop ⟨rfl, by show E.2.2.1 ≤ 120; omega, by show E.2.2.2 ≤ 10000; omega⟩
theorem segs_all : ∀ k, k < 6 → ∃ (f : Nat) (M' : Mem), runT 0 (segP (k + 1)) f 1500 (segP k) L0 [] (M0 φ L xs) = some (L0, M') ∧ mX M' ≤ 120 ∧ mS M' ≤ 10000 := by
  have fin : ∀ {a b : Nat}, WPT 0 b 1500 a L0 [] (M0 φ L xs) SegQ → ∃ (f : Nat) (M' : Mem), runT 0 b f 1500 a L0 [] (M0 φ L xs) = some (L0, M') ∧ mX M' ≤ 120 ∧ mS M' ≤ 10000 := by
    intro a b ⟨f, r, h, e, q⟩
    obtain ⟨l, M'⟩ := r
    have e : l = L0 := e
    subst e
    exact ⟨f, M', h, q⟩
  intro k hk
  match k, hk with
  | 0, _ => exact fin seg0
  | 1, _ => exact fin seg1
  | 2, _ => exact fin seg2
  | 3, _ => exact fin seg3
  | 4, _ => exact fin seg4
  | 5, _ => exact fin seg5
  | k + 6, hk => omega
end SE
