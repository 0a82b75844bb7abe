/-! ===== the script's calls (gen_law.py) ===== -/
section GB
variable {d i L : Nat} {M : Mem} {Q : Option PV → Mem → Prop}
theorem g_least (hd : 60 ≤ d) (I : InvE M) (S : Scp L M) (hi : i + 6 ≤ L) (hL : L ≤ 3072) (nx : ∀ M', InvE M' → Scp L M' → WP (d + 1) 0 1496 [some (vr 1), some (vr 2), some (vr 113), some (vi (nI i))] [] M' Q) : WP (d + 1) 0 664 [some (vr 1), some (vr 2), some (vr 113), some (vi (nI i))] [] M Q := by
  obtain ⟨c2, c113, hX, _, _⟩ := I.ks
  have s1 := S.1
  have s2 := S.2
  have b1 : inb (nI i + 1) L = True := nIc (c := 1) hi hL (by decide)
  have b2 : inb (nI i + 2) L = True := nIc (c := 2) hi hL (by decide)
  obtain ⟨h, j, r, E, eM, I⟩ := I
  simp only [k0_664, k0_665, k0_666, k0_667, k0_668, k0_669, k0_670, k0_671, k0_672, k0_673, k0_674, k0_675, k0_678, k0_679, k0_680, k0_681, k0_682, k0_683, k0_684, k0_685, k0_686, k0_687, k0_688, k0_689, k0_692, k0_695, k0_696, psh_s, psh_n, z_n, z_i, z_r, z_l, Nat.reduceAdd, Nat.reduceLeDiff, s1, s2, c2, b1, b2]
  rw [eM]
  refine WP.mono (WP.sc (WP.deep (q_least I) hd) (by rw [← eM]; exact s1) (by rw [← eM]; omega)) ?_
  rw [← eM]
  intro v1 M1 ⟨B, f1⟩
  obtain ⟨a, rfl⟩ : ∃ a, v1 = some (vi a) := WP.val B (fun _ _ h => h.2.1)
  have S1 := S.go (by omega) f1
  have c113' := (f1.2.1 113 (by omega)).trans c113
  have t1 := S1.1
  have t2 := S1.2
  have t3 := f1.1
  simp only [k0_664, k0_665, k0_666, k0_667, k0_668, k0_669, k0_670, k0_671, k0_672, k0_673, k0_674, k0_675, k0_678, k0_679, k0_680, k0_681, k0_682, k0_683, k0_684, k0_685, k0_686, k0_687, k0_688, k0_689, k0_692, k0_695, k0_696, psh_s, psh_n, z_n, z_i, z_r, z_l, Nat.reduceAdd, Nat.reduceLeDiff, t1, t2, t3, c113', b1, b2]
  refine WP.mono (WP.sc (WP.deep B hd) t1 (Nat.le_trans (by omega) f1.2.2.2)) ?_
  intro v2 M2 ⟨⟨e2, _, I2⟩, f2⟩
  subst e2
  simp only [k0_664, k0_665, k0_666, k0_667, k0_668, k0_669, k0_670, k0_671, k0_672, k0_673, k0_674, k0_675, k0_678, k0_679, k0_680, k0_681, k0_682, k0_683, k0_684, k0_685, k0_686, k0_687, k0_688, k0_689, k0_692, k0_695, k0_696, psh_s, psh_n, eq_self, if_true]
  exact nx M2 I2 (S1.go (Nat.le_trans (by omega) f1.2.2.2) f2)
theorem g_bars (hd : 60 ≤ d) (I : InvE M) (S : Scp L M) (hi : i + 6 ≤ L) (hL : L ≤ 3072) (nx : ∀ M', InvE M' → Scp L M' → WP (d + 1) 0 1496 [some (vr 1), some (vr 2), some (vr 113), some (vi (nI i))] [] M' Q) : WP (d + 1) 0 697 [some (vr 1), some (vr 2), some (vr 113), some (vi (nI i))] [] M Q := by
  obtain ⟨c2, c113, hX, _, _⟩ := I.ks
  have s1 := S.1
  have s2 := S.2
  have b1 : inb (nI i + 1) L = True := nIc (c := 1) hi hL (by decide)
  have b2 : inb (nI i + 2) L = True := nIc (c := 2) hi hL (by decide)
  obtain ⟨h, j, r, E, eM, I⟩ := I
  simp only [k0_697, k0_698, k0_699, k0_700, k0_701, k0_702, k0_703, k0_704, k0_705, k0_706, k0_707, k0_708, k0_711, k0_712, k0_713, k0_714, k0_715, k0_716, k0_717, k0_718, k0_719, k0_720, k0_721, k0_722, k0_725, k0_728, k0_729, psh_s, psh_n, z_n, z_i, z_r, z_l, Nat.reduceAdd, Nat.reduceLeDiff, s1, s2, c2, b1, b2]
  rw [eM]
  refine WP.mono (WP.sc (WP.deep (q_bars I) hd) (by rw [← eM]; exact s1) (by rw [← eM]; omega)) ?_
  rw [← eM]
  intro v1 M1 ⟨B, f1⟩
  obtain ⟨a, rfl⟩ : ∃ a, v1 = some (vi a) := WP.val B (fun _ _ h => h.2.1)
  have S1 := S.go (by omega) f1
  have c113' := (f1.2.1 113 (by omega)).trans c113
  have t1 := S1.1
  have t2 := S1.2
  have t3 := f1.1
  simp only [k0_697, k0_698, k0_699, k0_700, k0_701, k0_702, k0_703, k0_704, k0_705, k0_706, k0_707, k0_708, k0_711, k0_712, k0_713, k0_714, k0_715, k0_716, k0_717, k0_718, k0_719, k0_720, k0_721, k0_722, k0_725, k0_728, k0_729, psh_s, psh_n, z_n, z_i, z_r, z_l, Nat.reduceAdd, Nat.reduceLeDiff, t1, t2, t3, c113', b1, b2]
  refine WP.mono (WP.sc (WP.deep B hd) t1 (Nat.le_trans (by omega) f1.2.2.2)) ?_
  intro v2 M2 ⟨⟨e2, _, I2⟩, f2⟩
  subst e2
  simp only [k0_697, k0_698, k0_699, k0_700, k0_701, k0_702, k0_703, k0_704, k0_705, k0_706, k0_707, k0_708, k0_711, k0_712, k0_713, k0_714, k0_715, k0_716, k0_717, k0_718, k0_719, k0_720, k0_721, k0_722, k0_725, k0_728, k0_729, psh_s, psh_n, eq_self, if_true]
  exact nx M2 I2 (S1.go (Nat.le_trans (by omega) f1.2.2.2) f2)
theorem g_stops (hd : 60 ≤ d) (I : InvE M) (S : Scp L M) (hi : i + 6 ≤ L) (hL : L ≤ 3072) (nx : ∀ M', InvE M' → Scp L M' → WP (d + 1) 0 1496 [some (vr 1), some (vr 2), some (vr 113), some (vi (nI i))] [] M' Q) : WP (d + 1) 0 730 [some (vr 1), some (vr 2), some (vr 113), some (vi (nI i))] [] M Q := by
  obtain ⟨c2, c113, hX, _, _⟩ := I.ks
  have s1 := S.1
  have s2 := S.2
  have b1 : inb (nI i + 1) L = True := nIc (c := 1) hi hL (by decide)
  have b2 : inb (nI i + 2) L = True := nIc (c := 2) hi hL (by decide)
  obtain ⟨h, j, r, E, eM, I⟩ := I
  simp only [k0_730, k0_731, k0_732, k0_733, k0_734, k0_735, k0_736, k0_737, k0_738, k0_739, k0_740, k0_741, k0_744, k0_745, k0_746, k0_747, k0_748, k0_749, k0_750, k0_751, k0_752, k0_753, k0_754, k0_755, k0_758, k0_761, k0_762, psh_s, psh_n, z_n, z_i, z_r, z_l, Nat.reduceAdd, Nat.reduceLeDiff, s1, s2, c2, b1, b2]
  rw [eM]
  refine WP.mono (WP.sc (WP.deep (q_stops I) hd) (by rw [← eM]; exact s1) (by rw [← eM]; omega)) ?_
  rw [← eM]
  intro v1 M1 ⟨B, f1⟩
  obtain ⟨a, rfl⟩ : ∃ a, v1 = some (vi a) := WP.val B (fun _ _ h => h.2.1)
  have S1 := S.go (by omega) f1
  have c113' := (f1.2.1 113 (by omega)).trans c113
  have t1 := S1.1
  have t2 := S1.2
  have t3 := f1.1
  simp only [k0_730, k0_731, k0_732, k0_733, k0_734, k0_735, k0_736, k0_737, k0_738, k0_739, k0_740, k0_741, k0_744, k0_745, k0_746, k0_747, k0_748, k0_749, k0_750, k0_751, k0_752, k0_753, k0_754, k0_755, k0_758, k0_761, k0_762, psh_s, psh_n, z_n, z_i, z_r, z_l, Nat.reduceAdd, Nat.reduceLeDiff, t1, t2, t3, c113', b1, b2]
  refine WP.mono (WP.sc (WP.deep B hd) t1 (Nat.le_trans (by omega) f1.2.2.2)) ?_
  intro v2 M2 ⟨⟨e2, _, I2⟩, f2⟩
  subst e2
  simp only [k0_730, k0_731, k0_732, k0_733, k0_734, k0_735, k0_736, k0_737, k0_738, k0_739, k0_740, k0_741, k0_744, k0_745, k0_746, k0_747, k0_748, k0_749, k0_750, k0_751, k0_752, k0_753, k0_754, k0_755, k0_758, k0_761, k0_762, psh_s, psh_n, eq_self, if_true]
  exact nx M2 I2 (S1.go (Nat.le_trans (by omega) f1.2.2.2) f2)
theorem g_judge (hd : 60 ≤ d) (I : InvE M) (S : Scp L M) (hi : i + 6 ≤ L) (hL : L ≤ 3072) (nx : ∀ M', InvE M' → Scp L M' → WP (d + 1) 0 1496 [some (vr 1), some (vr 2), some (vr 113), some (vi (nI i))] [] M' Q) : WP (d + 1) 0 763 [some (vr 1), some (vr 2), some (vr 113), some (vi (nI i))] [] M Q := by
  obtain ⟨c2, c113, hX, _, _⟩ := I.ks
  have s1 := S.1
  have s2 := S.2
  have b1 : inb (nI i + 1) L = True := nIc (c := 1) hi hL (by decide)
  have b2 : inb (nI i + 2) L = True := nIc (c := 2) hi hL (by decide)
  obtain ⟨h, j, r, E, eM, I⟩ := I
  simp only [k0_763, k0_764, k0_765, k0_766, k0_767, k0_768, k0_769, k0_770, k0_771, k0_772, k0_773, k0_774, k0_777, k0_778, k0_779, k0_780, k0_781, k0_782, k0_783, k0_784, k0_785, k0_786, k0_787, k0_788, k0_791, k0_794, k0_795, psh_s, psh_n, z_n, z_i, z_r, z_l, Nat.reduceAdd, Nat.reduceLeDiff, s1, s2, c2, b1, b2]
  rw [eM]
  refine WP.mono (WP.sc (WP.deep (q_judge I) hd) (by rw [← eM]; exact s1) (by rw [← eM]; omega)) ?_
  rw [← eM]
  intro v1 M1 ⟨B, f1⟩
  obtain ⟨a, rfl⟩ : ∃ a, v1 = some (vi a) := WP.val B (fun _ _ h => h.2.1)
  have S1 := S.go (by omega) f1
  have c113' := (f1.2.1 113 (by omega)).trans c113
  have t1 := S1.1
  have t2 := S1.2
  have t3 := f1.1
  simp only [k0_763, k0_764, k0_765, k0_766, k0_767, k0_768, k0_769, k0_770, k0_771, k0_772, k0_773, k0_774, k0_777, k0_778, k0_779, k0_780, k0_781, k0_782, k0_783, k0_784, k0_785, k0_786, k0_787, k0_788, k0_791, k0_794, k0_795, psh_s, psh_n, z_n, z_i, z_r, z_l, Nat.reduceAdd, Nat.reduceLeDiff, t1, t2, t3, c113', b1, b2]
  refine WP.mono (WP.sc (WP.deep B hd) t1 (Nat.le_trans (by omega) f1.2.2.2)) ?_
  intro v2 M2 ⟨⟨e2, _, I2⟩, f2⟩
  subst e2
  simp only [k0_763, k0_764, k0_765, k0_766, k0_767, k0_768, k0_769, k0_770, k0_771, k0_772, k0_773, k0_774, k0_777, k0_778, k0_779, k0_780, k0_781, k0_782, k0_783, k0_784, k0_785, k0_786, k0_787, k0_788, k0_791, k0_794, k0_795, psh_s, psh_n, eq_self, if_true]
  exact nx M2 I2 (S1.go (Nat.le_trans (by omega) f1.2.2.2) f2)
theorem g_fits (hd : 60 ≤ d) (I : InvE M) (S : Scp L M) (hi : i + 6 ≤ L) (hL : L ≤ 3072) (nx : ∀ M', InvE M' → Scp L M' → WP (d + 1) 0 1496 [some (vr 1), some (vr 2), some (vr 113), some (vi (nI i))] [] M' Q) : WP (d + 1) 0 796 [some (vr 1), some (vr 2), some (vr 113), some (vi (nI i))] [] M Q := by
  obtain ⟨c2, c113, hX, _, _⟩ := I.ks
  have s1 := S.1
  have s2 := S.2
  have b1 : inb (nI i + 1) L = True := nIc (c := 1) hi hL (by decide)
  have b2 : inb (nI i + 2) L = True := nIc (c := 2) hi hL (by decide)
  have b3 : inb (nI i + 3) L = True := nIc (c := 3) hi hL (by decide)
  obtain ⟨h, j, r, E, eM, I⟩ := I
  simp only [k0_796, k0_797, k0_798, k0_799, k0_800, k0_801, k0_802, k0_803, k0_804, k0_805, k0_806, k0_807, k0_808, k0_809, k0_810, k0_811, k0_812, k0_815, k0_816, k0_817, k0_818, k0_819, k0_820, k0_821, k0_822, k0_823, k0_824, k0_825, k0_826, k0_827, k0_828, k0_829, k0_830, k0_831, k0_834, k0_837, k0_838, psh_s, psh_n, z_n, z_i, z_r, z_l, Nat.reduceAdd, Nat.reduceLeDiff, s1, s2, c2, b1, b2, b3]
  rw [eM]
  refine WP.mono (WP.sc (WP.deep (q_fits I) hd) (by rw [← eM]; exact s1) (by rw [← eM]; omega)) ?_
  rw [← eM]
  intro v1 M1 ⟨B, f1⟩
  obtain ⟨a, rfl⟩ : ∃ a, v1 = some (vi a) := WP.val B (fun _ _ h => h.2.1)
  have S1 := S.go (by omega) f1
  have c113' := (f1.2.1 113 (by omega)).trans c113
  have t1 := S1.1
  have t2 := S1.2
  have t3 := f1.1
  simp only [k0_796, k0_797, k0_798, k0_799, k0_800, k0_801, k0_802, k0_803, k0_804, k0_805, k0_806, k0_807, k0_808, k0_809, k0_810, k0_811, k0_812, k0_815, k0_816, k0_817, k0_818, k0_819, k0_820, k0_821, k0_822, k0_823, k0_824, k0_825, k0_826, k0_827, k0_828, k0_829, k0_830, k0_831, k0_834, k0_837, k0_838, psh_s, psh_n, z_n, z_i, z_r, z_l, Nat.reduceAdd, Nat.reduceLeDiff, t1, t2, t3, c113', b1, b2, b3]
  refine WP.mono (WP.sc (WP.deep B hd) t1 (Nat.le_trans (by omega) f1.2.2.2)) ?_
  intro v2 M2 ⟨⟨e2, _, I2⟩, f2⟩
  subst e2
  simp only [k0_796, k0_797, k0_798, k0_799, k0_800, k0_801, k0_802, k0_803, k0_804, k0_805, k0_806, k0_807, k0_808, k0_809, k0_810, k0_811, k0_812, k0_815, k0_816, k0_817, k0_818, k0_819, k0_820, k0_821, k0_822, k0_823, k0_824, k0_825, k0_826, k0_827, k0_828, k0_829, k0_830, k0_831, k0_834, k0_837, k0_838, psh_s, psh_n, eq_self, if_true]
  exact nx M2 I2 (S1.go (Nat.le_trans (by omega) f1.2.2.2) f2)
theorem g_alike (hd : 60 ≤ d) (I : InvE M) (S : Scp L M) (hi : i + 6 ≤ L) (hL : L ≤ 3072) (nx : ∀ M', InvE M' → Scp L M' → WP (d + 1) 0 1496 [some (vr 1), some (vr 2), some (vr 113), some (vi (nI i))] [] M' Q) : WP (d + 1) 0 839 [some (vr 1), some (vr 2), some (vr 113), some (vi (nI i))] [] M Q := by
  obtain ⟨c2, c113, hX, _, _⟩ := I.ks
  have s1 := S.1
  have s2 := S.2
  obtain ⟨h, j, r, E, eM, I⟩ := I
  simp only [k0_839, k0_840, k0_843, k0_844, k0_847, k0_850, k0_851, psh_s, psh_n, z_n, z_i, z_r, z_l, Nat.reduceAdd, Nat.reduceLeDiff, s1, s2, c2]
  rw [eM]
  refine WP.mono (WP.sc (WP.deep (q_alike I) hd) (by rw [← eM]; exact s1) (by rw [← eM]; omega)) ?_
  rw [← eM]
  intro v1 M1 ⟨B, f1⟩
  obtain ⟨a, rfl⟩ : ∃ a, v1 = some (vi a) := WP.val B (fun _ _ h => h.2.1)
  have S1 := S.go (by omega) f1
  have c113' := (f1.2.1 113 (by omega)).trans c113
  have t1 := S1.1
  have t2 := S1.2
  have t3 := f1.1
  simp only [k0_839, k0_840, k0_843, k0_844, k0_847, k0_850, k0_851, psh_s, psh_n, z_n, z_i, z_r, z_l, Nat.reduceAdd, Nat.reduceLeDiff, t1, t2, t3, c113']
  refine WP.mono (WP.sc (WP.deep B hd) t1 (Nat.le_trans (by omega) f1.2.2.2)) ?_
  intro v2 M2 ⟨⟨e2, _, I2⟩, f2⟩
  subst e2
  simp only [k0_839, k0_840, k0_843, k0_844, k0_847, k0_850, k0_851, psh_s, psh_n, eq_self, if_true]
  exact nx M2 I2 (S1.go (Nat.le_trans (by omega) f1.2.2.2) f2)
theorem g_ring (hd : 60 ≤ d) (I : InvE M) (S : Scp L M) (hi : i + 6 ≤ L) (hL : L ≤ 3072) (nx : ∀ M', InvE M' → Scp L M' → WP (d + 1) 0 1496 [some (vr 1), some (vr 2), some (vr 113), some (vi (nI i))] [] M' Q) : WP (d + 1) 0 852 [some (vr 1), some (vr 2), some (vr 113), some (vi (nI i))] [] M Q := by
  obtain ⟨c2, c113, hX, _, _⟩ := I.ks
  have s1 := S.1
  have s2 := S.2
  have b1 : inb (nI i + 1) L = True := nIc (c := 1) hi hL (by decide)
  obtain ⟨h, j, r, E, eM, I⟩ := I
  simp only [k0_852, k0_853, k0_854, k0_855, k0_856, k0_857, k0_858, k0_861, k0_862, k0_863, k0_864, k0_865, k0_866, k0_867, k0_870, k0_873, k0_874, psh_s, psh_n, z_n, z_i, z_r, z_l, Nat.reduceAdd, Nat.reduceLeDiff, s1, s2, c2, b1]
  rw [eM]
  refine WP.mono (WP.sc (WP.deep (q_ring I) hd) (by rw [← eM]; exact s1) (by rw [← eM]; omega)) ?_
  rw [← eM]
  intro v1 M1 ⟨B, f1⟩
  obtain ⟨a, rfl⟩ : ∃ a, v1 = some (vi a) := WP.val B (fun _ _ h => h.2.1)
  have S1 := S.go (by omega) f1
  have c113' := (f1.2.1 113 (by omega)).trans c113
  have t1 := S1.1
  have t2 := S1.2
  have t3 := f1.1
  simp only [k0_852, k0_853, k0_854, k0_855, k0_856, k0_857, k0_858, k0_861, k0_862, k0_863, k0_864, k0_865, k0_866, k0_867, k0_870, k0_873, k0_874, psh_s, psh_n, z_n, z_i, z_r, z_l, Nat.reduceAdd, Nat.reduceLeDiff, t1, t2, t3, c113', b1]
  refine WP.mono (WP.sc (WP.deep B hd) t1 (Nat.le_trans (by omega) f1.2.2.2)) ?_
  intro v2 M2 ⟨⟨e2, _, I2⟩, f2⟩
  subst e2
  simp only [k0_852, k0_853, k0_854, k0_855, k0_856, k0_857, k0_858, k0_861, k0_862, k0_863, k0_864, k0_865, k0_866, k0_867, k0_870, k0_873, k0_874, psh_s, psh_n, eq_self, if_true]
  exact nx M2 I2 (S1.go (Nat.le_trans (by omega) f1.2.2.2) f2)
theorem g_byTurns (hd : 60 ≤ d) (I : InvE M) (S : Scp L M) (hi : i + 6 ≤ L) (hL : L ≤ 3072) (nx : ∀ M', InvE M' → Scp L M' → WP (d + 1) 0 1496 [some (vr 1), some (vr 2), some (vr 113), some (vi (nI i))] [] M' Q) : WP (d + 1) 0 875 [some (vr 1), some (vr 2), some (vr 113), some (vi (nI i))] [] M Q := by
  obtain ⟨c2, c113, hX, _, _⟩ := I.ks
  have s1 := S.1
  have s2 := S.2
  have b1 : inb (nI i + 1) L = True := nIc (c := 1) hi hL (by decide)
  have b2 : inb (nI i + 2) L = True := nIc (c := 2) hi hL (by decide)
  have b3 : inb (nI i + 3) L = True := nIc (c := 3) hi hL (by decide)
  obtain ⟨h, j, r, E, eM, I⟩ := I
  simp only [k0_875, k0_876, k0_877, k0_878, k0_879, k0_880, k0_881, k0_882, k0_883, k0_884, k0_885, k0_886, k0_887, k0_888, k0_889, k0_890, k0_891, k0_894, k0_895, k0_896, k0_897, k0_898, k0_899, k0_900, k0_901, k0_902, k0_903, k0_904, k0_905, k0_906, k0_907, k0_908, k0_909, k0_910, k0_913, k0_916, k0_917, psh_s, psh_n, z_n, z_i, z_r, z_l, Nat.reduceAdd, Nat.reduceLeDiff, s1, s2, c2, b1, b2, b3]
  rw [eM]
  refine WP.mono (WP.sc (WP.deep (q_byTurns I) hd) (by rw [← eM]; exact s1) (by rw [← eM]; omega)) ?_
  rw [← eM]
  intro v1 M1 ⟨B, f1⟩
  obtain ⟨a, rfl⟩ : ∃ a, v1 = some (vi a) := WP.val B (fun _ _ h => h.2.1)
  have S1 := S.go (by omega) f1
  have c113' := (f1.2.1 113 (by omega)).trans c113
  have t1 := S1.1
  have t2 := S1.2
  have t3 := f1.1
  simp only [k0_875, k0_876, k0_877, k0_878, k0_879, k0_880, k0_881, k0_882, k0_883, k0_884, k0_885, k0_886, k0_887, k0_888, k0_889, k0_890, k0_891, k0_894, k0_895, k0_896, k0_897, k0_898, k0_899, k0_900, k0_901, k0_902, k0_903, k0_904, k0_905, k0_906, k0_907, k0_908, k0_909, k0_910, k0_913, k0_916, k0_917, psh_s, psh_n, z_n, z_i, z_r, z_l, Nat.reduceAdd, Nat.reduceLeDiff, t1, t2, t3, c113', b1, b2, b3]
  refine WP.mono (WP.sc (WP.deep B hd) t1 (Nat.le_trans (by omega) f1.2.2.2)) ?_
  intro v2 M2 ⟨⟨e2, _, I2⟩, f2⟩
  subst e2
  simp only [k0_875, k0_876, k0_877, k0_878, k0_879, k0_880, k0_881, k0_882, k0_883, k0_884, k0_885, k0_886, k0_887, k0_888, k0_889, k0_890, k0_891, k0_894, k0_895, k0_896, k0_897, k0_898, k0_899, k0_900, k0_901, k0_902, k0_903, k0_904, k0_905, k0_906, k0_907, k0_908, k0_909, k0_910, k0_913, k0_916, k0_917, psh_s, psh_n, eq_self, if_true]
  exact nx M2 I2 (S1.go (Nat.le_trans (by omega) f1.2.2.2) f2)
theorem g_drawn (hd : 60 ≤ d) (I : InvE M) (S : Scp L M) (hi : i + 6 ≤ L) (hL : L ≤ 3072) (nx : ∀ M', InvE M' → Scp L M' → WP (d + 1) 0 1496 [some (vr 1), some (vr 2), some (vr 113), some (vi (nI i))] [] M' Q) : WP (d + 1) 0 918 [some (vr 1), some (vr 2), some (vr 113), some (vi (nI i))] [] M Q := by
  obtain ⟨c2, c113, hX, _, _⟩ := I.ks
  have s1 := S.1
  have s2 := S.2
  have b1 : inb (nI i + 1) L = True := nIc (c := 1) hi hL (by decide)
  have b2 : inb (nI i + 2) L = True := nIc (c := 2) hi hL (by decide)
  have b3 : inb (nI i + 3) L = True := nIc (c := 3) hi hL (by decide)
  obtain ⟨h, j, r, E, eM, I⟩ := I
  simp only [k0_918, k0_919, k0_920, k0_921, k0_922, k0_923, k0_924, k0_925, k0_926, k0_927, k0_928, k0_929, k0_930, k0_931, k0_932, k0_933, k0_934, k0_937, k0_938, k0_939, k0_940, k0_941, k0_942, k0_943, k0_944, k0_945, k0_946, k0_947, k0_948, k0_949, k0_950, k0_951, k0_952, k0_953, k0_956, k0_959, k0_960, psh_s, psh_n, z_n, z_i, z_r, z_l, Nat.reduceAdd, Nat.reduceLeDiff, s1, s2, c2, b1, b2, b3]
  rw [eM]
  refine WP.mono (WP.sc (WP.deep (q_drawn I) hd) (by rw [← eM]; exact s1) (by rw [← eM]; omega)) ?_
  rw [← eM]
  intro v1 M1 ⟨B, f1⟩
  obtain ⟨a, rfl⟩ : ∃ a, v1 = some (vi a) := WP.val B (fun _ _ h => h.2.1)
  have S1 := S.go (by omega) f1
  have c113' := (f1.2.1 113 (by omega)).trans c113
  have t1 := S1.1
  have t2 := S1.2
  have t3 := f1.1
  simp only [k0_918, k0_919, k0_920, k0_921, k0_922, k0_923, k0_924, k0_925, k0_926, k0_927, k0_928, k0_929, k0_930, k0_931, k0_932, k0_933, k0_934, k0_937, k0_938, k0_939, k0_940, k0_941, k0_942, k0_943, k0_944, k0_945, k0_946, k0_947, k0_948, k0_949, k0_950, k0_951, k0_952, k0_953, k0_956, k0_959, k0_960, psh_s, psh_n, z_n, z_i, z_r, z_l, Nat.reduceAdd, Nat.reduceLeDiff, t1, t2, t3, c113', b1, b2, b3]
  refine WP.mono (WP.sc (WP.deep B hd) t1 (Nat.le_trans (by omega) f1.2.2.2)) ?_
  intro v2 M2 ⟨⟨e2, _, I2⟩, f2⟩
  subst e2
  simp only [k0_918, k0_919, k0_920, k0_921, k0_922, k0_923, k0_924, k0_925, k0_926, k0_927, k0_928, k0_929, k0_930, k0_931, k0_932, k0_933, k0_934, k0_937, k0_938, k0_939, k0_940, k0_941, k0_942, k0_943, k0_944, k0_945, k0_946, k0_947, k0_948, k0_949, k0_950, k0_951, k0_952, k0_953, k0_956, k0_959, k0_960, psh_s, psh_n, eq_self, if_true]
  exact nx M2 I2 (S1.go (Nat.le_trans (by omega) f1.2.2.2) f2)
theorem g_hour (hd : 60 ≤ d) (I : InvE M) (S : Scp L M) (hi : i + 6 ≤ L) (hL : L ≤ 3072) (nx : ∀ M', InvE M' → Scp L M' → WP (d + 1) 0 1496 [some (vr 1), some (vr 2), some (vr 113), some (vi (nI i))] [] M' Q) : WP (d + 1) 0 961 [some (vr 1), some (vr 2), some (vr 113), some (vi (nI i))] [] M Q := by
  obtain ⟨c2, c113, hX, _, _⟩ := I.ks
  have s1 := S.1
  have s2 := S.2
  obtain ⟨h, j, r, E, eM, I⟩ := I
  simp only [k0_961, k0_962, k0_965, k0_966, k0_969, k0_972, k0_973, psh_s, psh_n, z_n, z_i, z_r, z_l, Nat.reduceAdd, Nat.reduceLeDiff, s1, s2, c2]
  rw [eM]
  refine WP.mono (WP.sc (WP.deep (q_hour I) hd) (by rw [← eM]; exact s1) (by rw [← eM]; omega)) ?_
  rw [← eM]
  intro v1 M1 ⟨B, f1⟩
  obtain ⟨a, rfl⟩ : ∃ a, v1 = some (vi a) := WP.val B (fun _ _ h => h.2.1)
  have S1 := S.go (by omega) f1
  have c113' := (f1.2.1 113 (by omega)).trans c113
  have t1 := S1.1
  have t2 := S1.2
  have t3 := f1.1
  simp only [k0_961, k0_962, k0_965, k0_966, k0_969, k0_972, k0_973, psh_s, psh_n, z_n, z_i, z_r, z_l, Nat.reduceAdd, Nat.reduceLeDiff, t1, t2, t3, c113']
  refine WP.mono (WP.sc (WP.deep B hd) t1 (Nat.le_trans (by omega) f1.2.2.2)) ?_
  intro v2 M2 ⟨⟨e2, _, I2⟩, f2⟩
  subst e2
  simp only [k0_961, k0_962, k0_965, k0_966, k0_969, k0_972, k0_973, psh_s, psh_n, eq_self, if_true]
  exact nx M2 I2 (S1.go (Nat.le_trans (by omega) f1.2.2.2) f2)
theorem g_lends (hd : 60 ≤ d) (I : InvE M) (S : Scp L M) (hi : i + 6 ≤ L) (hL : L ≤ 3072) (nx : ∀ M', InvE M' → Scp L M' → WP (d + 1) 0 1496 [some (vr 1), some (vr 2), some (vr 113), some (vi (nI i))] [] M' Q) : WP (d + 1) 0 974 [some (vr 1), some (vr 2), some (vr 113), some (vi (nI i))] [] M Q := by
  obtain ⟨c2, c113, hX, _, _⟩ := I.ks
  have s1 := S.1
  have s2 := S.2
  have b1 : inb (nI i + 1) L = True := nIc (c := 1) hi hL (by decide)
  have b2 : inb (nI i + 2) L = True := nIc (c := 2) hi hL (by decide)
  obtain ⟨h, j, r, E, eM, I⟩ := I
  simp only [k0_974, k0_975, k0_976, k0_977, k0_978, k0_979, k0_980, k0_981, k0_982, k0_983, k0_984, k0_985, k0_988, k0_989, k0_990, k0_991, k0_992, k0_993, k0_994, k0_995, k0_996, k0_997, k0_998, k0_999, k0_1002, k0_1005, k0_1006, psh_s, psh_n, z_n, z_i, z_r, z_l, Nat.reduceAdd, Nat.reduceLeDiff, s1, s2, c2, b1, b2]
  rw [eM]
  refine WP.mono (WP.sc (WP.deep (q_lends I) hd) (by rw [← eM]; exact s1) (by rw [← eM]; omega)) ?_
  rw [← eM]
  intro v1 M1 ⟨B, f1⟩
  obtain ⟨a, rfl⟩ : ∃ a, v1 = some (vi a) := WP.val B (fun _ _ h => h.2.1)
  have S1 := S.go (by omega) f1
  have c113' := (f1.2.1 113 (by omega)).trans c113
  have t1 := S1.1
  have t2 := S1.2
  have t3 := f1.1
  simp only [k0_974, k0_975, k0_976, k0_977, k0_978, k0_979, k0_980, k0_981, k0_982, k0_983, k0_984, k0_985, k0_988, k0_989, k0_990, k0_991, k0_992, k0_993, k0_994, k0_995, k0_996, k0_997, k0_998, k0_999, k0_1002, k0_1005, k0_1006, psh_s, psh_n, z_n, z_i, z_r, z_l, Nat.reduceAdd, Nat.reduceLeDiff, t1, t2, t3, c113', b1, b2]
  refine WP.mono (WP.sc (WP.deep B hd) t1 (Nat.le_trans (by omega) f1.2.2.2)) ?_
  intro v2 M2 ⟨⟨e2, _, I2⟩, f2⟩
  subst e2
  simp only [k0_974, k0_975, k0_976, k0_977, k0_978, k0_979, k0_980, k0_981, k0_982, k0_983, k0_984, k0_985, k0_988, k0_989, k0_990, k0_991, k0_992, k0_993, k0_994, k0_995, k0_996, k0_997, k0_998, k0_999, k0_1002, k0_1005, k0_1006, psh_s, psh_n, eq_self, if_true]
  exact nx M2 I2 (S1.go (Nat.le_trans (by omega) f1.2.2.2) f2)
theorem g_over (hd : 60 ≤ d) (I : InvE M) (S : Scp L M) (hi : i + 6 ≤ L) (hL : L ≤ 3072) (nx : ∀ M', InvE M' → Scp L M' → WP (d + 1) 0 1496 [some (vr 1), some (vr 2), some (vr 113), some (vi (nI i))] [] M' Q) : WP (d + 1) 0 1007 [some (vr 1), some (vr 2), some (vr 113), some (vi (nI i))] [] M Q := by
  obtain ⟨c2, c113, hX, _, _⟩ := I.ks
  have s1 := S.1
  have s2 := S.2
  have b1 : inb (nI i + 1) L = True := nIc (c := 1) hi hL (by decide)
  obtain ⟨h, j, r, E, eM, I⟩ := I
  simp only [k0_1007, k0_1008, k0_1009, k0_1010, k0_1011, k0_1012, k0_1013, k0_1016, k0_1017, k0_1018, k0_1019, k0_1020, k0_1021, k0_1022, k0_1025, k0_1028, k0_1029, psh_s, psh_n, z_n, z_i, z_r, z_l, Nat.reduceAdd, Nat.reduceLeDiff, s1, s2, c2, b1]
  rw [eM]
  refine WP.mono (WP.sc (WP.deep (q_over I) hd) (by rw [← eM]; exact s1) (by rw [← eM]; omega)) ?_
  rw [← eM]
  intro v1 M1 ⟨B, f1⟩
  obtain ⟨a, rfl⟩ : ∃ a, v1 = some (vi a) := WP.val B (fun _ _ h => h.2.1)
  have S1 := S.go (by omega) f1
  have c113' := (f1.2.1 113 (by omega)).trans c113
  have t1 := S1.1
  have t2 := S1.2
  have t3 := f1.1
  simp only [k0_1007, k0_1008, k0_1009, k0_1010, k0_1011, k0_1012, k0_1013, k0_1016, k0_1017, k0_1018, k0_1019, k0_1020, k0_1021, k0_1022, k0_1025, k0_1028, k0_1029, psh_s, psh_n, z_n, z_i, z_r, z_l, Nat.reduceAdd, Nat.reduceLeDiff, t1, t2, t3, c113', b1]
  refine WP.mono (WP.sc (WP.deep B hd) t1 (Nat.le_trans (by omega) f1.2.2.2)) ?_
  intro v2 M2 ⟨⟨e2, _, I2⟩, f2⟩
  subst e2
  simp only [k0_1007, k0_1008, k0_1009, k0_1010, k0_1011, k0_1012, k0_1013, k0_1016, k0_1017, k0_1018, k0_1019, k0_1020, k0_1021, k0_1022, k0_1025, k0_1028, k0_1029, psh_s, psh_n, eq_self, if_true]
  exact nx M2 I2 (S1.go (Nat.le_trans (by omega) f1.2.2.2) f2)
theorem g_led (hd : 60 ≤ d) (I : InvE M) (S : Scp L M) (hi : i + 6 ≤ L) (hL : L ≤ 3072) (nx : ∀ M', InvE M' → Scp L M' → WP (d + 1) 0 1496 [some (vr 1), some (vr 2), some (vr 113), some (vi (nI i))] [] M' Q) : WP (d + 1) 0 1030 [some (vr 1), some (vr 2), some (vr 113), some (vi (nI i))] [] M Q := by
  obtain ⟨c2, c113, hX, _, _⟩ := I.ks
  have s1 := S.1
  have s2 := S.2
  have b1 : inb (nI i + 1) L = True := nIc (c := 1) hi hL (by decide)
  obtain ⟨h, j, r, E, eM, I⟩ := I
  simp only [k0_1030, k0_1031, k0_1032, k0_1033, k0_1034, k0_1035, k0_1036, k0_1039, k0_1040, k0_1041, k0_1042, k0_1043, k0_1044, k0_1045, k0_1048, k0_1051, k0_1052, psh_s, psh_n, z_n, z_i, z_r, z_l, Nat.reduceAdd, Nat.reduceLeDiff, s1, s2, c2, b1]
  rw [eM]
  refine WP.mono (WP.sc (WP.deep (q_led I) hd) (by rw [← eM]; exact s1) (by rw [← eM]; omega)) ?_
  rw [← eM]
  intro v1 M1 ⟨B, f1⟩
  obtain ⟨a, rfl⟩ : ∃ a, v1 = some (vi a) := WP.val B (fun _ _ h => h.2.1)
  have S1 := S.go (by omega) f1
  have c113' := (f1.2.1 113 (by omega)).trans c113
  have t1 := S1.1
  have t2 := S1.2
  have t3 := f1.1
  simp only [k0_1030, k0_1031, k0_1032, k0_1033, k0_1034, k0_1035, k0_1036, k0_1039, k0_1040, k0_1041, k0_1042, k0_1043, k0_1044, k0_1045, k0_1048, k0_1051, k0_1052, psh_s, psh_n, z_n, z_i, z_r, z_l, Nat.reduceAdd, Nat.reduceLeDiff, t1, t2, t3, c113', b1]
  refine WP.mono (WP.sc (WP.deep B hd) t1 (Nat.le_trans (by omega) f1.2.2.2)) ?_
  intro v2 M2 ⟨⟨e2, _, I2⟩, f2⟩
  subst e2
  simp only [k0_1030, k0_1031, k0_1032, k0_1033, k0_1034, k0_1035, k0_1036, k0_1039, k0_1040, k0_1041, k0_1042, k0_1043, k0_1044, k0_1045, k0_1048, k0_1051, k0_1052, psh_s, psh_n, eq_self, if_true]
  exact nx M2 I2 (S1.go (Nat.le_trans (by omega) f1.2.2.2) f2)
theorem g_image (hd : 60 ≤ d) (I : InvE M) (S : Scp L M) (hi : i + 6 ≤ L) (hL : L ≤ 3072) (nx : ∀ M', InvE M' → Scp L M' → WP (d + 1) 0 1496 [some (vr 1), some (vr 2), some (vr 113), some (vi (nI i))] [] M' Q) : WP (d + 1) 0 1053 [some (vr 1), some (vr 2), some (vr 113), some (vi (nI i))] [] M Q := by
  obtain ⟨c2, c113, hX, _, _⟩ := I.ks
  have s1 := S.1
  have s2 := S.2
  obtain ⟨h, j, r, E, eM, I⟩ := I
  simp only [k0_1053, k0_1054, k0_1057, k0_1058, k0_1061, k0_1064, k0_1065, psh_s, psh_n, z_n, z_i, z_r, z_l, Nat.reduceAdd, Nat.reduceLeDiff, s1, s2, c2]
  rw [eM]
  refine WP.mono (WP.sc (WP.deep (q_image I) hd) (by rw [← eM]; exact s1) (by rw [← eM]; omega)) ?_
  rw [← eM]
  intro v1 M1 ⟨B, f1⟩
  obtain ⟨a, rfl⟩ : ∃ a, v1 = some (vi a) := WP.val B (fun _ _ h => h.2.1)
  have S1 := S.go (by omega) f1
  have c113' := (f1.2.1 113 (by omega)).trans c113
  have t1 := S1.1
  have t2 := S1.2
  have t3 := f1.1
  simp only [k0_1053, k0_1054, k0_1057, k0_1058, k0_1061, k0_1064, k0_1065, psh_s, psh_n, z_n, z_i, z_r, z_l, Nat.reduceAdd, Nat.reduceLeDiff, t1, t2, t3, c113']
  refine WP.mono (WP.sc (WP.deep B hd) t1 (Nat.le_trans (by omega) f1.2.2.2)) ?_
  intro v2 M2 ⟨⟨e2, _, I2⟩, f2⟩
  subst e2
  simp only [k0_1053, k0_1054, k0_1057, k0_1058, k0_1061, k0_1064, k0_1065, psh_s, psh_n, eq_self, if_true]
  exact nx M2 I2 (S1.go (Nat.le_trans (by omega) f1.2.2.2) f2)
end GB
